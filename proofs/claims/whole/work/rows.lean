section
-- ===== PART A: goes FIRST, ahead of the names: the tables' words, and 'selects' of the private methods out of them =====
/-- a private method of a class that the tables say can be made, by its rows of tables_1 -/
def lw_okq (q : MethodName × Nat) : Prop := (q.1.cls ≠ "java/lang/invoke/MethodHandle" ∧ q.1.cls ≠ "java/lang/invoke/VarHandle") ∧ Cond.instantiable q.1.cls q.2 ∈ tables_1 ∧ Cond.privateMethod q.1 ∈ tables_1 ∧ Cond.instanceMethod q.1 ∈ tables_1
theorem lw_p0 : lw_okq (⟨"java/lang/Throwable", "fillInStackTrace", "(I)Ljava/lang/Throwable;"⟩, 6) := ⟨⟨by decide +kernel, by decide +kernel⟩, List.mem_of_getElem? (i := 441) (by decide +kernel), List.mem_of_getElem? (i := 439) (by decide +kernel), List.mem_of_getElem? (i := 440) (by decide +kernel)⟩
theorem lw_p1 : lw_okq (⟨"TailBlocks", "mixFile", "(JI)J"⟩, 7) := ⟨⟨by decide +kernel, by decide +kernel⟩, List.mem_of_getElem? (i := 20) (by decide +kernel), List.mem_of_getElem? (i := 507) (by decide +kernel), List.mem_of_getElem? (i := 508) (by decide +kernel)⟩
theorem lw_p2 : lw_okq (⟨"TailBlocks", "mixOutlook", "(J)J"⟩, 7) := ⟨⟨by decide +kernel, by decide +kernel⟩, List.mem_of_getElem? (i := 20) (by decide +kernel), List.mem_of_getElem? (i := 539) (by decide +kernel), List.mem_of_getElem? (i := 540) (by decide +kernel)⟩
theorem lw_p3 : lw_okq (⟨"TailBlocks", "mixText", "(J)J"⟩, 7) := ⟨⟨by decide +kernel, by decide +kernel⟩, List.mem_of_getElem? (i := 20) (by decide +kernel), List.mem_of_getElem? (i := 585) (by decide +kernel), List.mem_of_getElem? (i := 586) (by decide +kernel)⟩
theorem lw_p4 : lw_okq (⟨"TailBlocks", "checkFile", "(I)V"⟩, 7) := ⟨⟨by decide +kernel, by decide +kernel⟩, List.mem_of_getElem? (i := 20) (by decide +kernel), List.mem_of_getElem? (i := 630) (by decide +kernel), List.mem_of_getElem? (i := 631) (by decide +kernel)⟩
theorem lw_p5 : lw_okq (⟨"TailBlocks", "obeyAll", "()I"⟩, 7) := ⟨⟨by decide +kernel, by decide +kernel⟩, List.mem_of_getElem? (i := 20) (by decide +kernel), List.mem_of_getElem? (i := 762) (by decide +kernel), List.mem_of_getElem? (i := 763) (by decide +kernel)⟩
theorem lw_p6 : lw_okq (⟨"TailBlocks", "obey", "()Z"⟩, 7) := ⟨⟨by decide +kernel, by decide +kernel⟩, List.mem_of_getElem? (i := 20) (by decide +kernel), List.mem_of_getElem? (i := 767) (by decide +kernel), List.mem_of_getElem? (i := 768) (by decide +kernel)⟩
theorem lw_p7 : lw_okq (⟨"TailBlocksModel", "fails", "(I)I"⟩, 14) := ⟨⟨by decide +kernel, by decide +kernel⟩, List.mem_of_getElem? (i := 844) (by decide +kernel), List.mem_of_getElem? (i := 902) (by decide +kernel), List.mem_of_getElem? (i := 903) (by decide +kernel)⟩
theorem lw_p8 : lw_okq (⟨"TailBlocksModel", "files", "()I"⟩, 14) := ⟨⟨by decide +kernel, by decide +kernel⟩, List.mem_of_getElem? (i := 844) (by decide +kernel), List.mem_of_getElem? (i := 913) (by decide +kernel), List.mem_of_getElem? (i := 914) (by decide +kernel)⟩
theorem lw_p9 : lw_okq (⟨"TailBlocksModel", "of", "(II)I"⟩, 14) := ⟨⟨by decide +kernel, by decide +kernel⟩, List.mem_of_getElem? (i := 844) (by decide +kernel), List.mem_of_getElem? (i := 917) (by decide +kernel), List.mem_of_getElem? (i := 918) (by decide +kernel)⟩
theorem lw_p10 : lw_okq (⟨"TailBlocksModel", "save", "()V"⟩, 14) := ⟨⟨by decide +kernel, by decide +kernel⟩, List.mem_of_getElem? (i := 844) (by decide +kernel), List.mem_of_getElem? (i := 925) (by decide +kernel), List.mem_of_getElem? (i := 926) (by decide +kernel)⟩
theorem lw_p11 : lw_okq (⟨"TailBlocksModel", "creates", "(I)I"⟩, 14) := ⟨⟨by decide +kernel, by decide +kernel⟩, List.mem_of_getElem? (i := 844) (by decide +kernel), List.mem_of_getElem? (i := 933) (by decide +kernel), List.mem_of_getElem? (i := 934) (by decide +kernel)⟩
theorem lw_p12 : lw_okq (⟨"TailBlocksModel", "freeNumber", "()I"⟩, 14) := ⟨⟨by decide +kernel, by decide +kernel⟩, List.mem_of_getElem? (i := 844) (by decide +kernel), List.mem_of_getElem? (i := 937) (by decide +kernel), List.mem_of_getElem? (i := 938) (by decide +kernel)⟩
theorem lw_p13 : lw_okq (⟨"TailBlocksModel", "layAside", "()V"⟩, 14) := ⟨⟨by decide +kernel, by decide +kernel⟩, List.mem_of_getElem? (i := 844) (by decide +kernel), List.mem_of_getElem? (i := 941) (by decide +kernel), List.mem_of_getElem? (i := 942) (by decide +kernel)⟩
theorem lw_p14 : lw_okq (⟨"TailBlocksModel", "refused", "()I"⟩, 14) := ⟨⟨by decide +kernel, by decide +kernel⟩, List.mem_of_getElem? (i := 844) (by decide +kernel), List.mem_of_getElem? (i := 945) (by decide +kernel), List.mem_of_getElem? (i := 946) (by decide +kernel)⟩
theorem lw_p15 : lw_okq (⟨"TailBlocksModel", "putBack", "()V"⟩, 14) := ⟨⟨by decide +kernel, by decide +kernel⟩, List.mem_of_getElem? (i := 844) (by decide +kernel), List.mem_of_getElem? (i := 949) (by decide +kernel), List.mem_of_getElem? (i := 950) (by decide +kernel)⟩
def lw_privs_1 : List (MethodName × Nat) := [(⟨"java/lang/Throwable", "fillInStackTrace", "(I)Ljava/lang/Throwable;"⟩, 6), (⟨"TailBlocks", "mixFile", "(JI)J"⟩, 7), (⟨"TailBlocks", "mixOutlook", "(J)J"⟩, 7), (⟨"TailBlocks", "mixText", "(J)J"⟩, 7), (⟨"TailBlocks", "checkFile", "(I)V"⟩, 7), (⟨"TailBlocks", "obeyAll", "()I"⟩, 7), (⟨"TailBlocks", "obey", "()Z"⟩, 7), (⟨"TailBlocksModel", "fails", "(I)I"⟩, 14), (⟨"TailBlocksModel", "files", "()I"⟩, 14), (⟨"TailBlocksModel", "of", "(II)I"⟩, 14), (⟨"TailBlocksModel", "save", "()V"⟩, 14), (⟨"TailBlocksModel", "creates", "(I)I"⟩, 14), (⟨"TailBlocksModel", "freeNumber", "()I"⟩, 14), (⟨"TailBlocksModel", "layAside", "()V"⟩, 14), (⟨"TailBlocksModel", "refused", "()I"⟩, 14), (⟨"TailBlocksModel", "putBack", "()V"⟩, 14)]
theorem lw_r1 : ∀ q ∈ lw_privs_1, lw_okq q := List.forall_mem_cons.mpr ⟨lw_p0, List.forall_mem_cons.mpr ⟨lw_p1, List.forall_mem_cons.mpr ⟨lw_p2, List.forall_mem_cons.mpr ⟨lw_p3, List.forall_mem_cons.mpr ⟨lw_p4, List.forall_mem_cons.mpr ⟨lw_p5, List.forall_mem_cons.mpr ⟨lw_p6, List.forall_mem_cons.mpr ⟨lw_p7, List.forall_mem_cons.mpr ⟨lw_p8, List.forall_mem_cons.mpr ⟨lw_p9, List.forall_mem_cons.mpr ⟨lw_p10, List.forall_mem_cons.mpr ⟨lw_p11, List.forall_mem_cons.mpr ⟨lw_p12, List.forall_mem_cons.mpr ⟨lw_p13, List.forall_mem_cons.mpr ⟨lw_p14, List.forall_mem_cons.mpr ⟨lw_p15, fun _ h => absurd h List.not_mem_nil⟩⟩⟩⟩⟩⟩⟩⟩⟩⟩⟩⟩⟩⟩⟩⟩
theorem lw_p16 : lw_okq (⟨"TailBlocksModel", "lay", "(III)V"⟩, 14) := ⟨⟨by decide +kernel, by decide +kernel⟩, List.mem_of_getElem? (i := 844) (by decide +kernel), List.mem_of_getElem? (i := 953) (by decide +kernel), List.mem_of_getElem? (i := 954) (by decide +kernel)⟩
theorem lw_p17 : lw_okq (⟨"TailBlocksModel", "takeWhole", "(II)Z"⟩, 14) := ⟨⟨by decide +kernel, by decide +kernel⟩, List.mem_of_getElem? (i := 844) (by decide +kernel), List.mem_of_getElem? (i := 957) (by decide +kernel), List.mem_of_getElem? (i := 958) (by decide +kernel)⟩
theorem lw_p18 : lw_okq (⟨"TailBlocksModel", "wholeOf", "(I)I"⟩, 14) := ⟨⟨by decide +kernel, by decide +kernel⟩, List.mem_of_getElem? (i := 844) (by decide +kernel), List.mem_of_getElem? (i := 961) (by decide +kernel), List.mem_of_getElem? (i := 962) (by decide +kernel)⟩
theorem lw_p19 : lw_okq (⟨"TailBlocksModel", "lowestFree", "()I"⟩, 14) := ⟨⟨by decide +kernel, by decide +kernel⟩, List.mem_of_getElem? (i := 844) (by decide +kernel), List.mem_of_getElem? (i := 965) (by decide +kernel), List.mem_of_getElem? (i := 966) (by decide +kernel)⟩
theorem lw_p20 : lw_okq (⟨"TailBlocksModel", "placeTail", "(II)Z"⟩, 14) := ⟨⟨by decide +kernel, by decide +kernel⟩, List.mem_of_getElem? (i := 844) (by decide +kernel), List.mem_of_getElem? (i := 969) (by decide +kernel), List.mem_of_getElem? (i := 970) (by decide +kernel)⟩
theorem lw_p21 : lw_okq (⟨"TailBlocksModel", "placeFor", "(I)I"⟩, 14) := ⟨⟨by decide +kernel, by decide +kernel⟩, List.mem_of_getElem? (i := 844) (by decide +kernel), List.mem_of_getElem? (i := 973) (by decide +kernel), List.mem_of_getElem? (i := 974) (by decide +kernel)⟩
theorem lw_p22 : lw_okq (⟨"TailBlocksModel", "gapFor", "(I)I"⟩, 14) := ⟨⟨by decide +kernel, by decide +kernel⟩, List.mem_of_getElem? (i := 844) (by decide +kernel), List.mem_of_getElem? (i := 977) (by decide +kernel), List.mem_of_getElem? (i := 978) (by decide +kernel)⟩
theorem lw_p23 : lw_okq (⟨"TailBlocksModel", "gapAt", "(II)I"⟩, 14) := ⟨⟨by decide +kernel, by decide +kernel⟩, List.mem_of_getElem? (i := 844) (by decide +kernel), List.mem_of_getElem? (i := 981) (by decide +kernel), List.mem_of_getElem? (i := 982) (by decide +kernel)⟩
theorem lw_p24 : lw_okq (⟨"TailBlocksModel", "isTaken", "(II)Z"⟩, 14) := ⟨⟨by decide +kernel, by decide +kernel⟩, List.mem_of_getElem? (i := 844) (by decide +kernel), List.mem_of_getElem? (i := 985) (by decide +kernel), List.mem_of_getElem? (i := 986) (by decide +kernel)⟩
theorem lw_p25 : lw_okq (⟨"TailBlocksModel", "hasTailIn", "(II)Z"⟩, 14) := ⟨⟨by decide +kernel, by decide +kernel⟩, List.mem_of_getElem? (i := 844) (by decide +kernel), List.mem_of_getElem? (i := 989) (by decide +kernel), List.mem_of_getElem? (i := 990) (by decide +kernel)⟩
theorem lw_p26 : lw_okq (⟨"TailBlocksModel", "isFile", "(I)Z"⟩, 14) := ⟨⟨by decide +kernel, by decide +kernel⟩, List.mem_of_getElem? (i := 844) (by decide +kernel), List.mem_of_getElem? (i := 993) (by decide +kernel), List.mem_of_getElem? (i := 994) (by decide +kernel)⟩
theorem lw_p27 : lw_okq (⟨"TailBlocksModel", "tailOf", "(I)I"⟩, 14) := ⟨⟨by decide +kernel, by decide +kernel⟩, List.mem_of_getElem? (i := 844) (by decide +kernel), List.mem_of_getElem? (i := 997) (by decide +kernel), List.mem_of_getElem? (i := 998) (by decide +kernel)⟩
theorem lw_p28 : lw_okq (⟨"TailBlocksModel", "grows", "(II)I"⟩, 14) := ⟨⟨by decide +kernel, by decide +kernel⟩, List.mem_of_getElem? (i := 844) (by decide +kernel), List.mem_of_getElem? (i := 1005) (by decide +kernel), List.mem_of_getElem? (i := 1006) (by decide +kernel)⟩
theorem lw_p29 : lw_okq (⟨"TailBlocksModel", "growsInPlace", "(II)Z"⟩, 14) := ⟨⟨by decide +kernel, by decide +kernel⟩, List.mem_of_getElem? (i := 844) (by decide +kernel), List.mem_of_getElem? (i := 1009) (by decide +kernel), List.mem_of_getElem? (i := 1010) (by decide +kernel)⟩
theorem lw_p30 : lw_okq (⟨"TailBlocksModel", "takeTail", "(I)V"⟩, 14) := ⟨⟨by decide +kernel, by decide +kernel⟩, List.mem_of_getElem? (i := 844) (by decide +kernel), List.mem_of_getElem? (i := 1013) (by decide +kernel), List.mem_of_getElem? (i := 1014) (by decide +kernel)⟩
theorem lw_p31 : lw_okq (⟨"TailBlocksModel", "frees", "(I)I"⟩, 14) := ⟨⟨by decide +kernel, by decide +kernel⟩, List.mem_of_getElem? (i := 844) (by decide +kernel), List.mem_of_getElem? (i := 1017) (by decide +kernel), List.mem_of_getElem? (i := 1018) (by decide +kernel)⟩
def lw_privs_2 : List (MethodName × Nat) := [(⟨"TailBlocksModel", "lay", "(III)V"⟩, 14), (⟨"TailBlocksModel", "takeWhole", "(II)Z"⟩, 14), (⟨"TailBlocksModel", "wholeOf", "(I)I"⟩, 14), (⟨"TailBlocksModel", "lowestFree", "()I"⟩, 14), (⟨"TailBlocksModel", "placeTail", "(II)Z"⟩, 14), (⟨"TailBlocksModel", "placeFor", "(I)I"⟩, 14), (⟨"TailBlocksModel", "gapFor", "(I)I"⟩, 14), (⟨"TailBlocksModel", "gapAt", "(II)I"⟩, 14), (⟨"TailBlocksModel", "isTaken", "(II)Z"⟩, 14), (⟨"TailBlocksModel", "hasTailIn", "(II)Z"⟩, 14), (⟨"TailBlocksModel", "isFile", "(I)Z"⟩, 14), (⟨"TailBlocksModel", "tailOf", "(I)I"⟩, 14), (⟨"TailBlocksModel", "grows", "(II)I"⟩, 14), (⟨"TailBlocksModel", "growsInPlace", "(II)Z"⟩, 14), (⟨"TailBlocksModel", "takeTail", "(I)V"⟩, 14), (⟨"TailBlocksModel", "frees", "(I)I"⟩, 14)]
theorem lw_r2 : ∀ q ∈ lw_privs_2, lw_okq q := List.forall_mem_cons.mpr ⟨lw_p16, List.forall_mem_cons.mpr ⟨lw_p17, List.forall_mem_cons.mpr ⟨lw_p18, List.forall_mem_cons.mpr ⟨lw_p19, List.forall_mem_cons.mpr ⟨lw_p20, List.forall_mem_cons.mpr ⟨lw_p21, List.forall_mem_cons.mpr ⟨lw_p22, List.forall_mem_cons.mpr ⟨lw_p23, List.forall_mem_cons.mpr ⟨lw_p24, List.forall_mem_cons.mpr ⟨lw_p25, List.forall_mem_cons.mpr ⟨lw_p26, List.forall_mem_cons.mpr ⟨lw_p27, List.forall_mem_cons.mpr ⟨lw_p28, List.forall_mem_cons.mpr ⟨lw_p29, List.forall_mem_cons.mpr ⟨lw_p30, List.forall_mem_cons.mpr ⟨lw_p31, fun _ h => absurd h List.not_mem_nil⟩⟩⟩⟩⟩⟩⟩⟩⟩⟩⟩⟩⟩⟩⟩⟩
theorem lw_p32 : lw_okq (⟨"TailBlocksModel", "tailsIn", "(I)I"⟩, 14) := ⟨⟨by decide +kernel, by decide +kernel⟩, List.mem_of_getElem? (i := 844) (by decide +kernel), List.mem_of_getElem? (i := 1021) (by decide +kernel), List.mem_of_getElem? (i := 1022) (by decide +kernel)⟩
theorem lw_p33 : lw_okq (⟨"TailBlocksModel", "cuts", "(II)I"⟩, 14) := ⟨⟨by decide +kernel, by decide +kernel⟩, List.mem_of_getElem? (i := 844) (by decide +kernel), List.mem_of_getElem? (i := 1029) (by decide +kernel), List.mem_of_getElem? (i := 1030) (by decide +kernel)⟩
theorem lw_p34 : lw_okq (⟨"TailBlocksModel", "deletes", "(I)I"⟩, 14) := ⟨⟨by decide +kernel, by decide +kernel⟩, List.mem_of_getElem? (i := 844) (by decide +kernel), List.mem_of_getElem? (i := 1037) (by decide +kernel), List.mem_of_getElem? (i := 1038) (by decide +kernel)⟩
theorem lw_p35 : lw_okq (⟨"TailBlocksModel", "hasIn", "(II)Z"⟩, 14) := ⟨⟨by decide +kernel, by decide +kernel⟩, List.mem_of_getElem? (i := 844) (by decide +kernel), List.mem_of_getElem? (i := 1045) (by decide +kernel), List.mem_of_getElem? (i := 1046) (by decide +kernel)⟩
theorem lw_p36 : lw_okq (⟨"TailBlocksModel", "blocksThat", "(I)I"⟩, 14) := ⟨⟨by decide +kernel, by decide +kernel⟩, List.mem_of_getElem? (i := 844) (by decide +kernel), List.mem_of_getElem? (i := 1053) (by decide +kernel), List.mem_of_getElem? (i := 1054) (by decide +kernel)⟩
theorem lw_p37 : lw_okq (⟨"TailBlocksModel", "packs", "()I"⟩, 14) := ⟨⟨by decide +kernel, by decide +kernel⟩, List.mem_of_getElem? (i := 844) (by decide +kernel), List.mem_of_getElem? (i := 1061) (by decide +kernel), List.mem_of_getElem? (i := 1062) (by decide +kernel)⟩
theorem lw_p38 : lw_okq (⟨"TailBlocksModel", "sort", "()I"⟩, 14) := ⟨⟨by decide +kernel, by decide +kernel⟩, List.mem_of_getElem? (i := 844) (by decide +kernel), List.mem_of_getElem? (i := 1065) (by decide +kernel), List.mem_of_getElem? (i := 1066) (by decide +kernel)⟩
theorem lw_p39 : lw_okq (⟨"TailBlocksModel", "isPacked", "(I)Z"⟩, 14) := ⟨⟨by decide +kernel, by decide +kernel⟩, List.mem_of_getElem? (i := 844) (by decide +kernel), List.mem_of_getElem? (i := 1069) (by decide +kernel), List.mem_of_getElem? (i := 1070) (by decide +kernel)⟩
theorem lw_p40 : lw_okq (⟨"TailBlocksModel", "holdsBroken", "(I)Z"⟩, 14) := ⟨⟨by decide +kernel, by decide +kernel⟩, List.mem_of_getElem? (i := 844) (by decide +kernel), List.mem_of_getElem? (i := 1073) (by decide +kernel), List.mem_of_getElem? (i := 1074) (by decide +kernel)⟩
theorem lw_p41 : lw_okq (⟨"TailBlocksModel", "firstFor", "(I)I"⟩, 14) := ⟨⟨by decide +kernel, by decide +kernel⟩, List.mem_of_getElem? (i := 844) (by decide +kernel), List.mem_of_getElem? (i := 1077) (by decide +kernel), List.mem_of_getElem? (i := 1078) (by decide +kernel)⟩
theorem lw_p42 : lw_okq (⟨"TailBlocksModel", "isWell", "()Z"⟩, 14) := ⟨⟨by decide +kernel, by decide +kernel⟩, List.mem_of_getElem? (i := 844) (by decide +kernel), List.mem_of_getElem? (i := 1097) (by decide +kernel), List.mem_of_getElem? (i := 1098) (by decide +kernel)⟩
theorem lw_p43 : lw_okq (⟨"TailBlocksModel", "reading", "()I"⟩, 14) := ⟨⟨by decide +kernel, by decide +kernel⟩, List.mem_of_getElem? (i := 844) (by decide +kernel), List.mem_of_getElem? (i := 1101) (by decide +kernel), List.mem_of_getElem? (i := 1102) (by decide +kernel)⟩
theorem lw_p44 : lw_okq (⟨"TailBlocksModel", "reads", "(I)Z"⟩, 14) := ⟨⟨by decide +kernel, by decide +kernel⟩, List.mem_of_getElem? (i := 844) (by decide +kernel), List.mem_of_getElem? (i := 1105) (by decide +kernel), List.mem_of_getElem? (i := 1106) (by decide +kernel)⟩
theorem lw_p45 : lw_okq (⟨"TailBlocksModel", "number", "(II)Z"⟩, 14) := ⟨⟨by decide +kernel, by decide +kernel⟩, List.mem_of_getElem? (i := 844) (by decide +kernel), List.mem_of_getElem? (i := 1109) (by decide +kernel), List.mem_of_getElem? (i := 1110) (by decide +kernel)⟩
theorem lw_p46 : lw_okq (⟨"TailBlocksModel", "digit", "(II)Z"⟩, 14) := ⟨⟨by decide +kernel, by decide +kernel⟩, List.mem_of_getElem? (i := 844) (by decide +kernel), List.mem_of_getElem? (i := 1113) (by decide +kernel), List.mem_of_getElem? (i := 1114) (by decide +kernel)⟩
theorem lw_p47 : lw_okq (⟨"TailBlocksModel", "sees", "(II)Z"⟩, 14) := ⟨⟨by decide +kernel, by decide +kernel⟩, List.mem_of_getElem? (i := 844) (by decide +kernel), List.mem_of_getElem? (i := 1117) (by decide +kernel), List.mem_of_getElem? (i := 1118) (by decide +kernel)⟩
def lw_privs_3 : List (MethodName × Nat) := [(⟨"TailBlocksModel", "tailsIn", "(I)I"⟩, 14), (⟨"TailBlocksModel", "cuts", "(II)I"⟩, 14), (⟨"TailBlocksModel", "deletes", "(I)I"⟩, 14), (⟨"TailBlocksModel", "hasIn", "(II)Z"⟩, 14), (⟨"TailBlocksModel", "blocksThat", "(I)I"⟩, 14), (⟨"TailBlocksModel", "packs", "()I"⟩, 14), (⟨"TailBlocksModel", "sort", "()I"⟩, 14), (⟨"TailBlocksModel", "isPacked", "(I)Z"⟩, 14), (⟨"TailBlocksModel", "holdsBroken", "(I)Z"⟩, 14), (⟨"TailBlocksModel", "firstFor", "(I)I"⟩, 14), (⟨"TailBlocksModel", "isWell", "()Z"⟩, 14), (⟨"TailBlocksModel", "reading", "()I"⟩, 14), (⟨"TailBlocksModel", "reads", "(I)Z"⟩, 14), (⟨"TailBlocksModel", "number", "(II)Z"⟩, 14), (⟨"TailBlocksModel", "digit", "(II)Z"⟩, 14), (⟨"TailBlocksModel", "sees", "(II)Z"⟩, 14)]
theorem lw_r3 : ∀ q ∈ lw_privs_3, lw_okq q := List.forall_mem_cons.mpr ⟨lw_p32, List.forall_mem_cons.mpr ⟨lw_p33, List.forall_mem_cons.mpr ⟨lw_p34, List.forall_mem_cons.mpr ⟨lw_p35, List.forall_mem_cons.mpr ⟨lw_p36, List.forall_mem_cons.mpr ⟨lw_p37, List.forall_mem_cons.mpr ⟨lw_p38, List.forall_mem_cons.mpr ⟨lw_p39, List.forall_mem_cons.mpr ⟨lw_p40, List.forall_mem_cons.mpr ⟨lw_p41, List.forall_mem_cons.mpr ⟨lw_p42, List.forall_mem_cons.mpr ⟨lw_p43, List.forall_mem_cons.mpr ⟨lw_p44, List.forall_mem_cons.mpr ⟨lw_p45, List.forall_mem_cons.mpr ⟨lw_p46, List.forall_mem_cons.mpr ⟨lw_p47, fun _ h => absurd h List.not_mem_nil⟩⟩⟩⟩⟩⟩⟩⟩⟩⟩⟩⟩⟩⟩⟩⟩
theorem lw_p48 : lw_okq (⟨"TailBlocksModel", "takes", "(I)Z"⟩, 14) := ⟨⟨by decide +kernel, by decide +kernel⟩, List.mem_of_getElem? (i := 844) (by decide +kernel), List.mem_of_getElem? (i := 1121) (by decide +kernel), List.mem_of_getElem? (i := 1122) (by decide +kernel)⟩
theorem lw_p49 : lw_okq (⟨"TailBlocksModel", "does", "(I)I"⟩, 14) := ⟨⟨by decide +kernel, by decide +kernel⟩, List.mem_of_getElem? (i := 844) (by decide +kernel), List.mem_of_getElem? (i := 1129) (by decide +kernel), List.mem_of_getElem? (i := 1130) (by decide +kernel)⟩
theorem lw_p50 : lw_okq (⟨"TailBlocksModel", "property", "(II)I"⟩, 14) := ⟨⟨by decide +kernel, by decide +kernel⟩, List.mem_of_getElem? (i := 844) (by decide +kernel), List.mem_of_getElem? (i := 1137) (by decide +kernel), List.mem_of_getElem? (i := 1138) (by decide +kernel)⟩
theorem lw_p51 : lw_okq (⟨"TailBlocksModel", "placeOf", "(II)I"⟩, 14) := ⟨⟨by decide +kernel, by decide +kernel⟩, List.mem_of_getElem? (i := 844) (by decide +kernel), List.mem_of_getElem? (i := 1145) (by decide +kernel), List.mem_of_getElem? (i := 1146) (by decide +kernel)⟩
theorem lw_p52 : lw_okq (⟨"TailBlocksModel", "blockIs", "(II)I"⟩, 14) := ⟨⟨by decide +kernel, by decide +kernel⟩, List.mem_of_getElem? (i := 844) (by decide +kernel), List.mem_of_getElem? (i := 1153) (by decide +kernel), List.mem_of_getElem? (i := 1154) (by decide +kernel)⟩
theorem lw_p53 : lw_okq (⟨"TailBlocksModel", "tailCells", "(I)I"⟩, 14) := ⟨⟨by decide +kernel, by decide +kernel⟩, List.mem_of_getElem? (i := 844) (by decide +kernel), List.mem_of_getElem? (i := 1157) (by decide +kernel), List.mem_of_getElem? (i := 1158) (by decide +kernel)⟩
theorem lw_p54 : lw_okq (⟨"TailBlocksModel", "longestGap", "(I)I"⟩, 14) := ⟨⟨by decide +kernel, by decide +kernel⟩, List.mem_of_getElem? (i := 844) (by decide +kernel), List.mem_of_getElem? (i := 1161) (by decide +kernel), List.mem_of_getElem? (i := 1162) (by decide +kernel)⟩
theorem lw_p55 : lw_okq (⟨"TailBlocksModel", "ownerOf", "(I)I"⟩, 14) := ⟨⟨by decide +kernel, by decide +kernel⟩, List.mem_of_getElem? (i := 844) (by decide +kernel), List.mem_of_getElem? (i := 1165) (by decide +kernel), List.mem_of_getElem? (i := 1166) (by decide +kernel)⟩
theorem lw_p56 : lw_okq (⟨"TailBlocksModel", "counted", "(I)I"⟩, 14) := ⟨⟨by decide +kernel, by decide +kernel⟩, List.mem_of_getElem? (i := 844) (by decide +kernel), List.mem_of_getElem? (i := 1173) (by decide +kernel), List.mem_of_getElem? (i := 1174) (by decide +kernel)⟩
theorem lw_p57 : lw_okq (⟨"TailBlocksModel", "goodCells", "()I"⟩, 14) := ⟨⟨by decide +kernel, by decide +kernel⟩, List.mem_of_getElem? (i := 844) (by decide +kernel), List.mem_of_getElem? (i := 1177) (by decide +kernel), List.mem_of_getElem? (i := 1178) (by decide +kernel)⟩
theorem lw_p58 : lw_okq (⟨"TailBlocksModel", "gapCells", "()I"⟩, 14) := ⟨⟨by decide +kernel, by decide +kernel⟩, List.mem_of_getElem? (i := 844) (by decide +kernel), List.mem_of_getElem? (i := 1181) (by decide +kernel), List.mem_of_getElem? (i := 1182) (by decide +kernel)⟩
theorem lw_p59 : lw_okq (⟨"TailBlocksModel", "broken", "()I"⟩, 14) := ⟨⟨by decide +kernel, by decide +kernel⟩, List.mem_of_getElem? (i := 844) (by decide +kernel), List.mem_of_getElem? (i := 1185) (by decide +kernel), List.mem_of_getElem? (i := 1186) (by decide +kernel)⟩
theorem lw_p60 : lw_okq (⟨"TailBlocksModel", "afterGrowing", "(II)I"⟩, 14) := ⟨⟨by decide +kernel, by decide +kernel⟩, List.mem_of_getElem? (i := 844) (by decide +kernel), List.mem_of_getElem? (i := 1197) (by decide +kernel), List.mem_of_getElem? (i := 1198) (by decide +kernel)⟩
theorem lw_p61 : lw_okq (⟨"TailBlocksModel", "greatestSize", "()I"⟩, 14) := ⟨⟨by decide +kernel, by decide +kernel⟩, List.mem_of_getElem? (i := 844) (by decide +kernel), List.mem_of_getElem? (i := 1205) (by decide +kernel), List.mem_of_getElem? (i := 1206) (by decide +kernel)⟩
theorem lw_p62 : lw_okq (⟨"TailBlocksModel", "couldCome", "(I)Z"⟩, 14) := ⟨⟨by decide +kernel, by decide +kernel⟩, List.mem_of_getElem? (i := 844) (by decide +kernel), List.mem_of_getElem? (i := 1209) (by decide +kernel), List.mem_of_getElem? (i := 1210) (by decide +kernel)⟩
theorem lw_p63 : lw_okq (⟨"TailBlocksModel", "fewestBlocks", "()I"⟩, 14) := ⟨⟨by decide +kernel, by decide +kernel⟩, List.mem_of_getElem? (i := 844) (by decide +kernel), List.mem_of_getElem? (i := 1217) (by decide +kernel), List.mem_of_getElem? (i := 1218) (by decide +kernel)⟩
def lw_privs_4 : List (MethodName × Nat) := [(⟨"TailBlocksModel", "takes", "(I)Z"⟩, 14), (⟨"TailBlocksModel", "does", "(I)I"⟩, 14), (⟨"TailBlocksModel", "property", "(II)I"⟩, 14), (⟨"TailBlocksModel", "placeOf", "(II)I"⟩, 14), (⟨"TailBlocksModel", "blockIs", "(II)I"⟩, 14), (⟨"TailBlocksModel", "tailCells", "(I)I"⟩, 14), (⟨"TailBlocksModel", "longestGap", "(I)I"⟩, 14), (⟨"TailBlocksModel", "ownerOf", "(I)I"⟩, 14), (⟨"TailBlocksModel", "counted", "(I)I"⟩, 14), (⟨"TailBlocksModel", "goodCells", "()I"⟩, 14), (⟨"TailBlocksModel", "gapCells", "()I"⟩, 14), (⟨"TailBlocksModel", "broken", "()I"⟩, 14), (⟨"TailBlocksModel", "afterGrowing", "(II)I"⟩, 14), (⟨"TailBlocksModel", "greatestSize", "()I"⟩, 14), (⟨"TailBlocksModel", "couldCome", "(I)Z"⟩, 14), (⟨"TailBlocksModel", "fewestBlocks", "()I"⟩, 14)]
theorem lw_r4 : ∀ q ∈ lw_privs_4, lw_okq q := List.forall_mem_cons.mpr ⟨lw_p48, List.forall_mem_cons.mpr ⟨lw_p49, List.forall_mem_cons.mpr ⟨lw_p50, List.forall_mem_cons.mpr ⟨lw_p51, List.forall_mem_cons.mpr ⟨lw_p52, List.forall_mem_cons.mpr ⟨lw_p53, List.forall_mem_cons.mpr ⟨lw_p54, List.forall_mem_cons.mpr ⟨lw_p55, List.forall_mem_cons.mpr ⟨lw_p56, List.forall_mem_cons.mpr ⟨lw_p57, List.forall_mem_cons.mpr ⟨lw_p58, List.forall_mem_cons.mpr ⟨lw_p59, List.forall_mem_cons.mpr ⟨lw_p60, List.forall_mem_cons.mpr ⟨lw_p61, List.forall_mem_cons.mpr ⟨lw_p62, List.forall_mem_cons.mpr ⟨lw_p63, fun _ h => absurd h List.not_mem_nil⟩⟩⟩⟩⟩⟩⟩⟩⟩⟩⟩⟩⟩⟩⟩⟩
theorem lw_p64 : lw_okq (⟨"TailBlocksModel", "afterPacking", "()I"⟩, 14) := ⟨⟨by decide +kernel, by decide +kernel⟩, List.mem_of_getElem? (i := 844) (by decide +kernel), List.mem_of_getElem? (i := 1225) (by decide +kernel), List.mem_of_getElem? (i := 1226) (by decide +kernel)⟩
theorem lw_p65 : lw_okq (⟨"TailBlocksModel", "weakestBlock", "()I"⟩, 14) := ⟨⟨by decide +kernel, by decide +kernel⟩, List.mem_of_getElem? (i := 844) (by decide +kernel), List.mem_of_getElem? (i := 1233) (by decide +kernel), List.mem_of_getElem? (i := 1234) (by decide +kernel)⟩
theorem lw_p66 : lw_okq (⟨"TailBlocksModel", "used", "()D"⟩, 14) := ⟨⟨by decide +kernel, by decide +kernel⟩, List.mem_of_getElem? (i := 844) (by decide +kernel), List.mem_of_getElem? (i := 1241) (by decide +kernel), List.mem_of_getElem? (i := 1242) (by decide +kernel)⟩
theorem lw_p67 : lw_okq (⟨"TailBlocksModel", "ofFiles", "(J)J"⟩, 14) := ⟨⟨by decide +kernel, by decide +kernel⟩, List.mem_of_getElem? (i := 844) (by decide +kernel), List.mem_of_getElem? (i := 1251) (by decide +kernel), List.mem_of_getElem? (i := 1252) (by decide +kernel)⟩
def lw_privs_5 : List (MethodName × Nat) := [(⟨"TailBlocksModel", "afterPacking", "()I"⟩, 14), (⟨"TailBlocksModel", "weakestBlock", "()I"⟩, 14), (⟨"TailBlocksModel", "used", "()D"⟩, 14), (⟨"TailBlocksModel", "ofFiles", "(J)J"⟩, 14)]
theorem lw_r5 : ∀ q ∈ lw_privs_5, lw_okq q := List.forall_mem_cons.mpr ⟨lw_p64, List.forall_mem_cons.mpr ⟨lw_p65, List.forall_mem_cons.mpr ⟨lw_p66, List.forall_mem_cons.mpr ⟨lw_p67, fun _ h => absurd h List.not_mem_nil⟩⟩⟩⟩
def lw_privs : List (MethodName × Nat) := lw_privs_1 ++ (lw_privs_2 ++ (lw_privs_3 ++ (lw_privs_4 ++ (lw_privs_5))))
def lw_tbl : List Cond := k2_sels lw_privs ++ tables_1
theorem lw_privs_ok : ∀ q ∈ lw_privs, lw_okq q := by
  show ∀ q ∈ lw_privs_1 ++ (lw_privs_2 ++ (lw_privs_3 ++ (lw_privs_4 ++ (lw_privs_5)))), lw_okq q
  exact List.forall_mem_append.mpr ⟨lw_r1, List.forall_mem_append.mpr ⟨lw_r2, List.forall_mem_append.mpr ⟨lw_r3, List.forall_mem_append.mpr ⟨lw_r4, lw_r5⟩⟩⟩⟩
/-- the streams that the claim lets the run draw from -/
abbrev lw_cs : List Choice := [Jvm.Choice.named "NaN.bits"]
theorem lw_bits : nanBits ∈ lw_cs := by first | decide | exact List.mem_cons_self | simp [lw_cs, nanBits]
-- ===== end of PART A; then your names; then what follows =====
end
section
/-! ===== BEGIN words of one list among another's, by their places ===== -/
theorem goodIn_r {big : List Cond} (ws : List Cond) (ps : List Nat) (hp : ws = ps.filterMap (fun i => big[i]?)) (h : ws.all goodWord = true) : GoodIn big ws := by
  intro w hw
  have h1 := List.all_eq_true.mp h w hw
  rw [hp] at hw
  obtain ⟨i, -, hi⟩ := List.mem_filterMap.mp hw
  have hm : w ∈ big := by first | exact List.mem_of_getElem? hi | exact List.getElem?_mem hi
  exact ⟨hm, good_of_word h1⟩
theorem goodIn_app {big a b : List Cond} (ha : GoodIn big a) (hb : GoodIn big b) : GoodIn big (a ++ b) := fun w h => (List.mem_append.mp h).elim (ha w) (hb w)
theorem goodIn_ca {big a b : List Cond} {c : Cond} (ha : GoodIn big (c :: a)) (hb : GoodIn big b) : GoodIn big (c :: (a ++ b)) := fun w h => (List.mem_cons.mp h).elim (fun e => ha w (List.mem_cons.mpr (Or.inl e))) (fun h => (List.mem_append.mp h).elim (fun h => ha w (List.mem_cons.mpr (Or.inr h))) (hb w))
theorem goodIn_sub {big ws : List Cond} (hm : ∀ w ∈ ws, w ∈ big) (h : ws.all goodWord = true) : GoodIn big ws := fun w hw => ⟨hm w hw, good_of_word (List.all_eq_true.mp h w hw)⟩
/-! ===== END ===== -/

/-! ===== BEGIN exceptions that leave a method, and their catching by the caller (launches without stack traces) ===== -/
section VXA
/-! The laws vx_back, vx_callV, vx_callS, vx_callSW, vx_throw0, vx_throwS follow proofs of the library, with one case more: JvmDerived/Free/Laws.lean (Back.of_free), Shelf42/LK1.lean (callV, callS), Shelf/KitTraced.lean (throwNew0V, throwNewS). -/
/-- where a method has thrown q: the class by its name, the cell, what was written, the world -/
def vx_T (XC : String → State → State → Prop) (st : State) (q : Addr) (t : State) (mc ms : Nat) (free : Addr → Prop) : Prop :=
  ∃ (E : String) (ce : Cell) (L : List Loc), XC E st t ∧ t.heap[q]? = some ce ∧ ce.vm = .none ∧ st.vm.findClass E = some ce.cls ∧ st.WarmedH t.vm ∧ st.sameButNew ({ t with vm := st.vm } : State) L mc ms ∧ ∀ z ∈ L, free z.base
def vx_Q (Qc : Array Value → State → Outcome → State → Prop) (XC : String → State → State → Prop) (mc ms : Nat) (free : Addr → Prop) : Array Value → State → Outcome → State → Prop := fun a st o t =>
  (Qc a st o t ∧ ∃ L, FrameEnd st o t L mc ms ∧ ∀ q ∈ L, free q.base) ∨ ∃ q, o = .threw q ∧ vx_T XC st q t mc ms free
/-- a callee that returns or throws -/
def vx_Met (l : Launch) (y : MethodName) (ws : List Cond) (rm : Room) (Pc : Array Value → State → Prop) (Qc : Array Value → State → Outcome → State → Prop) (XC : String → State → State → Prop) (mc ms : Nat) (free : Addr → Prop) : Prop :=
  MetFree l y (headSpec ws rm) Pc (fun _ _ _ _ _ => True) (vx_Q Qc XC mc ms free)
def vx_Post (XC : String → State → State → Prop) (mc ms : Nat) (free : Addr → Prop) : Pt → Array Value → Addr → Pt → Prop := fun A a q B =>
  ∃ (g : JFrame) (mk : MethodId) (t : State) (L : List Loc) (E : String) (ce : Cell), B.U.heap = t.heap ∧ B.U.vm = t.vm ∧ XC E (A.U.calling g mk a) t ∧ t.heap[q]? = some ce ∧ ce.vm = .none ∧ A.U.vm.findClass E = some ce.cls ∧ B.locs = A.locs ++ L ∧ (∀ z ∈ L, free z.base) ∧ B.cells = A.cells + mc ∧ B.slots = A.slots + ms
def vx_Back (l : Launch) (R : Room) (p : Program) (e : Env) (below : List Frame) (s : State) (sargs : Array Value) (y : MethodName) (len W9 : Nat)
    (Pre : Pt → Array Value → Prop) (Post : Pt → Array Value → Option Value → Pt → Prop) (PostX : Pt → Array Value → Addr → Pt → Prop) : Prop :=
  ∀ (m : MethodId) (meth : Method) (c : Code) (A : Pt) (g : JFrame) (ig : Instr) (mk : MethodId) (a : Array Value),
    Stand p l e R s m sargs below meth c A.U A.locs A.cells A.slots → g.method = m → g.locals.size = c.maxLocals → decode c.code g.pc = .ok (ig, len) →
    2 * g.monitorRoom + (g.stack.map fun v => v.category).sum ≤ W9 → A.U.methodNamed? y = some mk → Pre A a →
    (∃ (v : Option Value) (B : Pt), Stand p l e R s m sargs below meth c B.U B.locs B.cells B.slots ∧ Post A a v B ∧
      Steps p.tables e below (doInvoke e (A.U.setTop g) [] mk a).1 (B.U.setTop { g with pc := g.pc + len, stack := v.toList ++ g.stack })) ∨
    (∃ (q : Addr) (B : Pt), Stand p l e R s m sargs below meth c B.U B.locs B.cells B.slots ∧ PostX A a q B ∧
      Steps p.tables e below (doInvoke e (A.U.setTop g) [] mk a).1 ((B.U.setTop g).pushFrame (.throwing q)))
section Payer
variable {l : Launch} {R : Room} {p : Program} {e : Env} {below : List Frame} {s : State} {sargs : Array Value} {y : MethodName} {len W9 : Nat}
theorem vx_back {ws : List Cond} {rm : Room} {Pc : Array Value → State → Prop} {Qc : Array Value → State → Outcome → State → Prop} {XC : String → State → State → Prop} {mc ms : Nat} {free : Addr → Prop} {bytes : ByteArray} {maxL : Nat} {ret : Option FieldType}
    (hM : vx_Met l y ws rm Pc Qc XC mc ms free) (hblind : FrameBlind Pc) (hrc : rm.cells = mc) (hrs : rm.slots = ms)
    (hframes : rm.frames + 1 ≤ R.frames) (hlocals : W9 + (maxL + 11) + rm.locals ≤ R.locals)
    (hws : ∀ w ∈ ws, ∀ a' U, s.WarmedH U.vm → w.before a' U = true) (hcode : Cond.code y bytes maxL ret ∈ ws) (hinit : ∀ a' U, s.WarmedH U.vm → (Cond.initialized y.cls).before a' U = true) :
    vx_Back l R p e below s sargs y len W9 (PreOf R mc ms Pc) (PostOf Qc mc ms free) (vx_Post XC mc ms free) := by
  intro m meth c A g ig mk a X hg hsize hdg hW hn hp
  have h1 : (headSpec ws rm).pre.before a A.U = true := atoms_intro fun w hw => hws w hw _ _ X.warmed
  have h2 : (Cond.code y bytes maxL ret).before a A.U = true := hws _ hcode _ _ X.warmed
  have h3 : (Cond.initialized y.cls).before a A.U = true := hinit _ _ X.warmed
  have h4 : A.cells + (headSpec ws rm).room.cells ≤ R.cells := by rw [show (headSpec ws rm).room.cells = mc from hrc]; exact hp.1
  have h5 : A.slots + (headSpec ws rm).room.slots ≤ R.slots := by rw [show (headSpec ws rm).room.slots = ms from hrs]; exact hp.2.1
  have hPc : Pc a (A.U.calling g mk a) := hblind _ _ _ _ hp.2.2
  obtain ⟨U, Ls, c0, s0⟩ := A
  dsimp only [Pt.U, Pt.locs, Pt.cells, Pt.slots] at h1 h2 h3 h4 h5 X hn hPc ⊢
  obtain ⟨methY, cY, hmY, hcY, -, hlY, -, -, -, -⟩ := Cond.code_spec hn h2
  obtain ⟨kY, hkY, -⟩ := className_of_methodNamed hn
  have hinitY : kY.init = .initialized := Cond.initialized_spec (findClass_of_methodNamed hn) hkY h3
  have h : At U g.method c below := by rw [hg]; exact X.here
  have hlocals9 : W9 + (maxL + 11) + (headSpec ws rm).room.locals ≤ R.locals := hlocals
  have happ : (headSpec ws rm).appliesLoose y e.platform (U.calling g mk a) = true :=
    Spec.appliesLoose_calling (g := g) h hdg hn hkY hinitY
      (X.room_calling (g := g) (R' := (headSpec ws rm).room) hsize hmY hcY hframes (by rw [hlY]; omega) h4 h5) h1
  obtain ⟨mid, hmid⟩ := h.above
  have hfr : (U.setTop g).frames = (.java g :: mid) ++ below := by rw [State.frames_setTop' g h.top, hmid]; rfl
  obtain ⟨o, s₂, hsteps, -, hend, hq⟩ := Steps.callFree hM p X.admits X.cas X.clock (acts := []) hfr happ hPc trivial
  have hq' : vx_Q Qc XC mc ms free a (U.calling g mk a) o s₂ := hq
  rw [State.frames_setTop' g h.top] at hend
  obtain ⟨g₀, hg0⟩ := Option.isSome_iff_exists.mp h.top
  obtain ⟨r, hr⟩ := State.topJava?_eq_some.mp hg0
  have hr' : (({ U with heap := s₂.heap, slotsUsed := s₂.slotsUsed } : State).setVm s₂.vm).frames = .java g₀ :: r := hr
  rcases hq' with ⟨hqc, L, hfe, hL⟩ | ⟨q, rfl, E, ce, L, hx, hce, hcv, hcl, hW₂, hsm, hL⟩
  · obtain ⟨⟨v, rfl⟩, hW₂, e2, q2, q3, q4, q5, q6⟩ := id hfe
    have e3 : s₂ = ({ (U.calling g mk a).setFrames s₂.frames with heap := s₂.heap, slotsUsed := s₂.slotsUsed } : State).setVm s₂.vm := by
      have : s₂ = ({ s₂ with vm := (U.calling g mk a).vm } : State).setVm s₂.vm := rfl
      rw [e2] at this
      exact this
    obtain ⟨c₂, i₂, len₂, hc₂, hd₂, hf₂⟩ := hend
    have hW' : U.WarmedH s₂.vm := hW₂
    have hcc : c₂ = c := by
      have h1 : s₂.code? g.method = U.code? g.method := by
        rw [State.code?_eq, State.code?_eq, hW'.alike.method?]
      exact Option.some.inj (hc₂.symm.trans (h1.trans h.code))
    subst hcc
    have hlen : len₂ = len := by rw [hdg] at hd₂; cases hd₂; rfl
    subst hlen
    have hs₂ : s₂ = (({ U with heap := s₂.heap, slotsUsed := s₂.slotsUsed } : State).setVm s₂.vm).setTop { g with pc := g.pc + len₂, stack := v.toList ++ g.stack } := by
      refine e3.trans ?_
      rw [hf₂, State.calling_eq h.top, State.setFrames_setFrames, State.setTop_of_frames _ hr', hr]
      rfl
    have hsame : U.sameButNew ({ U with heap := s₂.heap, slotsUsed := s₂.slotsUsed } : State) L mc ms := by
      refine ⟨?_, q2, q3, q4, q5, q6⟩
      obtain ⟨t, ht, -⟩ := State.frames_cons hr
      show ({ U with heap := s₂.heap, slotsUsed := s₂.slotsUsed } : State) = { U.setFrames U.frames with heap := s₂.heap, slotsUsed := s₂.slotsUsed }
      rw [State.setFrames_self ht]
    subst hg
    refine Or.inl ⟨v, ⟨(({ U with heap := s₂.heap, slotsUsed := s₂.slotsUsed } : State).setVm s₂.vm), Ls ++ L, c0 + mc, s0 + ms⟩,
      ⟨X.admits, X.cas, X.clock, X.frames, X.room, X.hears, X.method, X.code, (X.here.setHeapUsed s₂.heap s₂.slotsUsed).setVm hW'.alike, X.tail, State.WarmedH.trans X.warmed hW', X.limits, X.bytes, X.same.trans (hsame.setVm s.vm)⟩,
      ⟨g, mk, s₂, L, rfl, rfl, hqc, rfl, hL, rfl, rfl⟩, ?_⟩
    show Steps p.tables e below _ ((({ U with heap := s₂.heap, slotsUsed := s₂.slotsUsed } : State).setVm s₂.vm).setTop { g with pc := g.pc + len₂, stack := v.toList ++ g.stack })
    rw [← hs₂]
    exact hsteps
  · obtain ⟨e2, q2, q3, q4, q5, q6⟩ := id hsm
    have e3 : s₂ = ({ (U.calling g mk a).setFrames s₂.frames with heap := s₂.heap, slotsUsed := s₂.slotsUsed } : State).setVm s₂.vm := by
      have : s₂ = ({ s₂ with vm := (U.calling g mk a).vm } : State).setVm s₂.vm := rfl
      rw [e2] at this
      exact this
    have hf₂ : s₂.frames = .throwing q :: .java g :: U.frames.tail := hend
    have hW' : U.WarmedH s₂.vm := hW₂
    have hs₂ : s₂ = ((({ U with heap := s₂.heap, slotsUsed := s₂.slotsUsed } : State).setVm s₂.vm).setTop g).pushFrame (.throwing q) := by
      refine e3.trans ?_
      rw [hf₂, State.calling_eq h.top, State.setFrames_setFrames, State.pushFrame, State.frames_setTop _ hr', State.setTop_of_frames _ hr', State.setFrames_setFrames, hr]
      rfl
    have hsame : U.sameButNew ({ U with heap := s₂.heap, slotsUsed := s₂.slotsUsed } : State) L mc ms := by
      refine ⟨?_, q2, q3, q4, q5, q6⟩
      obtain ⟨t, ht, -⟩ := State.frames_cons hr
      show ({ U with heap := s₂.heap, slotsUsed := s₂.slotsUsed } : State) = { U.setFrames U.frames with heap := s₂.heap, slotsUsed := s₂.slotsUsed }
      rw [State.setFrames_self ht]
    subst hg
    refine Or.inr ⟨q, ⟨(({ U with heap := s₂.heap, slotsUsed := s₂.slotsUsed } : State).setVm s₂.vm), Ls ++ L, c0 + mc, s0 + ms⟩,
      ⟨X.admits, X.cas, X.clock, X.frames, X.room, X.hears, X.method, X.code, (X.here.setHeapUsed s₂.heap s₂.slotsUsed).setVm hW'.alike, X.tail, State.WarmedH.trans X.warmed hW', X.limits, X.bytes, X.same.trans (hsame.setVm s.vm)⟩,
      ⟨g, mk, s₂, L, E, ce, rfl, rfl, hx, hce, hcv, hcl, rfl, hL, rfl, rfl⟩, ?_⟩
    show Steps p.tables e below _ (((({ U with heap := s₂.heap, slotsUsed := s₂.slotsUsed } : State).setVm s₂.vm).setTop g).pushFrame (.throwing q))
    rw [← hs₂]
    exact hsteps
end Payer
section Calls
variable {p : Program} {l : Launch} {e : Env} {R : Room} {s : State} {m : MethodId} {args : Array Value} {below : List Frame} {meth : Method} {c : Code} {T : State} {locs : List Loc} {cells slots : Nat}
theorem vx_callV (X : Stand p l e R s m args below meth c T locs cells slots) (hexec : p.tables.exec = Jvm.exec) {own C : String} {index : Nat} {y : MethodName} {bytes : ByteArray} {maxL : Nat} {ret : Option FieldType}
    (hown : s.vm.findClass own = some m.cls) (hlink : (Cond.methodLink own index y).before args s = true) (hinst : (Cond.instanceMethod y).before args s = true) (hsel : (Cond.selects C y y).before args s = true)
    (hcode : (Cond.code y bytes maxL ret).before args s = true) (hy : y.cls ≠ "java/lang/invoke/MethodHandle" ∧ y.cls ≠ "java/lang/invoke/VarHandle")
    {W9 : Nat} {Pre : Pt → Array Value → Prop} {Post : Pt → Array Value → Option Value → Pt → Prop} {PostX : Pt → Array Value → Addr → Pt → Prop} (hK : vx_Back l R p e below s args y 3 W9 Pre Post PostX)
    {b : Addr} {cellB : Cell} (hcell : T.heap[b]? = some cellB) (hobj : cellB.vm.isStatics = false) (hcls : s.vm.findClass C = some cellB.cls)
    {g : JFrame} (hg : g.method = m) (hsize : g.locals.size = c.maxLocals) {argsL rest : List Value} (hlen : ∀ sig, parseMethodDescriptor y.desc = some sig → argsL.length = sig.parameters.length)
    (hstack : g.stack = argsL.reverse ++ .ref b :: rest) (hW : 2 * g.monitorRoom + (rest.map fun v => v.category).sum ≤ W9) (hdg : decode c.code g.pc = .ok (.invokevirtual index, 3))
    (hpre : ∀ vm₁, s.WarmedH vm₁ → Pre ⟨T.setVm vm₁, locs, cells, slots⟩ (Value.ref b :: argsL).toArray) :
    (∃ (v : Option Value) (vm₁ : Vm) (B : Pt), s.WarmedH vm₁ ∧ Stand p l e R s m args below meth c B.U B.locs B.cells B.slots ∧ Post ⟨T.setVm vm₁, locs, cells, slots⟩ (Value.ref b :: argsL).toArray v B ∧
      ∀ target, Steps p.tables e below (B.U.setTop { g with pc := g.pc + 3, stack := v.toList ++ rest }) target → Steps p.tables e below (T.setTop g) target) ∨
    (∃ (q : Addr) (vm₁ : Vm) (B : Pt), s.WarmedH vm₁ ∧ Stand p l e R s m args below meth c B.U B.locs B.cells B.slots ∧ PostX ⟨T.setVm vm₁, locs, cells, slots⟩ (Value.ref b :: argsL).toArray q B ∧
      Steps p.tables e below (T.setTop g) ((B.U.setTop { g with stack := rest }).pushFrame (.throwing q))) := by
  obtain ⟨mk, methM, hnamed, hmethM, hstM, habM⟩ := Cond.instanceMethod_spec hinst
  obtain ⟨methM', cM, hmethM', -, -, -, -, -, -, hsigM⟩ := Cond.code_spec hnamed hcode
  cases hmethM.symm.trans hmethM'
  obtain ⟨c2, r2, m2, q1, q2, q3, q4, kP, hkP, hkPi⟩ := Cond.selects_spec hsel
  cases hcls.symm.trans q1
  cases (State.methodFound?_of_named hnamed hy).symm.trans q2
  cases hnamed.symm.trans q3
  have hselP : selectMethod e.platform s.vm cellB.cls mk = .method mk := by rw [Launch.admits_selectMethod X.admits]; exact q4
  obtain ⟨vm₁, X₁, hstep₁⟩ := X.invokevirtual hexec hown hlink hnamed hmethM hstM hkP hkPi hy (a := b) (cell := cellB) hcell
    (fun z h => by rw [h] at hobj; cases hobj) hselP hmethM habM hkP hkPi (g := g) hg (argsL := argsL) (rest := rest) (hlen _ hsigM) hstack hdg
  rcases hK m meth c ⟨T.setVm vm₁, locs, cells, slots⟩ { g with stack := rest } (.invokevirtual index) mk (Value.ref b :: argsL).toArray X₁ hg hsize hdg hW (X₁.named hnamed) (hpre vm₁ X₁.warmed) with ⟨v, B, X', hpost, hsteps⟩ | ⟨q, B, X', hpost, hsteps⟩
  · exact Or.inl ⟨v, vm₁, B, X₁.warmed, X', hpost, fun target h => hstep₁ _ fun acts => by rw [doInvoke_state]; exact hsteps.trans h⟩
  · exact Or.inr ⟨q, vm₁, B, X₁.warmed, X', hpost, hstep₁ _ fun acts => by rw [doInvoke_state]; exact hsteps⟩
theorem vx_callS (X : Stand p l e R s m args below meth c T locs cells slots) (hexec : p.tables.exec = Jvm.exec) {own : String} {index : Nat} {y : MethodName} {bytes : ByteArray} {maxL : Nat} {ret : Option FieldType}
    (hown : s.vm.findClass own = some m.cls) (hlink : (Cond.methodLink own index y).before args s = true) (hstat : (Cond.static y).before args s = true) (hinit : (Cond.initialized y.cls).before args s = true)
    (hcode : (Cond.code y bytes maxL ret).before args s = true) (hy : y.cls ≠ "java/lang/invoke/MethodHandle" ∧ y.cls ≠ "java/lang/invoke/VarHandle")
    {W9 : Nat} {Pre : Pt → Array Value → Prop} {Post : Pt → Array Value → Option Value → Pt → Prop} {PostX : Pt → Array Value → Addr → Pt → Prop} (hK : vx_Back l R p e below s args y 3 W9 Pre Post PostX)
    {g : JFrame} (hg : g.method = m) (hsize : g.locals.size = c.maxLocals) {argsL rest : List Value} (hlen : ∀ sig, parseMethodDescriptor y.desc = some sig → argsL.length = sig.parameters.length)
    (hstack : g.stack = argsL.reverse ++ rest) (hW : 2 * g.monitorRoom + (rest.map fun v => v.category).sum ≤ W9) (hdg : decode c.code g.pc = .ok (.invokestatic index, 3))
    (hpre : ∀ vm₁, s.WarmedH vm₁ → Pre ⟨T.setVm vm₁, locs, cells, slots⟩ argsL.toArray) :
    (∃ (v : Option Value) (vm₁ : Vm) (B : Pt), s.WarmedH vm₁ ∧ Stand p l e R s m args below meth c B.U B.locs B.cells B.slots ∧ Post ⟨T.setVm vm₁, locs, cells, slots⟩ argsL.toArray v B ∧
      ∀ target, Steps p.tables e below (B.U.setTop { g with pc := g.pc + 3, stack := v.toList ++ rest }) target → Steps p.tables e below (T.setTop g) target) ∨
    (∃ (q : Addr) (vm₁ : Vm) (B : Pt), s.WarmedH vm₁ ∧ Stand p l e R s m args below meth c B.U B.locs B.cells B.slots ∧ PostX ⟨T.setVm vm₁, locs, cells, slots⟩ argsL.toArray q B ∧
      Steps p.tables e below (T.setTop g) ((B.U.setTop { g with stack := rest }).pushFrame (.throwing q))) := by
  obtain ⟨mk, hnamed⟩ := Cond.code_named hcode
  obtain ⟨methM, cM, hmethM, -, -, -, -, -, -, hsigM⟩ := Cond.code_spec hnamed hcode
  have hstatic : methM.isStatic = true := Cond.static_spec hnamed hmethM hstat
  obtain ⟨kP, hkP, -⟩ := className_of_methodNamed hnamed
  have hinitP : kP.init = .initialized := Cond.initialized_spec (findClass_of_methodNamed hnamed) hkP hinit
  obtain ⟨vm₁, X₁, hstep₁⟩ := X.invokestatic hexec hown hlink hnamed hmethM hstatic hkP hinitP hy (g := g) hg (argsL := argsL) (rest := rest) (hlen _ hsigM) hstack hdg
  rcases hK m meth c ⟨T.setVm vm₁, locs, cells, slots⟩ { g with stack := rest } (.invokestatic index) mk argsL.toArray X₁ hg hsize hdg hW (X₁.named hnamed) (hpre vm₁ X₁.warmed) with ⟨v, B, X', hpost, hsteps⟩ | ⟨q, B, X', hpost, hsteps⟩
  · exact Or.inl ⟨v, vm₁, B, X₁.warmed, X', hpost, fun target h => hstep₁ _ fun acts => by rw [doInvoke_state]; exact hsteps.trans h⟩
  · exact Or.inr ⟨q, vm₁, B, X₁.warmed, X', hpost, hstep₁ _ fun acts => by rw [doInvoke_state]; exact hsteps⟩
end Calls
theorem vx_cls {s : State} {T : State} {vm₁ : Vm} {E : String} {k : ClassId} (hW : s.WarmedH vm₁) (h : (T.setVm vm₁).vm.findClass E = some k) : s.vm.findClass E = some k := by
  have h1 : vm₁.findClass E = some k := h
  rw [hW.alike.findClass] at h1
  exact h1
/-- the method's frame g, with q thrown over it -/
def vx_W (p : Program) (l : Launch) (e : Env) (R : Room) (s : State) (m : MethodId) (args : Array Value) (below : List Frame) (meth : Method) (c : Code) (H : Heap) (locs : List Loc) (cells slots : Nat) (Q : State → Prop) (g : JFrame) (q : Addr) : Prop :=
  ∀ T : State, T.heap = H → Stand p l e R s m args below meth c T locs cells slots → ∃ t, Steps p.tables e below ((T.setTop g).pushFrame (.throwing q)) t ∧ Q t
def vx_Run (p : Program) (l : Launch) (e : Env) (R : Room) (s : State) (m : MethodId) (args : Array Value) (below : List Frame) (meth : Method) (c : Code) (H : Heap) (locs : List Loc) (cells slots mc ms : Nat) (g : JFrame) (rest : List Value) (Qa : State → Outcome → State → Prop) (XC : String → State → State → Prop) (free : Addr → Prop) : Prop :=
  ∀ T : State, T.heap = H → Stand p l e R s m args below meth c T locs cells slots →
    (∃ (v : Option Value) (st₀ t T' : State) (L : List Loc), st₀.heap = H ∧ Stand p l e R s m args below meth c T' (locs ++ L) (cells + mc) (slots + ms) ∧ (∀ q ∈ L, free q.base) ∧ T'.heap = t.heap ∧ T'.vm = t.vm ∧ Qa st₀ (.returned v) t ∧
      Goes p e below T g T' { g with pc := g.pc + 3, stack := v.toList ++ rest }) ∨
    (∃ (q : Addr) (st₀ t T' : State) (L : List Loc) (E : String) (ce : Cell), st₀.heap = H ∧ Stand p l e R s m args below meth c T' (locs ++ L) (cells + mc) (slots + ms) ∧ (∀ z ∈ L, free z.base) ∧ T'.heap = t.heap ∧ T'.vm = t.vm ∧ XC E st₀ t ∧ t.heap[q]? = some ce ∧ ce.vm = .none ∧ s.vm.findClass E = some ce.cls ∧
      Steps p.tables e below (T.setTop g) ((T'.setTop { g with stack := rest }).pushFrame (.throwing q)))
def vx_X {S : Type} (px : S → Prop) (B : String → S → State → Prop) (A : Nat → Prop) : String → State → State → Prop := fun E st t => ∃ u : S, px u ∧ B E u t ∧ va_F A st t
section Runs
variable {p : Program} {l : Launch} {e : Env} {R : Room} {s : State} {m : MethodId} {args : Array Value} {below : List Frame} {meth : Method} {c : Code} {H : Heap} {locs : List Loc} {cells slots : Nat}
variable {y : MethodName} {bytes cc : ByteArray} {maxL nL mc ms n index : Nat} {ret : Option FieldType} {ws : List Cond} {rm : Room} {Pc : Array Value → State → Prop} {Qc : Array Value → State → Outcome → State → Prop} {XC : String → State → State → Prop} {free : Addr → Prop} {Ts : List Cond} {own C : String} {b : Addr} {As rest : List Value} {g : JFrame}
theorem vx_callBack (cb : CallB R s args own index y bytes maxL ret ws rm mc ms n) (hM : vx_Met l y ws rm Pc Qc XC mc ms free) (hbl : FrameBlind Pc) : vx_Back l R p e below s args y 3 8 (PreOf R mc ms Pc) (PostOf Qc mc ms free) (vx_Post XC mc ms free) := by
  obtain ⟨hrc, hrs, hfr, hlo, hws, hcw, -, hini, -⟩ := cb
  exact vx_back (bytes := bytes) (maxL := maxL) (ret := ret) hM hbl hrc hrs hfr hlo hws hcw (fun a' U hW => word_at hW (Or.inl (by first | rfl | simp [Cond.onTables, Cond.keeps, Cond.steady])) hini)
theorem vx_runV (S : CallFix p m c cc nL s args Ts own) (hM : vx_Met l y ws rm Pc Qc XC mc ms free) (cw : CallW R s args own C index y bytes maxL ret ws rm mc ms n) (hp : PreV s H C b Pc As)
    (hg : g.method = m) (hn : As.length = n) (hsize : g.locals.size = nL) (hstack : g.stack = As.reverse ++ .ref b :: rest) (hW : 2 * g.monitorRoom + (rest.map fun v => v.category).sum ≤ 8) (hdg : decode cc g.pc = .ok (.invokevirtual index, 3)) (hf : cells + mc ≤ R.cells ∧ slots + ms ≤ R.slots) :
    vx_Run p l e R s m args below meth c H locs cells slots mc ms g rest (Qc (Value.ref b :: As).toArray) XC free := by
  have hK : vx_Back l R p e below s args y 3 8 (PreOf R mc ms Pc) (PostOf Qc mc ms free) (vx_Post XC mc ms free) := vx_callBack cw.1 hM hp.1
  obtain ⟨⟨-, -, -, -, -, -, hcode, -, hy, hlen, hl⟩, hin, hse⟩ := cw
  obtain ⟨hx, hb, hml, ho, -⟩ := S
  obtain ⟨-, ⟨cellB, hcB, hoB, hclB⟩, hPc⟩ := hp
  intro T hT X
  rcases vx_callV X hx (C := C) (bytes := bytes) (maxL := maxL) (ret := ret) ho hl hin hse hcode hy hK (by rw [hT]; exact hcB) hoB hclB hg (hsize.trans hml.symm) (argsL := As) (rest := rest) (fun sig h => hn.trans (hlen sig h)) hstack hW (by rw [hb]; exact hdg)
    (fun vm₁ hW₁ => ⟨hf.1, hf.2, hPc (T.setVm vm₁) hT hW₁⟩) with ⟨v, vm₁, ⟨U', l2, c2, s2⟩, hW₁, X', ⟨g', mk, t, L, e1, e2, hq, h1, hL, h2, h3⟩, st⟩ | ⟨q, vm₁, ⟨U', l2, c2, s2⟩, hW₁, X', ⟨g', mk, t, L, E, ce, e1, e2, hq, hce, hcv, hcl, h1, hL, h2, h3⟩, st⟩
  · dsimp only [Pt.U, Pt.locs, Pt.cells, Pt.slots] at X' e1 e2 h1 h2 h3 st
    subst h1; subst h2; subst h3
    exact Or.inl ⟨v, (T.setVm vm₁).calling g' mk (Value.ref b :: As).toArray, t, U', L, hT, X', hL, e1, e2, hq, st⟩
  · dsimp only [Pt.U, Pt.locs, Pt.cells, Pt.slots] at X' e1 e2 h1 h2 h3 st hcl
    subst h1; subst h2; subst h3
    exact Or.inr ⟨q, (T.setVm vm₁).calling g' mk (Value.ref b :: As).toArray, t, U', L, E, ce, hT, X', hL, e1, e2, hq, hce, hcv, vx_cls hW₁ hcl, st⟩
theorem vx_runS (S : CallFix p m c cc nL s args Ts own) (hM : vx_Met l y ws rm Pc Qc XC mc ms free) (cw : CallB R s args own index y bytes maxL ret ws rm mc ms n ∧ (Cond.static y).before args s = true) (hp : PreS s H Pc As)
    (hg : g.method = m) (hn : As.length = n) (hsize : g.locals.size = nL) (hstack : g.stack = As.reverse ++ rest) (hW : 2 * g.monitorRoom + (rest.map fun v => v.category).sum ≤ 8) (hdg : decode cc g.pc = .ok (.invokestatic index, 3)) (hf : cells + mc ≤ R.cells ∧ slots + ms ≤ R.slots) :
    vx_Run p l e R s m args below meth c H locs cells slots mc ms g rest (Qc As.toArray) XC free := by
  have hK : vx_Back l R p e below s args y 3 8 (PreOf R mc ms Pc) (PostOf Qc mc ms free) (vx_Post XC mc ms free) := vx_callBack cw.1 hM hp.1
  obtain ⟨⟨-, -, -, -, -, -, hcode, hini, hy, hlen, hl⟩, hstt⟩ := cw
  obtain ⟨hx, hb, hml, ho, -⟩ := S
  intro T hT X
  rcases vx_callS X hx (bytes := bytes) (maxL := maxL) (ret := ret) ho hl hstt hini hcode hy hK hg (hsize.trans hml.symm) (argsL := As) (rest := rest) (fun sig h => hn.trans (hlen sig h)) hstack hW (by rw [hb]; exact hdg)
    (fun vm₁ hW₁ => ⟨hf.1, hf.2, hp.2 (T.setVm vm₁) hT hW₁⟩) with ⟨v, vm₁, ⟨U', l2, c2, s2⟩, hW₁, X', ⟨g', mk, t, L, e1, e2, hq, h1, hL, h2, h3⟩, st⟩ | ⟨q, vm₁, ⟨U', l2, c2, s2⟩, hW₁, X', ⟨g', mk, t, L, E, ce, e1, e2, hq, hce, hcv, hcl, h1, hL, h2, h3⟩, st⟩
  · dsimp only [Pt.U, Pt.locs, Pt.cells, Pt.slots] at X' e1 e2 h1 h2 h3 st
    subst h1; subst h2; subst h3
    exact Or.inl ⟨v, (T.setVm vm₁).calling g' mk As.toArray, t, U', L, hT, X', hL, e1, e2, hq, st⟩
  · dsimp only [Pt.U, Pt.locs, Pt.cells, Pt.slots] at X' e1 e2 h1 h2 h3 st hcl
    subst h1; subst h2; subst h3
    exact Or.inr ⟨q, (T.setVm vm₁).calling g' mk As.toArray, t, U', L, E, ce, hT, X', hL, e1, e2, hq, hce, hcv, vx_cls hW₁ hcl, st⟩
end Runs
section Rows
variable {p : Program} {l : Launch} {e : Env} {R : Room} {s : State} {m : MethodId} {args : Array Value} {below : List Frame} {meth : Method} {c : Code} {H : Heap} {locs : List Loc} {cells slots : Nat} {Q : State → Prop}
variable {mc ms : Nat} {free : Addr → Prop} {A0 A1 : Nat → Prop} {H0 : Heap} {a : Array Value} {pc : Nat} {ls : Array Slot} {st0 rest : List Value}
theorem vx_keep {st₀ t T' : State} {L : List Loc} (h0 : st₀.heap = H) (e1 : T'.heap = t.heap) (hS : va_S A0 H0 H locs) (hA : ∀ q, q < H.size → A1 q → A0 q) (hf : ∀ q, free q → A0 q) (hL : ∀ q ∈ L, free q.base) (hF : va_F A1 st₀ t) :
    H.size ≤ T'.heap.size ∧ (∀ q : Nat, q < H.size → ¬ A1 q → T'.heap[q]? = H[q]?) ∧ va_S A0 H0 T'.heap (locs ++ L) := by
  obtain ⟨hz, hk⟩ := hF
  rw [h0] at hz hk
  exact ⟨by rw [e1]; exact hz, fun q h1 h2 => by rw [e1]; exact hk q h1 h2,
    ⟨Nat.le_trans hS.1 (by rw [e1]; exact hz), fun q h1 h2 => by rw [e1, hk q (Nat.lt_of_lt_of_le h1 hS.1) (fun z => h2 (hA q (Nat.lt_of_lt_of_le h1 hS.1) z))]; exact hS.2.1 q h1 h2, fun q hq => by
      rcases List.mem_append.mp hq with h | h
      · exact hS.2.2 q h
      · exact hf _ (hL q h)⟩⟩
theorem vx_calli {S SX : Type} {post : Int32 → S → Prop} {px : SX → Prop} {B : S → State → Prop} {BX : String → SX → State → Prop} {AX : Nat → Prop} (hr : vx_Run p l e R s m args below meth c H locs cells slots mc ms (F0 m pc ls st0) rest (va_Qi post B A1 a) (vx_X px BX AX) free) (hS : va_S A0 H0 H locs) (hA : ∀ q, q < H.size → A1 q → A0 q) (hf : ∀ q, free q → A0 q) (hAX : ∀ q, q < H.size → AX q → A0 q)
    (kx : ∀ (E : String) (ce : Cell) (q9 : Addr) (u : SX) (t : State) (H1 : Heap) (locs1 : List Loc), t.heap = H1 → s.vm.Alike t.vm → px u → BX E u t → H.size ≤ H1.size → (∀ q : Nat, q < H.size → ¬ AX q → H1[q]? = H[q]?) → va_S A0 H0 H1 locs1 → H1[q9]? = some ce → ce.vm = .none → s.vm.findClass E = some ce.cls → vx_W p l e R s m args below meth c H1 locs1 (cells + mc) (slots + ms) Q (F0 m pc ls rest) q9)
    (kk : ∀ (r : Int32) (u : S) (t : State) (H1 : Heap) (locs1 : List Loc), t.heap = H1 → s.vm.Alike t.vm → post r u → B u t → H.size ≤ H1.size → (∀ q : Nat, q < H.size → ¬ A1 q → H1[q]? = H[q]?) → va_S A0 H0 H1 locs1 → W p l e R s m args below meth c H1 locs1 (cells + mc) (slots + ms) Q (F0 m (pc + 3) ls (.int r :: rest))) : W p l e R s m args below meth c H locs cells slots Q (F0 m pc ls st0) := by
  intro T hT X
  rcases hr T hT X with ⟨v, st₀, t, T', L, h0, X', hL, e1, e2, ⟨⟨r, u, hv, hp, hb⟩, hF⟩, st⟩ | ⟨q, st₀, t, T', L, E, ce, h0, X', hL, e1, e2, ⟨u, hp, hb, hF⟩, hce, hcv, hcl, st⟩
  · cases hv
    obtain ⟨k1, k2, k3⟩ := vx_keep h0 e1 hS hA hf hL hF
    obtain ⟨t2, a1, b1⟩ := kk r u t T'.heap (locs ++ L) e1.symm (by rw [← e2]; exact X'.warmed.alike) hp hb k1 k2 k3 T' rfl X'
    exact ⟨t2, st t2 a1, b1⟩
  · obtain ⟨k1, k2, k3⟩ := vx_keep h0 e1 hS hAX hf hL hF
    obtain ⟨t2, a1, b1⟩ := kx E ce q u t T'.heap (locs ++ L) e1.symm (by rw [← e2]; exact X'.warmed.alike) hp hb k1 k2 k3 (by rw [e1]; exact hce) hcv hcl T' rfl X'
    exact ⟨t2, st.trans a1, b1⟩
theorem vx_calll {S SX : Type} {post : Int64 → S → Prop} {px : SX → Prop} {B : S → State → Prop} {BX : String → SX → State → Prop} {AX : Nat → Prop} (hr : vx_Run p l e R s m args below meth c H locs cells slots mc ms (F0 m pc ls st0) rest (va_Ql post B A1 a) (vx_X px BX AX) free) (hS : va_S A0 H0 H locs) (hA : ∀ q, q < H.size → A1 q → A0 q) (hf : ∀ q, free q → A0 q) (hAX : ∀ q, q < H.size → AX q → A0 q)
    (kx : ∀ (E : String) (ce : Cell) (q9 : Addr) (u : SX) (t : State) (H1 : Heap) (locs1 : List Loc), t.heap = H1 → s.vm.Alike t.vm → px u → BX E u t → H.size ≤ H1.size → (∀ q : Nat, q < H.size → ¬ AX q → H1[q]? = H[q]?) → va_S A0 H0 H1 locs1 → H1[q9]? = some ce → ce.vm = .none → s.vm.findClass E = some ce.cls → vx_W p l e R s m args below meth c H1 locs1 (cells + mc) (slots + ms) Q (F0 m pc ls rest) q9)
    (kk : ∀ (r : Int64) (u : S) (t : State) (H1 : Heap) (locs1 : List Loc), t.heap = H1 → s.vm.Alike t.vm → post r u → B u t → H.size ≤ H1.size → (∀ q : Nat, q < H.size → ¬ A1 q → H1[q]? = H[q]?) → va_S A0 H0 H1 locs1 → W p l e R s m args below meth c H1 locs1 (cells + mc) (slots + ms) Q (F0 m (pc + 3) ls (.long r :: rest))) : W p l e R s m args below meth c H locs cells slots Q (F0 m pc ls st0) := by
  intro T hT X
  rcases hr T hT X with ⟨v, st₀, t, T', L, h0, X', hL, e1, e2, ⟨⟨r, u, hv, hp, hb⟩, hF⟩, st⟩ | ⟨q, st₀, t, T', L, E, ce, h0, X', hL, e1, e2, ⟨u, hp, hb, hF⟩, hce, hcv, hcl, st⟩
  · cases hv
    obtain ⟨k1, k2, k3⟩ := vx_keep h0 e1 hS hA hf hL hF
    obtain ⟨t2, a1, b1⟩ := kk r u t T'.heap (locs ++ L) e1.symm (by rw [← e2]; exact X'.warmed.alike) hp hb k1 k2 k3 T' rfl X'
    exact ⟨t2, st t2 a1, b1⟩
  · obtain ⟨k1, k2, k3⟩ := vx_keep h0 e1 hS hAX hf hL hF
    obtain ⟨t2, a1, b1⟩ := kx E ce q u t T'.heap (locs ++ L) e1.symm (by rw [← e2]; exact X'.warmed.alike) hp hb k1 k2 k3 (by rw [e1]; exact hce) hcv hcl T' rfl X'
    exact ⟨t2, st.trans a1, b1⟩
theorem vx_callf {S SX : Type} {post : UInt32 → S → Prop} {px : SX → Prop} {B : S → State → Prop} {BX : String → SX → State → Prop} {AX : Nat → Prop} (hr : vx_Run p l e R s m args below meth c H locs cells slots mc ms (F0 m pc ls st0) rest (va_Qf post B A1 a) (vx_X px BX AX) free) (hS : va_S A0 H0 H locs) (hA : ∀ q, q < H.size → A1 q → A0 q) (hf : ∀ q, free q → A0 q) (hAX : ∀ q, q < H.size → AX q → A0 q)
    (kx : ∀ (E : String) (ce : Cell) (q9 : Addr) (u : SX) (t : State) (H1 : Heap) (locs1 : List Loc), t.heap = H1 → s.vm.Alike t.vm → px u → BX E u t → H.size ≤ H1.size → (∀ q : Nat, q < H.size → ¬ AX q → H1[q]? = H[q]?) → va_S A0 H0 H1 locs1 → H1[q9]? = some ce → ce.vm = .none → s.vm.findClass E = some ce.cls → vx_W p l e R s m args below meth c H1 locs1 (cells + mc) (slots + ms) Q (F0 m pc ls rest) q9)
    (kk : ∀ (r : UInt32) (u : S) (t : State) (H1 : Heap) (locs1 : List Loc), t.heap = H1 → s.vm.Alike t.vm → post r u → B u t → H.size ≤ H1.size → (∀ q : Nat, q < H.size → ¬ A1 q → H1[q]? = H[q]?) → va_S A0 H0 H1 locs1 → W p l e R s m args below meth c H1 locs1 (cells + mc) (slots + ms) Q (F0 m (pc + 3) ls (.float r :: rest))) : W p l e R s m args below meth c H locs cells slots Q (F0 m pc ls st0) := by
  intro T hT X
  rcases hr T hT X with ⟨v, st₀, t, T', L, h0, X', hL, e1, e2, ⟨⟨r, u, hv, hp, hb⟩, hF⟩, st⟩ | ⟨q, st₀, t, T', L, E, ce, h0, X', hL, e1, e2, ⟨u, hp, hb, hF⟩, hce, hcv, hcl, st⟩
  · cases hv
    obtain ⟨k1, k2, k3⟩ := vx_keep h0 e1 hS hA hf hL hF
    obtain ⟨t2, a1, b1⟩ := kk r u t T'.heap (locs ++ L) e1.symm (by rw [← e2]; exact X'.warmed.alike) hp hb k1 k2 k3 T' rfl X'
    exact ⟨t2, st t2 a1, b1⟩
  · obtain ⟨k1, k2, k3⟩ := vx_keep h0 e1 hS hAX hf hL hF
    obtain ⟨t2, a1, b1⟩ := kx E ce q u t T'.heap (locs ++ L) e1.symm (by rw [← e2]; exact X'.warmed.alike) hp hb k1 k2 k3 (by rw [e1]; exact hce) hcv hcl T' rfl X'
    exact ⟨t2, st.trans a1, b1⟩
theorem vx_calld {S SX : Type} {post : UInt64 → S → Prop} {px : SX → Prop} {B : S → State → Prop} {BX : String → SX → State → Prop} {AX : Nat → Prop} (hr : vx_Run p l e R s m args below meth c H locs cells slots mc ms (F0 m pc ls st0) rest (va_Qd post B A1 a) (vx_X px BX AX) free) (hS : va_S A0 H0 H locs) (hA : ∀ q, q < H.size → A1 q → A0 q) (hf : ∀ q, free q → A0 q) (hAX : ∀ q, q < H.size → AX q → A0 q)
    (kx : ∀ (E : String) (ce : Cell) (q9 : Addr) (u : SX) (t : State) (H1 : Heap) (locs1 : List Loc), t.heap = H1 → s.vm.Alike t.vm → px u → BX E u t → H.size ≤ H1.size → (∀ q : Nat, q < H.size → ¬ AX q → H1[q]? = H[q]?) → va_S A0 H0 H1 locs1 → H1[q9]? = some ce → ce.vm = .none → s.vm.findClass E = some ce.cls → vx_W p l e R s m args below meth c H1 locs1 (cells + mc) (slots + ms) Q (F0 m pc ls rest) q9)
    (kk : ∀ (r : UInt64) (u : S) (t : State) (H1 : Heap) (locs1 : List Loc), t.heap = H1 → s.vm.Alike t.vm → post r u → B u t → H.size ≤ H1.size → (∀ q : Nat, q < H.size → ¬ A1 q → H1[q]? = H[q]?) → va_S A0 H0 H1 locs1 → W p l e R s m args below meth c H1 locs1 (cells + mc) (slots + ms) Q (F0 m (pc + 3) ls (.double r :: rest))) : W p l e R s m args below meth c H locs cells slots Q (F0 m pc ls st0) := by
  intro T hT X
  rcases hr T hT X with ⟨v, st₀, t, T', L, h0, X', hL, e1, e2, ⟨⟨r, u, hv, hp, hb⟩, hF⟩, st⟩ | ⟨q, st₀, t, T', L, E, ce, h0, X', hL, e1, e2, ⟨u, hp, hb, hF⟩, hce, hcv, hcl, st⟩
  · cases hv
    obtain ⟨k1, k2, k3⟩ := vx_keep h0 e1 hS hA hf hL hF
    obtain ⟨t2, a1, b1⟩ := kk r u t T'.heap (locs ++ L) e1.symm (by rw [← e2]; exact X'.warmed.alike) hp hb k1 k2 k3 T' rfl X'
    exact ⟨t2, st t2 a1, b1⟩
  · obtain ⟨k1, k2, k3⟩ := vx_keep h0 e1 hS hAX hf hL hF
    obtain ⟨t2, a1, b1⟩ := kx E ce q u t T'.heap (locs ++ L) e1.symm (by rw [← e2]; exact X'.warmed.alike) hp hb k1 k2 k3 (by rw [e1]; exact hce) hcv hcl T' rfl X'
    exact ⟨t2, st.trans a1, b1⟩
theorem vx_callv {S SX : Type} {post : S → Prop} {px : SX → Prop} {B : S → State → Prop} {BX : String → SX → State → Prop} {AX : Nat → Prop} (hr : vx_Run p l e R s m args below meth c H locs cells slots mc ms (F0 m pc ls st0) rest (va_Qv post B A1 a) (vx_X px BX AX) free) (hS : va_S A0 H0 H locs) (hA : ∀ q, q < H.size → A1 q → A0 q) (hf : ∀ q, free q → A0 q) (hAX : ∀ q, q < H.size → AX q → A0 q)
    (kx : ∀ (E : String) (ce : Cell) (q9 : Addr) (u : SX) (t : State) (H1 : Heap) (locs1 : List Loc), t.heap = H1 → s.vm.Alike t.vm → px u → BX E u t → H.size ≤ H1.size → (∀ q : Nat, q < H.size → ¬ AX q → H1[q]? = H[q]?) → va_S A0 H0 H1 locs1 → H1[q9]? = some ce → ce.vm = .none → s.vm.findClass E = some ce.cls → vx_W p l e R s m args below meth c H1 locs1 (cells + mc) (slots + ms) Q (F0 m pc ls rest) q9)
    (kk : ∀ (u : S) (t : State) (H1 : Heap) (locs1 : List Loc), t.heap = H1 → s.vm.Alike t.vm → post u → B u t → H.size ≤ H1.size → (∀ q : Nat, q < H.size → ¬ A1 q → H1[q]? = H[q]?) → va_S A0 H0 H1 locs1 → W p l e R s m args below meth c H1 locs1 (cells + mc) (slots + ms) Q (F0 m (pc + 3) ls (rest))) : W p l e R s m args below meth c H locs cells slots Q (F0 m pc ls st0) := by
  intro T hT X
  rcases hr T hT X with ⟨v, st₀, t, T', L, h0, X', hL, e1, e2, ⟨⟨u, hv, hp, hb⟩, hF⟩, st⟩ | ⟨q, st₀, t, T', L, E, ce, h0, X', hL, e1, e2, ⟨u, hp, hb, hF⟩, hce, hcv, hcl, st⟩
  · cases hv
    obtain ⟨k1, k2, k3⟩ := vx_keep h0 e1 hS hA hf hL hF
    obtain ⟨t2, a1, b1⟩ := kk u t T'.heap (locs ++ L) e1.symm (by rw [← e2]; exact X'.warmed.alike) hp hb k1 k2 k3 T' rfl X'
    exact ⟨t2, st t2 a1, b1⟩
  · obtain ⟨k1, k2, k3⟩ := vx_keep h0 e1 hS hAX hf hL hF
    obtain ⟨t2, a1, b1⟩ := kx E ce q u t T'.heap (locs ++ L) e1.symm (by rw [← e2]; exact X'.warmed.alike) hp hb k1 k2 k3 (by rw [e1]; exact hce) hcv hcl T' rfl X'
    exact ⟨t2, st.trans a1, b1⟩
/-- caught by the row x of this method's table; the rows ahead don't take it -/
theorem vx_catch {own name : String} {E : String} {ce : Cell} {q : Addr} (hown : s.vm.findClass own = some m.cls) (pre : List ExceptionTableEntry) (x : ExceptionTableEntry) (suf : List ExceptionTableEntry) (hsplit : c.exceptionTable.toList = pre ++ x :: suf)
    (hpass : ∀ z ∈ pre, covers z pc = false ∨ (z.catchType ≠ 0 ∧ ∃ nm : String, (Cond.classLink own z.catchType nm).before args s = true ∧ va_Nc E nm s)) (hx : covers x pc = true) (h0 : x.catchType ≠ 0)
    (hlink : (Cond.classLink own x.catchType name).before args s = true) (hcast : (Cond.castable E name).before args s = true) (hcell : H[q]? = some ce) (hv : ce.vm = .none) (hcl : s.vm.findClass E = some ce.cls)
    (kk : W p l e R s m args below meth c H locs cells slots Q (F0 m x.handlerPc ls [.ref q])) : vx_W p l e R s m args below meth c H locs cells slots Q (F0 m pc ls rest) q := by
  intro T hT X
  have hpl : e.platform.magicAccessors = ({} : Platform).magicAccessors := by rw [X.admits.platform]
  obtain ⟨c3, c4, hc3, hc4, hasg⟩ := Cond.castable_spec hcast
  cases Option.some.inj (hc3.symm.trans hcl)
  obtain ⟨c5, hc5, hcl5⟩ := Cond.classLink_spec hown hlink e.platform hpl
  cases Option.some.inj (hc4.symm.trans hc5)
  obtain ⟨vm', X', st⟩ := X.thenCaughtThrough q (g := F0 m pc ls rest) rfl (Steps.refl _) (by rw [hT]; exact hcell) (by rw [hv]; rfl) (by obtain ⟨k9, h9, -⟩ := Vm.findClass_spec hcl; exact ⟨k9, h9⟩) pre x suf hsplit
    (fun z hz => by
      rcases hpass z hz with h | ⟨hz0, nm, hl1, hn1⟩
      · exact Or.inl h
      · obtain ⟨c6, hc6, hcl6⟩ := Cond.classLink_spec hown hl1 e.platform hpl
        obtain ⟨a8, b8, h1, h2, h3⟩ := hn1
        cases Option.some.inj (h1.symm.trans hcl)
        cases Option.some.inj (h2.symm.trans hc6)
        exact Or.inr ⟨hz0, _, hcl6, h3⟩) hx (Or.inr ⟨h0, c4, hcl5, hasg⟩)
  obtain ⟨t, a1, b1⟩ := kk (T.setVm vm') hT X'
  exact ⟨t, st.trans a1, b1⟩
end Rows
section Ends
variable {p : Program} {l : Launch} {e : Env} {R : Room} {s : State} {m : MethodId} {args : Array Value} {below : List Frame} {meth : Method} {c : Code} {H : Heap} {locs : List Loc} {cells slots : Nat} {Q : State → Prop}
variable {mc ms : Nat} {free : Addr → Prop} {A0 A1 : Nat → Prop} {H0 : Heap} {a : Array Value} {ls : Array Slot} {st0 rest : List Value}
variable {Qc : Array Value → State → Outcome → State → Prop} {XC : String → State → State → Prop}
/-- what a body that may throw owes at its end -/
def vx_MQ (below : List Frame) (Qc : Array Value → State → Outcome → State → Prop) (XC : String → State → State → Prop) (a : Array Value) (s : State) (mc ms : Nat) (free : Addr → Prop) : State → Prop := fun t =>
  ∃ o, t.status = .running ∧ Ended t below o ∧ vx_Q Qc XC mc ms free a s o t
theorem vx_ret {g : JFrame} {mc ms : Nat} (k : W p l e R s m args below meth c H locs cells slots (MQ below Qc args s mc ms free) g) : W p l e R s m args below meth c H locs cells slots (vx_MQ below Qc XC args s mc ms free) g := by
  intro T hT X
  obtain ⟨t, a1, o, b1, b2, b3, b4⟩ := k T hT X
  exact ⟨t, a1, o, b1, b2, Or.inl ⟨b3, b4⟩⟩
/-- not caught here: it goes on to the caller -/
theorem vx_widen {g : JFrame} {q : Addr} {k n : Nat} (h1 : cells ≤ k) (h2 : slots ≤ n) (kk : vx_W p l e R s m args below meth c H locs k n Q g q) : vx_W p l e R s m args below meth c H locs cells slots Q g q := fun T hT X => kk T hT (stand_widen X h1 h2)
theorem vx_out {pc : Nat} {E : String} {ce : Cell} {q : Addr} {mc ms : Nat} (hout : ∀ x ∈ c.exceptionTable.toList, covers x pc = false) (hlocks : meth.locks = false) (hcell : H[q]? = some ce) (hv : ce.vm = .none) (hcl : s.vm.findClass E = some ce.cls)
    (hx : ∀ t : State, t.heap = H → s.vm.Alike t.vm → XC E s t) (hf : ∀ z ∈ locs, free z.base) (hc : cells ≤ mc) (hs : slots ≤ ms) :
    vx_W p l e R s m args below meth c H locs cells slots (vx_MQ below Qc XC args s mc ms free) (F0 m pc ls rest) q := by
  intro T hT X
  obtain ⟨st1, hrun, hend, hW, hsm⟩ := X.leaveThrown q (g := F0 m pc ls rest) rfl rfl rfl hout hlocks
  have hcell9 : (T.setFrames (.throwing q :: below)).heap[q]? = some ce := by
    show T.heap[q]? = some ce
    rw [hT]; exact hcell
  exact ⟨_, st1, .threw q, hrun, hend, Or.inr ⟨q, rfl, E, ce, locs, hx _ hT hW.alike, hcell9, hv, hcl, hW, hsm.mono hc hs, hf⟩⟩
theorem vx_frame {U : State} {k n : Nat} (h : s.sameButNew ({ U with vm := s.vm } : State) locs k n) : s.heap.size ≤ U.heap.size ∧ ∀ q : Nat, q < s.heap.size → (∀ z ∈ locs, z.base ≠ q) → U.heap[q]? = s.heap[q]? := by
  obtain ⟨-, h2, -, -, -, h6⟩ := h
  refine ⟨h2, fun q hq hz => ?_⟩
  obtain ⟨c9, e1, e2, e3, e4⟩ := h6 q _ (Array.getElem?_eq_getElem hq)
  have hs : c9.slots = (s.heap[q]).slots := Array.ext_getElem? fun i => e4 i fun hm => hz _ hm rfl
  have h9 : c9 = s.heap[q] := by
    rw [hs] at e2
    exact e2
  have e5 : U.heap[q]? = some c9 := e1
  rw [e5, h9, Array.getElem?_eq_getElem hq]
/-- the words of a throw but the four that speak of the heap -/
def vx_no (w : Cond) : Bool := decide (w ≠ .isRef (.static Bundle.tN "UNASSIGNED_STACK" Bundle.steD)) && decide (w ≠ .isRef (.static Bundle.tN "SUPPRESSED_SENTINEL" Bundle.listD)) && decide (w ≠ .laysStatic Bundle.tN "UNASSIGNED_STACK" Bundle.steD) && decide (w ≠ .laysStatic Bundle.tN "SUPPRESSED_SENTINEL" Bundle.listD)
def vx_at0 (own : String) (ic : Nat) (X : String) (names : List String) : List Cond := (Bundle.ownAtoms0 own ic X names).filter vx_no
def vx_atS (own : String) (ic : Nat) (X : String) (names : List String) : List Cond := (Bundle.ownAtoms own ic X names).filter vx_no
/-- a word that the tables alone decide, or a good one -/
def vx_ot (w : Cond) : Bool := w.onTables || goodWord w
theorem vx_ot_at {args a' : Array Value} {s U : State} {w : Cond} (hW : s.WarmedH U.vm) (hvm : s.vm = U.vm) (hg : vx_ot w = true) (h : w.before args s = true) : w.before a' U = true := by
  simp only [vx_ot, Bool.or_eq_true] at hg
  rcases hg with hg | hg
  · exact va_tabs hg hvm h
  · exact word_at hW (good_of_word hg) h
/-- a list's words: the good ones out of the method's own list, the others by premises of their own -/
theorem vx_hat {args : Array Value} {s : State} {L B : List Cond} (h1 : ∀ w ∈ L.filter goodWord, w.before args s = true) (h2 : ∀ w ∈ L.filter (fun w => !goodWord w), w ∈ B) (h3 : ∀ w ∈ B, w.before args s = true) : ∀ w ∈ L, w.before args s = true := by
  intro w hw
  by_cases g : goodWord w = true
  · exact h1 w (List.mem_filter.mpr ⟨hw, g⟩)
  · refine h3 w (h2 w (List.mem_filter.mpr ⟨hw, ?_⟩))
    show (!goodWord w) = true
    cases hgw : goodWord w
    · rfl
    · exact absurd hgw g
theorem vx_c {args : Array Value} {s : State} {w : Cond} {B : List Cond} (h : w.before args s = true) (t : ∀ w ∈ B, w.before args s = true) : ∀ w' ∈ w :: B, w'.before args s = true := fun w' h' => (List.mem_cons.mp h').elim (fun e => by rw [e]; exact h) (t w')
theorem vx_n {args : Array Value} {s : State} : ∀ w ∈ ([] : List Cond), w.before args s = true := fun _ h => nomatch h
theorem vx_own {args : Array Value} {s : State} {L : List Cond} (h1 : ∀ w ∈ L.filter vx_no, w.before args s = true)
    (hU : (Cond.isRef (.static Bundle.tN "UNASSIGNED_STACK" Bundle.steD)).before args s = true) (hN : (Cond.isRef (.static Bundle.tN "SUPPRESSED_SENTINEL" Bundle.listD)).before args s = true)
    (lU : (Cond.laysStatic Bundle.tN "UNASSIGNED_STACK" Bundle.steD).before args s = true) (lN : (Cond.laysStatic Bundle.tN "SUPPRESSED_SENTINEL" Bundle.listD).before args s = true) : ∀ w ∈ L, w.before args s = true := by
  intro w hw
  by_cases e1 : w = .isRef (.static Bundle.tN "UNASSIGNED_STACK" Bundle.steD)
  · rw [e1]; exact hU
  · by_cases e2 : w = .isRef (.static Bundle.tN "SUPPRESSED_SENTINEL" Bundle.listD)
    · rw [e2]; exact hN
    · by_cases e3 : w = .laysStatic Bundle.tN "UNASSIGNED_STACK" Bundle.steD
      · rw [e3]; exact lU
      · by_cases e4 : w = .laysStatic Bundle.tN "SUPPRESSED_SENTINEL" Bundle.listD
        · rw [e4]; exact lN
        · exact h1 w (List.mem_filter.mpr ⟨hw, by unfold vx_no; rw [decide_eq_true e1, decide_eq_true e2, decide_eq_true e3, decide_eq_true e4]; rfl⟩)
/-- where a static field lies, its class's statics cell in H -/
def vx_L (C n d : String) (A : Nat → Prop) (U : State) (H : Heap) : Prop := ∃ (c : ClassId) (k : Class) (i : Nat) (f : Field) (a : Nat) (cell : Cell), U.vm.findClass C = some c ∧ U.fieldFound? C n d = some (c, k, i, f) ∧ f.isStatic = true ∧ k.statics = some a ∧ H[a]? = some cell ∧ cell.vm.isStatics = true ∧ cell.cls = c ∧ f.slot < cell.slots.size ∧ k.staticTypes[f.slot]? = some f.type ∧ ¬ A a
theorem vx_L.moved {C n d : String} {A : Nat → Prop} {u U : State} {H : Heap} (hvm : u.vm.Alike U.vm) (h : vx_L C n d A u H) : vx_L C n d A U H := by
  obtain ⟨c, k, i, f, a, cell, h1, h2, h3, h4, h5, h6, h7, h8, h9, h10⟩ := h
  obtain ⟨k', hi', he⟩ := State.fieldFound?_setVm hvm h2
  exact ⟨c, k', i, f, a, cell, by rw [hvm.findClass]; exact h1, hi', h3, by rw [he]; exact h4, h5, h6, h7, h8, by rw [he]; exact h9, h10⟩
theorem vx_L.kept {C n d : String} {A : Nat → Prop} {U : State} {H H1 : Heap} (h : vx_L C n d A U H) (hq : ∀ a : Nat, a < H.size → ¬ A a → H1[a]? = H[a]?) : vx_L C n d A U H1 := by
  obtain ⟨c, k, i, f, a, cell, h1, h2, h3, h4, h5, h6, h7, h8, h9, h10⟩ := h
  exact ⟨c, k, i, f, a, cell, h1, h2, h3, h4, by rw [hq a (Array.getElem?_eq_some_iff.mp h5).1 h10]; exact h5, h6, h7, h8, h9, h10⟩
theorem vx_L.narrow {C n d : String} {A B : Nat → Prop} {U : State} {H : Heap} (h : vx_L C n d A U H) (hAB : ∀ q, B q → A q) : vx_L C n d B U H := by
  obtain ⟨c, k, i, f, a, cell, h1, h2, h3, h4, h5, h6, h7, h8, h9, h10⟩ := h
  exact ⟨c, k, i, f, a, cell, h1, h2, h3, h4, h5, h6, h7, h8, h9, fun z => h10 (hAB _ z)⟩
theorem vx_L.word {C n d : String} {A : Nat → Prop} {s : State} {args : Array Value} (h : vx_L C n d A s s.heap) : (Cond.laysStatic C n d).before args s = true := by
  obtain ⟨c, k, i, f, a, cell, h1, h2, h3, h4, h5, h6, h7, h8, h9, -⟩ := h
  show (Cond.laysStatic C n d).holds args s none s [] = true
  exact Cond.laysStatic_of h1 h2 h3 h4 h5 h6 h7 h8 h9
/-- .. and what it holds: null or some reference -/
def vx_Zq (C n d : String) (A : Nat → Prop) (U : State) (H : Heap) : Prop := va_Zq C n d A U H ∧ vx_L C n d A U H
theorem vx_Zq.moved {C n d : String} {A : Nat → Prop} {u U : State} {H : Heap} (hvm : u.vm.Alike U.vm) (h : vx_Zq C n d A u H) : vx_Zq C n d A U H := ⟨va_Zq.moved hvm h.1, vx_L.moved hvm h.2⟩
theorem vx_Zq.kept {C n d : String} {A : Nat → Prop} {U : State} {H H1 : Heap} (h : vx_Zq C n d A U H) (hq : ∀ a : Nat, a < H.size → ¬ A a → H1[a]? = H[a]?) : vx_Zq C n d A U H1 := ⟨va_Zq.kept h.1 hq, vx_L.kept h.2 hq⟩
theorem vx_Zq.narrow {C n d : String} {A B : Nat → Prop} {U : State} {H : Heap} (h : vx_Zq C n d A U H) (hAB : ∀ q, B q → A q) : vx_Zq C n d B U H := ⟨va_Zq.narrow h.1 hAB, vx_L.narrow h.2 hAB⟩
theorem vx_Zqof {args : Array Value} {s : State} {C n d : String} {A : Nat → Prop} (hl : (Cond.laysStatic C n d).before args s = true) (hini : (Cond.initialized C).before args s = true) (h : (Cond.isRef (.static C n d)).before args s = true) (hA : ∀ a : Nat, a < s.heap.size → ¬ A a) : vx_Zq C n d A s s.heap := by
  refine ⟨va_Zqof hl hini h hA, ?_⟩
  obtain ⟨c, k, i, f, a, cell, h1, h2, h3, h4, h5, h6, h7, h8, h9⟩ := Cond.laysStatic_spec hl
  exact ⟨c, k, i, f, a, cell, h1, h2, h3, h4, h5, h6, h7, h8, h9, hA a (Array.getElem?_eq_some_iff.mp h5).1⟩
theorem vx_isRef {C n d : String} {v : Value} {A : Nat → Prop} {s : State} {args : Array Value} (h : va_Z C n d v A s s.heap) (hv : v.isRef = true) : (Cond.isRef (.static C n d)).before args s = true := by
  obtain ⟨cf, kf, fi, f, a, cell, h1, h2, h3, h4, h5, h6, h7, -⟩ := h
  have he : (Term.static C n d).eval args s none [] s = some v := by
    simp [Term.eval, State.fieldNamed?, h1, h2, h4, h5, h6, h7]
  simp only [Cond.before, Cond.holds, Cond.value, he]
  cases v <;> simp_all [Value.isRef]
theorem vx_isRefq {C n d : String} {A : Nat → Prop} {s : State} {args : Array Value} (h : va_Zq C n d A s s.heap) : (Cond.isRef (.static C n d)).before args s = true := by
  rcases h with h | ⟨t, h⟩
  · exact vx_isRef h rfl
  · exact vx_isRef h rfl
/-- the same frame, seen from here: as if the method were called anew in this heap -/
theorem vx_rebase {T : State} (X : Stand p l e R s m args below meth c T locs cells slots) {R' : Room} (hf : R'.frames ≤ R.frames) (hl : R'.locals ≤ R.locals) (hc : cells + R'.cells ≤ R.cells) (hs : slots + R'.slots ≤ R.slots) :
    Stand p l e R' ((T.setVm s.vm).setFrames (.invoking m args :: below)) m args below meth c T [] 0 0 := by
  have htop : (T.setVm s.vm).topJava?.isSome := X.here.top
  have hF : ((T.setVm s.vm).setFrames (.invoking m args :: below)).frames = .invoking m args :: below := State.frames_setFrames _ (State.cur_lt_of_top htop)
  obtain ⟨g₀, hg0⟩ := Option.isSome_iff_exists.mp htop
  obtain ⟨r, hr⟩ := State.topJava?_eq_some.mp hg0
  have hl9 : e.platform.stackLimits (T.setVm s.vm).me = e.platform.stackLimits s.me := X.limits
  have hb9 : (T.setVm s.vm).me.stackBytes = s.me.stackBytes := X.bytes
  refine ⟨X.admits, X.cas, X.clock, hF, ?_, X.hears, X.method, X.code, X.here, X.tail, X.warmed, ?_, ?_, ?_⟩
  · have h := X.room
    have hU : ((T.setVm s.vm).setFrames (.invoking m args :: below)).localsInUse = s.localsInUse := by
      rw [State.localsInUse_invoking hF (meth := meth) (c := c) X.method X.code, State.localsInUse_invoking X.frames X.method X.code]
    simp only [State.hasRoom, Bool.and_eq_true, decide_eq_true_eq] at h ⊢
    obtain ⟨⟨⟨⟨h1, h2, h3, h4, h5, h6⟩, h7⟩, h8⟩, h9⟩ := h
    rw [X.frames, List.length_cons] at h2 h3
    have q1 := X.heapSize
    have q2 := X.used
    simp only [hF, hU, List.length_cons, State.stackLimits_setFrames, State.stackBytes_setFrames, hl9, hb9]
    refine ⟨⟨⟨⟨by omega, by omega, by omega, by omega, by omega, h6⟩, ?_⟩, ?_⟩, X.book⟩
    · show T.heap.size + R'.cells ≤ e.platform.maxCells
      omega
    · show T.slotsUsed + R'.slots ≤ e.platform.maxSlots
      omega
  · rw [State.stackLimits_setFrames]; rfl
  · rw [State.stackBytes_setFrames]; rfl
  · refine ⟨?_, Nat.le_refl _, Nat.le_refl _, ?_, ?_, fun a c9 h9 => ⟨c9, h9, rfl, rfl, fun _ _ => rfl⟩⟩
    · obtain ⟨t, ht, -⟩ := State.frames_cons hr
      show T.setVm s.vm = { ((T.setVm s.vm).setFrames (.invoking m args :: below)).setFrames (T.setVm s.vm).frames with heap := T.heap, slotsUsed := T.slotsUsed }
      rw [State.setFrames_setFrames, State.setFrames_self ht]
      rfl
    · show T.slotsUsed = T.slotsUsed + ((T.heap.toList.drop T.heap.size).map (·.slots.size)).sum
      rw [List.drop_eq_nil_of_le (Nat.le_of_eq Array.length_toList)]
      rfl
    · show ((T.heap.toList.drop T.heap.size).map (·.slots.size)).sum ≤ 0
      rw [List.drop_eq_nil_of_le (Nat.le_of_eq Array.length_toList)]
      exact Nat.le_refl _
/-- 'throw new E()': new; dup; invokespecial; athrow -/
theorem vx_throw0 {cc : ByteArray} {pc : Nat} (hexec : p.tables.exec = Jvm.exec) (hb : c.code = cc) (hl : l.stackTraces = false) {own cls : String} {names : List String} {ik ic mc ms : Nat} {A : Nat → Prop}
    (hown : s.vm.findClass own = some m.cls) (hcls : Bundle.fit cls = true) (hnames : ∀ n ∈ names, Bundle.fit n = true)
    (hk : (Cond.classLink own ik cls).before args s = true) (hini : (Cond.initialized cls).before args s = true) (hat : ∀ w ∈ vx_at0 own ic cls names, w.before args s = true)
    (hgood : ∀ w ∈ Cond.classLink own ik cls :: Cond.initialized cls :: vx_at0 own ic cls names, vx_ot w = true)
    (hU : vx_Zq Bundle.tN "UNASSIGNED_STACK" Bundle.steD A s s.heap) (hN : vx_Zq Bundle.tN "SUPPRESSED_SENTINEL" Bundle.listD A s s.heap) (hS : va_S A s.heap H locs) (hsize : ls.size = c.maxLocals)
    (d0 : decode cc pc = .ok (.new ik, 3)) (d3 : decode cc (pc + 3) = .ok (.dup, 1)) (d4 : decode cc (pc + 4) = .ok (.invokespecial ic, 3)) (d7 : decode cc (pc + 7) = .ok (.athrow, 1))
    (hout : ∀ x ∈ c.exceptionTable.toList, covers x (pc + 7) = false)
    (hRframes : names.length + 3 < R.frames) (hRlocals : (rest.map fun v => v.category).sum + (13 * (names.length + 1) + 42) ≤ R.locals) (hRcells : cells + 1 ≤ R.cells) (hRslots : slots + 6 ≤ R.slots) (hlocks : meth.locks = false)
    (hx : ∀ t : State, s.vm.Alike t.vm → H.size ≤ t.heap.size → (∀ q : Nat, q < H.size → t.heap[q]? = H[q]?) → XC cls s t)
    (hf : ∀ z ∈ locs, free z.base) (hc : cells + 1 ≤ mc) (hs : slots + 6 ≤ ms) :
    W p l e R s m args below meth c H locs cells slots (vx_MQ below Qc XC args s mc ms free) (F0 m pc ls rest) := by
  intro T hT X
  have htr : e.platform.stackTraces = false := (show e.platform.stackTraces = l.stackTraces by rw [X.admits.platform]).trans hl
  have Y := vx_rebase X (R' := { frames := R.frames, locals := R.locals, cells := 1, slots := 6 }) (Nat.le_refl _) (Nat.le_refl _) hRcells hRslots
  obtain ⟨s', hA⟩ : ∃ z, z = (T.setVm s.vm).setFrames (.invoking m args :: below) := ⟨_, rfl⟩
  rw [← hA] at Y
  have hvm : s'.vm = s.vm := by rw [hA]; rfl
  have hhp : s'.heap = H := by rw [hA]; exact hT
  have hW0 : s.WarmedH s'.vm := by rw [hvm]; exact State.WarmedH.refl s
  have hat' : ∀ w ∈ vx_at0 own ic cls names, w.before args s' = true := fun w hw => vx_ot_at hW0 hvm.symm (hgood w (List.mem_cons_of_mem _ (List.mem_cons_of_mem _ hw))) (hat w hw)
  have hk' : (Cond.classLink own ik cls).before args s' = true := vx_ot_at hW0 hvm.symm (hgood _ List.mem_cons_self) hk
  have hini' : (Cond.initialized cls).before args s' = true := vx_ot_at hW0 hvm.symm (hgood _ (List.mem_cons_of_mem _ List.mem_cons_self)) hini
  have hU' : vx_Zq Bundle.tN "UNASSIGNED_STACK" Bundle.steD A s' s'.heap := by rw [hhp]; exact vx_Zq.moved hW0.alike (hU.kept hS.2.1)
  have hN' : vx_Zq Bundle.tN "SUPPRESSED_SENTINEL" Bundle.listD A s' s'.heap := by rw [hhp]; exact vx_Zq.moved hW0.alike (hN.kept hS.2.1)
  have h : ∀ w ∈ Bundle.ownAtoms0 own ic cls names, w.before args s' = true := vx_own hat' (vx_isRefq hU'.1) (vx_isRefq hN'.1) hU'.2.word hN'.2.word
  have hown' : s'.vm.findClass own = some m.cls := by rw [hvm]; exact hown
  have hins : (Cond.instantiable cls 6).before args s' = true := h _ (by simp [Bundle.ownAtoms0])
  obtain ⟨vm₁, cX, kX, hfX, hkX, -, -, X₁, st1⟩ := Y.newCold hexec (own := own) (C := cls) (index := ik) (n := 6) hown' hk' hins hini'
    (g := F0 m pc ls rest) rfl (by rw [hb]; exact d0) (Nat.le_refl _) (Nat.le_refl _)
  generalize hT1 : (T.setVm vm₁).pushCell { cls := cX, slots := kX.instanceTypes.map defaultValue, vm := .none } = T1 at X₁ st1
  have hcat : (Value.ref T.heap.size).category = 1 := rfl
  have hcellA : T1.heap[T.heap.size]? = some (freshCell cX kX) := by rw [← hT1]; exact State.heap_pushCell_size _ _
  have d3' : decode c.code (pc + 3) = .ok (.dup, 1) := by rw [hb]; exact d3
  obtain ⟨U, hsteps, hrun, hend, hW, hsame, ce, hce, hO⟩ := X₁.ctorThrow0 hexec htr (own := own) (cls := cls) (names := names) (ic := ic) hown' hcls hnames h (fun x hx => nomatch hx) hfX hkX hcellA (by rw [hhp, hT]; exact Nat.le_refl _)
    (g := { method := m, pc := pc + 4, locals := ls, stack := .ref T.heap.size :: .ref T.heap.size :: rest, locked := none }) rfl hsize rfl rfl (rest := rest) rfl
    (by rw [hb]; exact d4) (by rw [hb]; exact d7) hout hRframes (by simp only [List.map_cons, List.sum_cons, hcat]; omega) hlocks
  obtain ⟨f1, f2⟩ := vx_frame hsame
  rw [hhp] at f1 f2
  have hWs : s.WarmedH U.vm := State.WarmedH.trans hW0 hW
  have hcl : s.vm.findClass cls = some ce.cls := by
    have h9 := hO.cls
    rw [hvm] at h9
    exact h9
  have hall : s.sameButNew ({ U with vm := s.vm } : State) locs mc ms := by
    subst hA
    obtain ⟨e1, e2⟩ := hsame
    rw [State.setFrames_setFrames] at e1
    have h2 : (T.setVm s.vm).sameButNew ({ U with vm := s.vm } : State) [] (0 + 1) (0 + 6) := ⟨e1, e2⟩
    have h3 := X.same.trans h2
    rw [List.append_nil] at h3
    exact h3.mono hc hs
  refine ⟨U, ?_, .threw T.heap.size, hrun, hend, Or.inr ⟨T.heap.size, rfl, cls, ce, locs, hx U hWs.alike f1 (fun q hq => f2 q hq (fun z hz => nomatch hz)), hce, hO.vm, hcl, hWs, hall, hf⟩⟩
  refine st1 _ ?_
  show Steps p.tables e below (T1.setTop { method := m, pc := pc + 3, locals := ls, stack := .ref T.heap.size :: rest, locked := none }) _
  jvm_step X₁.here [X₁.here.top, hexec, d3', Value.category]
  exact hsteps
/-- 'throw new E("text")': new; dup; ldc; invokespecial; athrow -/
theorem vx_throwS {cc : ByteArray} {pc : Nat} (hexec : p.tables.exec = Jvm.exec) (hb : c.code = cc) (hl : l.stackTraces = false) {own cls text : String} {names : List String} {ik is ic mc ms sa : Nat} {A : Nat → Prop}
    (hown : s.vm.findClass own = some m.cls) (hcls : Bundle.fit cls = true) (hnames : ∀ n ∈ names, Bundle.fit n = true)
    (hk : (Cond.classLink own ik cls).before args s = true) (hini : (Cond.initialized cls).before args s = true) (hstr : vk_R own is text sa s) (hat : ∀ w ∈ vx_atS own ic cls names, w.before args s = true)
    (hgood : ∀ w ∈ Cond.classLink own ik cls :: Cond.initialized cls :: vx_atS own ic cls names, vx_ot w = true)
    (hU : vx_Zq Bundle.tN "UNASSIGNED_STACK" Bundle.steD A s s.heap) (hN : vx_Zq Bundle.tN "SUPPRESSED_SENTINEL" Bundle.listD A s s.heap) (hS : va_S A s.heap H locs) (hsize : ls.size = c.maxLocals)
    (d0 : decode cc pc = .ok (.new ik, 3)) (d3 : decode cc (pc + 3) = .ok (.dup, 1)) (d4 : decode cc (pc + 4) = .ok (.ldc is, 2)) (d6 : decode cc (pc + 6) = .ok (.invokespecial ic, 3)) (d9 : decode cc (pc + 9) = .ok (.athrow, 1))
    (hout : ∀ x ∈ c.exceptionTable.toList, covers x (pc + 9) = false)
    (hRframes : names.length + 3 < R.frames) (hRlocals : (rest.map fun v => v.category).sum + (13 * (names.length + 1) + 43) ≤ R.locals) (hRcells : cells + 1 ≤ R.cells) (hRslots : slots + 6 ≤ R.slots) (hlocks : meth.locks = false)
    (hx : ∀ t : State, s.vm.Alike t.vm → H.size ≤ t.heap.size → (∀ q : Nat, q < H.size → t.heap[q]? = H[q]?) → XC cls s t)
    (hf : ∀ z ∈ locs, free z.base) (hc : cells + 1 ≤ mc) (hs : slots + 6 ≤ ms) :
    W p l e R s m args below meth c H locs cells slots (vx_MQ below Qc XC args s mc ms free) (F0 m pc ls rest) := by
  intro T hT X
  have htr : e.platform.stackTraces = false := (show e.platform.stackTraces = l.stackTraces by rw [X.admits.platform]).trans hl
  have Y := vx_rebase X (R' := { frames := R.frames, locals := R.locals, cells := 1, slots := 6 }) (Nat.le_refl _) (Nat.le_refl _) hRcells hRslots
  obtain ⟨s', hA⟩ : ∃ z, z = (T.setVm s.vm).setFrames (.invoking m args :: below) := ⟨_, rfl⟩
  rw [← hA] at Y
  have hvm : s'.vm = s.vm := by rw [hA]; rfl
  have hhp : s'.heap = H := by rw [hA]; exact hT
  have hW0 : s.WarmedH s'.vm := by rw [hvm]; exact State.WarmedH.refl s
  have hat' : ∀ w ∈ vx_atS own ic cls names, w.before args s' = true := fun w hw => vx_ot_at hW0 hvm.symm (hgood w (List.mem_cons_of_mem _ (List.mem_cons_of_mem _ hw))) (hat w hw)
  have hk' : (Cond.classLink own ik cls).before args s' = true := vx_ot_at hW0 hvm.symm (hgood _ List.mem_cons_self) hk
  have hini' : (Cond.initialized cls).before args s' = true := vx_ot_at hW0 hvm.symm (hgood _ (List.mem_cons_of_mem _ List.mem_cons_self)) hini
  have hU' : vx_Zq Bundle.tN "UNASSIGNED_STACK" Bundle.steD A s' s'.heap := by rw [hhp]; exact vx_Zq.moved hW0.alike (hU.kept hS.2.1)
  have hN' : vx_Zq Bundle.tN "SUPPRESSED_SENTINEL" Bundle.listD A s' s'.heap := by rw [hhp]; exact vx_Zq.moved hW0.alike (hN.kept hS.2.1)
  have h : ∀ w ∈ Bundle.ownAtoms own ic cls names, w.before args s' = true := vx_own hat' (vx_isRefq hU'.1) (vx_isRefq hN'.1) hU'.2.word hN'.2.word
  have hown' : s'.vm.findClass own = some m.cls := by rw [hvm]; exact hown
  have hins : (Cond.instantiable cls 6).before args s' = true := h _ (by simp [Bundle.ownAtoms])
  obtain ⟨vm₁, cX, kX, hfX, hkX, -, -, X₁, st1⟩ := Y.newCold hexec (own := own) (C := cls) (index := ik) (n := 6) hown' hk' hins hini'
    (g := F0 m pc ls rest) rfl (by rw [hb]; exact d0) (Nat.le_refl _) (Nat.le_refl _)
  generalize hT1 : (T.setVm vm₁).pushCell { cls := cX, slots := kX.instanceTypes.map defaultValue, vm := .none } = T1 at X₁ st1
  have hcat : (Value.ref T.heap.size).category = 1 := rfl
  have hcellA : T1.heap[T.heap.size]? = some (freshCell cX kX) := by rw [← hT1]; exact State.heap_pushCell_size _ _
  have d3' : decode c.code (pc + 3) = .ok (.dup, 1) := by rw [hb]; exact d3
  have d4' : decode c.code (pc + 4) = .ok (.ldc is, 2) := by rw [hb]; exact d4
  have hstr' : vk_R own is text sa s' := vk_R.warm hW0 hstr
  obtain ⟨U, hsteps, hrun, hend, hW, hsame, ce, hce, hO⟩ := X₁.ctorThrowS hexec htr (own := own) (cls := cls) (names := names) (ic := ic) hown' hcls hnames h (fun x hx => nomatch hx) hfX hkX hcellA (by rw [hhp, hT]; exact Nat.le_refl _) (msg := .ref sa) rfl
    (g := { method := m, pc := pc + 6, locals := ls, stack := .ref sa :: .ref T.heap.size :: .ref T.heap.size :: rest, locked := none }) rfl hsize rfl rfl (rest := rest) rfl
    (by rw [hb]; exact d6) (by rw [hb]; exact d9) hout hRframes (by simp only [List.map_cons, List.sum_cons, hcat]; omega) hlocks
  obtain ⟨f1, f2⟩ := vx_frame hsame
  rw [hhp] at f1 f2
  have hWs : s.WarmedH U.vm := State.WarmedH.trans hW0 hW
  have hcl : s.vm.findClass cls = some ce.cls := by
    have h9 := hO.cls
    rw [hvm] at h9
    exact h9
  have hall : s.sameButNew ({ U with vm := s.vm } : State) locs mc ms := by
    subst hA
    obtain ⟨e1, e2⟩ := hsame
    rw [State.setFrames_setFrames] at e1
    have h2 : (T.setVm s.vm).sameButNew ({ U with vm := s.vm } : State) [] (0 + 1) (0 + 6) := ⟨e1, e2⟩
    have h3 := X.same.trans h2
    rw [List.append_nil] at h3
    exact h3.mono hc hs
  refine ⟨U, ?_, .threw T.heap.size, hrun, hend, Or.inr ⟨T.heap.size, rfl, cls, ce, locs, hx U hWs.alike f1 (fun q hq => f2 q hq (fun z hz => nomatch hz)), hce, hO.vm, hcl, hWs, hall, hf⟩⟩
  refine st1 _ ?_
  show Steps p.tables e below (T1.setTop { method := m, pc := pc + 3, locals := ls, stack := .ref T.heap.size :: rest, locked := none }) _
  jvm_step X₁.here [X₁.here.top, hexec, d3', Value.category]
  exact X₁.ldcString hexec (own := own) (text := text) (index := is) (a := sa) hown' hstr'.1 hstr'.2
    (g := { method := m, pc := pc + 4, locals := ls, stack := .ref T.heap.size :: .ref T.heap.size :: rest, locked := none }) rfl d4' _ hsteps
/-- 'throw new E("text")', the text by a wide index -/
theorem vx_throwSW {cc : ByteArray} {pc : Nat} (hexec : p.tables.exec = Jvm.exec) (hb : c.code = cc) (hl : l.stackTraces = false) {own cls text : String} {names : List String} {ik is ic mc ms sa : Nat} {A : Nat → Prop}
    (hown : s.vm.findClass own = some m.cls) (hcls : Bundle.fit cls = true) (hnames : ∀ n ∈ names, Bundle.fit n = true)
    (hk : (Cond.classLink own ik cls).before args s = true) (hini : (Cond.initialized cls).before args s = true) (hstr : vk_R own is text sa s) (hat : ∀ w ∈ vx_atS own ic cls names, w.before args s = true)
    (hgood : ∀ w ∈ Cond.classLink own ik cls :: Cond.initialized cls :: vx_atS own ic cls names, vx_ot w = true)
    (hU : vx_Zq Bundle.tN "UNASSIGNED_STACK" Bundle.steD A s s.heap) (hN : vx_Zq Bundle.tN "SUPPRESSED_SENTINEL" Bundle.listD A s s.heap) (hS : va_S A s.heap H locs) (hsize : ls.size = c.maxLocals)
    (d0 : decode cc pc = .ok (.new ik, 3)) (d3 : decode cc (pc + 3) = .ok (.dup, 1)) (d4 : decode cc (pc + 4) = .ok (.ldc_w is, 3)) (d7 : decode cc (pc + 7) = .ok (.invokespecial ic, 3)) (d10 : decode cc (pc + 10) = .ok (.athrow, 1))
    (hout : ∀ x ∈ c.exceptionTable.toList, covers x (pc + 10) = false)
    (hRframes : names.length + 3 < R.frames) (hRlocals : (rest.map fun v => v.category).sum + (13 * (names.length + 1) + 43) ≤ R.locals) (hRcells : cells + 1 ≤ R.cells) (hRslots : slots + 6 ≤ R.slots) (hlocks : meth.locks = false)
    (hx : ∀ t : State, s.vm.Alike t.vm → H.size ≤ t.heap.size → (∀ q : Nat, q < H.size → t.heap[q]? = H[q]?) → XC cls s t)
    (hf : ∀ z ∈ locs, free z.base) (hc : cells + 1 ≤ mc) (hs : slots + 6 ≤ ms) :
    W p l e R s m args below meth c H locs cells slots (vx_MQ below Qc XC args s mc ms free) (F0 m pc ls rest) := by
  intro T hT X
  have htr : e.platform.stackTraces = false := (show e.platform.stackTraces = l.stackTraces by rw [X.admits.platform]).trans hl
  have Y := vx_rebase X (R' := { frames := R.frames, locals := R.locals, cells := 1, slots := 6 }) (Nat.le_refl _) (Nat.le_refl _) hRcells hRslots
  obtain ⟨s', hA⟩ : ∃ z, z = (T.setVm s.vm).setFrames (.invoking m args :: below) := ⟨_, rfl⟩
  rw [← hA] at Y
  have hvm : s'.vm = s.vm := by rw [hA]; rfl
  have hhp : s'.heap = H := by rw [hA]; exact hT
  have hW0 : s.WarmedH s'.vm := by rw [hvm]; exact State.WarmedH.refl s
  have hat' : ∀ w ∈ vx_atS own ic cls names, w.before args s' = true := fun w hw => vx_ot_at hW0 hvm.symm (hgood w (List.mem_cons_of_mem _ (List.mem_cons_of_mem _ hw))) (hat w hw)
  have hk' : (Cond.classLink own ik cls).before args s' = true := vx_ot_at hW0 hvm.symm (hgood _ List.mem_cons_self) hk
  have hini' : (Cond.initialized cls).before args s' = true := vx_ot_at hW0 hvm.symm (hgood _ (List.mem_cons_of_mem _ List.mem_cons_self)) hini
  have hU' : vx_Zq Bundle.tN "UNASSIGNED_STACK" Bundle.steD A s' s'.heap := by rw [hhp]; exact vx_Zq.moved hW0.alike (hU.kept hS.2.1)
  have hN' : vx_Zq Bundle.tN "SUPPRESSED_SENTINEL" Bundle.listD A s' s'.heap := by rw [hhp]; exact vx_Zq.moved hW0.alike (hN.kept hS.2.1)
  have h : ∀ w ∈ Bundle.ownAtoms own ic cls names, w.before args s' = true := vx_own hat' (vx_isRefq hU'.1) (vx_isRefq hN'.1) hU'.2.word hN'.2.word
  have hown' : s'.vm.findClass own = some m.cls := by rw [hvm]; exact hown
  have hins : (Cond.instantiable cls 6).before args s' = true := h _ (by simp [Bundle.ownAtoms])
  obtain ⟨vm₁, cX, kX, hfX, hkX, -, -, X₁, st1⟩ := Y.newCold hexec (own := own) (C := cls) (index := ik) (n := 6) hown' hk' hins hini'
    (g := F0 m pc ls rest) rfl (by rw [hb]; exact d0) (Nat.le_refl _) (Nat.le_refl _)
  generalize hT1 : (T.setVm vm₁).pushCell { cls := cX, slots := kX.instanceTypes.map defaultValue, vm := .none } = T1 at X₁ st1
  have hcat : (Value.ref T.heap.size).category = 1 := rfl
  have hcellA : T1.heap[T.heap.size]? = some (freshCell cX kX) := by rw [← hT1]; exact State.heap_pushCell_size _ _
  have d3' : decode c.code (pc + 3) = .ok (.dup, 1) := by rw [hb]; exact d3
  have d4' : decode c.code (pc + 4) = .ok (.ldc_w is, 3) := by rw [hb]; exact d4
  have hstr' : vk_R own is text sa s' := vk_R.warm hW0 hstr
  obtain ⟨U, hsteps, hrun, hend, hW, hsame, ce, hce, hO⟩ := X₁.ctorThrowS hexec htr (own := own) (cls := cls) (names := names) (ic := ic) hown' hcls hnames h (fun x hx => nomatch hx) hfX hkX hcellA (by rw [hhp, hT]; exact Nat.le_refl _) (msg := .ref sa) rfl
    (g := { method := m, pc := pc + 7, locals := ls, stack := .ref sa :: .ref T.heap.size :: .ref T.heap.size :: rest, locked := none }) rfl hsize rfl rfl (rest := rest) rfl
    (by rw [hb]; exact d7) (by rw [hb]; exact d10) hout hRframes (by simp only [List.map_cons, List.sum_cons, hcat]; omega) hlocks
  obtain ⟨f1, f2⟩ := vx_frame hsame
  rw [hhp] at f1 f2
  have hWs : s.WarmedH U.vm := State.WarmedH.trans hW0 hW
  have hcl : s.vm.findClass cls = some ce.cls := by
    have h9 := hO.cls
    rw [hvm] at h9
    exact h9
  have hall : s.sameButNew ({ U with vm := s.vm } : State) locs mc ms := by
    subst hA
    obtain ⟨e1, e2⟩ := hsame
    rw [State.setFrames_setFrames] at e1
    have h2 : (T.setVm s.vm).sameButNew ({ U with vm := s.vm } : State) [] (0 + 1) (0 + 6) := ⟨e1, e2⟩
    have h3 := X.same.trans h2
    rw [List.append_nil] at h3
    exact h3.mono hc hs
  refine ⟨U, ?_, .threw T.heap.size, hrun, hend, Or.inr ⟨T.heap.size, rfl, cls, ce, locs, hx U hWs.alike f1 (fun q hq => f2 q hq (fun z hz => nomatch hz)), hce, hO.vm, hcl, hWs, hall, hf⟩⟩
  refine st1 _ ?_
  show Steps p.tables e below (T1.setTop { method := m, pc := pc + 3, locals := ls, stack := .ref T.heap.size :: rest, locked := none }) _
  jvm_step X₁.here [X₁.here.top, hexec, d3', Value.category]
  exact X₁.ldcStringW hexec (own := own) (text := text) (index := is) (a := sa) hown' hstr'.1 hstr'.2
    (g := { method := m, pc := pc + 4, locals := ls, stack := .ref T.heap.size :: .ref T.heap.size :: rest, locked := none }) rfl d4' _ hsteps
end Ends
section Bodies
variable {l : Launch}
theorem vx_ofW {y : MethodName} {ws ws' : List Cond} {rm : Room} {Pc : Array Value → State → Prop} {Qc : Array Value → State → Outcome → State → Prop} {XC : String → State → State → Prop} {mc ms : Nat} {free : Addr → Prop} {cc : ByteArray} {maxL : Nat} {ret : Option FieldType}
    (hy : plainName y.cls = true) (hw : ws = Cond.code y cc maxL ret :: ws')
    (body : ∀ p e s m args below meth c s₁, BodyLoose p l y (headSpec ws rm) cc maxL ret e s m args below meth c s₁ → c.maxLocals = maxL → (∀ x ∈ c.exceptionTable.toList, False) → Pc args s →
      W p l e (headSpec ws rm).room s m args below meth c s.heap [] 0 0 (vx_MQ below Qc XC args s mc ms free) (entryFrame m args maxL)) : vx_Met l y ws rm Pc Qc XC mc ms free := by
  refine MetFree.of_bodyS (code := cc) (maxLocals := maxL) (ret := ret) hy ?_ ?_
  · intro args s m h hn
    obtain ⟨meth, c, h1, h2, h3, h4, h5, h6, -, -⟩ := Cond.code_spec hn (atoms_spec (ws := ws) h _ (by rw [hw]; exact List.mem_cons_self))
    exact ⟨meth, c, h1, h2, h3, h4, h5, h6⟩
  · intro p e s m args below meth c s₁ B hml hP _
    have hh0 : s₁.heap = s.heap := by rw [B.state]; rfl
    have ht : ∀ x ∈ c.exceptionTable.toList, False := by
      obtain ⟨meth9, c9, h1, h2, -, -, -, -, h7, -⟩ := Cond.code_spec B.named (atoms_spec (ws := ws) B.pre _ (by rw [hw]; exact List.mem_cons_self))
      cases Option.some.inj (h1.symm.trans B.method)
      cases Option.some.inj (h2.symm.trans (Stand.of_body B).code)
      intro x hx
      rw [Array.isEmpty_iff.mp h7] at hx
      cases hx
    obtain ⟨t, a1, o, b1, b2, b3⟩ := body p e s m args below meth c s₁ B hml ht hP s₁ hh0 (Stand.of_body B)
    exact ⟨t, o, a1, b1, b2, b3⟩
/-- the table of a body with handlers -/
theorem vx_table {p : Program} {x y : MethodName} {S : Spec} {cc bytes : ByteArray} {maxL maxL' : Nat} {ret ret' : Option FieldType} {e : Env} {s s₁ : State} {m : MethodId} {args : Array Value} {below : List Frame} {meth : Method} {c : Code} {hh : List (Nat × Nat × Nat × Nat)}
    (B : BodyLoose p l y S cc maxL ret e s m args below meth c s₁) (h : (Cond.codeWith y bytes maxL' ret' hh).before args s = true) : c.exceptionTable.toList = tableOf hh := by
  obtain ⟨m9, meth9, c9, hn9, h1, h2, -, -, h6, -⟩ := Cond.codeWith_spec h
  cases Option.some.inj (hn9.symm.trans B.named)
  cases Option.some.inj (h1.symm.trans B.method)
  cases Option.some.inj (h2.symm.trans (Stand.of_body B).code)
  rw [← h6, table_eq]
end Bodies
end VXA
/-! ===== END ===== -/
/-! ===== BEGIN a static call of a method with an exception table ===== -/
section VXS
variable {p : Program} {l : Launch} {e : Env} {R : Room} {s : State} {m : MethodId} {args : Array Value} {below : List Frame} {meth : Method} {c : Code} {T : State} {H : Heap} {locs : List Loc} {cells slots : Nat}
abbrev vx_CSW (R : Room) (s : State) (args : Array Value) (own : String) (index : Nat) (y : MethodName) (bytes : ByteArray) (maxL : Nat) (ret : Option FieldType) (hh : List (Nat × Nat × Nat × Nat)) (ws : List Cond) (rm : Room) (mc ms n : Nat) : Prop :=
  (rm.cells = mc ∧ rm.slots = ms ∧ rm.frames + 1 ≤ R.frames ∧ 8 + (maxL + 11) + rm.locals ≤ R.locals ∧ (∀ w ∈ ws, ∀ (a' : Array Value) (U : State), s.WarmedH U.vm → w.before a' U = true) ∧ Cond.codeWith y bytes maxL ret hh ∈ ws) ∧
  (Cond.codeWith y bytes maxL ret hh).before args s = true ∧ (Cond.initialized y.cls).before args s = true ∧ (y.cls ≠ "java/lang/invoke/MethodHandle" ∧ y.cls ≠ "java/lang/invoke/VarHandle") ∧
  (∀ sig, parseMethodDescriptor y.desc = some sig → n = sig.parameters.length) ∧ (Cond.methodLink own index y).before args s = true ∧ (Cond.static y).before args s = true
theorem vx_cwSW {own : String} {index maxL mc ms : Nat} {y : MethodName} {bytes : ByteArray} {ret : Option FieldType} {hh : List (Nat × Nat × Nat × Nat)} {Ts ws ws' : List Cond} {rm : Room} (n : Nat) (ht : ∀ w ∈ Ts, w.before args s = true) (hT : GoodIn Ts (va_wsS own index y ws)) (hw : ws = Cond.codeWith y bytes maxL ret hh :: ws') (hrc : rm.cells = mc) (hrs : rm.slots = ms)
    (hd : y.cls ≠ "java/lang/invoke/MethodHandle" ∧ y.cls ≠ "java/lang/invoke/VarHandle" ∧ (parseMethodDescriptor y.desc).map (fun d => d.parameters.length) = some n) (hR : rm.frames + 1 ≤ R.frames ∧ 8 + (maxL + 11) + rm.locals ≤ R.locals) :
    vx_CSW R s args own index y bytes maxL ret hh ws rm mc ms n := by
  have ok : ∀ w ∈ va_wsS own index y ws, w.before args s = true := fun w h => ht w (hT w h).1
  have hG : GoodIn Ts ws := fun w h => hT w (by unfold va_wsS; exact List.mem_append_right _ h)
  have hc : Cond.codeWith y bytes maxL ret hh ∈ ws := by rw [hw]; exact List.mem_cons_self
  refine ⟨⟨hrc, hrs, hR.1, hR.2, pay_in ht hG, hc⟩, ht _ (hG _ hc).1, ok _ (by simp [va_wsS]), ⟨hd.1, hd.2.1⟩, fun sig h => ?_, ok _ (by simp [va_wsS]), ok _ (by simp [va_wsS])⟩
  have h2 := hd.2.2
  rw [h] at h2
  exact (Option.some.inj h2).symm
theorem vx_callSW (X : Stand p l e R s m args below meth c T locs cells slots) (hexec : p.tables.exec = Jvm.exec) {own : String} {index : Nat} {y : MethodName} {bytes : ByteArray} {maxL : Nat} {ret : Option FieldType} {hh : List (Nat × Nat × Nat × Nat)}
    (hown : s.vm.findClass own = some m.cls) (hlink : (Cond.methodLink own index y).before args s = true) (hstat : (Cond.static y).before args s = true) (hinit : (Cond.initialized y.cls).before args s = true)
    (hcode : (Cond.codeWith y bytes maxL ret hh).before args s = true) (hy : y.cls ≠ "java/lang/invoke/MethodHandle" ∧ y.cls ≠ "java/lang/invoke/VarHandle")
    {W9 : Nat} {Pre : Pt → Array Value → Prop} {Post : Pt → Array Value → Option Value → Pt → Prop} (hK : Back l R p e below s args y 3 W9 Pre Post)
    {g : JFrame} (hg : g.method = m) (hsize : g.locals.size = c.maxLocals) {argsL rest : List Value} (hlen : ∀ sig, parseMethodDescriptor y.desc = some sig → argsL.length = sig.parameters.length)
    (hstack : g.stack = argsL.reverse ++ rest) (hW : 2 * g.monitorRoom + (rest.map fun v => v.category).sum ≤ W9) (hdg : decode c.code g.pc = .ok (.invokestatic index, 3))
    (hpre : ∀ vm₁, s.WarmedH vm₁ → Pre ⟨T.setVm vm₁, locs, cells, slots⟩ argsL.toArray) :
    ∃ (v : Option Value) (vm₁ : Vm) (B : Pt), s.WarmedH vm₁ ∧ Stand p l e R s m args below meth c B.U B.locs B.cells B.slots ∧ Post ⟨T.setVm vm₁, locs, cells, slots⟩ argsL.toArray v B ∧
      ∀ target, Steps p.tables e below (B.U.setTop { g with pc := g.pc + 3, stack := v.toList ++ rest }) target → Steps p.tables e below (T.setTop g) target := by
  obtain ⟨mk, methM, cM, hnamed, hmethM, -, -, -, -, -, -, hsigM⟩ := Cond.codeWith_spec hcode
  have hstatic : methM.isStatic = true := Cond.static_spec hnamed hmethM hstat
  obtain ⟨kP, hkP, -⟩ := className_of_methodNamed hnamed
  have hinitP : kP.init = .initialized := Cond.initialized_spec (findClass_of_methodNamed hnamed) hkP hinit
  obtain ⟨vm₁, X₁, hstep₁⟩ := X.invokestatic hexec hown hlink hnamed hmethM hstatic hkP hinitP hy (g := g) hg (argsL := argsL) (rest := rest) (hlen _ hsigM) hstack hdg
  obtain ⟨v, B, X', hpost, hsteps⟩ := hK m meth c ⟨T.setVm vm₁, locs, cells, slots⟩ { g with stack := rest } (.invokestatic index) mk argsL.toArray X₁ hg hsize hdg hW (X₁.named hnamed) (hpre vm₁ X₁.warmed)
  exact ⟨v, vm₁, B, X₁.warmed, X', hpost, fun target h => hstep₁ _ fun acts => by rw [doInvoke_state]; exact hsteps.trans h⟩
theorem vx_runSW {y : MethodName} {bytes cc : ByteArray} {maxL nL mc ms n index : Nat} {ret : Option FieldType} {hh : List (Nat × Nat × Nat × Nat)} {ws : List Cond} {rm : Room} {Pc : Array Value → State → Prop} {Qc : Array Value → State → Outcome → State → Prop} {free : Addr → Prop} {Ts : List Cond} {own : String} {As rest : List Value} {g : JFrame}
    (S : CallFix p m c cc nL s args Ts own) (hM : Met l y ws rm Pc Qc mc ms free) (cw : vx_CSW R s args own index y bytes maxL ret hh ws rm mc ms n) (hp : PreS s H Pc As)
    (hg : g.method = m) (hn : As.length = n) (hsize : g.locals.size = nL) (hstack : g.stack = As.reverse ++ rest) (hW : 2 * g.monitorRoom + (rest.map fun v => v.category).sum ≤ 8) (hdg : decode cc g.pc = .ok (.invokestatic index, 3)) (hf : cells + mc ≤ R.cells ∧ slots + ms ≤ R.slots) :
    va_Run p l e R s m args below meth c H locs cells slots mc ms g rest (Qc As.toArray) (free) := by
  obtain ⟨⟨hrc, hrs, hfr, hlo, hws, hcw⟩, hcode, hini, hy, hlen, hl, hstt⟩ := cw
  have hK : Back l R p e below s args y 3 8 (PreOf R mc ms Pc) (PostOf Qc mc ms free) := va_backW (hh := hh) (bytes := bytes) (maxL := maxL) (ret := ret) hM hp.1 hrc hrs hfr hlo hws hcw (fun a' U hW => word_at hW (Or.inl (by first | rfl | simp [Cond.onTables, Cond.keeps, Cond.steady])) hini)
  obtain ⟨hx, hb, hml, ho, -⟩ := S
  intro T hT X
  obtain ⟨v, vm₁, ⟨U', l2, c2, s2⟩, hW₁, X', ⟨g', mk, t, L, e1, e2, hq, h1, hL, h2, h3⟩, st⟩ := vx_callSW X hx (hh := hh) (bytes := bytes) (maxL := maxL) (ret := ret) ho hl hstt hini hcode hy hK hg (hsize.trans hml.symm) (argsL := As) (rest := rest) (fun sig h => hn.trans (hlen sig h)) hstack hW (by rw [hb]; exact hdg)
    (fun vm₁ hW₁ => ⟨hf.1, hf.2, hp.2 (T.setVm vm₁) hT hW₁⟩)
  dsimp only [Pt.U, Pt.locs, Pt.cells, Pt.slots] at X' e1 e2 h1 h2 h3 st
  subst h1; subst h2; subst h3
  exact ⟨v, (T.setVm vm₁).calling g' mk As.toArray, t, U', L, hT, X', hL, e1, e2, hq, st⟩
/-- not caught here, past rows that name other classes: it goes on to the caller -/
theorem vx_outP {p : Program} {l : Launch} {e : Env} {R : Room} {s : State} {m : MethodId} {args : Array Value} {below : List Frame} {meth : Method} {c : Code} {H : Heap} {locs : List Loc} {cells slots : Nat} {free : Addr → Prop} {ls : Array Slot} {rest : List Value} {Qc : Array Value → State → Outcome → State → Prop} {XC : String → State → State → Prop}
    {pc : Nat} {own E : String} {ce : Cell} {q : Addr} {mc ms : Nat} (hown : s.vm.findClass own = some m.cls) (hlocks : meth.locks = false)
    (hpass : ∀ z ∈ c.exceptionTable.toList, covers z pc = false ∨ (z.catchType ≠ 0 ∧ ∃ nm : String, (Cond.classLink own z.catchType nm).before args s = true ∧ va_Nc E nm s)) (hcell : H[q]? = some ce) (hv : ce.vm = .none) (hcl : s.vm.findClass E = some ce.cls)
    (hx : ∀ t : State, t.heap = H → s.vm.Alike t.vm → XC E s t) (hf : ∀ z ∈ locs, free z.base) (hc : cells ≤ mc) (hs : slots ≤ ms) :
    vx_W p l e R s m args below meth c H locs cells slots (vx_MQ below Qc XC args s mc ms free) (F0 m pc ls rest) q := by
  intro T hT X
  have hpl : e.platform.magicAccessors = ({} : Platform).magicAccessors := by rw [X.admits.platform]
  obtain ⟨vm', hW', X', st⟩ := X.outThrough hlocks q (g := F0 m pc ls rest) rfl rfl rfl (cell := ce) (by rw [hT]; exact hcell) (by rw [hv]; rfl)
    (by obtain ⟨k9, h9, -⟩ := Vm.findClass_spec hcl; exact ⟨k9, h9⟩) (fun z hz => by
      rcases hpass z hz with h | ⟨hz0, nm, hl1, hn1⟩
      · exact Or.inl h
      · obtain ⟨c6, hc6, hcl6⟩ := Cond.classLink_spec hown hl1 e.platform hpl
        obtain ⟨a8, b8, h1, h2, h3⟩ := hn1
        cases Option.some.inj (h1.symm.trans hcl)
        cases Option.some.inj (h2.symm.trans hc6)
        exact Or.inr ⟨hz0, _, hcl6, h3⟩)
  obtain ⟨g₀, hfr⟩ := X'.frames_eq
  have hcell9 : ((T.setVm vm').setFrames (.throwing q :: below)).heap[q]? = some ce := by
    show T.heap[q]? = some ce
    rw [hT]; exact hcell
  have hend : Ended ((T.setVm vm').setFrames (.throwing q :: below)) below (.threw q) := State.frames_setFrames _ (State.cur_lt_of_frames hfr)
  refine ⟨(T.setVm vm').setFrames (.throwing q :: below), ?_, .threw q, X'.here.running, hend, Or.inr ⟨q, rfl, E, ce, locs, hx _ hT (X'.ends _).1.alike, hcell9, hv, hcl, (X'.ends _).1, (X'.ends _).2.mono hc hs, hf⟩⟩
  rw [X.pushThrowing_eq]
  exact st
/-- a thing of a world lies in the heap -/
theorem vx_lt {D : va_G} {cl : List vw_C} {ws : va_W} {H1 : Heap} (h : va_P D cl ws H1) {k : Nat} {q : Nat × va_E} (hk : ws[k]? = some q) : q.1 < H1.size := (h k q hk).lt
end VXS
/-! ===== END ===== -/
/-! ===== BEGIN methods with a table of their own: called by a name, returning or throwing ===== -/
section VXH
/-! vx_backW, vx_callVX, vx_callSX, vx_callVW, vx_runVW, vx_runVX, vx_runSX, vx_ofWH follow the same proofs as their sisters above (Free/Laws.lean, Shelf42/LK1.lean); vx_outP calls Shelf42/NT130.lean (outThrough). -/
section
variable {l : Launch} {R : Room} {p : Program} {e : Env} {below : List Frame} {s : State} {sargs : Array Value} {y : MethodName} {len W9 : Nat}
theorem vx_backW {ws : List Cond} {rm : Room} {Pc : Array Value → State → Prop} {Qc : Array Value → State → Outcome → State → Prop} {XC : String → State → State → Prop} {mc ms : Nat} {free : Addr → Prop} {bytes : ByteArray} {maxL : Nat} {ret : Option FieldType} {hh : List (Nat × Nat × Nat × Nat)}
    (hM : vx_Met l y ws rm Pc Qc XC mc ms free) (hblind : FrameBlind Pc) (hrc : rm.cells = mc) (hrs : rm.slots = ms)
    (hframes : rm.frames + 1 ≤ R.frames) (hlocals : W9 + (maxL + 11) + rm.locals ≤ R.locals)
    (hws : ∀ w ∈ ws, ∀ a' U, s.WarmedH U.vm → w.before a' U = true) (hcode : Cond.codeWith y bytes maxL ret hh ∈ ws) (hinit : ∀ a' U, s.WarmedH U.vm → (Cond.initialized y.cls).before a' U = true) :
    vx_Back l R p e below s sargs y len W9 (PreOf R mc ms Pc) (PostOf Qc mc ms free) (vx_Post XC mc ms free) := by
  intro m meth c A g ig mk a X hg hsize hdg hW hn hp
  have h1 : (headSpec ws rm).pre.before a A.U = true := atoms_intro fun w hw => hws w hw _ _ X.warmed
  have h2 : (Cond.codeWith y bytes maxL ret hh).before a A.U = true := hws _ hcode _ _ X.warmed
  have h3 : (Cond.initialized y.cls).before a A.U = true := hinit _ _ X.warmed
  have h4 : A.cells + (headSpec ws rm).room.cells ≤ R.cells := by rw [show (headSpec ws rm).room.cells = mc from hrc]; exact hp.1
  have h5 : A.slots + (headSpec ws rm).room.slots ≤ R.slots := by rw [show (headSpec ws rm).room.slots = ms from hrs]; exact hp.2.1
  have hPc : Pc a (A.U.calling g mk a) := hblind _ _ _ _ hp.2.2
  obtain ⟨U, Ls, c0, s0⟩ := A
  dsimp only [Pt.U, Pt.locs, Pt.cells, Pt.slots] at h1 h2 h3 h4 h5 X hn hPc ⊢
  obtain ⟨m9, methY, cY, hn9, hmY, hcY, -, hlY, -⟩ := Cond.codeWith_spec h2
  cases Option.some.inj (hn9.symm.trans hn)
  obtain ⟨kY, hkY, -⟩ := className_of_methodNamed hn
  have hinitY : kY.init = .initialized := Cond.initialized_spec (findClass_of_methodNamed hn) hkY h3
  have h : At U g.method c below := by rw [hg]; exact X.here
  have hlocals9 : W9 + (maxL + 11) + (headSpec ws rm).room.locals ≤ R.locals := hlocals
  have happ : (headSpec ws rm).appliesLoose y e.platform (U.calling g mk a) = true :=
    Spec.appliesLoose_calling (g := g) h hdg hn hkY hinitY
      (X.room_calling (g := g) (R' := (headSpec ws rm).room) hsize hmY hcY hframes (by rw [hlY]; omega) h4 h5) h1
  obtain ⟨mid, hmid⟩ := h.above
  have hfr : (U.setTop g).frames = (.java g :: mid) ++ below := by rw [State.frames_setTop' g h.top, hmid]; rfl
  obtain ⟨o, s₂, hsteps, -, hend, hq⟩ := Steps.callFree hM p X.admits X.cas X.clock (acts := []) hfr happ hPc trivial
  have hq' : vx_Q Qc XC mc ms free a (U.calling g mk a) o s₂ := hq
  rw [State.frames_setTop' g h.top] at hend
  obtain ⟨g₀, hg0⟩ := Option.isSome_iff_exists.mp h.top
  obtain ⟨r, hr⟩ := State.topJava?_eq_some.mp hg0
  have hr' : (({ U with heap := s₂.heap, slotsUsed := s₂.slotsUsed } : State).setVm s₂.vm).frames = .java g₀ :: r := hr
  rcases hq' with ⟨hqc, L, hfe, hL⟩ | ⟨q, rfl, E, ce, L, hx, hce, hcv, hcl, hW₂, hsm, hL⟩
  · obtain ⟨⟨v, rfl⟩, hW₂, e2, q2, q3, q4, q5, q6⟩ := id hfe
    have e3 : s₂ = ({ (U.calling g mk a).setFrames s₂.frames with heap := s₂.heap, slotsUsed := s₂.slotsUsed } : State).setVm s₂.vm := by
      have : s₂ = ({ s₂ with vm := (U.calling g mk a).vm } : State).setVm s₂.vm := rfl
      rw [e2] at this
      exact this
    obtain ⟨c₂, i₂, len₂, hc₂, hd₂, hf₂⟩ := hend
    have hW' : U.WarmedH s₂.vm := hW₂
    have hcc : c₂ = c := by
      have h1 : s₂.code? g.method = U.code? g.method := by
        rw [State.code?_eq, State.code?_eq, hW'.alike.method?]
      exact Option.some.inj (hc₂.symm.trans (h1.trans h.code))
    subst hcc
    have hlen : len₂ = len := by rw [hdg] at hd₂; cases hd₂; rfl
    subst hlen
    have hs₂ : s₂ = (({ U with heap := s₂.heap, slotsUsed := s₂.slotsUsed } : State).setVm s₂.vm).setTop { g with pc := g.pc + len₂, stack := v.toList ++ g.stack } := by
      refine e3.trans ?_
      rw [hf₂, State.calling_eq h.top, State.setFrames_setFrames, State.setTop_of_frames _ hr', hr]
      rfl
    have hsame : U.sameButNew ({ U with heap := s₂.heap, slotsUsed := s₂.slotsUsed } : State) L mc ms := by
      refine ⟨?_, q2, q3, q4, q5, q6⟩
      obtain ⟨t, ht, -⟩ := State.frames_cons hr
      show ({ U with heap := s₂.heap, slotsUsed := s₂.slotsUsed } : State) = { U.setFrames U.frames with heap := s₂.heap, slotsUsed := s₂.slotsUsed }
      rw [State.setFrames_self ht]
    subst hg
    refine Or.inl ⟨v, ⟨(({ U with heap := s₂.heap, slotsUsed := s₂.slotsUsed } : State).setVm s₂.vm), Ls ++ L, c0 + mc, s0 + ms⟩,
      ⟨X.admits, X.cas, X.clock, X.frames, X.room, X.hears, X.method, X.code, (X.here.setHeapUsed s₂.heap s₂.slotsUsed).setVm hW'.alike, X.tail, State.WarmedH.trans X.warmed hW', X.limits, X.bytes, X.same.trans (hsame.setVm s.vm)⟩,
      ⟨g, mk, s₂, L, rfl, rfl, hqc, rfl, hL, rfl, rfl⟩, ?_⟩
    show Steps p.tables e below _ ((({ U with heap := s₂.heap, slotsUsed := s₂.slotsUsed } : State).setVm s₂.vm).setTop { g with pc := g.pc + len₂, stack := v.toList ++ g.stack })
    rw [← hs₂]
    exact hsteps
  · obtain ⟨e2, q2, q3, q4, q5, q6⟩ := id hsm
    have e3 : s₂ = ({ (U.calling g mk a).setFrames s₂.frames with heap := s₂.heap, slotsUsed := s₂.slotsUsed } : State).setVm s₂.vm := by
      have : s₂ = ({ s₂ with vm := (U.calling g mk a).vm } : State).setVm s₂.vm := rfl
      rw [e2] at this
      exact this
    have hf₂ : s₂.frames = .throwing q :: .java g :: U.frames.tail := hend
    have hW' : U.WarmedH s₂.vm := hW₂
    have hs₂ : s₂ = ((({ U with heap := s₂.heap, slotsUsed := s₂.slotsUsed } : State).setVm s₂.vm).setTop g).pushFrame (.throwing q) := by
      refine e3.trans ?_
      rw [hf₂, State.calling_eq h.top, State.setFrames_setFrames, State.pushFrame, State.frames_setTop _ hr', State.setTop_of_frames _ hr', State.setFrames_setFrames, hr]
      rfl
    have hsame : U.sameButNew ({ U with heap := s₂.heap, slotsUsed := s₂.slotsUsed } : State) L mc ms := by
      refine ⟨?_, q2, q3, q4, q5, q6⟩
      obtain ⟨t, ht, -⟩ := State.frames_cons hr
      show ({ U with heap := s₂.heap, slotsUsed := s₂.slotsUsed } : State) = { U.setFrames U.frames with heap := s₂.heap, slotsUsed := s₂.slotsUsed }
      rw [State.setFrames_self ht]
    subst hg
    refine Or.inr ⟨q, ⟨(({ U with heap := s₂.heap, slotsUsed := s₂.slotsUsed } : State).setVm s₂.vm), Ls ++ L, c0 + mc, s0 + ms⟩,
      ⟨X.admits, X.cas, X.clock, X.frames, X.room, X.hears, X.method, X.code, (X.here.setHeapUsed s₂.heap s₂.slotsUsed).setVm hW'.alike, X.tail, State.WarmedH.trans X.warmed hW', X.limits, X.bytes, X.same.trans (hsame.setVm s.vm)⟩,
      ⟨g, mk, s₂, L, E, ce, rfl, rfl, hx, hce, hcv, hcl, rfl, hL, rfl, rfl⟩, ?_⟩
    show Steps p.tables e below _ (((({ U with heap := s₂.heap, slotsUsed := s₂.slotsUsed } : State).setVm s₂.vm).setTop g).pushFrame (.throwing q))
    rw [← hs₂]
    exact hsteps
end
variable {p : Program} {l : Launch} {e : Env} {R : Room} {s : State} {m : MethodId} {args : Array Value} {below : List Frame} {meth : Method} {c : Code} {T : State} {H : Heap} {locs : List Loc} {cells slots : Nat}
theorem vx_callVX (X : Stand p l e R s m args below meth c T locs cells slots) (hexec : p.tables.exec = Jvm.exec) {own C : String} {index : Nat} {y : MethodName} {bytes : ByteArray} {maxL : Nat} {ret : Option FieldType} {hh : List (Nat × Nat × Nat × Nat)}
    (hown : s.vm.findClass own = some m.cls) (hlink : (Cond.methodLink own index y).before args s = true) (hinst : (Cond.instanceMethod y).before args s = true) (hsel : (Cond.selects C y y).before args s = true)
    (hcode : (Cond.codeWith y bytes maxL ret hh).before args s = true) (hy : y.cls ≠ "java/lang/invoke/MethodHandle" ∧ y.cls ≠ "java/lang/invoke/VarHandle")
    {W9 : Nat} {Pre : Pt → Array Value → Prop} {Post : Pt → Array Value → Option Value → Pt → Prop} {PostX : Pt → Array Value → Addr → Pt → Prop} (hK : vx_Back l R p e below s args y 3 W9 Pre Post PostX)
    {b : Addr} {cellB : Cell} (hcell : T.heap[b]? = some cellB) (hobj : cellB.vm.isStatics = false) (hcls : s.vm.findClass C = some cellB.cls)
    {g : JFrame} (hg : g.method = m) (hsize : g.locals.size = c.maxLocals) {argsL rest : List Value} (hlen : ∀ sig, parseMethodDescriptor y.desc = some sig → argsL.length = sig.parameters.length)
    (hstack : g.stack = argsL.reverse ++ .ref b :: rest) (hW : 2 * g.monitorRoom + (rest.map fun v => v.category).sum ≤ W9) (hdg : decode c.code g.pc = .ok (.invokevirtual index, 3))
    (hpre : ∀ vm₁, s.WarmedH vm₁ → Pre ⟨T.setVm vm₁, locs, cells, slots⟩ (Value.ref b :: argsL).toArray) :
    (∃ (v : Option Value) (vm₁ : Vm) (B : Pt), s.WarmedH vm₁ ∧ Stand p l e R s m args below meth c B.U B.locs B.cells B.slots ∧ Post ⟨T.setVm vm₁, locs, cells, slots⟩ (Value.ref b :: argsL).toArray v B ∧
      ∀ target, Steps p.tables e below (B.U.setTop { g with pc := g.pc + 3, stack := v.toList ++ rest }) target → Steps p.tables e below (T.setTop g) target) ∨
    (∃ (q : Addr) (vm₁ : Vm) (B : Pt), s.WarmedH vm₁ ∧ Stand p l e R s m args below meth c B.U B.locs B.cells B.slots ∧ PostX ⟨T.setVm vm₁, locs, cells, slots⟩ (Value.ref b :: argsL).toArray q B ∧
      Steps p.tables e below (T.setTop g) ((B.U.setTop { g with stack := rest }).pushFrame (.throwing q))) := by
  obtain ⟨mk, methM, hnamed, hmethM, hstM, habM⟩ := Cond.instanceMethod_spec hinst
  obtain ⟨m8, methM', cM, hn8, hmethM', -, -, -, -, -, -, hsigM⟩ := Cond.codeWith_spec hcode
  cases Option.some.inj (hn8.symm.trans hnamed)
  cases hmethM.symm.trans hmethM'
  obtain ⟨c2, r2, m2, q1, q2, q3, q4, kP, hkP, hkPi⟩ := Cond.selects_spec hsel
  cases hcls.symm.trans q1
  cases (State.methodFound?_of_named hnamed hy).symm.trans q2
  cases hnamed.symm.trans q3
  have hselP : selectMethod e.platform s.vm cellB.cls mk = .method mk := by rw [Launch.admits_selectMethod X.admits]; exact q4
  obtain ⟨vm₁, X₁, hstep₁⟩ := X.invokevirtual hexec hown hlink hnamed hmethM hstM hkP hkPi hy (a := b) (cell := cellB) hcell
    (fun z h => by rw [h] at hobj; cases hobj) hselP hmethM habM hkP hkPi (g := g) hg (argsL := argsL) (rest := rest) (hlen _ hsigM) hstack hdg
  rcases hK m meth c ⟨T.setVm vm₁, locs, cells, slots⟩ { g with stack := rest } (.invokevirtual index) mk (Value.ref b :: argsL).toArray X₁ hg hsize hdg hW (X₁.named hnamed) (hpre vm₁ X₁.warmed) with ⟨v, B, X', hpost, hsteps⟩ | ⟨q, B, X', hpost, hsteps⟩
  · exact Or.inl ⟨v, vm₁, B, X₁.warmed, X', hpost, fun target h => hstep₁ _ fun acts => by rw [doInvoke_state]; exact hsteps.trans h⟩
  · exact Or.inr ⟨q, vm₁, B, X₁.warmed, X', hpost, hstep₁ _ fun acts => by rw [doInvoke_state]; exact hsteps⟩
theorem vx_callSX (X : Stand p l e R s m args below meth c T locs cells slots) (hexec : p.tables.exec = Jvm.exec) {own : String} {index : Nat} {y : MethodName} {bytes : ByteArray} {maxL : Nat} {ret : Option FieldType} {hh : List (Nat × Nat × Nat × Nat)}
    (hown : s.vm.findClass own = some m.cls) (hlink : (Cond.methodLink own index y).before args s = true) (hstat : (Cond.static y).before args s = true) (hinit : (Cond.initialized y.cls).before args s = true)
    (hcode : (Cond.codeWith y bytes maxL ret hh).before args s = true) (hy : y.cls ≠ "java/lang/invoke/MethodHandle" ∧ y.cls ≠ "java/lang/invoke/VarHandle")
    {W9 : Nat} {Pre : Pt → Array Value → Prop} {Post : Pt → Array Value → Option Value → Pt → Prop} {PostX : Pt → Array Value → Addr → Pt → Prop} (hK : vx_Back l R p e below s args y 3 W9 Pre Post PostX)
    {g : JFrame} (hg : g.method = m) (hsize : g.locals.size = c.maxLocals) {argsL rest : List Value} (hlen : ∀ sig, parseMethodDescriptor y.desc = some sig → argsL.length = sig.parameters.length)
    (hstack : g.stack = argsL.reverse ++ rest) (hW : 2 * g.monitorRoom + (rest.map fun v => v.category).sum ≤ W9) (hdg : decode c.code g.pc = .ok (.invokestatic index, 3))
    (hpre : ∀ vm₁, s.WarmedH vm₁ → Pre ⟨T.setVm vm₁, locs, cells, slots⟩ argsL.toArray) :
    (∃ (v : Option Value) (vm₁ : Vm) (B : Pt), s.WarmedH vm₁ ∧ Stand p l e R s m args below meth c B.U B.locs B.cells B.slots ∧ Post ⟨T.setVm vm₁, locs, cells, slots⟩ argsL.toArray v B ∧
      ∀ target, Steps p.tables e below (B.U.setTop { g with pc := g.pc + 3, stack := v.toList ++ rest }) target → Steps p.tables e below (T.setTop g) target) ∨
    (∃ (q : Addr) (vm₁ : Vm) (B : Pt), s.WarmedH vm₁ ∧ Stand p l e R s m args below meth c B.U B.locs B.cells B.slots ∧ PostX ⟨T.setVm vm₁, locs, cells, slots⟩ argsL.toArray q B ∧
      Steps p.tables e below (T.setTop g) ((B.U.setTop { g with stack := rest }).pushFrame (.throwing q))) := by
  obtain ⟨mk, methM, cM, hnamed, hmethM, -, -, -, -, -, -, hsigM⟩ := Cond.codeWith_spec hcode
  have hstatic : methM.isStatic = true := Cond.static_spec hnamed hmethM hstat
  obtain ⟨kP, hkP, -⟩ := className_of_methodNamed hnamed
  have hinitP : kP.init = .initialized := Cond.initialized_spec (findClass_of_methodNamed hnamed) hkP hinit
  obtain ⟨vm₁, X₁, hstep₁⟩ := X.invokestatic hexec hown hlink hnamed hmethM hstatic hkP hinitP hy (g := g) hg (argsL := argsL) (rest := rest) (hlen _ hsigM) hstack hdg
  rcases hK m meth c ⟨T.setVm vm₁, locs, cells, slots⟩ { g with stack := rest } (.invokestatic index) mk argsL.toArray X₁ hg hsize hdg hW (X₁.named hnamed) (hpre vm₁ X₁.warmed) with ⟨v, B, X', hpost, hsteps⟩ | ⟨q, B, X', hpost, hsteps⟩
  · exact Or.inl ⟨v, vm₁, B, X₁.warmed, X', hpost, fun target h => hstep₁ _ fun acts => by rw [doInvoke_state]; exact hsteps.trans h⟩
  · exact Or.inr ⟨q, vm₁, B, X₁.warmed, X', hpost, hstep₁ _ fun acts => by rw [doInvoke_state]; exact hsteps⟩
theorem vx_callVW (X : Stand p l e R s m args below meth c T locs cells slots) (hexec : p.tables.exec = Jvm.exec) {own C : String} {index : Nat} {y : MethodName} {bytes : ByteArray} {maxL : Nat} {ret : Option FieldType} {hh : List (Nat × Nat × Nat × Nat)}
    (hown : s.vm.findClass own = some m.cls) (hlink : (Cond.methodLink own index y).before args s = true) (hinst : (Cond.instanceMethod y).before args s = true) (hsel : (Cond.selects C y y).before args s = true)
    (hcode : (Cond.codeWith y bytes maxL ret hh).before args s = true) (hy : y.cls ≠ "java/lang/invoke/MethodHandle" ∧ y.cls ≠ "java/lang/invoke/VarHandle")
    {W9 : Nat} {Pre : Pt → Array Value → Prop} {Post : Pt → Array Value → Option Value → Pt → Prop} (hK : Back l R p e below s args y 3 W9 Pre Post)
    {b : Addr} {cellB : Cell} (hcell : T.heap[b]? = some cellB) (hobj : cellB.vm.isStatics = false) (hcls : s.vm.findClass C = some cellB.cls)
    {g : JFrame} (hg : g.method = m) (hsize : g.locals.size = c.maxLocals) {argsL rest : List Value} (hlen : ∀ sig, parseMethodDescriptor y.desc = some sig → argsL.length = sig.parameters.length)
    (hstack : g.stack = argsL.reverse ++ .ref b :: rest) (hW : 2 * g.monitorRoom + (rest.map fun v => v.category).sum ≤ W9) (hdg : decode c.code g.pc = .ok (.invokevirtual index, 3))
    (hpre : ∀ vm₁, s.WarmedH vm₁ → Pre ⟨T.setVm vm₁, locs, cells, slots⟩ (Value.ref b :: argsL).toArray) :
    ∃ (v : Option Value) (vm₁ : Vm) (B : Pt), s.WarmedH vm₁ ∧ Stand p l e R s m args below meth c B.U B.locs B.cells B.slots ∧ Post ⟨T.setVm vm₁, locs, cells, slots⟩ (Value.ref b :: argsL).toArray v B ∧
      ∀ target, Steps p.tables e below (B.U.setTop { g with pc := g.pc + 3, stack := v.toList ++ rest }) target → Steps p.tables e below (T.setTop g) target := by
  obtain ⟨mk, methM, hnamed, hmethM, hstM, habM⟩ := Cond.instanceMethod_spec hinst
  obtain ⟨m8, methM', cM, hn8, hmethM', -, -, -, -, -, -, hsigM⟩ := Cond.codeWith_spec hcode
  cases Option.some.inj (hn8.symm.trans hnamed)
  cases hmethM.symm.trans hmethM'
  obtain ⟨c2, r2, m2, q1, q2, q3, q4, kP, hkP, hkPi⟩ := Cond.selects_spec hsel
  cases hcls.symm.trans q1
  cases (State.methodFound?_of_named hnamed hy).symm.trans q2
  cases hnamed.symm.trans q3
  have hselP : selectMethod e.platform s.vm cellB.cls mk = .method mk := by rw [Launch.admits_selectMethod X.admits]; exact q4
  obtain ⟨vm₁, X₁, hstep₁⟩ := X.invokevirtual hexec hown hlink hnamed hmethM hstM hkP hkPi hy (a := b) (cell := cellB) hcell
    (fun z h => by rw [h] at hobj; cases hobj) hselP hmethM habM hkP hkPi (g := g) hg (argsL := argsL) (rest := rest) (hlen _ hsigM) hstack hdg
  obtain ⟨v, B, X', hpost, hsteps⟩ := hK m meth c ⟨T.setVm vm₁, locs, cells, slots⟩ { g with stack := rest } (.invokevirtual index) mk (Value.ref b :: argsL).toArray X₁ hg hsize hdg hW (X₁.named hnamed) (hpre vm₁ X₁.warmed)
  exact ⟨v, vm₁, B, X₁.warmed, X', hpost, fun target h => hstep₁ _ fun acts => by rw [doInvoke_state]; exact hsteps.trans h⟩
abbrev vx_CVW (R : Room) (s : State) (args : Array Value) (own C : String) (index : Nat) (y : MethodName) (bytes : ByteArray) (maxL : Nat) (ret : Option FieldType) (hh : List (Nat × Nat × Nat × Nat)) (ws : List Cond) (rm : Room) (mc ms n : Nat) : Prop :=
  (rm.cells = mc ∧ rm.slots = ms ∧ rm.frames + 1 ≤ R.frames ∧ 8 + (maxL + 11) + rm.locals ≤ R.locals ∧ (∀ w ∈ ws, ∀ (a' : Array Value) (U : State), s.WarmedH U.vm → w.before a' U = true) ∧ Cond.codeWith y bytes maxL ret hh ∈ ws) ∧
  (Cond.codeWith y bytes maxL ret hh).before args s = true ∧ (Cond.initialized y.cls).before args s = true ∧ (y.cls ≠ "java/lang/invoke/MethodHandle" ∧ y.cls ≠ "java/lang/invoke/VarHandle") ∧
  (∀ sig, parseMethodDescriptor y.desc = some sig → n = sig.parameters.length) ∧ (Cond.methodLink own index y).before args s = true ∧ (Cond.instanceMethod y).before args s = true ∧ (Cond.selects C y y).before args s = true
theorem vx_cwVW {own C : String} {index maxL mc ms : Nat} {y : MethodName} {bytes : ByteArray} {ret : Option FieldType} {hh : List (Nat × Nat × Nat × Nat)} {Ts ws ws' : List Cond} {rm : Room} (n : Nat) (ht : ∀ w ∈ Ts, w.before args s = true) (hT : GoodIn Ts (wsV own index C y ws)) (hw : ws = Cond.codeWith y bytes maxL ret hh :: ws') (hrc : rm.cells = mc) (hrs : rm.slots = ms)
    (hd : y.cls = C ∧ y.cls ≠ "java/lang/invoke/MethodHandle" ∧ y.cls ≠ "java/lang/invoke/VarHandle" ∧ (parseMethodDescriptor y.desc).map (fun d => d.parameters.length) = some n) (hR : rm.frames + 1 ≤ R.frames ∧ 8 + (maxL + 11) + rm.locals ≤ R.locals) :
    vx_CVW R s args own C index y bytes maxL ret hh ws rm mc ms n := by
  obtain ⟨hC, hd⟩ := hd
  subst hC
  have ok : ∀ w ∈ wsV own index y.cls y ws, w.before args s = true := fun w h => ht w (hT w h).1
  have hG : GoodIn Ts ws := fun w h => hT w (by unfold wsV; exact List.mem_append_right _ h)
  have hc : Cond.codeWith y bytes maxL ret hh ∈ ws := by rw [hw]; exact List.mem_cons_self
  refine ⟨⟨hrc, hrs, hR.1, hR.2, pay_in ht hG, hc⟩, ht _ (hG _ hc).1, ok _ (by simp [wsV]), ⟨hd.1, hd.2.1⟩, fun sig h => ?_, ok _ (by simp [wsV]), ok _ (by simp [wsV]), ok _ (by simp [wsV])⟩
  have h2 := hd.2.2
  rw [h] at h2
  exact (Option.some.inj h2).symm
theorem vx_runVW {y : MethodName} {bytes cc : ByteArray} {maxL nL mc ms n index : Nat} {ret : Option FieldType} {hh : List (Nat × Nat × Nat × Nat)} {ws : List Cond} {rm : Room} {Pc : Array Value → State → Prop} {Qc : Array Value → State → Outcome → State → Prop} {free : Addr → Prop} {Ts : List Cond} {own C : String} {b : Addr} {As rest : List Value} {g : JFrame}
    (S : CallFix p m c cc nL s args Ts own) (hM : Met l y ws rm Pc Qc mc ms free) (cw : vx_CVW R s args own C index y bytes maxL ret hh ws rm mc ms n) (hp : PreV s H C b Pc As)
    (hg : g.method = m) (hn : As.length = n) (hsize : g.locals.size = nL) (hstack : g.stack = As.reverse ++ .ref b :: rest) (hW : 2 * g.monitorRoom + (rest.map fun v => v.category).sum ≤ 8) (hdg : decode cc g.pc = .ok (.invokevirtual index, 3)) (hf : cells + mc ≤ R.cells ∧ slots + ms ≤ R.slots) :
    va_Run p l e R s m args below meth c H locs cells slots mc ms g rest (Qc (Value.ref b :: As).toArray) free := by
  obtain ⟨⟨hrc, hrs, hfr, hlo, hws, hcw⟩, hcode, hini, hy, hlen, hl, hin, hse⟩ := cw
  have hK : Back l R p e below s args y 3 8 (PreOf R mc ms Pc) (PostOf Qc mc ms free) := va_backW (hh := hh) (bytes := bytes) (maxL := maxL) (ret := ret) hM hp.1 hrc hrs hfr hlo hws hcw (fun a' U hW => word_at hW (Or.inl (by first | rfl | simp [Cond.onTables, Cond.keeps, Cond.steady])) hini)
  obtain ⟨hx, hb, hml, ho, -⟩ := S
  obtain ⟨-, ⟨cellB, hcB, hoB, hclB⟩, hPc⟩ := hp
  intro T hT X
  obtain ⟨v, vm₁, ⟨U', l2, c2, s2⟩, hW₁, X', ⟨g', mk, t, L, e1, e2, hq, h1, hL, h2, h3⟩, st⟩ := vx_callVW X hx (C := C) (hh := hh) (bytes := bytes) (maxL := maxL) (ret := ret) ho hl hin hse hcode hy hK (by rw [hT]; exact hcB) hoB hclB hg (hsize.trans hml.symm) (argsL := As) (rest := rest) (fun sig h => hn.trans (hlen sig h)) hstack hW (by rw [hb]; exact hdg)
    (fun vm₁ hW₁ => ⟨hf.1, hf.2, hPc (T.setVm vm₁) hT hW₁⟩)
  dsimp only [Pt.U, Pt.locs, Pt.cells, Pt.slots] at X' e1 e2 h1 h2 h3 st
  subst h1; subst h2; subst h3
  exact ⟨v, (T.setVm vm₁).calling g' mk (Value.ref b :: As).toArray, t, U', L, hT, X', hL, e1, e2, hq, st⟩
section
variable {y : MethodName} {bytes cc : ByteArray} {maxL nL mc ms n index : Nat} {ret : Option FieldType} {ws : List Cond} {rm : Room} {Pc : Array Value → State → Prop} {Qc : Array Value → State → Outcome → State → Prop} {XC : String → State → State → Prop} {free : Addr → Prop} {Ts : List Cond} {own C : String} {b : Addr} {As rest : List Value} {g : JFrame}
theorem vx_runVX {hh : List (Nat × Nat × Nat × Nat)} (S : CallFix p m c cc nL s args Ts own) (hM : vx_Met l y ws rm Pc Qc XC mc ms free) (cw : vx_CVW R s args own C index y bytes maxL ret hh ws rm mc ms n) (hp : PreV s H C b Pc As)
    (hg : g.method = m) (hn : As.length = n) (hsize : g.locals.size = nL) (hstack : g.stack = As.reverse ++ .ref b :: rest) (hW : 2 * g.monitorRoom + (rest.map fun v => v.category).sum ≤ 8) (hdg : decode cc g.pc = .ok (.invokevirtual index, 3)) (hf : cells + mc ≤ R.cells ∧ slots + ms ≤ R.slots) :
    vx_Run p l e R s m args below meth c H locs cells slots mc ms g rest (Qc (Value.ref b :: As).toArray) XC free := by
  obtain ⟨⟨hrc, hrs, hfr, hlo, hws, hcw⟩, hcode, hini, hy, hlen, hl, hin, hse⟩ := cw
  have hK : vx_Back l R p e below s args y 3 8 (PreOf R mc ms Pc) (PostOf Qc mc ms free) (vx_Post XC mc ms free) := vx_backW (hh := hh) (bytes := bytes) (maxL := maxL) (ret := ret) hM hp.1 hrc hrs hfr hlo hws hcw (fun a' U hW => word_at hW (Or.inl (by first | rfl | simp [Cond.onTables, Cond.keeps, Cond.steady])) hini)
  obtain ⟨hx, hb, hml, ho, -⟩ := S
  obtain ⟨-, ⟨cellB, hcB, hoB, hclB⟩, hPc⟩ := hp
  intro T hT X
  rcases vx_callVX X hx (C := C) (hh := hh) (bytes := bytes) (maxL := maxL) (ret := ret) ho hl hin hse hcode hy hK (by rw [hT]; exact hcB) hoB hclB hg (hsize.trans hml.symm) (argsL := As) (rest := rest) (fun sig h => hn.trans (hlen sig h)) hstack hW (by rw [hb]; exact hdg)
    (fun vm₁ hW₁ => ⟨hf.1, hf.2, hPc (T.setVm vm₁) hT hW₁⟩) with ⟨v, vm₁, ⟨U', l2, c2, s2⟩, hW₁, X', ⟨g', mk, t, L, e1, e2, hq, h1, hL, h2, h3⟩, st⟩ | ⟨q, vm₁, ⟨U', l2, c2, s2⟩, hW₁, X', ⟨g', mk, t, L, E, ce, e1, e2, hq, hce, hcv, hcl, h1, hL, h2, h3⟩, st⟩
  · dsimp only [Pt.U, Pt.locs, Pt.cells, Pt.slots] at X' e1 e2 h1 h2 h3 st
    subst h1; subst h2; subst h3
    exact Or.inl ⟨v, (T.setVm vm₁).calling g' mk (Value.ref b :: As).toArray, t, U', L, hT, X', hL, e1, e2, hq, st⟩
  · dsimp only [Pt.U, Pt.locs, Pt.cells, Pt.slots] at X' e1 e2 h1 h2 h3 st hcl
    subst h1; subst h2; subst h3
    exact Or.inr ⟨q, (T.setVm vm₁).calling g' mk (Value.ref b :: As).toArray, t, U', L, E, ce, hT, X', hL, e1, e2, hq, hce, hcv, vx_cls hW₁ hcl, st⟩
theorem vx_runSX {hh : List (Nat × Nat × Nat × Nat)} (S : CallFix p m c cc nL s args Ts own) (hM : vx_Met l y ws rm Pc Qc XC mc ms free) (cw : vx_CSW R s args own index y bytes maxL ret hh ws rm mc ms n) (hp : PreS s H Pc As)
    (hg : g.method = m) (hn : As.length = n) (hsize : g.locals.size = nL) (hstack : g.stack = As.reverse ++ rest) (hW : 2 * g.monitorRoom + (rest.map fun v => v.category).sum ≤ 8) (hdg : decode cc g.pc = .ok (.invokestatic index, 3)) (hf : cells + mc ≤ R.cells ∧ slots + ms ≤ R.slots) :
    vx_Run p l e R s m args below meth c H locs cells slots mc ms g rest (Qc As.toArray) XC free := by
  obtain ⟨⟨hrc, hrs, hfr, hlo, hws, hcw⟩, hcode, hini, hy, hlen, hl, hstt⟩ := cw
  have hK : vx_Back l R p e below s args y 3 8 (PreOf R mc ms Pc) (PostOf Qc mc ms free) (vx_Post XC mc ms free) := vx_backW (hh := hh) (bytes := bytes) (maxL := maxL) (ret := ret) hM hp.1 hrc hrs hfr hlo hws hcw (fun a' U hW => word_at hW (Or.inl (by first | rfl | simp [Cond.onTables, Cond.keeps, Cond.steady])) hini)
  obtain ⟨hx, hb, hml, ho, -⟩ := S
  intro T hT X
  rcases vx_callSX X hx (hh := hh) (bytes := bytes) (maxL := maxL) (ret := ret) ho hl hstt hini hcode hy hK hg (hsize.trans hml.symm) (argsL := As) (rest := rest) (fun sig h => hn.trans (hlen sig h)) hstack hW (by rw [hb]; exact hdg)
    (fun vm₁ hW₁ => ⟨hf.1, hf.2, hp.2 (T.setVm vm₁) hT hW₁⟩) with ⟨v, vm₁, ⟨U', l2, c2, s2⟩, hW₁, X', ⟨g', mk, t, L, e1, e2, hq, h1, hL, h2, h3⟩, st⟩ | ⟨q, vm₁, ⟨U', l2, c2, s2⟩, hW₁, X', ⟨g', mk, t, L, E, ce, e1, e2, hq, hce, hcv, hcl, h1, hL, h2, h3⟩, st⟩
  · dsimp only [Pt.U, Pt.locs, Pt.cells, Pt.slots] at X' e1 e2 h1 h2 h3 st
    subst h1; subst h2; subst h3
    exact Or.inl ⟨v, (T.setVm vm₁).calling g' mk As.toArray, t, U', L, hT, X', hL, e1, e2, hq, st⟩
  · dsimp only [Pt.U, Pt.locs, Pt.cells, Pt.slots] at X' e1 e2 h1 h2 h3 st hcl
    subst h1; subst h2; subst h3
    exact Or.inr ⟨q, (T.setVm vm₁).calling g' mk As.toArray, t, U', L, E, ce, hT, X', hL, e1, e2, hq, hce, hcv, vx_cls hW₁ hcl, st⟩
end
end VXH
theorem vx_ofWH {l : Launch} {y : MethodName} {ws ws' : List Cond} {rm : Room} {Pc : Array Value → State → Prop} {Qc : Array Value → State → Outcome → State → Prop} {XC : String → State → State → Prop} {mc ms : Nat} {free : Addr → Prop} {cc : ByteArray} {maxL : Nat} {ret : Option FieldType} {hh : List (Nat × Nat × Nat × Nat)}
    (hy : plainName y.cls = true) (hw : ws = Cond.codeWith y cc maxL ret hh :: ws')
    (body : ∀ p e s m args below meth c s₁, BodyLoose p l y (headSpec ws rm) cc maxL ret e s m args below meth c s₁ → c.maxLocals = maxL → Pc args s →
      W p l e (headSpec ws rm).room s m args below meth c s.heap [] 0 0 (vx_MQ below Qc XC args s mc ms free) (entryFrame m args maxL)) : vx_Met l y ws rm Pc Qc XC mc ms free := by
  refine MetFree.of_bodyS (code := cc) (maxLocals := maxL) (ret := ret) hy ?_ ?_
  · intro args s m h hn
    obtain ⟨m9, meth, c, hn9, h1, h2, h3, h4, -, h5, h6, -⟩ := Cond.codeWith_spec (atoms_spec (ws := ws) h _ (by rw [hw]; exact List.mem_cons_self))
    cases hn.symm.trans hn9
    exact ⟨meth, c, h1, h2, h3, h4, h5, h6⟩
  · intro p e s m args below meth c s₁ B hml hP _
    have hh0 : s₁.heap = s.heap := by rw [B.state]; rfl
    obtain ⟨t, a1, o, b1, b2, b3⟩ := body p e s m args below meth c s₁ B hml hP s₁ hh0 (Stand.of_body B)
    exact ⟨t, o, a1, b1, b2, b3⟩
/-! ===== END ===== -/
end
section
def RX0 : String := "TailBlocks$Disk"
def TX0 : u_T := fun k => match k with
  | 0 => ("TailBlocks$Disk", "kinds", "[I", true)
  | 1 => ("TailBlocks$Disk", "owners", "[I", true)
  | 2 => ("TailBlocks$Disk", "ranks", "[I", true)
  | 3 => ("TailBlocks$Disk", "sizes", "[I", true)
  | 4 => ("TailBlocks$Disk", "tailBlocks", "[I", true)
  | 5 => ("TailBlocks$Disk", "tailStarts", "[I", true)
  | 6 => ("TailBlocks$Disk", "broken", "[I", true)
  | 7 => ("TailBlocks$Disk", "placings", "[I", true)
  | 8 => ("TailBlocks$Disk", "refused", "I", false)
  | 9 => ("TailBlocks$Disk", "packings", "I", false)
  | _ => ("TailBlocks$Disk", "setting", "I", false)
def tyX0 : Nat → FieldType := fun k => match k with
  | 0 => .array .int
  | 1 => .array .int
  | 2 => .array .int
  | 3 => .array .int
  | 4 => .array .int
  | 5 => .array .int
  | 6 => .array .int
  | 7 => .array .int
  | 8 => .int
  | 9 => .int
  | _ => .int
abbrev wsX00 : List Cond := u_ws RX0 TX0 11
theorem nmX0 : ∀ a, a < 11 → ∀ b, b < 11 → a ≠ b → (TX0 a).2.1 ≠ (TX0 b).2.1 := by decide +kernel
theorem tyX0_ok : ∀ k, k < 11 → parseFieldDescriptor (TX0 k).2.2.1 = some (tyX0 k) := by decide +kernel
abbrev cX0_init : ByteArray := prog_2_method_1_code
def yX0_init : MethodName := ⟨RX0, "<init>", "()V"⟩
abbrev cX0_copyFrom : ByteArray := prog_2_method_2_code
def yX0_copyFrom : MethodName := ⟨RX0, "copyFrom", "(LTailBlocks$Disk;)V"⟩
abbrev cX0_exists : ByteArray := prog_2_method_3_code
def yX0_exists : MethodName := ⟨RX0, "exists", "(I)Z"⟩
abbrev cX0_files : ByteArray := prog_2_method_4_code
def yX0_files : MethodName := ⟨RX0, "files", "()I"⟩
abbrev cX0_brokenFiles : ByteArray := prog_2_method_5_code
def yX0_brokenFiles : MethodName := ⟨RX0, "brokenFiles", "()I"⟩
abbrev cX0_isBroken : ByteArray := prog_2_method_6_code
def yX0_isBroken : MethodName := ⟨RX0, "isBroken", "(I)Z"⟩
abbrev cX0_sizeOf : ByteArray := prog_2_method_7_code
def yX0_sizeOf : MethodName := ⟨RX0, "sizeOf", "(I)I"⟩
abbrev cX0_tailCells : ByteArray := prog_2_method_8_code
def yX0_tailCells : MethodName := ⟨RX0, "tailCells", "(I)I"⟩
abbrev cX0_kindOf : ByteArray := prog_2_method_9_code
def yX0_kindOf : MethodName := ⟨RX0, "kindOf", "(I)I"⟩
abbrev cX0_blocksOf : ByteArray := prog_2_method_10_code
def yX0_blocksOf : MethodName := ⟨RX0, "blocksOf", "(I)I"⟩
abbrev cX0_sharedTailCells : ByteArray := prog_2_method_11_code
def yX0_sharedTailCells : MethodName := ⟨RX0, "sharedTailCells", "()I"⟩
abbrev cX0_fileProperty : ByteArray := prog_2_method_12_code
def yX0_fileProperty : MethodName := ⟨RX0, "fileProperty", "(II)I"⟩
abbrev cX0_blockProperty : ByteArray := prog_2_method_13_code
def yX0_blockProperty : MethodName := ⟨RX0, "blockProperty", "(II)I"⟩
abbrev cX0_tailsIn : ByteArray := prog_2_method_14_code
def yX0_tailsIn : MethodName := ⟨RX0, "tailsIn", "(I)I"⟩
abbrev cX0_tailCellsIn : ByteArray := prog_2_method_15_code
def yX0_tailCellsIn : MethodName := ⟨RX0, "tailCellsIn", "(I)I"⟩
abbrev cX0_whereIs : ByteArray := prog_2_method_16_code
def yX0_whereIs : MethodName := ⟨RX0, "whereIs", "(II)I"⟩
abbrev cX0_hasSomething : ByteArray := prog_2_method_17_code
def yX0_hasSomething : MethodName := ⟨RX0, "hasSomething", "(II)Z"⟩
abbrev cX0_isHeld : ByteArray := prog_2_method_18_code
def yX0_isHeld : MethodName := ⟨RX0, "isHeld", "(I)Z"⟩
abbrev cX0_soundFilesIn : ByteArray := prog_2_method_19_code
def yX0_soundFilesIn : MethodName := ⟨RX0, "soundFilesIn", "(I)I"⟩
abbrev cX0_takenCells : ByteArray := prog_2_method_20_code
def yX0_takenCells : MethodName := ⟨RX0, "takenCells", "(II)I"⟩
abbrev cX0_isTaken : ByteArray := prog_2_method_21_code
def yX0_isTaken : MethodName := ⟨RX0, "isTaken", "(II)Z"⟩
abbrev cX0_gapFrom : ByteArray := prog_2_method_22_code
def yX0_gapFrom : MethodName := ⟨RX0, "gapFrom", "(II)I"⟩
abbrev cX0_longestGap : ByteArray := prog_2_method_23_code
def yX0_longestGap : MethodName := ⟨RX0, "longestGap", "(I)I"⟩
abbrev cX0_lowestFree : ByteArray := prog_2_method_24_code
def yX0_lowestFree : MethodName := ⟨RX0, "lowestFree", "()I"⟩
abbrev cX0_placeFor : ByteArray := prog_2_method_25_code
def yX0_placeFor : MethodName := ⟨RX0, "placeFor", "(I)I"⟩
abbrev cX0_isEnough : ByteArray := prog_2_method_26_code
def yX0_isEnough : MethodName := ⟨RX0, "isEnough", "(III)Z"⟩
abbrev cX0_hasRoomFor : ByteArray := prog_2_method_27_code
def yX0_hasRoomFor : MethodName := ⟨RX0, "hasRoomFor", "(I)Z"⟩
abbrev cX0_lowestNumber : ByteArray := prog_2_method_28_code
def yX0_lowestNumber : MethodName := ⟨RX0, "lowestNumber", "()I"⟩
abbrev cX0_growthOf : ByteArray := prog_2_method_29_code
def yX0_growthOf : MethodName := ⟨RX0, "growthOf", "(II)I"⟩
abbrev cX0_cellsBehindTail : ByteArray := prog_2_method_30_code
def yX0_cellsBehindTail : MethodName := ⟨RX0, "cellsBehindTail", "(I)I"⟩
abbrev cX0_addFile : ByteArray := prog_2_method_31_code
def yX0_addFile : MethodName := ⟨RX0, "addFile", "(I)I"⟩
abbrev cX0_extend : ByteArray := prog_2_method_32_code
def yX0_extend : MethodName := ⟨RX0, "extend", "(II)I"⟩
abbrev cX0_shorten : ByteArray := prog_2_method_33_code
def yX0_shorten : MethodName := ⟨RX0, "shorten", "(II)I"⟩
abbrev cX0_removeFile : ByteArray := prog_2_method_34_code
def yX0_removeFile : MethodName := ⟨RX0, "removeFile", "(I)I"⟩
abbrev cX0_rebuild : ByteArray := prog_2_method_35_code
def yX0_rebuild : MethodName := ⟨RX0, "rebuild", "(II)V"⟩
abbrev cX0_takeWhole : ByteArray := prog_2_method_36_code
def yX0_takeWhole : MethodName := ⟨RX0, "takeWhole", "(II)V"⟩
abbrev cX0_dropWholes : ByteArray := prog_2_method_37_code
def yX0_dropWholes : MethodName := ⟨RX0, "dropWholes", "(II)I"⟩
abbrev cX0_putTail : ByteArray := prog_2_method_38_code
def yX0_putTail : MethodName := ⟨RX0, "putTail", "(III)V"⟩
abbrev cX0_dropTail : ByteArray := prog_2_method_39_code
def yX0_dropTail : MethodName := ⟨RX0, "dropTail", "(I)I"⟩
abbrev cX0_freeIfEmpty : ByteArray := prog_2_method_40_code
def yX0_freeIfEmpty : MethodName := ⟨RX0, "freeIfEmpty", "(I)I"⟩
abbrev cX0_turnFree : ByteArray := prog_2_method_41_code
def yX0_turnFree : MethodName := ⟨RX0, "turnFree", "(I)V"⟩
abbrev cX0_turnBad : ByteArray := prog_2_method_42_code
def yX0_turnBad : MethodName := ⟨RX0, "turnBad", "(I)I"⟩
abbrev cX0_takesPacking : ByteArray := prog_2_method_43_code
def yX0_takesPacking : MethodName := ⟨RX0, "takesPacking", "(I)Z"⟩
def RX1 : String := "TailBlocks$Fewest"
def TX1 : u_T := fun k => match k with
  | 0 => ("TailBlocks$Fewest", "tails", "LTailBlocks$Tails;", true)
  | 1 => ("TailBlocks$Fewest", "loads", "[I", true)
  | 2 => ("TailBlocks$Fewest", "setBlocks", "[I", true)
  | _ => ("TailBlocks$Fewest", "setLoads", "[I", true)
def tyX1 : Nat → FieldType := fun k => match k with
  | 0 => .object "TailBlocks$Tails"
  | 1 => .array .int
  | 2 => .array .int
  | _ => .array .int
abbrev wsX10 : List Cond := u_ws RX1 TX1 4
theorem nmX1 : ∀ a, a < 4 → ∀ b, b < 4 → a ≠ b → (TX1 a).2.1 ≠ (TX1 b).2.1 := by decide +kernel
theorem tyX1_ok : ∀ k, k < 4 → parseFieldDescriptor (TX1 k).2.2.1 = some (tyX1 k) := by decide +kernel
abbrev cX1_init : ByteArray := prog_3_method_1_code
def yX1_init : MethodName := ⟨RX1, "<init>", "()V"⟩
abbrev cX1_bySets : ByteArray := prog_3_method_2_code
def yX1_bySets : MethodName := ⟨RX1, "bySets", "(LTailBlocks$Disk;)I"⟩
abbrev cX1_solveSet : ByteArray := prog_3_method_3_code
def yX1_solveSet : MethodName := ⟨RX1, "solveSet", "(I)V"⟩
abbrev cX1_byTrying : ByteArray := prog_3_method_4_code
def yX1_byTrying : MethodName := ⟨RX1, "byTrying", "(LTailBlocks$Disk;)I"⟩
abbrev cX1_tryTail : ByteArray := prog_3_method_5_code
def yX1_tryTail : MethodName := ⟨RX1, "tryTail", "(LTailBlocks$Tails;[IIIII)I"⟩
def RX2 : String := "TailBlocks$History"
def TX2 : u_T := fun k => match k with
  | 0 => ("TailBlocks$History", "states", "[LTailBlocks$Disk;", true)
  | _ => ("TailBlocks$History", "held", "I", false)
def tyX2 : Nat → FieldType := fun k => match k with
  | 0 => .array (.object "TailBlocks$Disk")
  | _ => .int
abbrev wsX20 : List Cond := u_ws RX2 TX2 2
theorem nmX2 : ∀ a, a < 2 → ∀ b, b < 2 → a ≠ b → (TX2 a).2.1 ≠ (TX2 b).2.1 := by decide +kernel
theorem tyX2_ok : ∀ k, k < 2 → parseFieldDescriptor (TX2 k).2.2.1 = some (tyX2 k) := by decide +kernel
abbrev cX2_init : ByteArray := prog_4_method_1_code
def yX2_init : MethodName := ⟨RX2, "<init>", "()V"⟩
abbrev cX2_held : ByteArray := prog_4_method_2_code
def yX2_held : MethodName := ⟨RX2, "held", "()I"⟩
abbrev cX2_store : ByteArray := prog_4_method_3_code
def yX2_store : MethodName := ⟨RX2, "store", "(LTailBlocks$Disk;)V"⟩
abbrev cX2_dropOldest : ByteArray := prog_4_method_4_code
def yX2_dropOldest : MethodName := ⟨RX2, "dropOldest", "()V"⟩
abbrev cX2_restore : ByteArray := prog_4_method_5_code
def yX2_restore : MethodName := ⟨RX2, "restore", "(LTailBlocks$Disk;)V"⟩
def RX3 : String := "TailBlocks$Orders"
def TX3 : u_T := fun k => match k with
  | 0 => ("TailBlocks$Orders", "due", "I", false)
  | 1 => ("TailBlocks$Orders", "sign", "I", false)
  | 2 => ("TailBlocks$Orders", "file", "I", false)
  | _ => ("TailBlocks$Orders", "number", "I", false)
def tyX3 : Nat → FieldType := fun k => match k with
  | 0 => .int
  | 1 => .int
  | 2 => .int
  | _ => .int
abbrev wsX30 : List Cond := u_ws RX3 TX3 4
theorem nmX3 : ∀ a, a < 4 → ∀ b, b < 4 → a ≠ b → (TX3 a).2.1 ≠ (TX3 b).2.1 := by decide +kernel
theorem tyX3_ok : ∀ k, k < 4 → parseFieldDescriptor (TX3 k).2.2.1 = some (tyX3 k) := by decide +kernel
abbrev cX3_init : ByteArray := prog_5_method_1_code
def yX3_init : MethodName := ⟨RX3, "<init>", "()V"⟩
abbrev cX3_begin : ByteArray := prog_5_method_2_code
def yX3_begin : MethodName := ⟨RX3, "begin", "()V"⟩
abbrev cX3_readable : ByteArray := prog_5_method_3_code
def yX3_readable : MethodName := ⟨RX3, "readable", "(LTailBlocks$Text;)I"⟩
abbrev cX3_canEndHere : ByteArray := prog_5_method_4_code
def yX3_canEndHere : MethodName := ⟨RX3, "canEndHere", "()Z"⟩
abbrev cX3_take : ByteArray := prog_5_method_5_code
def yX3_take : MethodName := ⟨RX3, "take", "(I)Z"⟩
abbrev cX3_takeSign : ByteArray := prog_5_method_6_code
def yX3_takeSign : MethodName := ⟨RX3, "takeSign", "(I)Z"⟩
abbrev cX3_takeFile : ByteArray := prog_5_method_7_code
def yX3_takeFile : MethodName := ⟨RX3, "takeFile", "(I)Z"⟩
abbrev cX3_takeColon : ByteArray := prog_5_method_8_code
def yX3_takeColon : MethodName := ⟨RX3, "takeColon", "(I)Z"⟩
abbrev cX3_takeFirstDigit : ByteArray := prog_5_method_9_code
def yX3_takeFirstDigit : MethodName := ⟨RX3, "takeFirstDigit", "(I)Z"⟩
abbrev cX3_takeDigit : ByteArray := prog_5_method_10_code
def yX3_takeDigit : MethodName := ⟨RX3, "takeDigit", "(I)Z"⟩
abbrev cX3_takeSemicolon : ByteArray := prog_5_method_11_code
def yX3_takeSemicolon : MethodName := ⟨RX3, "takeSemicolon", "(I)Z"⟩
abbrev cX3_isDigit : ByteArray := prog_5_method_12_code
def yX3_isDigit : MethodName := ⟨RX3, "isDigit", "(I)Z"⟩
def RX4 : String := "TailBlocks$Packer"
def TX4 : u_T := fun k => match k with
  | 0 => ("TailBlocks$Packer", "tails", "LTailBlocks$Tails;", true)
  | 1 => ("TailBlocks$Packer", "newBlocks", "[I", true)
  | 2 => ("TailBlocks$Packer", "newStarts", "[I", true)
  | _ => ("TailBlocks$Packer", "filled", "[I", true)
def tyX4 : Nat → FieldType := fun k => match k with
  | 0 => .object "TailBlocks$Tails"
  | 1 => .array .int
  | 2 => .array .int
  | _ => .array .int
abbrev wsX40 : List Cond := u_ws RX4 TX4 4
theorem nmX4 : ∀ a, a < 4 → ∀ b, b < 4 → a ≠ b → (TX4 a).2.1 ≠ (TX4 b).2.1 := by decide +kernel
theorem tyX4_ok : ∀ k, k < 4 → parseFieldDescriptor (TX4 k).2.2.1 = some (tyX4 k) := by decide +kernel
abbrev cX4_init : ByteArray := prog_6_method_1_code
def yX4_init : MethodName := ⟨RX4, "<init>", "()V"⟩
abbrev cX4_plan : ByteArray := prog_6_method_2_code
def yX4_plan : MethodName := ⟨RX4, "plan", "(LTailBlocks$Disk;)I"⟩
abbrev cX4_firstWithRoom : ByteArray := prog_6_method_3_code
def yX4_firstWithRoom : MethodName := ⟨RX4, "firstWithRoom", "(I)I"⟩
abbrev cX4_emptyBlocks : ByteArray := prog_6_method_4_code
def yX4_emptyBlocks : MethodName := ⟨RX4, "emptyBlocks", "()I"⟩
abbrev cX4_carryOut : ByteArray := prog_6_method_5_code
def yX4_carryOut : MethodName := ⟨RX4, "carryOut", "(LTailBlocks$Disk;)V"⟩
def RX5 : String := "TailBlocks$Tails"
def TX5 : u_T := fun k => match k with
  | 0 => ("TailBlocks$Tails", "files", "[I", true)
  | 1 => ("TailBlocks$Tails", "lengths", "[I", true)
  | _ => ("TailBlocks$Tails", "number", "I", false)
def tyX5 : Nat → FieldType := fun k => match k with
  | 0 => .array .int
  | 1 => .array .int
  | _ => .int
abbrev wsX50 : List Cond := u_ws RX5 TX5 3
theorem nmX5 : ∀ a, a < 3 → ∀ b, b < 3 → a ≠ b → (TX5 a).2.1 ≠ (TX5 b).2.1 := by decide +kernel
theorem tyX5_ok : ∀ k, k < 3 → parseFieldDescriptor (TX5 k).2.2.1 = some (tyX5 k) := by decide +kernel
abbrev cX5_init : ByteArray := prog_7_method_1_code
def yX5_init : MethodName := ⟨RX5, "<init>", "()V"⟩
abbrev cX5_collect : ByteArray := prog_7_method_2_code
def yX5_collect : MethodName := ⟨RX5, "collect", "(LTailBlocks$Disk;)V"⟩
abbrev cX5_insert : ByteArray := prog_7_method_3_code
def yX5_insert : MethodName := ⟨RX5, "insert", "(II)V"⟩
abbrev cX5_cells : ByteArray := prog_7_method_4_code
def yX5_cells : MethodName := ⟨RX5, "cells", "()I"⟩
def RX6 : String := "TailBlocks$Text"
def TX6 : u_T := fun k => match k with
  | 0 => ("TailBlocks$Text", "codes", "[I", true)
  | _ => ("TailBlocks$Text", "length", "I", false)
def tyX6 : Nat → FieldType := fun k => match k with
  | 0 => .array .int
  | _ => .int
abbrev wsX60 : List Cond := u_ws RX6 TX6 2
theorem nmX6 : ∀ a, a < 2 → ∀ b, b < 2 → a ≠ b → (TX6 a).2.1 ≠ (TX6 b).2.1 := by decide +kernel
theorem tyX6_ok : ∀ k, k < 2 → parseFieldDescriptor (TX6 k).2.2.1 = some (tyX6 k) := by decide +kernel
abbrev cX6_init : ByteArray := prog_8_method_1_code
def yX6_init : MethodName := ⟨RX6, "<init>", "()V"⟩
abbrev cX6_length : ByteArray := prog_8_method_2_code
def yX6_length : MethodName := ⟨RX6, "length", "()I"⟩
abbrev cX6_isFull : ByteArray := prog_8_method_3_code
def yX6_isFull : MethodName := ⟨RX6, "isFull", "()Z"⟩
abbrev cX6_add : ByteArray := prog_8_method_4_code
def yX6_add : MethodName := ⟨RX6, "add", "(I)V"⟩
abbrev cX6_empty : ByteArray := prog_8_method_5_code
def yX6_empty : MethodName := ⟨RX6, "empty", "()V"⟩
abbrev cX6_codeAt : ByteArray := prog_8_method_6_code
def yX6_codeAt : MethodName := ⟨RX6, "codeAt", "(I)I"⟩
def RX7 : String := "TailBlocks"
def TX7 : u_T := fun k => match k with
  | 0 => ("TailBlocks", "disk", "LTailBlocks$Disk;", true)
  | 1 => ("TailBlocks", "history", "LTailBlocks$History;", true)
  | 2 => ("TailBlocks", "slots", "[LTailBlocks$Disk;", true)
  | 3 => ("TailBlocks", "text", "LTailBlocks$Text;", true)
  | 4 => ("TailBlocks", "orders", "LTailBlocks$Orders;", true)
  | 5 => ("TailBlocks", "packer", "LTailBlocks$Packer;", true)
  | _ => ("TailBlocks", "bins", "LTailBlocks$Fewest;", true)
def tyX7 : Nat → FieldType := fun k => match k with
  | 0 => .object "TailBlocks$Disk"
  | 1 => .object "TailBlocks$History"
  | 2 => .array (.object "TailBlocks$Disk")
  | 3 => .object "TailBlocks$Text"
  | 4 => .object "TailBlocks$Orders"
  | 5 => .object "TailBlocks$Packer"
  | _ => .object "TailBlocks$Fewest"
abbrev wsX70 : List Cond := u_ws RX7 TX7 7
theorem nmX7 : ∀ a, a < 7 → ∀ b, b < 7 → a ≠ b → (TX7 a).2.1 ≠ (TX7 b).2.1 := by decide +kernel
theorem tyX7_ok : ∀ k, k < 7 → parseFieldDescriptor (TX7 k).2.2.1 = some (tyX7 k) := by decide +kernel
abbrev cX7_init : ByteArray := prog_1_method_1_code
def yX7_init : MethodName := ⟨RX7, "<init>", "()V"⟩
abbrev cX7_create : ByteArray := prog_1_method_2_code
def yX7_create : MethodName := ⟨RX7, "create", "(I)I"⟩
abbrev cX7_grow : ByteArray := prog_1_method_3_code
def yX7_grow : MethodName := ⟨RX7, "grow", "(II)I"⟩
abbrev cX7_cut : ByteArray := prog_1_method_4_code
def yX7_cut : MethodName := ⟨RX7, "cut", "(II)I"⟩
abbrev cX7_delete : ByteArray := prog_1_method_5_code
def yX7_delete : MethodName := ⟨RX7, "delete", "(I)I"⟩
abbrev cX7_spoil : ByteArray := prog_1_method_6_code
def yX7_spoil : MethodName := ⟨RX7, "spoil", "(I)I"⟩
abbrev cX7_heal : ByteArray := prog_1_method_7_code
def yX7_heal : MethodName := ⟨RX7, "heal", "(I)I"⟩
abbrev cX7_pack : ByteArray := prog_1_method_8_code
def yX7_pack : MethodName := ⟨RX7, "pack", "()I"⟩
abbrev cX7_set : ByteArray := prog_1_method_9_code
def yX7_set : MethodName := ⟨RX7, "set", "(I)I"⟩
abbrev cX7_append : ByteArray := prog_1_method_10_code
def yX7_append : MethodName := ⟨RX7, "append", "(I)I"⟩
abbrev cX7_clearBuffer : ByteArray := prog_1_method_11_code
def yX7_clearBuffer : MethodName := ⟨RX7, "clearBuffer", "()I"⟩
abbrev cX7_firstError : ByteArray := prog_1_method_12_code
def yX7_firstError : MethodName := ⟨RX7, "firstError", "()I"⟩
abbrev cX7_run : ByteArray := prog_1_method_13_code
def yX7_run : MethodName := ⟨RX7, "run", "()I"⟩
abbrev cX7_keep : ByteArray := prog_1_method_14_code
def yX7_keep : MethodName := ⟨RX7, "keep", "(I)I"⟩
abbrev cX7_goBack : ByteArray := prog_1_method_15_code
def yX7_goBack : MethodName := ⟨RX7, "goBack", "(I)I"⟩
abbrev cX7_undo : ByteArray := prog_1_method_16_code
def yX7_undo : MethodName := ⟨RX7, "undo", "()I"⟩
abbrev cX7_fileOf : ByteArray := prog_1_method_17_code
def yX7_fileOf : MethodName := ⟨RX7, "fileOf", "(II)I"⟩
abbrev cX7_place : ByteArray := prog_1_method_18_code
def yX7_place : MethodName := ⟨RX7, "place", "(II)I"⟩
abbrev cX7_blockOf : ByteArray := prog_1_method_19_code
def yX7_blockOf : MethodName := ⟨RX7, "blockOf", "(II)I"⟩
abbrev cX7_count : ByteArray := prog_1_method_20_code
def yX7_count : MethodName := ⟨RX7, "count", "(I)I"⟩
abbrev cX7_ifPlaced : ByteArray := prog_1_method_21_code
def yX7_ifPlaced : MethodName := ⟨RX7, "ifPlaced", "(I)I"⟩
abbrev cX7_ifGrown : ByteArray := prog_1_method_22_code
def yX7_ifGrown : MethodName := ⟨RX7, "ifGrown", "(II)I"⟩
abbrev cX7_greatest : ByteArray := prog_1_method_23_code
def yX7_greatest : MethodName := ⟨RX7, "greatest", "()I"⟩
abbrev cX7_fewest : ByteArray := prog_1_method_24_code
def yX7_fewest : MethodName := ⟨RX7, "fewest", "(I)I"⟩
abbrev cX7_ifPacked : ByteArray := prog_1_method_25_code
def yX7_ifPacked : MethodName := ⟨RX7, "ifPacked", "()I"⟩
abbrev cX7_weakest : ByteArray := prog_1_method_26_code
def yX7_weakest : MethodName := ⟨RX7, "weakest", "()I"⟩
abbrev cX7_usedShare : ByteArray := prog_1_method_27_code
def yX7_usedShare : MethodName := ⟨RX7, "usedShare", "()D"⟩
abbrev cX7_digest : ByteArray := prog_1_method_28_code
def yX7_digest : MethodName := ⟨RX7, "digest", "()J"⟩
abbrev cX7_mixFile : ByteArray := prog_1_method_29_code
def yX7_mixFile : MethodName := ⟨RX7, "mixFile", "(JI)J"⟩
abbrev cX7_mixOutlook : ByteArray := prog_1_method_30_code
def yX7_mixOutlook : MethodName := ⟨RX7, "mixOutlook", "(J)J"⟩
abbrev cX7_mixText : ByteArray := prog_1_method_31_code
def yX7_mixText : MethodName := ⟨RX7, "mixText", "(J)J"⟩
abbrev cX7_mix : ByteArray := prog_1_method_32_code
def yX7_mix : MethodName := ⟨RX7, "mix", "(JJ)J"⟩
abbrev cX7_bitsOf : ByteArray := prog_1_method_33_code
def yX7_bitsOf : MethodName := ⟨RX7, "bitsOf", "(D)J"⟩
abbrev cX7_obeyAll : ByteArray := prog_1_method_34_code
def yX7_obeyAll : MethodName := ⟨RX7, "obeyAll", "()I"⟩
abbrev cX7_obey : ByteArray := prog_1_method_35_code
def yX7_obey : MethodName := ⟨RX7, "obey", "()Z"⟩
abbrev cX7_checkFile : ByteArray := prog_1_method_36_code
def yX7_checkFile : MethodName := ⟨RX7, "checkFile", "(I)V"⟩
abbrev cX7_checkBlock : ByteArray := prog_1_method_37_code
def yX7_checkBlock : MethodName := ⟨RX7, "checkBlock", "(I)V"⟩
abbrev cX7_checkArgument : ByteArray := prog_1_method_38_code
def yX7_checkArgument : MethodName := ⟨RX7, "checkArgument", "(III)V"⟩
abbrev cX7_isBlock : ByteArray := prog_1_method_39_code
def yX7_isBlock : MethodName := ⟨RX7, "isBlock", "(I)Z"⟩
def RX8 : String := "TailBlocksModel"
def TX8 : u_T := fun k => match k with
  | 0 => ("TailBlocksModel", "row", "[I", true)
  | 1 => ("TailBlocksModel", "past", "[I", true)
  | 2 => ("TailBlocksModel", "slots", "[I", true)
  | 3 => ("TailBlocksModel", "aside", "[I", true)
  | 4 => ("TailBlocksModel", "has", "[Z", true)
  | 5 => ("TailBlocksModel", "states", "I", false)
  | 6 => ("TailBlocksModel", "buffer", "[I", true)
  | 7 => ("TailBlocksModel", "length", "I", false)
  | 8 => ("TailBlocksModel", "at", "I", false)
  | 9 => ("TailBlocksModel", "numbers", "[I", true)
  | 10 => ("TailBlocksModel", "bins", "[I", true)
  | 11 => ("TailBlocksModel", "order", "[I", true)
  | 12 => ("TailBlocksModel", "filled", "[I", true)
  | _ => ("TailBlocksModel", "thrown", "I", false)
def tyX8 : Nat → FieldType := fun k => match k with
  | 0 => .array .int
  | 1 => .array .int
  | 2 => .array .int
  | 3 => .array .int
  | 4 => .array .boolean
  | 5 => .int
  | 6 => .array .int
  | 7 => .int
  | 8 => .int
  | 9 => .array .int
  | 10 => .array .int
  | 11 => .array .int
  | 12 => .array .int
  | _ => .int
abbrev wsX80 : List Cond := u_ws RX8 TX8 14
theorem nmX8 : ∀ a, a < 14 → ∀ b, b < 14 → a ≠ b → (TX8 a).2.1 ≠ (TX8 b).2.1 := by decide +kernel
theorem tyX8_ok : ∀ k, k < 14 → parseFieldDescriptor (TX8 k).2.2.1 = some (tyX8 k) := by decide +kernel
abbrev cX8_init : ByteArray := prog_10_method_1_code
def yX8_init : MethodName := ⟨RX8, "<init>", "()V"⟩
abbrev cX8_thrown : ByteArray := prog_10_method_2_code
def yX8_thrown : MethodName := ⟨RX8, "thrown", "()I"⟩
abbrev cX8_fails : ByteArray := prog_10_method_3_code
def yX8_fails : MethodName := ⟨RX8, "fails", "(I)I"⟩
abbrev cX8_in : ByteArray := prog_10_method_4_code
def yX8_in : MethodName := ⟨RX8, "in", "(III)Z"⟩
abbrev cX8_of : ByteArray := prog_10_method_5_code
def yX8_of : MethodName := ⟨RX8, "of", "(II)I"⟩
abbrev cX8_lay : ByteArray := prog_10_method_6_code
def yX8_lay : MethodName := ⟨RX8, "lay", "(III)V"⟩
abbrev cX8_isFile : ByteArray := prog_10_method_7_code
def yX8_isFile : MethodName := ⟨RX8, "isFile", "(I)Z"⟩
abbrev cX8_tailOf : ByteArray := prog_10_method_8_code
def yX8_tailOf : MethodName := ⟨RX8, "tailOf", "(I)I"⟩
abbrev cX8_wholeOf : ByteArray := prog_10_method_9_code
def yX8_wholeOf : MethodName := ⟨RX8, "wholeOf", "(I)I"⟩
abbrev cX8_files : ByteArray := prog_10_method_10_code
def yX8_files : MethodName := ⟨RX8, "files", "()I"⟩
abbrev cX8_blocksThat : ByteArray := prog_10_method_11_code
def yX8_blocksThat : MethodName := ⟨RX8, "blocksThat", "(I)I"⟩
abbrev cX8_lowestFree : ByteArray := prog_10_method_12_code
def yX8_lowestFree : MethodName := ⟨RX8, "lowestFree", "()I"⟩
abbrev cX8_hasTailIn : ByteArray := prog_10_method_13_code
def yX8_hasTailIn : MethodName := ⟨RX8, "hasTailIn", "(II)Z"⟩
abbrev cX8_tailsIn : ByteArray := prog_10_method_14_code
def yX8_tailsIn : MethodName := ⟨RX8, "tailsIn", "(I)I"⟩
abbrev cX8_isTaken : ByteArray := prog_10_method_15_code
def yX8_isTaken : MethodName := ⟨RX8, "isTaken", "(II)Z"⟩
abbrev cX8_gapAt : ByteArray := prog_10_method_16_code
def yX8_gapAt : MethodName := ⟨RX8, "gapAt", "(II)I"⟩
abbrev cX8_gapFor : ByteArray := prog_10_method_17_code
def yX8_gapFor : MethodName := ⟨RX8, "gapFor", "(I)I"⟩
abbrev cX8_placeFor : ByteArray := prog_10_method_18_code
def yX8_placeFor : MethodName := ⟨RX8, "placeFor", "(I)I"⟩
abbrev cX8_save : ByteArray := prog_10_method_19_code
def yX8_save : MethodName := ⟨RX8, "save", "()V"⟩
abbrev cX8_undo : ByteArray := prog_10_method_20_code
def yX8_undo : MethodName := ⟨RX8, "undo", "()I"⟩
abbrev cX8_keep : ByteArray := prog_10_method_21_code
def yX8_keep : MethodName := ⟨RX8, "keep", "(I)I"⟩
abbrev cX8_goBack : ByteArray := prog_10_method_22_code
def yX8_goBack : MethodName := ⟨RX8, "goBack", "(I)I"⟩
abbrev cX8_layAside : ByteArray := prog_10_method_23_code
def yX8_layAside : MethodName := ⟨RX8, "layAside", "()V"⟩
abbrev cX8_putBack : ByteArray := prog_10_method_24_code
def yX8_putBack : MethodName := ⟨RX8, "putBack", "()V"⟩
abbrev cX8_frees : ByteArray := prog_10_method_25_code
def yX8_frees : MethodName := ⟨RX8, "frees", "(I)I"⟩
abbrev cX8_takeTail : ByteArray := prog_10_method_26_code
def yX8_takeTail : MethodName := ⟨RX8, "takeTail", "(I)V"⟩
abbrev cX8_placeTail : ByteArray := prog_10_method_27_code
def yX8_placeTail : MethodName := ⟨RX8, "placeTail", "(II)Z"⟩
abbrev cX8_takeWhole : ByteArray := prog_10_method_28_code
def yX8_takeWhole : MethodName := ⟨RX8, "takeWhole", "(II)Z"⟩
abbrev cX8_refused : ByteArray := prog_10_method_29_code
def yX8_refused : MethodName := ⟨RX8, "refused", "()I"⟩
abbrev cX8_freeNumber : ByteArray := prog_10_method_30_code
def yX8_freeNumber : MethodName := ⟨RX8, "freeNumber", "()I"⟩
abbrev cX8_creates : ByteArray := prog_10_method_31_code
def yX8_creates : MethodName := ⟨RX8, "creates", "(I)I"⟩
abbrev cX8_growsInPlace : ByteArray := prog_10_method_32_code
def yX8_growsInPlace : MethodName := ⟨RX8, "growsInPlace", "(II)Z"⟩
abbrev cX8_grows : ByteArray := prog_10_method_33_code
def yX8_grows : MethodName := ⟨RX8, "grows", "(II)I"⟩
abbrev cX8_cuts : ByteArray := prog_10_method_34_code
def yX8_cuts : MethodName := ⟨RX8, "cuts", "(II)I"⟩
abbrev cX8_deletes : ByteArray := prog_10_method_35_code
def yX8_deletes : MethodName := ⟨RX8, "deletes", "(I)I"⟩
abbrev cX8_create : ByteArray := prog_10_method_36_code
def yX8_create : MethodName := ⟨RX8, "create", "(I)I"⟩
abbrev cX8_grow : ByteArray := prog_10_method_37_code
def yX8_grow : MethodName := ⟨RX8, "grow", "(II)I"⟩
abbrev cX8_cut : ByteArray := prog_10_method_38_code
def yX8_cut : MethodName := ⟨RX8, "cut", "(II)I"⟩
abbrev cX8_delete : ByteArray := prog_10_method_39_code
def yX8_delete : MethodName := ⟨RX8, "delete", "(I)I"⟩
abbrev cX8_hasIn : ByteArray := prog_10_method_40_code
def yX8_hasIn : MethodName := ⟨RX8, "hasIn", "(II)Z"⟩
abbrev cX8_spoil : ByteArray := prog_10_method_41_code
def yX8_spoil : MethodName := ⟨RX8, "spoil", "(I)I"⟩
abbrev cX8_heal : ByteArray := prog_10_method_42_code
def yX8_heal : MethodName := ⟨RX8, "heal", "(I)I"⟩
abbrev cX8_isPacked : ByteArray := prog_10_method_43_code
def yX8_isPacked : MethodName := ⟨RX8, "isPacked", "(I)Z"⟩
abbrev cX8_sort : ByteArray := prog_10_method_44_code
def yX8_sort : MethodName := ⟨RX8, "sort", "()I"⟩
abbrev cX8_holdsBroken : ByteArray := prog_10_method_45_code
def yX8_holdsBroken : MethodName := ⟨RX8, "holdsBroken", "(I)Z"⟩
abbrev cX8_firstFor : ByteArray := prog_10_method_46_code
def yX8_firstFor : MethodName := ⟨RX8, "firstFor", "(I)I"⟩
abbrev cX8_packs : ByteArray := prog_10_method_47_code
def yX8_packs : MethodName := ⟨RX8, "packs", "()I"⟩
abbrev cX8_pack : ByteArray := prog_10_method_48_code
def yX8_pack : MethodName := ⟨RX8, "pack", "()I"⟩
abbrev cX8_set : ByteArray := prog_10_method_49_code
def yX8_set : MethodName := ⟨RX8, "set", "(I)I"⟩
abbrev cX8_append : ByteArray := prog_10_method_50_code
def yX8_append : MethodName := ⟨RX8, "append", "(I)I"⟩
abbrev cX8_clearBuffer : ByteArray := prog_10_method_51_code
def yX8_clearBuffer : MethodName := ⟨RX8, "clearBuffer", "()I"⟩
abbrev cX8_sees : ByteArray := prog_10_method_52_code
def yX8_sees : MethodName := ⟨RX8, "sees", "(II)Z"⟩
abbrev cX8_takes : ByteArray := prog_10_method_53_code
def yX8_takes : MethodName := ⟨RX8, "takes", "(I)Z"⟩
abbrev cX8_digit : ByteArray := prog_10_method_54_code
def yX8_digit : MethodName := ⟨RX8, "digit", "(II)Z"⟩
abbrev cX8_number : ByteArray := prog_10_method_55_code
def yX8_number : MethodName := ⟨RX8, "number", "(II)Z"⟩
abbrev cX8_reads : ByteArray := prog_10_method_56_code
def yX8_reads : MethodName := ⟨RX8, "reads", "(I)Z"⟩
abbrev cX8_reading : ByteArray := prog_10_method_57_code
def yX8_reading : MethodName := ⟨RX8, "reading", "()I"⟩
abbrev cX8_isWell : ByteArray := prog_10_method_58_code
def yX8_isWell : MethodName := ⟨RX8, "isWell", "()Z"⟩
abbrev cX8_firstError : ByteArray := prog_10_method_59_code
def yX8_firstError : MethodName := ⟨RX8, "firstError", "()I"⟩
abbrev cX8_does : ByteArray := prog_10_method_60_code
def yX8_does : MethodName := ⟨RX8, "does", "(I)I"⟩
abbrev cX8_run : ByteArray := prog_10_method_61_code
def yX8_run : MethodName := ⟨RX8, "run", "()I"⟩
abbrev cX8_property : ByteArray := prog_10_method_62_code
def yX8_property : MethodName := ⟨RX8, "property", "(II)I"⟩
abbrev cX8_fileOf : ByteArray := prog_10_method_63_code
def yX8_fileOf : MethodName := ⟨RX8, "fileOf", "(II)I"⟩
abbrev cX8_placeOf : ByteArray := prog_10_method_64_code
def yX8_placeOf : MethodName := ⟨RX8, "placeOf", "(II)I"⟩
abbrev cX8_place : ByteArray := prog_10_method_65_code
def yX8_place : MethodName := ⟨RX8, "place", "(II)I"⟩
abbrev cX8_tailCells : ByteArray := prog_10_method_66_code
def yX8_tailCells : MethodName := ⟨RX8, "tailCells", "(I)I"⟩
abbrev cX8_longestGap : ByteArray := prog_10_method_67_code
def yX8_longestGap : MethodName := ⟨RX8, "longestGap", "(I)I"⟩
abbrev cX8_ownerOf : ByteArray := prog_10_method_68_code
def yX8_ownerOf : MethodName := ⟨RX8, "ownerOf", "(I)I"⟩
abbrev cX8_blockIs : ByteArray := prog_10_method_69_code
def yX8_blockIs : MethodName := ⟨RX8, "blockIs", "(II)I"⟩
abbrev cX8_blockOf : ByteArray := prog_10_method_70_code
def yX8_blockOf : MethodName := ⟨RX8, "blockOf", "(II)I"⟩
abbrev cX8_goodCells : ByteArray := prog_10_method_71_code
def yX8_goodCells : MethodName := ⟨RX8, "goodCells", "()I"⟩
abbrev cX8_gapCells : ByteArray := prog_10_method_72_code
def yX8_gapCells : MethodName := ⟨RX8, "gapCells", "()I"⟩
abbrev cX8_broken : ByteArray := prog_10_method_73_code
def yX8_broken : MethodName := ⟨RX8, "broken", "()I"⟩
abbrev cX8_counted : ByteArray := prog_10_method_74_code
def yX8_counted : MethodName := ⟨RX8, "counted", "(I)I"⟩
abbrev cX8_count : ByteArray := prog_10_method_75_code
def yX8_count : MethodName := ⟨RX8, "count", "(I)I"⟩
abbrev cX8_ifPlaced : ByteArray := prog_10_method_76_code
def yX8_ifPlaced : MethodName := ⟨RX8, "ifPlaced", "(I)I"⟩
abbrev cX8_afterGrowing : ByteArray := prog_10_method_77_code
def yX8_afterGrowing : MethodName := ⟨RX8, "afterGrowing", "(II)I"⟩
abbrev cX8_ifGrown : ByteArray := prog_10_method_78_code
def yX8_ifGrown : MethodName := ⟨RX8, "ifGrown", "(II)I"⟩
abbrev cX8_couldCome : ByteArray := prog_10_method_79_code
def yX8_couldCome : MethodName := ⟨RX8, "couldCome", "(I)Z"⟩
abbrev cX8_greatestSize : ByteArray := prog_10_method_80_code
def yX8_greatestSize : MethodName := ⟨RX8, "greatestSize", "()I"⟩
abbrev cX8_greatest : ByteArray := prog_10_method_81_code
def yX8_greatest : MethodName := ⟨RX8, "greatest", "()I"⟩
abbrev cX8_fewestBlocks : ByteArray := prog_10_method_82_code
def yX8_fewestBlocks : MethodName := ⟨RX8, "fewestBlocks", "()I"⟩
abbrev cX8_fewest : ByteArray := prog_10_method_83_code
def yX8_fewest : MethodName := ⟨RX8, "fewest", "(I)I"⟩
abbrev cX8_afterPacking : ByteArray := prog_10_method_84_code
def yX8_afterPacking : MethodName := ⟨RX8, "afterPacking", "()I"⟩
abbrev cX8_ifPacked : ByteArray := prog_10_method_85_code
def yX8_ifPacked : MethodName := ⟨RX8, "ifPacked", "()I"⟩
abbrev cX8_weakestBlock : ByteArray := prog_10_method_86_code
def yX8_weakestBlock : MethodName := ⟨RX8, "weakestBlock", "()I"⟩
abbrev cX8_weakest : ByteArray := prog_10_method_87_code
def yX8_weakest : MethodName := ⟨RX8, "weakest", "()I"⟩
abbrev cX8_used : ByteArray := prog_10_method_88_code
def yX8_used : MethodName := ⟨RX8, "used", "()D"⟩
abbrev cX8_usedShare : ByteArray := prog_10_method_89_code
def yX8_usedShare : MethodName := ⟨RX8, "usedShare", "()D"⟩
abbrev cX8_ofFiles : ByteArray := prog_10_method_90_code
def yX8_ofFiles : MethodName := ⟨RX8, "ofFiles", "(J)J"⟩
abbrev cX8_digest : ByteArray := prog_10_method_91_code
def yX8_digest : MethodName := ⟨RX8, "digest", "()J"⟩
def RJxe99ae : String := "java/lang/Double"
def TJxe99ae : u_T := fun k => match k with
  | _ => ("", "", "", false)
def tyJxe99ae : Nat → FieldType := fun k => match k with
  | _ => .int
abbrev wsJxe99ae0 : List Cond := u_ws RJxe99ae TJxe99ae 0
theorem nmJxe99ae : ∀ a, a < 0 → ∀ b, b < 0 → a ≠ b → (TJxe99ae a).2.1 ≠ (TJxe99ae b).2.1 := by decide +kernel
theorem tyJxe99ae_ok : ∀ k, k < 0 → parseFieldDescriptor (TJxe99ae k).2.2.1 = some (tyJxe99ae k) := by decide +kernel
abbrev cJxe99ae_isNaN_b9ae7 : ByteArray := prog_11_method_6_code
def yJxe99ae_isNaN_b9ae7 : MethodName := ⟨RJxe99ae, "isNaN", "(D)Z"⟩
abbrev cJxe99ae_doubleToLongBits_ccdee : ByteArray := prog_11_method_23_code
def yJxe99ae_doubleToLongBits_ccdee : MethodName := ⟨RJxe99ae, "doubleToLongBits", "(D)J"⟩
def RJ6 : String := "java/lang/Integer"
def TJ6 : u_T := fun k => match k with
  | _ => ("", "", "", false)
def tyJ6 : Nat → FieldType := fun k => match k with
  | _ => .int
abbrev wsJ60 : List Cond := u_ws RJ6 TJ6 0
theorem nmJ6 : ∀ a, a < 0 → ∀ b, b < 0 → a ≠ b → (TJ6 a).2.1 ≠ (TJ6 b).2.1 := by decide +kernel
theorem tyJ6_ok : ∀ k, k < 0 → parseFieldDescriptor (TJ6 k).2.2.1 = some (tyJ6 k) := by decide +kernel
abbrev cJ6_bitCount_0f7a4 : ByteArray := prog_16_method_49_code
def yJ6_bitCount_0f7a4 : MethodName := ⟨RJ6, "bitCount", "(I)I"⟩
def RJ9 : String := "java/lang/Math"
def TJ9 : u_T := fun k => match k with
  | _ => ("", "", "", false)
def tyJ9 : Nat → FieldType := fun k => match k with
  | _ => .int
abbrev wsJ90 : List Cond := u_ws RJ9 TJ9 0
theorem nmJ9 : ∀ a, a < 0 → ∀ b, b < 0 → a ≠ b → (TJ9 a).2.1 ≠ (TJ9 b).2.1 := by decide +kernel
theorem tyJ9_ok : ∀ k, k < 0 → parseFieldDescriptor (TJ9 k).2.2.1 = some (tyJ9 k) := by decide +kernel
abbrev cJ9_max_7cf53 : ByteArray := prog_17_method_65_code
def yJ9_max_7cf53 : MethodName := ⟨RJ9, "max", "(II)I"⟩
def RJ0 : String := "java/lang/String"
def TJ0 : u_T := fun k => match k with
  | _ => ("", "", "", false)
def tyJ0 : Nat → FieldType := fun k => match k with
  | _ => .int
abbrev wsJ00 : List Cond := u_ws RJ0 TJ0 0
theorem nmJ0 : ∀ a, a < 0 → ∀ b, b < 0 → a ≠ b → (TJ0 a).2.1 ≠ (TJ0 b).2.1 := by decide +kernel
theorem tyJ0_ok : ∀ k, k < 0 → parseFieldDescriptor (TJ0 k).2.2.1 = some (tyJ0 k) := by decide +kernel
def RL : String := "TailBlocksLaw"
abbrev cL_create : ByteArray := method_3_code
def yL_create : MethodName := ⟨RL, "create", "(LTailBlocks;I[J)I"⟩
abbrev cL_grow : ByteArray := method_4_code
def yL_grow : MethodName := ⟨RL, "grow", "(LTailBlocks;II[J)I"⟩
abbrev cL_cut : ByteArray := method_5_code
def yL_cut : MethodName := ⟨RL, "cut", "(LTailBlocks;II[J)I"⟩
abbrev cL_delete : ByteArray := method_6_code
def yL_delete : MethodName := ⟨RL, "delete", "(LTailBlocks;I[J)I"⟩
abbrev cL_spoil : ByteArray := method_7_code
def yL_spoil : MethodName := ⟨RL, "spoil", "(LTailBlocks;I[J)I"⟩
abbrev cL_heal : ByteArray := method_8_code
def yL_heal : MethodName := ⟨RL, "heal", "(LTailBlocks;I[J)I"⟩
abbrev cL_set : ByteArray := method_9_code
def yL_set : MethodName := ⟨RL, "set", "(LTailBlocks;I[J)I"⟩
abbrev cL_append : ByteArray := method_10_code
def yL_append : MethodName := ⟨RL, "append", "(LTailBlocks;I[J)I"⟩
abbrev cL_run : ByteArray := method_11_code
def yL_run : MethodName := ⟨RL, "run", "(LTailBlocks;[J)I"⟩
abbrev cL_keep : ByteArray := method_12_code
def yL_keep : MethodName := ⟨RL, "keep", "(LTailBlocks;I[J)I"⟩
abbrev cL_goBack : ByteArray := method_13_code
def yL_goBack : MethodName := ⟨RL, "goBack", "(LTailBlocks;I[J)I"⟩
abbrev cL_undo : ByteArray := method_14_code
def yL_undo : MethodName := ⟨RL, "undo", "(LTailBlocks;[J)I"⟩
abbrev cL_fileOf : ByteArray := method_15_code
def yL_fileOf : MethodName := ⟨RL, "fileOf", "(LTailBlocks;II[J)I"⟩
abbrev cL_place : ByteArray := method_16_code
def yL_place : MethodName := ⟨RL, "place", "(LTailBlocks;II[J)I"⟩
abbrev cL_blockOf : ByteArray := method_17_code
def yL_blockOf : MethodName := ⟨RL, "blockOf", "(LTailBlocks;II[J)I"⟩
abbrev cL_count : ByteArray := method_18_code
def yL_count : MethodName := ⟨RL, "count", "(LTailBlocks;I[J)I"⟩
abbrev cL_ifPlaced : ByteArray := method_19_code
def yL_ifPlaced : MethodName := ⟨RL, "ifPlaced", "(LTailBlocks;I[J)I"⟩
abbrev cL_ifGrown : ByteArray := method_20_code
def yL_ifGrown : MethodName := ⟨RL, "ifGrown", "(LTailBlocks;II[J)I"⟩
abbrev cL_fewest : ByteArray := method_21_code
def yL_fewest : MethodName := ⟨RL, "fewest", "(LTailBlocks;I[J)I"⟩
abbrev cL_law : ByteArray := code
def yL_law : MethodName := ⟨RL, "law", "([I)Z"⟩
abbrev vwCl : List vw_C := [(RX0, TX0, 11), (RX1, TX1, 4), (RX2, TX2, 2), (RX3, TX3, 4), (RX4, TX4, 4), (RX5, TX5, 3), (RX6, TX6, 2), (RX7, TX7, 7), (RX8, TX8, 14)]
end
section
theorem dX0_init_0 : decode cX0_init 0 = .ok (.aload_n 0, 1) := by decide +kernel
theorem dX0_init_1 : decode cX0_init 1 = .ok (.invokespecial 3, 3) := by decide +kernel
theorem dX0_init_4 : decode cX0_init 4 = .ok (.aload_n 0, 1) := by decide +kernel
theorem dX0_init_5 : decode cX0_init 5 = .ok (.bipush 24, 2) := by decide +kernel
theorem dX0_init_7 : decode cX0_init 7 = .ok (.newarray .int, 2) := by decide +kernel
theorem dX0_init_9 : decode cX0_init 9 = .ok (.putfield 9, 3) := by decide +kernel
theorem dX0_init_12 : decode cX0_init 12 = .ok (.aload_n 0, 1) := by decide +kernel
theorem dX0_init_13 : decode cX0_init 13 = .ok (.bipush 24, 2) := by decide +kernel
theorem dX0_init_15 : decode cX0_init 15 = .ok (.newarray .int, 2) := by decide +kernel
theorem dX0_init_17 : decode cX0_init 17 = .ok (.putfield 15, 3) := by decide +kernel
theorem dX0_init_20 : decode cX0_init 20 = .ok (.aload_n 0, 1) := by decide +kernel
theorem dX0_init_21 : decode cX0_init 21 = .ok (.bipush 24, 2) := by decide +kernel
theorem dX0_init_23 : decode cX0_init 23 = .ok (.newarray .int, 2) := by decide +kernel
theorem dX0_init_25 : decode cX0_init 25 = .ok (.putfield 18, 3) := by decide +kernel
theorem dX0_init_28 : decode cX0_init 28 = .ok (.aload_n 0, 1) := by decide +kernel
theorem dX0_init_29 : decode cX0_init 29 = .ok (.bipush 10, 2) := by decide +kernel
theorem dX0_init_31 : decode cX0_init 31 = .ok (.newarray .int, 2) := by decide +kernel
theorem dX0_init_33 : decode cX0_init 33 = .ok (.putfield 21, 3) := by decide +kernel
theorem dX0_init_36 : decode cX0_init 36 = .ok (.aload_n 0, 1) := by decide +kernel
theorem dX0_init_37 : decode cX0_init 37 = .ok (.bipush 10, 2) := by decide +kernel
theorem dX0_init_39 : decode cX0_init 39 = .ok (.newarray .int, 2) := by decide +kernel
theorem dX0_init_41 : decode cX0_init 41 = .ok (.putfield 24, 3) := by decide +kernel
theorem dX0_init_44 : decode cX0_init 44 = .ok (.aload_n 0, 1) := by decide +kernel
theorem dX0_init_45 : decode cX0_init 45 = .ok (.bipush 10, 2) := by decide +kernel
theorem dX0_init_47 : decode cX0_init 47 = .ok (.newarray .int, 2) := by decide +kernel
theorem dX0_init_49 : decode cX0_init 49 = .ok (.putfield 27, 3) := by decide +kernel
theorem dX0_init_52 : decode cX0_init 52 = .ok (.aload_n 0, 1) := by decide +kernel
theorem dX0_init_53 : decode cX0_init 53 = .ok (.bipush 10, 2) := by decide +kernel
theorem dX0_init_55 : decode cX0_init 55 = .ok (.newarray .int, 2) := by decide +kernel
theorem dX0_init_57 : decode cX0_init 57 = .ok (.putfield 30, 3) := by decide +kernel
theorem dX0_init_60 : decode cX0_init 60 = .ok (.aload_n 0, 1) := by decide +kernel
theorem dX0_init_61 : decode cX0_init 61 = .ok (.bipush 10, 2) := by decide +kernel
theorem dX0_init_63 : decode cX0_init 63 = .ok (.newarray .int, 2) := by decide +kernel
theorem dX0_init_65 : decode cX0_init 65 = .ok (.putfield 33, 3) := by decide +kernel
theorem dX0_init_68 : decode cX0_init 68 = .ok (.aload_n 0, 1) := by decide +kernel
theorem dX0_init_69 : decode cX0_init 69 = .ok (.iconst 0, 1) := by decide +kernel
theorem dX0_init_70 : decode cX0_init 70 = .ok (.putfield 36, 3) := by decide +kernel
theorem dX0_init_73 : decode cX0_init 73 = .ok (.aload_n 0, 1) := by decide +kernel
theorem dX0_init_74 : decode cX0_init 74 = .ok (.iconst 0, 1) := by decide +kernel
theorem dX0_init_75 : decode cX0_init 75 = .ok (.putfield 40, 3) := by decide +kernel
theorem dX0_init_78 : decode cX0_init 78 = .ok (.aload_n 0, 1) := by decide +kernel
theorem dX0_init_79 : decode cX0_init 79 = .ok (.iconst 0, 1) := by decide +kernel
theorem dX0_init_80 : decode cX0_init 80 = .ok (.putfield 43, 3) := by decide +kernel
theorem dX0_init_83 : decode cX0_init 83 = .ok (.iconst 0, 1) := by decide +kernel
theorem dX0_init_84 : decode cX0_init 84 = .ok (.istore_n 1, 1) := by decide +kernel
theorem dX0_init_85 : decode cX0_init 85 = .ok (.iload_n 1, 1) := by decide +kernel
theorem dX0_init_86 : decode cX0_init 86 = .ok (.bipush 24, 2) := by decide +kernel
theorem dX0_init_88 : decode cX0_init 88 = .ok (.if_icmp .ge 16, 3) := by decide +kernel
theorem dX0_init_91 : decode cX0_init 91 = .ok (.aload_n 0, 1) := by decide +kernel
theorem dX0_init_92 : decode cX0_init 92 = .ok (.getfield 15, 3) := by decide +kernel
theorem dX0_init_95 : decode cX0_init 95 = .ok (.iload_n 1, 1) := by decide +kernel
theorem dX0_init_96 : decode cX0_init 96 = .ok (.iconst (-1), 1) := by decide +kernel
theorem dX0_init_97 : decode cX0_init 97 = .ok (.iastore, 1) := by decide +kernel
theorem dX0_init_98 : decode cX0_init 98 = .ok (.iinc 1 1, 3) := by decide +kernel
theorem dX0_init_101 : decode cX0_init 101 = .ok (.goto (-16), 3) := by decide +kernel
theorem dX0_init_104 : decode cX0_init 104 = .ok (.iconst 0, 1) := by decide +kernel
theorem dX0_init_105 : decode cX0_init 105 = .ok (.istore_n 1, 1) := by decide +kernel
theorem dX0_init_106 : decode cX0_init 106 = .ok (.iload_n 1, 1) := by decide +kernel
theorem dX0_init_107 : decode cX0_init 107 = .ok (.bipush 10, 2) := by decide +kernel
theorem dX0_init_109 : decode cX0_init 109 = .ok (.if_icmp .ge 30, 3) := by decide +kernel
theorem dX0_init_112 : decode cX0_init 112 = .ok (.aload_n 0, 1) := by decide +kernel
theorem dX0_init_113 : decode cX0_init 113 = .ok (.getfield 21, 3) := by decide +kernel
theorem dX0_init_116 : decode cX0_init 116 = .ok (.iload_n 1, 1) := by decide +kernel
theorem dX0_init_117 : decode cX0_init 117 = .ok (.iconst (-1), 1) := by decide +kernel
theorem dX0_init_118 : decode cX0_init 118 = .ok (.iastore, 1) := by decide +kernel
theorem dX0_init_119 : decode cX0_init 119 = .ok (.aload_n 0, 1) := by decide +kernel
theorem dX0_init_120 : decode cX0_init 120 = .ok (.getfield 24, 3) := by decide +kernel
theorem dX0_init_123 : decode cX0_init 123 = .ok (.iload_n 1, 1) := by decide +kernel
theorem dX0_init_124 : decode cX0_init 124 = .ok (.iconst (-1), 1) := by decide +kernel
theorem dX0_init_125 : decode cX0_init 125 = .ok (.iastore, 1) := by decide +kernel
theorem dX0_init_126 : decode cX0_init 126 = .ok (.aload_n 0, 1) := by decide +kernel
theorem dX0_init_127 : decode cX0_init 127 = .ok (.getfield 27, 3) := by decide +kernel
theorem dX0_init_130 : decode cX0_init 130 = .ok (.iload_n 1, 1) := by decide +kernel
theorem dX0_init_131 : decode cX0_init 131 = .ok (.iconst (-1), 1) := by decide +kernel
theorem dX0_init_132 : decode cX0_init 132 = .ok (.iastore, 1) := by decide +kernel
theorem dX0_init_133 : decode cX0_init 133 = .ok (.iinc 1 1, 3) := by decide +kernel
theorem dX0_init_136 : decode cX0_init 136 = .ok (.goto (-30), 3) := by decide +kernel
theorem dX0_init_139 : decode cX0_init 139 = .ok (.return_, 1) := by decide +kernel
theorem dX0_copyFrom_0 : decode cX0_copyFrom 0 = .ok (.aload_n 1, 1) := by decide +kernel
theorem dX0_copyFrom_1 : decode cX0_copyFrom 1 = .ok (.ifnonnull 4, 3) := by decide +kernel
theorem dX0_copyFrom_4 : decode cX0_copyFrom 4 = .ok (.return_, 1) := by decide +kernel
theorem dX0_copyFrom_5 : decode cX0_copyFrom 5 = .ok (.iconst 0, 1) := by decide +kernel
theorem dX0_copyFrom_6 : decode cX0_copyFrom 6 = .ok (.istore_n 2, 1) := by decide +kernel
theorem dX0_copyFrom_7 : decode cX0_copyFrom 7 = .ok (.iload_n 2, 1) := by decide +kernel
theorem dX0_copyFrom_8 : decode cX0_copyFrom 8 = .ok (.bipush 24, 2) := by decide +kernel
theorem dX0_copyFrom_10 : decode cX0_copyFrom 10 = .ok (.if_icmp .ge 45, 3) := by decide +kernel
theorem dX0_copyFrom_13 : decode cX0_copyFrom 13 = .ok (.aload_n 0, 1) := by decide +kernel
theorem dX0_copyFrom_14 : decode cX0_copyFrom 14 = .ok (.getfield 9, 3) := by decide +kernel
theorem dX0_copyFrom_17 : decode cX0_copyFrom 17 = .ok (.iload_n 2, 1) := by decide +kernel
theorem dX0_copyFrom_18 : decode cX0_copyFrom 18 = .ok (.aload_n 1, 1) := by decide +kernel
theorem dX0_copyFrom_19 : decode cX0_copyFrom 19 = .ok (.getfield 9, 3) := by decide +kernel
theorem dX0_copyFrom_22 : decode cX0_copyFrom 22 = .ok (.iload_n 2, 1) := by decide +kernel
theorem dX0_copyFrom_23 : decode cX0_copyFrom 23 = .ok (.iaload, 1) := by decide +kernel
theorem dX0_copyFrom_24 : decode cX0_copyFrom 24 = .ok (.iastore, 1) := by decide +kernel
theorem dX0_copyFrom_25 : decode cX0_copyFrom 25 = .ok (.aload_n 0, 1) := by decide +kernel
theorem dX0_copyFrom_26 : decode cX0_copyFrom 26 = .ok (.getfield 15, 3) := by decide +kernel
theorem dX0_copyFrom_29 : decode cX0_copyFrom 29 = .ok (.iload_n 2, 1) := by decide +kernel
theorem dX0_copyFrom_30 : decode cX0_copyFrom 30 = .ok (.aload_n 1, 1) := by decide +kernel
theorem dX0_copyFrom_31 : decode cX0_copyFrom 31 = .ok (.getfield 15, 3) := by decide +kernel
theorem dX0_copyFrom_34 : decode cX0_copyFrom 34 = .ok (.iload_n 2, 1) := by decide +kernel
theorem dX0_copyFrom_35 : decode cX0_copyFrom 35 = .ok (.iaload, 1) := by decide +kernel
theorem dX0_copyFrom_36 : decode cX0_copyFrom 36 = .ok (.iastore, 1) := by decide +kernel
theorem dX0_copyFrom_37 : decode cX0_copyFrom 37 = .ok (.aload_n 0, 1) := by decide +kernel
theorem dX0_copyFrom_38 : decode cX0_copyFrom 38 = .ok (.getfield 18, 3) := by decide +kernel
theorem dX0_copyFrom_41 : decode cX0_copyFrom 41 = .ok (.iload_n 2, 1) := by decide +kernel
theorem dX0_copyFrom_42 : decode cX0_copyFrom 42 = .ok (.aload_n 1, 1) := by decide +kernel
theorem dX0_copyFrom_43 : decode cX0_copyFrom 43 = .ok (.getfield 18, 3) := by decide +kernel
theorem dX0_copyFrom_46 : decode cX0_copyFrom 46 = .ok (.iload_n 2, 1) := by decide +kernel
theorem dX0_copyFrom_47 : decode cX0_copyFrom 47 = .ok (.iaload, 1) := by decide +kernel
theorem dX0_copyFrom_48 : decode cX0_copyFrom 48 = .ok (.iastore, 1) := by decide +kernel
theorem dX0_copyFrom_49 : decode cX0_copyFrom 49 = .ok (.iinc 2 1, 3) := by decide +kernel
theorem dX0_copyFrom_52 : decode cX0_copyFrom 52 = .ok (.goto (-45), 3) := by decide +kernel
theorem dX0_copyFrom_55 : decode cX0_copyFrom 55 = .ok (.iconst 0, 1) := by decide +kernel
theorem dX0_copyFrom_56 : decode cX0_copyFrom 56 = .ok (.istore_n 2, 1) := by decide +kernel
theorem dX0_copyFrom_57 : decode cX0_copyFrom 57 = .ok (.iload_n 2, 1) := by decide +kernel
theorem dX0_copyFrom_58 : decode cX0_copyFrom 58 = .ok (.bipush 10, 2) := by decide +kernel
theorem dX0_copyFrom_60 : decode cX0_copyFrom 60 = .ok (.if_icmp .ge 69, 3) := by decide +kernel
theorem dX0_copyFrom_63 : decode cX0_copyFrom 63 = .ok (.aload_n 0, 1) := by decide +kernel
theorem dX0_copyFrom_64 : decode cX0_copyFrom 64 = .ok (.getfield 21, 3) := by decide +kernel
theorem dX0_copyFrom_67 : decode cX0_copyFrom 67 = .ok (.iload_n 2, 1) := by decide +kernel
theorem dX0_copyFrom_68 : decode cX0_copyFrom 68 = .ok (.aload_n 1, 1) := by decide +kernel
theorem dX0_copyFrom_69 : decode cX0_copyFrom 69 = .ok (.getfield 21, 3) := by decide +kernel
theorem dX0_copyFrom_72 : decode cX0_copyFrom 72 = .ok (.iload_n 2, 1) := by decide +kernel
theorem dX0_copyFrom_73 : decode cX0_copyFrom 73 = .ok (.iaload, 1) := by decide +kernel
theorem dX0_copyFrom_74 : decode cX0_copyFrom 74 = .ok (.iastore, 1) := by decide +kernel
theorem dX0_copyFrom_75 : decode cX0_copyFrom 75 = .ok (.aload_n 0, 1) := by decide +kernel
theorem dX0_copyFrom_76 : decode cX0_copyFrom 76 = .ok (.getfield 24, 3) := by decide +kernel
theorem dX0_copyFrom_79 : decode cX0_copyFrom 79 = .ok (.iload_n 2, 1) := by decide +kernel
theorem dX0_copyFrom_80 : decode cX0_copyFrom 80 = .ok (.aload_n 1, 1) := by decide +kernel
theorem dX0_copyFrom_81 : decode cX0_copyFrom 81 = .ok (.getfield 24, 3) := by decide +kernel
theorem dX0_copyFrom_84 : decode cX0_copyFrom 84 = .ok (.iload_n 2, 1) := by decide +kernel
theorem dX0_copyFrom_85 : decode cX0_copyFrom 85 = .ok (.iaload, 1) := by decide +kernel
theorem dX0_copyFrom_86 : decode cX0_copyFrom 86 = .ok (.iastore, 1) := by decide +kernel
theorem dX0_copyFrom_87 : decode cX0_copyFrom 87 = .ok (.aload_n 0, 1) := by decide +kernel
theorem dX0_copyFrom_88 : decode cX0_copyFrom 88 = .ok (.getfield 27, 3) := by decide +kernel
theorem dX0_copyFrom_91 : decode cX0_copyFrom 91 = .ok (.iload_n 2, 1) := by decide +kernel
theorem dX0_copyFrom_92 : decode cX0_copyFrom 92 = .ok (.aload_n 1, 1) := by decide +kernel
theorem dX0_copyFrom_93 : decode cX0_copyFrom 93 = .ok (.getfield 27, 3) := by decide +kernel
theorem dX0_copyFrom_96 : decode cX0_copyFrom 96 = .ok (.iload_n 2, 1) := by decide +kernel
theorem dX0_copyFrom_97 : decode cX0_copyFrom 97 = .ok (.iaload, 1) := by decide +kernel
theorem dX0_copyFrom_98 : decode cX0_copyFrom 98 = .ok (.iastore, 1) := by decide +kernel
theorem dX0_copyFrom_99 : decode cX0_copyFrom 99 = .ok (.aload_n 0, 1) := by decide +kernel
theorem dX0_copyFrom_100 : decode cX0_copyFrom 100 = .ok (.getfield 30, 3) := by decide +kernel
theorem dX0_copyFrom_103 : decode cX0_copyFrom 103 = .ok (.iload_n 2, 1) := by decide +kernel
theorem dX0_copyFrom_104 : decode cX0_copyFrom 104 = .ok (.aload_n 1, 1) := by decide +kernel
theorem dX0_copyFrom_105 : decode cX0_copyFrom 105 = .ok (.getfield 30, 3) := by decide +kernel
theorem dX0_copyFrom_108 : decode cX0_copyFrom 108 = .ok (.iload_n 2, 1) := by decide +kernel
theorem dX0_copyFrom_109 : decode cX0_copyFrom 109 = .ok (.iaload, 1) := by decide +kernel
theorem dX0_copyFrom_110 : decode cX0_copyFrom 110 = .ok (.iastore, 1) := by decide +kernel
theorem dX0_copyFrom_111 : decode cX0_copyFrom 111 = .ok (.aload_n 0, 1) := by decide +kernel
theorem dX0_copyFrom_112 : decode cX0_copyFrom 112 = .ok (.getfield 33, 3) := by decide +kernel
theorem dX0_copyFrom_115 : decode cX0_copyFrom 115 = .ok (.iload_n 2, 1) := by decide +kernel
theorem dX0_copyFrom_116 : decode cX0_copyFrom 116 = .ok (.aload_n 1, 1) := by decide +kernel
theorem dX0_copyFrom_117 : decode cX0_copyFrom 117 = .ok (.getfield 33, 3) := by decide +kernel
theorem dX0_copyFrom_120 : decode cX0_copyFrom 120 = .ok (.iload_n 2, 1) := by decide +kernel
theorem dX0_copyFrom_121 : decode cX0_copyFrom 121 = .ok (.iaload, 1) := by decide +kernel
theorem dX0_copyFrom_122 : decode cX0_copyFrom 122 = .ok (.iastore, 1) := by decide +kernel
theorem dX0_copyFrom_123 : decode cX0_copyFrom 123 = .ok (.iinc 2 1, 3) := by decide +kernel
theorem dX0_copyFrom_126 : decode cX0_copyFrom 126 = .ok (.goto (-69), 3) := by decide +kernel
theorem dX0_copyFrom_129 : decode cX0_copyFrom 129 = .ok (.aload_n 0, 1) := by decide +kernel
theorem dX0_copyFrom_130 : decode cX0_copyFrom 130 = .ok (.aload_n 1, 1) := by decide +kernel
theorem dX0_copyFrom_131 : decode cX0_copyFrom 131 = .ok (.getfield 36, 3) := by decide +kernel
theorem dX0_copyFrom_134 : decode cX0_copyFrom 134 = .ok (.putfield 36, 3) := by decide +kernel
theorem dX0_copyFrom_137 : decode cX0_copyFrom 137 = .ok (.aload_n 0, 1) := by decide +kernel
theorem dX0_copyFrom_138 : decode cX0_copyFrom 138 = .ok (.aload_n 1, 1) := by decide +kernel
theorem dX0_copyFrom_139 : decode cX0_copyFrom 139 = .ok (.getfield 40, 3) := by decide +kernel
theorem dX0_copyFrom_142 : decode cX0_copyFrom 142 = .ok (.putfield 40, 3) := by decide +kernel
theorem dX0_copyFrom_145 : decode cX0_copyFrom 145 = .ok (.aload_n 0, 1) := by decide +kernel
theorem dX0_copyFrom_146 : decode cX0_copyFrom 146 = .ok (.aload_n 1, 1) := by decide +kernel
theorem dX0_copyFrom_147 : decode cX0_copyFrom 147 = .ok (.getfield 43, 3) := by decide +kernel
theorem dX0_copyFrom_150 : decode cX0_copyFrom 150 = .ok (.putfield 43, 3) := by decide +kernel
theorem dX0_copyFrom_153 : decode cX0_copyFrom 153 = .ok (.return_, 1) := by decide +kernel
theorem dX0_exists_0 : decode cX0_exists 0 = .ok (.iload_n 1, 1) := by decide +kernel
theorem dX0_exists_1 : decode cX0_exists 1 = .ok (.ifCond .lt 23, 3) := by decide +kernel
theorem dX0_exists_4 : decode cX0_exists 4 = .ok (.iload_n 1, 1) := by decide +kernel
theorem dX0_exists_5 : decode cX0_exists 5 = .ok (.bipush 10, 2) := by decide +kernel
theorem dX0_exists_7 : decode cX0_exists 7 = .ok (.if_icmp .ge 17, 3) := by decide +kernel
theorem dX0_exists_10 : decode cX0_exists 10 = .ok (.aload_n 0, 1) := by decide +kernel
theorem dX0_exists_11 : decode cX0_exists 11 = .ok (.getfield 21, 3) := by decide +kernel
theorem dX0_exists_14 : decode cX0_exists 14 = .ok (.iload_n 1, 1) := by decide +kernel
theorem dX0_exists_15 : decode cX0_exists 15 = .ok (.iaload, 1) := by decide +kernel
theorem dX0_exists_16 : decode cX0_exists 16 = .ok (.iconst (-1), 1) := by decide +kernel
theorem dX0_exists_17 : decode cX0_exists 17 = .ok (.if_icmp .eq 7, 3) := by decide +kernel
theorem dX0_exists_20 : decode cX0_exists 20 = .ok (.iconst 1, 1) := by decide +kernel
theorem dX0_exists_21 : decode cX0_exists 21 = .ok (.goto 4, 3) := by decide +kernel
theorem dX0_exists_24 : decode cX0_exists 24 = .ok (.iconst 0, 1) := by decide +kernel
theorem dX0_exists_25 : decode cX0_exists 25 = .ok (.ireturn, 1) := by decide +kernel
theorem dX0_files_0 : decode cX0_files 0 = .ok (.iconst 0, 1) := by decide +kernel
theorem dX0_files_1 : decode cX0_files 1 = .ok (.istore_n 1, 1) := by decide +kernel
theorem dX0_files_2 : decode cX0_files 2 = .ok (.iconst 0, 1) := by decide +kernel
theorem dX0_files_3 : decode cX0_files 3 = .ok (.istore_n 2, 1) := by decide +kernel
theorem dX0_files_4 : decode cX0_files 4 = .ok (.iload_n 2, 1) := by decide +kernel
theorem dX0_files_5 : decode cX0_files 5 = .ok (.bipush 10, 2) := by decide +kernel
theorem dX0_files_7 : decode cX0_files 7 = .ok (.if_icmp .ge 27, 3) := by decide +kernel
theorem dX0_files_10 : decode cX0_files 10 = .ok (.iload_n 1, 1) := by decide +kernel
theorem dX0_files_11 : decode cX0_files 11 = .ok (.aload_n 0, 1) := by decide +kernel
theorem dX0_files_12 : decode cX0_files 12 = .ok (.getfield 21, 3) := by decide +kernel
theorem dX0_files_15 : decode cX0_files 15 = .ok (.iload_n 2, 1) := by decide +kernel
theorem dX0_files_16 : decode cX0_files 16 = .ok (.iaload, 1) := by decide +kernel
theorem dX0_files_17 : decode cX0_files 17 = .ok (.iconst (-1), 1) := by decide +kernel
theorem dX0_files_18 : decode cX0_files 18 = .ok (.if_icmp .ne 7, 3) := by decide +kernel
theorem dX0_files_21 : decode cX0_files 21 = .ok (.iconst 0, 1) := by decide +kernel
theorem dX0_files_22 : decode cX0_files 22 = .ok (.goto 4, 3) := by decide +kernel
theorem dX0_files_25 : decode cX0_files 25 = .ok (.iconst 1, 1) := by decide +kernel
theorem dX0_files_26 : decode cX0_files 26 = .ok (.iadd, 1) := by decide +kernel
theorem dX0_files_27 : decode cX0_files 27 = .ok (.istore_n 1, 1) := by decide +kernel
theorem dX0_files_28 : decode cX0_files 28 = .ok (.iinc 2 1, 3) := by decide +kernel
theorem dX0_files_31 : decode cX0_files 31 = .ok (.goto (-27), 3) := by decide +kernel
theorem dX0_files_34 : decode cX0_files 34 = .ok (.iload_n 1, 1) := by decide +kernel
theorem dX0_files_35 : decode cX0_files 35 = .ok (.ireturn, 1) := by decide +kernel
theorem dX0_brokenFiles_0 : decode cX0_brokenFiles 0 = .ok (.iconst 0, 1) := by decide +kernel
theorem dX0_brokenFiles_1 : decode cX0_brokenFiles 1 = .ok (.istore_n 1, 1) := by decide +kernel
theorem dX0_brokenFiles_2 : decode cX0_brokenFiles 2 = .ok (.iconst 0, 1) := by decide +kernel
theorem dX0_brokenFiles_3 : decode cX0_brokenFiles 3 = .ok (.istore_n 2, 1) := by decide +kernel
theorem dX0_brokenFiles_4 : decode cX0_brokenFiles 4 = .ok (.iload_n 2, 1) := by decide +kernel
theorem dX0_brokenFiles_5 : decode cX0_brokenFiles 5 = .ok (.bipush 10, 2) := by decide +kernel
theorem dX0_brokenFiles_7 : decode cX0_brokenFiles 7 = .ok (.if_icmp .ge 18, 3) := by decide +kernel
theorem dX0_brokenFiles_10 : decode cX0_brokenFiles 10 = .ok (.iload_n 1, 1) := by decide +kernel
theorem dX0_brokenFiles_11 : decode cX0_brokenFiles 11 = .ok (.aload_n 0, 1) := by decide +kernel
theorem dX0_brokenFiles_12 : decode cX0_brokenFiles 12 = .ok (.getfield 30, 3) := by decide +kernel
theorem dX0_brokenFiles_15 : decode cX0_brokenFiles 15 = .ok (.iload_n 2, 1) := by decide +kernel
theorem dX0_brokenFiles_16 : decode cX0_brokenFiles 16 = .ok (.iaload, 1) := by decide +kernel
theorem dX0_brokenFiles_17 : decode cX0_brokenFiles 17 = .ok (.iadd, 1) := by decide +kernel
theorem dX0_brokenFiles_18 : decode cX0_brokenFiles 18 = .ok (.istore_n 1, 1) := by decide +kernel
theorem dX0_brokenFiles_19 : decode cX0_brokenFiles 19 = .ok (.iinc 2 1, 3) := by decide +kernel
theorem dX0_brokenFiles_22 : decode cX0_brokenFiles 22 = .ok (.goto (-18), 3) := by decide +kernel
theorem dX0_brokenFiles_25 : decode cX0_brokenFiles 25 = .ok (.iload_n 1, 1) := by decide +kernel
theorem dX0_brokenFiles_26 : decode cX0_brokenFiles 26 = .ok (.ireturn, 1) := by decide +kernel
theorem dX0_isBroken_0 : decode cX0_isBroken 0 = .ok (.aload_n 0, 1) := by decide +kernel
theorem dX0_isBroken_1 : decode cX0_isBroken 1 = .ok (.iload_n 1, 1) := by decide +kernel
theorem dX0_isBroken_2 : decode cX0_isBroken 2 = .ok (.invokevirtual 46, 3) := by decide +kernel
theorem dX0_isBroken_5 : decode cX0_isBroken 5 = .ok (.ifCond .eq 17, 3) := by decide +kernel
theorem dX0_isBroken_8 : decode cX0_isBroken 8 = .ok (.aload_n 0, 1) := by decide +kernel
theorem dX0_isBroken_9 : decode cX0_isBroken 9 = .ok (.getfield 30, 3) := by decide +kernel
theorem dX0_isBroken_12 : decode cX0_isBroken 12 = .ok (.iload_n 1, 1) := by decide +kernel
theorem dX0_isBroken_13 : decode cX0_isBroken 13 = .ok (.iaload, 1) := by decide +kernel
theorem dX0_isBroken_14 : decode cX0_isBroken 14 = .ok (.iconst 1, 1) := by decide +kernel
theorem dX0_isBroken_15 : decode cX0_isBroken 15 = .ok (.if_icmp .ne 7, 3) := by decide +kernel
theorem dX0_isBroken_18 : decode cX0_isBroken 18 = .ok (.iconst 1, 1) := by decide +kernel
theorem dX0_isBroken_19 : decode cX0_isBroken 19 = .ok (.goto 4, 3) := by decide +kernel
theorem dX0_isBroken_22 : decode cX0_isBroken 22 = .ok (.iconst 0, 1) := by decide +kernel
theorem dX0_isBroken_23 : decode cX0_isBroken 23 = .ok (.ireturn, 1) := by decide +kernel
theorem dX0_sizeOf_0 : decode cX0_sizeOf 0 = .ok (.aload_n 0, 1) := by decide +kernel
theorem dX0_sizeOf_1 : decode cX0_sizeOf 1 = .ok (.iload_n 1, 1) := by decide +kernel
theorem dX0_sizeOf_2 : decode cX0_sizeOf 2 = .ok (.invokevirtual 46, 3) := by decide +kernel
theorem dX0_sizeOf_5 : decode cX0_sizeOf 5 = .ok (.ifCond .eq 12, 3) := by decide +kernel
theorem dX0_sizeOf_8 : decode cX0_sizeOf 8 = .ok (.aload_n 0, 1) := by decide +kernel
theorem dX0_sizeOf_9 : decode cX0_sizeOf 9 = .ok (.getfield 21, 3) := by decide +kernel
theorem dX0_sizeOf_12 : decode cX0_sizeOf 12 = .ok (.iload_n 1, 1) := by decide +kernel
theorem dX0_sizeOf_13 : decode cX0_sizeOf 13 = .ok (.iaload, 1) := by decide +kernel
theorem dX0_sizeOf_14 : decode cX0_sizeOf 14 = .ok (.goto 4, 3) := by decide +kernel
theorem dX0_sizeOf_17 : decode cX0_sizeOf 17 = .ok (.iconst 0, 1) := by decide +kernel
theorem dX0_sizeOf_18 : decode cX0_sizeOf 18 = .ok (.ireturn, 1) := by decide +kernel
theorem dX0_tailCells_0 : decode cX0_tailCells 0 = .ok (.aload_n 0, 1) := by decide +kernel
theorem dX0_tailCells_1 : decode cX0_tailCells 1 = .ok (.iload_n 1, 1) := by decide +kernel
theorem dX0_tailCells_2 : decode cX0_tailCells 2 = .ok (.invokevirtual 50, 3) := by decide +kernel
theorem dX0_tailCells_5 : decode cX0_tailCells 5 = .ok (.bipush 16, 2) := by decide +kernel
theorem dX0_tailCells_7 : decode cX0_tailCells 7 = .ok (.irem, 1) := by decide +kernel
theorem dX0_tailCells_8 : decode cX0_tailCells 8 = .ok (.ireturn, 1) := by decide +kernel
theorem dX0_kindOf_0 : decode cX0_kindOf 0 = .ok (.iload_n 1, 1) := by decide +kernel
theorem dX0_kindOf_1 : decode cX0_kindOf 1 = .ok (.invokestatic 54, 3) := by decide +kernel
theorem dX0_kindOf_4 : decode cX0_kindOf 4 = .ok (.ifCond .eq 12, 3) := by decide +kernel
theorem dX0_kindOf_7 : decode cX0_kindOf 7 = .ok (.aload_n 0, 1) := by decide +kernel
theorem dX0_kindOf_8 : decode cX0_kindOf 8 = .ok (.getfield 9, 3) := by decide +kernel
theorem dX0_kindOf_11 : decode cX0_kindOf 11 = .ok (.iload_n 1, 1) := by decide +kernel
theorem dX0_kindOf_12 : decode cX0_kindOf 12 = .ok (.iaload, 1) := by decide +kernel
theorem dX0_kindOf_13 : decode cX0_kindOf 13 = .ok (.goto 4, 3) := by decide +kernel
theorem dX0_kindOf_16 : decode cX0_kindOf 16 = .ok (.iconst 3, 1) := by decide +kernel
theorem dX0_kindOf_17 : decode cX0_kindOf 17 = .ok (.ireturn, 1) := by decide +kernel
theorem dX0_blocksOf_0 : decode cX0_blocksOf 0 = .ok (.iconst 0, 1) := by decide +kernel
theorem dX0_blocksOf_1 : decode cX0_blocksOf 1 = .ok (.istore_n 2, 1) := by decide +kernel
theorem dX0_blocksOf_2 : decode cX0_blocksOf 2 = .ok (.iconst 0, 1) := by decide +kernel
theorem dX0_blocksOf_3 : decode cX0_blocksOf 3 = .ok (.istore_n 3, 1) := by decide +kernel
theorem dX0_blocksOf_4 : decode cX0_blocksOf 4 = .ok (.iload_n 3, 1) := by decide +kernel
theorem dX0_blocksOf_5 : decode cX0_blocksOf 5 = .ok (.bipush 24, 2) := by decide +kernel
theorem dX0_blocksOf_7 : decode cX0_blocksOf 7 = .ok (.if_icmp .ge 27, 3) := by decide +kernel
theorem dX0_blocksOf_10 : decode cX0_blocksOf 10 = .ok (.iload_n 2, 1) := by decide +kernel
theorem dX0_blocksOf_11 : decode cX0_blocksOf 11 = .ok (.aload_n 0, 1) := by decide +kernel
theorem dX0_blocksOf_12 : decode cX0_blocksOf 12 = .ok (.getfield 9, 3) := by decide +kernel
theorem dX0_blocksOf_15 : decode cX0_blocksOf 15 = .ok (.iload_n 3, 1) := by decide +kernel
theorem dX0_blocksOf_16 : decode cX0_blocksOf 16 = .ok (.iaload, 1) := by decide +kernel
theorem dX0_blocksOf_17 : decode cX0_blocksOf 17 = .ok (.iload_n 1, 1) := by decide +kernel
theorem dX0_blocksOf_18 : decode cX0_blocksOf 18 = .ok (.if_icmp .ne 7, 3) := by decide +kernel
theorem dX0_blocksOf_21 : decode cX0_blocksOf 21 = .ok (.iconst 1, 1) := by decide +kernel
theorem dX0_blocksOf_22 : decode cX0_blocksOf 22 = .ok (.goto 4, 3) := by decide +kernel
theorem dX0_blocksOf_25 : decode cX0_blocksOf 25 = .ok (.iconst 0, 1) := by decide +kernel
theorem dX0_blocksOf_26 : decode cX0_blocksOf 26 = .ok (.iadd, 1) := by decide +kernel
theorem dX0_blocksOf_27 : decode cX0_blocksOf 27 = .ok (.istore_n 2, 1) := by decide +kernel
theorem dX0_blocksOf_28 : decode cX0_blocksOf 28 = .ok (.iinc 3 1, 3) := by decide +kernel
theorem dX0_blocksOf_31 : decode cX0_blocksOf 31 = .ok (.goto (-27), 3) := by decide +kernel
theorem dX0_blocksOf_34 : decode cX0_blocksOf 34 = .ok (.iload_n 2, 1) := by decide +kernel
theorem dX0_blocksOf_35 : decode cX0_blocksOf 35 = .ok (.ireturn, 1) := by decide +kernel
theorem dX0_sharedTailCells_0 : decode cX0_sharedTailCells 0 = .ok (.iconst 0, 1) := by decide +kernel
theorem dX0_sharedTailCells_1 : decode cX0_sharedTailCells 1 = .ok (.istore_n 1, 1) := by decide +kernel
theorem dX0_sharedTailCells_2 : decode cX0_sharedTailCells 2 = .ok (.iconst 0, 1) := by decide +kernel
theorem dX0_sharedTailCells_3 : decode cX0_sharedTailCells 3 = .ok (.istore_n 2, 1) := by decide +kernel
theorem dX0_sharedTailCells_4 : decode cX0_sharedTailCells 4 = .ok (.iload_n 2, 1) := by decide +kernel
theorem dX0_sharedTailCells_5 : decode cX0_sharedTailCells 5 = .ok (.bipush 24, 2) := by decide +kernel
theorem dX0_sharedTailCells_7 : decode cX0_sharedTailCells 7 = .ok (.if_icmp .ge 17, 3) := by decide +kernel
theorem dX0_sharedTailCells_10 : decode cX0_sharedTailCells 10 = .ok (.iload_n 1, 1) := by decide +kernel
theorem dX0_sharedTailCells_11 : decode cX0_sharedTailCells 11 = .ok (.aload_n 0, 1) := by decide +kernel
theorem dX0_sharedTailCells_12 : decode cX0_sharedTailCells 12 = .ok (.iload_n 2, 1) := by decide +kernel
theorem dX0_sharedTailCells_13 : decode cX0_sharedTailCells 13 = .ok (.invokevirtual 57, 3) := by decide +kernel
theorem dX0_sharedTailCells_16 : decode cX0_sharedTailCells 16 = .ok (.iadd, 1) := by decide +kernel
theorem dX0_sharedTailCells_17 : decode cX0_sharedTailCells 17 = .ok (.istore_n 1, 1) := by decide +kernel
theorem dX0_sharedTailCells_18 : decode cX0_sharedTailCells 18 = .ok (.iinc 2 1, 3) := by decide +kernel
theorem dX0_sharedTailCells_21 : decode cX0_sharedTailCells 21 = .ok (.goto (-17), 3) := by decide +kernel
theorem dX0_sharedTailCells_24 : decode cX0_sharedTailCells 24 = .ok (.iload_n 1, 1) := by decide +kernel
theorem dX0_sharedTailCells_25 : decode cX0_sharedTailCells 25 = .ok (.ireturn, 1) := by decide +kernel
theorem dX0_fileProperty_0 : decode cX0_fileProperty 0 = .ok (.aload_n 0, 1) := by decide +kernel
theorem dX0_fileProperty_1 : decode cX0_fileProperty 1 = .ok (.iload_n 1, 1) := by decide +kernel
theorem dX0_fileProperty_2 : decode cX0_fileProperty 2 = .ok (.invokevirtual 46, 3) := by decide +kernel
theorem dX0_fileProperty_5 : decode cX0_fileProperty 5 = .ok (.ifCond .ne 5, 3) := by decide +kernel
theorem dX0_fileProperty_8 : decode cX0_fileProperty 8 = .ok (.iconst (-1), 1) := by decide +kernel
theorem dX0_fileProperty_9 : decode cX0_fileProperty 9 = .ok (.ireturn, 1) := by decide +kernel
theorem dX0_fileProperty_10 : decode cX0_fileProperty 10 = .ok (.iload_n 2, 1) := by decide +kernel
theorem dX0_fileProperty_11 : decode cX0_fileProperty 11 = .ok (.tableswitch 85 0 5 #[37, 44, 54, 64, 71, 78], 37) := by decide +kernel
theorem dX0_fileProperty_48 : decode cX0_fileProperty 48 = .ok (.aload_n 0, 1) := by decide +kernel
theorem dX0_fileProperty_49 : decode cX0_fileProperty 49 = .ok (.getfield 21, 3) := by decide +kernel
theorem dX0_fileProperty_52 : decode cX0_fileProperty 52 = .ok (.iload_n 1, 1) := by decide +kernel
theorem dX0_fileProperty_53 : decode cX0_fileProperty 53 = .ok (.iaload, 1) := by decide +kernel
theorem dX0_fileProperty_54 : decode cX0_fileProperty 54 = .ok (.ireturn, 1) := by decide +kernel
theorem dX0_fileProperty_55 : decode cX0_fileProperty 55 = .ok (.aload_n 0, 1) := by decide +kernel
theorem dX0_fileProperty_56 : decode cX0_fileProperty 56 = .ok (.getfield 21, 3) := by decide +kernel
theorem dX0_fileProperty_59 : decode cX0_fileProperty 59 = .ok (.iload_n 1, 1) := by decide +kernel
theorem dX0_fileProperty_60 : decode cX0_fileProperty 60 = .ok (.iaload, 1) := by decide +kernel
theorem dX0_fileProperty_61 : decode cX0_fileProperty 61 = .ok (.bipush 16, 2) := by decide +kernel
theorem dX0_fileProperty_63 : decode cX0_fileProperty 63 = .ok (.idiv, 1) := by decide +kernel
theorem dX0_fileProperty_64 : decode cX0_fileProperty 64 = .ok (.ireturn, 1) := by decide +kernel
theorem dX0_fileProperty_65 : decode cX0_fileProperty 65 = .ok (.aload_n 0, 1) := by decide +kernel
theorem dX0_fileProperty_66 : decode cX0_fileProperty 66 = .ok (.getfield 21, 3) := by decide +kernel
theorem dX0_fileProperty_69 : decode cX0_fileProperty 69 = .ok (.iload_n 1, 1) := by decide +kernel
theorem dX0_fileProperty_70 : decode cX0_fileProperty 70 = .ok (.iaload, 1) := by decide +kernel
theorem dX0_fileProperty_71 : decode cX0_fileProperty 71 = .ok (.bipush 16, 2) := by decide +kernel
theorem dX0_fileProperty_73 : decode cX0_fileProperty 73 = .ok (.irem, 1) := by decide +kernel
theorem dX0_fileProperty_74 : decode cX0_fileProperty 74 = .ok (.ireturn, 1) := by decide +kernel
theorem dX0_fileProperty_75 : decode cX0_fileProperty 75 = .ok (.aload_n 0, 1) := by decide +kernel
theorem dX0_fileProperty_76 : decode cX0_fileProperty 76 = .ok (.getfield 24, 3) := by decide +kernel
theorem dX0_fileProperty_79 : decode cX0_fileProperty 79 = .ok (.iload_n 1, 1) := by decide +kernel
theorem dX0_fileProperty_80 : decode cX0_fileProperty 80 = .ok (.iaload, 1) := by decide +kernel
theorem dX0_fileProperty_81 : decode cX0_fileProperty 81 = .ok (.ireturn, 1) := by decide +kernel
theorem dX0_fileProperty_82 : decode cX0_fileProperty 82 = .ok (.aload_n 0, 1) := by decide +kernel
theorem dX0_fileProperty_83 : decode cX0_fileProperty 83 = .ok (.getfield 27, 3) := by decide +kernel
theorem dX0_fileProperty_86 : decode cX0_fileProperty 86 = .ok (.iload_n 1, 1) := by decide +kernel
theorem dX0_fileProperty_87 : decode cX0_fileProperty 87 = .ok (.iaload, 1) := by decide +kernel
theorem dX0_fileProperty_88 : decode cX0_fileProperty 88 = .ok (.ireturn, 1) := by decide +kernel
theorem dX0_fileProperty_89 : decode cX0_fileProperty 89 = .ok (.aload_n 0, 1) := by decide +kernel
theorem dX0_fileProperty_90 : decode cX0_fileProperty 90 = .ok (.getfield 30, 3) := by decide +kernel
theorem dX0_fileProperty_93 : decode cX0_fileProperty 93 = .ok (.iload_n 1, 1) := by decide +kernel
theorem dX0_fileProperty_94 : decode cX0_fileProperty 94 = .ok (.iaload, 1) := by decide +kernel
theorem dX0_fileProperty_95 : decode cX0_fileProperty 95 = .ok (.ireturn, 1) := by decide +kernel
theorem dX0_fileProperty_96 : decode cX0_fileProperty 96 = .ok (.aload_n 0, 1) := by decide +kernel
theorem dX0_fileProperty_97 : decode cX0_fileProperty 97 = .ok (.getfield 33, 3) := by decide +kernel
theorem dX0_fileProperty_100 : decode cX0_fileProperty 100 = .ok (.iload_n 1, 1) := by decide +kernel
theorem dX0_fileProperty_101 : decode cX0_fileProperty 101 = .ok (.iaload, 1) := by decide +kernel
theorem dX0_fileProperty_102 : decode cX0_fileProperty 102 = .ok (.ireturn, 1) := by decide +kernel
theorem dX0_blockProperty_0 : decode cX0_blockProperty 0 = .ok (.iload_n 1, 1) := by decide +kernel
theorem dX0_blockProperty_1 : decode cX0_blockProperty 1 = .ok (.invokestatic 54, 3) := by decide +kernel
theorem dX0_blockProperty_4 : decode cX0_blockProperty 4 = .ok (.ifCond .ne 5, 3) := by decide +kernel
theorem dX0_blockProperty_7 : decode cX0_blockProperty 7 = .ok (.iconst (-1), 1) := by decide +kernel
theorem dX0_blockProperty_8 : decode cX0_blockProperty 8 = .ok (.ireturn, 1) := by decide +kernel
theorem dX0_blockProperty_9 : decode cX0_blockProperty 9 = .ok (.iload_n 2, 1) := by decide +kernel
theorem dX0_blockProperty_10 : decode cX0_blockProperty 10 = .ok (.tableswitch 73 0 3 #[30, 37, 43, 49], 30) := by decide +kernel
theorem dX0_blockProperty_40 : decode cX0_blockProperty 40 = .ok (.aload_n 0, 1) := by decide +kernel
theorem dX0_blockProperty_41 : decode cX0_blockProperty 41 = .ok (.getfield 9, 3) := by decide +kernel
theorem dX0_blockProperty_44 : decode cX0_blockProperty 44 = .ok (.iload_n 1, 1) := by decide +kernel
theorem dX0_blockProperty_45 : decode cX0_blockProperty 45 = .ok (.iaload, 1) := by decide +kernel
theorem dX0_blockProperty_46 : decode cX0_blockProperty 46 = .ok (.ireturn, 1) := by decide +kernel
theorem dX0_blockProperty_47 : decode cX0_blockProperty 47 = .ok (.aload_n 0, 1) := by decide +kernel
theorem dX0_blockProperty_48 : decode cX0_blockProperty 48 = .ok (.iload_n 1, 1) := by decide +kernel
theorem dX0_blockProperty_49 : decode cX0_blockProperty 49 = .ok (.invokevirtual 60, 3) := by decide +kernel
theorem dX0_blockProperty_52 : decode cX0_blockProperty 52 = .ok (.ireturn, 1) := by decide +kernel
theorem dX0_blockProperty_53 : decode cX0_blockProperty 53 = .ok (.aload_n 0, 1) := by decide +kernel
theorem dX0_blockProperty_54 : decode cX0_blockProperty 54 = .ok (.iload_n 1, 1) := by decide +kernel
theorem dX0_blockProperty_55 : decode cX0_blockProperty 55 = .ok (.invokevirtual 57, 3) := by decide +kernel
theorem dX0_blockProperty_58 : decode cX0_blockProperty 58 = .ok (.ireturn, 1) := by decide +kernel
theorem dX0_blockProperty_59 : decode cX0_blockProperty 59 = .ok (.aload_n 0, 1) := by decide +kernel
theorem dX0_blockProperty_60 : decode cX0_blockProperty 60 = .ok (.getfield 9, 3) := by decide +kernel
theorem dX0_blockProperty_63 : decode cX0_blockProperty 63 = .ok (.iload_n 1, 1) := by decide +kernel
theorem dX0_blockProperty_64 : decode cX0_blockProperty 64 = .ok (.iaload, 1) := by decide +kernel
theorem dX0_blockProperty_65 : decode cX0_blockProperty 65 = .ok (.iconst 2, 1) := by decide +kernel
theorem dX0_blockProperty_66 : decode cX0_blockProperty 66 = .ok (.if_icmp .ne 15, 3) := by decide +kernel
theorem dX0_blockProperty_69 : decode cX0_blockProperty 69 = .ok (.aload_n 0, 1) := by decide +kernel
theorem dX0_blockProperty_70 : decode cX0_blockProperty 70 = .ok (.iload_n 1, 1) := by decide +kernel
theorem dX0_blockProperty_71 : decode cX0_blockProperty 71 = .ok (.iconst (-1), 1) := by decide +kernel
theorem dX0_blockProperty_72 : decode cX0_blockProperty 72 = .ok (.invokevirtual 63, 3) := by decide +kernel
theorem dX0_blockProperty_75 : decode cX0_blockProperty 75 = .ok (.invokestatic 67, 3) := by decide +kernel
theorem dX0_blockProperty_78 : decode cX0_blockProperty 78 = .ok (.goto 4, 3) := by decide +kernel
theorem dX0_blockProperty_81 : decode cX0_blockProperty 81 = .ok (.iconst 0, 1) := by decide +kernel
theorem dX0_blockProperty_82 : decode cX0_blockProperty 82 = .ok (.ireturn, 1) := by decide +kernel
theorem dX0_blockProperty_83 : decode cX0_blockProperty 83 = .ok (.aload_n 0, 1) := by decide +kernel
theorem dX0_blockProperty_84 : decode cX0_blockProperty 84 = .ok (.getfield 9, 3) := by decide +kernel
theorem dX0_blockProperty_87 : decode cX0_blockProperty 87 = .ok (.iload_n 1, 1) := by decide +kernel
theorem dX0_blockProperty_88 : decode cX0_blockProperty 88 = .ok (.iaload, 1) := by decide +kernel
theorem dX0_blockProperty_89 : decode cX0_blockProperty 89 = .ok (.iconst 1, 1) := by decide +kernel
theorem dX0_blockProperty_90 : decode cX0_blockProperty 90 = .ok (.if_icmp .ne 12, 3) := by decide +kernel
theorem dX0_blockProperty_93 : decode cX0_blockProperty 93 = .ok (.aload_n 0, 1) := by decide +kernel
theorem dX0_blockProperty_94 : decode cX0_blockProperty 94 = .ok (.getfield 15, 3) := by decide +kernel
theorem dX0_blockProperty_97 : decode cX0_blockProperty 97 = .ok (.iload_n 1, 1) := by decide +kernel
theorem dX0_blockProperty_98 : decode cX0_blockProperty 98 = .ok (.iaload, 1) := by decide +kernel
theorem dX0_blockProperty_99 : decode cX0_blockProperty 99 = .ok (.goto 4, 3) := by decide +kernel
theorem dX0_blockProperty_102 : decode cX0_blockProperty 102 = .ok (.iconst (-1), 1) := by decide +kernel
theorem dX0_blockProperty_103 : decode cX0_blockProperty 103 = .ok (.ireturn, 1) := by decide +kernel
theorem dX0_tailsIn_0 : decode cX0_tailsIn 0 = .ok (.aload_n 0, 1) := by decide +kernel
theorem dX0_tailsIn_1 : decode cX0_tailsIn 1 = .ok (.iload_n 1, 1) := by decide +kernel
theorem dX0_tailsIn_2 : decode cX0_tailsIn 2 = .ok (.invokevirtual 70, 3) := by decide +kernel
theorem dX0_tailsIn_5 : decode cX0_tailsIn 5 = .ok (.iconst 2, 1) := by decide +kernel
theorem dX0_tailsIn_6 : decode cX0_tailsIn 6 = .ok (.if_icmp .eq 5, 3) := by decide +kernel
theorem dX0_tailsIn_9 : decode cX0_tailsIn 9 = .ok (.iconst 0, 1) := by decide +kernel
theorem dX0_tailsIn_10 : decode cX0_tailsIn 10 = .ok (.ireturn, 1) := by decide +kernel
theorem dX0_tailsIn_11 : decode cX0_tailsIn 11 = .ok (.iconst 0, 1) := by decide +kernel
theorem dX0_tailsIn_12 : decode cX0_tailsIn 12 = .ok (.istore_n 2, 1) := by decide +kernel
theorem dX0_tailsIn_13 : decode cX0_tailsIn 13 = .ok (.iconst 0, 1) := by decide +kernel
theorem dX0_tailsIn_14 : decode cX0_tailsIn 14 = .ok (.istore_n 3, 1) := by decide +kernel
theorem dX0_tailsIn_15 : decode cX0_tailsIn 15 = .ok (.iload_n 3, 1) := by decide +kernel
theorem dX0_tailsIn_16 : decode cX0_tailsIn 16 = .ok (.bipush 10, 2) := by decide +kernel
theorem dX0_tailsIn_18 : decode cX0_tailsIn 18 = .ok (.if_icmp .ge 27, 3) := by decide +kernel
theorem dX0_tailsIn_21 : decode cX0_tailsIn 21 = .ok (.iload_n 2, 1) := by decide +kernel
theorem dX0_tailsIn_22 : decode cX0_tailsIn 22 = .ok (.aload_n 0, 1) := by decide +kernel
theorem dX0_tailsIn_23 : decode cX0_tailsIn 23 = .ok (.getfield 24, 3) := by decide +kernel
theorem dX0_tailsIn_26 : decode cX0_tailsIn 26 = .ok (.iload_n 3, 1) := by decide +kernel
theorem dX0_tailsIn_27 : decode cX0_tailsIn 27 = .ok (.iaload, 1) := by decide +kernel
theorem dX0_tailsIn_28 : decode cX0_tailsIn 28 = .ok (.iload_n 1, 1) := by decide +kernel
theorem dX0_tailsIn_29 : decode cX0_tailsIn 29 = .ok (.if_icmp .ne 7, 3) := by decide +kernel
theorem dX0_tailsIn_32 : decode cX0_tailsIn 32 = .ok (.iconst 1, 1) := by decide +kernel
theorem dX0_tailsIn_33 : decode cX0_tailsIn 33 = .ok (.goto 4, 3) := by decide +kernel
theorem dX0_tailsIn_36 : decode cX0_tailsIn 36 = .ok (.iconst 0, 1) := by decide +kernel
theorem dX0_tailsIn_37 : decode cX0_tailsIn 37 = .ok (.iadd, 1) := by decide +kernel
theorem dX0_tailsIn_38 : decode cX0_tailsIn 38 = .ok (.istore_n 2, 1) := by decide +kernel
theorem dX0_tailsIn_39 : decode cX0_tailsIn 39 = .ok (.iinc 3 1, 3) := by decide +kernel
theorem dX0_tailsIn_42 : decode cX0_tailsIn 42 = .ok (.goto (-27), 3) := by decide +kernel
theorem dX0_tailsIn_45 : decode cX0_tailsIn 45 = .ok (.iload_n 2, 1) := by decide +kernel
theorem dX0_tailsIn_46 : decode cX0_tailsIn 46 = .ok (.ireturn, 1) := by decide +kernel
theorem dX0_tailCellsIn_0 : decode cX0_tailCellsIn 0 = .ok (.aload_n 0, 1) := by decide +kernel
theorem dX0_tailCellsIn_1 : decode cX0_tailCellsIn 1 = .ok (.iload_n 1, 1) := by decide +kernel
theorem dX0_tailCellsIn_2 : decode cX0_tailCellsIn 2 = .ok (.invokevirtual 70, 3) := by decide +kernel
theorem dX0_tailCellsIn_5 : decode cX0_tailCellsIn 5 = .ok (.iconst 2, 1) := by decide +kernel
theorem dX0_tailCellsIn_6 : decode cX0_tailCellsIn 6 = .ok (.if_icmp .ne 15, 3) := by decide +kernel
theorem dX0_tailCellsIn_9 : decode cX0_tailCellsIn 9 = .ok (.aload_n 0, 1) := by decide +kernel
theorem dX0_tailCellsIn_10 : decode cX0_tailCellsIn 10 = .ok (.iload_n 1, 1) := by decide +kernel
theorem dX0_tailCellsIn_11 : decode cX0_tailCellsIn 11 = .ok (.iconst (-1), 1) := by decide +kernel
theorem dX0_tailCellsIn_12 : decode cX0_tailCellsIn 12 = .ok (.invokevirtual 63, 3) := by decide +kernel
theorem dX0_tailCellsIn_15 : decode cX0_tailCellsIn 15 = .ok (.invokestatic 73, 3) := by decide +kernel
theorem dX0_tailCellsIn_18 : decode cX0_tailCellsIn 18 = .ok (.goto 4, 3) := by decide +kernel
theorem dX0_tailCellsIn_21 : decode cX0_tailCellsIn 21 = .ok (.iconst 0, 1) := by decide +kernel
theorem dX0_tailCellsIn_22 : decode cX0_tailCellsIn 22 = .ok (.ireturn, 1) := by decide +kernel
theorem dX0_whereIs_0 : decode cX0_whereIs 0 = .ok (.aload_n 0, 1) := by decide +kernel
theorem dX0_whereIs_1 : decode cX0_whereIs 1 = .ok (.iload_n 1, 1) := by decide +kernel
theorem dX0_whereIs_2 : decode cX0_whereIs 2 = .ok (.invokevirtual 46, 3) := by decide +kernel
theorem dX0_whereIs_5 : decode cX0_whereIs 5 = .ok (.ifCond .eq 17, 3) := by decide +kernel
theorem dX0_whereIs_8 : decode cX0_whereIs 8 = .ok (.iload_n 2, 1) := by decide +kernel
theorem dX0_whereIs_9 : decode cX0_whereIs 9 = .ok (.ifCond .lt 13, 3) := by decide +kernel
theorem dX0_whereIs_12 : decode cX0_whereIs 12 = .ok (.iload_n 2, 1) := by decide +kernel
theorem dX0_whereIs_13 : decode cX0_whereIs 13 = .ok (.aload_n 0, 1) := by decide +kernel
theorem dX0_whereIs_14 : decode cX0_whereIs 14 = .ok (.getfield 21, 3) := by decide +kernel
theorem dX0_whereIs_17 : decode cX0_whereIs 17 = .ok (.iload_n 1, 1) := by decide +kernel
theorem dX0_whereIs_18 : decode cX0_whereIs 18 = .ok (.iaload, 1) := by decide +kernel
theorem dX0_whereIs_19 : decode cX0_whereIs 19 = .ok (.if_icmp .lt 5, 3) := by decide +kernel
theorem dX0_whereIs_22 : decode cX0_whereIs 22 = .ok (.iconst (-1), 1) := by decide +kernel
theorem dX0_whereIs_23 : decode cX0_whereIs 23 = .ok (.ireturn, 1) := by decide +kernel
theorem dX0_whereIs_24 : decode cX0_whereIs 24 = .ok (.iload_n 2, 1) := by decide +kernel
theorem dX0_whereIs_25 : decode cX0_whereIs 25 = .ok (.bipush 16, 2) := by decide +kernel
theorem dX0_whereIs_27 : decode cX0_whereIs 27 = .ok (.idiv, 1) := by decide +kernel
theorem dX0_whereIs_28 : decode cX0_whereIs 28 = .ok (.aload_n 0, 1) := by decide +kernel
theorem dX0_whereIs_29 : decode cX0_whereIs 29 = .ok (.getfield 21, 3) := by decide +kernel
theorem dX0_whereIs_32 : decode cX0_whereIs 32 = .ok (.iload_n 1, 1) := by decide +kernel
theorem dX0_whereIs_33 : decode cX0_whereIs 33 = .ok (.iaload, 1) := by decide +kernel
theorem dX0_whereIs_34 : decode cX0_whereIs 34 = .ok (.bipush 16, 2) := by decide +kernel
theorem dX0_whereIs_36 : decode cX0_whereIs 36 = .ok (.idiv, 1) := by decide +kernel
theorem dX0_whereIs_37 : decode cX0_whereIs 37 = .ok (.if_icmp .ne 40, 3) := by decide +kernel
theorem dX0_whereIs_40 : decode cX0_whereIs 40 = .ok (.aload_n 0, 1) := by decide +kernel
theorem dX0_whereIs_41 : decode cX0_whereIs 41 = .ok (.getfield 24, 3) := by decide +kernel
theorem dX0_whereIs_44 : decode cX0_whereIs 44 = .ok (.iload_n 1, 1) := by decide +kernel
theorem dX0_whereIs_45 : decode cX0_whereIs 45 = .ok (.iaload, 1) := by decide +kernel
theorem dX0_whereIs_46 : decode cX0_whereIs 46 = .ok (.istore_n 3, 1) := by decide +kernel
theorem dX0_whereIs_47 : decode cX0_whereIs 47 = .ok (.aload_n 0, 1) := by decide +kernel
theorem dX0_whereIs_48 : decode cX0_whereIs 48 = .ok (.iload_n 3, 1) := by decide +kernel
theorem dX0_whereIs_49 : decode cX0_whereIs 49 = .ok (.invokevirtual 70, 3) := by decide +kernel
theorem dX0_whereIs_52 : decode cX0_whereIs 52 = .ok (.iconst 3, 1) := by decide +kernel
theorem dX0_whereIs_53 : decode cX0_whereIs 53 = .ok (.if_icmp .ne 7, 3) := by decide +kernel
theorem dX0_whereIs_56 : decode cX0_whereIs 56 = .ok (.iconst (-1), 1) := by decide +kernel
theorem dX0_whereIs_57 : decode cX0_whereIs 57 = .ok (.goto 19, 3) := by decide +kernel
theorem dX0_whereIs_60 : decode cX0_whereIs 60 = .ok (.bipush 16, 2) := by decide +kernel
theorem dX0_whereIs_62 : decode cX0_whereIs 62 = .ok (.iload_n 3, 1) := by decide +kernel
theorem dX0_whereIs_63 : decode cX0_whereIs 63 = .ok (.imul, 1) := by decide +kernel
theorem dX0_whereIs_64 : decode cX0_whereIs 64 = .ok (.aload_n 0, 1) := by decide +kernel
theorem dX0_whereIs_65 : decode cX0_whereIs 65 = .ok (.getfield 27, 3) := by decide +kernel
theorem dX0_whereIs_68 : decode cX0_whereIs 68 = .ok (.iload_n 1, 1) := by decide +kernel
theorem dX0_whereIs_69 : decode cX0_whereIs 69 = .ok (.iaload, 1) := by decide +kernel
theorem dX0_whereIs_70 : decode cX0_whereIs 70 = .ok (.iadd, 1) := by decide +kernel
theorem dX0_whereIs_71 : decode cX0_whereIs 71 = .ok (.iload_n 2, 1) := by decide +kernel
theorem dX0_whereIs_72 : decode cX0_whereIs 72 = .ok (.bipush 16, 2) := by decide +kernel
theorem dX0_whereIs_74 : decode cX0_whereIs 74 = .ok (.irem, 1) := by decide +kernel
theorem dX0_whereIs_75 : decode cX0_whereIs 75 = .ok (.iadd, 1) := by decide +kernel
theorem dX0_whereIs_76 : decode cX0_whereIs 76 = .ok (.ireturn, 1) := by decide +kernel
theorem dX0_whereIs_77 : decode cX0_whereIs 77 = .ok (.iconst 0, 1) := by decide +kernel
theorem dX0_whereIs_78 : decode cX0_whereIs 78 = .ok (.istore_n 3, 1) := by decide +kernel
theorem dX0_whereIs_79 : decode cX0_whereIs 79 = .ok (.iload_n 3, 1) := by decide +kernel
theorem dX0_whereIs_80 : decode cX0_whereIs 80 = .ok (.bipush 24, 2) := by decide +kernel
theorem dX0_whereIs_82 : decode cX0_whereIs 82 = .ok (.if_icmp .ge 56, 3) := by decide +kernel
theorem dX0_whereIs_85 : decode cX0_whereIs 85 = .ok (.aload_n 0, 1) := by decide +kernel
theorem dX0_whereIs_86 : decode cX0_whereIs 86 = .ok (.getfield 15, 3) := by decide +kernel
theorem dX0_whereIs_89 : decode cX0_whereIs 89 = .ok (.iload_n 3, 1) := by decide +kernel
theorem dX0_whereIs_90 : decode cX0_whereIs 90 = .ok (.iaload, 1) := by decide +kernel
theorem dX0_whereIs_91 : decode cX0_whereIs 91 = .ok (.iload_n 1, 1) := by decide +kernel
theorem dX0_whereIs_92 : decode cX0_whereIs 92 = .ok (.if_icmp .ne 40, 3) := by decide +kernel
theorem dX0_whereIs_95 : decode cX0_whereIs 95 = .ok (.aload_n 0, 1) := by decide +kernel
theorem dX0_whereIs_96 : decode cX0_whereIs 96 = .ok (.getfield 18, 3) := by decide +kernel
theorem dX0_whereIs_99 : decode cX0_whereIs 99 = .ok (.iload_n 3, 1) := by decide +kernel
theorem dX0_whereIs_100 : decode cX0_whereIs 100 = .ok (.iaload, 1) := by decide +kernel
theorem dX0_whereIs_101 : decode cX0_whereIs 101 = .ok (.iload_n 2, 1) := by decide +kernel
theorem dX0_whereIs_102 : decode cX0_whereIs 102 = .ok (.bipush 16, 2) := by decide +kernel
theorem dX0_whereIs_104 : decode cX0_whereIs 104 = .ok (.idiv, 1) := by decide +kernel
theorem dX0_whereIs_105 : decode cX0_whereIs 105 = .ok (.if_icmp .ne 27, 3) := by decide +kernel
theorem dX0_whereIs_108 : decode cX0_whereIs 108 = .ok (.aload_n 0, 1) := by decide +kernel
theorem dX0_whereIs_109 : decode cX0_whereIs 109 = .ok (.getfield 9, 3) := by decide +kernel
theorem dX0_whereIs_112 : decode cX0_whereIs 112 = .ok (.iload_n 3, 1) := by decide +kernel
theorem dX0_whereIs_113 : decode cX0_whereIs 113 = .ok (.iaload, 1) := by decide +kernel
theorem dX0_whereIs_114 : decode cX0_whereIs 114 = .ok (.iconst 3, 1) := by decide +kernel
theorem dX0_whereIs_115 : decode cX0_whereIs 115 = .ok (.if_icmp .ne 7, 3) := by decide +kernel
theorem dX0_whereIs_118 : decode cX0_whereIs 118 = .ok (.iconst (-1), 1) := by decide +kernel
theorem dX0_whereIs_119 : decode cX0_whereIs 119 = .ok (.goto 12, 3) := by decide +kernel
theorem dX0_whereIs_122 : decode cX0_whereIs 122 = .ok (.bipush 16, 2) := by decide +kernel
theorem dX0_whereIs_124 : decode cX0_whereIs 124 = .ok (.iload_n 3, 1) := by decide +kernel
theorem dX0_whereIs_125 : decode cX0_whereIs 125 = .ok (.imul, 1) := by decide +kernel
theorem dX0_whereIs_126 : decode cX0_whereIs 126 = .ok (.iload_n 2, 1) := by decide +kernel
theorem dX0_whereIs_127 : decode cX0_whereIs 127 = .ok (.bipush 16, 2) := by decide +kernel
theorem dX0_whereIs_129 : decode cX0_whereIs 129 = .ok (.irem, 1) := by decide +kernel
theorem dX0_whereIs_130 : decode cX0_whereIs 130 = .ok (.iadd, 1) := by decide +kernel
theorem dX0_whereIs_131 : decode cX0_whereIs 131 = .ok (.ireturn, 1) := by decide +kernel
theorem dX0_whereIs_132 : decode cX0_whereIs 132 = .ok (.iinc 3 1, 3) := by decide +kernel
theorem dX0_whereIs_135 : decode cX0_whereIs 135 = .ok (.goto (-56), 3) := by decide +kernel
theorem dX0_whereIs_138 : decode cX0_whereIs 138 = .ok (.iconst (-1), 1) := by decide +kernel
theorem dX0_whereIs_139 : decode cX0_whereIs 139 = .ok (.ireturn, 1) := by decide +kernel
theorem dX0_hasSomething_0 : decode cX0_hasSomething 0 = .ok (.aload_n 0, 1) := by decide +kernel
theorem dX0_hasSomething_1 : decode cX0_hasSomething 1 = .ok (.iload_n 1, 1) := by decide +kernel
theorem dX0_hasSomething_2 : decode cX0_hasSomething 2 = .ok (.invokevirtual 46, 3) := by decide +kernel
theorem dX0_hasSomething_5 : decode cX0_hasSomething 5 = .ok (.ifCond .eq 34, 3) := by decide +kernel
theorem dX0_hasSomething_8 : decode cX0_hasSomething 8 = .ok (.iload_n 2, 1) := by decide +kernel
theorem dX0_hasSomething_9 : decode cX0_hasSomething 9 = .ok (.invokestatic 54, 3) := by decide +kernel
theorem dX0_hasSomething_12 : decode cX0_hasSomething 12 = .ok (.ifCond .eq 27, 3) := by decide +kernel
theorem dX0_hasSomething_15 : decode cX0_hasSomething 15 = .ok (.aload_n 0, 1) := by decide +kernel
theorem dX0_hasSomething_16 : decode cX0_hasSomething 16 = .ok (.getfield 15, 3) := by decide +kernel
theorem dX0_hasSomething_19 : decode cX0_hasSomething 19 = .ok (.iload_n 2, 1) := by decide +kernel
theorem dX0_hasSomething_20 : decode cX0_hasSomething 20 = .ok (.iaload, 1) := by decide +kernel
theorem dX0_hasSomething_21 : decode cX0_hasSomething 21 = .ok (.iload_n 1, 1) := by decide +kernel
theorem dX0_hasSomething_22 : decode cX0_hasSomething 22 = .ok (.if_icmp .eq 13, 3) := by decide +kernel
theorem dX0_hasSomething_25 : decode cX0_hasSomething 25 = .ok (.aload_n 0, 1) := by decide +kernel
theorem dX0_hasSomething_26 : decode cX0_hasSomething 26 = .ok (.getfield 24, 3) := by decide +kernel
theorem dX0_hasSomething_29 : decode cX0_hasSomething 29 = .ok (.iload_n 1, 1) := by decide +kernel
theorem dX0_hasSomething_30 : decode cX0_hasSomething 30 = .ok (.iaload, 1) := by decide +kernel
theorem dX0_hasSomething_31 : decode cX0_hasSomething 31 = .ok (.iload_n 2, 1) := by decide +kernel
theorem dX0_hasSomething_32 : decode cX0_hasSomething 32 = .ok (.if_icmp .ne 7, 3) := by decide +kernel
theorem dX0_hasSomething_35 : decode cX0_hasSomething 35 = .ok (.iconst 1, 1) := by decide +kernel
theorem dX0_hasSomething_36 : decode cX0_hasSomething 36 = .ok (.goto 4, 3) := by decide +kernel
theorem dX0_hasSomething_39 : decode cX0_hasSomething 39 = .ok (.iconst 0, 1) := by decide +kernel
theorem dX0_hasSomething_40 : decode cX0_hasSomething 40 = .ok (.ireturn, 1) := by decide +kernel
theorem dX0_isHeld_0 : decode cX0_isHeld 0 = .ok (.iconst 0, 1) := by decide +kernel
theorem dX0_isHeld_1 : decode cX0_isHeld 1 = .ok (.istore_n 2, 1) := by decide +kernel
theorem dX0_isHeld_2 : decode cX0_isHeld 2 = .ok (.iload_n 2, 1) := by decide +kernel
theorem dX0_isHeld_3 : decode cX0_isHeld 3 = .ok (.bipush 10, 2) := by decide +kernel
theorem dX0_isHeld_5 : decode cX0_isHeld 5 = .ok (.if_icmp .ge 20, 3) := by decide +kernel
theorem dX0_isHeld_8 : decode cX0_isHeld 8 = .ok (.aload_n 0, 1) := by decide +kernel
theorem dX0_isHeld_9 : decode cX0_isHeld 9 = .ok (.iload_n 2, 1) := by decide +kernel
theorem dX0_isHeld_10 : decode cX0_isHeld 10 = .ok (.iload_n 1, 1) := by decide +kernel
theorem dX0_isHeld_11 : decode cX0_isHeld 11 = .ok (.invokevirtual 78, 3) := by decide +kernel
theorem dX0_isHeld_14 : decode cX0_isHeld 14 = .ok (.ifCond .eq 5, 3) := by decide +kernel
theorem dX0_isHeld_17 : decode cX0_isHeld 17 = .ok (.iconst 1, 1) := by decide +kernel
theorem dX0_isHeld_18 : decode cX0_isHeld 18 = .ok (.ireturn, 1) := by decide +kernel
theorem dX0_isHeld_19 : decode cX0_isHeld 19 = .ok (.iinc 2 1, 3) := by decide +kernel
theorem dX0_isHeld_22 : decode cX0_isHeld 22 = .ok (.goto (-20), 3) := by decide +kernel
theorem dX0_isHeld_25 : decode cX0_isHeld 25 = .ok (.iconst 0, 1) := by decide +kernel
theorem dX0_isHeld_26 : decode cX0_isHeld 26 = .ok (.ireturn, 1) := by decide +kernel
theorem dX0_soundFilesIn_0 : decode cX0_soundFilesIn 0 = .ok (.iconst 0, 1) := by decide +kernel
theorem dX0_soundFilesIn_1 : decode cX0_soundFilesIn 1 = .ok (.istore_n 2, 1) := by decide +kernel
theorem dX0_soundFilesIn_2 : decode cX0_soundFilesIn 2 = .ok (.iconst 0, 1) := by decide +kernel
theorem dX0_soundFilesIn_3 : decode cX0_soundFilesIn 3 = .ok (.istore_n 3, 1) := by decide +kernel
theorem dX0_soundFilesIn_4 : decode cX0_soundFilesIn 4 = .ok (.iload_n 3, 1) := by decide +kernel
theorem dX0_soundFilesIn_5 : decode cX0_soundFilesIn 5 = .ok (.bipush 10, 2) := by decide +kernel
theorem dX0_soundFilesIn_7 : decode cX0_soundFilesIn 7 = .ok (.if_icmp .ge 35, 3) := by decide +kernel
theorem dX0_soundFilesIn_10 : decode cX0_soundFilesIn 10 = .ok (.iload_n 2, 1) := by decide +kernel
theorem dX0_soundFilesIn_11 : decode cX0_soundFilesIn 11 = .ok (.aload_n 0, 1) := by decide +kernel
theorem dX0_soundFilesIn_12 : decode cX0_soundFilesIn 12 = .ok (.iload_n 3, 1) := by decide +kernel
theorem dX0_soundFilesIn_13 : decode cX0_soundFilesIn 13 = .ok (.iload_n 1, 1) := by decide +kernel
theorem dX0_soundFilesIn_14 : decode cX0_soundFilesIn 14 = .ok (.invokevirtual 78, 3) := by decide +kernel
theorem dX0_soundFilesIn_17 : decode cX0_soundFilesIn 17 = .ok (.ifCond .eq 16, 3) := by decide +kernel
theorem dX0_soundFilesIn_20 : decode cX0_soundFilesIn 20 = .ok (.aload_n 0, 1) := by decide +kernel
theorem dX0_soundFilesIn_21 : decode cX0_soundFilesIn 21 = .ok (.getfield 30, 3) := by decide +kernel
theorem dX0_soundFilesIn_24 : decode cX0_soundFilesIn 24 = .ok (.iload_n 3, 1) := by decide +kernel
theorem dX0_soundFilesIn_25 : decode cX0_soundFilesIn 25 = .ok (.iaload, 1) := by decide +kernel
theorem dX0_soundFilesIn_26 : decode cX0_soundFilesIn 26 = .ok (.ifCond .ne 7, 3) := by decide +kernel
theorem dX0_soundFilesIn_29 : decode cX0_soundFilesIn 29 = .ok (.iconst 1, 1) := by decide +kernel
theorem dX0_soundFilesIn_30 : decode cX0_soundFilesIn 30 = .ok (.goto 4, 3) := by decide +kernel
theorem dX0_soundFilesIn_33 : decode cX0_soundFilesIn 33 = .ok (.iconst 0, 1) := by decide +kernel
theorem dX0_soundFilesIn_34 : decode cX0_soundFilesIn 34 = .ok (.iadd, 1) := by decide +kernel
theorem dX0_soundFilesIn_35 : decode cX0_soundFilesIn 35 = .ok (.istore_n 2, 1) := by decide +kernel
theorem dX0_soundFilesIn_36 : decode cX0_soundFilesIn 36 = .ok (.iinc 3 1, 3) := by decide +kernel
theorem dX0_soundFilesIn_39 : decode cX0_soundFilesIn 39 = .ok (.goto (-35), 3) := by decide +kernel
theorem dX0_soundFilesIn_42 : decode cX0_soundFilesIn 42 = .ok (.iload_n 2, 1) := by decide +kernel
theorem dX0_soundFilesIn_43 : decode cX0_soundFilesIn 43 = .ok (.ireturn, 1) := by decide +kernel
theorem dX0_takenCells_0 : decode cX0_takenCells 0 = .ok (.iconst 0, 1) := by decide +kernel
theorem dX0_takenCells_1 : decode cX0_takenCells 1 = .ok (.istore_n 3, 1) := by decide +kernel
theorem dX0_takenCells_2 : decode cX0_takenCells 2 = .ok (.iconst 0, 1) := by decide +kernel
theorem dX0_takenCells_3 : decode cX0_takenCells 3 = .ok (.istore 4, 2) := by decide +kernel
theorem dX0_takenCells_5 : decode cX0_takenCells 5 = .ok (.iload 4, 2) := by decide +kernel
theorem dX0_takenCells_7 : decode cX0_takenCells 7 = .ok (.bipush 10, 2) := by decide +kernel
theorem dX0_takenCells_9 : decode cX0_takenCells 9 = .ok (.if_icmp .ge 51, 3) := by decide +kernel
theorem dX0_takenCells_12 : decode cX0_takenCells 12 = .ok (.aload_n 0, 1) := by decide +kernel
theorem dX0_takenCells_13 : decode cX0_takenCells 13 = .ok (.getfield 24, 3) := by decide +kernel
theorem dX0_takenCells_16 : decode cX0_takenCells 16 = .ok (.iload 4, 2) := by decide +kernel
theorem dX0_takenCells_18 : decode cX0_takenCells 18 = .ok (.iaload, 1) := by decide +kernel
theorem dX0_takenCells_19 : decode cX0_takenCells 19 = .ok (.iload_n 1, 1) := by decide +kernel
theorem dX0_takenCells_20 : decode cX0_takenCells 20 = .ok (.if_icmp .ne 34, 3) := by decide +kernel
theorem dX0_takenCells_23 : decode cX0_takenCells 23 = .ok (.iload 4, 2) := by decide +kernel
theorem dX0_takenCells_25 : decode cX0_takenCells 25 = .ok (.iload_n 2, 1) := by decide +kernel
theorem dX0_takenCells_26 : decode cX0_takenCells 26 = .ok (.if_icmp .eq 28, 3) := by decide +kernel
theorem dX0_takenCells_29 : decode cX0_takenCells 29 = .ok (.iload_n 3, 1) := by decide +kernel
theorem dX0_takenCells_30 : decode cX0_takenCells 30 = .ok (.iconst 1, 1) := by decide +kernel
theorem dX0_takenCells_31 : decode cX0_takenCells 31 = .ok (.aload_n 0, 1) := by decide +kernel
theorem dX0_takenCells_32 : decode cX0_takenCells 32 = .ok (.getfield 21, 3) := by decide +kernel
theorem dX0_takenCells_35 : decode cX0_takenCells 35 = .ok (.iload 4, 2) := by decide +kernel
theorem dX0_takenCells_37 : decode cX0_takenCells 37 = .ok (.iaload, 1) := by decide +kernel
theorem dX0_takenCells_38 : decode cX0_takenCells 38 = .ok (.bipush 16, 2) := by decide +kernel
theorem dX0_takenCells_40 : decode cX0_takenCells 40 = .ok (.irem, 1) := by decide +kernel
theorem dX0_takenCells_41 : decode cX0_takenCells 41 = .ok (.ishl, 1) := by decide +kernel
theorem dX0_takenCells_42 : decode cX0_takenCells 42 = .ok (.iconst 1, 1) := by decide +kernel
theorem dX0_takenCells_43 : decode cX0_takenCells 43 = .ok (.isub, 1) := by decide +kernel
theorem dX0_takenCells_44 : decode cX0_takenCells 44 = .ok (.aload_n 0, 1) := by decide +kernel
theorem dX0_takenCells_45 : decode cX0_takenCells 45 = .ok (.getfield 27, 3) := by decide +kernel
theorem dX0_takenCells_48 : decode cX0_takenCells 48 = .ok (.iload 4, 2) := by decide +kernel
theorem dX0_takenCells_50 : decode cX0_takenCells 50 = .ok (.iaload, 1) := by decide +kernel
theorem dX0_takenCells_51 : decode cX0_takenCells 51 = .ok (.ishl, 1) := by decide +kernel
theorem dX0_takenCells_52 : decode cX0_takenCells 52 = .ok (.ior, 1) := by decide +kernel
theorem dX0_takenCells_53 : decode cX0_takenCells 53 = .ok (.istore_n 3, 1) := by decide +kernel
theorem dX0_takenCells_54 : decode cX0_takenCells 54 = .ok (.iinc 4 1, 3) := by decide +kernel
theorem dX0_takenCells_57 : decode cX0_takenCells 57 = .ok (.goto (-52), 3) := by decide +kernel
theorem dX0_takenCells_60 : decode cX0_takenCells 60 = .ok (.iload_n 3, 1) := by decide +kernel
theorem dX0_takenCells_61 : decode cX0_takenCells 61 = .ok (.ireturn, 1) := by decide +kernel
theorem dX0_isTaken_0 : decode cX0_isTaken 0 = .ok (.iload_n 0, 1) := by decide +kernel
theorem dX0_isTaken_1 : decode cX0_isTaken 1 = .ok (.iload_n 1, 1) := by decide +kernel
theorem dX0_isTaken_2 : decode cX0_isTaken 2 = .ok (.ishr, 1) := by decide +kernel
theorem dX0_isTaken_3 : decode cX0_isTaken 3 = .ok (.iconst 1, 1) := by decide +kernel
theorem dX0_isTaken_4 : decode cX0_isTaken 4 = .ok (.iand, 1) := by decide +kernel
theorem dX0_isTaken_5 : decode cX0_isTaken 5 = .ok (.iconst 1, 1) := by decide +kernel
theorem dX0_isTaken_6 : decode cX0_isTaken 6 = .ok (.if_icmp .ne 7, 3) := by decide +kernel
theorem dX0_isTaken_9 : decode cX0_isTaken 9 = .ok (.iconst 1, 1) := by decide +kernel
theorem dX0_isTaken_10 : decode cX0_isTaken 10 = .ok (.goto 4, 3) := by decide +kernel
theorem dX0_isTaken_13 : decode cX0_isTaken 13 = .ok (.iconst 0, 1) := by decide +kernel
theorem dX0_isTaken_14 : decode cX0_isTaken 14 = .ok (.ireturn, 1) := by decide +kernel
theorem dX0_gapFrom_0 : decode cX0_gapFrom 0 = .ok (.iconst 0, 1) := by decide +kernel
theorem dX0_gapFrom_1 : decode cX0_gapFrom 1 = .ok (.istore_n 2, 1) := by decide +kernel
theorem dX0_gapFrom_2 : decode cX0_gapFrom 2 = .ok (.iload_n 1, 1) := by decide +kernel
theorem dX0_gapFrom_3 : decode cX0_gapFrom 3 = .ok (.iload_n 2, 1) := by decide +kernel
theorem dX0_gapFrom_4 : decode cX0_gapFrom 4 = .ok (.iadd, 1) := by decide +kernel
theorem dX0_gapFrom_5 : decode cX0_gapFrom 5 = .ok (.bipush 16, 2) := by decide +kernel
theorem dX0_gapFrom_7 : decode cX0_gapFrom 7 = .ok (.if_icmp .ge 19, 3) := by decide +kernel
theorem dX0_gapFrom_10 : decode cX0_gapFrom 10 = .ok (.iload_n 0, 1) := by decide +kernel
theorem dX0_gapFrom_11 : decode cX0_gapFrom 11 = .ok (.iload_n 1, 1) := by decide +kernel
theorem dX0_gapFrom_12 : decode cX0_gapFrom 12 = .ok (.iload_n 2, 1) := by decide +kernel
theorem dX0_gapFrom_13 : decode cX0_gapFrom 13 = .ok (.iadd, 1) := by decide +kernel
theorem dX0_gapFrom_14 : decode cX0_gapFrom 14 = .ok (.invokestatic 82, 3) := by decide +kernel
theorem dX0_gapFrom_17 : decode cX0_gapFrom 17 = .ok (.ifCond .ne 9, 3) := by decide +kernel
theorem dX0_gapFrom_20 : decode cX0_gapFrom 20 = .ok (.iinc 2 1, 3) := by decide +kernel
theorem dX0_gapFrom_23 : decode cX0_gapFrom 23 = .ok (.goto (-21), 3) := by decide +kernel
theorem dX0_gapFrom_26 : decode cX0_gapFrom 26 = .ok (.iload_n 2, 1) := by decide +kernel
theorem dX0_gapFrom_27 : decode cX0_gapFrom 27 = .ok (.ireturn, 1) := by decide +kernel
theorem dX0_longestGap_0 : decode cX0_longestGap 0 = .ok (.iconst 0, 1) := by decide +kernel
theorem dX0_longestGap_1 : decode cX0_longestGap 1 = .ok (.istore_n 1, 1) := by decide +kernel
theorem dX0_longestGap_2 : decode cX0_longestGap 2 = .ok (.iconst 0, 1) := by decide +kernel
theorem dX0_longestGap_3 : decode cX0_longestGap 3 = .ok (.istore_n 2, 1) := by decide +kernel
theorem dX0_longestGap_4 : decode cX0_longestGap 4 = .ok (.iconst 0, 1) := by decide +kernel
theorem dX0_longestGap_5 : decode cX0_longestGap 5 = .ok (.istore_n 3, 1) := by decide +kernel
theorem dX0_longestGap_6 : decode cX0_longestGap 6 = .ok (.iload_n 3, 1) := by decide +kernel
theorem dX0_longestGap_7 : decode cX0_longestGap 7 = .ok (.bipush 16, 2) := by decide +kernel
theorem dX0_longestGap_9 : decode cX0_longestGap 9 = .ok (.if_icmp .ge 31, 3) := by decide +kernel
theorem dX0_longestGap_12 : decode cX0_longestGap 12 = .ok (.iload_n 0, 1) := by decide +kernel
theorem dX0_longestGap_13 : decode cX0_longestGap 13 = .ok (.iload_n 3, 1) := by decide +kernel
theorem dX0_longestGap_14 : decode cX0_longestGap 14 = .ok (.invokestatic 82, 3) := by decide +kernel
theorem dX0_longestGap_17 : decode cX0_longestGap 17 = .ok (.ifCond .eq 7, 3) := by decide +kernel
theorem dX0_longestGap_20 : decode cX0_longestGap 20 = .ok (.iconst 0, 1) := by decide +kernel
theorem dX0_longestGap_21 : decode cX0_longestGap 21 = .ok (.goto 6, 3) := by decide +kernel
theorem dX0_longestGap_24 : decode cX0_longestGap 24 = .ok (.iload_n 2, 1) := by decide +kernel
theorem dX0_longestGap_25 : decode cX0_longestGap 25 = .ok (.iconst 1, 1) := by decide +kernel
theorem dX0_longestGap_26 : decode cX0_longestGap 26 = .ok (.iadd, 1) := by decide +kernel
theorem dX0_longestGap_27 : decode cX0_longestGap 27 = .ok (.istore_n 2, 1) := by decide +kernel
theorem dX0_longestGap_28 : decode cX0_longestGap 28 = .ok (.iload_n 1, 1) := by decide +kernel
theorem dX0_longestGap_29 : decode cX0_longestGap 29 = .ok (.iload_n 2, 1) := by decide +kernel
theorem dX0_longestGap_30 : decode cX0_longestGap 30 = .ok (.invokestatic 85, 3) := by decide +kernel
theorem dX0_longestGap_33 : decode cX0_longestGap 33 = .ok (.istore_n 1, 1) := by decide +kernel
theorem dX0_longestGap_34 : decode cX0_longestGap 34 = .ok (.iinc 3 1, 3) := by decide +kernel
theorem dX0_longestGap_37 : decode cX0_longestGap 37 = .ok (.goto (-31), 3) := by decide +kernel
theorem dX0_longestGap_40 : decode cX0_longestGap 40 = .ok (.iload_n 1, 1) := by decide +kernel
theorem dX0_longestGap_41 : decode cX0_longestGap 41 = .ok (.ireturn, 1) := by decide +kernel
theorem dX0_lowestFree_0 : decode cX0_lowestFree 0 = .ok (.iconst 0, 1) := by decide +kernel
theorem dX0_lowestFree_1 : decode cX0_lowestFree 1 = .ok (.istore_n 1, 1) := by decide +kernel
theorem dX0_lowestFree_2 : decode cX0_lowestFree 2 = .ok (.iload_n 1, 1) := by decide +kernel
theorem dX0_lowestFree_3 : decode cX0_lowestFree 3 = .ok (.bipush 24, 2) := by decide +kernel
theorem dX0_lowestFree_5 : decode cX0_lowestFree 5 = .ok (.if_icmp .ge 20, 3) := by decide +kernel
theorem dX0_lowestFree_8 : decode cX0_lowestFree 8 = .ok (.aload_n 0, 1) := by decide +kernel
theorem dX0_lowestFree_9 : decode cX0_lowestFree 9 = .ok (.getfield 9, 3) := by decide +kernel
theorem dX0_lowestFree_12 : decode cX0_lowestFree 12 = .ok (.iload_n 1, 1) := by decide +kernel
theorem dX0_lowestFree_13 : decode cX0_lowestFree 13 = .ok (.iaload, 1) := by decide +kernel
theorem dX0_lowestFree_14 : decode cX0_lowestFree 14 = .ok (.ifCond .ne 5, 3) := by decide +kernel
theorem dX0_lowestFree_17 : decode cX0_lowestFree 17 = .ok (.iload_n 1, 1) := by decide +kernel
theorem dX0_lowestFree_18 : decode cX0_lowestFree 18 = .ok (.ireturn, 1) := by decide +kernel
theorem dX0_lowestFree_19 : decode cX0_lowestFree 19 = .ok (.iinc 1 1, 3) := by decide +kernel
theorem dX0_lowestFree_22 : decode cX0_lowestFree 22 = .ok (.goto (-20), 3) := by decide +kernel
theorem dX0_lowestFree_25 : decode cX0_lowestFree 25 = .ok (.iconst (-1), 1) := by decide +kernel
theorem dX0_lowestFree_26 : decode cX0_lowestFree 26 = .ok (.ireturn, 1) := by decide +kernel
theorem dX0_placeFor_0 : decode cX0_placeFor 0 = .ok (.iconst (-1), 1) := by decide +kernel
theorem dX0_placeFor_1 : decode cX0_placeFor 1 = .ok (.istore_n 2, 1) := by decide +kernel
theorem dX0_placeFor_2 : decode cX0_placeFor 2 = .ok (.bipush 17, 2) := by decide +kernel
theorem dX0_placeFor_4 : decode cX0_placeFor 4 = .ok (.istore_n 3, 1) := by decide +kernel
theorem dX0_placeFor_5 : decode cX0_placeFor 5 = .ok (.iconst 0, 1) := by decide +kernel
theorem dX0_placeFor_6 : decode cX0_placeFor 6 = .ok (.istore 4, 2) := by decide +kernel
theorem dX0_placeFor_8 : decode cX0_placeFor 8 = .ok (.iload 4, 2) := by decide +kernel
theorem dX0_placeFor_10 : decode cX0_placeFor 10 = .ok (.bipush 24, 2) := by decide +kernel
theorem dX0_placeFor_12 : decode cX0_placeFor 12 = .ok (.if_icmp .ge 125, 3) := by decide +kernel
theorem dX0_placeFor_15 : decode cX0_placeFor 15 = .ok (.aload_n 0, 1) := by decide +kernel
theorem dX0_placeFor_16 : decode cX0_placeFor 16 = .ok (.getfield 9, 3) := by decide +kernel
theorem dX0_placeFor_19 : decode cX0_placeFor 19 = .ok (.iload 4, 2) := by decide +kernel
theorem dX0_placeFor_21 : decode cX0_placeFor 21 = .ok (.iaload, 1) := by decide +kernel
theorem dX0_placeFor_22 : decode cX0_placeFor 22 = .ok (.iconst 2, 1) := by decide +kernel
theorem dX0_placeFor_23 : decode cX0_placeFor 23 = .ok (.if_icmp .ne 13, 3) := by decide +kernel
theorem dX0_placeFor_26 : decode cX0_placeFor 26 = .ok (.aload_n 0, 1) := by decide +kernel
theorem dX0_placeFor_27 : decode cX0_placeFor 27 = .ok (.iload 4, 2) := by decide +kernel
theorem dX0_placeFor_29 : decode cX0_placeFor 29 = .ok (.iconst (-1), 1) := by decide +kernel
theorem dX0_placeFor_30 : decode cX0_placeFor 30 = .ok (.invokevirtual 63, 3) := by decide +kernel
theorem dX0_placeFor_33 : decode cX0_placeFor 33 = .ok (.goto 5, 3) := by decide +kernel
theorem dX0_placeFor_36 : decode cX0_placeFor 36 = .ok (.ldc 90, 2) := by decide +kernel
theorem dX0_placeFor_38 : decode cX0_placeFor 38 = .ok (.istore 5, 2) := by decide +kernel
theorem dX0_placeFor_40 : decode cX0_placeFor 40 = .ok (.iconst 0, 1) := by decide +kernel
theorem dX0_placeFor_41 : decode cX0_placeFor 41 = .ok (.istore 6, 2) := by decide +kernel
theorem dX0_placeFor_43 : decode cX0_placeFor 43 = .ok (.iload 6, 2) := by decide +kernel
theorem dX0_placeFor_45 : decode cX0_placeFor 45 = .ok (.bipush 16, 2) := by decide +kernel
theorem dX0_placeFor_47 : decode cX0_placeFor 47 = .ok (.if_icmp .ge 84, 3) := by decide +kernel
theorem dX0_placeFor_50 : decode cX0_placeFor 50 = .ok (.iload 6, 2) := by decide +kernel
theorem dX0_placeFor_52 : decode cX0_placeFor 52 = .ok (.ifCond .eq 15, 3) := by decide +kernel
theorem dX0_placeFor_55 : decode cX0_placeFor 55 = .ok (.iload 5, 2) := by decide +kernel
theorem dX0_placeFor_57 : decode cX0_placeFor 57 = .ok (.iload 6, 2) := by decide +kernel
theorem dX0_placeFor_59 : decode cX0_placeFor 59 = .ok (.iconst 1, 1) := by decide +kernel
theorem dX0_placeFor_60 : decode cX0_placeFor 60 = .ok (.isub, 1) := by decide +kernel
theorem dX0_placeFor_61 : decode cX0_placeFor 61 = .ok (.invokestatic 82, 3) := by decide +kernel
theorem dX0_placeFor_64 : decode cX0_placeFor 64 = .ok (.ifCond .eq 7, 3) := by decide +kernel
theorem dX0_placeFor_67 : decode cX0_placeFor 67 = .ok (.iconst 1, 1) := by decide +kernel
theorem dX0_placeFor_68 : decode cX0_placeFor 68 = .ok (.goto 4, 3) := by decide +kernel
theorem dX0_placeFor_71 : decode cX0_placeFor 71 = .ok (.iconst 0, 1) := by decide +kernel
theorem dX0_placeFor_72 : decode cX0_placeFor 72 = .ok (.istore 7, 2) := by decide +kernel
theorem dX0_placeFor_74 : decode cX0_placeFor 74 = .ok (.iload 7, 2) := by decide +kernel
theorem dX0_placeFor_76 : decode cX0_placeFor 76 = .ok (.ifCond .eq 13, 3) := by decide +kernel
theorem dX0_placeFor_79 : decode cX0_placeFor 79 = .ok (.iload 5, 2) := by decide +kernel
theorem dX0_placeFor_81 : decode cX0_placeFor 81 = .ok (.iload 6, 2) := by decide +kernel
theorem dX0_placeFor_83 : decode cX0_placeFor 83 = .ok (.invokestatic 91, 3) := by decide +kernel
theorem dX0_placeFor_86 : decode cX0_placeFor 86 = .ok (.goto 4, 3) := by decide +kernel
theorem dX0_placeFor_89 : decode cX0_placeFor 89 = .ok (.iconst 0, 1) := by decide +kernel
theorem dX0_placeFor_90 : decode cX0_placeFor 90 = .ok (.istore 8, 2) := by decide +kernel
theorem dX0_placeFor_92 : decode cX0_placeFor 92 = .ok (.iload 8, 2) := by decide +kernel
theorem dX0_placeFor_94 : decode cX0_placeFor 94 = .ok (.iload_n 1, 1) := by decide +kernel
theorem dX0_placeFor_95 : decode cX0_placeFor 95 = .ok (.if_icmp .lt 30, 3) := by decide +kernel
theorem dX0_placeFor_98 : decode cX0_placeFor 98 = .ok (.iload 8, 2) := by decide +kernel
theorem dX0_placeFor_100 : decode cX0_placeFor 100 = .ok (.iload_n 3, 1) := by decide +kernel
theorem dX0_placeFor_101 : decode cX0_placeFor 101 = .ok (.if_icmp .ge 24, 3) := by decide +kernel
theorem dX0_placeFor_104 : decode cX0_placeFor 104 = .ok (.bipush 16, 2) := by decide +kernel
theorem dX0_placeFor_106 : decode cX0_placeFor 106 = .ok (.iload 4, 2) := by decide +kernel
theorem dX0_placeFor_108 : decode cX0_placeFor 108 = .ok (.imul, 1) := by decide +kernel
theorem dX0_placeFor_109 : decode cX0_placeFor 109 = .ok (.iload 6, 2) := by decide +kernel
theorem dX0_placeFor_111 : decode cX0_placeFor 111 = .ok (.iadd, 1) := by decide +kernel
theorem dX0_placeFor_112 : decode cX0_placeFor 112 = .ok (.istore_n 2, 1) := by decide +kernel
theorem dX0_placeFor_113 : decode cX0_placeFor 113 = .ok (.iload 8, 2) := by decide +kernel
theorem dX0_placeFor_115 : decode cX0_placeFor 115 = .ok (.istore_n 3, 1) := by decide +kernel
theorem dX0_placeFor_116 : decode cX0_placeFor 116 = .ok (.aload_n 0, 1) := by decide +kernel
theorem dX0_placeFor_117 : decode cX0_placeFor 117 = .ok (.getfield 43, 3) := by decide +kernel
theorem dX0_placeFor_120 : decode cX0_placeFor 120 = .ok (.ifCond .ne 5, 3) := by decide +kernel
theorem dX0_placeFor_123 : decode cX0_placeFor 123 = .ok (.iload_n 2, 1) := by decide +kernel
theorem dX0_placeFor_124 : decode cX0_placeFor 124 = .ok (.ireturn, 1) := by decide +kernel
theorem dX0_placeFor_125 : decode cX0_placeFor 125 = .ok (.iinc 6 1, 3) := by decide +kernel
theorem dX0_placeFor_128 : decode cX0_placeFor 128 = .ok (.goto (-85), 3) := by decide +kernel
theorem dX0_placeFor_131 : decode cX0_placeFor 131 = .ok (.iinc 4 1, 3) := by decide +kernel
theorem dX0_placeFor_134 : decode cX0_placeFor 134 = .ok (.goto (-126), 3) := by decide +kernel
theorem dX0_placeFor_137 : decode cX0_placeFor 137 = .ok (.iload_n 2, 1) := by decide +kernel
theorem dX0_placeFor_138 : decode cX0_placeFor 138 = .ok (.iconst (-1), 1) := by decide +kernel
theorem dX0_placeFor_139 : decode cX0_placeFor 139 = .ok (.if_icmp .ne 10, 3) := by decide +kernel
theorem dX0_placeFor_142 : decode cX0_placeFor 142 = .ok (.aload_n 0, 1) := by decide +kernel
theorem dX0_placeFor_143 : decode cX0_placeFor 143 = .ok (.invokevirtual 94, 3) := by decide +kernel
theorem dX0_placeFor_146 : decode cX0_placeFor 146 = .ok (.goto 4, 3) := by decide +kernel
theorem dX0_placeFor_149 : decode cX0_placeFor 149 = .ok (.iconst (-1), 1) := by decide +kernel
theorem dX0_placeFor_150 : decode cX0_placeFor 150 = .ok (.istore 4, 2) := by decide +kernel
theorem dX0_placeFor_152 : decode cX0_placeFor 152 = .ok (.iload 4, 2) := by decide +kernel
theorem dX0_placeFor_154 : decode cX0_placeFor 154 = .ok (.iconst (-1), 1) := by decide +kernel
theorem dX0_placeFor_155 : decode cX0_placeFor 155 = .ok (.if_icmp .ne 7, 3) := by decide +kernel
theorem dX0_placeFor_158 : decode cX0_placeFor 158 = .ok (.iload_n 2, 1) := by decide +kernel
theorem dX0_placeFor_159 : decode cX0_placeFor 159 = .ok (.goto 8, 3) := by decide +kernel
theorem dX0_placeFor_162 : decode cX0_placeFor 162 = .ok (.bipush 16, 2) := by decide +kernel
theorem dX0_placeFor_164 : decode cX0_placeFor 164 = .ok (.iload 4, 2) := by decide +kernel
theorem dX0_placeFor_166 : decode cX0_placeFor 166 = .ok (.imul, 1) := by decide +kernel
theorem dX0_placeFor_167 : decode cX0_placeFor 167 = .ok (.ireturn, 1) := by decide +kernel
theorem dX0_isEnough_0 : decode cX0_isEnough 0 = .ok (.iconst 0, 1) := by decide +kernel
theorem dX0_isEnough_1 : decode cX0_isEnough 1 = .ok (.istore 4, 2) := by decide +kernel
theorem dX0_isEnough_3 : decode cX0_isEnough 3 = .ok (.iconst 0, 1) := by decide +kernel
theorem dX0_isEnough_4 : decode cX0_isEnough 4 = .ok (.istore 5, 2) := by decide +kernel
theorem dX0_isEnough_6 : decode cX0_isEnough 6 = .ok (.iconst 0, 1) := by decide +kernel
theorem dX0_isEnough_7 : decode cX0_isEnough 7 = .ok (.istore 6, 2) := by decide +kernel
theorem dX0_isEnough_9 : decode cX0_isEnough 9 = .ok (.iload 6, 2) := by decide +kernel
theorem dX0_isEnough_11 : decode cX0_isEnough 11 = .ok (.bipush 24, 2) := by decide +kernel
theorem dX0_isEnough_13 : decode cX0_isEnough 13 = .ok (.if_icmp .ge 77, 3) := by decide +kernel
theorem dX0_isEnough_16 : decode cX0_isEnough 16 = .ok (.aload_n 0, 1) := by decide +kernel
theorem dX0_isEnough_17 : decode cX0_isEnough 17 = .ok (.getfield 9, 3) := by decide +kernel
theorem dX0_isEnough_20 : decode cX0_isEnough 20 = .ok (.iload 6, 2) := by decide +kernel
theorem dX0_isEnough_22 : decode cX0_isEnough 22 = .ok (.iaload, 1) := by decide +kernel
theorem dX0_isEnough_23 : decode cX0_isEnough 23 = .ok (.iconst 2, 1) := by decide +kernel
theorem dX0_isEnough_24 : decode cX0_isEnough 24 = .ok (.if_icmp .ne 13, 3) := by decide +kernel
theorem dX0_isEnough_27 : decode cX0_isEnough 27 = .ok (.aload_n 0, 1) := by decide +kernel
theorem dX0_isEnough_28 : decode cX0_isEnough 28 = .ok (.iload 6, 2) := by decide +kernel
theorem dX0_isEnough_30 : decode cX0_isEnough 30 = .ok (.iload_n 3, 1) := by decide +kernel
theorem dX0_isEnough_31 : decode cX0_isEnough 31 = .ok (.invokevirtual 63, 3) := by decide +kernel
theorem dX0_isEnough_34 : decode cX0_isEnough 34 = .ok (.goto 4, 3) := by decide +kernel
theorem dX0_isEnough_37 : decode cX0_isEnough 37 = .ok (.iconst 0, 1) := by decide +kernel
theorem dX0_isEnough_38 : decode cX0_isEnough 38 = .ok (.istore 7, 2) := by decide +kernel
theorem dX0_isEnough_40 : decode cX0_isEnough 40 = .ok (.iload 7, 2) := by decide +kernel
theorem dX0_isEnough_42 : decode cX0_isEnough 42 = .ok (.ifCond .eq 18, 3) := by decide +kernel
theorem dX0_isEnough_45 : decode cX0_isEnough 45 = .ok (.iload 5, 2) := by decide +kernel
theorem dX0_isEnough_47 : decode cX0_isEnough 47 = .ok (.iload 7, 2) := by decide +kernel
theorem dX0_isEnough_49 : decode cX0_isEnough 49 = .ok (.invokestatic 67, 3) := by decide +kernel
theorem dX0_isEnough_52 : decode cX0_isEnough 52 = .ok (.invokestatic 85, 3) := by decide +kernel
theorem dX0_isEnough_55 : decode cX0_isEnough 55 = .ok (.istore 5, 2) := by decide +kernel
theorem dX0_isEnough_57 : decode cX0_isEnough 57 = .ok (.goto 27, 3) := by decide +kernel
theorem dX0_isEnough_60 : decode cX0_isEnough 60 = .ok (.aload_n 0, 1) := by decide +kernel
theorem dX0_isEnough_61 : decode cX0_isEnough 61 = .ok (.getfield 9, 3) := by decide +kernel
theorem dX0_isEnough_64 : decode cX0_isEnough 64 = .ok (.iload 6, 2) := by decide +kernel
theorem dX0_isEnough_66 : decode cX0_isEnough 66 = .ok (.iaload, 1) := by decide +kernel
theorem dX0_isEnough_67 : decode cX0_isEnough 67 = .ok (.ifCond .eq 14, 3) := by decide +kernel
theorem dX0_isEnough_70 : decode cX0_isEnough 70 = .ok (.aload_n 0, 1) := by decide +kernel
theorem dX0_isEnough_71 : decode cX0_isEnough 71 = .ok (.getfield 9, 3) := by decide +kernel
theorem dX0_isEnough_74 : decode cX0_isEnough 74 = .ok (.iload 6, 2) := by decide +kernel
theorem dX0_isEnough_76 : decode cX0_isEnough 76 = .ok (.iaload, 1) := by decide +kernel
theorem dX0_isEnough_77 : decode cX0_isEnough 77 = .ok (.iconst 2, 1) := by decide +kernel
theorem dX0_isEnough_78 : decode cX0_isEnough 78 = .ok (.if_icmp .ne 6, 3) := by decide +kernel
theorem dX0_isEnough_81 : decode cX0_isEnough 81 = .ok (.iinc 4 1, 3) := by decide +kernel
theorem dX0_isEnough_84 : decode cX0_isEnough 84 = .ok (.iinc 6 1, 3) := by decide +kernel
theorem dX0_isEnough_87 : decode cX0_isEnough 87 = .ok (.goto (-78), 3) := by decide +kernel
theorem dX0_isEnough_90 : decode cX0_isEnough 90 = .ok (.iload 4, 2) := by decide +kernel
theorem dX0_isEnough_92 : decode cX0_isEnough 92 = .ok (.iload_n 1, 1) := by decide +kernel
theorem dX0_isEnough_93 : decode cX0_isEnough 93 = .ok (.if_icmp .gt 15, 3) := by decide +kernel
theorem dX0_isEnough_96 : decode cX0_isEnough 96 = .ok (.iload 4, 2) := by decide +kernel
theorem dX0_isEnough_98 : decode cX0_isEnough 98 = .ok (.iload_n 1, 1) := by decide +kernel
theorem dX0_isEnough_99 : decode cX0_isEnough 99 = .ok (.if_icmp .ne 13, 3) := by decide +kernel
theorem dX0_isEnough_102 : decode cX0_isEnough 102 = .ok (.iload_n 2, 1) := by decide +kernel
theorem dX0_isEnough_103 : decode cX0_isEnough 103 = .ok (.iload 5, 2) := by decide +kernel
theorem dX0_isEnough_105 : decode cX0_isEnough 105 = .ok (.if_icmp .gt 7, 3) := by decide +kernel
theorem dX0_isEnough_108 : decode cX0_isEnough 108 = .ok (.iconst 1, 1) := by decide +kernel
theorem dX0_isEnough_109 : decode cX0_isEnough 109 = .ok (.goto 4, 3) := by decide +kernel
theorem dX0_isEnough_112 : decode cX0_isEnough 112 = .ok (.iconst 0, 1) := by decide +kernel
theorem dX0_isEnough_113 : decode cX0_isEnough 113 = .ok (.ireturn, 1) := by decide +kernel
theorem dX0_hasRoomFor_0 : decode cX0_hasRoomFor 0 = .ok (.aload_n 0, 1) := by decide +kernel
theorem dX0_hasRoomFor_1 : decode cX0_hasRoomFor 1 = .ok (.invokevirtual 98, 3) := by decide +kernel
theorem dX0_hasRoomFor_4 : decode cX0_hasRoomFor 4 = .ok (.iconst (-1), 1) := by decide +kernel
theorem dX0_hasRoomFor_5 : decode cX0_hasRoomFor 5 = .ok (.if_icmp .eq 23, 3) := by decide +kernel
theorem dX0_hasRoomFor_8 : decode cX0_hasRoomFor 8 = .ok (.aload_n 0, 1) := by decide +kernel
theorem dX0_hasRoomFor_9 : decode cX0_hasRoomFor 9 = .ok (.iload_n 1, 1) := by decide +kernel
theorem dX0_hasRoomFor_10 : decode cX0_hasRoomFor 10 = .ok (.bipush 16, 2) := by decide +kernel
theorem dX0_hasRoomFor_12 : decode cX0_hasRoomFor 12 = .ok (.idiv, 1) := by decide +kernel
theorem dX0_hasRoomFor_13 : decode cX0_hasRoomFor 13 = .ok (.iload_n 1, 1) := by decide +kernel
theorem dX0_hasRoomFor_14 : decode cX0_hasRoomFor 14 = .ok (.bipush 16, 2) := by decide +kernel
theorem dX0_hasRoomFor_16 : decode cX0_hasRoomFor 16 = .ok (.irem, 1) := by decide +kernel
theorem dX0_hasRoomFor_17 : decode cX0_hasRoomFor 17 = .ok (.iconst (-1), 1) := by decide +kernel
theorem dX0_hasRoomFor_18 : decode cX0_hasRoomFor 18 = .ok (.invokevirtual 101, 3) := by decide +kernel
theorem dX0_hasRoomFor_21 : decode cX0_hasRoomFor 21 = .ok (.ifCond .eq 7, 3) := by decide +kernel
theorem dX0_hasRoomFor_24 : decode cX0_hasRoomFor 24 = .ok (.iconst 1, 1) := by decide +kernel
theorem dX0_hasRoomFor_25 : decode cX0_hasRoomFor 25 = .ok (.goto 4, 3) := by decide +kernel
theorem dX0_hasRoomFor_28 : decode cX0_hasRoomFor 28 = .ok (.iconst 0, 1) := by decide +kernel
theorem dX0_hasRoomFor_29 : decode cX0_hasRoomFor 29 = .ok (.ireturn, 1) := by decide +kernel
theorem dX0_lowestNumber_0 : decode cX0_lowestNumber 0 = .ok (.iconst 0, 1) := by decide +kernel
theorem dX0_lowestNumber_1 : decode cX0_lowestNumber 1 = .ok (.istore_n 1, 1) := by decide +kernel
theorem dX0_lowestNumber_2 : decode cX0_lowestNumber 2 = .ok (.iload_n 1, 1) := by decide +kernel
theorem dX0_lowestNumber_3 : decode cX0_lowestNumber 3 = .ok (.bipush 10, 2) := by decide +kernel
theorem dX0_lowestNumber_5 : decode cX0_lowestNumber 5 = .ok (.if_icmp .ge 21, 3) := by decide +kernel
theorem dX0_lowestNumber_8 : decode cX0_lowestNumber 8 = .ok (.aload_n 0, 1) := by decide +kernel
theorem dX0_lowestNumber_9 : decode cX0_lowestNumber 9 = .ok (.getfield 21, 3) := by decide +kernel
theorem dX0_lowestNumber_12 : decode cX0_lowestNumber 12 = .ok (.iload_n 1, 1) := by decide +kernel
theorem dX0_lowestNumber_13 : decode cX0_lowestNumber 13 = .ok (.iaload, 1) := by decide +kernel
theorem dX0_lowestNumber_14 : decode cX0_lowestNumber 14 = .ok (.iconst (-1), 1) := by decide +kernel
theorem dX0_lowestNumber_15 : decode cX0_lowestNumber 15 = .ok (.if_icmp .ne 5, 3) := by decide +kernel
theorem dX0_lowestNumber_18 : decode cX0_lowestNumber 18 = .ok (.iload_n 1, 1) := by decide +kernel
theorem dX0_lowestNumber_19 : decode cX0_lowestNumber 19 = .ok (.ireturn, 1) := by decide +kernel
theorem dX0_lowestNumber_20 : decode cX0_lowestNumber 20 = .ok (.iinc 1 1, 3) := by decide +kernel
theorem dX0_lowestNumber_23 : decode cX0_lowestNumber 23 = .ok (.goto (-21), 3) := by decide +kernel
theorem dX0_lowestNumber_26 : decode cX0_lowestNumber 26 = .ok (.iconst (-1), 1) := by decide +kernel
theorem dX0_lowestNumber_27 : decode cX0_lowestNumber 27 = .ok (.ireturn, 1) := by decide +kernel
theorem dX0_growthOf_0 : decode cX0_growthOf 0 = .ok (.aload_n 0, 1) := by decide +kernel
theorem dX0_growthOf_1 : decode cX0_growthOf 1 = .ok (.iload_n 1, 1) := by decide +kernel
theorem dX0_growthOf_2 : decode cX0_growthOf 2 = .ok (.invokevirtual 46, 3) := by decide +kernel
theorem dX0_growthOf_5 : decode cX0_growthOf 5 = .ok (.ifCond .eq 27, 3) := by decide +kernel
theorem dX0_growthOf_8 : decode cX0_growthOf 8 = .ok (.aload_n 0, 1) := by decide +kernel
theorem dX0_growthOf_9 : decode cX0_growthOf 9 = .ok (.getfield 30, 3) := by decide +kernel
theorem dX0_growthOf_12 : decode cX0_growthOf 12 = .ok (.iload_n 1, 1) := by decide +kernel
theorem dX0_growthOf_13 : decode cX0_growthOf 13 = .ok (.iaload, 1) := by decide +kernel
theorem dX0_growthOf_14 : decode cX0_growthOf 14 = .ok (.iconst 1, 1) := by decide +kernel
theorem dX0_growthOf_15 : decode cX0_growthOf 15 = .ok (.if_icmp .eq 17, 3) := by decide +kernel
theorem dX0_growthOf_18 : decode cX0_growthOf 18 = .ok (.aload_n 0, 1) := by decide +kernel
theorem dX0_growthOf_19 : decode cX0_growthOf 19 = .ok (.getfield 21, 3) := by decide +kernel
theorem dX0_growthOf_22 : decode cX0_growthOf 22 = .ok (.iload_n 1, 1) := by decide +kernel
theorem dX0_growthOf_23 : decode cX0_growthOf 23 = .ok (.iaload, 1) := by decide +kernel
theorem dX0_growthOf_24 : decode cX0_growthOf 24 = .ok (.iload_n 2, 1) := by decide +kernel
theorem dX0_growthOf_25 : decode cX0_growthOf 25 = .ok (.iadd, 1) := by decide +kernel
theorem dX0_growthOf_26 : decode cX0_growthOf 26 = .ok (.sipush 200, 3) := by decide +kernel
theorem dX0_growthOf_29 : decode cX0_growthOf 29 = .ok (.if_icmp .le 5, 3) := by decide +kernel
theorem dX0_growthOf_32 : decode cX0_growthOf 32 = .ok (.iconst (-1), 1) := by decide +kernel
theorem dX0_growthOf_33 : decode cX0_growthOf 33 = .ok (.ireturn, 1) := by decide +kernel
theorem dX0_growthOf_34 : decode cX0_growthOf 34 = .ok (.aload_n 0, 1) := by decide +kernel
theorem dX0_growthOf_35 : decode cX0_growthOf 35 = .ok (.getfield 21, 3) := by decide +kernel
theorem dX0_growthOf_38 : decode cX0_growthOf 38 = .ok (.iload_n 1, 1) := by decide +kernel
theorem dX0_growthOf_39 : decode cX0_growthOf 39 = .ok (.iaload, 1) := by decide +kernel
theorem dX0_growthOf_40 : decode cX0_growthOf 40 = .ok (.iload_n 2, 1) := by decide +kernel
theorem dX0_growthOf_41 : decode cX0_growthOf 41 = .ok (.iadd, 1) := by decide +kernel
theorem dX0_growthOf_42 : decode cX0_growthOf 42 = .ok (.istore_n 3, 1) := by decide +kernel
theorem dX0_growthOf_43 : decode cX0_growthOf 43 = .ok (.iload_n 3, 1) := by decide +kernel
theorem dX0_growthOf_44 : decode cX0_growthOf 44 = .ok (.bipush 16, 2) := by decide +kernel
theorem dX0_growthOf_46 : decode cX0_growthOf 46 = .ok (.idiv, 1) := by decide +kernel
theorem dX0_growthOf_47 : decode cX0_growthOf 47 = .ok (.aload_n 0, 1) := by decide +kernel
theorem dX0_growthOf_48 : decode cX0_growthOf 48 = .ok (.getfield 21, 3) := by decide +kernel
theorem dX0_growthOf_51 : decode cX0_growthOf 51 = .ok (.iload_n 1, 1) := by decide +kernel
theorem dX0_growthOf_52 : decode cX0_growthOf 52 = .ok (.iaload, 1) := by decide +kernel
theorem dX0_growthOf_53 : decode cX0_growthOf 53 = .ok (.bipush 16, 2) := by decide +kernel
theorem dX0_growthOf_55 : decode cX0_growthOf 55 = .ok (.idiv, 1) := by decide +kernel
theorem dX0_growthOf_56 : decode cX0_growthOf 56 = .ok (.isub, 1) := by decide +kernel
theorem dX0_growthOf_57 : decode cX0_growthOf 57 = .ok (.istore 4, 2) := by decide +kernel
theorem dX0_growthOf_59 : decode cX0_growthOf 59 = .ok (.iload 4, 2) := by decide +kernel
theorem dX0_growthOf_61 : decode cX0_growthOf 61 = .ok (.ifCond .ne 14, 3) := by decide +kernel
theorem dX0_growthOf_64 : decode cX0_growthOf 64 = .ok (.aload_n 0, 1) := by decide +kernel
theorem dX0_growthOf_65 : decode cX0_growthOf 65 = .ok (.iload_n 1, 1) := by decide +kernel
theorem dX0_growthOf_66 : decode cX0_growthOf 66 = .ok (.invokevirtual 105, 3) := by decide +kernel
theorem dX0_growthOf_69 : decode cX0_growthOf 69 = .ok (.iload_n 2, 1) := by decide +kernel
theorem dX0_growthOf_70 : decode cX0_growthOf 70 = .ok (.if_icmp .lt 5, 3) := by decide +kernel
theorem dX0_growthOf_73 : decode cX0_growthOf 73 = .ok (.iconst 0, 1) := by decide +kernel
theorem dX0_growthOf_74 : decode cX0_growthOf 74 = .ok (.ireturn, 1) := by decide +kernel
theorem dX0_growthOf_75 : decode cX0_growthOf 75 = .ok (.aload_n 0, 1) := by decide +kernel
theorem dX0_growthOf_76 : decode cX0_growthOf 76 = .ok (.iload 4, 2) := by decide +kernel
theorem dX0_growthOf_78 : decode cX0_growthOf 78 = .ok (.iload_n 3, 1) := by decide +kernel
theorem dX0_growthOf_79 : decode cX0_growthOf 79 = .ok (.bipush 16, 2) := by decide +kernel
theorem dX0_growthOf_81 : decode cX0_growthOf 81 = .ok (.irem, 1) := by decide +kernel
theorem dX0_growthOf_82 : decode cX0_growthOf 82 = .ok (.iload_n 1, 1) := by decide +kernel
theorem dX0_growthOf_83 : decode cX0_growthOf 83 = .ok (.invokevirtual 101, 3) := by decide +kernel
theorem dX0_growthOf_86 : decode cX0_growthOf 86 = .ok (.ifCond .eq 7, 3) := by decide +kernel
theorem dX0_growthOf_89 : decode cX0_growthOf 89 = .ok (.iconst 1, 1) := by decide +kernel
theorem dX0_growthOf_90 : decode cX0_growthOf 90 = .ok (.goto 4, 3) := by decide +kernel
theorem dX0_growthOf_93 : decode cX0_growthOf 93 = .ok (.iconst (-1), 1) := by decide +kernel
theorem dX0_growthOf_94 : decode cX0_growthOf 94 = .ok (.ireturn, 1) := by decide +kernel
theorem dX0_cellsBehindTail_0 : decode cX0_cellsBehindTail 0 = .ok (.aload_n 0, 1) := by decide +kernel
theorem dX0_cellsBehindTail_1 : decode cX0_cellsBehindTail 1 = .ok (.iload_n 1, 1) := by decide +kernel
theorem dX0_cellsBehindTail_2 : decode cX0_cellsBehindTail 2 = .ok (.invokevirtual 46, 3) := by decide +kernel
theorem dX0_cellsBehindTail_5 : decode cX0_cellsBehindTail 5 = .ok (.ifCond .eq 13, 3) := by decide +kernel
theorem dX0_cellsBehindTail_8 : decode cX0_cellsBehindTail 8 = .ok (.aload_n 0, 1) := by decide +kernel
theorem dX0_cellsBehindTail_9 : decode cX0_cellsBehindTail 9 = .ok (.getfield 24, 3) := by decide +kernel
theorem dX0_cellsBehindTail_12 : decode cX0_cellsBehindTail 12 = .ok (.iload_n 1, 1) := by decide +kernel
theorem dX0_cellsBehindTail_13 : decode cX0_cellsBehindTail 13 = .ok (.iaload, 1) := by decide +kernel
theorem dX0_cellsBehindTail_14 : decode cX0_cellsBehindTail 14 = .ok (.iconst (-1), 1) := by decide +kernel
theorem dX0_cellsBehindTail_15 : decode cX0_cellsBehindTail 15 = .ok (.if_icmp .ne 5, 3) := by decide +kernel
theorem dX0_cellsBehindTail_18 : decode cX0_cellsBehindTail 18 = .ok (.iconst 0, 1) := by decide +kernel
theorem dX0_cellsBehindTail_19 : decode cX0_cellsBehindTail 19 = .ok (.ireturn, 1) := by decide +kernel
theorem dX0_cellsBehindTail_20 : decode cX0_cellsBehindTail 20 = .ok (.aload_n 0, 1) := by decide +kernel
theorem dX0_cellsBehindTail_21 : decode cX0_cellsBehindTail 21 = .ok (.aload_n 0, 1) := by decide +kernel
theorem dX0_cellsBehindTail_22 : decode cX0_cellsBehindTail 22 = .ok (.getfield 24, 3) := by decide +kernel
theorem dX0_cellsBehindTail_25 : decode cX0_cellsBehindTail 25 = .ok (.iload_n 1, 1) := by decide +kernel
theorem dX0_cellsBehindTail_26 : decode cX0_cellsBehindTail 26 = .ok (.iaload, 1) := by decide +kernel
theorem dX0_cellsBehindTail_27 : decode cX0_cellsBehindTail 27 = .ok (.iconst (-1), 1) := by decide +kernel
theorem dX0_cellsBehindTail_28 : decode cX0_cellsBehindTail 28 = .ok (.invokevirtual 63, 3) := by decide +kernel
theorem dX0_cellsBehindTail_31 : decode cX0_cellsBehindTail 31 = .ok (.istore_n 2, 1) := by decide +kernel
theorem dX0_cellsBehindTail_32 : decode cX0_cellsBehindTail 32 = .ok (.iload_n 2, 1) := by decide +kernel
theorem dX0_cellsBehindTail_33 : decode cX0_cellsBehindTail 33 = .ok (.aload_n 0, 1) := by decide +kernel
theorem dX0_cellsBehindTail_34 : decode cX0_cellsBehindTail 34 = .ok (.getfield 27, 3) := by decide +kernel
theorem dX0_cellsBehindTail_37 : decode cX0_cellsBehindTail 37 = .ok (.iload_n 1, 1) := by decide +kernel
theorem dX0_cellsBehindTail_38 : decode cX0_cellsBehindTail 38 = .ok (.iaload, 1) := by decide +kernel
theorem dX0_cellsBehindTail_39 : decode cX0_cellsBehindTail 39 = .ok (.aload_n 0, 1) := by decide +kernel
theorem dX0_cellsBehindTail_40 : decode cX0_cellsBehindTail 40 = .ok (.getfield 21, 3) := by decide +kernel
theorem dX0_cellsBehindTail_43 : decode cX0_cellsBehindTail 43 = .ok (.iload_n 1, 1) := by decide +kernel
theorem dX0_cellsBehindTail_44 : decode cX0_cellsBehindTail 44 = .ok (.iaload, 1) := by decide +kernel
theorem dX0_cellsBehindTail_45 : decode cX0_cellsBehindTail 45 = .ok (.bipush 16, 2) := by decide +kernel
theorem dX0_cellsBehindTail_47 : decode cX0_cellsBehindTail 47 = .ok (.irem, 1) := by decide +kernel
theorem dX0_cellsBehindTail_48 : decode cX0_cellsBehindTail 48 = .ok (.iadd, 1) := by decide +kernel
theorem dX0_cellsBehindTail_49 : decode cX0_cellsBehindTail 49 = .ok (.invokestatic 91, 3) := by decide +kernel
theorem dX0_cellsBehindTail_52 : decode cX0_cellsBehindTail 52 = .ok (.ireturn, 1) := by decide +kernel
theorem dX0_addFile_0 : decode cX0_addFile 0 = .ok (.aload_n 0, 1) := by decide +kernel
theorem dX0_addFile_1 : decode cX0_addFile 1 = .ok (.iload_n 1, 1) := by decide +kernel
theorem dX0_addFile_2 : decode cX0_addFile 2 = .ok (.invokevirtual 108, 3) := by decide +kernel
theorem dX0_addFile_5 : decode cX0_addFile 5 = .ok (.ifCond .ne 15, 3) := by decide +kernel
theorem dX0_addFile_8 : decode cX0_addFile 8 = .ok (.aload_n 0, 1) := by decide +kernel
theorem dX0_addFile_9 : decode cX0_addFile 9 = .ok (.dup, 1) := by decide +kernel
theorem dX0_addFile_10 : decode cX0_addFile 10 = .ok (.getfield 36, 3) := by decide +kernel
theorem dX0_addFile_13 : decode cX0_addFile 13 = .ok (.iconst 1, 1) := by decide +kernel
theorem dX0_addFile_14 : decode cX0_addFile 14 = .ok (.iadd, 1) := by decide +kernel
theorem dX0_addFile_15 : decode cX0_addFile 15 = .ok (.putfield 36, 3) := by decide +kernel
theorem dX0_addFile_18 : decode cX0_addFile 18 = .ok (.iconst (-1), 1) := by decide +kernel
theorem dX0_addFile_19 : decode cX0_addFile 19 = .ok (.ireturn, 1) := by decide +kernel
theorem dX0_addFile_20 : decode cX0_addFile 20 = .ok (.aload_n 0, 1) := by decide +kernel
theorem dX0_addFile_21 : decode cX0_addFile 21 = .ok (.invokevirtual 98, 3) := by decide +kernel
theorem dX0_addFile_24 : decode cX0_addFile 24 = .ok (.istore_n 2, 1) := by decide +kernel
theorem dX0_addFile_25 : decode cX0_addFile 25 = .ok (.iload_n 2, 1) := by decide +kernel
theorem dX0_addFile_26 : decode cX0_addFile 26 = .ok (.iconst (-1), 1) := by decide +kernel
theorem dX0_addFile_27 : decode cX0_addFile 27 = .ok (.if_icmp .eq 16, 3) := by decide +kernel
theorem dX0_addFile_30 : decode cX0_addFile 30 = .ok (.aload_n 0, 1) := by decide +kernel
theorem dX0_addFile_31 : decode cX0_addFile 31 = .ok (.getfield 21, 3) := by decide +kernel
theorem dX0_addFile_34 : decode cX0_addFile 34 = .ok (.iload_n 2, 1) := by decide +kernel
theorem dX0_addFile_35 : decode cX0_addFile 35 = .ok (.iconst 0, 1) := by decide +kernel
theorem dX0_addFile_36 : decode cX0_addFile 36 = .ok (.iastore, 1) := by decide +kernel
theorem dX0_addFile_37 : decode cX0_addFile 37 = .ok (.aload_n 0, 1) := by decide +kernel
theorem dX0_addFile_38 : decode cX0_addFile 38 = .ok (.iload_n 2, 1) := by decide +kernel
theorem dX0_addFile_39 : decode cX0_addFile 39 = .ok (.iload_n 1, 1) := by decide +kernel
theorem dX0_addFile_40 : decode cX0_addFile 40 = .ok (.invokevirtual 111, 3) := by decide +kernel
theorem dX0_addFile_43 : decode cX0_addFile 43 = .ok (.iload_n 2, 1) := by decide +kernel
theorem dX0_addFile_44 : decode cX0_addFile 44 = .ok (.ireturn, 1) := by decide +kernel
theorem dX0_extend_0 : decode cX0_extend 0 = .ok (.aload_n 0, 1) := by decide +kernel
theorem dX0_extend_1 : decode cX0_extend 1 = .ok (.iload_n 1, 1) := by decide +kernel
theorem dX0_extend_2 : decode cX0_extend 2 = .ok (.iload_n 2, 1) := by decide +kernel
theorem dX0_extend_3 : decode cX0_extend 3 = .ok (.invokevirtual 115, 3) := by decide +kernel
theorem dX0_extend_6 : decode cX0_extend 6 = .ok (.istore_n 3, 1) := by decide +kernel
theorem dX0_extend_7 : decode cX0_extend 7 = .ok (.iload_n 3, 1) := by decide +kernel
theorem dX0_extend_8 : decode cX0_extend 8 = .ok (.iconst (-1), 1) := by decide +kernel
theorem dX0_extend_9 : decode cX0_extend 9 = .ok (.if_icmp .eq 11, 3) := by decide +kernel
theorem dX0_extend_12 : decode cX0_extend 12 = .ok (.aload_n 0, 1) := by decide +kernel
theorem dX0_extend_13 : decode cX0_extend 13 = .ok (.iload_n 1, 1) := by decide +kernel
theorem dX0_extend_14 : decode cX0_extend 14 = .ok (.invokevirtual 46, 3) := by decide +kernel
theorem dX0_extend_17 : decode cX0_extend 17 = .ok (.ifCond .ne 16, 3) := by decide +kernel
theorem dX0_extend_20 : decode cX0_extend 20 = .ok (.aload_n 0, 1) := by decide +kernel
theorem dX0_extend_21 : decode cX0_extend 21 = .ok (.dup, 1) := by decide +kernel
theorem dX0_extend_22 : decode cX0_extend 22 = .ok (.getfield 36, 3) := by decide +kernel
theorem dX0_extend_25 : decode cX0_extend 25 = .ok (.iconst 1, 1) := by decide +kernel
theorem dX0_extend_26 : decode cX0_extend 26 = .ok (.iadd, 1) := by decide +kernel
theorem dX0_extend_27 : decode cX0_extend 27 = .ok (.putfield 36, 3) := by decide +kernel
theorem dX0_extend_30 : decode cX0_extend 30 = .ok (.goto 33, 3) := by decide +kernel
theorem dX0_extend_33 : decode cX0_extend 33 = .ok (.iload_n 3, 1) := by decide +kernel
theorem dX0_extend_34 : decode cX0_extend 34 = .ok (.ifCond .ne 16, 3) := by decide +kernel
theorem dX0_extend_37 : decode cX0_extend 37 = .ok (.aload_n 0, 1) := by decide +kernel
theorem dX0_extend_38 : decode cX0_extend 38 = .ok (.getfield 21, 3) := by decide +kernel
theorem dX0_extend_41 : decode cX0_extend 41 = .ok (.iload_n 1, 1) := by decide +kernel
theorem dX0_extend_42 : decode cX0_extend 42 = .ok (.dup2, 1) := by decide +kernel
theorem dX0_extend_43 : decode cX0_extend 43 = .ok (.iaload, 1) := by decide +kernel
theorem dX0_extend_44 : decode cX0_extend 44 = .ok (.iload_n 2, 1) := by decide +kernel
theorem dX0_extend_45 : decode cX0_extend 45 = .ok (.iadd, 1) := by decide +kernel
theorem dX0_extend_46 : decode cX0_extend 46 = .ok (.iastore, 1) := by decide +kernel
theorem dX0_extend_47 : decode cX0_extend 47 = .ok (.goto 16, 3) := by decide +kernel
theorem dX0_extend_50 : decode cX0_extend 50 = .ok (.aload_n 0, 1) := by decide +kernel
theorem dX0_extend_51 : decode cX0_extend 51 = .ok (.iload_n 1, 1) := by decide +kernel
theorem dX0_extend_52 : decode cX0_extend 52 = .ok (.aload_n 0, 1) := by decide +kernel
theorem dX0_extend_53 : decode cX0_extend 53 = .ok (.getfield 21, 3) := by decide +kernel
theorem dX0_extend_56 : decode cX0_extend 56 = .ok (.iload_n 1, 1) := by decide +kernel
theorem dX0_extend_57 : decode cX0_extend 57 = .ok (.iaload, 1) := by decide +kernel
theorem dX0_extend_58 : decode cX0_extend 58 = .ok (.iload_n 2, 1) := by decide +kernel
theorem dX0_extend_59 : decode cX0_extend 59 = .ok (.iadd, 1) := by decide +kernel
theorem dX0_extend_60 : decode cX0_extend 60 = .ok (.invokevirtual 111, 3) := by decide +kernel
theorem dX0_extend_63 : decode cX0_extend 63 = .ok (.iload_n 3, 1) := by decide +kernel
theorem dX0_extend_64 : decode cX0_extend 64 = .ok (.ireturn, 1) := by decide +kernel
theorem dX0_shorten_0 : decode cX0_shorten 0 = .ok (.aload_n 0, 1) := by decide +kernel
theorem dX0_shorten_1 : decode cX0_shorten 1 = .ok (.iload_n 1, 1) := by decide +kernel
theorem dX0_shorten_2 : decode cX0_shorten 2 = .ok (.invokevirtual 46, 3) := by decide +kernel
theorem dX0_shorten_5 : decode cX0_shorten 5 = .ok (.ifCond .eq 23, 3) := by decide +kernel
theorem dX0_shorten_8 : decode cX0_shorten 8 = .ok (.aload_n 0, 1) := by decide +kernel
theorem dX0_shorten_9 : decode cX0_shorten 9 = .ok (.getfield 30, 3) := by decide +kernel
theorem dX0_shorten_12 : decode cX0_shorten 12 = .ok (.iload_n 1, 1) := by decide +kernel
theorem dX0_shorten_13 : decode cX0_shorten 13 = .ok (.iaload, 1) := by decide +kernel
theorem dX0_shorten_14 : decode cX0_shorten 14 = .ok (.iconst 1, 1) := by decide +kernel
theorem dX0_shorten_15 : decode cX0_shorten 15 = .ok (.if_icmp .eq 13, 3) := by decide +kernel
theorem dX0_shorten_18 : decode cX0_shorten 18 = .ok (.aload_n 0, 1) := by decide +kernel
theorem dX0_shorten_19 : decode cX0_shorten 19 = .ok (.getfield 21, 3) := by decide +kernel
theorem dX0_shorten_22 : decode cX0_shorten 22 = .ok (.iload_n 1, 1) := by decide +kernel
theorem dX0_shorten_23 : decode cX0_shorten 23 = .ok (.iaload, 1) := by decide +kernel
theorem dX0_shorten_24 : decode cX0_shorten 24 = .ok (.iload_n 2, 1) := by decide +kernel
theorem dX0_shorten_25 : decode cX0_shorten 25 = .ok (.if_icmp .ge 15, 3) := by decide +kernel
theorem dX0_shorten_28 : decode cX0_shorten 28 = .ok (.aload_n 0, 1) := by decide +kernel
theorem dX0_shorten_29 : decode cX0_shorten 29 = .ok (.dup, 1) := by decide +kernel
theorem dX0_shorten_30 : decode cX0_shorten 30 = .ok (.getfield 36, 3) := by decide +kernel
theorem dX0_shorten_33 : decode cX0_shorten 33 = .ok (.iconst 1, 1) := by decide +kernel
theorem dX0_shorten_34 : decode cX0_shorten 34 = .ok (.iadd, 1) := by decide +kernel
theorem dX0_shorten_35 : decode cX0_shorten 35 = .ok (.putfield 36, 3) := by decide +kernel
theorem dX0_shorten_38 : decode cX0_shorten 38 = .ok (.iconst (-1), 1) := by decide +kernel
theorem dX0_shorten_39 : decode cX0_shorten 39 = .ok (.ireturn, 1) := by decide +kernel
theorem dX0_shorten_40 : decode cX0_shorten 40 = .ok (.aload_n 0, 1) := by decide +kernel
theorem dX0_shorten_41 : decode cX0_shorten 41 = .ok (.getfield 21, 3) := by decide +kernel
theorem dX0_shorten_44 : decode cX0_shorten 44 = .ok (.iload_n 1, 1) := by decide +kernel
theorem dX0_shorten_45 : decode cX0_shorten 45 = .ok (.iaload, 1) := by decide +kernel
theorem dX0_shorten_46 : decode cX0_shorten 46 = .ok (.iload_n 2, 1) := by decide +kernel
theorem dX0_shorten_47 : decode cX0_shorten 47 = .ok (.isub, 1) := by decide +kernel
theorem dX0_shorten_48 : decode cX0_shorten 48 = .ok (.istore_n 3, 1) := by decide +kernel
theorem dX0_shorten_49 : decode cX0_shorten 49 = .ok (.iload_n 3, 1) := by decide +kernel
theorem dX0_shorten_50 : decode cX0_shorten 50 = .ok (.bipush 16, 2) := by decide +kernel
theorem dX0_shorten_52 : decode cX0_shorten 52 = .ok (.idiv, 1) := by decide +kernel
theorem dX0_shorten_53 : decode cX0_shorten 53 = .ok (.aload_n 0, 1) := by decide +kernel
theorem dX0_shorten_54 : decode cX0_shorten 54 = .ok (.getfield 21, 3) := by decide +kernel
theorem dX0_shorten_57 : decode cX0_shorten 57 = .ok (.iload_n 1, 1) := by decide +kernel
theorem dX0_shorten_58 : decode cX0_shorten 58 = .ok (.iaload, 1) := by decide +kernel
theorem dX0_shorten_59 : decode cX0_shorten 59 = .ok (.bipush 16, 2) := by decide +kernel
theorem dX0_shorten_61 : decode cX0_shorten 61 = .ok (.idiv, 1) := by decide +kernel
theorem dX0_shorten_62 : decode cX0_shorten 62 = .ok (.if_icmp .eq 11, 3) := by decide +kernel
theorem dX0_shorten_65 : decode cX0_shorten 65 = .ok (.aload_n 0, 1) := by decide +kernel
theorem dX0_shorten_66 : decode cX0_shorten 66 = .ok (.iload_n 1, 1) := by decide +kernel
theorem dX0_shorten_67 : decode cX0_shorten 67 = .ok (.iload_n 3, 1) := by decide +kernel
theorem dX0_shorten_68 : decode cX0_shorten 68 = .ok (.invokevirtual 111, 3) := by decide +kernel
theorem dX0_shorten_71 : decode cX0_shorten 71 = .ok (.iload_n 3, 1) := by decide +kernel
theorem dX0_shorten_72 : decode cX0_shorten 72 = .ok (.ireturn, 1) := by decide +kernel
theorem dX0_shorten_73 : decode cX0_shorten 73 = .ok (.iload_n 3, 1) := by decide +kernel
theorem dX0_shorten_74 : decode cX0_shorten 74 = .ok (.bipush 16, 2) := by decide +kernel
theorem dX0_shorten_76 : decode cX0_shorten 76 = .ok (.irem, 1) := by decide +kernel
theorem dX0_shorten_77 : decode cX0_shorten 77 = .ok (.ifCond .ne 9, 3) := by decide +kernel
theorem dX0_shorten_80 : decode cX0_shorten 80 = .ok (.aload_n 0, 1) := by decide +kernel
theorem dX0_shorten_81 : decode cX0_shorten 81 = .ok (.iload_n 1, 1) := by decide +kernel
theorem dX0_shorten_82 : decode cX0_shorten 82 = .ok (.invokevirtual 118, 3) := by decide +kernel
theorem dX0_shorten_85 : decode cX0_shorten 85 = .ok (.pop, 1) := by decide +kernel
theorem dX0_shorten_86 : decode cX0_shorten 86 = .ok (.aload_n 0, 1) := by decide +kernel
theorem dX0_shorten_87 : decode cX0_shorten 87 = .ok (.getfield 21, 3) := by decide +kernel
theorem dX0_shorten_90 : decode cX0_shorten 90 = .ok (.iload_n 1, 1) := by decide +kernel
theorem dX0_shorten_91 : decode cX0_shorten 91 = .ok (.iload_n 3, 1) := by decide +kernel
theorem dX0_shorten_92 : decode cX0_shorten 92 = .ok (.iastore, 1) := by decide +kernel
theorem dX0_shorten_93 : decode cX0_shorten 93 = .ok (.iload_n 3, 1) := by decide +kernel
theorem dX0_shorten_94 : decode cX0_shorten 94 = .ok (.ireturn, 1) := by decide +kernel
theorem dX0_removeFile_0 : decode cX0_removeFile 0 = .ok (.aload_n 0, 1) := by decide +kernel
theorem dX0_removeFile_1 : decode cX0_removeFile 1 = .ok (.iload_n 1, 1) := by decide +kernel
theorem dX0_removeFile_2 : decode cX0_removeFile 2 = .ok (.invokevirtual 46, 3) := by decide +kernel
theorem dX0_removeFile_5 : decode cX0_removeFile 5 = .ok (.ifCond .ne 5, 3) := by decide +kernel
theorem dX0_removeFile_8 : decode cX0_removeFile 8 = .ok (.iconst 0, 1) := by decide +kernel
theorem dX0_removeFile_9 : decode cX0_removeFile 9 = .ok (.ireturn, 1) := by decide +kernel
theorem dX0_removeFile_10 : decode cX0_removeFile 10 = .ok (.aload_n 0, 1) := by decide +kernel
theorem dX0_removeFile_11 : decode cX0_removeFile 11 = .ok (.iload_n 1, 1) := by decide +kernel
theorem dX0_removeFile_12 : decode cX0_removeFile 12 = .ok (.invokevirtual 118, 3) := by decide +kernel
theorem dX0_removeFile_15 : decode cX0_removeFile 15 = .ok (.aload_n 0, 1) := by decide +kernel
theorem dX0_removeFile_16 : decode cX0_removeFile 16 = .ok (.iload_n 1, 1) := by decide +kernel
theorem dX0_removeFile_17 : decode cX0_removeFile 17 = .ok (.iconst 0, 1) := by decide +kernel
theorem dX0_removeFile_18 : decode cX0_removeFile 18 = .ok (.invokevirtual 121, 3) := by decide +kernel
theorem dX0_removeFile_21 : decode cX0_removeFile 21 = .ok (.iadd, 1) := by decide +kernel
theorem dX0_removeFile_22 : decode cX0_removeFile 22 = .ok (.istore_n 2, 1) := by decide +kernel
theorem dX0_removeFile_23 : decode cX0_removeFile 23 = .ok (.aload_n 0, 1) := by decide +kernel
theorem dX0_removeFile_24 : decode cX0_removeFile 24 = .ok (.getfield 21, 3) := by decide +kernel
theorem dX0_removeFile_27 : decode cX0_removeFile 27 = .ok (.iload_n 1, 1) := by decide +kernel
theorem dX0_removeFile_28 : decode cX0_removeFile 28 = .ok (.iconst (-1), 1) := by decide +kernel
theorem dX0_removeFile_29 : decode cX0_removeFile 29 = .ok (.iastore, 1) := by decide +kernel
theorem dX0_removeFile_30 : decode cX0_removeFile 30 = .ok (.aload_n 0, 1) := by decide +kernel
theorem dX0_removeFile_31 : decode cX0_removeFile 31 = .ok (.getfield 30, 3) := by decide +kernel
theorem dX0_removeFile_34 : decode cX0_removeFile 34 = .ok (.iload_n 1, 1) := by decide +kernel
theorem dX0_removeFile_35 : decode cX0_removeFile 35 = .ok (.iconst 0, 1) := by decide +kernel
theorem dX0_removeFile_36 : decode cX0_removeFile 36 = .ok (.iastore, 1) := by decide +kernel
theorem dX0_removeFile_37 : decode cX0_removeFile 37 = .ok (.aload_n 0, 1) := by decide +kernel
theorem dX0_removeFile_38 : decode cX0_removeFile 38 = .ok (.getfield 33, 3) := by decide +kernel
theorem dX0_removeFile_41 : decode cX0_removeFile 41 = .ok (.iload_n 1, 1) := by decide +kernel
theorem dX0_removeFile_42 : decode cX0_removeFile 42 = .ok (.iconst 0, 1) := by decide +kernel
theorem dX0_removeFile_43 : decode cX0_removeFile 43 = .ok (.iastore, 1) := by decide +kernel
theorem dX0_removeFile_44 : decode cX0_removeFile 44 = .ok (.iload_n 2, 1) := by decide +kernel
theorem dX0_removeFile_45 : decode cX0_removeFile 45 = .ok (.ireturn, 1) := by decide +kernel
theorem dX0_rebuild_0 : decode cX0_rebuild 0 = .ok (.aload_n 0, 1) := by decide +kernel
theorem dX0_rebuild_1 : decode cX0_rebuild 1 = .ok (.iload_n 1, 1) := by decide +kernel
theorem dX0_rebuild_2 : decode cX0_rebuild 2 = .ok (.invokevirtual 46, 3) := by decide +kernel
theorem dX0_rebuild_5 : decode cX0_rebuild 5 = .ok (.ifCond .ne 4, 3) := by decide +kernel
theorem dX0_rebuild_8 : decode cX0_rebuild 8 = .ok (.return_, 1) := by decide +kernel
theorem dX0_rebuild_9 : decode cX0_rebuild 9 = .ok (.aload_n 0, 1) := by decide +kernel
theorem dX0_rebuild_10 : decode cX0_rebuild 10 = .ok (.iload_n 1, 1) := by decide +kernel
theorem dX0_rebuild_11 : decode cX0_rebuild 11 = .ok (.invokevirtual 118, 3) := by decide +kernel
theorem dX0_rebuild_14 : decode cX0_rebuild 14 = .ok (.pop, 1) := by decide +kernel
theorem dX0_rebuild_15 : decode cX0_rebuild 15 = .ok (.aload_n 0, 1) := by decide +kernel
theorem dX0_rebuild_16 : decode cX0_rebuild 16 = .ok (.getfield 21, 3) := by decide +kernel
theorem dX0_rebuild_19 : decode cX0_rebuild 19 = .ok (.iload_n 1, 1) := by decide +kernel
theorem dX0_rebuild_20 : decode cX0_rebuild 20 = .ok (.iaload, 1) := by decide +kernel
theorem dX0_rebuild_21 : decode cX0_rebuild 21 = .ok (.bipush 16, 2) := by decide +kernel
theorem dX0_rebuild_23 : decode cX0_rebuild 23 = .ok (.idiv, 1) := by decide +kernel
theorem dX0_rebuild_24 : decode cX0_rebuild 24 = .ok (.istore_n 3, 1) := by decide +kernel
theorem dX0_rebuild_25 : decode cX0_rebuild 25 = .ok (.iload_n 3, 1) := by decide +kernel
theorem dX0_rebuild_26 : decode cX0_rebuild 26 = .ok (.iload_n 2, 1) := by decide +kernel
theorem dX0_rebuild_27 : decode cX0_rebuild 27 = .ok (.bipush 16, 2) := by decide +kernel
theorem dX0_rebuild_29 : decode cX0_rebuild 29 = .ok (.idiv, 1) := by decide +kernel
theorem dX0_rebuild_30 : decode cX0_rebuild 30 = .ok (.if_icmp .ge 15, 3) := by decide +kernel
theorem dX0_rebuild_33 : decode cX0_rebuild 33 = .ok (.aload_n 0, 1) := by decide +kernel
theorem dX0_rebuild_34 : decode cX0_rebuild 34 = .ok (.iload_n 1, 1) := by decide +kernel
theorem dX0_rebuild_35 : decode cX0_rebuild 35 = .ok (.iload_n 3, 1) := by decide +kernel
theorem dX0_rebuild_36 : decode cX0_rebuild 36 = .ok (.invokevirtual 124, 3) := by decide +kernel
theorem dX0_rebuild_39 : decode cX0_rebuild 39 = .ok (.iinc 3 1, 3) := by decide +kernel
theorem dX0_rebuild_42 : decode cX0_rebuild 42 = .ok (.goto (-17), 3) := by decide +kernel
theorem dX0_rebuild_45 : decode cX0_rebuild 45 = .ok (.aload_n 0, 1) := by decide +kernel
theorem dX0_rebuild_46 : decode cX0_rebuild 46 = .ok (.iload_n 1, 1) := by decide +kernel
theorem dX0_rebuild_47 : decode cX0_rebuild 47 = .ok (.iload_n 2, 1) := by decide +kernel
theorem dX0_rebuild_48 : decode cX0_rebuild 48 = .ok (.bipush 16, 2) := by decide +kernel
theorem dX0_rebuild_50 : decode cX0_rebuild 50 = .ok (.idiv, 1) := by decide +kernel
theorem dX0_rebuild_51 : decode cX0_rebuild 51 = .ok (.invokevirtual 121, 3) := by decide +kernel
theorem dX0_rebuild_54 : decode cX0_rebuild 54 = .ok (.pop, 1) := by decide +kernel
theorem dX0_rebuild_55 : decode cX0_rebuild 55 = .ok (.aload_n 0, 1) := by decide +kernel
theorem dX0_rebuild_56 : decode cX0_rebuild 56 = .ok (.getfield 21, 3) := by decide +kernel
theorem dX0_rebuild_59 : decode cX0_rebuild 59 = .ok (.iload_n 1, 1) := by decide +kernel
theorem dX0_rebuild_60 : decode cX0_rebuild 60 = .ok (.iload_n 2, 1) := by decide +kernel
theorem dX0_rebuild_61 : decode cX0_rebuild 61 = .ok (.iastore, 1) := by decide +kernel
theorem dX0_rebuild_62 : decode cX0_rebuild 62 = .ok (.iload_n 2, 1) := by decide +kernel
theorem dX0_rebuild_63 : decode cX0_rebuild 63 = .ok (.bipush 16, 2) := by decide +kernel
theorem dX0_rebuild_65 : decode cX0_rebuild 65 = .ok (.irem, 1) := by decide +kernel
theorem dX0_rebuild_66 : decode cX0_rebuild 66 = .ok (.ifCond .ne 7, 3) := by decide +kernel
theorem dX0_rebuild_69 : decode cX0_rebuild 69 = .ok (.iconst (-1), 1) := by decide +kernel
theorem dX0_rebuild_70 : decode cX0_rebuild 70 = .ok (.goto 11, 3) := by decide +kernel
theorem dX0_rebuild_73 : decode cX0_rebuild 73 = .ok (.aload_n 0, 1) := by decide +kernel
theorem dX0_rebuild_74 : decode cX0_rebuild 74 = .ok (.iload_n 2, 1) := by decide +kernel
theorem dX0_rebuild_75 : decode cX0_rebuild 75 = .ok (.bipush 16, 2) := by decide +kernel
theorem dX0_rebuild_77 : decode cX0_rebuild 77 = .ok (.irem, 1) := by decide +kernel
theorem dX0_rebuild_78 : decode cX0_rebuild 78 = .ok (.invokevirtual 127, 3) := by decide +kernel
theorem dX0_rebuild_81 : decode cX0_rebuild 81 = .ok (.istore_n 3, 1) := by decide +kernel
theorem dX0_rebuild_82 : decode cX0_rebuild 82 = .ok (.iload_n 3, 1) := by decide +kernel
theorem dX0_rebuild_83 : decode cX0_rebuild 83 = .ok (.iconst (-1), 1) := by decide +kernel
theorem dX0_rebuild_84 : decode cX0_rebuild 84 = .ok (.if_icmp .eq 16, 3) := by decide +kernel
theorem dX0_rebuild_87 : decode cX0_rebuild 87 = .ok (.aload_n 0, 1) := by decide +kernel
theorem dX0_rebuild_88 : decode cX0_rebuild 88 = .ok (.iload_n 1, 1) := by decide +kernel
theorem dX0_rebuild_89 : decode cX0_rebuild 89 = .ok (.iload_n 3, 1) := by decide +kernel
theorem dX0_rebuild_90 : decode cX0_rebuild 90 = .ok (.bipush 16, 2) := by decide +kernel
theorem dX0_rebuild_92 : decode cX0_rebuild 92 = .ok (.idiv, 1) := by decide +kernel
theorem dX0_rebuild_93 : decode cX0_rebuild 93 = .ok (.iload_n 3, 1) := by decide +kernel
theorem dX0_rebuild_94 : decode cX0_rebuild 94 = .ok (.bipush 16, 2) := by decide +kernel
theorem dX0_rebuild_96 : decode cX0_rebuild 96 = .ok (.irem, 1) := by decide +kernel
theorem dX0_rebuild_97 : decode cX0_rebuild 97 = .ok (.invokevirtual 130, 3) := by decide +kernel
theorem dX0_rebuild_100 : decode cX0_rebuild 100 = .ok (.return_, 1) := by decide +kernel
theorem dX0_takeWhole_0 : decode cX0_takeWhole 0 = .ok (.aload_n 0, 1) := by decide +kernel
theorem dX0_takeWhole_1 : decode cX0_takeWhole 1 = .ok (.invokevirtual 94, 3) := by decide +kernel
theorem dX0_takeWhole_4 : decode cX0_takeWhole 4 = .ok (.istore_n 3, 1) := by decide +kernel
theorem dX0_takeWhole_5 : decode cX0_takeWhole 5 = .ok (.iload_n 3, 1) := by decide +kernel
theorem dX0_takeWhole_6 : decode cX0_takeWhole 6 = .ok (.iconst (-1), 1) := by decide +kernel
theorem dX0_takeWhole_7 : decode cX0_takeWhole 7 = .ok (.if_icmp .eq 24, 3) := by decide +kernel
theorem dX0_takeWhole_10 : decode cX0_takeWhole 10 = .ok (.aload_n 0, 1) := by decide +kernel
theorem dX0_takeWhole_11 : decode cX0_takeWhole 11 = .ok (.getfield 9, 3) := by decide +kernel
theorem dX0_takeWhole_14 : decode cX0_takeWhole 14 = .ok (.iload_n 3, 1) := by decide +kernel
theorem dX0_takeWhole_15 : decode cX0_takeWhole 15 = .ok (.iconst 1, 1) := by decide +kernel
theorem dX0_takeWhole_16 : decode cX0_takeWhole 16 = .ok (.iastore, 1) := by decide +kernel
theorem dX0_takeWhole_17 : decode cX0_takeWhole 17 = .ok (.aload_n 0, 1) := by decide +kernel
theorem dX0_takeWhole_18 : decode cX0_takeWhole 18 = .ok (.getfield 15, 3) := by decide +kernel
theorem dX0_takeWhole_21 : decode cX0_takeWhole 21 = .ok (.iload_n 3, 1) := by decide +kernel
theorem dX0_takeWhole_22 : decode cX0_takeWhole 22 = .ok (.iload_n 1, 1) := by decide +kernel
theorem dX0_takeWhole_23 : decode cX0_takeWhole 23 = .ok (.iastore, 1) := by decide +kernel
theorem dX0_takeWhole_24 : decode cX0_takeWhole 24 = .ok (.aload_n 0, 1) := by decide +kernel
theorem dX0_takeWhole_25 : decode cX0_takeWhole 25 = .ok (.getfield 18, 3) := by decide +kernel
theorem dX0_takeWhole_28 : decode cX0_takeWhole 28 = .ok (.iload_n 3, 1) := by decide +kernel
theorem dX0_takeWhole_29 : decode cX0_takeWhole 29 = .ok (.iload_n 2, 1) := by decide +kernel
theorem dX0_takeWhole_30 : decode cX0_takeWhole 30 = .ok (.iastore, 1) := by decide +kernel
theorem dX0_takeWhole_31 : decode cX0_takeWhole 31 = .ok (.return_, 1) := by decide +kernel
theorem dX0_dropWholes_0 : decode cX0_dropWholes 0 = .ok (.iconst 0, 1) := by decide +kernel
theorem dX0_dropWholes_1 : decode cX0_dropWholes 1 = .ok (.istore_n 3, 1) := by decide +kernel
theorem dX0_dropWholes_2 : decode cX0_dropWholes 2 = .ok (.iconst 0, 1) := by decide +kernel
theorem dX0_dropWholes_3 : decode cX0_dropWholes 3 = .ok (.istore 4, 2) := by decide +kernel
theorem dX0_dropWholes_5 : decode cX0_dropWholes 5 = .ok (.iload 4, 2) := by decide +kernel
theorem dX0_dropWholes_7 : decode cX0_dropWholes 7 = .ok (.bipush 24, 2) := by decide +kernel
theorem dX0_dropWholes_9 : decode cX0_dropWholes 9 = .ok (.if_icmp .ge 69, 3) := by decide +kernel
theorem dX0_dropWholes_12 : decode cX0_dropWholes 12 = .ok (.aload_n 0, 1) := by decide +kernel
theorem dX0_dropWholes_13 : decode cX0_dropWholes 13 = .ok (.getfield 15, 3) := by decide +kernel
theorem dX0_dropWholes_16 : decode cX0_dropWholes 16 = .ok (.iload 4, 2) := by decide +kernel
theorem dX0_dropWholes_18 : decode cX0_dropWholes 18 = .ok (.iaload, 1) := by decide +kernel
theorem dX0_dropWholes_19 : decode cX0_dropWholes 19 = .ok (.iload_n 1, 1) := by decide +kernel
theorem dX0_dropWholes_20 : decode cX0_dropWholes 20 = .ok (.if_icmp .ne 52, 3) := by decide +kernel
theorem dX0_dropWholes_23 : decode cX0_dropWholes 23 = .ok (.aload_n 0, 1) := by decide +kernel
theorem dX0_dropWholes_24 : decode cX0_dropWholes 24 = .ok (.getfield 18, 3) := by decide +kernel
theorem dX0_dropWholes_27 : decode cX0_dropWholes 27 = .ok (.iload 4, 2) := by decide +kernel
theorem dX0_dropWholes_29 : decode cX0_dropWholes 29 = .ok (.iaload, 1) := by decide +kernel
theorem dX0_dropWholes_30 : decode cX0_dropWholes 30 = .ok (.iload_n 2, 1) := by decide +kernel
theorem dX0_dropWholes_31 : decode cX0_dropWholes 31 = .ok (.if_icmp .lt 41, 3) := by decide +kernel
theorem dX0_dropWholes_34 : decode cX0_dropWholes 34 = .ok (.aload_n 0, 1) := by decide +kernel
theorem dX0_dropWholes_35 : decode cX0_dropWholes 35 = .ok (.getfield 15, 3) := by decide +kernel
theorem dX0_dropWholes_38 : decode cX0_dropWholes 38 = .ok (.iload 4, 2) := by decide +kernel
theorem dX0_dropWholes_40 : decode cX0_dropWholes 40 = .ok (.iconst (-1), 1) := by decide +kernel
theorem dX0_dropWholes_41 : decode cX0_dropWholes 41 = .ok (.iastore, 1) := by decide +kernel
theorem dX0_dropWholes_42 : decode cX0_dropWholes 42 = .ok (.aload_n 0, 1) := by decide +kernel
theorem dX0_dropWholes_43 : decode cX0_dropWholes 43 = .ok (.getfield 18, 3) := by decide +kernel
theorem dX0_dropWholes_46 : decode cX0_dropWholes 46 = .ok (.iload 4, 2) := by decide +kernel
theorem dX0_dropWholes_48 : decode cX0_dropWholes 48 = .ok (.iconst 0, 1) := by decide +kernel
theorem dX0_dropWholes_49 : decode cX0_dropWholes 49 = .ok (.iastore, 1) := by decide +kernel
theorem dX0_dropWholes_50 : decode cX0_dropWholes 50 = .ok (.aload_n 0, 1) := by decide +kernel
theorem dX0_dropWholes_51 : decode cX0_dropWholes 51 = .ok (.getfield 9, 3) := by decide +kernel
theorem dX0_dropWholes_54 : decode cX0_dropWholes 54 = .ok (.iload 4, 2) := by decide +kernel
theorem dX0_dropWholes_56 : decode cX0_dropWholes 56 = .ok (.iaload, 1) := by decide +kernel
theorem dX0_dropWholes_57 : decode cX0_dropWholes 57 = .ok (.iconst 1, 1) := by decide +kernel
theorem dX0_dropWholes_58 : decode cX0_dropWholes 58 = .ok (.if_icmp .ne 14, 3) := by decide +kernel
theorem dX0_dropWholes_61 : decode cX0_dropWholes 61 = .ok (.aload_n 0, 1) := by decide +kernel
theorem dX0_dropWholes_62 : decode cX0_dropWholes 62 = .ok (.getfield 9, 3) := by decide +kernel
theorem dX0_dropWholes_65 : decode cX0_dropWholes 65 = .ok (.iload 4, 2) := by decide +kernel
theorem dX0_dropWholes_67 : decode cX0_dropWholes 67 = .ok (.iconst 0, 1) := by decide +kernel
theorem dX0_dropWholes_68 : decode cX0_dropWholes 68 = .ok (.iastore, 1) := by decide +kernel
theorem dX0_dropWholes_69 : decode cX0_dropWholes 69 = .ok (.iinc 3 1, 3) := by decide +kernel
theorem dX0_dropWholes_72 : decode cX0_dropWholes 72 = .ok (.iinc 4 1, 3) := by decide +kernel
theorem dX0_dropWholes_75 : decode cX0_dropWholes 75 = .ok (.goto (-70), 3) := by decide +kernel
theorem dX0_dropWholes_78 : decode cX0_dropWholes 78 = .ok (.iload_n 3, 1) := by decide +kernel
theorem dX0_dropWholes_79 : decode cX0_dropWholes 79 = .ok (.ireturn, 1) := by decide +kernel
theorem dX0_putTail_0 : decode cX0_putTail 0 = .ok (.aload_n 0, 1) := by decide +kernel
theorem dX0_putTail_1 : decode cX0_putTail 1 = .ok (.iload_n 1, 1) := by decide +kernel
theorem dX0_putTail_2 : decode cX0_putTail 2 = .ok (.invokevirtual 46, 3) := by decide +kernel
theorem dX0_putTail_5 : decode cX0_putTail 5 = .ok (.ifCond .eq 41, 3) := by decide +kernel
theorem dX0_putTail_8 : decode cX0_putTail 8 = .ok (.iload_n 2, 1) := by decide +kernel
theorem dX0_putTail_9 : decode cX0_putTail 9 = .ok (.invokestatic 54, 3) := by decide +kernel
theorem dX0_putTail_12 : decode cX0_putTail 12 = .ok (.ifCond .eq 34, 3) := by decide +kernel
theorem dX0_putTail_15 : decode cX0_putTail 15 = .ok (.aload_n 0, 1) := by decide +kernel
theorem dX0_putTail_16 : decode cX0_putTail 16 = .ok (.getfield 24, 3) := by decide +kernel
theorem dX0_putTail_19 : decode cX0_putTail 19 = .ok (.iload_n 1, 1) := by decide +kernel
theorem dX0_putTail_20 : decode cX0_putTail 20 = .ok (.iload_n 2, 1) := by decide +kernel
theorem dX0_putTail_21 : decode cX0_putTail 21 = .ok (.iastore, 1) := by decide +kernel
theorem dX0_putTail_22 : decode cX0_putTail 22 = .ok (.aload_n 0, 1) := by decide +kernel
theorem dX0_putTail_23 : decode cX0_putTail 23 = .ok (.getfield 27, 3) := by decide +kernel
theorem dX0_putTail_26 : decode cX0_putTail 26 = .ok (.iload_n 1, 1) := by decide +kernel
theorem dX0_putTail_27 : decode cX0_putTail 27 = .ok (.iload_n 3, 1) := by decide +kernel
theorem dX0_putTail_28 : decode cX0_putTail 28 = .ok (.iastore, 1) := by decide +kernel
theorem dX0_putTail_29 : decode cX0_putTail 29 = .ok (.aload_n 0, 1) := by decide +kernel
theorem dX0_putTail_30 : decode cX0_putTail 30 = .ok (.getfield 9, 3) := by decide +kernel
theorem dX0_putTail_33 : decode cX0_putTail 33 = .ok (.iload_n 2, 1) := by decide +kernel
theorem dX0_putTail_34 : decode cX0_putTail 34 = .ok (.iconst 2, 1) := by decide +kernel
theorem dX0_putTail_35 : decode cX0_putTail 35 = .ok (.iastore, 1) := by decide +kernel
theorem dX0_putTail_36 : decode cX0_putTail 36 = .ok (.aload_n 0, 1) := by decide +kernel
theorem dX0_putTail_37 : decode cX0_putTail 37 = .ok (.getfield 33, 3) := by decide +kernel
theorem dX0_putTail_40 : decode cX0_putTail 40 = .ok (.iload_n 1, 1) := by decide +kernel
theorem dX0_putTail_41 : decode cX0_putTail 41 = .ok (.dup2, 1) := by decide +kernel
theorem dX0_putTail_42 : decode cX0_putTail 42 = .ok (.iaload, 1) := by decide +kernel
theorem dX0_putTail_43 : decode cX0_putTail 43 = .ok (.iconst 1, 1) := by decide +kernel
theorem dX0_putTail_44 : decode cX0_putTail 44 = .ok (.iadd, 1) := by decide +kernel
theorem dX0_putTail_45 : decode cX0_putTail 45 = .ok (.iastore, 1) := by decide +kernel
theorem dX0_putTail_46 : decode cX0_putTail 46 = .ok (.return_, 1) := by decide +kernel
theorem dX0_dropTail_0 : decode cX0_dropTail 0 = .ok (.aload_n 0, 1) := by decide +kernel
theorem dX0_dropTail_1 : decode cX0_dropTail 1 = .ok (.iload_n 1, 1) := by decide +kernel
theorem dX0_dropTail_2 : decode cX0_dropTail 2 = .ok (.invokevirtual 46, 3) := by decide +kernel
theorem dX0_dropTail_5 : decode cX0_dropTail 5 = .ok (.ifCond .ne 5, 3) := by decide +kernel
theorem dX0_dropTail_8 : decode cX0_dropTail 8 = .ok (.iconst 0, 1) := by decide +kernel
theorem dX0_dropTail_9 : decode cX0_dropTail 9 = .ok (.ireturn, 1) := by decide +kernel
theorem dX0_dropTail_10 : decode cX0_dropTail 10 = .ok (.aload_n 0, 1) := by decide +kernel
theorem dX0_dropTail_11 : decode cX0_dropTail 11 = .ok (.getfield 24, 3) := by decide +kernel
theorem dX0_dropTail_14 : decode cX0_dropTail 14 = .ok (.iload_n 1, 1) := by decide +kernel
theorem dX0_dropTail_15 : decode cX0_dropTail 15 = .ok (.iaload, 1) := by decide +kernel
theorem dX0_dropTail_16 : decode cX0_dropTail 16 = .ok (.istore_n 2, 1) := by decide +kernel
theorem dX0_dropTail_17 : decode cX0_dropTail 17 = .ok (.aload_n 0, 1) := by decide +kernel
theorem dX0_dropTail_18 : decode cX0_dropTail 18 = .ok (.getfield 24, 3) := by decide +kernel
theorem dX0_dropTail_21 : decode cX0_dropTail 21 = .ok (.iload_n 1, 1) := by decide +kernel
theorem dX0_dropTail_22 : decode cX0_dropTail 22 = .ok (.iconst (-1), 1) := by decide +kernel
theorem dX0_dropTail_23 : decode cX0_dropTail 23 = .ok (.iastore, 1) := by decide +kernel
theorem dX0_dropTail_24 : decode cX0_dropTail 24 = .ok (.aload_n 0, 1) := by decide +kernel
theorem dX0_dropTail_25 : decode cX0_dropTail 25 = .ok (.getfield 27, 3) := by decide +kernel
theorem dX0_dropTail_28 : decode cX0_dropTail 28 = .ok (.iload_n 1, 1) := by decide +kernel
theorem dX0_dropTail_29 : decode cX0_dropTail 29 = .ok (.iconst (-1), 1) := by decide +kernel
theorem dX0_dropTail_30 : decode cX0_dropTail 30 = .ok (.iastore, 1) := by decide +kernel
theorem dX0_dropTail_31 : decode cX0_dropTail 31 = .ok (.aload_n 0, 1) := by decide +kernel
theorem dX0_dropTail_32 : decode cX0_dropTail 32 = .ok (.iload_n 2, 1) := by decide +kernel
theorem dX0_dropTail_33 : decode cX0_dropTail 33 = .ok (.invokevirtual 134, 3) := by decide +kernel
theorem dX0_dropTail_36 : decode cX0_dropTail 36 = .ok (.ireturn, 1) := by decide +kernel
theorem dX0_freeIfEmpty_0 : decode cX0_freeIfEmpty 0 = .ok (.iload_n 1, 1) := by decide +kernel
theorem dX0_freeIfEmpty_1 : decode cX0_freeIfEmpty 1 = .ok (.invokestatic 54, 3) := by decide +kernel
theorem dX0_freeIfEmpty_4 : decode cX0_freeIfEmpty 4 = .ok (.ifCond .eq 22, 3) := by decide +kernel
theorem dX0_freeIfEmpty_7 : decode cX0_freeIfEmpty 7 = .ok (.aload_n 0, 1) := by decide +kernel
theorem dX0_freeIfEmpty_8 : decode cX0_freeIfEmpty 8 = .ok (.getfield 9, 3) := by decide +kernel
theorem dX0_freeIfEmpty_11 : decode cX0_freeIfEmpty 11 = .ok (.iload_n 1, 1) := by decide +kernel
theorem dX0_freeIfEmpty_12 : decode cX0_freeIfEmpty 12 = .ok (.iaload, 1) := by decide +kernel
theorem dX0_freeIfEmpty_13 : decode cX0_freeIfEmpty 13 = .ok (.iconst 2, 1) := by decide +kernel
theorem dX0_freeIfEmpty_14 : decode cX0_freeIfEmpty 14 = .ok (.if_icmp .ne 12, 3) := by decide +kernel
theorem dX0_freeIfEmpty_17 : decode cX0_freeIfEmpty 17 = .ok (.aload_n 0, 1) := by decide +kernel
theorem dX0_freeIfEmpty_18 : decode cX0_freeIfEmpty 18 = .ok (.iload_n 1, 1) := by decide +kernel
theorem dX0_freeIfEmpty_19 : decode cX0_freeIfEmpty 19 = .ok (.iconst (-1), 1) := by decide +kernel
theorem dX0_freeIfEmpty_20 : decode cX0_freeIfEmpty 20 = .ok (.invokevirtual 63, 3) := by decide +kernel
theorem dX0_freeIfEmpty_23 : decode cX0_freeIfEmpty 23 = .ok (.ifCond .eq 5, 3) := by decide +kernel
theorem dX0_freeIfEmpty_26 : decode cX0_freeIfEmpty 26 = .ok (.iconst 0, 1) := by decide +kernel
theorem dX0_freeIfEmpty_27 : decode cX0_freeIfEmpty 27 = .ok (.ireturn, 1) := by decide +kernel
theorem dX0_freeIfEmpty_28 : decode cX0_freeIfEmpty 28 = .ok (.aload_n 0, 1) := by decide +kernel
theorem dX0_freeIfEmpty_29 : decode cX0_freeIfEmpty 29 = .ok (.getfield 9, 3) := by decide +kernel
theorem dX0_freeIfEmpty_32 : decode cX0_freeIfEmpty 32 = .ok (.iload_n 1, 1) := by decide +kernel
theorem dX0_freeIfEmpty_33 : decode cX0_freeIfEmpty 33 = .ok (.iconst 0, 1) := by decide +kernel
theorem dX0_freeIfEmpty_34 : decode cX0_freeIfEmpty 34 = .ok (.iastore, 1) := by decide +kernel
theorem dX0_freeIfEmpty_35 : decode cX0_freeIfEmpty 35 = .ok (.iconst 1, 1) := by decide +kernel
theorem dX0_freeIfEmpty_36 : decode cX0_freeIfEmpty 36 = .ok (.ireturn, 1) := by decide +kernel
theorem dX0_turnFree_0 : decode cX0_turnFree 0 = .ok (.iload_n 1, 1) := by decide +kernel
theorem dX0_turnFree_1 : decode cX0_turnFree 1 = .ok (.invokestatic 54, 3) := by decide +kernel
theorem dX0_turnFree_4 : decode cX0_turnFree 4 = .ok (.ifCond .eq 10, 3) := by decide +kernel
theorem dX0_turnFree_7 : decode cX0_turnFree 7 = .ok (.aload_n 0, 1) := by decide +kernel
theorem dX0_turnFree_8 : decode cX0_turnFree 8 = .ok (.getfield 9, 3) := by decide +kernel
theorem dX0_turnFree_11 : decode cX0_turnFree 11 = .ok (.iload_n 1, 1) := by decide +kernel
theorem dX0_turnFree_12 : decode cX0_turnFree 12 = .ok (.iconst 0, 1) := by decide +kernel
theorem dX0_turnFree_13 : decode cX0_turnFree 13 = .ok (.iastore, 1) := by decide +kernel
theorem dX0_turnFree_14 : decode cX0_turnFree 14 = .ok (.return_, 1) := by decide +kernel
theorem dX0_turnBad_0 : decode cX0_turnBad 0 = .ok (.iload_n 1, 1) := by decide +kernel
theorem dX0_turnBad_1 : decode cX0_turnBad 1 = .ok (.invokestatic 54, 3) := by decide +kernel
theorem dX0_turnBad_4 : decode cX0_turnBad 4 = .ok (.ifCond .ne 5, 3) := by decide +kernel
theorem dX0_turnBad_7 : decode cX0_turnBad 7 = .ok (.iconst 0, 1) := by decide +kernel
theorem dX0_turnBad_8 : decode cX0_turnBad 8 = .ok (.ireturn, 1) := by decide +kernel
theorem dX0_turnBad_9 : decode cX0_turnBad 9 = .ok (.iconst 0, 1) := by decide +kernel
theorem dX0_turnBad_10 : decode cX0_turnBad 10 = .ok (.istore_n 2, 1) := by decide +kernel
theorem dX0_turnBad_11 : decode cX0_turnBad 11 = .ok (.iconst 0, 1) := by decide +kernel
theorem dX0_turnBad_12 : decode cX0_turnBad 12 = .ok (.istore_n 3, 1) := by decide +kernel
theorem dX0_turnBad_13 : decode cX0_turnBad 13 = .ok (.iload_n 3, 1) := by decide +kernel
theorem dX0_turnBad_14 : decode cX0_turnBad 14 = .ok (.bipush 10, 2) := by decide +kernel
theorem dX0_turnBad_16 : decode cX0_turnBad 16 = .ok (.if_icmp .ge 37, 3) := by decide +kernel
theorem dX0_turnBad_19 : decode cX0_turnBad 19 = .ok (.aload_n 0, 1) := by decide +kernel
theorem dX0_turnBad_20 : decode cX0_turnBad 20 = .ok (.iload_n 3, 1) := by decide +kernel
theorem dX0_turnBad_21 : decode cX0_turnBad 21 = .ok (.iload_n 1, 1) := by decide +kernel
theorem dX0_turnBad_22 : decode cX0_turnBad 22 = .ok (.invokevirtual 78, 3) := by decide +kernel
theorem dX0_turnBad_25 : decode cX0_turnBad 25 = .ok (.ifCond .eq 22, 3) := by decide +kernel
theorem dX0_turnBad_28 : decode cX0_turnBad 28 = .ok (.aload_n 0, 1) := by decide +kernel
theorem dX0_turnBad_29 : decode cX0_turnBad 29 = .ok (.getfield 30, 3) := by decide +kernel
theorem dX0_turnBad_32 : decode cX0_turnBad 32 = .ok (.iload_n 3, 1) := by decide +kernel
theorem dX0_turnBad_33 : decode cX0_turnBad 33 = .ok (.iaload, 1) := by decide +kernel
theorem dX0_turnBad_34 : decode cX0_turnBad 34 = .ok (.ifCond .ne 13, 3) := by decide +kernel
theorem dX0_turnBad_37 : decode cX0_turnBad 37 = .ok (.aload_n 0, 1) := by decide +kernel
theorem dX0_turnBad_38 : decode cX0_turnBad 38 = .ok (.getfield 30, 3) := by decide +kernel
theorem dX0_turnBad_41 : decode cX0_turnBad 41 = .ok (.iload_n 3, 1) := by decide +kernel
theorem dX0_turnBad_42 : decode cX0_turnBad 42 = .ok (.iconst 1, 1) := by decide +kernel
theorem dX0_turnBad_43 : decode cX0_turnBad 43 = .ok (.iastore, 1) := by decide +kernel
theorem dX0_turnBad_44 : decode cX0_turnBad 44 = .ok (.iinc 2 1, 3) := by decide +kernel
theorem dX0_turnBad_47 : decode cX0_turnBad 47 = .ok (.iinc 3 1, 3) := by decide +kernel
theorem dX0_turnBad_50 : decode cX0_turnBad 50 = .ok (.goto (-37), 3) := by decide +kernel
theorem dX0_turnBad_53 : decode cX0_turnBad 53 = .ok (.aload_n 0, 1) := by decide +kernel
theorem dX0_turnBad_54 : decode cX0_turnBad 54 = .ok (.getfield 9, 3) := by decide +kernel
theorem dX0_turnBad_57 : decode cX0_turnBad 57 = .ok (.iload_n 1, 1) := by decide +kernel
theorem dX0_turnBad_58 : decode cX0_turnBad 58 = .ok (.iconst 3, 1) := by decide +kernel
theorem dX0_turnBad_59 : decode cX0_turnBad 59 = .ok (.iastore, 1) := by decide +kernel
theorem dX0_turnBad_60 : decode cX0_turnBad 60 = .ok (.iload_n 2, 1) := by decide +kernel
theorem dX0_turnBad_61 : decode cX0_turnBad 61 = .ok (.ireturn, 1) := by decide +kernel
theorem dX0_takesPacking_0 : decode cX0_takesPacking 0 = .ok (.iconst 0, 1) := by decide +kernel
theorem dX0_takesPacking_1 : decode cX0_takesPacking 1 = .ok (.istore_n 2, 1) := by decide +kernel
theorem dX0_takesPacking_2 : decode cX0_takesPacking 2 = .ok (.iload_n 2, 1) := by decide +kernel
theorem dX0_takesPacking_3 : decode cX0_takesPacking 3 = .ok (.bipush 10, 2) := by decide +kernel
theorem dX0_takesPacking_5 : decode cX0_takesPacking 5 = .ok (.if_icmp .ge 31, 3) := by decide +kernel
theorem dX0_takesPacking_8 : decode cX0_takesPacking 8 = .ok (.aload_n 0, 1) := by decide +kernel
theorem dX0_takesPacking_9 : decode cX0_takesPacking 9 = .ok (.getfield 30, 3) := by decide +kernel
theorem dX0_takesPacking_12 : decode cX0_takesPacking 12 = .ok (.iload_n 2, 1) := by decide +kernel
theorem dX0_takesPacking_13 : decode cX0_takesPacking 13 = .ok (.iaload, 1) := by decide +kernel
theorem dX0_takesPacking_14 : decode cX0_takesPacking 14 = .ok (.iconst 1, 1) := by decide +kernel
theorem dX0_takesPacking_15 : decode cX0_takesPacking 15 = .ok (.if_icmp .ne 15, 3) := by decide +kernel
theorem dX0_takesPacking_18 : decode cX0_takesPacking 18 = .ok (.aload_n 0, 1) := by decide +kernel
theorem dX0_takesPacking_19 : decode cX0_takesPacking 19 = .ok (.getfield 24, 3) := by decide +kernel
theorem dX0_takesPacking_22 : decode cX0_takesPacking 22 = .ok (.iload_n 2, 1) := by decide +kernel
theorem dX0_takesPacking_23 : decode cX0_takesPacking 23 = .ok (.iaload, 1) := by decide +kernel
theorem dX0_takesPacking_24 : decode cX0_takesPacking 24 = .ok (.iload_n 1, 1) := by decide +kernel
theorem dX0_takesPacking_25 : decode cX0_takesPacking 25 = .ok (.if_icmp .ne 5, 3) := by decide +kernel
theorem dX0_takesPacking_28 : decode cX0_takesPacking 28 = .ok (.iconst 0, 1) := by decide +kernel
theorem dX0_takesPacking_29 : decode cX0_takesPacking 29 = .ok (.ireturn, 1) := by decide +kernel
theorem dX0_takesPacking_30 : decode cX0_takesPacking 30 = .ok (.iinc 2 1, 3) := by decide +kernel
theorem dX0_takesPacking_33 : decode cX0_takesPacking 33 = .ok (.goto (-31), 3) := by decide +kernel
theorem dX0_takesPacking_36 : decode cX0_takesPacking 36 = .ok (.aload_n 0, 1) := by decide +kernel
theorem dX0_takesPacking_37 : decode cX0_takesPacking 37 = .ok (.iload_n 1, 1) := by decide +kernel
theorem dX0_takesPacking_38 : decode cX0_takesPacking 38 = .ok (.invokevirtual 70, 3) := by decide +kernel
theorem dX0_takesPacking_41 : decode cX0_takesPacking 41 = .ok (.iconst 2, 1) := by decide +kernel
theorem dX0_takesPacking_42 : decode cX0_takesPacking 42 = .ok (.if_icmp .ne 7, 3) := by decide +kernel
theorem dX0_takesPacking_45 : decode cX0_takesPacking 45 = .ok (.iconst 1, 1) := by decide +kernel
theorem dX0_takesPacking_46 : decode cX0_takesPacking 46 = .ok (.goto 4, 3) := by decide +kernel
theorem dX0_takesPacking_49 : decode cX0_takesPacking 49 = .ok (.iconst 0, 1) := by decide +kernel
theorem dX0_takesPacking_50 : decode cX0_takesPacking 50 = .ok (.ireturn, 1) := by decide +kernel
theorem dX1_init_0 : decode cX1_init 0 = .ok (.aload_n 0, 1) := by decide +kernel
theorem dX1_init_1 : decode cX1_init 1 = .ok (.invokespecial 3, 3) := by decide +kernel
theorem dX1_init_4 : decode cX1_init 4 = .ok (.aload_n 0, 1) := by decide +kernel
theorem dX1_init_5 : decode cX1_init 5 = .ok (.new 9, 3) := by decide +kernel
theorem dX1_init_8 : decode cX1_init 8 = .ok (.dup, 1) := by decide +kernel
theorem dX1_init_9 : decode cX1_init 9 = .ok (.invokespecial 11, 3) := by decide +kernel
theorem dX1_init_12 : decode cX1_init 12 = .ok (.putfield 12, 3) := by decide +kernel
theorem dX1_init_15 : decode cX1_init 15 = .ok (.aload_n 0, 1) := by decide +kernel
theorem dX1_init_16 : decode cX1_init 16 = .ok (.bipush 10, 2) := by decide +kernel
theorem dX1_init_18 : decode cX1_init 18 = .ok (.newarray .int, 2) := by decide +kernel
theorem dX1_init_20 : decode cX1_init 20 = .ok (.putfield 18, 3) := by decide +kernel
theorem dX1_init_23 : decode cX1_init 23 = .ok (.aload_n 0, 1) := by decide +kernel
theorem dX1_init_24 : decode cX1_init 24 = .ok (.sipush 1024, 3) := by decide +kernel
theorem dX1_init_27 : decode cX1_init 27 = .ok (.newarray .int, 2) := by decide +kernel
theorem dX1_init_29 : decode cX1_init 29 = .ok (.putfield 22, 3) := by decide +kernel
theorem dX1_init_32 : decode cX1_init 32 = .ok (.aload_n 0, 1) := by decide +kernel
theorem dX1_init_33 : decode cX1_init 33 = .ok (.sipush 1024, 3) := by decide +kernel
theorem dX1_init_36 : decode cX1_init 36 = .ok (.newarray .int, 2) := by decide +kernel
theorem dX1_init_38 : decode cX1_init 38 = .ok (.putfield 25, 3) := by decide +kernel
theorem dX1_init_41 : decode cX1_init 41 = .ok (.return_, 1) := by decide +kernel
theorem dX1_bySets_0 : decode cX1_bySets 0 = .ok (.aload_n 0, 1) := by decide +kernel
theorem dX1_bySets_1 : decode cX1_bySets 1 = .ok (.getfield 12, 3) := by decide +kernel
theorem dX1_bySets_4 : decode cX1_bySets 4 = .ok (.aload_n 1, 1) := by decide +kernel
theorem dX1_bySets_5 : decode cX1_bySets 5 = .ok (.invokevirtual 28, 3) := by decide +kernel
theorem dX1_bySets_8 : decode cX1_bySets 8 = .ok (.aload_n 0, 1) := by decide +kernel
theorem dX1_bySets_9 : decode cX1_bySets 9 = .ok (.getfield 22, 3) := by decide +kernel
theorem dX1_bySets_12 : decode cX1_bySets 12 = .ok (.iconst 0, 1) := by decide +kernel
theorem dX1_bySets_13 : decode cX1_bySets 13 = .ok (.iconst 0, 1) := by decide +kernel
theorem dX1_bySets_14 : decode cX1_bySets 14 = .ok (.iastore, 1) := by decide +kernel
theorem dX1_bySets_15 : decode cX1_bySets 15 = .ok (.aload_n 0, 1) := by decide +kernel
theorem dX1_bySets_16 : decode cX1_bySets 16 = .ok (.getfield 25, 3) := by decide +kernel
theorem dX1_bySets_19 : decode cX1_bySets 19 = .ok (.iconst 0, 1) := by decide +kernel
theorem dX1_bySets_20 : decode cX1_bySets 20 = .ok (.bipush 16, 2) := by decide +kernel
theorem dX1_bySets_22 : decode cX1_bySets 22 = .ok (.iastore, 1) := by decide +kernel
theorem dX1_bySets_23 : decode cX1_bySets 23 = .ok (.iconst 1, 1) := by decide +kernel
theorem dX1_bySets_24 : decode cX1_bySets 24 = .ok (.aload_n 0, 1) := by decide +kernel
theorem dX1_bySets_25 : decode cX1_bySets 25 = .ok (.getfield 12, 3) := by decide +kernel
theorem dX1_bySets_28 : decode cX1_bySets 28 = .ok (.getfield 32, 3) := by decide +kernel
theorem dX1_bySets_31 : decode cX1_bySets 31 = .ok (.ishl, 1) := by decide +kernel
theorem dX1_bySets_32 : decode cX1_bySets 32 = .ok (.iconst 1, 1) := by decide +kernel
theorem dX1_bySets_33 : decode cX1_bySets 33 = .ok (.isub, 1) := by decide +kernel
theorem dX1_bySets_34 : decode cX1_bySets 34 = .ok (.istore_n 2, 1) := by decide +kernel
theorem dX1_bySets_35 : decode cX1_bySets 35 = .ok (.iconst 1, 1) := by decide +kernel
theorem dX1_bySets_36 : decode cX1_bySets 36 = .ok (.istore_n 3, 1) := by decide +kernel
theorem dX1_bySets_37 : decode cX1_bySets 37 = .ok (.iload_n 3, 1) := by decide +kernel
theorem dX1_bySets_38 : decode cX1_bySets 38 = .ok (.iload_n 2, 1) := by decide +kernel
theorem dX1_bySets_39 : decode cX1_bySets 39 = .ok (.if_icmp .gt 21, 3) := by decide +kernel
theorem dX1_bySets_42 : decode cX1_bySets 42 = .ok (.iload_n 3, 1) := by decide +kernel
theorem dX1_bySets_43 : decode cX1_bySets 43 = .ok (.sipush 1024, 3) := by decide +kernel
theorem dX1_bySets_46 : decode cX1_bySets 46 = .ok (.if_icmp .ge 14, 3) := by decide +kernel
theorem dX1_bySets_49 : decode cX1_bySets 49 = .ok (.aload_n 0, 1) := by decide +kernel
theorem dX1_bySets_50 : decode cX1_bySets 50 = .ok (.iload_n 3, 1) := by decide +kernel
theorem dX1_bySets_51 : decode cX1_bySets 51 = .ok (.invokevirtual 36, 3) := by decide +kernel
theorem dX1_bySets_54 : decode cX1_bySets 54 = .ok (.iinc 3 1, 3) := by decide +kernel
theorem dX1_bySets_57 : decode cX1_bySets 57 = .ok (.goto (-20), 3) := by decide +kernel
theorem dX1_bySets_60 : decode cX1_bySets 60 = .ok (.iload_n 2, 1) := by decide +kernel
theorem dX1_bySets_61 : decode cX1_bySets 61 = .ok (.ifCond .lt 19, 3) := by decide +kernel
theorem dX1_bySets_64 : decode cX1_bySets 64 = .ok (.iload_n 2, 1) := by decide +kernel
theorem dX1_bySets_65 : decode cX1_bySets 65 = .ok (.sipush 1024, 3) := by decide +kernel
theorem dX1_bySets_68 : decode cX1_bySets 68 = .ok (.if_icmp .ge 12, 3) := by decide +kernel
theorem dX1_bySets_71 : decode cX1_bySets 71 = .ok (.aload_n 0, 1) := by decide +kernel
theorem dX1_bySets_72 : decode cX1_bySets 72 = .ok (.getfield 22, 3) := by decide +kernel
theorem dX1_bySets_75 : decode cX1_bySets 75 = .ok (.iload_n 2, 1) := by decide +kernel
theorem dX1_bySets_76 : decode cX1_bySets 76 = .ok (.iaload, 1) := by decide +kernel
theorem dX1_bySets_77 : decode cX1_bySets 77 = .ok (.goto 4, 3) := by decide +kernel
theorem dX1_bySets_80 : decode cX1_bySets 80 = .ok (.iconst (-1), 1) := by decide +kernel
theorem dX1_bySets_81 : decode cX1_bySets 81 = .ok (.ireturn, 1) := by decide +kernel
theorem dX1_solveSet_0 : decode cX1_solveSet 0 = .ok (.iload_n 1, 1) := by decide +kernel
theorem dX1_solveSet_1 : decode cX1_solveSet 1 = .ok (.ifCond .le 10, 3) := by decide +kernel
theorem dX1_solveSet_4 : decode cX1_solveSet 4 = .ok (.iload_n 1, 1) := by decide +kernel
theorem dX1_solveSet_5 : decode cX1_solveSet 5 = .ok (.sipush 1024, 3) := by decide +kernel
theorem dX1_solveSet_8 : decode cX1_solveSet 8 = .ok (.if_icmp .lt 4, 3) := by decide +kernel
theorem dX1_solveSet_11 : decode cX1_solveSet 11 = .ok (.return_, 1) := by decide +kernel
theorem dX1_solveSet_12 : decode cX1_solveSet 12 = .ok (.aload_n 0, 1) := by decide +kernel
theorem dX1_solveSet_13 : decode cX1_solveSet 13 = .ok (.getfield 22, 3) := by decide +kernel
theorem dX1_solveSet_16 : decode cX1_solveSet 16 = .ok (.iload_n 1, 1) := by decide +kernel
theorem dX1_solveSet_17 : decode cX1_solveSet 17 = .ok (.bipush 11, 2) := by decide +kernel
theorem dX1_solveSet_19 : decode cX1_solveSet 19 = .ok (.iastore, 1) := by decide +kernel
theorem dX1_solveSet_20 : decode cX1_solveSet 20 = .ok (.aload_n 0, 1) := by decide +kernel
theorem dX1_solveSet_21 : decode cX1_solveSet 21 = .ok (.getfield 25, 3) := by decide +kernel
theorem dX1_solveSet_24 : decode cX1_solveSet 24 = .ok (.iload_n 1, 1) := by decide +kernel
theorem dX1_solveSet_25 : decode cX1_solveSet 25 = .ok (.bipush 16, 2) := by decide +kernel
theorem dX1_solveSet_27 : decode cX1_solveSet 27 = .ok (.iastore, 1) := by decide +kernel
theorem dX1_solveSet_28 : decode cX1_solveSet 28 = .ok (.iconst 0, 1) := by decide +kernel
theorem dX1_solveSet_29 : decode cX1_solveSet 29 = .ok (.istore_n 2, 1) := by decide +kernel
theorem dX1_solveSet_30 : decode cX1_solveSet 30 = .ok (.iload_n 2, 1) := by decide +kernel
theorem dX1_solveSet_31 : decode cX1_solveSet 31 = .ok (.bipush 10, 2) := by decide +kernel
theorem dX1_solveSet_33 : decode cX1_solveSet 33 = .ok (.if_icmp .ge 160, 3) := by decide +kernel
theorem dX1_solveSet_36 : decode cX1_solveSet 36 = .ok (.iload_n 1, 1) := by decide +kernel
theorem dX1_solveSet_37 : decode cX1_solveSet 37 = .ok (.iload_n 2, 1) := by decide +kernel
theorem dX1_solveSet_38 : decode cX1_solveSet 38 = .ok (.ishr, 1) := by decide +kernel
theorem dX1_solveSet_39 : decode cX1_solveSet 39 = .ok (.iconst 1, 1) := by decide +kernel
theorem dX1_solveSet_40 : decode cX1_solveSet 40 = .ok (.iand, 1) := by decide +kernel
theorem dX1_solveSet_41 : decode cX1_solveSet 41 = .ok (.iconst 1, 1) := by decide +kernel
theorem dX1_solveSet_42 : decode cX1_solveSet 42 = .ok (.if_icmp .ne 145, 3) := by decide +kernel
theorem dX1_solveSet_45 : decode cX1_solveSet 45 = .ok (.iload_n 1, 1) := by decide +kernel
theorem dX1_solveSet_46 : decode cX1_solveSet 46 = .ok (.iconst 1, 1) := by decide +kernel
theorem dX1_solveSet_47 : decode cX1_solveSet 47 = .ok (.iload_n 2, 1) := by decide +kernel
theorem dX1_solveSet_48 : decode cX1_solveSet 48 = .ok (.ishl, 1) := by decide +kernel
theorem dX1_solveSet_49 : decode cX1_solveSet 49 = .ok (.isub, 1) := by decide +kernel
theorem dX1_solveSet_50 : decode cX1_solveSet 50 = .ok (.istore_n 3, 1) := by decide +kernel
theorem dX1_solveSet_51 : decode cX1_solveSet 51 = .ok (.aload_n 0, 1) := by decide +kernel
theorem dX1_solveSet_52 : decode cX1_solveSet 52 = .ok (.getfield 25, 3) := by decide +kernel
theorem dX1_solveSet_55 : decode cX1_solveSet 55 = .ok (.iload_n 3, 1) := by decide +kernel
theorem dX1_solveSet_56 : decode cX1_solveSet 56 = .ok (.iaload, 1) := by decide +kernel
theorem dX1_solveSet_57 : decode cX1_solveSet 57 = .ok (.aload_n 0, 1) := by decide +kernel
theorem dX1_solveSet_58 : decode cX1_solveSet 58 = .ok (.getfield 12, 3) := by decide +kernel
theorem dX1_solveSet_61 : decode cX1_solveSet 61 = .ok (.getfield 40, 3) := by decide +kernel
theorem dX1_solveSet_64 : decode cX1_solveSet 64 = .ok (.iload_n 2, 1) := by decide +kernel
theorem dX1_solveSet_65 : decode cX1_solveSet 65 = .ok (.iaload, 1) := by decide +kernel
theorem dX1_solveSet_66 : decode cX1_solveSet 66 = .ok (.iadd, 1) := by decide +kernel
theorem dX1_solveSet_67 : decode cX1_solveSet 67 = .ok (.bipush 16, 2) := by decide +kernel
theorem dX1_solveSet_69 : decode cX1_solveSet 69 = .ok (.if_icmp .gt 7, 3) := by decide +kernel
theorem dX1_solveSet_72 : decode cX1_solveSet 72 = .ok (.iconst 1, 1) := by decide +kernel
theorem dX1_solveSet_73 : decode cX1_solveSet 73 = .ok (.goto 4, 3) := by decide +kernel
theorem dX1_solveSet_76 : decode cX1_solveSet 76 = .ok (.iconst 0, 1) := by decide +kernel
theorem dX1_solveSet_77 : decode cX1_solveSet 77 = .ok (.istore 4, 2) := by decide +kernel
theorem dX1_solveSet_79 : decode cX1_solveSet 79 = .ok (.iload 4, 2) := by decide +kernel
theorem dX1_solveSet_81 : decode cX1_solveSet 81 = .ok (.ifCond .eq 12, 3) := by decide +kernel
theorem dX1_solveSet_84 : decode cX1_solveSet 84 = .ok (.aload_n 0, 1) := by decide +kernel
theorem dX1_solveSet_85 : decode cX1_solveSet 85 = .ok (.getfield 22, 3) := by decide +kernel
theorem dX1_solveSet_88 : decode cX1_solveSet 88 = .ok (.iload_n 3, 1) := by decide +kernel
theorem dX1_solveSet_89 : decode cX1_solveSet 89 = .ok (.iaload, 1) := by decide +kernel
theorem dX1_solveSet_90 : decode cX1_solveSet 90 = .ok (.goto 11, 3) := by decide +kernel
theorem dX1_solveSet_93 : decode cX1_solveSet 93 = .ok (.aload_n 0, 1) := by decide +kernel
theorem dX1_solveSet_94 : decode cX1_solveSet 94 = .ok (.getfield 22, 3) := by decide +kernel
theorem dX1_solveSet_97 : decode cX1_solveSet 97 = .ok (.iload_n 3, 1) := by decide +kernel
theorem dX1_solveSet_98 : decode cX1_solveSet 98 = .ok (.iaload, 1) := by decide +kernel
theorem dX1_solveSet_99 : decode cX1_solveSet 99 = .ok (.iconst 1, 1) := by decide +kernel
theorem dX1_solveSet_100 : decode cX1_solveSet 100 = .ok (.iadd, 1) := by decide +kernel
theorem dX1_solveSet_101 : decode cX1_solveSet 101 = .ok (.istore 5, 2) := by decide +kernel
theorem dX1_solveSet_103 : decode cX1_solveSet 103 = .ok (.iload 4, 2) := by decide +kernel
theorem dX1_solveSet_105 : decode cX1_solveSet 105 = .ok (.ifCond .eq 22, 3) := by decide +kernel
theorem dX1_solveSet_108 : decode cX1_solveSet 108 = .ok (.aload_n 0, 1) := by decide +kernel
theorem dX1_solveSet_109 : decode cX1_solveSet 109 = .ok (.getfield 25, 3) := by decide +kernel
theorem dX1_solveSet_112 : decode cX1_solveSet 112 = .ok (.iload_n 3, 1) := by decide +kernel
theorem dX1_solveSet_113 : decode cX1_solveSet 113 = .ok (.iaload, 1) := by decide +kernel
theorem dX1_solveSet_114 : decode cX1_solveSet 114 = .ok (.aload_n 0, 1) := by decide +kernel
theorem dX1_solveSet_115 : decode cX1_solveSet 115 = .ok (.getfield 12, 3) := by decide +kernel
theorem dX1_solveSet_118 : decode cX1_solveSet 118 = .ok (.getfield 40, 3) := by decide +kernel
theorem dX1_solveSet_121 : decode cX1_solveSet 121 = .ok (.iload_n 2, 1) := by decide +kernel
theorem dX1_solveSet_122 : decode cX1_solveSet 122 = .ok (.iaload, 1) := by decide +kernel
theorem dX1_solveSet_123 : decode cX1_solveSet 123 = .ok (.iadd, 1) := by decide +kernel
theorem dX1_solveSet_124 : decode cX1_solveSet 124 = .ok (.goto 12, 3) := by decide +kernel
theorem dX1_solveSet_127 : decode cX1_solveSet 127 = .ok (.aload_n 0, 1) := by decide +kernel
theorem dX1_solveSet_128 : decode cX1_solveSet 128 = .ok (.getfield 12, 3) := by decide +kernel
theorem dX1_solveSet_131 : decode cX1_solveSet 131 = .ok (.getfield 40, 3) := by decide +kernel
theorem dX1_solveSet_134 : decode cX1_solveSet 134 = .ok (.iload_n 2, 1) := by decide +kernel
theorem dX1_solveSet_135 : decode cX1_solveSet 135 = .ok (.iaload, 1) := by decide +kernel
theorem dX1_solveSet_136 : decode cX1_solveSet 136 = .ok (.istore 6, 2) := by decide +kernel
theorem dX1_solveSet_138 : decode cX1_solveSet 138 = .ok (.iload 5, 2) := by decide +kernel
theorem dX1_solveSet_140 : decode cX1_solveSet 140 = .ok (.aload_n 0, 1) := by decide +kernel
theorem dX1_solveSet_141 : decode cX1_solveSet 141 = .ok (.getfield 22, 3) := by decide +kernel
theorem dX1_solveSet_144 : decode cX1_solveSet 144 = .ok (.iload_n 1, 1) := by decide +kernel
theorem dX1_solveSet_145 : decode cX1_solveSet 145 = .ok (.iaload, 1) := by decide +kernel
theorem dX1_solveSet_146 : decode cX1_solveSet 146 = .ok (.if_icmp .lt 25, 3) := by decide +kernel
theorem dX1_solveSet_149 : decode cX1_solveSet 149 = .ok (.iload 5, 2) := by decide +kernel
theorem dX1_solveSet_151 : decode cX1_solveSet 151 = .ok (.aload_n 0, 1) := by decide +kernel
theorem dX1_solveSet_152 : decode cX1_solveSet 152 = .ok (.getfield 22, 3) := by decide +kernel
theorem dX1_solveSet_155 : decode cX1_solveSet 155 = .ok (.iload_n 1, 1) := by decide +kernel
theorem dX1_solveSet_156 : decode cX1_solveSet 156 = .ok (.iaload, 1) := by decide +kernel
theorem dX1_solveSet_157 : decode cX1_solveSet 157 = .ok (.if_icmp .ne 30, 3) := by decide +kernel
theorem dX1_solveSet_160 : decode cX1_solveSet 160 = .ok (.iload 6, 2) := by decide +kernel
theorem dX1_solveSet_162 : decode cX1_solveSet 162 = .ok (.aload_n 0, 1) := by decide +kernel
theorem dX1_solveSet_163 : decode cX1_solveSet 163 = .ok (.getfield 25, 3) := by decide +kernel
theorem dX1_solveSet_166 : decode cX1_solveSet 166 = .ok (.iload_n 1, 1) := by decide +kernel
theorem dX1_solveSet_167 : decode cX1_solveSet 167 = .ok (.iaload, 1) := by decide +kernel
theorem dX1_solveSet_168 : decode cX1_solveSet 168 = .ok (.if_icmp .ge 19, 3) := by decide +kernel
theorem dX1_solveSet_171 : decode cX1_solveSet 171 = .ok (.aload_n 0, 1) := by decide +kernel
theorem dX1_solveSet_172 : decode cX1_solveSet 172 = .ok (.getfield 22, 3) := by decide +kernel
theorem dX1_solveSet_175 : decode cX1_solveSet 175 = .ok (.iload_n 1, 1) := by decide +kernel
theorem dX1_solveSet_176 : decode cX1_solveSet 176 = .ok (.iload 5, 2) := by decide +kernel
theorem dX1_solveSet_178 : decode cX1_solveSet 178 = .ok (.iastore, 1) := by decide +kernel
theorem dX1_solveSet_179 : decode cX1_solveSet 179 = .ok (.aload_n 0, 1) := by decide +kernel
theorem dX1_solveSet_180 : decode cX1_solveSet 180 = .ok (.getfield 25, 3) := by decide +kernel
theorem dX1_solveSet_183 : decode cX1_solveSet 183 = .ok (.iload_n 1, 1) := by decide +kernel
theorem dX1_solveSet_184 : decode cX1_solveSet 184 = .ok (.iload 6, 2) := by decide +kernel
theorem dX1_solveSet_186 : decode cX1_solveSet 186 = .ok (.iastore, 1) := by decide +kernel
theorem dX1_solveSet_187 : decode cX1_solveSet 187 = .ok (.iinc 2 1, 3) := by decide +kernel
theorem dX1_solveSet_190 : decode cX1_solveSet 190 = .ok (.goto (-160), 3) := by decide +kernel
theorem dX1_solveSet_193 : decode cX1_solveSet 193 = .ok (.return_, 1) := by decide +kernel
theorem dX1_byTrying_0 : decode cX1_byTrying 0 = .ok (.aload_n 0, 1) := by decide +kernel
theorem dX1_byTrying_1 : decode cX1_byTrying 1 = .ok (.getfield 12, 3) := by decide +kernel
theorem dX1_byTrying_4 : decode cX1_byTrying 4 = .ok (.aload_n 1, 1) := by decide +kernel
theorem dX1_byTrying_5 : decode cX1_byTrying 5 = .ok (.invokevirtual 28, 3) := by decide +kernel
theorem dX1_byTrying_8 : decode cX1_byTrying 8 = .ok (.iconst 0, 1) := by decide +kernel
theorem dX1_byTrying_9 : decode cX1_byTrying 9 = .ok (.istore_n 2, 1) := by decide +kernel
theorem dX1_byTrying_10 : decode cX1_byTrying 10 = .ok (.iload_n 2, 1) := by decide +kernel
theorem dX1_byTrying_11 : decode cX1_byTrying 11 = .ok (.bipush 10, 2) := by decide +kernel
theorem dX1_byTrying_13 : decode cX1_byTrying 13 = .ok (.if_icmp .ge 16, 3) := by decide +kernel
theorem dX1_byTrying_16 : decode cX1_byTrying 16 = .ok (.aload_n 0, 1) := by decide +kernel
theorem dX1_byTrying_17 : decode cX1_byTrying 17 = .ok (.getfield 18, 3) := by decide +kernel
theorem dX1_byTrying_20 : decode cX1_byTrying 20 = .ok (.iload_n 2, 1) := by decide +kernel
theorem dX1_byTrying_21 : decode cX1_byTrying 21 = .ok (.iconst 0, 1) := by decide +kernel
theorem dX1_byTrying_22 : decode cX1_byTrying 22 = .ok (.iastore, 1) := by decide +kernel
theorem dX1_byTrying_23 : decode cX1_byTrying 23 = .ok (.iinc 2 1, 3) := by decide +kernel
theorem dX1_byTrying_26 : decode cX1_byTrying 26 = .ok (.goto (-16), 3) := by decide +kernel
theorem dX1_byTrying_29 : decode cX1_byTrying 29 = .ok (.aload_n 0, 1) := by decide +kernel
theorem dX1_byTrying_30 : decode cX1_byTrying 30 = .ok (.getfield 12, 3) := by decide +kernel
theorem dX1_byTrying_33 : decode cX1_byTrying 33 = .ok (.invokevirtual 43, 3) := by decide +kernel
theorem dX1_byTrying_36 : decode cX1_byTrying 36 = .ok (.bipush 16, 2) := by decide +kernel
theorem dX1_byTrying_38 : decode cX1_byTrying 38 = .ok (.iadd, 1) := by decide +kernel
theorem dX1_byTrying_39 : decode cX1_byTrying 39 = .ok (.iconst 1, 1) := by decide +kernel
theorem dX1_byTrying_40 : decode cX1_byTrying 40 = .ok (.isub, 1) := by decide +kernel
theorem dX1_byTrying_41 : decode cX1_byTrying 41 = .ok (.bipush 16, 2) := by decide +kernel
theorem dX1_byTrying_43 : decode cX1_byTrying 43 = .ok (.idiv, 1) := by decide +kernel
theorem dX1_byTrying_44 : decode cX1_byTrying 44 = .ok (.istore_n 2, 1) := by decide +kernel
theorem dX1_byTrying_45 : decode cX1_byTrying 45 = .ok (.aload_n 0, 1) := by decide +kernel
theorem dX1_byTrying_46 : decode cX1_byTrying 46 = .ok (.getfield 12, 3) := by decide +kernel
theorem dX1_byTrying_49 : decode cX1_byTrying 49 = .ok (.aload_n 0, 1) := by decide +kernel
theorem dX1_byTrying_50 : decode cX1_byTrying 50 = .ok (.getfield 18, 3) := by decide +kernel
theorem dX1_byTrying_53 : decode cX1_byTrying 53 = .ok (.iconst 0, 1) := by decide +kernel
theorem dX1_byTrying_54 : decode cX1_byTrying 54 = .ok (.iconst 0, 1) := by decide +kernel
theorem dX1_byTrying_55 : decode cX1_byTrying 55 = .ok (.aload_n 0, 1) := by decide +kernel
theorem dX1_byTrying_56 : decode cX1_byTrying 56 = .ok (.getfield 12, 3) := by decide +kernel
theorem dX1_byTrying_59 : decode cX1_byTrying 59 = .ok (.getfield 32, 3) := by decide +kernel
theorem dX1_byTrying_62 : decode cX1_byTrying 62 = .ok (.iload_n 2, 1) := by decide +kernel
theorem dX1_byTrying_63 : decode cX1_byTrying 63 = .ok (.invokestatic 47, 3) := by decide +kernel
theorem dX1_byTrying_66 : decode cX1_byTrying 66 = .ok (.ireturn, 1) := by decide +kernel
theorem dX1_tryTail_0 : decode cX1_tryTail 0 = .ok (.iload_n 3, 1) := by decide +kernel
theorem dX1_tryTail_1 : decode cX1_tryTail 1 = .ok (.iload 4, 2) := by decide +kernel
theorem dX1_tryTail_3 : decode cX1_tryTail 3 = .ok (.if_icmp .ge 10, 3) := by decide +kernel
theorem dX1_tryTail_6 : decode cX1_tryTail 6 = .ok (.iload 4, 2) := by decide +kernel
theorem dX1_tryTail_8 : decode cX1_tryTail 8 = .ok (.iload 5, 2) := by decide +kernel
theorem dX1_tryTail_10 : decode cX1_tryTail 10 = .ok (.if_icmp .gt 6, 3) := by decide +kernel
theorem dX1_tryTail_13 : decode cX1_tryTail 13 = .ok (.iload 4, 2) := by decide +kernel
theorem dX1_tryTail_15 : decode cX1_tryTail 15 = .ok (.ireturn, 1) := by decide +kernel
theorem dX1_tryTail_16 : decode cX1_tryTail 16 = .ok (.iload_n 2, 1) := by decide +kernel
theorem dX1_tryTail_17 : decode cX1_tryTail 17 = .ok (.aload_n 0, 1) := by decide +kernel
theorem dX1_tryTail_18 : decode cX1_tryTail 18 = .ok (.getfield 32, 3) := by decide +kernel
theorem dX1_tryTail_21 : decode cX1_tryTail 21 = .ok (.if_icmp .ge 9, 3) := by decide +kernel
theorem dX1_tryTail_24 : decode cX1_tryTail 24 = .ok (.iload_n 2, 1) := by decide +kernel
theorem dX1_tryTail_25 : decode cX1_tryTail 25 = .ok (.bipush 10, 2) := by decide +kernel
theorem dX1_tryTail_27 : decode cX1_tryTail 27 = .ok (.if_icmp .lt 5, 3) := by decide +kernel
theorem dX1_tryTail_30 : decode cX1_tryTail 30 = .ok (.iload_n 3, 1) := by decide +kernel
theorem dX1_tryTail_31 : decode cX1_tryTail 31 = .ok (.ireturn, 1) := by decide +kernel
theorem dX1_tryTail_32 : decode cX1_tryTail 32 = .ok (.iload 4, 2) := by decide +kernel
theorem dX1_tryTail_34 : decode cX1_tryTail 34 = .ok (.istore 6, 2) := by decide +kernel
theorem dX1_tryTail_36 : decode cX1_tryTail 36 = .ok (.iconst 0, 1) := by decide +kernel
theorem dX1_tryTail_37 : decode cX1_tryTail 37 = .ok (.istore 7, 2) := by decide +kernel
theorem dX1_tryTail_39 : decode cX1_tryTail 39 = .ok (.iload 7, 2) := by decide +kernel
theorem dX1_tryTail_41 : decode cX1_tryTail 41 = .ok (.iload_n 3, 1) := by decide +kernel
theorem dX1_tryTail_42 : decode cX1_tryTail 42 = .ok (.if_icmp .gt 96, 3) := by decide +kernel
theorem dX1_tryTail_45 : decode cX1_tryTail 45 = .ok (.iload 7, 2) := by decide +kernel
theorem dX1_tryTail_47 : decode cX1_tryTail 47 = .ok (.bipush 10, 2) := by decide +kernel
theorem dX1_tryTail_49 : decode cX1_tryTail 49 = .ok (.if_icmp .ge 89, 3) := by decide +kernel
theorem dX1_tryTail_52 : decode cX1_tryTail 52 = .ok (.iload 7, 2) := by decide +kernel
theorem dX1_tryTail_54 : decode cX1_tryTail 54 = .ok (.aload_n 1, 1) := by decide +kernel
theorem dX1_tryTail_55 : decode cX1_tryTail 55 = .ok (.arraylength, 1) := by decide +kernel
theorem dX1_tryTail_56 : decode cX1_tryTail 56 = .ok (.if_icmp .ge 82, 3) := by decide +kernel
theorem dX1_tryTail_59 : decode cX1_tryTail 59 = .ok (.aload_n 1, 1) := by decide +kernel
theorem dX1_tryTail_60 : decode cX1_tryTail 60 = .ok (.iload 7, 2) := by decide +kernel
theorem dX1_tryTail_62 : decode cX1_tryTail 62 = .ok (.iaload, 1) := by decide +kernel
theorem dX1_tryTail_63 : decode cX1_tryTail 63 = .ok (.aload_n 0, 1) := by decide +kernel
theorem dX1_tryTail_64 : decode cX1_tryTail 64 = .ok (.getfield 40, 3) := by decide +kernel
theorem dX1_tryTail_67 : decode cX1_tryTail 67 = .ok (.iload_n 2, 1) := by decide +kernel
theorem dX1_tryTail_68 : decode cX1_tryTail 68 = .ok (.iaload, 1) := by decide +kernel
theorem dX1_tryTail_69 : decode cX1_tryTail 69 = .ok (.iadd, 1) := by decide +kernel
theorem dX1_tryTail_70 : decode cX1_tryTail 70 = .ok (.bipush 16, 2) := by decide +kernel
theorem dX1_tryTail_72 : decode cX1_tryTail 72 = .ok (.if_icmp .gt 60, 3) := by decide +kernel
theorem dX1_tryTail_75 : decode cX1_tryTail 75 = .ok (.aload_n 1, 1) := by decide +kernel
theorem dX1_tryTail_76 : decode cX1_tryTail 76 = .ok (.iload 7, 2) := by decide +kernel
theorem dX1_tryTail_78 : decode cX1_tryTail 78 = .ok (.dup2, 1) := by decide +kernel
theorem dX1_tryTail_79 : decode cX1_tryTail 79 = .ok (.iaload, 1) := by decide +kernel
theorem dX1_tryTail_80 : decode cX1_tryTail 80 = .ok (.aload_n 0, 1) := by decide +kernel
theorem dX1_tryTail_81 : decode cX1_tryTail 81 = .ok (.getfield 40, 3) := by decide +kernel
theorem dX1_tryTail_84 : decode cX1_tryTail 84 = .ok (.iload_n 2, 1) := by decide +kernel
theorem dX1_tryTail_85 : decode cX1_tryTail 85 = .ok (.iaload, 1) := by decide +kernel
theorem dX1_tryTail_86 : decode cX1_tryTail 86 = .ok (.iadd, 1) := by decide +kernel
theorem dX1_tryTail_87 : decode cX1_tryTail 87 = .ok (.iastore, 1) := by decide +kernel
theorem dX1_tryTail_88 : decode cX1_tryTail 88 = .ok (.iload 7, 2) := by decide +kernel
theorem dX1_tryTail_90 : decode cX1_tryTail 90 = .ok (.iload_n 3, 1) := by decide +kernel
theorem dX1_tryTail_91 : decode cX1_tryTail 91 = .ok (.if_icmp .ne 9, 3) := by decide +kernel
theorem dX1_tryTail_94 : decode cX1_tryTail 94 = .ok (.iload_n 3, 1) := by decide +kernel
theorem dX1_tryTail_95 : decode cX1_tryTail 95 = .ok (.iconst 1, 1) := by decide +kernel
theorem dX1_tryTail_96 : decode cX1_tryTail 96 = .ok (.iadd, 1) := by decide +kernel
theorem dX1_tryTail_97 : decode cX1_tryTail 97 = .ok (.goto 4, 3) := by decide +kernel
theorem dX1_tryTail_100 : decode cX1_tryTail 100 = .ok (.iload_n 3, 1) := by decide +kernel
theorem dX1_tryTail_101 : decode cX1_tryTail 101 = .ok (.istore 8, 2) := by decide +kernel
theorem dX1_tryTail_103 : decode cX1_tryTail 103 = .ok (.aload_n 0, 1) := by decide +kernel
theorem dX1_tryTail_104 : decode cX1_tryTail 104 = .ok (.aload_n 1, 1) := by decide +kernel
theorem dX1_tryTail_105 : decode cX1_tryTail 105 = .ok (.iload_n 2, 1) := by decide +kernel
theorem dX1_tryTail_106 : decode cX1_tryTail 106 = .ok (.iconst 1, 1) := by decide +kernel
theorem dX1_tryTail_107 : decode cX1_tryTail 107 = .ok (.iadd, 1) := by decide +kernel
theorem dX1_tryTail_108 : decode cX1_tryTail 108 = .ok (.iload 8, 2) := by decide +kernel
theorem dX1_tryTail_110 : decode cX1_tryTail 110 = .ok (.iload 6, 2) := by decide +kernel
theorem dX1_tryTail_112 : decode cX1_tryTail 112 = .ok (.iload 5, 2) := by decide +kernel
theorem dX1_tryTail_114 : decode cX1_tryTail 114 = .ok (.invokestatic 47, 3) := by decide +kernel
theorem dX1_tryTail_117 : decode cX1_tryTail 117 = .ok (.istore 6, 2) := by decide +kernel
theorem dX1_tryTail_119 : decode cX1_tryTail 119 = .ok (.aload_n 1, 1) := by decide +kernel
theorem dX1_tryTail_120 : decode cX1_tryTail 120 = .ok (.iload 7, 2) := by decide +kernel
theorem dX1_tryTail_122 : decode cX1_tryTail 122 = .ok (.dup2, 1) := by decide +kernel
theorem dX1_tryTail_123 : decode cX1_tryTail 123 = .ok (.iaload, 1) := by decide +kernel
theorem dX1_tryTail_124 : decode cX1_tryTail 124 = .ok (.aload_n 0, 1) := by decide +kernel
theorem dX1_tryTail_125 : decode cX1_tryTail 125 = .ok (.getfield 40, 3) := by decide +kernel
theorem dX1_tryTail_128 : decode cX1_tryTail 128 = .ok (.iload_n 2, 1) := by decide +kernel
theorem dX1_tryTail_129 : decode cX1_tryTail 129 = .ok (.iaload, 1) := by decide +kernel
theorem dX1_tryTail_130 : decode cX1_tryTail 130 = .ok (.isub, 1) := by decide +kernel
theorem dX1_tryTail_131 : decode cX1_tryTail 131 = .ok (.iastore, 1) := by decide +kernel
theorem dX1_tryTail_132 : decode cX1_tryTail 132 = .ok (.iinc 7 1, 3) := by decide +kernel
theorem dX1_tryTail_135 : decode cX1_tryTail 135 = .ok (.goto (-96), 3) := by decide +kernel
theorem dX1_tryTail_138 : decode cX1_tryTail 138 = .ok (.iload 6, 2) := by decide +kernel
theorem dX1_tryTail_140 : decode cX1_tryTail 140 = .ok (.ireturn, 1) := by decide +kernel
theorem dX2_init_0 : decode cX2_init 0 = .ok (.aload_n 0, 1) := by decide +kernel
theorem dX2_init_1 : decode cX2_init 1 = .ok (.invokespecial 3, 3) := by decide +kernel
theorem dX2_init_4 : decode cX2_init 4 = .ok (.aload_n 0, 1) := by decide +kernel
theorem dX2_init_5 : decode cX2_init 5 = .ok (.bipush 6, 2) := by decide +kernel
theorem dX2_init_7 : decode cX2_init 7 = .ok (.anewarray 9, 3) := by decide +kernel
theorem dX2_init_10 : decode cX2_init 10 = .ok (.putfield 11, 3) := by decide +kernel
theorem dX2_init_13 : decode cX2_init 13 = .ok (.aload_n 0, 1) := by decide +kernel
theorem dX2_init_14 : decode cX2_init 14 = .ok (.iconst 0, 1) := by decide +kernel
theorem dX2_init_15 : decode cX2_init 15 = .ok (.putfield 17, 3) := by decide +kernel
theorem dX2_init_18 : decode cX2_init 18 = .ok (.iconst 0, 1) := by decide +kernel
theorem dX2_init_19 : decode cX2_init 19 = .ok (.istore_n 1, 1) := by decide +kernel
theorem dX2_init_20 : decode cX2_init 20 = .ok (.iload_n 1, 1) := by decide +kernel
theorem dX2_init_21 : decode cX2_init 21 = .ok (.bipush 6, 2) := by decide +kernel
theorem dX2_init_23 : decode cX2_init 23 = .ok (.if_icmp .ge 22, 3) := by decide +kernel
theorem dX2_init_26 : decode cX2_init 26 = .ok (.aload_n 0, 1) := by decide +kernel
theorem dX2_init_27 : decode cX2_init 27 = .ok (.getfield 11, 3) := by decide +kernel
theorem dX2_init_30 : decode cX2_init 30 = .ok (.iload_n 1, 1) := by decide +kernel
theorem dX2_init_31 : decode cX2_init 31 = .ok (.new 9, 3) := by decide +kernel
theorem dX2_init_34 : decode cX2_init 34 = .ok (.dup, 1) := by decide +kernel
theorem dX2_init_35 : decode cX2_init 35 = .ok (.invokespecial 21, 3) := by decide +kernel
theorem dX2_init_38 : decode cX2_init 38 = .ok (.aastore, 1) := by decide +kernel
theorem dX2_init_39 : decode cX2_init 39 = .ok (.iinc 1 1, 3) := by decide +kernel
theorem dX2_init_42 : decode cX2_init 42 = .ok (.goto (-22), 3) := by decide +kernel
theorem dX2_init_45 : decode cX2_init 45 = .ok (.return_, 1) := by decide +kernel
theorem dX2_held_0 : decode cX2_held 0 = .ok (.aload_n 0, 1) := by decide +kernel
theorem dX2_held_1 : decode cX2_held 1 = .ok (.getfield 17, 3) := by decide +kernel
theorem dX2_held_4 : decode cX2_held 4 = .ok (.ireturn, 1) := by decide +kernel
theorem dX2_store_0 : decode cX2_store 0 = .ok (.aload_n 0, 1) := by decide +kernel
theorem dX2_store_1 : decode cX2_store 1 = .ok (.getfield 17, 3) := by decide +kernel
theorem dX2_store_4 : decode cX2_store 4 = .ok (.bipush 6, 2) := by decide +kernel
theorem dX2_store_6 : decode cX2_store 6 = .ok (.if_icmp .lt 7, 3) := by decide +kernel
theorem dX2_store_9 : decode cX2_store 9 = .ok (.aload_n 0, 1) := by decide +kernel
theorem dX2_store_10 : decode cX2_store 10 = .ok (.invokevirtual 22, 3) := by decide +kernel
theorem dX2_store_13 : decode cX2_store 13 = .ok (.aload_n 0, 1) := by decide +kernel
theorem dX2_store_14 : decode cX2_store 14 = .ok (.getfield 17, 3) := by decide +kernel
theorem dX2_store_17 : decode cX2_store 17 = .ok (.ifCond .lt 47, 3) := by decide +kernel
theorem dX2_store_20 : decode cX2_store 20 = .ok (.aload_n 0, 1) := by decide +kernel
theorem dX2_store_21 : decode cX2_store 21 = .ok (.getfield 17, 3) := by decide +kernel
theorem dX2_store_24 : decode cX2_store 24 = .ok (.bipush 6, 2) := by decide +kernel
theorem dX2_store_26 : decode cX2_store 26 = .ok (.if_icmp .ge 38, 3) := by decide +kernel
theorem dX2_store_29 : decode cX2_store 29 = .ok (.aload_n 0, 1) := by decide +kernel
theorem dX2_store_30 : decode cX2_store 30 = .ok (.getfield 11, 3) := by decide +kernel
theorem dX2_store_33 : decode cX2_store 33 = .ok (.aload_n 0, 1) := by decide +kernel
theorem dX2_store_34 : decode cX2_store 34 = .ok (.getfield 17, 3) := by decide +kernel
theorem dX2_store_37 : decode cX2_store 37 = .ok (.aaload, 1) := by decide +kernel
theorem dX2_store_38 : decode cX2_store 38 = .ok (.ifnull 26, 3) := by decide +kernel
theorem dX2_store_41 : decode cX2_store 41 = .ok (.aload_n 0, 1) := by decide +kernel
theorem dX2_store_42 : decode cX2_store 42 = .ok (.getfield 11, 3) := by decide +kernel
theorem dX2_store_45 : decode cX2_store 45 = .ok (.aload_n 0, 1) := by decide +kernel
theorem dX2_store_46 : decode cX2_store 46 = .ok (.getfield 17, 3) := by decide +kernel
theorem dX2_store_49 : decode cX2_store 49 = .ok (.aaload, 1) := by decide +kernel
theorem dX2_store_50 : decode cX2_store 50 = .ok (.aload_n 1, 1) := by decide +kernel
theorem dX2_store_51 : decode cX2_store 51 = .ok (.invokevirtual 25, 3) := by decide +kernel
theorem dX2_store_54 : decode cX2_store 54 = .ok (.aload_n 0, 1) := by decide +kernel
theorem dX2_store_55 : decode cX2_store 55 = .ok (.dup, 1) := by decide +kernel
theorem dX2_store_56 : decode cX2_store 56 = .ok (.getfield 17, 3) := by decide +kernel
theorem dX2_store_59 : decode cX2_store 59 = .ok (.iconst 1, 1) := by decide +kernel
theorem dX2_store_60 : decode cX2_store 60 = .ok (.iadd, 1) := by decide +kernel
theorem dX2_store_61 : decode cX2_store 61 = .ok (.putfield 17, 3) := by decide +kernel
theorem dX2_store_64 : decode cX2_store 64 = .ok (.return_, 1) := by decide +kernel
theorem dX2_dropOldest_0 : decode cX2_dropOldest 0 = .ok (.aload_n 0, 1) := by decide +kernel
theorem dX2_dropOldest_1 : decode cX2_dropOldest 1 = .ok (.getfield 11, 3) := by decide +kernel
theorem dX2_dropOldest_4 : decode cX2_dropOldest 4 = .ok (.iconst 0, 1) := by decide +kernel
theorem dX2_dropOldest_5 : decode cX2_dropOldest 5 = .ok (.aaload, 1) := by decide +kernel
theorem dX2_dropOldest_6 : decode cX2_dropOldest 6 = .ok (.astore_n 1, 1) := by decide +kernel
theorem dX2_dropOldest_7 : decode cX2_dropOldest 7 = .ok (.iconst 1, 1) := by decide +kernel
theorem dX2_dropOldest_8 : decode cX2_dropOldest 8 = .ok (.istore_n 2, 1) := by decide +kernel
theorem dX2_dropOldest_9 : decode cX2_dropOldest 9 = .ok (.iload_n 2, 1) := by decide +kernel
theorem dX2_dropOldest_10 : decode cX2_dropOldest 10 = .ok (.bipush 6, 2) := by decide +kernel
theorem dX2_dropOldest_12 : decode cX2_dropOldest 12 = .ok (.if_icmp .ge 23, 3) := by decide +kernel
theorem dX2_dropOldest_15 : decode cX2_dropOldest 15 = .ok (.aload_n 0, 1) := by decide +kernel
theorem dX2_dropOldest_16 : decode cX2_dropOldest 16 = .ok (.getfield 11, 3) := by decide +kernel
theorem dX2_dropOldest_19 : decode cX2_dropOldest 19 = .ok (.iload_n 2, 1) := by decide +kernel
theorem dX2_dropOldest_20 : decode cX2_dropOldest 20 = .ok (.iconst 1, 1) := by decide +kernel
theorem dX2_dropOldest_21 : decode cX2_dropOldest 21 = .ok (.isub, 1) := by decide +kernel
theorem dX2_dropOldest_22 : decode cX2_dropOldest 22 = .ok (.aload_n 0, 1) := by decide +kernel
theorem dX2_dropOldest_23 : decode cX2_dropOldest 23 = .ok (.getfield 11, 3) := by decide +kernel
theorem dX2_dropOldest_26 : decode cX2_dropOldest 26 = .ok (.iload_n 2, 1) := by decide +kernel
theorem dX2_dropOldest_27 : decode cX2_dropOldest 27 = .ok (.aaload, 1) := by decide +kernel
theorem dX2_dropOldest_28 : decode cX2_dropOldest 28 = .ok (.aastore, 1) := by decide +kernel
theorem dX2_dropOldest_29 : decode cX2_dropOldest 29 = .ok (.iinc 2 1, 3) := by decide +kernel
theorem dX2_dropOldest_32 : decode cX2_dropOldest 32 = .ok (.goto (-23), 3) := by decide +kernel
theorem dX2_dropOldest_35 : decode cX2_dropOldest 35 = .ok (.aload_n 0, 1) := by decide +kernel
theorem dX2_dropOldest_36 : decode cX2_dropOldest 36 = .ok (.getfield 11, 3) := by decide +kernel
theorem dX2_dropOldest_39 : decode cX2_dropOldest 39 = .ok (.iconst 5, 1) := by decide +kernel
theorem dX2_dropOldest_40 : decode cX2_dropOldest 40 = .ok (.aload_n 1, 1) := by decide +kernel
theorem dX2_dropOldest_41 : decode cX2_dropOldest 41 = .ok (.aastore, 1) := by decide +kernel
theorem dX2_dropOldest_42 : decode cX2_dropOldest 42 = .ok (.aload_n 0, 1) := by decide +kernel
theorem dX2_dropOldest_43 : decode cX2_dropOldest 43 = .ok (.dup, 1) := by decide +kernel
theorem dX2_dropOldest_44 : decode cX2_dropOldest 44 = .ok (.getfield 17, 3) := by decide +kernel
theorem dX2_dropOldest_47 : decode cX2_dropOldest 47 = .ok (.iconst 1, 1) := by decide +kernel
theorem dX2_dropOldest_48 : decode cX2_dropOldest 48 = .ok (.isub, 1) := by decide +kernel
theorem dX2_dropOldest_49 : decode cX2_dropOldest 49 = .ok (.putfield 17, 3) := by decide +kernel
theorem dX2_dropOldest_52 : decode cX2_dropOldest 52 = .ok (.return_, 1) := by decide +kernel
theorem dX2_restore_0 : decode cX2_restore 0 = .ok (.aload_n 0, 1) := by decide +kernel
theorem dX2_restore_1 : decode cX2_restore 1 = .ok (.getfield 17, 3) := by decide +kernel
theorem dX2_restore_4 : decode cX2_restore 4 = .ok (.ifCond .le 35, 3) := by decide +kernel
theorem dX2_restore_7 : decode cX2_restore 7 = .ok (.aload_n 0, 1) := by decide +kernel
theorem dX2_restore_8 : decode cX2_restore 8 = .ok (.getfield 17, 3) := by decide +kernel
theorem dX2_restore_11 : decode cX2_restore 11 = .ok (.bipush 6, 2) := by decide +kernel
theorem dX2_restore_13 : decode cX2_restore 13 = .ok (.if_icmp .gt 26, 3) := by decide +kernel
theorem dX2_restore_16 : decode cX2_restore 16 = .ok (.aload_n 0, 1) := by decide +kernel
theorem dX2_restore_17 : decode cX2_restore 17 = .ok (.dup, 1) := by decide +kernel
theorem dX2_restore_18 : decode cX2_restore 18 = .ok (.getfield 17, 3) := by decide +kernel
theorem dX2_restore_21 : decode cX2_restore 21 = .ok (.iconst 1, 1) := by decide +kernel
theorem dX2_restore_22 : decode cX2_restore 22 = .ok (.isub, 1) := by decide +kernel
theorem dX2_restore_23 : decode cX2_restore 23 = .ok (.putfield 17, 3) := by decide +kernel
theorem dX2_restore_26 : decode cX2_restore 26 = .ok (.aload_n 1, 1) := by decide +kernel
theorem dX2_restore_27 : decode cX2_restore 27 = .ok (.aload_n 0, 1) := by decide +kernel
theorem dX2_restore_28 : decode cX2_restore 28 = .ok (.getfield 11, 3) := by decide +kernel
theorem dX2_restore_31 : decode cX2_restore 31 = .ok (.aload_n 0, 1) := by decide +kernel
theorem dX2_restore_32 : decode cX2_restore 32 = .ok (.getfield 17, 3) := by decide +kernel
theorem dX2_restore_35 : decode cX2_restore 35 = .ok (.aaload, 1) := by decide +kernel
theorem dX2_restore_36 : decode cX2_restore 36 = .ok (.invokevirtual 25, 3) := by decide +kernel
theorem dX2_restore_39 : decode cX2_restore 39 = .ok (.return_, 1) := by decide +kernel
theorem dX3_init_0 : decode cX3_init 0 = .ok (.aload_n 0, 1) := by decide +kernel
theorem dX3_init_1 : decode cX3_init 1 = .ok (.invokespecial 3, 3) := by decide +kernel
theorem dX3_init_4 : decode cX3_init 4 = .ok (.aload_n 0, 1) := by decide +kernel
theorem dX3_init_5 : decode cX3_init 5 = .ok (.iconst 0, 1) := by decide +kernel
theorem dX3_init_6 : decode cX3_init 6 = .ok (.putfield 11, 3) := by decide +kernel
theorem dX3_init_9 : decode cX3_init 9 = .ok (.aload_n 0, 1) := by decide +kernel
theorem dX3_init_10 : decode cX3_init 10 = .ok (.iconst 0, 1) := by decide +kernel
theorem dX3_init_11 : decode cX3_init 11 = .ok (.putfield 15, 3) := by decide +kernel
theorem dX3_init_14 : decode cX3_init 14 = .ok (.aload_n 0, 1) := by decide +kernel
theorem dX3_init_15 : decode cX3_init 15 = .ok (.iconst 0, 1) := by decide +kernel
theorem dX3_init_16 : decode cX3_init 16 = .ok (.putfield 18, 3) := by decide +kernel
theorem dX3_init_19 : decode cX3_init 19 = .ok (.aload_n 0, 1) := by decide +kernel
theorem dX3_init_20 : decode cX3_init 20 = .ok (.iconst 0, 1) := by decide +kernel
theorem dX3_init_21 : decode cX3_init 21 = .ok (.putfield 21, 3) := by decide +kernel
theorem dX3_init_24 : decode cX3_init 24 = .ok (.return_, 1) := by decide +kernel
theorem dX3_begin_0 : decode cX3_begin 0 = .ok (.aload_n 0, 1) := by decide +kernel
theorem dX3_begin_1 : decode cX3_begin 1 = .ok (.iconst 0, 1) := by decide +kernel
theorem dX3_begin_2 : decode cX3_begin 2 = .ok (.putfield 11, 3) := by decide +kernel
theorem dX3_begin_5 : decode cX3_begin 5 = .ok (.return_, 1) := by decide +kernel
theorem dX3_readable_0 : decode cX3_readable 0 = .ok (.aload_n 0, 1) := by decide +kernel
theorem dX3_readable_1 : decode cX3_readable 1 = .ok (.invokevirtual 24, 3) := by decide +kernel
theorem dX3_readable_4 : decode cX3_readable 4 = .ok (.iconst 0, 1) := by decide +kernel
theorem dX3_readable_5 : decode cX3_readable 5 = .ok (.istore_n 2, 1) := by decide +kernel
theorem dX3_readable_6 : decode cX3_readable 6 = .ok (.iload_n 2, 1) := by decide +kernel
theorem dX3_readable_7 : decode cX3_readable 7 = .ok (.aload_n 1, 1) := by decide +kernel
theorem dX3_readable_8 : decode cX3_readable 8 = .ok (.invokevirtual 27, 3) := by decide +kernel
theorem dX3_readable_11 : decode cX3_readable 11 = .ok (.if_icmp .ge 23, 3) := by decide +kernel
theorem dX3_readable_14 : decode cX3_readable 14 = .ok (.aload_n 0, 1) := by decide +kernel
theorem dX3_readable_15 : decode cX3_readable 15 = .ok (.aload_n 1, 1) := by decide +kernel
theorem dX3_readable_16 : decode cX3_readable 16 = .ok (.iload_n 2, 1) := by decide +kernel
theorem dX3_readable_17 : decode cX3_readable 17 = .ok (.invokevirtual 33, 3) := by decide +kernel
theorem dX3_readable_20 : decode cX3_readable 20 = .ok (.invokevirtual 37, 3) := by decide +kernel
theorem dX3_readable_23 : decode cX3_readable 23 = .ok (.ifCond .ne 5, 3) := by decide +kernel
theorem dX3_readable_26 : decode cX3_readable 26 = .ok (.iload_n 2, 1) := by decide +kernel
theorem dX3_readable_27 : decode cX3_readable 27 = .ok (.ireturn, 1) := by decide +kernel
theorem dX3_readable_28 : decode cX3_readable 28 = .ok (.iinc 2 1, 3) := by decide +kernel
theorem dX3_readable_31 : decode cX3_readable 31 = .ok (.goto (-25), 3) := by decide +kernel
theorem dX3_readable_34 : decode cX3_readable 34 = .ok (.aload_n 1, 1) := by decide +kernel
theorem dX3_readable_35 : decode cX3_readable 35 = .ok (.invokevirtual 27, 3) := by decide +kernel
theorem dX3_readable_38 : decode cX3_readable 38 = .ok (.ireturn, 1) := by decide +kernel
theorem dX3_canEndHere_0 : decode cX3_canEndHere 0 = .ok (.aload_n 0, 1) := by decide +kernel
theorem dX3_canEndHere_1 : decode cX3_canEndHere 1 = .ok (.getfield 11, 3) := by decide +kernel
theorem dX3_canEndHere_4 : decode cX3_canEndHere 4 = .ok (.iconst 4, 1) := by decide +kernel
theorem dX3_canEndHere_5 : decode cX3_canEndHere 5 = .ok (.if_icmp .eq 11, 3) := by decide +kernel
theorem dX3_canEndHere_8 : decode cX3_canEndHere 8 = .ok (.aload_n 0, 1) := by decide +kernel
theorem dX3_canEndHere_9 : decode cX3_canEndHere 9 = .ok (.getfield 11, 3) := by decide +kernel
theorem dX3_canEndHere_12 : decode cX3_canEndHere 12 = .ok (.iconst 5, 1) := by decide +kernel
theorem dX3_canEndHere_13 : decode cX3_canEndHere 13 = .ok (.if_icmp .ne 7, 3) := by decide +kernel
theorem dX3_canEndHere_16 : decode cX3_canEndHere 16 = .ok (.iconst 1, 1) := by decide +kernel
theorem dX3_canEndHere_17 : decode cX3_canEndHere 17 = .ok (.goto 4, 3) := by decide +kernel
theorem dX3_canEndHere_20 : decode cX3_canEndHere 20 = .ok (.iconst 0, 1) := by decide +kernel
theorem dX3_canEndHere_21 : decode cX3_canEndHere 21 = .ok (.ireturn, 1) := by decide +kernel
theorem dX3_take_0 : decode cX3_take 0 = .ok (.aload_n 0, 1) := by decide +kernel
theorem dX3_take_1 : decode cX3_take 1 = .ok (.getfield 11, 3) := by decide +kernel
theorem dX3_take_4 : decode cX3_take 4 = .ok (.tableswitch 80 0 4 #[36, 42, 48, 54, 60], 36) := by decide +kernel
theorem dX3_take_40 : decode cX3_take 40 = .ok (.aload_n 0, 1) := by decide +kernel
theorem dX3_take_41 : decode cX3_take 41 = .ok (.iload_n 1, 1) := by decide +kernel
theorem dX3_take_42 : decode cX3_take 42 = .ok (.invokevirtual 41, 3) := by decide +kernel
theorem dX3_take_45 : decode cX3_take 45 = .ok (.ireturn, 1) := by decide +kernel
theorem dX3_take_46 : decode cX3_take 46 = .ok (.aload_n 0, 1) := by decide +kernel
theorem dX3_take_47 : decode cX3_take 47 = .ok (.iload_n 1, 1) := by decide +kernel
theorem dX3_take_48 : decode cX3_take 48 = .ok (.invokevirtual 44, 3) := by decide +kernel
theorem dX3_take_51 : decode cX3_take 51 = .ok (.ireturn, 1) := by decide +kernel
theorem dX3_take_52 : decode cX3_take 52 = .ok (.aload_n 0, 1) := by decide +kernel
theorem dX3_take_53 : decode cX3_take 53 = .ok (.iload_n 1, 1) := by decide +kernel
theorem dX3_take_54 : decode cX3_take 54 = .ok (.invokevirtual 47, 3) := by decide +kernel
theorem dX3_take_57 : decode cX3_take 57 = .ok (.ireturn, 1) := by decide +kernel
theorem dX3_take_58 : decode cX3_take 58 = .ok (.aload_n 0, 1) := by decide +kernel
theorem dX3_take_59 : decode cX3_take 59 = .ok (.iload_n 1, 1) := by decide +kernel
theorem dX3_take_60 : decode cX3_take 60 = .ok (.invokevirtual 50, 3) := by decide +kernel
theorem dX3_take_63 : decode cX3_take 63 = .ok (.ireturn, 1) := by decide +kernel
theorem dX3_take_64 : decode cX3_take 64 = .ok (.iload_n 1, 1) := by decide +kernel
theorem dX3_take_65 : decode cX3_take 65 = .ok (.bipush 59, 2) := by decide +kernel
theorem dX3_take_67 : decode cX3_take 67 = .ok (.if_icmp .ne 11, 3) := by decide +kernel
theorem dX3_take_70 : decode cX3_take 70 = .ok (.aload_n 0, 1) := by decide +kernel
theorem dX3_take_71 : decode cX3_take 71 = .ok (.iload_n 1, 1) := by decide +kernel
theorem dX3_take_72 : decode cX3_take 72 = .ok (.invokevirtual 53, 3) := by decide +kernel
theorem dX3_take_75 : decode cX3_take 75 = .ok (.goto 8, 3) := by decide +kernel
theorem dX3_take_78 : decode cX3_take 78 = .ok (.aload_n 0, 1) := by decide +kernel
theorem dX3_take_79 : decode cX3_take 79 = .ok (.iload_n 1, 1) := by decide +kernel
theorem dX3_take_80 : decode cX3_take 80 = .ok (.invokevirtual 56, 3) := by decide +kernel
theorem dX3_take_83 : decode cX3_take 83 = .ok (.ireturn, 1) := by decide +kernel
theorem dX3_take_84 : decode cX3_take 84 = .ok (.aload_n 0, 1) := by decide +kernel
theorem dX3_take_85 : decode cX3_take 85 = .ok (.iload_n 1, 1) := by decide +kernel
theorem dX3_take_86 : decode cX3_take 86 = .ok (.invokevirtual 53, 3) := by decide +kernel
theorem dX3_take_89 : decode cX3_take 89 = .ok (.ireturn, 1) := by decide +kernel
theorem dX3_takeSign_0 : decode cX3_takeSign 0 = .ok (.iload_n 1, 1) := by decide +kernel
theorem dX3_takeSign_1 : decode cX3_takeSign 1 = .ok (.bipush 43, 2) := by decide +kernel
theorem dX3_takeSign_3 : decode cX3_takeSign 3 = .ok (.if_icmp .eq 23, 3) := by decide +kernel
theorem dX3_takeSign_6 : decode cX3_takeSign 6 = .ok (.iload_n 1, 1) := by decide +kernel
theorem dX3_takeSign_7 : decode cX3_takeSign 7 = .ok (.bipush 62, 2) := by decide +kernel
theorem dX3_takeSign_9 : decode cX3_takeSign 9 = .ok (.if_icmp .eq 17, 3) := by decide +kernel
theorem dX3_takeSign_12 : decode cX3_takeSign 12 = .ok (.iload_n 1, 1) := by decide +kernel
theorem dX3_takeSign_13 : decode cX3_takeSign 13 = .ok (.bipush 60, 2) := by decide +kernel
theorem dX3_takeSign_15 : decode cX3_takeSign 15 = .ok (.if_icmp .eq 11, 3) := by decide +kernel
theorem dX3_takeSign_18 : decode cX3_takeSign 18 = .ok (.iload_n 1, 1) := by decide +kernel
theorem dX3_takeSign_19 : decode cX3_takeSign 19 = .ok (.bipush 45, 2) := by decide +kernel
theorem dX3_takeSign_21 : decode cX3_takeSign 21 = .ok (.if_icmp .eq 5, 3) := by decide +kernel
theorem dX3_takeSign_24 : decode cX3_takeSign 24 = .ok (.iconst 0, 1) := by decide +kernel
theorem dX3_takeSign_25 : decode cX3_takeSign 25 = .ok (.ireturn, 1) := by decide +kernel
theorem dX3_takeSign_26 : decode cX3_takeSign 26 = .ok (.aload_n 0, 1) := by decide +kernel
theorem dX3_takeSign_27 : decode cX3_takeSign 27 = .ok (.iload_n 1, 1) := by decide +kernel
theorem dX3_takeSign_28 : decode cX3_takeSign 28 = .ok (.putfield 15, 3) := by decide +kernel
theorem dX3_takeSign_31 : decode cX3_takeSign 31 = .ok (.aload_n 0, 1) := by decide +kernel
theorem dX3_takeSign_32 : decode cX3_takeSign 32 = .ok (.iload_n 1, 1) := by decide +kernel
theorem dX3_takeSign_33 : decode cX3_takeSign 33 = .ok (.bipush 43, 2) := by decide +kernel
theorem dX3_takeSign_35 : decode cX3_takeSign 35 = .ok (.if_icmp .ne 7, 3) := by decide +kernel
theorem dX3_takeSign_38 : decode cX3_takeSign 38 = .ok (.iconst 3, 1) := by decide +kernel
theorem dX3_takeSign_39 : decode cX3_takeSign 39 = .ok (.goto 4, 3) := by decide +kernel
theorem dX3_takeSign_42 : decode cX3_takeSign 42 = .ok (.iconst 1, 1) := by decide +kernel
theorem dX3_takeSign_43 : decode cX3_takeSign 43 = .ok (.putfield 11, 3) := by decide +kernel
theorem dX3_takeSign_46 : decode cX3_takeSign 46 = .ok (.iconst 1, 1) := by decide +kernel
theorem dX3_takeSign_47 : decode cX3_takeSign 47 = .ok (.ireturn, 1) := by decide +kernel
theorem dX3_takeFile_0 : decode cX3_takeFile 0 = .ok (.iload_n 1, 1) := by decide +kernel
theorem dX3_takeFile_1 : decode cX3_takeFile 1 = .ok (.invokestatic 59, 3) := by decide +kernel
theorem dX3_takeFile_4 : decode cX3_takeFile 4 = .ok (.ifCond .ne 5, 3) := by decide +kernel
theorem dX3_takeFile_7 : decode cX3_takeFile 7 = .ok (.iconst 0, 1) := by decide +kernel
theorem dX3_takeFile_8 : decode cX3_takeFile 8 = .ok (.ireturn, 1) := by decide +kernel
theorem dX3_takeFile_9 : decode cX3_takeFile 9 = .ok (.aload_n 0, 1) := by decide +kernel
theorem dX3_takeFile_10 : decode cX3_takeFile 10 = .ok (.iload_n 1, 1) := by decide +kernel
theorem dX3_takeFile_11 : decode cX3_takeFile 11 = .ok (.bipush 48, 2) := by decide +kernel
theorem dX3_takeFile_13 : decode cX3_takeFile 13 = .ok (.isub, 1) := by decide +kernel
theorem dX3_takeFile_14 : decode cX3_takeFile 14 = .ok (.putfield 18, 3) := by decide +kernel
theorem dX3_takeFile_17 : decode cX3_takeFile 17 = .ok (.aload_n 0, 1) := by decide +kernel
theorem dX3_takeFile_18 : decode cX3_takeFile 18 = .ok (.aload_n 0, 1) := by decide +kernel
theorem dX3_takeFile_19 : decode cX3_takeFile 19 = .ok (.getfield 15, 3) := by decide +kernel
theorem dX3_takeFile_22 : decode cX3_takeFile 22 = .ok (.bipush 45, 2) := by decide +kernel
theorem dX3_takeFile_24 : decode cX3_takeFile 24 = .ok (.if_icmp .ne 7, 3) := by decide +kernel
theorem dX3_takeFile_27 : decode cX3_takeFile 27 = .ok (.iconst 5, 1) := by decide +kernel
theorem dX3_takeFile_28 : decode cX3_takeFile 28 = .ok (.goto 4, 3) := by decide +kernel
theorem dX3_takeFile_31 : decode cX3_takeFile 31 = .ok (.iconst 2, 1) := by decide +kernel
theorem dX3_takeFile_32 : decode cX3_takeFile 32 = .ok (.putfield 11, 3) := by decide +kernel
theorem dX3_takeFile_35 : decode cX3_takeFile 35 = .ok (.iconst 1, 1) := by decide +kernel
theorem dX3_takeFile_36 : decode cX3_takeFile 36 = .ok (.ireturn, 1) := by decide +kernel
theorem dX3_takeColon_0 : decode cX3_takeColon 0 = .ok (.iload_n 1, 1) := by decide +kernel
theorem dX3_takeColon_1 : decode cX3_takeColon 1 = .ok (.bipush 58, 2) := by decide +kernel
theorem dX3_takeColon_3 : decode cX3_takeColon 3 = .ok (.if_icmp .eq 5, 3) := by decide +kernel
theorem dX3_takeColon_6 : decode cX3_takeColon 6 = .ok (.iconst 0, 1) := by decide +kernel
theorem dX3_takeColon_7 : decode cX3_takeColon 7 = .ok (.ireturn, 1) := by decide +kernel
theorem dX3_takeColon_8 : decode cX3_takeColon 8 = .ok (.aload_n 0, 1) := by decide +kernel
theorem dX3_takeColon_9 : decode cX3_takeColon 9 = .ok (.iconst 3, 1) := by decide +kernel
theorem dX3_takeColon_10 : decode cX3_takeColon 10 = .ok (.putfield 11, 3) := by decide +kernel
theorem dX3_takeColon_13 : decode cX3_takeColon 13 = .ok (.iconst 1, 1) := by decide +kernel
theorem dX3_takeColon_14 : decode cX3_takeColon 14 = .ok (.ireturn, 1) := by decide +kernel
theorem dX3_takeFirstDigit_0 : decode cX3_takeFirstDigit 0 = .ok (.iload_n 1, 1) := by decide +kernel
theorem dX3_takeFirstDigit_1 : decode cX3_takeFirstDigit 1 = .ok (.invokestatic 59, 3) := by decide +kernel
theorem dX3_takeFirstDigit_4 : decode cX3_takeFirstDigit 4 = .ok (.ifCond .eq 18, 3) := by decide +kernel
theorem dX3_takeFirstDigit_7 : decode cX3_takeFirstDigit 7 = .ok (.iload_n 1, 1) := by decide +kernel
theorem dX3_takeFirstDigit_8 : decode cX3_takeFirstDigit 8 = .ok (.bipush 48, 2) := by decide +kernel
theorem dX3_takeFirstDigit_10 : decode cX3_takeFirstDigit 10 = .ok (.if_icmp .ne 14, 3) := by decide +kernel
theorem dX3_takeFirstDigit_13 : decode cX3_takeFirstDigit 13 = .ok (.aload_n 0, 1) := by decide +kernel
end
section
theorem dX3_takeFirstDigit_14 : decode cX3_takeFirstDigit 14 = .ok (.getfield 15, 3) := by decide +kernel
theorem dX3_takeFirstDigit_17 : decode cX3_takeFirstDigit 17 = .ok (.bipush 43, 2) := by decide +kernel
theorem dX3_takeFirstDigit_19 : decode cX3_takeFirstDigit 19 = .ok (.if_icmp .eq 5, 3) := by decide +kernel
theorem dX3_takeFirstDigit_22 : decode cX3_takeFirstDigit 22 = .ok (.iconst 0, 1) := by decide +kernel
theorem dX3_takeFirstDigit_23 : decode cX3_takeFirstDigit 23 = .ok (.ireturn, 1) := by decide +kernel
theorem dX3_takeFirstDigit_24 : decode cX3_takeFirstDigit 24 = .ok (.aload_n 0, 1) := by decide +kernel
theorem dX3_takeFirstDigit_25 : decode cX3_takeFirstDigit 25 = .ok (.iload_n 1, 1) := by decide +kernel
theorem dX3_takeFirstDigit_26 : decode cX3_takeFirstDigit 26 = .ok (.bipush 48, 2) := by decide +kernel
theorem dX3_takeFirstDigit_28 : decode cX3_takeFirstDigit 28 = .ok (.isub, 1) := by decide +kernel
theorem dX3_takeFirstDigit_29 : decode cX3_takeFirstDigit 29 = .ok (.putfield 21, 3) := by decide +kernel
theorem dX3_takeFirstDigit_32 : decode cX3_takeFirstDigit 32 = .ok (.aload_n 0, 1) := by decide +kernel
theorem dX3_takeFirstDigit_33 : decode cX3_takeFirstDigit 33 = .ok (.iconst 4, 1) := by decide +kernel
theorem dX3_takeFirstDigit_34 : decode cX3_takeFirstDigit 34 = .ok (.putfield 11, 3) := by decide +kernel
theorem dX3_takeFirstDigit_37 : decode cX3_takeFirstDigit 37 = .ok (.iconst 1, 1) := by decide +kernel
theorem dX3_takeFirstDigit_38 : decode cX3_takeFirstDigit 38 = .ok (.ireturn, 1) := by decide +kernel
theorem dX3_takeDigit_0 : decode cX3_takeDigit 0 = .ok (.iload_n 1, 1) := by decide +kernel
theorem dX3_takeDigit_1 : decode cX3_takeDigit 1 = .ok (.invokestatic 59, 3) := by decide +kernel
theorem dX3_takeDigit_4 : decode cX3_takeDigit 4 = .ok (.ifCond .eq 28, 3) := by decide +kernel
theorem dX3_takeDigit_7 : decode cX3_takeDigit 7 = .ok (.aload_n 0, 1) := by decide +kernel
theorem dX3_takeDigit_8 : decode cX3_takeDigit 8 = .ok (.getfield 21, 3) := by decide +kernel
theorem dX3_takeDigit_11 : decode cX3_takeDigit 11 = .ok (.ifCond .eq 21, 3) := by decide +kernel
theorem dX3_takeDigit_14 : decode cX3_takeDigit 14 = .ok (.bipush 10, 2) := by decide +kernel
theorem dX3_takeDigit_16 : decode cX3_takeDigit 16 = .ok (.aload_n 0, 1) := by decide +kernel
theorem dX3_takeDigit_17 : decode cX3_takeDigit 17 = .ok (.getfield 21, 3) := by decide +kernel
theorem dX3_takeDigit_20 : decode cX3_takeDigit 20 = .ok (.imul, 1) := by decide +kernel
theorem dX3_takeDigit_21 : decode cX3_takeDigit 21 = .ok (.iload_n 1, 1) := by decide +kernel
theorem dX3_takeDigit_22 : decode cX3_takeDigit 22 = .ok (.iadd, 1) := by decide +kernel
theorem dX3_takeDigit_23 : decode cX3_takeDigit 23 = .ok (.bipush 48, 2) := by decide +kernel
theorem dX3_takeDigit_25 : decode cX3_takeDigit 25 = .ok (.isub, 1) := by decide +kernel
theorem dX3_takeDigit_26 : decode cX3_takeDigit 26 = .ok (.sipush 200, 3) := by decide +kernel
theorem dX3_takeDigit_29 : decode cX3_takeDigit 29 = .ok (.if_icmp .le 5, 3) := by decide +kernel
theorem dX3_takeDigit_32 : decode cX3_takeDigit 32 = .ok (.iconst 0, 1) := by decide +kernel
theorem dX3_takeDigit_33 : decode cX3_takeDigit 33 = .ok (.ireturn, 1) := by decide +kernel
theorem dX3_takeDigit_34 : decode cX3_takeDigit 34 = .ok (.aload_n 0, 1) := by decide +kernel
theorem dX3_takeDigit_35 : decode cX3_takeDigit 35 = .ok (.bipush 10, 2) := by decide +kernel
theorem dX3_takeDigit_37 : decode cX3_takeDigit 37 = .ok (.aload_n 0, 1) := by decide +kernel
theorem dX3_takeDigit_38 : decode cX3_takeDigit 38 = .ok (.getfield 21, 3) := by decide +kernel
theorem dX3_takeDigit_41 : decode cX3_takeDigit 41 = .ok (.imul, 1) := by decide +kernel
theorem dX3_takeDigit_42 : decode cX3_takeDigit 42 = .ok (.iload_n 1, 1) := by decide +kernel
theorem dX3_takeDigit_43 : decode cX3_takeDigit 43 = .ok (.iadd, 1) := by decide +kernel
theorem dX3_takeDigit_44 : decode cX3_takeDigit 44 = .ok (.bipush 48, 2) := by decide +kernel
theorem dX3_takeDigit_46 : decode cX3_takeDigit 46 = .ok (.isub, 1) := by decide +kernel
theorem dX3_takeDigit_47 : decode cX3_takeDigit 47 = .ok (.putfield 21, 3) := by decide +kernel
theorem dX3_takeDigit_50 : decode cX3_takeDigit 50 = .ok (.iconst 1, 1) := by decide +kernel
theorem dX3_takeDigit_51 : decode cX3_takeDigit 51 = .ok (.ireturn, 1) := by decide +kernel
theorem dX3_takeSemicolon_0 : decode cX3_takeSemicolon 0 = .ok (.iload_n 1, 1) := by decide +kernel
theorem dX3_takeSemicolon_1 : decode cX3_takeSemicolon 1 = .ok (.bipush 59, 2) := by decide +kernel
theorem dX3_takeSemicolon_3 : decode cX3_takeSemicolon 3 = .ok (.if_icmp .eq 5, 3) := by decide +kernel
theorem dX3_takeSemicolon_6 : decode cX3_takeSemicolon 6 = .ok (.iconst 0, 1) := by decide +kernel
theorem dX3_takeSemicolon_7 : decode cX3_takeSemicolon 7 = .ok (.ireturn, 1) := by decide +kernel
theorem dX3_takeSemicolon_8 : decode cX3_takeSemicolon 8 = .ok (.aload_n 0, 1) := by decide +kernel
theorem dX3_takeSemicolon_9 : decode cX3_takeSemicolon 9 = .ok (.iconst 0, 1) := by decide +kernel
theorem dX3_takeSemicolon_10 : decode cX3_takeSemicolon 10 = .ok (.putfield 11, 3) := by decide +kernel
theorem dX3_takeSemicolon_13 : decode cX3_takeSemicolon 13 = .ok (.iconst 1, 1) := by decide +kernel
theorem dX3_takeSemicolon_14 : decode cX3_takeSemicolon 14 = .ok (.ireturn, 1) := by decide +kernel
theorem dX3_isDigit_0 : decode cX3_isDigit 0 = .ok (.iload_n 0, 1) := by decide +kernel
theorem dX3_isDigit_1 : decode cX3_isDigit 1 = .ok (.bipush 48, 2) := by decide +kernel
theorem dX3_isDigit_3 : decode cX3_isDigit 3 = .ok (.if_icmp .lt 13, 3) := by decide +kernel
theorem dX3_isDigit_6 : decode cX3_isDigit 6 = .ok (.iload_n 0, 1) := by decide +kernel
theorem dX3_isDigit_7 : decode cX3_isDigit 7 = .ok (.bipush 57, 2) := by decide +kernel
theorem dX3_isDigit_9 : decode cX3_isDigit 9 = .ok (.if_icmp .gt 7, 3) := by decide +kernel
theorem dX3_isDigit_12 : decode cX3_isDigit 12 = .ok (.iconst 1, 1) := by decide +kernel
theorem dX3_isDigit_13 : decode cX3_isDigit 13 = .ok (.goto 4, 3) := by decide +kernel
theorem dX3_isDigit_16 : decode cX3_isDigit 16 = .ok (.iconst 0, 1) := by decide +kernel
theorem dX3_isDigit_17 : decode cX3_isDigit 17 = .ok (.ireturn, 1) := by decide +kernel
theorem dX4_init_0 : decode cX4_init 0 = .ok (.aload_n 0, 1) := by decide +kernel
theorem dX4_init_1 : decode cX4_init 1 = .ok (.invokespecial 3, 3) := by decide +kernel
theorem dX4_init_4 : decode cX4_init 4 = .ok (.aload_n 0, 1) := by decide +kernel
theorem dX4_init_5 : decode cX4_init 5 = .ok (.new 9, 3) := by decide +kernel
theorem dX4_init_8 : decode cX4_init 8 = .ok (.dup, 1) := by decide +kernel
theorem dX4_init_9 : decode cX4_init 9 = .ok (.invokespecial 11, 3) := by decide +kernel
theorem dX4_init_12 : decode cX4_init 12 = .ok (.putfield 12, 3) := by decide +kernel
theorem dX4_init_15 : decode cX4_init 15 = .ok (.aload_n 0, 1) := by decide +kernel
theorem dX4_init_16 : decode cX4_init 16 = .ok (.bipush 10, 2) := by decide +kernel
theorem dX4_init_18 : decode cX4_init 18 = .ok (.newarray .int, 2) := by decide +kernel
theorem dX4_init_20 : decode cX4_init 20 = .ok (.putfield 18, 3) := by decide +kernel
theorem dX4_init_23 : decode cX4_init 23 = .ok (.aload_n 0, 1) := by decide +kernel
theorem dX4_init_24 : decode cX4_init 24 = .ok (.bipush 10, 2) := by decide +kernel
theorem dX4_init_26 : decode cX4_init 26 = .ok (.newarray .int, 2) := by decide +kernel
theorem dX4_init_28 : decode cX4_init 28 = .ok (.putfield 22, 3) := by decide +kernel
theorem dX4_init_31 : decode cX4_init 31 = .ok (.aload_n 0, 1) := by decide +kernel
theorem dX4_init_32 : decode cX4_init 32 = .ok (.bipush 24, 2) := by decide +kernel
theorem dX4_init_34 : decode cX4_init 34 = .ok (.newarray .int, 2) := by decide +kernel
theorem dX4_init_36 : decode cX4_init 36 = .ok (.putfield 25, 3) := by decide +kernel
theorem dX4_init_39 : decode cX4_init 39 = .ok (.return_, 1) := by decide +kernel
theorem dX4_plan_0 : decode cX4_plan 0 = .ok (.aload_n 0, 1) := by decide +kernel
theorem dX4_plan_1 : decode cX4_plan 1 = .ok (.getfield 12, 3) := by decide +kernel
theorem dX4_plan_4 : decode cX4_plan 4 = .ok (.aload_n 1, 1) := by decide +kernel
theorem dX4_plan_5 : decode cX4_plan 5 = .ok (.invokevirtual 28, 3) := by decide +kernel
theorem dX4_plan_8 : decode cX4_plan 8 = .ok (.iconst 0, 1) := by decide +kernel
theorem dX4_plan_9 : decode cX4_plan 9 = .ok (.istore_n 2, 1) := by decide +kernel
theorem dX4_plan_10 : decode cX4_plan 10 = .ok (.iload_n 2, 1) := by decide +kernel
theorem dX4_plan_11 : decode cX4_plan 11 = .ok (.bipush 24, 2) := by decide +kernel
theorem dX4_plan_13 : decode cX4_plan 13 = .ok (.if_icmp .ge 29, 3) := by decide +kernel
theorem dX4_plan_16 : decode cX4_plan 16 = .ok (.aload_n 0, 1) := by decide +kernel
theorem dX4_plan_17 : decode cX4_plan 17 = .ok (.getfield 25, 3) := by decide +kernel
theorem dX4_plan_20 : decode cX4_plan 20 = .ok (.iload_n 2, 1) := by decide +kernel
theorem dX4_plan_21 : decode cX4_plan 21 = .ok (.aload_n 1, 1) := by decide +kernel
theorem dX4_plan_22 : decode cX4_plan 22 = .ok (.iload_n 2, 1) := by decide +kernel
theorem dX4_plan_23 : decode cX4_plan 23 = .ok (.invokevirtual 32, 3) := by decide +kernel
theorem dX4_plan_26 : decode cX4_plan 26 = .ok (.ifCond .eq 7, 3) := by decide +kernel
theorem dX4_plan_29 : decode cX4_plan 29 = .ok (.iconst 0, 1) := by decide +kernel
theorem dX4_plan_30 : decode cX4_plan 30 = .ok (.goto 5, 3) := by decide +kernel
theorem dX4_plan_33 : decode cX4_plan 33 = .ok (.bipush 16, 2) := by decide +kernel
theorem dX4_plan_35 : decode cX4_plan 35 = .ok (.iastore, 1) := by decide +kernel
theorem dX4_plan_36 : decode cX4_plan 36 = .ok (.iinc 2 1, 3) := by decide +kernel
theorem dX4_plan_39 : decode cX4_plan 39 = .ok (.goto (-29), 3) := by decide +kernel
theorem dX4_plan_42 : decode cX4_plan 42 = .ok (.iconst 0, 1) := by decide +kernel
theorem dX4_plan_43 : decode cX4_plan 43 = .ok (.istore_n 2, 1) := by decide +kernel
theorem dX4_plan_44 : decode cX4_plan 44 = .ok (.iload_n 2, 1) := by decide +kernel
theorem dX4_plan_45 : decode cX4_plan 45 = .ok (.aload_n 0, 1) := by decide +kernel
theorem dX4_plan_46 : decode cX4_plan 46 = .ok (.getfield 12, 3) := by decide +kernel
theorem dX4_plan_49 : decode cX4_plan 49 = .ok (.getfield 38, 3) := by decide +kernel
theorem dX4_plan_52 : decode cX4_plan 52 = .ok (.if_icmp .ge 73, 3) := by decide +kernel
theorem dX4_plan_55 : decode cX4_plan 55 = .ok (.iload_n 2, 1) := by decide +kernel
theorem dX4_plan_56 : decode cX4_plan 56 = .ok (.bipush 10, 2) := by decide +kernel
theorem dX4_plan_58 : decode cX4_plan 58 = .ok (.if_icmp .ge 67, 3) := by decide +kernel
theorem dX4_plan_61 : decode cX4_plan 61 = .ok (.aload_n 0, 1) := by decide +kernel
theorem dX4_plan_62 : decode cX4_plan 62 = .ok (.aload_n 0, 1) := by decide +kernel
theorem dX4_plan_63 : decode cX4_plan 63 = .ok (.getfield 12, 3) := by decide +kernel
theorem dX4_plan_66 : decode cX4_plan 66 = .ok (.getfield 42, 3) := by decide +kernel
theorem dX4_plan_69 : decode cX4_plan 69 = .ok (.iload_n 2, 1) := by decide +kernel
theorem dX4_plan_70 : decode cX4_plan 70 = .ok (.iaload, 1) := by decide +kernel
theorem dX4_plan_71 : decode cX4_plan 71 = .ok (.invokevirtual 45, 3) := by decide +kernel
theorem dX4_plan_74 : decode cX4_plan 74 = .ok (.istore_n 3, 1) := by decide +kernel
theorem dX4_plan_75 : decode cX4_plan 75 = .ok (.iload_n 3, 1) := by decide +kernel
theorem dX4_plan_76 : decode cX4_plan 76 = .ok (.iconst (-1), 1) := by decide +kernel
theorem dX4_plan_77 : decode cX4_plan 77 = .ok (.if_icmp .ne 5, 3) := by decide +kernel
theorem dX4_plan_80 : decode cX4_plan 80 = .ok (.iconst (-1), 1) := by decide +kernel
theorem dX4_plan_81 : decode cX4_plan 81 = .ok (.ireturn, 1) := by decide +kernel
theorem dX4_plan_82 : decode cX4_plan 82 = .ok (.aload_n 0, 1) := by decide +kernel
theorem dX4_plan_83 : decode cX4_plan 83 = .ok (.getfield 18, 3) := by decide +kernel
theorem dX4_plan_86 : decode cX4_plan 86 = .ok (.iload_n 2, 1) := by decide +kernel
theorem dX4_plan_87 : decode cX4_plan 87 = .ok (.iload_n 3, 1) := by decide +kernel
theorem dX4_plan_88 : decode cX4_plan 88 = .ok (.iastore, 1) := by decide +kernel
theorem dX4_plan_89 : decode cX4_plan 89 = .ok (.aload_n 0, 1) := by decide +kernel
theorem dX4_plan_90 : decode cX4_plan 90 = .ok (.getfield 22, 3) := by decide +kernel
theorem dX4_plan_93 : decode cX4_plan 93 = .ok (.iload_n 2, 1) := by decide +kernel
theorem dX4_plan_94 : decode cX4_plan 94 = .ok (.aload_n 0, 1) := by decide +kernel
theorem dX4_plan_95 : decode cX4_plan 95 = .ok (.getfield 25, 3) := by decide +kernel
theorem dX4_plan_98 : decode cX4_plan 98 = .ok (.iload_n 3, 1) := by decide +kernel
theorem dX4_plan_99 : decode cX4_plan 99 = .ok (.iaload, 1) := by decide +kernel
theorem dX4_plan_100 : decode cX4_plan 100 = .ok (.iastore, 1) := by decide +kernel
theorem dX4_plan_101 : decode cX4_plan 101 = .ok (.aload_n 0, 1) := by decide +kernel
theorem dX4_plan_102 : decode cX4_plan 102 = .ok (.getfield 25, 3) := by decide +kernel
theorem dX4_plan_105 : decode cX4_plan 105 = .ok (.iload_n 3, 1) := by decide +kernel
theorem dX4_plan_106 : decode cX4_plan 106 = .ok (.dup2, 1) := by decide +kernel
theorem dX4_plan_107 : decode cX4_plan 107 = .ok (.iaload, 1) := by decide +kernel
theorem dX4_plan_108 : decode cX4_plan 108 = .ok (.aload_n 0, 1) := by decide +kernel
theorem dX4_plan_109 : decode cX4_plan 109 = .ok (.getfield 12, 3) := by decide +kernel
theorem dX4_plan_112 : decode cX4_plan 112 = .ok (.getfield 42, 3) := by decide +kernel
theorem dX4_plan_115 : decode cX4_plan 115 = .ok (.iload_n 2, 1) := by decide +kernel
theorem dX4_plan_116 : decode cX4_plan 116 = .ok (.iaload, 1) := by decide +kernel
theorem dX4_plan_117 : decode cX4_plan 117 = .ok (.iadd, 1) := by decide +kernel
theorem dX4_plan_118 : decode cX4_plan 118 = .ok (.iastore, 1) := by decide +kernel
theorem dX4_plan_119 : decode cX4_plan 119 = .ok (.iinc 2 1, 3) := by decide +kernel
theorem dX4_plan_122 : decode cX4_plan 122 = .ok (.goto (-78), 3) := by decide +kernel
theorem dX4_plan_125 : decode cX4_plan 125 = .ok (.aload_n 0, 1) := by decide +kernel
theorem dX4_plan_126 : decode cX4_plan 126 = .ok (.invokevirtual 49, 3) := by decide +kernel
theorem dX4_plan_129 : decode cX4_plan 129 = .ok (.ireturn, 1) := by decide +kernel
theorem dX4_firstWithRoom_0 : decode cX4_firstWithRoom 0 = .ok (.iconst 0, 1) := by decide +kernel
theorem dX4_firstWithRoom_1 : decode cX4_firstWithRoom 1 = .ok (.istore_n 2, 1) := by decide +kernel
theorem dX4_firstWithRoom_2 : decode cX4_firstWithRoom 2 = .ok (.iload_n 2, 1) := by decide +kernel
theorem dX4_firstWithRoom_3 : decode cX4_firstWithRoom 3 = .ok (.bipush 24, 2) := by decide +kernel
theorem dX4_firstWithRoom_5 : decode cX4_firstWithRoom 5 = .ok (.if_icmp .ge 24, 3) := by decide +kernel
theorem dX4_firstWithRoom_8 : decode cX4_firstWithRoom 8 = .ok (.aload_n 0, 1) := by decide +kernel
theorem dX4_firstWithRoom_9 : decode cX4_firstWithRoom 9 = .ok (.getfield 25, 3) := by decide +kernel
theorem dX4_firstWithRoom_12 : decode cX4_firstWithRoom 12 = .ok (.iload_n 2, 1) := by decide +kernel
theorem dX4_firstWithRoom_13 : decode cX4_firstWithRoom 13 = .ok (.iaload, 1) := by decide +kernel
theorem dX4_firstWithRoom_14 : decode cX4_firstWithRoom 14 = .ok (.iload_n 1, 1) := by decide +kernel
theorem dX4_firstWithRoom_15 : decode cX4_firstWithRoom 15 = .ok (.iadd, 1) := by decide +kernel
theorem dX4_firstWithRoom_16 : decode cX4_firstWithRoom 16 = .ok (.bipush 16, 2) := by decide +kernel
theorem dX4_firstWithRoom_18 : decode cX4_firstWithRoom 18 = .ok (.if_icmp .gt 5, 3) := by decide +kernel
theorem dX4_firstWithRoom_21 : decode cX4_firstWithRoom 21 = .ok (.iload_n 2, 1) := by decide +kernel
theorem dX4_firstWithRoom_22 : decode cX4_firstWithRoom 22 = .ok (.ireturn, 1) := by decide +kernel
theorem dX4_firstWithRoom_23 : decode cX4_firstWithRoom 23 = .ok (.iinc 2 1, 3) := by decide +kernel
theorem dX4_firstWithRoom_26 : decode cX4_firstWithRoom 26 = .ok (.goto (-24), 3) := by decide +kernel
theorem dX4_firstWithRoom_29 : decode cX4_firstWithRoom 29 = .ok (.iconst (-1), 1) := by decide +kernel
theorem dX4_firstWithRoom_30 : decode cX4_firstWithRoom 30 = .ok (.ireturn, 1) := by decide +kernel
theorem dX4_emptyBlocks_0 : decode cX4_emptyBlocks 0 = .ok (.iconst 0, 1) := by decide +kernel
theorem dX4_emptyBlocks_1 : decode cX4_emptyBlocks 1 = .ok (.istore_n 1, 1) := by decide +kernel
theorem dX4_emptyBlocks_2 : decode cX4_emptyBlocks 2 = .ok (.iconst 0, 1) := by decide +kernel
theorem dX4_emptyBlocks_3 : decode cX4_emptyBlocks 3 = .ok (.istore_n 2, 1) := by decide +kernel
theorem dX4_emptyBlocks_4 : decode cX4_emptyBlocks 4 = .ok (.iload_n 2, 1) := by decide +kernel
theorem dX4_emptyBlocks_5 : decode cX4_emptyBlocks 5 = .ok (.bipush 24, 2) := by decide +kernel
theorem dX4_emptyBlocks_7 : decode cX4_emptyBlocks 7 = .ok (.if_icmp .ge 26, 3) := by decide +kernel
theorem dX4_emptyBlocks_10 : decode cX4_emptyBlocks 10 = .ok (.iload_n 1, 1) := by decide +kernel
theorem dX4_emptyBlocks_11 : decode cX4_emptyBlocks 11 = .ok (.aload_n 0, 1) := by decide +kernel
theorem dX4_emptyBlocks_12 : decode cX4_emptyBlocks 12 = .ok (.getfield 25, 3) := by decide +kernel
theorem dX4_emptyBlocks_15 : decode cX4_emptyBlocks 15 = .ok (.iload_n 2, 1) := by decide +kernel
theorem dX4_emptyBlocks_16 : decode cX4_emptyBlocks 16 = .ok (.iaload, 1) := by decide +kernel
theorem dX4_emptyBlocks_17 : decode cX4_emptyBlocks 17 = .ok (.ifCond .ne 7, 3) := by decide +kernel
theorem dX4_emptyBlocks_20 : decode cX4_emptyBlocks 20 = .ok (.iconst 1, 1) := by decide +kernel
theorem dX4_emptyBlocks_21 : decode cX4_emptyBlocks 21 = .ok (.goto 4, 3) := by decide +kernel
theorem dX4_emptyBlocks_24 : decode cX4_emptyBlocks 24 = .ok (.iconst 0, 1) := by decide +kernel
theorem dX4_emptyBlocks_25 : decode cX4_emptyBlocks 25 = .ok (.iadd, 1) := by decide +kernel
theorem dX4_emptyBlocks_26 : decode cX4_emptyBlocks 26 = .ok (.istore_n 1, 1) := by decide +kernel
theorem dX4_emptyBlocks_27 : decode cX4_emptyBlocks 27 = .ok (.iinc 2 1, 3) := by decide +kernel
theorem dX4_emptyBlocks_30 : decode cX4_emptyBlocks 30 = .ok (.goto (-26), 3) := by decide +kernel
theorem dX4_emptyBlocks_33 : decode cX4_emptyBlocks 33 = .ok (.iload_n 1, 1) := by decide +kernel
theorem dX4_emptyBlocks_34 : decode cX4_emptyBlocks 34 = .ok (.ireturn, 1) := by decide +kernel
theorem dX4_carryOut_0 : decode cX4_carryOut 0 = .ok (.iconst 0, 1) := by decide +kernel
theorem dX4_carryOut_1 : decode cX4_carryOut 1 = .ok (.istore_n 2, 1) := by decide +kernel
theorem dX4_carryOut_2 : decode cX4_carryOut 2 = .ok (.iload_n 2, 1) := by decide +kernel
theorem dX4_carryOut_3 : decode cX4_carryOut 3 = .ok (.aload_n 0, 1) := by decide +kernel
theorem dX4_carryOut_4 : decode cX4_carryOut 4 = .ok (.getfield 12, 3) := by decide +kernel
theorem dX4_carryOut_7 : decode cX4_carryOut 7 = .ok (.getfield 38, 3) := by decide +kernel
theorem dX4_carryOut_10 : decode cX4_carryOut 10 = .ok (.if_icmp .ge 40, 3) := by decide +kernel
theorem dX4_carryOut_13 : decode cX4_carryOut 13 = .ok (.iload_n 2, 1) := by decide +kernel
theorem dX4_carryOut_14 : decode cX4_carryOut 14 = .ok (.bipush 10, 2) := by decide +kernel
theorem dX4_carryOut_16 : decode cX4_carryOut 16 = .ok (.if_icmp .ge 34, 3) := by decide +kernel
theorem dX4_carryOut_19 : decode cX4_carryOut 19 = .ok (.aload_n 1, 1) := by decide +kernel
theorem dX4_carryOut_20 : decode cX4_carryOut 20 = .ok (.aload_n 0, 1) := by decide +kernel
theorem dX4_carryOut_21 : decode cX4_carryOut 21 = .ok (.getfield 12, 3) := by decide +kernel
theorem dX4_carryOut_24 : decode cX4_carryOut 24 = .ok (.getfield 53, 3) := by decide +kernel
theorem dX4_carryOut_27 : decode cX4_carryOut 27 = .ok (.iload_n 2, 1) := by decide +kernel
theorem dX4_carryOut_28 : decode cX4_carryOut 28 = .ok (.iaload, 1) := by decide +kernel
theorem dX4_carryOut_29 : decode cX4_carryOut 29 = .ok (.aload_n 0, 1) := by decide +kernel
theorem dX4_carryOut_30 : decode cX4_carryOut 30 = .ok (.getfield 18, 3) := by decide +kernel
theorem dX4_carryOut_33 : decode cX4_carryOut 33 = .ok (.iload_n 2, 1) := by decide +kernel
theorem dX4_carryOut_34 : decode cX4_carryOut 34 = .ok (.iaload, 1) := by decide +kernel
theorem dX4_carryOut_35 : decode cX4_carryOut 35 = .ok (.aload_n 0, 1) := by decide +kernel
theorem dX4_carryOut_36 : decode cX4_carryOut 36 = .ok (.getfield 22, 3) := by decide +kernel
theorem dX4_carryOut_39 : decode cX4_carryOut 39 = .ok (.iload_n 2, 1) := by decide +kernel
theorem dX4_carryOut_40 : decode cX4_carryOut 40 = .ok (.iaload, 1) := by decide +kernel
theorem dX4_carryOut_41 : decode cX4_carryOut 41 = .ok (.invokevirtual 56, 3) := by decide +kernel
theorem dX4_carryOut_44 : decode cX4_carryOut 44 = .ok (.iinc 2 1, 3) := by decide +kernel
theorem dX4_carryOut_47 : decode cX4_carryOut 47 = .ok (.goto (-45), 3) := by decide +kernel
theorem dX4_carryOut_50 : decode cX4_carryOut 50 = .ok (.iconst 0, 1) := by decide +kernel
theorem dX4_carryOut_51 : decode cX4_carryOut 51 = .ok (.istore_n 2, 1) := by decide +kernel
theorem dX4_carryOut_52 : decode cX4_carryOut 52 = .ok (.iload_n 2, 1) := by decide +kernel
theorem dX4_carryOut_53 : decode cX4_carryOut 53 = .ok (.bipush 24, 2) := by decide +kernel
theorem dX4_carryOut_55 : decode cX4_carryOut 55 = .ok (.if_icmp .ge 15, 3) := by decide +kernel
theorem dX4_carryOut_58 : decode cX4_carryOut 58 = .ok (.aload_n 1, 1) := by decide +kernel
theorem dX4_carryOut_59 : decode cX4_carryOut 59 = .ok (.iload_n 2, 1) := by decide +kernel
theorem dX4_carryOut_60 : decode cX4_carryOut 60 = .ok (.invokevirtual 60, 3) := by decide +kernel
theorem dX4_carryOut_63 : decode cX4_carryOut 63 = .ok (.pop, 1) := by decide +kernel
theorem dX4_carryOut_64 : decode cX4_carryOut 64 = .ok (.iinc 2 1, 3) := by decide +kernel
theorem dX4_carryOut_67 : decode cX4_carryOut 67 = .ok (.goto (-15), 3) := by decide +kernel
theorem dX4_carryOut_70 : decode cX4_carryOut 70 = .ok (.aload_n 1, 1) := by decide +kernel
theorem dX4_carryOut_71 : decode cX4_carryOut 71 = .ok (.dup, 1) := by decide +kernel
theorem dX4_carryOut_72 : decode cX4_carryOut 72 = .ok (.getfield 63, 3) := by decide +kernel
theorem dX4_carryOut_75 : decode cX4_carryOut 75 = .ok (.iconst 1, 1) := by decide +kernel
theorem dX4_carryOut_76 : decode cX4_carryOut 76 = .ok (.iadd, 1) := by decide +kernel
theorem dX4_carryOut_77 : decode cX4_carryOut 77 = .ok (.putfield 63, 3) := by decide +kernel
theorem dX4_carryOut_80 : decode cX4_carryOut 80 = .ok (.return_, 1) := by decide +kernel
theorem dX5_init_0 : decode cX5_init 0 = .ok (.aload_n 0, 1) := by decide +kernel
theorem dX5_init_1 : decode cX5_init 1 = .ok (.invokespecial 3, 3) := by decide +kernel
theorem dX5_init_4 : decode cX5_init 4 = .ok (.aload_n 0, 1) := by decide +kernel
theorem dX5_init_5 : decode cX5_init 5 = .ok (.bipush 10, 2) := by decide +kernel
theorem dX5_init_7 : decode cX5_init 7 = .ok (.newarray .int, 2) := by decide +kernel
theorem dX5_init_9 : decode cX5_init 9 = .ok (.putfield 9, 3) := by decide +kernel
theorem dX5_init_12 : decode cX5_init 12 = .ok (.aload_n 0, 1) := by decide +kernel
theorem dX5_init_13 : decode cX5_init 13 = .ok (.bipush 10, 2) := by decide +kernel
theorem dX5_init_15 : decode cX5_init 15 = .ok (.newarray .int, 2) := by decide +kernel
theorem dX5_init_17 : decode cX5_init 17 = .ok (.putfield 15, 3) := by decide +kernel
theorem dX5_init_20 : decode cX5_init 20 = .ok (.aload_n 0, 1) := by decide +kernel
theorem dX5_init_21 : decode cX5_init 21 = .ok (.iconst 0, 1) := by decide +kernel
theorem dX5_init_22 : decode cX5_init 22 = .ok (.putfield 18, 3) := by decide +kernel
theorem dX5_init_25 : decode cX5_init 25 = .ok (.return_, 1) := by decide +kernel
theorem dX5_collect_0 : decode cX5_collect 0 = .ok (.aload_n 0, 1) := by decide +kernel
theorem dX5_collect_1 : decode cX5_collect 1 = .ok (.iconst 0, 1) := by decide +kernel
theorem dX5_collect_2 : decode cX5_collect 2 = .ok (.putfield 18, 3) := by decide +kernel
theorem dX5_collect_5 : decode cX5_collect 5 = .ok (.iconst 0, 1) := by decide +kernel
theorem dX5_collect_6 : decode cX5_collect 6 = .ok (.istore_n 2, 1) := by decide +kernel
theorem dX5_collect_7 : decode cX5_collect 7 = .ok (.iload_n 2, 1) := by decide +kernel
theorem dX5_collect_8 : decode cX5_collect 8 = .ok (.bipush 10, 2) := by decide +kernel
theorem dX5_collect_10 : decode cX5_collect 10 = .ok (.if_icmp .ge 37, 3) := by decide +kernel
theorem dX5_collect_13 : decode cX5_collect 13 = .ok (.aload_n 1, 1) := by decide +kernel
theorem dX5_collect_14 : decode cX5_collect 14 = .ok (.iload_n 2, 1) := by decide +kernel
theorem dX5_collect_15 : decode cX5_collect 15 = .ok (.invokevirtual 22, 3) := by decide +kernel
theorem dX5_collect_18 : decode cX5_collect 18 = .ok (.ifCond .eq 7, 3) := by decide +kernel
theorem dX5_collect_21 : decode cX5_collect 21 = .ok (.iconst 0, 1) := by decide +kernel
theorem dX5_collect_22 : decode cX5_collect 22 = .ok (.goto 8, 3) := by decide +kernel
theorem dX5_collect_25 : decode cX5_collect 25 = .ok (.aload_n 1, 1) := by decide +kernel
theorem dX5_collect_26 : decode cX5_collect 26 = .ok (.iload_n 2, 1) := by decide +kernel
theorem dX5_collect_27 : decode cX5_collect 27 = .ok (.invokevirtual 28, 3) := by decide +kernel
theorem dX5_collect_30 : decode cX5_collect 30 = .ok (.istore_n 3, 1) := by decide +kernel
theorem dX5_collect_31 : decode cX5_collect 31 = .ok (.iload_n 3, 1) := by decide +kernel
theorem dX5_collect_32 : decode cX5_collect 32 = .ok (.ifCond .le 9, 3) := by decide +kernel
theorem dX5_collect_35 : decode cX5_collect 35 = .ok (.aload_n 0, 1) := by decide +kernel
theorem dX5_collect_36 : decode cX5_collect 36 = .ok (.iload_n 2, 1) := by decide +kernel
theorem dX5_collect_37 : decode cX5_collect 37 = .ok (.iload_n 3, 1) := by decide +kernel
theorem dX5_collect_38 : decode cX5_collect 38 = .ok (.invokevirtual 32, 3) := by decide +kernel
theorem dX5_collect_41 : decode cX5_collect 41 = .ok (.iinc 2 1, 3) := by decide +kernel
theorem dX5_collect_44 : decode cX5_collect 44 = .ok (.goto (-37), 3) := by decide +kernel
theorem dX5_collect_47 : decode cX5_collect 47 = .ok (.return_, 1) := by decide +kernel
theorem dX5_insert_0 : decode cX5_insert 0 = .ok (.aload_n 0, 1) := by decide +kernel
theorem dX5_insert_1 : decode cX5_insert 1 = .ok (.getfield 18, 3) := by decide +kernel
theorem dX5_insert_4 : decode cX5_insert 4 = .ok (.ifCond .lt 12, 3) := by decide +kernel
theorem dX5_insert_7 : decode cX5_insert 7 = .ok (.aload_n 0, 1) := by decide +kernel
theorem dX5_insert_8 : decode cX5_insert 8 = .ok (.getfield 18, 3) := by decide +kernel
theorem dX5_insert_11 : decode cX5_insert 11 = .ok (.bipush 10, 2) := by decide +kernel
theorem dX5_insert_13 : decode cX5_insert 13 = .ok (.if_icmp .lt 4, 3) := by decide +kernel
theorem dX5_insert_16 : decode cX5_insert 16 = .ok (.return_, 1) := by decide +kernel
theorem dX5_insert_17 : decode cX5_insert 17 = .ok (.aload_n 0, 1) := by decide +kernel
theorem dX5_insert_18 : decode cX5_insert 18 = .ok (.getfield 18, 3) := by decide +kernel
theorem dX5_insert_21 : decode cX5_insert 21 = .ok (.istore_n 3, 1) := by decide +kernel
theorem dX5_insert_22 : decode cX5_insert 22 = .ok (.iload_n 3, 1) := by decide +kernel
theorem dX5_insert_23 : decode cX5_insert 23 = .ok (.ifCond .le 49, 3) := by decide +kernel
theorem dX5_insert_26 : decode cX5_insert 26 = .ok (.aload_n 0, 1) := by decide +kernel
theorem dX5_insert_27 : decode cX5_insert 27 = .ok (.getfield 15, 3) := by decide +kernel
theorem dX5_insert_30 : decode cX5_insert 30 = .ok (.iload_n 3, 1) := by decide +kernel
theorem dX5_insert_31 : decode cX5_insert 31 = .ok (.iconst 1, 1) := by decide +kernel
theorem dX5_insert_32 : decode cX5_insert 32 = .ok (.isub, 1) := by decide +kernel
theorem dX5_insert_33 : decode cX5_insert 33 = .ok (.iaload, 1) := by decide +kernel
theorem dX5_insert_34 : decode cX5_insert 34 = .ok (.iload_n 2, 1) := by decide +kernel
theorem dX5_insert_35 : decode cX5_insert 35 = .ok (.if_icmp .ge 37, 3) := by decide +kernel
theorem dX5_insert_38 : decode cX5_insert 38 = .ok (.aload_n 0, 1) := by decide +kernel
theorem dX5_insert_39 : decode cX5_insert 39 = .ok (.getfield 9, 3) := by decide +kernel
theorem dX5_insert_42 : decode cX5_insert 42 = .ok (.iload_n 3, 1) := by decide +kernel
theorem dX5_insert_43 : decode cX5_insert 43 = .ok (.aload_n 0, 1) := by decide +kernel
theorem dX5_insert_44 : decode cX5_insert 44 = .ok (.getfield 9, 3) := by decide +kernel
theorem dX5_insert_47 : decode cX5_insert 47 = .ok (.iload_n 3, 1) := by decide +kernel
theorem dX5_insert_48 : decode cX5_insert 48 = .ok (.iconst 1, 1) := by decide +kernel
theorem dX5_insert_49 : decode cX5_insert 49 = .ok (.isub, 1) := by decide +kernel
theorem dX5_insert_50 : decode cX5_insert 50 = .ok (.iaload, 1) := by decide +kernel
theorem dX5_insert_51 : decode cX5_insert 51 = .ok (.iastore, 1) := by decide +kernel
theorem dX5_insert_52 : decode cX5_insert 52 = .ok (.aload_n 0, 1) := by decide +kernel
theorem dX5_insert_53 : decode cX5_insert 53 = .ok (.getfield 15, 3) := by decide +kernel
theorem dX5_insert_56 : decode cX5_insert 56 = .ok (.iload_n 3, 1) := by decide +kernel
theorem dX5_insert_57 : decode cX5_insert 57 = .ok (.aload_n 0, 1) := by decide +kernel
theorem dX5_insert_58 : decode cX5_insert 58 = .ok (.getfield 15, 3) := by decide +kernel
theorem dX5_insert_61 : decode cX5_insert 61 = .ok (.iload_n 3, 1) := by decide +kernel
theorem dX5_insert_62 : decode cX5_insert 62 = .ok (.iconst 1, 1) := by decide +kernel
theorem dX5_insert_63 : decode cX5_insert 63 = .ok (.isub, 1) := by decide +kernel
theorem dX5_insert_64 : decode cX5_insert 64 = .ok (.iaload, 1) := by decide +kernel
theorem dX5_insert_65 : decode cX5_insert 65 = .ok (.iastore, 1) := by decide +kernel
theorem dX5_insert_66 : decode cX5_insert 66 = .ok (.iinc 3 (-1), 3) := by decide +kernel
theorem dX5_insert_69 : decode cX5_insert 69 = .ok (.goto (-47), 3) := by decide +kernel
theorem dX5_insert_72 : decode cX5_insert 72 = .ok (.aload_n 0, 1) := by decide +kernel
theorem dX5_insert_73 : decode cX5_insert 73 = .ok (.getfield 9, 3) := by decide +kernel
theorem dX5_insert_76 : decode cX5_insert 76 = .ok (.iload_n 3, 1) := by decide +kernel
theorem dX5_insert_77 : decode cX5_insert 77 = .ok (.iload_n 1, 1) := by decide +kernel
theorem dX5_insert_78 : decode cX5_insert 78 = .ok (.iastore, 1) := by decide +kernel
theorem dX5_insert_79 : decode cX5_insert 79 = .ok (.aload_n 0, 1) := by decide +kernel
theorem dX5_insert_80 : decode cX5_insert 80 = .ok (.getfield 15, 3) := by decide +kernel
theorem dX5_insert_83 : decode cX5_insert 83 = .ok (.iload_n 3, 1) := by decide +kernel
theorem dX5_insert_84 : decode cX5_insert 84 = .ok (.iload_n 2, 1) := by decide +kernel
theorem dX5_insert_85 : decode cX5_insert 85 = .ok (.iastore, 1) := by decide +kernel
theorem dX5_insert_86 : decode cX5_insert 86 = .ok (.aload_n 0, 1) := by decide +kernel
theorem dX5_insert_87 : decode cX5_insert 87 = .ok (.dup, 1) := by decide +kernel
theorem dX5_insert_88 : decode cX5_insert 88 = .ok (.getfield 18, 3) := by decide +kernel
theorem dX5_insert_91 : decode cX5_insert 91 = .ok (.iconst 1, 1) := by decide +kernel
theorem dX5_insert_92 : decode cX5_insert 92 = .ok (.iadd, 1) := by decide +kernel
theorem dX5_insert_93 : decode cX5_insert 93 = .ok (.putfield 18, 3) := by decide +kernel
theorem dX5_insert_96 : decode cX5_insert 96 = .ok (.return_, 1) := by decide +kernel
theorem dX5_cells_0 : decode cX5_cells 0 = .ok (.iconst 0, 1) := by decide +kernel
theorem dX5_cells_1 : decode cX5_cells 1 = .ok (.istore_n 1, 1) := by decide +kernel
theorem dX5_cells_2 : decode cX5_cells 2 = .ok (.iconst 0, 1) := by decide +kernel
theorem dX5_cells_3 : decode cX5_cells 3 = .ok (.istore_n 2, 1) := by decide +kernel
theorem dX5_cells_4 : decode cX5_cells 4 = .ok (.iload_n 2, 1) := by decide +kernel
theorem dX5_cells_5 : decode cX5_cells 5 = .ok (.aload_n 0, 1) := by decide +kernel
theorem dX5_cells_6 : decode cX5_cells 6 = .ok (.getfield 18, 3) := by decide +kernel
theorem dX5_cells_9 : decode cX5_cells 9 = .ok (.if_icmp .ge 24, 3) := by decide +kernel
theorem dX5_cells_12 : decode cX5_cells 12 = .ok (.iload_n 2, 1) := by decide +kernel
theorem dX5_cells_13 : decode cX5_cells 13 = .ok (.bipush 10, 2) := by decide +kernel
theorem dX5_cells_15 : decode cX5_cells 15 = .ok (.if_icmp .ge 18, 3) := by decide +kernel
theorem dX5_cells_18 : decode cX5_cells 18 = .ok (.iload_n 1, 1) := by decide +kernel
theorem dX5_cells_19 : decode cX5_cells 19 = .ok (.aload_n 0, 1) := by decide +kernel
theorem dX5_cells_20 : decode cX5_cells 20 = .ok (.getfield 15, 3) := by decide +kernel
theorem dX5_cells_23 : decode cX5_cells 23 = .ok (.iload_n 2, 1) := by decide +kernel
theorem dX5_cells_24 : decode cX5_cells 24 = .ok (.iaload, 1) := by decide +kernel
theorem dX5_cells_25 : decode cX5_cells 25 = .ok (.iadd, 1) := by decide +kernel
theorem dX5_cells_26 : decode cX5_cells 26 = .ok (.istore_n 1, 1) := by decide +kernel
theorem dX5_cells_27 : decode cX5_cells 27 = .ok (.iinc 2 1, 3) := by decide +kernel
theorem dX5_cells_30 : decode cX5_cells 30 = .ok (.goto (-26), 3) := by decide +kernel
theorem dX5_cells_33 : decode cX5_cells 33 = .ok (.iload_n 1, 1) := by decide +kernel
theorem dX5_cells_34 : decode cX5_cells 34 = .ok (.ireturn, 1) := by decide +kernel
theorem dX6_init_0 : decode cX6_init 0 = .ok (.aload_n 0, 1) := by decide +kernel
theorem dX6_init_1 : decode cX6_init 1 = .ok (.invokespecial 3, 3) := by decide +kernel
theorem dX6_init_4 : decode cX6_init 4 = .ok (.aload_n 0, 1) := by decide +kernel
theorem dX6_init_5 : decode cX6_init 5 = .ok (.bipush 60, 2) := by decide +kernel
theorem dX6_init_7 : decode cX6_init 7 = .ok (.newarray .int, 2) := by decide +kernel
theorem dX6_init_9 : decode cX6_init 9 = .ok (.putfield 9, 3) := by decide +kernel
theorem dX6_init_12 : decode cX6_init 12 = .ok (.aload_n 0, 1) := by decide +kernel
theorem dX6_init_13 : decode cX6_init 13 = .ok (.iconst 0, 1) := by decide +kernel
theorem dX6_init_14 : decode cX6_init 14 = .ok (.putfield 15, 3) := by decide +kernel
theorem dX6_init_17 : decode cX6_init 17 = .ok (.return_, 1) := by decide +kernel
theorem dX6_length_0 : decode cX6_length 0 = .ok (.aload_n 0, 1) := by decide +kernel
theorem dX6_length_1 : decode cX6_length 1 = .ok (.getfield 15, 3) := by decide +kernel
theorem dX6_length_4 : decode cX6_length 4 = .ok (.ireturn, 1) := by decide +kernel
theorem dX6_isFull_0 : decode cX6_isFull 0 = .ok (.aload_n 0, 1) := by decide +kernel
theorem dX6_isFull_1 : decode cX6_isFull 1 = .ok (.getfield 15, 3) := by decide +kernel
theorem dX6_isFull_4 : decode cX6_isFull 4 = .ok (.bipush 60, 2) := by decide +kernel
theorem dX6_isFull_6 : decode cX6_isFull 6 = .ok (.if_icmp .lt 7, 3) := by decide +kernel
theorem dX6_isFull_9 : decode cX6_isFull 9 = .ok (.iconst 1, 1) := by decide +kernel
theorem dX6_isFull_10 : decode cX6_isFull 10 = .ok (.goto 4, 3) := by decide +kernel
theorem dX6_isFull_13 : decode cX6_isFull 13 = .ok (.iconst 0, 1) := by decide +kernel
theorem dX6_isFull_14 : decode cX6_isFull 14 = .ok (.ireturn, 1) := by decide +kernel
theorem dX6_add_0 : decode cX6_add 0 = .ok (.aload_n 0, 1) := by decide +kernel
theorem dX6_add_1 : decode cX6_add 1 = .ok (.getfield 15, 3) := by decide +kernel
theorem dX6_add_4 : decode cX6_add 4 = .ok (.ifCond .lt 32, 3) := by decide +kernel
theorem dX6_add_7 : decode cX6_add 7 = .ok (.aload_n 0, 1) := by decide +kernel
theorem dX6_add_8 : decode cX6_add 8 = .ok (.getfield 15, 3) := by decide +kernel
theorem dX6_add_11 : decode cX6_add 11 = .ok (.bipush 60, 2) := by decide +kernel
theorem dX6_add_13 : decode cX6_add 13 = .ok (.if_icmp .ge 23, 3) := by decide +kernel
theorem dX6_add_16 : decode cX6_add 16 = .ok (.aload_n 0, 1) := by decide +kernel
theorem dX6_add_17 : decode cX6_add 17 = .ok (.getfield 9, 3) := by decide +kernel
theorem dX6_add_20 : decode cX6_add 20 = .ok (.aload_n 0, 1) := by decide +kernel
theorem dX6_add_21 : decode cX6_add 21 = .ok (.getfield 15, 3) := by decide +kernel
theorem dX6_add_24 : decode cX6_add 24 = .ok (.iload_n 1, 1) := by decide +kernel
theorem dX6_add_25 : decode cX6_add 25 = .ok (.iastore, 1) := by decide +kernel
theorem dX6_add_26 : decode cX6_add 26 = .ok (.aload_n 0, 1) := by decide +kernel
theorem dX6_add_27 : decode cX6_add 27 = .ok (.dup, 1) := by decide +kernel
theorem dX6_add_28 : decode cX6_add 28 = .ok (.getfield 15, 3) := by decide +kernel
theorem dX6_add_31 : decode cX6_add 31 = .ok (.iconst 1, 1) := by decide +kernel
theorem dX6_add_32 : decode cX6_add 32 = .ok (.iadd, 1) := by decide +kernel
theorem dX6_add_33 : decode cX6_add 33 = .ok (.putfield 15, 3) := by decide +kernel
theorem dX6_add_36 : decode cX6_add 36 = .ok (.return_, 1) := by decide +kernel
theorem dX6_empty_0 : decode cX6_empty 0 = .ok (.aload_n 0, 1) := by decide +kernel
theorem dX6_empty_1 : decode cX6_empty 1 = .ok (.iconst 0, 1) := by decide +kernel
theorem dX6_empty_2 : decode cX6_empty 2 = .ok (.putfield 15, 3) := by decide +kernel
theorem dX6_empty_5 : decode cX6_empty 5 = .ok (.return_, 1) := by decide +kernel
theorem dX6_codeAt_0 : decode cX6_codeAt 0 = .ok (.iload_n 1, 1) := by decide +kernel
theorem dX6_codeAt_1 : decode cX6_codeAt 1 = .ok (.ifCond .lt 26, 3) := by decide +kernel
theorem dX6_codeAt_4 : decode cX6_codeAt 4 = .ok (.iload_n 1, 1) := by decide +kernel
theorem dX6_codeAt_5 : decode cX6_codeAt 5 = .ok (.aload_n 0, 1) := by decide +kernel
theorem dX6_codeAt_6 : decode cX6_codeAt 6 = .ok (.getfield 15, 3) := by decide +kernel
theorem dX6_codeAt_9 : decode cX6_codeAt 9 = .ok (.if_icmp .ge 18, 3) := by decide +kernel
theorem dX6_codeAt_12 : decode cX6_codeAt 12 = .ok (.iload_n 1, 1) := by decide +kernel
theorem dX6_codeAt_13 : decode cX6_codeAt 13 = .ok (.bipush 60, 2) := by decide +kernel
theorem dX6_codeAt_15 : decode cX6_codeAt 15 = .ok (.if_icmp .ge 12, 3) := by decide +kernel
theorem dX6_codeAt_18 : decode cX6_codeAt 18 = .ok (.aload_n 0, 1) := by decide +kernel
theorem dX6_codeAt_19 : decode cX6_codeAt 19 = .ok (.getfield 9, 3) := by decide +kernel
theorem dX6_codeAt_22 : decode cX6_codeAt 22 = .ok (.iload_n 1, 1) := by decide +kernel
theorem dX6_codeAt_23 : decode cX6_codeAt 23 = .ok (.iaload, 1) := by decide +kernel
theorem dX6_codeAt_24 : decode cX6_codeAt 24 = .ok (.goto 4, 3) := by decide +kernel
theorem dX6_codeAt_27 : decode cX6_codeAt 27 = .ok (.iconst (-1), 1) := by decide +kernel
theorem dX6_codeAt_28 : decode cX6_codeAt 28 = .ok (.ireturn, 1) := by decide +kernel
theorem dX7_init_0 : decode cX7_init 0 = .ok (.aload_n 0, 1) := by decide +kernel
theorem dX7_init_1 : decode cX7_init 1 = .ok (.invokespecial 3, 3) := by decide +kernel
theorem dX7_init_4 : decode cX7_init 4 = .ok (.aload_n 0, 1) := by decide +kernel
theorem dX7_init_5 : decode cX7_init 5 = .ok (.new 9, 3) := by decide +kernel
theorem dX7_init_8 : decode cX7_init 8 = .ok (.dup, 1) := by decide +kernel
theorem dX7_init_9 : decode cX7_init 9 = .ok (.invokespecial 11, 3) := by decide +kernel
theorem dX7_init_12 : decode cX7_init 12 = .ok (.putfield 12, 3) := by decide +kernel
theorem dX7_init_15 : decode cX7_init 15 = .ok (.aload_n 0, 1) := by decide +kernel
theorem dX7_init_16 : decode cX7_init 16 = .ok (.new 16, 3) := by decide +kernel
theorem dX7_init_19 : decode cX7_init 19 = .ok (.dup, 1) := by decide +kernel
theorem dX7_init_20 : decode cX7_init 20 = .ok (.invokespecial 18, 3) := by decide +kernel
theorem dX7_init_23 : decode cX7_init 23 = .ok (.putfield 19, 3) := by decide +kernel
theorem dX7_init_26 : decode cX7_init 26 = .ok (.aload_n 0, 1) := by decide +kernel
theorem dX7_init_27 : decode cX7_init 27 = .ok (.iconst 2, 1) := by decide +kernel
theorem dX7_init_28 : decode cX7_init 28 = .ok (.anewarray 9, 3) := by decide +kernel
theorem dX7_init_31 : decode cX7_init 31 = .ok (.putfield 23, 3) := by decide +kernel
theorem dX7_init_34 : decode cX7_init 34 = .ok (.aload_n 0, 1) := by decide +kernel
theorem dX7_init_35 : decode cX7_init 35 = .ok (.new 27, 3) := by decide +kernel
theorem dX7_init_38 : decode cX7_init 38 = .ok (.dup, 1) := by decide +kernel
theorem dX7_init_39 : decode cX7_init 39 = .ok (.invokespecial 29, 3) := by decide +kernel
theorem dX7_init_42 : decode cX7_init 42 = .ok (.putfield 30, 3) := by decide +kernel
theorem dX7_init_45 : decode cX7_init 45 = .ok (.aload_n 0, 1) := by decide +kernel
theorem dX7_init_46 : decode cX7_init 46 = .ok (.new 34, 3) := by decide +kernel
theorem dX7_init_49 : decode cX7_init 49 = .ok (.dup, 1) := by decide +kernel
theorem dX7_init_50 : decode cX7_init 50 = .ok (.invokespecial 36, 3) := by decide +kernel
theorem dX7_init_53 : decode cX7_init 53 = .ok (.putfield 37, 3) := by decide +kernel
theorem dX7_init_56 : decode cX7_init 56 = .ok (.aload_n 0, 1) := by decide +kernel
theorem dX7_init_57 : decode cX7_init 57 = .ok (.new 41, 3) := by decide +kernel
theorem dX7_init_60 : decode cX7_init 60 = .ok (.dup, 1) := by decide +kernel
theorem dX7_init_61 : decode cX7_init 61 = .ok (.invokespecial 43, 3) := by decide +kernel
theorem dX7_init_64 : decode cX7_init 64 = .ok (.putfield 44, 3) := by decide +kernel
theorem dX7_init_67 : decode cX7_init 67 = .ok (.aload_n 0, 1) := by decide +kernel
theorem dX7_init_68 : decode cX7_init 68 = .ok (.new 48, 3) := by decide +kernel
theorem dX7_init_71 : decode cX7_init 71 = .ok (.dup, 1) := by decide +kernel
theorem dX7_init_72 : decode cX7_init 72 = .ok (.invokespecial 50, 3) := by decide +kernel
theorem dX7_init_75 : decode cX7_init 75 = .ok (.putfield 51, 3) := by decide +kernel
theorem dX7_init_78 : decode cX7_init 78 = .ok (.return_, 1) := by decide +kernel
theorem dX7_create_0 : decode cX7_create 0 = .ok (.iload_n 1, 1) := by decide +kernel
theorem dX7_create_1 : decode cX7_create 1 = .ok (.iconst 0, 1) := by decide +kernel
theorem dX7_create_2 : decode cX7_create 2 = .ok (.sipush 200, 3) := by decide +kernel
theorem dX7_create_5 : decode cX7_create 5 = .ok (.invokestatic 55, 3) := by decide +kernel
theorem dX7_create_8 : decode cX7_create 8 = .ok (.aload_n 0, 1) := by decide +kernel
theorem dX7_create_9 : decode cX7_create 9 = .ok (.getfield 19, 3) := by decide +kernel
theorem dX7_create_12 : decode cX7_create 12 = .ok (.aload_n 0, 1) := by decide +kernel
theorem dX7_create_13 : decode cX7_create 13 = .ok (.getfield 12, 3) := by decide +kernel
theorem dX7_create_16 : decode cX7_create 16 = .ok (.invokevirtual 59, 3) := by decide +kernel
theorem dX7_create_19 : decode cX7_create 19 = .ok (.aload_n 0, 1) := by decide +kernel
theorem dX7_create_20 : decode cX7_create 20 = .ok (.getfield 12, 3) := by decide +kernel
theorem dX7_create_23 : decode cX7_create 23 = .ok (.iload_n 1, 1) := by decide +kernel
theorem dX7_create_24 : decode cX7_create 24 = .ok (.invokevirtual 63, 3) := by decide +kernel
theorem dX7_create_27 : decode cX7_create 27 = .ok (.ireturn, 1) := by decide +kernel
theorem dX7_grow_0 : decode cX7_grow 0 = .ok (.aload_n 0, 1) := by decide +kernel
theorem dX7_grow_1 : decode cX7_grow 1 = .ok (.iload_n 1, 1) := by decide +kernel
theorem dX7_grow_2 : decode cX7_grow 2 = .ok (.invokevirtual 67, 3) := by decide +kernel
theorem dX7_grow_5 : decode cX7_grow 5 = .ok (.iload_n 2, 1) := by decide +kernel
theorem dX7_grow_6 : decode cX7_grow 6 = .ok (.iconst 1, 1) := by decide +kernel
theorem dX7_grow_7 : decode cX7_grow 7 = .ok (.sipush 200, 3) := by decide +kernel
theorem dX7_grow_10 : decode cX7_grow 10 = .ok (.invokestatic 55, 3) := by decide +kernel
theorem dX7_grow_13 : decode cX7_grow 13 = .ok (.aload_n 0, 1) := by decide +kernel
theorem dX7_grow_14 : decode cX7_grow 14 = .ok (.getfield 19, 3) := by decide +kernel
theorem dX7_grow_17 : decode cX7_grow 17 = .ok (.aload_n 0, 1) := by decide +kernel
theorem dX7_grow_18 : decode cX7_grow 18 = .ok (.getfield 12, 3) := by decide +kernel
theorem dX7_grow_21 : decode cX7_grow 21 = .ok (.invokevirtual 59, 3) := by decide +kernel
theorem dX7_grow_24 : decode cX7_grow 24 = .ok (.aload_n 0, 1) := by decide +kernel
theorem dX7_grow_25 : decode cX7_grow 25 = .ok (.getfield 12, 3) := by decide +kernel
theorem dX7_grow_28 : decode cX7_grow 28 = .ok (.iload_n 1, 1) := by decide +kernel
theorem dX7_grow_29 : decode cX7_grow 29 = .ok (.iload_n 2, 1) := by decide +kernel
theorem dX7_grow_30 : decode cX7_grow 30 = .ok (.invokevirtual 71, 3) := by decide +kernel
theorem dX7_grow_33 : decode cX7_grow 33 = .ok (.ireturn, 1) := by decide +kernel
theorem dX7_cut_0 : decode cX7_cut 0 = .ok (.aload_n 0, 1) := by decide +kernel
theorem dX7_cut_1 : decode cX7_cut 1 = .ok (.iload_n 1, 1) := by decide +kernel
theorem dX7_cut_2 : decode cX7_cut 2 = .ok (.invokevirtual 67, 3) := by decide +kernel
theorem dX7_cut_5 : decode cX7_cut 5 = .ok (.iload_n 2, 1) := by decide +kernel
theorem dX7_cut_6 : decode cX7_cut 6 = .ok (.iconst 1, 1) := by decide +kernel
theorem dX7_cut_7 : decode cX7_cut 7 = .ok (.sipush 200, 3) := by decide +kernel
theorem dX7_cut_10 : decode cX7_cut 10 = .ok (.invokestatic 55, 3) := by decide +kernel
theorem dX7_cut_13 : decode cX7_cut 13 = .ok (.aload_n 0, 1) := by decide +kernel
theorem dX7_cut_14 : decode cX7_cut 14 = .ok (.getfield 19, 3) := by decide +kernel
theorem dX7_cut_17 : decode cX7_cut 17 = .ok (.aload_n 0, 1) := by decide +kernel
theorem dX7_cut_18 : decode cX7_cut 18 = .ok (.getfield 12, 3) := by decide +kernel
theorem dX7_cut_21 : decode cX7_cut 21 = .ok (.invokevirtual 59, 3) := by decide +kernel
theorem dX7_cut_24 : decode cX7_cut 24 = .ok (.aload_n 0, 1) := by decide +kernel
theorem dX7_cut_25 : decode cX7_cut 25 = .ok (.getfield 12, 3) := by decide +kernel
theorem dX7_cut_28 : decode cX7_cut 28 = .ok (.iload_n 1, 1) := by decide +kernel
theorem dX7_cut_29 : decode cX7_cut 29 = .ok (.iload_n 2, 1) := by decide +kernel
theorem dX7_cut_30 : decode cX7_cut 30 = .ok (.invokevirtual 75, 3) := by decide +kernel
theorem dX7_cut_33 : decode cX7_cut 33 = .ok (.ireturn, 1) := by decide +kernel
theorem dX7_delete_0 : decode cX7_delete 0 = .ok (.aload_n 0, 1) := by decide +kernel
theorem dX7_delete_1 : decode cX7_delete 1 = .ok (.iload_n 1, 1) := by decide +kernel
theorem dX7_delete_2 : decode cX7_delete 2 = .ok (.invokevirtual 67, 3) := by decide +kernel
theorem dX7_delete_5 : decode cX7_delete 5 = .ok (.aload_n 0, 1) := by decide +kernel
theorem dX7_delete_6 : decode cX7_delete 6 = .ok (.getfield 19, 3) := by decide +kernel
theorem dX7_delete_9 : decode cX7_delete 9 = .ok (.aload_n 0, 1) := by decide +kernel
theorem dX7_delete_10 : decode cX7_delete 10 = .ok (.getfield 12, 3) := by decide +kernel
theorem dX7_delete_13 : decode cX7_delete 13 = .ok (.invokevirtual 59, 3) := by decide +kernel
theorem dX7_delete_16 : decode cX7_delete 16 = .ok (.aload_n 0, 1) := by decide +kernel
theorem dX7_delete_17 : decode cX7_delete 17 = .ok (.getfield 12, 3) := by decide +kernel
theorem dX7_delete_20 : decode cX7_delete 20 = .ok (.iload_n 1, 1) := by decide +kernel
theorem dX7_delete_21 : decode cX7_delete 21 = .ok (.invokevirtual 78, 3) := by decide +kernel
theorem dX7_delete_24 : decode cX7_delete 24 = .ok (.ireturn, 1) := by decide +kernel
theorem dX7_spoil_0 : decode cX7_spoil 0 = .ok (.iload_n 1, 1) := by decide +kernel
theorem dX7_spoil_1 : decode cX7_spoil 1 = .ok (.invokestatic 81, 3) := by decide +kernel
theorem dX7_spoil_4 : decode cX7_spoil 4 = .ok (.aload_n 0, 1) := by decide +kernel
theorem dX7_spoil_5 : decode cX7_spoil 5 = .ok (.getfield 12, 3) := by decide +kernel
theorem dX7_spoil_8 : decode cX7_spoil 8 = .ok (.iload_n 1, 1) := by decide +kernel
theorem dX7_spoil_9 : decode cX7_spoil 9 = .ok (.invokevirtual 84, 3) := by decide +kernel
theorem dX7_spoil_12 : decode cX7_spoil 12 = .ok (.iconst 3, 1) := by decide +kernel
theorem dX7_spoil_13 : decode cX7_spoil 13 = .ok (.if_icmp .ne 13, 3) := by decide +kernel
theorem dX7_spoil_16 : decode cX7_spoil 16 = .ok (.new 87, 3) := by decide +kernel
theorem dX7_spoil_19 : decode cX7_spoil 19 = .ok (.dup, 1) := by decide +kernel
theorem dX7_spoil_20 : decode cX7_spoil 20 = .ok (.ldc 89, 2) := by decide +kernel
theorem dX7_spoil_22 : decode cX7_spoil 22 = .ok (.invokespecial 91, 3) := by decide +kernel
theorem dX7_spoil_25 : decode cX7_spoil 25 = .ok (.athrow, 1) := by decide +kernel
theorem dX7_spoil_26 : decode cX7_spoil 26 = .ok (.aload_n 0, 1) := by decide +kernel
theorem dX7_spoil_27 : decode cX7_spoil 27 = .ok (.getfield 19, 3) := by decide +kernel
theorem dX7_spoil_30 : decode cX7_spoil 30 = .ok (.aload_n 0, 1) := by decide +kernel
theorem dX7_spoil_31 : decode cX7_spoil 31 = .ok (.getfield 12, 3) := by decide +kernel
theorem dX7_spoil_34 : decode cX7_spoil 34 = .ok (.invokevirtual 59, 3) := by decide +kernel
theorem dX7_spoil_37 : decode cX7_spoil 37 = .ok (.aload_n 0, 1) := by decide +kernel
theorem dX7_spoil_38 : decode cX7_spoil 38 = .ok (.getfield 12, 3) := by decide +kernel
theorem dX7_spoil_41 : decode cX7_spoil 41 = .ok (.iload_n 1, 1) := by decide +kernel
theorem dX7_spoil_42 : decode cX7_spoil 42 = .ok (.invokevirtual 94, 3) := by decide +kernel
theorem dX7_spoil_45 : decode cX7_spoil 45 = .ok (.ireturn, 1) := by decide +kernel
theorem dX7_heal_0 : decode cX7_heal 0 = .ok (.iload_n 1, 1) := by decide +kernel
theorem dX7_heal_1 : decode cX7_heal 1 = .ok (.invokestatic 81, 3) := by decide +kernel
theorem dX7_heal_4 : decode cX7_heal 4 = .ok (.aload_n 0, 1) := by decide +kernel
theorem dX7_heal_5 : decode cX7_heal 5 = .ok (.getfield 12, 3) := by decide +kernel
theorem dX7_heal_8 : decode cX7_heal 8 = .ok (.iload_n 1, 1) := by decide +kernel
theorem dX7_heal_9 : decode cX7_heal 9 = .ok (.invokevirtual 84, 3) := by decide +kernel
theorem dX7_heal_12 : decode cX7_heal 12 = .ok (.iconst 3, 1) := by decide +kernel
theorem dX7_heal_13 : decode cX7_heal 13 = .ok (.if_icmp .eq 13, 3) := by decide +kernel
theorem dX7_heal_16 : decode cX7_heal 16 = .ok (.new 87, 3) := by decide +kernel
theorem dX7_heal_19 : decode cX7_heal 19 = .ok (.dup, 1) := by decide +kernel
theorem dX7_heal_20 : decode cX7_heal 20 = .ok (.ldc 97, 2) := by decide +kernel
theorem dX7_heal_22 : decode cX7_heal 22 = .ok (.invokespecial 91, 3) := by decide +kernel
theorem dX7_heal_25 : decode cX7_heal 25 = .ok (.athrow, 1) := by decide +kernel
theorem dX7_heal_26 : decode cX7_heal 26 = .ok (.aload_n 0, 1) := by decide +kernel
theorem dX7_heal_27 : decode cX7_heal 27 = .ok (.getfield 12, 3) := by decide +kernel
theorem dX7_heal_30 : decode cX7_heal 30 = .ok (.iload_n 1, 1) := by decide +kernel
theorem dX7_heal_31 : decode cX7_heal 31 = .ok (.invokevirtual 99, 3) := by decide +kernel
theorem dX7_heal_34 : decode cX7_heal 34 = .ok (.ifCond .eq 13, 3) := by decide +kernel
theorem dX7_heal_37 : decode cX7_heal 37 = .ok (.new 87, 3) := by decide +kernel
theorem dX7_heal_40 : decode cX7_heal 40 = .ok (.dup, 1) := by decide +kernel
theorem dX7_heal_41 : decode cX7_heal 41 = .ok (.ldc 103, 2) := by decide +kernel
theorem dX7_heal_43 : decode cX7_heal 43 = .ok (.invokespecial 91, 3) := by decide +kernel
theorem dX7_heal_46 : decode cX7_heal 46 = .ok (.athrow, 1) := by decide +kernel
theorem dX7_heal_47 : decode cX7_heal 47 = .ok (.aload_n 0, 1) := by decide +kernel
theorem dX7_heal_48 : decode cX7_heal 48 = .ok (.getfield 19, 3) := by decide +kernel
theorem dX7_heal_51 : decode cX7_heal 51 = .ok (.aload_n 0, 1) := by decide +kernel
theorem dX7_heal_52 : decode cX7_heal 52 = .ok (.getfield 12, 3) := by decide +kernel
theorem dX7_heal_55 : decode cX7_heal 55 = .ok (.invokevirtual 59, 3) := by decide +kernel
theorem dX7_heal_58 : decode cX7_heal 58 = .ok (.aload_n 0, 1) := by decide +kernel
theorem dX7_heal_59 : decode cX7_heal 59 = .ok (.getfield 12, 3) := by decide +kernel
theorem dX7_heal_62 : decode cX7_heal 62 = .ok (.iload_n 1, 1) := by decide +kernel
theorem dX7_heal_63 : decode cX7_heal 63 = .ok (.invokevirtual 105, 3) := by decide +kernel
theorem dX7_heal_66 : decode cX7_heal 66 = .ok (.aload_n 0, 1) := by decide +kernel
theorem dX7_heal_67 : decode cX7_heal 67 = .ok (.getfield 12, 3) := by decide +kernel
theorem dX7_heal_70 : decode cX7_heal 70 = .ok (.iconst 3, 1) := by decide +kernel
theorem dX7_heal_71 : decode cX7_heal 71 = .ok (.invokevirtual 108, 3) := by decide +kernel
theorem dX7_heal_74 : decode cX7_heal 74 = .ok (.ireturn, 1) := by decide +kernel
theorem dX7_pack_0 : decode cX7_pack 0 = .ok (.aload_n 0, 1) := by decide +kernel
theorem dX7_pack_1 : decode cX7_pack 1 = .ok (.getfield 19, 3) := by decide +kernel
theorem dX7_pack_4 : decode cX7_pack 4 = .ok (.aload_n 0, 1) := by decide +kernel
theorem dX7_pack_5 : decode cX7_pack 5 = .ok (.getfield 12, 3) := by decide +kernel
theorem dX7_pack_8 : decode cX7_pack 8 = .ok (.invokevirtual 59, 3) := by decide +kernel
theorem dX7_pack_11 : decode cX7_pack 11 = .ok (.aload_n 0, 1) := by decide +kernel
theorem dX7_pack_12 : decode cX7_pack 12 = .ok (.getfield 44, 3) := by decide +kernel
theorem dX7_pack_15 : decode cX7_pack 15 = .ok (.aload_n 0, 1) := by decide +kernel
theorem dX7_pack_16 : decode cX7_pack 16 = .ok (.getfield 12, 3) := by decide +kernel
theorem dX7_pack_19 : decode cX7_pack 19 = .ok (.invokevirtual 111, 3) := by decide +kernel
theorem dX7_pack_22 : decode cX7_pack 22 = .ok (.istore_n 1, 1) := by decide +kernel
theorem dX7_pack_23 : decode cX7_pack 23 = .ok (.iload_n 1, 1) := by decide +kernel
theorem dX7_pack_24 : decode cX7_pack 24 = .ok (.iconst (-1), 1) := by decide +kernel
theorem dX7_pack_25 : decode cX7_pack 25 = .ok (.if_icmp .eq 14, 3) := by decide +kernel
theorem dX7_pack_28 : decode cX7_pack 28 = .ok (.aload_n 0, 1) := by decide +kernel
theorem dX7_pack_29 : decode cX7_pack 29 = .ok (.getfield 44, 3) := by decide +kernel
theorem dX7_pack_32 : decode cX7_pack 32 = .ok (.aload_n 0, 1) := by decide +kernel
theorem dX7_pack_33 : decode cX7_pack 33 = .ok (.getfield 12, 3) := by decide +kernel
theorem dX7_pack_36 : decode cX7_pack 36 = .ok (.invokevirtual 115, 3) := by decide +kernel
theorem dX7_pack_39 : decode cX7_pack 39 = .ok (.iload_n 1, 1) := by decide +kernel
theorem dX7_pack_40 : decode cX7_pack 40 = .ok (.ireturn, 1) := by decide +kernel
theorem dX7_set_0 : decode cX7_set 0 = .ok (.iload_n 1, 1) := by decide +kernel
theorem dX7_set_1 : decode cX7_set 1 = .ok (.iconst 0, 1) := by decide +kernel
theorem dX7_set_2 : decode cX7_set 2 = .ok (.iconst 1, 1) := by decide +kernel
theorem dX7_set_3 : decode cX7_set 3 = .ok (.invokestatic 55, 3) := by decide +kernel
theorem dX7_set_6 : decode cX7_set 6 = .ok (.aload_n 0, 1) := by decide +kernel
theorem dX7_set_7 : decode cX7_set 7 = .ok (.getfield 19, 3) := by decide +kernel
theorem dX7_set_10 : decode cX7_set 10 = .ok (.aload_n 0, 1) := by decide +kernel
theorem dX7_set_11 : decode cX7_set 11 = .ok (.getfield 12, 3) := by decide +kernel
theorem dX7_set_14 : decode cX7_set 14 = .ok (.invokevirtual 59, 3) := by decide +kernel
theorem dX7_set_17 : decode cX7_set 17 = .ok (.aload_n 0, 1) := by decide +kernel
theorem dX7_set_18 : decode cX7_set 18 = .ok (.getfield 12, 3) := by decide +kernel
theorem dX7_set_21 : decode cX7_set 21 = .ok (.getfield 118, 3) := by decide +kernel
theorem dX7_set_24 : decode cX7_set 24 = .ok (.istore_n 2, 1) := by decide +kernel
theorem dX7_set_25 : decode cX7_set 25 = .ok (.aload_n 0, 1) := by decide +kernel
theorem dX7_set_26 : decode cX7_set 26 = .ok (.getfield 12, 3) := by decide +kernel
theorem dX7_set_29 : decode cX7_set 29 = .ok (.iload_n 1, 1) := by decide +kernel
theorem dX7_set_30 : decode cX7_set 30 = .ok (.putfield 118, 3) := by decide +kernel
theorem dX7_set_33 : decode cX7_set 33 = .ok (.iload_n 2, 1) := by decide +kernel
theorem dX7_set_34 : decode cX7_set 34 = .ok (.ireturn, 1) := by decide +kernel
theorem dX7_append_0 : decode cX7_append 0 = .ok (.iload_n 1, 1) := by decide +kernel
theorem dX7_append_1 : decode cX7_append 1 = .ok (.bipush 33, 2) := by decide +kernel
theorem dX7_append_3 : decode cX7_append 3 = .ok (.bipush 126, 2) := by decide +kernel
theorem dX7_append_5 : decode cX7_append 5 = .ok (.invokestatic 55, 3) := by decide +kernel
theorem dX7_append_8 : decode cX7_append 8 = .ok (.aload_n 0, 1) := by decide +kernel
theorem dX7_append_9 : decode cX7_append 9 = .ok (.getfield 30, 3) := by decide +kernel
theorem dX7_append_12 : decode cX7_append 12 = .ok (.invokevirtual 122, 3) := by decide +kernel
theorem dX7_append_15 : decode cX7_append 15 = .ok (.ifCond .eq 13, 3) := by decide +kernel
theorem dX7_append_18 : decode cX7_append 18 = .ok (.new 87, 3) := by decide +kernel
theorem dX7_append_21 : decode cX7_append 21 = .ok (.dup, 1) := by decide +kernel
theorem dX7_append_22 : decode cX7_append 22 = .ok (.ldc 126, 2) := by decide +kernel
theorem dX7_append_24 : decode cX7_append 24 = .ok (.invokespecial 91, 3) := by decide +kernel
theorem dX7_append_27 : decode cX7_append 27 = .ok (.athrow, 1) := by decide +kernel
theorem dX7_append_28 : decode cX7_append 28 = .ok (.aload_n 0, 1) := by decide +kernel
theorem dX7_append_29 : decode cX7_append 29 = .ok (.getfield 30, 3) := by decide +kernel
theorem dX7_append_32 : decode cX7_append 32 = .ok (.iload_n 1, 1) := by decide +kernel
theorem dX7_append_33 : decode cX7_append 33 = .ok (.invokevirtual 128, 3) := by decide +kernel
theorem dX7_append_36 : decode cX7_append 36 = .ok (.aload_n 0, 1) := by decide +kernel
theorem dX7_append_37 : decode cX7_append 37 = .ok (.getfield 30, 3) := by decide +kernel
theorem dX7_append_40 : decode cX7_append 40 = .ok (.invokevirtual 131, 3) := by decide +kernel
theorem dX7_append_43 : decode cX7_append 43 = .ok (.ireturn, 1) := by decide +kernel
theorem dX7_clearBuffer_0 : decode cX7_clearBuffer 0 = .ok (.aload_n 0, 1) := by decide +kernel
theorem dX7_clearBuffer_1 : decode cX7_clearBuffer 1 = .ok (.getfield 30, 3) := by decide +kernel
theorem dX7_clearBuffer_4 : decode cX7_clearBuffer 4 = .ok (.invokevirtual 131, 3) := by decide +kernel
theorem dX7_clearBuffer_7 : decode cX7_clearBuffer 7 = .ok (.istore_n 1, 1) := by decide +kernel
theorem dX7_clearBuffer_8 : decode cX7_clearBuffer 8 = .ok (.aload_n 0, 1) := by decide +kernel
theorem dX7_clearBuffer_9 : decode cX7_clearBuffer 9 = .ok (.getfield 30, 3) := by decide +kernel
theorem dX7_clearBuffer_12 : decode cX7_clearBuffer 12 = .ok (.invokevirtual 135, 3) := by decide +kernel
theorem dX7_clearBuffer_15 : decode cX7_clearBuffer 15 = .ok (.iload_n 1, 1) := by decide +kernel
theorem dX7_clearBuffer_16 : decode cX7_clearBuffer 16 = .ok (.ireturn, 1) := by decide +kernel
theorem dX7_firstError_0 : decode cX7_firstError 0 = .ok (.aload_n 0, 1) := by decide +kernel
theorem dX7_firstError_1 : decode cX7_firstError 1 = .ok (.getfield 37, 3) := by decide +kernel
theorem dX7_firstError_4 : decode cX7_firstError 4 = .ok (.aload_n 0, 1) := by decide +kernel
theorem dX7_firstError_5 : decode cX7_firstError 5 = .ok (.getfield 30, 3) := by decide +kernel
theorem dX7_firstError_8 : decode cX7_firstError 8 = .ok (.invokevirtual 138, 3) := by decide +kernel
theorem dX7_firstError_11 : decode cX7_firstError 11 = .ok (.ireturn, 1) := by decide +kernel
theorem dX7_run_0 : decode cX7_run 0 = .ok (.aload_n 0, 1) := by decide +kernel
theorem dX7_run_1 : decode cX7_run 1 = .ok (.getfield 37, 3) := by decide +kernel
theorem dX7_run_4 : decode cX7_run 4 = .ok (.aload_n 0, 1) := by decide +kernel
theorem dX7_run_5 : decode cX7_run 5 = .ok (.getfield 30, 3) := by decide +kernel
theorem dX7_run_8 : decode cX7_run 8 = .ok (.invokevirtual 138, 3) := by decide +kernel
theorem dX7_run_11 : decode cX7_run 11 = .ok (.aload_n 0, 1) := by decide +kernel
theorem dX7_run_12 : decode cX7_run 12 = .ok (.getfield 30, 3) := by decide +kernel
theorem dX7_run_15 : decode cX7_run 15 = .ok (.invokevirtual 131, 3) := by decide +kernel
theorem dX7_run_18 : decode cX7_run 18 = .ok (.if_icmp .lt 13, 3) := by decide +kernel
theorem dX7_run_21 : decode cX7_run 21 = .ok (.aload_n 0, 1) := by decide +kernel
theorem dX7_run_22 : decode cX7_run 22 = .ok (.getfield 37, 3) := by decide +kernel
theorem dX7_run_25 : decode cX7_run 25 = .ok (.invokevirtual 142, 3) := by decide +kernel
theorem dX7_run_28 : decode cX7_run 28 = .ok (.ifCond .ne 13, 3) := by decide +kernel
theorem dX7_run_31 : decode cX7_run 31 = .ok (.new 145, 3) := by decide +kernel
theorem dX7_run_34 : decode cX7_run 34 = .ok (.dup, 1) := by decide +kernel
theorem dX7_run_35 : decode cX7_run 35 = .ok (.ldc 147, 2) := by decide +kernel
theorem dX7_run_37 : decode cX7_run 37 = .ok (.invokespecial 149, 3) := by decide +kernel
theorem dX7_run_40 : decode cX7_run 40 = .ok (.athrow, 1) := by decide +kernel
theorem dX7_run_41 : decode cX7_run 41 = .ok (.aload_n 0, 1) := by decide +kernel
theorem dX7_run_42 : decode cX7_run 42 = .ok (.getfield 19, 3) := by decide +kernel
theorem dX7_run_45 : decode cX7_run 45 = .ok (.aload_n 0, 1) := by decide +kernel
theorem dX7_run_46 : decode cX7_run 46 = .ok (.getfield 12, 3) := by decide +kernel
theorem dX7_run_49 : decode cX7_run 49 = .ok (.invokevirtual 59, 3) := by decide +kernel
theorem dX7_run_52 : decode cX7_run 52 = .ok (.aload_n 0, 1) := by decide +kernel
theorem dX7_run_53 : decode cX7_run 53 = .ok (.invokevirtual 150, 3) := by decide +kernel
theorem dX7_run_56 : decode cX7_run 56 = .ok (.istore_n 1, 1) := by decide +kernel
theorem dX7_run_57 : decode cX7_run 57 = .ok (.aload_n 0, 1) := by decide +kernel
theorem dX7_run_58 : decode cX7_run 58 = .ok (.getfield 30, 3) := by decide +kernel
theorem dX7_run_61 : decode cX7_run 61 = .ok (.invokevirtual 135, 3) := by decide +kernel
theorem dX7_run_64 : decode cX7_run 64 = .ok (.iload_n 1, 1) := by decide +kernel
theorem dX7_run_65 : decode cX7_run 65 = .ok (.ireturn, 1) := by decide +kernel
theorem dX7_keep_0 : decode cX7_keep 0 = .ok (.iload_n 1, 1) := by decide +kernel
theorem dX7_keep_1 : decode cX7_keep 1 = .ok (.iconst 0, 1) := by decide +kernel
theorem dX7_keep_2 : decode cX7_keep 2 = .ok (.iconst 1, 1) := by decide +kernel
theorem dX7_keep_3 : decode cX7_keep 3 = .ok (.invokestatic 55, 3) := by decide +kernel
theorem dX7_keep_6 : decode cX7_keep 6 = .ok (.aload_n 0, 1) := by decide +kernel
theorem dX7_keep_7 : decode cX7_keep 7 = .ok (.getfield 23, 3) := by decide +kernel
theorem dX7_keep_10 : decode cX7_keep 10 = .ok (.iload_n 1, 1) := by decide +kernel
theorem dX7_keep_11 : decode cX7_keep 11 = .ok (.aaload, 1) := by decide +kernel
theorem dX7_keep_12 : decode cX7_keep 12 = .ok (.ifnonnull 16, 3) := by decide +kernel
theorem dX7_keep_15 : decode cX7_keep 15 = .ok (.aload_n 0, 1) := by decide +kernel
theorem dX7_keep_16 : decode cX7_keep 16 = .ok (.getfield 23, 3) := by decide +kernel
theorem dX7_keep_19 : decode cX7_keep 19 = .ok (.iload_n 1, 1) := by decide +kernel
theorem dX7_keep_20 : decode cX7_keep 20 = .ok (.new 9, 3) := by decide +kernel
theorem dX7_keep_23 : decode cX7_keep 23 = .ok (.dup, 1) := by decide +kernel
theorem dX7_keep_24 : decode cX7_keep 24 = .ok (.invokespecial 11, 3) := by decide +kernel
theorem dX7_keep_27 : decode cX7_keep 27 = .ok (.aastore, 1) := by decide +kernel
theorem dX7_keep_28 : decode cX7_keep 28 = .ok (.aload_n 0, 1) := by decide +kernel
theorem dX7_keep_29 : decode cX7_keep 29 = .ok (.getfield 23, 3) := by decide +kernel
theorem dX7_keep_32 : decode cX7_keep 32 = .ok (.iload_n 1, 1) := by decide +kernel
theorem dX7_keep_33 : decode cX7_keep 33 = .ok (.aaload, 1) := by decide +kernel
theorem dX7_keep_34 : decode cX7_keep 34 = .ok (.aload_n 0, 1) := by decide +kernel
theorem dX7_keep_35 : decode cX7_keep 35 = .ok (.getfield 12, 3) := by decide +kernel
theorem dX7_keep_38 : decode cX7_keep 38 = .ok (.invokevirtual 153, 3) := by decide +kernel
theorem dX7_keep_41 : decode cX7_keep 41 = .ok (.aload_n 0, 1) := by decide +kernel
theorem dX7_keep_42 : decode cX7_keep 42 = .ok (.getfield 12, 3) := by decide +kernel
theorem dX7_keep_45 : decode cX7_keep 45 = .ok (.invokevirtual 156, 3) := by decide +kernel
theorem dX7_keep_48 : decode cX7_keep 48 = .ok (.ireturn, 1) := by decide +kernel
theorem dX7_goBack_0 : decode cX7_goBack 0 = .ok (.iload_n 1, 1) := by decide +kernel
theorem dX7_goBack_1 : decode cX7_goBack 1 = .ok (.iconst 0, 1) := by decide +kernel
theorem dX7_goBack_2 : decode cX7_goBack 2 = .ok (.iconst 1, 1) := by decide +kernel
theorem dX7_goBack_3 : decode cX7_goBack 3 = .ok (.invokestatic 55, 3) := by decide +kernel
theorem dX7_goBack_6 : decode cX7_goBack 6 = .ok (.aload_n 0, 1) := by decide +kernel
theorem dX7_goBack_7 : decode cX7_goBack 7 = .ok (.getfield 23, 3) := by decide +kernel
theorem dX7_goBack_10 : decode cX7_goBack 10 = .ok (.iload_n 1, 1) := by decide +kernel
theorem dX7_goBack_11 : decode cX7_goBack 11 = .ok (.aaload, 1) := by decide +kernel
theorem dX7_goBack_12 : decode cX7_goBack 12 = .ok (.ifnonnull 13, 3) := by decide +kernel
theorem dX7_goBack_15 : decode cX7_goBack 15 = .ok (.new 87, 3) := by decide +kernel
theorem dX7_goBack_18 : decode cX7_goBack 18 = .ok (.dup, 1) := by decide +kernel
theorem dX7_goBack_19 : decode cX7_goBack 19 = .ok (.ldc 159, 2) := by decide +kernel
theorem dX7_goBack_21 : decode cX7_goBack 21 = .ok (.invokespecial 91, 3) := by decide +kernel
theorem dX7_goBack_24 : decode cX7_goBack 24 = .ok (.athrow, 1) := by decide +kernel
theorem dX7_goBack_25 : decode cX7_goBack 25 = .ok (.aload_n 0, 1) := by decide +kernel
theorem dX7_goBack_26 : decode cX7_goBack 26 = .ok (.getfield 19, 3) := by decide +kernel
theorem dX7_goBack_29 : decode cX7_goBack 29 = .ok (.aload_n 0, 1) := by decide +kernel
theorem dX7_goBack_30 : decode cX7_goBack 30 = .ok (.getfield 12, 3) := by decide +kernel
theorem dX7_goBack_33 : decode cX7_goBack 33 = .ok (.invokevirtual 59, 3) := by decide +kernel
theorem dX7_goBack_36 : decode cX7_goBack 36 = .ok (.aload_n 0, 1) := by decide +kernel
theorem dX7_goBack_37 : decode cX7_goBack 37 = .ok (.getfield 12, 3) := by decide +kernel
theorem dX7_goBack_40 : decode cX7_goBack 40 = .ok (.aload_n 0, 1) := by decide +kernel
theorem dX7_goBack_41 : decode cX7_goBack 41 = .ok (.getfield 23, 3) := by decide +kernel
theorem dX7_goBack_44 : decode cX7_goBack 44 = .ok (.iload_n 1, 1) := by decide +kernel
theorem dX7_goBack_45 : decode cX7_goBack 45 = .ok (.aaload, 1) := by decide +kernel
theorem dX7_goBack_46 : decode cX7_goBack 46 = .ok (.invokevirtual 153, 3) := by decide +kernel
theorem dX7_goBack_49 : decode cX7_goBack 49 = .ok (.aload_n 0, 1) := by decide +kernel
theorem dX7_goBack_50 : decode cX7_goBack 50 = .ok (.getfield 12, 3) := by decide +kernel
theorem dX7_goBack_53 : decode cX7_goBack 53 = .ok (.invokevirtual 156, 3) := by decide +kernel
theorem dX7_goBack_56 : decode cX7_goBack 56 = .ok (.ireturn, 1) := by decide +kernel
theorem dX7_undo_0 : decode cX7_undo 0 = .ok (.aload_n 0, 1) := by decide +kernel
theorem dX7_undo_1 : decode cX7_undo 1 = .ok (.getfield 19, 3) := by decide +kernel
theorem dX7_undo_4 : decode cX7_undo 4 = .ok (.invokevirtual 161, 3) := by decide +kernel
theorem dX7_undo_7 : decode cX7_undo 7 = .ok (.ifCond .ne 13, 3) := by decide +kernel
theorem dX7_undo_10 : decode cX7_undo 10 = .ok (.new 87, 3) := by decide +kernel
theorem dX7_undo_13 : decode cX7_undo 13 = .ok (.dup, 1) := by decide +kernel
theorem dX7_undo_14 : decode cX7_undo 14 = .ok (.ldc 164, 2) := by decide +kernel
theorem dX7_undo_16 : decode cX7_undo 16 = .ok (.invokespecial 91, 3) := by decide +kernel
theorem dX7_undo_19 : decode cX7_undo 19 = .ok (.athrow, 1) := by decide +kernel
theorem dX7_undo_20 : decode cX7_undo 20 = .ok (.aload_n 0, 1) := by decide +kernel
theorem dX7_undo_21 : decode cX7_undo 21 = .ok (.getfield 19, 3) := by decide +kernel
theorem dX7_undo_24 : decode cX7_undo 24 = .ok (.aload_n 0, 1) := by decide +kernel
theorem dX7_undo_25 : decode cX7_undo 25 = .ok (.getfield 12, 3) := by decide +kernel
theorem dX7_undo_28 : decode cX7_undo 28 = .ok (.invokevirtual 166, 3) := by decide +kernel
theorem dX7_undo_31 : decode cX7_undo 31 = .ok (.aload_n 0, 1) := by decide +kernel
theorem dX7_undo_32 : decode cX7_undo 32 = .ok (.getfield 19, 3) := by decide +kernel
theorem dX7_undo_35 : decode cX7_undo 35 = .ok (.invokevirtual 161, 3) := by decide +kernel
theorem dX7_undo_38 : decode cX7_undo 38 = .ok (.ireturn, 1) := by decide +kernel
theorem dX7_fileOf_0 : decode cX7_fileOf 0 = .ok (.aload_n 0, 1) := by decide +kernel
theorem dX7_fileOf_1 : decode cX7_fileOf 1 = .ok (.iload_n 1, 1) := by decide +kernel
theorem dX7_fileOf_2 : decode cX7_fileOf 2 = .ok (.invokevirtual 67, 3) := by decide +kernel
theorem dX7_fileOf_5 : decode cX7_fileOf 5 = .ok (.iload_n 2, 1) := by decide +kernel
theorem dX7_fileOf_6 : decode cX7_fileOf 6 = .ok (.iconst 0, 1) := by decide +kernel
theorem dX7_fileOf_7 : decode cX7_fileOf 7 = .ok (.bipush 6, 2) := by decide +kernel
theorem dX7_fileOf_9 : decode cX7_fileOf 9 = .ok (.invokestatic 55, 3) := by decide +kernel
theorem dX7_fileOf_12 : decode cX7_fileOf 12 = .ok (.aload_n 0, 1) := by decide +kernel
theorem dX7_fileOf_13 : decode cX7_fileOf 13 = .ok (.getfield 12, 3) := by decide +kernel
theorem dX7_fileOf_16 : decode cX7_fileOf 16 = .ok (.iload_n 1, 1) := by decide +kernel
theorem dX7_fileOf_17 : decode cX7_fileOf 17 = .ok (.iload_n 2, 1) := by decide +kernel
theorem dX7_fileOf_18 : decode cX7_fileOf 18 = .ok (.invokevirtual 169, 3) := by decide +kernel
theorem dX7_fileOf_21 : decode cX7_fileOf 21 = .ok (.ireturn, 1) := by decide +kernel
theorem dX7_place_0 : decode cX7_place 0 = .ok (.aload_n 0, 1) := by decide +kernel
theorem dX7_place_1 : decode cX7_place 1 = .ok (.iload_n 1, 1) := by decide +kernel
theorem dX7_place_2 : decode cX7_place 2 = .ok (.invokevirtual 67, 3) := by decide +kernel
theorem dX7_place_5 : decode cX7_place 5 = .ok (.iload_n 2, 1) := by decide +kernel
theorem dX7_place_6 : decode cX7_place 6 = .ok (.ifCond .lt 15, 3) := by decide +kernel
theorem dX7_place_9 : decode cX7_place 9 = .ok (.iload_n 2, 1) := by decide +kernel
theorem dX7_place_10 : decode cX7_place 10 = .ok (.aload_n 0, 1) := by decide +kernel
theorem dX7_place_11 : decode cX7_place 11 = .ok (.getfield 12, 3) := by decide +kernel
theorem dX7_place_14 : decode cX7_place 14 = .ok (.iload_n 1, 1) := by decide +kernel
theorem dX7_place_15 : decode cX7_place 15 = .ok (.invokevirtual 172, 3) := by decide +kernel
theorem dX7_place_18 : decode cX7_place 18 = .ok (.if_icmp .lt 13, 3) := by decide +kernel
theorem dX7_place_21 : decode cX7_place 21 = .ok (.new 175, 3) := by decide +kernel
theorem dX7_place_24 : decode cX7_place 24 = .ok (.dup, 1) := by decide +kernel
theorem dX7_place_25 : decode cX7_place 25 = .ok (.ldc 177, 2) := by decide +kernel
theorem dX7_place_27 : decode cX7_place 27 = .ok (.invokespecial 179, 3) := by decide +kernel
theorem dX7_place_30 : decode cX7_place 30 = .ok (.athrow, 1) := by decide +kernel
theorem dX7_place_31 : decode cX7_place 31 = .ok (.aload_n 0, 1) := by decide +kernel
theorem dX7_place_32 : decode cX7_place 32 = .ok (.getfield 12, 3) := by decide +kernel
theorem dX7_place_35 : decode cX7_place 35 = .ok (.iload_n 1, 1) := by decide +kernel
theorem dX7_place_36 : decode cX7_place 36 = .ok (.iload_n 2, 1) := by decide +kernel
theorem dX7_place_37 : decode cX7_place 37 = .ok (.invokevirtual 180, 3) := by decide +kernel
theorem dX7_place_40 : decode cX7_place 40 = .ok (.ireturn, 1) := by decide +kernel
theorem dX7_blockOf_0 : decode cX7_blockOf 0 = .ok (.iload_n 1, 1) := by decide +kernel
theorem dX7_blockOf_1 : decode cX7_blockOf 1 = .ok (.invokestatic 81, 3) := by decide +kernel
theorem dX7_blockOf_4 : decode cX7_blockOf 4 = .ok (.iload_n 2, 1) := by decide +kernel
theorem dX7_blockOf_5 : decode cX7_blockOf 5 = .ok (.iconst 0, 1) := by decide +kernel
theorem dX7_blockOf_6 : decode cX7_blockOf 6 = .ok (.iconst 4, 1) := by decide +kernel
theorem dX7_blockOf_7 : decode cX7_blockOf 7 = .ok (.invokestatic 55, 3) := by decide +kernel
theorem dX7_blockOf_10 : decode cX7_blockOf 10 = .ok (.aload_n 0, 1) := by decide +kernel
theorem dX7_blockOf_11 : decode cX7_blockOf 11 = .ok (.getfield 12, 3) := by decide +kernel
theorem dX7_blockOf_14 : decode cX7_blockOf 14 = .ok (.iload_n 1, 1) := by decide +kernel
theorem dX7_blockOf_15 : decode cX7_blockOf 15 = .ok (.iload_n 2, 1) := by decide +kernel
theorem dX7_blockOf_16 : decode cX7_blockOf 16 = .ok (.invokevirtual 183, 3) := by decide +kernel
theorem dX7_blockOf_19 : decode cX7_blockOf 19 = .ok (.ireturn, 1) := by decide +kernel
theorem dX7_count_0 : decode cX7_count 0 = .ok (.iload_n 1, 1) := by decide +kernel
theorem dX7_count_1 : decode cX7_count 1 = .ok (.iconst 0, 1) := by decide +kernel
theorem dX7_count_2 : decode cX7_count 2 = .ok (.bipush 11, 2) := by decide +kernel
theorem dX7_count_4 : decode cX7_count 4 = .ok (.invokestatic 55, 3) := by decide +kernel
theorem dX7_count_7 : decode cX7_count 7 = .ok (.iload_n 1, 1) := by decide +kernel
theorem dX7_count_8 : decode cX7_count 8 = .ok (.tableswitch 176 0 10 #[60, 68, 77, 86, 95, 104, 124, 144, 152, 160, 168], 60) := by decide +kernel
theorem dX7_count_68 : decode cX7_count 68 = .ok (.aload_n 0, 1) := by decide +kernel
theorem dX7_count_69 : decode cX7_count 69 = .ok (.getfield 12, 3) := by decide +kernel
theorem dX7_count_72 : decode cX7_count 72 = .ok (.invokevirtual 156, 3) := by decide +kernel
theorem dX7_count_75 : decode cX7_count 75 = .ok (.ireturn, 1) := by decide +kernel
theorem dX7_count_76 : decode cX7_count 76 = .ok (.aload_n 0, 1) := by decide +kernel
theorem dX7_count_77 : decode cX7_count 77 = .ok (.getfield 12, 3) := by decide +kernel
theorem dX7_count_80 : decode cX7_count 80 = .ok (.iconst 0, 1) := by decide +kernel
theorem dX7_count_81 : decode cX7_count 81 = .ok (.invokevirtual 108, 3) := by decide +kernel
theorem dX7_count_84 : decode cX7_count 84 = .ok (.ireturn, 1) := by decide +kernel
theorem dX7_count_85 : decode cX7_count 85 = .ok (.aload_n 0, 1) := by decide +kernel
theorem dX7_count_86 : decode cX7_count 86 = .ok (.getfield 12, 3) := by decide +kernel
theorem dX7_count_89 : decode cX7_count 89 = .ok (.iconst 1, 1) := by decide +kernel
theorem dX7_count_90 : decode cX7_count 90 = .ok (.invokevirtual 108, 3) := by decide +kernel
theorem dX7_count_93 : decode cX7_count 93 = .ok (.ireturn, 1) := by decide +kernel
theorem dX7_count_94 : decode cX7_count 94 = .ok (.aload_n 0, 1) := by decide +kernel
theorem dX7_count_95 : decode cX7_count 95 = .ok (.getfield 12, 3) := by decide +kernel
theorem dX7_count_98 : decode cX7_count 98 = .ok (.iconst 2, 1) := by decide +kernel
theorem dX7_count_99 : decode cX7_count 99 = .ok (.invokevirtual 108, 3) := by decide +kernel
theorem dX7_count_102 : decode cX7_count 102 = .ok (.ireturn, 1) := by decide +kernel
theorem dX7_count_103 : decode cX7_count 103 = .ok (.aload_n 0, 1) := by decide +kernel
theorem dX7_count_104 : decode cX7_count 104 = .ok (.getfield 12, 3) := by decide +kernel
theorem dX7_count_107 : decode cX7_count 107 = .ok (.iconst 3, 1) := by decide +kernel
theorem dX7_count_108 : decode cX7_count 108 = .ok (.invokevirtual 108, 3) := by decide +kernel
theorem dX7_count_111 : decode cX7_count 111 = .ok (.ireturn, 1) := by decide +kernel
theorem dX7_count_112 : decode cX7_count 112 = .ok (.bipush 16, 2) := by decide +kernel
theorem dX7_count_114 : decode cX7_count 114 = .ok (.aload_n 0, 1) := by decide +kernel
theorem dX7_count_115 : decode cX7_count 115 = .ok (.getfield 12, 3) := by decide +kernel
theorem dX7_count_118 : decode cX7_count 118 = .ok (.iconst 1, 1) := by decide +kernel
theorem dX7_count_119 : decode cX7_count 119 = .ok (.invokevirtual 108, 3) := by decide +kernel
theorem dX7_count_122 : decode cX7_count 122 = .ok (.imul, 1) := by decide +kernel
theorem dX7_count_123 : decode cX7_count 123 = .ok (.aload_n 0, 1) := by decide +kernel
theorem dX7_count_124 : decode cX7_count 124 = .ok (.getfield 12, 3) := by decide +kernel
theorem dX7_count_127 : decode cX7_count 127 = .ok (.invokevirtual 186, 3) := by decide +kernel
theorem dX7_count_130 : decode cX7_count 130 = .ok (.iadd, 1) := by decide +kernel
theorem dX7_count_131 : decode cX7_count 131 = .ok (.ireturn, 1) := by decide +kernel
theorem dX7_count_132 : decode cX7_count 132 = .ok (.bipush 16, 2) := by decide +kernel
theorem dX7_count_134 : decode cX7_count 134 = .ok (.aload_n 0, 1) := by decide +kernel
theorem dX7_count_135 : decode cX7_count 135 = .ok (.getfield 12, 3) := by decide +kernel
theorem dX7_count_138 : decode cX7_count 138 = .ok (.iconst 2, 1) := by decide +kernel
theorem dX7_count_139 : decode cX7_count 139 = .ok (.invokevirtual 108, 3) := by decide +kernel
theorem dX7_count_142 : decode cX7_count 142 = .ok (.imul, 1) := by decide +kernel
theorem dX7_count_143 : decode cX7_count 143 = .ok (.aload_n 0, 1) := by decide +kernel
theorem dX7_count_144 : decode cX7_count 144 = .ok (.getfield 12, 3) := by decide +kernel
theorem dX7_count_147 : decode cX7_count 147 = .ok (.invokevirtual 186, 3) := by decide +kernel
theorem dX7_count_150 : decode cX7_count 150 = .ok (.isub, 1) := by decide +kernel
theorem dX7_count_151 : decode cX7_count 151 = .ok (.ireturn, 1) := by decide +kernel
theorem dX7_count_152 : decode cX7_count 152 = .ok (.aload_n 0, 1) := by decide +kernel
theorem dX7_count_153 : decode cX7_count 153 = .ok (.getfield 12, 3) := by decide +kernel
theorem dX7_count_156 : decode cX7_count 156 = .ok (.invokevirtual 189, 3) := by decide +kernel
theorem dX7_count_159 : decode cX7_count 159 = .ok (.ireturn, 1) := by decide +kernel
theorem dX7_count_160 : decode cX7_count 160 = .ok (.aload_n 0, 1) := by decide +kernel
theorem dX7_count_161 : decode cX7_count 161 = .ok (.getfield 12, 3) := by decide +kernel
theorem dX7_count_164 : decode cX7_count 164 = .ok (.getfield 192, 3) := by decide +kernel
theorem dX7_count_167 : decode cX7_count 167 = .ok (.ireturn, 1) := by decide +kernel
theorem dX7_count_168 : decode cX7_count 168 = .ok (.aload_n 0, 1) := by decide +kernel
theorem dX7_count_169 : decode cX7_count 169 = .ok (.getfield 12, 3) := by decide +kernel
theorem dX7_count_172 : decode cX7_count 172 = .ok (.getfield 195, 3) := by decide +kernel
theorem dX7_count_175 : decode cX7_count 175 = .ok (.ireturn, 1) := by decide +kernel
theorem dX7_count_176 : decode cX7_count 176 = .ok (.aload_n 0, 1) := by decide +kernel
theorem dX7_count_177 : decode cX7_count 177 = .ok (.getfield 12, 3) := by decide +kernel
theorem dX7_count_180 : decode cX7_count 180 = .ok (.getfield 118, 3) := by decide +kernel
theorem dX7_count_183 : decode cX7_count 183 = .ok (.ireturn, 1) := by decide +kernel
theorem dX7_count_184 : decode cX7_count 184 = .ok (.aload_n 0, 1) := by decide +kernel
theorem dX7_count_185 : decode cX7_count 185 = .ok (.getfield 19, 3) := by decide +kernel
theorem dX7_count_188 : decode cX7_count 188 = .ok (.invokevirtual 161, 3) := by decide +kernel
theorem dX7_count_191 : decode cX7_count 191 = .ok (.ireturn, 1) := by decide +kernel
theorem dX7_ifPlaced_0 : decode cX7_ifPlaced 0 = .ok (.iload_n 1, 1) := by decide +kernel
theorem dX7_ifPlaced_1 : decode cX7_ifPlaced 1 = .ok (.iconst 1, 1) := by decide +kernel
theorem dX7_ifPlaced_2 : decode cX7_ifPlaced 2 = .ok (.bipush 15, 2) := by decide +kernel
theorem dX7_ifPlaced_4 : decode cX7_ifPlaced 4 = .ok (.invokestatic 55, 3) := by decide +kernel
theorem dX7_ifPlaced_7 : decode cX7_ifPlaced 7 = .ok (.aload_n 0, 1) := by decide +kernel
theorem dX7_ifPlaced_8 : decode cX7_ifPlaced 8 = .ok (.getfield 12, 3) := by decide +kernel
theorem dX7_ifPlaced_11 : decode cX7_ifPlaced 11 = .ok (.iload_n 1, 1) := by decide +kernel
theorem dX7_ifPlaced_12 : decode cX7_ifPlaced 12 = .ok (.invokevirtual 198, 3) := by decide +kernel
theorem dX7_ifPlaced_15 : decode cX7_ifPlaced 15 = .ok (.ireturn, 1) := by decide +kernel
theorem dX7_ifGrown_0 : decode cX7_ifGrown 0 = .ok (.aload_n 0, 1) := by decide +kernel
theorem dX7_ifGrown_1 : decode cX7_ifGrown 1 = .ok (.iload_n 1, 1) := by decide +kernel
theorem dX7_ifGrown_2 : decode cX7_ifGrown 2 = .ok (.invokevirtual 67, 3) := by decide +kernel
theorem dX7_ifGrown_5 : decode cX7_ifGrown 5 = .ok (.iload_n 2, 1) := by decide +kernel
theorem dX7_ifGrown_6 : decode cX7_ifGrown 6 = .ok (.iconst 1, 1) := by decide +kernel
theorem dX7_ifGrown_7 : decode cX7_ifGrown 7 = .ok (.sipush 200, 3) := by decide +kernel
theorem dX7_ifGrown_10 : decode cX7_ifGrown 10 = .ok (.invokestatic 55, 3) := by decide +kernel
theorem dX7_ifGrown_13 : decode cX7_ifGrown 13 = .ok (.aload_n 0, 1) := by decide +kernel
theorem dX7_ifGrown_14 : decode cX7_ifGrown 14 = .ok (.getfield 12, 3) := by decide +kernel
theorem dX7_ifGrown_17 : decode cX7_ifGrown 17 = .ok (.iload_n 1, 1) := by decide +kernel
theorem dX7_ifGrown_18 : decode cX7_ifGrown 18 = .ok (.iload_n 2, 1) := by decide +kernel
theorem dX7_ifGrown_19 : decode cX7_ifGrown 19 = .ok (.invokevirtual 201, 3) := by decide +kernel
theorem dX7_ifGrown_22 : decode cX7_ifGrown 22 = .ok (.ireturn, 1) := by decide +kernel
theorem dX7_greatest_0 : decode cX7_greatest 0 = .ok (.sipush 200, 3) := by decide +kernel
theorem dX7_greatest_3 : decode cX7_greatest 3 = .ok (.istore_n 1, 1) := by decide +kernel
theorem dX7_greatest_4 : decode cX7_greatest 4 = .ok (.iload_n 1, 1) := by decide +kernel
theorem dX7_greatest_5 : decode cX7_greatest 5 = .ok (.ifCond .lt 22, 3) := by decide +kernel
theorem dX7_greatest_8 : decode cX7_greatest 8 = .ok (.aload_n 0, 1) := by decide +kernel
theorem dX7_greatest_9 : decode cX7_greatest 9 = .ok (.getfield 12, 3) := by decide +kernel
theorem dX7_greatest_12 : decode cX7_greatest 12 = .ok (.iload_n 1, 1) := by decide +kernel
theorem dX7_greatest_13 : decode cX7_greatest 13 = .ok (.invokevirtual 204, 3) := by decide +kernel
theorem dX7_greatest_16 : decode cX7_greatest 16 = .ok (.ifCond .eq 5, 3) := by decide +kernel
theorem dX7_greatest_19 : decode cX7_greatest 19 = .ok (.iload_n 1, 1) := by decide +kernel
theorem dX7_greatest_20 : decode cX7_greatest 20 = .ok (.ireturn, 1) := by decide +kernel
theorem dX7_greatest_21 : decode cX7_greatest 21 = .ok (.iinc 1 (-1), 3) := by decide +kernel
theorem dX7_greatest_24 : decode cX7_greatest 24 = .ok (.goto (-20), 3) := by decide +kernel
theorem dX7_greatest_27 : decode cX7_greatest 27 = .ok (.iconst (-1), 1) := by decide +kernel
theorem dX7_greatest_28 : decode cX7_greatest 28 = .ok (.ireturn, 1) := by decide +kernel
theorem dX7_fewest_0 : decode cX7_fewest 0 = .ok (.iload_n 1, 1) := by decide +kernel
theorem dX7_fewest_1 : decode cX7_fewest 1 = .ok (.iconst 0, 1) := by decide +kernel
theorem dX7_fewest_2 : decode cX7_fewest 2 = .ok (.iconst 1, 1) := by decide +kernel
theorem dX7_fewest_3 : decode cX7_fewest 3 = .ok (.invokestatic 55, 3) := by decide +kernel
theorem dX7_fewest_6 : decode cX7_fewest 6 = .ok (.iload_n 1, 1) := by decide +kernel
theorem dX7_fewest_7 : decode cX7_fewest 7 = .ok (.ifCond .ne 17, 3) := by decide +kernel
theorem dX7_fewest_10 : decode cX7_fewest 10 = .ok (.aload_n 0, 1) := by decide +kernel
theorem dX7_fewest_11 : decode cX7_fewest 11 = .ok (.getfield 51, 3) := by decide +kernel
theorem dX7_fewest_14 : decode cX7_fewest 14 = .ok (.aload_n 0, 1) := by decide +kernel
theorem dX7_fewest_15 : decode cX7_fewest 15 = .ok (.getfield 12, 3) := by decide +kernel
theorem dX7_fewest_18 : decode cX7_fewest 18 = .ok (.invokevirtual 207, 3) := by decide +kernel
theorem dX7_fewest_21 : decode cX7_fewest 21 = .ok (.goto 14, 3) := by decide +kernel
theorem dX7_fewest_24 : decode cX7_fewest 24 = .ok (.aload_n 0, 1) := by decide +kernel
theorem dX7_fewest_25 : decode cX7_fewest 25 = .ok (.getfield 51, 3) := by decide +kernel
theorem dX7_fewest_28 : decode cX7_fewest 28 = .ok (.aload_n 0, 1) := by decide +kernel
theorem dX7_fewest_29 : decode cX7_fewest 29 = .ok (.getfield 12, 3) := by decide +kernel
theorem dX7_fewest_32 : decode cX7_fewest 32 = .ok (.invokevirtual 210, 3) := by decide +kernel
theorem dX7_fewest_35 : decode cX7_fewest 35 = .ok (.ireturn, 1) := by decide +kernel
theorem dX7_ifPacked_0 : decode cX7_ifPacked 0 = .ok (.aload_n 0, 1) := by decide +kernel
theorem dX7_ifPacked_1 : decode cX7_ifPacked 1 = .ok (.getfield 44, 3) := by decide +kernel
theorem dX7_ifPacked_4 : decode cX7_ifPacked 4 = .ok (.aload_n 0, 1) := by decide +kernel
theorem dX7_ifPacked_5 : decode cX7_ifPacked 5 = .ok (.getfield 12, 3) := by decide +kernel
theorem dX7_ifPacked_8 : decode cX7_ifPacked 8 = .ok (.invokevirtual 111, 3) := by decide +kernel
theorem dX7_ifPacked_11 : decode cX7_ifPacked 11 = .ok (.ireturn, 1) := by decide +kernel
theorem dX7_weakest_0 : decode cX7_weakest 0 = .ok (.iconst (-1), 1) := by decide +kernel
theorem dX7_weakest_1 : decode cX7_weakest 1 = .ok (.istore_n 1, 1) := by decide +kernel
theorem dX7_weakest_2 : decode cX7_weakest 2 = .ok (.iconst 0, 1) := by decide +kernel
theorem dX7_weakest_3 : decode cX7_weakest 3 = .ok (.istore_n 2, 1) := by decide +kernel
theorem dX7_weakest_4 : decode cX7_weakest 4 = .ok (.iconst 0, 1) := by decide +kernel
theorem dX7_weakest_5 : decode cX7_weakest 5 = .ok (.istore_n 3, 1) := by decide +kernel
theorem dX7_weakest_6 : decode cX7_weakest 6 = .ok (.iload_n 3, 1) := by decide +kernel
theorem dX7_weakest_7 : decode cX7_weakest 7 = .ok (.bipush 24, 2) := by decide +kernel
theorem dX7_weakest_9 : decode cX7_weakest 9 = .ok (.if_icmp .ge 46, 3) := by decide +kernel
theorem dX7_weakest_12 : decode cX7_weakest 12 = .ok (.aload_n 0, 1) := by decide +kernel
theorem dX7_weakest_13 : decode cX7_weakest 13 = .ok (.getfield 12, 3) := by decide +kernel
theorem dX7_weakest_16 : decode cX7_weakest 16 = .ok (.iload_n 3, 1) := by decide +kernel
theorem dX7_weakest_17 : decode cX7_weakest 17 = .ok (.invokevirtual 84, 3) := by decide +kernel
theorem dX7_weakest_20 : decode cX7_weakest 20 = .ok (.iconst 3, 1) := by decide +kernel
theorem dX7_weakest_21 : decode cX7_weakest 21 = .ok (.if_icmp .ne 7, 3) := by decide +kernel
theorem dX7_weakest_24 : decode cX7_weakest 24 = .ok (.iconst 0, 1) := by decide +kernel
theorem dX7_weakest_25 : decode cX7_weakest 25 = .ok (.goto 11, 3) := by decide +kernel
theorem dX7_weakest_28 : decode cX7_weakest 28 = .ok (.aload_n 0, 1) := by decide +kernel
theorem dX7_weakest_29 : decode cX7_weakest 29 = .ok (.getfield 12, 3) := by decide +kernel
theorem dX7_weakest_32 : decode cX7_weakest 32 = .ok (.iload_n 3, 1) := by decide +kernel
theorem dX7_weakest_33 : decode cX7_weakest 33 = .ok (.invokevirtual 213, 3) := by decide +kernel
theorem dX7_weakest_36 : decode cX7_weakest 36 = .ok (.istore 4, 2) := by decide +kernel
theorem dX7_weakest_38 : decode cX7_weakest 38 = .ok (.iload 4, 2) := by decide +kernel
theorem dX7_weakest_40 : decode cX7_weakest 40 = .ok (.iload_n 2, 1) := by decide +kernel
theorem dX7_weakest_41 : decode cX7_weakest 41 = .ok (.if_icmp .le 8, 3) := by decide +kernel
theorem dX7_weakest_44 : decode cX7_weakest 44 = .ok (.iload 4, 2) := by decide +kernel
theorem dX7_weakest_46 : decode cX7_weakest 46 = .ok (.istore_n 2, 1) := by decide +kernel
theorem dX7_weakest_47 : decode cX7_weakest 47 = .ok (.iload_n 3, 1) := by decide +kernel
theorem dX7_weakest_48 : decode cX7_weakest 48 = .ok (.istore_n 1, 1) := by decide +kernel
theorem dX7_weakest_49 : decode cX7_weakest 49 = .ok (.iinc 3 1, 3) := by decide +kernel
theorem dX7_weakest_52 : decode cX7_weakest 52 = .ok (.goto (-46), 3) := by decide +kernel
theorem dX7_weakest_55 : decode cX7_weakest 55 = .ok (.iload_n 1, 1) := by decide +kernel
theorem dX7_weakest_56 : decode cX7_weakest 56 = .ok (.ireturn, 1) := by decide +kernel
theorem dX7_usedShare_0 : decode cX7_usedShare 0 = .ok (.bipush 16, 2) := by decide +kernel
theorem dX7_usedShare_2 : decode cX7_usedShare 2 = .ok (.aload_n 0, 1) := by decide +kernel
theorem dX7_usedShare_3 : decode cX7_usedShare 3 = .ok (.getfield 12, 3) := by decide +kernel
theorem dX7_usedShare_6 : decode cX7_usedShare 6 = .ok (.iconst 1, 1) := by decide +kernel
theorem dX7_usedShare_7 : decode cX7_usedShare 7 = .ok (.invokevirtual 108, 3) := by decide +kernel
theorem dX7_usedShare_10 : decode cX7_usedShare 10 = .ok (.aload_n 0, 1) := by decide +kernel
theorem dX7_usedShare_11 : decode cX7_usedShare 11 = .ok (.getfield 12, 3) := by decide +kernel
theorem dX7_usedShare_14 : decode cX7_usedShare 14 = .ok (.iconst 2, 1) := by decide +kernel
theorem dX7_usedShare_15 : decode cX7_usedShare 15 = .ok (.invokevirtual 108, 3) := by decide +kernel
theorem dX7_usedShare_18 : decode cX7_usedShare 18 = .ok (.iadd, 1) := by decide +kernel
theorem dX7_usedShare_19 : decode cX7_usedShare 19 = .ok (.imul, 1) := by decide +kernel
theorem dX7_usedShare_20 : decode cX7_usedShare 20 = .ok (.istore_n 1, 1) := by decide +kernel
theorem dX7_usedShare_21 : decode cX7_usedShare 21 = .ok (.iload_n 1, 1) := by decide +kernel
theorem dX7_usedShare_22 : decode cX7_usedShare 22 = .ok (.ifCond .ne 7, 3) := by decide +kernel
theorem dX7_usedShare_25 : decode cX7_usedShare 25 = .ok (.dconst 1, 1) := by decide +kernel
theorem dX7_usedShare_26 : decode cX7_usedShare 26 = .ok (.goto 12, 3) := by decide +kernel
theorem dX7_usedShare_29 : decode cX7_usedShare 29 = .ok (.aload_n 0, 1) := by decide +kernel
theorem dX7_usedShare_30 : decode cX7_usedShare 30 = .ok (.iconst 5, 1) := by decide +kernel
theorem dX7_usedShare_31 : decode cX7_usedShare 31 = .ok (.invokevirtual 216, 3) := by decide +kernel
theorem dX7_usedShare_34 : decode cX7_usedShare 34 = .ok (.i2d, 1) := by decide +kernel
theorem dX7_usedShare_35 : decode cX7_usedShare 35 = .ok (.iload_n 1, 1) := by decide +kernel
theorem dX7_usedShare_36 : decode cX7_usedShare 36 = .ok (.i2d, 1) := by decide +kernel
theorem dX7_usedShare_37 : decode cX7_usedShare 37 = .ok (.ddiv, 1) := by decide +kernel
theorem dX7_usedShare_38 : decode cX7_usedShare 38 = .ok (.dreturn, 1) := by decide +kernel
theorem dX7_digest_0 : decode cX7_digest 0 = .ok (.ldc2_w 219, 3) := by decide +kernel
theorem dX7_digest_3 : decode cX7_digest 3 = .ok (.lstore_n 1, 1) := by decide +kernel
theorem dX7_digest_4 : decode cX7_digest 4 = .ok (.iconst 0, 1) := by decide +kernel
theorem dX7_digest_5 : decode cX7_digest 5 = .ok (.istore_n 3, 1) := by decide +kernel
theorem dX7_digest_6 : decode cX7_digest 6 = .ok (.iload_n 3, 1) := by decide +kernel
theorem dX7_digest_7 : decode cX7_digest 7 = .ok (.bipush 11, 2) := by decide +kernel
theorem dX7_digest_9 : decode cX7_digest 9 = .ok (.if_icmp .gt 20, 3) := by decide +kernel
theorem dX7_digest_12 : decode cX7_digest 12 = .ok (.lload_n 1, 1) := by decide +kernel
theorem dX7_digest_13 : decode cX7_digest 13 = .ok (.aload_n 0, 1) := by decide +kernel
theorem dX7_digest_14 : decode cX7_digest 14 = .ok (.iload_n 3, 1) := by decide +kernel
theorem dX7_digest_15 : decode cX7_digest 15 = .ok (.invokevirtual 216, 3) := by decide +kernel
theorem dX7_digest_18 : decode cX7_digest 18 = .ok (.i2l, 1) := by decide +kernel
theorem dX7_digest_19 : decode cX7_digest 19 = .ok (.invokestatic 221, 3) := by decide +kernel
theorem dX7_digest_22 : decode cX7_digest 22 = .ok (.lstore_n 1, 1) := by decide +kernel
theorem dX7_digest_23 : decode cX7_digest 23 = .ok (.iinc 3 1, 3) := by decide +kernel
theorem dX7_digest_26 : decode cX7_digest 26 = .ok (.goto (-20), 3) := by decide +kernel
theorem dX7_digest_29 : decode cX7_digest 29 = .ok (.iconst 0, 1) := by decide +kernel
theorem dX7_digest_30 : decode cX7_digest 30 = .ok (.istore_n 3, 1) := by decide +kernel
theorem dX7_digest_31 : decode cX7_digest 31 = .ok (.iload_n 3, 1) := by decide +kernel
theorem dX7_digest_32 : decode cX7_digest 32 = .ok (.bipush 10, 2) := by decide +kernel
theorem dX7_digest_34 : decode cX7_digest 34 = .ok (.if_icmp .ge 27, 3) := by decide +kernel
theorem dX7_digest_37 : decode cX7_digest 37 = .ok (.aload_n 0, 1) := by decide +kernel
theorem dX7_digest_38 : decode cX7_digest 38 = .ok (.getfield 12, 3) := by decide +kernel
theorem dX7_digest_41 : decode cX7_digest 41 = .ok (.iload_n 3, 1) := by decide +kernel
theorem dX7_digest_42 : decode cX7_digest 42 = .ok (.invokevirtual 225, 3) := by decide +kernel
theorem dX7_digest_45 : decode cX7_digest 45 = .ok (.ifCond .eq 10, 3) := by decide +kernel
theorem dX7_digest_48 : decode cX7_digest 48 = .ok (.aload_n 0, 1) := by decide +kernel
theorem dX7_digest_49 : decode cX7_digest 49 = .ok (.lload_n 1, 1) := by decide +kernel
theorem dX7_digest_50 : decode cX7_digest 50 = .ok (.iload_n 3, 1) := by decide +kernel
theorem dX7_digest_51 : decode cX7_digest 51 = .ok (.invokevirtual 228, 3) := by decide +kernel
theorem dX7_digest_54 : decode cX7_digest 54 = .ok (.lstore_n 1, 1) := by decide +kernel
theorem dX7_digest_55 : decode cX7_digest 55 = .ok (.iinc 3 1, 3) := by decide +kernel
theorem dX7_digest_58 : decode cX7_digest 58 = .ok (.goto (-27), 3) := by decide +kernel
theorem dX7_digest_61 : decode cX7_digest 61 = .ok (.iconst 0, 1) := by decide +kernel
theorem dX7_digest_62 : decode cX7_digest 62 = .ok (.istore_n 3, 1) := by decide +kernel
theorem dX7_digest_63 : decode cX7_digest 63 = .ok (.iload_n 3, 1) := by decide +kernel
theorem dX7_digest_64 : decode cX7_digest 64 = .ok (.bipush 24, 2) := by decide +kernel
theorem dX7_digest_66 : decode cX7_digest 66 = .ok (.if_icmp .ge 40, 3) := by decide +kernel
theorem dX7_digest_69 : decode cX7_digest 69 = .ok (.iconst 0, 1) := by decide +kernel
theorem dX7_digest_70 : decode cX7_digest 70 = .ok (.istore 4, 2) := by decide +kernel
theorem dX7_digest_72 : decode cX7_digest 72 = .ok (.iload 4, 2) := by decide +kernel
theorem dX7_digest_74 : decode cX7_digest 74 = .ok (.iconst 4, 1) := by decide +kernel
theorem dX7_digest_75 : decode cX7_digest 75 = .ok (.if_icmp .gt 25, 3) := by decide +kernel
theorem dX7_digest_78 : decode cX7_digest 78 = .ok (.lload_n 1, 1) := by decide +kernel
theorem dX7_digest_79 : decode cX7_digest 79 = .ok (.aload_n 0, 1) := by decide +kernel
theorem dX7_digest_80 : decode cX7_digest 80 = .ok (.getfield 12, 3) := by decide +kernel
theorem dX7_digest_83 : decode cX7_digest 83 = .ok (.iload_n 3, 1) := by decide +kernel
theorem dX7_digest_84 : decode cX7_digest 84 = .ok (.iload 4, 2) := by decide +kernel
theorem dX7_digest_86 : decode cX7_digest 86 = .ok (.invokevirtual 183, 3) := by decide +kernel
theorem dX7_digest_89 : decode cX7_digest 89 = .ok (.i2l, 1) := by decide +kernel
theorem dX7_digest_90 : decode cX7_digest 90 = .ok (.invokestatic 221, 3) := by decide +kernel
theorem dX7_digest_93 : decode cX7_digest 93 = .ok (.lstore_n 1, 1) := by decide +kernel
theorem dX7_digest_94 : decode cX7_digest 94 = .ok (.iinc 4 1, 3) := by decide +kernel
theorem dX7_digest_97 : decode cX7_digest 97 = .ok (.goto (-25), 3) := by decide +kernel
theorem dX7_digest_100 : decode cX7_digest 100 = .ok (.iinc 3 1, 3) := by decide +kernel
theorem dX7_digest_103 : decode cX7_digest 103 = .ok (.goto (-40), 3) := by decide +kernel
theorem dX7_digest_106 : decode cX7_digest 106 = .ok (.aload_n 0, 1) := by decide +kernel
theorem dX7_digest_107 : decode cX7_digest 107 = .ok (.aload_n 0, 1) := by decide +kernel
theorem dX7_digest_108 : decode cX7_digest 108 = .ok (.lload_n 1, 1) := by decide +kernel
theorem dX7_digest_109 : decode cX7_digest 109 = .ok (.invokevirtual 232, 3) := by decide +kernel
theorem dX7_digest_112 : decode cX7_digest 112 = .ok (.invokevirtual 236, 3) := by decide +kernel
theorem dX7_digest_115 : decode cX7_digest 115 = .ok (.lreturn, 1) := by decide +kernel
theorem dX7_mixFile_0 : decode cX7_mixFile 0 = .ok (.lload_n 1, 1) := by decide +kernel
theorem dX7_mixFile_1 : decode cX7_mixFile 1 = .ok (.iload_n 3, 1) := by decide +kernel
theorem dX7_mixFile_2 : decode cX7_mixFile 2 = .ok (.i2l, 1) := by decide +kernel
theorem dX7_mixFile_3 : decode cX7_mixFile 3 = .ok (.invokestatic 221, 3) := by decide +kernel
theorem dX7_mixFile_6 : decode cX7_mixFile 6 = .ok (.lstore 4, 2) := by decide +kernel
theorem dX7_mixFile_8 : decode cX7_mixFile 8 = .ok (.iconst 0, 1) := by decide +kernel
theorem dX7_mixFile_9 : decode cX7_mixFile 9 = .ok (.istore 6, 2) := by decide +kernel
theorem dX7_mixFile_11 : decode cX7_mixFile 11 = .ok (.iload 6, 2) := by decide +kernel
theorem dX7_mixFile_13 : decode cX7_mixFile 13 = .ok (.bipush 6, 2) := by decide +kernel
theorem dX7_mixFile_15 : decode cX7_mixFile 15 = .ok (.if_icmp .gt 27, 3) := by decide +kernel
theorem dX7_mixFile_18 : decode cX7_mixFile 18 = .ok (.lload 4, 2) := by decide +kernel
theorem dX7_mixFile_20 : decode cX7_mixFile 20 = .ok (.aload_n 0, 1) := by decide +kernel
theorem dX7_mixFile_21 : decode cX7_mixFile 21 = .ok (.getfield 12, 3) := by decide +kernel
theorem dX7_mixFile_24 : decode cX7_mixFile 24 = .ok (.iload_n 3, 1) := by decide +kernel
theorem dX7_mixFile_25 : decode cX7_mixFile 25 = .ok (.iload 6, 2) := by decide +kernel
theorem dX7_mixFile_27 : decode cX7_mixFile 27 = .ok (.invokevirtual 169, 3) := by decide +kernel
theorem dX7_mixFile_30 : decode cX7_mixFile 30 = .ok (.i2l, 1) := by decide +kernel
theorem dX7_mixFile_31 : decode cX7_mixFile 31 = .ok (.invokestatic 221, 3) := by decide +kernel
theorem dX7_mixFile_34 : decode cX7_mixFile 34 = .ok (.lstore 4, 2) := by decide +kernel
theorem dX7_mixFile_36 : decode cX7_mixFile 36 = .ok (.iinc 6 1, 3) := by decide +kernel
theorem dX7_mixFile_39 : decode cX7_mixFile 39 = .ok (.goto (-28), 3) := by decide +kernel
theorem dX7_mixFile_42 : decode cX7_mixFile 42 = .ok (.aload_n 0, 1) := by decide +kernel
theorem dX7_mixFile_43 : decode cX7_mixFile 43 = .ok (.getfield 12, 3) := by decide +kernel
theorem dX7_mixFile_46 : decode cX7_mixFile 46 = .ok (.iload_n 3, 1) := by decide +kernel
theorem dX7_mixFile_47 : decode cX7_mixFile 47 = .ok (.invokevirtual 172, 3) := by decide +kernel
theorem dX7_mixFile_50 : decode cX7_mixFile 50 = .ok (.istore 6, 2) := by decide +kernel
theorem dX7_mixFile_52 : decode cX7_mixFile 52 = .ok (.iload 6, 2) := by decide +kernel
theorem dX7_mixFile_54 : decode cX7_mixFile 54 = .ok (.ifCond .le 40, 3) := by decide +kernel
theorem dX7_mixFile_57 : decode cX7_mixFile 57 = .ok (.lload 4, 2) := by decide +kernel
theorem dX7_mixFile_59 : decode cX7_mixFile 59 = .ok (.aload_n 0, 1) := by decide +kernel
theorem dX7_mixFile_60 : decode cX7_mixFile 60 = .ok (.getfield 12, 3) := by decide +kernel
theorem dX7_mixFile_63 : decode cX7_mixFile 63 = .ok (.iload_n 3, 1) := by decide +kernel
theorem dX7_mixFile_64 : decode cX7_mixFile 64 = .ok (.iconst 0, 1) := by decide +kernel
theorem dX7_mixFile_65 : decode cX7_mixFile 65 = .ok (.invokevirtual 180, 3) := by decide +kernel
theorem dX7_mixFile_68 : decode cX7_mixFile 68 = .ok (.i2l, 1) := by decide +kernel
theorem dX7_mixFile_69 : decode cX7_mixFile 69 = .ok (.invokestatic 221, 3) := by decide +kernel
theorem dX7_mixFile_72 : decode cX7_mixFile 72 = .ok (.lstore 4, 2) := by decide +kernel
theorem dX7_mixFile_74 : decode cX7_mixFile 74 = .ok (.lload 4, 2) := by decide +kernel
theorem dX7_mixFile_76 : decode cX7_mixFile 76 = .ok (.aload_n 0, 1) := by decide +kernel
theorem dX7_mixFile_77 : decode cX7_mixFile 77 = .ok (.getfield 12, 3) := by decide +kernel
theorem dX7_mixFile_80 : decode cX7_mixFile 80 = .ok (.iload_n 3, 1) := by decide +kernel
theorem dX7_mixFile_81 : decode cX7_mixFile 81 = .ok (.iload 6, 2) := by decide +kernel
theorem dX7_mixFile_83 : decode cX7_mixFile 83 = .ok (.iconst 1, 1) := by decide +kernel
theorem dX7_mixFile_84 : decode cX7_mixFile 84 = .ok (.isub, 1) := by decide +kernel
theorem dX7_mixFile_85 : decode cX7_mixFile 85 = .ok (.invokevirtual 180, 3) := by decide +kernel
theorem dX7_mixFile_88 : decode cX7_mixFile 88 = .ok (.i2l, 1) := by decide +kernel
theorem dX7_mixFile_89 : decode cX7_mixFile 89 = .ok (.invokestatic 221, 3) := by decide +kernel
theorem dX7_mixFile_92 : decode cX7_mixFile 92 = .ok (.lstore 4, 2) := by decide +kernel
theorem dX7_mixFile_94 : decode cX7_mixFile 94 = .ok (.lload 4, 2) := by decide +kernel
theorem dX7_mixFile_96 : decode cX7_mixFile 96 = .ok (.aload_n 0, 1) := by decide +kernel
theorem dX7_mixFile_97 : decode cX7_mixFile 97 = .ok (.getfield 12, 3) := by decide +kernel
theorem dX7_mixFile_100 : decode cX7_mixFile 100 = .ok (.iload_n 3, 1) := by decide +kernel
theorem dX7_mixFile_101 : decode cX7_mixFile 101 = .ok (.iconst 1, 1) := by decide +kernel
theorem dX7_mixFile_102 : decode cX7_mixFile 102 = .ok (.invokevirtual 201, 3) := by decide +kernel
theorem dX7_mixFile_105 : decode cX7_mixFile 105 = .ok (.i2l, 1) := by decide +kernel
theorem dX7_mixFile_106 : decode cX7_mixFile 106 = .ok (.invokestatic 221, 3) := by decide +kernel
theorem dX7_mixFile_109 : decode cX7_mixFile 109 = .ok (.lstore 4, 2) := by decide +kernel
theorem dX7_mixFile_111 : decode cX7_mixFile 111 = .ok (.lload 4, 2) := by decide +kernel
theorem dX7_mixFile_113 : decode cX7_mixFile 113 = .ok (.aload_n 0, 1) := by decide +kernel
theorem dX7_mixFile_114 : decode cX7_mixFile 114 = .ok (.getfield 12, 3) := by decide +kernel
theorem dX7_mixFile_117 : decode cX7_mixFile 117 = .ok (.iload_n 3, 1) := by decide +kernel
theorem dX7_mixFile_118 : decode cX7_mixFile 118 = .ok (.bipush 16, 2) := by decide +kernel
theorem dX7_mixFile_120 : decode cX7_mixFile 120 = .ok (.invokevirtual 201, 3) := by decide +kernel
theorem dX7_mixFile_123 : decode cX7_mixFile 123 = .ok (.i2l, 1) := by decide +kernel
theorem dX7_mixFile_124 : decode cX7_mixFile 124 = .ok (.invokestatic 221, 3) := by decide +kernel
theorem dX7_mixFile_127 : decode cX7_mixFile 127 = .ok (.lreturn, 1) := by decide +kernel
theorem dX7_mixOutlook_0 : decode cX7_mixOutlook 0 = .ok (.lload_n 1, 1) := by decide +kernel
theorem dX7_mixOutlook_1 : decode cX7_mixOutlook 1 = .ok (.aload_n 0, 1) := by decide +kernel
theorem dX7_mixOutlook_2 : decode cX7_mixOutlook 2 = .ok (.getfield 12, 3) := by decide +kernel
theorem dX7_mixOutlook_5 : decode cX7_mixOutlook 5 = .ok (.iconst 1, 1) := by decide +kernel
theorem dX7_mixOutlook_6 : decode cX7_mixOutlook 6 = .ok (.invokevirtual 198, 3) := by decide +kernel
theorem dX7_mixOutlook_9 : decode cX7_mixOutlook 9 = .ok (.i2l, 1) := by decide +kernel
theorem dX7_mixOutlook_10 : decode cX7_mixOutlook 10 = .ok (.invokestatic 221, 3) := by decide +kernel
theorem dX7_mixOutlook_13 : decode cX7_mixOutlook 13 = .ok (.lstore_n 3, 1) := by decide +kernel
theorem dX7_mixOutlook_14 : decode cX7_mixOutlook 14 = .ok (.lload_n 3, 1) := by decide +kernel
theorem dX7_mixOutlook_15 : decode cX7_mixOutlook 15 = .ok (.aload_n 0, 1) := by decide +kernel
theorem dX7_mixOutlook_16 : decode cX7_mixOutlook 16 = .ok (.getfield 12, 3) := by decide +kernel
theorem dX7_mixOutlook_19 : decode cX7_mixOutlook 19 = .ok (.iconst 5, 1) := by decide +kernel
theorem dX7_mixOutlook_20 : decode cX7_mixOutlook 20 = .ok (.invokevirtual 198, 3) := by decide +kernel
theorem dX7_mixOutlook_23 : decode cX7_mixOutlook 23 = .ok (.i2l, 1) := by decide +kernel
theorem dX7_mixOutlook_24 : decode cX7_mixOutlook 24 = .ok (.invokestatic 221, 3) := by decide +kernel
theorem dX7_mixOutlook_27 : decode cX7_mixOutlook 27 = .ok (.lstore_n 3, 1) := by decide +kernel
theorem dX7_mixOutlook_28 : decode cX7_mixOutlook 28 = .ok (.lload_n 3, 1) := by decide +kernel
theorem dX7_mixOutlook_29 : decode cX7_mixOutlook 29 = .ok (.aload_n 0, 1) := by decide +kernel
theorem dX7_mixOutlook_30 : decode cX7_mixOutlook 30 = .ok (.getfield 12, 3) := by decide +kernel
theorem dX7_mixOutlook_33 : decode cX7_mixOutlook 33 = .ok (.bipush 15, 2) := by decide +kernel
theorem dX7_mixOutlook_35 : decode cX7_mixOutlook 35 = .ok (.invokevirtual 198, 3) := by decide +kernel
theorem dX7_mixOutlook_38 : decode cX7_mixOutlook 38 = .ok (.i2l, 1) := by decide +kernel
theorem dX7_mixOutlook_39 : decode cX7_mixOutlook 39 = .ok (.invokestatic 221, 3) := by decide +kernel
theorem dX7_mixOutlook_42 : decode cX7_mixOutlook 42 = .ok (.lstore_n 3, 1) := by decide +kernel
theorem dX7_mixOutlook_43 : decode cX7_mixOutlook 43 = .ok (.lload_n 3, 1) := by decide +kernel
theorem dX7_mixOutlook_44 : decode cX7_mixOutlook 44 = .ok (.aload_n 0, 1) := by decide +kernel
theorem dX7_mixOutlook_45 : decode cX7_mixOutlook 45 = .ok (.invokevirtual 239, 3) := by decide +kernel
theorem dX7_mixOutlook_48 : decode cX7_mixOutlook 48 = .ok (.i2l, 1) := by decide +kernel
theorem dX7_mixOutlook_49 : decode cX7_mixOutlook 49 = .ok (.invokestatic 221, 3) := by decide +kernel
theorem dX7_mixOutlook_52 : decode cX7_mixOutlook 52 = .ok (.lstore_n 3, 1) := by decide +kernel
theorem dX7_mixOutlook_53 : decode cX7_mixOutlook 53 = .ok (.lload_n 3, 1) := by decide +kernel
theorem dX7_mixOutlook_54 : decode cX7_mixOutlook 54 = .ok (.aload_n 0, 1) := by decide +kernel
theorem dX7_mixOutlook_55 : decode cX7_mixOutlook 55 = .ok (.iconst 0, 1) := by decide +kernel
theorem dX7_mixOutlook_56 : decode cX7_mixOutlook 56 = .ok (.invokevirtual 242, 3) := by decide +kernel
theorem dX7_mixOutlook_59 : decode cX7_mixOutlook 59 = .ok (.i2l, 1) := by decide +kernel
theorem dX7_mixOutlook_60 : decode cX7_mixOutlook 60 = .ok (.invokestatic 221, 3) := by decide +kernel
theorem dX7_mixOutlook_63 : decode cX7_mixOutlook 63 = .ok (.lstore_n 3, 1) := by decide +kernel
theorem dX7_mixOutlook_64 : decode cX7_mixOutlook 64 = .ok (.lload_n 3, 1) := by decide +kernel
theorem dX7_mixOutlook_65 : decode cX7_mixOutlook 65 = .ok (.aload_n 0, 1) := by decide +kernel
theorem dX7_mixOutlook_66 : decode cX7_mixOutlook 66 = .ok (.iconst 1, 1) := by decide +kernel
theorem dX7_mixOutlook_67 : decode cX7_mixOutlook 67 = .ok (.invokevirtual 242, 3) := by decide +kernel
theorem dX7_mixOutlook_70 : decode cX7_mixOutlook 70 = .ok (.i2l, 1) := by decide +kernel
theorem dX7_mixOutlook_71 : decode cX7_mixOutlook 71 = .ok (.invokestatic 221, 3) := by decide +kernel
theorem dX7_mixOutlook_74 : decode cX7_mixOutlook 74 = .ok (.lstore_n 3, 1) := by decide +kernel
theorem dX7_mixOutlook_75 : decode cX7_mixOutlook 75 = .ok (.lload_n 3, 1) := by decide +kernel
theorem dX7_mixOutlook_76 : decode cX7_mixOutlook 76 = .ok (.aload_n 0, 1) := by decide +kernel
theorem dX7_mixOutlook_77 : decode cX7_mixOutlook 77 = .ok (.invokevirtual 245, 3) := by decide +kernel
theorem dX7_mixOutlook_80 : decode cX7_mixOutlook 80 = .ok (.i2l, 1) := by decide +kernel
theorem dX7_mixOutlook_81 : decode cX7_mixOutlook 81 = .ok (.invokestatic 221, 3) := by decide +kernel
theorem dX7_mixOutlook_84 : decode cX7_mixOutlook 84 = .ok (.lstore_n 3, 1) := by decide +kernel
theorem dX7_mixOutlook_85 : decode cX7_mixOutlook 85 = .ok (.lload_n 3, 1) := by decide +kernel
theorem dX7_mixOutlook_86 : decode cX7_mixOutlook 86 = .ok (.aload_n 0, 1) := by decide +kernel
theorem dX7_mixOutlook_87 : decode cX7_mixOutlook 87 = .ok (.invokevirtual 248, 3) := by decide +kernel
theorem dX7_mixOutlook_90 : decode cX7_mixOutlook 90 = .ok (.i2l, 1) := by decide +kernel
theorem dX7_mixOutlook_91 : decode cX7_mixOutlook 91 = .ok (.invokestatic 221, 3) := by decide +kernel
theorem dX7_mixOutlook_94 : decode cX7_mixOutlook 94 = .ok (.lstore_n 3, 1) := by decide +kernel
theorem dX7_mixOutlook_95 : decode cX7_mixOutlook 95 = .ok (.lload_n 3, 1) := by decide +kernel
theorem dX7_mixOutlook_96 : decode cX7_mixOutlook 96 = .ok (.aload_n 0, 1) := by decide +kernel
theorem dX7_mixOutlook_97 : decode cX7_mixOutlook 97 = .ok (.invokevirtual 251, 3) := by decide +kernel
theorem dX7_mixOutlook_100 : decode cX7_mixOutlook 100 = .ok (.invokestatic 255, 3) := by decide +kernel
theorem dX7_mixOutlook_103 : decode cX7_mixOutlook 103 = .ok (.invokestatic 221, 3) := by decide +kernel
theorem dX7_mixOutlook_106 : decode cX7_mixOutlook 106 = .ok (.lreturn, 1) := by decide +kernel
theorem dX7_mixText_0 : decode cX7_mixText 0 = .ok (.lload_n 1, 1) := by decide +kernel
theorem dX7_mixText_1 : decode cX7_mixText 1 = .ok (.lstore_n 3, 1) := by decide +kernel
theorem dX7_mixText_2 : decode cX7_mixText 2 = .ok (.iconst 0, 1) := by decide +kernel
theorem dX7_mixText_3 : decode cX7_mixText 3 = .ok (.istore 5, 2) := by decide +kernel
theorem dX7_mixText_5 : decode cX7_mixText 5 = .ok (.iload 5, 2) := by decide +kernel
theorem dX7_mixText_7 : decode cX7_mixText 7 = .ok (.iconst 2, 1) := by decide +kernel
theorem dX7_mixText_8 : decode cX7_mixText 8 = .ok (.if_icmp .ge 29, 3) := by decide +kernel
theorem dX7_mixText_11 : decode cX7_mixText 11 = .ok (.lload_n 3, 1) := by decide +kernel
theorem dX7_mixText_12 : decode cX7_mixText 12 = .ok (.aload_n 0, 1) := by decide +kernel
theorem dX7_mixText_13 : decode cX7_mixText 13 = .ok (.getfield 23, 3) := by decide +kernel
theorem dX7_mixText_16 : decode cX7_mixText 16 = .ok (.iload 5, 2) := by decide +kernel
theorem dX7_mixText_18 : decode cX7_mixText 18 = .ok (.aaload, 1) := by decide +kernel
theorem dX7_mixText_19 : decode cX7_mixText 19 = .ok (.ifnonnull 7, 3) := by decide +kernel
theorem dX7_mixText_22 : decode cX7_mixText 22 = .ok (.lconst 0, 1) := by decide +kernel
theorem dX7_mixText_23 : decode cX7_mixText 23 = .ok (.goto 4, 3) := by decide +kernel
theorem dX7_mixText_26 : decode cX7_mixText 26 = .ok (.lconst 1, 1) := by decide +kernel
theorem dX7_mixText_27 : decode cX7_mixText 27 = .ok (.invokestatic 221, 3) := by decide +kernel
theorem dX7_mixText_30 : decode cX7_mixText 30 = .ok (.lstore_n 3, 1) := by decide +kernel
theorem dX7_mixText_31 : decode cX7_mixText 31 = .ok (.iinc 5 1, 3) := by decide +kernel
theorem dX7_mixText_34 : decode cX7_mixText 34 = .ok (.goto (-29), 3) := by decide +kernel
theorem dX7_mixText_37 : decode cX7_mixText 37 = .ok (.lload_n 3, 1) := by decide +kernel
theorem dX7_mixText_38 : decode cX7_mixText 38 = .ok (.aload_n 0, 1) := by decide +kernel
theorem dX7_mixText_39 : decode cX7_mixText 39 = .ok (.getfield 30, 3) := by decide +kernel
theorem dX7_mixText_42 : decode cX7_mixText 42 = .ok (.invokevirtual 131, 3) := by decide +kernel
theorem dX7_mixText_45 : decode cX7_mixText 45 = .ok (.i2l, 1) := by decide +kernel
theorem dX7_mixText_46 : decode cX7_mixText 46 = .ok (.invokestatic 221, 3) := by decide +kernel
theorem dX7_mixText_49 : decode cX7_mixText 49 = .ok (.lstore_n 3, 1) := by decide +kernel
theorem dX7_mixText_50 : decode cX7_mixText 50 = .ok (.iconst 0, 1) := by decide +kernel
theorem dX7_mixText_51 : decode cX7_mixText 51 = .ok (.istore 5, 2) := by decide +kernel
theorem dX7_mixText_53 : decode cX7_mixText 53 = .ok (.iload 5, 2) := by decide +kernel
theorem dX7_mixText_55 : decode cX7_mixText 55 = .ok (.aload_n 0, 1) := by decide +kernel
theorem dX7_mixText_56 : decode cX7_mixText 56 = .ok (.getfield 30, 3) := by decide +kernel
theorem dX7_mixText_59 : decode cX7_mixText 59 = .ok (.invokevirtual 131, 3) := by decide +kernel
theorem dX7_mixText_62 : decode cX7_mixText 62 = .ok (.if_icmp .ge 24, 3) := by decide +kernel
theorem dX7_mixText_65 : decode cX7_mixText 65 = .ok (.lload_n 3, 1) := by decide +kernel
theorem dX7_mixText_66 : decode cX7_mixText 66 = .ok (.aload_n 0, 1) := by decide +kernel
theorem dX7_mixText_67 : decode cX7_mixText 67 = .ok (.getfield 30, 3) := by decide +kernel
theorem dX7_mixText_70 : decode cX7_mixText 70 = .ok (.iload 5, 2) := by decide +kernel
theorem dX7_mixText_72 : decode cX7_mixText 72 = .ok (.invokevirtual 259, 3) := by decide +kernel
theorem dX7_mixText_75 : decode cX7_mixText 75 = .ok (.i2l, 1) := by decide +kernel
theorem dX7_mixText_76 : decode cX7_mixText 76 = .ok (.invokestatic 221, 3) := by decide +kernel
theorem dX7_mixText_79 : decode cX7_mixText 79 = .ok (.lstore_n 3, 1) := by decide +kernel
theorem dX7_mixText_80 : decode cX7_mixText 80 = .ok (.iinc 5 1, 3) := by decide +kernel
theorem dX7_mixText_83 : decode cX7_mixText 83 = .ok (.goto (-30), 3) := by decide +kernel
theorem dX7_mixText_86 : decode cX7_mixText 86 = .ok (.lload_n 3, 1) := by decide +kernel
theorem dX7_mixText_87 : decode cX7_mixText 87 = .ok (.lreturn, 1) := by decide +kernel
theorem dX7_mix_0 : decode cX7_mix 0 = .ok (.ldc2_w 262, 3) := by decide +kernel
theorem dX7_mix_3 : decode cX7_mix 3 = .ok (.lload_n 0, 1) := by decide +kernel
theorem dX7_mix_4 : decode cX7_mix 4 = .ok (.lmul, 1) := by decide +kernel
theorem dX7_mix_5 : decode cX7_mix 5 = .ok (.lload_n 2, 1) := by decide +kernel
theorem dX7_mix_6 : decode cX7_mix 6 = .ok (.ladd, 1) := by decide +kernel
theorem dX7_mix_7 : decode cX7_mix 7 = .ok (.lreturn, 1) := by decide +kernel
theorem dX7_bitsOf_0 : decode cX7_bitsOf 0 = .ok (.dload_n 0, 1) := by decide +kernel
theorem dX7_bitsOf_1 : decode cX7_bitsOf 1 = .ok (.dconst 0, 1) := by decide +kernel
theorem dX7_bitsOf_2 : decode cX7_bitsOf 2 = .ok (.dcmp .g, 1) := by decide +kernel
theorem dX7_bitsOf_3 : decode cX7_bitsOf 3 = .ok (.ifCond .gt 5, 3) := by decide +kernel
theorem dX7_bitsOf_6 : decode cX7_bitsOf 6 = .ok (.lconst 0, 1) := by decide +kernel
theorem dX7_bitsOf_7 : decode cX7_bitsOf 7 = .ok (.lreturn, 1) := by decide +kernel
theorem dX7_bitsOf_8 : decode cX7_bitsOf 8 = .ok (.dload_n 0, 1) := by decide +kernel
theorem dX7_bitsOf_9 : decode cX7_bitsOf 9 = .ok (.dstore_n 2, 1) := by decide +kernel
theorem dX7_bitsOf_10 : decode cX7_bitsOf 10 = .ok (.sipush 1023, 3) := by decide +kernel
theorem dX7_bitsOf_13 : decode cX7_bitsOf 13 = .ok (.istore 4, 2) := by decide +kernel
theorem dX7_bitsOf_15 : decode cX7_bitsOf 15 = .ok (.dload_n 2, 1) := by decide +kernel
theorem dX7_bitsOf_16 : decode cX7_bitsOf 16 = .ok (.dconst 1, 1) := by decide +kernel
theorem dX7_bitsOf_17 : decode cX7_bitsOf 17 = .ok (.dcmp .g, 1) := by decide +kernel
theorem dX7_bitsOf_18 : decode cX7_bitsOf 18 = .ok (.ifCond .ge 21, 3) := by decide +kernel
theorem dX7_bitsOf_21 : decode cX7_bitsOf 21 = .ok (.iload 4, 2) := by decide +kernel
theorem dX7_bitsOf_23 : decode cX7_bitsOf 23 = .ok (.iconst 1, 1) := by decide +kernel
theorem dX7_bitsOf_24 : decode cX7_bitsOf 24 = .ok (.if_icmp .le 15, 3) := by decide +kernel
theorem dX7_bitsOf_27 : decode cX7_bitsOf 27 = .ok (.dload_n 2, 1) := by decide +kernel
theorem dX7_bitsOf_28 : decode cX7_bitsOf 28 = .ok (.ldc2_w 264, 3) := by decide +kernel
theorem dX7_bitsOf_31 : decode cX7_bitsOf 31 = .ok (.dmul, 1) := by decide +kernel
theorem dX7_bitsOf_32 : decode cX7_bitsOf 32 = .ok (.dstore_n 2, 1) := by decide +kernel
theorem dX7_bitsOf_33 : decode cX7_bitsOf 33 = .ok (.iinc 4 (-1), 3) := by decide +kernel
theorem dX7_bitsOf_36 : decode cX7_bitsOf 36 = .ok (.goto (-21), 3) := by decide +kernel
theorem dX7_bitsOf_39 : decode cX7_bitsOf 39 = .ok (.iload 4, 2) := by decide +kernel
theorem dX7_bitsOf_41 : decode cX7_bitsOf 41 = .ok (.i2l, 1) := by decide +kernel
theorem dX7_bitsOf_42 : decode cX7_bitsOf 42 = .ok (.bipush 52, 2) := by decide +kernel
theorem dX7_bitsOf_44 : decode cX7_bitsOf 44 = .ok (.lshl, 1) := by decide +kernel
theorem dX7_bitsOf_45 : decode cX7_bitsOf 45 = .ok (.dload_n 2, 1) := by decide +kernel
theorem dX7_bitsOf_46 : decode cX7_bitsOf 46 = .ok (.dconst 1, 1) := by decide +kernel
theorem dX7_bitsOf_47 : decode cX7_bitsOf 47 = .ok (.dsub, 1) := by decide +kernel
theorem dX7_bitsOf_48 : decode cX7_bitsOf 48 = .ok (.ldc2_w 266, 3) := by decide +kernel
theorem dX7_bitsOf_51 : decode cX7_bitsOf 51 = .ok (.dmul, 1) := by decide +kernel
theorem dX7_bitsOf_52 : decode cX7_bitsOf 52 = .ok (.d2l, 1) := by decide +kernel
theorem dX7_bitsOf_53 : decode cX7_bitsOf 53 = .ok (.ladd, 1) := by decide +kernel
theorem dX7_bitsOf_54 : decode cX7_bitsOf 54 = .ok (.lreturn, 1) := by decide +kernel
theorem dX7_obeyAll_0 : decode cX7_obeyAll 0 = .ok (.iconst 0, 1) := by decide +kernel
theorem dX7_obeyAll_1 : decode cX7_obeyAll 1 = .ok (.istore_n 1, 1) := by decide +kernel
theorem dX7_obeyAll_2 : decode cX7_obeyAll 2 = .ok (.aload_n 0, 1) := by decide +kernel
theorem dX7_obeyAll_3 : decode cX7_obeyAll 3 = .ok (.getfield 37, 3) := by decide +kernel
theorem dX7_obeyAll_6 : decode cX7_obeyAll 6 = .ok (.invokevirtual 268, 3) := by decide +kernel
theorem dX7_obeyAll_9 : decode cX7_obeyAll 9 = .ok (.iconst 0, 1) := by decide +kernel
theorem dX7_obeyAll_10 : decode cX7_obeyAll 10 = .ok (.istore_n 2, 1) := by decide +kernel
theorem dX7_obeyAll_11 : decode cX7_obeyAll 11 = .ok (.iload_n 2, 1) := by decide +kernel
theorem dX7_obeyAll_12 : decode cX7_obeyAll 12 = .ok (.aload_n 0, 1) := by decide +kernel
theorem dX7_obeyAll_13 : decode cX7_obeyAll 13 = .ok (.getfield 30, 3) := by decide +kernel
theorem dX7_obeyAll_16 : decode cX7_obeyAll 16 = .ok (.invokevirtual 131, 3) := by decide +kernel
theorem dX7_obeyAll_19 : decode cX7_obeyAll 19 = .ok (.if_icmp .gt 50, 3) := by decide +kernel
theorem dX7_obeyAll_22 : decode cX7_obeyAll 22 = .ok (.aload_n 0, 1) := by decide +kernel
theorem dX7_obeyAll_23 : decode cX7_obeyAll 23 = .ok (.getfield 30, 3) := by decide +kernel
theorem dX7_obeyAll_26 : decode cX7_obeyAll 26 = .ok (.iload_n 2, 1) := by decide +kernel
theorem dX7_obeyAll_27 : decode cX7_obeyAll 27 = .ok (.invokevirtual 259, 3) := by decide +kernel
theorem dX7_obeyAll_30 : decode cX7_obeyAll 30 = .ok (.istore_n 3, 1) := by decide +kernel
theorem dX7_obeyAll_31 : decode cX7_obeyAll 31 = .ok (.iload_n 3, 1) := by decide +kernel
theorem dX7_obeyAll_32 : decode cX7_obeyAll 32 = .ok (.iconst (-1), 1) := by decide +kernel
theorem dX7_obeyAll_33 : decode cX7_obeyAll 33 = .ok (.if_icmp .eq 9, 3) := by decide +kernel
theorem dX7_obeyAll_36 : decode cX7_obeyAll 36 = .ok (.iload_n 3, 1) := by decide +kernel
theorem dX7_obeyAll_37 : decode cX7_obeyAll 37 = .ok (.bipush 59, 2) := by decide +kernel
theorem dX7_obeyAll_39 : decode cX7_obeyAll 39 = .ok (.if_icmp .ne 15, 3) := by decide +kernel
theorem dX7_obeyAll_42 : decode cX7_obeyAll 42 = .ok (.aload_n 0, 1) := by decide +kernel
theorem dX7_obeyAll_43 : decode cX7_obeyAll 43 = .ok (.invokevirtual 271, 3) := by decide +kernel
theorem dX7_obeyAll_46 : decode cX7_obeyAll 46 = .ok (.ifCond .ne 5, 3) := by decide +kernel
theorem dX7_obeyAll_49 : decode cX7_obeyAll 49 = .ok (.iload_n 1, 1) := by decide +kernel
theorem dX7_obeyAll_50 : decode cX7_obeyAll 50 = .ok (.ireturn, 1) := by decide +kernel
theorem dX7_obeyAll_51 : decode cX7_obeyAll 51 = .ok (.iinc 1 1, 3) := by decide +kernel
theorem dX7_obeyAll_54 : decode cX7_obeyAll 54 = .ok (.aload_n 0, 1) := by decide +kernel
theorem dX7_obeyAll_55 : decode cX7_obeyAll 55 = .ok (.getfield 37, 3) := by decide +kernel
theorem dX7_obeyAll_58 : decode cX7_obeyAll 58 = .ok (.iload_n 3, 1) := by decide +kernel
theorem dX7_obeyAll_59 : decode cX7_obeyAll 59 = .ok (.invokevirtual 274, 3) := by decide +kernel
theorem dX7_obeyAll_62 : decode cX7_obeyAll 62 = .ok (.pop, 1) := by decide +kernel
theorem dX7_obeyAll_63 : decode cX7_obeyAll 63 = .ok (.iinc 2 1, 3) := by decide +kernel
theorem dX7_obeyAll_66 : decode cX7_obeyAll 66 = .ok (.goto (-55), 3) := by decide +kernel
theorem dX7_obeyAll_69 : decode cX7_obeyAll 69 = .ok (.iload_n 1, 1) := by decide +kernel
theorem dX7_obeyAll_70 : decode cX7_obeyAll 70 = .ok (.ireturn, 1) := by decide +kernel
theorem dX7_obey_0 : decode cX7_obey 0 = .ok (.aload_n 0, 1) := by decide +kernel
theorem dX7_obey_1 : decode cX7_obey 1 = .ok (.getfield 37, 3) := by decide +kernel
theorem dX7_obey_4 : decode cX7_obey 4 = .ok (.getfield 277, 3) := by decide +kernel
theorem dX7_obey_7 : decode cX7_obey 7 = .ok (.bipush 43, 2) := by decide +kernel
theorem dX7_obey_9 : decode cX7_obey 9 = .ok (.if_icmp .ne 27, 3) := by decide +kernel
theorem dX7_obey_12 : decode cX7_obey 12 = .ok (.aload_n 0, 1) := by decide +kernel
theorem dX7_obey_13 : decode cX7_obey 13 = .ok (.getfield 12, 3) := by decide +kernel
theorem dX7_obey_16 : decode cX7_obey 16 = .ok (.aload_n 0, 1) := by decide +kernel
theorem dX7_obey_17 : decode cX7_obey 17 = .ok (.getfield 37, 3) := by decide +kernel
theorem dX7_obey_20 : decode cX7_obey 20 = .ok (.getfield 280, 3) := by decide +kernel
theorem dX7_obey_23 : decode cX7_obey 23 = .ok (.invokevirtual 63, 3) := by decide +kernel
theorem dX7_obey_26 : decode cX7_obey 26 = .ok (.iconst (-1), 1) := by decide +kernel
theorem dX7_obey_27 : decode cX7_obey 27 = .ok (.if_icmp .eq 7, 3) := by decide +kernel
theorem dX7_obey_30 : decode cX7_obey 30 = .ok (.iconst 1, 1) := by decide +kernel
theorem dX7_obey_31 : decode cX7_obey 31 = .ok (.goto 4, 3) := by decide +kernel
theorem dX7_obey_34 : decode cX7_obey 34 = .ok (.iconst 0, 1) := by decide +kernel
theorem dX7_obey_35 : decode cX7_obey 35 = .ok (.ireturn, 1) := by decide +kernel
theorem dX7_obey_36 : decode cX7_obey 36 = .ok (.aload_n 0, 1) := by decide +kernel
theorem dX7_obey_37 : decode cX7_obey 37 = .ok (.getfield 12, 3) := by decide +kernel
theorem dX7_obey_40 : decode cX7_obey 40 = .ok (.aload_n 0, 1) := by decide +kernel
theorem dX7_obey_41 : decode cX7_obey 41 = .ok (.getfield 37, 3) := by decide +kernel
theorem dX7_obey_44 : decode cX7_obey 44 = .ok (.getfield 283, 3) := by decide +kernel
theorem dX7_obey_47 : decode cX7_obey 47 = .ok (.invokevirtual 225, 3) := by decide +kernel
theorem dX7_obey_50 : decode cX7_obey 50 = .ok (.ifCond .ne 5, 3) := by decide +kernel
theorem dX7_obey_53 : decode cX7_obey 53 = .ok (.iconst 0, 1) := by decide +kernel
theorem dX7_obey_54 : decode cX7_obey 54 = .ok (.ireturn, 1) := by decide +kernel
theorem dX7_obey_55 : decode cX7_obey 55 = .ok (.aload_n 0, 1) := by decide +kernel
theorem dX7_obey_56 : decode cX7_obey 56 = .ok (.getfield 37, 3) := by decide +kernel
theorem dX7_obey_59 : decode cX7_obey 59 = .ok (.getfield 277, 3) := by decide +kernel
theorem dX7_obey_62 : decode cX7_obey 62 = .ok (.bipush 62, 2) := by decide +kernel
theorem dX7_obey_64 : decode cX7_obey 64 = .ok (.if_icmp .ne 34, 3) := by decide +kernel
theorem dX7_obey_67 : decode cX7_obey 67 = .ok (.aload_n 0, 1) := by decide +kernel
theorem dX7_obey_68 : decode cX7_obey 68 = .ok (.getfield 12, 3) := by decide +kernel
theorem dX7_obey_71 : decode cX7_obey 71 = .ok (.aload_n 0, 1) := by decide +kernel
theorem dX7_obey_72 : decode cX7_obey 72 = .ok (.getfield 37, 3) := by decide +kernel
theorem dX7_obey_75 : decode cX7_obey 75 = .ok (.getfield 283, 3) := by decide +kernel
theorem dX7_obey_78 : decode cX7_obey 78 = .ok (.aload_n 0, 1) := by decide +kernel
theorem dX7_obey_79 : decode cX7_obey 79 = .ok (.getfield 37, 3) := by decide +kernel
theorem dX7_obey_82 : decode cX7_obey 82 = .ok (.getfield 280, 3) := by decide +kernel
theorem dX7_obey_85 : decode cX7_obey 85 = .ok (.invokevirtual 71, 3) := by decide +kernel
theorem dX7_obey_88 : decode cX7_obey 88 = .ok (.iconst (-1), 1) := by decide +kernel
theorem dX7_obey_89 : decode cX7_obey 89 = .ok (.if_icmp .eq 7, 3) := by decide +kernel
theorem dX7_obey_92 : decode cX7_obey 92 = .ok (.iconst 1, 1) := by decide +kernel
theorem dX7_obey_93 : decode cX7_obey 93 = .ok (.goto 4, 3) := by decide +kernel
theorem dX7_obey_96 : decode cX7_obey 96 = .ok (.iconst 0, 1) := by decide +kernel
theorem dX7_obey_97 : decode cX7_obey 97 = .ok (.ireturn, 1) := by decide +kernel
theorem dX7_obey_98 : decode cX7_obey 98 = .ok (.aload_n 0, 1) := by decide +kernel
theorem dX7_obey_99 : decode cX7_obey 99 = .ok (.getfield 37, 3) := by decide +kernel
theorem dX7_obey_102 : decode cX7_obey 102 = .ok (.getfield 277, 3) := by decide +kernel
theorem dX7_obey_105 : decode cX7_obey 105 = .ok (.bipush 60, 2) := by decide +kernel
theorem dX7_obey_107 : decode cX7_obey 107 = .ok (.if_icmp .ne 34, 3) := by decide +kernel
theorem dX7_obey_110 : decode cX7_obey 110 = .ok (.aload_n 0, 1) := by decide +kernel
theorem dX7_obey_111 : decode cX7_obey 111 = .ok (.getfield 12, 3) := by decide +kernel
theorem dX7_obey_114 : decode cX7_obey 114 = .ok (.aload_n 0, 1) := by decide +kernel
theorem dX7_obey_115 : decode cX7_obey 115 = .ok (.getfield 37, 3) := by decide +kernel
theorem dX7_obey_118 : decode cX7_obey 118 = .ok (.getfield 283, 3) := by decide +kernel
theorem dX7_obey_121 : decode cX7_obey 121 = .ok (.aload_n 0, 1) := by decide +kernel
theorem dX7_obey_122 : decode cX7_obey 122 = .ok (.getfield 37, 3) := by decide +kernel
theorem dX7_obey_125 : decode cX7_obey 125 = .ok (.getfield 280, 3) := by decide +kernel
theorem dX7_obey_128 : decode cX7_obey 128 = .ok (.invokevirtual 75, 3) := by decide +kernel
theorem dX7_obey_131 : decode cX7_obey 131 = .ok (.iconst (-1), 1) := by decide +kernel
theorem dX7_obey_132 : decode cX7_obey 132 = .ok (.if_icmp .eq 7, 3) := by decide +kernel
theorem dX7_obey_135 : decode cX7_obey 135 = .ok (.iconst 1, 1) := by decide +kernel
theorem dX7_obey_136 : decode cX7_obey 136 = .ok (.goto 4, 3) := by decide +kernel
theorem dX7_obey_139 : decode cX7_obey 139 = .ok (.iconst 0, 1) := by decide +kernel
theorem dX7_obey_140 : decode cX7_obey 140 = .ok (.ireturn, 1) := by decide +kernel
theorem dX7_obey_141 : decode cX7_obey 141 = .ok (.aload_n 0, 1) := by decide +kernel
theorem dX7_obey_142 : decode cX7_obey 142 = .ok (.getfield 12, 3) := by decide +kernel
theorem dX7_obey_145 : decode cX7_obey 145 = .ok (.aload_n 0, 1) := by decide +kernel
theorem dX7_obey_146 : decode cX7_obey 146 = .ok (.getfield 37, 3) := by decide +kernel
theorem dX7_obey_149 : decode cX7_obey 149 = .ok (.getfield 283, 3) := by decide +kernel
theorem dX7_obey_152 : decode cX7_obey 152 = .ok (.invokevirtual 78, 3) := by decide +kernel
theorem dX7_obey_155 : decode cX7_obey 155 = .ok (.pop, 1) := by decide +kernel
theorem dX7_obey_156 : decode cX7_obey 156 = .ok (.iconst 1, 1) := by decide +kernel
theorem dX7_obey_157 : decode cX7_obey 157 = .ok (.ireturn, 1) := by decide +kernel
theorem dX7_checkFile_0 : decode cX7_checkFile 0 = .ok (.aload_n 0, 1) := by decide +kernel
theorem dX7_checkFile_1 : decode cX7_checkFile 1 = .ok (.getfield 12, 3) := by decide +kernel
theorem dX7_checkFile_4 : decode cX7_checkFile 4 = .ok (.iload_n 1, 1) := by decide +kernel
theorem dX7_checkFile_5 : decode cX7_checkFile 5 = .ok (.invokevirtual 225, 3) := by decide +kernel
theorem dX7_checkFile_8 : decode cX7_checkFile 8 = .ok (.ifCond .ne 14, 3) := by decide +kernel
theorem dX7_checkFile_11 : decode cX7_checkFile 11 = .ok (.new 175, 3) := by decide +kernel
theorem dX7_checkFile_14 : decode cX7_checkFile 14 = .ok (.dup, 1) := by decide +kernel
theorem dX7_checkFile_15 : decode cX7_checkFile 15 = .ok (.ldc_w 286, 3) := by decide +kernel
theorem dX7_checkFile_18 : decode cX7_checkFile 18 = .ok (.invokespecial 179, 3) := by decide +kernel
theorem dX7_checkFile_21 : decode cX7_checkFile 21 = .ok (.athrow, 1) := by decide +kernel
theorem dX7_checkFile_22 : decode cX7_checkFile 22 = .ok (.return_, 1) := by decide +kernel
theorem dX7_checkBlock_0 : decode cX7_checkBlock 0 = .ok (.iload_n 0, 1) := by decide +kernel
theorem dX7_checkBlock_1 : decode cX7_checkBlock 1 = .ok (.invokestatic 288, 3) := by decide +kernel
theorem dX7_checkBlock_4 : decode cX7_checkBlock 4 = .ok (.ifCond .ne 14, 3) := by decide +kernel
theorem dX7_checkBlock_7 : decode cX7_checkBlock 7 = .ok (.new 175, 3) := by decide +kernel
theorem dX7_checkBlock_10 : decode cX7_checkBlock 10 = .ok (.dup, 1) := by decide +kernel
theorem dX7_checkBlock_11 : decode cX7_checkBlock 11 = .ok (.ldc_w 291, 3) := by decide +kernel
theorem dX7_checkBlock_14 : decode cX7_checkBlock 14 = .ok (.invokespecial 179, 3) := by decide +kernel
theorem dX7_checkBlock_17 : decode cX7_checkBlock 17 = .ok (.athrow, 1) := by decide +kernel
theorem dX7_checkBlock_18 : decode cX7_checkBlock 18 = .ok (.return_, 1) := by decide +kernel
theorem dX7_checkArgument_0 : decode cX7_checkArgument 0 = .ok (.iload_n 0, 1) := by decide +kernel
theorem dX7_checkArgument_1 : decode cX7_checkArgument 1 = .ok (.iload_n 1, 1) := by decide +kernel
theorem dX7_checkArgument_2 : decode cX7_checkArgument 2 = .ok (.if_icmp .lt 8, 3) := by decide +kernel
theorem dX7_checkArgument_5 : decode cX7_checkArgument 5 = .ok (.iload_n 0, 1) := by decide +kernel
theorem dX7_checkArgument_6 : decode cX7_checkArgument 6 = .ok (.iload_n 2, 1) := by decide +kernel
theorem dX7_checkArgument_7 : decode cX7_checkArgument 7 = .ok (.if_icmp .le 14, 3) := by decide +kernel
theorem dX7_checkArgument_10 : decode cX7_checkArgument 10 = .ok (.new 145, 3) := by decide +kernel
theorem dX7_checkArgument_13 : decode cX7_checkArgument 13 = .ok (.dup, 1) := by decide +kernel
theorem dX7_checkArgument_14 : decode cX7_checkArgument 14 = .ok (.ldc_w 293, 3) := by decide +kernel
theorem dX7_checkArgument_17 : decode cX7_checkArgument 17 = .ok (.invokespecial 149, 3) := by decide +kernel
theorem dX7_checkArgument_20 : decode cX7_checkArgument 20 = .ok (.athrow, 1) := by decide +kernel
theorem dX7_checkArgument_21 : decode cX7_checkArgument 21 = .ok (.return_, 1) := by decide +kernel
theorem dX7_isBlock_0 : decode cX7_isBlock 0 = .ok (.iload_n 0, 1) := by decide +kernel
theorem dX7_isBlock_1 : decode cX7_isBlock 1 = .ok (.ifCond .lt 13, 3) := by decide +kernel
theorem dX7_isBlock_4 : decode cX7_isBlock 4 = .ok (.iload_n 0, 1) := by decide +kernel
theorem dX7_isBlock_5 : decode cX7_isBlock 5 = .ok (.bipush 24, 2) := by decide +kernel
theorem dX7_isBlock_7 : decode cX7_isBlock 7 = .ok (.if_icmp .ge 7, 3) := by decide +kernel
theorem dX7_isBlock_10 : decode cX7_isBlock 10 = .ok (.iconst 1, 1) := by decide +kernel
theorem dX7_isBlock_11 : decode cX7_isBlock 11 = .ok (.goto 4, 3) := by decide +kernel
theorem dX7_isBlock_14 : decode cX7_isBlock 14 = .ok (.iconst 0, 1) := by decide +kernel
theorem dX7_isBlock_15 : decode cX7_isBlock 15 = .ok (.ireturn, 1) := by decide +kernel
theorem dX8_init_0 : decode cX8_init 0 = .ok (.aload_n 0, 1) := by decide +kernel
theorem dX8_init_1 : decode cX8_init 1 = .ok (.invokespecial 1, 3) := by decide +kernel
theorem dX8_init_4 : decode cX8_init 4 = .ok (.aload_n 0, 1) := by decide +kernel
theorem dX8_init_5 : decode cX8_init 5 = .ok (.sipush 207, 3) := by decide +kernel
theorem dX8_init_8 : decode cX8_init 8 = .ok (.newarray .int, 2) := by decide +kernel
theorem dX8_init_10 : decode cX8_init 10 = .ok (.putfield 7, 3) := by decide +kernel
theorem dX8_init_13 : decode cX8_init 13 = .ok (.aload_n 0, 1) := by decide +kernel
theorem dX8_init_14 : decode cX8_init 14 = .ok (.sipush 1242, 3) := by decide +kernel
theorem dX8_init_17 : decode cX8_init 17 = .ok (.newarray .int, 2) := by decide +kernel
theorem dX8_init_19 : decode cX8_init 19 = .ok (.putfield 13, 3) := by decide +kernel
theorem dX8_init_22 : decode cX8_init 22 = .ok (.aload_n 0, 1) := by decide +kernel
theorem dX8_init_23 : decode cX8_init 23 = .ok (.sipush 414, 3) := by decide +kernel
theorem dX8_init_26 : decode cX8_init 26 = .ok (.newarray .int, 2) := by decide +kernel
theorem dX8_init_28 : decode cX8_init 28 = .ok (.putfield 16, 3) := by decide +kernel
theorem dX8_init_31 : decode cX8_init 31 = .ok (.aload_n 0, 1) := by decide +kernel
theorem dX8_init_32 : decode cX8_init 32 = .ok (.sipush 207, 3) := by decide +kernel
theorem dX8_init_35 : decode cX8_init 35 = .ok (.newarray .int, 2) := by decide +kernel
theorem dX8_init_37 : decode cX8_init 37 = .ok (.putfield 19, 3) := by decide +kernel
theorem dX8_init_40 : decode cX8_init 40 = .ok (.aload_n 0, 1) := by decide +kernel
theorem dX8_init_41 : decode cX8_init 41 = .ok (.iconst 2, 1) := by decide +kernel
theorem dX8_init_42 : decode cX8_init 42 = .ok (.newarray .boolean, 2) := by decide +kernel
theorem dX8_init_44 : decode cX8_init 44 = .ok (.putfield 22, 3) := by decide +kernel
theorem dX8_init_47 : decode cX8_init 47 = .ok (.aload_n 0, 1) := by decide +kernel
theorem dX8_init_48 : decode cX8_init 48 = .ok (.bipush 60, 2) := by decide +kernel
theorem dX8_init_50 : decode cX8_init 50 = .ok (.newarray .int, 2) := by decide +kernel
theorem dX8_init_52 : decode cX8_init 52 = .ok (.putfield 26, 3) := by decide +kernel
theorem dX8_init_55 : decode cX8_init 55 = .ok (.aload_n 0, 1) := by decide +kernel
theorem dX8_init_56 : decode cX8_init 56 = .ok (.iconst 2, 1) := by decide +kernel
theorem dX8_init_57 : decode cX8_init 57 = .ok (.newarray .int, 2) := by decide +kernel
theorem dX8_init_59 : decode cX8_init 59 = .ok (.putfield 29, 3) := by decide +kernel
theorem dX8_init_62 : decode cX8_init 62 = .ok (.aload_n 0, 1) := by decide +kernel
theorem dX8_init_63 : decode cX8_init 63 = .ok (.sipush 1024, 3) := by decide +kernel
theorem dX8_init_66 : decode cX8_init 66 = .ok (.newarray .int, 2) := by decide +kernel
theorem dX8_init_68 : decode cX8_init 68 = .ok (.putfield 32, 3) := by decide +kernel
theorem dX8_init_71 : decode cX8_init 71 = .ok (.aload_n 0, 1) := by decide +kernel
theorem dX8_init_72 : decode cX8_init 72 = .ok (.bipush 10, 2) := by decide +kernel
theorem dX8_init_74 : decode cX8_init 74 = .ok (.newarray .int, 2) := by decide +kernel
theorem dX8_init_76 : decode cX8_init 76 = .ok (.putfield 35, 3) := by decide +kernel
theorem dX8_init_79 : decode cX8_init 79 = .ok (.aload_n 0, 1) := by decide +kernel
theorem dX8_init_80 : decode cX8_init 80 = .ok (.bipush 24, 2) := by decide +kernel
theorem dX8_init_82 : decode cX8_init 82 = .ok (.newarray .int, 2) := by decide +kernel
theorem dX8_init_84 : decode cX8_init 84 = .ok (.putfield 38, 3) := by decide +kernel
theorem dX8_init_87 : decode cX8_init 87 = .ok (.return_, 1) := by decide +kernel
theorem dX8_thrown_0 : decode cX8_thrown 0 = .ok (.aload_n 0, 1) := by decide +kernel
theorem dX8_thrown_1 : decode cX8_thrown 1 = .ok (.getfield 41, 3) := by decide +kernel
theorem dX8_thrown_4 : decode cX8_thrown 4 = .ok (.ireturn, 1) := by decide +kernel
theorem dX8_fails_0 : decode cX8_fails 0 = .ok (.aload_n 0, 1) := by decide +kernel
theorem dX8_fails_1 : decode cX8_fails 1 = .ok (.iload_n 1, 1) := by decide +kernel
theorem dX8_fails_2 : decode cX8_fails 2 = .ok (.putfield 41, 3) := by decide +kernel
theorem dX8_fails_5 : decode cX8_fails 5 = .ok (.iconst 0, 1) := by decide +kernel
theorem dX8_fails_6 : decode cX8_fails 6 = .ok (.ireturn, 1) := by decide +kernel
theorem dX8_in_0 : decode cX8_in 0 = .ok (.iload_n 0, 1) := by decide +kernel
theorem dX8_in_1 : decode cX8_in 1 = .ok (.iload_n 1, 1) := by decide +kernel
theorem dX8_in_2 : decode cX8_in 2 = .ok (.if_icmp .lt 12, 3) := by decide +kernel
theorem dX8_in_5 : decode cX8_in 5 = .ok (.iload_n 0, 1) := by decide +kernel
theorem dX8_in_6 : decode cX8_in 6 = .ok (.iload_n 2, 1) := by decide +kernel
theorem dX8_in_7 : decode cX8_in 7 = .ok (.if_icmp .gt 7, 3) := by decide +kernel
theorem dX8_in_10 : decode cX8_in 10 = .ok (.iconst 1, 1) := by decide +kernel
theorem dX8_in_11 : decode cX8_in 11 = .ok (.goto 4, 3) := by decide +kernel
theorem dX8_in_14 : decode cX8_in 14 = .ok (.iconst 0, 1) := by decide +kernel
theorem dX8_in_15 : decode cX8_in 15 = .ok (.ireturn, 1) := by decide +kernel
theorem dX8_of_0 : decode cX8_of 0 = .ok (.aload_n 0, 1) := by decide +kernel
theorem dX8_of_1 : decode cX8_of 1 = .ok (.getfield 7, 3) := by decide +kernel
theorem dX8_of_4 : decode cX8_of 4 = .ok (.bipush 27, 2) := by decide +kernel
theorem dX8_of_6 : decode cX8_of 6 = .ok (.bipush 18, 2) := by decide +kernel
theorem dX8_of_8 : decode cX8_of 8 = .ok (.iload_n 1, 1) := by decide +kernel
theorem dX8_of_9 : decode cX8_of 9 = .ok (.imul, 1) := by decide +kernel
theorem dX8_of_10 : decode cX8_of 10 = .ok (.iadd, 1) := by decide +kernel
theorem dX8_of_11 : decode cX8_of 11 = .ok (.iload_n 2, 1) := by decide +kernel
theorem dX8_of_12 : decode cX8_of 12 = .ok (.iadd, 1) := by decide +kernel
theorem dX8_of_13 : decode cX8_of 13 = .ok (.iaload, 1) := by decide +kernel
theorem dX8_of_14 : decode cX8_of 14 = .ok (.ireturn, 1) := by decide +kernel
theorem dX8_lay_0 : decode cX8_lay 0 = .ok (.aload_n 0, 1) := by decide +kernel
theorem dX8_lay_1 : decode cX8_lay 1 = .ok (.getfield 7, 3) := by decide +kernel
theorem dX8_lay_4 : decode cX8_lay 4 = .ok (.bipush 27, 2) := by decide +kernel
theorem dX8_lay_6 : decode cX8_lay 6 = .ok (.bipush 18, 2) := by decide +kernel
theorem dX8_lay_8 : decode cX8_lay 8 = .ok (.iload_n 1, 1) := by decide +kernel
theorem dX8_lay_9 : decode cX8_lay 9 = .ok (.imul, 1) := by decide +kernel
theorem dX8_lay_10 : decode cX8_lay 10 = .ok (.iadd, 1) := by decide +kernel
theorem dX8_lay_11 : decode cX8_lay 11 = .ok (.iload_n 2, 1) := by decide +kernel
theorem dX8_lay_12 : decode cX8_lay 12 = .ok (.iadd, 1) := by decide +kernel
theorem dX8_lay_13 : decode cX8_lay 13 = .ok (.iload_n 3, 1) := by decide +kernel
theorem dX8_lay_14 : decode cX8_lay 14 = .ok (.iastore, 1) := by decide +kernel
theorem dX8_lay_15 : decode cX8_lay 15 = .ok (.return_, 1) := by decide +kernel
theorem dX8_isFile_0 : decode cX8_isFile 0 = .ok (.iload_n 1, 1) := by decide +kernel
theorem dX8_isFile_1 : decode cX8_isFile 1 = .ok (.iconst 0, 1) := by decide +kernel
theorem dX8_isFile_2 : decode cX8_isFile 2 = .ok (.bipush 9, 2) := by decide +kernel
theorem dX8_isFile_4 : decode cX8_isFile 4 = .ok (.invokestatic 45, 3) := by decide +kernel
theorem dX8_isFile_7 : decode cX8_isFile 7 = .ok (.ifCond .eq 17, 3) := by decide +kernel
theorem dX8_isFile_10 : decode cX8_isFile 10 = .ok (.aload_n 0, 1) := by decide +kernel
theorem dX8_isFile_11 : decode cX8_isFile 11 = .ok (.iload_n 1, 1) := by decide +kernel
theorem dX8_isFile_12 : decode cX8_isFile 12 = .ok (.iconst 0, 1) := by decide +kernel
theorem dX8_isFile_13 : decode cX8_isFile 13 = .ok (.invokevirtual 49, 3) := by decide +kernel
theorem dX8_isFile_16 : decode cX8_isFile 16 = .ok (.iconst 1, 1) := by decide +kernel
theorem dX8_isFile_17 : decode cX8_isFile 17 = .ok (.if_icmp .ne 7, 3) := by decide +kernel
theorem dX8_isFile_20 : decode cX8_isFile 20 = .ok (.iconst 1, 1) := by decide +kernel
theorem dX8_isFile_21 : decode cX8_isFile 21 = .ok (.goto 4, 3) := by decide +kernel
theorem dX8_isFile_24 : decode cX8_isFile 24 = .ok (.iconst 0, 1) := by decide +kernel
theorem dX8_isFile_25 : decode cX8_isFile 25 = .ok (.ireturn, 1) := by decide +kernel
theorem dX8_tailOf_0 : decode cX8_tailOf 0 = .ok (.aload_n 0, 1) := by decide +kernel
theorem dX8_tailOf_1 : decode cX8_tailOf 1 = .ok (.iload_n 1, 1) := by decide +kernel
theorem dX8_tailOf_2 : decode cX8_tailOf 2 = .ok (.iconst 1, 1) := by decide +kernel
theorem dX8_tailOf_3 : decode cX8_tailOf 3 = .ok (.invokevirtual 49, 3) := by decide +kernel
theorem dX8_tailOf_6 : decode cX8_tailOf 6 = .ok (.bipush 16, 2) := by decide +kernel
theorem dX8_tailOf_8 : decode cX8_tailOf 8 = .ok (.irem, 1) := by decide +kernel
theorem dX8_tailOf_9 : decode cX8_tailOf 9 = .ok (.ireturn, 1) := by decide +kernel
theorem dX8_wholeOf_0 : decode cX8_wholeOf 0 = .ok (.aload_n 0, 1) := by decide +kernel
theorem dX8_wholeOf_1 : decode cX8_wholeOf 1 = .ok (.iload_n 1, 1) := by decide +kernel
theorem dX8_wholeOf_2 : decode cX8_wholeOf 2 = .ok (.iconst 1, 1) := by decide +kernel
theorem dX8_wholeOf_3 : decode cX8_wholeOf 3 = .ok (.invokevirtual 49, 3) := by decide +kernel
theorem dX8_wholeOf_6 : decode cX8_wholeOf 6 = .ok (.bipush 16, 2) := by decide +kernel
theorem dX8_wholeOf_8 : decode cX8_wholeOf 8 = .ok (.idiv, 1) := by decide +kernel
theorem dX8_wholeOf_9 : decode cX8_wholeOf 9 = .ok (.ireturn, 1) := by decide +kernel
theorem dX8_files_0 : decode cX8_files 0 = .ok (.iconst 0, 1) := by decide +kernel
theorem dX8_files_1 : decode cX8_files 1 = .ok (.istore_n 1, 1) := by decide +kernel
theorem dX8_files_2 : decode cX8_files 2 = .ok (.iconst 0, 1) := by decide +kernel
theorem dX8_files_3 : decode cX8_files 3 = .ok (.istore_n 2, 1) := by decide +kernel
theorem dX8_files_4 : decode cX8_files 4 = .ok (.iload_n 2, 1) := by decide +kernel
theorem dX8_files_5 : decode cX8_files 5 = .ok (.bipush 10, 2) := by decide +kernel
theorem dX8_files_7 : decode cX8_files 7 = .ok (.if_icmp .ge 18, 3) := by decide +kernel
theorem dX8_files_10 : decode cX8_files 10 = .ok (.iload_n 1, 1) := by decide +kernel
theorem dX8_files_11 : decode cX8_files 11 = .ok (.aload_n 0, 1) := by decide +kernel
theorem dX8_files_12 : decode cX8_files 12 = .ok (.iload_n 2, 1) := by decide +kernel
theorem dX8_files_13 : decode cX8_files 13 = .ok (.iconst 0, 1) := by decide +kernel
theorem dX8_files_14 : decode cX8_files 14 = .ok (.invokevirtual 49, 3) := by decide +kernel
theorem dX8_files_17 : decode cX8_files 17 = .ok (.iadd, 1) := by decide +kernel
theorem dX8_files_18 : decode cX8_files 18 = .ok (.istore_n 1, 1) := by decide +kernel
theorem dX8_files_19 : decode cX8_files 19 = .ok (.iinc 2 1, 3) := by decide +kernel
theorem dX8_files_22 : decode cX8_files 22 = .ok (.goto (-18), 3) := by decide +kernel
theorem dX8_files_25 : decode cX8_files 25 = .ok (.iload_n 1, 1) := by decide +kernel
theorem dX8_files_26 : decode cX8_files 26 = .ok (.ireturn, 1) := by decide +kernel
theorem dX8_blocksThat_0 : decode cX8_blocksThat 0 = .ok (.iconst 0, 1) := by decide +kernel
theorem dX8_blocksThat_1 : decode cX8_blocksThat 1 = .ok (.istore_n 2, 1) := by decide +kernel
theorem dX8_blocksThat_2 : decode cX8_blocksThat 2 = .ok (.iconst 0, 1) := by decide +kernel
theorem dX8_blocksThat_3 : decode cX8_blocksThat 3 = .ok (.istore_n 3, 1) := by decide +kernel
theorem dX8_blocksThat_4 : decode cX8_blocksThat 4 = .ok (.iload_n 3, 1) := by decide +kernel
theorem dX8_blocksThat_5 : decode cX8_blocksThat 5 = .ok (.bipush 24, 2) := by decide +kernel
theorem dX8_blocksThat_7 : decode cX8_blocksThat 7 = .ok (.if_icmp .ge 29, 3) := by decide +kernel
theorem dX8_blocksThat_10 : decode cX8_blocksThat 10 = .ok (.iload_n 2, 1) := by decide +kernel
theorem dX8_blocksThat_11 : decode cX8_blocksThat 11 = .ok (.aload_n 0, 1) := by decide +kernel
theorem dX8_blocksThat_12 : decode cX8_blocksThat 12 = .ok (.getfield 7, 3) := by decide +kernel
theorem dX8_blocksThat_15 : decode cX8_blocksThat 15 = .ok (.iconst 3, 1) := by decide +kernel
theorem dX8_blocksThat_16 : decode cX8_blocksThat 16 = .ok (.iload_n 3, 1) := by decide +kernel
theorem dX8_blocksThat_17 : decode cX8_blocksThat 17 = .ok (.iadd, 1) := by decide +kernel
theorem dX8_blocksThat_18 : decode cX8_blocksThat 18 = .ok (.iaload, 1) := by decide +kernel
theorem dX8_blocksThat_19 : decode cX8_blocksThat 19 = .ok (.iload_n 1, 1) := by decide +kernel
theorem dX8_blocksThat_20 : decode cX8_blocksThat 20 = .ok (.if_icmp .ne 7, 3) := by decide +kernel
theorem dX8_blocksThat_23 : decode cX8_blocksThat 23 = .ok (.iconst 1, 1) := by decide +kernel
theorem dX8_blocksThat_24 : decode cX8_blocksThat 24 = .ok (.goto 4, 3) := by decide +kernel
theorem dX8_blocksThat_27 : decode cX8_blocksThat 27 = .ok (.iconst 0, 1) := by decide +kernel
theorem dX8_blocksThat_28 : decode cX8_blocksThat 28 = .ok (.iadd, 1) := by decide +kernel
theorem dX8_blocksThat_29 : decode cX8_blocksThat 29 = .ok (.istore_n 2, 1) := by decide +kernel
theorem dX8_blocksThat_30 : decode cX8_blocksThat 30 = .ok (.iinc 3 1, 3) := by decide +kernel
theorem dX8_blocksThat_33 : decode cX8_blocksThat 33 = .ok (.goto (-29), 3) := by decide +kernel
theorem dX8_blocksThat_36 : decode cX8_blocksThat 36 = .ok (.iload_n 2, 1) := by decide +kernel
theorem dX8_blocksThat_37 : decode cX8_blocksThat 37 = .ok (.ireturn, 1) := by decide +kernel
theorem dX8_lowestFree_0 : decode cX8_lowestFree 0 = .ok (.iconst 0, 1) := by decide +kernel
theorem dX8_lowestFree_1 : decode cX8_lowestFree 1 = .ok (.istore_n 1, 1) := by decide +kernel
theorem dX8_lowestFree_2 : decode cX8_lowestFree 2 = .ok (.iload_n 1, 1) := by decide +kernel
theorem dX8_lowestFree_3 : decode cX8_lowestFree 3 = .ok (.bipush 24, 2) := by decide +kernel
theorem dX8_lowestFree_5 : decode cX8_lowestFree 5 = .ok (.if_icmp .ge 22, 3) := by decide +kernel
theorem dX8_lowestFree_8 : decode cX8_lowestFree 8 = .ok (.aload_n 0, 1) := by decide +kernel
theorem dX8_lowestFree_9 : decode cX8_lowestFree 9 = .ok (.getfield 7, 3) := by decide +kernel
theorem dX8_lowestFree_12 : decode cX8_lowestFree 12 = .ok (.iconst 3, 1) := by decide +kernel
theorem dX8_lowestFree_13 : decode cX8_lowestFree 13 = .ok (.iload_n 1, 1) := by decide +kernel
theorem dX8_lowestFree_14 : decode cX8_lowestFree 14 = .ok (.iadd, 1) := by decide +kernel
theorem dX8_lowestFree_15 : decode cX8_lowestFree 15 = .ok (.iaload, 1) := by decide +kernel
theorem dX8_lowestFree_16 : decode cX8_lowestFree 16 = .ok (.ifCond .ne 5, 3) := by decide +kernel
theorem dX8_lowestFree_19 : decode cX8_lowestFree 19 = .ok (.iload_n 1, 1) := by decide +kernel
theorem dX8_lowestFree_20 : decode cX8_lowestFree 20 = .ok (.ireturn, 1) := by decide +kernel
theorem dX8_lowestFree_21 : decode cX8_lowestFree 21 = .ok (.iinc 1 1, 3) := by decide +kernel
theorem dX8_lowestFree_24 : decode cX8_lowestFree 24 = .ok (.goto (-22), 3) := by decide +kernel
theorem dX8_lowestFree_27 : decode cX8_lowestFree 27 = .ok (.iconst (-1), 1) := by decide +kernel
theorem dX8_lowestFree_28 : decode cX8_lowestFree 28 = .ok (.ireturn, 1) := by decide +kernel
theorem dX8_hasTailIn_0 : decode cX8_hasTailIn 0 = .ok (.aload_n 0, 1) := by decide +kernel
theorem dX8_hasTailIn_1 : decode cX8_hasTailIn 1 = .ok (.iload_n 1, 1) := by decide +kernel
theorem dX8_hasTailIn_2 : decode cX8_hasTailIn 2 = .ok (.invokevirtual 53, 3) := by decide +kernel
theorem dX8_hasTailIn_5 : decode cX8_hasTailIn 5 = .ok (.ifCond .eq 25, 3) := by decide +kernel
theorem dX8_hasTailIn_8 : decode cX8_hasTailIn 8 = .ok (.aload_n 0, 1) := by decide +kernel
theorem dX8_hasTailIn_9 : decode cX8_hasTailIn 9 = .ok (.iload_n 1, 1) := by decide +kernel
theorem dX8_hasTailIn_10 : decode cX8_hasTailIn 10 = .ok (.invokevirtual 57, 3) := by decide +kernel
theorem dX8_hasTailIn_13 : decode cX8_hasTailIn 13 = .ok (.ifCond .le 17, 3) := by decide +kernel
theorem dX8_hasTailIn_16 : decode cX8_hasTailIn 16 = .ok (.aload_n 0, 1) := by decide +kernel
theorem dX8_hasTailIn_17 : decode cX8_hasTailIn 17 = .ok (.iload_n 1, 1) := by decide +kernel
theorem dX8_hasTailIn_18 : decode cX8_hasTailIn 18 = .ok (.iconst 3, 1) := by decide +kernel
theorem dX8_hasTailIn_19 : decode cX8_hasTailIn 19 = .ok (.invokevirtual 49, 3) := by decide +kernel
theorem dX8_hasTailIn_22 : decode cX8_hasTailIn 22 = .ok (.iload_n 2, 1) := by decide +kernel
theorem dX8_hasTailIn_23 : decode cX8_hasTailIn 23 = .ok (.if_icmp .ne 7, 3) := by decide +kernel
theorem dX8_hasTailIn_26 : decode cX8_hasTailIn 26 = .ok (.iconst 1, 1) := by decide +kernel
theorem dX8_hasTailIn_27 : decode cX8_hasTailIn 27 = .ok (.goto 4, 3) := by decide +kernel
theorem dX8_hasTailIn_30 : decode cX8_hasTailIn 30 = .ok (.iconst 0, 1) := by decide +kernel
theorem dX8_hasTailIn_31 : decode cX8_hasTailIn 31 = .ok (.ireturn, 1) := by decide +kernel
theorem dX8_tailsIn_0 : decode cX8_tailsIn 0 = .ok (.iconst 0, 1) := by decide +kernel
theorem dX8_tailsIn_1 : decode cX8_tailsIn 1 = .ok (.istore_n 2, 1) := by decide +kernel
theorem dX8_tailsIn_2 : decode cX8_tailsIn 2 = .ok (.iconst 0, 1) := by decide +kernel
theorem dX8_tailsIn_3 : decode cX8_tailsIn 3 = .ok (.istore_n 3, 1) := by decide +kernel
theorem dX8_tailsIn_4 : decode cX8_tailsIn 4 = .ok (.iload_n 3, 1) := by decide +kernel
theorem dX8_tailsIn_5 : decode cX8_tailsIn 5 = .ok (.bipush 10, 2) := by decide +kernel
theorem dX8_tailsIn_7 : decode cX8_tailsIn 7 = .ok (.if_icmp .ge 26, 3) := by decide +kernel
theorem dX8_tailsIn_10 : decode cX8_tailsIn 10 = .ok (.iload_n 2, 1) := by decide +kernel
theorem dX8_tailsIn_11 : decode cX8_tailsIn 11 = .ok (.aload_n 0, 1) := by decide +kernel
theorem dX8_tailsIn_12 : decode cX8_tailsIn 12 = .ok (.iload_n 3, 1) := by decide +kernel
theorem dX8_tailsIn_13 : decode cX8_tailsIn 13 = .ok (.iload_n 1, 1) := by decide +kernel
theorem dX8_tailsIn_14 : decode cX8_tailsIn 14 = .ok (.invokevirtual 61, 3) := by decide +kernel
theorem dX8_tailsIn_17 : decode cX8_tailsIn 17 = .ok (.ifCond .eq 7, 3) := by decide +kernel
theorem dX8_tailsIn_20 : decode cX8_tailsIn 20 = .ok (.iconst 1, 1) := by decide +kernel
theorem dX8_tailsIn_21 : decode cX8_tailsIn 21 = .ok (.goto 4, 3) := by decide +kernel
theorem dX8_tailsIn_24 : decode cX8_tailsIn 24 = .ok (.iconst 0, 1) := by decide +kernel
theorem dX8_tailsIn_25 : decode cX8_tailsIn 25 = .ok (.iadd, 1) := by decide +kernel
theorem dX8_tailsIn_26 : decode cX8_tailsIn 26 = .ok (.istore_n 2, 1) := by decide +kernel
theorem dX8_tailsIn_27 : decode cX8_tailsIn 27 = .ok (.iinc 3 1, 3) := by decide +kernel
theorem dX8_tailsIn_30 : decode cX8_tailsIn 30 = .ok (.goto (-26), 3) := by decide +kernel
theorem dX8_tailsIn_33 : decode cX8_tailsIn 33 = .ok (.iload_n 2, 1) := by decide +kernel
theorem dX8_tailsIn_34 : decode cX8_tailsIn 34 = .ok (.ireturn, 1) := by decide +kernel
theorem dX8_isTaken_0 : decode cX8_isTaken 0 = .ok (.iconst 0, 1) := by decide +kernel
theorem dX8_isTaken_1 : decode cX8_isTaken 1 = .ok (.istore_n 3, 1) := by decide +kernel
theorem dX8_isTaken_2 : decode cX8_isTaken 2 = .ok (.iconst 0, 1) := by decide +kernel
theorem dX8_isTaken_3 : decode cX8_isTaken 3 = .ok (.istore 4, 2) := by decide +kernel
theorem dX8_isTaken_5 : decode cX8_isTaken 5 = .ok (.iload 4, 2) := by decide +kernel
theorem dX8_isTaken_7 : decode cX8_isTaken 7 = .ok (.bipush 10, 2) := by decide +kernel
theorem dX8_isTaken_9 : decode cX8_isTaken 9 = .ok (.if_icmp .ge 59, 3) := by decide +kernel
theorem dX8_isTaken_12 : decode cX8_isTaken 12 = .ok (.iload_n 3, 1) := by decide +kernel
theorem dX8_isTaken_13 : decode cX8_isTaken 13 = .ok (.ifCond .ne 43, 3) := by decide +kernel
theorem dX8_isTaken_16 : decode cX8_isTaken 16 = .ok (.aload_n 0, 1) := by decide +kernel
theorem dX8_isTaken_17 : decode cX8_isTaken 17 = .ok (.iload 4, 2) := by decide +kernel
theorem dX8_isTaken_19 : decode cX8_isTaken 19 = .ok (.iload_n 1, 1) := by decide +kernel
theorem dX8_isTaken_20 : decode cX8_isTaken 20 = .ok (.invokevirtual 61, 3) := by decide +kernel
theorem dX8_isTaken_23 : decode cX8_isTaken 23 = .ok (.ifCond .eq 37, 3) := by decide +kernel
theorem dX8_isTaken_26 : decode cX8_isTaken 26 = .ok (.iload_n 2, 1) := by decide +kernel
theorem dX8_isTaken_27 : decode cX8_isTaken 27 = .ok (.aload_n 0, 1) := by decide +kernel
theorem dX8_isTaken_28 : decode cX8_isTaken 28 = .ok (.iload 4, 2) := by decide +kernel
theorem dX8_isTaken_30 : decode cX8_isTaken 30 = .ok (.iconst 4, 1) := by decide +kernel
theorem dX8_isTaken_31 : decode cX8_isTaken 31 = .ok (.invokevirtual 49, 3) := by decide +kernel
theorem dX8_isTaken_34 : decode cX8_isTaken 34 = .ok (.aload_n 0, 1) := by decide +kernel
theorem dX8_isTaken_35 : decode cX8_isTaken 35 = .ok (.iload 4, 2) := by decide +kernel
theorem dX8_isTaken_37 : decode cX8_isTaken 37 = .ok (.iconst 4, 1) := by decide +kernel
theorem dX8_isTaken_38 : decode cX8_isTaken 38 = .ok (.invokevirtual 49, 3) := by decide +kernel
theorem dX8_isTaken_41 : decode cX8_isTaken 41 = .ok (.aload_n 0, 1) := by decide +kernel
theorem dX8_isTaken_42 : decode cX8_isTaken 42 = .ok (.iload 4, 2) := by decide +kernel
theorem dX8_isTaken_44 : decode cX8_isTaken 44 = .ok (.invokevirtual 57, 3) := by decide +kernel
theorem dX8_isTaken_47 : decode cX8_isTaken 47 = .ok (.iadd, 1) := by decide +kernel
theorem dX8_isTaken_48 : decode cX8_isTaken 48 = .ok (.iconst 1, 1) := by decide +kernel
theorem dX8_isTaken_49 : decode cX8_isTaken 49 = .ok (.isub, 1) := by decide +kernel
theorem dX8_isTaken_50 : decode cX8_isTaken 50 = .ok (.invokestatic 45, 3) := by decide +kernel
theorem dX8_isTaken_53 : decode cX8_isTaken 53 = .ok (.ifCond .eq 7, 3) := by decide +kernel
theorem dX8_isTaken_56 : decode cX8_isTaken 56 = .ok (.iconst 1, 1) := by decide +kernel
theorem dX8_isTaken_57 : decode cX8_isTaken 57 = .ok (.goto 4, 3) := by decide +kernel
theorem dX8_isTaken_60 : decode cX8_isTaken 60 = .ok (.iconst 0, 1) := by decide +kernel
theorem dX8_isTaken_61 : decode cX8_isTaken 61 = .ok (.istore_n 3, 1) := by decide +kernel
theorem dX8_isTaken_62 : decode cX8_isTaken 62 = .ok (.iinc 4 1, 3) := by decide +kernel
theorem dX8_isTaken_65 : decode cX8_isTaken 65 = .ok (.goto (-60), 3) := by decide +kernel
theorem dX8_isTaken_68 : decode cX8_isTaken 68 = .ok (.iload_n 3, 1) := by decide +kernel
theorem dX8_isTaken_69 : decode cX8_isTaken 69 = .ok (.ireturn, 1) := by decide +kernel
theorem dX8_gapAt_0 : decode cX8_gapAt 0 = .ok (.aload_n 0, 1) := by decide +kernel
theorem dX8_gapAt_1 : decode cX8_gapAt 1 = .ok (.getfield 7, 3) := by decide +kernel
theorem dX8_gapAt_4 : decode cX8_gapAt 4 = .ok (.iconst 3, 1) := by decide +kernel
theorem dX8_gapAt_5 : decode cX8_gapAt 5 = .ok (.iload_n 1, 1) := by decide +kernel
theorem dX8_gapAt_6 : decode cX8_gapAt 6 = .ok (.iadd, 1) := by decide +kernel
theorem dX8_gapAt_7 : decode cX8_gapAt 7 = .ok (.iaload, 1) := by decide +kernel
theorem dX8_gapAt_8 : decode cX8_gapAt 8 = .ok (.iconst 2, 1) := by decide +kernel
theorem dX8_gapAt_9 : decode cX8_gapAt 9 = .ok (.if_icmp .ne 27, 3) := by decide +kernel
theorem dX8_gapAt_12 : decode cX8_gapAt 12 = .ok (.aload_n 0, 1) := by decide +kernel
theorem dX8_gapAt_13 : decode cX8_gapAt 13 = .ok (.iload_n 1, 1) := by decide +kernel
theorem dX8_gapAt_14 : decode cX8_gapAt 14 = .ok (.iload_n 2, 1) := by decide +kernel
theorem dX8_gapAt_15 : decode cX8_gapAt 15 = .ok (.invokevirtual 65, 3) := by decide +kernel
theorem dX8_gapAt_18 : decode cX8_gapAt 18 = .ok (.ifCond .ne 18, 3) := by decide +kernel
theorem dX8_gapAt_21 : decode cX8_gapAt 21 = .ok (.iload_n 2, 1) := by decide +kernel
theorem dX8_gapAt_22 : decode cX8_gapAt 22 = .ok (.ifCond .le 16, 3) := by decide +kernel
theorem dX8_gapAt_25 : decode cX8_gapAt 25 = .ok (.aload_n 0, 1) := by decide +kernel
theorem dX8_gapAt_26 : decode cX8_gapAt 26 = .ok (.iload_n 1, 1) := by decide +kernel
theorem dX8_gapAt_27 : decode cX8_gapAt 27 = .ok (.iload_n 2, 1) := by decide +kernel
theorem dX8_gapAt_28 : decode cX8_gapAt 28 = .ok (.iconst 1, 1) := by decide +kernel
theorem dX8_gapAt_29 : decode cX8_gapAt 29 = .ok (.isub, 1) := by decide +kernel
theorem dX8_gapAt_30 : decode cX8_gapAt 30 = .ok (.invokevirtual 65, 3) := by decide +kernel
theorem dX8_gapAt_33 : decode cX8_gapAt 33 = .ok (.ifCond .ne 5, 3) := by decide +kernel
theorem dX8_gapAt_36 : decode cX8_gapAt 36 = .ok (.iconst 0, 1) := by decide +kernel
theorem dX8_gapAt_37 : decode cX8_gapAt 37 = .ok (.ireturn, 1) := by decide +kernel
theorem dX8_gapAt_38 : decode cX8_gapAt 38 = .ok (.iconst 0, 1) := by decide +kernel
theorem dX8_gapAt_39 : decode cX8_gapAt 39 = .ok (.istore_n 3, 1) := by decide +kernel
theorem dX8_gapAt_40 : decode cX8_gapAt 40 = .ok (.iload_n 2, 1) := by decide +kernel
theorem dX8_gapAt_41 : decode cX8_gapAt 41 = .ok (.iload_n 3, 1) := by decide +kernel
theorem dX8_gapAt_42 : decode cX8_gapAt 42 = .ok (.iadd, 1) := by decide +kernel
theorem dX8_gapAt_43 : decode cX8_gapAt 43 = .ok (.bipush 16, 2) := by decide +kernel
theorem dX8_gapAt_45 : decode cX8_gapAt 45 = .ok (.if_icmp .ge 20, 3) := by decide +kernel
theorem dX8_gapAt_48 : decode cX8_gapAt 48 = .ok (.aload_n 0, 1) := by decide +kernel
theorem dX8_gapAt_49 : decode cX8_gapAt 49 = .ok (.iload_n 1, 1) := by decide +kernel
theorem dX8_gapAt_50 : decode cX8_gapAt 50 = .ok (.iload_n 2, 1) := by decide +kernel
theorem dX8_gapAt_51 : decode cX8_gapAt 51 = .ok (.iload_n 3, 1) := by decide +kernel
theorem dX8_gapAt_52 : decode cX8_gapAt 52 = .ok (.iadd, 1) := by decide +kernel
theorem dX8_gapAt_53 : decode cX8_gapAt 53 = .ok (.invokevirtual 65, 3) := by decide +kernel
theorem dX8_gapAt_56 : decode cX8_gapAt 56 = .ok (.ifCond .ne 9, 3) := by decide +kernel
theorem dX8_gapAt_59 : decode cX8_gapAt 59 = .ok (.iinc 3 1, 3) := by decide +kernel
theorem dX8_gapAt_62 : decode cX8_gapAt 62 = .ok (.goto (-22), 3) := by decide +kernel
theorem dX8_gapAt_65 : decode cX8_gapAt 65 = .ok (.iload_n 3, 1) := by decide +kernel
theorem dX8_gapAt_66 : decode cX8_gapAt 66 = .ok (.ireturn, 1) := by decide +kernel
theorem dX8_gapFor_0 : decode cX8_gapFor 0 = .ok (.iconst (-1), 1) := by decide +kernel
theorem dX8_gapFor_1 : decode cX8_gapFor 1 = .ok (.istore_n 2, 1) := by decide +kernel
theorem dX8_gapFor_2 : decode cX8_gapFor 2 = .ok (.bipush 17, 2) := by decide +kernel
theorem dX8_gapFor_4 : decode cX8_gapFor 4 = .ok (.istore_n 3, 1) := by decide +kernel
theorem dX8_gapFor_5 : decode cX8_gapFor 5 = .ok (.iconst 0, 1) := by decide +kernel
theorem dX8_gapFor_6 : decode cX8_gapFor 6 = .ok (.istore 4, 2) := by decide +kernel
theorem dX8_gapFor_8 : decode cX8_gapFor 8 = .ok (.iload 4, 2) := by decide +kernel
theorem dX8_gapFor_10 : decode cX8_gapFor 10 = .ok (.sipush 384, 3) := by decide +kernel
theorem dX8_gapFor_13 : decode cX8_gapFor 13 = .ok (.if_icmp .ge 85, 3) := by decide +kernel
theorem dX8_gapFor_16 : decode cX8_gapFor 16 = .ok (.aload_n 0, 1) := by decide +kernel
theorem dX8_gapFor_17 : decode cX8_gapFor 17 = .ok (.iload 4, 2) := by decide +kernel
theorem dX8_gapFor_19 : decode cX8_gapFor 19 = .ok (.bipush 16, 2) := by decide +kernel
theorem dX8_gapFor_21 : decode cX8_gapFor 21 = .ok (.idiv, 1) := by decide +kernel
theorem dX8_gapFor_22 : decode cX8_gapFor 22 = .ok (.iload 4, 2) := by decide +kernel
theorem dX8_gapFor_24 : decode cX8_gapFor 24 = .ok (.bipush 16, 2) := by decide +kernel
theorem dX8_gapFor_26 : decode cX8_gapFor 26 = .ok (.irem, 1) := by decide +kernel
theorem dX8_gapFor_27 : decode cX8_gapFor 27 = .ok (.invokevirtual 68, 3) := by decide +kernel
theorem dX8_gapFor_30 : decode cX8_gapFor 30 = .ok (.istore 5, 2) := by decide +kernel
theorem dX8_gapFor_32 : decode cX8_gapFor 32 = .ok (.iload 5, 2) := by decide +kernel
theorem dX8_gapFor_34 : decode cX8_gapFor 34 = .ok (.iload_n 1, 1) := by decide +kernel
theorem dX8_gapFor_35 : decode cX8_gapFor 35 = .ok (.if_icmp .lt 30, 3) := by decide +kernel
theorem dX8_gapFor_38 : decode cX8_gapFor 38 = .ok (.aload_n 0, 1) := by decide +kernel
theorem dX8_gapFor_39 : decode cX8_gapFor 39 = .ok (.getfield 7, 3) := by decide +kernel
theorem dX8_gapFor_42 : decode cX8_gapFor 42 = .ok (.iconst 2, 1) := by decide +kernel
theorem dX8_gapFor_43 : decode cX8_gapFor 43 = .ok (.iaload, 1) := by decide +kernel
theorem dX8_gapFor_44 : decode cX8_gapFor 44 = .ok (.ifCond .ne 11, 3) := by decide +kernel
theorem dX8_gapFor_47 : decode cX8_gapFor 47 = .ok (.iload_n 2, 1) := by decide +kernel
theorem dX8_gapFor_48 : decode cX8_gapFor 48 = .ok (.iconst (-1), 1) := by decide +kernel
theorem dX8_gapFor_49 : decode cX8_gapFor 49 = .ok (.if_icmp .ne 16, 3) := by decide +kernel
theorem dX8_gapFor_52 : decode cX8_gapFor 52 = .ok (.goto 9, 3) := by decide +kernel
theorem dX8_gapFor_55 : decode cX8_gapFor 55 = .ok (.iload 5, 2) := by decide +kernel
theorem dX8_gapFor_57 : decode cX8_gapFor 57 = .ok (.iload_n 3, 1) := by decide +kernel
theorem dX8_gapFor_58 : decode cX8_gapFor 58 = .ok (.if_icmp .ge 7, 3) := by decide +kernel
theorem dX8_gapFor_61 : decode cX8_gapFor 61 = .ok (.iconst 1, 1) := by decide +kernel
theorem dX8_gapFor_62 : decode cX8_gapFor 62 = .ok (.goto 4, 3) := by decide +kernel
theorem dX8_gapFor_65 : decode cX8_gapFor 65 = .ok (.iconst 0, 1) := by decide +kernel
theorem dX8_gapFor_66 : decode cX8_gapFor 66 = .ok (.istore 6, 2) := by decide +kernel
theorem dX8_gapFor_68 : decode cX8_gapFor 68 = .ok (.iload 6, 2) := by decide +kernel
theorem dX8_gapFor_70 : decode cX8_gapFor 70 = .ok (.ifCond .eq 8, 3) := by decide +kernel
theorem dX8_gapFor_73 : decode cX8_gapFor 73 = .ok (.iload 4, 2) := by decide +kernel
theorem dX8_gapFor_75 : decode cX8_gapFor 75 = .ok (.goto 4, 3) := by decide +kernel
theorem dX8_gapFor_78 : decode cX8_gapFor 78 = .ok (.iload_n 2, 1) := by decide +kernel
theorem dX8_gapFor_79 : decode cX8_gapFor 79 = .ok (.istore_n 2, 1) := by decide +kernel
theorem dX8_gapFor_80 : decode cX8_gapFor 80 = .ok (.iload 6, 2) := by decide +kernel
theorem dX8_gapFor_82 : decode cX8_gapFor 82 = .ok (.ifCond .eq 8, 3) := by decide +kernel
theorem dX8_gapFor_85 : decode cX8_gapFor 85 = .ok (.iload 5, 2) := by decide +kernel
theorem dX8_gapFor_87 : decode cX8_gapFor 87 = .ok (.goto 4, 3) := by decide +kernel
theorem dX8_gapFor_90 : decode cX8_gapFor 90 = .ok (.iload_n 3, 1) := by decide +kernel
theorem dX8_gapFor_91 : decode cX8_gapFor 91 = .ok (.istore_n 3, 1) := by decide +kernel
theorem dX8_gapFor_92 : decode cX8_gapFor 92 = .ok (.iinc 4 1, 3) := by decide +kernel
theorem dX8_gapFor_95 : decode cX8_gapFor 95 = .ok (.goto (-87), 3) := by decide +kernel
theorem dX8_gapFor_98 : decode cX8_gapFor 98 = .ok (.iload_n 2, 1) := by decide +kernel
theorem dX8_gapFor_99 : decode cX8_gapFor 99 = .ok (.ireturn, 1) := by decide +kernel
theorem dX8_placeFor_0 : decode cX8_placeFor 0 = .ok (.aload_n 0, 1) := by decide +kernel
theorem dX8_placeFor_1 : decode cX8_placeFor 1 = .ok (.iload_n 1, 1) := by decide +kernel
theorem dX8_placeFor_2 : decode cX8_placeFor 2 = .ok (.invokevirtual 71, 3) := by decide +kernel
theorem dX8_placeFor_5 : decode cX8_placeFor 5 = .ok (.istore_n 2, 1) := by decide +kernel
theorem dX8_placeFor_6 : decode cX8_placeFor 6 = .ok (.aload_n 0, 1) := by decide +kernel
theorem dX8_placeFor_7 : decode cX8_placeFor 7 = .ok (.invokevirtual 74, 3) := by decide +kernel
theorem dX8_placeFor_10 : decode cX8_placeFor 10 = .ok (.istore_n 3, 1) := by decide +kernel
theorem dX8_placeFor_11 : decode cX8_placeFor 11 = .ok (.iload_n 2, 1) := by decide +kernel
theorem dX8_placeFor_12 : decode cX8_placeFor 12 = .ok (.iconst (-1), 1) := by decide +kernel
theorem dX8_placeFor_13 : decode cX8_placeFor 13 = .ok (.if_icmp .eq 7, 3) := by decide +kernel
theorem dX8_placeFor_16 : decode cX8_placeFor 16 = .ok (.iload_n 2, 1) := by decide +kernel
theorem dX8_placeFor_17 : decode cX8_placeFor 17 = .ok (.goto 16, 3) := by decide +kernel
theorem dX8_placeFor_20 : decode cX8_placeFor 20 = .ok (.iload_n 3, 1) := by decide +kernel
theorem dX8_placeFor_21 : decode cX8_placeFor 21 = .ok (.iconst (-1), 1) := by decide +kernel
theorem dX8_placeFor_22 : decode cX8_placeFor 22 = .ok (.if_icmp .ne 7, 3) := by decide +kernel
theorem dX8_placeFor_25 : decode cX8_placeFor 25 = .ok (.iconst (-1), 1) := by decide +kernel
theorem dX8_placeFor_26 : decode cX8_placeFor 26 = .ok (.goto 7, 3) := by decide +kernel
theorem dX8_placeFor_29 : decode cX8_placeFor 29 = .ok (.bipush 16, 2) := by decide +kernel
theorem dX8_placeFor_31 : decode cX8_placeFor 31 = .ok (.iload_n 3, 1) := by decide +kernel
theorem dX8_placeFor_32 : decode cX8_placeFor 32 = .ok (.imul, 1) := by decide +kernel
theorem dX8_placeFor_33 : decode cX8_placeFor 33 = .ok (.ireturn, 1) := by decide +kernel
theorem dX8_save_0 : decode cX8_save 0 = .ok (.aload_n 0, 1) := by decide +kernel
theorem dX8_save_1 : decode cX8_save 1 = .ok (.getfield 78, 3) := by decide +kernel
theorem dX8_save_4 : decode cX8_save 4 = .ok (.bipush 6, 2) := by decide +kernel
theorem dX8_save_6 : decode cX8_save 6 = .ok (.if_icmp .ne 44, 3) := by decide +kernel
theorem dX8_save_9 : decode cX8_save 9 = .ok (.iconst 0, 1) := by decide +kernel
theorem dX8_save_10 : decode cX8_save 10 = .ok (.istore_n 1, 1) := by decide +kernel
theorem dX8_save_11 : decode cX8_save 11 = .ok (.iload_n 1, 1) := by decide +kernel
theorem dX8_save_12 : decode cX8_save 12 = .ok (.sipush 1035, 3) := by decide +kernel
theorem dX8_save_15 : decode cX8_save 15 = .ok (.if_icmp .ge 25, 3) := by decide +kernel
theorem dX8_save_18 : decode cX8_save 18 = .ok (.aload_n 0, 1) := by decide +kernel
theorem dX8_save_19 : decode cX8_save 19 = .ok (.getfield 13, 3) := by decide +kernel
theorem dX8_save_22 : decode cX8_save 22 = .ok (.iload_n 1, 1) := by decide +kernel
theorem dX8_save_23 : decode cX8_save 23 = .ok (.aload_n 0, 1) := by decide +kernel
theorem dX8_save_24 : decode cX8_save 24 = .ok (.getfield 13, 3) := by decide +kernel
theorem dX8_save_27 : decode cX8_save 27 = .ok (.sipush 207, 3) := by decide +kernel
theorem dX8_save_30 : decode cX8_save 30 = .ok (.iload_n 1, 1) := by decide +kernel
theorem dX8_save_31 : decode cX8_save 31 = .ok (.iadd, 1) := by decide +kernel
theorem dX8_save_32 : decode cX8_save 32 = .ok (.iaload, 1) := by decide +kernel
theorem dX8_save_33 : decode cX8_save 33 = .ok (.iastore, 1) := by decide +kernel
theorem dX8_save_34 : decode cX8_save 34 = .ok (.iinc 1 1, 3) := by decide +kernel
theorem dX8_save_37 : decode cX8_save 37 = .ok (.goto (-26), 3) := by decide +kernel
theorem dX8_save_40 : decode cX8_save 40 = .ok (.aload_n 0, 1) := by decide +kernel
theorem dX8_save_41 : decode cX8_save 41 = .ok (.dup, 1) := by decide +kernel
theorem dX8_save_42 : decode cX8_save 42 = .ok (.getfield 78, 3) := by decide +kernel
theorem dX8_save_45 : decode cX8_save 45 = .ok (.iconst 1, 1) := by decide +kernel
theorem dX8_save_46 : decode cX8_save 46 = .ok (.isub, 1) := by decide +kernel
theorem dX8_save_47 : decode cX8_save 47 = .ok (.putfield 78, 3) := by decide +kernel
theorem dX8_save_50 : decode cX8_save 50 = .ok (.iconst 0, 1) := by decide +kernel
theorem dX8_save_51 : decode cX8_save 51 = .ok (.istore_n 1, 1) := by decide +kernel
theorem dX8_save_52 : decode cX8_save 52 = .ok (.iload_n 1, 1) := by decide +kernel
theorem dX8_save_53 : decode cX8_save 53 = .ok (.sipush 207, 3) := by decide +kernel
theorem dX8_save_56 : decode cX8_save 56 = .ok (.if_icmp .ge 30, 3) := by decide +kernel
theorem dX8_save_59 : decode cX8_save 59 = .ok (.aload_n 0, 1) := by decide +kernel
theorem dX8_save_60 : decode cX8_save 60 = .ok (.getfield 13, 3) := by decide +kernel
theorem dX8_save_63 : decode cX8_save 63 = .ok (.sipush 207, 3) := by decide +kernel
theorem dX8_save_66 : decode cX8_save 66 = .ok (.aload_n 0, 1) := by decide +kernel
theorem dX8_save_67 : decode cX8_save 67 = .ok (.getfield 78, 3) := by decide +kernel
theorem dX8_save_70 : decode cX8_save 70 = .ok (.imul, 1) := by decide +kernel
theorem dX8_save_71 : decode cX8_save 71 = .ok (.iload_n 1, 1) := by decide +kernel
theorem dX8_save_72 : decode cX8_save 72 = .ok (.iadd, 1) := by decide +kernel
theorem dX8_save_73 : decode cX8_save 73 = .ok (.aload_n 0, 1) := by decide +kernel
theorem dX8_save_74 : decode cX8_save 74 = .ok (.getfield 7, 3) := by decide +kernel
theorem dX8_save_77 : decode cX8_save 77 = .ok (.iload_n 1, 1) := by decide +kernel
theorem dX8_save_78 : decode cX8_save 78 = .ok (.iaload, 1) := by decide +kernel
theorem dX8_save_79 : decode cX8_save 79 = .ok (.iastore, 1) := by decide +kernel
theorem dX8_save_80 : decode cX8_save 80 = .ok (.iinc 1 1, 3) := by decide +kernel
theorem dX8_save_83 : decode cX8_save 83 = .ok (.goto (-31), 3) := by decide +kernel
theorem dX8_save_86 : decode cX8_save 86 = .ok (.aload_n 0, 1) := by decide +kernel
theorem dX8_save_87 : decode cX8_save 87 = .ok (.dup, 1) := by decide +kernel
theorem dX8_save_88 : decode cX8_save 88 = .ok (.getfield 78, 3) := by decide +kernel
theorem dX8_save_91 : decode cX8_save 91 = .ok (.iconst 1, 1) := by decide +kernel
theorem dX8_save_92 : decode cX8_save 92 = .ok (.iadd, 1) := by decide +kernel
theorem dX8_save_93 : decode cX8_save 93 = .ok (.putfield 78, 3) := by decide +kernel
theorem dX8_save_96 : decode cX8_save 96 = .ok (.return_, 1) := by decide +kernel
theorem dX8_undo_0 : decode cX8_undo 0 = .ok (.aload_n 0, 1) := by decide +kernel
theorem dX8_undo_1 : decode cX8_undo 1 = .ok (.iconst 0, 1) := by decide +kernel
theorem dX8_undo_2 : decode cX8_undo 2 = .ok (.putfield 41, 3) := by decide +kernel
theorem dX8_undo_5 : decode cX8_undo 5 = .ok (.aload_n 0, 1) := by decide +kernel
theorem dX8_undo_6 : decode cX8_undo 6 = .ok (.getfield 78, 3) := by decide +kernel
theorem dX8_undo_9 : decode cX8_undo 9 = .ok (.ifCond .ne 9, 3) := by decide +kernel
theorem dX8_undo_12 : decode cX8_undo 12 = .ok (.aload_n 0, 1) := by decide +kernel
theorem dX8_undo_13 : decode cX8_undo 13 = .ok (.iconst 1, 1) := by decide +kernel
theorem dX8_undo_14 : decode cX8_undo 14 = .ok (.invokevirtual 81, 3) := by decide +kernel
theorem dX8_undo_17 : decode cX8_undo 17 = .ok (.ireturn, 1) := by decide +kernel
theorem dX8_undo_18 : decode cX8_undo 18 = .ok (.aload_n 0, 1) := by decide +kernel
theorem dX8_undo_19 : decode cX8_undo 19 = .ok (.dup, 1) := by decide +kernel
theorem dX8_undo_20 : decode cX8_undo 20 = .ok (.getfield 78, 3) := by decide +kernel
theorem dX8_undo_23 : decode cX8_undo 23 = .ok (.iconst 1, 1) := by decide +kernel
theorem dX8_undo_24 : decode cX8_undo 24 = .ok (.isub, 1) := by decide +kernel
theorem dX8_undo_25 : decode cX8_undo 25 = .ok (.putfield 78, 3) := by decide +kernel
theorem dX8_undo_28 : decode cX8_undo 28 = .ok (.iconst 0, 1) := by decide +kernel
theorem dX8_undo_29 : decode cX8_undo 29 = .ok (.istore_n 1, 1) := by decide +kernel
theorem dX8_undo_30 : decode cX8_undo 30 = .ok (.iload_n 1, 1) := by decide +kernel
theorem dX8_undo_31 : decode cX8_undo 31 = .ok (.sipush 207, 3) := by decide +kernel
theorem dX8_undo_34 : decode cX8_undo 34 = .ok (.if_icmp .ge 30, 3) := by decide +kernel
theorem dX8_undo_37 : decode cX8_undo 37 = .ok (.aload_n 0, 1) := by decide +kernel
theorem dX8_undo_38 : decode cX8_undo 38 = .ok (.getfield 7, 3) := by decide +kernel
theorem dX8_undo_41 : decode cX8_undo 41 = .ok (.iload_n 1, 1) := by decide +kernel
theorem dX8_undo_42 : decode cX8_undo 42 = .ok (.aload_n 0, 1) := by decide +kernel
theorem dX8_undo_43 : decode cX8_undo 43 = .ok (.getfield 13, 3) := by decide +kernel
theorem dX8_undo_46 : decode cX8_undo 46 = .ok (.sipush 207, 3) := by decide +kernel
theorem dX8_undo_49 : decode cX8_undo 49 = .ok (.aload_n 0, 1) := by decide +kernel
theorem dX8_undo_50 : decode cX8_undo 50 = .ok (.getfield 78, 3) := by decide +kernel
theorem dX8_undo_53 : decode cX8_undo 53 = .ok (.imul, 1) := by decide +kernel
theorem dX8_undo_54 : decode cX8_undo 54 = .ok (.iload_n 1, 1) := by decide +kernel
theorem dX8_undo_55 : decode cX8_undo 55 = .ok (.iadd, 1) := by decide +kernel
theorem dX8_undo_56 : decode cX8_undo 56 = .ok (.iaload, 1) := by decide +kernel
theorem dX8_undo_57 : decode cX8_undo 57 = .ok (.iastore, 1) := by decide +kernel
theorem dX8_undo_58 : decode cX8_undo 58 = .ok (.iinc 1 1, 3) := by decide +kernel
theorem dX8_undo_61 : decode cX8_undo 61 = .ok (.goto (-31), 3) := by decide +kernel
theorem dX8_undo_64 : decode cX8_undo 64 = .ok (.aload_n 0, 1) := by decide +kernel
theorem dX8_undo_65 : decode cX8_undo 65 = .ok (.getfield 78, 3) := by decide +kernel
theorem dX8_undo_68 : decode cX8_undo 68 = .ok (.ireturn, 1) := by decide +kernel
theorem dX8_keep_0 : decode cX8_keep 0 = .ok (.aload_n 0, 1) := by decide +kernel
theorem dX8_keep_1 : decode cX8_keep 1 = .ok (.iconst 0, 1) := by decide +kernel
theorem dX8_keep_2 : decode cX8_keep 2 = .ok (.putfield 41, 3) := by decide +kernel
theorem dX8_keep_5 : decode cX8_keep 5 = .ok (.iload_n 1, 1) := by decide +kernel
theorem dX8_keep_6 : decode cX8_keep 6 = .ok (.iconst 0, 1) := by decide +kernel
theorem dX8_keep_7 : decode cX8_keep 7 = .ok (.iconst 1, 1) := by decide +kernel
theorem dX8_keep_8 : decode cX8_keep 8 = .ok (.invokestatic 45, 3) := by decide +kernel
theorem dX8_keep_11 : decode cX8_keep 11 = .ok (.ifCond .ne 9, 3) := by decide +kernel
theorem dX8_keep_14 : decode cX8_keep 14 = .ok (.aload_n 0, 1) := by decide +kernel
theorem dX8_keep_15 : decode cX8_keep 15 = .ok (.iconst 1, 1) := by decide +kernel
theorem dX8_keep_16 : decode cX8_keep 16 = .ok (.invokevirtual 81, 3) := by decide +kernel
theorem dX8_keep_19 : decode cX8_keep 19 = .ok (.ireturn, 1) := by decide +kernel
theorem dX8_keep_20 : decode cX8_keep 20 = .ok (.iconst 0, 1) := by decide +kernel
theorem dX8_keep_21 : decode cX8_keep 21 = .ok (.istore_n 2, 1) := by decide +kernel
theorem dX8_keep_22 : decode cX8_keep 22 = .ok (.iload_n 2, 1) := by decide +kernel
theorem dX8_keep_23 : decode cX8_keep 23 = .ok (.sipush 207, 3) := by decide +kernel
theorem dX8_keep_26 : decode cX8_keep 26 = .ok (.if_icmp .ge 27, 3) := by decide +kernel
theorem dX8_keep_29 : decode cX8_keep 29 = .ok (.aload_n 0, 1) := by decide +kernel
theorem dX8_keep_30 : decode cX8_keep 30 = .ok (.getfield 16, 3) := by decide +kernel
theorem dX8_keep_33 : decode cX8_keep 33 = .ok (.sipush 207, 3) := by decide +kernel
theorem dX8_keep_36 : decode cX8_keep 36 = .ok (.iload_n 1, 1) := by decide +kernel
theorem dX8_keep_37 : decode cX8_keep 37 = .ok (.imul, 1) := by decide +kernel
theorem dX8_keep_38 : decode cX8_keep 38 = .ok (.iload_n 2, 1) := by decide +kernel
theorem dX8_keep_39 : decode cX8_keep 39 = .ok (.iadd, 1) := by decide +kernel
theorem dX8_keep_40 : decode cX8_keep 40 = .ok (.aload_n 0, 1) := by decide +kernel
theorem dX8_keep_41 : decode cX8_keep 41 = .ok (.getfield 7, 3) := by decide +kernel
theorem dX8_keep_44 : decode cX8_keep 44 = .ok (.iload_n 2, 1) := by decide +kernel
theorem dX8_keep_45 : decode cX8_keep 45 = .ok (.iaload, 1) := by decide +kernel
theorem dX8_keep_46 : decode cX8_keep 46 = .ok (.iastore, 1) := by decide +kernel
theorem dX8_keep_47 : decode cX8_keep 47 = .ok (.iinc 2 1, 3) := by decide +kernel
theorem dX8_keep_50 : decode cX8_keep 50 = .ok (.goto (-28), 3) := by decide +kernel
theorem dX8_keep_53 : decode cX8_keep 53 = .ok (.aload_n 0, 1) := by decide +kernel
theorem dX8_keep_54 : decode cX8_keep 54 = .ok (.getfield 22, 3) := by decide +kernel
theorem dX8_keep_57 : decode cX8_keep 57 = .ok (.iload_n 1, 1) := by decide +kernel
theorem dX8_keep_58 : decode cX8_keep 58 = .ok (.iconst 1, 1) := by decide +kernel
theorem dX8_keep_59 : decode cX8_keep 59 = .ok (.bastore, 1) := by decide +kernel
theorem dX8_keep_60 : decode cX8_keep 60 = .ok (.aload_n 0, 1) := by decide +kernel
theorem dX8_keep_61 : decode cX8_keep 61 = .ok (.invokevirtual 84, 3) := by decide +kernel
theorem dX8_keep_64 : decode cX8_keep 64 = .ok (.ireturn, 1) := by decide +kernel
theorem dX8_goBack_0 : decode cX8_goBack 0 = .ok (.aload_n 0, 1) := by decide +kernel
theorem dX8_goBack_1 : decode cX8_goBack 1 = .ok (.iconst 0, 1) := by decide +kernel
theorem dX8_goBack_2 : decode cX8_goBack 2 = .ok (.putfield 41, 3) := by decide +kernel
theorem dX8_goBack_5 : decode cX8_goBack 5 = .ok (.iload_n 1, 1) := by decide +kernel
theorem dX8_goBack_6 : decode cX8_goBack 6 = .ok (.iconst 0, 1) := by decide +kernel
theorem dX8_goBack_7 : decode cX8_goBack 7 = .ok (.iconst 1, 1) := by decide +kernel
theorem dX8_goBack_8 : decode cX8_goBack 8 = .ok (.invokestatic 45, 3) := by decide +kernel
theorem dX8_goBack_11 : decode cX8_goBack 11 = .ok (.ifCond .ne 9, 3) := by decide +kernel
theorem dX8_goBack_14 : decode cX8_goBack 14 = .ok (.aload_n 0, 1) := by decide +kernel
theorem dX8_goBack_15 : decode cX8_goBack 15 = .ok (.iconst 1, 1) := by decide +kernel
theorem dX8_goBack_16 : decode cX8_goBack 16 = .ok (.invokevirtual 81, 3) := by decide +kernel
theorem dX8_goBack_19 : decode cX8_goBack 19 = .ok (.ireturn, 1) := by decide +kernel
theorem dX8_goBack_20 : decode cX8_goBack 20 = .ok (.aload_n 0, 1) := by decide +kernel
theorem dX8_goBack_21 : decode cX8_goBack 21 = .ok (.getfield 22, 3) := by decide +kernel
theorem dX8_goBack_24 : decode cX8_goBack 24 = .ok (.iload_n 1, 1) := by decide +kernel
theorem dX8_goBack_25 : decode cX8_goBack 25 = .ok (.baload, 1) := by decide +kernel
theorem dX8_goBack_26 : decode cX8_goBack 26 = .ok (.ifCond .ne 9, 3) := by decide +kernel
theorem dX8_goBack_29 : decode cX8_goBack 29 = .ok (.aload_n 0, 1) := by decide +kernel
theorem dX8_goBack_30 : decode cX8_goBack 30 = .ok (.iconst 2, 1) := by decide +kernel
theorem dX8_goBack_31 : decode cX8_goBack 31 = .ok (.invokevirtual 81, 3) := by decide +kernel
theorem dX8_goBack_34 : decode cX8_goBack 34 = .ok (.ireturn, 1) := by decide +kernel
theorem dX8_goBack_35 : decode cX8_goBack 35 = .ok (.aload_n 0, 1) := by decide +kernel
theorem dX8_goBack_36 : decode cX8_goBack 36 = .ok (.invokevirtual 87, 3) := by decide +kernel
theorem dX8_goBack_39 : decode cX8_goBack 39 = .ok (.iconst 0, 1) := by decide +kernel
theorem dX8_goBack_40 : decode cX8_goBack 40 = .ok (.istore_n 2, 1) := by decide +kernel
theorem dX8_goBack_41 : decode cX8_goBack 41 = .ok (.iload_n 2, 1) := by decide +kernel
theorem dX8_goBack_42 : decode cX8_goBack 42 = .ok (.sipush 207, 3) := by decide +kernel
theorem dX8_goBack_45 : decode cX8_goBack 45 = .ok (.if_icmp .ge 27, 3) := by decide +kernel
theorem dX8_goBack_48 : decode cX8_goBack 48 = .ok (.aload_n 0, 1) := by decide +kernel
theorem dX8_goBack_49 : decode cX8_goBack 49 = .ok (.getfield 7, 3) := by decide +kernel
theorem dX8_goBack_52 : decode cX8_goBack 52 = .ok (.iload_n 2, 1) := by decide +kernel
theorem dX8_goBack_53 : decode cX8_goBack 53 = .ok (.aload_n 0, 1) := by decide +kernel
theorem dX8_goBack_54 : decode cX8_goBack 54 = .ok (.getfield 16, 3) := by decide +kernel
theorem dX8_goBack_57 : decode cX8_goBack 57 = .ok (.sipush 207, 3) := by decide +kernel
theorem dX8_goBack_60 : decode cX8_goBack 60 = .ok (.iload_n 1, 1) := by decide +kernel
theorem dX8_goBack_61 : decode cX8_goBack 61 = .ok (.imul, 1) := by decide +kernel
theorem dX8_goBack_62 : decode cX8_goBack 62 = .ok (.iload_n 2, 1) := by decide +kernel
theorem dX8_goBack_63 : decode cX8_goBack 63 = .ok (.iadd, 1) := by decide +kernel
theorem dX8_goBack_64 : decode cX8_goBack 64 = .ok (.iaload, 1) := by decide +kernel
theorem dX8_goBack_65 : decode cX8_goBack 65 = .ok (.iastore, 1) := by decide +kernel
theorem dX8_goBack_66 : decode cX8_goBack 66 = .ok (.iinc 2 1, 3) := by decide +kernel
theorem dX8_goBack_69 : decode cX8_goBack 69 = .ok (.goto (-28), 3) := by decide +kernel
theorem dX8_goBack_72 : decode cX8_goBack 72 = .ok (.aload_n 0, 1) := by decide +kernel
theorem dX8_goBack_73 : decode cX8_goBack 73 = .ok (.invokevirtual 84, 3) := by decide +kernel
theorem dX8_goBack_76 : decode cX8_goBack 76 = .ok (.ireturn, 1) := by decide +kernel
theorem dX8_layAside_0 : decode cX8_layAside 0 = .ok (.iconst 0, 1) := by decide +kernel
theorem dX8_layAside_1 : decode cX8_layAside 1 = .ok (.istore_n 1, 1) := by decide +kernel
theorem dX8_layAside_2 : decode cX8_layAside 2 = .ok (.iload_n 1, 1) := by decide +kernel
theorem dX8_layAside_3 : decode cX8_layAside 3 = .ok (.sipush 207, 3) := by decide +kernel
theorem dX8_layAside_6 : decode cX8_layAside 6 = .ok (.if_icmp .ge 21, 3) := by decide +kernel
theorem dX8_layAside_9 : decode cX8_layAside 9 = .ok (.aload_n 0, 1) := by decide +kernel
theorem dX8_layAside_10 : decode cX8_layAside 10 = .ok (.getfield 19, 3) := by decide +kernel
theorem dX8_layAside_13 : decode cX8_layAside 13 = .ok (.iload_n 1, 1) := by decide +kernel
theorem dX8_layAside_14 : decode cX8_layAside 14 = .ok (.aload_n 0, 1) := by decide +kernel
theorem dX8_layAside_15 : decode cX8_layAside 15 = .ok (.getfield 7, 3) := by decide +kernel
theorem dX8_layAside_18 : decode cX8_layAside 18 = .ok (.iload_n 1, 1) := by decide +kernel
theorem dX8_layAside_19 : decode cX8_layAside 19 = .ok (.iaload, 1) := by decide +kernel
theorem dX8_layAside_20 : decode cX8_layAside 20 = .ok (.iastore, 1) := by decide +kernel
theorem dX8_layAside_21 : decode cX8_layAside 21 = .ok (.iinc 1 1, 3) := by decide +kernel
end
section
theorem dX8_layAside_24 : decode cX8_layAside 24 = .ok (.goto (-22), 3) := by decide +kernel
theorem dX8_layAside_27 : decode cX8_layAside 27 = .ok (.return_, 1) := by decide +kernel
theorem dX8_putBack_0 : decode cX8_putBack 0 = .ok (.iconst 0, 1) := by decide +kernel
theorem dX8_putBack_1 : decode cX8_putBack 1 = .ok (.istore_n 1, 1) := by decide +kernel
theorem dX8_putBack_2 : decode cX8_putBack 2 = .ok (.iload_n 1, 1) := by decide +kernel
theorem dX8_putBack_3 : decode cX8_putBack 3 = .ok (.sipush 207, 3) := by decide +kernel
theorem dX8_putBack_6 : decode cX8_putBack 6 = .ok (.if_icmp .ge 21, 3) := by decide +kernel
theorem dX8_putBack_9 : decode cX8_putBack 9 = .ok (.aload_n 0, 1) := by decide +kernel
theorem dX8_putBack_10 : decode cX8_putBack 10 = .ok (.getfield 7, 3) := by decide +kernel
theorem dX8_putBack_13 : decode cX8_putBack 13 = .ok (.iload_n 1, 1) := by decide +kernel
theorem dX8_putBack_14 : decode cX8_putBack 14 = .ok (.aload_n 0, 1) := by decide +kernel
theorem dX8_putBack_15 : decode cX8_putBack 15 = .ok (.getfield 19, 3) := by decide +kernel
theorem dX8_putBack_18 : decode cX8_putBack 18 = .ok (.iload_n 1, 1) := by decide +kernel
theorem dX8_putBack_19 : decode cX8_putBack 19 = .ok (.iaload, 1) := by decide +kernel
theorem dX8_putBack_20 : decode cX8_putBack 20 = .ok (.iastore, 1) := by decide +kernel
theorem dX8_putBack_21 : decode cX8_putBack 21 = .ok (.iinc 1 1, 3) := by decide +kernel
theorem dX8_putBack_24 : decode cX8_putBack 24 = .ok (.goto (-22), 3) := by decide +kernel
theorem dX8_putBack_27 : decode cX8_putBack 27 = .ok (.return_, 1) := by decide +kernel
theorem dX8_frees_0 : decode cX8_frees 0 = .ok (.aload_n 0, 1) := by decide +kernel
theorem dX8_frees_1 : decode cX8_frees 1 = .ok (.getfield 7, 3) := by decide +kernel
theorem dX8_frees_4 : decode cX8_frees 4 = .ok (.iconst 3, 1) := by decide +kernel
theorem dX8_frees_5 : decode cX8_frees 5 = .ok (.iload_n 1, 1) := by decide +kernel
theorem dX8_frees_6 : decode cX8_frees 6 = .ok (.iadd, 1) := by decide +kernel
theorem dX8_frees_7 : decode cX8_frees 7 = .ok (.iaload, 1) := by decide +kernel
theorem dX8_frees_8 : decode cX8_frees 8 = .ok (.iconst 2, 1) := by decide +kernel
theorem dX8_frees_9 : decode cX8_frees 9 = .ok (.if_icmp .ne 11, 3) := by decide +kernel
theorem dX8_frees_12 : decode cX8_frees 12 = .ok (.aload_n 0, 1) := by decide +kernel
theorem dX8_frees_13 : decode cX8_frees 13 = .ok (.iload_n 1, 1) := by decide +kernel
theorem dX8_frees_14 : decode cX8_frees 14 = .ok (.invokevirtual 90, 3) := by decide +kernel
theorem dX8_frees_17 : decode cX8_frees 17 = .ok (.ifCond .le 5, 3) := by decide +kernel
theorem dX8_frees_20 : decode cX8_frees 20 = .ok (.iconst 0, 1) := by decide +kernel
theorem dX8_frees_21 : decode cX8_frees 21 = .ok (.ireturn, 1) := by decide +kernel
theorem dX8_frees_22 : decode cX8_frees 22 = .ok (.aload_n 0, 1) := by decide +kernel
theorem dX8_frees_23 : decode cX8_frees 23 = .ok (.getfield 7, 3) := by decide +kernel
theorem dX8_frees_26 : decode cX8_frees 26 = .ok (.iconst 3, 1) := by decide +kernel
theorem dX8_frees_27 : decode cX8_frees 27 = .ok (.iload_n 1, 1) := by decide +kernel
theorem dX8_frees_28 : decode cX8_frees 28 = .ok (.iadd, 1) := by decide +kernel
theorem dX8_frees_29 : decode cX8_frees 29 = .ok (.iconst 0, 1) := by decide +kernel
theorem dX8_frees_30 : decode cX8_frees 30 = .ok (.iastore, 1) := by decide +kernel
theorem dX8_frees_31 : decode cX8_frees 31 = .ok (.iconst 1, 1) := by decide +kernel
theorem dX8_frees_32 : decode cX8_frees 32 = .ok (.ireturn, 1) := by decide +kernel
theorem dX8_takeTail_0 : decode cX8_takeTail 0 = .ok (.aload_n 0, 1) := by decide +kernel
theorem dX8_takeTail_1 : decode cX8_takeTail 1 = .ok (.iload_n 1, 1) := by decide +kernel
theorem dX8_takeTail_2 : decode cX8_takeTail 2 = .ok (.iconst 3, 1) := by decide +kernel
theorem dX8_takeTail_3 : decode cX8_takeTail 3 = .ok (.invokevirtual 49, 3) := by decide +kernel
theorem dX8_takeTail_6 : decode cX8_takeTail 6 = .ok (.istore_n 2, 1) := by decide +kernel
theorem dX8_takeTail_7 : decode cX8_takeTail 7 = .ok (.aload_n 0, 1) := by decide +kernel
theorem dX8_takeTail_8 : decode cX8_takeTail 8 = .ok (.iload_n 1, 1) := by decide +kernel
theorem dX8_takeTail_9 : decode cX8_takeTail 9 = .ok (.invokevirtual 57, 3) := by decide +kernel
theorem dX8_takeTail_12 : decode cX8_takeTail 12 = .ok (.ifCond .le 7, 3) := by decide +kernel
theorem dX8_takeTail_15 : decode cX8_takeTail 15 = .ok (.iconst 1, 1) := by decide +kernel
theorem dX8_takeTail_16 : decode cX8_takeTail 16 = .ok (.goto 4, 3) := by decide +kernel
theorem dX8_takeTail_19 : decode cX8_takeTail 19 = .ok (.iconst 0, 1) := by decide +kernel
theorem dX8_takeTail_20 : decode cX8_takeTail 20 = .ok (.istore_n 3, 1) := by decide +kernel
theorem dX8_takeTail_21 : decode cX8_takeTail 21 = .ok (.aload_n 0, 1) := by decide +kernel
theorem dX8_takeTail_22 : decode cX8_takeTail 22 = .ok (.iload_n 1, 1) := by decide +kernel
theorem dX8_takeTail_23 : decode cX8_takeTail 23 = .ok (.iconst 1, 1) := by decide +kernel
theorem dX8_takeTail_24 : decode cX8_takeTail 24 = .ok (.bipush 16, 2) := by decide +kernel
theorem dX8_takeTail_26 : decode cX8_takeTail 26 = .ok (.aload_n 0, 1) := by decide +kernel
theorem dX8_takeTail_27 : decode cX8_takeTail 27 = .ok (.iload_n 1, 1) := by decide +kernel
theorem dX8_takeTail_28 : decode cX8_takeTail 28 = .ok (.invokevirtual 93, 3) := by decide +kernel
theorem dX8_takeTail_31 : decode cX8_takeTail 31 = .ok (.imul, 1) := by decide +kernel
theorem dX8_takeTail_32 : decode cX8_takeTail 32 = .ok (.invokevirtual 96, 3) := by decide +kernel
theorem dX8_takeTail_35 : decode cX8_takeTail 35 = .ok (.aload_n 0, 1) := by decide +kernel
theorem dX8_takeTail_36 : decode cX8_takeTail 36 = .ok (.iload_n 1, 1) := by decide +kernel
theorem dX8_takeTail_37 : decode cX8_takeTail 37 = .ok (.iconst 3, 1) := by decide +kernel
theorem dX8_takeTail_38 : decode cX8_takeTail 38 = .ok (.iconst (-1), 1) := by decide +kernel
theorem dX8_takeTail_39 : decode cX8_takeTail 39 = .ok (.invokevirtual 96, 3) := by decide +kernel
theorem dX8_takeTail_42 : decode cX8_takeTail 42 = .ok (.aload_n 0, 1) := by decide +kernel
theorem dX8_takeTail_43 : decode cX8_takeTail 43 = .ok (.iload_n 1, 1) := by decide +kernel
theorem dX8_takeTail_44 : decode cX8_takeTail 44 = .ok (.iconst 4, 1) := by decide +kernel
theorem dX8_takeTail_45 : decode cX8_takeTail 45 = .ok (.iconst (-1), 1) := by decide +kernel
theorem dX8_takeTail_46 : decode cX8_takeTail 46 = .ok (.invokevirtual 96, 3) := by decide +kernel
theorem dX8_takeTail_49 : decode cX8_takeTail 49 = .ok (.iload_n 3, 1) := by decide +kernel
theorem dX8_takeTail_50 : decode cX8_takeTail 50 = .ok (.ifCond .eq 11, 3) := by decide +kernel
theorem dX8_takeTail_53 : decode cX8_takeTail 53 = .ok (.aload_n 0, 1) := by decide +kernel
theorem dX8_takeTail_54 : decode cX8_takeTail 54 = .ok (.iload_n 2, 1) := by decide +kernel
theorem dX8_takeTail_55 : decode cX8_takeTail 55 = .ok (.invokevirtual 100, 3) := by decide +kernel
theorem dX8_takeTail_58 : decode cX8_takeTail 58 = .ok (.goto 4, 3) := by decide +kernel
theorem dX8_takeTail_61 : decode cX8_takeTail 61 = .ok (.iconst 0, 1) := by decide +kernel
theorem dX8_takeTail_62 : decode cX8_takeTail 62 = .ok (.istore 4, 2) := by decide +kernel
theorem dX8_takeTail_64 : decode cX8_takeTail 64 = .ok (.return_, 1) := by decide +kernel
theorem dX8_placeTail_0 : decode cX8_placeTail 0 = .ok (.iload_n 2, 1) := by decide +kernel
theorem dX8_placeTail_1 : decode cX8_placeTail 1 = .ok (.ifCond .ne 5, 3) := by decide +kernel
theorem dX8_placeTail_4 : decode cX8_placeTail 4 = .ok (.iconst 1, 1) := by decide +kernel
theorem dX8_placeTail_5 : decode cX8_placeTail 5 = .ok (.ireturn, 1) := by decide +kernel
theorem dX8_placeTail_6 : decode cX8_placeTail 6 = .ok (.aload_n 0, 1) := by decide +kernel
theorem dX8_placeTail_7 : decode cX8_placeTail 7 = .ok (.iload_n 2, 1) := by decide +kernel
theorem dX8_placeTail_8 : decode cX8_placeTail 8 = .ok (.invokevirtual 103, 3) := by decide +kernel
theorem dX8_placeTail_11 : decode cX8_placeTail 11 = .ok (.istore_n 3, 1) := by decide +kernel
theorem dX8_placeTail_12 : decode cX8_placeTail 12 = .ok (.iload_n 3, 1) := by decide +kernel
theorem dX8_placeTail_13 : decode cX8_placeTail 13 = .ok (.iconst (-1), 1) := by decide +kernel
theorem dX8_placeTail_14 : decode cX8_placeTail 14 = .ok (.if_icmp .ne 5, 3) := by decide +kernel
theorem dX8_placeTail_17 : decode cX8_placeTail 17 = .ok (.iconst 0, 1) := by decide +kernel
theorem dX8_placeTail_18 : decode cX8_placeTail 18 = .ok (.ireturn, 1) := by decide +kernel
theorem dX8_placeTail_19 : decode cX8_placeTail 19 = .ok (.aload_n 0, 1) := by decide +kernel
theorem dX8_placeTail_20 : decode cX8_placeTail 20 = .ok (.getfield 7, 3) := by decide +kernel
theorem dX8_placeTail_23 : decode cX8_placeTail 23 = .ok (.iconst 3, 1) := by decide +kernel
theorem dX8_placeTail_24 : decode cX8_placeTail 24 = .ok (.iload_n 3, 1) := by decide +kernel
theorem dX8_placeTail_25 : decode cX8_placeTail 25 = .ok (.bipush 16, 2) := by decide +kernel
theorem dX8_placeTail_27 : decode cX8_placeTail 27 = .ok (.idiv, 1) := by decide +kernel
theorem dX8_placeTail_28 : decode cX8_placeTail 28 = .ok (.iadd, 1) := by decide +kernel
theorem dX8_placeTail_29 : decode cX8_placeTail 29 = .ok (.iconst 2, 1) := by decide +kernel
theorem dX8_placeTail_30 : decode cX8_placeTail 30 = .ok (.iastore, 1) := by decide +kernel
theorem dX8_placeTail_31 : decode cX8_placeTail 31 = .ok (.aload_n 0, 1) := by decide +kernel
theorem dX8_placeTail_32 : decode cX8_placeTail 32 = .ok (.iload_n 1, 1) := by decide +kernel
theorem dX8_placeTail_33 : decode cX8_placeTail 33 = .ok (.iconst 3, 1) := by decide +kernel
theorem dX8_placeTail_34 : decode cX8_placeTail 34 = .ok (.iload_n 3, 1) := by decide +kernel
theorem dX8_placeTail_35 : decode cX8_placeTail 35 = .ok (.bipush 16, 2) := by decide +kernel
theorem dX8_placeTail_37 : decode cX8_placeTail 37 = .ok (.idiv, 1) := by decide +kernel
theorem dX8_placeTail_38 : decode cX8_placeTail 38 = .ok (.invokevirtual 96, 3) := by decide +kernel
theorem dX8_placeTail_41 : decode cX8_placeTail 41 = .ok (.aload_n 0, 1) := by decide +kernel
theorem dX8_placeTail_42 : decode cX8_placeTail 42 = .ok (.iload_n 1, 1) := by decide +kernel
theorem dX8_placeTail_43 : decode cX8_placeTail 43 = .ok (.iconst 4, 1) := by decide +kernel
theorem dX8_placeTail_44 : decode cX8_placeTail 44 = .ok (.iload_n 3, 1) := by decide +kernel
theorem dX8_placeTail_45 : decode cX8_placeTail 45 = .ok (.bipush 16, 2) := by decide +kernel
theorem dX8_placeTail_47 : decode cX8_placeTail 47 = .ok (.irem, 1) := by decide +kernel
theorem dX8_placeTail_48 : decode cX8_placeTail 48 = .ok (.invokevirtual 96, 3) := by decide +kernel
theorem dX8_placeTail_51 : decode cX8_placeTail 51 = .ok (.aload_n 0, 1) := by decide +kernel
theorem dX8_placeTail_52 : decode cX8_placeTail 52 = .ok (.iload_n 1, 1) := by decide +kernel
theorem dX8_placeTail_53 : decode cX8_placeTail 53 = .ok (.iconst 1, 1) := by decide +kernel
theorem dX8_placeTail_54 : decode cX8_placeTail 54 = .ok (.aload_n 0, 1) := by decide +kernel
theorem dX8_placeTail_55 : decode cX8_placeTail 55 = .ok (.iload_n 1, 1) := by decide +kernel
theorem dX8_placeTail_56 : decode cX8_placeTail 56 = .ok (.iconst 1, 1) := by decide +kernel
theorem dX8_placeTail_57 : decode cX8_placeTail 57 = .ok (.invokevirtual 49, 3) := by decide +kernel
theorem dX8_placeTail_60 : decode cX8_placeTail 60 = .ok (.iload_n 2, 1) := by decide +kernel
theorem dX8_placeTail_61 : decode cX8_placeTail 61 = .ok (.iadd, 1) := by decide +kernel
theorem dX8_placeTail_62 : decode cX8_placeTail 62 = .ok (.invokevirtual 96, 3) := by decide +kernel
theorem dX8_placeTail_65 : decode cX8_placeTail 65 = .ok (.aload_n 0, 1) := by decide +kernel
theorem dX8_placeTail_66 : decode cX8_placeTail 66 = .ok (.iload_n 1, 1) := by decide +kernel
theorem dX8_placeTail_67 : decode cX8_placeTail 67 = .ok (.iconst 5, 1) := by decide +kernel
theorem dX8_placeTail_68 : decode cX8_placeTail 68 = .ok (.aload_n 0, 1) := by decide +kernel
theorem dX8_placeTail_69 : decode cX8_placeTail 69 = .ok (.iload_n 1, 1) := by decide +kernel
theorem dX8_placeTail_70 : decode cX8_placeTail 70 = .ok (.iconst 5, 1) := by decide +kernel
theorem dX8_placeTail_71 : decode cX8_placeTail 71 = .ok (.invokevirtual 49, 3) := by decide +kernel
theorem dX8_placeTail_74 : decode cX8_placeTail 74 = .ok (.iconst 1, 1) := by decide +kernel
theorem dX8_placeTail_75 : decode cX8_placeTail 75 = .ok (.iadd, 1) := by decide +kernel
theorem dX8_placeTail_76 : decode cX8_placeTail 76 = .ok (.invokevirtual 96, 3) := by decide +kernel
theorem dX8_placeTail_79 : decode cX8_placeTail 79 = .ok (.iconst 1, 1) := by decide +kernel
theorem dX8_placeTail_80 : decode cX8_placeTail 80 = .ok (.ireturn, 1) := by decide +kernel
theorem dX8_takeWhole_0 : decode cX8_takeWhole 0 = .ok (.aload_n 0, 1) := by decide +kernel
theorem dX8_takeWhole_1 : decode cX8_takeWhole 1 = .ok (.iload_n 1, 1) := by decide +kernel
theorem dX8_takeWhole_2 : decode cX8_takeWhole 2 = .ok (.invokevirtual 93, 3) := by decide +kernel
theorem dX8_takeWhole_5 : decode cX8_takeWhole 5 = .ok (.iload_n 2, 1) := by decide +kernel
theorem dX8_takeWhole_6 : decode cX8_takeWhole 6 = .ok (.if_icmp .ge 56, 3) := by decide +kernel
theorem dX8_takeWhole_9 : decode cX8_takeWhole 9 = .ok (.aload_n 0, 1) := by decide +kernel
theorem dX8_takeWhole_10 : decode cX8_takeWhole 10 = .ok (.invokevirtual 74, 3) := by decide +kernel
theorem dX8_takeWhole_13 : decode cX8_takeWhole 13 = .ok (.istore_n 3, 1) := by decide +kernel
theorem dX8_takeWhole_14 : decode cX8_takeWhole 14 = .ok (.iload_n 3, 1) := by decide +kernel
theorem dX8_takeWhole_15 : decode cX8_takeWhole 15 = .ok (.iconst (-1), 1) := by decide +kernel
theorem dX8_takeWhole_16 : decode cX8_takeWhole 16 = .ok (.if_icmp .ne 5, 3) := by decide +kernel
theorem dX8_takeWhole_19 : decode cX8_takeWhole 19 = .ok (.iconst 0, 1) := by decide +kernel
theorem dX8_takeWhole_20 : decode cX8_takeWhole 20 = .ok (.ireturn, 1) := by decide +kernel
theorem dX8_takeWhole_21 : decode cX8_takeWhole 21 = .ok (.aload_n 0, 1) := by decide +kernel
theorem dX8_takeWhole_22 : decode cX8_takeWhole 22 = .ok (.getfield 7, 3) := by decide +kernel
theorem dX8_takeWhole_25 : decode cX8_takeWhole 25 = .ok (.iconst 3, 1) := by decide +kernel
theorem dX8_takeWhole_26 : decode cX8_takeWhole 26 = .ok (.iload_n 3, 1) := by decide +kernel
theorem dX8_takeWhole_27 : decode cX8_takeWhole 27 = .ok (.iadd, 1) := by decide +kernel
theorem dX8_takeWhole_28 : decode cX8_takeWhole 28 = .ok (.iconst 1, 1) := by decide +kernel
theorem dX8_takeWhole_29 : decode cX8_takeWhole 29 = .ok (.iastore, 1) := by decide +kernel
theorem dX8_takeWhole_30 : decode cX8_takeWhole 30 = .ok (.aload_n 0, 1) := by decide +kernel
theorem dX8_takeWhole_31 : decode cX8_takeWhole 31 = .ok (.iload_n 1, 1) := by decide +kernel
theorem dX8_takeWhole_32 : decode cX8_takeWhole 32 = .ok (.bipush 6, 2) := by decide +kernel
theorem dX8_takeWhole_34 : decode cX8_takeWhole 34 = .ok (.aload_n 0, 1) := by decide +kernel
theorem dX8_takeWhole_35 : decode cX8_takeWhole 35 = .ok (.iload_n 1, 1) := by decide +kernel
theorem dX8_takeWhole_36 : decode cX8_takeWhole 36 = .ok (.invokevirtual 93, 3) := by decide +kernel
theorem dX8_takeWhole_39 : decode cX8_takeWhole 39 = .ok (.iadd, 1) := by decide +kernel
theorem dX8_takeWhole_40 : decode cX8_takeWhole 40 = .ok (.iload_n 3, 1) := by decide +kernel
theorem dX8_takeWhole_41 : decode cX8_takeWhole 41 = .ok (.invokevirtual 96, 3) := by decide +kernel
theorem dX8_takeWhole_44 : decode cX8_takeWhole 44 = .ok (.aload_n 0, 1) := by decide +kernel
theorem dX8_takeWhole_45 : decode cX8_takeWhole 45 = .ok (.iload_n 1, 1) := by decide +kernel
theorem dX8_takeWhole_46 : decode cX8_takeWhole 46 = .ok (.iconst 1, 1) := by decide +kernel
theorem dX8_takeWhole_47 : decode cX8_takeWhole 47 = .ok (.aload_n 0, 1) := by decide +kernel
theorem dX8_takeWhole_48 : decode cX8_takeWhole 48 = .ok (.iload_n 1, 1) := by decide +kernel
theorem dX8_takeWhole_49 : decode cX8_takeWhole 49 = .ok (.iconst 1, 1) := by decide +kernel
theorem dX8_takeWhole_50 : decode cX8_takeWhole 50 = .ok (.invokevirtual 49, 3) := by decide +kernel
theorem dX8_takeWhole_53 : decode cX8_takeWhole 53 = .ok (.bipush 16, 2) := by decide +kernel
theorem dX8_takeWhole_55 : decode cX8_takeWhole 55 = .ok (.iadd, 1) := by decide +kernel
theorem dX8_takeWhole_56 : decode cX8_takeWhole 56 = .ok (.invokevirtual 96, 3) := by decide +kernel
theorem dX8_takeWhole_59 : decode cX8_takeWhole 59 = .ok (.goto (-59), 3) := by decide +kernel
theorem dX8_takeWhole_62 : decode cX8_takeWhole 62 = .ok (.iconst 1, 1) := by decide +kernel
theorem dX8_takeWhole_63 : decode cX8_takeWhole 63 = .ok (.ireturn, 1) := by decide +kernel
theorem dX8_refused_0 : decode cX8_refused 0 = .ok (.aload_n 0, 1) := by decide +kernel
theorem dX8_refused_1 : decode cX8_refused 1 = .ok (.invokevirtual 106, 3) := by decide +kernel
theorem dX8_refused_4 : decode cX8_refused 4 = .ok (.aload_n 0, 1) := by decide +kernel
theorem dX8_refused_5 : decode cX8_refused 5 = .ok (.getfield 7, 3) := by decide +kernel
theorem dX8_refused_8 : decode cX8_refused 8 = .ok (.iconst 0, 1) := by decide +kernel
theorem dX8_refused_9 : decode cX8_refused 9 = .ok (.dup2, 1) := by decide +kernel
theorem dX8_refused_10 : decode cX8_refused 10 = .ok (.iaload, 1) := by decide +kernel
theorem dX8_refused_11 : decode cX8_refused 11 = .ok (.iconst 1, 1) := by decide +kernel
theorem dX8_refused_12 : decode cX8_refused 12 = .ok (.iadd, 1) := by decide +kernel
theorem dX8_refused_13 : decode cX8_refused 13 = .ok (.iastore, 1) := by decide +kernel
theorem dX8_refused_14 : decode cX8_refused 14 = .ok (.iconst (-1), 1) := by decide +kernel
theorem dX8_refused_15 : decode cX8_refused 15 = .ok (.ireturn, 1) := by decide +kernel
theorem dX8_freeNumber_0 : decode cX8_freeNumber 0 = .ok (.iconst 0, 1) := by decide +kernel
theorem dX8_freeNumber_1 : decode cX8_freeNumber 1 = .ok (.istore_n 1, 1) := by decide +kernel
theorem dX8_freeNumber_2 : decode cX8_freeNumber 2 = .ok (.iload_n 1, 1) := by decide +kernel
theorem dX8_freeNumber_3 : decode cX8_freeNumber 3 = .ok (.bipush 10, 2) := by decide +kernel
theorem dX8_freeNumber_5 : decode cX8_freeNumber 5 = .ok (.if_icmp .ge 20, 3) := by decide +kernel
theorem dX8_freeNumber_8 : decode cX8_freeNumber 8 = .ok (.aload_n 0, 1) := by decide +kernel
theorem dX8_freeNumber_9 : decode cX8_freeNumber 9 = .ok (.iload_n 1, 1) := by decide +kernel
theorem dX8_freeNumber_10 : decode cX8_freeNumber 10 = .ok (.iconst 0, 1) := by decide +kernel
theorem dX8_freeNumber_11 : decode cX8_freeNumber 11 = .ok (.invokevirtual 49, 3) := by decide +kernel
theorem dX8_freeNumber_14 : decode cX8_freeNumber 14 = .ok (.ifCond .ne 5, 3) := by decide +kernel
theorem dX8_freeNumber_17 : decode cX8_freeNumber 17 = .ok (.iload_n 1, 1) := by decide +kernel
theorem dX8_freeNumber_18 : decode cX8_freeNumber 18 = .ok (.ireturn, 1) := by decide +kernel
theorem dX8_freeNumber_19 : decode cX8_freeNumber 19 = .ok (.iinc 1 1, 3) := by decide +kernel
theorem dX8_freeNumber_22 : decode cX8_freeNumber 22 = .ok (.goto (-20), 3) := by decide +kernel
theorem dX8_freeNumber_25 : decode cX8_freeNumber 25 = .ok (.iconst (-1), 1) := by decide +kernel
theorem dX8_freeNumber_26 : decode cX8_freeNumber 26 = .ok (.ireturn, 1) := by decide +kernel
theorem dX8_creates_0 : decode cX8_creates 0 = .ok (.aload_n 0, 1) := by decide +kernel
theorem dX8_creates_1 : decode cX8_creates 1 = .ok (.invokevirtual 109, 3) := by decide +kernel
theorem dX8_creates_4 : decode cX8_creates 4 = .ok (.istore_n 2, 1) := by decide +kernel
theorem dX8_creates_5 : decode cX8_creates 5 = .ok (.aload_n 0, 1) := by decide +kernel
theorem dX8_creates_6 : decode cX8_creates 6 = .ok (.invokevirtual 112, 3) := by decide +kernel
theorem dX8_creates_9 : decode cX8_creates 9 = .ok (.iload_n 2, 1) := by decide +kernel
theorem dX8_creates_10 : decode cX8_creates 10 = .ok (.iconst (-1), 1) := by decide +kernel
theorem dX8_creates_11 : decode cX8_creates 11 = .ok (.if_icmp .ne 8, 3) := by decide +kernel
theorem dX8_creates_14 : decode cX8_creates 14 = .ok (.aload_n 0, 1) := by decide +kernel
theorem dX8_creates_15 : decode cX8_creates 15 = .ok (.invokevirtual 115, 3) := by decide +kernel
theorem dX8_creates_18 : decode cX8_creates 18 = .ok (.ireturn, 1) := by decide +kernel
theorem dX8_creates_19 : decode cX8_creates 19 = .ok (.iconst 0, 1) := by decide +kernel
theorem dX8_creates_20 : decode cX8_creates 20 = .ok (.istore_n 3, 1) := by decide +kernel
theorem dX8_creates_21 : decode cX8_creates 21 = .ok (.iload_n 3, 1) := by decide +kernel
theorem dX8_creates_22 : decode cX8_creates 22 = .ok (.bipush 18, 2) := by decide +kernel
theorem dX8_creates_24 : decode cX8_creates 24 = .ok (.if_icmp .ge 16, 3) := by decide +kernel
theorem dX8_creates_27 : decode cX8_creates 27 = .ok (.aload_n 0, 1) := by decide +kernel
theorem dX8_creates_28 : decode cX8_creates 28 = .ok (.iload_n 2, 1) := by decide +kernel
theorem dX8_creates_29 : decode cX8_creates 29 = .ok (.iload_n 3, 1) := by decide +kernel
theorem dX8_creates_30 : decode cX8_creates 30 = .ok (.iconst 0, 1) := by decide +kernel
theorem dX8_creates_31 : decode cX8_creates 31 = .ok (.invokevirtual 96, 3) := by decide +kernel
theorem dX8_creates_34 : decode cX8_creates 34 = .ok (.iinc 3 1, 3) := by decide +kernel
theorem dX8_creates_37 : decode cX8_creates 37 = .ok (.goto (-16), 3) := by decide +kernel
theorem dX8_creates_40 : decode cX8_creates 40 = .ok (.aload_n 0, 1) := by decide +kernel
theorem dX8_creates_41 : decode cX8_creates 41 = .ok (.iload_n 2, 1) := by decide +kernel
theorem dX8_creates_42 : decode cX8_creates 42 = .ok (.iconst 0, 1) := by decide +kernel
theorem dX8_creates_43 : decode cX8_creates 43 = .ok (.iconst 1, 1) := by decide +kernel
theorem dX8_creates_44 : decode cX8_creates 44 = .ok (.invokevirtual 96, 3) := by decide +kernel
theorem dX8_creates_47 : decode cX8_creates 47 = .ok (.aload_n 0, 1) := by decide +kernel
theorem dX8_creates_48 : decode cX8_creates 48 = .ok (.iload_n 2, 1) := by decide +kernel
theorem dX8_creates_49 : decode cX8_creates 49 = .ok (.iconst 3, 1) := by decide +kernel
theorem dX8_creates_50 : decode cX8_creates 50 = .ok (.iconst (-1), 1) := by decide +kernel
theorem dX8_creates_51 : decode cX8_creates 51 = .ok (.invokevirtual 96, 3) := by decide +kernel
theorem dX8_creates_54 : decode cX8_creates 54 = .ok (.aload_n 0, 1) := by decide +kernel
theorem dX8_creates_55 : decode cX8_creates 55 = .ok (.iload_n 2, 1) := by decide +kernel
theorem dX8_creates_56 : decode cX8_creates 56 = .ok (.iconst 4, 1) := by decide +kernel
theorem dX8_creates_57 : decode cX8_creates 57 = .ok (.iconst (-1), 1) := by decide +kernel
theorem dX8_creates_58 : decode cX8_creates 58 = .ok (.invokevirtual 96, 3) := by decide +kernel
theorem dX8_creates_61 : decode cX8_creates 61 = .ok (.aload_n 0, 1) := by decide +kernel
theorem dX8_creates_62 : decode cX8_creates 62 = .ok (.iload_n 2, 1) := by decide +kernel
theorem dX8_creates_63 : decode cX8_creates 63 = .ok (.iload_n 1, 1) := by decide +kernel
theorem dX8_creates_64 : decode cX8_creates 64 = .ok (.bipush 16, 2) := by decide +kernel
theorem dX8_creates_66 : decode cX8_creates 66 = .ok (.idiv, 1) := by decide +kernel
theorem dX8_creates_67 : decode cX8_creates 67 = .ok (.invokevirtual 118, 3) := by decide +kernel
theorem dX8_creates_70 : decode cX8_creates 70 = .ok (.ifCond .eq 19, 3) := by decide +kernel
theorem dX8_creates_73 : decode cX8_creates 73 = .ok (.aload_n 0, 1) := by decide +kernel
theorem dX8_creates_74 : decode cX8_creates 74 = .ok (.iload_n 2, 1) := by decide +kernel
theorem dX8_creates_75 : decode cX8_creates 75 = .ok (.iload_n 1, 1) := by decide +kernel
theorem dX8_creates_76 : decode cX8_creates 76 = .ok (.bipush 16, 2) := by decide +kernel
theorem dX8_creates_78 : decode cX8_creates 78 = .ok (.irem, 1) := by decide +kernel
theorem dX8_creates_79 : decode cX8_creates 79 = .ok (.invokevirtual 121, 3) := by decide +kernel
theorem dX8_creates_82 : decode cX8_creates 82 = .ok (.ifCond .eq 7, 3) := by decide +kernel
theorem dX8_creates_85 : decode cX8_creates 85 = .ok (.iload_n 2, 1) := by decide +kernel
theorem dX8_creates_86 : decode cX8_creates 86 = .ok (.goto 7, 3) := by decide +kernel
theorem dX8_creates_89 : decode cX8_creates 89 = .ok (.aload_n 0, 1) := by decide +kernel
theorem dX8_creates_90 : decode cX8_creates 90 = .ok (.invokevirtual 115, 3) := by decide +kernel
theorem dX8_creates_93 : decode cX8_creates 93 = .ok (.ireturn, 1) := by decide +kernel
theorem dX8_growsInPlace_0 : decode cX8_growsInPlace 0 = .ok (.aload_n 0, 1) := by decide +kernel
theorem dX8_growsInPlace_1 : decode cX8_growsInPlace 1 = .ok (.iload_n 1, 1) := by decide +kernel
theorem dX8_growsInPlace_2 : decode cX8_growsInPlace 2 = .ok (.invokevirtual 57, 3) := by decide +kernel
theorem dX8_growsInPlace_5 : decode cX8_growsInPlace 5 = .ok (.istore_n 3, 1) := by decide +kernel
theorem dX8_growsInPlace_6 : decode cX8_growsInPlace 6 = .ok (.iload_n 3, 1) := by decide +kernel
theorem dX8_growsInPlace_7 : decode cX8_growsInPlace 7 = .ok (.ifCond .le 30, 3) := by decide +kernel
theorem dX8_growsInPlace_10 : decode cX8_growsInPlace 10 = .ok (.iload_n 3, 1) := by decide +kernel
theorem dX8_growsInPlace_11 : decode cX8_growsInPlace 11 = .ok (.iload_n 2, 1) := by decide +kernel
theorem dX8_growsInPlace_12 : decode cX8_growsInPlace 12 = .ok (.iadd, 1) := by decide +kernel
theorem dX8_growsInPlace_13 : decode cX8_growsInPlace 13 = .ok (.bipush 16, 2) := by decide +kernel
theorem dX8_growsInPlace_15 : decode cX8_growsInPlace 15 = .ok (.if_icmp .ge 22, 3) := by decide +kernel
theorem dX8_growsInPlace_18 : decode cX8_growsInPlace 18 = .ok (.aload_n 0, 1) := by decide +kernel
theorem dX8_growsInPlace_19 : decode cX8_growsInPlace 19 = .ok (.iload_n 1, 1) := by decide +kernel
theorem dX8_growsInPlace_20 : decode cX8_growsInPlace 20 = .ok (.iconst 4, 1) := by decide +kernel
theorem dX8_growsInPlace_21 : decode cX8_growsInPlace 21 = .ok (.invokevirtual 49, 3) := by decide +kernel
theorem dX8_growsInPlace_24 : decode cX8_growsInPlace 24 = .ok (.iload_n 3, 1) := by decide +kernel
theorem dX8_growsInPlace_25 : decode cX8_growsInPlace 25 = .ok (.iadd, 1) := by decide +kernel
theorem dX8_growsInPlace_26 : decode cX8_growsInPlace 26 = .ok (.iload_n 2, 1) := by decide +kernel
theorem dX8_growsInPlace_27 : decode cX8_growsInPlace 27 = .ok (.iadd, 1) := by decide +kernel
theorem dX8_growsInPlace_28 : decode cX8_growsInPlace 28 = .ok (.bipush 16, 2) := by decide +kernel
theorem dX8_growsInPlace_30 : decode cX8_growsInPlace 30 = .ok (.if_icmp .gt 7, 3) := by decide +kernel
theorem dX8_growsInPlace_33 : decode cX8_growsInPlace 33 = .ok (.iconst 1, 1) := by decide +kernel
theorem dX8_growsInPlace_34 : decode cX8_growsInPlace 34 = .ok (.goto 4, 3) := by decide +kernel
theorem dX8_growsInPlace_37 : decode cX8_growsInPlace 37 = .ok (.iconst 0, 1) := by decide +kernel
theorem dX8_growsInPlace_38 : decode cX8_growsInPlace 38 = .ok (.istore 4, 2) := by decide +kernel
theorem dX8_growsInPlace_40 : decode cX8_growsInPlace 40 = .ok (.iconst 0, 1) := by decide +kernel
theorem dX8_growsInPlace_41 : decode cX8_growsInPlace 41 = .ok (.istore 5, 2) := by decide +kernel
theorem dX8_growsInPlace_43 : decode cX8_growsInPlace 43 = .ok (.iload 5, 2) := by decide +kernel
theorem dX8_growsInPlace_45 : decode cX8_growsInPlace 45 = .ok (.iload_n 2, 1) := by decide +kernel
theorem dX8_growsInPlace_46 : decode cX8_growsInPlace 46 = .ok (.if_icmp .ge 45, 3) := by decide +kernel
theorem dX8_growsInPlace_49 : decode cX8_growsInPlace 49 = .ok (.iload 4, 2) := by decide +kernel
theorem dX8_growsInPlace_51 : decode cX8_growsInPlace 51 = .ok (.ifCond .eq 40, 3) := by decide +kernel
theorem dX8_growsInPlace_54 : decode cX8_growsInPlace 54 = .ok (.aload_n 0, 1) := by decide +kernel
theorem dX8_growsInPlace_55 : decode cX8_growsInPlace 55 = .ok (.aload_n 0, 1) := by decide +kernel
theorem dX8_growsInPlace_56 : decode cX8_growsInPlace 56 = .ok (.iload_n 1, 1) := by decide +kernel
theorem dX8_growsInPlace_57 : decode cX8_growsInPlace 57 = .ok (.iconst 3, 1) := by decide +kernel
theorem dX8_growsInPlace_58 : decode cX8_growsInPlace 58 = .ok (.invokevirtual 49, 3) := by decide +kernel
theorem dX8_growsInPlace_61 : decode cX8_growsInPlace 61 = .ok (.aload_n 0, 1) := by decide +kernel
theorem dX8_growsInPlace_62 : decode cX8_growsInPlace 62 = .ok (.iload_n 1, 1) := by decide +kernel
theorem dX8_growsInPlace_63 : decode cX8_growsInPlace 63 = .ok (.iconst 4, 1) := by decide +kernel
theorem dX8_growsInPlace_64 : decode cX8_growsInPlace 64 = .ok (.invokevirtual 49, 3) := by decide +kernel
theorem dX8_growsInPlace_67 : decode cX8_growsInPlace 67 = .ok (.iload_n 3, 1) := by decide +kernel
theorem dX8_growsInPlace_68 : decode cX8_growsInPlace 68 = .ok (.iadd, 1) := by decide +kernel
theorem dX8_growsInPlace_69 : decode cX8_growsInPlace 69 = .ok (.iload 5, 2) := by decide +kernel
theorem dX8_growsInPlace_71 : decode cX8_growsInPlace 71 = .ok (.iadd, 1) := by decide +kernel
theorem dX8_growsInPlace_72 : decode cX8_growsInPlace 72 = .ok (.invokevirtual 65, 3) := by decide +kernel
theorem dX8_growsInPlace_75 : decode cX8_growsInPlace 75 = .ok (.ifCond .ne 7, 3) := by decide +kernel
theorem dX8_growsInPlace_78 : decode cX8_growsInPlace 78 = .ok (.iconst 1, 1) := by decide +kernel
theorem dX8_growsInPlace_79 : decode cX8_growsInPlace 79 = .ok (.goto 4, 3) := by decide +kernel
theorem dX8_growsInPlace_82 : decode cX8_growsInPlace 82 = .ok (.iconst 0, 1) := by decide +kernel
theorem dX8_growsInPlace_83 : decode cX8_growsInPlace 83 = .ok (.istore 4, 2) := by decide +kernel
theorem dX8_growsInPlace_85 : decode cX8_growsInPlace 85 = .ok (.iinc 5 1, 3) := by decide +kernel
theorem dX8_growsInPlace_88 : decode cX8_growsInPlace 88 = .ok (.goto (-45), 3) := by decide +kernel
theorem dX8_growsInPlace_91 : decode cX8_growsInPlace 91 = .ok (.iload 4, 2) := by decide +kernel
theorem dX8_growsInPlace_93 : decode cX8_growsInPlace 93 = .ok (.ireturn, 1) := by decide +kernel
theorem dX8_grows_0 : decode cX8_grows 0 = .ok (.aload_n 0, 1) := by decide +kernel
theorem dX8_grows_1 : decode cX8_grows 1 = .ok (.invokevirtual 112, 3) := by decide +kernel
theorem dX8_grows_4 : decode cX8_grows 4 = .ok (.aload_n 0, 1) := by decide +kernel
theorem dX8_grows_5 : decode cX8_grows 5 = .ok (.iload_n 1, 1) := by decide +kernel
theorem dX8_grows_6 : decode cX8_grows 6 = .ok (.iconst 1, 1) := by decide +kernel
theorem dX8_grows_7 : decode cX8_grows 7 = .ok (.invokevirtual 49, 3) := by decide +kernel
theorem dX8_grows_10 : decode cX8_grows 10 = .ok (.iload_n 2, 1) := by decide +kernel
theorem dX8_grows_11 : decode cX8_grows 11 = .ok (.iadd, 1) := by decide +kernel
theorem dX8_grows_12 : decode cX8_grows 12 = .ok (.istore_n 3, 1) := by decide +kernel
theorem dX8_grows_13 : decode cX8_grows 13 = .ok (.aload_n 0, 1) := by decide +kernel
theorem dX8_grows_14 : decode cX8_grows 14 = .ok (.iload_n 1, 1) := by decide +kernel
theorem dX8_grows_15 : decode cX8_grows 15 = .ok (.iconst 2, 1) := by decide +kernel
theorem dX8_grows_16 : decode cX8_grows 16 = .ok (.invokevirtual 49, 3) := by decide +kernel
theorem dX8_grows_19 : decode cX8_grows 19 = .ok (.iconst 1, 1) := by decide +kernel
theorem dX8_grows_20 : decode cX8_grows 20 = .ok (.if_icmp .eq 10, 3) := by decide +kernel
theorem dX8_grows_23 : decode cX8_grows 23 = .ok (.iload_n 3, 1) := by decide +kernel
theorem dX8_grows_24 : decode cX8_grows 24 = .ok (.sipush 200, 3) := by decide +kernel
theorem dX8_grows_27 : decode cX8_grows 27 = .ok (.if_icmp .le 8, 3) := by decide +kernel
theorem dX8_grows_30 : decode cX8_grows 30 = .ok (.aload_n 0, 1) := by decide +kernel
theorem dX8_grows_31 : decode cX8_grows 31 = .ok (.invokevirtual 115, 3) := by decide +kernel
theorem dX8_grows_34 : decode cX8_grows 34 = .ok (.ireturn, 1) := by decide +kernel
theorem dX8_grows_35 : decode cX8_grows 35 = .ok (.aload_n 0, 1) := by decide +kernel
theorem dX8_grows_36 : decode cX8_grows 36 = .ok (.iload_n 1, 1) := by decide +kernel
theorem dX8_grows_37 : decode cX8_grows 37 = .ok (.iload_n 2, 1) := by decide +kernel
theorem dX8_grows_38 : decode cX8_grows 38 = .ok (.invokevirtual 124, 3) := by decide +kernel
theorem dX8_grows_41 : decode cX8_grows 41 = .ok (.ifCond .eq 12, 3) := by decide +kernel
theorem dX8_grows_44 : decode cX8_grows 44 = .ok (.aload_n 0, 1) := by decide +kernel
theorem dX8_grows_45 : decode cX8_grows 45 = .ok (.iload_n 1, 1) := by decide +kernel
theorem dX8_grows_46 : decode cX8_grows 46 = .ok (.iconst 1, 1) := by decide +kernel
theorem dX8_grows_47 : decode cX8_grows 47 = .ok (.iload_n 3, 1) := by decide +kernel
theorem dX8_grows_48 : decode cX8_grows 48 = .ok (.invokevirtual 96, 3) := by decide +kernel
theorem dX8_grows_51 : decode cX8_grows 51 = .ok (.iconst 0, 1) := by decide +kernel
theorem dX8_grows_52 : decode cX8_grows 52 = .ok (.ireturn, 1) := by decide +kernel
theorem dX8_grows_53 : decode cX8_grows 53 = .ok (.aload_n 0, 1) := by decide +kernel
theorem dX8_grows_54 : decode cX8_grows 54 = .ok (.iload_n 1, 1) := by decide +kernel
theorem dX8_grows_55 : decode cX8_grows 55 = .ok (.invokevirtual 127, 3) := by decide +kernel
theorem dX8_grows_58 : decode cX8_grows 58 = .ok (.aload_n 0, 1) := by decide +kernel
theorem dX8_grows_59 : decode cX8_grows 59 = .ok (.iload_n 1, 1) := by decide +kernel
theorem dX8_grows_60 : decode cX8_grows 60 = .ok (.iload_n 3, 1) := by decide +kernel
theorem dX8_grows_61 : decode cX8_grows 61 = .ok (.bipush 16, 2) := by decide +kernel
theorem dX8_grows_63 : decode cX8_grows 63 = .ok (.idiv, 1) := by decide +kernel
theorem dX8_grows_64 : decode cX8_grows 64 = .ok (.invokevirtual 118, 3) := by decide +kernel
theorem dX8_grows_67 : decode cX8_grows 67 = .ok (.ifCond .eq 19, 3) := by decide +kernel
theorem dX8_grows_70 : decode cX8_grows 70 = .ok (.aload_n 0, 1) := by decide +kernel
theorem dX8_grows_71 : decode cX8_grows 71 = .ok (.iload_n 1, 1) := by decide +kernel
theorem dX8_grows_72 : decode cX8_grows 72 = .ok (.iload_n 3, 1) := by decide +kernel
theorem dX8_grows_73 : decode cX8_grows 73 = .ok (.bipush 16, 2) := by decide +kernel
theorem dX8_grows_75 : decode cX8_grows 75 = .ok (.irem, 1) := by decide +kernel
theorem dX8_grows_76 : decode cX8_grows 76 = .ok (.invokevirtual 121, 3) := by decide +kernel
theorem dX8_grows_79 : decode cX8_grows 79 = .ok (.ifCond .eq 7, 3) := by decide +kernel
theorem dX8_grows_82 : decode cX8_grows 82 = .ok (.iconst 1, 1) := by decide +kernel
theorem dX8_grows_83 : decode cX8_grows 83 = .ok (.goto 7, 3) := by decide +kernel
theorem dX8_grows_86 : decode cX8_grows 86 = .ok (.aload_n 0, 1) := by decide +kernel
theorem dX8_grows_87 : decode cX8_grows 87 = .ok (.invokevirtual 115, 3) := by decide +kernel
theorem dX8_grows_90 : decode cX8_grows 90 = .ok (.ireturn, 1) := by decide +kernel
theorem dX8_cuts_0 : decode cX8_cuts 0 = .ok (.aload_n 0, 1) := by decide +kernel
theorem dX8_cuts_1 : decode cX8_cuts 1 = .ok (.invokevirtual 112, 3) := by decide +kernel
theorem dX8_cuts_4 : decode cX8_cuts 4 = .ok (.aload_n 0, 1) := by decide +kernel
theorem dX8_cuts_5 : decode cX8_cuts 5 = .ok (.iload_n 1, 1) := by decide +kernel
theorem dX8_cuts_6 : decode cX8_cuts 6 = .ok (.iconst 1, 1) := by decide +kernel
theorem dX8_cuts_7 : decode cX8_cuts 7 = .ok (.invokevirtual 49, 3) := by decide +kernel
theorem dX8_cuts_10 : decode cX8_cuts 10 = .ok (.iload_n 2, 1) := by decide +kernel
theorem dX8_cuts_11 : decode cX8_cuts 11 = .ok (.isub, 1) := by decide +kernel
theorem dX8_cuts_12 : decode cX8_cuts 12 = .ok (.istore_n 3, 1) := by decide +kernel
theorem dX8_cuts_13 : decode cX8_cuts 13 = .ok (.aload_n 0, 1) := by decide +kernel
theorem dX8_cuts_14 : decode cX8_cuts 14 = .ok (.iload_n 1, 1) := by decide +kernel
theorem dX8_cuts_15 : decode cX8_cuts 15 = .ok (.iconst 2, 1) := by decide +kernel
theorem dX8_cuts_16 : decode cX8_cuts 16 = .ok (.invokevirtual 49, 3) := by decide +kernel
theorem dX8_cuts_19 : decode cX8_cuts 19 = .ok (.iconst 1, 1) := by decide +kernel
theorem dX8_cuts_20 : decode cX8_cuts 20 = .ok (.if_icmp .eq 7, 3) := by decide +kernel
theorem dX8_cuts_23 : decode cX8_cuts 23 = .ok (.iload_n 3, 1) := by decide +kernel
theorem dX8_cuts_24 : decode cX8_cuts 24 = .ok (.ifCond .ge 8, 3) := by decide +kernel
theorem dX8_cuts_27 : decode cX8_cuts 27 = .ok (.aload_n 0, 1) := by decide +kernel
theorem dX8_cuts_28 : decode cX8_cuts 28 = .ok (.invokevirtual 115, 3) := by decide +kernel
theorem dX8_cuts_31 : decode cX8_cuts 31 = .ok (.ireturn, 1) := by decide +kernel
theorem dX8_cuts_32 : decode cX8_cuts 32 = .ok (.iload_n 3, 1) := by decide +kernel
theorem dX8_cuts_33 : decode cX8_cuts 33 = .ok (.bipush 16, 2) := by decide +kernel
theorem dX8_cuts_35 : decode cX8_cuts 35 = .ok (.idiv, 1) := by decide +kernel
theorem dX8_cuts_36 : decode cX8_cuts 36 = .ok (.aload_n 0, 1) := by decide +kernel
theorem dX8_cuts_37 : decode cX8_cuts 37 = .ok (.iload_n 1, 1) := by decide +kernel
theorem dX8_cuts_38 : decode cX8_cuts 38 = .ok (.invokevirtual 93, 3) := by decide +kernel
theorem dX8_cuts_41 : decode cX8_cuts 41 = .ok (.if_icmp .ne 49, 3) := by decide +kernel
theorem dX8_cuts_44 : decode cX8_cuts 44 = .ok (.aload_n 0, 1) := by decide +kernel
theorem dX8_cuts_45 : decode cX8_cuts 45 = .ok (.iload_n 1, 1) := by decide +kernel
theorem dX8_cuts_46 : decode cX8_cuts 46 = .ok (.iconst 3, 1) := by decide +kernel
theorem dX8_cuts_47 : decode cX8_cuts 47 = .ok (.invokevirtual 49, 3) := by decide +kernel
theorem dX8_cuts_50 : decode cX8_cuts 50 = .ok (.istore 4, 2) := by decide +kernel
theorem dX8_cuts_52 : decode cX8_cuts 52 = .ok (.aload_n 0, 1) := by decide +kernel
theorem dX8_cuts_53 : decode cX8_cuts 53 = .ok (.iload_n 1, 1) := by decide +kernel
theorem dX8_cuts_54 : decode cX8_cuts 54 = .ok (.iconst 1, 1) := by decide +kernel
theorem dX8_cuts_55 : decode cX8_cuts 55 = .ok (.iload_n 3, 1) := by decide +kernel
theorem dX8_cuts_56 : decode cX8_cuts 56 = .ok (.invokevirtual 96, 3) := by decide +kernel
theorem dX8_cuts_59 : decode cX8_cuts 59 = .ok (.iload_n 3, 1) := by decide +kernel
theorem dX8_cuts_60 : decode cX8_cuts 60 = .ok (.bipush 16, 2) := by decide +kernel
theorem dX8_cuts_62 : decode cX8_cuts 62 = .ok (.irem, 1) := by decide +kernel
theorem dX8_cuts_63 : decode cX8_cuts 63 = .ok (.ifCond .ne 25, 3) := by decide +kernel
theorem dX8_cuts_66 : decode cX8_cuts 66 = .ok (.aload_n 0, 1) := by decide +kernel
theorem dX8_cuts_67 : decode cX8_cuts 67 = .ok (.iload_n 1, 1) := by decide +kernel
theorem dX8_cuts_68 : decode cX8_cuts 68 = .ok (.iconst 3, 1) := by decide +kernel
theorem dX8_cuts_69 : decode cX8_cuts 69 = .ok (.iconst (-1), 1) := by decide +kernel
theorem dX8_cuts_70 : decode cX8_cuts 70 = .ok (.invokevirtual 96, 3) := by decide +kernel
theorem dX8_cuts_73 : decode cX8_cuts 73 = .ok (.aload_n 0, 1) := by decide +kernel
theorem dX8_cuts_74 : decode cX8_cuts 74 = .ok (.iload_n 1, 1) := by decide +kernel
theorem dX8_cuts_75 : decode cX8_cuts 75 = .ok (.iconst 4, 1) := by decide +kernel
theorem dX8_cuts_76 : decode cX8_cuts 76 = .ok (.iconst (-1), 1) := by decide +kernel
theorem dX8_cuts_77 : decode cX8_cuts 77 = .ok (.invokevirtual 96, 3) := by decide +kernel
theorem dX8_cuts_80 : decode cX8_cuts 80 = .ok (.aload_n 0, 1) := by decide +kernel
theorem dX8_cuts_81 : decode cX8_cuts 81 = .ok (.iload 4, 2) := by decide +kernel
theorem dX8_cuts_83 : decode cX8_cuts 83 = .ok (.invokevirtual 100, 3) := by decide +kernel
theorem dX8_cuts_86 : decode cX8_cuts 86 = .ok (.istore 5, 2) := by decide +kernel
theorem dX8_cuts_88 : decode cX8_cuts 88 = .ok (.iload_n 3, 1) := by decide +kernel
theorem dX8_cuts_89 : decode cX8_cuts 89 = .ok (.ireturn, 1) := by decide +kernel
theorem dX8_cuts_90 : decode cX8_cuts 90 = .ok (.aload_n 0, 1) := by decide +kernel
theorem dX8_cuts_91 : decode cX8_cuts 91 = .ok (.iload_n 1, 1) := by decide +kernel
theorem dX8_cuts_92 : decode cX8_cuts 92 = .ok (.invokevirtual 127, 3) := by decide +kernel
theorem dX8_cuts_95 : decode cX8_cuts 95 = .ok (.aload_n 0, 1) := by decide +kernel
theorem dX8_cuts_96 : decode cX8_cuts 96 = .ok (.iload_n 1, 1) := by decide +kernel
theorem dX8_cuts_97 : decode cX8_cuts 97 = .ok (.invokevirtual 93, 3) := by decide +kernel
theorem dX8_cuts_100 : decode cX8_cuts 100 = .ok (.iload_n 3, 1) := by decide +kernel
theorem dX8_cuts_101 : decode cX8_cuts 101 = .ok (.bipush 16, 2) := by decide +kernel
theorem dX8_cuts_103 : decode cX8_cuts 103 = .ok (.idiv, 1) := by decide +kernel
theorem dX8_cuts_104 : decode cX8_cuts 104 = .ok (.if_icmp .le 44, 3) := by decide +kernel
theorem dX8_cuts_107 : decode cX8_cuts 107 = .ok (.aload_n 0, 1) := by decide +kernel
theorem dX8_cuts_108 : decode cX8_cuts 108 = .ok (.getfield 7, 3) := by decide +kernel
theorem dX8_cuts_111 : decode cX8_cuts 111 = .ok (.iconst 3, 1) := by decide +kernel
theorem dX8_cuts_112 : decode cX8_cuts 112 = .ok (.aload_n 0, 1) := by decide +kernel
theorem dX8_cuts_113 : decode cX8_cuts 113 = .ok (.iload_n 1, 1) := by decide +kernel
theorem dX8_cuts_114 : decode cX8_cuts 114 = .ok (.bipush 6, 2) := by decide +kernel
theorem dX8_cuts_116 : decode cX8_cuts 116 = .ok (.aload_n 0, 1) := by decide +kernel
theorem dX8_cuts_117 : decode cX8_cuts 117 = .ok (.iload_n 1, 1) := by decide +kernel
theorem dX8_cuts_118 : decode cX8_cuts 118 = .ok (.invokevirtual 93, 3) := by decide +kernel
theorem dX8_cuts_121 : decode cX8_cuts 121 = .ok (.iadd, 1) := by decide +kernel
theorem dX8_cuts_122 : decode cX8_cuts 122 = .ok (.iconst 1, 1) := by decide +kernel
theorem dX8_cuts_123 : decode cX8_cuts 123 = .ok (.isub, 1) := by decide +kernel
theorem dX8_cuts_124 : decode cX8_cuts 124 = .ok (.invokevirtual 49, 3) := by decide +kernel
theorem dX8_cuts_127 : decode cX8_cuts 127 = .ok (.iadd, 1) := by decide +kernel
theorem dX8_cuts_128 : decode cX8_cuts 128 = .ok (.iconst 0, 1) := by decide +kernel
theorem dX8_cuts_129 : decode cX8_cuts 129 = .ok (.iastore, 1) := by decide +kernel
theorem dX8_cuts_130 : decode cX8_cuts 130 = .ok (.aload_n 0, 1) := by decide +kernel
theorem dX8_cuts_131 : decode cX8_cuts 131 = .ok (.iload_n 1, 1) := by decide +kernel
theorem dX8_cuts_132 : decode cX8_cuts 132 = .ok (.iconst 1, 1) := by decide +kernel
theorem dX8_cuts_133 : decode cX8_cuts 133 = .ok (.aload_n 0, 1) := by decide +kernel
theorem dX8_cuts_134 : decode cX8_cuts 134 = .ok (.iload_n 1, 1) := by decide +kernel
theorem dX8_cuts_135 : decode cX8_cuts 135 = .ok (.iconst 1, 1) := by decide +kernel
theorem dX8_cuts_136 : decode cX8_cuts 136 = .ok (.invokevirtual 49, 3) := by decide +kernel
theorem dX8_cuts_139 : decode cX8_cuts 139 = .ok (.bipush 16, 2) := by decide +kernel
theorem dX8_cuts_141 : decode cX8_cuts 141 = .ok (.isub, 1) := by decide +kernel
theorem dX8_cuts_142 : decode cX8_cuts 142 = .ok (.invokevirtual 96, 3) := by decide +kernel
theorem dX8_cuts_145 : decode cX8_cuts 145 = .ok (.goto (-50), 3) := by decide +kernel
theorem dX8_cuts_148 : decode cX8_cuts 148 = .ok (.aload_n 0, 1) := by decide +kernel
theorem dX8_cuts_149 : decode cX8_cuts 149 = .ok (.iload_n 1, 1) := by decide +kernel
theorem dX8_cuts_150 : decode cX8_cuts 150 = .ok (.iload_n 3, 1) := by decide +kernel
theorem dX8_cuts_151 : decode cX8_cuts 151 = .ok (.bipush 16, 2) := by decide +kernel
theorem dX8_cuts_153 : decode cX8_cuts 153 = .ok (.irem, 1) := by decide +kernel
theorem dX8_cuts_154 : decode cX8_cuts 154 = .ok (.invokevirtual 121, 3) := by decide +kernel
theorem dX8_cuts_157 : decode cX8_cuts 157 = .ok (.ifCond .eq 7, 3) := by decide +kernel
theorem dX8_cuts_160 : decode cX8_cuts 160 = .ok (.iload_n 3, 1) := by decide +kernel
theorem dX8_cuts_161 : decode cX8_cuts 161 = .ok (.goto 7, 3) := by decide +kernel
theorem dX8_cuts_164 : decode cX8_cuts 164 = .ok (.aload_n 0, 1) := by decide +kernel
theorem dX8_cuts_165 : decode cX8_cuts 165 = .ok (.invokevirtual 115, 3) := by decide +kernel
theorem dX8_cuts_168 : decode cX8_cuts 168 = .ok (.ireturn, 1) := by decide +kernel
theorem dX8_deletes_0 : decode cX8_deletes 0 = .ok (.iconst 0, 1) := by decide +kernel
theorem dX8_deletes_1 : decode cX8_deletes 1 = .ok (.istore_n 2, 1) := by decide +kernel
theorem dX8_deletes_2 : decode cX8_deletes 2 = .ok (.iconst 0, 1) := by decide +kernel
theorem dX8_deletes_3 : decode cX8_deletes 3 = .ok (.istore_n 3, 1) := by decide +kernel
theorem dX8_deletes_4 : decode cX8_deletes 4 = .ok (.iload_n 3, 1) := by decide +kernel
theorem dX8_deletes_5 : decode cX8_deletes 5 = .ok (.aload_n 0, 1) := by decide +kernel
theorem dX8_deletes_6 : decode cX8_deletes 6 = .ok (.iload_n 1, 1) := by decide +kernel
theorem dX8_deletes_7 : decode cX8_deletes 7 = .ok (.invokevirtual 93, 3) := by decide +kernel
theorem dX8_deletes_10 : decode cX8_deletes 10 = .ok (.if_icmp .ge 76, 3) := by decide +kernel
theorem dX8_deletes_13 : decode cX8_deletes 13 = .ok (.aload_n 0, 1) := by decide +kernel
theorem dX8_deletes_14 : decode cX8_deletes 14 = .ok (.iload_n 1, 1) := by decide +kernel
theorem dX8_deletes_15 : decode cX8_deletes 15 = .ok (.bipush 6, 2) := by decide +kernel
theorem dX8_deletes_17 : decode cX8_deletes 17 = .ok (.iload_n 3, 1) := by decide +kernel
theorem dX8_deletes_18 : decode cX8_deletes 18 = .ok (.iadd, 1) := by decide +kernel
theorem dX8_deletes_19 : decode cX8_deletes 19 = .ok (.invokevirtual 49, 3) := by decide +kernel
theorem dX8_deletes_22 : decode cX8_deletes 22 = .ok (.istore 4, 2) := by decide +kernel
theorem dX8_deletes_24 : decode cX8_deletes 24 = .ok (.iload_n 2, 1) := by decide +kernel
theorem dX8_deletes_25 : decode cX8_deletes 25 = .ok (.aload_n 0, 1) := by decide +kernel
theorem dX8_deletes_26 : decode cX8_deletes 26 = .ok (.getfield 7, 3) := by decide +kernel
theorem dX8_deletes_29 : decode cX8_deletes 29 = .ok (.iconst 3, 1) := by decide +kernel
theorem dX8_deletes_30 : decode cX8_deletes 30 = .ok (.iload 4, 2) := by decide +kernel
theorem dX8_deletes_32 : decode cX8_deletes 32 = .ok (.iadd, 1) := by decide +kernel
theorem dX8_deletes_33 : decode cX8_deletes 33 = .ok (.iaload, 1) := by decide +kernel
theorem dX8_deletes_34 : decode cX8_deletes 34 = .ok (.iconst 1, 1) := by decide +kernel
theorem dX8_deletes_35 : decode cX8_deletes 35 = .ok (.if_icmp .ne 7, 3) := by decide +kernel
theorem dX8_deletes_38 : decode cX8_deletes 38 = .ok (.iconst 1, 1) := by decide +kernel
theorem dX8_deletes_39 : decode cX8_deletes 39 = .ok (.goto 4, 3) := by decide +kernel
theorem dX8_deletes_42 : decode cX8_deletes 42 = .ok (.iconst 0, 1) := by decide +kernel
theorem dX8_deletes_43 : decode cX8_deletes 43 = .ok (.iadd, 1) := by decide +kernel
theorem dX8_deletes_44 : decode cX8_deletes 44 = .ok (.istore_n 2, 1) := by decide +kernel
theorem dX8_deletes_45 : decode cX8_deletes 45 = .ok (.aload_n 0, 1) := by decide +kernel
theorem dX8_deletes_46 : decode cX8_deletes 46 = .ok (.getfield 7, 3) := by decide +kernel
theorem dX8_deletes_49 : decode cX8_deletes 49 = .ok (.iconst 3, 1) := by decide +kernel
theorem dX8_deletes_50 : decode cX8_deletes 50 = .ok (.iload 4, 2) := by decide +kernel
theorem dX8_deletes_52 : decode cX8_deletes 52 = .ok (.iadd, 1) := by decide +kernel
theorem dX8_deletes_53 : decode cX8_deletes 53 = .ok (.aload_n 0, 1) := by decide +kernel
theorem dX8_deletes_54 : decode cX8_deletes 54 = .ok (.getfield 7, 3) := by decide +kernel
theorem dX8_deletes_57 : decode cX8_deletes 57 = .ok (.iconst 3, 1) := by decide +kernel
theorem dX8_deletes_58 : decode cX8_deletes 58 = .ok (.iload 4, 2) := by decide +kernel
theorem dX8_deletes_60 : decode cX8_deletes 60 = .ok (.iadd, 1) := by decide +kernel
theorem dX8_deletes_61 : decode cX8_deletes 61 = .ok (.iaload, 1) := by decide +kernel
theorem dX8_deletes_62 : decode cX8_deletes 62 = .ok (.iconst 1, 1) := by decide +kernel
theorem dX8_deletes_63 : decode cX8_deletes 63 = .ok (.if_icmp .ne 7, 3) := by decide +kernel
theorem dX8_deletes_66 : decode cX8_deletes 66 = .ok (.iconst 0, 1) := by decide +kernel
theorem dX8_deletes_67 : decode cX8_deletes 67 = .ok (.goto 12, 3) := by decide +kernel
theorem dX8_deletes_70 : decode cX8_deletes 70 = .ok (.aload_n 0, 1) := by decide +kernel
theorem dX8_deletes_71 : decode cX8_deletes 71 = .ok (.getfield 7, 3) := by decide +kernel
theorem dX8_deletes_74 : decode cX8_deletes 74 = .ok (.iconst 3, 1) := by decide +kernel
theorem dX8_deletes_75 : decode cX8_deletes 75 = .ok (.iload 4, 2) := by decide +kernel
theorem dX8_deletes_77 : decode cX8_deletes 77 = .ok (.iadd, 1) := by decide +kernel
theorem dX8_deletes_78 : decode cX8_deletes 78 = .ok (.iaload, 1) := by decide +kernel
theorem dX8_deletes_79 : decode cX8_deletes 79 = .ok (.iastore, 1) := by decide +kernel
theorem dX8_deletes_80 : decode cX8_deletes 80 = .ok (.iinc 3 1, 3) := by decide +kernel
theorem dX8_deletes_83 : decode cX8_deletes 83 = .ok (.goto (-79), 3) := by decide +kernel
theorem dX8_deletes_86 : decode cX8_deletes 86 = .ok (.aload_n 0, 1) := by decide +kernel
theorem dX8_deletes_87 : decode cX8_deletes 87 = .ok (.iload_n 1, 1) := by decide +kernel
theorem dX8_deletes_88 : decode cX8_deletes 88 = .ok (.invokevirtual 57, 3) := by decide +kernel
theorem dX8_deletes_91 : decode cX8_deletes 91 = .ok (.ifCond .le 12, 3) := by decide +kernel
theorem dX8_deletes_94 : decode cX8_deletes 94 = .ok (.aload_n 0, 1) := by decide +kernel
theorem dX8_deletes_95 : decode cX8_deletes 95 = .ok (.iload_n 1, 1) := by decide +kernel
theorem dX8_deletes_96 : decode cX8_deletes 96 = .ok (.iconst 3, 1) := by decide +kernel
theorem dX8_deletes_97 : decode cX8_deletes 97 = .ok (.invokevirtual 49, 3) := by decide +kernel
theorem dX8_deletes_100 : decode cX8_deletes 100 = .ok (.goto 4, 3) := by decide +kernel
theorem dX8_deletes_103 : decode cX8_deletes 103 = .ok (.iconst (-1), 1) := by decide +kernel
theorem dX8_deletes_104 : decode cX8_deletes 104 = .ok (.istore_n 3, 1) := by decide +kernel
theorem dX8_deletes_105 : decode cX8_deletes 105 = .ok (.iconst 0, 1) := by decide +kernel
theorem dX8_deletes_106 : decode cX8_deletes 106 = .ok (.istore 4, 2) := by decide +kernel
theorem dX8_deletes_108 : decode cX8_deletes 108 = .ok (.iload 4, 2) := by decide +kernel
theorem dX8_deletes_110 : decode cX8_deletes 110 = .ok (.bipush 18, 2) := by decide +kernel
theorem dX8_deletes_112 : decode cX8_deletes 112 = .ok (.if_icmp .ge 17, 3) := by decide +kernel
theorem dX8_deletes_115 : decode cX8_deletes 115 = .ok (.aload_n 0, 1) := by decide +kernel
theorem dX8_deletes_116 : decode cX8_deletes 116 = .ok (.iload_n 1, 1) := by decide +kernel
theorem dX8_deletes_117 : decode cX8_deletes 117 = .ok (.iload 4, 2) := by decide +kernel
theorem dX8_deletes_119 : decode cX8_deletes 119 = .ok (.iconst 0, 1) := by decide +kernel
theorem dX8_deletes_120 : decode cX8_deletes 120 = .ok (.invokevirtual 96, 3) := by decide +kernel
theorem dX8_deletes_123 : decode cX8_deletes 123 = .ok (.iinc 4 1, 3) := by decide +kernel
theorem dX8_deletes_126 : decode cX8_deletes 126 = .ok (.goto (-18), 3) := by decide +kernel
theorem dX8_deletes_129 : decode cX8_deletes 129 = .ok (.iload_n 2, 1) := by decide +kernel
theorem dX8_deletes_130 : decode cX8_deletes 130 = .ok (.iload_n 3, 1) := by decide +kernel
theorem dX8_deletes_131 : decode cX8_deletes 131 = .ok (.iconst (-1), 1) := by decide +kernel
theorem dX8_deletes_132 : decode cX8_deletes 132 = .ok (.if_icmp .ne 7, 3) := by decide +kernel
theorem dX8_deletes_135 : decode cX8_deletes 135 = .ok (.iconst 0, 1) := by decide +kernel
theorem dX8_deletes_136 : decode cX8_deletes 136 = .ok (.goto 8, 3) := by decide +kernel
theorem dX8_deletes_139 : decode cX8_deletes 139 = .ok (.aload_n 0, 1) := by decide +kernel
theorem dX8_deletes_140 : decode cX8_deletes 140 = .ok (.iload_n 3, 1) := by decide +kernel
theorem dX8_deletes_141 : decode cX8_deletes 141 = .ok (.invokevirtual 100, 3) := by decide +kernel
theorem dX8_deletes_144 : decode cX8_deletes 144 = .ok (.iadd, 1) := by decide +kernel
theorem dX8_deletes_145 : decode cX8_deletes 145 = .ok (.ireturn, 1) := by decide +kernel
theorem dX8_create_0 : decode cX8_create 0 = .ok (.aload_n 0, 1) := by decide +kernel
theorem dX8_create_1 : decode cX8_create 1 = .ok (.iconst 0, 1) := by decide +kernel
theorem dX8_create_2 : decode cX8_create 2 = .ok (.putfield 41, 3) := by decide +kernel
theorem dX8_create_5 : decode cX8_create 5 = .ok (.iload_n 1, 1) := by decide +kernel
theorem dX8_create_6 : decode cX8_create 6 = .ok (.iconst 0, 1) := by decide +kernel
theorem dX8_create_7 : decode cX8_create 7 = .ok (.sipush 200, 3) := by decide +kernel
theorem dX8_create_10 : decode cX8_create 10 = .ok (.invokestatic 45, 3) := by decide +kernel
theorem dX8_create_13 : decode cX8_create 13 = .ok (.ifCond .ne 9, 3) := by decide +kernel
theorem dX8_create_16 : decode cX8_create 16 = .ok (.aload_n 0, 1) := by decide +kernel
theorem dX8_create_17 : decode cX8_create 17 = .ok (.iconst 1, 1) := by decide +kernel
theorem dX8_create_18 : decode cX8_create 18 = .ok (.invokevirtual 81, 3) := by decide +kernel
theorem dX8_create_21 : decode cX8_create 21 = .ok (.ireturn, 1) := by decide +kernel
theorem dX8_create_22 : decode cX8_create 22 = .ok (.aload_n 0, 1) := by decide +kernel
theorem dX8_create_23 : decode cX8_create 23 = .ok (.invokevirtual 87, 3) := by decide +kernel
theorem dX8_create_26 : decode cX8_create 26 = .ok (.aload_n 0, 1) := by decide +kernel
theorem dX8_create_27 : decode cX8_create 27 = .ok (.iload_n 1, 1) := by decide +kernel
theorem dX8_create_28 : decode cX8_create 28 = .ok (.invokevirtual 131, 3) := by decide +kernel
theorem dX8_create_31 : decode cX8_create 31 = .ok (.ireturn, 1) := by decide +kernel
theorem dX8_grow_0 : decode cX8_grow 0 = .ok (.aload_n 0, 1) := by decide +kernel
theorem dX8_grow_1 : decode cX8_grow 1 = .ok (.iconst 0, 1) := by decide +kernel
theorem dX8_grow_2 : decode cX8_grow 2 = .ok (.putfield 41, 3) := by decide +kernel
theorem dX8_grow_5 : decode cX8_grow 5 = .ok (.aload_n 0, 1) := by decide +kernel
theorem dX8_grow_6 : decode cX8_grow 6 = .ok (.iload_n 1, 1) := by decide +kernel
theorem dX8_grow_7 : decode cX8_grow 7 = .ok (.invokevirtual 53, 3) := by decide +kernel
theorem dX8_grow_10 : decode cX8_grow 10 = .ok (.ifCond .ne 9, 3) := by decide +kernel
theorem dX8_grow_13 : decode cX8_grow 13 = .ok (.aload_n 0, 1) := by decide +kernel
theorem dX8_grow_14 : decode cX8_grow 14 = .ok (.iconst 1, 1) := by decide +kernel
theorem dX8_grow_15 : decode cX8_grow 15 = .ok (.invokevirtual 81, 3) := by decide +kernel
theorem dX8_grow_18 : decode cX8_grow 18 = .ok (.ireturn, 1) := by decide +kernel
theorem dX8_grow_19 : decode cX8_grow 19 = .ok (.iload_n 2, 1) := by decide +kernel
theorem dX8_grow_20 : decode cX8_grow 20 = .ok (.iconst 1, 1) := by decide +kernel
theorem dX8_grow_21 : decode cX8_grow 21 = .ok (.sipush 200, 3) := by decide +kernel
theorem dX8_grow_24 : decode cX8_grow 24 = .ok (.invokestatic 45, 3) := by decide +kernel
theorem dX8_grow_27 : decode cX8_grow 27 = .ok (.ifCond .ne 9, 3) := by decide +kernel
theorem dX8_grow_30 : decode cX8_grow 30 = .ok (.aload_n 0, 1) := by decide +kernel
theorem dX8_grow_31 : decode cX8_grow 31 = .ok (.iconst 2, 1) := by decide +kernel
theorem dX8_grow_32 : decode cX8_grow 32 = .ok (.invokevirtual 81, 3) := by decide +kernel
theorem dX8_grow_35 : decode cX8_grow 35 = .ok (.ireturn, 1) := by decide +kernel
theorem dX8_grow_36 : decode cX8_grow 36 = .ok (.aload_n 0, 1) := by decide +kernel
theorem dX8_grow_37 : decode cX8_grow 37 = .ok (.invokevirtual 87, 3) := by decide +kernel
theorem dX8_grow_40 : decode cX8_grow 40 = .ok (.aload_n 0, 1) := by decide +kernel
theorem dX8_grow_41 : decode cX8_grow 41 = .ok (.iload_n 1, 1) := by decide +kernel
theorem dX8_grow_42 : decode cX8_grow 42 = .ok (.iload_n 2, 1) := by decide +kernel
theorem dX8_grow_43 : decode cX8_grow 43 = .ok (.invokevirtual 134, 3) := by decide +kernel
theorem dX8_grow_46 : decode cX8_grow 46 = .ok (.ireturn, 1) := by decide +kernel
theorem dX8_cut_0 : decode cX8_cut 0 = .ok (.aload_n 0, 1) := by decide +kernel
theorem dX8_cut_1 : decode cX8_cut 1 = .ok (.iconst 0, 1) := by decide +kernel
theorem dX8_cut_2 : decode cX8_cut 2 = .ok (.putfield 41, 3) := by decide +kernel
theorem dX8_cut_5 : decode cX8_cut 5 = .ok (.aload_n 0, 1) := by decide +kernel
theorem dX8_cut_6 : decode cX8_cut 6 = .ok (.iload_n 1, 1) := by decide +kernel
theorem dX8_cut_7 : decode cX8_cut 7 = .ok (.invokevirtual 53, 3) := by decide +kernel
theorem dX8_cut_10 : decode cX8_cut 10 = .ok (.ifCond .ne 9, 3) := by decide +kernel
theorem dX8_cut_13 : decode cX8_cut 13 = .ok (.aload_n 0, 1) := by decide +kernel
theorem dX8_cut_14 : decode cX8_cut 14 = .ok (.iconst 1, 1) := by decide +kernel
theorem dX8_cut_15 : decode cX8_cut 15 = .ok (.invokevirtual 81, 3) := by decide +kernel
theorem dX8_cut_18 : decode cX8_cut 18 = .ok (.ireturn, 1) := by decide +kernel
theorem dX8_cut_19 : decode cX8_cut 19 = .ok (.iload_n 2, 1) := by decide +kernel
theorem dX8_cut_20 : decode cX8_cut 20 = .ok (.iconst 1, 1) := by decide +kernel
theorem dX8_cut_21 : decode cX8_cut 21 = .ok (.sipush 200, 3) := by decide +kernel
theorem dX8_cut_24 : decode cX8_cut 24 = .ok (.invokestatic 45, 3) := by decide +kernel
theorem dX8_cut_27 : decode cX8_cut 27 = .ok (.ifCond .ne 9, 3) := by decide +kernel
theorem dX8_cut_30 : decode cX8_cut 30 = .ok (.aload_n 0, 1) := by decide +kernel
theorem dX8_cut_31 : decode cX8_cut 31 = .ok (.iconst 2, 1) := by decide +kernel
theorem dX8_cut_32 : decode cX8_cut 32 = .ok (.invokevirtual 81, 3) := by decide +kernel
theorem dX8_cut_35 : decode cX8_cut 35 = .ok (.ireturn, 1) := by decide +kernel
theorem dX8_cut_36 : decode cX8_cut 36 = .ok (.aload_n 0, 1) := by decide +kernel
theorem dX8_cut_37 : decode cX8_cut 37 = .ok (.invokevirtual 87, 3) := by decide +kernel
theorem dX8_cut_40 : decode cX8_cut 40 = .ok (.aload_n 0, 1) := by decide +kernel
theorem dX8_cut_41 : decode cX8_cut 41 = .ok (.iload_n 1, 1) := by decide +kernel
theorem dX8_cut_42 : decode cX8_cut 42 = .ok (.iload_n 2, 1) := by decide +kernel
theorem dX8_cut_43 : decode cX8_cut 43 = .ok (.invokevirtual 137, 3) := by decide +kernel
theorem dX8_cut_46 : decode cX8_cut 46 = .ok (.ireturn, 1) := by decide +kernel
theorem dX8_delete_0 : decode cX8_delete 0 = .ok (.aload_n 0, 1) := by decide +kernel
theorem dX8_delete_1 : decode cX8_delete 1 = .ok (.iconst 0, 1) := by decide +kernel
theorem dX8_delete_2 : decode cX8_delete 2 = .ok (.putfield 41, 3) := by decide +kernel
theorem dX8_delete_5 : decode cX8_delete 5 = .ok (.aload_n 0, 1) := by decide +kernel
theorem dX8_delete_6 : decode cX8_delete 6 = .ok (.iload_n 1, 1) := by decide +kernel
theorem dX8_delete_7 : decode cX8_delete 7 = .ok (.invokevirtual 53, 3) := by decide +kernel
theorem dX8_delete_10 : decode cX8_delete 10 = .ok (.ifCond .ne 9, 3) := by decide +kernel
theorem dX8_delete_13 : decode cX8_delete 13 = .ok (.aload_n 0, 1) := by decide +kernel
theorem dX8_delete_14 : decode cX8_delete 14 = .ok (.iconst 1, 1) := by decide +kernel
theorem dX8_delete_15 : decode cX8_delete 15 = .ok (.invokevirtual 81, 3) := by decide +kernel
theorem dX8_delete_18 : decode cX8_delete 18 = .ok (.ireturn, 1) := by decide +kernel
theorem dX8_delete_19 : decode cX8_delete 19 = .ok (.aload_n 0, 1) := by decide +kernel
theorem dX8_delete_20 : decode cX8_delete 20 = .ok (.invokevirtual 87, 3) := by decide +kernel
theorem dX8_delete_23 : decode cX8_delete 23 = .ok (.aload_n 0, 1) := by decide +kernel
theorem dX8_delete_24 : decode cX8_delete 24 = .ok (.iload_n 1, 1) := by decide +kernel
theorem dX8_delete_25 : decode cX8_delete 25 = .ok (.invokevirtual 140, 3) := by decide +kernel
theorem dX8_delete_28 : decode cX8_delete 28 = .ok (.ireturn, 1) := by decide +kernel
theorem dX8_hasIn_0 : decode cX8_hasIn 0 = .ok (.aload_n 0, 1) := by decide +kernel
theorem dX8_hasIn_1 : decode cX8_hasIn 1 = .ok (.iload_n 1, 1) := by decide +kernel
theorem dX8_hasIn_2 : decode cX8_hasIn 2 = .ok (.iload_n 2, 1) := by decide +kernel
theorem dX8_hasIn_3 : decode cX8_hasIn 3 = .ok (.invokevirtual 61, 3) := by decide +kernel
theorem dX8_hasIn_6 : decode cX8_hasIn 6 = .ok (.istore_n 3, 1) := by decide +kernel
theorem dX8_hasIn_7 : decode cX8_hasIn 7 = .ok (.iconst 0, 1) := by decide +kernel
theorem dX8_hasIn_8 : decode cX8_hasIn 8 = .ok (.istore 4, 2) := by decide +kernel
theorem dX8_hasIn_10 : decode cX8_hasIn 10 = .ok (.aload_n 0, 1) := by decide +kernel
theorem dX8_hasIn_11 : decode cX8_hasIn 11 = .ok (.iload_n 1, 1) := by decide +kernel
theorem dX8_hasIn_12 : decode cX8_hasIn 12 = .ok (.invokevirtual 53, 3) := by decide +kernel
theorem dX8_hasIn_15 : decode cX8_hasIn 15 = .ok (.ifCond .eq 43, 3) := by decide +kernel
theorem dX8_hasIn_18 : decode cX8_hasIn 18 = .ok (.iload 4, 2) := by decide +kernel
theorem dX8_hasIn_20 : decode cX8_hasIn 20 = .ok (.aload_n 0, 1) := by decide +kernel
theorem dX8_hasIn_21 : decode cX8_hasIn 21 = .ok (.iload_n 1, 1) := by decide +kernel
theorem dX8_hasIn_22 : decode cX8_hasIn 22 = .ok (.invokevirtual 93, 3) := by decide +kernel
theorem dX8_hasIn_25 : decode cX8_hasIn 25 = .ok (.if_icmp .ge 33, 3) := by decide +kernel
theorem dX8_hasIn_28 : decode cX8_hasIn 28 = .ok (.iload_n 3, 1) := by decide +kernel
theorem dX8_hasIn_29 : decode cX8_hasIn 29 = .ok (.ifCond .ne 17, 3) := by decide +kernel
theorem dX8_hasIn_32 : decode cX8_hasIn 32 = .ok (.aload_n 0, 1) := by decide +kernel
theorem dX8_hasIn_33 : decode cX8_hasIn 33 = .ok (.iload_n 1, 1) := by decide +kernel
theorem dX8_hasIn_34 : decode cX8_hasIn 34 = .ok (.bipush 6, 2) := by decide +kernel
theorem dX8_hasIn_36 : decode cX8_hasIn 36 = .ok (.iload 4, 2) := by decide +kernel
theorem dX8_hasIn_38 : decode cX8_hasIn 38 = .ok (.iadd, 1) := by decide +kernel
theorem dX8_hasIn_39 : decode cX8_hasIn 39 = .ok (.invokevirtual 49, 3) := by decide +kernel
theorem dX8_hasIn_42 : decode cX8_hasIn 42 = .ok (.iload_n 2, 1) := by decide +kernel
theorem dX8_hasIn_43 : decode cX8_hasIn 43 = .ok (.if_icmp .ne 7, 3) := by decide +kernel
theorem dX8_hasIn_46 : decode cX8_hasIn 46 = .ok (.iconst 1, 1) := by decide +kernel
theorem dX8_hasIn_47 : decode cX8_hasIn 47 = .ok (.goto 4, 3) := by decide +kernel
theorem dX8_hasIn_50 : decode cX8_hasIn 50 = .ok (.iconst 0, 1) := by decide +kernel
theorem dX8_hasIn_51 : decode cX8_hasIn 51 = .ok (.istore_n 3, 1) := by decide +kernel
theorem dX8_hasIn_52 : decode cX8_hasIn 52 = .ok (.iinc 4 1, 3) := by decide +kernel
theorem dX8_hasIn_55 : decode cX8_hasIn 55 = .ok (.goto (-45), 3) := by decide +kernel
theorem dX8_hasIn_58 : decode cX8_hasIn 58 = .ok (.iload_n 3, 1) := by decide +kernel
theorem dX8_hasIn_59 : decode cX8_hasIn 59 = .ok (.ireturn, 1) := by decide +kernel
theorem dX8_spoil_0 : decode cX8_spoil 0 = .ok (.aload_n 0, 1) := by decide +kernel
theorem dX8_spoil_1 : decode cX8_spoil 1 = .ok (.iconst 0, 1) := by decide +kernel
theorem dX8_spoil_2 : decode cX8_spoil 2 = .ok (.putfield 41, 3) := by decide +kernel
theorem dX8_spoil_5 : decode cX8_spoil 5 = .ok (.iload_n 1, 1) := by decide +kernel
theorem dX8_spoil_6 : decode cX8_spoil 6 = .ok (.iconst 0, 1) := by decide +kernel
theorem dX8_spoil_7 : decode cX8_spoil 7 = .ok (.bipush 23, 2) := by decide +kernel
theorem dX8_spoil_9 : decode cX8_spoil 9 = .ok (.invokestatic 45, 3) := by decide +kernel
theorem dX8_spoil_12 : decode cX8_spoil 12 = .ok (.ifCond .ne 9, 3) := by decide +kernel
theorem dX8_spoil_15 : decode cX8_spoil 15 = .ok (.aload_n 0, 1) := by decide +kernel
theorem dX8_spoil_16 : decode cX8_spoil 16 = .ok (.iconst 1, 1) := by decide +kernel
theorem dX8_spoil_17 : decode cX8_spoil 17 = .ok (.invokevirtual 81, 3) := by decide +kernel
theorem dX8_spoil_20 : decode cX8_spoil 20 = .ok (.ireturn, 1) := by decide +kernel
theorem dX8_spoil_21 : decode cX8_spoil 21 = .ok (.aload_n 0, 1) := by decide +kernel
theorem dX8_spoil_22 : decode cX8_spoil 22 = .ok (.getfield 7, 3) := by decide +kernel
theorem dX8_spoil_25 : decode cX8_spoil 25 = .ok (.iconst 3, 1) := by decide +kernel
theorem dX8_spoil_26 : decode cX8_spoil 26 = .ok (.iload_n 1, 1) := by decide +kernel
theorem dX8_spoil_27 : decode cX8_spoil 27 = .ok (.iadd, 1) := by decide +kernel
theorem dX8_spoil_28 : decode cX8_spoil 28 = .ok (.iaload, 1) := by decide +kernel
theorem dX8_spoil_29 : decode cX8_spoil 29 = .ok (.iconst 3, 1) := by decide +kernel
theorem dX8_spoil_30 : decode cX8_spoil 30 = .ok (.if_icmp .ne 9, 3) := by decide +kernel
theorem dX8_spoil_33 : decode cX8_spoil 33 = .ok (.aload_n 0, 1) := by decide +kernel
theorem dX8_spoil_34 : decode cX8_spoil 34 = .ok (.iconst 2, 1) := by decide +kernel
theorem dX8_spoil_35 : decode cX8_spoil 35 = .ok (.invokevirtual 81, 3) := by decide +kernel
theorem dX8_spoil_38 : decode cX8_spoil 38 = .ok (.ireturn, 1) := by decide +kernel
theorem dX8_spoil_39 : decode cX8_spoil 39 = .ok (.aload_n 0, 1) := by decide +kernel
theorem dX8_spoil_40 : decode cX8_spoil 40 = .ok (.invokevirtual 87, 3) := by decide +kernel
theorem dX8_spoil_43 : decode cX8_spoil 43 = .ok (.iconst 0, 1) := by decide +kernel
theorem dX8_spoil_44 : decode cX8_spoil 44 = .ok (.istore_n 2, 1) := by decide +kernel
theorem dX8_spoil_45 : decode cX8_spoil 45 = .ok (.iconst 0, 1) := by decide +kernel
theorem dX8_spoil_46 : decode cX8_spoil 46 = .ok (.istore_n 3, 1) := by decide +kernel
theorem dX8_spoil_47 : decode cX8_spoil 47 = .ok (.iload_n 3, 1) := by decide +kernel
theorem dX8_spoil_48 : decode cX8_spoil 48 = .ok (.bipush 10, 2) := by decide +kernel
theorem dX8_spoil_50 : decode cX8_spoil 50 = .ok (.if_icmp .ge 37, 3) := by decide +kernel
theorem dX8_spoil_53 : decode cX8_spoil 53 = .ok (.aload_n 0, 1) := by decide +kernel
theorem dX8_spoil_54 : decode cX8_spoil 54 = .ok (.iload_n 3, 1) := by decide +kernel
theorem dX8_spoil_55 : decode cX8_spoil 55 = .ok (.iload_n 1, 1) := by decide +kernel
theorem dX8_spoil_56 : decode cX8_spoil 56 = .ok (.invokevirtual 143, 3) := by decide +kernel
theorem dX8_spoil_59 : decode cX8_spoil 59 = .ok (.ifCond .eq 22, 3) := by decide +kernel
theorem dX8_spoil_62 : decode cX8_spoil 62 = .ok (.aload_n 0, 1) := by decide +kernel
theorem dX8_spoil_63 : decode cX8_spoil 63 = .ok (.iload_n 3, 1) := by decide +kernel
theorem dX8_spoil_64 : decode cX8_spoil 64 = .ok (.iconst 2, 1) := by decide +kernel
theorem dX8_spoil_65 : decode cX8_spoil 65 = .ok (.invokevirtual 49, 3) := by decide +kernel
theorem dX8_spoil_68 : decode cX8_spoil 68 = .ok (.ifCond .ne 13, 3) := by decide +kernel
theorem dX8_spoil_71 : decode cX8_spoil 71 = .ok (.aload_n 0, 1) := by decide +kernel
theorem dX8_spoil_72 : decode cX8_spoil 72 = .ok (.iload_n 3, 1) := by decide +kernel
theorem dX8_spoil_73 : decode cX8_spoil 73 = .ok (.iconst 2, 1) := by decide +kernel
theorem dX8_spoil_74 : decode cX8_spoil 74 = .ok (.iconst 1, 1) := by decide +kernel
theorem dX8_spoil_75 : decode cX8_spoil 75 = .ok (.invokevirtual 96, 3) := by decide +kernel
theorem dX8_spoil_78 : decode cX8_spoil 78 = .ok (.iinc 2 1, 3) := by decide +kernel
theorem dX8_spoil_81 : decode cX8_spoil 81 = .ok (.iinc 3 1, 3) := by decide +kernel
theorem dX8_spoil_84 : decode cX8_spoil 84 = .ok (.goto (-37), 3) := by decide +kernel
theorem dX8_spoil_87 : decode cX8_spoil 87 = .ok (.aload_n 0, 1) := by decide +kernel
theorem dX8_spoil_88 : decode cX8_spoil 88 = .ok (.getfield 7, 3) := by decide +kernel
theorem dX8_spoil_91 : decode cX8_spoil 91 = .ok (.iconst 3, 1) := by decide +kernel
theorem dX8_spoil_92 : decode cX8_spoil 92 = .ok (.iload_n 1, 1) := by decide +kernel
theorem dX8_spoil_93 : decode cX8_spoil 93 = .ok (.iadd, 1) := by decide +kernel
theorem dX8_spoil_94 : decode cX8_spoil 94 = .ok (.iconst 3, 1) := by decide +kernel
theorem dX8_spoil_95 : decode cX8_spoil 95 = .ok (.iastore, 1) := by decide +kernel
theorem dX8_spoil_96 : decode cX8_spoil 96 = .ok (.iload_n 2, 1) := by decide +kernel
theorem dX8_spoil_97 : decode cX8_spoil 97 = .ok (.ireturn, 1) := by decide +kernel
theorem dX8_heal_0 : decode cX8_heal 0 = .ok (.aload_n 0, 1) := by decide +kernel
theorem dX8_heal_1 : decode cX8_heal 1 = .ok (.iconst 0, 1) := by decide +kernel
theorem dX8_heal_2 : decode cX8_heal 2 = .ok (.putfield 41, 3) := by decide +kernel
theorem dX8_heal_5 : decode cX8_heal 5 = .ok (.iload_n 1, 1) := by decide +kernel
theorem dX8_heal_6 : decode cX8_heal 6 = .ok (.iconst 0, 1) := by decide +kernel
theorem dX8_heal_7 : decode cX8_heal 7 = .ok (.bipush 23, 2) := by decide +kernel
theorem dX8_heal_9 : decode cX8_heal 9 = .ok (.invokestatic 45, 3) := by decide +kernel
theorem dX8_heal_12 : decode cX8_heal 12 = .ok (.ifCond .ne 9, 3) := by decide +kernel
theorem dX8_heal_15 : decode cX8_heal 15 = .ok (.aload_n 0, 1) := by decide +kernel
theorem dX8_heal_16 : decode cX8_heal 16 = .ok (.iconst 1, 1) := by decide +kernel
theorem dX8_heal_17 : decode cX8_heal 17 = .ok (.invokevirtual 81, 3) := by decide +kernel
theorem dX8_heal_20 : decode cX8_heal 20 = .ok (.ireturn, 1) := by decide +kernel
theorem dX8_heal_21 : decode cX8_heal 21 = .ok (.aload_n 0, 1) := by decide +kernel
theorem dX8_heal_22 : decode cX8_heal 22 = .ok (.getfield 7, 3) := by decide +kernel
theorem dX8_heal_25 : decode cX8_heal 25 = .ok (.iconst 3, 1) := by decide +kernel
theorem dX8_heal_26 : decode cX8_heal 26 = .ok (.iload_n 1, 1) := by decide +kernel
theorem dX8_heal_27 : decode cX8_heal 27 = .ok (.iadd, 1) := by decide +kernel
theorem dX8_heal_28 : decode cX8_heal 28 = .ok (.iaload, 1) := by decide +kernel
theorem dX8_heal_29 : decode cX8_heal 29 = .ok (.iconst 3, 1) := by decide +kernel
theorem dX8_heal_30 : decode cX8_heal 30 = .ok (.if_icmp .ne 7, 3) := by decide +kernel
theorem dX8_heal_33 : decode cX8_heal 33 = .ok (.iconst 1, 1) := by decide +kernel
theorem dX8_heal_34 : decode cX8_heal 34 = .ok (.goto 4, 3) := by decide +kernel
theorem dX8_heal_37 : decode cX8_heal 37 = .ok (.iconst 0, 1) := by decide +kernel
theorem dX8_heal_38 : decode cX8_heal 38 = .ok (.istore_n 2, 1) := by decide +kernel
theorem dX8_heal_39 : decode cX8_heal 39 = .ok (.iconst 0, 1) := by decide +kernel
theorem dX8_heal_40 : decode cX8_heal 40 = .ok (.istore_n 3, 1) := by decide +kernel
theorem dX8_heal_41 : decode cX8_heal 41 = .ok (.iload_n 3, 1) := by decide +kernel
theorem dX8_heal_42 : decode cX8_heal 42 = .ok (.bipush 10, 2) := by decide +kernel
theorem dX8_heal_44 : decode cX8_heal 44 = .ok (.if_icmp .ge 28, 3) := by decide +kernel
theorem dX8_heal_47 : decode cX8_heal 47 = .ok (.iload_n 2, 1) := by decide +kernel
theorem dX8_heal_48 : decode cX8_heal 48 = .ok (.ifCond .eq 16, 3) := by decide +kernel
theorem dX8_heal_51 : decode cX8_heal 51 = .ok (.aload_n 0, 1) := by decide +kernel
theorem dX8_heal_52 : decode cX8_heal 52 = .ok (.iload_n 3, 1) := by decide +kernel
theorem dX8_heal_53 : decode cX8_heal 53 = .ok (.iload_n 1, 1) := by decide +kernel
theorem dX8_heal_54 : decode cX8_heal 54 = .ok (.invokevirtual 143, 3) := by decide +kernel
theorem dX8_heal_57 : decode cX8_heal 57 = .ok (.ifCond .ne 7, 3) := by decide +kernel
theorem dX8_heal_60 : decode cX8_heal 60 = .ok (.iconst 1, 1) := by decide +kernel
theorem dX8_heal_61 : decode cX8_heal 61 = .ok (.goto 4, 3) := by decide +kernel
theorem dX8_heal_64 : decode cX8_heal 64 = .ok (.iconst 0, 1) := by decide +kernel
theorem dX8_heal_65 : decode cX8_heal 65 = .ok (.istore_n 2, 1) := by decide +kernel
theorem dX8_heal_66 : decode cX8_heal 66 = .ok (.iinc 3 1, 3) := by decide +kernel
theorem dX8_heal_69 : decode cX8_heal 69 = .ok (.goto (-28), 3) := by decide +kernel
theorem dX8_heal_72 : decode cX8_heal 72 = .ok (.iload_n 2, 1) := by decide +kernel
theorem dX8_heal_73 : decode cX8_heal 73 = .ok (.ifCond .ne 9, 3) := by decide +kernel
theorem dX8_heal_76 : decode cX8_heal 76 = .ok (.aload_n 0, 1) := by decide +kernel
theorem dX8_heal_77 : decode cX8_heal 77 = .ok (.iconst 2, 1) := by decide +kernel
theorem dX8_heal_78 : decode cX8_heal 78 = .ok (.invokevirtual 81, 3) := by decide +kernel
theorem dX8_heal_81 : decode cX8_heal 81 = .ok (.ireturn, 1) := by decide +kernel
theorem dX8_heal_82 : decode cX8_heal 82 = .ok (.aload_n 0, 1) := by decide +kernel
theorem dX8_heal_83 : decode cX8_heal 83 = .ok (.invokevirtual 87, 3) := by decide +kernel
theorem dX8_heal_86 : decode cX8_heal 86 = .ok (.aload_n 0, 1) := by decide +kernel
theorem dX8_heal_87 : decode cX8_heal 87 = .ok (.getfield 7, 3) := by decide +kernel
theorem dX8_heal_90 : decode cX8_heal 90 = .ok (.iconst 3, 1) := by decide +kernel
theorem dX8_heal_91 : decode cX8_heal 91 = .ok (.iload_n 1, 1) := by decide +kernel
theorem dX8_heal_92 : decode cX8_heal 92 = .ok (.iadd, 1) := by decide +kernel
theorem dX8_heal_93 : decode cX8_heal 93 = .ok (.iconst 0, 1) := by decide +kernel
theorem dX8_heal_94 : decode cX8_heal 94 = .ok (.iastore, 1) := by decide +kernel
theorem dX8_heal_95 : decode cX8_heal 95 = .ok (.aload_n 0, 1) := by decide +kernel
theorem dX8_heal_96 : decode cX8_heal 96 = .ok (.iconst 3, 1) := by decide +kernel
theorem dX8_heal_97 : decode cX8_heal 97 = .ok (.invokevirtual 146, 3) := by decide +kernel
theorem dX8_heal_100 : decode cX8_heal 100 = .ok (.ireturn, 1) := by decide +kernel
theorem dX8_isPacked_0 : decode cX8_isPacked 0 = .ok (.aload_n 0, 1) := by decide +kernel
theorem dX8_isPacked_1 : decode cX8_isPacked 1 = .ok (.iload_n 1, 1) := by decide +kernel
theorem dX8_isPacked_2 : decode cX8_isPacked 2 = .ok (.invokevirtual 53, 3) := by decide +kernel
theorem dX8_isPacked_5 : decode cX8_isPacked 5 = .ok (.ifCond .eq 24, 3) := by decide +kernel
theorem dX8_isPacked_8 : decode cX8_isPacked 8 = .ok (.aload_n 0, 1) := by decide +kernel
theorem dX8_isPacked_9 : decode cX8_isPacked 9 = .ok (.iload_n 1, 1) := by decide +kernel
theorem dX8_isPacked_10 : decode cX8_isPacked 10 = .ok (.iconst 2, 1) := by decide +kernel
theorem dX8_isPacked_11 : decode cX8_isPacked 11 = .ok (.invokevirtual 49, 3) := by decide +kernel
theorem dX8_isPacked_14 : decode cX8_isPacked 14 = .ok (.ifCond .ne 15, 3) := by decide +kernel
theorem dX8_isPacked_17 : decode cX8_isPacked 17 = .ok (.aload_n 0, 1) := by decide +kernel
theorem dX8_isPacked_18 : decode cX8_isPacked 18 = .ok (.iload_n 1, 1) := by decide +kernel
theorem dX8_isPacked_19 : decode cX8_isPacked 19 = .ok (.invokevirtual 57, 3) := by decide +kernel
theorem dX8_isPacked_22 : decode cX8_isPacked 22 = .ok (.ifCond .le 7, 3) := by decide +kernel
theorem dX8_isPacked_25 : decode cX8_isPacked 25 = .ok (.iconst 1, 1) := by decide +kernel
theorem dX8_isPacked_26 : decode cX8_isPacked 26 = .ok (.goto 4, 3) := by decide +kernel
theorem dX8_isPacked_29 : decode cX8_isPacked 29 = .ok (.iconst 0, 1) := by decide +kernel
theorem dX8_isPacked_30 : decode cX8_isPacked 30 = .ok (.ireturn, 1) := by decide +kernel
theorem dX8_sort_0 : decode cX8_sort 0 = .ok (.iconst 0, 1) := by decide +kernel
theorem dX8_sort_1 : decode cX8_sort 1 = .ok (.istore_n 1, 1) := by decide +kernel
theorem dX8_sort_2 : decode cX8_sort 2 = .ok (.bipush 15, 2) := by decide +kernel
theorem dX8_sort_4 : decode cX8_sort 4 = .ok (.istore_n 2, 1) := by decide +kernel
theorem dX8_sort_5 : decode cX8_sort 5 = .ok (.iload_n 2, 1) := by decide +kernel
theorem dX8_sort_6 : decode cX8_sort 6 = .ok (.ifCond .le 50, 3) := by decide +kernel
theorem dX8_sort_9 : decode cX8_sort 9 = .ok (.iconst 0, 1) := by decide +kernel
theorem dX8_sort_10 : decode cX8_sort 10 = .ok (.istore_n 3, 1) := by decide +kernel
theorem dX8_sort_11 : decode cX8_sort 11 = .ok (.iload_n 3, 1) := by decide +kernel
theorem dX8_sort_12 : decode cX8_sort 12 = .ok (.bipush 10, 2) := by decide +kernel
theorem dX8_sort_14 : decode cX8_sort 14 = .ok (.if_icmp .ge 36, 3) := by decide +kernel
theorem dX8_sort_17 : decode cX8_sort 17 = .ok (.aload_n 0, 1) := by decide +kernel
theorem dX8_sort_18 : decode cX8_sort 18 = .ok (.iload_n 3, 1) := by decide +kernel
theorem dX8_sort_19 : decode cX8_sort 19 = .ok (.invokevirtual 149, 3) := by decide +kernel
theorem dX8_sort_22 : decode cX8_sort 22 = .ok (.ifCond .eq 22, 3) := by decide +kernel
theorem dX8_sort_25 : decode cX8_sort 25 = .ok (.aload_n 0, 1) := by decide +kernel
theorem dX8_sort_26 : decode cX8_sort 26 = .ok (.iload_n 3, 1) := by decide +kernel
theorem dX8_sort_27 : decode cX8_sort 27 = .ok (.invokevirtual 57, 3) := by decide +kernel
theorem dX8_sort_30 : decode cX8_sort 30 = .ok (.iload_n 2, 1) := by decide +kernel
theorem dX8_sort_31 : decode cX8_sort 31 = .ok (.if_icmp .ne 13, 3) := by decide +kernel
theorem dX8_sort_34 : decode cX8_sort 34 = .ok (.aload_n 0, 1) := by decide +kernel
theorem dX8_sort_35 : decode cX8_sort 35 = .ok (.getfield 35, 3) := by decide +kernel
theorem dX8_sort_38 : decode cX8_sort 38 = .ok (.iload_n 1, 1) := by decide +kernel
theorem dX8_sort_39 : decode cX8_sort 39 = .ok (.iload_n 3, 1) := by decide +kernel
theorem dX8_sort_40 : decode cX8_sort 40 = .ok (.iastore, 1) := by decide +kernel
theorem dX8_sort_41 : decode cX8_sort 41 = .ok (.iinc 1 1, 3) := by decide +kernel
theorem dX8_sort_44 : decode cX8_sort 44 = .ok (.iinc 3 1, 3) := by decide +kernel
theorem dX8_sort_47 : decode cX8_sort 47 = .ok (.goto (-36), 3) := by decide +kernel
theorem dX8_sort_50 : decode cX8_sort 50 = .ok (.iinc 2 (-1), 3) := by decide +kernel
theorem dX8_sort_53 : decode cX8_sort 53 = .ok (.goto (-48), 3) := by decide +kernel
theorem dX8_sort_56 : decode cX8_sort 56 = .ok (.iload_n 1, 1) := by decide +kernel
theorem dX8_sort_57 : decode cX8_sort 57 = .ok (.ireturn, 1) := by decide +kernel
theorem dX8_holdsBroken_0 : decode cX8_holdsBroken 0 = .ok (.iconst 0, 1) := by decide +kernel
theorem dX8_holdsBroken_1 : decode cX8_holdsBroken 1 = .ok (.istore_n 2, 1) := by decide +kernel
theorem dX8_holdsBroken_2 : decode cX8_holdsBroken 2 = .ok (.iconst 0, 1) := by decide +kernel
theorem dX8_holdsBroken_3 : decode cX8_holdsBroken 3 = .ok (.istore_n 3, 1) := by decide +kernel
theorem dX8_holdsBroken_4 : decode cX8_holdsBroken 4 = .ok (.iload_n 3, 1) := by decide +kernel
theorem dX8_holdsBroken_5 : decode cX8_holdsBroken 5 = .ok (.bipush 10, 2) := by decide +kernel
theorem dX8_holdsBroken_7 : decode cX8_holdsBroken 7 = .ok (.if_icmp .ge 38, 3) := by decide +kernel
theorem dX8_holdsBroken_10 : decode cX8_holdsBroken 10 = .ok (.iload_n 2, 1) := by decide +kernel
theorem dX8_holdsBroken_11 : decode cX8_holdsBroken 11 = .ok (.ifCond .ne 22, 3) := by decide +kernel
theorem dX8_holdsBroken_14 : decode cX8_holdsBroken 14 = .ok (.aload_n 0, 1) := by decide +kernel
theorem dX8_holdsBroken_15 : decode cX8_holdsBroken 15 = .ok (.iload_n 3, 1) := by decide +kernel
theorem dX8_holdsBroken_16 : decode cX8_holdsBroken 16 = .ok (.iload_n 1, 1) := by decide +kernel
theorem dX8_holdsBroken_17 : decode cX8_holdsBroken 17 = .ok (.invokevirtual 61, 3) := by decide +kernel
theorem dX8_holdsBroken_20 : decode cX8_holdsBroken 20 = .ok (.ifCond .eq 17, 3) := by decide +kernel
theorem dX8_holdsBroken_23 : decode cX8_holdsBroken 23 = .ok (.aload_n 0, 1) := by decide +kernel
theorem dX8_holdsBroken_24 : decode cX8_holdsBroken 24 = .ok (.iload_n 3, 1) := by decide +kernel
theorem dX8_holdsBroken_25 : decode cX8_holdsBroken 25 = .ok (.iconst 2, 1) := by decide +kernel
theorem dX8_holdsBroken_26 : decode cX8_holdsBroken 26 = .ok (.invokevirtual 49, 3) := by decide +kernel
theorem dX8_holdsBroken_29 : decode cX8_holdsBroken 29 = .ok (.iconst 1, 1) := by decide +kernel
theorem dX8_holdsBroken_30 : decode cX8_holdsBroken 30 = .ok (.if_icmp .ne 7, 3) := by decide +kernel
theorem dX8_holdsBroken_33 : decode cX8_holdsBroken 33 = .ok (.iconst 1, 1) := by decide +kernel
theorem dX8_holdsBroken_34 : decode cX8_holdsBroken 34 = .ok (.goto 4, 3) := by decide +kernel
theorem dX8_holdsBroken_37 : decode cX8_holdsBroken 37 = .ok (.iconst 0, 1) := by decide +kernel
theorem dX8_holdsBroken_38 : decode cX8_holdsBroken 38 = .ok (.istore_n 2, 1) := by decide +kernel
theorem dX8_holdsBroken_39 : decode cX8_holdsBroken 39 = .ok (.iinc 3 1, 3) := by decide +kernel
theorem dX8_holdsBroken_42 : decode cX8_holdsBroken 42 = .ok (.goto (-38), 3) := by decide +kernel
theorem dX8_holdsBroken_45 : decode cX8_holdsBroken 45 = .ok (.iload_n 2, 1) := by decide +kernel
theorem dX8_holdsBroken_46 : decode cX8_holdsBroken 46 = .ok (.ireturn, 1) := by decide +kernel
theorem dX8_firstFor_0 : decode cX8_firstFor 0 = .ok (.iconst 0, 1) := by decide +kernel
theorem dX8_firstFor_1 : decode cX8_firstFor 1 = .ok (.istore_n 2, 1) := by decide +kernel
theorem dX8_firstFor_2 : decode cX8_firstFor 2 = .ok (.iload_n 2, 1) := by decide +kernel
theorem dX8_firstFor_3 : decode cX8_firstFor 3 = .ok (.bipush 24, 2) := by decide +kernel
theorem dX8_firstFor_5 : decode cX8_firstFor 5 = .ok (.if_icmp .ge 33, 3) := by decide +kernel
theorem dX8_firstFor_8 : decode cX8_firstFor 8 = .ok (.aload_n 0, 1) := by decide +kernel
theorem dX8_firstFor_9 : decode cX8_firstFor 9 = .ok (.getfield 38, 3) := by decide +kernel
theorem dX8_firstFor_12 : decode cX8_firstFor 12 = .ok (.iload_n 2, 1) := by decide +kernel
theorem dX8_firstFor_13 : decode cX8_firstFor 13 = .ok (.iaload, 1) := by decide +kernel
theorem dX8_firstFor_14 : decode cX8_firstFor 14 = .ok (.ifCond .lt 18, 3) := by decide +kernel
theorem dX8_firstFor_17 : decode cX8_firstFor 17 = .ok (.aload_n 0, 1) := by decide +kernel
theorem dX8_firstFor_18 : decode cX8_firstFor 18 = .ok (.getfield 38, 3) := by decide +kernel
theorem dX8_firstFor_21 : decode cX8_firstFor 21 = .ok (.iload_n 2, 1) := by decide +kernel
theorem dX8_firstFor_22 : decode cX8_firstFor 22 = .ok (.iaload, 1) := by decide +kernel
theorem dX8_firstFor_23 : decode cX8_firstFor 23 = .ok (.iload_n 1, 1) := by decide +kernel
theorem dX8_firstFor_24 : decode cX8_firstFor 24 = .ok (.iadd, 1) := by decide +kernel
theorem dX8_firstFor_25 : decode cX8_firstFor 25 = .ok (.bipush 16, 2) := by decide +kernel
theorem dX8_firstFor_27 : decode cX8_firstFor 27 = .ok (.if_icmp .gt 5, 3) := by decide +kernel
theorem dX8_firstFor_30 : decode cX8_firstFor 30 = .ok (.iload_n 2, 1) := by decide +kernel
theorem dX8_firstFor_31 : decode cX8_firstFor 31 = .ok (.ireturn, 1) := by decide +kernel
theorem dX8_firstFor_32 : decode cX8_firstFor 32 = .ok (.iinc 2 1, 3) := by decide +kernel
theorem dX8_firstFor_35 : decode cX8_firstFor 35 = .ok (.goto (-33), 3) := by decide +kernel
theorem dX8_firstFor_38 : decode cX8_firstFor 38 = .ok (.iconst (-1), 1) := by decide +kernel
theorem dX8_firstFor_39 : decode cX8_firstFor 39 = .ok (.ireturn, 1) := by decide +kernel
theorem dX8_packs_0 : decode cX8_packs 0 = .ok (.aload_n 0, 1) := by decide +kernel
theorem dX8_packs_1 : decode cX8_packs 1 = .ok (.invokevirtual 112, 3) := by decide +kernel
theorem dX8_packs_4 : decode cX8_packs 4 = .ok (.aload_n 0, 1) := by decide +kernel
theorem dX8_packs_5 : decode cX8_packs 5 = .ok (.iconst 2, 1) := by decide +kernel
theorem dX8_packs_6 : decode cX8_packs 6 = .ok (.invokevirtual 146, 3) := by decide +kernel
theorem dX8_packs_9 : decode cX8_packs 9 = .ok (.istore_n 1, 1) := by decide +kernel
theorem dX8_packs_10 : decode cX8_packs 10 = .ok (.aload_n 0, 1) := by decide +kernel
theorem dX8_packs_11 : decode cX8_packs 11 = .ok (.invokevirtual 152, 3) := by decide +kernel
theorem dX8_packs_14 : decode cX8_packs 14 = .ok (.istore_n 2, 1) := by decide +kernel
theorem dX8_packs_15 : decode cX8_packs 15 = .ok (.iconst 0, 1) := by decide +kernel
theorem dX8_packs_16 : decode cX8_packs 16 = .ok (.istore_n 3, 1) := by decide +kernel
theorem dX8_packs_17 : decode cX8_packs 17 = .ok (.iload_n 3, 1) := by decide +kernel
theorem dX8_packs_18 : decode cX8_packs 18 = .ok (.bipush 24, 2) := by decide +kernel
theorem dX8_packs_20 : decode cX8_packs 20 = .ok (.if_icmp .ge 40, 3) := by decide +kernel
theorem dX8_packs_23 : decode cX8_packs 23 = .ok (.aload_n 0, 1) := by decide +kernel
theorem dX8_packs_24 : decode cX8_packs 24 = .ok (.getfield 38, 3) := by decide +kernel
theorem dX8_packs_27 : decode cX8_packs 27 = .ok (.iload_n 3, 1) := by decide +kernel
theorem dX8_packs_28 : decode cX8_packs 28 = .ok (.aload_n 0, 1) := by decide +kernel
theorem dX8_packs_29 : decode cX8_packs 29 = .ok (.getfield 7, 3) := by decide +kernel
theorem dX8_packs_32 : decode cX8_packs 32 = .ok (.iconst 3, 1) := by decide +kernel
theorem dX8_packs_33 : decode cX8_packs 33 = .ok (.iload_n 3, 1) := by decide +kernel
theorem dX8_packs_34 : decode cX8_packs 34 = .ok (.iadd, 1) := by decide +kernel
theorem dX8_packs_35 : decode cX8_packs 35 = .ok (.iaload, 1) := by decide +kernel
theorem dX8_packs_36 : decode cX8_packs 36 = .ok (.iconst 2, 1) := by decide +kernel
theorem dX8_packs_37 : decode cX8_packs 37 = .ok (.if_icmp .ne 15, 3) := by decide +kernel
theorem dX8_packs_40 : decode cX8_packs 40 = .ok (.aload_n 0, 1) := by decide +kernel
theorem dX8_packs_41 : decode cX8_packs 41 = .ok (.iload_n 3, 1) := by decide +kernel
theorem dX8_packs_42 : decode cX8_packs 42 = .ok (.invokevirtual 155, 3) := by decide +kernel
theorem dX8_packs_45 : decode cX8_packs 45 = .ok (.ifCond .ne 7, 3) := by decide +kernel
theorem dX8_packs_48 : decode cX8_packs 48 = .ok (.iconst 0, 1) := by decide +kernel
theorem dX8_packs_49 : decode cX8_packs 49 = .ok (.goto 4, 3) := by decide +kernel
theorem dX8_packs_52 : decode cX8_packs 52 = .ok (.iconst (-1), 1) := by decide +kernel
theorem dX8_packs_53 : decode cX8_packs 53 = .ok (.iastore, 1) := by decide +kernel
theorem dX8_packs_54 : decode cX8_packs 54 = .ok (.iinc 3 1, 3) := by decide +kernel
theorem dX8_packs_57 : decode cX8_packs 57 = .ok (.goto (-40), 3) := by decide +kernel
theorem dX8_packs_60 : decode cX8_packs 60 = .ok (.iconst 0, 1) := by decide +kernel
theorem dX8_packs_61 : decode cX8_packs 61 = .ok (.istore_n 3, 1) := by decide +kernel
theorem dX8_packs_62 : decode cX8_packs 62 = .ok (.iload_n 3, 1) := by decide +kernel
theorem dX8_packs_63 : decode cX8_packs 63 = .ok (.iload_n 2, 1) := by decide +kernel
theorem dX8_packs_64 : decode cX8_packs 64 = .ok (.if_icmp .ge 96, 3) := by decide +kernel
theorem dX8_packs_67 : decode cX8_packs 67 = .ok (.aload_n 0, 1) := by decide +kernel
theorem dX8_packs_68 : decode cX8_packs 68 = .ok (.getfield 35, 3) := by decide +kernel
theorem dX8_packs_71 : decode cX8_packs 71 = .ok (.iload_n 3, 1) := by decide +kernel
theorem dX8_packs_72 : decode cX8_packs 72 = .ok (.iaload, 1) := by decide +kernel
theorem dX8_packs_73 : decode cX8_packs 73 = .ok (.istore 4, 2) := by decide +kernel
theorem dX8_packs_75 : decode cX8_packs 75 = .ok (.aload_n 0, 1) := by decide +kernel
theorem dX8_packs_76 : decode cX8_packs 76 = .ok (.aload_n 0, 1) := by decide +kernel
theorem dX8_packs_77 : decode cX8_packs 77 = .ok (.iload 4, 2) := by decide +kernel
theorem dX8_packs_79 : decode cX8_packs 79 = .ok (.invokevirtual 57, 3) := by decide +kernel
theorem dX8_packs_82 : decode cX8_packs 82 = .ok (.invokevirtual 158, 3) := by decide +kernel
theorem dX8_packs_85 : decode cX8_packs 85 = .ok (.istore 5, 2) := by decide +kernel
theorem dX8_packs_87 : decode cX8_packs 87 = .ok (.iload 5, 2) := by decide +kernel
theorem dX8_packs_89 : decode cX8_packs 89 = .ok (.iconst (-1), 1) := by decide +kernel
theorem dX8_packs_90 : decode cX8_packs 90 = .ok (.if_icmp .ne 9, 3) := by decide +kernel
theorem dX8_packs_93 : decode cX8_packs 93 = .ok (.aload_n 0, 1) := by decide +kernel
theorem dX8_packs_94 : decode cX8_packs 94 = .ok (.invokevirtual 106, 3) := by decide +kernel
theorem dX8_packs_97 : decode cX8_packs 97 = .ok (.iconst (-1), 1) := by decide +kernel
theorem dX8_packs_98 : decode cX8_packs 98 = .ok (.ireturn, 1) := by decide +kernel
theorem dX8_packs_99 : decode cX8_packs 99 = .ok (.aload_n 0, 1) := by decide +kernel
theorem dX8_packs_100 : decode cX8_packs 100 = .ok (.iload 4, 2) := by decide +kernel
theorem dX8_packs_102 : decode cX8_packs 102 = .ok (.iconst 3, 1) := by decide +kernel
theorem dX8_packs_103 : decode cX8_packs 103 = .ok (.iload 5, 2) := by decide +kernel
theorem dX8_packs_105 : decode cX8_packs 105 = .ok (.invokevirtual 96, 3) := by decide +kernel
theorem dX8_packs_108 : decode cX8_packs 108 = .ok (.aload_n 0, 1) := by decide +kernel
theorem dX8_packs_109 : decode cX8_packs 109 = .ok (.iload 4, 2) := by decide +kernel
theorem dX8_packs_111 : decode cX8_packs 111 = .ok (.iconst 4, 1) := by decide +kernel
theorem dX8_packs_112 : decode cX8_packs 112 = .ok (.aload_n 0, 1) := by decide +kernel
theorem dX8_packs_113 : decode cX8_packs 113 = .ok (.getfield 38, 3) := by decide +kernel
theorem dX8_packs_116 : decode cX8_packs 116 = .ok (.iload 5, 2) := by decide +kernel
theorem dX8_packs_118 : decode cX8_packs 118 = .ok (.iaload, 1) := by decide +kernel
theorem dX8_packs_119 : decode cX8_packs 119 = .ok (.invokevirtual 96, 3) := by decide +kernel
theorem dX8_packs_122 : decode cX8_packs 122 = .ok (.aload_n 0, 1) := by decide +kernel
theorem dX8_packs_123 : decode cX8_packs 123 = .ok (.iload 4, 2) := by decide +kernel
theorem dX8_packs_125 : decode cX8_packs 125 = .ok (.iconst 5, 1) := by decide +kernel
theorem dX8_packs_126 : decode cX8_packs 126 = .ok (.aload_n 0, 1) := by decide +kernel
theorem dX8_packs_127 : decode cX8_packs 127 = .ok (.iload 4, 2) := by decide +kernel
theorem dX8_packs_129 : decode cX8_packs 129 = .ok (.iconst 5, 1) := by decide +kernel
theorem dX8_packs_130 : decode cX8_packs 130 = .ok (.invokevirtual 49, 3) := by decide +kernel
theorem dX8_packs_133 : decode cX8_packs 133 = .ok (.iconst 1, 1) := by decide +kernel
theorem dX8_packs_134 : decode cX8_packs 134 = .ok (.iadd, 1) := by decide +kernel
theorem dX8_packs_135 : decode cX8_packs 135 = .ok (.invokevirtual 96, 3) := by decide +kernel
theorem dX8_packs_138 : decode cX8_packs 138 = .ok (.aload_n 0, 1) := by decide +kernel
theorem dX8_packs_139 : decode cX8_packs 139 = .ok (.getfield 38, 3) := by decide +kernel
theorem dX8_packs_142 : decode cX8_packs 142 = .ok (.iload 5, 2) := by decide +kernel
theorem dX8_packs_144 : decode cX8_packs 144 = .ok (.dup2, 1) := by decide +kernel
theorem dX8_packs_145 : decode cX8_packs 145 = .ok (.iaload, 1) := by decide +kernel
theorem dX8_packs_146 : decode cX8_packs 146 = .ok (.aload_n 0, 1) := by decide +kernel
theorem dX8_packs_147 : decode cX8_packs 147 = .ok (.iload 4, 2) := by decide +kernel
theorem dX8_packs_149 : decode cX8_packs 149 = .ok (.invokevirtual 57, 3) := by decide +kernel
theorem dX8_packs_152 : decode cX8_packs 152 = .ok (.iadd, 1) := by decide +kernel
theorem dX8_packs_153 : decode cX8_packs 153 = .ok (.iastore, 1) := by decide +kernel
theorem dX8_packs_154 : decode cX8_packs 154 = .ok (.iinc 3 1, 3) := by decide +kernel
theorem dX8_packs_157 : decode cX8_packs 157 = .ok (.goto (-95), 3) := by decide +kernel
theorem dX8_packs_160 : decode cX8_packs 160 = .ok (.iconst 0, 1) := by decide +kernel
theorem dX8_packs_161 : decode cX8_packs 161 = .ok (.istore_n 3, 1) := by decide +kernel
theorem dX8_packs_162 : decode cX8_packs 162 = .ok (.iload_n 3, 1) := by decide +kernel
theorem dX8_packs_163 : decode cX8_packs 163 = .ok (.bipush 24, 2) := by decide +kernel
theorem dX8_packs_165 : decode cX8_packs 165 = .ok (.if_icmp .ge 16, 3) := by decide +kernel
theorem dX8_packs_168 : decode cX8_packs 168 = .ok (.aload_n 0, 1) := by decide +kernel
theorem dX8_packs_169 : decode cX8_packs 169 = .ok (.iload_n 3, 1) := by decide +kernel
theorem dX8_packs_170 : decode cX8_packs 170 = .ok (.invokevirtual 100, 3) := by decide +kernel
theorem dX8_packs_173 : decode cX8_packs 173 = .ok (.istore 4, 2) := by decide +kernel
theorem dX8_packs_175 : decode cX8_packs 175 = .ok (.iinc 3 1, 3) := by decide +kernel
theorem dX8_packs_178 : decode cX8_packs 178 = .ok (.goto (-16), 3) := by decide +kernel
theorem dX8_packs_181 : decode cX8_packs 181 = .ok (.aload_n 0, 1) := by decide +kernel
theorem dX8_packs_182 : decode cX8_packs 182 = .ok (.getfield 7, 3) := by decide +kernel
theorem dX8_packs_185 : decode cX8_packs 185 = .ok (.iconst 1, 1) := by decide +kernel
theorem dX8_packs_186 : decode cX8_packs 186 = .ok (.dup2, 1) := by decide +kernel
theorem dX8_packs_187 : decode cX8_packs 187 = .ok (.iaload, 1) := by decide +kernel
theorem dX8_packs_188 : decode cX8_packs 188 = .ok (.iconst 1, 1) := by decide +kernel
theorem dX8_packs_189 : decode cX8_packs 189 = .ok (.iadd, 1) := by decide +kernel
theorem dX8_packs_190 : decode cX8_packs 190 = .ok (.iastore, 1) := by decide +kernel
theorem dX8_packs_191 : decode cX8_packs 191 = .ok (.iload_n 1, 1) := by decide +kernel
theorem dX8_packs_192 : decode cX8_packs 192 = .ok (.aload_n 0, 1) := by decide +kernel
theorem dX8_packs_193 : decode cX8_packs 193 = .ok (.iconst 2, 1) := by decide +kernel
theorem dX8_packs_194 : decode cX8_packs 194 = .ok (.invokevirtual 146, 3) := by decide +kernel
theorem dX8_packs_197 : decode cX8_packs 197 = .ok (.isub, 1) := by decide +kernel
theorem dX8_packs_198 : decode cX8_packs 198 = .ok (.ireturn, 1) := by decide +kernel
theorem dX8_pack_0 : decode cX8_pack 0 = .ok (.aload_n 0, 1) := by decide +kernel
theorem dX8_pack_1 : decode cX8_pack 1 = .ok (.iconst 0, 1) := by decide +kernel
theorem dX8_pack_2 : decode cX8_pack 2 = .ok (.putfield 41, 3) := by decide +kernel
theorem dX8_pack_5 : decode cX8_pack 5 = .ok (.aload_n 0, 1) := by decide +kernel
theorem dX8_pack_6 : decode cX8_pack 6 = .ok (.invokevirtual 87, 3) := by decide +kernel
theorem dX8_pack_9 : decode cX8_pack 9 = .ok (.aload_n 0, 1) := by decide +kernel
theorem dX8_pack_10 : decode cX8_pack 10 = .ok (.invokevirtual 161, 3) := by decide +kernel
theorem dX8_pack_13 : decode cX8_pack 13 = .ok (.ireturn, 1) := by decide +kernel
theorem dX8_set_0 : decode cX8_set 0 = .ok (.aload_n 0, 1) := by decide +kernel
theorem dX8_set_1 : decode cX8_set 1 = .ok (.iconst 0, 1) := by decide +kernel
theorem dX8_set_2 : decode cX8_set 2 = .ok (.putfield 41, 3) := by decide +kernel
theorem dX8_set_5 : decode cX8_set 5 = .ok (.iload_n 1, 1) := by decide +kernel
theorem dX8_set_6 : decode cX8_set 6 = .ok (.iconst 0, 1) := by decide +kernel
theorem dX8_set_7 : decode cX8_set 7 = .ok (.iconst 1, 1) := by decide +kernel
theorem dX8_set_8 : decode cX8_set 8 = .ok (.invokestatic 45, 3) := by decide +kernel
theorem dX8_set_11 : decode cX8_set 11 = .ok (.ifCond .ne 9, 3) := by decide +kernel
theorem dX8_set_14 : decode cX8_set 14 = .ok (.aload_n 0, 1) := by decide +kernel
theorem dX8_set_15 : decode cX8_set 15 = .ok (.iconst 1, 1) := by decide +kernel
theorem dX8_set_16 : decode cX8_set 16 = .ok (.invokevirtual 81, 3) := by decide +kernel
theorem dX8_set_19 : decode cX8_set 19 = .ok (.ireturn, 1) := by decide +kernel
theorem dX8_set_20 : decode cX8_set 20 = .ok (.aload_n 0, 1) := by decide +kernel
theorem dX8_set_21 : decode cX8_set 21 = .ok (.invokevirtual 87, 3) := by decide +kernel
theorem dX8_set_24 : decode cX8_set 24 = .ok (.aload_n 0, 1) := by decide +kernel
theorem dX8_set_25 : decode cX8_set 25 = .ok (.getfield 7, 3) := by decide +kernel
theorem dX8_set_28 : decode cX8_set 28 = .ok (.iconst 2, 1) := by decide +kernel
theorem dX8_set_29 : decode cX8_set 29 = .ok (.iaload, 1) := by decide +kernel
theorem dX8_set_30 : decode cX8_set 30 = .ok (.istore_n 2, 1) := by decide +kernel
theorem dX8_set_31 : decode cX8_set 31 = .ok (.aload_n 0, 1) := by decide +kernel
theorem dX8_set_32 : decode cX8_set 32 = .ok (.getfield 7, 3) := by decide +kernel
theorem dX8_set_35 : decode cX8_set 35 = .ok (.iconst 2, 1) := by decide +kernel
theorem dX8_set_36 : decode cX8_set 36 = .ok (.iload_n 1, 1) := by decide +kernel
theorem dX8_set_37 : decode cX8_set 37 = .ok (.iastore, 1) := by decide +kernel
theorem dX8_set_38 : decode cX8_set 38 = .ok (.iload_n 2, 1) := by decide +kernel
theorem dX8_set_39 : decode cX8_set 39 = .ok (.ireturn, 1) := by decide +kernel
theorem dX8_append_0 : decode cX8_append 0 = .ok (.aload_n 0, 1) := by decide +kernel
theorem dX8_append_1 : decode cX8_append 1 = .ok (.iconst 0, 1) := by decide +kernel
theorem dX8_append_2 : decode cX8_append 2 = .ok (.putfield 41, 3) := by decide +kernel
theorem dX8_append_5 : decode cX8_append 5 = .ok (.iload_n 1, 1) := by decide +kernel
theorem dX8_append_6 : decode cX8_append 6 = .ok (.bipush 33, 2) := by decide +kernel
theorem dX8_append_8 : decode cX8_append 8 = .ok (.bipush 126, 2) := by decide +kernel
theorem dX8_append_10 : decode cX8_append 10 = .ok (.invokestatic 45, 3) := by decide +kernel
theorem dX8_append_13 : decode cX8_append 13 = .ok (.ifCond .ne 9, 3) := by decide +kernel
theorem dX8_append_16 : decode cX8_append 16 = .ok (.aload_n 0, 1) := by decide +kernel
theorem dX8_append_17 : decode cX8_append 17 = .ok (.iconst 1, 1) := by decide +kernel
theorem dX8_append_18 : decode cX8_append 18 = .ok (.invokevirtual 81, 3) := by decide +kernel
theorem dX8_append_21 : decode cX8_append 21 = .ok (.ireturn, 1) := by decide +kernel
theorem dX8_append_22 : decode cX8_append 22 = .ok (.aload_n 0, 1) := by decide +kernel
theorem dX8_append_23 : decode cX8_append 23 = .ok (.getfield 164, 3) := by decide +kernel
theorem dX8_append_26 : decode cX8_append 26 = .ok (.bipush 60, 2) := by decide +kernel
theorem dX8_append_28 : decode cX8_append 28 = .ok (.if_icmp .ne 9, 3) := by decide +kernel
theorem dX8_append_31 : decode cX8_append 31 = .ok (.aload_n 0, 1) := by decide +kernel
theorem dX8_append_32 : decode cX8_append 32 = .ok (.iconst 2, 1) := by decide +kernel
theorem dX8_append_33 : decode cX8_append 33 = .ok (.invokevirtual 81, 3) := by decide +kernel
theorem dX8_append_36 : decode cX8_append 36 = .ok (.ireturn, 1) := by decide +kernel
theorem dX8_append_37 : decode cX8_append 37 = .ok (.aload_n 0, 1) := by decide +kernel
theorem dX8_append_38 : decode cX8_append 38 = .ok (.getfield 26, 3) := by decide +kernel
theorem dX8_append_41 : decode cX8_append 41 = .ok (.aload_n 0, 1) := by decide +kernel
theorem dX8_append_42 : decode cX8_append 42 = .ok (.getfield 164, 3) := by decide +kernel
theorem dX8_append_45 : decode cX8_append 45 = .ok (.iload_n 1, 1) := by decide +kernel
theorem dX8_append_46 : decode cX8_append 46 = .ok (.iastore, 1) := by decide +kernel
theorem dX8_append_47 : decode cX8_append 47 = .ok (.aload_n 0, 1) := by decide +kernel
theorem dX8_append_48 : decode cX8_append 48 = .ok (.dup, 1) := by decide +kernel
theorem dX8_append_49 : decode cX8_append 49 = .ok (.getfield 164, 3) := by decide +kernel
theorem dX8_append_52 : decode cX8_append 52 = .ok (.iconst 1, 1) := by decide +kernel
theorem dX8_append_53 : decode cX8_append 53 = .ok (.iadd, 1) := by decide +kernel
theorem dX8_append_54 : decode cX8_append 54 = .ok (.putfield 164, 3) := by decide +kernel
theorem dX8_append_57 : decode cX8_append 57 = .ok (.aload_n 0, 1) := by decide +kernel
theorem dX8_append_58 : decode cX8_append 58 = .ok (.getfield 164, 3) := by decide +kernel
theorem dX8_append_61 : decode cX8_append 61 = .ok (.ireturn, 1) := by decide +kernel
theorem dX8_clearBuffer_0 : decode cX8_clearBuffer 0 = .ok (.aload_n 0, 1) := by decide +kernel
theorem dX8_clearBuffer_1 : decode cX8_clearBuffer 1 = .ok (.iconst 0, 1) := by decide +kernel
theorem dX8_clearBuffer_2 : decode cX8_clearBuffer 2 = .ok (.putfield 41, 3) := by decide +kernel
theorem dX8_clearBuffer_5 : decode cX8_clearBuffer 5 = .ok (.aload_n 0, 1) := by decide +kernel
theorem dX8_clearBuffer_6 : decode cX8_clearBuffer 6 = .ok (.getfield 164, 3) := by decide +kernel
theorem dX8_clearBuffer_9 : decode cX8_clearBuffer 9 = .ok (.istore_n 1, 1) := by decide +kernel
theorem dX8_clearBuffer_10 : decode cX8_clearBuffer 10 = .ok (.aload_n 0, 1) := by decide +kernel
theorem dX8_clearBuffer_11 : decode cX8_clearBuffer 11 = .ok (.iconst 0, 1) := by decide +kernel
theorem dX8_clearBuffer_12 : decode cX8_clearBuffer 12 = .ok (.putfield 164, 3) := by decide +kernel
theorem dX8_clearBuffer_15 : decode cX8_clearBuffer 15 = .ok (.iload_n 1, 1) := by decide +kernel
theorem dX8_clearBuffer_16 : decode cX8_clearBuffer 16 = .ok (.ireturn, 1) := by decide +kernel
theorem dX8_sees_0 : decode cX8_sees 0 = .ok (.aload_n 0, 1) := by decide +kernel
theorem dX8_sees_1 : decode cX8_sees 1 = .ok (.getfield 167, 3) := by decide +kernel
theorem dX8_sees_4 : decode cX8_sees 4 = .ok (.aload_n 0, 1) := by decide +kernel
theorem dX8_sees_5 : decode cX8_sees 5 = .ok (.getfield 164, 3) := by decide +kernel
theorem dX8_sees_8 : decode cX8_sees 8 = .ok (.if_icmp .ge 24, 3) := by decide +kernel
theorem dX8_sees_11 : decode cX8_sees 11 = .ok (.aload_n 0, 1) := by decide +kernel
theorem dX8_sees_12 : decode cX8_sees 12 = .ok (.getfield 26, 3) := by decide +kernel
theorem dX8_sees_15 : decode cX8_sees 15 = .ok (.aload_n 0, 1) := by decide +kernel
theorem dX8_sees_16 : decode cX8_sees 16 = .ok (.getfield 167, 3) := by decide +kernel
theorem dX8_sees_19 : decode cX8_sees 19 = .ok (.iaload, 1) := by decide +kernel
theorem dX8_sees_20 : decode cX8_sees 20 = .ok (.iload_n 1, 1) := by decide +kernel
theorem dX8_sees_21 : decode cX8_sees 21 = .ok (.iload_n 2, 1) := by decide +kernel
theorem dX8_sees_22 : decode cX8_sees 22 = .ok (.invokestatic 45, 3) := by decide +kernel
theorem dX8_sees_25 : decode cX8_sees 25 = .ok (.ifCond .eq 7, 3) := by decide +kernel
theorem dX8_sees_28 : decode cX8_sees 28 = .ok (.iconst 1, 1) := by decide +kernel
theorem dX8_sees_29 : decode cX8_sees 29 = .ok (.goto 4, 3) := by decide +kernel
theorem dX8_sees_32 : decode cX8_sees 32 = .ok (.iconst 0, 1) := by decide +kernel
theorem dX8_sees_33 : decode cX8_sees 33 = .ok (.ireturn, 1) := by decide +kernel
theorem dX8_takes_0 : decode cX8_takes 0 = .ok (.aload_n 0, 1) := by decide +kernel
theorem dX8_takes_1 : decode cX8_takes 1 = .ok (.iload_n 1, 1) := by decide +kernel
theorem dX8_takes_2 : decode cX8_takes 2 = .ok (.iload_n 1, 1) := by decide +kernel
theorem dX8_takes_3 : decode cX8_takes 3 = .ok (.invokevirtual 170, 3) := by decide +kernel
theorem dX8_takes_6 : decode cX8_takes 6 = .ok (.istore_n 2, 1) := by decide +kernel
theorem dX8_takes_7 : decode cX8_takes 7 = .ok (.aload_n 0, 1) := by decide +kernel
theorem dX8_takes_8 : decode cX8_takes 8 = .ok (.dup, 1) := by decide +kernel
theorem dX8_takes_9 : decode cX8_takes 9 = .ok (.getfield 167, 3) := by decide +kernel
theorem dX8_takes_12 : decode cX8_takes 12 = .ok (.iload_n 2, 1) := by decide +kernel
theorem dX8_takes_13 : decode cX8_takes 13 = .ok (.ifCond .eq 7, 3) := by decide +kernel
theorem dX8_takes_16 : decode cX8_takes 16 = .ok (.iconst 1, 1) := by decide +kernel
theorem dX8_takes_17 : decode cX8_takes 17 = .ok (.goto 4, 3) := by decide +kernel
theorem dX8_takes_20 : decode cX8_takes 20 = .ok (.iconst 0, 1) := by decide +kernel
theorem dX8_takes_21 : decode cX8_takes 21 = .ok (.iadd, 1) := by decide +kernel
theorem dX8_takes_22 : decode cX8_takes 22 = .ok (.putfield 167, 3) := by decide +kernel
theorem dX8_takes_25 : decode cX8_takes 25 = .ok (.iload_n 2, 1) := by decide +kernel
theorem dX8_takes_26 : decode cX8_takes 26 = .ok (.ireturn, 1) := by decide +kernel
theorem dX8_digit_0 : decode cX8_digit 0 = .ok (.aload_n 0, 1) := by decide +kernel
theorem dX8_digit_1 : decode cX8_digit 1 = .ok (.bipush 48, 2) := by decide +kernel
theorem dX8_digit_3 : decode cX8_digit 3 = .ok (.iload_n 2, 1) := by decide +kernel
theorem dX8_digit_4 : decode cX8_digit 4 = .ok (.iadd, 1) := by decide +kernel
theorem dX8_digit_5 : decode cX8_digit 5 = .ok (.bipush 57, 2) := by decide +kernel
theorem dX8_digit_7 : decode cX8_digit 7 = .ok (.invokevirtual 170, 3) := by decide +kernel
theorem dX8_digit_10 : decode cX8_digit 10 = .ok (.ifCond .ne 5, 3) := by decide +kernel
theorem dX8_digit_13 : decode cX8_digit 13 = .ok (.iconst 0, 1) := by decide +kernel
theorem dX8_digit_14 : decode cX8_digit 14 = .ok (.ireturn, 1) := by decide +kernel
theorem dX8_digit_15 : decode cX8_digit 15 = .ok (.aload_n 0, 1) := by decide +kernel
theorem dX8_digit_16 : decode cX8_digit 16 = .ok (.getfield 29, 3) := by decide +kernel
theorem dX8_digit_19 : decode cX8_digit 19 = .ok (.iload_n 1, 1) := by decide +kernel
theorem dX8_digit_20 : decode cX8_digit 20 = .ok (.aload_n 0, 1) := by decide +kernel
theorem dX8_digit_21 : decode cX8_digit 21 = .ok (.getfield 26, 3) := by decide +kernel
theorem dX8_digit_24 : decode cX8_digit 24 = .ok (.aload_n 0, 1) := by decide +kernel
theorem dX8_digit_25 : decode cX8_digit 25 = .ok (.getfield 167, 3) := by decide +kernel
theorem dX8_digit_28 : decode cX8_digit 28 = .ok (.iaload, 1) := by decide +kernel
theorem dX8_digit_29 : decode cX8_digit 29 = .ok (.bipush 48, 2) := by decide +kernel
theorem dX8_digit_31 : decode cX8_digit 31 = .ok (.isub, 1) := by decide +kernel
theorem dX8_digit_32 : decode cX8_digit 32 = .ok (.iastore, 1) := by decide +kernel
theorem dX8_digit_33 : decode cX8_digit 33 = .ok (.aload_n 0, 1) := by decide +kernel
theorem dX8_digit_34 : decode cX8_digit 34 = .ok (.dup, 1) := by decide +kernel
theorem dX8_digit_35 : decode cX8_digit 35 = .ok (.getfield 167, 3) := by decide +kernel
theorem dX8_digit_38 : decode cX8_digit 38 = .ok (.iconst 1, 1) := by decide +kernel
theorem dX8_digit_39 : decode cX8_digit 39 = .ok (.iadd, 1) := by decide +kernel
theorem dX8_digit_40 : decode cX8_digit 40 = .ok (.putfield 167, 3) := by decide +kernel
theorem dX8_digit_43 : decode cX8_digit 43 = .ok (.iconst 1, 1) := by decide +kernel
theorem dX8_digit_44 : decode cX8_digit 44 = .ok (.ireturn, 1) := by decide +kernel
theorem dX8_number_0 : decode cX8_number 0 = .ok (.aload_n 0, 1) := by decide +kernel
theorem dX8_number_1 : decode cX8_number 1 = .ok (.iload_n 1, 1) := by decide +kernel
theorem dX8_number_2 : decode cX8_number 2 = .ok (.iload_n 2, 1) := by decide +kernel
theorem dX8_number_3 : decode cX8_number 3 = .ok (.invokevirtual 173, 3) := by decide +kernel
theorem dX8_number_6 : decode cX8_number 6 = .ok (.ifCond .ne 5, 3) := by decide +kernel
theorem dX8_number_9 : decode cX8_number 9 = .ok (.iconst 0, 1) := by decide +kernel
theorem dX8_number_10 : decode cX8_number 10 = .ok (.ireturn, 1) := by decide +kernel
theorem dX8_number_11 : decode cX8_number 11 = .ok (.aload_n 0, 1) := by decide +kernel
theorem dX8_number_12 : decode cX8_number 12 = .ok (.getfield 29, 3) := by decide +kernel
theorem dX8_number_15 : decode cX8_number 15 = .ok (.iload_n 1, 1) := by decide +kernel
theorem dX8_number_16 : decode cX8_number 16 = .ok (.iaload, 1) := by decide +kernel
theorem dX8_number_17 : decode cX8_number 17 = .ok (.ifCond .le 83, 3) := by decide +kernel
theorem dX8_number_20 : decode cX8_number 20 = .ok (.aload_n 0, 1) := by decide +kernel
theorem dX8_number_21 : decode cX8_number 21 = .ok (.bipush 48, 2) := by decide +kernel
theorem dX8_number_23 : decode cX8_number 23 = .ok (.bipush 57, 2) := by decide +kernel
theorem dX8_number_25 : decode cX8_number 25 = .ok (.invokevirtual 170, 3) := by decide +kernel
theorem dX8_number_28 : decode cX8_number 28 = .ok (.ifCond .eq 72, 3) := by decide +kernel
theorem dX8_number_31 : decode cX8_number 31 = .ok (.bipush 10, 2) := by decide +kernel
theorem dX8_number_33 : decode cX8_number 33 = .ok (.aload_n 0, 1) := by decide +kernel
theorem dX8_number_34 : decode cX8_number 34 = .ok (.getfield 29, 3) := by decide +kernel
theorem dX8_number_37 : decode cX8_number 37 = .ok (.iload_n 1, 1) := by decide +kernel
theorem dX8_number_38 : decode cX8_number 38 = .ok (.iaload, 1) := by decide +kernel
theorem dX8_number_39 : decode cX8_number 39 = .ok (.imul, 1) := by decide +kernel
theorem dX8_number_40 : decode cX8_number 40 = .ok (.aload_n 0, 1) := by decide +kernel
theorem dX8_number_41 : decode cX8_number 41 = .ok (.getfield 26, 3) := by decide +kernel
theorem dX8_number_44 : decode cX8_number 44 = .ok (.aload_n 0, 1) := by decide +kernel
theorem dX8_number_45 : decode cX8_number 45 = .ok (.getfield 167, 3) := by decide +kernel
theorem dX8_number_48 : decode cX8_number 48 = .ok (.iaload, 1) := by decide +kernel
theorem dX8_number_49 : decode cX8_number 49 = .ok (.iadd, 1) := by decide +kernel
theorem dX8_number_50 : decode cX8_number 50 = .ok (.bipush 48, 2) := by decide +kernel
theorem dX8_number_52 : decode cX8_number 52 = .ok (.isub, 1) := by decide +kernel
theorem dX8_number_53 : decode cX8_number 53 = .ok (.sipush 200, 3) := by decide +kernel
theorem dX8_number_56 : decode cX8_number 56 = .ok (.if_icmp .gt 44, 3) := by decide +kernel
theorem dX8_number_59 : decode cX8_number 59 = .ok (.aload_n 0, 1) := by decide +kernel
theorem dX8_number_60 : decode cX8_number 60 = .ok (.getfield 29, 3) := by decide +kernel
theorem dX8_number_63 : decode cX8_number 63 = .ok (.iload_n 1, 1) := by decide +kernel
theorem dX8_number_64 : decode cX8_number 64 = .ok (.bipush 10, 2) := by decide +kernel
theorem dX8_number_66 : decode cX8_number 66 = .ok (.aload_n 0, 1) := by decide +kernel
theorem dX8_number_67 : decode cX8_number 67 = .ok (.getfield 29, 3) := by decide +kernel
theorem dX8_number_70 : decode cX8_number 70 = .ok (.iload_n 1, 1) := by decide +kernel
theorem dX8_number_71 : decode cX8_number 71 = .ok (.iaload, 1) := by decide +kernel
theorem dX8_number_72 : decode cX8_number 72 = .ok (.imul, 1) := by decide +kernel
theorem dX8_number_73 : decode cX8_number 73 = .ok (.aload_n 0, 1) := by decide +kernel
theorem dX8_number_74 : decode cX8_number 74 = .ok (.getfield 26, 3) := by decide +kernel
theorem dX8_number_77 : decode cX8_number 77 = .ok (.aload_n 0, 1) := by decide +kernel
theorem dX8_number_78 : decode cX8_number 78 = .ok (.getfield 167, 3) := by decide +kernel
theorem dX8_number_81 : decode cX8_number 81 = .ok (.iaload, 1) := by decide +kernel
theorem dX8_number_82 : decode cX8_number 82 = .ok (.iadd, 1) := by decide +kernel
theorem dX8_number_83 : decode cX8_number 83 = .ok (.bipush 48, 2) := by decide +kernel
theorem dX8_number_85 : decode cX8_number 85 = .ok (.isub, 1) := by decide +kernel
theorem dX8_number_86 : decode cX8_number 86 = .ok (.iastore, 1) := by decide +kernel
theorem dX8_number_87 : decode cX8_number 87 = .ok (.aload_n 0, 1) := by decide +kernel
theorem dX8_number_88 : decode cX8_number 88 = .ok (.dup, 1) := by decide +kernel
theorem dX8_number_89 : decode cX8_number 89 = .ok (.getfield 167, 3) := by decide +kernel
theorem dX8_number_92 : decode cX8_number 92 = .ok (.iconst 1, 1) := by decide +kernel
theorem dX8_number_93 : decode cX8_number 93 = .ok (.iadd, 1) := by decide +kernel
theorem dX8_number_94 : decode cX8_number 94 = .ok (.putfield 167, 3) := by decide +kernel
theorem dX8_number_97 : decode cX8_number 97 = .ok (.goto (-86), 3) := by decide +kernel
theorem dX8_number_100 : decode cX8_number 100 = .ok (.iconst 1, 1) := by decide +kernel
theorem dX8_number_101 : decode cX8_number 101 = .ok (.ireturn, 1) := by decide +kernel
theorem dX8_reads_0 : decode cX8_reads 0 = .ok (.iload_n 1, 1) := by decide +kernel
theorem dX8_reads_1 : decode cX8_reads 1 = .ok (.lookupswitch 41 #[(43, 27), (45, 34)], 27) := by decide +kernel
theorem dX8_reads_28 : decode cX8_reads 28 = .ok (.aload_n 0, 1) := by decide +kernel
theorem dX8_reads_29 : decode cX8_reads 29 = .ok (.iconst 0, 1) := by decide +kernel
theorem dX8_reads_30 : decode cX8_reads 30 = .ok (.iconst 0, 1) := by decide +kernel
theorem dX8_reads_31 : decode cX8_reads 31 = .ok (.invokevirtual 176, 3) := by decide +kernel
theorem dX8_reads_34 : decode cX8_reads 34 = .ok (.ireturn, 1) := by decide +kernel
theorem dX8_reads_35 : decode cX8_reads 35 = .ok (.aload_n 0, 1) := by decide +kernel
theorem dX8_reads_36 : decode cX8_reads 36 = .ok (.iconst 0, 1) := by decide +kernel
theorem dX8_reads_37 : decode cX8_reads 37 = .ok (.iconst 0, 1) := by decide +kernel
theorem dX8_reads_38 : decode cX8_reads 38 = .ok (.invokevirtual 173, 3) := by decide +kernel
theorem dX8_reads_41 : decode cX8_reads 41 = .ok (.ireturn, 1) := by decide +kernel
theorem dX8_reads_42 : decode cX8_reads 42 = .ok (.aload_n 0, 1) := by decide +kernel
theorem dX8_reads_43 : decode cX8_reads 43 = .ok (.iconst 0, 1) := by decide +kernel
theorem dX8_reads_44 : decode cX8_reads 44 = .ok (.iconst 0, 1) := by decide +kernel
theorem dX8_reads_45 : decode cX8_reads 45 = .ok (.invokevirtual 173, 3) := by decide +kernel
theorem dX8_reads_48 : decode cX8_reads 48 = .ok (.ifCond .eq 25, 3) := by decide +kernel
theorem dX8_reads_51 : decode cX8_reads 51 = .ok (.aload_n 0, 1) := by decide +kernel
theorem dX8_reads_52 : decode cX8_reads 52 = .ok (.bipush 58, 2) := by decide +kernel
theorem dX8_reads_54 : decode cX8_reads 54 = .ok (.invokevirtual 179, 3) := by decide +kernel
theorem dX8_reads_57 : decode cX8_reads 57 = .ok (.ifCond .eq 16, 3) := by decide +kernel
theorem dX8_reads_60 : decode cX8_reads 60 = .ok (.aload_n 0, 1) := by decide +kernel
theorem dX8_reads_61 : decode cX8_reads 61 = .ok (.iconst 1, 1) := by decide +kernel
theorem dX8_reads_62 : decode cX8_reads 62 = .ok (.iconst 1, 1) := by decide +kernel
theorem dX8_reads_63 : decode cX8_reads 63 = .ok (.invokevirtual 176, 3) := by decide +kernel
theorem dX8_reads_66 : decode cX8_reads 66 = .ok (.ifCond .eq 7, 3) := by decide +kernel
theorem dX8_reads_69 : decode cX8_reads 69 = .ok (.iconst 1, 1) := by decide +kernel
theorem dX8_reads_70 : decode cX8_reads 70 = .ok (.goto 4, 3) := by decide +kernel
theorem dX8_reads_73 : decode cX8_reads 73 = .ok (.iconst 0, 1) := by decide +kernel
theorem dX8_reads_74 : decode cX8_reads 74 = .ok (.ireturn, 1) := by decide +kernel
theorem dX8_reading_0 : decode cX8_reading 0 = .ok (.aload_n 0, 1) := by decide +kernel
theorem dX8_reading_1 : decode cX8_reading 1 = .ok (.getfield 167, 3) := by decide +kernel
theorem dX8_reading_4 : decode cX8_reading 4 = .ok (.aload_n 0, 1) := by decide +kernel
theorem dX8_reading_5 : decode cX8_reading 5 = .ok (.getfield 164, 3) := by decide +kernel
theorem dX8_reading_8 : decode cX8_reading 8 = .ok (.if_icmp .ge 15, 3) := by decide +kernel
theorem dX8_reading_11 : decode cX8_reading 11 = .ok (.aload_n 0, 1) := by decide +kernel
theorem dX8_reading_12 : decode cX8_reading 12 = .ok (.getfield 26, 3) := by decide +kernel
theorem dX8_reading_15 : decode cX8_reading 15 = .ok (.aload_n 0, 1) := by decide +kernel
theorem dX8_reading_16 : decode cX8_reading 16 = .ok (.getfield 167, 3) := by decide +kernel
theorem dX8_reading_19 : decode cX8_reading 19 = .ok (.iaload, 1) := by decide +kernel
theorem dX8_reading_20 : decode cX8_reading 20 = .ok (.goto 4, 3) := by decide +kernel
theorem dX8_reading_23 : decode cX8_reading 23 = .ok (.iconst 0, 1) := by decide +kernel
theorem dX8_reading_24 : decode cX8_reading 24 = .ok (.istore_n 1, 1) := by decide +kernel
theorem dX8_reading_25 : decode cX8_reading 25 = .ok (.iload_n 1, 1) := by decide +kernel
theorem dX8_reading_26 : decode cX8_reading 26 = .ok (.bipush 43, 2) := by decide +kernel
theorem dX8_reading_28 : decode cX8_reading 28 = .ok (.if_icmp .eq 23, 3) := by decide +kernel
theorem dX8_reading_31 : decode cX8_reading 31 = .ok (.iload_n 1, 1) := by decide +kernel
theorem dX8_reading_32 : decode cX8_reading 32 = .ok (.bipush 45, 2) := by decide +kernel
theorem dX8_reading_34 : decode cX8_reading 34 = .ok (.if_icmp .eq 17, 3) := by decide +kernel
theorem dX8_reading_37 : decode cX8_reading 37 = .ok (.iload_n 1, 1) := by decide +kernel
theorem dX8_reading_38 : decode cX8_reading 38 = .ok (.bipush 60, 2) := by decide +kernel
theorem dX8_reading_40 : decode cX8_reading 40 = .ok (.if_icmp .eq 11, 3) := by decide +kernel
theorem dX8_reading_43 : decode cX8_reading 43 = .ok (.iload_n 1, 1) := by decide +kernel
theorem dX8_reading_44 : decode cX8_reading 44 = .ok (.bipush 62, 2) := by decide +kernel
theorem dX8_reading_46 : decode cX8_reading 46 = .ok (.if_icmp .eq 5, 3) := by decide +kernel
theorem dX8_reading_49 : decode cX8_reading 49 = .ok (.iconst 0, 1) := by decide +kernel
theorem dX8_reading_50 : decode cX8_reading 50 = .ok (.ireturn, 1) := by decide +kernel
theorem dX8_reading_51 : decode cX8_reading 51 = .ok (.aload_n 0, 1) := by decide +kernel
theorem dX8_reading_52 : decode cX8_reading 52 = .ok (.dup, 1) := by decide +kernel
theorem dX8_reading_53 : decode cX8_reading 53 = .ok (.getfield 167, 3) := by decide +kernel
theorem dX8_reading_56 : decode cX8_reading 56 = .ok (.iconst 1, 1) := by decide +kernel
theorem dX8_reading_57 : decode cX8_reading 57 = .ok (.iadd, 1) := by decide +kernel
theorem dX8_reading_58 : decode cX8_reading 58 = .ok (.putfield 167, 3) := by decide +kernel
theorem dX8_reading_61 : decode cX8_reading 61 = .ok (.aload_n 0, 1) := by decide +kernel
theorem dX8_reading_62 : decode cX8_reading 62 = .ok (.iload_n 1, 1) := by decide +kernel
theorem dX8_reading_63 : decode cX8_reading 63 = .ok (.invokevirtual 182, 3) := by decide +kernel
theorem dX8_reading_66 : decode cX8_reading 66 = .ok (.ifCond .eq 7, 3) := by decide +kernel
theorem dX8_reading_69 : decode cX8_reading 69 = .ok (.iload_n 1, 1) := by decide +kernel
theorem dX8_reading_70 : decode cX8_reading 70 = .ok (.goto 4, 3) := by decide +kernel
theorem dX8_reading_73 : decode cX8_reading 73 = .ok (.iconst 0, 1) := by decide +kernel
theorem dX8_reading_74 : decode cX8_reading 74 = .ok (.ireturn, 1) := by decide +kernel
theorem dX8_isWell_0 : decode cX8_isWell 0 = .ok (.aload_n 0, 1) := by decide +kernel
theorem dX8_isWell_1 : decode cX8_isWell 1 = .ok (.iconst 0, 1) := by decide +kernel
theorem dX8_isWell_2 : decode cX8_isWell 2 = .ok (.putfield 167, 3) := by decide +kernel
theorem dX8_isWell_5 : decode cX8_isWell 5 = .ok (.aload_n 0, 1) := by decide +kernel
theorem dX8_isWell_6 : decode cX8_isWell 6 = .ok (.invokevirtual 185, 3) := by decide +kernel
theorem dX8_isWell_9 : decode cX8_isWell 9 = .ok (.ifCond .eq 7, 3) := by decide +kernel
theorem dX8_isWell_12 : decode cX8_isWell 12 = .ok (.iconst 1, 1) := by decide +kernel
theorem dX8_isWell_13 : decode cX8_isWell 13 = .ok (.goto 4, 3) := by decide +kernel
theorem dX8_isWell_16 : decode cX8_isWell 16 = .ok (.iconst 0, 1) := by decide +kernel
theorem dX8_isWell_17 : decode cX8_isWell 17 = .ok (.istore_n 1, 1) := by decide +kernel
theorem dX8_isWell_18 : decode cX8_isWell 18 = .ok (.iload_n 1, 1) := by decide +kernel
theorem dX8_isWell_19 : decode cX8_isWell 19 = .ok (.ifCond .eq 39, 3) := by decide +kernel
theorem dX8_isWell_22 : decode cX8_isWell 22 = .ok (.aload_n 0, 1) := by decide +kernel
theorem dX8_isWell_23 : decode cX8_isWell 23 = .ok (.getfield 167, 3) := by decide +kernel
theorem dX8_isWell_26 : decode cX8_isWell 26 = .ok (.aload_n 0, 1) := by decide +kernel
theorem dX8_isWell_27 : decode cX8_isWell 27 = .ok (.getfield 164, 3) := by decide +kernel
theorem dX8_isWell_30 : decode cX8_isWell 30 = .ok (.if_icmp .ge 28, 3) := by decide +kernel
theorem dX8_isWell_33 : decode cX8_isWell 33 = .ok (.aload_n 0, 1) := by decide +kernel
theorem dX8_isWell_34 : decode cX8_isWell 34 = .ok (.bipush 59, 2) := by decide +kernel
theorem dX8_isWell_36 : decode cX8_isWell 36 = .ok (.invokevirtual 179, 3) := by decide +kernel
theorem dX8_isWell_39 : decode cX8_isWell 39 = .ok (.ifCond .eq 14, 3) := by decide +kernel
theorem dX8_isWell_42 : decode cX8_isWell 42 = .ok (.aload_n 0, 1) := by decide +kernel
theorem dX8_isWell_43 : decode cX8_isWell 43 = .ok (.invokevirtual 185, 3) := by decide +kernel
theorem dX8_isWell_46 : decode cX8_isWell 46 = .ok (.ifCond .eq 7, 3) := by decide +kernel
theorem dX8_isWell_49 : decode cX8_isWell 49 = .ok (.iconst 1, 1) := by decide +kernel
theorem dX8_isWell_50 : decode cX8_isWell 50 = .ok (.goto 4, 3) := by decide +kernel
theorem dX8_isWell_53 : decode cX8_isWell 53 = .ok (.iconst 0, 1) := by decide +kernel
theorem dX8_isWell_54 : decode cX8_isWell 54 = .ok (.istore_n 1, 1) := by decide +kernel
theorem dX8_isWell_55 : decode cX8_isWell 55 = .ok (.goto (-37), 3) := by decide +kernel
theorem dX8_isWell_58 : decode cX8_isWell 58 = .ok (.iload_n 1, 1) := by decide +kernel
theorem dX8_isWell_59 : decode cX8_isWell 59 = .ok (.ireturn, 1) := by decide +kernel
theorem dX8_firstError_0 : decode cX8_firstError 0 = .ok (.aload_n 0, 1) := by decide +kernel
theorem dX8_firstError_1 : decode cX8_firstError 1 = .ok (.iconst 0, 1) := by decide +kernel
theorem dX8_firstError_2 : decode cX8_firstError 2 = .ok (.putfield 41, 3) := by decide +kernel
theorem dX8_firstError_5 : decode cX8_firstError 5 = .ok (.aload_n 0, 1) := by decide +kernel
theorem dX8_firstError_6 : decode cX8_firstError 6 = .ok (.invokevirtual 188, 3) := by decide +kernel
theorem dX8_firstError_9 : decode cX8_firstError 9 = .ok (.ifCond .eq 10, 3) := by decide +kernel
theorem dX8_firstError_12 : decode cX8_firstError 12 = .ok (.aload_n 0, 1) := by decide +kernel
theorem dX8_firstError_13 : decode cX8_firstError 13 = .ok (.getfield 164, 3) := by decide +kernel
theorem dX8_firstError_16 : decode cX8_firstError 16 = .ok (.goto 7, 3) := by decide +kernel
theorem dX8_firstError_19 : decode cX8_firstError 19 = .ok (.aload_n 0, 1) := by decide +kernel
theorem dX8_firstError_20 : decode cX8_firstError 20 = .ok (.getfield 167, 3) := by decide +kernel
theorem dX8_firstError_23 : decode cX8_firstError 23 = .ok (.ireturn, 1) := by decide +kernel
theorem dX8_does_0 : decode cX8_does 0 = .ok (.iload_n 1, 1) := by decide +kernel
theorem dX8_does_1 : decode cX8_does 1 = .ok (.bipush 43, 2) := by decide +kernel
theorem dX8_does_3 : decode cX8_does 3 = .ok (.if_icmp .ne 14, 3) := by decide +kernel
theorem dX8_does_6 : decode cX8_does 6 = .ok (.aload_n 0, 1) := by decide +kernel
theorem dX8_does_7 : decode cX8_does 7 = .ok (.aload_n 0, 1) := by decide +kernel
theorem dX8_does_8 : decode cX8_does 8 = .ok (.getfield 29, 3) := by decide +kernel
theorem dX8_does_11 : decode cX8_does 11 = .ok (.iconst 0, 1) := by decide +kernel
theorem dX8_does_12 : decode cX8_does 12 = .ok (.iaload, 1) := by decide +kernel
theorem dX8_does_13 : decode cX8_does 13 = .ok (.invokevirtual 131, 3) := by decide +kernel
theorem dX8_does_16 : decode cX8_does 16 = .ok (.ireturn, 1) := by decide +kernel
theorem dX8_does_17 : decode cX8_does 17 = .ok (.aload_n 0, 1) := by decide +kernel
theorem dX8_does_18 : decode cX8_does 18 = .ok (.aload_n 0, 1) := by decide +kernel
theorem dX8_does_19 : decode cX8_does 19 = .ok (.getfield 29, 3) := by decide +kernel
theorem dX8_does_22 : decode cX8_does 22 = .ok (.iconst 0, 1) := by decide +kernel
theorem dX8_does_23 : decode cX8_does 23 = .ok (.iaload, 1) := by decide +kernel
theorem dX8_does_24 : decode cX8_does 24 = .ok (.invokevirtual 53, 3) := by decide +kernel
theorem dX8_does_27 : decode cX8_does 27 = .ok (.ifCond .ne 5, 3) := by decide +kernel
theorem dX8_does_30 : decode cX8_does 30 = .ok (.iconst (-1), 1) := by decide +kernel
theorem dX8_does_31 : decode cX8_does 31 = .ok (.ireturn, 1) := by decide +kernel
theorem dX8_does_32 : decode cX8_does 32 = .ok (.iload_n 1, 1) := by decide +kernel
theorem dX8_does_33 : decode cX8_does 33 = .ok (.bipush 45, 2) := by decide +kernel
theorem dX8_does_35 : decode cX8_does 35 = .ok (.if_icmp .ne 16, 3) := by decide +kernel
theorem dX8_does_38 : decode cX8_does 38 = .ok (.aload_n 0, 1) := by decide +kernel
theorem dX8_does_39 : decode cX8_does 39 = .ok (.aload_n 0, 1) := by decide +kernel
theorem dX8_does_40 : decode cX8_does 40 = .ok (.getfield 29, 3) := by decide +kernel
theorem dX8_does_43 : decode cX8_does 43 = .ok (.iconst 0, 1) := by decide +kernel
theorem dX8_does_44 : decode cX8_does 44 = .ok (.iaload, 1) := by decide +kernel
theorem dX8_does_45 : decode cX8_does 45 = .ok (.invokevirtual 140, 3) := by decide +kernel
theorem dX8_does_48 : decode cX8_does 48 = .ok (.goto 44, 3) := by decide +kernel
theorem dX8_does_51 : decode cX8_does 51 = .ok (.iload_n 1, 1) := by decide +kernel
theorem dX8_does_52 : decode cX8_does 52 = .ok (.bipush 62, 2) := by decide +kernel
theorem dX8_does_54 : decode cX8_does 54 = .ok (.if_icmp .ne 22, 3) := by decide +kernel
theorem dX8_does_57 : decode cX8_does 57 = .ok (.aload_n 0, 1) := by decide +kernel
theorem dX8_does_58 : decode cX8_does 58 = .ok (.aload_n 0, 1) := by decide +kernel
theorem dX8_does_59 : decode cX8_does 59 = .ok (.getfield 29, 3) := by decide +kernel
theorem dX8_does_62 : decode cX8_does 62 = .ok (.iconst 0, 1) := by decide +kernel
theorem dX8_does_63 : decode cX8_does 63 = .ok (.iaload, 1) := by decide +kernel
theorem dX8_does_64 : decode cX8_does 64 = .ok (.aload_n 0, 1) := by decide +kernel
theorem dX8_does_65 : decode cX8_does 65 = .ok (.getfield 29, 3) := by decide +kernel
theorem dX8_does_68 : decode cX8_does 68 = .ok (.iconst 1, 1) := by decide +kernel
theorem dX8_does_69 : decode cX8_does 69 = .ok (.iaload, 1) := by decide +kernel
theorem dX8_does_70 : decode cX8_does 70 = .ok (.invokevirtual 134, 3) := by decide +kernel
theorem dX8_does_73 : decode cX8_does 73 = .ok (.goto 19, 3) := by decide +kernel
theorem dX8_does_76 : decode cX8_does 76 = .ok (.aload_n 0, 1) := by decide +kernel
theorem dX8_does_77 : decode cX8_does 77 = .ok (.aload_n 0, 1) := by decide +kernel
theorem dX8_does_78 : decode cX8_does 78 = .ok (.getfield 29, 3) := by decide +kernel
theorem dX8_does_81 : decode cX8_does 81 = .ok (.iconst 0, 1) := by decide +kernel
theorem dX8_does_82 : decode cX8_does 82 = .ok (.iaload, 1) := by decide +kernel
theorem dX8_does_83 : decode cX8_does 83 = .ok (.aload_n 0, 1) := by decide +kernel
theorem dX8_does_84 : decode cX8_does 84 = .ok (.getfield 29, 3) := by decide +kernel
theorem dX8_does_87 : decode cX8_does 87 = .ok (.iconst 1, 1) := by decide +kernel
theorem dX8_does_88 : decode cX8_does 88 = .ok (.iaload, 1) := by decide +kernel
theorem dX8_does_89 : decode cX8_does 89 = .ok (.invokevirtual 137, 3) := by decide +kernel
theorem dX8_does_92 : decode cX8_does 92 = .ok (.ireturn, 1) := by decide +kernel
theorem dX8_run_0 : decode cX8_run 0 = .ok (.aload_n 0, 1) := by decide +kernel
theorem dX8_run_1 : decode cX8_run 1 = .ok (.iconst 0, 1) := by decide +kernel
theorem dX8_run_2 : decode cX8_run 2 = .ok (.putfield 41, 3) := by decide +kernel
theorem dX8_run_5 : decode cX8_run 5 = .ok (.aload_n 0, 1) := by decide +kernel
theorem dX8_run_6 : decode cX8_run 6 = .ok (.invokevirtual 188, 3) := by decide +kernel
theorem dX8_run_9 : decode cX8_run 9 = .ok (.ifCond .ne 9, 3) := by decide +kernel
theorem dX8_run_12 : decode cX8_run 12 = .ok (.aload_n 0, 1) := by decide +kernel
theorem dX8_run_13 : decode cX8_run 13 = .ok (.iconst 1, 1) := by decide +kernel
theorem dX8_run_14 : decode cX8_run 14 = .ok (.invokevirtual 81, 3) := by decide +kernel
theorem dX8_run_17 : decode cX8_run 17 = .ok (.ireturn, 1) := by decide +kernel
theorem dX8_run_18 : decode cX8_run 18 = .ok (.aload_n 0, 1) := by decide +kernel
theorem dX8_run_19 : decode cX8_run 19 = .ok (.invokevirtual 87, 3) := by decide +kernel
theorem dX8_run_22 : decode cX8_run 22 = .ok (.aload_n 0, 1) := by decide +kernel
theorem dX8_run_23 : decode cX8_run 23 = .ok (.iconst 0, 1) := by decide +kernel
theorem dX8_run_24 : decode cX8_run 24 = .ok (.putfield 167, 3) := by decide +kernel
theorem dX8_run_27 : decode cX8_run 27 = .ok (.iconst 0, 1) := by decide +kernel
theorem dX8_run_28 : decode cX8_run 28 = .ok (.istore_n 1, 1) := by decide +kernel
theorem dX8_run_29 : decode cX8_run 29 = .ok (.iconst 1, 1) := by decide +kernel
theorem dX8_run_30 : decode cX8_run 30 = .ok (.istore_n 2, 1) := by decide +kernel
theorem dX8_run_31 : decode cX8_run 31 = .ok (.iload_n 2, 1) := by decide +kernel
theorem dX8_run_32 : decode cX8_run 32 = .ok (.ifCond .eq 57, 3) := by decide +kernel
theorem dX8_run_35 : decode cX8_run 35 = .ok (.aload_n 0, 1) := by decide +kernel
theorem dX8_run_36 : decode cX8_run 36 = .ok (.getfield 167, 3) := by decide +kernel
theorem dX8_run_39 : decode cX8_run 39 = .ok (.aload_n 0, 1) := by decide +kernel
theorem dX8_run_40 : decode cX8_run 40 = .ok (.getfield 164, 3) := by decide +kernel
theorem dX8_run_43 : decode cX8_run 43 = .ok (.if_icmp .ge 46, 3) := by decide +kernel
theorem dX8_run_46 : decode cX8_run 46 = .ok (.aload_n 0, 1) := by decide +kernel
theorem dX8_run_47 : decode cX8_run 47 = .ok (.aload_n 0, 1) := by decide +kernel
theorem dX8_run_48 : decode cX8_run 48 = .ok (.invokevirtual 185, 3) := by decide +kernel
theorem dX8_run_51 : decode cX8_run 51 = .ok (.invokevirtual 192, 3) := by decide +kernel
theorem dX8_run_54 : decode cX8_run 54 = .ok (.iconst (-1), 1) := by decide +kernel
theorem dX8_run_55 : decode cX8_run 55 = .ok (.if_icmp .eq 7, 3) := by decide +kernel
theorem dX8_run_58 : decode cX8_run 58 = .ok (.iconst 1, 1) := by decide +kernel
theorem dX8_run_59 : decode cX8_run 59 = .ok (.goto 4, 3) := by decide +kernel
theorem dX8_run_62 : decode cX8_run 62 = .ok (.iconst 0, 1) := by decide +kernel
theorem dX8_run_63 : decode cX8_run 63 = .ok (.istore_n 2, 1) := by decide +kernel
theorem dX8_run_64 : decode cX8_run 64 = .ok (.iload_n 1, 1) := by decide +kernel
theorem dX8_run_65 : decode cX8_run 65 = .ok (.iload_n 2, 1) := by decide +kernel
theorem dX8_run_66 : decode cX8_run 66 = .ok (.ifCond .eq 7, 3) := by decide +kernel
theorem dX8_run_69 : decode cX8_run 69 = .ok (.iconst 1, 1) := by decide +kernel
theorem dX8_run_70 : decode cX8_run 70 = .ok (.goto 4, 3) := by decide +kernel
theorem dX8_run_73 : decode cX8_run 73 = .ok (.iconst 0, 1) := by decide +kernel
theorem dX8_run_74 : decode cX8_run 74 = .ok (.iadd, 1) := by decide +kernel
theorem dX8_run_75 : decode cX8_run 75 = .ok (.istore_n 1, 1) := by decide +kernel
theorem dX8_run_76 : decode cX8_run 76 = .ok (.aload_n 0, 1) := by decide +kernel
theorem dX8_run_77 : decode cX8_run 77 = .ok (.dup, 1) := by decide +kernel
theorem dX8_run_78 : decode cX8_run 78 = .ok (.getfield 167, 3) := by decide +kernel
theorem dX8_run_81 : decode cX8_run 81 = .ok (.iconst 1, 1) := by decide +kernel
theorem dX8_run_82 : decode cX8_run 82 = .ok (.iadd, 1) := by decide +kernel
theorem dX8_run_83 : decode cX8_run 83 = .ok (.putfield 167, 3) := by decide +kernel
theorem dX8_run_86 : decode cX8_run 86 = .ok (.goto (-55), 3) := by decide +kernel
theorem dX8_run_89 : decode cX8_run 89 = .ok (.aload_n 0, 1) := by decide +kernel
theorem dX8_run_90 : decode cX8_run 90 = .ok (.iconst 0, 1) := by decide +kernel
theorem dX8_run_91 : decode cX8_run 91 = .ok (.putfield 164, 3) := by decide +kernel
theorem dX8_run_94 : decode cX8_run 94 = .ok (.iload_n 1, 1) := by decide +kernel
theorem dX8_run_95 : decode cX8_run 95 = .ok (.ireturn, 1) := by decide +kernel
theorem dX8_property_0 : decode cX8_property 0 = .ok (.iload_n 2, 1) := by decide +kernel
theorem dX8_property_1 : decode cX8_property 1 = .ok (.tableswitch 103 0 5 #[39, 46, 52, 58, 77, 96], 39) := by decide +kernel
theorem dX8_property_40 : decode cX8_property 40 = .ok (.aload_n 0, 1) := by decide +kernel
theorem dX8_property_41 : decode cX8_property 41 = .ok (.iload_n 1, 1) := by decide +kernel
theorem dX8_property_42 : decode cX8_property 42 = .ok (.iconst 1, 1) := by decide +kernel
theorem dX8_property_43 : decode cX8_property 43 = .ok (.invokevirtual 49, 3) := by decide +kernel
theorem dX8_property_46 : decode cX8_property 46 = .ok (.ireturn, 1) := by decide +kernel
theorem dX8_property_47 : decode cX8_property 47 = .ok (.aload_n 0, 1) := by decide +kernel
theorem dX8_property_48 : decode cX8_property 48 = .ok (.iload_n 1, 1) := by decide +kernel
theorem dX8_property_49 : decode cX8_property 49 = .ok (.invokevirtual 93, 3) := by decide +kernel
theorem dX8_property_52 : decode cX8_property 52 = .ok (.ireturn, 1) := by decide +kernel
theorem dX8_property_53 : decode cX8_property 53 = .ok (.aload_n 0, 1) := by decide +kernel
theorem dX8_property_54 : decode cX8_property 54 = .ok (.iload_n 1, 1) := by decide +kernel
theorem dX8_property_55 : decode cX8_property 55 = .ok (.invokevirtual 57, 3) := by decide +kernel
theorem dX8_property_58 : decode cX8_property 58 = .ok (.ireturn, 1) := by decide +kernel
theorem dX8_property_59 : decode cX8_property 59 = .ok (.aload_n 0, 1) := by decide +kernel
theorem dX8_property_60 : decode cX8_property 60 = .ok (.iload_n 1, 1) := by decide +kernel
theorem dX8_property_61 : decode cX8_property 61 = .ok (.invokevirtual 57, 3) := by decide +kernel
theorem dX8_property_64 : decode cX8_property 64 = .ok (.ifCond .ne 7, 3) := by decide +kernel
theorem dX8_property_67 : decode cX8_property 67 = .ok (.iconst (-1), 1) := by decide +kernel
theorem dX8_property_68 : decode cX8_property 68 = .ok (.goto 9, 3) := by decide +kernel
theorem dX8_property_71 : decode cX8_property 71 = .ok (.aload_n 0, 1) := by decide +kernel
theorem dX8_property_72 : decode cX8_property 72 = .ok (.iload_n 1, 1) := by decide +kernel
theorem dX8_property_73 : decode cX8_property 73 = .ok (.iconst 3, 1) := by decide +kernel
theorem dX8_property_74 : decode cX8_property 74 = .ok (.invokevirtual 49, 3) := by decide +kernel
theorem dX8_property_77 : decode cX8_property 77 = .ok (.ireturn, 1) := by decide +kernel
theorem dX8_property_78 : decode cX8_property 78 = .ok (.aload_n 0, 1) := by decide +kernel
theorem dX8_property_79 : decode cX8_property 79 = .ok (.iload_n 1, 1) := by decide +kernel
theorem dX8_property_80 : decode cX8_property 80 = .ok (.invokevirtual 57, 3) := by decide +kernel
theorem dX8_property_83 : decode cX8_property 83 = .ok (.ifCond .ne 7, 3) := by decide +kernel
theorem dX8_property_86 : decode cX8_property 86 = .ok (.iconst (-1), 1) := by decide +kernel
theorem dX8_property_87 : decode cX8_property 87 = .ok (.goto 9, 3) := by decide +kernel
theorem dX8_property_90 : decode cX8_property 90 = .ok (.aload_n 0, 1) := by decide +kernel
theorem dX8_property_91 : decode cX8_property 91 = .ok (.iload_n 1, 1) := by decide +kernel
theorem dX8_property_92 : decode cX8_property 92 = .ok (.iconst 4, 1) := by decide +kernel
theorem dX8_property_93 : decode cX8_property 93 = .ok (.invokevirtual 49, 3) := by decide +kernel
theorem dX8_property_96 : decode cX8_property 96 = .ok (.ireturn, 1) := by decide +kernel
theorem dX8_property_97 : decode cX8_property 97 = .ok (.aload_n 0, 1) := by decide +kernel
theorem dX8_property_98 : decode cX8_property 98 = .ok (.iload_n 1, 1) := by decide +kernel
theorem dX8_property_99 : decode cX8_property 99 = .ok (.iconst 2, 1) := by decide +kernel
theorem dX8_property_100 : decode cX8_property 100 = .ok (.invokevirtual 49, 3) := by decide +kernel
theorem dX8_property_103 : decode cX8_property 103 = .ok (.ireturn, 1) := by decide +kernel
theorem dX8_property_104 : decode cX8_property 104 = .ok (.aload_n 0, 1) := by decide +kernel
theorem dX8_property_105 : decode cX8_property 105 = .ok (.iload_n 1, 1) := by decide +kernel
theorem dX8_property_106 : decode cX8_property 106 = .ok (.iconst 5, 1) := by decide +kernel
theorem dX8_property_107 : decode cX8_property 107 = .ok (.invokevirtual 49, 3) := by decide +kernel
theorem dX8_property_110 : decode cX8_property 110 = .ok (.ireturn, 1) := by decide +kernel
theorem dX8_fileOf_0 : decode cX8_fileOf 0 = .ok (.aload_n 0, 1) := by decide +kernel
theorem dX8_fileOf_1 : decode cX8_fileOf 1 = .ok (.iconst 0, 1) := by decide +kernel
theorem dX8_fileOf_2 : decode cX8_fileOf 2 = .ok (.putfield 41, 3) := by decide +kernel
theorem dX8_fileOf_5 : decode cX8_fileOf 5 = .ok (.aload_n 0, 1) := by decide +kernel
theorem dX8_fileOf_6 : decode cX8_fileOf 6 = .ok (.iload_n 1, 1) := by decide +kernel
theorem dX8_fileOf_7 : decode cX8_fileOf 7 = .ok (.invokevirtual 53, 3) := by decide +kernel
theorem dX8_fileOf_10 : decode cX8_fileOf 10 = .ok (.ifCond .ne 9, 3) := by decide +kernel
theorem dX8_fileOf_13 : decode cX8_fileOf 13 = .ok (.aload_n 0, 1) := by decide +kernel
theorem dX8_fileOf_14 : decode cX8_fileOf 14 = .ok (.iconst 1, 1) := by decide +kernel
theorem dX8_fileOf_15 : decode cX8_fileOf 15 = .ok (.invokevirtual 81, 3) := by decide +kernel
theorem dX8_fileOf_18 : decode cX8_fileOf 18 = .ok (.ireturn, 1) := by decide +kernel
theorem dX8_fileOf_19 : decode cX8_fileOf 19 = .ok (.iload_n 2, 1) := by decide +kernel
theorem dX8_fileOf_20 : decode cX8_fileOf 20 = .ok (.iconst 0, 1) := by decide +kernel
theorem dX8_fileOf_21 : decode cX8_fileOf 21 = .ok (.bipush 6, 2) := by decide +kernel
theorem dX8_fileOf_23 : decode cX8_fileOf 23 = .ok (.invokestatic 45, 3) := by decide +kernel
theorem dX8_fileOf_26 : decode cX8_fileOf 26 = .ok (.ifCond .eq 12, 3) := by decide +kernel
theorem dX8_fileOf_29 : decode cX8_fileOf 29 = .ok (.aload_n 0, 1) := by decide +kernel
theorem dX8_fileOf_30 : decode cX8_fileOf 30 = .ok (.iload_n 1, 1) := by decide +kernel
theorem dX8_fileOf_31 : decode cX8_fileOf 31 = .ok (.iload_n 2, 1) := by decide +kernel
theorem dX8_fileOf_32 : decode cX8_fileOf 32 = .ok (.invokevirtual 195, 3) := by decide +kernel
theorem dX8_fileOf_35 : decode cX8_fileOf 35 = .ok (.goto 8, 3) := by decide +kernel
theorem dX8_fileOf_38 : decode cX8_fileOf 38 = .ok (.aload_n 0, 1) := by decide +kernel
theorem dX8_fileOf_39 : decode cX8_fileOf 39 = .ok (.iconst 2, 1) := by decide +kernel
theorem dX8_fileOf_40 : decode cX8_fileOf 40 = .ok (.invokevirtual 81, 3) := by decide +kernel
theorem dX8_fileOf_43 : decode cX8_fileOf 43 = .ok (.ireturn, 1) := by decide +kernel
theorem dX8_placeOf_0 : decode cX8_placeOf 0 = .ok (.iload_n 2, 1) := by decide +kernel
theorem dX8_placeOf_1 : decode cX8_placeOf 1 = .ok (.bipush 16, 2) := by decide +kernel
theorem dX8_placeOf_3 : decode cX8_placeOf 3 = .ok (.idiv, 1) := by decide +kernel
theorem dX8_placeOf_4 : decode cX8_placeOf 4 = .ok (.istore_n 3, 1) := by decide +kernel
theorem dX8_placeOf_5 : decode cX8_placeOf 5 = .ok (.iload_n 3, 1) := by decide +kernel
theorem dX8_placeOf_6 : decode cX8_placeOf 6 = .ok (.aload_n 0, 1) := by decide +kernel
theorem dX8_placeOf_7 : decode cX8_placeOf 7 = .ok (.iload_n 1, 1) := by decide +kernel
theorem dX8_placeOf_8 : decode cX8_placeOf 8 = .ok (.invokevirtual 93, 3) := by decide +kernel
theorem dX8_placeOf_11 : decode cX8_placeOf 11 = .ok (.if_icmp .ne 7, 3) := by decide +kernel
theorem dX8_placeOf_14 : decode cX8_placeOf 14 = .ok (.iconst 1, 1) := by decide +kernel
theorem dX8_placeOf_15 : decode cX8_placeOf 15 = .ok (.goto 4, 3) := by decide +kernel
theorem dX8_placeOf_18 : decode cX8_placeOf 18 = .ok (.iconst 0, 1) := by decide +kernel
theorem dX8_placeOf_19 : decode cX8_placeOf 19 = .ok (.istore 4, 2) := by decide +kernel
theorem dX8_placeOf_21 : decode cX8_placeOf 21 = .ok (.iload 4, 2) := by decide +kernel
theorem dX8_placeOf_23 : decode cX8_placeOf 23 = .ok (.ifCond .eq 12, 3) := by decide +kernel
theorem dX8_placeOf_26 : decode cX8_placeOf 26 = .ok (.aload_n 0, 1) := by decide +kernel
theorem dX8_placeOf_27 : decode cX8_placeOf 27 = .ok (.iload_n 1, 1) := by decide +kernel
theorem dX8_placeOf_28 : decode cX8_placeOf 28 = .ok (.iconst 3, 1) := by decide +kernel
theorem dX8_placeOf_29 : decode cX8_placeOf 29 = .ok (.invokevirtual 49, 3) := by decide +kernel
theorem dX8_placeOf_32 : decode cX8_placeOf 32 = .ok (.goto 12, 3) := by decide +kernel
theorem dX8_placeOf_35 : decode cX8_placeOf 35 = .ok (.aload_n 0, 1) := by decide +kernel
theorem dX8_placeOf_36 : decode cX8_placeOf 36 = .ok (.iload_n 1, 1) := by decide +kernel
theorem dX8_placeOf_37 : decode cX8_placeOf 37 = .ok (.bipush 6, 2) := by decide +kernel
theorem dX8_placeOf_39 : decode cX8_placeOf 39 = .ok (.iload_n 3, 1) := by decide +kernel
theorem dX8_placeOf_40 : decode cX8_placeOf 40 = .ok (.iadd, 1) := by decide +kernel
theorem dX8_placeOf_41 : decode cX8_placeOf 41 = .ok (.invokevirtual 49, 3) := by decide +kernel
theorem dX8_placeOf_44 : decode cX8_placeOf 44 = .ok (.istore 5, 2) := by decide +kernel
theorem dX8_placeOf_46 : decode cX8_placeOf 46 = .ok (.aload_n 0, 1) := by decide +kernel
theorem dX8_placeOf_47 : decode cX8_placeOf 47 = .ok (.getfield 7, 3) := by decide +kernel
theorem dX8_placeOf_50 : decode cX8_placeOf 50 = .ok (.iconst 3, 1) := by decide +kernel
theorem dX8_placeOf_51 : decode cX8_placeOf 51 = .ok (.iload 5, 2) := by decide +kernel
theorem dX8_placeOf_53 : decode cX8_placeOf 53 = .ok (.iadd, 1) := by decide +kernel
theorem dX8_placeOf_54 : decode cX8_placeOf 54 = .ok (.iaload, 1) := by decide +kernel
theorem dX8_placeOf_55 : decode cX8_placeOf 55 = .ok (.iconst 3, 1) := by decide +kernel
theorem dX8_placeOf_56 : decode cX8_placeOf 56 = .ok (.if_icmp .ne 7, 3) := by decide +kernel
theorem dX8_placeOf_59 : decode cX8_placeOf 59 = .ok (.iconst (-1), 1) := by decide +kernel
theorem dX8_placeOf_60 : decode cX8_placeOf 60 = .ok (.goto 29, 3) := by decide +kernel
theorem dX8_placeOf_63 : decode cX8_placeOf 63 = .ok (.bipush 16, 2) := by decide +kernel
theorem dX8_placeOf_65 : decode cX8_placeOf 65 = .ok (.iload 5, 2) := by decide +kernel
theorem dX8_placeOf_67 : decode cX8_placeOf 67 = .ok (.imul, 1) := by decide +kernel
theorem dX8_placeOf_68 : decode cX8_placeOf 68 = .ok (.iload_n 2, 1) := by decide +kernel
theorem dX8_placeOf_69 : decode cX8_placeOf 69 = .ok (.bipush 16, 2) := by decide +kernel
theorem dX8_placeOf_71 : decode cX8_placeOf 71 = .ok (.irem, 1) := by decide +kernel
theorem dX8_placeOf_72 : decode cX8_placeOf 72 = .ok (.iadd, 1) := by decide +kernel
theorem dX8_placeOf_73 : decode cX8_placeOf 73 = .ok (.iload 4, 2) := by decide +kernel
theorem dX8_placeOf_75 : decode cX8_placeOf 75 = .ok (.ifCond .eq 12, 3) := by decide +kernel
theorem dX8_placeOf_78 : decode cX8_placeOf 78 = .ok (.aload_n 0, 1) := by decide +kernel
theorem dX8_placeOf_79 : decode cX8_placeOf 79 = .ok (.iload_n 1, 1) := by decide +kernel
theorem dX8_placeOf_80 : decode cX8_placeOf 80 = .ok (.iconst 4, 1) := by decide +kernel
theorem dX8_placeOf_81 : decode cX8_placeOf 81 = .ok (.invokevirtual 49, 3) := by decide +kernel
theorem dX8_placeOf_84 : decode cX8_placeOf 84 = .ok (.goto 4, 3) := by decide +kernel
theorem dX8_placeOf_87 : decode cX8_placeOf 87 = .ok (.iconst 0, 1) := by decide +kernel
theorem dX8_placeOf_88 : decode cX8_placeOf 88 = .ok (.iadd, 1) := by decide +kernel
theorem dX8_placeOf_89 : decode cX8_placeOf 89 = .ok (.ireturn, 1) := by decide +kernel
theorem dX8_place_0 : decode cX8_place 0 = .ok (.aload_n 0, 1) := by decide +kernel
theorem dX8_place_1 : decode cX8_place 1 = .ok (.iconst 0, 1) := by decide +kernel
theorem dX8_place_2 : decode cX8_place 2 = .ok (.putfield 41, 3) := by decide +kernel
theorem dX8_place_5 : decode cX8_place 5 = .ok (.aload_n 0, 1) := by decide +kernel
theorem dX8_place_6 : decode cX8_place 6 = .ok (.iload_n 1, 1) := by decide +kernel
theorem dX8_place_7 : decode cX8_place 7 = .ok (.invokevirtual 53, 3) := by decide +kernel
theorem dX8_place_10 : decode cX8_place 10 = .ok (.ifCond .eq 28, 3) := by decide +kernel
theorem dX8_place_13 : decode cX8_place 13 = .ok (.iload_n 2, 1) := by decide +kernel
theorem dX8_place_14 : decode cX8_place 14 = .ok (.iconst 0, 1) := by decide +kernel
theorem dX8_place_15 : decode cX8_place 15 = .ok (.aload_n 0, 1) := by decide +kernel
theorem dX8_place_16 : decode cX8_place 16 = .ok (.iload_n 1, 1) := by decide +kernel
theorem dX8_place_17 : decode cX8_place 17 = .ok (.iconst 1, 1) := by decide +kernel
theorem dX8_place_18 : decode cX8_place 18 = .ok (.invokevirtual 49, 3) := by decide +kernel
theorem dX8_place_21 : decode cX8_place 21 = .ok (.iconst 1, 1) := by decide +kernel
theorem dX8_place_22 : decode cX8_place 22 = .ok (.isub, 1) := by decide +kernel
theorem dX8_place_23 : decode cX8_place 23 = .ok (.invokestatic 45, 3) := by decide +kernel
theorem dX8_place_26 : decode cX8_place 26 = .ok (.ifCond .eq 12, 3) := by decide +kernel
theorem dX8_place_29 : decode cX8_place 29 = .ok (.aload_n 0, 1) := by decide +kernel
theorem dX8_place_30 : decode cX8_place 30 = .ok (.iload_n 1, 1) := by decide +kernel
theorem dX8_place_31 : decode cX8_place 31 = .ok (.iload_n 2, 1) := by decide +kernel
theorem dX8_place_32 : decode cX8_place 32 = .ok (.invokevirtual 198, 3) := by decide +kernel
theorem dX8_place_35 : decode cX8_place 35 = .ok (.goto 8, 3) := by decide +kernel
theorem dX8_place_38 : decode cX8_place 38 = .ok (.aload_n 0, 1) := by decide +kernel
theorem dX8_place_39 : decode cX8_place 39 = .ok (.iconst 1, 1) := by decide +kernel
theorem dX8_place_40 : decode cX8_place 40 = .ok (.invokevirtual 81, 3) := by decide +kernel
theorem dX8_place_43 : decode cX8_place 43 = .ok (.ireturn, 1) := by decide +kernel
theorem dX8_tailCells_0 : decode cX8_tailCells 0 = .ok (.iconst 0, 1) := by decide +kernel
theorem dX8_tailCells_1 : decode cX8_tailCells 1 = .ok (.istore_n 2, 1) := by decide +kernel
theorem dX8_tailCells_2 : decode cX8_tailCells 2 = .ok (.iconst 0, 1) := by decide +kernel
theorem dX8_tailCells_3 : decode cX8_tailCells 3 = .ok (.istore_n 3, 1) := by decide +kernel
theorem dX8_tailCells_4 : decode cX8_tailCells 4 = .ok (.iload_n 3, 1) := by decide +kernel
theorem dX8_tailCells_5 : decode cX8_tailCells 5 = .ok (.bipush 10, 2) := by decide +kernel
theorem dX8_tailCells_7 : decode cX8_tailCells 7 = .ok (.if_icmp .ge 30, 3) := by decide +kernel
theorem dX8_tailCells_10 : decode cX8_tailCells 10 = .ok (.iload_n 2, 1) := by decide +kernel
theorem dX8_tailCells_11 : decode cX8_tailCells 11 = .ok (.aload_n 0, 1) := by decide +kernel
theorem dX8_tailCells_12 : decode cX8_tailCells 12 = .ok (.iload_n 3, 1) := by decide +kernel
theorem dX8_tailCells_13 : decode cX8_tailCells 13 = .ok (.iload_n 1, 1) := by decide +kernel
theorem dX8_tailCells_14 : decode cX8_tailCells 14 = .ok (.invokevirtual 61, 3) := by decide +kernel
theorem dX8_tailCells_17 : decode cX8_tailCells 17 = .ok (.ifCond .eq 11, 3) := by decide +kernel
theorem dX8_tailCells_20 : decode cX8_tailCells 20 = .ok (.aload_n 0, 1) := by decide +kernel
theorem dX8_tailCells_21 : decode cX8_tailCells 21 = .ok (.iload_n 3, 1) := by decide +kernel
theorem dX8_tailCells_22 : decode cX8_tailCells 22 = .ok (.invokevirtual 57, 3) := by decide +kernel
theorem dX8_tailCells_25 : decode cX8_tailCells 25 = .ok (.goto 4, 3) := by decide +kernel
theorem dX8_tailCells_28 : decode cX8_tailCells 28 = .ok (.iconst 0, 1) := by decide +kernel
theorem dX8_tailCells_29 : decode cX8_tailCells 29 = .ok (.iadd, 1) := by decide +kernel
theorem dX8_tailCells_30 : decode cX8_tailCells 30 = .ok (.istore_n 2, 1) := by decide +kernel
theorem dX8_tailCells_31 : decode cX8_tailCells 31 = .ok (.iinc 3 1, 3) := by decide +kernel
theorem dX8_tailCells_34 : decode cX8_tailCells 34 = .ok (.goto (-30), 3) := by decide +kernel
theorem dX8_tailCells_37 : decode cX8_tailCells 37 = .ok (.iload_n 2, 1) := by decide +kernel
theorem dX8_tailCells_38 : decode cX8_tailCells 38 = .ok (.ireturn, 1) := by decide +kernel
theorem dX8_longestGap_0 : decode cX8_longestGap 0 = .ok (.iconst 0, 1) := by decide +kernel
theorem dX8_longestGap_1 : decode cX8_longestGap 1 = .ok (.istore_n 2, 1) := by decide +kernel
theorem dX8_longestGap_2 : decode cX8_longestGap 2 = .ok (.iconst 0, 1) := by decide +kernel
theorem dX8_longestGap_3 : decode cX8_longestGap 3 = .ok (.istore_n 3, 1) := by decide +kernel
theorem dX8_longestGap_4 : decode cX8_longestGap 4 = .ok (.iload_n 3, 1) := by decide +kernel
theorem dX8_longestGap_5 : decode cX8_longestGap 5 = .ok (.bipush 16, 2) := by decide +kernel
theorem dX8_longestGap_7 : decode cX8_longestGap 7 = .ok (.if_icmp .ge 30, 3) := by decide +kernel
theorem dX8_longestGap_10 : decode cX8_longestGap 10 = .ok (.aload_n 0, 1) := by decide +kernel
theorem dX8_longestGap_11 : decode cX8_longestGap 11 = .ok (.iload_n 1, 1) := by decide +kernel
theorem dX8_longestGap_12 : decode cX8_longestGap 12 = .ok (.iload_n 3, 1) := by decide +kernel
theorem dX8_longestGap_13 : decode cX8_longestGap 13 = .ok (.invokevirtual 68, 3) := by decide +kernel
theorem dX8_longestGap_16 : decode cX8_longestGap 16 = .ok (.iload_n 2, 1) := by decide +kernel
theorem dX8_longestGap_17 : decode cX8_longestGap 17 = .ok (.if_icmp .le 12, 3) := by decide +kernel
theorem dX8_longestGap_20 : decode cX8_longestGap 20 = .ok (.aload_n 0, 1) := by decide +kernel
theorem dX8_longestGap_21 : decode cX8_longestGap 21 = .ok (.iload_n 1, 1) := by decide +kernel
theorem dX8_longestGap_22 : decode cX8_longestGap 22 = .ok (.iload_n 3, 1) := by decide +kernel
theorem dX8_longestGap_23 : decode cX8_longestGap 23 = .ok (.invokevirtual 68, 3) := by decide +kernel
theorem dX8_longestGap_26 : decode cX8_longestGap 26 = .ok (.goto 4, 3) := by decide +kernel
theorem dX8_longestGap_29 : decode cX8_longestGap 29 = .ok (.iload_n 2, 1) := by decide +kernel
theorem dX8_longestGap_30 : decode cX8_longestGap 30 = .ok (.istore_n 2, 1) := by decide +kernel
theorem dX8_longestGap_31 : decode cX8_longestGap 31 = .ok (.iinc 3 1, 3) := by decide +kernel
theorem dX8_longestGap_34 : decode cX8_longestGap 34 = .ok (.goto (-30), 3) := by decide +kernel
theorem dX8_longestGap_37 : decode cX8_longestGap 37 = .ok (.iload_n 2, 1) := by decide +kernel
theorem dX8_longestGap_38 : decode cX8_longestGap 38 = .ok (.ireturn, 1) := by decide +kernel
theorem dX8_ownerOf_0 : decode cX8_ownerOf 0 = .ok (.iconst (-1), 1) := by decide +kernel
theorem dX8_ownerOf_1 : decode cX8_ownerOf 1 = .ok (.istore_n 2, 1) := by decide +kernel
theorem dX8_ownerOf_2 : decode cX8_ownerOf 2 = .ok (.bipush 9, 2) := by decide +kernel
theorem dX8_ownerOf_4 : decode cX8_ownerOf 4 = .ok (.istore_n 3, 1) := by decide +kernel
theorem dX8_ownerOf_5 : decode cX8_ownerOf 5 = .ok (.iload_n 3, 1) := by decide +kernel
theorem dX8_ownerOf_6 : decode cX8_ownerOf 6 = .ok (.ifCond .lt 36, 3) := by decide +kernel
theorem dX8_ownerOf_9 : decode cX8_ownerOf 9 = .ok (.aload_n 0, 1) := by decide +kernel
theorem dX8_ownerOf_10 : decode cX8_ownerOf 10 = .ok (.getfield 7, 3) := by decide +kernel
theorem dX8_ownerOf_13 : decode cX8_ownerOf 13 = .ok (.iconst 3, 1) := by decide +kernel
theorem dX8_ownerOf_14 : decode cX8_ownerOf 14 = .ok (.iload_n 1, 1) := by decide +kernel
theorem dX8_ownerOf_15 : decode cX8_ownerOf 15 = .ok (.iadd, 1) := by decide +kernel
theorem dX8_ownerOf_16 : decode cX8_ownerOf 16 = .ok (.iaload, 1) := by decide +kernel
theorem dX8_ownerOf_17 : decode cX8_ownerOf 17 = .ok (.iconst 1, 1) := by decide +kernel
theorem dX8_ownerOf_18 : decode cX8_ownerOf 18 = .ok (.if_icmp .ne 16, 3) := by decide +kernel
theorem dX8_ownerOf_21 : decode cX8_ownerOf 21 = .ok (.aload_n 0, 1) := by decide +kernel
theorem dX8_ownerOf_22 : decode cX8_ownerOf 22 = .ok (.iload_n 3, 1) := by decide +kernel
theorem dX8_ownerOf_23 : decode cX8_ownerOf 23 = .ok (.iload_n 1, 1) := by decide +kernel
theorem dX8_ownerOf_24 : decode cX8_ownerOf 24 = .ok (.invokevirtual 143, 3) := by decide +kernel
theorem dX8_ownerOf_27 : decode cX8_ownerOf 27 = .ok (.ifCond .eq 7, 3) := by decide +kernel
theorem dX8_ownerOf_30 : decode cX8_ownerOf 30 = .ok (.iload_n 3, 1) := by decide +kernel
theorem dX8_ownerOf_31 : decode cX8_ownerOf 31 = .ok (.goto 4, 3) := by decide +kernel
theorem dX8_ownerOf_34 : decode cX8_ownerOf 34 = .ok (.iload_n 2, 1) := by decide +kernel
theorem dX8_ownerOf_35 : decode cX8_ownerOf 35 = .ok (.istore_n 2, 1) := by decide +kernel
theorem dX8_ownerOf_36 : decode cX8_ownerOf 36 = .ok (.iinc 3 (-1), 3) := by decide +kernel
theorem dX8_ownerOf_39 : decode cX8_ownerOf 39 = .ok (.goto (-34), 3) := by decide +kernel
theorem dX8_ownerOf_42 : decode cX8_ownerOf 42 = .ok (.iload_n 2, 1) := by decide +kernel
theorem dX8_ownerOf_43 : decode cX8_ownerOf 43 = .ok (.ireturn, 1) := by decide +kernel
theorem dX8_blockIs_0 : decode cX8_blockIs 0 = .ok (.aload_n 0, 1) := by decide +kernel
theorem dX8_blockIs_1 : decode cX8_blockIs 1 = .ok (.getfield 7, 3) := by decide +kernel
theorem dX8_blockIs_4 : decode cX8_blockIs 4 = .ok (.iconst 3, 1) := by decide +kernel
theorem dX8_blockIs_5 : decode cX8_blockIs 5 = .ok (.iload_n 1, 1) := by decide +kernel
theorem dX8_blockIs_6 : decode cX8_blockIs 6 = .ok (.iadd, 1) := by decide +kernel
theorem dX8_blockIs_7 : decode cX8_blockIs 7 = .ok (.iaload, 1) := by decide +kernel
theorem dX8_blockIs_8 : decode cX8_blockIs 8 = .ok (.istore_n 3, 1) := by decide +kernel
theorem dX8_blockIs_9 : decode cX8_blockIs 9 = .ok (.iload_n 2, 1) := by decide +kernel
theorem dX8_blockIs_10 : decode cX8_blockIs 10 = .ok (.tableswitch 68 0 3 #[30, 32, 47, 62], 30) := by decide +kernel
theorem dX8_blockIs_40 : decode cX8_blockIs 40 = .ok (.iload_n 3, 1) := by decide +kernel
theorem dX8_blockIs_41 : decode cX8_blockIs 41 = .ok (.ireturn, 1) := by decide +kernel
theorem dX8_blockIs_42 : decode cX8_blockIs 42 = .ok (.iload_n 3, 1) := by decide +kernel
theorem dX8_blockIs_43 : decode cX8_blockIs 43 = .ok (.iconst 3, 1) := by decide +kernel
theorem dX8_blockIs_44 : decode cX8_blockIs 44 = .ok (.if_icmp .ne 7, 3) := by decide +kernel
theorem dX8_blockIs_47 : decode cX8_blockIs 47 = .ok (.iconst 0, 1) := by decide +kernel
theorem dX8_blockIs_48 : decode cX8_blockIs 48 = .ok (.goto 8, 3) := by decide +kernel
theorem dX8_blockIs_51 : decode cX8_blockIs 51 = .ok (.aload_n 0, 1) := by decide +kernel
theorem dX8_blockIs_52 : decode cX8_blockIs 52 = .ok (.iload_n 1, 1) := by decide +kernel
theorem dX8_blockIs_53 : decode cX8_blockIs 53 = .ok (.invokevirtual 90, 3) := by decide +kernel
theorem dX8_blockIs_56 : decode cX8_blockIs 56 = .ok (.ireturn, 1) := by decide +kernel
theorem dX8_blockIs_57 : decode cX8_blockIs 57 = .ok (.iload_n 3, 1) := by decide +kernel
theorem dX8_blockIs_58 : decode cX8_blockIs 58 = .ok (.iconst 3, 1) := by decide +kernel
theorem dX8_blockIs_59 : decode cX8_blockIs 59 = .ok (.if_icmp .ne 7, 3) := by decide +kernel
theorem dX8_blockIs_62 : decode cX8_blockIs 62 = .ok (.iconst 0, 1) := by decide +kernel
theorem dX8_blockIs_63 : decode cX8_blockIs 63 = .ok (.goto 8, 3) := by decide +kernel
theorem dX8_blockIs_66 : decode cX8_blockIs 66 = .ok (.aload_n 0, 1) := by decide +kernel
theorem dX8_blockIs_67 : decode cX8_blockIs 67 = .ok (.iload_n 1, 1) := by decide +kernel
theorem dX8_blockIs_68 : decode cX8_blockIs 68 = .ok (.invokevirtual 201, 3) := by decide +kernel
theorem dX8_blockIs_71 : decode cX8_blockIs 71 = .ok (.ireturn, 1) := by decide +kernel
theorem dX8_blockIs_72 : decode cX8_blockIs 72 = .ok (.aload_n 0, 1) := by decide +kernel
theorem dX8_blockIs_73 : decode cX8_blockIs 73 = .ok (.iload_n 1, 1) := by decide +kernel
theorem dX8_blockIs_74 : decode cX8_blockIs 74 = .ok (.invokevirtual 204, 3) := by decide +kernel
theorem dX8_blockIs_77 : decode cX8_blockIs 77 = .ok (.ireturn, 1) := by decide +kernel
theorem dX8_blockIs_78 : decode cX8_blockIs 78 = .ok (.aload_n 0, 1) := by decide +kernel
theorem dX8_blockIs_79 : decode cX8_blockIs 79 = .ok (.iload_n 1, 1) := by decide +kernel
theorem dX8_blockIs_80 : decode cX8_blockIs 80 = .ok (.invokevirtual 207, 3) := by decide +kernel
theorem dX8_blockIs_83 : decode cX8_blockIs 83 = .ok (.ireturn, 1) := by decide +kernel
theorem dX8_blockOf_0 : decode cX8_blockOf 0 = .ok (.aload_n 0, 1) := by decide +kernel
theorem dX8_blockOf_1 : decode cX8_blockOf 1 = .ok (.iconst 0, 1) := by decide +kernel
theorem dX8_blockOf_2 : decode cX8_blockOf 2 = .ok (.putfield 41, 3) := by decide +kernel
theorem dX8_blockOf_5 : decode cX8_blockOf 5 = .ok (.iload_n 1, 1) := by decide +kernel
theorem dX8_blockOf_6 : decode cX8_blockOf 6 = .ok (.iconst 0, 1) := by decide +kernel
theorem dX8_blockOf_7 : decode cX8_blockOf 7 = .ok (.bipush 23, 2) := by decide +kernel
theorem dX8_blockOf_9 : decode cX8_blockOf 9 = .ok (.invokestatic 45, 3) := by decide +kernel
theorem dX8_blockOf_12 : decode cX8_blockOf 12 = .ok (.ifCond .ne 9, 3) := by decide +kernel
theorem dX8_blockOf_15 : decode cX8_blockOf 15 = .ok (.aload_n 0, 1) := by decide +kernel
theorem dX8_blockOf_16 : decode cX8_blockOf 16 = .ok (.iconst 1, 1) := by decide +kernel
theorem dX8_blockOf_17 : decode cX8_blockOf 17 = .ok (.invokevirtual 81, 3) := by decide +kernel
theorem dX8_blockOf_20 : decode cX8_blockOf 20 = .ok (.ireturn, 1) := by decide +kernel
theorem dX8_blockOf_21 : decode cX8_blockOf 21 = .ok (.iload_n 2, 1) := by decide +kernel
theorem dX8_blockOf_22 : decode cX8_blockOf 22 = .ok (.iconst 0, 1) := by decide +kernel
theorem dX8_blockOf_23 : decode cX8_blockOf 23 = .ok (.iconst 4, 1) := by decide +kernel
theorem dX8_blockOf_24 : decode cX8_blockOf 24 = .ok (.invokestatic 45, 3) := by decide +kernel
theorem dX8_blockOf_27 : decode cX8_blockOf 27 = .ok (.ifCond .eq 12, 3) := by decide +kernel
theorem dX8_blockOf_30 : decode cX8_blockOf 30 = .ok (.aload_n 0, 1) := by decide +kernel
theorem dX8_blockOf_31 : decode cX8_blockOf 31 = .ok (.iload_n 1, 1) := by decide +kernel
theorem dX8_blockOf_32 : decode cX8_blockOf 32 = .ok (.iload_n 2, 1) := by decide +kernel
theorem dX8_blockOf_33 : decode cX8_blockOf 33 = .ok (.invokevirtual 210, 3) := by decide +kernel
theorem dX8_blockOf_36 : decode cX8_blockOf 36 = .ok (.goto 8, 3) := by decide +kernel
theorem dX8_blockOf_39 : decode cX8_blockOf 39 = .ok (.aload_n 0, 1) := by decide +kernel
theorem dX8_blockOf_40 : decode cX8_blockOf 40 = .ok (.iconst 2, 1) := by decide +kernel
theorem dX8_blockOf_41 : decode cX8_blockOf 41 = .ok (.invokevirtual 81, 3) := by decide +kernel
theorem dX8_blockOf_44 : decode cX8_blockOf 44 = .ok (.ireturn, 1) := by decide +kernel
theorem dX8_goodCells_0 : decode cX8_goodCells 0 = .ok (.bipush 16, 2) := by decide +kernel
theorem dX8_goodCells_2 : decode cX8_goodCells 2 = .ok (.aload_n 0, 1) := by decide +kernel
theorem dX8_goodCells_3 : decode cX8_goodCells 3 = .ok (.iconst 1, 1) := by decide +kernel
theorem dX8_goodCells_4 : decode cX8_goodCells 4 = .ok (.invokevirtual 146, 3) := by decide +kernel
theorem dX8_goodCells_7 : decode cX8_goodCells 7 = .ok (.imul, 1) := by decide +kernel
theorem dX8_goodCells_8 : decode cX8_goodCells 8 = .ok (.istore_n 1, 1) := by decide +kernel
theorem dX8_goodCells_9 : decode cX8_goodCells 9 = .ok (.iconst 0, 1) := by decide +kernel
theorem dX8_goodCells_10 : decode cX8_goodCells 10 = .ok (.istore_n 2, 1) := by decide +kernel
theorem dX8_goodCells_11 : decode cX8_goodCells 11 = .ok (.iload_n 2, 1) := by decide +kernel
theorem dX8_goodCells_12 : decode cX8_goodCells 12 = .ok (.bipush 24, 2) := by decide +kernel
theorem dX8_goodCells_14 : decode cX8_goodCells 14 = .ok (.if_icmp .ge 33, 3) := by decide +kernel
theorem dX8_goodCells_17 : decode cX8_goodCells 17 = .ok (.iload_n 1, 1) := by decide +kernel
theorem dX8_goodCells_18 : decode cX8_goodCells 18 = .ok (.aload_n 0, 1) := by decide +kernel
theorem dX8_goodCells_19 : decode cX8_goodCells 19 = .ok (.getfield 7, 3) := by decide +kernel
theorem dX8_goodCells_22 : decode cX8_goodCells 22 = .ok (.iconst 3, 1) := by decide +kernel
theorem dX8_goodCells_23 : decode cX8_goodCells 23 = .ok (.iload_n 2, 1) := by decide +kernel
theorem dX8_goodCells_24 : decode cX8_goodCells 24 = .ok (.iadd, 1) := by decide +kernel
theorem dX8_goodCells_25 : decode cX8_goodCells 25 = .ok (.iaload, 1) := by decide +kernel
theorem dX8_goodCells_26 : decode cX8_goodCells 26 = .ok (.iconst 2, 1) := by decide +kernel
theorem dX8_goodCells_27 : decode cX8_goodCells 27 = .ok (.if_icmp .ne 11, 3) := by decide +kernel
theorem dX8_goodCells_30 : decode cX8_goodCells 30 = .ok (.aload_n 0, 1) := by decide +kernel
theorem dX8_goodCells_31 : decode cX8_goodCells 31 = .ok (.iload_n 2, 1) := by decide +kernel
theorem dX8_goodCells_32 : decode cX8_goodCells 32 = .ok (.invokevirtual 201, 3) := by decide +kernel
theorem dX8_goodCells_35 : decode cX8_goodCells 35 = .ok (.goto 4, 3) := by decide +kernel
theorem dX8_goodCells_38 : decode cX8_goodCells 38 = .ok (.iconst 0, 1) := by decide +kernel
theorem dX8_goodCells_39 : decode cX8_goodCells 39 = .ok (.iadd, 1) := by decide +kernel
theorem dX8_goodCells_40 : decode cX8_goodCells 40 = .ok (.istore_n 1, 1) := by decide +kernel
theorem dX8_goodCells_41 : decode cX8_goodCells 41 = .ok (.iinc 2 1, 3) := by decide +kernel
theorem dX8_goodCells_44 : decode cX8_goodCells 44 = .ok (.goto (-33), 3) := by decide +kernel
theorem dX8_goodCells_47 : decode cX8_goodCells 47 = .ok (.iload_n 1, 1) := by decide +kernel
theorem dX8_goodCells_48 : decode cX8_goodCells 48 = .ok (.ireturn, 1) := by decide +kernel
theorem dX8_gapCells_0 : decode cX8_gapCells 0 = .ok (.iconst 0, 1) := by decide +kernel
theorem dX8_gapCells_1 : decode cX8_gapCells 1 = .ok (.istore_n 1, 1) := by decide +kernel
theorem dX8_gapCells_2 : decode cX8_gapCells 2 = .ok (.iconst 0, 1) := by decide +kernel
theorem dX8_gapCells_3 : decode cX8_gapCells 3 = .ok (.istore_n 2, 1) := by decide +kernel
theorem dX8_gapCells_4 : decode cX8_gapCells 4 = .ok (.iload_n 2, 1) := by decide +kernel
theorem dX8_gapCells_5 : decode cX8_gapCells 5 = .ok (.bipush 24, 2) := by decide +kernel
theorem dX8_gapCells_7 : decode cX8_gapCells 7 = .ok (.if_icmp .ge 36, 3) := by decide +kernel
theorem dX8_gapCells_10 : decode cX8_gapCells 10 = .ok (.iload_n 1, 1) := by decide +kernel
theorem dX8_gapCells_11 : decode cX8_gapCells 11 = .ok (.aload_n 0, 1) := by decide +kernel
theorem dX8_gapCells_12 : decode cX8_gapCells 12 = .ok (.getfield 7, 3) := by decide +kernel
theorem dX8_gapCells_15 : decode cX8_gapCells 15 = .ok (.iconst 3, 1) := by decide +kernel
theorem dX8_gapCells_16 : decode cX8_gapCells 16 = .ok (.iload_n 2, 1) := by decide +kernel
theorem dX8_gapCells_17 : decode cX8_gapCells 17 = .ok (.iadd, 1) := by decide +kernel
theorem dX8_gapCells_18 : decode cX8_gapCells 18 = .ok (.iaload, 1) := by decide +kernel
theorem dX8_gapCells_19 : decode cX8_gapCells 19 = .ok (.iconst 2, 1) := by decide +kernel
theorem dX8_gapCells_20 : decode cX8_gapCells 20 = .ok (.if_icmp .ne 14, 3) := by decide +kernel
theorem dX8_gapCells_23 : decode cX8_gapCells 23 = .ok (.bipush 16, 2) := by decide +kernel
theorem dX8_gapCells_25 : decode cX8_gapCells 25 = .ok (.aload_n 0, 1) := by decide +kernel
theorem dX8_gapCells_26 : decode cX8_gapCells 26 = .ok (.iload_n 2, 1) := by decide +kernel
theorem dX8_gapCells_27 : decode cX8_gapCells 27 = .ok (.invokevirtual 201, 3) := by decide +kernel
theorem dX8_gapCells_30 : decode cX8_gapCells 30 = .ok (.isub, 1) := by decide +kernel
theorem dX8_gapCells_31 : decode cX8_gapCells 31 = .ok (.goto 4, 3) := by decide +kernel
theorem dX8_gapCells_34 : decode cX8_gapCells 34 = .ok (.iconst 0, 1) := by decide +kernel
theorem dX8_gapCells_35 : decode cX8_gapCells 35 = .ok (.iadd, 1) := by decide +kernel
theorem dX8_gapCells_36 : decode cX8_gapCells 36 = .ok (.istore_n 1, 1) := by decide +kernel
theorem dX8_gapCells_37 : decode cX8_gapCells 37 = .ok (.iinc 2 1, 3) := by decide +kernel
theorem dX8_gapCells_40 : decode cX8_gapCells 40 = .ok (.goto (-36), 3) := by decide +kernel
theorem dX8_gapCells_43 : decode cX8_gapCells 43 = .ok (.iload_n 1, 1) := by decide +kernel
theorem dX8_gapCells_44 : decode cX8_gapCells 44 = .ok (.ireturn, 1) := by decide +kernel
theorem dX8_broken_0 : decode cX8_broken 0 = .ok (.iconst 0, 1) := by decide +kernel
theorem dX8_broken_1 : decode cX8_broken 1 = .ok (.istore_n 1, 1) := by decide +kernel
theorem dX8_broken_2 : decode cX8_broken 2 = .ok (.iconst 0, 1) := by decide +kernel
theorem dX8_broken_3 : decode cX8_broken 3 = .ok (.istore_n 2, 1) := by decide +kernel
theorem dX8_broken_4 : decode cX8_broken 4 = .ok (.iload_n 2, 1) := by decide +kernel
theorem dX8_broken_5 : decode cX8_broken 5 = .ok (.bipush 10, 2) := by decide +kernel
theorem dX8_broken_7 : decode cX8_broken 7 = .ok (.if_icmp .ge 35, 3) := by decide +kernel
theorem dX8_broken_10 : decode cX8_broken 10 = .ok (.iload_n 1, 1) := by decide +kernel
theorem dX8_broken_11 : decode cX8_broken 11 = .ok (.aload_n 0, 1) := by decide +kernel
theorem dX8_broken_12 : decode cX8_broken 12 = .ok (.iload_n 2, 1) := by decide +kernel
theorem dX8_broken_13 : decode cX8_broken 13 = .ok (.invokevirtual 53, 3) := by decide +kernel
theorem dX8_broken_16 : decode cX8_broken 16 = .ok (.ifCond .eq 17, 3) := by decide +kernel
theorem dX8_broken_19 : decode cX8_broken 19 = .ok (.aload_n 0, 1) := by decide +kernel
theorem dX8_broken_20 : decode cX8_broken 20 = .ok (.iload_n 2, 1) := by decide +kernel
theorem dX8_broken_21 : decode cX8_broken 21 = .ok (.iconst 2, 1) := by decide +kernel
theorem dX8_broken_22 : decode cX8_broken 22 = .ok (.invokevirtual 49, 3) := by decide +kernel
theorem dX8_broken_25 : decode cX8_broken 25 = .ok (.iconst 1, 1) := by decide +kernel
theorem dX8_broken_26 : decode cX8_broken 26 = .ok (.if_icmp .ne 7, 3) := by decide +kernel
theorem dX8_broken_29 : decode cX8_broken 29 = .ok (.iconst 1, 1) := by decide +kernel
theorem dX8_broken_30 : decode cX8_broken 30 = .ok (.goto 4, 3) := by decide +kernel
theorem dX8_broken_33 : decode cX8_broken 33 = .ok (.iconst 0, 1) := by decide +kernel
theorem dX8_broken_34 : decode cX8_broken 34 = .ok (.iadd, 1) := by decide +kernel
theorem dX8_broken_35 : decode cX8_broken 35 = .ok (.istore_n 1, 1) := by decide +kernel
theorem dX8_broken_36 : decode cX8_broken 36 = .ok (.iinc 2 1, 3) := by decide +kernel
theorem dX8_broken_39 : decode cX8_broken 39 = .ok (.goto (-35), 3) := by decide +kernel
theorem dX8_broken_42 : decode cX8_broken 42 = .ok (.iload_n 1, 1) := by decide +kernel
theorem dX8_broken_43 : decode cX8_broken 43 = .ok (.ireturn, 1) := by decide +kernel
theorem dX8_counted_0 : decode cX8_counted 0 = .ok (.iload_n 1, 1) := by decide +kernel
theorem dX8_counted_1 : decode cX8_counted 1 = .ok (.tableswitch 108 0 10 #[59, 64, 64, 64, 64, 72, 77, 82, 87, 94, 101], 59) := by decide +kernel
theorem dX8_counted_60 : decode cX8_counted 60 = .ok (.aload_n 0, 1) := by decide +kernel
theorem dX8_counted_61 : decode cX8_counted 61 = .ok (.invokevirtual 84, 3) := by decide +kernel
theorem dX8_counted_64 : decode cX8_counted 64 = .ok (.ireturn, 1) := by decide +kernel
theorem dX8_counted_65 : decode cX8_counted 65 = .ok (.aload_n 0, 1) := by decide +kernel
theorem dX8_counted_66 : decode cX8_counted 66 = .ok (.iload_n 1, 1) := by decide +kernel
theorem dX8_counted_67 : decode cX8_counted 67 = .ok (.iconst 1, 1) := by decide +kernel
theorem dX8_counted_68 : decode cX8_counted 68 = .ok (.isub, 1) := by decide +kernel
theorem dX8_counted_69 : decode cX8_counted 69 = .ok (.invokevirtual 146, 3) := by decide +kernel
theorem dX8_counted_72 : decode cX8_counted 72 = .ok (.ireturn, 1) := by decide +kernel
theorem dX8_counted_73 : decode cX8_counted 73 = .ok (.aload_n 0, 1) := by decide +kernel
theorem dX8_counted_74 : decode cX8_counted 74 = .ok (.invokevirtual 213, 3) := by decide +kernel
theorem dX8_counted_77 : decode cX8_counted 77 = .ok (.ireturn, 1) := by decide +kernel
theorem dX8_counted_78 : decode cX8_counted 78 = .ok (.aload_n 0, 1) := by decide +kernel
theorem dX8_counted_79 : decode cX8_counted 79 = .ok (.invokevirtual 216, 3) := by decide +kernel
theorem dX8_counted_82 : decode cX8_counted 82 = .ok (.ireturn, 1) := by decide +kernel
theorem dX8_counted_83 : decode cX8_counted 83 = .ok (.aload_n 0, 1) := by decide +kernel
theorem dX8_counted_84 : decode cX8_counted 84 = .ok (.invokevirtual 219, 3) := by decide +kernel
theorem dX8_counted_87 : decode cX8_counted 87 = .ok (.ireturn, 1) := by decide +kernel
theorem dX8_counted_88 : decode cX8_counted 88 = .ok (.aload_n 0, 1) := by decide +kernel
theorem dX8_counted_89 : decode cX8_counted 89 = .ok (.getfield 7, 3) := by decide +kernel
theorem dX8_counted_92 : decode cX8_counted 92 = .ok (.iconst 0, 1) := by decide +kernel
theorem dX8_counted_93 : decode cX8_counted 93 = .ok (.iaload, 1) := by decide +kernel
theorem dX8_counted_94 : decode cX8_counted 94 = .ok (.ireturn, 1) := by decide +kernel
theorem dX8_counted_95 : decode cX8_counted 95 = .ok (.aload_n 0, 1) := by decide +kernel
theorem dX8_counted_96 : decode cX8_counted 96 = .ok (.getfield 7, 3) := by decide +kernel
theorem dX8_counted_99 : decode cX8_counted 99 = .ok (.iconst 1, 1) := by decide +kernel
theorem dX8_counted_100 : decode cX8_counted 100 = .ok (.iaload, 1) := by decide +kernel
theorem dX8_counted_101 : decode cX8_counted 101 = .ok (.ireturn, 1) := by decide +kernel
theorem dX8_counted_102 : decode cX8_counted 102 = .ok (.aload_n 0, 1) := by decide +kernel
theorem dX8_counted_103 : decode cX8_counted 103 = .ok (.getfield 7, 3) := by decide +kernel
theorem dX8_counted_106 : decode cX8_counted 106 = .ok (.iconst 2, 1) := by decide +kernel
theorem dX8_counted_107 : decode cX8_counted 107 = .ok (.iaload, 1) := by decide +kernel
theorem dX8_counted_108 : decode cX8_counted 108 = .ok (.ireturn, 1) := by decide +kernel
theorem dX8_counted_109 : decode cX8_counted 109 = .ok (.aload_n 0, 1) := by decide +kernel
theorem dX8_counted_110 : decode cX8_counted 110 = .ok (.getfield 78, 3) := by decide +kernel
theorem dX8_counted_113 : decode cX8_counted 113 = .ok (.ireturn, 1) := by decide +kernel
theorem dX8_count_0 : decode cX8_count 0 = .ok (.aload_n 0, 1) := by decide +kernel
theorem dX8_count_1 : decode cX8_count 1 = .ok (.iconst 0, 1) := by decide +kernel
theorem dX8_count_2 : decode cX8_count 2 = .ok (.putfield 41, 3) := by decide +kernel
theorem dX8_count_5 : decode cX8_count 5 = .ok (.iload_n 1, 1) := by decide +kernel
theorem dX8_count_6 : decode cX8_count 6 = .ok (.iconst 0, 1) := by decide +kernel
theorem dX8_count_7 : decode cX8_count 7 = .ok (.bipush 11, 2) := by decide +kernel
theorem dX8_count_9 : decode cX8_count 9 = .ok (.invokestatic 45, 3) := by decide +kernel
theorem dX8_count_12 : decode cX8_count 12 = .ok (.ifCond .eq 11, 3) := by decide +kernel
theorem dX8_count_15 : decode cX8_count 15 = .ok (.aload_n 0, 1) := by decide +kernel
theorem dX8_count_16 : decode cX8_count 16 = .ok (.iload_n 1, 1) := by decide +kernel
theorem dX8_count_17 : decode cX8_count 17 = .ok (.invokevirtual 222, 3) := by decide +kernel
theorem dX8_count_20 : decode cX8_count 20 = .ok (.goto 8, 3) := by decide +kernel
theorem dX8_count_23 : decode cX8_count 23 = .ok (.aload_n 0, 1) := by decide +kernel
theorem dX8_count_24 : decode cX8_count 24 = .ok (.iconst 1, 1) := by decide +kernel
theorem dX8_count_25 : decode cX8_count 25 = .ok (.invokevirtual 81, 3) := by decide +kernel
theorem dX8_count_28 : decode cX8_count 28 = .ok (.ireturn, 1) := by decide +kernel
theorem dX8_ifPlaced_0 : decode cX8_ifPlaced 0 = .ok (.aload_n 0, 1) := by decide +kernel
theorem dX8_ifPlaced_1 : decode cX8_ifPlaced 1 = .ok (.iconst 0, 1) := by decide +kernel
theorem dX8_ifPlaced_2 : decode cX8_ifPlaced 2 = .ok (.putfield 41, 3) := by decide +kernel
theorem dX8_ifPlaced_5 : decode cX8_ifPlaced 5 = .ok (.iload_n 1, 1) := by decide +kernel
theorem dX8_ifPlaced_6 : decode cX8_ifPlaced 6 = .ok (.iconst 1, 1) := by decide +kernel
theorem dX8_ifPlaced_7 : decode cX8_ifPlaced 7 = .ok (.bipush 15, 2) := by decide +kernel
theorem dX8_ifPlaced_9 : decode cX8_ifPlaced 9 = .ok (.invokestatic 45, 3) := by decide +kernel
theorem dX8_ifPlaced_12 : decode cX8_ifPlaced 12 = .ok (.ifCond .eq 11, 3) := by decide +kernel
theorem dX8_ifPlaced_15 : decode cX8_ifPlaced 15 = .ok (.aload_n 0, 1) := by decide +kernel
theorem dX8_ifPlaced_16 : decode cX8_ifPlaced 16 = .ok (.iload_n 1, 1) := by decide +kernel
theorem dX8_ifPlaced_17 : decode cX8_ifPlaced 17 = .ok (.invokevirtual 103, 3) := by decide +kernel
theorem dX8_ifPlaced_20 : decode cX8_ifPlaced 20 = .ok (.goto 8, 3) := by decide +kernel
theorem dX8_ifPlaced_23 : decode cX8_ifPlaced 23 = .ok (.aload_n 0, 1) := by decide +kernel
theorem dX8_ifPlaced_24 : decode cX8_ifPlaced 24 = .ok (.iconst 1, 1) := by decide +kernel
theorem dX8_ifPlaced_25 : decode cX8_ifPlaced 25 = .ok (.invokevirtual 81, 3) := by decide +kernel
theorem dX8_ifPlaced_28 : decode cX8_ifPlaced 28 = .ok (.ireturn, 1) := by decide +kernel
theorem dX8_afterGrowing_0 : decode cX8_afterGrowing 0 = .ok (.aload_n 0, 1) := by decide +kernel
theorem dX8_afterGrowing_1 : decode cX8_afterGrowing 1 = .ok (.iload_n 1, 1) := by decide +kernel
theorem dX8_afterGrowing_2 : decode cX8_afterGrowing 2 = .ok (.iload_n 2, 1) := by decide +kernel
theorem dX8_afterGrowing_3 : decode cX8_afterGrowing 3 = .ok (.invokevirtual 134, 3) := by decide +kernel
theorem dX8_afterGrowing_6 : decode cX8_afterGrowing 6 = .ok (.istore_n 3, 1) := by decide +kernel
theorem dX8_afterGrowing_7 : decode cX8_afterGrowing 7 = .ok (.aload_n 0, 1) := by decide +kernel
theorem dX8_afterGrowing_8 : decode cX8_afterGrowing 8 = .ok (.invokevirtual 106, 3) := by decide +kernel
theorem dX8_afterGrowing_11 : decode cX8_afterGrowing 11 = .ok (.iload_n 3, 1) := by decide +kernel
theorem dX8_afterGrowing_12 : decode cX8_afterGrowing 12 = .ok (.ireturn, 1) := by decide +kernel
theorem dX8_ifGrown_0 : decode cX8_ifGrown 0 = .ok (.aload_n 0, 1) := by decide +kernel
theorem dX8_ifGrown_1 : decode cX8_ifGrown 1 = .ok (.iconst 0, 1) := by decide +kernel
theorem dX8_ifGrown_2 : decode cX8_ifGrown 2 = .ok (.putfield 41, 3) := by decide +kernel
theorem dX8_ifGrown_5 : decode cX8_ifGrown 5 = .ok (.aload_n 0, 1) := by decide +kernel
theorem dX8_ifGrown_6 : decode cX8_ifGrown 6 = .ok (.iload_n 1, 1) := by decide +kernel
theorem dX8_ifGrown_7 : decode cX8_ifGrown 7 = .ok (.invokevirtual 53, 3) := by decide +kernel
theorem dX8_ifGrown_10 : decode cX8_ifGrown 10 = .ok (.ifCond .ne 9, 3) := by decide +kernel
theorem dX8_ifGrown_13 : decode cX8_ifGrown 13 = .ok (.aload_n 0, 1) := by decide +kernel
theorem dX8_ifGrown_14 : decode cX8_ifGrown 14 = .ok (.iconst 1, 1) := by decide +kernel
theorem dX8_ifGrown_15 : decode cX8_ifGrown 15 = .ok (.invokevirtual 81, 3) := by decide +kernel
theorem dX8_ifGrown_18 : decode cX8_ifGrown 18 = .ok (.ireturn, 1) := by decide +kernel
theorem dX8_ifGrown_19 : decode cX8_ifGrown 19 = .ok (.iload_n 2, 1) := by decide +kernel
theorem dX8_ifGrown_20 : decode cX8_ifGrown 20 = .ok (.iconst 1, 1) := by decide +kernel
theorem dX8_ifGrown_21 : decode cX8_ifGrown 21 = .ok (.sipush 200, 3) := by decide +kernel
theorem dX8_ifGrown_24 : decode cX8_ifGrown 24 = .ok (.invokestatic 45, 3) := by decide +kernel
theorem dX8_ifGrown_27 : decode cX8_ifGrown 27 = .ok (.ifCond .eq 12, 3) := by decide +kernel
theorem dX8_ifGrown_30 : decode cX8_ifGrown 30 = .ok (.aload_n 0, 1) := by decide +kernel
theorem dX8_ifGrown_31 : decode cX8_ifGrown 31 = .ok (.iload_n 1, 1) := by decide +kernel
theorem dX8_ifGrown_32 : decode cX8_ifGrown 32 = .ok (.iload_n 2, 1) := by decide +kernel
theorem dX8_ifGrown_33 : decode cX8_ifGrown 33 = .ok (.invokevirtual 225, 3) := by decide +kernel
theorem dX8_ifGrown_36 : decode cX8_ifGrown 36 = .ok (.goto 8, 3) := by decide +kernel
theorem dX8_ifGrown_39 : decode cX8_ifGrown 39 = .ok (.aload_n 0, 1) := by decide +kernel
theorem dX8_ifGrown_40 : decode cX8_ifGrown 40 = .ok (.iconst 2, 1) := by decide +kernel
theorem dX8_ifGrown_41 : decode cX8_ifGrown 41 = .ok (.invokevirtual 81, 3) := by decide +kernel
theorem dX8_ifGrown_44 : decode cX8_ifGrown 44 = .ok (.ireturn, 1) := by decide +kernel
theorem dX8_couldCome_0 : decode cX8_couldCome 0 = .ok (.aload_n 0, 1) := by decide +kernel
theorem dX8_couldCome_1 : decode cX8_couldCome 1 = .ok (.iconst 0, 1) := by decide +kernel
theorem dX8_couldCome_2 : decode cX8_couldCome 2 = .ok (.invokevirtual 146, 3) := by decide +kernel
theorem dX8_couldCome_5 : decode cX8_couldCome 5 = .ok (.istore_n 2, 1) := by decide +kernel
theorem dX8_couldCome_6 : decode cX8_couldCome 6 = .ok (.iload_n 1, 1) := by decide +kernel
theorem dX8_couldCome_7 : decode cX8_couldCome 7 = .ok (.bipush 16, 2) := by decide +kernel
theorem dX8_couldCome_9 : decode cX8_couldCome 9 = .ok (.idiv, 1) := by decide +kernel
theorem dX8_couldCome_10 : decode cX8_couldCome 10 = .ok (.istore_n 3, 1) := by decide +kernel
theorem dX8_couldCome_11 : decode cX8_couldCome 11 = .ok (.iload_n 3, 1) := by decide +kernel
theorem dX8_couldCome_12 : decode cX8_couldCome 12 = .ok (.iload_n 2, 1) := by decide +kernel
theorem dX8_couldCome_13 : decode cX8_couldCome 13 = .ok (.if_icmp .gt 31, 3) := by decide +kernel
theorem dX8_couldCome_16 : decode cX8_couldCome 16 = .ok (.iload_n 1, 1) := by decide +kernel
theorem dX8_couldCome_17 : decode cX8_couldCome 17 = .ok (.bipush 16, 2) := by decide +kernel
theorem dX8_couldCome_19 : decode cX8_couldCome 19 = .ok (.irem, 1) := by decide +kernel
theorem dX8_couldCome_20 : decode cX8_couldCome 20 = .ok (.ifCond .eq 20, 3) := by decide +kernel
theorem dX8_couldCome_23 : decode cX8_couldCome 23 = .ok (.iload_n 3, 1) := by decide +kernel
theorem dX8_couldCome_24 : decode cX8_couldCome 24 = .ok (.iload_n 2, 1) := by decide +kernel
theorem dX8_couldCome_25 : decode cX8_couldCome 25 = .ok (.if_icmp .lt 15, 3) := by decide +kernel
theorem dX8_couldCome_28 : decode cX8_couldCome 28 = .ok (.aload_n 0, 1) := by decide +kernel
theorem dX8_couldCome_29 : decode cX8_couldCome 29 = .ok (.iload_n 1, 1) := by decide +kernel
theorem dX8_couldCome_30 : decode cX8_couldCome 30 = .ok (.bipush 16, 2) := by decide +kernel
theorem dX8_couldCome_32 : decode cX8_couldCome 32 = .ok (.irem, 1) := by decide +kernel
theorem dX8_couldCome_33 : decode cX8_couldCome 33 = .ok (.invokevirtual 71, 3) := by decide +kernel
theorem dX8_couldCome_36 : decode cX8_couldCome 36 = .ok (.iconst (-1), 1) := by decide +kernel
theorem dX8_couldCome_37 : decode cX8_couldCome 37 = .ok (.if_icmp .eq 7, 3) := by decide +kernel
theorem dX8_couldCome_40 : decode cX8_couldCome 40 = .ok (.iconst 1, 1) := by decide +kernel
theorem dX8_couldCome_41 : decode cX8_couldCome 41 = .ok (.goto 4, 3) := by decide +kernel
theorem dX8_couldCome_44 : decode cX8_couldCome 44 = .ok (.iconst 0, 1) := by decide +kernel
theorem dX8_couldCome_45 : decode cX8_couldCome 45 = .ok (.ireturn, 1) := by decide +kernel
theorem dX8_greatestSize_0 : decode cX8_greatestSize 0 = .ok (.aload_n 0, 1) := by decide +kernel
theorem dX8_greatestSize_1 : decode cX8_greatestSize 1 = .ok (.invokevirtual 84, 3) := by decide +kernel
theorem dX8_greatestSize_4 : decode cX8_greatestSize 4 = .ok (.bipush 10, 2) := by decide +kernel
theorem dX8_greatestSize_6 : decode cX8_greatestSize 6 = .ok (.if_icmp .ne 5, 3) := by decide +kernel
theorem dX8_greatestSize_9 : decode cX8_greatestSize 9 = .ok (.iconst (-1), 1) := by decide +kernel
theorem dX8_greatestSize_10 : decode cX8_greatestSize 10 = .ok (.ireturn, 1) := by decide +kernel
theorem dX8_greatestSize_11 : decode cX8_greatestSize 11 = .ok (.sipush 200, 3) := by decide +kernel
theorem dX8_greatestSize_14 : decode cX8_greatestSize 14 = .ok (.istore_n 1, 1) := by decide +kernel
theorem dX8_greatestSize_15 : decode cX8_greatestSize 15 = .ok (.aload_n 0, 1) := by decide +kernel
theorem dX8_greatestSize_16 : decode cX8_greatestSize 16 = .ok (.iload_n 1, 1) := by decide +kernel
theorem dX8_greatestSize_17 : decode cX8_greatestSize 17 = .ok (.invokevirtual 228, 3) := by decide +kernel
theorem dX8_greatestSize_20 : decode cX8_greatestSize 20 = .ok (.ifCond .ne 9, 3) := by decide +kernel
theorem dX8_greatestSize_23 : decode cX8_greatestSize 23 = .ok (.iinc 1 (-1), 3) := by decide +kernel
theorem dX8_greatestSize_26 : decode cX8_greatestSize 26 = .ok (.goto (-11), 3) := by decide +kernel
theorem dX8_greatestSize_29 : decode cX8_greatestSize 29 = .ok (.iload_n 1, 1) := by decide +kernel
theorem dX8_greatestSize_30 : decode cX8_greatestSize 30 = .ok (.ireturn, 1) := by decide +kernel
theorem dX8_greatest_0 : decode cX8_greatest 0 = .ok (.aload_n 0, 1) := by decide +kernel
theorem dX8_greatest_1 : decode cX8_greatest 1 = .ok (.iconst 0, 1) := by decide +kernel
theorem dX8_greatest_2 : decode cX8_greatest 2 = .ok (.putfield 41, 3) := by decide +kernel
theorem dX8_greatest_5 : decode cX8_greatest 5 = .ok (.aload_n 0, 1) := by decide +kernel
theorem dX8_greatest_6 : decode cX8_greatest 6 = .ok (.invokevirtual 231, 3) := by decide +kernel
theorem dX8_greatest_9 : decode cX8_greatest 9 = .ok (.ireturn, 1) := by decide +kernel
theorem dX8_fewestBlocks_0 : decode cX8_fewestBlocks 0 = .ok (.aload_n 0, 1) := by decide +kernel
theorem dX8_fewestBlocks_1 : decode cX8_fewestBlocks 1 = .ok (.invokevirtual 152, 3) := by decide +kernel
theorem dX8_fewestBlocks_4 : decode cX8_fewestBlocks 4 = .ok (.istore_n 1, 1) := by decide +kernel
theorem dX8_fewestBlocks_5 : decode cX8_fewestBlocks 5 = .ok (.aload_n 0, 1) := by decide +kernel
theorem dX8_fewestBlocks_6 : decode cX8_fewestBlocks 6 = .ok (.getfield 32, 3) := by decide +kernel
theorem dX8_fewestBlocks_9 : decode cX8_fewestBlocks 9 = .ok (.iconst 0, 1) := by decide +kernel
theorem dX8_fewestBlocks_10 : decode cX8_fewestBlocks 10 = .ok (.bipush 16, 2) := by decide +kernel
end
section
theorem dX8_fewestBlocks_12 : decode cX8_fewestBlocks 12 = .ok (.iastore, 1) := by decide +kernel
theorem dX8_fewestBlocks_13 : decode cX8_fewestBlocks 13 = .ok (.iconst 1, 1) := by decide +kernel
theorem dX8_fewestBlocks_14 : decode cX8_fewestBlocks 14 = .ok (.istore_n 2, 1) := by decide +kernel
theorem dX8_fewestBlocks_15 : decode cX8_fewestBlocks 15 = .ok (.iload_n 2, 1) := by decide +kernel
theorem dX8_fewestBlocks_16 : decode cX8_fewestBlocks 16 = .ok (.iconst 1, 1) := by decide +kernel
theorem dX8_fewestBlocks_17 : decode cX8_fewestBlocks 17 = .ok (.iload_n 1, 1) := by decide +kernel
theorem dX8_fewestBlocks_18 : decode cX8_fewestBlocks 18 = .ok (.ishl, 1) := by decide +kernel
theorem dX8_fewestBlocks_19 : decode cX8_fewestBlocks 19 = .ok (.if_icmp .ge 128, 3) := by decide +kernel
theorem dX8_fewestBlocks_22 : decode cX8_fewestBlocks 22 = .ok (.aload_n 0, 1) := by decide +kernel
theorem dX8_fewestBlocks_23 : decode cX8_fewestBlocks 23 = .ok (.getfield 32, 3) := by decide +kernel
theorem dX8_fewestBlocks_26 : decode cX8_fewestBlocks 26 = .ok (.iload_n 2, 1) := by decide +kernel
theorem dX8_fewestBlocks_27 : decode cX8_fewestBlocks 27 = .ok (.sipush 1024, 3) := by decide +kernel
theorem dX8_fewestBlocks_30 : decode cX8_fewestBlocks 30 = .ok (.iastore, 1) := by decide +kernel
theorem dX8_fewestBlocks_31 : decode cX8_fewestBlocks 31 = .ok (.iconst 0, 1) := by decide +kernel
theorem dX8_fewestBlocks_32 : decode cX8_fewestBlocks 32 = .ok (.istore_n 3, 1) := by decide +kernel
theorem dX8_fewestBlocks_33 : decode cX8_fewestBlocks 33 = .ok (.iload_n 3, 1) := by decide +kernel
theorem dX8_fewestBlocks_34 : decode cX8_fewestBlocks 34 = .ok (.iload_n 1, 1) := by decide +kernel
theorem dX8_fewestBlocks_35 : decode cX8_fewestBlocks 35 = .ok (.if_icmp .ge 106, 3) := by decide +kernel
theorem dX8_fewestBlocks_38 : decode cX8_fewestBlocks 38 = .ok (.iload_n 2, 1) := by decide +kernel
theorem dX8_fewestBlocks_39 : decode cX8_fewestBlocks 39 = .ok (.iload_n 3, 1) := by decide +kernel
theorem dX8_fewestBlocks_40 : decode cX8_fewestBlocks 40 = .ok (.ishr, 1) := by decide +kernel
theorem dX8_fewestBlocks_41 : decode cX8_fewestBlocks 41 = .ok (.iconst 1, 1) := by decide +kernel
theorem dX8_fewestBlocks_42 : decode cX8_fewestBlocks 42 = .ok (.iand, 1) := by decide +kernel
theorem dX8_fewestBlocks_43 : decode cX8_fewestBlocks 43 = .ok (.iconst 1, 1) := by decide +kernel
theorem dX8_fewestBlocks_44 : decode cX8_fewestBlocks 44 = .ok (.if_icmp .ne 91, 3) := by decide +kernel
theorem dX8_fewestBlocks_47 : decode cX8_fewestBlocks 47 = .ok (.aload_n 0, 1) := by decide +kernel
theorem dX8_fewestBlocks_48 : decode cX8_fewestBlocks 48 = .ok (.getfield 32, 3) := by decide +kernel
theorem dX8_fewestBlocks_51 : decode cX8_fewestBlocks 51 = .ok (.iload_n 2, 1) := by decide +kernel
theorem dX8_fewestBlocks_52 : decode cX8_fewestBlocks 52 = .ok (.iconst 1, 1) := by decide +kernel
theorem dX8_fewestBlocks_53 : decode cX8_fewestBlocks 53 = .ok (.iload_n 3, 1) := by decide +kernel
theorem dX8_fewestBlocks_54 : decode cX8_fewestBlocks 54 = .ok (.ishl, 1) := by decide +kernel
theorem dX8_fewestBlocks_55 : decode cX8_fewestBlocks 55 = .ok (.isub, 1) := by decide +kernel
theorem dX8_fewestBlocks_56 : decode cX8_fewestBlocks 56 = .ok (.iaload, 1) := by decide +kernel
theorem dX8_fewestBlocks_57 : decode cX8_fewestBlocks 57 = .ok (.istore 4, 2) := by decide +kernel
theorem dX8_fewestBlocks_59 : decode cX8_fewestBlocks 59 = .ok (.aload_n 0, 1) := by decide +kernel
theorem dX8_fewestBlocks_60 : decode cX8_fewestBlocks 60 = .ok (.aload_n 0, 1) := by decide +kernel
theorem dX8_fewestBlocks_61 : decode cX8_fewestBlocks 61 = .ok (.getfield 35, 3) := by decide +kernel
theorem dX8_fewestBlocks_64 : decode cX8_fewestBlocks 64 = .ok (.iload_n 3, 1) := by decide +kernel
theorem dX8_fewestBlocks_65 : decode cX8_fewestBlocks 65 = .ok (.iaload, 1) := by decide +kernel
theorem dX8_fewestBlocks_66 : decode cX8_fewestBlocks 66 = .ok (.invokevirtual 57, 3) := by decide +kernel
theorem dX8_fewestBlocks_69 : decode cX8_fewestBlocks 69 = .ok (.istore 5, 2) := by decide +kernel
theorem dX8_fewestBlocks_71 : decode cX8_fewestBlocks 71 = .ok (.iload 4, 2) := by decide +kernel
theorem dX8_fewestBlocks_73 : decode cX8_fewestBlocks 73 = .ok (.bipush 32, 2) := by decide +kernel
theorem dX8_fewestBlocks_75 : decode cX8_fewestBlocks 75 = .ok (.irem, 1) := by decide +kernel
theorem dX8_fewestBlocks_76 : decode cX8_fewestBlocks 76 = .ok (.iload 5, 2) := by decide +kernel
theorem dX8_fewestBlocks_78 : decode cX8_fewestBlocks 78 = .ok (.iadd, 1) := by decide +kernel
theorem dX8_fewestBlocks_79 : decode cX8_fewestBlocks 79 = .ok (.bipush 16, 2) := by decide +kernel
theorem dX8_fewestBlocks_81 : decode cX8_fewestBlocks 81 = .ok (.if_icmp .gt 11, 3) := by decide +kernel
theorem dX8_fewestBlocks_84 : decode cX8_fewestBlocks 84 = .ok (.iload 4, 2) := by decide +kernel
theorem dX8_fewestBlocks_86 : decode cX8_fewestBlocks 86 = .ok (.iload 5, 2) := by decide +kernel
theorem dX8_fewestBlocks_88 : decode cX8_fewestBlocks 88 = .ok (.iadd, 1) := by decide +kernel
theorem dX8_fewestBlocks_89 : decode cX8_fewestBlocks 89 = .ok (.goto 16, 3) := by decide +kernel
theorem dX8_fewestBlocks_92 : decode cX8_fewestBlocks 92 = .ok (.bipush 32, 2) := by decide +kernel
theorem dX8_fewestBlocks_94 : decode cX8_fewestBlocks 94 = .ok (.iload 4, 2) := by decide +kernel
theorem dX8_fewestBlocks_96 : decode cX8_fewestBlocks 96 = .ok (.bipush 32, 2) := by decide +kernel
theorem dX8_fewestBlocks_98 : decode cX8_fewestBlocks 98 = .ok (.idiv, 1) := by decide +kernel
theorem dX8_fewestBlocks_99 : decode cX8_fewestBlocks 99 = .ok (.iconst 1, 1) := by decide +kernel
theorem dX8_fewestBlocks_100 : decode cX8_fewestBlocks 100 = .ok (.iadd, 1) := by decide +kernel
theorem dX8_fewestBlocks_101 : decode cX8_fewestBlocks 101 = .ok (.imul, 1) := by decide +kernel
theorem dX8_fewestBlocks_102 : decode cX8_fewestBlocks 102 = .ok (.iload 5, 2) := by decide +kernel
theorem dX8_fewestBlocks_104 : decode cX8_fewestBlocks 104 = .ok (.iadd, 1) := by decide +kernel
theorem dX8_fewestBlocks_105 : decode cX8_fewestBlocks 105 = .ok (.istore 6, 2) := by decide +kernel
theorem dX8_fewestBlocks_107 : decode cX8_fewestBlocks 107 = .ok (.aload_n 0, 1) := by decide +kernel
theorem dX8_fewestBlocks_108 : decode cX8_fewestBlocks 108 = .ok (.getfield 32, 3) := by decide +kernel
theorem dX8_fewestBlocks_111 : decode cX8_fewestBlocks 111 = .ok (.iload_n 2, 1) := by decide +kernel
theorem dX8_fewestBlocks_112 : decode cX8_fewestBlocks 112 = .ok (.iload 6, 2) := by decide +kernel
theorem dX8_fewestBlocks_114 : decode cX8_fewestBlocks 114 = .ok (.aload_n 0, 1) := by decide +kernel
theorem dX8_fewestBlocks_115 : decode cX8_fewestBlocks 115 = .ok (.getfield 32, 3) := by decide +kernel
theorem dX8_fewestBlocks_118 : decode cX8_fewestBlocks 118 = .ok (.iload_n 2, 1) := by decide +kernel
theorem dX8_fewestBlocks_119 : decode cX8_fewestBlocks 119 = .ok (.iaload, 1) := by decide +kernel
theorem dX8_fewestBlocks_120 : decode cX8_fewestBlocks 120 = .ok (.if_icmp .ge 8, 3) := by decide +kernel
theorem dX8_fewestBlocks_123 : decode cX8_fewestBlocks 123 = .ok (.iload 6, 2) := by decide +kernel
theorem dX8_fewestBlocks_125 : decode cX8_fewestBlocks 125 = .ok (.goto 9, 3) := by decide +kernel
theorem dX8_fewestBlocks_128 : decode cX8_fewestBlocks 128 = .ok (.aload_n 0, 1) := by decide +kernel
theorem dX8_fewestBlocks_129 : decode cX8_fewestBlocks 129 = .ok (.getfield 32, 3) := by decide +kernel
theorem dX8_fewestBlocks_132 : decode cX8_fewestBlocks 132 = .ok (.iload_n 2, 1) := by decide +kernel
theorem dX8_fewestBlocks_133 : decode cX8_fewestBlocks 133 = .ok (.iaload, 1) := by decide +kernel
theorem dX8_fewestBlocks_134 : decode cX8_fewestBlocks 134 = .ok (.iastore, 1) := by decide +kernel
theorem dX8_fewestBlocks_135 : decode cX8_fewestBlocks 135 = .ok (.iinc 3 1, 3) := by decide +kernel
theorem dX8_fewestBlocks_138 : decode cX8_fewestBlocks 138 = .ok (.goto (-105), 3) := by decide +kernel
theorem dX8_fewestBlocks_141 : decode cX8_fewestBlocks 141 = .ok (.iinc 2 1, 3) := by decide +kernel
theorem dX8_fewestBlocks_144 : decode cX8_fewestBlocks 144 = .ok (.goto (-129), 3) := by decide +kernel
theorem dX8_fewestBlocks_147 : decode cX8_fewestBlocks 147 = .ok (.aload_n 0, 1) := by decide +kernel
theorem dX8_fewestBlocks_148 : decode cX8_fewestBlocks 148 = .ok (.getfield 32, 3) := by decide +kernel
theorem dX8_fewestBlocks_151 : decode cX8_fewestBlocks 151 = .ok (.iconst 1, 1) := by decide +kernel
theorem dX8_fewestBlocks_152 : decode cX8_fewestBlocks 152 = .ok (.iload_n 1, 1) := by decide +kernel
theorem dX8_fewestBlocks_153 : decode cX8_fewestBlocks 153 = .ok (.ishl, 1) := by decide +kernel
theorem dX8_fewestBlocks_154 : decode cX8_fewestBlocks 154 = .ok (.iconst 1, 1) := by decide +kernel
theorem dX8_fewestBlocks_155 : decode cX8_fewestBlocks 155 = .ok (.isub, 1) := by decide +kernel
theorem dX8_fewestBlocks_156 : decode cX8_fewestBlocks 156 = .ok (.iaload, 1) := by decide +kernel
theorem dX8_fewestBlocks_157 : decode cX8_fewestBlocks 157 = .ok (.bipush 32, 2) := by decide +kernel
theorem dX8_fewestBlocks_159 : decode cX8_fewestBlocks 159 = .ok (.idiv, 1) := by decide +kernel
theorem dX8_fewestBlocks_160 : decode cX8_fewestBlocks 160 = .ok (.ireturn, 1) := by decide +kernel
theorem dX8_fewest_0 : decode cX8_fewest 0 = .ok (.aload_n 0, 1) := by decide +kernel
theorem dX8_fewest_1 : decode cX8_fewest 1 = .ok (.iconst 0, 1) := by decide +kernel
theorem dX8_fewest_2 : decode cX8_fewest 2 = .ok (.putfield 41, 3) := by decide +kernel
theorem dX8_fewest_5 : decode cX8_fewest 5 = .ok (.iload_n 1, 1) := by decide +kernel
theorem dX8_fewest_6 : decode cX8_fewest 6 = .ok (.iconst 0, 1) := by decide +kernel
theorem dX8_fewest_7 : decode cX8_fewest 7 = .ok (.iconst 1, 1) := by decide +kernel
theorem dX8_fewest_8 : decode cX8_fewest 8 = .ok (.invokestatic 45, 3) := by decide +kernel
theorem dX8_fewest_11 : decode cX8_fewest 11 = .ok (.ifCond .eq 10, 3) := by decide +kernel
theorem dX8_fewest_14 : decode cX8_fewest 14 = .ok (.aload_n 0, 1) := by decide +kernel
theorem dX8_fewest_15 : decode cX8_fewest 15 = .ok (.invokevirtual 234, 3) := by decide +kernel
theorem dX8_fewest_18 : decode cX8_fewest 18 = .ok (.goto 8, 3) := by decide +kernel
theorem dX8_fewest_21 : decode cX8_fewest 21 = .ok (.aload_n 0, 1) := by decide +kernel
theorem dX8_fewest_22 : decode cX8_fewest 22 = .ok (.iconst 1, 1) := by decide +kernel
theorem dX8_fewest_23 : decode cX8_fewest 23 = .ok (.invokevirtual 81, 3) := by decide +kernel
theorem dX8_fewest_26 : decode cX8_fewest 26 = .ok (.ireturn, 1) := by decide +kernel
theorem dX8_afterPacking_0 : decode cX8_afterPacking 0 = .ok (.aload_n 0, 1) := by decide +kernel
theorem dX8_afterPacking_1 : decode cX8_afterPacking 1 = .ok (.invokevirtual 161, 3) := by decide +kernel
theorem dX8_afterPacking_4 : decode cX8_afterPacking 4 = .ok (.istore_n 1, 1) := by decide +kernel
theorem dX8_afterPacking_5 : decode cX8_afterPacking 5 = .ok (.aload_n 0, 1) := by decide +kernel
theorem dX8_afterPacking_6 : decode cX8_afterPacking 6 = .ok (.invokevirtual 106, 3) := by decide +kernel
theorem dX8_afterPacking_9 : decode cX8_afterPacking 9 = .ok (.iload_n 1, 1) := by decide +kernel
theorem dX8_afterPacking_10 : decode cX8_afterPacking 10 = .ok (.ireturn, 1) := by decide +kernel
theorem dX8_ifPacked_0 : decode cX8_ifPacked 0 = .ok (.aload_n 0, 1) := by decide +kernel
theorem dX8_ifPacked_1 : decode cX8_ifPacked 1 = .ok (.iconst 0, 1) := by decide +kernel
theorem dX8_ifPacked_2 : decode cX8_ifPacked 2 = .ok (.putfield 41, 3) := by decide +kernel
theorem dX8_ifPacked_5 : decode cX8_ifPacked 5 = .ok (.aload_n 0, 1) := by decide +kernel
theorem dX8_ifPacked_6 : decode cX8_ifPacked 6 = .ok (.invokevirtual 237, 3) := by decide +kernel
theorem dX8_ifPacked_9 : decode cX8_ifPacked 9 = .ok (.ireturn, 1) := by decide +kernel
theorem dX8_weakestBlock_0 : decode cX8_weakestBlock 0 = .ok (.iconst (-1), 1) := by decide +kernel
theorem dX8_weakestBlock_1 : decode cX8_weakestBlock 1 = .ok (.istore_n 1, 1) := by decide +kernel
theorem dX8_weakestBlock_2 : decode cX8_weakestBlock 2 = .ok (.iconst 0, 1) := by decide +kernel
theorem dX8_weakestBlock_3 : decode cX8_weakestBlock 3 = .ok (.istore_n 2, 1) := by decide +kernel
theorem dX8_weakestBlock_4 : decode cX8_weakestBlock 4 = .ok (.iconst 0, 1) := by decide +kernel
theorem dX8_weakestBlock_5 : decode cX8_weakestBlock 5 = .ok (.istore_n 3, 1) := by decide +kernel
theorem dX8_weakestBlock_6 : decode cX8_weakestBlock 6 = .ok (.iload_n 3, 1) := by decide +kernel
theorem dX8_weakestBlock_7 : decode cX8_weakestBlock 7 = .ok (.bipush 24, 2) := by decide +kernel
theorem dX8_weakestBlock_9 : decode cX8_weakestBlock 9 = .ok (.if_icmp .ge 95, 3) := by decide +kernel
theorem dX8_weakestBlock_12 : decode cX8_weakestBlock 12 = .ok (.iconst 0, 1) := by decide +kernel
theorem dX8_weakestBlock_13 : decode cX8_weakestBlock 13 = .ok (.istore 4, 2) := by decide +kernel
theorem dX8_weakestBlock_15 : decode cX8_weakestBlock 15 = .ok (.iconst 0, 1) := by decide +kernel
theorem dX8_weakestBlock_16 : decode cX8_weakestBlock 16 = .ok (.istore 5, 2) := by decide +kernel
theorem dX8_weakestBlock_18 : decode cX8_weakestBlock 18 = .ok (.iload 5, 2) := by decide +kernel
theorem dX8_weakestBlock_20 : decode cX8_weakestBlock 20 = .ok (.bipush 10, 2) := by decide +kernel
theorem dX8_weakestBlock_22 : decode cX8_weakestBlock 22 = .ok (.if_icmp .ge 51, 3) := by decide +kernel
theorem dX8_weakestBlock_25 : decode cX8_weakestBlock 25 = .ok (.iload 4, 2) := by decide +kernel
theorem dX8_weakestBlock_27 : decode cX8_weakestBlock 27 = .ok (.aload_n 0, 1) := by decide +kernel
theorem dX8_weakestBlock_28 : decode cX8_weakestBlock 28 = .ok (.getfield 7, 3) := by decide +kernel
theorem dX8_weakestBlock_31 : decode cX8_weakestBlock 31 = .ok (.iconst 3, 1) := by decide +kernel
theorem dX8_weakestBlock_32 : decode cX8_weakestBlock 32 = .ok (.iload_n 3, 1) := by decide +kernel
theorem dX8_weakestBlock_33 : decode cX8_weakestBlock 33 = .ok (.iadd, 1) := by decide +kernel
theorem dX8_weakestBlock_34 : decode cX8_weakestBlock 34 = .ok (.iaload, 1) := by decide +kernel
theorem dX8_weakestBlock_35 : decode cX8_weakestBlock 35 = .ok (.iconst 3, 1) := by decide +kernel
theorem dX8_weakestBlock_36 : decode cX8_weakestBlock 36 = .ok (.if_icmp .eq 27, 3) := by decide +kernel
theorem dX8_weakestBlock_39 : decode cX8_weakestBlock 39 = .ok (.aload_n 0, 1) := by decide +kernel
theorem dX8_weakestBlock_40 : decode cX8_weakestBlock 40 = .ok (.iload 5, 2) := by decide +kernel
theorem dX8_weakestBlock_42 : decode cX8_weakestBlock 42 = .ok (.iload_n 3, 1) := by decide +kernel
theorem dX8_weakestBlock_43 : decode cX8_weakestBlock 43 = .ok (.invokevirtual 143, 3) := by decide +kernel
theorem dX8_weakestBlock_46 : decode cX8_weakestBlock 46 = .ok (.ifCond .eq 17, 3) := by decide +kernel
theorem dX8_weakestBlock_49 : decode cX8_weakestBlock 49 = .ok (.aload_n 0, 1) := by decide +kernel
theorem dX8_weakestBlock_50 : decode cX8_weakestBlock 50 = .ok (.iload 5, 2) := by decide +kernel
theorem dX8_weakestBlock_52 : decode cX8_weakestBlock 52 = .ok (.iconst 2, 1) := by decide +kernel
theorem dX8_weakestBlock_53 : decode cX8_weakestBlock 53 = .ok (.invokevirtual 49, 3) := by decide +kernel
theorem dX8_weakestBlock_56 : decode cX8_weakestBlock 56 = .ok (.ifCond .ne 7, 3) := by decide +kernel
theorem dX8_weakestBlock_59 : decode cX8_weakestBlock 59 = .ok (.iconst 1, 1) := by decide +kernel
theorem dX8_weakestBlock_60 : decode cX8_weakestBlock 60 = .ok (.goto 4, 3) := by decide +kernel
theorem dX8_weakestBlock_63 : decode cX8_weakestBlock 63 = .ok (.iconst 0, 1) := by decide +kernel
theorem dX8_weakestBlock_64 : decode cX8_weakestBlock 64 = .ok (.iadd, 1) := by decide +kernel
theorem dX8_weakestBlock_65 : decode cX8_weakestBlock 65 = .ok (.istore 4, 2) := by decide +kernel
theorem dX8_weakestBlock_67 : decode cX8_weakestBlock 67 = .ok (.iinc 5 1, 3) := by decide +kernel
theorem dX8_weakestBlock_70 : decode cX8_weakestBlock 70 = .ok (.goto (-52), 3) := by decide +kernel
theorem dX8_weakestBlock_73 : decode cX8_weakestBlock 73 = .ok (.iload 4, 2) := by decide +kernel
theorem dX8_weakestBlock_75 : decode cX8_weakestBlock 75 = .ok (.iload_n 2, 1) := by decide +kernel
theorem dX8_weakestBlock_76 : decode cX8_weakestBlock 76 = .ok (.if_icmp .le 7, 3) := by decide +kernel
theorem dX8_weakestBlock_79 : decode cX8_weakestBlock 79 = .ok (.iload_n 3, 1) := by decide +kernel
theorem dX8_weakestBlock_80 : decode cX8_weakestBlock 80 = .ok (.goto 4, 3) := by decide +kernel
theorem dX8_weakestBlock_83 : decode cX8_weakestBlock 83 = .ok (.iload_n 1, 1) := by decide +kernel
theorem dX8_weakestBlock_84 : decode cX8_weakestBlock 84 = .ok (.istore_n 1, 1) := by decide +kernel
theorem dX8_weakestBlock_85 : decode cX8_weakestBlock 85 = .ok (.iload 4, 2) := by decide +kernel
theorem dX8_weakestBlock_87 : decode cX8_weakestBlock 87 = .ok (.iload_n 2, 1) := by decide +kernel
theorem dX8_weakestBlock_88 : decode cX8_weakestBlock 88 = .ok (.if_icmp .le 8, 3) := by decide +kernel
theorem dX8_weakestBlock_91 : decode cX8_weakestBlock 91 = .ok (.iload 4, 2) := by decide +kernel
theorem dX8_weakestBlock_93 : decode cX8_weakestBlock 93 = .ok (.goto 4, 3) := by decide +kernel
theorem dX8_weakestBlock_96 : decode cX8_weakestBlock 96 = .ok (.iload_n 2, 1) := by decide +kernel
theorem dX8_weakestBlock_97 : decode cX8_weakestBlock 97 = .ok (.istore_n 2, 1) := by decide +kernel
theorem dX8_weakestBlock_98 : decode cX8_weakestBlock 98 = .ok (.iinc 3 1, 3) := by decide +kernel
theorem dX8_weakestBlock_101 : decode cX8_weakestBlock 101 = .ok (.goto (-95), 3) := by decide +kernel
theorem dX8_weakestBlock_104 : decode cX8_weakestBlock 104 = .ok (.iload_n 1, 1) := by decide +kernel
theorem dX8_weakestBlock_105 : decode cX8_weakestBlock 105 = .ok (.ireturn, 1) := by decide +kernel
theorem dX8_weakest_0 : decode cX8_weakest 0 = .ok (.aload_n 0, 1) := by decide +kernel
theorem dX8_weakest_1 : decode cX8_weakest 1 = .ok (.iconst 0, 1) := by decide +kernel
theorem dX8_weakest_2 : decode cX8_weakest 2 = .ok (.putfield 41, 3) := by decide +kernel
theorem dX8_weakest_5 : decode cX8_weakest 5 = .ok (.aload_n 0, 1) := by decide +kernel
theorem dX8_weakest_6 : decode cX8_weakest 6 = .ok (.invokevirtual 240, 3) := by decide +kernel
theorem dX8_weakest_9 : decode cX8_weakest 9 = .ok (.ireturn, 1) := by decide +kernel
theorem dX8_used_0 : decode cX8_used 0 = .ok (.aload_n 0, 1) := by decide +kernel
theorem dX8_used_1 : decode cX8_used 1 = .ok (.iconst 1, 1) := by decide +kernel
theorem dX8_used_2 : decode cX8_used 2 = .ok (.invokevirtual 146, 3) := by decide +kernel
theorem dX8_used_5 : decode cX8_used 5 = .ok (.aload_n 0, 1) := by decide +kernel
theorem dX8_used_6 : decode cX8_used 6 = .ok (.iconst 2, 1) := by decide +kernel
theorem dX8_used_7 : decode cX8_used 7 = .ok (.invokevirtual 146, 3) := by decide +kernel
theorem dX8_used_10 : decode cX8_used 10 = .ok (.iadd, 1) := by decide +kernel
theorem dX8_used_11 : decode cX8_used 11 = .ok (.istore_n 1, 1) := by decide +kernel
theorem dX8_used_12 : decode cX8_used 12 = .ok (.iload_n 1, 1) := by decide +kernel
theorem dX8_used_13 : decode cX8_used 13 = .ok (.ifCond .ne 7, 3) := by decide +kernel
theorem dX8_used_16 : decode cX8_used 16 = .ok (.dconst 1, 1) := by decide +kernel
theorem dX8_used_17 : decode cX8_used 17 = .ok (.goto 14, 3) := by decide +kernel
theorem dX8_used_20 : decode cX8_used 20 = .ok (.aload_n 0, 1) := by decide +kernel
theorem dX8_used_21 : decode cX8_used 21 = .ok (.invokevirtual 213, 3) := by decide +kernel
theorem dX8_used_24 : decode cX8_used 24 = .ok (.i2d, 1) := by decide +kernel
theorem dX8_used_25 : decode cX8_used 25 = .ok (.bipush 16, 2) := by decide +kernel
theorem dX8_used_27 : decode cX8_used 27 = .ok (.iload_n 1, 1) := by decide +kernel
theorem dX8_used_28 : decode cX8_used 28 = .ok (.imul, 1) := by decide +kernel
theorem dX8_used_29 : decode cX8_used 29 = .ok (.i2d, 1) := by decide +kernel
theorem dX8_used_30 : decode cX8_used 30 = .ok (.ddiv, 1) := by decide +kernel
theorem dX8_used_31 : decode cX8_used 31 = .ok (.dreturn, 1) := by decide +kernel
theorem dX8_usedShare_0 : decode cX8_usedShare 0 = .ok (.aload_n 0, 1) := by decide +kernel
theorem dX8_usedShare_1 : decode cX8_usedShare 1 = .ok (.iconst 0, 1) := by decide +kernel
theorem dX8_usedShare_2 : decode cX8_usedShare 2 = .ok (.putfield 41, 3) := by decide +kernel
theorem dX8_usedShare_5 : decode cX8_usedShare 5 = .ok (.aload_n 0, 1) := by decide +kernel
theorem dX8_usedShare_6 : decode cX8_usedShare 6 = .ok (.invokevirtual 243, 3) := by decide +kernel
theorem dX8_usedShare_9 : decode cX8_usedShare 9 = .ok (.dreturn, 1) := by decide +kernel
theorem dX8_ofFiles_0 : decode cX8_ofFiles 0 = .ok (.lload_n 1, 1) := by decide +kernel
theorem dX8_ofFiles_1 : decode cX8_ofFiles 1 = .ok (.lstore_n 3, 1) := by decide +kernel
theorem dX8_ofFiles_2 : decode cX8_ofFiles 2 = .ok (.iconst 0, 1) := by decide +kernel
theorem dX8_ofFiles_3 : decode cX8_ofFiles 3 = .ok (.istore 5, 2) := by decide +kernel
theorem dX8_ofFiles_5 : decode cX8_ofFiles 5 = .ok (.iload 5, 2) := by decide +kernel
theorem dX8_ofFiles_7 : decode cX8_ofFiles 7 = .ok (.bipush 10, 2) := by decide +kernel
theorem dX8_ofFiles_9 : decode cX8_ofFiles 9 = .ok (.if_icmp .ge 139, 3) := by decide +kernel
theorem dX8_ofFiles_12 : decode cX8_ofFiles 12 = .ok (.aload_n 0, 1) := by decide +kernel
theorem dX8_ofFiles_13 : decode cX8_ofFiles 13 = .ok (.iload 5, 2) := by decide +kernel
theorem dX8_ofFiles_15 : decode cX8_ofFiles 15 = .ok (.invokevirtual 53, 3) := by decide +kernel
theorem dX8_ofFiles_18 : decode cX8_ofFiles 18 = .ok (.ifCond .eq 124, 3) := by decide +kernel
theorem dX8_ofFiles_21 : decode cX8_ofFiles 21 = .ok (.ldc2_w 247, 3) := by decide +kernel
theorem dX8_ofFiles_24 : decode cX8_ofFiles 24 = .ok (.lload_n 3, 1) := by decide +kernel
theorem dX8_ofFiles_25 : decode cX8_ofFiles 25 = .ok (.lmul, 1) := by decide +kernel
theorem dX8_ofFiles_26 : decode cX8_ofFiles 26 = .ok (.iload 5, 2) := by decide +kernel
theorem dX8_ofFiles_28 : decode cX8_ofFiles 28 = .ok (.i2l, 1) := by decide +kernel
theorem dX8_ofFiles_29 : decode cX8_ofFiles 29 = .ok (.ladd, 1) := by decide +kernel
theorem dX8_ofFiles_30 : decode cX8_ofFiles 30 = .ok (.lstore_n 3, 1) := by decide +kernel
theorem dX8_ofFiles_31 : decode cX8_ofFiles 31 = .ok (.iconst 0, 1) := by decide +kernel
theorem dX8_ofFiles_32 : decode cX8_ofFiles 32 = .ok (.istore 6, 2) := by decide +kernel
theorem dX8_ofFiles_34 : decode cX8_ofFiles 34 = .ok (.iload 6, 2) := by decide +kernel
theorem dX8_ofFiles_36 : decode cX8_ofFiles 36 = .ok (.bipush 7, 2) := by decide +kernel
theorem dX8_ofFiles_38 : decode cX8_ofFiles 38 = .ok (.if_icmp .ge 25, 3) := by decide +kernel
theorem dX8_ofFiles_41 : decode cX8_ofFiles 41 = .ok (.ldc2_w 247, 3) := by decide +kernel
theorem dX8_ofFiles_44 : decode cX8_ofFiles 44 = .ok (.lload_n 3, 1) := by decide +kernel
theorem dX8_ofFiles_45 : decode cX8_ofFiles 45 = .ok (.lmul, 1) := by decide +kernel
theorem dX8_ofFiles_46 : decode cX8_ofFiles 46 = .ok (.aload_n 0, 1) := by decide +kernel
theorem dX8_ofFiles_47 : decode cX8_ofFiles 47 = .ok (.iload 5, 2) := by decide +kernel
theorem dX8_ofFiles_49 : decode cX8_ofFiles 49 = .ok (.iload 6, 2) := by decide +kernel
theorem dX8_ofFiles_51 : decode cX8_ofFiles 51 = .ok (.invokevirtual 195, 3) := by decide +kernel
theorem dX8_ofFiles_54 : decode cX8_ofFiles 54 = .ok (.i2l, 1) := by decide +kernel
theorem dX8_ofFiles_55 : decode cX8_ofFiles 55 = .ok (.ladd, 1) := by decide +kernel
theorem dX8_ofFiles_56 : decode cX8_ofFiles 56 = .ok (.lstore_n 3, 1) := by decide +kernel
theorem dX8_ofFiles_57 : decode cX8_ofFiles 57 = .ok (.iinc 6 1, 3) := by decide +kernel
theorem dX8_ofFiles_60 : decode cX8_ofFiles 60 = .ok (.goto (-26), 3) := by decide +kernel
theorem dX8_ofFiles_63 : decode cX8_ofFiles 63 = .ok (.aload_n 0, 1) := by decide +kernel
theorem dX8_ofFiles_64 : decode cX8_ofFiles 64 = .ok (.iload 5, 2) := by decide +kernel
theorem dX8_ofFiles_66 : decode cX8_ofFiles 66 = .ok (.iconst 1, 1) := by decide +kernel
theorem dX8_ofFiles_67 : decode cX8_ofFiles 67 = .ok (.invokevirtual 49, 3) := by decide +kernel
theorem dX8_ofFiles_70 : decode cX8_ofFiles 70 = .ok (.ifCond .le 41, 3) := by decide +kernel
theorem dX8_ofFiles_73 : decode cX8_ofFiles 73 = .ok (.ldc2_w 247, 3) := by decide +kernel
theorem dX8_ofFiles_76 : decode cX8_ofFiles 76 = .ok (.lload_n 3, 1) := by decide +kernel
theorem dX8_ofFiles_77 : decode cX8_ofFiles 77 = .ok (.lmul, 1) := by decide +kernel
theorem dX8_ofFiles_78 : decode cX8_ofFiles 78 = .ok (.aload_n 0, 1) := by decide +kernel
theorem dX8_ofFiles_79 : decode cX8_ofFiles 79 = .ok (.iload 5, 2) := by decide +kernel
theorem dX8_ofFiles_81 : decode cX8_ofFiles 81 = .ok (.iconst 0, 1) := by decide +kernel
theorem dX8_ofFiles_82 : decode cX8_ofFiles 82 = .ok (.invokevirtual 198, 3) := by decide +kernel
theorem dX8_ofFiles_85 : decode cX8_ofFiles 85 = .ok (.i2l, 1) := by decide +kernel
theorem dX8_ofFiles_86 : decode cX8_ofFiles 86 = .ok (.ladd, 1) := by decide +kernel
theorem dX8_ofFiles_87 : decode cX8_ofFiles 87 = .ok (.lstore_n 3, 1) := by decide +kernel
theorem dX8_ofFiles_88 : decode cX8_ofFiles 88 = .ok (.ldc2_w 247, 3) := by decide +kernel
theorem dX8_ofFiles_91 : decode cX8_ofFiles 91 = .ok (.lload_n 3, 1) := by decide +kernel
theorem dX8_ofFiles_92 : decode cX8_ofFiles 92 = .ok (.lmul, 1) := by decide +kernel
theorem dX8_ofFiles_93 : decode cX8_ofFiles 93 = .ok (.aload_n 0, 1) := by decide +kernel
theorem dX8_ofFiles_94 : decode cX8_ofFiles 94 = .ok (.iload 5, 2) := by decide +kernel
theorem dX8_ofFiles_96 : decode cX8_ofFiles 96 = .ok (.aload_n 0, 1) := by decide +kernel
theorem dX8_ofFiles_97 : decode cX8_ofFiles 97 = .ok (.iload 5, 2) := by decide +kernel
theorem dX8_ofFiles_99 : decode cX8_ofFiles 99 = .ok (.iconst 1, 1) := by decide +kernel
theorem dX8_ofFiles_100 : decode cX8_ofFiles 100 = .ok (.invokevirtual 49, 3) := by decide +kernel
theorem dX8_ofFiles_103 : decode cX8_ofFiles 103 = .ok (.iconst 1, 1) := by decide +kernel
theorem dX8_ofFiles_104 : decode cX8_ofFiles 104 = .ok (.isub, 1) := by decide +kernel
theorem dX8_ofFiles_105 : decode cX8_ofFiles 105 = .ok (.invokevirtual 198, 3) := by decide +kernel
theorem dX8_ofFiles_108 : decode cX8_ofFiles 108 = .ok (.i2l, 1) := by decide +kernel
theorem dX8_ofFiles_109 : decode cX8_ofFiles 109 = .ok (.ladd, 1) := by decide +kernel
theorem dX8_ofFiles_110 : decode cX8_ofFiles 110 = .ok (.lstore_n 3, 1) := by decide +kernel
theorem dX8_ofFiles_111 : decode cX8_ofFiles 111 = .ok (.ldc2_w 247, 3) := by decide +kernel
theorem dX8_ofFiles_114 : decode cX8_ofFiles 114 = .ok (.lload_n 3, 1) := by decide +kernel
theorem dX8_ofFiles_115 : decode cX8_ofFiles 115 = .ok (.lmul, 1) := by decide +kernel
theorem dX8_ofFiles_116 : decode cX8_ofFiles 116 = .ok (.aload_n 0, 1) := by decide +kernel
theorem dX8_ofFiles_117 : decode cX8_ofFiles 117 = .ok (.iload 5, 2) := by decide +kernel
theorem dX8_ofFiles_119 : decode cX8_ofFiles 119 = .ok (.iconst 1, 1) := by decide +kernel
theorem dX8_ofFiles_120 : decode cX8_ofFiles 120 = .ok (.invokevirtual 225, 3) := by decide +kernel
theorem dX8_ofFiles_123 : decode cX8_ofFiles 123 = .ok (.i2l, 1) := by decide +kernel
theorem dX8_ofFiles_124 : decode cX8_ofFiles 124 = .ok (.ladd, 1) := by decide +kernel
theorem dX8_ofFiles_125 : decode cX8_ofFiles 125 = .ok (.lstore_n 3, 1) := by decide +kernel
theorem dX8_ofFiles_126 : decode cX8_ofFiles 126 = .ok (.ldc2_w 247, 3) := by decide +kernel
theorem dX8_ofFiles_129 : decode cX8_ofFiles 129 = .ok (.lload_n 3, 1) := by decide +kernel
theorem dX8_ofFiles_130 : decode cX8_ofFiles 130 = .ok (.lmul, 1) := by decide +kernel
theorem dX8_ofFiles_131 : decode cX8_ofFiles 131 = .ok (.aload_n 0, 1) := by decide +kernel
theorem dX8_ofFiles_132 : decode cX8_ofFiles 132 = .ok (.iload 5, 2) := by decide +kernel
theorem dX8_ofFiles_134 : decode cX8_ofFiles 134 = .ok (.bipush 16, 2) := by decide +kernel
theorem dX8_ofFiles_136 : decode cX8_ofFiles 136 = .ok (.invokevirtual 225, 3) := by decide +kernel
theorem dX8_ofFiles_139 : decode cX8_ofFiles 139 = .ok (.i2l, 1) := by decide +kernel
theorem dX8_ofFiles_140 : decode cX8_ofFiles 140 = .ok (.ladd, 1) := by decide +kernel
theorem dX8_ofFiles_141 : decode cX8_ofFiles 141 = .ok (.lstore_n 3, 1) := by decide +kernel
theorem dX8_ofFiles_142 : decode cX8_ofFiles 142 = .ok (.iinc 5 1, 3) := by decide +kernel
theorem dX8_ofFiles_145 : decode cX8_ofFiles 145 = .ok (.goto (-140), 3) := by decide +kernel
theorem dX8_ofFiles_148 : decode cX8_ofFiles 148 = .ok (.lload_n 3, 1) := by decide +kernel
theorem dX8_ofFiles_149 : decode cX8_ofFiles 149 = .ok (.lreturn, 1) := by decide +kernel
theorem dX8_digest_0 : decode cX8_digest 0 = .ok (.aload_n 0, 1) := by decide +kernel
theorem dX8_digest_1 : decode cX8_digest 1 = .ok (.iconst 0, 1) := by decide +kernel
theorem dX8_digest_2 : decode cX8_digest 2 = .ok (.putfield 41, 3) := by decide +kernel
theorem dX8_digest_5 : decode cX8_digest 5 = .ok (.ldc2_w 249, 3) := by decide +kernel
theorem dX8_digest_8 : decode cX8_digest 8 = .ok (.lstore_n 1, 1) := by decide +kernel
theorem dX8_digest_9 : decode cX8_digest 9 = .ok (.iconst 0, 1) := by decide +kernel
theorem dX8_digest_10 : decode cX8_digest 10 = .ok (.istore_n 3, 1) := by decide +kernel
theorem dX8_digest_11 : decode cX8_digest 11 = .ok (.iload_n 3, 1) := by decide +kernel
theorem dX8_digest_12 : decode cX8_digest 12 = .ok (.bipush 12, 2) := by decide +kernel
theorem dX8_digest_14 : decode cX8_digest 14 = .ok (.if_icmp .ge 22, 3) := by decide +kernel
theorem dX8_digest_17 : decode cX8_digest 17 = .ok (.ldc2_w 247, 3) := by decide +kernel
theorem dX8_digest_20 : decode cX8_digest 20 = .ok (.lload_n 1, 1) := by decide +kernel
theorem dX8_digest_21 : decode cX8_digest 21 = .ok (.lmul, 1) := by decide +kernel
theorem dX8_digest_22 : decode cX8_digest 22 = .ok (.aload_n 0, 1) := by decide +kernel
theorem dX8_digest_23 : decode cX8_digest 23 = .ok (.iload_n 3, 1) := by decide +kernel
theorem dX8_digest_24 : decode cX8_digest 24 = .ok (.invokevirtual 222, 3) := by decide +kernel
theorem dX8_digest_27 : decode cX8_digest 27 = .ok (.i2l, 1) := by decide +kernel
theorem dX8_digest_28 : decode cX8_digest 28 = .ok (.ladd, 1) := by decide +kernel
theorem dX8_digest_29 : decode cX8_digest 29 = .ok (.lstore_n 1, 1) := by decide +kernel
theorem dX8_digest_30 : decode cX8_digest 30 = .ok (.iinc 3 1, 3) := by decide +kernel
theorem dX8_digest_33 : decode cX8_digest 33 = .ok (.goto (-22), 3) := by decide +kernel
theorem dX8_digest_36 : decode cX8_digest 36 = .ok (.aload_n 0, 1) := by decide +kernel
theorem dX8_digest_37 : decode cX8_digest 37 = .ok (.lload_n 1, 1) := by decide +kernel
theorem dX8_digest_38 : decode cX8_digest 38 = .ok (.invokevirtual 251, 3) := by decide +kernel
theorem dX8_digest_41 : decode cX8_digest 41 = .ok (.lstore_n 1, 1) := by decide +kernel
theorem dX8_digest_42 : decode cX8_digest 42 = .ok (.iconst 0, 1) := by decide +kernel
theorem dX8_digest_43 : decode cX8_digest 43 = .ok (.istore_n 3, 1) := by decide +kernel
theorem dX8_digest_44 : decode cX8_digest 44 = .ok (.iload_n 3, 1) := by decide +kernel
theorem dX8_digest_45 : decode cX8_digest 45 = .ok (.bipush 24, 2) := by decide +kernel
theorem dX8_digest_47 : decode cX8_digest 47 = .ok (.if_icmp .ge 39, 3) := by decide +kernel
theorem dX8_digest_50 : decode cX8_digest 50 = .ok (.iconst 0, 1) := by decide +kernel
theorem dX8_digest_51 : decode cX8_digest 51 = .ok (.istore 4, 2) := by decide +kernel
theorem dX8_digest_53 : decode cX8_digest 53 = .ok (.iload 4, 2) := by decide +kernel
theorem dX8_digest_55 : decode cX8_digest 55 = .ok (.iconst 5, 1) := by decide +kernel
theorem dX8_digest_56 : decode cX8_digest 56 = .ok (.if_icmp .ge 24, 3) := by decide +kernel
theorem dX8_digest_59 : decode cX8_digest 59 = .ok (.ldc2_w 247, 3) := by decide +kernel
theorem dX8_digest_62 : decode cX8_digest 62 = .ok (.lload_n 1, 1) := by decide +kernel
theorem dX8_digest_63 : decode cX8_digest 63 = .ok (.lmul, 1) := by decide +kernel
theorem dX8_digest_64 : decode cX8_digest 64 = .ok (.aload_n 0, 1) := by decide +kernel
theorem dX8_digest_65 : decode cX8_digest 65 = .ok (.iload_n 3, 1) := by decide +kernel
theorem dX8_digest_66 : decode cX8_digest 66 = .ok (.iload 4, 2) := by decide +kernel
theorem dX8_digest_68 : decode cX8_digest 68 = .ok (.invokevirtual 210, 3) := by decide +kernel
theorem dX8_digest_71 : decode cX8_digest 71 = .ok (.i2l, 1) := by decide +kernel
theorem dX8_digest_72 : decode cX8_digest 72 = .ok (.ladd, 1) := by decide +kernel
theorem dX8_digest_73 : decode cX8_digest 73 = .ok (.lstore_n 1, 1) := by decide +kernel
theorem dX8_digest_74 : decode cX8_digest 74 = .ok (.iinc 4 1, 3) := by decide +kernel
theorem dX8_digest_77 : decode cX8_digest 77 = .ok (.goto (-24), 3) := by decide +kernel
theorem dX8_digest_80 : decode cX8_digest 80 = .ok (.iinc 3 1, 3) := by decide +kernel
theorem dX8_digest_83 : decode cX8_digest 83 = .ok (.goto (-39), 3) := by decide +kernel
theorem dX8_digest_86 : decode cX8_digest 86 = .ok (.ldc2_w 247, 3) := by decide +kernel
theorem dX8_digest_89 : decode cX8_digest 89 = .ok (.lload_n 1, 1) := by decide +kernel
theorem dX8_digest_90 : decode cX8_digest 90 = .ok (.lmul, 1) := by decide +kernel
theorem dX8_digest_91 : decode cX8_digest 91 = .ok (.aload_n 0, 1) := by decide +kernel
theorem dX8_digest_92 : decode cX8_digest 92 = .ok (.iconst 1, 1) := by decide +kernel
theorem dX8_digest_93 : decode cX8_digest 93 = .ok (.invokevirtual 103, 3) := by decide +kernel
theorem dX8_digest_96 : decode cX8_digest 96 = .ok (.i2l, 1) := by decide +kernel
theorem dX8_digest_97 : decode cX8_digest 97 = .ok (.ladd, 1) := by decide +kernel
theorem dX8_digest_98 : decode cX8_digest 98 = .ok (.lstore_n 1, 1) := by decide +kernel
theorem dX8_digest_99 : decode cX8_digest 99 = .ok (.ldc2_w 247, 3) := by decide +kernel
theorem dX8_digest_102 : decode cX8_digest 102 = .ok (.lload_n 1, 1) := by decide +kernel
theorem dX8_digest_103 : decode cX8_digest 103 = .ok (.lmul, 1) := by decide +kernel
theorem dX8_digest_104 : decode cX8_digest 104 = .ok (.aload_n 0, 1) := by decide +kernel
theorem dX8_digest_105 : decode cX8_digest 105 = .ok (.iconst 5, 1) := by decide +kernel
theorem dX8_digest_106 : decode cX8_digest 106 = .ok (.invokevirtual 103, 3) := by decide +kernel
theorem dX8_digest_109 : decode cX8_digest 109 = .ok (.i2l, 1) := by decide +kernel
theorem dX8_digest_110 : decode cX8_digest 110 = .ok (.ladd, 1) := by decide +kernel
theorem dX8_digest_111 : decode cX8_digest 111 = .ok (.lstore_n 1, 1) := by decide +kernel
theorem dX8_digest_112 : decode cX8_digest 112 = .ok (.ldc2_w 247, 3) := by decide +kernel
theorem dX8_digest_115 : decode cX8_digest 115 = .ok (.lload_n 1, 1) := by decide +kernel
theorem dX8_digest_116 : decode cX8_digest 116 = .ok (.lmul, 1) := by decide +kernel
theorem dX8_digest_117 : decode cX8_digest 117 = .ok (.aload_n 0, 1) := by decide +kernel
theorem dX8_digest_118 : decode cX8_digest 118 = .ok (.bipush 15, 2) := by decide +kernel
theorem dX8_digest_120 : decode cX8_digest 120 = .ok (.invokevirtual 103, 3) := by decide +kernel
theorem dX8_digest_123 : decode cX8_digest 123 = .ok (.i2l, 1) := by decide +kernel
theorem dX8_digest_124 : decode cX8_digest 124 = .ok (.ladd, 1) := by decide +kernel
theorem dX8_digest_125 : decode cX8_digest 125 = .ok (.lstore_n 1, 1) := by decide +kernel
theorem dX8_digest_126 : decode cX8_digest 126 = .ok (.ldc2_w 247, 3) := by decide +kernel
theorem dX8_digest_129 : decode cX8_digest 129 = .ok (.lload_n 1, 1) := by decide +kernel
theorem dX8_digest_130 : decode cX8_digest 130 = .ok (.lmul, 1) := by decide +kernel
theorem dX8_digest_131 : decode cX8_digest 131 = .ok (.aload_n 0, 1) := by decide +kernel
theorem dX8_digest_132 : decode cX8_digest 132 = .ok (.invokevirtual 231, 3) := by decide +kernel
theorem dX8_digest_135 : decode cX8_digest 135 = .ok (.i2l, 1) := by decide +kernel
theorem dX8_digest_136 : decode cX8_digest 136 = .ok (.ladd, 1) := by decide +kernel
theorem dX8_digest_137 : decode cX8_digest 137 = .ok (.lstore_n 1, 1) := by decide +kernel
theorem dX8_digest_138 : decode cX8_digest 138 = .ok (.ldc2_w 247, 3) := by decide +kernel
theorem dX8_digest_141 : decode cX8_digest 141 = .ok (.lload_n 1, 1) := by decide +kernel
theorem dX8_digest_142 : decode cX8_digest 142 = .ok (.lmul, 1) := by decide +kernel
theorem dX8_digest_143 : decode cX8_digest 143 = .ok (.aload_n 0, 1) := by decide +kernel
theorem dX8_digest_144 : decode cX8_digest 144 = .ok (.invokevirtual 234, 3) := by decide +kernel
theorem dX8_digest_147 : decode cX8_digest 147 = .ok (.i2l, 1) := by decide +kernel
theorem dX8_digest_148 : decode cX8_digest 148 = .ok (.ladd, 1) := by decide +kernel
theorem dX8_digest_149 : decode cX8_digest 149 = .ok (.lstore_n 1, 1) := by decide +kernel
theorem dX8_digest_150 : decode cX8_digest 150 = .ok (.ldc2_w 247, 3) := by decide +kernel
theorem dX8_digest_153 : decode cX8_digest 153 = .ok (.lload_n 1, 1) := by decide +kernel
theorem dX8_digest_154 : decode cX8_digest 154 = .ok (.lmul, 1) := by decide +kernel
theorem dX8_digest_155 : decode cX8_digest 155 = .ok (.aload_n 0, 1) := by decide +kernel
theorem dX8_digest_156 : decode cX8_digest 156 = .ok (.invokevirtual 234, 3) := by decide +kernel
theorem dX8_digest_159 : decode cX8_digest 159 = .ok (.i2l, 1) := by decide +kernel
theorem dX8_digest_160 : decode cX8_digest 160 = .ok (.ladd, 1) := by decide +kernel
theorem dX8_digest_161 : decode cX8_digest 161 = .ok (.lstore_n 1, 1) := by decide +kernel
theorem dX8_digest_162 : decode cX8_digest 162 = .ok (.ldc2_w 247, 3) := by decide +kernel
theorem dX8_digest_165 : decode cX8_digest 165 = .ok (.lload_n 1, 1) := by decide +kernel
theorem dX8_digest_166 : decode cX8_digest 166 = .ok (.lmul, 1) := by decide +kernel
theorem dX8_digest_167 : decode cX8_digest 167 = .ok (.aload_n 0, 1) := by decide +kernel
theorem dX8_digest_168 : decode cX8_digest 168 = .ok (.invokevirtual 237, 3) := by decide +kernel
theorem dX8_digest_171 : decode cX8_digest 171 = .ok (.i2l, 1) := by decide +kernel
theorem dX8_digest_172 : decode cX8_digest 172 = .ok (.ladd, 1) := by decide +kernel
theorem dX8_digest_173 : decode cX8_digest 173 = .ok (.lstore_n 1, 1) := by decide +kernel
theorem dX8_digest_174 : decode cX8_digest 174 = .ok (.ldc2_w 247, 3) := by decide +kernel
theorem dX8_digest_177 : decode cX8_digest 177 = .ok (.lload_n 1, 1) := by decide +kernel
theorem dX8_digest_178 : decode cX8_digest 178 = .ok (.lmul, 1) := by decide +kernel
theorem dX8_digest_179 : decode cX8_digest 179 = .ok (.aload_n 0, 1) := by decide +kernel
theorem dX8_digest_180 : decode cX8_digest 180 = .ok (.invokevirtual 240, 3) := by decide +kernel
theorem dX8_digest_183 : decode cX8_digest 183 = .ok (.i2l, 1) := by decide +kernel
theorem dX8_digest_184 : decode cX8_digest 184 = .ok (.ladd, 1) := by decide +kernel
theorem dX8_digest_185 : decode cX8_digest 185 = .ok (.lstore_n 1, 1) := by decide +kernel
theorem dX8_digest_186 : decode cX8_digest 186 = .ok (.ldc2_w 247, 3) := by decide +kernel
theorem dX8_digest_189 : decode cX8_digest 189 = .ok (.lload_n 1, 1) := by decide +kernel
theorem dX8_digest_190 : decode cX8_digest 190 = .ok (.lmul, 1) := by decide +kernel
theorem dX8_digest_191 : decode cX8_digest 191 = .ok (.aload_n 0, 1) := by decide +kernel
theorem dX8_digest_192 : decode cX8_digest 192 = .ok (.invokevirtual 243, 3) := by decide +kernel
theorem dX8_digest_195 : decode cX8_digest 195 = .ok (.invokestatic 255, 3) := by decide +kernel
theorem dX8_digest_198 : decode cX8_digest 198 = .ok (.ladd, 1) := by decide +kernel
theorem dX8_digest_199 : decode cX8_digest 199 = .ok (.lstore_n 1, 1) := by decide +kernel
theorem dX8_digest_200 : decode cX8_digest 200 = .ok (.iconst 0, 1) := by decide +kernel
theorem dX8_digest_201 : decode cX8_digest 201 = .ok (.istore_n 3, 1) := by decide +kernel
theorem dX8_digest_202 : decode cX8_digest 202 = .ok (.iload_n 3, 1) := by decide +kernel
theorem dX8_digest_203 : decode cX8_digest 203 = .ok (.iconst 2, 1) := by decide +kernel
theorem dX8_digest_204 : decode cX8_digest 204 = .ok (.if_icmp .ge 31, 3) := by decide +kernel
theorem dX8_digest_207 : decode cX8_digest 207 = .ok (.ldc2_w 247, 3) := by decide +kernel
theorem dX8_digest_210 : decode cX8_digest 210 = .ok (.lload_n 1, 1) := by decide +kernel
theorem dX8_digest_211 : decode cX8_digest 211 = .ok (.lmul, 1) := by decide +kernel
theorem dX8_digest_212 : decode cX8_digest 212 = .ok (.aload_n 0, 1) := by decide +kernel
theorem dX8_digest_213 : decode cX8_digest 213 = .ok (.getfield 22, 3) := by decide +kernel
theorem dX8_digest_216 : decode cX8_digest 216 = .ok (.iload_n 3, 1) := by decide +kernel
theorem dX8_digest_217 : decode cX8_digest 217 = .ok (.baload, 1) := by decide +kernel
theorem dX8_digest_218 : decode cX8_digest 218 = .ok (.ifCond .eq 7, 3) := by decide +kernel
theorem dX8_digest_221 : decode cX8_digest 221 = .ok (.iconst 1, 1) := by decide +kernel
theorem dX8_digest_222 : decode cX8_digest 222 = .ok (.goto 4, 3) := by decide +kernel
theorem dX8_digest_225 : decode cX8_digest 225 = .ok (.iconst 0, 1) := by decide +kernel
theorem dX8_digest_226 : decode cX8_digest 226 = .ok (.i2l, 1) := by decide +kernel
theorem dX8_digest_227 : decode cX8_digest 227 = .ok (.ladd, 1) := by decide +kernel
theorem dX8_digest_228 : decode cX8_digest 228 = .ok (.lstore_n 1, 1) := by decide +kernel
theorem dX8_digest_229 : decode cX8_digest 229 = .ok (.iinc 3 1, 3) := by decide +kernel
theorem dX8_digest_232 : decode cX8_digest 232 = .ok (.goto (-30), 3) := by decide +kernel
theorem dX8_digest_235 : decode cX8_digest 235 = .ok (.ldc2_w 247, 3) := by decide +kernel
theorem dX8_digest_238 : decode cX8_digest 238 = .ok (.lload_n 1, 1) := by decide +kernel
theorem dX8_digest_239 : decode cX8_digest 239 = .ok (.lmul, 1) := by decide +kernel
theorem dX8_digest_240 : decode cX8_digest 240 = .ok (.aload_n 0, 1) := by decide +kernel
theorem dX8_digest_241 : decode cX8_digest 241 = .ok (.getfield 164, 3) := by decide +kernel
theorem dX8_digest_244 : decode cX8_digest 244 = .ok (.i2l, 1) := by decide +kernel
theorem dX8_digest_245 : decode cX8_digest 245 = .ok (.ladd, 1) := by decide +kernel
theorem dX8_digest_246 : decode cX8_digest 246 = .ok (.lstore_n 1, 1) := by decide +kernel
theorem dX8_digest_247 : decode cX8_digest 247 = .ok (.iconst 0, 1) := by decide +kernel
theorem dX8_digest_248 : decode cX8_digest 248 = .ok (.istore_n 3, 1) := by decide +kernel
theorem dX8_digest_249 : decode cX8_digest 249 = .ok (.iload_n 3, 1) := by decide +kernel
theorem dX8_digest_250 : decode cX8_digest 250 = .ok (.aload_n 0, 1) := by decide +kernel
theorem dX8_digest_251 : decode cX8_digest 251 = .ok (.getfield 164, 3) := by decide +kernel
theorem dX8_digest_254 : decode cX8_digest 254 = .ok (.if_icmp .ge 23, 3) := by decide +kernel
theorem dX8_digest_257 : decode cX8_digest 257 = .ok (.ldc2_w 247, 3) := by decide +kernel
theorem dX8_digest_260 : decode cX8_digest 260 = .ok (.lload_n 1, 1) := by decide +kernel
theorem dX8_digest_261 : decode cX8_digest 261 = .ok (.lmul, 1) := by decide +kernel
theorem dX8_digest_262 : decode cX8_digest 262 = .ok (.aload_n 0, 1) := by decide +kernel
theorem dX8_digest_263 : decode cX8_digest 263 = .ok (.getfield 26, 3) := by decide +kernel
theorem dX8_digest_266 : decode cX8_digest 266 = .ok (.iload_n 3, 1) := by decide +kernel
theorem dX8_digest_267 : decode cX8_digest 267 = .ok (.iaload, 1) := by decide +kernel
theorem dX8_digest_268 : decode cX8_digest 268 = .ok (.i2l, 1) := by decide +kernel
theorem dX8_digest_269 : decode cX8_digest 269 = .ok (.ladd, 1) := by decide +kernel
theorem dX8_digest_270 : decode cX8_digest 270 = .ok (.lstore_n 1, 1) := by decide +kernel
theorem dX8_digest_271 : decode cX8_digest 271 = .ok (.iinc 3 1, 3) := by decide +kernel
theorem dX8_digest_274 : decode cX8_digest 274 = .ok (.goto (-25), 3) := by decide +kernel
theorem dX8_digest_277 : decode cX8_digest 277 = .ok (.lload_n 1, 1) := by decide +kernel
theorem dX8_digest_278 : decode cX8_digest 278 = .ok (.lreturn, 1) := by decide +kernel
theorem dJxe99ae_isNaN_b9ae7_0 : decode cJxe99ae_isNaN_b9ae7 0 = .ok (.dload_n 0, 1) := by decide +kernel
theorem dJxe99ae_isNaN_b9ae7_1 : decode cJxe99ae_isNaN_b9ae7 1 = .ok (.dload_n 0, 1) := by decide +kernel
theorem dJxe99ae_isNaN_b9ae7_2 : decode cJxe99ae_isNaN_b9ae7 2 = .ok (.dcmp .l, 1) := by decide +kernel
theorem dJxe99ae_isNaN_b9ae7_3 : decode cJxe99ae_isNaN_b9ae7 3 = .ok (.ifCond .eq 7, 3) := by decide +kernel
theorem dJxe99ae_isNaN_b9ae7_6 : decode cJxe99ae_isNaN_b9ae7 6 = .ok (.iconst 1, 1) := by decide +kernel
theorem dJxe99ae_isNaN_b9ae7_7 : decode cJxe99ae_isNaN_b9ae7 7 = .ok (.goto 4, 3) := by decide +kernel
theorem dJxe99ae_isNaN_b9ae7_10 : decode cJxe99ae_isNaN_b9ae7 10 = .ok (.iconst 0, 1) := by decide +kernel
theorem dJxe99ae_isNaN_b9ae7_11 : decode cJxe99ae_isNaN_b9ae7 11 = .ok (.ireturn, 1) := by decide +kernel
theorem dJxe99ae_doubleToLongBits_ccdee_0 : decode cJxe99ae_doubleToLongBits_ccdee 0 = .ok (.dload_n 0, 1) := by decide +kernel
theorem dJxe99ae_doubleToLongBits_ccdee_1 : decode cJxe99ae_doubleToLongBits_ccdee 1 = .ok (.invokestatic 122, 3) := by decide +kernel
theorem dJxe99ae_doubleToLongBits_ccdee_4 : decode cJxe99ae_doubleToLongBits_ccdee 4 = .ok (.ifCond .ne 8, 3) := by decide +kernel
theorem dJxe99ae_doubleToLongBits_ccdee_7 : decode cJxe99ae_doubleToLongBits_ccdee 7 = .ok (.dload_n 0, 1) := by decide +kernel
theorem dJxe99ae_doubleToLongBits_ccdee_8 : decode cJxe99ae_doubleToLongBits_ccdee 8 = .ok (.invokestatic 134, 3) := by decide +kernel
theorem dJxe99ae_doubleToLongBits_ccdee_11 : decode cJxe99ae_doubleToLongBits_ccdee 11 = .ok (.lreturn, 1) := by decide +kernel
theorem dJxe99ae_doubleToLongBits_ccdee_12 : decode cJxe99ae_doubleToLongBits_ccdee 12 = .ok (.ldc2_w 137, 3) := by decide +kernel
theorem dJxe99ae_doubleToLongBits_ccdee_15 : decode cJxe99ae_doubleToLongBits_ccdee 15 = .ok (.lreturn, 1) := by decide +kernel
theorem dJ6_bitCount_0f7a4_0 : decode cJ6_bitCount_0f7a4 0 = .ok (.iload_n 0, 1) := by decide +kernel
theorem dJ6_bitCount_0f7a4_1 : decode cJ6_bitCount_0f7a4 1 = .ok (.iload_n 0, 1) := by decide +kernel
theorem dJ6_bitCount_0f7a4_2 : decode cJ6_bitCount_0f7a4 2 = .ok (.iconst 1, 1) := by decide +kernel
theorem dJ6_bitCount_0f7a4_3 : decode cJ6_bitCount_0f7a4 3 = .ok (.iushr, 1) := by decide +kernel
theorem dJ6_bitCount_0f7a4_4 : decode cJ6_bitCount_0f7a4 4 = .ok (.ldc_w 265, 3) := by decide +kernel
theorem dJ6_bitCount_0f7a4_7 : decode cJ6_bitCount_0f7a4 7 = .ok (.iand, 1) := by decide +kernel
theorem dJ6_bitCount_0f7a4_8 : decode cJ6_bitCount_0f7a4 8 = .ok (.isub, 1) := by decide +kernel
theorem dJ6_bitCount_0f7a4_9 : decode cJ6_bitCount_0f7a4 9 = .ok (.istore_n 0, 1) := by decide +kernel
theorem dJ6_bitCount_0f7a4_10 : decode cJ6_bitCount_0f7a4 10 = .ok (.iload_n 0, 1) := by decide +kernel
theorem dJ6_bitCount_0f7a4_11 : decode cJ6_bitCount_0f7a4 11 = .ok (.ldc_w 266, 3) := by decide +kernel
theorem dJ6_bitCount_0f7a4_14 : decode cJ6_bitCount_0f7a4 14 = .ok (.iand, 1) := by decide +kernel
theorem dJ6_bitCount_0f7a4_15 : decode cJ6_bitCount_0f7a4 15 = .ok (.iload_n 0, 1) := by decide +kernel
theorem dJ6_bitCount_0f7a4_16 : decode cJ6_bitCount_0f7a4 16 = .ok (.iconst 2, 1) := by decide +kernel
theorem dJ6_bitCount_0f7a4_17 : decode cJ6_bitCount_0f7a4 17 = .ok (.iushr, 1) := by decide +kernel
theorem dJ6_bitCount_0f7a4_18 : decode cJ6_bitCount_0f7a4 18 = .ok (.ldc_w 266, 3) := by decide +kernel
theorem dJ6_bitCount_0f7a4_21 : decode cJ6_bitCount_0f7a4 21 = .ok (.iand, 1) := by decide +kernel
theorem dJ6_bitCount_0f7a4_22 : decode cJ6_bitCount_0f7a4 22 = .ok (.iadd, 1) := by decide +kernel
theorem dJ6_bitCount_0f7a4_23 : decode cJ6_bitCount_0f7a4 23 = .ok (.istore_n 0, 1) := by decide +kernel
theorem dJ6_bitCount_0f7a4_24 : decode cJ6_bitCount_0f7a4 24 = .ok (.iload_n 0, 1) := by decide +kernel
theorem dJ6_bitCount_0f7a4_25 : decode cJ6_bitCount_0f7a4 25 = .ok (.iload_n 0, 1) := by decide +kernel
theorem dJ6_bitCount_0f7a4_26 : decode cJ6_bitCount_0f7a4 26 = .ok (.iconst 4, 1) := by decide +kernel
theorem dJ6_bitCount_0f7a4_27 : decode cJ6_bitCount_0f7a4 27 = .ok (.iushr, 1) := by decide +kernel
theorem dJ6_bitCount_0f7a4_28 : decode cJ6_bitCount_0f7a4 28 = .ok (.iadd, 1) := by decide +kernel
theorem dJ6_bitCount_0f7a4_29 : decode cJ6_bitCount_0f7a4 29 = .ok (.ldc_w 267, 3) := by decide +kernel
theorem dJ6_bitCount_0f7a4_32 : decode cJ6_bitCount_0f7a4 32 = .ok (.iand, 1) := by decide +kernel
theorem dJ6_bitCount_0f7a4_33 : decode cJ6_bitCount_0f7a4 33 = .ok (.istore_n 0, 1) := by decide +kernel
theorem dJ6_bitCount_0f7a4_34 : decode cJ6_bitCount_0f7a4 34 = .ok (.iload_n 0, 1) := by decide +kernel
theorem dJ6_bitCount_0f7a4_35 : decode cJ6_bitCount_0f7a4 35 = .ok (.iload_n 0, 1) := by decide +kernel
theorem dJ6_bitCount_0f7a4_36 : decode cJ6_bitCount_0f7a4 36 = .ok (.bipush 8, 2) := by decide +kernel
theorem dJ6_bitCount_0f7a4_38 : decode cJ6_bitCount_0f7a4 38 = .ok (.iushr, 1) := by decide +kernel
theorem dJ6_bitCount_0f7a4_39 : decode cJ6_bitCount_0f7a4 39 = .ok (.iadd, 1) := by decide +kernel
theorem dJ6_bitCount_0f7a4_40 : decode cJ6_bitCount_0f7a4 40 = .ok (.istore_n 0, 1) := by decide +kernel
theorem dJ6_bitCount_0f7a4_41 : decode cJ6_bitCount_0f7a4 41 = .ok (.iload_n 0, 1) := by decide +kernel
theorem dJ6_bitCount_0f7a4_42 : decode cJ6_bitCount_0f7a4 42 = .ok (.iload_n 0, 1) := by decide +kernel
theorem dJ6_bitCount_0f7a4_43 : decode cJ6_bitCount_0f7a4 43 = .ok (.bipush 16, 2) := by decide +kernel
theorem dJ6_bitCount_0f7a4_45 : decode cJ6_bitCount_0f7a4 45 = .ok (.iushr, 1) := by decide +kernel
theorem dJ6_bitCount_0f7a4_46 : decode cJ6_bitCount_0f7a4 46 = .ok (.iadd, 1) := by decide +kernel
theorem dJ6_bitCount_0f7a4_47 : decode cJ6_bitCount_0f7a4 47 = .ok (.istore_n 0, 1) := by decide +kernel
theorem dJ6_bitCount_0f7a4_48 : decode cJ6_bitCount_0f7a4 48 = .ok (.iload_n 0, 1) := by decide +kernel
theorem dJ6_bitCount_0f7a4_49 : decode cJ6_bitCount_0f7a4 49 = .ok (.bipush 63, 2) := by decide +kernel
theorem dJ6_bitCount_0f7a4_51 : decode cJ6_bitCount_0f7a4 51 = .ok (.iand, 1) := by decide +kernel
theorem dJ6_bitCount_0f7a4_52 : decode cJ6_bitCount_0f7a4 52 = .ok (.ireturn, 1) := by decide +kernel
theorem dJ9_max_7cf53_0 : decode cJ9_max_7cf53 0 = .ok (.iload_n 0, 1) := by decide +kernel
theorem dJ9_max_7cf53_1 : decode cJ9_max_7cf53 1 = .ok (.iload_n 1, 1) := by decide +kernel
theorem dJ9_max_7cf53_2 : decode cJ9_max_7cf53 2 = .ok (.if_icmp .lt 7, 3) := by decide +kernel
theorem dJ9_max_7cf53_5 : decode cJ9_max_7cf53 5 = .ok (.iload_n 0, 1) := by decide +kernel
theorem dJ9_max_7cf53_6 : decode cJ9_max_7cf53 6 = .ok (.goto 4, 3) := by decide +kernel
theorem dJ9_max_7cf53_9 : decode cJ9_max_7cf53 9 = .ok (.iload_n 1, 1) := by decide +kernel
theorem dJ9_max_7cf53_10 : decode cJ9_max_7cf53 10 = .ok (.ireturn, 1) := by decide +kernel
theorem dL_create_0 : decode cL_create 0 = .ok (.aload_n 2, 1) := by decide +kernel
theorem dL_create_1 : decode cL_create 1 = .ok (.iconst 0, 1) := by decide +kernel
theorem dL_create_2 : decode cL_create 2 = .ok (.aload_n 0, 1) := by decide +kernel
theorem dL_create_3 : decode cL_create 3 = .ok (.iload_n 1, 1) := by decide +kernel
theorem dL_create_4 : decode cL_create 4 = .ok (.invokevirtual 7, 3) := by decide +kernel
theorem dL_create_7 : decode cL_create 7 = .ok (.i2l, 1) := by decide +kernel
theorem dL_create_8 : decode cL_create 8 = .ok (.lastore, 1) := by decide +kernel
theorem dL_create_9 : decode cL_create 9 = .ok (.goto 6, 3) := by decide +kernel
theorem dL_create_12 : decode cL_create 12 = .ok (.astore_n 3, 1) := by decide +kernel
theorem dL_create_13 : decode cL_create 13 = .ok (.iconst 1, 1) := by decide +kernel
theorem dL_create_14 : decode cL_create 14 = .ok (.ireturn, 1) := by decide +kernel
theorem dL_create_15 : decode cL_create 15 = .ok (.iconst 0, 1) := by decide +kernel
theorem dL_create_16 : decode cL_create 16 = .ok (.ireturn, 1) := by decide +kernel
theorem dL_grow_0 : decode cL_grow 0 = .ok (.aload_n 3, 1) := by decide +kernel
theorem dL_grow_1 : decode cL_grow 1 = .ok (.iconst 0, 1) := by decide +kernel
theorem dL_grow_2 : decode cL_grow 2 = .ok (.aload_n 0, 1) := by decide +kernel
theorem dL_grow_3 : decode cL_grow 3 = .ok (.iload_n 1, 1) := by decide +kernel
theorem dL_grow_4 : decode cL_grow 4 = .ok (.iload_n 2, 1) := by decide +kernel
theorem dL_grow_5 : decode cL_grow 5 = .ok (.invokevirtual 15, 3) := by decide +kernel
theorem dL_grow_8 : decode cL_grow 8 = .ok (.i2l, 1) := by decide +kernel
theorem dL_grow_9 : decode cL_grow 9 = .ok (.lastore, 1) := by decide +kernel
theorem dL_grow_10 : decode cL_grow 10 = .ok (.goto 11, 3) := by decide +kernel
theorem dL_grow_13 : decode cL_grow 13 = .ok (.astore 4, 2) := by decide +kernel
theorem dL_grow_15 : decode cL_grow 15 = .ok (.iconst 1, 1) := by decide +kernel
theorem dL_grow_16 : decode cL_grow 16 = .ok (.ireturn, 1) := by decide +kernel
theorem dL_grow_17 : decode cL_grow 17 = .ok (.astore 4, 2) := by decide +kernel
theorem dL_grow_19 : decode cL_grow 19 = .ok (.iconst 2, 1) := by decide +kernel
theorem dL_grow_20 : decode cL_grow 20 = .ok (.ireturn, 1) := by decide +kernel
theorem dL_grow_21 : decode cL_grow 21 = .ok (.iconst 0, 1) := by decide +kernel
theorem dL_grow_22 : decode cL_grow 22 = .ok (.ireturn, 1) := by decide +kernel
theorem dL_cut_0 : decode cL_cut 0 = .ok (.aload_n 3, 1) := by decide +kernel
theorem dL_cut_1 : decode cL_cut 1 = .ok (.iconst 0, 1) := by decide +kernel
theorem dL_cut_2 : decode cL_cut 2 = .ok (.aload_n 0, 1) := by decide +kernel
theorem dL_cut_3 : decode cL_cut 3 = .ok (.iload_n 1, 1) := by decide +kernel
theorem dL_cut_4 : decode cL_cut 4 = .ok (.iload_n 2, 1) := by decide +kernel
theorem dL_cut_5 : decode cL_cut 5 = .ok (.invokevirtual 21, 3) := by decide +kernel
theorem dL_cut_8 : decode cL_cut 8 = .ok (.i2l, 1) := by decide +kernel
theorem dL_cut_9 : decode cL_cut 9 = .ok (.lastore, 1) := by decide +kernel
theorem dL_cut_10 : decode cL_cut 10 = .ok (.goto 11, 3) := by decide +kernel
theorem dL_cut_13 : decode cL_cut 13 = .ok (.astore 4, 2) := by decide +kernel
theorem dL_cut_15 : decode cL_cut 15 = .ok (.iconst 1, 1) := by decide +kernel
theorem dL_cut_16 : decode cL_cut 16 = .ok (.ireturn, 1) := by decide +kernel
theorem dL_cut_17 : decode cL_cut 17 = .ok (.astore 4, 2) := by decide +kernel
theorem dL_cut_19 : decode cL_cut 19 = .ok (.iconst 2, 1) := by decide +kernel
theorem dL_cut_20 : decode cL_cut 20 = .ok (.ireturn, 1) := by decide +kernel
theorem dL_cut_21 : decode cL_cut 21 = .ok (.iconst 0, 1) := by decide +kernel
theorem dL_cut_22 : decode cL_cut 22 = .ok (.ireturn, 1) := by decide +kernel
theorem dL_delete_0 : decode cL_delete 0 = .ok (.aload_n 2, 1) := by decide +kernel
theorem dL_delete_1 : decode cL_delete 1 = .ok (.iconst 0, 1) := by decide +kernel
theorem dL_delete_2 : decode cL_delete 2 = .ok (.aload_n 0, 1) := by decide +kernel
theorem dL_delete_3 : decode cL_delete 3 = .ok (.iload_n 1, 1) := by decide +kernel
theorem dL_delete_4 : decode cL_delete 4 = .ok (.invokevirtual 24, 3) := by decide +kernel
theorem dL_delete_7 : decode cL_delete 7 = .ok (.i2l, 1) := by decide +kernel
theorem dL_delete_8 : decode cL_delete 8 = .ok (.lastore, 1) := by decide +kernel
theorem dL_delete_9 : decode cL_delete 9 = .ok (.goto 6, 3) := by decide +kernel
theorem dL_delete_12 : decode cL_delete 12 = .ok (.astore_n 3, 1) := by decide +kernel
theorem dL_delete_13 : decode cL_delete 13 = .ok (.iconst 1, 1) := by decide +kernel
theorem dL_delete_14 : decode cL_delete 14 = .ok (.ireturn, 1) := by decide +kernel
theorem dL_delete_15 : decode cL_delete 15 = .ok (.iconst 0, 1) := by decide +kernel
theorem dL_delete_16 : decode cL_delete 16 = .ok (.ireturn, 1) := by decide +kernel
theorem dL_spoil_0 : decode cL_spoil 0 = .ok (.aload_n 2, 1) := by decide +kernel
theorem dL_spoil_1 : decode cL_spoil 1 = .ok (.iconst 0, 1) := by decide +kernel
theorem dL_spoil_2 : decode cL_spoil 2 = .ok (.aload_n 0, 1) := by decide +kernel
theorem dL_spoil_3 : decode cL_spoil 3 = .ok (.iload_n 1, 1) := by decide +kernel
theorem dL_spoil_4 : decode cL_spoil 4 = .ok (.invokevirtual 27, 3) := by decide +kernel
theorem dL_spoil_7 : decode cL_spoil 7 = .ok (.i2l, 1) := by decide +kernel
theorem dL_spoil_8 : decode cL_spoil 8 = .ok (.lastore, 1) := by decide +kernel
theorem dL_spoil_9 : decode cL_spoil 9 = .ok (.goto 9, 3) := by decide +kernel
theorem dL_spoil_12 : decode cL_spoil 12 = .ok (.astore_n 3, 1) := by decide +kernel
theorem dL_spoil_13 : decode cL_spoil 13 = .ok (.iconst 1, 1) := by decide +kernel
theorem dL_spoil_14 : decode cL_spoil 14 = .ok (.ireturn, 1) := by decide +kernel
theorem dL_spoil_15 : decode cL_spoil 15 = .ok (.astore_n 3, 1) := by decide +kernel
theorem dL_spoil_16 : decode cL_spoil 16 = .ok (.iconst 2, 1) := by decide +kernel
theorem dL_spoil_17 : decode cL_spoil 17 = .ok (.ireturn, 1) := by decide +kernel
theorem dL_spoil_18 : decode cL_spoil 18 = .ok (.iconst 0, 1) := by decide +kernel
theorem dL_spoil_19 : decode cL_spoil 19 = .ok (.ireturn, 1) := by decide +kernel
theorem dL_heal_0 : decode cL_heal 0 = .ok (.aload_n 2, 1) := by decide +kernel
theorem dL_heal_1 : decode cL_heal 1 = .ok (.iconst 0, 1) := by decide +kernel
theorem dL_heal_2 : decode cL_heal 2 = .ok (.aload_n 0, 1) := by decide +kernel
theorem dL_heal_3 : decode cL_heal 3 = .ok (.iload_n 1, 1) := by decide +kernel
theorem dL_heal_4 : decode cL_heal 4 = .ok (.invokevirtual 32, 3) := by decide +kernel
theorem dL_heal_7 : decode cL_heal 7 = .ok (.i2l, 1) := by decide +kernel
theorem dL_heal_8 : decode cL_heal 8 = .ok (.lastore, 1) := by decide +kernel
theorem dL_heal_9 : decode cL_heal 9 = .ok (.goto 9, 3) := by decide +kernel
theorem dL_heal_12 : decode cL_heal 12 = .ok (.astore_n 3, 1) := by decide +kernel
theorem dL_heal_13 : decode cL_heal 13 = .ok (.iconst 1, 1) := by decide +kernel
theorem dL_heal_14 : decode cL_heal 14 = .ok (.ireturn, 1) := by decide +kernel
theorem dL_heal_15 : decode cL_heal 15 = .ok (.astore_n 3, 1) := by decide +kernel
theorem dL_heal_16 : decode cL_heal 16 = .ok (.iconst 2, 1) := by decide +kernel
theorem dL_heal_17 : decode cL_heal 17 = .ok (.ireturn, 1) := by decide +kernel
theorem dL_heal_18 : decode cL_heal 18 = .ok (.iconst 0, 1) := by decide +kernel
theorem dL_heal_19 : decode cL_heal 19 = .ok (.ireturn, 1) := by decide +kernel
theorem dL_set_0 : decode cL_set 0 = .ok (.aload_n 2, 1) := by decide +kernel
theorem dL_set_1 : decode cL_set 1 = .ok (.iconst 0, 1) := by decide +kernel
theorem dL_set_2 : decode cL_set 2 = .ok (.aload_n 0, 1) := by decide +kernel
theorem dL_set_3 : decode cL_set 3 = .ok (.iload_n 1, 1) := by decide +kernel
theorem dL_set_4 : decode cL_set 4 = .ok (.invokevirtual 35, 3) := by decide +kernel
theorem dL_set_7 : decode cL_set 7 = .ok (.i2l, 1) := by decide +kernel
theorem dL_set_8 : decode cL_set 8 = .ok (.lastore, 1) := by decide +kernel
theorem dL_set_9 : decode cL_set 9 = .ok (.goto 6, 3) := by decide +kernel
theorem dL_set_12 : decode cL_set 12 = .ok (.astore_n 3, 1) := by decide +kernel
theorem dL_set_13 : decode cL_set 13 = .ok (.iconst 1, 1) := by decide +kernel
theorem dL_set_14 : decode cL_set 14 = .ok (.ireturn, 1) := by decide +kernel
theorem dL_set_15 : decode cL_set 15 = .ok (.iconst 0, 1) := by decide +kernel
theorem dL_set_16 : decode cL_set 16 = .ok (.ireturn, 1) := by decide +kernel
theorem dL_append_0 : decode cL_append 0 = .ok (.aload_n 2, 1) := by decide +kernel
theorem dL_append_1 : decode cL_append 1 = .ok (.iconst 0, 1) := by decide +kernel
theorem dL_append_2 : decode cL_append 2 = .ok (.aload_n 0, 1) := by decide +kernel
theorem dL_append_3 : decode cL_append 3 = .ok (.iload_n 1, 1) := by decide +kernel
theorem dL_append_4 : decode cL_append 4 = .ok (.invokevirtual 38, 3) := by decide +kernel
theorem dL_append_7 : decode cL_append 7 = .ok (.i2l, 1) := by decide +kernel
theorem dL_append_8 : decode cL_append 8 = .ok (.lastore, 1) := by decide +kernel
theorem dL_append_9 : decode cL_append 9 = .ok (.goto 9, 3) := by decide +kernel
theorem dL_append_12 : decode cL_append 12 = .ok (.astore_n 3, 1) := by decide +kernel
theorem dL_append_13 : decode cL_append 13 = .ok (.iconst 1, 1) := by decide +kernel
theorem dL_append_14 : decode cL_append 14 = .ok (.ireturn, 1) := by decide +kernel
theorem dL_append_15 : decode cL_append 15 = .ok (.astore_n 3, 1) := by decide +kernel
theorem dL_append_16 : decode cL_append 16 = .ok (.iconst 2, 1) := by decide +kernel
theorem dL_append_17 : decode cL_append 17 = .ok (.ireturn, 1) := by decide +kernel
theorem dL_append_18 : decode cL_append 18 = .ok (.iconst 0, 1) := by decide +kernel
theorem dL_append_19 : decode cL_append 19 = .ok (.ireturn, 1) := by decide +kernel
theorem dL_run_0 : decode cL_run 0 = .ok (.aload_n 1, 1) := by decide +kernel
theorem dL_run_1 : decode cL_run 1 = .ok (.iconst 0, 1) := by decide +kernel
theorem dL_run_2 : decode cL_run 2 = .ok (.aload_n 0, 1) := by decide +kernel
theorem dL_run_3 : decode cL_run 3 = .ok (.invokevirtual 41, 3) := by decide +kernel
theorem dL_run_6 : decode cL_run 6 = .ok (.i2l, 1) := by decide +kernel
theorem dL_run_7 : decode cL_run 7 = .ok (.lastore, 1) := by decide +kernel
theorem dL_run_8 : decode cL_run 8 = .ok (.goto 6, 3) := by decide +kernel
theorem dL_run_11 : decode cL_run 11 = .ok (.astore_n 2, 1) := by decide +kernel
theorem dL_run_12 : decode cL_run 12 = .ok (.iconst 1, 1) := by decide +kernel
theorem dL_run_13 : decode cL_run 13 = .ok (.ireturn, 1) := by decide +kernel
theorem dL_run_14 : decode cL_run 14 = .ok (.iconst 0, 1) := by decide +kernel
theorem dL_run_15 : decode cL_run 15 = .ok (.ireturn, 1) := by decide +kernel
theorem dL_keep_0 : decode cL_keep 0 = .ok (.aload_n 2, 1) := by decide +kernel
theorem dL_keep_1 : decode cL_keep 1 = .ok (.iconst 0, 1) := by decide +kernel
theorem dL_keep_2 : decode cL_keep 2 = .ok (.aload_n 0, 1) := by decide +kernel
theorem dL_keep_3 : decode cL_keep 3 = .ok (.iload_n 1, 1) := by decide +kernel
theorem dL_keep_4 : decode cL_keep 4 = .ok (.invokevirtual 45, 3) := by decide +kernel
theorem dL_keep_7 : decode cL_keep 7 = .ok (.i2l, 1) := by decide +kernel
theorem dL_keep_8 : decode cL_keep 8 = .ok (.lastore, 1) := by decide +kernel
theorem dL_keep_9 : decode cL_keep 9 = .ok (.goto 6, 3) := by decide +kernel
theorem dL_keep_12 : decode cL_keep 12 = .ok (.astore_n 3, 1) := by decide +kernel
theorem dL_keep_13 : decode cL_keep 13 = .ok (.iconst 1, 1) := by decide +kernel
theorem dL_keep_14 : decode cL_keep 14 = .ok (.ireturn, 1) := by decide +kernel
theorem dL_keep_15 : decode cL_keep 15 = .ok (.iconst 0, 1) := by decide +kernel
theorem dL_keep_16 : decode cL_keep 16 = .ok (.ireturn, 1) := by decide +kernel
theorem dL_goBack_0 : decode cL_goBack 0 = .ok (.aload_n 2, 1) := by decide +kernel
theorem dL_goBack_1 : decode cL_goBack 1 = .ok (.iconst 0, 1) := by decide +kernel
theorem dL_goBack_2 : decode cL_goBack 2 = .ok (.aload_n 0, 1) := by decide +kernel
theorem dL_goBack_3 : decode cL_goBack 3 = .ok (.iload_n 1, 1) := by decide +kernel
theorem dL_goBack_4 : decode cL_goBack 4 = .ok (.invokevirtual 48, 3) := by decide +kernel
theorem dL_goBack_7 : decode cL_goBack 7 = .ok (.i2l, 1) := by decide +kernel
theorem dL_goBack_8 : decode cL_goBack 8 = .ok (.lastore, 1) := by decide +kernel
theorem dL_goBack_9 : decode cL_goBack 9 = .ok (.goto 9, 3) := by decide +kernel
theorem dL_goBack_12 : decode cL_goBack 12 = .ok (.astore_n 3, 1) := by decide +kernel
theorem dL_goBack_13 : decode cL_goBack 13 = .ok (.iconst 1, 1) := by decide +kernel
theorem dL_goBack_14 : decode cL_goBack 14 = .ok (.ireturn, 1) := by decide +kernel
theorem dL_goBack_15 : decode cL_goBack 15 = .ok (.astore_n 3, 1) := by decide +kernel
theorem dL_goBack_16 : decode cL_goBack 16 = .ok (.iconst 2, 1) := by decide +kernel
theorem dL_goBack_17 : decode cL_goBack 17 = .ok (.ireturn, 1) := by decide +kernel
theorem dL_goBack_18 : decode cL_goBack 18 = .ok (.iconst 0, 1) := by decide +kernel
theorem dL_goBack_19 : decode cL_goBack 19 = .ok (.ireturn, 1) := by decide +kernel
theorem dL_undo_0 : decode cL_undo 0 = .ok (.aload_n 1, 1) := by decide +kernel
theorem dL_undo_1 : decode cL_undo 1 = .ok (.iconst 0, 1) := by decide +kernel
theorem dL_undo_2 : decode cL_undo 2 = .ok (.aload_n 0, 1) := by decide +kernel
theorem dL_undo_3 : decode cL_undo 3 = .ok (.invokevirtual 51, 3) := by decide +kernel
theorem dL_undo_6 : decode cL_undo 6 = .ok (.i2l, 1) := by decide +kernel
theorem dL_undo_7 : decode cL_undo 7 = .ok (.lastore, 1) := by decide +kernel
theorem dL_undo_8 : decode cL_undo 8 = .ok (.goto 6, 3) := by decide +kernel
theorem dL_undo_11 : decode cL_undo 11 = .ok (.astore_n 2, 1) := by decide +kernel
theorem dL_undo_12 : decode cL_undo 12 = .ok (.iconst 1, 1) := by decide +kernel
theorem dL_undo_13 : decode cL_undo 13 = .ok (.ireturn, 1) := by decide +kernel
theorem dL_undo_14 : decode cL_undo 14 = .ok (.iconst 0, 1) := by decide +kernel
theorem dL_undo_15 : decode cL_undo 15 = .ok (.ireturn, 1) := by decide +kernel
theorem dL_fileOf_0 : decode cL_fileOf 0 = .ok (.aload_n 3, 1) := by decide +kernel
theorem dL_fileOf_1 : decode cL_fileOf 1 = .ok (.iconst 0, 1) := by decide +kernel
theorem dL_fileOf_2 : decode cL_fileOf 2 = .ok (.aload_n 0, 1) := by decide +kernel
theorem dL_fileOf_3 : decode cL_fileOf 3 = .ok (.iload_n 1, 1) := by decide +kernel
theorem dL_fileOf_4 : decode cL_fileOf 4 = .ok (.iload_n 2, 1) := by decide +kernel
theorem dL_fileOf_5 : decode cL_fileOf 5 = .ok (.invokevirtual 54, 3) := by decide +kernel
theorem dL_fileOf_8 : decode cL_fileOf 8 = .ok (.i2l, 1) := by decide +kernel
theorem dL_fileOf_9 : decode cL_fileOf 9 = .ok (.lastore, 1) := by decide +kernel
theorem dL_fileOf_10 : decode cL_fileOf 10 = .ok (.goto 11, 3) := by decide +kernel
theorem dL_fileOf_13 : decode cL_fileOf 13 = .ok (.astore 4, 2) := by decide +kernel
theorem dL_fileOf_15 : decode cL_fileOf 15 = .ok (.iconst 1, 1) := by decide +kernel
theorem dL_fileOf_16 : decode cL_fileOf 16 = .ok (.ireturn, 1) := by decide +kernel
theorem dL_fileOf_17 : decode cL_fileOf 17 = .ok (.astore 4, 2) := by decide +kernel
theorem dL_fileOf_19 : decode cL_fileOf 19 = .ok (.iconst 2, 1) := by decide +kernel
theorem dL_fileOf_20 : decode cL_fileOf 20 = .ok (.ireturn, 1) := by decide +kernel
theorem dL_fileOf_21 : decode cL_fileOf 21 = .ok (.iconst 0, 1) := by decide +kernel
theorem dL_fileOf_22 : decode cL_fileOf 22 = .ok (.ireturn, 1) := by decide +kernel
theorem dL_place_0 : decode cL_place 0 = .ok (.aload_n 3, 1) := by decide +kernel
theorem dL_place_1 : decode cL_place 1 = .ok (.iconst 0, 1) := by decide +kernel
theorem dL_place_2 : decode cL_place 2 = .ok (.aload_n 0, 1) := by decide +kernel
theorem dL_place_3 : decode cL_place 3 = .ok (.iload_n 1, 1) := by decide +kernel
theorem dL_place_4 : decode cL_place 4 = .ok (.iload_n 2, 1) := by decide +kernel
theorem dL_place_5 : decode cL_place 5 = .ok (.invokevirtual 57, 3) := by decide +kernel
theorem dL_place_8 : decode cL_place 8 = .ok (.i2l, 1) := by decide +kernel
theorem dL_place_9 : decode cL_place 9 = .ok (.lastore, 1) := by decide +kernel
theorem dL_place_10 : decode cL_place 10 = .ok (.goto 7, 3) := by decide +kernel
theorem dL_place_13 : decode cL_place 13 = .ok (.astore 4, 2) := by decide +kernel
theorem dL_place_15 : decode cL_place 15 = .ok (.iconst 1, 1) := by decide +kernel
theorem dL_place_16 : decode cL_place 16 = .ok (.ireturn, 1) := by decide +kernel
theorem dL_place_17 : decode cL_place 17 = .ok (.iconst 0, 1) := by decide +kernel
theorem dL_place_18 : decode cL_place 18 = .ok (.ireturn, 1) := by decide +kernel
theorem dL_blockOf_0 : decode cL_blockOf 0 = .ok (.aload_n 3, 1) := by decide +kernel
theorem dL_blockOf_1 : decode cL_blockOf 1 = .ok (.iconst 0, 1) := by decide +kernel
theorem dL_blockOf_2 : decode cL_blockOf 2 = .ok (.aload_n 0, 1) := by decide +kernel
theorem dL_blockOf_3 : decode cL_blockOf 3 = .ok (.iload_n 1, 1) := by decide +kernel
theorem dL_blockOf_4 : decode cL_blockOf 4 = .ok (.iload_n 2, 1) := by decide +kernel
theorem dL_blockOf_5 : decode cL_blockOf 5 = .ok (.invokevirtual 60, 3) := by decide +kernel
theorem dL_blockOf_8 : decode cL_blockOf 8 = .ok (.i2l, 1) := by decide +kernel
theorem dL_blockOf_9 : decode cL_blockOf 9 = .ok (.lastore, 1) := by decide +kernel
theorem dL_blockOf_10 : decode cL_blockOf 10 = .ok (.goto 11, 3) := by decide +kernel
theorem dL_blockOf_13 : decode cL_blockOf 13 = .ok (.astore 4, 2) := by decide +kernel
theorem dL_blockOf_15 : decode cL_blockOf 15 = .ok (.iconst 1, 1) := by decide +kernel
theorem dL_blockOf_16 : decode cL_blockOf 16 = .ok (.ireturn, 1) := by decide +kernel
theorem dL_blockOf_17 : decode cL_blockOf 17 = .ok (.astore 4, 2) := by decide +kernel
theorem dL_blockOf_19 : decode cL_blockOf 19 = .ok (.iconst 2, 1) := by decide +kernel
theorem dL_blockOf_20 : decode cL_blockOf 20 = .ok (.ireturn, 1) := by decide +kernel
theorem dL_blockOf_21 : decode cL_blockOf 21 = .ok (.iconst 0, 1) := by decide +kernel
theorem dL_blockOf_22 : decode cL_blockOf 22 = .ok (.ireturn, 1) := by decide +kernel
theorem dL_count_0 : decode cL_count 0 = .ok (.aload_n 2, 1) := by decide +kernel
theorem dL_count_1 : decode cL_count 1 = .ok (.iconst 0, 1) := by decide +kernel
theorem dL_count_2 : decode cL_count 2 = .ok (.aload_n 0, 1) := by decide +kernel
theorem dL_count_3 : decode cL_count 3 = .ok (.iload_n 1, 1) := by decide +kernel
theorem dL_count_4 : decode cL_count 4 = .ok (.invokevirtual 63, 3) := by decide +kernel
theorem dL_count_7 : decode cL_count 7 = .ok (.i2l, 1) := by decide +kernel
theorem dL_count_8 : decode cL_count 8 = .ok (.lastore, 1) := by decide +kernel
theorem dL_count_9 : decode cL_count 9 = .ok (.goto 6, 3) := by decide +kernel
theorem dL_count_12 : decode cL_count 12 = .ok (.astore_n 3, 1) := by decide +kernel
theorem dL_count_13 : decode cL_count 13 = .ok (.iconst 1, 1) := by decide +kernel
theorem dL_count_14 : decode cL_count 14 = .ok (.ireturn, 1) := by decide +kernel
theorem dL_count_15 : decode cL_count 15 = .ok (.iconst 0, 1) := by decide +kernel
theorem dL_count_16 : decode cL_count 16 = .ok (.ireturn, 1) := by decide +kernel
theorem dL_ifPlaced_0 : decode cL_ifPlaced 0 = .ok (.aload_n 2, 1) := by decide +kernel
theorem dL_ifPlaced_1 : decode cL_ifPlaced 1 = .ok (.iconst 0, 1) := by decide +kernel
theorem dL_ifPlaced_2 : decode cL_ifPlaced 2 = .ok (.aload_n 0, 1) := by decide +kernel
theorem dL_ifPlaced_3 : decode cL_ifPlaced 3 = .ok (.iload_n 1, 1) := by decide +kernel
theorem dL_ifPlaced_4 : decode cL_ifPlaced 4 = .ok (.invokevirtual 66, 3) := by decide +kernel
theorem dL_ifPlaced_7 : decode cL_ifPlaced 7 = .ok (.i2l, 1) := by decide +kernel
theorem dL_ifPlaced_8 : decode cL_ifPlaced 8 = .ok (.lastore, 1) := by decide +kernel
theorem dL_ifPlaced_9 : decode cL_ifPlaced 9 = .ok (.goto 6, 3) := by decide +kernel
theorem dL_ifPlaced_12 : decode cL_ifPlaced 12 = .ok (.astore_n 3, 1) := by decide +kernel
theorem dL_ifPlaced_13 : decode cL_ifPlaced 13 = .ok (.iconst 1, 1) := by decide +kernel
theorem dL_ifPlaced_14 : decode cL_ifPlaced 14 = .ok (.ireturn, 1) := by decide +kernel
theorem dL_ifPlaced_15 : decode cL_ifPlaced 15 = .ok (.iconst 0, 1) := by decide +kernel
theorem dL_ifPlaced_16 : decode cL_ifPlaced 16 = .ok (.ireturn, 1) := by decide +kernel
theorem dL_ifGrown_0 : decode cL_ifGrown 0 = .ok (.aload_n 3, 1) := by decide +kernel
theorem dL_ifGrown_1 : decode cL_ifGrown 1 = .ok (.iconst 0, 1) := by decide +kernel
theorem dL_ifGrown_2 : decode cL_ifGrown 2 = .ok (.aload_n 0, 1) := by decide +kernel
theorem dL_ifGrown_3 : decode cL_ifGrown 3 = .ok (.iload_n 1, 1) := by decide +kernel
theorem dL_ifGrown_4 : decode cL_ifGrown 4 = .ok (.iload_n 2, 1) := by decide +kernel
theorem dL_ifGrown_5 : decode cL_ifGrown 5 = .ok (.invokevirtual 69, 3) := by decide +kernel
theorem dL_ifGrown_8 : decode cL_ifGrown 8 = .ok (.i2l, 1) := by decide +kernel
theorem dL_ifGrown_9 : decode cL_ifGrown 9 = .ok (.lastore, 1) := by decide +kernel
theorem dL_ifGrown_10 : decode cL_ifGrown 10 = .ok (.goto 11, 3) := by decide +kernel
theorem dL_ifGrown_13 : decode cL_ifGrown 13 = .ok (.astore 4, 2) := by decide +kernel
theorem dL_ifGrown_15 : decode cL_ifGrown 15 = .ok (.iconst 1, 1) := by decide +kernel
theorem dL_ifGrown_16 : decode cL_ifGrown 16 = .ok (.ireturn, 1) := by decide +kernel
theorem dL_ifGrown_17 : decode cL_ifGrown 17 = .ok (.astore 4, 2) := by decide +kernel
theorem dL_ifGrown_19 : decode cL_ifGrown 19 = .ok (.iconst 2, 1) := by decide +kernel
theorem dL_ifGrown_20 : decode cL_ifGrown 20 = .ok (.ireturn, 1) := by decide +kernel
theorem dL_ifGrown_21 : decode cL_ifGrown 21 = .ok (.iconst 0, 1) := by decide +kernel
theorem dL_ifGrown_22 : decode cL_ifGrown 22 = .ok (.ireturn, 1) := by decide +kernel
theorem dL_fewest_0 : decode cL_fewest 0 = .ok (.aload_n 2, 1) := by decide +kernel
theorem dL_fewest_1 : decode cL_fewest 1 = .ok (.iconst 0, 1) := by decide +kernel
theorem dL_fewest_2 : decode cL_fewest 2 = .ok (.aload_n 0, 1) := by decide +kernel
theorem dL_fewest_3 : decode cL_fewest 3 = .ok (.iload_n 1, 1) := by decide +kernel
theorem dL_fewest_4 : decode cL_fewest 4 = .ok (.invokevirtual 72, 3) := by decide +kernel
theorem dL_fewest_7 : decode cL_fewest 7 = .ok (.i2l, 1) := by decide +kernel
theorem dL_fewest_8 : decode cL_fewest 8 = .ok (.lastore, 1) := by decide +kernel
theorem dL_fewest_9 : decode cL_fewest 9 = .ok (.goto 6, 3) := by decide +kernel
theorem dL_fewest_12 : decode cL_fewest 12 = .ok (.astore_n 3, 1) := by decide +kernel
theorem dL_fewest_13 : decode cL_fewest 13 = .ok (.iconst 1, 1) := by decide +kernel
theorem dL_fewest_14 : decode cL_fewest 14 = .ok (.ireturn, 1) := by decide +kernel
theorem dL_fewest_15 : decode cL_fewest 15 = .ok (.iconst 0, 1) := by decide +kernel
theorem dL_fewest_16 : decode cL_fewest 16 = .ok (.ireturn, 1) := by decide +kernel
theorem dL_law_0 : decode cL_law 0 = .ok (.new 8, 3) := by decide +kernel
theorem dL_law_3 : decode cL_law 3 = .ok (.dup, 1) := by decide +kernel
theorem dL_law_4 : decode cL_law 4 = .ok (.invokespecial 75, 3) := by decide +kernel
theorem dL_law_7 : decode cL_law 7 = .ok (.astore_n 1, 1) := by decide +kernel
theorem dL_law_8 : decode cL_law 8 = .ok (.new 76, 3) := by decide +kernel
theorem dL_law_11 : decode cL_law 11 = .ok (.dup, 1) := by decide +kernel
theorem dL_law_12 : decode cL_law 12 = .ok (.invokespecial 78, 3) := by decide +kernel
theorem dL_law_15 : decode cL_law 15 = .ok (.astore_n 2, 1) := by decide +kernel
theorem dL_law_16 : decode cL_law 16 = .ok (.iconst 1, 1) := by decide +kernel
theorem dL_law_17 : decode cL_law 17 = .ok (.newarray .long, 2) := by decide +kernel
theorem dL_law_19 : decode cL_law 19 = .ok (.astore_n 3, 1) := by decide +kernel
theorem dL_law_20 : decode cL_law 20 = .ok (.iconst 0, 1) := by decide +kernel
theorem dL_law_21 : decode cL_law 21 = .ok (.istore 4, 2) := by decide +kernel
theorem dL_law_23 : decode cL_law 23 = .ok (.iload 4, 2) := by decide +kernel
theorem dL_law_25 : decode cL_law 25 = .ok (.aload_n 0, 1) := by decide +kernel
theorem dL_law_26 : decode cL_law 26 = .ok (.arraylength, 1) := by decide +kernel
theorem dL_law_27 : decode cL_law 27 = .ok (.iconst 3, 1) := by decide +kernel
theorem dL_law_28 : decode cL_law 28 = .ok (.isub, 1) := by decide +kernel
theorem dL_law_29 : decode cL_law 29 = .ok (.if_icmp .gt 1382, 3) := by decide +kernel
theorem dL_law_32 : decode cL_law 32 = .ok (.aload_n 0, 1) := by decide +kernel
theorem dL_law_33 : decode cL_law 33 = .ok (.iload 4, 2) := by decide +kernel
theorem dL_law_35 : decode cL_law 35 = .ok (.iaload, 1) := by decide +kernel
theorem dL_law_36 : decode cL_law 36 = .ok (.bipush 31, 2) := by decide +kernel
theorem dL_law_38 : decode cL_law 38 = .ok (.iand, 1) := by decide +kernel
theorem dL_law_39 : decode cL_law 39 = .ok (.tableswitch 1366 0 26 #[121, 177, 245, 313, 369, 425, 481, 494, 550, 606, 619, 632, 676, 732, 788, 832, 900, 968, 1036, 1092, 1148, 1216, 1229, 1285, 1298, 1311, 1352], 121) := by decide +kernel
theorem dL_law_160 : decode cL_law 160 = .ok (.aload_n 1, 1) := by decide +kernel
theorem dL_law_161 : decode cL_law 161 = .ok (.aload_n 0, 1) := by decide +kernel
theorem dL_law_162 : decode cL_law 162 = .ok (.iload 4, 2) := by decide +kernel
theorem dL_law_164 : decode cL_law 164 = .ok (.iconst 1, 1) := by decide +kernel
theorem dL_law_165 : decode cL_law 165 = .ok (.iadd, 1) := by decide +kernel
theorem dL_law_166 : decode cL_law 166 = .ok (.iaload, 1) := by decide +kernel
theorem dL_law_167 : decode cL_law 167 = .ok (.aload_n 3, 1) := by decide +kernel
theorem dL_law_168 : decode cL_law 168 = .ok (.invokestatic 79, 3) := by decide +kernel
theorem dL_law_171 : decode cL_law 171 = .ok (.istore 5, 2) := by decide +kernel
theorem dL_law_173 : decode cL_law 173 = .ok (.aload_n 2, 1) := by decide +kernel
theorem dL_law_174 : decode cL_law 174 = .ok (.aload_n 0, 1) := by decide +kernel
theorem dL_law_175 : decode cL_law 175 = .ok (.iload 4, 2) := by decide +kernel
theorem dL_law_177 : decode cL_law 177 = .ok (.iconst 1, 1) := by decide +kernel
theorem dL_law_178 : decode cL_law 178 = .ok (.iadd, 1) := by decide +kernel
theorem dL_law_179 : decode cL_law 179 = .ok (.iaload, 1) := by decide +kernel
theorem dL_law_180 : decode cL_law 180 = .ok (.invokevirtual 84, 3) := by decide +kernel
theorem dL_law_183 : decode cL_law 183 = .ok (.istore 6, 2) := by decide +kernel
theorem dL_law_185 : decode cL_law 185 = .ok (.aload_n 2, 1) := by decide +kernel
theorem dL_law_186 : decode cL_law 186 = .ok (.invokevirtual 85, 3) := by decide +kernel
theorem dL_law_189 : decode cL_law 189 = .ok (.iload 5, 2) := by decide +kernel
theorem dL_law_191 : decode cL_law 191 = .ok (.if_icmp .eq 5, 3) := by decide +kernel
theorem dL_law_194 : decode cL_law 194 = .ok (.iconst 0, 1) := by decide +kernel
theorem dL_law_195 : decode cL_law 195 = .ok (.ireturn, 1) := by decide +kernel
theorem dL_law_196 : decode cL_law 196 = .ok (.iload 5, 2) := by decide +kernel
theorem dL_law_198 : decode cL_law 198 = .ok (.ifCond .ne 15, 3) := by decide +kernel
theorem dL_law_201 : decode cL_law 201 = .ok (.aload_n 3, 1) := by decide +kernel
theorem dL_law_202 : decode cL_law 202 = .ok (.iconst 0, 1) := by decide +kernel
theorem dL_law_203 : decode cL_law 203 = .ok (.laload, 1) := by decide +kernel
theorem dL_law_204 : decode cL_law 204 = .ok (.iload 6, 2) := by decide +kernel
theorem dL_law_206 : decode cL_law 206 = .ok (.i2l, 1) := by decide +kernel
theorem dL_law_207 : decode cL_law 207 = .ok (.lcmp, 1) := by decide +kernel
theorem dL_law_208 : decode cL_law 208 = .ok (.ifCond .eq 5, 3) := by decide +kernel
theorem dL_law_211 : decode cL_law 211 = .ok (.iconst 0, 1) := by decide +kernel
theorem dL_law_212 : decode cL_law 212 = .ok (.ireturn, 1) := by decide +kernel
theorem dL_law_213 : decode cL_law 213 = .ok (.goto 1192, 3) := by decide +kernel
theorem dL_law_216 : decode cL_law 216 = .ok (.aload_n 1, 1) := by decide +kernel
theorem dL_law_217 : decode cL_law 217 = .ok (.aload_n 0, 1) := by decide +kernel
theorem dL_law_218 : decode cL_law 218 = .ok (.iload 4, 2) := by decide +kernel
theorem dL_law_220 : decode cL_law 220 = .ok (.iconst 1, 1) := by decide +kernel
theorem dL_law_221 : decode cL_law 221 = .ok (.iadd, 1) := by decide +kernel
theorem dL_law_222 : decode cL_law 222 = .ok (.iaload, 1) := by decide +kernel
theorem dL_law_223 : decode cL_law 223 = .ok (.aload_n 0, 1) := by decide +kernel
theorem dL_law_224 : decode cL_law 224 = .ok (.iload 4, 2) := by decide +kernel
theorem dL_law_226 : decode cL_law 226 = .ok (.iconst 2, 1) := by decide +kernel
theorem dL_law_227 : decode cL_law 227 = .ok (.iadd, 1) := by decide +kernel
theorem dL_law_228 : decode cL_law 228 = .ok (.iaload, 1) := by decide +kernel
theorem dL_law_229 : decode cL_law 229 = .ok (.aload_n 3, 1) := by decide +kernel
theorem dL_law_230 : decode cL_law 230 = .ok (.invokestatic 88, 3) := by decide +kernel
theorem dL_law_233 : decode cL_law 233 = .ok (.istore 5, 2) := by decide +kernel
theorem dL_law_235 : decode cL_law 235 = .ok (.aload_n 2, 1) := by decide +kernel
theorem dL_law_236 : decode cL_law 236 = .ok (.aload_n 0, 1) := by decide +kernel
theorem dL_law_237 : decode cL_law 237 = .ok (.iload 4, 2) := by decide +kernel
theorem dL_law_239 : decode cL_law 239 = .ok (.iconst 1, 1) := by decide +kernel
theorem dL_law_240 : decode cL_law 240 = .ok (.iadd, 1) := by decide +kernel
theorem dL_law_241 : decode cL_law 241 = .ok (.iaload, 1) := by decide +kernel
theorem dL_law_242 : decode cL_law 242 = .ok (.aload_n 0, 1) := by decide +kernel
theorem dL_law_243 : decode cL_law 243 = .ok (.iload 4, 2) := by decide +kernel
theorem dL_law_245 : decode cL_law 245 = .ok (.iconst 2, 1) := by decide +kernel
theorem dL_law_246 : decode cL_law 246 = .ok (.iadd, 1) := by decide +kernel
theorem dL_law_247 : decode cL_law 247 = .ok (.iaload, 1) := by decide +kernel
theorem dL_law_248 : decode cL_law 248 = .ok (.invokevirtual 91, 3) := by decide +kernel
theorem dL_law_251 : decode cL_law 251 = .ok (.istore 6, 2) := by decide +kernel
theorem dL_law_253 : decode cL_law 253 = .ok (.aload_n 2, 1) := by decide +kernel
theorem dL_law_254 : decode cL_law 254 = .ok (.invokevirtual 85, 3) := by decide +kernel
theorem dL_law_257 : decode cL_law 257 = .ok (.iload 5, 2) := by decide +kernel
theorem dL_law_259 : decode cL_law 259 = .ok (.if_icmp .eq 5, 3) := by decide +kernel
theorem dL_law_262 : decode cL_law 262 = .ok (.iconst 0, 1) := by decide +kernel
theorem dL_law_263 : decode cL_law 263 = .ok (.ireturn, 1) := by decide +kernel
theorem dL_law_264 : decode cL_law 264 = .ok (.iload 5, 2) := by decide +kernel
theorem dL_law_266 : decode cL_law 266 = .ok (.ifCond .ne 15, 3) := by decide +kernel
theorem dL_law_269 : decode cL_law 269 = .ok (.aload_n 3, 1) := by decide +kernel
theorem dL_law_270 : decode cL_law 270 = .ok (.iconst 0, 1) := by decide +kernel
theorem dL_law_271 : decode cL_law 271 = .ok (.laload, 1) := by decide +kernel
theorem dL_law_272 : decode cL_law 272 = .ok (.iload 6, 2) := by decide +kernel
theorem dL_law_274 : decode cL_law 274 = .ok (.i2l, 1) := by decide +kernel
theorem dL_law_275 : decode cL_law 275 = .ok (.lcmp, 1) := by decide +kernel
theorem dL_law_276 : decode cL_law 276 = .ok (.ifCond .eq 5, 3) := by decide +kernel
theorem dL_law_279 : decode cL_law 279 = .ok (.iconst 0, 1) := by decide +kernel
theorem dL_law_280 : decode cL_law 280 = .ok (.ireturn, 1) := by decide +kernel
theorem dL_law_281 : decode cL_law 281 = .ok (.goto 1124, 3) := by decide +kernel
theorem dL_law_284 : decode cL_law 284 = .ok (.aload_n 1, 1) := by decide +kernel
theorem dL_law_285 : decode cL_law 285 = .ok (.aload_n 0, 1) := by decide +kernel
theorem dL_law_286 : decode cL_law 286 = .ok (.iload 4, 2) := by decide +kernel
theorem dL_law_288 : decode cL_law 288 = .ok (.iconst 1, 1) := by decide +kernel
theorem dL_law_289 : decode cL_law 289 = .ok (.iadd, 1) := by decide +kernel
theorem dL_law_290 : decode cL_law 290 = .ok (.iaload, 1) := by decide +kernel
theorem dL_law_291 : decode cL_law 291 = .ok (.aload_n 0, 1) := by decide +kernel
theorem dL_law_292 : decode cL_law 292 = .ok (.iload 4, 2) := by decide +kernel
theorem dL_law_294 : decode cL_law 294 = .ok (.iconst 2, 1) := by decide +kernel
theorem dL_law_295 : decode cL_law 295 = .ok (.iadd, 1) := by decide +kernel
theorem dL_law_296 : decode cL_law 296 = .ok (.iaload, 1) := by decide +kernel
theorem dL_law_297 : decode cL_law 297 = .ok (.aload_n 3, 1) := by decide +kernel
theorem dL_law_298 : decode cL_law 298 = .ok (.invokestatic 92, 3) := by decide +kernel
theorem dL_law_301 : decode cL_law 301 = .ok (.istore 5, 2) := by decide +kernel
theorem dL_law_303 : decode cL_law 303 = .ok (.aload_n 2, 1) := by decide +kernel
theorem dL_law_304 : decode cL_law 304 = .ok (.aload_n 0, 1) := by decide +kernel
theorem dL_law_305 : decode cL_law 305 = .ok (.iload 4, 2) := by decide +kernel
theorem dL_law_307 : decode cL_law 307 = .ok (.iconst 1, 1) := by decide +kernel
theorem dL_law_308 : decode cL_law 308 = .ok (.iadd, 1) := by decide +kernel
theorem dL_law_309 : decode cL_law 309 = .ok (.iaload, 1) := by decide +kernel
theorem dL_law_310 : decode cL_law 310 = .ok (.aload_n 0, 1) := by decide +kernel
theorem dL_law_311 : decode cL_law 311 = .ok (.iload 4, 2) := by decide +kernel
theorem dL_law_313 : decode cL_law 313 = .ok (.iconst 2, 1) := by decide +kernel
theorem dL_law_314 : decode cL_law 314 = .ok (.iadd, 1) := by decide +kernel
theorem dL_law_315 : decode cL_law 315 = .ok (.iaload, 1) := by decide +kernel
theorem dL_law_316 : decode cL_law 316 = .ok (.invokevirtual 94, 3) := by decide +kernel
theorem dL_law_319 : decode cL_law 319 = .ok (.istore 6, 2) := by decide +kernel
theorem dL_law_321 : decode cL_law 321 = .ok (.aload_n 2, 1) := by decide +kernel
theorem dL_law_322 : decode cL_law 322 = .ok (.invokevirtual 85, 3) := by decide +kernel
theorem dL_law_325 : decode cL_law 325 = .ok (.iload 5, 2) := by decide +kernel
theorem dL_law_327 : decode cL_law 327 = .ok (.if_icmp .eq 5, 3) := by decide +kernel
theorem dL_law_330 : decode cL_law 330 = .ok (.iconst 0, 1) := by decide +kernel
theorem dL_law_331 : decode cL_law 331 = .ok (.ireturn, 1) := by decide +kernel
theorem dL_law_332 : decode cL_law 332 = .ok (.iload 5, 2) := by decide +kernel
theorem dL_law_334 : decode cL_law 334 = .ok (.ifCond .ne 15, 3) := by decide +kernel
theorem dL_law_337 : decode cL_law 337 = .ok (.aload_n 3, 1) := by decide +kernel
theorem dL_law_338 : decode cL_law 338 = .ok (.iconst 0, 1) := by decide +kernel
theorem dL_law_339 : decode cL_law 339 = .ok (.laload, 1) := by decide +kernel
theorem dL_law_340 : decode cL_law 340 = .ok (.iload 6, 2) := by decide +kernel
theorem dL_law_342 : decode cL_law 342 = .ok (.i2l, 1) := by decide +kernel
theorem dL_law_343 : decode cL_law 343 = .ok (.lcmp, 1) := by decide +kernel
theorem dL_law_344 : decode cL_law 344 = .ok (.ifCond .eq 5, 3) := by decide +kernel
theorem dL_law_347 : decode cL_law 347 = .ok (.iconst 0, 1) := by decide +kernel
theorem dL_law_348 : decode cL_law 348 = .ok (.ireturn, 1) := by decide +kernel
theorem dL_law_349 : decode cL_law 349 = .ok (.goto 1056, 3) := by decide +kernel
theorem dL_law_352 : decode cL_law 352 = .ok (.aload_n 1, 1) := by decide +kernel
theorem dL_law_353 : decode cL_law 353 = .ok (.aload_n 0, 1) := by decide +kernel
theorem dL_law_354 : decode cL_law 354 = .ok (.iload 4, 2) := by decide +kernel
theorem dL_law_356 : decode cL_law 356 = .ok (.iconst 1, 1) := by decide +kernel
theorem dL_law_357 : decode cL_law 357 = .ok (.iadd, 1) := by decide +kernel
theorem dL_law_358 : decode cL_law 358 = .ok (.iaload, 1) := by decide +kernel
theorem dL_law_359 : decode cL_law 359 = .ok (.aload_n 3, 1) := by decide +kernel
theorem dL_law_360 : decode cL_law 360 = .ok (.invokestatic 95, 3) := by decide +kernel
theorem dL_law_363 : decode cL_law 363 = .ok (.istore 5, 2) := by decide +kernel
theorem dL_law_365 : decode cL_law 365 = .ok (.aload_n 2, 1) := by decide +kernel
theorem dL_law_366 : decode cL_law 366 = .ok (.aload_n 0, 1) := by decide +kernel
theorem dL_law_367 : decode cL_law 367 = .ok (.iload 4, 2) := by decide +kernel
theorem dL_law_369 : decode cL_law 369 = .ok (.iconst 1, 1) := by decide +kernel
theorem dL_law_370 : decode cL_law 370 = .ok (.iadd, 1) := by decide +kernel
theorem dL_law_371 : decode cL_law 371 = .ok (.iaload, 1) := by decide +kernel
theorem dL_law_372 : decode cL_law 372 = .ok (.invokevirtual 97, 3) := by decide +kernel
theorem dL_law_375 : decode cL_law 375 = .ok (.istore 6, 2) := by decide +kernel
theorem dL_law_377 : decode cL_law 377 = .ok (.aload_n 2, 1) := by decide +kernel
theorem dL_law_378 : decode cL_law 378 = .ok (.invokevirtual 85, 3) := by decide +kernel
theorem dL_law_381 : decode cL_law 381 = .ok (.iload 5, 2) := by decide +kernel
theorem dL_law_383 : decode cL_law 383 = .ok (.if_icmp .eq 5, 3) := by decide +kernel
theorem dL_law_386 : decode cL_law 386 = .ok (.iconst 0, 1) := by decide +kernel
theorem dL_law_387 : decode cL_law 387 = .ok (.ireturn, 1) := by decide +kernel
theorem dL_law_388 : decode cL_law 388 = .ok (.iload 5, 2) := by decide +kernel
theorem dL_law_390 : decode cL_law 390 = .ok (.ifCond .ne 15, 3) := by decide +kernel
theorem dL_law_393 : decode cL_law 393 = .ok (.aload_n 3, 1) := by decide +kernel
theorem dL_law_394 : decode cL_law 394 = .ok (.iconst 0, 1) := by decide +kernel
theorem dL_law_395 : decode cL_law 395 = .ok (.laload, 1) := by decide +kernel
theorem dL_law_396 : decode cL_law 396 = .ok (.iload 6, 2) := by decide +kernel
theorem dL_law_398 : decode cL_law 398 = .ok (.i2l, 1) := by decide +kernel
theorem dL_law_399 : decode cL_law 399 = .ok (.lcmp, 1) := by decide +kernel
theorem dL_law_400 : decode cL_law 400 = .ok (.ifCond .eq 5, 3) := by decide +kernel
theorem dL_law_403 : decode cL_law 403 = .ok (.iconst 0, 1) := by decide +kernel
theorem dL_law_404 : decode cL_law 404 = .ok (.ireturn, 1) := by decide +kernel
theorem dL_law_405 : decode cL_law 405 = .ok (.goto 1000, 3) := by decide +kernel
theorem dL_law_408 : decode cL_law 408 = .ok (.aload_n 1, 1) := by decide +kernel
theorem dL_law_409 : decode cL_law 409 = .ok (.aload_n 0, 1) := by decide +kernel
theorem dL_law_410 : decode cL_law 410 = .ok (.iload 4, 2) := by decide +kernel
theorem dL_law_412 : decode cL_law 412 = .ok (.iconst 1, 1) := by decide +kernel
theorem dL_law_413 : decode cL_law 413 = .ok (.iadd, 1) := by decide +kernel
theorem dL_law_414 : decode cL_law 414 = .ok (.iaload, 1) := by decide +kernel
theorem dL_law_415 : decode cL_law 415 = .ok (.aload_n 3, 1) := by decide +kernel
theorem dL_law_416 : decode cL_law 416 = .ok (.invokestatic 98, 3) := by decide +kernel
theorem dL_law_419 : decode cL_law 419 = .ok (.istore 5, 2) := by decide +kernel
theorem dL_law_421 : decode cL_law 421 = .ok (.aload_n 2, 1) := by decide +kernel
theorem dL_law_422 : decode cL_law 422 = .ok (.aload_n 0, 1) := by decide +kernel
theorem dL_law_423 : decode cL_law 423 = .ok (.iload 4, 2) := by decide +kernel
theorem dL_law_425 : decode cL_law 425 = .ok (.iconst 1, 1) := by decide +kernel
theorem dL_law_426 : decode cL_law 426 = .ok (.iadd, 1) := by decide +kernel
theorem dL_law_427 : decode cL_law 427 = .ok (.iaload, 1) := by decide +kernel
theorem dL_law_428 : decode cL_law 428 = .ok (.invokevirtual 100, 3) := by decide +kernel
theorem dL_law_431 : decode cL_law 431 = .ok (.istore 6, 2) := by decide +kernel
theorem dL_law_433 : decode cL_law 433 = .ok (.aload_n 2, 1) := by decide +kernel
theorem dL_law_434 : decode cL_law 434 = .ok (.invokevirtual 85, 3) := by decide +kernel
theorem dL_law_437 : decode cL_law 437 = .ok (.iload 5, 2) := by decide +kernel
theorem dL_law_439 : decode cL_law 439 = .ok (.if_icmp .eq 5, 3) := by decide +kernel
theorem dL_law_442 : decode cL_law 442 = .ok (.iconst 0, 1) := by decide +kernel
theorem dL_law_443 : decode cL_law 443 = .ok (.ireturn, 1) := by decide +kernel
theorem dL_law_444 : decode cL_law 444 = .ok (.iload 5, 2) := by decide +kernel
theorem dL_law_446 : decode cL_law 446 = .ok (.ifCond .ne 15, 3) := by decide +kernel
theorem dL_law_449 : decode cL_law 449 = .ok (.aload_n 3, 1) := by decide +kernel
theorem dL_law_450 : decode cL_law 450 = .ok (.iconst 0, 1) := by decide +kernel
theorem dL_law_451 : decode cL_law 451 = .ok (.laload, 1) := by decide +kernel
theorem dL_law_452 : decode cL_law 452 = .ok (.iload 6, 2) := by decide +kernel
theorem dL_law_454 : decode cL_law 454 = .ok (.i2l, 1) := by decide +kernel
theorem dL_law_455 : decode cL_law 455 = .ok (.lcmp, 1) := by decide +kernel
theorem dL_law_456 : decode cL_law 456 = .ok (.ifCond .eq 5, 3) := by decide +kernel
theorem dL_law_459 : decode cL_law 459 = .ok (.iconst 0, 1) := by decide +kernel
theorem dL_law_460 : decode cL_law 460 = .ok (.ireturn, 1) := by decide +kernel
theorem dL_law_461 : decode cL_law 461 = .ok (.goto 944, 3) := by decide +kernel
theorem dL_law_464 : decode cL_law 464 = .ok (.aload_n 1, 1) := by decide +kernel
theorem dL_law_465 : decode cL_law 465 = .ok (.aload_n 0, 1) := by decide +kernel
theorem dL_law_466 : decode cL_law 466 = .ok (.iload 4, 2) := by decide +kernel
theorem dL_law_468 : decode cL_law 468 = .ok (.iconst 1, 1) := by decide +kernel
theorem dL_law_469 : decode cL_law 469 = .ok (.iadd, 1) := by decide +kernel
theorem dL_law_470 : decode cL_law 470 = .ok (.iaload, 1) := by decide +kernel
theorem dL_law_471 : decode cL_law 471 = .ok (.aload_n 3, 1) := by decide +kernel
theorem dL_law_472 : decode cL_law 472 = .ok (.invokestatic 101, 3) := by decide +kernel
theorem dL_law_475 : decode cL_law 475 = .ok (.istore 5, 2) := by decide +kernel
theorem dL_law_477 : decode cL_law 477 = .ok (.aload_n 2, 1) := by decide +kernel
theorem dL_law_478 : decode cL_law 478 = .ok (.aload_n 0, 1) := by decide +kernel
theorem dL_law_479 : decode cL_law 479 = .ok (.iload 4, 2) := by decide +kernel
theorem dL_law_481 : decode cL_law 481 = .ok (.iconst 1, 1) := by decide +kernel
theorem dL_law_482 : decode cL_law 482 = .ok (.iadd, 1) := by decide +kernel
theorem dL_law_483 : decode cL_law 483 = .ok (.iaload, 1) := by decide +kernel
theorem dL_law_484 : decode cL_law 484 = .ok (.invokevirtual 103, 3) := by decide +kernel
theorem dL_law_487 : decode cL_law 487 = .ok (.istore 6, 2) := by decide +kernel
theorem dL_law_489 : decode cL_law 489 = .ok (.aload_n 2, 1) := by decide +kernel
theorem dL_law_490 : decode cL_law 490 = .ok (.invokevirtual 85, 3) := by decide +kernel
theorem dL_law_493 : decode cL_law 493 = .ok (.iload 5, 2) := by decide +kernel
theorem dL_law_495 : decode cL_law 495 = .ok (.if_icmp .eq 5, 3) := by decide +kernel
theorem dL_law_498 : decode cL_law 498 = .ok (.iconst 0, 1) := by decide +kernel
theorem dL_law_499 : decode cL_law 499 = .ok (.ireturn, 1) := by decide +kernel
theorem dL_law_500 : decode cL_law 500 = .ok (.iload 5, 2) := by decide +kernel
theorem dL_law_502 : decode cL_law 502 = .ok (.ifCond .ne 15, 3) := by decide +kernel
theorem dL_law_505 : decode cL_law 505 = .ok (.aload_n 3, 1) := by decide +kernel
theorem dL_law_506 : decode cL_law 506 = .ok (.iconst 0, 1) := by decide +kernel
theorem dL_law_507 : decode cL_law 507 = .ok (.laload, 1) := by decide +kernel
theorem dL_law_508 : decode cL_law 508 = .ok (.iload 6, 2) := by decide +kernel
theorem dL_law_510 : decode cL_law 510 = .ok (.i2l, 1) := by decide +kernel
theorem dL_law_511 : decode cL_law 511 = .ok (.lcmp, 1) := by decide +kernel
theorem dL_law_512 : decode cL_law 512 = .ok (.ifCond .eq 5, 3) := by decide +kernel
theorem dL_law_515 : decode cL_law 515 = .ok (.iconst 0, 1) := by decide +kernel
theorem dL_law_516 : decode cL_law 516 = .ok (.ireturn, 1) := by decide +kernel
theorem dL_law_517 : decode cL_law 517 = .ok (.goto 888, 3) := by decide +kernel
theorem dL_law_520 : decode cL_law 520 = .ok (.aload_n 1, 1) := by decide +kernel
theorem dL_law_521 : decode cL_law 521 = .ok (.invokevirtual 104, 3) := by decide +kernel
theorem dL_law_524 : decode cL_law 524 = .ok (.aload_n 2, 1) := by decide +kernel
theorem dL_law_525 : decode cL_law 525 = .ok (.invokevirtual 107, 3) := by decide +kernel
theorem dL_law_528 : decode cL_law 528 = .ok (.if_icmp .eq 877, 3) := by decide +kernel
theorem dL_law_531 : decode cL_law 531 = .ok (.iconst 0, 1) := by decide +kernel
theorem dL_law_532 : decode cL_law 532 = .ok (.ireturn, 1) := by decide +kernel
theorem dL_law_533 : decode cL_law 533 = .ok (.aload_n 1, 1) := by decide +kernel
theorem dL_law_534 : decode cL_law 534 = .ok (.aload_n 0, 1) := by decide +kernel
theorem dL_law_535 : decode cL_law 535 = .ok (.iload 4, 2) := by decide +kernel
theorem dL_law_537 : decode cL_law 537 = .ok (.iconst 1, 1) := by decide +kernel
theorem dL_law_538 : decode cL_law 538 = .ok (.iadd, 1) := by decide +kernel
theorem dL_law_539 : decode cL_law 539 = .ok (.iaload, 1) := by decide +kernel
theorem dL_law_540 : decode cL_law 540 = .ok (.aload_n 3, 1) := by decide +kernel
theorem dL_law_541 : decode cL_law 541 = .ok (.invokestatic 108, 3) := by decide +kernel
theorem dL_law_544 : decode cL_law 544 = .ok (.istore 5, 2) := by decide +kernel
theorem dL_law_546 : decode cL_law 546 = .ok (.aload_n 2, 1) := by decide +kernel
theorem dL_law_547 : decode cL_law 547 = .ok (.aload_n 0, 1) := by decide +kernel
theorem dL_law_548 : decode cL_law 548 = .ok (.iload 4, 2) := by decide +kernel
theorem dL_law_550 : decode cL_law 550 = .ok (.iconst 1, 1) := by decide +kernel
theorem dL_law_551 : decode cL_law 551 = .ok (.iadd, 1) := by decide +kernel
theorem dL_law_552 : decode cL_law 552 = .ok (.iaload, 1) := by decide +kernel
theorem dL_law_553 : decode cL_law 553 = .ok (.invokevirtual 110, 3) := by decide +kernel
theorem dL_law_556 : decode cL_law 556 = .ok (.istore 6, 2) := by decide +kernel
theorem dL_law_558 : decode cL_law 558 = .ok (.aload_n 2, 1) := by decide +kernel
theorem dL_law_559 : decode cL_law 559 = .ok (.invokevirtual 85, 3) := by decide +kernel
theorem dL_law_562 : decode cL_law 562 = .ok (.iload 5, 2) := by decide +kernel
theorem dL_law_564 : decode cL_law 564 = .ok (.if_icmp .eq 5, 3) := by decide +kernel
theorem dL_law_567 : decode cL_law 567 = .ok (.iconst 0, 1) := by decide +kernel
theorem dL_law_568 : decode cL_law 568 = .ok (.ireturn, 1) := by decide +kernel
theorem dL_law_569 : decode cL_law 569 = .ok (.iload 5, 2) := by decide +kernel
theorem dL_law_571 : decode cL_law 571 = .ok (.ifCond .ne 15, 3) := by decide +kernel
theorem dL_law_574 : decode cL_law 574 = .ok (.aload_n 3, 1) := by decide +kernel
theorem dL_law_575 : decode cL_law 575 = .ok (.iconst 0, 1) := by decide +kernel
theorem dL_law_576 : decode cL_law 576 = .ok (.laload, 1) := by decide +kernel
theorem dL_law_577 : decode cL_law 577 = .ok (.iload 6, 2) := by decide +kernel
theorem dL_law_579 : decode cL_law 579 = .ok (.i2l, 1) := by decide +kernel
theorem dL_law_580 : decode cL_law 580 = .ok (.lcmp, 1) := by decide +kernel
theorem dL_law_581 : decode cL_law 581 = .ok (.ifCond .eq 5, 3) := by decide +kernel
theorem dL_law_584 : decode cL_law 584 = .ok (.iconst 0, 1) := by decide +kernel
theorem dL_law_585 : decode cL_law 585 = .ok (.ireturn, 1) := by decide +kernel
theorem dL_law_586 : decode cL_law 586 = .ok (.goto 819, 3) := by decide +kernel
theorem dL_law_589 : decode cL_law 589 = .ok (.aload_n 1, 1) := by decide +kernel
theorem dL_law_590 : decode cL_law 590 = .ok (.aload_n 0, 1) := by decide +kernel
theorem dL_law_591 : decode cL_law 591 = .ok (.iload 4, 2) := by decide +kernel
theorem dL_law_593 : decode cL_law 593 = .ok (.iconst 1, 1) := by decide +kernel
theorem dL_law_594 : decode cL_law 594 = .ok (.iadd, 1) := by decide +kernel
theorem dL_law_595 : decode cL_law 595 = .ok (.iaload, 1) := by decide +kernel
theorem dL_law_596 : decode cL_law 596 = .ok (.aload_n 3, 1) := by decide +kernel
theorem dL_law_597 : decode cL_law 597 = .ok (.invokestatic 111, 3) := by decide +kernel
theorem dL_law_600 : decode cL_law 600 = .ok (.istore 5, 2) := by decide +kernel
theorem dL_law_602 : decode cL_law 602 = .ok (.aload_n 2, 1) := by decide +kernel
theorem dL_law_603 : decode cL_law 603 = .ok (.aload_n 0, 1) := by decide +kernel
theorem dL_law_604 : decode cL_law 604 = .ok (.iload 4, 2) := by decide +kernel
theorem dL_law_606 : decode cL_law 606 = .ok (.iconst 1, 1) := by decide +kernel
theorem dL_law_607 : decode cL_law 607 = .ok (.iadd, 1) := by decide +kernel
theorem dL_law_608 : decode cL_law 608 = .ok (.iaload, 1) := by decide +kernel
theorem dL_law_609 : decode cL_law 609 = .ok (.invokevirtual 113, 3) := by decide +kernel
theorem dL_law_612 : decode cL_law 612 = .ok (.istore 6, 2) := by decide +kernel
theorem dL_law_614 : decode cL_law 614 = .ok (.aload_n 2, 1) := by decide +kernel
theorem dL_law_615 : decode cL_law 615 = .ok (.invokevirtual 85, 3) := by decide +kernel
theorem dL_law_618 : decode cL_law 618 = .ok (.iload 5, 2) := by decide +kernel
theorem dL_law_620 : decode cL_law 620 = .ok (.if_icmp .eq 5, 3) := by decide +kernel
theorem dL_law_623 : decode cL_law 623 = .ok (.iconst 0, 1) := by decide +kernel
theorem dL_law_624 : decode cL_law 624 = .ok (.ireturn, 1) := by decide +kernel
theorem dL_law_625 : decode cL_law 625 = .ok (.iload 5, 2) := by decide +kernel
theorem dL_law_627 : decode cL_law 627 = .ok (.ifCond .ne 15, 3) := by decide +kernel
theorem dL_law_630 : decode cL_law 630 = .ok (.aload_n 3, 1) := by decide +kernel
theorem dL_law_631 : decode cL_law 631 = .ok (.iconst 0, 1) := by decide +kernel
theorem dL_law_632 : decode cL_law 632 = .ok (.laload, 1) := by decide +kernel
theorem dL_law_633 : decode cL_law 633 = .ok (.iload 6, 2) := by decide +kernel
theorem dL_law_635 : decode cL_law 635 = .ok (.i2l, 1) := by decide +kernel
theorem dL_law_636 : decode cL_law 636 = .ok (.lcmp, 1) := by decide +kernel
theorem dL_law_637 : decode cL_law 637 = .ok (.ifCond .eq 5, 3) := by decide +kernel
theorem dL_law_640 : decode cL_law 640 = .ok (.iconst 0, 1) := by decide +kernel
theorem dL_law_641 : decode cL_law 641 = .ok (.ireturn, 1) := by decide +kernel
theorem dL_law_642 : decode cL_law 642 = .ok (.goto 763, 3) := by decide +kernel
theorem dL_law_645 : decode cL_law 645 = .ok (.aload_n 1, 1) := by decide +kernel
theorem dL_law_646 : decode cL_law 646 = .ok (.invokevirtual 114, 3) := by decide +kernel
theorem dL_law_649 : decode cL_law 649 = .ok (.aload_n 2, 1) := by decide +kernel
theorem dL_law_650 : decode cL_law 650 = .ok (.invokevirtual 117, 3) := by decide +kernel
theorem dL_law_653 : decode cL_law 653 = .ok (.if_icmp .eq 752, 3) := by decide +kernel
theorem dL_law_656 : decode cL_law 656 = .ok (.iconst 0, 1) := by decide +kernel
theorem dL_law_657 : decode cL_law 657 = .ok (.ireturn, 1) := by decide +kernel
theorem dL_law_658 : decode cL_law 658 = .ok (.aload_n 1, 1) := by decide +kernel
theorem dL_law_659 : decode cL_law 659 = .ok (.invokevirtual 118, 3) := by decide +kernel
theorem dL_law_662 : decode cL_law 662 = .ok (.aload_n 2, 1) := by decide +kernel
theorem dL_law_663 : decode cL_law 663 = .ok (.invokevirtual 121, 3) := by decide +kernel
theorem dL_law_666 : decode cL_law 666 = .ok (.if_icmp .eq 739, 3) := by decide +kernel
theorem dL_law_669 : decode cL_law 669 = .ok (.iconst 0, 1) := by decide +kernel
theorem dL_law_670 : decode cL_law 670 = .ok (.ireturn, 1) := by decide +kernel
theorem dL_law_671 : decode cL_law 671 = .ok (.aload_n 1, 1) := by decide +kernel
theorem dL_law_672 : decode cL_law 672 = .ok (.aload_n 3, 1) := by decide +kernel
theorem dL_law_673 : decode cL_law 673 = .ok (.invokestatic 122, 3) := by decide +kernel
theorem dL_law_676 : decode cL_law 676 = .ok (.istore 5, 2) := by decide +kernel
theorem dL_law_678 : decode cL_law 678 = .ok (.aload_n 2, 1) := by decide +kernel
theorem dL_law_679 : decode cL_law 679 = .ok (.invokevirtual 125, 3) := by decide +kernel
theorem dL_law_682 : decode cL_law 682 = .ok (.istore 6, 2) := by decide +kernel
theorem dL_law_684 : decode cL_law 684 = .ok (.aload_n 2, 1) := by decide +kernel
theorem dL_law_685 : decode cL_law 685 = .ok (.invokevirtual 85, 3) := by decide +kernel
theorem dL_law_688 : decode cL_law 688 = .ok (.iload 5, 2) := by decide +kernel
theorem dL_law_690 : decode cL_law 690 = .ok (.if_icmp .eq 5, 3) := by decide +kernel
theorem dL_law_693 : decode cL_law 693 = .ok (.iconst 0, 1) := by decide +kernel
theorem dL_law_694 : decode cL_law 694 = .ok (.ireturn, 1) := by decide +kernel
theorem dL_law_695 : decode cL_law 695 = .ok (.iload 5, 2) := by decide +kernel
theorem dL_law_697 : decode cL_law 697 = .ok (.ifCond .ne 15, 3) := by decide +kernel
theorem dL_law_700 : decode cL_law 700 = .ok (.aload_n 3, 1) := by decide +kernel
theorem dL_law_701 : decode cL_law 701 = .ok (.iconst 0, 1) := by decide +kernel
theorem dL_law_702 : decode cL_law 702 = .ok (.laload, 1) := by decide +kernel
theorem dL_law_703 : decode cL_law 703 = .ok (.iload 6, 2) := by decide +kernel
theorem dL_law_705 : decode cL_law 705 = .ok (.i2l, 1) := by decide +kernel
theorem dL_law_706 : decode cL_law 706 = .ok (.lcmp, 1) := by decide +kernel
theorem dL_law_707 : decode cL_law 707 = .ok (.ifCond .eq 5, 3) := by decide +kernel
theorem dL_law_710 : decode cL_law 710 = .ok (.iconst 0, 1) := by decide +kernel
theorem dL_law_711 : decode cL_law 711 = .ok (.ireturn, 1) := by decide +kernel
theorem dL_law_712 : decode cL_law 712 = .ok (.goto 693, 3) := by decide +kernel
theorem dL_law_715 : decode cL_law 715 = .ok (.aload_n 1, 1) := by decide +kernel
theorem dL_law_716 : decode cL_law 716 = .ok (.aload_n 0, 1) := by decide +kernel
theorem dL_law_717 : decode cL_law 717 = .ok (.iload 4, 2) := by decide +kernel
theorem dL_law_719 : decode cL_law 719 = .ok (.iconst 1, 1) := by decide +kernel
theorem dL_law_720 : decode cL_law 720 = .ok (.iadd, 1) := by decide +kernel
theorem dL_law_721 : decode cL_law 721 = .ok (.iaload, 1) := by decide +kernel
theorem dL_law_722 : decode cL_law 722 = .ok (.aload_n 3, 1) := by decide +kernel
theorem dL_law_723 : decode cL_law 723 = .ok (.invokestatic 126, 3) := by decide +kernel
theorem dL_law_726 : decode cL_law 726 = .ok (.istore 5, 2) := by decide +kernel
theorem dL_law_728 : decode cL_law 728 = .ok (.aload_n 2, 1) := by decide +kernel
theorem dL_law_729 : decode cL_law 729 = .ok (.aload_n 0, 1) := by decide +kernel
theorem dL_law_730 : decode cL_law 730 = .ok (.iload 4, 2) := by decide +kernel
theorem dL_law_732 : decode cL_law 732 = .ok (.iconst 1, 1) := by decide +kernel
theorem dL_law_733 : decode cL_law 733 = .ok (.iadd, 1) := by decide +kernel
theorem dL_law_734 : decode cL_law 734 = .ok (.iaload, 1) := by decide +kernel
theorem dL_law_735 : decode cL_law 735 = .ok (.invokevirtual 128, 3) := by decide +kernel
theorem dL_law_738 : decode cL_law 738 = .ok (.istore 6, 2) := by decide +kernel
theorem dL_law_740 : decode cL_law 740 = .ok (.aload_n 2, 1) := by decide +kernel
theorem dL_law_741 : decode cL_law 741 = .ok (.invokevirtual 85, 3) := by decide +kernel
theorem dL_law_744 : decode cL_law 744 = .ok (.iload 5, 2) := by decide +kernel
theorem dL_law_746 : decode cL_law 746 = .ok (.if_icmp .eq 5, 3) := by decide +kernel
theorem dL_law_749 : decode cL_law 749 = .ok (.iconst 0, 1) := by decide +kernel
theorem dL_law_750 : decode cL_law 750 = .ok (.ireturn, 1) := by decide +kernel
theorem dL_law_751 : decode cL_law 751 = .ok (.iload 5, 2) := by decide +kernel
theorem dL_law_753 : decode cL_law 753 = .ok (.ifCond .ne 15, 3) := by decide +kernel
theorem dL_law_756 : decode cL_law 756 = .ok (.aload_n 3, 1) := by decide +kernel
theorem dL_law_757 : decode cL_law 757 = .ok (.iconst 0, 1) := by decide +kernel
theorem dL_law_758 : decode cL_law 758 = .ok (.laload, 1) := by decide +kernel
theorem dL_law_759 : decode cL_law 759 = .ok (.iload 6, 2) := by decide +kernel
theorem dL_law_761 : decode cL_law 761 = .ok (.i2l, 1) := by decide +kernel
theorem dL_law_762 : decode cL_law 762 = .ok (.lcmp, 1) := by decide +kernel
theorem dL_law_763 : decode cL_law 763 = .ok (.ifCond .eq 5, 3) := by decide +kernel
theorem dL_law_766 : decode cL_law 766 = .ok (.iconst 0, 1) := by decide +kernel
theorem dL_law_767 : decode cL_law 767 = .ok (.ireturn, 1) := by decide +kernel
theorem dL_law_768 : decode cL_law 768 = .ok (.goto 637, 3) := by decide +kernel
theorem dL_law_771 : decode cL_law 771 = .ok (.aload_n 1, 1) := by decide +kernel
theorem dL_law_772 : decode cL_law 772 = .ok (.aload_n 0, 1) := by decide +kernel
theorem dL_law_773 : decode cL_law 773 = .ok (.iload 4, 2) := by decide +kernel
theorem dL_law_775 : decode cL_law 775 = .ok (.iconst 1, 1) := by decide +kernel
theorem dL_law_776 : decode cL_law 776 = .ok (.iadd, 1) := by decide +kernel
theorem dL_law_777 : decode cL_law 777 = .ok (.iaload, 1) := by decide +kernel
theorem dL_law_778 : decode cL_law 778 = .ok (.aload_n 3, 1) := by decide +kernel
theorem dL_law_779 : decode cL_law 779 = .ok (.invokestatic 129, 3) := by decide +kernel
theorem dL_law_782 : decode cL_law 782 = .ok (.istore 5, 2) := by decide +kernel
theorem dL_law_784 : decode cL_law 784 = .ok (.aload_n 2, 1) := by decide +kernel
theorem dL_law_785 : decode cL_law 785 = .ok (.aload_n 0, 1) := by decide +kernel
theorem dL_law_786 : decode cL_law 786 = .ok (.iload 4, 2) := by decide +kernel
theorem dL_law_788 : decode cL_law 788 = .ok (.iconst 1, 1) := by decide +kernel
theorem dL_law_789 : decode cL_law 789 = .ok (.iadd, 1) := by decide +kernel
theorem dL_law_790 : decode cL_law 790 = .ok (.iaload, 1) := by decide +kernel
theorem dL_law_791 : decode cL_law 791 = .ok (.invokevirtual 131, 3) := by decide +kernel
theorem dL_law_794 : decode cL_law 794 = .ok (.istore 6, 2) := by decide +kernel
theorem dL_law_796 : decode cL_law 796 = .ok (.aload_n 2, 1) := by decide +kernel
theorem dL_law_797 : decode cL_law 797 = .ok (.invokevirtual 85, 3) := by decide +kernel
theorem dL_law_800 : decode cL_law 800 = .ok (.iload 5, 2) := by decide +kernel
theorem dL_law_802 : decode cL_law 802 = .ok (.if_icmp .eq 5, 3) := by decide +kernel
theorem dL_law_805 : decode cL_law 805 = .ok (.iconst 0, 1) := by decide +kernel
theorem dL_law_806 : decode cL_law 806 = .ok (.ireturn, 1) := by decide +kernel
theorem dL_law_807 : decode cL_law 807 = .ok (.iload 5, 2) := by decide +kernel
theorem dL_law_809 : decode cL_law 809 = .ok (.ifCond .ne 15, 3) := by decide +kernel
theorem dL_law_812 : decode cL_law 812 = .ok (.aload_n 3, 1) := by decide +kernel
theorem dL_law_813 : decode cL_law 813 = .ok (.iconst 0, 1) := by decide +kernel
theorem dL_law_814 : decode cL_law 814 = .ok (.laload, 1) := by decide +kernel
theorem dL_law_815 : decode cL_law 815 = .ok (.iload 6, 2) := by decide +kernel
theorem dL_law_817 : decode cL_law 817 = .ok (.i2l, 1) := by decide +kernel
theorem dL_law_818 : decode cL_law 818 = .ok (.lcmp, 1) := by decide +kernel
theorem dL_law_819 : decode cL_law 819 = .ok (.ifCond .eq 5, 3) := by decide +kernel
theorem dL_law_822 : decode cL_law 822 = .ok (.iconst 0, 1) := by decide +kernel
theorem dL_law_823 : decode cL_law 823 = .ok (.ireturn, 1) := by decide +kernel
theorem dL_law_824 : decode cL_law 824 = .ok (.goto 581, 3) := by decide +kernel
theorem dL_law_827 : decode cL_law 827 = .ok (.aload_n 1, 1) := by decide +kernel
theorem dL_law_828 : decode cL_law 828 = .ok (.aload_n 3, 1) := by decide +kernel
theorem dL_law_829 : decode cL_law 829 = .ok (.invokestatic 132, 3) := by decide +kernel
theorem dL_law_832 : decode cL_law 832 = .ok (.istore 5, 2) := by decide +kernel
theorem dL_law_834 : decode cL_law 834 = .ok (.aload_n 2, 1) := by decide +kernel
theorem dL_law_835 : decode cL_law 835 = .ok (.invokevirtual 134, 3) := by decide +kernel
theorem dL_law_838 : decode cL_law 838 = .ok (.istore 6, 2) := by decide +kernel
theorem dL_law_840 : decode cL_law 840 = .ok (.aload_n 2, 1) := by decide +kernel
theorem dL_law_841 : decode cL_law 841 = .ok (.invokevirtual 85, 3) := by decide +kernel
theorem dL_law_844 : decode cL_law 844 = .ok (.iload 5, 2) := by decide +kernel
theorem dL_law_846 : decode cL_law 846 = .ok (.if_icmp .eq 5, 3) := by decide +kernel
theorem dL_law_849 : decode cL_law 849 = .ok (.iconst 0, 1) := by decide +kernel
theorem dL_law_850 : decode cL_law 850 = .ok (.ireturn, 1) := by decide +kernel
theorem dL_law_851 : decode cL_law 851 = .ok (.iload 5, 2) := by decide +kernel
theorem dL_law_853 : decode cL_law 853 = .ok (.ifCond .ne 15, 3) := by decide +kernel
theorem dL_law_856 : decode cL_law 856 = .ok (.aload_n 3, 1) := by decide +kernel
theorem dL_law_857 : decode cL_law 857 = .ok (.iconst 0, 1) := by decide +kernel
theorem dL_law_858 : decode cL_law 858 = .ok (.laload, 1) := by decide +kernel
theorem dL_law_859 : decode cL_law 859 = .ok (.iload 6, 2) := by decide +kernel
theorem dL_law_861 : decode cL_law 861 = .ok (.i2l, 1) := by decide +kernel
theorem dL_law_862 : decode cL_law 862 = .ok (.lcmp, 1) := by decide +kernel
theorem dL_law_863 : decode cL_law 863 = .ok (.ifCond .eq 5, 3) := by decide +kernel
theorem dL_law_866 : decode cL_law 866 = .ok (.iconst 0, 1) := by decide +kernel
theorem dL_law_867 : decode cL_law 867 = .ok (.ireturn, 1) := by decide +kernel
theorem dL_law_868 : decode cL_law 868 = .ok (.goto 537, 3) := by decide +kernel
theorem dL_law_871 : decode cL_law 871 = .ok (.aload_n 1, 1) := by decide +kernel
theorem dL_law_872 : decode cL_law 872 = .ok (.aload_n 0, 1) := by decide +kernel
theorem dL_law_873 : decode cL_law 873 = .ok (.iload 4, 2) := by decide +kernel
theorem dL_law_875 : decode cL_law 875 = .ok (.iconst 1, 1) := by decide +kernel
theorem dL_law_876 : decode cL_law 876 = .ok (.iadd, 1) := by decide +kernel
theorem dL_law_877 : decode cL_law 877 = .ok (.iaload, 1) := by decide +kernel
theorem dL_law_878 : decode cL_law 878 = .ok (.aload_n 0, 1) := by decide +kernel
theorem dL_law_879 : decode cL_law 879 = .ok (.iload 4, 2) := by decide +kernel
theorem dL_law_881 : decode cL_law 881 = .ok (.iconst 2, 1) := by decide +kernel
theorem dL_law_882 : decode cL_law 882 = .ok (.iadd, 1) := by decide +kernel
theorem dL_law_883 : decode cL_law 883 = .ok (.iaload, 1) := by decide +kernel
theorem dL_law_884 : decode cL_law 884 = .ok (.aload_n 3, 1) := by decide +kernel
theorem dL_law_885 : decode cL_law 885 = .ok (.invokestatic 135, 3) := by decide +kernel
theorem dL_law_888 : decode cL_law 888 = .ok (.istore 5, 2) := by decide +kernel
theorem dL_law_890 : decode cL_law 890 = .ok (.aload_n 2, 1) := by decide +kernel
theorem dL_law_891 : decode cL_law 891 = .ok (.aload_n 0, 1) := by decide +kernel
theorem dL_law_892 : decode cL_law 892 = .ok (.iload 4, 2) := by decide +kernel
theorem dL_law_894 : decode cL_law 894 = .ok (.iconst 1, 1) := by decide +kernel
theorem dL_law_895 : decode cL_law 895 = .ok (.iadd, 1) := by decide +kernel
theorem dL_law_896 : decode cL_law 896 = .ok (.iaload, 1) := by decide +kernel
theorem dL_law_897 : decode cL_law 897 = .ok (.aload_n 0, 1) := by decide +kernel
theorem dL_law_898 : decode cL_law 898 = .ok (.iload 4, 2) := by decide +kernel
theorem dL_law_900 : decode cL_law 900 = .ok (.iconst 2, 1) := by decide +kernel
theorem dL_law_901 : decode cL_law 901 = .ok (.iadd, 1) := by decide +kernel
theorem dL_law_902 : decode cL_law 902 = .ok (.iaload, 1) := by decide +kernel
theorem dL_law_903 : decode cL_law 903 = .ok (.invokevirtual 137, 3) := by decide +kernel
theorem dL_law_906 : decode cL_law 906 = .ok (.istore 6, 2) := by decide +kernel
theorem dL_law_908 : decode cL_law 908 = .ok (.aload_n 2, 1) := by decide +kernel
theorem dL_law_909 : decode cL_law 909 = .ok (.invokevirtual 85, 3) := by decide +kernel
theorem dL_law_912 : decode cL_law 912 = .ok (.iload 5, 2) := by decide +kernel
theorem dL_law_914 : decode cL_law 914 = .ok (.if_icmp .eq 5, 3) := by decide +kernel
theorem dL_law_917 : decode cL_law 917 = .ok (.iconst 0, 1) := by decide +kernel
theorem dL_law_918 : decode cL_law 918 = .ok (.ireturn, 1) := by decide +kernel
theorem dL_law_919 : decode cL_law 919 = .ok (.iload 5, 2) := by decide +kernel
theorem dL_law_921 : decode cL_law 921 = .ok (.ifCond .ne 15, 3) := by decide +kernel
theorem dL_law_924 : decode cL_law 924 = .ok (.aload_n 3, 1) := by decide +kernel
theorem dL_law_925 : decode cL_law 925 = .ok (.iconst 0, 1) := by decide +kernel
theorem dL_law_926 : decode cL_law 926 = .ok (.laload, 1) := by decide +kernel
theorem dL_law_927 : decode cL_law 927 = .ok (.iload 6, 2) := by decide +kernel
theorem dL_law_929 : decode cL_law 929 = .ok (.i2l, 1) := by decide +kernel
theorem dL_law_930 : decode cL_law 930 = .ok (.lcmp, 1) := by decide +kernel
theorem dL_law_931 : decode cL_law 931 = .ok (.ifCond .eq 5, 3) := by decide +kernel
theorem dL_law_934 : decode cL_law 934 = .ok (.iconst 0, 1) := by decide +kernel
theorem dL_law_935 : decode cL_law 935 = .ok (.ireturn, 1) := by decide +kernel
theorem dL_law_936 : decode cL_law 936 = .ok (.goto 469, 3) := by decide +kernel
theorem dL_law_939 : decode cL_law 939 = .ok (.aload_n 1, 1) := by decide +kernel
theorem dL_law_940 : decode cL_law 940 = .ok (.aload_n 0, 1) := by decide +kernel
theorem dL_law_941 : decode cL_law 941 = .ok (.iload 4, 2) := by decide +kernel
theorem dL_law_943 : decode cL_law 943 = .ok (.iconst 1, 1) := by decide +kernel
theorem dL_law_944 : decode cL_law 944 = .ok (.iadd, 1) := by decide +kernel
theorem dL_law_945 : decode cL_law 945 = .ok (.iaload, 1) := by decide +kernel
theorem dL_law_946 : decode cL_law 946 = .ok (.aload_n 0, 1) := by decide +kernel
theorem dL_law_947 : decode cL_law 947 = .ok (.iload 4, 2) := by decide +kernel
theorem dL_law_949 : decode cL_law 949 = .ok (.iconst 2, 1) := by decide +kernel
theorem dL_law_950 : decode cL_law 950 = .ok (.iadd, 1) := by decide +kernel
theorem dL_law_951 : decode cL_law 951 = .ok (.iaload, 1) := by decide +kernel
theorem dL_law_952 : decode cL_law 952 = .ok (.aload_n 3, 1) := by decide +kernel
theorem dL_law_953 : decode cL_law 953 = .ok (.invokestatic 138, 3) := by decide +kernel
theorem dL_law_956 : decode cL_law 956 = .ok (.istore 5, 2) := by decide +kernel
theorem dL_law_958 : decode cL_law 958 = .ok (.aload_n 2, 1) := by decide +kernel
theorem dL_law_959 : decode cL_law 959 = .ok (.aload_n 0, 1) := by decide +kernel
theorem dL_law_960 : decode cL_law 960 = .ok (.iload 4, 2) := by decide +kernel
theorem dL_law_962 : decode cL_law 962 = .ok (.iconst 1, 1) := by decide +kernel
theorem dL_law_963 : decode cL_law 963 = .ok (.iadd, 1) := by decide +kernel
theorem dL_law_964 : decode cL_law 964 = .ok (.iaload, 1) := by decide +kernel
theorem dL_law_965 : decode cL_law 965 = .ok (.aload_n 0, 1) := by decide +kernel
theorem dL_law_966 : decode cL_law 966 = .ok (.iload 4, 2) := by decide +kernel
theorem dL_law_968 : decode cL_law 968 = .ok (.iconst 2, 1) := by decide +kernel
theorem dL_law_969 : decode cL_law 969 = .ok (.iadd, 1) := by decide +kernel
theorem dL_law_970 : decode cL_law 970 = .ok (.iaload, 1) := by decide +kernel
theorem dL_law_971 : decode cL_law 971 = .ok (.invokevirtual 140, 3) := by decide +kernel
theorem dL_law_974 : decode cL_law 974 = .ok (.istore 6, 2) := by decide +kernel
theorem dL_law_976 : decode cL_law 976 = .ok (.aload_n 2, 1) := by decide +kernel
theorem dL_law_977 : decode cL_law 977 = .ok (.invokevirtual 85, 3) := by decide +kernel
theorem dL_law_980 : decode cL_law 980 = .ok (.iload 5, 2) := by decide +kernel
theorem dL_law_982 : decode cL_law 982 = .ok (.if_icmp .eq 5, 3) := by decide +kernel
theorem dL_law_985 : decode cL_law 985 = .ok (.iconst 0, 1) := by decide +kernel
theorem dL_law_986 : decode cL_law 986 = .ok (.ireturn, 1) := by decide +kernel
theorem dL_law_987 : decode cL_law 987 = .ok (.iload 5, 2) := by decide +kernel
theorem dL_law_989 : decode cL_law 989 = .ok (.ifCond .ne 15, 3) := by decide +kernel
theorem dL_law_992 : decode cL_law 992 = .ok (.aload_n 3, 1) := by decide +kernel
theorem dL_law_993 : decode cL_law 993 = .ok (.iconst 0, 1) := by decide +kernel
theorem dL_law_994 : decode cL_law 994 = .ok (.laload, 1) := by decide +kernel
theorem dL_law_995 : decode cL_law 995 = .ok (.iload 6, 2) := by decide +kernel
theorem dL_law_997 : decode cL_law 997 = .ok (.i2l, 1) := by decide +kernel
theorem dL_law_998 : decode cL_law 998 = .ok (.lcmp, 1) := by decide +kernel
theorem dL_law_999 : decode cL_law 999 = .ok (.ifCond .eq 5, 3) := by decide +kernel
theorem dL_law_1002 : decode cL_law 1002 = .ok (.iconst 0, 1) := by decide +kernel
theorem dL_law_1003 : decode cL_law 1003 = .ok (.ireturn, 1) := by decide +kernel
theorem dL_law_1004 : decode cL_law 1004 = .ok (.goto 401, 3) := by decide +kernel
theorem dL_law_1007 : decode cL_law 1007 = .ok (.aload_n 1, 1) := by decide +kernel
theorem dL_law_1008 : decode cL_law 1008 = .ok (.aload_n 0, 1) := by decide +kernel
theorem dL_law_1009 : decode cL_law 1009 = .ok (.iload 4, 2) := by decide +kernel
theorem dL_law_1011 : decode cL_law 1011 = .ok (.iconst 1, 1) := by decide +kernel
theorem dL_law_1012 : decode cL_law 1012 = .ok (.iadd, 1) := by decide +kernel
theorem dL_law_1013 : decode cL_law 1013 = .ok (.iaload, 1) := by decide +kernel
theorem dL_law_1014 : decode cL_law 1014 = .ok (.aload_n 0, 1) := by decide +kernel
theorem dL_law_1015 : decode cL_law 1015 = .ok (.iload 4, 2) := by decide +kernel
theorem dL_law_1017 : decode cL_law 1017 = .ok (.iconst 2, 1) := by decide +kernel
theorem dL_law_1018 : decode cL_law 1018 = .ok (.iadd, 1) := by decide +kernel
theorem dL_law_1019 : decode cL_law 1019 = .ok (.iaload, 1) := by decide +kernel
theorem dL_law_1020 : decode cL_law 1020 = .ok (.aload_n 3, 1) := by decide +kernel
theorem dL_law_1021 : decode cL_law 1021 = .ok (.invokestatic 141, 3) := by decide +kernel
theorem dL_law_1024 : decode cL_law 1024 = .ok (.istore 5, 2) := by decide +kernel
theorem dL_law_1026 : decode cL_law 1026 = .ok (.aload_n 2, 1) := by decide +kernel
theorem dL_law_1027 : decode cL_law 1027 = .ok (.aload_n 0, 1) := by decide +kernel
theorem dL_law_1028 : decode cL_law 1028 = .ok (.iload 4, 2) := by decide +kernel
theorem dL_law_1030 : decode cL_law 1030 = .ok (.iconst 1, 1) := by decide +kernel
theorem dL_law_1031 : decode cL_law 1031 = .ok (.iadd, 1) := by decide +kernel
theorem dL_law_1032 : decode cL_law 1032 = .ok (.iaload, 1) := by decide +kernel
theorem dL_law_1033 : decode cL_law 1033 = .ok (.aload_n 0, 1) := by decide +kernel
theorem dL_law_1034 : decode cL_law 1034 = .ok (.iload 4, 2) := by decide +kernel
theorem dL_law_1036 : decode cL_law 1036 = .ok (.iconst 2, 1) := by decide +kernel
theorem dL_law_1037 : decode cL_law 1037 = .ok (.iadd, 1) := by decide +kernel
theorem dL_law_1038 : decode cL_law 1038 = .ok (.iaload, 1) := by decide +kernel
theorem dL_law_1039 : decode cL_law 1039 = .ok (.invokevirtual 143, 3) := by decide +kernel
theorem dL_law_1042 : decode cL_law 1042 = .ok (.istore 6, 2) := by decide +kernel
theorem dL_law_1044 : decode cL_law 1044 = .ok (.aload_n 2, 1) := by decide +kernel
theorem dL_law_1045 : decode cL_law 1045 = .ok (.invokevirtual 85, 3) := by decide +kernel
theorem dL_law_1048 : decode cL_law 1048 = .ok (.iload 5, 2) := by decide +kernel
theorem dL_law_1050 : decode cL_law 1050 = .ok (.if_icmp .eq 5, 3) := by decide +kernel
theorem dL_law_1053 : decode cL_law 1053 = .ok (.iconst 0, 1) := by decide +kernel
theorem dL_law_1054 : decode cL_law 1054 = .ok (.ireturn, 1) := by decide +kernel
theorem dL_law_1055 : decode cL_law 1055 = .ok (.iload 5, 2) := by decide +kernel
theorem dL_law_1057 : decode cL_law 1057 = .ok (.ifCond .ne 15, 3) := by decide +kernel
theorem dL_law_1060 : decode cL_law 1060 = .ok (.aload_n 3, 1) := by decide +kernel
theorem dL_law_1061 : decode cL_law 1061 = .ok (.iconst 0, 1) := by decide +kernel
theorem dL_law_1062 : decode cL_law 1062 = .ok (.laload, 1) := by decide +kernel
theorem dL_law_1063 : decode cL_law 1063 = .ok (.iload 6, 2) := by decide +kernel
theorem dL_law_1065 : decode cL_law 1065 = .ok (.i2l, 1) := by decide +kernel
theorem dL_law_1066 : decode cL_law 1066 = .ok (.lcmp, 1) := by decide +kernel
theorem dL_law_1067 : decode cL_law 1067 = .ok (.ifCond .eq 5, 3) := by decide +kernel
theorem dL_law_1070 : decode cL_law 1070 = .ok (.iconst 0, 1) := by decide +kernel
theorem dL_law_1071 : decode cL_law 1071 = .ok (.ireturn, 1) := by decide +kernel
theorem dL_law_1072 : decode cL_law 1072 = .ok (.goto 333, 3) := by decide +kernel
theorem dL_law_1075 : decode cL_law 1075 = .ok (.aload_n 1, 1) := by decide +kernel
theorem dL_law_1076 : decode cL_law 1076 = .ok (.aload_n 0, 1) := by decide +kernel
theorem dL_law_1077 : decode cL_law 1077 = .ok (.iload 4, 2) := by decide +kernel
theorem dL_law_1079 : decode cL_law 1079 = .ok (.iconst 1, 1) := by decide +kernel
theorem dL_law_1080 : decode cL_law 1080 = .ok (.iadd, 1) := by decide +kernel
theorem dL_law_1081 : decode cL_law 1081 = .ok (.iaload, 1) := by decide +kernel
theorem dL_law_1082 : decode cL_law 1082 = .ok (.aload_n 3, 1) := by decide +kernel
theorem dL_law_1083 : decode cL_law 1083 = .ok (.invokestatic 144, 3) := by decide +kernel
theorem dL_law_1086 : decode cL_law 1086 = .ok (.istore 5, 2) := by decide +kernel
theorem dL_law_1088 : decode cL_law 1088 = .ok (.aload_n 2, 1) := by decide +kernel
theorem dL_law_1089 : decode cL_law 1089 = .ok (.aload_n 0, 1) := by decide +kernel
theorem dL_law_1090 : decode cL_law 1090 = .ok (.iload 4, 2) := by decide +kernel
theorem dL_law_1092 : decode cL_law 1092 = .ok (.iconst 1, 1) := by decide +kernel
theorem dL_law_1093 : decode cL_law 1093 = .ok (.iadd, 1) := by decide +kernel
theorem dL_law_1094 : decode cL_law 1094 = .ok (.iaload, 1) := by decide +kernel
theorem dL_law_1095 : decode cL_law 1095 = .ok (.invokevirtual 146, 3) := by decide +kernel
theorem dL_law_1098 : decode cL_law 1098 = .ok (.istore 6, 2) := by decide +kernel
theorem dL_law_1100 : decode cL_law 1100 = .ok (.aload_n 2, 1) := by decide +kernel
theorem dL_law_1101 : decode cL_law 1101 = .ok (.invokevirtual 85, 3) := by decide +kernel
theorem dL_law_1104 : decode cL_law 1104 = .ok (.iload 5, 2) := by decide +kernel
theorem dL_law_1106 : decode cL_law 1106 = .ok (.if_icmp .eq 5, 3) := by decide +kernel
theorem dL_law_1109 : decode cL_law 1109 = .ok (.iconst 0, 1) := by decide +kernel
theorem dL_law_1110 : decode cL_law 1110 = .ok (.ireturn, 1) := by decide +kernel
theorem dL_law_1111 : decode cL_law 1111 = .ok (.iload 5, 2) := by decide +kernel
theorem dL_law_1113 : decode cL_law 1113 = .ok (.ifCond .ne 15, 3) := by decide +kernel
theorem dL_law_1116 : decode cL_law 1116 = .ok (.aload_n 3, 1) := by decide +kernel
theorem dL_law_1117 : decode cL_law 1117 = .ok (.iconst 0, 1) := by decide +kernel
theorem dL_law_1118 : decode cL_law 1118 = .ok (.laload, 1) := by decide +kernel
theorem dL_law_1119 : decode cL_law 1119 = .ok (.iload 6, 2) := by decide +kernel
theorem dL_law_1121 : decode cL_law 1121 = .ok (.i2l, 1) := by decide +kernel
theorem dL_law_1122 : decode cL_law 1122 = .ok (.lcmp, 1) := by decide +kernel
theorem dL_law_1123 : decode cL_law 1123 = .ok (.ifCond .eq 5, 3) := by decide +kernel
theorem dL_law_1126 : decode cL_law 1126 = .ok (.iconst 0, 1) := by decide +kernel
theorem dL_law_1127 : decode cL_law 1127 = .ok (.ireturn, 1) := by decide +kernel
theorem dL_law_1128 : decode cL_law 1128 = .ok (.goto 277, 3) := by decide +kernel
theorem dL_law_1131 : decode cL_law 1131 = .ok (.aload_n 1, 1) := by decide +kernel
theorem dL_law_1132 : decode cL_law 1132 = .ok (.aload_n 0, 1) := by decide +kernel
theorem dL_law_1133 : decode cL_law 1133 = .ok (.iload 4, 2) := by decide +kernel
theorem dL_law_1135 : decode cL_law 1135 = .ok (.iconst 1, 1) := by decide +kernel
theorem dL_law_1136 : decode cL_law 1136 = .ok (.iadd, 1) := by decide +kernel
theorem dL_law_1137 : decode cL_law 1137 = .ok (.iaload, 1) := by decide +kernel
theorem dL_law_1138 : decode cL_law 1138 = .ok (.aload_n 3, 1) := by decide +kernel
theorem dL_law_1139 : decode cL_law 1139 = .ok (.invokestatic 147, 3) := by decide +kernel
theorem dL_law_1142 : decode cL_law 1142 = .ok (.istore 5, 2) := by decide +kernel
theorem dL_law_1144 : decode cL_law 1144 = .ok (.aload_n 2, 1) := by decide +kernel
theorem dL_law_1145 : decode cL_law 1145 = .ok (.aload_n 0, 1) := by decide +kernel
theorem dL_law_1146 : decode cL_law 1146 = .ok (.iload 4, 2) := by decide +kernel
theorem dL_law_1148 : decode cL_law 1148 = .ok (.iconst 1, 1) := by decide +kernel
theorem dL_law_1149 : decode cL_law 1149 = .ok (.iadd, 1) := by decide +kernel
theorem dL_law_1150 : decode cL_law 1150 = .ok (.iaload, 1) := by decide +kernel
theorem dL_law_1151 : decode cL_law 1151 = .ok (.invokevirtual 149, 3) := by decide +kernel
theorem dL_law_1154 : decode cL_law 1154 = .ok (.istore 6, 2) := by decide +kernel
theorem dL_law_1156 : decode cL_law 1156 = .ok (.aload_n 2, 1) := by decide +kernel
theorem dL_law_1157 : decode cL_law 1157 = .ok (.invokevirtual 85, 3) := by decide +kernel
theorem dL_law_1160 : decode cL_law 1160 = .ok (.iload 5, 2) := by decide +kernel
theorem dL_law_1162 : decode cL_law 1162 = .ok (.if_icmp .eq 5, 3) := by decide +kernel
theorem dL_law_1165 : decode cL_law 1165 = .ok (.iconst 0, 1) := by decide +kernel
theorem dL_law_1166 : decode cL_law 1166 = .ok (.ireturn, 1) := by decide +kernel
theorem dL_law_1167 : decode cL_law 1167 = .ok (.iload 5, 2) := by decide +kernel
theorem dL_law_1169 : decode cL_law 1169 = .ok (.ifCond .ne 15, 3) := by decide +kernel
theorem dL_law_1172 : decode cL_law 1172 = .ok (.aload_n 3, 1) := by decide +kernel
theorem dL_law_1173 : decode cL_law 1173 = .ok (.iconst 0, 1) := by decide +kernel
theorem dL_law_1174 : decode cL_law 1174 = .ok (.laload, 1) := by decide +kernel
theorem dL_law_1175 : decode cL_law 1175 = .ok (.iload 6, 2) := by decide +kernel
theorem dL_law_1177 : decode cL_law 1177 = .ok (.i2l, 1) := by decide +kernel
theorem dL_law_1178 : decode cL_law 1178 = .ok (.lcmp, 1) := by decide +kernel
theorem dL_law_1179 : decode cL_law 1179 = .ok (.ifCond .eq 5, 3) := by decide +kernel
theorem dL_law_1182 : decode cL_law 1182 = .ok (.iconst 0, 1) := by decide +kernel
theorem dL_law_1183 : decode cL_law 1183 = .ok (.ireturn, 1) := by decide +kernel
theorem dL_law_1184 : decode cL_law 1184 = .ok (.goto 221, 3) := by decide +kernel
theorem dL_law_1187 : decode cL_law 1187 = .ok (.aload_n 1, 1) := by decide +kernel
theorem dL_law_1188 : decode cL_law 1188 = .ok (.aload_n 0, 1) := by decide +kernel
theorem dL_law_1189 : decode cL_law 1189 = .ok (.iload 4, 2) := by decide +kernel
theorem dL_law_1191 : decode cL_law 1191 = .ok (.iconst 1, 1) := by decide +kernel
theorem dL_law_1192 : decode cL_law 1192 = .ok (.iadd, 1) := by decide +kernel
theorem dL_law_1193 : decode cL_law 1193 = .ok (.iaload, 1) := by decide +kernel
theorem dL_law_1194 : decode cL_law 1194 = .ok (.aload_n 0, 1) := by decide +kernel
theorem dL_law_1195 : decode cL_law 1195 = .ok (.iload 4, 2) := by decide +kernel
theorem dL_law_1197 : decode cL_law 1197 = .ok (.iconst 2, 1) := by decide +kernel
theorem dL_law_1198 : decode cL_law 1198 = .ok (.iadd, 1) := by decide +kernel
theorem dL_law_1199 : decode cL_law 1199 = .ok (.iaload, 1) := by decide +kernel
theorem dL_law_1200 : decode cL_law 1200 = .ok (.aload_n 3, 1) := by decide +kernel
theorem dL_law_1201 : decode cL_law 1201 = .ok (.invokestatic 150, 3) := by decide +kernel
theorem dL_law_1204 : decode cL_law 1204 = .ok (.istore 5, 2) := by decide +kernel
theorem dL_law_1206 : decode cL_law 1206 = .ok (.aload_n 2, 1) := by decide +kernel
theorem dL_law_1207 : decode cL_law 1207 = .ok (.aload_n 0, 1) := by decide +kernel
theorem dL_law_1208 : decode cL_law 1208 = .ok (.iload 4, 2) := by decide +kernel
theorem dL_law_1210 : decode cL_law 1210 = .ok (.iconst 1, 1) := by decide +kernel
theorem dL_law_1211 : decode cL_law 1211 = .ok (.iadd, 1) := by decide +kernel
theorem dL_law_1212 : decode cL_law 1212 = .ok (.iaload, 1) := by decide +kernel
theorem dL_law_1213 : decode cL_law 1213 = .ok (.aload_n 0, 1) := by decide +kernel
theorem dL_law_1214 : decode cL_law 1214 = .ok (.iload 4, 2) := by decide +kernel
theorem dL_law_1216 : decode cL_law 1216 = .ok (.iconst 2, 1) := by decide +kernel
theorem dL_law_1217 : decode cL_law 1217 = .ok (.iadd, 1) := by decide +kernel
theorem dL_law_1218 : decode cL_law 1218 = .ok (.iaload, 1) := by decide +kernel
theorem dL_law_1219 : decode cL_law 1219 = .ok (.invokevirtual 152, 3) := by decide +kernel
theorem dL_law_1222 : decode cL_law 1222 = .ok (.istore 6, 2) := by decide +kernel
theorem dL_law_1224 : decode cL_law 1224 = .ok (.aload_n 2, 1) := by decide +kernel
theorem dL_law_1225 : decode cL_law 1225 = .ok (.invokevirtual 85, 3) := by decide +kernel
theorem dL_law_1228 : decode cL_law 1228 = .ok (.iload 5, 2) := by decide +kernel
theorem dL_law_1230 : decode cL_law 1230 = .ok (.if_icmp .eq 5, 3) := by decide +kernel
theorem dL_law_1233 : decode cL_law 1233 = .ok (.iconst 0, 1) := by decide +kernel
theorem dL_law_1234 : decode cL_law 1234 = .ok (.ireturn, 1) := by decide +kernel
theorem dL_law_1235 : decode cL_law 1235 = .ok (.iload 5, 2) := by decide +kernel
theorem dL_law_1237 : decode cL_law 1237 = .ok (.ifCond .ne 15, 3) := by decide +kernel
theorem dL_law_1240 : decode cL_law 1240 = .ok (.aload_n 3, 1) := by decide +kernel
theorem dL_law_1241 : decode cL_law 1241 = .ok (.iconst 0, 1) := by decide +kernel
theorem dL_law_1242 : decode cL_law 1242 = .ok (.laload, 1) := by decide +kernel
theorem dL_law_1243 : decode cL_law 1243 = .ok (.iload 6, 2) := by decide +kernel
theorem dL_law_1245 : decode cL_law 1245 = .ok (.i2l, 1) := by decide +kernel
theorem dL_law_1246 : decode cL_law 1246 = .ok (.lcmp, 1) := by decide +kernel
theorem dL_law_1247 : decode cL_law 1247 = .ok (.ifCond .eq 5, 3) := by decide +kernel
theorem dL_law_1250 : decode cL_law 1250 = .ok (.iconst 0, 1) := by decide +kernel
theorem dL_law_1251 : decode cL_law 1251 = .ok (.ireturn, 1) := by decide +kernel
theorem dL_law_1252 : decode cL_law 1252 = .ok (.goto 153, 3) := by decide +kernel
theorem dL_law_1255 : decode cL_law 1255 = .ok (.aload_n 1, 1) := by decide +kernel
theorem dL_law_1256 : decode cL_law 1256 = .ok (.invokevirtual 153, 3) := by decide +kernel
theorem dL_law_1259 : decode cL_law 1259 = .ok (.aload_n 2, 1) := by decide +kernel
theorem dL_law_1260 : decode cL_law 1260 = .ok (.invokevirtual 156, 3) := by decide +kernel
theorem dL_law_1263 : decode cL_law 1263 = .ok (.if_icmp .eq 142, 3) := by decide +kernel
theorem dL_law_1266 : decode cL_law 1266 = .ok (.iconst 0, 1) := by decide +kernel
theorem dL_law_1267 : decode cL_law 1267 = .ok (.ireturn, 1) := by decide +kernel
theorem dL_law_1268 : decode cL_law 1268 = .ok (.aload_n 1, 1) := by decide +kernel
theorem dL_law_1269 : decode cL_law 1269 = .ok (.aload_n 0, 1) := by decide +kernel
theorem dL_law_1270 : decode cL_law 1270 = .ok (.iload 4, 2) := by decide +kernel
theorem dL_law_1272 : decode cL_law 1272 = .ok (.iconst 1, 1) := by decide +kernel
theorem dL_law_1273 : decode cL_law 1273 = .ok (.iadd, 1) := by decide +kernel
theorem dL_law_1274 : decode cL_law 1274 = .ok (.iaload, 1) := by decide +kernel
theorem dL_law_1275 : decode cL_law 1275 = .ok (.aload_n 3, 1) := by decide +kernel
theorem dL_law_1276 : decode cL_law 1276 = .ok (.invokestatic 157, 3) := by decide +kernel
theorem dL_law_1279 : decode cL_law 1279 = .ok (.istore 5, 2) := by decide +kernel
theorem dL_law_1281 : decode cL_law 1281 = .ok (.aload_n 2, 1) := by decide +kernel
theorem dL_law_1282 : decode cL_law 1282 = .ok (.aload_n 0, 1) := by decide +kernel
theorem dL_law_1283 : decode cL_law 1283 = .ok (.iload 4, 2) := by decide +kernel
theorem dL_law_1285 : decode cL_law 1285 = .ok (.iconst 1, 1) := by decide +kernel
theorem dL_law_1286 : decode cL_law 1286 = .ok (.iadd, 1) := by decide +kernel
theorem dL_law_1287 : decode cL_law 1287 = .ok (.iaload, 1) := by decide +kernel
theorem dL_law_1288 : decode cL_law 1288 = .ok (.invokevirtual 159, 3) := by decide +kernel
theorem dL_law_1291 : decode cL_law 1291 = .ok (.istore 6, 2) := by decide +kernel
theorem dL_law_1293 : decode cL_law 1293 = .ok (.aload_n 2, 1) := by decide +kernel
theorem dL_law_1294 : decode cL_law 1294 = .ok (.invokevirtual 85, 3) := by decide +kernel
theorem dL_law_1297 : decode cL_law 1297 = .ok (.iload 5, 2) := by decide +kernel
theorem dL_law_1299 : decode cL_law 1299 = .ok (.if_icmp .eq 5, 3) := by decide +kernel
theorem dL_law_1302 : decode cL_law 1302 = .ok (.iconst 0, 1) := by decide +kernel
theorem dL_law_1303 : decode cL_law 1303 = .ok (.ireturn, 1) := by decide +kernel
theorem dL_law_1304 : decode cL_law 1304 = .ok (.iload 5, 2) := by decide +kernel
theorem dL_law_1306 : decode cL_law 1306 = .ok (.ifCond .ne 15, 3) := by decide +kernel
theorem dL_law_1309 : decode cL_law 1309 = .ok (.aload_n 3, 1) := by decide +kernel
theorem dL_law_1310 : decode cL_law 1310 = .ok (.iconst 0, 1) := by decide +kernel
theorem dL_law_1311 : decode cL_law 1311 = .ok (.laload, 1) := by decide +kernel
theorem dL_law_1312 : decode cL_law 1312 = .ok (.iload 6, 2) := by decide +kernel
theorem dL_law_1314 : decode cL_law 1314 = .ok (.i2l, 1) := by decide +kernel
theorem dL_law_1315 : decode cL_law 1315 = .ok (.lcmp, 1) := by decide +kernel
theorem dL_law_1316 : decode cL_law 1316 = .ok (.ifCond .eq 5, 3) := by decide +kernel
theorem dL_law_1319 : decode cL_law 1319 = .ok (.iconst 0, 1) := by decide +kernel
theorem dL_law_1320 : decode cL_law 1320 = .ok (.ireturn, 1) := by decide +kernel
theorem dL_law_1321 : decode cL_law 1321 = .ok (.goto 84, 3) := by decide +kernel
theorem dL_law_1324 : decode cL_law 1324 = .ok (.aload_n 1, 1) := by decide +kernel
theorem dL_law_1325 : decode cL_law 1325 = .ok (.invokevirtual 160, 3) := by decide +kernel
theorem dL_law_1328 : decode cL_law 1328 = .ok (.aload_n 2, 1) := by decide +kernel
theorem dL_law_1329 : decode cL_law 1329 = .ok (.invokevirtual 163, 3) := by decide +kernel
theorem dL_law_1332 : decode cL_law 1332 = .ok (.if_icmp .eq 73, 3) := by decide +kernel
theorem dL_law_1335 : decode cL_law 1335 = .ok (.iconst 0, 1) := by decide +kernel
theorem dL_law_1336 : decode cL_law 1336 = .ok (.ireturn, 1) := by decide +kernel
theorem dL_law_1337 : decode cL_law 1337 = .ok (.aload_n 1, 1) := by decide +kernel
theorem dL_law_1338 : decode cL_law 1338 = .ok (.invokevirtual 164, 3) := by decide +kernel
theorem dL_law_1341 : decode cL_law 1341 = .ok (.aload_n 2, 1) := by decide +kernel
theorem dL_law_1342 : decode cL_law 1342 = .ok (.invokevirtual 167, 3) := by decide +kernel
theorem dL_law_1345 : decode cL_law 1345 = .ok (.if_icmp .eq 60, 3) := by decide +kernel
theorem dL_law_1348 : decode cL_law 1348 = .ok (.iconst 0, 1) := by decide +kernel
theorem dL_law_1349 : decode cL_law 1349 = .ok (.ireturn, 1) := by decide +kernel
theorem dL_law_1350 : decode cL_law 1350 = .ok (.aload_n 1, 1) := by decide +kernel
theorem dL_law_1351 : decode cL_law 1351 = .ok (.invokevirtual 168, 3) := by decide +kernel
theorem dL_law_1354 : decode cL_law 1354 = .ok (.dstore 5, 2) := by decide +kernel
theorem dL_law_1356 : decode cL_law 1356 = .ok (.aload_n 2, 1) := by decide +kernel
theorem dL_law_1357 : decode cL_law 1357 = .ok (.invokevirtual 172, 3) := by decide +kernel
theorem dL_law_1360 : decode cL_law 1360 = .ok (.dstore 7, 2) := by decide +kernel
theorem dL_law_1362 : decode cL_law 1362 = .ok (.dload 5, 2) := by decide +kernel
theorem dL_law_1364 : decode cL_law 1364 = .ok (.dload 7, 2) := by decide +kernel
theorem dL_law_1366 : decode cL_law 1366 = .ok (.dcmp .l, 1) := by decide +kernel
theorem dL_law_1367 : decode cL_law 1367 = .ok (.ifCond .eq 21, 3) := by decide +kernel
theorem dL_law_1370 : decode cL_law 1370 = .ok (.dload 5, 2) := by decide +kernel
theorem dL_law_1372 : decode cL_law 1372 = .ok (.dload 5, 2) := by decide +kernel
theorem dL_law_1374 : decode cL_law 1374 = .ok (.dcmp .l, 1) := by decide +kernel
theorem dL_law_1375 : decode cL_law 1375 = .ok (.ifCond .eq 11, 3) := by decide +kernel
theorem dL_law_1378 : decode cL_law 1378 = .ok (.dload 7, 2) := by decide +kernel
theorem dL_law_1380 : decode cL_law 1380 = .ok (.dload 7, 2) := by decide +kernel
theorem dL_law_1382 : decode cL_law 1382 = .ok (.dcmp .l, 1) := by decide +kernel
theorem dL_law_1383 : decode cL_law 1383 = .ok (.ifCond .ne 5, 3) := by decide +kernel
theorem dL_law_1386 : decode cL_law 1386 = .ok (.iconst 0, 1) := by decide +kernel
theorem dL_law_1387 : decode cL_law 1387 = .ok (.ireturn, 1) := by decide +kernel
theorem dL_law_1388 : decode cL_law 1388 = .ok (.goto 17, 3) := by decide +kernel
theorem dL_law_1391 : decode cL_law 1391 = .ok (.aload_n 1, 1) := by decide +kernel
theorem dL_law_1392 : decode cL_law 1392 = .ok (.invokevirtual 173, 3) := by decide +kernel
theorem dL_law_1395 : decode cL_law 1395 = .ok (.aload_n 2, 1) := by decide +kernel
theorem dL_law_1396 : decode cL_law 1396 = .ok (.invokevirtual 177, 3) := by decide +kernel
theorem dL_law_1399 : decode cL_law 1399 = .ok (.lcmp, 1) := by decide +kernel
theorem dL_law_1400 : decode cL_law 1400 = .ok (.ifCond .eq 5, 3) := by decide +kernel
theorem dL_law_1403 : decode cL_law 1403 = .ok (.iconst 0, 1) := by decide +kernel
theorem dL_law_1404 : decode cL_law 1404 = .ok (.ireturn, 1) := by decide +kernel
theorem dL_law_1405 : decode cL_law 1405 = .ok (.iinc 4 3, 3) := by decide +kernel
theorem dL_law_1408 : decode cL_law 1408 = .ok (.goto (-1385), 3) := by decide +kernel
theorem dL_law_1411 : decode cL_law 1411 = .ok (.iconst 1, 1) := by decide +kernel
theorem dL_law_1412 : decode cL_law 1412 = .ok (.ireturn, 1) := by decide +kernel
end
section
/-! A LAYER OF OUR OWN over the kit's walk: numbers are mathematical integers, references are numbers of cells, the heap is a table of
kinds (T) and a table of contents (v). M: the machine at a place of a method; Runs: a method's contract, exact. -/
-- the words that every method may use
def GW : List Cond := lw_tbl.filter goodWord
theorem GW_good : ∀ w ∈ GW, goodWord w = true := fun w h => (List.mem_filter.mp h).2
theorem GW_in {w : Cond} (h : w ∈ lw_tbl) (g : goodWord w = true) : w ∈ GW := List.mem_filter.mpr ⟨h, g⟩
theorem GW_t {w : Cond} {i : Nat} (h : tables_1[i]? = some w) (g : goodWord w = true) : w ∈ GW := GW_in (List.mem_append_right _ (List.mem_of_getElem? h)) g
theorem GW_p {w : Cond} {i : Nat} (h : (k2_sels lw_privs)[i]? = some w) (g : goodWord w = true) : w ∈ GW := GW_in (List.mem_append_left _ (List.mem_of_getElem? h)) g
-- values
abbrev MV : Type := Int ⊕ (Int ⊕ (UInt64 ⊕ Int))
abbrev vI (x : Int) : MV := .inl x
abbrev vJ (x : Int) : MV := .inr (.inl x)
abbrev vD (x : UInt64) : MV := .inr (.inr (.inl x))
abbrev vR (x : Int) : MV := .inr (.inr (.inr x))
def rf (b : Nat) (i : Int) : Value := if i < 0 then .null else .ref (b + i.toNat)
def tv (b : Nat) : MV → Value
  | .inl x => .int (Int32.ofInt x)
  | .inr (.inl x) => .long (Int64.ofInt x)
  | .inr (.inr (.inl x)) => .double x
  | .inr (.inr (.inr i)) => rf b i
theorem rf_pos {b : Nat} {i : Int} (h : 0 ≤ i) : rf b i = .ref (b + i.toNat) := by
  unfold rf
  rw [if_neg (by omega)]
theorem rf_neg {b : Nat} {i : Int} (h : i < 0) : rf b i = .null := by
  unfold rf
  rw [if_pos h]
def mc2 : MV → Bool
  | .inr (.inl _) => true
  | .inr (.inr (.inl _)) => true
  | _ => false
theorem tv_cat (b : Nat) (x : MV) : (tv b x).category = if mc2 x = true then 2 else 1 := by
  rcases x with x | x | x | x
  · rfl
  · rfl
  · rfl
  · show (rf b x).category = 1
    unfold rf
    split <;> rfl
-- locals
def lvl (b : Nat) : Nat → List (Option MV) → List (Nat × Value)
  | _, [] => []
  | i, none :: t => lvl b (i + 1) t
  | i, some x :: t => (i, tv b x) :: lvl b (i + 1) t
theorem lvl_mem {b : Nat} {L : List (Option MV)} : ∀ {i j : Nat} {x : MV}, L[j]? = some (some x) → (i + j, tv b x) ∈ lvl b i L := by
  induction L with
  | nil => intro i j x h; simp at h
  | cons a t ih =>
    intro i j x h
    cases j with
    | zero =>
      simp only [List.getElem?_cons_zero, Option.some.injEq] at h
      subst h
      exact List.mem_cons_self
    | succ j =>
      simp only [List.getElem?_cons_succ] at h
      have h2 := ih (i := i + 1) h
      rw [show i + 1 + j = i + (j + 1) by omega] at h2
      cases a with
      | none => exact h2
      | some a => exact List.mem_cons_of_mem _ h2
theorem lvl_of {b : Nat} {L : List (Option MV)} : ∀ {i : Nat} {q : Nat × Value}, q ∈ lvl b i L → ∃ j x, L[j]? = some (some x) ∧ q = (i + j, tv b x) := by
  induction L with
  | nil => intro i q h; cases h
  | cons a t ih =>
    intro i q h
    cases a with
    | none =>
      obtain ⟨j, x, h1, h2⟩ := ih (i := i + 1) h
      exact ⟨j + 1, x, by simpa using h1, by rw [h2]; congr 1; omega⟩
    | some a =>
      rcases List.mem_cons.mp h with h | h
      · exact ⟨0, a, rfl, h⟩
      · obtain ⟨j, x, h1, h2⟩ := ih (i := i + 1) h
        exact ⟨j + 1, x, by simpa using h1, by rw [h2]; congr 1; omega⟩
def LH (b : Nat) (ls : Array Slot) (n : Nat) (L : List (Option MV)) : Prop := L.length = n ∧ lv_has ls n (lvl b 0 L)
theorem LH.at {b : Nat} {ls : Array Slot} {n : Nat} {L : List (Option MV)} (h : LH b ls n L) {i : Nat} {x : MV} (hi : L[i]? = some (some x)) : ls[i]? = some (.val (tv b x)) := by
  have h1 := h.2.2.2 _ (lvl_mem (b := b) (i := 0) hi)
  simpa using h1
theorem LH.of {b : Nat} {ls : Array Slot} {n : Nat} {L : List (Option MV)} {lv : List (Nat × Value)} (hn : L.length = n) (h : lv_has ls n lv) (hs : ∀ j x, L[j]? = some (some x) → (j, tv b x) ∈ lv) : LH b ls n L := by
  refine ⟨hn, h.1, h.2.1, fun q hq => ?_⟩
  obtain ⟨j, x, h1, h2⟩ := lvl_of hq
  rw [h2]
  have h3 := h.2.2 _ (hs j x h1)
  simpa using h3
def oc2 : Option MV → Bool
  | some x => mc2 x
  | none => false
def un (L : List (Option MV)) (i : Nat) : List (Option MV) := match i with
  | 0 => L
  | k + 1 => if oc2 (L.getD k none) = true then L.set k none else L
def sL1 (L : List (Option MV)) (i : Nat) (x : MV) : List (Option MV) := (un L i).set i (some x)
def sL2 (L : List (Option MV)) (i : Nat) (x : MV) : List (Option MV) := ((un L i).set i (some x)).set (i + 1) none
theorem un_len (L : List (Option MV)) (i : Nat) : (un L i).length = L.length := by
  unfold un
  split
  · rfl
  · split
    · simp
    · rfl
theorem un_at {L : List (Option MV)} {i j : Nat} {y : MV} (h : (un L i)[j]? = some (some y)) : L[j]? = some (some y) ∧ (j + 1 = i → mc2 y = false) := by
  unfold un at h
  split at h
  · exact ⟨h, fun e => by omega⟩
  · rename_i k
    split at h
    · rename_i hc
      by_cases hj : j = k
      · subst hj
        rw [List.getElem?_set_self' ] at h
        cases hl : L[j]? with
        | none => rw [hl] at h; cases h
        | some z => rw [hl] at h; cases h
      · rw [List.getElem?_set_ne (fun e => hj e.symm)] at h
        exact ⟨h, fun e => absurd (by omega) hj⟩
    · rename_i hc
      refine ⟨h, fun e => ?_⟩
      have e2 : j = k := by omega
      subst e2
      rw [List.getD_eq_getElem?_getD, h] at hc
      simpa [oc2] using hc
theorem LH.st1 {b : Nat} {ls : Array Slot} {n : Nat} {L : List (Option MV)} {i : Nat} {x : MV} (hn : L.length = n)
    (h : lv_has ls n ((i, tv b x) :: (lvl b 0 L).filter (fun q => !(q.1 == i) && !(q.1 + 1 == i && q.2.category == 2)))) : LH b ls n (sL1 L i x) := by
  refine LH.of (by unfold sL1; rw [List.length_set, un_len]; exact hn) h fun j y hy => ?_
  unfold sL1 at hy
  by_cases hj : j = i
  · subst hj
    rw [List.getElem?_set_self'] at hy
    cases hl : (un L j)[j]? with
    | none => rw [hl] at hy; cases hy
    | some z => rw [hl] at hy; cases hy; exact List.mem_cons_self
  · rw [List.getElem?_set_ne (fun e => hj e.symm)] at hy
    obtain ⟨h1, h2⟩ := un_at hy
    refine List.mem_cons_of_mem _ (List.mem_filter.mpr ⟨by simpa using lvl_mem (b := b) (i := 0) h1, ?_⟩)
    by_cases e : j + 1 = i
    · have h3 := tv_cat b y
      rw [h2 e] at h3
      simp [hj, h3]
    · simp [hj, e]
theorem LH.st2 {b : Nat} {ls : Array Slot} {n : Nat} {L : List (Option MV)} {i : Nat} {x : MV} (hn : L.length = n)
    (h : lv_has ls n ((i, tv b x) :: (lvl b 0 L).filter (fun q => !(q.1 == i) && (!(q.1 == i + 1) && !(q.1 + 1 == i && q.2.category == 2))))) : LH b ls n (sL2 L i x) := by
  refine LH.of (by unfold sL2; rw [List.length_set, List.length_set, un_len]; exact hn) h fun j y hy => ?_
  unfold sL2 at hy
  by_cases hj1 : j = i + 1
  · subst hj1
    rw [List.getElem?_set_self'] at hy
    cases hl : ((un L i).set i (some x))[i + 1]? with
    | none => rw [hl] at hy; cases hy
    | some z => rw [hl] at hy; cases hy
  · rw [List.getElem?_set_ne (fun e => hj1 e.symm)] at hy
    by_cases hj : j = i
    · subst hj
      rw [List.getElem?_set_self'] at hy
      cases hl : (un L j)[j]? with
      | none => rw [hl] at hy; cases hy
      | some z => rw [hl] at hy; cases hy; exact List.mem_cons_self
    · rw [List.getElem?_set_ne (fun e => hj e.symm)] at hy
      obtain ⟨h1, h2⟩ := un_at hy
      refine List.mem_cons_of_mem _ (List.mem_filter.mpr ⟨by simpa using lvl_mem (b := b) (i := 0) h1, ?_⟩)
      by_cases e : j + 1 = i
      · have h3 := tv_cat b y
        rw [h2 e] at h3
        simp [hj, hj1, h3]
      · simp [hj, hj1, e]
-- a method's first locals
def entL : List MV → List (Option MV)
  | [] => []
  | x :: t => if mc2 x = true then some x :: none :: entL t else some x :: entL t
theorem entL_in {b : Nat} {as : List MV} : ∀ {i j : Nat} {x : MV}, (entL as)[j]? = some (some x) → (i + j, tv b x) ∈ lv_args i (as.map (tv b)) := by
  induction as with
  | nil => intro i j x h; simp [entL] at h
  | cons a t ih =>
    intro i j x h
    unfold entL at h
    rw [List.map_cons]
    unfold lv_args
    rw [tv_cat]
    split at h
    · rename_i hc
      rw [hc]
      match j, h with
      | 0, h => cases h; exact List.mem_cons_self
      | 1, h => simp at h
      | j + 2, h =>
        have h2 := ih (i := i + 2) (j := j) (x := x) (by simpa using h)
        refine List.mem_cons_of_mem _ ?_
        rw [show i + (j + 2) = i + 2 + j by omega]
        simpa using h2
    · rename_i hc
      match j, h with
      | 0, h => cases h; exact List.mem_cons_self
      | j + 1, h =>
        have h2 := ih (i := i + 1) (j := j) (x := x) (by simpa using h)
        refine List.mem_cons_of_mem _ ?_
        rw [show i + (j + 1) = i + 1 + j by omega]
        simpa [hc] using h2
theorem entL_len (b : Nat) (as : List MV) : (lg_sl (as.map (tv b))).length = (entL as).length := by
  induction as with
  | nil => rfl
  | cons a t ih =>
    rw [List.map_cons]
    unfold entL
    have h : lg_sl (tv b a :: List.map (tv b) t) = (if (tv b a).category = 2 then [Slot.val (tv b a), .second] else [.val (tv b a)]) ++ lg_sl (List.map (tv b) t) := by simp [lg_sl]
    rw [h, List.length_append, ih, tv_cat]
    split <;> simp_all <;> omega
def ent (as : List MV) (n : Nat) : List (Option MV) := entL as ++ List.replicate (n - (entL as).length) none
theorem LH.entry {b : Nat} {as : List MV} {n : Nat} (h : (entL as).length ≤ n) : LH b ((lg_sl (as.map (tv b)) ++ List.replicate (n - (lg_sl (as.map (tv b))).length) Slot.unset).toArray) n (ent as n) := by
  refine LH.of (by unfold ent; rw [List.length_append, List.length_replicate]; omega) (lv_entry (as.map (tv b)) (n := n) (by rw [entL_len]; exact h)) fun j x hj => ?_
  unfold ent at hj
  by_cases hl : j < (entL as).length
  · rw [List.getElem?_append_left hl] at hj
    simpa using entL_in (b := b) (i := 0) hj
  · rw [List.getElem?_append_right (by omega), List.getElem?_replicate] at hj
    split at hj
    · cases hj
    · cases hj
end
section
-- numbers
abbrev i32 (x : Int) : Prop := -2147483648 ≤ x ∧ x < 2147483648
theorem i32_to {x : Int} (h : i32 x) : (Int32.ofInt x).toInt = x := by
  rw [Int32.toInt_ofInt]
  exact Int.bmod_eq_of_le (show -((4294967296 : Nat) : Int) / 2 ≤ x by omega) (show x < (((4294967296 : Nat) : Int) + 1) / 2 by omega)
theorem ofInt_le {x y : Int} (hx : i32 x) (hy : i32 y) : Int32.ofInt x ≤ Int32.ofInt y ↔ x ≤ y := by
  rw [Int32.le_iff_toInt_le, i32_to hx, i32_to hy]
theorem ofInt_lt {x y : Int} (hx : i32 x) (hy : i32 y) : Int32.ofInt x < Int32.ofInt y ↔ x < y := by
  rw [Int32.lt_iff_toInt_lt, i32_to hx, i32_to hy]
theorem ofInt_inj {x y : Int} (hx : i32 x) (hy : i32 y) : Int32.ofInt x = Int32.ofInt y ↔ x = y := by
  rw [← Int32.toInt_inj, i32_to hx, i32_to hy]
theorem ofInt_nat {x : Int} (h : 0 ≤ x ∧ x < 2147483648) : (Int32.ofInt x).toNatClampNeg = x.toNat := by
  rw [Int32.toNatClampNeg, i32_to ⟨by omega, by omega⟩]
theorem ofInt_neg {x : Int} (h : 0 ≤ x ∧ x < 2147483648) : ¬ Int32.ofInt x < 0 := by
  rw [show (0 : Int32) = Int32.ofInt 0 from rfl, ofInt_lt ⟨by omega, by omega⟩ ⟨by omega, by omega⟩]
  omega
theorem ofInt_div {x y : Int} (hx : 0 ≤ x ∧ x < 2147483648) (hy : 0 < y ∧ y < 2147483648) : Int32.ofInt x / Int32.ofInt y = Int32.ofInt (x / y) := by
  rw [← Int32.toInt_inj, Int32.toInt_div, i32_to ⟨by omega, by omega⟩, i32_to ⟨by omega, by omega⟩]
  have h1 : 0 ≤ x / y := Int.ediv_nonneg hx.1 (by omega)
  have h2 : x / y ≤ x := Int.ediv_le_self y hx.1
  rw [i32_to ⟨by omega, by omega⟩, Int.tdiv_eq_ediv_of_nonneg hx.1]
  exact Int.bmod_eq_of_le (by omega) (by omega)
theorem ofInt_add (x y : Int) : Int32.ofInt x + Int32.ofInt y = Int32.ofInt (x + y) := (Int32.ofInt_add x y).symm
theorem ofInt_sub (x y : Int) : Int32.ofInt x - Int32.ofInt y = Int32.ofInt (x - y) := (Int32.ofInt_sub x y).symm
theorem ofInt_mul (x y : Int) : Int32.ofInt x * Int32.ofInt y = Int32.ofInt (x * y) := (Int32.ofInt_mul x y).symm
theorem ofInt_rem {x y : Int} (hx : 0 ≤ x ∧ x < 2147483648) (hy : 0 < y ∧ y < 2147483648) : Int32.ofInt x - Int32.ofInt x / Int32.ofInt y * Int32.ofInt y = Int32.ofInt (x % y) := by
  rw [ofInt_div hx hy, ofInt_mul, ofInt_sub]
  congr 1
  have h := Int.mul_ediv_add_emod x y
  rw [Int.mul_comm] at h
  omega
theorem lofInt_add (x y : Int) : Int64.ofInt x + Int64.ofInt y = Int64.ofInt (x + y) := (Int64.ofInt_add x y).symm
theorem lofInt_mul (x y : Int) : Int64.ofInt x * Int64.ofInt y = Int64.ofInt (x * y) := (Int64.ofInt_mul x y).symm
theorem i2l_of {x : Int} (h : i32 x) : (Int32.ofInt x).toInt64 = Int64.ofInt x := by
  rw [← Int64.toInt_inj, Int32.toInt_toInt64, i32_to h, Int64.toInt_ofInt]
  exact (Int.bmod_eq_of_le (show -(((18446744073709551616 : Nat) : Int) / 2) ≤ x by omega) (show x < (((18446744073709551616 : Nat) : Int) + 1) / 2 by omega)).symm
-- the heap's tables
abbrev Ty : Type := Nat → Nat × Nat × (Nat → Int)
abbrev Ct : Type := Nat → Nat → Int
abbrev DL : Type := va_G × (ClassId × ClassId × ClassId × ClassId)
def up (v : Ct) (i j : Nat) (x : Int) : Ct := fun a b => if a = i ∧ b = j then x else v a b
def upL (T : Ty) (i j : Nat) (x : Int) : Ty := fun a => if a = i then ((T a).1, (T a).2.1, fun b => if b = j then x else (T a).2.2 b) else T a
def newT (T : Ty) (N k n : Nat) : Ty := fun a => if a = N then (k, n, fun _ => -1) else T a
def newV (v : Ct) (N : Nat) (z : Int) : Ct := fun a => if a = N then fun _ => z else v a
/-- is field k of class c an int? -/
def fldI (c k : Nat) : Bool := match vwCl[c]? with
  | some r => (r.2.1 k).2.2.1 == "I"
  | none => false
def objV (b c : Nat) (lk f : Nat → Int) (k : Nat) : Value := if fldI c k = true then .int (Int32.ofInt (f k)) else rf b (lk k)
/-- what the cell a of the heap H is: nothing known, int[], boolean[], long[], Disk[], an object -/
def cellR (b : Nat) (δ : DL) (t : Nat × Nat × (Nat → Int)) (f : Nat → Int) (a : Nat) (H : Heap) : Prop := match t.1 with
  | 0 => True
  | 1 => H[a]? = some (arrV δ.2.1 t.2.1 (fun j => .int (Int32.ofInt (f j))))
  | 2 => H[a]? = some (arrV δ.2.2.1 t.2.1 (fun j => .int (Int32.ofInt (f j))))
  | 3 => H[a]? = some (arrV δ.2.2.2.1 t.2.1 (fun j => .long (Int64.ofInt (f j))))
  | 4 => H[a]? = some (arrV δ.2.2.2.2 t.2.1 (fun j => rf b (f j)))
  | c + 5 => ∃ r : vw_C, vwCl[c]? = some r ∧ t_OB a (δ.1.1 c) r.2.2 (δ.1.2 c) H (objV b c t.2.2 f)
theorem cellR.kept {b : Nat} {δ : DL} {t : Nat × Nat × (Nat → Int)} {f : Nat → Int} {a : Nat} {H H1 : Heap} (h : cellR b δ t f a H) (hq : H1[a]? = H[a]?) : cellR b δ t f a H1 := by
  unfold cellR at h ⊢
  split at h
  · trivial
  · rw [hq]; exact h
  · rw [hq]; exact h
  · rw [hq]; exact h
  · rw [hq]; exact h
  · obtain ⟨r, h1, h2⟩ := h
    exact ⟨r, h1, h2.kept hq⟩
def Rep (b : Nat) (δ : DL) (N : Nat) (T : Ty) (v : Ct) (H : Heap) : Prop := H.size = b + N ∧ (∀ i j, i32 (v i j)) ∧ ∀ i, (T i).1 ≠ 0 → i < N ∧ cellR b δ (T i) (v i) (b + i) H
theorem up_i32 {v : Ct} (h : ∀ i j, i32 (v i j)) {x : Int} (hx : i32 x) (i j : Nat) : ∀ a c, i32 (up v i j x a c) := by
  intro a c
  unfold up
  split
  · exact hx
  · exact h a c
/-- one cell anew, its kind as it was -/
theorem Rep.set {b : Nat} {δ : DL} {N : Nat} {T T' : Ty} {v v' : Ct} {H H1 : Heap} {i : Nat} (h : Rep b δ N T v H) (hi : (T i).1 ≠ 0) (z : H1.size = H.size) (oq : ∀ q : Nat, q ≠ b + i → H1[q]? = H[q]?)
    (hT : ∀ a, a ≠ i → T' a = T a) (hv : ∀ a, a ≠ i → v' a = v a) (hr : ∀ i j, i32 (v' i j)) (hc : cellR b δ (T' i) (v' i) (b + i) H1) : Rep b δ N T' v' H1 := by
  refine ⟨z.trans h.1, hr, fun a ha => ?_⟩
  by_cases e : a = i
  · subst e
    exact ⟨(h.2.2 a hi).1, hc⟩
  · rw [hT a e] at ha ⊢
    rw [hv a e]
    obtain ⟨h1, h2⟩ := h.2.2 a ha
    exact ⟨h1, h2.kept (oq _ (by omega))⟩
/-- one cell more -/
theorem Rep.push {b : Nat} {δ : DL} {N : Nat} {T : Ty} {v : Ct} {H H1 : Heap} {t : Nat × Nat × (Nat → Int)} {f : Nat → Int} {T' : Ty} {v' : Ct} (h : Rep b δ N T v H) (z : H1.size = H.size + 1) (oq : ∀ q : Nat, q < H.size → H1[q]? = H[q]?)
    (hT : ∀ a, T' a = if a = N then t else T a) (hv : ∀ a, v' a = if a = N then f else v a) (hf : ∀ j, i32 (f j)) (hc : cellR b δ t f (b + N) H1) : Rep b δ (N + 1) T' v' H1 := by
  refine ⟨by rw [z, h.1]; omega, fun i j => ?_, fun a ha => ?_⟩
  · rw [hv]
    split
    · exact hf j
    · exact h.2.1 i j
  · by_cases e : a = N
    · subst e
      rw [hT, if_pos rfl, hv, if_pos rfl]
      exact ⟨by omega, hc⟩
    · rw [hT, if_neg e] at ha ⊢
      rw [hv, if_neg e]
      obtain ⟨h1, h2⟩ := h.2.2 a ha
      exact ⟨by omega, h2.kept (oq _ (by rw [h.1]; omega))⟩
-- the tables, and what a throw needs
def KK (δ : DL) (U : State) : Prop := va_K δ.1 vwCl [(δ.2.1, .int), (δ.2.2.1, .boolean), (δ.2.2.2.1, .long), (δ.2.2.2.2, .object RX0)] U
def AB (b : Nat) : Nat → Prop := fun q => b ≤ q
def strs : List (Nat × String) := [(293, "an argument is out of range"), (286, "there is no such file"), (291, "there is no such block"), (89, "the block is bad already"), (97, "the block is not bad"), (103, "a broken file has something there"), (126, "the buffer is full"), (147, "the buffer tells no files"), (159, "the slot is empty"), (164, "no state is saved"), (177, "the file has no such cell")]
def wk (w : Cond) : Bool := match w with
  | .declares _ => true
  | .castable _ _ => true
  | .fieldLinkNest _ _ _ _ _ _ => true
  | .methodLinkNest _ _ _ _ => true
  | _ => false
/-- words that stay true as the tables warm, beside the good ones -/
def OW : List Cond := lw_tbl.filter wk
theorem OW_t {w : Cond} {i : Nat} (h : tables_1[i]? = some w) (g : wk w = true) : w ∈ OW := List.mem_filter.mpr ⟨List.mem_append_right _ (List.mem_of_getElem? h), g⟩
theorem OW_warm {w : Cond} (hw : w ∈ OW) {s U : State} (hW : s.WarmedH U.vm) (h : va_Nw w s) : va_Nw w U := by
  have h1 := (List.mem_filter.mp hw).2
  unfold wk at h1
  split at h1
  · exact va_Nw.warmD hW h
  · exact va_Nw.warmC hW h
  · exact va_Nw.warmF hW h
  · exact va_Nw.warmM hW h
  · cases h1
/-- pairs of classes that aren't castable -/
def ncs : List (String × String) := [("TailBlocks", "java/lang/IllegalArgumentException"), ("TailBlocks$Disk", "java/lang/IllegalArgumentException"), ("TailBlocks$History", "java/lang/IllegalArgumentException"), ("TailBlocks$Text", "java/lang/IllegalArgumentException"), ("TailBlocks$Orders", "java/lang/IllegalArgumentException"), ("TailBlocks$Packer", "java/lang/IllegalArgumentException"), ("TailBlocks$Tails", "java/lang/IllegalArgumentException"), ("TailBlocks$Fewest", "java/lang/IllegalArgumentException"), ("TailBlocksModel", "java/lang/IllegalArgumentException"), ("java/lang/IndexOutOfBoundsException", "java/lang/IllegalArgumentException"), ("java/lang/IllegalStateException", "java/lang/IllegalArgumentException"), ("TailBlocks", "java/lang/IndexOutOfBoundsException"), ("TailBlocks$Disk", "java/lang/IndexOutOfBoundsException"), ("TailBlocks$History", "java/lang/IndexOutOfBoundsException"), ("TailBlocks$Text", "java/lang/IndexOutOfBoundsException"), ("TailBlocks$Orders", "java/lang/IndexOutOfBoundsException"), ("TailBlocks$Packer", "java/lang/IndexOutOfBoundsException"), ("TailBlocks$Tails", "java/lang/IndexOutOfBoundsException"), ("TailBlocks$Fewest", "java/lang/IndexOutOfBoundsException"), ("TailBlocksModel", "java/lang/IndexOutOfBoundsException"), ("java/lang/IllegalArgumentException", "java/lang/IndexOutOfBoundsException"), ("java/lang/IllegalStateException", "java/lang/IndexOutOfBoundsException"), ("TailBlocks", "java/lang/IllegalStateException"), ("TailBlocks$Disk", "java/lang/IllegalStateException"), ("TailBlocks$History", "java/lang/IllegalStateException"), ("TailBlocks$Text", "java/lang/IllegalStateException"), ("TailBlocks$Orders", "java/lang/IllegalStateException"), ("TailBlocks$Packer", "java/lang/IllegalStateException"), ("TailBlocks$Tails", "java/lang/IllegalStateException"), ("TailBlocks$Fewest", "java/lang/IllegalStateException"), ("TailBlocksModel", "java/lang/IllegalStateException"), ("java/lang/IllegalArgumentException", "java/lang/IllegalStateException"), ("java/lang/IndexOutOfBoundsException", "java/lang/IllegalStateException")]
def EX (b : Nat) (U : State) (H : Heap) : Prop := vx_Zq Bundle.tN "UNASSIGNED_STACK" Bundle.steD (AB b) U H ∧ vx_Zq Bundle.tN "SUPPRESSED_SENTINEL" Bundle.listD (AB b) U H ∧ (∀ q ∈ strs, ∃ a, vk_R RX7 q.1 q.2 a U) ∧ (∀ w ∈ OW, va_Nw w U) ∧ ∀ q ∈ ncs, va_Nc q.1 q.2 U
theorem EX.to {b : Nat} {s U : State} {H H1 : Heap} (h : EX b s H) (hW : s.WarmedH U.vm) (hq : ∀ a : Nat, a < H.size → ¬ AB b a → H1[a]? = H[a]?) : EX b U H1 :=
  ⟨(h.1.kept hq).moved hW.alike, (h.2.1.kept hq).moved hW.alike, fun q m => by obtain ⟨a, ha⟩ := h.2.2.1 q m; exact ⟨a, vk_R.warm hW ha⟩, fun w m => OW_warm m hW (h.2.2.2.1 w m), fun q m => va_Nc.moved hW.alike (h.2.2.2.2 q m)⟩
theorem EX.calling {b : Nat} {U : State} {H : Heap} {g : JFrame} {mk : MethodId} {a : Array Value} (h : EX b U H) : EX b (U.calling g mk a) H :=
  h.to (U := U.calling g mk a) (State.WarmedH.refl U) (fun _ _ _ => rfl)
theorem EX.ow {b : Nat} {U : State} {H : Heap} (h : EX b U H) {w : Cond} (hw : w ∈ OW) {A : Array Value} : w.before A U = true := by
  have h1 := (List.mem_filter.mp hw).2
  refine va_Nw.use ?_ (h.2.2.2.1 w hw)
  unfold wk at h1
  split at h1 <;> first | rfl | cases h1
-- the judgement
abbrev KX : Type := Program × Launch × Env × Room × State × MethodId × Array Value × List Frame × Method × Code × Nat × DL
abbrev MD : Type := MethodName × ByteArray × Nat × Option FieldType
def M (κ : KX) (N : Nat) (T : Ty) (pc : Nat) (L : List (Option MV)) (st : List MV) (v : Ct) (k n : Nat) (Q : State → Prop) : Prop := match κ with
  | (p, l, e, R, s, m, args, below, meth, c, b, δ) => ∀ (H : Heap) (locs : List Loc) (ls : Array Slot), Rep b δ N T v H → va_S (AB b) s.heap H locs → LH b ls c.maxLocals L →
    W p l e R s m args below meth c H locs k n Q (F0 m pc ls (st.map (tv b)))
def CX (κ : KX) (Y : MD) (d mc ms : Nat) : Prop := match κ with
  | (p, l, e, R, s, m, args, below, meth, c, b, δ) => p.tables.exec = Jvm.exec ∧ c.code = Y.2.1 ∧ s.vm.findClass Y.1.cls = some m.cls ∧ (∀ w ∈ GW, w.before args s = true) ∧ KK δ s ∧ EX b s s.heap ∧ meth.locks = false ∧ meth.name = Y.1.name ∧
    meth.sig.returnType = Y.2.2.2 ∧ c.maxLocals = Y.2.2.1 ∧ l.stackTraces = false ∧ b ≤ s.heap.size ∧ d ≤ R.frames ∧ 80 * d ≤ R.locals ∧ mc ≤ R.cells ∧ ms ≤ R.slots
def rmd (d mc ms : Nat) : Room := { frames := d, cells := mc, slots := ms, locals := 80 * d }
def wsOf (Y : MD) : List Cond := Cond.code Y.1 Y.2.1 Y.2.2.1 Y.2.2.2 :: GW
def PcR (b : Nat) (δ : DL) (as : List MV) (N : Nat) (T : Ty) (v : Ct) : Array Value → State → Prop := fun a U => a = (as.map (tv b)).toArray ∧ Rep b δ N T v U.heap ∧ KK δ U ∧ EX b U U.heap
def QcR (b : Nat) (δ : DL) (Post : Option MV → Ct → Prop) (N : Nat) (T : Ty) : Array Value → State → Outcome → State → Prop := fun _ st o t => ∃ (r : Option MV) (v : Ct), Post r v ∧ o = .returned (r.map (tv b)) ∧ Rep b δ N T v t.heap ∧ va_F (AB b) st t
/-- the contract of a method that returns: what its answer and the contents are then -/
def RunsP (Y : MD) (d mc ms : Nat) (as : List MV) (N : Nat) (T : Ty) (v : Ct) (N' : Nat) (T' : Ty) (Post : Option MV → Ct → Prop) : Prop :=
  ∀ (l : Launch) (b : Nat) (δ : DL), l.stackTraces = false → Met l Y.1 (wsOf Y) (rmd d mc ms) (PcR b δ as N T v) (QcR b δ Post N' T') mc ms (AB b)
/-- .. exact -/
def Runs (Y : MD) (d mc ms : Nat) (as : List MV) (N : Nat) (T : Ty) (v : Ct) (r : Option MV) (N' : Nat) (T' : Ty) (v' : Ct) : Prop := RunsP Y d mc ms as N T v N' T' (fun r1 v1 => r1 = r ∧ v1 = v')
def QP (κ : KX) (N : Nat) (T : Ty) (Post : Option MV → Ct → Prop) (mc ms : Nat) : State → Prop := match κ with
  | (_, _, _, _, s, _, args, below, _, _, b, δ) => MQ below (QcR b δ Post N T) args s mc ms (AB b)
def QR (κ : KX) (r : Option MV) (N : Nat) (T : Ty) (v : Ct) (mc ms : Nat) : State → Prop := QP κ N T (fun r1 v1 => r1 = r ∧ v1 = v) mc ms
theorem AB.ge {b q : Nat} (h : b ≤ q) : AB b q := h
theorem RunsP.of {Y : MD} {d mc ms : Nat} {as : List MV} {N : Nat} {T : Ty} {v : Ct} {N' : Nat} {T' : Ty} {Post : Option MV → Ct → Prop} (hy : plainName Y.1.cls = true) (hlen : (entL as).length ≤ Y.2.2.1)
    (body : ∀ κ : KX, CX κ Y d mc ms → M κ N T 0 (ent as Y.2.2.1) [] v 0 0 (QP κ N' T' Post mc ms)) : RunsP Y d mc ms as N T v N' T' Post := by
  intro l b δ hst
  refine Met.ofW (cc := Y.2.1) (maxL := Y.2.2.1) (ret := Y.2.2.2) hy rfl ?_
  intro p e s m args below meth c s₁ B hml hv
  obtain ⟨rfl, hR, hK, hE⟩ := hv
  have hts : ∀ w ∈ GW, w.before ((as.map (tv b)).toArray) s = true := fun w h => atoms_spec (ws := wsOf Y) B.pre w (List.mem_cons_of_mem _ h)
  have hbs : b ≤ s.heap.size := by rw [hR.1]; omega
  have C : CX (p, l, e, (headSpec (wsOf Y) (rmd d mc ms)).room, s, m, (as.map (tv b)).toArray, below, meth, c, b, δ) Y d mc ms :=
    ⟨B.exec, B.bytes, findClass_of_methodNamed B.named, hts, hK, hE, B.notSynchronized, (name_of_methodNamed B.named B.method).1, B.returns, hml, hst, hbs, Nat.le_refl _, Nat.le_refl _, Nat.le_refl _, Nat.le_refl _⟩
  rw [lg_entry_eq]
  refine body _ C s.heap [] _ hR va_S.rf ?_
  rw [hml]
  exact LH.entry hlen
theorem Runs.of {Y : MD} {d mc ms : Nat} {as : List MV} {N : Nat} {T : Ty} {v : Ct} {r : Option MV} {N' : Nat} {T' : Ty} {v' : Ct} (hy : plainName Y.1.cls = true) (hlen : (entL as).length ≤ Y.2.2.1)
    (body : ∀ κ : KX, CX κ Y d mc ms → M κ N T 0 (ent as Y.2.2.1) [] v 0 0 (QR κ r N' T' v' mc ms)) : Runs Y d mc ms as N T v r N' T' v' := RunsP.of hy hlen body
section ROWS
variable {κ : KX} {Y : MD} {d mc ms N : Nat} {T : Ty} {pc : Nat} {L : List (Option MV)} {st : List MV} {v : Ct} {k n : Nat} {Q : State → Prop}
theorem M.to {v2 : Ct} {L2 : List (Option MV)} {st2 : List MV} (h : M κ N T pc L2 st2 v2 k n Q) (h1 : L = L2) (h2 : st = st2) (h3 : v = v2) : M κ N T pc L st v k n Q := by
  subst h1 h2 h3
  exact h
theorem M_iload (C : CX κ Y d mc ms) {i : Nat} {x : Int} (hd : decode Y.2.1 pc = .ok (.iload i, 2)) (hl : L[i]? = some (some (vI x))) (kk : M κ N T (pc + 2) L (vI x :: st) v k n Q) : M κ N T pc L st v k n Q := by
  obtain ⟨p, l, e, R, s, m, args, below, meth, c, b, δ⟩ := κ
  obtain ⟨hx, hb, -⟩ := C
  intro H locs ls hR hS hL
  exact lv_iload hx hb hd (hL.at hl) (kk H locs ls hR hS hL)
theorem M_iload_n (C : CX κ Y d mc ms) {i : Fin 4} {x : Int} (hd : decode Y.2.1 pc = .ok (.iload_n i, 1)) (hl : L[(i : Nat)]? = some (some (vI x))) (kk : M κ N T (pc + 1) L (vI x :: st) v k n Q) : M κ N T pc L st v k n Q := by
  obtain ⟨p, l, e, R, s, m, args, below, meth, c, b, δ⟩ := κ
  obtain ⟨hx, hb, -⟩ := C
  intro H locs ls hR hS hL
  exact lv_iload_n hx hb hd rfl (hL.at hl) (kk H locs ls hR hS hL)
theorem M_lload (C : CX κ Y d mc ms) {i : Nat} {x : Int} (hd : decode Y.2.1 pc = .ok (.lload i, 2)) (hl : L[i]? = some (some (vJ x))) (kk : M κ N T (pc + 2) L (vJ x :: st) v k n Q) : M κ N T pc L st v k n Q := by
  obtain ⟨p, l, e, R, s, m, args, below, meth, c, b, δ⟩ := κ
  obtain ⟨hx, hb, -⟩ := C
  intro H locs ls hR hS hL
  exact lv_lload hx hb hd (hL.at hl) (kk H locs ls hR hS hL)
theorem M_lload_n (C : CX κ Y d mc ms) {i : Fin 4} {x : Int} (hd : decode Y.2.1 pc = .ok (.lload_n i, 1)) (hl : L[(i : Nat)]? = some (some (vJ x))) (kk : M κ N T (pc + 1) L (vJ x :: st) v k n Q) : M κ N T pc L st v k n Q := by
  obtain ⟨p, l, e, R, s, m, args, below, meth, c, b, δ⟩ := κ
  obtain ⟨hx, hb, -⟩ := C
  intro H locs ls hR hS hL
  exact lv_lload_n hx hb hd rfl (hL.at hl) (kk H locs ls hR hS hL)
theorem M_dload (C : CX κ Y d mc ms) {i : Nat} {x : UInt64} (hd : decode Y.2.1 pc = .ok (.dload i, 2)) (hl : L[i]? = some (some (vD x))) (kk : M κ N T (pc + 2) L (vD x :: st) v k n Q) : M κ N T pc L st v k n Q := by
  obtain ⟨p, l, e, R, s, m, args, below, meth, c, b, δ⟩ := κ
  obtain ⟨hx, hb, -⟩ := C
  intro H locs ls hR hS hL
  exact lv_dload hx hb hd (hL.at hl) (kk H locs ls hR hS hL)
theorem M_dload_n (C : CX κ Y d mc ms) {i : Fin 4} {x : UInt64} (hd : decode Y.2.1 pc = .ok (.dload_n i, 1)) (hl : L[(i : Nat)]? = some (some (vD x))) (kk : M κ N T (pc + 1) L (vD x :: st) v k n Q) : M κ N T pc L st v k n Q := by
  obtain ⟨p, l, e, R, s, m, args, below, meth, c, b, δ⟩ := κ
  obtain ⟨hx, hb, -⟩ := C
  intro H locs ls hR hS hL
  exact lv_dload_n hx hb hd rfl (hL.at hl) (kk H locs ls hR hS hL)
theorem M_aload (C : CX κ Y d mc ms) {i : Nat} {x : Int} (hd : decode Y.2.1 pc = .ok (.aload i, 2)) (hl : L[i]? = some (some (vR x))) (h0 : 0 ≤ x) (kk : M κ N T (pc + 2) L (vR x :: st) v k n Q) : M κ N T pc L st v k n Q := by
  obtain ⟨p, l, e, R, s, m, args, below, meth, c, b, δ⟩ := κ
  obtain ⟨hx, hb, -⟩ := C
  intro H locs ls hR hS hL
  have h1 := hL.at hl
  have h2 := kk H locs ls hR hS hL
  simp only [tv, List.map_cons, rf_pos h0] at h1 h2
  exact lv_aload hx hb hd h1 h2
theorem M_aload_n (C : CX κ Y d mc ms) {i : Fin 4} {x : Int} (hd : decode Y.2.1 pc = .ok (.aload_n i, 1)) (hl : L[(i : Nat)]? = some (some (vR x))) (h0 : 0 ≤ x) (kk : M κ N T (pc + 1) L (vR x :: st) v k n Q) : M κ N T pc L st v k n Q := by
  obtain ⟨p, l, e, R, s, m, args, below, meth, c, b, δ⟩ := κ
  obtain ⟨hx, hb, -⟩ := C
  intro H locs ls hR hS hL
  have h1 := hL.at hl
  have h2 := kk H locs ls hR hS hL
  simp only [tv, List.map_cons, rf_pos h0] at h1 h2
  exact lv_aload_n hx hb hd rfl h1 h2
theorem M_istore (C : CX κ Y d mc ms) {i : Nat} {x : Int} (hd : decode Y.2.1 pc = .ok (.istore i, 2)) (hn : i < Y.2.2.1) (kk : M κ N T (pc + 2) (sL1 L i (vI x)) st v k n Q) : M κ N T pc L (vI x :: st) v k n Q := by
  obtain ⟨p, l, e, R, s, m, args, below, meth, c, b, δ⟩ := κ
  obtain ⟨hx, hb, -, -, -, -, -, -, -, hml, -⟩ := C
  intro H locs ls hR hS hL
  exact lv_istore hx hb hd hL.2 (by rw [hml]; exact hn) rfl (fun ls' h' => kk H locs ls' hR hS (LH.st1 hL.1 h'))
theorem M_istore_n (C : CX κ Y d mc ms) {i : Fin 4} {x : Int} (hd : decode Y.2.1 pc = .ok (.istore_n i, 1)) (hn : (i : Nat) < Y.2.2.1) (kk : M κ N T (pc + 1) (sL1 L i (vI x)) st v k n Q) : M κ N T pc L (vI x :: st) v k n Q := by
  obtain ⟨p, l, e, R, s, m, args, below, meth, c, b, δ⟩ := κ
  obtain ⟨hx, hb, -, -, -, -, -, -, -, hml, -⟩ := C
  intro H locs ls hR hS hL
  exact lv_istore_n hx hb hd rfl hL.2 (by rw [hml]; exact hn) rfl (fun ls' h' => kk H locs ls' hR hS (LH.st1 hL.1 h'))
theorem M_lstore (C : CX κ Y d mc ms) {i : Nat} {x : Int} (hd : decode Y.2.1 pc = .ok (.lstore i, 2)) (hn : i + 1 < Y.2.2.1) (kk : M κ N T (pc + 2) (sL2 L i (vJ x)) st v k n Q) : M κ N T pc L (vJ x :: st) v k n Q := by
  obtain ⟨p, l, e, R, s, m, args, below, meth, c, b, δ⟩ := κ
  obtain ⟨hx, hb, -, -, -, -, -, -, -, hml, -⟩ := C
  intro H locs ls hR hS hL
  exact lv_lstore hx hb hd hL.2 (by rw [hml]; exact hn) rfl (fun ls' h' => kk H locs ls' hR hS (LH.st2 hL.1 h'))
theorem M_lstore_n (C : CX κ Y d mc ms) {i : Fin 4} {x : Int} (hd : decode Y.2.1 pc = .ok (.lstore_n i, 1)) (hn : (i : Nat) + 1 < Y.2.2.1) (kk : M κ N T (pc + 1) (sL2 L i (vJ x)) st v k n Q) : M κ N T pc L (vJ x :: st) v k n Q := by
  obtain ⟨p, l, e, R, s, m, args, below, meth, c, b, δ⟩ := κ
  obtain ⟨hx, hb, -, -, -, -, -, -, -, hml, -⟩ := C
  intro H locs ls hR hS hL
  exact lv_lstore_n hx hb hd rfl hL.2 (by rw [hml]; exact hn) rfl (fun ls' h' => kk H locs ls' hR hS (LH.st2 hL.1 h'))
theorem M_dstore (C : CX κ Y d mc ms) {i : Nat} {x : UInt64} (hd : decode Y.2.1 pc = .ok (.dstore i, 2)) (hn : i + 1 < Y.2.2.1) (kk : M κ N T (pc + 2) (sL2 L i (vD x)) st v k n Q) : M κ N T pc L (vD x :: st) v k n Q := by
  obtain ⟨p, l, e, R, s, m, args, below, meth, c, b, δ⟩ := κ
  obtain ⟨hx, hb, -, -, -, -, -, -, -, hml, -⟩ := C
  intro H locs ls hR hS hL
  exact lv_dstore hx hb hd hL.2 (by rw [hml]; exact hn) rfl (fun ls' h' => kk H locs ls' hR hS (LH.st2 hL.1 h'))
theorem M_dstore_n (C : CX κ Y d mc ms) {i : Fin 4} {x : UInt64} (hd : decode Y.2.1 pc = .ok (.dstore_n i, 1)) (hn : (i : Nat) + 1 < Y.2.2.1) (kk : M κ N T (pc + 1) (sL2 L i (vD x)) st v k n Q) : M κ N T pc L (vD x :: st) v k n Q := by
  obtain ⟨p, l, e, R, s, m, args, below, meth, c, b, δ⟩ := κ
  obtain ⟨hx, hb, -, -, -, -, -, -, -, hml, -⟩ := C
  intro H locs ls hR hS hL
  exact lv_dstore_n hx hb hd rfl hL.2 (by rw [hml]; exact hn) rfl (fun ls' h' => kk H locs ls' hR hS (LH.st2 hL.1 h'))
theorem M_astore (C : CX κ Y d mc ms) {i : Nat} {x : Int} (hd : decode Y.2.1 pc = .ok (.astore i, 2)) (hn : i < Y.2.2.1) (h0 : 0 ≤ x) (kk : M κ N T (pc + 2) (sL1 L i (vR x)) st v k n Q) : M κ N T pc L (vR x :: st) v k n Q := by
  obtain ⟨p, l, e, R, s, m, args, below, meth, c, b, δ⟩ := κ
  obtain ⟨hx, hb, -, -, -, -, -, -, -, hml, -⟩ := C
  intro H locs ls hR hS hL
  simp only [tv, List.map_cons, rf_pos h0]
  exact lv_astore hx hb hd hL.2 (by rw [hml]; exact hn) rfl (fun ls' h' => kk H locs ls' hR hS (LH.st1 hL.1 (by simp only [tv, rf_pos h0]; exact h')))
theorem M_astore_n (C : CX κ Y d mc ms) {i : Fin 4} {x : Int} (hd : decode Y.2.1 pc = .ok (.astore_n i, 1)) (hn : (i : Nat) < Y.2.2.1) (h0 : 0 ≤ x) (kk : M κ N T (pc + 1) (sL1 L i (vR x)) st v k n Q) : M κ N T pc L (vR x :: st) v k n Q := by
  obtain ⟨p, l, e, R, s, m, args, below, meth, c, b, δ⟩ := κ
  obtain ⟨hx, hb, -, -, -, -, -, -, -, hml, -⟩ := C
  intro H locs ls hR hS hL
  simp only [tv, List.map_cons, rf_pos h0]
  exact lv_astore_n hx hb hd rfl hL.2 (by rw [hml]; exact hn) rfl (fun ls' h' => kk H locs ls' hR hS (LH.st1 hL.1 (by simp only [tv, rf_pos h0]; exact h')))
theorem M_iinc (C : CX κ Y d mc ms) {i : Nat} {x z : Int} (hd : decode Y.2.1 pc = .ok (.iinc i z, 3)) (hl : L[i]? = some (some (vI x))) (hn : i < Y.2.2.1) (kk : M κ N T (pc + 3) (sL1 L i (vI (x + z))) st v k n Q) : M κ N T pc L st v k n Q := by
  obtain ⟨p, l, e, R, s, m, args, below, meth, c, b, δ⟩ := κ
  obtain ⟨hx, hb, -, -, -, -, -, -, -, hml, -⟩ := C
  intro H locs ls hR hS hL
  have h1 := lvl_mem (b := b) (i := 0) hl
  rw [Nat.zero_add] at h1
  obtain ⟨j, hj⟩ := List.getElem?_of_mem h1
  exact lv_iinc (k := j) (v := Int32.ofInt (x + z)) hx hb hd hL.2 hj (ofInt_add x z) (by rw [hml]; exact hn) rfl (fun ls' h' => kk H locs ls' hR hS (LH.st1 hL.1 h'))
end ROWS
end
section
-- bits
theorem sh_cnt : ∀ y, y < 32 → ((Int32.ofInt ((y : Nat) : Int) &&& 31).toBitVec.smod 32).toNat = y := by decide +kernel
theorem bv_of (x : Int) : (Int32.ofInt x).toBitVec = BitVec.ofInt 32 x := rfl
theorem shl_of (x : Int) {y : Nat} (hy : y < 32) : Int32.ofInt x <<< (Int32.ofInt (y : Int) &&& 31) = Int32.ofInt (x * 2 ^ y) := by
  rw [← Int32.toBitVec_inj, Int32.toBitVec_shiftLeft, BitVec.shiftLeft_eq', sh_cnt y hy, bv_of, bv_of, BitVec.ofInt_mul, BitVec.shiftLeft_eq_mul_twoPow]
  congr 1
  apply BitVec.eq_of_toNat_eq
  rw [BitVec.toNat_twoPow, BitVec.toNat_ofInt]
  rw [show ((2 : Int) ^ y) = ((2 ^ y : Nat) : Int) by push_cast; rfl]
  exact (Int.toNat_natCast _).symm
theorem shr_of {x : Int} (hx : i32 x) {y : Nat} (hy : y < 32) : Int32.ofInt x >>> (Int32.ofInt (y : Int) &&& 31) = Int32.ofInt (x / 2 ^ y) := by
  have h1 : (Int32.ofInt x >>> (Int32.ofInt (y : Int) &&& 31)).toInt = x / 2 ^ y := by
    rw [← Int32.toInt_toBitVec, Int32.toBitVec_shiftRight, BitVec.sshiftRight_eq', sh_cnt y hy, BitVec.toInt_sshiftRight, Int32.toInt_toBitVec, i32_to hx, Int.shiftRight_eq_div_pow]
    rfl
  rw [← Int32.toInt_inj, h1, i32_to]
  have hp : (0 : Int) < 2 ^ y := Int.pow_pos (by decide)
  rcases Int.lt_or_le x 0 with h | h
  · have h2 : x / 2 ^ y < 0 := Int.ediv_neg_of_neg_of_pos h hp
    have h3 : x ≤ x / 2 ^ y := by
      rw [Int.le_ediv_iff_mul_le hp]
      have h4 : (1 : Int) ≤ 2 ^ y := hp
      calc x * 2 ^ y ≤ x * 1 := Int.mul_le_mul_of_nonpos_left (by omega) h4
        _ = x := Int.mul_one x
    exact ⟨by omega, by omega⟩
  · have h2 : 0 ≤ x / 2 ^ y := Int.ediv_nonneg h (by omega)
    have h3 : x / 2 ^ y ≤ x := Int.ediv_le_self _ h
    exact ⟨by omega, by omega⟩
theorem bvn_of {x : Int} (h : 0 ≤ x ∧ x < 2147483648) : (BitVec.ofInt 32 x).toNat = x.toNat := by
  rw [BitVec.toNat_ofInt]
  omega
theorem and_of {x y : Int} (hx : 0 ≤ x ∧ x < 2147483648) (hy : 0 ≤ y ∧ y < 2147483648) : Int32.ofInt x &&& Int32.ofInt y = Int32.ofInt ((x.toNat &&& y.toNat : Nat) : Int) := by
  rw [← Int32.toBitVec_inj, Int32.toBitVec_and, bv_of, bv_of, bv_of]
  apply BitVec.eq_of_toNat_eq
  have h1 : x.toNat &&& y.toNat ≤ x.toNat := Nat.and_le_left
  rw [BitVec.toNat_and, bvn_of hx, bvn_of hy, bvn_of ⟨by omega, by omega⟩]
  omega
theorem or_of {x y : Int} (hx : 0 ≤ x ∧ x < 2147483648) (hy : 0 ≤ y ∧ y < 2147483648) : Int32.ofInt x ||| Int32.ofInt y = Int32.ofInt ((x.toNat ||| y.toNat : Nat) : Int) := by
  rw [← Int32.toBitVec_inj, Int32.toBitVec_or, bv_of, bv_of, bv_of]
  apply BitVec.eq_of_toNat_eq
  have h1 : x.toNat ||| y.toNat < 2 ^ 31 := Nat.or_lt_two_pow (by omega) (by omega)
  rw [BitVec.toNat_or, bvn_of hx, bvn_of hy, bvn_of ⟨by omega, by omega⟩]
  omega
theorem mask_of (x : Int) {j : Nat} (hj : j ≤ 31) : Int32.ofInt x &&& Int32.ofInt (2 ^ j - 1) = Int32.ofInt (x % 2 ^ j) := by
  have hp : (1 : Int) ≤ 2 ^ j := Int.pow_pos (by decide)
  have hq : (2 : Int) ^ j ≤ 2 ^ 31 := by
    rw [show ((2 : Int) ^ j) = ((2 ^ j : Nat) : Int) by push_cast; rfl, show ((2 : Int) ^ 31) = ((2 ^ 31 : Nat) : Int) by rfl]
    exact Int.ofNat_le.mpr (Nat.pow_le_pow_right (by decide) hj)
  have h0 : 0 ≤ x % 2 ^ j := Int.emod_nonneg _ (by omega)
  have h1 : x % 2 ^ j < 2 ^ j := Int.emod_lt_of_pos _ (by omega)
  rw [← Int32.toBitVec_inj, Int32.toBitVec_and, bv_of, bv_of, bv_of]
  apply BitVec.eq_of_toNat_eq
  rw [BitVec.toNat_and, bvn_of (x := 2 ^ j - 1) ⟨by omega, by omega⟩, bvn_of (x := x % 2 ^ j) ⟨by omega, by omega⟩]
  have h2 : ((2 : Int) ^ j - 1).toNat = 2 ^ j - 1 := by
    rw [show ((2 : Int) ^ j) = ((2 ^ j : Nat) : Int) by push_cast; rfl]
    omega
  rw [h2, Nat.and_two_pow_sub_one_eq_mod, BitVec.toNat_ofInt]
  apply Int.ofNat_inj.mp
  rw [Int.natCast_emod, Int.toNat_of_nonneg (Int.emod_nonneg _ (by decide)), Int.toNat_of_nonneg h0]
  rw [show ((2 ^ j : Nat) : Int) = (2 : Int) ^ j by push_cast; rfl]
  apply Int.emod_emod_of_dvd
  rw [show ((2 ^ 32 : Nat) : Int) = (2 : Int) ^ j * 2 ^ (32 - j) by rw [← Int.pow_add, show j + (32 - j) = 32 by omega]; rfl]
  exact Int.dvd_mul_right _ _

section ROWS3
variable {κ : KX} {Y : MD} {d mc ms N : Nat} {T : Ty} {pc : Nat} {L : List (Option MV)} {st : List MV} {v : Ct} {k n : Nat} {Q : State → Prop}
theorem M_iconst (C : CX κ Y d mc ms) {z : Int} (hd : decode Y.2.1 pc = .ok (.iconst z, 1)) (kk : M κ N T (pc + 1) L (vI z :: st) v k n Q) : M κ N T pc L (st) v k n Q := by
  obtain ⟨p, l, e, R, s, m, args, below, meth, c, b, δ⟩ := κ
  obtain ⟨hx, hb, hown, hts, hKK, hEX, hlocks, hnm, hret, hml, -⟩ := C
  intro H locs ls hR hS hL
  exact lv_iconst hx hb hd rfl (kk H locs ls hR hS hL)
theorem M_bipush (C : CX κ Y d mc ms) {z : Int} (hz : (Int8.ofInt z).toInt32 = Int32.ofInt z) (hd : decode Y.2.1 pc = .ok (.bipush z, 2)) (kk : M κ N T (pc + 2) L (vI z :: st) v k n Q) : M κ N T pc L (st) v k n Q := by
  obtain ⟨p, l, e, R, s, m, args, below, meth, c, b, δ⟩ := κ
  obtain ⟨hx, hb, hown, hts, hKK, hEX, hlocks, hnm, hret, hml, -⟩ := C
  intro H locs ls hR hS hL
  exact lv_bipush hx hb hd hz (kk H locs ls hR hS hL)
theorem M_sipush (C : CX κ Y d mc ms) {z : Int} (hz : (Int16.ofInt z).toInt32 = Int32.ofInt z) (hd : decode Y.2.1 pc = .ok (.sipush z, 3)) (kk : M κ N T (pc + 3) L (vI z :: st) v k n Q) : M κ N T pc L (st) v k n Q := by
  obtain ⟨p, l, e, R, s, m, args, below, meth, c, b, δ⟩ := κ
  obtain ⟨hx, hb, hown, hts, hKK, hEX, hlocks, hnm, hret, hml, -⟩ := C
  intro H locs ls hR hS hL
  exact lv_sipush hx hb hd hz (kk H locs ls hR hS hL)
theorem M_ldcw (C : CX κ Y d mc ms) {i : Nat} {w : Int32} {z : Int} (hw : Cond.constant Y.1.cls i w ∈ GW) (hz : w = Int32.ofInt z) (hd : decode Y.2.1 pc = .ok (.ldc_w i, 3)) (kk : M κ N T (pc + 3) L (vI z :: st) v k n Q) : M κ N T pc L (st) v k n Q := by
  obtain ⟨p, l, e, R, s, m, args, below, meth, c, b, δ⟩ := κ
  obtain ⟨hx, hb, hown, hts, hKK, hEX, hlocks, hnm, hret, hml, -⟩ := C
  intro H locs ls hR hS hL
  subst hz
  exact lv_ldcw hx hb hown (hts _ hw) hd (kk H locs ls hR hS hL)
theorem M_ldc2 (C : CX κ Y d mc ms) {i : Nat} {w : Int64} {z : Int} (hw : Cond.constantLong Y.1.cls i w ∈ GW) (hz : w = Int64.ofInt z) (hd : decode Y.2.1 pc = .ok (.ldc2_w i, 3)) (kk : M κ N T (pc + 3) L (vJ z :: st) v k n Q) : M κ N T pc L (st) v k n Q := by
  obtain ⟨p, l, e, R, s, m, args, below, meth, c, b, δ⟩ := κ
  obtain ⟨hx, hb, hown, hts, hKK, hEX, hlocks, hnm, hret, hml, -⟩ := C
  intro H locs ls hR hS hL
  subst hz
  exact lv_ldc2 hx hb hown (hts _ hw) hd (kk H locs ls hR hS hL)
theorem M_ldc2d (C : CX κ Y d mc ms) {i : Nat} {w : UInt64} (hw : Cond.constantDouble Y.1.cls i w ∈ GW) (hd : decode Y.2.1 pc = .ok (.ldc2_w i, 3)) (kk : M κ N T (pc + 3) L (vD w :: st) v k n Q) : M κ N T pc L (st) v k n Q := by
  obtain ⟨p, l, e, R, s, m, args, below, meth, c, b, δ⟩ := κ
  obtain ⟨hx, hb, hown, hts, hKK, hEX, hlocks, hnm, hret, hml, -⟩ := C
  intro H locs ls hR hS hL
  exact lv_ldc2d hx hb hown (hts _ hw) hd (kk H locs ls hR hS hL)
theorem M_lconst (C : CX κ Y d mc ms) {z : Fin 2} {x : Int} (hz : Int64.ofNat (z : Nat) = Int64.ofInt x) (hd : decode Y.2.1 pc = .ok (.lconst z, 1)) (kk : M κ N T (pc + 1) L (vJ x :: st) v k n Q) : M κ N T pc L (st) v k n Q := by
  obtain ⟨p, l, e, R, s, m, args, below, meth, c, b, δ⟩ := κ
  obtain ⟨hx, hb, hown, hts, hKK, hEX, hlocks, hnm, hret, hml, -⟩ := C
  intro H locs ls hR hS hL
  exact lv_lconst hx hb hd hz (kk H locs ls hR hS hL)
theorem M_dconst0 (C : CX κ Y d mc ms)  (hd : decode Y.2.1 pc = .ok (.dconst 0, 1)) (kk : M κ N T (pc + 1) L (vD FP.dconst0 :: st) v k n Q) : M κ N T pc L (st) v k n Q := by
  obtain ⟨p, l, e, R, s, m, args, below, meth, c, b, δ⟩ := κ
  obtain ⟨hx, hb, hown, hts, hKK, hEX, hlocks, hnm, hret, hml, -⟩ := C
  intro H locs ls hR hS hL
  exact lv_dconst0 hx hb hd (kk H locs ls hR hS hL)
theorem M_dconst1 (C : CX κ Y d mc ms)  (hd : decode Y.2.1 pc = .ok (.dconst 1, 1)) (kk : M κ N T (pc + 1) L (vD FP.dconst1 :: st) v k n Q) : M κ N T pc L (st) v k n Q := by
  obtain ⟨p, l, e, R, s, m, args, below, meth, c, b, δ⟩ := κ
  obtain ⟨hx, hb, hown, hts, hKK, hEX, hlocks, hnm, hret, hml, -⟩ := C
  intro H locs ls hR hS hL
  exact lv_dconst1 hx hb hd (kk H locs ls hR hS hL)
theorem M_iadd (C : CX κ Y d mc ms) {x y : Int} (hd : decode Y.2.1 pc = .ok (.iadd, 1)) (kk : M κ N T (pc + 1) L (vI (x + y) :: st) v k n Q) : M κ N T pc L (vI y :: vI x :: st) v k n Q := by
  obtain ⟨p, l, e, R, s, m, args, below, meth, c, b, δ⟩ := κ
  obtain ⟨hx, hb, hown, hts, hKK, hEX, hlocks, hnm, hret, hml, -⟩ := C
  intro H locs ls hR hS hL
  have h2 := (kk H locs ls hR hS hL)
  simp only [List.map_cons, tv, ← ofInt_add] at h2
  exact lv_iadd hx hb hd h2
theorem M_isub (C : CX κ Y d mc ms) {x y : Int} (hd : decode Y.2.1 pc = .ok (.isub, 1)) (kk : M κ N T (pc + 1) L (vI (x - y) :: st) v k n Q) : M κ N T pc L (vI y :: vI x :: st) v k n Q := by
  obtain ⟨p, l, e, R, s, m, args, below, meth, c, b, δ⟩ := κ
  obtain ⟨hx, hb, hown, hts, hKK, hEX, hlocks, hnm, hret, hml, -⟩ := C
  intro H locs ls hR hS hL
  have h2 := (kk H locs ls hR hS hL)
  simp only [List.map_cons, tv, ← ofInt_sub] at h2
  exact lv_isub hx hb hd h2
theorem M_imul (C : CX κ Y d mc ms) {x y : Int} (hd : decode Y.2.1 pc = .ok (.imul, 1)) (kk : M κ N T (pc + 1) L (vI (x * y) :: st) v k n Q) : M κ N T pc L (vI y :: vI x :: st) v k n Q := by
  obtain ⟨p, l, e, R, s, m, args, below, meth, c, b, δ⟩ := κ
  obtain ⟨hx, hb, hown, hts, hKK, hEX, hlocks, hnm, hret, hml, -⟩ := C
  intro H locs ls hR hS hL
  have h2 := (kk H locs ls hR hS hL)
  simp only [List.map_cons, tv, ← ofInt_mul] at h2
  exact lv_imul hx hb hd h2
theorem M_idiv (C : CX κ Y d mc ms) {x y : Int} (h1 : 0 ≤ x ∧ x < 2147483648) (h2 : 0 < y ∧ y < 2147483648) (hd : decode Y.2.1 pc = .ok (.idiv, 1)) (kk : M κ N T (pc + 1) L (vI (x / y) :: st) v k n Q) : M κ N T pc L (vI y :: vI x :: st) v k n Q := by
  obtain ⟨p, l, e, R, s, m, args, below, meth, c, b, δ⟩ := κ
  obtain ⟨hx, hb, hown, hts, hKK, hEX, hlocks, hnm, hret, hml, -⟩ := C
  intro H locs ls hR hS hL
  have h3 := (kk H locs ls hR hS hL)
  simp only [List.map_cons, tv, ← ofInt_div h1 h2] at h3
  refine lv_idiv hx hb hd (fun e => ?_) h3
  rw [show (0 : Int32) = Int32.ofInt 0 from rfl, ofInt_inj ⟨by omega, by omega⟩ ⟨by omega, by omega⟩] at e
  omega
theorem M_irem (C : CX κ Y d mc ms) {x y : Int} (h1 : 0 ≤ x ∧ x < 2147483648) (h2 : 0 < y ∧ y < 2147483648) (hd : decode Y.2.1 pc = .ok (.irem, 1)) (kk : M κ N T (pc + 1) L (vI (x % y) :: st) v k n Q) : M κ N T pc L (vI y :: vI x :: st) v k n Q := by
  obtain ⟨p, l, e, R, s, m, args, below, meth, c, b, δ⟩ := κ
  obtain ⟨hx, hb, hown, hts, hKK, hEX, hlocks, hnm, hret, hml, -⟩ := C
  intro H locs ls hR hS hL
  have h3 := (kk H locs ls hR hS hL)
  simp only [List.map_cons, tv, ← ofInt_rem h1 h2] at h3
  refine lv_irem hx hb hd (fun e => ?_) h3
  rw [show (0 : Int32) = Int32.ofInt 0 from rfl, ofInt_inj ⟨by omega, by omega⟩ ⟨by omega, by omega⟩] at e
  omega
theorem M_ishl (C : CX κ Y d mc ms) {x y : Int} (h1 : 0 ≤ y ∧ y < 32) (hd : decode Y.2.1 pc = .ok (.ishl, 1)) (kk : M κ N T (pc + 1) L (vI (x * 2 ^ y.toNat) :: st) v k n Q) : M κ N T pc L (vI y :: vI x :: st) v k n Q := by
  obtain ⟨p, l, e, R, s, m, args, below, meth, c, b, δ⟩ := κ
  obtain ⟨hx, hb, hown, hts, hKK, hEX, hlocks, hnm, hret, hml, -⟩ := C
  intro H locs ls hR hS hL
  have h3 := (kk H locs ls hR hS hL)
  have h4 := shl_of x (y := y.toNat) (by omega)
  rw [Int.toNat_of_nonneg h1.1] at h4
  simp only [List.map_cons, tv, ← h4] at h3
  exact lv_ishl hx hb hd h3
theorem M_ishr (C : CX κ Y d mc ms) {x y : Int} (h0 : i32 x) (h1 : 0 ≤ y ∧ y < 32) (hd : decode Y.2.1 pc = .ok (.ishr, 1)) (kk : M κ N T (pc + 1) L (vI (x / 2 ^ y.toNat) :: st) v k n Q) : M κ N T pc L (vI y :: vI x :: st) v k n Q := by
  obtain ⟨p, l, e, R, s, m, args, below, meth, c, b, δ⟩ := κ
  obtain ⟨hx, hb, hown, hts, hKK, hEX, hlocks, hnm, hret, hml, -⟩ := C
  intro H locs ls hR hS hL
  have h3 := (kk H locs ls hR hS hL)
  have h4 := shr_of h0 (y := y.toNat) (by omega)
  rw [Int.toNat_of_nonneg h1.1] at h4
  simp only [List.map_cons, tv, ← h4] at h3
  exact lv_ishr hx hb hd h3
theorem M_iand (C : CX κ Y d mc ms) {x y : Int} (h1 : 0 ≤ x ∧ x < 2147483648) (h2 : 0 ≤ y ∧ y < 2147483648) (hd : decode Y.2.1 pc = .ok (.iand, 1)) (kk : M κ N T (pc + 1) L (vI ((x.toNat &&& y.toNat : Nat) : Int) :: st) v k n Q) : M κ N T pc L (vI y :: vI x :: st) v k n Q := by
  obtain ⟨p, l, e, R, s, m, args, below, meth, c, b, δ⟩ := κ
  obtain ⟨hx, hb, hown, hts, hKK, hEX, hlocks, hnm, hret, hml, -⟩ := C
  intro H locs ls hR hS hL
  have h3 := (kk H locs ls hR hS hL)
  simp only [List.map_cons, tv, ← and_of h1 h2] at h3
  exact lv_iand hx hb hd h3
theorem M_imask (C : CX κ Y d mc ms) {x y : Int} (j : Nat) (hj : j ≤ 31) (hy : y = 2 ^ j - 1) (hd : decode Y.2.1 pc = .ok (.iand, 1)) (kk : M κ N T (pc + 1) L (vI (x % 2 ^ j) :: st) v k n Q) : M κ N T pc L (vI y :: vI x :: st) v k n Q := by
  obtain ⟨p, l, e, R, s, m, args, below, meth, c, b, δ⟩ := κ
  obtain ⟨hx, hb, hown, hts, hKK, hEX, hlocks, hnm, hret, hml, -⟩ := C
  intro H locs ls hR hS hL
  have h3 := (kk H locs ls hR hS hL)
  subst hy
  simp only [List.map_cons, tv, ← mask_of x hj] at h3
  exact lv_iand hx hb hd h3
theorem M_ior (C : CX κ Y d mc ms) {x y : Int} (h1 : 0 ≤ x ∧ x < 2147483648) (h2 : 0 ≤ y ∧ y < 2147483648) (hd : decode Y.2.1 pc = .ok (.ior, 1)) (kk : M κ N T (pc + 1) L (vI ((x.toNat ||| y.toNat : Nat) : Int) :: st) v k n Q) : M κ N T pc L (vI y :: vI x :: st) v k n Q := by
  obtain ⟨p, l, e, R, s, m, args, below, meth, c, b, δ⟩ := κ
  obtain ⟨hx, hb, hown, hts, hKK, hEX, hlocks, hnm, hret, hml, -⟩ := C
  intro H locs ls hR hS hL
  have h3 := (kk H locs ls hR hS hL)
  simp only [List.map_cons, tv, ← or_of h1 h2] at h3
  exact lv_ior hx hb hd h3
theorem M_ladd (C : CX κ Y d mc ms) {x y : Int} (hd : decode Y.2.1 pc = .ok (.ladd, 1)) (kk : M κ N T (pc + 1) L (vJ (x + y) :: st) v k n Q) : M κ N T pc L (vJ y :: vJ x :: st) v k n Q := by
  obtain ⟨p, l, e, R, s, m, args, below, meth, c, b, δ⟩ := κ
  obtain ⟨hx, hb, hown, hts, hKK, hEX, hlocks, hnm, hret, hml, -⟩ := C
  intro H locs ls hR hS hL
  have h2 := (kk H locs ls hR hS hL)
  simp only [List.map_cons, tv, ← lofInt_add] at h2
  exact lv_ladd hx hb hd h2
theorem M_lmul (C : CX κ Y d mc ms) {x y : Int} (hd : decode Y.2.1 pc = .ok (.lmul, 1)) (kk : M κ N T (pc + 1) L (vJ (x * y) :: st) v k n Q) : M κ N T pc L (vJ y :: vJ x :: st) v k n Q := by
  obtain ⟨p, l, e, R, s, m, args, below, meth, c, b, δ⟩ := κ
  obtain ⟨hx, hb, hown, hts, hKK, hEX, hlocks, hnm, hret, hml, -⟩ := C
  intro H locs ls hR hS hL
  have h2 := (kk H locs ls hR hS hL)
  simp only [List.map_cons, tv, ← lofInt_mul] at h2
  exact lv_lmul hx hb hd h2
theorem M_i2l (C : CX κ Y d mc ms) {x : Int} (h1 : i32 x) (hd : decode Y.2.1 pc = .ok (.i2l, 1)) (kk : M κ N T (pc + 1) L (vJ x :: st) v k n Q) : M κ N T pc L (vI x :: st) v k n Q := by
  obtain ⟨p, l, e, R, s, m, args, below, meth, c, b, δ⟩ := κ
  obtain ⟨hx, hb, hown, hts, hKK, hEX, hlocks, hnm, hret, hml, -⟩ := C
  intro H locs ls hR hS hL
  exact lv_i2l hx hb hd (i2l_of h1) (kk H locs ls hR hS hL)
theorem M_i2d (C : CX κ Y d mc ms) {x : Int} (hd : decode Y.2.1 pc = .ok (.i2d, 1)) (kk : M κ N T (pc + 1) L (vD (FP.i2d (Int32.ofInt x)) :: st) v k n Q) : M κ N T pc L (vI x :: st) v k n Q := by
  obtain ⟨p, l, e, R, s, m, args, below, meth, c, b, δ⟩ := κ
  obtain ⟨hx, hb, hown, hts, hKK, hEX, hlocks, hnm, hret, hml, -⟩ := C
  intro H locs ls hR hS hL
  exact lv_i2d hx hb hd (kk H locs ls hR hS hL)
theorem M_d2l (C : CX κ Y d mc ms) {x : UInt64} {z : Int} (hz : FP.d2l x = Int64.ofInt z) (hd : decode Y.2.1 pc = .ok (.d2l, 1)) (kk : M κ N T (pc + 1) L (vJ z :: st) v k n Q) : M κ N T pc L (vD x :: st) v k n Q := by
  obtain ⟨p, l, e, R, s, m, args, below, meth, c, b, δ⟩ := κ
  obtain ⟨hx, hb, hown, hts, hKK, hEX, hlocks, hnm, hret, hml, -⟩ := C
  intro H locs ls hR hS hL
  have h2 := (kk H locs ls hR hS hL)
  simp only [List.map_cons, tv, ← hz] at h2
  exact lv_d2l hx hb hd h2
theorem M_ddiv (C : CX κ Y d mc ms) {x y z : UInt64} (hz : FP.ddiv x y = z) (hn : vf_n64 z) (hd : decode Y.2.1 pc = .ok (.ddiv, 1)) (kk : M κ N T (pc + 1) L (vD z :: st) v k n Q) : M κ N T pc L (vD y :: vD x :: st) v k n Q := by
  obtain ⟨p, l, e, R, s, m, args, below, meth, c, b, δ⟩ := κ
  obtain ⟨hx, hb, hown, hts, hKK, hEX, hlocks, hnm, hret, hml, -⟩ := C
  intro H locs ls hR hS hL
  subst hz
  exact lv_ddiv hx hb hd hn (kk H locs ls hR hS hL)
theorem M_dmul (C : CX κ Y d mc ms) {x y z : UInt64} (hz : FP.dmul x y = z) (hn : vf_n64 z) (hd : decode Y.2.1 pc = .ok (.dmul, 1)) (kk : M κ N T (pc + 1) L (vD z :: st) v k n Q) : M κ N T pc L (vD y :: vD x :: st) v k n Q := by
  obtain ⟨p, l, e, R, s, m, args, below, meth, c, b, δ⟩ := κ
  obtain ⟨hx, hb, hown, hts, hKK, hEX, hlocks, hnm, hret, hml, -⟩ := C
  intro H locs ls hR hS hL
  subst hz
  exact lv_dmul hx hb hd hn (kk H locs ls hR hS hL)
theorem M_dsub (C : CX κ Y d mc ms) {x y z : UInt64} (hz : FP.dsub x y = z) (hn : vf_n64 z) (hd : decode Y.2.1 pc = .ok (.dsub, 1)) (kk : M κ N T (pc + 1) L (vD z :: st) v k n Q) : M κ N T pc L (vD y :: vD x :: st) v k n Q := by
  obtain ⟨p, l, e, R, s, m, args, below, meth, c, b, δ⟩ := κ
  obtain ⟨hx, hb, hown, hts, hKK, hEX, hlocks, hnm, hret, hml, -⟩ := C
  intro H locs ls hR hS hL
  subst hz
  exact lv_dsub hx hb hd hn (kk H locs ls hR hS hL)
theorem M_dcmp (C : CX κ Y d mc ms) {x y : UInt64} {op : CmpOp} {z : Int} (hz : Op.cmpValue (FP.dcmp x y) op = Int32.ofInt z) (hd : decode Y.2.1 pc = .ok (.dcmp op, 1)) (kk : M κ N T (pc + 1) L (vI z :: st) v k n Q) : M κ N T pc L (vD y :: vD x :: st) v k n Q := by
  obtain ⟨p, l, e, R, s, m, args, below, meth, c, b, δ⟩ := κ
  obtain ⟨hx, hb, hown, hts, hKK, hEX, hlocks, hnm, hret, hml, -⟩ := C
  intro H locs ls hR hS hL
  have h2 := (kk H locs ls hR hS hL)
  simp only [List.map_cons, tv, ← hz] at h2
  exact lv_dcmp hx hb hd h2
theorem M_lshl (C : CX κ Y d mc ms) {x y z : Int} (hz : Int64.ofInt x <<< ((Int32.ofInt y).toInt64 &&& 63) = Int64.ofInt z) (hd : decode Y.2.1 pc = .ok (.lshl, 1)) (kk : M κ N T (pc + 1) L (vJ z :: st) v k n Q) : M κ N T pc L (vI y :: vJ x :: st) v k n Q := by
  obtain ⟨p, l, e, R, s, m, args, below, meth, c, b, δ⟩ := κ
  obtain ⟨hx, hb, hown, hts, hKK, hEX, hlocks, hnm, hret, hml, -⟩ := C
  intro H locs ls hR hS hL
  exact lv_lshl hx hb hd hz (kk H locs ls hR hS hL)
theorem M_lcmpv (C : CX κ Y d mc ms) {x y z : Int} (hz : lg_cmp (Int64.ofInt x) (Int64.ofInt y) = Int32.ofInt z) (hd : decode Y.2.1 pc = .ok (.lcmp, 1)) (kk : M κ N T (pc + 1) L (vI z :: st) v k n Q) : M κ N T pc L (vJ y :: vJ x :: st) v k n Q := by
  obtain ⟨p, l, e, R, s, m, args, below, meth, c, b, δ⟩ := κ
  obtain ⟨hx, hb, hown, hts, hKK, hEX, hlocks, hnm, hret, hml, -⟩ := C
  intro H locs ls hR hS hL
  have h2 := (kk H locs ls hR hS hL)
  simp only [List.map_cons, tv, ← hz] at h2
  exact W.lcmp hx hb hd h2
theorem M_dup (C : CX κ Y d mc ms) {x : MV} (hc : mc2 x = false) (hd : decode Y.2.1 pc = .ok (.dup, 1)) (kk : M κ N T (pc + 1) L (x :: x :: st) v k n Q) : M κ N T pc L (x :: st) v k n Q := by
  obtain ⟨p, l, e, R, s, m, args, below, meth, c, b, δ⟩ := κ
  obtain ⟨hx, hb, hown, hts, hKK, hEX, hlocks, hnm, hret, hml, -⟩ := C
  intro H locs ls hR hS hL
  exact lv_dup hx hb hd (by rw [tv_cat, hc]; rfl) (kk H locs ls hR hS hL)
theorem M_dup2 (C : CX κ Y d mc ms) {x y : MV} (hc : mc2 x = false) (hc2 : mc2 y = false) (hd : decode Y.2.1 pc = .ok (.dup2, 1)) (kk : M κ N T (pc + 1) L (x :: y :: x :: y :: st) v k n Q) : M κ N T pc L (x :: y :: st) v k n Q := by
  obtain ⟨p, l, e, R, s, m, args, below, meth, c, b, δ⟩ := κ
  obtain ⟨hx, hb, hown, hts, hKK, hEX, hlocks, hnm, hret, hml, -⟩ := C
  intro H locs ls hR hS hL
  exact lv_dup2_11 hx hb hd (by rw [tv_cat, hc]; rfl) (by rw [tv_cat, hc2]; rfl) (kk H locs ls hR hS hL)
theorem M_pop (C : CX κ Y d mc ms) {x : MV} (hc : mc2 x = false) (hd : decode Y.2.1 pc = .ok (.pop, 1)) (kk : M κ N T (pc + 1) L (st) v k n Q) : M κ N T pc L (x :: st) v k n Q := by
  obtain ⟨p, l, e, R, s, m, args, below, meth, c, b, δ⟩ := κ
  obtain ⟨hx, hb, hown, hts, hKK, hEX, hlocks, hnm, hret, hml, -⟩ := C
  intro H locs ls hR hS hL
  exact lv_pop hx hb hd (by rw [tv_cat, hc]; rfl) (kk H locs ls hR hS hL)
theorem M_icmp_ge (C : CX κ Y d mc ms) {off : Int} {tgt : Nat} {x y : Int} (h1 : i32 x) (h2 : i32 y) (hd : decode Y.2.1 pc = .ok (.if_icmp .ge off, 3)) (ht : (pc : Int) + off = (tgt : Int)) (kt : y ≤ x → M κ N T tgt L st v k n Q) (kf : x < y → M κ N T (pc + 3) L st v k n Q) : M κ N T pc L (vI y :: vI x :: st) v k n Q := by
  obtain ⟨p, l, e, R, s, m, args, below, meth, c, b, δ⟩ := κ
  obtain ⟨hx, hb, -⟩ := C
  intro H locs ls hR hS hL
  exact lv_icmp_ge hx hb hd ht (fun q => kt ((ofInt_le h2 h1).mp q) H locs ls hR hS hL) (fun q => kf (by have := mt ((ofInt_le h2 h1).mpr) q; omega) H locs ls hR hS hL)
theorem M_if_ge (C : CX κ Y d mc ms) {off : Int} {tgt : Nat} {x : Int} (h1 : i32 x) (hd : decode Y.2.1 pc = .ok (.ifCond .ge off, 3)) (ht : (pc : Int) + off = (tgt : Int)) (kt : 0 ≤ x → M κ N T tgt L st v k n Q) (kf : x < 0 → M κ N T (pc + 3) L st v k n Q) : M κ N T pc L (vI x :: st) v k n Q := by
  obtain ⟨p, l, e, R, s, m, args, below, meth, c, b, δ⟩ := κ
  obtain ⟨hx, hb, -⟩ := C
  intro H locs ls hR hS hL
  have h2 : i32 0 := by decide
  exact lv_if_ge hx hb hd ht (fun q => kt ((ofInt_le h2 h1).mp q) H locs ls hR hS hL) (fun q => kf (by have := mt ((ofInt_le h2 h1).mpr) q; omega) H locs ls hR hS hL)
theorem M_icmp_lt (C : CX κ Y d mc ms) {off : Int} {tgt : Nat} {x y : Int} (h1 : i32 x) (h2 : i32 y) (hd : decode Y.2.1 pc = .ok (.if_icmp .lt off, 3)) (ht : (pc : Int) + off = (tgt : Int)) (kt : x < y → M κ N T tgt L st v k n Q) (kf : y ≤ x → M κ N T (pc + 3) L st v k n Q) : M κ N T pc L (vI y :: vI x :: st) v k n Q := by
  obtain ⟨p, l, e, R, s, m, args, below, meth, c, b, δ⟩ := κ
  obtain ⟨hx, hb, -⟩ := C
  intro H locs ls hR hS hL
  exact lv_icmp_lt hx hb hd ht (fun q => kt ((ofInt_lt h1 h2).mp q) H locs ls hR hS hL) (fun q => kf (by have := mt ((ofInt_lt h1 h2).mpr) q; omega) H locs ls hR hS hL)
theorem M_if_lt (C : CX κ Y d mc ms) {off : Int} {tgt : Nat} {x : Int} (h1 : i32 x) (hd : decode Y.2.1 pc = .ok (.ifCond .lt off, 3)) (ht : (pc : Int) + off = (tgt : Int)) (kt : x < 0 → M κ N T tgt L st v k n Q) (kf : 0 ≤ x → M κ N T (pc + 3) L st v k n Q) : M κ N T pc L (vI x :: st) v k n Q := by
  obtain ⟨p, l, e, R, s, m, args, below, meth, c, b, δ⟩ := κ
  obtain ⟨hx, hb, -⟩ := C
  intro H locs ls hR hS hL
  have h2 : i32 0 := by decide
  exact lv_if_lt hx hb hd ht (fun q => kt ((ofInt_lt h1 h2).mp q) H locs ls hR hS hL) (fun q => kf (by have := mt ((ofInt_lt h1 h2).mpr) q; omega) H locs ls hR hS hL)
theorem M_icmp_gt (C : CX κ Y d mc ms) {off : Int} {tgt : Nat} {x y : Int} (h1 : i32 x) (h2 : i32 y) (hd : decode Y.2.1 pc = .ok (.if_icmp .gt off, 3)) (ht : (pc : Int) + off = (tgt : Int)) (kt : y < x → M κ N T tgt L st v k n Q) (kf : x ≤ y → M κ N T (pc + 3) L st v k n Q) : M κ N T pc L (vI y :: vI x :: st) v k n Q := by
  obtain ⟨p, l, e, R, s, m, args, below, meth, c, b, δ⟩ := κ
  obtain ⟨hx, hb, -⟩ := C
  intro H locs ls hR hS hL
  exact lv_icmp_gt hx hb hd ht (fun q => kt ((ofInt_lt h2 h1).mp q) H locs ls hR hS hL) (fun q => kf (by have := mt ((ofInt_lt h2 h1).mpr) q; omega) H locs ls hR hS hL)
theorem M_if_gt (C : CX κ Y d mc ms) {off : Int} {tgt : Nat} {x : Int} (h1 : i32 x) (hd : decode Y.2.1 pc = .ok (.ifCond .gt off, 3)) (ht : (pc : Int) + off = (tgt : Int)) (kt : 0 < x → M κ N T tgt L st v k n Q) (kf : x ≤ 0 → M κ N T (pc + 3) L st v k n Q) : M κ N T pc L (vI x :: st) v k n Q := by
  obtain ⟨p, l, e, R, s, m, args, below, meth, c, b, δ⟩ := κ
  obtain ⟨hx, hb, -⟩ := C
  intro H locs ls hR hS hL
  have h2 : i32 0 := by decide
  exact lv_if_gt hx hb hd ht (fun q => kt ((ofInt_lt h2 h1).mp q) H locs ls hR hS hL) (fun q => kf (by have := mt ((ofInt_lt h2 h1).mpr) q; omega) H locs ls hR hS hL)
theorem M_icmp_le (C : CX κ Y d mc ms) {off : Int} {tgt : Nat} {x y : Int} (h1 : i32 x) (h2 : i32 y) (hd : decode Y.2.1 pc = .ok (.if_icmp .le off, 3)) (ht : (pc : Int) + off = (tgt : Int)) (kt : x ≤ y → M κ N T tgt L st v k n Q) (kf : y < x → M κ N T (pc + 3) L st v k n Q) : M κ N T pc L (vI y :: vI x :: st) v k n Q := by
  obtain ⟨p, l, e, R, s, m, args, below, meth, c, b, δ⟩ := κ
  obtain ⟨hx, hb, -⟩ := C
  intro H locs ls hR hS hL
  exact lv_icmp_le hx hb hd ht (fun q => kt ((ofInt_le h1 h2).mp q) H locs ls hR hS hL) (fun q => kf (by have := mt ((ofInt_le h1 h2).mpr) q; omega) H locs ls hR hS hL)
theorem M_if_le (C : CX κ Y d mc ms) {off : Int} {tgt : Nat} {x : Int} (h1 : i32 x) (hd : decode Y.2.1 pc = .ok (.ifCond .le off, 3)) (ht : (pc : Int) + off = (tgt : Int)) (kt : x ≤ 0 → M κ N T tgt L st v k n Q) (kf : 0 < x → M κ N T (pc + 3) L st v k n Q) : M κ N T pc L (vI x :: st) v k n Q := by
  obtain ⟨p, l, e, R, s, m, args, below, meth, c, b, δ⟩ := κ
  obtain ⟨hx, hb, -⟩ := C
  intro H locs ls hR hS hL
  have h2 : i32 0 := by decide
  exact lv_if_le hx hb hd ht (fun q => kt ((ofInt_le h1 h2).mp q) H locs ls hR hS hL) (fun q => kf (by have := mt ((ofInt_le h1 h2).mpr) q; omega) H locs ls hR hS hL)
theorem M_icmp_eq (C : CX κ Y d mc ms) {off : Int} {tgt : Nat} {x y : Int} (h1 : i32 x) (h2 : i32 y) (hd : decode Y.2.1 pc = .ok (.if_icmp .eq off, 3)) (ht : (pc : Int) + off = (tgt : Int)) (kt : x = y → M κ N T tgt L st v k n Q) (kf : x ≠ y → M κ N T (pc + 3) L st v k n Q) : M κ N T pc L (vI y :: vI x :: st) v k n Q := by
  obtain ⟨p, l, e, R, s, m, args, below, meth, c, b, δ⟩ := κ
  obtain ⟨hx, hb, -⟩ := C
  intro H locs ls hR hS hL
  exact lv_icmp_eq hx hb hd ht (fun q => kt ((ofInt_inj h1 h2).mp q) H locs ls hR hS hL) (fun q => kf (by have := mt ((ofInt_inj h1 h2).mpr) q; omega) H locs ls hR hS hL)
theorem M_if_eq (C : CX κ Y d mc ms) {off : Int} {tgt : Nat} {x : Int} (h1 : i32 x) (hd : decode Y.2.1 pc = .ok (.ifCond .eq off, 3)) (ht : (pc : Int) + off = (tgt : Int)) (kt : x = 0 → M κ N T tgt L st v k n Q) (kf : x ≠ 0 → M κ N T (pc + 3) L st v k n Q) : M κ N T pc L (vI x :: st) v k n Q := by
  obtain ⟨p, l, e, R, s, m, args, below, meth, c, b, δ⟩ := κ
  obtain ⟨hx, hb, -⟩ := C
  intro H locs ls hR hS hL
  have h2 : i32 0 := by decide
  exact lv_if_eq hx hb hd ht (fun q => kt ((ofInt_inj h1 h2).mp q) H locs ls hR hS hL) (fun q => kf (by have := mt ((ofInt_inj h1 h2).mpr) q; omega) H locs ls hR hS hL)
theorem M_icmp_ne (C : CX κ Y d mc ms) {off : Int} {tgt : Nat} {x y : Int} (h1 : i32 x) (h2 : i32 y) (hd : decode Y.2.1 pc = .ok (.if_icmp .ne off, 3)) (ht : (pc : Int) + off = (tgt : Int)) (kt : x ≠ y → M κ N T tgt L st v k n Q) (kf : x = y → M κ N T (pc + 3) L st v k n Q) : M κ N T pc L (vI y :: vI x :: st) v k n Q := by
  obtain ⟨p, l, e, R, s, m, args, below, meth, c, b, δ⟩ := κ
  obtain ⟨hx, hb, -⟩ := C
  intro H locs ls hR hS hL
  exact lv_icmp_ne hx hb hd ht (fun q => kt (fun e => q ((ofInt_inj h1 h2).mpr e)) H locs ls hR hS hL) (fun q => kf ((ofInt_inj h1 h2).mp q) H locs ls hR hS hL)
theorem M_if_ne (C : CX κ Y d mc ms) {off : Int} {tgt : Nat} {x : Int} (h1 : i32 x) (hd : decode Y.2.1 pc = .ok (.ifCond .ne off, 3)) (ht : (pc : Int) + off = (tgt : Int)) (kt : x ≠ 0 → M κ N T tgt L st v k n Q) (kf : x = 0 → M κ N T (pc + 3) L st v k n Q) : M κ N T pc L (vI x :: st) v k n Q := by
  obtain ⟨p, l, e, R, s, m, args, below, meth, c, b, δ⟩ := κ
  obtain ⟨hx, hb, -⟩ := C
  intro H locs ls hR hS hL
  have h2 : i32 0 := by decide
  exact lv_if_ne hx hb hd ht (fun q => kt (fun e => q ((ofInt_inj h1 h2).mpr e)) H locs ls hR hS hL) (fun q => kf ((ofInt_inj h1 h2).mp q) H locs ls hR hS hL)
theorem M_goto (C : CX κ Y d mc ms) {off : Int} {tgt : Nat} (hd : decode Y.2.1 pc = .ok (.goto off, 3)) (ht : (pc : Int) + off = (tgt : Int)) (kk : M κ N T tgt L st v k n Q) : M κ N T pc L (st) v k n Q := by
  obtain ⟨p, l, e, R, s, m, args, below, meth, c, b, δ⟩ := κ
  obtain ⟨hx, hb, -⟩ := C
  intro H locs ls hR hS hL
  exact lv_goto hx hb hd ht (kk H locs ls hR hS hL)
theorem M_ifnull (C : CX κ Y d mc ms) {off : Int} {tgt : Nat} {x : Int} (hd : decode Y.2.1 pc = .ok (.ifnull off, 3)) (ht : (pc : Int) + off = (tgt : Int)) (kt : x < 0 → M κ N T tgt L st v k n Q) (kf : 0 ≤ x → M κ N T (pc + 3) L st v k n Q) : M κ N T pc L (vR x :: st) v k n Q := by
  obtain ⟨p, l, e, R, s, m, args, below, meth, c, b, δ⟩ := κ
  obtain ⟨hx, hb, -⟩ := C
  intro H locs ls hR hS hL
  rcases Int.lt_or_le x 0 with h | h
  · simp only [List.map_cons, tv, rf_neg h]
    exact lv_ifnullN hx hb hd ht (kt h H locs ls hR hS hL)
  · simp only [List.map_cons, tv, rf_pos h]
    exact lv_ifnull hx hb hd (kf h H locs ls hR hS hL)
theorem M_ifnonnull (C : CX κ Y d mc ms) {off : Int} {tgt : Nat} {x : Int} (hd : decode Y.2.1 pc = .ok (.ifnonnull off, 3)) (ht : (pc : Int) + off = (tgt : Int)) (kt : 0 ≤ x → M κ N T tgt L st v k n Q) (kf : x < 0 → M κ N T (pc + 3) L st v k n Q) : M κ N T pc L (vR x :: st) v k n Q := by
  obtain ⟨p, l, e, R, s, m, args, below, meth, c, b, δ⟩ := κ
  obtain ⟨hx, hb, -⟩ := C
  intro H locs ls hR hS hL
  rcases Int.lt_or_le x 0 with h | h
  · simp only [List.map_cons, tv, rf_neg h]
    exact lv_ifnonnullN hx hb hd (kf h H locs ls hR hS hL)
  · simp only [List.map_cons, tv, rf_pos h]
    exact lv_ifnonnull hx hb hd ht (kt h H locs ls hR hS hL)
theorem M_tableIn (C : CX κ Y d mc ms) {x dflt lo hi off : Int} {offs : Array Int} {len tgt : Nat} (h1 : i32 x) (h2 : lo ≤ x ∧ x ≤ hi) (ho : offs[(x - lo).toNat]? = some off) (hd : decode Y.2.1 pc = .ok (.tableswitch dflt lo hi offs, len)) (ht : (pc : Int) + off = (tgt : Int)) (kk : M κ N T tgt L st v k n Q) : M κ N T pc L (vI x :: st) v k n Q := by
  obtain ⟨p, l, e, R, s, m, args, below, meth, c, b, δ⟩ := κ
  obtain ⟨hx, hb, -⟩ := C
  intro H locs ls hR hS hL
  exact lv_tableIn hx hb hd (by rw [i32_to h1]; omega) (by rw [i32_to h1]; omega) (by rw [i32_to h1]; exact ho) ht (kk H locs ls hR hS hL)
theorem M_tableOut (C : CX κ Y d mc ms) {x dflt lo hi : Int} {offs : Array Int} {len tgt : Nat} (h1 : i32 x) (h2 : x < lo ∨ hi < x) (hd : decode Y.2.1 pc = .ok (.tableswitch dflt lo hi offs, len)) (ht : (pc : Int) + dflt = (tgt : Int)) (kk : M κ N T tgt L st v k n Q) : M κ N T pc L (vI x :: st) v k n Q := by
  obtain ⟨p, l, e, R, s, m, args, below, meth, c, b, δ⟩ := κ
  obtain ⟨hx, hb, -⟩ := C
  intro H locs ls hR hS hL
  exact lv_tableOut hx hb hd (by rw [i32_to h1]; exact h2) ht (kk H locs ls hR hS hL)
theorem M_lookup (C : CX κ Y d mc ms) {x dflt off : Int} {ps : Array (Int × Int)} {len tgt : Nat} (h1 : i32 x) (hp : (ps.toList.zip (ps.toList.drop 1)).all (fun (a, next) => a.1 < next.1) = true) (ho : Op.lookupswitch.offset ps.toList dflt x = off) (hd : decode Y.2.1 pc = .ok (.lookupswitch dflt ps, len)) (ht : (pc : Int) + off = (tgt : Int)) (kk : M κ N T tgt L st v k n Q) : M κ N T pc L (vI x :: st) v k n Q := by
  obtain ⟨p, l, e, R, s, m, args, below, meth, c, b, δ⟩ := κ
  obtain ⟨hx, hb, -⟩ := C
  intro H locs ls hR hS hL
  exact lv_lookup hx hb hd hp (by rw [i32_to h1]; exact ho) ht (kk H locs ls hR hS hL)
theorem M_iretP (C : CX κ Y d mc ms) {x : Int} (ho : Y.2.2.2 = some .int) {Post : Option MV → Ct → Prop} (hd : decode Y.2.1 pc = .ok (.ireturn, 1)) (hr : Post (some (vI x)) v) : M κ N T pc L [vI x] v mc ms (QP κ N T Post mc ms) := by
  obtain ⟨p, l, e, R, s, m, args, below, meth, c, b, δ⟩ := κ
  obtain ⟨hx, hb, hown, hts, hKK, hEX, hlocks, hnm, hret, hml, -⟩ := C
  intro H locs ls hR hS hL
  exact W.iret hx hb (hret.trans ho) (fun t ht hW => ⟨_, _, hr, rfl, by rw [ht]; exact hR, hS.F ht⟩) hS.2.2 hd hlocks
theorem M_iret (C : CX κ Y d mc ms) {x : Int} (ho : Y.2.2.2 = some .int) {r : MV} {v2 : Ct} (hd : decode Y.2.1 pc = .ok (.ireturn, 1)) (hr : vI x = r) (hv : v = v2) : M κ N T pc L [vI x] v mc ms (QR κ (some r) N T v2 mc ms) :=
  M_iretP C ho hd ⟨congrArg some hr, hv⟩
theorem M_zretP (C : CX κ Y d mc ms) {x : Int} (ho : Y.2.2.2 = some .boolean) (hz : x = 0 ∨ x = 1) {Post : Option MV → Ct → Prop} (hd : decode Y.2.1 pc = .ok (.ireturn, 1)) (hr : Post (some (vI x)) v) : M κ N T pc L [vI x] v mc ms (QP κ N T Post mc ms) := by
  obtain ⟨p, l, e, R, s, m, args, below, meth, c, b, δ⟩ := κ
  obtain ⟨hx, hb, hown, hts, hKK, hEX, hlocks, hnm, hret, hml, -⟩ := C
  intro H locs ls hR hS hL
  have hn : narrow .boolean (.int (Int32.ofInt x)) = .int (Int32.ofInt x) := by rcases hz with rfl | rfl <;> rfl
  exact W.zret hx hb (hret.trans ho) hn (fun t ht hW => ⟨_, _, hr, rfl, by rw [ht]; exact hR, hS.F ht⟩) hS.2.2 hd hlocks
theorem M_zret (C : CX κ Y d mc ms) {x : Int} (ho : Y.2.2.2 = some .boolean) (hz : x = 0 ∨ x = 1) {r : MV} {v2 : Ct} (hd : decode Y.2.1 pc = .ok (.ireturn, 1)) (hr : vI x = r) (hv : v = v2) : M κ N T pc L [vI x] v mc ms (QR κ (some r) N T v2 mc ms) :=
  M_zretP C ho hz hd ⟨congrArg some hr, hv⟩
theorem M_lretP (C : CX κ Y d mc ms) {x : Int} (ho : Y.2.2.2 = some .long) {Post : Option MV → Ct → Prop} (hd : decode Y.2.1 pc = .ok (.lreturn, 1)) (hr : Post (some (vJ x)) v) : M κ N T pc L [vJ x] v mc ms (QP κ N T Post mc ms) := by
  obtain ⟨p, l, e, R, s, m, args, below, meth, c, b, δ⟩ := κ
  obtain ⟨hx, hb, hown, hts, hKK, hEX, hlocks, hnm, hret, hml, -⟩ := C
  intro H locs ls hR hS hL
  exact W.lret hx hb (hret.trans ho) (fun t ht hW => ⟨_, _, hr, rfl, by rw [ht]; exact hR, hS.F ht⟩) hS.2.2 hd hlocks
theorem M_lret (C : CX κ Y d mc ms) {x : Int} (ho : Y.2.2.2 = some .long) {r : MV} {v2 : Ct} (hd : decode Y.2.1 pc = .ok (.lreturn, 1)) (hr : vJ x = r) (hv : v = v2) : M κ N T pc L [vJ x] v mc ms (QR κ (some r) N T v2 mc ms) :=
  M_lretP C ho hd ⟨congrArg some hr, hv⟩
theorem M_dretP (C : CX κ Y d mc ms) {x : UInt64} (ho : Y.2.2.2 = some .double) {Post : Option MV → Ct → Prop} (hd : decode Y.2.1 pc = .ok (.dreturn, 1)) (hr : Post (some (vD x)) v) : M κ N T pc L [vD x] v mc ms (QP κ N T Post mc ms) := by
  obtain ⟨p, l, e, R, s, m, args, below, meth, c, b, δ⟩ := κ
  obtain ⟨hx, hb, hown, hts, hKK, hEX, hlocks, hnm, hret, hml, -⟩ := C
  intro H locs ls hR hS hL
  exact W.dret hx hb (hret.trans ho) (fun t ht hW => ⟨_, _, hr, rfl, by rw [ht]; exact hR, hS.F ht⟩) hS.2.2 hd hlocks
theorem M_dret (C : CX κ Y d mc ms) {x : UInt64} (ho : Y.2.2.2 = some .double) {r : MV} {v2 : Ct} (hd : decode Y.2.1 pc = .ok (.dreturn, 1)) (hr : vD x = r) (hv : v = v2) : M κ N T pc L [vD x] v mc ms (QR κ (some r) N T v2 mc ms) :=
  M_dretP C ho hd ⟨congrArg some hr, hv⟩
theorem M_vretP (C : CX κ Y d mc ms) {T2 : Ty} {Post : Option MV → Ct → Prop} (ho : Y.2.2.2 = none) (hd : decode Y.2.1 pc = .ok (.return_, 1)) (hr : Post none v) (hT : T = T2) : M κ N T pc L [] v mc ms (QP κ N T2 Post mc ms) := by
  subst hT
  obtain ⟨p, l, e, R, s, m, args, below, meth, c, b, δ⟩ := κ
  obtain ⟨hx, hb, hown, hts, hKK, hEX, hlocks, hnm, hret, hml, -⟩ := C
  intro H locs ls hR hS hL
  exact W.vret hx hb (hret.trans ho) (fun t ht hW => ⟨_, _, hr, rfl, by rw [ht]; exact hR, hS.F ht⟩) hS.2.2 hd hlocks
theorem M_vret (C : CX κ Y d mc ms) {v2 : Ct} {T2 : Ty} (ho : Y.2.2.2 = none) (hd : decode Y.2.1 pc = .ok (.return_, 1)) (hv : v = v2) (hT : T = T2) : M κ N T pc L [] v mc ms (QR κ none N T2 v2 mc ms) :=
  M_vretP C ho hd ⟨rfl, hv⟩ hT
theorem M.widen {k2 n2 : Nat} (h1 : k ≤ k2) (h2 : n ≤ n2) (kk : M κ N T pc L st v k2 n2 Q) : M κ N T pc L st v k n Q := by
  obtain ⟨p, l, e, R, s, m, args, below, meth, c, b, δ⟩ := κ
  intro H locs ls hR hS hL
  exact W.widen h1 h2 (kk H locs ls hR hS hL)
end ROWS3
end
section
-- fields
/-- class c of the table, with what its fields need -/
def CF (c : Nat) (C : String) (Tt : u_T) (Nn : Nat) : Prop := vwCl[c]? = some (C, Tt, Nn) ∧ (∀ w ∈ u_ws C Tt Nn, w ∈ GW) ∧ (∃ ty : Nat → FieldType, ∀ k, k < Nn → parseFieldDescriptor (Tt k).2.2.1 = some (ty k)) ∧ (∀ a, a < Nn → ∀ b, b < Nn → a ≠ b → (Tt a).2.1 ≠ (Tt b).2.1)
/-- field kf of class c, as the class own reads it by its place idx -/
def FL (own : String) (idx c kf : Nat) : Prop := ∃ (C : String) (Tt : u_T) (Nn : Nat), CF c C Tt Nn ∧ kf < Nn ∧ (Tt kf).1 = C ∧ (Cond.fieldLink own idx C (Tt kf).2.1 (Tt kf).2.2.1 ∈ GW ∨ ∃ host, Cond.fieldLinkNest own idx C (Tt kf).2.1 (Tt kf).2.2.1 host ∈ OW)
theorem obj_P {b : Nat} {δ : DL} {c n0 a : Nat} {lk f : Nat → Int} {H : Heap} {C : String} {Tt : u_T} {Nn : Nat} (h : cellR b δ (c + 5, n0, lk) f a H) (hc : vwCl[c]? = some (C, Tt, Nn)) :
    va_P δ.1 vwCl [(a, .inr (c, (List.range Nn).map (objV b c lk f)))] H := by
  intro k q hk
  have hz : k < 1 := (List.getElem?_eq_some_iff.mp hk).1
  rw [show k = 0 by omega] at hk
  cases hk
  obtain ⟨r, h1, h2⟩ := h
  have hr : r = (C, Tt, Nn) := Option.some.inj (h1.symm.trans hc)
  subst hr
  refine ⟨_, hc, h2.to fun k hk => ?_⟩
  simp [vp_V, List.getD_eq_getElem?_getD, hk]
theorem objV_int {b c : Nat} {lk f : Nat → Int} {kf : Nat} (h : fldI c kf = true) : objV b c lk f kf = .int (Int32.ofInt (f kf)) := by
  unfold objV
  rw [if_pos h]
theorem objV_ref {b c : Nat} {lk f : Nat → Int} {kf : Nat} (h : fldI c kf = false) : objV b c lk f kf = rf b (lk kf) := by
  unfold objV
  rw [if_neg (by rw [h]; decide)]
section ROWS4
variable {κ : KX} {Y : MD} {d mc ms N : Nat} {T : Ty} {pc : Nat} {L : List (Option MV)} {st : List MV} {v : Ct} {k n : Nat} {Q : State → Prop}
theorem M_rd (C : CX κ Y d mc ms) (i j : Nat) (kk : i32 (v i j) → M κ N T pc L st v k n Q) : M κ N T pc L st v k n Q := by
  obtain ⟨p, l, e, R, s, m, args, below, meth, c', b, δ⟩ := κ
  intro H locs ls hR hS hL
  exact kk (hR.2.1 i j) H locs ls hR hS hL
theorem M_get (C : CX κ Y d mc ms) {idx c kf : Nat} (F : FL Y.1.cls idx c kf) {i : Int} (h0 : 0 ≤ i) {x : MV} (hT : (T i.toNat).1 = c + 5) (hx : ∀ b, objV b c (T i.toNat).2.2 (v i.toNat) kf = tv b x)
    (hd : decode Y.2.1 pc = .ok (.getfield idx, 3)) (kk : M κ N T (pc + 3) L (x :: st) v k n Q) : M κ N T pc L (vR i :: st) v k n Q := by
  obtain ⟨p, l, e, R, s, m, args, below, meth, c', b, δ⟩ := κ
  obtain ⟨hx', hb, hown, hts, hKK, hEX, hlocks, hnm, hret, hml, -⟩ := C
  intro H locs ls hR hS hL
  obtain ⟨Cn, Tt, Nn, ⟨hc, hin, -, -⟩, hk, hdec, hlink⟩ := F
  have h1 := (hR.2.2 i.toNat (by rw [hT]; omega)).2
  have h2 : cellR b δ (c + 5, (T i.toNat).2.1, (T i.toNat).2.2) (v i.toNat) (b + i.toNat) H := by
    rw [← hT]; exact h1
  have hP := obj_P h2 hc
  have hv : ((List.range Nn).map (objV b c (T i.toNat).2.2 (v i.toNat)))[kf]? = some (tv b x) := by
    rw [List.getElem?_map, List.getElem?_range hk, ← hx b]; rfl
  have h9 := kk H locs ls hR hS hL
  simp only [List.map_cons, tv, rf_pos h0] at h9 ⊢
  rcases hlink with hlink | ⟨host, hlink⟩
  · exact va_get hx' hb hts hin hown hKK hP 0 rfl hc kf hk (hts _ hlink) (fun x hx => by rw [hdec] at hx; exact hx) hv hd h9
  · exact va_getN hx' hb hts hin hown hKK hP 0 rfl hc kf hk (hEX.ow hlink) (fun x hx => by rw [hdec] at hx; exact hx) hv hd h9
theorem M_getI (C : CX κ Y d mc ms) {idx c kf n0 : Nat} {lk : Nat → Int} (F : FL Y.1.cls idx c kf) (hi : fldI c kf = true) {i : Int} (h0 : 0 ≤ i) (hT : T i.toNat = (c + 5, n0, lk))
    (hd : decode Y.2.1 pc = .ok (.getfield idx, 3)) (kk : i32 (v i.toNat kf) → M κ N T (pc + 3) L (vI (v i.toNat kf) :: st) v k n Q) : M κ N T pc L (vR i :: st) v k n Q :=
  M_rd C _ _ fun h9 => M_get C F h0 (by rw [hT]) (fun b => objV_int hi) hd (kk h9)
theorem M_getR (C : CX κ Y d mc ms) {idx c kf n0 : Nat} {lk : Nat → Int} (F : FL Y.1.cls idx c kf) (hi : fldI c kf = false) {i j : Int} (h0 : 0 ≤ i) (hT : T i.toNat = (c + 5, n0, lk)) (hj : lk kf = j)
    (hd : decode Y.2.1 pc = .ok (.getfield idx, 3)) (kk : M κ N T (pc + 3) L (vR j :: st) v k n Q) : M κ N T pc L (vR i :: st) v k n Q :=
  M_get C F h0 (by rw [hT]) (fun b => by rw [objV_ref hi, hT]; subst hj; rfl) hd kk
theorem M_putI (C : CX κ Y d mc ms) {idx c kf n0 : Nat} {lk : Nat → Int} (F : FL Y.1.cls idx c kf) (hi : fldI c kf = true) (hfin : ∀ C Tt Nn, vwCl[c]? = some (C, Tt, Nn) → (Tt kf).2.2.2 = false ∧ parseFieldDescriptor (Tt kf).2.2.1 = some .int) {i x : Int} (h0 : 0 ≤ i) (hT : T i.toNat = (c + 5, n0, lk)) (hx32 : i32 x)
    (hd : decode Y.2.1 pc = .ok (.putfield idx, 3)) (kk : M κ N T (pc + 3) L st (up v i.toNat kf x) k n Q) : M κ N T pc L (vI x :: vR i :: st) v k n Q := by
  obtain ⟨p, l, e, R, s, m, args, below, meth, c', b, δ⟩ := κ
  obtain ⟨hx', hb, hown, hts, hKK, hEX, hlocks, hnm, hret, hml, -⟩ := C
  intro H locs ls hR hS hL
  obtain ⟨Cn, Tt, Nn, ⟨hc, hin, ⟨ty0, hty⟩, hnm2⟩, hk, hdec, hlink⟩ := F
  obtain ⟨hf1, hf2⟩ := hfin _ _ _ hc
  have h1 := (hR.2.2 i.toNat (by rw [hT]; show c + 5 ≠ 0; omega)).2
  rw [hT] at h1
  obtain ⟨r, hr1, cell, q1, q2, q3, q4⟩ := h1
  have hr : r = (Cn, Tt, Nn) := Option.some.inj (hr1.symm.trans hc)
  subst hr
  have hap := va_apart (own := Y.1.cls) hts hin ty0 hty hnm2 hKK hc
  obtain ⟨hSl, hfc, kC, hkC, hkind⟩ := hKK.1 c _ hc
  obtain ⟨cf, kf2, fi, f, hif, hsl⟩ := hSl kf hk
  have hlay := hts _ (hin _ (u_in_lay hk))
  unfold u_lay at hlay
  rw [if_neg (by rw [hf1]; decide)] at hlay
  have hst := (u_facts hfc hkC (u_lays hts hin hk) hif).1
  have h6 := u_store (v := .int (Int32.ofInt x)) hfc hkC hkind hlay hif hf2 rfl rfl
  have fin : ∀ H' : Heap, H'[b + i.toNat]? = some (cell.setSlot f.slot (.int (Int32.ofInt x))) → H'.size = H.size → (∀ q, q ≠ b + i.toNat → H'[q]? = H[q]?) →
      W p l e R s m args below meth c' H' (locs ++ [⟨b + i.toNat, f.slot⟩]) k n Q (F0 m (pc + 3) ls (st.map (tv b))) := by
    intro H' e1 e2 e3
    rw [hsl] at e1 ⊢
    refine kk H' _ ls (hR.set (by rw [hT]; show c + 5 ≠ 0; omega) e2 e3 (fun _ _ => rfl) (fun a ha => by funext z; simp [up, ha]) (up_i32 hR.2.1 hx32 _ _) ?_) (hS.put e2 e3 (Nat.le_add_right _ _)) hL
    rw [hT]
    refine ⟨_, hc, t_OB.to (V := updV (objV b c lk (v i.toNat)) kf (.int (Int32.ofInt x))) ⟨_, e1, q2, q3, t_set q4 hap hk _⟩ (fun j _ => ?_)⟩
    by_cases hj : j = kf
    · subst hj
      rw [objV_int hi]
      simp [updV, up]
    · simp [updV, up, objV, hj]
  simp only [List.map_cons, tv, rf_pos h0]
  have hif2 : s.fieldFound? Cn (Tt kf).2.1 (Tt kf).2.2.1 = some (cf, kf2, fi, f) := by rw [hdec] at hif; exact hif
  rcases hlink with hlink | ⟨host, hlink⟩
  · exact W.putK hx' hb (f := f) ⟨hown, hts _ hlink, ⟨_, _, _, hif2⟩, hst⟩ (by rw [q2]; exact h6) q1 q3 (by rw [hsl]; exact k2_hasslot (q4 kf hk)) rfl rfl hd fin
  · exact va_WputK hx' hb (f := f) hown (hEX.ow hlink) hif2 hst (by rw [q2]; exact h6) q1 q3 (by rw [hsl]; exact k2_hasslot (q4 kf hk)) rfl rfl hd fin
/-- a final reference field, in its own constructor -/
theorem M_putF (C : CX κ Y d mc ms) {idx c kf n0 : Nat} {lk : Nat → Int} (F : FL Y.1.cls idx c kf) (hi : fldI c kf = false) (hown2 : ∀ C Tt Nn, vwCl[c]? = some (C, Tt, Nn) → C = Y.1.cls ∧ (Tt kf).2.2.2 = true ∧ ∃ ty, parseFieldDescriptor (Tt kf).2.2.1 = some ty ∧ ∀ a, narrow ty (.ref a) = .ref a ∧ fits ty (.ref a) = true) (hlk : ∀ C Tt Nn, vwCl[c]? = some (C, Tt, Nn) → Cond.fieldLink Y.1.cls idx C (Tt kf).2.1 (Tt kf).2.2.1 ∈ GW) (hin2 : Y.1.name = "<init>") {i x : Int} (h0 : 0 ≤ i) (hx0 : 0 ≤ x) (hT : T i.toNat = (c + 5, n0, lk))
    (hd : decode Y.2.1 pc = .ok (.putfield idx, 3)) (kk : M κ N (upL T i.toNat kf x) (pc + 3) L st v k n Q) : M κ N T pc L (vR x :: vR i :: st) v k n Q := by
  obtain ⟨p, l, e, R, s, m, args, below, meth, c', b, δ⟩ := κ
  obtain ⟨hx', hb, hown, hts, hKK, hEX, hlocks, hnm, hret, hml, -⟩ := C
  intro H locs ls hR hS hL
  obtain ⟨Cn, Tt, Nn, ⟨hc, hin, ⟨ty0, hty⟩, hnm2⟩, hk, hdec, -⟩ := F
  obtain ⟨hf0, hf1, ty, hf2, hf3⟩ := hown2 _ _ _ hc
  have hlink := hlk _ _ _ hc
  have h1 := (hR.2.2 i.toNat (by rw [hT]; show c + 5 ≠ 0; omega)).2
  rw [hT] at h1
  obtain ⟨r, hr1, cell, q1, q2, q3, q4⟩ := h1
  have hr : r = (Cn, Tt, Nn) := Option.some.inj (hr1.symm.trans hc)
  subst hr
  have hap := va_apart (own := Y.1.cls) hts hin ty0 hty hnm2 hKK hc
  obtain ⟨hSl, hfc, kC, hkC, hkind⟩ := hKK.1 c _ hc
  obtain ⟨cf, kf2, fi, f, hif, hsl⟩ := hSl kf hk
  have hlay := hts _ (hin _ (u_in_lay hk))
  unfold u_lay at hlay
  rw [if_pos hf1] at hlay
  have hst := (u_facts hfc hkC (u_lays hts hin hk) hif).1
  have hcf : m.cls = cf := by
    obtain ⟨_, _, c9, _, _, _, -, -, hf', -, -, -, hown3, -⟩ := Cond.laysFinal_spec hlay
    have e1 : c9 = cf := by have := hif.symm.trans hf'; simp at this; exact this.1.symm
    rw [hdec, hf0] at hown3
    rw [← e1]; exact Option.some.inj (hown.symm.trans hown3)
  have h6 := u_fits (v := .ref (b + x.toNat)) hfc hkC hkind (Or.inr hlay) hif hf2 (hf3 _).1 (hf3 _).2
  have hif2 : s.fieldFound? Cn (Tt kf).2.1 (Tt kf).2.2.1 = some (cf, kf2, fi, f) := by rw [hdec] at hif; exact hif
  simp only [List.map_cons, tv, rf_pos h0, rf_pos hx0]
  refine W.putFinK hx' hb hown (hts _ hlink) hif2 hst hcf (hnm.trans hin2) (by rw [q2]; exact h6) q1 q3 (by rw [hsl]; exact k2_hasslot (q4 kf hk)) rfl rfl hd fun H' e1 e2 e3 => ?_
  rw [hsl] at e1 ⊢
  refine kk H' _ ls (hR.set (by rw [hT]; show c + 5 ≠ 0; omega) e2 e3 (fun a ha => by simp [upL, ha]) (fun _ _ => rfl) hR.2.1 ?_) (hS.put e2 e3 (Nat.le_add_right _ _)) hL
  have hT2 : upL T i.toNat kf x i.toNat = (c + 5, n0, fun z => if z = kf then x else lk z) := by simp [upL, hT]
  rw [hT2]
  refine ⟨_, hc, t_OB.to (V := updV (objV b c lk (v i.toNat)) kf (.ref (b + x.toNat))) ⟨_, e1, q2, q3, t_set q4 hap hk _⟩ (fun j _ => ?_)⟩
  by_cases hj : j = kf
  · subst hj
    rw [objV_ref hi]
    simp [updV, rf_pos hx0]
  · simp [updV, objV, hj]
-- arrays
theorem vin_of {j : Int} {len : Nat} (h : 0 ≤ j ∧ j < len) (hl : (len : Int) < 2147483648) : ¬ (Int32.ofInt j < 0 ∨ len ≤ (Int32.ofInt j).toNatClampNeg) := by
  rintro (q | q)
  · exact ofInt_neg ⟨h.1, by omega⟩ q
  · rw [ofInt_nat ⟨h.1, by omega⟩] at q
    omega
theorem M_iald (C : CX κ Y d mc ms) {i j : Int} {len : Nat} {lk : Nat → Int} (h0 : 0 ≤ i) (hT : T i.toNat = (1, len, lk)) (hj : 0 ≤ j ∧ j < len) (hl : (len : Int) < 2147483648)
    (hd : decode Y.2.1 pc = .ok (.iaload, 1)) (kk : i32 (v i.toNat j.toNat) → M κ N T (pc + 1) L (vI (v i.toNat j.toNat) :: st) v k n Q) : M κ N T pc L (vI j :: vR i :: st) v k n Q := by
  obtain ⟨p, l, e, R, s, m, args, below, meth, c', b, δ⟩ := κ
  obtain ⟨hx', hb, hown, hts, hKK, hEX, hlocks, hnm, hret, hml, -⟩ := C
  intro H locs ls hR hS hL
  have h1 := (hR.2.2 i.toNat (by rw [hT]; exact Nat.succ_ne_zero _)).2
  rw [hT] at h1
  have h9 := kk (hR.2.1 _ _) H locs ls hR hS hL
  simp only [List.map_cons, tv, rf_pos h0] at h9 ⊢
  exact W.iald (v := .int (Int32.ofInt (v i.toNat j.toNat))) hx' hb h1 ((hKK.2 0 _ rfl).1 len (fun j => .int (Int32.ofInt (v i.toNat j)))) (fun q => by cases q) (by show ¬ (_ ∨ (arrV _ _ _).slots.size ≤ _); rw [arrV_size]; exact vin_of hj hl) (by show (arrV _ _ _).slots[_]? = _; rw [ofInt_nat ⟨hj.1, by omega⟩, arrV_read _ _ (show j.toNat < len by omega)]) rfl rfl hd h9
theorem M_zald (C : CX κ Y d mc ms) {i j : Int} {len : Nat} {lk : Nat → Int} (h0 : 0 ≤ i) (hT : T i.toNat = (2, len, lk)) (hj : 0 ≤ j ∧ j < len) (hl : (len : Int) < 2147483648)
    (hd : decode Y.2.1 pc = .ok (.baload, 1)) (kk : i32 (v i.toNat j.toNat) → M κ N T (pc + 1) L (vI (v i.toNat j.toNat) :: st) v k n Q) : M κ N T pc L (vI j :: vR i :: st) v k n Q := by
  obtain ⟨p, l, e, R, s, m, args, below, meth, c', b, δ⟩ := κ
  obtain ⟨hx', hb, hown, hts, hKK, hEX, hlocks, hnm, hret, hml, -⟩ := C
  intro H locs ls hR hS hL
  have h1 := (hR.2.2 i.toNat (by rw [hT]; exact Nat.succ_ne_zero _)).2
  rw [hT] at h1
  have h9 := kk (hR.2.1 _ _) H locs ls hR hS hL
  simp only [List.map_cons, tv, rf_pos h0] at h9 ⊢
  exact W.zald (v := .int (Int32.ofInt (v i.toNat j.toNat))) hx' hb h1 ((hKK.2 1 _ rfl).1 len (fun j => .int (Int32.ofInt (v i.toNat j)))) (fun q => by cases q) (by show ¬ (_ ∨ (arrV _ _ _).slots.size ≤ _); rw [arrV_size]; exact vin_of hj hl) (by show (arrV _ _ _).slots[_]? = _; rw [ofInt_nat ⟨hj.1, by omega⟩, arrV_read _ _ (show j.toNat < len by omega)]) rfl rfl hd h9
theorem M_lald (C : CX κ Y d mc ms) {i j : Int} {len : Nat} {lk : Nat → Int} (h0 : 0 ≤ i) (hT : T i.toNat = (3, len, lk)) (hj : 0 ≤ j ∧ j < len) (hl : (len : Int) < 2147483648)
    (hd : decode Y.2.1 pc = .ok (.laload, 1)) (kk : i32 (v i.toNat j.toNat) → M κ N T (pc + 1) L (vJ (v i.toNat j.toNat) :: st) v k n Q) : M κ N T pc L (vI j :: vR i :: st) v k n Q := by
  obtain ⟨p, l, e, R, s, m, args, below, meth, c', b, δ⟩ := κ
  obtain ⟨hx', hb, hown, hts, hKK, hEX, hlocks, hnm, hret, hml, -⟩ := C
  intro H locs ls hR hS hL
  have h1 := (hR.2.2 i.toNat (by rw [hT]; exact Nat.succ_ne_zero _)).2
  rw [hT] at h1
  have h9 := kk (hR.2.1 _ _) H locs ls hR hS hL
  simp only [List.map_cons, tv, rf_pos h0] at h9 ⊢
  exact W.lald (v := .long (Int64.ofInt (v i.toNat j.toNat))) hx' hb h1 ((hKK.2 2 _ rfl).1 len (fun j => .long (Int64.ofInt (v i.toNat j)))) (fun q => by cases q) (by show ¬ (_ ∨ (arrV _ _ _).slots.size ≤ _); rw [arrV_size]; exact vin_of hj hl) (by show (arrV _ _ _).slots[_]? = _; rw [ofInt_nat ⟨hj.1, by omega⟩, arrV_read _ _ (show j.toNat < len by omega)]) rfl rfl hd h9
theorem M_aald (C : CX κ Y d mc ms) {i j : Int} {len : Nat} {lk : Nat → Int} (h0 : 0 ≤ i) (hT : T i.toNat = (4, len, lk)) (hj : 0 ≤ j ∧ j < len) (hl : (len : Int) < 2147483648)
    (hd : decode Y.2.1 pc = .ok (.aaload, 1)) (kk : i32 (v i.toNat j.toNat) → M κ N T (pc + 1) L (vR (v i.toNat j.toNat) :: st) v k n Q) : M κ N T pc L (vI j :: vR i :: st) v k n Q := by
  obtain ⟨p, l, e, R, s, m, args, below, meth, c', b, δ⟩ := κ
  obtain ⟨hx', hb, hown, hts, hKK, hEX, hlocks, hnm, hret, hml, -⟩ := C
  intro H locs ls hR hS hL
  have h1 := (hR.2.2 i.toNat (by rw [hT]; exact Nat.succ_ne_zero _)).2
  rw [hT] at h1
  have h9 := kk (hR.2.1 _ _) H locs ls hR hS hL
  simp only [List.map_cons, tv, rf_pos h0] at h9 ⊢
  exact W.aald (v := rf b (v i.toNat j.toNat)) (ty := .object RX0) hx' hb h1 ((hKK.2 3 _ rfl).1 len (fun j => rf b (v i.toNat j))) rfl (fun q => by cases q) (by show ¬ (_ ∨ (arrV _ _ _).slots.size ≤ _); rw [arrV_size]; exact vin_of hj hl) (by show (arrV _ _ _).slots[_]? = _; rw [ofInt_nat ⟨hj.1, by omega⟩, arrV_read _ _ (show j.toNat < len by omega)]) rfl rfl hd h9
theorem up_row (v : Ct) (i j : Nat) (x : Int) : up v i j x i = fun z => if z = j then x else v i z := by funext z; simp [up]
theorem M_iast (C : CX κ Y d mc ms) {i j x : Int} {len : Nat} {lk : Nat → Int} (h0 : 0 ≤ i) (hT : T i.toNat = (1, len, lk)) (hj : 0 ≤ j ∧ j < len) (hl : (len : Int) < 2147483648) (hx32 : i32 x)
    (hd : decode Y.2.1 pc = .ok (.iastore, 1)) (kk : M κ N T (pc + 1) L st (up v i.toNat j.toNat x) k n Q) : M κ N T pc L (vI x :: vI j :: vR i :: st) v k n Q := by
  obtain ⟨p, l, e, R, s, m, args, below, meth, c', b, δ⟩ := κ
  obtain ⟨hx', hb, hown, hts, hKK, hEX, hlocks, hnm, hret, hml, -⟩ := C
  intro H locs ls hR hS hL
  have h1 := (hR.2.2 i.toNat (by rw [hT]; exact Nat.succ_ne_zero _)).2
  rw [hT] at h1
  simp only [List.map_cons, tv, rf_pos h0]
  refine W.iast hx' hb h1 ((hKK.2 0 _ rfl).1 len (fun j => .int (Int32.ofInt (v i.toNat j)))) (fun q => by cases q) (by show ¬ (_ ∨ (arrV _ _ _).slots.size ≤ _); rw [arrV_size]; exact vin_of hj hl) rfl rfl hd fun H1 e z oq => ?_
  refine kk H1 _ ls (hR.set (by rw [hT]; exact Nat.succ_ne_zero _) z oq (fun _ _ => rfl) (fun a ha => by funext z; simp [up, ha]) (up_i32 hR.2.1 hx32 _ _) ?_) (hS.put z oq (Nat.le_add_right _ _)) hL
  rw [hT, up_row]
  show H1[_]? = some (arrV _ _ _)
  rw [e, arrV_store, ofInt_nat ⟨hj.1, by omega⟩]
  congr 2
  funext q
  by_cases hq : q = j.toNat <;> simp [updV, hq]
theorem M_last (C : CX κ Y d mc ms) {i j x : Int} {len : Nat} {lk : Nat → Int} (h0 : 0 ≤ i) (hT : T i.toNat = (3, len, lk)) (hj : 0 ≤ j ∧ j < len) (hl : (len : Int) < 2147483648) (hx32 : i32 x)
    (hd : decode Y.2.1 pc = .ok (.lastore, 1)) (kk : M κ N T (pc + 1) L st (up v i.toNat j.toNat x) k n Q) : M κ N T pc L (vJ x :: vI j :: vR i :: st) v k n Q := by
  obtain ⟨p, l, e, R, s, m, args, below, meth, c', b, δ⟩ := κ
  obtain ⟨hx', hb, hown, hts, hKK, hEX, hlocks, hnm, hret, hml, -⟩ := C
  intro H locs ls hR hS hL
  have h1 := (hR.2.2 i.toNat (by rw [hT]; exact Nat.succ_ne_zero _)).2
  rw [hT] at h1
  simp only [List.map_cons, tv, rf_pos h0]
  refine W.last hx' hb h1 ((hKK.2 2 _ rfl).1 len (fun j => .long (Int64.ofInt (v i.toNat j)))) (fun q => by cases q) (by show ¬ (_ ∨ (arrV _ _ _).slots.size ≤ _); rw [arrV_size]; exact vin_of hj hl) rfl rfl hd fun H1 e z oq => ?_
  refine kk H1 _ ls (hR.set (by rw [hT]; exact Nat.succ_ne_zero _) z oq (fun _ _ => rfl) (fun a ha => by funext z; simp [up, ha]) (up_i32 hR.2.1 hx32 _ _) ?_) (hS.put z oq (Nat.le_add_right _ _)) hL
  rw [hT, up_row]
  show H1[_]? = some (arrV _ _ _)
  rw [e, arrV_store, ofInt_nat ⟨hj.1, by omega⟩]
  congr 2
  funext q
  by_cases hq : q = j.toNat <;> simp [updV, hq]
theorem M_zast (C : CX κ Y d mc ms) {i j x : Int} {len : Nat} {lk : Nat → Int} (h0 : 0 ≤ i) (hT : T i.toNat = (2, len, lk)) (hj : 0 ≤ j ∧ j < len) (hl : (len : Int) < 2147483648) (hz : x = 0 ∨ x = 1) (hx32 : i32 x)
    (hd : decode Y.2.1 pc = .ok (.bastore, 1)) (kk : M κ N T (pc + 1) L st (up v i.toNat j.toNat x) k n Q) : M κ N T pc L (vI x :: vI j :: vR i :: st) v k n Q := by
  obtain ⟨p, l, e, R, s, m, args, below, meth, c', b, δ⟩ := κ
  obtain ⟨hx', hb, hown, hts, hKK, hEX, hlocks, hnm, hret, hml, -⟩ := C
  intro H locs ls hR hS hL
  have h1 := (hR.2.2 i.toNat (by rw [hT]; exact Nat.succ_ne_zero _)).2
  rw [hT] at h1
  simp only [List.map_cons, tv, rf_pos h0]
  have hn : narrow .boolean (.int (Int32.ofInt x)) = .int (Int32.ofInt x) := by rcases hz with rfl | rfl <;> rfl
  refine W.zast hx' hb h1 ((hKK.2 1 _ rfl).1 len (fun j => .int (Int32.ofInt (v i.toNat j)))) (fun q => by cases q) (by show ¬ (_ ∨ (arrV _ _ _).slots.size ≤ _); rw [arrV_size]; exact vin_of hj hl) rfl rfl hd fun H1 e z oq => ?_
  refine kk H1 _ ls (hR.set (by rw [hT]; exact Nat.succ_ne_zero _) z oq (fun _ _ => rfl) (fun a ha => by funext z; simp [up, ha]) (up_i32 hR.2.1 hx32 _ _) ?_) (hS.put z oq (Nat.le_add_right _ _)) hL
  rw [hT, up_row]
  show H1[_]? = some (arrV _ _ _)
  rw [e, hn, arrV_store, ofInt_nat ⟨hj.1, by omega⟩]
  congr 2
  funext q
  by_cases hq : q = j.toNat <;> simp [updV, hq]
/-- a Disk into an array of Disks -/
theorem M_aast (C : CX κ Y d mc ms) {i j x : Int} {len n2 : Nat} {lk lk2 : Nat → Int} (h0 : 0 ≤ i) (hT : T i.toNat = (4, len, lk)) (hj : 0 ≤ j ∧ j < len) (hl : (len : Int) < 2147483648) (hx0 : 0 ≤ x) (hTx : T x.toNat = (5, n2, lk2)) (hx32 : i32 x)
    (hd : decode Y.2.1 pc = .ok (.aastore, 1)) (kk : M κ N T (pc + 1) L st (up v i.toNat j.toNat x) k n Q) : M κ N T pc L (vR x :: vI j :: vR i :: st) v k n Q := by
  obtain ⟨p, l, e, R, s, m, args, below, meth, c', b, δ⟩ := κ
  obtain ⟨hx', hb, hown, hts, hKK, hEX, hlocks, hnm, hret, hml, -⟩ := C
  intro H locs ls hR hS hL
  have h1 := (hR.2.2 i.toNat (by rw [hT]; exact Nat.succ_ne_zero _)).2
  rw [hT] at h1
  have h2 := (hR.2.2 x.toNat (by rw [hTx]; exact Nat.succ_ne_zero _)).2
  rw [hTx] at h2
  obtain ⟨r', hr', cellV, g1, g2, g3, -⟩ := h2
  have hcls := (hKK.1 0 (RX0, TX0, 11) rfl).2
  obtain ⟨kA, comp, k1, k2, k3, -⟩ := (hKK.2 3 _ rfl).2
  have hcomp : comp = δ.1.1 0 := Option.some.inj (k3.symm.trans hcls.1)
  subst hcomp
  obtain ⟨kC, hkC, -⟩ := hcls.2
  simp only [List.map_cons, tv, rf_pos h0, rf_pos hx0]
  refine W.aast hx' hb h1 (fun q h => by cases h) (fun h => by cases h) k1 k2 rfl hkC ⟨ofInt_neg ⟨hj.1, by omega⟩, (show (Int32.ofInt j).toNatClampNeg < (arrV δ.2.2.2.2 len (fun j => rf b (v i.toNat j))).slots.size by rw [arrV_size, ofInt_nat ⟨hj.1, by omega⟩]; omega)⟩ g1 (fun q h => by rw [g3] at h; cases h) (by rw [g2]; exact hkC) (by rw [g2]; exact va_assign hcls) rfl rfl hd fun H1 e z oq => ?_
  refine kk H1 _ ls (hR.set (by rw [hT]; exact Nat.succ_ne_zero _) z oq (fun _ _ => rfl) (fun a ha => by funext z; simp [up, ha]) (up_i32 hR.2.1 hx32 _ _) ?_) (hS.put z oq (Nat.le_add_right _ _)) hL
  rw [hT, up_row]
  show H1[_]? = some (arrV _ _ _)
  rw [e, arrV_store, ofInt_nat ⟨hj.1, by omega⟩]
  congr 2
  funext q
  by_cases hq : q = j.toNat <;> simp [updV, hq, rf_pos hx0]
end ROWS4
end
section
-- objects and arrays that are made
section ROWS5
variable {κ : KX} {Y : MD} {d mc ms N : Nat} {T : Ty} {pc : Nat} {L : List (Option MV)} {st : List MV} {v : Ct} {k n : Nat} {Q : State → Prop}
theorem CX.room (C : CX κ Y d mc ms) : (match κ with | (_, _, _, R, _, _, _, _, _, _, _, _) => d ≤ R.frames ∧ 80 * d ≤ R.locals ∧ mc ≤ R.cells ∧ ms ≤ R.slots) := by
  obtain ⟨p, l, e, R, s, m, args, below, meth, c', b, δ⟩ := κ
  obtain ⟨-, -, -, -, -, -, -, -, -, -, -, -, h1, h2, h3, h4⟩ := C
  exact ⟨h1, h2, h3, h4⟩
theorem M_new (C : CX κ Y d mc ms) {idx c Nn : Nat} {Cn : String} {Tt : u_T} (hc : CF c Cn Tt Nn) (hcl : Cond.classLink Y.1.cls idx Cn ∈ GW) (hins : Cond.instantiable Cn Nn ∈ GW) (hini : Cond.initialized Cn ∈ GW)
    (hk : k + 1 ≤ mc ∧ n + Nn ≤ ms) (hdv : ∀ j, j < Nn → (if fldI c j = true then parseFieldDescriptor (Tt j).2.2.1 = some .int else ∃ ty, parseFieldDescriptor (Tt j).2.2.1 = some ty ∧ defaultValue ty = .null))
    (hd : decode Y.2.1 pc = .ok (.new idx, 3)) (kk : M κ (N + 1) (newT T N (c + 5) 0) (pc + 3) L (vR N :: st) (newV v N 0) (k + 1) (n + Nn) Q) : M κ N T pc L st v k n Q := by
  obtain ⟨p, l, e, R, s, m, args, below, meth, c', b, δ⟩ := κ
  obtain ⟨hx', hb, hown, hts, hKK, hEX, hlocks, hnm, hret, hml, -, -, hr1, hr2, hr3, hr4⟩ := C
  obtain ⟨hc, hin, ⟨ty, hty⟩, -⟩ := hc
  intro H locs ls hR hS hL
  have hKn := hKK.1 c _ hc
  refine W.newcK hx' hb hown (hts _ hcl) (hts _ hins) (hts _ hini) rfl hd (by omega) (by omega) hKn.2.1 rfl fun H1 kC hkC e1 z1 o1 => ?_
  have h9 := kk H1 locs ls (hR.push (t := (c + 5, 0, fun _ => -1)) (f := fun _ => 0) z1 o1 (fun _ => rfl) (fun _ => rfl) (fun _ => by decide) ?_) ⟨Nat.le_trans hS.1 (by omega), fun x h1 h2 => (o1 x (Nat.lt_of_lt_of_le h1 hS.1)).trans (hS.2.1 x h1 h2), hS.2.2⟩ hL
  · simp only [List.map_cons, tv, rf_pos (Int.natCast_nonneg N), Int.toNat_natCast] at h9
    rw [hR.1]
    exact h9
  · rw [← hR.1]
    refine ⟨_, hc, (u_born ty hts hin hKn hkC e1 hty).to fun j hj => ?_⟩
    have h2 := hdv j hj
    unfold objV
    split at h2
    · rename_i hf
      rw [if_pos hf]
      have h3 := (hty j hj).symm.trans h2
      rw [Option.some.inj h3]
      rfl
    · rename_i hf
      obtain ⟨ty2, h3, h4⟩ := h2
      rw [if_neg hf, Option.some.inj ((hty j hj).symm.trans h3), h4]
      rfl
theorem cls_of {δ : DL} {U : State} (hK : KK δ U) {t : Nat} {cA : ClassId} {ty : FieldType} (h : [(δ.2.1, FieldType.int), (δ.2.2.1, .boolean), (δ.2.2.2.1, .long), (δ.2.2.2.2, .object RX0)][t]? = some (cA, ty)) {cB : ClassId} (hB : U.vm.findClass ("[" ++ ty.toString) = some cB) : cB = cA := by
  have h2 := (hK.2 t _ h).2
  cases ty with
  | object C =>
    obtain ⟨_, _, -, -, -, h3⟩ := h2
    exact Option.some.inj (hB.symm.trans h3)
  | _ => exact Option.some.inj (hB.symm.trans h2)
theorem M_newI (C : CX κ Y d mc ms) {z : Int} (harr : Cond.arrayClass .int ∈ GW) (hz : 0 ≤ z ∧ z < 65536) (hk : k + 1 ≤ mc ∧ n + z.toNat ≤ ms)
    (hd : decode Y.2.1 pc = .ok (.newarray .int, 2)) (kk : M κ (N + 1) (newT T N 1 z.toNat) (pc + 2) L (vR N :: st) (newV v N 0) (k + 1) (n + z.toNat) Q) : M κ N T pc L (vI z :: st) v k n Q := by
  obtain ⟨p, l, e, R, s, m, args, below, meth, c', b, δ⟩ := κ
  obtain ⟨hx', hb, hown, hts, hKK, hEX, hlocks, hnm, hret, hml, -, -, hr1, hr2, hr3, hr4⟩ := C
  intro H locs ls hR hS hL
  refine va_newaK (atype := .int) hx' hb (hts _ harr) rfl hd rfl (ofInt_neg ⟨hz.1, by omega⟩) (ofInt_nat ⟨hz.1, by omega⟩) (by show z.toNat * 4 ≤ 536870912; omega) (by omega) (by omega) rfl fun H1 cA e1 z1 o1 hAr hNm => ?_
  have hcA : cA = δ.2.1 := cls_of hKK (t := 0) rfl hNm
  subst hcA
  have h9 := kk H1 locs ls (hR.push (t := (1, z.toNat, fun _ => -1)) (f := fun _ => 0) z1 o1 (fun _ => rfl) (fun _ => rfl) (fun _ => by decide) (by rw [← hR.1]; exact e1)) ⟨Nat.le_trans hS.1 (by omega), fun x h1 h2 => (o1 x (Nat.lt_of_lt_of_le h1 hS.1)).trans (hS.2.1 x h1 h2), hS.2.2⟩ hL
  simp only [List.map_cons, tv, rf_pos (Int.natCast_nonneg N), Int.toNat_natCast] at h9
  rw [hR.1]
  exact h9
theorem M_newZ (C : CX κ Y d mc ms) {z : Int} (harr : Cond.arrayClass .boolean ∈ GW) (hz : 0 ≤ z ∧ z < 65536) (hk : k + 1 ≤ mc ∧ n + z.toNat ≤ ms)
    (hd : decode Y.2.1 pc = .ok (.newarray .boolean, 2)) (kk : M κ (N + 1) (newT T N 2 z.toNat) (pc + 2) L (vR N :: st) (newV v N 0) (k + 1) (n + z.toNat) Q) : M κ N T pc L (vI z :: st) v k n Q := by
  obtain ⟨p, l, e, R, s, m, args, below, meth, c', b, δ⟩ := κ
  obtain ⟨hx', hb, hown, hts, hKK, hEX, hlocks, hnm, hret, hml, -, -, hr1, hr2, hr3, hr4⟩ := C
  intro H locs ls hR hS hL
  refine va_newaK (atype := .boolean) hx' hb (hts _ harr) rfl hd rfl (ofInt_neg ⟨hz.1, by omega⟩) (ofInt_nat ⟨hz.1, by omega⟩) (by show z.toNat * 1 ≤ 536870912; omega) (by omega) (by omega) rfl fun H1 cA e1 z1 o1 hAr hNm => ?_
  have hcA : cA = δ.2.2.1 := cls_of hKK (t := 1) rfl hNm
  subst hcA
  have h9 := kk H1 locs ls (hR.push (t := (2, z.toNat, fun _ => -1)) (f := fun _ => 0) z1 o1 (fun _ => rfl) (fun _ => rfl) (fun _ => by decide) (by rw [← hR.1]; exact e1)) ⟨Nat.le_trans hS.1 (by omega), fun x h1 h2 => (o1 x (Nat.lt_of_lt_of_le h1 hS.1)).trans (hS.2.1 x h1 h2), hS.2.2⟩ hL
  simp only [List.map_cons, tv, rf_pos (Int.natCast_nonneg N), Int.toNat_natCast] at h9
  rw [hR.1]
  exact h9
theorem M_newJ (C : CX κ Y d mc ms) {z : Int} (harr : Cond.arrayClass .long ∈ GW) (hz : 0 ≤ z ∧ z < 65536) (hk : k + 1 ≤ mc ∧ n + z.toNat ≤ ms)
    (hd : decode Y.2.1 pc = .ok (.newarray .long, 2)) (kk : M κ (N + 1) (newT T N 3 z.toNat) (pc + 2) L (vR N :: st) (newV v N 0) (k + 1) (n + z.toNat) Q) : M κ N T pc L (vI z :: st) v k n Q := by
  obtain ⟨p, l, e, R, s, m, args, below, meth, c', b, δ⟩ := κ
  obtain ⟨hx', hb, hown, hts, hKK, hEX, hlocks, hnm, hret, hml, -, -, hr1, hr2, hr3, hr4⟩ := C
  intro H locs ls hR hS hL
  refine va_newaK (atype := .long) hx' hb (hts _ harr) rfl hd rfl (ofInt_neg ⟨hz.1, by omega⟩) (ofInt_nat ⟨hz.1, by omega⟩) (by show z.toNat * 8 ≤ 536870912; omega) (by omega) (by omega) rfl fun H1 cA e1 z1 o1 hAr hNm => ?_
  have hcA : cA = δ.2.2.2.1 := cls_of hKK (t := 2) rfl hNm
  subst hcA
  have h9 := kk H1 locs ls (hR.push (t := (3, z.toNat, fun _ => -1)) (f := fun _ => 0) z1 o1 (fun _ => rfl) (fun _ => rfl) (fun _ => by decide) (by rw [← hR.1]; exact e1)) ⟨Nat.le_trans hS.1 (by omega), fun x h1 h2 => (o1 x (Nat.lt_of_lt_of_le h1 hS.1)).trans (hS.2.1 x h1 h2), hS.2.2⟩ hL
  simp only [List.map_cons, tv, rf_pos (Int.natCast_nonneg N), Int.toNat_natCast] at h9
  rw [hR.1]
  exact h9
/-- an array of Disks -/
theorem M_newD (C : CX κ Y d mc ms) {z : Int} {idx : Nat} (hcl : Cond.classLink Y.1.cls idx RX0 ∈ GW) (hov : Cond.arrayOver (.object RX0) ∈ GW) (hz : 0 ≤ z ∧ z < 65536) (hk : k + 1 ≤ mc ∧ n + z.toNat ≤ ms)
    (hd : decode Y.2.1 pc = .ok (.anewarray idx, 3)) (kk : M κ (N + 1) (newT T N 4 z.toNat) (pc + 3) L (vR N :: st) (newV v N (-1)) (k + 1) (n + z.toNat) Q) : M κ N T pc L (vI z :: st) v k n Q := by
  obtain ⟨p, l, e, R, s, m, args, below, meth, c', b, δ⟩ := κ
  obtain ⟨hx', hb, hown, hts, hKK, hEX, hlocks, hnm, hret, hml, -, -, hr1, hr2, hr3, hr4⟩ := C
  intro H locs ls hR hS hL
  have hnat : (Int32.ofInt z).toNatClampNeg = z.toNat := ofInt_nat ⟨hz.1, by omega⟩
  refine W.anew hx' hb hown (hts _ hcl) (va_AO.use (show va_AO RX0 s from hts _ hov)) rfl hd rfl (ofInt_neg ⟨hz.1, by omega⟩) (by rw [hnat]; omega) (by omega) (by rw [hnat]; omega) fun cA kA comp f1 f2 f3 f4 => ?_
  rw [hnat]
  generalize hH1 : H.push ({ cls := cA, slots := Array.replicate z.toNat .null, vm := .none } : Cell) = H1
  have z1 : H1.size = H.size + 1 := by rw [← hH1, Array.size_push]
  have e1 : H1[H.size]? = some (arrV cA z.toNat (fun _ => .null)) := by rw [← hH1, Array.getElem?_push_size, ← arrV_new]
  have o1 : ∀ q : Nat, q < H.size → H1[q]? = H[q]? := fun q hq => by rw [← hH1, Array.getElem?_push, if_neg (Nat.ne_of_lt hq)]
  have hcA : cA = δ.2.2.2.2 := cls_of hKK (t := 3) rfl f1
  subst hcA
  have h9 := kk H1 locs ls (hR.push (t := (4, z.toNat, fun _ => -1)) (f := fun _ => -1) z1 o1 (fun _ => rfl) (fun _ => rfl) (fun _ => by decide) (by rw [← hR.1]; exact e1)) ⟨Nat.le_trans hS.1 (by omega), fun x h1 h2 => (o1 x (Nat.lt_of_lt_of_le h1 hS.1)).trans (hS.2.1 x h1 h2), hS.2.2⟩ hL
  simp only [List.map_cons, tv, rf_pos (Int.natCast_nonneg N), Int.toNat_natCast] at h9
  rw [hR.1]
  exact h9
/-- Object.<init> -/
theorem M_objInit (C : CX κ Y d mc ms) {idx : Nat} {x : Int} (h0 : 0 ≤ x) (hl1 : Cond.methodLink Y.1.cls idx Lib.objectInit ∈ GW) (hl2 : Cond.instanceMethod Lib.objectInit ∈ GW) (hl3 : Cond.code Lib.objectInit ⟨#[0xb1]⟩ 1 none ∈ GW) (hdd : 1 ≤ d)
    (hst : (st.map fun x => if mc2 x = true then 2 else 1).sum ≤ 8) (hd : decode Y.2.1 pc = .ok (.invokespecial idx, 3)) (kk : M κ N T (pc + 3) L st v k n Q) : M κ N T pc L (vR x :: st) v k n Q := by
  obtain ⟨p, l, e, R, s, m, args, below, meth, c', b, δ⟩ := κ
  obtain ⟨hx', hb, hown, hts, hKK, hEX, hlocks, hnm, hret, hml, -, -, hr1, hr2, hr3, hr4⟩ := C
  intro H locs ls hR hS hL
  have hw : ((st.map (tv b)).map fun v => v.category).sum ≤ 8 := by
    rw [List.map_map]
    rw [show (Value.category ∘ tv b) = (fun x => if mc2 x = true then 2 else 1) from funext fun x => tv_cat b x]
    exact hst
  simp only [List.map_cons, tv, rf_pos h0]
  exact W.objInit hx' hb hown (hts _ hl1) (hts _ hl2) (hts _ hl3) rfl hL.2.1 rfl hd (by omega) (show 2 * 0 + ((st.map (tv b)).map fun v => v.category).sum + 12 ≤ R.locals by omega) (kk H locs ls hR hS hL)
end ROWS5
end
section
-- calls
def mcs (st : List MV) : Nat := (st.map fun x => if mc2 x = true then 2 else 1).sum
theorem mcs_tv (b : Nat) (st : List MV) : ((st.map (tv b)).map fun v => v.category).sum = mcs st := by
  unfold mcs
  rw [List.map_map, show (Value.category ∘ tv b) = (fun x => if mc2 x = true then 2 else 1) from funext fun x => tv_cat b x]
/-- what the tables say of a method -/
def YW (Y : MD) (np : Nat) : Prop := Cond.code Y.1 Y.2.1 Y.2.2.1 Y.2.2.2 ∈ GW ∧ Cond.initialized Y.1.cls ∈ GW ∧ (Y.1.cls ≠ "java/lang/invoke/MethodHandle" ∧ Y.1.cls ≠ "java/lang/invoke/VarHandle") ∧ (parseMethodDescriptor Y.1.desc).map (fun d => d.parameters.length) = some np ∧ Y.2.2.1 ≤ 61
def YV (Y : MD) (np : Nat) : Prop := YW Y np ∧ Cond.instanceMethod Y.1 ∈ GW ∧ Cond.selects Y.1.cls Y.1 Y.1 ∈ GW
def YS (Y : MD) (np : Nat) : Prop := YW Y np ∧ Cond.static Y.1 ∈ GW
def YI (Y : MD) (np : Nat) : Prop := YW Y np ∧ Cond.instanceMethod Y.1 ∈ GW ∧ Y.1.name = "<init>" ∧ Y.2.2.2 = none
/-- a class's call of a method by its place idx -/
def LK (own : String) (idx : Nat) (y : MethodName) : Prop := Cond.methodLink own idx y ∈ GW ∨ ∃ host, Cond.methodLinkNest own idx y host ∈ OW
theorem GW_pay {Y : MD} (h : Cond.code Y.1 Y.2.1 Y.2.2.1 Y.2.2.2 ∈ GW) {args : Array Value} {s : State} (hts : ∀ w ∈ GW, w.before args s = true) : ∀ w ∈ wsOf Y, ∀ (a' : Array Value) (U : State), s.WarmedH U.vm → w.before a' U = true := by
  refine pay_in hts fun w hw => ?_
  rcases List.mem_cons.mp hw with e | e
  · rw [e]; exact ⟨h, good_of_word (GW_good _ h)⟩
  · exact ⟨e, good_of_word (GW_good _ e)⟩
section ROWS6
variable {p : Program} {l : Launch} {e : Env} {R : Room} {s : State} {m : MethodId} {args : Array Value} {below : List Frame} {meth : Method} {c : Code} {H : Heap} {locs : List Loc} {b : Nat} {δ : DL}
theorem blindR {as : List MV} {N : Nat} {T : Ty} {v : Ct} : FrameBlind (PcR b δ as N T v) := by
  intro a U g mk h
  obtain ⟨h1, h2, h3, h4⟩ := h
  exact ⟨h1, h2, va_K.moved (u := U) (U := U.calling g mk a) (Vm.Alike.refl U.vm) h3, h4.calling⟩
theorem preR {as : List MV} {N : Nat} {T : Ty} {v : Ct} {av : Array Value} (hav : av = (as.map (tv b)).toArray) (hR : Rep b δ N T v H) (hK : KK δ s) (hE : EX b s s.heap) (hS : va_S (AB b) s.heap H locs) : ∀ U : State, U.heap = H → s.WarmedH U.vm → PcR b δ as N T v av U := by
  intro U hU hW
  refine ⟨hav, by rw [hU]; exact hR, va_K.moved hW.alike hK, ?_⟩
  rw [hU]
  exact hE.to hW hS.2.1
theorem run_go {k n mc2 ms2 : Nat} {pc : Nat} {ls : Array Slot} {st0 rest : List Value} {Post : Option MV → Ct → Prop} {N2 : Nat} {T2 : Ty} {a : Array Value} {Q : State → Prop}
    (hr : va_Run p l e R s m args below meth c H locs k n mc2 ms2 (F0 m pc ls st0) rest (QcR b δ Post N2 T2 a) (AB b)) (hS : va_S (AB b) s.heap H locs)
    (kk : ∀ (r : Option MV) (v2 : Ct) (H1 : Heap) (locs1 : List Loc), Post r v2 → Rep b δ N2 T2 v2 H1 → va_S (AB b) s.heap H1 locs1 → W p l e R s m args below meth c H1 locs1 (k + mc2) (n + ms2) Q (F0 m (pc + 3) ls ((r.map (tv b)).toList ++ rest))) : W p l e R s m args below meth c H locs k n Q (F0 m pc ls st0) := by
  intro T hT X
  obtain ⟨x, st₀, t, T', L, h0, X', hL, e1, e2, ⟨r, v2, hpo, hv, hRp, hz, hk⟩, st⟩ := hr T hT X
  cases hv
  rw [h0] at hz hk
  obtain ⟨t2, a1, b1⟩ := kk r v2 T'.heap (locs ++ L) hpo (by rw [e1]; exact hRp)
    ⟨Nat.le_trans hS.1 (by rw [e1]; exact hz), fun q h1 h2 => by rw [e1, hk q (Nat.lt_of_lt_of_le h1 hS.1) h2]; exact hS.2.1 q h1 h2, fun q hq => by
      rcases List.mem_append.mp hq with h | h
      · exact hS.2.2 q h
      · exact hL q h⟩ T' rfl X'
  exact ⟨t2, st t2 a1, b1⟩
theorem cbR {Y2 : MD} {own : String} {idx np d2 mc2 ms2 d : Nat} (W2 : YW Y2 np) (hts : ∀ w ∈ GW, w.before args s = true) (hdd : d2 + 1 ≤ d) (h1 : d ≤ R.frames) (h2 : 80 * d ≤ R.locals) :
    ((rmd d2 mc2 ms2).cells = mc2 ∧ (rmd d2 mc2 ms2).slots = ms2 ∧ (rmd d2 mc2 ms2).frames + 1 ≤ R.frames ∧ 8 + (Y2.2.2.1 + 11) + (rmd d2 mc2 ms2).locals ≤ R.locals ∧ (∀ w ∈ wsOf Y2, ∀ (a' : Array Value) (U : State), s.WarmedH U.vm → w.before a' U = true) ∧ Cond.code Y2.1 Y2.2.1 Y2.2.2.1 Y2.2.2.2 ∈ wsOf Y2) ∧
    (Cond.code Y2.1 Y2.2.1 Y2.2.2.1 Y2.2.2.2).before args s = true ∧ (Cond.initialized Y2.1.cls).before args s = true ∧ (Y2.1.cls ≠ "java/lang/invoke/MethodHandle" ∧ Y2.1.cls ≠ "java/lang/invoke/VarHandle") ∧ (∀ sig, parseMethodDescriptor Y2.1.desc = some sig → np = sig.parameters.length) := by
  obtain ⟨w1, w2, w3, w4, w5⟩ := W2
  refine ⟨⟨rfl, rfl, ?_, ?_, GW_pay w1 hts, List.mem_cons_self⟩, hts _ w1, hts _ w2, w3, fun sig h => ?_⟩
  · show d2 + 1 ≤ R.frames
    omega
  · show 8 + (Y2.2.2.1 + 11) + 80 * d2 ≤ R.locals
    omega
  · rw [h] at w4
    exact (Option.some.inj w4).symm
end ROWS6
section ROWS7
variable {κ : KX} {Y : MD} {d mc ms N : Nat} {T : Ty} {pc : Nat} {L : List (Option MV)} {st rest : List MV} {v : Ct} {k n : Nat} {Q : State → Prop}
variable {Y2 : MD} {d2 mc2 ms2 np idx N2 : Nat} {as : List MV} {T2 : Ty} {Post : Option MV → Ct → Prop}
theorem M_callV (C : CX κ Y d mc ms) {i : Int} {c : Nat} (hR : RunsP Y2 d2 mc2 ms2 (vR i :: as) N T v N2 T2 Post) (W2 : YV Y2 np) (lk : LK Y.1.cls idx Y2.1) (h0 : 0 ≤ i) (hT : (T i.toNat).1 = c + 5) (hc : ∃ Tt Nn, vwCl[c]? = some (Y2.1.cls, Tt, Nn)) (hl : as.length = np)
    (hd : decode Y.2.1 pc = .ok (.invokevirtual idx, 3)) (hst : st = as.reverse ++ vR i :: rest) (hw : mcs rest ≤ 8) (hdd : d2 + 1 ≤ d) (hk : k + mc2 ≤ mc ∧ n + ms2 ≤ ms)
    (kk : ∀ r v2, Post r v2 → M κ N2 T2 (pc + 3) L (r.toList ++ rest) v2 (k + mc2) (n + ms2) Q) : M κ N T pc L st v k n Q := by
  subst hst
  obtain ⟨p, l, e, R, s, m, args, below, meth, c', b, δ⟩ := κ
  obtain ⟨hx', hb, hown, hts, hKK, hEX, hlocks, hnm, hret, hml, hst, -, hr1, hr2, hr3, hr4⟩ := C
  intro H locs ls hRp hS hL
  obtain ⟨W2, w6, w7⟩ := W2
  obtain ⟨cb1, cb2, cb3, cb4, cb5⟩ := cbR (R := R) (own := Y.1.cls) (idx := idx) (mc2 := mc2) (ms2 := ms2) W2 hts hdd hr1 hr2
  obtain ⟨Tt, Nn, hc⟩ := hc
  have h1 := (hRp.2.2 i.toNat (by rw [hT]; exact Nat.succ_ne_zero _)).2
  have h2 : cellR b δ (c + 5, (T i.toNat).2.1, (T i.toNat).2.2) (v i.toNat) (b + i.toNat) H := by
    rw [← hT]; exact h1
  have hrecv := va_recv hKK (obj_P h2 hc) (ci := c) (q0 := 0) hc rfl
  have hstk : (as.reverse ++ vR i :: rest).map (tv b) = (as.map (tv b)).reverse ++ .ref (b + i.toNat) :: rest.map (tv b) := by
    rw [List.map_append, List.map_reverse, List.map_cons]
    simp only [tv, rf_pos h0]
  have hav : (Value.ref (b + i.toNat) :: as.map (tv b)).toArray = ((vR i :: as).map (tv b)).toArray := by
    rw [List.map_cons]
    simp only [tv, rf_pos h0]
  rw [hstk]
  have hroom := lv_room (m := m) (pc := pc) (ls := ls) (rest := (as.map (tv b)).reverse ++ .ref (b + i.toNat) :: rest.map (tv b)) (st := rest.map (tv b)) (by rw [mcs_tv]; exact hw)
  refine run_go (δ := δ) (a := (Value.ref (b + i.toNat) :: as.map (tv b)).toArray) (rest := rest.map (tv b)) (Post := Post) (N2 := N2) (T2 := T2) (mc2 := mc2) (ms2 := ms2) ?_ hS (fun r v2 H1 locs1 hpo hR1 hS1 => ?_)
  · rcases lk with lk | ⟨host, lk⟩
    · exact va_runV (C := Y2.1.cls) (nL := c'.maxLocals) (Ts := GW) ⟨hx', hb, rfl, hown, hts⟩ (hR l b δ hst) ⟨⟨cb1.1, cb1.2.1, cb1.2.2.1, cb1.2.2.2.1, cb1.2.2.2.2.1, cb1.2.2.2.2.2, cb2, cb3, cb4, cb5, hts _ lk⟩, hts _ w6, hts _ w7⟩ ⟨blindR, hrecv, preR hav hRp hKK hEX hS⟩ rfl (by rw [List.length_map]; exact hl) hL.2.1 rfl hroom hd ⟨by omega, by omega⟩
    · exact va_runVN (C := Y2.1.cls) (nL := c'.maxLocals) (Ts := GW) ⟨hx', hb, rfl, hown, hts⟩ (hR l b δ hst) ⟨⟨cb1, cb2, cb3, cb4, cb5, hEX.ow lk⟩, hts _ w6, hts _ w7⟩ ⟨blindR, hrecv, preR hav hRp hKK hEX hS⟩ rfl (by rw [List.length_map]; exact hl) hL.2.1 rfl hroom hd ⟨by omega, by omega⟩
  · have h9 := kk r v2 hpo H1 locs1 ls hR1 hS1 hL
    cases r with
    | none => exact h9
    | some x => exact h9
theorem M_callS (C : CX κ Y d mc ms) (hR : RunsP Y2 d2 mc2 ms2 as N T v N2 T2 Post) (W2 : YS Y2 np) (lk : LK Y.1.cls idx Y2.1) (hl : as.length = np)
    (hd : decode Y.2.1 pc = .ok (.invokestatic idx, 3)) (hst : st = as.reverse ++ rest) (hw : mcs rest ≤ 8) (hdd : d2 + 1 ≤ d) (hk : k + mc2 ≤ mc ∧ n + ms2 ≤ ms)
    (kk : ∀ r v2, Post r v2 → M κ N2 T2 (pc + 3) L (r.toList ++ rest) v2 (k + mc2) (n + ms2) Q) : M κ N T pc L st v k n Q := by
  subst hst
  obtain ⟨p, l, e, R, s, m, args, below, meth, c', b, δ⟩ := κ
  obtain ⟨hx', hb, hown, hts, hKK, hEX, hlocks, hnm, hret, hml, hst, -, hr1, hr2, hr3, hr4⟩ := C
  intro H locs ls hRp hS hL
  obtain ⟨W2, w6⟩ := W2
  obtain ⟨cb1, cb2, cb3, cb4, cb5⟩ := cbR (R := R) (own := Y.1.cls) (idx := idx) (mc2 := mc2) (ms2 := ms2) W2 hts hdd hr1 hr2
  have hstk : (as.reverse ++ rest).map (tv b) = (as.map (tv b)).reverse ++ rest.map (tv b) := by
    rw [List.map_append, List.map_reverse]
  rw [hstk]
  have hroom := lv_room (m := m) (pc := pc) (ls := ls) (rest := (as.map (tv b)).reverse ++ rest.map (tv b)) (st := rest.map (tv b)) (by rw [mcs_tv]; exact hw)
  refine run_go (δ := δ) (a := (as.map (tv b)).toArray) (rest := rest.map (tv b)) (Post := Post) (N2 := N2) (T2 := T2) (mc2 := mc2) (ms2 := ms2) ?_ hS (fun r v2 H1 locs1 hpo hR1 hS1 => ?_)
  · rcases lk with lk | ⟨host, lk⟩
    · exact va_runS (nL := c'.maxLocals) (Ts := GW) ⟨hx', hb, rfl, hown, hts⟩ (hR l b δ hst) ⟨⟨cb1.1, cb1.2.1, cb1.2.2.1, cb1.2.2.2.1, cb1.2.2.2.2.1, cb1.2.2.2.2.2, cb2, cb3, cb4, cb5, hts _ lk⟩, hts _ w6⟩ ⟨blindR, preR rfl hRp hKK hEX hS⟩ rfl (by rw [List.length_map]; exact hl) hL.2.1 rfl hroom hd ⟨by omega, by omega⟩
    · exact va_runSN (nL := c'.maxLocals) (Ts := GW) ⟨hx', hb, rfl, hown, hts⟩ (hR l b δ hst) ⟨⟨cb1, cb2, cb3, cb4, cb5, hEX.ow lk⟩, hts _ w6, trivial⟩ ⟨blindR, preR rfl hRp hKK hEX hS⟩ rfl (by rw [List.length_map]; exact hl) hL.2.1 rfl hroom hd ⟨by omega, by omega⟩
  · have h9 := kk r v2 hpo H1 locs1 ls hR1 hS1 hL
    cases r with
    | none => exact h9
    | some x => exact h9
theorem M_callI (C : CX κ Y d mc ms) {i : Int} (hR : RunsP Y2 d2 mc2 ms2 (vR i :: as) N T v N2 T2 Post) (W2 : YI Y2 np) (lk : LK Y.1.cls idx Y2.1) (h0 : 0 ≤ i) (hl : as.length = np)
    (hd : decode Y.2.1 pc = .ok (.invokespecial idx, 3)) (hst : st = as.reverse ++ vR i :: rest) (hw : mcs rest ≤ 8) (hdd : d2 + 1 ≤ d) (hk : k + mc2 ≤ mc ∧ n + ms2 ≤ ms)
    (hnone : ∀ r v2, Post r v2 → r = none) (kk : ∀ v2, Post none v2 → M κ N2 T2 (pc + 3) L rest v2 (k + mc2) (n + ms2) Q) : M κ N T pc L st v k n Q := by
  subst hst
  obtain ⟨p, l, e, R, s, m, args, below, meth, c', b, δ⟩ := κ
  obtain ⟨hx', hb, hown, hts, hKK, hEX, hlocks, hnm, hret, hml, hst, -, hr1, hr2, hr3, hr4⟩ := C
  intro H locs ls hRp hS hL
  obtain ⟨W2, w6, w7, w8⟩ := W2
  obtain ⟨cb1, cb2, cb3, cb4, cb5⟩ := cbR (R := R) (own := Y.1.cls) (idx := idx) (mc2 := mc2) (ms2 := ms2) W2 hts hdd hr1 hr2
  have hstk : (as.reverse ++ vR i :: rest).map (tv b) = (as.map (tv b)).reverse ++ .ref (b + i.toNat) :: rest.map (tv b) := by
    rw [List.map_append, List.map_reverse, List.map_cons]
    simp only [tv, rf_pos h0]
  have hav : (Value.ref (b + i.toNat) :: as.map (tv b)).toArray = ((vR i :: as).map (tv b)).toArray := by
    rw [List.map_cons]
    simp only [tv, rf_pos h0]
  rw [hstk]
  have hroom := lv_room (m := m) (pc := pc) (ls := ls) (rest := (as.map (tv b)).reverse ++ .ref (b + i.toNat) :: rest.map (tv b)) (st := rest.map (tv b)) (by rw [mcs_tv]; exact hw)
  refine run_go (δ := δ) (a := (Value.ref (b + i.toNat) :: as.map (tv b)).toArray) (rest := rest.map (tv b)) (Post := Post) (N2 := N2) (T2 := T2) (mc2 := mc2) (ms2 := ms2) ?_ hS (fun r v2 H1 locs1 hpo hR1 hS1 => by have hn := hnone r v2 hpo; subst hn; exact kk v2 hpo H1 locs1 ls hR1 hS1 hL)
  rw [w8] at cb1 cb2
  rcases lk with lk | ⟨host, lk⟩
  · exact va_runI (nL := c'.maxLocals) (Ts := GW) ⟨hx', hb, rfl, hown, hts⟩ (hR l b δ hst) ⟨⟨cb1.1, cb1.2.1, cb1.2.2.1, cb1.2.2.2.1, cb1.2.2.2.2.1, cb1.2.2.2.2.2, cb2, cb3, cb4, cb5, hts _ lk⟩, w7, hts _ w6⟩ ⟨blindR, preR hav hRp hKK hEX hS⟩ rfl (by rw [List.length_map]; exact hl) hL.2.1 rfl hroom hd ⟨by omega, by omega⟩
  · exact va_runIN (nL := c'.maxLocals) (Ts := GW) ⟨hx', hb, rfl, hown, hts⟩ (hR l b δ hst) ⟨⟨cb1, cb2, cb3, cb4, cb5, hEX.ow lk⟩, w7, hts _ w6⟩ ⟨blindR, preR hav hRp hKK hEX hS⟩ rfl (by rw [List.length_map]; exact hl) hL.2.1 rfl hroom hd ⟨by omega, by omega⟩
end ROWS7
end
section
-- the heap's rows by numbers of cells
def fldP (c k : Nat) : Bool := match vwCl[c]? with
  | some r => !(r.2.1 k).2.2.2 && decide (parseFieldDescriptor (r.2.1 k).2.2.1 = some .int)
  | none => false
theorem GW_sub {ws : List Cond} (ps : List Nat) (hp : ws = ps.filterMap (fun i => tables_1[i]?)) (hg : ws.all goodWord = true) : ∀ w ∈ ws, w ∈ GW := by
  intro w hw
  have h1 := List.all_eq_true.mp hg w hw
  rw [hp] at hw
  obtain ⟨i, -, hi⟩ := List.mem_filterMap.mp hw
  exact GW_t hi h1
section ROWS8
variable {κ : KX} {Y : MD} {d mc ms N : Nat} {T : Ty} {pc : Nat} {L : List (Option MV)} {st : List MV} {v : Ct} {k n : Nat} {Q : State → Prop}
theorem A_getI (C : CX κ Y d mc ms) {idx c kf n0 a : Nat} {lk : Nat → Int} {i : Int} (F : FL Y.1.cls idx c kf) (hf : fldI c kf = true) (hi : i = (a : Int)) (hT : T a = (c + 5, n0, lk))
    (hd : decode Y.2.1 pc = .ok (.getfield idx, 3)) (kk : i32 (v a kf) → M κ N T (pc + 3) L (vI (v a kf) :: st) v k n Q) : M κ N T pc L (vR i :: st) v k n Q := by
  subst hi
  exact M_getI C F hf (Int.natCast_nonneg a) hT hd kk
theorem A_getR (C : CX κ Y d mc ms) {idx c kf n0 a : Nat} {lk : Nat → Int} {i j : Int} (F : FL Y.1.cls idx c kf) (hf : fldI c kf = false) (hi : i = (a : Int)) (hT : T a = (c + 5, n0, lk)) (hj : lk kf = j)
    (hd : decode Y.2.1 pc = .ok (.getfield idx, 3)) (kk : M κ N T (pc + 3) L (vR j :: st) v k n Q) : M κ N T pc L (vR i :: st) v k n Q := by
  subst hi
  exact M_getR C F hf (Int.natCast_nonneg a) hT hj hd kk
theorem A_putI (C : CX κ Y d mc ms) {idx c kf n0 a : Nat} {lk : Nat → Int} {i x : Int} (F : FL Y.1.cls idx c kf) (hf : fldI c kf = true) (hp : fldP c kf = true) (hi : i = (a : Int)) (hT : T a = (c + 5, n0, lk)) (hx : i32 x)
    (hd : decode Y.2.1 pc = .ok (.putfield idx, 3)) (kk : M κ N T (pc + 3) L st (up v a kf x) k n Q) : M κ N T pc L (vI x :: vR i :: st) v k n Q := by
  subst hi
  refine M_putI C F hf (fun Cn Tt Nn hc => ?_) (Int.natCast_nonneg a) hT hx hd kk
  unfold fldP at hp
  rw [hc] at hp
  simp only [Bool.and_eq_true, Bool.not_eq_true', decide_eq_true_eq] at hp
  exact hp
theorem A_iald (C : CX κ Y d mc ms) {a q len : Nat} {lk : Nat → Int} {i j : Int} (hi : i = (a : Int)) (hT : T a = (1, len, lk)) (hl : len ≤ 65536) (hj : j = (q : Int)) (hq : q < len)
    (hd : decode Y.2.1 pc = .ok (.iaload, 1)) (kk : i32 (v a q) → M κ N T (pc + 1) L (vI (v a q) :: st) v k n Q) : M κ N T pc L (vI j :: vR i :: st) v k n Q := by
  subst hi; subst hj
  exact M_iald C (Int.natCast_nonneg a) hT ⟨by omega, by omega⟩ (by omega) hd kk
theorem A_zald (C : CX κ Y d mc ms) {a q len : Nat} {lk : Nat → Int} {i j : Int} (hi : i = (a : Int)) (hT : T a = (2, len, lk)) (hl : len ≤ 65536) (hj : j = (q : Int)) (hq : q < len)
    (hd : decode Y.2.1 pc = .ok (.baload, 1)) (kk : i32 (v a q) → M κ N T (pc + 1) L (vI (v a q) :: st) v k n Q) : M κ N T pc L (vI j :: vR i :: st) v k n Q := by
  subst hi; subst hj
  exact M_zald C (Int.natCast_nonneg a) hT ⟨by omega, by omega⟩ (by omega) hd kk
theorem A_lald (C : CX κ Y d mc ms) {a q len : Nat} {lk : Nat → Int} {i j : Int} (hi : i = (a : Int)) (hT : T a = (3, len, lk)) (hl : len ≤ 65536) (hj : j = (q : Int)) (hq : q < len)
    (hd : decode Y.2.1 pc = .ok (.laload, 1)) (kk : i32 (v a q) → M κ N T (pc + 1) L (vJ (v a q) :: st) v k n Q) : M κ N T pc L (vI j :: vR i :: st) v k n Q := by
  subst hi; subst hj
  exact M_lald C (Int.natCast_nonneg a) hT ⟨by omega, by omega⟩ (by omega) hd kk
theorem A_aald (C : CX κ Y d mc ms) {a q len : Nat} {lk : Nat → Int} {i j : Int} (hi : i = (a : Int)) (hT : T a = (4, len, lk)) (hl : len ≤ 65536) (hj : j = (q : Int)) (hq : q < len)
    (hd : decode Y.2.1 pc = .ok (.aaload, 1)) (kk : i32 (v a q) → M κ N T (pc + 1) L (vR (v a q) :: st) v k n Q) : M κ N T pc L (vI j :: vR i :: st) v k n Q := by
  subst hi; subst hj
  exact M_aald C (Int.natCast_nonneg a) hT ⟨by omega, by omega⟩ (by omega) hd kk
theorem A_iast (C : CX κ Y d mc ms) {a q len : Nat} {lk : Nat → Int} {i j x : Int} (hi : i = (a : Int)) (hT : T a = (1, len, lk)) (hl : len ≤ 65536) (hj : j = (q : Int)) (hq : q < len) (hx : i32 x)
    (hd : decode Y.2.1 pc = .ok (.iastore, 1)) (kk : M κ N T (pc + 1) L st (up v a q x) k n Q) : M κ N T pc L (vI x :: vI j :: vR i :: st) v k n Q := by
  subst hi; subst hj
  exact M_iast C (Int.natCast_nonneg a) hT ⟨by omega, by omega⟩ (by omega) hx hd kk
theorem A_last (C : CX κ Y d mc ms) {a q len : Nat} {lk : Nat → Int} {i j x : Int} (hi : i = (a : Int)) (hT : T a = (3, len, lk)) (hl : len ≤ 65536) (hj : j = (q : Int)) (hq : q < len) (hx : i32 x)
    (hd : decode Y.2.1 pc = .ok (.lastore, 1)) (kk : M κ N T (pc + 1) L st (up v a q x) k n Q) : M κ N T pc L (vJ x :: vI j :: vR i :: st) v k n Q := by
  subst hi; subst hj
  exact M_last C (Int.natCast_nonneg a) hT ⟨by omega, by omega⟩ (by omega) hx hd kk
theorem A_zast (C : CX κ Y d mc ms) {a q len : Nat} {lk : Nat → Int} {i j x : Int} (hi : i = (a : Int)) (hT : T a = (2, len, lk)) (hl : len ≤ 65536) (hj : j = (q : Int)) (hq : q < len) (hx : x = 0 ∨ x = 1)
    (hd : decode Y.2.1 pc = .ok (.bastore, 1)) (kk : M κ N T (pc + 1) L st (up v a q x) k n Q) : M κ N T pc L (vI x :: vI j :: vR i :: st) v k n Q := by
  subst hi; subst hj
  exact M_zast C (Int.natCast_nonneg a) hT ⟨by omega, by omega⟩ (by omega) hx (by rcases hx with h | h <;> rw [h] <;> decide) hd kk
theorem A_aast (C : CX κ Y d mc ms) {a q len n2 g : Nat} {lk lk2 : Nat → Int} {i j x : Int} (hi : i = (a : Int)) (hT : T a = (4, len, lk)) (hl : len ≤ 65536) (hj : j = (q : Int)) (hq : q < len) (hx : x = (g : Int)) (hTx : T g = (5, n2, lk2)) (hg : i32 x)
    (hd : decode Y.2.1 pc = .ok (.aastore, 1)) (kk : M κ N T (pc + 1) L st (up v a q x) k n Q) : M κ N T pc L (vR x :: vI j :: vR i :: st) v k n Q := by
  subst hi; subst hj; subst hx
  exact M_aast C (Int.natCast_nonneg a) hT ⟨by omega, by omega⟩ (by omega) (Int.natCast_nonneg g) hTx hg hd kk
section calls
variable {rest : List MV} {Y2 : MD} {d2 np idx N2 : Nat} {as : List MV} {T2 : Ty} {v2 : Ct} {Post : Option MV → Ct → Prop}
/-- calls that make nothing: an answer; no answer; by what holds then, or exact -/
theorem A_pV (C : CX κ Y d mc ms) {i : Int} {a c : Nat} (hR : RunsP Y2 d2 0 0 (vR i :: as) N T v N T2 Post) (W2 : YV Y2 np) (lk : LK Y.1.cls idx Y2.1) (hi : i = (a : Int)) (hT : (T a).1 = c + 5) (hc : ∃ Tt Nn, vwCl[c]? = some (Y2.1.cls, Tt, Nn)) (hl : as.length = np)
    (hd : decode Y.2.1 pc = .ok (.invokevirtual idx, 3)) (hst : st = as.reverse ++ vR i :: rest) (hw : mcs rest ≤ 8) (hdd : d2 + 1 ≤ d) (hk : k ≤ mc ∧ n ≤ ms)
    (kk : ∀ r v2, Post r v2 → M κ N T2 (pc + 3) L (r.toList ++ rest) v2 k n Q) : M κ N T pc L st v k n Q := by
  subst hi
  exact M_callV C hR W2 lk (Int.natCast_nonneg a) hT hc hl hd hst hw hdd hk kk
theorem A_pS (C : CX κ Y d mc ms) (hR : RunsP Y2 d2 0 0 as N T v N T2 Post) (W2 : YS Y2 np) (lk : LK Y.1.cls idx Y2.1) (hl : as.length = np)
    (hd : decode Y.2.1 pc = .ok (.invokestatic idx, 3)) (hst : st = as.reverse ++ rest) (hw : mcs rest ≤ 8) (hdd : d2 + 1 ≤ d) (hk : k ≤ mc ∧ n ≤ ms)
    (kk : ∀ r v2, Post r v2 → M κ N T2 (pc + 3) L (r.toList ++ rest) v2 k n Q) : M κ N T pc L st v k n Q :=
  M_callS C hR W2 lk hl hd hst hw hdd hk kk
theorem A_cV (C : CX κ Y d mc ms) {i : Int} {a c : Nat} {x : MV} (hR : Runs Y2 d2 0 0 (vR i :: as) N T v (some x) N T2 v2) (W2 : YV Y2 np) (lk : LK Y.1.cls idx Y2.1) (hi : i = (a : Int)) (hT : (T a).1 = c + 5) (hc : ∃ Tt Nn, vwCl[c]? = some (Y2.1.cls, Tt, Nn)) (hl : as.length = np)
    (hd : decode Y.2.1 pc = .ok (.invokevirtual idx, 3)) (hst : st = as.reverse ++ vR i :: rest) (hw : mcs rest ≤ 8) (hdd : d2 + 1 ≤ d) (hk : k ≤ mc ∧ n ≤ ms)
    (kk : M κ N T2 (pc + 3) L (x :: rest) v2 k n Q) : M κ N T pc L st v k n Q :=
  A_pV C hR W2 lk hi hT hc hl hd hst hw hdd hk (fun r v3 h => by rw [h.1, h.2]; exact kk)
theorem A_cVv (C : CX κ Y d mc ms) {i : Int} {a c : Nat} (hR : Runs Y2 d2 0 0 (vR i :: as) N T v none N T2 v2) (W2 : YV Y2 np) (lk : LK Y.1.cls idx Y2.1) (hi : i = (a : Int)) (hT : (T a).1 = c + 5) (hc : ∃ Tt Nn, vwCl[c]? = some (Y2.1.cls, Tt, Nn)) (hl : as.length = np)
    (hd : decode Y.2.1 pc = .ok (.invokevirtual idx, 3)) (hst : st = as.reverse ++ vR i :: rest) (hw : mcs rest ≤ 8) (hdd : d2 + 1 ≤ d) (hk : k ≤ mc ∧ n ≤ ms)
    (kk : M κ N T2 (pc + 3) L rest v2 k n Q) : M κ N T pc L st v k n Q :=
  A_pV C hR W2 lk hi hT hc hl hd hst hw hdd hk (fun r v3 h => by rw [h.1, h.2]; exact kk)
theorem A_cS (C : CX κ Y d mc ms) {x : MV} (hR : Runs Y2 d2 0 0 as N T v (some x) N T2 v2) (W2 : YS Y2 np) (lk : LK Y.1.cls idx Y2.1) (hl : as.length = np)
    (hd : decode Y.2.1 pc = .ok (.invokestatic idx, 3)) (hst : st = as.reverse ++ rest) (hw : mcs rest ≤ 8) (hdd : d2 + 1 ≤ d) (hk : k ≤ mc ∧ n ≤ ms)
    (kk : M κ N T2 (pc + 3) L (x :: rest) v2 k n Q) : M κ N T pc L st v k n Q :=
  A_pS C hR W2 lk hl hd hst hw hdd hk (fun r v3 h => by rw [h.1, h.2]; exact kk)
theorem A_cSv (C : CX κ Y d mc ms) (hR : Runs Y2 d2 0 0 as N T v none N T2 v2) (W2 : YS Y2 np) (lk : LK Y.1.cls idx Y2.1) (hl : as.length = np)
    (hd : decode Y.2.1 pc = .ok (.invokestatic idx, 3)) (hst : st = as.reverse ++ rest) (hw : mcs rest ≤ 8) (hdd : d2 + 1 ≤ d) (hk : k ≤ mc ∧ n ≤ ms)
    (kk : M κ N T2 (pc + 3) L rest v2 k n Q) : M κ N T pc L st v k n Q :=
  A_pS C hR W2 lk hl hd hst hw hdd hk (fun r v3 h => by rw [h.1, h.2]; exact kk)
end calls
/-- a loop that counts up: what holds at the head with i, and one turn -/
theorem loop_up {P : Nat → Prop} (m : Nat) (hend : P m) (hstep : ∀ i, i < m → P (i + 1) → P i) : P 0 := by
  have h : ∀ j, j ≤ m → P (m - j) := by
    intro j
    induction j with
    | zero => intro _; exact hend
    | succ j ih =>
      intro hj
      refine hstep (m - (j + 1)) (by omega) ?_
      rw [show m - (j + 1) + 1 = m - j by omega]
      exact ih (by omega)
  have h2 := h m (Nat.le_refl m)
  rwa [Nat.sub_self] at h2
theorem loop_from {P : Nat → Prop} (a m : Nat) (ha : a ≤ m) (hend : P m) (hstep : ∀ i, a ≤ i → i < m → P (i + 1) → P i) : P a := by
  have h := loop_up (P := fun j => P (a + j)) (m - a) (by rw [show a + (m - a) = m by omega]; exact hend) (fun i hi h => hstep (a + i) (by omega) (by omega) h)
  exact h
end ROWS8
end
