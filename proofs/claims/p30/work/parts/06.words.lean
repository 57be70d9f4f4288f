theorem cf_0 : CF 0 RX0 TX0 11 := ⟨rfl, GW_sub [46, 48, 50, 52, 54, 56, 58, 60, 62, 64, 66] (by decide +kernel) (by decide +kernel), ⟨tyX0, tyX0_ok⟩, nmX0⟩
theorem cf_1 : CF 1 RX1 TX1 4 := ⟨rfl, GW_sub [170, 172, 174, 176] (by decide +kernel) (by decide +kernel), ⟨tyX1, tyX1_ok⟩, nmX1⟩
theorem cf_2 : CF 2 RX2 TX2 2 := ⟨rfl, GW_sub [81, 83] (by decide +kernel) (by decide +kernel), ⟨tyX2, tyX2_ok⟩, nmX2⟩
theorem cf_3 : CF 3 RX3 TX3 4 := ⟨rfl, GW_sub [109, 111, 113, 115] (by decide +kernel) (by decide +kernel), ⟨tyX3, tyX3_ok⟩, nmX3⟩
theorem cf_4 : CF 4 RX4 TX4 4 := ⟨rfl, GW_sub [149, 151, 153, 155] (by decide +kernel) (by decide +kernel), ⟨tyX4, tyX4_ok⟩, nmX4⟩
theorem cf_5 : CF 5 RX5 TX5 3 := ⟨rfl, GW_sub [138, 140, 142] (by decide +kernel) (by decide +kernel), ⟨tyX5, tyX5_ok⟩, nmX5⟩
theorem cf_6 : CF 6 RX6 TX6 2 := ⟨rfl, GW_sub [94, 96] (by decide +kernel) (by decide +kernel), ⟨tyX6, tyX6_ok⟩, nmX6⟩
theorem cf_7 : CF 7 RX7 TX7 7 := ⟨rfl, GW_sub [186, 188, 190, 192, 194, 196, 198] (by decide +kernel) (by decide +kernel), ⟨tyX7, tyX7_ok⟩, nmX7⟩
theorem fl_X0_9 : FL RX0 9 0 0 := ⟨_, _, _, cf_0, by decide, rfl, Or.inl (GW_t (i := 31) (by decide +kernel) rfl)⟩
theorem fl_X0_15 : FL RX0 15 0 1 := ⟨_, _, _, cf_0, by decide, rfl, Or.inl (GW_t (i := 32) (by decide +kernel) rfl)⟩
theorem fl_X0_18 : FL RX0 18 0 2 := ⟨_, _, _, cf_0, by decide, rfl, Or.inl (GW_t (i := 33) (by decide +kernel) rfl)⟩
theorem fl_X0_21 : FL RX0 21 0 3 := ⟨_, _, _, cf_0, by decide, rfl, Or.inl (GW_t (i := 34) (by decide +kernel) rfl)⟩
theorem fl_X0_24 : FL RX0 24 0 4 := ⟨_, _, _, cf_0, by decide, rfl, Or.inl (GW_t (i := 35) (by decide +kernel) rfl)⟩
theorem fl_X0_27 : FL RX0 27 0 5 := ⟨_, _, _, cf_0, by decide, rfl, Or.inl (GW_t (i := 36) (by decide +kernel) rfl)⟩
theorem fl_X0_30 : FL RX0 30 0 6 := ⟨_, _, _, cf_0, by decide, rfl, Or.inl (GW_t (i := 37) (by decide +kernel) rfl)⟩
theorem fl_X0_33 : FL RX0 33 0 7 := ⟨_, _, _, cf_0, by decide, rfl, Or.inl (GW_t (i := 38) (by decide +kernel) rfl)⟩
theorem fl_X0_36 : FL RX0 36 0 8 := ⟨_, _, _, cf_0, by decide, rfl, Or.inl (GW_t (i := 39) (by decide +kernel) rfl)⟩
theorem fl_X7_192 : FL RX7 192 0 8 := ⟨_, _, _, cf_0, by decide, rfl, Or.inr ⟨"TailBlocks", OW_t (i := 40) (by decide +kernel) rfl⟩⟩
theorem fl_X0_40 : FL RX0 40 0 9 := ⟨_, _, _, cf_0, by decide, rfl, Or.inl (GW_t (i := 41) (by decide +kernel) rfl)⟩
theorem fl_X4_66 : FL RX4 66 0 9 := ⟨_, _, _, cf_0, by decide, rfl, Or.inr ⟨"TailBlocks", OW_t (i := 42) (by decide +kernel) rfl⟩⟩
theorem fl_X7_195 : FL RX7 195 0 9 := ⟨_, _, _, cf_0, by decide, rfl, Or.inr ⟨"TailBlocks", OW_t (i := 43) (by decide +kernel) rfl⟩⟩
theorem fl_X0_43 : FL RX0 43 0 10 := ⟨_, _, _, cf_0, by decide, rfl, Or.inl (GW_t (i := 44) (by decide +kernel) rfl)⟩
theorem fl_X7_118 : FL RX7 118 0 10 := ⟨_, _, _, cf_0, by decide, rfl, Or.inr ⟨"TailBlocks", OW_t (i := 45) (by decide +kernel) rfl⟩⟩
theorem fl_X2_11 : FL RX2 11 2 0 := ⟨_, _, _, cf_2, by decide, rfl, Or.inl (GW_t (i := 79) (by decide +kernel) rfl)⟩
theorem fl_X2_17 : FL RX2 17 2 1 := ⟨_, _, _, cf_2, by decide, rfl, Or.inl (GW_t (i := 80) (by decide +kernel) rfl)⟩
theorem fl_X6_9 : FL RX6 9 6 0 := ⟨_, _, _, cf_6, by decide, rfl, Or.inl (GW_t (i := 92) (by decide +kernel) rfl)⟩
theorem fl_X6_15 : FL RX6 15 6 1 := ⟨_, _, _, cf_6, by decide, rfl, Or.inl (GW_t (i := 93) (by decide +kernel) rfl)⟩
theorem fl_X3_11 : FL RX3 11 3 0 := ⟨_, _, _, cf_3, by decide, rfl, Or.inl (GW_t (i := 105) (by decide +kernel) rfl)⟩
theorem fl_X3_15 : FL RX3 15 3 1 := ⟨_, _, _, cf_3, by decide, rfl, Or.inl (GW_t (i := 106) (by decide +kernel) rfl)⟩
theorem fl_X3_18 : FL RX3 18 3 2 := ⟨_, _, _, cf_3, by decide, rfl, Or.inl (GW_t (i := 107) (by decide +kernel) rfl)⟩
theorem fl_X3_21 : FL RX3 21 3 3 := ⟨_, _, _, cf_3, by decide, rfl, Or.inl (GW_t (i := 108) (by decide +kernel) rfl)⟩
theorem fl_X5_9 : FL RX5 9 5 0 := ⟨_, _, _, cf_5, by decide, rfl, Or.inl (GW_t (i := 130) (by decide +kernel) rfl)⟩
theorem fl_X4_56 : FL RX4 56 5 0 := ⟨_, _, _, cf_5, by decide, rfl, Or.inr ⟨"TailBlocks", OW_t (i := 131) (by decide +kernel) rfl⟩⟩
theorem fl_X5_15 : FL RX5 15 5 1 := ⟨_, _, _, cf_5, by decide, rfl, Or.inl (GW_t (i := 132) (by decide +kernel) rfl)⟩
theorem fl_X4_42 : FL RX4 42 5 1 := ⟨_, _, _, cf_5, by decide, rfl, Or.inr ⟨"TailBlocks", OW_t (i := 133) (by decide +kernel) rfl⟩⟩
theorem fl_X1_40 : FL RX1 40 5 1 := ⟨_, _, _, cf_5, by decide, rfl, Or.inr ⟨"TailBlocks", OW_t (i := 134) (by decide +kernel) rfl⟩⟩
theorem fl_X5_18 : FL RX5 18 5 2 := ⟨_, _, _, cf_5, by decide, rfl, Or.inl (GW_t (i := 135) (by decide +kernel) rfl)⟩
theorem fl_X1_32 : FL RX1 32 5 2 := ⟨_, _, _, cf_5, by decide, rfl, Or.inr ⟨"TailBlocks", OW_t (i := 136) (by decide +kernel) rfl⟩⟩
theorem fl_X4_38 : FL RX4 38 5 2 := ⟨_, _, _, cf_5, by decide, rfl, Or.inr ⟨"TailBlocks", OW_t (i := 137) (by decide +kernel) rfl⟩⟩
theorem fl_X4_12 : FL RX4 12 4 0 := ⟨_, _, _, cf_4, by decide, rfl, Or.inl (GW_t (i := 145) (by decide +kernel) rfl)⟩
theorem fl_X4_18 : FL RX4 18 4 1 := ⟨_, _, _, cf_4, by decide, rfl, Or.inl (GW_t (i := 146) (by decide +kernel) rfl)⟩
theorem fl_X4_22 : FL RX4 22 4 2 := ⟨_, _, _, cf_4, by decide, rfl, Or.inl (GW_t (i := 147) (by decide +kernel) rfl)⟩
theorem fl_X4_25 : FL RX4 25 4 3 := ⟨_, _, _, cf_4, by decide, rfl, Or.inl (GW_t (i := 148) (by decide +kernel) rfl)⟩
theorem fl_X1_12 : FL RX1 12 1 0 := ⟨_, _, _, cf_1, by decide, rfl, Or.inl (GW_t (i := 166) (by decide +kernel) rfl)⟩
theorem fl_X1_18 : FL RX1 18 1 1 := ⟨_, _, _, cf_1, by decide, rfl, Or.inl (GW_t (i := 167) (by decide +kernel) rfl)⟩
theorem fl_X1_22 : FL RX1 22 1 2 := ⟨_, _, _, cf_1, by decide, rfl, Or.inl (GW_t (i := 168) (by decide +kernel) rfl)⟩
theorem fl_X1_25 : FL RX1 25 1 3 := ⟨_, _, _, cf_1, by decide, rfl, Or.inl (GW_t (i := 169) (by decide +kernel) rfl)⟩
theorem fl_X7_12 : FL RX7 12 7 0 := ⟨_, _, _, cf_7, by decide, rfl, Or.inl (GW_t (i := 179) (by decide +kernel) rfl)⟩
theorem fl_X7_19 : FL RX7 19 7 1 := ⟨_, _, _, cf_7, by decide, rfl, Or.inl (GW_t (i := 180) (by decide +kernel) rfl)⟩
theorem fl_X7_23 : FL RX7 23 7 2 := ⟨_, _, _, cf_7, by decide, rfl, Or.inl (GW_t (i := 181) (by decide +kernel) rfl)⟩
theorem fl_X7_30 : FL RX7 30 7 3 := ⟨_, _, _, cf_7, by decide, rfl, Or.inl (GW_t (i := 182) (by decide +kernel) rfl)⟩
theorem fl_X7_37 : FL RX7 37 7 4 := ⟨_, _, _, cf_7, by decide, rfl, Or.inl (GW_t (i := 183) (by decide +kernel) rfl)⟩
theorem fl_X7_44 : FL RX7 44 7 5 := ⟨_, _, _, cf_7, by decide, rfl, Or.inl (GW_t (i := 184) (by decide +kernel) rfl)⟩
theorem fl_X7_51 : FL RX7 51 7 6 := ⟨_, _, _, cf_7, by decide, rfl, Or.inl (GW_t (i := 185) (by decide +kernel) rfl)⟩
abbrev mX7_init : MD := (yX7_init, cX7_init, 1, none)
theorem yw_X7_init : YI mX7_init 0 := ⟨⟨GW_t (i := 21) (by decide +kernel) rfl, GW_t (i := 1) (by decide +kernel) rfl, ⟨by decide, by decide⟩, by decide +kernel, by decide⟩, GW_t (i := 20) (by decide +kernel) rfl, rfl, rfl⟩
abbrev mX0_init : MD := (yX0_init, cX0_init, 2, none)
theorem yw_X0_init : YI mX0_init 0 := ⟨⟨GW_t (i := 29) (by decide +kernel) rfl, GW_t (i := 2) (by decide +kernel) rfl, ⟨by decide, by decide⟩, by decide +kernel, by decide⟩, GW_t (i := 28) (by decide +kernel) rfl, rfl, rfl⟩
abbrev mX2_init : MD := (yX2_init, cX2_init, 2, none)
theorem yw_X2_init : YI mX2_init 0 := ⟨⟨GW_t (i := 74) (by decide +kernel) rfl, GW_t (i := 3) (by decide +kernel) rfl, ⟨by decide, by decide⟩, by decide +kernel, by decide⟩, GW_t (i := 73) (by decide +kernel) rfl, rfl, rfl⟩
abbrev mX6_init : MD := (yX6_init, cX6_init, 1, none)
theorem yw_X6_init : YI mX6_init 0 := ⟨⟨GW_t (i := 90) (by decide +kernel) rfl, GW_t (i := 4) (by decide +kernel) rfl, ⟨by decide, by decide⟩, by decide +kernel, by decide⟩, GW_t (i := 89) (by decide +kernel) rfl, rfl, rfl⟩
abbrev mX3_init : MD := (yX3_init, cX3_init, 1, none)
theorem yw_X3_init : YI mX3_init 0 := ⟨⟨GW_t (i := 103) (by decide +kernel) rfl, GW_t (i := 5) (by decide +kernel) rfl, ⟨by decide, by decide⟩, by decide +kernel, by decide⟩, GW_t (i := 102) (by decide +kernel) rfl, rfl, rfl⟩
abbrev mX4_init : MD := (yX4_init, cX4_init, 1, none)
theorem yw_X4_init : YI mX4_init 0 := ⟨⟨GW_t (i := 122) (by decide +kernel) rfl, GW_t (i := 6) (by decide +kernel) rfl, ⟨by decide, by decide⟩, by decide +kernel, by decide⟩, GW_t (i := 121) (by decide +kernel) rfl, rfl, rfl⟩
abbrev mX5_init : MD := (yX5_init, cX5_init, 1, none)
theorem yw_X5_init : YI mX5_init 0 := ⟨⟨GW_t (i := 128) (by decide +kernel) rfl, GW_t (i := 7) (by decide +kernel) rfl, ⟨by decide, by decide⟩, by decide +kernel, by decide⟩, GW_t (i := 127) (by decide +kernel) rfl, rfl, rfl⟩
abbrev mX1_init : MD := (yX1_init, cX1_init, 1, none)
theorem yw_X1_init : YI mX1_init 0 := ⟨⟨GW_t (i := 162) (by decide +kernel) rfl, GW_t (i := 8) (by decide +kernel) rfl, ⟨by decide, by decide⟩, by decide +kernel, by decide⟩, GW_t (i := 161) (by decide +kernel) rfl, rfl, rfl⟩
abbrev mX7_delete : MD := (yX7_delete, cX7_delete, 2, (some .int))
theorem yw_X7_delete : YV mX7_delete 1 := ⟨⟨GW_t (i := 204) (by decide +kernel) rfl, GW_t (i := 1) (by decide +kernel) rfl, ⟨by decide, by decide⟩, by decide +kernel, by decide⟩, GW_t (i := 202) (by decide +kernel) rfl, GW_t (i := 203) (by decide +kernel) rfl⟩
abbrev mX7_checkFile : MD := (yX7_checkFile, cX7_checkFile, 2, none)
theorem yw_X7_checkFile : YV mX7_checkFile 1 := ⟨⟨GW_t (i := 208) (by decide +kernel) rfl, GW_t (i := 1) (by decide +kernel) rfl, ⟨by decide, by decide⟩, by decide +kernel, by decide⟩, GW_t (i := 207) (by decide +kernel) rfl, GW_p (i := 0) (by decide +kernel) rfl⟩
abbrev mX0_exists : MD := (yX0_exists, cX0_exists, 2, (some .boolean))
theorem yw_X0_exists : YV mX0_exists 1 := ⟨⟨GW_t (i := 212) (by decide +kernel) rfl, GW_t (i := 2) (by decide +kernel) rfl, ⟨by decide, by decide⟩, by decide +kernel, by decide⟩, GW_t (i := 210) (by decide +kernel) rfl, GW_t (i := 211) (by decide +kernel) rfl⟩
abbrev mX2_store : MD := (yX2_store, cX2_store, 2, none)
theorem yw_X2_store : YV mX2_store 1 := ⟨⟨GW_t (i := 284) (by decide +kernel) rfl, GW_t (i := 3) (by decide +kernel) rfl, ⟨by decide, by decide⟩, by decide +kernel, by decide⟩, GW_t (i := 282) (by decide +kernel) rfl, GW_t (i := 283) (by decide +kernel) rfl⟩
abbrev mX2_dropOldest : MD := (yX2_dropOldest, cX2_dropOldest, 3, none)
theorem yw_X2_dropOldest : YV mX2_dropOldest 0 := ⟨⟨GW_t (i := 288) (by decide +kernel) rfl, GW_t (i := 3) (by decide +kernel) rfl, ⟨by decide, by decide⟩, by decide +kernel, by decide⟩, GW_t (i := 286) (by decide +kernel) rfl, GW_t (i := 287) (by decide +kernel) rfl⟩
abbrev mX0_copyFrom : MD := (yX0_copyFrom, cX0_copyFrom, 3, none)
theorem yw_X0_copyFrom : YV mX0_copyFrom 1 := ⟨⟨GW_t (i := 292) (by decide +kernel) rfl, GW_t (i := 2) (by decide +kernel) rfl, ⟨by decide, by decide⟩, by decide +kernel, by decide⟩, GW_t (i := 290) (by decide +kernel) rfl, GW_t (i := 291) (by decide +kernel) rfl⟩
abbrev mX0_removeFile : MD := (yX0_removeFile, cX0_removeFile, 3, (some .int))
theorem yw_X0_removeFile : YV mX0_removeFile 1 := ⟨⟨GW_t (i := 296) (by decide +kernel) rfl, GW_t (i := 2) (by decide +kernel) rfl, ⟨by decide, by decide⟩, by decide +kernel, by decide⟩, GW_t (i := 294) (by decide +kernel) rfl, GW_t (i := 295) (by decide +kernel) rfl⟩
abbrev mX0_dropTail : MD := (yX0_dropTail, cX0_dropTail, 3, (some .int))
theorem yw_X0_dropTail : YV mX0_dropTail 1 := ⟨⟨GW_t (i := 301) (by decide +kernel) rfl, GW_t (i := 2) (by decide +kernel) rfl, ⟨by decide, by decide⟩, by decide +kernel, by decide⟩, GW_t (i := 299) (by decide +kernel) rfl, GW_t (i := 300) (by decide +kernel) rfl⟩
abbrev mX0_freeIfEmpty : MD := (yX0_freeIfEmpty, cX0_freeIfEmpty, 2, (some .int))
theorem yw_X0_freeIfEmpty : YV mX0_freeIfEmpty 1 := ⟨⟨GW_t (i := 305) (by decide +kernel) rfl, GW_t (i := 2) (by decide +kernel) rfl, ⟨by decide, by decide⟩, by decide +kernel, by decide⟩, GW_t (i := 303) (by decide +kernel) rfl, GW_t (i := 304) (by decide +kernel) rfl⟩
abbrev mX7_isBlock : MD := (yX7_isBlock, cX7_isBlock, 1, (some .boolean))
theorem yw_X7_isBlock : YS mX7_isBlock 1 := ⟨⟨GW_t (i := 308) (by decide +kernel) rfl, GW_t (i := 1) (by decide +kernel) rfl, ⟨by decide, by decide⟩, by decide +kernel, by decide⟩, GW_t (i := 307) (by decide +kernel) rfl⟩
abbrev mX0_takenCells : MD := (yX0_takenCells, cX0_takenCells, 5, (some .int))
theorem yw_X0_takenCells : YV mX0_takenCells 2 := ⟨⟨GW_t (i := 312) (by decide +kernel) rfl, GW_t (i := 2) (by decide +kernel) rfl, ⟨by decide, by decide⟩, by decide +kernel, by decide⟩, GW_t (i := 310) (by decide +kernel) rfl, GW_t (i := 311) (by decide +kernel) rfl⟩
abbrev mX0_dropWholes : MD := (yX0_dropWholes, cX0_dropWholes, 5, (some .int))
theorem yw_X0_dropWholes : YV mX0_dropWholes 2 := ⟨⟨GW_t (i := 316) (by decide +kernel) rfl, GW_t (i := 2) (by decide +kernel) rfl, ⟨by decide, by decide⟩, by decide +kernel, by decide⟩, GW_t (i := 314) (by decide +kernel) rfl, GW_t (i := 315) (by decide +kernel) rfl⟩
abbrev mX7_set : MD := (yX7_set, cX7_set, 3, (some .int))
theorem yw_X7_set : YV mX7_set 1 := ⟨⟨GW_t (i := 320) (by decide +kernel) rfl, GW_t (i := 1) (by decide +kernel) rfl, ⟨by decide, by decide⟩, by decide +kernel, by decide⟩, GW_t (i := 318) (by decide +kernel) rfl, GW_t (i := 319) (by decide +kernel) rfl⟩
abbrev mX7_checkArgument : MD := (yX7_checkArgument, cX7_checkArgument, 3, none)
theorem yw_X7_checkArgument : YS mX7_checkArgument 3 := ⟨⟨GW_t (i := 323) (by decide +kernel) rfl, GW_t (i := 1) (by decide +kernel) rfl, ⟨by decide, by decide⟩, by decide +kernel, by decide⟩, GW_t (i := 322) (by decide +kernel) rfl⟩
abbrev mX7_blockOf : MD := (yX7_blockOf, cX7_blockOf, 3, (some .int))
theorem yw_X7_blockOf : YV mX7_blockOf 2 := ⟨⟨GW_t (i := 343) (by decide +kernel) rfl, GW_t (i := 1) (by decide +kernel) rfl, ⟨by decide, by decide⟩, by decide +kernel, by decide⟩, GW_t (i := 341) (by decide +kernel) rfl, GW_t (i := 342) (by decide +kernel) rfl⟩
abbrev mX7_checkBlock : MD := (yX7_checkBlock, cX7_checkBlock, 1, none)
theorem yw_X7_checkBlock : YS mX7_checkBlock 1 := ⟨⟨GW_t (i := 346) (by decide +kernel) rfl, GW_t (i := 1) (by decide +kernel) rfl, ⟨by decide, by decide⟩, by decide +kernel, by decide⟩, GW_t (i := 345) (by decide +kernel) rfl⟩
abbrev mX0_blockProperty : MD := (yX0_blockProperty, cX0_blockProperty, 3, (some .int))
theorem yw_X0_blockProperty : YV mX0_blockProperty 2 := ⟨⟨GW_t (i := 352) (by decide +kernel) rfl, GW_t (i := 2) (by decide +kernel) rfl, ⟨by decide, by decide⟩, by decide +kernel, by decide⟩, GW_t (i := 350) (by decide +kernel) rfl, GW_t (i := 351) (by decide +kernel) rfl⟩
abbrev mX0_tailsIn : MD := (yX0_tailsIn, cX0_tailsIn, 4, (some .int))
theorem yw_X0_tailsIn : YV mX0_tailsIn 1 := ⟨⟨GW_t (i := 356) (by decide +kernel) rfl, GW_t (i := 2) (by decide +kernel) rfl, ⟨by decide, by decide⟩, by decide +kernel, by decide⟩, GW_t (i := 354) (by decide +kernel) rfl, GW_t (i := 355) (by decide +kernel) rfl⟩
abbrev mX0_kindOf : MD := (yX0_kindOf, cX0_kindOf, 2, (some .int))
theorem yw_X0_kindOf : YV mX0_kindOf 1 := ⟨⟨GW_t (i := 360) (by decide +kernel) rfl, GW_t (i := 2) (by decide +kernel) rfl, ⟨by decide, by decide⟩, by decide +kernel, by decide⟩, GW_t (i := 358) (by decide +kernel) rfl, GW_t (i := 359) (by decide +kernel) rfl⟩
abbrev mX0_tailCellsIn : MD := (yX0_tailCellsIn, cX0_tailCellsIn, 2, (some .int))
theorem yw_X0_tailCellsIn : YV mX0_tailCellsIn 1 := ⟨⟨GW_t (i := 364) (by decide +kernel) rfl, GW_t (i := 2) (by decide +kernel) rfl, ⟨by decide, by decide⟩, by decide +kernel, by decide⟩, GW_t (i := 362) (by decide +kernel) rfl, GW_t (i := 363) (by decide +kernel) rfl⟩
abbrev mJ6_bitCount_0f7a4 : MD := (yJ6_bitCount_0f7a4, cJ6_bitCount_0f7a4, 1, (some .int))
theorem yw_J6_bitCount_0f7a4 : YS mJ6_bitCount_0f7a4 1 := ⟨⟨GW_t (i := 367) (by decide +kernel) rfl, GW_t (i := 13) (by decide +kernel) rfl, ⟨by decide, by decide⟩, by decide +kernel, by decide⟩, GW_t (i := 366) (by decide +kernel) rfl⟩
abbrev mX0_longestGap : MD := (yX0_longestGap, cX0_longestGap, 4, (some .int))
theorem yw_X0_longestGap : YS mX0_longestGap 1 := ⟨⟨GW_t (i := 373) (by decide +kernel) rfl, GW_t (i := 2) (by decide +kernel) rfl, ⟨by decide, by decide⟩, by decide +kernel, by decide⟩, GW_t (i := 372) (by decide +kernel) rfl⟩
abbrev mX0_isTaken : MD := (yX0_isTaken, cX0_isTaken, 2, (some .boolean))
theorem yw_X0_isTaken : YS mX0_isTaken 2 := ⟨⟨GW_t (i := 376) (by decide +kernel) rfl, GW_t (i := 2) (by decide +kernel) rfl, ⟨by decide, by decide⟩, by decide +kernel, by decide⟩, GW_t (i := 375) (by decide +kernel) rfl⟩
abbrev mJ9_max_7cf53 : MD := (yJ9_max_7cf53, cJ9_max_7cf53, 2, (some .int))
theorem yw_J9_max_7cf53 : YS mJ9_max_7cf53 2 := ⟨⟨GW_t (i := 379) (by decide +kernel) rfl, GW_t (i := 15) (by decide +kernel) rfl, ⟨by decide, by decide⟩, by decide +kernel, by decide⟩, GW_t (i := 378) (by decide +kernel) rfl⟩
abbrev mX7_count : MD := (yX7_count, cX7_count, 2, (some .int))
theorem yw_X7_count : YV mX7_count 1 := ⟨⟨GW_t (i := 383) (by decide +kernel) rfl, GW_t (i := 1) (by decide +kernel) rfl, ⟨by decide, by decide⟩, by decide +kernel, by decide⟩, GW_t (i := 381) (by decide +kernel) rfl, GW_t (i := 382) (by decide +kernel) rfl⟩
abbrev mX0_files : MD := (yX0_files, cX0_files, 3, (some .int))
theorem yw_X0_files : YV mX0_files 0 := ⟨⟨GW_t (i := 387) (by decide +kernel) rfl, GW_t (i := 2) (by decide +kernel) rfl, ⟨by decide, by decide⟩, by decide +kernel, by decide⟩, GW_t (i := 385) (by decide +kernel) rfl, GW_t (i := 386) (by decide +kernel) rfl⟩
abbrev mX0_blocksOf : MD := (yX0_blocksOf, cX0_blocksOf, 4, (some .int))
theorem yw_X0_blocksOf : YV mX0_blocksOf 1 := ⟨⟨GW_t (i := 391) (by decide +kernel) rfl, GW_t (i := 2) (by decide +kernel) rfl, ⟨by decide, by decide⟩, by decide +kernel, by decide⟩, GW_t (i := 389) (by decide +kernel) rfl, GW_t (i := 390) (by decide +kernel) rfl⟩
abbrev mX0_sharedTailCells : MD := (yX0_sharedTailCells, cX0_sharedTailCells, 3, (some .int))
theorem yw_X0_sharedTailCells : YV mX0_sharedTailCells 0 := ⟨⟨GW_t (i := 395) (by decide +kernel) rfl, GW_t (i := 2) (by decide +kernel) rfl, ⟨by decide, by decide⟩, by decide +kernel, by decide⟩, GW_t (i := 393) (by decide +kernel) rfl, GW_t (i := 394) (by decide +kernel) rfl⟩
abbrev mX0_brokenFiles : MD := (yX0_brokenFiles, cX0_brokenFiles, 3, (some .int))
theorem yw_X0_brokenFiles : YV mX0_brokenFiles 0 := ⟨⟨GW_t (i := 399) (by decide +kernel) rfl, GW_t (i := 2) (by decide +kernel) rfl, ⟨by decide, by decide⟩, by decide +kernel, by decide⟩, GW_t (i := 397) (by decide +kernel) rfl, GW_t (i := 398) (by decide +kernel) rfl⟩
abbrev mX2_held : MD := (yX2_held, cX2_held, 1, (some .int))
theorem yw_X2_held : YV mX2_held 0 := ⟨⟨GW_t (i := 403) (by decide +kernel) rfl, GW_t (i := 3) (by decide +kernel) rfl, ⟨by decide, by decide⟩, by decide +kernel, by decide⟩, GW_t (i := 401) (by decide +kernel) rfl, GW_t (i := 402) (by decide +kernel) rfl⟩
abbrev mL_cell : MD := (yL_cell, cL_cell, 2, (some .int))
theorem yw_L_cell : YS mL_cell 2 := ⟨⟨GW_t (i := 406) (by decide +kernel) rfl, GW_t (i := 0) (by decide +kernel) rfl, ⟨by decide, by decide⟩, by decide +kernel, by decide⟩, GW_t (i := 405) (by decide +kernel) rfl⟩
abbrev mL_low : MD := (yL_low, cL_low, 2, (some .int))
theorem yw_L_low : YS mL_low 2 := ⟨⟨GW_t (i := 410) (by decide +kernel) rfl, GW_t (i := 0) (by decide +kernel) rfl, ⟨by decide, by decide⟩, by decide +kernel, by decide⟩, GW_t (i := 409) (by decide +kernel) rfl⟩
abbrev mL_has : MD := (yL_has, cL_has, 2, (some .boolean))
theorem yw_L_has : YS mL_has 2 := ⟨⟨GW_t (i := 414) (by decide +kernel) rfl, GW_t (i := 0) (by decide +kernel) rfl, ⟨by decide, by decide⟩, by decide +kernel, by decide⟩, GW_t (i := 413) (by decide +kernel) rfl⟩
abbrev mL_places : MD := (yL_places, cL_places, 10, (some .boolean))
theorem yw_L_places : YS mL_places 2 := ⟨⟨GW_t (i := 417) (by decide +kernel) rfl, GW_t (i := 0) (by decide +kernel) rfl, ⟨by decide, by decide⟩, by decide +kernel, by decide⟩, GW_t (i := 416) (by decide +kernel) rfl⟩
abbrev mX7_fileOf : MD := (yX7_fileOf, cX7_fileOf, 3, (some .int))
theorem yw_X7_fileOf : YV mX7_fileOf 2 := ⟨⟨GW_t (i := 421) (by decide +kernel) rfl, GW_t (i := 1) (by decide +kernel) rfl, ⟨by decide, by decide⟩, by decide +kernel, by decide⟩, GW_t (i := 419) (by decide +kernel) rfl, GW_t (i := 420) (by decide +kernel) rfl⟩
abbrev mX0_fileProperty : MD := (yX0_fileProperty, cX0_fileProperty, 3, (some .int))
theorem yw_X0_fileProperty : YV mX0_fileProperty 2 := ⟨⟨GW_t (i := 425) (by decide +kernel) rfl, GW_t (i := 2) (by decide +kernel) rfl, ⟨by decide, by decide⟩, by decide +kernel, by decide⟩, GW_t (i := 423) (by decide +kernel) rfl, GW_t (i := 424) (by decide +kernel) rfl⟩
abbrev mX7_place : MD := (yX7_place, cX7_place, 3, (some .int))
theorem yw_X7_place : YV mX7_place 2 := ⟨⟨GW_t (i := 429) (by decide +kernel) rfl, GW_t (i := 1) (by decide +kernel) rfl, ⟨by decide, by decide⟩, by decide +kernel, by decide⟩, GW_t (i := 427) (by decide +kernel) rfl, GW_t (i := 428) (by decide +kernel) rfl⟩
abbrev mX0_sizeOf : MD := (yX0_sizeOf, cX0_sizeOf, 2, (some .int))
theorem yw_X0_sizeOf : YV mX0_sizeOf 1 := ⟨⟨GW_t (i := 433) (by decide +kernel) rfl, GW_t (i := 2) (by decide +kernel) rfl, ⟨by decide, by decide⟩, by decide +kernel, by decide⟩, GW_t (i := 431) (by decide +kernel) rfl, GW_t (i := 432) (by decide +kernel) rfl⟩
abbrev mX0_whereIs : MD := (yX0_whereIs, cX0_whereIs, 4, (some .int))
theorem yw_X0_whereIs : YV mX0_whereIs 2 := ⟨⟨GW_t (i := 438) (by decide +kernel) rfl, GW_t (i := 2) (by decide +kernel) rfl, ⟨by decide, by decide⟩, by decide +kernel, by decide⟩, GW_t (i := 436) (by decide +kernel) rfl, GW_t (i := 437) (by decide +kernel) rfl⟩
abbrev mL_file : MD := (yL_file, cL_file, 6, (some .boolean))
theorem yw_L_file : YS mL_file 3 := ⟨⟨GW_t (i := 441) (by decide +kernel) rfl, GW_t (i := 0) (by decide +kernel) rfl, ⟨by decide, by decide⟩, by decide +kernel, by decide⟩, GW_t (i := 440) (by decide +kernel) rfl⟩
abbrev mL_blocks : MD := (yL_blocks, cL_blocks, 10, (some .boolean))
theorem yw_L_blocks : YS mL_blocks 2 := ⟨⟨GW_t (i := 444) (by decide +kernel) rfl, GW_t (i := 0) (by decide +kernel) rfl, ⟨by decide, by decide⟩, by decide +kernel, by decide⟩, GW_t (i := 443) (by decide +kernel) rfl⟩
abbrev mL_comes : MD := (yL_comes, cL_comes, 10, (some .int))
theorem yw_L_comes : YS mL_comes 3 := ⟨⟨GW_t (i := 447) (by decide +kernel) rfl, GW_t (i := 0) (by decide +kernel) rfl, ⟨by decide, by decide⟩, by decide +kernel, by decide⟩, GW_t (i := 446) (by decide +kernel) rfl⟩
abbrev mL_hasGap : MD := (yL_hasGap, cL_hasGap, 4, (some .boolean))
theorem yw_L_hasGap : YS mL_hasGap 2 := ⟨⟨GW_t (i := 450) (by decide +kernel) rfl, GW_t (i := 0) (by decide +kernel) rfl, ⟨by decide, by decide⟩, by decide +kernel, by decide⟩, GW_t (i := 449) (by decide +kernel) rfl⟩
abbrev mX7_greatest : MD := (yX7_greatest, cX7_greatest, 2, (some .int))
theorem yw_X7_greatest : YV mX7_greatest 0 := ⟨⟨GW_t (i := 454) (by decide +kernel) rfl, GW_t (i := 1) (by decide +kernel) rfl, ⟨by decide, by decide⟩, by decide +kernel, by decide⟩, GW_t (i := 452) (by decide +kernel) rfl, GW_t (i := 453) (by decide +kernel) rfl⟩
abbrev mX0_hasRoomFor : MD := (yX0_hasRoomFor, cX0_hasRoomFor, 2, (some .boolean))
theorem yw_X0_hasRoomFor : YV mX0_hasRoomFor 1 := ⟨⟨GW_t (i := 458) (by decide +kernel) rfl, GW_t (i := 2) (by decide +kernel) rfl, ⟨by decide, by decide⟩, by decide +kernel, by decide⟩, GW_t (i := 456) (by decide +kernel) rfl, GW_t (i := 457) (by decide +kernel) rfl⟩
abbrev mX0_lowestNumber : MD := (yX0_lowestNumber, cX0_lowestNumber, 2, (some .int))
theorem yw_X0_lowestNumber : YV mX0_lowestNumber 0 := ⟨⟨GW_t (i := 462) (by decide +kernel) rfl, GW_t (i := 2) (by decide +kernel) rfl, ⟨by decide, by decide⟩, by decide +kernel, by decide⟩, GW_t (i := 460) (by decide +kernel) rfl, GW_t (i := 461) (by decide +kernel) rfl⟩
abbrev mX0_isEnough : MD := (yX0_isEnough, cX0_isEnough, 8, (some .boolean))
theorem yw_X0_isEnough : YV mX0_isEnough 3 := ⟨⟨GW_t (i := 466) (by decide +kernel) rfl, GW_t (i := 2) (by decide +kernel) rfl, ⟨by decide, by decide⟩, by decide +kernel, by decide⟩, GW_t (i := 464) (by decide +kernel) rfl, GW_t (i := 465) (by decide +kernel) rfl⟩
abbrev mX7_create : MD := (yX7_create, cX7_create, 2, (some .int))
theorem yw_X7_create : YV mX7_create 1 := ⟨⟨GW_t (i := 470) (by decide +kernel) rfl, GW_t (i := 1) (by decide +kernel) rfl, ⟨by decide, by decide⟩, by decide +kernel, by decide⟩, GW_t (i := 468) (by decide +kernel) rfl, GW_t (i := 469) (by decide +kernel) rfl⟩
abbrev mX0_addFile : MD := (yX0_addFile, cX0_addFile, 3, (some .int))
theorem yw_X0_addFile : YV mX0_addFile 1 := ⟨⟨GW_t (i := 474) (by decide +kernel) rfl, GW_t (i := 2) (by decide +kernel) rfl, ⟨by decide, by decide⟩, by decide +kernel, by decide⟩, GW_t (i := 472) (by decide +kernel) rfl, GW_t (i := 473) (by decide +kernel) rfl⟩
abbrev mX0_rebuild : MD := (yX0_rebuild, cX0_rebuild, 4, none)
theorem yw_X0_rebuild : YV mX0_rebuild 2 := ⟨⟨GW_t (i := 479) (by decide +kernel) rfl, GW_t (i := 2) (by decide +kernel) rfl, ⟨by decide, by decide⟩, by decide +kernel, by decide⟩, GW_t (i := 477) (by decide +kernel) rfl, GW_t (i := 478) (by decide +kernel) rfl⟩
abbrev mX0_takeWhole : MD := (yX0_takeWhole, cX0_takeWhole, 4, none)
theorem yw_X0_takeWhole : YV mX0_takeWhole 2 := ⟨⟨GW_t (i := 483) (by decide +kernel) rfl, GW_t (i := 2) (by decide +kernel) rfl, ⟨by decide, by decide⟩, by decide +kernel, by decide⟩, GW_t (i := 481) (by decide +kernel) rfl, GW_t (i := 482) (by decide +kernel) rfl⟩
abbrev mX0_lowestFree : MD := (yX0_lowestFree, cX0_lowestFree, 2, (some .int))
theorem yw_X0_lowestFree : YV mX0_lowestFree 0 := ⟨⟨GW_t (i := 487) (by decide +kernel) rfl, GW_t (i := 2) (by decide +kernel) rfl, ⟨by decide, by decide⟩, by decide +kernel, by decide⟩, GW_t (i := 485) (by decide +kernel) rfl, GW_t (i := 486) (by decide +kernel) rfl⟩
abbrev mX0_placeFor : MD := (yX0_placeFor, cX0_placeFor, 9, (some .int))
theorem yw_X0_placeFor : YV mX0_placeFor 1 := ⟨⟨GW_t (i := 491) (by decide +kernel) rfl, GW_t (i := 2) (by decide +kernel) rfl, ⟨by decide, by decide⟩, by decide +kernel, by decide⟩, GW_t (i := 489) (by decide +kernel) rfl, GW_t (i := 490) (by decide +kernel) rfl⟩
abbrev mX0_gapFrom : MD := (yX0_gapFrom, cX0_gapFrom, 3, (some .int))
theorem yw_X0_gapFrom : YS mX0_gapFrom 2 := ⟨⟨GW_t (i := 495) (by decide +kernel) rfl, GW_t (i := 2) (by decide +kernel) rfl, ⟨by decide, by decide⟩, by decide +kernel, by decide⟩, GW_t (i := 494) (by decide +kernel) rfl⟩
abbrev mX0_putTail : MD := (yX0_putTail, cX0_putTail, 4, none)
theorem yw_X0_putTail : YV mX0_putTail 3 := ⟨⟨GW_t (i := 499) (by decide +kernel) rfl, GW_t (i := 2) (by decide +kernel) rfl, ⟨by decide, by decide⟩, by decide +kernel, by decide⟩, GW_t (i := 497) (by decide +kernel) rfl, GW_t (i := 498) (by decide +kernel) rfl⟩
abbrev mL_grows : MD := (yL_grows, cL_grows, 11, (some .boolean))
theorem yw_L_grows : YS mL_grows 3 := ⟨⟨GW_t (i := 502) (by decide +kernel) rfl, GW_t (i := 0) (by decide +kernel) rfl, ⟨by decide, by decide⟩, by decide +kernel, by decide⟩, GW_t (i := 501) (by decide +kernel) rfl⟩
abbrev mX7_ifGrown : MD := (yX7_ifGrown, cX7_ifGrown, 3, (some .int))
theorem yw_X7_ifGrown : YV mX7_ifGrown 2 := ⟨⟨GW_t (i := 506) (by decide +kernel) rfl, GW_t (i := 1) (by decide +kernel) rfl, ⟨by decide, by decide⟩, by decide +kernel, by decide⟩, GW_t (i := 504) (by decide +kernel) rfl, GW_t (i := 505) (by decide +kernel) rfl⟩
abbrev mX0_growthOf : MD := (yX0_growthOf, cX0_growthOf, 5, (some .int))
theorem yw_X0_growthOf : YV mX0_growthOf 2 := ⟨⟨GW_t (i := 510) (by decide +kernel) rfl, GW_t (i := 2) (by decide +kernel) rfl, ⟨by decide, by decide⟩, by decide +kernel, by decide⟩, GW_t (i := 508) (by decide +kernel) rfl, GW_t (i := 509) (by decide +kernel) rfl⟩
abbrev mX0_cellsBehindTail : MD := (yX0_cellsBehindTail, cX0_cellsBehindTail, 3, (some .int))
theorem yw_X0_cellsBehindTail : YV mX0_cellsBehindTail 1 := ⟨⟨GW_t (i := 514) (by decide +kernel) rfl, GW_t (i := 2) (by decide +kernel) rfl, ⟨by decide, by decide⟩, by decide +kernel, by decide⟩, GW_t (i := 512) (by decide +kernel) rfl, GW_t (i := 513) (by decide +kernel) rfl⟩
abbrev mX7_grow : MD := (yX7_grow, cX7_grow, 3, (some .int))
theorem yw_X7_grow : YV mX7_grow 2 := ⟨⟨GW_t (i := 518) (by decide +kernel) rfl, GW_t (i := 1) (by decide +kernel) rfl, ⟨by decide, by decide⟩, by decide +kernel, by decide⟩, GW_t (i := 516) (by decide +kernel) rfl, GW_t (i := 517) (by decide +kernel) rfl⟩
abbrev mX0_extend : MD := (yX0_extend, cX0_extend, 4, (some .int))
theorem yw_X0_extend : YV mX0_extend 2 := ⟨⟨GW_t (i := 522) (by decide +kernel) rfl, GW_t (i := 2) (by decide +kernel) rfl, ⟨by decide, by decide⟩, by decide +kernel, by decide⟩, GW_t (i := 520) (by decide +kernel) rfl, GW_t (i := 521) (by decide +kernel) rfl⟩
abbrev mL_cuts : MD := (yL_cuts, cL_cuts, 9, (some .boolean))
theorem yw_L_cuts : YS mL_cuts 3 := ⟨⟨GW_t (i := 526) (by decide +kernel) rfl, GW_t (i := 0) (by decide +kernel) rfl, ⟨by decide, by decide⟩, by decide +kernel, by decide⟩, GW_t (i := 525) (by decide +kernel) rfl⟩
abbrev mX7_cut : MD := (yX7_cut, cX7_cut, 3, (some .int))
theorem yw_X7_cut : YV mX7_cut 2 := ⟨⟨GW_t (i := 530) (by decide +kernel) rfl, GW_t (i := 1) (by decide +kernel) rfl, ⟨by decide, by decide⟩, by decide +kernel, by decide⟩, GW_t (i := 528) (by decide +kernel) rfl, GW_t (i := 529) (by decide +kernel) rfl⟩
abbrev mX0_shorten : MD := (yX0_shorten, cX0_shorten, 4, (some .int))
theorem yw_X0_shorten : YV mX0_shorten 2 := ⟨⟨GW_t (i := 534) (by decide +kernel) rfl, GW_t (i := 2) (by decide +kernel) rfl, ⟨by decide, by decide⟩, by decide +kernel, by decide⟩, GW_t (i := 532) (by decide +kernel) rfl, GW_t (i := 533) (by decide +kernel) rfl⟩
abbrev mL_packs : MD := (yL_packs, cL_packs, 7, (some .boolean))
theorem yw_L_packs : YS mL_packs 1 := ⟨⟨GW_t (i := 537) (by decide +kernel) rfl, GW_t (i := 0) (by decide +kernel) rfl, ⟨by decide, by decide⟩, by decide +kernel, by decide⟩, GW_t (i := 536) (by decide +kernel) rfl⟩
abbrev mX7_ifPacked : MD := (yX7_ifPacked, cX7_ifPacked, 1, (some .int))
theorem yw_X7_ifPacked : YV mX7_ifPacked 0 := ⟨⟨GW_t (i := 541) (by decide +kernel) rfl, GW_t (i := 1) (by decide +kernel) rfl, ⟨by decide, by decide⟩, by decide +kernel, by decide⟩, GW_t (i := 539) (by decide +kernel) rfl, GW_t (i := 540) (by decide +kernel) rfl⟩
abbrev mX4_plan : MD := (yX4_plan, cX4_plan, 4, (some .int))
theorem yw_X4_plan : YV mX4_plan 1 := ⟨⟨GW_t (i := 545) (by decide +kernel) rfl, GW_t (i := 6) (by decide +kernel) rfl, ⟨by decide, by decide⟩, by decide +kernel, by decide⟩, GW_t (i := 543) (by decide +kernel) rfl, GW_t (i := 544) (by decide +kernel) rfl⟩
abbrev mX5_collect : MD := (yX5_collect, cX5_collect, 4, none)
theorem yw_X5_collect : YV mX5_collect 1 := ⟨⟨GW_t (i := 549) (by decide +kernel) rfl, GW_t (i := 7) (by decide +kernel) rfl, ⟨by decide, by decide⟩, by decide +kernel, by decide⟩, GW_t (i := 547) (by decide +kernel) rfl, GW_t (i := 548) (by decide +kernel) rfl⟩
abbrev mX0_isBroken : MD := (yX0_isBroken, cX0_isBroken, 2, (some .boolean))
theorem yw_X0_isBroken : YV mX0_isBroken 1 := ⟨⟨GW_t (i := 553) (by decide +kernel) rfl, GW_t (i := 2) (by decide +kernel) rfl, ⟨by decide, by decide⟩, by decide +kernel, by decide⟩, GW_t (i := 551) (by decide +kernel) rfl, GW_t (i := 552) (by decide +kernel) rfl⟩
abbrev mX0_tailCells : MD := (yX0_tailCells, cX0_tailCells, 2, (some .int))
theorem yw_X0_tailCells : YV mX0_tailCells 1 := ⟨⟨GW_t (i := 557) (by decide +kernel) rfl, GW_t (i := 2) (by decide +kernel) rfl, ⟨by decide, by decide⟩, by decide +kernel, by decide⟩, GW_t (i := 555) (by decide +kernel) rfl, GW_t (i := 556) (by decide +kernel) rfl⟩
abbrev mX5_insert : MD := (yX5_insert, cX5_insert, 4, none)
theorem yw_X5_insert : YV mX5_insert 2 := ⟨⟨GW_t (i := 562) (by decide +kernel) rfl, GW_t (i := 7) (by decide +kernel) rfl, ⟨by decide, by decide⟩, by decide +kernel, by decide⟩, GW_t (i := 560) (by decide +kernel) rfl, GW_t (i := 561) (by decide +kernel) rfl⟩
abbrev mX0_takesPacking : MD := (yX0_takesPacking, cX0_takesPacking, 3, (some .boolean))
theorem yw_X0_takesPacking : YV mX0_takesPacking 1 := ⟨⟨GW_t (i := 566) (by decide +kernel) rfl, GW_t (i := 2) (by decide +kernel) rfl, ⟨by decide, by decide⟩, by decide +kernel, by decide⟩, GW_t (i := 564) (by decide +kernel) rfl, GW_t (i := 565) (by decide +kernel) rfl⟩
abbrev mX4_firstWithRoom : MD := (yX4_firstWithRoom, cX4_firstWithRoom, 3, (some .int))
theorem yw_X4_firstWithRoom : YV mX4_firstWithRoom 1 := ⟨⟨GW_t (i := 570) (by decide +kernel) rfl, GW_t (i := 6) (by decide +kernel) rfl, ⟨by decide, by decide⟩, by decide +kernel, by decide⟩, GW_t (i := 568) (by decide +kernel) rfl, GW_t (i := 569) (by decide +kernel) rfl⟩
abbrev mX4_emptyBlocks : MD := (yX4_emptyBlocks, cX4_emptyBlocks, 3, (some .int))
theorem yw_X4_emptyBlocks : YV mX4_emptyBlocks 0 := ⟨⟨GW_t (i := 575) (by decide +kernel) rfl, GW_t (i := 6) (by decide +kernel) rfl, ⟨by decide, by decide⟩, by decide +kernel, by decide⟩, GW_t (i := 573) (by decide +kernel) rfl, GW_t (i := 574) (by decide +kernel) rfl⟩
abbrev mX7_fewest : MD := (yX7_fewest, cX7_fewest, 2, (some .int))
theorem yw_X7_fewest : YV mX7_fewest 1 := ⟨⟨GW_t (i := 579) (by decide +kernel) rfl, GW_t (i := 1) (by decide +kernel) rfl, ⟨by decide, by decide⟩, by decide +kernel, by decide⟩, GW_t (i := 577) (by decide +kernel) rfl, GW_t (i := 578) (by decide +kernel) rfl⟩
abbrev mX1_bySets : MD := (yX1_bySets, cX1_bySets, 4, (some .int))
theorem yw_X1_bySets : YV mX1_bySets 1 := ⟨⟨GW_t (i := 583) (by decide +kernel) rfl, GW_t (i := 8) (by decide +kernel) rfl, ⟨by decide, by decide⟩, by decide +kernel, by decide⟩, GW_t (i := 581) (by decide +kernel) rfl, GW_t (i := 582) (by decide +kernel) rfl⟩
abbrev mX1_solveSet : MD := (yX1_solveSet, cX1_solveSet, 7, none)
theorem yw_X1_solveSet : YV mX1_solveSet 1 := ⟨⟨GW_t (i := 588) (by decide +kernel) rfl, GW_t (i := 8) (by decide +kernel) rfl, ⟨by decide, by decide⟩, by decide +kernel, by decide⟩, GW_t (i := 586) (by decide +kernel) rfl, GW_t (i := 587) (by decide +kernel) rfl⟩
abbrev mX1_byTrying : MD := (yX1_byTrying, cX1_byTrying, 3, (some .int))
theorem yw_X1_byTrying : YV mX1_byTrying 1 := ⟨⟨GW_t (i := 592) (by decide +kernel) rfl, GW_t (i := 8) (by decide +kernel) rfl, ⟨by decide, by decide⟩, by decide +kernel, by decide⟩, GW_t (i := 590) (by decide +kernel) rfl, GW_t (i := 591) (by decide +kernel) rfl⟩
abbrev mX5_cells : MD := (yX5_cells, cX5_cells, 3, (some .int))
theorem yw_X5_cells : YV mX5_cells 0 := ⟨⟨GW_t (i := 596) (by decide +kernel) rfl, GW_t (i := 7) (by decide +kernel) rfl, ⟨by decide, by decide⟩, by decide +kernel, by decide⟩, GW_t (i := 594) (by decide +kernel) rfl, GW_t (i := 595) (by decide +kernel) rfl⟩
abbrev mX1_tryTail : MD := (yX1_tryTail, cX1_tryTail, 9, (some .int))
theorem yw_X1_tryTail : YS mX1_tryTail 6 := ⟨⟨GW_t (i := 599) (by decide +kernel) rfl, GW_t (i := 8) (by decide +kernel) rfl, ⟨by decide, by decide⟩, by decide +kernel, by decide⟩, GW_t (i := 598) (by decide +kernel) rfl⟩
abbrev mX7_pack : MD := (yX7_pack, cX7_pack, 2, (some .int))
theorem yw_X7_pack : YV mX7_pack 0 := ⟨⟨GW_t (i := 603) (by decide +kernel) rfl, GW_t (i := 1) (by decide +kernel) rfl, ⟨by decide, by decide⟩, by decide +kernel, by decide⟩, GW_t (i := 601) (by decide +kernel) rfl, GW_t (i := 602) (by decide +kernel) rfl⟩
abbrev mX4_carryOut : MD := (yX4_carryOut, cX4_carryOut, 3, none)
theorem yw_X4_carryOut : YV mX4_carryOut 1 := ⟨⟨GW_t (i := 607) (by decide +kernel) rfl, GW_t (i := 6) (by decide +kernel) rfl, ⟨by decide, by decide⟩, by decide +kernel, by decide⟩, GW_t (i := 605) (by decide +kernel) rfl, GW_t (i := 606) (by decide +kernel) rfl⟩
abbrev mL_spoils : MD := (yL_spoils, cL_spoils, 9, (some .boolean))
theorem yw_L_spoils : YS mL_spoils 3 := ⟨⟨GW_t (i := 612) (by decide +kernel) rfl, GW_t (i := 0) (by decide +kernel) rfl, ⟨by decide, by decide⟩, by decide +kernel, by decide⟩, GW_t (i := 611) (by decide +kernel) rfl⟩
abbrev mX7_spoil : MD := (yX7_spoil, cX7_spoil, 2, (some .int))
theorem yw_X7_spoil : YV mX7_spoil 1 := ⟨⟨GW_t (i := 616) (by decide +kernel) rfl, GW_t (i := 1) (by decide +kernel) rfl, ⟨by decide, by decide⟩, by decide +kernel, by decide⟩, GW_t (i := 614) (by decide +kernel) rfl, GW_t (i := 615) (by decide +kernel) rfl⟩
abbrev mX0_turnBad : MD := (yX0_turnBad, cX0_turnBad, 4, (some .int))
theorem yw_X0_turnBad : YV mX0_turnBad 1 := ⟨⟨GW_t (i := 637) (by decide +kernel) rfl, GW_t (i := 2) (by decide +kernel) rfl, ⟨by decide, by decide⟩, by decide +kernel, by decide⟩, GW_t (i := 635) (by decide +kernel) rfl, GW_t (i := 636) (by decide +kernel) rfl⟩
abbrev mX0_hasSomething : MD := (yX0_hasSomething, cX0_hasSomething, 3, (some .boolean))
theorem yw_X0_hasSomething : YV mX0_hasSomething 2 := ⟨⟨GW_t (i := 641) (by decide +kernel) rfl, GW_t (i := 2) (by decide +kernel) rfl, ⟨by decide, by decide⟩, by decide +kernel, by decide⟩, GW_t (i := 639) (by decide +kernel) rfl, GW_t (i := 640) (by decide +kernel) rfl⟩
abbrev mX7_weakest : MD := (yX7_weakest, cX7_weakest, 5, (some .int))
theorem yw_X7_weakest : YV mX7_weakest 0 := ⟨⟨GW_t (i := 645) (by decide +kernel) rfl, GW_t (i := 1) (by decide +kernel) rfl, ⟨by decide, by decide⟩, by decide +kernel, by decide⟩, GW_t (i := 643) (by decide +kernel) rfl, GW_t (i := 644) (by decide +kernel) rfl⟩
abbrev mX0_soundFilesIn : MD := (yX0_soundFilesIn, cX0_soundFilesIn, 4, (some .int))
theorem yw_X0_soundFilesIn : YV mX0_soundFilesIn 1 := ⟨⟨GW_t (i := 649) (by decide +kernel) rfl, GW_t (i := 2) (by decide +kernel) rfl, ⟨by decide, by decide⟩, by decide +kernel, by decide⟩, GW_t (i := 647) (by decide +kernel) rfl, GW_t (i := 648) (by decide +kernel) rfl⟩
abbrev mL_ones : MD := (yL_ones, cL_ones, 3, (some .int))
theorem yw_L_ones : YS mL_ones 1 := ⟨⟨GW_t (i := 652) (by decide +kernel) rfl, GW_t (i := 0) (by decide +kernel) rfl, ⟨by decide, by decide⟩, by decide +kernel, by decide⟩, GW_t (i := 651) (by decide +kernel) rfl⟩
theorem lk_L_74 : LK RL 74 yX7_init := Or.inl (GW_t (i := 19) (by decide +kernel) rfl)
theorem lk_X7_11 : LK RX7 11 yX0_init := Or.inl (GW_t (i := 27) (by decide +kernel) rfl)
theorem lk_X7_18 : LK RX7 18 yX2_init := Or.inl (GW_t (i := 72) (by decide +kernel) rfl)
theorem lk_X2_21 : LK RX2 21 yX0_init := Or.inl (GW_t (i := 78) (by decide +kernel) rfl)
theorem lk_X7_29 : LK RX7 29 yX6_init := Or.inr ⟨"TailBlocks", OW_t (i := 88) (by decide +kernel) rfl⟩
theorem lk_X7_36 : LK RX7 36 yX3_init := Or.inr ⟨"TailBlocks", OW_t (i := 101) (by decide +kernel) rfl⟩
theorem lk_X7_43 : LK RX7 43 yX4_init := Or.inr ⟨"TailBlocks", OW_t (i := 120) (by decide +kernel) rfl⟩
theorem lk_X4_11 : LK RX4 11 yX5_init := Or.inr ⟨"TailBlocks", OW_t (i := 126) (by decide +kernel) rfl⟩
theorem lk_X7_50 : LK RX7 50 yX1_init := Or.inr ⟨"TailBlocks", OW_t (i := 160) (by decide +kernel) rfl⟩
theorem lk_X1_11 : LK RX1 11 yX5_init := Or.inr ⟨"TailBlocks", OW_t (i := 165) (by decide +kernel) rfl⟩
theorem lk_L_93 : LK RL 93 yX7_delete := Or.inl (GW_t (i := 201) (by decide +kernel) rfl)
theorem lk_X7_67 : LK RX7 67 yX7_checkFile := Or.inl (GW_t (i := 205) (by decide +kernel) rfl)
theorem lk_X7_225 : LK RX7 225 yX0_exists := Or.inl (GW_t (i := 209) (by decide +kernel) rfl)
theorem lk_X7_59 : LK RX7 59 yX2_store := Or.inl (GW_t (i := 281) (by decide +kernel) rfl)
theorem lk_X2_22 : LK RX2 22 yX2_dropOldest := Or.inl (GW_t (i := 285) (by decide +kernel) rfl)
theorem lk_X2_25 : LK RX2 25 yX0_copyFrom := Or.inl (GW_t (i := 289) (by decide +kernel) rfl)
theorem lk_X7_78 : LK RX7 78 yX0_removeFile := Or.inl (GW_t (i := 293) (by decide +kernel) rfl)
theorem lk_X0_46 : LK RX0 46 yX0_exists := Or.inl (GW_t (i := 297) (by decide +kernel) rfl)
theorem lk_X0_118 : LK RX0 118 yX0_dropTail := Or.inl (GW_t (i := 298) (by decide +kernel) rfl)
theorem lk_X0_134 : LK RX0 134 yX0_freeIfEmpty := Or.inl (GW_t (i := 302) (by decide +kernel) rfl)
theorem lk_X0_54 : LK RX0 54 yX7_isBlock := Or.inr ⟨"TailBlocks", OW_t (i := 306) (by decide +kernel) rfl⟩
theorem lk_X0_63 : LK RX0 63 yX0_takenCells := Or.inl (GW_t (i := 309) (by decide +kernel) rfl)
theorem lk_X0_121 : LK RX0 121 yX0_dropWholes := Or.inl (GW_t (i := 313) (by decide +kernel) rfl)
theorem lk_L_96 : LK RL 96 yX7_set := Or.inl (GW_t (i := 317) (by decide +kernel) rfl)
theorem lk_X7_55 : LK RX7 55 yX7_checkArgument := Or.inl (GW_t (i := 321) (by decide +kernel) rfl)
theorem lk_L_24 : LK RL 24 yX7_blockOf := Or.inl (GW_t (i := 340) (by decide +kernel) rfl)
theorem lk_X7_81 : LK RX7 81 yX7_checkBlock := Or.inl (GW_t (i := 344) (by decide +kernel) rfl)
theorem lk_X7_288 : LK RX7 288 yX7_isBlock := Or.inl (GW_t (i := 347) (by decide +kernel) rfl)
theorem lk_X7_183 : LK RX7 183 yX0_blockProperty := Or.inl (GW_t (i := 349) (by decide +kernel) rfl)
theorem lk_X0_60 : LK RX0 60 yX0_tailsIn := Or.inl (GW_t (i := 353) (by decide +kernel) rfl)
theorem lk_X0_70 : LK RX0 70 yX0_kindOf := Or.inl (GW_t (i := 357) (by decide +kernel) rfl)
theorem lk_X0_57 : LK RX0 57 yX0_tailCellsIn := Or.inl (GW_t (i := 361) (by decide +kernel) rfl)
theorem lk_X0_73 : LK RX0 73 yJ6_bitCount_0f7a4 := Or.inl (GW_t (i := 365) (by decide +kernel) rfl)
theorem lk_X0_67 : LK RX0 67 yX0_longestGap := Or.inl (GW_t (i := 371) (by decide +kernel) rfl)
theorem lk_X0_82 : LK RX0 82 yX0_isTaken := Or.inl (GW_t (i := 374) (by decide +kernel) rfl)
theorem lk_X0_85 : LK RX0 85 yJ9_max_7cf53 := Or.inl (GW_t (i := 377) (by decide +kernel) rfl)
theorem lk_L_31 : LK RL 31 yX7_count := Or.inl (GW_t (i := 380) (by decide +kernel) rfl)
theorem lk_X7_156 : LK RX7 156 yX0_files := Or.inl (GW_t (i := 384) (by decide +kernel) rfl)
theorem lk_X7_108 : LK RX7 108 yX0_blocksOf := Or.inl (GW_t (i := 388) (by decide +kernel) rfl)
theorem lk_X7_186 : LK RX7 186 yX0_sharedTailCells := Or.inl (GW_t (i := 392) (by decide +kernel) rfl)
theorem lk_X7_189 : LK RX7 189 yX0_brokenFiles := Or.inl (GW_t (i := 396) (by decide +kernel) rfl)
theorem lk_X7_161 : LK RX7 161 yX2_held := Or.inl (GW_t (i := 400) (by decide +kernel) rfl)
theorem lk_L_75 : LK RL 75 yL_cell := Or.inl (GW_t (i := 404) (by decide +kernel) rfl)
theorem lk_L_79 : LK RL 79 yL_low := Or.inl (GW_t (i := 408) (by decide +kernel) rfl)
theorem lk_L_9 : LK RL 9 yL_has := Or.inl (GW_t (i := 412) (by decide +kernel) rfl)
theorem lk_L_109 : LK RL 109 yL_places := Or.inl (GW_t (i := 415) (by decide +kernel) rfl)
theorem lk_L_15 : LK RL 15 yX7_fileOf := Or.inl (GW_t (i := 418) (by decide +kernel) rfl)
theorem lk_X7_169 : LK RX7 169 yX0_fileProperty := Or.inl (GW_t (i := 422) (by decide +kernel) rfl)
theorem lk_L_21 : LK RL 21 yX7_place := Or.inl (GW_t (i := 426) (by decide +kernel) rfl)
theorem lk_X7_172 : LK RX7 172 yX0_sizeOf := Or.inl (GW_t (i := 430) (by decide +kernel) rfl)
theorem lk_X7_180 : LK RX7 180 yX0_whereIs := Or.inl (GW_t (i := 435) (by decide +kernel) rfl)
theorem lk_L_27 : LK RL 27 yL_file := Or.inl (GW_t (i := 439) (by decide +kernel) rfl)
theorem lk_L_35 : LK RL 35 yL_blocks := Or.inl (GW_t (i := 442) (by decide +kernel) rfl)
theorem lk_L_82 : LK RL 82 yL_comes := Or.inl (GW_t (i := 445) (by decide +kernel) rfl)
theorem lk_L_39 : LK RL 39 yL_hasGap := Or.inl (GW_t (i := 448) (by decide +kernel) rfl)
theorem lk_L_43 : LK RL 43 yX7_greatest := Or.inl (GW_t (i := 451) (by decide +kernel) rfl)
theorem lk_X7_204 : LK RX7 204 yX0_hasRoomFor := Or.inl (GW_t (i := 455) (by decide +kernel) rfl)
theorem lk_X0_98 : LK RX0 98 yX0_lowestNumber := Or.inl (GW_t (i := 459) (by decide +kernel) rfl)
theorem lk_X0_101 : LK RX0 101 yX0_isEnough := Or.inl (GW_t (i := 463) (by decide +kernel) rfl)
theorem lk_L_47 : LK RL 47 yX7_create := Or.inl (GW_t (i := 467) (by decide +kernel) rfl)
theorem lk_X7_63 : LK RX7 63 yX0_addFile := Or.inl (GW_t (i := 471) (by decide +kernel) rfl)
theorem lk_X0_108 : LK RX0 108 yX0_hasRoomFor := Or.inl (GW_t (i := 475) (by decide +kernel) rfl)
theorem lk_X0_111 : LK RX0 111 yX0_rebuild := Or.inl (GW_t (i := 476) (by decide +kernel) rfl)
theorem lk_X0_124 : LK RX0 124 yX0_takeWhole := Or.inl (GW_t (i := 480) (by decide +kernel) rfl)
theorem lk_X0_94 : LK RX0 94 yX0_lowestFree := Or.inl (GW_t (i := 484) (by decide +kernel) rfl)
theorem lk_X0_127 : LK RX0 127 yX0_placeFor := Or.inl (GW_t (i := 488) (by decide +kernel) rfl)
theorem lk_X0_91 : LK RX0 91 yX0_gapFrom := Or.inl (GW_t (i := 493) (by decide +kernel) rfl)
theorem lk_X0_130 : LK RX0 130 yX0_putTail := Or.inl (GW_t (i := 496) (by decide +kernel) rfl)
theorem lk_L_86 : LK RL 86 yL_grows := Or.inl (GW_t (i := 500) (by decide +kernel) rfl)
theorem lk_L_50 : LK RL 50 yX7_ifGrown := Or.inl (GW_t (i := 503) (by decide +kernel) rfl)
theorem lk_X7_201 : LK RX7 201 yX0_growthOf := Or.inl (GW_t (i := 507) (by decide +kernel) rfl)
theorem lk_X0_105 : LK RX0 105 yX0_cellsBehindTail := Or.inl (GW_t (i := 511) (by decide +kernel) rfl)
theorem lk_L_53 : LK RL 53 yX7_grow := Or.inl (GW_t (i := 515) (by decide +kernel) rfl)
theorem lk_X7_71 : LK RX7 71 yX0_extend := Or.inl (GW_t (i := 519) (by decide +kernel) rfl)
theorem lk_X0_115 : LK RX0 115 yX0_growthOf := Or.inl (GW_t (i := 523) (by decide +kernel) rfl)
theorem lk_L_90 : LK RL 90 yL_cuts := Or.inl (GW_t (i := 524) (by decide +kernel) rfl)
theorem lk_L_56 : LK RL 56 yX7_cut := Or.inl (GW_t (i := 527) (by decide +kernel) rfl)
theorem lk_X7_75 : LK RX7 75 yX0_shorten := Or.inl (GW_t (i := 531) (by decide +kernel) rfl)
theorem lk_L_102 : LK RL 102 yL_packs := Or.inl (GW_t (i := 535) (by decide +kernel) rfl)
theorem lk_L_59 : LK RL 59 yX7_ifPacked := Or.inl (GW_t (i := 538) (by decide +kernel) rfl)
theorem lk_X7_111 : LK RX7 111 yX4_plan := Or.inl (GW_t (i := 542) (by decide +kernel) rfl)
theorem lk_X4_28 : LK RX4 28 yX5_collect := Or.inl (GW_t (i := 546) (by decide +kernel) rfl)
theorem lk_X5_22 : LK RX5 22 yX0_isBroken := Or.inl (GW_t (i := 550) (by decide +kernel) rfl)
theorem lk_X5_28 : LK RX5 28 yX0_tailCells := Or.inl (GW_t (i := 554) (by decide +kernel) rfl)
theorem lk_X0_50 : LK RX0 50 yX0_sizeOf := Or.inl (GW_t (i := 558) (by decide +kernel) rfl)
theorem lk_X5_32 : LK RX5 32 yX5_insert := Or.inl (GW_t (i := 559) (by decide +kernel) rfl)
theorem lk_X4_32 : LK RX4 32 yX0_takesPacking := Or.inl (GW_t (i := 563) (by decide +kernel) rfl)
theorem lk_X4_45 : LK RX4 45 yX4_firstWithRoom := Or.inl (GW_t (i := 567) (by decide +kernel) rfl)
theorem lk_X4_49 : LK RX4 49 yX7_isBlock := Or.inr ⟨"TailBlocks", OW_t (i := 571) (by decide +kernel) rfl⟩
theorem lk_X4_52 : LK RX4 52 yX4_emptyBlocks := Or.inl (GW_t (i := 572) (by decide +kernel) rfl)
theorem lk_L_62 : LK RL 62 yX7_fewest := Or.inl (GW_t (i := 576) (by decide +kernel) rfl)
theorem lk_X7_207 : LK RX7 207 yX1_bySets := Or.inl (GW_t (i := 580) (by decide +kernel) rfl)
theorem lk_X1_28 : LK RX1 28 yX5_collect := Or.inl (GW_t (i := 584) (by decide +kernel) rfl)
theorem lk_X1_36 : LK RX1 36 yX1_solveSet := Or.inl (GW_t (i := 585) (by decide +kernel) rfl)
theorem lk_X7_210 : LK RX7 210 yX1_byTrying := Or.inl (GW_t (i := 589) (by decide +kernel) rfl)
theorem lk_X1_43 : LK RX1 43 yX5_cells := Or.inl (GW_t (i := 593) (by decide +kernel) rfl)
theorem lk_X1_47 : LK RX1 47 yX1_tryTail := Or.inl (GW_t (i := 597) (by decide +kernel) rfl)
theorem lk_L_65 : LK RL 65 yX7_pack := Or.inl (GW_t (i := 600) (by decide +kernel) rfl)
theorem lk_X7_115 : LK RX7 115 yX4_carryOut := Or.inl (GW_t (i := 604) (by decide +kernel) rfl)
theorem lk_X4_59 : LK RX4 59 yX0_putTail := Or.inl (GW_t (i := 608) (by decide +kernel) rfl)
theorem lk_X4_63 : LK RX4 63 yX0_freeIfEmpty := Or.inl (GW_t (i := 609) (by decide +kernel) rfl)
theorem lk_L_99 : LK RL 99 yL_spoils := Or.inl (GW_t (i := 610) (by decide +kernel) rfl)
theorem lk_L_68 : LK RL 68 yX7_spoil := Or.inl (GW_t (i := 613) (by decide +kernel) rfl)
theorem lk_X7_84 : LK RX7 84 yX0_kindOf := Or.inl (GW_t (i := 617) (by decide +kernel) rfl)
theorem lk_X7_94 : LK RX7 94 yX0_turnBad := Or.inl (GW_t (i := 634) (by decide +kernel) rfl)
theorem lk_X0_78 : LK RX0 78 yX0_hasSomething := Or.inl (GW_t (i := 638) (by decide +kernel) rfl)
theorem lk_L_71 : LK RL 71 yX7_weakest := Or.inl (GW_t (i := 642) (by decide +kernel) rfl)
theorem lk_X7_213 : LK RX7 213 yX0_soundFilesIn := Or.inl (GW_t (i := 646) (by decide +kernel) rfl)
theorem lk_L_106 : LK RL 106 yL_ones := Or.inl (GW_t (i := 650) (by decide +kernel) rfl)
