theorem cf_0 : CF 0 RX0 TX0 11 := ⟨rfl, GW_sub [48, 50, 52, 54, 56, 58, 60, 62, 64, 66, 68] (by decide +kernel) (by decide +kernel), ⟨tyX0, tyX0_ok⟩, nmX0⟩
theorem cf_1 : CF 1 RX1 TX1 4 := ⟨rfl, GW_sub [175, 177, 179, 181] (by decide +kernel) (by decide +kernel), ⟨tyX1, tyX1_ok⟩, nmX1⟩
theorem cf_2 : CF 2 RX2 TX2 2 := ⟨rfl, GW_sub [83, 85] (by decide +kernel) (by decide +kernel), ⟨tyX2, tyX2_ok⟩, nmX2⟩
theorem cf_3 : CF 3 RX3 TX3 4 := ⟨rfl, GW_sub [114, 116, 118, 120] (by decide +kernel) (by decide +kernel), ⟨tyX3, tyX3_ok⟩, nmX3⟩
theorem cf_4 : CF 4 RX4 TX4 4 := ⟨rfl, GW_sub [154, 156, 158, 160] (by decide +kernel) (by decide +kernel), ⟨tyX4, tyX4_ok⟩, nmX4⟩
theorem cf_5 : CF 5 RX5 TX5 3 := ⟨rfl, GW_sub [143, 145, 147] (by decide +kernel) (by decide +kernel), ⟨tyX5, tyX5_ok⟩, nmX5⟩
theorem cf_6 : CF 6 RX6 TX6 2 := ⟨rfl, GW_sub [96, 98] (by decide +kernel) (by decide +kernel), ⟨tyX6, tyX6_ok⟩, nmX6⟩
theorem cf_7 : CF 7 RX7 TX7 7 := ⟨rfl, GW_sub [191, 193, 195, 197, 199, 201, 203] (by decide +kernel) (by decide +kernel), ⟨tyX7, tyX7_ok⟩, nmX7⟩
theorem cf_8 : CF 8 RX8 TX8 14 := ⟨rfl, GW_sub [864, 866, 868, 870, 872, 874, 876, 878, 880, 882, 884, 886, 888, 890] (by decide +kernel) (by decide +kernel), ⟨tyX8, tyX8_ok⟩, nmX8⟩
theorem fl_X0_9 : FL RX0 9 0 0 := ⟨_, _, _, cf_0, by decide, rfl, Or.inl (GW_t (i := 33) (by decide +kernel) rfl)⟩
theorem fl_X0_15 : FL RX0 15 0 1 := ⟨_, _, _, cf_0, by decide, rfl, Or.inl (GW_t (i := 34) (by decide +kernel) rfl)⟩
theorem fl_X0_18 : FL RX0 18 0 2 := ⟨_, _, _, cf_0, by decide, rfl, Or.inl (GW_t (i := 35) (by decide +kernel) rfl)⟩
theorem fl_X0_21 : FL RX0 21 0 3 := ⟨_, _, _, cf_0, by decide, rfl, Or.inl (GW_t (i := 36) (by decide +kernel) rfl)⟩
theorem fl_X0_24 : FL RX0 24 0 4 := ⟨_, _, _, cf_0, by decide, rfl, Or.inl (GW_t (i := 37) (by decide +kernel) rfl)⟩
theorem fl_X0_27 : FL RX0 27 0 5 := ⟨_, _, _, cf_0, by decide, rfl, Or.inl (GW_t (i := 38) (by decide +kernel) rfl)⟩
theorem fl_X0_30 : FL RX0 30 0 6 := ⟨_, _, _, cf_0, by decide, rfl, Or.inl (GW_t (i := 39) (by decide +kernel) rfl)⟩
theorem fl_X0_33 : FL RX0 33 0 7 := ⟨_, _, _, cf_0, by decide, rfl, Or.inl (GW_t (i := 40) (by decide +kernel) rfl)⟩
theorem fl_X0_36 : FL RX0 36 0 8 := ⟨_, _, _, cf_0, by decide, rfl, Or.inl (GW_t (i := 41) (by decide +kernel) rfl)⟩
theorem fl_X7_192 : FL RX7 192 0 8 := ⟨_, _, _, cf_0, by decide, rfl, Or.inr ⟨"TailBlocks", OW_t (i := 42) (by decide +kernel) rfl⟩⟩
theorem fl_X0_40 : FL RX0 40 0 9 := ⟨_, _, _, cf_0, by decide, rfl, Or.inl (GW_t (i := 43) (by decide +kernel) rfl)⟩
theorem fl_X4_66 : FL RX4 66 0 9 := ⟨_, _, _, cf_0, by decide, rfl, Or.inr ⟨"TailBlocks", OW_t (i := 44) (by decide +kernel) rfl⟩⟩
theorem fl_X7_195 : FL RX7 195 0 9 := ⟨_, _, _, cf_0, by decide, rfl, Or.inr ⟨"TailBlocks", OW_t (i := 45) (by decide +kernel) rfl⟩⟩
theorem fl_X0_43 : FL RX0 43 0 10 := ⟨_, _, _, cf_0, by decide, rfl, Or.inl (GW_t (i := 46) (by decide +kernel) rfl)⟩
theorem fl_X7_118 : FL RX7 118 0 10 := ⟨_, _, _, cf_0, by decide, rfl, Or.inr ⟨"TailBlocks", OW_t (i := 47) (by decide +kernel) rfl⟩⟩
theorem fl_X2_11 : FL RX2 11 2 0 := ⟨_, _, _, cf_2, by decide, rfl, Or.inl (GW_t (i := 81) (by decide +kernel) rfl)⟩
theorem fl_X2_17 : FL RX2 17 2 1 := ⟨_, _, _, cf_2, by decide, rfl, Or.inl (GW_t (i := 82) (by decide +kernel) rfl)⟩
theorem fl_X6_9 : FL RX6 9 6 0 := ⟨_, _, _, cf_6, by decide, rfl, Or.inl (GW_t (i := 94) (by decide +kernel) rfl)⟩
theorem fl_X6_15 : FL RX6 15 6 1 := ⟨_, _, _, cf_6, by decide, rfl, Or.inl (GW_t (i := 95) (by decide +kernel) rfl)⟩
theorem fl_X3_11 : FL RX3 11 3 0 := ⟨_, _, _, cf_3, by decide, rfl, Or.inl (GW_t (i := 107) (by decide +kernel) rfl)⟩
theorem fl_X3_15 : FL RX3 15 3 1 := ⟨_, _, _, cf_3, by decide, rfl, Or.inl (GW_t (i := 108) (by decide +kernel) rfl)⟩
theorem fl_X7_277 : FL RX7 277 3 1 := ⟨_, _, _, cf_3, by decide, rfl, Or.inr ⟨"TailBlocks", OW_t (i := 109) (by decide +kernel) rfl⟩⟩
theorem fl_X3_18 : FL RX3 18 3 2 := ⟨_, _, _, cf_3, by decide, rfl, Or.inl (GW_t (i := 110) (by decide +kernel) rfl)⟩
theorem fl_X7_283 : FL RX7 283 3 2 := ⟨_, _, _, cf_3, by decide, rfl, Or.inr ⟨"TailBlocks", OW_t (i := 111) (by decide +kernel) rfl⟩⟩
theorem fl_X3_21 : FL RX3 21 3 3 := ⟨_, _, _, cf_3, by decide, rfl, Or.inl (GW_t (i := 112) (by decide +kernel) rfl)⟩
theorem fl_X7_280 : FL RX7 280 3 3 := ⟨_, _, _, cf_3, by decide, rfl, Or.inr ⟨"TailBlocks", OW_t (i := 113) (by decide +kernel) rfl⟩⟩
theorem fl_X5_9 : FL RX5 9 5 0 := ⟨_, _, _, cf_5, by decide, rfl, Or.inl (GW_t (i := 135) (by decide +kernel) rfl)⟩
theorem fl_X4_56 : FL RX4 56 5 0 := ⟨_, _, _, cf_5, by decide, rfl, Or.inr ⟨"TailBlocks", OW_t (i := 136) (by decide +kernel) rfl⟩⟩
theorem fl_X5_15 : FL RX5 15 5 1 := ⟨_, _, _, cf_5, by decide, rfl, Or.inl (GW_t (i := 137) (by decide +kernel) rfl)⟩
theorem fl_X4_42 : FL RX4 42 5 1 := ⟨_, _, _, cf_5, by decide, rfl, Or.inr ⟨"TailBlocks", OW_t (i := 138) (by decide +kernel) rfl⟩⟩
theorem fl_X1_40 : FL RX1 40 5 1 := ⟨_, _, _, cf_5, by decide, rfl, Or.inr ⟨"TailBlocks", OW_t (i := 139) (by decide +kernel) rfl⟩⟩
theorem fl_X5_18 : FL RX5 18 5 2 := ⟨_, _, _, cf_5, by decide, rfl, Or.inl (GW_t (i := 140) (by decide +kernel) rfl)⟩
theorem fl_X1_32 : FL RX1 32 5 2 := ⟨_, _, _, cf_5, by decide, rfl, Or.inr ⟨"TailBlocks", OW_t (i := 141) (by decide +kernel) rfl⟩⟩
theorem fl_X4_38 : FL RX4 38 5 2 := ⟨_, _, _, cf_5, by decide, rfl, Or.inr ⟨"TailBlocks", OW_t (i := 142) (by decide +kernel) rfl⟩⟩
theorem fl_X4_12 : FL RX4 12 4 0 := ⟨_, _, _, cf_4, by decide, rfl, Or.inl (GW_t (i := 150) (by decide +kernel) rfl)⟩
theorem fl_X4_18 : FL RX4 18 4 1 := ⟨_, _, _, cf_4, by decide, rfl, Or.inl (GW_t (i := 151) (by decide +kernel) rfl)⟩
theorem fl_X4_22 : FL RX4 22 4 2 := ⟨_, _, _, cf_4, by decide, rfl, Or.inl (GW_t (i := 152) (by decide +kernel) rfl)⟩
theorem fl_X4_25 : FL RX4 25 4 3 := ⟨_, _, _, cf_4, by decide, rfl, Or.inl (GW_t (i := 153) (by decide +kernel) rfl)⟩
theorem fl_X1_12 : FL RX1 12 1 0 := ⟨_, _, _, cf_1, by decide, rfl, Or.inl (GW_t (i := 171) (by decide +kernel) rfl)⟩
theorem fl_X1_18 : FL RX1 18 1 1 := ⟨_, _, _, cf_1, by decide, rfl, Or.inl (GW_t (i := 172) (by decide +kernel) rfl)⟩
theorem fl_X1_22 : FL RX1 22 1 2 := ⟨_, _, _, cf_1, by decide, rfl, Or.inl (GW_t (i := 173) (by decide +kernel) rfl)⟩
theorem fl_X1_25 : FL RX1 25 1 3 := ⟨_, _, _, cf_1, by decide, rfl, Or.inl (GW_t (i := 174) (by decide +kernel) rfl)⟩
theorem fl_X7_12 : FL RX7 12 7 0 := ⟨_, _, _, cf_7, by decide, rfl, Or.inl (GW_t (i := 184) (by decide +kernel) rfl)⟩
theorem fl_X7_19 : FL RX7 19 7 1 := ⟨_, _, _, cf_7, by decide, rfl, Or.inl (GW_t (i := 185) (by decide +kernel) rfl)⟩
theorem fl_X7_23 : FL RX7 23 7 2 := ⟨_, _, _, cf_7, by decide, rfl, Or.inl (GW_t (i := 186) (by decide +kernel) rfl)⟩
theorem fl_X7_30 : FL RX7 30 7 3 := ⟨_, _, _, cf_7, by decide, rfl, Or.inl (GW_t (i := 187) (by decide +kernel) rfl)⟩
theorem fl_X7_37 : FL RX7 37 7 4 := ⟨_, _, _, cf_7, by decide, rfl, Or.inl (GW_t (i := 188) (by decide +kernel) rfl)⟩
theorem fl_X7_44 : FL RX7 44 7 5 := ⟨_, _, _, cf_7, by decide, rfl, Or.inl (GW_t (i := 189) (by decide +kernel) rfl)⟩
theorem fl_X7_51 : FL RX7 51 7 6 := ⟨_, _, _, cf_7, by decide, rfl, Or.inl (GW_t (i := 190) (by decide +kernel) rfl)⟩
theorem fl_X8_7 : FL RX8 7 8 0 := ⟨_, _, _, cf_8, by decide, rfl, Or.inl (GW_t (i := 850) (by decide +kernel) rfl)⟩
theorem fl_X8_13 : FL RX8 13 8 1 := ⟨_, _, _, cf_8, by decide, rfl, Or.inl (GW_t (i := 851) (by decide +kernel) rfl)⟩
theorem fl_X8_16 : FL RX8 16 8 2 := ⟨_, _, _, cf_8, by decide, rfl, Or.inl (GW_t (i := 852) (by decide +kernel) rfl)⟩
theorem fl_X8_19 : FL RX8 19 8 3 := ⟨_, _, _, cf_8, by decide, rfl, Or.inl (GW_t (i := 853) (by decide +kernel) rfl)⟩
theorem fl_X8_22 : FL RX8 22 8 4 := ⟨_, _, _, cf_8, by decide, rfl, Or.inl (GW_t (i := 854) (by decide +kernel) rfl)⟩
theorem fl_X8_78 : FL RX8 78 8 5 := ⟨_, _, _, cf_8, by decide, rfl, Or.inl (GW_t (i := 855) (by decide +kernel) rfl)⟩
theorem fl_X8_26 : FL RX8 26 8 6 := ⟨_, _, _, cf_8, by decide, rfl, Or.inl (GW_t (i := 856) (by decide +kernel) rfl)⟩
theorem fl_X8_164 : FL RX8 164 8 7 := ⟨_, _, _, cf_8, by decide, rfl, Or.inl (GW_t (i := 857) (by decide +kernel) rfl)⟩
theorem fl_X8_167 : FL RX8 167 8 8 := ⟨_, _, _, cf_8, by decide, rfl, Or.inl (GW_t (i := 858) (by decide +kernel) rfl)⟩
theorem fl_X8_29 : FL RX8 29 8 9 := ⟨_, _, _, cf_8, by decide, rfl, Or.inl (GW_t (i := 859) (by decide +kernel) rfl)⟩
theorem fl_X8_32 : FL RX8 32 8 10 := ⟨_, _, _, cf_8, by decide, rfl, Or.inl (GW_t (i := 860) (by decide +kernel) rfl)⟩
theorem fl_X8_35 : FL RX8 35 8 11 := ⟨_, _, _, cf_8, by decide, rfl, Or.inl (GW_t (i := 861) (by decide +kernel) rfl)⟩
theorem fl_X8_38 : FL RX8 38 8 12 := ⟨_, _, _, cf_8, by decide, rfl, Or.inl (GW_t (i := 862) (by decide +kernel) rfl)⟩
theorem fl_X8_41 : FL RX8 41 8 13 := ⟨_, _, _, cf_8, by decide, rfl, Or.inl (GW_t (i := 863) (by decide +kernel) rfl)⟩
abbrev mX7_init : MD := (yX7_init, cX7_init, 1, none)
theorem yw_X7_init : YI mX7_init 0 := ⟨⟨GW_t (i := 23) (by decide +kernel) rfl, GW_t (i := 1) (by decide +kernel) rfl, ⟨by decide, by decide⟩, by decide +kernel, by decide⟩, GW_t (i := 22) (by decide +kernel) rfl, rfl, rfl⟩
abbrev mX0_init : MD := (yX0_init, cX0_init, 2, none)
theorem yw_X0_init : YI mX0_init 0 := ⟨⟨GW_t (i := 31) (by decide +kernel) rfl, GW_t (i := 2) (by decide +kernel) rfl, ⟨by decide, by decide⟩, by decide +kernel, by decide⟩, GW_t (i := 30) (by decide +kernel) rfl, rfl, rfl⟩
abbrev mX2_init : MD := (yX2_init, cX2_init, 2, none)
theorem yw_X2_init : YI mX2_init 0 := ⟨⟨GW_t (i := 76) (by decide +kernel) rfl, GW_t (i := 3) (by decide +kernel) rfl, ⟨by decide, by decide⟩, by decide +kernel, by decide⟩, GW_t (i := 75) (by decide +kernel) rfl, rfl, rfl⟩
abbrev mX6_init : MD := (yX6_init, cX6_init, 1, none)
theorem yw_X6_init : YI mX6_init 0 := ⟨⟨GW_t (i := 92) (by decide +kernel) rfl, GW_t (i := 4) (by decide +kernel) rfl, ⟨by decide, by decide⟩, by decide +kernel, by decide⟩, GW_t (i := 91) (by decide +kernel) rfl, rfl, rfl⟩
abbrev mX3_init : MD := (yX3_init, cX3_init, 1, none)
theorem yw_X3_init : YI mX3_init 0 := ⟨⟨GW_t (i := 105) (by decide +kernel) rfl, GW_t (i := 5) (by decide +kernel) rfl, ⟨by decide, by decide⟩, by decide +kernel, by decide⟩, GW_t (i := 104) (by decide +kernel) rfl, rfl, rfl⟩
abbrev mX4_init : MD := (yX4_init, cX4_init, 1, none)
theorem yw_X4_init : YI mX4_init 0 := ⟨⟨GW_t (i := 127) (by decide +kernel) rfl, GW_t (i := 6) (by decide +kernel) rfl, ⟨by decide, by decide⟩, by decide +kernel, by decide⟩, GW_t (i := 126) (by decide +kernel) rfl, rfl, rfl⟩
abbrev mX5_init : MD := (yX5_init, cX5_init, 1, none)
theorem yw_X5_init : YI mX5_init 0 := ⟨⟨GW_t (i := 133) (by decide +kernel) rfl, GW_t (i := 7) (by decide +kernel) rfl, ⟨by decide, by decide⟩, by decide +kernel, by decide⟩, GW_t (i := 132) (by decide +kernel) rfl, rfl, rfl⟩
abbrev mX1_init : MD := (yX1_init, cX1_init, 1, none)
theorem yw_X1_init : YI mX1_init 0 := ⟨⟨GW_t (i := 167) (by decide +kernel) rfl, GW_t (i := 8) (by decide +kernel) rfl, ⟨by decide, by decide⟩, by decide +kernel, by decide⟩, GW_t (i := 166) (by decide +kernel) rfl, rfl, rfl⟩
abbrev mX7_pack : MD := (yX7_pack, cX7_pack, 2, (some .int))
theorem yw_X7_pack : YV mX7_pack 0 := ⟨⟨GW_t (i := 209) (by decide +kernel) rfl, GW_t (i := 1) (by decide +kernel) rfl, ⟨by decide, by decide⟩, by decide +kernel, by decide⟩, GW_t (i := 207) (by decide +kernel) rfl, GW_t (i := 208) (by decide +kernel) rfl⟩
abbrev mX2_store : MD := (yX2_store, cX2_store, 2, none)
theorem yw_X2_store : YV mX2_store 1 := ⟨⟨GW_t (i := 213) (by decide +kernel) rfl, GW_t (i := 3) (by decide +kernel) rfl, ⟨by decide, by decide⟩, by decide +kernel, by decide⟩, GW_t (i := 211) (by decide +kernel) rfl, GW_t (i := 212) (by decide +kernel) rfl⟩
abbrev mX2_dropOldest : MD := (yX2_dropOldest, cX2_dropOldest, 3, none)
theorem yw_X2_dropOldest : YV mX2_dropOldest 0 := ⟨⟨GW_t (i := 217) (by decide +kernel) rfl, GW_t (i := 3) (by decide +kernel) rfl, ⟨by decide, by decide⟩, by decide +kernel, by decide⟩, GW_t (i := 215) (by decide +kernel) rfl, GW_t (i := 216) (by decide +kernel) rfl⟩
abbrev mX0_copyFrom : MD := (yX0_copyFrom, cX0_copyFrom, 3, none)
theorem yw_X0_copyFrom : YV mX0_copyFrom 1 := ⟨⟨GW_t (i := 221) (by decide +kernel) rfl, GW_t (i := 2) (by decide +kernel) rfl, ⟨by decide, by decide⟩, by decide +kernel, by decide⟩, GW_t (i := 219) (by decide +kernel) rfl, GW_t (i := 220) (by decide +kernel) rfl⟩
abbrev mX4_plan : MD := (yX4_plan, cX4_plan, 4, (some .int))
theorem yw_X4_plan : YV mX4_plan 1 := ⟨⟨GW_t (i := 225) (by decide +kernel) rfl, GW_t (i := 6) (by decide +kernel) rfl, ⟨by decide, by decide⟩, by decide +kernel, by decide⟩, GW_t (i := 223) (by decide +kernel) rfl, GW_t (i := 224) (by decide +kernel) rfl⟩
abbrev mX5_collect : MD := (yX5_collect, cX5_collect, 4, none)
theorem yw_X5_collect : YV mX5_collect 1 := ⟨⟨GW_t (i := 229) (by decide +kernel) rfl, GW_t (i := 7) (by decide +kernel) rfl, ⟨by decide, by decide⟩, by decide +kernel, by decide⟩, GW_t (i := 227) (by decide +kernel) rfl, GW_t (i := 228) (by decide +kernel) rfl⟩
abbrev mX0_isBroken : MD := (yX0_isBroken, cX0_isBroken, 2, (some .boolean))
theorem yw_X0_isBroken : YV mX0_isBroken 1 := ⟨⟨GW_t (i := 233) (by decide +kernel) rfl, GW_t (i := 2) (by decide +kernel) rfl, ⟨by decide, by decide⟩, by decide +kernel, by decide⟩, GW_t (i := 231) (by decide +kernel) rfl, GW_t (i := 232) (by decide +kernel) rfl⟩
abbrev mX0_exists : MD := (yX0_exists, cX0_exists, 2, (some .boolean))
theorem yw_X0_exists : YV mX0_exists 1 := ⟨⟨GW_t (i := 237) (by decide +kernel) rfl, GW_t (i := 2) (by decide +kernel) rfl, ⟨by decide, by decide⟩, by decide +kernel, by decide⟩, GW_t (i := 235) (by decide +kernel) rfl, GW_t (i := 236) (by decide +kernel) rfl⟩
abbrev mX0_tailCells : MD := (yX0_tailCells, cX0_tailCells, 2, (some .int))
theorem yw_X0_tailCells : YV mX0_tailCells 1 := ⟨⟨GW_t (i := 241) (by decide +kernel) rfl, GW_t (i := 2) (by decide +kernel) rfl, ⟨by decide, by decide⟩, by decide +kernel, by decide⟩, GW_t (i := 239) (by decide +kernel) rfl, GW_t (i := 240) (by decide +kernel) rfl⟩
abbrev mX0_sizeOf : MD := (yX0_sizeOf, cX0_sizeOf, 2, (some .int))
theorem yw_X0_sizeOf : YV mX0_sizeOf 1 := ⟨⟨GW_t (i := 245) (by decide +kernel) rfl, GW_t (i := 2) (by decide +kernel) rfl, ⟨by decide, by decide⟩, by decide +kernel, by decide⟩, GW_t (i := 243) (by decide +kernel) rfl, GW_t (i := 244) (by decide +kernel) rfl⟩
abbrev mX5_insert : MD := (yX5_insert, cX5_insert, 4, none)
theorem yw_X5_insert : YV mX5_insert 2 := ⟨⟨GW_t (i := 249) (by decide +kernel) rfl, GW_t (i := 7) (by decide +kernel) rfl, ⟨by decide, by decide⟩, by decide +kernel, by decide⟩, GW_t (i := 247) (by decide +kernel) rfl, GW_t (i := 248) (by decide +kernel) rfl⟩
abbrev mX0_takesPacking : MD := (yX0_takesPacking, cX0_takesPacking, 3, (some .boolean))
theorem yw_X0_takesPacking : YV mX0_takesPacking 1 := ⟨⟨GW_t (i := 253) (by decide +kernel) rfl, GW_t (i := 2) (by decide +kernel) rfl, ⟨by decide, by decide⟩, by decide +kernel, by decide⟩, GW_t (i := 251) (by decide +kernel) rfl, GW_t (i := 252) (by decide +kernel) rfl⟩
abbrev mX0_kindOf : MD := (yX0_kindOf, cX0_kindOf, 2, (some .int))
theorem yw_X0_kindOf : YV mX0_kindOf 1 := ⟨⟨GW_t (i := 257) (by decide +kernel) rfl, GW_t (i := 2) (by decide +kernel) rfl, ⟨by decide, by decide⟩, by decide +kernel, by decide⟩, GW_t (i := 255) (by decide +kernel) rfl, GW_t (i := 256) (by decide +kernel) rfl⟩
abbrev mX7_isBlock : MD := (yX7_isBlock, cX7_isBlock, 1, (some .boolean))
theorem yw_X7_isBlock : YS mX7_isBlock 1 := ⟨⟨GW_t (i := 260) (by decide +kernel) rfl, GW_t (i := 1) (by decide +kernel) rfl, ⟨by decide, by decide⟩, by decide +kernel, by decide⟩, GW_t (i := 259) (by decide +kernel) rfl⟩
abbrev mX4_firstWithRoom : MD := (yX4_firstWithRoom, cX4_firstWithRoom, 3, (some .int))
theorem yw_X4_firstWithRoom : YV mX4_firstWithRoom 1 := ⟨⟨GW_t (i := 264) (by decide +kernel) rfl, GW_t (i := 6) (by decide +kernel) rfl, ⟨by decide, by decide⟩, by decide +kernel, by decide⟩, GW_t (i := 262) (by decide +kernel) rfl, GW_t (i := 263) (by decide +kernel) rfl⟩
abbrev mX4_emptyBlocks : MD := (yX4_emptyBlocks, cX4_emptyBlocks, 3, (some .int))
theorem yw_X4_emptyBlocks : YV mX4_emptyBlocks 0 := ⟨⟨GW_t (i := 269) (by decide +kernel) rfl, GW_t (i := 6) (by decide +kernel) rfl, ⟨by decide, by decide⟩, by decide +kernel, by decide⟩, GW_t (i := 267) (by decide +kernel) rfl, GW_t (i := 268) (by decide +kernel) rfl⟩
abbrev mX4_carryOut : MD := (yX4_carryOut, cX4_carryOut, 3, none)
theorem yw_X4_carryOut : YV mX4_carryOut 1 := ⟨⟨GW_t (i := 273) (by decide +kernel) rfl, GW_t (i := 6) (by decide +kernel) rfl, ⟨by decide, by decide⟩, by decide +kernel, by decide⟩, GW_t (i := 271) (by decide +kernel) rfl, GW_t (i := 272) (by decide +kernel) rfl⟩
abbrev mX0_putTail : MD := (yX0_putTail, cX0_putTail, 4, none)
theorem yw_X0_putTail : YV mX0_putTail 3 := ⟨⟨GW_t (i := 277) (by decide +kernel) rfl, GW_t (i := 2) (by decide +kernel) rfl, ⟨by decide, by decide⟩, by decide +kernel, by decide⟩, GW_t (i := 275) (by decide +kernel) rfl, GW_t (i := 276) (by decide +kernel) rfl⟩
abbrev mX0_freeIfEmpty : MD := (yX0_freeIfEmpty, cX0_freeIfEmpty, 2, (some .int))
theorem yw_X0_freeIfEmpty : YV mX0_freeIfEmpty 1 := ⟨⟨GW_t (i := 281) (by decide +kernel) rfl, GW_t (i := 2) (by decide +kernel) rfl, ⟨by decide, by decide⟩, by decide +kernel, by decide⟩, GW_t (i := 279) (by decide +kernel) rfl, GW_t (i := 280) (by decide +kernel) rfl⟩
abbrev mX0_takenCells : MD := (yX0_takenCells, cX0_takenCells, 5, (some .int))
theorem yw_X0_takenCells : YV mX0_takenCells 2 := ⟨⟨GW_t (i := 285) (by decide +kernel) rfl, GW_t (i := 2) (by decide +kernel) rfl, ⟨by decide, by decide⟩, by decide +kernel, by decide⟩, GW_t (i := 283) (by decide +kernel) rfl, GW_t (i := 284) (by decide +kernel) rfl⟩
abbrev mX7_clearBuffer : MD := (yX7_clearBuffer, cX7_clearBuffer, 2, (some .int))
theorem yw_X7_clearBuffer : YV mX7_clearBuffer 0 := ⟨⟨GW_t (i := 289) (by decide +kernel) rfl, GW_t (i := 1) (by decide +kernel) rfl, ⟨by decide, by decide⟩, by decide +kernel, by decide⟩, GW_t (i := 287) (by decide +kernel) rfl, GW_t (i := 288) (by decide +kernel) rfl⟩
abbrev mX6_length : MD := (yX6_length, cX6_length, 1, (some .int))
theorem yw_X6_length : YV mX6_length 0 := ⟨⟨GW_t (i := 293) (by decide +kernel) rfl, GW_t (i := 4) (by decide +kernel) rfl, ⟨by decide, by decide⟩, by decide +kernel, by decide⟩, GW_t (i := 291) (by decide +kernel) rfl, GW_t (i := 292) (by decide +kernel) rfl⟩
abbrev mX6_empty : MD := (yX6_empty, cX6_empty, 1, none)
theorem yw_X6_empty : YV mX6_empty 0 := ⟨⟨GW_t (i := 297) (by decide +kernel) rfl, GW_t (i := 4) (by decide +kernel) rfl, ⟨by decide, by decide⟩, by decide +kernel, by decide⟩, GW_t (i := 295) (by decide +kernel) rfl, GW_t (i := 296) (by decide +kernel) rfl⟩
abbrev mX7_firstError : MD := (yX7_firstError, cX7_firstError, 1, (some .int))
theorem yw_X7_firstError : YV mX7_firstError 0 := ⟨⟨GW_t (i := 301) (by decide +kernel) rfl, GW_t (i := 1) (by decide +kernel) rfl, ⟨by decide, by decide⟩, by decide +kernel, by decide⟩, GW_t (i := 299) (by decide +kernel) rfl, GW_t (i := 300) (by decide +kernel) rfl⟩
abbrev mX3_readable : MD := (yX3_readable, cX3_readable, 3, (some .int))
theorem yw_X3_readable : YV mX3_readable 1 := ⟨⟨GW_t (i := 305) (by decide +kernel) rfl, GW_t (i := 5) (by decide +kernel) rfl, ⟨by decide, by decide⟩, by decide +kernel, by decide⟩, GW_t (i := 303) (by decide +kernel) rfl, GW_t (i := 304) (by decide +kernel) rfl⟩
abbrev mX3_begin : MD := (yX3_begin, cX3_begin, 1, none)
theorem yw_X3_begin : YV mX3_begin 0 := ⟨⟨GW_t (i := 309) (by decide +kernel) rfl, GW_t (i := 5) (by decide +kernel) rfl, ⟨by decide, by decide⟩, by decide +kernel, by decide⟩, GW_t (i := 307) (by decide +kernel) rfl, GW_t (i := 308) (by decide +kernel) rfl⟩
abbrev mX6_codeAt : MD := (yX6_codeAt, cX6_codeAt, 2, (some .int))
theorem yw_X6_codeAt : YV mX6_codeAt 1 := ⟨⟨GW_t (i := 314) (by decide +kernel) rfl, GW_t (i := 4) (by decide +kernel) rfl, ⟨by decide, by decide⟩, by decide +kernel, by decide⟩, GW_t (i := 312) (by decide +kernel) rfl, GW_t (i := 313) (by decide +kernel) rfl⟩
abbrev mX3_take : MD := (yX3_take, cX3_take, 2, (some .boolean))
theorem yw_X3_take : YV mX3_take 1 := ⟨⟨GW_t (i := 318) (by decide +kernel) rfl, GW_t (i := 5) (by decide +kernel) rfl, ⟨by decide, by decide⟩, by decide +kernel, by decide⟩, GW_t (i := 316) (by decide +kernel) rfl, GW_t (i := 317) (by decide +kernel) rfl⟩
abbrev mX3_takeSign : MD := (yX3_takeSign, cX3_takeSign, 2, (some .boolean))
theorem yw_X3_takeSign : YV mX3_takeSign 1 := ⟨⟨GW_t (i := 322) (by decide +kernel) rfl, GW_t (i := 5) (by decide +kernel) rfl, ⟨by decide, by decide⟩, by decide +kernel, by decide⟩, GW_t (i := 320) (by decide +kernel) rfl, GW_t (i := 321) (by decide +kernel) rfl⟩
abbrev mX3_takeFile : MD := (yX3_takeFile, cX3_takeFile, 2, (some .boolean))
theorem yw_X3_takeFile : YV mX3_takeFile 1 := ⟨⟨GW_t (i := 326) (by decide +kernel) rfl, GW_t (i := 5) (by decide +kernel) rfl, ⟨by decide, by decide⟩, by decide +kernel, by decide⟩, GW_t (i := 324) (by decide +kernel) rfl, GW_t (i := 325) (by decide +kernel) rfl⟩
abbrev mX3_isDigit : MD := (yX3_isDigit, cX3_isDigit, 1, (some .boolean))
theorem yw_X3_isDigit : YS mX3_isDigit 1 := ⟨⟨GW_t (i := 329) (by decide +kernel) rfl, GW_t (i := 5) (by decide +kernel) rfl, ⟨by decide, by decide⟩, by decide +kernel, by decide⟩, GW_t (i := 328) (by decide +kernel) rfl⟩
abbrev mX3_takeColon : MD := (yX3_takeColon, cX3_takeColon, 2, (some .boolean))
theorem yw_X3_takeColon : YV mX3_takeColon 1 := ⟨⟨GW_t (i := 333) (by decide +kernel) rfl, GW_t (i := 5) (by decide +kernel) rfl, ⟨by decide, by decide⟩, by decide +kernel, by decide⟩, GW_t (i := 331) (by decide +kernel) rfl, GW_t (i := 332) (by decide +kernel) rfl⟩
abbrev mX3_takeFirstDigit : MD := (yX3_takeFirstDigit, cX3_takeFirstDigit, 2, (some .boolean))
theorem yw_X3_takeFirstDigit : YV mX3_takeFirstDigit 1 := ⟨⟨GW_t (i := 337) (by decide +kernel) rfl, GW_t (i := 5) (by decide +kernel) rfl, ⟨by decide, by decide⟩, by decide +kernel, by decide⟩, GW_t (i := 335) (by decide +kernel) rfl, GW_t (i := 336) (by decide +kernel) rfl⟩
abbrev mX3_takeSemicolon : MD := (yX3_takeSemicolon, cX3_takeSemicolon, 2, (some .boolean))
theorem yw_X3_takeSemicolon : YV mX3_takeSemicolon 1 := ⟨⟨GW_t (i := 341) (by decide +kernel) rfl, GW_t (i := 5) (by decide +kernel) rfl, ⟨by decide, by decide⟩, by decide +kernel, by decide⟩, GW_t (i := 339) (by decide +kernel) rfl, GW_t (i := 340) (by decide +kernel) rfl⟩
abbrev mX3_takeDigit : MD := (yX3_takeDigit, cX3_takeDigit, 2, (some .boolean))
theorem yw_X3_takeDigit : YV mX3_takeDigit 1 := ⟨⟨GW_t (i := 345) (by decide +kernel) rfl, GW_t (i := 5) (by decide +kernel) rfl, ⟨by decide, by decide⟩, by decide +kernel, by decide⟩, GW_t (i := 343) (by decide +kernel) rfl, GW_t (i := 344) (by decide +kernel) rfl⟩
abbrev mX7_greatest : MD := (yX7_greatest, cX7_greatest, 2, (some .int))
theorem yw_X7_greatest : YV mX7_greatest 0 := ⟨⟨GW_t (i := 349) (by decide +kernel) rfl, GW_t (i := 1) (by decide +kernel) rfl, ⟨by decide, by decide⟩, by decide +kernel, by decide⟩, GW_t (i := 347) (by decide +kernel) rfl, GW_t (i := 348) (by decide +kernel) rfl⟩
abbrev mX0_hasRoomFor : MD := (yX0_hasRoomFor, cX0_hasRoomFor, 2, (some .boolean))
theorem yw_X0_hasRoomFor : YV mX0_hasRoomFor 1 := ⟨⟨GW_t (i := 353) (by decide +kernel) rfl, GW_t (i := 2) (by decide +kernel) rfl, ⟨by decide, by decide⟩, by decide +kernel, by decide⟩, GW_t (i := 351) (by decide +kernel) rfl, GW_t (i := 352) (by decide +kernel) rfl⟩
abbrev mX0_lowestNumber : MD := (yX0_lowestNumber, cX0_lowestNumber, 2, (some .int))
theorem yw_X0_lowestNumber : YV mX0_lowestNumber 0 := ⟨⟨GW_t (i := 357) (by decide +kernel) rfl, GW_t (i := 2) (by decide +kernel) rfl, ⟨by decide, by decide⟩, by decide +kernel, by decide⟩, GW_t (i := 355) (by decide +kernel) rfl, GW_t (i := 356) (by decide +kernel) rfl⟩
abbrev mX0_isEnough : MD := (yX0_isEnough, cX0_isEnough, 8, (some .boolean))
theorem yw_X0_isEnough : YV mX0_isEnough 3 := ⟨⟨GW_t (i := 361) (by decide +kernel) rfl, GW_t (i := 2) (by decide +kernel) rfl, ⟨by decide, by decide⟩, by decide +kernel, by decide⟩, GW_t (i := 359) (by decide +kernel) rfl, GW_t (i := 360) (by decide +kernel) rfl⟩
abbrev mX0_longestGap : MD := (yX0_longestGap, cX0_longestGap, 4, (some .int))
theorem yw_X0_longestGap : YS mX0_longestGap 1 := ⟨⟨GW_t (i := 364) (by decide +kernel) rfl, GW_t (i := 2) (by decide +kernel) rfl, ⟨by decide, by decide⟩, by decide +kernel, by decide⟩, GW_t (i := 363) (by decide +kernel) rfl⟩
abbrev mX0_isTaken : MD := (yX0_isTaken, cX0_isTaken, 2, (some .boolean))
theorem yw_X0_isTaken : YS mX0_isTaken 2 := ⟨⟨GW_t (i := 367) (by decide +kernel) rfl, GW_t (i := 2) (by decide +kernel) rfl, ⟨by decide, by decide⟩, by decide +kernel, by decide⟩, GW_t (i := 366) (by decide +kernel) rfl⟩
abbrev mJ9_max_7cf53 : MD := (yJ9_max_7cf53, cJ9_max_7cf53, 2, (some .int))
theorem yw_J9_max_7cf53 : YS mJ9_max_7cf53 2 := ⟨⟨GW_t (i := 370) (by decide +kernel) rfl, GW_t (i := 14) (by decide +kernel) rfl, ⟨by decide, by decide⟩, by decide +kernel, by decide⟩, GW_t (i := 369) (by decide +kernel) rfl⟩
abbrev mX7_ifPacked : MD := (yX7_ifPacked, cX7_ifPacked, 1, (some .int))
theorem yw_X7_ifPacked : YV mX7_ifPacked 0 := ⟨⟨GW_t (i := 374) (by decide +kernel) rfl, GW_t (i := 1) (by decide +kernel) rfl, ⟨by decide, by decide⟩, by decide +kernel, by decide⟩, GW_t (i := 372) (by decide +kernel) rfl, GW_t (i := 373) (by decide +kernel) rfl⟩
abbrev mX7_weakest : MD := (yX7_weakest, cX7_weakest, 5, (some .int))
theorem yw_X7_weakest : YV mX7_weakest 0 := ⟨⟨GW_t (i := 378) (by decide +kernel) rfl, GW_t (i := 1) (by decide +kernel) rfl, ⟨by decide, by decide⟩, by decide +kernel, by decide⟩, GW_t (i := 376) (by decide +kernel) rfl, GW_t (i := 377) (by decide +kernel) rfl⟩
abbrev mX0_soundFilesIn : MD := (yX0_soundFilesIn, cX0_soundFilesIn, 4, (some .int))
theorem yw_X0_soundFilesIn : YV mX0_soundFilesIn 1 := ⟨⟨GW_t (i := 383) (by decide +kernel) rfl, GW_t (i := 2) (by decide +kernel) rfl, ⟨by decide, by decide⟩, by decide +kernel, by decide⟩, GW_t (i := 381) (by decide +kernel) rfl, GW_t (i := 382) (by decide +kernel) rfl⟩
abbrev mX0_hasSomething : MD := (yX0_hasSomething, cX0_hasSomething, 3, (some .boolean))
theorem yw_X0_hasSomething : YV mX0_hasSomething 2 := ⟨⟨GW_t (i := 387) (by decide +kernel) rfl, GW_t (i := 2) (by decide +kernel) rfl, ⟨by decide, by decide⟩, by decide +kernel, by decide⟩, GW_t (i := 385) (by decide +kernel) rfl, GW_t (i := 386) (by decide +kernel) rfl⟩
abbrev mX7_usedShare : MD := (yX7_usedShare, cX7_usedShare, 2, (some .double))
theorem yw_X7_usedShare : YV mX7_usedShare 0 := ⟨⟨GW_t (i := 391) (by decide +kernel) rfl, GW_t (i := 1) (by decide +kernel) rfl, ⟨by decide, by decide⟩, by decide +kernel, by decide⟩, GW_t (i := 389) (by decide +kernel) rfl, GW_t (i := 390) (by decide +kernel) rfl⟩
abbrev mX0_blocksOf : MD := (yX0_blocksOf, cX0_blocksOf, 4, (some .int))
theorem yw_X0_blocksOf : YV mX0_blocksOf 1 := ⟨⟨GW_t (i := 395) (by decide +kernel) rfl, GW_t (i := 2) (by decide +kernel) rfl, ⟨by decide, by decide⟩, by decide +kernel, by decide⟩, GW_t (i := 393) (by decide +kernel) rfl, GW_t (i := 394) (by decide +kernel) rfl⟩
abbrev mX7_count : MD := (yX7_count, cX7_count, 2, (some .int))
theorem yw_X7_count : YV mX7_count 1 := ⟨⟨GW_t (i := 399) (by decide +kernel) rfl, GW_t (i := 1) (by decide +kernel) rfl, ⟨by decide, by decide⟩, by decide +kernel, by decide⟩, GW_t (i := 397) (by decide +kernel) rfl, GW_t (i := 398) (by decide +kernel) rfl⟩
abbrev mX7_checkArgument : MD := (yX7_checkArgument, cX7_checkArgument, 3, none)
theorem yw_X7_checkArgument : YS mX7_checkArgument 3 := ⟨⟨GW_t (i := 402) (by decide +kernel) rfl, GW_t (i := 1) (by decide +kernel) rfl, ⟨by decide, by decide⟩, by decide +kernel, by decide⟩, GW_t (i := 401) (by decide +kernel) rfl⟩
abbrev mX0_files : MD := (yX0_files, cX0_files, 3, (some .int))
theorem yw_X0_files : YV mX0_files 0 := ⟨⟨GW_t (i := 474) (by decide +kernel) rfl, GW_t (i := 2) (by decide +kernel) rfl, ⟨by decide, by decide⟩, by decide +kernel, by decide⟩, GW_t (i := 472) (by decide +kernel) rfl, GW_t (i := 473) (by decide +kernel) rfl⟩
abbrev mX0_sharedTailCells : MD := (yX0_sharedTailCells, cX0_sharedTailCells, 3, (some .int))
theorem yw_X0_sharedTailCells : YV mX0_sharedTailCells 0 := ⟨⟨GW_t (i := 478) (by decide +kernel) rfl, GW_t (i := 2) (by decide +kernel) rfl, ⟨by decide, by decide⟩, by decide +kernel, by decide⟩, GW_t (i := 476) (by decide +kernel) rfl, GW_t (i := 477) (by decide +kernel) rfl⟩
abbrev mX0_tailCellsIn : MD := (yX0_tailCellsIn, cX0_tailCellsIn, 2, (some .int))
theorem yw_X0_tailCellsIn : YV mX0_tailCellsIn 1 := ⟨⟨GW_t (i := 482) (by decide +kernel) rfl, GW_t (i := 2) (by decide +kernel) rfl, ⟨by decide, by decide⟩, by decide +kernel, by decide⟩, GW_t (i := 480) (by decide +kernel) rfl, GW_t (i := 481) (by decide +kernel) rfl⟩
abbrev mJ6_bitCount_0f7a4 : MD := (yJ6_bitCount_0f7a4, cJ6_bitCount_0f7a4, 1, (some .int))
theorem yw_J6_bitCount_0f7a4 : YS mJ6_bitCount_0f7a4 1 := ⟨⟨GW_t (i := 485) (by decide +kernel) rfl, GW_t (i := 17) (by decide +kernel) rfl, ⟨by decide, by decide⟩, by decide +kernel, by decide⟩, GW_t (i := 484) (by decide +kernel) rfl⟩
abbrev mX0_brokenFiles : MD := (yX0_brokenFiles, cX0_brokenFiles, 3, (some .int))
theorem yw_X0_brokenFiles : YV mX0_brokenFiles 0 := ⟨⟨GW_t (i := 492) (by decide +kernel) rfl, GW_t (i := 2) (by decide +kernel) rfl, ⟨by decide, by decide⟩, by decide +kernel, by decide⟩, GW_t (i := 490) (by decide +kernel) rfl, GW_t (i := 491) (by decide +kernel) rfl⟩
abbrev mX2_held : MD := (yX2_held, cX2_held, 1, (some .int))
theorem yw_X2_held : YV mX2_held 0 := ⟨⟨GW_t (i := 496) (by decide +kernel) rfl, GW_t (i := 3) (by decide +kernel) rfl, ⟨by decide, by decide⟩, by decide +kernel, by decide⟩, GW_t (i := 494) (by decide +kernel) rfl, GW_t (i := 495) (by decide +kernel) rfl⟩
abbrev mX7_digest : MD := (yX7_digest, cX7_digest, 5, (some .long))
theorem yw_X7_digest : YV mX7_digest 0 := ⟨⟨GW_t (i := 500) (by decide +kernel) rfl, GW_t (i := 1) (by decide +kernel) rfl, ⟨by decide, by decide⟩, by decide +kernel, by decide⟩, GW_t (i := 498) (by decide +kernel) rfl, GW_t (i := 499) (by decide +kernel) rfl⟩
abbrev mX7_mix : MD := (yX7_mix, cX7_mix, 4, (some .long))
theorem yw_X7_mix : YS mX7_mix 2 := ⟨⟨GW_t (i := 504) (by decide +kernel) rfl, GW_t (i := 1) (by decide +kernel) rfl, ⟨by decide, by decide⟩, by decide +kernel, by decide⟩, GW_t (i := 503) (by decide +kernel) rfl⟩
abbrev mX7_mixFile : MD := (yX7_mixFile, cX7_mixFile, 7, (some .long))
theorem yw_X7_mixFile : YV mX7_mixFile 2 := ⟨⟨GW_t (i := 510) (by decide +kernel) rfl, GW_t (i := 1) (by decide +kernel) rfl, ⟨by decide, by decide⟩, by decide +kernel, by decide⟩, GW_t (i := 509) (by decide +kernel) rfl, GW_p (i := 1) (by decide +kernel) rfl⟩
abbrev mX0_fileProperty : MD := (yX0_fileProperty, cX0_fileProperty, 3, (some .int))
theorem yw_X0_fileProperty : YV mX0_fileProperty 2 := ⟨⟨GW_t (i := 514) (by decide +kernel) rfl, GW_t (i := 2) (by decide +kernel) rfl, ⟨by decide, by decide⟩, by decide +kernel, by decide⟩, GW_t (i := 512) (by decide +kernel) rfl, GW_t (i := 513) (by decide +kernel) rfl⟩
abbrev mX0_whereIs : MD := (yX0_whereIs, cX0_whereIs, 4, (some .int))
theorem yw_X0_whereIs : YV mX0_whereIs 2 := ⟨⟨GW_t (i := 519) (by decide +kernel) rfl, GW_t (i := 2) (by decide +kernel) rfl, ⟨by decide, by decide⟩, by decide +kernel, by decide⟩, GW_t (i := 517) (by decide +kernel) rfl, GW_t (i := 518) (by decide +kernel) rfl⟩
abbrev mX0_growthOf : MD := (yX0_growthOf, cX0_growthOf, 5, (some .int))
theorem yw_X0_growthOf : YV mX0_growthOf 2 := ⟨⟨GW_t (i := 523) (by decide +kernel) rfl, GW_t (i := 2) (by decide +kernel) rfl, ⟨by decide, by decide⟩, by decide +kernel, by decide⟩, GW_t (i := 521) (by decide +kernel) rfl, GW_t (i := 522) (by decide +kernel) rfl⟩
abbrev mX0_cellsBehindTail : MD := (yX0_cellsBehindTail, cX0_cellsBehindTail, 3, (some .int))
theorem yw_X0_cellsBehindTail : YV mX0_cellsBehindTail 1 := ⟨⟨GW_t (i := 527) (by decide +kernel) rfl, GW_t (i := 2) (by decide +kernel) rfl, ⟨by decide, by decide⟩, by decide +kernel, by decide⟩, GW_t (i := 525) (by decide +kernel) rfl, GW_t (i := 526) (by decide +kernel) rfl⟩
abbrev mX0_gapFrom : MD := (yX0_gapFrom, cX0_gapFrom, 3, (some .int))
theorem yw_X0_gapFrom : YS mX0_gapFrom 2 := ⟨⟨GW_t (i := 530) (by decide +kernel) rfl, GW_t (i := 2) (by decide +kernel) rfl, ⟨by decide, by decide⟩, by decide +kernel, by decide⟩, GW_t (i := 529) (by decide +kernel) rfl⟩
abbrev mX0_blockProperty : MD := (yX0_blockProperty, cX0_blockProperty, 3, (some .int))
theorem yw_X0_blockProperty : YV mX0_blockProperty 2 := ⟨⟨GW_t (i := 534) (by decide +kernel) rfl, GW_t (i := 2) (by decide +kernel) rfl, ⟨by decide, by decide⟩, by decide +kernel, by decide⟩, GW_t (i := 532) (by decide +kernel) rfl, GW_t (i := 533) (by decide +kernel) rfl⟩
abbrev mX0_tailsIn : MD := (yX0_tailsIn, cX0_tailsIn, 4, (some .int))
theorem yw_X0_tailsIn : YV mX0_tailsIn 1 := ⟨⟨GW_t (i := 538) (by decide +kernel) rfl, GW_t (i := 2) (by decide +kernel) rfl, ⟨by decide, by decide⟩, by decide +kernel, by decide⟩, GW_t (i := 536) (by decide +kernel) rfl, GW_t (i := 537) (by decide +kernel) rfl⟩
abbrev mX7_mixOutlook : MD := (yX7_mixOutlook, cX7_mixOutlook, 5, (some .long))
theorem yw_X7_mixOutlook : YV mX7_mixOutlook 1 := ⟨⟨GW_t (i := 542) (by decide +kernel) rfl, GW_t (i := 1) (by decide +kernel) rfl, ⟨by decide, by decide⟩, by decide +kernel, by decide⟩, GW_t (i := 541) (by decide +kernel) rfl, GW_p (i := 2) (by decide +kernel) rfl⟩
abbrev mX0_placeFor : MD := (yX0_placeFor, cX0_placeFor, 9, (some .int))
theorem yw_X0_placeFor : YV mX0_placeFor 1 := ⟨⟨GW_t (i := 546) (by decide +kernel) rfl, GW_t (i := 2) (by decide +kernel) rfl, ⟨by decide, by decide⟩, by decide +kernel, by decide⟩, GW_t (i := 544) (by decide +kernel) rfl, GW_t (i := 545) (by decide +kernel) rfl⟩
abbrev mX0_lowestFree : MD := (yX0_lowestFree, cX0_lowestFree, 2, (some .int))
theorem yw_X0_lowestFree : YV mX0_lowestFree 0 := ⟨⟨GW_t (i := 551) (by decide +kernel) rfl, GW_t (i := 2) (by decide +kernel) rfl, ⟨by decide, by decide⟩, by decide +kernel, by decide⟩, GW_t (i := 549) (by decide +kernel) rfl, GW_t (i := 550) (by decide +kernel) rfl⟩
abbrev mX7_fewest : MD := (yX7_fewest, cX7_fewest, 2, (some .int))
theorem yw_X7_fewest : YV mX7_fewest 1 := ⟨⟨GW_t (i := 556) (by decide +kernel) rfl, GW_t (i := 1) (by decide +kernel) rfl, ⟨by decide, by decide⟩, by decide +kernel, by decide⟩, GW_t (i := 554) (by decide +kernel) rfl, GW_t (i := 555) (by decide +kernel) rfl⟩
abbrev mX1_bySets : MD := (yX1_bySets, cX1_bySets, 4, (some .int))
theorem yw_X1_bySets : YV mX1_bySets 1 := ⟨⟨GW_t (i := 560) (by decide +kernel) rfl, GW_t (i := 8) (by decide +kernel) rfl, ⟨by decide, by decide⟩, by decide +kernel, by decide⟩, GW_t (i := 558) (by decide +kernel) rfl, GW_t (i := 559) (by decide +kernel) rfl⟩
abbrev mX1_solveSet : MD := (yX1_solveSet, cX1_solveSet, 7, none)
theorem yw_X1_solveSet : YV mX1_solveSet 1 := ⟨⟨GW_t (i := 565) (by decide +kernel) rfl, GW_t (i := 8) (by decide +kernel) rfl, ⟨by decide, by decide⟩, by decide +kernel, by decide⟩, GW_t (i := 563) (by decide +kernel) rfl, GW_t (i := 564) (by decide +kernel) rfl⟩
abbrev mX1_byTrying : MD := (yX1_byTrying, cX1_byTrying, 3, (some .int))
theorem yw_X1_byTrying : YV mX1_byTrying 1 := ⟨⟨GW_t (i := 569) (by decide +kernel) rfl, GW_t (i := 8) (by decide +kernel) rfl, ⟨by decide, by decide⟩, by decide +kernel, by decide⟩, GW_t (i := 567) (by decide +kernel) rfl, GW_t (i := 568) (by decide +kernel) rfl⟩
abbrev mX5_cells : MD := (yX5_cells, cX5_cells, 3, (some .int))
theorem yw_X5_cells : YV mX5_cells 0 := ⟨⟨GW_t (i := 573) (by decide +kernel) rfl, GW_t (i := 7) (by decide +kernel) rfl, ⟨by decide, by decide⟩, by decide +kernel, by decide⟩, GW_t (i := 571) (by decide +kernel) rfl, GW_t (i := 572) (by decide +kernel) rfl⟩
abbrev mX1_tryTail : MD := (yX1_tryTail, cX1_tryTail, 9, (some .int))
theorem yw_X1_tryTail : YS mX1_tryTail 6 := ⟨⟨GW_t (i := 576) (by decide +kernel) rfl, GW_t (i := 8) (by decide +kernel) rfl, ⟨by decide, by decide⟩, by decide +kernel, by decide⟩, GW_t (i := 575) (by decide +kernel) rfl⟩
abbrev mX7_bitsOf : MD := (yX7_bitsOf, cX7_bitsOf, 5, (some .long))
theorem yw_X7_bitsOf : YS mX7_bitsOf 1 := ⟨⟨GW_t (i := 582) (by decide +kernel) rfl, GW_t (i := 1) (by decide +kernel) rfl, ⟨by decide, by decide⟩, by decide +kernel, by decide⟩, GW_t (i := 581) (by decide +kernel) rfl⟩
abbrev mX7_mixText : MD := (yX7_mixText, cX7_mixText, 6, (some .long))
theorem yw_X7_mixText : YV mX7_mixText 1 := ⟨⟨GW_t (i := 588) (by decide +kernel) rfl, GW_t (i := 1) (by decide +kernel) rfl, ⟨by decide, by decide⟩, by decide +kernel, by decide⟩, GW_t (i := 587) (by decide +kernel) rfl, GW_p (i := 3) (by decide +kernel) rfl⟩
abbrev mX7_create : MD := (yX7_create, cX7_create, 2, (some .int))
theorem yw_X7_create : YV mX7_create 1 := ⟨⟨GW_t (i := 597) (by decide +kernel) rfl, GW_t (i := 1) (by decide +kernel) rfl, ⟨by decide, by decide⟩, by decide +kernel, by decide⟩, GW_t (i := 595) (by decide +kernel) rfl, GW_t (i := 596) (by decide +kernel) rfl⟩
abbrev mX0_addFile : MD := (yX0_addFile, cX0_addFile, 3, (some .int))
theorem yw_X0_addFile : YV mX0_addFile 1 := ⟨⟨GW_t (i := 601) (by decide +kernel) rfl, GW_t (i := 2) (by decide +kernel) rfl, ⟨by decide, by decide⟩, by decide +kernel, by decide⟩, GW_t (i := 599) (by decide +kernel) rfl, GW_t (i := 600) (by decide +kernel) rfl⟩
abbrev mX0_rebuild : MD := (yX0_rebuild, cX0_rebuild, 4, none)
theorem yw_X0_rebuild : YV mX0_rebuild 2 := ⟨⟨GW_t (i := 606) (by decide +kernel) rfl, GW_t (i := 2) (by decide +kernel) rfl, ⟨by decide, by decide⟩, by decide +kernel, by decide⟩, GW_t (i := 604) (by decide +kernel) rfl, GW_t (i := 605) (by decide +kernel) rfl⟩
abbrev mX0_dropTail : MD := (yX0_dropTail, cX0_dropTail, 3, (some .int))
theorem yw_X0_dropTail : YV mX0_dropTail 1 := ⟨⟨GW_t (i := 610) (by decide +kernel) rfl, GW_t (i := 2) (by decide +kernel) rfl, ⟨by decide, by decide⟩, by decide +kernel, by decide⟩, GW_t (i := 608) (by decide +kernel) rfl, GW_t (i := 609) (by decide +kernel) rfl⟩
abbrev mX0_takeWhole : MD := (yX0_takeWhole, cX0_takeWhole, 4, none)
theorem yw_X0_takeWhole : YV mX0_takeWhole 2 := ⟨⟨GW_t (i := 615) (by decide +kernel) rfl, GW_t (i := 2) (by decide +kernel) rfl, ⟨by decide, by decide⟩, by decide +kernel, by decide⟩, GW_t (i := 613) (by decide +kernel) rfl, GW_t (i := 614) (by decide +kernel) rfl⟩
abbrev mX0_dropWholes : MD := (yX0_dropWholes, cX0_dropWholes, 5, (some .int))
theorem yw_X0_dropWholes : YV mX0_dropWholes 2 := ⟨⟨GW_t (i := 619) (by decide +kernel) rfl, GW_t (i := 2) (by decide +kernel) rfl, ⟨by decide, by decide⟩, by decide +kernel, by decide⟩, GW_t (i := 617) (by decide +kernel) rfl, GW_t (i := 618) (by decide +kernel) rfl⟩
abbrev mX7_grow : MD := (yX7_grow, cX7_grow, 3, (some .int))
theorem yw_X7_grow : YV mX7_grow 2 := ⟨⟨GW_t (i := 629) (by decide +kernel) rfl, GW_t (i := 1) (by decide +kernel) rfl, ⟨by decide, by decide⟩, by decide +kernel, by decide⟩, GW_t (i := 627) (by decide +kernel) rfl, GW_t (i := 628) (by decide +kernel) rfl⟩
abbrev mX7_checkFile : MD := (yX7_checkFile, cX7_checkFile, 2, none)
theorem yw_X7_checkFile : YV mX7_checkFile 1 := ⟨⟨GW_t (i := 633) (by decide +kernel) rfl, GW_t (i := 1) (by decide +kernel) rfl, ⟨by decide, by decide⟩, by decide +kernel, by decide⟩, GW_t (i := 632) (by decide +kernel) rfl, GW_p (i := 4) (by decide +kernel) rfl⟩
abbrev mX0_extend : MD := (yX0_extend, cX0_extend, 4, (some .int))
theorem yw_X0_extend : YV mX0_extend 2 := ⟨⟨GW_t (i := 653) (by decide +kernel) rfl, GW_t (i := 2) (by decide +kernel) rfl, ⟨by decide, by decide⟩, by decide +kernel, by decide⟩, GW_t (i := 651) (by decide +kernel) rfl, GW_t (i := 652) (by decide +kernel) rfl⟩
abbrev mX7_cut : MD := (yX7_cut, cX7_cut, 3, (some .int))
theorem yw_X7_cut : YV mX7_cut 2 := ⟨⟨GW_t (i := 661) (by decide +kernel) rfl, GW_t (i := 1) (by decide +kernel) rfl, ⟨by decide, by decide⟩, by decide +kernel, by decide⟩, GW_t (i := 659) (by decide +kernel) rfl, GW_t (i := 660) (by decide +kernel) rfl⟩
abbrev mX0_shorten : MD := (yX0_shorten, cX0_shorten, 4, (some .int))
theorem yw_X0_shorten : YV mX0_shorten 2 := ⟨⟨GW_t (i := 665) (by decide +kernel) rfl, GW_t (i := 2) (by decide +kernel) rfl, ⟨by decide, by decide⟩, by decide +kernel, by decide⟩, GW_t (i := 663) (by decide +kernel) rfl, GW_t (i := 664) (by decide +kernel) rfl⟩
abbrev mX7_delete : MD := (yX7_delete, cX7_delete, 2, (some .int))
theorem yw_X7_delete : YV mX7_delete 1 := ⟨⟨GW_t (i := 672) (by decide +kernel) rfl, GW_t (i := 1) (by decide +kernel) rfl, ⟨by decide, by decide⟩, by decide +kernel, by decide⟩, GW_t (i := 670) (by decide +kernel) rfl, GW_t (i := 671) (by decide +kernel) rfl⟩
abbrev mX0_removeFile : MD := (yX0_removeFile, cX0_removeFile, 3, (some .int))
theorem yw_X0_removeFile : YV mX0_removeFile 1 := ⟨⟨GW_t (i := 676) (by decide +kernel) rfl, GW_t (i := 2) (by decide +kernel) rfl, ⟨by decide, by decide⟩, by decide +kernel, by decide⟩, GW_t (i := 674) (by decide +kernel) rfl, GW_t (i := 675) (by decide +kernel) rfl⟩
abbrev mX7_spoil : MD := (yX7_spoil, cX7_spoil, 2, (some .int))
theorem yw_X7_spoil : YV mX7_spoil 1 := ⟨⟨GW_t (i := 684) (by decide +kernel) rfl, GW_t (i := 1) (by decide +kernel) rfl, ⟨by decide, by decide⟩, by decide +kernel, by decide⟩, GW_t (i := 682) (by decide +kernel) rfl, GW_t (i := 683) (by decide +kernel) rfl⟩
abbrev mX7_checkBlock : MD := (yX7_checkBlock, cX7_checkBlock, 1, none)
theorem yw_X7_checkBlock : YS mX7_checkBlock 1 := ⟨⟨GW_t (i := 687) (by decide +kernel) rfl, GW_t (i := 1) (by decide +kernel) rfl, ⟨by decide, by decide⟩, by decide +kernel, by decide⟩, GW_t (i := 686) (by decide +kernel) rfl⟩
abbrev mX0_turnBad : MD := (yX0_turnBad, cX0_turnBad, 4, (some .int))
theorem yw_X0_turnBad : YV mX0_turnBad 1 := ⟨⟨GW_t (i := 709) (by decide +kernel) rfl, GW_t (i := 2) (by decide +kernel) rfl, ⟨by decide, by decide⟩, by decide +kernel, by decide⟩, GW_t (i := 707) (by decide +kernel) rfl, GW_t (i := 708) (by decide +kernel) rfl⟩
abbrev mX7_heal : MD := (yX7_heal, cX7_heal, 2, (some .int))
theorem yw_X7_heal : YV mX7_heal 1 := ⟨⟨GW_t (i := 716) (by decide +kernel) rfl, GW_t (i := 1) (by decide +kernel) rfl, ⟨by decide, by decide⟩, by decide +kernel, by decide⟩, GW_t (i := 714) (by decide +kernel) rfl, GW_t (i := 715) (by decide +kernel) rfl⟩
abbrev mX0_isHeld : MD := (yX0_isHeld, cX0_isHeld, 3, (some .boolean))
theorem yw_X0_isHeld : YV mX0_isHeld 1 := ⟨⟨GW_t (i := 721) (by decide +kernel) rfl, GW_t (i := 2) (by decide +kernel) rfl, ⟨by decide, by decide⟩, by decide +kernel, by decide⟩, GW_t (i := 719) (by decide +kernel) rfl, GW_t (i := 720) (by decide +kernel) rfl⟩
abbrev mX0_turnFree : MD := (yX0_turnFree, cX0_turnFree, 2, none)
theorem yw_X0_turnFree : YV mX0_turnFree 1 := ⟨⟨GW_t (i := 726) (by decide +kernel) rfl, GW_t (i := 2) (by decide +kernel) rfl, ⟨by decide, by decide⟩, by decide +kernel, by decide⟩, GW_t (i := 724) (by decide +kernel) rfl, GW_t (i := 725) (by decide +kernel) rfl⟩
abbrev mX7_set : MD := (yX7_set, cX7_set, 3, (some .int))
theorem yw_X7_set : YV mX7_set 1 := ⟨⟨GW_t (i := 733) (by decide +kernel) rfl, GW_t (i := 1) (by decide +kernel) rfl, ⟨by decide, by decide⟩, by decide +kernel, by decide⟩, GW_t (i := 731) (by decide +kernel) rfl, GW_t (i := 732) (by decide +kernel) rfl⟩
abbrev mX7_append : MD := (yX7_append, cX7_append, 2, (some .int))
theorem yw_X7_append : YV mX7_append 1 := ⟨⟨GW_t (i := 740) (by decide +kernel) rfl, GW_t (i := 1) (by decide +kernel) rfl, ⟨by decide, by decide⟩, by decide +kernel, by decide⟩, GW_t (i := 738) (by decide +kernel) rfl, GW_t (i := 739) (by decide +kernel) rfl⟩
abbrev mX6_isFull : MD := (yX6_isFull, cX6_isFull, 1, (some .boolean))
theorem yw_X6_isFull : YV mX6_isFull 0 := ⟨⟨GW_t (i := 744) (by decide +kernel) rfl, GW_t (i := 4) (by decide +kernel) rfl, ⟨by decide, by decide⟩, by decide +kernel, by decide⟩, GW_t (i := 742) (by decide +kernel) rfl, GW_t (i := 743) (by decide +kernel) rfl⟩
abbrev mX6_add : MD := (yX6_add, cX6_add, 2, none)
theorem yw_X6_add : YV mX6_add 1 := ⟨⟨GW_t (i := 749) (by decide +kernel) rfl, GW_t (i := 4) (by decide +kernel) rfl, ⟨by decide, by decide⟩, by decide +kernel, by decide⟩, GW_t (i := 747) (by decide +kernel) rfl, GW_t (i := 748) (by decide +kernel) rfl⟩
abbrev mX7_run : MD := (yX7_run, cX7_run, 2, (some .int))
theorem yw_X7_run : YV mX7_run 0 := ⟨⟨GW_t (i := 756) (by decide +kernel) rfl, GW_t (i := 1) (by decide +kernel) rfl, ⟨by decide, by decide⟩, by decide +kernel, by decide⟩, GW_t (i := 754) (by decide +kernel) rfl, GW_t (i := 755) (by decide +kernel) rfl⟩
abbrev mX3_canEndHere : MD := (yX3_canEndHere, cX3_canEndHere, 1, (some .boolean))
theorem yw_X3_canEndHere : YV mX3_canEndHere 0 := ⟨⟨GW_t (i := 760) (by decide +kernel) rfl, GW_t (i := 5) (by decide +kernel) rfl, ⟨by decide, by decide⟩, by decide +kernel, by decide⟩, GW_t (i := 758) (by decide +kernel) rfl, GW_t (i := 759) (by decide +kernel) rfl⟩
abbrev mX7_obeyAll : MD := (yX7_obeyAll, cX7_obeyAll, 4, (some .int))
theorem yw_X7_obeyAll : YV mX7_obeyAll 0 := ⟨⟨GW_t (i := 765) (by decide +kernel) rfl, GW_t (i := 1) (by decide +kernel) rfl, ⟨by decide, by decide⟩, by decide +kernel, by decide⟩, GW_t (i := 764) (by decide +kernel) rfl, GW_p (i := 5) (by decide +kernel) rfl⟩
abbrev mX7_obey : MD := (yX7_obey, cX7_obey, 1, (some .boolean))
theorem yw_X7_obey : YV mX7_obey 0 := ⟨⟨GW_t (i := 770) (by decide +kernel) rfl, GW_t (i := 1) (by decide +kernel) rfl, ⟨by decide, by decide⟩, by decide +kernel, by decide⟩, GW_t (i := 769) (by decide +kernel) rfl, GW_p (i := 6) (by decide +kernel) rfl⟩
abbrev mX7_keep : MD := (yX7_keep, cX7_keep, 2, (some .int))
theorem yw_X7_keep : YV mX7_keep 1 := ⟨⟨GW_t (i := 778) (by decide +kernel) rfl, GW_t (i := 1) (by decide +kernel) rfl, ⟨by decide, by decide⟩, by decide +kernel, by decide⟩, GW_t (i := 776) (by decide +kernel) rfl, GW_t (i := 777) (by decide +kernel) rfl⟩
abbrev mX7_goBack : MD := (yX7_goBack, cX7_goBack, 2, (some .int))
theorem yw_X7_goBack : YV mX7_goBack 1 := ⟨⟨GW_t (i := 786) (by decide +kernel) rfl, GW_t (i := 1) (by decide +kernel) rfl, ⟨by decide, by decide⟩, by decide +kernel, by decide⟩, GW_t (i := 784) (by decide +kernel) rfl, GW_t (i := 785) (by decide +kernel) rfl⟩
abbrev mX7_undo : MD := (yX7_undo, cX7_undo, 1, (some .int))
theorem yw_X7_undo : YV mX7_undo 0 := ⟨⟨GW_t (i := 794) (by decide +kernel) rfl, GW_t (i := 1) (by decide +kernel) rfl, ⟨by decide, by decide⟩, by decide +kernel, by decide⟩, GW_t (i := 792) (by decide +kernel) rfl, GW_t (i := 793) (by decide +kernel) rfl⟩
abbrev mX2_restore : MD := (yX2_restore, cX2_restore, 2, none)
theorem yw_X2_restore : YV mX2_restore 1 := ⟨⟨GW_t (i := 799) (by decide +kernel) rfl, GW_t (i := 3) (by decide +kernel) rfl, ⟨by decide, by decide⟩, by decide +kernel, by decide⟩, GW_t (i := 797) (by decide +kernel) rfl, GW_t (i := 798) (by decide +kernel) rfl⟩
abbrev mX7_fileOf : MD := (yX7_fileOf, cX7_fileOf, 3, (some .int))
theorem yw_X7_fileOf : YV mX7_fileOf 2 := ⟨⟨GW_t (i := 806) (by decide +kernel) rfl, GW_t (i := 1) (by decide +kernel) rfl, ⟨by decide, by decide⟩, by decide +kernel, by decide⟩, GW_t (i := 804) (by decide +kernel) rfl, GW_t (i := 805) (by decide +kernel) rfl⟩
abbrev mX7_place : MD := (yX7_place, cX7_place, 3, (some .int))
theorem yw_X7_place : YV mX7_place 2 := ⟨⟨GW_t (i := 813) (by decide +kernel) rfl, GW_t (i := 1) (by decide +kernel) rfl, ⟨by decide, by decide⟩, by decide +kernel, by decide⟩, GW_t (i := 811) (by decide +kernel) rfl, GW_t (i := 812) (by decide +kernel) rfl⟩
abbrev mX7_blockOf : MD := (yX7_blockOf, cX7_blockOf, 3, (some .int))
theorem yw_X7_blockOf : YV mX7_blockOf 2 := ⟨⟨GW_t (i := 821) (by decide +kernel) rfl, GW_t (i := 1) (by decide +kernel) rfl, ⟨by decide, by decide⟩, by decide +kernel, by decide⟩, GW_t (i := 819) (by decide +kernel) rfl, GW_t (i := 820) (by decide +kernel) rfl⟩
abbrev mX7_ifPlaced : MD := (yX7_ifPlaced, cX7_ifPlaced, 2, (some .int))
theorem yw_X7_ifPlaced : YV mX7_ifPlaced 1 := ⟨⟨GW_t (i := 832) (by decide +kernel) rfl, GW_t (i := 1) (by decide +kernel) rfl, ⟨by decide, by decide⟩, by decide +kernel, by decide⟩, GW_t (i := 830) (by decide +kernel) rfl, GW_t (i := 831) (by decide +kernel) rfl⟩
abbrev mX7_ifGrown : MD := (yX7_ifGrown, cX7_ifGrown, 3, (some .int))
theorem yw_X7_ifGrown : YV mX7_ifGrown 2 := ⟨⟨GW_t (i := 839) (by decide +kernel) rfl, GW_t (i := 1) (by decide +kernel) rfl, ⟨by decide, by decide⟩, by decide +kernel, by decide⟩, GW_t (i := 837) (by decide +kernel) rfl, GW_t (i := 838) (by decide +kernel) rfl⟩
abbrev mX8_init : MD := (yX8_init, cX8_init, 1, none)
theorem yw_X8_init : YI mX8_init 0 := ⟨⟨GW_t (i := 848) (by decide +kernel) rfl, GW_t (i := 9) (by decide +kernel) rfl, ⟨by decide, by decide⟩, by decide +kernel, by decide⟩, GW_t (i := 847) (by decide +kernel) rfl, rfl, rfl⟩
abbrev mX8_thrown : MD := (yX8_thrown, cX8_thrown, 1, (some .int))
theorem yw_X8_thrown : YV mX8_thrown 0 := ⟨⟨GW_t (i := 897) (by decide +kernel) rfl, GW_t (i := 9) (by decide +kernel) rfl, ⟨by decide, by decide⟩, by decide +kernel, by decide⟩, GW_t (i := 895) (by decide +kernel) rfl, GW_t (i := 896) (by decide +kernel) rfl⟩
abbrev mX8_undo : MD := (yX8_undo, cX8_undo, 2, (some .int))
theorem yw_X8_undo : YV mX8_undo 0 := ⟨⟨GW_t (i := 901) (by decide +kernel) rfl, GW_t (i := 9) (by decide +kernel) rfl, ⟨by decide, by decide⟩, by decide +kernel, by decide⟩, GW_t (i := 899) (by decide +kernel) rfl, GW_t (i := 900) (by decide +kernel) rfl⟩
abbrev mX8_fails : MD := (yX8_fails, cX8_fails, 2, (some .int))
theorem yw_X8_fails : YV mX8_fails 1 := ⟨⟨GW_t (i := 905) (by decide +kernel) rfl, GW_t (i := 9) (by decide +kernel) rfl, ⟨by decide, by decide⟩, by decide +kernel, by decide⟩, GW_t (i := 904) (by decide +kernel) rfl, GW_p (i := 7) (by decide +kernel) rfl⟩
abbrev mX8_keep : MD := (yX8_keep, cX8_keep, 3, (some .int))
theorem yw_X8_keep : YV mX8_keep 1 := ⟨⟨GW_t (i := 909) (by decide +kernel) rfl, GW_t (i := 9) (by decide +kernel) rfl, ⟨by decide, by decide⟩, by decide +kernel, by decide⟩, GW_t (i := 907) (by decide +kernel) rfl, GW_t (i := 908) (by decide +kernel) rfl⟩
abbrev mX8_in : MD := (yX8_in, cX8_in, 3, (some .boolean))
theorem yw_X8_in : YS mX8_in 3 := ⟨⟨GW_t (i := 912) (by decide +kernel) rfl, GW_t (i := 9) (by decide +kernel) rfl, ⟨by decide, by decide⟩, by decide +kernel, by decide⟩, GW_t (i := 911) (by decide +kernel) rfl⟩
abbrev mX8_files : MD := (yX8_files, cX8_files, 3, (some .int))
theorem yw_X8_files : YV mX8_files 0 := ⟨⟨GW_t (i := 916) (by decide +kernel) rfl, GW_t (i := 9) (by decide +kernel) rfl, ⟨by decide, by decide⟩, by decide +kernel, by decide⟩, GW_t (i := 915) (by decide +kernel) rfl, GW_p (i := 8) (by decide +kernel) rfl⟩
abbrev mX8_of : MD := (yX8_of, cX8_of, 3, (some .int))
theorem yw_X8_of : YV mX8_of 2 := ⟨⟨GW_t (i := 920) (by decide +kernel) rfl, GW_t (i := 9) (by decide +kernel) rfl, ⟨by decide, by decide⟩, by decide +kernel, by decide⟩, GW_t (i := 919) (by decide +kernel) rfl, GW_p (i := 9) (by decide +kernel) rfl⟩
abbrev mX8_goBack : MD := (yX8_goBack, cX8_goBack, 3, (some .int))
theorem yw_X8_goBack : YV mX8_goBack 1 := ⟨⟨GW_t (i := 924) (by decide +kernel) rfl, GW_t (i := 9) (by decide +kernel) rfl, ⟨by decide, by decide⟩, by decide +kernel, by decide⟩, GW_t (i := 922) (by decide +kernel) rfl, GW_t (i := 923) (by decide +kernel) rfl⟩
abbrev mX8_save : MD := (yX8_save, cX8_save, 2, none)
theorem yw_X8_save : YV mX8_save 0 := ⟨⟨GW_t (i := 928) (by decide +kernel) rfl, GW_t (i := 9) (by decide +kernel) rfl, ⟨by decide, by decide⟩, by decide +kernel, by decide⟩, GW_t (i := 927) (by decide +kernel) rfl, GW_p (i := 10) (by decide +kernel) rfl⟩
abbrev mX8_create : MD := (yX8_create, cX8_create, 2, (some .int))
theorem yw_X8_create : YV mX8_create 1 := ⟨⟨GW_t (i := 932) (by decide +kernel) rfl, GW_t (i := 9) (by decide +kernel) rfl, ⟨by decide, by decide⟩, by decide +kernel, by decide⟩, GW_t (i := 930) (by decide +kernel) rfl, GW_t (i := 931) (by decide +kernel) rfl⟩
abbrev mX8_creates : MD := (yX8_creates, cX8_creates, 4, (some .int))
theorem yw_X8_creates : YV mX8_creates 1 := ⟨⟨GW_t (i := 936) (by decide +kernel) rfl, GW_t (i := 9) (by decide +kernel) rfl, ⟨by decide, by decide⟩, by decide +kernel, by decide⟩, GW_t (i := 935) (by decide +kernel) rfl, GW_p (i := 11) (by decide +kernel) rfl⟩
abbrev mX8_freeNumber : MD := (yX8_freeNumber, cX8_freeNumber, 2, (some .int))
theorem yw_X8_freeNumber : YV mX8_freeNumber 0 := ⟨⟨GW_t (i := 940) (by decide +kernel) rfl, GW_t (i := 9) (by decide +kernel) rfl, ⟨by decide, by decide⟩, by decide +kernel, by decide⟩, GW_t (i := 939) (by decide +kernel) rfl, GW_p (i := 12) (by decide +kernel) rfl⟩
abbrev mX8_layAside : MD := (yX8_layAside, cX8_layAside, 2, none)
theorem yw_X8_layAside : YV mX8_layAside 0 := ⟨⟨GW_t (i := 944) (by decide +kernel) rfl, GW_t (i := 9) (by decide +kernel) rfl, ⟨by decide, by decide⟩, by decide +kernel, by decide⟩, GW_t (i := 943) (by decide +kernel) rfl, GW_p (i := 13) (by decide +kernel) rfl⟩
abbrev mX8_refused : MD := (yX8_refused, cX8_refused, 1, (some .int))
theorem yw_X8_refused : YV mX8_refused 0 := ⟨⟨GW_t (i := 948) (by decide +kernel) rfl, GW_t (i := 9) (by decide +kernel) rfl, ⟨by decide, by decide⟩, by decide +kernel, by decide⟩, GW_t (i := 947) (by decide +kernel) rfl, GW_p (i := 14) (by decide +kernel) rfl⟩
abbrev mX8_putBack : MD := (yX8_putBack, cX8_putBack, 2, none)
theorem yw_X8_putBack : YV mX8_putBack 0 := ⟨⟨GW_t (i := 952) (by decide +kernel) rfl, GW_t (i := 9) (by decide +kernel) rfl, ⟨by decide, by decide⟩, by decide +kernel, by decide⟩, GW_t (i := 951) (by decide +kernel) rfl, GW_p (i := 15) (by decide +kernel) rfl⟩
abbrev mX8_lay : MD := (yX8_lay, cX8_lay, 4, none)
theorem yw_X8_lay : YV mX8_lay 3 := ⟨⟨GW_t (i := 956) (by decide +kernel) rfl, GW_t (i := 9) (by decide +kernel) rfl, ⟨by decide, by decide⟩, by decide +kernel, by decide⟩, GW_t (i := 955) (by decide +kernel) rfl, GW_p (i := 16) (by decide +kernel) rfl⟩
abbrev mX8_takeWhole : MD := (yX8_takeWhole, cX8_takeWhole, 4, (some .boolean))
theorem yw_X8_takeWhole : YV mX8_takeWhole 2 := ⟨⟨GW_t (i := 960) (by decide +kernel) rfl, GW_t (i := 9) (by decide +kernel) rfl, ⟨by decide, by decide⟩, by decide +kernel, by decide⟩, GW_t (i := 959) (by decide +kernel) rfl, GW_p (i := 17) (by decide +kernel) rfl⟩
abbrev mX8_wholeOf : MD := (yX8_wholeOf, cX8_wholeOf, 2, (some .int))
theorem yw_X8_wholeOf : YV mX8_wholeOf 1 := ⟨⟨GW_t (i := 964) (by decide +kernel) rfl, GW_t (i := 9) (by decide +kernel) rfl, ⟨by decide, by decide⟩, by decide +kernel, by decide⟩, GW_t (i := 963) (by decide +kernel) rfl, GW_p (i := 18) (by decide +kernel) rfl⟩
abbrev mX8_lowestFree : MD := (yX8_lowestFree, cX8_lowestFree, 2, (some .int))
theorem yw_X8_lowestFree : YV mX8_lowestFree 0 := ⟨⟨GW_t (i := 968) (by decide +kernel) rfl, GW_t (i := 9) (by decide +kernel) rfl, ⟨by decide, by decide⟩, by decide +kernel, by decide⟩, GW_t (i := 967) (by decide +kernel) rfl, GW_p (i := 19) (by decide +kernel) rfl⟩
abbrev mX8_placeTail : MD := (yX8_placeTail, cX8_placeTail, 4, (some .boolean))
theorem yw_X8_placeTail : YV mX8_placeTail 2 := ⟨⟨GW_t (i := 972) (by decide +kernel) rfl, GW_t (i := 9) (by decide +kernel) rfl, ⟨by decide, by decide⟩, by decide +kernel, by decide⟩, GW_t (i := 971) (by decide +kernel) rfl, GW_p (i := 20) (by decide +kernel) rfl⟩
abbrev mX8_placeFor : MD := (yX8_placeFor, cX8_placeFor, 4, (some .int))
theorem yw_X8_placeFor : YV mX8_placeFor 1 := ⟨⟨GW_t (i := 976) (by decide +kernel) rfl, GW_t (i := 9) (by decide +kernel) rfl, ⟨by decide, by decide⟩, by decide +kernel, by decide⟩, GW_t (i := 975) (by decide +kernel) rfl, GW_p (i := 21) (by decide +kernel) rfl⟩
abbrev mX8_gapFor : MD := (yX8_gapFor, cX8_gapFor, 7, (some .int))
theorem yw_X8_gapFor : YV mX8_gapFor 1 := ⟨⟨GW_t (i := 980) (by decide +kernel) rfl, GW_t (i := 9) (by decide +kernel) rfl, ⟨by decide, by decide⟩, by decide +kernel, by decide⟩, GW_t (i := 979) (by decide +kernel) rfl, GW_p (i := 22) (by decide +kernel) rfl⟩
abbrev mX8_gapAt : MD := (yX8_gapAt, cX8_gapAt, 4, (some .int))
theorem yw_X8_gapAt : YV mX8_gapAt 2 := ⟨⟨GW_t (i := 984) (by decide +kernel) rfl, GW_t (i := 9) (by decide +kernel) rfl, ⟨by decide, by decide⟩, by decide +kernel, by decide⟩, GW_t (i := 983) (by decide +kernel) rfl, GW_p (i := 23) (by decide +kernel) rfl⟩
abbrev mX8_isTaken : MD := (yX8_isTaken, cX8_isTaken, 5, (some .boolean))
theorem yw_X8_isTaken : YV mX8_isTaken 2 := ⟨⟨GW_t (i := 988) (by decide +kernel) rfl, GW_t (i := 9) (by decide +kernel) rfl, ⟨by decide, by decide⟩, by decide +kernel, by decide⟩, GW_t (i := 987) (by decide +kernel) rfl, GW_p (i := 24) (by decide +kernel) rfl⟩
abbrev mX8_hasTailIn : MD := (yX8_hasTailIn, cX8_hasTailIn, 3, (some .boolean))
theorem yw_X8_hasTailIn : YV mX8_hasTailIn 2 := ⟨⟨GW_t (i := 992) (by decide +kernel) rfl, GW_t (i := 9) (by decide +kernel) rfl, ⟨by decide, by decide⟩, by decide +kernel, by decide⟩, GW_t (i := 991) (by decide +kernel) rfl, GW_p (i := 25) (by decide +kernel) rfl⟩
abbrev mX8_isFile : MD := (yX8_isFile, cX8_isFile, 2, (some .boolean))
theorem yw_X8_isFile : YV mX8_isFile 1 := ⟨⟨GW_t (i := 996) (by decide +kernel) rfl, GW_t (i := 9) (by decide +kernel) rfl, ⟨by decide, by decide⟩, by decide +kernel, by decide⟩, GW_t (i := 995) (by decide +kernel) rfl, GW_p (i := 26) (by decide +kernel) rfl⟩
abbrev mX8_tailOf : MD := (yX8_tailOf, cX8_tailOf, 2, (some .int))
theorem yw_X8_tailOf : YV mX8_tailOf 1 := ⟨⟨GW_t (i := 1000) (by decide +kernel) rfl, GW_t (i := 9) (by decide +kernel) rfl, ⟨by decide, by decide⟩, by decide +kernel, by decide⟩, GW_t (i := 999) (by decide +kernel) rfl, GW_p (i := 27) (by decide +kernel) rfl⟩
abbrev mX8_grow : MD := (yX8_grow, cX8_grow, 3, (some .int))
theorem yw_X8_grow : YV mX8_grow 2 := ⟨⟨GW_t (i := 1004) (by decide +kernel) rfl, GW_t (i := 9) (by decide +kernel) rfl, ⟨by decide, by decide⟩, by decide +kernel, by decide⟩, GW_t (i := 1002) (by decide +kernel) rfl, GW_t (i := 1003) (by decide +kernel) rfl⟩
abbrev mX8_grows : MD := (yX8_grows, cX8_grows, 4, (some .int))
theorem yw_X8_grows : YV mX8_grows 2 := ⟨⟨GW_t (i := 1008) (by decide +kernel) rfl, GW_t (i := 9) (by decide +kernel) rfl, ⟨by decide, by decide⟩, by decide +kernel, by decide⟩, GW_t (i := 1007) (by decide +kernel) rfl, GW_p (i := 28) (by decide +kernel) rfl⟩
abbrev mX8_growsInPlace : MD := (yX8_growsInPlace, cX8_growsInPlace, 6, (some .boolean))
theorem yw_X8_growsInPlace : YV mX8_growsInPlace 2 := ⟨⟨GW_t (i := 1012) (by decide +kernel) rfl, GW_t (i := 9) (by decide +kernel) rfl, ⟨by decide, by decide⟩, by decide +kernel, by decide⟩, GW_t (i := 1011) (by decide +kernel) rfl, GW_p (i := 29) (by decide +kernel) rfl⟩
abbrev mX8_takeTail : MD := (yX8_takeTail, cX8_takeTail, 5, none)
theorem yw_X8_takeTail : YV mX8_takeTail 1 := ⟨⟨GW_t (i := 1016) (by decide +kernel) rfl, GW_t (i := 9) (by decide +kernel) rfl, ⟨by decide, by decide⟩, by decide +kernel, by decide⟩, GW_t (i := 1015) (by decide +kernel) rfl, GW_p (i := 30) (by decide +kernel) rfl⟩
abbrev mX8_frees : MD := (yX8_frees, cX8_frees, 2, (some .int))
theorem yw_X8_frees : YV mX8_frees 1 := ⟨⟨GW_t (i := 1020) (by decide +kernel) rfl, GW_t (i := 9) (by decide +kernel) rfl, ⟨by decide, by decide⟩, by decide +kernel, by decide⟩, GW_t (i := 1019) (by decide +kernel) rfl, GW_p (i := 31) (by decide +kernel) rfl⟩
abbrev mX8_tailsIn : MD := (yX8_tailsIn, cX8_tailsIn, 4, (some .int))
theorem yw_X8_tailsIn : YV mX8_tailsIn 1 := ⟨⟨GW_t (i := 1024) (by decide +kernel) rfl, GW_t (i := 9) (by decide +kernel) rfl, ⟨by decide, by decide⟩, by decide +kernel, by decide⟩, GW_t (i := 1023) (by decide +kernel) rfl, GW_p (i := 32) (by decide +kernel) rfl⟩
abbrev mX8_cut : MD := (yX8_cut, cX8_cut, 3, (some .int))
theorem yw_X8_cut : YV mX8_cut 2 := ⟨⟨GW_t (i := 1028) (by decide +kernel) rfl, GW_t (i := 9) (by decide +kernel) rfl, ⟨by decide, by decide⟩, by decide +kernel, by decide⟩, GW_t (i := 1026) (by decide +kernel) rfl, GW_t (i := 1027) (by decide +kernel) rfl⟩
abbrev mX8_cuts : MD := (yX8_cuts, cX8_cuts, 6, (some .int))
theorem yw_X8_cuts : YV mX8_cuts 2 := ⟨⟨GW_t (i := 1032) (by decide +kernel) rfl, GW_t (i := 9) (by decide +kernel) rfl, ⟨by decide, by decide⟩, by decide +kernel, by decide⟩, GW_t (i := 1031) (by decide +kernel) rfl, GW_p (i := 33) (by decide +kernel) rfl⟩
abbrev mX8_delete : MD := (yX8_delete, cX8_delete, 2, (some .int))
theorem yw_X8_delete : YV mX8_delete 1 := ⟨⟨GW_t (i := 1036) (by decide +kernel) rfl, GW_t (i := 9) (by decide +kernel) rfl, ⟨by decide, by decide⟩, by decide +kernel, by decide⟩, GW_t (i := 1034) (by decide +kernel) rfl, GW_t (i := 1035) (by decide +kernel) rfl⟩
abbrev mX8_deletes : MD := (yX8_deletes, cX8_deletes, 5, (some .int))
theorem yw_X8_deletes : YV mX8_deletes 1 := ⟨⟨GW_t (i := 1040) (by decide +kernel) rfl, GW_t (i := 9) (by decide +kernel) rfl, ⟨by decide, by decide⟩, by decide +kernel, by decide⟩, GW_t (i := 1039) (by decide +kernel) rfl, GW_p (i := 34) (by decide +kernel) rfl⟩
abbrev mX8_spoil : MD := (yX8_spoil, cX8_spoil, 4, (some .int))
theorem yw_X8_spoil : YV mX8_spoil 1 := ⟨⟨GW_t (i := 1044) (by decide +kernel) rfl, GW_t (i := 9) (by decide +kernel) rfl, ⟨by decide, by decide⟩, by decide +kernel, by decide⟩, GW_t (i := 1042) (by decide +kernel) rfl, GW_t (i := 1043) (by decide +kernel) rfl⟩
abbrev mX8_hasIn : MD := (yX8_hasIn, cX8_hasIn, 5, (some .boolean))
theorem yw_X8_hasIn : YV mX8_hasIn 2 := ⟨⟨GW_t (i := 1048) (by decide +kernel) rfl, GW_t (i := 9) (by decide +kernel) rfl, ⟨by decide, by decide⟩, by decide +kernel, by decide⟩, GW_t (i := 1047) (by decide +kernel) rfl, GW_p (i := 35) (by decide +kernel) rfl⟩
abbrev mX8_heal : MD := (yX8_heal, cX8_heal, 4, (some .int))
theorem yw_X8_heal : YV mX8_heal 1 := ⟨⟨GW_t (i := 1052) (by decide +kernel) rfl, GW_t (i := 9) (by decide +kernel) rfl, ⟨by decide, by decide⟩, by decide +kernel, by decide⟩, GW_t (i := 1050) (by decide +kernel) rfl, GW_t (i := 1051) (by decide +kernel) rfl⟩
abbrev mX8_blocksThat : MD := (yX8_blocksThat, cX8_blocksThat, 4, (some .int))
theorem yw_X8_blocksThat : YV mX8_blocksThat 1 := ⟨⟨GW_t (i := 1056) (by decide +kernel) rfl, GW_t (i := 9) (by decide +kernel) rfl, ⟨by decide, by decide⟩, by decide +kernel, by decide⟩, GW_t (i := 1055) (by decide +kernel) rfl, GW_p (i := 36) (by decide +kernel) rfl⟩
abbrev mX8_pack : MD := (yX8_pack, cX8_pack, 1, (some .int))
theorem yw_X8_pack : YV mX8_pack 0 := ⟨⟨GW_t (i := 1060) (by decide +kernel) rfl, GW_t (i := 9) (by decide +kernel) rfl, ⟨by decide, by decide⟩, by decide +kernel, by decide⟩, GW_t (i := 1058) (by decide +kernel) rfl, GW_t (i := 1059) (by decide +kernel) rfl⟩
abbrev mX8_packs : MD := (yX8_packs, cX8_packs, 6, (some .int))
theorem yw_X8_packs : YV mX8_packs 0 := ⟨⟨GW_t (i := 1064) (by decide +kernel) rfl, GW_t (i := 9) (by decide +kernel) rfl, ⟨by decide, by decide⟩, by decide +kernel, by decide⟩, GW_t (i := 1063) (by decide +kernel) rfl, GW_p (i := 37) (by decide +kernel) rfl⟩
abbrev mX8_sort : MD := (yX8_sort, cX8_sort, 4, (some .int))
theorem yw_X8_sort : YV mX8_sort 0 := ⟨⟨GW_t (i := 1068) (by decide +kernel) rfl, GW_t (i := 9) (by decide +kernel) rfl, ⟨by decide, by decide⟩, by decide +kernel, by decide⟩, GW_t (i := 1067) (by decide +kernel) rfl, GW_p (i := 38) (by decide +kernel) rfl⟩
abbrev mX8_isPacked : MD := (yX8_isPacked, cX8_isPacked, 2, (some .boolean))
theorem yw_X8_isPacked : YV mX8_isPacked 1 := ⟨⟨GW_t (i := 1072) (by decide +kernel) rfl, GW_t (i := 9) (by decide +kernel) rfl, ⟨by decide, by decide⟩, by decide +kernel, by decide⟩, GW_t (i := 1071) (by decide +kernel) rfl, GW_p (i := 39) (by decide +kernel) rfl⟩
abbrev mX8_holdsBroken : MD := (yX8_holdsBroken, cX8_holdsBroken, 4, (some .boolean))
theorem yw_X8_holdsBroken : YV mX8_holdsBroken 1 := ⟨⟨GW_t (i := 1076) (by decide +kernel) rfl, GW_t (i := 9) (by decide +kernel) rfl, ⟨by decide, by decide⟩, by decide +kernel, by decide⟩, GW_t (i := 1075) (by decide +kernel) rfl, GW_p (i := 40) (by decide +kernel) rfl⟩
abbrev mX8_firstFor : MD := (yX8_firstFor, cX8_firstFor, 3, (some .int))
theorem yw_X8_firstFor : YV mX8_firstFor 1 := ⟨⟨GW_t (i := 1080) (by decide +kernel) rfl, GW_t (i := 9) (by decide +kernel) rfl, ⟨by decide, by decide⟩, by decide +kernel, by decide⟩, GW_t (i := 1079) (by decide +kernel) rfl, GW_p (i := 41) (by decide +kernel) rfl⟩
abbrev mX8_set : MD := (yX8_set, cX8_set, 3, (some .int))
theorem yw_X8_set : YV mX8_set 1 := ⟨⟨GW_t (i := 1084) (by decide +kernel) rfl, GW_t (i := 9) (by decide +kernel) rfl, ⟨by decide, by decide⟩, by decide +kernel, by decide⟩, GW_t (i := 1082) (by decide +kernel) rfl, GW_t (i := 1083) (by decide +kernel) rfl⟩
abbrev mX8_append : MD := (yX8_append, cX8_append, 2, (some .int))
theorem yw_X8_append : YV mX8_append 1 := ⟨⟨GW_t (i := 1088) (by decide +kernel) rfl, GW_t (i := 9) (by decide +kernel) rfl, ⟨by decide, by decide⟩, by decide +kernel, by decide⟩, GW_t (i := 1086) (by decide +kernel) rfl, GW_t (i := 1087) (by decide +kernel) rfl⟩
abbrev mX8_clearBuffer : MD := (yX8_clearBuffer, cX8_clearBuffer, 2, (some .int))
theorem yw_X8_clearBuffer : YV mX8_clearBuffer 0 := ⟨⟨GW_t (i := 1092) (by decide +kernel) rfl, GW_t (i := 9) (by decide +kernel) rfl, ⟨by decide, by decide⟩, by decide +kernel, by decide⟩, GW_t (i := 1090) (by decide +kernel) rfl, GW_t (i := 1091) (by decide +kernel) rfl⟩
abbrev mX8_firstError : MD := (yX8_firstError, cX8_firstError, 1, (some .int))
theorem yw_X8_firstError : YV mX8_firstError 0 := ⟨⟨GW_t (i := 1096) (by decide +kernel) rfl, GW_t (i := 9) (by decide +kernel) rfl, ⟨by decide, by decide⟩, by decide +kernel, by decide⟩, GW_t (i := 1094) (by decide +kernel) rfl, GW_t (i := 1095) (by decide +kernel) rfl⟩
abbrev mX8_isWell : MD := (yX8_isWell, cX8_isWell, 2, (some .boolean))
theorem yw_X8_isWell : YV mX8_isWell 0 := ⟨⟨GW_t (i := 1100) (by decide +kernel) rfl, GW_t (i := 9) (by decide +kernel) rfl, ⟨by decide, by decide⟩, by decide +kernel, by decide⟩, GW_t (i := 1099) (by decide +kernel) rfl, GW_p (i := 42) (by decide +kernel) rfl⟩
abbrev mX8_reading : MD := (yX8_reading, cX8_reading, 2, (some .int))
theorem yw_X8_reading : YV mX8_reading 0 := ⟨⟨GW_t (i := 1104) (by decide +kernel) rfl, GW_t (i := 9) (by decide +kernel) rfl, ⟨by decide, by decide⟩, by decide +kernel, by decide⟩, GW_t (i := 1103) (by decide +kernel) rfl, GW_p (i := 43) (by decide +kernel) rfl⟩
abbrev mX8_reads : MD := (yX8_reads, cX8_reads, 2, (some .boolean))
theorem yw_X8_reads : YV mX8_reads 1 := ⟨⟨GW_t (i := 1108) (by decide +kernel) rfl, GW_t (i := 9) (by decide +kernel) rfl, ⟨by decide, by decide⟩, by decide +kernel, by decide⟩, GW_t (i := 1107) (by decide +kernel) rfl, GW_p (i := 44) (by decide +kernel) rfl⟩
abbrev mX8_number : MD := (yX8_number, cX8_number, 3, (some .boolean))
theorem yw_X8_number : YV mX8_number 2 := ⟨⟨GW_t (i := 1112) (by decide +kernel) rfl, GW_t (i := 9) (by decide +kernel) rfl, ⟨by decide, by decide⟩, by decide +kernel, by decide⟩, GW_t (i := 1111) (by decide +kernel) rfl, GW_p (i := 45) (by decide +kernel) rfl⟩
abbrev mX8_digit : MD := (yX8_digit, cX8_digit, 3, (some .boolean))
theorem yw_X8_digit : YV mX8_digit 2 := ⟨⟨GW_t (i := 1116) (by decide +kernel) rfl, GW_t (i := 9) (by decide +kernel) rfl, ⟨by decide, by decide⟩, by decide +kernel, by decide⟩, GW_t (i := 1115) (by decide +kernel) rfl, GW_p (i := 46) (by decide +kernel) rfl⟩
abbrev mX8_sees : MD := (yX8_sees, cX8_sees, 3, (some .boolean))
theorem yw_X8_sees : YV mX8_sees 2 := ⟨⟨GW_t (i := 1120) (by decide +kernel) rfl, GW_t (i := 9) (by decide +kernel) rfl, ⟨by decide, by decide⟩, by decide +kernel, by decide⟩, GW_t (i := 1119) (by decide +kernel) rfl, GW_p (i := 47) (by decide +kernel) rfl⟩
abbrev mX8_takes : MD := (yX8_takes, cX8_takes, 3, (some .boolean))
theorem yw_X8_takes : YV mX8_takes 1 := ⟨⟨GW_t (i := 1124) (by decide +kernel) rfl, GW_t (i := 9) (by decide +kernel) rfl, ⟨by decide, by decide⟩, by decide +kernel, by decide⟩, GW_t (i := 1123) (by decide +kernel) rfl, GW_p (i := 48) (by decide +kernel) rfl⟩
abbrev mX8_run : MD := (yX8_run, cX8_run, 3, (some .int))
theorem yw_X8_run : YV mX8_run 0 := ⟨⟨GW_t (i := 1128) (by decide +kernel) rfl, GW_t (i := 9) (by decide +kernel) rfl, ⟨by decide, by decide⟩, by decide +kernel, by decide⟩, GW_t (i := 1126) (by decide +kernel) rfl, GW_t (i := 1127) (by decide +kernel) rfl⟩
abbrev mX8_does : MD := (yX8_does, cX8_does, 2, (some .int))
theorem yw_X8_does : YV mX8_does 1 := ⟨⟨GW_t (i := 1132) (by decide +kernel) rfl, GW_t (i := 9) (by decide +kernel) rfl, ⟨by decide, by decide⟩, by decide +kernel, by decide⟩, GW_t (i := 1131) (by decide +kernel) rfl, GW_p (i := 49) (by decide +kernel) rfl⟩
abbrev mX8_fileOf : MD := (yX8_fileOf, cX8_fileOf, 3, (some .int))
theorem yw_X8_fileOf : YV mX8_fileOf 2 := ⟨⟨GW_t (i := 1136) (by decide +kernel) rfl, GW_t (i := 9) (by decide +kernel) rfl, ⟨by decide, by decide⟩, by decide +kernel, by decide⟩, GW_t (i := 1134) (by decide +kernel) rfl, GW_t (i := 1135) (by decide +kernel) rfl⟩
abbrev mX8_property : MD := (yX8_property, cX8_property, 3, (some .int))
theorem yw_X8_property : YV mX8_property 2 := ⟨⟨GW_t (i := 1140) (by decide +kernel) rfl, GW_t (i := 9) (by decide +kernel) rfl, ⟨by decide, by decide⟩, by decide +kernel, by decide⟩, GW_t (i := 1139) (by decide +kernel) rfl, GW_p (i := 50) (by decide +kernel) rfl⟩
abbrev mX8_place : MD := (yX8_place, cX8_place, 3, (some .int))
theorem yw_X8_place : YV mX8_place 2 := ⟨⟨GW_t (i := 1144) (by decide +kernel) rfl, GW_t (i := 9) (by decide +kernel) rfl, ⟨by decide, by decide⟩, by decide +kernel, by decide⟩, GW_t (i := 1142) (by decide +kernel) rfl, GW_t (i := 1143) (by decide +kernel) rfl⟩
abbrev mX8_placeOf : MD := (yX8_placeOf, cX8_placeOf, 6, (some .int))
theorem yw_X8_placeOf : YV mX8_placeOf 2 := ⟨⟨GW_t (i := 1148) (by decide +kernel) rfl, GW_t (i := 9) (by decide +kernel) rfl, ⟨by decide, by decide⟩, by decide +kernel, by decide⟩, GW_t (i := 1147) (by decide +kernel) rfl, GW_p (i := 51) (by decide +kernel) rfl⟩
abbrev mX8_blockOf : MD := (yX8_blockOf, cX8_blockOf, 3, (some .int))
theorem yw_X8_blockOf : YV mX8_blockOf 2 := ⟨⟨GW_t (i := 1152) (by decide +kernel) rfl, GW_t (i := 9) (by decide +kernel) rfl, ⟨by decide, by decide⟩, by decide +kernel, by decide⟩, GW_t (i := 1150) (by decide +kernel) rfl, GW_t (i := 1151) (by decide +kernel) rfl⟩
abbrev mX8_blockIs : MD := (yX8_blockIs, cX8_blockIs, 4, (some .int))
theorem yw_X8_blockIs : YV mX8_blockIs 2 := ⟨⟨GW_t (i := 1156) (by decide +kernel) rfl, GW_t (i := 9) (by decide +kernel) rfl, ⟨by decide, by decide⟩, by decide +kernel, by decide⟩, GW_t (i := 1155) (by decide +kernel) rfl, GW_p (i := 52) (by decide +kernel) rfl⟩
abbrev mX8_tailCells : MD := (yX8_tailCells, cX8_tailCells, 4, (some .int))
theorem yw_X8_tailCells : YV mX8_tailCells 1 := ⟨⟨GW_t (i := 1160) (by decide +kernel) rfl, GW_t (i := 9) (by decide +kernel) rfl, ⟨by decide, by decide⟩, by decide +kernel, by decide⟩, GW_t (i := 1159) (by decide +kernel) rfl, GW_p (i := 53) (by decide +kernel) rfl⟩
abbrev mX8_longestGap : MD := (yX8_longestGap, cX8_longestGap, 4, (some .int))
theorem yw_X8_longestGap : YV mX8_longestGap 1 := ⟨⟨GW_t (i := 1164) (by decide +kernel) rfl, GW_t (i := 9) (by decide +kernel) rfl, ⟨by decide, by decide⟩, by decide +kernel, by decide⟩, GW_t (i := 1163) (by decide +kernel) rfl, GW_p (i := 54) (by decide +kernel) rfl⟩
abbrev mX8_ownerOf : MD := (yX8_ownerOf, cX8_ownerOf, 4, (some .int))
theorem yw_X8_ownerOf : YV mX8_ownerOf 1 := ⟨⟨GW_t (i := 1168) (by decide +kernel) rfl, GW_t (i := 9) (by decide +kernel) rfl, ⟨by decide, by decide⟩, by decide +kernel, by decide⟩, GW_t (i := 1167) (by decide +kernel) rfl, GW_p (i := 55) (by decide +kernel) rfl⟩
abbrev mX8_count : MD := (yX8_count, cX8_count, 2, (some .int))
theorem yw_X8_count : YV mX8_count 1 := ⟨⟨GW_t (i := 1172) (by decide +kernel) rfl, GW_t (i := 9) (by decide +kernel) rfl, ⟨by decide, by decide⟩, by decide +kernel, by decide⟩, GW_t (i := 1170) (by decide +kernel) rfl, GW_t (i := 1171) (by decide +kernel) rfl⟩
abbrev mX8_counted : MD := (yX8_counted, cX8_counted, 2, (some .int))
theorem yw_X8_counted : YV mX8_counted 1 := ⟨⟨GW_t (i := 1176) (by decide +kernel) rfl, GW_t (i := 9) (by decide +kernel) rfl, ⟨by decide, by decide⟩, by decide +kernel, by decide⟩, GW_t (i := 1175) (by decide +kernel) rfl, GW_p (i := 56) (by decide +kernel) rfl⟩
abbrev mX8_goodCells : MD := (yX8_goodCells, cX8_goodCells, 3, (some .int))
theorem yw_X8_goodCells : YV mX8_goodCells 0 := ⟨⟨GW_t (i := 1180) (by decide +kernel) rfl, GW_t (i := 9) (by decide +kernel) rfl, ⟨by decide, by decide⟩, by decide +kernel, by decide⟩, GW_t (i := 1179) (by decide +kernel) rfl, GW_p (i := 57) (by decide +kernel) rfl⟩
abbrev mX8_gapCells : MD := (yX8_gapCells, cX8_gapCells, 3, (some .int))
theorem yw_X8_gapCells : YV mX8_gapCells 0 := ⟨⟨GW_t (i := 1184) (by decide +kernel) rfl, GW_t (i := 9) (by decide +kernel) rfl, ⟨by decide, by decide⟩, by decide +kernel, by decide⟩, GW_t (i := 1183) (by decide +kernel) rfl, GW_p (i := 58) (by decide +kernel) rfl⟩
abbrev mX8_broken : MD := (yX8_broken, cX8_broken, 3, (some .int))
theorem yw_X8_broken : YV mX8_broken 0 := ⟨⟨GW_t (i := 1188) (by decide +kernel) rfl, GW_t (i := 9) (by decide +kernel) rfl, ⟨by decide, by decide⟩, by decide +kernel, by decide⟩, GW_t (i := 1187) (by decide +kernel) rfl, GW_p (i := 59) (by decide +kernel) rfl⟩
abbrev mX8_ifPlaced : MD := (yX8_ifPlaced, cX8_ifPlaced, 2, (some .int))
theorem yw_X8_ifPlaced : YV mX8_ifPlaced 1 := ⟨⟨GW_t (i := 1192) (by decide +kernel) rfl, GW_t (i := 9) (by decide +kernel) rfl, ⟨by decide, by decide⟩, by decide +kernel, by decide⟩, GW_t (i := 1190) (by decide +kernel) rfl, GW_t (i := 1191) (by decide +kernel) rfl⟩
abbrev mX8_ifGrown : MD := (yX8_ifGrown, cX8_ifGrown, 3, (some .int))
theorem yw_X8_ifGrown : YV mX8_ifGrown 2 := ⟨⟨GW_t (i := 1196) (by decide +kernel) rfl, GW_t (i := 9) (by decide +kernel) rfl, ⟨by decide, by decide⟩, by decide +kernel, by decide⟩, GW_t (i := 1194) (by decide +kernel) rfl, GW_t (i := 1195) (by decide +kernel) rfl⟩
abbrev mX8_afterGrowing : MD := (yX8_afterGrowing, cX8_afterGrowing, 4, (some .int))
theorem yw_X8_afterGrowing : YV mX8_afterGrowing 2 := ⟨⟨GW_t (i := 1200) (by decide +kernel) rfl, GW_t (i := 9) (by decide +kernel) rfl, ⟨by decide, by decide⟩, by decide +kernel, by decide⟩, GW_t (i := 1199) (by decide +kernel) rfl, GW_p (i := 60) (by decide +kernel) rfl⟩
abbrev mX8_greatest : MD := (yX8_greatest, cX8_greatest, 1, (some .int))
theorem yw_X8_greatest : YV mX8_greatest 0 := ⟨⟨GW_t (i := 1204) (by decide +kernel) rfl, GW_t (i := 9) (by decide +kernel) rfl, ⟨by decide, by decide⟩, by decide +kernel, by decide⟩, GW_t (i := 1202) (by decide +kernel) rfl, GW_t (i := 1203) (by decide +kernel) rfl⟩
abbrev mX8_greatestSize : MD := (yX8_greatestSize, cX8_greatestSize, 2, (some .int))
theorem yw_X8_greatestSize : YV mX8_greatestSize 0 := ⟨⟨GW_t (i := 1208) (by decide +kernel) rfl, GW_t (i := 9) (by decide +kernel) rfl, ⟨by decide, by decide⟩, by decide +kernel, by decide⟩, GW_t (i := 1207) (by decide +kernel) rfl, GW_p (i := 61) (by decide +kernel) rfl⟩
abbrev mX8_couldCome : MD := (yX8_couldCome, cX8_couldCome, 4, (some .boolean))
theorem yw_X8_couldCome : YV mX8_couldCome 1 := ⟨⟨GW_t (i := 1212) (by decide +kernel) rfl, GW_t (i := 9) (by decide +kernel) rfl, ⟨by decide, by decide⟩, by decide +kernel, by decide⟩, GW_t (i := 1211) (by decide +kernel) rfl, GW_p (i := 62) (by decide +kernel) rfl⟩
abbrev mX8_fewest : MD := (yX8_fewest, cX8_fewest, 2, (some .int))
theorem yw_X8_fewest : YV mX8_fewest 1 := ⟨⟨GW_t (i := 1216) (by decide +kernel) rfl, GW_t (i := 9) (by decide +kernel) rfl, ⟨by decide, by decide⟩, by decide +kernel, by decide⟩, GW_t (i := 1214) (by decide +kernel) rfl, GW_t (i := 1215) (by decide +kernel) rfl⟩
abbrev mX8_fewestBlocks : MD := (yX8_fewestBlocks, cX8_fewestBlocks, 7, (some .int))
theorem yw_X8_fewestBlocks : YV mX8_fewestBlocks 0 := ⟨⟨GW_t (i := 1220) (by decide +kernel) rfl, GW_t (i := 9) (by decide +kernel) rfl, ⟨by decide, by decide⟩, by decide +kernel, by decide⟩, GW_t (i := 1219) (by decide +kernel) rfl, GW_p (i := 63) (by decide +kernel) rfl⟩
abbrev mX8_ifPacked : MD := (yX8_ifPacked, cX8_ifPacked, 1, (some .int))
theorem yw_X8_ifPacked : YV mX8_ifPacked 0 := ⟨⟨GW_t (i := 1224) (by decide +kernel) rfl, GW_t (i := 9) (by decide +kernel) rfl, ⟨by decide, by decide⟩, by decide +kernel, by decide⟩, GW_t (i := 1222) (by decide +kernel) rfl, GW_t (i := 1223) (by decide +kernel) rfl⟩
abbrev mX8_afterPacking : MD := (yX8_afterPacking, cX8_afterPacking, 2, (some .int))
theorem yw_X8_afterPacking : YV mX8_afterPacking 0 := ⟨⟨GW_t (i := 1228) (by decide +kernel) rfl, GW_t (i := 9) (by decide +kernel) rfl, ⟨by decide, by decide⟩, by decide +kernel, by decide⟩, GW_t (i := 1227) (by decide +kernel) rfl, GW_p (i := 64) (by decide +kernel) rfl⟩
abbrev mX8_weakest : MD := (yX8_weakest, cX8_weakest, 1, (some .int))
theorem yw_X8_weakest : YV mX8_weakest 0 := ⟨⟨GW_t (i := 1232) (by decide +kernel) rfl, GW_t (i := 9) (by decide +kernel) rfl, ⟨by decide, by decide⟩, by decide +kernel, by decide⟩, GW_t (i := 1230) (by decide +kernel) rfl, GW_t (i := 1231) (by decide +kernel) rfl⟩
abbrev mX8_weakestBlock : MD := (yX8_weakestBlock, cX8_weakestBlock, 6, (some .int))
theorem yw_X8_weakestBlock : YV mX8_weakestBlock 0 := ⟨⟨GW_t (i := 1236) (by decide +kernel) rfl, GW_t (i := 9) (by decide +kernel) rfl, ⟨by decide, by decide⟩, by decide +kernel, by decide⟩, GW_t (i := 1235) (by decide +kernel) rfl, GW_p (i := 65) (by decide +kernel) rfl⟩
abbrev mX8_usedShare : MD := (yX8_usedShare, cX8_usedShare, 1, (some .double))
theorem yw_X8_usedShare : YV mX8_usedShare 0 := ⟨⟨GW_t (i := 1240) (by decide +kernel) rfl, GW_t (i := 9) (by decide +kernel) rfl, ⟨by decide, by decide⟩, by decide +kernel, by decide⟩, GW_t (i := 1238) (by decide +kernel) rfl, GW_t (i := 1239) (by decide +kernel) rfl⟩
abbrev mX8_used : MD := (yX8_used, cX8_used, 2, (some .double))
theorem yw_X8_used : YV mX8_used 0 := ⟨⟨GW_t (i := 1244) (by decide +kernel) rfl, GW_t (i := 9) (by decide +kernel) rfl, ⟨by decide, by decide⟩, by decide +kernel, by decide⟩, GW_t (i := 1243) (by decide +kernel) rfl, GW_p (i := 66) (by decide +kernel) rfl⟩
abbrev mX8_digest : MD := (yX8_digest, cX8_digest, 5, (some .long))
theorem yw_X8_digest : YV mX8_digest 0 := ⟨⟨GW_t (i := 1248) (by decide +kernel) rfl, GW_t (i := 9) (by decide +kernel) rfl, ⟨by decide, by decide⟩, by decide +kernel, by decide⟩, GW_t (i := 1246) (by decide +kernel) rfl, GW_t (i := 1247) (by decide +kernel) rfl⟩
abbrev mX8_ofFiles : MD := (yX8_ofFiles, cX8_ofFiles, 7, (some .long))
theorem yw_X8_ofFiles : YV mX8_ofFiles 1 := ⟨⟨GW_t (i := 1254) (by decide +kernel) rfl, GW_t (i := 9) (by decide +kernel) rfl, ⟨by decide, by decide⟩, by decide +kernel, by decide⟩, GW_t (i := 1253) (by decide +kernel) rfl, GW_p (i := 67) (by decide +kernel) rfl⟩
abbrev mJxe99ae_doubleToLongBits_ccdee : MD := (yJxe99ae_doubleToLongBits_ccdee, cJxe99ae_doubleToLongBits_ccdee, 2, (some .long))
theorem yw_Jxe99ae_doubleToLongBits_ccdee : YS mJxe99ae_doubleToLongBits_ccdee 1 := ⟨⟨GW_t (i := 1257) (by decide +kernel) rfl, GW_t (i := 18) (by decide +kernel) rfl, ⟨by decide, by decide⟩, by decide +kernel, by decide⟩, GW_t (i := 1256) (by decide +kernel) rfl⟩
abbrev mJxe99ae_isNaN_b9ae7 : MD := (yJxe99ae_isNaN_b9ae7, cJxe99ae_isNaN_b9ae7, 2, (some .boolean))
theorem yw_Jxe99ae_isNaN_b9ae7 : YS mJxe99ae_isNaN_b9ae7 1 := ⟨⟨GW_t (i := 1260) (by decide +kernel) rfl, GW_t (i := 18) (by decide +kernel) rfl, ⟨by decide, by decide⟩, by decide +kernel, by decide⟩, GW_t (i := 1259) (by decide +kernel) rfl⟩
theorem lk_L_75 : LK RL 75 yX7_init := Or.inl (GW_t (i := 21) (by decide +kernel) rfl)
theorem lk_X7_11 : LK RX7 11 yX0_init := Or.inl (GW_t (i := 29) (by decide +kernel) rfl)
theorem lk_X7_18 : LK RX7 18 yX2_init := Or.inl (GW_t (i := 74) (by decide +kernel) rfl)
theorem lk_X2_21 : LK RX2 21 yX0_init := Or.inl (GW_t (i := 80) (by decide +kernel) rfl)
theorem lk_X7_29 : LK RX7 29 yX6_init := Or.inr ⟨"TailBlocks", OW_t (i := 90) (by decide +kernel) rfl⟩
theorem lk_X7_36 : LK RX7 36 yX3_init := Or.inr ⟨"TailBlocks", OW_t (i := 103) (by decide +kernel) rfl⟩
theorem lk_X7_43 : LK RX7 43 yX4_init := Or.inr ⟨"TailBlocks", OW_t (i := 125) (by decide +kernel) rfl⟩
theorem lk_X4_11 : LK RX4 11 yX5_init := Or.inr ⟨"TailBlocks", OW_t (i := 131) (by decide +kernel) rfl⟩
theorem lk_X7_50 : LK RX7 50 yX1_init := Or.inr ⟨"TailBlocks", OW_t (i := 165) (by decide +kernel) rfl⟩
theorem lk_X1_11 : LK RX1 11 yX5_init := Or.inr ⟨"TailBlocks", OW_t (i := 170) (by decide +kernel) rfl⟩
theorem lk_L_104 : LK RL 104 yX7_pack := Or.inl (GW_t (i := 206) (by decide +kernel) rfl)
theorem lk_X7_59 : LK RX7 59 yX2_store := Or.inl (GW_t (i := 210) (by decide +kernel) rfl)
theorem lk_X2_22 : LK RX2 22 yX2_dropOldest := Or.inl (GW_t (i := 214) (by decide +kernel) rfl)
theorem lk_X2_25 : LK RX2 25 yX0_copyFrom := Or.inl (GW_t (i := 218) (by decide +kernel) rfl)
theorem lk_X7_111 : LK RX7 111 yX4_plan := Or.inl (GW_t (i := 222) (by decide +kernel) rfl)
theorem lk_X4_28 : LK RX4 28 yX5_collect := Or.inl (GW_t (i := 226) (by decide +kernel) rfl)
theorem lk_X5_22 : LK RX5 22 yX0_isBroken := Or.inl (GW_t (i := 230) (by decide +kernel) rfl)
theorem lk_X0_46 : LK RX0 46 yX0_exists := Or.inl (GW_t (i := 234) (by decide +kernel) rfl)
theorem lk_X5_28 : LK RX5 28 yX0_tailCells := Or.inl (GW_t (i := 238) (by decide +kernel) rfl)
theorem lk_X0_50 : LK RX0 50 yX0_sizeOf := Or.inl (GW_t (i := 242) (by decide +kernel) rfl)
theorem lk_X5_32 : LK RX5 32 yX5_insert := Or.inl (GW_t (i := 246) (by decide +kernel) rfl)
theorem lk_X4_32 : LK RX4 32 yX0_takesPacking := Or.inl (GW_t (i := 250) (by decide +kernel) rfl)
theorem lk_X0_70 : LK RX0 70 yX0_kindOf := Or.inl (GW_t (i := 254) (by decide +kernel) rfl)
theorem lk_X0_54 : LK RX0 54 yX7_isBlock := Or.inr ⟨"TailBlocks", OW_t (i := 258) (by decide +kernel) rfl⟩
theorem lk_X4_45 : LK RX4 45 yX4_firstWithRoom := Or.inl (GW_t (i := 261) (by decide +kernel) rfl)
theorem lk_X4_49 : LK RX4 49 yX7_isBlock := Or.inr ⟨"TailBlocks", OW_t (i := 265) (by decide +kernel) rfl⟩
theorem lk_X4_52 : LK RX4 52 yX4_emptyBlocks := Or.inl (GW_t (i := 266) (by decide +kernel) rfl)
theorem lk_X7_115 : LK RX7 115 yX4_carryOut := Or.inl (GW_t (i := 270) (by decide +kernel) rfl)
theorem lk_X4_59 : LK RX4 59 yX0_putTail := Or.inl (GW_t (i := 274) (by decide +kernel) rfl)
theorem lk_X4_63 : LK RX4 63 yX0_freeIfEmpty := Or.inl (GW_t (i := 278) (by decide +kernel) rfl)
theorem lk_X0_63 : LK RX0 63 yX0_takenCells := Or.inl (GW_t (i := 282) (by decide +kernel) rfl)
theorem lk_L_114 : LK RL 114 yX7_clearBuffer := Or.inl (GW_t (i := 286) (by decide +kernel) rfl)
theorem lk_X7_131 : LK RX7 131 yX6_length := Or.inl (GW_t (i := 290) (by decide +kernel) rfl)
theorem lk_X7_135 : LK RX7 135 yX6_empty := Or.inl (GW_t (i := 294) (by decide +kernel) rfl)
theorem lk_L_118 : LK RL 118 yX7_firstError := Or.inl (GW_t (i := 298) (by decide +kernel) rfl)
theorem lk_X7_138 : LK RX7 138 yX3_readable := Or.inl (GW_t (i := 302) (by decide +kernel) rfl)
theorem lk_X3_24 : LK RX3 24 yX3_begin := Or.inl (GW_t (i := 306) (by decide +kernel) rfl)
theorem lk_X3_27 : LK RX3 27 yX6_length := Or.inl (GW_t (i := 310) (by decide +kernel) rfl)
theorem lk_X3_33 : LK RX3 33 yX6_codeAt := Or.inl (GW_t (i := 311) (by decide +kernel) rfl)
theorem lk_X3_37 : LK RX3 37 yX3_take := Or.inl (GW_t (i := 315) (by decide +kernel) rfl)
theorem lk_X3_41 : LK RX3 41 yX3_takeSign := Or.inl (GW_t (i := 319) (by decide +kernel) rfl)
theorem lk_X3_44 : LK RX3 44 yX3_takeFile := Or.inl (GW_t (i := 323) (by decide +kernel) rfl)
theorem lk_X3_59 : LK RX3 59 yX3_isDigit := Or.inl (GW_t (i := 327) (by decide +kernel) rfl)
theorem lk_X3_47 : LK RX3 47 yX3_takeColon := Or.inl (GW_t (i := 330) (by decide +kernel) rfl)
theorem lk_X3_50 : LK RX3 50 yX3_takeFirstDigit := Or.inl (GW_t (i := 334) (by decide +kernel) rfl)
theorem lk_X3_53 : LK RX3 53 yX3_takeSemicolon := Or.inl (GW_t (i := 338) (by decide +kernel) rfl)
theorem lk_X3_56 : LK RX3 56 yX3_takeDigit := Or.inl (GW_t (i := 342) (by decide +kernel) rfl)
theorem lk_L_153 : LK RL 153 yX7_greatest := Or.inl (GW_t (i := 346) (by decide +kernel) rfl)
theorem lk_X7_204 : LK RX7 204 yX0_hasRoomFor := Or.inl (GW_t (i := 350) (by decide +kernel) rfl)
theorem lk_X0_98 : LK RX0 98 yX0_lowestNumber := Or.inl (GW_t (i := 354) (by decide +kernel) rfl)
theorem lk_X0_101 : LK RX0 101 yX0_isEnough := Or.inl (GW_t (i := 358) (by decide +kernel) rfl)
theorem lk_X0_67 : LK RX0 67 yX0_longestGap := Or.inl (GW_t (i := 362) (by decide +kernel) rfl)
theorem lk_X0_82 : LK RX0 82 yX0_isTaken := Or.inl (GW_t (i := 365) (by decide +kernel) rfl)
theorem lk_X0_85 : LK RX0 85 yJ9_max_7cf53 := Or.inl (GW_t (i := 368) (by decide +kernel) rfl)
theorem lk_L_160 : LK RL 160 yX7_ifPacked := Or.inl (GW_t (i := 371) (by decide +kernel) rfl)
theorem lk_L_164 : LK RL 164 yX7_weakest := Or.inl (GW_t (i := 375) (by decide +kernel) rfl)
theorem lk_X7_84 : LK RX7 84 yX0_kindOf := Or.inl (GW_t (i := 379) (by decide +kernel) rfl)
theorem lk_X7_213 : LK RX7 213 yX0_soundFilesIn := Or.inl (GW_t (i := 380) (by decide +kernel) rfl)
theorem lk_X0_78 : LK RX0 78 yX0_hasSomething := Or.inl (GW_t (i := 384) (by decide +kernel) rfl)
theorem lk_L_168 : LK RL 168 yX7_usedShare := Or.inl (GW_t (i := 388) (by decide +kernel) rfl)
theorem lk_X7_108 : LK RX7 108 yX0_blocksOf := Or.inl (GW_t (i := 392) (by decide +kernel) rfl)
theorem lk_X7_216 : LK RX7 216 yX7_count := Or.inl (GW_t (i := 396) (by decide +kernel) rfl)
theorem lk_X7_55 : LK RX7 55 yX7_checkArgument := Or.inl (GW_t (i := 400) (by decide +kernel) rfl)
theorem lk_X7_156 : LK RX7 156 yX0_files := Or.inl (GW_t (i := 471) (by decide +kernel) rfl)
theorem lk_X7_186 : LK RX7 186 yX0_sharedTailCells := Or.inl (GW_t (i := 475) (by decide +kernel) rfl)
theorem lk_X0_57 : LK RX0 57 yX0_tailCellsIn := Or.inl (GW_t (i := 479) (by decide +kernel) rfl)
theorem lk_X0_73 : LK RX0 73 yJ6_bitCount_0f7a4 := Or.inl (GW_t (i := 483) (by decide +kernel) rfl)
theorem lk_X7_189 : LK RX7 189 yX0_brokenFiles := Or.inl (GW_t (i := 489) (by decide +kernel) rfl)
theorem lk_X7_161 : LK RX7 161 yX2_held := Or.inl (GW_t (i := 493) (by decide +kernel) rfl)
theorem lk_L_173 : LK RL 173 yX7_digest := Or.inl (GW_t (i := 497) (by decide +kernel) rfl)
theorem lk_X7_221 : LK RX7 221 yX7_mix := Or.inl (GW_t (i := 502) (by decide +kernel) rfl)
theorem lk_X7_225 : LK RX7 225 yX0_exists := Or.inl (GW_t (i := 506) (by decide +kernel) rfl)
theorem lk_X7_228 : LK RX7 228 yX7_mixFile := Or.inl (GW_t (i := 507) (by decide +kernel) rfl)
theorem lk_X7_169 : LK RX7 169 yX0_fileProperty := Or.inl (GW_t (i := 511) (by decide +kernel) rfl)
theorem lk_X7_172 : LK RX7 172 yX0_sizeOf := Or.inl (GW_t (i := 515) (by decide +kernel) rfl)
theorem lk_X7_180 : LK RX7 180 yX0_whereIs := Or.inl (GW_t (i := 516) (by decide +kernel) rfl)
theorem lk_X7_201 : LK RX7 201 yX0_growthOf := Or.inl (GW_t (i := 520) (by decide +kernel) rfl)
theorem lk_X0_105 : LK RX0 105 yX0_cellsBehindTail := Or.inl (GW_t (i := 524) (by decide +kernel) rfl)
theorem lk_X0_91 : LK RX0 91 yX0_gapFrom := Or.inl (GW_t (i := 528) (by decide +kernel) rfl)
theorem lk_X7_183 : LK RX7 183 yX0_blockProperty := Or.inl (GW_t (i := 531) (by decide +kernel) rfl)
theorem lk_X0_60 : LK RX0 60 yX0_tailsIn := Or.inl (GW_t (i := 535) (by decide +kernel) rfl)
theorem lk_X7_232 : LK RX7 232 yX7_mixOutlook := Or.inl (GW_t (i := 539) (by decide +kernel) rfl)
theorem lk_X7_198 : LK RX7 198 yX0_placeFor := Or.inl (GW_t (i := 543) (by decide +kernel) rfl)
theorem lk_X0_94 : LK RX0 94 yX0_lowestFree := Or.inl (GW_t (i := 548) (by decide +kernel) rfl)
theorem lk_X7_239 : LK RX7 239 yX7_greatest := Or.inl (GW_t (i := 552) (by decide +kernel) rfl)
theorem lk_X7_242 : LK RX7 242 yX7_fewest := Or.inl (GW_t (i := 553) (by decide +kernel) rfl)
theorem lk_X7_207 : LK RX7 207 yX1_bySets := Or.inl (GW_t (i := 557) (by decide +kernel) rfl)
theorem lk_X1_28 : LK RX1 28 yX5_collect := Or.inl (GW_t (i := 561) (by decide +kernel) rfl)
theorem lk_X1_36 : LK RX1 36 yX1_solveSet := Or.inl (GW_t (i := 562) (by decide +kernel) rfl)
theorem lk_X7_210 : LK RX7 210 yX1_byTrying := Or.inl (GW_t (i := 566) (by decide +kernel) rfl)
theorem lk_X1_43 : LK RX1 43 yX5_cells := Or.inl (GW_t (i := 570) (by decide +kernel) rfl)
theorem lk_X1_47 : LK RX1 47 yX1_tryTail := Or.inl (GW_t (i := 574) (by decide +kernel) rfl)
theorem lk_X7_245 : LK RX7 245 yX7_ifPacked := Or.inl (GW_t (i := 577) (by decide +kernel) rfl)
theorem lk_X7_248 : LK RX7 248 yX7_weakest := Or.inl (GW_t (i := 578) (by decide +kernel) rfl)
theorem lk_X7_251 : LK RX7 251 yX7_usedShare := Or.inl (GW_t (i := 579) (by decide +kernel) rfl)
theorem lk_X7_255 : LK RX7 255 yX7_bitsOf := Or.inl (GW_t (i := 580) (by decide +kernel) rfl)
theorem lk_X7_236 : LK RX7 236 yX7_mixText := Or.inl (GW_t (i := 585) (by decide +kernel) rfl)
theorem lk_X7_259 : LK RX7 259 yX6_codeAt := Or.inl (GW_t (i := 589) (by decide +kernel) rfl)
theorem lk_L_79 : LK RL 79 yL_create := Or.inl (GW_t (i := 590) (by decide +kernel) rfl)
theorem lk_L_7 : LK RL 7 yX7_create := Or.inl (GW_t (i := 594) (by decide +kernel) rfl)
theorem lk_X7_63 : LK RX7 63 yX0_addFile := Or.inl (GW_t (i := 598) (by decide +kernel) rfl)
theorem lk_X0_108 : LK RX0 108 yX0_hasRoomFor := Or.inl (GW_t (i := 602) (by decide +kernel) rfl)
theorem lk_X0_111 : LK RX0 111 yX0_rebuild := Or.inl (GW_t (i := 603) (by decide +kernel) rfl)
theorem lk_X0_118 : LK RX0 118 yX0_dropTail := Or.inl (GW_t (i := 607) (by decide +kernel) rfl)
theorem lk_X0_134 : LK RX0 134 yX0_freeIfEmpty := Or.inl (GW_t (i := 611) (by decide +kernel) rfl)
theorem lk_X0_124 : LK RX0 124 yX0_takeWhole := Or.inl (GW_t (i := 612) (by decide +kernel) rfl)
theorem lk_X0_121 : LK RX0 121 yX0_dropWholes := Or.inl (GW_t (i := 616) (by decide +kernel) rfl)
theorem lk_X0_127 : LK RX0 127 yX0_placeFor := Or.inl (GW_t (i := 620) (by decide +kernel) rfl)
theorem lk_X0_130 : LK RX0 130 yX0_putTail := Or.inl (GW_t (i := 621) (by decide +kernel) rfl)
theorem lk_L_88 : LK RL 88 yL_grow := Or.inl (GW_t (i := 622) (by decide +kernel) rfl)
theorem lk_L_15 : LK RL 15 yX7_grow := Or.inl (GW_t (i := 626) (by decide +kernel) rfl)
theorem lk_X7_67 : LK RX7 67 yX7_checkFile := Or.inl (GW_t (i := 630) (by decide +kernel) rfl)
theorem lk_X7_71 : LK RX7 71 yX0_extend := Or.inl (GW_t (i := 650) (by decide +kernel) rfl)
theorem lk_X0_115 : LK RX0 115 yX0_growthOf := Or.inl (GW_t (i := 654) (by decide +kernel) rfl)
theorem lk_L_92 : LK RL 92 yL_cut := Or.inl (GW_t (i := 655) (by decide +kernel) rfl)
theorem lk_L_21 : LK RL 21 yX7_cut := Or.inl (GW_t (i := 658) (by decide +kernel) rfl)
theorem lk_X7_75 : LK RX7 75 yX0_shorten := Or.inl (GW_t (i := 662) (by decide +kernel) rfl)
theorem lk_L_95 : LK RL 95 yL_delete := Or.inl (GW_t (i := 666) (by decide +kernel) rfl)
theorem lk_L_24 : LK RL 24 yX7_delete := Or.inl (GW_t (i := 669) (by decide +kernel) rfl)
theorem lk_X7_78 : LK RX7 78 yX0_removeFile := Or.inl (GW_t (i := 673) (by decide +kernel) rfl)
theorem lk_L_98 : LK RL 98 yL_spoil := Or.inl (GW_t (i := 677) (by decide +kernel) rfl)
theorem lk_L_27 : LK RL 27 yX7_spoil := Or.inl (GW_t (i := 681) (by decide +kernel) rfl)
theorem lk_X7_81 : LK RX7 81 yX7_checkBlock := Or.inl (GW_t (i := 685) (by decide +kernel) rfl)
theorem lk_X7_288 : LK RX7 288 yX7_isBlock := Or.inl (GW_t (i := 688) (by decide +kernel) rfl)
theorem lk_X7_94 : LK RX7 94 yX0_turnBad := Or.inl (GW_t (i := 706) (by decide +kernel) rfl)
theorem lk_L_101 : LK RL 101 yL_heal := Or.inl (GW_t (i := 710) (by decide +kernel) rfl)
theorem lk_L_32 : LK RL 32 yX7_heal := Or.inl (GW_t (i := 713) (by decide +kernel) rfl)
theorem lk_X7_99 : LK RX7 99 yX0_isHeld := Or.inl (GW_t (i := 718) (by decide +kernel) rfl)
theorem lk_X7_105 : LK RX7 105 yX0_turnFree := Or.inl (GW_t (i := 723) (by decide +kernel) rfl)
theorem lk_L_108 : LK RL 108 yL_set := Or.inl (GW_t (i := 727) (by decide +kernel) rfl)
theorem lk_L_35 : LK RL 35 yX7_set := Or.inl (GW_t (i := 730) (by decide +kernel) rfl)
theorem lk_L_111 : LK RL 111 yL_append := Or.inl (GW_t (i := 734) (by decide +kernel) rfl)
theorem lk_L_38 : LK RL 38 yX7_append := Or.inl (GW_t (i := 737) (by decide +kernel) rfl)
theorem lk_X7_122 : LK RX7 122 yX6_isFull := Or.inl (GW_t (i := 741) (by decide +kernel) rfl)
theorem lk_X7_128 : LK RX7 128 yX6_add := Or.inl (GW_t (i := 746) (by decide +kernel) rfl)
theorem lk_L_122 : LK RL 122 yL_run := Or.inl (GW_t (i := 750) (by decide +kernel) rfl)
theorem lk_L_41 : LK RL 41 yX7_run := Or.inl (GW_t (i := 753) (by decide +kernel) rfl)
theorem lk_X7_142 : LK RX7 142 yX3_canEndHere := Or.inl (GW_t (i := 757) (by decide +kernel) rfl)
theorem lk_X7_150 : LK RX7 150 yX7_obeyAll := Or.inl (GW_t (i := 762) (by decide +kernel) rfl)
theorem lk_X7_268 : LK RX7 268 yX3_begin := Or.inl (GW_t (i := 766) (by decide +kernel) rfl)
theorem lk_X7_271 : LK RX7 271 yX7_obey := Or.inl (GW_t (i := 767) (by decide +kernel) rfl)
theorem lk_X7_274 : LK RX7 274 yX3_take := Or.inl (GW_t (i := 771) (by decide +kernel) rfl)
theorem lk_L_126 : LK RL 126 yL_keep := Or.inl (GW_t (i := 772) (by decide +kernel) rfl)
theorem lk_L_45 : LK RL 45 yX7_keep := Or.inl (GW_t (i := 775) (by decide +kernel) rfl)
theorem lk_X7_153 : LK RX7 153 yX0_copyFrom := Or.inl (GW_t (i := 779) (by decide +kernel) rfl)
theorem lk_L_129 : LK RL 129 yL_goBack := Or.inl (GW_t (i := 780) (by decide +kernel) rfl)
theorem lk_L_48 : LK RL 48 yX7_goBack := Or.inl (GW_t (i := 783) (by decide +kernel) rfl)
theorem lk_L_132 : LK RL 132 yL_undo := Or.inl (GW_t (i := 788) (by decide +kernel) rfl)
theorem lk_L_51 : LK RL 51 yX7_undo := Or.inl (GW_t (i := 791) (by decide +kernel) rfl)
theorem lk_X7_166 : LK RX7 166 yX2_restore := Or.inl (GW_t (i := 796) (by decide +kernel) rfl)
theorem lk_L_135 : LK RL 135 yL_fileOf := Or.inl (GW_t (i := 800) (by decide +kernel) rfl)
theorem lk_L_54 : LK RL 54 yX7_fileOf := Or.inl (GW_t (i := 803) (by decide +kernel) rfl)
theorem lk_L_138 : LK RL 138 yL_place := Or.inl (GW_t (i := 807) (by decide +kernel) rfl)
theorem lk_L_57 : LK RL 57 yX7_place := Or.inl (GW_t (i := 810) (by decide +kernel) rfl)
theorem lk_L_141 : LK RL 141 yL_blockOf := Or.inl (GW_t (i := 815) (by decide +kernel) rfl)
theorem lk_L_60 : LK RL 60 yX7_blockOf := Or.inl (GW_t (i := 818) (by decide +kernel) rfl)
theorem lk_L_144 : LK RL 144 yL_count := Or.inl (GW_t (i := 822) (by decide +kernel) rfl)
theorem lk_L_63 : LK RL 63 yX7_count := Or.inl (GW_t (i := 825) (by decide +kernel) rfl)
theorem lk_L_147 : LK RL 147 yL_ifPlaced := Or.inl (GW_t (i := 826) (by decide +kernel) rfl)
theorem lk_L_66 : LK RL 66 yX7_ifPlaced := Or.inl (GW_t (i := 829) (by decide +kernel) rfl)
theorem lk_L_150 : LK RL 150 yL_ifGrown := Or.inl (GW_t (i := 833) (by decide +kernel) rfl)
theorem lk_L_69 : LK RL 69 yX7_ifGrown := Or.inl (GW_t (i := 836) (by decide +kernel) rfl)
theorem lk_L_157 : LK RL 157 yL_fewest := Or.inl (GW_t (i := 840) (by decide +kernel) rfl)
theorem lk_L_72 : LK RL 72 yX7_fewest := Or.inl (GW_t (i := 843) (by decide +kernel) rfl)
theorem lk_L_78 : LK RL 78 yX8_init := Or.inl (GW_t (i := 846) (by decide +kernel) rfl)
theorem lk_L_85 : LK RL 85 yX8_thrown := Or.inl (GW_t (i := 894) (by decide +kernel) rfl)
theorem lk_L_134 : LK RL 134 yX8_undo := Or.inl (GW_t (i := 898) (by decide +kernel) rfl)
theorem lk_X8_81 : LK RX8 81 yX8_fails := Or.inl (GW_t (i := 902) (by decide +kernel) rfl)
theorem lk_L_128 : LK RL 128 yX8_keep := Or.inl (GW_t (i := 906) (by decide +kernel) rfl)
theorem lk_X8_45 : LK RX8 45 yX8_in := Or.inl (GW_t (i := 910) (by decide +kernel) rfl)
theorem lk_X8_84 : LK RX8 84 yX8_files := Or.inl (GW_t (i := 913) (by decide +kernel) rfl)
theorem lk_X8_49 : LK RX8 49 yX8_of := Or.inl (GW_t (i := 917) (by decide +kernel) rfl)
theorem lk_L_131 : LK RL 131 yX8_goBack := Or.inl (GW_t (i := 921) (by decide +kernel) rfl)
theorem lk_X8_87 : LK RX8 87 yX8_save := Or.inl (GW_t (i := 925) (by decide +kernel) rfl)
theorem lk_L_84 : LK RL 84 yX8_create := Or.inl (GW_t (i := 929) (by decide +kernel) rfl)
theorem lk_X8_131 : LK RX8 131 yX8_creates := Or.inl (GW_t (i := 933) (by decide +kernel) rfl)
theorem lk_X8_109 : LK RX8 109 yX8_freeNumber := Or.inl (GW_t (i := 937) (by decide +kernel) rfl)
theorem lk_X8_112 : LK RX8 112 yX8_layAside := Or.inl (GW_t (i := 941) (by decide +kernel) rfl)
theorem lk_X8_115 : LK RX8 115 yX8_refused := Or.inl (GW_t (i := 945) (by decide +kernel) rfl)
theorem lk_X8_106 : LK RX8 106 yX8_putBack := Or.inl (GW_t (i := 949) (by decide +kernel) rfl)
theorem lk_X8_96 : LK RX8 96 yX8_lay := Or.inl (GW_t (i := 953) (by decide +kernel) rfl)
theorem lk_X8_118 : LK RX8 118 yX8_takeWhole := Or.inl (GW_t (i := 957) (by decide +kernel) rfl)
theorem lk_X8_93 : LK RX8 93 yX8_wholeOf := Or.inl (GW_t (i := 961) (by decide +kernel) rfl)
theorem lk_X8_74 : LK RX8 74 yX8_lowestFree := Or.inl (GW_t (i := 965) (by decide +kernel) rfl)
theorem lk_X8_121 : LK RX8 121 yX8_placeTail := Or.inl (GW_t (i := 969) (by decide +kernel) rfl)
theorem lk_X8_103 : LK RX8 103 yX8_placeFor := Or.inl (GW_t (i := 973) (by decide +kernel) rfl)
theorem lk_X8_71 : LK RX8 71 yX8_gapFor := Or.inl (GW_t (i := 977) (by decide +kernel) rfl)
theorem lk_X8_68 : LK RX8 68 yX8_gapAt := Or.inl (GW_t (i := 981) (by decide +kernel) rfl)
theorem lk_X8_65 : LK RX8 65 yX8_isTaken := Or.inl (GW_t (i := 985) (by decide +kernel) rfl)
theorem lk_X8_61 : LK RX8 61 yX8_hasTailIn := Or.inl (GW_t (i := 989) (by decide +kernel) rfl)
theorem lk_X8_53 : LK RX8 53 yX8_isFile := Or.inl (GW_t (i := 993) (by decide +kernel) rfl)
theorem lk_X8_57 : LK RX8 57 yX8_tailOf := Or.inl (GW_t (i := 997) (by decide +kernel) rfl)
theorem lk_L_91 : LK RL 91 yX8_grow := Or.inl (GW_t (i := 1001) (by decide +kernel) rfl)
theorem lk_X8_134 : LK RX8 134 yX8_grows := Or.inl (GW_t (i := 1005) (by decide +kernel) rfl)
theorem lk_X8_124 : LK RX8 124 yX8_growsInPlace := Or.inl (GW_t (i := 1009) (by decide +kernel) rfl)
theorem lk_X8_127 : LK RX8 127 yX8_takeTail := Or.inl (GW_t (i := 1013) (by decide +kernel) rfl)
theorem lk_X8_100 : LK RX8 100 yX8_frees := Or.inl (GW_t (i := 1017) (by decide +kernel) rfl)
theorem lk_X8_90 : LK RX8 90 yX8_tailsIn := Or.inl (GW_t (i := 1021) (by decide +kernel) rfl)
theorem lk_L_94 : LK RL 94 yX8_cut := Or.inl (GW_t (i := 1025) (by decide +kernel) rfl)
theorem lk_X8_137 : LK RX8 137 yX8_cuts := Or.inl (GW_t (i := 1029) (by decide +kernel) rfl)
theorem lk_L_97 : LK RL 97 yX8_delete := Or.inl (GW_t (i := 1033) (by decide +kernel) rfl)
theorem lk_X8_140 : LK RX8 140 yX8_deletes := Or.inl (GW_t (i := 1037) (by decide +kernel) rfl)
theorem lk_L_100 : LK RL 100 yX8_spoil := Or.inl (GW_t (i := 1041) (by decide +kernel) rfl)
theorem lk_X8_143 : LK RX8 143 yX8_hasIn := Or.inl (GW_t (i := 1045) (by decide +kernel) rfl)
theorem lk_L_103 : LK RL 103 yX8_heal := Or.inl (GW_t (i := 1049) (by decide +kernel) rfl)
theorem lk_X8_146 : LK RX8 146 yX8_blocksThat := Or.inl (GW_t (i := 1053) (by decide +kernel) rfl)
theorem lk_L_107 : LK RL 107 yX8_pack := Or.inl (GW_t (i := 1057) (by decide +kernel) rfl)
theorem lk_X8_161 : LK RX8 161 yX8_packs := Or.inl (GW_t (i := 1061) (by decide +kernel) rfl)
theorem lk_X8_152 : LK RX8 152 yX8_sort := Or.inl (GW_t (i := 1065) (by decide +kernel) rfl)
theorem lk_X8_149 : LK RX8 149 yX8_isPacked := Or.inl (GW_t (i := 1069) (by decide +kernel) rfl)
theorem lk_X8_155 : LK RX8 155 yX8_holdsBroken := Or.inl (GW_t (i := 1073) (by decide +kernel) rfl)
theorem lk_X8_158 : LK RX8 158 yX8_firstFor := Or.inl (GW_t (i := 1077) (by decide +kernel) rfl)
theorem lk_L_110 : LK RL 110 yX8_set := Or.inl (GW_t (i := 1081) (by decide +kernel) rfl)
theorem lk_L_113 : LK RL 113 yX8_append := Or.inl (GW_t (i := 1085) (by decide +kernel) rfl)
theorem lk_L_117 : LK RL 117 yX8_clearBuffer := Or.inl (GW_t (i := 1089) (by decide +kernel) rfl)
theorem lk_L_121 : LK RL 121 yX8_firstError := Or.inl (GW_t (i := 1093) (by decide +kernel) rfl)
theorem lk_X8_188 : LK RX8 188 yX8_isWell := Or.inl (GW_t (i := 1097) (by decide +kernel) rfl)
theorem lk_X8_185 : LK RX8 185 yX8_reading := Or.inl (GW_t (i := 1101) (by decide +kernel) rfl)
theorem lk_X8_182 : LK RX8 182 yX8_reads := Or.inl (GW_t (i := 1105) (by decide +kernel) rfl)
theorem lk_X8_176 : LK RX8 176 yX8_number := Or.inl (GW_t (i := 1109) (by decide +kernel) rfl)
theorem lk_X8_173 : LK RX8 173 yX8_digit := Or.inl (GW_t (i := 1113) (by decide +kernel) rfl)
theorem lk_X8_170 : LK RX8 170 yX8_sees := Or.inl (GW_t (i := 1117) (by decide +kernel) rfl)
theorem lk_X8_179 : LK RX8 179 yX8_takes := Or.inl (GW_t (i := 1121) (by decide +kernel) rfl)
theorem lk_L_125 : LK RL 125 yX8_run := Or.inl (GW_t (i := 1125) (by decide +kernel) rfl)
theorem lk_X8_192 : LK RX8 192 yX8_does := Or.inl (GW_t (i := 1129) (by decide +kernel) rfl)
theorem lk_L_137 : LK RL 137 yX8_fileOf := Or.inl (GW_t (i := 1133) (by decide +kernel) rfl)
theorem lk_X8_195 : LK RX8 195 yX8_property := Or.inl (GW_t (i := 1137) (by decide +kernel) rfl)
theorem lk_L_140 : LK RL 140 yX8_place := Or.inl (GW_t (i := 1141) (by decide +kernel) rfl)
theorem lk_X8_198 : LK RX8 198 yX8_placeOf := Or.inl (GW_t (i := 1145) (by decide +kernel) rfl)
theorem lk_L_143 : LK RL 143 yX8_blockOf := Or.inl (GW_t (i := 1149) (by decide +kernel) rfl)
theorem lk_X8_210 : LK RX8 210 yX8_blockIs := Or.inl (GW_t (i := 1153) (by decide +kernel) rfl)
theorem lk_X8_201 : LK RX8 201 yX8_tailCells := Or.inl (GW_t (i := 1157) (by decide +kernel) rfl)
theorem lk_X8_204 : LK RX8 204 yX8_longestGap := Or.inl (GW_t (i := 1161) (by decide +kernel) rfl)
theorem lk_X8_207 : LK RX8 207 yX8_ownerOf := Or.inl (GW_t (i := 1165) (by decide +kernel) rfl)
theorem lk_L_146 : LK RL 146 yX8_count := Or.inl (GW_t (i := 1169) (by decide +kernel) rfl)
theorem lk_X8_222 : LK RX8 222 yX8_counted := Or.inl (GW_t (i := 1173) (by decide +kernel) rfl)
theorem lk_X8_213 : LK RX8 213 yX8_goodCells := Or.inl (GW_t (i := 1177) (by decide +kernel) rfl)
theorem lk_X8_216 : LK RX8 216 yX8_gapCells := Or.inl (GW_t (i := 1181) (by decide +kernel) rfl)
theorem lk_X8_219 : LK RX8 219 yX8_broken := Or.inl (GW_t (i := 1185) (by decide +kernel) rfl)
theorem lk_L_149 : LK RL 149 yX8_ifPlaced := Or.inl (GW_t (i := 1189) (by decide +kernel) rfl)
theorem lk_L_152 : LK RL 152 yX8_ifGrown := Or.inl (GW_t (i := 1193) (by decide +kernel) rfl)
theorem lk_X8_225 : LK RX8 225 yX8_afterGrowing := Or.inl (GW_t (i := 1197) (by decide +kernel) rfl)
theorem lk_L_156 : LK RL 156 yX8_greatest := Or.inl (GW_t (i := 1201) (by decide +kernel) rfl)
theorem lk_X8_231 : LK RX8 231 yX8_greatestSize := Or.inl (GW_t (i := 1205) (by decide +kernel) rfl)
theorem lk_X8_228 : LK RX8 228 yX8_couldCome := Or.inl (GW_t (i := 1209) (by decide +kernel) rfl)
theorem lk_L_159 : LK RL 159 yX8_fewest := Or.inl (GW_t (i := 1213) (by decide +kernel) rfl)
theorem lk_X8_234 : LK RX8 234 yX8_fewestBlocks := Or.inl (GW_t (i := 1217) (by decide +kernel) rfl)
theorem lk_L_163 : LK RL 163 yX8_ifPacked := Or.inl (GW_t (i := 1221) (by decide +kernel) rfl)
theorem lk_X8_237 : LK RX8 237 yX8_afterPacking := Or.inl (GW_t (i := 1225) (by decide +kernel) rfl)
theorem lk_L_167 : LK RL 167 yX8_weakest := Or.inl (GW_t (i := 1229) (by decide +kernel) rfl)
theorem lk_X8_240 : LK RX8 240 yX8_weakestBlock := Or.inl (GW_t (i := 1233) (by decide +kernel) rfl)
theorem lk_L_172 : LK RL 172 yX8_usedShare := Or.inl (GW_t (i := 1237) (by decide +kernel) rfl)
theorem lk_X8_243 : LK RX8 243 yX8_used := Or.inl (GW_t (i := 1241) (by decide +kernel) rfl)
theorem lk_L_177 : LK RL 177 yX8_digest := Or.inl (GW_t (i := 1245) (by decide +kernel) rfl)
theorem lk_X8_251 : LK RX8 251 yX8_ofFiles := Or.inl (GW_t (i := 1251) (by decide +kernel) rfl)
theorem lk_X8_255 : LK RX8 255 yJxe99ae_doubleToLongBits_ccdee := Or.inl (GW_t (i := 1255) (by decide +kernel) rfl)
theorem lk_Jxe99ae_122 : LK RJxe99ae 122 yJxe99ae_isNaN_b9ae7 := Or.inl (GW_t (i := 1258) (by decide +kernel) rfl)
