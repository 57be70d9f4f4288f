theorem dX3_takeFirstDigit_10 : decode cX3_takeFirstDigit 10 = .ok (.if_icmp .ne 14, 3) := by decide +kernel
theorem dX3_takeFirstDigit_13 : decode cX3_takeFirstDigit 13 = .ok (.aload_n 0, 1) := by decide +kernel
theorem dX3_takeFirstDigit_14 : decode cX3_takeFirstDigit 14 = .ok (.getfield 15, 3) := by decide +kernel
theorem dX3_takeFirstDigit_17 : decode cX3_takeFirstDigit 17 = .ok (.bipush 43, 2) := by decide +kernel
theorem dX3_takeFirstDigit_19 : decode cX3_takeFirstDigit 19 = .ok (.if_icmp .eq 5, 3) := by decide +kernel
theorem dX3_takeFirstDigit_22 : decode cX3_takeFirstDigit 22 = .ok (.iconst 0, 1) := by decide +kernel
theorem dX3_takeFirstDigit_23 : decode cX3_takeFirstDigit 23 = .ok (.ireturn, 1) := by decide +kernel
theorem dX3_takeFirstDigit_24 : decode cX3_takeFirstDigit 24 = .ok (.aload_n 0, 1) := by decide +kernel
theorem dX3_takeFirstDigit_25 : decode cX3_takeFirstDigit 25 = .ok (.iload_n 1, 1) := by decide +kernel
theorem dX3_takeFirstDigit_26 : decode cX3_takeFirstDigit 26 = .ok (.bipush 48, 2) := by decide +kernel
theorem dX3_takeFirstDigit_28 : decode cX3_takeFirstDigit 28 = .ok (.isub, 1) := by decide +kernel
theorem dX3_takeFirstDigit_29 : decode cX3_takeFirstDigit 29 = .ok (.putfield 21, 3) := by decide +kernel
theorem dX3_takeFirstDigit_32 : decode cX3_takeFirstDigit 32 = .ok (.aload_n 0, 1) := by decide +kernel
theorem dX3_takeFirstDigit_33 : decode cX3_takeFirstDigit 33 = .ok (.iconst 4, 1) := by decide +kernel
theorem dX3_takeFirstDigit_34 : decode cX3_takeFirstDigit 34 = .ok (.putfield 11, 3) := by decide +kernel
theorem dX3_takeFirstDigit_37 : decode cX3_takeFirstDigit 37 = .ok (.iconst 1, 1) := by decide +kernel
theorem dX3_takeFirstDigit_38 : decode cX3_takeFirstDigit 38 = .ok (.ireturn, 1) := by decide +kernel
theorem dX3_takeDigit_0 : decode cX3_takeDigit 0 = .ok (.iload_n 1, 1) := by decide +kernel
theorem dX3_takeDigit_1 : decode cX3_takeDigit 1 = .ok (.invokestatic 59, 3) := by decide +kernel
theorem dX3_takeDigit_4 : decode cX3_takeDigit 4 = .ok (.ifCond .eq 28, 3) := by decide +kernel
theorem dX3_takeDigit_7 : decode cX3_takeDigit 7 = .ok (.aload_n 0, 1) := by decide +kernel
theorem dX3_takeDigit_8 : decode cX3_takeDigit 8 = .ok (.getfield 21, 3) := by decide +kernel
theorem dX3_takeDigit_11 : decode cX3_takeDigit 11 = .ok (.ifCond .eq 21, 3) := by decide +kernel
theorem dX3_takeDigit_14 : decode cX3_takeDigit 14 = .ok (.bipush 10, 2) := by decide +kernel
theorem dX3_takeDigit_16 : decode cX3_takeDigit 16 = .ok (.aload_n 0, 1) := by decide +kernel
theorem dX3_takeDigit_17 : decode cX3_takeDigit 17 = .ok (.getfield 21, 3) := by decide +kernel
theorem dX3_takeDigit_20 : decode cX3_takeDigit 20 = .ok (.imul, 1) := by decide +kernel
theorem dX3_takeDigit_21 : decode cX3_takeDigit 21 = .ok (.iload_n 1, 1) := by decide +kernel
theorem dX3_takeDigit_22 : decode cX3_takeDigit 22 = .ok (.iadd, 1) := by decide +kernel
theorem dX3_takeDigit_23 : decode cX3_takeDigit 23 = .ok (.bipush 48, 2) := by decide +kernel
theorem dX3_takeDigit_25 : decode cX3_takeDigit 25 = .ok (.isub, 1) := by decide +kernel
theorem dX3_takeDigit_26 : decode cX3_takeDigit 26 = .ok (.sipush 200, 3) := by decide +kernel
theorem dX3_takeDigit_29 : decode cX3_takeDigit 29 = .ok (.if_icmp .le 5, 3) := by decide +kernel
theorem dX3_takeDigit_32 : decode cX3_takeDigit 32 = .ok (.iconst 0, 1) := by decide +kernel
theorem dX3_takeDigit_33 : decode cX3_takeDigit 33 = .ok (.ireturn, 1) := by decide +kernel
theorem dX3_takeDigit_34 : decode cX3_takeDigit 34 = .ok (.aload_n 0, 1) := by decide +kernel
theorem dX3_takeDigit_35 : decode cX3_takeDigit 35 = .ok (.bipush 10, 2) := by decide +kernel
theorem dX3_takeDigit_37 : decode cX3_takeDigit 37 = .ok (.aload_n 0, 1) := by decide +kernel
theorem dX3_takeDigit_38 : decode cX3_takeDigit 38 = .ok (.getfield 21, 3) := by decide +kernel
theorem dX3_takeDigit_41 : decode cX3_takeDigit 41 = .ok (.imul, 1) := by decide +kernel
theorem dX3_takeDigit_42 : decode cX3_takeDigit 42 = .ok (.iload_n 1, 1) := by decide +kernel
theorem dX3_takeDigit_43 : decode cX3_takeDigit 43 = .ok (.iadd, 1) := by decide +kernel
theorem dX3_takeDigit_44 : decode cX3_takeDigit 44 = .ok (.bipush 48, 2) := by decide +kernel
theorem dX3_takeDigit_46 : decode cX3_takeDigit 46 = .ok (.isub, 1) := by decide +kernel
theorem dX3_takeDigit_47 : decode cX3_takeDigit 47 = .ok (.putfield 21, 3) := by decide +kernel
theorem dX3_takeDigit_50 : decode cX3_takeDigit 50 = .ok (.iconst 1, 1) := by decide +kernel
theorem dX3_takeDigit_51 : decode cX3_takeDigit 51 = .ok (.ireturn, 1) := by decide +kernel
theorem dX3_takeSemicolon_0 : decode cX3_takeSemicolon 0 = .ok (.iload_n 1, 1) := by decide +kernel
theorem dX3_takeSemicolon_1 : decode cX3_takeSemicolon 1 = .ok (.bipush 59, 2) := by decide +kernel
theorem dX3_takeSemicolon_3 : decode cX3_takeSemicolon 3 = .ok (.if_icmp .eq 5, 3) := by decide +kernel
theorem dX3_takeSemicolon_6 : decode cX3_takeSemicolon 6 = .ok (.iconst 0, 1) := by decide +kernel
theorem dX3_takeSemicolon_7 : decode cX3_takeSemicolon 7 = .ok (.ireturn, 1) := by decide +kernel
theorem dX3_takeSemicolon_8 : decode cX3_takeSemicolon 8 = .ok (.aload_n 0, 1) := by decide +kernel
theorem dX3_takeSemicolon_9 : decode cX3_takeSemicolon 9 = .ok (.iconst 0, 1) := by decide +kernel
theorem dX3_takeSemicolon_10 : decode cX3_takeSemicolon 10 = .ok (.putfield 11, 3) := by decide +kernel
theorem dX3_takeSemicolon_13 : decode cX3_takeSemicolon 13 = .ok (.iconst 1, 1) := by decide +kernel
theorem dX3_takeSemicolon_14 : decode cX3_takeSemicolon 14 = .ok (.ireturn, 1) := by decide +kernel
theorem dX3_isDigit_0 : decode cX3_isDigit 0 = .ok (.iload_n 0, 1) := by decide +kernel
theorem dX3_isDigit_1 : decode cX3_isDigit 1 = .ok (.bipush 48, 2) := by decide +kernel
theorem dX3_isDigit_3 : decode cX3_isDigit 3 = .ok (.if_icmp .lt 13, 3) := by decide +kernel
theorem dX3_isDigit_6 : decode cX3_isDigit 6 = .ok (.iload_n 0, 1) := by decide +kernel
theorem dX3_isDigit_7 : decode cX3_isDigit 7 = .ok (.bipush 57, 2) := by decide +kernel
theorem dX3_isDigit_9 : decode cX3_isDigit 9 = .ok (.if_icmp .gt 7, 3) := by decide +kernel
theorem dX3_isDigit_12 : decode cX3_isDigit 12 = .ok (.iconst 1, 1) := by decide +kernel
theorem dX3_isDigit_13 : decode cX3_isDigit 13 = .ok (.goto 4, 3) := by decide +kernel
theorem dX3_isDigit_16 : decode cX3_isDigit 16 = .ok (.iconst 0, 1) := by decide +kernel
theorem dX3_isDigit_17 : decode cX3_isDigit 17 = .ok (.ireturn, 1) := by decide +kernel
theorem dX4_init_0 : decode cX4_init 0 = .ok (.aload_n 0, 1) := by decide +kernel
theorem dX4_init_1 : decode cX4_init 1 = .ok (.invokespecial 3, 3) := by decide +kernel
theorem dX4_init_4 : decode cX4_init 4 = .ok (.aload_n 0, 1) := by decide +kernel
theorem dX4_init_5 : decode cX4_init 5 = .ok (.new 9, 3) := by decide +kernel
theorem dX4_init_8 : decode cX4_init 8 = .ok (.dup, 1) := by decide +kernel
theorem dX4_init_9 : decode cX4_init 9 = .ok (.invokespecial 11, 3) := by decide +kernel
theorem dX4_init_12 : decode cX4_init 12 = .ok (.putfield 12, 3) := by decide +kernel
theorem dX4_init_15 : decode cX4_init 15 = .ok (.aload_n 0, 1) := by decide +kernel
theorem dX4_init_16 : decode cX4_init 16 = .ok (.bipush 10, 2) := by decide +kernel
theorem dX4_init_18 : decode cX4_init 18 = .ok (.newarray .int, 2) := by decide +kernel
theorem dX4_init_20 : decode cX4_init 20 = .ok (.putfield 18, 3) := by decide +kernel
theorem dX4_init_23 : decode cX4_init 23 = .ok (.aload_n 0, 1) := by decide +kernel
theorem dX4_init_24 : decode cX4_init 24 = .ok (.bipush 10, 2) := by decide +kernel
theorem dX4_init_26 : decode cX4_init 26 = .ok (.newarray .int, 2) := by decide +kernel
theorem dX4_init_28 : decode cX4_init 28 = .ok (.putfield 22, 3) := by decide +kernel
theorem dX4_init_31 : decode cX4_init 31 = .ok (.aload_n 0, 1) := by decide +kernel
theorem dX4_init_32 : decode cX4_init 32 = .ok (.bipush 24, 2) := by decide +kernel
theorem dX4_init_34 : decode cX4_init 34 = .ok (.newarray .int, 2) := by decide +kernel
theorem dX4_init_36 : decode cX4_init 36 = .ok (.putfield 25, 3) := by decide +kernel
theorem dX4_init_39 : decode cX4_init 39 = .ok (.return_, 1) := by decide +kernel
theorem dX4_plan_0 : decode cX4_plan 0 = .ok (.aload_n 0, 1) := by decide +kernel
theorem dX4_plan_1 : decode cX4_plan 1 = .ok (.getfield 12, 3) := by decide +kernel
theorem dX4_plan_4 : decode cX4_plan 4 = .ok (.aload_n 1, 1) := by decide +kernel
theorem dX4_plan_5 : decode cX4_plan 5 = .ok (.invokevirtual 28, 3) := by decide +kernel
theorem dX4_plan_8 : decode cX4_plan 8 = .ok (.iconst 0, 1) := by decide +kernel
theorem dX4_plan_9 : decode cX4_plan 9 = .ok (.istore_n 2, 1) := by decide +kernel
theorem dX4_plan_10 : decode cX4_plan 10 = .ok (.iload_n 2, 1) := by decide +kernel
theorem dX4_plan_11 : decode cX4_plan 11 = .ok (.bipush 24, 2) := by decide +kernel
theorem dX4_plan_13 : decode cX4_plan 13 = .ok (.if_icmp .ge 29, 3) := by decide +kernel
theorem dX4_plan_16 : decode cX4_plan 16 = .ok (.aload_n 0, 1) := by decide +kernel
theorem dX4_plan_17 : decode cX4_plan 17 = .ok (.getfield 25, 3) := by decide +kernel
theorem dX4_plan_20 : decode cX4_plan 20 = .ok (.iload_n 2, 1) := by decide +kernel
theorem dX4_plan_21 : decode cX4_plan 21 = .ok (.aload_n 1, 1) := by decide +kernel
theorem dX4_plan_22 : decode cX4_plan 22 = .ok (.iload_n 2, 1) := by decide +kernel
theorem dX4_plan_23 : decode cX4_plan 23 = .ok (.invokevirtual 32, 3) := by decide +kernel
theorem dX4_plan_26 : decode cX4_plan 26 = .ok (.ifCond .eq 7, 3) := by decide +kernel
theorem dX4_plan_29 : decode cX4_plan 29 = .ok (.iconst 0, 1) := by decide +kernel
theorem dX4_plan_30 : decode cX4_plan 30 = .ok (.goto 5, 3) := by decide +kernel
theorem dX4_plan_33 : decode cX4_plan 33 = .ok (.bipush 16, 2) := by decide +kernel
theorem dX4_plan_35 : decode cX4_plan 35 = .ok (.iastore, 1) := by decide +kernel
theorem dX4_plan_36 : decode cX4_plan 36 = .ok (.iinc 2 1, 3) := by decide +kernel
theorem dX4_plan_39 : decode cX4_plan 39 = .ok (.goto (-29), 3) := by decide +kernel
theorem dX4_plan_42 : decode cX4_plan 42 = .ok (.iconst 0, 1) := by decide +kernel
theorem dX4_plan_43 : decode cX4_plan 43 = .ok (.istore_n 2, 1) := by decide +kernel
theorem dX4_plan_44 : decode cX4_plan 44 = .ok (.iload_n 2, 1) := by decide +kernel
theorem dX4_plan_45 : decode cX4_plan 45 = .ok (.aload_n 0, 1) := by decide +kernel
theorem dX4_plan_46 : decode cX4_plan 46 = .ok (.getfield 12, 3) := by decide +kernel
theorem dX4_plan_49 : decode cX4_plan 49 = .ok (.getfield 38, 3) := by decide +kernel
theorem dX4_plan_52 : decode cX4_plan 52 = .ok (.if_icmp .ge 75, 3) := by decide +kernel
theorem dX4_plan_55 : decode cX4_plan 55 = .ok (.iload_n 2, 1) := by decide +kernel
theorem dX4_plan_56 : decode cX4_plan 56 = .ok (.bipush 10, 2) := by decide +kernel
theorem dX4_plan_58 : decode cX4_plan 58 = .ok (.if_icmp .ge 69, 3) := by decide +kernel
theorem dX4_plan_61 : decode cX4_plan 61 = .ok (.aload_n 0, 1) := by decide +kernel
theorem dX4_plan_62 : decode cX4_plan 62 = .ok (.aload_n 0, 1) := by decide +kernel
theorem dX4_plan_63 : decode cX4_plan 63 = .ok (.getfield 12, 3) := by decide +kernel
theorem dX4_plan_66 : decode cX4_plan 66 = .ok (.getfield 42, 3) := by decide +kernel
theorem dX4_plan_69 : decode cX4_plan 69 = .ok (.iload_n 2, 1) := by decide +kernel
theorem dX4_plan_70 : decode cX4_plan 70 = .ok (.iaload, 1) := by decide +kernel
theorem dX4_plan_71 : decode cX4_plan 71 = .ok (.invokevirtual 45, 3) := by decide +kernel
theorem dX4_plan_74 : decode cX4_plan 74 = .ok (.istore_n 3, 1) := by decide +kernel
theorem dX4_plan_75 : decode cX4_plan 75 = .ok (.iload_n 3, 1) := by decide +kernel
theorem dX4_plan_76 : decode cX4_plan 76 = .ok (.invokestatic 49, 3) := by decide +kernel
theorem dX4_plan_79 : decode cX4_plan 79 = .ok (.ifCond .ne 5, 3) := by decide +kernel
theorem dX4_plan_82 : decode cX4_plan 82 = .ok (.iconst (-1), 1) := by decide +kernel
theorem dX4_plan_83 : decode cX4_plan 83 = .ok (.ireturn, 1) := by decide +kernel
theorem dX4_plan_84 : decode cX4_plan 84 = .ok (.aload_n 0, 1) := by decide +kernel
theorem dX4_plan_85 : decode cX4_plan 85 = .ok (.getfield 18, 3) := by decide +kernel
theorem dX4_plan_88 : decode cX4_plan 88 = .ok (.iload_n 2, 1) := by decide +kernel
theorem dX4_plan_89 : decode cX4_plan 89 = .ok (.iload_n 3, 1) := by decide +kernel
theorem dX4_plan_90 : decode cX4_plan 90 = .ok (.iastore, 1) := by decide +kernel
theorem dX4_plan_91 : decode cX4_plan 91 = .ok (.aload_n 0, 1) := by decide +kernel
theorem dX4_plan_92 : decode cX4_plan 92 = .ok (.getfield 22, 3) := by decide +kernel
theorem dX4_plan_95 : decode cX4_plan 95 = .ok (.iload_n 2, 1) := by decide +kernel
theorem dX4_plan_96 : decode cX4_plan 96 = .ok (.aload_n 0, 1) := by decide +kernel
theorem dX4_plan_97 : decode cX4_plan 97 = .ok (.getfield 25, 3) := by decide +kernel
theorem dX4_plan_100 : decode cX4_plan 100 = .ok (.iload_n 3, 1) := by decide +kernel
theorem dX4_plan_101 : decode cX4_plan 101 = .ok (.iaload, 1) := by decide +kernel
theorem dX4_plan_102 : decode cX4_plan 102 = .ok (.iastore, 1) := by decide +kernel
theorem dX4_plan_103 : decode cX4_plan 103 = .ok (.aload_n 0, 1) := by decide +kernel
theorem dX4_plan_104 : decode cX4_plan 104 = .ok (.getfield 25, 3) := by decide +kernel
theorem dX4_plan_107 : decode cX4_plan 107 = .ok (.iload_n 3, 1) := by decide +kernel
theorem dX4_plan_108 : decode cX4_plan 108 = .ok (.dup2, 1) := by decide +kernel
theorem dX4_plan_109 : decode cX4_plan 109 = .ok (.iaload, 1) := by decide +kernel
theorem dX4_plan_110 : decode cX4_plan 110 = .ok (.aload_n 0, 1) := by decide +kernel
theorem dX4_plan_111 : decode cX4_plan 111 = .ok (.getfield 12, 3) := by decide +kernel
theorem dX4_plan_114 : decode cX4_plan 114 = .ok (.getfield 42, 3) := by decide +kernel
theorem dX4_plan_117 : decode cX4_plan 117 = .ok (.iload_n 2, 1) := by decide +kernel
theorem dX4_plan_118 : decode cX4_plan 118 = .ok (.iaload, 1) := by decide +kernel
theorem dX4_plan_119 : decode cX4_plan 119 = .ok (.iadd, 1) := by decide +kernel
theorem dX4_plan_120 : decode cX4_plan 120 = .ok (.iastore, 1) := by decide +kernel
theorem dX4_plan_121 : decode cX4_plan 121 = .ok (.iinc 2 1, 3) := by decide +kernel
theorem dX4_plan_124 : decode cX4_plan 124 = .ok (.goto (-80), 3) := by decide +kernel
theorem dX4_plan_127 : decode cX4_plan 127 = .ok (.aload_n 0, 1) := by decide +kernel
theorem dX4_plan_128 : decode cX4_plan 128 = .ok (.invokevirtual 52, 3) := by decide +kernel
theorem dX4_plan_131 : decode cX4_plan 131 = .ok (.ireturn, 1) := by decide +kernel
theorem dX4_firstWithRoom_0 : decode cX4_firstWithRoom 0 = .ok (.iconst 0, 1) := by decide +kernel
theorem dX4_firstWithRoom_1 : decode cX4_firstWithRoom 1 = .ok (.istore_n 2, 1) := by decide +kernel
theorem dX4_firstWithRoom_2 : decode cX4_firstWithRoom 2 = .ok (.iload_n 2, 1) := by decide +kernel
theorem dX4_firstWithRoom_3 : decode cX4_firstWithRoom 3 = .ok (.bipush 24, 2) := by decide +kernel
theorem dX4_firstWithRoom_5 : decode cX4_firstWithRoom 5 = .ok (.if_icmp .ge 24, 3) := by decide +kernel
theorem dX4_firstWithRoom_8 : decode cX4_firstWithRoom 8 = .ok (.aload_n 0, 1) := by decide +kernel
theorem dX4_firstWithRoom_9 : decode cX4_firstWithRoom 9 = .ok (.getfield 25, 3) := by decide +kernel
theorem dX4_firstWithRoom_12 : decode cX4_firstWithRoom 12 = .ok (.iload_n 2, 1) := by decide +kernel
theorem dX4_firstWithRoom_13 : decode cX4_firstWithRoom 13 = .ok (.iaload, 1) := by decide +kernel
theorem dX4_firstWithRoom_14 : decode cX4_firstWithRoom 14 = .ok (.iload_n 1, 1) := by decide +kernel
theorem dX4_firstWithRoom_15 : decode cX4_firstWithRoom 15 = .ok (.iadd, 1) := by decide +kernel
theorem dX4_firstWithRoom_16 : decode cX4_firstWithRoom 16 = .ok (.bipush 16, 2) := by decide +kernel
theorem dX4_firstWithRoom_18 : decode cX4_firstWithRoom 18 = .ok (.if_icmp .gt 5, 3) := by decide +kernel
theorem dX4_firstWithRoom_21 : decode cX4_firstWithRoom 21 = .ok (.iload_n 2, 1) := by decide +kernel
theorem dX4_firstWithRoom_22 : decode cX4_firstWithRoom 22 = .ok (.ireturn, 1) := by decide +kernel
theorem dX4_firstWithRoom_23 : decode cX4_firstWithRoom 23 = .ok (.iinc 2 1, 3) := by decide +kernel
theorem dX4_firstWithRoom_26 : decode cX4_firstWithRoom 26 = .ok (.goto (-24), 3) := by decide +kernel
theorem dX4_firstWithRoom_29 : decode cX4_firstWithRoom 29 = .ok (.iconst (-1), 1) := by decide +kernel
theorem dX4_firstWithRoom_30 : decode cX4_firstWithRoom 30 = .ok (.ireturn, 1) := by decide +kernel
theorem dX4_emptyBlocks_0 : decode cX4_emptyBlocks 0 = .ok (.iconst 0, 1) := by decide +kernel
theorem dX4_emptyBlocks_1 : decode cX4_emptyBlocks 1 = .ok (.istore_n 1, 1) := by decide +kernel
theorem dX4_emptyBlocks_2 : decode cX4_emptyBlocks 2 = .ok (.iconst 0, 1) := by decide +kernel
theorem dX4_emptyBlocks_3 : decode cX4_emptyBlocks 3 = .ok (.istore_n 2, 1) := by decide +kernel
theorem dX4_emptyBlocks_4 : decode cX4_emptyBlocks 4 = .ok (.iload_n 2, 1) := by decide +kernel
theorem dX4_emptyBlocks_5 : decode cX4_emptyBlocks 5 = .ok (.bipush 24, 2) := by decide +kernel
theorem dX4_emptyBlocks_7 : decode cX4_emptyBlocks 7 = .ok (.if_icmp .ge 26, 3) := by decide +kernel
theorem dX4_emptyBlocks_10 : decode cX4_emptyBlocks 10 = .ok (.iload_n 1, 1) := by decide +kernel
theorem dX4_emptyBlocks_11 : decode cX4_emptyBlocks 11 = .ok (.aload_n 0, 1) := by decide +kernel
theorem dX4_emptyBlocks_12 : decode cX4_emptyBlocks 12 = .ok (.getfield 25, 3) := by decide +kernel
theorem dX4_emptyBlocks_15 : decode cX4_emptyBlocks 15 = .ok (.iload_n 2, 1) := by decide +kernel
theorem dX4_emptyBlocks_16 : decode cX4_emptyBlocks 16 = .ok (.iaload, 1) := by decide +kernel
theorem dX4_emptyBlocks_17 : decode cX4_emptyBlocks 17 = .ok (.ifCond .ne 7, 3) := by decide +kernel
theorem dX4_emptyBlocks_20 : decode cX4_emptyBlocks 20 = .ok (.iconst 1, 1) := by decide +kernel
theorem dX4_emptyBlocks_21 : decode cX4_emptyBlocks 21 = .ok (.goto 4, 3) := by decide +kernel
theorem dX4_emptyBlocks_24 : decode cX4_emptyBlocks 24 = .ok (.iconst 0, 1) := by decide +kernel
theorem dX4_emptyBlocks_25 : decode cX4_emptyBlocks 25 = .ok (.iadd, 1) := by decide +kernel
theorem dX4_emptyBlocks_26 : decode cX4_emptyBlocks 26 = .ok (.istore_n 1, 1) := by decide +kernel
theorem dX4_emptyBlocks_27 : decode cX4_emptyBlocks 27 = .ok (.iinc 2 1, 3) := by decide +kernel
theorem dX4_emptyBlocks_30 : decode cX4_emptyBlocks 30 = .ok (.goto (-26), 3) := by decide +kernel
theorem dX4_emptyBlocks_33 : decode cX4_emptyBlocks 33 = .ok (.iload_n 1, 1) := by decide +kernel
theorem dX4_emptyBlocks_34 : decode cX4_emptyBlocks 34 = .ok (.ireturn, 1) := by decide +kernel
theorem dX4_carryOut_0 : decode cX4_carryOut 0 = .ok (.iconst 0, 1) := by decide +kernel
theorem dX4_carryOut_1 : decode cX4_carryOut 1 = .ok (.istore_n 2, 1) := by decide +kernel
theorem dX4_carryOut_2 : decode cX4_carryOut 2 = .ok (.iload_n 2, 1) := by decide +kernel
theorem dX4_carryOut_3 : decode cX4_carryOut 3 = .ok (.aload_n 0, 1) := by decide +kernel
theorem dX4_carryOut_4 : decode cX4_carryOut 4 = .ok (.getfield 12, 3) := by decide +kernel
theorem dX4_carryOut_7 : decode cX4_carryOut 7 = .ok (.getfield 38, 3) := by decide +kernel
theorem dX4_carryOut_10 : decode cX4_carryOut 10 = .ok (.if_icmp .ge 40, 3) := by decide +kernel
theorem dX4_carryOut_13 : decode cX4_carryOut 13 = .ok (.iload_n 2, 1) := by decide +kernel
theorem dX4_carryOut_14 : decode cX4_carryOut 14 = .ok (.bipush 10, 2) := by decide +kernel
theorem dX4_carryOut_16 : decode cX4_carryOut 16 = .ok (.if_icmp .ge 34, 3) := by decide +kernel
theorem dX4_carryOut_19 : decode cX4_carryOut 19 = .ok (.aload_n 1, 1) := by decide +kernel
theorem dX4_carryOut_20 : decode cX4_carryOut 20 = .ok (.aload_n 0, 1) := by decide +kernel
theorem dX4_carryOut_21 : decode cX4_carryOut 21 = .ok (.getfield 12, 3) := by decide +kernel
theorem dX4_carryOut_24 : decode cX4_carryOut 24 = .ok (.getfield 56, 3) := by decide +kernel
theorem dX4_carryOut_27 : decode cX4_carryOut 27 = .ok (.iload_n 2, 1) := by decide +kernel
theorem dX4_carryOut_28 : decode cX4_carryOut 28 = .ok (.iaload, 1) := by decide +kernel
theorem dX4_carryOut_29 : decode cX4_carryOut 29 = .ok (.aload_n 0, 1) := by decide +kernel
theorem dX4_carryOut_30 : decode cX4_carryOut 30 = .ok (.getfield 18, 3) := by decide +kernel
theorem dX4_carryOut_33 : decode cX4_carryOut 33 = .ok (.iload_n 2, 1) := by decide +kernel
theorem dX4_carryOut_34 : decode cX4_carryOut 34 = .ok (.iaload, 1) := by decide +kernel
theorem dX4_carryOut_35 : decode cX4_carryOut 35 = .ok (.aload_n 0, 1) := by decide +kernel
theorem dX4_carryOut_36 : decode cX4_carryOut 36 = .ok (.getfield 22, 3) := by decide +kernel
theorem dX4_carryOut_39 : decode cX4_carryOut 39 = .ok (.iload_n 2, 1) := by decide +kernel
theorem dX4_carryOut_40 : decode cX4_carryOut 40 = .ok (.iaload, 1) := by decide +kernel
theorem dX4_carryOut_41 : decode cX4_carryOut 41 = .ok (.invokevirtual 59, 3) := by decide +kernel
theorem dX4_carryOut_44 : decode cX4_carryOut 44 = .ok (.iinc 2 1, 3) := by decide +kernel
theorem dX4_carryOut_47 : decode cX4_carryOut 47 = .ok (.goto (-45), 3) := by decide +kernel
theorem dX4_carryOut_50 : decode cX4_carryOut 50 = .ok (.iconst 0, 1) := by decide +kernel
theorem dX4_carryOut_51 : decode cX4_carryOut 51 = .ok (.istore_n 2, 1) := by decide +kernel
theorem dX4_carryOut_52 : decode cX4_carryOut 52 = .ok (.iload_n 2, 1) := by decide +kernel
theorem dX4_carryOut_53 : decode cX4_carryOut 53 = .ok (.bipush 24, 2) := by decide +kernel
theorem dX4_carryOut_55 : decode cX4_carryOut 55 = .ok (.if_icmp .ge 15, 3) := by decide +kernel
theorem dX4_carryOut_58 : decode cX4_carryOut 58 = .ok (.aload_n 1, 1) := by decide +kernel
theorem dX4_carryOut_59 : decode cX4_carryOut 59 = .ok (.iload_n 2, 1) := by decide +kernel
theorem dX4_carryOut_60 : decode cX4_carryOut 60 = .ok (.invokevirtual 63, 3) := by decide +kernel
theorem dX4_carryOut_63 : decode cX4_carryOut 63 = .ok (.pop, 1) := by decide +kernel
theorem dX4_carryOut_64 : decode cX4_carryOut 64 = .ok (.iinc 2 1, 3) := by decide +kernel
theorem dX4_carryOut_67 : decode cX4_carryOut 67 = .ok (.goto (-15), 3) := by decide +kernel
theorem dX4_carryOut_70 : decode cX4_carryOut 70 = .ok (.aload_n 1, 1) := by decide +kernel
theorem dX4_carryOut_71 : decode cX4_carryOut 71 = .ok (.dup, 1) := by decide +kernel
theorem dX4_carryOut_72 : decode cX4_carryOut 72 = .ok (.getfield 66, 3) := by decide +kernel
theorem dX4_carryOut_75 : decode cX4_carryOut 75 = .ok (.iconst 1, 1) := by decide +kernel
theorem dX4_carryOut_76 : decode cX4_carryOut 76 = .ok (.iadd, 1) := by decide +kernel
theorem dX4_carryOut_77 : decode cX4_carryOut 77 = .ok (.putfield 66, 3) := by decide +kernel
theorem dX4_carryOut_80 : decode cX4_carryOut 80 = .ok (.return_, 1) := by decide +kernel
theorem dX5_init_0 : decode cX5_init 0 = .ok (.aload_n 0, 1) := by decide +kernel
theorem dX5_init_1 : decode cX5_init 1 = .ok (.invokespecial 3, 3) := by decide +kernel
theorem dX5_init_4 : decode cX5_init 4 = .ok (.aload_n 0, 1) := by decide +kernel
theorem dX5_init_5 : decode cX5_init 5 = .ok (.bipush 10, 2) := by decide +kernel
theorem dX5_init_7 : decode cX5_init 7 = .ok (.newarray .int, 2) := by decide +kernel
theorem dX5_init_9 : decode cX5_init 9 = .ok (.putfield 9, 3) := by decide +kernel
theorem dX5_init_12 : decode cX5_init 12 = .ok (.aload_n 0, 1) := by decide +kernel
theorem dX5_init_13 : decode cX5_init 13 = .ok (.bipush 10, 2) := by decide +kernel
theorem dX5_init_15 : decode cX5_init 15 = .ok (.newarray .int, 2) := by decide +kernel
theorem dX5_init_17 : decode cX5_init 17 = .ok (.putfield 15, 3) := by decide +kernel
theorem dX5_init_20 : decode cX5_init 20 = .ok (.aload_n 0, 1) := by decide +kernel
theorem dX5_init_21 : decode cX5_init 21 = .ok (.iconst 0, 1) := by decide +kernel
theorem dX5_init_22 : decode cX5_init 22 = .ok (.putfield 18, 3) := by decide +kernel
theorem dX5_init_25 : decode cX5_init 25 = .ok (.return_, 1) := by decide +kernel
theorem dX5_collect_0 : decode cX5_collect 0 = .ok (.aload_n 0, 1) := by decide +kernel
theorem dX5_collect_1 : decode cX5_collect 1 = .ok (.iconst 0, 1) := by decide +kernel
theorem dX5_collect_2 : decode cX5_collect 2 = .ok (.putfield 18, 3) := by decide +kernel
theorem dX5_collect_5 : decode cX5_collect 5 = .ok (.iconst 0, 1) := by decide +kernel
theorem dX5_collect_6 : decode cX5_collect 6 = .ok (.istore_n 2, 1) := by decide +kernel
theorem dX5_collect_7 : decode cX5_collect 7 = .ok (.iload_n 2, 1) := by decide +kernel
theorem dX5_collect_8 : decode cX5_collect 8 = .ok (.bipush 10, 2) := by decide +kernel
theorem dX5_collect_10 : decode cX5_collect 10 = .ok (.if_icmp .ge 37, 3) := by decide +kernel
theorem dX5_collect_13 : decode cX5_collect 13 = .ok (.aload_n 1, 1) := by decide +kernel
theorem dX5_collect_14 : decode cX5_collect 14 = .ok (.iload_n 2, 1) := by decide +kernel
theorem dX5_collect_15 : decode cX5_collect 15 = .ok (.invokevirtual 22, 3) := by decide +kernel
theorem dX5_collect_18 : decode cX5_collect 18 = .ok (.ifCond .eq 7, 3) := by decide +kernel
theorem dX5_collect_21 : decode cX5_collect 21 = .ok (.iconst 0, 1) := by decide +kernel
theorem dX5_collect_22 : decode cX5_collect 22 = .ok (.goto 8, 3) := by decide +kernel
theorem dX5_collect_25 : decode cX5_collect 25 = .ok (.aload_n 1, 1) := by decide +kernel
theorem dX5_collect_26 : decode cX5_collect 26 = .ok (.iload_n 2, 1) := by decide +kernel
theorem dX5_collect_27 : decode cX5_collect 27 = .ok (.invokevirtual 28, 3) := by decide +kernel
theorem dX5_collect_30 : decode cX5_collect 30 = .ok (.istore_n 3, 1) := by decide +kernel
theorem dX5_collect_31 : decode cX5_collect 31 = .ok (.iload_n 3, 1) := by decide +kernel
theorem dX5_collect_32 : decode cX5_collect 32 = .ok (.ifCond .le 9, 3) := by decide +kernel
theorem dX5_collect_35 : decode cX5_collect 35 = .ok (.aload_n 0, 1) := by decide +kernel
theorem dX5_collect_36 : decode cX5_collect 36 = .ok (.iload_n 2, 1) := by decide +kernel
theorem dX5_collect_37 : decode cX5_collect 37 = .ok (.iload_n 3, 1) := by decide +kernel
theorem dX5_collect_38 : decode cX5_collect 38 = .ok (.invokevirtual 32, 3) := by decide +kernel
theorem dX5_collect_41 : decode cX5_collect 41 = .ok (.iinc 2 1, 3) := by decide +kernel
theorem dX5_collect_44 : decode cX5_collect 44 = .ok (.goto (-37), 3) := by decide +kernel
theorem dX5_collect_47 : decode cX5_collect 47 = .ok (.return_, 1) := by decide +kernel
theorem dX5_insert_0 : decode cX5_insert 0 = .ok (.aload_n 0, 1) := by decide +kernel
theorem dX5_insert_1 : decode cX5_insert 1 = .ok (.getfield 18, 3) := by decide +kernel
theorem dX5_insert_4 : decode cX5_insert 4 = .ok (.ifCond .lt 12, 3) := by decide +kernel
theorem dX5_insert_7 : decode cX5_insert 7 = .ok (.aload_n 0, 1) := by decide +kernel
theorem dX5_insert_8 : decode cX5_insert 8 = .ok (.getfield 18, 3) := by decide +kernel
theorem dX5_insert_11 : decode cX5_insert 11 = .ok (.bipush 10, 2) := by decide +kernel
theorem dX5_insert_13 : decode cX5_insert 13 = .ok (.if_icmp .lt 4, 3) := by decide +kernel
theorem dX5_insert_16 : decode cX5_insert 16 = .ok (.return_, 1) := by decide +kernel
theorem dX5_insert_17 : decode cX5_insert 17 = .ok (.aload_n 0, 1) := by decide +kernel
theorem dX5_insert_18 : decode cX5_insert 18 = .ok (.getfield 18, 3) := by decide +kernel
theorem dX5_insert_21 : decode cX5_insert 21 = .ok (.istore_n 3, 1) := by decide +kernel
theorem dX5_insert_22 : decode cX5_insert 22 = .ok (.iload_n 3, 1) := by decide +kernel
theorem dX5_insert_23 : decode cX5_insert 23 = .ok (.ifCond .le 49, 3) := by decide +kernel
theorem dX5_insert_26 : decode cX5_insert 26 = .ok (.aload_n 0, 1) := by decide +kernel
theorem dX5_insert_27 : decode cX5_insert 27 = .ok (.getfield 15, 3) := by decide +kernel
theorem dX5_insert_30 : decode cX5_insert 30 = .ok (.iload_n 3, 1) := by decide +kernel
theorem dX5_insert_31 : decode cX5_insert 31 = .ok (.iconst 1, 1) := by decide +kernel
theorem dX5_insert_32 : decode cX5_insert 32 = .ok (.isub, 1) := by decide +kernel
theorem dX5_insert_33 : decode cX5_insert 33 = .ok (.iaload, 1) := by decide +kernel
theorem dX5_insert_34 : decode cX5_insert 34 = .ok (.iload_n 2, 1) := by decide +kernel
theorem dX5_insert_35 : decode cX5_insert 35 = .ok (.if_icmp .ge 37, 3) := by decide +kernel
theorem dX5_insert_38 : decode cX5_insert 38 = .ok (.aload_n 0, 1) := by decide +kernel
theorem dX5_insert_39 : decode cX5_insert 39 = .ok (.getfield 9, 3) := by decide +kernel
theorem dX5_insert_42 : decode cX5_insert 42 = .ok (.iload_n 3, 1) := by decide +kernel
theorem dX5_insert_43 : decode cX5_insert 43 = .ok (.aload_n 0, 1) := by decide +kernel
theorem dX5_insert_44 : decode cX5_insert 44 = .ok (.getfield 9, 3) := by decide +kernel
theorem dX5_insert_47 : decode cX5_insert 47 = .ok (.iload_n 3, 1) := by decide +kernel
theorem dX5_insert_48 : decode cX5_insert 48 = .ok (.iconst 1, 1) := by decide +kernel
theorem dX5_insert_49 : decode cX5_insert 49 = .ok (.isub, 1) := by decide +kernel
theorem dX5_insert_50 : decode cX5_insert 50 = .ok (.iaload, 1) := by decide +kernel
theorem dX5_insert_51 : decode cX5_insert 51 = .ok (.iastore, 1) := by decide +kernel
theorem dX5_insert_52 : decode cX5_insert 52 = .ok (.aload_n 0, 1) := by decide +kernel
theorem dX5_insert_53 : decode cX5_insert 53 = .ok (.getfield 15, 3) := by decide +kernel
theorem dX5_insert_56 : decode cX5_insert 56 = .ok (.iload_n 3, 1) := by decide +kernel
theorem dX5_insert_57 : decode cX5_insert 57 = .ok (.aload_n 0, 1) := by decide +kernel
theorem dX5_insert_58 : decode cX5_insert 58 = .ok (.getfield 15, 3) := by decide +kernel
theorem dX5_insert_61 : decode cX5_insert 61 = .ok (.iload_n 3, 1) := by decide +kernel
theorem dX5_insert_62 : decode cX5_insert 62 = .ok (.iconst 1, 1) := by decide +kernel
theorem dX5_insert_63 : decode cX5_insert 63 = .ok (.isub, 1) := by decide +kernel
theorem dX5_insert_64 : decode cX5_insert 64 = .ok (.iaload, 1) := by decide +kernel
theorem dX5_insert_65 : decode cX5_insert 65 = .ok (.iastore, 1) := by decide +kernel
theorem dX5_insert_66 : decode cX5_insert 66 = .ok (.iinc 3 (-1), 3) := by decide +kernel
theorem dX5_insert_69 : decode cX5_insert 69 = .ok (.goto (-47), 3) := by decide +kernel
theorem dX5_insert_72 : decode cX5_insert 72 = .ok (.aload_n 0, 1) := by decide +kernel
theorem dX5_insert_73 : decode cX5_insert 73 = .ok (.getfield 9, 3) := by decide +kernel
theorem dX5_insert_76 : decode cX5_insert 76 = .ok (.iload_n 3, 1) := by decide +kernel
theorem dX5_insert_77 : decode cX5_insert 77 = .ok (.iload_n 1, 1) := by decide +kernel
theorem dX5_insert_78 : decode cX5_insert 78 = .ok (.iastore, 1) := by decide +kernel
theorem dX5_insert_79 : decode cX5_insert 79 = .ok (.aload_n 0, 1) := by decide +kernel
theorem dX5_insert_80 : decode cX5_insert 80 = .ok (.getfield 15, 3) := by decide +kernel
theorem dX5_insert_83 : decode cX5_insert 83 = .ok (.iload_n 3, 1) := by decide +kernel
theorem dX5_insert_84 : decode cX5_insert 84 = .ok (.iload_n 2, 1) := by decide +kernel
theorem dX5_insert_85 : decode cX5_insert 85 = .ok (.iastore, 1) := by decide +kernel
theorem dX5_insert_86 : decode cX5_insert 86 = .ok (.aload_n 0, 1) := by decide +kernel
theorem dX5_insert_87 : decode cX5_insert 87 = .ok (.dup, 1) := by decide +kernel
theorem dX5_insert_88 : decode cX5_insert 88 = .ok (.getfield 18, 3) := by decide +kernel
theorem dX5_insert_91 : decode cX5_insert 91 = .ok (.iconst 1, 1) := by decide +kernel
theorem dX5_insert_92 : decode cX5_insert 92 = .ok (.iadd, 1) := by decide +kernel
theorem dX5_insert_93 : decode cX5_insert 93 = .ok (.putfield 18, 3) := by decide +kernel
theorem dX5_insert_96 : decode cX5_insert 96 = .ok (.return_, 1) := by decide +kernel
theorem dX5_cells_0 : decode cX5_cells 0 = .ok (.iconst 0, 1) := by decide +kernel
theorem dX5_cells_1 : decode cX5_cells 1 = .ok (.istore_n 1, 1) := by decide +kernel
theorem dX5_cells_2 : decode cX5_cells 2 = .ok (.iconst 0, 1) := by decide +kernel
theorem dX5_cells_3 : decode cX5_cells 3 = .ok (.istore_n 2, 1) := by decide +kernel
theorem dX5_cells_4 : decode cX5_cells 4 = .ok (.iload_n 2, 1) := by decide +kernel
theorem dX5_cells_5 : decode cX5_cells 5 = .ok (.aload_n 0, 1) := by decide +kernel
theorem dX5_cells_6 : decode cX5_cells 6 = .ok (.getfield 18, 3) := by decide +kernel
theorem dX5_cells_9 : decode cX5_cells 9 = .ok (.if_icmp .ge 24, 3) := by decide +kernel
theorem dX5_cells_12 : decode cX5_cells 12 = .ok (.iload_n 2, 1) := by decide +kernel
theorem dX5_cells_13 : decode cX5_cells 13 = .ok (.bipush 10, 2) := by decide +kernel
theorem dX5_cells_15 : decode cX5_cells 15 = .ok (.if_icmp .ge 18, 3) := by decide +kernel
theorem dX5_cells_18 : decode cX5_cells 18 = .ok (.iload_n 1, 1) := by decide +kernel
theorem dX5_cells_19 : decode cX5_cells 19 = .ok (.aload_n 0, 1) := by decide +kernel
theorem dX5_cells_20 : decode cX5_cells 20 = .ok (.getfield 15, 3) := by decide +kernel
theorem dX5_cells_23 : decode cX5_cells 23 = .ok (.iload_n 2, 1) := by decide +kernel
theorem dX5_cells_24 : decode cX5_cells 24 = .ok (.iaload, 1) := by decide +kernel
theorem dX5_cells_25 : decode cX5_cells 25 = .ok (.iadd, 1) := by decide +kernel
theorem dX5_cells_26 : decode cX5_cells 26 = .ok (.istore_n 1, 1) := by decide +kernel
theorem dX5_cells_27 : decode cX5_cells 27 = .ok (.iinc 2 1, 3) := by decide +kernel
theorem dX5_cells_30 : decode cX5_cells 30 = .ok (.goto (-26), 3) := by decide +kernel
theorem dX5_cells_33 : decode cX5_cells 33 = .ok (.iload_n 1, 1) := by decide +kernel
theorem dX5_cells_34 : decode cX5_cells 34 = .ok (.ireturn, 1) := by decide +kernel
theorem dX6_init_0 : decode cX6_init 0 = .ok (.aload_n 0, 1) := by decide +kernel
theorem dX6_init_1 : decode cX6_init 1 = .ok (.invokespecial 3, 3) := by decide +kernel
theorem dX6_init_4 : decode cX6_init 4 = .ok (.aload_n 0, 1) := by decide +kernel
theorem dX6_init_5 : decode cX6_init 5 = .ok (.bipush 60, 2) := by decide +kernel
theorem dX6_init_7 : decode cX6_init 7 = .ok (.newarray .int, 2) := by decide +kernel
theorem dX6_init_9 : decode cX6_init 9 = .ok (.putfield 9, 3) := by decide +kernel
theorem dX6_init_12 : decode cX6_init 12 = .ok (.aload_n 0, 1) := by decide +kernel
theorem dX6_init_13 : decode cX6_init 13 = .ok (.iconst 0, 1) := by decide +kernel
theorem dX6_init_14 : decode cX6_init 14 = .ok (.putfield 15, 3) := by decide +kernel
theorem dX6_init_17 : decode cX6_init 17 = .ok (.return_, 1) := by decide +kernel
theorem dX6_length_0 : decode cX6_length 0 = .ok (.aload_n 0, 1) := by decide +kernel
theorem dX6_length_1 : decode cX6_length 1 = .ok (.getfield 15, 3) := by decide +kernel
theorem dX6_length_4 : decode cX6_length 4 = .ok (.ireturn, 1) := by decide +kernel
theorem dX6_isFull_0 : decode cX6_isFull 0 = .ok (.aload_n 0, 1) := by decide +kernel
theorem dX6_isFull_1 : decode cX6_isFull 1 = .ok (.getfield 15, 3) := by decide +kernel
theorem dX6_isFull_4 : decode cX6_isFull 4 = .ok (.bipush 60, 2) := by decide +kernel
theorem dX6_isFull_6 : decode cX6_isFull 6 = .ok (.if_icmp .lt 7, 3) := by decide +kernel
theorem dX6_isFull_9 : decode cX6_isFull 9 = .ok (.iconst 1, 1) := by decide +kernel
theorem dX6_isFull_10 : decode cX6_isFull 10 = .ok (.goto 4, 3) := by decide +kernel
theorem dX6_isFull_13 : decode cX6_isFull 13 = .ok (.iconst 0, 1) := by decide +kernel
theorem dX6_isFull_14 : decode cX6_isFull 14 = .ok (.ireturn, 1) := by decide +kernel
theorem dX6_add_0 : decode cX6_add 0 = .ok (.aload_n 0, 1) := by decide +kernel
theorem dX6_add_1 : decode cX6_add 1 = .ok (.getfield 15, 3) := by decide +kernel
theorem dX6_add_4 : decode cX6_add 4 = .ok (.ifCond .lt 32, 3) := by decide +kernel
theorem dX6_add_7 : decode cX6_add 7 = .ok (.aload_n 0, 1) := by decide +kernel
theorem dX6_add_8 : decode cX6_add 8 = .ok (.getfield 15, 3) := by decide +kernel
theorem dX6_add_11 : decode cX6_add 11 = .ok (.bipush 60, 2) := by decide +kernel
theorem dX6_add_13 : decode cX6_add 13 = .ok (.if_icmp .ge 23, 3) := by decide +kernel
theorem dX6_add_16 : decode cX6_add 16 = .ok (.aload_n 0, 1) := by decide +kernel
theorem dX6_add_17 : decode cX6_add 17 = .ok (.getfield 9, 3) := by decide +kernel
theorem dX6_add_20 : decode cX6_add 20 = .ok (.aload_n 0, 1) := by decide +kernel
theorem dX6_add_21 : decode cX6_add 21 = .ok (.getfield 15, 3) := by decide +kernel
theorem dX6_add_24 : decode cX6_add 24 = .ok (.iload_n 1, 1) := by decide +kernel
theorem dX6_add_25 : decode cX6_add 25 = .ok (.iastore, 1) := by decide +kernel
theorem dX6_add_26 : decode cX6_add 26 = .ok (.aload_n 0, 1) := by decide +kernel
theorem dX6_add_27 : decode cX6_add 27 = .ok (.dup, 1) := by decide +kernel
theorem dX6_add_28 : decode cX6_add 28 = .ok (.getfield 15, 3) := by decide +kernel
theorem dX6_add_31 : decode cX6_add 31 = .ok (.iconst 1, 1) := by decide +kernel
theorem dX6_add_32 : decode cX6_add 32 = .ok (.iadd, 1) := by decide +kernel
theorem dX6_add_33 : decode cX6_add 33 = .ok (.putfield 15, 3) := by decide +kernel
theorem dX6_add_36 : decode cX6_add 36 = .ok (.return_, 1) := by decide +kernel
theorem dX6_empty_0 : decode cX6_empty 0 = .ok (.aload_n 0, 1) := by decide +kernel
theorem dX6_empty_1 : decode cX6_empty 1 = .ok (.iconst 0, 1) := by decide +kernel
theorem dX6_empty_2 : decode cX6_empty 2 = .ok (.putfield 15, 3) := by decide +kernel
theorem dX6_empty_5 : decode cX6_empty 5 = .ok (.return_, 1) := by decide +kernel
theorem dX6_codeAt_0 : decode cX6_codeAt 0 = .ok (.iload_n 1, 1) := by decide +kernel
theorem dX6_codeAt_1 : decode cX6_codeAt 1 = .ok (.ifCond .lt 26, 3) := by decide +kernel
theorem dX6_codeAt_4 : decode cX6_codeAt 4 = .ok (.iload_n 1, 1) := by decide +kernel
theorem dX6_codeAt_5 : decode cX6_codeAt 5 = .ok (.aload_n 0, 1) := by decide +kernel
theorem dX6_codeAt_6 : decode cX6_codeAt 6 = .ok (.getfield 15, 3) := by decide +kernel
theorem dX6_codeAt_9 : decode cX6_codeAt 9 = .ok (.if_icmp .ge 18, 3) := by decide +kernel
theorem dX6_codeAt_12 : decode cX6_codeAt 12 = .ok (.iload_n 1, 1) := by decide +kernel
theorem dX6_codeAt_13 : decode cX6_codeAt 13 = .ok (.bipush 60, 2) := by decide +kernel
theorem dX6_codeAt_15 : decode cX6_codeAt 15 = .ok (.if_icmp .ge 12, 3) := by decide +kernel
theorem dX6_codeAt_18 : decode cX6_codeAt 18 = .ok (.aload_n 0, 1) := by decide +kernel
theorem dX6_codeAt_19 : decode cX6_codeAt 19 = .ok (.getfield 9, 3) := by decide +kernel
theorem dX6_codeAt_22 : decode cX6_codeAt 22 = .ok (.iload_n 1, 1) := by decide +kernel
theorem dX6_codeAt_23 : decode cX6_codeAt 23 = .ok (.iaload, 1) := by decide +kernel
theorem dX6_codeAt_24 : decode cX6_codeAt 24 = .ok (.goto 4, 3) := by decide +kernel
theorem dX6_codeAt_27 : decode cX6_codeAt 27 = .ok (.iconst (-1), 1) := by decide +kernel
theorem dX6_codeAt_28 : decode cX6_codeAt 28 = .ok (.ireturn, 1) := by decide +kernel
theorem dX7_init_0 : decode cX7_init 0 = .ok (.aload_n 0, 1) := by decide +kernel
theorem dX7_init_1 : decode cX7_init 1 = .ok (.invokespecial 3, 3) := by decide +kernel
theorem dX7_init_4 : decode cX7_init 4 = .ok (.aload_n 0, 1) := by decide +kernel
theorem dX7_init_5 : decode cX7_init 5 = .ok (.new 9, 3) := by decide +kernel
theorem dX7_init_8 : decode cX7_init 8 = .ok (.dup, 1) := by decide +kernel
theorem dX7_init_9 : decode cX7_init 9 = .ok (.invokespecial 11, 3) := by decide +kernel
theorem dX7_init_12 : decode cX7_init 12 = .ok (.putfield 12, 3) := by decide +kernel
theorem dX7_init_15 : decode cX7_init 15 = .ok (.aload_n 0, 1) := by decide +kernel
theorem dX7_init_16 : decode cX7_init 16 = .ok (.new 16, 3) := by decide +kernel
theorem dX7_init_19 : decode cX7_init 19 = .ok (.dup, 1) := by decide +kernel
theorem dX7_init_20 : decode cX7_init 20 = .ok (.invokespecial 18, 3) := by decide +kernel
theorem dX7_init_23 : decode cX7_init 23 = .ok (.putfield 19, 3) := by decide +kernel
theorem dX7_init_26 : decode cX7_init 26 = .ok (.aload_n 0, 1) := by decide +kernel
theorem dX7_init_27 : decode cX7_init 27 = .ok (.iconst 2, 1) := by decide +kernel
theorem dX7_init_28 : decode cX7_init 28 = .ok (.anewarray 9, 3) := by decide +kernel
theorem dX7_init_31 : decode cX7_init 31 = .ok (.putfield 23, 3) := by decide +kernel
theorem dX7_init_34 : decode cX7_init 34 = .ok (.aload_n 0, 1) := by decide +kernel
theorem dX7_init_35 : decode cX7_init 35 = .ok (.new 27, 3) := by decide +kernel
theorem dX7_init_38 : decode cX7_init 38 = .ok (.dup, 1) := by decide +kernel
theorem dX7_init_39 : decode cX7_init 39 = .ok (.invokespecial 29, 3) := by decide +kernel
theorem dX7_init_42 : decode cX7_init 42 = .ok (.putfield 30, 3) := by decide +kernel
theorem dX7_init_45 : decode cX7_init 45 = .ok (.aload_n 0, 1) := by decide +kernel
theorem dX7_init_46 : decode cX7_init 46 = .ok (.new 34, 3) := by decide +kernel
theorem dX7_init_49 : decode cX7_init 49 = .ok (.dup, 1) := by decide +kernel
theorem dX7_init_50 : decode cX7_init 50 = .ok (.invokespecial 36, 3) := by decide +kernel
theorem dX7_init_53 : decode cX7_init 53 = .ok (.putfield 37, 3) := by decide +kernel
theorem dX7_init_56 : decode cX7_init 56 = .ok (.aload_n 0, 1) := by decide +kernel
theorem dX7_init_57 : decode cX7_init 57 = .ok (.new 41, 3) := by decide +kernel
theorem dX7_init_60 : decode cX7_init 60 = .ok (.dup, 1) := by decide +kernel
theorem dX7_init_61 : decode cX7_init 61 = .ok (.invokespecial 43, 3) := by decide +kernel
theorem dX7_init_64 : decode cX7_init 64 = .ok (.putfield 44, 3) := by decide +kernel
theorem dX7_init_67 : decode cX7_init 67 = .ok (.aload_n 0, 1) := by decide +kernel
theorem dX7_init_68 : decode cX7_init 68 = .ok (.new 48, 3) := by decide +kernel
theorem dX7_init_71 : decode cX7_init 71 = .ok (.dup, 1) := by decide +kernel
theorem dX7_init_72 : decode cX7_init 72 = .ok (.invokespecial 50, 3) := by decide +kernel
theorem dX7_init_75 : decode cX7_init 75 = .ok (.putfield 51, 3) := by decide +kernel
theorem dX7_init_78 : decode cX7_init 78 = .ok (.return_, 1) := by decide +kernel
theorem dX7_create_0 : decode cX7_create 0 = .ok (.iload_n 1, 1) := by decide +kernel
theorem dX7_create_1 : decode cX7_create 1 = .ok (.iconst 0, 1) := by decide +kernel
theorem dX7_create_2 : decode cX7_create 2 = .ok (.sipush 200, 3) := by decide +kernel
theorem dX7_create_5 : decode cX7_create 5 = .ok (.invokestatic 55, 3) := by decide +kernel
theorem dX7_create_8 : decode cX7_create 8 = .ok (.aload_n 0, 1) := by decide +kernel
theorem dX7_create_9 : decode cX7_create 9 = .ok (.getfield 19, 3) := by decide +kernel
theorem dX7_create_12 : decode cX7_create 12 = .ok (.aload_n 0, 1) := by decide +kernel
theorem dX7_create_13 : decode cX7_create 13 = .ok (.getfield 12, 3) := by decide +kernel
theorem dX7_create_16 : decode cX7_create 16 = .ok (.invokevirtual 59, 3) := by decide +kernel
theorem dX7_create_19 : decode cX7_create 19 = .ok (.aload_n 0, 1) := by decide +kernel
theorem dX7_create_20 : decode cX7_create 20 = .ok (.getfield 12, 3) := by decide +kernel
theorem dX7_create_23 : decode cX7_create 23 = .ok (.iload_n 1, 1) := by decide +kernel
theorem dX7_create_24 : decode cX7_create 24 = .ok (.invokevirtual 63, 3) := by decide +kernel
theorem dX7_create_27 : decode cX7_create 27 = .ok (.ireturn, 1) := by decide +kernel
theorem dX7_grow_0 : decode cX7_grow 0 = .ok (.aload_n 0, 1) := by decide +kernel
theorem dX7_grow_1 : decode cX7_grow 1 = .ok (.iload_n 1, 1) := by decide +kernel
theorem dX7_grow_2 : decode cX7_grow 2 = .ok (.invokevirtual 67, 3) := by decide +kernel
theorem dX7_grow_5 : decode cX7_grow 5 = .ok (.iload_n 2, 1) := by decide +kernel
theorem dX7_grow_6 : decode cX7_grow 6 = .ok (.iconst 1, 1) := by decide +kernel
theorem dX7_grow_7 : decode cX7_grow 7 = .ok (.sipush 200, 3) := by decide +kernel
theorem dX7_grow_10 : decode cX7_grow 10 = .ok (.invokestatic 55, 3) := by decide +kernel
theorem dX7_grow_13 : decode cX7_grow 13 = .ok (.aload_n 0, 1) := by decide +kernel
theorem dX7_grow_14 : decode cX7_grow 14 = .ok (.getfield 19, 3) := by decide +kernel
theorem dX7_grow_17 : decode cX7_grow 17 = .ok (.aload_n 0, 1) := by decide +kernel
theorem dX7_grow_18 : decode cX7_grow 18 = .ok (.getfield 12, 3) := by decide +kernel
theorem dX7_grow_21 : decode cX7_grow 21 = .ok (.invokevirtual 59, 3) := by decide +kernel
theorem dX7_grow_24 : decode cX7_grow 24 = .ok (.aload_n 0, 1) := by decide +kernel
theorem dX7_grow_25 : decode cX7_grow 25 = .ok (.getfield 12, 3) := by decide +kernel
theorem dX7_grow_28 : decode cX7_grow 28 = .ok (.iload_n 1, 1) := by decide +kernel
theorem dX7_grow_29 : decode cX7_grow 29 = .ok (.iload_n 2, 1) := by decide +kernel
theorem dX7_grow_30 : decode cX7_grow 30 = .ok (.invokevirtual 71, 3) := by decide +kernel
theorem dX7_grow_33 : decode cX7_grow 33 = .ok (.ireturn, 1) := by decide +kernel
theorem dX7_cut_0 : decode cX7_cut 0 = .ok (.aload_n 0, 1) := by decide +kernel
theorem dX7_cut_1 : decode cX7_cut 1 = .ok (.iload_n 1, 1) := by decide +kernel
theorem dX7_cut_2 : decode cX7_cut 2 = .ok (.invokevirtual 67, 3) := by decide +kernel
theorem dX7_cut_5 : decode cX7_cut 5 = .ok (.iload_n 2, 1) := by decide +kernel
theorem dX7_cut_6 : decode cX7_cut 6 = .ok (.iconst 1, 1) := by decide +kernel
theorem dX7_cut_7 : decode cX7_cut 7 = .ok (.sipush 200, 3) := by decide +kernel
theorem dX7_cut_10 : decode cX7_cut 10 = .ok (.invokestatic 55, 3) := by decide +kernel
theorem dX7_cut_13 : decode cX7_cut 13 = .ok (.aload_n 0, 1) := by decide +kernel
theorem dX7_cut_14 : decode cX7_cut 14 = .ok (.getfield 19, 3) := by decide +kernel
theorem dX7_cut_17 : decode cX7_cut 17 = .ok (.aload_n 0, 1) := by decide +kernel
theorem dX7_cut_18 : decode cX7_cut 18 = .ok (.getfield 12, 3) := by decide +kernel
theorem dX7_cut_21 : decode cX7_cut 21 = .ok (.invokevirtual 59, 3) := by decide +kernel
theorem dX7_cut_24 : decode cX7_cut 24 = .ok (.aload_n 0, 1) := by decide +kernel
theorem dX7_cut_25 : decode cX7_cut 25 = .ok (.getfield 12, 3) := by decide +kernel
theorem dX7_cut_28 : decode cX7_cut 28 = .ok (.iload_n 1, 1) := by decide +kernel
theorem dX7_cut_29 : decode cX7_cut 29 = .ok (.iload_n 2, 1) := by decide +kernel
theorem dX7_cut_30 : decode cX7_cut 30 = .ok (.invokevirtual 75, 3) := by decide +kernel
theorem dX7_cut_33 : decode cX7_cut 33 = .ok (.ireturn, 1) := by decide +kernel
theorem dX7_delete_0 : decode cX7_delete 0 = .ok (.aload_n 0, 1) := by decide +kernel
theorem dX7_delete_1 : decode cX7_delete 1 = .ok (.iload_n 1, 1) := by decide +kernel
theorem dX7_delete_2 : decode cX7_delete 2 = .ok (.invokevirtual 67, 3) := by decide +kernel
theorem dX7_delete_5 : decode cX7_delete 5 = .ok (.aload_n 0, 1) := by decide +kernel
theorem dX7_delete_6 : decode cX7_delete 6 = .ok (.getfield 19, 3) := by decide +kernel
theorem dX7_delete_9 : decode cX7_delete 9 = .ok (.aload_n 0, 1) := by decide +kernel
theorem dX7_delete_10 : decode cX7_delete 10 = .ok (.getfield 12, 3) := by decide +kernel
theorem dX7_delete_13 : decode cX7_delete 13 = .ok (.invokevirtual 59, 3) := by decide +kernel
theorem dX7_delete_16 : decode cX7_delete 16 = .ok (.aload_n 0, 1) := by decide +kernel
theorem dX7_delete_17 : decode cX7_delete 17 = .ok (.getfield 12, 3) := by decide +kernel
theorem dX7_delete_20 : decode cX7_delete 20 = .ok (.iload_n 1, 1) := by decide +kernel
theorem dX7_delete_21 : decode cX7_delete 21 = .ok (.invokevirtual 78, 3) := by decide +kernel
theorem dX7_delete_24 : decode cX7_delete 24 = .ok (.ireturn, 1) := by decide +kernel
theorem dX7_spoil_0 : decode cX7_spoil 0 = .ok (.iload_n 1, 1) := by decide +kernel
theorem dX7_spoil_1 : decode cX7_spoil 1 = .ok (.invokestatic 81, 3) := by decide +kernel
theorem dX7_spoil_4 : decode cX7_spoil 4 = .ok (.aload_n 0, 1) := by decide +kernel
theorem dX7_spoil_5 : decode cX7_spoil 5 = .ok (.getfield 12, 3) := by decide +kernel
theorem dX7_spoil_8 : decode cX7_spoil 8 = .ok (.iload_n 1, 1) := by decide +kernel
theorem dX7_spoil_9 : decode cX7_spoil 9 = .ok (.invokevirtual 84, 3) := by decide +kernel
theorem dX7_spoil_12 : decode cX7_spoil 12 = .ok (.iconst 3, 1) := by decide +kernel
theorem dX7_spoil_13 : decode cX7_spoil 13 = .ok (.if_icmp .ne 13, 3) := by decide +kernel
theorem dX7_spoil_16 : decode cX7_spoil 16 = .ok (.new 87, 3) := by decide +kernel
theorem dX7_spoil_19 : decode cX7_spoil 19 = .ok (.dup, 1) := by decide +kernel
theorem dX7_spoil_20 : decode cX7_spoil 20 = .ok (.ldc 89, 2) := by decide +kernel
theorem dX7_spoil_22 : decode cX7_spoil 22 = .ok (.invokespecial 91, 3) := by decide +kernel
theorem dX7_spoil_25 : decode cX7_spoil 25 = .ok (.athrow, 1) := by decide +kernel
theorem dX7_spoil_26 : decode cX7_spoil 26 = .ok (.aload_n 0, 1) := by decide +kernel
theorem dX7_spoil_27 : decode cX7_spoil 27 = .ok (.getfield 19, 3) := by decide +kernel
theorem dX7_spoil_30 : decode cX7_spoil 30 = .ok (.aload_n 0, 1) := by decide +kernel
theorem dX7_spoil_31 : decode cX7_spoil 31 = .ok (.getfield 12, 3) := by decide +kernel
theorem dX7_spoil_34 : decode cX7_spoil 34 = .ok (.invokevirtual 59, 3) := by decide +kernel
theorem dX7_spoil_37 : decode cX7_spoil 37 = .ok (.aload_n 0, 1) := by decide +kernel
theorem dX7_spoil_38 : decode cX7_spoil 38 = .ok (.getfield 12, 3) := by decide +kernel
theorem dX7_spoil_41 : decode cX7_spoil 41 = .ok (.iload_n 1, 1) := by decide +kernel
theorem dX7_spoil_42 : decode cX7_spoil 42 = .ok (.invokevirtual 94, 3) := by decide +kernel
theorem dX7_spoil_45 : decode cX7_spoil 45 = .ok (.ireturn, 1) := by decide +kernel
theorem dX7_heal_0 : decode cX7_heal 0 = .ok (.iload_n 1, 1) := by decide +kernel
theorem dX7_heal_1 : decode cX7_heal 1 = .ok (.invokestatic 81, 3) := by decide +kernel
theorem dX7_heal_4 : decode cX7_heal 4 = .ok (.aload_n 0, 1) := by decide +kernel
theorem dX7_heal_5 : decode cX7_heal 5 = .ok (.getfield 12, 3) := by decide +kernel
theorem dX7_heal_8 : decode cX7_heal 8 = .ok (.iload_n 1, 1) := by decide +kernel
theorem dX7_heal_9 : decode cX7_heal 9 = .ok (.invokevirtual 84, 3) := by decide +kernel
theorem dX7_heal_12 : decode cX7_heal 12 = .ok (.iconst 3, 1) := by decide +kernel
theorem dX7_heal_13 : decode cX7_heal 13 = .ok (.if_icmp .eq 13, 3) := by decide +kernel
theorem dX7_heal_16 : decode cX7_heal 16 = .ok (.new 87, 3) := by decide +kernel
theorem dX7_heal_19 : decode cX7_heal 19 = .ok (.dup, 1) := by decide +kernel
theorem dX7_heal_20 : decode cX7_heal 20 = .ok (.ldc 97, 2) := by decide +kernel
theorem dX7_heal_22 : decode cX7_heal 22 = .ok (.invokespecial 91, 3) := by decide +kernel
theorem dX7_heal_25 : decode cX7_heal 25 = .ok (.athrow, 1) := by decide +kernel
theorem dX7_heal_26 : decode cX7_heal 26 = .ok (.aload_n 0, 1) := by decide +kernel
theorem dX7_heal_27 : decode cX7_heal 27 = .ok (.getfield 12, 3) := by decide +kernel
theorem dX7_heal_30 : decode cX7_heal 30 = .ok (.iload_n 1, 1) := by decide +kernel
theorem dX7_heal_31 : decode cX7_heal 31 = .ok (.invokevirtual 99, 3) := by decide +kernel
theorem dX7_heal_34 : decode cX7_heal 34 = .ok (.ifCond .eq 13, 3) := by decide +kernel
theorem dX7_heal_37 : decode cX7_heal 37 = .ok (.new 87, 3) := by decide +kernel
theorem dX7_heal_40 : decode cX7_heal 40 = .ok (.dup, 1) := by decide +kernel
theorem dX7_heal_41 : decode cX7_heal 41 = .ok (.ldc 103, 2) := by decide +kernel
theorem dX7_heal_43 : decode cX7_heal 43 = .ok (.invokespecial 91, 3) := by decide +kernel
theorem dX7_heal_46 : decode cX7_heal 46 = .ok (.athrow, 1) := by decide +kernel
theorem dX7_heal_47 : decode cX7_heal 47 = .ok (.aload_n 0, 1) := by decide +kernel
theorem dX7_heal_48 : decode cX7_heal 48 = .ok (.getfield 19, 3) := by decide +kernel
theorem dX7_heal_51 : decode cX7_heal 51 = .ok (.aload_n 0, 1) := by decide +kernel
theorem dX7_heal_52 : decode cX7_heal 52 = .ok (.getfield 12, 3) := by decide +kernel
theorem dX7_heal_55 : decode cX7_heal 55 = .ok (.invokevirtual 59, 3) := by decide +kernel
theorem dX7_heal_58 : decode cX7_heal 58 = .ok (.aload_n 0, 1) := by decide +kernel
theorem dX7_heal_59 : decode cX7_heal 59 = .ok (.getfield 12, 3) := by decide +kernel
theorem dX7_heal_62 : decode cX7_heal 62 = .ok (.iload_n 1, 1) := by decide +kernel
theorem dX7_heal_63 : decode cX7_heal 63 = .ok (.invokevirtual 105, 3) := by decide +kernel
theorem dX7_heal_66 : decode cX7_heal 66 = .ok (.aload_n 0, 1) := by decide +kernel
theorem dX7_heal_67 : decode cX7_heal 67 = .ok (.getfield 12, 3) := by decide +kernel
theorem dX7_heal_70 : decode cX7_heal 70 = .ok (.iconst 3, 1) := by decide +kernel
theorem dX7_heal_71 : decode cX7_heal 71 = .ok (.invokevirtual 108, 3) := by decide +kernel
theorem dX7_heal_74 : decode cX7_heal 74 = .ok (.ireturn, 1) := by decide +kernel
theorem dX7_pack_0 : decode cX7_pack 0 = .ok (.aload_n 0, 1) := by decide +kernel
theorem dX7_pack_1 : decode cX7_pack 1 = .ok (.getfield 19, 3) := by decide +kernel
theorem dX7_pack_4 : decode cX7_pack 4 = .ok (.aload_n 0, 1) := by decide +kernel
theorem dX7_pack_5 : decode cX7_pack 5 = .ok (.getfield 12, 3) := by decide +kernel
theorem dX7_pack_8 : decode cX7_pack 8 = .ok (.invokevirtual 59, 3) := by decide +kernel
theorem dX7_pack_11 : decode cX7_pack 11 = .ok (.aload_n 0, 1) := by decide +kernel
theorem dX7_pack_12 : decode cX7_pack 12 = .ok (.getfield 44, 3) := by decide +kernel
theorem dX7_pack_15 : decode cX7_pack 15 = .ok (.aload_n 0, 1) := by decide +kernel
theorem dX7_pack_16 : decode cX7_pack 16 = .ok (.getfield 12, 3) := by decide +kernel
theorem dX7_pack_19 : decode cX7_pack 19 = .ok (.invokevirtual 111, 3) := by decide +kernel
theorem dX7_pack_22 : decode cX7_pack 22 = .ok (.istore_n 1, 1) := by decide +kernel
theorem dX7_pack_23 : decode cX7_pack 23 = .ok (.iload_n 1, 1) := by decide +kernel
theorem dX7_pack_24 : decode cX7_pack 24 = .ok (.iconst (-1), 1) := by decide +kernel
theorem dX7_pack_25 : decode cX7_pack 25 = .ok (.if_icmp .eq 14, 3) := by decide +kernel
theorem dX7_pack_28 : decode cX7_pack 28 = .ok (.aload_n 0, 1) := by decide +kernel
theorem dX7_pack_29 : decode cX7_pack 29 = .ok (.getfield 44, 3) := by decide +kernel
theorem dX7_pack_32 : decode cX7_pack 32 = .ok (.aload_n 0, 1) := by decide +kernel
theorem dX7_pack_33 : decode cX7_pack 33 = .ok (.getfield 12, 3) := by decide +kernel
theorem dX7_pack_36 : decode cX7_pack 36 = .ok (.invokevirtual 115, 3) := by decide +kernel
theorem dX7_pack_39 : decode cX7_pack 39 = .ok (.iload_n 1, 1) := by decide +kernel
theorem dX7_pack_40 : decode cX7_pack 40 = .ok (.ireturn, 1) := by decide +kernel
theorem dX7_set_0 : decode cX7_set 0 = .ok (.iload_n 1, 1) := by decide +kernel
theorem dX7_set_1 : decode cX7_set 1 = .ok (.iconst 0, 1) := by decide +kernel
theorem dX7_set_2 : decode cX7_set 2 = .ok (.iconst 1, 1) := by decide +kernel
theorem dX7_set_3 : decode cX7_set 3 = .ok (.invokestatic 55, 3) := by decide +kernel
theorem dX7_set_6 : decode cX7_set 6 = .ok (.aload_n 0, 1) := by decide +kernel
theorem dX7_set_7 : decode cX7_set 7 = .ok (.getfield 19, 3) := by decide +kernel
theorem dX7_set_10 : decode cX7_set 10 = .ok (.aload_n 0, 1) := by decide +kernel
theorem dX7_set_11 : decode cX7_set 11 = .ok (.getfield 12, 3) := by decide +kernel
theorem dX7_set_14 : decode cX7_set 14 = .ok (.invokevirtual 59, 3) := by decide +kernel
theorem dX7_set_17 : decode cX7_set 17 = .ok (.aload_n 0, 1) := by decide +kernel
theorem dX7_set_18 : decode cX7_set 18 = .ok (.getfield 12, 3) := by decide +kernel
theorem dX7_set_21 : decode cX7_set 21 = .ok (.getfield 118, 3) := by decide +kernel
theorem dX7_set_24 : decode cX7_set 24 = .ok (.istore_n 2, 1) := by decide +kernel
theorem dX7_set_25 : decode cX7_set 25 = .ok (.aload_n 0, 1) := by decide +kernel
theorem dX7_set_26 : decode cX7_set 26 = .ok (.getfield 12, 3) := by decide +kernel
theorem dX7_set_29 : decode cX7_set 29 = .ok (.iload_n 1, 1) := by decide +kernel
theorem dX7_set_30 : decode cX7_set 30 = .ok (.putfield 118, 3) := by decide +kernel
theorem dX7_set_33 : decode cX7_set 33 = .ok (.iload_n 2, 1) := by decide +kernel
theorem dX7_set_34 : decode cX7_set 34 = .ok (.ireturn, 1) := by decide +kernel
theorem dX7_append_0 : decode cX7_append 0 = .ok (.iload_n 1, 1) := by decide +kernel
theorem dX7_append_1 : decode cX7_append 1 = .ok (.bipush 33, 2) := by decide +kernel
theorem dX7_append_3 : decode cX7_append 3 = .ok (.bipush 126, 2) := by decide +kernel
theorem dX7_append_5 : decode cX7_append 5 = .ok (.invokestatic 55, 3) := by decide +kernel
theorem dX7_append_8 : decode cX7_append 8 = .ok (.aload_n 0, 1) := by decide +kernel
theorem dX7_append_9 : decode cX7_append 9 = .ok (.getfield 30, 3) := by decide +kernel
theorem dX7_append_12 : decode cX7_append 12 = .ok (.invokevirtual 122, 3) := by decide +kernel
theorem dX7_append_15 : decode cX7_append 15 = .ok (.ifCond .eq 13, 3) := by decide +kernel
theorem dX7_append_18 : decode cX7_append 18 = .ok (.new 87, 3) := by decide +kernel
theorem dX7_append_21 : decode cX7_append 21 = .ok (.dup, 1) := by decide +kernel
theorem dX7_append_22 : decode cX7_append 22 = .ok (.ldc 126, 2) := by decide +kernel
theorem dX7_append_24 : decode cX7_append 24 = .ok (.invokespecial 91, 3) := by decide +kernel
theorem dX7_append_27 : decode cX7_append 27 = .ok (.athrow, 1) := by decide +kernel
theorem dX7_append_28 : decode cX7_append 28 = .ok (.aload_n 0, 1) := by decide +kernel
theorem dX7_append_29 : decode cX7_append 29 = .ok (.getfield 30, 3) := by decide +kernel
theorem dX7_append_32 : decode cX7_append 32 = .ok (.iload_n 1, 1) := by decide +kernel
theorem dX7_append_33 : decode cX7_append 33 = .ok (.invokevirtual 128, 3) := by decide +kernel
theorem dX7_append_36 : decode cX7_append 36 = .ok (.aload_n 0, 1) := by decide +kernel
theorem dX7_append_37 : decode cX7_append 37 = .ok (.getfield 30, 3) := by decide +kernel
theorem dX7_append_40 : decode cX7_append 40 = .ok (.invokevirtual 131, 3) := by decide +kernel
theorem dX7_append_43 : decode cX7_append 43 = .ok (.ireturn, 1) := by decide +kernel
theorem dX7_clearBuffer_0 : decode cX7_clearBuffer 0 = .ok (.aload_n 0, 1) := by decide +kernel
theorem dX7_clearBuffer_1 : decode cX7_clearBuffer 1 = .ok (.getfield 30, 3) := by decide +kernel
theorem dX7_clearBuffer_4 : decode cX7_clearBuffer 4 = .ok (.invokevirtual 131, 3) := by decide +kernel
theorem dX7_clearBuffer_7 : decode cX7_clearBuffer 7 = .ok (.istore_n 1, 1) := by decide +kernel
theorem dX7_clearBuffer_8 : decode cX7_clearBuffer 8 = .ok (.aload_n 0, 1) := by decide +kernel
theorem dX7_clearBuffer_9 : decode cX7_clearBuffer 9 = .ok (.getfield 30, 3) := by decide +kernel
theorem dX7_clearBuffer_12 : decode cX7_clearBuffer 12 = .ok (.invokevirtual 135, 3) := by decide +kernel
theorem dX7_clearBuffer_15 : decode cX7_clearBuffer 15 = .ok (.iload_n 1, 1) := by decide +kernel
theorem dX7_clearBuffer_16 : decode cX7_clearBuffer 16 = .ok (.ireturn, 1) := by decide +kernel
theorem dX7_firstError_0 : decode cX7_firstError 0 = .ok (.aload_n 0, 1) := by decide +kernel
theorem dX7_firstError_1 : decode cX7_firstError 1 = .ok (.getfield 37, 3) := by decide +kernel
theorem dX7_firstError_4 : decode cX7_firstError 4 = .ok (.aload_n 0, 1) := by decide +kernel
theorem dX7_firstError_5 : decode cX7_firstError 5 = .ok (.getfield 30, 3) := by decide +kernel
theorem dX7_firstError_8 : decode cX7_firstError 8 = .ok (.invokevirtual 138, 3) := by decide +kernel
theorem dX7_firstError_11 : decode cX7_firstError 11 = .ok (.ireturn, 1) := by decide +kernel
theorem dX7_run_0 : decode cX7_run 0 = .ok (.aload_n 0, 1) := by decide +kernel
theorem dX7_run_1 : decode cX7_run 1 = .ok (.getfield 37, 3) := by decide +kernel
theorem dX7_run_4 : decode cX7_run 4 = .ok (.aload_n 0, 1) := by decide +kernel
theorem dX7_run_5 : decode cX7_run 5 = .ok (.getfield 30, 3) := by decide +kernel
theorem dX7_run_8 : decode cX7_run 8 = .ok (.invokevirtual 138, 3) := by decide +kernel
theorem dX7_run_11 : decode cX7_run 11 = .ok (.aload_n 0, 1) := by decide +kernel
theorem dX7_run_12 : decode cX7_run 12 = .ok (.getfield 30, 3) := by decide +kernel
theorem dX7_run_15 : decode cX7_run 15 = .ok (.invokevirtual 131, 3) := by decide +kernel
theorem dX7_run_18 : decode cX7_run 18 = .ok (.if_icmp .lt 13, 3) := by decide +kernel
theorem dX7_run_21 : decode cX7_run 21 = .ok (.aload_n 0, 1) := by decide +kernel
theorem dX7_run_22 : decode cX7_run 22 = .ok (.getfield 37, 3) := by decide +kernel
theorem dX7_run_25 : decode cX7_run 25 = .ok (.invokevirtual 142, 3) := by decide +kernel
theorem dX7_run_28 : decode cX7_run 28 = .ok (.ifCond .ne 13, 3) := by decide +kernel
theorem dX7_run_31 : decode cX7_run 31 = .ok (.new 145, 3) := by decide +kernel
theorem dX7_run_34 : decode cX7_run 34 = .ok (.dup, 1) := by decide +kernel
theorem dX7_run_35 : decode cX7_run 35 = .ok (.ldc 147, 2) := by decide +kernel
theorem dX7_run_37 : decode cX7_run 37 = .ok (.invokespecial 149, 3) := by decide +kernel
theorem dX7_run_40 : decode cX7_run 40 = .ok (.athrow, 1) := by decide +kernel
theorem dX7_run_41 : decode cX7_run 41 = .ok (.aload_n 0, 1) := by decide +kernel
theorem dX7_run_42 : decode cX7_run 42 = .ok (.getfield 19, 3) := by decide +kernel
theorem dX7_run_45 : decode cX7_run 45 = .ok (.aload_n 0, 1) := by decide +kernel
theorem dX7_run_46 : decode cX7_run 46 = .ok (.getfield 12, 3) := by decide +kernel
theorem dX7_run_49 : decode cX7_run 49 = .ok (.invokevirtual 59, 3) := by decide +kernel
theorem dX7_run_52 : decode cX7_run 52 = .ok (.aload_n 0, 1) := by decide +kernel
theorem dX7_run_53 : decode cX7_run 53 = .ok (.invokevirtual 150, 3) := by decide +kernel
theorem dX7_run_56 : decode cX7_run 56 = .ok (.istore_n 1, 1) := by decide +kernel
theorem dX7_run_57 : decode cX7_run 57 = .ok (.aload_n 0, 1) := by decide +kernel
theorem dX7_run_58 : decode cX7_run 58 = .ok (.getfield 30, 3) := by decide +kernel
theorem dX7_run_61 : decode cX7_run 61 = .ok (.invokevirtual 135, 3) := by decide +kernel
theorem dX7_run_64 : decode cX7_run 64 = .ok (.iload_n 1, 1) := by decide +kernel
theorem dX7_run_65 : decode cX7_run 65 = .ok (.ireturn, 1) := by decide +kernel
theorem dX7_keep_0 : decode cX7_keep 0 = .ok (.iload_n 1, 1) := by decide +kernel
theorem dX7_keep_1 : decode cX7_keep 1 = .ok (.iconst 0, 1) := by decide +kernel
theorem dX7_keep_2 : decode cX7_keep 2 = .ok (.iconst 1, 1) := by decide +kernel
theorem dX7_keep_3 : decode cX7_keep 3 = .ok (.invokestatic 55, 3) := by decide +kernel
theorem dX7_keep_6 : decode cX7_keep 6 = .ok (.aload_n 0, 1) := by decide +kernel
theorem dX7_keep_7 : decode cX7_keep 7 = .ok (.getfield 23, 3) := by decide +kernel
theorem dX7_keep_10 : decode cX7_keep 10 = .ok (.iload_n 1, 1) := by decide +kernel
theorem dX7_keep_11 : decode cX7_keep 11 = .ok (.aaload, 1) := by decide +kernel
theorem dX7_keep_12 : decode cX7_keep 12 = .ok (.ifnonnull 16, 3) := by decide +kernel
theorem dX7_keep_15 : decode cX7_keep 15 = .ok (.aload_n 0, 1) := by decide +kernel
theorem dX7_keep_16 : decode cX7_keep 16 = .ok (.getfield 23, 3) := by decide +kernel
theorem dX7_keep_19 : decode cX7_keep 19 = .ok (.iload_n 1, 1) := by decide +kernel
theorem dX7_keep_20 : decode cX7_keep 20 = .ok (.new 9, 3) := by decide +kernel
theorem dX7_keep_23 : decode cX7_keep 23 = .ok (.dup, 1) := by decide +kernel
theorem dX7_keep_24 : decode cX7_keep 24 = .ok (.invokespecial 11, 3) := by decide +kernel
theorem dX7_keep_27 : decode cX7_keep 27 = .ok (.aastore, 1) := by decide +kernel
theorem dX7_keep_28 : decode cX7_keep 28 = .ok (.aload_n 0, 1) := by decide +kernel
theorem dX7_keep_29 : decode cX7_keep 29 = .ok (.getfield 23, 3) := by decide +kernel
theorem dX7_keep_32 : decode cX7_keep 32 = .ok (.iload_n 1, 1) := by decide +kernel
theorem dX7_keep_33 : decode cX7_keep 33 = .ok (.aaload, 1) := by decide +kernel
theorem dX7_keep_34 : decode cX7_keep 34 = .ok (.aload_n 0, 1) := by decide +kernel
theorem dX7_keep_35 : decode cX7_keep 35 = .ok (.getfield 12, 3) := by decide +kernel
theorem dX7_keep_38 : decode cX7_keep 38 = .ok (.invokevirtual 153, 3) := by decide +kernel
theorem dX7_keep_41 : decode cX7_keep 41 = .ok (.aload_n 0, 1) := by decide +kernel
theorem dX7_keep_42 : decode cX7_keep 42 = .ok (.getfield 12, 3) := by decide +kernel
theorem dX7_keep_45 : decode cX7_keep 45 = .ok (.invokevirtual 156, 3) := by decide +kernel
theorem dX7_keep_48 : decode cX7_keep 48 = .ok (.ireturn, 1) := by decide +kernel
theorem dX7_goBack_0 : decode cX7_goBack 0 = .ok (.iload_n 1, 1) := by decide +kernel
theorem dX7_goBack_1 : decode cX7_goBack 1 = .ok (.iconst 0, 1) := by decide +kernel
theorem dX7_goBack_2 : decode cX7_goBack 2 = .ok (.iconst 1, 1) := by decide +kernel
theorem dX7_goBack_3 : decode cX7_goBack 3 = .ok (.invokestatic 55, 3) := by decide +kernel
theorem dX7_goBack_6 : decode cX7_goBack 6 = .ok (.aload_n 0, 1) := by decide +kernel
theorem dX7_goBack_7 : decode cX7_goBack 7 = .ok (.getfield 23, 3) := by decide +kernel
theorem dX7_goBack_10 : decode cX7_goBack 10 = .ok (.iload_n 1, 1) := by decide +kernel
theorem dX7_goBack_11 : decode cX7_goBack 11 = .ok (.aaload, 1) := by decide +kernel
theorem dX7_goBack_12 : decode cX7_goBack 12 = .ok (.ifnonnull 13, 3) := by decide +kernel
theorem dX7_goBack_15 : decode cX7_goBack 15 = .ok (.new 87, 3) := by decide +kernel
theorem dX7_goBack_18 : decode cX7_goBack 18 = .ok (.dup, 1) := by decide +kernel
theorem dX7_goBack_19 : decode cX7_goBack 19 = .ok (.ldc 159, 2) := by decide +kernel
theorem dX7_goBack_21 : decode cX7_goBack 21 = .ok (.invokespecial 91, 3) := by decide +kernel
theorem dX7_goBack_24 : decode cX7_goBack 24 = .ok (.athrow, 1) := by decide +kernel
theorem dX7_goBack_25 : decode cX7_goBack 25 = .ok (.aload_n 0, 1) := by decide +kernel
theorem dX7_goBack_26 : decode cX7_goBack 26 = .ok (.getfield 19, 3) := by decide +kernel
theorem dX7_goBack_29 : decode cX7_goBack 29 = .ok (.aload_n 0, 1) := by decide +kernel
theorem dX7_goBack_30 : decode cX7_goBack 30 = .ok (.getfield 12, 3) := by decide +kernel
theorem dX7_goBack_33 : decode cX7_goBack 33 = .ok (.invokevirtual 59, 3) := by decide +kernel
theorem dX7_goBack_36 : decode cX7_goBack 36 = .ok (.aload_n 0, 1) := by decide +kernel
theorem dX7_goBack_37 : decode cX7_goBack 37 = .ok (.getfield 12, 3) := by decide +kernel
theorem dX7_goBack_40 : decode cX7_goBack 40 = .ok (.aload_n 0, 1) := by decide +kernel
theorem dX7_goBack_41 : decode cX7_goBack 41 = .ok (.getfield 23, 3) := by decide +kernel
theorem dX7_goBack_44 : decode cX7_goBack 44 = .ok (.iload_n 1, 1) := by decide +kernel
theorem dX7_goBack_45 : decode cX7_goBack 45 = .ok (.aaload, 1) := by decide +kernel
theorem dX7_goBack_46 : decode cX7_goBack 46 = .ok (.invokevirtual 153, 3) := by decide +kernel
theorem dX7_goBack_49 : decode cX7_goBack 49 = .ok (.aload_n 0, 1) := by decide +kernel
theorem dX7_goBack_50 : decode cX7_goBack 50 = .ok (.getfield 12, 3) := by decide +kernel
theorem dX7_goBack_53 : decode cX7_goBack 53 = .ok (.invokevirtual 156, 3) := by decide +kernel
theorem dX7_goBack_56 : decode cX7_goBack 56 = .ok (.ireturn, 1) := by decide +kernel
theorem dX7_undo_0 : decode cX7_undo 0 = .ok (.aload_n 0, 1) := by decide +kernel
theorem dX7_undo_1 : decode cX7_undo 1 = .ok (.getfield 19, 3) := by decide +kernel
theorem dX7_undo_4 : decode cX7_undo 4 = .ok (.invokevirtual 161, 3) := by decide +kernel
theorem dX7_undo_7 : decode cX7_undo 7 = .ok (.ifCond .ne 13, 3) := by decide +kernel
theorem dX7_undo_10 : decode cX7_undo 10 = .ok (.new 87, 3) := by decide +kernel
theorem dX7_undo_13 : decode cX7_undo 13 = .ok (.dup, 1) := by decide +kernel
theorem dX7_undo_14 : decode cX7_undo 14 = .ok (.ldc 164, 2) := by decide +kernel
theorem dX7_undo_16 : decode cX7_undo 16 = .ok (.invokespecial 91, 3) := by decide +kernel
theorem dX7_undo_19 : decode cX7_undo 19 = .ok (.athrow, 1) := by decide +kernel
theorem dX7_undo_20 : decode cX7_undo 20 = .ok (.aload_n 0, 1) := by decide +kernel
theorem dX7_undo_21 : decode cX7_undo 21 = .ok (.getfield 19, 3) := by decide +kernel
theorem dX7_undo_24 : decode cX7_undo 24 = .ok (.aload_n 0, 1) := by decide +kernel
theorem dX7_undo_25 : decode cX7_undo 25 = .ok (.getfield 12, 3) := by decide +kernel
theorem dX7_undo_28 : decode cX7_undo 28 = .ok (.invokevirtual 166, 3) := by decide +kernel
theorem dX7_undo_31 : decode cX7_undo 31 = .ok (.aload_n 0, 1) := by decide +kernel
theorem dX7_undo_32 : decode cX7_undo 32 = .ok (.getfield 19, 3) := by decide +kernel
theorem dX7_undo_35 : decode cX7_undo 35 = .ok (.invokevirtual 161, 3) := by decide +kernel
theorem dX7_undo_38 : decode cX7_undo 38 = .ok (.ireturn, 1) := by decide +kernel
theorem dX7_fileOf_0 : decode cX7_fileOf 0 = .ok (.aload_n 0, 1) := by decide +kernel
theorem dX7_fileOf_1 : decode cX7_fileOf 1 = .ok (.iload_n 1, 1) := by decide +kernel
theorem dX7_fileOf_2 : decode cX7_fileOf 2 = .ok (.invokevirtual 67, 3) := by decide +kernel
theorem dX7_fileOf_5 : decode cX7_fileOf 5 = .ok (.iload_n 2, 1) := by decide +kernel
theorem dX7_fileOf_6 : decode cX7_fileOf 6 = .ok (.iconst 0, 1) := by decide +kernel
theorem dX7_fileOf_7 : decode cX7_fileOf 7 = .ok (.bipush 6, 2) := by decide +kernel
theorem dX7_fileOf_9 : decode cX7_fileOf 9 = .ok (.invokestatic 55, 3) := by decide +kernel
theorem dX7_fileOf_12 : decode cX7_fileOf 12 = .ok (.aload_n 0, 1) := by decide +kernel
theorem dX7_fileOf_13 : decode cX7_fileOf 13 = .ok (.getfield 12, 3) := by decide +kernel
theorem dX7_fileOf_16 : decode cX7_fileOf 16 = .ok (.iload_n 1, 1) := by decide +kernel
theorem dX7_fileOf_17 : decode cX7_fileOf 17 = .ok (.iload_n 2, 1) := by decide +kernel
theorem dX7_fileOf_18 : decode cX7_fileOf 18 = .ok (.invokevirtual 169, 3) := by decide +kernel
theorem dX7_fileOf_21 : decode cX7_fileOf 21 = .ok (.ireturn, 1) := by decide +kernel
theorem dX7_place_0 : decode cX7_place 0 = .ok (.aload_n 0, 1) := by decide +kernel
theorem dX7_place_1 : decode cX7_place 1 = .ok (.iload_n 1, 1) := by decide +kernel
theorem dX7_place_2 : decode cX7_place 2 = .ok (.invokevirtual 67, 3) := by decide +kernel
theorem dX7_place_5 : decode cX7_place 5 = .ok (.iload_n 2, 1) := by decide +kernel
theorem dX7_place_6 : decode cX7_place 6 = .ok (.ifCond .lt 15, 3) := by decide +kernel
theorem dX7_place_9 : decode cX7_place 9 = .ok (.iload_n 2, 1) := by decide +kernel
theorem dX7_place_10 : decode cX7_place 10 = .ok (.aload_n 0, 1) := by decide +kernel
theorem dX7_place_11 : decode cX7_place 11 = .ok (.getfield 12, 3) := by decide +kernel
theorem dX7_place_14 : decode cX7_place 14 = .ok (.iload_n 1, 1) := by decide +kernel
theorem dX7_place_15 : decode cX7_place 15 = .ok (.invokevirtual 172, 3) := by decide +kernel
theorem dX7_place_18 : decode cX7_place 18 = .ok (.if_icmp .lt 13, 3) := by decide +kernel
theorem dX7_place_21 : decode cX7_place 21 = .ok (.new 175, 3) := by decide +kernel
theorem dX7_place_24 : decode cX7_place 24 = .ok (.dup, 1) := by decide +kernel
theorem dX7_place_25 : decode cX7_place 25 = .ok (.ldc 177, 2) := by decide +kernel
theorem dX7_place_27 : decode cX7_place 27 = .ok (.invokespecial 179, 3) := by decide +kernel
theorem dX7_place_30 : decode cX7_place 30 = .ok (.athrow, 1) := by decide +kernel
theorem dX7_place_31 : decode cX7_place 31 = .ok (.aload_n 0, 1) := by decide +kernel
theorem dX7_place_32 : decode cX7_place 32 = .ok (.getfield 12, 3) := by decide +kernel
theorem dX7_place_35 : decode cX7_place 35 = .ok (.iload_n 1, 1) := by decide +kernel
theorem dX7_place_36 : decode cX7_place 36 = .ok (.iload_n 2, 1) := by decide +kernel
theorem dX7_place_37 : decode cX7_place 37 = .ok (.invokevirtual 180, 3) := by decide +kernel
theorem dX7_place_40 : decode cX7_place 40 = .ok (.ireturn, 1) := by decide +kernel
theorem dX7_blockOf_0 : decode cX7_blockOf 0 = .ok (.iload_n 1, 1) := by decide +kernel
theorem dX7_blockOf_1 : decode cX7_blockOf 1 = .ok (.invokestatic 81, 3) := by decide +kernel
theorem dX7_blockOf_4 : decode cX7_blockOf 4 = .ok (.iload_n 2, 1) := by decide +kernel
theorem dX7_blockOf_5 : decode cX7_blockOf 5 = .ok (.iconst 0, 1) := by decide +kernel
theorem dX7_blockOf_6 : decode cX7_blockOf 6 = .ok (.iconst 4, 1) := by decide +kernel
theorem dX7_blockOf_7 : decode cX7_blockOf 7 = .ok (.invokestatic 55, 3) := by decide +kernel
theorem dX7_blockOf_10 : decode cX7_blockOf 10 = .ok (.aload_n 0, 1) := by decide +kernel
theorem dX7_blockOf_11 : decode cX7_blockOf 11 = .ok (.getfield 12, 3) := by decide +kernel
theorem dX7_blockOf_14 : decode cX7_blockOf 14 = .ok (.iload_n 1, 1) := by decide +kernel
theorem dX7_blockOf_15 : decode cX7_blockOf 15 = .ok (.iload_n 2, 1) := by decide +kernel
theorem dX7_blockOf_16 : decode cX7_blockOf 16 = .ok (.invokevirtual 183, 3) := by decide +kernel
theorem dX7_blockOf_19 : decode cX7_blockOf 19 = .ok (.ireturn, 1) := by decide +kernel
theorem dX7_count_0 : decode cX7_count 0 = .ok (.iload_n 1, 1) := by decide +kernel
theorem dX7_count_1 : decode cX7_count 1 = .ok (.iconst 0, 1) := by decide +kernel
theorem dX7_count_2 : decode cX7_count 2 = .ok (.bipush 11, 2) := by decide +kernel
theorem dX7_count_4 : decode cX7_count 4 = .ok (.invokestatic 55, 3) := by decide +kernel
theorem dX7_count_7 : decode cX7_count 7 = .ok (.iload_n 1, 1) := by decide +kernel
theorem dX7_count_8 : decode cX7_count 8 = .ok (.tableswitch 176 0 10 #[60, 68, 77, 86, 95, 104, 124, 144, 152, 160, 168], 60) := by decide +kernel
theorem dX7_count_68 : decode cX7_count 68 = .ok (.aload_n 0, 1) := by decide +kernel
theorem dX7_count_69 : decode cX7_count 69 = .ok (.getfield 12, 3) := by decide +kernel
theorem dX7_count_72 : decode cX7_count 72 = .ok (.invokevirtual 156, 3) := by decide +kernel
theorem dX7_count_75 : decode cX7_count 75 = .ok (.ireturn, 1) := by decide +kernel
theorem dX7_count_76 : decode cX7_count 76 = .ok (.aload_n 0, 1) := by decide +kernel
theorem dX7_count_77 : decode cX7_count 77 = .ok (.getfield 12, 3) := by decide +kernel
theorem dX7_count_80 : decode cX7_count 80 = .ok (.iconst 0, 1) := by decide +kernel
theorem dX7_count_81 : decode cX7_count 81 = .ok (.invokevirtual 108, 3) := by decide +kernel
theorem dX7_count_84 : decode cX7_count 84 = .ok (.ireturn, 1) := by decide +kernel
theorem dX7_count_85 : decode cX7_count 85 = .ok (.aload_n 0, 1) := by decide +kernel
theorem dX7_count_86 : decode cX7_count 86 = .ok (.getfield 12, 3) := by decide +kernel
theorem dX7_count_89 : decode cX7_count 89 = .ok (.iconst 1, 1) := by decide +kernel
theorem dX7_count_90 : decode cX7_count 90 = .ok (.invokevirtual 108, 3) := by decide +kernel
theorem dX7_count_93 : decode cX7_count 93 = .ok (.ireturn, 1) := by decide +kernel
theorem dX7_count_94 : decode cX7_count 94 = .ok (.aload_n 0, 1) := by decide +kernel
theorem dX7_count_95 : decode cX7_count 95 = .ok (.getfield 12, 3) := by decide +kernel
theorem dX7_count_98 : decode cX7_count 98 = .ok (.iconst 2, 1) := by decide +kernel
theorem dX7_count_99 : decode cX7_count 99 = .ok (.invokevirtual 108, 3) := by decide +kernel
theorem dX7_count_102 : decode cX7_count 102 = .ok (.ireturn, 1) := by decide +kernel
theorem dX7_count_103 : decode cX7_count 103 = .ok (.aload_n 0, 1) := by decide +kernel
theorem dX7_count_104 : decode cX7_count 104 = .ok (.getfield 12, 3) := by decide +kernel
theorem dX7_count_107 : decode cX7_count 107 = .ok (.iconst 3, 1) := by decide +kernel
theorem dX7_count_108 : decode cX7_count 108 = .ok (.invokevirtual 108, 3) := by decide +kernel
theorem dX7_count_111 : decode cX7_count 111 = .ok (.ireturn, 1) := by decide +kernel
theorem dX7_count_112 : decode cX7_count 112 = .ok (.bipush 16, 2) := by decide +kernel
theorem dX7_count_114 : decode cX7_count 114 = .ok (.aload_n 0, 1) := by decide +kernel
theorem dX7_count_115 : decode cX7_count 115 = .ok (.getfield 12, 3) := by decide +kernel
theorem dX7_count_118 : decode cX7_count 118 = .ok (.iconst 1, 1) := by decide +kernel
theorem dX7_count_119 : decode cX7_count 119 = .ok (.invokevirtual 108, 3) := by decide +kernel
theorem dX7_count_122 : decode cX7_count 122 = .ok (.imul, 1) := by decide +kernel
theorem dX7_count_123 : decode cX7_count 123 = .ok (.aload_n 0, 1) := by decide +kernel
theorem dX7_count_124 : decode cX7_count 124 = .ok (.getfield 12, 3) := by decide +kernel
theorem dX7_count_127 : decode cX7_count 127 = .ok (.invokevirtual 186, 3) := by decide +kernel
theorem dX7_count_130 : decode cX7_count 130 = .ok (.iadd, 1) := by decide +kernel
theorem dX7_count_131 : decode cX7_count 131 = .ok (.ireturn, 1) := by decide +kernel
theorem dX7_count_132 : decode cX7_count 132 = .ok (.bipush 16, 2) := by decide +kernel
theorem dX7_count_134 : decode cX7_count 134 = .ok (.aload_n 0, 1) := by decide +kernel
theorem dX7_count_135 : decode cX7_count 135 = .ok (.getfield 12, 3) := by decide +kernel
theorem dX7_count_138 : decode cX7_count 138 = .ok (.iconst 2, 1) := by decide +kernel
theorem dX7_count_139 : decode cX7_count 139 = .ok (.invokevirtual 108, 3) := by decide +kernel
theorem dX7_count_142 : decode cX7_count 142 = .ok (.imul, 1) := by decide +kernel
theorem dX7_count_143 : decode cX7_count 143 = .ok (.aload_n 0, 1) := by decide +kernel
theorem dX7_count_144 : decode cX7_count 144 = .ok (.getfield 12, 3) := by decide +kernel
theorem dX7_count_147 : decode cX7_count 147 = .ok (.invokevirtual 186, 3) := by decide +kernel
theorem dX7_count_150 : decode cX7_count 150 = .ok (.isub, 1) := by decide +kernel
theorem dX7_count_151 : decode cX7_count 151 = .ok (.ireturn, 1) := by decide +kernel
theorem dX7_count_152 : decode cX7_count 152 = .ok (.aload_n 0, 1) := by decide +kernel
theorem dX7_count_153 : decode cX7_count 153 = .ok (.getfield 12, 3) := by decide +kernel
theorem dX7_count_156 : decode cX7_count 156 = .ok (.invokevirtual 189, 3) := by decide +kernel
theorem dX7_count_159 : decode cX7_count 159 = .ok (.ireturn, 1) := by decide +kernel
theorem dX7_count_160 : decode cX7_count 160 = .ok (.aload_n 0, 1) := by decide +kernel
theorem dX7_count_161 : decode cX7_count 161 = .ok (.getfield 12, 3) := by decide +kernel
theorem dX7_count_164 : decode cX7_count 164 = .ok (.getfield 192, 3) := by decide +kernel
theorem dX7_count_167 : decode cX7_count 167 = .ok (.ireturn, 1) := by decide +kernel
theorem dX7_count_168 : decode cX7_count 168 = .ok (.aload_n 0, 1) := by decide +kernel
theorem dX7_count_169 : decode cX7_count 169 = .ok (.getfield 12, 3) := by decide +kernel
theorem dX7_count_172 : decode cX7_count 172 = .ok (.getfield 195, 3) := by decide +kernel
theorem dX7_count_175 : decode cX7_count 175 = .ok (.ireturn, 1) := by decide +kernel
theorem dX7_count_176 : decode cX7_count 176 = .ok (.aload_n 0, 1) := by decide +kernel
theorem dX7_count_177 : decode cX7_count 177 = .ok (.getfield 12, 3) := by decide +kernel
theorem dX7_count_180 : decode cX7_count 180 = .ok (.getfield 118, 3) := by decide +kernel
theorem dX7_count_183 : decode cX7_count 183 = .ok (.ireturn, 1) := by decide +kernel
theorem dX7_count_184 : decode cX7_count 184 = .ok (.aload_n 0, 1) := by decide +kernel
theorem dX7_count_185 : decode cX7_count 185 = .ok (.getfield 19, 3) := by decide +kernel
theorem dX7_count_188 : decode cX7_count 188 = .ok (.invokevirtual 161, 3) := by decide +kernel
theorem dX7_count_191 : decode cX7_count 191 = .ok (.ireturn, 1) := by decide +kernel
theorem dX7_ifPlaced_0 : decode cX7_ifPlaced 0 = .ok (.iload_n 1, 1) := by decide +kernel
theorem dX7_ifPlaced_1 : decode cX7_ifPlaced 1 = .ok (.iconst 1, 1) := by decide +kernel
theorem dX7_ifPlaced_2 : decode cX7_ifPlaced 2 = .ok (.bipush 15, 2) := by decide +kernel
theorem dX7_ifPlaced_4 : decode cX7_ifPlaced 4 = .ok (.invokestatic 55, 3) := by decide +kernel
theorem dX7_ifPlaced_7 : decode cX7_ifPlaced 7 = .ok (.aload_n 0, 1) := by decide +kernel
theorem dX7_ifPlaced_8 : decode cX7_ifPlaced 8 = .ok (.getfield 12, 3) := by decide +kernel
theorem dX7_ifPlaced_11 : decode cX7_ifPlaced 11 = .ok (.iload_n 1, 1) := by decide +kernel
theorem dX7_ifPlaced_12 : decode cX7_ifPlaced 12 = .ok (.invokevirtual 198, 3) := by decide +kernel
theorem dX7_ifPlaced_15 : decode cX7_ifPlaced 15 = .ok (.ireturn, 1) := by decide +kernel
theorem dX7_ifGrown_0 : decode cX7_ifGrown 0 = .ok (.aload_n 0, 1) := by decide +kernel
theorem dX7_ifGrown_1 : decode cX7_ifGrown 1 = .ok (.iload_n 1, 1) := by decide +kernel
theorem dX7_ifGrown_2 : decode cX7_ifGrown 2 = .ok (.invokevirtual 67, 3) := by decide +kernel
theorem dX7_ifGrown_5 : decode cX7_ifGrown 5 = .ok (.iload_n 2, 1) := by decide +kernel
theorem dX7_ifGrown_6 : decode cX7_ifGrown 6 = .ok (.iconst 1, 1) := by decide +kernel
theorem dX7_ifGrown_7 : decode cX7_ifGrown 7 = .ok (.sipush 200, 3) := by decide +kernel
theorem dX7_ifGrown_10 : decode cX7_ifGrown 10 = .ok (.invokestatic 55, 3) := by decide +kernel
theorem dX7_ifGrown_13 : decode cX7_ifGrown 13 = .ok (.aload_n 0, 1) := by decide +kernel
theorem dX7_ifGrown_14 : decode cX7_ifGrown 14 = .ok (.getfield 12, 3) := by decide +kernel
theorem dX7_ifGrown_17 : decode cX7_ifGrown 17 = .ok (.iload_n 1, 1) := by decide +kernel
theorem dX7_ifGrown_18 : decode cX7_ifGrown 18 = .ok (.iload_n 2, 1) := by decide +kernel
theorem dX7_ifGrown_19 : decode cX7_ifGrown 19 = .ok (.invokevirtual 201, 3) := by decide +kernel
theorem dX7_ifGrown_22 : decode cX7_ifGrown 22 = .ok (.ireturn, 1) := by decide +kernel
theorem dX7_greatest_0 : decode cX7_greatest 0 = .ok (.sipush 200, 3) := by decide +kernel
theorem dX7_greatest_3 : decode cX7_greatest 3 = .ok (.istore_n 1, 1) := by decide +kernel
theorem dX7_greatest_4 : decode cX7_greatest 4 = .ok (.iload_n 1, 1) := by decide +kernel
theorem dX7_greatest_5 : decode cX7_greatest 5 = .ok (.ifCond .lt 22, 3) := by decide +kernel
theorem dX7_greatest_8 : decode cX7_greatest 8 = .ok (.aload_n 0, 1) := by decide +kernel
theorem dX7_greatest_9 : decode cX7_greatest 9 = .ok (.getfield 12, 3) := by decide +kernel
theorem dX7_greatest_12 : decode cX7_greatest 12 = .ok (.iload_n 1, 1) := by decide +kernel
theorem dX7_greatest_13 : decode cX7_greatest 13 = .ok (.invokevirtual 204, 3) := by decide +kernel
theorem dX7_greatest_16 : decode cX7_greatest 16 = .ok (.ifCond .eq 5, 3) := by decide +kernel
theorem dX7_greatest_19 : decode cX7_greatest 19 = .ok (.iload_n 1, 1) := by decide +kernel
theorem dX7_greatest_20 : decode cX7_greatest 20 = .ok (.ireturn, 1) := by decide +kernel
theorem dX7_greatest_21 : decode cX7_greatest 21 = .ok (.iinc 1 (-1), 3) := by decide +kernel
theorem dX7_greatest_24 : decode cX7_greatest 24 = .ok (.goto (-20), 3) := by decide +kernel
theorem dX7_greatest_27 : decode cX7_greatest 27 = .ok (.iconst (-1), 1) := by decide +kernel
theorem dX7_greatest_28 : decode cX7_greatest 28 = .ok (.ireturn, 1) := by decide +kernel
theorem dX7_fewest_0 : decode cX7_fewest 0 = .ok (.iload_n 1, 1) := by decide +kernel
theorem dX7_fewest_1 : decode cX7_fewest 1 = .ok (.iconst 0, 1) := by decide +kernel
theorem dX7_fewest_2 : decode cX7_fewest 2 = .ok (.iconst 1, 1) := by decide +kernel
theorem dX7_fewest_3 : decode cX7_fewest 3 = .ok (.invokestatic 55, 3) := by decide +kernel
theorem dX7_fewest_6 : decode cX7_fewest 6 = .ok (.iload_n 1, 1) := by decide +kernel
theorem dX7_fewest_7 : decode cX7_fewest 7 = .ok (.ifCond .ne 17, 3) := by decide +kernel
theorem dX7_fewest_10 : decode cX7_fewest 10 = .ok (.aload_n 0, 1) := by decide +kernel
theorem dX7_fewest_11 : decode cX7_fewest 11 = .ok (.getfield 51, 3) := by decide +kernel
theorem dX7_fewest_14 : decode cX7_fewest 14 = .ok (.aload_n 0, 1) := by decide +kernel
theorem dX7_fewest_15 : decode cX7_fewest 15 = .ok (.getfield 12, 3) := by decide +kernel
theorem dX7_fewest_18 : decode cX7_fewest 18 = .ok (.invokevirtual 207, 3) := by decide +kernel
theorem dX7_fewest_21 : decode cX7_fewest 21 = .ok (.goto 14, 3) := by decide +kernel
theorem dX7_fewest_24 : decode cX7_fewest 24 = .ok (.aload_n 0, 1) := by decide +kernel
theorem dX7_fewest_25 : decode cX7_fewest 25 = .ok (.getfield 51, 3) := by decide +kernel
theorem dX7_fewest_28 : decode cX7_fewest 28 = .ok (.aload_n 0, 1) := by decide +kernel
theorem dX7_fewest_29 : decode cX7_fewest 29 = .ok (.getfield 12, 3) := by decide +kernel
theorem dX7_fewest_32 : decode cX7_fewest 32 = .ok (.invokevirtual 210, 3) := by decide +kernel
theorem dX7_fewest_35 : decode cX7_fewest 35 = .ok (.ireturn, 1) := by decide +kernel
theorem dX7_ifPacked_0 : decode cX7_ifPacked 0 = .ok (.aload_n 0, 1) := by decide +kernel
theorem dX7_ifPacked_1 : decode cX7_ifPacked 1 = .ok (.getfield 44, 3) := by decide +kernel
theorem dX7_ifPacked_4 : decode cX7_ifPacked 4 = .ok (.aload_n 0, 1) := by decide +kernel
theorem dX7_ifPacked_5 : decode cX7_ifPacked 5 = .ok (.getfield 12, 3) := by decide +kernel
theorem dX7_ifPacked_8 : decode cX7_ifPacked 8 = .ok (.invokevirtual 111, 3) := by decide +kernel
theorem dX7_ifPacked_11 : decode cX7_ifPacked 11 = .ok (.ireturn, 1) := by decide +kernel
theorem dX7_weakest_0 : decode cX7_weakest 0 = .ok (.iconst (-1), 1) := by decide +kernel
theorem dX7_weakest_1 : decode cX7_weakest 1 = .ok (.istore_n 1, 1) := by decide +kernel
theorem dX7_weakest_2 : decode cX7_weakest 2 = .ok (.iconst 0, 1) := by decide +kernel
theorem dX7_weakest_3 : decode cX7_weakest 3 = .ok (.istore_n 2, 1) := by decide +kernel
theorem dX7_weakest_4 : decode cX7_weakest 4 = .ok (.iconst 0, 1) := by decide +kernel
theorem dX7_weakest_5 : decode cX7_weakest 5 = .ok (.istore_n 3, 1) := by decide +kernel
theorem dX7_weakest_6 : decode cX7_weakest 6 = .ok (.iload_n 3, 1) := by decide +kernel
theorem dX7_weakest_7 : decode cX7_weakest 7 = .ok (.bipush 24, 2) := by decide +kernel
theorem dX7_weakest_9 : decode cX7_weakest 9 = .ok (.if_icmp .ge 46, 3) := by decide +kernel
theorem dX7_weakest_12 : decode cX7_weakest 12 = .ok (.aload_n 0, 1) := by decide +kernel
theorem dX7_weakest_13 : decode cX7_weakest 13 = .ok (.getfield 12, 3) := by decide +kernel
theorem dX7_weakest_16 : decode cX7_weakest 16 = .ok (.iload_n 3, 1) := by decide +kernel
theorem dX7_weakest_17 : decode cX7_weakest 17 = .ok (.invokevirtual 84, 3) := by decide +kernel
theorem dX7_weakest_20 : decode cX7_weakest 20 = .ok (.iconst 3, 1) := by decide +kernel
theorem dX7_weakest_21 : decode cX7_weakest 21 = .ok (.if_icmp .ne 7, 3) := by decide +kernel
theorem dX7_weakest_24 : decode cX7_weakest 24 = .ok (.iconst 0, 1) := by decide +kernel
theorem dX7_weakest_25 : decode cX7_weakest 25 = .ok (.goto 11, 3) := by decide +kernel
theorem dX7_weakest_28 : decode cX7_weakest 28 = .ok (.aload_n 0, 1) := by decide +kernel
theorem dX7_weakest_29 : decode cX7_weakest 29 = .ok (.getfield 12, 3) := by decide +kernel
theorem dX7_weakest_32 : decode cX7_weakest 32 = .ok (.iload_n 3, 1) := by decide +kernel
theorem dX7_weakest_33 : decode cX7_weakest 33 = .ok (.invokevirtual 213, 3) := by decide +kernel
theorem dX7_weakest_36 : decode cX7_weakest 36 = .ok (.istore 4, 2) := by decide +kernel
theorem dX7_weakest_38 : decode cX7_weakest 38 = .ok (.iload 4, 2) := by decide +kernel
theorem dX7_weakest_40 : decode cX7_weakest 40 = .ok (.iload_n 2, 1) := by decide +kernel
theorem dX7_weakest_41 : decode cX7_weakest 41 = .ok (.if_icmp .le 8, 3) := by decide +kernel
theorem dX7_weakest_44 : decode cX7_weakest 44 = .ok (.iload 4, 2) := by decide +kernel
theorem dX7_weakest_46 : decode cX7_weakest 46 = .ok (.istore_n 2, 1) := by decide +kernel
theorem dX7_weakest_47 : decode cX7_weakest 47 = .ok (.iload_n 3, 1) := by decide +kernel
theorem dX7_weakest_48 : decode cX7_weakest 48 = .ok (.istore_n 1, 1) := by decide +kernel
theorem dX7_weakest_49 : decode cX7_weakest 49 = .ok (.iinc 3 1, 3) := by decide +kernel
theorem dX7_weakest_52 : decode cX7_weakest 52 = .ok (.goto (-46), 3) := by decide +kernel
theorem dX7_weakest_55 : decode cX7_weakest 55 = .ok (.iload_n 1, 1) := by decide +kernel
theorem dX7_weakest_56 : decode cX7_weakest 56 = .ok (.ireturn, 1) := by decide +kernel
theorem dX7_usedShare_0 : decode cX7_usedShare 0 = .ok (.bipush 16, 2) := by decide +kernel
theorem dX7_usedShare_2 : decode cX7_usedShare 2 = .ok (.aload_n 0, 1) := by decide +kernel
theorem dX7_usedShare_3 : decode cX7_usedShare 3 = .ok (.getfield 12, 3) := by decide +kernel
theorem dX7_usedShare_6 : decode cX7_usedShare 6 = .ok (.iconst 1, 1) := by decide +kernel
theorem dX7_usedShare_7 : decode cX7_usedShare 7 = .ok (.invokevirtual 108, 3) := by decide +kernel
theorem dX7_usedShare_10 : decode cX7_usedShare 10 = .ok (.aload_n 0, 1) := by decide +kernel
theorem dX7_usedShare_11 : decode cX7_usedShare 11 = .ok (.getfield 12, 3) := by decide +kernel
theorem dX7_usedShare_14 : decode cX7_usedShare 14 = .ok (.iconst 2, 1) := by decide +kernel
theorem dX7_usedShare_15 : decode cX7_usedShare 15 = .ok (.invokevirtual 108, 3) := by decide +kernel
theorem dX7_usedShare_18 : decode cX7_usedShare 18 = .ok (.iadd, 1) := by decide +kernel
theorem dX7_usedShare_19 : decode cX7_usedShare 19 = .ok (.imul, 1) := by decide +kernel
theorem dX7_usedShare_20 : decode cX7_usedShare 20 = .ok (.istore_n 1, 1) := by decide +kernel
theorem dX7_usedShare_21 : decode cX7_usedShare 21 = .ok (.iload_n 1, 1) := by decide +kernel
theorem dX7_usedShare_22 : decode cX7_usedShare 22 = .ok (.ifCond .ne 7, 3) := by decide +kernel
theorem dX7_usedShare_25 : decode cX7_usedShare 25 = .ok (.dconst 1, 1) := by decide +kernel
theorem dX7_usedShare_26 : decode cX7_usedShare 26 = .ok (.goto 12, 3) := by decide +kernel
theorem dX7_usedShare_29 : decode cX7_usedShare 29 = .ok (.aload_n 0, 1) := by decide +kernel
theorem dX7_usedShare_30 : decode cX7_usedShare 30 = .ok (.iconst 5, 1) := by decide +kernel
theorem dX7_usedShare_31 : decode cX7_usedShare 31 = .ok (.invokevirtual 216, 3) := by decide +kernel
theorem dX7_usedShare_34 : decode cX7_usedShare 34 = .ok (.i2d, 1) := by decide +kernel
theorem dX7_usedShare_35 : decode cX7_usedShare 35 = .ok (.iload_n 1, 1) := by decide +kernel
theorem dX7_usedShare_36 : decode cX7_usedShare 36 = .ok (.i2d, 1) := by decide +kernel
theorem dX7_usedShare_37 : decode cX7_usedShare 37 = .ok (.ddiv, 1) := by decide +kernel
theorem dX7_usedShare_38 : decode cX7_usedShare 38 = .ok (.dreturn, 1) := by decide +kernel
theorem dX7_digest_0 : decode cX7_digest 0 = .ok (.ldc2_w 219, 3) := by decide +kernel
theorem dX7_digest_3 : decode cX7_digest 3 = .ok (.lstore_n 1, 1) := by decide +kernel
theorem dX7_digest_4 : decode cX7_digest 4 = .ok (.iconst 0, 1) := by decide +kernel
theorem dX7_digest_5 : decode cX7_digest 5 = .ok (.istore_n 3, 1) := by decide +kernel
theorem dX7_digest_6 : decode cX7_digest 6 = .ok (.iload_n 3, 1) := by decide +kernel
theorem dX7_digest_7 : decode cX7_digest 7 = .ok (.bipush 11, 2) := by decide +kernel
theorem dX7_digest_9 : decode cX7_digest 9 = .ok (.if_icmp .gt 20, 3) := by decide +kernel
theorem dX7_digest_12 : decode cX7_digest 12 = .ok (.lload_n 1, 1) := by decide +kernel
theorem dX7_digest_13 : decode cX7_digest 13 = .ok (.aload_n 0, 1) := by decide +kernel
theorem dX7_digest_14 : decode cX7_digest 14 = .ok (.iload_n 3, 1) := by decide +kernel
theorem dX7_digest_15 : decode cX7_digest 15 = .ok (.invokevirtual 216, 3) := by decide +kernel
theorem dX7_digest_18 : decode cX7_digest 18 = .ok (.i2l, 1) := by decide +kernel
theorem dX7_digest_19 : decode cX7_digest 19 = .ok (.invokestatic 221, 3) := by decide +kernel
theorem dX7_digest_22 : decode cX7_digest 22 = .ok (.lstore_n 1, 1) := by decide +kernel
theorem dX7_digest_23 : decode cX7_digest 23 = .ok (.iinc 3 1, 3) := by decide +kernel
theorem dX7_digest_26 : decode cX7_digest 26 = .ok (.goto (-20), 3) := by decide +kernel
theorem dX7_digest_29 : decode cX7_digest 29 = .ok (.iconst 0, 1) := by decide +kernel
theorem dX7_digest_30 : decode cX7_digest 30 = .ok (.istore_n 3, 1) := by decide +kernel
theorem dX7_digest_31 : decode cX7_digest 31 = .ok (.iload_n 3, 1) := by decide +kernel
theorem dX7_digest_32 : decode cX7_digest 32 = .ok (.bipush 10, 2) := by decide +kernel
theorem dX7_digest_34 : decode cX7_digest 34 = .ok (.if_icmp .ge 27, 3) := by decide +kernel
theorem dX7_digest_37 : decode cX7_digest 37 = .ok (.aload_n 0, 1) := by decide +kernel
theorem dX7_digest_38 : decode cX7_digest 38 = .ok (.getfield 12, 3) := by decide +kernel
theorem dX7_digest_41 : decode cX7_digest 41 = .ok (.iload_n 3, 1) := by decide +kernel
theorem dX7_digest_42 : decode cX7_digest 42 = .ok (.invokevirtual 225, 3) := by decide +kernel
theorem dX7_digest_45 : decode cX7_digest 45 = .ok (.ifCond .eq 10, 3) := by decide +kernel
theorem dX7_digest_48 : decode cX7_digest 48 = .ok (.aload_n 0, 1) := by decide +kernel
theorem dX7_digest_49 : decode cX7_digest 49 = .ok (.lload_n 1, 1) := by decide +kernel
theorem dX7_digest_50 : decode cX7_digest 50 = .ok (.iload_n 3, 1) := by decide +kernel
theorem dX7_digest_51 : decode cX7_digest 51 = .ok (.invokevirtual 228, 3) := by decide +kernel
theorem dX7_digest_54 : decode cX7_digest 54 = .ok (.lstore_n 1, 1) := by decide +kernel
theorem dX7_digest_55 : decode cX7_digest 55 = .ok (.iinc 3 1, 3) := by decide +kernel
theorem dX7_digest_58 : decode cX7_digest 58 = .ok (.goto (-27), 3) := by decide +kernel
theorem dX7_digest_61 : decode cX7_digest 61 = .ok (.iconst 0, 1) := by decide +kernel
theorem dX7_digest_62 : decode cX7_digest 62 = .ok (.istore_n 3, 1) := by decide +kernel
theorem dX7_digest_63 : decode cX7_digest 63 = .ok (.iload_n 3, 1) := by decide +kernel
theorem dX7_digest_64 : decode cX7_digest 64 = .ok (.bipush 24, 2) := by decide +kernel
theorem dX7_digest_66 : decode cX7_digest 66 = .ok (.if_icmp .ge 40, 3) := by decide +kernel
theorem dX7_digest_69 : decode cX7_digest 69 = .ok (.iconst 0, 1) := by decide +kernel
theorem dX7_digest_70 : decode cX7_digest 70 = .ok (.istore 4, 2) := by decide +kernel
theorem dX7_digest_72 : decode cX7_digest 72 = .ok (.iload 4, 2) := by decide +kernel
theorem dX7_digest_74 : decode cX7_digest 74 = .ok (.iconst 4, 1) := by decide +kernel
theorem dX7_digest_75 : decode cX7_digest 75 = .ok (.if_icmp .gt 25, 3) := by decide +kernel
theorem dX7_digest_78 : decode cX7_digest 78 = .ok (.lload_n 1, 1) := by decide +kernel
theorem dX7_digest_79 : decode cX7_digest 79 = .ok (.aload_n 0, 1) := by decide +kernel
theorem dX7_digest_80 : decode cX7_digest 80 = .ok (.getfield 12, 3) := by decide +kernel
theorem dX7_digest_83 : decode cX7_digest 83 = .ok (.iload_n 3, 1) := by decide +kernel
theorem dX7_digest_84 : decode cX7_digest 84 = .ok (.iload 4, 2) := by decide +kernel
theorem dX7_digest_86 : decode cX7_digest 86 = .ok (.invokevirtual 183, 3) := by decide +kernel
theorem dX7_digest_89 : decode cX7_digest 89 = .ok (.i2l, 1) := by decide +kernel
theorem dX7_digest_90 : decode cX7_digest 90 = .ok (.invokestatic 221, 3) := by decide +kernel
theorem dX7_digest_93 : decode cX7_digest 93 = .ok (.lstore_n 1, 1) := by decide +kernel
theorem dX7_digest_94 : decode cX7_digest 94 = .ok (.iinc 4 1, 3) := by decide +kernel
theorem dX7_digest_97 : decode cX7_digest 97 = .ok (.goto (-25), 3) := by decide +kernel
theorem dX7_digest_100 : decode cX7_digest 100 = .ok (.iinc 3 1, 3) := by decide +kernel
theorem dX7_digest_103 : decode cX7_digest 103 = .ok (.goto (-40), 3) := by decide +kernel
theorem dX7_digest_106 : decode cX7_digest 106 = .ok (.aload_n 0, 1) := by decide +kernel
theorem dX7_digest_107 : decode cX7_digest 107 = .ok (.aload_n 0, 1) := by decide +kernel
theorem dX7_digest_108 : decode cX7_digest 108 = .ok (.lload_n 1, 1) := by decide +kernel
theorem dX7_digest_109 : decode cX7_digest 109 = .ok (.invokevirtual 232, 3) := by decide +kernel
theorem dX7_digest_112 : decode cX7_digest 112 = .ok (.invokevirtual 236, 3) := by decide +kernel
theorem dX7_digest_115 : decode cX7_digest 115 = .ok (.lreturn, 1) := by decide +kernel
theorem dX7_mixFile_0 : decode cX7_mixFile 0 = .ok (.lload_n 1, 1) := by decide +kernel
theorem dX7_mixFile_1 : decode cX7_mixFile 1 = .ok (.iload_n 3, 1) := by decide +kernel
theorem dX7_mixFile_2 : decode cX7_mixFile 2 = .ok (.i2l, 1) := by decide +kernel
theorem dX7_mixFile_3 : decode cX7_mixFile 3 = .ok (.invokestatic 221, 3) := by decide +kernel
theorem dX7_mixFile_6 : decode cX7_mixFile 6 = .ok (.lstore 4, 2) := by decide +kernel
theorem dX7_mixFile_8 : decode cX7_mixFile 8 = .ok (.iconst 0, 1) := by decide +kernel
theorem dX7_mixFile_9 : decode cX7_mixFile 9 = .ok (.istore 6, 2) := by decide +kernel
theorem dX7_mixFile_11 : decode cX7_mixFile 11 = .ok (.iload 6, 2) := by decide +kernel
theorem dX7_mixFile_13 : decode cX7_mixFile 13 = .ok (.bipush 6, 2) := by decide +kernel
theorem dX7_mixFile_15 : decode cX7_mixFile 15 = .ok (.if_icmp .gt 27, 3) := by decide +kernel
theorem dX7_mixFile_18 : decode cX7_mixFile 18 = .ok (.lload 4, 2) := by decide +kernel
theorem dX7_mixFile_20 : decode cX7_mixFile 20 = .ok (.aload_n 0, 1) := by decide +kernel
theorem dX7_mixFile_21 : decode cX7_mixFile 21 = .ok (.getfield 12, 3) := by decide +kernel
theorem dX7_mixFile_24 : decode cX7_mixFile 24 = .ok (.iload_n 3, 1) := by decide +kernel
theorem dX7_mixFile_25 : decode cX7_mixFile 25 = .ok (.iload 6, 2) := by decide +kernel
theorem dX7_mixFile_27 : decode cX7_mixFile 27 = .ok (.invokevirtual 169, 3) := by decide +kernel
theorem dX7_mixFile_30 : decode cX7_mixFile 30 = .ok (.i2l, 1) := by decide +kernel
theorem dX7_mixFile_31 : decode cX7_mixFile 31 = .ok (.invokestatic 221, 3) := by decide +kernel
theorem dX7_mixFile_34 : decode cX7_mixFile 34 = .ok (.lstore 4, 2) := by decide +kernel
theorem dX7_mixFile_36 : decode cX7_mixFile 36 = .ok (.iinc 6 1, 3) := by decide +kernel
theorem dX7_mixFile_39 : decode cX7_mixFile 39 = .ok (.goto (-28), 3) := by decide +kernel
theorem dX7_mixFile_42 : decode cX7_mixFile 42 = .ok (.aload_n 0, 1) := by decide +kernel
theorem dX7_mixFile_43 : decode cX7_mixFile 43 = .ok (.getfield 12, 3) := by decide +kernel
theorem dX7_mixFile_46 : decode cX7_mixFile 46 = .ok (.iload_n 3, 1) := by decide +kernel
theorem dX7_mixFile_47 : decode cX7_mixFile 47 = .ok (.invokevirtual 172, 3) := by decide +kernel
theorem dX7_mixFile_50 : decode cX7_mixFile 50 = .ok (.istore 6, 2) := by decide +kernel
theorem dX7_mixFile_52 : decode cX7_mixFile 52 = .ok (.iload 6, 2) := by decide +kernel
theorem dX7_mixFile_54 : decode cX7_mixFile 54 = .ok (.ifCond .le 40, 3) := by decide +kernel
theorem dX7_mixFile_57 : decode cX7_mixFile 57 = .ok (.lload 4, 2) := by decide +kernel
theorem dX7_mixFile_59 : decode cX7_mixFile 59 = .ok (.aload_n 0, 1) := by decide +kernel
theorem dX7_mixFile_60 : decode cX7_mixFile 60 = .ok (.getfield 12, 3) := by decide +kernel
theorem dX7_mixFile_63 : decode cX7_mixFile 63 = .ok (.iload_n 3, 1) := by decide +kernel
theorem dX7_mixFile_64 : decode cX7_mixFile 64 = .ok (.iconst 0, 1) := by decide +kernel
theorem dX7_mixFile_65 : decode cX7_mixFile 65 = .ok (.invokevirtual 180, 3) := by decide +kernel
theorem dX7_mixFile_68 : decode cX7_mixFile 68 = .ok (.i2l, 1) := by decide +kernel
theorem dX7_mixFile_69 : decode cX7_mixFile 69 = .ok (.invokestatic 221, 3) := by decide +kernel
theorem dX7_mixFile_72 : decode cX7_mixFile 72 = .ok (.lstore 4, 2) := by decide +kernel
theorem dX7_mixFile_74 : decode cX7_mixFile 74 = .ok (.lload 4, 2) := by decide +kernel
theorem dX7_mixFile_76 : decode cX7_mixFile 76 = .ok (.aload_n 0, 1) := by decide +kernel
theorem dX7_mixFile_77 : decode cX7_mixFile 77 = .ok (.getfield 12, 3) := by decide +kernel
theorem dX7_mixFile_80 : decode cX7_mixFile 80 = .ok (.iload_n 3, 1) := by decide +kernel
theorem dX7_mixFile_81 : decode cX7_mixFile 81 = .ok (.iload 6, 2) := by decide +kernel
theorem dX7_mixFile_83 : decode cX7_mixFile 83 = .ok (.iconst 1, 1) := by decide +kernel
theorem dX7_mixFile_84 : decode cX7_mixFile 84 = .ok (.isub, 1) := by decide +kernel
theorem dX7_mixFile_85 : decode cX7_mixFile 85 = .ok (.invokevirtual 180, 3) := by decide +kernel
theorem dX7_mixFile_88 : decode cX7_mixFile 88 = .ok (.i2l, 1) := by decide +kernel
theorem dX7_mixFile_89 : decode cX7_mixFile 89 = .ok (.invokestatic 221, 3) := by decide +kernel
theorem dX7_mixFile_92 : decode cX7_mixFile 92 = .ok (.lstore 4, 2) := by decide +kernel
theorem dX7_mixFile_94 : decode cX7_mixFile 94 = .ok (.lload 4, 2) := by decide +kernel
theorem dX7_mixFile_96 : decode cX7_mixFile 96 = .ok (.aload_n 0, 1) := by decide +kernel
theorem dX7_mixFile_97 : decode cX7_mixFile 97 = .ok (.getfield 12, 3) := by decide +kernel
theorem dX7_mixFile_100 : decode cX7_mixFile 100 = .ok (.iload_n 3, 1) := by decide +kernel
theorem dX7_mixFile_101 : decode cX7_mixFile 101 = .ok (.iconst 1, 1) := by decide +kernel
theorem dX7_mixFile_102 : decode cX7_mixFile 102 = .ok (.invokevirtual 201, 3) := by decide +kernel
theorem dX7_mixFile_105 : decode cX7_mixFile 105 = .ok (.i2l, 1) := by decide +kernel
theorem dX7_mixFile_106 : decode cX7_mixFile 106 = .ok (.invokestatic 221, 3) := by decide +kernel
theorem dX7_mixFile_109 : decode cX7_mixFile 109 = .ok (.lstore 4, 2) := by decide +kernel
theorem dX7_mixFile_111 : decode cX7_mixFile 111 = .ok (.lload 4, 2) := by decide +kernel
theorem dX7_mixFile_113 : decode cX7_mixFile 113 = .ok (.aload_n 0, 1) := by decide +kernel
theorem dX7_mixFile_114 : decode cX7_mixFile 114 = .ok (.getfield 12, 3) := by decide +kernel
theorem dX7_mixFile_117 : decode cX7_mixFile 117 = .ok (.iload_n 3, 1) := by decide +kernel
theorem dX7_mixFile_118 : decode cX7_mixFile 118 = .ok (.bipush 16, 2) := by decide +kernel
theorem dX7_mixFile_120 : decode cX7_mixFile 120 = .ok (.invokevirtual 201, 3) := by decide +kernel
theorem dX7_mixFile_123 : decode cX7_mixFile 123 = .ok (.i2l, 1) := by decide +kernel
theorem dX7_mixFile_124 : decode cX7_mixFile 124 = .ok (.invokestatic 221, 3) := by decide +kernel
theorem dX7_mixFile_127 : decode cX7_mixFile 127 = .ok (.lreturn, 1) := by decide +kernel
theorem dX7_mixOutlook_0 : decode cX7_mixOutlook 0 = .ok (.lload_n 1, 1) := by decide +kernel
theorem dX7_mixOutlook_1 : decode cX7_mixOutlook 1 = .ok (.aload_n 0, 1) := by decide +kernel
theorem dX7_mixOutlook_2 : decode cX7_mixOutlook 2 = .ok (.getfield 12, 3) := by decide +kernel
theorem dX7_mixOutlook_5 : decode cX7_mixOutlook 5 = .ok (.iconst 1, 1) := by decide +kernel
theorem dX7_mixOutlook_6 : decode cX7_mixOutlook 6 = .ok (.invokevirtual 198, 3) := by decide +kernel
theorem dX7_mixOutlook_9 : decode cX7_mixOutlook 9 = .ok (.i2l, 1) := by decide +kernel
theorem dX7_mixOutlook_10 : decode cX7_mixOutlook 10 = .ok (.invokestatic 221, 3) := by decide +kernel
theorem dX7_mixOutlook_13 : decode cX7_mixOutlook 13 = .ok (.lstore_n 3, 1) := by decide +kernel
theorem dX7_mixOutlook_14 : decode cX7_mixOutlook 14 = .ok (.lload_n 3, 1) := by decide +kernel
theorem dX7_mixOutlook_15 : decode cX7_mixOutlook 15 = .ok (.aload_n 0, 1) := by decide +kernel
theorem dX7_mixOutlook_16 : decode cX7_mixOutlook 16 = .ok (.getfield 12, 3) := by decide +kernel
theorem dX7_mixOutlook_19 : decode cX7_mixOutlook 19 = .ok (.iconst 5, 1) := by decide +kernel
theorem dX7_mixOutlook_20 : decode cX7_mixOutlook 20 = .ok (.invokevirtual 198, 3) := by decide +kernel
theorem dX7_mixOutlook_23 : decode cX7_mixOutlook 23 = .ok (.i2l, 1) := by decide +kernel
theorem dX7_mixOutlook_24 : decode cX7_mixOutlook 24 = .ok (.invokestatic 221, 3) := by decide +kernel
theorem dX7_mixOutlook_27 : decode cX7_mixOutlook 27 = .ok (.lstore_n 3, 1) := by decide +kernel
theorem dX7_mixOutlook_28 : decode cX7_mixOutlook 28 = .ok (.lload_n 3, 1) := by decide +kernel
theorem dX7_mixOutlook_29 : decode cX7_mixOutlook 29 = .ok (.aload_n 0, 1) := by decide +kernel
theorem dX7_mixOutlook_30 : decode cX7_mixOutlook 30 = .ok (.getfield 12, 3) := by decide +kernel
theorem dX7_mixOutlook_33 : decode cX7_mixOutlook 33 = .ok (.bipush 15, 2) := by decide +kernel
theorem dX7_mixOutlook_35 : decode cX7_mixOutlook 35 = .ok (.invokevirtual 198, 3) := by decide +kernel
theorem dX7_mixOutlook_38 : decode cX7_mixOutlook 38 = .ok (.i2l, 1) := by decide +kernel
theorem dX7_mixOutlook_39 : decode cX7_mixOutlook 39 = .ok (.invokestatic 221, 3) := by decide +kernel
theorem dX7_mixOutlook_42 : decode cX7_mixOutlook 42 = .ok (.lstore_n 3, 1) := by decide +kernel
theorem dX7_mixOutlook_43 : decode cX7_mixOutlook 43 = .ok (.lload_n 3, 1) := by decide +kernel
theorem dX7_mixOutlook_44 : decode cX7_mixOutlook 44 = .ok (.aload_n 0, 1) := by decide +kernel
theorem dX7_mixOutlook_45 : decode cX7_mixOutlook 45 = .ok (.invokevirtual 239, 3) := by decide +kernel
theorem dX7_mixOutlook_48 : decode cX7_mixOutlook 48 = .ok (.i2l, 1) := by decide +kernel
theorem dX7_mixOutlook_49 : decode cX7_mixOutlook 49 = .ok (.invokestatic 221, 3) := by decide +kernel
theorem dX7_mixOutlook_52 : decode cX7_mixOutlook 52 = .ok (.lstore_n 3, 1) := by decide +kernel
theorem dX7_mixOutlook_53 : decode cX7_mixOutlook 53 = .ok (.lload_n 3, 1) := by decide +kernel
theorem dX7_mixOutlook_54 : decode cX7_mixOutlook 54 = .ok (.aload_n 0, 1) := by decide +kernel
theorem dX7_mixOutlook_55 : decode cX7_mixOutlook 55 = .ok (.iconst 0, 1) := by decide +kernel
theorem dX7_mixOutlook_56 : decode cX7_mixOutlook 56 = .ok (.invokevirtual 242, 3) := by decide +kernel
theorem dX7_mixOutlook_59 : decode cX7_mixOutlook 59 = .ok (.i2l, 1) := by decide +kernel
theorem dX7_mixOutlook_60 : decode cX7_mixOutlook 60 = .ok (.invokestatic 221, 3) := by decide +kernel
theorem dX7_mixOutlook_63 : decode cX7_mixOutlook 63 = .ok (.lstore_n 3, 1) := by decide +kernel
theorem dX7_mixOutlook_64 : decode cX7_mixOutlook 64 = .ok (.lload_n 3, 1) := by decide +kernel
theorem dX7_mixOutlook_65 : decode cX7_mixOutlook 65 = .ok (.aload_n 0, 1) := by decide +kernel
theorem dX7_mixOutlook_66 : decode cX7_mixOutlook 66 = .ok (.iconst 1, 1) := by decide +kernel
theorem dX7_mixOutlook_67 : decode cX7_mixOutlook 67 = .ok (.invokevirtual 242, 3) := by decide +kernel
theorem dX7_mixOutlook_70 : decode cX7_mixOutlook 70 = .ok (.i2l, 1) := by decide +kernel
theorem dX7_mixOutlook_71 : decode cX7_mixOutlook 71 = .ok (.invokestatic 221, 3) := by decide +kernel
theorem dX7_mixOutlook_74 : decode cX7_mixOutlook 74 = .ok (.lstore_n 3, 1) := by decide +kernel
theorem dX7_mixOutlook_75 : decode cX7_mixOutlook 75 = .ok (.lload_n 3, 1) := by decide +kernel
theorem dX7_mixOutlook_76 : decode cX7_mixOutlook 76 = .ok (.aload_n 0, 1) := by decide +kernel
theorem dX7_mixOutlook_77 : decode cX7_mixOutlook 77 = .ok (.invokevirtual 245, 3) := by decide +kernel
theorem dX7_mixOutlook_80 : decode cX7_mixOutlook 80 = .ok (.i2l, 1) := by decide +kernel
theorem dX7_mixOutlook_81 : decode cX7_mixOutlook 81 = .ok (.invokestatic 221, 3) := by decide +kernel
theorem dX7_mixOutlook_84 : decode cX7_mixOutlook 84 = .ok (.lstore_n 3, 1) := by decide +kernel
theorem dX7_mixOutlook_85 : decode cX7_mixOutlook 85 = .ok (.lload_n 3, 1) := by decide +kernel
theorem dX7_mixOutlook_86 : decode cX7_mixOutlook 86 = .ok (.aload_n 0, 1) := by decide +kernel
theorem dX7_mixOutlook_87 : decode cX7_mixOutlook 87 = .ok (.invokevirtual 248, 3) := by decide +kernel
theorem dX7_mixOutlook_90 : decode cX7_mixOutlook 90 = .ok (.i2l, 1) := by decide +kernel
theorem dX7_mixOutlook_91 : decode cX7_mixOutlook 91 = .ok (.invokestatic 221, 3) := by decide +kernel
theorem dX7_mixOutlook_94 : decode cX7_mixOutlook 94 = .ok (.lstore_n 3, 1) := by decide +kernel
theorem dX7_mixOutlook_95 : decode cX7_mixOutlook 95 = .ok (.lload_n 3, 1) := by decide +kernel
theorem dX7_mixOutlook_96 : decode cX7_mixOutlook 96 = .ok (.aload_n 0, 1) := by decide +kernel
theorem dX7_mixOutlook_97 : decode cX7_mixOutlook 97 = .ok (.invokevirtual 251, 3) := by decide +kernel
theorem dX7_mixOutlook_100 : decode cX7_mixOutlook 100 = .ok (.invokestatic 255, 3) := by decide +kernel
theorem dX7_mixOutlook_103 : decode cX7_mixOutlook 103 = .ok (.invokestatic 221, 3) := by decide +kernel
theorem dX7_mixOutlook_106 : decode cX7_mixOutlook 106 = .ok (.lreturn, 1) := by decide +kernel
theorem dX7_mixText_0 : decode cX7_mixText 0 = .ok (.lload_n 1, 1) := by decide +kernel
theorem dX7_mixText_1 : decode cX7_mixText 1 = .ok (.lstore_n 3, 1) := by decide +kernel
theorem dX7_mixText_2 : decode cX7_mixText 2 = .ok (.iconst 0, 1) := by decide +kernel
theorem dX7_mixText_3 : decode cX7_mixText 3 = .ok (.istore 5, 2) := by decide +kernel
theorem dX7_mixText_5 : decode cX7_mixText 5 = .ok (.iload 5, 2) := by decide +kernel
theorem dX7_mixText_7 : decode cX7_mixText 7 = .ok (.iconst 2, 1) := by decide +kernel
theorem dX7_mixText_8 : decode cX7_mixText 8 = .ok (.if_icmp .ge 29, 3) := by decide +kernel
theorem dX7_mixText_11 : decode cX7_mixText 11 = .ok (.lload_n 3, 1) := by decide +kernel
theorem dX7_mixText_12 : decode cX7_mixText 12 = .ok (.aload_n 0, 1) := by decide +kernel
theorem dX7_mixText_13 : decode cX7_mixText 13 = .ok (.getfield 23, 3) := by decide +kernel
theorem dX7_mixText_16 : decode cX7_mixText 16 = .ok (.iload 5, 2) := by decide +kernel
theorem dX7_mixText_18 : decode cX7_mixText 18 = .ok (.aaload, 1) := by decide +kernel
theorem dX7_mixText_19 : decode cX7_mixText 19 = .ok (.ifnonnull 7, 3) := by decide +kernel
theorem dX7_mixText_22 : decode cX7_mixText 22 = .ok (.lconst 0, 1) := by decide +kernel
theorem dX7_mixText_23 : decode cX7_mixText 23 = .ok (.goto 4, 3) := by decide +kernel
theorem dX7_mixText_26 : decode cX7_mixText 26 = .ok (.lconst 1, 1) := by decide +kernel
theorem dX7_mixText_27 : decode cX7_mixText 27 = .ok (.invokestatic 221, 3) := by decide +kernel
theorem dX7_mixText_30 : decode cX7_mixText 30 = .ok (.lstore_n 3, 1) := by decide +kernel
theorem dX7_mixText_31 : decode cX7_mixText 31 = .ok (.iinc 5 1, 3) := by decide +kernel
theorem dX7_mixText_34 : decode cX7_mixText 34 = .ok (.goto (-29), 3) := by decide +kernel
theorem dX7_mixText_37 : decode cX7_mixText 37 = .ok (.lload_n 3, 1) := by decide +kernel
theorem dX7_mixText_38 : decode cX7_mixText 38 = .ok (.aload_n 0, 1) := by decide +kernel
theorem dX7_mixText_39 : decode cX7_mixText 39 = .ok (.getfield 30, 3) := by decide +kernel
theorem dX7_mixText_42 : decode cX7_mixText 42 = .ok (.invokevirtual 131, 3) := by decide +kernel
theorem dX7_mixText_45 : decode cX7_mixText 45 = .ok (.i2l, 1) := by decide +kernel
theorem dX7_mixText_46 : decode cX7_mixText 46 = .ok (.invokestatic 221, 3) := by decide +kernel
theorem dX7_mixText_49 : decode cX7_mixText 49 = .ok (.lstore_n 3, 1) := by decide +kernel
theorem dX7_mixText_50 : decode cX7_mixText 50 = .ok (.iconst 0, 1) := by decide +kernel
theorem dX7_mixText_51 : decode cX7_mixText 51 = .ok (.istore 5, 2) := by decide +kernel
theorem dX7_mixText_53 : decode cX7_mixText 53 = .ok (.iload 5, 2) := by decide +kernel
theorem dX7_mixText_55 : decode cX7_mixText 55 = .ok (.aload_n 0, 1) := by decide +kernel
theorem dX7_mixText_56 : decode cX7_mixText 56 = .ok (.getfield 30, 3) := by decide +kernel
theorem dX7_mixText_59 : decode cX7_mixText 59 = .ok (.invokevirtual 131, 3) := by decide +kernel
theorem dX7_mixText_62 : decode cX7_mixText 62 = .ok (.if_icmp .ge 24, 3) := by decide +kernel
theorem dX7_mixText_65 : decode cX7_mixText 65 = .ok (.lload_n 3, 1) := by decide +kernel
theorem dX7_mixText_66 : decode cX7_mixText 66 = .ok (.aload_n 0, 1) := by decide +kernel
theorem dX7_mixText_67 : decode cX7_mixText 67 = .ok (.getfield 30, 3) := by decide +kernel
theorem dX7_mixText_70 : decode cX7_mixText 70 = .ok (.iload 5, 2) := by decide +kernel
theorem dX7_mixText_72 : decode cX7_mixText 72 = .ok (.invokevirtual 259, 3) := by decide +kernel
theorem dX7_mixText_75 : decode cX7_mixText 75 = .ok (.i2l, 1) := by decide +kernel
theorem dX7_mixText_76 : decode cX7_mixText 76 = .ok (.invokestatic 221, 3) := by decide +kernel
theorem dX7_mixText_79 : decode cX7_mixText 79 = .ok (.lstore_n 3, 1) := by decide +kernel
theorem dX7_mixText_80 : decode cX7_mixText 80 = .ok (.iinc 5 1, 3) := by decide +kernel
theorem dX7_mixText_83 : decode cX7_mixText 83 = .ok (.goto (-30), 3) := by decide +kernel
theorem dX7_mixText_86 : decode cX7_mixText 86 = .ok (.lload_n 3, 1) := by decide +kernel
theorem dX7_mixText_87 : decode cX7_mixText 87 = .ok (.lreturn, 1) := by decide +kernel
theorem dX7_mix_0 : decode cX7_mix 0 = .ok (.ldc2_w 262, 3) := by decide +kernel
theorem dX7_mix_3 : decode cX7_mix 3 = .ok (.lload_n 0, 1) := by decide +kernel
theorem dX7_mix_4 : decode cX7_mix 4 = .ok (.lmul, 1) := by decide +kernel
theorem dX7_mix_5 : decode cX7_mix 5 = .ok (.lload_n 2, 1) := by decide +kernel
theorem dX7_mix_6 : decode cX7_mix 6 = .ok (.ladd, 1) := by decide +kernel
theorem dX7_mix_7 : decode cX7_mix 7 = .ok (.lreturn, 1) := by decide +kernel
theorem dX7_bitsOf_0 : decode cX7_bitsOf 0 = .ok (.dload_n 0, 1) := by decide +kernel
theorem dX7_bitsOf_1 : decode cX7_bitsOf 1 = .ok (.dconst 0, 1) := by decide +kernel
theorem dX7_bitsOf_2 : decode cX7_bitsOf 2 = .ok (.dcmp .g, 1) := by decide +kernel
theorem dX7_bitsOf_3 : decode cX7_bitsOf 3 = .ok (.ifCond .gt 5, 3) := by decide +kernel
theorem dX7_bitsOf_6 : decode cX7_bitsOf 6 = .ok (.lconst 0, 1) := by decide +kernel
theorem dX7_bitsOf_7 : decode cX7_bitsOf 7 = .ok (.lreturn, 1) := by decide +kernel
theorem dX7_bitsOf_8 : decode cX7_bitsOf 8 = .ok (.dload_n 0, 1) := by decide +kernel
theorem dX7_bitsOf_9 : decode cX7_bitsOf 9 = .ok (.dstore_n 2, 1) := by decide +kernel
theorem dX7_bitsOf_10 : decode cX7_bitsOf 10 = .ok (.sipush 1023, 3) := by decide +kernel
theorem dX7_bitsOf_13 : decode cX7_bitsOf 13 = .ok (.istore 4, 2) := by decide +kernel
theorem dX7_bitsOf_15 : decode cX7_bitsOf 15 = .ok (.dload_n 2, 1) := by decide +kernel
theorem dX7_bitsOf_16 : decode cX7_bitsOf 16 = .ok (.dconst 1, 1) := by decide +kernel
theorem dX7_bitsOf_17 : decode cX7_bitsOf 17 = .ok (.dcmp .g, 1) := by decide +kernel
theorem dX7_bitsOf_18 : decode cX7_bitsOf 18 = .ok (.ifCond .ge 21, 3) := by decide +kernel
theorem dX7_bitsOf_21 : decode cX7_bitsOf 21 = .ok (.iload 4, 2) := by decide +kernel
theorem dX7_bitsOf_23 : decode cX7_bitsOf 23 = .ok (.iconst 1, 1) := by decide +kernel
theorem dX7_bitsOf_24 : decode cX7_bitsOf 24 = .ok (.if_icmp .le 15, 3) := by decide +kernel
theorem dX7_bitsOf_27 : decode cX7_bitsOf 27 = .ok (.dload_n 2, 1) := by decide +kernel
theorem dX7_bitsOf_28 : decode cX7_bitsOf 28 = .ok (.ldc2_w 264, 3) := by decide +kernel
theorem dX7_bitsOf_31 : decode cX7_bitsOf 31 = .ok (.dmul, 1) := by decide +kernel
theorem dX7_bitsOf_32 : decode cX7_bitsOf 32 = .ok (.dstore_n 2, 1) := by decide +kernel
theorem dX7_bitsOf_33 : decode cX7_bitsOf 33 = .ok (.iinc 4 (-1), 3) := by decide +kernel
theorem dX7_bitsOf_36 : decode cX7_bitsOf 36 = .ok (.goto (-21), 3) := by decide +kernel
theorem dX7_bitsOf_39 : decode cX7_bitsOf 39 = .ok (.iload 4, 2) := by decide +kernel
theorem dX7_bitsOf_41 : decode cX7_bitsOf 41 = .ok (.i2l, 1) := by decide +kernel
theorem dX7_bitsOf_42 : decode cX7_bitsOf 42 = .ok (.bipush 52, 2) := by decide +kernel
theorem dX7_bitsOf_44 : decode cX7_bitsOf 44 = .ok (.lshl, 1) := by decide +kernel
theorem dX7_bitsOf_45 : decode cX7_bitsOf 45 = .ok (.dload_n 2, 1) := by decide +kernel
theorem dX7_bitsOf_46 : decode cX7_bitsOf 46 = .ok (.dconst 1, 1) := by decide +kernel
theorem dX7_bitsOf_47 : decode cX7_bitsOf 47 = .ok (.dsub, 1) := by decide +kernel
theorem dX7_bitsOf_48 : decode cX7_bitsOf 48 = .ok (.ldc2_w 266, 3) := by decide +kernel
theorem dX7_bitsOf_51 : decode cX7_bitsOf 51 = .ok (.dmul, 1) := by decide +kernel
theorem dX7_bitsOf_52 : decode cX7_bitsOf 52 = .ok (.d2l, 1) := by decide +kernel
theorem dX7_bitsOf_53 : decode cX7_bitsOf 53 = .ok (.ladd, 1) := by decide +kernel
theorem dX7_bitsOf_54 : decode cX7_bitsOf 54 = .ok (.lreturn, 1) := by decide +kernel
theorem dX7_obeyAll_0 : decode cX7_obeyAll 0 = .ok (.iconst 0, 1) := by decide +kernel
theorem dX7_obeyAll_1 : decode cX7_obeyAll 1 = .ok (.istore_n 1, 1) := by decide +kernel
theorem dX7_obeyAll_2 : decode cX7_obeyAll 2 = .ok (.aload_n 0, 1) := by decide +kernel
theorem dX7_obeyAll_3 : decode cX7_obeyAll 3 = .ok (.getfield 37, 3) := by decide +kernel
theorem dX7_obeyAll_6 : decode cX7_obeyAll 6 = .ok (.invokevirtual 268, 3) := by decide +kernel
theorem dX7_obeyAll_9 : decode cX7_obeyAll 9 = .ok (.iconst 0, 1) := by decide +kernel
theorem dX7_obeyAll_10 : decode cX7_obeyAll 10 = .ok (.istore_n 2, 1) := by decide +kernel
theorem dX7_obeyAll_11 : decode cX7_obeyAll 11 = .ok (.iload_n 2, 1) := by decide +kernel
theorem dX7_obeyAll_12 : decode cX7_obeyAll 12 = .ok (.aload_n 0, 1) := by decide +kernel
theorem dX7_obeyAll_13 : decode cX7_obeyAll 13 = .ok (.getfield 30, 3) := by decide +kernel
theorem dX7_obeyAll_16 : decode cX7_obeyAll 16 = .ok (.invokevirtual 131, 3) := by decide +kernel
theorem dX7_obeyAll_19 : decode cX7_obeyAll 19 = .ok (.if_icmp .gt 50, 3) := by decide +kernel
theorem dX7_obeyAll_22 : decode cX7_obeyAll 22 = .ok (.aload_n 0, 1) := by decide +kernel
theorem dX7_obeyAll_23 : decode cX7_obeyAll 23 = .ok (.getfield 30, 3) := by decide +kernel
theorem dX7_obeyAll_26 : decode cX7_obeyAll 26 = .ok (.iload_n 2, 1) := by decide +kernel
theorem dX7_obeyAll_27 : decode cX7_obeyAll 27 = .ok (.invokevirtual 259, 3) := by decide +kernel
theorem dX7_obeyAll_30 : decode cX7_obeyAll 30 = .ok (.istore_n 3, 1) := by decide +kernel
theorem dX7_obeyAll_31 : decode cX7_obeyAll 31 = .ok (.iload_n 3, 1) := by decide +kernel
theorem dX7_obeyAll_32 : decode cX7_obeyAll 32 = .ok (.iconst (-1), 1) := by decide +kernel
theorem dX7_obeyAll_33 : decode cX7_obeyAll 33 = .ok (.if_icmp .eq 9, 3) := by decide +kernel
theorem dX7_obeyAll_36 : decode cX7_obeyAll 36 = .ok (.iload_n 3, 1) := by decide +kernel
theorem dX7_obeyAll_37 : decode cX7_obeyAll 37 = .ok (.bipush 59, 2) := by decide +kernel
theorem dX7_obeyAll_39 : decode cX7_obeyAll 39 = .ok (.if_icmp .ne 15, 3) := by decide +kernel
theorem dX7_obeyAll_42 : decode cX7_obeyAll 42 = .ok (.aload_n 0, 1) := by decide +kernel
theorem dX7_obeyAll_43 : decode cX7_obeyAll 43 = .ok (.invokevirtual 271, 3) := by decide +kernel
theorem dX7_obeyAll_46 : decode cX7_obeyAll 46 = .ok (.ifCond .ne 5, 3) := by decide +kernel
theorem dX7_obeyAll_49 : decode cX7_obeyAll 49 = .ok (.iload_n 1, 1) := by decide +kernel
theorem dX7_obeyAll_50 : decode cX7_obeyAll 50 = .ok (.ireturn, 1) := by decide +kernel
theorem dX7_obeyAll_51 : decode cX7_obeyAll 51 = .ok (.iinc 1 1, 3) := by decide +kernel
theorem dX7_obeyAll_54 : decode cX7_obeyAll 54 = .ok (.aload_n 0, 1) := by decide +kernel
theorem dX7_obeyAll_55 : decode cX7_obeyAll 55 = .ok (.getfield 37, 3) := by decide +kernel
theorem dX7_obeyAll_58 : decode cX7_obeyAll 58 = .ok (.iload_n 3, 1) := by decide +kernel
theorem dX7_obeyAll_59 : decode cX7_obeyAll 59 = .ok (.invokevirtual 274, 3) := by decide +kernel
theorem dX7_obeyAll_62 : decode cX7_obeyAll 62 = .ok (.pop, 1) := by decide +kernel
theorem dX7_obeyAll_63 : decode cX7_obeyAll 63 = .ok (.iinc 2 1, 3) := by decide +kernel
theorem dX7_obeyAll_66 : decode cX7_obeyAll 66 = .ok (.goto (-55), 3) := by decide +kernel
theorem dX7_obeyAll_69 : decode cX7_obeyAll 69 = .ok (.iload_n 1, 1) := by decide +kernel
theorem dX7_obeyAll_70 : decode cX7_obeyAll 70 = .ok (.ireturn, 1) := by decide +kernel
theorem dX7_obey_0 : decode cX7_obey 0 = .ok (.aload_n 0, 1) := by decide +kernel
theorem dX7_obey_1 : decode cX7_obey 1 = .ok (.getfield 37, 3) := by decide +kernel
theorem dX7_obey_4 : decode cX7_obey 4 = .ok (.getfield 277, 3) := by decide +kernel
theorem dX7_obey_7 : decode cX7_obey 7 = .ok (.bipush 43, 2) := by decide +kernel
theorem dX7_obey_9 : decode cX7_obey 9 = .ok (.if_icmp .ne 27, 3) := by decide +kernel
theorem dX7_obey_12 : decode cX7_obey 12 = .ok (.aload_n 0, 1) := by decide +kernel
theorem dX7_obey_13 : decode cX7_obey 13 = .ok (.getfield 12, 3) := by decide +kernel
theorem dX7_obey_16 : decode cX7_obey 16 = .ok (.aload_n 0, 1) := by decide +kernel
theorem dX7_obey_17 : decode cX7_obey 17 = .ok (.getfield 37, 3) := by decide +kernel
theorem dX7_obey_20 : decode cX7_obey 20 = .ok (.getfield 280, 3) := by decide +kernel
theorem dX7_obey_23 : decode cX7_obey 23 = .ok (.invokevirtual 63, 3) := by decide +kernel
theorem dX7_obey_26 : decode cX7_obey 26 = .ok (.iconst (-1), 1) := by decide +kernel
theorem dX7_obey_27 : decode cX7_obey 27 = .ok (.if_icmp .eq 7, 3) := by decide +kernel
theorem dX7_obey_30 : decode cX7_obey 30 = .ok (.iconst 1, 1) := by decide +kernel
theorem dX7_obey_31 : decode cX7_obey 31 = .ok (.goto 4, 3) := by decide +kernel
theorem dX7_obey_34 : decode cX7_obey 34 = .ok (.iconst 0, 1) := by decide +kernel
theorem dX7_obey_35 : decode cX7_obey 35 = .ok (.ireturn, 1) := by decide +kernel
theorem dX7_obey_36 : decode cX7_obey 36 = .ok (.aload_n 0, 1) := by decide +kernel
theorem dX7_obey_37 : decode cX7_obey 37 = .ok (.getfield 12, 3) := by decide +kernel
theorem dX7_obey_40 : decode cX7_obey 40 = .ok (.aload_n 0, 1) := by decide +kernel
theorem dX7_obey_41 : decode cX7_obey 41 = .ok (.getfield 37, 3) := by decide +kernel
theorem dX7_obey_44 : decode cX7_obey 44 = .ok (.getfield 283, 3) := by decide +kernel
theorem dX7_obey_47 : decode cX7_obey 47 = .ok (.invokevirtual 225, 3) := by decide +kernel
theorem dX7_obey_50 : decode cX7_obey 50 = .ok (.ifCond .ne 5, 3) := by decide +kernel
theorem dX7_obey_53 : decode cX7_obey 53 = .ok (.iconst 0, 1) := by decide +kernel
theorem dX7_obey_54 : decode cX7_obey 54 = .ok (.ireturn, 1) := by decide +kernel
theorem dX7_obey_55 : decode cX7_obey 55 = .ok (.aload_n 0, 1) := by decide +kernel
theorem dX7_obey_56 : decode cX7_obey 56 = .ok (.getfield 37, 3) := by decide +kernel
theorem dX7_obey_59 : decode cX7_obey 59 = .ok (.getfield 277, 3) := by decide +kernel
theorem dX7_obey_62 : decode cX7_obey 62 = .ok (.bipush 62, 2) := by decide +kernel
theorem dX7_obey_64 : decode cX7_obey 64 = .ok (.if_icmp .ne 34, 3) := by decide +kernel
theorem dX7_obey_67 : decode cX7_obey 67 = .ok (.aload_n 0, 1) := by decide +kernel
theorem dX7_obey_68 : decode cX7_obey 68 = .ok (.getfield 12, 3) := by decide +kernel
theorem dX7_obey_71 : decode cX7_obey 71 = .ok (.aload_n 0, 1) := by decide +kernel
theorem dX7_obey_72 : decode cX7_obey 72 = .ok (.getfield 37, 3) := by decide +kernel
theorem dX7_obey_75 : decode cX7_obey 75 = .ok (.getfield 283, 3) := by decide +kernel
theorem dX7_obey_78 : decode cX7_obey 78 = .ok (.aload_n 0, 1) := by decide +kernel
theorem dX7_obey_79 : decode cX7_obey 79 = .ok (.getfield 37, 3) := by decide +kernel
theorem dX7_obey_82 : decode cX7_obey 82 = .ok (.getfield 280, 3) := by decide +kernel
theorem dX7_obey_85 : decode cX7_obey 85 = .ok (.invokevirtual 71, 3) := by decide +kernel
theorem dX7_obey_88 : decode cX7_obey 88 = .ok (.iconst (-1), 1) := by decide +kernel
theorem dX7_obey_89 : decode cX7_obey 89 = .ok (.if_icmp .eq 7, 3) := by decide +kernel
theorem dX7_obey_92 : decode cX7_obey 92 = .ok (.iconst 1, 1) := by decide +kernel
theorem dX7_obey_93 : decode cX7_obey 93 = .ok (.goto 4, 3) := by decide +kernel
theorem dX7_obey_96 : decode cX7_obey 96 = .ok (.iconst 0, 1) := by decide +kernel
theorem dX7_obey_97 : decode cX7_obey 97 = .ok (.ireturn, 1) := by decide +kernel
theorem dX7_obey_98 : decode cX7_obey 98 = .ok (.aload_n 0, 1) := by decide +kernel
theorem dX7_obey_99 : decode cX7_obey 99 = .ok (.getfield 37, 3) := by decide +kernel
theorem dX7_obey_102 : decode cX7_obey 102 = .ok (.getfield 277, 3) := by decide +kernel
theorem dX7_obey_105 : decode cX7_obey 105 = .ok (.bipush 60, 2) := by decide +kernel
theorem dX7_obey_107 : decode cX7_obey 107 = .ok (.if_icmp .ne 34, 3) := by decide +kernel
theorem dX7_obey_110 : decode cX7_obey 110 = .ok (.aload_n 0, 1) := by decide +kernel
theorem dX7_obey_111 : decode cX7_obey 111 = .ok (.getfield 12, 3) := by decide +kernel
theorem dX7_obey_114 : decode cX7_obey 114 = .ok (.aload_n 0, 1) := by decide +kernel
theorem dX7_obey_115 : decode cX7_obey 115 = .ok (.getfield 37, 3) := by decide +kernel
theorem dX7_obey_118 : decode cX7_obey 118 = .ok (.getfield 283, 3) := by decide +kernel
theorem dX7_obey_121 : decode cX7_obey 121 = .ok (.aload_n 0, 1) := by decide +kernel
theorem dX7_obey_122 : decode cX7_obey 122 = .ok (.getfield 37, 3) := by decide +kernel
theorem dX7_obey_125 : decode cX7_obey 125 = .ok (.getfield 280, 3) := by decide +kernel
theorem dX7_obey_128 : decode cX7_obey 128 = .ok (.invokevirtual 75, 3) := by decide +kernel
theorem dX7_obey_131 : decode cX7_obey 131 = .ok (.iconst (-1), 1) := by decide +kernel
theorem dX7_obey_132 : decode cX7_obey 132 = .ok (.if_icmp .eq 7, 3) := by decide +kernel
theorem dX7_obey_135 : decode cX7_obey 135 = .ok (.iconst 1, 1) := by decide +kernel
theorem dX7_obey_136 : decode cX7_obey 136 = .ok (.goto 4, 3) := by decide +kernel
theorem dX7_obey_139 : decode cX7_obey 139 = .ok (.iconst 0, 1) := by decide +kernel
theorem dX7_obey_140 : decode cX7_obey 140 = .ok (.ireturn, 1) := by decide +kernel
theorem dX7_obey_141 : decode cX7_obey 141 = .ok (.aload_n 0, 1) := by decide +kernel
theorem dX7_obey_142 : decode cX7_obey 142 = .ok (.getfield 12, 3) := by decide +kernel
theorem dX7_obey_145 : decode cX7_obey 145 = .ok (.aload_n 0, 1) := by decide +kernel
theorem dX7_obey_146 : decode cX7_obey 146 = .ok (.getfield 37, 3) := by decide +kernel
theorem dX7_obey_149 : decode cX7_obey 149 = .ok (.getfield 283, 3) := by decide +kernel
theorem dX7_obey_152 : decode cX7_obey 152 = .ok (.invokevirtual 78, 3) := by decide +kernel
theorem dX7_obey_155 : decode cX7_obey 155 = .ok (.pop, 1) := by decide +kernel
theorem dX7_obey_156 : decode cX7_obey 156 = .ok (.iconst 1, 1) := by decide +kernel
theorem dX7_obey_157 : decode cX7_obey 157 = .ok (.ireturn, 1) := by decide +kernel
theorem dX7_checkFile_0 : decode cX7_checkFile 0 = .ok (.aload_n 0, 1) := by decide +kernel
theorem dX7_checkFile_1 : decode cX7_checkFile 1 = .ok (.getfield 12, 3) := by decide +kernel
theorem dX7_checkFile_4 : decode cX7_checkFile 4 = .ok (.iload_n 1, 1) := by decide +kernel
theorem dX7_checkFile_5 : decode cX7_checkFile 5 = .ok (.invokevirtual 225, 3) := by decide +kernel
theorem dX7_checkFile_8 : decode cX7_checkFile 8 = .ok (.ifCond .ne 14, 3) := by decide +kernel
theorem dX7_checkFile_11 : decode cX7_checkFile 11 = .ok (.new 175, 3) := by decide +kernel
theorem dX7_checkFile_14 : decode cX7_checkFile 14 = .ok (.dup, 1) := by decide +kernel
theorem dX7_checkFile_15 : decode cX7_checkFile 15 = .ok (.ldc_w 286, 3) := by decide +kernel
theorem dX7_checkFile_18 : decode cX7_checkFile 18 = .ok (.invokespecial 179, 3) := by decide +kernel
theorem dX7_checkFile_21 : decode cX7_checkFile 21 = .ok (.athrow, 1) := by decide +kernel
theorem dX7_checkFile_22 : decode cX7_checkFile 22 = .ok (.return_, 1) := by decide +kernel
theorem dX7_checkBlock_0 : decode cX7_checkBlock 0 = .ok (.iload_n 0, 1) := by decide +kernel
theorem dX7_checkBlock_1 : decode cX7_checkBlock 1 = .ok (.invokestatic 288, 3) := by decide +kernel
theorem dX7_checkBlock_4 : decode cX7_checkBlock 4 = .ok (.ifCond .ne 14, 3) := by decide +kernel
theorem dX7_checkBlock_7 : decode cX7_checkBlock 7 = .ok (.new 175, 3) := by decide +kernel
theorem dX7_checkBlock_10 : decode cX7_checkBlock 10 = .ok (.dup, 1) := by decide +kernel
theorem dX7_checkBlock_11 : decode cX7_checkBlock 11 = .ok (.ldc_w 291, 3) := by decide +kernel
theorem dX7_checkBlock_14 : decode cX7_checkBlock 14 = .ok (.invokespecial 179, 3) := by decide +kernel
theorem dX7_checkBlock_17 : decode cX7_checkBlock 17 = .ok (.athrow, 1) := by decide +kernel
theorem dX7_checkBlock_18 : decode cX7_checkBlock 18 = .ok (.return_, 1) := by decide +kernel
theorem dX7_checkArgument_0 : decode cX7_checkArgument 0 = .ok (.iload_n 0, 1) := by decide +kernel
theorem dX7_checkArgument_1 : decode cX7_checkArgument 1 = .ok (.iload_n 1, 1) := by decide +kernel
theorem dX7_checkArgument_2 : decode cX7_checkArgument 2 = .ok (.if_icmp .lt 8, 3) := by decide +kernel
theorem dX7_checkArgument_5 : decode cX7_checkArgument 5 = .ok (.iload_n 0, 1) := by decide +kernel
theorem dX7_checkArgument_6 : decode cX7_checkArgument 6 = .ok (.iload_n 2, 1) := by decide +kernel
theorem dX7_checkArgument_7 : decode cX7_checkArgument 7 = .ok (.if_icmp .le 14, 3) := by decide +kernel
theorem dX7_checkArgument_10 : decode cX7_checkArgument 10 = .ok (.new 145, 3) := by decide +kernel
theorem dX7_checkArgument_13 : decode cX7_checkArgument 13 = .ok (.dup, 1) := by decide +kernel
theorem dX7_checkArgument_14 : decode cX7_checkArgument 14 = .ok (.ldc_w 293, 3) := by decide +kernel
theorem dX7_checkArgument_17 : decode cX7_checkArgument 17 = .ok (.invokespecial 149, 3) := by decide +kernel
theorem dX7_checkArgument_20 : decode cX7_checkArgument 20 = .ok (.athrow, 1) := by decide +kernel
theorem dX7_checkArgument_21 : decode cX7_checkArgument 21 = .ok (.return_, 1) := by decide +kernel
theorem dX7_isBlock_0 : decode cX7_isBlock 0 = .ok (.iload_n 0, 1) := by decide +kernel
theorem dX7_isBlock_1 : decode cX7_isBlock 1 = .ok (.ifCond .lt 13, 3) := by decide +kernel
theorem dX7_isBlock_4 : decode cX7_isBlock 4 = .ok (.iload_n 0, 1) := by decide +kernel
theorem dX7_isBlock_5 : decode cX7_isBlock 5 = .ok (.bipush 24, 2) := by decide +kernel
theorem dX7_isBlock_7 : decode cX7_isBlock 7 = .ok (.if_icmp .ge 7, 3) := by decide +kernel
theorem dX7_isBlock_10 : decode cX7_isBlock 10 = .ok (.iconst 1, 1) := by decide +kernel
theorem dX7_isBlock_11 : decode cX7_isBlock 11 = .ok (.goto 4, 3) := by decide +kernel
theorem dX7_isBlock_14 : decode cX7_isBlock 14 = .ok (.iconst 0, 1) := by decide +kernel
theorem dX7_isBlock_15 : decode cX7_isBlock 15 = .ok (.ireturn, 1) := by decide +kernel
theorem dX8_init_0 : decode cX8_init 0 = .ok (.aload_n 0, 1) := by decide +kernel
theorem dX8_init_1 : decode cX8_init 1 = .ok (.invokespecial 1, 3) := by decide +kernel
theorem dX8_init_4 : decode cX8_init 4 = .ok (.aload_n 0, 1) := by decide +kernel
theorem dX8_init_5 : decode cX8_init 5 = .ok (.sipush 207, 3) := by decide +kernel
theorem dX8_init_8 : decode cX8_init 8 = .ok (.newarray .int, 2) := by decide +kernel
theorem dX8_init_10 : decode cX8_init 10 = .ok (.putfield 7, 3) := by decide +kernel
theorem dX8_init_13 : decode cX8_init 13 = .ok (.aload_n 0, 1) := by decide +kernel
theorem dX8_init_14 : decode cX8_init 14 = .ok (.sipush 1242, 3) := by decide +kernel
theorem dX8_init_17 : decode cX8_init 17 = .ok (.newarray .int, 2) := by decide +kernel
theorem dX8_init_19 : decode cX8_init 19 = .ok (.putfield 13, 3) := by decide +kernel
theorem dX8_init_22 : decode cX8_init 22 = .ok (.aload_n 0, 1) := by decide +kernel
theorem dX8_init_23 : decode cX8_init 23 = .ok (.sipush 414, 3) := by decide +kernel
theorem dX8_init_26 : decode cX8_init 26 = .ok (.newarray .int, 2) := by decide +kernel
theorem dX8_init_28 : decode cX8_init 28 = .ok (.putfield 16, 3) := by decide +kernel
theorem dX8_init_31 : decode cX8_init 31 = .ok (.aload_n 0, 1) := by decide +kernel
theorem dX8_init_32 : decode cX8_init 32 = .ok (.sipush 207, 3) := by decide +kernel
theorem dX8_init_35 : decode cX8_init 35 = .ok (.newarray .int, 2) := by decide +kernel
theorem dX8_init_37 : decode cX8_init 37 = .ok (.putfield 19, 3) := by decide +kernel
theorem dX8_init_40 : decode cX8_init 40 = .ok (.aload_n 0, 1) := by decide +kernel
theorem dX8_init_41 : decode cX8_init 41 = .ok (.iconst 2, 1) := by decide +kernel
theorem dX8_init_42 : decode cX8_init 42 = .ok (.newarray .boolean, 2) := by decide +kernel
theorem dX8_init_44 : decode cX8_init 44 = .ok (.putfield 22, 3) := by decide +kernel
theorem dX8_init_47 : decode cX8_init 47 = .ok (.aload_n 0, 1) := by decide +kernel
theorem dX8_init_48 : decode cX8_init 48 = .ok (.bipush 60, 2) := by decide +kernel
theorem dX8_init_50 : decode cX8_init 50 = .ok (.newarray .int, 2) := by decide +kernel
theorem dX8_init_52 : decode cX8_init 52 = .ok (.putfield 26, 3) := by decide +kernel
theorem dX8_init_55 : decode cX8_init 55 = .ok (.aload_n 0, 1) := by decide +kernel
theorem dX8_init_56 : decode cX8_init 56 = .ok (.iconst 2, 1) := by decide +kernel
theorem dX8_init_57 : decode cX8_init 57 = .ok (.newarray .int, 2) := by decide +kernel
theorem dX8_init_59 : decode cX8_init 59 = .ok (.putfield 29, 3) := by decide +kernel
theorem dX8_init_62 : decode cX8_init 62 = .ok (.aload_n 0, 1) := by decide +kernel
theorem dX8_init_63 : decode cX8_init 63 = .ok (.sipush 1024, 3) := by decide +kernel
theorem dX8_init_66 : decode cX8_init 66 = .ok (.newarray .int, 2) := by decide +kernel
theorem dX8_init_68 : decode cX8_init 68 = .ok (.putfield 32, 3) := by decide +kernel
theorem dX8_init_71 : decode cX8_init 71 = .ok (.aload_n 0, 1) := by decide +kernel
theorem dX8_init_72 : decode cX8_init 72 = .ok (.bipush 10, 2) := by decide +kernel
theorem dX8_init_74 : decode cX8_init 74 = .ok (.newarray .int, 2) := by decide +kernel
theorem dX8_init_76 : decode cX8_init 76 = .ok (.putfield 35, 3) := by decide +kernel
theorem dX8_init_79 : decode cX8_init 79 = .ok (.aload_n 0, 1) := by decide +kernel
theorem dX8_init_80 : decode cX8_init 80 = .ok (.bipush 24, 2) := by decide +kernel
theorem dX8_init_82 : decode cX8_init 82 = .ok (.newarray .int, 2) := by decide +kernel
theorem dX8_init_84 : decode cX8_init 84 = .ok (.putfield 38, 3) := by decide +kernel
theorem dX8_init_87 : decode cX8_init 87 = .ok (.return_, 1) := by decide +kernel
theorem dX8_thrown_0 : decode cX8_thrown 0 = .ok (.aload_n 0, 1) := by decide +kernel
theorem dX8_thrown_1 : decode cX8_thrown 1 = .ok (.getfield 41, 3) := by decide +kernel
theorem dX8_thrown_4 : decode cX8_thrown 4 = .ok (.ireturn, 1) := by decide +kernel
theorem dX8_fails_0 : decode cX8_fails 0 = .ok (.aload_n 0, 1) := by decide +kernel
theorem dX8_fails_1 : decode cX8_fails 1 = .ok (.iload_n 1, 1) := by decide +kernel
theorem dX8_fails_2 : decode cX8_fails 2 = .ok (.putfield 41, 3) := by decide +kernel
theorem dX8_fails_5 : decode cX8_fails 5 = .ok (.iconst 0, 1) := by decide +kernel
theorem dX8_fails_6 : decode cX8_fails 6 = .ok (.ireturn, 1) := by decide +kernel
theorem dX8_in_0 : decode cX8_in 0 = .ok (.iload_n 0, 1) := by decide +kernel
theorem dX8_in_1 : decode cX8_in 1 = .ok (.iload_n 1, 1) := by decide +kernel
theorem dX8_in_2 : decode cX8_in 2 = .ok (.if_icmp .lt 12, 3) := by decide +kernel
theorem dX8_in_5 : decode cX8_in 5 = .ok (.iload_n 0, 1) := by decide +kernel
theorem dX8_in_6 : decode cX8_in 6 = .ok (.iload_n 2, 1) := by decide +kernel
theorem dX8_in_7 : decode cX8_in 7 = .ok (.if_icmp .gt 7, 3) := by decide +kernel
theorem dX8_in_10 : decode cX8_in 10 = .ok (.iconst 1, 1) := by decide +kernel
theorem dX8_in_11 : decode cX8_in 11 = .ok (.goto 4, 3) := by decide +kernel
theorem dX8_in_14 : decode cX8_in 14 = .ok (.iconst 0, 1) := by decide +kernel
theorem dX8_in_15 : decode cX8_in 15 = .ok (.ireturn, 1) := by decide +kernel
theorem dX8_of_0 : decode cX8_of 0 = .ok (.aload_n 0, 1) := by decide +kernel
theorem dX8_of_1 : decode cX8_of 1 = .ok (.getfield 7, 3) := by decide +kernel
theorem dX8_of_4 : decode cX8_of 4 = .ok (.bipush 27, 2) := by decide +kernel
theorem dX8_of_6 : decode cX8_of 6 = .ok (.bipush 18, 2) := by decide +kernel
theorem dX8_of_8 : decode cX8_of 8 = .ok (.iload_n 1, 1) := by decide +kernel
theorem dX8_of_9 : decode cX8_of 9 = .ok (.imul, 1) := by decide +kernel
theorem dX8_of_10 : decode cX8_of 10 = .ok (.iadd, 1) := by decide +kernel
theorem dX8_of_11 : decode cX8_of 11 = .ok (.iload_n 2, 1) := by decide +kernel
theorem dX8_of_12 : decode cX8_of 12 = .ok (.iadd, 1) := by decide +kernel
theorem dX8_of_13 : decode cX8_of 13 = .ok (.iaload, 1) := by decide +kernel
theorem dX8_of_14 : decode cX8_of 14 = .ok (.ireturn, 1) := by decide +kernel
theorem dX8_lay_0 : decode cX8_lay 0 = .ok (.aload_n 0, 1) := by decide +kernel
theorem dX8_lay_1 : decode cX8_lay 1 = .ok (.getfield 7, 3) := by decide +kernel
theorem dX8_lay_4 : decode cX8_lay 4 = .ok (.bipush 27, 2) := by decide +kernel
theorem dX8_lay_6 : decode cX8_lay 6 = .ok (.bipush 18, 2) := by decide +kernel
theorem dX8_lay_8 : decode cX8_lay 8 = .ok (.iload_n 1, 1) := by decide +kernel
theorem dX8_lay_9 : decode cX8_lay 9 = .ok (.imul, 1) := by decide +kernel
theorem dX8_lay_10 : decode cX8_lay 10 = .ok (.iadd, 1) := by decide +kernel
theorem dX8_lay_11 : decode cX8_lay 11 = .ok (.iload_n 2, 1) := by decide +kernel
theorem dX8_lay_12 : decode cX8_lay 12 = .ok (.iadd, 1) := by decide +kernel
theorem dX8_lay_13 : decode cX8_lay 13 = .ok (.iload_n 3, 1) := by decide +kernel
theorem dX8_lay_14 : decode cX8_lay 14 = .ok (.iastore, 1) := by decide +kernel
theorem dX8_lay_15 : decode cX8_lay 15 = .ok (.return_, 1) := by decide +kernel
theorem dX8_isFile_0 : decode cX8_isFile 0 = .ok (.iload_n 1, 1) := by decide +kernel
theorem dX8_isFile_1 : decode cX8_isFile 1 = .ok (.iconst 0, 1) := by decide +kernel
theorem dX8_isFile_2 : decode cX8_isFile 2 = .ok (.bipush 9, 2) := by decide +kernel
theorem dX8_isFile_4 : decode cX8_isFile 4 = .ok (.invokestatic 45, 3) := by decide +kernel
theorem dX8_isFile_7 : decode cX8_isFile 7 = .ok (.ifCond .eq 17, 3) := by decide +kernel
theorem dX8_isFile_10 : decode cX8_isFile 10 = .ok (.aload_n 0, 1) := by decide +kernel
theorem dX8_isFile_11 : decode cX8_isFile 11 = .ok (.iload_n 1, 1) := by decide +kernel
theorem dX8_isFile_12 : decode cX8_isFile 12 = .ok (.iconst 0, 1) := by decide +kernel
theorem dX8_isFile_13 : decode cX8_isFile 13 = .ok (.invokevirtual 49, 3) := by decide +kernel
theorem dX8_isFile_16 : decode cX8_isFile 16 = .ok (.iconst 1, 1) := by decide +kernel
theorem dX8_isFile_17 : decode cX8_isFile 17 = .ok (.if_icmp .ne 7, 3) := by decide +kernel
theorem dX8_isFile_20 : decode cX8_isFile 20 = .ok (.iconst 1, 1) := by decide +kernel
theorem dX8_isFile_21 : decode cX8_isFile 21 = .ok (.goto 4, 3) := by decide +kernel
theorem dX8_isFile_24 : decode cX8_isFile 24 = .ok (.iconst 0, 1) := by decide +kernel
theorem dX8_isFile_25 : decode cX8_isFile 25 = .ok (.ireturn, 1) := by decide +kernel
theorem dX8_tailOf_0 : decode cX8_tailOf 0 = .ok (.aload_n 0, 1) := by decide +kernel
theorem dX8_tailOf_1 : decode cX8_tailOf 1 = .ok (.iload_n 1, 1) := by decide +kernel
theorem dX8_tailOf_2 : decode cX8_tailOf 2 = .ok (.iconst 1, 1) := by decide +kernel
theorem dX8_tailOf_3 : decode cX8_tailOf 3 = .ok (.invokevirtual 49, 3) := by decide +kernel
theorem dX8_tailOf_6 : decode cX8_tailOf 6 = .ok (.bipush 16, 2) := by decide +kernel
theorem dX8_tailOf_8 : decode cX8_tailOf 8 = .ok (.irem, 1) := by decide +kernel
theorem dX8_tailOf_9 : decode cX8_tailOf 9 = .ok (.ireturn, 1) := by decide +kernel
theorem dX8_wholeOf_0 : decode cX8_wholeOf 0 = .ok (.aload_n 0, 1) := by decide +kernel
theorem dX8_wholeOf_1 : decode cX8_wholeOf 1 = .ok (.iload_n 1, 1) := by decide +kernel
theorem dX8_wholeOf_2 : decode cX8_wholeOf 2 = .ok (.iconst 1, 1) := by decide +kernel
theorem dX8_wholeOf_3 : decode cX8_wholeOf 3 = .ok (.invokevirtual 49, 3) := by decide +kernel
theorem dX8_wholeOf_6 : decode cX8_wholeOf 6 = .ok (.bipush 16, 2) := by decide +kernel
theorem dX8_wholeOf_8 : decode cX8_wholeOf 8 = .ok (.idiv, 1) := by decide +kernel
theorem dX8_wholeOf_9 : decode cX8_wholeOf 9 = .ok (.ireturn, 1) := by decide +kernel
theorem dX8_files_0 : decode cX8_files 0 = .ok (.iconst 0, 1) := by decide +kernel
theorem dX8_files_1 : decode cX8_files 1 = .ok (.istore_n 1, 1) := by decide +kernel
theorem dX8_files_2 : decode cX8_files 2 = .ok (.iconst 0, 1) := by decide +kernel
theorem dX8_files_3 : decode cX8_files 3 = .ok (.istore_n 2, 1) := by decide +kernel
theorem dX8_files_4 : decode cX8_files 4 = .ok (.iload_n 2, 1) := by decide +kernel
theorem dX8_files_5 : decode cX8_files 5 = .ok (.bipush 10, 2) := by decide +kernel
theorem dX8_files_7 : decode cX8_files 7 = .ok (.if_icmp .ge 18, 3) := by decide +kernel
theorem dX8_files_10 : decode cX8_files 10 = .ok (.iload_n 1, 1) := by decide +kernel
theorem dX8_files_11 : decode cX8_files 11 = .ok (.aload_n 0, 1) := by decide +kernel
theorem dX8_files_12 : decode cX8_files 12 = .ok (.iload_n 2, 1) := by decide +kernel
theorem dX8_files_13 : decode cX8_files 13 = .ok (.iconst 0, 1) := by decide +kernel
theorem dX8_files_14 : decode cX8_files 14 = .ok (.invokevirtual 49, 3) := by decide +kernel
theorem dX8_files_17 : decode cX8_files 17 = .ok (.iadd, 1) := by decide +kernel
theorem dX8_files_18 : decode cX8_files 18 = .ok (.istore_n 1, 1) := by decide +kernel
theorem dX8_files_19 : decode cX8_files 19 = .ok (.iinc 2 1, 3) := by decide +kernel
theorem dX8_files_22 : decode cX8_files 22 = .ok (.goto (-18), 3) := by decide +kernel
theorem dX8_files_25 : decode cX8_files 25 = .ok (.iload_n 1, 1) := by decide +kernel
theorem dX8_files_26 : decode cX8_files 26 = .ok (.ireturn, 1) := by decide +kernel
theorem dX8_blocksThat_0 : decode cX8_blocksThat 0 = .ok (.iconst 0, 1) := by decide +kernel
theorem dX8_blocksThat_1 : decode cX8_blocksThat 1 = .ok (.istore_n 2, 1) := by decide +kernel
theorem dX8_blocksThat_2 : decode cX8_blocksThat 2 = .ok (.iconst 0, 1) := by decide +kernel
theorem dX8_blocksThat_3 : decode cX8_blocksThat 3 = .ok (.istore_n 3, 1) := by decide +kernel
theorem dX8_blocksThat_4 : decode cX8_blocksThat 4 = .ok (.iload_n 3, 1) := by decide +kernel
theorem dX8_blocksThat_5 : decode cX8_blocksThat 5 = .ok (.bipush 24, 2) := by decide +kernel
theorem dX8_blocksThat_7 : decode cX8_blocksThat 7 = .ok (.if_icmp .ge 29, 3) := by decide +kernel
theorem dX8_blocksThat_10 : decode cX8_blocksThat 10 = .ok (.iload_n 2, 1) := by decide +kernel
theorem dX8_blocksThat_11 : decode cX8_blocksThat 11 = .ok (.aload_n 0, 1) := by decide +kernel
theorem dX8_blocksThat_12 : decode cX8_blocksThat 12 = .ok (.getfield 7, 3) := by decide +kernel
theorem dX8_blocksThat_15 : decode cX8_blocksThat 15 = .ok (.iconst 3, 1) := by decide +kernel
theorem dX8_blocksThat_16 : decode cX8_blocksThat 16 = .ok (.iload_n 3, 1) := by decide +kernel
theorem dX8_blocksThat_17 : decode cX8_blocksThat 17 = .ok (.iadd, 1) := by decide +kernel
theorem dX8_blocksThat_18 : decode cX8_blocksThat 18 = .ok (.iaload, 1) := by decide +kernel
theorem dX8_blocksThat_19 : decode cX8_blocksThat 19 = .ok (.iload_n 1, 1) := by decide +kernel
theorem dX8_blocksThat_20 : decode cX8_blocksThat 20 = .ok (.if_icmp .ne 7, 3) := by decide +kernel
theorem dX8_blocksThat_23 : decode cX8_blocksThat 23 = .ok (.iconst 1, 1) := by decide +kernel
theorem dX8_blocksThat_24 : decode cX8_blocksThat 24 = .ok (.goto 4, 3) := by decide +kernel
theorem dX8_blocksThat_27 : decode cX8_blocksThat 27 = .ok (.iconst 0, 1) := by decide +kernel
theorem dX8_blocksThat_28 : decode cX8_blocksThat 28 = .ok (.iadd, 1) := by decide +kernel
theorem dX8_blocksThat_29 : decode cX8_blocksThat 29 = .ok (.istore_n 2, 1) := by decide +kernel
theorem dX8_blocksThat_30 : decode cX8_blocksThat 30 = .ok (.iinc 3 1, 3) := by decide +kernel
theorem dX8_blocksThat_33 : decode cX8_blocksThat 33 = .ok (.goto (-29), 3) := by decide +kernel
theorem dX8_blocksThat_36 : decode cX8_blocksThat 36 = .ok (.iload_n 2, 1) := by decide +kernel
theorem dX8_blocksThat_37 : decode cX8_blocksThat 37 = .ok (.ireturn, 1) := by decide +kernel
theorem dX8_lowestFree_0 : decode cX8_lowestFree 0 = .ok (.iconst 0, 1) := by decide +kernel
theorem dX8_lowestFree_1 : decode cX8_lowestFree 1 = .ok (.istore_n 1, 1) := by decide +kernel
theorem dX8_lowestFree_2 : decode cX8_lowestFree 2 = .ok (.iload_n 1, 1) := by decide +kernel
theorem dX8_lowestFree_3 : decode cX8_lowestFree 3 = .ok (.bipush 24, 2) := by decide +kernel
theorem dX8_lowestFree_5 : decode cX8_lowestFree 5 = .ok (.if_icmp .ge 22, 3) := by decide +kernel
theorem dX8_lowestFree_8 : decode cX8_lowestFree 8 = .ok (.aload_n 0, 1) := by decide +kernel
theorem dX8_lowestFree_9 : decode cX8_lowestFree 9 = .ok (.getfield 7, 3) := by decide +kernel
theorem dX8_lowestFree_12 : decode cX8_lowestFree 12 = .ok (.iconst 3, 1) := by decide +kernel
theorem dX8_lowestFree_13 : decode cX8_lowestFree 13 = .ok (.iload_n 1, 1) := by decide +kernel
theorem dX8_lowestFree_14 : decode cX8_lowestFree 14 = .ok (.iadd, 1) := by decide +kernel
theorem dX8_lowestFree_15 : decode cX8_lowestFree 15 = .ok (.iaload, 1) := by decide +kernel
theorem dX8_lowestFree_16 : decode cX8_lowestFree 16 = .ok (.ifCond .ne 5, 3) := by decide +kernel
theorem dX8_lowestFree_19 : decode cX8_lowestFree 19 = .ok (.iload_n 1, 1) := by decide +kernel
theorem dX8_lowestFree_20 : decode cX8_lowestFree 20 = .ok (.ireturn, 1) := by decide +kernel
theorem dX8_lowestFree_21 : decode cX8_lowestFree 21 = .ok (.iinc 1 1, 3) := by decide +kernel
theorem dX8_lowestFree_24 : decode cX8_lowestFree 24 = .ok (.goto (-22), 3) := by decide +kernel
theorem dX8_lowestFree_27 : decode cX8_lowestFree 27 = .ok (.iconst (-1), 1) := by decide +kernel
theorem dX8_lowestFree_28 : decode cX8_lowestFree 28 = .ok (.ireturn, 1) := by decide +kernel
theorem dX8_hasTailIn_0 : decode cX8_hasTailIn 0 = .ok (.aload_n 0, 1) := by decide +kernel
theorem dX8_hasTailIn_1 : decode cX8_hasTailIn 1 = .ok (.iload_n 1, 1) := by decide +kernel
theorem dX8_hasTailIn_2 : decode cX8_hasTailIn 2 = .ok (.invokevirtual 53, 3) := by decide +kernel
theorem dX8_hasTailIn_5 : decode cX8_hasTailIn 5 = .ok (.ifCond .eq 25, 3) := by decide +kernel
theorem dX8_hasTailIn_8 : decode cX8_hasTailIn 8 = .ok (.aload_n 0, 1) := by decide +kernel
theorem dX8_hasTailIn_9 : decode cX8_hasTailIn 9 = .ok (.iload_n 1, 1) := by decide +kernel
theorem dX8_hasTailIn_10 : decode cX8_hasTailIn 10 = .ok (.invokevirtual 57, 3) := by decide +kernel
theorem dX8_hasTailIn_13 : decode cX8_hasTailIn 13 = .ok (.ifCond .le 17, 3) := by decide +kernel
theorem dX8_hasTailIn_16 : decode cX8_hasTailIn 16 = .ok (.aload_n 0, 1) := by decide +kernel
theorem dX8_hasTailIn_17 : decode cX8_hasTailIn 17 = .ok (.iload_n 1, 1) := by decide +kernel
theorem dX8_hasTailIn_18 : decode cX8_hasTailIn 18 = .ok (.iconst 3, 1) := by decide +kernel
theorem dX8_hasTailIn_19 : decode cX8_hasTailIn 19 = .ok (.invokevirtual 49, 3) := by decide +kernel
theorem dX8_hasTailIn_22 : decode cX8_hasTailIn 22 = .ok (.iload_n 2, 1) := by decide +kernel
theorem dX8_hasTailIn_23 : decode cX8_hasTailIn 23 = .ok (.if_icmp .ne 7, 3) := by decide +kernel
theorem dX8_hasTailIn_26 : decode cX8_hasTailIn 26 = .ok (.iconst 1, 1) := by decide +kernel
theorem dX8_hasTailIn_27 : decode cX8_hasTailIn 27 = .ok (.goto 4, 3) := by decide +kernel
theorem dX8_hasTailIn_30 : decode cX8_hasTailIn 30 = .ok (.iconst 0, 1) := by decide +kernel
theorem dX8_hasTailIn_31 : decode cX8_hasTailIn 31 = .ok (.ireturn, 1) := by decide +kernel
theorem dX8_tailsIn_0 : decode cX8_tailsIn 0 = .ok (.iconst 0, 1) := by decide +kernel
theorem dX8_tailsIn_1 : decode cX8_tailsIn 1 = .ok (.istore_n 2, 1) := by decide +kernel
theorem dX8_tailsIn_2 : decode cX8_tailsIn 2 = .ok (.iconst 0, 1) := by decide +kernel
theorem dX8_tailsIn_3 : decode cX8_tailsIn 3 = .ok (.istore_n 3, 1) := by decide +kernel
theorem dX8_tailsIn_4 : decode cX8_tailsIn 4 = .ok (.iload_n 3, 1) := by decide +kernel
theorem dX8_tailsIn_5 : decode cX8_tailsIn 5 = .ok (.bipush 10, 2) := by decide +kernel
theorem dX8_tailsIn_7 : decode cX8_tailsIn 7 = .ok (.if_icmp .ge 26, 3) := by decide +kernel
theorem dX8_tailsIn_10 : decode cX8_tailsIn 10 = .ok (.iload_n 2, 1) := by decide +kernel
theorem dX8_tailsIn_11 : decode cX8_tailsIn 11 = .ok (.aload_n 0, 1) := by decide +kernel
theorem dX8_tailsIn_12 : decode cX8_tailsIn 12 = .ok (.iload_n 3, 1) := by decide +kernel
theorem dX8_tailsIn_13 : decode cX8_tailsIn 13 = .ok (.iload_n 1, 1) := by decide +kernel
theorem dX8_tailsIn_14 : decode cX8_tailsIn 14 = .ok (.invokevirtual 61, 3) := by decide +kernel
theorem dX8_tailsIn_17 : decode cX8_tailsIn 17 = .ok (.ifCond .eq 7, 3) := by decide +kernel
theorem dX8_tailsIn_20 : decode cX8_tailsIn 20 = .ok (.iconst 1, 1) := by decide +kernel
theorem dX8_tailsIn_21 : decode cX8_tailsIn 21 = .ok (.goto 4, 3) := by decide +kernel
theorem dX8_tailsIn_24 : decode cX8_tailsIn 24 = .ok (.iconst 0, 1) := by decide +kernel
theorem dX8_tailsIn_25 : decode cX8_tailsIn 25 = .ok (.iadd, 1) := by decide +kernel
theorem dX8_tailsIn_26 : decode cX8_tailsIn 26 = .ok (.istore_n 2, 1) := by decide +kernel
theorem dX8_tailsIn_27 : decode cX8_tailsIn 27 = .ok (.iinc 3 1, 3) := by decide +kernel
theorem dX8_tailsIn_30 : decode cX8_tailsIn 30 = .ok (.goto (-26), 3) := by decide +kernel
theorem dX8_tailsIn_33 : decode cX8_tailsIn 33 = .ok (.iload_n 2, 1) := by decide +kernel
theorem dX8_tailsIn_34 : decode cX8_tailsIn 34 = .ok (.ireturn, 1) := by decide +kernel
theorem dX8_isTaken_0 : decode cX8_isTaken 0 = .ok (.iconst 0, 1) := by decide +kernel
theorem dX8_isTaken_1 : decode cX8_isTaken 1 = .ok (.istore_n 3, 1) := by decide +kernel
theorem dX8_isTaken_2 : decode cX8_isTaken 2 = .ok (.iconst 0, 1) := by decide +kernel
theorem dX8_isTaken_3 : decode cX8_isTaken 3 = .ok (.istore 4, 2) := by decide +kernel
theorem dX8_isTaken_5 : decode cX8_isTaken 5 = .ok (.iload 4, 2) := by decide +kernel
theorem dX8_isTaken_7 : decode cX8_isTaken 7 = .ok (.bipush 10, 2) := by decide +kernel
theorem dX8_isTaken_9 : decode cX8_isTaken 9 = .ok (.if_icmp .ge 59, 3) := by decide +kernel
theorem dX8_isTaken_12 : decode cX8_isTaken 12 = .ok (.iload_n 3, 1) := by decide +kernel
theorem dX8_isTaken_13 : decode cX8_isTaken 13 = .ok (.ifCond .ne 43, 3) := by decide +kernel
theorem dX8_isTaken_16 : decode cX8_isTaken 16 = .ok (.aload_n 0, 1) := by decide +kernel
theorem dX8_isTaken_17 : decode cX8_isTaken 17 = .ok (.iload 4, 2) := by decide +kernel
theorem dX8_isTaken_19 : decode cX8_isTaken 19 = .ok (.iload_n 1, 1) := by decide +kernel
theorem dX8_isTaken_20 : decode cX8_isTaken 20 = .ok (.invokevirtual 61, 3) := by decide +kernel
theorem dX8_isTaken_23 : decode cX8_isTaken 23 = .ok (.ifCond .eq 37, 3) := by decide +kernel
theorem dX8_isTaken_26 : decode cX8_isTaken 26 = .ok (.iload_n 2, 1) := by decide +kernel
theorem dX8_isTaken_27 : decode cX8_isTaken 27 = .ok (.aload_n 0, 1) := by decide +kernel
theorem dX8_isTaken_28 : decode cX8_isTaken 28 = .ok (.iload 4, 2) := by decide +kernel
theorem dX8_isTaken_30 : decode cX8_isTaken 30 = .ok (.iconst 4, 1) := by decide +kernel
theorem dX8_isTaken_31 : decode cX8_isTaken 31 = .ok (.invokevirtual 49, 3) := by decide +kernel
theorem dX8_isTaken_34 : decode cX8_isTaken 34 = .ok (.aload_n 0, 1) := by decide +kernel
theorem dX8_isTaken_35 : decode cX8_isTaken 35 = .ok (.iload 4, 2) := by decide +kernel
theorem dX8_isTaken_37 : decode cX8_isTaken 37 = .ok (.iconst 4, 1) := by decide +kernel
theorem dX8_isTaken_38 : decode cX8_isTaken 38 = .ok (.invokevirtual 49, 3) := by decide +kernel
theorem dX8_isTaken_41 : decode cX8_isTaken 41 = .ok (.aload_n 0, 1) := by decide +kernel
theorem dX8_isTaken_42 : decode cX8_isTaken 42 = .ok (.iload 4, 2) := by decide +kernel
theorem dX8_isTaken_44 : decode cX8_isTaken 44 = .ok (.invokevirtual 57, 3) := by decide +kernel
theorem dX8_isTaken_47 : decode cX8_isTaken 47 = .ok (.iadd, 1) := by decide +kernel
theorem dX8_isTaken_48 : decode cX8_isTaken 48 = .ok (.iconst 1, 1) := by decide +kernel
theorem dX8_isTaken_49 : decode cX8_isTaken 49 = .ok (.isub, 1) := by decide +kernel
theorem dX8_isTaken_50 : decode cX8_isTaken 50 = .ok (.invokestatic 45, 3) := by decide +kernel
theorem dX8_isTaken_53 : decode cX8_isTaken 53 = .ok (.ifCond .eq 7, 3) := by decide +kernel
theorem dX8_isTaken_56 : decode cX8_isTaken 56 = .ok (.iconst 1, 1) := by decide +kernel
theorem dX8_isTaken_57 : decode cX8_isTaken 57 = .ok (.goto 4, 3) := by decide +kernel
theorem dX8_isTaken_60 : decode cX8_isTaken 60 = .ok (.iconst 0, 1) := by decide +kernel
theorem dX8_isTaken_61 : decode cX8_isTaken 61 = .ok (.istore_n 3, 1) := by decide +kernel
theorem dX8_isTaken_62 : decode cX8_isTaken 62 = .ok (.iinc 4 1, 3) := by decide +kernel
theorem dX8_isTaken_65 : decode cX8_isTaken 65 = .ok (.goto (-60), 3) := by decide +kernel
theorem dX8_isTaken_68 : decode cX8_isTaken 68 = .ok (.iload_n 3, 1) := by decide +kernel
theorem dX8_isTaken_69 : decode cX8_isTaken 69 = .ok (.ireturn, 1) := by decide +kernel
theorem dX8_gapAt_0 : decode cX8_gapAt 0 = .ok (.aload_n 0, 1) := by decide +kernel
theorem dX8_gapAt_1 : decode cX8_gapAt 1 = .ok (.getfield 7, 3) := by decide +kernel
theorem dX8_gapAt_4 : decode cX8_gapAt 4 = .ok (.iconst 3, 1) := by decide +kernel
theorem dX8_gapAt_5 : decode cX8_gapAt 5 = .ok (.iload_n 1, 1) := by decide +kernel
theorem dX8_gapAt_6 : decode cX8_gapAt 6 = .ok (.iadd, 1) := by decide +kernel
theorem dX8_gapAt_7 : decode cX8_gapAt 7 = .ok (.iaload, 1) := by decide +kernel
theorem dX8_gapAt_8 : decode cX8_gapAt 8 = .ok (.iconst 2, 1) := by decide +kernel
theorem dX8_gapAt_9 : decode cX8_gapAt 9 = .ok (.if_icmp .ne 27, 3) := by decide +kernel
theorem dX8_gapAt_12 : decode cX8_gapAt 12 = .ok (.aload_n 0, 1) := by decide +kernel
theorem dX8_gapAt_13 : decode cX8_gapAt 13 = .ok (.iload_n 1, 1) := by decide +kernel
theorem dX8_gapAt_14 : decode cX8_gapAt 14 = .ok (.iload_n 2, 1) := by decide +kernel
theorem dX8_gapAt_15 : decode cX8_gapAt 15 = .ok (.invokevirtual 65, 3) := by decide +kernel
theorem dX8_gapAt_18 : decode cX8_gapAt 18 = .ok (.ifCond .ne 18, 3) := by decide +kernel
theorem dX8_gapAt_21 : decode cX8_gapAt 21 = .ok (.iload_n 2, 1) := by decide +kernel
theorem dX8_gapAt_22 : decode cX8_gapAt 22 = .ok (.ifCond .le 16, 3) := by decide +kernel
theorem dX8_gapAt_25 : decode cX8_gapAt 25 = .ok (.aload_n 0, 1) := by decide +kernel
theorem dX8_gapAt_26 : decode cX8_gapAt 26 = .ok (.iload_n 1, 1) := by decide +kernel
theorem dX8_gapAt_27 : decode cX8_gapAt 27 = .ok (.iload_n 2, 1) := by decide +kernel
theorem dX8_gapAt_28 : decode cX8_gapAt 28 = .ok (.iconst 1, 1) := by decide +kernel
theorem dX8_gapAt_29 : decode cX8_gapAt 29 = .ok (.isub, 1) := by decide +kernel
theorem dX8_gapAt_30 : decode cX8_gapAt 30 = .ok (.invokevirtual 65, 3) := by decide +kernel
theorem dX8_gapAt_33 : decode cX8_gapAt 33 = .ok (.ifCond .ne 5, 3) := by decide +kernel
theorem dX8_gapAt_36 : decode cX8_gapAt 36 = .ok (.iconst 0, 1) := by decide +kernel
theorem dX8_gapAt_37 : decode cX8_gapAt 37 = .ok (.ireturn, 1) := by decide +kernel
theorem dX8_gapAt_38 : decode cX8_gapAt 38 = .ok (.iconst 0, 1) := by decide +kernel
theorem dX8_gapAt_39 : decode cX8_gapAt 39 = .ok (.istore_n 3, 1) := by decide +kernel
theorem dX8_gapAt_40 : decode cX8_gapAt 40 = .ok (.iload_n 2, 1) := by decide +kernel
theorem dX8_gapAt_41 : decode cX8_gapAt 41 = .ok (.iload_n 3, 1) := by decide +kernel
theorem dX8_gapAt_42 : decode cX8_gapAt 42 = .ok (.iadd, 1) := by decide +kernel
theorem dX8_gapAt_43 : decode cX8_gapAt 43 = .ok (.bipush 16, 2) := by decide +kernel
theorem dX8_gapAt_45 : decode cX8_gapAt 45 = .ok (.if_icmp .ge 20, 3) := by decide +kernel
theorem dX8_gapAt_48 : decode cX8_gapAt 48 = .ok (.aload_n 0, 1) := by decide +kernel
theorem dX8_gapAt_49 : decode cX8_gapAt 49 = .ok (.iload_n 1, 1) := by decide +kernel
theorem dX8_gapAt_50 : decode cX8_gapAt 50 = .ok (.iload_n 2, 1) := by decide +kernel
theorem dX8_gapAt_51 : decode cX8_gapAt 51 = .ok (.iload_n 3, 1) := by decide +kernel
theorem dX8_gapAt_52 : decode cX8_gapAt 52 = .ok (.iadd, 1) := by decide +kernel
theorem dX8_gapAt_53 : decode cX8_gapAt 53 = .ok (.invokevirtual 65, 3) := by decide +kernel
theorem dX8_gapAt_56 : decode cX8_gapAt 56 = .ok (.ifCond .ne 9, 3) := by decide +kernel
theorem dX8_gapAt_59 : decode cX8_gapAt 59 = .ok (.iinc 3 1, 3) := by decide +kernel
theorem dX8_gapAt_62 : decode cX8_gapAt 62 = .ok (.goto (-22), 3) := by decide +kernel
theorem dX8_gapAt_65 : decode cX8_gapAt 65 = .ok (.iload_n 3, 1) := by decide +kernel
theorem dX8_gapAt_66 : decode cX8_gapAt 66 = .ok (.ireturn, 1) := by decide +kernel
theorem dX8_gapFor_0 : decode cX8_gapFor 0 = .ok (.iconst (-1), 1) := by decide +kernel
theorem dX8_gapFor_1 : decode cX8_gapFor 1 = .ok (.istore_n 2, 1) := by decide +kernel
theorem dX8_gapFor_2 : decode cX8_gapFor 2 = .ok (.bipush 17, 2) := by decide +kernel
theorem dX8_gapFor_4 : decode cX8_gapFor 4 = .ok (.istore_n 3, 1) := by decide +kernel
theorem dX8_gapFor_5 : decode cX8_gapFor 5 = .ok (.iconst 0, 1) := by decide +kernel
theorem dX8_gapFor_6 : decode cX8_gapFor 6 = .ok (.istore 4, 2) := by decide +kernel
theorem dX8_gapFor_8 : decode cX8_gapFor 8 = .ok (.iload 4, 2) := by decide +kernel
theorem dX8_gapFor_10 : decode cX8_gapFor 10 = .ok (.sipush 384, 3) := by decide +kernel
theorem dX8_gapFor_13 : decode cX8_gapFor 13 = .ok (.if_icmp .ge 85, 3) := by decide +kernel
theorem dX8_gapFor_16 : decode cX8_gapFor 16 = .ok (.aload_n 0, 1) := by decide +kernel
theorem dX8_gapFor_17 : decode cX8_gapFor 17 = .ok (.iload 4, 2) := by decide +kernel
theorem dX8_gapFor_19 : decode cX8_gapFor 19 = .ok (.bipush 16, 2) := by decide +kernel
theorem dX8_gapFor_21 : decode cX8_gapFor 21 = .ok (.idiv, 1) := by decide +kernel
theorem dX8_gapFor_22 : decode cX8_gapFor 22 = .ok (.iload 4, 2) := by decide +kernel
theorem dX8_gapFor_24 : decode cX8_gapFor 24 = .ok (.bipush 16, 2) := by decide +kernel
theorem dX8_gapFor_26 : decode cX8_gapFor 26 = .ok (.irem, 1) := by decide +kernel
theorem dX8_gapFor_27 : decode cX8_gapFor 27 = .ok (.invokevirtual 68, 3) := by decide +kernel
theorem dX8_gapFor_30 : decode cX8_gapFor 30 = .ok (.istore 5, 2) := by decide +kernel
theorem dX8_gapFor_32 : decode cX8_gapFor 32 = .ok (.iload 5, 2) := by decide +kernel
theorem dX8_gapFor_34 : decode cX8_gapFor 34 = .ok (.iload_n 1, 1) := by decide +kernel
theorem dX8_gapFor_35 : decode cX8_gapFor 35 = .ok (.if_icmp .lt 30, 3) := by decide +kernel
theorem dX8_gapFor_38 : decode cX8_gapFor 38 = .ok (.aload_n 0, 1) := by decide +kernel
theorem dX8_gapFor_39 : decode cX8_gapFor 39 = .ok (.getfield 7, 3) := by decide +kernel
theorem dX8_gapFor_42 : decode cX8_gapFor 42 = .ok (.iconst 2, 1) := by decide +kernel
theorem dX8_gapFor_43 : decode cX8_gapFor 43 = .ok (.iaload, 1) := by decide +kernel
theorem dX8_gapFor_44 : decode cX8_gapFor 44 = .ok (.ifCond .ne 11, 3) := by decide +kernel
theorem dX8_gapFor_47 : decode cX8_gapFor 47 = .ok (.iload_n 2, 1) := by decide +kernel
theorem dX8_gapFor_48 : decode cX8_gapFor 48 = .ok (.iconst (-1), 1) := by decide +kernel
theorem dX8_gapFor_49 : decode cX8_gapFor 49 = .ok (.if_icmp .ne 16, 3) := by decide +kernel
theorem dX8_gapFor_52 : decode cX8_gapFor 52 = .ok (.goto 9, 3) := by decide +kernel
theorem dX8_gapFor_55 : decode cX8_gapFor 55 = .ok (.iload 5, 2) := by decide +kernel
theorem dX8_gapFor_57 : decode cX8_gapFor 57 = .ok (.iload_n 3, 1) := by decide +kernel
theorem dX8_gapFor_58 : decode cX8_gapFor 58 = .ok (.if_icmp .ge 7, 3) := by decide +kernel
theorem dX8_gapFor_61 : decode cX8_gapFor 61 = .ok (.iconst 1, 1) := by decide +kernel
theorem dX8_gapFor_62 : decode cX8_gapFor 62 = .ok (.goto 4, 3) := by decide +kernel
theorem dX8_gapFor_65 : decode cX8_gapFor 65 = .ok (.iconst 0, 1) := by decide +kernel
theorem dX8_gapFor_66 : decode cX8_gapFor 66 = .ok (.istore 6, 2) := by decide +kernel
theorem dX8_gapFor_68 : decode cX8_gapFor 68 = .ok (.iload 6, 2) := by decide +kernel
theorem dX8_gapFor_70 : decode cX8_gapFor 70 = .ok (.ifCond .eq 8, 3) := by decide +kernel
theorem dX8_gapFor_73 : decode cX8_gapFor 73 = .ok (.iload 4, 2) := by decide +kernel
theorem dX8_gapFor_75 : decode cX8_gapFor 75 = .ok (.goto 4, 3) := by decide +kernel
theorem dX8_gapFor_78 : decode cX8_gapFor 78 = .ok (.iload_n 2, 1) := by decide +kernel
theorem dX8_gapFor_79 : decode cX8_gapFor 79 = .ok (.istore_n 2, 1) := by decide +kernel
theorem dX8_gapFor_80 : decode cX8_gapFor 80 = .ok (.iload 6, 2) := by decide +kernel
theorem dX8_gapFor_82 : decode cX8_gapFor 82 = .ok (.ifCond .eq 8, 3) := by decide +kernel
theorem dX8_gapFor_85 : decode cX8_gapFor 85 = .ok (.iload 5, 2) := by decide +kernel
theorem dX8_gapFor_87 : decode cX8_gapFor 87 = .ok (.goto 4, 3) := by decide +kernel
theorem dX8_gapFor_90 : decode cX8_gapFor 90 = .ok (.iload_n 3, 1) := by decide +kernel
theorem dX8_gapFor_91 : decode cX8_gapFor 91 = .ok (.istore_n 3, 1) := by decide +kernel
theorem dX8_gapFor_92 : decode cX8_gapFor 92 = .ok (.iinc 4 1, 3) := by decide +kernel
theorem dX8_gapFor_95 : decode cX8_gapFor 95 = .ok (.goto (-87), 3) := by decide +kernel
theorem dX8_gapFor_98 : decode cX8_gapFor 98 = .ok (.iload_n 2, 1) := by decide +kernel
theorem dX8_gapFor_99 : decode cX8_gapFor 99 = .ok (.ireturn, 1) := by decide +kernel
theorem dX8_placeFor_0 : decode cX8_placeFor 0 = .ok (.aload_n 0, 1) := by decide +kernel
theorem dX8_placeFor_1 : decode cX8_placeFor 1 = .ok (.iload_n 1, 1) := by decide +kernel
theorem dX8_placeFor_2 : decode cX8_placeFor 2 = .ok (.invokevirtual 71, 3) := by decide +kernel
theorem dX8_placeFor_5 : decode cX8_placeFor 5 = .ok (.istore_n 2, 1) := by decide +kernel
theorem dX8_placeFor_6 : decode cX8_placeFor 6 = .ok (.aload_n 0, 1) := by decide +kernel
theorem dX8_placeFor_7 : decode cX8_placeFor 7 = .ok (.invokevirtual 74, 3) := by decide +kernel
theorem dX8_placeFor_10 : decode cX8_placeFor 10 = .ok (.istore_n 3, 1) := by decide +kernel
theorem dX8_placeFor_11 : decode cX8_placeFor 11 = .ok (.iload_n 2, 1) := by decide +kernel
theorem dX8_placeFor_12 : decode cX8_placeFor 12 = .ok (.iconst (-1), 1) := by decide +kernel
theorem dX8_placeFor_13 : decode cX8_placeFor 13 = .ok (.if_icmp .eq 7, 3) := by decide +kernel
theorem dX8_placeFor_16 : decode cX8_placeFor 16 = .ok (.iload_n 2, 1) := by decide +kernel
theorem dX8_placeFor_17 : decode cX8_placeFor 17 = .ok (.goto 16, 3) := by decide +kernel
theorem dX8_placeFor_20 : decode cX8_placeFor 20 = .ok (.iload_n 3, 1) := by decide +kernel
theorem dX8_placeFor_21 : decode cX8_placeFor 21 = .ok (.iconst (-1), 1) := by decide +kernel
theorem dX8_placeFor_22 : decode cX8_placeFor 22 = .ok (.if_icmp .ne 7, 3) := by decide +kernel
theorem dX8_placeFor_25 : decode cX8_placeFor 25 = .ok (.iconst (-1), 1) := by decide +kernel
theorem dX8_placeFor_26 : decode cX8_placeFor 26 = .ok (.goto 7, 3) := by decide +kernel
theorem dX8_placeFor_29 : decode cX8_placeFor 29 = .ok (.bipush 16, 2) := by decide +kernel
theorem dX8_placeFor_31 : decode cX8_placeFor 31 = .ok (.iload_n 3, 1) := by decide +kernel
theorem dX8_placeFor_32 : decode cX8_placeFor 32 = .ok (.imul, 1) := by decide +kernel
theorem dX8_placeFor_33 : decode cX8_placeFor 33 = .ok (.ireturn, 1) := by decide +kernel
theorem dX8_save_0 : decode cX8_save 0 = .ok (.aload_n 0, 1) := by decide +kernel
theorem dX8_save_1 : decode cX8_save 1 = .ok (.getfield 78, 3) := by decide +kernel
theorem dX8_save_4 : decode cX8_save 4 = .ok (.bipush 6, 2) := by decide +kernel
theorem dX8_save_6 : decode cX8_save 6 = .ok (.if_icmp .ne 44, 3) := by decide +kernel
theorem dX8_save_9 : decode cX8_save 9 = .ok (.iconst 0, 1) := by decide +kernel
theorem dX8_save_10 : decode cX8_save 10 = .ok (.istore_n 1, 1) := by decide +kernel
theorem dX8_save_11 : decode cX8_save 11 = .ok (.iload_n 1, 1) := by decide +kernel
theorem dX8_save_12 : decode cX8_save 12 = .ok (.sipush 1035, 3) := by decide +kernel
theorem dX8_save_15 : decode cX8_save 15 = .ok (.if_icmp .ge 25, 3) := by decide +kernel
theorem dX8_save_18 : decode cX8_save 18 = .ok (.aload_n 0, 1) := by decide +kernel
theorem dX8_save_19 : decode cX8_save 19 = .ok (.getfield 13, 3) := by decide +kernel
theorem dX8_save_22 : decode cX8_save 22 = .ok (.iload_n 1, 1) := by decide +kernel
theorem dX8_save_23 : decode cX8_save 23 = .ok (.aload_n 0, 1) := by decide +kernel
theorem dX8_save_24 : decode cX8_save 24 = .ok (.getfield 13, 3) := by decide +kernel
theorem dX8_save_27 : decode cX8_save 27 = .ok (.sipush 207, 3) := by decide +kernel
theorem dX8_save_30 : decode cX8_save 30 = .ok (.iload_n 1, 1) := by decide +kernel
theorem dX8_save_31 : decode cX8_save 31 = .ok (.iadd, 1) := by decide +kernel
theorem dX8_save_32 : decode cX8_save 32 = .ok (.iaload, 1) := by decide +kernel
theorem dX8_save_33 : decode cX8_save 33 = .ok (.iastore, 1) := by decide +kernel
theorem dX8_save_34 : decode cX8_save 34 = .ok (.iinc 1 1, 3) := by decide +kernel
theorem dX8_save_37 : decode cX8_save 37 = .ok (.goto (-26), 3) := by decide +kernel
theorem dX8_save_40 : decode cX8_save 40 = .ok (.aload_n 0, 1) := by decide +kernel
theorem dX8_save_41 : decode cX8_save 41 = .ok (.dup, 1) := by decide +kernel
theorem dX8_save_42 : decode cX8_save 42 = .ok (.getfield 78, 3) := by decide +kernel
theorem dX8_save_45 : decode cX8_save 45 = .ok (.iconst 1, 1) := by decide +kernel
theorem dX8_save_46 : decode cX8_save 46 = .ok (.isub, 1) := by decide +kernel
theorem dX8_save_47 : decode cX8_save 47 = .ok (.putfield 78, 3) := by decide +kernel
theorem dX8_save_50 : decode cX8_save 50 = .ok (.iconst 0, 1) := by decide +kernel
theorem dX8_save_51 : decode cX8_save 51 = .ok (.istore_n 1, 1) := by decide +kernel
theorem dX8_save_52 : decode cX8_save 52 = .ok (.iload_n 1, 1) := by decide +kernel
theorem dX8_save_53 : decode cX8_save 53 = .ok (.sipush 207, 3) := by decide +kernel
theorem dX8_save_56 : decode cX8_save 56 = .ok (.if_icmp .ge 30, 3) := by decide +kernel
theorem dX8_save_59 : decode cX8_save 59 = .ok (.aload_n 0, 1) := by decide +kernel
theorem dX8_save_60 : decode cX8_save 60 = .ok (.getfield 13, 3) := by decide +kernel
theorem dX8_save_63 : decode cX8_save 63 = .ok (.sipush 207, 3) := by decide +kernel
theorem dX8_save_66 : decode cX8_save 66 = .ok (.aload_n 0, 1) := by decide +kernel
theorem dX8_save_67 : decode cX8_save 67 = .ok (.getfield 78, 3) := by decide +kernel
theorem dX8_save_70 : decode cX8_save 70 = .ok (.imul, 1) := by decide +kernel
theorem dX8_save_71 : decode cX8_save 71 = .ok (.iload_n 1, 1) := by decide +kernel
theorem dX8_save_72 : decode cX8_save 72 = .ok (.iadd, 1) := by decide +kernel
theorem dX8_save_73 : decode cX8_save 73 = .ok (.aload_n 0, 1) := by decide +kernel
theorem dX8_save_74 : decode cX8_save 74 = .ok (.getfield 7, 3) := by decide +kernel
theorem dX8_save_77 : decode cX8_save 77 = .ok (.iload_n 1, 1) := by decide +kernel
theorem dX8_save_78 : decode cX8_save 78 = .ok (.iaload, 1) := by decide +kernel
theorem dX8_save_79 : decode cX8_save 79 = .ok (.iastore, 1) := by decide +kernel
theorem dX8_save_80 : decode cX8_save 80 = .ok (.iinc 1 1, 3) := by decide +kernel
theorem dX8_save_83 : decode cX8_save 83 = .ok (.goto (-31), 3) := by decide +kernel
theorem dX8_save_86 : decode cX8_save 86 = .ok (.aload_n 0, 1) := by decide +kernel
theorem dX8_save_87 : decode cX8_save 87 = .ok (.dup, 1) := by decide +kernel
theorem dX8_save_88 : decode cX8_save 88 = .ok (.getfield 78, 3) := by decide +kernel
theorem dX8_save_91 : decode cX8_save 91 = .ok (.iconst 1, 1) := by decide +kernel
theorem dX8_save_92 : decode cX8_save 92 = .ok (.iadd, 1) := by decide +kernel
theorem dX8_save_93 : decode cX8_save 93 = .ok (.putfield 78, 3) := by decide +kernel
theorem dX8_save_96 : decode cX8_save 96 = .ok (.return_, 1) := by decide +kernel
theorem dX8_undo_0 : decode cX8_undo 0 = .ok (.aload_n 0, 1) := by decide +kernel
theorem dX8_undo_1 : decode cX8_undo 1 = .ok (.iconst 0, 1) := by decide +kernel
theorem dX8_undo_2 : decode cX8_undo 2 = .ok (.putfield 41, 3) := by decide +kernel
theorem dX8_undo_5 : decode cX8_undo 5 = .ok (.aload_n 0, 1) := by decide +kernel
theorem dX8_undo_6 : decode cX8_undo 6 = .ok (.getfield 78, 3) := by decide +kernel
theorem dX8_undo_9 : decode cX8_undo 9 = .ok (.ifCond .ne 9, 3) := by decide +kernel
theorem dX8_undo_12 : decode cX8_undo 12 = .ok (.aload_n 0, 1) := by decide +kernel
theorem dX8_undo_13 : decode cX8_undo 13 = .ok (.iconst 1, 1) := by decide +kernel
theorem dX8_undo_14 : decode cX8_undo 14 = .ok (.invokevirtual 81, 3) := by decide +kernel
theorem dX8_undo_17 : decode cX8_undo 17 = .ok (.ireturn, 1) := by decide +kernel
theorem dX8_undo_18 : decode cX8_undo 18 = .ok (.aload_n 0, 1) := by decide +kernel
theorem dX8_undo_19 : decode cX8_undo 19 = .ok (.dup, 1) := by decide +kernel
theorem dX8_undo_20 : decode cX8_undo 20 = .ok (.getfield 78, 3) := by decide +kernel
theorem dX8_undo_23 : decode cX8_undo 23 = .ok (.iconst 1, 1) := by decide +kernel
theorem dX8_undo_24 : decode cX8_undo 24 = .ok (.isub, 1) := by decide +kernel
theorem dX8_undo_25 : decode cX8_undo 25 = .ok (.putfield 78, 3) := by decide +kernel
theorem dX8_undo_28 : decode cX8_undo 28 = .ok (.iconst 0, 1) := by decide +kernel
theorem dX8_undo_29 : decode cX8_undo 29 = .ok (.istore_n 1, 1) := by decide +kernel
theorem dX8_undo_30 : decode cX8_undo 30 = .ok (.iload_n 1, 1) := by decide +kernel
theorem dX8_undo_31 : decode cX8_undo 31 = .ok (.sipush 207, 3) := by decide +kernel
theorem dX8_undo_34 : decode cX8_undo 34 = .ok (.if_icmp .ge 30, 3) := by decide +kernel
theorem dX8_undo_37 : decode cX8_undo 37 = .ok (.aload_n 0, 1) := by decide +kernel
theorem dX8_undo_38 : decode cX8_undo 38 = .ok (.getfield 7, 3) := by decide +kernel
theorem dX8_undo_41 : decode cX8_undo 41 = .ok (.iload_n 1, 1) := by decide +kernel
theorem dX8_undo_42 : decode cX8_undo 42 = .ok (.aload_n 0, 1) := by decide +kernel
theorem dX8_undo_43 : decode cX8_undo 43 = .ok (.getfield 13, 3) := by decide +kernel
theorem dX8_undo_46 : decode cX8_undo 46 = .ok (.sipush 207, 3) := by decide +kernel
theorem dX8_undo_49 : decode cX8_undo 49 = .ok (.aload_n 0, 1) := by decide +kernel
theorem dX8_undo_50 : decode cX8_undo 50 = .ok (.getfield 78, 3) := by decide +kernel
theorem dX8_undo_53 : decode cX8_undo 53 = .ok (.imul, 1) := by decide +kernel
theorem dX8_undo_54 : decode cX8_undo 54 = .ok (.iload_n 1, 1) := by decide +kernel
theorem dX8_undo_55 : decode cX8_undo 55 = .ok (.iadd, 1) := by decide +kernel
theorem dX8_undo_56 : decode cX8_undo 56 = .ok (.iaload, 1) := by decide +kernel
theorem dX8_undo_57 : decode cX8_undo 57 = .ok (.iastore, 1) := by decide +kernel
theorem dX8_undo_58 : decode cX8_undo 58 = .ok (.iinc 1 1, 3) := by decide +kernel
theorem dX8_undo_61 : decode cX8_undo 61 = .ok (.goto (-31), 3) := by decide +kernel
theorem dX8_undo_64 : decode cX8_undo 64 = .ok (.aload_n 0, 1) := by decide +kernel
theorem dX8_undo_65 : decode cX8_undo 65 = .ok (.getfield 78, 3) := by decide +kernel
theorem dX8_undo_68 : decode cX8_undo 68 = .ok (.ireturn, 1) := by decide +kernel
theorem dX8_keep_0 : decode cX8_keep 0 = .ok (.aload_n 0, 1) := by decide +kernel
theorem dX8_keep_1 : decode cX8_keep 1 = .ok (.iconst 0, 1) := by decide +kernel
theorem dX8_keep_2 : decode cX8_keep 2 = .ok (.putfield 41, 3) := by decide +kernel
theorem dX8_keep_5 : decode cX8_keep 5 = .ok (.iload_n 1, 1) := by decide +kernel
theorem dX8_keep_6 : decode cX8_keep 6 = .ok (.iconst 0, 1) := by decide +kernel
theorem dX8_keep_7 : decode cX8_keep 7 = .ok (.iconst 1, 1) := by decide +kernel
theorem dX8_keep_8 : decode cX8_keep 8 = .ok (.invokestatic 45, 3) := by decide +kernel
theorem dX8_keep_11 : decode cX8_keep 11 = .ok (.ifCond .ne 9, 3) := by decide +kernel
theorem dX8_keep_14 : decode cX8_keep 14 = .ok (.aload_n 0, 1) := by decide +kernel
theorem dX8_keep_15 : decode cX8_keep 15 = .ok (.iconst 1, 1) := by decide +kernel
theorem dX8_keep_16 : decode cX8_keep 16 = .ok (.invokevirtual 81, 3) := by decide +kernel
theorem dX8_keep_19 : decode cX8_keep 19 = .ok (.ireturn, 1) := by decide +kernel
theorem dX8_keep_20 : decode cX8_keep 20 = .ok (.iconst 0, 1) := by decide +kernel
theorem dX8_keep_21 : decode cX8_keep 21 = .ok (.istore_n 2, 1) := by decide +kernel
theorem dX8_keep_22 : decode cX8_keep 22 = .ok (.iload_n 2, 1) := by decide +kernel
theorem dX8_keep_23 : decode cX8_keep 23 = .ok (.sipush 207, 3) := by decide +kernel
theorem dX8_keep_26 : decode cX8_keep 26 = .ok (.if_icmp .ge 27, 3) := by decide +kernel
theorem dX8_keep_29 : decode cX8_keep 29 = .ok (.aload_n 0, 1) := by decide +kernel
theorem dX8_keep_30 : decode cX8_keep 30 = .ok (.getfield 16, 3) := by decide +kernel
theorem dX8_keep_33 : decode cX8_keep 33 = .ok (.sipush 207, 3) := by decide +kernel
theorem dX8_keep_36 : decode cX8_keep 36 = .ok (.iload_n 1, 1) := by decide +kernel
theorem dX8_keep_37 : decode cX8_keep 37 = .ok (.imul, 1) := by decide +kernel
theorem dX8_keep_38 : decode cX8_keep 38 = .ok (.iload_n 2, 1) := by decide +kernel
theorem dX8_keep_39 : decode cX8_keep 39 = .ok (.iadd, 1) := by decide +kernel
theorem dX8_keep_40 : decode cX8_keep 40 = .ok (.aload_n 0, 1) := by decide +kernel
theorem dX8_keep_41 : decode cX8_keep 41 = .ok (.getfield 7, 3) := by decide +kernel
theorem dX8_keep_44 : decode cX8_keep 44 = .ok (.iload_n 2, 1) := by decide +kernel
theorem dX8_keep_45 : decode cX8_keep 45 = .ok (.iaload, 1) := by decide +kernel
theorem dX8_keep_46 : decode cX8_keep 46 = .ok (.iastore, 1) := by decide +kernel
theorem dX8_keep_47 : decode cX8_keep 47 = .ok (.iinc 2 1, 3) := by decide +kernel
theorem dX8_keep_50 : decode cX8_keep 50 = .ok (.goto (-28), 3) := by decide +kernel
theorem dX8_keep_53 : decode cX8_keep 53 = .ok (.aload_n 0, 1) := by decide +kernel
theorem dX8_keep_54 : decode cX8_keep 54 = .ok (.getfield 22, 3) := by decide +kernel
theorem dX8_keep_57 : decode cX8_keep 57 = .ok (.iload_n 1, 1) := by decide +kernel
theorem dX8_keep_58 : decode cX8_keep 58 = .ok (.iconst 1, 1) := by decide +kernel
theorem dX8_keep_59 : decode cX8_keep 59 = .ok (.bastore, 1) := by decide +kernel
theorem dX8_keep_60 : decode cX8_keep 60 = .ok (.aload_n 0, 1) := by decide +kernel
theorem dX8_keep_61 : decode cX8_keep 61 = .ok (.invokevirtual 84, 3) := by decide +kernel
theorem dX8_keep_64 : decode cX8_keep 64 = .ok (.ireturn, 1) := by decide +kernel
theorem dX8_goBack_0 : decode cX8_goBack 0 = .ok (.aload_n 0, 1) := by decide +kernel
theorem dX8_goBack_1 : decode cX8_goBack 1 = .ok (.iconst 0, 1) := by decide +kernel
theorem dX8_goBack_2 : decode cX8_goBack 2 = .ok (.putfield 41, 3) := by decide +kernel
theorem dX8_goBack_5 : decode cX8_goBack 5 = .ok (.iload_n 1, 1) := by decide +kernel
theorem dX8_goBack_6 : decode cX8_goBack 6 = .ok (.iconst 0, 1) := by decide +kernel
theorem dX8_goBack_7 : decode cX8_goBack 7 = .ok (.iconst 1, 1) := by decide +kernel
theorem dX8_goBack_8 : decode cX8_goBack 8 = .ok (.invokestatic 45, 3) := by decide +kernel
theorem dX8_goBack_11 : decode cX8_goBack 11 = .ok (.ifCond .ne 9, 3) := by decide +kernel
theorem dX8_goBack_14 : decode cX8_goBack 14 = .ok (.aload_n 0, 1) := by decide +kernel
theorem dX8_goBack_15 : decode cX8_goBack 15 = .ok (.iconst 1, 1) := by decide +kernel
theorem dX8_goBack_16 : decode cX8_goBack 16 = .ok (.invokevirtual 81, 3) := by decide +kernel
theorem dX8_goBack_19 : decode cX8_goBack 19 = .ok (.ireturn, 1) := by decide +kernel
theorem dX8_goBack_20 : decode cX8_goBack 20 = .ok (.aload_n 0, 1) := by decide +kernel
theorem dX8_goBack_21 : decode cX8_goBack 21 = .ok (.getfield 22, 3) := by decide +kernel
theorem dX8_goBack_24 : decode cX8_goBack 24 = .ok (.iload_n 1, 1) := by decide +kernel
theorem dX8_goBack_25 : decode cX8_goBack 25 = .ok (.baload, 1) := by decide +kernel
theorem dX8_goBack_26 : decode cX8_goBack 26 = .ok (.ifCond .ne 9, 3) := by decide +kernel
theorem dX8_goBack_29 : decode cX8_goBack 29 = .ok (.aload_n 0, 1) := by decide +kernel
theorem dX8_goBack_30 : decode cX8_goBack 30 = .ok (.iconst 2, 1) := by decide +kernel
theorem dX8_goBack_31 : decode cX8_goBack 31 = .ok (.invokevirtual 81, 3) := by decide +kernel
theorem dX8_goBack_34 : decode cX8_goBack 34 = .ok (.ireturn, 1) := by decide +kernel
theorem dX8_goBack_35 : decode cX8_goBack 35 = .ok (.aload_n 0, 1) := by decide +kernel
theorem dX8_goBack_36 : decode cX8_goBack 36 = .ok (.invokevirtual 87, 3) := by decide +kernel
theorem dX8_goBack_39 : decode cX8_goBack 39 = .ok (.iconst 0, 1) := by decide +kernel
theorem dX8_goBack_40 : decode cX8_goBack 40 = .ok (.istore_n 2, 1) := by decide +kernel
theorem dX8_goBack_41 : decode cX8_goBack 41 = .ok (.iload_n 2, 1) := by decide +kernel
theorem dX8_goBack_42 : decode cX8_goBack 42 = .ok (.sipush 207, 3) := by decide +kernel
theorem dX8_goBack_45 : decode cX8_goBack 45 = .ok (.if_icmp .ge 27, 3) := by decide +kernel
theorem dX8_goBack_48 : decode cX8_goBack 48 = .ok (.aload_n 0, 1) := by decide +kernel
theorem dX8_goBack_49 : decode cX8_goBack 49 = .ok (.getfield 7, 3) := by decide +kernel
theorem dX8_goBack_52 : decode cX8_goBack 52 = .ok (.iload_n 2, 1) := by decide +kernel
theorem dX8_goBack_53 : decode cX8_goBack 53 = .ok (.aload_n 0, 1) := by decide +kernel
theorem dX8_goBack_54 : decode cX8_goBack 54 = .ok (.getfield 16, 3) := by decide +kernel
theorem dX8_goBack_57 : decode cX8_goBack 57 = .ok (.sipush 207, 3) := by decide +kernel
theorem dX8_goBack_60 : decode cX8_goBack 60 = .ok (.iload_n 1, 1) := by decide +kernel
theorem dX8_goBack_61 : decode cX8_goBack 61 = .ok (.imul, 1) := by decide +kernel
theorem dX8_goBack_62 : decode cX8_goBack 62 = .ok (.iload_n 2, 1) := by decide +kernel
theorem dX8_goBack_63 : decode cX8_goBack 63 = .ok (.iadd, 1) := by decide +kernel
theorem dX8_goBack_64 : decode cX8_goBack 64 = .ok (.iaload, 1) := by decide +kernel
theorem dX8_goBack_65 : decode cX8_goBack 65 = .ok (.iastore, 1) := by decide +kernel
theorem dX8_goBack_66 : decode cX8_goBack 66 = .ok (.iinc 2 1, 3) := by decide +kernel
theorem dX8_goBack_69 : decode cX8_goBack 69 = .ok (.goto (-28), 3) := by decide +kernel
theorem dX8_goBack_72 : decode cX8_goBack 72 = .ok (.aload_n 0, 1) := by decide +kernel
theorem dX8_goBack_73 : decode cX8_goBack 73 = .ok (.invokevirtual 84, 3) := by decide +kernel
theorem dX8_goBack_76 : decode cX8_goBack 76 = .ok (.ireturn, 1) := by decide +kernel
theorem dX8_layAside_0 : decode cX8_layAside 0 = .ok (.iconst 0, 1) := by decide +kernel
theorem dX8_layAside_1 : decode cX8_layAside 1 = .ok (.istore_n 1, 1) := by decide +kernel
theorem dX8_layAside_2 : decode cX8_layAside 2 = .ok (.iload_n 1, 1) := by decide +kernel
theorem dX8_layAside_3 : decode cX8_layAside 3 = .ok (.sipush 207, 3) := by decide +kernel
theorem dX8_layAside_6 : decode cX8_layAside 6 = .ok (.if_icmp .ge 21, 3) := by decide +kernel
theorem dX8_layAside_9 : decode cX8_layAside 9 = .ok (.aload_n 0, 1) := by decide +kernel
theorem dX8_layAside_10 : decode cX8_layAside 10 = .ok (.getfield 19, 3) := by decide +kernel
theorem dX8_layAside_13 : decode cX8_layAside 13 = .ok (.iload_n 1, 1) := by decide +kernel
theorem dX8_layAside_14 : decode cX8_layAside 14 = .ok (.aload_n 0, 1) := by decide +kernel
theorem dX8_layAside_15 : decode cX8_layAside 15 = .ok (.getfield 7, 3) := by decide +kernel
theorem dX8_layAside_18 : decode cX8_layAside 18 = .ok (.iload_n 1, 1) := by decide +kernel
theorem dX8_layAside_19 : decode cX8_layAside 19 = .ok (.iaload, 1) := by decide +kernel
