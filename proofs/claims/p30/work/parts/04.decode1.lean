theorem dX4_carryOut_80 : decode cX4_carryOut 80 = .ok (.return_, 1) := by decide +kernel
theorem dX5_init_0 : decode cX5_init 0 = .ok (.aload_n 0, 1) := by decide +kernel
theorem dX5_init_1 : decode cX5_init 1 = .ok (.invokespecial 3, 3) := by decide +kernel
theorem dX5_init_4 : decode cX5_init 4 = .ok (.aload_n 0, 1) := by decide +kernel
theorem dX5_init_5 : decode cX5_init 5 = .ok (.bipush 10, 2) := by decide +kernel
theorem dX5_init_7 : decode cX5_init 7 = .ok (.newarray .int, 2) := by decide +kernel
theorem dX5_init_9 : decode cX5_init 9 = .ok (.putfield 9, 3) := by decide +kernel
theorem dX5_init_12 : decode cX5_init 12 = .ok (.aload_n 0, 1) := by decide +kernel
theorem dX5_init_13 : decode cX5_init 13 = .ok (.bipush 10, 2) := by decide +kernel
theorem dX5_init_15 : decode cX5_init 15 = .ok (.newarray .int, 2) := by decide +kernel
theorem dX5_init_17 : decode cX5_init 17 = .ok (.putfield 15, 3) := by decide +kernel
theorem dX5_init_20 : decode cX5_init 20 = .ok (.aload_n 0, 1) := by decide +kernel
theorem dX5_init_21 : decode cX5_init 21 = .ok (.iconst 0, 1) := by decide +kernel
theorem dX5_init_22 : decode cX5_init 22 = .ok (.putfield 18, 3) := by decide +kernel
theorem dX5_init_25 : decode cX5_init 25 = .ok (.return_, 1) := by decide +kernel
theorem dX5_collect_0 : decode cX5_collect 0 = .ok (.aload_n 0, 1) := by decide +kernel
theorem dX5_collect_1 : decode cX5_collect 1 = .ok (.iconst 0, 1) := by decide +kernel
theorem dX5_collect_2 : decode cX5_collect 2 = .ok (.putfield 18, 3) := by decide +kernel
theorem dX5_collect_5 : decode cX5_collect 5 = .ok (.iconst 0, 1) := by decide +kernel
theorem dX5_collect_6 : decode cX5_collect 6 = .ok (.istore_n 2, 1) := by decide +kernel
theorem dX5_collect_7 : decode cX5_collect 7 = .ok (.iload_n 2, 1) := by decide +kernel
theorem dX5_collect_8 : decode cX5_collect 8 = .ok (.bipush 10, 2) := by decide +kernel
theorem dX5_collect_10 : decode cX5_collect 10 = .ok (.if_icmp .ge 37, 3) := by decide +kernel
theorem dX5_collect_13 : decode cX5_collect 13 = .ok (.aload_n 1, 1) := by decide +kernel
theorem dX5_collect_14 : decode cX5_collect 14 = .ok (.iload_n 2, 1) := by decide +kernel
theorem dX5_collect_15 : decode cX5_collect 15 = .ok (.invokevirtual 22, 3) := by decide +kernel
theorem dX5_collect_18 : decode cX5_collect 18 = .ok (.ifCond .eq 7, 3) := by decide +kernel
theorem dX5_collect_21 : decode cX5_collect 21 = .ok (.iconst 0, 1) := by decide +kernel
theorem dX5_collect_22 : decode cX5_collect 22 = .ok (.goto 8, 3) := by decide +kernel
theorem dX5_collect_25 : decode cX5_collect 25 = .ok (.aload_n 1, 1) := by decide +kernel
theorem dX5_collect_26 : decode cX5_collect 26 = .ok (.iload_n 2, 1) := by decide +kernel
theorem dX5_collect_27 : decode cX5_collect 27 = .ok (.invokevirtual 28, 3) := by decide +kernel
theorem dX5_collect_30 : decode cX5_collect 30 = .ok (.istore_n 3, 1) := by decide +kernel
theorem dX5_collect_31 : decode cX5_collect 31 = .ok (.iload_n 3, 1) := by decide +kernel
theorem dX5_collect_32 : decode cX5_collect 32 = .ok (.ifCond .le 9, 3) := by decide +kernel
theorem dX5_collect_35 : decode cX5_collect 35 = .ok (.aload_n 0, 1) := by decide +kernel
theorem dX5_collect_36 : decode cX5_collect 36 = .ok (.iload_n 2, 1) := by decide +kernel
theorem dX5_collect_37 : decode cX5_collect 37 = .ok (.iload_n 3, 1) := by decide +kernel
theorem dX5_collect_38 : decode cX5_collect 38 = .ok (.invokevirtual 32, 3) := by decide +kernel
theorem dX5_collect_41 : decode cX5_collect 41 = .ok (.iinc 2 1, 3) := by decide +kernel
theorem dX5_collect_44 : decode cX5_collect 44 = .ok (.goto (-37), 3) := by decide +kernel
theorem dX5_collect_47 : decode cX5_collect 47 = .ok (.return_, 1) := by decide +kernel
theorem dX5_insert_0 : decode cX5_insert 0 = .ok (.aload_n 0, 1) := by decide +kernel
theorem dX5_insert_1 : decode cX5_insert 1 = .ok (.getfield 18, 3) := by decide +kernel
theorem dX5_insert_4 : decode cX5_insert 4 = .ok (.ifCond .lt 12, 3) := by decide +kernel
theorem dX5_insert_7 : decode cX5_insert 7 = .ok (.aload_n 0, 1) := by decide +kernel
theorem dX5_insert_8 : decode cX5_insert 8 = .ok (.getfield 18, 3) := by decide +kernel
theorem dX5_insert_11 : decode cX5_insert 11 = .ok (.bipush 10, 2) := by decide +kernel
theorem dX5_insert_13 : decode cX5_insert 13 = .ok (.if_icmp .lt 4, 3) := by decide +kernel
theorem dX5_insert_16 : decode cX5_insert 16 = .ok (.return_, 1) := by decide +kernel
theorem dX5_insert_17 : decode cX5_insert 17 = .ok (.aload_n 0, 1) := by decide +kernel
theorem dX5_insert_18 : decode cX5_insert 18 = .ok (.getfield 18, 3) := by decide +kernel
theorem dX5_insert_21 : decode cX5_insert 21 = .ok (.istore_n 3, 1) := by decide +kernel
theorem dX5_insert_22 : decode cX5_insert 22 = .ok (.iload_n 3, 1) := by decide +kernel
theorem dX5_insert_23 : decode cX5_insert 23 = .ok (.ifCond .le 49, 3) := by decide +kernel
theorem dX5_insert_26 : decode cX5_insert 26 = .ok (.aload_n 0, 1) := by decide +kernel
theorem dX5_insert_27 : decode cX5_insert 27 = .ok (.getfield 15, 3) := by decide +kernel
theorem dX5_insert_30 : decode cX5_insert 30 = .ok (.iload_n 3, 1) := by decide +kernel
theorem dX5_insert_31 : decode cX5_insert 31 = .ok (.iconst 1, 1) := by decide +kernel
theorem dX5_insert_32 : decode cX5_insert 32 = .ok (.isub, 1) := by decide +kernel
theorem dX5_insert_33 : decode cX5_insert 33 = .ok (.iaload, 1) := by decide +kernel
theorem dX5_insert_34 : decode cX5_insert 34 = .ok (.iload_n 2, 1) := by decide +kernel
theorem dX5_insert_35 : decode cX5_insert 35 = .ok (.if_icmp .ge 37, 3) := by decide +kernel
theorem dX5_insert_38 : decode cX5_insert 38 = .ok (.aload_n 0, 1) := by decide +kernel
theorem dX5_insert_39 : decode cX5_insert 39 = .ok (.getfield 9, 3) := by decide +kernel
theorem dX5_insert_42 : decode cX5_insert 42 = .ok (.iload_n 3, 1) := by decide +kernel
theorem dX5_insert_43 : decode cX5_insert 43 = .ok (.aload_n 0, 1) := by decide +kernel
theorem dX5_insert_44 : decode cX5_insert 44 = .ok (.getfield 9, 3) := by decide +kernel
theorem dX5_insert_47 : decode cX5_insert 47 = .ok (.iload_n 3, 1) := by decide +kernel
theorem dX5_insert_48 : decode cX5_insert 48 = .ok (.iconst 1, 1) := by decide +kernel
theorem dX5_insert_49 : decode cX5_insert 49 = .ok (.isub, 1) := by decide +kernel
theorem dX5_insert_50 : decode cX5_insert 50 = .ok (.iaload, 1) := by decide +kernel
theorem dX5_insert_51 : decode cX5_insert 51 = .ok (.iastore, 1) := by decide +kernel
theorem dX5_insert_52 : decode cX5_insert 52 = .ok (.aload_n 0, 1) := by decide +kernel
theorem dX5_insert_53 : decode cX5_insert 53 = .ok (.getfield 15, 3) := by decide +kernel
theorem dX5_insert_56 : decode cX5_insert 56 = .ok (.iload_n 3, 1) := by decide +kernel
theorem dX5_insert_57 : decode cX5_insert 57 = .ok (.aload_n 0, 1) := by decide +kernel
theorem dX5_insert_58 : decode cX5_insert 58 = .ok (.getfield 15, 3) := by decide +kernel
theorem dX5_insert_61 : decode cX5_insert 61 = .ok (.iload_n 3, 1) := by decide +kernel
theorem dX5_insert_62 : decode cX5_insert 62 = .ok (.iconst 1, 1) := by decide +kernel
theorem dX5_insert_63 : decode cX5_insert 63 = .ok (.isub, 1) := by decide +kernel
theorem dX5_insert_64 : decode cX5_insert 64 = .ok (.iaload, 1) := by decide +kernel
theorem dX5_insert_65 : decode cX5_insert 65 = .ok (.iastore, 1) := by decide +kernel
theorem dX5_insert_66 : decode cX5_insert 66 = .ok (.iinc 3 (-1), 3) := by decide +kernel
theorem dX5_insert_69 : decode cX5_insert 69 = .ok (.goto (-47), 3) := by decide +kernel
theorem dX5_insert_72 : decode cX5_insert 72 = .ok (.aload_n 0, 1) := by decide +kernel
theorem dX5_insert_73 : decode cX5_insert 73 = .ok (.getfield 9, 3) := by decide +kernel
theorem dX5_insert_76 : decode cX5_insert 76 = .ok (.iload_n 3, 1) := by decide +kernel
theorem dX5_insert_77 : decode cX5_insert 77 = .ok (.iload_n 1, 1) := by decide +kernel
theorem dX5_insert_78 : decode cX5_insert 78 = .ok (.iastore, 1) := by decide +kernel
theorem dX5_insert_79 : decode cX5_insert 79 = .ok (.aload_n 0, 1) := by decide +kernel
theorem dX5_insert_80 : decode cX5_insert 80 = .ok (.getfield 15, 3) := by decide +kernel
theorem dX5_insert_83 : decode cX5_insert 83 = .ok (.iload_n 3, 1) := by decide +kernel
theorem dX5_insert_84 : decode cX5_insert 84 = .ok (.iload_n 2, 1) := by decide +kernel
theorem dX5_insert_85 : decode cX5_insert 85 = .ok (.iastore, 1) := by decide +kernel
theorem dX5_insert_86 : decode cX5_insert 86 = .ok (.aload_n 0, 1) := by decide +kernel
theorem dX5_insert_87 : decode cX5_insert 87 = .ok (.dup, 1) := by decide +kernel
theorem dX5_insert_88 : decode cX5_insert 88 = .ok (.getfield 18, 3) := by decide +kernel
theorem dX5_insert_91 : decode cX5_insert 91 = .ok (.iconst 1, 1) := by decide +kernel
theorem dX5_insert_92 : decode cX5_insert 92 = .ok (.iadd, 1) := by decide +kernel
theorem dX5_insert_93 : decode cX5_insert 93 = .ok (.putfield 18, 3) := by decide +kernel
theorem dX5_insert_96 : decode cX5_insert 96 = .ok (.return_, 1) := by decide +kernel
theorem dX5_cells_0 : decode cX5_cells 0 = .ok (.iconst 0, 1) := by decide +kernel
theorem dX5_cells_1 : decode cX5_cells 1 = .ok (.istore_n 1, 1) := by decide +kernel
theorem dX5_cells_2 : decode cX5_cells 2 = .ok (.iconst 0, 1) := by decide +kernel
theorem dX5_cells_3 : decode cX5_cells 3 = .ok (.istore_n 2, 1) := by decide +kernel
theorem dX5_cells_4 : decode cX5_cells 4 = .ok (.iload_n 2, 1) := by decide +kernel
theorem dX5_cells_5 : decode cX5_cells 5 = .ok (.aload_n 0, 1) := by decide +kernel
theorem dX5_cells_6 : decode cX5_cells 6 = .ok (.getfield 18, 3) := by decide +kernel
theorem dX5_cells_9 : decode cX5_cells 9 = .ok (.if_icmp .ge 24, 3) := by decide +kernel
theorem dX5_cells_12 : decode cX5_cells 12 = .ok (.iload_n 2, 1) := by decide +kernel
theorem dX5_cells_13 : decode cX5_cells 13 = .ok (.bipush 10, 2) := by decide +kernel
theorem dX5_cells_15 : decode cX5_cells 15 = .ok (.if_icmp .ge 18, 3) := by decide +kernel
theorem dX5_cells_18 : decode cX5_cells 18 = .ok (.iload_n 1, 1) := by decide +kernel
theorem dX5_cells_19 : decode cX5_cells 19 = .ok (.aload_n 0, 1) := by decide +kernel
theorem dX5_cells_20 : decode cX5_cells 20 = .ok (.getfield 15, 3) := by decide +kernel
theorem dX5_cells_23 : decode cX5_cells 23 = .ok (.iload_n 2, 1) := by decide +kernel
theorem dX5_cells_24 : decode cX5_cells 24 = .ok (.iaload, 1) := by decide +kernel
theorem dX5_cells_25 : decode cX5_cells 25 = .ok (.iadd, 1) := by decide +kernel
theorem dX5_cells_26 : decode cX5_cells 26 = .ok (.istore_n 1, 1) := by decide +kernel
theorem dX5_cells_27 : decode cX5_cells 27 = .ok (.iinc 2 1, 3) := by decide +kernel
theorem dX5_cells_30 : decode cX5_cells 30 = .ok (.goto (-26), 3) := by decide +kernel
theorem dX5_cells_33 : decode cX5_cells 33 = .ok (.iload_n 1, 1) := by decide +kernel
theorem dX5_cells_34 : decode cX5_cells 34 = .ok (.ireturn, 1) := by decide +kernel
theorem dX6_init_0 : decode cX6_init 0 = .ok (.aload_n 0, 1) := by decide +kernel
theorem dX6_init_1 : decode cX6_init 1 = .ok (.invokespecial 3, 3) := by decide +kernel
theorem dX6_init_4 : decode cX6_init 4 = .ok (.aload_n 0, 1) := by decide +kernel
theorem dX6_init_5 : decode cX6_init 5 = .ok (.bipush 60, 2) := by decide +kernel
theorem dX6_init_7 : decode cX6_init 7 = .ok (.newarray .int, 2) := by decide +kernel
theorem dX6_init_9 : decode cX6_init 9 = .ok (.putfield 9, 3) := by decide +kernel
theorem dX6_init_12 : decode cX6_init 12 = .ok (.aload_n 0, 1) := by decide +kernel
theorem dX6_init_13 : decode cX6_init 13 = .ok (.iconst 0, 1) := by decide +kernel
theorem dX6_init_14 : decode cX6_init 14 = .ok (.putfield 15, 3) := by decide +kernel
theorem dX6_init_17 : decode cX6_init 17 = .ok (.return_, 1) := by decide +kernel
theorem dX7_init_0 : decode cX7_init 0 = .ok (.aload_n 0, 1) := by decide +kernel
theorem dX7_init_1 : decode cX7_init 1 = .ok (.invokespecial 3, 3) := by decide +kernel
theorem dX7_init_4 : decode cX7_init 4 = .ok (.aload_n 0, 1) := by decide +kernel
theorem dX7_init_5 : decode cX7_init 5 = .ok (.new 9, 3) := by decide +kernel
theorem dX7_init_8 : decode cX7_init 8 = .ok (.dup, 1) := by decide +kernel
theorem dX7_init_9 : decode cX7_init 9 = .ok (.invokespecial 11, 3) := by decide +kernel
theorem dX7_init_12 : decode cX7_init 12 = .ok (.putfield 12, 3) := by decide +kernel
theorem dX7_init_15 : decode cX7_init 15 = .ok (.aload_n 0, 1) := by decide +kernel
theorem dX7_init_16 : decode cX7_init 16 = .ok (.new 16, 3) := by decide +kernel
theorem dX7_init_19 : decode cX7_init 19 = .ok (.dup, 1) := by decide +kernel
theorem dX7_init_20 : decode cX7_init 20 = .ok (.invokespecial 18, 3) := by decide +kernel
theorem dX7_init_23 : decode cX7_init 23 = .ok (.putfield 19, 3) := by decide +kernel
theorem dX7_init_26 : decode cX7_init 26 = .ok (.aload_n 0, 1) := by decide +kernel
theorem dX7_init_27 : decode cX7_init 27 = .ok (.iconst 2, 1) := by decide +kernel
theorem dX7_init_28 : decode cX7_init 28 = .ok (.anewarray 9, 3) := by decide +kernel
theorem dX7_init_31 : decode cX7_init 31 = .ok (.putfield 23, 3) := by decide +kernel
theorem dX7_init_34 : decode cX7_init 34 = .ok (.aload_n 0, 1) := by decide +kernel
theorem dX7_init_35 : decode cX7_init 35 = .ok (.new 27, 3) := by decide +kernel
theorem dX7_init_38 : decode cX7_init 38 = .ok (.dup, 1) := by decide +kernel
theorem dX7_init_39 : decode cX7_init 39 = .ok (.invokespecial 29, 3) := by decide +kernel
theorem dX7_init_42 : decode cX7_init 42 = .ok (.putfield 30, 3) := by decide +kernel
theorem dX7_init_45 : decode cX7_init 45 = .ok (.aload_n 0, 1) := by decide +kernel
theorem dX7_init_46 : decode cX7_init 46 = .ok (.new 34, 3) := by decide +kernel
theorem dX7_init_49 : decode cX7_init 49 = .ok (.dup, 1) := by decide +kernel
theorem dX7_init_50 : decode cX7_init 50 = .ok (.invokespecial 36, 3) := by decide +kernel
theorem dX7_init_53 : decode cX7_init 53 = .ok (.putfield 37, 3) := by decide +kernel
theorem dX7_init_56 : decode cX7_init 56 = .ok (.aload_n 0, 1) := by decide +kernel
theorem dX7_init_57 : decode cX7_init 57 = .ok (.new 41, 3) := by decide +kernel
theorem dX7_init_60 : decode cX7_init 60 = .ok (.dup, 1) := by decide +kernel
theorem dX7_init_61 : decode cX7_init 61 = .ok (.invokespecial 43, 3) := by decide +kernel
theorem dX7_init_64 : decode cX7_init 64 = .ok (.putfield 44, 3) := by decide +kernel
theorem dX7_init_67 : decode cX7_init 67 = .ok (.aload_n 0, 1) := by decide +kernel
theorem dX7_init_68 : decode cX7_init 68 = .ok (.new 48, 3) := by decide +kernel
theorem dX7_init_71 : decode cX7_init 71 = .ok (.dup, 1) := by decide +kernel
theorem dX7_init_72 : decode cX7_init 72 = .ok (.invokespecial 50, 3) := by decide +kernel
theorem dX7_init_75 : decode cX7_init 75 = .ok (.putfield 51, 3) := by decide +kernel
theorem dX7_init_78 : decode cX7_init 78 = .ok (.return_, 1) := by decide +kernel
theorem dX7_create_0 : decode cX7_create 0 = .ok (.iload_n 1, 1) := by decide +kernel
theorem dX7_create_1 : decode cX7_create 1 = .ok (.iconst 0, 1) := by decide +kernel
theorem dX7_create_2 : decode cX7_create 2 = .ok (.sipush 200, 3) := by decide +kernel
theorem dX7_create_5 : decode cX7_create 5 = .ok (.invokestatic 55, 3) := by decide +kernel
theorem dX7_create_8 : decode cX7_create 8 = .ok (.aload_n 0, 1) := by decide +kernel
theorem dX7_create_9 : decode cX7_create 9 = .ok (.getfield 19, 3) := by decide +kernel
theorem dX7_create_12 : decode cX7_create 12 = .ok (.aload_n 0, 1) := by decide +kernel
theorem dX7_create_13 : decode cX7_create 13 = .ok (.getfield 12, 3) := by decide +kernel
theorem dX7_create_16 : decode cX7_create 16 = .ok (.invokevirtual 59, 3) := by decide +kernel
theorem dX7_create_19 : decode cX7_create 19 = .ok (.aload_n 0, 1) := by decide +kernel
theorem dX7_create_20 : decode cX7_create 20 = .ok (.getfield 12, 3) := by decide +kernel
theorem dX7_create_23 : decode cX7_create 23 = .ok (.iload_n 1, 1) := by decide +kernel
theorem dX7_create_24 : decode cX7_create 24 = .ok (.invokevirtual 63, 3) := by decide +kernel
theorem dX7_create_27 : decode cX7_create 27 = .ok (.ireturn, 1) := by decide +kernel
theorem dX7_grow_0 : decode cX7_grow 0 = .ok (.aload_n 0, 1) := by decide +kernel
theorem dX7_grow_1 : decode cX7_grow 1 = .ok (.iload_n 1, 1) := by decide +kernel
theorem dX7_grow_2 : decode cX7_grow 2 = .ok (.invokevirtual 67, 3) := by decide +kernel
theorem dX7_grow_5 : decode cX7_grow 5 = .ok (.iload_n 2, 1) := by decide +kernel
theorem dX7_grow_6 : decode cX7_grow 6 = .ok (.iconst 1, 1) := by decide +kernel
theorem dX7_grow_7 : decode cX7_grow 7 = .ok (.sipush 200, 3) := by decide +kernel
theorem dX7_grow_10 : decode cX7_grow 10 = .ok (.invokestatic 55, 3) := by decide +kernel
theorem dX7_grow_13 : decode cX7_grow 13 = .ok (.aload_n 0, 1) := by decide +kernel
theorem dX7_grow_14 : decode cX7_grow 14 = .ok (.getfield 19, 3) := by decide +kernel
theorem dX7_grow_17 : decode cX7_grow 17 = .ok (.aload_n 0, 1) := by decide +kernel
theorem dX7_grow_18 : decode cX7_grow 18 = .ok (.getfield 12, 3) := by decide +kernel
theorem dX7_grow_21 : decode cX7_grow 21 = .ok (.invokevirtual 59, 3) := by decide +kernel
theorem dX7_grow_24 : decode cX7_grow 24 = .ok (.aload_n 0, 1) := by decide +kernel
theorem dX7_grow_25 : decode cX7_grow 25 = .ok (.getfield 12, 3) := by decide +kernel
theorem dX7_grow_28 : decode cX7_grow 28 = .ok (.iload_n 1, 1) := by decide +kernel
theorem dX7_grow_29 : decode cX7_grow 29 = .ok (.iload_n 2, 1) := by decide +kernel
theorem dX7_grow_30 : decode cX7_grow 30 = .ok (.invokevirtual 71, 3) := by decide +kernel
theorem dX7_grow_33 : decode cX7_grow 33 = .ok (.ireturn, 1) := by decide +kernel
theorem dX7_cut_0 : decode cX7_cut 0 = .ok (.aload_n 0, 1) := by decide +kernel
theorem dX7_cut_1 : decode cX7_cut 1 = .ok (.iload_n 1, 1) := by decide +kernel
theorem dX7_cut_2 : decode cX7_cut 2 = .ok (.invokevirtual 67, 3) := by decide +kernel
theorem dX7_cut_5 : decode cX7_cut 5 = .ok (.iload_n 2, 1) := by decide +kernel
theorem dX7_cut_6 : decode cX7_cut 6 = .ok (.iconst 1, 1) := by decide +kernel
theorem dX7_cut_7 : decode cX7_cut 7 = .ok (.sipush 200, 3) := by decide +kernel
theorem dX7_cut_10 : decode cX7_cut 10 = .ok (.invokestatic 55, 3) := by decide +kernel
theorem dX7_cut_13 : decode cX7_cut 13 = .ok (.aload_n 0, 1) := by decide +kernel
theorem dX7_cut_14 : decode cX7_cut 14 = .ok (.getfield 19, 3) := by decide +kernel
theorem dX7_cut_17 : decode cX7_cut 17 = .ok (.aload_n 0, 1) := by decide +kernel
theorem dX7_cut_18 : decode cX7_cut 18 = .ok (.getfield 12, 3) := by decide +kernel
theorem dX7_cut_21 : decode cX7_cut 21 = .ok (.invokevirtual 59, 3) := by decide +kernel
theorem dX7_cut_24 : decode cX7_cut 24 = .ok (.aload_n 0, 1) := by decide +kernel
theorem dX7_cut_25 : decode cX7_cut 25 = .ok (.getfield 12, 3) := by decide +kernel
theorem dX7_cut_28 : decode cX7_cut 28 = .ok (.iload_n 1, 1) := by decide +kernel
theorem dX7_cut_29 : decode cX7_cut 29 = .ok (.iload_n 2, 1) := by decide +kernel
theorem dX7_cut_30 : decode cX7_cut 30 = .ok (.invokevirtual 75, 3) := by decide +kernel
theorem dX7_cut_33 : decode cX7_cut 33 = .ok (.ireturn, 1) := by decide +kernel
theorem dX7_delete_0 : decode cX7_delete 0 = .ok (.aload_n 0, 1) := by decide +kernel
theorem dX7_delete_1 : decode cX7_delete 1 = .ok (.iload_n 1, 1) := by decide +kernel
theorem dX7_delete_2 : decode cX7_delete 2 = .ok (.invokevirtual 67, 3) := by decide +kernel
theorem dX7_delete_5 : decode cX7_delete 5 = .ok (.aload_n 0, 1) := by decide +kernel
theorem dX7_delete_6 : decode cX7_delete 6 = .ok (.getfield 19, 3) := by decide +kernel
theorem dX7_delete_9 : decode cX7_delete 9 = .ok (.aload_n 0, 1) := by decide +kernel
theorem dX7_delete_10 : decode cX7_delete 10 = .ok (.getfield 12, 3) := by decide +kernel
theorem dX7_delete_13 : decode cX7_delete 13 = .ok (.invokevirtual 59, 3) := by decide +kernel
theorem dX7_delete_16 : decode cX7_delete 16 = .ok (.aload_n 0, 1) := by decide +kernel
theorem dX7_delete_17 : decode cX7_delete 17 = .ok (.getfield 12, 3) := by decide +kernel
theorem dX7_delete_20 : decode cX7_delete 20 = .ok (.iload_n 1, 1) := by decide +kernel
theorem dX7_delete_21 : decode cX7_delete 21 = .ok (.invokevirtual 78, 3) := by decide +kernel
theorem dX7_delete_24 : decode cX7_delete 24 = .ok (.ireturn, 1) := by decide +kernel
theorem dX7_spoil_0 : decode cX7_spoil 0 = .ok (.iload_n 1, 1) := by decide +kernel
theorem dX7_spoil_1 : decode cX7_spoil 1 = .ok (.invokestatic 81, 3) := by decide +kernel
theorem dX7_spoil_4 : decode cX7_spoil 4 = .ok (.aload_n 0, 1) := by decide +kernel
theorem dX7_spoil_5 : decode cX7_spoil 5 = .ok (.getfield 12, 3) := by decide +kernel
theorem dX7_spoil_8 : decode cX7_spoil 8 = .ok (.iload_n 1, 1) := by decide +kernel
theorem dX7_spoil_9 : decode cX7_spoil 9 = .ok (.invokevirtual 84, 3) := by decide +kernel
theorem dX7_spoil_12 : decode cX7_spoil 12 = .ok (.iconst 3, 1) := by decide +kernel
theorem dX7_spoil_13 : decode cX7_spoil 13 = .ok (.if_icmp .ne 13, 3) := by decide +kernel
theorem dX7_spoil_16 : decode cX7_spoil 16 = .ok (.new 87, 3) := by decide +kernel
theorem dX7_spoil_19 : decode cX7_spoil 19 = .ok (.dup, 1) := by decide +kernel
theorem dX7_spoil_20 : decode cX7_spoil 20 = .ok (.ldc 89, 2) := by decide +kernel
theorem dX7_spoil_22 : decode cX7_spoil 22 = .ok (.invokespecial 91, 3) := by decide +kernel
theorem dX7_spoil_25 : decode cX7_spoil 25 = .ok (.athrow, 1) := by decide +kernel
theorem dX7_spoil_26 : decode cX7_spoil 26 = .ok (.aload_n 0, 1) := by decide +kernel
theorem dX7_spoil_27 : decode cX7_spoil 27 = .ok (.getfield 19, 3) := by decide +kernel
theorem dX7_spoil_30 : decode cX7_spoil 30 = .ok (.aload_n 0, 1) := by decide +kernel
theorem dX7_spoil_31 : decode cX7_spoil 31 = .ok (.getfield 12, 3) := by decide +kernel
theorem dX7_spoil_34 : decode cX7_spoil 34 = .ok (.invokevirtual 59, 3) := by decide +kernel
theorem dX7_spoil_37 : decode cX7_spoil 37 = .ok (.aload_n 0, 1) := by decide +kernel
theorem dX7_spoil_38 : decode cX7_spoil 38 = .ok (.getfield 12, 3) := by decide +kernel
theorem dX7_spoil_41 : decode cX7_spoil 41 = .ok (.iload_n 1, 1) := by decide +kernel
theorem dX7_spoil_42 : decode cX7_spoil 42 = .ok (.invokevirtual 94, 3) := by decide +kernel
theorem dX7_spoil_45 : decode cX7_spoil 45 = .ok (.ireturn, 1) := by decide +kernel
theorem dX7_pack_0 : decode cX7_pack 0 = .ok (.aload_n 0, 1) := by decide +kernel
theorem dX7_pack_1 : decode cX7_pack 1 = .ok (.getfield 19, 3) := by decide +kernel
theorem dX7_pack_4 : decode cX7_pack 4 = .ok (.aload_n 0, 1) := by decide +kernel
theorem dX7_pack_5 : decode cX7_pack 5 = .ok (.getfield 12, 3) := by decide +kernel
theorem dX7_pack_8 : decode cX7_pack 8 = .ok (.invokevirtual 59, 3) := by decide +kernel
theorem dX7_pack_11 : decode cX7_pack 11 = .ok (.aload_n 0, 1) := by decide +kernel
theorem dX7_pack_12 : decode cX7_pack 12 = .ok (.getfield 44, 3) := by decide +kernel
theorem dX7_pack_15 : decode cX7_pack 15 = .ok (.aload_n 0, 1) := by decide +kernel
theorem dX7_pack_16 : decode cX7_pack 16 = .ok (.getfield 12, 3) := by decide +kernel
theorem dX7_pack_19 : decode cX7_pack 19 = .ok (.invokevirtual 111, 3) := by decide +kernel
theorem dX7_pack_22 : decode cX7_pack 22 = .ok (.istore_n 1, 1) := by decide +kernel
theorem dX7_pack_23 : decode cX7_pack 23 = .ok (.iload_n 1, 1) := by decide +kernel
theorem dX7_pack_24 : decode cX7_pack 24 = .ok (.iconst (-1), 1) := by decide +kernel
theorem dX7_pack_25 : decode cX7_pack 25 = .ok (.if_icmp .eq 14, 3) := by decide +kernel
theorem dX7_pack_28 : decode cX7_pack 28 = .ok (.aload_n 0, 1) := by decide +kernel
theorem dX7_pack_29 : decode cX7_pack 29 = .ok (.getfield 44, 3) := by decide +kernel
theorem dX7_pack_32 : decode cX7_pack 32 = .ok (.aload_n 0, 1) := by decide +kernel
theorem dX7_pack_33 : decode cX7_pack 33 = .ok (.getfield 12, 3) := by decide +kernel
theorem dX7_pack_36 : decode cX7_pack 36 = .ok (.invokevirtual 115, 3) := by decide +kernel
theorem dX7_pack_39 : decode cX7_pack 39 = .ok (.iload_n 1, 1) := by decide +kernel
theorem dX7_pack_40 : decode cX7_pack 40 = .ok (.ireturn, 1) := by decide +kernel
theorem dX7_set_0 : decode cX7_set 0 = .ok (.iload_n 1, 1) := by decide +kernel
theorem dX7_set_1 : decode cX7_set 1 = .ok (.iconst 0, 1) := by decide +kernel
theorem dX7_set_2 : decode cX7_set 2 = .ok (.iconst 1, 1) := by decide +kernel
theorem dX7_set_3 : decode cX7_set 3 = .ok (.invokestatic 55, 3) := by decide +kernel
theorem dX7_set_6 : decode cX7_set 6 = .ok (.aload_n 0, 1) := by decide +kernel
theorem dX7_set_7 : decode cX7_set 7 = .ok (.getfield 19, 3) := by decide +kernel
theorem dX7_set_10 : decode cX7_set 10 = .ok (.aload_n 0, 1) := by decide +kernel
theorem dX7_set_11 : decode cX7_set 11 = .ok (.getfield 12, 3) := by decide +kernel
theorem dX7_set_14 : decode cX7_set 14 = .ok (.invokevirtual 59, 3) := by decide +kernel
theorem dX7_set_17 : decode cX7_set 17 = .ok (.aload_n 0, 1) := by decide +kernel
theorem dX7_set_18 : decode cX7_set 18 = .ok (.getfield 12, 3) := by decide +kernel
theorem dX7_set_21 : decode cX7_set 21 = .ok (.getfield 118, 3) := by decide +kernel
theorem dX7_set_24 : decode cX7_set 24 = .ok (.istore_n 2, 1) := by decide +kernel
theorem dX7_set_25 : decode cX7_set 25 = .ok (.aload_n 0, 1) := by decide +kernel
theorem dX7_set_26 : decode cX7_set 26 = .ok (.getfield 12, 3) := by decide +kernel
theorem dX7_set_29 : decode cX7_set 29 = .ok (.iload_n 1, 1) := by decide +kernel
theorem dX7_set_30 : decode cX7_set 30 = .ok (.putfield 118, 3) := by decide +kernel
theorem dX7_set_33 : decode cX7_set 33 = .ok (.iload_n 2, 1) := by decide +kernel
theorem dX7_set_34 : decode cX7_set 34 = .ok (.ireturn, 1) := by decide +kernel
theorem dX7_fileOf_0 : decode cX7_fileOf 0 = .ok (.aload_n 0, 1) := by decide +kernel
theorem dX7_fileOf_1 : decode cX7_fileOf 1 = .ok (.iload_n 1, 1) := by decide +kernel
theorem dX7_fileOf_2 : decode cX7_fileOf 2 = .ok (.invokevirtual 67, 3) := by decide +kernel
theorem dX7_fileOf_5 : decode cX7_fileOf 5 = .ok (.iload_n 2, 1) := by decide +kernel
theorem dX7_fileOf_6 : decode cX7_fileOf 6 = .ok (.iconst 0, 1) := by decide +kernel
theorem dX7_fileOf_7 : decode cX7_fileOf 7 = .ok (.bipush 6, 2) := by decide +kernel
theorem dX7_fileOf_9 : decode cX7_fileOf 9 = .ok (.invokestatic 55, 3) := by decide +kernel
theorem dX7_fileOf_12 : decode cX7_fileOf 12 = .ok (.aload_n 0, 1) := by decide +kernel
theorem dX7_fileOf_13 : decode cX7_fileOf 13 = .ok (.getfield 12, 3) := by decide +kernel
theorem dX7_fileOf_16 : decode cX7_fileOf 16 = .ok (.iload_n 1, 1) := by decide +kernel
theorem dX7_fileOf_17 : decode cX7_fileOf 17 = .ok (.iload_n 2, 1) := by decide +kernel
theorem dX7_fileOf_18 : decode cX7_fileOf 18 = .ok (.invokevirtual 169, 3) := by decide +kernel
theorem dX7_fileOf_21 : decode cX7_fileOf 21 = .ok (.ireturn, 1) := by decide +kernel
theorem dX7_place_0 : decode cX7_place 0 = .ok (.aload_n 0, 1) := by decide +kernel
theorem dX7_place_1 : decode cX7_place 1 = .ok (.iload_n 1, 1) := by decide +kernel
theorem dX7_place_2 : decode cX7_place 2 = .ok (.invokevirtual 67, 3) := by decide +kernel
theorem dX7_place_5 : decode cX7_place 5 = .ok (.iload_n 2, 1) := by decide +kernel
theorem dX7_place_6 : decode cX7_place 6 = .ok (.ifCond .lt 15, 3) := by decide +kernel
theorem dX7_place_9 : decode cX7_place 9 = .ok (.iload_n 2, 1) := by decide +kernel
theorem dX7_place_10 : decode cX7_place 10 = .ok (.aload_n 0, 1) := by decide +kernel
theorem dX7_place_11 : decode cX7_place 11 = .ok (.getfield 12, 3) := by decide +kernel
theorem dX7_place_14 : decode cX7_place 14 = .ok (.iload_n 1, 1) := by decide +kernel
theorem dX7_place_15 : decode cX7_place 15 = .ok (.invokevirtual 172, 3) := by decide +kernel
theorem dX7_place_18 : decode cX7_place 18 = .ok (.if_icmp .lt 13, 3) := by decide +kernel
theorem dX7_place_21 : decode cX7_place 21 = .ok (.new 175, 3) := by decide +kernel
theorem dX7_place_24 : decode cX7_place 24 = .ok (.dup, 1) := by decide +kernel
theorem dX7_place_25 : decode cX7_place 25 = .ok (.ldc 177, 2) := by decide +kernel
theorem dX7_place_27 : decode cX7_place 27 = .ok (.invokespecial 179, 3) := by decide +kernel
theorem dX7_place_30 : decode cX7_place 30 = .ok (.athrow, 1) := by decide +kernel
theorem dX7_place_31 : decode cX7_place 31 = .ok (.aload_n 0, 1) := by decide +kernel
theorem dX7_place_32 : decode cX7_place 32 = .ok (.getfield 12, 3) := by decide +kernel
theorem dX7_place_35 : decode cX7_place 35 = .ok (.iload_n 1, 1) := by decide +kernel
theorem dX7_place_36 : decode cX7_place 36 = .ok (.iload_n 2, 1) := by decide +kernel
theorem dX7_place_37 : decode cX7_place 37 = .ok (.invokevirtual 180, 3) := by decide +kernel
theorem dX7_place_40 : decode cX7_place 40 = .ok (.ireturn, 1) := by decide +kernel
theorem dX7_blockOf_0 : decode cX7_blockOf 0 = .ok (.iload_n 1, 1) := by decide +kernel
theorem dX7_blockOf_1 : decode cX7_blockOf 1 = .ok (.invokestatic 81, 3) := by decide +kernel
theorem dX7_blockOf_4 : decode cX7_blockOf 4 = .ok (.iload_n 2, 1) := by decide +kernel
theorem dX7_blockOf_5 : decode cX7_blockOf 5 = .ok (.iconst 0, 1) := by decide +kernel
theorem dX7_blockOf_6 : decode cX7_blockOf 6 = .ok (.iconst 4, 1) := by decide +kernel
theorem dX7_blockOf_7 : decode cX7_blockOf 7 = .ok (.invokestatic 55, 3) := by decide +kernel
theorem dX7_blockOf_10 : decode cX7_blockOf 10 = .ok (.aload_n 0, 1) := by decide +kernel
theorem dX7_blockOf_11 : decode cX7_blockOf 11 = .ok (.getfield 12, 3) := by decide +kernel
theorem dX7_blockOf_14 : decode cX7_blockOf 14 = .ok (.iload_n 1, 1) := by decide +kernel
theorem dX7_blockOf_15 : decode cX7_blockOf 15 = .ok (.iload_n 2, 1) := by decide +kernel
theorem dX7_blockOf_16 : decode cX7_blockOf 16 = .ok (.invokevirtual 183, 3) := by decide +kernel
theorem dX7_blockOf_19 : decode cX7_blockOf 19 = .ok (.ireturn, 1) := by decide +kernel
theorem dX7_count_0 : decode cX7_count 0 = .ok (.iload_n 1, 1) := by decide +kernel
theorem dX7_count_1 : decode cX7_count 1 = .ok (.iconst 0, 1) := by decide +kernel
theorem dX7_count_2 : decode cX7_count 2 = .ok (.bipush 11, 2) := by decide +kernel
theorem dX7_count_4 : decode cX7_count 4 = .ok (.invokestatic 55, 3) := by decide +kernel
theorem dX7_count_7 : decode cX7_count 7 = .ok (.iload_n 1, 1) := by decide +kernel
theorem dX7_count_8 : decode cX7_count 8 = .ok (.tableswitch 176 0 10 #[60, 68, 77, 86, 95, 104, 124, 144, 152, 160, 168], 60) := by decide +kernel
theorem dX7_count_68 : decode cX7_count 68 = .ok (.aload_n 0, 1) := by decide +kernel
theorem dX7_count_69 : decode cX7_count 69 = .ok (.getfield 12, 3) := by decide +kernel
theorem dX7_count_72 : decode cX7_count 72 = .ok (.invokevirtual 156, 3) := by decide +kernel
theorem dX7_count_75 : decode cX7_count 75 = .ok (.ireturn, 1) := by decide +kernel
theorem dX7_count_76 : decode cX7_count 76 = .ok (.aload_n 0, 1) := by decide +kernel
theorem dX7_count_77 : decode cX7_count 77 = .ok (.getfield 12, 3) := by decide +kernel
theorem dX7_count_80 : decode cX7_count 80 = .ok (.iconst 0, 1) := by decide +kernel
theorem dX7_count_81 : decode cX7_count 81 = .ok (.invokevirtual 108, 3) := by decide +kernel
theorem dX7_count_84 : decode cX7_count 84 = .ok (.ireturn, 1) := by decide +kernel
theorem dX7_count_85 : decode cX7_count 85 = .ok (.aload_n 0, 1) := by decide +kernel
theorem dX7_count_86 : decode cX7_count 86 = .ok (.getfield 12, 3) := by decide +kernel
theorem dX7_count_89 : decode cX7_count 89 = .ok (.iconst 1, 1) := by decide +kernel
theorem dX7_count_90 : decode cX7_count 90 = .ok (.invokevirtual 108, 3) := by decide +kernel
theorem dX7_count_93 : decode cX7_count 93 = .ok (.ireturn, 1) := by decide +kernel
theorem dX7_count_94 : decode cX7_count 94 = .ok (.aload_n 0, 1) := by decide +kernel
theorem dX7_count_95 : decode cX7_count 95 = .ok (.getfield 12, 3) := by decide +kernel
theorem dX7_count_98 : decode cX7_count 98 = .ok (.iconst 2, 1) := by decide +kernel
theorem dX7_count_99 : decode cX7_count 99 = .ok (.invokevirtual 108, 3) := by decide +kernel
theorem dX7_count_102 : decode cX7_count 102 = .ok (.ireturn, 1) := by decide +kernel
theorem dX7_count_103 : decode cX7_count 103 = .ok (.aload_n 0, 1) := by decide +kernel
theorem dX7_count_104 : decode cX7_count 104 = .ok (.getfield 12, 3) := by decide +kernel
theorem dX7_count_107 : decode cX7_count 107 = .ok (.iconst 3, 1) := by decide +kernel
theorem dX7_count_108 : decode cX7_count 108 = .ok (.invokevirtual 108, 3) := by decide +kernel
theorem dX7_count_111 : decode cX7_count 111 = .ok (.ireturn, 1) := by decide +kernel
theorem dX7_count_112 : decode cX7_count 112 = .ok (.bipush 16, 2) := by decide +kernel
theorem dX7_count_114 : decode cX7_count 114 = .ok (.aload_n 0, 1) := by decide +kernel
theorem dX7_count_115 : decode cX7_count 115 = .ok (.getfield 12, 3) := by decide +kernel
theorem dX7_count_118 : decode cX7_count 118 = .ok (.iconst 1, 1) := by decide +kernel
theorem dX7_count_119 : decode cX7_count 119 = .ok (.invokevirtual 108, 3) := by decide +kernel
theorem dX7_count_122 : decode cX7_count 122 = .ok (.imul, 1) := by decide +kernel
theorem dX7_count_123 : decode cX7_count 123 = .ok (.aload_n 0, 1) := by decide +kernel
theorem dX7_count_124 : decode cX7_count 124 = .ok (.getfield 12, 3) := by decide +kernel
theorem dX7_count_127 : decode cX7_count 127 = .ok (.invokevirtual 186, 3) := by decide +kernel
theorem dX7_count_130 : decode cX7_count 130 = .ok (.iadd, 1) := by decide +kernel
theorem dX7_count_131 : decode cX7_count 131 = .ok (.ireturn, 1) := by decide +kernel
theorem dX7_count_132 : decode cX7_count 132 = .ok (.bipush 16, 2) := by decide +kernel
theorem dX7_count_134 : decode cX7_count 134 = .ok (.aload_n 0, 1) := by decide +kernel
theorem dX7_count_135 : decode cX7_count 135 = .ok (.getfield 12, 3) := by decide +kernel
theorem dX7_count_138 : decode cX7_count 138 = .ok (.iconst 2, 1) := by decide +kernel
theorem dX7_count_139 : decode cX7_count 139 = .ok (.invokevirtual 108, 3) := by decide +kernel
theorem dX7_count_142 : decode cX7_count 142 = .ok (.imul, 1) := by decide +kernel
theorem dX7_count_143 : decode cX7_count 143 = .ok (.aload_n 0, 1) := by decide +kernel
theorem dX7_count_144 : decode cX7_count 144 = .ok (.getfield 12, 3) := by decide +kernel
theorem dX7_count_147 : decode cX7_count 147 = .ok (.invokevirtual 186, 3) := by decide +kernel
theorem dX7_count_150 : decode cX7_count 150 = .ok (.isub, 1) := by decide +kernel
theorem dX7_count_151 : decode cX7_count 151 = .ok (.ireturn, 1) := by decide +kernel
theorem dX7_count_152 : decode cX7_count 152 = .ok (.aload_n 0, 1) := by decide +kernel
theorem dX7_count_153 : decode cX7_count 153 = .ok (.getfield 12, 3) := by decide +kernel
theorem dX7_count_156 : decode cX7_count 156 = .ok (.invokevirtual 189, 3) := by decide +kernel
theorem dX7_count_159 : decode cX7_count 159 = .ok (.ireturn, 1) := by decide +kernel
theorem dX7_count_160 : decode cX7_count 160 = .ok (.aload_n 0, 1) := by decide +kernel
theorem dX7_count_161 : decode cX7_count 161 = .ok (.getfield 12, 3) := by decide +kernel
theorem dX7_count_164 : decode cX7_count 164 = .ok (.getfield 192, 3) := by decide +kernel
theorem dX7_count_167 : decode cX7_count 167 = .ok (.ireturn, 1) := by decide +kernel
theorem dX7_count_168 : decode cX7_count 168 = .ok (.aload_n 0, 1) := by decide +kernel
theorem dX7_count_169 : decode cX7_count 169 = .ok (.getfield 12, 3) := by decide +kernel
theorem dX7_count_172 : decode cX7_count 172 = .ok (.getfield 195, 3) := by decide +kernel
theorem dX7_count_175 : decode cX7_count 175 = .ok (.ireturn, 1) := by decide +kernel
theorem dX7_count_176 : decode cX7_count 176 = .ok (.aload_n 0, 1) := by decide +kernel
theorem dX7_count_177 : decode cX7_count 177 = .ok (.getfield 12, 3) := by decide +kernel
theorem dX7_count_180 : decode cX7_count 180 = .ok (.getfield 118, 3) := by decide +kernel
theorem dX7_count_183 : decode cX7_count 183 = .ok (.ireturn, 1) := by decide +kernel
theorem dX7_count_184 : decode cX7_count 184 = .ok (.aload_n 0, 1) := by decide +kernel
theorem dX7_count_185 : decode cX7_count 185 = .ok (.getfield 19, 3) := by decide +kernel
theorem dX7_count_188 : decode cX7_count 188 = .ok (.invokevirtual 161, 3) := by decide +kernel
theorem dX7_count_191 : decode cX7_count 191 = .ok (.ireturn, 1) := by decide +kernel
theorem dX7_ifGrown_0 : decode cX7_ifGrown 0 = .ok (.aload_n 0, 1) := by decide +kernel
theorem dX7_ifGrown_1 : decode cX7_ifGrown 1 = .ok (.iload_n 1, 1) := by decide +kernel
theorem dX7_ifGrown_2 : decode cX7_ifGrown 2 = .ok (.invokevirtual 67, 3) := by decide +kernel
theorem dX7_ifGrown_5 : decode cX7_ifGrown 5 = .ok (.iload_n 2, 1) := by decide +kernel
theorem dX7_ifGrown_6 : decode cX7_ifGrown 6 = .ok (.iconst 1, 1) := by decide +kernel
theorem dX7_ifGrown_7 : decode cX7_ifGrown 7 = .ok (.sipush 200, 3) := by decide +kernel
theorem dX7_ifGrown_10 : decode cX7_ifGrown 10 = .ok (.invokestatic 55, 3) := by decide +kernel
theorem dX7_ifGrown_13 : decode cX7_ifGrown 13 = .ok (.aload_n 0, 1) := by decide +kernel
theorem dX7_ifGrown_14 : decode cX7_ifGrown 14 = .ok (.getfield 12, 3) := by decide +kernel
theorem dX7_ifGrown_17 : decode cX7_ifGrown 17 = .ok (.iload_n 1, 1) := by decide +kernel
theorem dX7_ifGrown_18 : decode cX7_ifGrown 18 = .ok (.iload_n 2, 1) := by decide +kernel
theorem dX7_ifGrown_19 : decode cX7_ifGrown 19 = .ok (.invokevirtual 201, 3) := by decide +kernel
theorem dX7_ifGrown_22 : decode cX7_ifGrown 22 = .ok (.ireturn, 1) := by decide +kernel
theorem dX7_greatest_0 : decode cX7_greatest 0 = .ok (.sipush 200, 3) := by decide +kernel
theorem dX7_greatest_3 : decode cX7_greatest 3 = .ok (.istore_n 1, 1) := by decide +kernel
theorem dX7_greatest_4 : decode cX7_greatest 4 = .ok (.iload_n 1, 1) := by decide +kernel
theorem dX7_greatest_5 : decode cX7_greatest 5 = .ok (.ifCond .lt 22, 3) := by decide +kernel
theorem dX7_greatest_8 : decode cX7_greatest 8 = .ok (.aload_n 0, 1) := by decide +kernel
theorem dX7_greatest_9 : decode cX7_greatest 9 = .ok (.getfield 12, 3) := by decide +kernel
theorem dX7_greatest_12 : decode cX7_greatest 12 = .ok (.iload_n 1, 1) := by decide +kernel
theorem dX7_greatest_13 : decode cX7_greatest 13 = .ok (.invokevirtual 204, 3) := by decide +kernel
theorem dX7_greatest_16 : decode cX7_greatest 16 = .ok (.ifCond .eq 5, 3) := by decide +kernel
theorem dX7_greatest_19 : decode cX7_greatest 19 = .ok (.iload_n 1, 1) := by decide +kernel
theorem dX7_greatest_20 : decode cX7_greatest 20 = .ok (.ireturn, 1) := by decide +kernel
theorem dX7_greatest_21 : decode cX7_greatest 21 = .ok (.iinc 1 (-1), 3) := by decide +kernel
theorem dX7_greatest_24 : decode cX7_greatest 24 = .ok (.goto (-20), 3) := by decide +kernel
theorem dX7_greatest_27 : decode cX7_greatest 27 = .ok (.iconst (-1), 1) := by decide +kernel
theorem dX7_greatest_28 : decode cX7_greatest 28 = .ok (.ireturn, 1) := by decide +kernel
theorem dX7_fewest_0 : decode cX7_fewest 0 = .ok (.iload_n 1, 1) := by decide +kernel
theorem dX7_fewest_1 : decode cX7_fewest 1 = .ok (.iconst 0, 1) := by decide +kernel
theorem dX7_fewest_2 : decode cX7_fewest 2 = .ok (.iconst 1, 1) := by decide +kernel
theorem dX7_fewest_3 : decode cX7_fewest 3 = .ok (.invokestatic 55, 3) := by decide +kernel
theorem dX7_fewest_6 : decode cX7_fewest 6 = .ok (.iload_n 1, 1) := by decide +kernel
theorem dX7_fewest_7 : decode cX7_fewest 7 = .ok (.ifCond .ne 17, 3) := by decide +kernel
theorem dX7_fewest_10 : decode cX7_fewest 10 = .ok (.aload_n 0, 1) := by decide +kernel
theorem dX7_fewest_11 : decode cX7_fewest 11 = .ok (.getfield 51, 3) := by decide +kernel
theorem dX7_fewest_14 : decode cX7_fewest 14 = .ok (.aload_n 0, 1) := by decide +kernel
theorem dX7_fewest_15 : decode cX7_fewest 15 = .ok (.getfield 12, 3) := by decide +kernel
theorem dX7_fewest_18 : decode cX7_fewest 18 = .ok (.invokevirtual 207, 3) := by decide +kernel
theorem dX7_fewest_21 : decode cX7_fewest 21 = .ok (.goto 14, 3) := by decide +kernel
theorem dX7_fewest_24 : decode cX7_fewest 24 = .ok (.aload_n 0, 1) := by decide +kernel
theorem dX7_fewest_25 : decode cX7_fewest 25 = .ok (.getfield 51, 3) := by decide +kernel
theorem dX7_fewest_28 : decode cX7_fewest 28 = .ok (.aload_n 0, 1) := by decide +kernel
theorem dX7_fewest_29 : decode cX7_fewest 29 = .ok (.getfield 12, 3) := by decide +kernel
theorem dX7_fewest_32 : decode cX7_fewest 32 = .ok (.invokevirtual 210, 3) := by decide +kernel
theorem dX7_fewest_35 : decode cX7_fewest 35 = .ok (.ireturn, 1) := by decide +kernel
theorem dX7_ifPacked_0 : decode cX7_ifPacked 0 = .ok (.aload_n 0, 1) := by decide +kernel
theorem dX7_ifPacked_1 : decode cX7_ifPacked 1 = .ok (.getfield 44, 3) := by decide +kernel
theorem dX7_ifPacked_4 : decode cX7_ifPacked 4 = .ok (.aload_n 0, 1) := by decide +kernel
theorem dX7_ifPacked_5 : decode cX7_ifPacked 5 = .ok (.getfield 12, 3) := by decide +kernel
theorem dX7_ifPacked_8 : decode cX7_ifPacked 8 = .ok (.invokevirtual 111, 3) := by decide +kernel
theorem dX7_ifPacked_11 : decode cX7_ifPacked 11 = .ok (.ireturn, 1) := by decide +kernel
theorem dX7_weakest_0 : decode cX7_weakest 0 = .ok (.iconst (-1), 1) := by decide +kernel
theorem dX7_weakest_1 : decode cX7_weakest 1 = .ok (.istore_n 1, 1) := by decide +kernel
theorem dX7_weakest_2 : decode cX7_weakest 2 = .ok (.iconst 0, 1) := by decide +kernel
theorem dX7_weakest_3 : decode cX7_weakest 3 = .ok (.istore_n 2, 1) := by decide +kernel
theorem dX7_weakest_4 : decode cX7_weakest 4 = .ok (.iconst 0, 1) := by decide +kernel
theorem dX7_weakest_5 : decode cX7_weakest 5 = .ok (.istore_n 3, 1) := by decide +kernel
theorem dX7_weakest_6 : decode cX7_weakest 6 = .ok (.iload_n 3, 1) := by decide +kernel
theorem dX7_weakest_7 : decode cX7_weakest 7 = .ok (.bipush 24, 2) := by decide +kernel
theorem dX7_weakest_9 : decode cX7_weakest 9 = .ok (.if_icmp .ge 46, 3) := by decide +kernel
theorem dX7_weakest_12 : decode cX7_weakest 12 = .ok (.aload_n 0, 1) := by decide +kernel
theorem dX7_weakest_13 : decode cX7_weakest 13 = .ok (.getfield 12, 3) := by decide +kernel
theorem dX7_weakest_16 : decode cX7_weakest 16 = .ok (.iload_n 3, 1) := by decide +kernel
theorem dX7_weakest_17 : decode cX7_weakest 17 = .ok (.invokevirtual 84, 3) := by decide +kernel
theorem dX7_weakest_20 : decode cX7_weakest 20 = .ok (.iconst 3, 1) := by decide +kernel
theorem dX7_weakest_21 : decode cX7_weakest 21 = .ok (.if_icmp .ne 7, 3) := by decide +kernel
theorem dX7_weakest_24 : decode cX7_weakest 24 = .ok (.iconst 0, 1) := by decide +kernel
theorem dX7_weakest_25 : decode cX7_weakest 25 = .ok (.goto 11, 3) := by decide +kernel
theorem dX7_weakest_28 : decode cX7_weakest 28 = .ok (.aload_n 0, 1) := by decide +kernel
theorem dX7_weakest_29 : decode cX7_weakest 29 = .ok (.getfield 12, 3) := by decide +kernel
theorem dX7_weakest_32 : decode cX7_weakest 32 = .ok (.iload_n 3, 1) := by decide +kernel
theorem dX7_weakest_33 : decode cX7_weakest 33 = .ok (.invokevirtual 213, 3) := by decide +kernel
theorem dX7_weakest_36 : decode cX7_weakest 36 = .ok (.istore 4, 2) := by decide +kernel
theorem dX7_weakest_38 : decode cX7_weakest 38 = .ok (.iload 4, 2) := by decide +kernel
theorem dX7_weakest_40 : decode cX7_weakest 40 = .ok (.iload_n 2, 1) := by decide +kernel
theorem dX7_weakest_41 : decode cX7_weakest 41 = .ok (.if_icmp .le 8, 3) := by decide +kernel
theorem dX7_weakest_44 : decode cX7_weakest 44 = .ok (.iload 4, 2) := by decide +kernel
theorem dX7_weakest_46 : decode cX7_weakest 46 = .ok (.istore_n 2, 1) := by decide +kernel
theorem dX7_weakest_47 : decode cX7_weakest 47 = .ok (.iload_n 3, 1) := by decide +kernel
theorem dX7_weakest_48 : decode cX7_weakest 48 = .ok (.istore_n 1, 1) := by decide +kernel
theorem dX7_weakest_49 : decode cX7_weakest 49 = .ok (.iinc 3 1, 3) := by decide +kernel
theorem dX7_weakest_52 : decode cX7_weakest 52 = .ok (.goto (-46), 3) := by decide +kernel
theorem dX7_weakest_55 : decode cX7_weakest 55 = .ok (.iload_n 1, 1) := by decide +kernel
theorem dX7_weakest_56 : decode cX7_weakest 56 = .ok (.ireturn, 1) := by decide +kernel
theorem dX7_checkFile_0 : decode cX7_checkFile 0 = .ok (.aload_n 0, 1) := by decide +kernel
theorem dX7_checkFile_1 : decode cX7_checkFile 1 = .ok (.getfield 12, 3) := by decide +kernel
theorem dX7_checkFile_4 : decode cX7_checkFile 4 = .ok (.iload_n 1, 1) := by decide +kernel
theorem dX7_checkFile_5 : decode cX7_checkFile 5 = .ok (.invokevirtual 225, 3) := by decide +kernel
theorem dX7_checkFile_8 : decode cX7_checkFile 8 = .ok (.ifCond .ne 14, 3) := by decide +kernel
theorem dX7_checkFile_11 : decode cX7_checkFile 11 = .ok (.new 175, 3) := by decide +kernel
theorem dX7_checkFile_14 : decode cX7_checkFile 14 = .ok (.dup, 1) := by decide +kernel
theorem dX7_checkFile_15 : decode cX7_checkFile 15 = .ok (.ldc_w 286, 3) := by decide +kernel
theorem dX7_checkFile_18 : decode cX7_checkFile 18 = .ok (.invokespecial 179, 3) := by decide +kernel
theorem dX7_checkFile_21 : decode cX7_checkFile 21 = .ok (.athrow, 1) := by decide +kernel
theorem dX7_checkFile_22 : decode cX7_checkFile 22 = .ok (.return_, 1) := by decide +kernel
theorem dX7_checkBlock_0 : decode cX7_checkBlock 0 = .ok (.iload_n 0, 1) := by decide +kernel
theorem dX7_checkBlock_1 : decode cX7_checkBlock 1 = .ok (.invokestatic 288, 3) := by decide +kernel
theorem dX7_checkBlock_4 : decode cX7_checkBlock 4 = .ok (.ifCond .ne 14, 3) := by decide +kernel
theorem dX7_checkBlock_7 : decode cX7_checkBlock 7 = .ok (.new 175, 3) := by decide +kernel
theorem dX7_checkBlock_10 : decode cX7_checkBlock 10 = .ok (.dup, 1) := by decide +kernel
theorem dX7_checkBlock_11 : decode cX7_checkBlock 11 = .ok (.ldc_w 291, 3) := by decide +kernel
theorem dX7_checkBlock_14 : decode cX7_checkBlock 14 = .ok (.invokespecial 179, 3) := by decide +kernel
theorem dX7_checkBlock_17 : decode cX7_checkBlock 17 = .ok (.athrow, 1) := by decide +kernel
theorem dX7_checkBlock_18 : decode cX7_checkBlock 18 = .ok (.return_, 1) := by decide +kernel
theorem dX7_checkArgument_0 : decode cX7_checkArgument 0 = .ok (.iload_n 0, 1) := by decide +kernel
theorem dX7_checkArgument_1 : decode cX7_checkArgument 1 = .ok (.iload_n 1, 1) := by decide +kernel
theorem dX7_checkArgument_2 : decode cX7_checkArgument 2 = .ok (.if_icmp .lt 8, 3) := by decide +kernel
theorem dX7_checkArgument_5 : decode cX7_checkArgument 5 = .ok (.iload_n 0, 1) := by decide +kernel
theorem dX7_checkArgument_6 : decode cX7_checkArgument 6 = .ok (.iload_n 2, 1) := by decide +kernel
theorem dX7_checkArgument_7 : decode cX7_checkArgument 7 = .ok (.if_icmp .le 14, 3) := by decide +kernel
theorem dX7_checkArgument_10 : decode cX7_checkArgument 10 = .ok (.new 145, 3) := by decide +kernel
theorem dX7_checkArgument_13 : decode cX7_checkArgument 13 = .ok (.dup, 1) := by decide +kernel
theorem dX7_checkArgument_14 : decode cX7_checkArgument 14 = .ok (.ldc_w 293, 3) := by decide +kernel
theorem dX7_checkArgument_17 : decode cX7_checkArgument 17 = .ok (.invokespecial 149, 3) := by decide +kernel
theorem dX7_checkArgument_20 : decode cX7_checkArgument 20 = .ok (.athrow, 1) := by decide +kernel
theorem dX7_checkArgument_21 : decode cX7_checkArgument 21 = .ok (.return_, 1) := by decide +kernel
theorem dX7_isBlock_0 : decode cX7_isBlock 0 = .ok (.iload_n 0, 1) := by decide +kernel
theorem dX7_isBlock_1 : decode cX7_isBlock 1 = .ok (.ifCond .lt 13, 3) := by decide +kernel
theorem dX7_isBlock_4 : decode cX7_isBlock 4 = .ok (.iload_n 0, 1) := by decide +kernel
theorem dX7_isBlock_5 : decode cX7_isBlock 5 = .ok (.bipush 24, 2) := by decide +kernel
theorem dX7_isBlock_7 : decode cX7_isBlock 7 = .ok (.if_icmp .ge 7, 3) := by decide +kernel
theorem dX7_isBlock_10 : decode cX7_isBlock 10 = .ok (.iconst 1, 1) := by decide +kernel
theorem dX7_isBlock_11 : decode cX7_isBlock 11 = .ok (.goto 4, 3) := by decide +kernel
theorem dX7_isBlock_14 : decode cX7_isBlock 14 = .ok (.iconst 0, 1) := by decide +kernel
theorem dX7_isBlock_15 : decode cX7_isBlock 15 = .ok (.ireturn, 1) := by decide +kernel
theorem dJ6_bitCount_0f7a4_0 : decode cJ6_bitCount_0f7a4 0 = .ok (.iload_n 0, 1) := by decide +kernel
theorem dJ6_bitCount_0f7a4_1 : decode cJ6_bitCount_0f7a4 1 = .ok (.iload_n 0, 1) := by decide +kernel
theorem dJ6_bitCount_0f7a4_2 : decode cJ6_bitCount_0f7a4 2 = .ok (.iconst 1, 1) := by decide +kernel
theorem dJ6_bitCount_0f7a4_3 : decode cJ6_bitCount_0f7a4 3 = .ok (.iushr, 1) := by decide +kernel
theorem dJ6_bitCount_0f7a4_4 : decode cJ6_bitCount_0f7a4 4 = .ok (.ldc_w 265, 3) := by decide +kernel
theorem dJ6_bitCount_0f7a4_7 : decode cJ6_bitCount_0f7a4 7 = .ok (.iand, 1) := by decide +kernel
theorem dJ6_bitCount_0f7a4_8 : decode cJ6_bitCount_0f7a4 8 = .ok (.isub, 1) := by decide +kernel
theorem dJ6_bitCount_0f7a4_9 : decode cJ6_bitCount_0f7a4 9 = .ok (.istore_n 0, 1) := by decide +kernel
theorem dJ6_bitCount_0f7a4_10 : decode cJ6_bitCount_0f7a4 10 = .ok (.iload_n 0, 1) := by decide +kernel
theorem dJ6_bitCount_0f7a4_11 : decode cJ6_bitCount_0f7a4 11 = .ok (.ldc_w 266, 3) := by decide +kernel
theorem dJ6_bitCount_0f7a4_14 : decode cJ6_bitCount_0f7a4 14 = .ok (.iand, 1) := by decide +kernel
theorem dJ6_bitCount_0f7a4_15 : decode cJ6_bitCount_0f7a4 15 = .ok (.iload_n 0, 1) := by decide +kernel
theorem dJ6_bitCount_0f7a4_16 : decode cJ6_bitCount_0f7a4 16 = .ok (.iconst 2, 1) := by decide +kernel
theorem dJ6_bitCount_0f7a4_17 : decode cJ6_bitCount_0f7a4 17 = .ok (.iushr, 1) := by decide +kernel
theorem dJ6_bitCount_0f7a4_18 : decode cJ6_bitCount_0f7a4 18 = .ok (.ldc_w 266, 3) := by decide +kernel
theorem dJ6_bitCount_0f7a4_21 : decode cJ6_bitCount_0f7a4 21 = .ok (.iand, 1) := by decide +kernel
theorem dJ6_bitCount_0f7a4_22 : decode cJ6_bitCount_0f7a4 22 = .ok (.iadd, 1) := by decide +kernel
theorem dJ6_bitCount_0f7a4_23 : decode cJ6_bitCount_0f7a4 23 = .ok (.istore_n 0, 1) := by decide +kernel
theorem dJ6_bitCount_0f7a4_24 : decode cJ6_bitCount_0f7a4 24 = .ok (.iload_n 0, 1) := by decide +kernel
theorem dJ6_bitCount_0f7a4_25 : decode cJ6_bitCount_0f7a4 25 = .ok (.iload_n 0, 1) := by decide +kernel
theorem dJ6_bitCount_0f7a4_26 : decode cJ6_bitCount_0f7a4 26 = .ok (.iconst 4, 1) := by decide +kernel
theorem dJ6_bitCount_0f7a4_27 : decode cJ6_bitCount_0f7a4 27 = .ok (.iushr, 1) := by decide +kernel
theorem dJ6_bitCount_0f7a4_28 : decode cJ6_bitCount_0f7a4 28 = .ok (.iadd, 1) := by decide +kernel
theorem dJ6_bitCount_0f7a4_29 : decode cJ6_bitCount_0f7a4 29 = .ok (.ldc_w 267, 3) := by decide +kernel
theorem dJ6_bitCount_0f7a4_32 : decode cJ6_bitCount_0f7a4 32 = .ok (.iand, 1) := by decide +kernel
theorem dJ6_bitCount_0f7a4_33 : decode cJ6_bitCount_0f7a4 33 = .ok (.istore_n 0, 1) := by decide +kernel
theorem dJ6_bitCount_0f7a4_34 : decode cJ6_bitCount_0f7a4 34 = .ok (.iload_n 0, 1) := by decide +kernel
theorem dJ6_bitCount_0f7a4_35 : decode cJ6_bitCount_0f7a4 35 = .ok (.iload_n 0, 1) := by decide +kernel
theorem dJ6_bitCount_0f7a4_36 : decode cJ6_bitCount_0f7a4 36 = .ok (.bipush 8, 2) := by decide +kernel
theorem dJ6_bitCount_0f7a4_38 : decode cJ6_bitCount_0f7a4 38 = .ok (.iushr, 1) := by decide +kernel
theorem dJ6_bitCount_0f7a4_39 : decode cJ6_bitCount_0f7a4 39 = .ok (.iadd, 1) := by decide +kernel
theorem dJ6_bitCount_0f7a4_40 : decode cJ6_bitCount_0f7a4 40 = .ok (.istore_n 0, 1) := by decide +kernel
theorem dJ6_bitCount_0f7a4_41 : decode cJ6_bitCount_0f7a4 41 = .ok (.iload_n 0, 1) := by decide +kernel
theorem dJ6_bitCount_0f7a4_42 : decode cJ6_bitCount_0f7a4 42 = .ok (.iload_n 0, 1) := by decide +kernel
theorem dJ6_bitCount_0f7a4_43 : decode cJ6_bitCount_0f7a4 43 = .ok (.bipush 16, 2) := by decide +kernel
theorem dJ6_bitCount_0f7a4_45 : decode cJ6_bitCount_0f7a4 45 = .ok (.iushr, 1) := by decide +kernel
theorem dJ6_bitCount_0f7a4_46 : decode cJ6_bitCount_0f7a4 46 = .ok (.iadd, 1) := by decide +kernel
theorem dJ6_bitCount_0f7a4_47 : decode cJ6_bitCount_0f7a4 47 = .ok (.istore_n 0, 1) := by decide +kernel
theorem dJ6_bitCount_0f7a4_48 : decode cJ6_bitCount_0f7a4 48 = .ok (.iload_n 0, 1) := by decide +kernel
theorem dJ6_bitCount_0f7a4_49 : decode cJ6_bitCount_0f7a4 49 = .ok (.bipush 63, 2) := by decide +kernel
theorem dJ6_bitCount_0f7a4_51 : decode cJ6_bitCount_0f7a4 51 = .ok (.iand, 1) := by decide +kernel
theorem dJ6_bitCount_0f7a4_52 : decode cJ6_bitCount_0f7a4 52 = .ok (.ireturn, 1) := by decide +kernel
theorem dJ9_max_7cf53_0 : decode cJ9_max_7cf53 0 = .ok (.iload_n 0, 1) := by decide +kernel
theorem dJ9_max_7cf53_1 : decode cJ9_max_7cf53 1 = .ok (.iload_n 1, 1) := by decide +kernel
theorem dJ9_max_7cf53_2 : decode cJ9_max_7cf53 2 = .ok (.if_icmp .lt 7, 3) := by decide +kernel
theorem dJ9_max_7cf53_5 : decode cJ9_max_7cf53 5 = .ok (.iload_n 0, 1) := by decide +kernel
theorem dJ9_max_7cf53_6 : decode cJ9_max_7cf53 6 = .ok (.goto 4, 3) := by decide +kernel
theorem dJ9_max_7cf53_9 : decode cJ9_max_7cf53 9 = .ok (.iload_n 1, 1) := by decide +kernel
theorem dJ9_max_7cf53_10 : decode cJ9_max_7cf53 10 = .ok (.ireturn, 1) := by decide +kernel
theorem dL_cell_0 : decode cL_cell 0 = .ok (.iload_n 1, 1) := by decide +kernel
theorem dL_cell_1 : decode cL_cell 1 = .ok (.aload_n 0, 1) := by decide +kernel
theorem dL_cell_2 : decode cL_cell 2 = .ok (.arraylength, 1) := by decide +kernel
theorem dL_cell_3 : decode cL_cell 3 = .ok (.if_icmp .ge 9, 3) := by decide +kernel
theorem dL_cell_6 : decode cL_cell 6 = .ok (.aload_n 0, 1) := by decide +kernel
theorem dL_cell_7 : decode cL_cell 7 = .ok (.iload_n 1, 1) := by decide +kernel
theorem dL_cell_8 : decode cL_cell 8 = .ok (.iaload, 1) := by decide +kernel
theorem dL_cell_9 : decode cL_cell 9 = .ok (.goto 11, 3) := by decide +kernel
theorem dL_cell_12 : decode cL_cell 12 = .ok (.ldc 7, 2) := by decide +kernel
theorem dL_cell_14 : decode cL_cell 14 = .ok (.iload_n 1, 1) := by decide +kernel
theorem dL_cell_15 : decode cL_cell 15 = .ok (.imul, 1) := by decide +kernel
theorem dL_cell_16 : decode cL_cell 16 = .ok (.sipush 30403, 3) := by decide +kernel
theorem dL_cell_19 : decode cL_cell 19 = .ok (.iadd, 1) := by decide +kernel
theorem dL_cell_20 : decode cL_cell 20 = .ok (.ireturn, 1) := by decide +kernel
theorem dL_low_0 : decode cL_low 0 = .ok (.iload_n 0, 1) := by decide +kernel
theorem dL_low_1 : decode cL_low 1 = .ok (.ldc 8, 2) := by decide +kernel
theorem dL_low_3 : decode cL_low 3 = .ok (.iand, 1) := by decide +kernel
theorem dL_low_4 : decode cL_low 4 = .ok (.iload_n 1, 1) := by decide +kernel
theorem dL_low_5 : decode cL_low 5 = .ok (.irem, 1) := by decide +kernel
theorem dL_low_6 : decode cL_low 6 = .ok (.ireturn, 1) := by decide +kernel
theorem dL_has_0 : decode cL_has 0 = .ok (.iload_n 0, 1) := by decide +kernel
theorem dL_has_1 : decode cL_has 1 = .ok (.iload_n 1, 1) := by decide +kernel
theorem dL_has_2 : decode cL_has 2 = .ok (.ishr, 1) := by decide +kernel
theorem dL_has_3 : decode cL_has 3 = .ok (.iconst 1, 1) := by decide +kernel
theorem dL_has_4 : decode cL_has 4 = .ok (.iand, 1) := by decide +kernel
theorem dL_has_5 : decode cL_has 5 = .ok (.iconst 1, 1) := by decide +kernel
theorem dL_has_6 : decode cL_has 6 = .ok (.if_icmp .ne 7, 3) := by decide +kernel
theorem dL_has_9 : decode cL_has 9 = .ok (.iconst 1, 1) := by decide +kernel
theorem dL_has_10 : decode cL_has 10 = .ok (.goto 4, 3) := by decide +kernel
theorem dL_has_13 : decode cL_has 13 = .ok (.iconst 0, 1) := by decide +kernel
theorem dL_has_14 : decode cL_has 14 = .ok (.ireturn, 1) := by decide +kernel
theorem dL_places_0 : decode cL_places 0 = .ok (.bipush 24, 2) := by decide +kernel
theorem dL_places_2 : decode cL_places 2 = .ok (.newarray .int, 2) := by decide +kernel
theorem dL_places_4 : decode cL_places 4 = .ok (.astore_n 2, 1) := by decide +kernel
theorem dL_places_5 : decode cL_places 5 = .ok (.iconst 0, 1) := by decide +kernel
theorem dL_places_6 : decode cL_places 6 = .ok (.istore_n 3, 1) := by decide +kernel
theorem dL_places_7 : decode cL_places 7 = .ok (.iconst 0, 1) := by decide +kernel
theorem dL_places_8 : decode cL_places 8 = .ok (.istore 4, 2) := by decide +kernel
theorem dL_places_10 : decode cL_places 10 = .ok (.iconst 0, 1) := by decide +kernel
theorem dL_places_11 : decode cL_places 11 = .ok (.istore 5, 2) := by decide +kernel
theorem dL_places_13 : decode cL_places 13 = .ok (.iload 5, 2) := by decide +kernel
theorem dL_places_15 : decode cL_places 15 = .ok (.bipush 10, 2) := by decide +kernel
theorem dL_places_17 : decode cL_places 17 = .ok (.if_icmp .ge 288, 3) := by decide +kernel
theorem dL_places_20 : decode cL_places 20 = .ok (.iload_n 1, 1) := by decide +kernel
theorem dL_places_21 : decode cL_places 21 = .ok (.iload 5, 2) := by decide +kernel
theorem dL_places_23 : decode cL_places 23 = .ok (.invokestatic 9, 3) := by decide +kernel
theorem dL_places_26 : decode cL_places 26 = .ok (.ifCond .eq 13, 3) := by decide +kernel
theorem dL_places_29 : decode cL_places 29 = .ok (.aload_n 0, 1) := by decide +kernel
theorem dL_places_30 : decode cL_places 30 = .ok (.iload 5, 2) := by decide +kernel
theorem dL_places_32 : decode cL_places 32 = .ok (.iconst 0, 1) := by decide +kernel
theorem dL_places_33 : decode cL_places 33 = .ok (.invokevirtual 15, 3) := by decide +kernel
theorem dL_places_36 : decode cL_places 36 = .ok (.goto 4, 3) := by decide +kernel
theorem dL_places_39 : decode cL_places 39 = .ok (.iconst 0, 1) := by decide +kernel
theorem dL_places_40 : decode cL_places 40 = .ok (.istore 6, 2) := by decide +kernel
theorem dL_places_42 : decode cL_places 42 = .ok (.iconst 0, 1) := by decide +kernel
theorem dL_places_43 : decode cL_places 43 = .ok (.istore 7, 2) := by decide +kernel
theorem dL_places_45 : decode cL_places 45 = .ok (.iconst 0, 1) := by decide +kernel
theorem dL_places_46 : decode cL_places 46 = .ok (.istore 8, 2) := by decide +kernel
theorem dL_places_48 : decode cL_places 48 = .ok (.iload 8, 2) := by decide +kernel
theorem dL_places_50 : decode cL_places 50 = .ok (.iload 6, 2) := by decide +kernel
theorem dL_places_52 : decode cL_places 52 = .ok (.if_icmp .ge 195, 3) := by decide +kernel
theorem dL_places_55 : decode cL_places 55 = .ok (.aload_n 0, 1) := by decide +kernel
theorem dL_places_56 : decode cL_places 56 = .ok (.iload 5, 2) := by decide +kernel
theorem dL_places_58 : decode cL_places 58 = .ok (.iload 8, 2) := by decide +kernel
theorem dL_places_60 : decode cL_places 60 = .ok (.invokevirtual 21, 3) := by decide +kernel
theorem dL_places_63 : decode cL_places 63 = .ok (.istore 9, 2) := by decide +kernel
theorem dL_places_65 : decode cL_places 65 = .ok (.iload 7, 2) := by decide +kernel
theorem dL_places_67 : decode cL_places 67 = .ok (.ifCond .ne 8, 3) := by decide +kernel
theorem dL_places_70 : decode cL_places 70 = .ok (.iload 9, 2) := by decide +kernel
theorem dL_places_72 : decode cL_places 72 = .ok (.ifCond .ge 7, 3) := by decide +kernel
theorem dL_places_75 : decode cL_places 75 = .ok (.iconst 1, 1) := by decide +kernel
theorem dL_places_76 : decode cL_places 76 = .ok (.goto 4, 3) := by decide +kernel
theorem dL_places_79 : decode cL_places 79 = .ok (.iconst 0, 1) := by decide +kernel
theorem dL_places_80 : decode cL_places 80 = .ok (.istore 7, 2) := by decide +kernel
theorem dL_places_82 : decode cL_places 82 = .ok (.iload 9, 2) := by decide +kernel
theorem dL_places_84 : decode cL_places 84 = .ok (.ifCond .lt 132, 3) := by decide +kernel
theorem dL_places_87 : decode cL_places 87 = .ok (.aload_n 2, 1) := by decide +kernel
theorem dL_places_88 : decode cL_places 88 = .ok (.iload 9, 2) := by decide +kernel
theorem dL_places_90 : decode cL_places 90 = .ok (.bipush 16, 2) := by decide +kernel
theorem dL_places_92 : decode cL_places 92 = .ok (.idiv, 1) := by decide +kernel
theorem dL_places_93 : decode cL_places 93 = .ok (.iaload, 1) := by decide +kernel
theorem dL_places_94 : decode cL_places 94 = .ok (.iload 9, 2) := by decide +kernel
theorem dL_places_96 : decode cL_places 96 = .ok (.bipush 16, 2) := by decide +kernel
theorem dL_places_98 : decode cL_places 98 = .ok (.irem, 1) := by decide +kernel
theorem dL_places_99 : decode cL_places 99 = .ok (.ishr, 1) := by decide +kernel
theorem dL_places_100 : decode cL_places 100 = .ok (.iconst 1, 1) := by decide +kernel
theorem dL_places_101 : decode cL_places 101 = .ok (.iand, 1) := by decide +kernel
theorem dL_places_102 : decode cL_places 102 = .ok (.iconst 1, 1) := by decide +kernel
theorem dL_places_103 : decode cL_places 103 = .ok (.if_icmp .eq 111, 3) := by decide +kernel
theorem dL_places_106 : decode cL_places 106 = .ok (.aload_n 0, 1) := by decide +kernel
theorem dL_places_107 : decode cL_places 107 = .ok (.iload 9, 2) := by decide +kernel
theorem dL_places_109 : decode cL_places 109 = .ok (.bipush 16, 2) := by decide +kernel
theorem dL_places_111 : decode cL_places 111 = .ok (.idiv, 1) := by decide +kernel
theorem dL_places_112 : decode cL_places 112 = .ok (.iconst 0, 1) := by decide +kernel
theorem dL_places_113 : decode cL_places 113 = .ok (.invokevirtual 24, 3) := by decide +kernel
theorem dL_places_116 : decode cL_places 116 = .ok (.ifCond .eq 98, 3) := by decide +kernel
theorem dL_places_119 : decode cL_places 119 = .ok (.aload_n 0, 1) := by decide +kernel
theorem dL_places_120 : decode cL_places 120 = .ok (.iload 9, 2) := by decide +kernel
theorem dL_places_122 : decode cL_places 122 = .ok (.bipush 16, 2) := by decide +kernel
theorem dL_places_124 : decode cL_places 124 = .ok (.idiv, 1) := by decide +kernel
theorem dL_places_125 : decode cL_places 125 = .ok (.iconst 0, 1) := by decide +kernel
theorem dL_places_126 : decode cL_places 126 = .ok (.invokevirtual 24, 3) := by decide +kernel
theorem dL_places_129 : decode cL_places 129 = .ok (.iconst 3, 1) := by decide +kernel
theorem dL_places_130 : decode cL_places 130 = .ok (.if_icmp .eq 84, 3) := by decide +kernel
theorem dL_places_133 : decode cL_places 133 = .ok (.iload 8, 2) := by decide +kernel
theorem dL_places_135 : decode cL_places 135 = .ok (.iload 6, 2) := by decide +kernel
theorem dL_places_137 : decode cL_places 137 = .ok (.bipush 16, 2) := by decide +kernel
theorem dL_places_139 : decode cL_places 139 = .ok (.idiv, 1) := by decide +kernel
theorem dL_places_140 : decode cL_places 140 = .ok (.bipush 16, 2) := by decide +kernel
theorem dL_places_142 : decode cL_places 142 = .ok (.imul, 1) := by decide +kernel
theorem dL_places_143 : decode cL_places 143 = .ok (.if_icmp .lt 7, 3) := by decide +kernel
theorem dL_places_146 : decode cL_places 146 = .ok (.iconst 1, 1) := by decide +kernel
theorem dL_places_147 : decode cL_places 147 = .ok (.goto 4, 3) := by decide +kernel
theorem dL_places_150 : decode cL_places 150 = .ok (.iconst 0, 1) := by decide +kernel
theorem dL_places_151 : decode cL_places 151 = .ok (.aload_n 0, 1) := by decide +kernel
theorem dL_places_152 : decode cL_places 152 = .ok (.iload 9, 2) := by decide +kernel
theorem dL_places_154 : decode cL_places 154 = .ok (.bipush 16, 2) := by decide +kernel
theorem dL_places_156 : decode cL_places 156 = .ok (.idiv, 1) := by decide +kernel
theorem dL_places_157 : decode cL_places 157 = .ok (.iconst 0, 1) := by decide +kernel
theorem dL_places_158 : decode cL_places 158 = .ok (.invokevirtual 24, 3) := by decide +kernel
theorem dL_places_161 : decode cL_places 161 = .ok (.iconst 2, 1) := by decide +kernel
theorem dL_places_162 : decode cL_places 162 = .ok (.if_icmp .ne 7, 3) := by decide +kernel
theorem dL_places_165 : decode cL_places 165 = .ok (.iconst 1, 1) := by decide +kernel
theorem dL_places_166 : decode cL_places 166 = .ok (.goto 4, 3) := by decide +kernel
theorem dL_places_169 : decode cL_places 169 = .ok (.iconst 0, 1) := by decide +kernel
theorem dL_places_170 : decode cL_places 170 = .ok (.if_icmp .ne 44, 3) := by decide +kernel
theorem dL_places_173 : decode cL_places 173 = .ok (.iload 8, 2) := by decide +kernel
theorem dL_places_175 : decode cL_places 175 = .ok (.iload 6, 2) := by decide +kernel
theorem dL_places_177 : decode cL_places 177 = .ok (.bipush 16, 2) := by decide +kernel
theorem dL_places_179 : decode cL_places 179 = .ok (.idiv, 1) := by decide +kernel
theorem dL_places_180 : decode cL_places 180 = .ok (.bipush 16, 2) := by decide +kernel
theorem dL_places_182 : decode cL_places 182 = .ok (.imul, 1) := by decide +kernel
theorem dL_places_183 : decode cL_places 183 = .ok (.if_icmp .ge 33, 3) := by decide +kernel
theorem dL_places_186 : decode cL_places 186 = .ok (.iload 9, 2) := by decide +kernel
theorem dL_places_188 : decode cL_places 188 = .ok (.bipush 16, 2) := by decide +kernel
theorem dL_places_190 : decode cL_places 190 = .ok (.irem, 1) := by decide +kernel
theorem dL_places_191 : decode cL_places 191 = .ok (.iload 8, 2) := by decide +kernel
theorem dL_places_193 : decode cL_places 193 = .ok (.bipush 16, 2) := by decide +kernel
theorem dL_places_195 : decode cL_places 195 = .ok (.irem, 1) := by decide +kernel
theorem dL_places_196 : decode cL_places 196 = .ok (.if_icmp .ne 18, 3) := by decide +kernel
theorem dL_places_199 : decode cL_places 199 = .ok (.aload_n 0, 1) := by decide +kernel
theorem dL_places_200 : decode cL_places 200 = .ok (.iload 9, 2) := by decide +kernel
theorem dL_places_202 : decode cL_places 202 = .ok (.bipush 16, 2) := by decide +kernel
theorem dL_places_204 : decode cL_places 204 = .ok (.idiv, 1) := by decide +kernel
theorem dL_places_205 : decode cL_places 205 = .ok (.iconst 4, 1) := by decide +kernel
theorem dL_places_206 : decode cL_places 206 = .ok (.invokevirtual 24, 3) := by decide +kernel
theorem dL_places_209 : decode cL_places 209 = .ok (.iload 5, 2) := by decide +kernel
theorem dL_places_211 : decode cL_places 211 = .ok (.if_icmp .eq 5, 3) := by decide +kernel
theorem dL_places_214 : decode cL_places 214 = .ok (.iconst 0, 1) := by decide +kernel
theorem dL_places_215 : decode cL_places 215 = .ok (.ireturn, 1) := by decide +kernel
theorem dL_places_216 : decode cL_places 216 = .ok (.iload 9, 2) := by decide +kernel
theorem dL_places_218 : decode cL_places 218 = .ok (.ifCond .lt 23, 3) := by decide +kernel
theorem dL_places_221 : decode cL_places 221 = .ok (.aload_n 2, 1) := by decide +kernel
theorem dL_places_222 : decode cL_places 222 = .ok (.iload 9, 2) := by decide +kernel
theorem dL_places_224 : decode cL_places 224 = .ok (.bipush 16, 2) := by decide +kernel
theorem dL_places_226 : decode cL_places 226 = .ok (.idiv, 1) := by decide +kernel
theorem dL_places_227 : decode cL_places 227 = .ok (.dup2, 1) := by decide +kernel
theorem dL_places_228 : decode cL_places 228 = .ok (.iaload, 1) := by decide +kernel
theorem dL_places_229 : decode cL_places 229 = .ok (.iconst 1, 1) := by decide +kernel
theorem dL_places_230 : decode cL_places 230 = .ok (.iload 9, 2) := by decide +kernel
theorem dL_places_232 : decode cL_places 232 = .ok (.bipush 16, 2) := by decide +kernel
theorem dL_places_234 : decode cL_places 234 = .ok (.irem, 1) := by decide +kernel
theorem dL_places_235 : decode cL_places 235 = .ok (.ishl, 1) := by decide +kernel
theorem dL_places_236 : decode cL_places 236 = .ok (.ior, 1) := by decide +kernel
theorem dL_places_237 : decode cL_places 237 = .ok (.iastore, 1) := by decide +kernel
theorem dL_places_238 : decode cL_places 238 = .ok (.iinc 3 1, 3) := by decide +kernel
theorem dL_places_241 : decode cL_places 241 = .ok (.iinc 8 1, 3) := by decide +kernel
theorem dL_places_244 : decode cL_places 244 = .ok (.goto (-196), 3) := by decide +kernel
theorem dL_places_247 : decode cL_places 247 = .ok (.iload_n 1, 1) := by decide +kernel
theorem dL_places_248 : decode cL_places 248 = .ok (.iload 5, 2) := by decide +kernel
theorem dL_places_250 : decode cL_places 250 = .ok (.invokestatic 9, 3) := by decide +kernel
theorem dL_places_253 : decode cL_places 253 = .ok (.ifCond .eq 16, 3) := by decide +kernel
theorem dL_places_256 : decode cL_places 256 = .ok (.aload_n 0, 1) := by decide +kernel
theorem dL_places_257 : decode cL_places 257 = .ok (.iload 5, 2) := by decide +kernel
theorem dL_places_259 : decode cL_places 259 = .ok (.iload 7, 2) := by decide +kernel
theorem dL_places_261 : decode cL_places 261 = .ok (.invokestatic 27, 3) := by decide +kernel
theorem dL_places_264 : decode cL_places 264 = .ok (.ifCond .ne 5, 3) := by decide +kernel
theorem dL_places_267 : decode cL_places 267 = .ok (.iconst 0, 1) := by decide +kernel
theorem dL_places_268 : decode cL_places 268 = .ok (.ireturn, 1) := by decide +kernel
theorem dL_places_269 : decode cL_places 269 = .ok (.iload 4, 2) := by decide +kernel
theorem dL_places_271 : decode cL_places 271 = .ok (.iload_n 1, 1) := by decide +kernel
theorem dL_places_272 : decode cL_places 272 = .ok (.iload 5, 2) := by decide +kernel
theorem dL_places_274 : decode cL_places 274 = .ok (.invokestatic 9, 3) := by decide +kernel
theorem dL_places_277 : decode cL_places 277 = .ok (.ifCond .eq 18, 3) := by decide +kernel
theorem dL_places_280 : decode cL_places 280 = .ok (.aload_n 0, 1) := by decide +kernel
theorem dL_places_281 : decode cL_places 281 = .ok (.iload 5, 2) := by decide +kernel
theorem dL_places_283 : decode cL_places 283 = .ok (.iconst 5, 1) := by decide +kernel
theorem dL_places_284 : decode cL_places 284 = .ok (.invokevirtual 15, 3) := by decide +kernel
theorem dL_places_287 : decode cL_places 287 = .ok (.iconst 1, 1) := by decide +kernel
theorem dL_places_288 : decode cL_places 288 = .ok (.if_icmp .ne 7, 3) := by decide +kernel
theorem dL_places_291 : decode cL_places 291 = .ok (.iconst 1, 1) := by decide +kernel
theorem dL_places_292 : decode cL_places 292 = .ok (.goto 4, 3) := by decide +kernel
theorem dL_places_295 : decode cL_places 295 = .ok (.iconst 0, 1) := by decide +kernel
theorem dL_places_296 : decode cL_places 296 = .ok (.iadd, 1) := by decide +kernel
theorem dL_places_297 : decode cL_places 297 = .ok (.istore 4, 2) := by decide +kernel
theorem dL_places_299 : decode cL_places 299 = .ok (.iinc 5 1, 3) := by decide +kernel
theorem dL_places_302 : decode cL_places 302 = .ok (.goto (-289), 3) := by decide +kernel
theorem dL_places_305 : decode cL_places 305 = .ok (.aload_n 0, 1) := by decide +kernel
theorem dL_places_306 : decode cL_places 306 = .ok (.iconst 5, 1) := by decide +kernel
theorem dL_places_307 : decode cL_places 307 = .ok (.invokevirtual 31, 3) := by decide +kernel
theorem dL_places_310 : decode cL_places 310 = .ok (.iload_n 3, 1) := by decide +kernel
theorem dL_places_311 : decode cL_places 311 = .ok (.if_icmp .ne 26, 3) := by decide +kernel
theorem dL_places_314 : decode cL_places 314 = .ok (.aload_n 0, 1) := by decide +kernel
theorem dL_places_315 : decode cL_places 315 = .ok (.bipush 7, 2) := by decide +kernel
theorem dL_places_317 : decode cL_places 317 = .ok (.invokevirtual 31, 3) := by decide +kernel
theorem dL_places_320 : decode cL_places 320 = .ok (.iload 4, 2) := by decide +kernel
theorem dL_places_322 : decode cL_places 322 = .ok (.if_icmp .ne 15, 3) := by decide +kernel
theorem dL_places_325 : decode cL_places 325 = .ok (.aload_n 0, 1) := by decide +kernel
theorem dL_places_326 : decode cL_places 326 = .ok (.aload_n 2, 1) := by decide +kernel
theorem dL_places_327 : decode cL_places 327 = .ok (.invokestatic 35, 3) := by decide +kernel
theorem dL_places_330 : decode cL_places 330 = .ok (.ifCond .eq 7, 3) := by decide +kernel
theorem dL_places_333 : decode cL_places 333 = .ok (.iconst 1, 1) := by decide +kernel
theorem dL_places_334 : decode cL_places 334 = .ok (.goto 4, 3) := by decide +kernel
theorem dL_places_337 : decode cL_places 337 = .ok (.iconst 0, 1) := by decide +kernel
theorem dL_places_338 : decode cL_places 338 = .ok (.ireturn, 1) := by decide +kernel
theorem dL_file_0 : decode cL_file 0 = .ok (.aload_n 0, 1) := by decide +kernel
theorem dL_file_1 : decode cL_file 1 = .ok (.iload_n 1, 1) := by decide +kernel
theorem dL_file_2 : decode cL_file 2 = .ok (.iconst 0, 1) := by decide +kernel
theorem dL_file_3 : decode cL_file 3 = .ok (.invokevirtual 15, 3) := by decide +kernel
theorem dL_file_6 : decode cL_file 6 = .ok (.istore_n 3, 1) := by decide +kernel
theorem dL_file_7 : decode cL_file 7 = .ok (.iload_n 3, 1) := by decide +kernel
theorem dL_file_8 : decode cL_file 8 = .ok (.bipush 16, 2) := by decide +kernel
theorem dL_file_10 : decode cL_file 10 = .ok (.irem, 1) := by decide +kernel
theorem dL_file_11 : decode cL_file 11 = .ok (.istore 4, 2) := by decide +kernel
theorem dL_file_13 : decode cL_file 13 = .ok (.aload_n 0, 1) := by decide +kernel
theorem dL_file_14 : decode cL_file 14 = .ok (.iload_n 1, 1) := by decide +kernel
theorem dL_file_15 : decode cL_file 15 = .ok (.iconst 1, 1) := by decide +kernel
theorem dL_file_16 : decode cL_file 16 = .ok (.invokevirtual 15, 3) := by decide +kernel
theorem dL_file_19 : decode cL_file 19 = .ok (.iload_n 3, 1) := by decide +kernel
theorem dL_file_20 : decode cL_file 20 = .ok (.bipush 16, 2) := by decide +kernel
theorem dL_file_22 : decode cL_file 22 = .ok (.idiv, 1) := by decide +kernel
theorem dL_file_23 : decode cL_file 23 = .ok (.if_icmp .ne 32, 3) := by decide +kernel
theorem dL_file_26 : decode cL_file 26 = .ok (.aload_n 0, 1) := by decide +kernel
theorem dL_file_27 : decode cL_file 27 = .ok (.iload_n 1, 1) := by decide +kernel
theorem dL_file_28 : decode cL_file 28 = .ok (.iconst 2, 1) := by decide +kernel
theorem dL_file_29 : decode cL_file 29 = .ok (.invokevirtual 15, 3) := by decide +kernel
theorem dL_file_32 : decode cL_file 32 = .ok (.iload 4, 2) := by decide +kernel
theorem dL_file_34 : decode cL_file 34 = .ok (.if_icmp .ne 21, 3) := by decide +kernel
theorem dL_file_37 : decode cL_file 37 = .ok (.iload_n 2, 1) := by decide +kernel
theorem dL_file_38 : decode cL_file 38 = .ok (.ifCond .eq 13, 3) := by decide +kernel
theorem dL_file_41 : decode cL_file 41 = .ok (.aload_n 0, 1) := by decide +kernel
theorem dL_file_42 : decode cL_file 42 = .ok (.iload_n 1, 1) := by decide +kernel
theorem dL_file_43 : decode cL_file 43 = .ok (.iconst 5, 1) := by decide +kernel
theorem dL_file_44 : decode cL_file 44 = .ok (.invokevirtual 15, 3) := by decide +kernel
theorem dL_file_47 : decode cL_file 47 = .ok (.iconst 1, 1) := by decide +kernel
theorem dL_file_48 : decode cL_file 48 = .ok (.if_icmp .ne 7, 3) := by decide +kernel
theorem dL_file_51 : decode cL_file 51 = .ok (.iconst 1, 1) := by decide +kernel
theorem dL_file_52 : decode cL_file 52 = .ok (.goto 4, 3) := by decide +kernel
theorem dL_file_55 : decode cL_file 55 = .ok (.iconst 0, 1) := by decide +kernel
theorem dL_file_56 : decode cL_file 56 = .ok (.istore 5, 2) := by decide +kernel
theorem dL_file_58 : decode cL_file 58 = .ok (.iload 5, 2) := by decide +kernel
theorem dL_file_60 : decode cL_file 60 = .ok (.ifCond .eq 68, 3) := by decide +kernel
theorem dL_file_63 : decode cL_file 63 = .ok (.iload 4, 2) := by decide +kernel
theorem dL_file_65 : decode cL_file 65 = .ok (.ifCond .ne 26, 3) := by decide +kernel
theorem dL_file_68 : decode cL_file 68 = .ok (.aload_n 0, 1) := by decide +kernel
theorem dL_file_69 : decode cL_file 69 = .ok (.iload_n 1, 1) := by decide +kernel
theorem dL_file_70 : decode cL_file 70 = .ok (.iconst 3, 1) := by decide +kernel
theorem dL_file_71 : decode cL_file 71 = .ok (.invokevirtual 15, 3) := by decide +kernel
theorem dL_file_74 : decode cL_file 74 = .ok (.iconst (-1), 1) := by decide +kernel
theorem dL_file_75 : decode cL_file 75 = .ok (.if_icmp .ne 53, 3) := by decide +kernel
theorem dL_file_78 : decode cL_file 78 = .ok (.aload_n 0, 1) := by decide +kernel
theorem dL_file_79 : decode cL_file 79 = .ok (.iload_n 1, 1) := by decide +kernel
theorem dL_file_80 : decode cL_file 80 = .ok (.iconst 4, 1) := by decide +kernel
theorem dL_file_81 : decode cL_file 81 = .ok (.invokevirtual 15, 3) := by decide +kernel
theorem dL_file_84 : decode cL_file 84 = .ok (.iconst (-1), 1) := by decide +kernel
theorem dL_file_85 : decode cL_file 85 = .ok (.if_icmp .ne 43, 3) := by decide +kernel
theorem dL_file_88 : decode cL_file 88 = .ok (.goto 36, 3) := by decide +kernel
theorem dL_file_91 : decode cL_file 91 = .ok (.aload_n 0, 1) := by decide +kernel
theorem dL_file_92 : decode cL_file 92 = .ok (.iload_n 1, 1) := by decide +kernel
theorem dL_file_93 : decode cL_file 93 = .ok (.iconst 3, 1) := by decide +kernel
theorem dL_file_94 : decode cL_file 94 = .ok (.invokevirtual 15, 3) := by decide +kernel
theorem dL_file_97 : decode cL_file 97 = .ok (.ifCond .lt 31, 3) := by decide +kernel
theorem dL_file_100 : decode cL_file 100 = .ok (.aload_n 0, 1) := by decide +kernel
theorem dL_file_101 : decode cL_file 101 = .ok (.iload_n 1, 1) := by decide +kernel
theorem dL_file_102 : decode cL_file 102 = .ok (.iconst 4, 1) := by decide +kernel
theorem dL_file_103 : decode cL_file 103 = .ok (.invokevirtual 15, 3) := by decide +kernel
theorem dL_file_106 : decode cL_file 106 = .ok (.iload 4, 2) := by decide +kernel
theorem dL_file_108 : decode cL_file 108 = .ok (.iadd, 1) := by decide +kernel
theorem dL_file_109 : decode cL_file 109 = .ok (.bipush 16, 2) := by decide +kernel
theorem dL_file_111 : decode cL_file 111 = .ok (.if_icmp .gt 17, 3) := by decide +kernel
theorem dL_file_114 : decode cL_file 114 = .ok (.aload_n 0, 1) := by decide +kernel
theorem dL_file_115 : decode cL_file 115 = .ok (.iload_n 1, 1) := by decide +kernel
theorem dL_file_116 : decode cL_file 116 = .ok (.bipush 6, 2) := by decide +kernel
theorem dL_file_118 : decode cL_file 118 = .ok (.invokevirtual 15, 3) := by decide +kernel
theorem dL_file_121 : decode cL_file 121 = .ok (.ifCond .le 7, 3) := by decide +kernel
theorem dL_file_124 : decode cL_file 124 = .ok (.iconst 1, 1) := by decide +kernel
theorem dL_file_125 : decode cL_file 125 = .ok (.goto 4, 3) := by decide +kernel
theorem dL_file_128 : decode cL_file 128 = .ok (.iconst 0, 1) := by decide +kernel
theorem dL_file_129 : decode cL_file 129 = .ok (.ireturn, 1) := by decide +kernel
theorem dL_blocks_0 : decode cL_blocks 0 = .ok (.iconst 4, 1) := by decide +kernel
theorem dL_blocks_1 : decode cL_blocks 1 = .ok (.newarray .int, 2) := by decide +kernel
theorem dL_blocks_3 : decode cL_blocks 3 = .ok (.astore_n 2, 1) := by decide +kernel
theorem dL_blocks_4 : decode cL_blocks 4 = .ok (.iconst 0, 1) := by decide +kernel
theorem dL_blocks_5 : decode cL_blocks 5 = .ok (.istore_n 3, 1) := by decide +kernel
theorem dL_blocks_6 : decode cL_blocks 6 = .ok (.iconst 0, 1) := by decide +kernel
theorem dL_blocks_7 : decode cL_blocks 7 = .ok (.istore 4, 2) := by decide +kernel
theorem dL_blocks_9 : decode cL_blocks 9 = .ok (.iload 4, 2) := by decide +kernel
theorem dL_blocks_11 : decode cL_blocks 11 = .ok (.bipush 24, 2) := by decide +kernel
theorem dL_blocks_13 : decode cL_blocks 13 = .ok (.if_icmp .ge 291, 3) := by decide +kernel
theorem dL_blocks_16 : decode cL_blocks 16 = .ok (.aload_n 0, 1) := by decide +kernel
theorem dL_blocks_17 : decode cL_blocks 17 = .ok (.iload 4, 2) := by decide +kernel
theorem dL_blocks_19 : decode cL_blocks 19 = .ok (.iconst 0, 1) := by decide +kernel
theorem dL_blocks_20 : decode cL_blocks 20 = .ok (.invokevirtual 24, 3) := by decide +kernel
theorem dL_blocks_23 : decode cL_blocks 23 = .ok (.istore 5, 2) := by decide +kernel
theorem dL_blocks_25 : decode cL_blocks 25 = .ok (.iconst 0, 1) := by decide +kernel
theorem dL_blocks_26 : decode cL_blocks 26 = .ok (.istore 6, 2) := by decide +kernel
theorem dL_blocks_28 : decode cL_blocks 28 = .ok (.iconst 0, 1) := by decide +kernel
theorem dL_blocks_29 : decode cL_blocks 29 = .ok (.istore 7, 2) := by decide +kernel
theorem dL_blocks_31 : decode cL_blocks 31 = .ok (.iconst 0, 1) := by decide +kernel
theorem dL_blocks_32 : decode cL_blocks 32 = .ok (.istore 8, 2) := by decide +kernel
theorem dL_blocks_34 : decode cL_blocks 34 = .ok (.iconst 0, 1) := by decide +kernel
theorem dL_blocks_35 : decode cL_blocks 35 = .ok (.istore 9, 2) := by decide +kernel
theorem dL_blocks_37 : decode cL_blocks 37 = .ok (.iload 9, 2) := by decide +kernel
theorem dL_blocks_39 : decode cL_blocks 39 = .ok (.bipush 16, 2) := by decide +kernel
theorem dL_blocks_41 : decode cL_blocks 41 = .ok (.if_icmp .ge 62, 3) := by decide +kernel
theorem dL_blocks_44 : decode cL_blocks 44 = .ok (.iload 6, 2) := by decide +kernel
theorem dL_blocks_46 : decode cL_blocks 46 = .ok (.aload_n 1, 1) := by decide +kernel
theorem dL_blocks_47 : decode cL_blocks 47 = .ok (.iload 4, 2) := by decide +kernel
theorem dL_blocks_49 : decode cL_blocks 49 = .ok (.iaload, 1) := by decide +kernel
theorem dL_blocks_50 : decode cL_blocks 50 = .ok (.iload 9, 2) := by decide +kernel
theorem dL_blocks_52 : decode cL_blocks 52 = .ok (.ishr, 1) := by decide +kernel
theorem dL_blocks_53 : decode cL_blocks 53 = .ok (.iconst 1, 1) := by decide +kernel
theorem dL_blocks_54 : decode cL_blocks 54 = .ok (.iand, 1) := by decide +kernel
theorem dL_blocks_55 : decode cL_blocks 55 = .ok (.iadd, 1) := by decide +kernel
theorem dL_blocks_56 : decode cL_blocks 56 = .ok (.istore 6, 2) := by decide +kernel
theorem dL_blocks_58 : decode cL_blocks 58 = .ok (.aload_n 1, 1) := by decide +kernel
theorem dL_blocks_59 : decode cL_blocks 59 = .ok (.iload 4, 2) := by decide +kernel
theorem dL_blocks_61 : decode cL_blocks 61 = .ok (.iaload, 1) := by decide +kernel
theorem dL_blocks_62 : decode cL_blocks 62 = .ok (.iload 9, 2) := by decide +kernel
theorem dL_blocks_64 : decode cL_blocks 64 = .ok (.ishr, 1) := by decide +kernel
theorem dL_blocks_65 : decode cL_blocks 65 = .ok (.iconst 1, 1) := by decide +kernel
theorem dL_blocks_66 : decode cL_blocks 66 = .ok (.iand, 1) := by decide +kernel
theorem dL_blocks_67 : decode cL_blocks 67 = .ok (.iconst 1, 1) := by decide +kernel
theorem dL_blocks_68 : decode cL_blocks 68 = .ok (.if_icmp .ne 7, 3) := by decide +kernel
theorem dL_blocks_71 : decode cL_blocks 71 = .ok (.iconst 0, 1) := by decide +kernel
theorem dL_blocks_72 : decode cL_blocks 72 = .ok (.goto 7, 3) := by decide +kernel
theorem dL_blocks_75 : decode cL_blocks 75 = .ok (.iload 8, 2) := by decide +kernel
theorem dL_blocks_77 : decode cL_blocks 77 = .ok (.iconst 1, 1) := by decide +kernel
theorem dL_blocks_78 : decode cL_blocks 78 = .ok (.iadd, 1) := by decide +kernel
theorem dL_blocks_79 : decode cL_blocks 79 = .ok (.istore 8, 2) := by decide +kernel
theorem dL_blocks_81 : decode cL_blocks 81 = .ok (.iload 8, 2) := by decide +kernel
theorem dL_blocks_83 : decode cL_blocks 83 = .ok (.iload 7, 2) := by decide +kernel
theorem dL_blocks_85 : decode cL_blocks 85 = .ok (.if_icmp .le 8, 3) := by decide +kernel
theorem dL_blocks_88 : decode cL_blocks 88 = .ok (.iload 8, 2) := by decide +kernel
theorem dL_blocks_90 : decode cL_blocks 90 = .ok (.goto 5, 3) := by decide +kernel
theorem dL_blocks_93 : decode cL_blocks 93 = .ok (.iload 7, 2) := by decide +kernel
theorem dL_blocks_95 : decode cL_blocks 95 = .ok (.istore 7, 2) := by decide +kernel
theorem dL_blocks_97 : decode cL_blocks 97 = .ok (.iinc 9 1, 3) := by decide +kernel
theorem dL_blocks_100 : decode cL_blocks 100 = .ok (.goto (-63), 3) := by decide +kernel
theorem dL_blocks_103 : decode cL_blocks 103 = .ok (.aload_n 2, 1) := by decide +kernel
theorem dL_blocks_104 : decode cL_blocks 104 = .ok (.iload 5, 2) := by decide +kernel
theorem dL_blocks_106 : decode cL_blocks 106 = .ok (.dup2, 1) := by decide +kernel
theorem dL_blocks_107 : decode cL_blocks 107 = .ok (.iaload, 1) := by decide +kernel
theorem dL_blocks_108 : decode cL_blocks 108 = .ok (.iconst 1, 1) := by decide +kernel
theorem dL_blocks_109 : decode cL_blocks 109 = .ok (.iadd, 1) := by decide +kernel
theorem dL_blocks_110 : decode cL_blocks 110 = .ok (.iastore, 1) := by decide +kernel
theorem dL_blocks_111 : decode cL_blocks 111 = .ok (.iload_n 3, 1) := by decide +kernel
theorem dL_blocks_112 : decode cL_blocks 112 = .ok (.iload 5, 2) := by decide +kernel
theorem dL_blocks_114 : decode cL_blocks 114 = .ok (.iconst 2, 1) := by decide +kernel
theorem dL_blocks_115 : decode cL_blocks 115 = .ok (.if_icmp .ne 11, 3) := by decide +kernel
theorem dL_blocks_118 : decode cL_blocks 118 = .ok (.bipush 16, 2) := by decide +kernel
theorem dL_blocks_120 : decode cL_blocks 120 = .ok (.iload 6, 2) := by decide +kernel
theorem dL_blocks_122 : decode cL_blocks 122 = .ok (.isub, 1) := by decide +kernel
theorem dL_blocks_123 : decode cL_blocks 123 = .ok (.goto 4, 3) := by decide +kernel
theorem dL_blocks_126 : decode cL_blocks 126 = .ok (.iconst 0, 1) := by decide +kernel
theorem dL_blocks_127 : decode cL_blocks 127 = .ok (.iadd, 1) := by decide +kernel
theorem dL_blocks_128 : decode cL_blocks 128 = .ok (.istore_n 3, 1) := by decide +kernel
theorem dL_blocks_129 : decode cL_blocks 129 = .ok (.iload 5, 2) := by decide +kernel
theorem dL_blocks_131 : decode cL_blocks 131 = .ok (.iconst 1, 1) := by decide +kernel
theorem dL_blocks_132 : decode cL_blocks 132 = .ok (.if_icmp .ne 38, 3) := by decide +kernel
theorem dL_blocks_135 : decode cL_blocks 135 = .ok (.iload 6, 2) := by decide +kernel
theorem dL_blocks_137 : decode cL_blocks 137 = .ok (.bipush 16, 2) := by decide +kernel
theorem dL_blocks_139 : decode cL_blocks 139 = .ok (.if_icmp .ne 27, 3) := by decide +kernel
theorem dL_blocks_142 : decode cL_blocks 142 = .ok (.aload_n 0, 1) := by decide +kernel
theorem dL_blocks_143 : decode cL_blocks 143 = .ok (.iload 4, 2) := by decide +kernel
theorem dL_blocks_145 : decode cL_blocks 145 = .ok (.iconst 1, 1) := by decide +kernel
theorem dL_blocks_146 : decode cL_blocks 146 = .ok (.invokevirtual 24, 3) := by decide +kernel
theorem dL_blocks_149 : decode cL_blocks 149 = .ok (.ifCond .ne 17, 3) := by decide +kernel
theorem dL_blocks_152 : decode cL_blocks 152 = .ok (.aload_n 0, 1) := by decide +kernel
theorem dL_blocks_153 : decode cL_blocks 153 = .ok (.iload 4, 2) := by decide +kernel
theorem dL_blocks_155 : decode cL_blocks 155 = .ok (.iconst 4, 1) := by decide +kernel
theorem dL_blocks_156 : decode cL_blocks 156 = .ok (.invokevirtual 24, 3) := by decide +kernel
theorem dL_blocks_159 : decode cL_blocks 159 = .ok (.ifCond .lt 7, 3) := by decide +kernel
theorem dL_blocks_162 : decode cL_blocks 162 = .ok (.iconst 1, 1) := by decide +kernel
theorem dL_blocks_163 : decode cL_blocks 163 = .ok (.goto 23, 3) := by decide +kernel
theorem dL_blocks_166 : decode cL_blocks 166 = .ok (.iconst 0, 1) := by decide +kernel
theorem dL_blocks_167 : decode cL_blocks 167 = .ok (.goto 19, 3) := by decide +kernel
theorem dL_blocks_170 : decode cL_blocks 170 = .ok (.aload_n 0, 1) := by decide +kernel
theorem dL_blocks_171 : decode cL_blocks 171 = .ok (.iload 4, 2) := by decide +kernel
theorem dL_blocks_173 : decode cL_blocks 173 = .ok (.iconst 4, 1) := by decide +kernel
theorem dL_blocks_174 : decode cL_blocks 174 = .ok (.invokevirtual 24, 3) := by decide +kernel
theorem dL_blocks_177 : decode cL_blocks 177 = .ok (.iconst (-1), 1) := by decide +kernel
theorem dL_blocks_178 : decode cL_blocks 178 = .ok (.if_icmp .ne 7, 3) := by decide +kernel
theorem dL_blocks_181 : decode cL_blocks 181 = .ok (.iconst 1, 1) := by decide +kernel
theorem dL_blocks_182 : decode cL_blocks 182 = .ok (.goto 4, 3) := by decide +kernel
theorem dL_blocks_185 : decode cL_blocks 185 = .ok (.iconst 0, 1) := by decide +kernel
theorem dL_blocks_186 : decode cL_blocks 186 = .ok (.istore 9, 2) := by decide +kernel
theorem dL_blocks_188 : decode cL_blocks 188 = .ok (.iload 9, 2) := by decide +kernel
theorem dL_blocks_190 : decode cL_blocks 190 = .ok (.ifCond .eq 82, 3) := by decide +kernel
theorem dL_blocks_193 : decode cL_blocks 193 = .ok (.iload 5, 2) := by decide +kernel
theorem dL_blocks_195 : decode cL_blocks 195 = .ok (.iconst 2, 1) := by decide +kernel
theorem dL_blocks_196 : decode cL_blocks 196 = .ok (.if_icmp .ne 52, 3) := by decide +kernel
theorem dL_blocks_199 : decode cL_blocks 199 = .ok (.aload_n 0, 1) := by decide +kernel
theorem dL_blocks_200 : decode cL_blocks 200 = .ok (.iload 4, 2) := by decide +kernel
theorem dL_blocks_202 : decode cL_blocks 202 = .ok (.iconst 2, 1) := by decide +kernel
theorem dL_blocks_203 : decode cL_blocks 203 = .ok (.invokevirtual 24, 3) := by decide +kernel
theorem dL_blocks_206 : decode cL_blocks 206 = .ok (.iload 6, 2) := by decide +kernel
theorem dL_blocks_208 : decode cL_blocks 208 = .ok (.if_icmp .ne 64, 3) := by decide +kernel
theorem dL_blocks_211 : decode cL_blocks 211 = .ok (.aload_n 0, 1) := by decide +kernel
theorem dL_blocks_212 : decode cL_blocks 212 = .ok (.iload 4, 2) := by decide +kernel
theorem dL_blocks_214 : decode cL_blocks 214 = .ok (.iconst 3, 1) := by decide +kernel
theorem dL_blocks_215 : decode cL_blocks 215 = .ok (.invokevirtual 24, 3) := by decide +kernel
theorem dL_blocks_218 : decode cL_blocks 218 = .ok (.iload 7, 2) := by decide +kernel
theorem dL_blocks_220 : decode cL_blocks 220 = .ok (.if_icmp .ne 52, 3) := by decide +kernel
theorem dL_blocks_223 : decode cL_blocks 223 = .ok (.aload_n 0, 1) := by decide +kernel
theorem dL_blocks_224 : decode cL_blocks 224 = .ok (.iload 4, 2) := by decide +kernel
theorem dL_blocks_226 : decode cL_blocks 226 = .ok (.iconst 1, 1) := by decide +kernel
theorem dL_blocks_227 : decode cL_blocks 227 = .ok (.invokevirtual 24, 3) := by decide +kernel
theorem dL_blocks_230 : decode cL_blocks 230 = .ok (.ifCond .le 42, 3) := by decide +kernel
theorem dL_blocks_233 : decode cL_blocks 233 = .ok (.aload_n 0, 1) := by decide +kernel
theorem dL_blocks_234 : decode cL_blocks 234 = .ok (.iload 4, 2) := by decide +kernel
theorem dL_blocks_236 : decode cL_blocks 236 = .ok (.iconst 1, 1) := by decide +kernel
theorem dL_blocks_237 : decode cL_blocks 237 = .ok (.invokevirtual 24, 3) := by decide +kernel
theorem dL_blocks_240 : decode cL_blocks 240 = .ok (.iload 6, 2) := by decide +kernel
theorem dL_blocks_242 : decode cL_blocks 242 = .ok (.if_icmp .gt 30, 3) := by decide +kernel
theorem dL_blocks_245 : decode cL_blocks 245 = .ok (.goto 23, 3) := by decide +kernel
theorem dL_blocks_248 : decode cL_blocks 248 = .ok (.aload_n 0, 1) := by decide +kernel
theorem dL_blocks_249 : decode cL_blocks 249 = .ok (.iload 4, 2) := by decide +kernel
theorem dL_blocks_251 : decode cL_blocks 251 = .ok (.iconst 2, 1) := by decide +kernel
theorem dL_blocks_252 : decode cL_blocks 252 = .ok (.invokevirtual 24, 3) := by decide +kernel
theorem dL_blocks_255 : decode cL_blocks 255 = .ok (.ifCond .ne 17, 3) := by decide +kernel
theorem dL_blocks_258 : decode cL_blocks 258 = .ok (.aload_n 0, 1) := by decide +kernel
theorem dL_blocks_259 : decode cL_blocks 259 = .ok (.iload 4, 2) := by decide +kernel
theorem dL_blocks_261 : decode cL_blocks 261 = .ok (.iconst 3, 1) := by decide +kernel
theorem dL_blocks_262 : decode cL_blocks 262 = .ok (.invokevirtual 24, 3) := by decide +kernel
theorem dL_blocks_265 : decode cL_blocks 265 = .ok (.ifCond .ne 7, 3) := by decide +kernel
theorem dL_blocks_268 : decode cL_blocks 268 = .ok (.iconst 1, 1) := by decide +kernel
theorem dL_blocks_269 : decode cL_blocks 269 = .ok (.goto 4, 3) := by decide +kernel
theorem dL_blocks_272 : decode cL_blocks 272 = .ok (.iconst 0, 1) := by decide +kernel
theorem dL_blocks_273 : decode cL_blocks 273 = .ok (.istore 9, 2) := by decide +kernel
theorem dL_blocks_275 : decode cL_blocks 275 = .ok (.iload 9, 2) := by decide +kernel
theorem dL_blocks_277 : decode cL_blocks 277 = .ok (.ifCond .eq 19, 3) := by decide +kernel
theorem dL_blocks_280 : decode cL_blocks 280 = .ok (.iload 5, 2) := by decide +kernel
theorem dL_blocks_282 : decode cL_blocks 282 = .ok (.ifCond .eq 9, 3) := by decide +kernel
theorem dL_blocks_285 : decode cL_blocks 285 = .ok (.iload 5, 2) := by decide +kernel
theorem dL_blocks_287 : decode cL_blocks 287 = .ok (.iconst 3, 1) := by decide +kernel
theorem dL_blocks_288 : decode cL_blocks 288 = .ok (.if_icmp .ne 10, 3) := by decide +kernel
theorem dL_blocks_291 : decode cL_blocks 291 = .ok (.iload 6, 2) := by decide +kernel
theorem dL_blocks_293 : decode cL_blocks 293 = .ok (.ifCond .le 5, 3) := by decide +kernel
theorem dL_blocks_296 : decode cL_blocks 296 = .ok (.iconst 0, 1) := by decide +kernel
theorem dL_blocks_297 : decode cL_blocks 297 = .ok (.ireturn, 1) := by decide +kernel
theorem dL_blocks_298 : decode cL_blocks 298 = .ok (.iinc 4 1, 3) := by decide +kernel
theorem dL_blocks_301 : decode cL_blocks 301 = .ok (.goto (-292), 3) := by decide +kernel
theorem dL_blocks_304 : decode cL_blocks 304 = .ok (.aload_n 0, 1) := by decide +kernel
theorem dL_blocks_305 : decode cL_blocks 305 = .ok (.iconst 1, 1) := by decide +kernel
theorem dL_blocks_306 : decode cL_blocks 306 = .ok (.invokevirtual 31, 3) := by decide +kernel
theorem dL_blocks_309 : decode cL_blocks 309 = .ok (.aload_n 2, 1) := by decide +kernel
theorem dL_blocks_310 : decode cL_blocks 310 = .ok (.iconst 0, 1) := by decide +kernel
theorem dL_blocks_311 : decode cL_blocks 311 = .ok (.iaload, 1) := by decide +kernel
theorem dL_blocks_312 : decode cL_blocks 312 = .ok (.if_icmp .ne 50, 3) := by decide +kernel
theorem dL_blocks_315 : decode cL_blocks 315 = .ok (.aload_n 0, 1) := by decide +kernel
theorem dL_blocks_316 : decode cL_blocks 316 = .ok (.iconst 2, 1) := by decide +kernel
theorem dL_blocks_317 : decode cL_blocks 317 = .ok (.invokevirtual 31, 3) := by decide +kernel
theorem dL_blocks_320 : decode cL_blocks 320 = .ok (.aload_n 2, 1) := by decide +kernel
theorem dL_blocks_321 : decode cL_blocks 321 = .ok (.iconst 1, 1) := by decide +kernel
theorem dL_blocks_322 : decode cL_blocks 322 = .ok (.iaload, 1) := by decide +kernel
theorem dL_blocks_323 : decode cL_blocks 323 = .ok (.if_icmp .ne 39, 3) := by decide +kernel
theorem dL_blocks_326 : decode cL_blocks 326 = .ok (.aload_n 0, 1) := by decide +kernel
theorem dL_blocks_327 : decode cL_blocks 327 = .ok (.iconst 3, 1) := by decide +kernel
theorem dL_blocks_328 : decode cL_blocks 328 = .ok (.invokevirtual 31, 3) := by decide +kernel
theorem dL_blocks_331 : decode cL_blocks 331 = .ok (.aload_n 2, 1) := by decide +kernel
theorem dL_blocks_332 : decode cL_blocks 332 = .ok (.iconst 2, 1) := by decide +kernel
theorem dL_blocks_333 : decode cL_blocks 333 = .ok (.iaload, 1) := by decide +kernel
theorem dL_blocks_334 : decode cL_blocks 334 = .ok (.if_icmp .ne 28, 3) := by decide +kernel
theorem dL_blocks_337 : decode cL_blocks 337 = .ok (.aload_n 0, 1) := by decide +kernel
theorem dL_blocks_338 : decode cL_blocks 338 = .ok (.iconst 4, 1) := by decide +kernel
theorem dL_blocks_339 : decode cL_blocks 339 = .ok (.invokevirtual 31, 3) := by decide +kernel
theorem dL_blocks_342 : decode cL_blocks 342 = .ok (.aload_n 2, 1) := by decide +kernel
theorem dL_blocks_343 : decode cL_blocks 343 = .ok (.iconst 3, 1) := by decide +kernel
theorem dL_blocks_344 : decode cL_blocks 344 = .ok (.iaload, 1) := by decide +kernel
theorem dL_blocks_345 : decode cL_blocks 345 = .ok (.if_icmp .ne 17, 3) := by decide +kernel
theorem dL_blocks_348 : decode cL_blocks 348 = .ok (.aload_n 0, 1) := by decide +kernel
theorem dL_blocks_349 : decode cL_blocks 349 = .ok (.bipush 6, 2) := by decide +kernel
theorem dL_blocks_351 : decode cL_blocks 351 = .ok (.invokevirtual 31, 3) := by decide +kernel
theorem dL_blocks_354 : decode cL_blocks 354 = .ok (.iload_n 3, 1) := by decide +kernel
theorem dL_blocks_355 : decode cL_blocks 355 = .ok (.if_icmp .ne 7, 3) := by decide +kernel
theorem dL_blocks_358 : decode cL_blocks 358 = .ok (.iconst 1, 1) := by decide +kernel
theorem dL_blocks_359 : decode cL_blocks 359 = .ok (.goto 4, 3) := by decide +kernel
theorem dL_blocks_362 : decode cL_blocks 362 = .ok (.iconst 0, 1) := by decide +kernel
theorem dL_blocks_363 : decode cL_blocks 363 = .ok (.ireturn, 1) := by decide +kernel
theorem dL_hasGap_0 : decode cL_hasGap 0 = .ok (.iconst 0, 1) := by decide +kernel
theorem dL_hasGap_1 : decode cL_hasGap 1 = .ok (.istore_n 2, 1) := by decide +kernel
theorem dL_hasGap_2 : decode cL_hasGap 2 = .ok (.iconst 0, 1) := by decide +kernel
theorem dL_hasGap_3 : decode cL_hasGap 3 = .ok (.istore_n 3, 1) := by decide +kernel
theorem dL_hasGap_4 : decode cL_hasGap 4 = .ok (.iload_n 3, 1) := by decide +kernel
theorem dL_hasGap_5 : decode cL_hasGap 5 = .ok (.bipush 24, 2) := by decide +kernel
theorem dL_hasGap_7 : decode cL_hasGap 7 = .ok (.if_icmp .ge 29, 3) := by decide +kernel
theorem dL_hasGap_10 : decode cL_hasGap 10 = .ok (.iload_n 2, 1) := by decide +kernel
theorem dL_hasGap_11 : decode cL_hasGap 11 = .ok (.ifCond .ne 13, 3) := by decide +kernel
theorem dL_hasGap_14 : decode cL_hasGap 14 = .ok (.aload_n 0, 1) := by decide +kernel
theorem dL_hasGap_15 : decode cL_hasGap 15 = .ok (.iload_n 3, 1) := by decide +kernel
theorem dL_hasGap_16 : decode cL_hasGap 16 = .ok (.iconst 3, 1) := by decide +kernel
theorem dL_hasGap_17 : decode cL_hasGap 17 = .ok (.invokevirtual 24, 3) := by decide +kernel
theorem dL_hasGap_20 : decode cL_hasGap 20 = .ok (.iload_n 1, 1) := by decide +kernel
theorem dL_hasGap_21 : decode cL_hasGap 21 = .ok (.if_icmp .lt 7, 3) := by decide +kernel
theorem dL_hasGap_24 : decode cL_hasGap 24 = .ok (.iconst 1, 1) := by decide +kernel
theorem dL_hasGap_25 : decode cL_hasGap 25 = .ok (.goto 4, 3) := by decide +kernel
theorem dL_hasGap_28 : decode cL_hasGap 28 = .ok (.iconst 0, 1) := by decide +kernel
theorem dL_hasGap_29 : decode cL_hasGap 29 = .ok (.istore_n 2, 1) := by decide +kernel
theorem dL_hasGap_30 : decode cL_hasGap 30 = .ok (.iinc 3 1, 3) := by decide +kernel
theorem dL_hasGap_33 : decode cL_hasGap 33 = .ok (.goto (-29), 3) := by decide +kernel
theorem dL_hasGap_36 : decode cL_hasGap 36 = .ok (.iload_n 2, 1) := by decide +kernel
theorem dL_hasGap_37 : decode cL_hasGap 37 = .ok (.ireturn, 1) := by decide +kernel
theorem dL_comes_0 : decode cL_comes 0 = .ok (.iconst 0, 1) := by decide +kernel
theorem dL_comes_1 : decode cL_comes 1 = .ok (.istore_n 3, 1) := by decide +kernel
theorem dL_comes_2 : decode cL_comes 2 = .ok (.iload_n 3, 1) := by decide +kernel
theorem dL_comes_3 : decode cL_comes 3 = .ok (.bipush 10, 2) := by decide +kernel
theorem dL_comes_5 : decode cL_comes 5 = .ok (.if_icmp .ge 17, 3) := by decide +kernel
theorem dL_comes_8 : decode cL_comes 8 = .ok (.iload_n 1, 1) := by decide +kernel
theorem dL_comes_9 : decode cL_comes 9 = .ok (.iload_n 3, 1) := by decide +kernel
theorem dL_comes_10 : decode cL_comes 10 = .ok (.invokestatic 9, 3) := by decide +kernel
theorem dL_comes_13 : decode cL_comes 13 = .ok (.ifCond .eq 9, 3) := by decide +kernel
theorem dL_comes_16 : decode cL_comes 16 = .ok (.iinc 3 1, 3) := by decide +kernel
theorem dL_comes_19 : decode cL_comes 19 = .ok (.goto (-17), 3) := by decide +kernel
theorem dL_comes_22 : decode cL_comes 22 = .ok (.aload_n 0, 1) := by decide +kernel
theorem dL_comes_23 : decode cL_comes 23 = .ok (.iconst 1, 1) := by decide +kernel
theorem dL_comes_24 : decode cL_comes 24 = .ok (.invokevirtual 31, 3) := by decide +kernel
theorem dL_comes_27 : decode cL_comes 27 = .ok (.istore 4, 2) := by decide +kernel
theorem dL_comes_29 : decode cL_comes 29 = .ok (.iload_n 3, 1) := by decide +kernel
theorem dL_comes_30 : decode cL_comes 30 = .ok (.bipush 10, 2) := by decide +kernel
theorem dL_comes_32 : decode cL_comes 32 = .ok (.if_icmp .ge 43, 3) := by decide +kernel
theorem dL_comes_35 : decode cL_comes 35 = .ok (.iload_n 2, 1) := by decide +kernel
theorem dL_comes_36 : decode cL_comes 36 = .ok (.bipush 16, 2) := by decide +kernel
theorem dL_comes_38 : decode cL_comes 38 = .ok (.idiv, 1) := by decide +kernel
theorem dL_comes_39 : decode cL_comes 39 = .ok (.iload 4, 2) := by decide +kernel
theorem dL_comes_41 : decode cL_comes 41 = .ok (.if_icmp .gt 34, 3) := by decide +kernel
theorem dL_comes_44 : decode cL_comes 44 = .ok (.iload_n 2, 1) := by decide +kernel
theorem dL_comes_45 : decode cL_comes 45 = .ok (.bipush 16, 2) := by decide +kernel
theorem dL_comes_47 : decode cL_comes 47 = .ok (.irem, 1) := by decide +kernel
theorem dL_comes_48 : decode cL_comes 48 = .ok (.ifCond .eq 23, 3) := by decide +kernel
theorem dL_comes_51 : decode cL_comes 51 = .ok (.iload_n 2, 1) := by decide +kernel
theorem dL_comes_52 : decode cL_comes 52 = .ok (.bipush 16, 2) := by decide +kernel
theorem dL_comes_54 : decode cL_comes 54 = .ok (.idiv, 1) := by decide +kernel
theorem dL_comes_55 : decode cL_comes 55 = .ok (.iload 4, 2) := by decide +kernel
theorem dL_comes_57 : decode cL_comes 57 = .ok (.if_icmp .lt 14, 3) := by decide +kernel
theorem dL_comes_60 : decode cL_comes 60 = .ok (.aload_n 0, 1) := by decide +kernel
theorem dL_comes_61 : decode cL_comes 61 = .ok (.iload_n 2, 1) := by decide +kernel
theorem dL_comes_62 : decode cL_comes 62 = .ok (.bipush 16, 2) := by decide +kernel
theorem dL_comes_64 : decode cL_comes 64 = .ok (.irem, 1) := by decide +kernel
theorem dL_comes_65 : decode cL_comes 65 = .ok (.invokestatic 39, 3) := by decide +kernel
theorem dL_comes_68 : decode cL_comes 68 = .ok (.ifCond .eq 7, 3) := by decide +kernel
theorem dL_comes_71 : decode cL_comes 71 = .ok (.iconst 1, 1) := by decide +kernel
theorem dL_comes_72 : decode cL_comes 72 = .ok (.goto 4, 3) := by decide +kernel
theorem dL_comes_75 : decode cL_comes 75 = .ok (.iconst 0, 1) := by decide +kernel
theorem dL_comes_76 : decode cL_comes 76 = .ok (.istore 5, 2) := by decide +kernel
theorem dL_comes_78 : decode cL_comes 78 = .ok (.aload_n 0, 1) := by decide +kernel
theorem dL_comes_79 : decode cL_comes 79 = .ok (.invokevirtual 43, 3) := by decide +kernel
theorem dL_comes_82 : decode cL_comes 82 = .ok (.istore 6, 2) := by decide +kernel
theorem dL_comes_84 : decode cL_comes 84 = .ok (.aload_n 0, 1) := by decide +kernel
theorem dL_comes_85 : decode cL_comes 85 = .ok (.bipush 8, 2) := by decide +kernel
theorem dL_comes_87 : decode cL_comes 87 = .ok (.invokevirtual 31, 3) := by decide +kernel
theorem dL_comes_90 : decode cL_comes 90 = .ok (.istore 7, 2) := by decide +kernel
theorem dL_comes_92 : decode cL_comes 92 = .ok (.aload_n 0, 1) := by decide +kernel
theorem dL_comes_93 : decode cL_comes 93 = .ok (.iload_n 2, 1) := by decide +kernel
theorem dL_comes_94 : decode cL_comes 94 = .ok (.invokevirtual 47, 3) := by decide +kernel
theorem dL_comes_97 : decode cL_comes 97 = .ok (.istore 8, 2) := by decide +kernel
theorem dL_comes_99 : decode cL_comes 99 = .ok (.iload 8, 2) := by decide +kernel
theorem dL_comes_101 : decode cL_comes 101 = .ok (.iload 5, 2) := by decide +kernel
theorem dL_comes_103 : decode cL_comes 103 = .ok (.ifCond .eq 7, 3) := by decide +kernel
theorem dL_comes_106 : decode cL_comes 106 = .ok (.iload_n 3, 1) := by decide +kernel
theorem dL_comes_107 : decode cL_comes 107 = .ok (.goto 4, 3) := by decide +kernel
theorem dL_comes_110 : decode cL_comes 110 = .ok (.iconst (-1), 1) := by decide +kernel
theorem dL_comes_111 : decode cL_comes 111 = .ok (.if_icmp .ne 108, 3) := by decide +kernel
theorem dL_comes_114 : decode cL_comes 114 = .ok (.aload_n 0, 1) := by decide +kernel
theorem dL_comes_115 : decode cL_comes 115 = .ok (.bipush 8, 2) := by decide +kernel
theorem dL_comes_117 : decode cL_comes 117 = .ok (.invokevirtual 31, 3) := by decide +kernel
theorem dL_comes_120 : decode cL_comes 120 = .ok (.iload 7, 2) := by decide +kernel
theorem dL_comes_122 : decode cL_comes 122 = .ok (.iload 5, 2) := by decide +kernel
theorem dL_comes_124 : decode cL_comes 124 = .ok (.ifCond .eq 7, 3) := by decide +kernel
theorem dL_comes_127 : decode cL_comes 127 = .ok (.iconst 0, 1) := by decide +kernel
theorem dL_comes_128 : decode cL_comes 128 = .ok (.goto 4, 3) := by decide +kernel
theorem dL_comes_131 : decode cL_comes 131 = .ok (.iconst 1, 1) := by decide +kernel
theorem dL_comes_132 : decode cL_comes 132 = .ok (.iadd, 1) := by decide +kernel
theorem dL_comes_133 : decode cL_comes 133 = .ok (.if_icmp .ne 86, 3) := by decide +kernel
theorem dL_comes_136 : decode cL_comes 136 = .ok (.iload_n 3, 1) := by decide +kernel
theorem dL_comes_137 : decode cL_comes 137 = .ok (.bipush 10, 2) := by decide +kernel
theorem dL_comes_139 : decode cL_comes 139 = .ok (.if_icmp .ne 12, 3) := by decide +kernel
theorem dL_comes_142 : decode cL_comes 142 = .ok (.iload 6, 2) := by decide +kernel
theorem dL_comes_144 : decode cL_comes 144 = .ok (.iconst (-1), 1) := by decide +kernel
theorem dL_comes_145 : decode cL_comes 145 = .ok (.if_icmp .ne 74, 3) := by decide +kernel
theorem dL_comes_148 : decode cL_comes 148 = .ok (.goto 28, 3) := by decide +kernel
theorem dL_comes_151 : decode cL_comes 151 = .ok (.iload 5, 2) := by decide +kernel
theorem dL_comes_153 : decode cL_comes 153 = .ok (.ifCond .eq 12, 3) := by decide +kernel
theorem dL_comes_156 : decode cL_comes 156 = .ok (.iload 6, 2) := by decide +kernel
theorem dL_comes_158 : decode cL_comes 158 = .ok (.iload_n 2, 1) := by decide +kernel
theorem dL_comes_159 : decode cL_comes 159 = .ok (.if_icmp .lt 60, 3) := by decide +kernel
theorem dL_comes_162 : decode cL_comes 162 = .ok (.goto 14, 3) := by decide +kernel
theorem dL_comes_165 : decode cL_comes 165 = .ok (.iload 6, 2) := by decide +kernel
theorem dL_comes_167 : decode cL_comes 167 = .ok (.ifCond .lt 52, 3) := by decide +kernel
theorem dL_comes_170 : decode cL_comes 170 = .ok (.iload 6, 2) := by decide +kernel
theorem dL_comes_172 : decode cL_comes 172 = .ok (.iload_n 2, 1) := by decide +kernel
theorem dL_comes_173 : decode cL_comes 173 = .ok (.if_icmp .eq 46, 3) := by decide +kernel
theorem dL_comes_176 : decode cL_comes 176 = .ok (.iload 5, 2) := by decide +kernel
theorem dL_comes_178 : decode cL_comes 178 = .ok (.ifCond .eq 37, 3) := by decide +kernel
theorem dL_comes_181 : decode cL_comes 181 = .ok (.aload_n 0, 1) := by decide +kernel
theorem dL_comes_182 : decode cL_comes 182 = .ok (.iload 8, 2) := by decide +kernel
theorem dL_comes_184 : decode cL_comes 184 = .ok (.iconst 0, 1) := by decide +kernel
theorem dL_comes_185 : decode cL_comes 185 = .ok (.invokevirtual 15, 3) := by decide +kernel
theorem dL_comes_188 : decode cL_comes 188 = .ok (.iload_n 2, 1) := by decide +kernel
theorem dL_comes_189 : decode cL_comes 189 = .ok (.if_icmp .ne 30, 3) := by decide +kernel
theorem dL_comes_192 : decode cL_comes 192 = .ok (.aload_n 0, 1) := by decide +kernel
theorem dL_comes_193 : decode cL_comes 193 = .ok (.iload 8, 2) := by decide +kernel
theorem dL_comes_195 : decode cL_comes 195 = .ok (.bipush 6, 2) := by decide +kernel
theorem dL_comes_197 : decode cL_comes 197 = .ok (.invokevirtual 15, 3) := by decide +kernel
theorem dL_comes_200 : decode cL_comes 200 = .ok (.iload_n 2, 1) := by decide +kernel
theorem dL_comes_201 : decode cL_comes 201 = .ok (.bipush 16, 2) := by decide +kernel
theorem dL_comes_203 : decode cL_comes 203 = .ok (.irem, 1) := by decide +kernel
theorem dL_comes_204 : decode cL_comes 204 = .ok (.ifCond .ne 7, 3) := by decide +kernel
theorem dL_comes_207 : decode cL_comes 207 = .ok (.iconst 0, 1) := by decide +kernel
theorem dL_comes_208 : decode cL_comes 208 = .ok (.goto 4, 3) := by decide +kernel
theorem dL_comes_211 : decode cL_comes 211 = .ok (.iconst 1, 1) := by decide +kernel
theorem dL_comes_212 : decode cL_comes 212 = .ok (.if_icmp .ne 7, 3) := by decide +kernel
theorem dL_comes_215 : decode cL_comes 215 = .ok (.iconst 1, 1) := by decide +kernel
theorem dL_comes_216 : decode cL_comes 216 = .ok (.goto 4, 3) := by decide +kernel
theorem dL_comes_219 : decode cL_comes 219 = .ok (.iconst 0, 1) := by decide +kernel
theorem dL_comes_220 : decode cL_comes 220 = .ok (.istore 9, 2) := by decide +kernel
theorem dL_comes_222 : decode cL_comes 222 = .ok (.iload 9, 2) := by decide +kernel
theorem dL_comes_224 : decode cL_comes 224 = .ok (.ifCond .eq 8, 3) := by decide +kernel
theorem dL_comes_227 : decode cL_comes 227 = .ok (.iload 8, 2) := by decide +kernel
theorem dL_comes_229 : decode cL_comes 229 = .ok (.goto 5, 3) := by decide +kernel
theorem dL_comes_232 : decode cL_comes 232 = .ok (.bipush (-2), 2) := by decide +kernel
theorem dL_comes_234 : decode cL_comes 234 = .ok (.ireturn, 1) := by decide +kernel
theorem dL_grows_0 : decode cL_grows 0 = .ok (.aload_n 0, 1) := by decide +kernel
theorem dL_grows_1 : decode cL_grows 1 = .ok (.iload_n 1, 1) := by decide +kernel
theorem dL_grows_2 : decode cL_grows 2 = .ok (.iconst 0, 1) := by decide +kernel
theorem dL_grows_3 : decode cL_grows 3 = .ok (.invokevirtual 15, 3) := by decide +kernel
theorem dL_grows_6 : decode cL_grows 6 = .ok (.istore_n 3, 1) := by decide +kernel
theorem dL_grows_7 : decode cL_grows 7 = .ok (.aload_n 0, 1) := by decide +kernel
theorem dL_grows_8 : decode cL_grows 8 = .ok (.iload_n 1, 1) := by decide +kernel
theorem dL_grows_9 : decode cL_grows 9 = .ok (.iconst 3, 1) := by decide +kernel
theorem dL_grows_10 : decode cL_grows 10 = .ok (.invokevirtual 15, 3) := by decide +kernel
theorem dL_grows_13 : decode cL_grows 13 = .ok (.istore 4, 2) := by decide +kernel
theorem dL_grows_15 : decode cL_grows 15 = .ok (.aload_n 0, 1) := by decide +kernel
theorem dL_grows_16 : decode cL_grows 16 = .ok (.iload_n 1, 1) := by decide +kernel
theorem dL_grows_17 : decode cL_grows 17 = .ok (.iconst 4, 1) := by decide +kernel
theorem dL_grows_18 : decode cL_grows 18 = .ok (.invokevirtual 15, 3) := by decide +kernel
theorem dL_grows_21 : decode cL_grows 21 = .ok (.istore 5, 2) := by decide +kernel
theorem dL_grows_23 : decode cL_grows 23 = .ok (.aload_n 0, 1) := by decide +kernel
theorem dL_grows_24 : decode cL_grows 24 = .ok (.iload_n 1, 1) := by decide +kernel
theorem dL_grows_25 : decode cL_grows 25 = .ok (.bipush 6, 2) := by decide +kernel
theorem dL_grows_27 : decode cL_grows 27 = .ok (.invokevirtual 15, 3) := by decide +kernel
theorem dL_grows_30 : decode cL_grows 30 = .ok (.istore 6, 2) := by decide +kernel
theorem dL_grows_32 : decode cL_grows 32 = .ok (.aload_n 0, 1) := by decide +kernel
theorem dL_grows_33 : decode cL_grows 33 = .ok (.bipush 8, 2) := by decide +kernel
theorem dL_grows_35 : decode cL_grows 35 = .ok (.invokevirtual 31, 3) := by decide +kernel
theorem dL_grows_38 : decode cL_grows 38 = .ok (.istore 7, 2) := by decide +kernel
theorem dL_grows_40 : decode cL_grows 40 = .ok (.aload_n 0, 1) := by decide +kernel
theorem dL_grows_41 : decode cL_grows 41 = .ok (.iload_n 1, 1) := by decide +kernel
theorem dL_grows_42 : decode cL_grows 42 = .ok (.iload_n 2, 1) := by decide +kernel
theorem dL_grows_43 : decode cL_grows 43 = .ok (.invokevirtual 50, 3) := by decide +kernel
theorem dL_grows_46 : decode cL_grows 46 = .ok (.istore 8, 2) := by decide +kernel
theorem dL_grows_48 : decode cL_grows 48 = .ok (.aload_n 0, 1) := by decide +kernel
theorem dL_grows_49 : decode cL_grows 49 = .ok (.iload_n 1, 1) := by decide +kernel
theorem dL_grows_50 : decode cL_grows 50 = .ok (.iload_n 2, 1) := by decide +kernel
theorem dL_grows_51 : decode cL_grows 51 = .ok (.invokevirtual 53, 3) := by decide +kernel
theorem dL_grows_54 : decode cL_grows 54 = .ok (.istore 9, 2) := by decide +kernel
theorem dL_grows_56 : decode cL_grows 56 = .ok (.iload 9, 2) := by decide +kernel
theorem dL_grows_58 : decode cL_grows 58 = .ok (.iload 8, 2) := by decide +kernel
theorem dL_grows_60 : decode cL_grows 60 = .ok (.if_icmp .ne 25, 3) := by decide +kernel
theorem dL_grows_63 : decode cL_grows 63 = .ok (.aload_n 0, 1) := by decide +kernel
theorem dL_grows_64 : decode cL_grows 64 = .ok (.bipush 8, 2) := by decide +kernel
theorem dL_grows_66 : decode cL_grows 66 = .ok (.invokevirtual 31, 3) := by decide +kernel
theorem dL_grows_69 : decode cL_grows 69 = .ok (.iload 7, 2) := by decide +kernel
theorem dL_grows_71 : decode cL_grows 71 = .ok (.iload 9, 2) := by decide +kernel
theorem dL_grows_73 : decode cL_grows 73 = .ok (.ifCond .ge 7, 3) := by decide +kernel
theorem dL_grows_76 : decode cL_grows 76 = .ok (.iconst 1, 1) := by decide +kernel
theorem dL_grows_77 : decode cL_grows 77 = .ok (.goto 4, 3) := by decide +kernel
theorem dL_grows_80 : decode cL_grows 80 = .ok (.iconst 0, 1) := by decide +kernel
theorem dL_grows_81 : decode cL_grows 81 = .ok (.iadd, 1) := by decide +kernel
theorem dL_grows_82 : decode cL_grows 82 = .ok (.if_icmp .eq 5, 3) := by decide +kernel
theorem dL_grows_85 : decode cL_grows 85 = .ok (.iconst 0, 1) := by decide +kernel
theorem dL_grows_86 : decode cL_grows 86 = .ok (.ireturn, 1) := by decide +kernel
theorem dL_grows_87 : decode cL_grows 87 = .ok (.iload 9, 2) := by decide +kernel
theorem dL_grows_89 : decode cL_grows 89 = .ok (.ifCond .ge 70, 3) := by decide +kernel
theorem dL_grows_92 : decode cL_grows 92 = .ok (.aload_n 0, 1) := by decide +kernel
theorem dL_grows_93 : decode cL_grows 93 = .ok (.iload_n 1, 1) := by decide +kernel
theorem dL_grows_94 : decode cL_grows 94 = .ok (.iconst 0, 1) := by decide +kernel
theorem dL_grows_95 : decode cL_grows 95 = .ok (.invokevirtual 15, 3) := by decide +kernel
theorem dL_grows_98 : decode cL_grows 98 = .ok (.iload_n 3, 1) := by decide +kernel
theorem dL_grows_99 : decode cL_grows 99 = .ok (.if_icmp .ne 58, 3) := by decide +kernel
theorem dL_grows_102 : decode cL_grows 102 = .ok (.aload_n 0, 1) := by decide +kernel
theorem dL_grows_103 : decode cL_grows 103 = .ok (.iload_n 1, 1) := by decide +kernel
theorem dL_grows_104 : decode cL_grows 104 = .ok (.iconst 3, 1) := by decide +kernel
theorem dL_grows_105 : decode cL_grows 105 = .ok (.invokevirtual 15, 3) := by decide +kernel
theorem dL_grows_108 : decode cL_grows 108 = .ok (.iload 4, 2) := by decide +kernel
theorem dL_grows_110 : decode cL_grows 110 = .ok (.if_icmp .ne 47, 3) := by decide +kernel
theorem dL_grows_113 : decode cL_grows 113 = .ok (.aload_n 0, 1) := by decide +kernel
theorem dL_grows_114 : decode cL_grows 114 = .ok (.iload_n 1, 1) := by decide +kernel
theorem dL_grows_115 : decode cL_grows 115 = .ok (.iconst 4, 1) := by decide +kernel
theorem dL_grows_116 : decode cL_grows 116 = .ok (.invokevirtual 15, 3) := by decide +kernel
theorem dL_grows_119 : decode cL_grows 119 = .ok (.iload 5, 2) := by decide +kernel
theorem dL_grows_121 : decode cL_grows 121 = .ok (.if_icmp .ne 36, 3) := by decide +kernel
theorem dL_grows_124 : decode cL_grows 124 = .ok (.aload_n 0, 1) := by decide +kernel
theorem dL_grows_125 : decode cL_grows 125 = .ok (.iload_n 1, 1) := by decide +kernel
theorem dL_grows_126 : decode cL_grows 126 = .ok (.iconst 5, 1) := by decide +kernel
theorem dL_grows_127 : decode cL_grows 127 = .ok (.invokevirtual 15, 3) := by decide +kernel
theorem dL_grows_130 : decode cL_grows 130 = .ok (.iconst 1, 1) := by decide +kernel
theorem dL_grows_131 : decode cL_grows 131 = .ok (.if_icmp .eq 22, 3) := by decide +kernel
theorem dL_grows_134 : decode cL_grows 134 = .ok (.iload_n 3, 1) := by decide +kernel
theorem dL_grows_135 : decode cL_grows 135 = .ok (.iload_n 2, 1) := by decide +kernel
theorem dL_grows_136 : decode cL_grows 136 = .ok (.iadd, 1) := by decide +kernel
theorem dL_grows_137 : decode cL_grows 137 = .ok (.sipush 200, 3) := by decide +kernel
theorem dL_grows_140 : decode cL_grows 140 = .ok (.if_icmp .gt 13, 3) := by decide +kernel
theorem dL_grows_143 : decode cL_grows 143 = .ok (.aload_n 0, 1) := by decide +kernel
theorem dL_grows_144 : decode cL_grows 144 = .ok (.iconst 1, 1) := by decide +kernel
theorem dL_grows_145 : decode cL_grows 145 = .ok (.invokevirtual 31, 3) := by decide +kernel
theorem dL_grows_148 : decode cL_grows 148 = .ok (.bipush 13, 2) := by decide +kernel
theorem dL_grows_150 : decode cL_grows 150 = .ok (.if_icmp .ge 7, 3) := by decide +kernel
theorem dL_grows_153 : decode cL_grows 153 = .ok (.iconst 1, 1) := by decide +kernel
theorem dL_grows_154 : decode cL_grows 154 = .ok (.goto 4, 3) := by decide +kernel
theorem dL_grows_157 : decode cL_grows 157 = .ok (.iconst 0, 1) := by decide +kernel
theorem dL_grows_158 : decode cL_grows 158 = .ok (.ireturn, 1) := by decide +kernel
theorem dL_grows_159 : decode cL_grows 159 = .ok (.aload_n 0, 1) := by decide +kernel
theorem dL_grows_160 : decode cL_grows 160 = .ok (.iload_n 1, 1) := by decide +kernel
theorem dL_grows_161 : decode cL_grows 161 = .ok (.iconst 0, 1) := by decide +kernel
theorem dL_grows_162 : decode cL_grows 162 = .ok (.invokevirtual 15, 3) := by decide +kernel
theorem dL_grows_165 : decode cL_grows 165 = .ok (.iload_n 3, 1) := by decide +kernel
theorem dL_grows_166 : decode cL_grows 166 = .ok (.iload_n 2, 1) := by decide +kernel
theorem dL_grows_167 : decode cL_grows 167 = .ok (.iadd, 1) := by decide +kernel
theorem dL_grows_168 : decode cL_grows 168 = .ok (.if_icmp .ne 16, 3) := by decide +kernel
theorem dL_grows_171 : decode cL_grows 171 = .ok (.aload_n 0, 1) := by decide +kernel
theorem dL_grows_172 : decode cL_grows 172 = .ok (.iload_n 1, 1) := by decide +kernel
theorem dL_grows_173 : decode cL_grows 173 = .ok (.iconst 5, 1) := by decide +kernel
theorem dL_grows_174 : decode cL_grows 174 = .ok (.invokevirtual 15, 3) := by decide +kernel
theorem dL_grows_177 : decode cL_grows 177 = .ok (.ifCond .ne 7, 3) := by decide +kernel
theorem dL_grows_180 : decode cL_grows 180 = .ok (.iconst 1, 1) := by decide +kernel
theorem dL_grows_181 : decode cL_grows 181 = .ok (.goto 4, 3) := by decide +kernel
theorem dL_grows_184 : decode cL_grows 184 = .ok (.iconst 0, 1) := by decide +kernel
theorem dL_grows_185 : decode cL_grows 185 = .ok (.istore 10, 2) := by decide +kernel
theorem dL_grows_187 : decode cL_grows 187 = .ok (.iload 10, 2) := by decide +kernel
theorem dL_grows_189 : decode cL_grows 189 = .ok (.ifCond .eq 96, 3) := by decide +kernel
theorem dL_grows_192 : decode cL_grows 192 = .ok (.iload 9, 2) := by decide +kernel
theorem dL_grows_194 : decode cL_grows 194 = .ok (.ifCond .ne 60, 3) := by decide +kernel
theorem dL_grows_197 : decode cL_grows 197 = .ok (.iload_n 3, 1) := by decide +kernel
theorem dL_grows_198 : decode cL_grows 198 = .ok (.bipush 16, 2) := by decide +kernel
theorem dL_grows_200 : decode cL_grows 200 = .ok (.irem, 1) := by decide +kernel
theorem dL_grows_201 : decode cL_grows 201 = .ok (.ifCond .le 84, 3) := by decide +kernel
theorem dL_grows_204 : decode cL_grows 204 = .ok (.iload_n 3, 1) := by decide +kernel
theorem dL_grows_205 : decode cL_grows 205 = .ok (.bipush 16, 2) := by decide +kernel
theorem dL_grows_207 : decode cL_grows 207 = .ok (.idiv, 1) := by decide +kernel
theorem dL_grows_208 : decode cL_grows 208 = .ok (.iload_n 3, 1) := by decide +kernel
theorem dL_grows_209 : decode cL_grows 209 = .ok (.iload_n 2, 1) := by decide +kernel
theorem dL_grows_210 : decode cL_grows 210 = .ok (.iadd, 1) := by decide +kernel
theorem dL_grows_211 : decode cL_grows 211 = .ok (.bipush 16, 2) := by decide +kernel
theorem dL_grows_213 : decode cL_grows 213 = .ok (.idiv, 1) := by decide +kernel
theorem dL_grows_214 : decode cL_grows 214 = .ok (.if_icmp .ne 71, 3) := by decide +kernel
theorem dL_grows_217 : decode cL_grows 217 = .ok (.aload_n 0, 1) := by decide +kernel
theorem dL_grows_218 : decode cL_grows 218 = .ok (.iload_n 1, 1) := by decide +kernel
theorem dL_grows_219 : decode cL_grows 219 = .ok (.iconst 3, 1) := by decide +kernel
theorem dL_grows_220 : decode cL_grows 220 = .ok (.invokevirtual 15, 3) := by decide +kernel
theorem dL_grows_223 : decode cL_grows 223 = .ok (.iload 4, 2) := by decide +kernel
theorem dL_grows_225 : decode cL_grows 225 = .ok (.if_icmp .ne 60, 3) := by decide +kernel
theorem dL_grows_228 : decode cL_grows 228 = .ok (.aload_n 0, 1) := by decide +kernel
theorem dL_grows_229 : decode cL_grows 229 = .ok (.iload_n 1, 1) := by decide +kernel
theorem dL_grows_230 : decode cL_grows 230 = .ok (.iconst 4, 1) := by decide +kernel
theorem dL_grows_231 : decode cL_grows 231 = .ok (.invokevirtual 15, 3) := by decide +kernel
theorem dL_grows_234 : decode cL_grows 234 = .ok (.iload 5, 2) := by decide +kernel
theorem dL_grows_236 : decode cL_grows 236 = .ok (.if_icmp .ne 49, 3) := by decide +kernel
theorem dL_grows_239 : decode cL_grows 239 = .ok (.aload_n 0, 1) := by decide +kernel
theorem dL_grows_240 : decode cL_grows 240 = .ok (.iload_n 1, 1) := by decide +kernel
theorem dL_grows_241 : decode cL_grows 241 = .ok (.bipush 6, 2) := by decide +kernel
theorem dL_grows_243 : decode cL_grows 243 = .ok (.invokevirtual 15, 3) := by decide +kernel
theorem dL_grows_246 : decode cL_grows 246 = .ok (.iload 6, 2) := by decide +kernel
theorem dL_grows_248 : decode cL_grows 248 = .ok (.if_icmp .ne 37, 3) := by decide +kernel
theorem dL_grows_251 : decode cL_grows 251 = .ok (.goto 30, 3) := by decide +kernel
theorem dL_grows_254 : decode cL_grows 254 = .ok (.aload_n 0, 1) := by decide +kernel
theorem dL_grows_255 : decode cL_grows 255 = .ok (.iload_n 1, 1) := by decide +kernel
theorem dL_grows_256 : decode cL_grows 256 = .ok (.bipush 6, 2) := by decide +kernel
theorem dL_grows_258 : decode cL_grows 258 = .ok (.invokevirtual 15, 3) := by decide +kernel
theorem dL_grows_261 : decode cL_grows 261 = .ok (.iload 6, 2) := by decide +kernel
theorem dL_grows_263 : decode cL_grows 263 = .ok (.iload_n 3, 1) := by decide +kernel
theorem dL_grows_264 : decode cL_grows 264 = .ok (.iload_n 2, 1) := by decide +kernel
theorem dL_grows_265 : decode cL_grows 265 = .ok (.iadd, 1) := by decide +kernel
theorem dL_grows_266 : decode cL_grows 266 = .ok (.bipush 16, 2) := by decide +kernel
theorem dL_grows_268 : decode cL_grows 268 = .ok (.irem, 1) := by decide +kernel
theorem dL_grows_269 : decode cL_grows 269 = .ok (.ifCond .ne 7, 3) := by decide +kernel
theorem dL_grows_272 : decode cL_grows 272 = .ok (.iconst 0, 1) := by decide +kernel
theorem dL_grows_273 : decode cL_grows 273 = .ok (.goto 4, 3) := by decide +kernel
theorem dL_grows_276 : decode cL_grows 276 = .ok (.iconst 1, 1) := by decide +kernel
theorem dL_grows_277 : decode cL_grows 277 = .ok (.iadd, 1) := by decide +kernel
theorem dL_grows_278 : decode cL_grows 278 = .ok (.if_icmp .ne 7, 3) := by decide +kernel
theorem dL_grows_281 : decode cL_grows 281 = .ok (.iconst 1, 1) := by decide +kernel
theorem dL_grows_282 : decode cL_grows 282 = .ok (.goto 4, 3) := by decide +kernel
theorem dL_grows_285 : decode cL_grows 285 = .ok (.iconst 0, 1) := by decide +kernel
theorem dL_grows_286 : decode cL_grows 286 = .ok (.ireturn, 1) := by decide +kernel
theorem dL_cuts_0 : decode cL_cuts 0 = .ok (.aload_n 0, 1) := by decide +kernel
theorem dL_cuts_1 : decode cL_cuts 1 = .ok (.iload_n 1, 1) := by decide +kernel
theorem dL_cuts_2 : decode cL_cuts 2 = .ok (.iconst 0, 1) := by decide +kernel
theorem dL_cuts_3 : decode cL_cuts 3 = .ok (.invokevirtual 15, 3) := by decide +kernel
theorem dL_cuts_6 : decode cL_cuts 6 = .ok (.istore_n 3, 1) := by decide +kernel
theorem dL_cuts_7 : decode cL_cuts 7 = .ok (.aload_n 0, 1) := by decide +kernel
theorem dL_cuts_8 : decode cL_cuts 8 = .ok (.iload_n 1, 1) := by decide +kernel
theorem dL_cuts_9 : decode cL_cuts 9 = .ok (.iconst 3, 1) := by decide +kernel
theorem dL_cuts_10 : decode cL_cuts 10 = .ok (.invokevirtual 15, 3) := by decide +kernel
theorem dL_cuts_13 : decode cL_cuts 13 = .ok (.istore 4, 2) := by decide +kernel
theorem dL_cuts_15 : decode cL_cuts 15 = .ok (.aload_n 0, 1) := by decide +kernel
theorem dL_cuts_16 : decode cL_cuts 16 = .ok (.iload_n 1, 1) := by decide +kernel
theorem dL_cuts_17 : decode cL_cuts 17 = .ok (.iconst 4, 1) := by decide +kernel
theorem dL_cuts_18 : decode cL_cuts 18 = .ok (.invokevirtual 15, 3) := by decide +kernel
theorem dL_cuts_21 : decode cL_cuts 21 = .ok (.istore 5, 2) := by decide +kernel
theorem dL_cuts_23 : decode cL_cuts 23 = .ok (.aload_n 0, 1) := by decide +kernel
theorem dL_cuts_24 : decode cL_cuts 24 = .ok (.iload_n 1, 1) := by decide +kernel
theorem dL_cuts_25 : decode cL_cuts 25 = .ok (.iconst 5, 1) := by decide +kernel
theorem dL_cuts_26 : decode cL_cuts 26 = .ok (.invokevirtual 15, 3) := by decide +kernel
theorem dL_cuts_29 : decode cL_cuts 29 = .ok (.ifCond .ne 12, 3) := by decide +kernel
theorem dL_cuts_32 : decode cL_cuts 32 = .ok (.iload_n 2, 1) := by decide +kernel
theorem dL_cuts_33 : decode cL_cuts 33 = .ok (.iload_n 3, 1) := by decide +kernel
theorem dL_cuts_34 : decode cL_cuts 34 = .ok (.if_icmp .gt 7, 3) := by decide +kernel
theorem dL_cuts_37 : decode cL_cuts 37 = .ok (.iconst 1, 1) := by decide +kernel
theorem dL_cuts_38 : decode cL_cuts 38 = .ok (.goto 4, 3) := by decide +kernel
theorem dL_cuts_41 : decode cL_cuts 41 = .ok (.iconst 0, 1) := by decide +kernel
theorem dL_cuts_42 : decode cL_cuts 42 = .ok (.istore 6, 2) := by decide +kernel
theorem dL_cuts_44 : decode cL_cuts 44 = .ok (.aload_n 0, 1) := by decide +kernel
theorem dL_cuts_45 : decode cL_cuts 45 = .ok (.bipush 8, 2) := by decide +kernel
theorem dL_cuts_47 : decode cL_cuts 47 = .ok (.invokevirtual 31, 3) := by decide +kernel
theorem dL_cuts_50 : decode cL_cuts 50 = .ok (.istore 7, 2) := by decide +kernel
theorem dL_cuts_52 : decode cL_cuts 52 = .ok (.aload_n 0, 1) := by decide +kernel
theorem dL_cuts_53 : decode cL_cuts 53 = .ok (.iload_n 1, 1) := by decide +kernel
theorem dL_cuts_54 : decode cL_cuts 54 = .ok (.iload_n 2, 1) := by decide +kernel
theorem dL_cuts_55 : decode cL_cuts 55 = .ok (.invokevirtual 56, 3) := by decide +kernel
theorem dL_cuts_58 : decode cL_cuts 58 = .ok (.iload 6, 2) := by decide +kernel
theorem dL_cuts_60 : decode cL_cuts 60 = .ok (.ifCond .eq 9, 3) := by decide +kernel
theorem dL_cuts_63 : decode cL_cuts 63 = .ok (.iload_n 3, 1) := by decide +kernel
theorem dL_cuts_64 : decode cL_cuts 64 = .ok (.iload_n 2, 1) := by decide +kernel
theorem dL_cuts_65 : decode cL_cuts 65 = .ok (.isub, 1) := by decide +kernel
theorem dL_cuts_66 : decode cL_cuts 66 = .ok (.goto 4, 3) := by decide +kernel
theorem dL_cuts_69 : decode cL_cuts 69 = .ok (.iconst (-1), 1) := by decide +kernel
theorem dL_cuts_70 : decode cL_cuts 70 = .ok (.if_icmp .ne 46, 3) := by decide +kernel
theorem dL_cuts_73 : decode cL_cuts 73 = .ok (.aload_n 0, 1) := by decide +kernel
theorem dL_cuts_74 : decode cL_cuts 74 = .ok (.bipush 8, 2) := by decide +kernel
theorem dL_cuts_76 : decode cL_cuts 76 = .ok (.invokevirtual 31, 3) := by decide +kernel
theorem dL_cuts_79 : decode cL_cuts 79 = .ok (.iload 7, 2) := by decide +kernel
theorem dL_cuts_81 : decode cL_cuts 81 = .ok (.iload 6, 2) := by decide +kernel
theorem dL_cuts_83 : decode cL_cuts 83 = .ok (.ifCond .eq 7, 3) := by decide +kernel
theorem dL_cuts_86 : decode cL_cuts 86 = .ok (.iconst 0, 1) := by decide +kernel
theorem dL_cuts_87 : decode cL_cuts 87 = .ok (.goto 4, 3) := by decide +kernel
theorem dL_cuts_90 : decode cL_cuts 90 = .ok (.iconst 1, 1) := by decide +kernel
theorem dL_cuts_91 : decode cL_cuts 91 = .ok (.iadd, 1) := by decide +kernel
theorem dL_cuts_92 : decode cL_cuts 92 = .ok (.if_icmp .ne 24, 3) := by decide +kernel
theorem dL_cuts_95 : decode cL_cuts 95 = .ok (.aload_n 0, 1) := by decide +kernel
theorem dL_cuts_96 : decode cL_cuts 96 = .ok (.iload_n 1, 1) := by decide +kernel
theorem dL_cuts_97 : decode cL_cuts 97 = .ok (.iconst 0, 1) := by decide +kernel
theorem dL_cuts_98 : decode cL_cuts 98 = .ok (.invokevirtual 15, 3) := by decide +kernel
theorem dL_cuts_101 : decode cL_cuts 101 = .ok (.iload 6, 2) := by decide +kernel
theorem dL_cuts_103 : decode cL_cuts 103 = .ok (.ifCond .eq 9, 3) := by decide +kernel
theorem dL_cuts_106 : decode cL_cuts 106 = .ok (.iload_n 3, 1) := by decide +kernel
theorem dL_cuts_107 : decode cL_cuts 107 = .ok (.iload_n 2, 1) := by decide +kernel
theorem dL_cuts_108 : decode cL_cuts 108 = .ok (.isub, 1) := by decide +kernel
theorem dL_cuts_109 : decode cL_cuts 109 = .ok (.goto 4, 3) := by decide +kernel
theorem dL_cuts_112 : decode cL_cuts 112 = .ok (.iload_n 3, 1) := by decide +kernel
theorem dL_cuts_113 : decode cL_cuts 113 = .ok (.if_icmp .eq 5, 3) := by decide +kernel
theorem dL_cuts_116 : decode cL_cuts 116 = .ok (.iconst 0, 1) := by decide +kernel
theorem dL_cuts_117 : decode cL_cuts 117 = .ok (.ireturn, 1) := by decide +kernel
theorem dL_cuts_118 : decode cL_cuts 118 = .ok (.iload 6, 2) := by decide +kernel
theorem dL_cuts_120 : decode cL_cuts 120 = .ok (.ifCond .eq 25, 3) := by decide +kernel
theorem dL_cuts_123 : decode cL_cuts 123 = .ok (.iload_n 3, 1) := by decide +kernel
theorem dL_cuts_124 : decode cL_cuts 124 = .ok (.iload_n 2, 1) := by decide +kernel
theorem dL_cuts_125 : decode cL_cuts 125 = .ok (.isub, 1) := by decide +kernel
theorem dL_cuts_126 : decode cL_cuts 126 = .ok (.bipush 16, 2) := by decide +kernel
theorem dL_cuts_128 : decode cL_cuts 128 = .ok (.idiv, 1) := by decide +kernel
theorem dL_cuts_129 : decode cL_cuts 129 = .ok (.iload_n 3, 1) := by decide +kernel
theorem dL_cuts_130 : decode cL_cuts 130 = .ok (.bipush 16, 2) := by decide +kernel
theorem dL_cuts_132 : decode cL_cuts 132 = .ok (.idiv, 1) := by decide +kernel
theorem dL_cuts_133 : decode cL_cuts 133 = .ok (.if_icmp .ne 16, 3) := by decide +kernel
theorem dL_cuts_136 : decode cL_cuts 136 = .ok (.iload_n 3, 1) := by decide +kernel
theorem dL_cuts_137 : decode cL_cuts 137 = .ok (.iload_n 2, 1) := by decide +kernel
theorem dL_cuts_138 : decode cL_cuts 138 = .ok (.isub, 1) := by decide +kernel
theorem dL_cuts_139 : decode cL_cuts 139 = .ok (.bipush 16, 2) := by decide +kernel
theorem dL_cuts_141 : decode cL_cuts 141 = .ok (.irem, 1) := by decide +kernel
theorem dL_cuts_142 : decode cL_cuts 142 = .ok (.ifCond .le 7, 3) := by decide +kernel
theorem dL_cuts_145 : decode cL_cuts 145 = .ok (.iconst 1, 1) := by decide +kernel
theorem dL_cuts_146 : decode cL_cuts 146 = .ok (.goto 4, 3) := by decide +kernel
theorem dL_cuts_149 : decode cL_cuts 149 = .ok (.iconst 0, 1) := by decide +kernel
theorem dL_cuts_150 : decode cL_cuts 150 = .ok (.istore 8, 2) := by decide +kernel
theorem dL_cuts_152 : decode cL_cuts 152 = .ok (.iload 8, 2) := by decide +kernel
theorem dL_cuts_154 : decode cL_cuts 154 = .ok (.ifCond .eq 25, 3) := by decide +kernel
theorem dL_cuts_157 : decode cL_cuts 157 = .ok (.aload_n 0, 1) := by decide +kernel
theorem dL_cuts_158 : decode cL_cuts 158 = .ok (.iload_n 1, 1) := by decide +kernel
theorem dL_cuts_159 : decode cL_cuts 159 = .ok (.iconst 3, 1) := by decide +kernel
theorem dL_cuts_160 : decode cL_cuts 160 = .ok (.invokevirtual 15, 3) := by decide +kernel
theorem dL_cuts_163 : decode cL_cuts 163 = .ok (.iload 4, 2) := by decide +kernel
theorem dL_cuts_165 : decode cL_cuts 165 = .ok (.if_icmp .ne 18, 3) := by decide +kernel
theorem dL_cuts_168 : decode cL_cuts 168 = .ok (.aload_n 0, 1) := by decide +kernel
theorem dL_cuts_169 : decode cL_cuts 169 = .ok (.iload_n 1, 1) := by decide +kernel
theorem dL_cuts_170 : decode cL_cuts 170 = .ok (.iconst 4, 1) := by decide +kernel
theorem dL_cuts_171 : decode cL_cuts 171 = .ok (.invokevirtual 15, 3) := by decide +kernel
theorem dL_cuts_174 : decode cL_cuts 174 = .ok (.iload 5, 2) := by decide +kernel
theorem dL_cuts_176 : decode cL_cuts 176 = .ok (.if_icmp .ne 7, 3) := by decide +kernel
theorem dL_cuts_179 : decode cL_cuts 179 = .ok (.iconst 1, 1) := by decide +kernel
theorem dL_cuts_180 : decode cL_cuts 180 = .ok (.goto 4, 3) := by decide +kernel
theorem dL_cuts_183 : decode cL_cuts 183 = .ok (.iconst 0, 1) := by decide +kernel
theorem dL_cuts_184 : decode cL_cuts 184 = .ok (.ireturn, 1) := by decide +kernel
theorem dL_packs_0 : decode cL_packs 0 = .ok (.aload_n 0, 1) := by decide +kernel
theorem dL_packs_1 : decode cL_packs 1 = .ok (.invokevirtual 59, 3) := by decide +kernel
theorem dL_packs_4 : decode cL_packs 4 = .ok (.istore_n 1, 1) := by decide +kernel
theorem dL_packs_5 : decode cL_packs 5 = .ok (.aload_n 0, 1) := by decide +kernel
theorem dL_packs_6 : decode cL_packs 6 = .ok (.iconst 3, 1) := by decide +kernel
theorem dL_packs_7 : decode cL_packs 7 = .ok (.invokevirtual 31, 3) := by decide +kernel
theorem dL_packs_10 : decode cL_packs 10 = .ok (.istore_n 2, 1) := by decide +kernel
theorem dL_packs_11 : decode cL_packs 11 = .ok (.aload_n 0, 1) := by decide +kernel
theorem dL_packs_12 : decode cL_packs 12 = .ok (.bipush 9, 2) := by decide +kernel
theorem dL_packs_14 : decode cL_packs 14 = .ok (.invokevirtual 31, 3) := by decide +kernel
theorem dL_packs_17 : decode cL_packs 17 = .ok (.istore_n 3, 1) := by decide +kernel
theorem dL_packs_18 : decode cL_packs 18 = .ok (.aload_n 0, 1) := by decide +kernel
theorem dL_packs_19 : decode cL_packs 19 = .ok (.iconst 0, 1) := by decide +kernel
theorem dL_packs_20 : decode cL_packs 20 = .ok (.invokevirtual 62, 3) := by decide +kernel
theorem dL_packs_23 : decode cL_packs 23 = .ok (.istore 4, 2) := by decide +kernel
theorem dL_packs_25 : decode cL_packs 25 = .ok (.aload_n 0, 1) := by decide +kernel
theorem dL_packs_26 : decode cL_packs 26 = .ok (.invokevirtual 65, 3) := by decide +kernel
theorem dL_packs_29 : decode cL_packs 29 = .ok (.istore 5, 2) := by decide +kernel
theorem dL_packs_31 : decode cL_packs 31 = .ok (.iload 5, 2) := by decide +kernel
theorem dL_packs_33 : decode cL_packs 33 = .ok (.iload_n 1, 1) := by decide +kernel
theorem dL_packs_34 : decode cL_packs 34 = .ok (.if_icmp .ne 69, 3) := by decide +kernel
theorem dL_packs_37 : decode cL_packs 37 = .ok (.iload 4, 2) := by decide +kernel
theorem dL_packs_39 : decode cL_packs 39 = .ok (.aload_n 0, 1) := by decide +kernel
theorem dL_packs_40 : decode cL_packs 40 = .ok (.iconst 1, 1) := by decide +kernel
theorem dL_packs_41 : decode cL_packs 41 = .ok (.invokevirtual 62, 3) := by decide +kernel
theorem dL_packs_44 : decode cL_packs 44 = .ok (.if_icmp .ne 59, 3) := by decide +kernel
theorem dL_packs_47 : decode cL_packs 47 = .ok (.iload 4, 2) := by decide +kernel
theorem dL_packs_49 : decode cL_packs 49 = .ok (.aload_n 0, 1) := by decide +kernel
theorem dL_packs_50 : decode cL_packs 50 = .ok (.iconst 0, 1) := by decide +kernel
theorem dL_packs_51 : decode cL_packs 51 = .ok (.invokevirtual 62, 3) := by decide +kernel
theorem dL_packs_54 : decode cL_packs 54 = .ok (.if_icmp .ne 49, 3) := by decide +kernel
theorem dL_packs_57 : decode cL_packs 57 = .ok (.aload_n 0, 1) := by decide +kernel
theorem dL_packs_58 : decode cL_packs 58 = .ok (.iconst 3, 1) := by decide +kernel
theorem dL_packs_59 : decode cL_packs 59 = .ok (.invokevirtual 31, 3) := by decide +kernel
theorem dL_packs_62 : decode cL_packs 62 = .ok (.iload_n 2, 1) := by decide +kernel
theorem dL_packs_63 : decode cL_packs 63 = .ok (.iload 5, 2) := by decide +kernel
theorem dL_packs_65 : decode cL_packs 65 = .ok (.ifCond .ge 7, 3) := by decide +kernel
theorem dL_packs_68 : decode cL_packs 68 = .ok (.iconst 0, 1) := by decide +kernel
theorem dL_packs_69 : decode cL_packs 69 = .ok (.goto 5, 3) := by decide +kernel
theorem dL_packs_72 : decode cL_packs 72 = .ok (.iload 5, 2) := by decide +kernel
theorem dL_packs_74 : decode cL_packs 74 = .ok (.isub, 1) := by decide +kernel
theorem dL_packs_75 : decode cL_packs 75 = .ok (.if_icmp .ne 28, 3) := by decide +kernel
theorem dL_packs_78 : decode cL_packs 78 = .ok (.aload_n 0, 1) := by decide +kernel
theorem dL_packs_79 : decode cL_packs 79 = .ok (.bipush 9, 2) := by decide +kernel
theorem dL_packs_81 : decode cL_packs 81 = .ok (.invokevirtual 31, 3) := by decide +kernel
theorem dL_packs_84 : decode cL_packs 84 = .ok (.iload_n 3, 1) := by decide +kernel
theorem dL_packs_85 : decode cL_packs 85 = .ok (.iload 5, 2) := by decide +kernel
theorem dL_packs_87 : decode cL_packs 87 = .ok (.ifCond .ge 7, 3) := by decide +kernel
theorem dL_packs_90 : decode cL_packs 90 = .ok (.iconst 0, 1) := by decide +kernel
theorem dL_packs_91 : decode cL_packs 91 = .ok (.goto 4, 3) := by decide +kernel
theorem dL_packs_94 : decode cL_packs 94 = .ok (.iconst 1, 1) := by decide +kernel
theorem dL_packs_95 : decode cL_packs 95 = .ok (.iadd, 1) := by decide +kernel
theorem dL_packs_96 : decode cL_packs 96 = .ok (.if_icmp .ne 7, 3) := by decide +kernel
theorem dL_packs_99 : decode cL_packs 99 = .ok (.iconst 1, 1) := by decide +kernel
theorem dL_packs_100 : decode cL_packs 100 = .ok (.goto 4, 3) := by decide +kernel
theorem dL_packs_103 : decode cL_packs 103 = .ok (.iconst 0, 1) := by decide +kernel
theorem dL_packs_104 : decode cL_packs 104 = .ok (.istore 6, 2) := by decide +kernel
theorem dL_packs_106 : decode cL_packs 106 = .ok (.iload 6, 2) := by decide +kernel
theorem dL_packs_108 : decode cL_packs 108 = .ok (.ifCond .eq 26, 3) := by decide +kernel
theorem dL_packs_111 : decode cL_packs 111 = .ok (.aload_n 0, 1) := by decide +kernel
theorem dL_packs_112 : decode cL_packs 112 = .ok (.bipush 7, 2) := by decide +kernel
theorem dL_packs_114 : decode cL_packs 114 = .ok (.invokevirtual 31, 3) := by decide +kernel
theorem dL_packs_117 : decode cL_packs 117 = .ok (.ifCond .gt 13, 3) := by decide +kernel
theorem dL_packs_120 : decode cL_packs 120 = .ok (.aload_n 0, 1) := by decide +kernel
theorem dL_packs_121 : decode cL_packs 121 = .ok (.iconst 3, 1) := by decide +kernel
theorem dL_packs_122 : decode cL_packs 122 = .ok (.invokevirtual 31, 3) := by decide +kernel
theorem dL_packs_125 : decode cL_packs 125 = .ok (.iload 4, 2) := by decide +kernel
theorem dL_packs_127 : decode cL_packs 127 = .ok (.if_icmp .lt 7, 3) := by decide +kernel
theorem dL_packs_130 : decode cL_packs 130 = .ok (.iconst 1, 1) := by decide +kernel
theorem dL_packs_131 : decode cL_packs 131 = .ok (.goto 4, 3) := by decide +kernel
theorem dL_packs_134 : decode cL_packs 134 = .ok (.iconst 0, 1) := by decide +kernel
theorem dL_packs_135 : decode cL_packs 135 = .ok (.ireturn, 1) := by decide +kernel
theorem dL_spoils_0 : decode cL_spoils 0 = .ok (.bipush 10, 2) := by decide +kernel
theorem dL_spoils_2 : decode cL_spoils 2 = .ok (.newarray .int, 2) := by decide +kernel
theorem dL_spoils_4 : decode cL_spoils 4 = .ok (.astore_n 3, 1) := by decide +kernel
theorem dL_spoils_5 : decode cL_spoils 5 = .ok (.iconst 0, 1) := by decide +kernel
theorem dL_spoils_6 : decode cL_spoils 6 = .ok (.istore 4, 2) := by decide +kernel
theorem dL_spoils_8 : decode cL_spoils 8 = .ok (.aload_n 0, 1) := by decide +kernel
theorem dL_spoils_9 : decode cL_spoils 9 = .ok (.iload_n 2, 1) := by decide +kernel
theorem dL_spoils_10 : decode cL_spoils 10 = .ok (.iconst 0, 1) := by decide +kernel
theorem dL_spoils_11 : decode cL_spoils 11 = .ok (.invokevirtual 24, 3) := by decide +kernel
theorem dL_spoils_14 : decode cL_spoils 14 = .ok (.istore 5, 2) := by decide +kernel
theorem dL_spoils_16 : decode cL_spoils 16 = .ok (.aload_n 0, 1) := by decide +kernel
theorem dL_spoils_17 : decode cL_spoils 17 = .ok (.iload_n 2, 1) := by decide +kernel
theorem dL_spoils_18 : decode cL_spoils 18 = .ok (.iconst 4, 1) := by decide +kernel
theorem dL_spoils_19 : decode cL_spoils 19 = .ok (.invokevirtual 24, 3) := by decide +kernel
theorem dL_spoils_22 : decode cL_spoils 22 = .ok (.istore 6, 2) := by decide +kernel
theorem dL_spoils_24 : decode cL_spoils 24 = .ok (.iconst 0, 1) := by decide +kernel
theorem dL_spoils_25 : decode cL_spoils 25 = .ok (.istore 7, 2) := by decide +kernel
theorem dL_spoils_27 : decode cL_spoils 27 = .ok (.iload 7, 2) := by decide +kernel
theorem dL_spoils_29 : decode cL_spoils 29 = .ok (.bipush 10, 2) := by decide +kernel
theorem dL_spoils_31 : decode cL_spoils 31 = .ok (.if_icmp .ge 117, 3) := by decide +kernel
theorem dL_spoils_34 : decode cL_spoils 34 = .ok (.iload_n 1, 1) := by decide +kernel
theorem dL_spoils_35 : decode cL_spoils 35 = .ok (.iload 7, 2) := by decide +kernel
theorem dL_spoils_37 : decode cL_spoils 37 = .ok (.invokestatic 9, 3) := by decide +kernel
theorem dL_spoils_40 : decode cL_spoils 40 = .ok (.ifCond .eq 50, 3) := by decide +kernel
theorem dL_spoils_43 : decode cL_spoils 43 = .ok (.aload_n 0, 1) := by decide +kernel
theorem dL_spoils_44 : decode cL_spoils 44 = .ok (.iload 7, 2) := by decide +kernel
theorem dL_spoils_46 : decode cL_spoils 46 = .ok (.iconst 5, 1) := by decide +kernel
theorem dL_spoils_47 : decode cL_spoils 47 = .ok (.invokevirtual 15, 3) := by decide +kernel
theorem dL_spoils_50 : decode cL_spoils 50 = .ok (.ifCond .ne 40, 3) := by decide +kernel
theorem dL_spoils_53 : decode cL_spoils 53 = .ok (.iload 5, 2) := by decide +kernel
theorem dL_spoils_55 : decode cL_spoils 55 = .ok (.iconst 1, 1) := by decide +kernel
theorem dL_spoils_56 : decode cL_spoils 56 = .ok (.if_icmp .ne 13, 3) := by decide +kernel
theorem dL_spoils_59 : decode cL_spoils 59 = .ok (.iload 6, 2) := by decide +kernel
theorem dL_spoils_61 : decode cL_spoils 61 = .ok (.iload 7, 2) := by decide +kernel
theorem dL_spoils_63 : decode cL_spoils 63 = .ok (.if_icmp .ne 27, 3) := by decide +kernel
theorem dL_spoils_66 : decode cL_spoils 66 = .ok (.goto 20, 3) := by decide +kernel
theorem dL_spoils_69 : decode cL_spoils 69 = .ok (.iload 5, 2) := by decide +kernel
theorem dL_spoils_71 : decode cL_spoils 71 = .ok (.iconst 2, 1) := by decide +kernel
theorem dL_spoils_72 : decode cL_spoils 72 = .ok (.if_icmp .ne 18, 3) := by decide +kernel
theorem dL_spoils_75 : decode cL_spoils 75 = .ok (.aload_n 0, 1) := by decide +kernel
theorem dL_spoils_76 : decode cL_spoils 76 = .ok (.iload 7, 2) := by decide +kernel
theorem dL_spoils_78 : decode cL_spoils 78 = .ok (.iconst 3, 1) := by decide +kernel
theorem dL_spoils_79 : decode cL_spoils 79 = .ok (.invokevirtual 15, 3) := by decide +kernel
theorem dL_spoils_82 : decode cL_spoils 82 = .ok (.iload_n 2, 1) := by decide +kernel
theorem dL_spoils_83 : decode cL_spoils 83 = .ok (.if_icmp .ne 7, 3) := by decide +kernel
theorem dL_spoils_86 : decode cL_spoils 86 = .ok (.iconst 1, 1) := by decide +kernel
theorem dL_spoils_87 : decode cL_spoils 87 = .ok (.goto 4, 3) := by decide +kernel
theorem dL_spoils_90 : decode cL_spoils 90 = .ok (.iconst 0, 1) := by decide +kernel
theorem dL_spoils_91 : decode cL_spoils 91 = .ok (.istore 8, 2) := by decide +kernel
theorem dL_spoils_93 : decode cL_spoils 93 = .ok (.aload_n 3, 1) := by decide +kernel
theorem dL_spoils_94 : decode cL_spoils 94 = .ok (.iload 7, 2) := by decide +kernel
theorem dL_spoils_96 : decode cL_spoils 96 = .ok (.iload_n 1, 1) := by decide +kernel
theorem dL_spoils_97 : decode cL_spoils 97 = .ok (.iload 7, 2) := by decide +kernel
theorem dL_spoils_99 : decode cL_spoils 99 = .ok (.invokestatic 9, 3) := by decide +kernel
theorem dL_spoils_102 : decode cL_spoils 102 = .ok (.ifCond .eq 23, 3) := by decide +kernel
theorem dL_spoils_105 : decode cL_spoils 105 = .ok (.iload 8, 2) := by decide +kernel
theorem dL_spoils_107 : decode cL_spoils 107 = .ok (.ifCond .ne 14, 3) := by decide +kernel
theorem dL_spoils_110 : decode cL_spoils 110 = .ok (.aload_n 0, 1) := by decide +kernel
theorem dL_spoils_111 : decode cL_spoils 111 = .ok (.iload 7, 2) := by decide +kernel
theorem dL_spoils_113 : decode cL_spoils 113 = .ok (.iconst 5, 1) := by decide +kernel
theorem dL_spoils_114 : decode cL_spoils 114 = .ok (.invokevirtual 15, 3) := by decide +kernel
theorem dL_spoils_117 : decode cL_spoils 117 = .ok (.iconst 1, 1) := by decide +kernel
theorem dL_spoils_118 : decode cL_spoils 118 = .ok (.if_icmp .ne 7, 3) := by decide +kernel
theorem dL_spoils_121 : decode cL_spoils 121 = .ok (.iconst 1, 1) := by decide +kernel
theorem dL_spoils_122 : decode cL_spoils 122 = .ok (.goto 4, 3) := by decide +kernel
theorem dL_spoils_125 : decode cL_spoils 125 = .ok (.iconst 0, 1) := by decide +kernel
theorem dL_spoils_126 : decode cL_spoils 126 = .ok (.iastore, 1) := by decide +kernel
theorem dL_spoils_127 : decode cL_spoils 127 = .ok (.iload 4, 2) := by decide +kernel
theorem dL_spoils_129 : decode cL_spoils 129 = .ok (.iload 8, 2) := by decide +kernel
theorem dL_spoils_131 : decode cL_spoils 131 = .ok (.ifCond .eq 7, 3) := by decide +kernel
theorem dL_spoils_134 : decode cL_spoils 134 = .ok (.iconst 1, 1) := by decide +kernel
theorem dL_spoils_135 : decode cL_spoils 135 = .ok (.goto 4, 3) := by decide +kernel
theorem dL_spoils_138 : decode cL_spoils 138 = .ok (.iconst 0, 1) := by decide +kernel
theorem dL_spoils_139 : decode cL_spoils 139 = .ok (.iadd, 1) := by decide +kernel
theorem dL_spoils_140 : decode cL_spoils 140 = .ok (.istore 4, 2) := by decide +kernel
theorem dL_spoils_142 : decode cL_spoils 142 = .ok (.iinc 7 1, 3) := by decide +kernel
theorem dL_spoils_145 : decode cL_spoils 145 = .ok (.goto (-118), 3) := by decide +kernel
theorem dL_spoils_148 : decode cL_spoils 148 = .ok (.aload_n 0, 1) := by decide +kernel
theorem dL_spoils_149 : decode cL_spoils 149 = .ok (.iconst 4, 1) := by decide +kernel
theorem dL_spoils_150 : decode cL_spoils 150 = .ok (.invokevirtual 31, 3) := by decide +kernel
theorem dL_spoils_153 : decode cL_spoils 153 = .ok (.istore 7, 2) := by decide +kernel
theorem dL_spoils_155 : decode cL_spoils 155 = .ok (.aload_n 0, 1) := by decide +kernel
theorem dL_spoils_156 : decode cL_spoils 156 = .ok (.iload_n 2, 1) := by decide +kernel
theorem dL_spoils_157 : decode cL_spoils 157 = .ok (.invokevirtual 68, 3) := by decide +kernel
theorem dL_spoils_160 : decode cL_spoils 160 = .ok (.iload 4, 2) := by decide +kernel
theorem dL_spoils_162 : decode cL_spoils 162 = .ok (.if_icmp .ne 15, 3) := by decide +kernel
theorem dL_spoils_165 : decode cL_spoils 165 = .ok (.aload_n 0, 1) := by decide +kernel
theorem dL_spoils_166 : decode cL_spoils 166 = .ok (.iconst 4, 1) := by decide +kernel
theorem dL_spoils_167 : decode cL_spoils 167 = .ok (.invokevirtual 31, 3) := by decide +kernel
theorem dL_spoils_170 : decode cL_spoils 170 = .ok (.iload 7, 2) := by decide +kernel
theorem dL_spoils_172 : decode cL_spoils 172 = .ok (.iconst 1, 1) := by decide +kernel
theorem dL_spoils_173 : decode cL_spoils 173 = .ok (.iadd, 1) := by decide +kernel
theorem dL_spoils_174 : decode cL_spoils 174 = .ok (.if_icmp .eq 5, 3) := by decide +kernel
theorem dL_spoils_177 : decode cL_spoils 177 = .ok (.iconst 0, 1) := by decide +kernel
theorem dL_spoils_178 : decode cL_spoils 178 = .ok (.ireturn, 1) := by decide +kernel
theorem dL_spoils_179 : decode cL_spoils 179 = .ok (.iconst 0, 1) := by decide +kernel
theorem dL_spoils_180 : decode cL_spoils 180 = .ok (.istore 8, 2) := by decide +kernel
theorem dL_spoils_182 : decode cL_spoils 182 = .ok (.iload 8, 2) := by decide +kernel
theorem dL_spoils_184 : decode cL_spoils 184 = .ok (.bipush 10, 2) := by decide +kernel
theorem dL_spoils_186 : decode cL_spoils 186 = .ok (.if_icmp .ge 34, 3) := by decide +kernel
theorem dL_spoils_189 : decode cL_spoils 189 = .ok (.iload_n 1, 1) := by decide +kernel
theorem dL_spoils_190 : decode cL_spoils 190 = .ok (.iload 8, 2) := by decide +kernel
theorem dL_spoils_192 : decode cL_spoils 192 = .ok (.invokestatic 9, 3) := by decide +kernel
theorem dL_spoils_195 : decode cL_spoils 195 = .ok (.ifCond .eq 19, 3) := by decide +kernel
theorem dL_spoils_198 : decode cL_spoils 198 = .ok (.aload_n 0, 1) := by decide +kernel
theorem dL_spoils_199 : decode cL_spoils 199 = .ok (.iload 8, 2) := by decide +kernel
theorem dL_spoils_201 : decode cL_spoils 201 = .ok (.iconst 5, 1) := by decide +kernel
theorem dL_spoils_202 : decode cL_spoils 202 = .ok (.invokevirtual 15, 3) := by decide +kernel
theorem dL_spoils_205 : decode cL_spoils 205 = .ok (.aload_n 3, 1) := by decide +kernel
theorem dL_spoils_206 : decode cL_spoils 206 = .ok (.iload 8, 2) := by decide +kernel
theorem dL_spoils_208 : decode cL_spoils 208 = .ok (.iaload, 1) := by decide +kernel
theorem dL_spoils_209 : decode cL_spoils 209 = .ok (.if_icmp .eq 5, 3) := by decide +kernel
theorem dL_spoils_212 : decode cL_spoils 212 = .ok (.iconst 0, 1) := by decide +kernel
theorem dL_spoils_213 : decode cL_spoils 213 = .ok (.ireturn, 1) := by decide +kernel
theorem dL_spoils_214 : decode cL_spoils 214 = .ok (.iinc 8 1, 3) := by decide +kernel
theorem dL_spoils_217 : decode cL_spoils 217 = .ok (.goto (-35), 3) := by decide +kernel
theorem dL_spoils_220 : decode cL_spoils 220 = .ok (.aload_n 0, 1) := by decide +kernel
theorem dL_spoils_221 : decode cL_spoils 221 = .ok (.invokevirtual 71, 3) := by decide +kernel
theorem dL_spoils_224 : decode cL_spoils 224 = .ok (.iload_n 2, 1) := by decide +kernel
theorem dL_spoils_225 : decode cL_spoils 225 = .ok (.if_icmp .eq 7, 3) := by decide +kernel
theorem dL_spoils_228 : decode cL_spoils 228 = .ok (.iconst 1, 1) := by decide +kernel
theorem dL_spoils_229 : decode cL_spoils 229 = .ok (.goto 4, 3) := by decide +kernel
theorem dL_spoils_232 : decode cL_spoils 232 = .ok (.iconst 0, 1) := by decide +kernel
theorem dL_spoils_233 : decode cL_spoils 233 = .ok (.ireturn, 1) := by decide +kernel
theorem dL_law_0 : decode cL_law 0 = .ok (.new 16, 3) := by decide +kernel
theorem dL_law_3 : decode cL_law 3 = .ok (.dup, 1) := by decide +kernel
theorem dL_law_4 : decode cL_law 4 = .ok (.invokespecial 74, 3) := by decide +kernel
theorem dL_law_7 : decode cL_law 7 = .ok (.astore_n 1, 1) := by decide +kernel
theorem dL_law_8 : decode cL_law 8 = .ok (.iconst 0, 1) := by decide +kernel
theorem dL_law_9 : decode cL_law 9 = .ok (.istore_n 2, 1) := by decide +kernel
theorem dL_law_10 : decode cL_law 10 = .ok (.iconst 0, 1) := by decide +kernel
theorem dL_law_11 : decode cL_law 11 = .ok (.istore_n 3, 1) := by decide +kernel
theorem dL_law_12 : decode cL_law 12 = .ok (.iload_n 3, 1) := by decide +kernel
theorem dL_law_13 : decode cL_law 13 = .ok (.bipush 44, 2) := by decide +kernel
theorem dL_law_15 : decode cL_law 15 = .ok (.if_icmp .ge 462, 3) := by decide +kernel
theorem dL_law_18 : decode cL_law 18 = .ok (.aload_n 0, 1) := by decide +kernel
theorem dL_law_19 : decode cL_law 19 = .ok (.iconst 2, 1) := by decide +kernel
theorem dL_law_20 : decode cL_law 20 = .ok (.iload_n 3, 1) := by decide +kernel
theorem dL_law_21 : decode cL_law 21 = .ok (.imul, 1) := by decide +kernel
theorem dL_law_22 : decode cL_law 22 = .ok (.invokestatic 75, 3) := by decide +kernel
theorem dL_law_25 : decode cL_law 25 = .ok (.istore 4, 2) := by decide +kernel
theorem dL_law_27 : decode cL_law 27 = .ok (.aload_n 0, 1) := by decide +kernel
theorem dL_law_28 : decode cL_law 28 = .ok (.iconst 2, 1) := by decide +kernel
theorem dL_law_29 : decode cL_law 29 = .ok (.iload_n 3, 1) := by decide +kernel
theorem dL_law_30 : decode cL_law 30 = .ok (.imul, 1) := by decide +kernel
theorem dL_law_31 : decode cL_law 31 = .ok (.iconst 1, 1) := by decide +kernel
theorem dL_law_32 : decode cL_law 32 = .ok (.iadd, 1) := by decide +kernel
theorem dL_law_33 : decode cL_law 33 = .ok (.invokestatic 75, 3) := by decide +kernel
theorem dL_law_36 : decode cL_law 36 = .ok (.istore 5, 2) := by decide +kernel
theorem dL_law_38 : decode cL_law 38 = .ok (.iload 4, 2) := by decide +kernel
theorem dL_law_40 : decode cL_law 40 = .ok (.iconst 5, 1) := by decide +kernel
theorem dL_law_41 : decode cL_law 41 = .ok (.ishr, 1) := by decide +kernel
theorem dL_law_42 : decode cL_law 42 = .ok (.bipush 10, 2) := by decide +kernel
theorem dL_law_44 : decode cL_law 44 = .ok (.invokestatic 79, 3) := by decide +kernel
theorem dL_law_47 : decode cL_law 47 = .ok (.istore 6, 2) := by decide +kernel
theorem dL_law_49 : decode cL_law 49 = .ok (.iload 4, 2) := by decide +kernel
theorem dL_law_51 : decode cL_law 51 = .ok (.bipush 20, 2) := by decide +kernel
theorem dL_law_53 : decode cL_law 53 = .ok (.invokestatic 79, 3) := by decide +kernel
theorem dL_law_56 : decode cL_law 56 = .ok (.istore 7, 2) := by decide +kernel
theorem dL_law_58 : decode cL_law 58 = .ok (.iload 5, 2) := by decide +kernel
theorem dL_law_60 : decode cL_law 60 = .ok (.bipush 24, 2) := by decide +kernel
theorem dL_law_62 : decode cL_law 62 = .ok (.invokestatic 79, 3) := by decide +kernel
theorem dL_law_65 : decode cL_law 65 = .ok (.istore 8, 2) := by decide +kernel
theorem dL_law_67 : decode cL_law 67 = .ok (.iconst 1, 1) := by decide +kernel
theorem dL_law_68 : decode cL_law 68 = .ok (.istore 9, 2) := by decide +kernel
theorem dL_law_70 : decode cL_law 70 = .ok (.iload 7, 2) := by decide +kernel
theorem dL_law_72 : decode cL_law 72 = .ok (.bipush 6, 2) := by decide +kernel
theorem dL_law_74 : decode cL_law 74 = .ok (.if_icmp .lt 7, 3) := by decide +kernel
theorem dL_law_77 : decode cL_law 77 = .ok (.iload_n 2, 1) := by decide +kernel
theorem dL_law_78 : decode cL_law 78 = .ok (.ifCond .ne 80, 3) := by decide +kernel
theorem dL_law_81 : decode cL_law 81 = .ok (.iload 5, 2) := by decide +kernel
theorem dL_law_83 : decode cL_law 83 = .ok (.iconst 3, 1) := by decide +kernel
theorem dL_law_84 : decode cL_law 84 = .ok (.ishr, 1) := by decide +kernel
theorem dL_law_85 : decode cL_law 85 = .ok (.iconst 4, 1) := by decide +kernel
theorem dL_law_86 : decode cL_law 86 = .ok (.invokestatic 79, 3) := by decide +kernel
theorem dL_law_89 : decode cL_law 89 = .ok (.ifCond .ne 16, 3) := by decide +kernel
theorem dL_law_92 : decode cL_law 92 = .ok (.iload 5, 2) := by decide +kernel
theorem dL_law_94 : decode cL_law 94 = .ok (.iconst 5, 1) := by decide +kernel
theorem dL_law_95 : decode cL_law 95 = .ok (.ishr, 1) := by decide +kernel
theorem dL_law_96 : decode cL_law 96 = .ok (.sipush 201, 3) := by decide +kernel
theorem dL_law_99 : decode cL_law 99 = .ok (.invokestatic 79, 3) := by decide +kernel
theorem dL_law_102 : decode cL_law 102 = .ok (.goto 12, 3) := by decide +kernel
theorem dL_law_105 : decode cL_law 105 = .ok (.iload 5, 2) := by decide +kernel
theorem dL_law_107 : decode cL_law 107 = .ok (.iconst 5, 1) := by decide +kernel
theorem dL_law_108 : decode cL_law 108 = .ok (.ishr, 1) := by decide +kernel
theorem dL_law_109 : decode cL_law 109 = .ok (.bipush 40, 2) := by decide +kernel
theorem dL_law_111 : decode cL_law 111 = .ok (.invokestatic 79, 3) := by decide +kernel
theorem dL_law_114 : decode cL_law 114 = .ok (.istore 10, 2) := by decide +kernel
theorem dL_law_116 : decode cL_law 116 = .ok (.aload_n 1, 1) := by decide +kernel
theorem dL_law_117 : decode cL_law 117 = .ok (.iload_n 2, 1) := by decide +kernel
theorem dL_law_118 : decode cL_law 118 = .ok (.iload 10, 2) := by decide +kernel
theorem dL_law_120 : decode cL_law 120 = .ok (.invokestatic 82, 3) := by decide +kernel
theorem dL_law_123 : decode cL_law 123 = .ok (.istore 11, 2) := by decide +kernel
theorem dL_law_125 : decode cL_law 125 = .ok (.iload 11, 2) := by decide +kernel
theorem dL_law_127 : decode cL_law 127 = .ok (.bipush (-2), 2) := by decide +kernel
theorem dL_law_129 : decode cL_law 129 = .ok (.if_icmp .eq 7, 3) := by decide +kernel
theorem dL_law_132 : decode cL_law 132 = .ok (.iconst 1, 1) := by decide +kernel
theorem dL_law_133 : decode cL_law 133 = .ok (.goto 4, 3) := by decide +kernel
theorem dL_law_136 : decode cL_law 136 = .ok (.iconst 0, 1) := by decide +kernel
theorem dL_law_137 : decode cL_law 137 = .ok (.istore 9, 2) := by decide +kernel
theorem dL_law_139 : decode cL_law 139 = .ok (.iload_n 2, 1) := by decide +kernel
theorem dL_law_140 : decode cL_law 140 = .ok (.iload 11, 2) := by decide +kernel
theorem dL_law_142 : decode cL_law 142 = .ok (.ifCond .lt 10, 3) := by decide +kernel
theorem dL_law_145 : decode cL_law 145 = .ok (.iconst 1, 1) := by decide +kernel
theorem dL_law_146 : decode cL_law 146 = .ok (.iload 11, 2) := by decide +kernel
theorem dL_law_148 : decode cL_law 148 = .ok (.ishl, 1) := by decide +kernel
theorem dL_law_149 : decode cL_law 149 = .ok (.goto 4, 3) := by decide +kernel
theorem dL_law_152 : decode cL_law 152 = .ok (.iconst 0, 1) := by decide +kernel
theorem dL_law_153 : decode cL_law 153 = .ok (.ior, 1) := by decide +kernel
theorem dL_law_154 : decode cL_law 154 = .ok (.istore_n 2, 1) := by decide +kernel
theorem dL_law_155 : decode cL_law 155 = .ok (.goto 282, 3) := by decide +kernel
theorem dL_law_158 : decode cL_law 158 = .ok (.iload 7, 2) := by decide +kernel
theorem dL_law_160 : decode cL_law 160 = .ok (.bipush 11, 2) := by decide +kernel
theorem dL_law_162 : decode cL_law 162 = .ok (.if_icmp .ge 58, 3) := by decide +kernel
theorem dL_law_165 : decode cL_law 165 = .ok (.iload_n 2, 1) := by decide +kernel
theorem dL_law_166 : decode cL_law 166 = .ok (.iload 6, 2) := by decide +kernel
theorem dL_law_168 : decode cL_law 168 = .ok (.invokestatic 9, 3) := by decide +kernel
theorem dL_law_171 : decode cL_law 171 = .ok (.ifCond .eq 39, 3) := by decide +kernel
theorem dL_law_174 : decode cL_law 174 = .ok (.aload_n 1, 1) := by decide +kernel
theorem dL_law_175 : decode cL_law 175 = .ok (.iload 6, 2) := by decide +kernel
theorem dL_law_177 : decode cL_law 177 = .ok (.iconst 1, 1) := by decide +kernel
theorem dL_law_178 : decode cL_law 178 = .ok (.iload 5, 2) := by decide +kernel
theorem dL_law_180 : decode cL_law 180 = .ok (.iload 5, 2) := by decide +kernel
theorem dL_law_182 : decode cL_law 182 = .ok (.bipush 9, 2) := by decide +kernel
theorem dL_law_184 : decode cL_law 184 = .ok (.ishr, 1) := by decide +kernel
theorem dL_law_185 : decode cL_law 185 = .ok (.iconst 5, 1) := by decide +kernel
theorem dL_law_186 : decode cL_law 186 = .ok (.invokestatic 79, 3) := by decide +kernel
theorem dL_law_189 : decode cL_law 189 = .ok (.ifCond .ne 9, 3) := by decide +kernel
theorem dL_law_192 : decode cL_law 192 = .ok (.sipush 200, 3) := by decide +kernel
theorem dL_law_195 : decode cL_law 195 = .ok (.goto 5, 3) := by decide +kernel
theorem dL_law_198 : decode cL_law 198 = .ok (.bipush 20, 2) := by decide +kernel
theorem dL_law_200 : decode cL_law 200 = .ok (.invokestatic 79, 3) := by decide +kernel
theorem dL_law_203 : decode cL_law 203 = .ok (.iadd, 1) := by decide +kernel
theorem dL_law_204 : decode cL_law 204 = .ok (.invokestatic 86, 3) := by decide +kernel
theorem dL_law_207 : decode cL_law 207 = .ok (.ifCond .eq 7, 3) := by decide +kernel
theorem dL_law_210 : decode cL_law 210 = .ok (.iconst 1, 1) := by decide +kernel
theorem dL_law_211 : decode cL_law 211 = .ok (.goto 4, 3) := by decide +kernel
theorem dL_law_214 : decode cL_law 214 = .ok (.iconst 0, 1) := by decide +kernel
theorem dL_law_215 : decode cL_law 215 = .ok (.istore 9, 2) := by decide +kernel
theorem dL_law_217 : decode cL_law 217 = .ok (.goto 220, 3) := by decide +kernel
theorem dL_law_220 : decode cL_law 220 = .ok (.iload 7, 2) := by decide +kernel
theorem dL_law_222 : decode cL_law 222 = .ok (.bipush 14, 2) := by decide +kernel
theorem dL_law_224 : decode cL_law 224 = .ok (.if_icmp .ge 58, 3) := by decide +kernel
theorem dL_law_227 : decode cL_law 227 = .ok (.iload_n 2, 1) := by decide +kernel
theorem dL_law_228 : decode cL_law 228 = .ok (.iload 6, 2) := by decide +kernel
theorem dL_law_230 : decode cL_law 230 = .ok (.invokestatic 9, 3) := by decide +kernel
theorem dL_law_233 : decode cL_law 233 = .ok (.ifCond .eq 39, 3) := by decide +kernel
theorem dL_law_236 : decode cL_law 236 = .ok (.aload_n 1, 1) := by decide +kernel
theorem dL_law_237 : decode cL_law 237 = .ok (.iload 6, 2) := by decide +kernel
theorem dL_law_239 : decode cL_law 239 = .ok (.iconst 1, 1) := by decide +kernel
theorem dL_law_240 : decode cL_law 240 = .ok (.iload 5, 2) := by decide +kernel
theorem dL_law_242 : decode cL_law 242 = .ok (.iload 5, 2) := by decide +kernel
theorem dL_law_244 : decode cL_law 244 = .ok (.bipush 9, 2) := by decide +kernel
theorem dL_law_246 : decode cL_law 246 = .ok (.ishr, 1) := by decide +kernel
theorem dL_law_247 : decode cL_law 247 = .ok (.iconst 5, 1) := by decide +kernel
theorem dL_law_248 : decode cL_law 248 = .ok (.invokestatic 79, 3) := by decide +kernel
theorem dL_law_251 : decode cL_law 251 = .ok (.ifCond .ne 9, 3) := by decide +kernel
theorem dL_law_254 : decode cL_law 254 = .ok (.sipush 200, 3) := by decide +kernel
theorem dL_law_257 : decode cL_law 257 = .ok (.goto 5, 3) := by decide +kernel
theorem dL_law_260 : decode cL_law 260 = .ok (.bipush 20, 2) := by decide +kernel
theorem dL_law_262 : decode cL_law 262 = .ok (.invokestatic 79, 3) := by decide +kernel
theorem dL_law_265 : decode cL_law 265 = .ok (.iadd, 1) := by decide +kernel
theorem dL_law_266 : decode cL_law 266 = .ok (.invokestatic 90, 3) := by decide +kernel
theorem dL_law_269 : decode cL_law 269 = .ok (.ifCond .eq 7, 3) := by decide +kernel
theorem dL_law_272 : decode cL_law 272 = .ok (.iconst 1, 1) := by decide +kernel
theorem dL_law_273 : decode cL_law 273 = .ok (.goto 4, 3) := by decide +kernel
theorem dL_law_276 : decode cL_law 276 = .ok (.iconst 0, 1) := by decide +kernel
theorem dL_law_277 : decode cL_law 277 = .ok (.istore 9, 2) := by decide +kernel
theorem dL_law_279 : decode cL_law 279 = .ok (.goto 158, 3) := by decide +kernel
theorem dL_law_282 : decode cL_law 282 = .ok (.iload 7, 2) := by decide +kernel
theorem dL_law_284 : decode cL_law 284 = .ok (.bipush 14, 2) := by decide +kernel
theorem dL_law_286 : decode cL_law 286 = .ok (.if_icmp .ne 53, 3) := by decide +kernel
theorem dL_law_289 : decode cL_law 289 = .ok (.iload_n 2, 1) := by decide +kernel
theorem dL_law_290 : decode cL_law 290 = .ok (.iload 6, 2) := by decide +kernel
theorem dL_law_292 : decode cL_law 292 = .ok (.invokestatic 9, 3) := by decide +kernel
theorem dL_law_295 : decode cL_law 295 = .ok (.ifCond .eq 44, 3) := by decide +kernel
theorem dL_law_298 : decode cL_law 298 = .ok (.aload_n 1, 1) := by decide +kernel
theorem dL_law_299 : decode cL_law 299 = .ok (.iconst 1, 1) := by decide +kernel
theorem dL_law_300 : decode cL_law 300 = .ok (.invokevirtual 31, 3) := by decide +kernel
theorem dL_law_303 : decode cL_law 303 = .ok (.istore 10, 2) := by decide +kernel
theorem dL_law_305 : decode cL_law 305 = .ok (.aload_n 1, 1) := by decide +kernel
theorem dL_law_306 : decode cL_law 306 = .ok (.iload 6, 2) := by decide +kernel
theorem dL_law_308 : decode cL_law 308 = .ok (.invokevirtual 93, 3) := by decide +kernel
theorem dL_law_311 : decode cL_law 311 = .ok (.aload_n 1, 1) := by decide +kernel
theorem dL_law_312 : decode cL_law 312 = .ok (.iconst 1, 1) := by decide +kernel
theorem dL_law_313 : decode cL_law 313 = .ok (.invokevirtual 31, 3) := by decide +kernel
theorem dL_law_316 : decode cL_law 316 = .ok (.iload 10, 2) := by decide +kernel
theorem dL_law_318 : decode cL_law 318 = .ok (.isub, 1) := by decide +kernel
theorem dL_law_319 : decode cL_law 319 = .ok (.if_icmp .ne 7, 3) := by decide +kernel
theorem dL_law_322 : decode cL_law 322 = .ok (.iconst 1, 1) := by decide +kernel
theorem dL_law_323 : decode cL_law 323 = .ok (.goto 4, 3) := by decide +kernel
theorem dL_law_326 : decode cL_law 326 = .ok (.iconst 0, 1) := by decide +kernel
theorem dL_law_327 : decode cL_law 327 = .ok (.istore 9, 2) := by decide +kernel
theorem dL_law_329 : decode cL_law 329 = .ok (.iload_n 2, 1) := by decide +kernel
theorem dL_law_330 : decode cL_law 330 = .ok (.iconst 1, 1) := by decide +kernel
theorem dL_law_331 : decode cL_law 331 = .ok (.iload 6, 2) := by decide +kernel
theorem dL_law_333 : decode cL_law 333 = .ok (.ishl, 1) := by decide +kernel
theorem dL_law_334 : decode cL_law 334 = .ok (.isub, 1) := by decide +kernel
theorem dL_law_335 : decode cL_law 335 = .ok (.istore_n 2, 1) := by decide +kernel
theorem dL_law_336 : decode cL_law 336 = .ok (.goto 101, 3) := by decide +kernel
theorem dL_law_339 : decode cL_law 339 = .ok (.iload 7, 2) := by decide +kernel
theorem dL_law_341 : decode cL_law 341 = .ok (.bipush 15, 2) := by decide +kernel
theorem dL_law_343 : decode cL_law 343 = .ok (.if_icmp .ne 51, 3) := by decide +kernel
theorem dL_law_346 : decode cL_law 346 = .ok (.aload_n 1, 1) := by decide +kernel
theorem dL_law_347 : decode cL_law 347 = .ok (.bipush 10, 2) := by decide +kernel
theorem dL_law_349 : decode cL_law 349 = .ok (.invokevirtual 31, 3) := by decide +kernel
theorem dL_law_352 : decode cL_law 352 = .ok (.istore 10, 2) := by decide +kernel
theorem dL_law_354 : decode cL_law 354 = .ok (.aload_n 1, 1) := by decide +kernel
theorem dL_law_355 : decode cL_law 355 = .ok (.iload 5, 2) := by decide +kernel
theorem dL_law_357 : decode cL_law 357 = .ok (.iconst 2, 1) := by decide +kernel
theorem dL_law_358 : decode cL_law 358 = .ok (.invokestatic 79, 3) := by decide +kernel
theorem dL_law_361 : decode cL_law 361 = .ok (.invokevirtual 96, 3) := by decide +kernel
theorem dL_law_364 : decode cL_law 364 = .ok (.iload 10, 2) := by decide +kernel
theorem dL_law_366 : decode cL_law 366 = .ok (.if_icmp .ne 22, 3) := by decide +kernel
theorem dL_law_369 : decode cL_law 369 = .ok (.aload_n 1, 1) := by decide +kernel
theorem dL_law_370 : decode cL_law 370 = .ok (.bipush 10, 2) := by decide +kernel
theorem dL_law_372 : decode cL_law 372 = .ok (.invokevirtual 31, 3) := by decide +kernel
theorem dL_law_375 : decode cL_law 375 = .ok (.iload 5, 2) := by decide +kernel
theorem dL_law_377 : decode cL_law 377 = .ok (.iconst 2, 1) := by decide +kernel
theorem dL_law_378 : decode cL_law 378 = .ok (.invokestatic 79, 3) := by decide +kernel
theorem dL_law_381 : decode cL_law 381 = .ok (.if_icmp .ne 7, 3) := by decide +kernel
theorem dL_law_384 : decode cL_law 384 = .ok (.iconst 1, 1) := by decide +kernel
theorem dL_law_385 : decode cL_law 385 = .ok (.goto 4, 3) := by decide +kernel
theorem dL_law_388 : decode cL_law 388 = .ok (.iconst 0, 1) := by decide +kernel
theorem dL_law_389 : decode cL_law 389 = .ok (.istore 9, 2) := by decide +kernel
theorem dL_law_391 : decode cL_law 391 = .ok (.goto 46, 3) := by decide +kernel
theorem dL_law_394 : decode cL_law 394 = .ok (.iload 7, 2) := by decide +kernel
theorem dL_law_396 : decode cL_law 396 = .ok (.bipush 16, 2) := by decide +kernel
theorem dL_law_398 : decode cL_law 398 = .ok (.if_icmp .ne 26, 3) := by decide +kernel
theorem dL_law_401 : decode cL_law 401 = .ok (.aload_n 1, 1) := by decide +kernel
theorem dL_law_402 : decode cL_law 402 = .ok (.iload 8, 2) := by decide +kernel
theorem dL_law_404 : decode cL_law 404 = .ok (.iconst 0, 1) := by decide +kernel
theorem dL_law_405 : decode cL_law 405 = .ok (.invokevirtual 24, 3) := by decide +kernel
theorem dL_law_408 : decode cL_law 408 = .ok (.iconst 3, 1) := by decide +kernel
theorem dL_law_409 : decode cL_law 409 = .ok (.if_icmp .eq 15, 3) := by decide +kernel
theorem dL_law_412 : decode cL_law 412 = .ok (.aload_n 1, 1) := by decide +kernel
theorem dL_law_413 : decode cL_law 413 = .ok (.iload_n 2, 1) := by decide +kernel
theorem dL_law_414 : decode cL_law 414 = .ok (.iload 8, 2) := by decide +kernel
theorem dL_law_416 : decode cL_law 416 = .ok (.invokestatic 99, 3) := by decide +kernel
theorem dL_law_419 : decode cL_law 419 = .ok (.istore 9, 2) := by decide +kernel
theorem dL_law_421 : decode cL_law 421 = .ok (.goto 16, 3) := by decide +kernel
theorem dL_law_424 : decode cL_law 424 = .ok (.iload 7, 2) := by decide +kernel
theorem dL_law_426 : decode cL_law 426 = .ok (.bipush 16, 2) := by decide +kernel
theorem dL_law_428 : decode cL_law 428 = .ok (.if_icmp .le 9, 3) := by decide +kernel
theorem dL_law_431 : decode cL_law 431 = .ok (.aload_n 1, 1) := by decide +kernel
theorem dL_law_432 : decode cL_law 432 = .ok (.invokestatic 102, 3) := by decide +kernel
theorem dL_law_435 : decode cL_law 435 = .ok (.istore 9, 2) := by decide +kernel
theorem dL_law_437 : decode cL_law 437 = .ok (.iload 9, 2) := by decide +kernel
theorem dL_law_439 : decode cL_law 439 = .ok (.ifCond .eq 30, 3) := by decide +kernel
theorem dL_law_442 : decode cL_law 442 = .ok (.aload_n 1, 1) := by decide +kernel
theorem dL_law_443 : decode cL_law 443 = .ok (.iconst 0, 1) := by decide +kernel
theorem dL_law_444 : decode cL_law 444 = .ok (.invokevirtual 31, 3) := by decide +kernel
theorem dL_law_447 : decode cL_law 447 = .ok (.iload_n 2, 1) := by decide +kernel
theorem dL_law_448 : decode cL_law 448 = .ok (.invokestatic 106, 3) := by decide +kernel
theorem dL_law_451 : decode cL_law 451 = .ok (.if_icmp .ne 18, 3) := by decide +kernel
theorem dL_law_454 : decode cL_law 454 = .ok (.iload_n 3, 1) := by decide +kernel
theorem dL_law_455 : decode cL_law 455 = .ok (.iconst 3, 1) := by decide +kernel
theorem dL_law_456 : decode cL_law 456 = .ok (.irem, 1) := by decide +kernel
theorem dL_law_457 : decode cL_law 457 = .ok (.iconst 2, 1) := by decide +kernel
theorem dL_law_458 : decode cL_law 458 = .ok (.if_icmp .ne 13, 3) := by decide +kernel
theorem dL_law_461 : decode cL_law 461 = .ok (.aload_n 1, 1) := by decide +kernel
theorem dL_law_462 : decode cL_law 462 = .ok (.iload_n 2, 1) := by decide +kernel
theorem dL_law_463 : decode cL_law 463 = .ok (.invokestatic 109, 3) := by decide +kernel
theorem dL_law_466 : decode cL_law 466 = .ok (.ifCond .ne 5, 3) := by decide +kernel
theorem dL_law_469 : decode cL_law 469 = .ok (.iconst 0, 1) := by decide +kernel
theorem dL_law_470 : decode cL_law 470 = .ok (.ireturn, 1) := by decide +kernel
theorem dL_law_471 : decode cL_law 471 = .ok (.iinc 3 1, 3) := by decide +kernel
theorem dL_law_474 : decode cL_law 474 = .ok (.goto (-462), 3) := by decide +kernel
theorem dL_law_477 : decode cL_law 477 = .ok (.aload_n 1, 1) := by decide +kernel
theorem dL_law_478 : decode cL_law 478 = .ok (.iload_n 2, 1) := by decide +kernel
theorem dL_law_479 : decode cL_law 479 = .ok (.invokestatic 109, 3) := by decide +kernel
theorem dL_law_482 : decode cL_law 482 = .ok (.ifCond .eq 18, 3) := by decide +kernel
theorem dL_law_485 : decode cL_law 485 = .ok (.aload_n 1, 1) := by decide +kernel
theorem dL_law_486 : decode cL_law 486 = .ok (.bipush 11, 2) := by decide +kernel
theorem dL_law_488 : decode cL_law 488 = .ok (.invokevirtual 31, 3) := by decide +kernel
theorem dL_law_491 : decode cL_law 491 = .ok (.bipush 6, 2) := by decide +kernel
theorem dL_law_493 : decode cL_law 493 = .ok (.if_icmp .gt 7, 3) := by decide +kernel
theorem dL_law_496 : decode cL_law 496 = .ok (.iconst 1, 1) := by decide +kernel
theorem dL_law_497 : decode cL_law 497 = .ok (.goto 4, 3) := by decide +kernel
theorem dL_law_500 : decode cL_law 500 = .ok (.iconst 0, 1) := by decide +kernel
theorem dL_law_501 : decode cL_law 501 = .ok (.ireturn, 1) := by decide +kernel
theorem dL_ones_0 : decode cL_ones 0 = .ok (.iconst 0, 1) := by decide +kernel
theorem dL_ones_1 : decode cL_ones 1 = .ok (.istore_n 1, 1) := by decide +kernel
theorem dL_ones_2 : decode cL_ones 2 = .ok (.iconst 0, 1) := by decide +kernel
theorem dL_ones_3 : decode cL_ones 3 = .ok (.istore_n 2, 1) := by decide +kernel
theorem dL_ones_4 : decode cL_ones 4 = .ok (.iload_n 2, 1) := by decide +kernel
theorem dL_ones_5 : decode cL_ones 5 = .ok (.bipush 10, 2) := by decide +kernel
theorem dL_ones_7 : decode cL_ones 7 = .ok (.if_icmp .ge 17, 3) := by decide +kernel
theorem dL_ones_10 : decode cL_ones 10 = .ok (.iload_n 1, 1) := by decide +kernel
theorem dL_ones_11 : decode cL_ones 11 = .ok (.iload_n 0, 1) := by decide +kernel
theorem dL_ones_12 : decode cL_ones 12 = .ok (.iload_n 2, 1) := by decide +kernel
theorem dL_ones_13 : decode cL_ones 13 = .ok (.ishr, 1) := by decide +kernel
theorem dL_ones_14 : decode cL_ones 14 = .ok (.iconst 1, 1) := by decide +kernel
theorem dL_ones_15 : decode cL_ones 15 = .ok (.iand, 1) := by decide +kernel
theorem dL_ones_16 : decode cL_ones 16 = .ok (.iadd, 1) := by decide +kernel
theorem dL_ones_17 : decode cL_ones 17 = .ok (.istore_n 1, 1) := by decide +kernel
theorem dL_ones_18 : decode cL_ones 18 = .ok (.iinc 2 1, 3) := by decide +kernel
theorem dL_ones_21 : decode cL_ones 21 = .ok (.goto (-17), 3) := by decide +kernel
theorem dL_ones_24 : decode cL_ones 24 = .ok (.iload_n 1, 1) := by decide +kernel
theorem dL_ones_25 : decode cL_ones 25 = .ok (.ireturn, 1) := by decide +kernel
