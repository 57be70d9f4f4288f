theorem dX8_layAside_20 : decode cX8_layAside 20 = .ok (.iastore, 1) := by decide +kernel
theorem dX8_layAside_21 : decode cX8_layAside 21 = .ok (.iinc 1 1, 3) := by decide +kernel
theorem dX8_layAside_24 : decode cX8_layAside 24 = .ok (.goto (-22), 3) := by decide +kernel
theorem dX8_layAside_27 : decode cX8_layAside 27 = .ok (.return_, 1) := by decide +kernel
theorem dX8_putBack_0 : decode cX8_putBack 0 = .ok (.iconst 0, 1) := by decide +kernel
theorem dX8_putBack_1 : decode cX8_putBack 1 = .ok (.istore_n 1, 1) := by decide +kernel
theorem dX8_putBack_2 : decode cX8_putBack 2 = .ok (.iload_n 1, 1) := by decide +kernel
theorem dX8_putBack_3 : decode cX8_putBack 3 = .ok (.sipush 207, 3) := by decide +kernel
theorem dX8_putBack_6 : decode cX8_putBack 6 = .ok (.if_icmp .ge 21, 3) := by decide +kernel
theorem dX8_putBack_9 : decode cX8_putBack 9 = .ok (.aload_n 0, 1) := by decide +kernel
theorem dX8_putBack_10 : decode cX8_putBack 10 = .ok (.getfield 7, 3) := by decide +kernel
theorem dX8_putBack_13 : decode cX8_putBack 13 = .ok (.iload_n 1, 1) := by decide +kernel
theorem dX8_putBack_14 : decode cX8_putBack 14 = .ok (.aload_n 0, 1) := by decide +kernel
theorem dX8_putBack_15 : decode cX8_putBack 15 = .ok (.getfield 19, 3) := by decide +kernel
theorem dX8_putBack_18 : decode cX8_putBack 18 = .ok (.iload_n 1, 1) := by decide +kernel
theorem dX8_putBack_19 : decode cX8_putBack 19 = .ok (.iaload, 1) := by decide +kernel
theorem dX8_putBack_20 : decode cX8_putBack 20 = .ok (.iastore, 1) := by decide +kernel
theorem dX8_putBack_21 : decode cX8_putBack 21 = .ok (.iinc 1 1, 3) := by decide +kernel
theorem dX8_putBack_24 : decode cX8_putBack 24 = .ok (.goto (-22), 3) := by decide +kernel
theorem dX8_putBack_27 : decode cX8_putBack 27 = .ok (.return_, 1) := by decide +kernel
theorem dX8_frees_0 : decode cX8_frees 0 = .ok (.aload_n 0, 1) := by decide +kernel
theorem dX8_frees_1 : decode cX8_frees 1 = .ok (.getfield 7, 3) := by decide +kernel
theorem dX8_frees_4 : decode cX8_frees 4 = .ok (.iconst 3, 1) := by decide +kernel
theorem dX8_frees_5 : decode cX8_frees 5 = .ok (.iload_n 1, 1) := by decide +kernel
theorem dX8_frees_6 : decode cX8_frees 6 = .ok (.iadd, 1) := by decide +kernel
theorem dX8_frees_7 : decode cX8_frees 7 = .ok (.iaload, 1) := by decide +kernel
theorem dX8_frees_8 : decode cX8_frees 8 = .ok (.iconst 2, 1) := by decide +kernel
theorem dX8_frees_9 : decode cX8_frees 9 = .ok (.if_icmp .ne 11, 3) := by decide +kernel
theorem dX8_frees_12 : decode cX8_frees 12 = .ok (.aload_n 0, 1) := by decide +kernel
theorem dX8_frees_13 : decode cX8_frees 13 = .ok (.iload_n 1, 1) := by decide +kernel
theorem dX8_frees_14 : decode cX8_frees 14 = .ok (.invokevirtual 90, 3) := by decide +kernel
theorem dX8_frees_17 : decode cX8_frees 17 = .ok (.ifCond .le 5, 3) := by decide +kernel
theorem dX8_frees_20 : decode cX8_frees 20 = .ok (.iconst 0, 1) := by decide +kernel
theorem dX8_frees_21 : decode cX8_frees 21 = .ok (.ireturn, 1) := by decide +kernel
theorem dX8_frees_22 : decode cX8_frees 22 = .ok (.aload_n 0, 1) := by decide +kernel
theorem dX8_frees_23 : decode cX8_frees 23 = .ok (.getfield 7, 3) := by decide +kernel
theorem dX8_frees_26 : decode cX8_frees 26 = .ok (.iconst 3, 1) := by decide +kernel
theorem dX8_frees_27 : decode cX8_frees 27 = .ok (.iload_n 1, 1) := by decide +kernel
theorem dX8_frees_28 : decode cX8_frees 28 = .ok (.iadd, 1) := by decide +kernel
theorem dX8_frees_29 : decode cX8_frees 29 = .ok (.iconst 0, 1) := by decide +kernel
theorem dX8_frees_30 : decode cX8_frees 30 = .ok (.iastore, 1) := by decide +kernel
theorem dX8_frees_31 : decode cX8_frees 31 = .ok (.iconst 1, 1) := by decide +kernel
theorem dX8_frees_32 : decode cX8_frees 32 = .ok (.ireturn, 1) := by decide +kernel
theorem dX8_takeTail_0 : decode cX8_takeTail 0 = .ok (.aload_n 0, 1) := by decide +kernel
theorem dX8_takeTail_1 : decode cX8_takeTail 1 = .ok (.iload_n 1, 1) := by decide +kernel
theorem dX8_takeTail_2 : decode cX8_takeTail 2 = .ok (.iconst 3, 1) := by decide +kernel
theorem dX8_takeTail_3 : decode cX8_takeTail 3 = .ok (.invokevirtual 49, 3) := by decide +kernel
theorem dX8_takeTail_6 : decode cX8_takeTail 6 = .ok (.istore_n 2, 1) := by decide +kernel
theorem dX8_takeTail_7 : decode cX8_takeTail 7 = .ok (.aload_n 0, 1) := by decide +kernel
theorem dX8_takeTail_8 : decode cX8_takeTail 8 = .ok (.iload_n 1, 1) := by decide +kernel
theorem dX8_takeTail_9 : decode cX8_takeTail 9 = .ok (.invokevirtual 57, 3) := by decide +kernel
theorem dX8_takeTail_12 : decode cX8_takeTail 12 = .ok (.ifCond .le 7, 3) := by decide +kernel
theorem dX8_takeTail_15 : decode cX8_takeTail 15 = .ok (.iconst 1, 1) := by decide +kernel
theorem dX8_takeTail_16 : decode cX8_takeTail 16 = .ok (.goto 4, 3) := by decide +kernel
theorem dX8_takeTail_19 : decode cX8_takeTail 19 = .ok (.iconst 0, 1) := by decide +kernel
theorem dX8_takeTail_20 : decode cX8_takeTail 20 = .ok (.istore_n 3, 1) := by decide +kernel
theorem dX8_takeTail_21 : decode cX8_takeTail 21 = .ok (.aload_n 0, 1) := by decide +kernel
theorem dX8_takeTail_22 : decode cX8_takeTail 22 = .ok (.iload_n 1, 1) := by decide +kernel
theorem dX8_takeTail_23 : decode cX8_takeTail 23 = .ok (.iconst 1, 1) := by decide +kernel
theorem dX8_takeTail_24 : decode cX8_takeTail 24 = .ok (.bipush 16, 2) := by decide +kernel
theorem dX8_takeTail_26 : decode cX8_takeTail 26 = .ok (.aload_n 0, 1) := by decide +kernel
theorem dX8_takeTail_27 : decode cX8_takeTail 27 = .ok (.iload_n 1, 1) := by decide +kernel
theorem dX8_takeTail_28 : decode cX8_takeTail 28 = .ok (.invokevirtual 93, 3) := by decide +kernel
theorem dX8_takeTail_31 : decode cX8_takeTail 31 = .ok (.imul, 1) := by decide +kernel
theorem dX8_takeTail_32 : decode cX8_takeTail 32 = .ok (.invokevirtual 96, 3) := by decide +kernel
theorem dX8_takeTail_35 : decode cX8_takeTail 35 = .ok (.aload_n 0, 1) := by decide +kernel
theorem dX8_takeTail_36 : decode cX8_takeTail 36 = .ok (.iload_n 1, 1) := by decide +kernel
theorem dX8_takeTail_37 : decode cX8_takeTail 37 = .ok (.iconst 3, 1) := by decide +kernel
theorem dX8_takeTail_38 : decode cX8_takeTail 38 = .ok (.iconst (-1), 1) := by decide +kernel
theorem dX8_takeTail_39 : decode cX8_takeTail 39 = .ok (.invokevirtual 96, 3) := by decide +kernel
theorem dX8_takeTail_42 : decode cX8_takeTail 42 = .ok (.aload_n 0, 1) := by decide +kernel
theorem dX8_takeTail_43 : decode cX8_takeTail 43 = .ok (.iload_n 1, 1) := by decide +kernel
theorem dX8_takeTail_44 : decode cX8_takeTail 44 = .ok (.iconst 4, 1) := by decide +kernel
theorem dX8_takeTail_45 : decode cX8_takeTail 45 = .ok (.iconst (-1), 1) := by decide +kernel
theorem dX8_takeTail_46 : decode cX8_takeTail 46 = .ok (.invokevirtual 96, 3) := by decide +kernel
theorem dX8_takeTail_49 : decode cX8_takeTail 49 = .ok (.iload_n 3, 1) := by decide +kernel
theorem dX8_takeTail_50 : decode cX8_takeTail 50 = .ok (.ifCond .eq 11, 3) := by decide +kernel
theorem dX8_takeTail_53 : decode cX8_takeTail 53 = .ok (.aload_n 0, 1) := by decide +kernel
theorem dX8_takeTail_54 : decode cX8_takeTail 54 = .ok (.iload_n 2, 1) := by decide +kernel
theorem dX8_takeTail_55 : decode cX8_takeTail 55 = .ok (.invokevirtual 100, 3) := by decide +kernel
theorem dX8_takeTail_58 : decode cX8_takeTail 58 = .ok (.goto 4, 3) := by decide +kernel
theorem dX8_takeTail_61 : decode cX8_takeTail 61 = .ok (.iconst 0, 1) := by decide +kernel
theorem dX8_takeTail_62 : decode cX8_takeTail 62 = .ok (.istore 4, 2) := by decide +kernel
theorem dX8_takeTail_64 : decode cX8_takeTail 64 = .ok (.return_, 1) := by decide +kernel
theorem dX8_placeTail_0 : decode cX8_placeTail 0 = .ok (.iload_n 2, 1) := by decide +kernel
theorem dX8_placeTail_1 : decode cX8_placeTail 1 = .ok (.ifCond .ne 5, 3) := by decide +kernel
theorem dX8_placeTail_4 : decode cX8_placeTail 4 = .ok (.iconst 1, 1) := by decide +kernel
theorem dX8_placeTail_5 : decode cX8_placeTail 5 = .ok (.ireturn, 1) := by decide +kernel
theorem dX8_placeTail_6 : decode cX8_placeTail 6 = .ok (.aload_n 0, 1) := by decide +kernel
theorem dX8_placeTail_7 : decode cX8_placeTail 7 = .ok (.iload_n 2, 1) := by decide +kernel
theorem dX8_placeTail_8 : decode cX8_placeTail 8 = .ok (.invokevirtual 103, 3) := by decide +kernel
theorem dX8_placeTail_11 : decode cX8_placeTail 11 = .ok (.istore_n 3, 1) := by decide +kernel
theorem dX8_placeTail_12 : decode cX8_placeTail 12 = .ok (.iload_n 3, 1) := by decide +kernel
theorem dX8_placeTail_13 : decode cX8_placeTail 13 = .ok (.iconst (-1), 1) := by decide +kernel
theorem dX8_placeTail_14 : decode cX8_placeTail 14 = .ok (.if_icmp .ne 5, 3) := by decide +kernel
theorem dX8_placeTail_17 : decode cX8_placeTail 17 = .ok (.iconst 0, 1) := by decide +kernel
theorem dX8_placeTail_18 : decode cX8_placeTail 18 = .ok (.ireturn, 1) := by decide +kernel
theorem dX8_placeTail_19 : decode cX8_placeTail 19 = .ok (.aload_n 0, 1) := by decide +kernel
theorem dX8_placeTail_20 : decode cX8_placeTail 20 = .ok (.getfield 7, 3) := by decide +kernel
theorem dX8_placeTail_23 : decode cX8_placeTail 23 = .ok (.iconst 3, 1) := by decide +kernel
theorem dX8_placeTail_24 : decode cX8_placeTail 24 = .ok (.iload_n 3, 1) := by decide +kernel
theorem dX8_placeTail_25 : decode cX8_placeTail 25 = .ok (.bipush 16, 2) := by decide +kernel
theorem dX8_placeTail_27 : decode cX8_placeTail 27 = .ok (.idiv, 1) := by decide +kernel
theorem dX8_placeTail_28 : decode cX8_placeTail 28 = .ok (.iadd, 1) := by decide +kernel
theorem dX8_placeTail_29 : decode cX8_placeTail 29 = .ok (.iconst 2, 1) := by decide +kernel
theorem dX8_placeTail_30 : decode cX8_placeTail 30 = .ok (.iastore, 1) := by decide +kernel
theorem dX8_placeTail_31 : decode cX8_placeTail 31 = .ok (.aload_n 0, 1) := by decide +kernel
theorem dX8_placeTail_32 : decode cX8_placeTail 32 = .ok (.iload_n 1, 1) := by decide +kernel
theorem dX8_placeTail_33 : decode cX8_placeTail 33 = .ok (.iconst 3, 1) := by decide +kernel
theorem dX8_placeTail_34 : decode cX8_placeTail 34 = .ok (.iload_n 3, 1) := by decide +kernel
theorem dX8_placeTail_35 : decode cX8_placeTail 35 = .ok (.bipush 16, 2) := by decide +kernel
theorem dX8_placeTail_37 : decode cX8_placeTail 37 = .ok (.idiv, 1) := by decide +kernel
theorem dX8_placeTail_38 : decode cX8_placeTail 38 = .ok (.invokevirtual 96, 3) := by decide +kernel
theorem dX8_placeTail_41 : decode cX8_placeTail 41 = .ok (.aload_n 0, 1) := by decide +kernel
theorem dX8_placeTail_42 : decode cX8_placeTail 42 = .ok (.iload_n 1, 1) := by decide +kernel
theorem dX8_placeTail_43 : decode cX8_placeTail 43 = .ok (.iconst 4, 1) := by decide +kernel
theorem dX8_placeTail_44 : decode cX8_placeTail 44 = .ok (.iload_n 3, 1) := by decide +kernel
theorem dX8_placeTail_45 : decode cX8_placeTail 45 = .ok (.bipush 16, 2) := by decide +kernel
theorem dX8_placeTail_47 : decode cX8_placeTail 47 = .ok (.irem, 1) := by decide +kernel
theorem dX8_placeTail_48 : decode cX8_placeTail 48 = .ok (.invokevirtual 96, 3) := by decide +kernel
theorem dX8_placeTail_51 : decode cX8_placeTail 51 = .ok (.aload_n 0, 1) := by decide +kernel
theorem dX8_placeTail_52 : decode cX8_placeTail 52 = .ok (.iload_n 1, 1) := by decide +kernel
theorem dX8_placeTail_53 : decode cX8_placeTail 53 = .ok (.iconst 1, 1) := by decide +kernel
theorem dX8_placeTail_54 : decode cX8_placeTail 54 = .ok (.aload_n 0, 1) := by decide +kernel
theorem dX8_placeTail_55 : decode cX8_placeTail 55 = .ok (.iload_n 1, 1) := by decide +kernel
theorem dX8_placeTail_56 : decode cX8_placeTail 56 = .ok (.iconst 1, 1) := by decide +kernel
theorem dX8_placeTail_57 : decode cX8_placeTail 57 = .ok (.invokevirtual 49, 3) := by decide +kernel
theorem dX8_placeTail_60 : decode cX8_placeTail 60 = .ok (.iload_n 2, 1) := by decide +kernel
theorem dX8_placeTail_61 : decode cX8_placeTail 61 = .ok (.iadd, 1) := by decide +kernel
theorem dX8_placeTail_62 : decode cX8_placeTail 62 = .ok (.invokevirtual 96, 3) := by decide +kernel
theorem dX8_placeTail_65 : decode cX8_placeTail 65 = .ok (.aload_n 0, 1) := by decide +kernel
theorem dX8_placeTail_66 : decode cX8_placeTail 66 = .ok (.iload_n 1, 1) := by decide +kernel
theorem dX8_placeTail_67 : decode cX8_placeTail 67 = .ok (.iconst 5, 1) := by decide +kernel
theorem dX8_placeTail_68 : decode cX8_placeTail 68 = .ok (.aload_n 0, 1) := by decide +kernel
theorem dX8_placeTail_69 : decode cX8_placeTail 69 = .ok (.iload_n 1, 1) := by decide +kernel
theorem dX8_placeTail_70 : decode cX8_placeTail 70 = .ok (.iconst 5, 1) := by decide +kernel
theorem dX8_placeTail_71 : decode cX8_placeTail 71 = .ok (.invokevirtual 49, 3) := by decide +kernel
theorem dX8_placeTail_74 : decode cX8_placeTail 74 = .ok (.iconst 1, 1) := by decide +kernel
theorem dX8_placeTail_75 : decode cX8_placeTail 75 = .ok (.iadd, 1) := by decide +kernel
theorem dX8_placeTail_76 : decode cX8_placeTail 76 = .ok (.invokevirtual 96, 3) := by decide +kernel
theorem dX8_placeTail_79 : decode cX8_placeTail 79 = .ok (.iconst 1, 1) := by decide +kernel
theorem dX8_placeTail_80 : decode cX8_placeTail 80 = .ok (.ireturn, 1) := by decide +kernel
theorem dX8_takeWhole_0 : decode cX8_takeWhole 0 = .ok (.aload_n 0, 1) := by decide +kernel
theorem dX8_takeWhole_1 : decode cX8_takeWhole 1 = .ok (.iload_n 1, 1) := by decide +kernel
theorem dX8_takeWhole_2 : decode cX8_takeWhole 2 = .ok (.invokevirtual 93, 3) := by decide +kernel
theorem dX8_takeWhole_5 : decode cX8_takeWhole 5 = .ok (.iload_n 2, 1) := by decide +kernel
theorem dX8_takeWhole_6 : decode cX8_takeWhole 6 = .ok (.if_icmp .ge 56, 3) := by decide +kernel
theorem dX8_takeWhole_9 : decode cX8_takeWhole 9 = .ok (.aload_n 0, 1) := by decide +kernel
theorem dX8_takeWhole_10 : decode cX8_takeWhole 10 = .ok (.invokevirtual 74, 3) := by decide +kernel
theorem dX8_takeWhole_13 : decode cX8_takeWhole 13 = .ok (.istore_n 3, 1) := by decide +kernel
theorem dX8_takeWhole_14 : decode cX8_takeWhole 14 = .ok (.iload_n 3, 1) := by decide +kernel
theorem dX8_takeWhole_15 : decode cX8_takeWhole 15 = .ok (.iconst (-1), 1) := by decide +kernel
theorem dX8_takeWhole_16 : decode cX8_takeWhole 16 = .ok (.if_icmp .ne 5, 3) := by decide +kernel
theorem dX8_takeWhole_19 : decode cX8_takeWhole 19 = .ok (.iconst 0, 1) := by decide +kernel
theorem dX8_takeWhole_20 : decode cX8_takeWhole 20 = .ok (.ireturn, 1) := by decide +kernel
theorem dX8_takeWhole_21 : decode cX8_takeWhole 21 = .ok (.aload_n 0, 1) := by decide +kernel
theorem dX8_takeWhole_22 : decode cX8_takeWhole 22 = .ok (.getfield 7, 3) := by decide +kernel
theorem dX8_takeWhole_25 : decode cX8_takeWhole 25 = .ok (.iconst 3, 1) := by decide +kernel
theorem dX8_takeWhole_26 : decode cX8_takeWhole 26 = .ok (.iload_n 3, 1) := by decide +kernel
theorem dX8_takeWhole_27 : decode cX8_takeWhole 27 = .ok (.iadd, 1) := by decide +kernel
theorem dX8_takeWhole_28 : decode cX8_takeWhole 28 = .ok (.iconst 1, 1) := by decide +kernel
theorem dX8_takeWhole_29 : decode cX8_takeWhole 29 = .ok (.iastore, 1) := by decide +kernel
theorem dX8_takeWhole_30 : decode cX8_takeWhole 30 = .ok (.aload_n 0, 1) := by decide +kernel
theorem dX8_takeWhole_31 : decode cX8_takeWhole 31 = .ok (.iload_n 1, 1) := by decide +kernel
theorem dX8_takeWhole_32 : decode cX8_takeWhole 32 = .ok (.bipush 6, 2) := by decide +kernel
theorem dX8_takeWhole_34 : decode cX8_takeWhole 34 = .ok (.aload_n 0, 1) := by decide +kernel
theorem dX8_takeWhole_35 : decode cX8_takeWhole 35 = .ok (.iload_n 1, 1) := by decide +kernel
theorem dX8_takeWhole_36 : decode cX8_takeWhole 36 = .ok (.invokevirtual 93, 3) := by decide +kernel
theorem dX8_takeWhole_39 : decode cX8_takeWhole 39 = .ok (.iadd, 1) := by decide +kernel
theorem dX8_takeWhole_40 : decode cX8_takeWhole 40 = .ok (.iload_n 3, 1) := by decide +kernel
theorem dX8_takeWhole_41 : decode cX8_takeWhole 41 = .ok (.invokevirtual 96, 3) := by decide +kernel
theorem dX8_takeWhole_44 : decode cX8_takeWhole 44 = .ok (.aload_n 0, 1) := by decide +kernel
theorem dX8_takeWhole_45 : decode cX8_takeWhole 45 = .ok (.iload_n 1, 1) := by decide +kernel
theorem dX8_takeWhole_46 : decode cX8_takeWhole 46 = .ok (.iconst 1, 1) := by decide +kernel
theorem dX8_takeWhole_47 : decode cX8_takeWhole 47 = .ok (.aload_n 0, 1) := by decide +kernel
theorem dX8_takeWhole_48 : decode cX8_takeWhole 48 = .ok (.iload_n 1, 1) := by decide +kernel
theorem dX8_takeWhole_49 : decode cX8_takeWhole 49 = .ok (.iconst 1, 1) := by decide +kernel
theorem dX8_takeWhole_50 : decode cX8_takeWhole 50 = .ok (.invokevirtual 49, 3) := by decide +kernel
theorem dX8_takeWhole_53 : decode cX8_takeWhole 53 = .ok (.bipush 16, 2) := by decide +kernel
theorem dX8_takeWhole_55 : decode cX8_takeWhole 55 = .ok (.iadd, 1) := by decide +kernel
theorem dX8_takeWhole_56 : decode cX8_takeWhole 56 = .ok (.invokevirtual 96, 3) := by decide +kernel
theorem dX8_takeWhole_59 : decode cX8_takeWhole 59 = .ok (.goto (-59), 3) := by decide +kernel
theorem dX8_takeWhole_62 : decode cX8_takeWhole 62 = .ok (.iconst 1, 1) := by decide +kernel
theorem dX8_takeWhole_63 : decode cX8_takeWhole 63 = .ok (.ireturn, 1) := by decide +kernel
theorem dX8_refused_0 : decode cX8_refused 0 = .ok (.aload_n 0, 1) := by decide +kernel
theorem dX8_refused_1 : decode cX8_refused 1 = .ok (.invokevirtual 106, 3) := by decide +kernel
theorem dX8_refused_4 : decode cX8_refused 4 = .ok (.aload_n 0, 1) := by decide +kernel
theorem dX8_refused_5 : decode cX8_refused 5 = .ok (.getfield 7, 3) := by decide +kernel
theorem dX8_refused_8 : decode cX8_refused 8 = .ok (.iconst 0, 1) := by decide +kernel
theorem dX8_refused_9 : decode cX8_refused 9 = .ok (.dup2, 1) := by decide +kernel
theorem dX8_refused_10 : decode cX8_refused 10 = .ok (.iaload, 1) := by decide +kernel
theorem dX8_refused_11 : decode cX8_refused 11 = .ok (.iconst 1, 1) := by decide +kernel
theorem dX8_refused_12 : decode cX8_refused 12 = .ok (.iadd, 1) := by decide +kernel
theorem dX8_refused_13 : decode cX8_refused 13 = .ok (.iastore, 1) := by decide +kernel
theorem dX8_refused_14 : decode cX8_refused 14 = .ok (.iconst (-1), 1) := by decide +kernel
theorem dX8_refused_15 : decode cX8_refused 15 = .ok (.ireturn, 1) := by decide +kernel
theorem dX8_freeNumber_0 : decode cX8_freeNumber 0 = .ok (.iconst 0, 1) := by decide +kernel
theorem dX8_freeNumber_1 : decode cX8_freeNumber 1 = .ok (.istore_n 1, 1) := by decide +kernel
theorem dX8_freeNumber_2 : decode cX8_freeNumber 2 = .ok (.iload_n 1, 1) := by decide +kernel
theorem dX8_freeNumber_3 : decode cX8_freeNumber 3 = .ok (.bipush 10, 2) := by decide +kernel
theorem dX8_freeNumber_5 : decode cX8_freeNumber 5 = .ok (.if_icmp .ge 20, 3) := by decide +kernel
theorem dX8_freeNumber_8 : decode cX8_freeNumber 8 = .ok (.aload_n 0, 1) := by decide +kernel
theorem dX8_freeNumber_9 : decode cX8_freeNumber 9 = .ok (.iload_n 1, 1) := by decide +kernel
theorem dX8_freeNumber_10 : decode cX8_freeNumber 10 = .ok (.iconst 0, 1) := by decide +kernel
theorem dX8_freeNumber_11 : decode cX8_freeNumber 11 = .ok (.invokevirtual 49, 3) := by decide +kernel
theorem dX8_freeNumber_14 : decode cX8_freeNumber 14 = .ok (.ifCond .ne 5, 3) := by decide +kernel
theorem dX8_freeNumber_17 : decode cX8_freeNumber 17 = .ok (.iload_n 1, 1) := by decide +kernel
theorem dX8_freeNumber_18 : decode cX8_freeNumber 18 = .ok (.ireturn, 1) := by decide +kernel
theorem dX8_freeNumber_19 : decode cX8_freeNumber 19 = .ok (.iinc 1 1, 3) := by decide +kernel
theorem dX8_freeNumber_22 : decode cX8_freeNumber 22 = .ok (.goto (-20), 3) := by decide +kernel
theorem dX8_freeNumber_25 : decode cX8_freeNumber 25 = .ok (.iconst (-1), 1) := by decide +kernel
theorem dX8_freeNumber_26 : decode cX8_freeNumber 26 = .ok (.ireturn, 1) := by decide +kernel
theorem dX8_creates_0 : decode cX8_creates 0 = .ok (.aload_n 0, 1) := by decide +kernel
theorem dX8_creates_1 : decode cX8_creates 1 = .ok (.invokevirtual 109, 3) := by decide +kernel
theorem dX8_creates_4 : decode cX8_creates 4 = .ok (.istore_n 2, 1) := by decide +kernel
theorem dX8_creates_5 : decode cX8_creates 5 = .ok (.aload_n 0, 1) := by decide +kernel
theorem dX8_creates_6 : decode cX8_creates 6 = .ok (.invokevirtual 112, 3) := by decide +kernel
theorem dX8_creates_9 : decode cX8_creates 9 = .ok (.iload_n 2, 1) := by decide +kernel
theorem dX8_creates_10 : decode cX8_creates 10 = .ok (.iconst (-1), 1) := by decide +kernel
theorem dX8_creates_11 : decode cX8_creates 11 = .ok (.if_icmp .ne 8, 3) := by decide +kernel
theorem dX8_creates_14 : decode cX8_creates 14 = .ok (.aload_n 0, 1) := by decide +kernel
theorem dX8_creates_15 : decode cX8_creates 15 = .ok (.invokevirtual 115, 3) := by decide +kernel
theorem dX8_creates_18 : decode cX8_creates 18 = .ok (.ireturn, 1) := by decide +kernel
theorem dX8_creates_19 : decode cX8_creates 19 = .ok (.iconst 0, 1) := by decide +kernel
theorem dX8_creates_20 : decode cX8_creates 20 = .ok (.istore_n 3, 1) := by decide +kernel
theorem dX8_creates_21 : decode cX8_creates 21 = .ok (.iload_n 3, 1) := by decide +kernel
theorem dX8_creates_22 : decode cX8_creates 22 = .ok (.bipush 18, 2) := by decide +kernel
theorem dX8_creates_24 : decode cX8_creates 24 = .ok (.if_icmp .ge 16, 3) := by decide +kernel
theorem dX8_creates_27 : decode cX8_creates 27 = .ok (.aload_n 0, 1) := by decide +kernel
theorem dX8_creates_28 : decode cX8_creates 28 = .ok (.iload_n 2, 1) := by decide +kernel
theorem dX8_creates_29 : decode cX8_creates 29 = .ok (.iload_n 3, 1) := by decide +kernel
theorem dX8_creates_30 : decode cX8_creates 30 = .ok (.iconst 0, 1) := by decide +kernel
theorem dX8_creates_31 : decode cX8_creates 31 = .ok (.invokevirtual 96, 3) := by decide +kernel
theorem dX8_creates_34 : decode cX8_creates 34 = .ok (.iinc 3 1, 3) := by decide +kernel
theorem dX8_creates_37 : decode cX8_creates 37 = .ok (.goto (-16), 3) := by decide +kernel
theorem dX8_creates_40 : decode cX8_creates 40 = .ok (.aload_n 0, 1) := by decide +kernel
theorem dX8_creates_41 : decode cX8_creates 41 = .ok (.iload_n 2, 1) := by decide +kernel
theorem dX8_creates_42 : decode cX8_creates 42 = .ok (.iconst 0, 1) := by decide +kernel
theorem dX8_creates_43 : decode cX8_creates 43 = .ok (.iconst 1, 1) := by decide +kernel
theorem dX8_creates_44 : decode cX8_creates 44 = .ok (.invokevirtual 96, 3) := by decide +kernel
theorem dX8_creates_47 : decode cX8_creates 47 = .ok (.aload_n 0, 1) := by decide +kernel
theorem dX8_creates_48 : decode cX8_creates 48 = .ok (.iload_n 2, 1) := by decide +kernel
theorem dX8_creates_49 : decode cX8_creates 49 = .ok (.iconst 3, 1) := by decide +kernel
theorem dX8_creates_50 : decode cX8_creates 50 = .ok (.iconst (-1), 1) := by decide +kernel
theorem dX8_creates_51 : decode cX8_creates 51 = .ok (.invokevirtual 96, 3) := by decide +kernel
theorem dX8_creates_54 : decode cX8_creates 54 = .ok (.aload_n 0, 1) := by decide +kernel
theorem dX8_creates_55 : decode cX8_creates 55 = .ok (.iload_n 2, 1) := by decide +kernel
theorem dX8_creates_56 : decode cX8_creates 56 = .ok (.iconst 4, 1) := by decide +kernel
theorem dX8_creates_57 : decode cX8_creates 57 = .ok (.iconst (-1), 1) := by decide +kernel
theorem dX8_creates_58 : decode cX8_creates 58 = .ok (.invokevirtual 96, 3) := by decide +kernel
theorem dX8_creates_61 : decode cX8_creates 61 = .ok (.aload_n 0, 1) := by decide +kernel
theorem dX8_creates_62 : decode cX8_creates 62 = .ok (.iload_n 2, 1) := by decide +kernel
theorem dX8_creates_63 : decode cX8_creates 63 = .ok (.iload_n 1, 1) := by decide +kernel
theorem dX8_creates_64 : decode cX8_creates 64 = .ok (.bipush 16, 2) := by decide +kernel
theorem dX8_creates_66 : decode cX8_creates 66 = .ok (.idiv, 1) := by decide +kernel
theorem dX8_creates_67 : decode cX8_creates 67 = .ok (.invokevirtual 118, 3) := by decide +kernel
theorem dX8_creates_70 : decode cX8_creates 70 = .ok (.ifCond .eq 19, 3) := by decide +kernel
theorem dX8_creates_73 : decode cX8_creates 73 = .ok (.aload_n 0, 1) := by decide +kernel
theorem dX8_creates_74 : decode cX8_creates 74 = .ok (.iload_n 2, 1) := by decide +kernel
theorem dX8_creates_75 : decode cX8_creates 75 = .ok (.iload_n 1, 1) := by decide +kernel
theorem dX8_creates_76 : decode cX8_creates 76 = .ok (.bipush 16, 2) := by decide +kernel
theorem dX8_creates_78 : decode cX8_creates 78 = .ok (.irem, 1) := by decide +kernel
theorem dX8_creates_79 : decode cX8_creates 79 = .ok (.invokevirtual 121, 3) := by decide +kernel
theorem dX8_creates_82 : decode cX8_creates 82 = .ok (.ifCond .eq 7, 3) := by decide +kernel
theorem dX8_creates_85 : decode cX8_creates 85 = .ok (.iload_n 2, 1) := by decide +kernel
theorem dX8_creates_86 : decode cX8_creates 86 = .ok (.goto 7, 3) := by decide +kernel
theorem dX8_creates_89 : decode cX8_creates 89 = .ok (.aload_n 0, 1) := by decide +kernel
theorem dX8_creates_90 : decode cX8_creates 90 = .ok (.invokevirtual 115, 3) := by decide +kernel
theorem dX8_creates_93 : decode cX8_creates 93 = .ok (.ireturn, 1) := by decide +kernel
theorem dX8_growsInPlace_0 : decode cX8_growsInPlace 0 = .ok (.aload_n 0, 1) := by decide +kernel
theorem dX8_growsInPlace_1 : decode cX8_growsInPlace 1 = .ok (.iload_n 1, 1) := by decide +kernel
theorem dX8_growsInPlace_2 : decode cX8_growsInPlace 2 = .ok (.invokevirtual 57, 3) := by decide +kernel
theorem dX8_growsInPlace_5 : decode cX8_growsInPlace 5 = .ok (.istore_n 3, 1) := by decide +kernel
theorem dX8_growsInPlace_6 : decode cX8_growsInPlace 6 = .ok (.iload_n 3, 1) := by decide +kernel
theorem dX8_growsInPlace_7 : decode cX8_growsInPlace 7 = .ok (.ifCond .le 30, 3) := by decide +kernel
theorem dX8_growsInPlace_10 : decode cX8_growsInPlace 10 = .ok (.iload_n 3, 1) := by decide +kernel
theorem dX8_growsInPlace_11 : decode cX8_growsInPlace 11 = .ok (.iload_n 2, 1) := by decide +kernel
theorem dX8_growsInPlace_12 : decode cX8_growsInPlace 12 = .ok (.iadd, 1) := by decide +kernel
theorem dX8_growsInPlace_13 : decode cX8_growsInPlace 13 = .ok (.bipush 16, 2) := by decide +kernel
theorem dX8_growsInPlace_15 : decode cX8_growsInPlace 15 = .ok (.if_icmp .ge 22, 3) := by decide +kernel
theorem dX8_growsInPlace_18 : decode cX8_growsInPlace 18 = .ok (.aload_n 0, 1) := by decide +kernel
theorem dX8_growsInPlace_19 : decode cX8_growsInPlace 19 = .ok (.iload_n 1, 1) := by decide +kernel
theorem dX8_growsInPlace_20 : decode cX8_growsInPlace 20 = .ok (.iconst 4, 1) := by decide +kernel
theorem dX8_growsInPlace_21 : decode cX8_growsInPlace 21 = .ok (.invokevirtual 49, 3) := by decide +kernel
theorem dX8_growsInPlace_24 : decode cX8_growsInPlace 24 = .ok (.iload_n 3, 1) := by decide +kernel
theorem dX8_growsInPlace_25 : decode cX8_growsInPlace 25 = .ok (.iadd, 1) := by decide +kernel
theorem dX8_growsInPlace_26 : decode cX8_growsInPlace 26 = .ok (.iload_n 2, 1) := by decide +kernel
theorem dX8_growsInPlace_27 : decode cX8_growsInPlace 27 = .ok (.iadd, 1) := by decide +kernel
theorem dX8_growsInPlace_28 : decode cX8_growsInPlace 28 = .ok (.bipush 16, 2) := by decide +kernel
theorem dX8_growsInPlace_30 : decode cX8_growsInPlace 30 = .ok (.if_icmp .gt 7, 3) := by decide +kernel
theorem dX8_growsInPlace_33 : decode cX8_growsInPlace 33 = .ok (.iconst 1, 1) := by decide +kernel
theorem dX8_growsInPlace_34 : decode cX8_growsInPlace 34 = .ok (.goto 4, 3) := by decide +kernel
theorem dX8_growsInPlace_37 : decode cX8_growsInPlace 37 = .ok (.iconst 0, 1) := by decide +kernel
theorem dX8_growsInPlace_38 : decode cX8_growsInPlace 38 = .ok (.istore 4, 2) := by decide +kernel
theorem dX8_growsInPlace_40 : decode cX8_growsInPlace 40 = .ok (.iconst 0, 1) := by decide +kernel
theorem dX8_growsInPlace_41 : decode cX8_growsInPlace 41 = .ok (.istore 5, 2) := by decide +kernel
theorem dX8_growsInPlace_43 : decode cX8_growsInPlace 43 = .ok (.iload 5, 2) := by decide +kernel
theorem dX8_growsInPlace_45 : decode cX8_growsInPlace 45 = .ok (.iload_n 2, 1) := by decide +kernel
theorem dX8_growsInPlace_46 : decode cX8_growsInPlace 46 = .ok (.if_icmp .ge 45, 3) := by decide +kernel
theorem dX8_growsInPlace_49 : decode cX8_growsInPlace 49 = .ok (.iload 4, 2) := by decide +kernel
theorem dX8_growsInPlace_51 : decode cX8_growsInPlace 51 = .ok (.ifCond .eq 40, 3) := by decide +kernel
theorem dX8_growsInPlace_54 : decode cX8_growsInPlace 54 = .ok (.aload_n 0, 1) := by decide +kernel
theorem dX8_growsInPlace_55 : decode cX8_growsInPlace 55 = .ok (.aload_n 0, 1) := by decide +kernel
theorem dX8_growsInPlace_56 : decode cX8_growsInPlace 56 = .ok (.iload_n 1, 1) := by decide +kernel
theorem dX8_growsInPlace_57 : decode cX8_growsInPlace 57 = .ok (.iconst 3, 1) := by decide +kernel
theorem dX8_growsInPlace_58 : decode cX8_growsInPlace 58 = .ok (.invokevirtual 49, 3) := by decide +kernel
theorem dX8_growsInPlace_61 : decode cX8_growsInPlace 61 = .ok (.aload_n 0, 1) := by decide +kernel
theorem dX8_growsInPlace_62 : decode cX8_growsInPlace 62 = .ok (.iload_n 1, 1) := by decide +kernel
theorem dX8_growsInPlace_63 : decode cX8_growsInPlace 63 = .ok (.iconst 4, 1) := by decide +kernel
theorem dX8_growsInPlace_64 : decode cX8_growsInPlace 64 = .ok (.invokevirtual 49, 3) := by decide +kernel
theorem dX8_growsInPlace_67 : decode cX8_growsInPlace 67 = .ok (.iload_n 3, 1) := by decide +kernel
theorem dX8_growsInPlace_68 : decode cX8_growsInPlace 68 = .ok (.iadd, 1) := by decide +kernel
theorem dX8_growsInPlace_69 : decode cX8_growsInPlace 69 = .ok (.iload 5, 2) := by decide +kernel
theorem dX8_growsInPlace_71 : decode cX8_growsInPlace 71 = .ok (.iadd, 1) := by decide +kernel
theorem dX8_growsInPlace_72 : decode cX8_growsInPlace 72 = .ok (.invokevirtual 65, 3) := by decide +kernel
theorem dX8_growsInPlace_75 : decode cX8_growsInPlace 75 = .ok (.ifCond .ne 7, 3) := by decide +kernel
theorem dX8_growsInPlace_78 : decode cX8_growsInPlace 78 = .ok (.iconst 1, 1) := by decide +kernel
theorem dX8_growsInPlace_79 : decode cX8_growsInPlace 79 = .ok (.goto 4, 3) := by decide +kernel
theorem dX8_growsInPlace_82 : decode cX8_growsInPlace 82 = .ok (.iconst 0, 1) := by decide +kernel
theorem dX8_growsInPlace_83 : decode cX8_growsInPlace 83 = .ok (.istore 4, 2) := by decide +kernel
theorem dX8_growsInPlace_85 : decode cX8_growsInPlace 85 = .ok (.iinc 5 1, 3) := by decide +kernel
theorem dX8_growsInPlace_88 : decode cX8_growsInPlace 88 = .ok (.goto (-45), 3) := by decide +kernel
theorem dX8_growsInPlace_91 : decode cX8_growsInPlace 91 = .ok (.iload 4, 2) := by decide +kernel
theorem dX8_growsInPlace_93 : decode cX8_growsInPlace 93 = .ok (.ireturn, 1) := by decide +kernel
theorem dX8_grows_0 : decode cX8_grows 0 = .ok (.aload_n 0, 1) := by decide +kernel
theorem dX8_grows_1 : decode cX8_grows 1 = .ok (.invokevirtual 112, 3) := by decide +kernel
theorem dX8_grows_4 : decode cX8_grows 4 = .ok (.aload_n 0, 1) := by decide +kernel
theorem dX8_grows_5 : decode cX8_grows 5 = .ok (.iload_n 1, 1) := by decide +kernel
theorem dX8_grows_6 : decode cX8_grows 6 = .ok (.iconst 1, 1) := by decide +kernel
theorem dX8_grows_7 : decode cX8_grows 7 = .ok (.invokevirtual 49, 3) := by decide +kernel
theorem dX8_grows_10 : decode cX8_grows 10 = .ok (.iload_n 2, 1) := by decide +kernel
theorem dX8_grows_11 : decode cX8_grows 11 = .ok (.iadd, 1) := by decide +kernel
theorem dX8_grows_12 : decode cX8_grows 12 = .ok (.istore_n 3, 1) := by decide +kernel
theorem dX8_grows_13 : decode cX8_grows 13 = .ok (.aload_n 0, 1) := by decide +kernel
theorem dX8_grows_14 : decode cX8_grows 14 = .ok (.iload_n 1, 1) := by decide +kernel
theorem dX8_grows_15 : decode cX8_grows 15 = .ok (.iconst 2, 1) := by decide +kernel
theorem dX8_grows_16 : decode cX8_grows 16 = .ok (.invokevirtual 49, 3) := by decide +kernel
theorem dX8_grows_19 : decode cX8_grows 19 = .ok (.iconst 1, 1) := by decide +kernel
theorem dX8_grows_20 : decode cX8_grows 20 = .ok (.if_icmp .eq 10, 3) := by decide +kernel
theorem dX8_grows_23 : decode cX8_grows 23 = .ok (.iload_n 3, 1) := by decide +kernel
theorem dX8_grows_24 : decode cX8_grows 24 = .ok (.sipush 200, 3) := by decide +kernel
theorem dX8_grows_27 : decode cX8_grows 27 = .ok (.if_icmp .le 8, 3) := by decide +kernel
theorem dX8_grows_30 : decode cX8_grows 30 = .ok (.aload_n 0, 1) := by decide +kernel
theorem dX8_grows_31 : decode cX8_grows 31 = .ok (.invokevirtual 115, 3) := by decide +kernel
theorem dX8_grows_34 : decode cX8_grows 34 = .ok (.ireturn, 1) := by decide +kernel
theorem dX8_grows_35 : decode cX8_grows 35 = .ok (.aload_n 0, 1) := by decide +kernel
theorem dX8_grows_36 : decode cX8_grows 36 = .ok (.iload_n 1, 1) := by decide +kernel
theorem dX8_grows_37 : decode cX8_grows 37 = .ok (.iload_n 2, 1) := by decide +kernel
theorem dX8_grows_38 : decode cX8_grows 38 = .ok (.invokevirtual 124, 3) := by decide +kernel
theorem dX8_grows_41 : decode cX8_grows 41 = .ok (.ifCond .eq 12, 3) := by decide +kernel
theorem dX8_grows_44 : decode cX8_grows 44 = .ok (.aload_n 0, 1) := by decide +kernel
theorem dX8_grows_45 : decode cX8_grows 45 = .ok (.iload_n 1, 1) := by decide +kernel
theorem dX8_grows_46 : decode cX8_grows 46 = .ok (.iconst 1, 1) := by decide +kernel
theorem dX8_grows_47 : decode cX8_grows 47 = .ok (.iload_n 3, 1) := by decide +kernel
theorem dX8_grows_48 : decode cX8_grows 48 = .ok (.invokevirtual 96, 3) := by decide +kernel
theorem dX8_grows_51 : decode cX8_grows 51 = .ok (.iconst 0, 1) := by decide +kernel
theorem dX8_grows_52 : decode cX8_grows 52 = .ok (.ireturn, 1) := by decide +kernel
theorem dX8_grows_53 : decode cX8_grows 53 = .ok (.aload_n 0, 1) := by decide +kernel
theorem dX8_grows_54 : decode cX8_grows 54 = .ok (.iload_n 1, 1) := by decide +kernel
theorem dX8_grows_55 : decode cX8_grows 55 = .ok (.invokevirtual 127, 3) := by decide +kernel
theorem dX8_grows_58 : decode cX8_grows 58 = .ok (.aload_n 0, 1) := by decide +kernel
theorem dX8_grows_59 : decode cX8_grows 59 = .ok (.iload_n 1, 1) := by decide +kernel
theorem dX8_grows_60 : decode cX8_grows 60 = .ok (.iload_n 3, 1) := by decide +kernel
theorem dX8_grows_61 : decode cX8_grows 61 = .ok (.bipush 16, 2) := by decide +kernel
theorem dX8_grows_63 : decode cX8_grows 63 = .ok (.idiv, 1) := by decide +kernel
theorem dX8_grows_64 : decode cX8_grows 64 = .ok (.invokevirtual 118, 3) := by decide +kernel
theorem dX8_grows_67 : decode cX8_grows 67 = .ok (.ifCond .eq 19, 3) := by decide +kernel
theorem dX8_grows_70 : decode cX8_grows 70 = .ok (.aload_n 0, 1) := by decide +kernel
theorem dX8_grows_71 : decode cX8_grows 71 = .ok (.iload_n 1, 1) := by decide +kernel
theorem dX8_grows_72 : decode cX8_grows 72 = .ok (.iload_n 3, 1) := by decide +kernel
theorem dX8_grows_73 : decode cX8_grows 73 = .ok (.bipush 16, 2) := by decide +kernel
theorem dX8_grows_75 : decode cX8_grows 75 = .ok (.irem, 1) := by decide +kernel
theorem dX8_grows_76 : decode cX8_grows 76 = .ok (.invokevirtual 121, 3) := by decide +kernel
theorem dX8_grows_79 : decode cX8_grows 79 = .ok (.ifCond .eq 7, 3) := by decide +kernel
theorem dX8_grows_82 : decode cX8_grows 82 = .ok (.iconst 1, 1) := by decide +kernel
theorem dX8_grows_83 : decode cX8_grows 83 = .ok (.goto 7, 3) := by decide +kernel
theorem dX8_grows_86 : decode cX8_grows 86 = .ok (.aload_n 0, 1) := by decide +kernel
theorem dX8_grows_87 : decode cX8_grows 87 = .ok (.invokevirtual 115, 3) := by decide +kernel
theorem dX8_grows_90 : decode cX8_grows 90 = .ok (.ireturn, 1) := by decide +kernel
theorem dX8_cuts_0 : decode cX8_cuts 0 = .ok (.aload_n 0, 1) := by decide +kernel
theorem dX8_cuts_1 : decode cX8_cuts 1 = .ok (.invokevirtual 112, 3) := by decide +kernel
theorem dX8_cuts_4 : decode cX8_cuts 4 = .ok (.aload_n 0, 1) := by decide +kernel
theorem dX8_cuts_5 : decode cX8_cuts 5 = .ok (.iload_n 1, 1) := by decide +kernel
theorem dX8_cuts_6 : decode cX8_cuts 6 = .ok (.iconst 1, 1) := by decide +kernel
theorem dX8_cuts_7 : decode cX8_cuts 7 = .ok (.invokevirtual 49, 3) := by decide +kernel
theorem dX8_cuts_10 : decode cX8_cuts 10 = .ok (.iload_n 2, 1) := by decide +kernel
theorem dX8_cuts_11 : decode cX8_cuts 11 = .ok (.isub, 1) := by decide +kernel
theorem dX8_cuts_12 : decode cX8_cuts 12 = .ok (.istore_n 3, 1) := by decide +kernel
theorem dX8_cuts_13 : decode cX8_cuts 13 = .ok (.aload_n 0, 1) := by decide +kernel
theorem dX8_cuts_14 : decode cX8_cuts 14 = .ok (.iload_n 1, 1) := by decide +kernel
theorem dX8_cuts_15 : decode cX8_cuts 15 = .ok (.iconst 2, 1) := by decide +kernel
theorem dX8_cuts_16 : decode cX8_cuts 16 = .ok (.invokevirtual 49, 3) := by decide +kernel
theorem dX8_cuts_19 : decode cX8_cuts 19 = .ok (.iconst 1, 1) := by decide +kernel
theorem dX8_cuts_20 : decode cX8_cuts 20 = .ok (.if_icmp .eq 7, 3) := by decide +kernel
theorem dX8_cuts_23 : decode cX8_cuts 23 = .ok (.iload_n 3, 1) := by decide +kernel
theorem dX8_cuts_24 : decode cX8_cuts 24 = .ok (.ifCond .ge 8, 3) := by decide +kernel
theorem dX8_cuts_27 : decode cX8_cuts 27 = .ok (.aload_n 0, 1) := by decide +kernel
theorem dX8_cuts_28 : decode cX8_cuts 28 = .ok (.invokevirtual 115, 3) := by decide +kernel
theorem dX8_cuts_31 : decode cX8_cuts 31 = .ok (.ireturn, 1) := by decide +kernel
theorem dX8_cuts_32 : decode cX8_cuts 32 = .ok (.iload_n 3, 1) := by decide +kernel
theorem dX8_cuts_33 : decode cX8_cuts 33 = .ok (.bipush 16, 2) := by decide +kernel
theorem dX8_cuts_35 : decode cX8_cuts 35 = .ok (.idiv, 1) := by decide +kernel
theorem dX8_cuts_36 : decode cX8_cuts 36 = .ok (.aload_n 0, 1) := by decide +kernel
theorem dX8_cuts_37 : decode cX8_cuts 37 = .ok (.iload_n 1, 1) := by decide +kernel
theorem dX8_cuts_38 : decode cX8_cuts 38 = .ok (.invokevirtual 93, 3) := by decide +kernel
theorem dX8_cuts_41 : decode cX8_cuts 41 = .ok (.if_icmp .ne 49, 3) := by decide +kernel
theorem dX8_cuts_44 : decode cX8_cuts 44 = .ok (.aload_n 0, 1) := by decide +kernel
theorem dX8_cuts_45 : decode cX8_cuts 45 = .ok (.iload_n 1, 1) := by decide +kernel
theorem dX8_cuts_46 : decode cX8_cuts 46 = .ok (.iconst 3, 1) := by decide +kernel
theorem dX8_cuts_47 : decode cX8_cuts 47 = .ok (.invokevirtual 49, 3) := by decide +kernel
theorem dX8_cuts_50 : decode cX8_cuts 50 = .ok (.istore 4, 2) := by decide +kernel
theorem dX8_cuts_52 : decode cX8_cuts 52 = .ok (.aload_n 0, 1) := by decide +kernel
theorem dX8_cuts_53 : decode cX8_cuts 53 = .ok (.iload_n 1, 1) := by decide +kernel
theorem dX8_cuts_54 : decode cX8_cuts 54 = .ok (.iconst 1, 1) := by decide +kernel
theorem dX8_cuts_55 : decode cX8_cuts 55 = .ok (.iload_n 3, 1) := by decide +kernel
theorem dX8_cuts_56 : decode cX8_cuts 56 = .ok (.invokevirtual 96, 3) := by decide +kernel
theorem dX8_cuts_59 : decode cX8_cuts 59 = .ok (.iload_n 3, 1) := by decide +kernel
theorem dX8_cuts_60 : decode cX8_cuts 60 = .ok (.bipush 16, 2) := by decide +kernel
theorem dX8_cuts_62 : decode cX8_cuts 62 = .ok (.irem, 1) := by decide +kernel
theorem dX8_cuts_63 : decode cX8_cuts 63 = .ok (.ifCond .ne 25, 3) := by decide +kernel
theorem dX8_cuts_66 : decode cX8_cuts 66 = .ok (.aload_n 0, 1) := by decide +kernel
theorem dX8_cuts_67 : decode cX8_cuts 67 = .ok (.iload_n 1, 1) := by decide +kernel
theorem dX8_cuts_68 : decode cX8_cuts 68 = .ok (.iconst 3, 1) := by decide +kernel
theorem dX8_cuts_69 : decode cX8_cuts 69 = .ok (.iconst (-1), 1) := by decide +kernel
theorem dX8_cuts_70 : decode cX8_cuts 70 = .ok (.invokevirtual 96, 3) := by decide +kernel
theorem dX8_cuts_73 : decode cX8_cuts 73 = .ok (.aload_n 0, 1) := by decide +kernel
theorem dX8_cuts_74 : decode cX8_cuts 74 = .ok (.iload_n 1, 1) := by decide +kernel
theorem dX8_cuts_75 : decode cX8_cuts 75 = .ok (.iconst 4, 1) := by decide +kernel
theorem dX8_cuts_76 : decode cX8_cuts 76 = .ok (.iconst (-1), 1) := by decide +kernel
theorem dX8_cuts_77 : decode cX8_cuts 77 = .ok (.invokevirtual 96, 3) := by decide +kernel
theorem dX8_cuts_80 : decode cX8_cuts 80 = .ok (.aload_n 0, 1) := by decide +kernel
theorem dX8_cuts_81 : decode cX8_cuts 81 = .ok (.iload 4, 2) := by decide +kernel
theorem dX8_cuts_83 : decode cX8_cuts 83 = .ok (.invokevirtual 100, 3) := by decide +kernel
theorem dX8_cuts_86 : decode cX8_cuts 86 = .ok (.istore 5, 2) := by decide +kernel
theorem dX8_cuts_88 : decode cX8_cuts 88 = .ok (.iload_n 3, 1) := by decide +kernel
theorem dX8_cuts_89 : decode cX8_cuts 89 = .ok (.ireturn, 1) := by decide +kernel
theorem dX8_cuts_90 : decode cX8_cuts 90 = .ok (.aload_n 0, 1) := by decide +kernel
theorem dX8_cuts_91 : decode cX8_cuts 91 = .ok (.iload_n 1, 1) := by decide +kernel
theorem dX8_cuts_92 : decode cX8_cuts 92 = .ok (.invokevirtual 127, 3) := by decide +kernel
theorem dX8_cuts_95 : decode cX8_cuts 95 = .ok (.aload_n 0, 1) := by decide +kernel
theorem dX8_cuts_96 : decode cX8_cuts 96 = .ok (.iload_n 1, 1) := by decide +kernel
theorem dX8_cuts_97 : decode cX8_cuts 97 = .ok (.invokevirtual 93, 3) := by decide +kernel
theorem dX8_cuts_100 : decode cX8_cuts 100 = .ok (.iload_n 3, 1) := by decide +kernel
theorem dX8_cuts_101 : decode cX8_cuts 101 = .ok (.bipush 16, 2) := by decide +kernel
theorem dX8_cuts_103 : decode cX8_cuts 103 = .ok (.idiv, 1) := by decide +kernel
theorem dX8_cuts_104 : decode cX8_cuts 104 = .ok (.if_icmp .le 44, 3) := by decide +kernel
theorem dX8_cuts_107 : decode cX8_cuts 107 = .ok (.aload_n 0, 1) := by decide +kernel
theorem dX8_cuts_108 : decode cX8_cuts 108 = .ok (.getfield 7, 3) := by decide +kernel
theorem dX8_cuts_111 : decode cX8_cuts 111 = .ok (.iconst 3, 1) := by decide +kernel
theorem dX8_cuts_112 : decode cX8_cuts 112 = .ok (.aload_n 0, 1) := by decide +kernel
theorem dX8_cuts_113 : decode cX8_cuts 113 = .ok (.iload_n 1, 1) := by decide +kernel
theorem dX8_cuts_114 : decode cX8_cuts 114 = .ok (.bipush 6, 2) := by decide +kernel
theorem dX8_cuts_116 : decode cX8_cuts 116 = .ok (.aload_n 0, 1) := by decide +kernel
theorem dX8_cuts_117 : decode cX8_cuts 117 = .ok (.iload_n 1, 1) := by decide +kernel
theorem dX8_cuts_118 : decode cX8_cuts 118 = .ok (.invokevirtual 93, 3) := by decide +kernel
theorem dX8_cuts_121 : decode cX8_cuts 121 = .ok (.iadd, 1) := by decide +kernel
theorem dX8_cuts_122 : decode cX8_cuts 122 = .ok (.iconst 1, 1) := by decide +kernel
theorem dX8_cuts_123 : decode cX8_cuts 123 = .ok (.isub, 1) := by decide +kernel
theorem dX8_cuts_124 : decode cX8_cuts 124 = .ok (.invokevirtual 49, 3) := by decide +kernel
theorem dX8_cuts_127 : decode cX8_cuts 127 = .ok (.iadd, 1) := by decide +kernel
theorem dX8_cuts_128 : decode cX8_cuts 128 = .ok (.iconst 0, 1) := by decide +kernel
theorem dX8_cuts_129 : decode cX8_cuts 129 = .ok (.iastore, 1) := by decide +kernel
theorem dX8_cuts_130 : decode cX8_cuts 130 = .ok (.aload_n 0, 1) := by decide +kernel
theorem dX8_cuts_131 : decode cX8_cuts 131 = .ok (.iload_n 1, 1) := by decide +kernel
theorem dX8_cuts_132 : decode cX8_cuts 132 = .ok (.iconst 1, 1) := by decide +kernel
theorem dX8_cuts_133 : decode cX8_cuts 133 = .ok (.aload_n 0, 1) := by decide +kernel
theorem dX8_cuts_134 : decode cX8_cuts 134 = .ok (.iload_n 1, 1) := by decide +kernel
theorem dX8_cuts_135 : decode cX8_cuts 135 = .ok (.iconst 1, 1) := by decide +kernel
theorem dX8_cuts_136 : decode cX8_cuts 136 = .ok (.invokevirtual 49, 3) := by decide +kernel
theorem dX8_cuts_139 : decode cX8_cuts 139 = .ok (.bipush 16, 2) := by decide +kernel
theorem dX8_cuts_141 : decode cX8_cuts 141 = .ok (.isub, 1) := by decide +kernel
theorem dX8_cuts_142 : decode cX8_cuts 142 = .ok (.invokevirtual 96, 3) := by decide +kernel
theorem dX8_cuts_145 : decode cX8_cuts 145 = .ok (.goto (-50), 3) := by decide +kernel
theorem dX8_cuts_148 : decode cX8_cuts 148 = .ok (.aload_n 0, 1) := by decide +kernel
theorem dX8_cuts_149 : decode cX8_cuts 149 = .ok (.iload_n 1, 1) := by decide +kernel
theorem dX8_cuts_150 : decode cX8_cuts 150 = .ok (.iload_n 3, 1) := by decide +kernel
theorem dX8_cuts_151 : decode cX8_cuts 151 = .ok (.bipush 16, 2) := by decide +kernel
theorem dX8_cuts_153 : decode cX8_cuts 153 = .ok (.irem, 1) := by decide +kernel
theorem dX8_cuts_154 : decode cX8_cuts 154 = .ok (.invokevirtual 121, 3) := by decide +kernel
theorem dX8_cuts_157 : decode cX8_cuts 157 = .ok (.ifCond .eq 7, 3) := by decide +kernel
theorem dX8_cuts_160 : decode cX8_cuts 160 = .ok (.iload_n 3, 1) := by decide +kernel
theorem dX8_cuts_161 : decode cX8_cuts 161 = .ok (.goto 7, 3) := by decide +kernel
theorem dX8_cuts_164 : decode cX8_cuts 164 = .ok (.aload_n 0, 1) := by decide +kernel
theorem dX8_cuts_165 : decode cX8_cuts 165 = .ok (.invokevirtual 115, 3) := by decide +kernel
theorem dX8_cuts_168 : decode cX8_cuts 168 = .ok (.ireturn, 1) := by decide +kernel
theorem dX8_deletes_0 : decode cX8_deletes 0 = .ok (.iconst 0, 1) := by decide +kernel
theorem dX8_deletes_1 : decode cX8_deletes 1 = .ok (.istore_n 2, 1) := by decide +kernel
theorem dX8_deletes_2 : decode cX8_deletes 2 = .ok (.iconst 0, 1) := by decide +kernel
theorem dX8_deletes_3 : decode cX8_deletes 3 = .ok (.istore_n 3, 1) := by decide +kernel
theorem dX8_deletes_4 : decode cX8_deletes 4 = .ok (.iload_n 3, 1) := by decide +kernel
theorem dX8_deletes_5 : decode cX8_deletes 5 = .ok (.aload_n 0, 1) := by decide +kernel
theorem dX8_deletes_6 : decode cX8_deletes 6 = .ok (.iload_n 1, 1) := by decide +kernel
theorem dX8_deletes_7 : decode cX8_deletes 7 = .ok (.invokevirtual 93, 3) := by decide +kernel
theorem dX8_deletes_10 : decode cX8_deletes 10 = .ok (.if_icmp .ge 76, 3) := by decide +kernel
theorem dX8_deletes_13 : decode cX8_deletes 13 = .ok (.aload_n 0, 1) := by decide +kernel
theorem dX8_deletes_14 : decode cX8_deletes 14 = .ok (.iload_n 1, 1) := by decide +kernel
theorem dX8_deletes_15 : decode cX8_deletes 15 = .ok (.bipush 6, 2) := by decide +kernel
theorem dX8_deletes_17 : decode cX8_deletes 17 = .ok (.iload_n 3, 1) := by decide +kernel
theorem dX8_deletes_18 : decode cX8_deletes 18 = .ok (.iadd, 1) := by decide +kernel
theorem dX8_deletes_19 : decode cX8_deletes 19 = .ok (.invokevirtual 49, 3) := by decide +kernel
theorem dX8_deletes_22 : decode cX8_deletes 22 = .ok (.istore 4, 2) := by decide +kernel
theorem dX8_deletes_24 : decode cX8_deletes 24 = .ok (.iload_n 2, 1) := by decide +kernel
theorem dX8_deletes_25 : decode cX8_deletes 25 = .ok (.aload_n 0, 1) := by decide +kernel
theorem dX8_deletes_26 : decode cX8_deletes 26 = .ok (.getfield 7, 3) := by decide +kernel
theorem dX8_deletes_29 : decode cX8_deletes 29 = .ok (.iconst 3, 1) := by decide +kernel
theorem dX8_deletes_30 : decode cX8_deletes 30 = .ok (.iload 4, 2) := by decide +kernel
theorem dX8_deletes_32 : decode cX8_deletes 32 = .ok (.iadd, 1) := by decide +kernel
theorem dX8_deletes_33 : decode cX8_deletes 33 = .ok (.iaload, 1) := by decide +kernel
theorem dX8_deletes_34 : decode cX8_deletes 34 = .ok (.iconst 1, 1) := by decide +kernel
theorem dX8_deletes_35 : decode cX8_deletes 35 = .ok (.if_icmp .ne 7, 3) := by decide +kernel
theorem dX8_deletes_38 : decode cX8_deletes 38 = .ok (.iconst 1, 1) := by decide +kernel
theorem dX8_deletes_39 : decode cX8_deletes 39 = .ok (.goto 4, 3) := by decide +kernel
theorem dX8_deletes_42 : decode cX8_deletes 42 = .ok (.iconst 0, 1) := by decide +kernel
theorem dX8_deletes_43 : decode cX8_deletes 43 = .ok (.iadd, 1) := by decide +kernel
theorem dX8_deletes_44 : decode cX8_deletes 44 = .ok (.istore_n 2, 1) := by decide +kernel
theorem dX8_deletes_45 : decode cX8_deletes 45 = .ok (.aload_n 0, 1) := by decide +kernel
theorem dX8_deletes_46 : decode cX8_deletes 46 = .ok (.getfield 7, 3) := by decide +kernel
theorem dX8_deletes_49 : decode cX8_deletes 49 = .ok (.iconst 3, 1) := by decide +kernel
theorem dX8_deletes_50 : decode cX8_deletes 50 = .ok (.iload 4, 2) := by decide +kernel
theorem dX8_deletes_52 : decode cX8_deletes 52 = .ok (.iadd, 1) := by decide +kernel
theorem dX8_deletes_53 : decode cX8_deletes 53 = .ok (.aload_n 0, 1) := by decide +kernel
theorem dX8_deletes_54 : decode cX8_deletes 54 = .ok (.getfield 7, 3) := by decide +kernel
theorem dX8_deletes_57 : decode cX8_deletes 57 = .ok (.iconst 3, 1) := by decide +kernel
theorem dX8_deletes_58 : decode cX8_deletes 58 = .ok (.iload 4, 2) := by decide +kernel
theorem dX8_deletes_60 : decode cX8_deletes 60 = .ok (.iadd, 1) := by decide +kernel
theorem dX8_deletes_61 : decode cX8_deletes 61 = .ok (.iaload, 1) := by decide +kernel
theorem dX8_deletes_62 : decode cX8_deletes 62 = .ok (.iconst 1, 1) := by decide +kernel
theorem dX8_deletes_63 : decode cX8_deletes 63 = .ok (.if_icmp .ne 7, 3) := by decide +kernel
theorem dX8_deletes_66 : decode cX8_deletes 66 = .ok (.iconst 0, 1) := by decide +kernel
theorem dX8_deletes_67 : decode cX8_deletes 67 = .ok (.goto 12, 3) := by decide +kernel
theorem dX8_deletes_70 : decode cX8_deletes 70 = .ok (.aload_n 0, 1) := by decide +kernel
theorem dX8_deletes_71 : decode cX8_deletes 71 = .ok (.getfield 7, 3) := by decide +kernel
theorem dX8_deletes_74 : decode cX8_deletes 74 = .ok (.iconst 3, 1) := by decide +kernel
theorem dX8_deletes_75 : decode cX8_deletes 75 = .ok (.iload 4, 2) := by decide +kernel
theorem dX8_deletes_77 : decode cX8_deletes 77 = .ok (.iadd, 1) := by decide +kernel
theorem dX8_deletes_78 : decode cX8_deletes 78 = .ok (.iaload, 1) := by decide +kernel
theorem dX8_deletes_79 : decode cX8_deletes 79 = .ok (.iastore, 1) := by decide +kernel
theorem dX8_deletes_80 : decode cX8_deletes 80 = .ok (.iinc 3 1, 3) := by decide +kernel
theorem dX8_deletes_83 : decode cX8_deletes 83 = .ok (.goto (-79), 3) := by decide +kernel
theorem dX8_deletes_86 : decode cX8_deletes 86 = .ok (.aload_n 0, 1) := by decide +kernel
theorem dX8_deletes_87 : decode cX8_deletes 87 = .ok (.iload_n 1, 1) := by decide +kernel
theorem dX8_deletes_88 : decode cX8_deletes 88 = .ok (.invokevirtual 57, 3) := by decide +kernel
theorem dX8_deletes_91 : decode cX8_deletes 91 = .ok (.ifCond .le 12, 3) := by decide +kernel
theorem dX8_deletes_94 : decode cX8_deletes 94 = .ok (.aload_n 0, 1) := by decide +kernel
theorem dX8_deletes_95 : decode cX8_deletes 95 = .ok (.iload_n 1, 1) := by decide +kernel
theorem dX8_deletes_96 : decode cX8_deletes 96 = .ok (.iconst 3, 1) := by decide +kernel
theorem dX8_deletes_97 : decode cX8_deletes 97 = .ok (.invokevirtual 49, 3) := by decide +kernel
theorem dX8_deletes_100 : decode cX8_deletes 100 = .ok (.goto 4, 3) := by decide +kernel
theorem dX8_deletes_103 : decode cX8_deletes 103 = .ok (.iconst (-1), 1) := by decide +kernel
theorem dX8_deletes_104 : decode cX8_deletes 104 = .ok (.istore_n 3, 1) := by decide +kernel
theorem dX8_deletes_105 : decode cX8_deletes 105 = .ok (.iconst 0, 1) := by decide +kernel
theorem dX8_deletes_106 : decode cX8_deletes 106 = .ok (.istore 4, 2) := by decide +kernel
theorem dX8_deletes_108 : decode cX8_deletes 108 = .ok (.iload 4, 2) := by decide +kernel
theorem dX8_deletes_110 : decode cX8_deletes 110 = .ok (.bipush 18, 2) := by decide +kernel
theorem dX8_deletes_112 : decode cX8_deletes 112 = .ok (.if_icmp .ge 17, 3) := by decide +kernel
theorem dX8_deletes_115 : decode cX8_deletes 115 = .ok (.aload_n 0, 1) := by decide +kernel
theorem dX8_deletes_116 : decode cX8_deletes 116 = .ok (.iload_n 1, 1) := by decide +kernel
theorem dX8_deletes_117 : decode cX8_deletes 117 = .ok (.iload 4, 2) := by decide +kernel
theorem dX8_deletes_119 : decode cX8_deletes 119 = .ok (.iconst 0, 1) := by decide +kernel
theorem dX8_deletes_120 : decode cX8_deletes 120 = .ok (.invokevirtual 96, 3) := by decide +kernel
theorem dX8_deletes_123 : decode cX8_deletes 123 = .ok (.iinc 4 1, 3) := by decide +kernel
theorem dX8_deletes_126 : decode cX8_deletes 126 = .ok (.goto (-18), 3) := by decide +kernel
theorem dX8_deletes_129 : decode cX8_deletes 129 = .ok (.iload_n 2, 1) := by decide +kernel
theorem dX8_deletes_130 : decode cX8_deletes 130 = .ok (.iload_n 3, 1) := by decide +kernel
theorem dX8_deletes_131 : decode cX8_deletes 131 = .ok (.iconst (-1), 1) := by decide +kernel
theorem dX8_deletes_132 : decode cX8_deletes 132 = .ok (.if_icmp .ne 7, 3) := by decide +kernel
theorem dX8_deletes_135 : decode cX8_deletes 135 = .ok (.iconst 0, 1) := by decide +kernel
theorem dX8_deletes_136 : decode cX8_deletes 136 = .ok (.goto 8, 3) := by decide +kernel
theorem dX8_deletes_139 : decode cX8_deletes 139 = .ok (.aload_n 0, 1) := by decide +kernel
theorem dX8_deletes_140 : decode cX8_deletes 140 = .ok (.iload_n 3, 1) := by decide +kernel
theorem dX8_deletes_141 : decode cX8_deletes 141 = .ok (.invokevirtual 100, 3) := by decide +kernel
theorem dX8_deletes_144 : decode cX8_deletes 144 = .ok (.iadd, 1) := by decide +kernel
theorem dX8_deletes_145 : decode cX8_deletes 145 = .ok (.ireturn, 1) := by decide +kernel
theorem dX8_create_0 : decode cX8_create 0 = .ok (.aload_n 0, 1) := by decide +kernel
theorem dX8_create_1 : decode cX8_create 1 = .ok (.iconst 0, 1) := by decide +kernel
theorem dX8_create_2 : decode cX8_create 2 = .ok (.putfield 41, 3) := by decide +kernel
theorem dX8_create_5 : decode cX8_create 5 = .ok (.iload_n 1, 1) := by decide +kernel
theorem dX8_create_6 : decode cX8_create 6 = .ok (.iconst 0, 1) := by decide +kernel
theorem dX8_create_7 : decode cX8_create 7 = .ok (.sipush 200, 3) := by decide +kernel
theorem dX8_create_10 : decode cX8_create 10 = .ok (.invokestatic 45, 3) := by decide +kernel
theorem dX8_create_13 : decode cX8_create 13 = .ok (.ifCond .ne 9, 3) := by decide +kernel
theorem dX8_create_16 : decode cX8_create 16 = .ok (.aload_n 0, 1) := by decide +kernel
theorem dX8_create_17 : decode cX8_create 17 = .ok (.iconst 1, 1) := by decide +kernel
theorem dX8_create_18 : decode cX8_create 18 = .ok (.invokevirtual 81, 3) := by decide +kernel
theorem dX8_create_21 : decode cX8_create 21 = .ok (.ireturn, 1) := by decide +kernel
theorem dX8_create_22 : decode cX8_create 22 = .ok (.aload_n 0, 1) := by decide +kernel
theorem dX8_create_23 : decode cX8_create 23 = .ok (.invokevirtual 87, 3) := by decide +kernel
theorem dX8_create_26 : decode cX8_create 26 = .ok (.aload_n 0, 1) := by decide +kernel
theorem dX8_create_27 : decode cX8_create 27 = .ok (.iload_n 1, 1) := by decide +kernel
theorem dX8_create_28 : decode cX8_create 28 = .ok (.invokevirtual 131, 3) := by decide +kernel
theorem dX8_create_31 : decode cX8_create 31 = .ok (.ireturn, 1) := by decide +kernel
theorem dX8_grow_0 : decode cX8_grow 0 = .ok (.aload_n 0, 1) := by decide +kernel
theorem dX8_grow_1 : decode cX8_grow 1 = .ok (.iconst 0, 1) := by decide +kernel
theorem dX8_grow_2 : decode cX8_grow 2 = .ok (.putfield 41, 3) := by decide +kernel
theorem dX8_grow_5 : decode cX8_grow 5 = .ok (.aload_n 0, 1) := by decide +kernel
theorem dX8_grow_6 : decode cX8_grow 6 = .ok (.iload_n 1, 1) := by decide +kernel
theorem dX8_grow_7 : decode cX8_grow 7 = .ok (.invokevirtual 53, 3) := by decide +kernel
theorem dX8_grow_10 : decode cX8_grow 10 = .ok (.ifCond .ne 9, 3) := by decide +kernel
theorem dX8_grow_13 : decode cX8_grow 13 = .ok (.aload_n 0, 1) := by decide +kernel
theorem dX8_grow_14 : decode cX8_grow 14 = .ok (.iconst 1, 1) := by decide +kernel
theorem dX8_grow_15 : decode cX8_grow 15 = .ok (.invokevirtual 81, 3) := by decide +kernel
theorem dX8_grow_18 : decode cX8_grow 18 = .ok (.ireturn, 1) := by decide +kernel
theorem dX8_grow_19 : decode cX8_grow 19 = .ok (.iload_n 2, 1) := by decide +kernel
theorem dX8_grow_20 : decode cX8_grow 20 = .ok (.iconst 1, 1) := by decide +kernel
theorem dX8_grow_21 : decode cX8_grow 21 = .ok (.sipush 200, 3) := by decide +kernel
theorem dX8_grow_24 : decode cX8_grow 24 = .ok (.invokestatic 45, 3) := by decide +kernel
theorem dX8_grow_27 : decode cX8_grow 27 = .ok (.ifCond .ne 9, 3) := by decide +kernel
theorem dX8_grow_30 : decode cX8_grow 30 = .ok (.aload_n 0, 1) := by decide +kernel
theorem dX8_grow_31 : decode cX8_grow 31 = .ok (.iconst 2, 1) := by decide +kernel
theorem dX8_grow_32 : decode cX8_grow 32 = .ok (.invokevirtual 81, 3) := by decide +kernel
theorem dX8_grow_35 : decode cX8_grow 35 = .ok (.ireturn, 1) := by decide +kernel
theorem dX8_grow_36 : decode cX8_grow 36 = .ok (.aload_n 0, 1) := by decide +kernel
theorem dX8_grow_37 : decode cX8_grow 37 = .ok (.invokevirtual 87, 3) := by decide +kernel
theorem dX8_grow_40 : decode cX8_grow 40 = .ok (.aload_n 0, 1) := by decide +kernel
theorem dX8_grow_41 : decode cX8_grow 41 = .ok (.iload_n 1, 1) := by decide +kernel
theorem dX8_grow_42 : decode cX8_grow 42 = .ok (.iload_n 2, 1) := by decide +kernel
theorem dX8_grow_43 : decode cX8_grow 43 = .ok (.invokevirtual 134, 3) := by decide +kernel
theorem dX8_grow_46 : decode cX8_grow 46 = .ok (.ireturn, 1) := by decide +kernel
theorem dX8_cut_0 : decode cX8_cut 0 = .ok (.aload_n 0, 1) := by decide +kernel
theorem dX8_cut_1 : decode cX8_cut 1 = .ok (.iconst 0, 1) := by decide +kernel
theorem dX8_cut_2 : decode cX8_cut 2 = .ok (.putfield 41, 3) := by decide +kernel
theorem dX8_cut_5 : decode cX8_cut 5 = .ok (.aload_n 0, 1) := by decide +kernel
theorem dX8_cut_6 : decode cX8_cut 6 = .ok (.iload_n 1, 1) := by decide +kernel
theorem dX8_cut_7 : decode cX8_cut 7 = .ok (.invokevirtual 53, 3) := by decide +kernel
theorem dX8_cut_10 : decode cX8_cut 10 = .ok (.ifCond .ne 9, 3) := by decide +kernel
theorem dX8_cut_13 : decode cX8_cut 13 = .ok (.aload_n 0, 1) := by decide +kernel
theorem dX8_cut_14 : decode cX8_cut 14 = .ok (.iconst 1, 1) := by decide +kernel
theorem dX8_cut_15 : decode cX8_cut 15 = .ok (.invokevirtual 81, 3) := by decide +kernel
theorem dX8_cut_18 : decode cX8_cut 18 = .ok (.ireturn, 1) := by decide +kernel
theorem dX8_cut_19 : decode cX8_cut 19 = .ok (.iload_n 2, 1) := by decide +kernel
theorem dX8_cut_20 : decode cX8_cut 20 = .ok (.iconst 1, 1) := by decide +kernel
theorem dX8_cut_21 : decode cX8_cut 21 = .ok (.sipush 200, 3) := by decide +kernel
theorem dX8_cut_24 : decode cX8_cut 24 = .ok (.invokestatic 45, 3) := by decide +kernel
theorem dX8_cut_27 : decode cX8_cut 27 = .ok (.ifCond .ne 9, 3) := by decide +kernel
theorem dX8_cut_30 : decode cX8_cut 30 = .ok (.aload_n 0, 1) := by decide +kernel
theorem dX8_cut_31 : decode cX8_cut 31 = .ok (.iconst 2, 1) := by decide +kernel
theorem dX8_cut_32 : decode cX8_cut 32 = .ok (.invokevirtual 81, 3) := by decide +kernel
theorem dX8_cut_35 : decode cX8_cut 35 = .ok (.ireturn, 1) := by decide +kernel
theorem dX8_cut_36 : decode cX8_cut 36 = .ok (.aload_n 0, 1) := by decide +kernel
theorem dX8_cut_37 : decode cX8_cut 37 = .ok (.invokevirtual 87, 3) := by decide +kernel
theorem dX8_cut_40 : decode cX8_cut 40 = .ok (.aload_n 0, 1) := by decide +kernel
theorem dX8_cut_41 : decode cX8_cut 41 = .ok (.iload_n 1, 1) := by decide +kernel
theorem dX8_cut_42 : decode cX8_cut 42 = .ok (.iload_n 2, 1) := by decide +kernel
theorem dX8_cut_43 : decode cX8_cut 43 = .ok (.invokevirtual 137, 3) := by decide +kernel
theorem dX8_cut_46 : decode cX8_cut 46 = .ok (.ireturn, 1) := by decide +kernel
theorem dX8_delete_0 : decode cX8_delete 0 = .ok (.aload_n 0, 1) := by decide +kernel
theorem dX8_delete_1 : decode cX8_delete 1 = .ok (.iconst 0, 1) := by decide +kernel
theorem dX8_delete_2 : decode cX8_delete 2 = .ok (.putfield 41, 3) := by decide +kernel
theorem dX8_delete_5 : decode cX8_delete 5 = .ok (.aload_n 0, 1) := by decide +kernel
theorem dX8_delete_6 : decode cX8_delete 6 = .ok (.iload_n 1, 1) := by decide +kernel
theorem dX8_delete_7 : decode cX8_delete 7 = .ok (.invokevirtual 53, 3) := by decide +kernel
theorem dX8_delete_10 : decode cX8_delete 10 = .ok (.ifCond .ne 9, 3) := by decide +kernel
theorem dX8_delete_13 : decode cX8_delete 13 = .ok (.aload_n 0, 1) := by decide +kernel
theorem dX8_delete_14 : decode cX8_delete 14 = .ok (.iconst 1, 1) := by decide +kernel
theorem dX8_delete_15 : decode cX8_delete 15 = .ok (.invokevirtual 81, 3) := by decide +kernel
theorem dX8_delete_18 : decode cX8_delete 18 = .ok (.ireturn, 1) := by decide +kernel
theorem dX8_delete_19 : decode cX8_delete 19 = .ok (.aload_n 0, 1) := by decide +kernel
theorem dX8_delete_20 : decode cX8_delete 20 = .ok (.invokevirtual 87, 3) := by decide +kernel
theorem dX8_delete_23 : decode cX8_delete 23 = .ok (.aload_n 0, 1) := by decide +kernel
theorem dX8_delete_24 : decode cX8_delete 24 = .ok (.iload_n 1, 1) := by decide +kernel
theorem dX8_delete_25 : decode cX8_delete 25 = .ok (.invokevirtual 140, 3) := by decide +kernel
theorem dX8_delete_28 : decode cX8_delete 28 = .ok (.ireturn, 1) := by decide +kernel
theorem dX8_hasIn_0 : decode cX8_hasIn 0 = .ok (.aload_n 0, 1) := by decide +kernel
theorem dX8_hasIn_1 : decode cX8_hasIn 1 = .ok (.iload_n 1, 1) := by decide +kernel
theorem dX8_hasIn_2 : decode cX8_hasIn 2 = .ok (.iload_n 2, 1) := by decide +kernel
theorem dX8_hasIn_3 : decode cX8_hasIn 3 = .ok (.invokevirtual 61, 3) := by decide +kernel
theorem dX8_hasIn_6 : decode cX8_hasIn 6 = .ok (.istore_n 3, 1) := by decide +kernel
theorem dX8_hasIn_7 : decode cX8_hasIn 7 = .ok (.iconst 0, 1) := by decide +kernel
theorem dX8_hasIn_8 : decode cX8_hasIn 8 = .ok (.istore 4, 2) := by decide +kernel
theorem dX8_hasIn_10 : decode cX8_hasIn 10 = .ok (.aload_n 0, 1) := by decide +kernel
theorem dX8_hasIn_11 : decode cX8_hasIn 11 = .ok (.iload_n 1, 1) := by decide +kernel
theorem dX8_hasIn_12 : decode cX8_hasIn 12 = .ok (.invokevirtual 53, 3) := by decide +kernel
theorem dX8_hasIn_15 : decode cX8_hasIn 15 = .ok (.ifCond .eq 43, 3) := by decide +kernel
theorem dX8_hasIn_18 : decode cX8_hasIn 18 = .ok (.iload 4, 2) := by decide +kernel
theorem dX8_hasIn_20 : decode cX8_hasIn 20 = .ok (.aload_n 0, 1) := by decide +kernel
theorem dX8_hasIn_21 : decode cX8_hasIn 21 = .ok (.iload_n 1, 1) := by decide +kernel
theorem dX8_hasIn_22 : decode cX8_hasIn 22 = .ok (.invokevirtual 93, 3) := by decide +kernel
theorem dX8_hasIn_25 : decode cX8_hasIn 25 = .ok (.if_icmp .ge 33, 3) := by decide +kernel
theorem dX8_hasIn_28 : decode cX8_hasIn 28 = .ok (.iload_n 3, 1) := by decide +kernel
theorem dX8_hasIn_29 : decode cX8_hasIn 29 = .ok (.ifCond .ne 17, 3) := by decide +kernel
theorem dX8_hasIn_32 : decode cX8_hasIn 32 = .ok (.aload_n 0, 1) := by decide +kernel
theorem dX8_hasIn_33 : decode cX8_hasIn 33 = .ok (.iload_n 1, 1) := by decide +kernel
theorem dX8_hasIn_34 : decode cX8_hasIn 34 = .ok (.bipush 6, 2) := by decide +kernel
theorem dX8_hasIn_36 : decode cX8_hasIn 36 = .ok (.iload 4, 2) := by decide +kernel
theorem dX8_hasIn_38 : decode cX8_hasIn 38 = .ok (.iadd, 1) := by decide +kernel
theorem dX8_hasIn_39 : decode cX8_hasIn 39 = .ok (.invokevirtual 49, 3) := by decide +kernel
theorem dX8_hasIn_42 : decode cX8_hasIn 42 = .ok (.iload_n 2, 1) := by decide +kernel
theorem dX8_hasIn_43 : decode cX8_hasIn 43 = .ok (.if_icmp .ne 7, 3) := by decide +kernel
theorem dX8_hasIn_46 : decode cX8_hasIn 46 = .ok (.iconst 1, 1) := by decide +kernel
theorem dX8_hasIn_47 : decode cX8_hasIn 47 = .ok (.goto 4, 3) := by decide +kernel
theorem dX8_hasIn_50 : decode cX8_hasIn 50 = .ok (.iconst 0, 1) := by decide +kernel
theorem dX8_hasIn_51 : decode cX8_hasIn 51 = .ok (.istore_n 3, 1) := by decide +kernel
theorem dX8_hasIn_52 : decode cX8_hasIn 52 = .ok (.iinc 4 1, 3) := by decide +kernel
theorem dX8_hasIn_55 : decode cX8_hasIn 55 = .ok (.goto (-45), 3) := by decide +kernel
theorem dX8_hasIn_58 : decode cX8_hasIn 58 = .ok (.iload_n 3, 1) := by decide +kernel
theorem dX8_hasIn_59 : decode cX8_hasIn 59 = .ok (.ireturn, 1) := by decide +kernel
theorem dX8_spoil_0 : decode cX8_spoil 0 = .ok (.aload_n 0, 1) := by decide +kernel
theorem dX8_spoil_1 : decode cX8_spoil 1 = .ok (.iconst 0, 1) := by decide +kernel
theorem dX8_spoil_2 : decode cX8_spoil 2 = .ok (.putfield 41, 3) := by decide +kernel
theorem dX8_spoil_5 : decode cX8_spoil 5 = .ok (.iload_n 1, 1) := by decide +kernel
theorem dX8_spoil_6 : decode cX8_spoil 6 = .ok (.iconst 0, 1) := by decide +kernel
theorem dX8_spoil_7 : decode cX8_spoil 7 = .ok (.bipush 23, 2) := by decide +kernel
theorem dX8_spoil_9 : decode cX8_spoil 9 = .ok (.invokestatic 45, 3) := by decide +kernel
theorem dX8_spoil_12 : decode cX8_spoil 12 = .ok (.ifCond .ne 9, 3) := by decide +kernel
theorem dX8_spoil_15 : decode cX8_spoil 15 = .ok (.aload_n 0, 1) := by decide +kernel
theorem dX8_spoil_16 : decode cX8_spoil 16 = .ok (.iconst 1, 1) := by decide +kernel
theorem dX8_spoil_17 : decode cX8_spoil 17 = .ok (.invokevirtual 81, 3) := by decide +kernel
theorem dX8_spoil_20 : decode cX8_spoil 20 = .ok (.ireturn, 1) := by decide +kernel
theorem dX8_spoil_21 : decode cX8_spoil 21 = .ok (.aload_n 0, 1) := by decide +kernel
theorem dX8_spoil_22 : decode cX8_spoil 22 = .ok (.getfield 7, 3) := by decide +kernel
theorem dX8_spoil_25 : decode cX8_spoil 25 = .ok (.iconst 3, 1) := by decide +kernel
theorem dX8_spoil_26 : decode cX8_spoil 26 = .ok (.iload_n 1, 1) := by decide +kernel
theorem dX8_spoil_27 : decode cX8_spoil 27 = .ok (.iadd, 1) := by decide +kernel
theorem dX8_spoil_28 : decode cX8_spoil 28 = .ok (.iaload, 1) := by decide +kernel
theorem dX8_spoil_29 : decode cX8_spoil 29 = .ok (.iconst 3, 1) := by decide +kernel
theorem dX8_spoil_30 : decode cX8_spoil 30 = .ok (.if_icmp .ne 9, 3) := by decide +kernel
theorem dX8_spoil_33 : decode cX8_spoil 33 = .ok (.aload_n 0, 1) := by decide +kernel
theorem dX8_spoil_34 : decode cX8_spoil 34 = .ok (.iconst 2, 1) := by decide +kernel
theorem dX8_spoil_35 : decode cX8_spoil 35 = .ok (.invokevirtual 81, 3) := by decide +kernel
theorem dX8_spoil_38 : decode cX8_spoil 38 = .ok (.ireturn, 1) := by decide +kernel
theorem dX8_spoil_39 : decode cX8_spoil 39 = .ok (.aload_n 0, 1) := by decide +kernel
theorem dX8_spoil_40 : decode cX8_spoil 40 = .ok (.invokevirtual 87, 3) := by decide +kernel
theorem dX8_spoil_43 : decode cX8_spoil 43 = .ok (.iconst 0, 1) := by decide +kernel
theorem dX8_spoil_44 : decode cX8_spoil 44 = .ok (.istore_n 2, 1) := by decide +kernel
theorem dX8_spoil_45 : decode cX8_spoil 45 = .ok (.iconst 0, 1) := by decide +kernel
theorem dX8_spoil_46 : decode cX8_spoil 46 = .ok (.istore_n 3, 1) := by decide +kernel
theorem dX8_spoil_47 : decode cX8_spoil 47 = .ok (.iload_n 3, 1) := by decide +kernel
theorem dX8_spoil_48 : decode cX8_spoil 48 = .ok (.bipush 10, 2) := by decide +kernel
theorem dX8_spoil_50 : decode cX8_spoil 50 = .ok (.if_icmp .ge 37, 3) := by decide +kernel
theorem dX8_spoil_53 : decode cX8_spoil 53 = .ok (.aload_n 0, 1) := by decide +kernel
theorem dX8_spoil_54 : decode cX8_spoil 54 = .ok (.iload_n 3, 1) := by decide +kernel
theorem dX8_spoil_55 : decode cX8_spoil 55 = .ok (.iload_n 1, 1) := by decide +kernel
theorem dX8_spoil_56 : decode cX8_spoil 56 = .ok (.invokevirtual 143, 3) := by decide +kernel
theorem dX8_spoil_59 : decode cX8_spoil 59 = .ok (.ifCond .eq 22, 3) := by decide +kernel
theorem dX8_spoil_62 : decode cX8_spoil 62 = .ok (.aload_n 0, 1) := by decide +kernel
theorem dX8_spoil_63 : decode cX8_spoil 63 = .ok (.iload_n 3, 1) := by decide +kernel
theorem dX8_spoil_64 : decode cX8_spoil 64 = .ok (.iconst 2, 1) := by decide +kernel
theorem dX8_spoil_65 : decode cX8_spoil 65 = .ok (.invokevirtual 49, 3) := by decide +kernel
theorem dX8_spoil_68 : decode cX8_spoil 68 = .ok (.ifCond .ne 13, 3) := by decide +kernel
theorem dX8_spoil_71 : decode cX8_spoil 71 = .ok (.aload_n 0, 1) := by decide +kernel
theorem dX8_spoil_72 : decode cX8_spoil 72 = .ok (.iload_n 3, 1) := by decide +kernel
theorem dX8_spoil_73 : decode cX8_spoil 73 = .ok (.iconst 2, 1) := by decide +kernel
theorem dX8_spoil_74 : decode cX8_spoil 74 = .ok (.iconst 1, 1) := by decide +kernel
theorem dX8_spoil_75 : decode cX8_spoil 75 = .ok (.invokevirtual 96, 3) := by decide +kernel
theorem dX8_spoil_78 : decode cX8_spoil 78 = .ok (.iinc 2 1, 3) := by decide +kernel
theorem dX8_spoil_81 : decode cX8_spoil 81 = .ok (.iinc 3 1, 3) := by decide +kernel
theorem dX8_spoil_84 : decode cX8_spoil 84 = .ok (.goto (-37), 3) := by decide +kernel
theorem dX8_spoil_87 : decode cX8_spoil 87 = .ok (.aload_n 0, 1) := by decide +kernel
theorem dX8_spoil_88 : decode cX8_spoil 88 = .ok (.getfield 7, 3) := by decide +kernel
theorem dX8_spoil_91 : decode cX8_spoil 91 = .ok (.iconst 3, 1) := by decide +kernel
theorem dX8_spoil_92 : decode cX8_spoil 92 = .ok (.iload_n 1, 1) := by decide +kernel
theorem dX8_spoil_93 : decode cX8_spoil 93 = .ok (.iadd, 1) := by decide +kernel
theorem dX8_spoil_94 : decode cX8_spoil 94 = .ok (.iconst 3, 1) := by decide +kernel
theorem dX8_spoil_95 : decode cX8_spoil 95 = .ok (.iastore, 1) := by decide +kernel
theorem dX8_spoil_96 : decode cX8_spoil 96 = .ok (.iload_n 2, 1) := by decide +kernel
theorem dX8_spoil_97 : decode cX8_spoil 97 = .ok (.ireturn, 1) := by decide +kernel
theorem dX8_heal_0 : decode cX8_heal 0 = .ok (.aload_n 0, 1) := by decide +kernel
theorem dX8_heal_1 : decode cX8_heal 1 = .ok (.iconst 0, 1) := by decide +kernel
theorem dX8_heal_2 : decode cX8_heal 2 = .ok (.putfield 41, 3) := by decide +kernel
theorem dX8_heal_5 : decode cX8_heal 5 = .ok (.iload_n 1, 1) := by decide +kernel
theorem dX8_heal_6 : decode cX8_heal 6 = .ok (.iconst 0, 1) := by decide +kernel
theorem dX8_heal_7 : decode cX8_heal 7 = .ok (.bipush 23, 2) := by decide +kernel
theorem dX8_heal_9 : decode cX8_heal 9 = .ok (.invokestatic 45, 3) := by decide +kernel
theorem dX8_heal_12 : decode cX8_heal 12 = .ok (.ifCond .ne 9, 3) := by decide +kernel
theorem dX8_heal_15 : decode cX8_heal 15 = .ok (.aload_n 0, 1) := by decide +kernel
theorem dX8_heal_16 : decode cX8_heal 16 = .ok (.iconst 1, 1) := by decide +kernel
theorem dX8_heal_17 : decode cX8_heal 17 = .ok (.invokevirtual 81, 3) := by decide +kernel
theorem dX8_heal_20 : decode cX8_heal 20 = .ok (.ireturn, 1) := by decide +kernel
theorem dX8_heal_21 : decode cX8_heal 21 = .ok (.aload_n 0, 1) := by decide +kernel
theorem dX8_heal_22 : decode cX8_heal 22 = .ok (.getfield 7, 3) := by decide +kernel
theorem dX8_heal_25 : decode cX8_heal 25 = .ok (.iconst 3, 1) := by decide +kernel
theorem dX8_heal_26 : decode cX8_heal 26 = .ok (.iload_n 1, 1) := by decide +kernel
theorem dX8_heal_27 : decode cX8_heal 27 = .ok (.iadd, 1) := by decide +kernel
theorem dX8_heal_28 : decode cX8_heal 28 = .ok (.iaload, 1) := by decide +kernel
theorem dX8_heal_29 : decode cX8_heal 29 = .ok (.iconst 3, 1) := by decide +kernel
theorem dX8_heal_30 : decode cX8_heal 30 = .ok (.if_icmp .ne 7, 3) := by decide +kernel
theorem dX8_heal_33 : decode cX8_heal 33 = .ok (.iconst 1, 1) := by decide +kernel
theorem dX8_heal_34 : decode cX8_heal 34 = .ok (.goto 4, 3) := by decide +kernel
theorem dX8_heal_37 : decode cX8_heal 37 = .ok (.iconst 0, 1) := by decide +kernel
theorem dX8_heal_38 : decode cX8_heal 38 = .ok (.istore_n 2, 1) := by decide +kernel
theorem dX8_heal_39 : decode cX8_heal 39 = .ok (.iconst 0, 1) := by decide +kernel
theorem dX8_heal_40 : decode cX8_heal 40 = .ok (.istore_n 3, 1) := by decide +kernel
theorem dX8_heal_41 : decode cX8_heal 41 = .ok (.iload_n 3, 1) := by decide +kernel
theorem dX8_heal_42 : decode cX8_heal 42 = .ok (.bipush 10, 2) := by decide +kernel
theorem dX8_heal_44 : decode cX8_heal 44 = .ok (.if_icmp .ge 28, 3) := by decide +kernel
theorem dX8_heal_47 : decode cX8_heal 47 = .ok (.iload_n 2, 1) := by decide +kernel
theorem dX8_heal_48 : decode cX8_heal 48 = .ok (.ifCond .eq 16, 3) := by decide +kernel
theorem dX8_heal_51 : decode cX8_heal 51 = .ok (.aload_n 0, 1) := by decide +kernel
theorem dX8_heal_52 : decode cX8_heal 52 = .ok (.iload_n 3, 1) := by decide +kernel
theorem dX8_heal_53 : decode cX8_heal 53 = .ok (.iload_n 1, 1) := by decide +kernel
theorem dX8_heal_54 : decode cX8_heal 54 = .ok (.invokevirtual 143, 3) := by decide +kernel
theorem dX8_heal_57 : decode cX8_heal 57 = .ok (.ifCond .ne 7, 3) := by decide +kernel
theorem dX8_heal_60 : decode cX8_heal 60 = .ok (.iconst 1, 1) := by decide +kernel
theorem dX8_heal_61 : decode cX8_heal 61 = .ok (.goto 4, 3) := by decide +kernel
theorem dX8_heal_64 : decode cX8_heal 64 = .ok (.iconst 0, 1) := by decide +kernel
theorem dX8_heal_65 : decode cX8_heal 65 = .ok (.istore_n 2, 1) := by decide +kernel
theorem dX8_heal_66 : decode cX8_heal 66 = .ok (.iinc 3 1, 3) := by decide +kernel
theorem dX8_heal_69 : decode cX8_heal 69 = .ok (.goto (-28), 3) := by decide +kernel
theorem dX8_heal_72 : decode cX8_heal 72 = .ok (.iload_n 2, 1) := by decide +kernel
theorem dX8_heal_73 : decode cX8_heal 73 = .ok (.ifCond .ne 9, 3) := by decide +kernel
theorem dX8_heal_76 : decode cX8_heal 76 = .ok (.aload_n 0, 1) := by decide +kernel
theorem dX8_heal_77 : decode cX8_heal 77 = .ok (.iconst 2, 1) := by decide +kernel
theorem dX8_heal_78 : decode cX8_heal 78 = .ok (.invokevirtual 81, 3) := by decide +kernel
theorem dX8_heal_81 : decode cX8_heal 81 = .ok (.ireturn, 1) := by decide +kernel
theorem dX8_heal_82 : decode cX8_heal 82 = .ok (.aload_n 0, 1) := by decide +kernel
theorem dX8_heal_83 : decode cX8_heal 83 = .ok (.invokevirtual 87, 3) := by decide +kernel
theorem dX8_heal_86 : decode cX8_heal 86 = .ok (.aload_n 0, 1) := by decide +kernel
theorem dX8_heal_87 : decode cX8_heal 87 = .ok (.getfield 7, 3) := by decide +kernel
theorem dX8_heal_90 : decode cX8_heal 90 = .ok (.iconst 3, 1) := by decide +kernel
theorem dX8_heal_91 : decode cX8_heal 91 = .ok (.iload_n 1, 1) := by decide +kernel
theorem dX8_heal_92 : decode cX8_heal 92 = .ok (.iadd, 1) := by decide +kernel
theorem dX8_heal_93 : decode cX8_heal 93 = .ok (.iconst 0, 1) := by decide +kernel
theorem dX8_heal_94 : decode cX8_heal 94 = .ok (.iastore, 1) := by decide +kernel
theorem dX8_heal_95 : decode cX8_heal 95 = .ok (.aload_n 0, 1) := by decide +kernel
theorem dX8_heal_96 : decode cX8_heal 96 = .ok (.iconst 3, 1) := by decide +kernel
theorem dX8_heal_97 : decode cX8_heal 97 = .ok (.invokevirtual 146, 3) := by decide +kernel
theorem dX8_heal_100 : decode cX8_heal 100 = .ok (.ireturn, 1) := by decide +kernel
theorem dX8_isPacked_0 : decode cX8_isPacked 0 = .ok (.aload_n 0, 1) := by decide +kernel
theorem dX8_isPacked_1 : decode cX8_isPacked 1 = .ok (.iload_n 1, 1) := by decide +kernel
theorem dX8_isPacked_2 : decode cX8_isPacked 2 = .ok (.invokevirtual 53, 3) := by decide +kernel
theorem dX8_isPacked_5 : decode cX8_isPacked 5 = .ok (.ifCond .eq 24, 3) := by decide +kernel
theorem dX8_isPacked_8 : decode cX8_isPacked 8 = .ok (.aload_n 0, 1) := by decide +kernel
theorem dX8_isPacked_9 : decode cX8_isPacked 9 = .ok (.iload_n 1, 1) := by decide +kernel
theorem dX8_isPacked_10 : decode cX8_isPacked 10 = .ok (.iconst 2, 1) := by decide +kernel
theorem dX8_isPacked_11 : decode cX8_isPacked 11 = .ok (.invokevirtual 49, 3) := by decide +kernel
theorem dX8_isPacked_14 : decode cX8_isPacked 14 = .ok (.ifCond .ne 15, 3) := by decide +kernel
theorem dX8_isPacked_17 : decode cX8_isPacked 17 = .ok (.aload_n 0, 1) := by decide +kernel
theorem dX8_isPacked_18 : decode cX8_isPacked 18 = .ok (.iload_n 1, 1) := by decide +kernel
theorem dX8_isPacked_19 : decode cX8_isPacked 19 = .ok (.invokevirtual 57, 3) := by decide +kernel
theorem dX8_isPacked_22 : decode cX8_isPacked 22 = .ok (.ifCond .le 7, 3) := by decide +kernel
theorem dX8_isPacked_25 : decode cX8_isPacked 25 = .ok (.iconst 1, 1) := by decide +kernel
theorem dX8_isPacked_26 : decode cX8_isPacked 26 = .ok (.goto 4, 3) := by decide +kernel
theorem dX8_isPacked_29 : decode cX8_isPacked 29 = .ok (.iconst 0, 1) := by decide +kernel
theorem dX8_isPacked_30 : decode cX8_isPacked 30 = .ok (.ireturn, 1) := by decide +kernel
theorem dX8_sort_0 : decode cX8_sort 0 = .ok (.iconst 0, 1) := by decide +kernel
theorem dX8_sort_1 : decode cX8_sort 1 = .ok (.istore_n 1, 1) := by decide +kernel
theorem dX8_sort_2 : decode cX8_sort 2 = .ok (.bipush 15, 2) := by decide +kernel
theorem dX8_sort_4 : decode cX8_sort 4 = .ok (.istore_n 2, 1) := by decide +kernel
theorem dX8_sort_5 : decode cX8_sort 5 = .ok (.iload_n 2, 1) := by decide +kernel
theorem dX8_sort_6 : decode cX8_sort 6 = .ok (.ifCond .le 50, 3) := by decide +kernel
theorem dX8_sort_9 : decode cX8_sort 9 = .ok (.iconst 0, 1) := by decide +kernel
theorem dX8_sort_10 : decode cX8_sort 10 = .ok (.istore_n 3, 1) := by decide +kernel
theorem dX8_sort_11 : decode cX8_sort 11 = .ok (.iload_n 3, 1) := by decide +kernel
theorem dX8_sort_12 : decode cX8_sort 12 = .ok (.bipush 10, 2) := by decide +kernel
theorem dX8_sort_14 : decode cX8_sort 14 = .ok (.if_icmp .ge 36, 3) := by decide +kernel
theorem dX8_sort_17 : decode cX8_sort 17 = .ok (.aload_n 0, 1) := by decide +kernel
theorem dX8_sort_18 : decode cX8_sort 18 = .ok (.iload_n 3, 1) := by decide +kernel
theorem dX8_sort_19 : decode cX8_sort 19 = .ok (.invokevirtual 149, 3) := by decide +kernel
theorem dX8_sort_22 : decode cX8_sort 22 = .ok (.ifCond .eq 22, 3) := by decide +kernel
theorem dX8_sort_25 : decode cX8_sort 25 = .ok (.aload_n 0, 1) := by decide +kernel
theorem dX8_sort_26 : decode cX8_sort 26 = .ok (.iload_n 3, 1) := by decide +kernel
theorem dX8_sort_27 : decode cX8_sort 27 = .ok (.invokevirtual 57, 3) := by decide +kernel
theorem dX8_sort_30 : decode cX8_sort 30 = .ok (.iload_n 2, 1) := by decide +kernel
theorem dX8_sort_31 : decode cX8_sort 31 = .ok (.if_icmp .ne 13, 3) := by decide +kernel
theorem dX8_sort_34 : decode cX8_sort 34 = .ok (.aload_n 0, 1) := by decide +kernel
theorem dX8_sort_35 : decode cX8_sort 35 = .ok (.getfield 35, 3) := by decide +kernel
theorem dX8_sort_38 : decode cX8_sort 38 = .ok (.iload_n 1, 1) := by decide +kernel
theorem dX8_sort_39 : decode cX8_sort 39 = .ok (.iload_n 3, 1) := by decide +kernel
theorem dX8_sort_40 : decode cX8_sort 40 = .ok (.iastore, 1) := by decide +kernel
theorem dX8_sort_41 : decode cX8_sort 41 = .ok (.iinc 1 1, 3) := by decide +kernel
theorem dX8_sort_44 : decode cX8_sort 44 = .ok (.iinc 3 1, 3) := by decide +kernel
theorem dX8_sort_47 : decode cX8_sort 47 = .ok (.goto (-36), 3) := by decide +kernel
theorem dX8_sort_50 : decode cX8_sort 50 = .ok (.iinc 2 (-1), 3) := by decide +kernel
theorem dX8_sort_53 : decode cX8_sort 53 = .ok (.goto (-48), 3) := by decide +kernel
theorem dX8_sort_56 : decode cX8_sort 56 = .ok (.iload_n 1, 1) := by decide +kernel
theorem dX8_sort_57 : decode cX8_sort 57 = .ok (.ireturn, 1) := by decide +kernel
theorem dX8_holdsBroken_0 : decode cX8_holdsBroken 0 = .ok (.iconst 0, 1) := by decide +kernel
theorem dX8_holdsBroken_1 : decode cX8_holdsBroken 1 = .ok (.istore_n 2, 1) := by decide +kernel
theorem dX8_holdsBroken_2 : decode cX8_holdsBroken 2 = .ok (.iconst 0, 1) := by decide +kernel
theorem dX8_holdsBroken_3 : decode cX8_holdsBroken 3 = .ok (.istore_n 3, 1) := by decide +kernel
theorem dX8_holdsBroken_4 : decode cX8_holdsBroken 4 = .ok (.iload_n 3, 1) := by decide +kernel
theorem dX8_holdsBroken_5 : decode cX8_holdsBroken 5 = .ok (.bipush 10, 2) := by decide +kernel
theorem dX8_holdsBroken_7 : decode cX8_holdsBroken 7 = .ok (.if_icmp .ge 38, 3) := by decide +kernel
theorem dX8_holdsBroken_10 : decode cX8_holdsBroken 10 = .ok (.iload_n 2, 1) := by decide +kernel
theorem dX8_holdsBroken_11 : decode cX8_holdsBroken 11 = .ok (.ifCond .ne 22, 3) := by decide +kernel
theorem dX8_holdsBroken_14 : decode cX8_holdsBroken 14 = .ok (.aload_n 0, 1) := by decide +kernel
theorem dX8_holdsBroken_15 : decode cX8_holdsBroken 15 = .ok (.iload_n 3, 1) := by decide +kernel
theorem dX8_holdsBroken_16 : decode cX8_holdsBroken 16 = .ok (.iload_n 1, 1) := by decide +kernel
theorem dX8_holdsBroken_17 : decode cX8_holdsBroken 17 = .ok (.invokevirtual 61, 3) := by decide +kernel
theorem dX8_holdsBroken_20 : decode cX8_holdsBroken 20 = .ok (.ifCond .eq 17, 3) := by decide +kernel
theorem dX8_holdsBroken_23 : decode cX8_holdsBroken 23 = .ok (.aload_n 0, 1) := by decide +kernel
theorem dX8_holdsBroken_24 : decode cX8_holdsBroken 24 = .ok (.iload_n 3, 1) := by decide +kernel
theorem dX8_holdsBroken_25 : decode cX8_holdsBroken 25 = .ok (.iconst 2, 1) := by decide +kernel
theorem dX8_holdsBroken_26 : decode cX8_holdsBroken 26 = .ok (.invokevirtual 49, 3) := by decide +kernel
theorem dX8_holdsBroken_29 : decode cX8_holdsBroken 29 = .ok (.iconst 1, 1) := by decide +kernel
theorem dX8_holdsBroken_30 : decode cX8_holdsBroken 30 = .ok (.if_icmp .ne 7, 3) := by decide +kernel
theorem dX8_holdsBroken_33 : decode cX8_holdsBroken 33 = .ok (.iconst 1, 1) := by decide +kernel
theorem dX8_holdsBroken_34 : decode cX8_holdsBroken 34 = .ok (.goto 4, 3) := by decide +kernel
theorem dX8_holdsBroken_37 : decode cX8_holdsBroken 37 = .ok (.iconst 0, 1) := by decide +kernel
theorem dX8_holdsBroken_38 : decode cX8_holdsBroken 38 = .ok (.istore_n 2, 1) := by decide +kernel
theorem dX8_holdsBroken_39 : decode cX8_holdsBroken 39 = .ok (.iinc 3 1, 3) := by decide +kernel
theorem dX8_holdsBroken_42 : decode cX8_holdsBroken 42 = .ok (.goto (-38), 3) := by decide +kernel
theorem dX8_holdsBroken_45 : decode cX8_holdsBroken 45 = .ok (.iload_n 2, 1) := by decide +kernel
theorem dX8_holdsBroken_46 : decode cX8_holdsBroken 46 = .ok (.ireturn, 1) := by decide +kernel
theorem dX8_firstFor_0 : decode cX8_firstFor 0 = .ok (.iconst 0, 1) := by decide +kernel
theorem dX8_firstFor_1 : decode cX8_firstFor 1 = .ok (.istore_n 2, 1) := by decide +kernel
theorem dX8_firstFor_2 : decode cX8_firstFor 2 = .ok (.iload_n 2, 1) := by decide +kernel
theorem dX8_firstFor_3 : decode cX8_firstFor 3 = .ok (.bipush 24, 2) := by decide +kernel
theorem dX8_firstFor_5 : decode cX8_firstFor 5 = .ok (.if_icmp .ge 33, 3) := by decide +kernel
theorem dX8_firstFor_8 : decode cX8_firstFor 8 = .ok (.aload_n 0, 1) := by decide +kernel
theorem dX8_firstFor_9 : decode cX8_firstFor 9 = .ok (.getfield 38, 3) := by decide +kernel
theorem dX8_firstFor_12 : decode cX8_firstFor 12 = .ok (.iload_n 2, 1) := by decide +kernel
theorem dX8_firstFor_13 : decode cX8_firstFor 13 = .ok (.iaload, 1) := by decide +kernel
theorem dX8_firstFor_14 : decode cX8_firstFor 14 = .ok (.ifCond .lt 18, 3) := by decide +kernel
theorem dX8_firstFor_17 : decode cX8_firstFor 17 = .ok (.aload_n 0, 1) := by decide +kernel
theorem dX8_firstFor_18 : decode cX8_firstFor 18 = .ok (.getfield 38, 3) := by decide +kernel
theorem dX8_firstFor_21 : decode cX8_firstFor 21 = .ok (.iload_n 2, 1) := by decide +kernel
theorem dX8_firstFor_22 : decode cX8_firstFor 22 = .ok (.iaload, 1) := by decide +kernel
theorem dX8_firstFor_23 : decode cX8_firstFor 23 = .ok (.iload_n 1, 1) := by decide +kernel
theorem dX8_firstFor_24 : decode cX8_firstFor 24 = .ok (.iadd, 1) := by decide +kernel
theorem dX8_firstFor_25 : decode cX8_firstFor 25 = .ok (.bipush 16, 2) := by decide +kernel
theorem dX8_firstFor_27 : decode cX8_firstFor 27 = .ok (.if_icmp .gt 5, 3) := by decide +kernel
theorem dX8_firstFor_30 : decode cX8_firstFor 30 = .ok (.iload_n 2, 1) := by decide +kernel
theorem dX8_firstFor_31 : decode cX8_firstFor 31 = .ok (.ireturn, 1) := by decide +kernel
theorem dX8_firstFor_32 : decode cX8_firstFor 32 = .ok (.iinc 2 1, 3) := by decide +kernel
theorem dX8_firstFor_35 : decode cX8_firstFor 35 = .ok (.goto (-33), 3) := by decide +kernel
theorem dX8_firstFor_38 : decode cX8_firstFor 38 = .ok (.iconst (-1), 1) := by decide +kernel
theorem dX8_firstFor_39 : decode cX8_firstFor 39 = .ok (.ireturn, 1) := by decide +kernel
theorem dX8_packs_0 : decode cX8_packs 0 = .ok (.aload_n 0, 1) := by decide +kernel
theorem dX8_packs_1 : decode cX8_packs 1 = .ok (.invokevirtual 112, 3) := by decide +kernel
theorem dX8_packs_4 : decode cX8_packs 4 = .ok (.aload_n 0, 1) := by decide +kernel
theorem dX8_packs_5 : decode cX8_packs 5 = .ok (.iconst 2, 1) := by decide +kernel
theorem dX8_packs_6 : decode cX8_packs 6 = .ok (.invokevirtual 146, 3) := by decide +kernel
theorem dX8_packs_9 : decode cX8_packs 9 = .ok (.istore_n 1, 1) := by decide +kernel
theorem dX8_packs_10 : decode cX8_packs 10 = .ok (.aload_n 0, 1) := by decide +kernel
theorem dX8_packs_11 : decode cX8_packs 11 = .ok (.invokevirtual 152, 3) := by decide +kernel
theorem dX8_packs_14 : decode cX8_packs 14 = .ok (.istore_n 2, 1) := by decide +kernel
theorem dX8_packs_15 : decode cX8_packs 15 = .ok (.iconst 0, 1) := by decide +kernel
theorem dX8_packs_16 : decode cX8_packs 16 = .ok (.istore_n 3, 1) := by decide +kernel
theorem dX8_packs_17 : decode cX8_packs 17 = .ok (.iload_n 3, 1) := by decide +kernel
theorem dX8_packs_18 : decode cX8_packs 18 = .ok (.bipush 24, 2) := by decide +kernel
theorem dX8_packs_20 : decode cX8_packs 20 = .ok (.if_icmp .ge 40, 3) := by decide +kernel
theorem dX8_packs_23 : decode cX8_packs 23 = .ok (.aload_n 0, 1) := by decide +kernel
theorem dX8_packs_24 : decode cX8_packs 24 = .ok (.getfield 38, 3) := by decide +kernel
theorem dX8_packs_27 : decode cX8_packs 27 = .ok (.iload_n 3, 1) := by decide +kernel
theorem dX8_packs_28 : decode cX8_packs 28 = .ok (.aload_n 0, 1) := by decide +kernel
theorem dX8_packs_29 : decode cX8_packs 29 = .ok (.getfield 7, 3) := by decide +kernel
theorem dX8_packs_32 : decode cX8_packs 32 = .ok (.iconst 3, 1) := by decide +kernel
theorem dX8_packs_33 : decode cX8_packs 33 = .ok (.iload_n 3, 1) := by decide +kernel
theorem dX8_packs_34 : decode cX8_packs 34 = .ok (.iadd, 1) := by decide +kernel
theorem dX8_packs_35 : decode cX8_packs 35 = .ok (.iaload, 1) := by decide +kernel
theorem dX8_packs_36 : decode cX8_packs 36 = .ok (.iconst 2, 1) := by decide +kernel
theorem dX8_packs_37 : decode cX8_packs 37 = .ok (.if_icmp .ne 15, 3) := by decide +kernel
theorem dX8_packs_40 : decode cX8_packs 40 = .ok (.aload_n 0, 1) := by decide +kernel
theorem dX8_packs_41 : decode cX8_packs 41 = .ok (.iload_n 3, 1) := by decide +kernel
theorem dX8_packs_42 : decode cX8_packs 42 = .ok (.invokevirtual 155, 3) := by decide +kernel
theorem dX8_packs_45 : decode cX8_packs 45 = .ok (.ifCond .ne 7, 3) := by decide +kernel
theorem dX8_packs_48 : decode cX8_packs 48 = .ok (.iconst 0, 1) := by decide +kernel
theorem dX8_packs_49 : decode cX8_packs 49 = .ok (.goto 4, 3) := by decide +kernel
theorem dX8_packs_52 : decode cX8_packs 52 = .ok (.iconst (-1), 1) := by decide +kernel
theorem dX8_packs_53 : decode cX8_packs 53 = .ok (.iastore, 1) := by decide +kernel
theorem dX8_packs_54 : decode cX8_packs 54 = .ok (.iinc 3 1, 3) := by decide +kernel
theorem dX8_packs_57 : decode cX8_packs 57 = .ok (.goto (-40), 3) := by decide +kernel
theorem dX8_packs_60 : decode cX8_packs 60 = .ok (.iconst 0, 1) := by decide +kernel
theorem dX8_packs_61 : decode cX8_packs 61 = .ok (.istore_n 3, 1) := by decide +kernel
theorem dX8_packs_62 : decode cX8_packs 62 = .ok (.iload_n 3, 1) := by decide +kernel
theorem dX8_packs_63 : decode cX8_packs 63 = .ok (.iload_n 2, 1) := by decide +kernel
theorem dX8_packs_64 : decode cX8_packs 64 = .ok (.if_icmp .ge 96, 3) := by decide +kernel
theorem dX8_packs_67 : decode cX8_packs 67 = .ok (.aload_n 0, 1) := by decide +kernel
theorem dX8_packs_68 : decode cX8_packs 68 = .ok (.getfield 35, 3) := by decide +kernel
theorem dX8_packs_71 : decode cX8_packs 71 = .ok (.iload_n 3, 1) := by decide +kernel
theorem dX8_packs_72 : decode cX8_packs 72 = .ok (.iaload, 1) := by decide +kernel
theorem dX8_packs_73 : decode cX8_packs 73 = .ok (.istore 4, 2) := by decide +kernel
theorem dX8_packs_75 : decode cX8_packs 75 = .ok (.aload_n 0, 1) := by decide +kernel
theorem dX8_packs_76 : decode cX8_packs 76 = .ok (.aload_n 0, 1) := by decide +kernel
theorem dX8_packs_77 : decode cX8_packs 77 = .ok (.iload 4, 2) := by decide +kernel
theorem dX8_packs_79 : decode cX8_packs 79 = .ok (.invokevirtual 57, 3) := by decide +kernel
theorem dX8_packs_82 : decode cX8_packs 82 = .ok (.invokevirtual 158, 3) := by decide +kernel
theorem dX8_packs_85 : decode cX8_packs 85 = .ok (.istore 5, 2) := by decide +kernel
theorem dX8_packs_87 : decode cX8_packs 87 = .ok (.iload 5, 2) := by decide +kernel
theorem dX8_packs_89 : decode cX8_packs 89 = .ok (.iconst (-1), 1) := by decide +kernel
theorem dX8_packs_90 : decode cX8_packs 90 = .ok (.if_icmp .ne 9, 3) := by decide +kernel
theorem dX8_packs_93 : decode cX8_packs 93 = .ok (.aload_n 0, 1) := by decide +kernel
theorem dX8_packs_94 : decode cX8_packs 94 = .ok (.invokevirtual 106, 3) := by decide +kernel
theorem dX8_packs_97 : decode cX8_packs 97 = .ok (.iconst (-1), 1) := by decide +kernel
theorem dX8_packs_98 : decode cX8_packs 98 = .ok (.ireturn, 1) := by decide +kernel
theorem dX8_packs_99 : decode cX8_packs 99 = .ok (.aload_n 0, 1) := by decide +kernel
theorem dX8_packs_100 : decode cX8_packs 100 = .ok (.iload 4, 2) := by decide +kernel
theorem dX8_packs_102 : decode cX8_packs 102 = .ok (.iconst 3, 1) := by decide +kernel
theorem dX8_packs_103 : decode cX8_packs 103 = .ok (.iload 5, 2) := by decide +kernel
theorem dX8_packs_105 : decode cX8_packs 105 = .ok (.invokevirtual 96, 3) := by decide +kernel
theorem dX8_packs_108 : decode cX8_packs 108 = .ok (.aload_n 0, 1) := by decide +kernel
theorem dX8_packs_109 : decode cX8_packs 109 = .ok (.iload 4, 2) := by decide +kernel
theorem dX8_packs_111 : decode cX8_packs 111 = .ok (.iconst 4, 1) := by decide +kernel
theorem dX8_packs_112 : decode cX8_packs 112 = .ok (.aload_n 0, 1) := by decide +kernel
theorem dX8_packs_113 : decode cX8_packs 113 = .ok (.getfield 38, 3) := by decide +kernel
theorem dX8_packs_116 : decode cX8_packs 116 = .ok (.iload 5, 2) := by decide +kernel
theorem dX8_packs_118 : decode cX8_packs 118 = .ok (.iaload, 1) := by decide +kernel
theorem dX8_packs_119 : decode cX8_packs 119 = .ok (.invokevirtual 96, 3) := by decide +kernel
theorem dX8_packs_122 : decode cX8_packs 122 = .ok (.aload_n 0, 1) := by decide +kernel
theorem dX8_packs_123 : decode cX8_packs 123 = .ok (.iload 4, 2) := by decide +kernel
theorem dX8_packs_125 : decode cX8_packs 125 = .ok (.iconst 5, 1) := by decide +kernel
theorem dX8_packs_126 : decode cX8_packs 126 = .ok (.aload_n 0, 1) := by decide +kernel
theorem dX8_packs_127 : decode cX8_packs 127 = .ok (.iload 4, 2) := by decide +kernel
theorem dX8_packs_129 : decode cX8_packs 129 = .ok (.iconst 5, 1) := by decide +kernel
theorem dX8_packs_130 : decode cX8_packs 130 = .ok (.invokevirtual 49, 3) := by decide +kernel
theorem dX8_packs_133 : decode cX8_packs 133 = .ok (.iconst 1, 1) := by decide +kernel
theorem dX8_packs_134 : decode cX8_packs 134 = .ok (.iadd, 1) := by decide +kernel
theorem dX8_packs_135 : decode cX8_packs 135 = .ok (.invokevirtual 96, 3) := by decide +kernel
theorem dX8_packs_138 : decode cX8_packs 138 = .ok (.aload_n 0, 1) := by decide +kernel
theorem dX8_packs_139 : decode cX8_packs 139 = .ok (.getfield 38, 3) := by decide +kernel
theorem dX8_packs_142 : decode cX8_packs 142 = .ok (.iload 5, 2) := by decide +kernel
theorem dX8_packs_144 : decode cX8_packs 144 = .ok (.dup2, 1) := by decide +kernel
theorem dX8_packs_145 : decode cX8_packs 145 = .ok (.iaload, 1) := by decide +kernel
theorem dX8_packs_146 : decode cX8_packs 146 = .ok (.aload_n 0, 1) := by decide +kernel
theorem dX8_packs_147 : decode cX8_packs 147 = .ok (.iload 4, 2) := by decide +kernel
theorem dX8_packs_149 : decode cX8_packs 149 = .ok (.invokevirtual 57, 3) := by decide +kernel
theorem dX8_packs_152 : decode cX8_packs 152 = .ok (.iadd, 1) := by decide +kernel
theorem dX8_packs_153 : decode cX8_packs 153 = .ok (.iastore, 1) := by decide +kernel
theorem dX8_packs_154 : decode cX8_packs 154 = .ok (.iinc 3 1, 3) := by decide +kernel
theorem dX8_packs_157 : decode cX8_packs 157 = .ok (.goto (-95), 3) := by decide +kernel
theorem dX8_packs_160 : decode cX8_packs 160 = .ok (.iconst 0, 1) := by decide +kernel
theorem dX8_packs_161 : decode cX8_packs 161 = .ok (.istore_n 3, 1) := by decide +kernel
theorem dX8_packs_162 : decode cX8_packs 162 = .ok (.iload_n 3, 1) := by decide +kernel
theorem dX8_packs_163 : decode cX8_packs 163 = .ok (.bipush 24, 2) := by decide +kernel
theorem dX8_packs_165 : decode cX8_packs 165 = .ok (.if_icmp .ge 16, 3) := by decide +kernel
theorem dX8_packs_168 : decode cX8_packs 168 = .ok (.aload_n 0, 1) := by decide +kernel
theorem dX8_packs_169 : decode cX8_packs 169 = .ok (.iload_n 3, 1) := by decide +kernel
theorem dX8_packs_170 : decode cX8_packs 170 = .ok (.invokevirtual 100, 3) := by decide +kernel
theorem dX8_packs_173 : decode cX8_packs 173 = .ok (.istore 4, 2) := by decide +kernel
theorem dX8_packs_175 : decode cX8_packs 175 = .ok (.iinc 3 1, 3) := by decide +kernel
theorem dX8_packs_178 : decode cX8_packs 178 = .ok (.goto (-16), 3) := by decide +kernel
theorem dX8_packs_181 : decode cX8_packs 181 = .ok (.aload_n 0, 1) := by decide +kernel
theorem dX8_packs_182 : decode cX8_packs 182 = .ok (.getfield 7, 3) := by decide +kernel
theorem dX8_packs_185 : decode cX8_packs 185 = .ok (.iconst 1, 1) := by decide +kernel
theorem dX8_packs_186 : decode cX8_packs 186 = .ok (.dup2, 1) := by decide +kernel
theorem dX8_packs_187 : decode cX8_packs 187 = .ok (.iaload, 1) := by decide +kernel
theorem dX8_packs_188 : decode cX8_packs 188 = .ok (.iconst 1, 1) := by decide +kernel
theorem dX8_packs_189 : decode cX8_packs 189 = .ok (.iadd, 1) := by decide +kernel
theorem dX8_packs_190 : decode cX8_packs 190 = .ok (.iastore, 1) := by decide +kernel
theorem dX8_packs_191 : decode cX8_packs 191 = .ok (.iload_n 1, 1) := by decide +kernel
theorem dX8_packs_192 : decode cX8_packs 192 = .ok (.aload_n 0, 1) := by decide +kernel
theorem dX8_packs_193 : decode cX8_packs 193 = .ok (.iconst 2, 1) := by decide +kernel
theorem dX8_packs_194 : decode cX8_packs 194 = .ok (.invokevirtual 146, 3) := by decide +kernel
theorem dX8_packs_197 : decode cX8_packs 197 = .ok (.isub, 1) := by decide +kernel
theorem dX8_packs_198 : decode cX8_packs 198 = .ok (.ireturn, 1) := by decide +kernel
theorem dX8_pack_0 : decode cX8_pack 0 = .ok (.aload_n 0, 1) := by decide +kernel
theorem dX8_pack_1 : decode cX8_pack 1 = .ok (.iconst 0, 1) := by decide +kernel
theorem dX8_pack_2 : decode cX8_pack 2 = .ok (.putfield 41, 3) := by decide +kernel
theorem dX8_pack_5 : decode cX8_pack 5 = .ok (.aload_n 0, 1) := by decide +kernel
theorem dX8_pack_6 : decode cX8_pack 6 = .ok (.invokevirtual 87, 3) := by decide +kernel
theorem dX8_pack_9 : decode cX8_pack 9 = .ok (.aload_n 0, 1) := by decide +kernel
theorem dX8_pack_10 : decode cX8_pack 10 = .ok (.invokevirtual 161, 3) := by decide +kernel
theorem dX8_pack_13 : decode cX8_pack 13 = .ok (.ireturn, 1) := by decide +kernel
theorem dX8_set_0 : decode cX8_set 0 = .ok (.aload_n 0, 1) := by decide +kernel
theorem dX8_set_1 : decode cX8_set 1 = .ok (.iconst 0, 1) := by decide +kernel
theorem dX8_set_2 : decode cX8_set 2 = .ok (.putfield 41, 3) := by decide +kernel
theorem dX8_set_5 : decode cX8_set 5 = .ok (.iload_n 1, 1) := by decide +kernel
theorem dX8_set_6 : decode cX8_set 6 = .ok (.iconst 0, 1) := by decide +kernel
theorem dX8_set_7 : decode cX8_set 7 = .ok (.iconst 1, 1) := by decide +kernel
theorem dX8_set_8 : decode cX8_set 8 = .ok (.invokestatic 45, 3) := by decide +kernel
theorem dX8_set_11 : decode cX8_set 11 = .ok (.ifCond .ne 9, 3) := by decide +kernel
theorem dX8_set_14 : decode cX8_set 14 = .ok (.aload_n 0, 1) := by decide +kernel
theorem dX8_set_15 : decode cX8_set 15 = .ok (.iconst 1, 1) := by decide +kernel
theorem dX8_set_16 : decode cX8_set 16 = .ok (.invokevirtual 81, 3) := by decide +kernel
theorem dX8_set_19 : decode cX8_set 19 = .ok (.ireturn, 1) := by decide +kernel
theorem dX8_set_20 : decode cX8_set 20 = .ok (.aload_n 0, 1) := by decide +kernel
theorem dX8_set_21 : decode cX8_set 21 = .ok (.invokevirtual 87, 3) := by decide +kernel
theorem dX8_set_24 : decode cX8_set 24 = .ok (.aload_n 0, 1) := by decide +kernel
theorem dX8_set_25 : decode cX8_set 25 = .ok (.getfield 7, 3) := by decide +kernel
theorem dX8_set_28 : decode cX8_set 28 = .ok (.iconst 2, 1) := by decide +kernel
theorem dX8_set_29 : decode cX8_set 29 = .ok (.iaload, 1) := by decide +kernel
theorem dX8_set_30 : decode cX8_set 30 = .ok (.istore_n 2, 1) := by decide +kernel
theorem dX8_set_31 : decode cX8_set 31 = .ok (.aload_n 0, 1) := by decide +kernel
theorem dX8_set_32 : decode cX8_set 32 = .ok (.getfield 7, 3) := by decide +kernel
theorem dX8_set_35 : decode cX8_set 35 = .ok (.iconst 2, 1) := by decide +kernel
theorem dX8_set_36 : decode cX8_set 36 = .ok (.iload_n 1, 1) := by decide +kernel
theorem dX8_set_37 : decode cX8_set 37 = .ok (.iastore, 1) := by decide +kernel
theorem dX8_set_38 : decode cX8_set 38 = .ok (.iload_n 2, 1) := by decide +kernel
theorem dX8_set_39 : decode cX8_set 39 = .ok (.ireturn, 1) := by decide +kernel
theorem dX8_append_0 : decode cX8_append 0 = .ok (.aload_n 0, 1) := by decide +kernel
theorem dX8_append_1 : decode cX8_append 1 = .ok (.iconst 0, 1) := by decide +kernel
theorem dX8_append_2 : decode cX8_append 2 = .ok (.putfield 41, 3) := by decide +kernel
theorem dX8_append_5 : decode cX8_append 5 = .ok (.iload_n 1, 1) := by decide +kernel
theorem dX8_append_6 : decode cX8_append 6 = .ok (.bipush 33, 2) := by decide +kernel
theorem dX8_append_8 : decode cX8_append 8 = .ok (.bipush 126, 2) := by decide +kernel
theorem dX8_append_10 : decode cX8_append 10 = .ok (.invokestatic 45, 3) := by decide +kernel
theorem dX8_append_13 : decode cX8_append 13 = .ok (.ifCond .ne 9, 3) := by decide +kernel
theorem dX8_append_16 : decode cX8_append 16 = .ok (.aload_n 0, 1) := by decide +kernel
theorem dX8_append_17 : decode cX8_append 17 = .ok (.iconst 1, 1) := by decide +kernel
theorem dX8_append_18 : decode cX8_append 18 = .ok (.invokevirtual 81, 3) := by decide +kernel
theorem dX8_append_21 : decode cX8_append 21 = .ok (.ireturn, 1) := by decide +kernel
theorem dX8_append_22 : decode cX8_append 22 = .ok (.aload_n 0, 1) := by decide +kernel
theorem dX8_append_23 : decode cX8_append 23 = .ok (.getfield 164, 3) := by decide +kernel
theorem dX8_append_26 : decode cX8_append 26 = .ok (.bipush 60, 2) := by decide +kernel
theorem dX8_append_28 : decode cX8_append 28 = .ok (.if_icmp .ne 9, 3) := by decide +kernel
theorem dX8_append_31 : decode cX8_append 31 = .ok (.aload_n 0, 1) := by decide +kernel
theorem dX8_append_32 : decode cX8_append 32 = .ok (.iconst 2, 1) := by decide +kernel
theorem dX8_append_33 : decode cX8_append 33 = .ok (.invokevirtual 81, 3) := by decide +kernel
theorem dX8_append_36 : decode cX8_append 36 = .ok (.ireturn, 1) := by decide +kernel
theorem dX8_append_37 : decode cX8_append 37 = .ok (.aload_n 0, 1) := by decide +kernel
theorem dX8_append_38 : decode cX8_append 38 = .ok (.getfield 26, 3) := by decide +kernel
theorem dX8_append_41 : decode cX8_append 41 = .ok (.aload_n 0, 1) := by decide +kernel
theorem dX8_append_42 : decode cX8_append 42 = .ok (.getfield 164, 3) := by decide +kernel
theorem dX8_append_45 : decode cX8_append 45 = .ok (.iload_n 1, 1) := by decide +kernel
theorem dX8_append_46 : decode cX8_append 46 = .ok (.iastore, 1) := by decide +kernel
theorem dX8_append_47 : decode cX8_append 47 = .ok (.aload_n 0, 1) := by decide +kernel
theorem dX8_append_48 : decode cX8_append 48 = .ok (.dup, 1) := by decide +kernel
theorem dX8_append_49 : decode cX8_append 49 = .ok (.getfield 164, 3) := by decide +kernel
theorem dX8_append_52 : decode cX8_append 52 = .ok (.iconst 1, 1) := by decide +kernel
theorem dX8_append_53 : decode cX8_append 53 = .ok (.iadd, 1) := by decide +kernel
theorem dX8_append_54 : decode cX8_append 54 = .ok (.putfield 164, 3) := by decide +kernel
theorem dX8_append_57 : decode cX8_append 57 = .ok (.aload_n 0, 1) := by decide +kernel
theorem dX8_append_58 : decode cX8_append 58 = .ok (.getfield 164, 3) := by decide +kernel
theorem dX8_append_61 : decode cX8_append 61 = .ok (.ireturn, 1) := by decide +kernel
theorem dX8_clearBuffer_0 : decode cX8_clearBuffer 0 = .ok (.aload_n 0, 1) := by decide +kernel
theorem dX8_clearBuffer_1 : decode cX8_clearBuffer 1 = .ok (.iconst 0, 1) := by decide +kernel
theorem dX8_clearBuffer_2 : decode cX8_clearBuffer 2 = .ok (.putfield 41, 3) := by decide +kernel
theorem dX8_clearBuffer_5 : decode cX8_clearBuffer 5 = .ok (.aload_n 0, 1) := by decide +kernel
theorem dX8_clearBuffer_6 : decode cX8_clearBuffer 6 = .ok (.getfield 164, 3) := by decide +kernel
theorem dX8_clearBuffer_9 : decode cX8_clearBuffer 9 = .ok (.istore_n 1, 1) := by decide +kernel
theorem dX8_clearBuffer_10 : decode cX8_clearBuffer 10 = .ok (.aload_n 0, 1) := by decide +kernel
theorem dX8_clearBuffer_11 : decode cX8_clearBuffer 11 = .ok (.iconst 0, 1) := by decide +kernel
theorem dX8_clearBuffer_12 : decode cX8_clearBuffer 12 = .ok (.putfield 164, 3) := by decide +kernel
theorem dX8_clearBuffer_15 : decode cX8_clearBuffer 15 = .ok (.iload_n 1, 1) := by decide +kernel
theorem dX8_clearBuffer_16 : decode cX8_clearBuffer 16 = .ok (.ireturn, 1) := by decide +kernel
theorem dX8_sees_0 : decode cX8_sees 0 = .ok (.aload_n 0, 1) := by decide +kernel
theorem dX8_sees_1 : decode cX8_sees 1 = .ok (.getfield 167, 3) := by decide +kernel
theorem dX8_sees_4 : decode cX8_sees 4 = .ok (.aload_n 0, 1) := by decide +kernel
theorem dX8_sees_5 : decode cX8_sees 5 = .ok (.getfield 164, 3) := by decide +kernel
theorem dX8_sees_8 : decode cX8_sees 8 = .ok (.if_icmp .ge 24, 3) := by decide +kernel
theorem dX8_sees_11 : decode cX8_sees 11 = .ok (.aload_n 0, 1) := by decide +kernel
theorem dX8_sees_12 : decode cX8_sees 12 = .ok (.getfield 26, 3) := by decide +kernel
theorem dX8_sees_15 : decode cX8_sees 15 = .ok (.aload_n 0, 1) := by decide +kernel
theorem dX8_sees_16 : decode cX8_sees 16 = .ok (.getfield 167, 3) := by decide +kernel
theorem dX8_sees_19 : decode cX8_sees 19 = .ok (.iaload, 1) := by decide +kernel
theorem dX8_sees_20 : decode cX8_sees 20 = .ok (.iload_n 1, 1) := by decide +kernel
theorem dX8_sees_21 : decode cX8_sees 21 = .ok (.iload_n 2, 1) := by decide +kernel
theorem dX8_sees_22 : decode cX8_sees 22 = .ok (.invokestatic 45, 3) := by decide +kernel
theorem dX8_sees_25 : decode cX8_sees 25 = .ok (.ifCond .eq 7, 3) := by decide +kernel
theorem dX8_sees_28 : decode cX8_sees 28 = .ok (.iconst 1, 1) := by decide +kernel
theorem dX8_sees_29 : decode cX8_sees 29 = .ok (.goto 4, 3) := by decide +kernel
theorem dX8_sees_32 : decode cX8_sees 32 = .ok (.iconst 0, 1) := by decide +kernel
theorem dX8_sees_33 : decode cX8_sees 33 = .ok (.ireturn, 1) := by decide +kernel
theorem dX8_takes_0 : decode cX8_takes 0 = .ok (.aload_n 0, 1) := by decide +kernel
theorem dX8_takes_1 : decode cX8_takes 1 = .ok (.iload_n 1, 1) := by decide +kernel
theorem dX8_takes_2 : decode cX8_takes 2 = .ok (.iload_n 1, 1) := by decide +kernel
theorem dX8_takes_3 : decode cX8_takes 3 = .ok (.invokevirtual 170, 3) := by decide +kernel
theorem dX8_takes_6 : decode cX8_takes 6 = .ok (.istore_n 2, 1) := by decide +kernel
theorem dX8_takes_7 : decode cX8_takes 7 = .ok (.aload_n 0, 1) := by decide +kernel
theorem dX8_takes_8 : decode cX8_takes 8 = .ok (.dup, 1) := by decide +kernel
theorem dX8_takes_9 : decode cX8_takes 9 = .ok (.getfield 167, 3) := by decide +kernel
theorem dX8_takes_12 : decode cX8_takes 12 = .ok (.iload_n 2, 1) := by decide +kernel
theorem dX8_takes_13 : decode cX8_takes 13 = .ok (.ifCond .eq 7, 3) := by decide +kernel
theorem dX8_takes_16 : decode cX8_takes 16 = .ok (.iconst 1, 1) := by decide +kernel
theorem dX8_takes_17 : decode cX8_takes 17 = .ok (.goto 4, 3) := by decide +kernel
theorem dX8_takes_20 : decode cX8_takes 20 = .ok (.iconst 0, 1) := by decide +kernel
theorem dX8_takes_21 : decode cX8_takes 21 = .ok (.iadd, 1) := by decide +kernel
theorem dX8_takes_22 : decode cX8_takes 22 = .ok (.putfield 167, 3) := by decide +kernel
theorem dX8_takes_25 : decode cX8_takes 25 = .ok (.iload_n 2, 1) := by decide +kernel
theorem dX8_takes_26 : decode cX8_takes 26 = .ok (.ireturn, 1) := by decide +kernel
theorem dX8_digit_0 : decode cX8_digit 0 = .ok (.aload_n 0, 1) := by decide +kernel
theorem dX8_digit_1 : decode cX8_digit 1 = .ok (.bipush 48, 2) := by decide +kernel
theorem dX8_digit_3 : decode cX8_digit 3 = .ok (.iload_n 2, 1) := by decide +kernel
theorem dX8_digit_4 : decode cX8_digit 4 = .ok (.iadd, 1) := by decide +kernel
theorem dX8_digit_5 : decode cX8_digit 5 = .ok (.bipush 57, 2) := by decide +kernel
theorem dX8_digit_7 : decode cX8_digit 7 = .ok (.invokevirtual 170, 3) := by decide +kernel
theorem dX8_digit_10 : decode cX8_digit 10 = .ok (.ifCond .ne 5, 3) := by decide +kernel
theorem dX8_digit_13 : decode cX8_digit 13 = .ok (.iconst 0, 1) := by decide +kernel
theorem dX8_digit_14 : decode cX8_digit 14 = .ok (.ireturn, 1) := by decide +kernel
theorem dX8_digit_15 : decode cX8_digit 15 = .ok (.aload_n 0, 1) := by decide +kernel
theorem dX8_digit_16 : decode cX8_digit 16 = .ok (.getfield 29, 3) := by decide +kernel
theorem dX8_digit_19 : decode cX8_digit 19 = .ok (.iload_n 1, 1) := by decide +kernel
theorem dX8_digit_20 : decode cX8_digit 20 = .ok (.aload_n 0, 1) := by decide +kernel
theorem dX8_digit_21 : decode cX8_digit 21 = .ok (.getfield 26, 3) := by decide +kernel
theorem dX8_digit_24 : decode cX8_digit 24 = .ok (.aload_n 0, 1) := by decide +kernel
theorem dX8_digit_25 : decode cX8_digit 25 = .ok (.getfield 167, 3) := by decide +kernel
theorem dX8_digit_28 : decode cX8_digit 28 = .ok (.iaload, 1) := by decide +kernel
theorem dX8_digit_29 : decode cX8_digit 29 = .ok (.bipush 48, 2) := by decide +kernel
theorem dX8_digit_31 : decode cX8_digit 31 = .ok (.isub, 1) := by decide +kernel
theorem dX8_digit_32 : decode cX8_digit 32 = .ok (.iastore, 1) := by decide +kernel
theorem dX8_digit_33 : decode cX8_digit 33 = .ok (.aload_n 0, 1) := by decide +kernel
theorem dX8_digit_34 : decode cX8_digit 34 = .ok (.dup, 1) := by decide +kernel
theorem dX8_digit_35 : decode cX8_digit 35 = .ok (.getfield 167, 3) := by decide +kernel
theorem dX8_digit_38 : decode cX8_digit 38 = .ok (.iconst 1, 1) := by decide +kernel
theorem dX8_digit_39 : decode cX8_digit 39 = .ok (.iadd, 1) := by decide +kernel
theorem dX8_digit_40 : decode cX8_digit 40 = .ok (.putfield 167, 3) := by decide +kernel
theorem dX8_digit_43 : decode cX8_digit 43 = .ok (.iconst 1, 1) := by decide +kernel
theorem dX8_digit_44 : decode cX8_digit 44 = .ok (.ireturn, 1) := by decide +kernel
theorem dX8_number_0 : decode cX8_number 0 = .ok (.aload_n 0, 1) := by decide +kernel
theorem dX8_number_1 : decode cX8_number 1 = .ok (.iload_n 1, 1) := by decide +kernel
theorem dX8_number_2 : decode cX8_number 2 = .ok (.iload_n 2, 1) := by decide +kernel
theorem dX8_number_3 : decode cX8_number 3 = .ok (.invokevirtual 173, 3) := by decide +kernel
theorem dX8_number_6 : decode cX8_number 6 = .ok (.ifCond .ne 5, 3) := by decide +kernel
theorem dX8_number_9 : decode cX8_number 9 = .ok (.iconst 0, 1) := by decide +kernel
theorem dX8_number_10 : decode cX8_number 10 = .ok (.ireturn, 1) := by decide +kernel
theorem dX8_number_11 : decode cX8_number 11 = .ok (.aload_n 0, 1) := by decide +kernel
theorem dX8_number_12 : decode cX8_number 12 = .ok (.getfield 29, 3) := by decide +kernel
theorem dX8_number_15 : decode cX8_number 15 = .ok (.iload_n 1, 1) := by decide +kernel
theorem dX8_number_16 : decode cX8_number 16 = .ok (.iaload, 1) := by decide +kernel
theorem dX8_number_17 : decode cX8_number 17 = .ok (.ifCond .le 83, 3) := by decide +kernel
theorem dX8_number_20 : decode cX8_number 20 = .ok (.aload_n 0, 1) := by decide +kernel
theorem dX8_number_21 : decode cX8_number 21 = .ok (.bipush 48, 2) := by decide +kernel
theorem dX8_number_23 : decode cX8_number 23 = .ok (.bipush 57, 2) := by decide +kernel
theorem dX8_number_25 : decode cX8_number 25 = .ok (.invokevirtual 170, 3) := by decide +kernel
theorem dX8_number_28 : decode cX8_number 28 = .ok (.ifCond .eq 72, 3) := by decide +kernel
theorem dX8_number_31 : decode cX8_number 31 = .ok (.bipush 10, 2) := by decide +kernel
theorem dX8_number_33 : decode cX8_number 33 = .ok (.aload_n 0, 1) := by decide +kernel
theorem dX8_number_34 : decode cX8_number 34 = .ok (.getfield 29, 3) := by decide +kernel
theorem dX8_number_37 : decode cX8_number 37 = .ok (.iload_n 1, 1) := by decide +kernel
theorem dX8_number_38 : decode cX8_number 38 = .ok (.iaload, 1) := by decide +kernel
theorem dX8_number_39 : decode cX8_number 39 = .ok (.imul, 1) := by decide +kernel
theorem dX8_number_40 : decode cX8_number 40 = .ok (.aload_n 0, 1) := by decide +kernel
theorem dX8_number_41 : decode cX8_number 41 = .ok (.getfield 26, 3) := by decide +kernel
theorem dX8_number_44 : decode cX8_number 44 = .ok (.aload_n 0, 1) := by decide +kernel
theorem dX8_number_45 : decode cX8_number 45 = .ok (.getfield 167, 3) := by decide +kernel
theorem dX8_number_48 : decode cX8_number 48 = .ok (.iaload, 1) := by decide +kernel
theorem dX8_number_49 : decode cX8_number 49 = .ok (.iadd, 1) := by decide +kernel
theorem dX8_number_50 : decode cX8_number 50 = .ok (.bipush 48, 2) := by decide +kernel
theorem dX8_number_52 : decode cX8_number 52 = .ok (.isub, 1) := by decide +kernel
theorem dX8_number_53 : decode cX8_number 53 = .ok (.sipush 200, 3) := by decide +kernel
theorem dX8_number_56 : decode cX8_number 56 = .ok (.if_icmp .gt 44, 3) := by decide +kernel
theorem dX8_number_59 : decode cX8_number 59 = .ok (.aload_n 0, 1) := by decide +kernel
theorem dX8_number_60 : decode cX8_number 60 = .ok (.getfield 29, 3) := by decide +kernel
theorem dX8_number_63 : decode cX8_number 63 = .ok (.iload_n 1, 1) := by decide +kernel
theorem dX8_number_64 : decode cX8_number 64 = .ok (.bipush 10, 2) := by decide +kernel
theorem dX8_number_66 : decode cX8_number 66 = .ok (.aload_n 0, 1) := by decide +kernel
theorem dX8_number_67 : decode cX8_number 67 = .ok (.getfield 29, 3) := by decide +kernel
theorem dX8_number_70 : decode cX8_number 70 = .ok (.iload_n 1, 1) := by decide +kernel
theorem dX8_number_71 : decode cX8_number 71 = .ok (.iaload, 1) := by decide +kernel
theorem dX8_number_72 : decode cX8_number 72 = .ok (.imul, 1) := by decide +kernel
theorem dX8_number_73 : decode cX8_number 73 = .ok (.aload_n 0, 1) := by decide +kernel
theorem dX8_number_74 : decode cX8_number 74 = .ok (.getfield 26, 3) := by decide +kernel
theorem dX8_number_77 : decode cX8_number 77 = .ok (.aload_n 0, 1) := by decide +kernel
theorem dX8_number_78 : decode cX8_number 78 = .ok (.getfield 167, 3) := by decide +kernel
theorem dX8_number_81 : decode cX8_number 81 = .ok (.iaload, 1) := by decide +kernel
theorem dX8_number_82 : decode cX8_number 82 = .ok (.iadd, 1) := by decide +kernel
theorem dX8_number_83 : decode cX8_number 83 = .ok (.bipush 48, 2) := by decide +kernel
theorem dX8_number_85 : decode cX8_number 85 = .ok (.isub, 1) := by decide +kernel
theorem dX8_number_86 : decode cX8_number 86 = .ok (.iastore, 1) := by decide +kernel
theorem dX8_number_87 : decode cX8_number 87 = .ok (.aload_n 0, 1) := by decide +kernel
theorem dX8_number_88 : decode cX8_number 88 = .ok (.dup, 1) := by decide +kernel
theorem dX8_number_89 : decode cX8_number 89 = .ok (.getfield 167, 3) := by decide +kernel
theorem dX8_number_92 : decode cX8_number 92 = .ok (.iconst 1, 1) := by decide +kernel
theorem dX8_number_93 : decode cX8_number 93 = .ok (.iadd, 1) := by decide +kernel
theorem dX8_number_94 : decode cX8_number 94 = .ok (.putfield 167, 3) := by decide +kernel
theorem dX8_number_97 : decode cX8_number 97 = .ok (.goto (-86), 3) := by decide +kernel
theorem dX8_number_100 : decode cX8_number 100 = .ok (.iconst 1, 1) := by decide +kernel
theorem dX8_number_101 : decode cX8_number 101 = .ok (.ireturn, 1) := by decide +kernel
theorem dX8_reads_0 : decode cX8_reads 0 = .ok (.iload_n 1, 1) := by decide +kernel
theorem dX8_reads_1 : decode cX8_reads 1 = .ok (.lookupswitch 41 #[(43, 27), (45, 34)], 27) := by decide +kernel
theorem dX8_reads_28 : decode cX8_reads 28 = .ok (.aload_n 0, 1) := by decide +kernel
theorem dX8_reads_29 : decode cX8_reads 29 = .ok (.iconst 0, 1) := by decide +kernel
theorem dX8_reads_30 : decode cX8_reads 30 = .ok (.iconst 0, 1) := by decide +kernel
theorem dX8_reads_31 : decode cX8_reads 31 = .ok (.invokevirtual 176, 3) := by decide +kernel
theorem dX8_reads_34 : decode cX8_reads 34 = .ok (.ireturn, 1) := by decide +kernel
theorem dX8_reads_35 : decode cX8_reads 35 = .ok (.aload_n 0, 1) := by decide +kernel
theorem dX8_reads_36 : decode cX8_reads 36 = .ok (.iconst 0, 1) := by decide +kernel
theorem dX8_reads_37 : decode cX8_reads 37 = .ok (.iconst 0, 1) := by decide +kernel
theorem dX8_reads_38 : decode cX8_reads 38 = .ok (.invokevirtual 173, 3) := by decide +kernel
theorem dX8_reads_41 : decode cX8_reads 41 = .ok (.ireturn, 1) := by decide +kernel
theorem dX8_reads_42 : decode cX8_reads 42 = .ok (.aload_n 0, 1) := by decide +kernel
theorem dX8_reads_43 : decode cX8_reads 43 = .ok (.iconst 0, 1) := by decide +kernel
theorem dX8_reads_44 : decode cX8_reads 44 = .ok (.iconst 0, 1) := by decide +kernel
theorem dX8_reads_45 : decode cX8_reads 45 = .ok (.invokevirtual 173, 3) := by decide +kernel
theorem dX8_reads_48 : decode cX8_reads 48 = .ok (.ifCond .eq 25, 3) := by decide +kernel
theorem dX8_reads_51 : decode cX8_reads 51 = .ok (.aload_n 0, 1) := by decide +kernel
theorem dX8_reads_52 : decode cX8_reads 52 = .ok (.bipush 58, 2) := by decide +kernel
theorem dX8_reads_54 : decode cX8_reads 54 = .ok (.invokevirtual 179, 3) := by decide +kernel
theorem dX8_reads_57 : decode cX8_reads 57 = .ok (.ifCond .eq 16, 3) := by decide +kernel
theorem dX8_reads_60 : decode cX8_reads 60 = .ok (.aload_n 0, 1) := by decide +kernel
theorem dX8_reads_61 : decode cX8_reads 61 = .ok (.iconst 1, 1) := by decide +kernel
theorem dX8_reads_62 : decode cX8_reads 62 = .ok (.iconst 1, 1) := by decide +kernel
theorem dX8_reads_63 : decode cX8_reads 63 = .ok (.invokevirtual 176, 3) := by decide +kernel
theorem dX8_reads_66 : decode cX8_reads 66 = .ok (.ifCond .eq 7, 3) := by decide +kernel
theorem dX8_reads_69 : decode cX8_reads 69 = .ok (.iconst 1, 1) := by decide +kernel
theorem dX8_reads_70 : decode cX8_reads 70 = .ok (.goto 4, 3) := by decide +kernel
theorem dX8_reads_73 : decode cX8_reads 73 = .ok (.iconst 0, 1) := by decide +kernel
theorem dX8_reads_74 : decode cX8_reads 74 = .ok (.ireturn, 1) := by decide +kernel
theorem dX8_reading_0 : decode cX8_reading 0 = .ok (.aload_n 0, 1) := by decide +kernel
theorem dX8_reading_1 : decode cX8_reading 1 = .ok (.getfield 167, 3) := by decide +kernel
theorem dX8_reading_4 : decode cX8_reading 4 = .ok (.aload_n 0, 1) := by decide +kernel
theorem dX8_reading_5 : decode cX8_reading 5 = .ok (.getfield 164, 3) := by decide +kernel
theorem dX8_reading_8 : decode cX8_reading 8 = .ok (.if_icmp .ge 15, 3) := by decide +kernel
theorem dX8_reading_11 : decode cX8_reading 11 = .ok (.aload_n 0, 1) := by decide +kernel
theorem dX8_reading_12 : decode cX8_reading 12 = .ok (.getfield 26, 3) := by decide +kernel
theorem dX8_reading_15 : decode cX8_reading 15 = .ok (.aload_n 0, 1) := by decide +kernel
theorem dX8_reading_16 : decode cX8_reading 16 = .ok (.getfield 167, 3) := by decide +kernel
theorem dX8_reading_19 : decode cX8_reading 19 = .ok (.iaload, 1) := by decide +kernel
theorem dX8_reading_20 : decode cX8_reading 20 = .ok (.goto 4, 3) := by decide +kernel
theorem dX8_reading_23 : decode cX8_reading 23 = .ok (.iconst 0, 1) := by decide +kernel
theorem dX8_reading_24 : decode cX8_reading 24 = .ok (.istore_n 1, 1) := by decide +kernel
theorem dX8_reading_25 : decode cX8_reading 25 = .ok (.iload_n 1, 1) := by decide +kernel
theorem dX8_reading_26 : decode cX8_reading 26 = .ok (.bipush 43, 2) := by decide +kernel
theorem dX8_reading_28 : decode cX8_reading 28 = .ok (.if_icmp .eq 23, 3) := by decide +kernel
theorem dX8_reading_31 : decode cX8_reading 31 = .ok (.iload_n 1, 1) := by decide +kernel
theorem dX8_reading_32 : decode cX8_reading 32 = .ok (.bipush 45, 2) := by decide +kernel
theorem dX8_reading_34 : decode cX8_reading 34 = .ok (.if_icmp .eq 17, 3) := by decide +kernel
theorem dX8_reading_37 : decode cX8_reading 37 = .ok (.iload_n 1, 1) := by decide +kernel
theorem dX8_reading_38 : decode cX8_reading 38 = .ok (.bipush 60, 2) := by decide +kernel
theorem dX8_reading_40 : decode cX8_reading 40 = .ok (.if_icmp .eq 11, 3) := by decide +kernel
theorem dX8_reading_43 : decode cX8_reading 43 = .ok (.iload_n 1, 1) := by decide +kernel
theorem dX8_reading_44 : decode cX8_reading 44 = .ok (.bipush 62, 2) := by decide +kernel
theorem dX8_reading_46 : decode cX8_reading 46 = .ok (.if_icmp .eq 5, 3) := by decide +kernel
theorem dX8_reading_49 : decode cX8_reading 49 = .ok (.iconst 0, 1) := by decide +kernel
theorem dX8_reading_50 : decode cX8_reading 50 = .ok (.ireturn, 1) := by decide +kernel
theorem dX8_reading_51 : decode cX8_reading 51 = .ok (.aload_n 0, 1) := by decide +kernel
theorem dX8_reading_52 : decode cX8_reading 52 = .ok (.dup, 1) := by decide +kernel
theorem dX8_reading_53 : decode cX8_reading 53 = .ok (.getfield 167, 3) := by decide +kernel
theorem dX8_reading_56 : decode cX8_reading 56 = .ok (.iconst 1, 1) := by decide +kernel
theorem dX8_reading_57 : decode cX8_reading 57 = .ok (.iadd, 1) := by decide +kernel
theorem dX8_reading_58 : decode cX8_reading 58 = .ok (.putfield 167, 3) := by decide +kernel
theorem dX8_reading_61 : decode cX8_reading 61 = .ok (.aload_n 0, 1) := by decide +kernel
theorem dX8_reading_62 : decode cX8_reading 62 = .ok (.iload_n 1, 1) := by decide +kernel
theorem dX8_reading_63 : decode cX8_reading 63 = .ok (.invokevirtual 182, 3) := by decide +kernel
theorem dX8_reading_66 : decode cX8_reading 66 = .ok (.ifCond .eq 7, 3) := by decide +kernel
theorem dX8_reading_69 : decode cX8_reading 69 = .ok (.iload_n 1, 1) := by decide +kernel
theorem dX8_reading_70 : decode cX8_reading 70 = .ok (.goto 4, 3) := by decide +kernel
theorem dX8_reading_73 : decode cX8_reading 73 = .ok (.iconst 0, 1) := by decide +kernel
theorem dX8_reading_74 : decode cX8_reading 74 = .ok (.ireturn, 1) := by decide +kernel
theorem dX8_isWell_0 : decode cX8_isWell 0 = .ok (.aload_n 0, 1) := by decide +kernel
theorem dX8_isWell_1 : decode cX8_isWell 1 = .ok (.iconst 0, 1) := by decide +kernel
theorem dX8_isWell_2 : decode cX8_isWell 2 = .ok (.putfield 167, 3) := by decide +kernel
theorem dX8_isWell_5 : decode cX8_isWell 5 = .ok (.aload_n 0, 1) := by decide +kernel
theorem dX8_isWell_6 : decode cX8_isWell 6 = .ok (.invokevirtual 185, 3) := by decide +kernel
theorem dX8_isWell_9 : decode cX8_isWell 9 = .ok (.ifCond .eq 7, 3) := by decide +kernel
theorem dX8_isWell_12 : decode cX8_isWell 12 = .ok (.iconst 1, 1) := by decide +kernel
theorem dX8_isWell_13 : decode cX8_isWell 13 = .ok (.goto 4, 3) := by decide +kernel
theorem dX8_isWell_16 : decode cX8_isWell 16 = .ok (.iconst 0, 1) := by decide +kernel
theorem dX8_isWell_17 : decode cX8_isWell 17 = .ok (.istore_n 1, 1) := by decide +kernel
theorem dX8_isWell_18 : decode cX8_isWell 18 = .ok (.iload_n 1, 1) := by decide +kernel
theorem dX8_isWell_19 : decode cX8_isWell 19 = .ok (.ifCond .eq 39, 3) := by decide +kernel
theorem dX8_isWell_22 : decode cX8_isWell 22 = .ok (.aload_n 0, 1) := by decide +kernel
theorem dX8_isWell_23 : decode cX8_isWell 23 = .ok (.getfield 167, 3) := by decide +kernel
theorem dX8_isWell_26 : decode cX8_isWell 26 = .ok (.aload_n 0, 1) := by decide +kernel
theorem dX8_isWell_27 : decode cX8_isWell 27 = .ok (.getfield 164, 3) := by decide +kernel
theorem dX8_isWell_30 : decode cX8_isWell 30 = .ok (.if_icmp .ge 28, 3) := by decide +kernel
theorem dX8_isWell_33 : decode cX8_isWell 33 = .ok (.aload_n 0, 1) := by decide +kernel
theorem dX8_isWell_34 : decode cX8_isWell 34 = .ok (.bipush 59, 2) := by decide +kernel
theorem dX8_isWell_36 : decode cX8_isWell 36 = .ok (.invokevirtual 179, 3) := by decide +kernel
theorem dX8_isWell_39 : decode cX8_isWell 39 = .ok (.ifCond .eq 14, 3) := by decide +kernel
theorem dX8_isWell_42 : decode cX8_isWell 42 = .ok (.aload_n 0, 1) := by decide +kernel
theorem dX8_isWell_43 : decode cX8_isWell 43 = .ok (.invokevirtual 185, 3) := by decide +kernel
theorem dX8_isWell_46 : decode cX8_isWell 46 = .ok (.ifCond .eq 7, 3) := by decide +kernel
theorem dX8_isWell_49 : decode cX8_isWell 49 = .ok (.iconst 1, 1) := by decide +kernel
theorem dX8_isWell_50 : decode cX8_isWell 50 = .ok (.goto 4, 3) := by decide +kernel
theorem dX8_isWell_53 : decode cX8_isWell 53 = .ok (.iconst 0, 1) := by decide +kernel
theorem dX8_isWell_54 : decode cX8_isWell 54 = .ok (.istore_n 1, 1) := by decide +kernel
theorem dX8_isWell_55 : decode cX8_isWell 55 = .ok (.goto (-37), 3) := by decide +kernel
theorem dX8_isWell_58 : decode cX8_isWell 58 = .ok (.iload_n 1, 1) := by decide +kernel
theorem dX8_isWell_59 : decode cX8_isWell 59 = .ok (.ireturn, 1) := by decide +kernel
theorem dX8_firstError_0 : decode cX8_firstError 0 = .ok (.aload_n 0, 1) := by decide +kernel
theorem dX8_firstError_1 : decode cX8_firstError 1 = .ok (.iconst 0, 1) := by decide +kernel
theorem dX8_firstError_2 : decode cX8_firstError 2 = .ok (.putfield 41, 3) := by decide +kernel
theorem dX8_firstError_5 : decode cX8_firstError 5 = .ok (.aload_n 0, 1) := by decide +kernel
theorem dX8_firstError_6 : decode cX8_firstError 6 = .ok (.invokevirtual 188, 3) := by decide +kernel
theorem dX8_firstError_9 : decode cX8_firstError 9 = .ok (.ifCond .eq 10, 3) := by decide +kernel
theorem dX8_firstError_12 : decode cX8_firstError 12 = .ok (.aload_n 0, 1) := by decide +kernel
theorem dX8_firstError_13 : decode cX8_firstError 13 = .ok (.getfield 164, 3) := by decide +kernel
theorem dX8_firstError_16 : decode cX8_firstError 16 = .ok (.goto 7, 3) := by decide +kernel
theorem dX8_firstError_19 : decode cX8_firstError 19 = .ok (.aload_n 0, 1) := by decide +kernel
theorem dX8_firstError_20 : decode cX8_firstError 20 = .ok (.getfield 167, 3) := by decide +kernel
theorem dX8_firstError_23 : decode cX8_firstError 23 = .ok (.ireturn, 1) := by decide +kernel
theorem dX8_does_0 : decode cX8_does 0 = .ok (.iload_n 1, 1) := by decide +kernel
theorem dX8_does_1 : decode cX8_does 1 = .ok (.bipush 43, 2) := by decide +kernel
theorem dX8_does_3 : decode cX8_does 3 = .ok (.if_icmp .ne 14, 3) := by decide +kernel
theorem dX8_does_6 : decode cX8_does 6 = .ok (.aload_n 0, 1) := by decide +kernel
theorem dX8_does_7 : decode cX8_does 7 = .ok (.aload_n 0, 1) := by decide +kernel
theorem dX8_does_8 : decode cX8_does 8 = .ok (.getfield 29, 3) := by decide +kernel
theorem dX8_does_11 : decode cX8_does 11 = .ok (.iconst 0, 1) := by decide +kernel
theorem dX8_does_12 : decode cX8_does 12 = .ok (.iaload, 1) := by decide +kernel
theorem dX8_does_13 : decode cX8_does 13 = .ok (.invokevirtual 131, 3) := by decide +kernel
theorem dX8_does_16 : decode cX8_does 16 = .ok (.ireturn, 1) := by decide +kernel
theorem dX8_does_17 : decode cX8_does 17 = .ok (.aload_n 0, 1) := by decide +kernel
theorem dX8_does_18 : decode cX8_does 18 = .ok (.aload_n 0, 1) := by decide +kernel
theorem dX8_does_19 : decode cX8_does 19 = .ok (.getfield 29, 3) := by decide +kernel
theorem dX8_does_22 : decode cX8_does 22 = .ok (.iconst 0, 1) := by decide +kernel
theorem dX8_does_23 : decode cX8_does 23 = .ok (.iaload, 1) := by decide +kernel
theorem dX8_does_24 : decode cX8_does 24 = .ok (.invokevirtual 53, 3) := by decide +kernel
theorem dX8_does_27 : decode cX8_does 27 = .ok (.ifCond .ne 5, 3) := by decide +kernel
theorem dX8_does_30 : decode cX8_does 30 = .ok (.iconst (-1), 1) := by decide +kernel
theorem dX8_does_31 : decode cX8_does 31 = .ok (.ireturn, 1) := by decide +kernel
theorem dX8_does_32 : decode cX8_does 32 = .ok (.iload_n 1, 1) := by decide +kernel
theorem dX8_does_33 : decode cX8_does 33 = .ok (.bipush 45, 2) := by decide +kernel
theorem dX8_does_35 : decode cX8_does 35 = .ok (.if_icmp .ne 16, 3) := by decide +kernel
theorem dX8_does_38 : decode cX8_does 38 = .ok (.aload_n 0, 1) := by decide +kernel
theorem dX8_does_39 : decode cX8_does 39 = .ok (.aload_n 0, 1) := by decide +kernel
theorem dX8_does_40 : decode cX8_does 40 = .ok (.getfield 29, 3) := by decide +kernel
theorem dX8_does_43 : decode cX8_does 43 = .ok (.iconst 0, 1) := by decide +kernel
theorem dX8_does_44 : decode cX8_does 44 = .ok (.iaload, 1) := by decide +kernel
theorem dX8_does_45 : decode cX8_does 45 = .ok (.invokevirtual 140, 3) := by decide +kernel
theorem dX8_does_48 : decode cX8_does 48 = .ok (.goto 44, 3) := by decide +kernel
theorem dX8_does_51 : decode cX8_does 51 = .ok (.iload_n 1, 1) := by decide +kernel
theorem dX8_does_52 : decode cX8_does 52 = .ok (.bipush 62, 2) := by decide +kernel
theorem dX8_does_54 : decode cX8_does 54 = .ok (.if_icmp .ne 22, 3) := by decide +kernel
theorem dX8_does_57 : decode cX8_does 57 = .ok (.aload_n 0, 1) := by decide +kernel
theorem dX8_does_58 : decode cX8_does 58 = .ok (.aload_n 0, 1) := by decide +kernel
theorem dX8_does_59 : decode cX8_does 59 = .ok (.getfield 29, 3) := by decide +kernel
theorem dX8_does_62 : decode cX8_does 62 = .ok (.iconst 0, 1) := by decide +kernel
theorem dX8_does_63 : decode cX8_does 63 = .ok (.iaload, 1) := by decide +kernel
theorem dX8_does_64 : decode cX8_does 64 = .ok (.aload_n 0, 1) := by decide +kernel
theorem dX8_does_65 : decode cX8_does 65 = .ok (.getfield 29, 3) := by decide +kernel
theorem dX8_does_68 : decode cX8_does 68 = .ok (.iconst 1, 1) := by decide +kernel
theorem dX8_does_69 : decode cX8_does 69 = .ok (.iaload, 1) := by decide +kernel
theorem dX8_does_70 : decode cX8_does 70 = .ok (.invokevirtual 134, 3) := by decide +kernel
theorem dX8_does_73 : decode cX8_does 73 = .ok (.goto 19, 3) := by decide +kernel
theorem dX8_does_76 : decode cX8_does 76 = .ok (.aload_n 0, 1) := by decide +kernel
theorem dX8_does_77 : decode cX8_does 77 = .ok (.aload_n 0, 1) := by decide +kernel
theorem dX8_does_78 : decode cX8_does 78 = .ok (.getfield 29, 3) := by decide +kernel
theorem dX8_does_81 : decode cX8_does 81 = .ok (.iconst 0, 1) := by decide +kernel
theorem dX8_does_82 : decode cX8_does 82 = .ok (.iaload, 1) := by decide +kernel
theorem dX8_does_83 : decode cX8_does 83 = .ok (.aload_n 0, 1) := by decide +kernel
theorem dX8_does_84 : decode cX8_does 84 = .ok (.getfield 29, 3) := by decide +kernel
theorem dX8_does_87 : decode cX8_does 87 = .ok (.iconst 1, 1) := by decide +kernel
theorem dX8_does_88 : decode cX8_does 88 = .ok (.iaload, 1) := by decide +kernel
theorem dX8_does_89 : decode cX8_does 89 = .ok (.invokevirtual 137, 3) := by decide +kernel
theorem dX8_does_92 : decode cX8_does 92 = .ok (.ireturn, 1) := by decide +kernel
theorem dX8_run_0 : decode cX8_run 0 = .ok (.aload_n 0, 1) := by decide +kernel
theorem dX8_run_1 : decode cX8_run 1 = .ok (.iconst 0, 1) := by decide +kernel
theorem dX8_run_2 : decode cX8_run 2 = .ok (.putfield 41, 3) := by decide +kernel
theorem dX8_run_5 : decode cX8_run 5 = .ok (.aload_n 0, 1) := by decide +kernel
theorem dX8_run_6 : decode cX8_run 6 = .ok (.invokevirtual 188, 3) := by decide +kernel
theorem dX8_run_9 : decode cX8_run 9 = .ok (.ifCond .ne 9, 3) := by decide +kernel
theorem dX8_run_12 : decode cX8_run 12 = .ok (.aload_n 0, 1) := by decide +kernel
theorem dX8_run_13 : decode cX8_run 13 = .ok (.iconst 1, 1) := by decide +kernel
theorem dX8_run_14 : decode cX8_run 14 = .ok (.invokevirtual 81, 3) := by decide +kernel
theorem dX8_run_17 : decode cX8_run 17 = .ok (.ireturn, 1) := by decide +kernel
theorem dX8_run_18 : decode cX8_run 18 = .ok (.aload_n 0, 1) := by decide +kernel
theorem dX8_run_19 : decode cX8_run 19 = .ok (.invokevirtual 87, 3) := by decide +kernel
theorem dX8_run_22 : decode cX8_run 22 = .ok (.aload_n 0, 1) := by decide +kernel
theorem dX8_run_23 : decode cX8_run 23 = .ok (.iconst 0, 1) := by decide +kernel
theorem dX8_run_24 : decode cX8_run 24 = .ok (.putfield 167, 3) := by decide +kernel
theorem dX8_run_27 : decode cX8_run 27 = .ok (.iconst 0, 1) := by decide +kernel
theorem dX8_run_28 : decode cX8_run 28 = .ok (.istore_n 1, 1) := by decide +kernel
theorem dX8_run_29 : decode cX8_run 29 = .ok (.iconst 1, 1) := by decide +kernel
theorem dX8_run_30 : decode cX8_run 30 = .ok (.istore_n 2, 1) := by decide +kernel
theorem dX8_run_31 : decode cX8_run 31 = .ok (.iload_n 2, 1) := by decide +kernel
theorem dX8_run_32 : decode cX8_run 32 = .ok (.ifCond .eq 57, 3) := by decide +kernel
theorem dX8_run_35 : decode cX8_run 35 = .ok (.aload_n 0, 1) := by decide +kernel
theorem dX8_run_36 : decode cX8_run 36 = .ok (.getfield 167, 3) := by decide +kernel
theorem dX8_run_39 : decode cX8_run 39 = .ok (.aload_n 0, 1) := by decide +kernel
theorem dX8_run_40 : decode cX8_run 40 = .ok (.getfield 164, 3) := by decide +kernel
theorem dX8_run_43 : decode cX8_run 43 = .ok (.if_icmp .ge 46, 3) := by decide +kernel
theorem dX8_run_46 : decode cX8_run 46 = .ok (.aload_n 0, 1) := by decide +kernel
theorem dX8_run_47 : decode cX8_run 47 = .ok (.aload_n 0, 1) := by decide +kernel
theorem dX8_run_48 : decode cX8_run 48 = .ok (.invokevirtual 185, 3) := by decide +kernel
theorem dX8_run_51 : decode cX8_run 51 = .ok (.invokevirtual 192, 3) := by decide +kernel
theorem dX8_run_54 : decode cX8_run 54 = .ok (.iconst (-1), 1) := by decide +kernel
theorem dX8_run_55 : decode cX8_run 55 = .ok (.if_icmp .eq 7, 3) := by decide +kernel
theorem dX8_run_58 : decode cX8_run 58 = .ok (.iconst 1, 1) := by decide +kernel
theorem dX8_run_59 : decode cX8_run 59 = .ok (.goto 4, 3) := by decide +kernel
theorem dX8_run_62 : decode cX8_run 62 = .ok (.iconst 0, 1) := by decide +kernel
theorem dX8_run_63 : decode cX8_run 63 = .ok (.istore_n 2, 1) := by decide +kernel
theorem dX8_run_64 : decode cX8_run 64 = .ok (.iload_n 1, 1) := by decide +kernel
theorem dX8_run_65 : decode cX8_run 65 = .ok (.iload_n 2, 1) := by decide +kernel
theorem dX8_run_66 : decode cX8_run 66 = .ok (.ifCond .eq 7, 3) := by decide +kernel
theorem dX8_run_69 : decode cX8_run 69 = .ok (.iconst 1, 1) := by decide +kernel
theorem dX8_run_70 : decode cX8_run 70 = .ok (.goto 4, 3) := by decide +kernel
theorem dX8_run_73 : decode cX8_run 73 = .ok (.iconst 0, 1) := by decide +kernel
theorem dX8_run_74 : decode cX8_run 74 = .ok (.iadd, 1) := by decide +kernel
theorem dX8_run_75 : decode cX8_run 75 = .ok (.istore_n 1, 1) := by decide +kernel
theorem dX8_run_76 : decode cX8_run 76 = .ok (.aload_n 0, 1) := by decide +kernel
theorem dX8_run_77 : decode cX8_run 77 = .ok (.dup, 1) := by decide +kernel
theorem dX8_run_78 : decode cX8_run 78 = .ok (.getfield 167, 3) := by decide +kernel
theorem dX8_run_81 : decode cX8_run 81 = .ok (.iconst 1, 1) := by decide +kernel
theorem dX8_run_82 : decode cX8_run 82 = .ok (.iadd, 1) := by decide +kernel
theorem dX8_run_83 : decode cX8_run 83 = .ok (.putfield 167, 3) := by decide +kernel
theorem dX8_run_86 : decode cX8_run 86 = .ok (.goto (-55), 3) := by decide +kernel
theorem dX8_run_89 : decode cX8_run 89 = .ok (.aload_n 0, 1) := by decide +kernel
theorem dX8_run_90 : decode cX8_run 90 = .ok (.iconst 0, 1) := by decide +kernel
theorem dX8_run_91 : decode cX8_run 91 = .ok (.putfield 164, 3) := by decide +kernel
theorem dX8_run_94 : decode cX8_run 94 = .ok (.iload_n 1, 1) := by decide +kernel
theorem dX8_run_95 : decode cX8_run 95 = .ok (.ireturn, 1) := by decide +kernel
theorem dX8_property_0 : decode cX8_property 0 = .ok (.iload_n 2, 1) := by decide +kernel
theorem dX8_property_1 : decode cX8_property 1 = .ok (.tableswitch 103 0 5 #[39, 46, 52, 58, 77, 96], 39) := by decide +kernel
theorem dX8_property_40 : decode cX8_property 40 = .ok (.aload_n 0, 1) := by decide +kernel
theorem dX8_property_41 : decode cX8_property 41 = .ok (.iload_n 1, 1) := by decide +kernel
theorem dX8_property_42 : decode cX8_property 42 = .ok (.iconst 1, 1) := by decide +kernel
theorem dX8_property_43 : decode cX8_property 43 = .ok (.invokevirtual 49, 3) := by decide +kernel
theorem dX8_property_46 : decode cX8_property 46 = .ok (.ireturn, 1) := by decide +kernel
theorem dX8_property_47 : decode cX8_property 47 = .ok (.aload_n 0, 1) := by decide +kernel
theorem dX8_property_48 : decode cX8_property 48 = .ok (.iload_n 1, 1) := by decide +kernel
theorem dX8_property_49 : decode cX8_property 49 = .ok (.invokevirtual 93, 3) := by decide +kernel
theorem dX8_property_52 : decode cX8_property 52 = .ok (.ireturn, 1) := by decide +kernel
theorem dX8_property_53 : decode cX8_property 53 = .ok (.aload_n 0, 1) := by decide +kernel
theorem dX8_property_54 : decode cX8_property 54 = .ok (.iload_n 1, 1) := by decide +kernel
theorem dX8_property_55 : decode cX8_property 55 = .ok (.invokevirtual 57, 3) := by decide +kernel
theorem dX8_property_58 : decode cX8_property 58 = .ok (.ireturn, 1) := by decide +kernel
theorem dX8_property_59 : decode cX8_property 59 = .ok (.aload_n 0, 1) := by decide +kernel
theorem dX8_property_60 : decode cX8_property 60 = .ok (.iload_n 1, 1) := by decide +kernel
theorem dX8_property_61 : decode cX8_property 61 = .ok (.invokevirtual 57, 3) := by decide +kernel
theorem dX8_property_64 : decode cX8_property 64 = .ok (.ifCond .ne 7, 3) := by decide +kernel
theorem dX8_property_67 : decode cX8_property 67 = .ok (.iconst (-1), 1) := by decide +kernel
theorem dX8_property_68 : decode cX8_property 68 = .ok (.goto 9, 3) := by decide +kernel
theorem dX8_property_71 : decode cX8_property 71 = .ok (.aload_n 0, 1) := by decide +kernel
theorem dX8_property_72 : decode cX8_property 72 = .ok (.iload_n 1, 1) := by decide +kernel
theorem dX8_property_73 : decode cX8_property 73 = .ok (.iconst 3, 1) := by decide +kernel
theorem dX8_property_74 : decode cX8_property 74 = .ok (.invokevirtual 49, 3) := by decide +kernel
theorem dX8_property_77 : decode cX8_property 77 = .ok (.ireturn, 1) := by decide +kernel
theorem dX8_property_78 : decode cX8_property 78 = .ok (.aload_n 0, 1) := by decide +kernel
theorem dX8_property_79 : decode cX8_property 79 = .ok (.iload_n 1, 1) := by decide +kernel
theorem dX8_property_80 : decode cX8_property 80 = .ok (.invokevirtual 57, 3) := by decide +kernel
theorem dX8_property_83 : decode cX8_property 83 = .ok (.ifCond .ne 7, 3) := by decide +kernel
theorem dX8_property_86 : decode cX8_property 86 = .ok (.iconst (-1), 1) := by decide +kernel
theorem dX8_property_87 : decode cX8_property 87 = .ok (.goto 9, 3) := by decide +kernel
theorem dX8_property_90 : decode cX8_property 90 = .ok (.aload_n 0, 1) := by decide +kernel
theorem dX8_property_91 : decode cX8_property 91 = .ok (.iload_n 1, 1) := by decide +kernel
theorem dX8_property_92 : decode cX8_property 92 = .ok (.iconst 4, 1) := by decide +kernel
theorem dX8_property_93 : decode cX8_property 93 = .ok (.invokevirtual 49, 3) := by decide +kernel
theorem dX8_property_96 : decode cX8_property 96 = .ok (.ireturn, 1) := by decide +kernel
theorem dX8_property_97 : decode cX8_property 97 = .ok (.aload_n 0, 1) := by decide +kernel
theorem dX8_property_98 : decode cX8_property 98 = .ok (.iload_n 1, 1) := by decide +kernel
theorem dX8_property_99 : decode cX8_property 99 = .ok (.iconst 2, 1) := by decide +kernel
theorem dX8_property_100 : decode cX8_property 100 = .ok (.invokevirtual 49, 3) := by decide +kernel
theorem dX8_property_103 : decode cX8_property 103 = .ok (.ireturn, 1) := by decide +kernel
theorem dX8_property_104 : decode cX8_property 104 = .ok (.aload_n 0, 1) := by decide +kernel
theorem dX8_property_105 : decode cX8_property 105 = .ok (.iload_n 1, 1) := by decide +kernel
theorem dX8_property_106 : decode cX8_property 106 = .ok (.iconst 5, 1) := by decide +kernel
theorem dX8_property_107 : decode cX8_property 107 = .ok (.invokevirtual 49, 3) := by decide +kernel
theorem dX8_property_110 : decode cX8_property 110 = .ok (.ireturn, 1) := by decide +kernel
theorem dX8_fileOf_0 : decode cX8_fileOf 0 = .ok (.aload_n 0, 1) := by decide +kernel
theorem dX8_fileOf_1 : decode cX8_fileOf 1 = .ok (.iconst 0, 1) := by decide +kernel
theorem dX8_fileOf_2 : decode cX8_fileOf 2 = .ok (.putfield 41, 3) := by decide +kernel
theorem dX8_fileOf_5 : decode cX8_fileOf 5 = .ok (.aload_n 0, 1) := by decide +kernel
theorem dX8_fileOf_6 : decode cX8_fileOf 6 = .ok (.iload_n 1, 1) := by decide +kernel
theorem dX8_fileOf_7 : decode cX8_fileOf 7 = .ok (.invokevirtual 53, 3) := by decide +kernel
theorem dX8_fileOf_10 : decode cX8_fileOf 10 = .ok (.ifCond .ne 9, 3) := by decide +kernel
theorem dX8_fileOf_13 : decode cX8_fileOf 13 = .ok (.aload_n 0, 1) := by decide +kernel
theorem dX8_fileOf_14 : decode cX8_fileOf 14 = .ok (.iconst 1, 1) := by decide +kernel
theorem dX8_fileOf_15 : decode cX8_fileOf 15 = .ok (.invokevirtual 81, 3) := by decide +kernel
theorem dX8_fileOf_18 : decode cX8_fileOf 18 = .ok (.ireturn, 1) := by decide +kernel
theorem dX8_fileOf_19 : decode cX8_fileOf 19 = .ok (.iload_n 2, 1) := by decide +kernel
theorem dX8_fileOf_20 : decode cX8_fileOf 20 = .ok (.iconst 0, 1) := by decide +kernel
theorem dX8_fileOf_21 : decode cX8_fileOf 21 = .ok (.bipush 6, 2) := by decide +kernel
theorem dX8_fileOf_23 : decode cX8_fileOf 23 = .ok (.invokestatic 45, 3) := by decide +kernel
theorem dX8_fileOf_26 : decode cX8_fileOf 26 = .ok (.ifCond .eq 12, 3) := by decide +kernel
theorem dX8_fileOf_29 : decode cX8_fileOf 29 = .ok (.aload_n 0, 1) := by decide +kernel
theorem dX8_fileOf_30 : decode cX8_fileOf 30 = .ok (.iload_n 1, 1) := by decide +kernel
theorem dX8_fileOf_31 : decode cX8_fileOf 31 = .ok (.iload_n 2, 1) := by decide +kernel
theorem dX8_fileOf_32 : decode cX8_fileOf 32 = .ok (.invokevirtual 195, 3) := by decide +kernel
theorem dX8_fileOf_35 : decode cX8_fileOf 35 = .ok (.goto 8, 3) := by decide +kernel
theorem dX8_fileOf_38 : decode cX8_fileOf 38 = .ok (.aload_n 0, 1) := by decide +kernel
theorem dX8_fileOf_39 : decode cX8_fileOf 39 = .ok (.iconst 2, 1) := by decide +kernel
theorem dX8_fileOf_40 : decode cX8_fileOf 40 = .ok (.invokevirtual 81, 3) := by decide +kernel
theorem dX8_fileOf_43 : decode cX8_fileOf 43 = .ok (.ireturn, 1) := by decide +kernel
theorem dX8_placeOf_0 : decode cX8_placeOf 0 = .ok (.iload_n 2, 1) := by decide +kernel
theorem dX8_placeOf_1 : decode cX8_placeOf 1 = .ok (.bipush 16, 2) := by decide +kernel
theorem dX8_placeOf_3 : decode cX8_placeOf 3 = .ok (.idiv, 1) := by decide +kernel
theorem dX8_placeOf_4 : decode cX8_placeOf 4 = .ok (.istore_n 3, 1) := by decide +kernel
theorem dX8_placeOf_5 : decode cX8_placeOf 5 = .ok (.iload_n 3, 1) := by decide +kernel
theorem dX8_placeOf_6 : decode cX8_placeOf 6 = .ok (.aload_n 0, 1) := by decide +kernel
theorem dX8_placeOf_7 : decode cX8_placeOf 7 = .ok (.iload_n 1, 1) := by decide +kernel
theorem dX8_placeOf_8 : decode cX8_placeOf 8 = .ok (.invokevirtual 93, 3) := by decide +kernel
theorem dX8_placeOf_11 : decode cX8_placeOf 11 = .ok (.if_icmp .ne 7, 3) := by decide +kernel
theorem dX8_placeOf_14 : decode cX8_placeOf 14 = .ok (.iconst 1, 1) := by decide +kernel
theorem dX8_placeOf_15 : decode cX8_placeOf 15 = .ok (.goto 4, 3) := by decide +kernel
theorem dX8_placeOf_18 : decode cX8_placeOf 18 = .ok (.iconst 0, 1) := by decide +kernel
theorem dX8_placeOf_19 : decode cX8_placeOf 19 = .ok (.istore 4, 2) := by decide +kernel
theorem dX8_placeOf_21 : decode cX8_placeOf 21 = .ok (.iload 4, 2) := by decide +kernel
theorem dX8_placeOf_23 : decode cX8_placeOf 23 = .ok (.ifCond .eq 12, 3) := by decide +kernel
theorem dX8_placeOf_26 : decode cX8_placeOf 26 = .ok (.aload_n 0, 1) := by decide +kernel
theorem dX8_placeOf_27 : decode cX8_placeOf 27 = .ok (.iload_n 1, 1) := by decide +kernel
theorem dX8_placeOf_28 : decode cX8_placeOf 28 = .ok (.iconst 3, 1) := by decide +kernel
theorem dX8_placeOf_29 : decode cX8_placeOf 29 = .ok (.invokevirtual 49, 3) := by decide +kernel
theorem dX8_placeOf_32 : decode cX8_placeOf 32 = .ok (.goto 12, 3) := by decide +kernel
theorem dX8_placeOf_35 : decode cX8_placeOf 35 = .ok (.aload_n 0, 1) := by decide +kernel
theorem dX8_placeOf_36 : decode cX8_placeOf 36 = .ok (.iload_n 1, 1) := by decide +kernel
theorem dX8_placeOf_37 : decode cX8_placeOf 37 = .ok (.bipush 6, 2) := by decide +kernel
theorem dX8_placeOf_39 : decode cX8_placeOf 39 = .ok (.iload_n 3, 1) := by decide +kernel
theorem dX8_placeOf_40 : decode cX8_placeOf 40 = .ok (.iadd, 1) := by decide +kernel
theorem dX8_placeOf_41 : decode cX8_placeOf 41 = .ok (.invokevirtual 49, 3) := by decide +kernel
theorem dX8_placeOf_44 : decode cX8_placeOf 44 = .ok (.istore 5, 2) := by decide +kernel
theorem dX8_placeOf_46 : decode cX8_placeOf 46 = .ok (.aload_n 0, 1) := by decide +kernel
theorem dX8_placeOf_47 : decode cX8_placeOf 47 = .ok (.getfield 7, 3) := by decide +kernel
theorem dX8_placeOf_50 : decode cX8_placeOf 50 = .ok (.iconst 3, 1) := by decide +kernel
theorem dX8_placeOf_51 : decode cX8_placeOf 51 = .ok (.iload 5, 2) := by decide +kernel
theorem dX8_placeOf_53 : decode cX8_placeOf 53 = .ok (.iadd, 1) := by decide +kernel
theorem dX8_placeOf_54 : decode cX8_placeOf 54 = .ok (.iaload, 1) := by decide +kernel
theorem dX8_placeOf_55 : decode cX8_placeOf 55 = .ok (.iconst 3, 1) := by decide +kernel
theorem dX8_placeOf_56 : decode cX8_placeOf 56 = .ok (.if_icmp .ne 7, 3) := by decide +kernel
theorem dX8_placeOf_59 : decode cX8_placeOf 59 = .ok (.iconst (-1), 1) := by decide +kernel
theorem dX8_placeOf_60 : decode cX8_placeOf 60 = .ok (.goto 29, 3) := by decide +kernel
theorem dX8_placeOf_63 : decode cX8_placeOf 63 = .ok (.bipush 16, 2) := by decide +kernel
theorem dX8_placeOf_65 : decode cX8_placeOf 65 = .ok (.iload 5, 2) := by decide +kernel
theorem dX8_placeOf_67 : decode cX8_placeOf 67 = .ok (.imul, 1) := by decide +kernel
theorem dX8_placeOf_68 : decode cX8_placeOf 68 = .ok (.iload_n 2, 1) := by decide +kernel
theorem dX8_placeOf_69 : decode cX8_placeOf 69 = .ok (.bipush 16, 2) := by decide +kernel
theorem dX8_placeOf_71 : decode cX8_placeOf 71 = .ok (.irem, 1) := by decide +kernel
theorem dX8_placeOf_72 : decode cX8_placeOf 72 = .ok (.iadd, 1) := by decide +kernel
theorem dX8_placeOf_73 : decode cX8_placeOf 73 = .ok (.iload 4, 2) := by decide +kernel
theorem dX8_placeOf_75 : decode cX8_placeOf 75 = .ok (.ifCond .eq 12, 3) := by decide +kernel
theorem dX8_placeOf_78 : decode cX8_placeOf 78 = .ok (.aload_n 0, 1) := by decide +kernel
theorem dX8_placeOf_79 : decode cX8_placeOf 79 = .ok (.iload_n 1, 1) := by decide +kernel
theorem dX8_placeOf_80 : decode cX8_placeOf 80 = .ok (.iconst 4, 1) := by decide +kernel
theorem dX8_placeOf_81 : decode cX8_placeOf 81 = .ok (.invokevirtual 49, 3) := by decide +kernel
theorem dX8_placeOf_84 : decode cX8_placeOf 84 = .ok (.goto 4, 3) := by decide +kernel
theorem dX8_placeOf_87 : decode cX8_placeOf 87 = .ok (.iconst 0, 1) := by decide +kernel
theorem dX8_placeOf_88 : decode cX8_placeOf 88 = .ok (.iadd, 1) := by decide +kernel
theorem dX8_placeOf_89 : decode cX8_placeOf 89 = .ok (.ireturn, 1) := by decide +kernel
theorem dX8_place_0 : decode cX8_place 0 = .ok (.aload_n 0, 1) := by decide +kernel
theorem dX8_place_1 : decode cX8_place 1 = .ok (.iconst 0, 1) := by decide +kernel
theorem dX8_place_2 : decode cX8_place 2 = .ok (.putfield 41, 3) := by decide +kernel
theorem dX8_place_5 : decode cX8_place 5 = .ok (.aload_n 0, 1) := by decide +kernel
theorem dX8_place_6 : decode cX8_place 6 = .ok (.iload_n 1, 1) := by decide +kernel
theorem dX8_place_7 : decode cX8_place 7 = .ok (.invokevirtual 53, 3) := by decide +kernel
theorem dX8_place_10 : decode cX8_place 10 = .ok (.ifCond .eq 28, 3) := by decide +kernel
theorem dX8_place_13 : decode cX8_place 13 = .ok (.iload_n 2, 1) := by decide +kernel
theorem dX8_place_14 : decode cX8_place 14 = .ok (.iconst 0, 1) := by decide +kernel
theorem dX8_place_15 : decode cX8_place 15 = .ok (.aload_n 0, 1) := by decide +kernel
theorem dX8_place_16 : decode cX8_place 16 = .ok (.iload_n 1, 1) := by decide +kernel
theorem dX8_place_17 : decode cX8_place 17 = .ok (.iconst 1, 1) := by decide +kernel
theorem dX8_place_18 : decode cX8_place 18 = .ok (.invokevirtual 49, 3) := by decide +kernel
theorem dX8_place_21 : decode cX8_place 21 = .ok (.iconst 1, 1) := by decide +kernel
theorem dX8_place_22 : decode cX8_place 22 = .ok (.isub, 1) := by decide +kernel
theorem dX8_place_23 : decode cX8_place 23 = .ok (.invokestatic 45, 3) := by decide +kernel
theorem dX8_place_26 : decode cX8_place 26 = .ok (.ifCond .eq 12, 3) := by decide +kernel
theorem dX8_place_29 : decode cX8_place 29 = .ok (.aload_n 0, 1) := by decide +kernel
theorem dX8_place_30 : decode cX8_place 30 = .ok (.iload_n 1, 1) := by decide +kernel
theorem dX8_place_31 : decode cX8_place 31 = .ok (.iload_n 2, 1) := by decide +kernel
theorem dX8_place_32 : decode cX8_place 32 = .ok (.invokevirtual 198, 3) := by decide +kernel
theorem dX8_place_35 : decode cX8_place 35 = .ok (.goto 8, 3) := by decide +kernel
theorem dX8_place_38 : decode cX8_place 38 = .ok (.aload_n 0, 1) := by decide +kernel
theorem dX8_place_39 : decode cX8_place 39 = .ok (.iconst 1, 1) := by decide +kernel
theorem dX8_place_40 : decode cX8_place 40 = .ok (.invokevirtual 81, 3) := by decide +kernel
theorem dX8_place_43 : decode cX8_place 43 = .ok (.ireturn, 1) := by decide +kernel
theorem dX8_tailCells_0 : decode cX8_tailCells 0 = .ok (.iconst 0, 1) := by decide +kernel
theorem dX8_tailCells_1 : decode cX8_tailCells 1 = .ok (.istore_n 2, 1) := by decide +kernel
theorem dX8_tailCells_2 : decode cX8_tailCells 2 = .ok (.iconst 0, 1) := by decide +kernel
theorem dX8_tailCells_3 : decode cX8_tailCells 3 = .ok (.istore_n 3, 1) := by decide +kernel
theorem dX8_tailCells_4 : decode cX8_tailCells 4 = .ok (.iload_n 3, 1) := by decide +kernel
theorem dX8_tailCells_5 : decode cX8_tailCells 5 = .ok (.bipush 10, 2) := by decide +kernel
theorem dX8_tailCells_7 : decode cX8_tailCells 7 = .ok (.if_icmp .ge 30, 3) := by decide +kernel
theorem dX8_tailCells_10 : decode cX8_tailCells 10 = .ok (.iload_n 2, 1) := by decide +kernel
theorem dX8_tailCells_11 : decode cX8_tailCells 11 = .ok (.aload_n 0, 1) := by decide +kernel
theorem dX8_tailCells_12 : decode cX8_tailCells 12 = .ok (.iload_n 3, 1) := by decide +kernel
theorem dX8_tailCells_13 : decode cX8_tailCells 13 = .ok (.iload_n 1, 1) := by decide +kernel
theorem dX8_tailCells_14 : decode cX8_tailCells 14 = .ok (.invokevirtual 61, 3) := by decide +kernel
theorem dX8_tailCells_17 : decode cX8_tailCells 17 = .ok (.ifCond .eq 11, 3) := by decide +kernel
theorem dX8_tailCells_20 : decode cX8_tailCells 20 = .ok (.aload_n 0, 1) := by decide +kernel
theorem dX8_tailCells_21 : decode cX8_tailCells 21 = .ok (.iload_n 3, 1) := by decide +kernel
theorem dX8_tailCells_22 : decode cX8_tailCells 22 = .ok (.invokevirtual 57, 3) := by decide +kernel
theorem dX8_tailCells_25 : decode cX8_tailCells 25 = .ok (.goto 4, 3) := by decide +kernel
theorem dX8_tailCells_28 : decode cX8_tailCells 28 = .ok (.iconst 0, 1) := by decide +kernel
theorem dX8_tailCells_29 : decode cX8_tailCells 29 = .ok (.iadd, 1) := by decide +kernel
theorem dX8_tailCells_30 : decode cX8_tailCells 30 = .ok (.istore_n 2, 1) := by decide +kernel
theorem dX8_tailCells_31 : decode cX8_tailCells 31 = .ok (.iinc 3 1, 3) := by decide +kernel
theorem dX8_tailCells_34 : decode cX8_tailCells 34 = .ok (.goto (-30), 3) := by decide +kernel
theorem dX8_tailCells_37 : decode cX8_tailCells 37 = .ok (.iload_n 2, 1) := by decide +kernel
theorem dX8_tailCells_38 : decode cX8_tailCells 38 = .ok (.ireturn, 1) := by decide +kernel
theorem dX8_longestGap_0 : decode cX8_longestGap 0 = .ok (.iconst 0, 1) := by decide +kernel
theorem dX8_longestGap_1 : decode cX8_longestGap 1 = .ok (.istore_n 2, 1) := by decide +kernel
theorem dX8_longestGap_2 : decode cX8_longestGap 2 = .ok (.iconst 0, 1) := by decide +kernel
theorem dX8_longestGap_3 : decode cX8_longestGap 3 = .ok (.istore_n 3, 1) := by decide +kernel
theorem dX8_longestGap_4 : decode cX8_longestGap 4 = .ok (.iload_n 3, 1) := by decide +kernel
theorem dX8_longestGap_5 : decode cX8_longestGap 5 = .ok (.bipush 16, 2) := by decide +kernel
theorem dX8_longestGap_7 : decode cX8_longestGap 7 = .ok (.if_icmp .ge 30, 3) := by decide +kernel
theorem dX8_longestGap_10 : decode cX8_longestGap 10 = .ok (.aload_n 0, 1) := by decide +kernel
theorem dX8_longestGap_11 : decode cX8_longestGap 11 = .ok (.iload_n 1, 1) := by decide +kernel
theorem dX8_longestGap_12 : decode cX8_longestGap 12 = .ok (.iload_n 3, 1) := by decide +kernel
theorem dX8_longestGap_13 : decode cX8_longestGap 13 = .ok (.invokevirtual 68, 3) := by decide +kernel
theorem dX8_longestGap_16 : decode cX8_longestGap 16 = .ok (.iload_n 2, 1) := by decide +kernel
theorem dX8_longestGap_17 : decode cX8_longestGap 17 = .ok (.if_icmp .le 12, 3) := by decide +kernel
theorem dX8_longestGap_20 : decode cX8_longestGap 20 = .ok (.aload_n 0, 1) := by decide +kernel
theorem dX8_longestGap_21 : decode cX8_longestGap 21 = .ok (.iload_n 1, 1) := by decide +kernel
theorem dX8_longestGap_22 : decode cX8_longestGap 22 = .ok (.iload_n 3, 1) := by decide +kernel
theorem dX8_longestGap_23 : decode cX8_longestGap 23 = .ok (.invokevirtual 68, 3) := by decide +kernel
theorem dX8_longestGap_26 : decode cX8_longestGap 26 = .ok (.goto 4, 3) := by decide +kernel
theorem dX8_longestGap_29 : decode cX8_longestGap 29 = .ok (.iload_n 2, 1) := by decide +kernel
theorem dX8_longestGap_30 : decode cX8_longestGap 30 = .ok (.istore_n 2, 1) := by decide +kernel
theorem dX8_longestGap_31 : decode cX8_longestGap 31 = .ok (.iinc 3 1, 3) := by decide +kernel
theorem dX8_longestGap_34 : decode cX8_longestGap 34 = .ok (.goto (-30), 3) := by decide +kernel
theorem dX8_longestGap_37 : decode cX8_longestGap 37 = .ok (.iload_n 2, 1) := by decide +kernel
theorem dX8_longestGap_38 : decode cX8_longestGap 38 = .ok (.ireturn, 1) := by decide +kernel
theorem dX8_ownerOf_0 : decode cX8_ownerOf 0 = .ok (.iconst (-1), 1) := by decide +kernel
theorem dX8_ownerOf_1 : decode cX8_ownerOf 1 = .ok (.istore_n 2, 1) := by decide +kernel
theorem dX8_ownerOf_2 : decode cX8_ownerOf 2 = .ok (.bipush 9, 2) := by decide +kernel
theorem dX8_ownerOf_4 : decode cX8_ownerOf 4 = .ok (.istore_n 3, 1) := by decide +kernel
theorem dX8_ownerOf_5 : decode cX8_ownerOf 5 = .ok (.iload_n 3, 1) := by decide +kernel
theorem dX8_ownerOf_6 : decode cX8_ownerOf 6 = .ok (.ifCond .lt 36, 3) := by decide +kernel
theorem dX8_ownerOf_9 : decode cX8_ownerOf 9 = .ok (.aload_n 0, 1) := by decide +kernel
theorem dX8_ownerOf_10 : decode cX8_ownerOf 10 = .ok (.getfield 7, 3) := by decide +kernel
theorem dX8_ownerOf_13 : decode cX8_ownerOf 13 = .ok (.iconst 3, 1) := by decide +kernel
theorem dX8_ownerOf_14 : decode cX8_ownerOf 14 = .ok (.iload_n 1, 1) := by decide +kernel
theorem dX8_ownerOf_15 : decode cX8_ownerOf 15 = .ok (.iadd, 1) := by decide +kernel
theorem dX8_ownerOf_16 : decode cX8_ownerOf 16 = .ok (.iaload, 1) := by decide +kernel
theorem dX8_ownerOf_17 : decode cX8_ownerOf 17 = .ok (.iconst 1, 1) := by decide +kernel
theorem dX8_ownerOf_18 : decode cX8_ownerOf 18 = .ok (.if_icmp .ne 16, 3) := by decide +kernel
theorem dX8_ownerOf_21 : decode cX8_ownerOf 21 = .ok (.aload_n 0, 1) := by decide +kernel
theorem dX8_ownerOf_22 : decode cX8_ownerOf 22 = .ok (.iload_n 3, 1) := by decide +kernel
theorem dX8_ownerOf_23 : decode cX8_ownerOf 23 = .ok (.iload_n 1, 1) := by decide +kernel
theorem dX8_ownerOf_24 : decode cX8_ownerOf 24 = .ok (.invokevirtual 143, 3) := by decide +kernel
theorem dX8_ownerOf_27 : decode cX8_ownerOf 27 = .ok (.ifCond .eq 7, 3) := by decide +kernel
theorem dX8_ownerOf_30 : decode cX8_ownerOf 30 = .ok (.iload_n 3, 1) := by decide +kernel
theorem dX8_ownerOf_31 : decode cX8_ownerOf 31 = .ok (.goto 4, 3) := by decide +kernel
theorem dX8_ownerOf_34 : decode cX8_ownerOf 34 = .ok (.iload_n 2, 1) := by decide +kernel
theorem dX8_ownerOf_35 : decode cX8_ownerOf 35 = .ok (.istore_n 2, 1) := by decide +kernel
theorem dX8_ownerOf_36 : decode cX8_ownerOf 36 = .ok (.iinc 3 (-1), 3) := by decide +kernel
theorem dX8_ownerOf_39 : decode cX8_ownerOf 39 = .ok (.goto (-34), 3) := by decide +kernel
theorem dX8_ownerOf_42 : decode cX8_ownerOf 42 = .ok (.iload_n 2, 1) := by decide +kernel
theorem dX8_ownerOf_43 : decode cX8_ownerOf 43 = .ok (.ireturn, 1) := by decide +kernel
theorem dX8_blockIs_0 : decode cX8_blockIs 0 = .ok (.aload_n 0, 1) := by decide +kernel
theorem dX8_blockIs_1 : decode cX8_blockIs 1 = .ok (.getfield 7, 3) := by decide +kernel
theorem dX8_blockIs_4 : decode cX8_blockIs 4 = .ok (.iconst 3, 1) := by decide +kernel
theorem dX8_blockIs_5 : decode cX8_blockIs 5 = .ok (.iload_n 1, 1) := by decide +kernel
theorem dX8_blockIs_6 : decode cX8_blockIs 6 = .ok (.iadd, 1) := by decide +kernel
theorem dX8_blockIs_7 : decode cX8_blockIs 7 = .ok (.iaload, 1) := by decide +kernel
theorem dX8_blockIs_8 : decode cX8_blockIs 8 = .ok (.istore_n 3, 1) := by decide +kernel
theorem dX8_blockIs_9 : decode cX8_blockIs 9 = .ok (.iload_n 2, 1) := by decide +kernel
theorem dX8_blockIs_10 : decode cX8_blockIs 10 = .ok (.tableswitch 68 0 3 #[30, 32, 47, 62], 30) := by decide +kernel
theorem dX8_blockIs_40 : decode cX8_blockIs 40 = .ok (.iload_n 3, 1) := by decide +kernel
theorem dX8_blockIs_41 : decode cX8_blockIs 41 = .ok (.ireturn, 1) := by decide +kernel
theorem dX8_blockIs_42 : decode cX8_blockIs 42 = .ok (.iload_n 3, 1) := by decide +kernel
theorem dX8_blockIs_43 : decode cX8_blockIs 43 = .ok (.iconst 3, 1) := by decide +kernel
theorem dX8_blockIs_44 : decode cX8_blockIs 44 = .ok (.if_icmp .ne 7, 3) := by decide +kernel
theorem dX8_blockIs_47 : decode cX8_blockIs 47 = .ok (.iconst 0, 1) := by decide +kernel
theorem dX8_blockIs_48 : decode cX8_blockIs 48 = .ok (.goto 8, 3) := by decide +kernel
theorem dX8_blockIs_51 : decode cX8_blockIs 51 = .ok (.aload_n 0, 1) := by decide +kernel
theorem dX8_blockIs_52 : decode cX8_blockIs 52 = .ok (.iload_n 1, 1) := by decide +kernel
theorem dX8_blockIs_53 : decode cX8_blockIs 53 = .ok (.invokevirtual 90, 3) := by decide +kernel
theorem dX8_blockIs_56 : decode cX8_blockIs 56 = .ok (.ireturn, 1) := by decide +kernel
theorem dX8_blockIs_57 : decode cX8_blockIs 57 = .ok (.iload_n 3, 1) := by decide +kernel
theorem dX8_blockIs_58 : decode cX8_blockIs 58 = .ok (.iconst 3, 1) := by decide +kernel
theorem dX8_blockIs_59 : decode cX8_blockIs 59 = .ok (.if_icmp .ne 7, 3) := by decide +kernel
theorem dX8_blockIs_62 : decode cX8_blockIs 62 = .ok (.iconst 0, 1) := by decide +kernel
theorem dX8_blockIs_63 : decode cX8_blockIs 63 = .ok (.goto 8, 3) := by decide +kernel
theorem dX8_blockIs_66 : decode cX8_blockIs 66 = .ok (.aload_n 0, 1) := by decide +kernel
theorem dX8_blockIs_67 : decode cX8_blockIs 67 = .ok (.iload_n 1, 1) := by decide +kernel
theorem dX8_blockIs_68 : decode cX8_blockIs 68 = .ok (.invokevirtual 201, 3) := by decide +kernel
theorem dX8_blockIs_71 : decode cX8_blockIs 71 = .ok (.ireturn, 1) := by decide +kernel
theorem dX8_blockIs_72 : decode cX8_blockIs 72 = .ok (.aload_n 0, 1) := by decide +kernel
theorem dX8_blockIs_73 : decode cX8_blockIs 73 = .ok (.iload_n 1, 1) := by decide +kernel
theorem dX8_blockIs_74 : decode cX8_blockIs 74 = .ok (.invokevirtual 204, 3) := by decide +kernel
theorem dX8_blockIs_77 : decode cX8_blockIs 77 = .ok (.ireturn, 1) := by decide +kernel
theorem dX8_blockIs_78 : decode cX8_blockIs 78 = .ok (.aload_n 0, 1) := by decide +kernel
theorem dX8_blockIs_79 : decode cX8_blockIs 79 = .ok (.iload_n 1, 1) := by decide +kernel
theorem dX8_blockIs_80 : decode cX8_blockIs 80 = .ok (.invokevirtual 207, 3) := by decide +kernel
theorem dX8_blockIs_83 : decode cX8_blockIs 83 = .ok (.ireturn, 1) := by decide +kernel
theorem dX8_blockOf_0 : decode cX8_blockOf 0 = .ok (.aload_n 0, 1) := by decide +kernel
theorem dX8_blockOf_1 : decode cX8_blockOf 1 = .ok (.iconst 0, 1) := by decide +kernel
theorem dX8_blockOf_2 : decode cX8_blockOf 2 = .ok (.putfield 41, 3) := by decide +kernel
theorem dX8_blockOf_5 : decode cX8_blockOf 5 = .ok (.iload_n 1, 1) := by decide +kernel
theorem dX8_blockOf_6 : decode cX8_blockOf 6 = .ok (.iconst 0, 1) := by decide +kernel
theorem dX8_blockOf_7 : decode cX8_blockOf 7 = .ok (.bipush 23, 2) := by decide +kernel
theorem dX8_blockOf_9 : decode cX8_blockOf 9 = .ok (.invokestatic 45, 3) := by decide +kernel
theorem dX8_blockOf_12 : decode cX8_blockOf 12 = .ok (.ifCond .ne 9, 3) := by decide +kernel
theorem dX8_blockOf_15 : decode cX8_blockOf 15 = .ok (.aload_n 0, 1) := by decide +kernel
theorem dX8_blockOf_16 : decode cX8_blockOf 16 = .ok (.iconst 1, 1) := by decide +kernel
theorem dX8_blockOf_17 : decode cX8_blockOf 17 = .ok (.invokevirtual 81, 3) := by decide +kernel
theorem dX8_blockOf_20 : decode cX8_blockOf 20 = .ok (.ireturn, 1) := by decide +kernel
theorem dX8_blockOf_21 : decode cX8_blockOf 21 = .ok (.iload_n 2, 1) := by decide +kernel
theorem dX8_blockOf_22 : decode cX8_blockOf 22 = .ok (.iconst 0, 1) := by decide +kernel
theorem dX8_blockOf_23 : decode cX8_blockOf 23 = .ok (.iconst 4, 1) := by decide +kernel
theorem dX8_blockOf_24 : decode cX8_blockOf 24 = .ok (.invokestatic 45, 3) := by decide +kernel
theorem dX8_blockOf_27 : decode cX8_blockOf 27 = .ok (.ifCond .eq 12, 3) := by decide +kernel
theorem dX8_blockOf_30 : decode cX8_blockOf 30 = .ok (.aload_n 0, 1) := by decide +kernel
theorem dX8_blockOf_31 : decode cX8_blockOf 31 = .ok (.iload_n 1, 1) := by decide +kernel
theorem dX8_blockOf_32 : decode cX8_blockOf 32 = .ok (.iload_n 2, 1) := by decide +kernel
theorem dX8_blockOf_33 : decode cX8_blockOf 33 = .ok (.invokevirtual 210, 3) := by decide +kernel
theorem dX8_blockOf_36 : decode cX8_blockOf 36 = .ok (.goto 8, 3) := by decide +kernel
theorem dX8_blockOf_39 : decode cX8_blockOf 39 = .ok (.aload_n 0, 1) := by decide +kernel
theorem dX8_blockOf_40 : decode cX8_blockOf 40 = .ok (.iconst 2, 1) := by decide +kernel
theorem dX8_blockOf_41 : decode cX8_blockOf 41 = .ok (.invokevirtual 81, 3) := by decide +kernel
theorem dX8_blockOf_44 : decode cX8_blockOf 44 = .ok (.ireturn, 1) := by decide +kernel
theorem dX8_goodCells_0 : decode cX8_goodCells 0 = .ok (.bipush 16, 2) := by decide +kernel
theorem dX8_goodCells_2 : decode cX8_goodCells 2 = .ok (.aload_n 0, 1) := by decide +kernel
theorem dX8_goodCells_3 : decode cX8_goodCells 3 = .ok (.iconst 1, 1) := by decide +kernel
theorem dX8_goodCells_4 : decode cX8_goodCells 4 = .ok (.invokevirtual 146, 3) := by decide +kernel
theorem dX8_goodCells_7 : decode cX8_goodCells 7 = .ok (.imul, 1) := by decide +kernel
theorem dX8_goodCells_8 : decode cX8_goodCells 8 = .ok (.istore_n 1, 1) := by decide +kernel
theorem dX8_goodCells_9 : decode cX8_goodCells 9 = .ok (.iconst 0, 1) := by decide +kernel
theorem dX8_goodCells_10 : decode cX8_goodCells 10 = .ok (.istore_n 2, 1) := by decide +kernel
theorem dX8_goodCells_11 : decode cX8_goodCells 11 = .ok (.iload_n 2, 1) := by decide +kernel
theorem dX8_goodCells_12 : decode cX8_goodCells 12 = .ok (.bipush 24, 2) := by decide +kernel
theorem dX8_goodCells_14 : decode cX8_goodCells 14 = .ok (.if_icmp .ge 33, 3) := by decide +kernel
theorem dX8_goodCells_17 : decode cX8_goodCells 17 = .ok (.iload_n 1, 1) := by decide +kernel
theorem dX8_goodCells_18 : decode cX8_goodCells 18 = .ok (.aload_n 0, 1) := by decide +kernel
theorem dX8_goodCells_19 : decode cX8_goodCells 19 = .ok (.getfield 7, 3) := by decide +kernel
theorem dX8_goodCells_22 : decode cX8_goodCells 22 = .ok (.iconst 3, 1) := by decide +kernel
theorem dX8_goodCells_23 : decode cX8_goodCells 23 = .ok (.iload_n 2, 1) := by decide +kernel
theorem dX8_goodCells_24 : decode cX8_goodCells 24 = .ok (.iadd, 1) := by decide +kernel
theorem dX8_goodCells_25 : decode cX8_goodCells 25 = .ok (.iaload, 1) := by decide +kernel
theorem dX8_goodCells_26 : decode cX8_goodCells 26 = .ok (.iconst 2, 1) := by decide +kernel
theorem dX8_goodCells_27 : decode cX8_goodCells 27 = .ok (.if_icmp .ne 11, 3) := by decide +kernel
theorem dX8_goodCells_30 : decode cX8_goodCells 30 = .ok (.aload_n 0, 1) := by decide +kernel
theorem dX8_goodCells_31 : decode cX8_goodCells 31 = .ok (.iload_n 2, 1) := by decide +kernel
theorem dX8_goodCells_32 : decode cX8_goodCells 32 = .ok (.invokevirtual 201, 3) := by decide +kernel
theorem dX8_goodCells_35 : decode cX8_goodCells 35 = .ok (.goto 4, 3) := by decide +kernel
theorem dX8_goodCells_38 : decode cX8_goodCells 38 = .ok (.iconst 0, 1) := by decide +kernel
theorem dX8_goodCells_39 : decode cX8_goodCells 39 = .ok (.iadd, 1) := by decide +kernel
theorem dX8_goodCells_40 : decode cX8_goodCells 40 = .ok (.istore_n 1, 1) := by decide +kernel
theorem dX8_goodCells_41 : decode cX8_goodCells 41 = .ok (.iinc 2 1, 3) := by decide +kernel
theorem dX8_goodCells_44 : decode cX8_goodCells 44 = .ok (.goto (-33), 3) := by decide +kernel
theorem dX8_goodCells_47 : decode cX8_goodCells 47 = .ok (.iload_n 1, 1) := by decide +kernel
theorem dX8_goodCells_48 : decode cX8_goodCells 48 = .ok (.ireturn, 1) := by decide +kernel
theorem dX8_gapCells_0 : decode cX8_gapCells 0 = .ok (.iconst 0, 1) := by decide +kernel
theorem dX8_gapCells_1 : decode cX8_gapCells 1 = .ok (.istore_n 1, 1) := by decide +kernel
theorem dX8_gapCells_2 : decode cX8_gapCells 2 = .ok (.iconst 0, 1) := by decide +kernel
theorem dX8_gapCells_3 : decode cX8_gapCells 3 = .ok (.istore_n 2, 1) := by decide +kernel
theorem dX8_gapCells_4 : decode cX8_gapCells 4 = .ok (.iload_n 2, 1) := by decide +kernel
theorem dX8_gapCells_5 : decode cX8_gapCells 5 = .ok (.bipush 24, 2) := by decide +kernel
theorem dX8_gapCells_7 : decode cX8_gapCells 7 = .ok (.if_icmp .ge 36, 3) := by decide +kernel
theorem dX8_gapCells_10 : decode cX8_gapCells 10 = .ok (.iload_n 1, 1) := by decide +kernel
theorem dX8_gapCells_11 : decode cX8_gapCells 11 = .ok (.aload_n 0, 1) := by decide +kernel
theorem dX8_gapCells_12 : decode cX8_gapCells 12 = .ok (.getfield 7, 3) := by decide +kernel
theorem dX8_gapCells_15 : decode cX8_gapCells 15 = .ok (.iconst 3, 1) := by decide +kernel
theorem dX8_gapCells_16 : decode cX8_gapCells 16 = .ok (.iload_n 2, 1) := by decide +kernel
theorem dX8_gapCells_17 : decode cX8_gapCells 17 = .ok (.iadd, 1) := by decide +kernel
theorem dX8_gapCells_18 : decode cX8_gapCells 18 = .ok (.iaload, 1) := by decide +kernel
theorem dX8_gapCells_19 : decode cX8_gapCells 19 = .ok (.iconst 2, 1) := by decide +kernel
theorem dX8_gapCells_20 : decode cX8_gapCells 20 = .ok (.if_icmp .ne 14, 3) := by decide +kernel
theorem dX8_gapCells_23 : decode cX8_gapCells 23 = .ok (.bipush 16, 2) := by decide +kernel
theorem dX8_gapCells_25 : decode cX8_gapCells 25 = .ok (.aload_n 0, 1) := by decide +kernel
theorem dX8_gapCells_26 : decode cX8_gapCells 26 = .ok (.iload_n 2, 1) := by decide +kernel
theorem dX8_gapCells_27 : decode cX8_gapCells 27 = .ok (.invokevirtual 201, 3) := by decide +kernel
theorem dX8_gapCells_30 : decode cX8_gapCells 30 = .ok (.isub, 1) := by decide +kernel
theorem dX8_gapCells_31 : decode cX8_gapCells 31 = .ok (.goto 4, 3) := by decide +kernel
theorem dX8_gapCells_34 : decode cX8_gapCells 34 = .ok (.iconst 0, 1) := by decide +kernel
theorem dX8_gapCells_35 : decode cX8_gapCells 35 = .ok (.iadd, 1) := by decide +kernel
theorem dX8_gapCells_36 : decode cX8_gapCells 36 = .ok (.istore_n 1, 1) := by decide +kernel
theorem dX8_gapCells_37 : decode cX8_gapCells 37 = .ok (.iinc 2 1, 3) := by decide +kernel
theorem dX8_gapCells_40 : decode cX8_gapCells 40 = .ok (.goto (-36), 3) := by decide +kernel
theorem dX8_gapCells_43 : decode cX8_gapCells 43 = .ok (.iload_n 1, 1) := by decide +kernel
theorem dX8_gapCells_44 : decode cX8_gapCells 44 = .ok (.ireturn, 1) := by decide +kernel
theorem dX8_broken_0 : decode cX8_broken 0 = .ok (.iconst 0, 1) := by decide +kernel
theorem dX8_broken_1 : decode cX8_broken 1 = .ok (.istore_n 1, 1) := by decide +kernel
theorem dX8_broken_2 : decode cX8_broken 2 = .ok (.iconst 0, 1) := by decide +kernel
theorem dX8_broken_3 : decode cX8_broken 3 = .ok (.istore_n 2, 1) := by decide +kernel
theorem dX8_broken_4 : decode cX8_broken 4 = .ok (.iload_n 2, 1) := by decide +kernel
theorem dX8_broken_5 : decode cX8_broken 5 = .ok (.bipush 10, 2) := by decide +kernel
theorem dX8_broken_7 : decode cX8_broken 7 = .ok (.if_icmp .ge 35, 3) := by decide +kernel
theorem dX8_broken_10 : decode cX8_broken 10 = .ok (.iload_n 1, 1) := by decide +kernel
theorem dX8_broken_11 : decode cX8_broken 11 = .ok (.aload_n 0, 1) := by decide +kernel
theorem dX8_broken_12 : decode cX8_broken 12 = .ok (.iload_n 2, 1) := by decide +kernel
theorem dX8_broken_13 : decode cX8_broken 13 = .ok (.invokevirtual 53, 3) := by decide +kernel
theorem dX8_broken_16 : decode cX8_broken 16 = .ok (.ifCond .eq 17, 3) := by decide +kernel
theorem dX8_broken_19 : decode cX8_broken 19 = .ok (.aload_n 0, 1) := by decide +kernel
theorem dX8_broken_20 : decode cX8_broken 20 = .ok (.iload_n 2, 1) := by decide +kernel
theorem dX8_broken_21 : decode cX8_broken 21 = .ok (.iconst 2, 1) := by decide +kernel
theorem dX8_broken_22 : decode cX8_broken 22 = .ok (.invokevirtual 49, 3) := by decide +kernel
theorem dX8_broken_25 : decode cX8_broken 25 = .ok (.iconst 1, 1) := by decide +kernel
theorem dX8_broken_26 : decode cX8_broken 26 = .ok (.if_icmp .ne 7, 3) := by decide +kernel
theorem dX8_broken_29 : decode cX8_broken 29 = .ok (.iconst 1, 1) := by decide +kernel
theorem dX8_broken_30 : decode cX8_broken 30 = .ok (.goto 4, 3) := by decide +kernel
theorem dX8_broken_33 : decode cX8_broken 33 = .ok (.iconst 0, 1) := by decide +kernel
theorem dX8_broken_34 : decode cX8_broken 34 = .ok (.iadd, 1) := by decide +kernel
theorem dX8_broken_35 : decode cX8_broken 35 = .ok (.istore_n 1, 1) := by decide +kernel
theorem dX8_broken_36 : decode cX8_broken 36 = .ok (.iinc 2 1, 3) := by decide +kernel
theorem dX8_broken_39 : decode cX8_broken 39 = .ok (.goto (-35), 3) := by decide +kernel
theorem dX8_broken_42 : decode cX8_broken 42 = .ok (.iload_n 1, 1) := by decide +kernel
theorem dX8_broken_43 : decode cX8_broken 43 = .ok (.ireturn, 1) := by decide +kernel
theorem dX8_counted_0 : decode cX8_counted 0 = .ok (.iload_n 1, 1) := by decide +kernel
theorem dX8_counted_1 : decode cX8_counted 1 = .ok (.tableswitch 108 0 10 #[59, 64, 64, 64, 64, 72, 77, 82, 87, 94, 101], 59) := by decide +kernel
theorem dX8_counted_60 : decode cX8_counted 60 = .ok (.aload_n 0, 1) := by decide +kernel
theorem dX8_counted_61 : decode cX8_counted 61 = .ok (.invokevirtual 84, 3) := by decide +kernel
theorem dX8_counted_64 : decode cX8_counted 64 = .ok (.ireturn, 1) := by decide +kernel
theorem dX8_counted_65 : decode cX8_counted 65 = .ok (.aload_n 0, 1) := by decide +kernel
theorem dX8_counted_66 : decode cX8_counted 66 = .ok (.iload_n 1, 1) := by decide +kernel
theorem dX8_counted_67 : decode cX8_counted 67 = .ok (.iconst 1, 1) := by decide +kernel
theorem dX8_counted_68 : decode cX8_counted 68 = .ok (.isub, 1) := by decide +kernel
theorem dX8_counted_69 : decode cX8_counted 69 = .ok (.invokevirtual 146, 3) := by decide +kernel
theorem dX8_counted_72 : decode cX8_counted 72 = .ok (.ireturn, 1) := by decide +kernel
theorem dX8_counted_73 : decode cX8_counted 73 = .ok (.aload_n 0, 1) := by decide +kernel
theorem dX8_counted_74 : decode cX8_counted 74 = .ok (.invokevirtual 213, 3) := by decide +kernel
theorem dX8_counted_77 : decode cX8_counted 77 = .ok (.ireturn, 1) := by decide +kernel
theorem dX8_counted_78 : decode cX8_counted 78 = .ok (.aload_n 0, 1) := by decide +kernel
theorem dX8_counted_79 : decode cX8_counted 79 = .ok (.invokevirtual 216, 3) := by decide +kernel
theorem dX8_counted_82 : decode cX8_counted 82 = .ok (.ireturn, 1) := by decide +kernel
theorem dX8_counted_83 : decode cX8_counted 83 = .ok (.aload_n 0, 1) := by decide +kernel
theorem dX8_counted_84 : decode cX8_counted 84 = .ok (.invokevirtual 219, 3) := by decide +kernel
theorem dX8_counted_87 : decode cX8_counted 87 = .ok (.ireturn, 1) := by decide +kernel
theorem dX8_counted_88 : decode cX8_counted 88 = .ok (.aload_n 0, 1) := by decide +kernel
theorem dX8_counted_89 : decode cX8_counted 89 = .ok (.getfield 7, 3) := by decide +kernel
theorem dX8_counted_92 : decode cX8_counted 92 = .ok (.iconst 0, 1) := by decide +kernel
theorem dX8_counted_93 : decode cX8_counted 93 = .ok (.iaload, 1) := by decide +kernel
theorem dX8_counted_94 : decode cX8_counted 94 = .ok (.ireturn, 1) := by decide +kernel
theorem dX8_counted_95 : decode cX8_counted 95 = .ok (.aload_n 0, 1) := by decide +kernel
theorem dX8_counted_96 : decode cX8_counted 96 = .ok (.getfield 7, 3) := by decide +kernel
theorem dX8_counted_99 : decode cX8_counted 99 = .ok (.iconst 1, 1) := by decide +kernel
theorem dX8_counted_100 : decode cX8_counted 100 = .ok (.iaload, 1) := by decide +kernel
theorem dX8_counted_101 : decode cX8_counted 101 = .ok (.ireturn, 1) := by decide +kernel
theorem dX8_counted_102 : decode cX8_counted 102 = .ok (.aload_n 0, 1) := by decide +kernel
theorem dX8_counted_103 : decode cX8_counted 103 = .ok (.getfield 7, 3) := by decide +kernel
theorem dX8_counted_106 : decode cX8_counted 106 = .ok (.iconst 2, 1) := by decide +kernel
theorem dX8_counted_107 : decode cX8_counted 107 = .ok (.iaload, 1) := by decide +kernel
theorem dX8_counted_108 : decode cX8_counted 108 = .ok (.ireturn, 1) := by decide +kernel
theorem dX8_counted_109 : decode cX8_counted 109 = .ok (.aload_n 0, 1) := by decide +kernel
theorem dX8_counted_110 : decode cX8_counted 110 = .ok (.getfield 78, 3) := by decide +kernel
theorem dX8_counted_113 : decode cX8_counted 113 = .ok (.ireturn, 1) := by decide +kernel
theorem dX8_count_0 : decode cX8_count 0 = .ok (.aload_n 0, 1) := by decide +kernel
theorem dX8_count_1 : decode cX8_count 1 = .ok (.iconst 0, 1) := by decide +kernel
theorem dX8_count_2 : decode cX8_count 2 = .ok (.putfield 41, 3) := by decide +kernel
theorem dX8_count_5 : decode cX8_count 5 = .ok (.iload_n 1, 1) := by decide +kernel
theorem dX8_count_6 : decode cX8_count 6 = .ok (.iconst 0, 1) := by decide +kernel
theorem dX8_count_7 : decode cX8_count 7 = .ok (.bipush 11, 2) := by decide +kernel
theorem dX8_count_9 : decode cX8_count 9 = .ok (.invokestatic 45, 3) := by decide +kernel
theorem dX8_count_12 : decode cX8_count 12 = .ok (.ifCond .eq 11, 3) := by decide +kernel
theorem dX8_count_15 : decode cX8_count 15 = .ok (.aload_n 0, 1) := by decide +kernel
theorem dX8_count_16 : decode cX8_count 16 = .ok (.iload_n 1, 1) := by decide +kernel
theorem dX8_count_17 : decode cX8_count 17 = .ok (.invokevirtual 222, 3) := by decide +kernel
theorem dX8_count_20 : decode cX8_count 20 = .ok (.goto 8, 3) := by decide +kernel
theorem dX8_count_23 : decode cX8_count 23 = .ok (.aload_n 0, 1) := by decide +kernel
theorem dX8_count_24 : decode cX8_count 24 = .ok (.iconst 1, 1) := by decide +kernel
theorem dX8_count_25 : decode cX8_count 25 = .ok (.invokevirtual 81, 3) := by decide +kernel
theorem dX8_count_28 : decode cX8_count 28 = .ok (.ireturn, 1) := by decide +kernel
theorem dX8_ifPlaced_0 : decode cX8_ifPlaced 0 = .ok (.aload_n 0, 1) := by decide +kernel
theorem dX8_ifPlaced_1 : decode cX8_ifPlaced 1 = .ok (.iconst 0, 1) := by decide +kernel
theorem dX8_ifPlaced_2 : decode cX8_ifPlaced 2 = .ok (.putfield 41, 3) := by decide +kernel
theorem dX8_ifPlaced_5 : decode cX8_ifPlaced 5 = .ok (.iload_n 1, 1) := by decide +kernel
theorem dX8_ifPlaced_6 : decode cX8_ifPlaced 6 = .ok (.iconst 1, 1) := by decide +kernel
theorem dX8_ifPlaced_7 : decode cX8_ifPlaced 7 = .ok (.bipush 15, 2) := by decide +kernel
theorem dX8_ifPlaced_9 : decode cX8_ifPlaced 9 = .ok (.invokestatic 45, 3) := by decide +kernel
theorem dX8_ifPlaced_12 : decode cX8_ifPlaced 12 = .ok (.ifCond .eq 11, 3) := by decide +kernel
theorem dX8_ifPlaced_15 : decode cX8_ifPlaced 15 = .ok (.aload_n 0, 1) := by decide +kernel
theorem dX8_ifPlaced_16 : decode cX8_ifPlaced 16 = .ok (.iload_n 1, 1) := by decide +kernel
theorem dX8_ifPlaced_17 : decode cX8_ifPlaced 17 = .ok (.invokevirtual 103, 3) := by decide +kernel
theorem dX8_ifPlaced_20 : decode cX8_ifPlaced 20 = .ok (.goto 8, 3) := by decide +kernel
theorem dX8_ifPlaced_23 : decode cX8_ifPlaced 23 = .ok (.aload_n 0, 1) := by decide +kernel
theorem dX8_ifPlaced_24 : decode cX8_ifPlaced 24 = .ok (.iconst 1, 1) := by decide +kernel
theorem dX8_ifPlaced_25 : decode cX8_ifPlaced 25 = .ok (.invokevirtual 81, 3) := by decide +kernel
theorem dX8_ifPlaced_28 : decode cX8_ifPlaced 28 = .ok (.ireturn, 1) := by decide +kernel
theorem dX8_afterGrowing_0 : decode cX8_afterGrowing 0 = .ok (.aload_n 0, 1) := by decide +kernel
theorem dX8_afterGrowing_1 : decode cX8_afterGrowing 1 = .ok (.iload_n 1, 1) := by decide +kernel
theorem dX8_afterGrowing_2 : decode cX8_afterGrowing 2 = .ok (.iload_n 2, 1) := by decide +kernel
theorem dX8_afterGrowing_3 : decode cX8_afterGrowing 3 = .ok (.invokevirtual 134, 3) := by decide +kernel
theorem dX8_afterGrowing_6 : decode cX8_afterGrowing 6 = .ok (.istore_n 3, 1) := by decide +kernel
theorem dX8_afterGrowing_7 : decode cX8_afterGrowing 7 = .ok (.aload_n 0, 1) := by decide +kernel
theorem dX8_afterGrowing_8 : decode cX8_afterGrowing 8 = .ok (.invokevirtual 106, 3) := by decide +kernel
theorem dX8_afterGrowing_11 : decode cX8_afterGrowing 11 = .ok (.iload_n 3, 1) := by decide +kernel
theorem dX8_afterGrowing_12 : decode cX8_afterGrowing 12 = .ok (.ireturn, 1) := by decide +kernel
theorem dX8_ifGrown_0 : decode cX8_ifGrown 0 = .ok (.aload_n 0, 1) := by decide +kernel
theorem dX8_ifGrown_1 : decode cX8_ifGrown 1 = .ok (.iconst 0, 1) := by decide +kernel
theorem dX8_ifGrown_2 : decode cX8_ifGrown 2 = .ok (.putfield 41, 3) := by decide +kernel
theorem dX8_ifGrown_5 : decode cX8_ifGrown 5 = .ok (.aload_n 0, 1) := by decide +kernel
theorem dX8_ifGrown_6 : decode cX8_ifGrown 6 = .ok (.iload_n 1, 1) := by decide +kernel
theorem dX8_ifGrown_7 : decode cX8_ifGrown 7 = .ok (.invokevirtual 53, 3) := by decide +kernel
theorem dX8_ifGrown_10 : decode cX8_ifGrown 10 = .ok (.ifCond .ne 9, 3) := by decide +kernel
theorem dX8_ifGrown_13 : decode cX8_ifGrown 13 = .ok (.aload_n 0, 1) := by decide +kernel
theorem dX8_ifGrown_14 : decode cX8_ifGrown 14 = .ok (.iconst 1, 1) := by decide +kernel
theorem dX8_ifGrown_15 : decode cX8_ifGrown 15 = .ok (.invokevirtual 81, 3) := by decide +kernel
theorem dX8_ifGrown_18 : decode cX8_ifGrown 18 = .ok (.ireturn, 1) := by decide +kernel
theorem dX8_ifGrown_19 : decode cX8_ifGrown 19 = .ok (.iload_n 2, 1) := by decide +kernel
theorem dX8_ifGrown_20 : decode cX8_ifGrown 20 = .ok (.iconst 1, 1) := by decide +kernel
theorem dX8_ifGrown_21 : decode cX8_ifGrown 21 = .ok (.sipush 200, 3) := by decide +kernel
theorem dX8_ifGrown_24 : decode cX8_ifGrown 24 = .ok (.invokestatic 45, 3) := by decide +kernel
theorem dX8_ifGrown_27 : decode cX8_ifGrown 27 = .ok (.ifCond .eq 12, 3) := by decide +kernel
theorem dX8_ifGrown_30 : decode cX8_ifGrown 30 = .ok (.aload_n 0, 1) := by decide +kernel
theorem dX8_ifGrown_31 : decode cX8_ifGrown 31 = .ok (.iload_n 1, 1) := by decide +kernel
theorem dX8_ifGrown_32 : decode cX8_ifGrown 32 = .ok (.iload_n 2, 1) := by decide +kernel
theorem dX8_ifGrown_33 : decode cX8_ifGrown 33 = .ok (.invokevirtual 225, 3) := by decide +kernel
theorem dX8_ifGrown_36 : decode cX8_ifGrown 36 = .ok (.goto 8, 3) := by decide +kernel
theorem dX8_ifGrown_39 : decode cX8_ifGrown 39 = .ok (.aload_n 0, 1) := by decide +kernel
theorem dX8_ifGrown_40 : decode cX8_ifGrown 40 = .ok (.iconst 2, 1) := by decide +kernel
theorem dX8_ifGrown_41 : decode cX8_ifGrown 41 = .ok (.invokevirtual 81, 3) := by decide +kernel
theorem dX8_ifGrown_44 : decode cX8_ifGrown 44 = .ok (.ireturn, 1) := by decide +kernel
theorem dX8_couldCome_0 : decode cX8_couldCome 0 = .ok (.aload_n 0, 1) := by decide +kernel
theorem dX8_couldCome_1 : decode cX8_couldCome 1 = .ok (.iconst 0, 1) := by decide +kernel
theorem dX8_couldCome_2 : decode cX8_couldCome 2 = .ok (.invokevirtual 146, 3) := by decide +kernel
theorem dX8_couldCome_5 : decode cX8_couldCome 5 = .ok (.istore_n 2, 1) := by decide +kernel
theorem dX8_couldCome_6 : decode cX8_couldCome 6 = .ok (.iload_n 1, 1) := by decide +kernel
theorem dX8_couldCome_7 : decode cX8_couldCome 7 = .ok (.bipush 16, 2) := by decide +kernel
theorem dX8_couldCome_9 : decode cX8_couldCome 9 = .ok (.idiv, 1) := by decide +kernel
theorem dX8_couldCome_10 : decode cX8_couldCome 10 = .ok (.istore_n 3, 1) := by decide +kernel
theorem dX8_couldCome_11 : decode cX8_couldCome 11 = .ok (.iload_n 3, 1) := by decide +kernel
theorem dX8_couldCome_12 : decode cX8_couldCome 12 = .ok (.iload_n 2, 1) := by decide +kernel
theorem dX8_couldCome_13 : decode cX8_couldCome 13 = .ok (.if_icmp .gt 31, 3) := by decide +kernel
theorem dX8_couldCome_16 : decode cX8_couldCome 16 = .ok (.iload_n 1, 1) := by decide +kernel
theorem dX8_couldCome_17 : decode cX8_couldCome 17 = .ok (.bipush 16, 2) := by decide +kernel
theorem dX8_couldCome_19 : decode cX8_couldCome 19 = .ok (.irem, 1) := by decide +kernel
theorem dX8_couldCome_20 : decode cX8_couldCome 20 = .ok (.ifCond .eq 20, 3) := by decide +kernel
theorem dX8_couldCome_23 : decode cX8_couldCome 23 = .ok (.iload_n 3, 1) := by decide +kernel
theorem dX8_couldCome_24 : decode cX8_couldCome 24 = .ok (.iload_n 2, 1) := by decide +kernel
theorem dX8_couldCome_25 : decode cX8_couldCome 25 = .ok (.if_icmp .lt 15, 3) := by decide +kernel
theorem dX8_couldCome_28 : decode cX8_couldCome 28 = .ok (.aload_n 0, 1) := by decide +kernel
theorem dX8_couldCome_29 : decode cX8_couldCome 29 = .ok (.iload_n 1, 1) := by decide +kernel
theorem dX8_couldCome_30 : decode cX8_couldCome 30 = .ok (.bipush 16, 2) := by decide +kernel
theorem dX8_couldCome_32 : decode cX8_couldCome 32 = .ok (.irem, 1) := by decide +kernel
theorem dX8_couldCome_33 : decode cX8_couldCome 33 = .ok (.invokevirtual 71, 3) := by decide +kernel
theorem dX8_couldCome_36 : decode cX8_couldCome 36 = .ok (.iconst (-1), 1) := by decide +kernel
theorem dX8_couldCome_37 : decode cX8_couldCome 37 = .ok (.if_icmp .eq 7, 3) := by decide +kernel
theorem dX8_couldCome_40 : decode cX8_couldCome 40 = .ok (.iconst 1, 1) := by decide +kernel
theorem dX8_couldCome_41 : decode cX8_couldCome 41 = .ok (.goto 4, 3) := by decide +kernel
theorem dX8_couldCome_44 : decode cX8_couldCome 44 = .ok (.iconst 0, 1) := by decide +kernel
theorem dX8_couldCome_45 : decode cX8_couldCome 45 = .ok (.ireturn, 1) := by decide +kernel
theorem dX8_greatestSize_0 : decode cX8_greatestSize 0 = .ok (.aload_n 0, 1) := by decide +kernel
theorem dX8_greatestSize_1 : decode cX8_greatestSize 1 = .ok (.invokevirtual 84, 3) := by decide +kernel
theorem dX8_greatestSize_4 : decode cX8_greatestSize 4 = .ok (.bipush 10, 2) := by decide +kernel
theorem dX8_greatestSize_6 : decode cX8_greatestSize 6 = .ok (.if_icmp .ne 5, 3) := by decide +kernel
theorem dX8_greatestSize_9 : decode cX8_greatestSize 9 = .ok (.iconst (-1), 1) := by decide +kernel
theorem dX8_greatestSize_10 : decode cX8_greatestSize 10 = .ok (.ireturn, 1) := by decide +kernel
theorem dX8_greatestSize_11 : decode cX8_greatestSize 11 = .ok (.sipush 200, 3) := by decide +kernel
theorem dX8_greatestSize_14 : decode cX8_greatestSize 14 = .ok (.istore_n 1, 1) := by decide +kernel
theorem dX8_greatestSize_15 : decode cX8_greatestSize 15 = .ok (.aload_n 0, 1) := by decide +kernel
theorem dX8_greatestSize_16 : decode cX8_greatestSize 16 = .ok (.iload_n 1, 1) := by decide +kernel
theorem dX8_greatestSize_17 : decode cX8_greatestSize 17 = .ok (.invokevirtual 228, 3) := by decide +kernel
theorem dX8_greatestSize_20 : decode cX8_greatestSize 20 = .ok (.ifCond .ne 9, 3) := by decide +kernel
theorem dX8_greatestSize_23 : decode cX8_greatestSize 23 = .ok (.iinc 1 (-1), 3) := by decide +kernel
theorem dX8_greatestSize_26 : decode cX8_greatestSize 26 = .ok (.goto (-11), 3) := by decide +kernel
theorem dX8_greatestSize_29 : decode cX8_greatestSize 29 = .ok (.iload_n 1, 1) := by decide +kernel
theorem dX8_greatestSize_30 : decode cX8_greatestSize 30 = .ok (.ireturn, 1) := by decide +kernel
theorem dX8_greatest_0 : decode cX8_greatest 0 = .ok (.aload_n 0, 1) := by decide +kernel
theorem dX8_greatest_1 : decode cX8_greatest 1 = .ok (.iconst 0, 1) := by decide +kernel
theorem dX8_greatest_2 : decode cX8_greatest 2 = .ok (.putfield 41, 3) := by decide +kernel
theorem dX8_greatest_5 : decode cX8_greatest 5 = .ok (.aload_n 0, 1) := by decide +kernel
theorem dX8_greatest_6 : decode cX8_greatest 6 = .ok (.invokevirtual 231, 3) := by decide +kernel
theorem dX8_greatest_9 : decode cX8_greatest 9 = .ok (.ireturn, 1) := by decide +kernel
theorem dX8_fewestBlocks_0 : decode cX8_fewestBlocks 0 = .ok (.aload_n 0, 1) := by decide +kernel
theorem dX8_fewestBlocks_1 : decode cX8_fewestBlocks 1 = .ok (.invokevirtual 152, 3) := by decide +kernel
theorem dX8_fewestBlocks_4 : decode cX8_fewestBlocks 4 = .ok (.istore_n 1, 1) := by decide +kernel
theorem dX8_fewestBlocks_5 : decode cX8_fewestBlocks 5 = .ok (.aload_n 0, 1) := by decide +kernel
theorem dX8_fewestBlocks_6 : decode cX8_fewestBlocks 6 = .ok (.getfield 32, 3) := by decide +kernel
