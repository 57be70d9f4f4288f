theorem dX0_init_0 : decode cX0_init 0 = .ok (.aload_n 0, 1) := by decide +kernel
theorem dX0_init_1 : decode cX0_init 1 = .ok (.invokespecial 3, 3) := by decide +kernel
theorem dX0_init_4 : decode cX0_init 4 = .ok (.aload_n 0, 1) := by decide +kernel
theorem dX0_init_5 : decode cX0_init 5 = .ok (.bipush 24, 2) := by decide +kernel
theorem dX0_init_7 : decode cX0_init 7 = .ok (.newarray .int, 2) := by decide +kernel
theorem dX0_init_9 : decode cX0_init 9 = .ok (.putfield 9, 3) := by decide +kernel
theorem dX0_init_12 : decode cX0_init 12 = .ok (.aload_n 0, 1) := by decide +kernel
theorem dX0_init_13 : decode cX0_init 13 = .ok (.bipush 24, 2) := by decide +kernel
theorem dX0_init_15 : decode cX0_init 15 = .ok (.newarray .int, 2) := by decide +kernel
theorem dX0_init_17 : decode cX0_init 17 = .ok (.putfield 15, 3) := by decide +kernel
theorem dX0_init_20 : decode cX0_init 20 = .ok (.aload_n 0, 1) := by decide +kernel
theorem dX0_init_21 : decode cX0_init 21 = .ok (.bipush 24, 2) := by decide +kernel
theorem dX0_init_23 : decode cX0_init 23 = .ok (.newarray .int, 2) := by decide +kernel
theorem dX0_init_25 : decode cX0_init 25 = .ok (.putfield 18, 3) := by decide +kernel
theorem dX0_init_28 : decode cX0_init 28 = .ok (.aload_n 0, 1) := by decide +kernel
theorem dX0_init_29 : decode cX0_init 29 = .ok (.bipush 10, 2) := by decide +kernel
theorem dX0_init_31 : decode cX0_init 31 = .ok (.newarray .int, 2) := by decide +kernel
theorem dX0_init_33 : decode cX0_init 33 = .ok (.putfield 21, 3) := by decide +kernel
theorem dX0_init_36 : decode cX0_init 36 = .ok (.aload_n 0, 1) := by decide +kernel
theorem dX0_init_37 : decode cX0_init 37 = .ok (.bipush 10, 2) := by decide +kernel
theorem dX0_init_39 : decode cX0_init 39 = .ok (.newarray .int, 2) := by decide +kernel
theorem dX0_init_41 : decode cX0_init 41 = .ok (.putfield 24, 3) := by decide +kernel
theorem dX0_init_44 : decode cX0_init 44 = .ok (.aload_n 0, 1) := by decide +kernel
theorem dX0_init_45 : decode cX0_init 45 = .ok (.bipush 10, 2) := by decide +kernel
theorem dX0_init_47 : decode cX0_init 47 = .ok (.newarray .int, 2) := by decide +kernel
theorem dX0_init_49 : decode cX0_init 49 = .ok (.putfield 27, 3) := by decide +kernel
theorem dX0_init_52 : decode cX0_init 52 = .ok (.aload_n 0, 1) := by decide +kernel
theorem dX0_init_53 : decode cX0_init 53 = .ok (.bipush 10, 2) := by decide +kernel
theorem dX0_init_55 : decode cX0_init 55 = .ok (.newarray .int, 2) := by decide +kernel
theorem dX0_init_57 : decode cX0_init 57 = .ok (.putfield 30, 3) := by decide +kernel
theorem dX0_init_60 : decode cX0_init 60 = .ok (.aload_n 0, 1) := by decide +kernel
theorem dX0_init_61 : decode cX0_init 61 = .ok (.bipush 10, 2) := by decide +kernel
theorem dX0_init_63 : decode cX0_init 63 = .ok (.newarray .int, 2) := by decide +kernel
theorem dX0_init_65 : decode cX0_init 65 = .ok (.putfield 33, 3) := by decide +kernel
theorem dX0_init_68 : decode cX0_init 68 = .ok (.aload_n 0, 1) := by decide +kernel
theorem dX0_init_69 : decode cX0_init 69 = .ok (.iconst 0, 1) := by decide +kernel
theorem dX0_init_70 : decode cX0_init 70 = .ok (.putfield 36, 3) := by decide +kernel
theorem dX0_init_73 : decode cX0_init 73 = .ok (.aload_n 0, 1) := by decide +kernel
theorem dX0_init_74 : decode cX0_init 74 = .ok (.iconst 0, 1) := by decide +kernel
theorem dX0_init_75 : decode cX0_init 75 = .ok (.putfield 40, 3) := by decide +kernel
theorem dX0_init_78 : decode cX0_init 78 = .ok (.aload_n 0, 1) := by decide +kernel
theorem dX0_init_79 : decode cX0_init 79 = .ok (.iconst 0, 1) := by decide +kernel
theorem dX0_init_80 : decode cX0_init 80 = .ok (.putfield 43, 3) := by decide +kernel
theorem dX0_init_83 : decode cX0_init 83 = .ok (.iconst 0, 1) := by decide +kernel
theorem dX0_init_84 : decode cX0_init 84 = .ok (.istore_n 1, 1) := by decide +kernel
theorem dX0_init_85 : decode cX0_init 85 = .ok (.iload_n 1, 1) := by decide +kernel
theorem dX0_init_86 : decode cX0_init 86 = .ok (.bipush 24, 2) := by decide +kernel
theorem dX0_init_88 : decode cX0_init 88 = .ok (.if_icmp .ge 16, 3) := by decide +kernel
theorem dX0_init_91 : decode cX0_init 91 = .ok (.aload_n 0, 1) := by decide +kernel
theorem dX0_init_92 : decode cX0_init 92 = .ok (.getfield 15, 3) := by decide +kernel
theorem dX0_init_95 : decode cX0_init 95 = .ok (.iload_n 1, 1) := by decide +kernel
theorem dX0_init_96 : decode cX0_init 96 = .ok (.iconst (-1), 1) := by decide +kernel
theorem dX0_init_97 : decode cX0_init 97 = .ok (.iastore, 1) := by decide +kernel
theorem dX0_init_98 : decode cX0_init 98 = .ok (.iinc 1 1, 3) := by decide +kernel
theorem dX0_init_101 : decode cX0_init 101 = .ok (.goto (-16), 3) := by decide +kernel
theorem dX0_init_104 : decode cX0_init 104 = .ok (.iconst 0, 1) := by decide +kernel
theorem dX0_init_105 : decode cX0_init 105 = .ok (.istore_n 1, 1) := by decide +kernel
theorem dX0_init_106 : decode cX0_init 106 = .ok (.iload_n 1, 1) := by decide +kernel
theorem dX0_init_107 : decode cX0_init 107 = .ok (.bipush 10, 2) := by decide +kernel
theorem dX0_init_109 : decode cX0_init 109 = .ok (.if_icmp .ge 30, 3) := by decide +kernel
theorem dX0_init_112 : decode cX0_init 112 = .ok (.aload_n 0, 1) := by decide +kernel
theorem dX0_init_113 : decode cX0_init 113 = .ok (.getfield 21, 3) := by decide +kernel
theorem dX0_init_116 : decode cX0_init 116 = .ok (.iload_n 1, 1) := by decide +kernel
theorem dX0_init_117 : decode cX0_init 117 = .ok (.iconst (-1), 1) := by decide +kernel
theorem dX0_init_118 : decode cX0_init 118 = .ok (.iastore, 1) := by decide +kernel
theorem dX0_init_119 : decode cX0_init 119 = .ok (.aload_n 0, 1) := by decide +kernel
theorem dX0_init_120 : decode cX0_init 120 = .ok (.getfield 24, 3) := by decide +kernel
theorem dX0_init_123 : decode cX0_init 123 = .ok (.iload_n 1, 1) := by decide +kernel
theorem dX0_init_124 : decode cX0_init 124 = .ok (.iconst (-1), 1) := by decide +kernel
theorem dX0_init_125 : decode cX0_init 125 = .ok (.iastore, 1) := by decide +kernel
theorem dX0_init_126 : decode cX0_init 126 = .ok (.aload_n 0, 1) := by decide +kernel
theorem dX0_init_127 : decode cX0_init 127 = .ok (.getfield 27, 3) := by decide +kernel
theorem dX0_init_130 : decode cX0_init 130 = .ok (.iload_n 1, 1) := by decide +kernel
theorem dX0_init_131 : decode cX0_init 131 = .ok (.iconst (-1), 1) := by decide +kernel
theorem dX0_init_132 : decode cX0_init 132 = .ok (.iastore, 1) := by decide +kernel
theorem dX0_init_133 : decode cX0_init 133 = .ok (.iinc 1 1, 3) := by decide +kernel
theorem dX0_init_136 : decode cX0_init 136 = .ok (.goto (-30), 3) := by decide +kernel
theorem dX0_init_139 : decode cX0_init 139 = .ok (.return_, 1) := by decide +kernel
theorem dX0_copyFrom_0 : decode cX0_copyFrom 0 = .ok (.aload_n 1, 1) := by decide +kernel
theorem dX0_copyFrom_1 : decode cX0_copyFrom 1 = .ok (.ifnonnull 4, 3) := by decide +kernel
theorem dX0_copyFrom_4 : decode cX0_copyFrom 4 = .ok (.return_, 1) := by decide +kernel
theorem dX0_copyFrom_5 : decode cX0_copyFrom 5 = .ok (.iconst 0, 1) := by decide +kernel
theorem dX0_copyFrom_6 : decode cX0_copyFrom 6 = .ok (.istore_n 2, 1) := by decide +kernel
theorem dX0_copyFrom_7 : decode cX0_copyFrom 7 = .ok (.iload_n 2, 1) := by decide +kernel
theorem dX0_copyFrom_8 : decode cX0_copyFrom 8 = .ok (.bipush 24, 2) := by decide +kernel
theorem dX0_copyFrom_10 : decode cX0_copyFrom 10 = .ok (.if_icmp .ge 45, 3) := by decide +kernel
theorem dX0_copyFrom_13 : decode cX0_copyFrom 13 = .ok (.aload_n 0, 1) := by decide +kernel
theorem dX0_copyFrom_14 : decode cX0_copyFrom 14 = .ok (.getfield 9, 3) := by decide +kernel
theorem dX0_copyFrom_17 : decode cX0_copyFrom 17 = .ok (.iload_n 2, 1) := by decide +kernel
theorem dX0_copyFrom_18 : decode cX0_copyFrom 18 = .ok (.aload_n 1, 1) := by decide +kernel
theorem dX0_copyFrom_19 : decode cX0_copyFrom 19 = .ok (.getfield 9, 3) := by decide +kernel
theorem dX0_copyFrom_22 : decode cX0_copyFrom 22 = .ok (.iload_n 2, 1) := by decide +kernel
theorem dX0_copyFrom_23 : decode cX0_copyFrom 23 = .ok (.iaload, 1) := by decide +kernel
theorem dX0_copyFrom_24 : decode cX0_copyFrom 24 = .ok (.iastore, 1) := by decide +kernel
theorem dX0_copyFrom_25 : decode cX0_copyFrom 25 = .ok (.aload_n 0, 1) := by decide +kernel
theorem dX0_copyFrom_26 : decode cX0_copyFrom 26 = .ok (.getfield 15, 3) := by decide +kernel
theorem dX0_copyFrom_29 : decode cX0_copyFrom 29 = .ok (.iload_n 2, 1) := by decide +kernel
theorem dX0_copyFrom_30 : decode cX0_copyFrom 30 = .ok (.aload_n 1, 1) := by decide +kernel
theorem dX0_copyFrom_31 : decode cX0_copyFrom 31 = .ok (.getfield 15, 3) := by decide +kernel
theorem dX0_copyFrom_34 : decode cX0_copyFrom 34 = .ok (.iload_n 2, 1) := by decide +kernel
theorem dX0_copyFrom_35 : decode cX0_copyFrom 35 = .ok (.iaload, 1) := by decide +kernel
theorem dX0_copyFrom_36 : decode cX0_copyFrom 36 = .ok (.iastore, 1) := by decide +kernel
theorem dX0_copyFrom_37 : decode cX0_copyFrom 37 = .ok (.aload_n 0, 1) := by decide +kernel
theorem dX0_copyFrom_38 : decode cX0_copyFrom 38 = .ok (.getfield 18, 3) := by decide +kernel
theorem dX0_copyFrom_41 : decode cX0_copyFrom 41 = .ok (.iload_n 2, 1) := by decide +kernel
theorem dX0_copyFrom_42 : decode cX0_copyFrom 42 = .ok (.aload_n 1, 1) := by decide +kernel
theorem dX0_copyFrom_43 : decode cX0_copyFrom 43 = .ok (.getfield 18, 3) := by decide +kernel
theorem dX0_copyFrom_46 : decode cX0_copyFrom 46 = .ok (.iload_n 2, 1) := by decide +kernel
theorem dX0_copyFrom_47 : decode cX0_copyFrom 47 = .ok (.iaload, 1) := by decide +kernel
theorem dX0_copyFrom_48 : decode cX0_copyFrom 48 = .ok (.iastore, 1) := by decide +kernel
theorem dX0_copyFrom_49 : decode cX0_copyFrom 49 = .ok (.iinc 2 1, 3) := by decide +kernel
theorem dX0_copyFrom_52 : decode cX0_copyFrom 52 = .ok (.goto (-45), 3) := by decide +kernel
theorem dX0_copyFrom_55 : decode cX0_copyFrom 55 = .ok (.iconst 0, 1) := by decide +kernel
theorem dX0_copyFrom_56 : decode cX0_copyFrom 56 = .ok (.istore_n 2, 1) := by decide +kernel
theorem dX0_copyFrom_57 : decode cX0_copyFrom 57 = .ok (.iload_n 2, 1) := by decide +kernel
theorem dX0_copyFrom_58 : decode cX0_copyFrom 58 = .ok (.bipush 10, 2) := by decide +kernel
theorem dX0_copyFrom_60 : decode cX0_copyFrom 60 = .ok (.if_icmp .ge 69, 3) := by decide +kernel
theorem dX0_copyFrom_63 : decode cX0_copyFrom 63 = .ok (.aload_n 0, 1) := by decide +kernel
theorem dX0_copyFrom_64 : decode cX0_copyFrom 64 = .ok (.getfield 21, 3) := by decide +kernel
theorem dX0_copyFrom_67 : decode cX0_copyFrom 67 = .ok (.iload_n 2, 1) := by decide +kernel
theorem dX0_copyFrom_68 : decode cX0_copyFrom 68 = .ok (.aload_n 1, 1) := by decide +kernel
theorem dX0_copyFrom_69 : decode cX0_copyFrom 69 = .ok (.getfield 21, 3) := by decide +kernel
theorem dX0_copyFrom_72 : decode cX0_copyFrom 72 = .ok (.iload_n 2, 1) := by decide +kernel
theorem dX0_copyFrom_73 : decode cX0_copyFrom 73 = .ok (.iaload, 1) := by decide +kernel
theorem dX0_copyFrom_74 : decode cX0_copyFrom 74 = .ok (.iastore, 1) := by decide +kernel
theorem dX0_copyFrom_75 : decode cX0_copyFrom 75 = .ok (.aload_n 0, 1) := by decide +kernel
theorem dX0_copyFrom_76 : decode cX0_copyFrom 76 = .ok (.getfield 24, 3) := by decide +kernel
theorem dX0_copyFrom_79 : decode cX0_copyFrom 79 = .ok (.iload_n 2, 1) := by decide +kernel
theorem dX0_copyFrom_80 : decode cX0_copyFrom 80 = .ok (.aload_n 1, 1) := by decide +kernel
theorem dX0_copyFrom_81 : decode cX0_copyFrom 81 = .ok (.getfield 24, 3) := by decide +kernel
theorem dX0_copyFrom_84 : decode cX0_copyFrom 84 = .ok (.iload_n 2, 1) := by decide +kernel
theorem dX0_copyFrom_85 : decode cX0_copyFrom 85 = .ok (.iaload, 1) := by decide +kernel
theorem dX0_copyFrom_86 : decode cX0_copyFrom 86 = .ok (.iastore, 1) := by decide +kernel
theorem dX0_copyFrom_87 : decode cX0_copyFrom 87 = .ok (.aload_n 0, 1) := by decide +kernel
theorem dX0_copyFrom_88 : decode cX0_copyFrom 88 = .ok (.getfield 27, 3) := by decide +kernel
theorem dX0_copyFrom_91 : decode cX0_copyFrom 91 = .ok (.iload_n 2, 1) := by decide +kernel
theorem dX0_copyFrom_92 : decode cX0_copyFrom 92 = .ok (.aload_n 1, 1) := by decide +kernel
theorem dX0_copyFrom_93 : decode cX0_copyFrom 93 = .ok (.getfield 27, 3) := by decide +kernel
theorem dX0_copyFrom_96 : decode cX0_copyFrom 96 = .ok (.iload_n 2, 1) := by decide +kernel
theorem dX0_copyFrom_97 : decode cX0_copyFrom 97 = .ok (.iaload, 1) := by decide +kernel
theorem dX0_copyFrom_98 : decode cX0_copyFrom 98 = .ok (.iastore, 1) := by decide +kernel
theorem dX0_copyFrom_99 : decode cX0_copyFrom 99 = .ok (.aload_n 0, 1) := by decide +kernel
theorem dX0_copyFrom_100 : decode cX0_copyFrom 100 = .ok (.getfield 30, 3) := by decide +kernel
theorem dX0_copyFrom_103 : decode cX0_copyFrom 103 = .ok (.iload_n 2, 1) := by decide +kernel
theorem dX0_copyFrom_104 : decode cX0_copyFrom 104 = .ok (.aload_n 1, 1) := by decide +kernel
theorem dX0_copyFrom_105 : decode cX0_copyFrom 105 = .ok (.getfield 30, 3) := by decide +kernel
theorem dX0_copyFrom_108 : decode cX0_copyFrom 108 = .ok (.iload_n 2, 1) := by decide +kernel
theorem dX0_copyFrom_109 : decode cX0_copyFrom 109 = .ok (.iaload, 1) := by decide +kernel
theorem dX0_copyFrom_110 : decode cX0_copyFrom 110 = .ok (.iastore, 1) := by decide +kernel
theorem dX0_copyFrom_111 : decode cX0_copyFrom 111 = .ok (.aload_n 0, 1) := by decide +kernel
theorem dX0_copyFrom_112 : decode cX0_copyFrom 112 = .ok (.getfield 33, 3) := by decide +kernel
theorem dX0_copyFrom_115 : decode cX0_copyFrom 115 = .ok (.iload_n 2, 1) := by decide +kernel
theorem dX0_copyFrom_116 : decode cX0_copyFrom 116 = .ok (.aload_n 1, 1) := by decide +kernel
theorem dX0_copyFrom_117 : decode cX0_copyFrom 117 = .ok (.getfield 33, 3) := by decide +kernel
theorem dX0_copyFrom_120 : decode cX0_copyFrom 120 = .ok (.iload_n 2, 1) := by decide +kernel
theorem dX0_copyFrom_121 : decode cX0_copyFrom 121 = .ok (.iaload, 1) := by decide +kernel
theorem dX0_copyFrom_122 : decode cX0_copyFrom 122 = .ok (.iastore, 1) := by decide +kernel
theorem dX0_copyFrom_123 : decode cX0_copyFrom 123 = .ok (.iinc 2 1, 3) := by decide +kernel
theorem dX0_copyFrom_126 : decode cX0_copyFrom 126 = .ok (.goto (-69), 3) := by decide +kernel
theorem dX0_copyFrom_129 : decode cX0_copyFrom 129 = .ok (.aload_n 0, 1) := by decide +kernel
theorem dX0_copyFrom_130 : decode cX0_copyFrom 130 = .ok (.aload_n 1, 1) := by decide +kernel
theorem dX0_copyFrom_131 : decode cX0_copyFrom 131 = .ok (.getfield 36, 3) := by decide +kernel
theorem dX0_copyFrom_134 : decode cX0_copyFrom 134 = .ok (.putfield 36, 3) := by decide +kernel
theorem dX0_copyFrom_137 : decode cX0_copyFrom 137 = .ok (.aload_n 0, 1) := by decide +kernel
theorem dX0_copyFrom_138 : decode cX0_copyFrom 138 = .ok (.aload_n 1, 1) := by decide +kernel
theorem dX0_copyFrom_139 : decode cX0_copyFrom 139 = .ok (.getfield 40, 3) := by decide +kernel
theorem dX0_copyFrom_142 : decode cX0_copyFrom 142 = .ok (.putfield 40, 3) := by decide +kernel
theorem dX0_copyFrom_145 : decode cX0_copyFrom 145 = .ok (.aload_n 0, 1) := by decide +kernel
theorem dX0_copyFrom_146 : decode cX0_copyFrom 146 = .ok (.aload_n 1, 1) := by decide +kernel
theorem dX0_copyFrom_147 : decode cX0_copyFrom 147 = .ok (.getfield 43, 3) := by decide +kernel
theorem dX0_copyFrom_150 : decode cX0_copyFrom 150 = .ok (.putfield 43, 3) := by decide +kernel
theorem dX0_copyFrom_153 : decode cX0_copyFrom 153 = .ok (.return_, 1) := by decide +kernel
theorem dX0_exists_0 : decode cX0_exists 0 = .ok (.iload_n 1, 1) := by decide +kernel
theorem dX0_exists_1 : decode cX0_exists 1 = .ok (.ifCond .lt 23, 3) := by decide +kernel
theorem dX0_exists_4 : decode cX0_exists 4 = .ok (.iload_n 1, 1) := by decide +kernel
theorem dX0_exists_5 : decode cX0_exists 5 = .ok (.bipush 10, 2) := by decide +kernel
theorem dX0_exists_7 : decode cX0_exists 7 = .ok (.if_icmp .ge 17, 3) := by decide +kernel
theorem dX0_exists_10 : decode cX0_exists 10 = .ok (.aload_n 0, 1) := by decide +kernel
theorem dX0_exists_11 : decode cX0_exists 11 = .ok (.getfield 21, 3) := by decide +kernel
theorem dX0_exists_14 : decode cX0_exists 14 = .ok (.iload_n 1, 1) := by decide +kernel
theorem dX0_exists_15 : decode cX0_exists 15 = .ok (.iaload, 1) := by decide +kernel
theorem dX0_exists_16 : decode cX0_exists 16 = .ok (.iconst (-1), 1) := by decide +kernel
theorem dX0_exists_17 : decode cX0_exists 17 = .ok (.if_icmp .eq 7, 3) := by decide +kernel
theorem dX0_exists_20 : decode cX0_exists 20 = .ok (.iconst 1, 1) := by decide +kernel
theorem dX0_exists_21 : decode cX0_exists 21 = .ok (.goto 4, 3) := by decide +kernel
theorem dX0_exists_24 : decode cX0_exists 24 = .ok (.iconst 0, 1) := by decide +kernel
theorem dX0_exists_25 : decode cX0_exists 25 = .ok (.ireturn, 1) := by decide +kernel
theorem dX0_files_0 : decode cX0_files 0 = .ok (.iconst 0, 1) := by decide +kernel
theorem dX0_files_1 : decode cX0_files 1 = .ok (.istore_n 1, 1) := by decide +kernel
theorem dX0_files_2 : decode cX0_files 2 = .ok (.iconst 0, 1) := by decide +kernel
theorem dX0_files_3 : decode cX0_files 3 = .ok (.istore_n 2, 1) := by decide +kernel
theorem dX0_files_4 : decode cX0_files 4 = .ok (.iload_n 2, 1) := by decide +kernel
theorem dX0_files_5 : decode cX0_files 5 = .ok (.bipush 10, 2) := by decide +kernel
theorem dX0_files_7 : decode cX0_files 7 = .ok (.if_icmp .ge 27, 3) := by decide +kernel
theorem dX0_files_10 : decode cX0_files 10 = .ok (.iload_n 1, 1) := by decide +kernel
theorem dX0_files_11 : decode cX0_files 11 = .ok (.aload_n 0, 1) := by decide +kernel
theorem dX0_files_12 : decode cX0_files 12 = .ok (.getfield 21, 3) := by decide +kernel
theorem dX0_files_15 : decode cX0_files 15 = .ok (.iload_n 2, 1) := by decide +kernel
theorem dX0_files_16 : decode cX0_files 16 = .ok (.iaload, 1) := by decide +kernel
theorem dX0_files_17 : decode cX0_files 17 = .ok (.iconst (-1), 1) := by decide +kernel
theorem dX0_files_18 : decode cX0_files 18 = .ok (.if_icmp .ne 7, 3) := by decide +kernel
theorem dX0_files_21 : decode cX0_files 21 = .ok (.iconst 0, 1) := by decide +kernel
theorem dX0_files_22 : decode cX0_files 22 = .ok (.goto 4, 3) := by decide +kernel
theorem dX0_files_25 : decode cX0_files 25 = .ok (.iconst 1, 1) := by decide +kernel
theorem dX0_files_26 : decode cX0_files 26 = .ok (.iadd, 1) := by decide +kernel
theorem dX0_files_27 : decode cX0_files 27 = .ok (.istore_n 1, 1) := by decide +kernel
theorem dX0_files_28 : decode cX0_files 28 = .ok (.iinc 2 1, 3) := by decide +kernel
theorem dX0_files_31 : decode cX0_files 31 = .ok (.goto (-27), 3) := by decide +kernel
theorem dX0_files_34 : decode cX0_files 34 = .ok (.iload_n 1, 1) := by decide +kernel
theorem dX0_files_35 : decode cX0_files 35 = .ok (.ireturn, 1) := by decide +kernel
theorem dX0_brokenFiles_0 : decode cX0_brokenFiles 0 = .ok (.iconst 0, 1) := by decide +kernel
theorem dX0_brokenFiles_1 : decode cX0_brokenFiles 1 = .ok (.istore_n 1, 1) := by decide +kernel
theorem dX0_brokenFiles_2 : decode cX0_brokenFiles 2 = .ok (.iconst 0, 1) := by decide +kernel
theorem dX0_brokenFiles_3 : decode cX0_brokenFiles 3 = .ok (.istore_n 2, 1) := by decide +kernel
theorem dX0_brokenFiles_4 : decode cX0_brokenFiles 4 = .ok (.iload_n 2, 1) := by decide +kernel
theorem dX0_brokenFiles_5 : decode cX0_brokenFiles 5 = .ok (.bipush 10, 2) := by decide +kernel
theorem dX0_brokenFiles_7 : decode cX0_brokenFiles 7 = .ok (.if_icmp .ge 18, 3) := by decide +kernel
theorem dX0_brokenFiles_10 : decode cX0_brokenFiles 10 = .ok (.iload_n 1, 1) := by decide +kernel
theorem dX0_brokenFiles_11 : decode cX0_brokenFiles 11 = .ok (.aload_n 0, 1) := by decide +kernel
theorem dX0_brokenFiles_12 : decode cX0_brokenFiles 12 = .ok (.getfield 30, 3) := by decide +kernel
theorem dX0_brokenFiles_15 : decode cX0_brokenFiles 15 = .ok (.iload_n 2, 1) := by decide +kernel
theorem dX0_brokenFiles_16 : decode cX0_brokenFiles 16 = .ok (.iaload, 1) := by decide +kernel
theorem dX0_brokenFiles_17 : decode cX0_brokenFiles 17 = .ok (.iadd, 1) := by decide +kernel
theorem dX0_brokenFiles_18 : decode cX0_brokenFiles 18 = .ok (.istore_n 1, 1) := by decide +kernel
theorem dX0_brokenFiles_19 : decode cX0_brokenFiles 19 = .ok (.iinc 2 1, 3) := by decide +kernel
theorem dX0_brokenFiles_22 : decode cX0_brokenFiles 22 = .ok (.goto (-18), 3) := by decide +kernel
theorem dX0_brokenFiles_25 : decode cX0_brokenFiles 25 = .ok (.iload_n 1, 1) := by decide +kernel
theorem dX0_brokenFiles_26 : decode cX0_brokenFiles 26 = .ok (.ireturn, 1) := by decide +kernel
theorem dX0_isBroken_0 : decode cX0_isBroken 0 = .ok (.aload_n 0, 1) := by decide +kernel
theorem dX0_isBroken_1 : decode cX0_isBroken 1 = .ok (.iload_n 1, 1) := by decide +kernel
theorem dX0_isBroken_2 : decode cX0_isBroken 2 = .ok (.invokevirtual 46, 3) := by decide +kernel
theorem dX0_isBroken_5 : decode cX0_isBroken 5 = .ok (.ifCond .eq 17, 3) := by decide +kernel
theorem dX0_isBroken_8 : decode cX0_isBroken 8 = .ok (.aload_n 0, 1) := by decide +kernel
theorem dX0_isBroken_9 : decode cX0_isBroken 9 = .ok (.getfield 30, 3) := by decide +kernel
theorem dX0_isBroken_12 : decode cX0_isBroken 12 = .ok (.iload_n 1, 1) := by decide +kernel
theorem dX0_isBroken_13 : decode cX0_isBroken 13 = .ok (.iaload, 1) := by decide +kernel
theorem dX0_isBroken_14 : decode cX0_isBroken 14 = .ok (.iconst 1, 1) := by decide +kernel
theorem dX0_isBroken_15 : decode cX0_isBroken 15 = .ok (.if_icmp .ne 7, 3) := by decide +kernel
theorem dX0_isBroken_18 : decode cX0_isBroken 18 = .ok (.iconst 1, 1) := by decide +kernel
theorem dX0_isBroken_19 : decode cX0_isBroken 19 = .ok (.goto 4, 3) := by decide +kernel
theorem dX0_isBroken_22 : decode cX0_isBroken 22 = .ok (.iconst 0, 1) := by decide +kernel
theorem dX0_isBroken_23 : decode cX0_isBroken 23 = .ok (.ireturn, 1) := by decide +kernel
theorem dX0_sizeOf_0 : decode cX0_sizeOf 0 = .ok (.aload_n 0, 1) := by decide +kernel
theorem dX0_sizeOf_1 : decode cX0_sizeOf 1 = .ok (.iload_n 1, 1) := by decide +kernel
theorem dX0_sizeOf_2 : decode cX0_sizeOf 2 = .ok (.invokevirtual 46, 3) := by decide +kernel
theorem dX0_sizeOf_5 : decode cX0_sizeOf 5 = .ok (.ifCond .eq 12, 3) := by decide +kernel
theorem dX0_sizeOf_8 : decode cX0_sizeOf 8 = .ok (.aload_n 0, 1) := by decide +kernel
theorem dX0_sizeOf_9 : decode cX0_sizeOf 9 = .ok (.getfield 21, 3) := by decide +kernel
theorem dX0_sizeOf_12 : decode cX0_sizeOf 12 = .ok (.iload_n 1, 1) := by decide +kernel
theorem dX0_sizeOf_13 : decode cX0_sizeOf 13 = .ok (.iaload, 1) := by decide +kernel
theorem dX0_sizeOf_14 : decode cX0_sizeOf 14 = .ok (.goto 4, 3) := by decide +kernel
theorem dX0_sizeOf_17 : decode cX0_sizeOf 17 = .ok (.iconst 0, 1) := by decide +kernel
theorem dX0_sizeOf_18 : decode cX0_sizeOf 18 = .ok (.ireturn, 1) := by decide +kernel
theorem dX0_tailCells_0 : decode cX0_tailCells 0 = .ok (.aload_n 0, 1) := by decide +kernel
theorem dX0_tailCells_1 : decode cX0_tailCells 1 = .ok (.iload_n 1, 1) := by decide +kernel
theorem dX0_tailCells_2 : decode cX0_tailCells 2 = .ok (.invokevirtual 50, 3) := by decide +kernel
theorem dX0_tailCells_5 : decode cX0_tailCells 5 = .ok (.bipush 16, 2) := by decide +kernel
theorem dX0_tailCells_7 : decode cX0_tailCells 7 = .ok (.irem, 1) := by decide +kernel
theorem dX0_tailCells_8 : decode cX0_tailCells 8 = .ok (.ireturn, 1) := by decide +kernel
theorem dX0_kindOf_0 : decode cX0_kindOf 0 = .ok (.iload_n 1, 1) := by decide +kernel
theorem dX0_kindOf_1 : decode cX0_kindOf 1 = .ok (.invokestatic 54, 3) := by decide +kernel
theorem dX0_kindOf_4 : decode cX0_kindOf 4 = .ok (.ifCond .eq 12, 3) := by decide +kernel
theorem dX0_kindOf_7 : decode cX0_kindOf 7 = .ok (.aload_n 0, 1) := by decide +kernel
theorem dX0_kindOf_8 : decode cX0_kindOf 8 = .ok (.getfield 9, 3) := by decide +kernel
theorem dX0_kindOf_11 : decode cX0_kindOf 11 = .ok (.iload_n 1, 1) := by decide +kernel
theorem dX0_kindOf_12 : decode cX0_kindOf 12 = .ok (.iaload, 1) := by decide +kernel
theorem dX0_kindOf_13 : decode cX0_kindOf 13 = .ok (.goto 4, 3) := by decide +kernel
theorem dX0_kindOf_16 : decode cX0_kindOf 16 = .ok (.iconst 3, 1) := by decide +kernel
theorem dX0_kindOf_17 : decode cX0_kindOf 17 = .ok (.ireturn, 1) := by decide +kernel
theorem dX0_blocksOf_0 : decode cX0_blocksOf 0 = .ok (.iconst 0, 1) := by decide +kernel
theorem dX0_blocksOf_1 : decode cX0_blocksOf 1 = .ok (.istore_n 2, 1) := by decide +kernel
theorem dX0_blocksOf_2 : decode cX0_blocksOf 2 = .ok (.iconst 0, 1) := by decide +kernel
theorem dX0_blocksOf_3 : decode cX0_blocksOf 3 = .ok (.istore_n 3, 1) := by decide +kernel
theorem dX0_blocksOf_4 : decode cX0_blocksOf 4 = .ok (.iload_n 3, 1) := by decide +kernel
theorem dX0_blocksOf_5 : decode cX0_blocksOf 5 = .ok (.bipush 24, 2) := by decide +kernel
theorem dX0_blocksOf_7 : decode cX0_blocksOf 7 = .ok (.if_icmp .ge 27, 3) := by decide +kernel
theorem dX0_blocksOf_10 : decode cX0_blocksOf 10 = .ok (.iload_n 2, 1) := by decide +kernel
theorem dX0_blocksOf_11 : decode cX0_blocksOf 11 = .ok (.aload_n 0, 1) := by decide +kernel
theorem dX0_blocksOf_12 : decode cX0_blocksOf 12 = .ok (.getfield 9, 3) := by decide +kernel
theorem dX0_blocksOf_15 : decode cX0_blocksOf 15 = .ok (.iload_n 3, 1) := by decide +kernel
theorem dX0_blocksOf_16 : decode cX0_blocksOf 16 = .ok (.iaload, 1) := by decide +kernel
theorem dX0_blocksOf_17 : decode cX0_blocksOf 17 = .ok (.iload_n 1, 1) := by decide +kernel
theorem dX0_blocksOf_18 : decode cX0_blocksOf 18 = .ok (.if_icmp .ne 7, 3) := by decide +kernel
theorem dX0_blocksOf_21 : decode cX0_blocksOf 21 = .ok (.iconst 1, 1) := by decide +kernel
theorem dX0_blocksOf_22 : decode cX0_blocksOf 22 = .ok (.goto 4, 3) := by decide +kernel
theorem dX0_blocksOf_25 : decode cX0_blocksOf 25 = .ok (.iconst 0, 1) := by decide +kernel
theorem dX0_blocksOf_26 : decode cX0_blocksOf 26 = .ok (.iadd, 1) := by decide +kernel
theorem dX0_blocksOf_27 : decode cX0_blocksOf 27 = .ok (.istore_n 2, 1) := by decide +kernel
theorem dX0_blocksOf_28 : decode cX0_blocksOf 28 = .ok (.iinc 3 1, 3) := by decide +kernel
theorem dX0_blocksOf_31 : decode cX0_blocksOf 31 = .ok (.goto (-27), 3) := by decide +kernel
theorem dX0_blocksOf_34 : decode cX0_blocksOf 34 = .ok (.iload_n 2, 1) := by decide +kernel
theorem dX0_blocksOf_35 : decode cX0_blocksOf 35 = .ok (.ireturn, 1) := by decide +kernel
theorem dX0_sharedTailCells_0 : decode cX0_sharedTailCells 0 = .ok (.iconst 0, 1) := by decide +kernel
theorem dX0_sharedTailCells_1 : decode cX0_sharedTailCells 1 = .ok (.istore_n 1, 1) := by decide +kernel
theorem dX0_sharedTailCells_2 : decode cX0_sharedTailCells 2 = .ok (.iconst 0, 1) := by decide +kernel
theorem dX0_sharedTailCells_3 : decode cX0_sharedTailCells 3 = .ok (.istore_n 2, 1) := by decide +kernel
theorem dX0_sharedTailCells_4 : decode cX0_sharedTailCells 4 = .ok (.iload_n 2, 1) := by decide +kernel
theorem dX0_sharedTailCells_5 : decode cX0_sharedTailCells 5 = .ok (.bipush 24, 2) := by decide +kernel
theorem dX0_sharedTailCells_7 : decode cX0_sharedTailCells 7 = .ok (.if_icmp .ge 17, 3) := by decide +kernel
theorem dX0_sharedTailCells_10 : decode cX0_sharedTailCells 10 = .ok (.iload_n 1, 1) := by decide +kernel
theorem dX0_sharedTailCells_11 : decode cX0_sharedTailCells 11 = .ok (.aload_n 0, 1) := by decide +kernel
theorem dX0_sharedTailCells_12 : decode cX0_sharedTailCells 12 = .ok (.iload_n 2, 1) := by decide +kernel
theorem dX0_sharedTailCells_13 : decode cX0_sharedTailCells 13 = .ok (.invokevirtual 57, 3) := by decide +kernel
theorem dX0_sharedTailCells_16 : decode cX0_sharedTailCells 16 = .ok (.iadd, 1) := by decide +kernel
theorem dX0_sharedTailCells_17 : decode cX0_sharedTailCells 17 = .ok (.istore_n 1, 1) := by decide +kernel
theorem dX0_sharedTailCells_18 : decode cX0_sharedTailCells 18 = .ok (.iinc 2 1, 3) := by decide +kernel
theorem dX0_sharedTailCells_21 : decode cX0_sharedTailCells 21 = .ok (.goto (-17), 3) := by decide +kernel
theorem dX0_sharedTailCells_24 : decode cX0_sharedTailCells 24 = .ok (.iload_n 1, 1) := by decide +kernel
theorem dX0_sharedTailCells_25 : decode cX0_sharedTailCells 25 = .ok (.ireturn, 1) := by decide +kernel
theorem dX0_fileProperty_0 : decode cX0_fileProperty 0 = .ok (.aload_n 0, 1) := by decide +kernel
theorem dX0_fileProperty_1 : decode cX0_fileProperty 1 = .ok (.iload_n 1, 1) := by decide +kernel
theorem dX0_fileProperty_2 : decode cX0_fileProperty 2 = .ok (.invokevirtual 46, 3) := by decide +kernel
theorem dX0_fileProperty_5 : decode cX0_fileProperty 5 = .ok (.ifCond .ne 5, 3) := by decide +kernel
theorem dX0_fileProperty_8 : decode cX0_fileProperty 8 = .ok (.iconst (-1), 1) := by decide +kernel
theorem dX0_fileProperty_9 : decode cX0_fileProperty 9 = .ok (.ireturn, 1) := by decide +kernel
theorem dX0_fileProperty_10 : decode cX0_fileProperty 10 = .ok (.iload_n 2, 1) := by decide +kernel
theorem dX0_fileProperty_11 : decode cX0_fileProperty 11 = .ok (.tableswitch 85 0 5 #[37, 44, 54, 64, 71, 78], 37) := by decide +kernel
theorem dX0_fileProperty_48 : decode cX0_fileProperty 48 = .ok (.aload_n 0, 1) := by decide +kernel
theorem dX0_fileProperty_49 : decode cX0_fileProperty 49 = .ok (.getfield 21, 3) := by decide +kernel
theorem dX0_fileProperty_52 : decode cX0_fileProperty 52 = .ok (.iload_n 1, 1) := by decide +kernel
theorem dX0_fileProperty_53 : decode cX0_fileProperty 53 = .ok (.iaload, 1) := by decide +kernel
theorem dX0_fileProperty_54 : decode cX0_fileProperty 54 = .ok (.ireturn, 1) := by decide +kernel
theorem dX0_fileProperty_55 : decode cX0_fileProperty 55 = .ok (.aload_n 0, 1) := by decide +kernel
theorem dX0_fileProperty_56 : decode cX0_fileProperty 56 = .ok (.getfield 21, 3) := by decide +kernel
theorem dX0_fileProperty_59 : decode cX0_fileProperty 59 = .ok (.iload_n 1, 1) := by decide +kernel
theorem dX0_fileProperty_60 : decode cX0_fileProperty 60 = .ok (.iaload, 1) := by decide +kernel
theorem dX0_fileProperty_61 : decode cX0_fileProperty 61 = .ok (.bipush 16, 2) := by decide +kernel
theorem dX0_fileProperty_63 : decode cX0_fileProperty 63 = .ok (.idiv, 1) := by decide +kernel
theorem dX0_fileProperty_64 : decode cX0_fileProperty 64 = .ok (.ireturn, 1) := by decide +kernel
theorem dX0_fileProperty_65 : decode cX0_fileProperty 65 = .ok (.aload_n 0, 1) := by decide +kernel
theorem dX0_fileProperty_66 : decode cX0_fileProperty 66 = .ok (.getfield 21, 3) := by decide +kernel
theorem dX0_fileProperty_69 : decode cX0_fileProperty 69 = .ok (.iload_n 1, 1) := by decide +kernel
theorem dX0_fileProperty_70 : decode cX0_fileProperty 70 = .ok (.iaload, 1) := by decide +kernel
theorem dX0_fileProperty_71 : decode cX0_fileProperty 71 = .ok (.bipush 16, 2) := by decide +kernel
theorem dX0_fileProperty_73 : decode cX0_fileProperty 73 = .ok (.irem, 1) := by decide +kernel
theorem dX0_fileProperty_74 : decode cX0_fileProperty 74 = .ok (.ireturn, 1) := by decide +kernel
theorem dX0_fileProperty_75 : decode cX0_fileProperty 75 = .ok (.aload_n 0, 1) := by decide +kernel
theorem dX0_fileProperty_76 : decode cX0_fileProperty 76 = .ok (.getfield 24, 3) := by decide +kernel
theorem dX0_fileProperty_79 : decode cX0_fileProperty 79 = .ok (.iload_n 1, 1) := by decide +kernel
theorem dX0_fileProperty_80 : decode cX0_fileProperty 80 = .ok (.iaload, 1) := by decide +kernel
theorem dX0_fileProperty_81 : decode cX0_fileProperty 81 = .ok (.ireturn, 1) := by decide +kernel
theorem dX0_fileProperty_82 : decode cX0_fileProperty 82 = .ok (.aload_n 0, 1) := by decide +kernel
theorem dX0_fileProperty_83 : decode cX0_fileProperty 83 = .ok (.getfield 27, 3) := by decide +kernel
theorem dX0_fileProperty_86 : decode cX0_fileProperty 86 = .ok (.iload_n 1, 1) := by decide +kernel
theorem dX0_fileProperty_87 : decode cX0_fileProperty 87 = .ok (.iaload, 1) := by decide +kernel
theorem dX0_fileProperty_88 : decode cX0_fileProperty 88 = .ok (.ireturn, 1) := by decide +kernel
theorem dX0_fileProperty_89 : decode cX0_fileProperty 89 = .ok (.aload_n 0, 1) := by decide +kernel
theorem dX0_fileProperty_90 : decode cX0_fileProperty 90 = .ok (.getfield 30, 3) := by decide +kernel
theorem dX0_fileProperty_93 : decode cX0_fileProperty 93 = .ok (.iload_n 1, 1) := by decide +kernel
theorem dX0_fileProperty_94 : decode cX0_fileProperty 94 = .ok (.iaload, 1) := by decide +kernel
theorem dX0_fileProperty_95 : decode cX0_fileProperty 95 = .ok (.ireturn, 1) := by decide +kernel
theorem dX0_fileProperty_96 : decode cX0_fileProperty 96 = .ok (.aload_n 0, 1) := by decide +kernel
theorem dX0_fileProperty_97 : decode cX0_fileProperty 97 = .ok (.getfield 33, 3) := by decide +kernel
theorem dX0_fileProperty_100 : decode cX0_fileProperty 100 = .ok (.iload_n 1, 1) := by decide +kernel
theorem dX0_fileProperty_101 : decode cX0_fileProperty 101 = .ok (.iaload, 1) := by decide +kernel
theorem dX0_fileProperty_102 : decode cX0_fileProperty 102 = .ok (.ireturn, 1) := by decide +kernel
theorem dX0_blockProperty_0 : decode cX0_blockProperty 0 = .ok (.iload_n 1, 1) := by decide +kernel
theorem dX0_blockProperty_1 : decode cX0_blockProperty 1 = .ok (.invokestatic 54, 3) := by decide +kernel
theorem dX0_blockProperty_4 : decode cX0_blockProperty 4 = .ok (.ifCond .ne 5, 3) := by decide +kernel
theorem dX0_blockProperty_7 : decode cX0_blockProperty 7 = .ok (.iconst (-1), 1) := by decide +kernel
theorem dX0_blockProperty_8 : decode cX0_blockProperty 8 = .ok (.ireturn, 1) := by decide +kernel
theorem dX0_blockProperty_9 : decode cX0_blockProperty 9 = .ok (.iload_n 2, 1) := by decide +kernel
theorem dX0_blockProperty_10 : decode cX0_blockProperty 10 = .ok (.tableswitch 73 0 3 #[30, 37, 43, 49], 30) := by decide +kernel
theorem dX0_blockProperty_40 : decode cX0_blockProperty 40 = .ok (.aload_n 0, 1) := by decide +kernel
theorem dX0_blockProperty_41 : decode cX0_blockProperty 41 = .ok (.getfield 9, 3) := by decide +kernel
theorem dX0_blockProperty_44 : decode cX0_blockProperty 44 = .ok (.iload_n 1, 1) := by decide +kernel
theorem dX0_blockProperty_45 : decode cX0_blockProperty 45 = .ok (.iaload, 1) := by decide +kernel
theorem dX0_blockProperty_46 : decode cX0_blockProperty 46 = .ok (.ireturn, 1) := by decide +kernel
theorem dX0_blockProperty_47 : decode cX0_blockProperty 47 = .ok (.aload_n 0, 1) := by decide +kernel
theorem dX0_blockProperty_48 : decode cX0_blockProperty 48 = .ok (.iload_n 1, 1) := by decide +kernel
theorem dX0_blockProperty_49 : decode cX0_blockProperty 49 = .ok (.invokevirtual 60, 3) := by decide +kernel
theorem dX0_blockProperty_52 : decode cX0_blockProperty 52 = .ok (.ireturn, 1) := by decide +kernel
theorem dX0_blockProperty_53 : decode cX0_blockProperty 53 = .ok (.aload_n 0, 1) := by decide +kernel
theorem dX0_blockProperty_54 : decode cX0_blockProperty 54 = .ok (.iload_n 1, 1) := by decide +kernel
theorem dX0_blockProperty_55 : decode cX0_blockProperty 55 = .ok (.invokevirtual 57, 3) := by decide +kernel
theorem dX0_blockProperty_58 : decode cX0_blockProperty 58 = .ok (.ireturn, 1) := by decide +kernel
theorem dX0_blockProperty_59 : decode cX0_blockProperty 59 = .ok (.aload_n 0, 1) := by decide +kernel
theorem dX0_blockProperty_60 : decode cX0_blockProperty 60 = .ok (.getfield 9, 3) := by decide +kernel
theorem dX0_blockProperty_63 : decode cX0_blockProperty 63 = .ok (.iload_n 1, 1) := by decide +kernel
theorem dX0_blockProperty_64 : decode cX0_blockProperty 64 = .ok (.iaload, 1) := by decide +kernel
theorem dX0_blockProperty_65 : decode cX0_blockProperty 65 = .ok (.iconst 2, 1) := by decide +kernel
theorem dX0_blockProperty_66 : decode cX0_blockProperty 66 = .ok (.if_icmp .ne 15, 3) := by decide +kernel
theorem dX0_blockProperty_69 : decode cX0_blockProperty 69 = .ok (.aload_n 0, 1) := by decide +kernel
theorem dX0_blockProperty_70 : decode cX0_blockProperty 70 = .ok (.iload_n 1, 1) := by decide +kernel
theorem dX0_blockProperty_71 : decode cX0_blockProperty 71 = .ok (.iconst (-1), 1) := by decide +kernel
theorem dX0_blockProperty_72 : decode cX0_blockProperty 72 = .ok (.invokevirtual 63, 3) := by decide +kernel
theorem dX0_blockProperty_75 : decode cX0_blockProperty 75 = .ok (.invokestatic 67, 3) := by decide +kernel
theorem dX0_blockProperty_78 : decode cX0_blockProperty 78 = .ok (.goto 4, 3) := by decide +kernel
theorem dX0_blockProperty_81 : decode cX0_blockProperty 81 = .ok (.iconst 0, 1) := by decide +kernel
theorem dX0_blockProperty_82 : decode cX0_blockProperty 82 = .ok (.ireturn, 1) := by decide +kernel
theorem dX0_blockProperty_83 : decode cX0_blockProperty 83 = .ok (.aload_n 0, 1) := by decide +kernel
theorem dX0_blockProperty_84 : decode cX0_blockProperty 84 = .ok (.getfield 9, 3) := by decide +kernel
theorem dX0_blockProperty_87 : decode cX0_blockProperty 87 = .ok (.iload_n 1, 1) := by decide +kernel
theorem dX0_blockProperty_88 : decode cX0_blockProperty 88 = .ok (.iaload, 1) := by decide +kernel
theorem dX0_blockProperty_89 : decode cX0_blockProperty 89 = .ok (.iconst 1, 1) := by decide +kernel
theorem dX0_blockProperty_90 : decode cX0_blockProperty 90 = .ok (.if_icmp .ne 12, 3) := by decide +kernel
theorem dX0_blockProperty_93 : decode cX0_blockProperty 93 = .ok (.aload_n 0, 1) := by decide +kernel
theorem dX0_blockProperty_94 : decode cX0_blockProperty 94 = .ok (.getfield 15, 3) := by decide +kernel
theorem dX0_blockProperty_97 : decode cX0_blockProperty 97 = .ok (.iload_n 1, 1) := by decide +kernel
theorem dX0_blockProperty_98 : decode cX0_blockProperty 98 = .ok (.iaload, 1) := by decide +kernel
theorem dX0_blockProperty_99 : decode cX0_blockProperty 99 = .ok (.goto 4, 3) := by decide +kernel
theorem dX0_blockProperty_102 : decode cX0_blockProperty 102 = .ok (.iconst (-1), 1) := by decide +kernel
theorem dX0_blockProperty_103 : decode cX0_blockProperty 103 = .ok (.ireturn, 1) := by decide +kernel
theorem dX0_tailsIn_0 : decode cX0_tailsIn 0 = .ok (.aload_n 0, 1) := by decide +kernel
theorem dX0_tailsIn_1 : decode cX0_tailsIn 1 = .ok (.iload_n 1, 1) := by decide +kernel
theorem dX0_tailsIn_2 : decode cX0_tailsIn 2 = .ok (.invokevirtual 70, 3) := by decide +kernel
theorem dX0_tailsIn_5 : decode cX0_tailsIn 5 = .ok (.iconst 2, 1) := by decide +kernel
theorem dX0_tailsIn_6 : decode cX0_tailsIn 6 = .ok (.if_icmp .eq 5, 3) := by decide +kernel
theorem dX0_tailsIn_9 : decode cX0_tailsIn 9 = .ok (.iconst 0, 1) := by decide +kernel
theorem dX0_tailsIn_10 : decode cX0_tailsIn 10 = .ok (.ireturn, 1) := by decide +kernel
theorem dX0_tailsIn_11 : decode cX0_tailsIn 11 = .ok (.iconst 0, 1) := by decide +kernel
theorem dX0_tailsIn_12 : decode cX0_tailsIn 12 = .ok (.istore_n 2, 1) := by decide +kernel
theorem dX0_tailsIn_13 : decode cX0_tailsIn 13 = .ok (.iconst 0, 1) := by decide +kernel
theorem dX0_tailsIn_14 : decode cX0_tailsIn 14 = .ok (.istore_n 3, 1) := by decide +kernel
theorem dX0_tailsIn_15 : decode cX0_tailsIn 15 = .ok (.iload_n 3, 1) := by decide +kernel
theorem dX0_tailsIn_16 : decode cX0_tailsIn 16 = .ok (.bipush 10, 2) := by decide +kernel
theorem dX0_tailsIn_18 : decode cX0_tailsIn 18 = .ok (.if_icmp .ge 27, 3) := by decide +kernel
theorem dX0_tailsIn_21 : decode cX0_tailsIn 21 = .ok (.iload_n 2, 1) := by decide +kernel
theorem dX0_tailsIn_22 : decode cX0_tailsIn 22 = .ok (.aload_n 0, 1) := by decide +kernel
theorem dX0_tailsIn_23 : decode cX0_tailsIn 23 = .ok (.getfield 24, 3) := by decide +kernel
theorem dX0_tailsIn_26 : decode cX0_tailsIn 26 = .ok (.iload_n 3, 1) := by decide +kernel
theorem dX0_tailsIn_27 : decode cX0_tailsIn 27 = .ok (.iaload, 1) := by decide +kernel
theorem dX0_tailsIn_28 : decode cX0_tailsIn 28 = .ok (.iload_n 1, 1) := by decide +kernel
theorem dX0_tailsIn_29 : decode cX0_tailsIn 29 = .ok (.if_icmp .ne 7, 3) := by decide +kernel
theorem dX0_tailsIn_32 : decode cX0_tailsIn 32 = .ok (.iconst 1, 1) := by decide +kernel
theorem dX0_tailsIn_33 : decode cX0_tailsIn 33 = .ok (.goto 4, 3) := by decide +kernel
theorem dX0_tailsIn_36 : decode cX0_tailsIn 36 = .ok (.iconst 0, 1) := by decide +kernel
theorem dX0_tailsIn_37 : decode cX0_tailsIn 37 = .ok (.iadd, 1) := by decide +kernel
theorem dX0_tailsIn_38 : decode cX0_tailsIn 38 = .ok (.istore_n 2, 1) := by decide +kernel
theorem dX0_tailsIn_39 : decode cX0_tailsIn 39 = .ok (.iinc 3 1, 3) := by decide +kernel
theorem dX0_tailsIn_42 : decode cX0_tailsIn 42 = .ok (.goto (-27), 3) := by decide +kernel
theorem dX0_tailsIn_45 : decode cX0_tailsIn 45 = .ok (.iload_n 2, 1) := by decide +kernel
theorem dX0_tailsIn_46 : decode cX0_tailsIn 46 = .ok (.ireturn, 1) := by decide +kernel
theorem dX0_tailCellsIn_0 : decode cX0_tailCellsIn 0 = .ok (.aload_n 0, 1) := by decide +kernel
theorem dX0_tailCellsIn_1 : decode cX0_tailCellsIn 1 = .ok (.iload_n 1, 1) := by decide +kernel
theorem dX0_tailCellsIn_2 : decode cX0_tailCellsIn 2 = .ok (.invokevirtual 70, 3) := by decide +kernel
theorem dX0_tailCellsIn_5 : decode cX0_tailCellsIn 5 = .ok (.iconst 2, 1) := by decide +kernel
theorem dX0_tailCellsIn_6 : decode cX0_tailCellsIn 6 = .ok (.if_icmp .ne 15, 3) := by decide +kernel
theorem dX0_tailCellsIn_9 : decode cX0_tailCellsIn 9 = .ok (.aload_n 0, 1) := by decide +kernel
theorem dX0_tailCellsIn_10 : decode cX0_tailCellsIn 10 = .ok (.iload_n 1, 1) := by decide +kernel
theorem dX0_tailCellsIn_11 : decode cX0_tailCellsIn 11 = .ok (.iconst (-1), 1) := by decide +kernel
theorem dX0_tailCellsIn_12 : decode cX0_tailCellsIn 12 = .ok (.invokevirtual 63, 3) := by decide +kernel
theorem dX0_tailCellsIn_15 : decode cX0_tailCellsIn 15 = .ok (.invokestatic 73, 3) := by decide +kernel
theorem dX0_tailCellsIn_18 : decode cX0_tailCellsIn 18 = .ok (.goto 4, 3) := by decide +kernel
theorem dX0_tailCellsIn_21 : decode cX0_tailCellsIn 21 = .ok (.iconst 0, 1) := by decide +kernel
theorem dX0_tailCellsIn_22 : decode cX0_tailCellsIn 22 = .ok (.ireturn, 1) := by decide +kernel
theorem dX0_whereIs_0 : decode cX0_whereIs 0 = .ok (.aload_n 0, 1) := by decide +kernel
theorem dX0_whereIs_1 : decode cX0_whereIs 1 = .ok (.iload_n 1, 1) := by decide +kernel
theorem dX0_whereIs_2 : decode cX0_whereIs 2 = .ok (.invokevirtual 46, 3) := by decide +kernel
theorem dX0_whereIs_5 : decode cX0_whereIs 5 = .ok (.ifCond .eq 17, 3) := by decide +kernel
theorem dX0_whereIs_8 : decode cX0_whereIs 8 = .ok (.iload_n 2, 1) := by decide +kernel
theorem dX0_whereIs_9 : decode cX0_whereIs 9 = .ok (.ifCond .lt 13, 3) := by decide +kernel
theorem dX0_whereIs_12 : decode cX0_whereIs 12 = .ok (.iload_n 2, 1) := by decide +kernel
theorem dX0_whereIs_13 : decode cX0_whereIs 13 = .ok (.aload_n 0, 1) := by decide +kernel
theorem dX0_whereIs_14 : decode cX0_whereIs 14 = .ok (.getfield 21, 3) := by decide +kernel
theorem dX0_whereIs_17 : decode cX0_whereIs 17 = .ok (.iload_n 1, 1) := by decide +kernel
theorem dX0_whereIs_18 : decode cX0_whereIs 18 = .ok (.iaload, 1) := by decide +kernel
theorem dX0_whereIs_19 : decode cX0_whereIs 19 = .ok (.if_icmp .lt 5, 3) := by decide +kernel
theorem dX0_whereIs_22 : decode cX0_whereIs 22 = .ok (.iconst (-1), 1) := by decide +kernel
theorem dX0_whereIs_23 : decode cX0_whereIs 23 = .ok (.ireturn, 1) := by decide +kernel
theorem dX0_whereIs_24 : decode cX0_whereIs 24 = .ok (.iload_n 2, 1) := by decide +kernel
theorem dX0_whereIs_25 : decode cX0_whereIs 25 = .ok (.bipush 16, 2) := by decide +kernel
theorem dX0_whereIs_27 : decode cX0_whereIs 27 = .ok (.idiv, 1) := by decide +kernel
theorem dX0_whereIs_28 : decode cX0_whereIs 28 = .ok (.aload_n 0, 1) := by decide +kernel
theorem dX0_whereIs_29 : decode cX0_whereIs 29 = .ok (.getfield 21, 3) := by decide +kernel
theorem dX0_whereIs_32 : decode cX0_whereIs 32 = .ok (.iload_n 1, 1) := by decide +kernel
theorem dX0_whereIs_33 : decode cX0_whereIs 33 = .ok (.iaload, 1) := by decide +kernel
theorem dX0_whereIs_34 : decode cX0_whereIs 34 = .ok (.bipush 16, 2) := by decide +kernel
theorem dX0_whereIs_36 : decode cX0_whereIs 36 = .ok (.idiv, 1) := by decide +kernel
theorem dX0_whereIs_37 : decode cX0_whereIs 37 = .ok (.if_icmp .ne 40, 3) := by decide +kernel
theorem dX0_whereIs_40 : decode cX0_whereIs 40 = .ok (.aload_n 0, 1) := by decide +kernel
theorem dX0_whereIs_41 : decode cX0_whereIs 41 = .ok (.getfield 24, 3) := by decide +kernel
theorem dX0_whereIs_44 : decode cX0_whereIs 44 = .ok (.iload_n 1, 1) := by decide +kernel
theorem dX0_whereIs_45 : decode cX0_whereIs 45 = .ok (.iaload, 1) := by decide +kernel
theorem dX0_whereIs_46 : decode cX0_whereIs 46 = .ok (.istore_n 3, 1) := by decide +kernel
theorem dX0_whereIs_47 : decode cX0_whereIs 47 = .ok (.aload_n 0, 1) := by decide +kernel
theorem dX0_whereIs_48 : decode cX0_whereIs 48 = .ok (.iload_n 3, 1) := by decide +kernel
theorem dX0_whereIs_49 : decode cX0_whereIs 49 = .ok (.invokevirtual 70, 3) := by decide +kernel
theorem dX0_whereIs_52 : decode cX0_whereIs 52 = .ok (.iconst 3, 1) := by decide +kernel
theorem dX0_whereIs_53 : decode cX0_whereIs 53 = .ok (.if_icmp .ne 7, 3) := by decide +kernel
theorem dX0_whereIs_56 : decode cX0_whereIs 56 = .ok (.iconst (-1), 1) := by decide +kernel
theorem dX0_whereIs_57 : decode cX0_whereIs 57 = .ok (.goto 19, 3) := by decide +kernel
theorem dX0_whereIs_60 : decode cX0_whereIs 60 = .ok (.bipush 16, 2) := by decide +kernel
theorem dX0_whereIs_62 : decode cX0_whereIs 62 = .ok (.iload_n 3, 1) := by decide +kernel
theorem dX0_whereIs_63 : decode cX0_whereIs 63 = .ok (.imul, 1) := by decide +kernel
theorem dX0_whereIs_64 : decode cX0_whereIs 64 = .ok (.aload_n 0, 1) := by decide +kernel
theorem dX0_whereIs_65 : decode cX0_whereIs 65 = .ok (.getfield 27, 3) := by decide +kernel
theorem dX0_whereIs_68 : decode cX0_whereIs 68 = .ok (.iload_n 1, 1) := by decide +kernel
theorem dX0_whereIs_69 : decode cX0_whereIs 69 = .ok (.iaload, 1) := by decide +kernel
theorem dX0_whereIs_70 : decode cX0_whereIs 70 = .ok (.iadd, 1) := by decide +kernel
theorem dX0_whereIs_71 : decode cX0_whereIs 71 = .ok (.iload_n 2, 1) := by decide +kernel
theorem dX0_whereIs_72 : decode cX0_whereIs 72 = .ok (.bipush 16, 2) := by decide +kernel
theorem dX0_whereIs_74 : decode cX0_whereIs 74 = .ok (.irem, 1) := by decide +kernel
theorem dX0_whereIs_75 : decode cX0_whereIs 75 = .ok (.iadd, 1) := by decide +kernel
theorem dX0_whereIs_76 : decode cX0_whereIs 76 = .ok (.ireturn, 1) := by decide +kernel
theorem dX0_whereIs_77 : decode cX0_whereIs 77 = .ok (.iconst 0, 1) := by decide +kernel
theorem dX0_whereIs_78 : decode cX0_whereIs 78 = .ok (.istore_n 3, 1) := by decide +kernel
theorem dX0_whereIs_79 : decode cX0_whereIs 79 = .ok (.iload_n 3, 1) := by decide +kernel
theorem dX0_whereIs_80 : decode cX0_whereIs 80 = .ok (.bipush 24, 2) := by decide +kernel
theorem dX0_whereIs_82 : decode cX0_whereIs 82 = .ok (.if_icmp .ge 56, 3) := by decide +kernel
theorem dX0_whereIs_85 : decode cX0_whereIs 85 = .ok (.aload_n 0, 1) := by decide +kernel
theorem dX0_whereIs_86 : decode cX0_whereIs 86 = .ok (.getfield 15, 3) := by decide +kernel
theorem dX0_whereIs_89 : decode cX0_whereIs 89 = .ok (.iload_n 3, 1) := by decide +kernel
theorem dX0_whereIs_90 : decode cX0_whereIs 90 = .ok (.iaload, 1) := by decide +kernel
theorem dX0_whereIs_91 : decode cX0_whereIs 91 = .ok (.iload_n 1, 1) := by decide +kernel
theorem dX0_whereIs_92 : decode cX0_whereIs 92 = .ok (.if_icmp .ne 40, 3) := by decide +kernel
theorem dX0_whereIs_95 : decode cX0_whereIs 95 = .ok (.aload_n 0, 1) := by decide +kernel
theorem dX0_whereIs_96 : decode cX0_whereIs 96 = .ok (.getfield 18, 3) := by decide +kernel
theorem dX0_whereIs_99 : decode cX0_whereIs 99 = .ok (.iload_n 3, 1) := by decide +kernel
theorem dX0_whereIs_100 : decode cX0_whereIs 100 = .ok (.iaload, 1) := by decide +kernel
theorem dX0_whereIs_101 : decode cX0_whereIs 101 = .ok (.iload_n 2, 1) := by decide +kernel
theorem dX0_whereIs_102 : decode cX0_whereIs 102 = .ok (.bipush 16, 2) := by decide +kernel
theorem dX0_whereIs_104 : decode cX0_whereIs 104 = .ok (.idiv, 1) := by decide +kernel
theorem dX0_whereIs_105 : decode cX0_whereIs 105 = .ok (.if_icmp .ne 27, 3) := by decide +kernel
theorem dX0_whereIs_108 : decode cX0_whereIs 108 = .ok (.aload_n 0, 1) := by decide +kernel
theorem dX0_whereIs_109 : decode cX0_whereIs 109 = .ok (.getfield 9, 3) := by decide +kernel
theorem dX0_whereIs_112 : decode cX0_whereIs 112 = .ok (.iload_n 3, 1) := by decide +kernel
theorem dX0_whereIs_113 : decode cX0_whereIs 113 = .ok (.iaload, 1) := by decide +kernel
theorem dX0_whereIs_114 : decode cX0_whereIs 114 = .ok (.iconst 3, 1) := by decide +kernel
theorem dX0_whereIs_115 : decode cX0_whereIs 115 = .ok (.if_icmp .ne 7, 3) := by decide +kernel
theorem dX0_whereIs_118 : decode cX0_whereIs 118 = .ok (.iconst (-1), 1) := by decide +kernel
theorem dX0_whereIs_119 : decode cX0_whereIs 119 = .ok (.goto 12, 3) := by decide +kernel
theorem dX0_whereIs_122 : decode cX0_whereIs 122 = .ok (.bipush 16, 2) := by decide +kernel
theorem dX0_whereIs_124 : decode cX0_whereIs 124 = .ok (.iload_n 3, 1) := by decide +kernel
theorem dX0_whereIs_125 : decode cX0_whereIs 125 = .ok (.imul, 1) := by decide +kernel
theorem dX0_whereIs_126 : decode cX0_whereIs 126 = .ok (.iload_n 2, 1) := by decide +kernel
theorem dX0_whereIs_127 : decode cX0_whereIs 127 = .ok (.bipush 16, 2) := by decide +kernel
theorem dX0_whereIs_129 : decode cX0_whereIs 129 = .ok (.irem, 1) := by decide +kernel
theorem dX0_whereIs_130 : decode cX0_whereIs 130 = .ok (.iadd, 1) := by decide +kernel
theorem dX0_whereIs_131 : decode cX0_whereIs 131 = .ok (.ireturn, 1) := by decide +kernel
theorem dX0_whereIs_132 : decode cX0_whereIs 132 = .ok (.iinc 3 1, 3) := by decide +kernel
theorem dX0_whereIs_135 : decode cX0_whereIs 135 = .ok (.goto (-56), 3) := by decide +kernel
theorem dX0_whereIs_138 : decode cX0_whereIs 138 = .ok (.iconst (-1), 1) := by decide +kernel
theorem dX0_whereIs_139 : decode cX0_whereIs 139 = .ok (.ireturn, 1) := by decide +kernel
theorem dX0_hasSomething_0 : decode cX0_hasSomething 0 = .ok (.aload_n 0, 1) := by decide +kernel
theorem dX0_hasSomething_1 : decode cX0_hasSomething 1 = .ok (.iload_n 1, 1) := by decide +kernel
theorem dX0_hasSomething_2 : decode cX0_hasSomething 2 = .ok (.invokevirtual 46, 3) := by decide +kernel
theorem dX0_hasSomething_5 : decode cX0_hasSomething 5 = .ok (.ifCond .eq 34, 3) := by decide +kernel
theorem dX0_hasSomething_8 : decode cX0_hasSomething 8 = .ok (.iload_n 2, 1) := by decide +kernel
theorem dX0_hasSomething_9 : decode cX0_hasSomething 9 = .ok (.invokestatic 54, 3) := by decide +kernel
theorem dX0_hasSomething_12 : decode cX0_hasSomething 12 = .ok (.ifCond .eq 27, 3) := by decide +kernel
theorem dX0_hasSomething_15 : decode cX0_hasSomething 15 = .ok (.aload_n 0, 1) := by decide +kernel
theorem dX0_hasSomething_16 : decode cX0_hasSomething 16 = .ok (.getfield 15, 3) := by decide +kernel
theorem dX0_hasSomething_19 : decode cX0_hasSomething 19 = .ok (.iload_n 2, 1) := by decide +kernel
theorem dX0_hasSomething_20 : decode cX0_hasSomething 20 = .ok (.iaload, 1) := by decide +kernel
theorem dX0_hasSomething_21 : decode cX0_hasSomething 21 = .ok (.iload_n 1, 1) := by decide +kernel
theorem dX0_hasSomething_22 : decode cX0_hasSomething 22 = .ok (.if_icmp .eq 13, 3) := by decide +kernel
theorem dX0_hasSomething_25 : decode cX0_hasSomething 25 = .ok (.aload_n 0, 1) := by decide +kernel
theorem dX0_hasSomething_26 : decode cX0_hasSomething 26 = .ok (.getfield 24, 3) := by decide +kernel
theorem dX0_hasSomething_29 : decode cX0_hasSomething 29 = .ok (.iload_n 1, 1) := by decide +kernel
theorem dX0_hasSomething_30 : decode cX0_hasSomething 30 = .ok (.iaload, 1) := by decide +kernel
theorem dX0_hasSomething_31 : decode cX0_hasSomething 31 = .ok (.iload_n 2, 1) := by decide +kernel
theorem dX0_hasSomething_32 : decode cX0_hasSomething 32 = .ok (.if_icmp .ne 7, 3) := by decide +kernel
theorem dX0_hasSomething_35 : decode cX0_hasSomething 35 = .ok (.iconst 1, 1) := by decide +kernel
theorem dX0_hasSomething_36 : decode cX0_hasSomething 36 = .ok (.goto 4, 3) := by decide +kernel
theorem dX0_hasSomething_39 : decode cX0_hasSomething 39 = .ok (.iconst 0, 1) := by decide +kernel
theorem dX0_hasSomething_40 : decode cX0_hasSomething 40 = .ok (.ireturn, 1) := by decide +kernel
theorem dX0_soundFilesIn_0 : decode cX0_soundFilesIn 0 = .ok (.iconst 0, 1) := by decide +kernel
theorem dX0_soundFilesIn_1 : decode cX0_soundFilesIn 1 = .ok (.istore_n 2, 1) := by decide +kernel
theorem dX0_soundFilesIn_2 : decode cX0_soundFilesIn 2 = .ok (.iconst 0, 1) := by decide +kernel
theorem dX0_soundFilesIn_3 : decode cX0_soundFilesIn 3 = .ok (.istore_n 3, 1) := by decide +kernel
theorem dX0_soundFilesIn_4 : decode cX0_soundFilesIn 4 = .ok (.iload_n 3, 1) := by decide +kernel
theorem dX0_soundFilesIn_5 : decode cX0_soundFilesIn 5 = .ok (.bipush 10, 2) := by decide +kernel
theorem dX0_soundFilesIn_7 : decode cX0_soundFilesIn 7 = .ok (.if_icmp .ge 35, 3) := by decide +kernel
theorem dX0_soundFilesIn_10 : decode cX0_soundFilesIn 10 = .ok (.iload_n 2, 1) := by decide +kernel
theorem dX0_soundFilesIn_11 : decode cX0_soundFilesIn 11 = .ok (.aload_n 0, 1) := by decide +kernel
theorem dX0_soundFilesIn_12 : decode cX0_soundFilesIn 12 = .ok (.iload_n 3, 1) := by decide +kernel
theorem dX0_soundFilesIn_13 : decode cX0_soundFilesIn 13 = .ok (.iload_n 1, 1) := by decide +kernel
theorem dX0_soundFilesIn_14 : decode cX0_soundFilesIn 14 = .ok (.invokevirtual 78, 3) := by decide +kernel
theorem dX0_soundFilesIn_17 : decode cX0_soundFilesIn 17 = .ok (.ifCond .eq 16, 3) := by decide +kernel
theorem dX0_soundFilesIn_20 : decode cX0_soundFilesIn 20 = .ok (.aload_n 0, 1) := by decide +kernel
theorem dX0_soundFilesIn_21 : decode cX0_soundFilesIn 21 = .ok (.getfield 30, 3) := by decide +kernel
theorem dX0_soundFilesIn_24 : decode cX0_soundFilesIn 24 = .ok (.iload_n 3, 1) := by decide +kernel
theorem dX0_soundFilesIn_25 : decode cX0_soundFilesIn 25 = .ok (.iaload, 1) := by decide +kernel
theorem dX0_soundFilesIn_26 : decode cX0_soundFilesIn 26 = .ok (.ifCond .ne 7, 3) := by decide +kernel
theorem dX0_soundFilesIn_29 : decode cX0_soundFilesIn 29 = .ok (.iconst 1, 1) := by decide +kernel
theorem dX0_soundFilesIn_30 : decode cX0_soundFilesIn 30 = .ok (.goto 4, 3) := by decide +kernel
theorem dX0_soundFilesIn_33 : decode cX0_soundFilesIn 33 = .ok (.iconst 0, 1) := by decide +kernel
theorem dX0_soundFilesIn_34 : decode cX0_soundFilesIn 34 = .ok (.iadd, 1) := by decide +kernel
theorem dX0_soundFilesIn_35 : decode cX0_soundFilesIn 35 = .ok (.istore_n 2, 1) := by decide +kernel
theorem dX0_soundFilesIn_36 : decode cX0_soundFilesIn 36 = .ok (.iinc 3 1, 3) := by decide +kernel
theorem dX0_soundFilesIn_39 : decode cX0_soundFilesIn 39 = .ok (.goto (-35), 3) := by decide +kernel
theorem dX0_soundFilesIn_42 : decode cX0_soundFilesIn 42 = .ok (.iload_n 2, 1) := by decide +kernel
theorem dX0_soundFilesIn_43 : decode cX0_soundFilesIn 43 = .ok (.ireturn, 1) := by decide +kernel
theorem dX0_takenCells_0 : decode cX0_takenCells 0 = .ok (.iconst 0, 1) := by decide +kernel
theorem dX0_takenCells_1 : decode cX0_takenCells 1 = .ok (.istore_n 3, 1) := by decide +kernel
theorem dX0_takenCells_2 : decode cX0_takenCells 2 = .ok (.iconst 0, 1) := by decide +kernel
theorem dX0_takenCells_3 : decode cX0_takenCells 3 = .ok (.istore 4, 2) := by decide +kernel
theorem dX0_takenCells_5 : decode cX0_takenCells 5 = .ok (.iload 4, 2) := by decide +kernel
theorem dX0_takenCells_7 : decode cX0_takenCells 7 = .ok (.bipush 10, 2) := by decide +kernel
theorem dX0_takenCells_9 : decode cX0_takenCells 9 = .ok (.if_icmp .ge 51, 3) := by decide +kernel
theorem dX0_takenCells_12 : decode cX0_takenCells 12 = .ok (.aload_n 0, 1) := by decide +kernel
theorem dX0_takenCells_13 : decode cX0_takenCells 13 = .ok (.getfield 24, 3) := by decide +kernel
theorem dX0_takenCells_16 : decode cX0_takenCells 16 = .ok (.iload 4, 2) := by decide +kernel
theorem dX0_takenCells_18 : decode cX0_takenCells 18 = .ok (.iaload, 1) := by decide +kernel
theorem dX0_takenCells_19 : decode cX0_takenCells 19 = .ok (.iload_n 1, 1) := by decide +kernel
theorem dX0_takenCells_20 : decode cX0_takenCells 20 = .ok (.if_icmp .ne 34, 3) := by decide +kernel
theorem dX0_takenCells_23 : decode cX0_takenCells 23 = .ok (.iload 4, 2) := by decide +kernel
theorem dX0_takenCells_25 : decode cX0_takenCells 25 = .ok (.iload_n 2, 1) := by decide +kernel
theorem dX0_takenCells_26 : decode cX0_takenCells 26 = .ok (.if_icmp .eq 28, 3) := by decide +kernel
theorem dX0_takenCells_29 : decode cX0_takenCells 29 = .ok (.iload_n 3, 1) := by decide +kernel
theorem dX0_takenCells_30 : decode cX0_takenCells 30 = .ok (.iconst 1, 1) := by decide +kernel
theorem dX0_takenCells_31 : decode cX0_takenCells 31 = .ok (.aload_n 0, 1) := by decide +kernel
theorem dX0_takenCells_32 : decode cX0_takenCells 32 = .ok (.getfield 21, 3) := by decide +kernel
theorem dX0_takenCells_35 : decode cX0_takenCells 35 = .ok (.iload 4, 2) := by decide +kernel
theorem dX0_takenCells_37 : decode cX0_takenCells 37 = .ok (.iaload, 1) := by decide +kernel
theorem dX0_takenCells_38 : decode cX0_takenCells 38 = .ok (.bipush 16, 2) := by decide +kernel
theorem dX0_takenCells_40 : decode cX0_takenCells 40 = .ok (.irem, 1) := by decide +kernel
theorem dX0_takenCells_41 : decode cX0_takenCells 41 = .ok (.ishl, 1) := by decide +kernel
theorem dX0_takenCells_42 : decode cX0_takenCells 42 = .ok (.iconst 1, 1) := by decide +kernel
theorem dX0_takenCells_43 : decode cX0_takenCells 43 = .ok (.isub, 1) := by decide +kernel
theorem dX0_takenCells_44 : decode cX0_takenCells 44 = .ok (.aload_n 0, 1) := by decide +kernel
theorem dX0_takenCells_45 : decode cX0_takenCells 45 = .ok (.getfield 27, 3) := by decide +kernel
theorem dX0_takenCells_48 : decode cX0_takenCells 48 = .ok (.iload 4, 2) := by decide +kernel
theorem dX0_takenCells_50 : decode cX0_takenCells 50 = .ok (.iaload, 1) := by decide +kernel
theorem dX0_takenCells_51 : decode cX0_takenCells 51 = .ok (.ishl, 1) := by decide +kernel
theorem dX0_takenCells_52 : decode cX0_takenCells 52 = .ok (.ior, 1) := by decide +kernel
theorem dX0_takenCells_53 : decode cX0_takenCells 53 = .ok (.istore_n 3, 1) := by decide +kernel
theorem dX0_takenCells_54 : decode cX0_takenCells 54 = .ok (.iinc 4 1, 3) := by decide +kernel
theorem dX0_takenCells_57 : decode cX0_takenCells 57 = .ok (.goto (-52), 3) := by decide +kernel
theorem dX0_takenCells_60 : decode cX0_takenCells 60 = .ok (.iload_n 3, 1) := by decide +kernel
theorem dX0_takenCells_61 : decode cX0_takenCells 61 = .ok (.ireturn, 1) := by decide +kernel
theorem dX0_isTaken_0 : decode cX0_isTaken 0 = .ok (.iload_n 0, 1) := by decide +kernel
theorem dX0_isTaken_1 : decode cX0_isTaken 1 = .ok (.iload_n 1, 1) := by decide +kernel
theorem dX0_isTaken_2 : decode cX0_isTaken 2 = .ok (.ishr, 1) := by decide +kernel
theorem dX0_isTaken_3 : decode cX0_isTaken 3 = .ok (.iconst 1, 1) := by decide +kernel
theorem dX0_isTaken_4 : decode cX0_isTaken 4 = .ok (.iand, 1) := by decide +kernel
theorem dX0_isTaken_5 : decode cX0_isTaken 5 = .ok (.iconst 1, 1) := by decide +kernel
theorem dX0_isTaken_6 : decode cX0_isTaken 6 = .ok (.if_icmp .ne 7, 3) := by decide +kernel
theorem dX0_isTaken_9 : decode cX0_isTaken 9 = .ok (.iconst 1, 1) := by decide +kernel
theorem dX0_isTaken_10 : decode cX0_isTaken 10 = .ok (.goto 4, 3) := by decide +kernel
theorem dX0_isTaken_13 : decode cX0_isTaken 13 = .ok (.iconst 0, 1) := by decide +kernel
theorem dX0_isTaken_14 : decode cX0_isTaken 14 = .ok (.ireturn, 1) := by decide +kernel
theorem dX0_gapFrom_0 : decode cX0_gapFrom 0 = .ok (.iconst 0, 1) := by decide +kernel
theorem dX0_gapFrom_1 : decode cX0_gapFrom 1 = .ok (.istore_n 2, 1) := by decide +kernel
theorem dX0_gapFrom_2 : decode cX0_gapFrom 2 = .ok (.iload_n 1, 1) := by decide +kernel
theorem dX0_gapFrom_3 : decode cX0_gapFrom 3 = .ok (.iload_n 2, 1) := by decide +kernel
theorem dX0_gapFrom_4 : decode cX0_gapFrom 4 = .ok (.iadd, 1) := by decide +kernel
theorem dX0_gapFrom_5 : decode cX0_gapFrom 5 = .ok (.bipush 16, 2) := by decide +kernel
theorem dX0_gapFrom_7 : decode cX0_gapFrom 7 = .ok (.if_icmp .ge 19, 3) := by decide +kernel
theorem dX0_gapFrom_10 : decode cX0_gapFrom 10 = .ok (.iload_n 0, 1) := by decide +kernel
theorem dX0_gapFrom_11 : decode cX0_gapFrom 11 = .ok (.iload_n 1, 1) := by decide +kernel
theorem dX0_gapFrom_12 : decode cX0_gapFrom 12 = .ok (.iload_n 2, 1) := by decide +kernel
theorem dX0_gapFrom_13 : decode cX0_gapFrom 13 = .ok (.iadd, 1) := by decide +kernel
theorem dX0_gapFrom_14 : decode cX0_gapFrom 14 = .ok (.invokestatic 82, 3) := by decide +kernel
theorem dX0_gapFrom_17 : decode cX0_gapFrom 17 = .ok (.ifCond .ne 9, 3) := by decide +kernel
theorem dX0_gapFrom_20 : decode cX0_gapFrom 20 = .ok (.iinc 2 1, 3) := by decide +kernel
theorem dX0_gapFrom_23 : decode cX0_gapFrom 23 = .ok (.goto (-21), 3) := by decide +kernel
theorem dX0_gapFrom_26 : decode cX0_gapFrom 26 = .ok (.iload_n 2, 1) := by decide +kernel
theorem dX0_gapFrom_27 : decode cX0_gapFrom 27 = .ok (.ireturn, 1) := by decide +kernel
theorem dX0_longestGap_0 : decode cX0_longestGap 0 = .ok (.iconst 0, 1) := by decide +kernel
theorem dX0_longestGap_1 : decode cX0_longestGap 1 = .ok (.istore_n 1, 1) := by decide +kernel
theorem dX0_longestGap_2 : decode cX0_longestGap 2 = .ok (.iconst 0, 1) := by decide +kernel
theorem dX0_longestGap_3 : decode cX0_longestGap 3 = .ok (.istore_n 2, 1) := by decide +kernel
theorem dX0_longestGap_4 : decode cX0_longestGap 4 = .ok (.iconst 0, 1) := by decide +kernel
theorem dX0_longestGap_5 : decode cX0_longestGap 5 = .ok (.istore_n 3, 1) := by decide +kernel
theorem dX0_longestGap_6 : decode cX0_longestGap 6 = .ok (.iload_n 3, 1) := by decide +kernel
theorem dX0_longestGap_7 : decode cX0_longestGap 7 = .ok (.bipush 16, 2) := by decide +kernel
theorem dX0_longestGap_9 : decode cX0_longestGap 9 = .ok (.if_icmp .ge 31, 3) := by decide +kernel
theorem dX0_longestGap_12 : decode cX0_longestGap 12 = .ok (.iload_n 0, 1) := by decide +kernel
theorem dX0_longestGap_13 : decode cX0_longestGap 13 = .ok (.iload_n 3, 1) := by decide +kernel
theorem dX0_longestGap_14 : decode cX0_longestGap 14 = .ok (.invokestatic 82, 3) := by decide +kernel
theorem dX0_longestGap_17 : decode cX0_longestGap 17 = .ok (.ifCond .eq 7, 3) := by decide +kernel
theorem dX0_longestGap_20 : decode cX0_longestGap 20 = .ok (.iconst 0, 1) := by decide +kernel
theorem dX0_longestGap_21 : decode cX0_longestGap 21 = .ok (.goto 6, 3) := by decide +kernel
theorem dX0_longestGap_24 : decode cX0_longestGap 24 = .ok (.iload_n 2, 1) := by decide +kernel
theorem dX0_longestGap_25 : decode cX0_longestGap 25 = .ok (.iconst 1, 1) := by decide +kernel
theorem dX0_longestGap_26 : decode cX0_longestGap 26 = .ok (.iadd, 1) := by decide +kernel
theorem dX0_longestGap_27 : decode cX0_longestGap 27 = .ok (.istore_n 2, 1) := by decide +kernel
theorem dX0_longestGap_28 : decode cX0_longestGap 28 = .ok (.iload_n 1, 1) := by decide +kernel
theorem dX0_longestGap_29 : decode cX0_longestGap 29 = .ok (.iload_n 2, 1) := by decide +kernel
theorem dX0_longestGap_30 : decode cX0_longestGap 30 = .ok (.invokestatic 85, 3) := by decide +kernel
theorem dX0_longestGap_33 : decode cX0_longestGap 33 = .ok (.istore_n 1, 1) := by decide +kernel
theorem dX0_longestGap_34 : decode cX0_longestGap 34 = .ok (.iinc 3 1, 3) := by decide +kernel
theorem dX0_longestGap_37 : decode cX0_longestGap 37 = .ok (.goto (-31), 3) := by decide +kernel
theorem dX0_longestGap_40 : decode cX0_longestGap 40 = .ok (.iload_n 1, 1) := by decide +kernel
theorem dX0_longestGap_41 : decode cX0_longestGap 41 = .ok (.ireturn, 1) := by decide +kernel
theorem dX0_lowestFree_0 : decode cX0_lowestFree 0 = .ok (.iconst 0, 1) := by decide +kernel
theorem dX0_lowestFree_1 : decode cX0_lowestFree 1 = .ok (.istore_n 1, 1) := by decide +kernel
theorem dX0_lowestFree_2 : decode cX0_lowestFree 2 = .ok (.iload_n 1, 1) := by decide +kernel
theorem dX0_lowestFree_3 : decode cX0_lowestFree 3 = .ok (.bipush 24, 2) := by decide +kernel
theorem dX0_lowestFree_5 : decode cX0_lowestFree 5 = .ok (.if_icmp .ge 20, 3) := by decide +kernel
theorem dX0_lowestFree_8 : decode cX0_lowestFree 8 = .ok (.aload_n 0, 1) := by decide +kernel
theorem dX0_lowestFree_9 : decode cX0_lowestFree 9 = .ok (.getfield 9, 3) := by decide +kernel
theorem dX0_lowestFree_12 : decode cX0_lowestFree 12 = .ok (.iload_n 1, 1) := by decide +kernel
theorem dX0_lowestFree_13 : decode cX0_lowestFree 13 = .ok (.iaload, 1) := by decide +kernel
theorem dX0_lowestFree_14 : decode cX0_lowestFree 14 = .ok (.ifCond .ne 5, 3) := by decide +kernel
theorem dX0_lowestFree_17 : decode cX0_lowestFree 17 = .ok (.iload_n 1, 1) := by decide +kernel
theorem dX0_lowestFree_18 : decode cX0_lowestFree 18 = .ok (.ireturn, 1) := by decide +kernel
theorem dX0_lowestFree_19 : decode cX0_lowestFree 19 = .ok (.iinc 1 1, 3) := by decide +kernel
theorem dX0_lowestFree_22 : decode cX0_lowestFree 22 = .ok (.goto (-20), 3) := by decide +kernel
theorem dX0_lowestFree_25 : decode cX0_lowestFree 25 = .ok (.iconst (-1), 1) := by decide +kernel
theorem dX0_lowestFree_26 : decode cX0_lowestFree 26 = .ok (.ireturn, 1) := by decide +kernel
theorem dX0_placeFor_0 : decode cX0_placeFor 0 = .ok (.iconst (-1), 1) := by decide +kernel
theorem dX0_placeFor_1 : decode cX0_placeFor 1 = .ok (.istore_n 2, 1) := by decide +kernel
theorem dX0_placeFor_2 : decode cX0_placeFor 2 = .ok (.bipush 17, 2) := by decide +kernel
theorem dX0_placeFor_4 : decode cX0_placeFor 4 = .ok (.istore_n 3, 1) := by decide +kernel
theorem dX0_placeFor_5 : decode cX0_placeFor 5 = .ok (.iconst 0, 1) := by decide +kernel
theorem dX0_placeFor_6 : decode cX0_placeFor 6 = .ok (.istore 4, 2) := by decide +kernel
theorem dX0_placeFor_8 : decode cX0_placeFor 8 = .ok (.iload 4, 2) := by decide +kernel
theorem dX0_placeFor_10 : decode cX0_placeFor 10 = .ok (.bipush 24, 2) := by decide +kernel
theorem dX0_placeFor_12 : decode cX0_placeFor 12 = .ok (.if_icmp .ge 125, 3) := by decide +kernel
theorem dX0_placeFor_15 : decode cX0_placeFor 15 = .ok (.aload_n 0, 1) := by decide +kernel
theorem dX0_placeFor_16 : decode cX0_placeFor 16 = .ok (.getfield 9, 3) := by decide +kernel
theorem dX0_placeFor_19 : decode cX0_placeFor 19 = .ok (.iload 4, 2) := by decide +kernel
theorem dX0_placeFor_21 : decode cX0_placeFor 21 = .ok (.iaload, 1) := by decide +kernel
theorem dX0_placeFor_22 : decode cX0_placeFor 22 = .ok (.iconst 2, 1) := by decide +kernel
theorem dX0_placeFor_23 : decode cX0_placeFor 23 = .ok (.if_icmp .ne 13, 3) := by decide +kernel
theorem dX0_placeFor_26 : decode cX0_placeFor 26 = .ok (.aload_n 0, 1) := by decide +kernel
theorem dX0_placeFor_27 : decode cX0_placeFor 27 = .ok (.iload 4, 2) := by decide +kernel
theorem dX0_placeFor_29 : decode cX0_placeFor 29 = .ok (.iconst (-1), 1) := by decide +kernel
theorem dX0_placeFor_30 : decode cX0_placeFor 30 = .ok (.invokevirtual 63, 3) := by decide +kernel
theorem dX0_placeFor_33 : decode cX0_placeFor 33 = .ok (.goto 5, 3) := by decide +kernel
theorem dX0_placeFor_36 : decode cX0_placeFor 36 = .ok (.ldc 90, 2) := by decide +kernel
theorem dX0_placeFor_38 : decode cX0_placeFor 38 = .ok (.istore 5, 2) := by decide +kernel
theorem dX0_placeFor_40 : decode cX0_placeFor 40 = .ok (.iconst 0, 1) := by decide +kernel
theorem dX0_placeFor_41 : decode cX0_placeFor 41 = .ok (.istore 6, 2) := by decide +kernel
theorem dX0_placeFor_43 : decode cX0_placeFor 43 = .ok (.iload 6, 2) := by decide +kernel
theorem dX0_placeFor_45 : decode cX0_placeFor 45 = .ok (.bipush 16, 2) := by decide +kernel
theorem dX0_placeFor_47 : decode cX0_placeFor 47 = .ok (.if_icmp .ge 84, 3) := by decide +kernel
theorem dX0_placeFor_50 : decode cX0_placeFor 50 = .ok (.iload 6, 2) := by decide +kernel
theorem dX0_placeFor_52 : decode cX0_placeFor 52 = .ok (.ifCond .eq 15, 3) := by decide +kernel
theorem dX0_placeFor_55 : decode cX0_placeFor 55 = .ok (.iload 5, 2) := by decide +kernel
theorem dX0_placeFor_57 : decode cX0_placeFor 57 = .ok (.iload 6, 2) := by decide +kernel
theorem dX0_placeFor_59 : decode cX0_placeFor 59 = .ok (.iconst 1, 1) := by decide +kernel
theorem dX0_placeFor_60 : decode cX0_placeFor 60 = .ok (.isub, 1) := by decide +kernel
theorem dX0_placeFor_61 : decode cX0_placeFor 61 = .ok (.invokestatic 82, 3) := by decide +kernel
theorem dX0_placeFor_64 : decode cX0_placeFor 64 = .ok (.ifCond .eq 7, 3) := by decide +kernel
theorem dX0_placeFor_67 : decode cX0_placeFor 67 = .ok (.iconst 1, 1) := by decide +kernel
theorem dX0_placeFor_68 : decode cX0_placeFor 68 = .ok (.goto 4, 3) := by decide +kernel
theorem dX0_placeFor_71 : decode cX0_placeFor 71 = .ok (.iconst 0, 1) := by decide +kernel
theorem dX0_placeFor_72 : decode cX0_placeFor 72 = .ok (.istore 7, 2) := by decide +kernel
theorem dX0_placeFor_74 : decode cX0_placeFor 74 = .ok (.iload 7, 2) := by decide +kernel
theorem dX0_placeFor_76 : decode cX0_placeFor 76 = .ok (.ifCond .eq 13, 3) := by decide +kernel
theorem dX0_placeFor_79 : decode cX0_placeFor 79 = .ok (.iload 5, 2) := by decide +kernel
theorem dX0_placeFor_81 : decode cX0_placeFor 81 = .ok (.iload 6, 2) := by decide +kernel
theorem dX0_placeFor_83 : decode cX0_placeFor 83 = .ok (.invokestatic 91, 3) := by decide +kernel
theorem dX0_placeFor_86 : decode cX0_placeFor 86 = .ok (.goto 4, 3) := by decide +kernel
theorem dX0_placeFor_89 : decode cX0_placeFor 89 = .ok (.iconst 0, 1) := by decide +kernel
theorem dX0_placeFor_90 : decode cX0_placeFor 90 = .ok (.istore 8, 2) := by decide +kernel
theorem dX0_placeFor_92 : decode cX0_placeFor 92 = .ok (.iload 8, 2) := by decide +kernel
theorem dX0_placeFor_94 : decode cX0_placeFor 94 = .ok (.iload_n 1, 1) := by decide +kernel
theorem dX0_placeFor_95 : decode cX0_placeFor 95 = .ok (.if_icmp .lt 30, 3) := by decide +kernel
theorem dX0_placeFor_98 : decode cX0_placeFor 98 = .ok (.iload 8, 2) := by decide +kernel
theorem dX0_placeFor_100 : decode cX0_placeFor 100 = .ok (.iload_n 3, 1) := by decide +kernel
theorem dX0_placeFor_101 : decode cX0_placeFor 101 = .ok (.if_icmp .ge 24, 3) := by decide +kernel
theorem dX0_placeFor_104 : decode cX0_placeFor 104 = .ok (.bipush 16, 2) := by decide +kernel
theorem dX0_placeFor_106 : decode cX0_placeFor 106 = .ok (.iload 4, 2) := by decide +kernel
theorem dX0_placeFor_108 : decode cX0_placeFor 108 = .ok (.imul, 1) := by decide +kernel
theorem dX0_placeFor_109 : decode cX0_placeFor 109 = .ok (.iload 6, 2) := by decide +kernel
theorem dX0_placeFor_111 : decode cX0_placeFor 111 = .ok (.iadd, 1) := by decide +kernel
theorem dX0_placeFor_112 : decode cX0_placeFor 112 = .ok (.istore_n 2, 1) := by decide +kernel
theorem dX0_placeFor_113 : decode cX0_placeFor 113 = .ok (.iload 8, 2) := by decide +kernel
theorem dX0_placeFor_115 : decode cX0_placeFor 115 = .ok (.istore_n 3, 1) := by decide +kernel
theorem dX0_placeFor_116 : decode cX0_placeFor 116 = .ok (.aload_n 0, 1) := by decide +kernel
theorem dX0_placeFor_117 : decode cX0_placeFor 117 = .ok (.getfield 43, 3) := by decide +kernel
theorem dX0_placeFor_120 : decode cX0_placeFor 120 = .ok (.ifCond .ne 5, 3) := by decide +kernel
theorem dX0_placeFor_123 : decode cX0_placeFor 123 = .ok (.iload_n 2, 1) := by decide +kernel
theorem dX0_placeFor_124 : decode cX0_placeFor 124 = .ok (.ireturn, 1) := by decide +kernel
theorem dX0_placeFor_125 : decode cX0_placeFor 125 = .ok (.iinc 6 1, 3) := by decide +kernel
theorem dX0_placeFor_128 : decode cX0_placeFor 128 = .ok (.goto (-85), 3) := by decide +kernel
theorem dX0_placeFor_131 : decode cX0_placeFor 131 = .ok (.iinc 4 1, 3) := by decide +kernel
theorem dX0_placeFor_134 : decode cX0_placeFor 134 = .ok (.goto (-126), 3) := by decide +kernel
theorem dX0_placeFor_137 : decode cX0_placeFor 137 = .ok (.iload_n 2, 1) := by decide +kernel
theorem dX0_placeFor_138 : decode cX0_placeFor 138 = .ok (.iconst (-1), 1) := by decide +kernel
theorem dX0_placeFor_139 : decode cX0_placeFor 139 = .ok (.if_icmp .ne 10, 3) := by decide +kernel
theorem dX0_placeFor_142 : decode cX0_placeFor 142 = .ok (.aload_n 0, 1) := by decide +kernel
theorem dX0_placeFor_143 : decode cX0_placeFor 143 = .ok (.invokevirtual 94, 3) := by decide +kernel
theorem dX0_placeFor_146 : decode cX0_placeFor 146 = .ok (.goto 4, 3) := by decide +kernel
theorem dX0_placeFor_149 : decode cX0_placeFor 149 = .ok (.iconst (-1), 1) := by decide +kernel
theorem dX0_placeFor_150 : decode cX0_placeFor 150 = .ok (.istore 4, 2) := by decide +kernel
theorem dX0_placeFor_152 : decode cX0_placeFor 152 = .ok (.iload 4, 2) := by decide +kernel
theorem dX0_placeFor_154 : decode cX0_placeFor 154 = .ok (.iconst (-1), 1) := by decide +kernel
theorem dX0_placeFor_155 : decode cX0_placeFor 155 = .ok (.if_icmp .ne 7, 3) := by decide +kernel
theorem dX0_placeFor_158 : decode cX0_placeFor 158 = .ok (.iload_n 2, 1) := by decide +kernel
theorem dX0_placeFor_159 : decode cX0_placeFor 159 = .ok (.goto 8, 3) := by decide +kernel
theorem dX0_placeFor_162 : decode cX0_placeFor 162 = .ok (.bipush 16, 2) := by decide +kernel
theorem dX0_placeFor_164 : decode cX0_placeFor 164 = .ok (.iload 4, 2) := by decide +kernel
theorem dX0_placeFor_166 : decode cX0_placeFor 166 = .ok (.imul, 1) := by decide +kernel
theorem dX0_placeFor_167 : decode cX0_placeFor 167 = .ok (.ireturn, 1) := by decide +kernel
theorem dX0_isEnough_0 : decode cX0_isEnough 0 = .ok (.iconst 0, 1) := by decide +kernel
theorem dX0_isEnough_1 : decode cX0_isEnough 1 = .ok (.istore 4, 2) := by decide +kernel
theorem dX0_isEnough_3 : decode cX0_isEnough 3 = .ok (.iconst 0, 1) := by decide +kernel
theorem dX0_isEnough_4 : decode cX0_isEnough 4 = .ok (.istore 5, 2) := by decide +kernel
theorem dX0_isEnough_6 : decode cX0_isEnough 6 = .ok (.iconst 0, 1) := by decide +kernel
theorem dX0_isEnough_7 : decode cX0_isEnough 7 = .ok (.istore 6, 2) := by decide +kernel
theorem dX0_isEnough_9 : decode cX0_isEnough 9 = .ok (.iload 6, 2) := by decide +kernel
theorem dX0_isEnough_11 : decode cX0_isEnough 11 = .ok (.bipush 24, 2) := by decide +kernel
theorem dX0_isEnough_13 : decode cX0_isEnough 13 = .ok (.if_icmp .ge 77, 3) := by decide +kernel
theorem dX0_isEnough_16 : decode cX0_isEnough 16 = .ok (.aload_n 0, 1) := by decide +kernel
theorem dX0_isEnough_17 : decode cX0_isEnough 17 = .ok (.getfield 9, 3) := by decide +kernel
theorem dX0_isEnough_20 : decode cX0_isEnough 20 = .ok (.iload 6, 2) := by decide +kernel
theorem dX0_isEnough_22 : decode cX0_isEnough 22 = .ok (.iaload, 1) := by decide +kernel
theorem dX0_isEnough_23 : decode cX0_isEnough 23 = .ok (.iconst 2, 1) := by decide +kernel
theorem dX0_isEnough_24 : decode cX0_isEnough 24 = .ok (.if_icmp .ne 13, 3) := by decide +kernel
theorem dX0_isEnough_27 : decode cX0_isEnough 27 = .ok (.aload_n 0, 1) := by decide +kernel
theorem dX0_isEnough_28 : decode cX0_isEnough 28 = .ok (.iload 6, 2) := by decide +kernel
theorem dX0_isEnough_30 : decode cX0_isEnough 30 = .ok (.iload_n 3, 1) := by decide +kernel
theorem dX0_isEnough_31 : decode cX0_isEnough 31 = .ok (.invokevirtual 63, 3) := by decide +kernel
theorem dX0_isEnough_34 : decode cX0_isEnough 34 = .ok (.goto 4, 3) := by decide +kernel
theorem dX0_isEnough_37 : decode cX0_isEnough 37 = .ok (.iconst 0, 1) := by decide +kernel
theorem dX0_isEnough_38 : decode cX0_isEnough 38 = .ok (.istore 7, 2) := by decide +kernel
theorem dX0_isEnough_40 : decode cX0_isEnough 40 = .ok (.iload 7, 2) := by decide +kernel
theorem dX0_isEnough_42 : decode cX0_isEnough 42 = .ok (.ifCond .eq 18, 3) := by decide +kernel
theorem dX0_isEnough_45 : decode cX0_isEnough 45 = .ok (.iload 5, 2) := by decide +kernel
theorem dX0_isEnough_47 : decode cX0_isEnough 47 = .ok (.iload 7, 2) := by decide +kernel
theorem dX0_isEnough_49 : decode cX0_isEnough 49 = .ok (.invokestatic 67, 3) := by decide +kernel
theorem dX0_isEnough_52 : decode cX0_isEnough 52 = .ok (.invokestatic 85, 3) := by decide +kernel
theorem dX0_isEnough_55 : decode cX0_isEnough 55 = .ok (.istore 5, 2) := by decide +kernel
theorem dX0_isEnough_57 : decode cX0_isEnough 57 = .ok (.goto 27, 3) := by decide +kernel
theorem dX0_isEnough_60 : decode cX0_isEnough 60 = .ok (.aload_n 0, 1) := by decide +kernel
theorem dX0_isEnough_61 : decode cX0_isEnough 61 = .ok (.getfield 9, 3) := by decide +kernel
theorem dX0_isEnough_64 : decode cX0_isEnough 64 = .ok (.iload 6, 2) := by decide +kernel
theorem dX0_isEnough_66 : decode cX0_isEnough 66 = .ok (.iaload, 1) := by decide +kernel
theorem dX0_isEnough_67 : decode cX0_isEnough 67 = .ok (.ifCond .eq 14, 3) := by decide +kernel
theorem dX0_isEnough_70 : decode cX0_isEnough 70 = .ok (.aload_n 0, 1) := by decide +kernel
theorem dX0_isEnough_71 : decode cX0_isEnough 71 = .ok (.getfield 9, 3) := by decide +kernel
theorem dX0_isEnough_74 : decode cX0_isEnough 74 = .ok (.iload 6, 2) := by decide +kernel
theorem dX0_isEnough_76 : decode cX0_isEnough 76 = .ok (.iaload, 1) := by decide +kernel
theorem dX0_isEnough_77 : decode cX0_isEnough 77 = .ok (.iconst 2, 1) := by decide +kernel
theorem dX0_isEnough_78 : decode cX0_isEnough 78 = .ok (.if_icmp .ne 6, 3) := by decide +kernel
theorem dX0_isEnough_81 : decode cX0_isEnough 81 = .ok (.iinc 4 1, 3) := by decide +kernel
theorem dX0_isEnough_84 : decode cX0_isEnough 84 = .ok (.iinc 6 1, 3) := by decide +kernel
theorem dX0_isEnough_87 : decode cX0_isEnough 87 = .ok (.goto (-78), 3) := by decide +kernel
theorem dX0_isEnough_90 : decode cX0_isEnough 90 = .ok (.iload 4, 2) := by decide +kernel
theorem dX0_isEnough_92 : decode cX0_isEnough 92 = .ok (.iload_n 1, 1) := by decide +kernel
theorem dX0_isEnough_93 : decode cX0_isEnough 93 = .ok (.if_icmp .gt 15, 3) := by decide +kernel
theorem dX0_isEnough_96 : decode cX0_isEnough 96 = .ok (.iload 4, 2) := by decide +kernel
theorem dX0_isEnough_98 : decode cX0_isEnough 98 = .ok (.iload_n 1, 1) := by decide +kernel
theorem dX0_isEnough_99 : decode cX0_isEnough 99 = .ok (.if_icmp .ne 13, 3) := by decide +kernel
theorem dX0_isEnough_102 : decode cX0_isEnough 102 = .ok (.iload_n 2, 1) := by decide +kernel
theorem dX0_isEnough_103 : decode cX0_isEnough 103 = .ok (.iload 5, 2) := by decide +kernel
theorem dX0_isEnough_105 : decode cX0_isEnough 105 = .ok (.if_icmp .gt 7, 3) := by decide +kernel
theorem dX0_isEnough_108 : decode cX0_isEnough 108 = .ok (.iconst 1, 1) := by decide +kernel
theorem dX0_isEnough_109 : decode cX0_isEnough 109 = .ok (.goto 4, 3) := by decide +kernel
theorem dX0_isEnough_112 : decode cX0_isEnough 112 = .ok (.iconst 0, 1) := by decide +kernel
theorem dX0_isEnough_113 : decode cX0_isEnough 113 = .ok (.ireturn, 1) := by decide +kernel
theorem dX0_hasRoomFor_0 : decode cX0_hasRoomFor 0 = .ok (.aload_n 0, 1) := by decide +kernel
theorem dX0_hasRoomFor_1 : decode cX0_hasRoomFor 1 = .ok (.invokevirtual 98, 3) := by decide +kernel
theorem dX0_hasRoomFor_4 : decode cX0_hasRoomFor 4 = .ok (.iconst (-1), 1) := by decide +kernel
theorem dX0_hasRoomFor_5 : decode cX0_hasRoomFor 5 = .ok (.if_icmp .eq 23, 3) := by decide +kernel
theorem dX0_hasRoomFor_8 : decode cX0_hasRoomFor 8 = .ok (.aload_n 0, 1) := by decide +kernel
theorem dX0_hasRoomFor_9 : decode cX0_hasRoomFor 9 = .ok (.iload_n 1, 1) := by decide +kernel
theorem dX0_hasRoomFor_10 : decode cX0_hasRoomFor 10 = .ok (.bipush 16, 2) := by decide +kernel
theorem dX0_hasRoomFor_12 : decode cX0_hasRoomFor 12 = .ok (.idiv, 1) := by decide +kernel
theorem dX0_hasRoomFor_13 : decode cX0_hasRoomFor 13 = .ok (.iload_n 1, 1) := by decide +kernel
theorem dX0_hasRoomFor_14 : decode cX0_hasRoomFor 14 = .ok (.bipush 16, 2) := by decide +kernel
theorem dX0_hasRoomFor_16 : decode cX0_hasRoomFor 16 = .ok (.irem, 1) := by decide +kernel
theorem dX0_hasRoomFor_17 : decode cX0_hasRoomFor 17 = .ok (.iconst (-1), 1) := by decide +kernel
theorem dX0_hasRoomFor_18 : decode cX0_hasRoomFor 18 = .ok (.invokevirtual 101, 3) := by decide +kernel
theorem dX0_hasRoomFor_21 : decode cX0_hasRoomFor 21 = .ok (.ifCond .eq 7, 3) := by decide +kernel
theorem dX0_hasRoomFor_24 : decode cX0_hasRoomFor 24 = .ok (.iconst 1, 1) := by decide +kernel
theorem dX0_hasRoomFor_25 : decode cX0_hasRoomFor 25 = .ok (.goto 4, 3) := by decide +kernel
theorem dX0_hasRoomFor_28 : decode cX0_hasRoomFor 28 = .ok (.iconst 0, 1) := by decide +kernel
theorem dX0_hasRoomFor_29 : decode cX0_hasRoomFor 29 = .ok (.ireturn, 1) := by decide +kernel
theorem dX0_lowestNumber_0 : decode cX0_lowestNumber 0 = .ok (.iconst 0, 1) := by decide +kernel
theorem dX0_lowestNumber_1 : decode cX0_lowestNumber 1 = .ok (.istore_n 1, 1) := by decide +kernel
theorem dX0_lowestNumber_2 : decode cX0_lowestNumber 2 = .ok (.iload_n 1, 1) := by decide +kernel
theorem dX0_lowestNumber_3 : decode cX0_lowestNumber 3 = .ok (.bipush 10, 2) := by decide +kernel
theorem dX0_lowestNumber_5 : decode cX0_lowestNumber 5 = .ok (.if_icmp .ge 21, 3) := by decide +kernel
theorem dX0_lowestNumber_8 : decode cX0_lowestNumber 8 = .ok (.aload_n 0, 1) := by decide +kernel
theorem dX0_lowestNumber_9 : decode cX0_lowestNumber 9 = .ok (.getfield 21, 3) := by decide +kernel
theorem dX0_lowestNumber_12 : decode cX0_lowestNumber 12 = .ok (.iload_n 1, 1) := by decide +kernel
theorem dX0_lowestNumber_13 : decode cX0_lowestNumber 13 = .ok (.iaload, 1) := by decide +kernel
theorem dX0_lowestNumber_14 : decode cX0_lowestNumber 14 = .ok (.iconst (-1), 1) := by decide +kernel
theorem dX0_lowestNumber_15 : decode cX0_lowestNumber 15 = .ok (.if_icmp .ne 5, 3) := by decide +kernel
theorem dX0_lowestNumber_18 : decode cX0_lowestNumber 18 = .ok (.iload_n 1, 1) := by decide +kernel
theorem dX0_lowestNumber_19 : decode cX0_lowestNumber 19 = .ok (.ireturn, 1) := by decide +kernel
theorem dX0_lowestNumber_20 : decode cX0_lowestNumber 20 = .ok (.iinc 1 1, 3) := by decide +kernel
theorem dX0_lowestNumber_23 : decode cX0_lowestNumber 23 = .ok (.goto (-21), 3) := by decide +kernel
theorem dX0_lowestNumber_26 : decode cX0_lowestNumber 26 = .ok (.iconst (-1), 1) := by decide +kernel
theorem dX0_lowestNumber_27 : decode cX0_lowestNumber 27 = .ok (.ireturn, 1) := by decide +kernel
theorem dX0_growthOf_0 : decode cX0_growthOf 0 = .ok (.aload_n 0, 1) := by decide +kernel
theorem dX0_growthOf_1 : decode cX0_growthOf 1 = .ok (.iload_n 1, 1) := by decide +kernel
theorem dX0_growthOf_2 : decode cX0_growthOf 2 = .ok (.invokevirtual 46, 3) := by decide +kernel
theorem dX0_growthOf_5 : decode cX0_growthOf 5 = .ok (.ifCond .eq 27, 3) := by decide +kernel
theorem dX0_growthOf_8 : decode cX0_growthOf 8 = .ok (.aload_n 0, 1) := by decide +kernel
theorem dX0_growthOf_9 : decode cX0_growthOf 9 = .ok (.getfield 30, 3) := by decide +kernel
theorem dX0_growthOf_12 : decode cX0_growthOf 12 = .ok (.iload_n 1, 1) := by decide +kernel
theorem dX0_growthOf_13 : decode cX0_growthOf 13 = .ok (.iaload, 1) := by decide +kernel
theorem dX0_growthOf_14 : decode cX0_growthOf 14 = .ok (.iconst 1, 1) := by decide +kernel
theorem dX0_growthOf_15 : decode cX0_growthOf 15 = .ok (.if_icmp .eq 17, 3) := by decide +kernel
theorem dX0_growthOf_18 : decode cX0_growthOf 18 = .ok (.aload_n 0, 1) := by decide +kernel
theorem dX0_growthOf_19 : decode cX0_growthOf 19 = .ok (.getfield 21, 3) := by decide +kernel
theorem dX0_growthOf_22 : decode cX0_growthOf 22 = .ok (.iload_n 1, 1) := by decide +kernel
theorem dX0_growthOf_23 : decode cX0_growthOf 23 = .ok (.iaload, 1) := by decide +kernel
theorem dX0_growthOf_24 : decode cX0_growthOf 24 = .ok (.iload_n 2, 1) := by decide +kernel
theorem dX0_growthOf_25 : decode cX0_growthOf 25 = .ok (.iadd, 1) := by decide +kernel
theorem dX0_growthOf_26 : decode cX0_growthOf 26 = .ok (.sipush 200, 3) := by decide +kernel
theorem dX0_growthOf_29 : decode cX0_growthOf 29 = .ok (.if_icmp .le 5, 3) := by decide +kernel
theorem dX0_growthOf_32 : decode cX0_growthOf 32 = .ok (.iconst (-1), 1) := by decide +kernel
theorem dX0_growthOf_33 : decode cX0_growthOf 33 = .ok (.ireturn, 1) := by decide +kernel
theorem dX0_growthOf_34 : decode cX0_growthOf 34 = .ok (.aload_n 0, 1) := by decide +kernel
theorem dX0_growthOf_35 : decode cX0_growthOf 35 = .ok (.getfield 21, 3) := by decide +kernel
theorem dX0_growthOf_38 : decode cX0_growthOf 38 = .ok (.iload_n 1, 1) := by decide +kernel
theorem dX0_growthOf_39 : decode cX0_growthOf 39 = .ok (.iaload, 1) := by decide +kernel
theorem dX0_growthOf_40 : decode cX0_growthOf 40 = .ok (.iload_n 2, 1) := by decide +kernel
theorem dX0_growthOf_41 : decode cX0_growthOf 41 = .ok (.iadd, 1) := by decide +kernel
theorem dX0_growthOf_42 : decode cX0_growthOf 42 = .ok (.istore_n 3, 1) := by decide +kernel
theorem dX0_growthOf_43 : decode cX0_growthOf 43 = .ok (.iload_n 3, 1) := by decide +kernel
theorem dX0_growthOf_44 : decode cX0_growthOf 44 = .ok (.bipush 16, 2) := by decide +kernel
theorem dX0_growthOf_46 : decode cX0_growthOf 46 = .ok (.idiv, 1) := by decide +kernel
theorem dX0_growthOf_47 : decode cX0_growthOf 47 = .ok (.aload_n 0, 1) := by decide +kernel
theorem dX0_growthOf_48 : decode cX0_growthOf 48 = .ok (.getfield 21, 3) := by decide +kernel
theorem dX0_growthOf_51 : decode cX0_growthOf 51 = .ok (.iload_n 1, 1) := by decide +kernel
theorem dX0_growthOf_52 : decode cX0_growthOf 52 = .ok (.iaload, 1) := by decide +kernel
theorem dX0_growthOf_53 : decode cX0_growthOf 53 = .ok (.bipush 16, 2) := by decide +kernel
theorem dX0_growthOf_55 : decode cX0_growthOf 55 = .ok (.idiv, 1) := by decide +kernel
theorem dX0_growthOf_56 : decode cX0_growthOf 56 = .ok (.isub, 1) := by decide +kernel
theorem dX0_growthOf_57 : decode cX0_growthOf 57 = .ok (.istore 4, 2) := by decide +kernel
theorem dX0_growthOf_59 : decode cX0_growthOf 59 = .ok (.iload 4, 2) := by decide +kernel
theorem dX0_growthOf_61 : decode cX0_growthOf 61 = .ok (.ifCond .ne 14, 3) := by decide +kernel
theorem dX0_growthOf_64 : decode cX0_growthOf 64 = .ok (.aload_n 0, 1) := by decide +kernel
theorem dX0_growthOf_65 : decode cX0_growthOf 65 = .ok (.iload_n 1, 1) := by decide +kernel
theorem dX0_growthOf_66 : decode cX0_growthOf 66 = .ok (.invokevirtual 105, 3) := by decide +kernel
theorem dX0_growthOf_69 : decode cX0_growthOf 69 = .ok (.iload_n 2, 1) := by decide +kernel
theorem dX0_growthOf_70 : decode cX0_growthOf 70 = .ok (.if_icmp .lt 5, 3) := by decide +kernel
theorem dX0_growthOf_73 : decode cX0_growthOf 73 = .ok (.iconst 0, 1) := by decide +kernel
theorem dX0_growthOf_74 : decode cX0_growthOf 74 = .ok (.ireturn, 1) := by decide +kernel
theorem dX0_growthOf_75 : decode cX0_growthOf 75 = .ok (.aload_n 0, 1) := by decide +kernel
theorem dX0_growthOf_76 : decode cX0_growthOf 76 = .ok (.iload 4, 2) := by decide +kernel
theorem dX0_growthOf_78 : decode cX0_growthOf 78 = .ok (.iload_n 3, 1) := by decide +kernel
theorem dX0_growthOf_79 : decode cX0_growthOf 79 = .ok (.bipush 16, 2) := by decide +kernel
theorem dX0_growthOf_81 : decode cX0_growthOf 81 = .ok (.irem, 1) := by decide +kernel
theorem dX0_growthOf_82 : decode cX0_growthOf 82 = .ok (.iload_n 1, 1) := by decide +kernel
theorem dX0_growthOf_83 : decode cX0_growthOf 83 = .ok (.invokevirtual 101, 3) := by decide +kernel
theorem dX0_growthOf_86 : decode cX0_growthOf 86 = .ok (.ifCond .eq 7, 3) := by decide +kernel
theorem dX0_growthOf_89 : decode cX0_growthOf 89 = .ok (.iconst 1, 1) := by decide +kernel
theorem dX0_growthOf_90 : decode cX0_growthOf 90 = .ok (.goto 4, 3) := by decide +kernel
theorem dX0_growthOf_93 : decode cX0_growthOf 93 = .ok (.iconst (-1), 1) := by decide +kernel
theorem dX0_growthOf_94 : decode cX0_growthOf 94 = .ok (.ireturn, 1) := by decide +kernel
theorem dX0_cellsBehindTail_0 : decode cX0_cellsBehindTail 0 = .ok (.aload_n 0, 1) := by decide +kernel
theorem dX0_cellsBehindTail_1 : decode cX0_cellsBehindTail 1 = .ok (.iload_n 1, 1) := by decide +kernel
theorem dX0_cellsBehindTail_2 : decode cX0_cellsBehindTail 2 = .ok (.invokevirtual 46, 3) := by decide +kernel
theorem dX0_cellsBehindTail_5 : decode cX0_cellsBehindTail 5 = .ok (.ifCond .eq 13, 3) := by decide +kernel
theorem dX0_cellsBehindTail_8 : decode cX0_cellsBehindTail 8 = .ok (.aload_n 0, 1) := by decide +kernel
theorem dX0_cellsBehindTail_9 : decode cX0_cellsBehindTail 9 = .ok (.getfield 24, 3) := by decide +kernel
theorem dX0_cellsBehindTail_12 : decode cX0_cellsBehindTail 12 = .ok (.iload_n 1, 1) := by decide +kernel
theorem dX0_cellsBehindTail_13 : decode cX0_cellsBehindTail 13 = .ok (.iaload, 1) := by decide +kernel
theorem dX0_cellsBehindTail_14 : decode cX0_cellsBehindTail 14 = .ok (.iconst (-1), 1) := by decide +kernel
theorem dX0_cellsBehindTail_15 : decode cX0_cellsBehindTail 15 = .ok (.if_icmp .ne 5, 3) := by decide +kernel
theorem dX0_cellsBehindTail_18 : decode cX0_cellsBehindTail 18 = .ok (.iconst 0, 1) := by decide +kernel
theorem dX0_cellsBehindTail_19 : decode cX0_cellsBehindTail 19 = .ok (.ireturn, 1) := by decide +kernel
theorem dX0_cellsBehindTail_20 : decode cX0_cellsBehindTail 20 = .ok (.aload_n 0, 1) := by decide +kernel
theorem dX0_cellsBehindTail_21 : decode cX0_cellsBehindTail 21 = .ok (.aload_n 0, 1) := by decide +kernel
theorem dX0_cellsBehindTail_22 : decode cX0_cellsBehindTail 22 = .ok (.getfield 24, 3) := by decide +kernel
theorem dX0_cellsBehindTail_25 : decode cX0_cellsBehindTail 25 = .ok (.iload_n 1, 1) := by decide +kernel
theorem dX0_cellsBehindTail_26 : decode cX0_cellsBehindTail 26 = .ok (.iaload, 1) := by decide +kernel
theorem dX0_cellsBehindTail_27 : decode cX0_cellsBehindTail 27 = .ok (.iconst (-1), 1) := by decide +kernel
theorem dX0_cellsBehindTail_28 : decode cX0_cellsBehindTail 28 = .ok (.invokevirtual 63, 3) := by decide +kernel
theorem dX0_cellsBehindTail_31 : decode cX0_cellsBehindTail 31 = .ok (.istore_n 2, 1) := by decide +kernel
theorem dX0_cellsBehindTail_32 : decode cX0_cellsBehindTail 32 = .ok (.iload_n 2, 1) := by decide +kernel
theorem dX0_cellsBehindTail_33 : decode cX0_cellsBehindTail 33 = .ok (.aload_n 0, 1) := by decide +kernel
theorem dX0_cellsBehindTail_34 : decode cX0_cellsBehindTail 34 = .ok (.getfield 27, 3) := by decide +kernel
theorem dX0_cellsBehindTail_37 : decode cX0_cellsBehindTail 37 = .ok (.iload_n 1, 1) := by decide +kernel
theorem dX0_cellsBehindTail_38 : decode cX0_cellsBehindTail 38 = .ok (.iaload, 1) := by decide +kernel
theorem dX0_cellsBehindTail_39 : decode cX0_cellsBehindTail 39 = .ok (.aload_n 0, 1) := by decide +kernel
theorem dX0_cellsBehindTail_40 : decode cX0_cellsBehindTail 40 = .ok (.getfield 21, 3) := by decide +kernel
theorem dX0_cellsBehindTail_43 : decode cX0_cellsBehindTail 43 = .ok (.iload_n 1, 1) := by decide +kernel
theorem dX0_cellsBehindTail_44 : decode cX0_cellsBehindTail 44 = .ok (.iaload, 1) := by decide +kernel
theorem dX0_cellsBehindTail_45 : decode cX0_cellsBehindTail 45 = .ok (.bipush 16, 2) := by decide +kernel
theorem dX0_cellsBehindTail_47 : decode cX0_cellsBehindTail 47 = .ok (.irem, 1) := by decide +kernel
theorem dX0_cellsBehindTail_48 : decode cX0_cellsBehindTail 48 = .ok (.iadd, 1) := by decide +kernel
theorem dX0_cellsBehindTail_49 : decode cX0_cellsBehindTail 49 = .ok (.invokestatic 91, 3) := by decide +kernel
theorem dX0_cellsBehindTail_52 : decode cX0_cellsBehindTail 52 = .ok (.ireturn, 1) := by decide +kernel
theorem dX0_addFile_0 : decode cX0_addFile 0 = .ok (.aload_n 0, 1) := by decide +kernel
theorem dX0_addFile_1 : decode cX0_addFile 1 = .ok (.iload_n 1, 1) := by decide +kernel
theorem dX0_addFile_2 : decode cX0_addFile 2 = .ok (.invokevirtual 108, 3) := by decide +kernel
theorem dX0_addFile_5 : decode cX0_addFile 5 = .ok (.ifCond .ne 15, 3) := by decide +kernel
theorem dX0_addFile_8 : decode cX0_addFile 8 = .ok (.aload_n 0, 1) := by decide +kernel
theorem dX0_addFile_9 : decode cX0_addFile 9 = .ok (.dup, 1) := by decide +kernel
theorem dX0_addFile_10 : decode cX0_addFile 10 = .ok (.getfield 36, 3) := by decide +kernel
theorem dX0_addFile_13 : decode cX0_addFile 13 = .ok (.iconst 1, 1) := by decide +kernel
theorem dX0_addFile_14 : decode cX0_addFile 14 = .ok (.iadd, 1) := by decide +kernel
theorem dX0_addFile_15 : decode cX0_addFile 15 = .ok (.putfield 36, 3) := by decide +kernel
theorem dX0_addFile_18 : decode cX0_addFile 18 = .ok (.iconst (-1), 1) := by decide +kernel
theorem dX0_addFile_19 : decode cX0_addFile 19 = .ok (.ireturn, 1) := by decide +kernel
theorem dX0_addFile_20 : decode cX0_addFile 20 = .ok (.aload_n 0, 1) := by decide +kernel
theorem dX0_addFile_21 : decode cX0_addFile 21 = .ok (.invokevirtual 98, 3) := by decide +kernel
theorem dX0_addFile_24 : decode cX0_addFile 24 = .ok (.istore_n 2, 1) := by decide +kernel
theorem dX0_addFile_25 : decode cX0_addFile 25 = .ok (.iload_n 2, 1) := by decide +kernel
theorem dX0_addFile_26 : decode cX0_addFile 26 = .ok (.ifCond .lt 22, 3) := by decide +kernel
theorem dX0_addFile_29 : decode cX0_addFile 29 = .ok (.iload_n 2, 1) := by decide +kernel
theorem dX0_addFile_30 : decode cX0_addFile 30 = .ok (.bipush 10, 2) := by decide +kernel
theorem dX0_addFile_32 : decode cX0_addFile 32 = .ok (.if_icmp .ge 16, 3) := by decide +kernel
theorem dX0_addFile_35 : decode cX0_addFile 35 = .ok (.aload_n 0, 1) := by decide +kernel
theorem dX0_addFile_36 : decode cX0_addFile 36 = .ok (.getfield 21, 3) := by decide +kernel
theorem dX0_addFile_39 : decode cX0_addFile 39 = .ok (.iload_n 2, 1) := by decide +kernel
theorem dX0_addFile_40 : decode cX0_addFile 40 = .ok (.iconst 0, 1) := by decide +kernel
theorem dX0_addFile_41 : decode cX0_addFile 41 = .ok (.iastore, 1) := by decide +kernel
theorem dX0_addFile_42 : decode cX0_addFile 42 = .ok (.aload_n 0, 1) := by decide +kernel
theorem dX0_addFile_43 : decode cX0_addFile 43 = .ok (.iload_n 2, 1) := by decide +kernel
theorem dX0_addFile_44 : decode cX0_addFile 44 = .ok (.iload_n 1, 1) := by decide +kernel
theorem dX0_addFile_45 : decode cX0_addFile 45 = .ok (.invokevirtual 111, 3) := by decide +kernel
theorem dX0_addFile_48 : decode cX0_addFile 48 = .ok (.iload_n 2, 1) := by decide +kernel
theorem dX0_addFile_49 : decode cX0_addFile 49 = .ok (.ireturn, 1) := by decide +kernel
theorem dX0_extend_0 : decode cX0_extend 0 = .ok (.aload_n 0, 1) := by decide +kernel
theorem dX0_extend_1 : decode cX0_extend 1 = .ok (.iload_n 1, 1) := by decide +kernel
theorem dX0_extend_2 : decode cX0_extend 2 = .ok (.iload_n 2, 1) := by decide +kernel
theorem dX0_extend_3 : decode cX0_extend 3 = .ok (.invokevirtual 115, 3) := by decide +kernel
theorem dX0_extend_6 : decode cX0_extend 6 = .ok (.istore_n 3, 1) := by decide +kernel
theorem dX0_extend_7 : decode cX0_extend 7 = .ok (.iload_n 3, 1) := by decide +kernel
theorem dX0_extend_8 : decode cX0_extend 8 = .ok (.iconst (-1), 1) := by decide +kernel
theorem dX0_extend_9 : decode cX0_extend 9 = .ok (.if_icmp .eq 11, 3) := by decide +kernel
theorem dX0_extend_12 : decode cX0_extend 12 = .ok (.aload_n 0, 1) := by decide +kernel
theorem dX0_extend_13 : decode cX0_extend 13 = .ok (.iload_n 1, 1) := by decide +kernel
theorem dX0_extend_14 : decode cX0_extend 14 = .ok (.invokevirtual 46, 3) := by decide +kernel
theorem dX0_extend_17 : decode cX0_extend 17 = .ok (.ifCond .ne 16, 3) := by decide +kernel
theorem dX0_extend_20 : decode cX0_extend 20 = .ok (.aload_n 0, 1) := by decide +kernel
theorem dX0_extend_21 : decode cX0_extend 21 = .ok (.dup, 1) := by decide +kernel
theorem dX0_extend_22 : decode cX0_extend 22 = .ok (.getfield 36, 3) := by decide +kernel
theorem dX0_extend_25 : decode cX0_extend 25 = .ok (.iconst 1, 1) := by decide +kernel
theorem dX0_extend_26 : decode cX0_extend 26 = .ok (.iadd, 1) := by decide +kernel
theorem dX0_extend_27 : decode cX0_extend 27 = .ok (.putfield 36, 3) := by decide +kernel
theorem dX0_extend_30 : decode cX0_extend 30 = .ok (.goto 33, 3) := by decide +kernel
theorem dX0_extend_33 : decode cX0_extend 33 = .ok (.iload_n 3, 1) := by decide +kernel
theorem dX0_extend_34 : decode cX0_extend 34 = .ok (.ifCond .ne 16, 3) := by decide +kernel
theorem dX0_extend_37 : decode cX0_extend 37 = .ok (.aload_n 0, 1) := by decide +kernel
theorem dX0_extend_38 : decode cX0_extend 38 = .ok (.getfield 21, 3) := by decide +kernel
theorem dX0_extend_41 : decode cX0_extend 41 = .ok (.iload_n 1, 1) := by decide +kernel
theorem dX0_extend_42 : decode cX0_extend 42 = .ok (.dup2, 1) := by decide +kernel
theorem dX0_extend_43 : decode cX0_extend 43 = .ok (.iaload, 1) := by decide +kernel
theorem dX0_extend_44 : decode cX0_extend 44 = .ok (.iload_n 2, 1) := by decide +kernel
theorem dX0_extend_45 : decode cX0_extend 45 = .ok (.iadd, 1) := by decide +kernel
theorem dX0_extend_46 : decode cX0_extend 46 = .ok (.iastore, 1) := by decide +kernel
theorem dX0_extend_47 : decode cX0_extend 47 = .ok (.goto 16, 3) := by decide +kernel
theorem dX0_extend_50 : decode cX0_extend 50 = .ok (.aload_n 0, 1) := by decide +kernel
theorem dX0_extend_51 : decode cX0_extend 51 = .ok (.iload_n 1, 1) := by decide +kernel
theorem dX0_extend_52 : decode cX0_extend 52 = .ok (.aload_n 0, 1) := by decide +kernel
theorem dX0_extend_53 : decode cX0_extend 53 = .ok (.getfield 21, 3) := by decide +kernel
theorem dX0_extend_56 : decode cX0_extend 56 = .ok (.iload_n 1, 1) := by decide +kernel
theorem dX0_extend_57 : decode cX0_extend 57 = .ok (.iaload, 1) := by decide +kernel
theorem dX0_extend_58 : decode cX0_extend 58 = .ok (.iload_n 2, 1) := by decide +kernel
theorem dX0_extend_59 : decode cX0_extend 59 = .ok (.iadd, 1) := by decide +kernel
theorem dX0_extend_60 : decode cX0_extend 60 = .ok (.invokevirtual 111, 3) := by decide +kernel
theorem dX0_extend_63 : decode cX0_extend 63 = .ok (.iload_n 3, 1) := by decide +kernel
theorem dX0_extend_64 : decode cX0_extend 64 = .ok (.ireturn, 1) := by decide +kernel
theorem dX0_shorten_0 : decode cX0_shorten 0 = .ok (.aload_n 0, 1) := by decide +kernel
theorem dX0_shorten_1 : decode cX0_shorten 1 = .ok (.iload_n 1, 1) := by decide +kernel
theorem dX0_shorten_2 : decode cX0_shorten 2 = .ok (.invokevirtual 46, 3) := by decide +kernel
theorem dX0_shorten_5 : decode cX0_shorten 5 = .ok (.ifCond .eq 23, 3) := by decide +kernel
theorem dX0_shorten_8 : decode cX0_shorten 8 = .ok (.aload_n 0, 1) := by decide +kernel
theorem dX0_shorten_9 : decode cX0_shorten 9 = .ok (.getfield 30, 3) := by decide +kernel
theorem dX0_shorten_12 : decode cX0_shorten 12 = .ok (.iload_n 1, 1) := by decide +kernel
theorem dX0_shorten_13 : decode cX0_shorten 13 = .ok (.iaload, 1) := by decide +kernel
theorem dX0_shorten_14 : decode cX0_shorten 14 = .ok (.iconst 1, 1) := by decide +kernel
theorem dX0_shorten_15 : decode cX0_shorten 15 = .ok (.if_icmp .eq 13, 3) := by decide +kernel
theorem dX0_shorten_18 : decode cX0_shorten 18 = .ok (.aload_n 0, 1) := by decide +kernel
theorem dX0_shorten_19 : decode cX0_shorten 19 = .ok (.getfield 21, 3) := by decide +kernel
theorem dX0_shorten_22 : decode cX0_shorten 22 = .ok (.iload_n 1, 1) := by decide +kernel
theorem dX0_shorten_23 : decode cX0_shorten 23 = .ok (.iaload, 1) := by decide +kernel
theorem dX0_shorten_24 : decode cX0_shorten 24 = .ok (.iload_n 2, 1) := by decide +kernel
theorem dX0_shorten_25 : decode cX0_shorten 25 = .ok (.if_icmp .ge 15, 3) := by decide +kernel
theorem dX0_shorten_28 : decode cX0_shorten 28 = .ok (.aload_n 0, 1) := by decide +kernel
theorem dX0_shorten_29 : decode cX0_shorten 29 = .ok (.dup, 1) := by decide +kernel
theorem dX0_shorten_30 : decode cX0_shorten 30 = .ok (.getfield 36, 3) := by decide +kernel
theorem dX0_shorten_33 : decode cX0_shorten 33 = .ok (.iconst 1, 1) := by decide +kernel
theorem dX0_shorten_34 : decode cX0_shorten 34 = .ok (.iadd, 1) := by decide +kernel
theorem dX0_shorten_35 : decode cX0_shorten 35 = .ok (.putfield 36, 3) := by decide +kernel
theorem dX0_shorten_38 : decode cX0_shorten 38 = .ok (.iconst (-1), 1) := by decide +kernel
theorem dX0_shorten_39 : decode cX0_shorten 39 = .ok (.ireturn, 1) := by decide +kernel
theorem dX0_shorten_40 : decode cX0_shorten 40 = .ok (.aload_n 0, 1) := by decide +kernel
theorem dX0_shorten_41 : decode cX0_shorten 41 = .ok (.getfield 21, 3) := by decide +kernel
theorem dX0_shorten_44 : decode cX0_shorten 44 = .ok (.iload_n 1, 1) := by decide +kernel
theorem dX0_shorten_45 : decode cX0_shorten 45 = .ok (.iaload, 1) := by decide +kernel
theorem dX0_shorten_46 : decode cX0_shorten 46 = .ok (.iload_n 2, 1) := by decide +kernel
theorem dX0_shorten_47 : decode cX0_shorten 47 = .ok (.isub, 1) := by decide +kernel
theorem dX0_shorten_48 : decode cX0_shorten 48 = .ok (.istore_n 3, 1) := by decide +kernel
theorem dX0_shorten_49 : decode cX0_shorten 49 = .ok (.iload_n 3, 1) := by decide +kernel
theorem dX0_shorten_50 : decode cX0_shorten 50 = .ok (.bipush 16, 2) := by decide +kernel
theorem dX0_shorten_52 : decode cX0_shorten 52 = .ok (.idiv, 1) := by decide +kernel
theorem dX0_shorten_53 : decode cX0_shorten 53 = .ok (.aload_n 0, 1) := by decide +kernel
theorem dX0_shorten_54 : decode cX0_shorten 54 = .ok (.getfield 21, 3) := by decide +kernel
theorem dX0_shorten_57 : decode cX0_shorten 57 = .ok (.iload_n 1, 1) := by decide +kernel
theorem dX0_shorten_58 : decode cX0_shorten 58 = .ok (.iaload, 1) := by decide +kernel
theorem dX0_shorten_59 : decode cX0_shorten 59 = .ok (.bipush 16, 2) := by decide +kernel
theorem dX0_shorten_61 : decode cX0_shorten 61 = .ok (.idiv, 1) := by decide +kernel
theorem dX0_shorten_62 : decode cX0_shorten 62 = .ok (.if_icmp .eq 11, 3) := by decide +kernel
theorem dX0_shorten_65 : decode cX0_shorten 65 = .ok (.aload_n 0, 1) := by decide +kernel
theorem dX0_shorten_66 : decode cX0_shorten 66 = .ok (.iload_n 1, 1) := by decide +kernel
theorem dX0_shorten_67 : decode cX0_shorten 67 = .ok (.iload_n 3, 1) := by decide +kernel
theorem dX0_shorten_68 : decode cX0_shorten 68 = .ok (.invokevirtual 111, 3) := by decide +kernel
theorem dX0_shorten_71 : decode cX0_shorten 71 = .ok (.iload_n 3, 1) := by decide +kernel
theorem dX0_shorten_72 : decode cX0_shorten 72 = .ok (.ireturn, 1) := by decide +kernel
theorem dX0_shorten_73 : decode cX0_shorten 73 = .ok (.iload_n 3, 1) := by decide +kernel
theorem dX0_shorten_74 : decode cX0_shorten 74 = .ok (.bipush 16, 2) := by decide +kernel
theorem dX0_shorten_76 : decode cX0_shorten 76 = .ok (.irem, 1) := by decide +kernel
theorem dX0_shorten_77 : decode cX0_shorten 77 = .ok (.ifCond .ne 9, 3) := by decide +kernel
theorem dX0_shorten_80 : decode cX0_shorten 80 = .ok (.aload_n 0, 1) := by decide +kernel
theorem dX0_shorten_81 : decode cX0_shorten 81 = .ok (.iload_n 1, 1) := by decide +kernel
theorem dX0_shorten_82 : decode cX0_shorten 82 = .ok (.invokevirtual 118, 3) := by decide +kernel
theorem dX0_shorten_85 : decode cX0_shorten 85 = .ok (.pop, 1) := by decide +kernel
theorem dX0_shorten_86 : decode cX0_shorten 86 = .ok (.aload_n 0, 1) := by decide +kernel
theorem dX0_shorten_87 : decode cX0_shorten 87 = .ok (.getfield 21, 3) := by decide +kernel
theorem dX0_shorten_90 : decode cX0_shorten 90 = .ok (.iload_n 1, 1) := by decide +kernel
theorem dX0_shorten_91 : decode cX0_shorten 91 = .ok (.iload_n 3, 1) := by decide +kernel
theorem dX0_shorten_92 : decode cX0_shorten 92 = .ok (.iastore, 1) := by decide +kernel
theorem dX0_shorten_93 : decode cX0_shorten 93 = .ok (.iload_n 3, 1) := by decide +kernel
theorem dX0_shorten_94 : decode cX0_shorten 94 = .ok (.ireturn, 1) := by decide +kernel
theorem dX0_removeFile_0 : decode cX0_removeFile 0 = .ok (.aload_n 0, 1) := by decide +kernel
theorem dX0_removeFile_1 : decode cX0_removeFile 1 = .ok (.iload_n 1, 1) := by decide +kernel
theorem dX0_removeFile_2 : decode cX0_removeFile 2 = .ok (.invokevirtual 46, 3) := by decide +kernel
theorem dX0_removeFile_5 : decode cX0_removeFile 5 = .ok (.ifCond .ne 5, 3) := by decide +kernel
theorem dX0_removeFile_8 : decode cX0_removeFile 8 = .ok (.iconst 0, 1) := by decide +kernel
theorem dX0_removeFile_9 : decode cX0_removeFile 9 = .ok (.ireturn, 1) := by decide +kernel
theorem dX0_removeFile_10 : decode cX0_removeFile 10 = .ok (.aload_n 0, 1) := by decide +kernel
theorem dX0_removeFile_11 : decode cX0_removeFile 11 = .ok (.iload_n 1, 1) := by decide +kernel
theorem dX0_removeFile_12 : decode cX0_removeFile 12 = .ok (.invokevirtual 118, 3) := by decide +kernel
theorem dX0_removeFile_15 : decode cX0_removeFile 15 = .ok (.aload_n 0, 1) := by decide +kernel
theorem dX0_removeFile_16 : decode cX0_removeFile 16 = .ok (.iload_n 1, 1) := by decide +kernel
theorem dX0_removeFile_17 : decode cX0_removeFile 17 = .ok (.iconst 0, 1) := by decide +kernel
theorem dX0_removeFile_18 : decode cX0_removeFile 18 = .ok (.invokevirtual 121, 3) := by decide +kernel
theorem dX0_removeFile_21 : decode cX0_removeFile 21 = .ok (.iadd, 1) := by decide +kernel
theorem dX0_removeFile_22 : decode cX0_removeFile 22 = .ok (.istore_n 2, 1) := by decide +kernel
theorem dX0_removeFile_23 : decode cX0_removeFile 23 = .ok (.aload_n 0, 1) := by decide +kernel
theorem dX0_removeFile_24 : decode cX0_removeFile 24 = .ok (.getfield 21, 3) := by decide +kernel
theorem dX0_removeFile_27 : decode cX0_removeFile 27 = .ok (.iload_n 1, 1) := by decide +kernel
theorem dX0_removeFile_28 : decode cX0_removeFile 28 = .ok (.iconst (-1), 1) := by decide +kernel
theorem dX0_removeFile_29 : decode cX0_removeFile 29 = .ok (.iastore, 1) := by decide +kernel
theorem dX0_removeFile_30 : decode cX0_removeFile 30 = .ok (.aload_n 0, 1) := by decide +kernel
theorem dX0_removeFile_31 : decode cX0_removeFile 31 = .ok (.getfield 30, 3) := by decide +kernel
theorem dX0_removeFile_34 : decode cX0_removeFile 34 = .ok (.iload_n 1, 1) := by decide +kernel
theorem dX0_removeFile_35 : decode cX0_removeFile 35 = .ok (.iconst 0, 1) := by decide +kernel
theorem dX0_removeFile_36 : decode cX0_removeFile 36 = .ok (.iastore, 1) := by decide +kernel
theorem dX0_removeFile_37 : decode cX0_removeFile 37 = .ok (.aload_n 0, 1) := by decide +kernel
theorem dX0_removeFile_38 : decode cX0_removeFile 38 = .ok (.getfield 33, 3) := by decide +kernel
theorem dX0_removeFile_41 : decode cX0_removeFile 41 = .ok (.iload_n 1, 1) := by decide +kernel
theorem dX0_removeFile_42 : decode cX0_removeFile 42 = .ok (.iconst 0, 1) := by decide +kernel
theorem dX0_removeFile_43 : decode cX0_removeFile 43 = .ok (.iastore, 1) := by decide +kernel
theorem dX0_removeFile_44 : decode cX0_removeFile 44 = .ok (.iload_n 2, 1) := by decide +kernel
theorem dX0_removeFile_45 : decode cX0_removeFile 45 = .ok (.ireturn, 1) := by decide +kernel
theorem dX0_rebuild_0 : decode cX0_rebuild 0 = .ok (.aload_n 0, 1) := by decide +kernel
theorem dX0_rebuild_1 : decode cX0_rebuild 1 = .ok (.iload_n 1, 1) := by decide +kernel
theorem dX0_rebuild_2 : decode cX0_rebuild 2 = .ok (.invokevirtual 46, 3) := by decide +kernel
theorem dX0_rebuild_5 : decode cX0_rebuild 5 = .ok (.ifCond .ne 4, 3) := by decide +kernel
theorem dX0_rebuild_8 : decode cX0_rebuild 8 = .ok (.return_, 1) := by decide +kernel
theorem dX0_rebuild_9 : decode cX0_rebuild 9 = .ok (.aload_n 0, 1) := by decide +kernel
theorem dX0_rebuild_10 : decode cX0_rebuild 10 = .ok (.iload_n 1, 1) := by decide +kernel
theorem dX0_rebuild_11 : decode cX0_rebuild 11 = .ok (.invokevirtual 118, 3) := by decide +kernel
theorem dX0_rebuild_14 : decode cX0_rebuild 14 = .ok (.pop, 1) := by decide +kernel
theorem dX0_rebuild_15 : decode cX0_rebuild 15 = .ok (.aload_n 0, 1) := by decide +kernel
theorem dX0_rebuild_16 : decode cX0_rebuild 16 = .ok (.getfield 21, 3) := by decide +kernel
theorem dX0_rebuild_19 : decode cX0_rebuild 19 = .ok (.iload_n 1, 1) := by decide +kernel
theorem dX0_rebuild_20 : decode cX0_rebuild 20 = .ok (.iaload, 1) := by decide +kernel
theorem dX0_rebuild_21 : decode cX0_rebuild 21 = .ok (.bipush 16, 2) := by decide +kernel
theorem dX0_rebuild_23 : decode cX0_rebuild 23 = .ok (.idiv, 1) := by decide +kernel
theorem dX0_rebuild_24 : decode cX0_rebuild 24 = .ok (.istore_n 3, 1) := by decide +kernel
theorem dX0_rebuild_25 : decode cX0_rebuild 25 = .ok (.iload_n 3, 1) := by decide +kernel
theorem dX0_rebuild_26 : decode cX0_rebuild 26 = .ok (.iload_n 2, 1) := by decide +kernel
theorem dX0_rebuild_27 : decode cX0_rebuild 27 = .ok (.bipush 16, 2) := by decide +kernel
theorem dX0_rebuild_29 : decode cX0_rebuild 29 = .ok (.idiv, 1) := by decide +kernel
theorem dX0_rebuild_30 : decode cX0_rebuild 30 = .ok (.if_icmp .ge 15, 3) := by decide +kernel
theorem dX0_rebuild_33 : decode cX0_rebuild 33 = .ok (.aload_n 0, 1) := by decide +kernel
theorem dX0_rebuild_34 : decode cX0_rebuild 34 = .ok (.iload_n 1, 1) := by decide +kernel
theorem dX0_rebuild_35 : decode cX0_rebuild 35 = .ok (.iload_n 3, 1) := by decide +kernel
theorem dX0_rebuild_36 : decode cX0_rebuild 36 = .ok (.invokevirtual 124, 3) := by decide +kernel
theorem dX0_rebuild_39 : decode cX0_rebuild 39 = .ok (.iinc 3 1, 3) := by decide +kernel
theorem dX0_rebuild_42 : decode cX0_rebuild 42 = .ok (.goto (-17), 3) := by decide +kernel
theorem dX0_rebuild_45 : decode cX0_rebuild 45 = .ok (.aload_n 0, 1) := by decide +kernel
theorem dX0_rebuild_46 : decode cX0_rebuild 46 = .ok (.iload_n 1, 1) := by decide +kernel
theorem dX0_rebuild_47 : decode cX0_rebuild 47 = .ok (.iload_n 2, 1) := by decide +kernel
theorem dX0_rebuild_48 : decode cX0_rebuild 48 = .ok (.bipush 16, 2) := by decide +kernel
theorem dX0_rebuild_50 : decode cX0_rebuild 50 = .ok (.idiv, 1) := by decide +kernel
theorem dX0_rebuild_51 : decode cX0_rebuild 51 = .ok (.invokevirtual 121, 3) := by decide +kernel
theorem dX0_rebuild_54 : decode cX0_rebuild 54 = .ok (.pop, 1) := by decide +kernel
theorem dX0_rebuild_55 : decode cX0_rebuild 55 = .ok (.aload_n 0, 1) := by decide +kernel
theorem dX0_rebuild_56 : decode cX0_rebuild 56 = .ok (.getfield 21, 3) := by decide +kernel
theorem dX0_rebuild_59 : decode cX0_rebuild 59 = .ok (.iload_n 1, 1) := by decide +kernel
theorem dX0_rebuild_60 : decode cX0_rebuild 60 = .ok (.iload_n 2, 1) := by decide +kernel
theorem dX0_rebuild_61 : decode cX0_rebuild 61 = .ok (.iastore, 1) := by decide +kernel
theorem dX0_rebuild_62 : decode cX0_rebuild 62 = .ok (.iload_n 2, 1) := by decide +kernel
theorem dX0_rebuild_63 : decode cX0_rebuild 63 = .ok (.bipush 16, 2) := by decide +kernel
theorem dX0_rebuild_65 : decode cX0_rebuild 65 = .ok (.irem, 1) := by decide +kernel
theorem dX0_rebuild_66 : decode cX0_rebuild 66 = .ok (.ifCond .ne 7, 3) := by decide +kernel
theorem dX0_rebuild_69 : decode cX0_rebuild 69 = .ok (.iconst (-1), 1) := by decide +kernel
theorem dX0_rebuild_70 : decode cX0_rebuild 70 = .ok (.goto 11, 3) := by decide +kernel
theorem dX0_rebuild_73 : decode cX0_rebuild 73 = .ok (.aload_n 0, 1) := by decide +kernel
theorem dX0_rebuild_74 : decode cX0_rebuild 74 = .ok (.iload_n 2, 1) := by decide +kernel
theorem dX0_rebuild_75 : decode cX0_rebuild 75 = .ok (.bipush 16, 2) := by decide +kernel
theorem dX0_rebuild_77 : decode cX0_rebuild 77 = .ok (.irem, 1) := by decide +kernel
theorem dX0_rebuild_78 : decode cX0_rebuild 78 = .ok (.invokevirtual 127, 3) := by decide +kernel
theorem dX0_rebuild_81 : decode cX0_rebuild 81 = .ok (.istore_n 3, 1) := by decide +kernel
theorem dX0_rebuild_82 : decode cX0_rebuild 82 = .ok (.iload_n 3, 1) := by decide +kernel
theorem dX0_rebuild_83 : decode cX0_rebuild 83 = .ok (.iconst (-1), 1) := by decide +kernel
theorem dX0_rebuild_84 : decode cX0_rebuild 84 = .ok (.if_icmp .eq 16, 3) := by decide +kernel
theorem dX0_rebuild_87 : decode cX0_rebuild 87 = .ok (.aload_n 0, 1) := by decide +kernel
theorem dX0_rebuild_88 : decode cX0_rebuild 88 = .ok (.iload_n 1, 1) := by decide +kernel
theorem dX0_rebuild_89 : decode cX0_rebuild 89 = .ok (.iload_n 3, 1) := by decide +kernel
theorem dX0_rebuild_90 : decode cX0_rebuild 90 = .ok (.bipush 16, 2) := by decide +kernel
theorem dX0_rebuild_92 : decode cX0_rebuild 92 = .ok (.idiv, 1) := by decide +kernel
theorem dX0_rebuild_93 : decode cX0_rebuild 93 = .ok (.iload_n 3, 1) := by decide +kernel
theorem dX0_rebuild_94 : decode cX0_rebuild 94 = .ok (.bipush 16, 2) := by decide +kernel
theorem dX0_rebuild_96 : decode cX0_rebuild 96 = .ok (.irem, 1) := by decide +kernel
theorem dX0_rebuild_97 : decode cX0_rebuild 97 = .ok (.invokevirtual 130, 3) := by decide +kernel
theorem dX0_rebuild_100 : decode cX0_rebuild 100 = .ok (.return_, 1) := by decide +kernel
theorem dX0_takeWhole_0 : decode cX0_takeWhole 0 = .ok (.aload_n 0, 1) := by decide +kernel
theorem dX0_takeWhole_1 : decode cX0_takeWhole 1 = .ok (.invokevirtual 94, 3) := by decide +kernel
theorem dX0_takeWhole_4 : decode cX0_takeWhole 4 = .ok (.istore_n 3, 1) := by decide +kernel
theorem dX0_takeWhole_5 : decode cX0_takeWhole 5 = .ok (.iload_n 3, 1) := by decide +kernel
theorem dX0_takeWhole_6 : decode cX0_takeWhole 6 = .ok (.invokestatic 54, 3) := by decide +kernel
theorem dX0_takeWhole_9 : decode cX0_takeWhole 9 = .ok (.ifCond .eq 24, 3) := by decide +kernel
theorem dX0_takeWhole_12 : decode cX0_takeWhole 12 = .ok (.aload_n 0, 1) := by decide +kernel
theorem dX0_takeWhole_13 : decode cX0_takeWhole 13 = .ok (.getfield 9, 3) := by decide +kernel
theorem dX0_takeWhole_16 : decode cX0_takeWhole 16 = .ok (.iload_n 3, 1) := by decide +kernel
theorem dX0_takeWhole_17 : decode cX0_takeWhole 17 = .ok (.iconst 1, 1) := by decide +kernel
theorem dX0_takeWhole_18 : decode cX0_takeWhole 18 = .ok (.iastore, 1) := by decide +kernel
theorem dX0_takeWhole_19 : decode cX0_takeWhole 19 = .ok (.aload_n 0, 1) := by decide +kernel
theorem dX0_takeWhole_20 : decode cX0_takeWhole 20 = .ok (.getfield 15, 3) := by decide +kernel
theorem dX0_takeWhole_23 : decode cX0_takeWhole 23 = .ok (.iload_n 3, 1) := by decide +kernel
theorem dX0_takeWhole_24 : decode cX0_takeWhole 24 = .ok (.iload_n 1, 1) := by decide +kernel
theorem dX0_takeWhole_25 : decode cX0_takeWhole 25 = .ok (.iastore, 1) := by decide +kernel
theorem dX0_takeWhole_26 : decode cX0_takeWhole 26 = .ok (.aload_n 0, 1) := by decide +kernel
theorem dX0_takeWhole_27 : decode cX0_takeWhole 27 = .ok (.getfield 18, 3) := by decide +kernel
theorem dX0_takeWhole_30 : decode cX0_takeWhole 30 = .ok (.iload_n 3, 1) := by decide +kernel
theorem dX0_takeWhole_31 : decode cX0_takeWhole 31 = .ok (.iload_n 2, 1) := by decide +kernel
theorem dX0_takeWhole_32 : decode cX0_takeWhole 32 = .ok (.iastore, 1) := by decide +kernel
theorem dX0_takeWhole_33 : decode cX0_takeWhole 33 = .ok (.return_, 1) := by decide +kernel
theorem dX0_dropWholes_0 : decode cX0_dropWholes 0 = .ok (.iconst 0, 1) := by decide +kernel
theorem dX0_dropWholes_1 : decode cX0_dropWholes 1 = .ok (.istore_n 3, 1) := by decide +kernel
theorem dX0_dropWholes_2 : decode cX0_dropWholes 2 = .ok (.iconst 0, 1) := by decide +kernel
theorem dX0_dropWholes_3 : decode cX0_dropWholes 3 = .ok (.istore 4, 2) := by decide +kernel
theorem dX0_dropWholes_5 : decode cX0_dropWholes 5 = .ok (.iload 4, 2) := by decide +kernel
theorem dX0_dropWholes_7 : decode cX0_dropWholes 7 = .ok (.bipush 24, 2) := by decide +kernel
theorem dX0_dropWholes_9 : decode cX0_dropWholes 9 = .ok (.if_icmp .ge 69, 3) := by decide +kernel
theorem dX0_dropWholes_12 : decode cX0_dropWholes 12 = .ok (.aload_n 0, 1) := by decide +kernel
theorem dX0_dropWholes_13 : decode cX0_dropWholes 13 = .ok (.getfield 15, 3) := by decide +kernel
theorem dX0_dropWholes_16 : decode cX0_dropWholes 16 = .ok (.iload 4, 2) := by decide +kernel
theorem dX0_dropWholes_18 : decode cX0_dropWholes 18 = .ok (.iaload, 1) := by decide +kernel
theorem dX0_dropWholes_19 : decode cX0_dropWholes 19 = .ok (.iload_n 1, 1) := by decide +kernel
theorem dX0_dropWholes_20 : decode cX0_dropWholes 20 = .ok (.if_icmp .ne 52, 3) := by decide +kernel
theorem dX0_dropWholes_23 : decode cX0_dropWholes 23 = .ok (.aload_n 0, 1) := by decide +kernel
theorem dX0_dropWholes_24 : decode cX0_dropWholes 24 = .ok (.getfield 18, 3) := by decide +kernel
theorem dX0_dropWholes_27 : decode cX0_dropWholes 27 = .ok (.iload 4, 2) := by decide +kernel
theorem dX0_dropWholes_29 : decode cX0_dropWholes 29 = .ok (.iaload, 1) := by decide +kernel
theorem dX0_dropWholes_30 : decode cX0_dropWholes 30 = .ok (.iload_n 2, 1) := by decide +kernel
theorem dX0_dropWholes_31 : decode cX0_dropWholes 31 = .ok (.if_icmp .lt 41, 3) := by decide +kernel
theorem dX0_dropWholes_34 : decode cX0_dropWholes 34 = .ok (.aload_n 0, 1) := by decide +kernel
theorem dX0_dropWholes_35 : decode cX0_dropWholes 35 = .ok (.getfield 15, 3) := by decide +kernel
theorem dX0_dropWholes_38 : decode cX0_dropWholes 38 = .ok (.iload 4, 2) := by decide +kernel
theorem dX0_dropWholes_40 : decode cX0_dropWholes 40 = .ok (.iconst (-1), 1) := by decide +kernel
theorem dX0_dropWholes_41 : decode cX0_dropWholes 41 = .ok (.iastore, 1) := by decide +kernel
theorem dX0_dropWholes_42 : decode cX0_dropWholes 42 = .ok (.aload_n 0, 1) := by decide +kernel
theorem dX0_dropWholes_43 : decode cX0_dropWholes 43 = .ok (.getfield 18, 3) := by decide +kernel
theorem dX0_dropWholes_46 : decode cX0_dropWholes 46 = .ok (.iload 4, 2) := by decide +kernel
theorem dX0_dropWholes_48 : decode cX0_dropWholes 48 = .ok (.iconst 0, 1) := by decide +kernel
theorem dX0_dropWholes_49 : decode cX0_dropWholes 49 = .ok (.iastore, 1) := by decide +kernel
theorem dX0_dropWholes_50 : decode cX0_dropWholes 50 = .ok (.aload_n 0, 1) := by decide +kernel
theorem dX0_dropWholes_51 : decode cX0_dropWholes 51 = .ok (.getfield 9, 3) := by decide +kernel
theorem dX0_dropWholes_54 : decode cX0_dropWholes 54 = .ok (.iload 4, 2) := by decide +kernel
theorem dX0_dropWholes_56 : decode cX0_dropWholes 56 = .ok (.iaload, 1) := by decide +kernel
theorem dX0_dropWholes_57 : decode cX0_dropWholes 57 = .ok (.iconst 1, 1) := by decide +kernel
theorem dX0_dropWholes_58 : decode cX0_dropWholes 58 = .ok (.if_icmp .ne 14, 3) := by decide +kernel
theorem dX0_dropWholes_61 : decode cX0_dropWholes 61 = .ok (.aload_n 0, 1) := by decide +kernel
theorem dX0_dropWholes_62 : decode cX0_dropWholes 62 = .ok (.getfield 9, 3) := by decide +kernel
theorem dX0_dropWholes_65 : decode cX0_dropWholes 65 = .ok (.iload 4, 2) := by decide +kernel
theorem dX0_dropWholes_67 : decode cX0_dropWholes 67 = .ok (.iconst 0, 1) := by decide +kernel
theorem dX0_dropWholes_68 : decode cX0_dropWholes 68 = .ok (.iastore, 1) := by decide +kernel
theorem dX0_dropWholes_69 : decode cX0_dropWholes 69 = .ok (.iinc 3 1, 3) := by decide +kernel
theorem dX0_dropWholes_72 : decode cX0_dropWholes 72 = .ok (.iinc 4 1, 3) := by decide +kernel
theorem dX0_dropWholes_75 : decode cX0_dropWholes 75 = .ok (.goto (-70), 3) := by decide +kernel
theorem dX0_dropWholes_78 : decode cX0_dropWholes 78 = .ok (.iload_n 3, 1) := by decide +kernel
theorem dX0_dropWholes_79 : decode cX0_dropWholes 79 = .ok (.ireturn, 1) := by decide +kernel
theorem dX0_putTail_0 : decode cX0_putTail 0 = .ok (.aload_n 0, 1) := by decide +kernel
theorem dX0_putTail_1 : decode cX0_putTail 1 = .ok (.iload_n 1, 1) := by decide +kernel
theorem dX0_putTail_2 : decode cX0_putTail 2 = .ok (.invokevirtual 46, 3) := by decide +kernel
theorem dX0_putTail_5 : decode cX0_putTail 5 = .ok (.ifCond .eq 41, 3) := by decide +kernel
theorem dX0_putTail_8 : decode cX0_putTail 8 = .ok (.iload_n 2, 1) := by decide +kernel
theorem dX0_putTail_9 : decode cX0_putTail 9 = .ok (.invokestatic 54, 3) := by decide +kernel
theorem dX0_putTail_12 : decode cX0_putTail 12 = .ok (.ifCond .eq 34, 3) := by decide +kernel
theorem dX0_putTail_15 : decode cX0_putTail 15 = .ok (.aload_n 0, 1) := by decide +kernel
theorem dX0_putTail_16 : decode cX0_putTail 16 = .ok (.getfield 24, 3) := by decide +kernel
theorem dX0_putTail_19 : decode cX0_putTail 19 = .ok (.iload_n 1, 1) := by decide +kernel
theorem dX0_putTail_20 : decode cX0_putTail 20 = .ok (.iload_n 2, 1) := by decide +kernel
theorem dX0_putTail_21 : decode cX0_putTail 21 = .ok (.iastore, 1) := by decide +kernel
theorem dX0_putTail_22 : decode cX0_putTail 22 = .ok (.aload_n 0, 1) := by decide +kernel
theorem dX0_putTail_23 : decode cX0_putTail 23 = .ok (.getfield 27, 3) := by decide +kernel
theorem dX0_putTail_26 : decode cX0_putTail 26 = .ok (.iload_n 1, 1) := by decide +kernel
theorem dX0_putTail_27 : decode cX0_putTail 27 = .ok (.iload_n 3, 1) := by decide +kernel
theorem dX0_putTail_28 : decode cX0_putTail 28 = .ok (.iastore, 1) := by decide +kernel
theorem dX0_putTail_29 : decode cX0_putTail 29 = .ok (.aload_n 0, 1) := by decide +kernel
theorem dX0_putTail_30 : decode cX0_putTail 30 = .ok (.getfield 9, 3) := by decide +kernel
theorem dX0_putTail_33 : decode cX0_putTail 33 = .ok (.iload_n 2, 1) := by decide +kernel
theorem dX0_putTail_34 : decode cX0_putTail 34 = .ok (.iconst 2, 1) := by decide +kernel
theorem dX0_putTail_35 : decode cX0_putTail 35 = .ok (.iastore, 1) := by decide +kernel
theorem dX0_putTail_36 : decode cX0_putTail 36 = .ok (.aload_n 0, 1) := by decide +kernel
theorem dX0_putTail_37 : decode cX0_putTail 37 = .ok (.getfield 33, 3) := by decide +kernel
theorem dX0_putTail_40 : decode cX0_putTail 40 = .ok (.iload_n 1, 1) := by decide +kernel
theorem dX0_putTail_41 : decode cX0_putTail 41 = .ok (.dup2, 1) := by decide +kernel
theorem dX0_putTail_42 : decode cX0_putTail 42 = .ok (.iaload, 1) := by decide +kernel
theorem dX0_putTail_43 : decode cX0_putTail 43 = .ok (.iconst 1, 1) := by decide +kernel
theorem dX0_putTail_44 : decode cX0_putTail 44 = .ok (.iadd, 1) := by decide +kernel
theorem dX0_putTail_45 : decode cX0_putTail 45 = .ok (.iastore, 1) := by decide +kernel
theorem dX0_putTail_46 : decode cX0_putTail 46 = .ok (.return_, 1) := by decide +kernel
theorem dX0_dropTail_0 : decode cX0_dropTail 0 = .ok (.aload_n 0, 1) := by decide +kernel
theorem dX0_dropTail_1 : decode cX0_dropTail 1 = .ok (.iload_n 1, 1) := by decide +kernel
theorem dX0_dropTail_2 : decode cX0_dropTail 2 = .ok (.invokevirtual 46, 3) := by decide +kernel
theorem dX0_dropTail_5 : decode cX0_dropTail 5 = .ok (.ifCond .ne 5, 3) := by decide +kernel
theorem dX0_dropTail_8 : decode cX0_dropTail 8 = .ok (.iconst 0, 1) := by decide +kernel
theorem dX0_dropTail_9 : decode cX0_dropTail 9 = .ok (.ireturn, 1) := by decide +kernel
theorem dX0_dropTail_10 : decode cX0_dropTail 10 = .ok (.aload_n 0, 1) := by decide +kernel
theorem dX0_dropTail_11 : decode cX0_dropTail 11 = .ok (.getfield 24, 3) := by decide +kernel
theorem dX0_dropTail_14 : decode cX0_dropTail 14 = .ok (.iload_n 1, 1) := by decide +kernel
theorem dX0_dropTail_15 : decode cX0_dropTail 15 = .ok (.iaload, 1) := by decide +kernel
theorem dX0_dropTail_16 : decode cX0_dropTail 16 = .ok (.istore_n 2, 1) := by decide +kernel
theorem dX0_dropTail_17 : decode cX0_dropTail 17 = .ok (.aload_n 0, 1) := by decide +kernel
theorem dX0_dropTail_18 : decode cX0_dropTail 18 = .ok (.getfield 24, 3) := by decide +kernel
theorem dX0_dropTail_21 : decode cX0_dropTail 21 = .ok (.iload_n 1, 1) := by decide +kernel
theorem dX0_dropTail_22 : decode cX0_dropTail 22 = .ok (.iconst (-1), 1) := by decide +kernel
theorem dX0_dropTail_23 : decode cX0_dropTail 23 = .ok (.iastore, 1) := by decide +kernel
theorem dX0_dropTail_24 : decode cX0_dropTail 24 = .ok (.aload_n 0, 1) := by decide +kernel
theorem dX0_dropTail_25 : decode cX0_dropTail 25 = .ok (.getfield 27, 3) := by decide +kernel
theorem dX0_dropTail_28 : decode cX0_dropTail 28 = .ok (.iload_n 1, 1) := by decide +kernel
theorem dX0_dropTail_29 : decode cX0_dropTail 29 = .ok (.iconst (-1), 1) := by decide +kernel
theorem dX0_dropTail_30 : decode cX0_dropTail 30 = .ok (.iastore, 1) := by decide +kernel
theorem dX0_dropTail_31 : decode cX0_dropTail 31 = .ok (.aload_n 0, 1) := by decide +kernel
theorem dX0_dropTail_32 : decode cX0_dropTail 32 = .ok (.iload_n 2, 1) := by decide +kernel
theorem dX0_dropTail_33 : decode cX0_dropTail 33 = .ok (.invokevirtual 134, 3) := by decide +kernel
theorem dX0_dropTail_36 : decode cX0_dropTail 36 = .ok (.ireturn, 1) := by decide +kernel
theorem dX0_freeIfEmpty_0 : decode cX0_freeIfEmpty 0 = .ok (.iload_n 1, 1) := by decide +kernel
theorem dX0_freeIfEmpty_1 : decode cX0_freeIfEmpty 1 = .ok (.invokestatic 54, 3) := by decide +kernel
theorem dX0_freeIfEmpty_4 : decode cX0_freeIfEmpty 4 = .ok (.ifCond .eq 22, 3) := by decide +kernel
theorem dX0_freeIfEmpty_7 : decode cX0_freeIfEmpty 7 = .ok (.aload_n 0, 1) := by decide +kernel
theorem dX0_freeIfEmpty_8 : decode cX0_freeIfEmpty 8 = .ok (.getfield 9, 3) := by decide +kernel
theorem dX0_freeIfEmpty_11 : decode cX0_freeIfEmpty 11 = .ok (.iload_n 1, 1) := by decide +kernel
theorem dX0_freeIfEmpty_12 : decode cX0_freeIfEmpty 12 = .ok (.iaload, 1) := by decide +kernel
theorem dX0_freeIfEmpty_13 : decode cX0_freeIfEmpty 13 = .ok (.iconst 2, 1) := by decide +kernel
theorem dX0_freeIfEmpty_14 : decode cX0_freeIfEmpty 14 = .ok (.if_icmp .ne 12, 3) := by decide +kernel
theorem dX0_freeIfEmpty_17 : decode cX0_freeIfEmpty 17 = .ok (.aload_n 0, 1) := by decide +kernel
theorem dX0_freeIfEmpty_18 : decode cX0_freeIfEmpty 18 = .ok (.iload_n 1, 1) := by decide +kernel
theorem dX0_freeIfEmpty_19 : decode cX0_freeIfEmpty 19 = .ok (.iconst (-1), 1) := by decide +kernel
theorem dX0_freeIfEmpty_20 : decode cX0_freeIfEmpty 20 = .ok (.invokevirtual 63, 3) := by decide +kernel
theorem dX0_freeIfEmpty_23 : decode cX0_freeIfEmpty 23 = .ok (.ifCond .eq 5, 3) := by decide +kernel
theorem dX0_freeIfEmpty_26 : decode cX0_freeIfEmpty 26 = .ok (.iconst 0, 1) := by decide +kernel
theorem dX0_freeIfEmpty_27 : decode cX0_freeIfEmpty 27 = .ok (.ireturn, 1) := by decide +kernel
theorem dX0_freeIfEmpty_28 : decode cX0_freeIfEmpty 28 = .ok (.aload_n 0, 1) := by decide +kernel
theorem dX0_freeIfEmpty_29 : decode cX0_freeIfEmpty 29 = .ok (.getfield 9, 3) := by decide +kernel
theorem dX0_freeIfEmpty_32 : decode cX0_freeIfEmpty 32 = .ok (.iload_n 1, 1) := by decide +kernel
theorem dX0_freeIfEmpty_33 : decode cX0_freeIfEmpty 33 = .ok (.iconst 0, 1) := by decide +kernel
theorem dX0_freeIfEmpty_34 : decode cX0_freeIfEmpty 34 = .ok (.iastore, 1) := by decide +kernel
theorem dX0_freeIfEmpty_35 : decode cX0_freeIfEmpty 35 = .ok (.iconst 1, 1) := by decide +kernel
theorem dX0_freeIfEmpty_36 : decode cX0_freeIfEmpty 36 = .ok (.ireturn, 1) := by decide +kernel
theorem dX0_turnBad_0 : decode cX0_turnBad 0 = .ok (.iload_n 1, 1) := by decide +kernel
theorem dX0_turnBad_1 : decode cX0_turnBad 1 = .ok (.invokestatic 54, 3) := by decide +kernel
theorem dX0_turnBad_4 : decode cX0_turnBad 4 = .ok (.ifCond .ne 5, 3) := by decide +kernel
theorem dX0_turnBad_7 : decode cX0_turnBad 7 = .ok (.iconst 0, 1) := by decide +kernel
theorem dX0_turnBad_8 : decode cX0_turnBad 8 = .ok (.ireturn, 1) := by decide +kernel
theorem dX0_turnBad_9 : decode cX0_turnBad 9 = .ok (.iconst 0, 1) := by decide +kernel
theorem dX0_turnBad_10 : decode cX0_turnBad 10 = .ok (.istore_n 2, 1) := by decide +kernel
theorem dX0_turnBad_11 : decode cX0_turnBad 11 = .ok (.iconst 0, 1) := by decide +kernel
theorem dX0_turnBad_12 : decode cX0_turnBad 12 = .ok (.istore_n 3, 1) := by decide +kernel
theorem dX0_turnBad_13 : decode cX0_turnBad 13 = .ok (.iload_n 3, 1) := by decide +kernel
theorem dX0_turnBad_14 : decode cX0_turnBad 14 = .ok (.bipush 10, 2) := by decide +kernel
theorem dX0_turnBad_16 : decode cX0_turnBad 16 = .ok (.if_icmp .ge 37, 3) := by decide +kernel
theorem dX0_turnBad_19 : decode cX0_turnBad 19 = .ok (.aload_n 0, 1) := by decide +kernel
theorem dX0_turnBad_20 : decode cX0_turnBad 20 = .ok (.iload_n 3, 1) := by decide +kernel
theorem dX0_turnBad_21 : decode cX0_turnBad 21 = .ok (.iload_n 1, 1) := by decide +kernel
theorem dX0_turnBad_22 : decode cX0_turnBad 22 = .ok (.invokevirtual 78, 3) := by decide +kernel
theorem dX0_turnBad_25 : decode cX0_turnBad 25 = .ok (.ifCond .eq 22, 3) := by decide +kernel
theorem dX0_turnBad_28 : decode cX0_turnBad 28 = .ok (.aload_n 0, 1) := by decide +kernel
theorem dX0_turnBad_29 : decode cX0_turnBad 29 = .ok (.getfield 30, 3) := by decide +kernel
theorem dX0_turnBad_32 : decode cX0_turnBad 32 = .ok (.iload_n 3, 1) := by decide +kernel
theorem dX0_turnBad_33 : decode cX0_turnBad 33 = .ok (.iaload, 1) := by decide +kernel
theorem dX0_turnBad_34 : decode cX0_turnBad 34 = .ok (.ifCond .ne 13, 3) := by decide +kernel
theorem dX0_turnBad_37 : decode cX0_turnBad 37 = .ok (.aload_n 0, 1) := by decide +kernel
theorem dX0_turnBad_38 : decode cX0_turnBad 38 = .ok (.getfield 30, 3) := by decide +kernel
theorem dX0_turnBad_41 : decode cX0_turnBad 41 = .ok (.iload_n 3, 1) := by decide +kernel
theorem dX0_turnBad_42 : decode cX0_turnBad 42 = .ok (.iconst 1, 1) := by decide +kernel
theorem dX0_turnBad_43 : decode cX0_turnBad 43 = .ok (.iastore, 1) := by decide +kernel
theorem dX0_turnBad_44 : decode cX0_turnBad 44 = .ok (.iinc 2 1, 3) := by decide +kernel
theorem dX0_turnBad_47 : decode cX0_turnBad 47 = .ok (.iinc 3 1, 3) := by decide +kernel
theorem dX0_turnBad_50 : decode cX0_turnBad 50 = .ok (.goto (-37), 3) := by decide +kernel
theorem dX0_turnBad_53 : decode cX0_turnBad 53 = .ok (.aload_n 0, 1) := by decide +kernel
theorem dX0_turnBad_54 : decode cX0_turnBad 54 = .ok (.getfield 9, 3) := by decide +kernel
theorem dX0_turnBad_57 : decode cX0_turnBad 57 = .ok (.iload_n 1, 1) := by decide +kernel
theorem dX0_turnBad_58 : decode cX0_turnBad 58 = .ok (.iconst 3, 1) := by decide +kernel
theorem dX0_turnBad_59 : decode cX0_turnBad 59 = .ok (.iastore, 1) := by decide +kernel
theorem dX0_turnBad_60 : decode cX0_turnBad 60 = .ok (.iload_n 2, 1) := by decide +kernel
theorem dX0_turnBad_61 : decode cX0_turnBad 61 = .ok (.ireturn, 1) := by decide +kernel
theorem dX0_takesPacking_0 : decode cX0_takesPacking 0 = .ok (.iconst 0, 1) := by decide +kernel
theorem dX0_takesPacking_1 : decode cX0_takesPacking 1 = .ok (.istore_n 2, 1) := by decide +kernel
theorem dX0_takesPacking_2 : decode cX0_takesPacking 2 = .ok (.iload_n 2, 1) := by decide +kernel
theorem dX0_takesPacking_3 : decode cX0_takesPacking 3 = .ok (.bipush 10, 2) := by decide +kernel
theorem dX0_takesPacking_5 : decode cX0_takesPacking 5 = .ok (.if_icmp .ge 31, 3) := by decide +kernel
theorem dX0_takesPacking_8 : decode cX0_takesPacking 8 = .ok (.aload_n 0, 1) := by decide +kernel
theorem dX0_takesPacking_9 : decode cX0_takesPacking 9 = .ok (.getfield 30, 3) := by decide +kernel
theorem dX0_takesPacking_12 : decode cX0_takesPacking 12 = .ok (.iload_n 2, 1) := by decide +kernel
theorem dX0_takesPacking_13 : decode cX0_takesPacking 13 = .ok (.iaload, 1) := by decide +kernel
theorem dX0_takesPacking_14 : decode cX0_takesPacking 14 = .ok (.iconst 1, 1) := by decide +kernel
theorem dX0_takesPacking_15 : decode cX0_takesPacking 15 = .ok (.if_icmp .ne 15, 3) := by decide +kernel
theorem dX0_takesPacking_18 : decode cX0_takesPacking 18 = .ok (.aload_n 0, 1) := by decide +kernel
theorem dX0_takesPacking_19 : decode cX0_takesPacking 19 = .ok (.getfield 24, 3) := by decide +kernel
theorem dX0_takesPacking_22 : decode cX0_takesPacking 22 = .ok (.iload_n 2, 1) := by decide +kernel
theorem dX0_takesPacking_23 : decode cX0_takesPacking 23 = .ok (.iaload, 1) := by decide +kernel
theorem dX0_takesPacking_24 : decode cX0_takesPacking 24 = .ok (.iload_n 1, 1) := by decide +kernel
theorem dX0_takesPacking_25 : decode cX0_takesPacking 25 = .ok (.if_icmp .ne 5, 3) := by decide +kernel
theorem dX0_takesPacking_28 : decode cX0_takesPacking 28 = .ok (.iconst 0, 1) := by decide +kernel
theorem dX0_takesPacking_29 : decode cX0_takesPacking 29 = .ok (.ireturn, 1) := by decide +kernel
theorem dX0_takesPacking_30 : decode cX0_takesPacking 30 = .ok (.iinc 2 1, 3) := by decide +kernel
theorem dX0_takesPacking_33 : decode cX0_takesPacking 33 = .ok (.goto (-31), 3) := by decide +kernel
theorem dX0_takesPacking_36 : decode cX0_takesPacking 36 = .ok (.aload_n 0, 1) := by decide +kernel
theorem dX0_takesPacking_37 : decode cX0_takesPacking 37 = .ok (.iload_n 1, 1) := by decide +kernel
theorem dX0_takesPacking_38 : decode cX0_takesPacking 38 = .ok (.invokevirtual 70, 3) := by decide +kernel
theorem dX0_takesPacking_41 : decode cX0_takesPacking 41 = .ok (.iconst 2, 1) := by decide +kernel
theorem dX0_takesPacking_42 : decode cX0_takesPacking 42 = .ok (.if_icmp .ne 7, 3) := by decide +kernel
theorem dX0_takesPacking_45 : decode cX0_takesPacking 45 = .ok (.iconst 1, 1) := by decide +kernel
theorem dX0_takesPacking_46 : decode cX0_takesPacking 46 = .ok (.goto 4, 3) := by decide +kernel
theorem dX0_takesPacking_49 : decode cX0_takesPacking 49 = .ok (.iconst 0, 1) := by decide +kernel
theorem dX0_takesPacking_50 : decode cX0_takesPacking 50 = .ok (.ireturn, 1) := by decide +kernel
theorem dX1_init_0 : decode cX1_init 0 = .ok (.aload_n 0, 1) := by decide +kernel
theorem dX1_init_1 : decode cX1_init 1 = .ok (.invokespecial 3, 3) := by decide +kernel
theorem dX1_init_4 : decode cX1_init 4 = .ok (.aload_n 0, 1) := by decide +kernel
theorem dX1_init_5 : decode cX1_init 5 = .ok (.new 9, 3) := by decide +kernel
theorem dX1_init_8 : decode cX1_init 8 = .ok (.dup, 1) := by decide +kernel
theorem dX1_init_9 : decode cX1_init 9 = .ok (.invokespecial 11, 3) := by decide +kernel
theorem dX1_init_12 : decode cX1_init 12 = .ok (.putfield 12, 3) := by decide +kernel
theorem dX1_init_15 : decode cX1_init 15 = .ok (.aload_n 0, 1) := by decide +kernel
theorem dX1_init_16 : decode cX1_init 16 = .ok (.bipush 10, 2) := by decide +kernel
theorem dX1_init_18 : decode cX1_init 18 = .ok (.newarray .int, 2) := by decide +kernel
theorem dX1_init_20 : decode cX1_init 20 = .ok (.putfield 18, 3) := by decide +kernel
theorem dX1_init_23 : decode cX1_init 23 = .ok (.aload_n 0, 1) := by decide +kernel
theorem dX1_init_24 : decode cX1_init 24 = .ok (.sipush 1024, 3) := by decide +kernel
theorem dX1_init_27 : decode cX1_init 27 = .ok (.newarray .int, 2) := by decide +kernel
theorem dX1_init_29 : decode cX1_init 29 = .ok (.putfield 22, 3) := by decide +kernel
theorem dX1_init_32 : decode cX1_init 32 = .ok (.aload_n 0, 1) := by decide +kernel
theorem dX1_init_33 : decode cX1_init 33 = .ok (.sipush 1024, 3) := by decide +kernel
theorem dX1_init_36 : decode cX1_init 36 = .ok (.newarray .int, 2) := by decide +kernel
theorem dX1_init_38 : decode cX1_init 38 = .ok (.putfield 25, 3) := by decide +kernel
theorem dX1_init_41 : decode cX1_init 41 = .ok (.return_, 1) := by decide +kernel
theorem dX1_bySets_0 : decode cX1_bySets 0 = .ok (.aload_n 0, 1) := by decide +kernel
theorem dX1_bySets_1 : decode cX1_bySets 1 = .ok (.getfield 12, 3) := by decide +kernel
theorem dX1_bySets_4 : decode cX1_bySets 4 = .ok (.aload_n 1, 1) := by decide +kernel
theorem dX1_bySets_5 : decode cX1_bySets 5 = .ok (.invokevirtual 28, 3) := by decide +kernel
theorem dX1_bySets_8 : decode cX1_bySets 8 = .ok (.aload_n 0, 1) := by decide +kernel
theorem dX1_bySets_9 : decode cX1_bySets 9 = .ok (.getfield 22, 3) := by decide +kernel
theorem dX1_bySets_12 : decode cX1_bySets 12 = .ok (.iconst 0, 1) := by decide +kernel
theorem dX1_bySets_13 : decode cX1_bySets 13 = .ok (.iconst 0, 1) := by decide +kernel
theorem dX1_bySets_14 : decode cX1_bySets 14 = .ok (.iastore, 1) := by decide +kernel
theorem dX1_bySets_15 : decode cX1_bySets 15 = .ok (.aload_n 0, 1) := by decide +kernel
theorem dX1_bySets_16 : decode cX1_bySets 16 = .ok (.getfield 25, 3) := by decide +kernel
theorem dX1_bySets_19 : decode cX1_bySets 19 = .ok (.iconst 0, 1) := by decide +kernel
theorem dX1_bySets_20 : decode cX1_bySets 20 = .ok (.bipush 16, 2) := by decide +kernel
theorem dX1_bySets_22 : decode cX1_bySets 22 = .ok (.iastore, 1) := by decide +kernel
theorem dX1_bySets_23 : decode cX1_bySets 23 = .ok (.iconst 1, 1) := by decide +kernel
theorem dX1_bySets_24 : decode cX1_bySets 24 = .ok (.aload_n 0, 1) := by decide +kernel
theorem dX1_bySets_25 : decode cX1_bySets 25 = .ok (.getfield 12, 3) := by decide +kernel
theorem dX1_bySets_28 : decode cX1_bySets 28 = .ok (.getfield 32, 3) := by decide +kernel
theorem dX1_bySets_31 : decode cX1_bySets 31 = .ok (.ishl, 1) := by decide +kernel
theorem dX1_bySets_32 : decode cX1_bySets 32 = .ok (.iconst 1, 1) := by decide +kernel
theorem dX1_bySets_33 : decode cX1_bySets 33 = .ok (.isub, 1) := by decide +kernel
theorem dX1_bySets_34 : decode cX1_bySets 34 = .ok (.istore_n 2, 1) := by decide +kernel
theorem dX1_bySets_35 : decode cX1_bySets 35 = .ok (.iconst 1, 1) := by decide +kernel
theorem dX1_bySets_36 : decode cX1_bySets 36 = .ok (.istore_n 3, 1) := by decide +kernel
theorem dX1_bySets_37 : decode cX1_bySets 37 = .ok (.iload_n 3, 1) := by decide +kernel
theorem dX1_bySets_38 : decode cX1_bySets 38 = .ok (.iload_n 2, 1) := by decide +kernel
theorem dX1_bySets_39 : decode cX1_bySets 39 = .ok (.if_icmp .gt 21, 3) := by decide +kernel
theorem dX1_bySets_42 : decode cX1_bySets 42 = .ok (.iload_n 3, 1) := by decide +kernel
theorem dX1_bySets_43 : decode cX1_bySets 43 = .ok (.sipush 1024, 3) := by decide +kernel
theorem dX1_bySets_46 : decode cX1_bySets 46 = .ok (.if_icmp .ge 14, 3) := by decide +kernel
theorem dX1_bySets_49 : decode cX1_bySets 49 = .ok (.aload_n 0, 1) := by decide +kernel
theorem dX1_bySets_50 : decode cX1_bySets 50 = .ok (.iload_n 3, 1) := by decide +kernel
theorem dX1_bySets_51 : decode cX1_bySets 51 = .ok (.invokevirtual 36, 3) := by decide +kernel
theorem dX1_bySets_54 : decode cX1_bySets 54 = .ok (.iinc 3 1, 3) := by decide +kernel
theorem dX1_bySets_57 : decode cX1_bySets 57 = .ok (.goto (-20), 3) := by decide +kernel
theorem dX1_bySets_60 : decode cX1_bySets 60 = .ok (.iload_n 2, 1) := by decide +kernel
theorem dX1_bySets_61 : decode cX1_bySets 61 = .ok (.ifCond .lt 19, 3) := by decide +kernel
theorem dX1_bySets_64 : decode cX1_bySets 64 = .ok (.iload_n 2, 1) := by decide +kernel
theorem dX1_bySets_65 : decode cX1_bySets 65 = .ok (.sipush 1024, 3) := by decide +kernel
theorem dX1_bySets_68 : decode cX1_bySets 68 = .ok (.if_icmp .ge 12, 3) := by decide +kernel
theorem dX1_bySets_71 : decode cX1_bySets 71 = .ok (.aload_n 0, 1) := by decide +kernel
theorem dX1_bySets_72 : decode cX1_bySets 72 = .ok (.getfield 22, 3) := by decide +kernel
theorem dX1_bySets_75 : decode cX1_bySets 75 = .ok (.iload_n 2, 1) := by decide +kernel
theorem dX1_bySets_76 : decode cX1_bySets 76 = .ok (.iaload, 1) := by decide +kernel
theorem dX1_bySets_77 : decode cX1_bySets 77 = .ok (.goto 4, 3) := by decide +kernel
theorem dX1_bySets_80 : decode cX1_bySets 80 = .ok (.iconst (-1), 1) := by decide +kernel
theorem dX1_bySets_81 : decode cX1_bySets 81 = .ok (.ireturn, 1) := by decide +kernel
theorem dX1_solveSet_0 : decode cX1_solveSet 0 = .ok (.iload_n 1, 1) := by decide +kernel
theorem dX1_solveSet_1 : decode cX1_solveSet 1 = .ok (.ifCond .le 10, 3) := by decide +kernel
theorem dX1_solveSet_4 : decode cX1_solveSet 4 = .ok (.iload_n 1, 1) := by decide +kernel
theorem dX1_solveSet_5 : decode cX1_solveSet 5 = .ok (.sipush 1024, 3) := by decide +kernel
theorem dX1_solveSet_8 : decode cX1_solveSet 8 = .ok (.if_icmp .lt 4, 3) := by decide +kernel
theorem dX1_solveSet_11 : decode cX1_solveSet 11 = .ok (.return_, 1) := by decide +kernel
theorem dX1_solveSet_12 : decode cX1_solveSet 12 = .ok (.aload_n 0, 1) := by decide +kernel
theorem dX1_solveSet_13 : decode cX1_solveSet 13 = .ok (.getfield 22, 3) := by decide +kernel
theorem dX1_solveSet_16 : decode cX1_solveSet 16 = .ok (.iload_n 1, 1) := by decide +kernel
theorem dX1_solveSet_17 : decode cX1_solveSet 17 = .ok (.bipush 11, 2) := by decide +kernel
theorem dX1_solveSet_19 : decode cX1_solveSet 19 = .ok (.iastore, 1) := by decide +kernel
theorem dX1_solveSet_20 : decode cX1_solveSet 20 = .ok (.aload_n 0, 1) := by decide +kernel
theorem dX1_solveSet_21 : decode cX1_solveSet 21 = .ok (.getfield 25, 3) := by decide +kernel
theorem dX1_solveSet_24 : decode cX1_solveSet 24 = .ok (.iload_n 1, 1) := by decide +kernel
theorem dX1_solveSet_25 : decode cX1_solveSet 25 = .ok (.bipush 16, 2) := by decide +kernel
theorem dX1_solveSet_27 : decode cX1_solveSet 27 = .ok (.iastore, 1) := by decide +kernel
theorem dX1_solveSet_28 : decode cX1_solveSet 28 = .ok (.iconst 0, 1) := by decide +kernel
theorem dX1_solveSet_29 : decode cX1_solveSet 29 = .ok (.istore_n 2, 1) := by decide +kernel
theorem dX1_solveSet_30 : decode cX1_solveSet 30 = .ok (.iload_n 2, 1) := by decide +kernel
theorem dX1_solveSet_31 : decode cX1_solveSet 31 = .ok (.bipush 10, 2) := by decide +kernel
theorem dX1_solveSet_33 : decode cX1_solveSet 33 = .ok (.if_icmp .ge 160, 3) := by decide +kernel
theorem dX1_solveSet_36 : decode cX1_solveSet 36 = .ok (.iload_n 1, 1) := by decide +kernel
theorem dX1_solveSet_37 : decode cX1_solveSet 37 = .ok (.iload_n 2, 1) := by decide +kernel
theorem dX1_solveSet_38 : decode cX1_solveSet 38 = .ok (.ishr, 1) := by decide +kernel
theorem dX1_solveSet_39 : decode cX1_solveSet 39 = .ok (.iconst 1, 1) := by decide +kernel
theorem dX1_solveSet_40 : decode cX1_solveSet 40 = .ok (.iand, 1) := by decide +kernel
theorem dX1_solveSet_41 : decode cX1_solveSet 41 = .ok (.iconst 1, 1) := by decide +kernel
theorem dX1_solveSet_42 : decode cX1_solveSet 42 = .ok (.if_icmp .ne 145, 3) := by decide +kernel
theorem dX1_solveSet_45 : decode cX1_solveSet 45 = .ok (.iload_n 1, 1) := by decide +kernel
theorem dX1_solveSet_46 : decode cX1_solveSet 46 = .ok (.iconst 1, 1) := by decide +kernel
theorem dX1_solveSet_47 : decode cX1_solveSet 47 = .ok (.iload_n 2, 1) := by decide +kernel
theorem dX1_solveSet_48 : decode cX1_solveSet 48 = .ok (.ishl, 1) := by decide +kernel
theorem dX1_solveSet_49 : decode cX1_solveSet 49 = .ok (.isub, 1) := by decide +kernel
theorem dX1_solveSet_50 : decode cX1_solveSet 50 = .ok (.istore_n 3, 1) := by decide +kernel
theorem dX1_solveSet_51 : decode cX1_solveSet 51 = .ok (.aload_n 0, 1) := by decide +kernel
theorem dX1_solveSet_52 : decode cX1_solveSet 52 = .ok (.getfield 25, 3) := by decide +kernel
theorem dX1_solveSet_55 : decode cX1_solveSet 55 = .ok (.iload_n 3, 1) := by decide +kernel
theorem dX1_solveSet_56 : decode cX1_solveSet 56 = .ok (.iaload, 1) := by decide +kernel
theorem dX1_solveSet_57 : decode cX1_solveSet 57 = .ok (.aload_n 0, 1) := by decide +kernel
theorem dX1_solveSet_58 : decode cX1_solveSet 58 = .ok (.getfield 12, 3) := by decide +kernel
theorem dX1_solveSet_61 : decode cX1_solveSet 61 = .ok (.getfield 40, 3) := by decide +kernel
theorem dX1_solveSet_64 : decode cX1_solveSet 64 = .ok (.iload_n 2, 1) := by decide +kernel
theorem dX1_solveSet_65 : decode cX1_solveSet 65 = .ok (.iaload, 1) := by decide +kernel
theorem dX1_solveSet_66 : decode cX1_solveSet 66 = .ok (.iadd, 1) := by decide +kernel
theorem dX1_solveSet_67 : decode cX1_solveSet 67 = .ok (.bipush 16, 2) := by decide +kernel
theorem dX1_solveSet_69 : decode cX1_solveSet 69 = .ok (.if_icmp .gt 7, 3) := by decide +kernel
theorem dX1_solveSet_72 : decode cX1_solveSet 72 = .ok (.iconst 1, 1) := by decide +kernel
theorem dX1_solveSet_73 : decode cX1_solveSet 73 = .ok (.goto 4, 3) := by decide +kernel
theorem dX1_solveSet_76 : decode cX1_solveSet 76 = .ok (.iconst 0, 1) := by decide +kernel
theorem dX1_solveSet_77 : decode cX1_solveSet 77 = .ok (.istore 4, 2) := by decide +kernel
theorem dX1_solveSet_79 : decode cX1_solveSet 79 = .ok (.iload 4, 2) := by decide +kernel
theorem dX1_solveSet_81 : decode cX1_solveSet 81 = .ok (.ifCond .eq 12, 3) := by decide +kernel
theorem dX1_solveSet_84 : decode cX1_solveSet 84 = .ok (.aload_n 0, 1) := by decide +kernel
theorem dX1_solveSet_85 : decode cX1_solveSet 85 = .ok (.getfield 22, 3) := by decide +kernel
theorem dX1_solveSet_88 : decode cX1_solveSet 88 = .ok (.iload_n 3, 1) := by decide +kernel
theorem dX1_solveSet_89 : decode cX1_solveSet 89 = .ok (.iaload, 1) := by decide +kernel
theorem dX1_solveSet_90 : decode cX1_solveSet 90 = .ok (.goto 11, 3) := by decide +kernel
theorem dX1_solveSet_93 : decode cX1_solveSet 93 = .ok (.aload_n 0, 1) := by decide +kernel
theorem dX1_solveSet_94 : decode cX1_solveSet 94 = .ok (.getfield 22, 3) := by decide +kernel
theorem dX1_solveSet_97 : decode cX1_solveSet 97 = .ok (.iload_n 3, 1) := by decide +kernel
theorem dX1_solveSet_98 : decode cX1_solveSet 98 = .ok (.iaload, 1) := by decide +kernel
theorem dX1_solveSet_99 : decode cX1_solveSet 99 = .ok (.iconst 1, 1) := by decide +kernel
theorem dX1_solveSet_100 : decode cX1_solveSet 100 = .ok (.iadd, 1) := by decide +kernel
theorem dX1_solveSet_101 : decode cX1_solveSet 101 = .ok (.istore 5, 2) := by decide +kernel
theorem dX1_solveSet_103 : decode cX1_solveSet 103 = .ok (.iload 4, 2) := by decide +kernel
theorem dX1_solveSet_105 : decode cX1_solveSet 105 = .ok (.ifCond .eq 22, 3) := by decide +kernel
theorem dX1_solveSet_108 : decode cX1_solveSet 108 = .ok (.aload_n 0, 1) := by decide +kernel
theorem dX1_solveSet_109 : decode cX1_solveSet 109 = .ok (.getfield 25, 3) := by decide +kernel
theorem dX1_solveSet_112 : decode cX1_solveSet 112 = .ok (.iload_n 3, 1) := by decide +kernel
theorem dX1_solveSet_113 : decode cX1_solveSet 113 = .ok (.iaload, 1) := by decide +kernel
theorem dX1_solveSet_114 : decode cX1_solveSet 114 = .ok (.aload_n 0, 1) := by decide +kernel
theorem dX1_solveSet_115 : decode cX1_solveSet 115 = .ok (.getfield 12, 3) := by decide +kernel
theorem dX1_solveSet_118 : decode cX1_solveSet 118 = .ok (.getfield 40, 3) := by decide +kernel
theorem dX1_solveSet_121 : decode cX1_solveSet 121 = .ok (.iload_n 2, 1) := by decide +kernel
theorem dX1_solveSet_122 : decode cX1_solveSet 122 = .ok (.iaload, 1) := by decide +kernel
theorem dX1_solveSet_123 : decode cX1_solveSet 123 = .ok (.iadd, 1) := by decide +kernel
theorem dX1_solveSet_124 : decode cX1_solveSet 124 = .ok (.goto 12, 3) := by decide +kernel
theorem dX1_solveSet_127 : decode cX1_solveSet 127 = .ok (.aload_n 0, 1) := by decide +kernel
theorem dX1_solveSet_128 : decode cX1_solveSet 128 = .ok (.getfield 12, 3) := by decide +kernel
theorem dX1_solveSet_131 : decode cX1_solveSet 131 = .ok (.getfield 40, 3) := by decide +kernel
theorem dX1_solveSet_134 : decode cX1_solveSet 134 = .ok (.iload_n 2, 1) := by decide +kernel
theorem dX1_solveSet_135 : decode cX1_solveSet 135 = .ok (.iaload, 1) := by decide +kernel
theorem dX1_solveSet_136 : decode cX1_solveSet 136 = .ok (.istore 6, 2) := by decide +kernel
theorem dX1_solveSet_138 : decode cX1_solveSet 138 = .ok (.iload 5, 2) := by decide +kernel
theorem dX1_solveSet_140 : decode cX1_solveSet 140 = .ok (.aload_n 0, 1) := by decide +kernel
theorem dX1_solveSet_141 : decode cX1_solveSet 141 = .ok (.getfield 22, 3) := by decide +kernel
theorem dX1_solveSet_144 : decode cX1_solveSet 144 = .ok (.iload_n 1, 1) := by decide +kernel
theorem dX1_solveSet_145 : decode cX1_solveSet 145 = .ok (.iaload, 1) := by decide +kernel
theorem dX1_solveSet_146 : decode cX1_solveSet 146 = .ok (.if_icmp .lt 25, 3) := by decide +kernel
theorem dX1_solveSet_149 : decode cX1_solveSet 149 = .ok (.iload 5, 2) := by decide +kernel
theorem dX1_solveSet_151 : decode cX1_solveSet 151 = .ok (.aload_n 0, 1) := by decide +kernel
theorem dX1_solveSet_152 : decode cX1_solveSet 152 = .ok (.getfield 22, 3) := by decide +kernel
theorem dX1_solveSet_155 : decode cX1_solveSet 155 = .ok (.iload_n 1, 1) := by decide +kernel
theorem dX1_solveSet_156 : decode cX1_solveSet 156 = .ok (.iaload, 1) := by decide +kernel
theorem dX1_solveSet_157 : decode cX1_solveSet 157 = .ok (.if_icmp .ne 30, 3) := by decide +kernel
theorem dX1_solveSet_160 : decode cX1_solveSet 160 = .ok (.iload 6, 2) := by decide +kernel
theorem dX1_solveSet_162 : decode cX1_solveSet 162 = .ok (.aload_n 0, 1) := by decide +kernel
theorem dX1_solveSet_163 : decode cX1_solveSet 163 = .ok (.getfield 25, 3) := by decide +kernel
theorem dX1_solveSet_166 : decode cX1_solveSet 166 = .ok (.iload_n 1, 1) := by decide +kernel
theorem dX1_solveSet_167 : decode cX1_solveSet 167 = .ok (.iaload, 1) := by decide +kernel
theorem dX1_solveSet_168 : decode cX1_solveSet 168 = .ok (.if_icmp .ge 19, 3) := by decide +kernel
theorem dX1_solveSet_171 : decode cX1_solveSet 171 = .ok (.aload_n 0, 1) := by decide +kernel
theorem dX1_solveSet_172 : decode cX1_solveSet 172 = .ok (.getfield 22, 3) := by decide +kernel
theorem dX1_solveSet_175 : decode cX1_solveSet 175 = .ok (.iload_n 1, 1) := by decide +kernel
theorem dX1_solveSet_176 : decode cX1_solveSet 176 = .ok (.iload 5, 2) := by decide +kernel
theorem dX1_solveSet_178 : decode cX1_solveSet 178 = .ok (.iastore, 1) := by decide +kernel
theorem dX1_solveSet_179 : decode cX1_solveSet 179 = .ok (.aload_n 0, 1) := by decide +kernel
theorem dX1_solveSet_180 : decode cX1_solveSet 180 = .ok (.getfield 25, 3) := by decide +kernel
theorem dX1_solveSet_183 : decode cX1_solveSet 183 = .ok (.iload_n 1, 1) := by decide +kernel
theorem dX1_solveSet_184 : decode cX1_solveSet 184 = .ok (.iload 6, 2) := by decide +kernel
theorem dX1_solveSet_186 : decode cX1_solveSet 186 = .ok (.iastore, 1) := by decide +kernel
theorem dX1_solveSet_187 : decode cX1_solveSet 187 = .ok (.iinc 2 1, 3) := by decide +kernel
theorem dX1_solveSet_190 : decode cX1_solveSet 190 = .ok (.goto (-160), 3) := by decide +kernel
theorem dX1_solveSet_193 : decode cX1_solveSet 193 = .ok (.return_, 1) := by decide +kernel
theorem dX1_byTrying_0 : decode cX1_byTrying 0 = .ok (.aload_n 0, 1) := by decide +kernel
theorem dX1_byTrying_1 : decode cX1_byTrying 1 = .ok (.getfield 12, 3) := by decide +kernel
theorem dX1_byTrying_4 : decode cX1_byTrying 4 = .ok (.aload_n 1, 1) := by decide +kernel
theorem dX1_byTrying_5 : decode cX1_byTrying 5 = .ok (.invokevirtual 28, 3) := by decide +kernel
theorem dX1_byTrying_8 : decode cX1_byTrying 8 = .ok (.iconst 0, 1) := by decide +kernel
theorem dX1_byTrying_9 : decode cX1_byTrying 9 = .ok (.istore_n 2, 1) := by decide +kernel
theorem dX1_byTrying_10 : decode cX1_byTrying 10 = .ok (.iload_n 2, 1) := by decide +kernel
theorem dX1_byTrying_11 : decode cX1_byTrying 11 = .ok (.bipush 10, 2) := by decide +kernel
theorem dX1_byTrying_13 : decode cX1_byTrying 13 = .ok (.if_icmp .ge 16, 3) := by decide +kernel
theorem dX1_byTrying_16 : decode cX1_byTrying 16 = .ok (.aload_n 0, 1) := by decide +kernel
theorem dX1_byTrying_17 : decode cX1_byTrying 17 = .ok (.getfield 18, 3) := by decide +kernel
theorem dX1_byTrying_20 : decode cX1_byTrying 20 = .ok (.iload_n 2, 1) := by decide +kernel
theorem dX1_byTrying_21 : decode cX1_byTrying 21 = .ok (.iconst 0, 1) := by decide +kernel
theorem dX1_byTrying_22 : decode cX1_byTrying 22 = .ok (.iastore, 1) := by decide +kernel
theorem dX1_byTrying_23 : decode cX1_byTrying 23 = .ok (.iinc 2 1, 3) := by decide +kernel
theorem dX1_byTrying_26 : decode cX1_byTrying 26 = .ok (.goto (-16), 3) := by decide +kernel
theorem dX1_byTrying_29 : decode cX1_byTrying 29 = .ok (.aload_n 0, 1) := by decide +kernel
theorem dX1_byTrying_30 : decode cX1_byTrying 30 = .ok (.getfield 12, 3) := by decide +kernel
theorem dX1_byTrying_33 : decode cX1_byTrying 33 = .ok (.invokevirtual 43, 3) := by decide +kernel
theorem dX1_byTrying_36 : decode cX1_byTrying 36 = .ok (.bipush 16, 2) := by decide +kernel
theorem dX1_byTrying_38 : decode cX1_byTrying 38 = .ok (.iadd, 1) := by decide +kernel
theorem dX1_byTrying_39 : decode cX1_byTrying 39 = .ok (.iconst 1, 1) := by decide +kernel
theorem dX1_byTrying_40 : decode cX1_byTrying 40 = .ok (.isub, 1) := by decide +kernel
theorem dX1_byTrying_41 : decode cX1_byTrying 41 = .ok (.bipush 16, 2) := by decide +kernel
theorem dX1_byTrying_43 : decode cX1_byTrying 43 = .ok (.idiv, 1) := by decide +kernel
theorem dX1_byTrying_44 : decode cX1_byTrying 44 = .ok (.istore_n 2, 1) := by decide +kernel
theorem dX1_byTrying_45 : decode cX1_byTrying 45 = .ok (.aload_n 0, 1) := by decide +kernel
theorem dX1_byTrying_46 : decode cX1_byTrying 46 = .ok (.getfield 12, 3) := by decide +kernel
theorem dX1_byTrying_49 : decode cX1_byTrying 49 = .ok (.aload_n 0, 1) := by decide +kernel
theorem dX1_byTrying_50 : decode cX1_byTrying 50 = .ok (.getfield 18, 3) := by decide +kernel
theorem dX1_byTrying_53 : decode cX1_byTrying 53 = .ok (.iconst 0, 1) := by decide +kernel
theorem dX1_byTrying_54 : decode cX1_byTrying 54 = .ok (.iconst 0, 1) := by decide +kernel
theorem dX1_byTrying_55 : decode cX1_byTrying 55 = .ok (.aload_n 0, 1) := by decide +kernel
theorem dX1_byTrying_56 : decode cX1_byTrying 56 = .ok (.getfield 12, 3) := by decide +kernel
theorem dX1_byTrying_59 : decode cX1_byTrying 59 = .ok (.getfield 32, 3) := by decide +kernel
theorem dX1_byTrying_62 : decode cX1_byTrying 62 = .ok (.iload_n 2, 1) := by decide +kernel
theorem dX1_byTrying_63 : decode cX1_byTrying 63 = .ok (.invokestatic 47, 3) := by decide +kernel
theorem dX1_byTrying_66 : decode cX1_byTrying 66 = .ok (.ireturn, 1) := by decide +kernel
theorem dX1_tryTail_0 : decode cX1_tryTail 0 = .ok (.iload_n 3, 1) := by decide +kernel
theorem dX1_tryTail_1 : decode cX1_tryTail 1 = .ok (.iload 4, 2) := by decide +kernel
theorem dX1_tryTail_3 : decode cX1_tryTail 3 = .ok (.if_icmp .ge 10, 3) := by decide +kernel
theorem dX1_tryTail_6 : decode cX1_tryTail 6 = .ok (.iload 4, 2) := by decide +kernel
theorem dX1_tryTail_8 : decode cX1_tryTail 8 = .ok (.iload 5, 2) := by decide +kernel
theorem dX1_tryTail_10 : decode cX1_tryTail 10 = .ok (.if_icmp .gt 6, 3) := by decide +kernel
theorem dX1_tryTail_13 : decode cX1_tryTail 13 = .ok (.iload 4, 2) := by decide +kernel
theorem dX1_tryTail_15 : decode cX1_tryTail 15 = .ok (.ireturn, 1) := by decide +kernel
theorem dX1_tryTail_16 : decode cX1_tryTail 16 = .ok (.iload_n 2, 1) := by decide +kernel
theorem dX1_tryTail_17 : decode cX1_tryTail 17 = .ok (.aload_n 0, 1) := by decide +kernel
theorem dX1_tryTail_18 : decode cX1_tryTail 18 = .ok (.getfield 32, 3) := by decide +kernel
theorem dX1_tryTail_21 : decode cX1_tryTail 21 = .ok (.if_icmp .ge 9, 3) := by decide +kernel
theorem dX1_tryTail_24 : decode cX1_tryTail 24 = .ok (.iload_n 2, 1) := by decide +kernel
theorem dX1_tryTail_25 : decode cX1_tryTail 25 = .ok (.bipush 10, 2) := by decide +kernel
theorem dX1_tryTail_27 : decode cX1_tryTail 27 = .ok (.if_icmp .lt 5, 3) := by decide +kernel
theorem dX1_tryTail_30 : decode cX1_tryTail 30 = .ok (.iload_n 3, 1) := by decide +kernel
theorem dX1_tryTail_31 : decode cX1_tryTail 31 = .ok (.ireturn, 1) := by decide +kernel
theorem dX1_tryTail_32 : decode cX1_tryTail 32 = .ok (.iload 4, 2) := by decide +kernel
theorem dX1_tryTail_34 : decode cX1_tryTail 34 = .ok (.istore 6, 2) := by decide +kernel
theorem dX1_tryTail_36 : decode cX1_tryTail 36 = .ok (.iconst 0, 1) := by decide +kernel
theorem dX1_tryTail_37 : decode cX1_tryTail 37 = .ok (.istore 7, 2) := by decide +kernel
theorem dX1_tryTail_39 : decode cX1_tryTail 39 = .ok (.iload 7, 2) := by decide +kernel
theorem dX1_tryTail_41 : decode cX1_tryTail 41 = .ok (.iload_n 3, 1) := by decide +kernel
theorem dX1_tryTail_42 : decode cX1_tryTail 42 = .ok (.if_icmp .gt 96, 3) := by decide +kernel
theorem dX1_tryTail_45 : decode cX1_tryTail 45 = .ok (.iload 7, 2) := by decide +kernel
theorem dX1_tryTail_47 : decode cX1_tryTail 47 = .ok (.bipush 10, 2) := by decide +kernel
theorem dX1_tryTail_49 : decode cX1_tryTail 49 = .ok (.if_icmp .ge 89, 3) := by decide +kernel
theorem dX1_tryTail_52 : decode cX1_tryTail 52 = .ok (.iload 7, 2) := by decide +kernel
theorem dX1_tryTail_54 : decode cX1_tryTail 54 = .ok (.aload_n 1, 1) := by decide +kernel
theorem dX1_tryTail_55 : decode cX1_tryTail 55 = .ok (.arraylength, 1) := by decide +kernel
theorem dX1_tryTail_56 : decode cX1_tryTail 56 = .ok (.if_icmp .ge 82, 3) := by decide +kernel
theorem dX1_tryTail_59 : decode cX1_tryTail 59 = .ok (.aload_n 1, 1) := by decide +kernel
theorem dX1_tryTail_60 : decode cX1_tryTail 60 = .ok (.iload 7, 2) := by decide +kernel
theorem dX1_tryTail_62 : decode cX1_tryTail 62 = .ok (.iaload, 1) := by decide +kernel
theorem dX1_tryTail_63 : decode cX1_tryTail 63 = .ok (.aload_n 0, 1) := by decide +kernel
theorem dX1_tryTail_64 : decode cX1_tryTail 64 = .ok (.getfield 40, 3) := by decide +kernel
theorem dX1_tryTail_67 : decode cX1_tryTail 67 = .ok (.iload_n 2, 1) := by decide +kernel
theorem dX1_tryTail_68 : decode cX1_tryTail 68 = .ok (.iaload, 1) := by decide +kernel
theorem dX1_tryTail_69 : decode cX1_tryTail 69 = .ok (.iadd, 1) := by decide +kernel
theorem dX1_tryTail_70 : decode cX1_tryTail 70 = .ok (.bipush 16, 2) := by decide +kernel
theorem dX1_tryTail_72 : decode cX1_tryTail 72 = .ok (.if_icmp .gt 60, 3) := by decide +kernel
theorem dX1_tryTail_75 : decode cX1_tryTail 75 = .ok (.aload_n 1, 1) := by decide +kernel
theorem dX1_tryTail_76 : decode cX1_tryTail 76 = .ok (.iload 7, 2) := by decide +kernel
theorem dX1_tryTail_78 : decode cX1_tryTail 78 = .ok (.dup2, 1) := by decide +kernel
theorem dX1_tryTail_79 : decode cX1_tryTail 79 = .ok (.iaload, 1) := by decide +kernel
theorem dX1_tryTail_80 : decode cX1_tryTail 80 = .ok (.aload_n 0, 1) := by decide +kernel
theorem dX1_tryTail_81 : decode cX1_tryTail 81 = .ok (.getfield 40, 3) := by decide +kernel
theorem dX1_tryTail_84 : decode cX1_tryTail 84 = .ok (.iload_n 2, 1) := by decide +kernel
theorem dX1_tryTail_85 : decode cX1_tryTail 85 = .ok (.iaload, 1) := by decide +kernel
theorem dX1_tryTail_86 : decode cX1_tryTail 86 = .ok (.iadd, 1) := by decide +kernel
theorem dX1_tryTail_87 : decode cX1_tryTail 87 = .ok (.iastore, 1) := by decide +kernel
theorem dX1_tryTail_88 : decode cX1_tryTail 88 = .ok (.iload 7, 2) := by decide +kernel
theorem dX1_tryTail_90 : decode cX1_tryTail 90 = .ok (.iload_n 3, 1) := by decide +kernel
theorem dX1_tryTail_91 : decode cX1_tryTail 91 = .ok (.if_icmp .ne 9, 3) := by decide +kernel
theorem dX1_tryTail_94 : decode cX1_tryTail 94 = .ok (.iload_n 3, 1) := by decide +kernel
theorem dX1_tryTail_95 : decode cX1_tryTail 95 = .ok (.iconst 1, 1) := by decide +kernel
theorem dX1_tryTail_96 : decode cX1_tryTail 96 = .ok (.iadd, 1) := by decide +kernel
theorem dX1_tryTail_97 : decode cX1_tryTail 97 = .ok (.goto 4, 3) := by decide +kernel
theorem dX1_tryTail_100 : decode cX1_tryTail 100 = .ok (.iload_n 3, 1) := by decide +kernel
theorem dX1_tryTail_101 : decode cX1_tryTail 101 = .ok (.istore 8, 2) := by decide +kernel
theorem dX1_tryTail_103 : decode cX1_tryTail 103 = .ok (.aload_n 0, 1) := by decide +kernel
theorem dX1_tryTail_104 : decode cX1_tryTail 104 = .ok (.aload_n 1, 1) := by decide +kernel
theorem dX1_tryTail_105 : decode cX1_tryTail 105 = .ok (.iload_n 2, 1) := by decide +kernel
theorem dX1_tryTail_106 : decode cX1_tryTail 106 = .ok (.iconst 1, 1) := by decide +kernel
theorem dX1_tryTail_107 : decode cX1_tryTail 107 = .ok (.iadd, 1) := by decide +kernel
theorem dX1_tryTail_108 : decode cX1_tryTail 108 = .ok (.iload 8, 2) := by decide +kernel
theorem dX1_tryTail_110 : decode cX1_tryTail 110 = .ok (.iload 6, 2) := by decide +kernel
theorem dX1_tryTail_112 : decode cX1_tryTail 112 = .ok (.iload 5, 2) := by decide +kernel
theorem dX1_tryTail_114 : decode cX1_tryTail 114 = .ok (.invokestatic 47, 3) := by decide +kernel
theorem dX1_tryTail_117 : decode cX1_tryTail 117 = .ok (.istore 6, 2) := by decide +kernel
theorem dX1_tryTail_119 : decode cX1_tryTail 119 = .ok (.aload_n 1, 1) := by decide +kernel
theorem dX1_tryTail_120 : decode cX1_tryTail 120 = .ok (.iload 7, 2) := by decide +kernel
theorem dX1_tryTail_122 : decode cX1_tryTail 122 = .ok (.dup2, 1) := by decide +kernel
theorem dX1_tryTail_123 : decode cX1_tryTail 123 = .ok (.iaload, 1) := by decide +kernel
theorem dX1_tryTail_124 : decode cX1_tryTail 124 = .ok (.aload_n 0, 1) := by decide +kernel
theorem dX1_tryTail_125 : decode cX1_tryTail 125 = .ok (.getfield 40, 3) := by decide +kernel
theorem dX1_tryTail_128 : decode cX1_tryTail 128 = .ok (.iload_n 2, 1) := by decide +kernel
theorem dX1_tryTail_129 : decode cX1_tryTail 129 = .ok (.iaload, 1) := by decide +kernel
theorem dX1_tryTail_130 : decode cX1_tryTail 130 = .ok (.isub, 1) := by decide +kernel
theorem dX1_tryTail_131 : decode cX1_tryTail 131 = .ok (.iastore, 1) := by decide +kernel
theorem dX1_tryTail_132 : decode cX1_tryTail 132 = .ok (.iinc 7 1, 3) := by decide +kernel
theorem dX1_tryTail_135 : decode cX1_tryTail 135 = .ok (.goto (-96), 3) := by decide +kernel
theorem dX1_tryTail_138 : decode cX1_tryTail 138 = .ok (.iload 6, 2) := by decide +kernel
theorem dX1_tryTail_140 : decode cX1_tryTail 140 = .ok (.ireturn, 1) := by decide +kernel
theorem dX2_init_0 : decode cX2_init 0 = .ok (.aload_n 0, 1) := by decide +kernel
theorem dX2_init_1 : decode cX2_init 1 = .ok (.invokespecial 3, 3) := by decide +kernel
theorem dX2_init_4 : decode cX2_init 4 = .ok (.aload_n 0, 1) := by decide +kernel
theorem dX2_init_5 : decode cX2_init 5 = .ok (.bipush 6, 2) := by decide +kernel
theorem dX2_init_7 : decode cX2_init 7 = .ok (.anewarray 9, 3) := by decide +kernel
theorem dX2_init_10 : decode cX2_init 10 = .ok (.putfield 11, 3) := by decide +kernel
theorem dX2_init_13 : decode cX2_init 13 = .ok (.aload_n 0, 1) := by decide +kernel
theorem dX2_init_14 : decode cX2_init 14 = .ok (.iconst 0, 1) := by decide +kernel
theorem dX2_init_15 : decode cX2_init 15 = .ok (.putfield 17, 3) := by decide +kernel
theorem dX2_init_18 : decode cX2_init 18 = .ok (.iconst 0, 1) := by decide +kernel
theorem dX2_init_19 : decode cX2_init 19 = .ok (.istore_n 1, 1) := by decide +kernel
theorem dX2_init_20 : decode cX2_init 20 = .ok (.iload_n 1, 1) := by decide +kernel
theorem dX2_init_21 : decode cX2_init 21 = .ok (.bipush 6, 2) := by decide +kernel
theorem dX2_init_23 : decode cX2_init 23 = .ok (.if_icmp .ge 22, 3) := by decide +kernel
theorem dX2_init_26 : decode cX2_init 26 = .ok (.aload_n 0, 1) := by decide +kernel
theorem dX2_init_27 : decode cX2_init 27 = .ok (.getfield 11, 3) := by decide +kernel
theorem dX2_init_30 : decode cX2_init 30 = .ok (.iload_n 1, 1) := by decide +kernel
theorem dX2_init_31 : decode cX2_init 31 = .ok (.new 9, 3) := by decide +kernel
theorem dX2_init_34 : decode cX2_init 34 = .ok (.dup, 1) := by decide +kernel
theorem dX2_init_35 : decode cX2_init 35 = .ok (.invokespecial 21, 3) := by decide +kernel
theorem dX2_init_38 : decode cX2_init 38 = .ok (.aastore, 1) := by decide +kernel
theorem dX2_init_39 : decode cX2_init 39 = .ok (.iinc 1 1, 3) := by decide +kernel
theorem dX2_init_42 : decode cX2_init 42 = .ok (.goto (-22), 3) := by decide +kernel
theorem dX2_init_45 : decode cX2_init 45 = .ok (.return_, 1) := by decide +kernel
theorem dX2_held_0 : decode cX2_held 0 = .ok (.aload_n 0, 1) := by decide +kernel
theorem dX2_held_1 : decode cX2_held 1 = .ok (.getfield 17, 3) := by decide +kernel
theorem dX2_held_4 : decode cX2_held 4 = .ok (.ireturn, 1) := by decide +kernel
theorem dX2_store_0 : decode cX2_store 0 = .ok (.aload_n 0, 1) := by decide +kernel
theorem dX2_store_1 : decode cX2_store 1 = .ok (.getfield 17, 3) := by decide +kernel
theorem dX2_store_4 : decode cX2_store 4 = .ok (.bipush 6, 2) := by decide +kernel
theorem dX2_store_6 : decode cX2_store 6 = .ok (.if_icmp .lt 7, 3) := by decide +kernel
theorem dX2_store_9 : decode cX2_store 9 = .ok (.aload_n 0, 1) := by decide +kernel
theorem dX2_store_10 : decode cX2_store 10 = .ok (.invokevirtual 22, 3) := by decide +kernel
theorem dX2_store_13 : decode cX2_store 13 = .ok (.aload_n 0, 1) := by decide +kernel
theorem dX2_store_14 : decode cX2_store 14 = .ok (.getfield 17, 3) := by decide +kernel
theorem dX2_store_17 : decode cX2_store 17 = .ok (.ifCond .lt 47, 3) := by decide +kernel
theorem dX2_store_20 : decode cX2_store 20 = .ok (.aload_n 0, 1) := by decide +kernel
theorem dX2_store_21 : decode cX2_store 21 = .ok (.getfield 17, 3) := by decide +kernel
theorem dX2_store_24 : decode cX2_store 24 = .ok (.bipush 6, 2) := by decide +kernel
theorem dX2_store_26 : decode cX2_store 26 = .ok (.if_icmp .ge 38, 3) := by decide +kernel
theorem dX2_store_29 : decode cX2_store 29 = .ok (.aload_n 0, 1) := by decide +kernel
theorem dX2_store_30 : decode cX2_store 30 = .ok (.getfield 11, 3) := by decide +kernel
theorem dX2_store_33 : decode cX2_store 33 = .ok (.aload_n 0, 1) := by decide +kernel
theorem dX2_store_34 : decode cX2_store 34 = .ok (.getfield 17, 3) := by decide +kernel
theorem dX2_store_37 : decode cX2_store 37 = .ok (.aaload, 1) := by decide +kernel
theorem dX2_store_38 : decode cX2_store 38 = .ok (.ifnull 26, 3) := by decide +kernel
theorem dX2_store_41 : decode cX2_store 41 = .ok (.aload_n 0, 1) := by decide +kernel
theorem dX2_store_42 : decode cX2_store 42 = .ok (.getfield 11, 3) := by decide +kernel
theorem dX2_store_45 : decode cX2_store 45 = .ok (.aload_n 0, 1) := by decide +kernel
theorem dX2_store_46 : decode cX2_store 46 = .ok (.getfield 17, 3) := by decide +kernel
theorem dX2_store_49 : decode cX2_store 49 = .ok (.aaload, 1) := by decide +kernel
theorem dX2_store_50 : decode cX2_store 50 = .ok (.aload_n 1, 1) := by decide +kernel
theorem dX2_store_51 : decode cX2_store 51 = .ok (.invokevirtual 25, 3) := by decide +kernel
theorem dX2_store_54 : decode cX2_store 54 = .ok (.aload_n 0, 1) := by decide +kernel
theorem dX2_store_55 : decode cX2_store 55 = .ok (.dup, 1) := by decide +kernel
theorem dX2_store_56 : decode cX2_store 56 = .ok (.getfield 17, 3) := by decide +kernel
theorem dX2_store_59 : decode cX2_store 59 = .ok (.iconst 1, 1) := by decide +kernel
theorem dX2_store_60 : decode cX2_store 60 = .ok (.iadd, 1) := by decide +kernel
theorem dX2_store_61 : decode cX2_store 61 = .ok (.putfield 17, 3) := by decide +kernel
theorem dX2_store_64 : decode cX2_store 64 = .ok (.return_, 1) := by decide +kernel
theorem dX2_dropOldest_0 : decode cX2_dropOldest 0 = .ok (.aload_n 0, 1) := by decide +kernel
theorem dX2_dropOldest_1 : decode cX2_dropOldest 1 = .ok (.getfield 11, 3) := by decide +kernel
theorem dX2_dropOldest_4 : decode cX2_dropOldest 4 = .ok (.iconst 0, 1) := by decide +kernel
theorem dX2_dropOldest_5 : decode cX2_dropOldest 5 = .ok (.aaload, 1) := by decide +kernel
theorem dX2_dropOldest_6 : decode cX2_dropOldest 6 = .ok (.astore_n 1, 1) := by decide +kernel
theorem dX2_dropOldest_7 : decode cX2_dropOldest 7 = .ok (.iconst 1, 1) := by decide +kernel
theorem dX2_dropOldest_8 : decode cX2_dropOldest 8 = .ok (.istore_n 2, 1) := by decide +kernel
theorem dX2_dropOldest_9 : decode cX2_dropOldest 9 = .ok (.iload_n 2, 1) := by decide +kernel
theorem dX2_dropOldest_10 : decode cX2_dropOldest 10 = .ok (.bipush 6, 2) := by decide +kernel
theorem dX2_dropOldest_12 : decode cX2_dropOldest 12 = .ok (.if_icmp .ge 23, 3) := by decide +kernel
theorem dX2_dropOldest_15 : decode cX2_dropOldest 15 = .ok (.aload_n 0, 1) := by decide +kernel
theorem dX2_dropOldest_16 : decode cX2_dropOldest 16 = .ok (.getfield 11, 3) := by decide +kernel
theorem dX2_dropOldest_19 : decode cX2_dropOldest 19 = .ok (.iload_n 2, 1) := by decide +kernel
theorem dX2_dropOldest_20 : decode cX2_dropOldest 20 = .ok (.iconst 1, 1) := by decide +kernel
theorem dX2_dropOldest_21 : decode cX2_dropOldest 21 = .ok (.isub, 1) := by decide +kernel
theorem dX2_dropOldest_22 : decode cX2_dropOldest 22 = .ok (.aload_n 0, 1) := by decide +kernel
theorem dX2_dropOldest_23 : decode cX2_dropOldest 23 = .ok (.getfield 11, 3) := by decide +kernel
theorem dX2_dropOldest_26 : decode cX2_dropOldest 26 = .ok (.iload_n 2, 1) := by decide +kernel
theorem dX2_dropOldest_27 : decode cX2_dropOldest 27 = .ok (.aaload, 1) := by decide +kernel
theorem dX2_dropOldest_28 : decode cX2_dropOldest 28 = .ok (.aastore, 1) := by decide +kernel
theorem dX2_dropOldest_29 : decode cX2_dropOldest 29 = .ok (.iinc 2 1, 3) := by decide +kernel
theorem dX2_dropOldest_32 : decode cX2_dropOldest 32 = .ok (.goto (-23), 3) := by decide +kernel
theorem dX2_dropOldest_35 : decode cX2_dropOldest 35 = .ok (.aload_n 0, 1) := by decide +kernel
theorem dX2_dropOldest_36 : decode cX2_dropOldest 36 = .ok (.getfield 11, 3) := by decide +kernel
theorem dX2_dropOldest_39 : decode cX2_dropOldest 39 = .ok (.iconst 5, 1) := by decide +kernel
theorem dX2_dropOldest_40 : decode cX2_dropOldest 40 = .ok (.aload_n 1, 1) := by decide +kernel
theorem dX2_dropOldest_41 : decode cX2_dropOldest 41 = .ok (.aastore, 1) := by decide +kernel
theorem dX2_dropOldest_42 : decode cX2_dropOldest 42 = .ok (.aload_n 0, 1) := by decide +kernel
theorem dX2_dropOldest_43 : decode cX2_dropOldest 43 = .ok (.dup, 1) := by decide +kernel
theorem dX2_dropOldest_44 : decode cX2_dropOldest 44 = .ok (.getfield 17, 3) := by decide +kernel
theorem dX2_dropOldest_47 : decode cX2_dropOldest 47 = .ok (.iconst 1, 1) := by decide +kernel
theorem dX2_dropOldest_48 : decode cX2_dropOldest 48 = .ok (.isub, 1) := by decide +kernel
theorem dX2_dropOldest_49 : decode cX2_dropOldest 49 = .ok (.putfield 17, 3) := by decide +kernel
theorem dX2_dropOldest_52 : decode cX2_dropOldest 52 = .ok (.return_, 1) := by decide +kernel
theorem dX3_init_0 : decode cX3_init 0 = .ok (.aload_n 0, 1) := by decide +kernel
theorem dX3_init_1 : decode cX3_init 1 = .ok (.invokespecial 3, 3) := by decide +kernel
theorem dX3_init_4 : decode cX3_init 4 = .ok (.aload_n 0, 1) := by decide +kernel
theorem dX3_init_5 : decode cX3_init 5 = .ok (.iconst 0, 1) := by decide +kernel
theorem dX3_init_6 : decode cX3_init 6 = .ok (.putfield 11, 3) := by decide +kernel
theorem dX3_init_9 : decode cX3_init 9 = .ok (.aload_n 0, 1) := by decide +kernel
theorem dX3_init_10 : decode cX3_init 10 = .ok (.iconst 0, 1) := by decide +kernel
theorem dX3_init_11 : decode cX3_init 11 = .ok (.putfield 15, 3) := by decide +kernel
theorem dX3_init_14 : decode cX3_init 14 = .ok (.aload_n 0, 1) := by decide +kernel
theorem dX3_init_15 : decode cX3_init 15 = .ok (.iconst 0, 1) := by decide +kernel
theorem dX3_init_16 : decode cX3_init 16 = .ok (.putfield 18, 3) := by decide +kernel
theorem dX3_init_19 : decode cX3_init 19 = .ok (.aload_n 0, 1) := by decide +kernel
theorem dX3_init_20 : decode cX3_init 20 = .ok (.iconst 0, 1) := by decide +kernel
theorem dX3_init_21 : decode cX3_init 21 = .ok (.putfield 21, 3) := by decide +kernel
theorem dX3_init_24 : decode cX3_init 24 = .ok (.return_, 1) := by decide +kernel
theorem dX4_init_0 : decode cX4_init 0 = .ok (.aload_n 0, 1) := by decide +kernel
theorem dX4_init_1 : decode cX4_init 1 = .ok (.invokespecial 3, 3) := by decide +kernel
theorem dX4_init_4 : decode cX4_init 4 = .ok (.aload_n 0, 1) := by decide +kernel
theorem dX4_init_5 : decode cX4_init 5 = .ok (.new 9, 3) := by decide +kernel
theorem dX4_init_8 : decode cX4_init 8 = .ok (.dup, 1) := by decide +kernel
theorem dX4_init_9 : decode cX4_init 9 = .ok (.invokespecial 11, 3) := by decide +kernel
theorem dX4_init_12 : decode cX4_init 12 = .ok (.putfield 12, 3) := by decide +kernel
theorem dX4_init_15 : decode cX4_init 15 = .ok (.aload_n 0, 1) := by decide +kernel
theorem dX4_init_16 : decode cX4_init 16 = .ok (.bipush 10, 2) := by decide +kernel
theorem dX4_init_18 : decode cX4_init 18 = .ok (.newarray .int, 2) := by decide +kernel
theorem dX4_init_20 : decode cX4_init 20 = .ok (.putfield 18, 3) := by decide +kernel
theorem dX4_init_23 : decode cX4_init 23 = .ok (.aload_n 0, 1) := by decide +kernel
theorem dX4_init_24 : decode cX4_init 24 = .ok (.bipush 10, 2) := by decide +kernel
theorem dX4_init_26 : decode cX4_init 26 = .ok (.newarray .int, 2) := by decide +kernel
theorem dX4_init_28 : decode cX4_init 28 = .ok (.putfield 22, 3) := by decide +kernel
theorem dX4_init_31 : decode cX4_init 31 = .ok (.aload_n 0, 1) := by decide +kernel
theorem dX4_init_32 : decode cX4_init 32 = .ok (.bipush 24, 2) := by decide +kernel
theorem dX4_init_34 : decode cX4_init 34 = .ok (.newarray .int, 2) := by decide +kernel
theorem dX4_init_36 : decode cX4_init 36 = .ok (.putfield 25, 3) := by decide +kernel
theorem dX4_init_39 : decode cX4_init 39 = .ok (.return_, 1) := by decide +kernel
theorem dX4_plan_0 : decode cX4_plan 0 = .ok (.aload_n 0, 1) := by decide +kernel
theorem dX4_plan_1 : decode cX4_plan 1 = .ok (.getfield 12, 3) := by decide +kernel
theorem dX4_plan_4 : decode cX4_plan 4 = .ok (.aload_n 1, 1) := by decide +kernel
theorem dX4_plan_5 : decode cX4_plan 5 = .ok (.invokevirtual 28, 3) := by decide +kernel
theorem dX4_plan_8 : decode cX4_plan 8 = .ok (.iconst 0, 1) := by decide +kernel
theorem dX4_plan_9 : decode cX4_plan 9 = .ok (.istore_n 2, 1) := by decide +kernel
theorem dX4_plan_10 : decode cX4_plan 10 = .ok (.iload_n 2, 1) := by decide +kernel
theorem dX4_plan_11 : decode cX4_plan 11 = .ok (.bipush 24, 2) := by decide +kernel
theorem dX4_plan_13 : decode cX4_plan 13 = .ok (.if_icmp .ge 29, 3) := by decide +kernel
theorem dX4_plan_16 : decode cX4_plan 16 = .ok (.aload_n 0, 1) := by decide +kernel
theorem dX4_plan_17 : decode cX4_plan 17 = .ok (.getfield 25, 3) := by decide +kernel
theorem dX4_plan_20 : decode cX4_plan 20 = .ok (.iload_n 2, 1) := by decide +kernel
theorem dX4_plan_21 : decode cX4_plan 21 = .ok (.aload_n 1, 1) := by decide +kernel
theorem dX4_plan_22 : decode cX4_plan 22 = .ok (.iload_n 2, 1) := by decide +kernel
theorem dX4_plan_23 : decode cX4_plan 23 = .ok (.invokevirtual 32, 3) := by decide +kernel
theorem dX4_plan_26 : decode cX4_plan 26 = .ok (.ifCond .eq 7, 3) := by decide +kernel
theorem dX4_plan_29 : decode cX4_plan 29 = .ok (.iconst 0, 1) := by decide +kernel
theorem dX4_plan_30 : decode cX4_plan 30 = .ok (.goto 5, 3) := by decide +kernel
theorem dX4_plan_33 : decode cX4_plan 33 = .ok (.bipush 16, 2) := by decide +kernel
theorem dX4_plan_35 : decode cX4_plan 35 = .ok (.iastore, 1) := by decide +kernel
theorem dX4_plan_36 : decode cX4_plan 36 = .ok (.iinc 2 1, 3) := by decide +kernel
theorem dX4_plan_39 : decode cX4_plan 39 = .ok (.goto (-29), 3) := by decide +kernel
theorem dX4_plan_42 : decode cX4_plan 42 = .ok (.iconst 0, 1) := by decide +kernel
theorem dX4_plan_43 : decode cX4_plan 43 = .ok (.istore_n 2, 1) := by decide +kernel
theorem dX4_plan_44 : decode cX4_plan 44 = .ok (.iload_n 2, 1) := by decide +kernel
theorem dX4_plan_45 : decode cX4_plan 45 = .ok (.aload_n 0, 1) := by decide +kernel
theorem dX4_plan_46 : decode cX4_plan 46 = .ok (.getfield 12, 3) := by decide +kernel
theorem dX4_plan_49 : decode cX4_plan 49 = .ok (.getfield 38, 3) := by decide +kernel
theorem dX4_plan_52 : decode cX4_plan 52 = .ok (.if_icmp .ge 75, 3) := by decide +kernel
theorem dX4_plan_55 : decode cX4_plan 55 = .ok (.iload_n 2, 1) := by decide +kernel
theorem dX4_plan_56 : decode cX4_plan 56 = .ok (.bipush 10, 2) := by decide +kernel
theorem dX4_plan_58 : decode cX4_plan 58 = .ok (.if_icmp .ge 69, 3) := by decide +kernel
theorem dX4_plan_61 : decode cX4_plan 61 = .ok (.aload_n 0, 1) := by decide +kernel
theorem dX4_plan_62 : decode cX4_plan 62 = .ok (.aload_n 0, 1) := by decide +kernel
theorem dX4_plan_63 : decode cX4_plan 63 = .ok (.getfield 12, 3) := by decide +kernel
theorem dX4_plan_66 : decode cX4_plan 66 = .ok (.getfield 42, 3) := by decide +kernel
theorem dX4_plan_69 : decode cX4_plan 69 = .ok (.iload_n 2, 1) := by decide +kernel
theorem dX4_plan_70 : decode cX4_plan 70 = .ok (.iaload, 1) := by decide +kernel
theorem dX4_plan_71 : decode cX4_plan 71 = .ok (.invokevirtual 45, 3) := by decide +kernel
theorem dX4_plan_74 : decode cX4_plan 74 = .ok (.istore_n 3, 1) := by decide +kernel
theorem dX4_plan_75 : decode cX4_plan 75 = .ok (.iload_n 3, 1) := by decide +kernel
theorem dX4_plan_76 : decode cX4_plan 76 = .ok (.invokestatic 49, 3) := by decide +kernel
theorem dX4_plan_79 : decode cX4_plan 79 = .ok (.ifCond .ne 5, 3) := by decide +kernel
theorem dX4_plan_82 : decode cX4_plan 82 = .ok (.iconst (-1), 1) := by decide +kernel
theorem dX4_plan_83 : decode cX4_plan 83 = .ok (.ireturn, 1) := by decide +kernel
theorem dX4_plan_84 : decode cX4_plan 84 = .ok (.aload_n 0, 1) := by decide +kernel
theorem dX4_plan_85 : decode cX4_plan 85 = .ok (.getfield 18, 3) := by decide +kernel
theorem dX4_plan_88 : decode cX4_plan 88 = .ok (.iload_n 2, 1) := by decide +kernel
theorem dX4_plan_89 : decode cX4_plan 89 = .ok (.iload_n 3, 1) := by decide +kernel
theorem dX4_plan_90 : decode cX4_plan 90 = .ok (.iastore, 1) := by decide +kernel
theorem dX4_plan_91 : decode cX4_plan 91 = .ok (.aload_n 0, 1) := by decide +kernel
theorem dX4_plan_92 : decode cX4_plan 92 = .ok (.getfield 22, 3) := by decide +kernel
theorem dX4_plan_95 : decode cX4_plan 95 = .ok (.iload_n 2, 1) := by decide +kernel
theorem dX4_plan_96 : decode cX4_plan 96 = .ok (.aload_n 0, 1) := by decide +kernel
theorem dX4_plan_97 : decode cX4_plan 97 = .ok (.getfield 25, 3) := by decide +kernel
theorem dX4_plan_100 : decode cX4_plan 100 = .ok (.iload_n 3, 1) := by decide +kernel
theorem dX4_plan_101 : decode cX4_plan 101 = .ok (.iaload, 1) := by decide +kernel
theorem dX4_plan_102 : decode cX4_plan 102 = .ok (.iastore, 1) := by decide +kernel
theorem dX4_plan_103 : decode cX4_plan 103 = .ok (.aload_n 0, 1) := by decide +kernel
theorem dX4_plan_104 : decode cX4_plan 104 = .ok (.getfield 25, 3) := by decide +kernel
theorem dX4_plan_107 : decode cX4_plan 107 = .ok (.iload_n 3, 1) := by decide +kernel
theorem dX4_plan_108 : decode cX4_plan 108 = .ok (.dup2, 1) := by decide +kernel
theorem dX4_plan_109 : decode cX4_plan 109 = .ok (.iaload, 1) := by decide +kernel
theorem dX4_plan_110 : decode cX4_plan 110 = .ok (.aload_n 0, 1) := by decide +kernel
theorem dX4_plan_111 : decode cX4_plan 111 = .ok (.getfield 12, 3) := by decide +kernel
theorem dX4_plan_114 : decode cX4_plan 114 = .ok (.getfield 42, 3) := by decide +kernel
theorem dX4_plan_117 : decode cX4_plan 117 = .ok (.iload_n 2, 1) := by decide +kernel
theorem dX4_plan_118 : decode cX4_plan 118 = .ok (.iaload, 1) := by decide +kernel
theorem dX4_plan_119 : decode cX4_plan 119 = .ok (.iadd, 1) := by decide +kernel
theorem dX4_plan_120 : decode cX4_plan 120 = .ok (.iastore, 1) := by decide +kernel
theorem dX4_plan_121 : decode cX4_plan 121 = .ok (.iinc 2 1, 3) := by decide +kernel
theorem dX4_plan_124 : decode cX4_plan 124 = .ok (.goto (-80), 3) := by decide +kernel
theorem dX4_plan_127 : decode cX4_plan 127 = .ok (.aload_n 0, 1) := by decide +kernel
theorem dX4_plan_128 : decode cX4_plan 128 = .ok (.invokevirtual 52, 3) := by decide +kernel
theorem dX4_plan_131 : decode cX4_plan 131 = .ok (.ireturn, 1) := by decide +kernel
theorem dX4_firstWithRoom_0 : decode cX4_firstWithRoom 0 = .ok (.iconst 0, 1) := by decide +kernel
theorem dX4_firstWithRoom_1 : decode cX4_firstWithRoom 1 = .ok (.istore_n 2, 1) := by decide +kernel
theorem dX4_firstWithRoom_2 : decode cX4_firstWithRoom 2 = .ok (.iload_n 2, 1) := by decide +kernel
theorem dX4_firstWithRoom_3 : decode cX4_firstWithRoom 3 = .ok (.bipush 24, 2) := by decide +kernel
theorem dX4_firstWithRoom_5 : decode cX4_firstWithRoom 5 = .ok (.if_icmp .ge 24, 3) := by decide +kernel
theorem dX4_firstWithRoom_8 : decode cX4_firstWithRoom 8 = .ok (.aload_n 0, 1) := by decide +kernel
theorem dX4_firstWithRoom_9 : decode cX4_firstWithRoom 9 = .ok (.getfield 25, 3) := by decide +kernel
theorem dX4_firstWithRoom_12 : decode cX4_firstWithRoom 12 = .ok (.iload_n 2, 1) := by decide +kernel
theorem dX4_firstWithRoom_13 : decode cX4_firstWithRoom 13 = .ok (.iaload, 1) := by decide +kernel
theorem dX4_firstWithRoom_14 : decode cX4_firstWithRoom 14 = .ok (.iload_n 1, 1) := by decide +kernel
theorem dX4_firstWithRoom_15 : decode cX4_firstWithRoom 15 = .ok (.iadd, 1) := by decide +kernel
theorem dX4_firstWithRoom_16 : decode cX4_firstWithRoom 16 = .ok (.bipush 16, 2) := by decide +kernel
theorem dX4_firstWithRoom_18 : decode cX4_firstWithRoom 18 = .ok (.if_icmp .gt 5, 3) := by decide +kernel
theorem dX4_firstWithRoom_21 : decode cX4_firstWithRoom 21 = .ok (.iload_n 2, 1) := by decide +kernel
theorem dX4_firstWithRoom_22 : decode cX4_firstWithRoom 22 = .ok (.ireturn, 1) := by decide +kernel
theorem dX4_firstWithRoom_23 : decode cX4_firstWithRoom 23 = .ok (.iinc 2 1, 3) := by decide +kernel
theorem dX4_firstWithRoom_26 : decode cX4_firstWithRoom 26 = .ok (.goto (-24), 3) := by decide +kernel
theorem dX4_firstWithRoom_29 : decode cX4_firstWithRoom 29 = .ok (.iconst (-1), 1) := by decide +kernel
theorem dX4_firstWithRoom_30 : decode cX4_firstWithRoom 30 = .ok (.ireturn, 1) := by decide +kernel
theorem dX4_emptyBlocks_0 : decode cX4_emptyBlocks 0 = .ok (.iconst 0, 1) := by decide +kernel
theorem dX4_emptyBlocks_1 : decode cX4_emptyBlocks 1 = .ok (.istore_n 1, 1) := by decide +kernel
theorem dX4_emptyBlocks_2 : decode cX4_emptyBlocks 2 = .ok (.iconst 0, 1) := by decide +kernel
theorem dX4_emptyBlocks_3 : decode cX4_emptyBlocks 3 = .ok (.istore_n 2, 1) := by decide +kernel
theorem dX4_emptyBlocks_4 : decode cX4_emptyBlocks 4 = .ok (.iload_n 2, 1) := by decide +kernel
theorem dX4_emptyBlocks_5 : decode cX4_emptyBlocks 5 = .ok (.bipush 24, 2) := by decide +kernel
theorem dX4_emptyBlocks_7 : decode cX4_emptyBlocks 7 = .ok (.if_icmp .ge 26, 3) := by decide +kernel
theorem dX4_emptyBlocks_10 : decode cX4_emptyBlocks 10 = .ok (.iload_n 1, 1) := by decide +kernel
theorem dX4_emptyBlocks_11 : decode cX4_emptyBlocks 11 = .ok (.aload_n 0, 1) := by decide +kernel
theorem dX4_emptyBlocks_12 : decode cX4_emptyBlocks 12 = .ok (.getfield 25, 3) := by decide +kernel
theorem dX4_emptyBlocks_15 : decode cX4_emptyBlocks 15 = .ok (.iload_n 2, 1) := by decide +kernel
theorem dX4_emptyBlocks_16 : decode cX4_emptyBlocks 16 = .ok (.iaload, 1) := by decide +kernel
theorem dX4_emptyBlocks_17 : decode cX4_emptyBlocks 17 = .ok (.ifCond .ne 7, 3) := by decide +kernel
theorem dX4_emptyBlocks_20 : decode cX4_emptyBlocks 20 = .ok (.iconst 1, 1) := by decide +kernel
theorem dX4_emptyBlocks_21 : decode cX4_emptyBlocks 21 = .ok (.goto 4, 3) := by decide +kernel
theorem dX4_emptyBlocks_24 : decode cX4_emptyBlocks 24 = .ok (.iconst 0, 1) := by decide +kernel
theorem dX4_emptyBlocks_25 : decode cX4_emptyBlocks 25 = .ok (.iadd, 1) := by decide +kernel
theorem dX4_emptyBlocks_26 : decode cX4_emptyBlocks 26 = .ok (.istore_n 1, 1) := by decide +kernel
theorem dX4_emptyBlocks_27 : decode cX4_emptyBlocks 27 = .ok (.iinc 2 1, 3) := by decide +kernel
theorem dX4_emptyBlocks_30 : decode cX4_emptyBlocks 30 = .ok (.goto (-26), 3) := by decide +kernel
theorem dX4_emptyBlocks_33 : decode cX4_emptyBlocks 33 = .ok (.iload_n 1, 1) := by decide +kernel
theorem dX4_emptyBlocks_34 : decode cX4_emptyBlocks 34 = .ok (.ireturn, 1) := by decide +kernel
theorem dX4_carryOut_0 : decode cX4_carryOut 0 = .ok (.iconst 0, 1) := by decide +kernel
theorem dX4_carryOut_1 : decode cX4_carryOut 1 = .ok (.istore_n 2, 1) := by decide +kernel
theorem dX4_carryOut_2 : decode cX4_carryOut 2 = .ok (.iload_n 2, 1) := by decide +kernel
theorem dX4_carryOut_3 : decode cX4_carryOut 3 = .ok (.aload_n 0, 1) := by decide +kernel
theorem dX4_carryOut_4 : decode cX4_carryOut 4 = .ok (.getfield 12, 3) := by decide +kernel
theorem dX4_carryOut_7 : decode cX4_carryOut 7 = .ok (.getfield 38, 3) := by decide +kernel
theorem dX4_carryOut_10 : decode cX4_carryOut 10 = .ok (.if_icmp .ge 40, 3) := by decide +kernel
theorem dX4_carryOut_13 : decode cX4_carryOut 13 = .ok (.iload_n 2, 1) := by decide +kernel
theorem dX4_carryOut_14 : decode cX4_carryOut 14 = .ok (.bipush 10, 2) := by decide +kernel
theorem dX4_carryOut_16 : decode cX4_carryOut 16 = .ok (.if_icmp .ge 34, 3) := by decide +kernel
theorem dX4_carryOut_19 : decode cX4_carryOut 19 = .ok (.aload_n 1, 1) := by decide +kernel
theorem dX4_carryOut_20 : decode cX4_carryOut 20 = .ok (.aload_n 0, 1) := by decide +kernel
theorem dX4_carryOut_21 : decode cX4_carryOut 21 = .ok (.getfield 12, 3) := by decide +kernel
theorem dX4_carryOut_24 : decode cX4_carryOut 24 = .ok (.getfield 56, 3) := by decide +kernel
theorem dX4_carryOut_27 : decode cX4_carryOut 27 = .ok (.iload_n 2, 1) := by decide +kernel
theorem dX4_carryOut_28 : decode cX4_carryOut 28 = .ok (.iaload, 1) := by decide +kernel
theorem dX4_carryOut_29 : decode cX4_carryOut 29 = .ok (.aload_n 0, 1) := by decide +kernel
theorem dX4_carryOut_30 : decode cX4_carryOut 30 = .ok (.getfield 18, 3) := by decide +kernel
theorem dX4_carryOut_33 : decode cX4_carryOut 33 = .ok (.iload_n 2, 1) := by decide +kernel
theorem dX4_carryOut_34 : decode cX4_carryOut 34 = .ok (.iaload, 1) := by decide +kernel
theorem dX4_carryOut_35 : decode cX4_carryOut 35 = .ok (.aload_n 0, 1) := by decide +kernel
theorem dX4_carryOut_36 : decode cX4_carryOut 36 = .ok (.getfield 22, 3) := by decide +kernel
theorem dX4_carryOut_39 : decode cX4_carryOut 39 = .ok (.iload_n 2, 1) := by decide +kernel
theorem dX4_carryOut_40 : decode cX4_carryOut 40 = .ok (.iaload, 1) := by decide +kernel
theorem dX4_carryOut_41 : decode cX4_carryOut 41 = .ok (.invokevirtual 59, 3) := by decide +kernel
theorem dX4_carryOut_44 : decode cX4_carryOut 44 = .ok (.iinc 2 1, 3) := by decide +kernel
theorem dX4_carryOut_47 : decode cX4_carryOut 47 = .ok (.goto (-45), 3) := by decide +kernel
theorem dX4_carryOut_50 : decode cX4_carryOut 50 = .ok (.iconst 0, 1) := by decide +kernel
theorem dX4_carryOut_51 : decode cX4_carryOut 51 = .ok (.istore_n 2, 1) := by decide +kernel
theorem dX4_carryOut_52 : decode cX4_carryOut 52 = .ok (.iload_n 2, 1) := by decide +kernel
theorem dX4_carryOut_53 : decode cX4_carryOut 53 = .ok (.bipush 24, 2) := by decide +kernel
theorem dX4_carryOut_55 : decode cX4_carryOut 55 = .ok (.if_icmp .ge 15, 3) := by decide +kernel
theorem dX4_carryOut_58 : decode cX4_carryOut 58 = .ok (.aload_n 1, 1) := by decide +kernel
theorem dX4_carryOut_59 : decode cX4_carryOut 59 = .ok (.iload_n 2, 1) := by decide +kernel
theorem dX4_carryOut_60 : decode cX4_carryOut 60 = .ok (.invokevirtual 63, 3) := by decide +kernel
theorem dX4_carryOut_63 : decode cX4_carryOut 63 = .ok (.pop, 1) := by decide +kernel
theorem dX4_carryOut_64 : decode cX4_carryOut 64 = .ok (.iinc 2 1, 3) := by decide +kernel
theorem dX4_carryOut_67 : decode cX4_carryOut 67 = .ok (.goto (-15), 3) := by decide +kernel
theorem dX4_carryOut_70 : decode cX4_carryOut 70 = .ok (.aload_n 1, 1) := by decide +kernel
theorem dX4_carryOut_71 : decode cX4_carryOut 71 = .ok (.dup, 1) := by decide +kernel
theorem dX4_carryOut_72 : decode cX4_carryOut 72 = .ok (.getfield 66, 3) := by decide +kernel
theorem dX4_carryOut_75 : decode cX4_carryOut 75 = .ok (.iconst 1, 1) := by decide +kernel
theorem dX4_carryOut_76 : decode cX4_carryOut 76 = .ok (.iadd, 1) := by decide +kernel
theorem dX4_carryOut_77 : decode cX4_carryOut 77 = .ok (.putfield 66, 3) := by decide +kernel
