theorem dX5_init_0 : decode cX5_init 0 = .ok (.aload_n 0, 1) := by decide +kernel
theorem dX5_init_1 : decode cX5_init 1 = .ok (.invokespecial 3, 3) := by decide +kernel
theorem dX5_init_4 : decode cX5_init 4 = .ok (.aload_n 0, 1) := by decide +kernel
theorem dX5_init_5 : decode cX5_init 5 = .ok (.iconst 5, 1) := by decide +kernel
theorem dX5_init_6 : decode cX5_init 6 = .ok (.newarray .int, 2) := by decide +kernel
theorem dX5_init_8 : decode cX5_init 8 = .ok (.putfield 9, 3) := by decide +kernel
theorem dX5_init_11 : decode cX5_init 11 = .ok (.aload_n 0, 1) := by decide +kernel
theorem dX5_init_12 : decode cX5_init 12 = .ok (.iconst 5, 1) := by decide +kernel
theorem dX5_init_13 : decode cX5_init 13 = .ok (.newarray .int, 2) := by decide +kernel
theorem dX5_init_15 : decode cX5_init 15 = .ok (.putfield 15, 3) := by decide +kernel
theorem dX5_init_18 : decode cX5_init 18 = .ok (.aload_n 0, 1) := by decide +kernel
theorem dX5_init_19 : decode cX5_init 19 = .ok (.iconst 0, 1) := by decide +kernel
theorem dX5_init_20 : decode cX5_init 20 = .ok (.putfield 18, 3) := by decide +kernel
theorem dX5_init_23 : decode cX5_init 23 = .ok (.aload_n 0, 1) := by decide +kernel
theorem dX5_init_24 : decode cX5_init 24 = .ok (.aload_n 1, 1) := by decide +kernel
theorem dX5_init_25 : decode cX5_init 25 = .ok (.putfield 22, 3) := by decide +kernel
theorem dX5_init_28 : decode cX5_init 28 = .ok (.return_, 1) := by decide +kernel
theorem dX5_match_0 : decode cX5_match 0 = .ok (.aload_n 0, 1) := by decide +kernel
theorem dX5_match_1 : decode cX5_match 1 = .ok (.iconst (-1), 1) := by decide +kernel
theorem dX5_match_2 : decode cX5_match 2 = .ok (.putfield 18, 3) := by decide +kernel
theorem dX5_match_5 : decode cX5_match 5 = .ok (.aload_n 0, 1) := by decide +kernel
theorem dX5_match_6 : decode cX5_match 6 = .ok (.aload_n 1, 1) := by decide +kernel
theorem dX5_match_7 : decode cX5_match 7 = .ok (.iconst 1, 1) := by decide +kernel
theorem dX5_match_8 : decode cX5_match 8 = .ok (.iload_n 2, 1) := by decide +kernel
theorem dX5_match_9 : decode cX5_match 9 = .ok (.ishl, 1) := by decide +kernel
theorem dX5_match_10 : decode cX5_match 10 = .ok (.iconst 1, 1) := by decide +kernel
theorem dX5_match_11 : decode cX5_match 11 = .ok (.isub, 1) := by decide +kernel
theorem dX5_match_12 : decode cX5_match 12 = .ok (.iconst 0, 1) := by decide +kernel
theorem dX5_match_13 : decode cX5_match 13 = .ok (.iconst 0, 1) := by decide +kernel
theorem dX5_match_14 : decode cX5_match 14 = .ok (.invokevirtual 26, 3) := by decide +kernel
theorem dX5_match_17 : decode cX5_match 17 = .ok (.return_, 1) := by decide +kernel
theorem dX5_pairOff_0 : decode cX5_pairOff 0 = .ok (.iload_n 2, 1) := by decide +kernel
theorem dX5_pairOff_1 : decode cX5_pairOff 1 = .ok (.invokestatic 30, 3) := by decide +kernel
theorem dX5_pairOff_4 : decode cX5_pairOff 4 = .ok (.istore 5, 2) := by decide +kernel
theorem dX5_pairOff_6 : decode cX5_pairOff 6 = .ok (.iload_n 2, 1) := by decide +kernel
theorem dX5_pairOff_7 : decode cX5_pairOff 7 = .ok (.ifCond .eq 15, 3) := by decide +kernel
theorem dX5_pairOff_10 : decode cX5_pairOff 10 = .ok (.iload 5, 2) := by decide +kernel
theorem dX5_pairOff_12 : decode cX5_pairOff 12 = .ok (.iconst 5, 1) := by decide +kernel
theorem dX5_pairOff_13 : decode cX5_pairOff 13 = .ok (.if_icmp .ge 9, 3) := by decide +kernel
theorem dX5_pairOff_16 : decode cX5_pairOff 16 = .ok (.iload 4, 2) := by decide +kernel
theorem dX5_pairOff_18 : decode cX5_pairOff 18 = .ok (.iconst 5, 1) := by decide +kernel
theorem dX5_pairOff_19 : decode cX5_pairOff 19 = .ok (.if_icmp .le 9, 3) := by decide +kernel
theorem dX5_pairOff_22 : decode cX5_pairOff 22 = .ok (.aload_n 0, 1) := by decide +kernel
theorem dX5_pairOff_23 : decode cX5_pairOff 23 = .ok (.iload_n 3, 1) := by decide +kernel
theorem dX5_pairOff_24 : decode cX5_pairOff 24 = .ok (.invokevirtual 34, 3) := by decide +kernel
theorem dX5_pairOff_27 : decode cX5_pairOff 27 = .ok (.return_, 1) := by decide +kernel
theorem dX5_pairOff_28 : decode cX5_pairOff 28 = .ok (.iload_n 2, 1) := by decide +kernel
theorem dX5_pairOff_29 : decode cX5_pairOff 29 = .ok (.iconst 1, 1) := by decide +kernel
theorem dX5_pairOff_30 : decode cX5_pairOff 30 = .ok (.iload 5, 2) := by decide +kernel
theorem dX5_pairOff_32 : decode cX5_pairOff 32 = .ok (.ishl, 1) := by decide +kernel
theorem dX5_pairOff_33 : decode cX5_pairOff 33 = .ok (.iconst (-1), 1) := by decide +kernel
theorem dX5_pairOff_34 : decode cX5_pairOff 34 = .ok (.ixor, 1) := by decide +kernel
theorem dX5_pairOff_35 : decode cX5_pairOff 35 = .ok (.iand, 1) := by decide +kernel
theorem dX5_pairOff_36 : decode cX5_pairOff 36 = .ok (.istore 6, 2) := by decide +kernel
theorem dX5_pairOff_38 : decode cX5_pairOff 38 = .ok (.iload 5, 2) := by decide +kernel
theorem dX5_pairOff_40 : decode cX5_pairOff 40 = .ok (.iconst 1, 1) := by decide +kernel
theorem dX5_pairOff_41 : decode cX5_pairOff 41 = .ok (.iadd, 1) := by decide +kernel
theorem dX5_pairOff_42 : decode cX5_pairOff 42 = .ok (.istore 7, 2) := by decide +kernel
theorem dX5_pairOff_44 : decode cX5_pairOff 44 = .ok (.iload 7, 2) := by decide +kernel
theorem dX5_pairOff_46 : decode cX5_pairOff 46 = .ok (.iconst 5, 1) := by decide +kernel
theorem dX5_pairOff_47 : decode cX5_pairOff 47 = .ok (.if_icmp .ge 79, 3) := by decide +kernel
theorem dX5_pairOff_50 : decode cX5_pairOff 50 = .ok (.iload 6, 2) := by decide +kernel
theorem dX5_pairOff_52 : decode cX5_pairOff 52 = .ok (.iload 7, 2) := by decide +kernel
theorem dX5_pairOff_54 : decode cX5_pairOff 54 = .ok (.iushr, 1) := by decide +kernel
theorem dX5_pairOff_55 : decode cX5_pairOff 55 = .ok (.iconst 1, 1) := by decide +kernel
theorem dX5_pairOff_56 : decode cX5_pairOff 56 = .ok (.iand, 1) := by decide +kernel
theorem dX5_pairOff_57 : decode cX5_pairOff 57 = .ok (.ifCond .eq 63, 3) := by decide +kernel
theorem dX5_pairOff_60 : decode cX5_pairOff 60 = .ok (.aload_n 0, 1) := by decide +kernel
theorem dX5_pairOff_61 : decode cX5_pairOff 61 = .ok (.getfield 9, 3) := by decide +kernel
theorem dX5_pairOff_64 : decode cX5_pairOff 64 = .ok (.iload 5, 2) := by decide +kernel
theorem dX5_pairOff_66 : decode cX5_pairOff 66 = .ok (.iload 7, 2) := by decide +kernel
theorem dX5_pairOff_68 : decode cX5_pairOff 68 = .ok (.iastore, 1) := by decide +kernel
theorem dX5_pairOff_69 : decode cX5_pairOff 69 = .ok (.aload_n 0, 1) := by decide +kernel
theorem dX5_pairOff_70 : decode cX5_pairOff 70 = .ok (.getfield 9, 3) := by decide +kernel
theorem dX5_pairOff_73 : decode cX5_pairOff 73 = .ok (.iload 7, 2) := by decide +kernel
theorem dX5_pairOff_75 : decode cX5_pairOff 75 = .ok (.iload 5, 2) := by decide +kernel
theorem dX5_pairOff_77 : decode cX5_pairOff 77 = .ok (.iastore, 1) := by decide +kernel
theorem dX5_pairOff_78 : decode cX5_pairOff 78 = .ok (.aload_n 0, 1) := by decide +kernel
theorem dX5_pairOff_79 : decode cX5_pairOff 79 = .ok (.aload_n 1, 1) := by decide +kernel
theorem dX5_pairOff_80 : decode cX5_pairOff 80 = .ok (.getfield 38, 3) := by decide +kernel
theorem dX5_pairOff_83 : decode cX5_pairOff 83 = .ok (.iload 5, 2) := by decide +kernel
theorem dX5_pairOff_85 : decode cX5_pairOff 85 = .ok (.iaload, 1) := by decide +kernel
theorem dX5_pairOff_86 : decode cX5_pairOff 86 = .ok (.aload_n 1, 1) := by decide +kernel
theorem dX5_pairOff_87 : decode cX5_pairOff 87 = .ok (.getfield 38, 3) := by decide +kernel
theorem dX5_pairOff_90 : decode cX5_pairOff 90 = .ok (.iload 7, 2) := by decide +kernel
theorem dX5_pairOff_92 : decode cX5_pairOff 92 = .ok (.iaload, 1) := by decide +kernel
theorem dX5_pairOff_93 : decode cX5_pairOff 93 = .ok (.invokevirtual 43, 3) := by decide +kernel
theorem dX5_pairOff_96 : decode cX5_pairOff 96 = .ok (.istore 8, 2) := by decide +kernel
theorem dX5_pairOff_98 : decode cX5_pairOff 98 = .ok (.aload_n 0, 1) := by decide +kernel
theorem dX5_pairOff_99 : decode cX5_pairOff 99 = .ok (.aload_n 1, 1) := by decide +kernel
theorem dX5_pairOff_100 : decode cX5_pairOff 100 = .ok (.iload 6, 2) := by decide +kernel
theorem dX5_pairOff_102 : decode cX5_pairOff 102 = .ok (.iconst 1, 1) := by decide +kernel
theorem dX5_pairOff_103 : decode cX5_pairOff 103 = .ok (.iload 7, 2) := by decide +kernel
theorem dX5_pairOff_105 : decode cX5_pairOff 105 = .ok (.ishl, 1) := by decide +kernel
theorem dX5_pairOff_106 : decode cX5_pairOff 106 = .ok (.iconst (-1), 1) := by decide +kernel
theorem dX5_pairOff_107 : decode cX5_pairOff 107 = .ok (.ixor, 1) := by decide +kernel
theorem dX5_pairOff_108 : decode cX5_pairOff 108 = .ok (.iand, 1) := by decide +kernel
theorem dX5_pairOff_109 : decode cX5_pairOff 109 = .ok (.iload_n 3, 1) := by decide +kernel
theorem dX5_pairOff_110 : decode cX5_pairOff 110 = .ok (.iload 8, 2) := by decide +kernel
theorem dX5_pairOff_112 : decode cX5_pairOff 112 = .ok (.iadd, 1) := by decide +kernel
theorem dX5_pairOff_113 : decode cX5_pairOff 113 = .ok (.iload 4, 2) := by decide +kernel
theorem dX5_pairOff_115 : decode cX5_pairOff 115 = .ok (.iconst 1, 1) := by decide +kernel
theorem dX5_pairOff_116 : decode cX5_pairOff 116 = .ok (.iadd, 1) := by decide +kernel
theorem dX5_pairOff_117 : decode cX5_pairOff 117 = .ok (.invokevirtual 26, 3) := by decide +kernel
theorem dX5_pairOff_120 : decode cX5_pairOff 120 = .ok (.iinc 7 1, 3) := by decide +kernel
theorem dX5_pairOff_123 : decode cX5_pairOff 123 = .ok (.goto (-79), 3) := by decide +kernel
theorem dX5_pairOff_126 : decode cX5_pairOff 126 = .ok (.iload_n 2, 1) := by decide +kernel
theorem dX5_pairOff_127 : decode cX5_pairOff 127 = .ok (.invokestatic 47, 3) := by decide +kernel
theorem dX5_pairOff_130 : decode cX5_pairOff 130 = .ok (.iconst 1, 1) := by decide +kernel
theorem dX5_pairOff_131 : decode cX5_pairOff 131 = .ok (.iand, 1) := by decide +kernel
theorem dX5_pairOff_132 : decode cX5_pairOff 132 = .ok (.ifCond .eq 24, 3) := by decide +kernel
theorem dX5_pairOff_135 : decode cX5_pairOff 135 = .ok (.aload_n 0, 1) := by decide +kernel
theorem dX5_pairOff_136 : decode cX5_pairOff 136 = .ok (.getfield 9, 3) := by decide +kernel
theorem dX5_pairOff_139 : decode cX5_pairOff 139 = .ok (.iload 5, 2) := by decide +kernel
theorem dX5_pairOff_141 : decode cX5_pairOff 141 = .ok (.bipush (-2), 2) := by decide +kernel
theorem dX5_pairOff_143 : decode cX5_pairOff 143 = .ok (.iastore, 1) := by decide +kernel
theorem dX5_pairOff_144 : decode cX5_pairOff 144 = .ok (.aload_n 0, 1) := by decide +kernel
theorem dX5_pairOff_145 : decode cX5_pairOff 145 = .ok (.aload_n 1, 1) := by decide +kernel
theorem dX5_pairOff_146 : decode cX5_pairOff 146 = .ok (.iload 6, 2) := by decide +kernel
theorem dX5_pairOff_148 : decode cX5_pairOff 148 = .ok (.iload_n 3, 1) := by decide +kernel
theorem dX5_pairOff_149 : decode cX5_pairOff 149 = .ok (.iload 4, 2) := by decide +kernel
theorem dX5_pairOff_151 : decode cX5_pairOff 151 = .ok (.iconst 1, 1) := by decide +kernel
theorem dX5_pairOff_152 : decode cX5_pairOff 152 = .ok (.iadd, 1) := by decide +kernel
theorem dX5_pairOff_153 : decode cX5_pairOff 153 = .ok (.invokevirtual 26, 3) := by decide +kernel
theorem dX5_pairOff_156 : decode cX5_pairOff 156 = .ok (.return_, 1) := by decide +kernel
theorem dX5_keepIfLess_0 : decode cX5_keepIfLess 0 = .ok (.aload_n 0, 1) := by decide +kernel
theorem dX5_keepIfLess_1 : decode cX5_keepIfLess 1 = .ok (.getfield 18, 3) := by decide +kernel
theorem dX5_keepIfLess_4 : decode cX5_keepIfLess 4 = .ok (.iconst (-1), 1) := by decide +kernel
theorem dX5_keepIfLess_5 : decode cX5_keepIfLess 5 = .ok (.if_icmp .eq 11, 3) := by decide +kernel
theorem dX5_keepIfLess_8 : decode cX5_keepIfLess 8 = .ok (.iload_n 1, 1) := by decide +kernel
theorem dX5_keepIfLess_9 : decode cX5_keepIfLess 9 = .ok (.aload_n 0, 1) := by decide +kernel
theorem dX5_keepIfLess_10 : decode cX5_keepIfLess 10 = .ok (.getfield 18, 3) := by decide +kernel
theorem dX5_keepIfLess_13 : decode cX5_keepIfLess 13 = .ok (.if_icmp .ge 22, 3) := by decide +kernel
theorem dX5_keepIfLess_16 : decode cX5_keepIfLess 16 = .ok (.aload_n 0, 1) := by decide +kernel
theorem dX5_keepIfLess_17 : decode cX5_keepIfLess 17 = .ok (.iload_n 1, 1) := by decide +kernel
theorem dX5_keepIfLess_18 : decode cX5_keepIfLess 18 = .ok (.putfield 18, 3) := by decide +kernel
theorem dX5_keepIfLess_21 : decode cX5_keepIfLess 21 = .ok (.aload_n 0, 1) := by decide +kernel
theorem dX5_keepIfLess_22 : decode cX5_keepIfLess 22 = .ok (.getfield 9, 3) := by decide +kernel
theorem dX5_keepIfLess_25 : decode cX5_keepIfLess 25 = .ok (.iconst 0, 1) := by decide +kernel
theorem dX5_keepIfLess_26 : decode cX5_keepIfLess 26 = .ok (.aload_n 0, 1) := by decide +kernel
theorem dX5_keepIfLess_27 : decode cX5_keepIfLess 27 = .ok (.getfield 15, 3) := by decide +kernel
theorem dX5_keepIfLess_30 : decode cX5_keepIfLess 30 = .ok (.iconst 0, 1) := by decide +kernel
theorem dX5_keepIfLess_31 : decode cX5_keepIfLess 31 = .ok (.iconst 5, 1) := by decide +kernel
theorem dX5_keepIfLess_32 : decode cX5_keepIfLess 32 = .ok (.invokestatic 52, 3) := by decide +kernel
theorem dX5_keepIfLess_35 : decode cX5_keepIfLess 35 = .ok (.return_, 1) := by decide +kernel
theorem dX5_distance_0 : decode cX5_distance 0 = .ok (.aload_n 0, 1) := by decide +kernel
theorem dX5_distance_1 : decode cX5_distance 1 = .ok (.getfield 22, 3) := by decide +kernel
theorem dX5_distance_4 : decode cX5_distance 4 = .ok (.iload_n 1, 1) := by decide +kernel
theorem dX5_distance_5 : decode cX5_distance 5 = .ok (.invokevirtual 58, 3) := by decide +kernel
theorem dX5_distance_8 : decode cX5_distance 8 = .ok (.aload_n 0, 1) := by decide +kernel
theorem dX5_distance_9 : decode cX5_distance 9 = .ok (.getfield 22, 3) := by decide +kernel
theorem dX5_distance_12 : decode cX5_distance 12 = .ok (.iload_n 2, 1) := by decide +kernel
theorem dX5_distance_13 : decode cX5_distance 13 = .ok (.invokevirtual 58, 3) := by decide +kernel
theorem dX5_distance_16 : decode cX5_distance 16 = .ok (.isub, 1) := by decide +kernel
theorem dX5_distance_17 : decode cX5_distance 17 = .ok (.invokestatic 63, 3) := by decide +kernel
theorem dX5_distance_20 : decode cX5_distance 20 = .ok (.aload_n 0, 1) := by decide +kernel
theorem dX5_distance_21 : decode cX5_distance 21 = .ok (.getfield 22, 3) := by decide +kernel
theorem dX5_distance_24 : decode cX5_distance 24 = .ok (.iload_n 1, 1) := by decide +kernel
theorem dX5_distance_25 : decode cX5_distance 25 = .ok (.invokevirtual 68, 3) := by decide +kernel
theorem dX5_distance_28 : decode cX5_distance 28 = .ok (.aload_n 0, 1) := by decide +kernel
theorem dX5_distance_29 : decode cX5_distance 29 = .ok (.getfield 22, 3) := by decide +kernel
theorem dX5_distance_32 : decode cX5_distance 32 = .ok (.iload_n 2, 1) := by decide +kernel
theorem dX5_distance_33 : decode cX5_distance 33 = .ok (.invokevirtual 68, 3) := by decide +kernel
theorem dX5_distance_36 : decode cX5_distance 36 = .ok (.isub, 1) := by decide +kernel
theorem dX5_distance_37 : decode cX5_distance 37 = .ok (.invokestatic 63, 3) := by decide +kernel
theorem dX5_distance_40 : decode cX5_distance 40 = .ok (.iadd, 1) := by decide +kernel
theorem dX5_distance_41 : decode cX5_distance 41 = .ok (.ireturn, 1) := by decide +kernel
