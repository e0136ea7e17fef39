theorem dX4_init_0 : decode cX4_init 0 = .ok (.aload_n 0, 1) := by decide +kernel
theorem dX4_init_1 : decode cX4_init 1 = .ok (.invokespecial 3, 3) := by decide +kernel
theorem dX4_init_4 : decode cX4_init 4 = .ok (.aload_n 0, 1) := by decide +kernel
theorem dX4_init_5 : decode cX4_init 5 = .ok (.sipush 404, 3) := by decide +kernel
theorem dX4_init_8 : decode cX4_init 8 = .ok (.newarray .int, 2) := by decide +kernel
theorem dX4_init_10 : decode cX4_init 10 = .ok (.putfield 11, 3) := by decide +kernel
theorem dX4_init_13 : decode cX4_init 13 = .ok (.aload_n 0, 1) := by decide +kernel
theorem dX4_init_14 : decode cX4_init 14 = .ok (.iconst 4, 1) := by decide +kernel
theorem dX4_init_15 : decode cX4_init 15 = .ok (.newarray .int, 2) := by decide +kernel
theorem dX4_init_17 : decode cX4_init 17 = .ok (.putfield 15, 3) := by decide +kernel
theorem dX4_init_20 : decode cX4_init 20 = .ok (.aload_n 0, 1) := by decide +kernel
theorem dX4_init_21 : decode cX4_init 21 = .ok (.bipush 16, 2) := by decide +kernel
theorem dX4_init_23 : decode cX4_init 23 = .ok (.newarray .int, 2) := by decide +kernel
theorem dX4_init_25 : decode cX4_init 25 = .ok (.putfield 18, 3) := by decide +kernel
theorem dX4_init_28 : decode cX4_init 28 = .ok (.aload_n 0, 1) := by decide +kernel
theorem dX4_init_29 : decode cX4_init 29 = .ok (.iconst 0, 1) := by decide +kernel
theorem dX4_init_30 : decode cX4_init 30 = .ok (.putfield 21, 3) := by decide +kernel
theorem dX4_init_33 : decode cX4_init 33 = .ok (.return_, 1) := by decide +kernel
theorem dX4_clear_0 : decode cX4_clear 0 = .ok (.aload_n 0, 1) := by decide +kernel
theorem dX4_clear_1 : decode cX4_clear 1 = .ok (.iconst 0, 1) := by decide +kernel
theorem dX4_clear_2 : decode cX4_clear 2 = .ok (.putfield 21, 3) := by decide +kernel
theorem dX4_clear_5 : decode cX4_clear 5 = .ok (.aload_n 0, 1) := by decide +kernel
theorem dX4_clear_6 : decode cX4_clear 6 = .ok (.iconst 0, 1) := by decide +kernel
theorem dX4_clear_7 : decode cX4_clear 7 = .ok (.invokevirtual 25, 3) := by decide +kernel
theorem dX4_clear_10 : decode cX4_clear 10 = .ok (.aload_n 0, 1) := by decide +kernel
theorem dX4_clear_11 : decode cX4_clear 11 = .ok (.iconst 2, 1) := by decide +kernel
theorem dX4_clear_12 : decode cX4_clear 12 = .ok (.invokevirtual 25, 3) := by decide +kernel
theorem dX4_clear_15 : decode cX4_clear 15 = .ok (.aload_n 0, 1) := by decide +kernel
theorem dX4_clear_16 : decode cX4_clear 16 = .ok (.iconst 0, 1) := by decide +kernel
theorem dX4_clear_17 : decode cX4_clear 17 = .ok (.invokevirtual 29, 3) := by decide +kernel
theorem dX4_clear_20 : decode cX4_clear 20 = .ok (.aload_n 0, 1) := by decide +kernel
theorem dX4_clear_21 : decode cX4_clear 21 = .ok (.bipush (-15), 2) := by decide +kernel
theorem dX4_clear_23 : decode cX4_clear 23 = .ok (.invokevirtual 29, 3) := by decide +kernel
theorem dX4_clear_26 : decode cX4_clear 26 = .ok (.aload_n 0, 1) := by decide +kernel
theorem dX4_clear_27 : decode cX4_clear 27 = .ok (.iconst 1, 1) := by decide +kernel
theorem dX4_clear_28 : decode cX4_clear 28 = .ok (.invokevirtual 25, 3) := by decide +kernel
theorem dX4_clear_31 : decode cX4_clear 31 = .ok (.aload_n 0, 1) := by decide +kernel
theorem dX4_clear_32 : decode cX4_clear 32 = .ok (.iconst 3, 1) := by decide +kernel
theorem dX4_clear_33 : decode cX4_clear 33 = .ok (.invokevirtual 25, 3) := by decide +kernel
theorem dX4_clear_36 : decode cX4_clear 36 = .ok (.aload_n 0, 1) := by decide +kernel
theorem dX4_clear_37 : decode cX4_clear 37 = .ok (.iconst 1, 1) := by decide +kernel
theorem dX4_clear_38 : decode cX4_clear 38 = .ok (.invokevirtual 29, 3) := by decide +kernel
theorem dX4_clear_41 : decode cX4_clear 41 = .ok (.aload_n 0, 1) := by decide +kernel
theorem dX4_clear_42 : decode cX4_clear 42 = .ok (.bipush (-15), 2) := by decide +kernel
theorem dX4_clear_44 : decode cX4_clear 44 = .ok (.invokevirtual 29, 3) := by decide +kernel
theorem dX4_clear_47 : decode cX4_clear 47 = .ok (.return_, 1) := by decide +kernel
theorem dX4_become_0 : decode cX4_become 0 = .ok (.aload_n 0, 1) := by decide +kernel
theorem dX4_become_1 : decode cX4_become 1 = .ok (.aload_n 1, 1) := by decide +kernel
theorem dX4_become_2 : decode cX4_become 2 = .ok (.getfield 21, 3) := by decide +kernel
theorem dX4_become_5 : decode cX4_become 5 = .ok (.putfield 21, 3) := by decide +kernel
theorem dX4_become_8 : decode cX4_become 8 = .ok (.aload_n 1, 1) := by decide +kernel
theorem dX4_become_9 : decode cX4_become 9 = .ok (.getfield 11, 3) := by decide +kernel
theorem dX4_become_12 : decode cX4_become 12 = .ok (.iconst 0, 1) := by decide +kernel
theorem dX4_become_13 : decode cX4_become 13 = .ok (.aload_n 0, 1) := by decide +kernel
theorem dX4_become_14 : decode cX4_become 14 = .ok (.getfield 11, 3) := by decide +kernel
theorem dX4_become_17 : decode cX4_become 17 = .ok (.iconst 0, 1) := by decide +kernel
theorem dX4_become_18 : decode cX4_become 18 = .ok (.sipush 404, 3) := by decide +kernel
theorem dX4_become_21 : decode cX4_become 21 = .ok (.invokestatic 32, 3) := by decide +kernel
theorem dX4_become_24 : decode cX4_become 24 = .ok (.aload_n 1, 1) := by decide +kernel
theorem dX4_become_25 : decode cX4_become 25 = .ok (.getfield 15, 3) := by decide +kernel
theorem dX4_become_28 : decode cX4_become 28 = .ok (.iconst 0, 1) := by decide +kernel
theorem dX4_become_29 : decode cX4_become 29 = .ok (.aload_n 0, 1) := by decide +kernel
theorem dX4_become_30 : decode cX4_become 30 = .ok (.getfield 15, 3) := by decide +kernel
theorem dX4_become_33 : decode cX4_become 33 = .ok (.iconst 0, 1) := by decide +kernel
theorem dX4_become_34 : decode cX4_become 34 = .ok (.iconst 4, 1) := by decide +kernel
theorem dX4_become_35 : decode cX4_become 35 = .ok (.invokestatic 32, 3) := by decide +kernel
theorem dX4_become_38 : decode cX4_become 38 = .ok (.return_, 1) := by decide +kernel
theorem dX4_begin_0 : decode cX4_begin 0 = .ok (.iload_n 1, 1) := by decide +kernel
theorem dX4_begin_1 : decode cX4_begin 1 = .ok (.ifCond .lt 18, 3) := by decide +kernel
theorem dX4_begin_4 : decode cX4_begin 4 = .ok (.iload_n 1, 1) := by decide +kernel
theorem dX4_begin_5 : decode cX4_begin 5 = .ok (.iconst 4, 1) := by decide +kernel
theorem dX4_begin_6 : decode cX4_begin 6 = .ok (.if_icmp .ge 13, 3) := by decide +kernel
theorem dX4_begin_9 : decode cX4_begin 9 = .ok (.aload_n 0, 1) := by decide +kernel
theorem dX4_begin_10 : decode cX4_begin 10 = .ok (.getfield 15, 3) := by decide +kernel
theorem dX4_begin_13 : decode cX4_begin 13 = .ok (.iload_n 1, 1) := by decide +kernel
theorem dX4_begin_14 : decode cX4_begin 14 = .ok (.aload_n 0, 1) := by decide +kernel
theorem dX4_begin_15 : decode cX4_begin 15 = .ok (.getfield 21, 3) := by decide +kernel
theorem dX4_begin_18 : decode cX4_begin 18 = .ok (.iastore, 1) := by decide +kernel
theorem dX4_begin_19 : decode cX4_begin 19 = .ok (.return_, 1) := by decide +kernel
theorem dX4_add_0 : decode cX4_add 0 = .ok (.aload_n 0, 1) := by decide +kernel
theorem dX4_add_1 : decode cX4_add 1 = .ok (.getfield 21, 3) := by decide +kernel
theorem dX4_add_4 : decode cX4_add 4 = .ok (.sipush 404, 3) := by decide +kernel
theorem dX4_add_7 : decode cX4_add 7 = .ok (.if_icmp .ge 23, 3) := by decide +kernel
theorem dX4_add_10 : decode cX4_add 10 = .ok (.aload_n 0, 1) := by decide +kernel
theorem dX4_add_11 : decode cX4_add 11 = .ok (.getfield 11, 3) := by decide +kernel
theorem dX4_add_14 : decode cX4_add 14 = .ok (.aload_n 0, 1) := by decide +kernel
theorem dX4_add_15 : decode cX4_add 15 = .ok (.getfield 21, 3) := by decide +kernel
theorem dX4_add_18 : decode cX4_add 18 = .ok (.iload_n 1, 1) := by decide +kernel
theorem dX4_add_19 : decode cX4_add 19 = .ok (.iastore, 1) := by decide +kernel
theorem dX4_add_20 : decode cX4_add 20 = .ok (.aload_n 0, 1) := by decide +kernel
theorem dX4_add_21 : decode cX4_add 21 = .ok (.dup, 1) := by decide +kernel
theorem dX4_add_22 : decode cX4_add 22 = .ok (.getfield 21, 3) := by decide +kernel
theorem dX4_add_25 : decode cX4_add 25 = .ok (.iconst 1, 1) := by decide +kernel
theorem dX4_add_26 : decode cX4_add 26 = .ok (.iadd, 1) := by decide +kernel
theorem dX4_add_27 : decode cX4_add 27 = .ok (.putfield 21, 3) := by decide +kernel
theorem dX4_add_30 : decode cX4_add 30 = .ok (.return_, 1) := by decide +kernel
theorem dX4_addLess_0 : decode cX4_addLess 0 = .ok (.aload_n 0, 1) := by decide +kernel
theorem dX4_addLess_1 : decode cX4_addLess 1 = .ok (.bipush (-14), 2) := by decide +kernel
theorem dX4_addLess_3 : decode cX4_addLess 3 = .ok (.invokevirtual 29, 3) := by decide +kernel
theorem dX4_addLess_6 : decode cX4_addLess 6 = .ok (.aload_n 0, 1) := by decide +kernel
theorem dX4_addLess_7 : decode cX4_addLess 7 = .ok (.iconst 0, 1) := by decide +kernel
theorem dX4_addLess_8 : decode cX4_addLess 8 = .ok (.invokevirtual 29, 3) := by decide +kernel
theorem dX4_addLess_11 : decode cX4_addLess 11 = .ok (.aload_n 0, 1) := by decide +kernel
theorem dX4_addLess_12 : decode cX4_addLess 12 = .ok (.getfield 21, 3) := by decide +kernel
theorem dX4_addLess_15 : decode cX4_addLess 15 = .ok (.iconst 1, 1) := by decide +kernel
theorem dX4_addLess_16 : decode cX4_addLess 16 = .ok (.isub, 1) := by decide +kernel
theorem dX4_addLess_17 : decode cX4_addLess 17 = .ok (.ireturn, 1) := by decide +kernel
theorem dX4_elseHere_0 : decode cX4_elseHere 0 = .ok (.iload_n 1, 1) := by decide +kernel
theorem dX4_elseHere_1 : decode cX4_elseHere 1 = .ok (.ifCond .lt 20, 3) := by decide +kernel
theorem dX4_elseHere_4 : decode cX4_elseHere 4 = .ok (.iload_n 1, 1) := by decide +kernel
theorem dX4_elseHere_5 : decode cX4_elseHere 5 = .ok (.sipush 404, 3) := by decide +kernel
theorem dX4_elseHere_8 : decode cX4_elseHere 8 = .ok (.if_icmp .ge 13, 3) := by decide +kernel
theorem dX4_elseHere_11 : decode cX4_elseHere 11 = .ok (.aload_n 0, 1) := by decide +kernel
theorem dX4_elseHere_12 : decode cX4_elseHere 12 = .ok (.getfield 11, 3) := by decide +kernel
theorem dX4_elseHere_15 : decode cX4_elseHere 15 = .ok (.iload_n 1, 1) := by decide +kernel
theorem dX4_elseHere_16 : decode cX4_elseHere 16 = .ok (.aload_n 0, 1) := by decide +kernel
theorem dX4_elseHere_17 : decode cX4_elseHere 17 = .ok (.getfield 21, 3) := by decide +kernel
theorem dX4_elseHere_20 : decode cX4_elseHere 20 = .ok (.iastore, 1) := by decide +kernel
theorem dX4_elseHere_21 : decode cX4_elseHere 21 = .ok (.return_, 1) := by decide +kernel
theorem dX4_value_0 : decode cX4_value 0 = .ok (.iconst 0, 1) := by decide +kernel
theorem dX4_value_1 : decode cX4_value 1 = .ok (.istore_n 3, 1) := by decide +kernel
theorem dX4_value_2 : decode cX4_value 2 = .ok (.iload_n 1, 1) := by decide +kernel
theorem dX4_value_3 : decode cX4_value 3 = .ok (.ifCond .lt 17, 3) := by decide +kernel
theorem dX4_value_6 : decode cX4_value 6 = .ok (.iload_n 1, 1) := by decide +kernel
theorem dX4_value_7 : decode cX4_value 7 = .ok (.iconst 4, 1) := by decide +kernel
theorem dX4_value_8 : decode cX4_value 8 = .ok (.if_icmp .ge 12, 3) := by decide +kernel
theorem dX4_value_11 : decode cX4_value 11 = .ok (.aload_n 0, 1) := by decide +kernel
theorem dX4_value_12 : decode cX4_value 12 = .ok (.getfield 15, 3) := by decide +kernel
theorem dX4_value_15 : decode cX4_value 15 = .ok (.iload_n 1, 1) := by decide +kernel
theorem dX4_value_16 : decode cX4_value 16 = .ok (.iaload, 1) := by decide +kernel
theorem dX4_value_17 : decode cX4_value 17 = .ok (.goto 7, 3) := by decide +kernel
theorem dX4_value_20 : decode cX4_value 20 = .ok (.aload_n 0, 1) := by decide +kernel
theorem dX4_value_21 : decode cX4_value 21 = .ok (.getfield 21, 3) := by decide +kernel
theorem dX4_value_24 : decode cX4_value 24 = .ok (.istore 4, 2) := by decide +kernel
theorem dX4_value_26 : decode cX4_value 26 = .ok (.iconst 0, 1) := by decide +kernel
theorem dX4_value_27 : decode cX4_value 27 = .ok (.istore 5, 2) := by decide +kernel
theorem dX4_value_29 : decode cX4_value 29 = .ok (.iload 5, 2) := by decide +kernel
theorem dX4_value_31 : decode cX4_value 31 = .ok (.sipush 404, 3) := by decide +kernel
theorem dX4_value_34 : decode cX4_value 34 = .ok (.if_icmp .ge 204, 3) := by decide +kernel
theorem dX4_value_37 : decode cX4_value 37 = .ok (.iload 4, 2) := by decide +kernel
theorem dX4_value_39 : decode cX4_value 39 = .ok (.ifCond .lt 199, 3) := by decide +kernel
theorem dX4_value_42 : decode cX4_value 42 = .ok (.iload 4, 2) := by decide +kernel
theorem dX4_value_44 : decode cX4_value 44 = .ok (.aload_n 0, 1) := by decide +kernel
theorem dX4_value_45 : decode cX4_value 45 = .ok (.getfield 21, 3) := by decide +kernel
theorem dX4_value_48 : decode cX4_value 48 = .ok (.if_icmp .ge 190, 3) := by decide +kernel
theorem dX4_value_51 : decode cX4_value 51 = .ok (.aload_n 0, 1) := by decide +kernel
theorem dX4_value_52 : decode cX4_value 52 = .ok (.getfield 11, 3) := by decide +kernel
theorem dX4_value_55 : decode cX4_value 55 = .ok (.iload 4, 2) := by decide +kernel
theorem dX4_value_57 : decode cX4_value 57 = .ok (.iaload, 1) := by decide +kernel
theorem dX4_value_58 : decode cX4_value 58 = .ok (.istore 6, 2) := by decide +kernel
theorem dX4_value_60 : decode cX4_value 60 = .ok (.iinc 4 1, 3) := by decide +kernel
theorem dX4_value_63 : decode cX4_value 63 = .ok (.iload 6, 2) := by decide +kernel
theorem dX4_value_65 : decode cX4_value 65 = .ok (.bipush (-9), 2) := by decide +kernel
theorem dX4_value_67 : decode cX4_value 67 = .ok (.if_icmp .lt 48, 3) := by decide +kernel
theorem dX4_value_70 : decode cX4_value 70 = .ok (.iload_n 3, 1) := by decide +kernel
theorem dX4_value_71 : decode cX4_value 71 = .ok (.bipush 16, 2) := by decide +kernel
theorem dX4_value_73 : decode cX4_value 73 = .ok (.if_icmp .ge 12, 3) := by decide +kernel
theorem dX4_value_76 : decode cX4_value 76 = .ok (.iconst (-1), 1) := by decide +kernel
theorem dX4_value_77 : decode cX4_value 77 = .ok (.iload 6, 2) := by decide +kernel
theorem dX4_value_79 : decode cX4_value 79 = .ok (.isub, 1) := by decide +kernel
theorem dX4_value_80 : decode cX4_value 80 = .ok (.aload_n 2, 1) := by decide +kernel
theorem dX4_value_81 : decode cX4_value 81 = .ok (.arraylength, 1) := by decide +kernel
theorem dX4_value_82 : decode cX4_value 82 = .ok (.if_icmp .lt 5, 3) := by decide +kernel
theorem dX4_value_85 : decode cX4_value 85 = .ok (.iconst 0, 1) := by decide +kernel
theorem dX4_value_86 : decode cX4_value 86 = .ok (.ireturn, 1) := by decide +kernel
theorem dX4_value_87 : decode cX4_value 87 = .ok (.aload_n 0, 1) := by decide +kernel
theorem dX4_value_88 : decode cX4_value 88 = .ok (.getfield 18, 3) := by decide +kernel
theorem dX4_value_91 : decode cX4_value 91 = .ok (.iload_n 3, 1) := by decide +kernel
theorem dX4_value_92 : decode cX4_value 92 = .ok (.iload 6, 2) := by decide +kernel
theorem dX4_value_94 : decode cX4_value 94 = .ok (.ifCond .lt 8, 3) := by decide +kernel
theorem dX4_value_97 : decode cX4_value 97 = .ok (.iload 6, 2) := by decide +kernel
theorem dX4_value_99 : decode cX4_value 99 = .ok (.goto 9, 3) := by decide +kernel
theorem dX4_value_102 : decode cX4_value 102 = .ok (.aload_n 2, 1) := by decide +kernel
theorem dX4_value_103 : decode cX4_value 103 = .ok (.iconst (-1), 1) := by decide +kernel
theorem dX4_value_104 : decode cX4_value 104 = .ok (.iload 6, 2) := by decide +kernel
theorem dX4_value_106 : decode cX4_value 106 = .ok (.isub, 1) := by decide +kernel
theorem dX4_value_107 : decode cX4_value 107 = .ok (.iaload, 1) := by decide +kernel
theorem dX4_value_108 : decode cX4_value 108 = .ok (.iastore, 1) := by decide +kernel
theorem dX4_value_109 : decode cX4_value 109 = .ok (.iinc 3 1, 3) := by decide +kernel
theorem dX4_value_112 : decode cX4_value 112 = .ok (.goto 120, 3) := by decide +kernel
theorem dX4_value_115 : decode cX4_value 115 = .ok (.iload 6, 2) := by decide +kernel
theorem dX4_value_117 : decode cX4_value 117 = .ok (.bipush (-15), 2) := by decide +kernel
theorem dX4_value_119 : decode cX4_value 119 = .ok (.if_icmp .ne 19, 3) := by decide +kernel
theorem dX4_value_122 : decode cX4_value 122 = .ok (.iload_n 3, 1) := by decide +kernel
theorem dX4_value_123 : decode cX4_value 123 = .ok (.iconst 1, 1) := by decide +kernel
theorem dX4_value_124 : decode cX4_value 124 = .ok (.if_icmp .ne 12, 3) := by decide +kernel
theorem dX4_value_127 : decode cX4_value 127 = .ok (.aload_n 0, 1) := by decide +kernel
theorem dX4_value_128 : decode cX4_value 128 = .ok (.getfield 18, 3) := by decide +kernel
theorem dX4_value_131 : decode cX4_value 131 = .ok (.iconst 0, 1) := by decide +kernel
theorem dX4_value_132 : decode cX4_value 132 = .ok (.iaload, 1) := by decide +kernel
theorem dX4_value_133 : decode cX4_value 133 = .ok (.goto 4, 3) := by decide +kernel
theorem dX4_value_136 : decode cX4_value 136 = .ok (.iconst 0, 1) := by decide +kernel
theorem dX4_value_137 : decode cX4_value 137 = .ok (.ireturn, 1) := by decide +kernel
theorem dX4_value_138 : decode cX4_value 138 = .ok (.iload_n 3, 1) := by decide +kernel
theorem dX4_value_139 : decode cX4_value 139 = .ok (.iconst 2, 1) := by decide +kernel
theorem dX4_value_140 : decode cX4_value 140 = .ok (.if_icmp .ge 5, 3) := by decide +kernel
theorem dX4_value_143 : decode cX4_value 143 = .ok (.iconst 0, 1) := by decide +kernel
theorem dX4_value_144 : decode cX4_value 144 = .ok (.ireturn, 1) := by decide +kernel
theorem dX4_value_145 : decode cX4_value 145 = .ok (.iinc 3 (-1), 3) := by decide +kernel
theorem dX4_value_148 : decode cX4_value 148 = .ok (.aload_n 0, 1) := by decide +kernel
theorem dX4_value_149 : decode cX4_value 149 = .ok (.getfield 18, 3) := by decide +kernel
theorem dX4_value_152 : decode cX4_value 152 = .ok (.iload_n 3, 1) := by decide +kernel
theorem dX4_value_153 : decode cX4_value 153 = .ok (.iconst 1, 1) := by decide +kernel
theorem dX4_value_154 : decode cX4_value 154 = .ok (.isub, 1) := by decide +kernel
theorem dX4_value_155 : decode cX4_value 155 = .ok (.iaload, 1) := by decide +kernel
theorem dX4_value_156 : decode cX4_value 156 = .ok (.istore 7, 2) := by decide +kernel
theorem dX4_value_158 : decode cX4_value 158 = .ok (.aload_n 0, 1) := by decide +kernel
theorem dX4_value_159 : decode cX4_value 159 = .ok (.getfield 18, 3) := by decide +kernel
theorem dX4_value_162 : decode cX4_value 162 = .ok (.iload_n 3, 1) := by decide +kernel
theorem dX4_value_163 : decode cX4_value 163 = .ok (.iaload, 1) := by decide +kernel
theorem dX4_value_164 : decode cX4_value 164 = .ok (.istore 8, 2) := by decide +kernel
theorem dX4_value_166 : decode cX4_value 166 = .ok (.iload 6, 2) := by decide +kernel
theorem dX4_value_168 : decode cX4_value 168 = .ok (.bipush (-14), 2) := by decide +kernel
theorem dX4_value_170 : decode cX4_value 170 = .ok (.if_icmp .ne 31, 3) := by decide +kernel
theorem dX4_value_173 : decode cX4_value 173 = .ok (.iinc 3 (-1), 3) := by decide +kernel
theorem dX4_value_176 : decode cX4_value 176 = .ok (.iload 7, 2) := by decide +kernel
theorem dX4_value_178 : decode cX4_value 178 = .ok (.iload 8, 2) := by decide +kernel
theorem dX4_value_180 : decode cX4_value 180 = .ok (.if_icmp .ge 10, 3) := by decide +kernel
theorem dX4_value_183 : decode cX4_value 183 = .ok (.iload 4, 2) := by decide +kernel
theorem dX4_value_185 : decode cX4_value 185 = .ok (.iconst 1, 1) := by decide +kernel
theorem dX4_value_186 : decode cX4_value 186 = .ok (.iadd, 1) := by decide +kernel
theorem dX4_value_187 : decode cX4_value 187 = .ok (.goto 9, 3) := by decide +kernel
theorem dX4_value_190 : decode cX4_value 190 = .ok (.aload_n 0, 1) := by decide +kernel
theorem dX4_value_191 : decode cX4_value 191 = .ok (.iload 4, 2) := by decide +kernel
theorem dX4_value_193 : decode cX4_value 193 = .ok (.invokevirtual 38, 3) := by decide +kernel
theorem dX4_value_196 : decode cX4_value 196 = .ok (.istore 4, 2) := by decide +kernel
theorem dX4_value_198 : decode cX4_value 198 = .ok (.goto 34, 3) := by decide +kernel
theorem dX4_value_201 : decode cX4_value 201 = .ok (.iload 6, 2) := by decide +kernel
theorem dX4_value_203 : decode cX4_value 203 = .ok (.bipush (-13), 2) := by decide +kernel
theorem dX4_value_205 : decode cX4_value 205 = .ok (.if_icmp .ne 10, 3) := by decide +kernel
theorem dX4_value_208 : decode cX4_value 208 = .ok (.iload 8, 2) := by decide +kernel
theorem dX4_value_210 : decode cX4_value 210 = .ok (.ifCond .ne 5, 3) := by decide +kernel
theorem dX4_value_213 : decode cX4_value 213 = .ok (.iconst 0, 1) := by decide +kernel
theorem dX4_value_214 : decode cX4_value 214 = .ok (.ireturn, 1) := by decide +kernel
theorem dX4_value_215 : decode cX4_value 215 = .ok (.aload_n 0, 1) := by decide +kernel
theorem dX4_value_216 : decode cX4_value 216 = .ok (.getfield 18, 3) := by decide +kernel
theorem dX4_value_219 : decode cX4_value 219 = .ok (.iload_n 3, 1) := by decide +kernel
theorem dX4_value_220 : decode cX4_value 220 = .ok (.iconst 1, 1) := by decide +kernel
theorem dX4_value_221 : decode cX4_value 221 = .ok (.isub, 1) := by decide +kernel
theorem dX4_value_222 : decode cX4_value 222 = .ok (.iload 6, 2) := by decide +kernel
theorem dX4_value_224 : decode cX4_value 224 = .ok (.iload 7, 2) := by decide +kernel
theorem dX4_value_226 : decode cX4_value 226 = .ok (.iload 8, 2) := by decide +kernel
theorem dX4_value_228 : decode cX4_value 228 = .ok (.invokestatic 42, 3) := by decide +kernel
theorem dX4_value_231 : decode cX4_value 231 = .ok (.iastore, 1) := by decide +kernel
theorem dX4_value_232 : decode cX4_value 232 = .ok (.iinc 5 1, 3) := by decide +kernel
theorem dX4_value_235 : decode cX4_value 235 = .ok (.goto (-206), 3) := by decide +kernel
theorem dX4_value_238 : decode cX4_value 238 = .ok (.iconst 0, 1) := by decide +kernel
theorem dX4_value_239 : decode cX4_value 239 = .ok (.ireturn, 1) := by decide +kernel
theorem dX4_elseOf_0 : decode cX4_elseOf 0 = .ok (.iload_n 1, 1) := by decide +kernel
theorem dX4_elseOf_1 : decode cX4_elseOf 1 = .ok (.ifCond .lt 20, 3) := by decide +kernel
theorem dX4_elseOf_4 : decode cX4_elseOf 4 = .ok (.iload_n 1, 1) := by decide +kernel
theorem dX4_elseOf_5 : decode cX4_elseOf 5 = .ok (.aload_n 0, 1) := by decide +kernel
theorem dX4_elseOf_6 : decode cX4_elseOf 6 = .ok (.getfield 21, 3) := by decide +kernel
theorem dX4_elseOf_9 : decode cX4_elseOf 9 = .ok (.if_icmp .ge 12, 3) := by decide +kernel
theorem dX4_elseOf_12 : decode cX4_elseOf 12 = .ok (.aload_n 0, 1) := by decide +kernel
theorem dX4_elseOf_13 : decode cX4_elseOf 13 = .ok (.getfield 11, 3) := by decide +kernel
theorem dX4_elseOf_16 : decode cX4_elseOf 16 = .ok (.iload_n 1, 1) := by decide +kernel
theorem dX4_elseOf_17 : decode cX4_elseOf 17 = .ok (.iaload, 1) := by decide +kernel
theorem dX4_elseOf_18 : decode cX4_elseOf 18 = .ok (.goto 7, 3) := by decide +kernel
theorem dX4_elseOf_21 : decode cX4_elseOf 21 = .ok (.aload_n 0, 1) := by decide +kernel
theorem dX4_elseOf_22 : decode cX4_elseOf 22 = .ok (.getfield 21, 3) := by decide +kernel
theorem dX4_elseOf_25 : decode cX4_elseOf 25 = .ok (.ireturn, 1) := by decide +kernel
theorem dX4_reckon_0 : decode cX4_reckon 0 = .ok (.iload_n 0, 1) := by decide +kernel
theorem dX4_reckon_1 : decode cX4_reckon 1 = .ok (.tableswitch 55 (-13) (-10) #[43, 39, 35, 31], 31) := by decide +kernel
theorem dX4_reckon_32 : decode cX4_reckon 32 = .ok (.iload_n 1, 1) := by decide +kernel
theorem dX4_reckon_33 : decode cX4_reckon 33 = .ok (.iload_n 2, 1) := by decide +kernel
theorem dX4_reckon_34 : decode cX4_reckon 34 = .ok (.iadd, 1) := by decide +kernel
theorem dX4_reckon_35 : decode cX4_reckon 35 = .ok (.ireturn, 1) := by decide +kernel
theorem dX4_reckon_36 : decode cX4_reckon 36 = .ok (.iload_n 1, 1) := by decide +kernel
theorem dX4_reckon_37 : decode cX4_reckon 37 = .ok (.iload_n 2, 1) := by decide +kernel
theorem dX4_reckon_38 : decode cX4_reckon 38 = .ok (.isub, 1) := by decide +kernel
theorem dX4_reckon_39 : decode cX4_reckon 39 = .ok (.ireturn, 1) := by decide +kernel
theorem dX4_reckon_40 : decode cX4_reckon 40 = .ok (.iload_n 1, 1) := by decide +kernel
theorem dX4_reckon_41 : decode cX4_reckon 41 = .ok (.iload_n 2, 1) := by decide +kernel
theorem dX4_reckon_42 : decode cX4_reckon 42 = .ok (.imul, 1) := by decide +kernel
theorem dX4_reckon_43 : decode cX4_reckon 43 = .ok (.ireturn, 1) := by decide +kernel
theorem dX4_reckon_44 : decode cX4_reckon 44 = .ok (.iload_n 2, 1) := by decide +kernel
theorem dX4_reckon_45 : decode cX4_reckon 45 = .ok (.ifCond .ne 7, 3) := by decide +kernel
theorem dX4_reckon_48 : decode cX4_reckon 48 = .ok (.iconst 0, 1) := by decide +kernel
theorem dX4_reckon_49 : decode cX4_reckon 49 = .ok (.goto 6, 3) := by decide +kernel
theorem dX4_reckon_52 : decode cX4_reckon 52 = .ok (.iload_n 1, 1) := by decide +kernel
theorem dX4_reckon_53 : decode cX4_reckon 53 = .ok (.iload_n 2, 1) := by decide +kernel
theorem dX4_reckon_54 : decode cX4_reckon 54 = .ok (.idiv, 1) := by decide +kernel
theorem dX4_reckon_55 : decode cX4_reckon 55 = .ok (.ireturn, 1) := by decide +kernel
theorem dX4_reckon_56 : decode cX4_reckon 56 = .ok (.iconst 0, 1) := by decide +kernel
theorem dX4_reckon_57 : decode cX4_reckon 57 = .ok (.ireturn, 1) := by decide +kernel
