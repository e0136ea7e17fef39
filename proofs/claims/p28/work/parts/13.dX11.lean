theorem dX11_init_0 : decode cX11_init 0 = .ok (.aload_n 0, 1) := by decide +kernel
theorem dX11_init_1 : decode cX11_init 1 = .ok (.invokespecial 1, 3) := by decide +kernel
theorem dX11_init_4 : decode cX11_init 4 = .ok (.aload_n 0, 1) := by decide +kernel
theorem dX11_init_5 : decode cX11_init 5 = .ok (.sipush 2000, 3) := by decide +kernel
theorem dX11_init_8 : decode cX11_init 8 = .ok (.newarray .byte, 2) := by decide +kernel
theorem dX11_init_10 : decode cX11_init 10 = .ok (.putfield 9, 3) := by decide +kernel
theorem dX11_init_13 : decode cX11_init 13 = .ok (.aload_n 0, 1) := by decide +kernel
theorem dX11_init_14 : decode cX11_init 14 = .ok (.iconst 0, 1) := by decide +kernel
theorem dX11_init_15 : decode cX11_init 15 = .ok (.putfield 13, 3) := by decide +kernel
theorem dX11_init_18 : decode cX11_init 18 = .ok (.aload_n 0, 1) := by decide +kernel
theorem dX11_init_19 : decode cX11_init 19 = .ok (.iconst (-1), 1) := by decide +kernel
theorem dX11_init_20 : decode cX11_init 20 = .ok (.putfield 17, 3) := by decide +kernel
theorem dX11_init_23 : decode cX11_init 23 = .ok (.aload_n 0, 1) := by decide +kernel
theorem dX11_init_24 : decode cX11_init 24 = .ok (.new 20, 3) := by decide +kernel
theorem dX11_init_27 : decode cX11_init 27 = .ok (.dup, 1) := by decide +kernel
theorem dX11_init_28 : decode cX11_init 28 = .ok (.aload_n 0, 1) := by decide +kernel
theorem dX11_init_29 : decode cX11_init 29 = .ok (.getfield 9, 3) := by decide +kernel
theorem dX11_init_32 : decode cX11_init 32 = .ok (.invokespecial 22, 3) := by decide +kernel
theorem dX11_init_35 : decode cX11_init 35 = .ok (.putfield 25, 3) := by decide +kernel
theorem dX11_init_38 : decode cX11_init 38 = .ok (.aload_n 0, 1) := by decide +kernel
theorem dX11_init_39 : decode cX11_init 39 = .ok (.new 29, 3) := by decide +kernel
theorem dX11_init_42 : decode cX11_init 42 = .ok (.dup, 1) := by decide +kernel
theorem dX11_init_43 : decode cX11_init 43 = .ok (.invokespecial 31, 3) := by decide +kernel
theorem dX11_init_46 : decode cX11_init 46 = .ok (.putfield 32, 3) := by decide +kernel
theorem dX11_init_49 : decode cX11_init 49 = .ok (.aload_n 0, 1) := by decide +kernel
theorem dX11_init_50 : decode cX11_init 50 = .ok (.aload_n 0, 1) := by decide +kernel
theorem dX11_init_51 : decode cX11_init 51 = .ok (.getfield 32, 3) := by decide +kernel
theorem dX11_init_54 : decode cX11_init 54 = .ok (.getfield 36, 3) := by decide +kernel
theorem dX11_init_57 : decode cX11_init 57 = .ok (.putfield 40, 3) := by decide +kernel
theorem dX11_init_60 : decode cX11_init 60 = .ok (.aload_n 0, 1) := by decide +kernel
theorem dX11_init_61 : decode cX11_init 61 = .ok (.new 41, 3) := by decide +kernel
theorem dX11_init_64 : decode cX11_init 64 = .ok (.dup, 1) := by decide +kernel
theorem dX11_init_65 : decode cX11_init 65 = .ok (.invokespecial 43, 3) := by decide +kernel
theorem dX11_init_68 : decode cX11_init 68 = .ok (.putfield 44, 3) := by decide +kernel
theorem dX11_init_71 : decode cX11_init 71 = .ok (.aload_n 0, 1) := by decide +kernel
theorem dX11_init_72 : decode cX11_init 72 = .ok (.new 41, 3) := by decide +kernel
theorem dX11_init_75 : decode cX11_init 75 = .ok (.dup, 1) := by decide +kernel
theorem dX11_init_76 : decode cX11_init 76 = .ok (.invokespecial 43, 3) := by decide +kernel
theorem dX11_init_79 : decode cX11_init 79 = .ok (.putfield 48, 3) := by decide +kernel
theorem dX11_init_82 : decode cX11_init 82 = .ok (.aload_n 0, 1) := by decide +kernel
theorem dX11_init_83 : decode cX11_init 83 = .ok (.new 51, 3) := by decide +kernel
theorem dX11_init_86 : decode cX11_init 86 = .ok (.dup, 1) := by decide +kernel
theorem dX11_init_87 : decode cX11_init 87 = .ok (.invokespecial 53, 3) := by decide +kernel
theorem dX11_init_90 : decode cX11_init 90 = .ok (.putfield 54, 3) := by decide +kernel
theorem dX11_init_93 : decode cX11_init 93 = .ok (.aload_n 0, 1) := by decide +kernel
theorem dX11_init_94 : decode cX11_init 94 = .ok (.iconst 3, 1) := by decide +kernel
theorem dX11_init_95 : decode cX11_init 95 = .ok (.anewarray 41, 3) := by decide +kernel
theorem dX11_init_98 : decode cX11_init 98 = .ok (.putfield 58, 3) := by decide +kernel
theorem dX11_init_101 : decode cX11_init 101 = .ok (.aload_n 0, 1) := by decide +kernel
theorem dX11_init_102 : decode cX11_init 102 = .ok (.iconst 0, 1) := by decide +kernel
theorem dX11_init_103 : decode cX11_init 103 = .ok (.putfield 62, 3) := by decide +kernel
theorem dX11_init_106 : decode cX11_init 106 = .ok (.aload_n 0, 1) := by decide +kernel
theorem dX11_init_107 : decode cX11_init 107 = .ok (.new 65, 3) := by decide +kernel
theorem dX11_init_110 : decode cX11_init 110 = .ok (.dup, 1) := by decide +kernel
theorem dX11_init_111 : decode cX11_init 111 = .ok (.invokespecial 67, 3) := by decide +kernel
theorem dX11_init_114 : decode cX11_init 114 = .ok (.putfield 68, 3) := by decide +kernel
theorem dX11_init_117 : decode cX11_init 117 = .ok (.aload_n 0, 1) := by decide +kernel
theorem dX11_init_118 : decode cX11_init 118 = .ok (.new 72, 3) := by decide +kernel
theorem dX11_init_121 : decode cX11_init 121 = .ok (.dup, 1) := by decide +kernel
theorem dX11_init_122 : decode cX11_init 122 = .ok (.aload_n 0, 1) := by decide +kernel
theorem dX11_init_123 : decode cX11_init 123 = .ok (.getfield 40, 3) := by decide +kernel
theorem dX11_init_126 : decode cX11_init 126 = .ok (.invokespecial 74, 3) := by decide +kernel
theorem dX11_init_129 : decode cX11_init 129 = .ok (.putfield 77, 3) := by decide +kernel
theorem dX11_init_132 : decode cX11_init 132 = .ok (.aload_n 0, 1) := by decide +kernel
theorem dX11_init_133 : decode cX11_init 133 = .ok (.new 81, 3) := by decide +kernel
theorem dX11_init_136 : decode cX11_init 136 = .ok (.dup, 1) := by decide +kernel
theorem dX11_init_137 : decode cX11_init 137 = .ok (.aload_n 0, 1) := by decide +kernel
theorem dX11_init_138 : decode cX11_init 138 = .ok (.getfield 40, 3) := by decide +kernel
theorem dX11_init_141 : decode cX11_init 141 = .ok (.invokespecial 83, 3) := by decide +kernel
theorem dX11_init_144 : decode cX11_init 144 = .ok (.putfield 84, 3) := by decide +kernel
theorem dX11_init_147 : decode cX11_init 147 = .ok (.aload_n 0, 1) := by decide +kernel
theorem dX11_init_148 : decode cX11_init 148 = .ok (.new 88, 3) := by decide +kernel
theorem dX11_init_151 : decode cX11_init 151 = .ok (.dup, 1) := by decide +kernel
theorem dX11_init_152 : decode cX11_init 152 = .ok (.aload_n 0, 1) := by decide +kernel
theorem dX11_init_153 : decode cX11_init 153 = .ok (.getfield 40, 3) := by decide +kernel
theorem dX11_init_156 : decode cX11_init 156 = .ok (.invokespecial 90, 3) := by decide +kernel
theorem dX11_init_159 : decode cX11_init 159 = .ok (.putfield 91, 3) := by decide +kernel
theorem dX11_init_162 : decode cX11_init 162 = .ok (.iconst 0, 1) := by decide +kernel
theorem dX11_init_163 : decode cX11_init 163 = .ok (.istore_n 1, 1) := by decide +kernel
theorem dX11_init_164 : decode cX11_init 164 = .ok (.iload_n 1, 1) := by decide +kernel
theorem dX11_init_165 : decode cX11_init 165 = .ok (.iconst 3, 1) := by decide +kernel
theorem dX11_init_166 : decode cX11_init 166 = .ok (.if_icmp .ge 22, 3) := by decide +kernel
theorem dX11_init_169 : decode cX11_init 169 = .ok (.aload_n 0, 1) := by decide +kernel
theorem dX11_init_170 : decode cX11_init 170 = .ok (.getfield 58, 3) := by decide +kernel
theorem dX11_init_173 : decode cX11_init 173 = .ok (.iload_n 1, 1) := by decide +kernel
theorem dX11_init_174 : decode cX11_init 174 = .ok (.new 41, 3) := by decide +kernel
theorem dX11_init_177 : decode cX11_init 177 = .ok (.dup, 1) := by decide +kernel
theorem dX11_init_178 : decode cX11_init 178 = .ok (.invokespecial 43, 3) := by decide +kernel
theorem dX11_init_181 : decode cX11_init 181 = .ok (.aastore, 1) := by decide +kernel
theorem dX11_init_182 : decode cX11_init 182 = .ok (.iinc 1 1, 3) := by decide +kernel
theorem dX11_init_185 : decode cX11_init 185 = .ok (.goto (-21), 3) := by decide +kernel
theorem dX11_init_188 : decode cX11_init 188 = .ok (.aload_n 0, 1) := by decide +kernel
theorem dX11_init_189 : decode cX11_init 189 = .ok (.getfield 32, 3) := by decide +kernel
theorem dX11_init_192 : decode cX11_init 192 = .ok (.invokevirtual 95, 3) := by decide +kernel
theorem dX11_init_195 : decode cX11_init 195 = .ok (.return_, 1) := by decide +kernel
theorem dX11_feed_0 : decode cX11_feed 0 = .ok (.aload_n 0, 1) := by decide +kernel
theorem dX11_feed_1 : decode cX11_feed 1 = .ok (.getfield 13, 3) := by decide +kernel
theorem dX11_feed_4 : decode cX11_feed 4 = .ok (.bipush 20, 2) := by decide +kernel
theorem dX11_feed_6 : decode cX11_feed 6 = .ok (.iadd, 1) := by decide +kernel
theorem dX11_feed_7 : decode cX11_feed 7 = .ok (.sipush 2000, 3) := by decide +kernel
theorem dX11_feed_10 : decode cX11_feed 10 = .ok (.if_icmp .le 5, 3) := by decide +kernel
theorem dX11_feed_13 : decode cX11_feed 13 = .ok (.iconst (-1), 1) := by decide +kernel
theorem dX11_feed_14 : decode cX11_feed 14 = .ok (.ireturn, 1) := by decide +kernel
theorem dX11_feed_15 : decode cX11_feed 15 = .ok (.aload_n 0, 1) := by decide +kernel
theorem dX11_feed_16 : decode cX11_feed 16 = .ok (.iload_n 1, 1) := by decide +kernel
theorem dX11_feed_17 : decode cX11_feed 17 = .ok (.invokevirtual 98, 3) := by decide +kernel
theorem dX11_feed_20 : decode cX11_feed 20 = .ok (.aload_n 0, 1) := by decide +kernel
theorem dX11_feed_21 : decode cX11_feed 21 = .ok (.iload_n 2, 1) := by decide +kernel
theorem dX11_feed_22 : decode cX11_feed 22 = .ok (.invokevirtual 98, 3) := by decide +kernel
theorem dX11_feed_25 : decode cX11_feed 25 = .ok (.aload_n 0, 1) := by decide +kernel
theorem dX11_feed_26 : decode cX11_feed 26 = .ok (.iload_n 3, 1) := by decide +kernel
theorem dX11_feed_27 : decode cX11_feed 27 = .ok (.invokevirtual 98, 3) := by decide +kernel
theorem dX11_feed_30 : decode cX11_feed 30 = .ok (.aload_n 0, 1) := by decide +kernel
theorem dX11_feed_31 : decode cX11_feed 31 = .ok (.iload 4, 2) := by decide +kernel
theorem dX11_feed_33 : decode cX11_feed 33 = .ok (.invokevirtual 98, 3) := by decide +kernel
theorem dX11_feed_36 : decode cX11_feed 36 = .ok (.aload_n 0, 1) := by decide +kernel
theorem dX11_feed_37 : decode cX11_feed 37 = .ok (.iload 5, 2) := by decide +kernel
theorem dX11_feed_39 : decode cX11_feed 39 = .ok (.invokevirtual 98, 3) := by decide +kernel
theorem dX11_feed_42 : decode cX11_feed 42 = .ok (.aload_n 0, 1) := by decide +kernel
theorem dX11_feed_43 : decode cX11_feed 43 = .ok (.getfield 13, 3) := by decide +kernel
theorem dX11_feed_46 : decode cX11_feed 46 = .ok (.ireturn, 1) := by decide +kernel
theorem dX11_putOnTape_0 : decode cX11_putOnTape 0 = .ok (.bipush 24, 2) := by decide +kernel
theorem dX11_putOnTape_2 : decode cX11_putOnTape 2 = .ok (.istore_n 2, 1) := by decide +kernel
theorem dX11_putOnTape_3 : decode cX11_putOnTape 3 = .ok (.iload_n 2, 1) := by decide +kernel
theorem dX11_putOnTape_4 : decode cX11_putOnTape 4 = .ok (.ifCond .lt 42, 3) := by decide +kernel
theorem dX11_putOnTape_7 : decode cX11_putOnTape 7 = .ok (.aload_n 0, 1) := by decide +kernel
theorem dX11_putOnTape_8 : decode cX11_putOnTape 8 = .ok (.getfield 13, 3) := by decide +kernel
theorem dX11_putOnTape_11 : decode cX11_putOnTape 11 = .ok (.sipush 2000, 3) := by decide +kernel
theorem dX11_putOnTape_14 : decode cX11_putOnTape 14 = .ok (.if_icmp .ge 32, 3) := by decide +kernel
theorem dX11_putOnTape_17 : decode cX11_putOnTape 17 = .ok (.aload_n 0, 1) := by decide +kernel
theorem dX11_putOnTape_18 : decode cX11_putOnTape 18 = .ok (.getfield 9, 3) := by decide +kernel
theorem dX11_putOnTape_21 : decode cX11_putOnTape 21 = .ok (.aload_n 0, 1) := by decide +kernel
theorem dX11_putOnTape_22 : decode cX11_putOnTape 22 = .ok (.getfield 13, 3) := by decide +kernel
theorem dX11_putOnTape_25 : decode cX11_putOnTape 25 = .ok (.iload_n 1, 1) := by decide +kernel
theorem dX11_putOnTape_26 : decode cX11_putOnTape 26 = .ok (.iload_n 2, 1) := by decide +kernel
theorem dX11_putOnTape_27 : decode cX11_putOnTape 27 = .ok (.iushr, 1) := by decide +kernel
theorem dX11_putOnTape_28 : decode cX11_putOnTape 28 = .ok (.i2b, 1) := by decide +kernel
theorem dX11_putOnTape_29 : decode cX11_putOnTape 29 = .ok (.bastore, 1) := by decide +kernel
theorem dX11_putOnTape_30 : decode cX11_putOnTape 30 = .ok (.aload_n 0, 1) := by decide +kernel
theorem dX11_putOnTape_31 : decode cX11_putOnTape 31 = .ok (.dup, 1) := by decide +kernel
theorem dX11_putOnTape_32 : decode cX11_putOnTape 32 = .ok (.getfield 13, 3) := by decide +kernel
theorem dX11_putOnTape_35 : decode cX11_putOnTape 35 = .ok (.iconst 1, 1) := by decide +kernel
theorem dX11_putOnTape_36 : decode cX11_putOnTape 36 = .ok (.iadd, 1) := by decide +kernel
theorem dX11_putOnTape_37 : decode cX11_putOnTape 37 = .ok (.putfield 13, 3) := by decide +kernel
theorem dX11_putOnTape_40 : decode cX11_putOnTape 40 = .ok (.iinc 2 (-8), 3) := by decide +kernel
theorem dX11_putOnTape_43 : decode cX11_putOnTape 43 = .ok (.goto (-40), 3) := by decide +kernel
theorem dX11_putOnTape_46 : decode cX11_putOnTape 46 = .ok (.return_, 1) := by decide +kernel
theorem dX11_back_0 : decode cX11_back 0 = .ok (.iload_n 1, 1) := by decide +kernel
theorem dX11_back_1 : decode cX11_back 1 = .ok (.ifCond .lt 11, 3) := by decide +kernel
theorem dX11_back_4 : decode cX11_back 4 = .ok (.iload_n 1, 1) := by decide +kernel
theorem dX11_back_5 : decode cX11_back 5 = .ok (.aload_n 0, 1) := by decide +kernel
theorem dX11_back_6 : decode cX11_back 6 = .ok (.getfield 13, 3) := by decide +kernel
theorem dX11_back_9 : decode cX11_back 9 = .ok (.if_icmp .le 5, 3) := by decide +kernel
theorem dX11_back_12 : decode cX11_back 12 = .ok (.iconst (-1), 1) := by decide +kernel
theorem dX11_back_13 : decode cX11_back 13 = .ok (.ireturn, 1) := by decide +kernel
theorem dX11_back_14 : decode cX11_back 14 = .ok (.aload_n 0, 1) := by decide +kernel
theorem dX11_back_15 : decode cX11_back 15 = .ok (.dup, 1) := by decide +kernel
theorem dX11_back_16 : decode cX11_back 16 = .ok (.getfield 13, 3) := by decide +kernel
theorem dX11_back_19 : decode cX11_back 19 = .ok (.iload_n 1, 1) := by decide +kernel
theorem dX11_back_20 : decode cX11_back 20 = .ok (.isub, 1) := by decide +kernel
theorem dX11_back_21 : decode cX11_back 21 = .ok (.putfield 13, 3) := by decide +kernel
theorem dX11_back_24 : decode cX11_back 24 = .ok (.aload_n 0, 1) := by decide +kernel
theorem dX11_back_25 : decode cX11_back 25 = .ok (.getfield 13, 3) := by decide +kernel
theorem dX11_back_28 : decode cX11_back 28 = .ok (.ireturn, 1) := by decide +kernel
theorem dX11_read_0 : decode cX11_read 0 = .ok (.aload_n 0, 1) := by decide +kernel
theorem dX11_read_1 : decode cX11_read 1 = .ok (.getfield 25, 3) := by decide +kernel
theorem dX11_read_4 : decode cX11_read 4 = .ok (.aload_n 0, 1) := by decide +kernel
theorem dX11_read_5 : decode cX11_read 5 = .ok (.getfield 13, 3) := by decide +kernel
theorem dX11_read_8 : decode cX11_read 8 = .ok (.invokevirtual 102, 3) := by decide +kernel
theorem dX11_read_11 : decode cX11_read 11 = .ok (.istore_n 1, 1) := by decide +kernel
theorem dX11_read_12 : decode cX11_read 12 = .ok (.aload_n 0, 1) := by decide +kernel
theorem dX11_read_13 : decode cX11_read 13 = .ok (.iconst 0, 1) := by decide +kernel
theorem dX11_read_14 : decode cX11_read 14 = .ok (.putfield 13, 3) := by decide +kernel
theorem dX11_read_17 : decode cX11_read 17 = .ok (.aload_n 0, 1) := by decide +kernel
theorem dX11_read_18 : decode cX11_read 18 = .ok (.iload_n 1, 1) := by decide +kernel
theorem dX11_read_19 : decode cX11_read 19 = .ok (.ifCond .ne 7, 3) := by decide +kernel
theorem dX11_read_22 : decode cX11_read 22 = .ok (.iconst (-1), 1) := by decide +kernel
theorem dX11_read_23 : decode cX11_read 23 = .ok (.goto 10, 3) := by decide +kernel
theorem dX11_read_26 : decode cX11_read 26 = .ok (.aload_n 0, 1) := by decide +kernel
theorem dX11_read_27 : decode cX11_read 27 = .ok (.getfield 25, 3) := by decide +kernel
theorem dX11_read_30 : decode cX11_read 30 = .ok (.getfield 106, 3) := by decide +kernel
theorem dX11_read_33 : decode cX11_read 33 = .ok (.putfield 17, 3) := by decide +kernel
theorem dX11_read_36 : decode cX11_read 36 = .ok (.iload_n 1, 1) := by decide +kernel
theorem dX11_read_37 : decode cX11_read 37 = .ok (.ifCond .ne 50, 3) := by decide +kernel
theorem dX11_read_40 : decode cX11_read 40 = .ok (.aload_n 0, 1) := by decide +kernel
theorem dX11_read_41 : decode cX11_read 41 = .ok (.getfield 32, 3) := by decide +kernel
theorem dX11_read_44 : decode cX11_read 44 = .ok (.aload_n 0, 1) := by decide +kernel
theorem dX11_read_45 : decode cX11_read 45 = .ok (.getfield 25, 3) := by decide +kernel
theorem dX11_read_48 : decode cX11_read 48 = .ok (.getfield 109, 3) := by decide +kernel
theorem dX11_read_51 : decode cX11_read 51 = .ok (.invokevirtual 112, 3) := by decide +kernel
theorem dX11_read_54 : decode cX11_read 54 = .ok (.aload_n 0, 1) := by decide +kernel
theorem dX11_read_55 : decode cX11_read 55 = .ok (.getfield 44, 3) := by decide +kernel
theorem dX11_read_58 : decode cX11_read 58 = .ok (.aload_n 0, 1) := by decide +kernel
theorem dX11_read_59 : decode cX11_read 59 = .ok (.getfield 25, 3) := by decide +kernel
theorem dX11_read_62 : decode cX11_read 62 = .ok (.getfield 116, 3) := by decide +kernel
theorem dX11_read_65 : decode cX11_read 65 = .ok (.invokevirtual 119, 3) := by decide +kernel
theorem dX11_read_68 : decode cX11_read 68 = .ok (.aload_n 0, 1) := by decide +kernel
theorem dX11_read_69 : decode cX11_read 69 = .ok (.getfield 54, 3) := by decide +kernel
theorem dX11_read_72 : decode cX11_read 72 = .ok (.invokevirtual 122, 3) := by decide +kernel
theorem dX11_read_75 : decode cX11_read 75 = .ok (.aload_n 0, 1) := by decide +kernel
theorem dX11_read_76 : decode cX11_read 76 = .ok (.getfield 68, 3) := by decide +kernel
theorem dX11_read_79 : decode cX11_read 79 = .ok (.invokevirtual 123, 3) := by decide +kernel
theorem dX11_read_82 : decode cX11_read 82 = .ok (.aload_n 0, 1) := by decide +kernel
theorem dX11_read_83 : decode cX11_read 83 = .ok (.iconst 0, 1) := by decide +kernel
theorem dX11_read_84 : decode cX11_read 84 = .ok (.putfield 62, 3) := by decide +kernel
theorem dX11_read_87 : decode cX11_read 87 = .ok (.iload_n 1, 1) := by decide +kernel
theorem dX11_read_88 : decode cX11_read 88 = .ok (.ireturn, 1) := by decide +kernel
theorem dX11_place_0 : decode cX11_place 0 = .ok (.aload_n 0, 1) := by decide +kernel
theorem dX11_place_1 : decode cX11_place 1 = .ok (.getfield 17, 3) := by decide +kernel
theorem dX11_place_4 : decode cX11_place 4 = .ok (.ireturn, 1) := by decide +kernel
theorem dX11_cell_0 : decode cX11_cell 0 = .ok (.aload_n 0, 1) := by decide +kernel
theorem dX11_cell_1 : decode cX11_cell 1 = .ok (.getfield 40, 3) := by decide +kernel
theorem dX11_cell_4 : decode cX11_cell 4 = .ok (.iload_n 1, 1) := by decide +kernel
theorem dX11_cell_5 : decode cX11_cell 5 = .ok (.invokevirtual 124, 3) := by decide +kernel
theorem dX11_cell_8 : decode cX11_cell 8 = .ok (.ifCond .ne 5, 3) := by decide +kernel
theorem dX11_cell_11 : decode cX11_cell 11 = .ok (.iconst (-1), 1) := by decide +kernel
theorem dX11_cell_12 : decode cX11_cell 12 = .ok (.ireturn, 1) := by decide +kernel
theorem dX11_cell_13 : decode cX11_cell 13 = .ok (.aload_n 0, 1) := by decide +kernel
theorem dX11_cell_14 : decode cX11_cell 14 = .ok (.getfield 44, 3) := by decide +kernel
theorem dX11_cell_17 : decode cX11_cell 17 = .ok (.iload_n 1, 1) := by decide +kernel
theorem dX11_cell_18 : decode cX11_cell 18 = .ok (.invokevirtual 130, 3) := by decide +kernel
theorem dX11_cell_21 : decode cX11_cell 21 = .ok (.istore_n 3, 1) := by decide +kernel
theorem dX11_cell_22 : decode cX11_cell 22 = .ok (.iload_n 2, 1) := by decide +kernel
theorem dX11_cell_23 : decode cX11_cell 23 = .ok (.tableswitch 143 0 5 #[37, 55, 73, 97, 114, 130], 37) := by decide +kernel
theorem dX11_cell_60 : decode cX11_cell 60 = .ok (.iload_n 3, 1) := by decide +kernel
theorem dX11_cell_61 : decode cX11_cell 61 = .ok (.ifCond .eq 14, 3) := by decide +kernel
theorem dX11_cell_64 : decode cX11_cell 64 = .ok (.aload_n 0, 1) := by decide +kernel
theorem dX11_cell_65 : decode cX11_cell 65 = .ok (.getfield 44, 3) := by decide +kernel
theorem dX11_cell_68 : decode cX11_cell 68 = .ok (.iload_n 1, 1) := by decide +kernel
theorem dX11_cell_69 : decode cX11_cell 69 = .ok (.invokevirtual 133, 3) := by decide +kernel
theorem dX11_cell_72 : decode cX11_cell 72 = .ok (.goto 5, 3) := by decide +kernel
theorem dX11_cell_75 : decode cX11_cell 75 = .ok (.bipush (-2), 2) := by decide +kernel
theorem dX11_cell_77 : decode cX11_cell 77 = .ok (.ireturn, 1) := by decide +kernel
theorem dX11_cell_78 : decode cX11_cell 78 = .ok (.iload_n 3, 1) := by decide +kernel
theorem dX11_cell_79 : decode cX11_cell 79 = .ok (.ifCond .eq 14, 3) := by decide +kernel
theorem dX11_cell_82 : decode cX11_cell 82 = .ok (.aload_n 0, 1) := by decide +kernel
theorem dX11_cell_83 : decode cX11_cell 83 = .ok (.getfield 44, 3) := by decide +kernel
theorem dX11_cell_86 : decode cX11_cell 86 = .ok (.iload_n 1, 1) := by decide +kernel
theorem dX11_cell_87 : decode cX11_cell 87 = .ok (.invokevirtual 136, 3) := by decide +kernel
theorem dX11_cell_90 : decode cX11_cell 90 = .ok (.goto 5, 3) := by decide +kernel
theorem dX11_cell_93 : decode cX11_cell 93 = .ok (.bipush (-2), 2) := by decide +kernel
theorem dX11_cell_95 : decode cX11_cell 95 = .ok (.ireturn, 1) := by decide +kernel
theorem dX11_cell_96 : decode cX11_cell 96 = .ok (.aload_n 0, 1) := by decide +kernel
theorem dX11_cell_97 : decode cX11_cell 97 = .ok (.getfield 44, 3) := by decide +kernel
theorem dX11_cell_100 : decode cX11_cell 100 = .ok (.iload_n 1, 1) := by decide +kernel
theorem dX11_cell_101 : decode cX11_cell 101 = .ok (.aload_n 0, 1) := by decide +kernel
theorem dX11_cell_102 : decode cX11_cell 102 = .ok (.getfield 44, 3) := by decide +kernel
theorem dX11_cell_105 : decode cX11_cell 105 = .ok (.getfield 139, 3) := by decide +kernel
theorem dX11_cell_108 : decode cX11_cell 108 = .ok (.invokevirtual 142, 3) := by decide +kernel
theorem dX11_cell_111 : decode cX11_cell 111 = .ok (.ifCond .eq 7, 3) := by decide +kernel
theorem dX11_cell_114 : decode cX11_cell 114 = .ok (.iconst 1, 1) := by decide +kernel
theorem dX11_cell_115 : decode cX11_cell 115 = .ok (.goto 4, 3) := by decide +kernel
theorem dX11_cell_118 : decode cX11_cell 118 = .ok (.iconst 0, 1) := by decide +kernel
theorem dX11_cell_119 : decode cX11_cell 119 = .ok (.ireturn, 1) := by decide +kernel
theorem dX11_cell_120 : decode cX11_cell 120 = .ok (.aload_n 0, 1) := by decide +kernel
theorem dX11_cell_121 : decode cX11_cell 121 = .ok (.getfield 44, 3) := by decide +kernel
theorem dX11_cell_124 : decode cX11_cell 124 = .ok (.iload_n 1, 1) := by decide +kernel
theorem dX11_cell_125 : decode cX11_cell 125 = .ok (.invokevirtual 146, 3) := by decide +kernel
theorem dX11_cell_128 : decode cX11_cell 128 = .ok (.ifCond .eq 7, 3) := by decide +kernel
theorem dX11_cell_131 : decode cX11_cell 131 = .ok (.iconst 1, 1) := by decide +kernel
theorem dX11_cell_132 : decode cX11_cell 132 = .ok (.goto 4, 3) := by decide +kernel
theorem dX11_cell_135 : decode cX11_cell 135 = .ok (.iconst 0, 1) := by decide +kernel
theorem dX11_cell_136 : decode cX11_cell 136 = .ok (.ireturn, 1) := by decide +kernel
theorem dX11_cell_137 : decode cX11_cell 137 = .ok (.aload_n 0, 1) := by decide +kernel
theorem dX11_cell_138 : decode cX11_cell 138 = .ok (.getfield 44, 3) := by decide +kernel
theorem dX11_cell_141 : decode cX11_cell 141 = .ok (.iload_n 1, 1) := by decide +kernel
theorem dX11_cell_142 : decode cX11_cell 142 = .ok (.aload_n 0, 1) := by decide +kernel
theorem dX11_cell_143 : decode cX11_cell 143 = .ok (.getfield 32, 3) := by decide +kernel
theorem dX11_cell_146 : decode cX11_cell 146 = .ok (.getfield 149, 3) := by decide +kernel
theorem dX11_cell_149 : decode cX11_cell 149 = .ok (.invokevirtual 152, 3) := by decide +kernel
theorem dX11_cell_152 : decode cX11_cell 152 = .ok (.ireturn, 1) := by decide +kernel
theorem dX11_cell_153 : decode cX11_cell 153 = .ok (.aload_n 0, 1) := by decide +kernel
theorem dX11_cell_154 : decode cX11_cell 154 = .ok (.getfield 32, 3) := by decide +kernel
theorem dX11_cell_157 : decode cX11_cell 157 = .ok (.aload_n 0, 1) := by decide +kernel
theorem dX11_cell_158 : decode cX11_cell 158 = .ok (.getfield 44, 3) := by decide +kernel
theorem dX11_cell_161 : decode cX11_cell 161 = .ok (.iload_n 1, 1) := by decide +kernel
theorem dX11_cell_162 : decode cX11_cell 162 = .ok (.invokevirtual 156, 3) := by decide +kernel
theorem dX11_cell_165 : decode cX11_cell 165 = .ok (.ireturn, 1) := by decide +kernel
theorem dX11_cell_166 : decode cX11_cell 166 = .ok (.iconst (-1), 1) := by decide +kernel
theorem dX11_cell_167 : decode cX11_cell 167 = .ok (.ireturn, 1) := by decide +kernel
theorem dX11_goer_0 : decode cX11_goer 0 = .ok (.aload_n 0, 1) := by decide +kernel
theorem dX11_goer_1 : decode cX11_goer 1 = .ok (.getfield 32, 3) := by decide +kernel
theorem dX11_goer_4 : decode cX11_goer 4 = .ok (.iload_n 1, 1) := by decide +kernel
theorem dX11_goer_5 : decode cX11_goer 5 = .ok (.invokevirtual 160, 3) := by decide +kernel
theorem dX11_goer_8 : decode cX11_goer 8 = .ok (.ifCond .ne 5, 3) := by decide +kernel
theorem dX11_goer_11 : decode cX11_goer 11 = .ok (.iconst (-1), 1) := by decide +kernel
theorem dX11_goer_12 : decode cX11_goer 12 = .ok (.ireturn, 1) := by decide +kernel
theorem dX11_goer_13 : decode cX11_goer 13 = .ok (.iload_n 2, 1) := by decide +kernel
theorem dX11_goer_14 : decode cX11_goer 14 = .ok (.tableswitch 78 0 3 #[30, 40, 50, 64], 30) := by decide +kernel
theorem dX11_goer_44 : decode cX11_goer 44 = .ok (.aload_n 0, 1) := by decide +kernel
theorem dX11_goer_45 : decode cX11_goer 45 = .ok (.getfield 44, 3) := by decide +kernel
theorem dX11_goer_48 : decode cX11_goer 48 = .ok (.getfield 163, 3) := by decide +kernel
theorem dX11_goer_51 : decode cX11_goer 51 = .ok (.iload_n 1, 1) := by decide +kernel
theorem dX11_goer_52 : decode cX11_goer 52 = .ok (.iaload, 1) := by decide +kernel
theorem dX11_goer_53 : decode cX11_goer 53 = .ok (.ireturn, 1) := by decide +kernel
theorem dX11_goer_54 : decode cX11_goer 54 = .ok (.aload_n 0, 1) := by decide +kernel
theorem dX11_goer_55 : decode cX11_goer 55 = .ok (.getfield 44, 3) := by decide +kernel
theorem dX11_goer_58 : decode cX11_goer 58 = .ok (.getfield 167, 3) := by decide +kernel
theorem dX11_goer_61 : decode cX11_goer 61 = .ok (.iload_n 1, 1) := by decide +kernel
theorem dX11_goer_62 : decode cX11_goer 62 = .ok (.iaload, 1) := by decide +kernel
theorem dX11_goer_63 : decode cX11_goer 63 = .ok (.ireturn, 1) := by decide +kernel
theorem dX11_goer_64 : decode cX11_goer 64 = .ok (.aload_n 0, 1) := by decide +kernel
theorem dX11_goer_65 : decode cX11_goer 65 = .ok (.getfield 32, 3) := by decide +kernel
theorem dX11_goer_68 : decode cX11_goer 68 = .ok (.aload_n 0, 1) := by decide +kernel
theorem dX11_goer_69 : decode cX11_goer 69 = .ok (.getfield 44, 3) := by decide +kernel
theorem dX11_goer_72 : decode cX11_goer 72 = .ok (.iconst 0, 1) := by decide +kernel
theorem dX11_goer_73 : decode cX11_goer 73 = .ok (.iload_n 1, 1) := by decide +kernel
theorem dX11_goer_74 : decode cX11_goer 74 = .ok (.invokevirtual 170, 3) := by decide +kernel
theorem dX11_goer_77 : decode cX11_goer 77 = .ok (.ireturn, 1) := by decide +kernel
theorem dX11_goer_78 : decode cX11_goer 78 = .ok (.aload_n 0, 1) := by decide +kernel
theorem dX11_goer_79 : decode cX11_goer 79 = .ok (.getfield 32, 3) := by decide +kernel
theorem dX11_goer_82 : decode cX11_goer 82 = .ok (.aload_n 0, 1) := by decide +kernel
theorem dX11_goer_83 : decode cX11_goer 83 = .ok (.getfield 44, 3) := by decide +kernel
theorem dX11_goer_86 : decode cX11_goer 86 = .ok (.iconst 1, 1) := by decide +kernel
theorem dX11_goer_87 : decode cX11_goer 87 = .ok (.iload_n 1, 1) := by decide +kernel
theorem dX11_goer_88 : decode cX11_goer 88 = .ok (.invokevirtual 170, 3) := by decide +kernel
theorem dX11_goer_91 : decode cX11_goer 91 = .ok (.ireturn, 1) := by decide +kernel
theorem dX11_goer_92 : decode cX11_goer 92 = .ok (.iconst (-1), 1) := by decide +kernel
theorem dX11_goer_93 : decode cX11_goer 93 = .ok (.ireturn, 1) := by decide +kernel
theorem dX11_count_0 : decode cX11_count 0 = .ok (.iload_n 1, 1) := by decide +kernel
theorem dX11_count_1 : decode cX11_count 1 = .ok (.tableswitch 296 0 19 #[95, 103, 111, 119, 127, 135, 143, 151, 166, 171, 179, 187, 195, 210, 215, 226, 231, 272, 283, 288], 95) := by decide +kernel
theorem dX11_count_96 : decode cX11_count 96 = .ok (.aload_n 0, 1) := by decide +kernel
theorem dX11_count_97 : decode cX11_count 97 = .ok (.getfield 40, 3) := by decide +kernel
theorem dX11_count_100 : decode cX11_count 100 = .ok (.getfield 174, 3) := by decide +kernel
theorem dX11_count_103 : decode cX11_count 103 = .ok (.ireturn, 1) := by decide +kernel
theorem dX11_count_104 : decode cX11_count 104 = .ok (.aload_n 0, 1) := by decide +kernel
theorem dX11_count_105 : decode cX11_count 105 = .ok (.getfield 40, 3) := by decide +kernel
theorem dX11_count_108 : decode cX11_count 108 = .ok (.getfield 177, 3) := by decide +kernel
theorem dX11_count_111 : decode cX11_count 111 = .ok (.ireturn, 1) := by decide +kernel
theorem dX11_count_112 : decode cX11_count 112 = .ok (.aload_n 0, 1) := by decide +kernel
theorem dX11_count_113 : decode cX11_count 113 = .ok (.getfield 32, 3) := by decide +kernel
theorem dX11_count_116 : decode cX11_count 116 = .ok (.getfield 149, 3) := by decide +kernel
theorem dX11_count_119 : decode cX11_count 119 = .ok (.ireturn, 1) := by decide +kernel
theorem dX11_count_120 : decode cX11_count 120 = .ok (.aload_n 0, 1) := by decide +kernel
theorem dX11_count_121 : decode cX11_count 121 = .ok (.getfield 44, 3) := by decide +kernel
theorem dX11_count_124 : decode cX11_count 124 = .ok (.getfield 139, 3) := by decide +kernel
theorem dX11_count_127 : decode cX11_count 127 = .ok (.ireturn, 1) := by decide +kernel
theorem dX11_count_128 : decode cX11_count 128 = .ok (.aload_n 0, 1) := by decide +kernel
theorem dX11_count_129 : decode cX11_count 129 = .ok (.getfield 44, 3) := by decide +kernel
theorem dX11_count_132 : decode cX11_count 132 = .ok (.getfield 180, 3) := by decide +kernel
theorem dX11_count_135 : decode cX11_count 135 = .ok (.ireturn, 1) := by decide +kernel
theorem dX11_count_136 : decode cX11_count 136 = .ok (.aload_n 0, 1) := by decide +kernel
theorem dX11_count_137 : decode cX11_count 137 = .ok (.getfield 44, 3) := by decide +kernel
theorem dX11_count_140 : decode cX11_count 140 = .ok (.getfield 183, 3) := by decide +kernel
theorem dX11_count_143 : decode cX11_count 143 = .ok (.ireturn, 1) := by decide +kernel
theorem dX11_count_144 : decode cX11_count 144 = .ok (.aload_n 0, 1) := by decide +kernel
theorem dX11_count_145 : decode cX11_count 145 = .ok (.getfield 44, 3) := by decide +kernel
theorem dX11_count_148 : decode cX11_count 148 = .ok (.getfield 186, 3) := by decide +kernel
theorem dX11_count_151 : decode cX11_count 151 = .ok (.ireturn, 1) := by decide +kernel
theorem dX11_count_152 : decode cX11_count 152 = .ok (.aload_n 0, 1) := by decide +kernel
theorem dX11_count_153 : decode cX11_count 153 = .ok (.getfield 44, 3) := by decide +kernel
theorem dX11_count_156 : decode cX11_count 156 = .ok (.aload_n 0, 1) := by decide +kernel
theorem dX11_count_157 : decode cX11_count 157 = .ok (.getfield 32, 3) := by decide +kernel
theorem dX11_count_160 : decode cX11_count 160 = .ok (.getfield 149, 3) := by decide +kernel
theorem dX11_count_163 : decode cX11_count 163 = .ok (.invokevirtual 189, 3) := by decide +kernel
theorem dX11_count_166 : decode cX11_count 166 = .ok (.ireturn, 1) := by decide +kernel
theorem dX11_count_167 : decode cX11_count 167 = .ok (.aload_n 0, 1) := by decide +kernel
theorem dX11_count_168 : decode cX11_count 168 = .ok (.getfield 13, 3) := by decide +kernel
theorem dX11_count_171 : decode cX11_count 171 = .ok (.ireturn, 1) := by decide +kernel
theorem dX11_count_172 : decode cX11_count 172 = .ok (.aload_n 0, 1) := by decide +kernel
theorem dX11_count_173 : decode cX11_count 173 = .ok (.getfield 54, 3) := by decide +kernel
theorem dX11_count_176 : decode cX11_count 176 = .ok (.getfield 192, 3) := by decide +kernel
theorem dX11_count_179 : decode cX11_count 179 = .ok (.ireturn, 1) := by decide +kernel
theorem dX11_count_180 : decode cX11_count 180 = .ok (.aload_n 0, 1) := by decide +kernel
theorem dX11_count_181 : decode cX11_count 181 = .ok (.getfield 68, 3) := by decide +kernel
theorem dX11_count_184 : decode cX11_count 184 = .ok (.getfield 195, 3) := by decide +kernel
theorem dX11_count_187 : decode cX11_count 187 = .ok (.ireturn, 1) := by decide +kernel
theorem dX11_count_188 : decode cX11_count 188 = .ok (.aload_n 0, 1) := by decide +kernel
theorem dX11_count_189 : decode cX11_count 189 = .ok (.getfield 62, 3) := by decide +kernel
theorem dX11_count_192 : decode cX11_count 192 = .ok (.invokestatic 196, 3) := by decide +kernel
theorem dX11_count_195 : decode cX11_count 195 = .ok (.ireturn, 1) := by decide +kernel
theorem dX11_count_196 : decode cX11_count 196 = .ok (.aload_n 0, 1) := by decide +kernel
theorem dX11_count_197 : decode cX11_count 197 = .ok (.getfield 44, 3) := by decide +kernel
theorem dX11_count_200 : decode cX11_count 200 = .ok (.aload_n 0, 1) := by decide +kernel
theorem dX11_count_201 : decode cX11_count 201 = .ok (.getfield 44, 3) := by decide +kernel
theorem dX11_count_204 : decode cX11_count 204 = .ok (.getfield 139, 3) := by decide +kernel
theorem dX11_count_207 : decode cX11_count 207 = .ok (.invokevirtual 201, 3) := by decide +kernel
theorem dX11_count_210 : decode cX11_count 210 = .ok (.ireturn, 1) := by decide +kernel
theorem dX11_count_211 : decode cX11_count 211 = .ok (.aload_n 0, 1) := by decide +kernel
theorem dX11_count_212 : decode cX11_count 212 = .ok (.invokevirtual 204, 3) := by decide +kernel
theorem dX11_count_215 : decode cX11_count 215 = .ok (.ireturn, 1) := by decide +kernel
theorem dX11_count_216 : decode cX11_count 216 = .ok (.aload_n 0, 1) := by decide +kernel
theorem dX11_count_217 : decode cX11_count 217 = .ok (.getfield 44, 3) := by decide +kernel
theorem dX11_count_220 : decode cX11_count 220 = .ok (.getfield 183, 3) := by decide +kernel
theorem dX11_count_223 : decode cX11_count 223 = .ok (.invokestatic 196, 3) := by decide +kernel
theorem dX11_count_226 : decode cX11_count 226 = .ok (.ireturn, 1) := by decide +kernel
theorem dX11_count_227 : decode cX11_count 227 = .ok (.aload_n 0, 1) := by decide +kernel
theorem dX11_count_228 : decode cX11_count 228 = .ok (.invokevirtual 208, 3) := by decide +kernel
theorem dX11_count_231 : decode cX11_count 231 = .ok (.ireturn, 1) := by decide +kernel
theorem dX11_count_232 : decode cX11_count 232 = .ok (.aload_n 0, 1) := by decide +kernel
theorem dX11_count_233 : decode cX11_count 233 = .ok (.getfield 40, 3) := by decide +kernel
theorem dX11_count_236 : decode cX11_count 236 = .ok (.getfield 211, 3) := by decide +kernel
theorem dX11_count_239 : decode cX11_count 239 = .ok (.aload_n 0, 1) := by decide +kernel
theorem dX11_count_240 : decode cX11_count 240 = .ok (.getfield 44, 3) := by decide +kernel
theorem dX11_count_243 : decode cX11_count 243 = .ok (.getfield 183, 3) := by decide +kernel
theorem dX11_count_246 : decode cX11_count 246 = .ok (.aload_n 0, 1) := by decide +kernel
theorem dX11_count_247 : decode cX11_count 247 = .ok (.getfield 44, 3) := by decide +kernel
theorem dX11_count_250 : decode cX11_count 250 = .ok (.getfield 186, 3) := by decide +kernel
theorem dX11_count_253 : decode cX11_count 253 = .ok (.ior, 1) := by decide +kernel
theorem dX11_count_254 : decode cX11_count 254 = .ok (.aload_n 0, 1) := by decide +kernel
theorem dX11_count_255 : decode cX11_count 255 = .ok (.getfield 44, 3) := by decide +kernel
theorem dX11_count_258 : decode cX11_count 258 = .ok (.aload_n 0, 1) := by decide +kernel
theorem dX11_count_259 : decode cX11_count 259 = .ok (.getfield 32, 3) := by decide +kernel
theorem dX11_count_262 : decode cX11_count 262 = .ok (.getfield 149, 3) := by decide +kernel
theorem dX11_count_265 : decode cX11_count 265 = .ok (.invokevirtual 189, 3) := by decide +kernel
theorem dX11_count_268 : decode cX11_count 268 = .ok (.ior, 1) := by decide +kernel
theorem dX11_count_269 : decode cX11_count 269 = .ok (.iconst (-1), 1) := by decide +kernel
theorem dX11_count_270 : decode cX11_count 270 = .ok (.ixor, 1) := by decide +kernel
theorem dX11_count_271 : decode cX11_count 271 = .ok (.iand, 1) := by decide +kernel
theorem dX11_count_272 : decode cX11_count 272 = .ok (.ireturn, 1) := by decide +kernel
theorem dX11_count_273 : decode cX11_count 273 = .ok (.aload_n 0, 1) := by decide +kernel
theorem dX11_count_274 : decode cX11_count 274 = .ok (.getfield 44, 3) := by decide +kernel
theorem dX11_count_277 : decode cX11_count 277 = .ok (.getfield 186, 3) := by decide +kernel
theorem dX11_count_280 : decode cX11_count 280 = .ok (.invokestatic 196, 3) := by decide +kernel
theorem dX11_count_283 : decode cX11_count 283 = .ok (.ireturn, 1) := by decide +kernel
theorem dX11_count_284 : decode cX11_count 284 = .ok (.aload_n 0, 1) := by decide +kernel
theorem dX11_count_285 : decode cX11_count 285 = .ok (.invokevirtual 214, 3) := by decide +kernel
theorem dX11_count_288 : decode cX11_count 288 = .ok (.ireturn, 1) := by decide +kernel
theorem dX11_count_289 : decode cX11_count 289 = .ok (.aload_n 0, 1) := by decide +kernel
theorem dX11_count_290 : decode cX11_count 290 = .ok (.getfield 32, 3) := by decide +kernel
theorem dX11_count_293 : decode cX11_count 293 = .ok (.getfield 217, 3) := by decide +kernel
theorem dX11_count_296 : decode cX11_count 296 = .ok (.ireturn, 1) := by decide +kernel
theorem dX11_count_297 : decode cX11_count 297 = .ok (.iconst (-1), 1) := by decide +kernel
theorem dX11_count_298 : decode cX11_count 298 = .ok (.ireturn, 1) := by decide +kernel
theorem dX11_movedInAll_0 : decode cX11_movedInAll 0 = .ok (.iconst 0, 1) := by decide +kernel
theorem dX11_movedInAll_1 : decode cX11_movedInAll 1 = .ok (.istore_n 1, 1) := by decide +kernel
theorem dX11_movedInAll_2 : decode cX11_movedInAll 2 = .ok (.iconst 0, 1) := by decide +kernel
theorem dX11_movedInAll_3 : decode cX11_movedInAll 3 = .ok (.istore_n 2, 1) := by decide +kernel
theorem dX11_movedInAll_4 : decode cX11_movedInAll 4 = .ok (.iload_n 2, 1) := by decide +kernel
theorem dX11_movedInAll_5 : decode cX11_movedInAll 5 = .ok (.aload_n 0, 1) := by decide +kernel
theorem dX11_movedInAll_6 : decode cX11_movedInAll 6 = .ok (.getfield 32, 3) := by decide +kernel
theorem dX11_movedInAll_9 : decode cX11_movedInAll 9 = .ok (.getfield 149, 3) := by decide +kernel
theorem dX11_movedInAll_12 : decode cX11_movedInAll 12 = .ok (.if_icmp .ge 26, 3) := by decide +kernel
theorem dX11_movedInAll_15 : decode cX11_movedInAll 15 = .ok (.iload_n 2, 1) := by decide +kernel
theorem dX11_movedInAll_16 : decode cX11_movedInAll 16 = .ok (.iconst 5, 1) := by decide +kernel
theorem dX11_movedInAll_17 : decode cX11_movedInAll 17 = .ok (.if_icmp .ge 21, 3) := by decide +kernel
theorem dX11_movedInAll_20 : decode cX11_movedInAll 20 = .ok (.iload_n 1, 1) := by decide +kernel
theorem dX11_movedInAll_21 : decode cX11_movedInAll 21 = .ok (.aload_n 0, 1) := by decide +kernel
theorem dX11_movedInAll_22 : decode cX11_movedInAll 22 = .ok (.getfield 44, 3) := by decide +kernel
theorem dX11_movedInAll_25 : decode cX11_movedInAll 25 = .ok (.getfield 167, 3) := by decide +kernel
theorem dX11_movedInAll_28 : decode cX11_movedInAll 28 = .ok (.iload_n 2, 1) := by decide +kernel
theorem dX11_movedInAll_29 : decode cX11_movedInAll 29 = .ok (.iaload, 1) := by decide +kernel
theorem dX11_movedInAll_30 : decode cX11_movedInAll 30 = .ok (.iadd, 1) := by decide +kernel
theorem dX11_movedInAll_31 : decode cX11_movedInAll 31 = .ok (.istore_n 1, 1) := by decide +kernel
theorem dX11_movedInAll_32 : decode cX11_movedInAll 32 = .ok (.iinc 2 1, 3) := by decide +kernel
theorem dX11_movedInAll_35 : decode cX11_movedInAll 35 = .ok (.goto (-31), 3) := by decide +kernel
theorem dX11_movedInAll_38 : decode cX11_movedInAll 38 = .ok (.iload_n 1, 1) := by decide +kernel
theorem dX11_movedInAll_39 : decode cX11_movedInAll 39 = .ok (.ireturn, 1) := by decide +kernel
theorem dX11_everMoved_0 : decode cX11_everMoved 0 = .ok (.iconst 0, 1) := by decide +kernel
theorem dX11_everMoved_1 : decode cX11_everMoved 1 = .ok (.istore_n 1, 1) := by decide +kernel
theorem dX11_everMoved_2 : decode cX11_everMoved 2 = .ok (.iconst 0, 1) := by decide +kernel
theorem dX11_everMoved_3 : decode cX11_everMoved 3 = .ok (.istore_n 2, 1) := by decide +kernel
theorem dX11_everMoved_4 : decode cX11_everMoved 4 = .ok (.iload_n 2, 1) := by decide +kernel
theorem dX11_everMoved_5 : decode cX11_everMoved 5 = .ok (.aload_n 0, 1) := by decide +kernel
theorem dX11_everMoved_6 : decode cX11_everMoved 6 = .ok (.getfield 32, 3) := by decide +kernel
theorem dX11_everMoved_9 : decode cX11_everMoved 9 = .ok (.getfield 149, 3) := by decide +kernel
theorem dX11_everMoved_12 : decode cX11_everMoved 12 = .ok (.if_icmp .ge 32, 3) := by decide +kernel
theorem dX11_everMoved_15 : decode cX11_everMoved 15 = .ok (.iload_n 2, 1) := by decide +kernel
theorem dX11_everMoved_16 : decode cX11_everMoved 16 = .ok (.iconst 5, 1) := by decide +kernel
theorem dX11_everMoved_17 : decode cX11_everMoved 17 = .ok (.if_icmp .ge 27, 3) := by decide +kernel
theorem dX11_everMoved_20 : decode cX11_everMoved 20 = .ok (.aload_n 0, 1) := by decide +kernel
theorem dX11_everMoved_21 : decode cX11_everMoved 21 = .ok (.getfield 44, 3) := by decide +kernel
theorem dX11_everMoved_24 : decode cX11_everMoved 24 = .ok (.getfield 167, 3) := by decide +kernel
theorem dX11_everMoved_27 : decode cX11_everMoved 27 = .ok (.iload_n 2, 1) := by decide +kernel
theorem dX11_everMoved_28 : decode cX11_everMoved 28 = .ok (.iaload, 1) := by decide +kernel
theorem dX11_everMoved_29 : decode cX11_everMoved 29 = .ok (.ifCond .le 9, 3) := by decide +kernel
theorem dX11_everMoved_32 : decode cX11_everMoved 32 = .ok (.iload_n 1, 1) := by decide +kernel
theorem dX11_everMoved_33 : decode cX11_everMoved 33 = .ok (.iconst 1, 1) := by decide +kernel
theorem dX11_everMoved_34 : decode cX11_everMoved 34 = .ok (.iload_n 2, 1) := by decide +kernel
theorem dX11_everMoved_35 : decode cX11_everMoved 35 = .ok (.ishl, 1) := by decide +kernel
theorem dX11_everMoved_36 : decode cX11_everMoved 36 = .ok (.ior, 1) := by decide +kernel
theorem dX11_everMoved_37 : decode cX11_everMoved 37 = .ok (.istore_n 1, 1) := by decide +kernel
theorem dX11_everMoved_38 : decode cX11_everMoved 38 = .ok (.iinc 2 1, 3) := by decide +kernel
theorem dX11_everMoved_41 : decode cX11_everMoved 41 = .ok (.goto (-37), 3) := by decide +kernel
theorem dX11_everMoved_44 : decode cX11_everMoved 44 = .ok (.iload_n 1, 1) := by decide +kernel
theorem dX11_everMoved_45 : decode cX11_everMoved 45 = .ok (.ireturn, 1) := by decide +kernel
theorem dX11_costsOfTunes_0 : decode cX11_costsOfTunes 0 = .ok (.iconst 0, 1) := by decide +kernel
theorem dX11_costsOfTunes_1 : decode cX11_costsOfTunes 1 = .ok (.istore_n 1, 1) := by decide +kernel
theorem dX11_costsOfTunes_2 : decode cX11_costsOfTunes 2 = .ok (.iconst 0, 1) := by decide +kernel
theorem dX11_costsOfTunes_3 : decode cX11_costsOfTunes 3 = .ok (.istore_n 2, 1) := by decide +kernel
theorem dX11_costsOfTunes_4 : decode cX11_costsOfTunes 4 = .ok (.iload_n 2, 1) := by decide +kernel
theorem dX11_costsOfTunes_5 : decode cX11_costsOfTunes 5 = .ok (.bipush 25, 2) := by decide +kernel
theorem dX11_costsOfTunes_7 : decode cX11_costsOfTunes 7 = .ok (.if_icmp .ge 35, 3) := by decide +kernel
theorem dX11_costsOfTunes_10 : decode cX11_costsOfTunes 10 = .ok (.aload_n 0, 1) := by decide +kernel
theorem dX11_costsOfTunes_11 : decode cX11_costsOfTunes 11 = .ok (.getfield 44, 3) := by decide +kernel
theorem dX11_costsOfTunes_14 : decode cX11_costsOfTunes 14 = .ok (.iload_n 2, 1) := by decide +kernel
theorem dX11_costsOfTunes_15 : decode cX11_costsOfTunes 15 = .ok (.invokevirtual 130, 3) := by decide +kernel
theorem dX11_costsOfTunes_18 : decode cX11_costsOfTunes 18 = .ok (.ifCond .eq 18, 3) := by decide +kernel
theorem dX11_costsOfTunes_21 : decode cX11_costsOfTunes 21 = .ok (.iload_n 1, 1) := by decide +kernel
theorem dX11_costsOfTunes_22 : decode cX11_costsOfTunes 22 = .ok (.aload_n 0, 1) := by decide +kernel
theorem dX11_costsOfTunes_23 : decode cX11_costsOfTunes 23 = .ok (.getfield 32, 3) := by decide +kernel
theorem dX11_costsOfTunes_26 : decode cX11_costsOfTunes 26 = .ok (.aload_n 0, 1) := by decide +kernel
theorem dX11_costsOfTunes_27 : decode cX11_costsOfTunes 27 = .ok (.getfield 44, 3) := by decide +kernel
theorem dX11_costsOfTunes_30 : decode cX11_costsOfTunes 30 = .ok (.iload_n 2, 1) := by decide +kernel
theorem dX11_costsOfTunes_31 : decode cX11_costsOfTunes 31 = .ok (.invokevirtual 156, 3) := by decide +kernel
theorem dX11_costsOfTunes_34 : decode cX11_costsOfTunes 34 = .ok (.iadd, 1) := by decide +kernel
theorem dX11_costsOfTunes_35 : decode cX11_costsOfTunes 35 = .ok (.istore_n 1, 1) := by decide +kernel
theorem dX11_costsOfTunes_36 : decode cX11_costsOfTunes 36 = .ok (.iinc 2 1, 3) := by decide +kernel
theorem dX11_costsOfTunes_39 : decode cX11_costsOfTunes 39 = .ok (.goto (-35), 3) := by decide +kernel
theorem dX11_costsOfTunes_42 : decode cX11_costsOfTunes 42 = .ok (.iload_n 1, 1) := by decide +kernel
theorem dX11_costsOfTunes_43 : decode cX11_costsOfTunes 43 = .ok (.ireturn, 1) := by decide +kernel
theorem dX11_mow_0 : decode cX11_mow 0 = .ok (.aload_n 0, 1) := by decide +kernel
theorem dX11_mow_1 : decode cX11_mow 1 = .ok (.getfield 40, 3) := by decide +kernel
theorem dX11_mow_4 : decode cX11_mow 4 = .ok (.iload_n 1, 1) := by decide +kernel
theorem dX11_mow_5 : decode cX11_mow 5 = .ok (.invokevirtual 124, 3) := by decide +kernel
theorem dX11_mow_8 : decode cX11_mow 8 = .ok (.ifCond .eq 14, 3) := by decide +kernel
theorem dX11_mow_11 : decode cX11_mow 11 = .ok (.aload_n 0, 1) := by decide +kernel
theorem dX11_mow_12 : decode cX11_mow 12 = .ok (.getfield 44, 3) := by decide +kernel
theorem dX11_mow_15 : decode cX11_mow 15 = .ok (.iload_n 1, 1) := by decide +kernel
theorem dX11_mow_16 : decode cX11_mow 16 = .ok (.invokevirtual 130, 3) := by decide +kernel
theorem dX11_mow_19 : decode cX11_mow 19 = .ok (.ifCond .ne 5, 3) := by decide +kernel
theorem dX11_mow_22 : decode cX11_mow 22 = .ok (.iconst (-1), 1) := by decide +kernel
theorem dX11_mow_23 : decode cX11_mow 23 = .ok (.ireturn, 1) := by decide +kernel
theorem dX11_mow_24 : decode cX11_mow 24 = .ok (.aload_n 0, 1) := by decide +kernel
theorem dX11_mow_25 : decode cX11_mow 25 = .ok (.getfield 54, 3) := by decide +kernel
theorem dX11_mow_28 : decode cX11_mow 28 = .ok (.aload_n 0, 1) := by decide +kernel
theorem dX11_mow_29 : decode cX11_mow 29 = .ok (.getfield 44, 3) := by decide +kernel
theorem dX11_mow_32 : decode cX11_mow 32 = .ok (.invokevirtual 220, 3) := by decide +kernel
theorem dX11_mow_35 : decode cX11_mow 35 = .ok (.aload_n 0, 1) := by decide +kernel
theorem dX11_mow_36 : decode cX11_mow 36 = .ok (.getfield 32, 3) := by decide +kernel
theorem dX11_mow_39 : decode cX11_mow 39 = .ok (.aload_n 0, 1) := by decide +kernel
theorem dX11_mow_40 : decode cX11_mow 40 = .ok (.getfield 44, 3) := by decide +kernel
theorem dX11_mow_43 : decode cX11_mow 43 = .ok (.iload_n 1, 1) := by decide +kernel
theorem dX11_mow_44 : decode cX11_mow 44 = .ok (.invokevirtual 156, 3) := by decide +kernel
theorem dX11_mow_47 : decode cX11_mow 47 = .ok (.istore_n 2, 1) := by decide +kernel
theorem dX11_mow_48 : decode cX11_mow 48 = .ok (.aload_n 0, 1) := by decide +kernel
theorem dX11_mow_49 : decode cX11_mow 49 = .ok (.getfield 44, 3) := by decide +kernel
theorem dX11_mow_52 : decode cX11_mow 52 = .ok (.dup, 1) := by decide +kernel
theorem dX11_mow_53 : decode cX11_mow 53 = .ok (.getfield 180, 3) := by decide +kernel
theorem dX11_mow_56 : decode cX11_mow 56 = .ok (.iload_n 2, 1) := by decide +kernel
theorem dX11_mow_57 : decode cX11_mow 57 = .ok (.iadd, 1) := by decide +kernel
theorem dX11_mow_58 : decode cX11_mow 58 = .ok (.putfield 180, 3) := by decide +kernel
theorem dX11_mow_61 : decode cX11_mow 61 = .ok (.aload_n 0, 1) := by decide +kernel
theorem dX11_mow_62 : decode cX11_mow 62 = .ok (.getfield 44, 3) := by decide +kernel
theorem dX11_mow_65 : decode cX11_mow 65 = .ok (.iload_n 1, 1) := by decide +kernel
theorem dX11_mow_66 : decode cX11_mow 66 = .ok (.invokevirtual 223, 3) := by decide +kernel
theorem dX11_mow_69 : decode cX11_mow 69 = .ok (.iload_n 2, 1) := by decide +kernel
theorem dX11_mow_70 : decode cX11_mow 70 = .ok (.ireturn, 1) := by decide +kernel
theorem dX11_rope_0 : decode cX11_rope 0 = .ok (.aload_n 0, 1) := by decide +kernel
theorem dX11_rope_1 : decode cX11_rope 1 = .ok (.getfield 40, 3) := by decide +kernel
theorem dX11_rope_4 : decode cX11_rope 4 = .ok (.iload_n 1, 1) := by decide +kernel
theorem dX11_rope_5 : decode cX11_rope 5 = .ok (.invokevirtual 124, 3) := by decide +kernel
theorem dX11_rope_8 : decode cX11_rope 8 = .ok (.ifCond .eq 33, 3) := by decide +kernel
theorem dX11_rope_11 : decode cX11_rope 11 = .ok (.aload_n 0, 1) := by decide +kernel
theorem dX11_rope_12 : decode cX11_rope 12 = .ok (.getfield 44, 3) := by decide +kernel
theorem dX11_rope_15 : decode cX11_rope 15 = .ok (.iload_n 1, 1) := by decide +kernel
theorem dX11_rope_16 : decode cX11_rope 16 = .ok (.invokevirtual 146, 3) := by decide +kernel
theorem dX11_rope_19 : decode cX11_rope 19 = .ok (.iload_n 2, 1) := by decide +kernel
theorem dX11_rope_20 : decode cX11_rope 20 = .ok (.if_icmp .eq 21, 3) := by decide +kernel
theorem dX11_rope_23 : decode cX11_rope 23 = .ok (.aload_n 0, 1) := by decide +kernel
theorem dX11_rope_24 : decode cX11_rope 24 = .ok (.getfield 44, 3) := by decide +kernel
theorem dX11_rope_27 : decode cX11_rope 27 = .ok (.iload_n 1, 1) := by decide +kernel
theorem dX11_rope_28 : decode cX11_rope 28 = .ok (.aload_n 0, 1) := by decide +kernel
theorem dX11_rope_29 : decode cX11_rope 29 = .ok (.getfield 32, 3) := by decide +kernel
theorem dX11_rope_32 : decode cX11_rope 32 = .ok (.getfield 149, 3) := by decide +kernel
theorem dX11_rope_35 : decode cX11_rope 35 = .ok (.invokevirtual 152, 3) := by decide +kernel
theorem dX11_rope_38 : decode cX11_rope 38 = .ok (.ifCond .eq 5, 3) := by decide +kernel
theorem dX11_rope_41 : decode cX11_rope 41 = .ok (.iconst 0, 1) := by decide +kernel
theorem dX11_rope_42 : decode cX11_rope 42 = .ok (.ireturn, 1) := by decide +kernel
theorem dX11_rope_43 : decode cX11_rope 43 = .ok (.iload_n 2, 1) := by decide +kernel
theorem dX11_rope_44 : decode cX11_rope 44 = .ok (.ifCond .eq 16, 3) := by decide +kernel
theorem dX11_rope_47 : decode cX11_rope 47 = .ok (.aload_n 0, 1) := by decide +kernel
theorem dX11_rope_48 : decode cX11_rope 48 = .ok (.getfield 44, 3) := by decide +kernel
theorem dX11_rope_51 : decode cX11_rope 51 = .ok (.iload_n 1, 1) := by decide +kernel
theorem dX11_rope_52 : decode cX11_rope 52 = .ok (.invokevirtual 130, 3) := by decide +kernel
theorem dX11_rope_55 : decode cX11_rope 55 = .ok (.ifCond .eq 5, 3) := by decide +kernel
theorem dX11_rope_58 : decode cX11_rope 58 = .ok (.iconst 0, 1) := by decide +kernel
theorem dX11_rope_59 : decode cX11_rope 59 = .ok (.ireturn, 1) := by decide +kernel
theorem dX11_rope_60 : decode cX11_rope 60 = .ok (.aload_n 0, 1) := by decide +kernel
theorem dX11_rope_61 : decode cX11_rope 61 = .ok (.getfield 54, 3) := by decide +kernel
theorem dX11_rope_64 : decode cX11_rope 64 = .ok (.aload_n 0, 1) := by decide +kernel
theorem dX11_rope_65 : decode cX11_rope 65 = .ok (.getfield 44, 3) := by decide +kernel
theorem dX11_rope_68 : decode cX11_rope 68 = .ok (.invokevirtual 220, 3) := by decide +kernel
theorem dX11_rope_71 : decode cX11_rope 71 = .ok (.aload_n 0, 1) := by decide +kernel
theorem dX11_rope_72 : decode cX11_rope 72 = .ok (.getfield 44, 3) := by decide +kernel
theorem dX11_rope_75 : decode cX11_rope 75 = .ok (.dup, 1) := by decide +kernel
theorem dX11_rope_76 : decode cX11_rope 76 = .ok (.getfield 186, 3) := by decide +kernel
theorem dX11_rope_79 : decode cX11_rope 79 = .ok (.iconst 1, 1) := by decide +kernel
theorem dX11_rope_80 : decode cX11_rope 80 = .ok (.iload_n 1, 1) := by decide +kernel
theorem dX11_rope_81 : decode cX11_rope 81 = .ok (.ishl, 1) := by decide +kernel
theorem dX11_rope_82 : decode cX11_rope 82 = .ok (.ixor, 1) := by decide +kernel
theorem dX11_rope_83 : decode cX11_rope 83 = .ok (.putfield 186, 3) := by decide +kernel
theorem dX11_rope_86 : decode cX11_rope 86 = .ok (.iconst 1, 1) := by decide +kernel
theorem dX11_rope_87 : decode cX11_rope 87 = .ok (.ireturn, 1) := by decide +kernel
theorem dX11_carry_0 : decode cX11_carry 0 = .ok (.aload_n 0, 1) := by decide +kernel
theorem dX11_carry_1 : decode cX11_carry 1 = .ok (.getfield 32, 3) := by decide +kernel
theorem dX11_carry_4 : decode cX11_carry 4 = .ok (.iload_n 1, 1) := by decide +kernel
theorem dX11_carry_5 : decode cX11_carry 5 = .ok (.invokevirtual 160, 3) := by decide +kernel
theorem dX11_carry_8 : decode cX11_carry 8 = .ok (.ifCond .eq 14, 3) := by decide +kernel
theorem dX11_carry_11 : decode cX11_carry 11 = .ok (.aload_n 0, 1) := by decide +kernel
theorem dX11_carry_12 : decode cX11_carry 12 = .ok (.getfield 40, 3) := by decide +kernel
theorem dX11_carry_15 : decode cX11_carry 15 = .ok (.iload_n 2, 1) := by decide +kernel
theorem dX11_carry_16 : decode cX11_carry 16 = .ok (.invokevirtual 124, 3) := by decide +kernel
theorem dX11_carry_19 : decode cX11_carry 19 = .ok (.ifCond .ne 5, 3) := by decide +kernel
theorem dX11_carry_22 : decode cX11_carry 22 = .ok (.iconst 0, 1) := by decide +kernel
theorem dX11_carry_23 : decode cX11_carry 23 = .ok (.ireturn, 1) := by decide +kernel
theorem dX11_carry_24 : decode cX11_carry 24 = .ok (.aload_n 0, 1) := by decide +kernel
theorem dX11_carry_25 : decode cX11_carry 25 = .ok (.getfield 44, 3) := by decide +kernel
theorem dX11_carry_28 : decode cX11_carry 28 = .ok (.getfield 163, 3) := by decide +kernel
theorem dX11_carry_31 : decode cX11_carry 31 = .ok (.iload_n 1, 1) := by decide +kernel
theorem dX11_carry_32 : decode cX11_carry 32 = .ok (.iaload, 1) := by decide +kernel
theorem dX11_carry_33 : decode cX11_carry 33 = .ok (.iload_n 2, 1) := by decide +kernel
theorem dX11_carry_34 : decode cX11_carry 34 = .ok (.if_icmp .eq 14, 3) := by decide +kernel
theorem dX11_carry_37 : decode cX11_carry 37 = .ok (.aload_n 0, 1) := by decide +kernel
theorem dX11_carry_38 : decode cX11_carry 38 = .ok (.getfield 44, 3) := by decide +kernel
theorem dX11_carry_41 : decode cX11_carry 41 = .ok (.iload_n 2, 1) := by decide +kernel
theorem dX11_carry_42 : decode cX11_carry 42 = .ok (.invokevirtual 146, 3) := by decide +kernel
theorem dX11_carry_45 : decode cX11_carry 45 = .ok (.ifCond .eq 5, 3) := by decide +kernel
theorem dX11_carry_48 : decode cX11_carry 48 = .ok (.iconst 0, 1) := by decide +kernel
theorem dX11_carry_49 : decode cX11_carry 49 = .ok (.ireturn, 1) := by decide +kernel
theorem dX11_carry_50 : decode cX11_carry 50 = .ok (.aload_n 0, 1) := by decide +kernel
theorem dX11_carry_51 : decode cX11_carry 51 = .ok (.getfield 54, 3) := by decide +kernel
theorem dX11_carry_54 : decode cX11_carry 54 = .ok (.aload_n 0, 1) := by decide +kernel
theorem dX11_carry_55 : decode cX11_carry 55 = .ok (.getfield 44, 3) := by decide +kernel
theorem dX11_carry_58 : decode cX11_carry 58 = .ok (.invokevirtual 220, 3) := by decide +kernel
theorem dX11_carry_61 : decode cX11_carry 61 = .ok (.aload_n 0, 1) := by decide +kernel
theorem dX11_carry_62 : decode cX11_carry 62 = .ok (.getfield 44, 3) := by decide +kernel
theorem dX11_carry_65 : decode cX11_carry 65 = .ok (.getfield 163, 3) := by decide +kernel
theorem dX11_carry_68 : decode cX11_carry 68 = .ok (.iload_n 1, 1) := by decide +kernel
theorem dX11_carry_69 : decode cX11_carry 69 = .ok (.iload_n 2, 1) := by decide +kernel
theorem dX11_carry_70 : decode cX11_carry 70 = .ok (.iastore, 1) := by decide +kernel
theorem dX11_carry_71 : decode cX11_carry 71 = .ok (.iconst 1, 1) := by decide +kernel
theorem dX11_carry_72 : decode cX11_carry 72 = .ok (.ireturn, 1) := by decide +kernel
theorem dX11_beats_0 : decode cX11_beats 0 = .ok (.iload_n 1, 1) := by decide +kernel
theorem dX11_beats_1 : decode cX11_beats 1 = .ok (.invokestatic 226, 3) := by decide +kernel
theorem dX11_beats_4 : decode cX11_beats 4 = .ok (.ifCond .ne 5, 3) := by decide +kernel
theorem dX11_beats_7 : decode cX11_beats 7 = .ok (.iconst (-1), 1) := by decide +kernel
theorem dX11_beats_8 : decode cX11_beats 8 = .ok (.ireturn, 1) := by decide +kernel
theorem dX11_beats_9 : decode cX11_beats 9 = .ok (.iload_n 1, 1) := by decide +kernel
theorem dX11_beats_10 : decode cX11_beats 10 = .ok (.ifCond .le 26, 3) := by decide +kernel
theorem dX11_beats_13 : decode cX11_beats 13 = .ok (.aload_n 0, 1) := by decide +kernel
theorem dX11_beats_14 : decode cX11_beats 14 = .ok (.getfield 54, 3) := by decide +kernel
theorem dX11_beats_17 : decode cX11_beats 17 = .ok (.aload_n 0, 1) := by decide +kernel
theorem dX11_beats_18 : decode cX11_beats 18 = .ok (.getfield 44, 3) := by decide +kernel
theorem dX11_beats_21 : decode cX11_beats 21 = .ok (.invokevirtual 220, 3) := by decide +kernel
theorem dX11_beats_24 : decode cX11_beats 24 = .ok (.aload_n 0, 1) := by decide +kernel
theorem dX11_beats_25 : decode cX11_beats 25 = .ok (.getfield 32, 3) := by decide +kernel
theorem dX11_beats_28 : decode cX11_beats 28 = .ok (.aload_n 0, 1) := by decide +kernel
theorem dX11_beats_29 : decode cX11_beats 29 = .ok (.getfield 44, 3) := by decide +kernel
theorem dX11_beats_32 : decode cX11_beats 32 = .ok (.iload_n 1, 1) := by decide +kernel
theorem dX11_beats_33 : decode cX11_beats 33 = .ok (.invokevirtual 229, 3) := by decide +kernel
theorem dX11_beats_36 : decode cX11_beats 36 = .ok (.aload_n 0, 1) := by decide +kernel
theorem dX11_beats_37 : decode cX11_beats 37 = .ok (.getfield 44, 3) := by decide +kernel
theorem dX11_beats_40 : decode cX11_beats 40 = .ok (.getfield 139, 3) := by decide +kernel
theorem dX11_beats_43 : decode cX11_beats 43 = .ok (.ireturn, 1) := by decide +kernel
theorem dX11_undo_0 : decode cX11_undo 0 = .ok (.aload_n 0, 1) := by decide +kernel
theorem dX11_undo_1 : decode cX11_undo 1 = .ok (.getfield 54, 3) := by decide +kernel
theorem dX11_undo_4 : decode cX11_undo 4 = .ok (.aload_n 0, 1) := by decide +kernel
theorem dX11_undo_5 : decode cX11_undo 5 = .ok (.getfield 44, 3) := by decide +kernel
theorem dX11_undo_8 : decode cX11_undo 8 = .ok (.invokevirtual 233, 3) := by decide +kernel
theorem dX11_undo_11 : decode cX11_undo 11 = .ok (.ireturn, 1) := by decide +kernel
theorem dX11_hold_0 : decode cX11_hold 0 = .ok (.iload_n 1, 1) := by decide +kernel
theorem dX11_hold_1 : decode cX11_hold 1 = .ok (.ifCond .lt 8, 3) := by decide +kernel
theorem dX11_hold_4 : decode cX11_hold 4 = .ok (.iload_n 1, 1) := by decide +kernel
theorem dX11_hold_5 : decode cX11_hold 5 = .ok (.iconst 3, 1) := by decide +kernel
theorem dX11_hold_6 : decode cX11_hold 6 = .ok (.if_icmp .lt 5, 3) := by decide +kernel
theorem dX11_hold_9 : decode cX11_hold 9 = .ok (.iconst 0, 1) := by decide +kernel
theorem dX11_hold_10 : decode cX11_hold 10 = .ok (.ireturn, 1) := by decide +kernel
theorem dX11_hold_11 : decode cX11_hold 11 = .ok (.aload_n 0, 1) := by decide +kernel
theorem dX11_hold_12 : decode cX11_hold 12 = .ok (.getfield 58, 3) := by decide +kernel
theorem dX11_hold_15 : decode cX11_hold 15 = .ok (.iload_n 1, 1) := by decide +kernel
theorem dX11_hold_16 : decode cX11_hold 16 = .ok (.aaload, 1) := by decide +kernel
theorem dX11_hold_17 : decode cX11_hold 17 = .ok (.aload_n 0, 1) := by decide +kernel
theorem dX11_hold_18 : decode cX11_hold 18 = .ok (.getfield 44, 3) := by decide +kernel
theorem dX11_hold_21 : decode cX11_hold 21 = .ok (.invokevirtual 119, 3) := by decide +kernel
theorem dX11_hold_24 : decode cX11_hold 24 = .ok (.aload_n 0, 1) := by decide +kernel
theorem dX11_hold_25 : decode cX11_hold 25 = .ok (.dup, 1) := by decide +kernel
theorem dX11_hold_26 : decode cX11_hold 26 = .ok (.getfield 62, 3) := by decide +kernel
theorem dX11_hold_29 : decode cX11_hold 29 = .ok (.iconst 1, 1) := by decide +kernel
theorem dX11_hold_30 : decode cX11_hold 30 = .ok (.iload_n 1, 1) := by decide +kernel
theorem dX11_hold_31 : decode cX11_hold 31 = .ok (.ishl, 1) := by decide +kernel
theorem dX11_hold_32 : decode cX11_hold 32 = .ok (.ior, 1) := by decide +kernel
theorem dX11_hold_33 : decode cX11_hold 33 = .ok (.putfield 62, 3) := by decide +kernel
theorem dX11_hold_36 : decode cX11_hold 36 = .ok (.iconst 1, 1) := by decide +kernel
theorem dX11_hold_37 : decode cX11_hold 37 = .ok (.ireturn, 1) := by decide +kernel
theorem dX11_restore_0 : decode cX11_restore 0 = .ok (.iload_n 1, 1) := by decide +kernel
theorem dX11_restore_1 : decode cX11_restore 1 = .ok (.ifCond .lt 19, 3) := by decide +kernel
theorem dX11_restore_4 : decode cX11_restore 4 = .ok (.iload_n 1, 1) := by decide +kernel
theorem dX11_restore_5 : decode cX11_restore 5 = .ok (.iconst 3, 1) := by decide +kernel
theorem dX11_restore_6 : decode cX11_restore 6 = .ok (.if_icmp .ge 14, 3) := by decide +kernel
theorem dX11_restore_9 : decode cX11_restore 9 = .ok (.aload_n 0, 1) := by decide +kernel
theorem dX11_restore_10 : decode cX11_restore 10 = .ok (.getfield 62, 3) := by decide +kernel
theorem dX11_restore_13 : decode cX11_restore 13 = .ok (.iload_n 1, 1) := by decide +kernel
theorem dX11_restore_14 : decode cX11_restore 14 = .ok (.iushr, 1) := by decide +kernel
theorem dX11_restore_15 : decode cX11_restore 15 = .ok (.iconst 1, 1) := by decide +kernel
theorem dX11_restore_16 : decode cX11_restore 16 = .ok (.iand, 1) := by decide +kernel
theorem dX11_restore_17 : decode cX11_restore 17 = .ok (.ifCond .ne 5, 3) := by decide +kernel
theorem dX11_restore_20 : decode cX11_restore 20 = .ok (.iconst 0, 1) := by decide +kernel
theorem dX11_restore_21 : decode cX11_restore 21 = .ok (.ireturn, 1) := by decide +kernel
theorem dX11_restore_22 : decode cX11_restore 22 = .ok (.aload_n 0, 1) := by decide +kernel
theorem dX11_restore_23 : decode cX11_restore 23 = .ok (.getfield 44, 3) := by decide +kernel
theorem dX11_restore_26 : decode cX11_restore 26 = .ok (.aload_n 0, 1) := by decide +kernel
theorem dX11_restore_27 : decode cX11_restore 27 = .ok (.getfield 58, 3) := by decide +kernel
theorem dX11_restore_30 : decode cX11_restore 30 = .ok (.iload_n 1, 1) := by decide +kernel
theorem dX11_restore_31 : decode cX11_restore 31 = .ok (.aaload, 1) := by decide +kernel
theorem dX11_restore_32 : decode cX11_restore 32 = .ok (.invokevirtual 119, 3) := by decide +kernel
theorem dX11_restore_35 : decode cX11_restore 35 = .ok (.aload_n 0, 1) := by decide +kernel
theorem dX11_restore_36 : decode cX11_restore 36 = .ok (.getfield 54, 3) := by decide +kernel
theorem dX11_restore_39 : decode cX11_restore 39 = .ok (.invokevirtual 122, 3) := by decide +kernel
theorem dX11_restore_42 : decode cX11_restore 42 = .ok (.iconst 1, 1) := by decide +kernel
theorem dX11_restore_43 : decode cX11_restore 43 = .ok (.ireturn, 1) := by decide +kernel
theorem dX11_isSpan_0 : decode cX11_isSpan 0 = .ok (.iload_n 0, 1) := by decide +kernel
theorem dX11_isSpan_1 : decode cX11_isSpan 1 = .ok (.ifCond .lt 13, 3) := by decide +kernel
theorem dX11_isSpan_4 : decode cX11_isSpan 4 = .ok (.iload_n 0, 1) := by decide +kernel
theorem dX11_isSpan_5 : decode cX11_isSpan 5 = .ok (.bipush 100, 2) := by decide +kernel
theorem dX11_isSpan_7 : decode cX11_isSpan 7 = .ok (.if_icmp .gt 7, 3) := by decide +kernel
theorem dX11_isSpan_10 : decode cX11_isSpan 10 = .ok (.iconst 1, 1) := by decide +kernel
theorem dX11_isSpan_11 : decode cX11_isSpan 11 = .ok (.goto 4, 3) := by decide +kernel
theorem dX11_isSpan_14 : decode cX11_isSpan 14 = .ok (.iconst 0, 1) := by decide +kernel
theorem dX11_isSpan_15 : decode cX11_isSpan 15 = .ok (.ireturn, 1) := by decide +kernel
theorem dX11_isNoughtOrOne_0 : decode cX11_isNoughtOrOne 0 = .ok (.iload_n 0, 1) := by decide +kernel
theorem dX11_isNoughtOrOne_1 : decode cX11_isNoughtOrOne 1 = .ok (.ifCond .eq 8, 3) := by decide +kernel
theorem dX11_isNoughtOrOne_4 : decode cX11_isNoughtOrOne 4 = .ok (.iload_n 0, 1) := by decide +kernel
theorem dX11_isNoughtOrOne_5 : decode cX11_isNoughtOrOne 5 = .ok (.iconst 1, 1) := by decide +kernel
theorem dX11_isNoughtOrOne_6 : decode cX11_isNoughtOrOne 6 = .ok (.if_icmp .ne 7, 3) := by decide +kernel
theorem dX11_isNoughtOrOne_9 : decode cX11_isNoughtOrOne 9 = .ok (.iconst 1, 1) := by decide +kernel
theorem dX11_isNoughtOrOne_10 : decode cX11_isNoughtOrOne 10 = .ok (.goto 4, 3) := by decide +kernel
theorem dX11_isNoughtOrOne_13 : decode cX11_isNoughtOrOne 13 = .ok (.iconst 0, 1) := by decide +kernel
theorem dX11_isNoughtOrOne_14 : decode cX11_isNoughtOrOne 14 = .ok (.ireturn, 1) := by decide +kernel
theorem dX11_next_0 : decode cX11_next 0 = .ok (.aload_n 0, 1) := by decide +kernel
theorem dX11_next_1 : decode cX11_next 1 = .ok (.getfield 40, 3) := by decide +kernel
theorem dX11_next_4 : decode cX11_next 4 = .ok (.iload_n 1, 1) := by decide +kernel
theorem dX11_next_5 : decode cX11_next 5 = .ok (.invokevirtual 124, 3) := by decide +kernel
theorem dX11_next_8 : decode cX11_next 8 = .ok (.ifCond .ne 5, 3) := by decide +kernel
theorem dX11_next_11 : decode cX11_next 11 = .ok (.iconst (-1), 1) := by decide +kernel
theorem dX11_next_12 : decode cX11_next 12 = .ok (.ireturn, 1) := by decide +kernel
theorem dX11_next_13 : decode cX11_next 13 = .ok (.iconst 1, 1) := by decide +kernel
theorem dX11_next_14 : decode cX11_next 14 = .ok (.istore_n 2, 1) := by decide +kernel
theorem dX11_next_15 : decode cX11_next 15 = .ok (.iload_n 2, 1) := by decide +kernel
theorem dX11_next_16 : decode cX11_next 16 = .ok (.bipush 6, 2) := by decide +kernel
theorem dX11_next_18 : decode cX11_next 18 = .ok (.if_icmp .gt 31, 3) := by decide +kernel
theorem dX11_next_21 : decode cX11_next 21 = .ok (.aload_n 0, 1) := by decide +kernel
theorem dX11_next_22 : decode cX11_next 22 = .ok (.getfield 44, 3) := by decide +kernel
theorem dX11_next_25 : decode cX11_next 25 = .ok (.iload_n 1, 1) := by decide +kernel
theorem dX11_next_26 : decode cX11_next 26 = .ok (.aload_n 0, 1) := by decide +kernel
theorem dX11_next_27 : decode cX11_next 27 = .ok (.getfield 44, 3) := by decide +kernel
theorem dX11_next_30 : decode cX11_next 30 = .ok (.getfield 139, 3) := by decide +kernel
theorem dX11_next_33 : decode cX11_next 33 = .ok (.iload_n 2, 1) := by decide +kernel
theorem dX11_next_34 : decode cX11_next 34 = .ok (.iadd, 1) := by decide +kernel
theorem dX11_next_35 : decode cX11_next 35 = .ok (.invokevirtual 142, 3) := by decide +kernel
theorem dX11_next_38 : decode cX11_next 38 = .ok (.ifCond .eq 5, 3) := by decide +kernel
theorem dX11_next_41 : decode cX11_next 41 = .ok (.iload_n 2, 1) := by decide +kernel
theorem dX11_next_42 : decode cX11_next 42 = .ok (.ireturn, 1) := by decide +kernel
theorem dX11_next_43 : decode cX11_next 43 = .ok (.iinc 2 1, 3) := by decide +kernel
theorem dX11_next_46 : decode cX11_next 46 = .ok (.goto (-31), 3) := by decide +kernel
theorem dX11_next_49 : decode cX11_next 49 = .ok (.bipush (-2), 2) := by decide +kernel
theorem dX11_next_51 : decode cX11_next 51 = .ok (.ireturn, 1) := by decide +kernel
theorem dX11_together_0 : decode cX11_together 0 = .ok (.aload_n 0, 1) := by decide +kernel
theorem dX11_together_1 : decode cX11_together 1 = .ok (.getfield 40, 3) := by decide +kernel
theorem dX11_together_4 : decode cX11_together 4 = .ok (.iload_n 1, 1) := by decide +kernel
theorem dX11_together_5 : decode cX11_together 5 = .ok (.invokevirtual 124, 3) := by decide +kernel
theorem dX11_together_8 : decode cX11_together 8 = .ok (.ifCond .eq 14, 3) := by decide +kernel
theorem dX11_together_11 : decode cX11_together 11 = .ok (.aload_n 0, 1) := by decide +kernel
theorem dX11_together_12 : decode cX11_together 12 = .ok (.getfield 40, 3) := by decide +kernel
theorem dX11_together_15 : decode cX11_together 15 = .ok (.iload_n 2, 1) := by decide +kernel
theorem dX11_together_16 : decode cX11_together 16 = .ok (.invokevirtual 124, 3) := by decide +kernel
theorem dX11_together_19 : decode cX11_together 19 = .ok (.ifCond .ne 5, 3) := by decide +kernel
theorem dX11_together_22 : decode cX11_together 22 = .ok (.iconst (-1), 1) := by decide +kernel
theorem dX11_together_23 : decode cX11_together 23 = .ok (.ireturn, 1) := by decide +kernel
theorem dX11_together_24 : decode cX11_together 24 = .ok (.iconst 0, 1) := by decide +kernel
theorem dX11_together_25 : decode cX11_together 25 = .ok (.istore_n 3, 1) := by decide +kernel
theorem dX11_together_26 : decode cX11_together 26 = .ok (.iload_n 3, 1) := by decide +kernel
theorem dX11_together_27 : decode cX11_together 27 = .ok (.bipush 60, 2) := by decide +kernel
theorem dX11_together_29 : decode cX11_together 29 = .ok (.if_icmp .ge 51, 3) := by decide +kernel
theorem dX11_together_32 : decode cX11_together 32 = .ok (.aload_n 0, 1) := by decide +kernel
theorem dX11_together_33 : decode cX11_together 33 = .ok (.getfield 44, 3) := by decide +kernel
theorem dX11_together_36 : decode cX11_together 36 = .ok (.iload_n 1, 1) := by decide +kernel
theorem dX11_together_37 : decode cX11_together 37 = .ok (.aload_n 0, 1) := by decide +kernel
theorem dX11_together_38 : decode cX11_together 38 = .ok (.getfield 44, 3) := by decide +kernel
theorem dX11_together_41 : decode cX11_together 41 = .ok (.getfield 139, 3) := by decide +kernel
theorem dX11_together_44 : decode cX11_together 44 = .ok (.iload_n 3, 1) := by decide +kernel
theorem dX11_together_45 : decode cX11_together 45 = .ok (.iadd, 1) := by decide +kernel
theorem dX11_together_46 : decode cX11_together 46 = .ok (.invokevirtual 142, 3) := by decide +kernel
theorem dX11_together_49 : decode cX11_together 49 = .ok (.ifCond .eq 25, 3) := by decide +kernel
theorem dX11_together_52 : decode cX11_together 52 = .ok (.aload_n 0, 1) := by decide +kernel
theorem dX11_together_53 : decode cX11_together 53 = .ok (.getfield 44, 3) := by decide +kernel
theorem dX11_together_56 : decode cX11_together 56 = .ok (.iload_n 2, 1) := by decide +kernel
theorem dX11_together_57 : decode cX11_together 57 = .ok (.aload_n 0, 1) := by decide +kernel
theorem dX11_together_58 : decode cX11_together 58 = .ok (.getfield 44, 3) := by decide +kernel
theorem dX11_together_61 : decode cX11_together 61 = .ok (.getfield 139, 3) := by decide +kernel
theorem dX11_together_64 : decode cX11_together 64 = .ok (.iload_n 3, 1) := by decide +kernel
theorem dX11_together_65 : decode cX11_together 65 = .ok (.iadd, 1) := by decide +kernel
theorem dX11_together_66 : decode cX11_together 66 = .ok (.invokevirtual 142, 3) := by decide +kernel
theorem dX11_together_69 : decode cX11_together 69 = .ok (.ifCond .eq 5, 3) := by decide +kernel
theorem dX11_together_72 : decode cX11_together 72 = .ok (.iload_n 3, 1) := by decide +kernel
theorem dX11_together_73 : decode cX11_together 73 = .ok (.ireturn, 1) := by decide +kernel
theorem dX11_together_74 : decode cX11_together 74 = .ok (.iinc 3 1, 3) := by decide +kernel
theorem dX11_together_77 : decode cX11_together 77 = .ok (.goto (-51), 3) := by decide +kernel
theorem dX11_together_80 : decode cX11_together 80 = .ok (.bipush (-2), 2) := by decide +kernel
theorem dX11_together_82 : decode cX11_together 82 = .ok (.ireturn, 1) := by decide +kernel
theorem dX11_loud_0 : decode cX11_loud 0 = .ok (.iload_n 1, 1) := by decide +kernel
theorem dX11_loud_1 : decode cX11_loud 1 = .ok (.invokestatic 226, 3) := by decide +kernel
theorem dX11_loud_4 : decode cX11_loud 4 = .ok (.ifCond .eq 22, 3) := by decide +kernel
theorem dX11_loud_7 : decode cX11_loud 7 = .ok (.aload_n 0, 1) := by decide +kernel
theorem dX11_loud_8 : decode cX11_loud 8 = .ok (.getfield 44, 3) := by decide +kernel
theorem dX11_loud_11 : decode cX11_loud 11 = .ok (.aload_n 0, 1) := by decide +kernel
theorem dX11_loud_12 : decode cX11_loud 12 = .ok (.getfield 44, 3) := by decide +kernel
theorem dX11_loud_15 : decode cX11_loud 15 = .ok (.getfield 139, 3) := by decide +kernel
theorem dX11_loud_18 : decode cX11_loud 18 = .ok (.iload_n 1, 1) := by decide +kernel
theorem dX11_loud_19 : decode cX11_loud 19 = .ok (.iadd, 1) := by decide +kernel
theorem dX11_loud_20 : decode cX11_loud 20 = .ok (.invokevirtual 201, 3) := by decide +kernel
theorem dX11_loud_23 : decode cX11_loud 23 = .ok (.goto 4, 3) := by decide +kernel
theorem dX11_loud_26 : decode cX11_loud 26 = .ok (.iconst (-1), 1) := by decide +kernel
theorem dX11_loud_27 : decode cX11_loud 27 = .ok (.ireturn, 1) := by decide +kernel
theorem dX11_silence_0 : decode cX11_silence 0 = .ok (.iload_n 1, 1) := by decide +kernel
theorem dX11_silence_1 : decode cX11_silence 1 = .ok (.invokestatic 237, 3) := by decide +kernel
theorem dX11_silence_4 : decode cX11_silence 4 = .ok (.ifCond .ne 5, 3) := by decide +kernel
theorem dX11_silence_7 : decode cX11_silence 7 = .ok (.iconst (-1), 1) := by decide +kernel
theorem dX11_silence_8 : decode cX11_silence 8 = .ok (.ireturn, 1) := by decide +kernel
theorem dX11_silence_9 : decode cX11_silence 9 = .ok (.iconst 0, 1) := by decide +kernel
theorem dX11_silence_10 : decode cX11_silence 10 = .ok (.istore_n 2, 1) := by decide +kernel
theorem dX11_silence_11 : decode cX11_silence 11 = .ok (.bipush (-2), 2) := by decide +kernel
theorem dX11_silence_13 : decode cX11_silence 13 = .ok (.istore_n 3, 1) := by decide +kernel
theorem dX11_silence_14 : decode cX11_silence 14 = .ok (.iconst 0, 1) := by decide +kernel
theorem dX11_silence_15 : decode cX11_silence 15 = .ok (.istore 4, 2) := by decide +kernel
theorem dX11_silence_17 : decode cX11_silence 17 = .ok (.iconst 0, 1) := by decide +kernel
theorem dX11_silence_18 : decode cX11_silence 18 = .ok (.istore 5, 2) := by decide +kernel
theorem dX11_silence_20 : decode cX11_silence 20 = .ok (.iload 5, 2) := by decide +kernel
theorem dX11_silence_22 : decode cX11_silence 22 = .ok (.bipush 60, 2) := by decide +kernel
theorem dX11_silence_24 : decode cX11_silence 24 = .ok (.if_icmp .ge 56, 3) := by decide +kernel
theorem dX11_silence_27 : decode cX11_silence 27 = .ok (.aload_n 0, 1) := by decide +kernel
theorem dX11_silence_28 : decode cX11_silence 28 = .ok (.getfield 44, 3) := by decide +kernel
theorem dX11_silence_31 : decode cX11_silence 31 = .ok (.aload_n 0, 1) := by decide +kernel
theorem dX11_silence_32 : decode cX11_silence 32 = .ok (.getfield 44, 3) := by decide +kernel
theorem dX11_silence_35 : decode cX11_silence 35 = .ok (.getfield 139, 3) := by decide +kernel
theorem dX11_silence_38 : decode cX11_silence 38 = .ok (.iload 5, 2) := by decide +kernel
theorem dX11_silence_40 : decode cX11_silence 40 = .ok (.iadd, 1) := by decide +kernel
theorem dX11_silence_41 : decode cX11_silence 41 = .ok (.invokevirtual 201, 3) := by decide +kernel
theorem dX11_silence_44 : decode cX11_silence 44 = .ok (.ifCond .ne 10, 3) := by decide +kernel
theorem dX11_silence_47 : decode cX11_silence 47 = .ok (.iload 4, 2) := by decide +kernel
theorem dX11_silence_49 : decode cX11_silence 49 = .ok (.iconst 1, 1) := by decide +kernel
theorem dX11_silence_50 : decode cX11_silence 50 = .ok (.iadd, 1) := by decide +kernel
theorem dX11_silence_51 : decode cX11_silence 51 = .ok (.goto 4, 3) := by decide +kernel
theorem dX11_silence_54 : decode cX11_silence 54 = .ok (.iconst 0, 1) := by decide +kernel
theorem dX11_silence_55 : decode cX11_silence 55 = .ok (.istore 4, 2) := by decide +kernel
theorem dX11_silence_57 : decode cX11_silence 57 = .ok (.iload 4, 2) := by decide +kernel
theorem dX11_silence_59 : decode cX11_silence 59 = .ok (.iload_n 2, 1) := by decide +kernel
theorem dX11_silence_60 : decode cX11_silence 60 = .ok (.if_icmp .le 14, 3) := by decide +kernel
theorem dX11_silence_63 : decode cX11_silence 63 = .ok (.iload 4, 2) := by decide +kernel
theorem dX11_silence_65 : decode cX11_silence 65 = .ok (.istore_n 2, 1) := by decide +kernel
theorem dX11_silence_66 : decode cX11_silence 66 = .ok (.iload 5, 2) := by decide +kernel
theorem dX11_silence_68 : decode cX11_silence 68 = .ok (.iconst 1, 1) := by decide +kernel
theorem dX11_silence_69 : decode cX11_silence 69 = .ok (.iadd, 1) := by decide +kernel
theorem dX11_silence_70 : decode cX11_silence 70 = .ok (.iload 4, 2) := by decide +kernel
theorem dX11_silence_72 : decode cX11_silence 72 = .ok (.isub, 1) := by decide +kernel
theorem dX11_silence_73 : decode cX11_silence 73 = .ok (.istore_n 3, 1) := by decide +kernel
theorem dX11_silence_74 : decode cX11_silence 74 = .ok (.iinc 5 1, 3) := by decide +kernel
theorem dX11_silence_77 : decode cX11_silence 77 = .ok (.goto (-57), 3) := by decide +kernel
theorem dX11_silence_80 : decode cX11_silence 80 = .ok (.iload_n 1, 1) := by decide +kernel
theorem dX11_silence_81 : decode cX11_silence 81 = .ok (.ifCond .ne 7, 3) := by decide +kernel
theorem dX11_silence_84 : decode cX11_silence 84 = .ok (.iload_n 2, 1) := by decide +kernel
theorem dX11_silence_85 : decode cX11_silence 85 = .ok (.goto 4, 3) := by decide +kernel
theorem dX11_silence_88 : decode cX11_silence 88 = .ok (.iload_n 3, 1) := by decide +kernel
theorem dX11_silence_89 : decode cX11_silence 89 = .ok (.ireturn, 1) := by decide +kernel
theorem dX11_chorus_0 : decode cX11_chorus 0 = .ok (.iload_n 1, 1) := by decide +kernel
theorem dX11_chorus_1 : decode cX11_chorus 1 = .ok (.invokestatic 237, 3) := by decide +kernel
theorem dX11_chorus_4 : decode cX11_chorus 4 = .ok (.ifCond .ne 5, 3) := by decide +kernel
theorem dX11_chorus_7 : decode cX11_chorus 7 = .ok (.iconst (-1), 1) := by decide +kernel
theorem dX11_chorus_8 : decode cX11_chorus 8 = .ok (.ireturn, 1) := by decide +kernel
theorem dX11_chorus_9 : decode cX11_chorus 9 = .ok (.iconst (-1), 1) := by decide +kernel
theorem dX11_chorus_10 : decode cX11_chorus 10 = .ok (.istore_n 2, 1) := by decide +kernel
theorem dX11_chorus_11 : decode cX11_chorus 11 = .ok (.iconst 0, 1) := by decide +kernel
theorem dX11_chorus_12 : decode cX11_chorus 12 = .ok (.istore_n 3, 1) := by decide +kernel
theorem dX11_chorus_13 : decode cX11_chorus 13 = .ok (.iconst 0, 1) := by decide +kernel
theorem dX11_chorus_14 : decode cX11_chorus 14 = .ok (.istore 4, 2) := by decide +kernel
theorem dX11_chorus_16 : decode cX11_chorus 16 = .ok (.iload 4, 2) := by decide +kernel
theorem dX11_chorus_18 : decode cX11_chorus 18 = .ok (.bipush 60, 2) := by decide +kernel
theorem dX11_chorus_20 : decode cX11_chorus 20 = .ok (.if_icmp .ge 43, 3) := by decide +kernel
theorem dX11_chorus_23 : decode cX11_chorus 23 = .ok (.aload_n 0, 1) := by decide +kernel
theorem dX11_chorus_24 : decode cX11_chorus 24 = .ok (.getfield 44, 3) := by decide +kernel
theorem dX11_chorus_27 : decode cX11_chorus 27 = .ok (.aload_n 0, 1) := by decide +kernel
theorem dX11_chorus_28 : decode cX11_chorus 28 = .ok (.getfield 44, 3) := by decide +kernel
theorem dX11_chorus_31 : decode cX11_chorus 31 = .ok (.getfield 139, 3) := by decide +kernel
theorem dX11_chorus_34 : decode cX11_chorus 34 = .ok (.iload 4, 2) := by decide +kernel
theorem dX11_chorus_36 : decode cX11_chorus 36 = .ok (.iadd, 1) := by decide +kernel
theorem dX11_chorus_37 : decode cX11_chorus 37 = .ok (.invokevirtual 201, 3) := by decide +kernel
theorem dX11_chorus_40 : decode cX11_chorus 40 = .ok (.invokestatic 196, 3) := by decide +kernel
theorem dX11_chorus_43 : decode cX11_chorus 43 = .ok (.istore 5, 2) := by decide +kernel
theorem dX11_chorus_45 : decode cX11_chorus 45 = .ok (.iload 5, 2) := by decide +kernel
theorem dX11_chorus_47 : decode cX11_chorus 47 = .ok (.iload_n 2, 1) := by decide +kernel
theorem dX11_chorus_48 : decode cX11_chorus 48 = .ok (.if_icmp .le 9, 3) := by decide +kernel
theorem dX11_chorus_51 : decode cX11_chorus 51 = .ok (.iload 5, 2) := by decide +kernel
theorem dX11_chorus_53 : decode cX11_chorus 53 = .ok (.istore_n 2, 1) := by decide +kernel
theorem dX11_chorus_54 : decode cX11_chorus 54 = .ok (.iload 4, 2) := by decide +kernel
theorem dX11_chorus_56 : decode cX11_chorus 56 = .ok (.istore_n 3, 1) := by decide +kernel
theorem dX11_chorus_57 : decode cX11_chorus 57 = .ok (.iinc 4 1, 3) := by decide +kernel
theorem dX11_chorus_60 : decode cX11_chorus 60 = .ok (.goto (-44), 3) := by decide +kernel
theorem dX11_chorus_63 : decode cX11_chorus 63 = .ok (.iload_n 1, 1) := by decide +kernel
theorem dX11_chorus_64 : decode cX11_chorus 64 = .ok (.ifCond .ne 7, 3) := by decide +kernel
theorem dX11_chorus_67 : decode cX11_chorus 67 = .ok (.iload_n 3, 1) := by decide +kernel
theorem dX11_chorus_68 : decode cX11_chorus 68 = .ok (.goto 4, 3) := by decide +kernel
theorem dX11_chorus_71 : decode cX11_chorus 71 = .ok (.iload_n 2, 1) := by decide +kernel
theorem dX11_chorus_72 : decode cX11_chorus 72 = .ok (.ireturn, 1) := by decide +kernel
theorem dX11_period_0 : decode cX11_period 0 = .ok (.iconst 1, 1) := by decide +kernel
theorem dX11_period_1 : decode cX11_period 1 = .ok (.istore_n 1, 1) := by decide +kernel
theorem dX11_period_2 : decode cX11_period 2 = .ok (.iload_n 1, 1) := by decide +kernel
theorem dX11_period_3 : decode cX11_period 3 = .ok (.bipush 60, 2) := by decide +kernel
theorem dX11_period_5 : decode cX11_period 5 = .ok (.if_icmp .ge 22, 3) := by decide +kernel
theorem dX11_period_8 : decode cX11_period 8 = .ok (.aload_n 0, 1) := by decide +kernel
theorem dX11_period_9 : decode cX11_period 9 = .ok (.getfield 44, 3) := by decide +kernel
theorem dX11_period_12 : decode cX11_period 12 = .ok (.iload_n 1, 1) := by decide +kernel
theorem dX11_period_13 : decode cX11_period 13 = .ok (.invokevirtual 240, 3) := by decide +kernel
theorem dX11_period_16 : decode cX11_period 16 = .ok (.ifCond .eq 5, 3) := by decide +kernel
theorem dX11_period_19 : decode cX11_period 19 = .ok (.iload_n 1, 1) := by decide +kernel
theorem dX11_period_20 : decode cX11_period 20 = .ok (.ireturn, 1) := by decide +kernel
theorem dX11_period_21 : decode cX11_period 21 = .ok (.iinc 1 1, 3) := by decide +kernel
theorem dX11_period_24 : decode cX11_period 24 = .ok (.goto (-22), 3) := by decide +kernel
theorem dX11_period_27 : decode cX11_period 27 = .ok (.bipush 60, 2) := by decide +kernel
theorem dX11_period_29 : decode cX11_period 29 = .ok (.ireturn, 1) := by decide +kernel
theorem dX11_way_0 : decode cX11_way 0 = .ok (.aload_n 0, 1) := by decide +kernel
theorem dX11_way_1 : decode cX11_way 1 = .ok (.iload_n 1, 1) := by decide +kernel
theorem dX11_way_2 : decode cX11_way 2 = .ok (.invokevirtual 243, 3) := by decide +kernel
theorem dX11_way_5 : decode cX11_way 5 = .ok (.ifCond .eq 11, 3) := by decide +kernel
theorem dX11_way_8 : decode cX11_way 8 = .ok (.aload_n 0, 1) := by decide +kernel
theorem dX11_way_9 : decode cX11_way 9 = .ok (.iload_n 2, 1) := by decide +kernel
theorem dX11_way_10 : decode cX11_way 10 = .ok (.invokevirtual 243, 3) := by decide +kernel
theorem dX11_way_13 : decode cX11_way 13 = .ok (.ifCond .ne 5, 3) := by decide +kernel
theorem dX11_way_16 : decode cX11_way 16 = .ok (.iconst (-1), 1) := by decide +kernel
theorem dX11_way_17 : decode cX11_way 17 = .ok (.ireturn, 1) := by decide +kernel
theorem dX11_way_18 : decode cX11_way 18 = .ok (.aload_n 0, 1) := by decide +kernel
theorem dX11_way_19 : decode cX11_way 19 = .ok (.getfield 77, 3) := by decide +kernel
theorem dX11_way_22 : decode cX11_way 22 = .ok (.aload_n 0, 1) := by decide +kernel
theorem dX11_way_23 : decode cX11_way 23 = .ok (.getfield 44, 3) := by decide +kernel
theorem dX11_way_26 : decode cX11_way 26 = .ok (.invokevirtual 246, 3) := by decide +kernel
theorem dX11_way_29 : decode cX11_way 29 = .ok (.aload_n 0, 1) := by decide +kernel
theorem dX11_way_30 : decode cX11_way 30 = .ok (.getfield 77, 3) := by decide +kernel
theorem dX11_way_33 : decode cX11_way 33 = .ok (.iload_n 1, 1) := by decide +kernel
theorem dX11_way_34 : decode cX11_way 34 = .ok (.iload_n 2, 1) := by decide +kernel
theorem dX11_way_35 : decode cX11_way 35 = .ok (.aload_n 0, 1) := by decide +kernel
theorem dX11_way_36 : decode cX11_way 36 = .ok (.getfield 44, 3) := by decide +kernel
theorem dX11_way_39 : decode cX11_way 39 = .ok (.getfield 139, 3) := by decide +kernel
theorem dX11_way_42 : decode cX11_way 42 = .ok (.iconst 0, 1) := by decide +kernel
theorem dX11_way_43 : decode cX11_way 43 = .ok (.bipush 100, 2) := by decide +kernel
theorem dX11_way_45 : decode cX11_way 45 = .ok (.invokevirtual 249, 3) := by decide +kernel
theorem dX11_way_48 : decode cX11_way 48 = .ok (.istore 4, 2) := by decide +kernel
theorem dX11_way_50 : decode cX11_way 50 = .ok (.iload 4, 2) := by decide +kernel
theorem dX11_way_52 : decode cX11_way 52 = .ok (.iconst (-1), 1) := by decide +kernel
theorem dX11_way_53 : decode cX11_way 53 = .ok (.if_icmp .ne 6, 3) := by decide +kernel
theorem dX11_way_56 : decode cX11_way 56 = .ok (.bipush (-2), 2) := by decide +kernel
theorem dX11_way_58 : decode cX11_way 58 = .ok (.ireturn, 1) := by decide +kernel
theorem dX11_way_59 : decode cX11_way 59 = .ok (.iload_n 3, 1) := by decide +kernel
theorem dX11_way_60 : decode cX11_way 60 = .ok (.iconst (-1), 1) := by decide +kernel
theorem dX11_way_61 : decode cX11_way 61 = .ok (.if_icmp .ne 6, 3) := by decide +kernel
theorem dX11_way_64 : decode cX11_way 64 = .ok (.iload 4, 2) := by decide +kernel
theorem dX11_way_66 : decode cX11_way 66 = .ok (.ireturn, 1) := by decide +kernel
theorem dX11_way_67 : decode cX11_way 67 = .ok (.iload_n 3, 1) := by decide +kernel
theorem dX11_way_68 : decode cX11_way 68 = .ok (.ifCond .lt 9, 3) := by decide +kernel
theorem dX11_way_71 : decode cX11_way 71 = .ok (.iload_n 3, 1) := by decide +kernel
theorem dX11_way_72 : decode cX11_way 72 = .ok (.iload 4, 2) := by decide +kernel
theorem dX11_way_74 : decode cX11_way 74 = .ok (.if_icmp .le 7, 3) := by decide +kernel
theorem dX11_way_77 : decode cX11_way 77 = .ok (.iconst (-1), 1) := by decide +kernel
theorem dX11_way_78 : decode cX11_way 78 = .ok (.goto 15, 3) := by decide +kernel
theorem dX11_way_81 : decode cX11_way 81 = .ok (.aload_n 0, 1) := by decide +kernel
theorem dX11_way_82 : decode cX11_way 82 = .ok (.getfield 77, 3) := by decide +kernel
theorem dX11_way_85 : decode cX11_way 85 = .ok (.iload_n 1, 1) := by decide +kernel
theorem dX11_way_86 : decode cX11_way 86 = .ok (.iload_n 2, 1) := by decide +kernel
theorem dX11_way_87 : decode cX11_way 87 = .ok (.iload 4, 2) := by decide +kernel
theorem dX11_way_89 : decode cX11_way 89 = .ok (.iload_n 3, 1) := by decide +kernel
theorem dX11_way_90 : decode cX11_way 90 = .ok (.invokevirtual 253, 3) := by decide +kernel
theorem dX11_way_93 : decode cX11_way 93 = .ok (.ireturn, 1) := by decide +kernel
theorem dX11_leave_0 : decode cX11_leave 0 = .ok (.aload_n 0, 1) := by decide +kernel
theorem dX11_leave_1 : decode cX11_leave 1 = .ok (.iload_n 1, 1) := by decide +kernel
theorem dX11_leave_2 : decode cX11_leave 2 = .ok (.invokevirtual 243, 3) := by decide +kernel
theorem dX11_leave_5 : decode cX11_leave 5 = .ok (.ifCond .eq 18, 3) := by decide +kernel
theorem dX11_leave_8 : decode cX11_leave 8 = .ok (.aload_n 0, 1) := by decide +kernel
theorem dX11_leave_9 : decode cX11_leave 9 = .ok (.iload_n 2, 1) := by decide +kernel
theorem dX11_leave_10 : decode cX11_leave 10 = .ok (.invokevirtual 243, 3) := by decide +kernel
theorem dX11_leave_13 : decode cX11_leave 13 = .ok (.ifCond .eq 10, 3) := by decide +kernel
theorem dX11_leave_16 : decode cX11_leave 16 = .ok (.iload_n 3, 1) := by decide +kernel
theorem dX11_leave_17 : decode cX11_leave 17 = .ok (.invokestatic 237, 3) := by decide +kernel
theorem dX11_leave_20 : decode cX11_leave 20 = .ok (.ifCond .ne 5, 3) := by decide +kernel
theorem dX11_leave_23 : decode cX11_leave 23 = .ok (.iconst (-1), 1) := by decide +kernel
theorem dX11_leave_24 : decode cX11_leave 24 = .ok (.ireturn, 1) := by decide +kernel
theorem dX11_leave_25 : decode cX11_leave 25 = .ok (.aload_n 0, 1) := by decide +kernel
theorem dX11_leave_26 : decode cX11_leave 26 = .ok (.getfield 77, 3) := by decide +kernel
theorem dX11_leave_29 : decode cX11_leave 29 = .ok (.aload_n 0, 1) := by decide +kernel
theorem dX11_leave_30 : decode cX11_leave 30 = .ok (.getfield 44, 3) := by decide +kernel
theorem dX11_leave_33 : decode cX11_leave 33 = .ok (.invokevirtual 246, 3) := by decide +kernel
theorem dX11_leave_36 : decode cX11_leave 36 = .ok (.aload_n 0, 1) := by decide +kernel
theorem dX11_leave_37 : decode cX11_leave 37 = .ok (.getfield 77, 3) := by decide +kernel
theorem dX11_leave_40 : decode cX11_leave 40 = .ok (.iload_n 1, 1) := by decide +kernel
theorem dX11_leave_41 : decode cX11_leave 41 = .ok (.iload_n 2, 1) := by decide +kernel
theorem dX11_leave_42 : decode cX11_leave 42 = .ok (.invokevirtual 257, 3) := by decide +kernel
theorem dX11_leave_45 : decode cX11_leave 45 = .ok (.istore 4, 2) := by decide +kernel
theorem dX11_leave_47 : decode cX11_leave 47 = .ok (.iload 4, 2) := by decide +kernel
theorem dX11_leave_49 : decode cX11_leave 49 = .ok (.iconst (-1), 1) := by decide +kernel
theorem dX11_leave_50 : decode cX11_leave 50 = .ok (.if_icmp .ne 6, 3) := by decide +kernel
theorem dX11_leave_53 : decode cX11_leave 53 = .ok (.bipush (-2), 2) := by decide +kernel
theorem dX11_leave_55 : decode cX11_leave 55 = .ok (.ireturn, 1) := by decide +kernel
theorem dX11_leave_56 : decode cX11_leave 56 = .ok (.iload_n 3, 1) := by decide +kernel
theorem dX11_leave_57 : decode cX11_leave 57 = .ok (.ifCond .ne 8, 3) := by decide +kernel
theorem dX11_leave_60 : decode cX11_leave 60 = .ok (.iload 4, 2) := by decide +kernel
theorem dX11_leave_62 : decode cX11_leave 62 = .ok (.goto 25, 3) := by decide +kernel
theorem dX11_leave_65 : decode cX11_leave 65 = .ok (.aload_n 0, 1) := by decide +kernel
theorem dX11_leave_66 : decode cX11_leave 66 = .ok (.getfield 77, 3) := by decide +kernel
theorem dX11_leave_69 : decode cX11_leave 69 = .ok (.iload_n 1, 1) := by decide +kernel
theorem dX11_leave_70 : decode cX11_leave 70 = .ok (.iload_n 2, 1) := by decide +kernel
theorem dX11_leave_71 : decode cX11_leave 71 = .ok (.aload_n 0, 1) := by decide +kernel
theorem dX11_leave_72 : decode cX11_leave 72 = .ok (.getfield 44, 3) := by decide +kernel
theorem dX11_leave_75 : decode cX11_leave 75 = .ok (.getfield 139, 3) := by decide +kernel
theorem dX11_leave_78 : decode cX11_leave 78 = .ok (.iload 4, 2) := by decide +kernel
theorem dX11_leave_80 : decode cX11_leave 80 = .ok (.iadd, 1) := by decide +kernel
theorem dX11_leave_81 : decode cX11_leave 81 = .ok (.iconst 0, 1) := by decide +kernel
theorem dX11_leave_82 : decode cX11_leave 82 = .ok (.bipush 100, 2) := by decide +kernel
theorem dX11_leave_84 : decode cX11_leave 84 = .ok (.invokevirtual 249, 3) := by decide +kernel
theorem dX11_leave_87 : decode cX11_leave 87 = .ok (.ireturn, 1) := by decide +kernel
theorem dX11_mows_0 : decode cX11_mows 0 = .ok (.aload_n 0, 1) := by decide +kernel
theorem dX11_mows_1 : decode cX11_mows 1 = .ok (.iload_n 1, 1) := by decide +kernel
theorem dX11_mows_2 : decode cX11_mows 2 = .ok (.invokevirtual 243, 3) := by decide +kernel
theorem dX11_mows_5 : decode cX11_mows 5 = .ok (.ifCond .eq 26, 3) := by decide +kernel
theorem dX11_mows_8 : decode cX11_mows 8 = .ok (.aload_n 0, 1) := by decide +kernel
theorem dX11_mows_9 : decode cX11_mows 9 = .ok (.iload_n 2, 1) := by decide +kernel
theorem dX11_mows_10 : decode cX11_mows 10 = .ok (.invokevirtual 243, 3) := by decide +kernel
theorem dX11_mows_13 : decode cX11_mows 13 = .ok (.ifCond .eq 18, 3) := by decide +kernel
theorem dX11_mows_16 : decode cX11_mows 16 = .ok (.iload_n 3, 1) := by decide +kernel
theorem dX11_mows_17 : decode cX11_mows 17 = .ok (.invokestatic 226, 3) := by decide +kernel
theorem dX11_mows_20 : decode cX11_mows 20 = .ok (.ifCond .eq 11, 3) := by decide +kernel
theorem dX11_mows_23 : decode cX11_mows 23 = .ok (.iload 4, 2) := by decide +kernel
theorem dX11_mows_25 : decode cX11_mows 25 = .ok (.invokestatic 237, 3) := by decide +kernel
theorem dX11_mows_28 : decode cX11_mows 28 = .ok (.ifCond .ne 5, 3) := by decide +kernel
theorem dX11_mows_31 : decode cX11_mows 31 = .ok (.iconst (-1), 1) := by decide +kernel
theorem dX11_mows_32 : decode cX11_mows 32 = .ok (.ireturn, 1) := by decide +kernel
theorem dX11_mows_33 : decode cX11_mows 33 = .ok (.aload_n 0, 1) := by decide +kernel
theorem dX11_mows_34 : decode cX11_mows 34 = .ok (.getfield 77, 3) := by decide +kernel
theorem dX11_mows_37 : decode cX11_mows 37 = .ok (.aload_n 0, 1) := by decide +kernel
theorem dX11_mows_38 : decode cX11_mows 38 = .ok (.getfield 44, 3) := by decide +kernel
theorem dX11_mows_41 : decode cX11_mows 41 = .ok (.invokevirtual 246, 3) := by decide +kernel
theorem dX11_mows_44 : decode cX11_mows 44 = .ok (.aload_n 0, 1) := by decide +kernel
theorem dX11_mows_45 : decode cX11_mows 45 = .ok (.getfield 77, 3) := by decide +kernel
theorem dX11_mows_48 : decode cX11_mows 48 = .ok (.iload_n 1, 1) := by decide +kernel
theorem dX11_mows_49 : decode cX11_mows 49 = .ok (.iload_n 2, 1) := by decide +kernel
theorem dX11_mows_50 : decode cX11_mows 50 = .ok (.iload_n 3, 1) := by decide +kernel
theorem dX11_mows_51 : decode cX11_mows 51 = .ok (.aload_n 0, 1) := by decide +kernel
theorem dX11_mows_52 : decode cX11_mows 52 = .ok (.getfield 44, 3) := by decide +kernel
theorem dX11_mows_55 : decode cX11_mows 55 = .ok (.getfield 183, 3) := by decide +kernel
theorem dX11_mows_58 : decode cX11_mows 58 = .ok (.invokevirtual 260, 3) := by decide +kernel
theorem dX11_mows_61 : decode cX11_mows 61 = .ok (.istore 5, 2) := by decide +kernel
theorem dX11_mows_63 : decode cX11_mows 63 = .ok (.iload 5, 2) := by decide +kernel
theorem dX11_mows_65 : decode cX11_mows 65 = .ok (.iconst (-1), 1) := by decide +kernel
theorem dX11_mows_66 : decode cX11_mows 66 = .ok (.if_icmp .ne 6, 3) := by decide +kernel
theorem dX11_mows_69 : decode cX11_mows 69 = .ok (.bipush (-2), 2) := by decide +kernel
theorem dX11_mows_71 : decode cX11_mows 71 = .ok (.ireturn, 1) := by decide +kernel
theorem dX11_mows_72 : decode cX11_mows 72 = .ok (.iload 4, 2) := by decide +kernel
theorem dX11_mows_74 : decode cX11_mows 74 = .ok (.ifCond .ne 11, 3) := by decide +kernel
theorem dX11_mows_77 : decode cX11_mows 77 = .ok (.iload 5, 2) := by decide +kernel
theorem dX11_mows_79 : decode cX11_mows 79 = .ok (.invokestatic 196, 3) := by decide +kernel
theorem dX11_mows_82 : decode cX11_mows 82 = .ok (.goto 5, 3) := by decide +kernel
theorem dX11_mows_85 : decode cX11_mows 85 = .ok (.iload 5, 2) := by decide +kernel
theorem dX11_mows_87 : decode cX11_mows 87 = .ok (.ireturn, 1) := by decide +kernel
theorem dX11_meet_0 : decode cX11_meet 0 = .ok (.aload_n 0, 1) := by decide +kernel
theorem dX11_meet_1 : decode cX11_meet 1 = .ok (.getfield 32, 3) := by decide +kernel
theorem dX11_meet_4 : decode cX11_meet 4 = .ok (.iload_n 1, 1) := by decide +kernel
theorem dX11_meet_5 : decode cX11_meet 5 = .ok (.invokevirtual 160, 3) := by decide +kernel
theorem dX11_meet_8 : decode cX11_meet 8 = .ok (.ifCond .eq 21, 3) := by decide +kernel
theorem dX11_meet_11 : decode cX11_meet 11 = .ok (.aload_n 0, 1) := by decide +kernel
theorem dX11_meet_12 : decode cX11_meet 12 = .ok (.getfield 32, 3) := by decide +kernel
theorem dX11_meet_15 : decode cX11_meet 15 = .ok (.iload_n 2, 1) := by decide +kernel
theorem dX11_meet_16 : decode cX11_meet 16 = .ok (.invokevirtual 160, 3) := by decide +kernel
theorem dX11_meet_19 : decode cX11_meet 19 = .ok (.ifCond .eq 10, 3) := by decide +kernel
theorem dX11_meet_22 : decode cX11_meet 22 = .ok (.iload_n 3, 1) := by decide +kernel
theorem dX11_meet_23 : decode cX11_meet 23 = .ok (.invokestatic 237, 3) := by decide +kernel
theorem dX11_meet_26 : decode cX11_meet 26 = .ok (.ifCond .ne 5, 3) := by decide +kernel
theorem dX11_meet_29 : decode cX11_meet 29 = .ok (.iconst (-1), 1) := by decide +kernel
theorem dX11_meet_30 : decode cX11_meet 30 = .ok (.ireturn, 1) := by decide +kernel
theorem dX11_meet_31 : decode cX11_meet 31 = .ok (.aload_n 0, 1) := by decide +kernel
theorem dX11_meet_32 : decode cX11_meet 32 = .ok (.getfield 77, 3) := by decide +kernel
theorem dX11_meet_35 : decode cX11_meet 35 = .ok (.aload_n 0, 1) := by decide +kernel
theorem dX11_meet_36 : decode cX11_meet 36 = .ok (.getfield 44, 3) := by decide +kernel
theorem dX11_meet_39 : decode cX11_meet 39 = .ok (.invokevirtual 246, 3) := by decide +kernel
theorem dX11_meet_42 : decode cX11_meet 42 = .ok (.aload_n 0, 1) := by decide +kernel
theorem dX11_meet_43 : decode cX11_meet 43 = .ok (.getfield 77, 3) := by decide +kernel
theorem dX11_meet_46 : decode cX11_meet 46 = .ok (.aload_n 0, 1) := by decide +kernel
theorem dX11_meet_47 : decode cX11_meet 47 = .ok (.getfield 44, 3) := by decide +kernel
theorem dX11_meet_50 : decode cX11_meet 50 = .ok (.getfield 163, 3) := by decide +kernel
theorem dX11_meet_53 : decode cX11_meet 53 = .ok (.iload_n 1, 1) := by decide +kernel
theorem dX11_meet_54 : decode cX11_meet 54 = .ok (.iaload, 1) := by decide +kernel
theorem dX11_meet_55 : decode cX11_meet 55 = .ok (.aload_n 0, 1) := by decide +kernel
theorem dX11_meet_56 : decode cX11_meet 56 = .ok (.getfield 44, 3) := by decide +kernel
theorem dX11_meet_59 : decode cX11_meet 59 = .ok (.getfield 163, 3) := by decide +kernel
theorem dX11_meet_62 : decode cX11_meet 62 = .ok (.iload_n 2, 1) := by decide +kernel
theorem dX11_meet_63 : decode cX11_meet 63 = .ok (.iaload, 1) := by decide +kernel
theorem dX11_meet_64 : decode cX11_meet 64 = .ok (.invokevirtual 263, 3) := by decide +kernel
theorem dX11_meet_67 : decode cX11_meet 67 = .ok (.ifCond .ne 6, 3) := by decide +kernel
theorem dX11_meet_70 : decode cX11_meet 70 = .ok (.bipush (-2), 2) := by decide +kernel
theorem dX11_meet_72 : decode cX11_meet 72 = .ok (.ireturn, 1) := by decide +kernel
theorem dX11_meet_73 : decode cX11_meet 73 = .ok (.iload_n 3, 1) := by decide +kernel
theorem dX11_meet_74 : decode cX11_meet 74 = .ok (.ifCond .ne 13, 3) := by decide +kernel
theorem dX11_meet_77 : decode cX11_meet 77 = .ok (.aload_n 0, 1) := by decide +kernel
theorem dX11_meet_78 : decode cX11_meet 78 = .ok (.getfield 77, 3) := by decide +kernel
theorem dX11_meet_81 : decode cX11_meet 81 = .ok (.getfield 266, 3) := by decide +kernel
theorem dX11_meet_84 : decode cX11_meet 84 = .ok (.goto 10, 3) := by decide +kernel
theorem dX11_meet_87 : decode cX11_meet 87 = .ok (.aload_n 0, 1) := by decide +kernel
theorem dX11_meet_88 : decode cX11_meet 88 = .ok (.getfield 77, 3) := by decide +kernel
theorem dX11_meet_91 : decode cX11_meet 91 = .ok (.getfield 269, 3) := by decide +kernel
theorem dX11_meet_94 : decode cX11_meet 94 = .ok (.ireturn, 1) := by decide +kernel
theorem dX11_part_0 : decode cX11_part 0 = .ok (.aload_n 0, 1) := by decide +kernel
theorem dX11_part_1 : decode cX11_part 1 = .ok (.iload_n 1, 1) := by decide +kernel
theorem dX11_part_2 : decode cX11_part 2 = .ok (.invokevirtual 243, 3) := by decide +kernel
theorem dX11_part_5 : decode cX11_part 5 = .ok (.ifCond .eq 11, 3) := by decide +kernel
theorem dX11_part_8 : decode cX11_part 8 = .ok (.aload_n 0, 1) := by decide +kernel
theorem dX11_part_9 : decode cX11_part 9 = .ok (.iload_n 2, 1) := by decide +kernel
theorem dX11_part_10 : decode cX11_part 10 = .ok (.invokevirtual 243, 3) := by decide +kernel
theorem dX11_part_13 : decode cX11_part 13 = .ok (.ifCond .ne 5, 3) := by decide +kernel
theorem dX11_part_16 : decode cX11_part 16 = .ok (.iconst (-1), 1) := by decide +kernel
theorem dX11_part_17 : decode cX11_part 17 = .ok (.ireturn, 1) := by decide +kernel
theorem dX11_part_18 : decode cX11_part 18 = .ok (.aload_n 0, 1) := by decide +kernel
theorem dX11_part_19 : decode cX11_part 19 = .ok (.getfield 40, 3) := by decide +kernel
theorem dX11_part_22 : decode cX11_part 22 = .ok (.iconst 1, 1) := by decide +kernel
theorem dX11_part_23 : decode cX11_part 23 = .ok (.iload_n 1, 1) := by decide +kernel
theorem dX11_part_24 : decode cX11_part 24 = .ok (.ishl, 1) := by decide +kernel
theorem dX11_part_25 : decode cX11_part 25 = .ok (.invokevirtual 272, 3) := by decide +kernel
theorem dX11_part_28 : decode cX11_part 28 = .ok (.iload_n 2, 1) := by decide +kernel
theorem dX11_part_29 : decode cX11_part 29 = .ok (.iushr, 1) := by decide +kernel
theorem dX11_part_30 : decode cX11_part 30 = .ok (.iconst 1, 1) := by decide +kernel
theorem dX11_part_31 : decode cX11_part 31 = .ok (.iand, 1) := by decide +kernel
theorem dX11_part_32 : decode cX11_part 32 = .ok (.ifCond .eq 6, 3) := by decide +kernel
theorem dX11_part_35 : decode cX11_part 35 = .ok (.bipush (-2), 2) := by decide +kernel
theorem dX11_part_37 : decode cX11_part 37 = .ok (.ireturn, 1) := by decide +kernel
theorem dX11_part_38 : decode cX11_part 38 = .ok (.aload_n 0, 1) := by decide +kernel
theorem dX11_part_39 : decode cX11_part 39 = .ok (.getfield 84, 3) := by decide +kernel
theorem dX11_part_42 : decode cX11_part 42 = .ok (.aload_n 0, 1) := by decide +kernel
theorem dX11_part_43 : decode cX11_part 43 = .ok (.getfield 40, 3) := by decide +kernel
theorem dX11_part_46 : decode cX11_part 46 = .ok (.getfield 211, 3) := by decide +kernel
theorem dX11_part_49 : decode cX11_part 49 = .ok (.aload_n 0, 1) := by decide +kernel
theorem dX11_part_50 : decode cX11_part 50 = .ok (.getfield 44, 3) := by decide +kernel
theorem dX11_part_53 : decode cX11_part 53 = .ok (.getfield 186, 3) := by decide +kernel
theorem dX11_part_56 : decode cX11_part 56 = .ok (.iconst (-1), 1) := by decide +kernel
theorem dX11_part_57 : decode cX11_part 57 = .ok (.ixor, 1) := by decide +kernel
theorem dX11_part_58 : decode cX11_part 58 = .ok (.iand, 1) := by decide +kernel
theorem dX11_part_59 : decode cX11_part 59 = .ok (.iload_n 1, 1) := by decide +kernel
theorem dX11_part_60 : decode cX11_part 60 = .ok (.iload_n 2, 1) := by decide +kernel
theorem dX11_part_61 : decode cX11_part 61 = .ok (.invokevirtual 275, 3) := by decide +kernel
theorem dX11_part_64 : decode cX11_part 64 = .ok (.ireturn, 1) := by decide +kernel
theorem dX11_far_0 : decode cX11_far 0 = .ok (.aload_n 0, 1) := by decide +kernel
theorem dX11_far_1 : decode cX11_far 1 = .ok (.getfield 40, 3) := by decide +kernel
theorem dX11_far_4 : decode cX11_far 4 = .ok (.iload_n 1, 1) := by decide +kernel
theorem dX11_far_5 : decode cX11_far 5 = .ok (.invokevirtual 124, 3) := by decide +kernel
theorem dX11_far_8 : decode cX11_far 8 = .ok (.ifCond .eq 14, 3) := by decide +kernel
theorem dX11_far_11 : decode cX11_far 11 = .ok (.aload_n 0, 1) := by decide +kernel
theorem dX11_far_12 : decode cX11_far 12 = .ok (.getfield 40, 3) := by decide +kernel
theorem dX11_far_15 : decode cX11_far 15 = .ok (.iload_n 2, 1) := by decide +kernel
theorem dX11_far_16 : decode cX11_far 16 = .ok (.invokevirtual 124, 3) := by decide +kernel
theorem dX11_far_19 : decode cX11_far 19 = .ok (.ifCond .ne 5, 3) := by decide +kernel
theorem dX11_far_22 : decode cX11_far 22 = .ok (.iconst (-1), 1) := by decide +kernel
theorem dX11_far_23 : decode cX11_far 23 = .ok (.ireturn, 1) := by decide +kernel
theorem dX11_far_24 : decode cX11_far 24 = .ok (.aload_n 0, 1) := by decide +kernel
theorem dX11_far_25 : decode cX11_far 25 = .ok (.getfield 40, 3) := by decide +kernel
theorem dX11_far_28 : decode cX11_far 28 = .ok (.iload_n 1, 1) := by decide +kernel
theorem dX11_far_29 : decode cX11_far 29 = .ok (.iload_n 2, 1) := by decide +kernel
theorem dX11_far_30 : decode cX11_far 30 = .ok (.aload_n 0, 1) := by decide +kernel
theorem dX11_far_31 : decode cX11_far 31 = .ok (.getfield 40, 3) := by decide +kernel
theorem dX11_far_34 : decode cX11_far 34 = .ok (.getfield 211, 3) := by decide +kernel
theorem dX11_far_37 : decode cX11_far 37 = .ok (.aload_n 0, 1) := by decide +kernel
theorem dX11_far_38 : decode cX11_far 38 = .ok (.getfield 44, 3) := by decide +kernel
theorem dX11_far_41 : decode cX11_far 41 = .ok (.getfield 186, 3) := by decide +kernel
theorem dX11_far_44 : decode cX11_far 44 = .ok (.iconst (-1), 1) := by decide +kernel
theorem dX11_far_45 : decode cX11_far 45 = .ok (.ixor, 1) := by decide +kernel
theorem dX11_far_46 : decode cX11_far 46 = .ok (.iand, 1) := by decide +kernel
theorem dX11_far_47 : decode cX11_far 47 = .ok (.iconst 1, 1) := by decide +kernel
theorem dX11_far_48 : decode cX11_far 48 = .ok (.iload_n 2, 1) := by decide +kernel
theorem dX11_far_49 : decode cX11_far 49 = .ok (.ishl, 1) := by decide +kernel
theorem dX11_far_50 : decode cX11_far 50 = .ok (.ior, 1) := by decide +kernel
theorem dX11_far_51 : decode cX11_far 51 = .ok (.invokevirtual 279, 3) := by decide +kernel
theorem dX11_far_54 : decode cX11_far 54 = .ok (.istore_n 3, 1) := by decide +kernel
theorem dX11_far_55 : decode cX11_far 55 = .ok (.iload_n 3, 1) := by decide +kernel
theorem dX11_far_56 : decode cX11_far 56 = .ok (.iconst (-1), 1) := by decide +kernel
theorem dX11_far_57 : decode cX11_far 57 = .ok (.if_icmp .ne 8, 3) := by decide +kernel
theorem dX11_far_60 : decode cX11_far 60 = .ok (.bipush (-2), 2) := by decide +kernel
theorem dX11_far_62 : decode cX11_far 62 = .ok (.goto 4, 3) := by decide +kernel
theorem dX11_far_65 : decode cX11_far 65 = .ok (.iload_n 3, 1) := by decide +kernel
theorem dX11_far_66 : decode cX11_far 66 = .ok (.ireturn, 1) := by decide +kernel
theorem dX11_centre_0 : decode cX11_centre 0 = .ok (.iload_n 1, 1) := by decide +kernel
theorem dX11_centre_1 : decode cX11_centre 1 = .ok (.invokestatic 237, 3) := by decide +kernel
theorem dX11_centre_4 : decode cX11_centre 4 = .ok (.ifCond .ne 5, 3) := by decide +kernel
theorem dX11_centre_7 : decode cX11_centre 7 = .ok (.iconst (-1), 1) := by decide +kernel
theorem dX11_centre_8 : decode cX11_centre 8 = .ok (.ireturn, 1) := by decide +kernel
theorem dX11_centre_9 : decode cX11_centre 9 = .ok (.aload_n 0, 1) := by decide +kernel
theorem dX11_centre_10 : decode cX11_centre 10 = .ok (.getfield 40, 3) := by decide +kernel
theorem dX11_centre_13 : decode cX11_centre 13 = .ok (.getfield 211, 3) := by decide +kernel
theorem dX11_centre_16 : decode cX11_centre 16 = .ok (.aload_n 0, 1) := by decide +kernel
theorem dX11_centre_17 : decode cX11_centre 17 = .ok (.getfield 44, 3) := by decide +kernel
theorem dX11_centre_20 : decode cX11_centre 20 = .ok (.getfield 186, 3) := by decide +kernel
theorem dX11_centre_23 : decode cX11_centre 23 = .ok (.iconst (-1), 1) := by decide +kernel
theorem dX11_centre_24 : decode cX11_centre 24 = .ok (.ixor, 1) := by decide +kernel
theorem dX11_centre_25 : decode cX11_centre 25 = .ok (.iand, 1) := by decide +kernel
theorem dX11_centre_26 : decode cX11_centre 26 = .ok (.istore_n 2, 1) := by decide +kernel
theorem dX11_centre_27 : decode cX11_centre 27 = .ok (.bipush (-2), 2) := by decide +kernel
theorem dX11_centre_29 : decode cX11_centre 29 = .ok (.istore_n 3, 1) := by decide +kernel
theorem dX11_centre_30 : decode cX11_centre 30 = .ok (.bipush (-2), 2) := by decide +kernel
theorem dX11_centre_32 : decode cX11_centre 32 = .ok (.istore 4, 2) := by decide +kernel
theorem dX11_centre_34 : decode cX11_centre 34 = .ok (.iconst 0, 1) := by decide +kernel
theorem dX11_centre_35 : decode cX11_centre 35 = .ok (.istore 5, 2) := by decide +kernel
theorem dX11_centre_37 : decode cX11_centre 37 = .ok (.iload 5, 2) := by decide +kernel
theorem dX11_centre_39 : decode cX11_centre 39 = .ok (.bipush 25, 2) := by decide +kernel
theorem dX11_centre_41 : decode cX11_centre 41 = .ok (.if_icmp .ge 50, 3) := by decide +kernel
theorem dX11_centre_44 : decode cX11_centre 44 = .ok (.iload_n 2, 1) := by decide +kernel
theorem dX11_centre_45 : decode cX11_centre 45 = .ok (.iload 5, 2) := by decide +kernel
theorem dX11_centre_47 : decode cX11_centre 47 = .ok (.iushr, 1) := by decide +kernel
theorem dX11_centre_48 : decode cX11_centre 48 = .ok (.iconst 1, 1) := by decide +kernel
theorem dX11_centre_49 : decode cX11_centre 49 = .ok (.iand, 1) := by decide +kernel
theorem dX11_centre_50 : decode cX11_centre 50 = .ok (.ifCond .eq 35, 3) := by decide +kernel
theorem dX11_centre_53 : decode cX11_centre 53 = .ok (.aload_n 0, 1) := by decide +kernel
theorem dX11_centre_54 : decode cX11_centre 54 = .ok (.getfield 40, 3) := by decide +kernel
theorem dX11_centre_57 : decode cX11_centre 57 = .ok (.iload 5, 2) := by decide +kernel
theorem dX11_centre_59 : decode cX11_centre 59 = .ok (.iload_n 2, 1) := by decide +kernel
theorem dX11_centre_60 : decode cX11_centre 60 = .ok (.invokevirtual 282, 3) := by decide +kernel
theorem dX11_centre_63 : decode cX11_centre 63 = .ok (.istore 6, 2) := by decide +kernel
theorem dX11_centre_65 : decode cX11_centre 65 = .ok (.iload_n 3, 1) := by decide +kernel
theorem dX11_centre_66 : decode cX11_centre 66 = .ok (.bipush (-2), 2) := by decide +kernel
theorem dX11_centre_68 : decode cX11_centre 68 = .ok (.if_icmp .eq 10, 3) := by decide +kernel
theorem dX11_centre_71 : decode cX11_centre 71 = .ok (.iload 6, 2) := by decide +kernel
theorem dX11_centre_73 : decode cX11_centre 73 = .ok (.iload 4, 2) := by decide +kernel
theorem dX11_centre_75 : decode cX11_centre 75 = .ok (.if_icmp .ge 10, 3) := by decide +kernel
theorem dX11_centre_78 : decode cX11_centre 78 = .ok (.iload 5, 2) := by decide +kernel
theorem dX11_centre_80 : decode cX11_centre 80 = .ok (.istore_n 3, 1) := by decide +kernel
theorem dX11_centre_81 : decode cX11_centre 81 = .ok (.iload 6, 2) := by decide +kernel
theorem dX11_centre_83 : decode cX11_centre 83 = .ok (.istore 4, 2) := by decide +kernel
theorem dX11_centre_85 : decode cX11_centre 85 = .ok (.iinc 5 1, 3) := by decide +kernel
theorem dX11_centre_88 : decode cX11_centre 88 = .ok (.goto (-51), 3) := by decide +kernel
theorem dX11_centre_91 : decode cX11_centre 91 = .ok (.iload_n 1, 1) := by decide +kernel
theorem dX11_centre_92 : decode cX11_centre 92 = .ok (.ifCond .ne 7, 3) := by decide +kernel
theorem dX11_centre_95 : decode cX11_centre 95 = .ok (.iload_n 3, 1) := by decide +kernel
theorem dX11_centre_96 : decode cX11_centre 96 = .ok (.goto 5, 3) := by decide +kernel
theorem dX11_centre_99 : decode cX11_centre 99 = .ok (.iload 4, 2) := by decide +kernel
theorem dX11_centre_101 : decode cX11_centre 101 = .ok (.ireturn, 1) := by decide +kernel
theorem dX11_isFree_0 : decode cX11_isFree 0 = .ok (.aload_n 0, 1) := by decide +kernel
theorem dX11_isFree_1 : decode cX11_isFree 1 = .ok (.getfield 40, 3) := by decide +kernel
theorem dX11_isFree_4 : decode cX11_isFree 4 = .ok (.iload_n 1, 1) := by decide +kernel
theorem dX11_isFree_5 : decode cX11_isFree 5 = .ok (.invokevirtual 124, 3) := by decide +kernel
theorem dX11_isFree_8 : decode cX11_isFree 8 = .ok (.ifCond .eq 18, 3) := by decide +kernel
theorem dX11_isFree_11 : decode cX11_isFree 11 = .ok (.aload_n 0, 1) := by decide +kernel
theorem dX11_isFree_12 : decode cX11_isFree 12 = .ok (.getfield 44, 3) := by decide +kernel
theorem dX11_isFree_15 : decode cX11_isFree 15 = .ok (.iload_n 1, 1) := by decide +kernel
theorem dX11_isFree_16 : decode cX11_isFree 16 = .ok (.invokevirtual 146, 3) := by decide +kernel
theorem dX11_isFree_19 : decode cX11_isFree 19 = .ok (.ifCond .ne 7, 3) := by decide +kernel
theorem dX11_isFree_22 : decode cX11_isFree 22 = .ok (.iconst 1, 1) := by decide +kernel
theorem dX11_isFree_23 : decode cX11_isFree 23 = .ok (.goto 4, 3) := by decide +kernel
theorem dX11_isFree_26 : decode cX11_isFree 26 = .ok (.iconst 0, 1) := by decide +kernel
theorem dX11_isFree_27 : decode cX11_isFree 27 = .ok (.ireturn, 1) := by decide +kernel
theorem dX11_returns_0 : decode cX11_returns 0 = .ok (.aload_n 0, 1) := by decide +kernel
theorem dX11_returns_1 : decode cX11_returns 1 = .ok (.getfield 32, 3) := by decide +kernel
theorem dX11_returns_4 : decode cX11_returns 4 = .ok (.iload_n 1, 1) := by decide +kernel
theorem dX11_returns_5 : decode cX11_returns 5 = .ok (.invokevirtual 160, 3) := by decide +kernel
theorem dX11_returns_8 : decode cX11_returns 8 = .ok (.ifCond .ne 5, 3) := by decide +kernel
theorem dX11_returns_11 : decode cX11_returns 11 = .ok (.iconst (-1), 1) := by decide +kernel
theorem dX11_returns_12 : decode cX11_returns 12 = .ok (.ireturn, 1) := by decide +kernel
theorem dX11_returns_13 : decode cX11_returns 13 = .ok (.aload_n 0, 1) := by decide +kernel
theorem dX11_returns_14 : decode cX11_returns 14 = .ok (.getfield 48, 3) := by decide +kernel
theorem dX11_returns_17 : decode cX11_returns 17 = .ok (.aload_n 0, 1) := by decide +kernel
theorem dX11_returns_18 : decode cX11_returns 18 = .ok (.getfield 44, 3) := by decide +kernel
theorem dX11_returns_21 : decode cX11_returns 21 = .ok (.invokevirtual 119, 3) := by decide +kernel
theorem dX11_returns_24 : decode cX11_returns 24 = .ok (.iconst 1, 1) := by decide +kernel
theorem dX11_returns_25 : decode cX11_returns 25 = .ok (.istore_n 2, 1) := by decide +kernel
theorem dX11_returns_26 : decode cX11_returns 26 = .ok (.iload_n 2, 1) := by decide +kernel
theorem dX11_returns_27 : decode cX11_returns 27 = .ok (.bipush 100, 2) := by decide +kernel
theorem dX11_returns_29 : decode cX11_returns 29 = .ok (.if_icmp .gt 43, 3) := by decide +kernel
theorem dX11_returns_32 : decode cX11_returns 32 = .ok (.aload_n 0, 1) := by decide +kernel
theorem dX11_returns_33 : decode cX11_returns 33 = .ok (.getfield 32, 3) := by decide +kernel
theorem dX11_returns_36 : decode cX11_returns 36 = .ok (.aload_n 0, 1) := by decide +kernel
theorem dX11_returns_37 : decode cX11_returns 37 = .ok (.getfield 48, 3) := by decide +kernel
theorem dX11_returns_40 : decode cX11_returns 40 = .ok (.invokevirtual 285, 3) := by decide +kernel
theorem dX11_returns_43 : decode cX11_returns 43 = .ok (.aload_n 0, 1) := by decide +kernel
theorem dX11_returns_44 : decode cX11_returns 44 = .ok (.getfield 48, 3) := by decide +kernel
theorem dX11_returns_47 : decode cX11_returns 47 = .ok (.getfield 163, 3) := by decide +kernel
theorem dX11_returns_50 : decode cX11_returns 50 = .ok (.iload_n 1, 1) := by decide +kernel
theorem dX11_returns_51 : decode cX11_returns 51 = .ok (.iaload, 1) := by decide +kernel
theorem dX11_returns_52 : decode cX11_returns 52 = .ok (.aload_n 0, 1) := by decide +kernel
theorem dX11_returns_53 : decode cX11_returns 53 = .ok (.getfield 44, 3) := by decide +kernel
theorem dX11_returns_56 : decode cX11_returns 56 = .ok (.getfield 163, 3) := by decide +kernel
theorem dX11_returns_59 : decode cX11_returns 59 = .ok (.iload_n 1, 1) := by decide +kernel
theorem dX11_returns_60 : decode cX11_returns 60 = .ok (.iaload, 1) := by decide +kernel
theorem dX11_returns_61 : decode cX11_returns 61 = .ok (.if_icmp .ne 5, 3) := by decide +kernel
theorem dX11_returns_64 : decode cX11_returns 64 = .ok (.iload_n 2, 1) := by decide +kernel
theorem dX11_returns_65 : decode cX11_returns 65 = .ok (.ireturn, 1) := by decide +kernel
theorem dX11_returns_66 : decode cX11_returns 66 = .ok (.iinc 2 1, 3) := by decide +kernel
theorem dX11_returns_69 : decode cX11_returns 69 = .ok (.goto (-43), 3) := by decide +kernel
theorem dX11_returns_72 : decode cX11_returns 72 = .ok (.bipush (-2), 2) := by decide +kernel
theorem dX11_returns_74 : decode cX11_returns 74 = .ok (.ireturn, 1) := by decide +kernel
theorem dX11_never_0 : decode cX11_never 0 = .ok (.iload_n 1, 1) := by decide +kernel
theorem dX11_never_1 : decode cX11_never 1 = .ok (.invokestatic 226, 3) := by decide +kernel
theorem dX11_never_4 : decode cX11_never 4 = .ok (.ifCond .ne 5, 3) := by decide +kernel
theorem dX11_never_7 : decode cX11_never 7 = .ok (.iconst (-1), 1) := by decide +kernel
theorem dX11_never_8 : decode cX11_never 8 = .ok (.ireturn, 1) := by decide +kernel
theorem dX11_never_9 : decode cX11_never 9 = .ok (.aload_n 0, 1) := by decide +kernel
theorem dX11_never_10 : decode cX11_never 10 = .ok (.getfield 48, 3) := by decide +kernel
theorem dX11_never_13 : decode cX11_never 13 = .ok (.aload_n 0, 1) := by decide +kernel
theorem dX11_never_14 : decode cX11_never 14 = .ok (.getfield 44, 3) := by decide +kernel
theorem dX11_never_17 : decode cX11_never 17 = .ok (.invokevirtual 119, 3) := by decide +kernel
theorem dX11_never_20 : decode cX11_never 20 = .ok (.aload_n 0, 1) := by decide +kernel
theorem dX11_never_21 : decode cX11_never 21 = .ok (.getfield 48, 3) := by decide +kernel
theorem dX11_never_24 : decode cX11_never 24 = .ok (.aload_n 0, 1) := by decide +kernel
theorem dX11_never_25 : decode cX11_never 25 = .ok (.getfield 32, 3) := by decide +kernel
theorem dX11_never_28 : decode cX11_never 28 = .ok (.getfield 149, 3) := by decide +kernel
theorem dX11_never_31 : decode cX11_never 31 = .ok (.invokevirtual 189, 3) := by decide +kernel
theorem dX11_never_34 : decode cX11_never 34 = .ok (.istore_n 2, 1) := by decide +kernel
theorem dX11_never_35 : decode cX11_never 35 = .ok (.iconst 1, 1) := by decide +kernel
theorem dX11_never_36 : decode cX11_never 36 = .ok (.istore_n 3, 1) := by decide +kernel
theorem dX11_never_37 : decode cX11_never 37 = .ok (.iload_n 3, 1) := by decide +kernel
theorem dX11_never_38 : decode cX11_never 38 = .ok (.iload_n 1, 1) := by decide +kernel
theorem dX11_never_39 : decode cX11_never 39 = .ok (.if_icmp .gt 37, 3) := by decide +kernel
theorem dX11_never_42 : decode cX11_never 42 = .ok (.aload_n 0, 1) := by decide +kernel
theorem dX11_never_43 : decode cX11_never 43 = .ok (.getfield 32, 3) := by decide +kernel
theorem dX11_never_46 : decode cX11_never 46 = .ok (.aload_n 0, 1) := by decide +kernel
theorem dX11_never_47 : decode cX11_never 47 = .ok (.getfield 48, 3) := by decide +kernel
theorem dX11_never_50 : decode cX11_never 50 = .ok (.invokevirtual 285, 3) := by decide +kernel
theorem dX11_never_53 : decode cX11_never 53 = .ok (.iload_n 2, 1) := by decide +kernel
theorem dX11_never_54 : decode cX11_never 54 = .ok (.aload_n 0, 1) := by decide +kernel
theorem dX11_never_55 : decode cX11_never 55 = .ok (.getfield 48, 3) := by decide +kernel
theorem dX11_never_58 : decode cX11_never 58 = .ok (.aload_n 0, 1) := by decide +kernel
theorem dX11_never_59 : decode cX11_never 59 = .ok (.getfield 32, 3) := by decide +kernel
theorem dX11_never_62 : decode cX11_never 62 = .ok (.getfield 149, 3) := by decide +kernel
theorem dX11_never_65 : decode cX11_never 65 = .ok (.invokevirtual 189, 3) := by decide +kernel
theorem dX11_never_68 : decode cX11_never 68 = .ok (.ior, 1) := by decide +kernel
theorem dX11_never_69 : decode cX11_never 69 = .ok (.istore_n 2, 1) := by decide +kernel
theorem dX11_never_70 : decode cX11_never 70 = .ok (.iinc 3 1, 3) := by decide +kernel
theorem dX11_never_73 : decode cX11_never 73 = .ok (.goto (-36), 3) := by decide +kernel
theorem dX11_never_76 : decode cX11_never 76 = .ok (.aload_n 0, 1) := by decide +kernel
theorem dX11_never_77 : decode cX11_never 77 = .ok (.getfield 40, 3) := by decide +kernel
theorem dX11_never_80 : decode cX11_never 80 = .ok (.getfield 211, 3) := by decide +kernel
theorem dX11_never_83 : decode cX11_never 83 = .ok (.iload_n 2, 1) := by decide +kernel
theorem dX11_never_84 : decode cX11_never 84 = .ok (.iconst (-1), 1) := by decide +kernel
theorem dX11_never_85 : decode cX11_never 85 = .ok (.ixor, 1) := by decide +kernel
theorem dX11_never_86 : decode cX11_never 86 = .ok (.iand, 1) := by decide +kernel
theorem dX11_never_87 : decode cX11_never 87 = .ok (.ireturn, 1) := by decide +kernel
theorem dX11_stood_0 : decode cX11_stood 0 = .ok (.aload_n 0, 1) := by decide +kernel
theorem dX11_stood_1 : decode cX11_stood 1 = .ok (.getfield 32, 3) := by decide +kernel
theorem dX11_stood_4 : decode cX11_stood 4 = .ok (.iload_n 1, 1) := by decide +kernel
theorem dX11_stood_5 : decode cX11_stood 5 = .ok (.invokevirtual 160, 3) := by decide +kernel
theorem dX11_stood_8 : decode cX11_stood 8 = .ok (.ifCond .eq 21, 3) := by decide +kernel
theorem dX11_stood_11 : decode cX11_stood 11 = .ok (.aload_n 0, 1) := by decide +kernel
theorem dX11_stood_12 : decode cX11_stood 12 = .ok (.getfield 40, 3) := by decide +kernel
theorem dX11_stood_15 : decode cX11_stood 15 = .ok (.iload_n 2, 1) := by decide +kernel
theorem dX11_stood_16 : decode cX11_stood 16 = .ok (.invokevirtual 124, 3) := by decide +kernel
theorem dX11_stood_19 : decode cX11_stood 19 = .ok (.ifCond .eq 10, 3) := by decide +kernel
theorem dX11_stood_22 : decode cX11_stood 22 = .ok (.iload_n 3, 1) := by decide +kernel
theorem dX11_stood_23 : decode cX11_stood 23 = .ok (.invokestatic 226, 3) := by decide +kernel
theorem dX11_stood_26 : decode cX11_stood 26 = .ok (.ifCond .ne 5, 3) := by decide +kernel
theorem dX11_stood_29 : decode cX11_stood 29 = .ok (.iconst (-1), 1) := by decide +kernel
theorem dX11_stood_30 : decode cX11_stood 30 = .ok (.ireturn, 1) := by decide +kernel
theorem dX11_stood_31 : decode cX11_stood 31 = .ok (.aload_n 0, 1) := by decide +kernel
theorem dX11_stood_32 : decode cX11_stood 32 = .ok (.getfield 48, 3) := by decide +kernel
theorem dX11_stood_35 : decode cX11_stood 35 = .ok (.aload_n 0, 1) := by decide +kernel
theorem dX11_stood_36 : decode cX11_stood 36 = .ok (.getfield 44, 3) := by decide +kernel
theorem dX11_stood_39 : decode cX11_stood 39 = .ok (.invokevirtual 119, 3) := by decide +kernel
theorem dX11_stood_42 : decode cX11_stood 42 = .ok (.aload_n 0, 1) := by decide +kernel
theorem dX11_stood_43 : decode cX11_stood 43 = .ok (.getfield 48, 3) := by decide +kernel
theorem dX11_stood_46 : decode cX11_stood 46 = .ok (.getfield 163, 3) := by decide +kernel
theorem dX11_stood_49 : decode cX11_stood 49 = .ok (.iload_n 1, 1) := by decide +kernel
theorem dX11_stood_50 : decode cX11_stood 50 = .ok (.iaload, 1) := by decide +kernel
theorem dX11_stood_51 : decode cX11_stood 51 = .ok (.iload_n 2, 1) := by decide +kernel
theorem dX11_stood_52 : decode cX11_stood 52 = .ok (.if_icmp .ne 7, 3) := by decide +kernel
theorem dX11_stood_55 : decode cX11_stood 55 = .ok (.iconst 1, 1) := by decide +kernel
theorem dX11_stood_56 : decode cX11_stood 56 = .ok (.goto 4, 3) := by decide +kernel
theorem dX11_stood_59 : decode cX11_stood 59 = .ok (.iconst 0, 1) := by decide +kernel
theorem dX11_stood_60 : decode cX11_stood 60 = .ok (.istore 4, 2) := by decide +kernel
theorem dX11_stood_62 : decode cX11_stood 62 = .ok (.iconst 1, 1) := by decide +kernel
theorem dX11_stood_63 : decode cX11_stood 63 = .ok (.istore 5, 2) := by decide +kernel
theorem dX11_stood_65 : decode cX11_stood 65 = .ok (.iload 5, 2) := by decide +kernel
theorem dX11_stood_67 : decode cX11_stood 67 = .ok (.iload_n 3, 1) := by decide +kernel
theorem dX11_stood_68 : decode cX11_stood 68 = .ok (.if_icmp .gt 36, 3) := by decide +kernel
theorem dX11_stood_71 : decode cX11_stood 71 = .ok (.aload_n 0, 1) := by decide +kernel
theorem dX11_stood_72 : decode cX11_stood 72 = .ok (.getfield 32, 3) := by decide +kernel
theorem dX11_stood_75 : decode cX11_stood 75 = .ok (.aload_n 0, 1) := by decide +kernel
theorem dX11_stood_76 : decode cX11_stood 76 = .ok (.getfield 48, 3) := by decide +kernel
theorem dX11_stood_79 : decode cX11_stood 79 = .ok (.invokevirtual 285, 3) := by decide +kernel
theorem dX11_stood_82 : decode cX11_stood 82 = .ok (.aload_n 0, 1) := by decide +kernel
theorem dX11_stood_83 : decode cX11_stood 83 = .ok (.getfield 48, 3) := by decide +kernel
theorem dX11_stood_86 : decode cX11_stood 86 = .ok (.getfield 163, 3) := by decide +kernel
theorem dX11_stood_89 : decode cX11_stood 89 = .ok (.iload_n 1, 1) := by decide +kernel
theorem dX11_stood_90 : decode cX11_stood 90 = .ok (.iaload, 1) := by decide +kernel
theorem dX11_stood_91 : decode cX11_stood 91 = .ok (.iload_n 2, 1) := by decide +kernel
theorem dX11_stood_92 : decode cX11_stood 92 = .ok (.if_icmp .ne 6, 3) := by decide +kernel
theorem dX11_stood_95 : decode cX11_stood 95 = .ok (.iinc 4 1, 3) := by decide +kernel
theorem dX11_stood_98 : decode cX11_stood 98 = .ok (.iinc 5 1, 3) := by decide +kernel
theorem dX11_stood_101 : decode cX11_stood 101 = .ok (.goto (-36), 3) := by decide +kernel
theorem dX11_stood_104 : decode cX11_stood 104 = .ok (.iload 4, 2) := by decide +kernel
theorem dX11_stood_106 : decode cX11_stood 106 = .ok (.ireturn, 1) := by decide +kernel
theorem dX11_then_0 : decode cX11_then 0 = .ok (.aload_n 0, 1) := by decide +kernel
theorem dX11_then_1 : decode cX11_then 1 = .ok (.getfield 32, 3) := by decide +kernel
theorem dX11_then_4 : decode cX11_then 4 = .ok (.iload_n 1, 1) := by decide +kernel
theorem dX11_then_5 : decode cX11_then 5 = .ok (.invokevirtual 160, 3) := by decide +kernel
theorem dX11_then_8 : decode cX11_then 8 = .ok (.ifCond .eq 17, 3) := by decide +kernel
theorem dX11_then_11 : decode cX11_then 11 = .ok (.iload_n 2, 1) := by decide +kernel
theorem dX11_then_12 : decode cX11_then 12 = .ok (.invokestatic 226, 3) := by decide +kernel
theorem dX11_then_15 : decode cX11_then 15 = .ok (.ifCond .eq 10, 3) := by decide +kernel
theorem dX11_then_18 : decode cX11_then 18 = .ok (.iload_n 3, 1) := by decide +kernel
theorem dX11_then_19 : decode cX11_then 19 = .ok (.invokestatic 237, 3) := by decide +kernel
theorem dX11_then_22 : decode cX11_then 22 = .ok (.ifCond .ne 5, 3) := by decide +kernel
theorem dX11_then_25 : decode cX11_then 25 = .ok (.iconst (-1), 1) := by decide +kernel
theorem dX11_then_26 : decode cX11_then 26 = .ok (.ireturn, 1) := by decide +kernel
theorem dX11_then_27 : decode cX11_then 27 = .ok (.aload_n 0, 1) := by decide +kernel
theorem dX11_then_28 : decode cX11_then 28 = .ok (.getfield 48, 3) := by decide +kernel
theorem dX11_then_31 : decode cX11_then 31 = .ok (.aload_n 0, 1) := by decide +kernel
theorem dX11_then_32 : decode cX11_then 32 = .ok (.getfield 44, 3) := by decide +kernel
theorem dX11_then_35 : decode cX11_then 35 = .ok (.invokevirtual 119, 3) := by decide +kernel
theorem dX11_then_38 : decode cX11_then 38 = .ok (.aload_n 0, 1) := by decide +kernel
theorem dX11_then_39 : decode cX11_then 39 = .ok (.getfield 32, 3) := by decide +kernel
theorem dX11_then_42 : decode cX11_then 42 = .ok (.aload_n 0, 1) := by decide +kernel
theorem dX11_then_43 : decode cX11_then 43 = .ok (.getfield 48, 3) := by decide +kernel
theorem dX11_then_46 : decode cX11_then 46 = .ok (.iload_n 2, 1) := by decide +kernel
theorem dX11_then_47 : decode cX11_then 47 = .ok (.invokevirtual 229, 3) := by decide +kernel
theorem dX11_then_50 : decode cX11_then 50 = .ok (.iload_n 3, 1) := by decide +kernel
theorem dX11_then_51 : decode cX11_then 51 = .ok (.ifCond .ne 15, 3) := by decide +kernel
theorem dX11_then_54 : decode cX11_then 54 = .ok (.aload_n 0, 1) := by decide +kernel
theorem dX11_then_55 : decode cX11_then 55 = .ok (.getfield 48, 3) := by decide +kernel
theorem dX11_then_58 : decode cX11_then 58 = .ok (.getfield 163, 3) := by decide +kernel
theorem dX11_then_61 : decode cX11_then 61 = .ok (.iload_n 1, 1) := by decide +kernel
theorem dX11_then_62 : decode cX11_then 62 = .ok (.iaload, 1) := by decide +kernel
theorem dX11_then_63 : decode cX11_then 63 = .ok (.goto 12, 3) := by decide +kernel
theorem dX11_then_66 : decode cX11_then 66 = .ok (.aload_n 0, 1) := by decide +kernel
theorem dX11_then_67 : decode cX11_then 67 = .ok (.getfield 48, 3) := by decide +kernel
theorem dX11_then_70 : decode cX11_then 70 = .ok (.getfield 167, 3) := by decide +kernel
theorem dX11_then_73 : decode cX11_then 73 = .ok (.iload_n 1, 1) := by decide +kernel
theorem dX11_then_74 : decode cX11_then 74 = .ok (.iaload, 1) := by decide +kernel
theorem dX11_then_75 : decode cX11_then 75 = .ok (.ireturn, 1) := by decide +kernel
theorem dX11_tunesIn_0 : decode cX11_tunesIn 0 = .ok (.iload_n 1, 1) := by decide +kernel
theorem dX11_tunesIn_1 : decode cX11_tunesIn 1 = .ok (.invokestatic 226, 3) := by decide +kernel
theorem dX11_tunesIn_4 : decode cX11_tunesIn 4 = .ok (.ifCond .ne 5, 3) := by decide +kernel
theorem dX11_tunesIn_7 : decode cX11_tunesIn 7 = .ok (.iconst (-1), 1) := by decide +kernel
theorem dX11_tunesIn_8 : decode cX11_tunesIn 8 = .ok (.ireturn, 1) := by decide +kernel
theorem dX11_tunesIn_9 : decode cX11_tunesIn 9 = .ok (.aload_n 0, 1) := by decide +kernel
theorem dX11_tunesIn_10 : decode cX11_tunesIn 10 = .ok (.getfield 48, 3) := by decide +kernel
theorem dX11_tunesIn_13 : decode cX11_tunesIn 13 = .ok (.aload_n 0, 1) := by decide +kernel
theorem dX11_tunesIn_14 : decode cX11_tunesIn 14 = .ok (.getfield 44, 3) := by decide +kernel
theorem dX11_tunesIn_17 : decode cX11_tunesIn 17 = .ok (.invokevirtual 119, 3) := by decide +kernel
theorem dX11_tunesIn_20 : decode cX11_tunesIn 20 = .ok (.aload_n 0, 1) := by decide +kernel
theorem dX11_tunesIn_21 : decode cX11_tunesIn 21 = .ok (.getfield 32, 3) := by decide +kernel
theorem dX11_tunesIn_24 : decode cX11_tunesIn 24 = .ok (.aload_n 0, 1) := by decide +kernel
theorem dX11_tunesIn_25 : decode cX11_tunesIn 25 = .ok (.getfield 48, 3) := by decide +kernel
theorem dX11_tunesIn_28 : decode cX11_tunesIn 28 = .ok (.iload_n 1, 1) := by decide +kernel
theorem dX11_tunesIn_29 : decode cX11_tunesIn 29 = .ok (.aload_n 0, 1) := by decide +kernel
theorem dX11_tunesIn_30 : decode cX11_tunesIn 30 = .ok (.getfield 32, 3) := by decide +kernel
theorem dX11_tunesIn_33 : decode cX11_tunesIn 33 = .ok (.getfield 288, 3) := by decide +kernel
theorem dX11_tunesIn_36 : decode cX11_tunesIn 36 = .ok (.invokevirtual 291, 3) := by decide +kernel
theorem dX11_tunesIn_39 : decode cX11_tunesIn 39 = .ok (.aload_n 0, 1) := by decide +kernel
theorem dX11_tunesIn_40 : decode cX11_tunesIn 40 = .ok (.getfield 48, 3) := by decide +kernel
theorem dX11_tunesIn_43 : decode cX11_tunesIn 43 = .ok (.getfield 183, 3) := by decide +kernel
theorem dX11_tunesIn_46 : decode cX11_tunesIn 46 = .ok (.ireturn, 1) := by decide +kernel
theorem dX11_year_0 : decode cX11_year 0 = .ok (.aload_n 0, 1) := by decide +kernel
theorem dX11_year_1 : decode cX11_year 1 = .ok (.getfield 40, 3) := by decide +kernel
theorem dX11_year_4 : decode cX11_year 4 = .ok (.iload_n 1, 1) := by decide +kernel
theorem dX11_year_5 : decode cX11_year 5 = .ok (.invokevirtual 124, 3) := by decide +kernel
theorem dX11_year_8 : decode cX11_year 8 = .ok (.ifCond .eq 21, 3) := by decide +kernel
theorem dX11_year_11 : decode cX11_year 11 = .ok (.iload_n 2, 1) := by decide +kernel
theorem dX11_year_12 : decode cX11_year 12 = .ok (.invokestatic 226, 3) := by decide +kernel
theorem dX11_year_15 : decode cX11_year 15 = .ok (.ifCond .eq 14, 3) := by decide +kernel
theorem dX11_year_18 : decode cX11_year 18 = .ok (.iload_n 3, 1) := by decide +kernel
theorem dX11_year_19 : decode cX11_year 19 = .ok (.iconst 1, 1) := by decide +kernel
theorem dX11_year_20 : decode cX11_year 20 = .ok (.if_icmp .lt 9, 3) := by decide +kernel
theorem dX11_year_23 : decode cX11_year 23 = .ok (.iload_n 3, 1) := by decide +kernel
theorem dX11_year_24 : decode cX11_year 24 = .ok (.bipush 20, 2) := by decide +kernel
theorem dX11_year_26 : decode cX11_year 26 = .ok (.if_icmp .le 5, 3) := by decide +kernel
theorem dX11_year_29 : decode cX11_year 29 = .ok (.iconst (-1), 1) := by decide +kernel
theorem dX11_year_30 : decode cX11_year 30 = .ok (.ireturn, 1) := by decide +kernel
theorem dX11_year_31 : decode cX11_year 31 = .ok (.iconst 0, 1) := by decide +kernel
theorem dX11_year_32 : decode cX11_year 32 = .ok (.istore 4, 2) := by decide +kernel
theorem dX11_year_34 : decode cX11_year 34 = .ok (.iconst 0, 1) := by decide +kernel
theorem dX11_year_35 : decode cX11_year 35 = .ok (.istore 5, 2) := by decide +kernel
theorem dX11_year_37 : decode cX11_year 37 = .ok (.iload 5, 2) := by decide +kernel
theorem dX11_year_39 : decode cX11_year 39 = .ok (.iload_n 3, 1) := by decide +kernel
theorem dX11_year_40 : decode cX11_year 40 = .ok (.if_icmp .ge 56, 3) := by decide +kernel
theorem dX11_year_43 : decode cX11_year 43 = .ok (.aload_n 0, 1) := by decide +kernel
theorem dX11_year_44 : decode cX11_year 44 = .ok (.getfield 48, 3) := by decide +kernel
theorem dX11_year_47 : decode cX11_year 47 = .ok (.aload_n 0, 1) := by decide +kernel
theorem dX11_year_48 : decode cX11_year 48 = .ok (.getfield 44, 3) := by decide +kernel
theorem dX11_year_51 : decode cX11_year 51 = .ok (.invokevirtual 119, 3) := by decide +kernel
theorem dX11_year_54 : decode cX11_year 54 = .ok (.aload_n 0, 1) := by decide +kernel
theorem dX11_year_55 : decode cX11_year 55 = .ok (.getfield 32, 3) := by decide +kernel
theorem dX11_year_58 : decode cX11_year 58 = .ok (.aload_n 0, 1) := by decide +kernel
theorem dX11_year_59 : decode cX11_year 59 = .ok (.getfield 48, 3) := by decide +kernel
theorem dX11_year_62 : decode cX11_year 62 = .ok (.iload_n 2, 1) := by decide +kernel
theorem dX11_year_63 : decode cX11_year 63 = .ok (.aload_n 0, 1) := by decide +kernel
theorem dX11_year_64 : decode cX11_year 64 = .ok (.getfield 32, 3) := by decide +kernel
theorem dX11_year_67 : decode cX11_year 67 = .ok (.getfield 288, 3) := by decide +kernel
theorem dX11_year_70 : decode cX11_year 70 = .ok (.iload 5, 2) := by decide +kernel
theorem dX11_year_72 : decode cX11_year 72 = .ok (.iadd, 1) := by decide +kernel
theorem dX11_year_73 : decode cX11_year 73 = .ok (.invokevirtual 291, 3) := by decide +kernel
theorem dX11_year_76 : decode cX11_year 76 = .ok (.aload_n 0, 1) := by decide +kernel
theorem dX11_year_77 : decode cX11_year 77 = .ok (.getfield 48, 3) := by decide +kernel
theorem dX11_year_80 : decode cX11_year 80 = .ok (.iload_n 1, 1) := by decide +kernel
theorem dX11_year_81 : decode cX11_year 81 = .ok (.invokevirtual 130, 3) := by decide +kernel
theorem dX11_year_84 : decode cX11_year 84 = .ok (.ifCond .eq 6, 3) := by decide +kernel
theorem dX11_year_87 : decode cX11_year 87 = .ok (.iinc 4 1, 3) := by decide +kernel
theorem dX11_year_90 : decode cX11_year 90 = .ok (.iinc 5 1, 3) := by decide +kernel
theorem dX11_year_93 : decode cX11_year 93 = .ok (.goto (-56), 3) := by decide +kernel
theorem dX11_year_96 : decode cX11_year 96 = .ok (.iload 4, 2) := by decide +kernel
theorem dX11_year_98 : decode cX11_year 98 = .ok (.ireturn, 1) := by decide +kernel
theorem dX11_pairs_0 : decode cX11_pairs 0 = .ok (.iload_n 1, 1) := by decide +kernel
theorem dX11_pairs_1 : decode cX11_pairs 1 = .ok (.iconst (-1), 1) := by decide +kernel
theorem dX11_pairs_2 : decode cX11_pairs 2 = .ok (.if_icmp .eq 16, 3) := by decide +kernel
theorem dX11_pairs_5 : decode cX11_pairs 5 = .ok (.aload_n 0, 1) := by decide +kernel
theorem dX11_pairs_6 : decode cX11_pairs 6 = .ok (.getfield 32, 3) := by decide +kernel
theorem dX11_pairs_9 : decode cX11_pairs 9 = .ok (.iload_n 1, 1) := by decide +kernel
theorem dX11_pairs_10 : decode cX11_pairs 10 = .ok (.invokevirtual 160, 3) := by decide +kernel
theorem dX11_pairs_13 : decode cX11_pairs 13 = .ok (.ifCond .ne 5, 3) := by decide +kernel
theorem dX11_pairs_16 : decode cX11_pairs 16 = .ok (.iconst (-1), 1) := by decide +kernel
theorem dX11_pairs_17 : decode cX11_pairs 17 = .ok (.ireturn, 1) := by decide +kernel
theorem dX11_pairs_18 : decode cX11_pairs 18 = .ok (.aload_n 0, 1) := by decide +kernel
theorem dX11_pairs_19 : decode cX11_pairs 19 = .ok (.getfield 91, 3) := by decide +kernel
theorem dX11_pairs_22 : decode cX11_pairs 22 = .ok (.aload_n 0, 1) := by decide +kernel
theorem dX11_pairs_23 : decode cX11_pairs 23 = .ok (.getfield 44, 3) := by decide +kernel
theorem dX11_pairs_26 : decode cX11_pairs 26 = .ok (.aload_n 0, 1) := by decide +kernel
theorem dX11_pairs_27 : decode cX11_pairs 27 = .ok (.getfield 32, 3) := by decide +kernel
theorem dX11_pairs_30 : decode cX11_pairs 30 = .ok (.getfield 149, 3) := by decide +kernel
theorem dX11_pairs_33 : decode cX11_pairs 33 = .ok (.invokevirtual 295, 3) := by decide +kernel
theorem dX11_pairs_36 : decode cX11_pairs 36 = .ok (.iload_n 1, 1) := by decide +kernel
theorem dX11_pairs_37 : decode cX11_pairs 37 = .ok (.iconst (-1), 1) := by decide +kernel
theorem dX11_pairs_38 : decode cX11_pairs 38 = .ok (.if_icmp .ne 13, 3) := by decide +kernel
theorem dX11_pairs_41 : decode cX11_pairs 41 = .ok (.aload_n 0, 1) := by decide +kernel
theorem dX11_pairs_42 : decode cX11_pairs 42 = .ok (.getfield 91, 3) := by decide +kernel
theorem dX11_pairs_45 : decode cX11_pairs 45 = .ok (.getfield 298, 3) := by decide +kernel
theorem dX11_pairs_48 : decode cX11_pairs 48 = .ok (.goto 12, 3) := by decide +kernel
theorem dX11_pairs_51 : decode cX11_pairs 51 = .ok (.aload_n 0, 1) := by decide +kernel
theorem dX11_pairs_52 : decode cX11_pairs 52 = .ok (.getfield 91, 3) := by decide +kernel
theorem dX11_pairs_55 : decode cX11_pairs 55 = .ok (.getfield 301, 3) := by decide +kernel
theorem dX11_pairs_58 : decode cX11_pairs 58 = .ok (.iload_n 1, 1) := by decide +kernel
theorem dX11_pairs_59 : decode cX11_pairs 59 = .ok (.iaload, 1) := by decide +kernel
theorem dX11_pairs_60 : decode cX11_pairs 60 = .ok (.ireturn, 1) := by decide +kernel
theorem dX11_tell_0 : decode cX11_tell 0 = .ok (.aload_n 0, 1) := by decide +kernel
theorem dX11_tell_1 : decode cX11_tell 1 = .ok (.getfield 68, 3) := by decide +kernel
theorem dX11_tell_4 : decode cX11_tell 4 = .ok (.iload_n 1, 1) := by decide +kernel
theorem dX11_tell_5 : decode cX11_tell 5 = .ok (.iload_n 2, 1) := by decide +kernel
theorem dX11_tell_6 : decode cX11_tell 6 = .ok (.invokevirtual 304, 3) := by decide +kernel
theorem dX11_tell_9 : decode cX11_tell 9 = .ok (.ireturn, 1) := by decide +kernel
theorem dX11_forget_0 : decode cX11_forget 0 = .ok (.aload_n 0, 1) := by decide +kernel
theorem dX11_forget_1 : decode cX11_forget 1 = .ok (.getfield 68, 3) := by decide +kernel
theorem dX11_forget_4 : decode cX11_forget 4 = .ok (.getfield 195, 3) := by decide +kernel
theorem dX11_forget_7 : decode cX11_forget 7 = .ok (.istore_n 1, 1) := by decide +kernel
theorem dX11_forget_8 : decode cX11_forget 8 = .ok (.aload_n 0, 1) := by decide +kernel
theorem dX11_forget_9 : decode cX11_forget 9 = .ok (.getfield 68, 3) := by decide +kernel
theorem dX11_forget_12 : decode cX11_forget 12 = .ok (.invokevirtual 123, 3) := by decide +kernel
theorem dX11_forget_15 : decode cX11_forget 15 = .ok (.iload_n 1, 1) := by decide +kernel
theorem dX11_forget_16 : decode cX11_forget 16 = .ok (.ireturn, 1) := by decide +kernel
theorem dX11_fits_0 : decode cX11_fits 0 = .ok (.aload_n 0, 1) := by decide +kernel
theorem dX11_fits_1 : decode cX11_fits 1 = .ok (.getfield 68, 3) := by decide +kernel
theorem dX11_fits_4 : decode cX11_fits 4 = .ok (.iload_n 1, 1) := by decide +kernel
theorem dX11_fits_5 : decode cX11_fits 5 = .ok (.invokevirtual 307, 3) := by decide +kernel
theorem dX11_fits_8 : decode cX11_fits 8 = .ok (.ifCond .eq 10, 3) := by decide +kernel
theorem dX11_fits_11 : decode cX11_fits 11 = .ok (.iload_n 2, 1) := by decide +kernel
theorem dX11_fits_12 : decode cX11_fits 12 = .ok (.invokestatic 237, 3) := by decide +kernel
theorem dX11_fits_15 : decode cX11_fits 15 = .ok (.ifCond .ne 5, 3) := by decide +kernel
theorem dX11_fits_18 : decode cX11_fits 18 = .ok (.iconst (-1), 1) := by decide +kernel
theorem dX11_fits_19 : decode cX11_fits 19 = .ok (.ireturn, 1) := by decide +kernel
theorem dX11_fits_20 : decode cX11_fits 20 = .ok (.aload_n 0, 1) := by decide +kernel
theorem dX11_fits_21 : decode cX11_fits 21 = .ok (.getfield 68, 3) := by decide +kernel
theorem dX11_fits_24 : decode cX11_fits 24 = .ok (.iload_n 1, 1) := by decide +kernel
theorem dX11_fits_25 : decode cX11_fits 25 = .ok (.invokevirtual 310, 3) := by decide +kernel
theorem dX11_fits_28 : decode cX11_fits 28 = .ok (.istore_n 3, 1) := by decide +kernel
theorem dX11_fits_29 : decode cX11_fits 29 = .ok (.iload_n 2, 1) := by decide +kernel
theorem dX11_fits_30 : decode cX11_fits 30 = .ok (.ifCond .ne 10, 3) := by decide +kernel
theorem dX11_fits_33 : decode cX11_fits 33 = .ok (.iload_n 3, 1) := by decide +kernel
theorem dX11_fits_34 : decode cX11_fits 34 = .ok (.invokestatic 196, 3) := by decide +kernel
theorem dX11_fits_37 : decode cX11_fits 37 = .ok (.goto 7, 3) := by decide +kernel
theorem dX11_fits_40 : decode cX11_fits 40 = .ok (.iload_n 3, 1) := by decide +kernel
theorem dX11_fits_41 : decode cX11_fits 41 = .ok (.invokestatic 313, 3) := by decide +kernel
theorem dX11_fits_44 : decode cX11_fits 44 = .ok (.ireturn, 1) := by decide +kernel
theorem dX11_listen_0 : decode cX11_listen 0 = .ok (.aload_n 0, 1) := by decide +kernel
theorem dX11_listen_1 : decode cX11_listen 1 = .ok (.getfield 68, 3) := by decide +kernel
theorem dX11_listen_4 : decode cX11_listen 4 = .ok (.iload_n 1, 1) := by decide +kernel
theorem dX11_listen_5 : decode cX11_listen 5 = .ok (.invokevirtual 307, 3) := by decide +kernel
theorem dX11_listen_8 : decode cX11_listen 8 = .ok (.ifCond .eq 17, 3) := by decide +kernel
theorem dX11_listen_11 : decode cX11_listen 11 = .ok (.aload_n 0, 1) := by decide +kernel
theorem dX11_listen_12 : decode cX11_listen 12 = .ok (.getfield 68, 3) := by decide +kernel
theorem dX11_listen_15 : decode cX11_listen 15 = .ok (.iload_n 1, 1) := by decide +kernel
theorem dX11_listen_16 : decode cX11_listen 16 = .ok (.invokevirtual 310, 3) := by decide +kernel
theorem dX11_listen_19 : decode cX11_listen 19 = .ok (.invokestatic 316, 3) := by decide +kernel
theorem dX11_listen_22 : decode cX11_listen 22 = .ok (.goto 4, 3) := by decide +kernel
theorem dX11_listen_25 : decode cX11_listen 25 = .ok (.iconst (-1), 1) := by decide +kernel
theorem dX11_listen_26 : decode cX11_listen 26 = .ok (.ireturn, 1) := by decide +kernel
theorem dX11_lowest_0 : decode cX11_lowest 0 = .ok (.iload_n 0, 1) := by decide +kernel
theorem dX11_lowest_1 : decode cX11_lowest 1 = .ok (.iload_n 0, 1) := by decide +kernel
theorem dX11_lowest_2 : decode cX11_lowest 2 = .ok (.ineg, 1) := by decide +kernel
theorem dX11_lowest_3 : decode cX11_lowest 3 = .ok (.iand, 1) := by decide +kernel
theorem dX11_lowest_4 : decode cX11_lowest 4 = .ok (.iconst 1, 1) := by decide +kernel
theorem dX11_lowest_5 : decode cX11_lowest 5 = .ok (.isub, 1) := by decide +kernel
theorem dX11_lowest_6 : decode cX11_lowest 6 = .ok (.invokestatic 196, 3) := by decide +kernel
theorem dX11_lowest_9 : decode cX11_lowest 9 = .ok (.ireturn, 1) := by decide +kernel
