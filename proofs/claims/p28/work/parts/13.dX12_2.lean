theorem dX12_begins_77 : decode cX12_begins 77 = .ok (.aload_n 0, 1) := by decide +kernel
theorem dX12_begins_78 : decode cX12_begins 78 = .ok (.getfield 128, 3) := by decide +kernel
theorem dX12_begins_81 : decode cX12_begins 81 = .ok (.bipush 25, 2) := by decide +kernel
theorem dX12_begins_83 : decode cX12_begins 83 = .ok (.aload_n 0, 1) := by decide +kernel
theorem dX12_begins_84 : decode cX12_begins 84 = .ok (.aload_n 0, 1) := by decide +kernel
theorem dX12_begins_85 : decode cX12_begins 85 = .ok (.getfield 52, 3) := by decide +kernel
theorem dX12_begins_88 : decode cX12_begins 88 = .ok (.iload_n 1, 1) := by decide +kernel
theorem dX12_begins_89 : decode cX12_begins 89 = .ok (.iaload, 1) := by decide +kernel
theorem dX12_begins_90 : decode cX12_begins 90 = .ok (.aload_n 0, 1) := by decide +kernel
theorem dX12_begins_91 : decode cX12_begins 91 = .ok (.getfield 55, 3) := by decide +kernel
theorem dX12_begins_94 : decode cX12_begins 94 = .ok (.iload_n 1, 1) := by decide +kernel
theorem dX12_begins_95 : decode cX12_begins 95 = .ok (.iaload, 1) := by decide +kernel
theorem dX12_begins_96 : decode cX12_begins 96 = .ok (.invokevirtual 334, 3) := by decide +kernel
theorem dX12_begins_99 : decode cX12_begins 99 = .ok (.iadd, 1) := by decide +kernel
theorem dX12_begins_100 : decode cX12_begins 100 = .ok (.aload_n 0, 1) := by decide +kernel
theorem dX12_begins_101 : decode cX12_begins 101 = .ok (.getfield 61, 3) := by decide +kernel
theorem dX12_begins_104 : decode cX12_begins 104 = .ok (.iload_n 1, 1) := by decide +kernel
theorem dX12_begins_105 : decode cX12_begins 105 = .ok (.iaload, 1) := by decide +kernel
theorem dX12_begins_106 : decode cX12_begins 106 = .ok (.iastore, 1) := by decide +kernel
theorem dX12_begins_107 : decode cX12_begins 107 = .ok (.iinc 1 1, 3) := by decide +kernel
theorem dX12_begins_110 : decode cX12_begins 110 = .ok (.goto (-81), 3) := by decide +kernel
theorem dX12_begins_113 : decode cX12_begins 113 = .ok (.bipush 8, 2) := by decide +kernel
theorem dX12_begins_115 : decode cX12_begins 115 = .ok (.aload_n 0, 1) := by decide +kernel
theorem dX12_begins_116 : decode cX12_begins 116 = .ok (.getfield 245, 3) := by decide +kernel
theorem dX12_begins_119 : decode cX12_begins 119 = .ok (.imul, 1) := by decide +kernel
theorem dX12_begins_120 : decode cX12_begins 120 = .ok (.istore_n 1, 1) := by decide +kernel
theorem dX12_begins_121 : decode cX12_begins 121 = .ok (.iload_n 1, 1) := by decide +kernel
theorem dX12_begins_122 : decode cX12_begins 122 = .ok (.bipush 8, 2) := by decide +kernel
theorem dX12_begins_124 : decode cX12_begins 124 = .ok (.aload_n 0, 1) := by decide +kernel
theorem dX12_begins_125 : decode cX12_begins 125 = .ok (.getfield 245, 3) := by decide +kernel
theorem dX12_begins_128 : decode cX12_begins 128 = .ok (.imul, 1) := by decide +kernel
theorem dX12_begins_129 : decode cX12_begins 129 = .ok (.aload_n 0, 1) := by decide +kernel
theorem dX12_begins_130 : decode cX12_begins 130 = .ok (.getfield 73, 3) := by decide +kernel
theorem dX12_begins_133 : decode cX12_begins 133 = .ok (.aload_n 0, 1) := by decide +kernel
theorem dX12_begins_134 : decode cX12_begins 134 = .ok (.getfield 245, 3) := by decide +kernel
theorem dX12_begins_137 : decode cX12_begins 137 = .ok (.iaload, 1) := by decide +kernel
theorem dX12_begins_138 : decode cX12_begins 138 = .ok (.iadd, 1) := by decide +kernel
theorem dX12_begins_139 : decode cX12_begins 139 = .ok (.if_icmp .ge 37, 3) := by decide +kernel
theorem dX12_begins_142 : decode cX12_begins 142 = .ok (.aload_n 0, 1) := by decide +kernel
theorem dX12_begins_143 : decode cX12_begins 143 = .ok (.getfield 128, 3) := by decide +kernel
theorem dX12_begins_146 : decode cX12_begins 146 = .ok (.bipush 50, 2) := by decide +kernel
theorem dX12_begins_148 : decode cX12_begins 148 = .ok (.dup2, 1) := by decide +kernel
theorem dX12_begins_149 : decode cX12_begins 149 = .ok (.iaload, 1) := by decide +kernel
theorem dX12_begins_150 : decode cX12_begins 150 = .ok (.iconst 1, 1) := by decide +kernel
theorem dX12_begins_151 : decode cX12_begins 151 = .ok (.aload_n 0, 1) := by decide +kernel
theorem dX12_begins_152 : decode cX12_begins 152 = .ok (.aload_n 0, 1) := by decide +kernel
theorem dX12_begins_153 : decode cX12_begins 153 = .ok (.getfield 76, 3) := by decide +kernel
theorem dX12_begins_156 : decode cX12_begins 156 = .ok (.iload_n 1, 1) := by decide +kernel
theorem dX12_begins_157 : decode cX12_begins 157 = .ok (.iaload, 1) := by decide +kernel
theorem dX12_begins_158 : decode cX12_begins 158 = .ok (.aload_n 0, 1) := by decide +kernel
theorem dX12_begins_159 : decode cX12_begins 159 = .ok (.getfield 79, 3) := by decide +kernel
theorem dX12_begins_162 : decode cX12_begins 162 = .ok (.iload_n 1, 1) := by decide +kernel
theorem dX12_begins_163 : decode cX12_begins 163 = .ok (.iaload, 1) := by decide +kernel
theorem dX12_begins_164 : decode cX12_begins 164 = .ok (.invokevirtual 334, 3) := by decide +kernel
theorem dX12_begins_167 : decode cX12_begins 167 = .ok (.ishl, 1) := by decide +kernel
theorem dX12_begins_168 : decode cX12_begins 168 = .ok (.ior, 1) := by decide +kernel
theorem dX12_begins_169 : decode cX12_begins 169 = .ok (.iastore, 1) := by decide +kernel
theorem dX12_begins_170 : decode cX12_begins 170 = .ok (.iinc 1 1, 3) := by decide +kernel
theorem dX12_begins_173 : decode cX12_begins 173 = .ok (.goto (-52), 3) := by decide +kernel
theorem dX12_begins_176 : decode cX12_begins 176 = .ok (.iconst 0, 1) := by decide +kernel
theorem dX12_begins_177 : decode cX12_begins 177 = .ok (.istore_n 1, 1) := by decide +kernel
theorem dX12_begins_178 : decode cX12_begins 178 = .ok (.iload_n 1, 1) := by decide +kernel
theorem dX12_begins_179 : decode cX12_begins 179 = .ok (.aload_n 0, 1) := by decide +kernel
theorem dX12_begins_180 : decode cX12_begins 180 = .ok (.getfield 64, 3) := by decide +kernel
theorem dX12_begins_183 : decode cX12_begins 183 = .ok (.aload_n 0, 1) := by decide +kernel
theorem dX12_begins_184 : decode cX12_begins 184 = .ok (.getfield 245, 3) := by decide +kernel
theorem dX12_begins_187 : decode cX12_begins 187 = .ok (.iaload, 1) := by decide +kernel
theorem dX12_begins_188 : decode cX12_begins 188 = .ok (.if_icmp .ge 48, 3) := by decide +kernel
theorem dX12_begins_191 : decode cX12_begins 191 = .ok (.aload_n 0, 1) := by decide +kernel
theorem dX12_begins_192 : decode cX12_begins 192 = .ok (.getfield 128, 3) := by decide +kernel
theorem dX12_begins_195 : decode cX12_begins 195 = .ok (.bipush 51, 2) := by decide +kernel
theorem dX12_begins_197 : decode cX12_begins 197 = .ok (.iload_n 1, 1) := by decide +kernel
theorem dX12_begins_198 : decode cX12_begins 198 = .ok (.iadd, 1) := by decide +kernel
theorem dX12_begins_199 : decode cX12_begins 199 = .ok (.aload_n 0, 1) := by decide +kernel
theorem dX12_begins_200 : decode cX12_begins 200 = .ok (.aload_n 0, 1) := by decide +kernel
theorem dX12_begins_201 : decode cX12_begins 201 = .ok (.getfield 67, 3) := by decide +kernel
theorem dX12_begins_204 : decode cX12_begins 204 = .ok (.iconst 5, 1) := by decide +kernel
theorem dX12_begins_205 : decode cX12_begins 205 = .ok (.aload_n 0, 1) := by decide +kernel
theorem dX12_begins_206 : decode cX12_begins 206 = .ok (.getfield 245, 3) := by decide +kernel
theorem dX12_begins_209 : decode cX12_begins 209 = .ok (.imul, 1) := by decide +kernel
theorem dX12_begins_210 : decode cX12_begins 210 = .ok (.iload_n 1, 1) := by decide +kernel
theorem dX12_begins_211 : decode cX12_begins 211 = .ok (.iadd, 1) := by decide +kernel
theorem dX12_begins_212 : decode cX12_begins 212 = .ok (.iaload, 1) := by decide +kernel
theorem dX12_begins_213 : decode cX12_begins 213 = .ok (.aload_n 0, 1) := by decide +kernel
theorem dX12_begins_214 : decode cX12_begins 214 = .ok (.getfield 70, 3) := by decide +kernel
theorem dX12_begins_217 : decode cX12_begins 217 = .ok (.iconst 5, 1) := by decide +kernel
theorem dX12_begins_218 : decode cX12_begins 218 = .ok (.aload_n 0, 1) := by decide +kernel
theorem dX12_begins_219 : decode cX12_begins 219 = .ok (.getfield 245, 3) := by decide +kernel
theorem dX12_begins_222 : decode cX12_begins 222 = .ok (.imul, 1) := by decide +kernel
theorem dX12_begins_223 : decode cX12_begins 223 = .ok (.iload_n 1, 1) := by decide +kernel
theorem dX12_begins_224 : decode cX12_begins 224 = .ok (.iadd, 1) := by decide +kernel
theorem dX12_begins_225 : decode cX12_begins 225 = .ok (.iaload, 1) := by decide +kernel
theorem dX12_begins_226 : decode cX12_begins 226 = .ok (.invokevirtual 334, 3) := by decide +kernel
theorem dX12_begins_229 : decode cX12_begins 229 = .ok (.iastore, 1) := by decide +kernel
theorem dX12_begins_230 : decode cX12_begins 230 = .ok (.iinc 1 1, 3) := by decide +kernel
theorem dX12_begins_233 : decode cX12_begins 233 = .ok (.goto (-55), 3) := by decide +kernel
theorem dX12_begins_236 : decode cX12_begins 236 = .ok (.aload_n 0, 1) := by decide +kernel
theorem dX12_begins_237 : decode cX12_begins 237 = .ok (.aload_n 0, 1) := by decide +kernel
theorem dX12_begins_238 : decode cX12_begins 238 = .ok (.getfield 85, 3) := by decide +kernel
theorem dX12_begins_241 : decode cX12_begins 241 = .ok (.aload_n 0, 1) := by decide +kernel
theorem dX12_begins_242 : decode cX12_begins 242 = .ok (.getfield 245, 3) := by decide +kernel
theorem dX12_begins_245 : decode cX12_begins 245 = .ok (.iaload, 1) := by decide +kernel
theorem dX12_begins_246 : decode cX12_begins 246 = .ok (.putfield 337, 3) := by decide +kernel
theorem dX12_begins_249 : decode cX12_begins 249 = .ok (.aload_n 0, 1) := by decide +kernel
theorem dX12_begins_250 : decode cX12_begins 250 = .ok (.iconst 0, 1) := by decide +kernel
theorem dX12_begins_251 : decode cX12_begins 251 = .ok (.putfield 340, 3) := by decide +kernel
theorem dX12_begins_254 : decode cX12_begins 254 = .ok (.aload_n 0, 1) := by decide +kernel
theorem dX12_begins_255 : decode cX12_begins 255 = .ok (.invokevirtual 343, 3) := by decide +kernel
theorem dX12_begins_258 : decode cX12_begins 258 = .ok (.return_, 1) := by decide +kernel
theorem dX12_keepsRow_0 : decode cX12_keepsRow 0 = .ok (.iconst 0, 1) := by decide +kernel
theorem dX12_keepsRow_1 : decode cX12_keepsRow 1 = .ok (.istore_n 1, 1) := by decide +kernel
theorem dX12_keepsRow_2 : decode cX12_keepsRow 2 = .ok (.iload_n 1, 1) := by decide +kernel
theorem dX12_keepsRow_3 : decode cX12_keepsRow 3 = .ok (.bipush 63, 2) := by decide +kernel
theorem dX12_keepsRow_5 : decode cX12_keepsRow 5 = .ok (.if_icmp .ge 21, 3) := by decide +kernel
theorem dX12_keepsRow_8 : decode cX12_keepsRow 8 = .ok (.aload_n 0, 1) := by decide +kernel
theorem dX12_keepsRow_9 : decode cX12_keepsRow 9 = .ok (.getfield 125, 3) := by decide +kernel
theorem dX12_keepsRow_12 : decode cX12_keepsRow 12 = .ok (.iload_n 1, 1) := by decide +kernel
theorem dX12_keepsRow_13 : decode cX12_keepsRow 13 = .ok (.aload_n 0, 1) := by decide +kernel
theorem dX12_keepsRow_14 : decode cX12_keepsRow 14 = .ok (.getfield 128, 3) := by decide +kernel
theorem dX12_keepsRow_17 : decode cX12_keepsRow 17 = .ok (.iload_n 1, 1) := by decide +kernel
theorem dX12_keepsRow_18 : decode cX12_keepsRow 18 = .ok (.iaload, 1) := by decide +kernel
theorem dX12_keepsRow_19 : decode cX12_keepsRow 19 = .ok (.iastore, 1) := by decide +kernel
theorem dX12_keepsRow_20 : decode cX12_keepsRow 20 = .ok (.iinc 1 1, 3) := by decide +kernel
theorem dX12_keepsRow_23 : decode cX12_keepsRow 23 = .ok (.goto (-21), 3) := by decide +kernel
theorem dX12_keepsRow_26 : decode cX12_keepsRow 26 = .ok (.return_, 1) := by decide +kernel
theorem dX12_copies_0 : decode cX12_copies 0 = .ok (.iconst 0, 1) := by decide +kernel
theorem dX12_copies_1 : decode cX12_copies 1 = .ok (.istore_n 1, 1) := by decide +kernel
theorem dX12_copies_2 : decode cX12_copies 2 = .ok (.iload_n 1, 1) := by decide +kernel
theorem dX12_copies_3 : decode cX12_copies 3 = .ok (.bipush 63, 2) := by decide +kernel
theorem dX12_copies_5 : decode cX12_copies 5 = .ok (.if_icmp .ge 21, 3) := by decide +kernel
theorem dX12_copies_8 : decode cX12_copies 8 = .ok (.aload_n 0, 1) := by decide +kernel
theorem dX12_copies_9 : decode cX12_copies 9 = .ok (.getfield 128, 3) := by decide +kernel
theorem dX12_copies_12 : decode cX12_copies 12 = .ok (.iload_n 1, 1) := by decide +kernel
theorem dX12_copies_13 : decode cX12_copies 13 = .ok (.aload_n 0, 1) := by decide +kernel
theorem dX12_copies_14 : decode cX12_copies 14 = .ok (.getfield 125, 3) := by decide +kernel
theorem dX12_copies_17 : decode cX12_copies 17 = .ok (.iload_n 1, 1) := by decide +kernel
theorem dX12_copies_18 : decode cX12_copies 18 = .ok (.iaload, 1) := by decide +kernel
theorem dX12_copies_19 : decode cX12_copies 19 = .ok (.iastore, 1) := by decide +kernel
theorem dX12_copies_20 : decode cX12_copies 20 = .ok (.iinc 1 1, 3) := by decide +kernel
theorem dX12_copies_23 : decode cX12_copies 23 = .ok (.goto (-21), 3) := by decide +kernel
theorem dX12_copies_26 : decode cX12_copies 26 = .ok (.aload_n 0, 1) := by decide +kernel
theorem dX12_copies_27 : decode cX12_copies 27 = .ok (.aload_n 0, 1) := by decide +kernel
theorem dX12_copies_28 : decode cX12_copies 28 = .ok (.getfield 85, 3) := by decide +kernel
theorem dX12_copies_31 : decode cX12_copies 31 = .ok (.aload_n 0, 1) := by decide +kernel
theorem dX12_copies_32 : decode cX12_copies 32 = .ok (.getfield 245, 3) := by decide +kernel
theorem dX12_copies_35 : decode cX12_copies 35 = .ok (.iaload, 1) := by decide +kernel
theorem dX12_copies_36 : decode cX12_copies 36 = .ok (.putfield 337, 3) := by decide +kernel
theorem dX12_copies_39 : decode cX12_copies 39 = .ok (.aload_n 0, 1) := by decide +kernel
theorem dX12_copies_40 : decode cX12_copies 40 = .ok (.iconst 0, 1) := by decide +kernel
theorem dX12_copies_41 : decode cX12_copies 41 = .ok (.putfield 340, 3) := by decide +kernel
theorem dX12_copies_44 : decode cX12_copies 44 = .ok (.return_, 1) := by decide +kernel
theorem dX12_copiesStill_0 : decode cX12_copiesStill 0 = .ok (.aload_n 0, 1) := by decide +kernel
theorem dX12_copiesStill_1 : decode cX12_copiesStill 1 = .ok (.invokevirtual 346, 3) := by decide +kernel
theorem dX12_copiesStill_4 : decode cX12_copiesStill 4 = .ok (.aload_n 0, 1) := by decide +kernel
theorem dX12_copiesStill_5 : decode cX12_copiesStill 5 = .ok (.iconst 1, 1) := by decide +kernel
theorem dX12_copiesStill_6 : decode cX12_copiesStill 6 = .ok (.putfield 340, 3) := by decide +kernel
theorem dX12_copiesStill_9 : decode cX12_copiesStill 9 = .ok (.return_, 1) := by decide +kernel
theorem dX12_mixed_0 : decode cX12_mixed 0 = .ok (.iload_n 0, 1) := by decide +kernel
theorem dX12_mixed_1 : decode cX12_mixed 1 = .ok (.iload_n 1, 1) := by decide +kernel
theorem dX12_mixed_2 : decode cX12_mixed 2 = .ok (.ixor, 1) := by decide +kernel
theorem dX12_mixed_3 : decode cX12_mixed 3 = .ok (.ldc_w 349, 3) := by decide +kernel
theorem dX12_mixed_6 : decode cX12_mixed 6 = .ok (.imul, 1) := by decide +kernel
theorem dX12_mixed_7 : decode cX12_mixed 7 = .ok (.sipush 12345, 3) := by decide +kernel
theorem dX12_mixed_10 : decode cX12_mixed 10 = .ok (.iadd, 1) := by decide +kernel
theorem dX12_mixed_11 : decode cX12_mixed 11 = .ok (.istore_n 2, 1) := by decide +kernel
theorem dX12_mixed_12 : decode cX12_mixed 12 = .ok (.iload_n 2, 1) := by decide +kernel
theorem dX12_mixed_13 : decode cX12_mixed 13 = .ok (.iload_n 2, 1) := by decide +kernel
theorem dX12_mixed_14 : decode cX12_mixed 14 = .ok (.bipush 15, 2) := by decide +kernel
theorem dX12_mixed_16 : decode cX12_mixed 16 = .ok (.iushr, 1) := by decide +kernel
theorem dX12_mixed_17 : decode cX12_mixed 17 = .ok (.ixor, 1) := by decide +kernel
theorem dX12_mixed_18 : decode cX12_mixed 18 = .ok (.ireturn, 1) := by decide +kernel
theorem dX12_lotOf_0 : decode cX12_lotOf 0 = .ok (.aload_n 0, 1) := by decide +kernel
theorem dX12_lotOf_1 : decode cX12_lotOf 1 = .ok (.getfield 337, 3) := by decide +kernel
theorem dX12_lotOf_4 : decode cX12_lotOf 4 = .ok (.sipush 197, 3) := by decide +kernel
theorem dX12_lotOf_7 : decode cX12_lotOf 7 = .ok (.invokestatic 350, 3) := by decide +kernel
theorem dX12_lotOf_10 : decode cX12_lotOf 10 = .ok (.iload_n 1, 1) := by decide +kernel
theorem dX12_lotOf_11 : decode cX12_lotOf 11 = .ok (.invokestatic 350, 3) := by decide +kernel
theorem dX12_lotOf_14 : decode cX12_lotOf 14 = .ok (.iconst 1, 1) := by decide +kernel
theorem dX12_lotOf_15 : decode cX12_lotOf 15 = .ok (.iushr, 1) := by decide +kernel
theorem dX12_lotOf_16 : decode cX12_lotOf 16 = .ok (.bipush 100, 2) := by decide +kernel
theorem dX12_lotOf_18 : decode cX12_lotOf 18 = .ok (.irem, 1) := by decide +kernel
theorem dX12_lotOf_19 : decode cX12_lotOf 19 = .ok (.ireturn, 1) := by decide +kernel
theorem dX12_isRoped_0 : decode cX12_isRoped 0 = .ok (.aload_n 0, 1) := by decide +kernel
theorem dX12_isRoped_1 : decode cX12_isRoped 1 = .ok (.getfield 128, 3) := by decide +kernel
theorem dX12_isRoped_4 : decode cX12_isRoped 4 = .ok (.bipush 50, 2) := by decide +kernel
theorem dX12_isRoped_6 : decode cX12_isRoped 6 = .ok (.iaload, 1) := by decide +kernel
theorem dX12_isRoped_7 : decode cX12_isRoped 7 = .ok (.iload_n 1, 1) := by decide +kernel
theorem dX12_isRoped_8 : decode cX12_isRoped 8 = .ok (.ishr, 1) := by decide +kernel
theorem dX12_isRoped_9 : decode cX12_isRoped 9 = .ok (.iconst 1, 1) := by decide +kernel
theorem dX12_isRoped_10 : decode cX12_isRoped 10 = .ok (.iand, 1) := by decide +kernel
theorem dX12_isRoped_11 : decode cX12_isRoped 11 = .ok (.iconst 1, 1) := by decide +kernel
theorem dX12_isRoped_12 : decode cX12_isRoped 12 = .ok (.if_icmp .ne 7, 3) := by decide +kernel
theorem dX12_isRoped_15 : decode cX12_isRoped 15 = .ok (.iconst 1, 1) := by decide +kernel
theorem dX12_isRoped_16 : decode cX12_isRoped 16 = .ok (.goto 4, 3) := by decide +kernel
theorem dX12_isRoped_19 : decode cX12_isRoped 19 = .ok (.iconst 0, 1) := by decide +kernel
theorem dX12_isRoped_20 : decode cX12_isRoped 20 = .ok (.ireturn, 1) := by decide +kernel
theorem dX12_isLoud_0 : decode cX12_isLoud 0 = .ok (.aload_n 0, 1) := by decide +kernel
theorem dX12_isLoud_1 : decode cX12_isLoud 1 = .ok (.getfield 128, 3) := by decide +kernel
theorem dX12_isLoud_4 : decode cX12_isLoud 4 = .ok (.iload_n 1, 1) := by decide +kernel
theorem dX12_isLoud_5 : decode cX12_isLoud 5 = .ok (.iaload, 1) := by decide +kernel
theorem dX12_isLoud_6 : decode cX12_isLoud 6 = .ok (.ifCond .le 27, 3) := by decide +kernel
theorem dX12_isLoud_9 : decode cX12_isLoud 9 = .ok (.iload_n 2, 1) := by decide +kernel
theorem dX12_isLoud_10 : decode cX12_isLoud 10 = .ok (.aload_n 0, 1) := by decide +kernel
theorem dX12_isLoud_11 : decode cX12_isLoud 11 = .ok (.getfield 128, 3) := by decide +kernel
theorem dX12_isLoud_14 : decode cX12_isLoud 14 = .ok (.iload_n 1, 1) := by decide +kernel
theorem dX12_isLoud_15 : decode cX12_isLoud 15 = .ok (.iaload, 1) := by decide +kernel
theorem dX12_isLoud_16 : decode cX12_isLoud 16 = .ok (.irem, 1) := by decide +kernel
theorem dX12_isLoud_17 : decode cX12_isLoud 17 = .ok (.aload_n 0, 1) := by decide +kernel
theorem dX12_isLoud_18 : decode cX12_isLoud 18 = .ok (.getfield 128, 3) := by decide +kernel
theorem dX12_isLoud_21 : decode cX12_isLoud 21 = .ok (.bipush 25, 2) := by decide +kernel
theorem dX12_isLoud_23 : decode cX12_isLoud 23 = .ok (.iload_n 1, 1) := by decide +kernel
theorem dX12_isLoud_24 : decode cX12_isLoud 24 = .ok (.iadd, 1) := by decide +kernel
theorem dX12_isLoud_25 : decode cX12_isLoud 25 = .ok (.iaload, 1) := by decide +kernel
theorem dX12_isLoud_26 : decode cX12_isLoud 26 = .ok (.if_icmp .ne 7, 3) := by decide +kernel
theorem dX12_isLoud_29 : decode cX12_isLoud 29 = .ok (.iconst 1, 1) := by decide +kernel
theorem dX12_isLoud_30 : decode cX12_isLoud 30 = .ok (.goto 4, 3) := by decide +kernel
theorem dX12_isLoud_33 : decode cX12_isLoud 33 = .ok (.iconst 0, 1) := by decide +kernel
theorem dX12_isLoud_34 : decode cX12_isLoud 34 = .ok (.ireturn, 1) := by decide +kernel
theorem dX12_loudBits_0 : decode cX12_loudBits 0 = .ok (.iconst 0, 1) := by decide +kernel
theorem dX12_loudBits_1 : decode cX12_loudBits 1 = .ok (.istore_n 2, 1) := by decide +kernel
theorem dX12_loudBits_2 : decode cX12_loudBits 2 = .ok (.iconst 0, 1) := by decide +kernel
theorem dX12_loudBits_3 : decode cX12_loudBits 3 = .ok (.istore_n 3, 1) := by decide +kernel
theorem dX12_loudBits_4 : decode cX12_loudBits 4 = .ok (.iload_n 3, 1) := by decide +kernel
theorem dX12_loudBits_5 : decode cX12_loudBits 5 = .ok (.aload_n 0, 1) := by decide +kernel
theorem dX12_loudBits_6 : decode cX12_loudBits 6 = .ok (.invokevirtual 326, 3) := by decide +kernel
theorem dX12_loudBits_9 : decode cX12_loudBits 9 = .ok (.if_icmp .ge 24, 3) := by decide +kernel
theorem dX12_loudBits_12 : decode cX12_loudBits 12 = .ok (.aload_n 0, 1) := by decide +kernel
theorem dX12_loudBits_13 : decode cX12_loudBits 13 = .ok (.iload_n 3, 1) := by decide +kernel
theorem dX12_loudBits_14 : decode cX12_loudBits 14 = .ok (.iload_n 1, 1) := by decide +kernel
theorem dX12_loudBits_15 : decode cX12_loudBits 15 = .ok (.invokevirtual 353, 3) := by decide +kernel
theorem dX12_loudBits_18 : decode cX12_loudBits 18 = .ok (.ifCond .eq 9, 3) := by decide +kernel
theorem dX12_loudBits_21 : decode cX12_loudBits 21 = .ok (.iload_n 2, 1) := by decide +kernel
theorem dX12_loudBits_22 : decode cX12_loudBits 22 = .ok (.iconst 1, 1) := by decide +kernel
theorem dX12_loudBits_23 : decode cX12_loudBits 23 = .ok (.iload_n 3, 1) := by decide +kernel
theorem dX12_loudBits_24 : decode cX12_loudBits 24 = .ok (.ishl, 1) := by decide +kernel
theorem dX12_loudBits_25 : decode cX12_loudBits 25 = .ok (.ior, 1) := by decide +kernel
theorem dX12_loudBits_26 : decode cX12_loudBits 26 = .ok (.istore_n 2, 1) := by decide +kernel
theorem dX12_loudBits_27 : decode cX12_loudBits 27 = .ok (.iinc 3 1, 3) := by decide +kernel
theorem dX12_loudBits_30 : decode cX12_loudBits 30 = .ok (.goto (-26), 3) := by decide +kernel
theorem dX12_loudBits_33 : decode cX12_loudBits 33 = .ok (.iload_n 2, 1) := by decide +kernel
theorem dX12_loudBits_34 : decode cX12_loudBits 34 = .ok (.ireturn, 1) := by decide +kernel
theorem dX12_tuneBits_0 : decode cX12_tuneBits 0 = .ok (.iconst 0, 1) := by decide +kernel
theorem dX12_tuneBits_1 : decode cX12_tuneBits 1 = .ok (.istore_n 1, 1) := by decide +kernel
theorem dX12_tuneBits_2 : decode cX12_tuneBits 2 = .ok (.iconst 0, 1) := by decide +kernel
theorem dX12_tuneBits_3 : decode cX12_tuneBits 3 = .ok (.istore_n 2, 1) := by decide +kernel
theorem dX12_tuneBits_4 : decode cX12_tuneBits 4 = .ok (.iload_n 2, 1) := by decide +kernel
theorem dX12_tuneBits_5 : decode cX12_tuneBits 5 = .ok (.aload_n 0, 1) := by decide +kernel
theorem dX12_tuneBits_6 : decode cX12_tuneBits 6 = .ok (.invokevirtual 326, 3) := by decide +kernel
theorem dX12_tuneBits_9 : decode cX12_tuneBits 9 = .ok (.if_icmp .ge 24, 3) := by decide +kernel
theorem dX12_tuneBits_12 : decode cX12_tuneBits 12 = .ok (.aload_n 0, 1) := by decide +kernel
theorem dX12_tuneBits_13 : decode cX12_tuneBits 13 = .ok (.getfield 128, 3) := by decide +kernel
theorem dX12_tuneBits_16 : decode cX12_tuneBits 16 = .ok (.iload_n 2, 1) := by decide +kernel
theorem dX12_tuneBits_17 : decode cX12_tuneBits 17 = .ok (.iaload, 1) := by decide +kernel
theorem dX12_tuneBits_18 : decode cX12_tuneBits 18 = .ok (.ifCond .le 9, 3) := by decide +kernel
theorem dX12_tuneBits_21 : decode cX12_tuneBits 21 = .ok (.iload_n 1, 1) := by decide +kernel
theorem dX12_tuneBits_22 : decode cX12_tuneBits 22 = .ok (.iconst 1, 1) := by decide +kernel
theorem dX12_tuneBits_23 : decode cX12_tuneBits 23 = .ok (.iload_n 2, 1) := by decide +kernel
theorem dX12_tuneBits_24 : decode cX12_tuneBits 24 = .ok (.ishl, 1) := by decide +kernel
theorem dX12_tuneBits_25 : decode cX12_tuneBits 25 = .ok (.ior, 1) := by decide +kernel
theorem dX12_tuneBits_26 : decode cX12_tuneBits 26 = .ok (.istore_n 1, 1) := by decide +kernel
theorem dX12_tuneBits_27 : decode cX12_tuneBits 27 = .ok (.iinc 2 1, 3) := by decide +kernel
theorem dX12_tuneBits_30 : decode cX12_tuneBits 30 = .ok (.goto (-26), 3) := by decide +kernel
theorem dX12_tuneBits_33 : decode cX12_tuneBits 33 = .ok (.iload_n 1, 1) := by decide +kernel
theorem dX12_tuneBits_34 : decode cX12_tuneBits 34 = .ok (.ireturn, 1) := by decide +kernel
theorem dX12_goerBits_0 : decode cX12_goerBits 0 = .ok (.iconst 0, 1) := by decide +kernel
theorem dX12_goerBits_1 : decode cX12_goerBits 1 = .ok (.istore_n 1, 1) := by decide +kernel
theorem dX12_goerBits_2 : decode cX12_goerBits 2 = .ok (.iconst 0, 1) := by decide +kernel
theorem dX12_goerBits_3 : decode cX12_goerBits 3 = .ok (.istore_n 2, 1) := by decide +kernel
theorem dX12_goerBits_4 : decode cX12_goerBits 4 = .ok (.iload_n 2, 1) := by decide +kernel
theorem dX12_goerBits_5 : decode cX12_goerBits 5 = .ok (.aload_n 0, 1) := by decide +kernel
theorem dX12_goerBits_6 : decode cX12_goerBits 6 = .ok (.getfield 64, 3) := by decide +kernel
theorem dX12_goerBits_9 : decode cX12_goerBits 9 = .ok (.aload_n 0, 1) := by decide +kernel
theorem dX12_goerBits_10 : decode cX12_goerBits 10 = .ok (.getfield 245, 3) := by decide +kernel
theorem dX12_goerBits_13 : decode cX12_goerBits 13 = .ok (.iaload, 1) := by decide +kernel
theorem dX12_goerBits_14 : decode cX12_goerBits 14 = .ok (.if_icmp .ge 23, 3) := by decide +kernel
theorem dX12_goerBits_17 : decode cX12_goerBits 17 = .ok (.iload_n 1, 1) := by decide +kernel
theorem dX12_goerBits_18 : decode cX12_goerBits 18 = .ok (.iconst 1, 1) := by decide +kernel
theorem dX12_goerBits_19 : decode cX12_goerBits 19 = .ok (.aload_n 0, 1) := by decide +kernel
theorem dX12_goerBits_20 : decode cX12_goerBits 20 = .ok (.getfield 128, 3) := by decide +kernel
theorem dX12_goerBits_23 : decode cX12_goerBits 23 = .ok (.bipush 51, 2) := by decide +kernel
theorem dX12_goerBits_25 : decode cX12_goerBits 25 = .ok (.iload_n 2, 1) := by decide +kernel
theorem dX12_goerBits_26 : decode cX12_goerBits 26 = .ok (.iadd, 1) := by decide +kernel
theorem dX12_goerBits_27 : decode cX12_goerBits 27 = .ok (.iaload, 1) := by decide +kernel
theorem dX12_goerBits_28 : decode cX12_goerBits 28 = .ok (.ishl, 1) := by decide +kernel
theorem dX12_goerBits_29 : decode cX12_goerBits 29 = .ok (.ior, 1) := by decide +kernel
theorem dX12_goerBits_30 : decode cX12_goerBits 30 = .ok (.istore_n 1, 1) := by decide +kernel
theorem dX12_goerBits_31 : decode cX12_goerBits 31 = .ok (.iinc 2 1, 3) := by decide +kernel
theorem dX12_goerBits_34 : decode cX12_goerBits 34 = .ok (.goto (-30), 3) := by decide +kernel
theorem dX12_goerBits_37 : decode cX12_goerBits 37 = .ok (.iload_n 1, 1) := by decide +kernel
theorem dX12_goerBits_38 : decode cX12_goerBits 38 = .ok (.ireturn, 1) := by decide +kernel
theorem dX12_lawTells_0 : decode cX12_lawTells 0 = .ok (.iconst 4, 1) := by decide +kernel
theorem dX12_lawTells_1 : decode cX12_lawTells 1 = .ok (.aload_n 0, 1) := by decide +kernel
theorem dX12_lawTells_2 : decode cX12_lawTells 2 = .ok (.getfield 245, 3) := by decide +kernel
theorem dX12_lawTells_5 : decode cX12_lawTells 5 = .ok (.imul, 1) := by decide +kernel
theorem dX12_lawTells_6 : decode cX12_lawTells 6 = .ok (.iload_n 1, 1) := by decide +kernel
theorem dX12_lawTells_7 : decode cX12_lawTells 7 = .ok (.iadd, 1) := by decide +kernel
theorem dX12_lawTells_8 : decode cX12_lawTells 8 = .ok (.istore_n 3, 1) := by decide +kernel
theorem dX12_lawTells_9 : decode cX12_lawTells 9 = .ok (.aload_n 0, 1) := by decide +kernel
theorem dX12_lawTells_10 : decode cX12_lawTells 10 = .ok (.getfield 88, 3) := by decide +kernel
theorem dX12_lawTells_13 : decode cX12_lawTells 13 = .ok (.iload_n 3, 1) := by decide +kernel
theorem dX12_lawTells_14 : decode cX12_lawTells 14 = .ok (.iaload, 1) := by decide +kernel
theorem dX12_lawTells_15 : decode cX12_lawTells 15 = .ok (.aload_n 0, 1) := by decide +kernel
theorem dX12_lawTells_16 : decode cX12_lawTells 16 = .ok (.getfield 91, 3) := by decide +kernel
theorem dX12_lawTells_19 : decode cX12_lawTells 19 = .ok (.iload_n 3, 1) := by decide +kernel
theorem dX12_lawTells_20 : decode cX12_lawTells 20 = .ok (.iaload, 1) := by decide +kernel
theorem dX12_lawTells_21 : decode cX12_lawTells 21 = .ok (.if_icmp .ne 5, 3) := by decide +kernel
theorem dX12_lawTells_24 : decode cX12_lawTells 24 = .ok (.iload_n 2, 1) := by decide +kernel
theorem dX12_lawTells_25 : decode cX12_lawTells 25 = .ok (.ireturn, 1) := by decide +kernel
theorem dX12_lawTells_26 : decode cX12_lawTells 26 = .ok (.aload_n 0, 1) := by decide +kernel
theorem dX12_lawTells_27 : decode cX12_lawTells 27 = .ok (.iconst 0, 1) := by decide +kernel
theorem dX12_lawTells_28 : decode cX12_lawTells 28 = .ok (.putfield 322, 3) := by decide +kernel
theorem dX12_lawTells_31 : decode cX12_lawTells 31 = .ok (.aload_n 0, 1) := by decide +kernel
theorem dX12_lawTells_32 : decode cX12_lawTells 32 = .ok (.getfield 88, 3) := by decide +kernel
theorem dX12_lawTells_35 : decode cX12_lawTells 35 = .ok (.iload_n 3, 1) := by decide +kernel
theorem dX12_lawTells_36 : decode cX12_lawTells 36 = .ok (.iaload, 1) := by decide +kernel
theorem dX12_lawTells_37 : decode cX12_lawTells 37 = .ok (.istore 4, 2) := by decide +kernel
theorem dX12_lawTells_39 : decode cX12_lawTells 39 = .ok (.iload 4, 2) := by decide +kernel
theorem dX12_lawTells_41 : decode cX12_lawTells 41 = .ok (.aload_n 0, 1) := by decide +kernel
theorem dX12_lawTells_42 : decode cX12_lawTells 42 = .ok (.getfield 91, 3) := by decide +kernel
theorem dX12_lawTells_45 : decode cX12_lawTells 45 = .ok (.iload_n 3, 1) := by decide +kernel
theorem dX12_lawTells_46 : decode cX12_lawTells 46 = .ok (.iaload, 1) := by decide +kernel
theorem dX12_lawTells_47 : decode cX12_lawTells 47 = .ok (.if_icmp .ge 112, 3) := by decide +kernel
theorem dX12_lawTells_50 : decode cX12_lawTells 50 = .ok (.aload_n 0, 1) := by decide +kernel
theorem dX12_lawTells_51 : decode cX12_lawTells 51 = .ok (.getfield 94, 3) := by decide +kernel
theorem dX12_lawTells_54 : decode cX12_lawTells 54 = .ok (.iload 4, 2) := by decide +kernel
theorem dX12_lawTells_56 : decode cX12_lawTells 56 = .ok (.baload, 1) := by decide +kernel
theorem dX12_lawTells_57 : decode cX12_lawTells 57 = .ok (.ifCond .eq 62, 3) := by decide +kernel
theorem dX12_lawTells_60 : decode cX12_lawTells 60 = .ok (.aload_n 0, 1) := by decide +kernel
theorem dX12_lawTells_61 : decode cX12_lawTells 61 = .ok (.aload_n 0, 1) := by decide +kernel
theorem dX12_lawTells_62 : decode cX12_lawTells 62 = .ok (.getfield 98, 3) := by decide +kernel
theorem dX12_lawTells_65 : decode cX12_lawTells 65 = .ok (.iload 4, 2) := by decide +kernel
theorem dX12_lawTells_67 : decode cX12_lawTells 67 = .ok (.iaload, 1) := by decide +kernel
theorem dX12_lawTells_68 : decode cX12_lawTells 68 = .ok (.aload_n 0, 1) := by decide +kernel
theorem dX12_lawTells_69 : decode cX12_lawTells 69 = .ok (.getfield 101, 3) := by decide +kernel
theorem dX12_lawTells_72 : decode cX12_lawTells 72 = .ok (.iload 4, 2) := by decide +kernel
theorem dX12_lawTells_74 : decode cX12_lawTells 74 = .ok (.iaload, 1) := by decide +kernel
theorem dX12_lawTells_75 : decode cX12_lawTells 75 = .ok (.invokevirtual 356, 3) := by decide +kernel
theorem dX12_lawTells_78 : decode cX12_lawTells 78 = .ok (.istore 5, 2) := by decide +kernel
theorem dX12_lawTells_80 : decode cX12_lawTells 80 = .ok (.aload_n 0, 1) := by decide +kernel
theorem dX12_lawTells_81 : decode cX12_lawTells 81 = .ok (.aload_n 0, 1) := by decide +kernel
theorem dX12_lawTells_82 : decode cX12_lawTells 82 = .ok (.getfield 101, 3) := by decide +kernel
theorem dX12_lawTells_85 : decode cX12_lawTells 85 = .ok (.iload 4, 2) := by decide +kernel
theorem dX12_lawTells_87 : decode cX12_lawTells 87 = .ok (.iaload, 1) := by decide +kernel
theorem dX12_lawTells_88 : decode cX12_lawTells 88 = .ok (.aload_n 0, 1) := by decide +kernel
theorem dX12_lawTells_89 : decode cX12_lawTells 89 = .ok (.getfield 104, 3) := by decide +kernel
theorem dX12_lawTells_92 : decode cX12_lawTells 92 = .ok (.iload 4, 2) := by decide +kernel
theorem dX12_lawTells_94 : decode cX12_lawTells 94 = .ok (.iaload, 1) := by decide +kernel
theorem dX12_lawTells_95 : decode cX12_lawTells 95 = .ok (.invokevirtual 356, 3) := by decide +kernel
theorem dX12_lawTells_98 : decode cX12_lawTells 98 = .ok (.istore 6, 2) := by decide +kernel
theorem dX12_lawTells_100 : decode cX12_lawTells 100 = .ok (.aload_n 0, 1) := by decide +kernel
theorem dX12_lawTells_101 : decode cX12_lawTells 101 = .ok (.getfield 322, 3) := by decide +kernel
theorem dX12_lawTells_104 : decode cX12_lawTells 104 = .ok (.ifCond .eq 5, 3) := by decide +kernel
theorem dX12_lawTells_107 : decode cX12_lawTells 107 = .ok (.iconst 0, 1) := by decide +kernel
theorem dX12_lawTells_108 : decode cX12_lawTells 108 = .ok (.ireturn, 1) := by decide +kernel
theorem dX12_lawTells_109 : decode cX12_lawTells 109 = .ok (.iload 5, 2) := by decide +kernel
theorem dX12_lawTells_111 : decode cX12_lawTells 111 = .ok (.iload 6, 2) := by decide +kernel
theorem dX12_lawTells_113 : decode cX12_lawTells 113 = .ok (.if_icmp .lt 6, 3) := by decide +kernel
theorem dX12_lawTells_116 : decode cX12_lawTells 116 = .ok (.goto 37, 3) := by decide +kernel
theorem dX12_lawTells_119 : decode cX12_lawTells 119 = .ok (.aload_n 0, 1) := by decide +kernel
theorem dX12_lawTells_120 : decode cX12_lawTells 120 = .ok (.aload_n 0, 1) := by decide +kernel
theorem dX12_lawTells_121 : decode cX12_lawTells 121 = .ok (.getfield 104, 3) := by decide +kernel
theorem dX12_lawTells_124 : decode cX12_lawTells 124 = .ok (.iload 4, 2) := by decide +kernel
theorem dX12_lawTells_126 : decode cX12_lawTells 126 = .ok (.iaload, 1) := by decide +kernel
theorem dX12_lawTells_127 : decode cX12_lawTells 127 = .ok (.aload_n 0, 1) := by decide +kernel
theorem dX12_lawTells_128 : decode cX12_lawTells 128 = .ok (.getfield 107, 3) := by decide +kernel
theorem dX12_lawTells_131 : decode cX12_lawTells 131 = .ok (.iload 4, 2) := by decide +kernel
theorem dX12_lawTells_133 : decode cX12_lawTells 133 = .ok (.iaload, 1) := by decide +kernel
theorem dX12_lawTells_134 : decode cX12_lawTells 134 = .ok (.invokevirtual 356, 3) := by decide +kernel
theorem dX12_lawTells_137 : decode cX12_lawTells 137 = .ok (.istore 5, 2) := by decide +kernel
theorem dX12_lawTells_139 : decode cX12_lawTells 139 = .ok (.aload_n 0, 1) := by decide +kernel
theorem dX12_lawTells_140 : decode cX12_lawTells 140 = .ok (.getfield 322, 3) := by decide +kernel
theorem dX12_lawTells_143 : decode cX12_lawTells 143 = .ok (.ifCond .eq 7, 3) := by decide +kernel
theorem dX12_lawTells_146 : decode cX12_lawTells 146 = .ok (.iconst 0, 1) := by decide +kernel
theorem dX12_lawTells_147 : decode cX12_lawTells 147 = .ok (.goto 5, 3) := by decide +kernel
theorem dX12_lawTells_150 : decode cX12_lawTells 150 = .ok (.iload 5, 2) := by decide +kernel
theorem dX12_lawTells_152 : decode cX12_lawTells 152 = .ok (.ireturn, 1) := by decide +kernel
theorem dX12_lawTells_153 : decode cX12_lawTells 153 = .ok (.iinc 4 1, 3) := by decide +kernel
theorem dX12_lawTells_156 : decode cX12_lawTells 156 = .ok (.goto (-117), 3) := by decide +kernel
theorem dX12_lawTells_159 : decode cX12_lawTells 159 = .ok (.iconst 0, 1) := by decide +kernel
theorem dX12_lawTells_160 : decode cX12_lawTells 160 = .ok (.ireturn, 1) := by decide +kernel
theorem dX12_toldOf_0 : decode cX12_toldOf 0 = .ok (.aload_n 0, 1) := by decide +kernel
theorem dX12_toldOf_1 : decode cX12_toldOf 1 = .ok (.getfield 119, 3) := by decide +kernel
theorem dX12_toldOf_4 : decode cX12_toldOf 4 = .ok (.iconst 0, 1) := by decide +kernel
theorem dX12_toldOf_5 : decode cX12_toldOf 5 = .ok (.iload_n 1, 1) := by decide +kernel
theorem dX12_toldOf_6 : decode cX12_toldOf 6 = .ok (.aload_n 0, 1) := by decide +kernel
theorem dX12_toldOf_7 : decode cX12_toldOf 7 = .ok (.getfield 43, 3) := by decide +kernel
theorem dX12_toldOf_10 : decode cX12_toldOf 10 = .ok (.aload_n 0, 1) := by decide +kernel
theorem dX12_toldOf_11 : decode cX12_toldOf 11 = .ok (.getfield 245, 3) := by decide +kernel
theorem dX12_toldOf_14 : decode cX12_toldOf 14 = .ok (.iaload, 1) := by decide +kernel
theorem dX12_toldOf_15 : decode cX12_toldOf 15 = .ok (.irem, 1) := by decide +kernel
theorem dX12_toldOf_16 : decode cX12_toldOf 16 = .ok (.iastore, 1) := by decide +kernel
theorem dX12_toldOf_17 : decode cX12_toldOf 17 = .ok (.aload_n 0, 1) := by decide +kernel
theorem dX12_toldOf_18 : decode cX12_toldOf 18 = .ok (.getfield 119, 3) := by decide +kernel
theorem dX12_toldOf_21 : decode cX12_toldOf 21 = .ok (.iconst 1, 1) := by decide +kernel
theorem dX12_toldOf_22 : decode cX12_toldOf 22 = .ok (.iload_n 1, 1) := by decide +kernel
theorem dX12_toldOf_23 : decode cX12_toldOf 23 = .ok (.aload_n 0, 1) := by decide +kernel
theorem dX12_toldOf_24 : decode cX12_toldOf 24 = .ok (.getfield 43, 3) := by decide +kernel
theorem dX12_toldOf_27 : decode cX12_toldOf 27 = .ok (.aload_n 0, 1) := by decide +kernel
theorem dX12_toldOf_28 : decode cX12_toldOf 28 = .ok (.getfield 245, 3) := by decide +kernel
theorem dX12_toldOf_31 : decode cX12_toldOf 31 = .ok (.iaload, 1) := by decide +kernel
theorem dX12_toldOf_32 : decode cX12_toldOf 32 = .ok (.idiv, 1) := by decide +kernel
theorem dX12_toldOf_33 : decode cX12_toldOf 33 = .ok (.iastore, 1) := by decide +kernel
theorem dX12_toldOf_34 : decode cX12_toldOf 34 = .ok (.aload_n 0, 1) := by decide +kernel
theorem dX12_toldOf_35 : decode cX12_toldOf 35 = .ok (.getfield 119, 3) := by decide +kernel
theorem dX12_toldOf_38 : decode cX12_toldOf 38 = .ok (.iconst 2, 1) := by decide +kernel
theorem dX12_toldOf_39 : decode cX12_toldOf 39 = .ok (.aload_n 0, 1) := by decide +kernel
theorem dX12_toldOf_40 : decode cX12_toldOf 40 = .ok (.getfield 128, 3) := by decide +kernel
theorem dX12_toldOf_43 : decode cX12_toldOf 43 = .ok (.bipush 61, 2) := by decide +kernel
theorem dX12_toldOf_45 : decode cX12_toldOf 45 = .ok (.iaload, 1) := by decide +kernel
theorem dX12_toldOf_46 : decode cX12_toldOf 46 = .ok (.iastore, 1) := by decide +kernel
theorem dX12_toldOf_47 : decode cX12_toldOf 47 = .ok (.aload_n 0, 1) := by decide +kernel
theorem dX12_toldOf_48 : decode cX12_toldOf 48 = .ok (.getfield 119, 3) := by decide +kernel
theorem dX12_toldOf_51 : decode cX12_toldOf 51 = .ok (.iconst 3, 1) := by decide +kernel
theorem dX12_toldOf_52 : decode cX12_toldOf 52 = .ok (.aload_n 0, 1) := by decide +kernel
theorem dX12_toldOf_53 : decode cX12_toldOf 53 = .ok (.getfield 128, 3) := by decide +kernel
theorem dX12_toldOf_56 : decode cX12_toldOf 56 = .ok (.iload_n 1, 1) := by decide +kernel
theorem dX12_toldOf_57 : decode cX12_toldOf 57 = .ok (.iaload, 1) := by decide +kernel
theorem dX12_toldOf_58 : decode cX12_toldOf 58 = .ok (.iastore, 1) := by decide +kernel
theorem dX12_toldOf_59 : decode cX12_toldOf 59 = .ok (.aload_n 0, 1) := by decide +kernel
theorem dX12_toldOf_60 : decode cX12_toldOf 60 = .ok (.getfield 119, 3) := by decide +kernel
theorem dX12_toldOf_63 : decode cX12_toldOf 63 = .ok (.iconst 4, 1) := by decide +kernel
theorem dX12_toldOf_64 : decode cX12_toldOf 64 = .ok (.iload_n 2, 1) := by decide +kernel
theorem dX12_toldOf_65 : decode cX12_toldOf 65 = .ok (.iastore, 1) := by decide +kernel
theorem dX12_toldOf_66 : decode cX12_toldOf 66 = .ok (.aload_n 0, 1) := by decide +kernel
theorem dX12_toldOf_67 : decode cX12_toldOf 67 = .ok (.getfield 119, 3) := by decide +kernel
theorem dX12_toldOf_70 : decode cX12_toldOf 70 = .ok (.iconst 5, 1) := by decide +kernel
theorem dX12_toldOf_71 : decode cX12_toldOf 71 = .ok (.iload_n 3, 1) := by decide +kernel
theorem dX12_toldOf_72 : decode cX12_toldOf 72 = .ok (.iastore, 1) := by decide +kernel
theorem dX12_toldOf_73 : decode cX12_toldOf 73 = .ok (.aload_n 0, 1) := by decide +kernel
theorem dX12_toldOf_74 : decode cX12_toldOf 74 = .ok (.getfield 119, 3) := by decide +kernel
theorem dX12_toldOf_77 : decode cX12_toldOf 77 = .ok (.bipush 6, 2) := by decide +kernel
theorem dX12_toldOf_79 : decode cX12_toldOf 79 = .ok (.aload_n 0, 1) := by decide +kernel
theorem dX12_toldOf_80 : decode cX12_toldOf 80 = .ok (.getfield 43, 3) := by decide +kernel
theorem dX12_toldOf_83 : decode cX12_toldOf 83 = .ok (.aload_n 0, 1) := by decide +kernel
theorem dX12_toldOf_84 : decode cX12_toldOf 84 = .ok (.getfield 245, 3) := by decide +kernel
theorem dX12_toldOf_87 : decode cX12_toldOf 87 = .ok (.iaload, 1) := by decide +kernel
theorem dX12_toldOf_88 : decode cX12_toldOf 88 = .ok (.iastore, 1) := by decide +kernel
theorem dX12_toldOf_89 : decode cX12_toldOf 89 = .ok (.aload_n 0, 1) := by decide +kernel
theorem dX12_toldOf_90 : decode cX12_toldOf 90 = .ok (.getfield 119, 3) := by decide +kernel
theorem dX12_toldOf_93 : decode cX12_toldOf 93 = .ok (.bipush 7, 2) := by decide +kernel
theorem dX12_toldOf_95 : decode cX12_toldOf 95 = .ok (.aload_n 0, 1) := by decide +kernel
theorem dX12_toldOf_96 : decode cX12_toldOf 96 = .ok (.getfield 46, 3) := by decide +kernel
theorem dX12_toldOf_99 : decode cX12_toldOf 99 = .ok (.aload_n 0, 1) := by decide +kernel
theorem dX12_toldOf_100 : decode cX12_toldOf 100 = .ok (.getfield 245, 3) := by decide +kernel
theorem dX12_toldOf_103 : decode cX12_toldOf 103 = .ok (.iaload, 1) := by decide +kernel
theorem dX12_toldOf_104 : decode cX12_toldOf 104 = .ok (.iastore, 1) := by decide +kernel
theorem dX12_toldOf_105 : decode cX12_toldOf 105 = .ok (.aload_n 0, 1) := by decide +kernel
theorem dX12_toldOf_106 : decode cX12_toldOf 106 = .ok (.getfield 119, 3) := by decide +kernel
theorem dX12_toldOf_109 : decode cX12_toldOf 109 = .ok (.bipush 8, 2) := by decide +kernel
theorem dX12_toldOf_111 : decode cX12_toldOf 111 = .ok (.aload_n 0, 1) := by decide +kernel
theorem dX12_toldOf_112 : decode cX12_toldOf 112 = .ok (.invokevirtual 359, 3) := by decide +kernel
theorem dX12_toldOf_115 : decode cX12_toldOf 115 = .ok (.invokestatic 362, 3) := by decide +kernel
theorem dX12_toldOf_118 : decode cX12_toldOf 118 = .ok (.iastore, 1) := by decide +kernel
theorem dX12_toldOf_119 : decode cX12_toldOf 119 = .ok (.aload_n 0, 1) := by decide +kernel
theorem dX12_toldOf_120 : decode cX12_toldOf 120 = .ok (.iload 4, 2) := by decide +kernel
theorem dX12_toldOf_122 : decode cX12_toldOf 122 = .ok (.iload 5, 2) := by decide +kernel
theorem dX12_toldOf_124 : decode cX12_toldOf 124 = .ok (.invokevirtual 365, 3) := by decide +kernel
theorem dX12_toldOf_127 : decode cX12_toldOf 127 = .ok (.ireturn, 1) := by decide +kernel
theorem dX12_wayOf_0 : decode cX12_wayOf 0 = .ok (.aload_n 0, 1) := by decide +kernel
theorem dX12_wayOf_1 : decode cX12_wayOf 1 = .ok (.iload_n 2, 1) := by decide +kernel
theorem dX12_wayOf_2 : decode cX12_wayOf 2 = .ok (.aload_n 0, 1) := by decide +kernel
theorem dX12_wayOf_3 : decode cX12_wayOf 3 = .ok (.getfield 128, 3) := by decide +kernel
theorem dX12_wayOf_6 : decode cX12_wayOf 6 = .ok (.bipush 56, 2) := by decide +kernel
theorem dX12_wayOf_8 : decode cX12_wayOf 8 = .ok (.iload_n 1, 1) := by decide +kernel
theorem dX12_wayOf_9 : decode cX12_wayOf 9 = .ok (.iadd, 1) := by decide +kernel
theorem dX12_wayOf_10 : decode cX12_wayOf 10 = .ok (.iaload, 1) := by decide +kernel
theorem dX12_wayOf_11 : decode cX12_wayOf 11 = .ok (.iload_n 1, 1) := by decide +kernel
theorem dX12_wayOf_12 : decode cX12_wayOf 12 = .ok (.iload_n 3, 1) := by decide +kernel
theorem dX12_wayOf_13 : decode cX12_wayOf 13 = .ok (.iload 4, 2) := by decide +kernel
theorem dX12_wayOf_15 : decode cX12_wayOf 15 = .ok (.invokevirtual 368, 3) := by decide +kernel
theorem dX12_wayOf_18 : decode cX12_wayOf 18 = .ok (.istore 5, 2) := by decide +kernel
theorem dX12_wayOf_20 : decode cX12_wayOf 20 = .ok (.aload_n 0, 1) := by decide +kernel
theorem dX12_wayOf_21 : decode cX12_wayOf 21 = .ok (.getfield 131, 3) := by decide +kernel
theorem dX12_wayOf_24 : decode cX12_wayOf 24 = .ok (.iconst 5, 1) := by decide +kernel
theorem dX12_wayOf_25 : decode cX12_wayOf 25 = .ok (.iload_n 2, 1) := by decide +kernel
theorem dX12_wayOf_26 : decode cX12_wayOf 26 = .ok (.imul, 1) := by decide +kernel
theorem dX12_wayOf_27 : decode cX12_wayOf 27 = .ok (.iload 5, 2) := by decide +kernel
theorem dX12_wayOf_29 : decode cX12_wayOf 29 = .ok (.ifCond .ge 7, 3) := by decide +kernel
theorem dX12_wayOf_32 : decode cX12_wayOf 32 = .ok (.iconst 0, 1) := by decide +kernel
theorem dX12_wayOf_33 : decode cX12_wayOf 33 = .ok (.goto 7, 3) := by decide +kernel
theorem dX12_wayOf_36 : decode cX12_wayOf 36 = .ok (.iload 5, 2) := by decide +kernel
theorem dX12_wayOf_38 : decode cX12_wayOf 38 = .ok (.iconst 5, 1) := by decide +kernel
theorem dX12_wayOf_39 : decode cX12_wayOf 39 = .ok (.irem, 1) := by decide +kernel
theorem dX12_wayOf_40 : decode cX12_wayOf 40 = .ok (.iadd, 1) := by decide +kernel
theorem dX12_wayOf_41 : decode cX12_wayOf 41 = .ok (.iaload, 1) := by decide +kernel
theorem dX12_wayOf_42 : decode cX12_wayOf 42 = .ok (.istore 6, 2) := by decide +kernel
theorem dX12_wayOf_44 : decode cX12_wayOf 44 = .ok (.aload_n 0, 1) := by decide +kernel
theorem dX12_wayOf_45 : decode cX12_wayOf 45 = .ok (.iload 6, 2) := by decide +kernel
theorem dX12_wayOf_47 : decode cX12_wayOf 47 = .ok (.invokevirtual 372, 3) := by decide +kernel
theorem dX12_wayOf_50 : decode cX12_wayOf 50 = .ok (.ifCond .eq 7, 3) := by decide +kernel
theorem dX12_wayOf_53 : decode cX12_wayOf 53 = .ok (.iload_n 2, 1) := by decide +kernel
theorem dX12_wayOf_54 : decode cX12_wayOf 54 = .ok (.goto 5, 3) := by decide +kernel
theorem dX12_wayOf_57 : decode cX12_wayOf 57 = .ok (.iload 6, 2) := by decide +kernel
theorem dX12_wayOf_59 : decode cX12_wayOf 59 = .ok (.ireturn, 1) := by decide +kernel
theorem dX12_stepOf_0 : decode cX12_stepOf 0 = .ok (.aload_n 0, 1) := by decide +kernel
theorem dX12_stepOf_1 : decode cX12_stepOf 1 = .ok (.iload_n 1, 1) := by decide +kernel
theorem dX12_stepOf_2 : decode cX12_stepOf 2 = .ok (.aload_n 0, 1) := by decide +kernel
theorem dX12_stepOf_3 : decode cX12_stepOf 3 = .ok (.getfield 128, 3) := by decide +kernel
theorem dX12_stepOf_6 : decode cX12_stepOf 6 = .ok (.bipush 51, 2) := by decide +kernel
theorem dX12_stepOf_8 : decode cX12_stepOf 8 = .ok (.iload_n 1, 1) := by decide +kernel
theorem dX12_stepOf_9 : decode cX12_stepOf 9 = .ok (.iadd, 1) := by decide +kernel
theorem dX12_stepOf_10 : decode cX12_stepOf 10 = .ok (.iaload, 1) := by decide +kernel
theorem dX12_stepOf_11 : decode cX12_stepOf 11 = .ok (.iconst 0, 1) := by decide +kernel
theorem dX12_stepOf_12 : decode cX12_stepOf 12 = .ok (.iconst 0, 1) := by decide +kernel
theorem dX12_stepOf_13 : decode cX12_stepOf 13 = .ok (.invokevirtual 375, 3) := by decide +kernel
theorem dX12_stepOf_16 : decode cX12_stepOf 16 = .ok (.ireturn, 1) := by decide +kernel
theorem dX12_moveOf_0 : decode cX12_moveOf 0 = .ok (.aload_n 0, 1) := by decide +kernel
theorem dX12_moveOf_1 : decode cX12_moveOf 1 = .ok (.iload_n 1, 1) := by decide +kernel
theorem dX12_moveOf_2 : decode cX12_moveOf 2 = .ok (.aload_n 0, 1) := by decide +kernel
theorem dX12_moveOf_3 : decode cX12_moveOf 3 = .ok (.getfield 128, 3) := by decide +kernel
theorem dX12_moveOf_6 : decode cX12_moveOf 6 = .ok (.bipush 51, 2) := by decide +kernel
theorem dX12_moveOf_8 : decode cX12_moveOf 8 = .ok (.iload_n 1, 1) := by decide +kernel
theorem dX12_moveOf_9 : decode cX12_moveOf 9 = .ok (.iadd, 1) := by decide +kernel
theorem dX12_moveOf_10 : decode cX12_moveOf 10 = .ok (.iaload, 1) := by decide +kernel
theorem dX12_moveOf_11 : decode cX12_moveOf 11 = .ok (.iconst 1, 1) := by decide +kernel
theorem dX12_moveOf_12 : decode cX12_moveOf 12 = .ok (.iconst 1, 1) := by decide +kernel
theorem dX12_moveOf_13 : decode cX12_moveOf 13 = .ok (.invokevirtual 375, 3) := by decide +kernel
theorem dX12_moveOf_16 : decode cX12_moveOf 16 = .ok (.ireturn, 1) := by decide +kernel
theorem dX12_costsOf_0 : decode cX12_costsOf 0 = .ok (.aload_n 0, 1) := by decide +kernel
theorem dX12_costsOf_1 : decode cX12_costsOf 1 = .ok (.iload_n 1, 1) := by decide +kernel
theorem dX12_costsOf_2 : decode cX12_costsOf 2 = .ok (.iconst 0, 1) := by decide +kernel
theorem dX12_costsOf_3 : decode cX12_costsOf 3 = .ok (.iconst 0, 1) := by decide +kernel
theorem dX12_costsOf_4 : decode cX12_costsOf 4 = .ok (.iconst 3, 1) := by decide +kernel
theorem dX12_costsOf_5 : decode cX12_costsOf 5 = .ok (.iconst 1, 1) := by decide +kernel
theorem dX12_costsOf_6 : decode cX12_costsOf 6 = .ok (.invokevirtual 368, 3) := by decide +kernel
theorem dX12_costsOf_9 : decode cX12_costsOf 9 = .ok (.iconst 0, 1) := by decide +kernel
theorem dX12_costsOf_10 : decode cX12_costsOf 10 = .ok (.bipush 99, 2) := by decide +kernel
theorem dX12_costsOf_12 : decode cX12_costsOf 12 = .ok (.invokestatic 379, 3) := by decide +kernel
theorem dX12_costsOf_15 : decode cX12_costsOf 15 = .ok (.ireturn, 1) := by decide +kernel
theorem dX12_costsAll_0 : decode cX12_costsAll 0 = .ok (.iconst 0, 1) := by decide +kernel
theorem dX12_costsAll_1 : decode cX12_costsAll 1 = .ok (.istore_n 1, 1) := by decide +kernel
theorem dX12_costsAll_2 : decode cX12_costsAll 2 = .ok (.iconst 0, 1) := by decide +kernel
theorem dX12_costsAll_3 : decode cX12_costsAll 3 = .ok (.istore_n 2, 1) := by decide +kernel
theorem dX12_costsAll_4 : decode cX12_costsAll 4 = .ok (.iload_n 2, 1) := by decide +kernel
theorem dX12_costsAll_5 : decode cX12_costsAll 5 = .ok (.aload_n 0, 1) := by decide +kernel
theorem dX12_costsAll_6 : decode cX12_costsAll 6 = .ok (.invokevirtual 326, 3) := by decide +kernel
theorem dX12_costsAll_9 : decode cX12_costsAll 9 = .ok (.if_icmp .ge 26, 3) := by decide +kernel
theorem dX12_costsAll_12 : decode cX12_costsAll 12 = .ok (.aload_n 0, 1) := by decide +kernel
theorem dX12_costsAll_13 : decode cX12_costsAll 13 = .ok (.getfield 128, 3) := by decide +kernel
theorem dX12_costsAll_16 : decode cX12_costsAll 16 = .ok (.iload_n 2, 1) := by decide +kernel
theorem dX12_costsAll_17 : decode cX12_costsAll 17 = .ok (.iaload, 1) := by decide +kernel
theorem dX12_costsAll_18 : decode cX12_costsAll 18 = .ok (.ifCond .le 11, 3) := by decide +kernel
theorem dX12_costsAll_21 : decode cX12_costsAll 21 = .ok (.iload_n 1, 1) := by decide +kernel
theorem dX12_costsAll_22 : decode cX12_costsAll 22 = .ok (.aload_n 0, 1) := by decide +kernel
theorem dX12_costsAll_23 : decode cX12_costsAll 23 = .ok (.iload_n 2, 1) := by decide +kernel
theorem dX12_costsAll_24 : decode cX12_costsAll 24 = .ok (.invokevirtual 382, 3) := by decide +kernel
theorem dX12_costsAll_27 : decode cX12_costsAll 27 = .ok (.iadd, 1) := by decide +kernel
theorem dX12_costsAll_28 : decode cX12_costsAll 28 = .ok (.istore_n 1, 1) := by decide +kernel
theorem dX12_costsAll_29 : decode cX12_costsAll 29 = .ok (.iinc 2 1, 3) := by decide +kernel
theorem dX12_costsAll_32 : decode cX12_costsAll 32 = .ok (.goto (-28), 3) := by decide +kernel
theorem dX12_costsAll_35 : decode cX12_costsAll 35 = .ok (.iload_n 1, 1) := by decide +kernel
theorem dX12_costsAll_36 : decode cX12_costsAll 36 = .ok (.ireturn, 1) := by decide +kernel
theorem dX12_spreadBits_0 : decode cX12_spreadBits 0 = .ok (.aload_n 0, 1) := by decide +kernel
theorem dX12_spreadBits_1 : decode cX12_spreadBits 1 = .ok (.invokevirtual 359, 3) := by decide +kernel
theorem dX12_spreadBits_4 : decode cX12_spreadBits 4 = .ok (.istore_n 1, 1) := by decide +kernel
theorem dX12_spreadBits_5 : decode cX12_spreadBits 5 = .ok (.iconst 0, 1) := by decide +kernel
theorem dX12_spreadBits_6 : decode cX12_spreadBits 6 = .ok (.istore_n 2, 1) := by decide +kernel
theorem dX12_spreadBits_7 : decode cX12_spreadBits 7 = .ok (.iconst 0, 1) := by decide +kernel
theorem dX12_spreadBits_8 : decode cX12_spreadBits 8 = .ok (.istore_n 3, 1) := by decide +kernel
theorem dX12_spreadBits_9 : decode cX12_spreadBits 9 = .ok (.iload_n 3, 1) := by decide +kernel
theorem dX12_spreadBits_10 : decode cX12_spreadBits 10 = .ok (.aload_n 0, 1) := by decide +kernel
theorem dX12_spreadBits_11 : decode cX12_spreadBits 11 = .ok (.invokevirtual 326, 3) := by decide +kernel
theorem dX12_spreadBits_14 : decode cX12_spreadBits 14 = .ok (.if_icmp .ge 88, 3) := by decide +kernel
theorem dX12_spreadBits_17 : decode cX12_spreadBits 17 = .ok (.aload_n 0, 1) := by decide +kernel
theorem dX12_spreadBits_18 : decode cX12_spreadBits 18 = .ok (.getfield 131, 3) := by decide +kernel
theorem dX12_spreadBits_21 : decode cX12_spreadBits 21 = .ok (.iconst 5, 1) := by decide +kernel
theorem dX12_spreadBits_22 : decode cX12_spreadBits 22 = .ok (.iload_n 3, 1) := by decide +kernel
theorem dX12_spreadBits_23 : decode cX12_spreadBits 23 = .ok (.imul, 1) := by decide +kernel
theorem dX12_spreadBits_24 : decode cX12_spreadBits 24 = .ok (.iconst 1, 1) := by decide +kernel
theorem dX12_spreadBits_25 : decode cX12_spreadBits 25 = .ok (.iadd, 1) := by decide +kernel
theorem dX12_spreadBits_26 : decode cX12_spreadBits 26 = .ok (.iaload, 1) := by decide +kernel
theorem dX12_spreadBits_27 : decode cX12_spreadBits 27 = .ok (.istore 4, 2) := by decide +kernel
theorem dX12_spreadBits_29 : decode cX12_spreadBits 29 = .ok (.iload_n 1, 1) := by decide +kernel
theorem dX12_spreadBits_30 : decode cX12_spreadBits 30 = .ok (.iload_n 3, 1) := by decide +kernel
theorem dX12_spreadBits_31 : decode cX12_spreadBits 31 = .ok (.ishr, 1) := by decide +kernel
theorem dX12_spreadBits_32 : decode cX12_spreadBits 32 = .ok (.iconst 1, 1) := by decide +kernel
theorem dX12_spreadBits_33 : decode cX12_spreadBits 33 = .ok (.iand, 1) := by decide +kernel
theorem dX12_spreadBits_34 : decode cX12_spreadBits 34 = .ok (.ifCond .eq 62, 3) := by decide +kernel
theorem dX12_spreadBits_37 : decode cX12_spreadBits 37 = .ok (.iload_n 1, 1) := by decide +kernel
theorem dX12_spreadBits_38 : decode cX12_spreadBits 38 = .ok (.iload 4, 2) := by decide +kernel
theorem dX12_spreadBits_40 : decode cX12_spreadBits 40 = .ok (.ishr, 1) := by decide +kernel
theorem dX12_spreadBits_41 : decode cX12_spreadBits 41 = .ok (.iconst 1, 1) := by decide +kernel
theorem dX12_spreadBits_42 : decode cX12_spreadBits 42 = .ok (.iand, 1) := by decide +kernel
theorem dX12_spreadBits_43 : decode cX12_spreadBits 43 = .ok (.iconst 1, 1) := by decide +kernel
theorem dX12_spreadBits_44 : decode cX12_spreadBits 44 = .ok (.if_icmp .ne 6, 3) := by decide +kernel
theorem dX12_spreadBits_47 : decode cX12_spreadBits 47 = .ok (.goto 49, 3) := by decide +kernel
theorem dX12_spreadBits_50 : decode cX12_spreadBits 50 = .ok (.aload_n 0, 1) := by decide +kernel
theorem dX12_spreadBits_51 : decode cX12_spreadBits 51 = .ok (.iload_n 3, 1) := by decide +kernel
theorem dX12_spreadBits_52 : decode cX12_spreadBits 52 = .ok (.iconst 0, 1) := by decide +kernel
theorem dX12_spreadBits_53 : decode cX12_spreadBits 53 = .ok (.iconst 0, 1) := by decide +kernel
theorem dX12_spreadBits_54 : decode cX12_spreadBits 54 = .ok (.iconst 2, 1) := by decide +kernel
theorem dX12_spreadBits_55 : decode cX12_spreadBits 55 = .ok (.iconst 0, 1) := by decide +kernel
theorem dX12_spreadBits_56 : decode cX12_spreadBits 56 = .ok (.invokevirtual 368, 3) := by decide +kernel
theorem dX12_spreadBits_59 : decode cX12_spreadBits 59 = .ok (.ifCond .le 37, 3) := by decide +kernel
theorem dX12_spreadBits_62 : decode cX12_spreadBits 62 = .ok (.aload_n 0, 1) := by decide +kernel
theorem dX12_spreadBits_63 : decode cX12_spreadBits 63 = .ok (.bipush 32, 2) := by decide +kernel
theorem dX12_spreadBits_65 : decode cX12_spreadBits 65 = .ok (.aload_n 0, 1) := by decide +kernel
theorem dX12_spreadBits_66 : decode cX12_spreadBits 66 = .ok (.getfield 128, 3) := by decide +kernel
theorem dX12_spreadBits_69 : decode cX12_spreadBits 69 = .ok (.bipush 61, 2) := by decide +kernel
theorem dX12_spreadBits_71 : decode cX12_spreadBits 71 = .ok (.iaload, 1) := by decide +kernel
theorem dX12_spreadBits_72 : decode cX12_spreadBits 72 = .ok (.imul, 1) := by decide +kernel
theorem dX12_spreadBits_73 : decode cX12_spreadBits 73 = .ok (.iload_n 3, 1) := by decide +kernel
theorem dX12_spreadBits_74 : decode cX12_spreadBits 74 = .ok (.iadd, 1) := by decide +kernel
theorem dX12_spreadBits_75 : decode cX12_spreadBits 75 = .ok (.invokevirtual 385, 3) := by decide +kernel
theorem dX12_spreadBits_78 : decode cX12_spreadBits 78 = .ok (.aload_n 0, 1) := by decide +kernel
theorem dX12_spreadBits_79 : decode cX12_spreadBits 79 = .ok (.getfield 82, 3) := by decide +kernel
theorem dX12_spreadBits_82 : decode cX12_spreadBits 82 = .ok (.aload_n 0, 1) := by decide +kernel
theorem dX12_spreadBits_83 : decode cX12_spreadBits 83 = .ok (.getfield 245, 3) := by decide +kernel
theorem dX12_spreadBits_86 : decode cX12_spreadBits 86 = .ok (.iaload, 1) := by decide +kernel
theorem dX12_spreadBits_87 : decode cX12_spreadBits 87 = .ok (.if_icmp .ge 9, 3) := by decide +kernel
theorem dX12_spreadBits_90 : decode cX12_spreadBits 90 = .ok (.iload_n 2, 1) := by decide +kernel
theorem dX12_spreadBits_91 : decode cX12_spreadBits 91 = .ok (.iconst 1, 1) := by decide +kernel
theorem dX12_spreadBits_92 : decode cX12_spreadBits 92 = .ok (.iload_n 3, 1) := by decide +kernel
theorem dX12_spreadBits_93 : decode cX12_spreadBits 93 = .ok (.ishl, 1) := by decide +kernel
theorem dX12_spreadBits_94 : decode cX12_spreadBits 94 = .ok (.ior, 1) := by decide +kernel
theorem dX12_spreadBits_95 : decode cX12_spreadBits 95 = .ok (.istore_n 2, 1) := by decide +kernel
theorem dX12_spreadBits_96 : decode cX12_spreadBits 96 = .ok (.iinc 3 1, 3) := by decide +kernel
theorem dX12_spreadBits_99 : decode cX12_spreadBits 99 = .ok (.goto (-90), 3) := by decide +kernel
theorem dX12_spreadBits_102 : decode cX12_spreadBits 102 = .ok (.iload_n 2, 1) := by decide +kernel
theorem dX12_spreadBits_103 : decode cX12_spreadBits 103 = .ok (.ireturn, 1) := by decide +kernel
theorem dX12_spreads_0 : decode cX12_spreads 0 = .ok (.aload_n 0, 1) := by decide +kernel
theorem dX12_spreads_1 : decode cX12_spreads 1 = .ok (.invokevirtual 388, 3) := by decide +kernel
theorem dX12_spreads_4 : decode cX12_spreads 4 = .ok (.istore_n 1, 1) := by decide +kernel
theorem dX12_spreads_5 : decode cX12_spreads 5 = .ok (.iconst 0, 1) := by decide +kernel
theorem dX12_spreads_6 : decode cX12_spreads 6 = .ok (.istore_n 2, 1) := by decide +kernel
theorem dX12_spreads_7 : decode cX12_spreads 7 = .ok (.iload_n 2, 1) := by decide +kernel
theorem dX12_spreads_8 : decode cX12_spreads 8 = .ok (.aload_n 0, 1) := by decide +kernel
theorem dX12_spreads_9 : decode cX12_spreads 9 = .ok (.invokevirtual 326, 3) := by decide +kernel
theorem dX12_spreads_12 : decode cX12_spreads 12 = .ok (.if_icmp .ge 73, 3) := by decide +kernel
theorem dX12_spreads_15 : decode cX12_spreads 15 = .ok (.iload_n 1, 1) := by decide +kernel
theorem dX12_spreads_16 : decode cX12_spreads 16 = .ok (.iload_n 2, 1) := by decide +kernel
theorem dX12_spreads_17 : decode cX12_spreads 17 = .ok (.ishr, 1) := by decide +kernel
theorem dX12_spreads_18 : decode cX12_spreads 18 = .ok (.iconst 1, 1) := by decide +kernel
theorem dX12_spreads_19 : decode cX12_spreads 19 = .ok (.iand, 1) := by decide +kernel
theorem dX12_spreads_20 : decode cX12_spreads 20 = .ok (.ifCond .eq 59, 3) := by decide +kernel
theorem dX12_spreads_23 : decode cX12_spreads 23 = .ok (.aload_n 0, 1) := by decide +kernel
theorem dX12_spreads_24 : decode cX12_spreads 24 = .ok (.invokevirtual 359, 3) := by decide +kernel
theorem dX12_spreads_27 : decode cX12_spreads 27 = .ok (.invokestatic 362, 3) := by decide +kernel
theorem dX12_spreads_30 : decode cX12_spreads 30 = .ok (.bipush 8, 2) := by decide +kernel
theorem dX12_spreads_32 : decode cX12_spreads 32 = .ok (.if_icmp .lt 6, 3) := by decide +kernel
theorem dX12_spreads_35 : decode cX12_spreads 35 = .ok (.goto 44, 3) := by decide +kernel
theorem dX12_spreads_38 : decode cX12_spreads 38 = .ok (.aload_n 0, 1) := by decide +kernel
theorem dX12_spreads_39 : decode cX12_spreads 39 = .ok (.getfield 128, 3) := by decide +kernel
theorem dX12_spreads_42 : decode cX12_spreads 42 = .ok (.iload_n 2, 1) := by decide +kernel
theorem dX12_spreads_43 : decode cX12_spreads 43 = .ok (.iconst 1, 1) := by decide +kernel
theorem dX12_spreads_44 : decode cX12_spreads 44 = .ok (.iadd, 1) := by decide +kernel
theorem dX12_spreads_45 : decode cX12_spreads 45 = .ok (.aload_n 0, 1) := by decide +kernel
theorem dX12_spreads_46 : decode cX12_spreads 46 = .ok (.getfield 128, 3) := by decide +kernel
theorem dX12_spreads_49 : decode cX12_spreads 49 = .ok (.iload_n 2, 1) := by decide +kernel
theorem dX12_spreads_50 : decode cX12_spreads 50 = .ok (.iaload, 1) := by decide +kernel
theorem dX12_spreads_51 : decode cX12_spreads 51 = .ok (.iastore, 1) := by decide +kernel
theorem dX12_spreads_52 : decode cX12_spreads 52 = .ok (.aload_n 0, 1) := by decide +kernel
theorem dX12_spreads_53 : decode cX12_spreads 53 = .ok (.getfield 128, 3) := by decide +kernel
theorem dX12_spreads_56 : decode cX12_spreads 56 = .ok (.iload_n 2, 1) := by decide +kernel
theorem dX12_spreads_57 : decode cX12_spreads 57 = .ok (.bipush 26, 2) := by decide +kernel
theorem dX12_spreads_59 : decode cX12_spreads 59 = .ok (.iadd, 1) := by decide +kernel
theorem dX12_spreads_60 : decode cX12_spreads 60 = .ok (.aload_n 0, 1) := by decide +kernel
theorem dX12_spreads_61 : decode cX12_spreads 61 = .ok (.getfield 128, 3) := by decide +kernel
theorem dX12_spreads_64 : decode cX12_spreads 64 = .ok (.bipush 25, 2) := by decide +kernel
theorem dX12_spreads_66 : decode cX12_spreads 66 = .ok (.iload_n 2, 1) := by decide +kernel
theorem dX12_spreads_67 : decode cX12_spreads 67 = .ok (.iadd, 1) := by decide +kernel
theorem dX12_spreads_68 : decode cX12_spreads 68 = .ok (.iaload, 1) := by decide +kernel
theorem dX12_spreads_69 : decode cX12_spreads 69 = .ok (.iconst 1, 1) := by decide +kernel
theorem dX12_spreads_70 : decode cX12_spreads 70 = .ok (.iadd, 1) := by decide +kernel
theorem dX12_spreads_71 : decode cX12_spreads 71 = .ok (.aload_n 0, 1) := by decide +kernel
theorem dX12_spreads_72 : decode cX12_spreads 72 = .ok (.getfield 128, 3) := by decide +kernel
theorem dX12_spreads_75 : decode cX12_spreads 75 = .ok (.iload_n 2, 1) := by decide +kernel
theorem dX12_spreads_76 : decode cX12_spreads 76 = .ok (.iaload, 1) := by decide +kernel
theorem dX12_spreads_77 : decode cX12_spreads 77 = .ok (.irem, 1) := by decide +kernel
theorem dX12_spreads_78 : decode cX12_spreads 78 = .ok (.iastore, 1) := by decide +kernel
theorem dX12_spreads_79 : decode cX12_spreads 79 = .ok (.iinc 2 1, 3) := by decide +kernel
theorem dX12_spreads_82 : decode cX12_spreads 82 = .ok (.goto (-75), 3) := by decide +kernel
theorem dX12_spreads_85 : decode cX12_spreads 85 = .ok (.return_, 1) := by decide +kernel
theorem dX12_beatGoes_0 : decode cX12_beatGoes 0 = .ok (.iconst 0, 1) := by decide +kernel
theorem dX12_beatGoes_1 : decode cX12_beatGoes 1 = .ok (.istore_n 1, 1) := by decide +kernel
theorem dX12_beatGoes_2 : decode cX12_beatGoes 2 = .ok (.iload_n 1, 1) := by decide +kernel
theorem dX12_beatGoes_3 : decode cX12_beatGoes 3 = .ok (.aload_n 0, 1) := by decide +kernel
theorem dX12_beatGoes_4 : decode cX12_beatGoes 4 = .ok (.getfield 64, 3) := by decide +kernel
theorem dX12_beatGoes_7 : decode cX12_beatGoes 7 = .ok (.aload_n 0, 1) := by decide +kernel
theorem dX12_beatGoes_8 : decode cX12_beatGoes 8 = .ok (.getfield 245, 3) := by decide +kernel
theorem dX12_beatGoes_11 : decode cX12_beatGoes 11 = .ok (.iaload, 1) := by decide +kernel
theorem dX12_beatGoes_12 : decode cX12_beatGoes 12 = .ok (.if_icmp .ge 20, 3) := by decide +kernel
theorem dX12_beatGoes_15 : decode cX12_beatGoes 15 = .ok (.aload_n 0, 1) := by decide +kernel
theorem dX12_beatGoes_16 : decode cX12_beatGoes 16 = .ok (.getfield 134, 3) := by decide +kernel
theorem dX12_beatGoes_19 : decode cX12_beatGoes 19 = .ok (.iload_n 1, 1) := by decide +kernel
theorem dX12_beatGoes_20 : decode cX12_beatGoes 20 = .ok (.aload_n 0, 1) := by decide +kernel
theorem dX12_beatGoes_21 : decode cX12_beatGoes 21 = .ok (.iload_n 1, 1) := by decide +kernel
theorem dX12_beatGoes_22 : decode cX12_beatGoes 22 = .ok (.invokevirtual 391, 3) := by decide +kernel
theorem dX12_beatGoes_25 : decode cX12_beatGoes 25 = .ok (.iastore, 1) := by decide +kernel
theorem dX12_beatGoes_26 : decode cX12_beatGoes 26 = .ok (.iinc 1 1, 3) := by decide +kernel
theorem dX12_beatGoes_29 : decode cX12_beatGoes 29 = .ok (.goto (-27), 3) := by decide +kernel
theorem dX12_beatGoes_32 : decode cX12_beatGoes 32 = .ok (.iconst 0, 1) := by decide +kernel
theorem dX12_beatGoes_33 : decode cX12_beatGoes 33 = .ok (.istore_n 1, 1) := by decide +kernel
theorem dX12_beatGoes_34 : decode cX12_beatGoes 34 = .ok (.iload_n 1, 1) := by decide +kernel
theorem dX12_beatGoes_35 : decode cX12_beatGoes 35 = .ok (.aload_n 0, 1) := by decide +kernel
theorem dX12_beatGoes_36 : decode cX12_beatGoes 36 = .ok (.getfield 64, 3) := by decide +kernel
theorem dX12_beatGoes_39 : decode cX12_beatGoes 39 = .ok (.aload_n 0, 1) := by decide +kernel
theorem dX12_beatGoes_40 : decode cX12_beatGoes 40 = .ok (.getfield 245, 3) := by decide +kernel
theorem dX12_beatGoes_43 : decode cX12_beatGoes 43 = .ok (.iaload, 1) := by decide +kernel
theorem dX12_beatGoes_44 : decode cX12_beatGoes 44 = .ok (.if_icmp .ge 24, 3) := by decide +kernel
theorem dX12_beatGoes_47 : decode cX12_beatGoes 47 = .ok (.aload_n 0, 1) := by decide +kernel
theorem dX12_beatGoes_48 : decode cX12_beatGoes 48 = .ok (.getfield 128, 3) := by decide +kernel
theorem dX12_beatGoes_51 : decode cX12_beatGoes 51 = .ok (.bipush 51, 2) := by decide +kernel
theorem dX12_beatGoes_53 : decode cX12_beatGoes 53 = .ok (.iload_n 1, 1) := by decide +kernel
theorem dX12_beatGoes_54 : decode cX12_beatGoes 54 = .ok (.iadd, 1) := by decide +kernel
theorem dX12_beatGoes_55 : decode cX12_beatGoes 55 = .ok (.aload_n 0, 1) := by decide +kernel
theorem dX12_beatGoes_56 : decode cX12_beatGoes 56 = .ok (.getfield 134, 3) := by decide +kernel
theorem dX12_beatGoes_59 : decode cX12_beatGoes 59 = .ok (.iload_n 1, 1) := by decide +kernel
theorem dX12_beatGoes_60 : decode cX12_beatGoes 60 = .ok (.iaload, 1) := by decide +kernel
theorem dX12_beatGoes_61 : decode cX12_beatGoes 61 = .ok (.iastore, 1) := by decide +kernel
theorem dX12_beatGoes_62 : decode cX12_beatGoes 62 = .ok (.iinc 1 1, 3) := by decide +kernel
theorem dX12_beatGoes_65 : decode cX12_beatGoes 65 = .ok (.goto (-31), 3) := by decide +kernel
theorem dX12_beatGoes_68 : decode cX12_beatGoes 68 = .ok (.aload_n 0, 1) := by decide +kernel
theorem dX12_beatGoes_69 : decode cX12_beatGoes 69 = .ok (.getfield 128, 3) := by decide +kernel
theorem dX12_beatGoes_72 : decode cX12_beatGoes 72 = .ok (.bipush 61, 2) := by decide +kernel
theorem dX12_beatGoes_74 : decode cX12_beatGoes 74 = .ok (.dup2, 1) := by decide +kernel
theorem dX12_beatGoes_75 : decode cX12_beatGoes 75 = .ok (.iaload, 1) := by decide +kernel
theorem dX12_beatGoes_76 : decode cX12_beatGoes 76 = .ok (.iconst 1, 1) := by decide +kernel
theorem dX12_beatGoes_77 : decode cX12_beatGoes 77 = .ok (.iadd, 1) := by decide +kernel
theorem dX12_beatGoes_78 : decode cX12_beatGoes 78 = .ok (.iastore, 1) := by decide +kernel
theorem dX12_beatGoes_79 : decode cX12_beatGoes 79 = .ok (.iconst 0, 1) := by decide +kernel
theorem dX12_beatGoes_80 : decode cX12_beatGoes 80 = .ok (.istore_n 1, 1) := by decide +kernel
theorem dX12_beatGoes_81 : decode cX12_beatGoes 81 = .ok (.iload_n 1, 1) := by decide +kernel
theorem dX12_beatGoes_82 : decode cX12_beatGoes 82 = .ok (.aload_n 0, 1) := by decide +kernel
theorem dX12_beatGoes_83 : decode cX12_beatGoes 83 = .ok (.getfield 64, 3) := by decide +kernel
theorem dX12_beatGoes_86 : decode cX12_beatGoes 86 = .ok (.aload_n 0, 1) := by decide +kernel
theorem dX12_beatGoes_87 : decode cX12_beatGoes 87 = .ok (.getfield 245, 3) := by decide +kernel
theorem dX12_beatGoes_90 : decode cX12_beatGoes 90 = .ok (.iaload, 1) := by decide +kernel
theorem dX12_beatGoes_91 : decode cX12_beatGoes 91 = .ok (.if_icmp .ge 47, 3) := by decide +kernel
theorem dX12_beatGoes_94 : decode cX12_beatGoes 94 = .ok (.aload_n 0, 1) := by decide +kernel
theorem dX12_beatGoes_95 : decode cX12_beatGoes 95 = .ok (.getfield 134, 3) := by decide +kernel
theorem dX12_beatGoes_98 : decode cX12_beatGoes 98 = .ok (.iload_n 1, 1) := by decide +kernel
theorem dX12_beatGoes_99 : decode cX12_beatGoes 99 = .ok (.aload_n 0, 1) := by decide +kernel
theorem dX12_beatGoes_100 : decode cX12_beatGoes 100 = .ok (.aload_n 0, 1) := by decide +kernel
theorem dX12_beatGoes_101 : decode cX12_beatGoes 101 = .ok (.getfield 128, 3) := by decide +kernel
theorem dX12_beatGoes_104 : decode cX12_beatGoes 104 = .ok (.bipush 51, 2) := by decide +kernel
theorem dX12_beatGoes_106 : decode cX12_beatGoes 106 = .ok (.iload_n 1, 1) := by decide +kernel
theorem dX12_beatGoes_107 : decode cX12_beatGoes 107 = .ok (.iadd, 1) := by decide +kernel
theorem dX12_beatGoes_108 : decode cX12_beatGoes 108 = .ok (.iaload, 1) := by decide +kernel
theorem dX12_beatGoes_109 : decode cX12_beatGoes 109 = .ok (.aload_n 0, 1) := by decide +kernel
theorem dX12_beatGoes_110 : decode cX12_beatGoes 110 = .ok (.getfield 128, 3) := by decide +kernel
theorem dX12_beatGoes_113 : decode cX12_beatGoes 113 = .ok (.bipush 61, 2) := by decide +kernel
theorem dX12_beatGoes_115 : decode cX12_beatGoes 115 = .ok (.iaload, 1) := by decide +kernel
theorem dX12_beatGoes_116 : decode cX12_beatGoes 116 = .ok (.invokevirtual 353, 3) := by decide +kernel
theorem dX12_beatGoes_119 : decode cX12_beatGoes 119 = .ok (.ifCond .eq 11, 3) := by decide +kernel
theorem dX12_beatGoes_122 : decode cX12_beatGoes 122 = .ok (.aload_n 0, 1) := by decide +kernel
theorem dX12_beatGoes_123 : decode cX12_beatGoes 123 = .ok (.iload_n 1, 1) := by decide +kernel
theorem dX12_beatGoes_124 : decode cX12_beatGoes 124 = .ok (.invokevirtual 394, 3) := by decide +kernel
theorem dX12_beatGoes_127 : decode cX12_beatGoes 127 = .ok (.goto 4, 3) := by decide +kernel
theorem dX12_beatGoes_130 : decode cX12_beatGoes 130 = .ok (.iconst (-1), 1) := by decide +kernel
theorem dX12_beatGoes_131 : decode cX12_beatGoes 131 = .ok (.iastore, 1) := by decide +kernel
theorem dX12_beatGoes_132 : decode cX12_beatGoes 132 = .ok (.iinc 1 1, 3) := by decide +kernel
theorem dX12_beatGoes_135 : decode cX12_beatGoes 135 = .ok (.goto (-54), 3) := by decide +kernel
theorem dX12_beatGoes_138 : decode cX12_beatGoes 138 = .ok (.iconst 0, 1) := by decide +kernel
theorem dX12_beatGoes_139 : decode cX12_beatGoes 139 = .ok (.istore_n 1, 1) := by decide +kernel
theorem dX12_beatGoes_140 : decode cX12_beatGoes 140 = .ok (.iload_n 1, 1) := by decide +kernel
theorem dX12_beatGoes_141 : decode cX12_beatGoes 141 = .ok (.aload_n 0, 1) := by decide +kernel
theorem dX12_beatGoes_142 : decode cX12_beatGoes 142 = .ok (.getfield 64, 3) := by decide +kernel
theorem dX12_beatGoes_145 : decode cX12_beatGoes 145 = .ok (.aload_n 0, 1) := by decide +kernel
theorem dX12_beatGoes_146 : decode cX12_beatGoes 146 = .ok (.getfield 245, 3) := by decide +kernel
theorem dX12_beatGoes_149 : decode cX12_beatGoes 149 = .ok (.iaload, 1) := by decide +kernel
theorem dX12_beatGoes_150 : decode cX12_beatGoes 150 = .ok (.if_icmp .ge 49, 3) := by decide +kernel
theorem dX12_beatGoes_153 : decode cX12_beatGoes 153 = .ok (.aload_n 0, 1) := by decide +kernel
theorem dX12_beatGoes_154 : decode cX12_beatGoes 154 = .ok (.getfield 134, 3) := by decide +kernel
theorem dX12_beatGoes_157 : decode cX12_beatGoes 157 = .ok (.iload_n 1, 1) := by decide +kernel
theorem dX12_beatGoes_158 : decode cX12_beatGoes 158 = .ok (.iaload, 1) := by decide +kernel
theorem dX12_beatGoes_159 : decode cX12_beatGoes 159 = .ok (.ifCond .ge 6, 3) := by decide +kernel
theorem dX12_beatGoes_162 : decode cX12_beatGoes 162 = .ok (.goto 31, 3) := by decide +kernel
theorem dX12_beatGoes_165 : decode cX12_beatGoes 165 = .ok (.aload_n 0, 1) := by decide +kernel
theorem dX12_beatGoes_166 : decode cX12_beatGoes 166 = .ok (.getfield 128, 3) := by decide +kernel
theorem dX12_beatGoes_169 : decode cX12_beatGoes 169 = .ok (.bipush 51, 2) := by decide +kernel
theorem dX12_beatGoes_171 : decode cX12_beatGoes 171 = .ok (.iload_n 1, 1) := by decide +kernel
theorem dX12_beatGoes_172 : decode cX12_beatGoes 172 = .ok (.iadd, 1) := by decide +kernel
theorem dX12_beatGoes_173 : decode cX12_beatGoes 173 = .ok (.aload_n 0, 1) := by decide +kernel
theorem dX12_beatGoes_174 : decode cX12_beatGoes 174 = .ok (.getfield 134, 3) := by decide +kernel
theorem dX12_beatGoes_177 : decode cX12_beatGoes 177 = .ok (.iload_n 1, 1) := by decide +kernel
theorem dX12_beatGoes_178 : decode cX12_beatGoes 178 = .ok (.iaload, 1) := by decide +kernel
theorem dX12_beatGoes_179 : decode cX12_beatGoes 179 = .ok (.iastore, 1) := by decide +kernel
theorem dX12_beatGoes_180 : decode cX12_beatGoes 180 = .ok (.aload_n 0, 1) := by decide +kernel
theorem dX12_beatGoes_181 : decode cX12_beatGoes 181 = .ok (.getfield 128, 3) := by decide +kernel
theorem dX12_beatGoes_184 : decode cX12_beatGoes 184 = .ok (.bipush 56, 2) := by decide +kernel
theorem dX12_beatGoes_186 : decode cX12_beatGoes 186 = .ok (.iload_n 1, 1) := by decide +kernel
theorem dX12_beatGoes_187 : decode cX12_beatGoes 187 = .ok (.iadd, 1) := by decide +kernel
theorem dX12_beatGoes_188 : decode cX12_beatGoes 188 = .ok (.dup2, 1) := by decide +kernel
theorem dX12_beatGoes_189 : decode cX12_beatGoes 189 = .ok (.iaload, 1) := by decide +kernel
theorem dX12_beatGoes_190 : decode cX12_beatGoes 190 = .ok (.iconst 1, 1) := by decide +kernel
theorem dX12_beatGoes_191 : decode cX12_beatGoes 191 = .ok (.iadd, 1) := by decide +kernel
theorem dX12_beatGoes_192 : decode cX12_beatGoes 192 = .ok (.iastore, 1) := by decide +kernel
theorem dX12_beatGoes_193 : decode cX12_beatGoes 193 = .ok (.iinc 1 1, 3) := by decide +kernel
theorem dX12_beatGoes_196 : decode cX12_beatGoes 196 = .ok (.goto (-56), 3) := by decide +kernel
theorem dX12_beatGoes_199 : decode cX12_beatGoes 199 = .ok (.aload_n 0, 1) := by decide +kernel
theorem dX12_beatGoes_200 : decode cX12_beatGoes 200 = .ok (.getfield 340, 3) := by decide +kernel
theorem dX12_beatGoes_203 : decode cX12_beatGoes 203 = .ok (.ifCond .ne 7, 3) := by decide +kernel
theorem dX12_beatGoes_206 : decode cX12_beatGoes 206 = .ok (.aload_n 0, 1) := by decide +kernel
theorem dX12_beatGoes_207 : decode cX12_beatGoes 207 = .ok (.invokevirtual 397, 3) := by decide +kernel
theorem dX12_beatGoes_210 : decode cX12_beatGoes 210 = .ok (.return_, 1) := by decide +kernel
theorem dX12_goes_0 : decode cX12_goes 0 = .ok (.iconst 0, 1) := by decide +kernel
theorem dX12_goes_1 : decode cX12_goes 1 = .ok (.istore_n 2, 1) := by decide +kernel
theorem dX12_goes_2 : decode cX12_goes 2 = .ok (.iload_n 2, 1) := by decide +kernel
theorem dX12_goes_3 : decode cX12_goes 3 = .ok (.iload_n 1, 1) := by decide +kernel
theorem dX12_goes_4 : decode cX12_goes 4 = .ok (.if_icmp .ge 13, 3) := by decide +kernel
theorem dX12_goes_7 : decode cX12_goes 7 = .ok (.aload_n 0, 1) := by decide +kernel
theorem dX12_goes_8 : decode cX12_goes 8 = .ok (.invokevirtual 400, 3) := by decide +kernel
theorem dX12_goes_11 : decode cX12_goes 11 = .ok (.iinc 2 1, 3) := by decide +kernel
theorem dX12_goes_14 : decode cX12_goes 14 = .ok (.goto (-12), 3) := by decide +kernel
theorem dX12_goes_17 : decode cX12_goes 17 = .ok (.return_, 1) := by decide +kernel
theorem dX12_cell_0 : decode cX12_cell 0 = .ok (.aload_n 0, 1) := by decide +kernel
theorem dX12_cell_1 : decode cX12_cell 1 = .ok (.iload_n 1, 1) := by decide +kernel
theorem dX12_cell_2 : decode cX12_cell 2 = .ok (.invokevirtual 403, 3) := by decide +kernel
theorem dX12_cell_5 : decode cX12_cell 5 = .ok (.ifCond .ne 5, 3) := by decide +kernel
theorem dX12_cell_8 : decode cX12_cell 8 = .ok (.iconst (-1), 1) := by decide +kernel
theorem dX12_cell_9 : decode cX12_cell 9 = .ok (.ireturn, 1) := by decide +kernel
theorem dX12_cell_10 : decode cX12_cell 10 = .ok (.aload_n 0, 1) := by decide +kernel
theorem dX12_cell_11 : decode cX12_cell 11 = .ok (.invokevirtual 346, 3) := by decide +kernel
theorem dX12_cell_14 : decode cX12_cell 14 = .ok (.iload_n 2, 1) := by decide +kernel
theorem dX12_cell_15 : decode cX12_cell 15 = .ok (.tableswitch 129 0 5 #[37, 58, 82, 103, 117, 123], 37) := by decide +kernel
theorem dX12_cell_52 : decode cX12_cell 52 = .ok (.aload_n 0, 1) := by decide +kernel
theorem dX12_cell_53 : decode cX12_cell 53 = .ok (.getfield 128, 3) := by decide +kernel
theorem dX12_cell_56 : decode cX12_cell 56 = .ok (.iload_n 1, 1) := by decide +kernel
theorem dX12_cell_57 : decode cX12_cell 57 = .ok (.iaload, 1) := by decide +kernel
theorem dX12_cell_58 : decode cX12_cell 58 = .ok (.ifCond .ne 8, 3) := by decide +kernel
theorem dX12_cell_61 : decode cX12_cell 61 = .ok (.bipush (-2), 2) := by decide +kernel
theorem dX12_cell_63 : decode cX12_cell 63 = .ok (.goto 9, 3) := by decide +kernel
theorem dX12_cell_66 : decode cX12_cell 66 = .ok (.aload_n 0, 1) := by decide +kernel
theorem dX12_cell_67 : decode cX12_cell 67 = .ok (.getfield 128, 3) := by decide +kernel
theorem dX12_cell_70 : decode cX12_cell 70 = .ok (.iload_n 1, 1) := by decide +kernel
theorem dX12_cell_71 : decode cX12_cell 71 = .ok (.iaload, 1) := by decide +kernel
theorem dX12_cell_72 : decode cX12_cell 72 = .ok (.ireturn, 1) := by decide +kernel
theorem dX12_cell_73 : decode cX12_cell 73 = .ok (.aload_n 0, 1) := by decide +kernel
theorem dX12_cell_74 : decode cX12_cell 74 = .ok (.getfield 128, 3) := by decide +kernel
theorem dX12_cell_77 : decode cX12_cell 77 = .ok (.iload_n 1, 1) := by decide +kernel
theorem dX12_cell_78 : decode cX12_cell 78 = .ok (.iaload, 1) := by decide +kernel
theorem dX12_cell_79 : decode cX12_cell 79 = .ok (.ifCond .ne 8, 3) := by decide +kernel
theorem dX12_cell_82 : decode cX12_cell 82 = .ok (.bipush (-2), 2) := by decide +kernel
theorem dX12_cell_84 : decode cX12_cell 84 = .ok (.goto 12, 3) := by decide +kernel
theorem dX12_cell_87 : decode cX12_cell 87 = .ok (.aload_n 0, 1) := by decide +kernel
theorem dX12_cell_88 : decode cX12_cell 88 = .ok (.getfield 128, 3) := by decide +kernel
theorem dX12_cell_91 : decode cX12_cell 91 = .ok (.bipush 25, 2) := by decide +kernel
theorem dX12_cell_93 : decode cX12_cell 93 = .ok (.iload_n 1, 1) := by decide +kernel
theorem dX12_cell_94 : decode cX12_cell 94 = .ok (.iadd, 1) := by decide +kernel
theorem dX12_cell_95 : decode cX12_cell 95 = .ok (.iaload, 1) := by decide +kernel
theorem dX12_cell_96 : decode cX12_cell 96 = .ok (.ireturn, 1) := by decide +kernel
theorem dX12_cell_97 : decode cX12_cell 97 = .ok (.aload_n 0, 1) := by decide +kernel
theorem dX12_cell_98 : decode cX12_cell 98 = .ok (.iload_n 1, 1) := by decide +kernel
theorem dX12_cell_99 : decode cX12_cell 99 = .ok (.aload_n 0, 1) := by decide +kernel
theorem dX12_cell_100 : decode cX12_cell 100 = .ok (.getfield 128, 3) := by decide +kernel
theorem dX12_cell_103 : decode cX12_cell 103 = .ok (.bipush 61, 2) := by decide +kernel
theorem dX12_cell_105 : decode cX12_cell 105 = .ok (.iaload, 1) := by decide +kernel
theorem dX12_cell_106 : decode cX12_cell 106 = .ok (.invokevirtual 353, 3) := by decide +kernel
theorem dX12_cell_109 : decode cX12_cell 109 = .ok (.ifCond .eq 7, 3) := by decide +kernel
theorem dX12_cell_112 : decode cX12_cell 112 = .ok (.iconst 1, 1) := by decide +kernel
theorem dX12_cell_113 : decode cX12_cell 113 = .ok (.goto 4, 3) := by decide +kernel
theorem dX12_cell_116 : decode cX12_cell 116 = .ok (.iconst 0, 1) := by decide +kernel
theorem dX12_cell_117 : decode cX12_cell 117 = .ok (.ireturn, 1) := by decide +kernel
theorem dX12_cell_118 : decode cX12_cell 118 = .ok (.aload_n 0, 1) := by decide +kernel
theorem dX12_cell_119 : decode cX12_cell 119 = .ok (.iload_n 1, 1) := by decide +kernel
theorem dX12_cell_120 : decode cX12_cell 120 = .ok (.invokevirtual 372, 3) := by decide +kernel
theorem dX12_cell_123 : decode cX12_cell 123 = .ok (.ifCond .eq 7, 3) := by decide +kernel
theorem dX12_cell_126 : decode cX12_cell 126 = .ok (.iconst 1, 1) := by decide +kernel
theorem dX12_cell_127 : decode cX12_cell 127 = .ok (.goto 4, 3) := by decide +kernel
theorem dX12_cell_130 : decode cX12_cell 130 = .ok (.iconst 0, 1) := by decide +kernel
theorem dX12_cell_131 : decode cX12_cell 131 = .ok (.ireturn, 1) := by decide +kernel
theorem dX12_cell_132 : decode cX12_cell 132 = .ok (.aload_n 0, 1) := by decide +kernel
theorem dX12_cell_133 : decode cX12_cell 133 = .ok (.iload_n 1, 1) := by decide +kernel
theorem dX12_cell_134 : decode cX12_cell 134 = .ok (.invokevirtual 406, 3) := by decide +kernel
theorem dX12_cell_137 : decode cX12_cell 137 = .ok (.ireturn, 1) := by decide +kernel
theorem dX12_cell_138 : decode cX12_cell 138 = .ok (.aload_n 0, 1) := by decide +kernel
theorem dX12_cell_139 : decode cX12_cell 139 = .ok (.iload_n 1, 1) := by decide +kernel
theorem dX12_cell_140 : decode cX12_cell 140 = .ok (.invokevirtual 382, 3) := by decide +kernel
theorem dX12_cell_143 : decode cX12_cell 143 = .ok (.ireturn, 1) := by decide +kernel
theorem dX12_cell_144 : decode cX12_cell 144 = .ok (.iconst (-1), 1) := by decide +kernel
theorem dX12_cell_145 : decode cX12_cell 145 = .ok (.ireturn, 1) := by decide +kernel
theorem dX12_whoAt_0 : decode cX12_whoAt 0 = .ok (.iconst 0, 1) := by decide +kernel
theorem dX12_whoAt_1 : decode cX12_whoAt 1 = .ok (.istore_n 2, 1) := by decide +kernel
theorem dX12_whoAt_2 : decode cX12_whoAt 2 = .ok (.iconst 0, 1) := by decide +kernel
theorem dX12_whoAt_3 : decode cX12_whoAt 3 = .ok (.istore_n 3, 1) := by decide +kernel
theorem dX12_whoAt_4 : decode cX12_whoAt 4 = .ok (.iload_n 3, 1) := by decide +kernel
theorem dX12_whoAt_5 : decode cX12_whoAt 5 = .ok (.aload_n 0, 1) := by decide +kernel
theorem dX12_whoAt_6 : decode cX12_whoAt 6 = .ok (.getfield 64, 3) := by decide +kernel
theorem dX12_whoAt_9 : decode cX12_whoAt 9 = .ok (.aload_n 0, 1) := by decide +kernel
theorem dX12_whoAt_10 : decode cX12_whoAt 10 = .ok (.getfield 245, 3) := by decide +kernel
theorem dX12_whoAt_13 : decode cX12_whoAt 13 = .ok (.iaload, 1) := by decide +kernel
theorem dX12_whoAt_14 : decode cX12_whoAt 14 = .ok (.if_icmp .ge 28, 3) := by decide +kernel
theorem dX12_whoAt_17 : decode cX12_whoAt 17 = .ok (.aload_n 0, 1) := by decide +kernel
theorem dX12_whoAt_18 : decode cX12_whoAt 18 = .ok (.getfield 128, 3) := by decide +kernel
theorem dX12_whoAt_21 : decode cX12_whoAt 21 = .ok (.bipush 51, 2) := by decide +kernel
theorem dX12_whoAt_23 : decode cX12_whoAt 23 = .ok (.iload_n 3, 1) := by decide +kernel
theorem dX12_whoAt_24 : decode cX12_whoAt 24 = .ok (.iadd, 1) := by decide +kernel
theorem dX12_whoAt_25 : decode cX12_whoAt 25 = .ok (.iaload, 1) := by decide +kernel
theorem dX12_whoAt_26 : decode cX12_whoAt 26 = .ok (.iload_n 1, 1) := by decide +kernel
theorem dX12_whoAt_27 : decode cX12_whoAt 27 = .ok (.if_icmp .ne 9, 3) := by decide +kernel
theorem dX12_whoAt_30 : decode cX12_whoAt 30 = .ok (.iload_n 2, 1) := by decide +kernel
theorem dX12_whoAt_31 : decode cX12_whoAt 31 = .ok (.iconst 1, 1) := by decide +kernel
theorem dX12_whoAt_32 : decode cX12_whoAt 32 = .ok (.iload_n 3, 1) := by decide +kernel
theorem dX12_whoAt_33 : decode cX12_whoAt 33 = .ok (.ishl, 1) := by decide +kernel
theorem dX12_whoAt_34 : decode cX12_whoAt 34 = .ok (.ior, 1) := by decide +kernel
theorem dX12_whoAt_35 : decode cX12_whoAt 35 = .ok (.istore_n 2, 1) := by decide +kernel
theorem dX12_whoAt_36 : decode cX12_whoAt 36 = .ok (.iinc 3 1, 3) := by decide +kernel
theorem dX12_whoAt_39 : decode cX12_whoAt 39 = .ok (.goto (-35), 3) := by decide +kernel
theorem dX12_whoAt_42 : decode cX12_whoAt 42 = .ok (.iload_n 2, 1) := by decide +kernel
theorem dX12_whoAt_43 : decode cX12_whoAt 43 = .ok (.ireturn, 1) := by decide +kernel
theorem dX12_goer_0 : decode cX12_goer 0 = .ok (.aload_n 0, 1) := by decide +kernel
theorem dX12_goer_1 : decode cX12_goer 1 = .ok (.iload_n 1, 1) := by decide +kernel
theorem dX12_goer_2 : decode cX12_goer 2 = .ok (.invokevirtual 409, 3) := by decide +kernel
theorem dX12_goer_5 : decode cX12_goer 5 = .ok (.ifCond .ne 5, 3) := by decide +kernel
theorem dX12_goer_8 : decode cX12_goer 8 = .ok (.iconst (-1), 1) := by decide +kernel
theorem dX12_goer_9 : decode cX12_goer 9 = .ok (.ireturn, 1) := by decide +kernel
theorem dX12_goer_10 : decode cX12_goer 10 = .ok (.aload_n 0, 1) := by decide +kernel
theorem dX12_goer_11 : decode cX12_goer 11 = .ok (.invokevirtual 346, 3) := by decide +kernel
theorem dX12_goer_14 : decode cX12_goer 14 = .ok (.iload_n 2, 1) := by decide +kernel
theorem dX12_goer_15 : decode cX12_goer 15 = .ok (.tableswitch 61 0 3 #[29, 39, 49, 55], 29) := by decide +kernel
theorem dX12_goer_44 : decode cX12_goer 44 = .ok (.aload_n 0, 1) := by decide +kernel
theorem dX12_goer_45 : decode cX12_goer 45 = .ok (.getfield 128, 3) := by decide +kernel
theorem dX12_goer_48 : decode cX12_goer 48 = .ok (.bipush 51, 2) := by decide +kernel
theorem dX12_goer_50 : decode cX12_goer 50 = .ok (.iload_n 1, 1) := by decide +kernel
theorem dX12_goer_51 : decode cX12_goer 51 = .ok (.iadd, 1) := by decide +kernel
theorem dX12_goer_52 : decode cX12_goer 52 = .ok (.iaload, 1) := by decide +kernel
theorem dX12_goer_53 : decode cX12_goer 53 = .ok (.ireturn, 1) := by decide +kernel
theorem dX12_goer_54 : decode cX12_goer 54 = .ok (.aload_n 0, 1) := by decide +kernel
theorem dX12_goer_55 : decode cX12_goer 55 = .ok (.getfield 128, 3) := by decide +kernel
theorem dX12_goer_58 : decode cX12_goer 58 = .ok (.bipush 56, 2) := by decide +kernel
theorem dX12_goer_60 : decode cX12_goer 60 = .ok (.iload_n 1, 1) := by decide +kernel
theorem dX12_goer_61 : decode cX12_goer 61 = .ok (.iadd, 1) := by decide +kernel
theorem dX12_goer_62 : decode cX12_goer 62 = .ok (.iaload, 1) := by decide +kernel
theorem dX12_goer_63 : decode cX12_goer 63 = .ok (.ireturn, 1) := by decide +kernel
theorem dX12_goer_64 : decode cX12_goer 64 = .ok (.aload_n 0, 1) := by decide +kernel
theorem dX12_goer_65 : decode cX12_goer 65 = .ok (.iload_n 1, 1) := by decide +kernel
theorem dX12_goer_66 : decode cX12_goer 66 = .ok (.invokevirtual 391, 3) := by decide +kernel
theorem dX12_goer_69 : decode cX12_goer 69 = .ok (.ireturn, 1) := by decide +kernel
theorem dX12_goer_70 : decode cX12_goer 70 = .ok (.aload_n 0, 1) := by decide +kernel
theorem dX12_goer_71 : decode cX12_goer 71 = .ok (.iload_n 1, 1) := by decide +kernel
theorem dX12_goer_72 : decode cX12_goer 72 = .ok (.invokevirtual 394, 3) := by decide +kernel
theorem dX12_goer_75 : decode cX12_goer 75 = .ok (.ireturn, 1) := by decide +kernel
theorem dX12_goer_76 : decode cX12_goer 76 = .ok (.iconst (-1), 1) := by decide +kernel
theorem dX12_goer_77 : decode cX12_goer 77 = .ok (.ireturn, 1) := by decide +kernel
theorem dX12_records_0 : decode cX12_records 0 = .ok (.aload_n 0, 1) := by decide +kernel
theorem dX12_records_1 : decode cX12_records 1 = .ok (.getfield 271, 3) := by decide +kernel
theorem dX12_records_4 : decode cX12_records 4 = .ok (.bipush 40, 2) := by decide +kernel
theorem dX12_records_6 : decode cX12_records 6 = .ok (.if_icmp .ne 43, 3) := by decide +kernel
theorem dX12_records_9 : decode cX12_records 9 = .ok (.iconst 0, 1) := by decide +kernel
theorem dX12_records_10 : decode cX12_records 10 = .ok (.istore_n 1, 1) := by decide +kernel
theorem dX12_records_11 : decode cX12_records 11 = .ok (.iload_n 1, 1) := by decide +kernel
theorem dX12_records_12 : decode cX12_records 12 = .ok (.sipush 2457, 3) := by decide +kernel
theorem dX12_records_15 : decode cX12_records 15 = .ok (.if_icmp .ge 24, 3) := by decide +kernel
theorem dX12_records_18 : decode cX12_records 18 = .ok (.aload_n 0, 1) := by decide +kernel
theorem dX12_records_19 : decode cX12_records 19 = .ok (.getfield 137, 3) := by decide +kernel
theorem dX12_records_22 : decode cX12_records 22 = .ok (.iload_n 1, 1) := by decide +kernel
theorem dX12_records_23 : decode cX12_records 23 = .ok (.aload_n 0, 1) := by decide +kernel
theorem dX12_records_24 : decode cX12_records 24 = .ok (.getfield 137, 3) := by decide +kernel
theorem dX12_records_27 : decode cX12_records 27 = .ok (.iload_n 1, 1) := by decide +kernel
theorem dX12_records_28 : decode cX12_records 28 = .ok (.bipush 63, 2) := by decide +kernel
theorem dX12_records_30 : decode cX12_records 30 = .ok (.iadd, 1) := by decide +kernel
theorem dX12_records_31 : decode cX12_records 31 = .ok (.iaload, 1) := by decide +kernel
theorem dX12_records_32 : decode cX12_records 32 = .ok (.iastore, 1) := by decide +kernel
theorem dX12_records_33 : decode cX12_records 33 = .ok (.iinc 1 1, 3) := by decide +kernel
theorem dX12_records_36 : decode cX12_records 36 = .ok (.goto (-25), 3) := by decide +kernel
theorem dX12_records_39 : decode cX12_records 39 = .ok (.aload_n 0, 1) := by decide +kernel
theorem dX12_records_40 : decode cX12_records 40 = .ok (.dup, 1) := by decide +kernel
theorem dX12_records_41 : decode cX12_records 41 = .ok (.getfield 271, 3) := by decide +kernel
theorem dX12_records_44 : decode cX12_records 44 = .ok (.iconst 1, 1) := by decide +kernel
theorem dX12_records_45 : decode cX12_records 45 = .ok (.isub, 1) := by decide +kernel
theorem dX12_records_46 : decode cX12_records 46 = .ok (.putfield 271, 3) := by decide +kernel
theorem dX12_records_49 : decode cX12_records 49 = .ok (.iconst 0, 1) := by decide +kernel
theorem dX12_records_50 : decode cX12_records 50 = .ok (.istore_n 1, 1) := by decide +kernel
theorem dX12_records_51 : decode cX12_records 51 = .ok (.iload_n 1, 1) := by decide +kernel
theorem dX12_records_52 : decode cX12_records 52 = .ok (.bipush 63, 2) := by decide +kernel
theorem dX12_records_54 : decode cX12_records 54 = .ok (.if_icmp .ge 29, 3) := by decide +kernel
theorem dX12_records_57 : decode cX12_records 57 = .ok (.aload_n 0, 1) := by decide +kernel
theorem dX12_records_58 : decode cX12_records 58 = .ok (.getfield 137, 3) := by decide +kernel
theorem dX12_records_61 : decode cX12_records 61 = .ok (.bipush 63, 2) := by decide +kernel
theorem dX12_records_63 : decode cX12_records 63 = .ok (.aload_n 0, 1) := by decide +kernel
theorem dX12_records_64 : decode cX12_records 64 = .ok (.getfield 271, 3) := by decide +kernel
theorem dX12_records_67 : decode cX12_records 67 = .ok (.imul, 1) := by decide +kernel
theorem dX12_records_68 : decode cX12_records 68 = .ok (.iload_n 1, 1) := by decide +kernel
theorem dX12_records_69 : decode cX12_records 69 = .ok (.iadd, 1) := by decide +kernel
theorem dX12_records_70 : decode cX12_records 70 = .ok (.aload_n 0, 1) := by decide +kernel
theorem dX12_records_71 : decode cX12_records 71 = .ok (.getfield 125, 3) := by decide +kernel
theorem dX12_records_74 : decode cX12_records 74 = .ok (.iload_n 1, 1) := by decide +kernel
theorem dX12_records_75 : decode cX12_records 75 = .ok (.iaload, 1) := by decide +kernel
theorem dX12_records_76 : decode cX12_records 76 = .ok (.iastore, 1) := by decide +kernel
theorem dX12_records_77 : decode cX12_records 77 = .ok (.iinc 1 1, 3) := by decide +kernel
theorem dX12_records_80 : decode cX12_records 80 = .ok (.goto (-29), 3) := by decide +kernel
theorem dX12_records_83 : decode cX12_records 83 = .ok (.aload_n 0, 1) := by decide +kernel
theorem dX12_records_84 : decode cX12_records 84 = .ok (.dup, 1) := by decide +kernel
theorem dX12_records_85 : decode cX12_records 85 = .ok (.getfield 271, 3) := by decide +kernel
theorem dX12_records_88 : decode cX12_records 88 = .ok (.iconst 1, 1) := by decide +kernel
theorem dX12_records_89 : decode cX12_records 89 = .ok (.iadd, 1) := by decide +kernel
theorem dX12_records_90 : decode cX12_records 90 = .ok (.putfield 271, 3) := by decide +kernel
theorem dX12_records_93 : decode cX12_records 93 = .ok (.aload_n 0, 1) := by decide +kernel
theorem dX12_records_94 : decode cX12_records 94 = .ok (.invokevirtual 175, 3) := by decide +kernel
theorem dX12_records_97 : decode cX12_records 97 = .ok (.return_, 1) := by decide +kernel
theorem dX12_mow_0 : decode cX12_mow 0 = .ok (.aload_n 0, 1) := by decide +kernel
theorem dX12_mow_1 : decode cX12_mow 1 = .ok (.iload_n 1, 1) := by decide +kernel
theorem dX12_mow_2 : decode cX12_mow 2 = .ok (.invokevirtual 403, 3) := by decide +kernel
theorem dX12_mow_5 : decode cX12_mow 5 = .ok (.ifCond .eq 12, 3) := by decide +kernel
theorem dX12_mow_8 : decode cX12_mow 8 = .ok (.aload_n 0, 1) := by decide +kernel
theorem dX12_mow_9 : decode cX12_mow 9 = .ok (.getfield 125, 3) := by decide +kernel
theorem dX12_mow_12 : decode cX12_mow 12 = .ok (.iload_n 1, 1) := by decide +kernel
theorem dX12_mow_13 : decode cX12_mow 13 = .ok (.iaload, 1) := by decide +kernel
theorem dX12_mow_14 : decode cX12_mow 14 = .ok (.ifCond .ne 5, 3) := by decide +kernel
theorem dX12_mow_17 : decode cX12_mow 17 = .ok (.iconst (-1), 1) := by decide +kernel
theorem dX12_mow_18 : decode cX12_mow 18 = .ok (.ireturn, 1) := by decide +kernel
theorem dX12_mow_19 : decode cX12_mow 19 = .ok (.aload_n 0, 1) := by decide +kernel
theorem dX12_mow_20 : decode cX12_mow 20 = .ok (.invokevirtual 346, 3) := by decide +kernel
theorem dX12_mow_23 : decode cX12_mow 23 = .ok (.aload_n 0, 1) := by decide +kernel
theorem dX12_mow_24 : decode cX12_mow 24 = .ok (.iload_n 1, 1) := by decide +kernel
theorem dX12_mow_25 : decode cX12_mow 25 = .ok (.invokevirtual 382, 3) := by decide +kernel
theorem dX12_mow_28 : decode cX12_mow 28 = .ok (.istore_n 2, 1) := by decide +kernel
theorem dX12_mow_29 : decode cX12_mow 29 = .ok (.aload_n 0, 1) := by decide +kernel
theorem dX12_mow_30 : decode cX12_mow 30 = .ok (.getfield 128, 3) := by decide +kernel
theorem dX12_mow_33 : decode cX12_mow 33 = .ok (.bipush 62, 2) := by decide +kernel
theorem dX12_mow_35 : decode cX12_mow 35 = .ok (.dup2, 1) := by decide +kernel
theorem dX12_mow_36 : decode cX12_mow 36 = .ok (.iaload, 1) := by decide +kernel
theorem dX12_mow_37 : decode cX12_mow 37 = .ok (.iload_n 2, 1) := by decide +kernel
theorem dX12_mow_38 : decode cX12_mow 38 = .ok (.iadd, 1) := by decide +kernel
theorem dX12_mow_39 : decode cX12_mow 39 = .ok (.iastore, 1) := by decide +kernel
theorem dX12_mow_40 : decode cX12_mow 40 = .ok (.aload_n 0, 1) := by decide +kernel
theorem dX12_mow_41 : decode cX12_mow 41 = .ok (.getfield 128, 3) := by decide +kernel
theorem dX12_mow_44 : decode cX12_mow 44 = .ok (.iload_n 1, 1) := by decide +kernel
theorem dX12_mow_45 : decode cX12_mow 45 = .ok (.iconst 0, 1) := by decide +kernel
theorem dX12_mow_46 : decode cX12_mow 46 = .ok (.iastore, 1) := by decide +kernel
theorem dX12_mow_47 : decode cX12_mow 47 = .ok (.aload_n 0, 1) := by decide +kernel
theorem dX12_mow_48 : decode cX12_mow 48 = .ok (.getfield 128, 3) := by decide +kernel
theorem dX12_mow_51 : decode cX12_mow 51 = .ok (.bipush 25, 2) := by decide +kernel
theorem dX12_mow_53 : decode cX12_mow 53 = .ok (.iload_n 1, 1) := by decide +kernel
theorem dX12_mow_54 : decode cX12_mow 54 = .ok (.iadd, 1) := by decide +kernel
theorem dX12_mow_55 : decode cX12_mow 55 = .ok (.iconst 0, 1) := by decide +kernel
theorem dX12_mow_56 : decode cX12_mow 56 = .ok (.iastore, 1) := by decide +kernel
theorem dX12_mow_57 : decode cX12_mow 57 = .ok (.aload_n 0, 1) := by decide +kernel
theorem dX12_mow_58 : decode cX12_mow 58 = .ok (.invokevirtual 412, 3) := by decide +kernel
theorem dX12_mow_61 : decode cX12_mow 61 = .ok (.iload_n 2, 1) := by decide +kernel
theorem dX12_mow_62 : decode cX12_mow 62 = .ok (.ireturn, 1) := by decide +kernel
theorem dX12_rope_0 : decode cX12_rope 0 = .ok (.aload_n 0, 1) := by decide +kernel
theorem dX12_rope_1 : decode cX12_rope 1 = .ok (.invokevirtual 346, 3) := by decide +kernel
theorem dX12_rope_4 : decode cX12_rope 4 = .ok (.aload_n 0, 1) := by decide +kernel
theorem dX12_rope_5 : decode cX12_rope 5 = .ok (.iload_n 1, 1) := by decide +kernel
theorem dX12_rope_6 : decode cX12_rope 6 = .ok (.invokevirtual 403, 3) := by decide +kernel
theorem dX12_rope_9 : decode cX12_rope 9 = .ok (.ifCond .eq 33, 3) := by decide +kernel
theorem dX12_rope_12 : decode cX12_rope 12 = .ok (.aload_n 0, 1) := by decide +kernel
theorem dX12_rope_13 : decode cX12_rope 13 = .ok (.iload_n 1, 1) := by decide +kernel
theorem dX12_rope_14 : decode cX12_rope 14 = .ok (.invokevirtual 372, 3) := by decide +kernel
theorem dX12_rope_17 : decode cX12_rope 17 = .ok (.iload_n 2, 1) := by decide +kernel
theorem dX12_rope_18 : decode cX12_rope 18 = .ok (.if_icmp .eq 24, 3) := by decide +kernel
theorem dX12_rope_21 : decode cX12_rope 21 = .ok (.iload_n 2, 1) := by decide +kernel
theorem dX12_rope_22 : decode cX12_rope 22 = .ok (.ifCond .eq 22, 3) := by decide +kernel
theorem dX12_rope_25 : decode cX12_rope 25 = .ok (.aload_n 0, 1) := by decide +kernel
theorem dX12_rope_26 : decode cX12_rope 26 = .ok (.getfield 128, 3) := by decide +kernel
theorem dX12_rope_29 : decode cX12_rope 29 = .ok (.iload_n 1, 1) := by decide +kernel
theorem dX12_rope_30 : decode cX12_rope 30 = .ok (.iaload, 1) := by decide +kernel
theorem dX12_rope_31 : decode cX12_rope 31 = .ok (.ifCond .gt 11, 3) := by decide +kernel
theorem dX12_rope_34 : decode cX12_rope 34 = .ok (.aload_n 0, 1) := by decide +kernel
theorem dX12_rope_35 : decode cX12_rope 35 = .ok (.iload_n 1, 1) := by decide +kernel
theorem dX12_rope_36 : decode cX12_rope 36 = .ok (.invokevirtual 406, 3) := by decide +kernel
theorem dX12_rope_39 : decode cX12_rope 39 = .ok (.ifCond .eq 5, 3) := by decide +kernel
theorem dX12_rope_42 : decode cX12_rope 42 = .ok (.iconst 0, 1) := by decide +kernel
theorem dX12_rope_43 : decode cX12_rope 43 = .ok (.ireturn, 1) := by decide +kernel
theorem dX12_rope_44 : decode cX12_rope 44 = .ok (.aload_n 0, 1) := by decide +kernel
theorem dX12_rope_45 : decode cX12_rope 45 = .ok (.getfield 128, 3) := by decide +kernel
theorem dX12_rope_48 : decode cX12_rope 48 = .ok (.bipush 50, 2) := by decide +kernel
theorem dX12_rope_50 : decode cX12_rope 50 = .ok (.dup2, 1) := by decide +kernel
theorem dX12_rope_51 : decode cX12_rope 51 = .ok (.iaload, 1) := by decide +kernel
theorem dX12_rope_52 : decode cX12_rope 52 = .ok (.iconst 1, 1) := by decide +kernel
theorem dX12_rope_53 : decode cX12_rope 53 = .ok (.iload_n 1, 1) := by decide +kernel
theorem dX12_rope_54 : decode cX12_rope 54 = .ok (.ishl, 1) := by decide +kernel
theorem dX12_rope_55 : decode cX12_rope 55 = .ok (.ixor, 1) := by decide +kernel
theorem dX12_rope_56 : decode cX12_rope 56 = .ok (.iastore, 1) := by decide +kernel
theorem dX12_rope_57 : decode cX12_rope 57 = .ok (.aload_n 0, 1) := by decide +kernel
theorem dX12_rope_58 : decode cX12_rope 58 = .ok (.invokevirtual 412, 3) := by decide +kernel
theorem dX12_rope_61 : decode cX12_rope 61 = .ok (.iconst 1, 1) := by decide +kernel
theorem dX12_rope_62 : decode cX12_rope 62 = .ok (.ireturn, 1) := by decide +kernel
theorem dX12_carry_0 : decode cX12_carry 0 = .ok (.aload_n 0, 1) := by decide +kernel
theorem dX12_carry_1 : decode cX12_carry 1 = .ok (.invokevirtual 346, 3) := by decide +kernel
theorem dX12_carry_4 : decode cX12_carry 4 = .ok (.aload_n 0, 1) := by decide +kernel
theorem dX12_carry_5 : decode cX12_carry 5 = .ok (.iload_n 1, 1) := by decide +kernel
theorem dX12_carry_6 : decode cX12_carry 6 = .ok (.invokevirtual 409, 3) := by decide +kernel
theorem dX12_carry_9 : decode cX12_carry 9 = .ok (.ifCond .eq 32, 3) := by decide +kernel
theorem dX12_carry_12 : decode cX12_carry 12 = .ok (.aload_n 0, 1) := by decide +kernel
theorem dX12_carry_13 : decode cX12_carry 13 = .ok (.iload_n 2, 1) := by decide +kernel
theorem dX12_carry_14 : decode cX12_carry 14 = .ok (.invokevirtual 403, 3) := by decide +kernel
theorem dX12_carry_17 : decode cX12_carry 17 = .ok (.ifCond .eq 24, 3) := by decide +kernel
theorem dX12_carry_20 : decode cX12_carry 20 = .ok (.aload_n 0, 1) := by decide +kernel
theorem dX12_carry_21 : decode cX12_carry 21 = .ok (.iload_n 2, 1) := by decide +kernel
theorem dX12_carry_22 : decode cX12_carry 22 = .ok (.invokevirtual 372, 3) := by decide +kernel
theorem dX12_carry_25 : decode cX12_carry 25 = .ok (.ifCond .ne 16, 3) := by decide +kernel
theorem dX12_carry_28 : decode cX12_carry 28 = .ok (.aload_n 0, 1) := by decide +kernel
theorem dX12_carry_29 : decode cX12_carry 29 = .ok (.getfield 128, 3) := by decide +kernel
theorem dX12_carry_32 : decode cX12_carry 32 = .ok (.bipush 51, 2) := by decide +kernel
theorem dX12_carry_34 : decode cX12_carry 34 = .ok (.iload_n 1, 1) := by decide +kernel
theorem dX12_carry_35 : decode cX12_carry 35 = .ok (.iadd, 1) := by decide +kernel
theorem dX12_carry_36 : decode cX12_carry 36 = .ok (.iaload, 1) := by decide +kernel
theorem dX12_carry_37 : decode cX12_carry 37 = .ok (.iload_n 2, 1) := by decide +kernel
theorem dX12_carry_38 : decode cX12_carry 38 = .ok (.if_icmp .ne 5, 3) := by decide +kernel
theorem dX12_carry_41 : decode cX12_carry 41 = .ok (.iconst 0, 1) := by decide +kernel
theorem dX12_carry_42 : decode cX12_carry 42 = .ok (.ireturn, 1) := by decide +kernel
theorem dX12_carry_43 : decode cX12_carry 43 = .ok (.aload_n 0, 1) := by decide +kernel
theorem dX12_carry_44 : decode cX12_carry 44 = .ok (.getfield 128, 3) := by decide +kernel
theorem dX12_carry_47 : decode cX12_carry 47 = .ok (.bipush 51, 2) := by decide +kernel
theorem dX12_carry_49 : decode cX12_carry 49 = .ok (.iload_n 1, 1) := by decide +kernel
theorem dX12_carry_50 : decode cX12_carry 50 = .ok (.iadd, 1) := by decide +kernel
theorem dX12_carry_51 : decode cX12_carry 51 = .ok (.iload_n 2, 1) := by decide +kernel
theorem dX12_carry_52 : decode cX12_carry 52 = .ok (.iastore, 1) := by decide +kernel
theorem dX12_carry_53 : decode cX12_carry 53 = .ok (.aload_n 0, 1) := by decide +kernel
theorem dX12_carry_54 : decode cX12_carry 54 = .ok (.invokevirtual 412, 3) := by decide +kernel
theorem dX12_carry_57 : decode cX12_carry 57 = .ok (.iconst 1, 1) := by decide +kernel
theorem dX12_carry_58 : decode cX12_carry 58 = .ok (.ireturn, 1) := by decide +kernel
theorem dX12_isLong_0 : decode cX12_isLong 0 = .ok (.iload_n 0, 1) := by decide +kernel
theorem dX12_isLong_1 : decode cX12_isLong 1 = .ok (.iconst 0, 1) := by decide +kernel
theorem dX12_isLong_2 : decode cX12_isLong 2 = .ok (.bipush 100, 2) := by decide +kernel
theorem dX12_isLong_4 : decode cX12_isLong 4 = .ok (.invokestatic 330, 3) := by decide +kernel
theorem dX12_isLong_7 : decode cX12_isLong 7 = .ok (.ireturn, 1) := by decide +kernel
theorem dX12_beats_0 : decode cX12_beats 0 = .ok (.iload_n 1, 1) := by decide +kernel
theorem dX12_beats_1 : decode cX12_beats 1 = .ok (.invokestatic 415, 3) := by decide +kernel
theorem dX12_beats_4 : decode cX12_beats 4 = .ok (.ifCond .ne 5, 3) := by decide +kernel
theorem dX12_beats_7 : decode cX12_beats 7 = .ok (.iconst (-1), 1) := by decide +kernel
theorem dX12_beats_8 : decode cX12_beats 8 = .ok (.ireturn, 1) := by decide +kernel
theorem dX12_beats_9 : decode cX12_beats 9 = .ok (.iload_n 1, 1) := by decide +kernel
theorem dX12_beats_10 : decode cX12_beats 10 = .ok (.ifCond .ne 11, 3) := by decide +kernel
theorem dX12_beats_13 : decode cX12_beats 13 = .ok (.aload_n 0, 1) := by decide +kernel
theorem dX12_beats_14 : decode cX12_beats 14 = .ok (.getfield 125, 3) := by decide +kernel
theorem dX12_beats_17 : decode cX12_beats 17 = .ok (.bipush 61, 2) := by decide +kernel
theorem dX12_beats_19 : decode cX12_beats 19 = .ok (.iaload, 1) := by decide +kernel
theorem dX12_beats_20 : decode cX12_beats 20 = .ok (.ireturn, 1) := by decide +kernel
theorem dX12_beats_21 : decode cX12_beats 21 = .ok (.aload_n 0, 1) := by decide +kernel
theorem dX12_beats_22 : decode cX12_beats 22 = .ok (.invokevirtual 346, 3) := by decide +kernel
theorem dX12_beats_25 : decode cX12_beats 25 = .ok (.aload_n 0, 1) := by decide +kernel
theorem dX12_beats_26 : decode cX12_beats 26 = .ok (.iload_n 1, 1) := by decide +kernel
theorem dX12_beats_27 : decode cX12_beats 27 = .ok (.invokevirtual 418, 3) := by decide +kernel
theorem dX12_beats_30 : decode cX12_beats 30 = .ok (.aload_n 0, 1) := by decide +kernel
theorem dX12_beats_31 : decode cX12_beats 31 = .ok (.invokevirtual 412, 3) := by decide +kernel
theorem dX12_beats_34 : decode cX12_beats 34 = .ok (.aload_n 0, 1) := by decide +kernel
theorem dX12_beats_35 : decode cX12_beats 35 = .ok (.getfield 125, 3) := by decide +kernel
theorem dX12_beats_38 : decode cX12_beats 38 = .ok (.bipush 61, 2) := by decide +kernel
theorem dX12_beats_40 : decode cX12_beats 40 = .ok (.iaload, 1) := by decide +kernel
theorem dX12_beats_41 : decode cX12_beats 41 = .ok (.ireturn, 1) := by decide +kernel
theorem dX12_undo_0 : decode cX12_undo 0 = .ok (.aload_n 0, 1) := by decide +kernel
theorem dX12_undo_1 : decode cX12_undo 1 = .ok (.getfield 271, 3) := by decide +kernel
theorem dX12_undo_4 : decode cX12_undo 4 = .ok (.ifCond .ne 5, 3) := by decide +kernel
theorem dX12_undo_7 : decode cX12_undo 7 = .ok (.iconst 0, 1) := by decide +kernel
theorem dX12_undo_8 : decode cX12_undo 8 = .ok (.ireturn, 1) := by decide +kernel
theorem dX12_undo_9 : decode cX12_undo 9 = .ok (.aload_n 0, 1) := by decide +kernel
theorem dX12_undo_10 : decode cX12_undo 10 = .ok (.dup, 1) := by decide +kernel
theorem dX12_undo_11 : decode cX12_undo 11 = .ok (.getfield 271, 3) := by decide +kernel
theorem dX12_undo_14 : decode cX12_undo 14 = .ok (.iconst 1, 1) := by decide +kernel
theorem dX12_undo_15 : decode cX12_undo 15 = .ok (.isub, 1) := by decide +kernel
theorem dX12_undo_16 : decode cX12_undo 16 = .ok (.putfield 271, 3) := by decide +kernel
theorem dX12_undo_19 : decode cX12_undo 19 = .ok (.iconst 0, 1) := by decide +kernel
theorem dX12_undo_20 : decode cX12_undo 20 = .ok (.istore_n 1, 1) := by decide +kernel
theorem dX12_undo_21 : decode cX12_undo 21 = .ok (.iload_n 1, 1) := by decide +kernel
theorem dX12_undo_22 : decode cX12_undo 22 = .ok (.bipush 63, 2) := by decide +kernel
theorem dX12_undo_24 : decode cX12_undo 24 = .ok (.if_icmp .ge 29, 3) := by decide +kernel
theorem dX12_undo_27 : decode cX12_undo 27 = .ok (.aload_n 0, 1) := by decide +kernel
theorem dX12_undo_28 : decode cX12_undo 28 = .ok (.getfield 125, 3) := by decide +kernel
theorem dX12_undo_31 : decode cX12_undo 31 = .ok (.iload_n 1, 1) := by decide +kernel
theorem dX12_undo_32 : decode cX12_undo 32 = .ok (.aload_n 0, 1) := by decide +kernel
theorem dX12_undo_33 : decode cX12_undo 33 = .ok (.getfield 137, 3) := by decide +kernel
theorem dX12_undo_36 : decode cX12_undo 36 = .ok (.bipush 63, 2) := by decide +kernel
theorem dX12_undo_38 : decode cX12_undo 38 = .ok (.aload_n 0, 1) := by decide +kernel
theorem dX12_undo_39 : decode cX12_undo 39 = .ok (.getfield 271, 3) := by decide +kernel
theorem dX12_undo_42 : decode cX12_undo 42 = .ok (.imul, 1) := by decide +kernel
theorem dX12_undo_43 : decode cX12_undo 43 = .ok (.iload_n 1, 1) := by decide +kernel
theorem dX12_undo_44 : decode cX12_undo 44 = .ok (.iadd, 1) := by decide +kernel
theorem dX12_undo_45 : decode cX12_undo 45 = .ok (.iaload, 1) := by decide +kernel
theorem dX12_undo_46 : decode cX12_undo 46 = .ok (.iastore, 1) := by decide +kernel
theorem dX12_undo_47 : decode cX12_undo 47 = .ok (.iinc 1 1, 3) := by decide +kernel
theorem dX12_undo_50 : decode cX12_undo 50 = .ok (.goto (-29), 3) := by decide +kernel
theorem dX12_undo_53 : decode cX12_undo 53 = .ok (.iconst 1, 1) := by decide +kernel
theorem dX12_undo_54 : decode cX12_undo 54 = .ok (.ireturn, 1) := by decide +kernel
theorem dX12_next_0 : decode cX12_next 0 = .ok (.aload_n 0, 1) := by decide +kernel
theorem dX12_next_1 : decode cX12_next 1 = .ok (.iload_n 1, 1) := by decide +kernel
theorem dX12_next_2 : decode cX12_next 2 = .ok (.invokevirtual 403, 3) := by decide +kernel
theorem dX12_next_5 : decode cX12_next 5 = .ok (.ifCond .ne 5, 3) := by decide +kernel
theorem dX12_next_8 : decode cX12_next 8 = .ok (.iconst (-1), 1) := by decide +kernel
theorem dX12_next_9 : decode cX12_next 9 = .ok (.ireturn, 1) := by decide +kernel
theorem dX12_next_10 : decode cX12_next 10 = .ok (.aload_n 0, 1) := by decide +kernel
theorem dX12_next_11 : decode cX12_next 11 = .ok (.getfield 125, 3) := by decide +kernel
theorem dX12_next_14 : decode cX12_next 14 = .ok (.iload_n 1, 1) := by decide +kernel
theorem dX12_next_15 : decode cX12_next 15 = .ok (.iaload, 1) := by decide +kernel
theorem dX12_next_16 : decode cX12_next 16 = .ok (.ifCond .ne 6, 3) := by decide +kernel
theorem dX12_next_19 : decode cX12_next 19 = .ok (.bipush (-2), 2) := by decide +kernel
theorem dX12_next_21 : decode cX12_next 21 = .ok (.ireturn, 1) := by decide +kernel
theorem dX12_next_22 : decode cX12_next 22 = .ok (.aload_n 0, 1) := by decide +kernel
theorem dX12_next_23 : decode cX12_next 23 = .ok (.invokevirtual 346, 3) := by decide +kernel
theorem dX12_next_26 : decode cX12_next 26 = .ok (.iconst 1, 1) := by decide +kernel
theorem dX12_next_27 : decode cX12_next 27 = .ok (.istore_n 2, 1) := by decide +kernel
theorem dX12_next_28 : decode cX12_next 28 = .ok (.aload_n 0, 1) := by decide +kernel
theorem dX12_next_29 : decode cX12_next 29 = .ok (.iload_n 1, 1) := by decide +kernel
theorem dX12_next_30 : decode cX12_next 30 = .ok (.aload_n 0, 1) := by decide +kernel
theorem dX12_next_31 : decode cX12_next 31 = .ok (.getfield 128, 3) := by decide +kernel
theorem dX12_next_34 : decode cX12_next 34 = .ok (.bipush 61, 2) := by decide +kernel
theorem dX12_next_36 : decode cX12_next 36 = .ok (.iaload, 1) := by decide +kernel
theorem dX12_next_37 : decode cX12_next 37 = .ok (.iload_n 2, 1) := by decide +kernel
theorem dX12_next_38 : decode cX12_next 38 = .ok (.iadd, 1) := by decide +kernel
theorem dX12_next_39 : decode cX12_next 39 = .ok (.invokevirtual 353, 3) := by decide +kernel
theorem dX12_next_42 : decode cX12_next 42 = .ok (.ifCond .ne 9, 3) := by decide +kernel
theorem dX12_next_45 : decode cX12_next 45 = .ok (.iinc 2 1, 3) := by decide +kernel
theorem dX12_next_48 : decode cX12_next 48 = .ok (.goto (-20), 3) := by decide +kernel
theorem dX12_next_51 : decode cX12_next 51 = .ok (.iload_n 2, 1) := by decide +kernel
theorem dX12_next_52 : decode cX12_next 52 = .ok (.ireturn, 1) := by decide +kernel
theorem dX12_together_0 : decode cX12_together 0 = .ok (.aload_n 0, 1) := by decide +kernel
theorem dX12_together_1 : decode cX12_together 1 = .ok (.iload_n 1, 1) := by decide +kernel
