theorem dX12_isBeyond_71 : decode cX12_isBeyond 71 = .ok (.imul, 1) := by decide +kernel
theorem dX12_isBeyond_72 : decode cX12_isBeyond 72 = .ok (.aload_n 0, 1) := by decide +kernel
theorem dX12_isBeyond_73 : decode cX12_isBeyond 73 = .ok (.getfield 73, 3) := by decide +kernel
theorem dX12_isBeyond_76 : decode cX12_isBeyond 76 = .ok (.aload_n 0, 1) := by decide +kernel
theorem dX12_isBeyond_77 : decode cX12_isBeyond 77 = .ok (.getfield 248, 3) := by decide +kernel
theorem dX12_isBeyond_80 : decode cX12_isBeyond 80 = .ok (.iaload, 1) := by decide +kernel
theorem dX12_isBeyond_81 : decode cX12_isBeyond 81 = .ok (.iadd, 1) := by decide +kernel
theorem dX12_isBeyond_82 : decode cX12_isBeyond 82 = .ok (.if_icmp .ge 30, 3) := by decide +kernel
theorem dX12_isBeyond_85 : decode cX12_isBeyond 85 = .ok (.aload_n 0, 1) := by decide +kernel
theorem dX12_isBeyond_86 : decode cX12_isBeyond 86 = .ok (.aload_n 0, 1) := by decide +kernel
theorem dX12_isBeyond_87 : decode cX12_isBeyond 87 = .ok (.getfield 76, 3) := by decide +kernel
theorem dX12_isBeyond_90 : decode cX12_isBeyond 90 = .ok (.iload_n 1, 1) := by decide +kernel
theorem dX12_isBeyond_91 : decode cX12_isBeyond 91 = .ok (.iaload, 1) := by decide +kernel
theorem dX12_isBeyond_92 : decode cX12_isBeyond 92 = .ok (.aload_n 0, 1) := by decide +kernel
theorem dX12_isBeyond_93 : decode cX12_isBeyond 93 = .ok (.getfield 79, 3) := by decide +kernel
theorem dX12_isBeyond_96 : decode cX12_isBeyond 96 = .ok (.iload_n 1, 1) := by decide +kernel
theorem dX12_isBeyond_97 : decode cX12_isBeyond 97 = .ok (.iaload, 1) := by decide +kernel
theorem dX12_isBeyond_98 : decode cX12_isBeyond 98 = .ok (.invokevirtual 277, 3) := by decide +kernel
theorem dX12_isBeyond_101 : decode cX12_isBeyond 101 = .ok (.ifCond .eq 5, 3) := by decide +kernel
theorem dX12_isBeyond_104 : decode cX12_isBeyond 104 = .ok (.iconst 1, 1) := by decide +kernel
theorem dX12_isBeyond_105 : decode cX12_isBeyond 105 = .ok (.ireturn, 1) := by decide +kernel
theorem dX12_isBeyond_106 : decode cX12_isBeyond 106 = .ok (.iinc 1 1, 3) := by decide +kernel
theorem dX12_isBeyond_109 : decode cX12_isBeyond 109 = .ok (.goto (-45), 3) := by decide +kernel
theorem dX12_isBeyond_112 : decode cX12_isBeyond 112 = .ok (.iconst 5, 1) := by decide +kernel
theorem dX12_isBeyond_113 : decode cX12_isBeyond 113 = .ok (.aload_n 0, 1) := by decide +kernel
theorem dX12_isBeyond_114 : decode cX12_isBeyond 114 = .ok (.getfield 248, 3) := by decide +kernel
theorem dX12_isBeyond_117 : decode cX12_isBeyond 117 = .ok (.imul, 1) := by decide +kernel
theorem dX12_isBeyond_118 : decode cX12_isBeyond 118 = .ok (.istore_n 1, 1) := by decide +kernel
theorem dX12_isBeyond_119 : decode cX12_isBeyond 119 = .ok (.iload_n 1, 1) := by decide +kernel
theorem dX12_isBeyond_120 : decode cX12_isBeyond 120 = .ok (.iconst 5, 1) := by decide +kernel
theorem dX12_isBeyond_121 : decode cX12_isBeyond 121 = .ok (.aload_n 0, 1) := by decide +kernel
theorem dX12_isBeyond_122 : decode cX12_isBeyond 122 = .ok (.getfield 248, 3) := by decide +kernel
theorem dX12_isBeyond_125 : decode cX12_isBeyond 125 = .ok (.imul, 1) := by decide +kernel
theorem dX12_isBeyond_126 : decode cX12_isBeyond 126 = .ok (.aload_n 0, 1) := by decide +kernel
theorem dX12_isBeyond_127 : decode cX12_isBeyond 127 = .ok (.getfield 64, 3) := by decide +kernel
theorem dX12_isBeyond_130 : decode cX12_isBeyond 130 = .ok (.aload_n 0, 1) := by decide +kernel
theorem dX12_isBeyond_131 : decode cX12_isBeyond 131 = .ok (.getfield 248, 3) := by decide +kernel
theorem dX12_isBeyond_134 : decode cX12_isBeyond 134 = .ok (.iaload, 1) := by decide +kernel
theorem dX12_isBeyond_135 : decode cX12_isBeyond 135 = .ok (.iadd, 1) := by decide +kernel
theorem dX12_isBeyond_136 : decode cX12_isBeyond 136 = .ok (.if_icmp .ge 97, 3) := by decide +kernel
theorem dX12_isBeyond_139 : decode cX12_isBeyond 139 = .ok (.aload_n 0, 1) := by decide +kernel
theorem dX12_isBeyond_140 : decode cX12_isBeyond 140 = .ok (.aload_n 0, 1) := by decide +kernel
theorem dX12_isBeyond_141 : decode cX12_isBeyond 141 = .ok (.getfield 67, 3) := by decide +kernel
theorem dX12_isBeyond_144 : decode cX12_isBeyond 144 = .ok (.iload_n 1, 1) := by decide +kernel
theorem dX12_isBeyond_145 : decode cX12_isBeyond 145 = .ok (.iaload, 1) := by decide +kernel
theorem dX12_isBeyond_146 : decode cX12_isBeyond 146 = .ok (.aload_n 0, 1) := by decide +kernel
theorem dX12_isBeyond_147 : decode cX12_isBeyond 147 = .ok (.getfield 70, 3) := by decide +kernel
theorem dX12_isBeyond_150 : decode cX12_isBeyond 150 = .ok (.iload_n 1, 1) := by decide +kernel
theorem dX12_isBeyond_151 : decode cX12_isBeyond 151 = .ok (.iaload, 1) := by decide +kernel
theorem dX12_isBeyond_152 : decode cX12_isBeyond 152 = .ok (.invokevirtual 277, 3) := by decide +kernel
theorem dX12_isBeyond_155 : decode cX12_isBeyond 155 = .ok (.ifCond .eq 5, 3) := by decide +kernel
theorem dX12_isBeyond_158 : decode cX12_isBeyond 158 = .ok (.iconst 1, 1) := by decide +kernel
theorem dX12_isBeyond_159 : decode cX12_isBeyond 159 = .ok (.ireturn, 1) := by decide +kernel
theorem dX12_isBeyond_160 : decode cX12_isBeyond 160 = .ok (.bipush 8, 2) := by decide +kernel
theorem dX12_isBeyond_162 : decode cX12_isBeyond 162 = .ok (.aload_n 0, 1) := by decide +kernel
theorem dX12_isBeyond_163 : decode cX12_isBeyond 163 = .ok (.getfield 248, 3) := by decide +kernel
theorem dX12_isBeyond_166 : decode cX12_isBeyond 166 = .ok (.imul, 1) := by decide +kernel
theorem dX12_isBeyond_167 : decode cX12_isBeyond 167 = .ok (.istore_n 2, 1) := by decide +kernel
theorem dX12_isBeyond_168 : decode cX12_isBeyond 168 = .ok (.iload_n 2, 1) := by decide +kernel
theorem dX12_isBeyond_169 : decode cX12_isBeyond 169 = .ok (.bipush 8, 2) := by decide +kernel
theorem dX12_isBeyond_171 : decode cX12_isBeyond 171 = .ok (.aload_n 0, 1) := by decide +kernel
theorem dX12_isBeyond_172 : decode cX12_isBeyond 172 = .ok (.getfield 248, 3) := by decide +kernel
theorem dX12_isBeyond_175 : decode cX12_isBeyond 175 = .ok (.imul, 1) := by decide +kernel
theorem dX12_isBeyond_176 : decode cX12_isBeyond 176 = .ok (.aload_n 0, 1) := by decide +kernel
theorem dX12_isBeyond_177 : decode cX12_isBeyond 177 = .ok (.getfield 73, 3) := by decide +kernel
theorem dX12_isBeyond_180 : decode cX12_isBeyond 180 = .ok (.aload_n 0, 1) := by decide +kernel
theorem dX12_isBeyond_181 : decode cX12_isBeyond 181 = .ok (.getfield 248, 3) := by decide +kernel
theorem dX12_isBeyond_184 : decode cX12_isBeyond 184 = .ok (.iaload, 1) := by decide +kernel
theorem dX12_isBeyond_185 : decode cX12_isBeyond 185 = .ok (.iadd, 1) := by decide +kernel
theorem dX12_isBeyond_186 : decode cX12_isBeyond 186 = .ok (.if_icmp .ge 41, 3) := by decide +kernel
theorem dX12_isBeyond_189 : decode cX12_isBeyond 189 = .ok (.aload_n 0, 1) := by decide +kernel
theorem dX12_isBeyond_190 : decode cX12_isBeyond 190 = .ok (.getfield 76, 3) := by decide +kernel
theorem dX12_isBeyond_193 : decode cX12_isBeyond 193 = .ok (.iload_n 2, 1) := by decide +kernel
theorem dX12_isBeyond_194 : decode cX12_isBeyond 194 = .ok (.iaload, 1) := by decide +kernel
theorem dX12_isBeyond_195 : decode cX12_isBeyond 195 = .ok (.aload_n 0, 1) := by decide +kernel
theorem dX12_isBeyond_196 : decode cX12_isBeyond 196 = .ok (.getfield 67, 3) := by decide +kernel
theorem dX12_isBeyond_199 : decode cX12_isBeyond 199 = .ok (.iload_n 1, 1) := by decide +kernel
theorem dX12_isBeyond_200 : decode cX12_isBeyond 200 = .ok (.iaload, 1) := by decide +kernel
theorem dX12_isBeyond_201 : decode cX12_isBeyond 201 = .ok (.if_icmp .ne 20, 3) := by decide +kernel
theorem dX12_isBeyond_204 : decode cX12_isBeyond 204 = .ok (.aload_n 0, 1) := by decide +kernel
theorem dX12_isBeyond_205 : decode cX12_isBeyond 205 = .ok (.getfield 79, 3) := by decide +kernel
theorem dX12_isBeyond_208 : decode cX12_isBeyond 208 = .ok (.iload_n 2, 1) := by decide +kernel
theorem dX12_isBeyond_209 : decode cX12_isBeyond 209 = .ok (.iaload, 1) := by decide +kernel
theorem dX12_isBeyond_210 : decode cX12_isBeyond 210 = .ok (.aload_n 0, 1) := by decide +kernel
theorem dX12_isBeyond_211 : decode cX12_isBeyond 211 = .ok (.getfield 70, 3) := by decide +kernel
theorem dX12_isBeyond_214 : decode cX12_isBeyond 214 = .ok (.iload_n 1, 1) := by decide +kernel
theorem dX12_isBeyond_215 : decode cX12_isBeyond 215 = .ok (.iaload, 1) := by decide +kernel
theorem dX12_isBeyond_216 : decode cX12_isBeyond 216 = .ok (.if_icmp .ne 5, 3) := by decide +kernel
theorem dX12_isBeyond_219 : decode cX12_isBeyond 219 = .ok (.iconst 1, 1) := by decide +kernel
theorem dX12_isBeyond_220 : decode cX12_isBeyond 220 = .ok (.ireturn, 1) := by decide +kernel
theorem dX12_isBeyond_221 : decode cX12_isBeyond 221 = .ok (.iinc 2 1, 3) := by decide +kernel
theorem dX12_isBeyond_224 : decode cX12_isBeyond 224 = .ok (.goto (-56), 3) := by decide +kernel
theorem dX12_isBeyond_227 : decode cX12_isBeyond 227 = .ok (.iinc 1 1, 3) := by decide +kernel
theorem dX12_isBeyond_230 : decode cX12_isBeyond 230 = .ok (.goto (-111), 3) := by decide +kernel
theorem dX12_isBeyond_233 : decode cX12_isBeyond 233 = .ok (.iconst 0, 1) := by decide +kernel
theorem dX12_isBeyond_234 : decode cX12_isBeyond 234 = .ok (.ireturn, 1) := by decide +kernel
theorem dX12_roomFor_0 : decode cX12_roomFor 0 = .ok (.iload_n 1, 1) := by decide +kernel
theorem dX12_roomFor_1 : decode cX12_roomFor 1 = .ok (.iload_n 2, 1) := by decide +kernel
theorem dX12_roomFor_2 : decode cX12_roomFor 2 = .ok (.if_icmp .ne 8, 3) := by decide +kernel
theorem dX12_roomFor_5 : decode cX12_roomFor 5 = .ok (.aload_n 0, 1) := by decide +kernel
theorem dX12_roomFor_6 : decode cX12_roomFor 6 = .ok (.iconst 2, 1) := by decide +kernel
theorem dX12_roomFor_7 : decode cX12_roomFor 7 = .ok (.invokevirtual 230, 3) := by decide +kernel
theorem dX12_roomFor_10 : decode cX12_roomFor 10 = .ok (.aload_n 0, 1) := by decide +kernel
theorem dX12_roomFor_11 : decode cX12_roomFor 11 = .ok (.getfield 215, 3) := by decide +kernel
theorem dX12_roomFor_14 : decode cX12_roomFor 14 = .ok (.ifCond .ne 7, 3) := by decide +kernel
theorem dX12_roomFor_17 : decode cX12_roomFor 17 = .ok (.aload_n 0, 1) := by decide +kernel
theorem dX12_roomFor_18 : decode cX12_roomFor 18 = .ok (.invokevirtual 236, 3) := by decide +kernel
theorem dX12_roomFor_21 : decode cX12_roomFor 21 = .ok (.return_, 1) := by decide +kernel
theorem dX12_tellOne_0 : decode cX12_tellOne 0 = .ok (.aload_n 0, 1) := by decide +kernel
theorem dX12_tellOne_1 : decode cX12_tellOne 1 = .ok (.getfield 20, 3) := by decide +kernel
theorem dX12_tellOne_4 : decode cX12_tellOne 4 = .ok (.aload_n 0, 1) := by decide +kernel
theorem dX12_tellOne_5 : decode cX12_tellOne 5 = .ok (.getfield 218, 3) := by decide +kernel
theorem dX12_tellOne_8 : decode cX12_tellOne 8 = .ok (.iaload, 1) := by decide +kernel
theorem dX12_tellOne_9 : decode cX12_tellOne 9 = .ok (.tableswitch 240 20 29 #[55, 97, 126, 154, 240, 240, 240, 240, 183, 211], 55) := by decide +kernel
theorem dX12_tellOne_64 : decode cX12_tellOne 64 = .ok (.aload_n 0, 1) := by decide +kernel
theorem dX12_tellOne_65 : decode cX12_tellOne 65 = .ok (.invokevirtual 236, 3) := by decide +kernel
theorem dX12_tellOne_68 : decode cX12_tellOne 68 = .ok (.aload_n 0, 1) := by decide +kernel
theorem dX12_tellOne_69 : decode cX12_tellOne 69 = .ok (.getfield 43, 3) := by decide +kernel
theorem dX12_tellOne_72 : decode cX12_tellOne 72 = .ok (.aload_n 0, 1) := by decide +kernel
theorem dX12_tellOne_73 : decode cX12_tellOne 73 = .ok (.getfield 248, 3) := by decide +kernel
theorem dX12_tellOne_76 : decode cX12_tellOne 76 = .ok (.aload_n 0, 1) := by decide +kernel
theorem dX12_tellOne_77 : decode cX12_tellOne 77 = .ok (.iconst 2, 1) := by decide +kernel
theorem dX12_tellOne_78 : decode cX12_tellOne 78 = .ok (.iconst 5, 1) := by decide +kernel
theorem dX12_tellOne_79 : decode cX12_tellOne 79 = .ok (.invokevirtual 281, 3) := by decide +kernel
theorem dX12_tellOne_82 : decode cX12_tellOne 82 = .ok (.iastore, 1) := by decide +kernel
theorem dX12_tellOne_83 : decode cX12_tellOne 83 = .ok (.aload_n 0, 1) := by decide +kernel
theorem dX12_tellOne_84 : decode cX12_tellOne 84 = .ok (.getfield 46, 3) := by decide +kernel
theorem dX12_tellOne_87 : decode cX12_tellOne 87 = .ok (.aload_n 0, 1) := by decide +kernel
theorem dX12_tellOne_88 : decode cX12_tellOne 88 = .ok (.getfield 248, 3) := by decide +kernel
theorem dX12_tellOne_91 : decode cX12_tellOne 91 = .ok (.aload_n 0, 1) := by decide +kernel
theorem dX12_tellOne_92 : decode cX12_tellOne 92 = .ok (.iconst 2, 1) := by decide +kernel
theorem dX12_tellOne_93 : decode cX12_tellOne 93 = .ok (.iconst 5, 1) := by decide +kernel
theorem dX12_tellOne_94 : decode cX12_tellOne 94 = .ok (.invokevirtual 281, 3) := by decide +kernel
theorem dX12_tellOne_97 : decode cX12_tellOne 97 = .ok (.iastore, 1) := by decide +kernel
theorem dX12_tellOne_98 : decode cX12_tellOne 98 = .ok (.aload_n 0, 1) := by decide +kernel
theorem dX12_tellOne_99 : decode cX12_tellOne 99 = .ok (.iconst 4, 1) := by decide +kernel
theorem dX12_tellOne_100 : decode cX12_tellOne 100 = .ok (.invokevirtual 285, 3) := by decide +kernel
theorem dX12_tellOne_103 : decode cX12_tellOne 103 = .ok (.goto 199, 3) := by decide +kernel
theorem dX12_tellOne_106 : decode cX12_tellOne 106 = .ok (.aload_n 0, 1) := by decide +kernel
theorem dX12_tellOne_107 : decode cX12_tellOne 107 = .ok (.aload_n 0, 1) := by decide +kernel
theorem dX12_tellOne_108 : decode cX12_tellOne 108 = .ok (.getfield 49, 3) := by decide +kernel
theorem dX12_tellOne_111 : decode cX12_tellOne 111 = .ok (.aload_n 0, 1) := by decide +kernel
theorem dX12_tellOne_112 : decode cX12_tellOne 112 = .ok (.getfield 248, 3) := by decide +kernel
theorem dX12_tellOne_115 : decode cX12_tellOne 115 = .ok (.iaload, 1) := by decide +kernel
theorem dX12_tellOne_116 : decode cX12_tellOne 116 = .ok (.bipush 8, 2) := by decide +kernel
theorem dX12_tellOne_118 : decode cX12_tellOne 118 = .ok (.invokevirtual 288, 3) := by decide +kernel
theorem dX12_tellOne_121 : decode cX12_tellOne 121 = .ok (.aload_n 0, 1) := by decide +kernel
theorem dX12_tellOne_122 : decode cX12_tellOne 122 = .ok (.getfield 215, 3) := by decide +kernel
theorem dX12_tellOne_125 : decode cX12_tellOne 125 = .ok (.ifCond .ne 177, 3) := by decide +kernel
theorem dX12_tellOne_128 : decode cX12_tellOne 128 = .ok (.aload_n 0, 1) := by decide +kernel
theorem dX12_tellOne_129 : decode cX12_tellOne 129 = .ok (.invokevirtual 291, 3) := by decide +kernel
theorem dX12_tellOne_132 : decode cX12_tellOne 132 = .ok (.goto 170, 3) := by decide +kernel
theorem dX12_tellOne_135 : decode cX12_tellOne 135 = .ok (.aload_n 0, 1) := by decide +kernel
theorem dX12_tellOne_136 : decode cX12_tellOne 136 = .ok (.aload_n 0, 1) := by decide +kernel
theorem dX12_tellOne_137 : decode cX12_tellOne 137 = .ok (.getfield 64, 3) := by decide +kernel
theorem dX12_tellOne_140 : decode cX12_tellOne 140 = .ok (.aload_n 0, 1) := by decide +kernel
theorem dX12_tellOne_141 : decode cX12_tellOne 141 = .ok (.getfield 248, 3) := by decide +kernel
theorem dX12_tellOne_144 : decode cX12_tellOne 144 = .ok (.iaload, 1) := by decide +kernel
theorem dX12_tellOne_145 : decode cX12_tellOne 145 = .ok (.iconst 5, 1) := by decide +kernel
theorem dX12_tellOne_146 : decode cX12_tellOne 146 = .ok (.invokevirtual 288, 3) := by decide +kernel
theorem dX12_tellOne_149 : decode cX12_tellOne 149 = .ok (.aload_n 0, 1) := by decide +kernel
theorem dX12_tellOne_150 : decode cX12_tellOne 150 = .ok (.getfield 215, 3) := by decide +kernel
theorem dX12_tellOne_153 : decode cX12_tellOne 153 = .ok (.ifCond .ne 149, 3) := by decide +kernel
theorem dX12_tellOne_156 : decode cX12_tellOne 156 = .ok (.aload_n 0, 1) := by decide +kernel
theorem dX12_tellOne_157 : decode cX12_tellOne 157 = .ok (.invokevirtual 294, 3) := by decide +kernel
theorem dX12_tellOne_160 : decode cX12_tellOne 160 = .ok (.goto 142, 3) := by decide +kernel
theorem dX12_tellOne_163 : decode cX12_tellOne 163 = .ok (.aload_n 0, 1) := by decide +kernel
theorem dX12_tellOne_164 : decode cX12_tellOne 164 = .ok (.aload_n 0, 1) := by decide +kernel
theorem dX12_tellOne_165 : decode cX12_tellOne 165 = .ok (.getfield 73, 3) := by decide +kernel
theorem dX12_tellOne_168 : decode cX12_tellOne 168 = .ok (.aload_n 0, 1) := by decide +kernel
theorem dX12_tellOne_169 : decode cX12_tellOne 169 = .ok (.getfield 248, 3) := by decide +kernel
theorem dX12_tellOne_172 : decode cX12_tellOne 172 = .ok (.iaload, 1) := by decide +kernel
theorem dX12_tellOne_173 : decode cX12_tellOne 173 = .ok (.bipush 8, 2) := by decide +kernel
theorem dX12_tellOne_175 : decode cX12_tellOne 175 = .ok (.invokevirtual 288, 3) := by decide +kernel
theorem dX12_tellOne_178 : decode cX12_tellOne 178 = .ok (.aload_n 0, 1) := by decide +kernel
theorem dX12_tellOne_179 : decode cX12_tellOne 179 = .ok (.getfield 215, 3) := by decide +kernel
theorem dX12_tellOne_182 : decode cX12_tellOne 182 = .ok (.ifCond .ne 120, 3) := by decide +kernel
theorem dX12_tellOne_185 : decode cX12_tellOne 185 = .ok (.aload_n 0, 1) := by decide +kernel
theorem dX12_tellOne_186 : decode cX12_tellOne 186 = .ok (.invokevirtual 297, 3) := by decide +kernel
theorem dX12_tellOne_189 : decode cX12_tellOne 189 = .ok (.goto 113, 3) := by decide +kernel
theorem dX12_tellOne_192 : decode cX12_tellOne 192 = .ok (.aload_n 0, 1) := by decide +kernel
theorem dX12_tellOne_193 : decode cX12_tellOne 193 = .ok (.invokevirtual 236, 3) := by decide +kernel
theorem dX12_tellOne_196 : decode cX12_tellOne 196 = .ok (.aload_n 0, 1) := by decide +kernel
theorem dX12_tellOne_197 : decode cX12_tellOne 197 = .ok (.getfield 82, 3) := by decide +kernel
theorem dX12_tellOne_200 : decode cX12_tellOne 200 = .ok (.aload_n 0, 1) := by decide +kernel
theorem dX12_tellOne_201 : decode cX12_tellOne 201 = .ok (.getfield 248, 3) := by decide +kernel
theorem dX12_tellOne_204 : decode cX12_tellOne 204 = .ok (.aload_n 0, 1) := by decide +kernel
theorem dX12_tellOne_205 : decode cX12_tellOne 205 = .ok (.iconst 0, 1) := by decide +kernel
theorem dX12_tellOne_206 : decode cX12_tellOne 206 = .ok (.bipush 100, 2) := by decide +kernel
theorem dX12_tellOne_208 : decode cX12_tellOne 208 = .ok (.invokevirtual 281, 3) := by decide +kernel
theorem dX12_tellOne_211 : decode cX12_tellOne 211 = .ok (.iastore, 1) := by decide +kernel
theorem dX12_tellOne_212 : decode cX12_tellOne 212 = .ok (.aload_n 0, 1) := by decide +kernel
theorem dX12_tellOne_213 : decode cX12_tellOne 213 = .ok (.iconst 4, 1) := by decide +kernel
theorem dX12_tellOne_214 : decode cX12_tellOne 214 = .ok (.invokevirtual 285, 3) := by decide +kernel
theorem dX12_tellOne_217 : decode cX12_tellOne 217 = .ok (.goto 85, 3) := by decide +kernel
theorem dX12_tellOne_220 : decode cX12_tellOne 220 = .ok (.aload_n 0, 1) := by decide +kernel
theorem dX12_tellOne_221 : decode cX12_tellOne 221 = .ok (.invokevirtual 236, 3) := by decide +kernel
theorem dX12_tellOne_224 : decode cX12_tellOne 224 = .ok (.aload_n 0, 1) := by decide +kernel
theorem dX12_tellOne_225 : decode cX12_tellOne 225 = .ok (.getfield 85, 3) := by decide +kernel
theorem dX12_tellOne_228 : decode cX12_tellOne 228 = .ok (.aload_n 0, 1) := by decide +kernel
theorem dX12_tellOne_229 : decode cX12_tellOne 229 = .ok (.getfield 248, 3) := by decide +kernel
theorem dX12_tellOne_232 : decode cX12_tellOne 232 = .ok (.aload_n 0, 1) := by decide +kernel
theorem dX12_tellOne_233 : decode cX12_tellOne 233 = .ok (.iconst 0, 1) := by decide +kernel
theorem dX12_tellOne_234 : decode cX12_tellOne 234 = .ok (.sipush 9999, 3) := by decide +kernel
theorem dX12_tellOne_237 : decode cX12_tellOne 237 = .ok (.invokevirtual 281, 3) := by decide +kernel
theorem dX12_tellOne_240 : decode cX12_tellOne 240 = .ok (.iastore, 1) := by decide +kernel
theorem dX12_tellOne_241 : decode cX12_tellOne 241 = .ok (.aload_n 0, 1) := by decide +kernel
theorem dX12_tellOne_242 : decode cX12_tellOne 242 = .ok (.iconst 4, 1) := by decide +kernel
theorem dX12_tellOne_243 : decode cX12_tellOne 243 = .ok (.invokevirtual 285, 3) := by decide +kernel
theorem dX12_tellOne_246 : decode cX12_tellOne 246 = .ok (.goto 56, 3) := by decide +kernel
theorem dX12_tellOne_249 : decode cX12_tellOne 249 = .ok (.aload_n 0, 1) := by decide +kernel
theorem dX12_tellOne_250 : decode cX12_tellOne 250 = .ok (.getfield 20, 3) := by decide +kernel
theorem dX12_tellOne_253 : decode cX12_tellOne 253 = .ok (.aload_n 0, 1) := by decide +kernel
theorem dX12_tellOne_254 : decode cX12_tellOne 254 = .ok (.getfield 218, 3) := by decide +kernel
theorem dX12_tellOne_257 : decode cX12_tellOne 257 = .ok (.iaload, 1) := by decide +kernel
theorem dX12_tellOne_258 : decode cX12_tellOne 258 = .ok (.bipush 24, 2) := by decide +kernel
theorem dX12_tellOne_260 : decode cX12_tellOne 260 = .ok (.isub, 1) := by decide +kernel
theorem dX12_tellOne_261 : decode cX12_tellOne 261 = .ok (.istore_n 1, 1) := by decide +kernel
theorem dX12_tellOne_262 : decode cX12_tellOne 262 = .ok (.iload_n 1, 1) := by decide +kernel
theorem dX12_tellOne_263 : decode cX12_tellOne 263 = .ok (.ifCond .lt 17, 3) := by decide +kernel
theorem dX12_tellOne_266 : decode cX12_tellOne 266 = .ok (.aload_n 0, 1) := by decide +kernel
theorem dX12_tellOne_267 : decode cX12_tellOne 267 = .ok (.getfield 20, 3) := by decide +kernel
theorem dX12_tellOne_270 : decode cX12_tellOne 270 = .ok (.aload_n 0, 1) := by decide +kernel
theorem dX12_tellOne_271 : decode cX12_tellOne 271 = .ok (.getfield 218, 3) := by decide +kernel
theorem dX12_tellOne_274 : decode cX12_tellOne 274 = .ok (.iaload, 1) := by decide +kernel
theorem dX12_tellOne_275 : decode cX12_tellOne 275 = .ok (.bipush 27, 2) := by decide +kernel
theorem dX12_tellOne_277 : decode cX12_tellOne 277 = .ok (.if_icmp .le 8, 3) := by decide +kernel
theorem dX12_tellOne_280 : decode cX12_tellOne 280 = .ok (.aload_n 0, 1) := by decide +kernel
theorem dX12_tellOne_281 : decode cX12_tellOne 281 = .ok (.iconst 1, 1) := by decide +kernel
theorem dX12_tellOne_282 : decode cX12_tellOne 282 = .ok (.invokevirtual 230, 3) := by decide +kernel
theorem dX12_tellOne_285 : decode cX12_tellOne 285 = .ok (.aload_n 0, 1) := by decide +kernel
theorem dX12_tellOne_286 : decode cX12_tellOne 286 = .ok (.getfield 215, 3) := by decide +kernel
theorem dX12_tellOne_289 : decode cX12_tellOne 289 = .ok (.ifCond .le 4, 3) := by decide +kernel
theorem dX12_tellOne_292 : decode cX12_tellOne 292 = .ok (.return_, 1) := by decide +kernel
theorem dX12_tellOne_293 : decode cX12_tellOne 293 = .ok (.aload_n 0, 1) := by decide +kernel
theorem dX12_tellOne_294 : decode cX12_tellOne 294 = .ok (.invokevirtual 236, 3) := by decide +kernel
theorem dX12_tellOne_297 : decode cX12_tellOne 297 = .ok (.aload_n 0, 1) := by decide +kernel
theorem dX12_tellOne_298 : decode cX12_tellOne 298 = .ok (.iload_n 1, 1) := by decide +kernel
theorem dX12_tellOne_299 : decode cX12_tellOne 299 = .ok (.invokevirtual 300, 3) := by decide +kernel
theorem dX12_tellOne_302 : decode cX12_tellOne 302 = .ok (.return_, 1) := by decide +kernel
theorem dX12_bounded_0 : decode cX12_bounded 0 = .ok (.aload_n 0, 1) := by decide +kernel
theorem dX12_bounded_1 : decode cX12_bounded 1 = .ok (.getfield 215, 3) := by decide +kernel
theorem dX12_bounded_4 : decode cX12_bounded 4 = .ok (.ifCond .gt 11, 3) := by decide +kernel
theorem dX12_bounded_7 : decode cX12_bounded 7 = .ok (.aload_n 0, 1) := by decide +kernel
theorem dX12_bounded_8 : decode cX12_bounded 8 = .ok (.iconst 2, 1) := by decide +kernel
theorem dX12_bounded_9 : decode cX12_bounded 9 = .ok (.invokevirtual 233, 3) := by decide +kernel
theorem dX12_bounded_12 : decode cX12_bounded 12 = .ok (.ifCond .ne 10, 3) := by decide +kernel
theorem dX12_bounded_15 : decode cX12_bounded 15 = .ok (.aload_n 0, 1) := by decide +kernel
theorem dX12_bounded_16 : decode cX12_bounded 16 = .ok (.iconst 1, 1) := by decide +kernel
theorem dX12_bounded_17 : decode cX12_bounded 17 = .ok (.invokevirtual 230, 3) := by decide +kernel
theorem dX12_bounded_20 : decode cX12_bounded 20 = .ok (.iload_n 1, 1) := by decide +kernel
theorem dX12_bounded_21 : decode cX12_bounded 21 = .ok (.ireturn, 1) := by decide +kernel
theorem dX12_bounded_22 : decode cX12_bounded 22 = .ok (.aload_n 0, 1) := by decide +kernel
theorem dX12_bounded_23 : decode cX12_bounded 23 = .ok (.getfield 27, 3) := by decide +kernel
theorem dX12_bounded_26 : decode cX12_bounded 26 = .ok (.aload_n 0, 1) := by decide +kernel
theorem dX12_bounded_27 : decode cX12_bounded 27 = .ok (.getfield 218, 3) := by decide +kernel
theorem dX12_bounded_30 : decode cX12_bounded 30 = .ok (.iaload, 1) := by decide +kernel
theorem dX12_bounded_31 : decode cX12_bounded 31 = .ok (.istore_n 3, 1) := by decide +kernel
theorem dX12_bounded_32 : decode cX12_bounded 32 = .ok (.iload_n 3, 1) := by decide +kernel
theorem dX12_bounded_33 : decode cX12_bounded 33 = .ok (.iload_n 1, 1) := by decide +kernel
theorem dX12_bounded_34 : decode cX12_bounded 34 = .ok (.if_icmp .lt 8, 3) := by decide +kernel
theorem dX12_bounded_37 : decode cX12_bounded 37 = .ok (.iload_n 3, 1) := by decide +kernel
theorem dX12_bounded_38 : decode cX12_bounded 38 = .ok (.iload_n 2, 1) := by decide +kernel
theorem dX12_bounded_39 : decode cX12_bounded 39 = .ok (.if_icmp .le 12, 3) := by decide +kernel
theorem dX12_bounded_42 : decode cX12_bounded 42 = .ok (.aload_n 0, 1) := by decide +kernel
theorem dX12_bounded_43 : decode cX12_bounded 43 = .ok (.iconst 5, 1) := by decide +kernel
theorem dX12_bounded_44 : decode cX12_bounded 44 = .ok (.aload_n 0, 1) := by decide +kernel
theorem dX12_bounded_45 : decode cX12_bounded 45 = .ok (.getfield 218, 3) := by decide +kernel
theorem dX12_bounded_48 : decode cX12_bounded 48 = .ok (.invokevirtual 267, 3) := by decide +kernel
theorem dX12_bounded_51 : decode cX12_bounded 51 = .ok (.aload_n 0, 1) := by decide +kernel
theorem dX12_bounded_52 : decode cX12_bounded 52 = .ok (.invokevirtual 236, 3) := by decide +kernel
theorem dX12_bounded_55 : decode cX12_bounded 55 = .ok (.iload_n 3, 1) := by decide +kernel
theorem dX12_bounded_56 : decode cX12_bounded 56 = .ok (.ireturn, 1) := by decide +kernel
theorem dX12_tellTune_0 : decode cX12_tellTune 0 = .ok (.bipush 8, 2) := by decide +kernel
theorem dX12_tellTune_2 : decode cX12_tellTune 2 = .ok (.aload_n 0, 1) := by decide +kernel
theorem dX12_tellTune_3 : decode cX12_tellTune 3 = .ok (.getfield 248, 3) := by decide +kernel
theorem dX12_tellTune_6 : decode cX12_tellTune 6 = .ok (.imul, 1) := by decide +kernel
theorem dX12_tellTune_7 : decode cX12_tellTune 7 = .ok (.aload_n 0, 1) := by decide +kernel
theorem dX12_tellTune_8 : decode cX12_tellTune 8 = .ok (.getfield 49, 3) := by decide +kernel
theorem dX12_tellTune_11 : decode cX12_tellTune 11 = .ok (.aload_n 0, 1) := by decide +kernel
theorem dX12_tellTune_12 : decode cX12_tellTune 12 = .ok (.getfield 248, 3) := by decide +kernel
theorem dX12_tellTune_15 : decode cX12_tellTune 15 = .ok (.iaload, 1) := by decide +kernel
theorem dX12_tellTune_16 : decode cX12_tellTune 16 = .ok (.iadd, 1) := by decide +kernel
theorem dX12_tellTune_17 : decode cX12_tellTune 17 = .ok (.istore_n 1, 1) := by decide +kernel
theorem dX12_tellTune_18 : decode cX12_tellTune 18 = .ok (.aload_n 0, 1) := by decide +kernel
theorem dX12_tellTune_19 : decode cX12_tellTune 19 = .ok (.getfield 52, 3) := by decide +kernel
theorem dX12_tellTune_22 : decode cX12_tellTune 22 = .ok (.iload_n 1, 1) := by decide +kernel
theorem dX12_tellTune_23 : decode cX12_tellTune 23 = .ok (.aload_n 0, 1) := by decide +kernel
theorem dX12_tellTune_24 : decode cX12_tellTune 24 = .ok (.iconst 0, 1) := by decide +kernel
theorem dX12_tellTune_25 : decode cX12_tellTune 25 = .ok (.iconst 4, 1) := by decide +kernel
theorem dX12_tellTune_26 : decode cX12_tellTune 26 = .ok (.invokevirtual 281, 3) := by decide +kernel
theorem dX12_tellTune_29 : decode cX12_tellTune 29 = .ok (.iastore, 1) := by decide +kernel
theorem dX12_tellTune_30 : decode cX12_tellTune 30 = .ok (.aload_n 0, 1) := by decide +kernel
theorem dX12_tellTune_31 : decode cX12_tellTune 31 = .ok (.getfield 55, 3) := by decide +kernel
theorem dX12_tellTune_34 : decode cX12_tellTune 34 = .ok (.iload_n 1, 1) := by decide +kernel
theorem dX12_tellTune_35 : decode cX12_tellTune 35 = .ok (.aload_n 0, 1) := by decide +kernel
theorem dX12_tellTune_36 : decode cX12_tellTune 36 = .ok (.iconst 0, 1) := by decide +kernel
theorem dX12_tellTune_37 : decode cX12_tellTune 37 = .ok (.iconst 4, 1) := by decide +kernel
theorem dX12_tellTune_38 : decode cX12_tellTune 38 = .ok (.invokevirtual 281, 3) := by decide +kernel
theorem dX12_tellTune_41 : decode cX12_tellTune 41 = .ok (.iastore, 1) := by decide +kernel
theorem dX12_tellTune_42 : decode cX12_tellTune 42 = .ok (.aload_n 0, 1) := by decide +kernel
theorem dX12_tellTune_43 : decode cX12_tellTune 43 = .ok (.getfield 58, 3) := by decide +kernel
theorem dX12_tellTune_46 : decode cX12_tellTune 46 = .ok (.iload_n 1, 1) := by decide +kernel
theorem dX12_tellTune_47 : decode cX12_tellTune 47 = .ok (.aload_n 0, 1) := by decide +kernel
theorem dX12_tellTune_48 : decode cX12_tellTune 48 = .ok (.iconst 2, 1) := by decide +kernel
theorem dX12_tellTune_49 : decode cX12_tellTune 49 = .ok (.bipush 6, 2) := by decide +kernel
theorem dX12_tellTune_51 : decode cX12_tellTune 51 = .ok (.invokevirtual 281, 3) := by decide +kernel
theorem dX12_tellTune_54 : decode cX12_tellTune 54 = .ok (.iastore, 1) := by decide +kernel
theorem dX12_tellTune_55 : decode cX12_tellTune 55 = .ok (.aload_n 0, 1) := by decide +kernel
theorem dX12_tellTune_56 : decode cX12_tellTune 56 = .ok (.getfield 61, 3) := by decide +kernel
theorem dX12_tellTune_59 : decode cX12_tellTune 59 = .ok (.iload_n 1, 1) := by decide +kernel
theorem dX12_tellTune_60 : decode cX12_tellTune 60 = .ok (.aload_n 0, 1) := by decide +kernel
theorem dX12_tellTune_61 : decode cX12_tellTune 61 = .ok (.iconst 0, 1) := by decide +kernel
theorem dX12_tellTune_62 : decode cX12_tellTune 62 = .ok (.aload_n 0, 1) := by decide +kernel
theorem dX12_tellTune_63 : decode cX12_tellTune 63 = .ok (.getfield 58, 3) := by decide +kernel
theorem dX12_tellTune_66 : decode cX12_tellTune 66 = .ok (.iload_n 1, 1) := by decide +kernel
theorem dX12_tellTune_67 : decode cX12_tellTune 67 = .ok (.iaload, 1) := by decide +kernel
theorem dX12_tellTune_68 : decode cX12_tellTune 68 = .ok (.iconst 1, 1) := by decide +kernel
theorem dX12_tellTune_69 : decode cX12_tellTune 69 = .ok (.isub, 1) := by decide +kernel
theorem dX12_tellTune_70 : decode cX12_tellTune 70 = .ok (.iconst 5, 1) := by decide +kernel
theorem dX12_tellTune_71 : decode cX12_tellTune 71 = .ok (.if_icmp .ge 14, 3) := by decide +kernel
theorem dX12_tellTune_74 : decode cX12_tellTune 74 = .ok (.aload_n 0, 1) := by decide +kernel
theorem dX12_tellTune_75 : decode cX12_tellTune 75 = .ok (.getfield 58, 3) := by decide +kernel
theorem dX12_tellTune_78 : decode cX12_tellTune 78 = .ok (.iload_n 1, 1) := by decide +kernel
theorem dX12_tellTune_79 : decode cX12_tellTune 79 = .ok (.iaload, 1) := by decide +kernel
theorem dX12_tellTune_80 : decode cX12_tellTune 80 = .ok (.iconst 1, 1) := by decide +kernel
theorem dX12_tellTune_81 : decode cX12_tellTune 81 = .ok (.isub, 1) := by decide +kernel
theorem dX12_tellTune_82 : decode cX12_tellTune 82 = .ok (.goto 4, 3) := by decide +kernel
theorem dX12_tellTune_85 : decode cX12_tellTune 85 = .ok (.iconst 5, 1) := by decide +kernel
theorem dX12_tellTune_86 : decode cX12_tellTune 86 = .ok (.invokevirtual 281, 3) := by decide +kernel
theorem dX12_tellTune_89 : decode cX12_tellTune 89 = .ok (.iastore, 1) := by decide +kernel
theorem dX12_tellTune_90 : decode cX12_tellTune 90 = .ok (.aload_n 0, 1) := by decide +kernel
theorem dX12_tellTune_91 : decode cX12_tellTune 91 = .ok (.iconst 4, 1) := by decide +kernel
theorem dX12_tellTune_92 : decode cX12_tellTune 92 = .ok (.invokevirtual 285, 3) := by decide +kernel
theorem dX12_tellTune_95 : decode cX12_tellTune 95 = .ok (.aload_n 0, 1) := by decide +kernel
theorem dX12_tellTune_96 : decode cX12_tellTune 96 = .ok (.getfield 215, 3) := by decide +kernel
theorem dX12_tellTune_99 : decode cX12_tellTune 99 = .ok (.ifCond .ne 16, 3) := by decide +kernel
theorem dX12_tellTune_102 : decode cX12_tellTune 102 = .ok (.aload_n 0, 1) := by decide +kernel
theorem dX12_tellTune_103 : decode cX12_tellTune 103 = .ok (.getfield 49, 3) := by decide +kernel
theorem dX12_tellTune_106 : decode cX12_tellTune 106 = .ok (.aload_n 0, 1) := by decide +kernel
theorem dX12_tellTune_107 : decode cX12_tellTune 107 = .ok (.getfield 248, 3) := by decide +kernel
theorem dX12_tellTune_110 : decode cX12_tellTune 110 = .ok (.dup2, 1) := by decide +kernel
theorem dX12_tellTune_111 : decode cX12_tellTune 111 = .ok (.iaload, 1) := by decide +kernel
theorem dX12_tellTune_112 : decode cX12_tellTune 112 = .ok (.iconst 1, 1) := by decide +kernel
theorem dX12_tellTune_113 : decode cX12_tellTune 113 = .ok (.iadd, 1) := by decide +kernel
theorem dX12_tellTune_114 : decode cX12_tellTune 114 = .ok (.iastore, 1) := by decide +kernel
theorem dX12_tellTune_115 : decode cX12_tellTune 115 = .ok (.return_, 1) := by decide +kernel
theorem dX12_tellGoer_0 : decode cX12_tellGoer 0 = .ok (.iconst 5, 1) := by decide +kernel
theorem dX12_tellGoer_1 : decode cX12_tellGoer 1 = .ok (.aload_n 0, 1) := by decide +kernel
theorem dX12_tellGoer_2 : decode cX12_tellGoer 2 = .ok (.getfield 248, 3) := by decide +kernel
theorem dX12_tellGoer_5 : decode cX12_tellGoer 5 = .ok (.imul, 1) := by decide +kernel
theorem dX12_tellGoer_6 : decode cX12_tellGoer 6 = .ok (.aload_n 0, 1) := by decide +kernel
theorem dX12_tellGoer_7 : decode cX12_tellGoer 7 = .ok (.getfield 64, 3) := by decide +kernel
theorem dX12_tellGoer_10 : decode cX12_tellGoer 10 = .ok (.aload_n 0, 1) := by decide +kernel
theorem dX12_tellGoer_11 : decode cX12_tellGoer 11 = .ok (.getfield 248, 3) := by decide +kernel
theorem dX12_tellGoer_14 : decode cX12_tellGoer 14 = .ok (.iaload, 1) := by decide +kernel
theorem dX12_tellGoer_15 : decode cX12_tellGoer 15 = .ok (.iadd, 1) := by decide +kernel
theorem dX12_tellGoer_16 : decode cX12_tellGoer 16 = .ok (.istore_n 1, 1) := by decide +kernel
theorem dX12_tellGoer_17 : decode cX12_tellGoer 17 = .ok (.aload_n 0, 1) := by decide +kernel
theorem dX12_tellGoer_18 : decode cX12_tellGoer 18 = .ok (.getfield 218, 3) := by decide +kernel
theorem dX12_tellGoer_21 : decode cX12_tellGoer 21 = .ok (.istore_n 2, 1) := by decide +kernel
theorem dX12_tellGoer_22 : decode cX12_tellGoer 22 = .ok (.aload_n 0, 1) := by decide +kernel
theorem dX12_tellGoer_23 : decode cX12_tellGoer 23 = .ok (.iconst 1, 1) := by decide +kernel
theorem dX12_tellGoer_24 : decode cX12_tellGoer 24 = .ok (.invokevirtual 285, 3) := by decide +kernel
theorem dX12_tellGoer_27 : decode cX12_tellGoer 27 = .ok (.iconst 0, 1) := by decide +kernel
theorem dX12_tellGoer_28 : decode cX12_tellGoer 28 = .ok (.istore_n 3, 1) := by decide +kernel
theorem dX12_tellGoer_29 : decode cX12_tellGoer 29 = .ok (.iload_n 3, 1) := by decide +kernel
theorem dX12_tellGoer_30 : decode cX12_tellGoer 30 = .ok (.aload_n 0, 1) := by decide +kernel
theorem dX12_tellGoer_31 : decode cX12_tellGoer 31 = .ok (.getfield 251, 3) := by decide +kernel
theorem dX12_tellGoer_34 : decode cX12_tellGoer 34 = .ok (.if_icmp .ge 38, 3) := by decide +kernel
theorem dX12_tellGoer_37 : decode cX12_tellGoer 37 = .ok (.aload_n 0, 1) := by decide +kernel
theorem dX12_tellGoer_38 : decode cX12_tellGoer 38 = .ok (.getfield 215, 3) := by decide +kernel
theorem dX12_tellGoer_41 : decode cX12_tellGoer 41 = .ok (.ifCond .ne 31, 3) := by decide +kernel
theorem dX12_tellGoer_44 : decode cX12_tellGoer 44 = .ok (.aload_n 0, 1) := by decide +kernel
theorem dX12_tellGoer_45 : decode cX12_tellGoer 45 = .ok (.getfield 40, 3) := by decide +kernel
theorem dX12_tellGoer_48 : decode cX12_tellGoer 48 = .ok (.iload_n 3, 1) := by decide +kernel
theorem dX12_tellGoer_49 : decode cX12_tellGoer 49 = .ok (.laload, 1) := by decide +kernel
theorem dX12_tellGoer_50 : decode cX12_tellGoer 50 = .ok (.aload_n 0, 1) := by decide +kernel
theorem dX12_tellGoer_51 : decode cX12_tellGoer 51 = .ok (.getfield 30, 3) := by decide +kernel
theorem dX12_tellGoer_54 : decode cX12_tellGoer 54 = .ok (.iload_n 2, 1) := by decide +kernel
theorem dX12_tellGoer_55 : decode cX12_tellGoer 55 = .ok (.laload, 1) := by decide +kernel
theorem dX12_tellGoer_56 : decode cX12_tellGoer 56 = .ok (.lcmp, 1) := by decide +kernel
theorem dX12_tellGoer_57 : decode cX12_tellGoer 57 = .ok (.ifCond .ne 9, 3) := by decide +kernel
theorem dX12_tellGoer_60 : decode cX12_tellGoer 60 = .ok (.aload_n 0, 1) := by decide +kernel
theorem dX12_tellGoer_61 : decode cX12_tellGoer 61 = .ok (.iconst 3, 1) := by decide +kernel
theorem dX12_tellGoer_62 : decode cX12_tellGoer 62 = .ok (.iload_n 2, 1) := by decide +kernel
theorem dX12_tellGoer_63 : decode cX12_tellGoer 63 = .ok (.invokevirtual 267, 3) := by decide +kernel
theorem dX12_tellGoer_66 : decode cX12_tellGoer 66 = .ok (.iinc 3 1, 3) := by decide +kernel
theorem dX12_tellGoer_69 : decode cX12_tellGoer 69 = .ok (.goto (-40), 3) := by decide +kernel
theorem dX12_tellGoer_72 : decode cX12_tellGoer 72 = .ok (.aload_n 0, 1) := by decide +kernel
theorem dX12_tellGoer_73 : decode cX12_tellGoer 73 = .ok (.getfield 67, 3) := by decide +kernel
theorem dX12_tellGoer_76 : decode cX12_tellGoer 76 = .ok (.iload_n 1, 1) := by decide +kernel
theorem dX12_tellGoer_77 : decode cX12_tellGoer 77 = .ok (.aload_n 0, 1) := by decide +kernel
theorem dX12_tellGoer_78 : decode cX12_tellGoer 78 = .ok (.iconst 0, 1) := by decide +kernel
theorem dX12_tellGoer_79 : decode cX12_tellGoer 79 = .ok (.iconst 4, 1) := by decide +kernel
theorem dX12_tellGoer_80 : decode cX12_tellGoer 80 = .ok (.invokevirtual 281, 3) := by decide +kernel
theorem dX12_tellGoer_83 : decode cX12_tellGoer 83 = .ok (.iastore, 1) := by decide +kernel
theorem dX12_tellGoer_84 : decode cX12_tellGoer 84 = .ok (.aload_n 0, 1) := by decide +kernel
theorem dX12_tellGoer_85 : decode cX12_tellGoer 85 = .ok (.getfield 70, 3) := by decide +kernel
theorem dX12_tellGoer_88 : decode cX12_tellGoer 88 = .ok (.iload_n 1, 1) := by decide +kernel
theorem dX12_tellGoer_89 : decode cX12_tellGoer 89 = .ok (.aload_n 0, 1) := by decide +kernel
theorem dX12_tellGoer_90 : decode cX12_tellGoer 90 = .ok (.iconst 0, 1) := by decide +kernel
theorem dX12_tellGoer_91 : decode cX12_tellGoer 91 = .ok (.iconst 4, 1) := by decide +kernel
theorem dX12_tellGoer_92 : decode cX12_tellGoer 92 = .ok (.invokevirtual 281, 3) := by decide +kernel
theorem dX12_tellGoer_95 : decode cX12_tellGoer 95 = .ok (.iastore, 1) := by decide +kernel
theorem dX12_tellGoer_96 : decode cX12_tellGoer 96 = .ok (.aload_n 0, 1) := by decide +kernel
theorem dX12_tellGoer_97 : decode cX12_tellGoer 97 = .ok (.iconst 4, 1) := by decide +kernel
theorem dX12_tellGoer_98 : decode cX12_tellGoer 98 = .ok (.invokevirtual 285, 3) := by decide +kernel
theorem dX12_tellGoer_101 : decode cX12_tellGoer 101 = .ok (.aload_n 0, 1) := by decide +kernel
theorem dX12_tellGoer_102 : decode cX12_tellGoer 102 = .ok (.getfield 215, 3) := by decide +kernel
theorem dX12_tellGoer_105 : decode cX12_tellGoer 105 = .ok (.ifCond .le 4, 3) := by decide +kernel
theorem dX12_tellGoer_108 : decode cX12_tellGoer 108 = .ok (.return_, 1) := by decide +kernel
theorem dX12_tellGoer_109 : decode cX12_tellGoer 109 = .ok (.aload_n 0, 1) := by decide +kernel
theorem dX12_tellGoer_110 : decode cX12_tellGoer 110 = .ok (.getfield 40, 3) := by decide +kernel
theorem dX12_tellGoer_113 : decode cX12_tellGoer 113 = .ok (.aload_n 0, 1) := by decide +kernel
theorem dX12_tellGoer_114 : decode cX12_tellGoer 114 = .ok (.getfield 251, 3) := by decide +kernel
theorem dX12_tellGoer_117 : decode cX12_tellGoer 117 = .ok (.aload_n 0, 1) := by decide +kernel
theorem dX12_tellGoer_118 : decode cX12_tellGoer 118 = .ok (.getfield 30, 3) := by decide +kernel
theorem dX12_tellGoer_121 : decode cX12_tellGoer 121 = .ok (.iload_n 2, 1) := by decide +kernel
theorem dX12_tellGoer_122 : decode cX12_tellGoer 122 = .ok (.laload, 1) := by decide +kernel
theorem dX12_tellGoer_123 : decode cX12_tellGoer 123 = .ok (.lastore, 1) := by decide +kernel
theorem dX12_tellGoer_124 : decode cX12_tellGoer 124 = .ok (.aload_n 0, 1) := by decide +kernel
theorem dX12_tellGoer_125 : decode cX12_tellGoer 125 = .ok (.dup, 1) := by decide +kernel
theorem dX12_tellGoer_126 : decode cX12_tellGoer 126 = .ok (.getfield 251, 3) := by decide +kernel
theorem dX12_tellGoer_129 : decode cX12_tellGoer 129 = .ok (.iconst 1, 1) := by decide +kernel
theorem dX12_tellGoer_130 : decode cX12_tellGoer 130 = .ok (.iadd, 1) := by decide +kernel
theorem dX12_tellGoer_131 : decode cX12_tellGoer 131 = .ok (.putfield 251, 3) := by decide +kernel
theorem dX12_tellGoer_134 : decode cX12_tellGoer 134 = .ok (.aload_n 0, 1) := by decide +kernel
theorem dX12_tellGoer_135 : decode cX12_tellGoer 135 = .ok (.getfield 64, 3) := by decide +kernel
theorem dX12_tellGoer_138 : decode cX12_tellGoer 138 = .ok (.aload_n 0, 1) := by decide +kernel
theorem dX12_tellGoer_139 : decode cX12_tellGoer 139 = .ok (.getfield 248, 3) := by decide +kernel
theorem dX12_tellGoer_142 : decode cX12_tellGoer 142 = .ok (.dup2, 1) := by decide +kernel
theorem dX12_tellGoer_143 : decode cX12_tellGoer 143 = .ok (.iaload, 1) := by decide +kernel
theorem dX12_tellGoer_144 : decode cX12_tellGoer 144 = .ok (.iconst 1, 1) := by decide +kernel
theorem dX12_tellGoer_145 : decode cX12_tellGoer 145 = .ok (.iadd, 1) := by decide +kernel
theorem dX12_tellGoer_146 : decode cX12_tellGoer 146 = .ok (.iastore, 1) := by decide +kernel
theorem dX12_tellGoer_147 : decode cX12_tellGoer 147 = .ok (.return_, 1) := by decide +kernel
theorem dX12_tellRope_0 : decode cX12_tellRope 0 = .ok (.bipush 8, 2) := by decide +kernel
theorem dX12_tellRope_2 : decode cX12_tellRope 2 = .ok (.aload_n 0, 1) := by decide +kernel
theorem dX12_tellRope_3 : decode cX12_tellRope 3 = .ok (.getfield 248, 3) := by decide +kernel
theorem dX12_tellRope_6 : decode cX12_tellRope 6 = .ok (.imul, 1) := by decide +kernel
theorem dX12_tellRope_7 : decode cX12_tellRope 7 = .ok (.aload_n 0, 1) := by decide +kernel
theorem dX12_tellRope_8 : decode cX12_tellRope 8 = .ok (.getfield 73, 3) := by decide +kernel
theorem dX12_tellRope_11 : decode cX12_tellRope 11 = .ok (.aload_n 0, 1) := by decide +kernel
theorem dX12_tellRope_12 : decode cX12_tellRope 12 = .ok (.getfield 248, 3) := by decide +kernel
theorem dX12_tellRope_15 : decode cX12_tellRope 15 = .ok (.iaload, 1) := by decide +kernel
theorem dX12_tellRope_16 : decode cX12_tellRope 16 = .ok (.iadd, 1) := by decide +kernel
theorem dX12_tellRope_17 : decode cX12_tellRope 17 = .ok (.istore_n 1, 1) := by decide +kernel
theorem dX12_tellRope_18 : decode cX12_tellRope 18 = .ok (.aload_n 0, 1) := by decide +kernel
theorem dX12_tellRope_19 : decode cX12_tellRope 19 = .ok (.getfield 76, 3) := by decide +kernel
theorem dX12_tellRope_22 : decode cX12_tellRope 22 = .ok (.iload_n 1, 1) := by decide +kernel
theorem dX12_tellRope_23 : decode cX12_tellRope 23 = .ok (.aload_n 0, 1) := by decide +kernel
theorem dX12_tellRope_24 : decode cX12_tellRope 24 = .ok (.iconst 0, 1) := by decide +kernel
theorem dX12_tellRope_25 : decode cX12_tellRope 25 = .ok (.iconst 4, 1) := by decide +kernel
theorem dX12_tellRope_26 : decode cX12_tellRope 26 = .ok (.invokevirtual 281, 3) := by decide +kernel
theorem dX12_tellRope_29 : decode cX12_tellRope 29 = .ok (.iastore, 1) := by decide +kernel
theorem dX12_tellRope_30 : decode cX12_tellRope 30 = .ok (.aload_n 0, 1) := by decide +kernel
theorem dX12_tellRope_31 : decode cX12_tellRope 31 = .ok (.getfield 79, 3) := by decide +kernel
theorem dX12_tellRope_34 : decode cX12_tellRope 34 = .ok (.iload_n 1, 1) := by decide +kernel
theorem dX12_tellRope_35 : decode cX12_tellRope 35 = .ok (.aload_n 0, 1) := by decide +kernel
theorem dX12_tellRope_36 : decode cX12_tellRope 36 = .ok (.iconst 0, 1) := by decide +kernel
theorem dX12_tellRope_37 : decode cX12_tellRope 37 = .ok (.iconst 4, 1) := by decide +kernel
theorem dX12_tellRope_38 : decode cX12_tellRope 38 = .ok (.invokevirtual 281, 3) := by decide +kernel
theorem dX12_tellRope_41 : decode cX12_tellRope 41 = .ok (.iastore, 1) := by decide +kernel
theorem dX12_tellRope_42 : decode cX12_tellRope 42 = .ok (.aload_n 0, 1) := by decide +kernel
theorem dX12_tellRope_43 : decode cX12_tellRope 43 = .ok (.iconst 4, 1) := by decide +kernel
theorem dX12_tellRope_44 : decode cX12_tellRope 44 = .ok (.invokevirtual 285, 3) := by decide +kernel
theorem dX12_tellRope_47 : decode cX12_tellRope 47 = .ok (.aload_n 0, 1) := by decide +kernel
theorem dX12_tellRope_48 : decode cX12_tellRope 48 = .ok (.getfield 215, 3) := by decide +kernel
theorem dX12_tellRope_51 : decode cX12_tellRope 51 = .ok (.ifCond .ne 16, 3) := by decide +kernel
theorem dX12_tellRope_54 : decode cX12_tellRope 54 = .ok (.aload_n 0, 1) := by decide +kernel
theorem dX12_tellRope_55 : decode cX12_tellRope 55 = .ok (.getfield 73, 3) := by decide +kernel
theorem dX12_tellRope_58 : decode cX12_tellRope 58 = .ok (.aload_n 0, 1) := by decide +kernel
theorem dX12_tellRope_59 : decode cX12_tellRope 59 = .ok (.getfield 248, 3) := by decide +kernel
theorem dX12_tellRope_62 : decode cX12_tellRope 62 = .ok (.dup2, 1) := by decide +kernel
theorem dX12_tellRope_63 : decode cX12_tellRope 63 = .ok (.iaload, 1) := by decide +kernel
theorem dX12_tellRope_64 : decode cX12_tellRope 64 = .ok (.iconst 1, 1) := by decide +kernel
theorem dX12_tellRope_65 : decode cX12_tellRope 65 = .ok (.iadd, 1) := by decide +kernel
theorem dX12_tellRope_66 : decode cX12_tellRope 66 = .ok (.iastore, 1) := by decide +kernel
theorem dX12_tellRope_67 : decode cX12_tellRope 67 = .ok (.return_, 1) := by decide +kernel
theorem dX12_tellLaw_0 : decode cX12_tellLaw 0 = .ok (.aload_n 0, 1) := by decide +kernel
theorem dX12_tellLaw_1 : decode cX12_tellLaw 1 = .ok (.iconst 5, 1) := by decide +kernel
theorem dX12_tellLaw_2 : decode cX12_tellLaw 2 = .ok (.invokevirtual 285, 3) := by decide +kernel
theorem dX12_tellLaw_5 : decode cX12_tellLaw 5 = .ok (.aload_n 0, 1) := by decide +kernel
theorem dX12_tellLaw_6 : decode cX12_tellLaw 6 = .ok (.getfield 254, 3) := by decide +kernel
theorem dX12_tellLaw_9 : decode cX12_tellLaw 9 = .ok (.istore_n 2, 1) := by decide +kernel
theorem dX12_tellLaw_10 : decode cX12_tellLaw 10 = .ok (.iconst 0, 1) := by decide +kernel
theorem dX12_tellLaw_11 : decode cX12_tellLaw 11 = .ok (.istore_n 3, 1) := by decide +kernel
theorem dX12_tellLaw_12 : decode cX12_tellLaw 12 = .ok (.aload_n 0, 1) := by decide +kernel
theorem dX12_tellLaw_13 : decode cX12_tellLaw 13 = .ok (.getfield 215, 3) := by decide +kernel
theorem dX12_tellLaw_16 : decode cX12_tellLaw 16 = .ok (.ifCond .ne 113, 3) := by decide +kernel
theorem dX12_tellLaw_19 : decode cX12_tellLaw 19 = .ok (.aload_n 0, 1) := by decide +kernel
theorem dX12_tellLaw_20 : decode cX12_tellLaw 20 = .ok (.bipush 30, 2) := by decide +kernel
theorem dX12_tellLaw_22 : decode cX12_tellLaw 22 = .ok (.invokevirtual 233, 3) := by decide +kernel
theorem dX12_tellLaw_25 : decode cX12_tellLaw 25 = .ok (.ifCond .eq 104, 3) := by decide +kernel
theorem dX12_tellLaw_28 : decode cX12_tellLaw 28 = .ok (.iload_n 3, 1) := by decide +kernel
theorem dX12_tellLaw_29 : decode cX12_tellLaw 29 = .ok (.iconst 4, 1) := by decide +kernel
theorem dX12_tellLaw_30 : decode cX12_tellLaw 30 = .ok (.if_icmp .ne 8, 3) := by decide +kernel
theorem dX12_tellLaw_33 : decode cX12_tellLaw 33 = .ok (.aload_n 0, 1) := by decide +kernel
theorem dX12_tellLaw_34 : decode cX12_tellLaw 34 = .ok (.iconst 2, 1) := by decide +kernel
theorem dX12_tellLaw_35 : decode cX12_tellLaw 35 = .ok (.invokevirtual 230, 3) := by decide +kernel
theorem dX12_tellLaw_38 : decode cX12_tellLaw 38 = .ok (.aload_n 0, 1) := by decide +kernel
theorem dX12_tellLaw_39 : decode cX12_tellLaw 39 = .ok (.getfield 215, 3) := by decide +kernel
theorem dX12_tellLaw_42 : decode cX12_tellLaw 42 = .ok (.ifCond .le 4, 3) := by decide +kernel
theorem dX12_tellLaw_45 : decode cX12_tellLaw 45 = .ok (.return_, 1) := by decide +kernel
theorem dX12_tellLaw_46 : decode cX12_tellLaw 46 = .ok (.iinc 3 1, 3) := by decide +kernel
theorem dX12_tellLaw_49 : decode cX12_tellLaw 49 = .ok (.aload_n 0, 1) := by decide +kernel
theorem dX12_tellLaw_50 : decode cX12_tellLaw 50 = .ok (.invokevirtual 236, 3) := by decide +kernel
theorem dX12_tellLaw_53 : decode cX12_tellLaw 53 = .ok (.aload_n 0, 1) := by decide +kernel
theorem dX12_tellLaw_54 : decode cX12_tellLaw 54 = .ok (.getfield 94, 3) := by decide +kernel
theorem dX12_tellLaw_57 : decode cX12_tellLaw 57 = .ok (.aload_n 0, 1) := by decide +kernel
theorem dX12_tellLaw_58 : decode cX12_tellLaw 58 = .ok (.getfield 254, 3) := by decide +kernel
theorem dX12_tellLaw_61 : decode cX12_tellLaw 61 = .ok (.iconst 1, 1) := by decide +kernel
theorem dX12_tellLaw_62 : decode cX12_tellLaw 62 = .ok (.bastore, 1) := by decide +kernel
theorem dX12_tellLaw_63 : decode cX12_tellLaw 63 = .ok (.aload_n 0, 1) := by decide +kernel
theorem dX12_tellLaw_64 : decode cX12_tellLaw 64 = .ok (.getfield 98, 3) := by decide +kernel
theorem dX12_tellLaw_67 : decode cX12_tellLaw 67 = .ok (.aload_n 0, 1) := by decide +kernel
theorem dX12_tellLaw_68 : decode cX12_tellLaw 68 = .ok (.getfield 254, 3) := by decide +kernel
theorem dX12_tellLaw_71 : decode cX12_tellLaw 71 = .ok (.aload_n 0, 1) := by decide +kernel
theorem dX12_tellLaw_72 : decode cX12_tellLaw 72 = .ok (.getfield 257, 3) := by decide +kernel
theorem dX12_tellLaw_75 : decode cX12_tellLaw 75 = .ok (.iastore, 1) := by decide +kernel
theorem dX12_tellLaw_76 : decode cX12_tellLaw 76 = .ok (.aload_n 0, 1) := by decide +kernel
theorem dX12_tellLaw_77 : decode cX12_tellLaw 77 = .ok (.invokevirtual 303, 3) := by decide +kernel
theorem dX12_tellLaw_80 : decode cX12_tellLaw 80 = .ok (.aload_n 0, 1) := by decide +kernel
theorem dX12_tellLaw_81 : decode cX12_tellLaw 81 = .ok (.bipush 13, 2) := by decide +kernel
theorem dX12_tellLaw_83 : decode cX12_tellLaw 83 = .ok (.invokevirtual 285, 3) := by decide +kernel
theorem dX12_tellLaw_86 : decode cX12_tellLaw 86 = .ok (.aload_n 0, 1) := by decide +kernel
theorem dX12_tellLaw_87 : decode cX12_tellLaw 87 = .ok (.getfield 101, 3) := by decide +kernel
theorem dX12_tellLaw_90 : decode cX12_tellLaw 90 = .ok (.aload_n 0, 1) := by decide +kernel
theorem dX12_tellLaw_91 : decode cX12_tellLaw 91 = .ok (.getfield 254, 3) := by decide +kernel
theorem dX12_tellLaw_94 : decode cX12_tellLaw 94 = .ok (.aload_n 0, 1) := by decide +kernel
theorem dX12_tellLaw_95 : decode cX12_tellLaw 95 = .ok (.getfield 257, 3) := by decide +kernel
theorem dX12_tellLaw_98 : decode cX12_tellLaw 98 = .ok (.iastore, 1) := by decide +kernel
theorem dX12_tellLaw_99 : decode cX12_tellLaw 99 = .ok (.aload_n 0, 1) := by decide +kernel
theorem dX12_tellLaw_100 : decode cX12_tellLaw 100 = .ok (.getfield 215, 3) := by decide +kernel
theorem dX12_tellLaw_103 : decode cX12_tellLaw 103 = .ok (.ifCond .ne 7, 3) := by decide +kernel
theorem dX12_tellLaw_106 : decode cX12_tellLaw 106 = .ok (.aload_n 0, 1) := by decide +kernel
theorem dX12_tellLaw_107 : decode cX12_tellLaw 107 = .ok (.invokevirtual 303, 3) := by decide +kernel
theorem dX12_tellLaw_110 : decode cX12_tellLaw 110 = .ok (.aload_n 0, 1) := by decide +kernel
theorem dX12_tellLaw_111 : decode cX12_tellLaw 111 = .ok (.bipush 31, 2) := by decide +kernel
theorem dX12_tellLaw_113 : decode cX12_tellLaw 113 = .ok (.invokevirtual 285, 3) := by decide +kernel
theorem dX12_tellLaw_116 : decode cX12_tellLaw 116 = .ok (.aload_n 0, 1) := by decide +kernel
theorem dX12_tellLaw_117 : decode cX12_tellLaw 117 = .ok (.invokevirtual 306, 3) := by decide +kernel
theorem dX12_tellLaw_120 : decode cX12_tellLaw 120 = .ok (.aload_n 0, 1) := by decide +kernel
theorem dX12_tellLaw_121 : decode cX12_tellLaw 121 = .ok (.bipush 32, 2) := by decide +kernel
theorem dX12_tellLaw_123 : decode cX12_tellLaw 123 = .ok (.invokevirtual 285, 3) := by decide +kernel
theorem dX12_tellLaw_126 : decode cX12_tellLaw 126 = .ok (.goto (-114), 3) := by decide +kernel
theorem dX12_tellLaw_129 : decode cX12_tellLaw 129 = .ok (.aload_n 0, 1) := by decide +kernel
theorem dX12_tellLaw_130 : decode cX12_tellLaw 130 = .ok (.getfield 94, 3) := by decide +kernel
theorem dX12_tellLaw_133 : decode cX12_tellLaw 133 = .ok (.aload_n 0, 1) := by decide +kernel
theorem dX12_tellLaw_134 : decode cX12_tellLaw 134 = .ok (.getfield 254, 3) := by decide +kernel
theorem dX12_tellLaw_137 : decode cX12_tellLaw 137 = .ok (.iconst 0, 1) := by decide +kernel
theorem dX12_tellLaw_138 : decode cX12_tellLaw 138 = .ok (.bastore, 1) := by decide +kernel
theorem dX12_tellLaw_139 : decode cX12_tellLaw 139 = .ok (.aload_n 0, 1) := by decide +kernel
theorem dX12_tellLaw_140 : decode cX12_tellLaw 140 = .ok (.invokevirtual 306, 3) := by decide +kernel
theorem dX12_tellLaw_143 : decode cX12_tellLaw 143 = .ok (.aload_n 0, 1) := by decide +kernel
theorem dX12_tellLaw_144 : decode cX12_tellLaw 144 = .ok (.iconst 4, 1) := by decide +kernel
theorem dX12_tellLaw_145 : decode cX12_tellLaw 145 = .ok (.invokevirtual 285, 3) := by decide +kernel
theorem dX12_tellLaw_148 : decode cX12_tellLaw 148 = .ok (.aload_n 0, 1) := by decide +kernel
theorem dX12_tellLaw_149 : decode cX12_tellLaw 149 = .ok (.getfield 215, 3) := by decide +kernel
theorem dX12_tellLaw_152 : decode cX12_tellLaw 152 = .ok (.ifCond .le 4, 3) := by decide +kernel
theorem dX12_tellLaw_155 : decode cX12_tellLaw 155 = .ok (.return_, 1) := by decide +kernel
theorem dX12_tellLaw_156 : decode cX12_tellLaw 156 = .ok (.aload_n 0, 1) := by decide +kernel
theorem dX12_tellLaw_157 : decode cX12_tellLaw 157 = .ok (.getfield 88, 3) := by decide +kernel
theorem dX12_tellLaw_160 : decode cX12_tellLaw 160 = .ok (.iconst 4, 1) := by decide +kernel
theorem dX12_tellLaw_161 : decode cX12_tellLaw 161 = .ok (.aload_n 0, 1) := by decide +kernel
theorem dX12_tellLaw_162 : decode cX12_tellLaw 162 = .ok (.getfield 248, 3) := by decide +kernel
theorem dX12_tellLaw_165 : decode cX12_tellLaw 165 = .ok (.imul, 1) := by decide +kernel
theorem dX12_tellLaw_166 : decode cX12_tellLaw 166 = .ok (.iload_n 1, 1) := by decide +kernel
theorem dX12_tellLaw_167 : decode cX12_tellLaw 167 = .ok (.iadd, 1) := by decide +kernel
theorem dX12_tellLaw_168 : decode cX12_tellLaw 168 = .ok (.iload_n 2, 1) := by decide +kernel
theorem dX12_tellLaw_169 : decode cX12_tellLaw 169 = .ok (.iastore, 1) := by decide +kernel
theorem dX12_tellLaw_170 : decode cX12_tellLaw 170 = .ok (.aload_n 0, 1) := by decide +kernel
theorem dX12_tellLaw_171 : decode cX12_tellLaw 171 = .ok (.getfield 91, 3) := by decide +kernel
theorem dX12_tellLaw_174 : decode cX12_tellLaw 174 = .ok (.iconst 4, 1) := by decide +kernel
theorem dX12_tellLaw_175 : decode cX12_tellLaw 175 = .ok (.aload_n 0, 1) := by decide +kernel
theorem dX12_tellLaw_176 : decode cX12_tellLaw 176 = .ok (.getfield 248, 3) := by decide +kernel
theorem dX12_tellLaw_179 : decode cX12_tellLaw 179 = .ok (.imul, 1) := by decide +kernel
theorem dX12_tellLaw_180 : decode cX12_tellLaw 180 = .ok (.iload_n 1, 1) := by decide +kernel
theorem dX12_tellLaw_181 : decode cX12_tellLaw 181 = .ok (.iadd, 1) := by decide +kernel
theorem dX12_tellLaw_182 : decode cX12_tellLaw 182 = .ok (.aload_n 0, 1) := by decide +kernel
theorem dX12_tellLaw_183 : decode cX12_tellLaw 183 = .ok (.getfield 254, 3) := by decide +kernel
theorem dX12_tellLaw_186 : decode cX12_tellLaw 186 = .ok (.iastore, 1) := by decide +kernel
theorem dX12_tellLaw_187 : decode cX12_tellLaw 187 = .ok (.return_, 1) := by decide +kernel
theorem dX12_term_0 : decode cX12_term 0 = .ok (.aload_n 0, 1) := by decide +kernel
theorem dX12_term_1 : decode cX12_term 1 = .ok (.getfield 104, 3) := by decide +kernel
theorem dX12_term_4 : decode cX12_term 4 = .ok (.aload_n 0, 1) := by decide +kernel
theorem dX12_term_5 : decode cX12_term 5 = .ok (.getfield 254, 3) := by decide +kernel
theorem dX12_term_8 : decode cX12_term 8 = .ok (.aload_n 0, 1) := by decide +kernel
theorem dX12_term_9 : decode cX12_term 9 = .ok (.getfield 257, 3) := by decide +kernel
theorem dX12_term_12 : decode cX12_term 12 = .ok (.iastore, 1) := by decide +kernel
theorem dX12_term_13 : decode cX12_term 13 = .ok (.aload_n 0, 1) := by decide +kernel
theorem dX12_term_14 : decode cX12_term 14 = .ok (.getfield 215, 3) := by decide +kernel
theorem dX12_term_17 : decode cX12_term 17 = .ok (.ifCond .ne 7, 3) := by decide +kernel
theorem dX12_term_20 : decode cX12_term 20 = .ok (.aload_n 0, 1) := by decide +kernel
theorem dX12_term_21 : decode cX12_term 21 = .ok (.invokevirtual 303, 3) := by decide +kernel
theorem dX12_term_24 : decode cX12_term 24 = .ok (.aload_n 0, 1) := by decide +kernel
theorem dX12_term_25 : decode cX12_term 25 = .ok (.getfield 107, 3) := by decide +kernel
theorem dX12_term_28 : decode cX12_term 28 = .ok (.aload_n 0, 1) := by decide +kernel
theorem dX12_term_29 : decode cX12_term 29 = .ok (.getfield 254, 3) := by decide +kernel
theorem dX12_term_32 : decode cX12_term 32 = .ok (.aload_n 0, 1) := by decide +kernel
theorem dX12_term_33 : decode cX12_term 33 = .ok (.getfield 257, 3) := by decide +kernel
theorem dX12_term_36 : decode cX12_term 36 = .ok (.iastore, 1) := by decide +kernel
theorem dX12_term_37 : decode cX12_term 37 = .ok (.aload_n 0, 1) := by decide +kernel
theorem dX12_term_38 : decode cX12_term 38 = .ok (.dup, 1) := by decide +kernel
theorem dX12_term_39 : decode cX12_term 39 = .ok (.getfield 254, 3) := by decide +kernel
theorem dX12_term_42 : decode cX12_term 42 = .ok (.iconst 1, 1) := by decide +kernel
theorem dX12_term_43 : decode cX12_term 43 = .ok (.iadd, 1) := by decide +kernel
theorem dX12_term_44 : decode cX12_term 44 = .ok (.putfield 254, 3) := by decide +kernel
theorem dX12_term_47 : decode cX12_term 47 = .ok (.return_, 1) := by decide +kernel
theorem dX12_emit_0 : decode cX12_emit 0 = .ok (.aload_n 0, 1) := by decide +kernel
theorem dX12_emit_1 : decode cX12_emit 1 = .ok (.getfield 110, 3) := by decide +kernel
theorem dX12_emit_4 : decode cX12_emit 4 = .ok (.aload_n 0, 1) := by decide +kernel
theorem dX12_emit_5 : decode cX12_emit 5 = .ok (.getfield 257, 3) := by decide +kernel
theorem dX12_emit_8 : decode cX12_emit 8 = .ok (.iload_n 1, 1) := by decide +kernel
theorem dX12_emit_9 : decode cX12_emit 9 = .ok (.iastore, 1) := by decide +kernel
theorem dX12_emit_10 : decode cX12_emit 10 = .ok (.aload_n 0, 1) := by decide +kernel
theorem dX12_emit_11 : decode cX12_emit 11 = .ok (.getfield 113, 3) := by decide +kernel
theorem dX12_emit_14 : decode cX12_emit 14 = .ok (.aload_n 0, 1) := by decide +kernel
theorem dX12_emit_15 : decode cX12_emit 15 = .ok (.getfield 257, 3) := by decide +kernel
theorem dX12_emit_18 : decode cX12_emit 18 = .ok (.iload_n 2, 1) := by decide +kernel
theorem dX12_emit_19 : decode cX12_emit 19 = .ok (.iastore, 1) := by decide +kernel
theorem dX12_emit_20 : decode cX12_emit 20 = .ok (.aload_n 0, 1) := by decide +kernel
theorem dX12_emit_21 : decode cX12_emit 21 = .ok (.dup, 1) := by decide +kernel
theorem dX12_emit_22 : decode cX12_emit 22 = .ok (.getfield 257, 3) := by decide +kernel
theorem dX12_emit_25 : decode cX12_emit 25 = .ok (.iconst 1, 1) := by decide +kernel
theorem dX12_emit_26 : decode cX12_emit 26 = .ok (.iadd, 1) := by decide +kernel
theorem dX12_emit_27 : decode cX12_emit 27 = .ok (.putfield 257, 3) := by decide +kernel
theorem dX12_emit_30 : decode cX12_emit 30 = .ok (.return_, 1) := by decide +kernel
theorem dX12_comesOut_0 : decode cX12_comesOut 0 = .ok (.aload_n 0, 1) := by decide +kernel
theorem dX12_comesOut_1 : decode cX12_comesOut 1 = .ok (.getfield 309, 3) := by decide +kernel
theorem dX12_comesOut_4 : decode cX12_comesOut 4 = .ok (.ifCond .le 87, 3) := by decide +kernel
theorem dX12_comesOut_7 : decode cX12_comesOut 7 = .ok (.aload_n 0, 1) := by decide +kernel
theorem dX12_comesOut_8 : decode cX12_comesOut 8 = .ok (.getfield 116, 3) := by decide +kernel
theorem dX12_comesOut_11 : decode cX12_comesOut 11 = .ok (.aload_n 0, 1) := by decide +kernel
theorem dX12_comesOut_12 : decode cX12_comesOut 12 = .ok (.getfield 309, 3) := by decide +kernel
theorem dX12_comesOut_15 : decode cX12_comesOut 15 = .ok (.iconst 1, 1) := by decide +kernel
theorem dX12_comesOut_16 : decode cX12_comesOut 16 = .ok (.isub, 1) := by decide +kernel
theorem dX12_comesOut_17 : decode cX12_comesOut 17 = .ok (.iaload, 1) := by decide +kernel
theorem dX12_comesOut_18 : decode cX12_comesOut 18 = .ok (.istore_n 2, 1) := by decide +kernel
theorem dX12_comesOut_19 : decode cX12_comesOut 19 = .ok (.iload_n 2, 1) := by decide +kernel
theorem dX12_comesOut_20 : decode cX12_comesOut 20 = .ok (.bipush 6, 2) := by decide +kernel
theorem dX12_comesOut_22 : decode cX12_comesOut 22 = .ok (.if_icmp .eq 19, 3) := by decide +kernel
theorem dX12_comesOut_25 : decode cX12_comesOut 25 = .ok (.iload_n 1, 1) := by decide +kernel
theorem dX12_comesOut_26 : decode cX12_comesOut 26 = .ok (.ifCond .eq 16, 3) := by decide +kernel
theorem dX12_comesOut_29 : decode cX12_comesOut 29 = .ok (.iload_n 2, 1) := by decide +kernel
theorem dX12_comesOut_30 : decode cX12_comesOut 30 = .ok (.bipush 8, 2) := by decide +kernel
theorem dX12_comesOut_32 : decode cX12_comesOut 32 = .ok (.if_icmp .eq 9, 3) := by decide +kernel
theorem dX12_comesOut_35 : decode cX12_comesOut 35 = .ok (.iload_n 2, 1) := by decide +kernel
theorem dX12_comesOut_36 : decode cX12_comesOut 36 = .ok (.bipush 9, 2) := by decide +kernel
theorem dX12_comesOut_38 : decode cX12_comesOut 38 = .ok (.if_icmp .ne 4, 3) := by decide +kernel
theorem dX12_comesOut_41 : decode cX12_comesOut 41 = .ok (.return_, 1) := by decide +kernel
theorem dX12_comesOut_42 : decode cX12_comesOut 42 = .ok (.aload_n 0, 1) := by decide +kernel
theorem dX12_comesOut_43 : decode cX12_comesOut 43 = .ok (.dup, 1) := by decide +kernel
theorem dX12_comesOut_44 : decode cX12_comesOut 44 = .ok (.getfield 309, 3) := by decide +kernel
theorem dX12_comesOut_47 : decode cX12_comesOut 47 = .ok (.iconst 1, 1) := by decide +kernel
theorem dX12_comesOut_48 : decode cX12_comesOut 48 = .ok (.isub, 1) := by decide +kernel
theorem dX12_comesOut_49 : decode cX12_comesOut 49 = .ok (.putfield 309, 3) := by decide +kernel
theorem dX12_comesOut_52 : decode cX12_comesOut 52 = .ok (.aload_n 0, 1) := by decide +kernel
theorem dX12_comesOut_53 : decode cX12_comesOut 53 = .ok (.iload_n 2, 1) := by decide +kernel
theorem dX12_comesOut_54 : decode cX12_comesOut 54 = .ok (.bipush 8, 2) := by decide +kernel
theorem dX12_comesOut_56 : decode cX12_comesOut 56 = .ok (.if_icmp .ne 7, 3) := by decide +kernel
theorem dX12_comesOut_59 : decode cX12_comesOut 59 = .ok (.iconst 2, 1) := by decide +kernel
theorem dX12_comesOut_60 : decode cX12_comesOut 60 = .ok (.goto 24, 3) := by decide +kernel
theorem dX12_comesOut_63 : decode cX12_comesOut 63 = .ok (.iload_n 2, 1) := by decide +kernel
theorem dX12_comesOut_64 : decode cX12_comesOut 64 = .ok (.bipush 9, 2) := by decide +kernel
theorem dX12_comesOut_66 : decode cX12_comesOut 66 = .ok (.if_icmp .ne 7, 3) := by decide +kernel
theorem dX12_comesOut_69 : decode cX12_comesOut 69 = .ok (.iconst 3, 1) := by decide +kernel
theorem dX12_comesOut_70 : decode cX12_comesOut 70 = .ok (.goto 14, 3) := by decide +kernel
theorem dX12_comesOut_73 : decode cX12_comesOut 73 = .ok (.iload_n 2, 1) := by decide +kernel
theorem dX12_comesOut_74 : decode cX12_comesOut 74 = .ok (.bipush 10, 2) := by decide +kernel
theorem dX12_comesOut_76 : decode cX12_comesOut 76 = .ok (.if_icmp .ne 7, 3) := by decide +kernel
theorem dX12_comesOut_79 : decode cX12_comesOut 79 = .ok (.iconst 4, 1) := by decide +kernel
theorem dX12_comesOut_80 : decode cX12_comesOut 80 = .ok (.goto 4, 3) := by decide +kernel
theorem dX12_comesOut_83 : decode cX12_comesOut 83 = .ok (.iconst 5, 1) := by decide +kernel
theorem dX12_comesOut_84 : decode cX12_comesOut 84 = .ok (.iconst 0, 1) := by decide +kernel
theorem dX12_comesOut_85 : decode cX12_comesOut 85 = .ok (.invokevirtual 312, 3) := by decide +kernel
theorem dX12_comesOut_88 : decode cX12_comesOut 88 = .ok (.goto (-88), 3) := by decide +kernel
theorem dX12_comesOut_91 : decode cX12_comesOut 91 = .ok (.return_, 1) := by decide +kernel
theorem dX12_expression_0 : decode cX12_expression 0 = .ok (.aload_n 0, 1) := by decide +kernel
theorem dX12_expression_1 : decode cX12_expression 1 = .ok (.iconst 0, 1) := by decide +kernel
theorem dX12_expression_2 : decode cX12_expression 2 = .ok (.putfield 309, 3) := by decide +kernel
theorem dX12_expression_5 : decode cX12_expression 5 = .ok (.aload_n 0, 1) := by decide +kernel
theorem dX12_expression_6 : decode cX12_expression 6 = .ok (.getfield 242, 3) := by decide +kernel
theorem dX12_expression_9 : decode cX12_expression 9 = .ok (.istore_n 1, 1) := by decide +kernel
theorem dX12_expression_10 : decode cX12_expression 10 = .ok (.iconst 1, 1) := by decide +kernel
theorem dX12_expression_11 : decode cX12_expression 11 = .ok (.istore_n 2, 1) := by decide +kernel
theorem dX12_expression_12 : decode cX12_expression 12 = .ok (.iload_n 2, 1) := by decide +kernel
theorem dX12_expression_13 : decode cX12_expression 13 = .ok (.ifCond .eq 259, 3) := by decide +kernel
theorem dX12_expression_16 : decode cX12_expression 16 = .ok (.aload_n 0, 1) := by decide +kernel
theorem dX12_expression_17 : decode cX12_expression 17 = .ok (.getfield 215, 3) := by decide +kernel
theorem dX12_expression_20 : decode cX12_expression 20 = .ok (.ifCond .ne 252, 3) := by decide +kernel
theorem dX12_expression_23 : decode cX12_expression 23 = .ok (.aload_n 0, 1) := by decide +kernel
theorem dX12_expression_24 : decode cX12_expression 24 = .ok (.bipush 6, 2) := by decide +kernel
theorem dX12_expression_26 : decode cX12_expression 26 = .ok (.invokevirtual 233, 3) := by decide +kernel
theorem dX12_expression_29 : decode cX12_expression 29 = .ok (.ifCond .eq 55, 3) := by decide +kernel
theorem dX12_expression_32 : decode cX12_expression 32 = .ok (.aload_n 0, 1) := by decide +kernel
theorem dX12_expression_33 : decode cX12_expression 33 = .ok (.getfield 242, 3) := by decide +kernel
theorem dX12_expression_36 : decode cX12_expression 36 = .ok (.bipush 6, 2) := by decide +kernel
theorem dX12_expression_38 : decode cX12_expression 38 = .ok (.if_icmp .ne 8, 3) := by decide +kernel
theorem dX12_expression_41 : decode cX12_expression 41 = .ok (.aload_n 0, 1) := by decide +kernel
theorem dX12_expression_42 : decode cX12_expression 42 = .ok (.iconst 2, 1) := by decide +kernel
theorem dX12_expression_43 : decode cX12_expression 43 = .ok (.invokevirtual 230, 3) := by decide +kernel
theorem dX12_expression_46 : decode cX12_expression 46 = .ok (.aload_n 0, 1) := by decide +kernel
theorem dX12_expression_47 : decode cX12_expression 47 = .ok (.dup, 1) := by decide +kernel
theorem dX12_expression_48 : decode cX12_expression 48 = .ok (.getfield 242, 3) := by decide +kernel
theorem dX12_expression_51 : decode cX12_expression 51 = .ok (.iconst 1, 1) := by decide +kernel
theorem dX12_expression_52 : decode cX12_expression 52 = .ok (.iadd, 1) := by decide +kernel
theorem dX12_expression_53 : decode cX12_expression 53 = .ok (.putfield 242, 3) := by decide +kernel
theorem dX12_expression_56 : decode cX12_expression 56 = .ok (.aload_n 0, 1) := by decide +kernel
theorem dX12_expression_57 : decode cX12_expression 57 = .ok (.invokevirtual 236, 3) := by decide +kernel
theorem dX12_expression_60 : decode cX12_expression 60 = .ok (.aload_n 0, 1) := by decide +kernel
theorem dX12_expression_61 : decode cX12_expression 61 = .ok (.getfield 116, 3) := by decide +kernel
theorem dX12_expression_64 : decode cX12_expression 64 = .ok (.aload_n 0, 1) := by decide +kernel
theorem dX12_expression_65 : decode cX12_expression 65 = .ok (.getfield 309, 3) := by decide +kernel
theorem dX12_expression_68 : decode cX12_expression 68 = .ok (.bipush 6, 2) := by decide +kernel
theorem dX12_expression_70 : decode cX12_expression 70 = .ok (.iastore, 1) := by decide +kernel
theorem dX12_expression_71 : decode cX12_expression 71 = .ok (.aload_n 0, 1) := by decide +kernel
theorem dX12_expression_72 : decode cX12_expression 72 = .ok (.dup, 1) := by decide +kernel
theorem dX12_expression_73 : decode cX12_expression 73 = .ok (.getfield 309, 3) := by decide +kernel
theorem dX12_expression_76 : decode cX12_expression 76 = .ok (.iconst 1, 1) := by decide +kernel
theorem dX12_expression_77 : decode cX12_expression 77 = .ok (.iadd, 1) := by decide +kernel
theorem dX12_expression_78 : decode cX12_expression 78 = .ok (.putfield 309, 3) := by decide +kernel
theorem dX12_expression_81 : decode cX12_expression 81 = .ok (.goto (-58), 3) := by decide +kernel
theorem dX12_expression_84 : decode cX12_expression 84 = .ok (.aload_n 0, 1) := by decide +kernel
theorem dX12_expression_85 : decode cX12_expression 85 = .ok (.invokevirtual 315, 3) := by decide +kernel
theorem dX12_expression_88 : decode cX12_expression 88 = .ok (.aload_n 0, 1) := by decide +kernel
theorem dX12_expression_89 : decode cX12_expression 89 = .ok (.getfield 215, 3) := by decide +kernel
theorem dX12_expression_92 : decode cX12_expression 92 = .ok (.ifCond .le 4, 3) := by decide +kernel
theorem dX12_expression_95 : decode cX12_expression 95 = .ok (.return_, 1) := by decide +kernel
theorem dX12_expression_96 : decode cX12_expression 96 = .ok (.aload_n 0, 1) := by decide +kernel
theorem dX12_expression_97 : decode cX12_expression 97 = .ok (.bipush 7, 2) := by decide +kernel
theorem dX12_expression_99 : decode cX12_expression 99 = .ok (.invokevirtual 233, 3) := by decide +kernel
theorem dX12_expression_102 : decode cX12_expression 102 = .ok (.ifCond .eq 43, 3) := by decide +kernel
theorem dX12_expression_105 : decode cX12_expression 105 = .ok (.aload_n 0, 1) := by decide +kernel
theorem dX12_expression_106 : decode cX12_expression 106 = .ok (.getfield 242, 3) := by decide +kernel
theorem dX12_expression_109 : decode cX12_expression 109 = .ok (.iload_n 1, 1) := by decide +kernel
theorem dX12_expression_110 : decode cX12_expression 110 = .ok (.if_icmp .le 35, 3) := by decide +kernel
theorem dX12_expression_113 : decode cX12_expression 113 = .ok (.aload_n 0, 1) := by decide +kernel
theorem dX12_expression_114 : decode cX12_expression 114 = .ok (.iconst 0, 1) := by decide +kernel
theorem dX12_expression_115 : decode cX12_expression 115 = .ok (.invokevirtual 318, 3) := by decide +kernel
theorem dX12_expression_118 : decode cX12_expression 118 = .ok (.aload_n 0, 1) := by decide +kernel
theorem dX12_expression_119 : decode cX12_expression 119 = .ok (.dup, 1) := by decide +kernel
theorem dX12_expression_120 : decode cX12_expression 120 = .ok (.getfield 309, 3) := by decide +kernel
theorem dX12_expression_123 : decode cX12_expression 123 = .ok (.iconst 1, 1) := by decide +kernel
theorem dX12_expression_124 : decode cX12_expression 124 = .ok (.isub, 1) := by decide +kernel
theorem dX12_expression_125 : decode cX12_expression 125 = .ok (.putfield 309, 3) := by decide +kernel
theorem dX12_expression_128 : decode cX12_expression 128 = .ok (.aload_n 0, 1) := by decide +kernel
theorem dX12_expression_129 : decode cX12_expression 129 = .ok (.dup, 1) := by decide +kernel
theorem dX12_expression_130 : decode cX12_expression 130 = .ok (.getfield 242, 3) := by decide +kernel
theorem dX12_expression_133 : decode cX12_expression 133 = .ok (.iconst 1, 1) := by decide +kernel
theorem dX12_expression_134 : decode cX12_expression 134 = .ok (.isub, 1) := by decide +kernel
theorem dX12_expression_135 : decode cX12_expression 135 = .ok (.putfield 242, 3) := by decide +kernel
theorem dX12_expression_138 : decode cX12_expression 138 = .ok (.aload_n 0, 1) := by decide +kernel
theorem dX12_expression_139 : decode cX12_expression 139 = .ok (.invokevirtual 236, 3) := by decide +kernel
theorem dX12_expression_142 : decode cX12_expression 142 = .ok (.goto (-46), 3) := by decide +kernel
theorem dX12_expression_145 : decode cX12_expression 145 = .ok (.aload_n 0, 1) := by decide +kernel
theorem dX12_expression_146 : decode cX12_expression 146 = .ok (.bipush 8, 2) := by decide +kernel
theorem dX12_expression_148 : decode cX12_expression 148 = .ok (.invokevirtual 233, 3) := by decide +kernel
theorem dX12_expression_151 : decode cX12_expression 151 = .ok (.ifCond .ne 30, 3) := by decide +kernel
theorem dX12_expression_154 : decode cX12_expression 154 = .ok (.aload_n 0, 1) := by decide +kernel
theorem dX12_expression_155 : decode cX12_expression 155 = .ok (.bipush 9, 2) := by decide +kernel
theorem dX12_expression_157 : decode cX12_expression 157 = .ok (.invokevirtual 233, 3) := by decide +kernel
theorem dX12_expression_160 : decode cX12_expression 160 = .ok (.ifCond .ne 21, 3) := by decide +kernel
theorem dX12_expression_163 : decode cX12_expression 163 = .ok (.aload_n 0, 1) := by decide +kernel
theorem dX12_expression_164 : decode cX12_expression 164 = .ok (.bipush 10, 2) := by decide +kernel
theorem dX12_expression_166 : decode cX12_expression 166 = .ok (.invokevirtual 233, 3) := by decide +kernel
theorem dX12_expression_169 : decode cX12_expression 169 = .ok (.ifCond .ne 12, 3) := by decide +kernel
theorem dX12_expression_172 : decode cX12_expression 172 = .ok (.aload_n 0, 1) := by decide +kernel
theorem dX12_expression_173 : decode cX12_expression 173 = .ok (.bipush 15, 2) := by decide +kernel
theorem dX12_expression_175 : decode cX12_expression 175 = .ok (.invokevirtual 233, 3) := by decide +kernel
theorem dX12_expression_178 : decode cX12_expression 178 = .ok (.ifCond .eq 7, 3) := by decide +kernel
theorem dX12_expression_181 : decode cX12_expression 181 = .ok (.iconst 1, 1) := by decide +kernel
theorem dX12_expression_182 : decode cX12_expression 182 = .ok (.goto 4, 3) := by decide +kernel
theorem dX12_expression_185 : decode cX12_expression 185 = .ok (.iconst 0, 1) := by decide +kernel
theorem dX12_expression_186 : decode cX12_expression 186 = .ok (.istore_n 2, 1) := by decide +kernel
theorem dX12_expression_187 : decode cX12_expression 187 = .ok (.iload_n 2, 1) := by decide +kernel
theorem dX12_expression_188 : decode cX12_expression 188 = .ok (.ifCond .ne 22, 3) := by decide +kernel
theorem dX12_expression_191 : decode cX12_expression 191 = .ok (.aload_n 0, 1) := by decide +kernel
theorem dX12_expression_192 : decode cX12_expression 192 = .ok (.getfield 242, 3) := by decide +kernel
theorem dX12_expression_195 : decode cX12_expression 195 = .ok (.iload_n 1, 1) := by decide +kernel
theorem dX12_expression_196 : decode cX12_expression 196 = .ok (.if_icmp .le 8, 3) := by decide +kernel
theorem dX12_expression_199 : decode cX12_expression 199 = .ok (.aload_n 0, 1) := by decide +kernel
theorem dX12_expression_200 : decode cX12_expression 200 = .ok (.iconst 1, 1) := by decide +kernel
theorem dX12_expression_201 : decode cX12_expression 201 = .ok (.invokevirtual 230, 3) := by decide +kernel
theorem dX12_expression_204 : decode cX12_expression 204 = .ok (.aload_n 0, 1) := by decide +kernel
theorem dX12_expression_205 : decode cX12_expression 205 = .ok (.iconst 0, 1) := by decide +kernel
theorem dX12_expression_206 : decode cX12_expression 206 = .ok (.invokevirtual 318, 3) := by decide +kernel
theorem dX12_expression_209 : decode cX12_expression 209 = .ok (.return_, 1) := by decide +kernel
theorem dX12_expression_210 : decode cX12_expression 210 = .ok (.aload_n 0, 1) := by decide +kernel
theorem dX12_expression_211 : decode cX12_expression 211 = .ok (.aload_n 0, 1) := by decide +kernel
theorem dX12_expression_212 : decode cX12_expression 212 = .ok (.bipush 10, 2) := by decide +kernel
theorem dX12_expression_214 : decode cX12_expression 214 = .ok (.invokevirtual 233, 3) := by decide +kernel
theorem dX12_expression_217 : decode cX12_expression 217 = .ok (.ifCond .ne 12, 3) := by decide +kernel
theorem dX12_expression_220 : decode cX12_expression 220 = .ok (.aload_n 0, 1) := by decide +kernel
theorem dX12_expression_221 : decode cX12_expression 221 = .ok (.bipush 15, 2) := by decide +kernel
theorem dX12_expression_223 : decode cX12_expression 223 = .ok (.invokevirtual 233, 3) := by decide +kernel
theorem dX12_expression_226 : decode cX12_expression 226 = .ok (.ifCond .eq 7, 3) := by decide +kernel
theorem dX12_expression_229 : decode cX12_expression 229 = .ok (.iconst 1, 1) := by decide +kernel
theorem dX12_expression_230 : decode cX12_expression 230 = .ok (.goto 4, 3) := by decide +kernel
theorem dX12_expression_233 : decode cX12_expression 233 = .ok (.iconst 0, 1) := by decide +kernel
theorem dX12_expression_234 : decode cX12_expression 234 = .ok (.invokevirtual 318, 3) := by decide +kernel
theorem dX12_expression_237 : decode cX12_expression 237 = .ok (.aload_n 0, 1) := by decide +kernel
theorem dX12_expression_238 : decode cX12_expression 238 = .ok (.getfield 116, 3) := by decide +kernel
theorem dX12_expression_241 : decode cX12_expression 241 = .ok (.aload_n 0, 1) := by decide +kernel
theorem dX12_expression_242 : decode cX12_expression 242 = .ok (.getfield 309, 3) := by decide +kernel
theorem dX12_expression_245 : decode cX12_expression 245 = .ok (.aload_n 0, 1) := by decide +kernel
theorem dX12_expression_246 : decode cX12_expression 246 = .ok (.getfield 20, 3) := by decide +kernel
theorem dX12_expression_249 : decode cX12_expression 249 = .ok (.aload_n 0, 1) := by decide +kernel
theorem dX12_expression_250 : decode cX12_expression 250 = .ok (.getfield 218, 3) := by decide +kernel
theorem dX12_expression_253 : decode cX12_expression 253 = .ok (.iaload, 1) := by decide +kernel
theorem dX12_expression_254 : decode cX12_expression 254 = .ok (.iastore, 1) := by decide +kernel
theorem dX12_expression_255 : decode cX12_expression 255 = .ok (.aload_n 0, 1) := by decide +kernel
theorem dX12_expression_256 : decode cX12_expression 256 = .ok (.dup, 1) := by decide +kernel
theorem dX12_expression_257 : decode cX12_expression 257 = .ok (.getfield 309, 3) := by decide +kernel
theorem dX12_expression_260 : decode cX12_expression 260 = .ok (.iconst 1, 1) := by decide +kernel
theorem dX12_expression_261 : decode cX12_expression 261 = .ok (.iadd, 1) := by decide +kernel
theorem dX12_expression_262 : decode cX12_expression 262 = .ok (.putfield 309, 3) := by decide +kernel
theorem dX12_expression_265 : decode cX12_expression 265 = .ok (.aload_n 0, 1) := by decide +kernel
theorem dX12_expression_266 : decode cX12_expression 266 = .ok (.invokevirtual 236, 3) := by decide +kernel
theorem dX12_expression_269 : decode cX12_expression 269 = .ok (.goto (-257), 3) := by decide +kernel
theorem dX12_expression_272 : decode cX12_expression 272 = .ok (.return_, 1) := by decide +kernel
theorem dX12_unit_0 : decode cX12_unit 0 = .ok (.aload_n 0, 1) := by decide +kernel
theorem dX12_unit_1 : decode cX12_unit 1 = .ok (.iconst 2, 1) := by decide +kernel
theorem dX12_unit_2 : decode cX12_unit 2 = .ok (.invokevirtual 233, 3) := by decide +kernel
theorem dX12_unit_5 : decode cX12_unit 5 = .ok (.ifCond .eq 24, 3) := by decide +kernel
theorem dX12_unit_8 : decode cX12_unit 8 = .ok (.aload_n 0, 1) := by decide +kernel
theorem dX12_unit_9 : decode cX12_unit 9 = .ok (.iconst 0, 1) := by decide +kernel
theorem dX12_unit_10 : decode cX12_unit 10 = .ok (.aload_n 0, 1) := by decide +kernel
theorem dX12_unit_11 : decode cX12_unit 11 = .ok (.getfield 27, 3) := by decide +kernel
theorem dX12_unit_14 : decode cX12_unit 14 = .ok (.aload_n 0, 1) := by decide +kernel
theorem dX12_unit_15 : decode cX12_unit 15 = .ok (.getfield 218, 3) := by decide +kernel
theorem dX12_unit_18 : decode cX12_unit 18 = .ok (.iaload, 1) := by decide +kernel
theorem dX12_unit_19 : decode cX12_unit 19 = .ok (.invokevirtual 312, 3) := by decide +kernel
theorem dX12_unit_22 : decode cX12_unit 22 = .ok (.aload_n 0, 1) := by decide +kernel
theorem dX12_unit_23 : decode cX12_unit 23 = .ok (.invokevirtual 236, 3) := by decide +kernel
theorem dX12_unit_26 : decode cX12_unit 26 = .ok (.goto 67, 3) := by decide +kernel
theorem dX12_unit_29 : decode cX12_unit 29 = .ok (.aload_n 0, 1) := by decide +kernel
theorem dX12_unit_30 : decode cX12_unit 30 = .ok (.getfield 215, 3) := by decide +kernel
theorem dX12_unit_33 : decode cX12_unit 33 = .ok (.ifCond .ne 55, 3) := by decide +kernel
theorem dX12_unit_36 : decode cX12_unit 36 = .ok (.aload_n 0, 1) := by decide +kernel
theorem dX12_unit_37 : decode cX12_unit 37 = .ok (.getfield 20, 3) := by decide +kernel
theorem dX12_unit_40 : decode cX12_unit 40 = .ok (.aload_n 0, 1) := by decide +kernel
theorem dX12_unit_41 : decode cX12_unit 41 = .ok (.getfield 218, 3) := by decide +kernel
theorem dX12_unit_44 : decode cX12_unit 44 = .ok (.iaload, 1) := by decide +kernel
theorem dX12_unit_45 : decode cX12_unit 45 = .ok (.bipush 33, 2) := by decide +kernel
theorem dX12_unit_47 : decode cX12_unit 47 = .ok (.if_icmp .lt 41, 3) := by decide +kernel
theorem dX12_unit_50 : decode cX12_unit 50 = .ok (.aload_n 0, 1) := by decide +kernel
theorem dX12_unit_51 : decode cX12_unit 51 = .ok (.getfield 20, 3) := by decide +kernel
theorem dX12_unit_54 : decode cX12_unit 54 = .ok (.aload_n 0, 1) := by decide +kernel
theorem dX12_unit_55 : decode cX12_unit 55 = .ok (.getfield 218, 3) := by decide +kernel
theorem dX12_unit_58 : decode cX12_unit 58 = .ok (.iaload, 1) := by decide +kernel
theorem dX12_unit_59 : decode cX12_unit 59 = .ok (.bipush 41, 2) := by decide +kernel
theorem dX12_unit_61 : decode cX12_unit 61 = .ok (.if_icmp .gt 27, 3) := by decide +kernel
theorem dX12_unit_64 : decode cX12_unit 64 = .ok (.aload_n 0, 1) := by decide +kernel
theorem dX12_unit_65 : decode cX12_unit 65 = .ok (.iconst 1, 1) := by decide +kernel
theorem dX12_unit_66 : decode cX12_unit 66 = .ok (.aload_n 0, 1) := by decide +kernel
theorem dX12_unit_67 : decode cX12_unit 67 = .ok (.getfield 20, 3) := by decide +kernel
theorem dX12_unit_70 : decode cX12_unit 70 = .ok (.aload_n 0, 1) := by decide +kernel
theorem dX12_unit_71 : decode cX12_unit 71 = .ok (.getfield 218, 3) := by decide +kernel
theorem dX12_unit_74 : decode cX12_unit 74 = .ok (.iaload, 1) := by decide +kernel
theorem dX12_unit_75 : decode cX12_unit 75 = .ok (.bipush 33, 2) := by decide +kernel
theorem dX12_unit_77 : decode cX12_unit 77 = .ok (.isub, 1) := by decide +kernel
theorem dX12_unit_78 : decode cX12_unit 78 = .ok (.invokevirtual 312, 3) := by decide +kernel
theorem dX12_unit_81 : decode cX12_unit 81 = .ok (.aload_n 0, 1) := by decide +kernel
theorem dX12_unit_82 : decode cX12_unit 82 = .ok (.invokevirtual 236, 3) := by decide +kernel
theorem dX12_unit_85 : decode cX12_unit 85 = .ok (.goto 8, 3) := by decide +kernel
theorem dX12_unit_88 : decode cX12_unit 88 = .ok (.aload_n 0, 1) := by decide +kernel
theorem dX12_unit_89 : decode cX12_unit 89 = .ok (.iconst 1, 1) := by decide +kernel
theorem dX12_unit_90 : decode cX12_unit 90 = .ok (.invokevirtual 230, 3) := by decide +kernel
theorem dX12_unit_93 : decode cX12_unit 93 = .ok (.return_, 1) := by decide +kernel
theorem dX12_termOf_0 : decode cX12_termOf 0 = .ok (.iconst 0, 1) := by decide +kernel
theorem dX12_termOf_1 : decode cX12_termOf 1 = .ok (.istore_n 3, 1) := by decide +kernel
theorem dX12_termOf_2 : decode cX12_termOf 2 = .ok (.iload_n 1, 1) := by decide +kernel
theorem dX12_termOf_3 : decode cX12_termOf 3 = .ok (.istore 4, 2) := by decide +kernel
theorem dX12_termOf_5 : decode cX12_termOf 5 = .ok (.iload 4, 2) := by decide +kernel
theorem dX12_termOf_7 : decode cX12_termOf 7 = .ok (.iload_n 2, 1) := by decide +kernel
theorem dX12_termOf_8 : decode cX12_termOf 8 = .ok (.if_icmp .ge 157, 3) := by decide +kernel
theorem dX12_termOf_11 : decode cX12_termOf 11 = .ok (.aload_n 0, 1) := by decide +kernel
theorem dX12_termOf_12 : decode cX12_termOf 12 = .ok (.getfield 110, 3) := by decide +kernel
theorem dX12_termOf_15 : decode cX12_termOf 15 = .ok (.iload 4, 2) := by decide +kernel
theorem dX12_termOf_17 : decode cX12_termOf 17 = .ok (.iaload, 1) := by decide +kernel
theorem dX12_termOf_18 : decode cX12_termOf 18 = .ok (.istore 5, 2) := by decide +kernel
theorem dX12_termOf_20 : decode cX12_termOf 20 = .ok (.iload 5, 2) := by decide +kernel
theorem dX12_termOf_22 : decode cX12_termOf 22 = .ok (.iconst 2, 1) := by decide +kernel
theorem dX12_termOf_23 : decode cX12_termOf 23 = .ok (.if_icmp .ge 42, 3) := by decide +kernel
theorem dX12_termOf_26 : decode cX12_termOf 26 = .ok (.aload_n 0, 1) := by decide +kernel
theorem dX12_termOf_27 : decode cX12_termOf 27 = .ok (.getfield 122, 3) := by decide +kernel
theorem dX12_termOf_30 : decode cX12_termOf 30 = .ok (.iload_n 3, 1) := by decide +kernel
theorem dX12_termOf_31 : decode cX12_termOf 31 = .ok (.iload 5, 2) := by decide +kernel
theorem dX12_termOf_33 : decode cX12_termOf 33 = .ok (.ifCond .ne 13, 3) := by decide +kernel
theorem dX12_termOf_36 : decode cX12_termOf 36 = .ok (.aload_n 0, 1) := by decide +kernel
theorem dX12_termOf_37 : decode cX12_termOf 37 = .ok (.getfield 113, 3) := by decide +kernel
theorem dX12_termOf_40 : decode cX12_termOf 40 = .ok (.iload 4, 2) := by decide +kernel
theorem dX12_termOf_42 : decode cX12_termOf 42 = .ok (.iaload, 1) := by decide +kernel
theorem dX12_termOf_43 : decode cX12_termOf 43 = .ok (.goto 15, 3) := by decide +kernel
theorem dX12_termOf_46 : decode cX12_termOf 46 = .ok (.aload_n 0, 1) := by decide +kernel
theorem dX12_termOf_47 : decode cX12_termOf 47 = .ok (.getfield 119, 3) := by decide +kernel
theorem dX12_termOf_50 : decode cX12_termOf 50 = .ok (.aload_n 0, 1) := by decide +kernel
theorem dX12_termOf_51 : decode cX12_termOf 51 = .ok (.getfield 113, 3) := by decide +kernel
theorem dX12_termOf_54 : decode cX12_termOf 54 = .ok (.iload 4, 2) := by decide +kernel
theorem dX12_termOf_56 : decode cX12_termOf 56 = .ok (.iaload, 1) := by decide +kernel
theorem dX12_termOf_57 : decode cX12_termOf 57 = .ok (.iaload, 1) := by decide +kernel
theorem dX12_termOf_58 : decode cX12_termOf 58 = .ok (.iastore, 1) := by decide +kernel
theorem dX12_termOf_59 : decode cX12_termOf 59 = .ok (.iinc 3 1, 3) := by decide +kernel
theorem dX12_termOf_62 : decode cX12_termOf 62 = .ok (.goto 97, 3) := by decide +kernel
theorem dX12_termOf_65 : decode cX12_termOf 65 = .ok (.iinc 3 (-1), 3) := by decide +kernel
theorem dX12_termOf_68 : decode cX12_termOf 68 = .ok (.aload_n 0, 1) := by decide +kernel
theorem dX12_termOf_69 : decode cX12_termOf 69 = .ok (.getfield 122, 3) := by decide +kernel
theorem dX12_termOf_72 : decode cX12_termOf 72 = .ok (.iload_n 3, 1) := by decide +kernel
theorem dX12_termOf_73 : decode cX12_termOf 73 = .ok (.iconst 1, 1) := by decide +kernel
theorem dX12_termOf_74 : decode cX12_termOf 74 = .ok (.isub, 1) := by decide +kernel
theorem dX12_termOf_75 : decode cX12_termOf 75 = .ok (.iaload, 1) := by decide +kernel
theorem dX12_termOf_76 : decode cX12_termOf 76 = .ok (.istore 6, 2) := by decide +kernel
theorem dX12_termOf_78 : decode cX12_termOf 78 = .ok (.aload_n 0, 1) := by decide +kernel
theorem dX12_termOf_79 : decode cX12_termOf 79 = .ok (.getfield 122, 3) := by decide +kernel
theorem dX12_termOf_82 : decode cX12_termOf 82 = .ok (.iload_n 3, 1) := by decide +kernel
theorem dX12_termOf_83 : decode cX12_termOf 83 = .ok (.iaload, 1) := by decide +kernel
theorem dX12_termOf_84 : decode cX12_termOf 84 = .ok (.istore 7, 2) := by decide +kernel
theorem dX12_termOf_86 : decode cX12_termOf 86 = .ok (.iload 5, 2) := by decide +kernel
theorem dX12_termOf_88 : decode cX12_termOf 88 = .ok (.iconst 5, 1) := by decide +kernel
theorem dX12_termOf_89 : decode cX12_termOf 89 = .ok (.if_icmp .ne 15, 3) := by decide +kernel
theorem dX12_termOf_92 : decode cX12_termOf 92 = .ok (.iload 7, 2) := by decide +kernel
theorem dX12_termOf_94 : decode cX12_termOf 94 = .ok (.ifCond .ne 10, 3) := by decide +kernel
theorem dX12_termOf_97 : decode cX12_termOf 97 = .ok (.aload_n 0, 1) := by decide +kernel
theorem dX12_termOf_98 : decode cX12_termOf 98 = .ok (.iconst 1, 1) := by decide +kernel
theorem dX12_termOf_99 : decode cX12_termOf 99 = .ok (.putfield 322, 3) := by decide +kernel
theorem dX12_termOf_102 : decode cX12_termOf 102 = .ok (.iconst 0, 1) := by decide +kernel
theorem dX12_termOf_103 : decode cX12_termOf 103 = .ok (.ireturn, 1) := by decide +kernel
theorem dX12_termOf_104 : decode cX12_termOf 104 = .ok (.aload_n 0, 1) := by decide +kernel
theorem dX12_termOf_105 : decode cX12_termOf 105 = .ok (.getfield 122, 3) := by decide +kernel
theorem dX12_termOf_108 : decode cX12_termOf 108 = .ok (.iload_n 3, 1) := by decide +kernel
theorem dX12_termOf_109 : decode cX12_termOf 109 = .ok (.iconst 1, 1) := by decide +kernel
theorem dX12_termOf_110 : decode cX12_termOf 110 = .ok (.isub, 1) := by decide +kernel
theorem dX12_termOf_111 : decode cX12_termOf 111 = .ok (.iload 5, 2) := by decide +kernel
theorem dX12_termOf_113 : decode cX12_termOf 113 = .ok (.iconst 2, 1) := by decide +kernel
theorem dX12_termOf_114 : decode cX12_termOf 114 = .ok (.if_icmp .ne 11, 3) := by decide +kernel
theorem dX12_termOf_117 : decode cX12_termOf 117 = .ok (.iload 6, 2) := by decide +kernel
theorem dX12_termOf_119 : decode cX12_termOf 119 = .ok (.iload 7, 2) := by decide +kernel
theorem dX12_termOf_121 : decode cX12_termOf 121 = .ok (.iadd, 1) := by decide +kernel
theorem dX12_termOf_122 : decode cX12_termOf 122 = .ok (.goto 36, 3) := by decide +kernel
theorem dX12_termOf_125 : decode cX12_termOf 125 = .ok (.iload 5, 2) := by decide +kernel
theorem dX12_termOf_127 : decode cX12_termOf 127 = .ok (.iconst 3, 1) := by decide +kernel
theorem dX12_termOf_128 : decode cX12_termOf 128 = .ok (.if_icmp .ne 11, 3) := by decide +kernel
theorem dX12_termOf_131 : decode cX12_termOf 131 = .ok (.iload 6, 2) := by decide +kernel
theorem dX12_termOf_133 : decode cX12_termOf 133 = .ok (.iload 7, 2) := by decide +kernel
theorem dX12_termOf_135 : decode cX12_termOf 135 = .ok (.isub, 1) := by decide +kernel
theorem dX12_termOf_136 : decode cX12_termOf 136 = .ok (.goto 22, 3) := by decide +kernel
theorem dX12_termOf_139 : decode cX12_termOf 139 = .ok (.iload 5, 2) := by decide +kernel
theorem dX12_termOf_141 : decode cX12_termOf 141 = .ok (.iconst 4, 1) := by decide +kernel
theorem dX12_termOf_142 : decode cX12_termOf 142 = .ok (.if_icmp .ne 11, 3) := by decide +kernel
theorem dX12_termOf_145 : decode cX12_termOf 145 = .ok (.iload 6, 2) := by decide +kernel
theorem dX12_termOf_147 : decode cX12_termOf 147 = .ok (.iload 7, 2) := by decide +kernel
theorem dX12_termOf_149 : decode cX12_termOf 149 = .ok (.imul, 1) := by decide +kernel
theorem dX12_termOf_150 : decode cX12_termOf 150 = .ok (.goto 8, 3) := by decide +kernel
theorem dX12_termOf_153 : decode cX12_termOf 153 = .ok (.iload 6, 2) := by decide +kernel
theorem dX12_termOf_155 : decode cX12_termOf 155 = .ok (.iload 7, 2) := by decide +kernel
theorem dX12_termOf_157 : decode cX12_termOf 157 = .ok (.idiv, 1) := by decide +kernel
theorem dX12_termOf_158 : decode cX12_termOf 158 = .ok (.iastore, 1) := by decide +kernel
theorem dX12_termOf_159 : decode cX12_termOf 159 = .ok (.iinc 4 1, 3) := by decide +kernel
theorem dX12_termOf_162 : decode cX12_termOf 162 = .ok (.goto (-157), 3) := by decide +kernel
theorem dX12_termOf_165 : decode cX12_termOf 165 = .ok (.aload_n 0, 1) := by decide +kernel
theorem dX12_termOf_166 : decode cX12_termOf 166 = .ok (.getfield 122, 3) := by decide +kernel
theorem dX12_termOf_169 : decode cX12_termOf 169 = .ok (.iconst 0, 1) := by decide +kernel
theorem dX12_termOf_170 : decode cX12_termOf 170 = .ok (.iaload, 1) := by decide +kernel
theorem dX12_termOf_171 : decode cX12_termOf 171 = .ok (.ireturn, 1) := by decide +kernel
theorem dX12_in_0 : decode cX12_in 0 = .ok (.iload_n 0, 1) := by decide +kernel
theorem dX12_in_1 : decode cX12_in 1 = .ok (.iload_n 1, 1) := by decide +kernel
theorem dX12_in_2 : decode cX12_in 2 = .ok (.if_icmp .lt 12, 3) := by decide +kernel
theorem dX12_in_5 : decode cX12_in 5 = .ok (.iload_n 0, 1) := by decide +kernel
theorem dX12_in_6 : decode cX12_in 6 = .ok (.iload_n 2, 1) := by decide +kernel
theorem dX12_in_7 : decode cX12_in 7 = .ok (.if_icmp .gt 7, 3) := by decide +kernel
theorem dX12_in_10 : decode cX12_in 10 = .ok (.iconst 1, 1) := by decide +kernel
theorem dX12_in_11 : decode cX12_in 11 = .ok (.goto 4, 3) := by decide +kernel
theorem dX12_in_14 : decode cX12_in 14 = .ok (.iconst 0, 1) := by decide +kernel
theorem dX12_in_15 : decode cX12_in 15 = .ok (.ireturn, 1) := by decide +kernel
theorem dX12_within_0 : decode cX12_within 0 = .ok (.iload_n 0, 1) := by decide +kernel
theorem dX12_within_1 : decode cX12_within 1 = .ok (.iload_n 1, 1) := by decide +kernel
theorem dX12_within_2 : decode cX12_within 2 = .ok (.if_icmp .ge 7, 3) := by decide +kernel
theorem dX12_within_5 : decode cX12_within 5 = .ok (.iload_n 1, 1) := by decide +kernel
theorem dX12_within_6 : decode cX12_within 6 = .ok (.goto 13, 3) := by decide +kernel
theorem dX12_within_9 : decode cX12_within 9 = .ok (.iload_n 0, 1) := by decide +kernel
theorem dX12_within_10 : decode cX12_within 10 = .ok (.iload_n 2, 1) := by decide +kernel
theorem dX12_within_11 : decode cX12_within 11 = .ok (.if_icmp .le 7, 3) := by decide +kernel
theorem dX12_within_14 : decode cX12_within 14 = .ok (.iload_n 2, 1) := by decide +kernel
theorem dX12_within_15 : decode cX12_within 15 = .ok (.goto 4, 3) := by decide +kernel
theorem dX12_within_18 : decode cX12_within 18 = .ok (.iload_n 0, 1) := by decide +kernel
theorem dX12_within_19 : decode cX12_within 19 = .ok (.ireturn, 1) := by decide +kernel
theorem dX12_bits_0 : decode cX12_bits 0 = .ok (.iconst 0, 1) := by decide +kernel
theorem dX12_bits_1 : decode cX12_bits 1 = .ok (.istore_n 1, 1) := by decide +kernel
theorem dX12_bits_2 : decode cX12_bits 2 = .ok (.iconst 0, 1) := by decide +kernel
theorem dX12_bits_3 : decode cX12_bits 3 = .ok (.istore_n 2, 1) := by decide +kernel
theorem dX12_bits_4 : decode cX12_bits 4 = .ok (.iload_n 2, 1) := by decide +kernel
theorem dX12_bits_5 : decode cX12_bits 5 = .ok (.bipush 25, 2) := by decide +kernel
theorem dX12_bits_7 : decode cX12_bits 7 = .ok (.if_icmp .ge 17, 3) := by decide +kernel
theorem dX12_bits_10 : decode cX12_bits 10 = .ok (.iload_n 1, 1) := by decide +kernel
theorem dX12_bits_11 : decode cX12_bits 11 = .ok (.iload_n 0, 1) := by decide +kernel
theorem dX12_bits_12 : decode cX12_bits 12 = .ok (.iload_n 2, 1) := by decide +kernel
theorem dX12_bits_13 : decode cX12_bits 13 = .ok (.ishr, 1) := by decide +kernel
theorem dX12_bits_14 : decode cX12_bits 14 = .ok (.iconst 1, 1) := by decide +kernel
theorem dX12_bits_15 : decode cX12_bits 15 = .ok (.iand, 1) := by decide +kernel
theorem dX12_bits_16 : decode cX12_bits 16 = .ok (.iadd, 1) := by decide +kernel
theorem dX12_bits_17 : decode cX12_bits 17 = .ok (.istore_n 1, 1) := by decide +kernel
theorem dX12_bits_18 : decode cX12_bits 18 = .ok (.iinc 2 1, 3) := by decide +kernel
theorem dX12_bits_21 : decode cX12_bits 21 = .ok (.goto (-17), 3) := by decide +kernel
theorem dX12_bits_24 : decode cX12_bits 24 = .ok (.iload_n 1, 1) := by decide +kernel
theorem dX12_bits_25 : decode cX12_bits 25 = .ok (.ireturn, 1) := by decide +kernel
theorem dX12_off_0 : decode cX12_off 0 = .ok (.iload_n 0, 1) := by decide +kernel
theorem dX12_off_1 : decode cX12_off 1 = .ok (.iload_n 1, 1) := by decide +kernel
theorem dX12_off_2 : decode cX12_off 2 = .ok (.if_icmp .ge 9, 3) := by decide +kernel
theorem dX12_off_5 : decode cX12_off 5 = .ok (.iload_n 1, 1) := by decide +kernel
theorem dX12_off_6 : decode cX12_off 6 = .ok (.iload_n 0, 1) := by decide +kernel
theorem dX12_off_7 : decode cX12_off 7 = .ok (.isub, 1) := by decide +kernel
theorem dX12_off_8 : decode cX12_off 8 = .ok (.goto 6, 3) := by decide +kernel
theorem dX12_off_11 : decode cX12_off 11 = .ok (.iload_n 0, 1) := by decide +kernel
theorem dX12_off_12 : decode cX12_off 12 = .ok (.iload_n 1, 1) := by decide +kernel
theorem dX12_off_13 : decode cX12_off 13 = .ok (.isub, 1) := by decide +kernel
theorem dX12_off_14 : decode cX12_off 14 = .ok (.ireturn, 1) := by decide +kernel
theorem dX12_cells_0 : decode cX12_cells 0 = .ok (.aload_n 0, 1) := by decide +kernel
theorem dX12_cells_1 : decode cX12_cells 1 = .ok (.getfield 43, 3) := by decide +kernel
theorem dX12_cells_4 : decode cX12_cells 4 = .ok (.aload_n 0, 1) := by decide +kernel
theorem dX12_cells_5 : decode cX12_cells 5 = .ok (.getfield 245, 3) := by decide +kernel
theorem dX12_cells_8 : decode cX12_cells 8 = .ok (.iaload, 1) := by decide +kernel
theorem dX12_cells_9 : decode cX12_cells 9 = .ok (.aload_n 0, 1) := by decide +kernel
theorem dX12_cells_10 : decode cX12_cells 10 = .ok (.getfield 46, 3) := by decide +kernel
theorem dX12_cells_13 : decode cX12_cells 13 = .ok (.aload_n 0, 1) := by decide +kernel
theorem dX12_cells_14 : decode cX12_cells 14 = .ok (.getfield 245, 3) := by decide +kernel
theorem dX12_cells_17 : decode cX12_cells 17 = .ok (.iaload, 1) := by decide +kernel
theorem dX12_cells_18 : decode cX12_cells 18 = .ok (.imul, 1) := by decide +kernel
theorem dX12_cells_19 : decode cX12_cells 19 = .ok (.ireturn, 1) := by decide +kernel
theorem dX12_isCell_0 : decode cX12_isCell 0 = .ok (.iload_n 1, 1) := by decide +kernel
theorem dX12_isCell_1 : decode cX12_isCell 1 = .ok (.iconst 0, 1) := by decide +kernel
theorem dX12_isCell_2 : decode cX12_isCell 2 = .ok (.aload_n 0, 1) := by decide +kernel
theorem dX12_isCell_3 : decode cX12_isCell 3 = .ok (.invokevirtual 326, 3) := by decide +kernel
theorem dX12_isCell_6 : decode cX12_isCell 6 = .ok (.iconst 1, 1) := by decide +kernel
theorem dX12_isCell_7 : decode cX12_isCell 7 = .ok (.isub, 1) := by decide +kernel
theorem dX12_isCell_8 : decode cX12_isCell 8 = .ok (.invokestatic 330, 3) := by decide +kernel
theorem dX12_isCell_11 : decode cX12_isCell 11 = .ok (.ireturn, 1) := by decide +kernel
theorem dX12_isGoer_0 : decode cX12_isGoer 0 = .ok (.iload_n 1, 1) := by decide +kernel
theorem dX12_isGoer_1 : decode cX12_isGoer 1 = .ok (.iconst 0, 1) := by decide +kernel
theorem dX12_isGoer_2 : decode cX12_isGoer 2 = .ok (.aload_n 0, 1) := by decide +kernel
theorem dX12_isGoer_3 : decode cX12_isGoer 3 = .ok (.getfield 64, 3) := by decide +kernel
theorem dX12_isGoer_6 : decode cX12_isGoer 6 = .ok (.aload_n 0, 1) := by decide +kernel
theorem dX12_isGoer_7 : decode cX12_isGoer 7 = .ok (.getfield 245, 3) := by decide +kernel
theorem dX12_isGoer_10 : decode cX12_isGoer 10 = .ok (.iaload, 1) := by decide +kernel
theorem dX12_isGoer_11 : decode cX12_isGoer 11 = .ok (.iconst 1, 1) := by decide +kernel
theorem dX12_isGoer_12 : decode cX12_isGoer 12 = .ok (.isub, 1) := by decide +kernel
theorem dX12_isGoer_13 : decode cX12_isGoer 13 = .ok (.invokestatic 330, 3) := by decide +kernel
theorem dX12_isGoer_16 : decode cX12_isGoer 16 = .ok (.ireturn, 1) := by decide +kernel
theorem dX12_cellAt_0 : decode cX12_cellAt 0 = .ok (.aload_n 0, 1) := by decide +kernel
theorem dX12_cellAt_1 : decode cX12_cellAt 1 = .ok (.getfield 43, 3) := by decide +kernel
theorem dX12_cellAt_4 : decode cX12_cellAt 4 = .ok (.aload_n 0, 1) := by decide +kernel
theorem dX12_cellAt_5 : decode cX12_cellAt 5 = .ok (.getfield 245, 3) := by decide +kernel
theorem dX12_cellAt_8 : decode cX12_cellAt 8 = .ok (.iaload, 1) := by decide +kernel
theorem dX12_cellAt_9 : decode cX12_cellAt 9 = .ok (.iload_n 2, 1) := by decide +kernel
theorem dX12_cellAt_10 : decode cX12_cellAt 10 = .ok (.imul, 1) := by decide +kernel
theorem dX12_cellAt_11 : decode cX12_cellAt 11 = .ok (.iload_n 1, 1) := by decide +kernel
theorem dX12_cellAt_12 : decode cX12_cellAt 12 = .ok (.iadd, 1) := by decide +kernel
theorem dX12_cellAt_13 : decode cX12_cellAt 13 = .ok (.ireturn, 1) := by decide +kernel
theorem dX12_fillsSides_0 : decode cX12_fillsSides 0 = .ok (.aload_n 0, 1) := by decide +kernel
theorem dX12_fillsSides_1 : decode cX12_fillsSides 1 = .ok (.getfield 43, 3) := by decide +kernel
theorem dX12_fillsSides_4 : decode cX12_fillsSides 4 = .ok (.aload_n 0, 1) := by decide +kernel
theorem dX12_fillsSides_5 : decode cX12_fillsSides 5 = .ok (.getfield 245, 3) := by decide +kernel
theorem dX12_fillsSides_8 : decode cX12_fillsSides 8 = .ok (.iaload, 1) := by decide +kernel
theorem dX12_fillsSides_9 : decode cX12_fillsSides 9 = .ok (.istore_n 1, 1) := by decide +kernel
theorem dX12_fillsSides_10 : decode cX12_fillsSides 10 = .ok (.iconst 0, 1) := by decide +kernel
theorem dX12_fillsSides_11 : decode cX12_fillsSides 11 = .ok (.istore_n 2, 1) := by decide +kernel
theorem dX12_fillsSides_12 : decode cX12_fillsSides 12 = .ok (.iload_n 2, 1) := by decide +kernel
theorem dX12_fillsSides_13 : decode cX12_fillsSides 13 = .ok (.aload_n 0, 1) := by decide +kernel
theorem dX12_fillsSides_14 : decode cX12_fillsSides 14 = .ok (.invokevirtual 326, 3) := by decide +kernel
theorem dX12_fillsSides_17 : decode cX12_fillsSides 17 = .ok (.if_icmp .ge 115, 3) := by decide +kernel
theorem dX12_fillsSides_20 : decode cX12_fillsSides 20 = .ok (.iconst 0, 1) := by decide +kernel
theorem dX12_fillsSides_21 : decode cX12_fillsSides 21 = .ok (.istore_n 3, 1) := by decide +kernel
theorem dX12_fillsSides_22 : decode cX12_fillsSides 22 = .ok (.iload_n 3, 1) := by decide +kernel
theorem dX12_fillsSides_23 : decode cX12_fillsSides 23 = .ok (.iconst 5, 1) := by decide +kernel
theorem dX12_fillsSides_24 : decode cX12_fillsSides 24 = .ok (.if_icmp .ge 20, 3) := by decide +kernel
theorem dX12_fillsSides_27 : decode cX12_fillsSides 27 = .ok (.aload_n 0, 1) := by decide +kernel
theorem dX12_fillsSides_28 : decode cX12_fillsSides 28 = .ok (.getfield 131, 3) := by decide +kernel
theorem dX12_fillsSides_31 : decode cX12_fillsSides 31 = .ok (.iconst 5, 1) := by decide +kernel
theorem dX12_fillsSides_32 : decode cX12_fillsSides 32 = .ok (.iload_n 2, 1) := by decide +kernel
theorem dX12_fillsSides_33 : decode cX12_fillsSides 33 = .ok (.imul, 1) := by decide +kernel
theorem dX12_fillsSides_34 : decode cX12_fillsSides 34 = .ok (.iload_n 3, 1) := by decide +kernel
theorem dX12_fillsSides_35 : decode cX12_fillsSides 35 = .ok (.iadd, 1) := by decide +kernel
theorem dX12_fillsSides_36 : decode cX12_fillsSides 36 = .ok (.iload_n 2, 1) := by decide +kernel
theorem dX12_fillsSides_37 : decode cX12_fillsSides 37 = .ok (.iastore, 1) := by decide +kernel
theorem dX12_fillsSides_38 : decode cX12_fillsSides 38 = .ok (.iinc 3 1, 3) := by decide +kernel
theorem dX12_fillsSides_41 : decode cX12_fillsSides 41 = .ok (.goto (-19), 3) := by decide +kernel
theorem dX12_fillsSides_44 : decode cX12_fillsSides 44 = .ok (.iload_n 2, 1) := by decide +kernel
theorem dX12_fillsSides_45 : decode cX12_fillsSides 45 = .ok (.iload_n 1, 1) := by decide +kernel
theorem dX12_fillsSides_46 : decode cX12_fillsSides 46 = .ok (.irem, 1) := by decide +kernel
theorem dX12_fillsSides_47 : decode cX12_fillsSides 47 = .ok (.iload_n 1, 1) := by decide +kernel
theorem dX12_fillsSides_48 : decode cX12_fillsSides 48 = .ok (.iconst 1, 1) := by decide +kernel
theorem dX12_fillsSides_49 : decode cX12_fillsSides 49 = .ok (.isub, 1) := by decide +kernel
theorem dX12_fillsSides_50 : decode cX12_fillsSides 50 = .ok (.if_icmp .ge 16, 3) := by decide +kernel
theorem dX12_fillsSides_53 : decode cX12_fillsSides 53 = .ok (.aload_n 0, 1) := by decide +kernel
theorem dX12_fillsSides_54 : decode cX12_fillsSides 54 = .ok (.getfield 131, 3) := by decide +kernel
theorem dX12_fillsSides_57 : decode cX12_fillsSides 57 = .ok (.iconst 5, 1) := by decide +kernel
theorem dX12_fillsSides_58 : decode cX12_fillsSides 58 = .ok (.iload_n 2, 1) := by decide +kernel
theorem dX12_fillsSides_59 : decode cX12_fillsSides 59 = .ok (.imul, 1) := by decide +kernel
theorem dX12_fillsSides_60 : decode cX12_fillsSides 60 = .ok (.iconst 1, 1) := by decide +kernel
theorem dX12_fillsSides_61 : decode cX12_fillsSides 61 = .ok (.iadd, 1) := by decide +kernel
theorem dX12_fillsSides_62 : decode cX12_fillsSides 62 = .ok (.iload_n 2, 1) := by decide +kernel
theorem dX12_fillsSides_63 : decode cX12_fillsSides 63 = .ok (.iconst 1, 1) := by decide +kernel
theorem dX12_fillsSides_64 : decode cX12_fillsSides 64 = .ok (.iadd, 1) := by decide +kernel
theorem dX12_fillsSides_65 : decode cX12_fillsSides 65 = .ok (.iastore, 1) := by decide +kernel
theorem dX12_fillsSides_66 : decode cX12_fillsSides 66 = .ok (.iload_n 2, 1) := by decide +kernel
theorem dX12_fillsSides_67 : decode cX12_fillsSides 67 = .ok (.iload_n 1, 1) := by decide +kernel
theorem dX12_fillsSides_68 : decode cX12_fillsSides 68 = .ok (.iadd, 1) := by decide +kernel
theorem dX12_fillsSides_69 : decode cX12_fillsSides 69 = .ok (.aload_n 0, 1) := by decide +kernel
theorem dX12_fillsSides_70 : decode cX12_fillsSides 70 = .ok (.invokevirtual 326, 3) := by decide +kernel
theorem dX12_fillsSides_73 : decode cX12_fillsSides 73 = .ok (.if_icmp .ge 16, 3) := by decide +kernel
theorem dX12_fillsSides_76 : decode cX12_fillsSides 76 = .ok (.aload_n 0, 1) := by decide +kernel
theorem dX12_fillsSides_77 : decode cX12_fillsSides 77 = .ok (.getfield 131, 3) := by decide +kernel
theorem dX12_fillsSides_80 : decode cX12_fillsSides 80 = .ok (.iconst 5, 1) := by decide +kernel
theorem dX12_fillsSides_81 : decode cX12_fillsSides 81 = .ok (.iload_n 2, 1) := by decide +kernel
theorem dX12_fillsSides_82 : decode cX12_fillsSides 82 = .ok (.imul, 1) := by decide +kernel
theorem dX12_fillsSides_83 : decode cX12_fillsSides 83 = .ok (.iconst 2, 1) := by decide +kernel
theorem dX12_fillsSides_84 : decode cX12_fillsSides 84 = .ok (.iadd, 1) := by decide +kernel
theorem dX12_fillsSides_85 : decode cX12_fillsSides 85 = .ok (.iload_n 2, 1) := by decide +kernel
theorem dX12_fillsSides_86 : decode cX12_fillsSides 86 = .ok (.iload_n 1, 1) := by decide +kernel
theorem dX12_fillsSides_87 : decode cX12_fillsSides 87 = .ok (.iadd, 1) := by decide +kernel
theorem dX12_fillsSides_88 : decode cX12_fillsSides 88 = .ok (.iastore, 1) := by decide +kernel
theorem dX12_fillsSides_89 : decode cX12_fillsSides 89 = .ok (.iload_n 2, 1) := by decide +kernel
theorem dX12_fillsSides_90 : decode cX12_fillsSides 90 = .ok (.iload_n 1, 1) := by decide +kernel
theorem dX12_fillsSides_91 : decode cX12_fillsSides 91 = .ok (.irem, 1) := by decide +kernel
theorem dX12_fillsSides_92 : decode cX12_fillsSides 92 = .ok (.ifCond .le 16, 3) := by decide +kernel
theorem dX12_fillsSides_95 : decode cX12_fillsSides 95 = .ok (.aload_n 0, 1) := by decide +kernel
theorem dX12_fillsSides_96 : decode cX12_fillsSides 96 = .ok (.getfield 131, 3) := by decide +kernel
theorem dX12_fillsSides_99 : decode cX12_fillsSides 99 = .ok (.iconst 5, 1) := by decide +kernel
theorem dX12_fillsSides_100 : decode cX12_fillsSides 100 = .ok (.iload_n 2, 1) := by decide +kernel
theorem dX12_fillsSides_101 : decode cX12_fillsSides 101 = .ok (.imul, 1) := by decide +kernel
theorem dX12_fillsSides_102 : decode cX12_fillsSides 102 = .ok (.iconst 3, 1) := by decide +kernel
theorem dX12_fillsSides_103 : decode cX12_fillsSides 103 = .ok (.iadd, 1) := by decide +kernel
theorem dX12_fillsSides_104 : decode cX12_fillsSides 104 = .ok (.iload_n 2, 1) := by decide +kernel
theorem dX12_fillsSides_105 : decode cX12_fillsSides 105 = .ok (.iconst 1, 1) := by decide +kernel
theorem dX12_fillsSides_106 : decode cX12_fillsSides 106 = .ok (.isub, 1) := by decide +kernel
theorem dX12_fillsSides_107 : decode cX12_fillsSides 107 = .ok (.iastore, 1) := by decide +kernel
theorem dX12_fillsSides_108 : decode cX12_fillsSides 108 = .ok (.iload_n 2, 1) := by decide +kernel
theorem dX12_fillsSides_109 : decode cX12_fillsSides 109 = .ok (.iload_n 1, 1) := by decide +kernel
theorem dX12_fillsSides_110 : decode cX12_fillsSides 110 = .ok (.if_icmp .lt 16, 3) := by decide +kernel
theorem dX12_fillsSides_113 : decode cX12_fillsSides 113 = .ok (.aload_n 0, 1) := by decide +kernel
theorem dX12_fillsSides_114 : decode cX12_fillsSides 114 = .ok (.getfield 131, 3) := by decide +kernel
theorem dX12_fillsSides_117 : decode cX12_fillsSides 117 = .ok (.iconst 5, 1) := by decide +kernel
theorem dX12_fillsSides_118 : decode cX12_fillsSides 118 = .ok (.iload_n 2, 1) := by decide +kernel
theorem dX12_fillsSides_119 : decode cX12_fillsSides 119 = .ok (.imul, 1) := by decide +kernel
theorem dX12_fillsSides_120 : decode cX12_fillsSides 120 = .ok (.iconst 4, 1) := by decide +kernel
theorem dX12_fillsSides_121 : decode cX12_fillsSides 121 = .ok (.iadd, 1) := by decide +kernel
theorem dX12_fillsSides_122 : decode cX12_fillsSides 122 = .ok (.iload_n 2, 1) := by decide +kernel
theorem dX12_fillsSides_123 : decode cX12_fillsSides 123 = .ok (.iload_n 1, 1) := by decide +kernel
theorem dX12_fillsSides_124 : decode cX12_fillsSides 124 = .ok (.isub, 1) := by decide +kernel
theorem dX12_fillsSides_125 : decode cX12_fillsSides 125 = .ok (.iastore, 1) := by decide +kernel
theorem dX12_fillsSides_126 : decode cX12_fillsSides 126 = .ok (.iinc 2 1, 3) := by decide +kernel
theorem dX12_fillsSides_129 : decode cX12_fillsSides 129 = .ok (.goto (-117), 3) := by decide +kernel
theorem dX12_fillsSides_132 : decode cX12_fillsSides 132 = .ok (.return_, 1) := by decide +kernel
theorem dX12_begins_0 : decode cX12_begins 0 = .ok (.iconst 0, 1) := by decide +kernel
theorem dX12_begins_1 : decode cX12_begins 1 = .ok (.istore_n 1, 1) := by decide +kernel
theorem dX12_begins_2 : decode cX12_begins 2 = .ok (.iload_n 1, 1) := by decide +kernel
theorem dX12_begins_3 : decode cX12_begins 3 = .ok (.bipush 63, 2) := by decide +kernel
theorem dX12_begins_5 : decode cX12_begins 5 = .ok (.if_icmp .ge 16, 3) := by decide +kernel
theorem dX12_begins_8 : decode cX12_begins 8 = .ok (.aload_n 0, 1) := by decide +kernel
theorem dX12_begins_9 : decode cX12_begins 9 = .ok (.getfield 128, 3) := by decide +kernel
theorem dX12_begins_12 : decode cX12_begins 12 = .ok (.iload_n 1, 1) := by decide +kernel
theorem dX12_begins_13 : decode cX12_begins 13 = .ok (.iconst 0, 1) := by decide +kernel
theorem dX12_begins_14 : decode cX12_begins 14 = .ok (.iastore, 1) := by decide +kernel
theorem dX12_begins_15 : decode cX12_begins 15 = .ok (.iinc 1 1, 3) := by decide +kernel
theorem dX12_begins_18 : decode cX12_begins 18 = .ok (.goto (-16), 3) := by decide +kernel
theorem dX12_begins_21 : decode cX12_begins 21 = .ok (.bipush 8, 2) := by decide +kernel
theorem dX12_begins_23 : decode cX12_begins 23 = .ok (.aload_n 0, 1) := by decide +kernel
theorem dX12_begins_24 : decode cX12_begins 24 = .ok (.getfield 245, 3) := by decide +kernel
theorem dX12_begins_27 : decode cX12_begins 27 = .ok (.imul, 1) := by decide +kernel
theorem dX12_begins_28 : decode cX12_begins 28 = .ok (.istore_n 1, 1) := by decide +kernel
theorem dX12_begins_29 : decode cX12_begins 29 = .ok (.iload_n 1, 1) := by decide +kernel
theorem dX12_begins_30 : decode cX12_begins 30 = .ok (.bipush 8, 2) := by decide +kernel
theorem dX12_begins_32 : decode cX12_begins 32 = .ok (.aload_n 0, 1) := by decide +kernel
theorem dX12_begins_33 : decode cX12_begins 33 = .ok (.getfield 245, 3) := by decide +kernel
theorem dX12_begins_36 : decode cX12_begins 36 = .ok (.imul, 1) := by decide +kernel
theorem dX12_begins_37 : decode cX12_begins 37 = .ok (.aload_n 0, 1) := by decide +kernel
theorem dX12_begins_38 : decode cX12_begins 38 = .ok (.getfield 49, 3) := by decide +kernel
theorem dX12_begins_41 : decode cX12_begins 41 = .ok (.aload_n 0, 1) := by decide +kernel
theorem dX12_begins_42 : decode cX12_begins 42 = .ok (.getfield 245, 3) := by decide +kernel
theorem dX12_begins_45 : decode cX12_begins 45 = .ok (.iaload, 1) := by decide +kernel
theorem dX12_begins_46 : decode cX12_begins 46 = .ok (.iadd, 1) := by decide +kernel
theorem dX12_begins_47 : decode cX12_begins 47 = .ok (.if_icmp .ge 66, 3) := by decide +kernel
theorem dX12_begins_50 : decode cX12_begins 50 = .ok (.aload_n 0, 1) := by decide +kernel
theorem dX12_begins_51 : decode cX12_begins 51 = .ok (.getfield 128, 3) := by decide +kernel
theorem dX12_begins_54 : decode cX12_begins 54 = .ok (.aload_n 0, 1) := by decide +kernel
theorem dX12_begins_55 : decode cX12_begins 55 = .ok (.aload_n 0, 1) := by decide +kernel
theorem dX12_begins_56 : decode cX12_begins 56 = .ok (.getfield 52, 3) := by decide +kernel
theorem dX12_begins_59 : decode cX12_begins 59 = .ok (.iload_n 1, 1) := by decide +kernel
theorem dX12_begins_60 : decode cX12_begins 60 = .ok (.iaload, 1) := by decide +kernel
theorem dX12_begins_61 : decode cX12_begins 61 = .ok (.aload_n 0, 1) := by decide +kernel
theorem dX12_begins_62 : decode cX12_begins 62 = .ok (.getfield 55, 3) := by decide +kernel
theorem dX12_begins_65 : decode cX12_begins 65 = .ok (.iload_n 1, 1) := by decide +kernel
theorem dX12_begins_66 : decode cX12_begins 66 = .ok (.iaload, 1) := by decide +kernel
theorem dX12_begins_67 : decode cX12_begins 67 = .ok (.invokevirtual 334, 3) := by decide +kernel
theorem dX12_begins_70 : decode cX12_begins 70 = .ok (.aload_n 0, 1) := by decide +kernel
theorem dX12_begins_71 : decode cX12_begins 71 = .ok (.getfield 58, 3) := by decide +kernel
theorem dX12_begins_74 : decode cX12_begins 74 = .ok (.iload_n 1, 1) := by decide +kernel
theorem dX12_begins_75 : decode cX12_begins 75 = .ok (.iaload, 1) := by decide +kernel
theorem dX12_begins_76 : decode cX12_begins 76 = .ok (.iastore, 1) := by decide +kernel
