theorem sh_0 : shp 0 = .inl 11 := by decide +kernel
theorem sh_1 : shp 1 = .inr (.byte, 2000) := by decide +kernel
theorem sh_2 : shp 2 = .inl 7 := by decide +kernel
theorem sh_3 : shp 3 = .inl 0 := by decide +kernel
theorem sh_4 : shp 4 = .inl 3 := by decide +kernel
theorem sh_5 : shp 5 = .inl 4 := by decide +kernel
theorem sh_6 : shp 6 = .inr (.int, 404) := by decide +kernel
theorem sh_7 : shp 7 = .inr (.int, 4) := by decide +kernel
theorem sh_8 : shp 8 = .inr (.int, 16) := by decide +kernel
theorem sh_9 : shp 9 = .inr (.int, 9) := by decide +kernel
theorem sh_10 : shp 10 = .inl 8 := by decide +kernel
theorem sh_11 : shp 11 = .inr (.byte, 25) := by decide +kernel
theorem sh_12 : shp 12 = .inr (.int, 5) := by decide +kernel
theorem sh_13 : shp 13 = .inr (.int, 5) := by decide +kernel
theorem sh_14 : shp 14 = .inr (.long, 5) := by decide +kernel
theorem sh_15 : shp 15 = .inr (.int, 5) := by decide +kernel
theorem sh_16 : shp 16 = .inr (.int, 25) := by decide +kernel
theorem sh_17 : shp 17 = .inr (.int, 25) := by decide +kernel
theorem sh_18 : shp 18 = .inl 9 := by decide +kernel
theorem sh_19 : shp 19 = .inr (.long, 22) := by decide +kernel
theorem sh_20 : shp 20 = .inr (.byte, 401) := by decide +kernel
theorem sh_21 : shp 21 = .inr (.short, 401) := by decide +kernel
theorem sh_22 : shp 22 = .inr (.long, 401) := by decide +kernel
theorem sh_23 : shp 23 = .inl 0 := by decide +kernel
theorem sh_24 : shp 24 = .inl 3 := by decide +kernel
theorem sh_25 : shp 25 = .inl 4 := by decide +kernel
theorem sh_26 : shp 26 = .inr (.int, 404) := by decide +kernel
theorem sh_27 : shp 27 = .inr (.int, 4) := by decide +kernel
theorem sh_28 : shp 28 = .inr (.int, 16) := by decide +kernel
theorem sh_29 : shp 29 = .inr (.int, 9) := by decide +kernel
theorem sh_30 : shp 30 = .inl 8 := by decide +kernel
theorem sh_31 : shp 31 = .inr (.byte, 25) := by decide +kernel
theorem sh_32 : shp 32 = .inr (.int, 5) := by decide +kernel
theorem sh_33 : shp 33 = .inr (.int, 5) := by decide +kernel
theorem sh_34 : shp 34 = .inl 8 := by decide +kernel
theorem sh_35 : shp 35 = .inr (.byte, 25) := by decide +kernel
theorem sh_36 : shp 36 = .inr (.int, 5) := by decide +kernel
theorem sh_37 : shp 37 = .inr (.int, 5) := by decide +kernel
theorem sh_38 : shp 38 = .inl 6 := by decide +kernel
theorem sh_39 : shp 39 = .inr (.object RX8, 40) := by decide +kernel
theorem sh_40 : shp 40 = .inl 8 := by decide +kernel
theorem sh_41 : shp 41 = .inr (.byte, 25) := by decide +kernel
theorem sh_42 : shp 42 = .inr (.int, 5) := by decide +kernel
theorem sh_43 : shp 43 = .inr (.int, 5) := by decide +kernel
theorem sh_44 : shp 44 = .inl 8 := by decide +kernel
theorem sh_45 : shp 45 = .inr (.byte, 25) := by decide +kernel
theorem sh_46 : shp 46 = .inr (.int, 5) := by decide +kernel
theorem sh_47 : shp 47 = .inr (.int, 5) := by decide +kernel
theorem sh_48 : shp 48 = .inl 8 := by decide +kernel
theorem sh_49 : shp 49 = .inr (.byte, 25) := by decide +kernel
theorem sh_50 : shp 50 = .inr (.int, 5) := by decide +kernel
theorem sh_51 : shp 51 = .inr (.int, 5) := by decide +kernel
theorem sh_52 : shp 52 = .inl 8 := by decide +kernel
theorem sh_53 : shp 53 = .inr (.byte, 25) := by decide +kernel
theorem sh_54 : shp 54 = .inr (.int, 5) := by decide +kernel
theorem sh_55 : shp 55 = .inr (.int, 5) := by decide +kernel
theorem sh_56 : shp 56 = .inl 8 := by decide +kernel
theorem sh_57 : shp 57 = .inr (.byte, 25) := by decide +kernel
theorem sh_58 : shp 58 = .inr (.int, 5) := by decide +kernel
theorem sh_59 : shp 59 = .inr (.int, 5) := by decide +kernel
theorem sh_60 : shp 60 = .inl 8 := by decide +kernel
theorem sh_61 : shp 61 = .inr (.byte, 25) := by decide +kernel
theorem sh_62 : shp 62 = .inr (.int, 5) := by decide +kernel
theorem sh_63 : shp 63 = .inr (.int, 5) := by decide +kernel
theorem sh_64 : shp 64 = .inl 8 := by decide +kernel
theorem sh_65 : shp 65 = .inr (.byte, 25) := by decide +kernel
theorem sh_66 : shp 66 = .inr (.int, 5) := by decide +kernel
theorem sh_67 : shp 67 = .inr (.int, 5) := by decide +kernel
theorem sh_68 : shp 68 = .inl 8 := by decide +kernel
theorem sh_69 : shp 69 = .inr (.byte, 25) := by decide +kernel
theorem sh_70 : shp 70 = .inr (.int, 5) := by decide +kernel
theorem sh_71 : shp 71 = .inr (.int, 5) := by decide +kernel
theorem sh_72 : shp 72 = .inl 8 := by decide +kernel
theorem sh_73 : shp 73 = .inr (.byte, 25) := by decide +kernel
theorem sh_74 : shp 74 = .inr (.int, 5) := by decide +kernel
theorem sh_75 : shp 75 = .inr (.int, 5) := by decide +kernel
theorem sh_76 : shp 76 = .inl 8 := by decide +kernel
theorem sh_77 : shp 77 = .inr (.byte, 25) := by decide +kernel
theorem sh_78 : shp 78 = .inr (.int, 5) := by decide +kernel
theorem sh_79 : shp 79 = .inr (.int, 5) := by decide +kernel
theorem sh_80 : shp 80 = .inl 8 := by decide +kernel
theorem sh_81 : shp 81 = .inr (.byte, 25) := by decide +kernel
theorem sh_82 : shp 82 = .inr (.int, 5) := by decide +kernel
theorem sh_83 : shp 83 = .inr (.int, 5) := by decide +kernel
theorem sh_84 : shp 84 = .inl 8 := by decide +kernel
theorem sh_85 : shp 85 = .inr (.byte, 25) := by decide +kernel
theorem sh_86 : shp 86 = .inr (.int, 5) := by decide +kernel
theorem sh_87 : shp 87 = .inr (.int, 5) := by decide +kernel
theorem sh_88 : shp 88 = .inl 8 := by decide +kernel
theorem sh_89 : shp 89 = .inr (.byte, 25) := by decide +kernel
theorem sh_90 : shp 90 = .inr (.int, 5) := by decide +kernel
theorem sh_91 : shp 91 = .inr (.int, 5) := by decide +kernel
theorem sh_92 : shp 92 = .inl 8 := by decide +kernel
theorem sh_93 : shp 93 = .inr (.byte, 25) := by decide +kernel
theorem sh_94 : shp 94 = .inr (.int, 5) := by decide +kernel
theorem sh_95 : shp 95 = .inr (.int, 5) := by decide +kernel
theorem sh_96 : shp 96 = .inl 8 := by decide +kernel
theorem sh_97 : shp 97 = .inr (.byte, 25) := by decide +kernel
theorem sh_98 : shp 98 = .inr (.int, 5) := by decide +kernel
theorem sh_99 : shp 99 = .inr (.int, 5) := by decide +kernel
theorem sh_100 : shp 100 = .inl 8 := by decide +kernel
theorem sh_101 : shp 101 = .inr (.byte, 25) := by decide +kernel
theorem sh_102 : shp 102 = .inr (.int, 5) := by decide +kernel
theorem sh_103 : shp 103 = .inr (.int, 5) := by decide +kernel
theorem sh_104 : shp 104 = .inl 8 := by decide +kernel
theorem sh_105 : shp 105 = .inr (.byte, 25) := by decide +kernel
theorem sh_106 : shp 106 = .inr (.int, 5) := by decide +kernel
theorem sh_107 : shp 107 = .inr (.int, 5) := by decide +kernel
theorem sh_108 : shp 108 = .inl 8 := by decide +kernel
theorem sh_109 : shp 109 = .inr (.byte, 25) := by decide +kernel
theorem sh_110 : shp 110 = .inr (.int, 5) := by decide +kernel
theorem sh_111 : shp 111 = .inr (.int, 5) := by decide +kernel
theorem sh_112 : shp 112 = .inl 8 := by decide +kernel
theorem sh_113 : shp 113 = .inr (.byte, 25) := by decide +kernel
theorem sh_114 : shp 114 = .inr (.int, 5) := by decide +kernel
theorem sh_115 : shp 115 = .inr (.int, 5) := by decide +kernel
theorem sh_116 : shp 116 = .inl 8 := by decide +kernel
theorem sh_117 : shp 117 = .inr (.byte, 25) := by decide +kernel
theorem sh_118 : shp 118 = .inr (.int, 5) := by decide +kernel
theorem sh_119 : shp 119 = .inr (.int, 5) := by decide +kernel
theorem sh_120 : shp 120 = .inl 8 := by decide +kernel
theorem sh_121 : shp 121 = .inr (.byte, 25) := by decide +kernel
theorem sh_122 : shp 122 = .inr (.int, 5) := by decide +kernel
theorem sh_123 : shp 123 = .inr (.int, 5) := by decide +kernel
theorem sh_124 : shp 124 = .inl 8 := by decide +kernel
theorem sh_125 : shp 125 = .inr (.byte, 25) := by decide +kernel
theorem sh_126 : shp 126 = .inr (.int, 5) := by decide +kernel
theorem sh_127 : shp 127 = .inr (.int, 5) := by decide +kernel
theorem sh_128 : shp 128 = .inl 8 := by decide +kernel
theorem sh_129 : shp 129 = .inr (.byte, 25) := by decide +kernel
theorem sh_130 : shp 130 = .inr (.int, 5) := by decide +kernel
theorem sh_131 : shp 131 = .inr (.int, 5) := by decide +kernel
theorem sh_132 : shp 132 = .inl 8 := by decide +kernel
theorem sh_133 : shp 133 = .inr (.byte, 25) := by decide +kernel
theorem sh_134 : shp 134 = .inr (.int, 5) := by decide +kernel
theorem sh_135 : shp 135 = .inr (.int, 5) := by decide +kernel
theorem sh_136 : shp 136 = .inl 8 := by decide +kernel
theorem sh_137 : shp 137 = .inr (.byte, 25) := by decide +kernel
theorem sh_138 : shp 138 = .inr (.int, 5) := by decide +kernel
theorem sh_139 : shp 139 = .inr (.int, 5) := by decide +kernel
theorem sh_140 : shp 140 = .inl 8 := by decide +kernel
theorem sh_141 : shp 141 = .inr (.byte, 25) := by decide +kernel
theorem sh_142 : shp 142 = .inr (.int, 5) := by decide +kernel
theorem sh_143 : shp 143 = .inr (.int, 5) := by decide +kernel
theorem sh_144 : shp 144 = .inl 8 := by decide +kernel
theorem sh_145 : shp 145 = .inr (.byte, 25) := by decide +kernel
theorem sh_146 : shp 146 = .inr (.int, 5) := by decide +kernel
theorem sh_147 : shp 147 = .inr (.int, 5) := by decide +kernel
theorem sh_148 : shp 148 = .inl 8 := by decide +kernel
theorem sh_149 : shp 149 = .inr (.byte, 25) := by decide +kernel
theorem sh_150 : shp 150 = .inr (.int, 5) := by decide +kernel
theorem sh_151 : shp 151 = .inr (.int, 5) := by decide +kernel
theorem sh_152 : shp 152 = .inl 8 := by decide +kernel
theorem sh_153 : shp 153 = .inr (.byte, 25) := by decide +kernel
theorem sh_154 : shp 154 = .inr (.int, 5) := by decide +kernel
theorem sh_155 : shp 155 = .inr (.int, 5) := by decide +kernel
theorem sh_156 : shp 156 = .inl 8 := by decide +kernel
theorem sh_157 : shp 157 = .inr (.byte, 25) := by decide +kernel
theorem sh_158 : shp 158 = .inr (.int, 5) := by decide +kernel
theorem sh_159 : shp 159 = .inr (.int, 5) := by decide +kernel
theorem sh_160 : shp 160 = .inl 8 := by decide +kernel
theorem sh_161 : shp 161 = .inr (.byte, 25) := by decide +kernel
theorem sh_162 : shp 162 = .inr (.int, 5) := by decide +kernel
theorem sh_163 : shp 163 = .inr (.int, 5) := by decide +kernel
theorem sh_164 : shp 164 = .inl 8 := by decide +kernel
theorem sh_165 : shp 165 = .inr (.byte, 25) := by decide +kernel
theorem sh_166 : shp 166 = .inr (.int, 5) := by decide +kernel
theorem sh_167 : shp 167 = .inr (.int, 5) := by decide +kernel
theorem sh_168 : shp 168 = .inl 8 := by decide +kernel
theorem sh_169 : shp 169 = .inr (.byte, 25) := by decide +kernel
theorem sh_170 : shp 170 = .inr (.int, 5) := by decide +kernel
theorem sh_171 : shp 171 = .inr (.int, 5) := by decide +kernel
theorem sh_172 : shp 172 = .inl 8 := by decide +kernel
theorem sh_173 : shp 173 = .inr (.byte, 25) := by decide +kernel
theorem sh_174 : shp 174 = .inr (.int, 5) := by decide +kernel
theorem sh_175 : shp 175 = .inr (.int, 5) := by decide +kernel
theorem sh_176 : shp 176 = .inl 8 := by decide +kernel
theorem sh_177 : shp 177 = .inr (.byte, 25) := by decide +kernel
theorem sh_178 : shp 178 = .inr (.int, 5) := by decide +kernel
theorem sh_179 : shp 179 = .inr (.int, 5) := by decide +kernel
theorem sh_180 : shp 180 = .inl 8 := by decide +kernel
theorem sh_181 : shp 181 = .inr (.byte, 25) := by decide +kernel
theorem sh_182 : shp 182 = .inr (.int, 5) := by decide +kernel
theorem sh_183 : shp 183 = .inr (.int, 5) := by decide +kernel
theorem sh_184 : shp 184 = .inl 8 := by decide +kernel
theorem sh_185 : shp 185 = .inr (.byte, 25) := by decide +kernel
theorem sh_186 : shp 186 = .inr (.int, 5) := by decide +kernel
theorem sh_187 : shp 187 = .inr (.int, 5) := by decide +kernel
theorem sh_188 : shp 188 = .inl 8 := by decide +kernel
theorem sh_189 : shp 189 = .inr (.byte, 25) := by decide +kernel
theorem sh_190 : shp 190 = .inr (.int, 5) := by decide +kernel
theorem sh_191 : shp 191 = .inr (.int, 5) := by decide +kernel
theorem sh_192 : shp 192 = .inl 8 := by decide +kernel
theorem sh_193 : shp 193 = .inr (.byte, 25) := by decide +kernel
theorem sh_194 : shp 194 = .inr (.int, 5) := by decide +kernel
theorem sh_195 : shp 195 = .inr (.int, 5) := by decide +kernel
theorem sh_196 : shp 196 = .inl 8 := by decide +kernel
theorem sh_197 : shp 197 = .inr (.byte, 25) := by decide +kernel
theorem sh_198 : shp 198 = .inr (.int, 5) := by decide +kernel
theorem sh_199 : shp 199 = .inr (.int, 5) := by decide +kernel
theorem sh_200 : shp 200 = .inr (.object RX8, 3) := by decide +kernel
theorem sh_201 : shp 201 = .inl 2 := by decide +kernel
theorem sh_202 : shp 202 = .inr (.byte, 20) := by decide +kernel
theorem sh_203 : shp 203 = .inr (.boolean, 20) := by decide +kernel
theorem sh_204 : shp 204 = .inl 10 := by decide +kernel
theorem sh_205 : shp 205 = .inr (.int, 60) := by decide +kernel
theorem sh_206 : shp 206 = .inr (.int, 101) := by decide +kernel
theorem sh_207 : shp 207 = .inl 1 := by decide +kernel
theorem sh_208 : shp 208 = .inr (.int, 25) := by decide +kernel
theorem sh_209 : shp 209 = .inr (.int, 50) := by decide +kernel
theorem sh_210 : shp 210 = .inr (.int, 50) := by decide +kernel
theorem sh_211 : shp 211 = .inl 5 := by decide +kernel
theorem sh_212 : shp 212 = .inr (.int, 5) := by decide +kernel
theorem sh_213 : shp 213 = .inr (.int, 5) := by decide +kernel
theorem sh_214 : shp 214 = .inl 8 := by decide +kernel
theorem sh_215 : shp 215 = .inr (.byte, 25) := by decide +kernel
theorem sh_216 : shp 216 = .inr (.int, 5) := by decide +kernel
theorem sh_217 : shp 217 = .inr (.int, 5) := by decide +kernel
theorem sh_218 : shp 218 = .inl 8 := by decide +kernel
theorem sh_219 : shp 219 = .inr (.byte, 25) := by decide +kernel
theorem sh_220 : shp 220 = .inr (.int, 5) := by decide +kernel
theorem sh_221 : shp 221 = .inr (.int, 5) := by decide +kernel
theorem sh_222 : shp 222 = .inl 8 := by decide +kernel
theorem sh_223 : shp 223 = .inr (.byte, 25) := by decide +kernel
theorem sh_224 : shp 224 = .inr (.int, 5) := by decide +kernel
theorem sh_225 : shp 225 = .inr (.int, 5) := by decide +kernel
theorem sh_226 : shp 226 = .inl 12 := by decide +kernel
theorem sh_227 : shp 227 = .inr (.byte, 2000) := by decide +kernel
theorem sh_228 : shp 228 = .inr (.byte, 2000) := by decide +kernel
theorem sh_229 : shp 229 = .inr (.int, 403) := by decide +kernel
theorem sh_230 : shp 230 = .inr (.int, 403) := by decide +kernel
theorem sh_231 : shp 231 = .inr (.int, 403) := by decide +kernel
theorem sh_232 : shp 232 = .inr (.long, 403) := by decide +kernel
theorem sh_233 : shp 233 = .inr (.long, 22) := by decide +kernel
theorem sh_234 : shp 234 = .inr (.long, 5) := by decide +kernel
theorem sh_235 : shp 235 = .inr (.int, 2) := by decide +kernel
theorem sh_236 : shp 236 = .inr (.int, 2) := by decide +kernel
theorem sh_237 : shp 237 = .inr (.int, 2) := by decide +kernel
theorem sh_238 : shp 238 = .inr (.int, 16) := by decide +kernel
theorem sh_239 : shp 239 = .inr (.int, 16) := by decide +kernel
theorem sh_240 : shp 240 = .inr (.int, 16) := by decide +kernel
theorem sh_241 : shp 241 = .inr (.int, 16) := by decide +kernel
theorem sh_242 : shp 242 = .inr (.int, 2) := by decide +kernel
theorem sh_243 : shp 243 = .inr (.int, 10) := by decide +kernel
theorem sh_244 : shp 244 = .inr (.int, 10) := by decide +kernel
theorem sh_245 : shp 245 = .inr (.int, 2) := by decide +kernel
theorem sh_246 : shp 246 = .inr (.int, 16) := by decide +kernel
theorem sh_247 : shp 247 = .inr (.int, 16) := by decide +kernel
theorem sh_248 : shp 248 = .inr (.int, 2) := by decide +kernel
theorem sh_249 : shp 249 = .inr (.int, 2) := by decide +kernel
theorem sh_250 : shp 250 = .inr (.int, 8) := by decide +kernel
theorem sh_251 : shp 251 = .inr (.int, 8) := by decide +kernel
theorem sh_252 : shp 252 = .inr (.boolean, 260) := by decide +kernel
theorem sh_253 : shp 253 = .inr (.int, 260) := by decide +kernel
theorem sh_254 : shp 254 = .inr (.int, 260) := by decide +kernel
theorem sh_255 : shp 255 = .inr (.int, 260) := by decide +kernel
theorem sh_256 : shp 256 = .inr (.int, 260) := by decide +kernel
theorem sh_257 : shp 257 = .inr (.int, 840) := by decide +kernel
theorem sh_258 : shp 258 = .inr (.int, 840) := by decide +kernel
theorem sh_259 : shp 259 = .inr (.int, 64) := by decide +kernel
theorem sh_260 : shp 260 = .inr (.int, 9) := by decide +kernel
theorem sh_261 : shp 261 = .inr (.int, 400) := by decide +kernel
theorem sh_262 : shp 262 = .inr (.int, 63) := by decide +kernel
theorem sh_263 : shp 263 = .inr (.int, 63) := by decide +kernel
theorem sh_264 : shp 264 = .inr (.int, 125) := by decide +kernel
theorem sh_265 : shp 265 = .inr (.int, 5) := by decide +kernel
theorem sh_266 : shp 266 = .inr (.int, 2520) := by decide +kernel
theorem sh_267 : shp 267 = .inr (.int, 101) := by decide +kernel
theorem sh_268 : shp 268 = .inr (.int, 101) := by decide +kernel
theorem sh_269 : shp 269 = .inr (.int, 101) := by decide +kernel
theorem sh_270 : shp 270 = .inr (.int, 32) := by decide +kernel
theorem sh_271 : shp 271 = .inr (.int, 20) := by decide +kernel
theorem sh_272 : shp 272 = .inr (.boolean, 20) := by decide +kernel
theorem sh_273 : shp 273 = .inr (.boolean, 3) := by decide +kernel
theorem sh_274 : shp 274 = .inr (.int, 189) := by decide +kernel
theorem r0_0_0 : R0 0 0 = some 1 := by decide +kernel
theorem r0_0_3 : R0 0 3 = some 2 := by decide +kernel
theorem r0_0_4 : R0 0 4 = some 23 := by decide +kernel
theorem r0_0_5 : R0 0 5 = some 24 := by decide +kernel
theorem r0_0_6 : R0 0 6 = some 30 := by decide +kernel
theorem r0_0_7 : R0 0 7 = some 34 := by decide +kernel
theorem r0_0_8 : R0 0 8 = some 38 := by decide +kernel
theorem r0_0_9 : R0 0 9 = some 200 := by decide +kernel
theorem r0_0_11 : R0 0 11 = some 201 := by decide +kernel
theorem r0_0_12 : R0 0 12 = some 204 := by decide +kernel
theorem r0_0_13 : R0 0 13 = some 207 := by decide +kernel
theorem r0_0_14 : R0 0 14 = some 211 := by decide +kernel
theorem r0_2_0 : R0 2 0 = some 3 := by decide +kernel
theorem r0_2_1 : R0 2 1 = some 10 := by decide +kernel
theorem r0_2_3 : R0 2 3 = some 18 := by decide +kernel
theorem r0_2_8 : R0 2 8 = some 14 := by decide +kernel
theorem r0_2_9 : R0 2 9 = some 15 := by decide +kernel
theorem r0_2_10 : R0 2 10 = some 16 := by decide +kernel
theorem r0_2_11 : R0 2 11 = some 17 := by decide +kernel
theorem r0_3_0 : R0 3 0 = some 4 := by decide +kernel
theorem r0_3_1 : R0 3 1 = some 5 := by decide +kernel
theorem r0_3_5 : R0 3 5 = some 9 := by decide +kernel
theorem r0_5_0 : R0 5 0 = some 6 := by decide +kernel
theorem r0_5_1 : R0 5 1 = some 7 := by decide +kernel
theorem r0_5_2 : R0 5 2 = some 8 := by decide +kernel
theorem r0_10_4 : R0 10 4 = some 11 := by decide +kernel
theorem r0_10_5 : R0 10 5 = some 12 := by decide +kernel
theorem r0_10_6 : R0 10 6 = some 13 := by decide +kernel
theorem r0_18_0 : R0 18 0 = some 1 := by decide +kernel
theorem r0_18_1 : R0 18 1 = some 19 := by decide +kernel
theorem r0_18_2 : R0 18 2 = some 20 := by decide +kernel
theorem r0_18_3 : R0 18 3 = some 21 := by decide +kernel
theorem r0_18_4 : R0 18 4 = some 22 := by decide +kernel
theorem r0_23_0 : R0 23 0 = some 24 := by decide +kernel
theorem r0_23_1 : R0 23 1 = some 25 := by decide +kernel
theorem r0_23_5 : R0 23 5 = some 29 := by decide +kernel
theorem r0_25_0 : R0 25 0 = some 26 := by decide +kernel
theorem r0_25_1 : R0 25 1 = some 27 := by decide +kernel
theorem r0_25_2 : R0 25 2 = some 28 := by decide +kernel
theorem r0_30_4 : R0 30 4 = some 31 := by decide +kernel
theorem r0_30_5 : R0 30 5 = some 32 := by decide +kernel
theorem r0_30_6 : R0 30 6 = some 33 := by decide +kernel
theorem r0_34_4 : R0 34 4 = some 35 := by decide +kernel
theorem r0_34_5 : R0 34 5 = some 36 := by decide +kernel
theorem r0_34_6 : R0 34 6 = some 37 := by decide +kernel
theorem r0_38_0 : R0 38 0 = some 39 := by decide +kernel
theorem r0_39_0 : R0 39 0 = some 40 := by decide +kernel
theorem r0_39_1 : R0 39 1 = some 44 := by decide +kernel
theorem r0_39_2 : R0 39 2 = some 48 := by decide +kernel
theorem r0_39_3 : R0 39 3 = some 52 := by decide +kernel
theorem r0_39_4 : R0 39 4 = some 56 := by decide +kernel
theorem r0_39_5 : R0 39 5 = some 60 := by decide +kernel
theorem r0_39_6 : R0 39 6 = some 64 := by decide +kernel
theorem r0_39_7 : R0 39 7 = some 68 := by decide +kernel
theorem r0_39_8 : R0 39 8 = some 72 := by decide +kernel
theorem r0_39_9 : R0 39 9 = some 76 := by decide +kernel
theorem r0_39_10 : R0 39 10 = some 80 := by decide +kernel
theorem r0_39_11 : R0 39 11 = some 84 := by decide +kernel
theorem r0_39_12 : R0 39 12 = some 88 := by decide +kernel
theorem r0_39_13 : R0 39 13 = some 92 := by decide +kernel
theorem r0_39_14 : R0 39 14 = some 96 := by decide +kernel
theorem r0_39_15 : R0 39 15 = some 100 := by decide +kernel
theorem r0_39_16 : R0 39 16 = some 104 := by decide +kernel
theorem r0_39_17 : R0 39 17 = some 108 := by decide +kernel
theorem r0_39_18 : R0 39 18 = some 112 := by decide +kernel
theorem r0_39_19 : R0 39 19 = some 116 := by decide +kernel
theorem r0_39_20 : R0 39 20 = some 120 := by decide +kernel
theorem r0_39_21 : R0 39 21 = some 124 := by decide +kernel
theorem r0_39_22 : R0 39 22 = some 128 := by decide +kernel
theorem r0_39_23 : R0 39 23 = some 132 := by decide +kernel
theorem r0_39_24 : R0 39 24 = some 136 := by decide +kernel
theorem r0_39_25 : R0 39 25 = some 140 := by decide +kernel
theorem r0_39_26 : R0 39 26 = some 144 := by decide +kernel
theorem r0_39_27 : R0 39 27 = some 148 := by decide +kernel
theorem r0_39_28 : R0 39 28 = some 152 := by decide +kernel
theorem r0_39_29 : R0 39 29 = some 156 := by decide +kernel
theorem r0_39_30 : R0 39 30 = some 160 := by decide +kernel
theorem r0_39_31 : R0 39 31 = some 164 := by decide +kernel
theorem r0_39_32 : R0 39 32 = some 168 := by decide +kernel
theorem r0_39_33 : R0 39 33 = some 172 := by decide +kernel
theorem r0_39_34 : R0 39 34 = some 176 := by decide +kernel
theorem r0_39_35 : R0 39 35 = some 180 := by decide +kernel
theorem r0_39_36 : R0 39 36 = some 184 := by decide +kernel
theorem r0_39_37 : R0 39 37 = some 188 := by decide +kernel
theorem r0_39_38 : R0 39 38 = some 192 := by decide +kernel
theorem r0_39_39 : R0 39 39 = some 196 := by decide +kernel
theorem r0_40_4 : R0 40 4 = some 41 := by decide +kernel
theorem r0_40_5 : R0 40 5 = some 42 := by decide +kernel
theorem r0_40_6 : R0 40 6 = some 43 := by decide +kernel
theorem r0_44_4 : R0 44 4 = some 45 := by decide +kernel
theorem r0_44_5 : R0 44 5 = some 46 := by decide +kernel
theorem r0_44_6 : R0 44 6 = some 47 := by decide +kernel
theorem r0_48_4 : R0 48 4 = some 49 := by decide +kernel
theorem r0_48_5 : R0 48 5 = some 50 := by decide +kernel
theorem r0_48_6 : R0 48 6 = some 51 := by decide +kernel
theorem r0_52_4 : R0 52 4 = some 53 := by decide +kernel
theorem r0_52_5 : R0 52 5 = some 54 := by decide +kernel
theorem r0_52_6 : R0 52 6 = some 55 := by decide +kernel
theorem r0_56_4 : R0 56 4 = some 57 := by decide +kernel
theorem r0_56_5 : R0 56 5 = some 58 := by decide +kernel
theorem r0_56_6 : R0 56 6 = some 59 := by decide +kernel
theorem r0_60_4 : R0 60 4 = some 61 := by decide +kernel
theorem r0_60_5 : R0 60 5 = some 62 := by decide +kernel
theorem r0_60_6 : R0 60 6 = some 63 := by decide +kernel
theorem r0_64_4 : R0 64 4 = some 65 := by decide +kernel
theorem r0_64_5 : R0 64 5 = some 66 := by decide +kernel
theorem r0_64_6 : R0 64 6 = some 67 := by decide +kernel
theorem r0_68_4 : R0 68 4 = some 69 := by decide +kernel
theorem r0_68_5 : R0 68 5 = some 70 := by decide +kernel
theorem r0_68_6 : R0 68 6 = some 71 := by decide +kernel
theorem r0_72_4 : R0 72 4 = some 73 := by decide +kernel
theorem r0_72_5 : R0 72 5 = some 74 := by decide +kernel
theorem r0_72_6 : R0 72 6 = some 75 := by decide +kernel
theorem r0_76_4 : R0 76 4 = some 77 := by decide +kernel
theorem r0_76_5 : R0 76 5 = some 78 := by decide +kernel
theorem r0_76_6 : R0 76 6 = some 79 := by decide +kernel
theorem r0_80_4 : R0 80 4 = some 81 := by decide +kernel
theorem r0_80_5 : R0 80 5 = some 82 := by decide +kernel
theorem r0_80_6 : R0 80 6 = some 83 := by decide +kernel
theorem r0_84_4 : R0 84 4 = some 85 := by decide +kernel
theorem r0_84_5 : R0 84 5 = some 86 := by decide +kernel
theorem r0_84_6 : R0 84 6 = some 87 := by decide +kernel
theorem r0_88_4 : R0 88 4 = some 89 := by decide +kernel
theorem r0_88_5 : R0 88 5 = some 90 := by decide +kernel
theorem r0_88_6 : R0 88 6 = some 91 := by decide +kernel
theorem r0_92_4 : R0 92 4 = some 93 := by decide +kernel
theorem r0_92_5 : R0 92 5 = some 94 := by decide +kernel
theorem r0_92_6 : R0 92 6 = some 95 := by decide +kernel
theorem r0_96_4 : R0 96 4 = some 97 := by decide +kernel
theorem r0_96_5 : R0 96 5 = some 98 := by decide +kernel
theorem r0_96_6 : R0 96 6 = some 99 := by decide +kernel
theorem r0_100_4 : R0 100 4 = some 101 := by decide +kernel
theorem r0_100_5 : R0 100 5 = some 102 := by decide +kernel
theorem r0_100_6 : R0 100 6 = some 103 := by decide +kernel
theorem r0_104_4 : R0 104 4 = some 105 := by decide +kernel
theorem r0_104_5 : R0 104 5 = some 106 := by decide +kernel
theorem r0_104_6 : R0 104 6 = some 107 := by decide +kernel
theorem r0_108_4 : R0 108 4 = some 109 := by decide +kernel
theorem r0_108_5 : R0 108 5 = some 110 := by decide +kernel
theorem r0_108_6 : R0 108 6 = some 111 := by decide +kernel
theorem r0_112_4 : R0 112 4 = some 113 := by decide +kernel
theorem r0_112_5 : R0 112 5 = some 114 := by decide +kernel
theorem r0_112_6 : R0 112 6 = some 115 := by decide +kernel
theorem r0_116_4 : R0 116 4 = some 117 := by decide +kernel
theorem r0_116_5 : R0 116 5 = some 118 := by decide +kernel
theorem r0_116_6 : R0 116 6 = some 119 := by decide +kernel
theorem r0_120_4 : R0 120 4 = some 121 := by decide +kernel
theorem r0_120_5 : R0 120 5 = some 122 := by decide +kernel
theorem r0_120_6 : R0 120 6 = some 123 := by decide +kernel
theorem r0_124_4 : R0 124 4 = some 125 := by decide +kernel
theorem r0_124_5 : R0 124 5 = some 126 := by decide +kernel
theorem r0_124_6 : R0 124 6 = some 127 := by decide +kernel
theorem r0_128_4 : R0 128 4 = some 129 := by decide +kernel
theorem r0_128_5 : R0 128 5 = some 130 := by decide +kernel
theorem r0_128_6 : R0 128 6 = some 131 := by decide +kernel
theorem r0_132_4 : R0 132 4 = some 133 := by decide +kernel
theorem r0_132_5 : R0 132 5 = some 134 := by decide +kernel
theorem r0_132_6 : R0 132 6 = some 135 := by decide +kernel
theorem r0_136_4 : R0 136 4 = some 137 := by decide +kernel
theorem r0_136_5 : R0 136 5 = some 138 := by decide +kernel
theorem r0_136_6 : R0 136 6 = some 139 := by decide +kernel
theorem r0_140_4 : R0 140 4 = some 141 := by decide +kernel
theorem r0_140_5 : R0 140 5 = some 142 := by decide +kernel
theorem r0_140_6 : R0 140 6 = some 143 := by decide +kernel
theorem r0_144_4 : R0 144 4 = some 145 := by decide +kernel
theorem r0_144_5 : R0 144 5 = some 146 := by decide +kernel
theorem r0_144_6 : R0 144 6 = some 147 := by decide +kernel
theorem r0_148_4 : R0 148 4 = some 149 := by decide +kernel
theorem r0_148_5 : R0 148 5 = some 150 := by decide +kernel
theorem r0_148_6 : R0 148 6 = some 151 := by decide +kernel
theorem r0_152_4 : R0 152 4 = some 153 := by decide +kernel
theorem r0_152_5 : R0 152 5 = some 154 := by decide +kernel
theorem r0_152_6 : R0 152 6 = some 155 := by decide +kernel
theorem r0_156_4 : R0 156 4 = some 157 := by decide +kernel
theorem r0_156_5 : R0 156 5 = some 158 := by decide +kernel
theorem r0_156_6 : R0 156 6 = some 159 := by decide +kernel
theorem r0_160_4 : R0 160 4 = some 161 := by decide +kernel
theorem r0_160_5 : R0 160 5 = some 162 := by decide +kernel
theorem r0_160_6 : R0 160 6 = some 163 := by decide +kernel
theorem r0_164_4 : R0 164 4 = some 165 := by decide +kernel
theorem r0_164_5 : R0 164 5 = some 166 := by decide +kernel
theorem r0_164_6 : R0 164 6 = some 167 := by decide +kernel
theorem r0_168_4 : R0 168 4 = some 169 := by decide +kernel
theorem r0_168_5 : R0 168 5 = some 170 := by decide +kernel
theorem r0_168_6 : R0 168 6 = some 171 := by decide +kernel
theorem r0_172_4 : R0 172 4 = some 173 := by decide +kernel
theorem r0_172_5 : R0 172 5 = some 174 := by decide +kernel
theorem r0_172_6 : R0 172 6 = some 175 := by decide +kernel
theorem r0_176_4 : R0 176 4 = some 177 := by decide +kernel
theorem r0_176_5 : R0 176 5 = some 178 := by decide +kernel
theorem r0_176_6 : R0 176 6 = some 179 := by decide +kernel
theorem r0_180_4 : R0 180 4 = some 181 := by decide +kernel
theorem r0_180_5 : R0 180 5 = some 182 := by decide +kernel
theorem r0_180_6 : R0 180 6 = some 183 := by decide +kernel
theorem r0_184_4 : R0 184 4 = some 185 := by decide +kernel
theorem r0_184_5 : R0 184 5 = some 186 := by decide +kernel
theorem r0_184_6 : R0 184 6 = some 187 := by decide +kernel
theorem r0_188_4 : R0 188 4 = some 189 := by decide +kernel
theorem r0_188_5 : R0 188 5 = some 190 := by decide +kernel
theorem r0_188_6 : R0 188 6 = some 191 := by decide +kernel
theorem r0_192_4 : R0 192 4 = some 193 := by decide +kernel
theorem r0_192_5 : R0 192 5 = some 194 := by decide +kernel
theorem r0_192_6 : R0 192 6 = some 195 := by decide +kernel
theorem r0_196_4 : R0 196 4 = some 197 := by decide +kernel
theorem r0_196_5 : R0 196 5 = some 198 := by decide +kernel
theorem r0_196_6 : R0 196 6 = some 199 := by decide +kernel
theorem r0_200_0 : R0 200 0 = some 214 := by decide +kernel
theorem r0_200_1 : R0 200 1 = some 218 := by decide +kernel
theorem r0_200_2 : R0 200 2 = some 222 := by decide +kernel
theorem r0_201_0 : R0 201 0 = some 202 := by decide +kernel
theorem r0_201_1 : R0 201 1 = some 203 := by decide +kernel
theorem r0_204_0 : R0 204 0 = some 24 := by decide +kernel
theorem r0_204_1 : R0 204 1 = some 205 := by decide +kernel
theorem r0_204_2 : R0 204 2 = some 206 := by decide +kernel
theorem r0_207_0 : R0 207 0 = some 24 := by decide +kernel
theorem r0_207_1 : R0 207 1 = some 208 := by decide +kernel
theorem r0_207_2 : R0 207 2 = some 209 := by decide +kernel
theorem r0_207_3 : R0 207 3 = some 210 := by decide +kernel
theorem r0_211_0 : R0 211 0 = some 24 := by decide +kernel
theorem r0_211_1 : R0 211 1 = some 212 := by decide +kernel
theorem r0_211_2 : R0 211 2 = some 213 := by decide +kernel
theorem r0_214_4 : R0 214 4 = some 215 := by decide +kernel
theorem r0_214_5 : R0 214 5 = some 216 := by decide +kernel
theorem r0_214_6 : R0 214 6 = some 217 := by decide +kernel
theorem r0_218_4 : R0 218 4 = some 219 := by decide +kernel
theorem r0_218_5 : R0 218 5 = some 220 := by decide +kernel
theorem r0_218_6 : R0 218 6 = some 221 := by decide +kernel
theorem r0_222_4 : R0 222 4 = some 223 := by decide +kernel
theorem r0_222_5 : R0 222 5 = some 224 := by decide +kernel
theorem r0_222_6 : R0 222 6 = some 225 := by decide +kernel
theorem r0_226_1 : R0 226 1 = some 227 := by decide +kernel
theorem r0_226_3 : R0 226 3 = some 228 := by decide +kernel
theorem r0_226_5 : R0 226 5 = some 229 := by decide +kernel
theorem r0_226_6 : R0 226 6 = some 230 := by decide +kernel
theorem r0_226_7 : R0 226 7 = some 231 := by decide +kernel
theorem r0_226_8 : R0 226 8 = some 232 := by decide +kernel
theorem r0_226_9 : R0 226 9 = some 233 := by decide +kernel
theorem r0_226_21 : R0 226 21 = some 234 := by decide +kernel
theorem r0_226_22 : R0 226 22 = some 235 := by decide +kernel
theorem r0_226_23 : R0 226 23 = some 236 := by decide +kernel
theorem r0_226_24 : R0 226 24 = some 237 := by decide +kernel
theorem r0_226_25 : R0 226 25 = some 238 := by decide +kernel
theorem r0_226_26 : R0 226 26 = some 239 := by decide +kernel
theorem r0_226_27 : R0 226 27 = some 240 := by decide +kernel
theorem r0_226_28 : R0 226 28 = some 241 := by decide +kernel
theorem r0_226_29 : R0 226 29 = some 242 := by decide +kernel
theorem r0_226_30 : R0 226 30 = some 243 := by decide +kernel
theorem r0_226_31 : R0 226 31 = some 244 := by decide +kernel
theorem r0_226_32 : R0 226 32 = some 245 := by decide +kernel
theorem r0_226_33 : R0 226 33 = some 246 := by decide +kernel
theorem r0_226_34 : R0 226 34 = some 247 := by decide +kernel
theorem r0_226_35 : R0 226 35 = some 248 := by decide +kernel
theorem r0_226_36 : R0 226 36 = some 249 := by decide +kernel
theorem r0_226_37 : R0 226 37 = some 250 := by decide +kernel
theorem r0_226_38 : R0 226 38 = some 251 := by decide +kernel
theorem r0_226_40 : R0 226 40 = some 252 := by decide +kernel
theorem r0_226_41 : R0 226 41 = some 253 := by decide +kernel
theorem r0_226_42 : R0 226 42 = some 254 := by decide +kernel
theorem r0_226_43 : R0 226 43 = some 255 := by decide +kernel
theorem r0_226_44 : R0 226 44 = some 256 := by decide +kernel
theorem r0_226_46 : R0 226 46 = some 257 := by decide +kernel
theorem r0_226_47 : R0 226 47 = some 258 := by decide +kernel
theorem r0_226_48 : R0 226 48 = some 259 := by decide +kernel
theorem r0_226_50 : R0 226 50 = some 260 := by decide +kernel
theorem r0_226_51 : R0 226 51 = some 261 := by decide +kernel
theorem r0_226_53 : R0 226 53 = some 262 := by decide +kernel
theorem r0_226_54 : R0 226 54 = some 263 := by decide +kernel
theorem r0_226_57 : R0 226 57 = some 264 := by decide +kernel
theorem r0_226_58 : R0 226 58 = some 265 := by decide +kernel
theorem r0_226_60 : R0 226 60 = some 266 := by decide +kernel
theorem r0_226_61 : R0 226 61 = some 267 := by decide +kernel
theorem r0_226_62 : R0 226 62 = some 268 := by decide +kernel
theorem r0_226_63 : R0 226 63 = some 269 := by decide +kernel
theorem r0_226_64 : R0 226 64 = some 270 := by decide +kernel
theorem r0_226_66 : R0 226 66 = some 271 := by decide +kernel
theorem r0_226_67 : R0 226 67 = some 272 := by decide +kernel
theorem r0_226_68 : R0 226 68 = some 273 := by decide +kernel
theorem r0_226_69 : R0 226 69 = some 274 := by decide +kernel
