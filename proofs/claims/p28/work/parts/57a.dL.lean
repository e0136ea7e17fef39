theorem dLg_0 : (decode cL_law 0 = .ok (.new 7, 3)) ∧ (decode cL_law 3 = .ok (.dup, 1)) ∧ (decode cL_law 4 = .ok (.invokespecial 9, 3)) ∧ (decode cL_law 7 = .ok (.astore_n 1, 1)) ∧ (decode cL_law 8 = .ok (.new 10, 3)) ∧ (decode cL_law 11 = .ok (.dup, 1)) ∧ (decode cL_law 12 = .ok (.invokespecial 12, 3)) ∧ (decode cL_law 15 = .ok (.astore_n 2, 1)) ∧ (decode cL_law 16 = .ok (.iconst 0, 1)) ∧ (decode cL_law 17 = .ok (.istore_n 3, 1)) ∧ (decode cL_law 18 = .ok (.iload_n 3, 1)) ∧ (decode cL_law 19 = .ok (.aload_n 0, 1)) := by decide +kernel
theorem dL_law_0 : decode cL_law 0 = .ok (.new 7, 3) := dLg_0.1
theorem dL_law_3 : decode cL_law 3 = .ok (.dup, 1) := dLg_0.2.1
theorem dL_law_4 : decode cL_law 4 = .ok (.invokespecial 9, 3) := dLg_0.2.2.1
theorem dL_law_7 : decode cL_law 7 = .ok (.astore_n 1, 1) := dLg_0.2.2.2.1
theorem dL_law_8 : decode cL_law 8 = .ok (.new 10, 3) := dLg_0.2.2.2.2.1
theorem dL_law_11 : decode cL_law 11 = .ok (.dup, 1) := dLg_0.2.2.2.2.2.1
theorem dL_law_12 : decode cL_law 12 = .ok (.invokespecial 12, 3) := dLg_0.2.2.2.2.2.2.1
theorem dL_law_15 : decode cL_law 15 = .ok (.astore_n 2, 1) := dLg_0.2.2.2.2.2.2.2.1
theorem dL_law_16 : decode cL_law 16 = .ok (.iconst 0, 1) := dLg_0.2.2.2.2.2.2.2.2.1
theorem dL_law_17 : decode cL_law 17 = .ok (.istore_n 3, 1) := dLg_0.2.2.2.2.2.2.2.2.2.1
theorem dL_law_18 : decode cL_law 18 = .ok (.iload_n 3, 1) := dLg_0.2.2.2.2.2.2.2.2.2.2.1
theorem dL_law_19 : decode cL_law 19 = .ok (.aload_n 0, 1) := dLg_0.2.2.2.2.2.2.2.2.2.2.2
theorem dLg_1 : (decode cL_law 20 = .ok (.arraylength, 1)) ∧ (decode cL_law 21 = .ok (.bipush 6, 2)) ∧ (decode cL_law 23 = .ok (.isub, 1)) ∧ (decode cL_law 24 = .ok (.if_icmp .gt 1318, 3)) ∧ (decode cL_law 27 = .ok (.aload_n 0, 1)) ∧ (decode cL_law 28 = .ok (.iload_n 3, 1)) ∧ (decode cL_law 29 = .ok (.iaload, 1)) ∧ (decode cL_law 30 = .ok (.bipush 63, 2)) ∧ (decode cL_law 32 = .ok (.iand, 1)) ∧ (decode cL_law 33 = .ok (.tableswitch 1303 0 37 #[167, 230, 253, 266, 279, 312, 345, 368, 417, 450, 473, 486, 509, 542, 585, 628, 681, 714, 757, 780, 803, 846, 869, 892, 915, 928, 951, 984, 1007, 1050, 1073, 1116, 1165, 1178, 1211, 1234, 1257, 1280], 167)) ∧ (decode cL_law 200 = .ok (.aload_n 1, 1)) ∧ (decode cL_law 201 = .ok (.aload_n 0, 1)) := by decide +kernel
theorem dL_law_20 : decode cL_law 20 = .ok (.arraylength, 1) := dLg_1.1
theorem dL_law_21 : decode cL_law 21 = .ok (.bipush 6, 2) := dLg_1.2.1
theorem dL_law_23 : decode cL_law 23 = .ok (.isub, 1) := dLg_1.2.2.1
theorem dL_law_24 : decode cL_law 24 = .ok (.if_icmp .gt 1318, 3) := dLg_1.2.2.2.1
theorem dL_law_27 : decode cL_law 27 = .ok (.aload_n 0, 1) := dLg_1.2.2.2.2.1
theorem dL_law_28 : decode cL_law 28 = .ok (.iload_n 3, 1) := dLg_1.2.2.2.2.2.1
theorem dL_law_29 : decode cL_law 29 = .ok (.iaload, 1) := dLg_1.2.2.2.2.2.2.1
theorem dL_law_30 : decode cL_law 30 = .ok (.bipush 63, 2) := dLg_1.2.2.2.2.2.2.2.1
theorem dL_law_32 : decode cL_law 32 = .ok (.iand, 1) := dLg_1.2.2.2.2.2.2.2.2.1
theorem dL_law_33 : decode cL_law 33 = .ok (.tableswitch 1303 0 37 #[167, 230, 253, 266, 279, 312, 345, 368, 417, 450, 473, 486, 509, 542, 585, 628, 681, 714, 757, 780, 803, 846, 869, 892, 915, 928, 951, 984, 1007, 1050, 1073, 1116, 1165, 1178, 1211, 1234, 1257, 1280], 167) := dLg_1.2.2.2.2.2.2.2.2.2.1
theorem dL_law_200 : decode cL_law 200 = .ok (.aload_n 1, 1) := dLg_1.2.2.2.2.2.2.2.2.2.2.1
theorem dL_law_201 : decode cL_law 201 = .ok (.aload_n 0, 1) := dLg_1.2.2.2.2.2.2.2.2.2.2.2
theorem dLg_2 : (decode cL_law 202 = .ok (.iload_n 3, 1)) ∧ (decode cL_law 203 = .ok (.iconst 1, 1)) ∧ (decode cL_law 204 = .ok (.iadd, 1)) ∧ (decode cL_law 205 = .ok (.iaload, 1)) ∧ (decode cL_law 206 = .ok (.aload_n 0, 1)) ∧ (decode cL_law 207 = .ok (.iload_n 3, 1)) ∧ (decode cL_law 208 = .ok (.iconst 2, 1)) ∧ (decode cL_law 209 = .ok (.iadd, 1)) ∧ (decode cL_law 210 = .ok (.iaload, 1)) ∧ (decode cL_law 211 = .ok (.aload_n 0, 1)) ∧ (decode cL_law 212 = .ok (.iload_n 3, 1)) ∧ (decode cL_law 213 = .ok (.iconst 3, 1)) := by decide +kernel
theorem dL_law_202 : decode cL_law 202 = .ok (.iload_n 3, 1) := dLg_2.1
theorem dL_law_203 : decode cL_law 203 = .ok (.iconst 1, 1) := dLg_2.2.1
theorem dL_law_204 : decode cL_law 204 = .ok (.iadd, 1) := dLg_2.2.2.1
theorem dL_law_205 : decode cL_law 205 = .ok (.iaload, 1) := dLg_2.2.2.2.1
theorem dL_law_206 : decode cL_law 206 = .ok (.aload_n 0, 1) := dLg_2.2.2.2.2.1
theorem dL_law_207 : decode cL_law 207 = .ok (.iload_n 3, 1) := dLg_2.2.2.2.2.2.1
theorem dL_law_208 : decode cL_law 208 = .ok (.iconst 2, 1) := dLg_2.2.2.2.2.2.2.1
theorem dL_law_209 : decode cL_law 209 = .ok (.iadd, 1) := dLg_2.2.2.2.2.2.2.2.1
theorem dL_law_210 : decode cL_law 210 = .ok (.iaload, 1) := dLg_2.2.2.2.2.2.2.2.2.1
theorem dL_law_211 : decode cL_law 211 = .ok (.aload_n 0, 1) := dLg_2.2.2.2.2.2.2.2.2.2.1
theorem dL_law_212 : decode cL_law 212 = .ok (.iload_n 3, 1) := dLg_2.2.2.2.2.2.2.2.2.2.2.1
theorem dL_law_213 : decode cL_law 213 = .ok (.iconst 3, 1) := dLg_2.2.2.2.2.2.2.2.2.2.2.2
theorem dLg_3 : (decode cL_law 214 = .ok (.iadd, 1)) ∧ (decode cL_law 215 = .ok (.iaload, 1)) ∧ (decode cL_law 216 = .ok (.aload_n 0, 1)) ∧ (decode cL_law 217 = .ok (.iload_n 3, 1)) ∧ (decode cL_law 218 = .ok (.iconst 4, 1)) ∧ (decode cL_law 219 = .ok (.iadd, 1)) ∧ (decode cL_law 220 = .ok (.iaload, 1)) ∧ (decode cL_law 221 = .ok (.aload_n 0, 1)) ∧ (decode cL_law 222 = .ok (.iload_n 3, 1)) ∧ (decode cL_law 223 = .ok (.iconst 5, 1)) ∧ (decode cL_law 224 = .ok (.iadd, 1)) ∧ (decode cL_law 225 = .ok (.iaload, 1)) := by decide +kernel
theorem dL_law_214 : decode cL_law 214 = .ok (.iadd, 1) := dLg_3.1
theorem dL_law_215 : decode cL_law 215 = .ok (.iaload, 1) := dLg_3.2.1
theorem dL_law_216 : decode cL_law 216 = .ok (.aload_n 0, 1) := dLg_3.2.2.1
theorem dL_law_217 : decode cL_law 217 = .ok (.iload_n 3, 1) := dLg_3.2.2.2.1
theorem dL_law_218 : decode cL_law 218 = .ok (.iconst 4, 1) := dLg_3.2.2.2.2.1
theorem dL_law_219 : decode cL_law 219 = .ok (.iadd, 1) := dLg_3.2.2.2.2.2.1
theorem dL_law_220 : decode cL_law 220 = .ok (.iaload, 1) := dLg_3.2.2.2.2.2.2.1
theorem dL_law_221 : decode cL_law 221 = .ok (.aload_n 0, 1) := dLg_3.2.2.2.2.2.2.2.1
theorem dL_law_222 : decode cL_law 222 = .ok (.iload_n 3, 1) := dLg_3.2.2.2.2.2.2.2.2.1
theorem dL_law_223 : decode cL_law 223 = .ok (.iconst 5, 1) := dLg_3.2.2.2.2.2.2.2.2.2.1
theorem dL_law_224 : decode cL_law 224 = .ok (.iadd, 1) := dLg_3.2.2.2.2.2.2.2.2.2.2.1
theorem dL_law_225 : decode cL_law 225 = .ok (.iaload, 1) := dLg_3.2.2.2.2.2.2.2.2.2.2.2
theorem dLg_4 : (decode cL_law 226 = .ok (.invokevirtual 13, 3)) ∧ (decode cL_law 229 = .ok (.pop, 1)) ∧ (decode cL_law 230 = .ok (.aload_n 2, 1)) ∧ (decode cL_law 231 = .ok (.aload_n 0, 1)) ∧ (decode cL_law 232 = .ok (.iload_n 3, 1)) ∧ (decode cL_law 233 = .ok (.iconst 1, 1)) ∧ (decode cL_law 234 = .ok (.iadd, 1)) ∧ (decode cL_law 235 = .ok (.iaload, 1)) ∧ (decode cL_law 236 = .ok (.aload_n 0, 1)) ∧ (decode cL_law 237 = .ok (.iload_n 3, 1)) ∧ (decode cL_law 238 = .ok (.iconst 2, 1)) ∧ (decode cL_law 239 = .ok (.iadd, 1)) := by decide +kernel
theorem dL_law_226 : decode cL_law 226 = .ok (.invokevirtual 13, 3) := dLg_4.1
theorem dL_law_229 : decode cL_law 229 = .ok (.pop, 1) := dLg_4.2.1
theorem dL_law_230 : decode cL_law 230 = .ok (.aload_n 2, 1) := dLg_4.2.2.1
theorem dL_law_231 : decode cL_law 231 = .ok (.aload_n 0, 1) := dLg_4.2.2.2.1
theorem dL_law_232 : decode cL_law 232 = .ok (.iload_n 3, 1) := dLg_4.2.2.2.2.1
theorem dL_law_233 : decode cL_law 233 = .ok (.iconst 1, 1) := dLg_4.2.2.2.2.2.1
theorem dL_law_234 : decode cL_law 234 = .ok (.iadd, 1) := dLg_4.2.2.2.2.2.2.1
theorem dL_law_235 : decode cL_law 235 = .ok (.iaload, 1) := dLg_4.2.2.2.2.2.2.2.1
theorem dL_law_236 : decode cL_law 236 = .ok (.aload_n 0, 1) := dLg_4.2.2.2.2.2.2.2.2.1
theorem dL_law_237 : decode cL_law 237 = .ok (.iload_n 3, 1) := dLg_4.2.2.2.2.2.2.2.2.2.1
theorem dL_law_238 : decode cL_law 238 = .ok (.iconst 2, 1) := dLg_4.2.2.2.2.2.2.2.2.2.2.1
theorem dL_law_239 : decode cL_law 239 = .ok (.iadd, 1) := dLg_4.2.2.2.2.2.2.2.2.2.2.2
theorem dLg_5 : (decode cL_law 240 = .ok (.iaload, 1)) ∧ (decode cL_law 241 = .ok (.aload_n 0, 1)) ∧ (decode cL_law 242 = .ok (.iload_n 3, 1)) ∧ (decode cL_law 243 = .ok (.iconst 3, 1)) ∧ (decode cL_law 244 = .ok (.iadd, 1)) ∧ (decode cL_law 245 = .ok (.iaload, 1)) ∧ (decode cL_law 246 = .ok (.aload_n 0, 1)) ∧ (decode cL_law 247 = .ok (.iload_n 3, 1)) ∧ (decode cL_law 248 = .ok (.iconst 4, 1)) ∧ (decode cL_law 249 = .ok (.iadd, 1)) ∧ (decode cL_law 250 = .ok (.iaload, 1)) ∧ (decode cL_law 251 = .ok (.aload_n 0, 1)) := by decide +kernel
theorem dL_law_240 : decode cL_law 240 = .ok (.iaload, 1) := dLg_5.1
theorem dL_law_241 : decode cL_law 241 = .ok (.aload_n 0, 1) := dLg_5.2.1
theorem dL_law_242 : decode cL_law 242 = .ok (.iload_n 3, 1) := dLg_5.2.2.1
theorem dL_law_243 : decode cL_law 243 = .ok (.iconst 3, 1) := dLg_5.2.2.2.1
theorem dL_law_244 : decode cL_law 244 = .ok (.iadd, 1) := dLg_5.2.2.2.2.1
theorem dL_law_245 : decode cL_law 245 = .ok (.iaload, 1) := dLg_5.2.2.2.2.2.1
theorem dL_law_246 : decode cL_law 246 = .ok (.aload_n 0, 1) := dLg_5.2.2.2.2.2.2.1
theorem dL_law_247 : decode cL_law 247 = .ok (.iload_n 3, 1) := dLg_5.2.2.2.2.2.2.2.1
theorem dL_law_248 : decode cL_law 248 = .ok (.iconst 4, 1) := dLg_5.2.2.2.2.2.2.2.2.1
theorem dL_law_249 : decode cL_law 249 = .ok (.iadd, 1) := dLg_5.2.2.2.2.2.2.2.2.2.1
theorem dL_law_250 : decode cL_law 250 = .ok (.iaload, 1) := dLg_5.2.2.2.2.2.2.2.2.2.2.1
theorem dL_law_251 : decode cL_law 251 = .ok (.aload_n 0, 1) := dLg_5.2.2.2.2.2.2.2.2.2.2.2
theorem dLg_6 : (decode cL_law 252 = .ok (.iload_n 3, 1)) ∧ (decode cL_law 253 = .ok (.iconst 5, 1)) ∧ (decode cL_law 254 = .ok (.iadd, 1)) ∧ (decode cL_law 255 = .ok (.iaload, 1)) ∧ (decode cL_law 256 = .ok (.invokevirtual 17, 3)) ∧ (decode cL_law 259 = .ok (.pop, 1)) ∧ (decode cL_law 260 = .ok (.goto 1076, 3)) ∧ (decode cL_law 263 = .ok (.aload_n 1, 1)) ∧ (decode cL_law 264 = .ok (.aload_n 0, 1)) ∧ (decode cL_law 265 = .ok (.iload_n 3, 1)) ∧ (decode cL_law 266 = .ok (.iconst 1, 1)) ∧ (decode cL_law 267 = .ok (.iadd, 1)) := by decide +kernel
theorem dL_law_252 : decode cL_law 252 = .ok (.iload_n 3, 1) := dLg_6.1
theorem dL_law_253 : decode cL_law 253 = .ok (.iconst 5, 1) := dLg_6.2.1
theorem dL_law_254 : decode cL_law 254 = .ok (.iadd, 1) := dLg_6.2.2.1
theorem dL_law_255 : decode cL_law 255 = .ok (.iaload, 1) := dLg_6.2.2.2.1
theorem dL_law_256 : decode cL_law 256 = .ok (.invokevirtual 17, 3) := dLg_6.2.2.2.2.1
theorem dL_law_259 : decode cL_law 259 = .ok (.pop, 1) := dLg_6.2.2.2.2.2.1
theorem dL_law_260 : decode cL_law 260 = .ok (.goto 1076, 3) := dLg_6.2.2.2.2.2.2.1
theorem dL_law_263 : decode cL_law 263 = .ok (.aload_n 1, 1) := dLg_6.2.2.2.2.2.2.2.1
theorem dL_law_264 : decode cL_law 264 = .ok (.aload_n 0, 1) := dLg_6.2.2.2.2.2.2.2.2.1
theorem dL_law_265 : decode cL_law 265 = .ok (.iload_n 3, 1) := dLg_6.2.2.2.2.2.2.2.2.2.1
theorem dL_law_266 : decode cL_law 266 = .ok (.iconst 1, 1) := dLg_6.2.2.2.2.2.2.2.2.2.2.1
theorem dL_law_267 : decode cL_law 267 = .ok (.iadd, 1) := dLg_6.2.2.2.2.2.2.2.2.2.2.2
theorem dLg_7 : (decode cL_law 268 = .ok (.iaload, 1)) ∧ (decode cL_law 269 = .ok (.invokevirtual 18, 3)) ∧ (decode cL_law 272 = .ok (.pop, 1)) ∧ (decode cL_law 273 = .ok (.aload_n 2, 1)) ∧ (decode cL_law 274 = .ok (.aload_n 0, 1)) ∧ (decode cL_law 275 = .ok (.iload_n 3, 1)) ∧ (decode cL_law 276 = .ok (.iconst 1, 1)) ∧ (decode cL_law 277 = .ok (.iadd, 1)) ∧ (decode cL_law 278 = .ok (.iaload, 1)) ∧ (decode cL_law 279 = .ok (.invokevirtual 22, 3)) ∧ (decode cL_law 282 = .ok (.pop, 1)) ∧ (decode cL_law 283 = .ok (.goto 1053, 3)) := by decide +kernel
theorem dL_law_268 : decode cL_law 268 = .ok (.iaload, 1) := dLg_7.1
theorem dL_law_269 : decode cL_law 269 = .ok (.invokevirtual 18, 3) := dLg_7.2.1
theorem dL_law_272 : decode cL_law 272 = .ok (.pop, 1) := dLg_7.2.2.1
theorem dL_law_273 : decode cL_law 273 = .ok (.aload_n 2, 1) := dLg_7.2.2.2.1
theorem dL_law_274 : decode cL_law 274 = .ok (.aload_n 0, 1) := dLg_7.2.2.2.2.1
theorem dL_law_275 : decode cL_law 275 = .ok (.iload_n 3, 1) := dLg_7.2.2.2.2.2.1
theorem dL_law_276 : decode cL_law 276 = .ok (.iconst 1, 1) := dLg_7.2.2.2.2.2.2.1
theorem dL_law_277 : decode cL_law 277 = .ok (.iadd, 1) := dLg_7.2.2.2.2.2.2.2.1
theorem dL_law_278 : decode cL_law 278 = .ok (.iaload, 1) := dLg_7.2.2.2.2.2.2.2.2.1
theorem dL_law_279 : decode cL_law 279 = .ok (.invokevirtual 22, 3) := dLg_7.2.2.2.2.2.2.2.2.2.1
theorem dL_law_282 : decode cL_law 282 = .ok (.pop, 1) := dLg_7.2.2.2.2.2.2.2.2.2.2.1
theorem dL_law_283 : decode cL_law 283 = .ok (.goto 1053, 3) := dLg_7.2.2.2.2.2.2.2.2.2.2.2
theorem dLg_8 : (decode cL_law 286 = .ok (.aload_n 1, 1)) ∧ (decode cL_law 287 = .ok (.invokevirtual 23, 3)) ∧ (decode cL_law 290 = .ok (.pop, 1)) ∧ (decode cL_law 291 = .ok (.aload_n 2, 1)) ∧ (decode cL_law 292 = .ok (.invokevirtual 27, 3)) ∧ (decode cL_law 295 = .ok (.pop, 1)) ∧ (decode cL_law 296 = .ok (.goto 1040, 3)) ∧ (decode cL_law 299 = .ok (.aload_n 1, 1)) ∧ (decode cL_law 300 = .ok (.invokevirtual 28, 3)) ∧ (decode cL_law 303 = .ok (.pop, 1)) ∧ (decode cL_law 304 = .ok (.aload_n 2, 1)) ∧ (decode cL_law 305 = .ok (.invokevirtual 31, 3)) := by decide +kernel
theorem dL_law_286 : decode cL_law 286 = .ok (.aload_n 1, 1) := dLg_8.1
theorem dL_law_287 : decode cL_law 287 = .ok (.invokevirtual 23, 3) := dLg_8.2.1
theorem dL_law_290 : decode cL_law 290 = .ok (.pop, 1) := dLg_8.2.2.1
theorem dL_law_291 : decode cL_law 291 = .ok (.aload_n 2, 1) := dLg_8.2.2.2.1
theorem dL_law_292 : decode cL_law 292 = .ok (.invokevirtual 27, 3) := dLg_8.2.2.2.2.1
theorem dL_law_295 : decode cL_law 295 = .ok (.pop, 1) := dLg_8.2.2.2.2.2.1
theorem dL_law_296 : decode cL_law 296 = .ok (.goto 1040, 3) := dLg_8.2.2.2.2.2.2.1
theorem dL_law_299 : decode cL_law 299 = .ok (.aload_n 1, 1) := dLg_8.2.2.2.2.2.2.2.1
theorem dL_law_300 : decode cL_law 300 = .ok (.invokevirtual 28, 3) := dLg_8.2.2.2.2.2.2.2.2.1
theorem dL_law_303 : decode cL_law 303 = .ok (.pop, 1) := dLg_8.2.2.2.2.2.2.2.2.2.1
theorem dL_law_304 : decode cL_law 304 = .ok (.aload_n 2, 1) := dLg_8.2.2.2.2.2.2.2.2.2.2.1
theorem dL_law_305 : decode cL_law 305 = .ok (.invokevirtual 31, 3) := dLg_8.2.2.2.2.2.2.2.2.2.2.2
theorem dLg_9 : (decode cL_law 308 = .ok (.pop, 1)) ∧ (decode cL_law 309 = .ok (.goto 1027, 3)) ∧ (decode cL_law 312 = .ok (.aload_n 1, 1)) ∧ (decode cL_law 313 = .ok (.aload_n 0, 1)) ∧ (decode cL_law 314 = .ok (.iload_n 3, 1)) ∧ (decode cL_law 315 = .ok (.iconst 1, 1)) ∧ (decode cL_law 316 = .ok (.iadd, 1)) ∧ (decode cL_law 317 = .ok (.iaload, 1)) ∧ (decode cL_law 318 = .ok (.aload_n 0, 1)) ∧ (decode cL_law 319 = .ok (.iload_n 3, 1)) ∧ (decode cL_law 320 = .ok (.iconst 2, 1)) ∧ (decode cL_law 321 = .ok (.iadd, 1)) := by decide +kernel
theorem dL_law_308 : decode cL_law 308 = .ok (.pop, 1) := dLg_9.1
theorem dL_law_309 : decode cL_law 309 = .ok (.goto 1027, 3) := dLg_9.2.1
theorem dL_law_312 : decode cL_law 312 = .ok (.aload_n 1, 1) := dLg_9.2.2.1
theorem dL_law_313 : decode cL_law 313 = .ok (.aload_n 0, 1) := dLg_9.2.2.2.1
theorem dL_law_314 : decode cL_law 314 = .ok (.iload_n 3, 1) := dLg_9.2.2.2.2.1
theorem dL_law_315 : decode cL_law 315 = .ok (.iconst 1, 1) := dLg_9.2.2.2.2.2.1
theorem dL_law_316 : decode cL_law 316 = .ok (.iadd, 1) := dLg_9.2.2.2.2.2.2.1
theorem dL_law_317 : decode cL_law 317 = .ok (.iaload, 1) := dLg_9.2.2.2.2.2.2.2.1
theorem dL_law_318 : decode cL_law 318 = .ok (.aload_n 0, 1) := dLg_9.2.2.2.2.2.2.2.2.1
theorem dL_law_319 : decode cL_law 319 = .ok (.iload_n 3, 1) := dLg_9.2.2.2.2.2.2.2.2.2.1
theorem dL_law_320 : decode cL_law 320 = .ok (.iconst 2, 1) := dLg_9.2.2.2.2.2.2.2.2.2.2.1
theorem dL_law_321 : decode cL_law 321 = .ok (.iadd, 1) := dLg_9.2.2.2.2.2.2.2.2.2.2.2
theorem dLg_10 : (decode cL_law 322 = .ok (.iaload, 1)) ∧ (decode cL_law 323 = .ok (.invokevirtual 32, 3)) ∧ (decode cL_law 326 = .ok (.pop, 1)) ∧ (decode cL_law 327 = .ok (.aload_n 2, 1)) ∧ (decode cL_law 328 = .ok (.aload_n 0, 1)) ∧ (decode cL_law 329 = .ok (.iload_n 3, 1)) ∧ (decode cL_law 330 = .ok (.iconst 1, 1)) ∧ (decode cL_law 331 = .ok (.iadd, 1)) ∧ (decode cL_law 332 = .ok (.iaload, 1)) ∧ (decode cL_law 333 = .ok (.aload_n 0, 1)) ∧ (decode cL_law 334 = .ok (.iload_n 3, 1)) ∧ (decode cL_law 335 = .ok (.iconst 2, 1)) := by decide +kernel
theorem dL_law_322 : decode cL_law 322 = .ok (.iaload, 1) := dLg_10.1
theorem dL_law_323 : decode cL_law 323 = .ok (.invokevirtual 32, 3) := dLg_10.2.1
theorem dL_law_326 : decode cL_law 326 = .ok (.pop, 1) := dLg_10.2.2.1
theorem dL_law_327 : decode cL_law 327 = .ok (.aload_n 2, 1) := dLg_10.2.2.2.1
theorem dL_law_328 : decode cL_law 328 = .ok (.aload_n 0, 1) := dLg_10.2.2.2.2.1
theorem dL_law_329 : decode cL_law 329 = .ok (.iload_n 3, 1) := dLg_10.2.2.2.2.2.1
theorem dL_law_330 : decode cL_law 330 = .ok (.iconst 1, 1) := dLg_10.2.2.2.2.2.2.1
theorem dL_law_331 : decode cL_law 331 = .ok (.iadd, 1) := dLg_10.2.2.2.2.2.2.2.1
theorem dL_law_332 : decode cL_law 332 = .ok (.iaload, 1) := dLg_10.2.2.2.2.2.2.2.2.1
theorem dL_law_333 : decode cL_law 333 = .ok (.aload_n 0, 1) := dLg_10.2.2.2.2.2.2.2.2.2.1
theorem dL_law_334 : decode cL_law 334 = .ok (.iload_n 3, 1) := dLg_10.2.2.2.2.2.2.2.2.2.2.1
theorem dL_law_335 : decode cL_law 335 = .ok (.iconst 2, 1) := dLg_10.2.2.2.2.2.2.2.2.2.2.2
theorem dLg_11 : (decode cL_law 336 = .ok (.iadd, 1)) ∧ (decode cL_law 337 = .ok (.iaload, 1)) ∧ (decode cL_law 338 = .ok (.invokevirtual 36, 3)) ∧ (decode cL_law 341 = .ok (.pop, 1)) ∧ (decode cL_law 342 = .ok (.goto 994, 3)) ∧ (decode cL_law 345 = .ok (.aload_n 1, 1)) ∧ (decode cL_law 346 = .ok (.aload_n 0, 1)) ∧ (decode cL_law 347 = .ok (.iload_n 3, 1)) ∧ (decode cL_law 348 = .ok (.iconst 1, 1)) ∧ (decode cL_law 349 = .ok (.iadd, 1)) ∧ (decode cL_law 350 = .ok (.iaload, 1)) ∧ (decode cL_law 351 = .ok (.aload_n 0, 1)) := by decide +kernel
theorem dL_law_336 : decode cL_law 336 = .ok (.iadd, 1) := dLg_11.1
theorem dL_law_337 : decode cL_law 337 = .ok (.iaload, 1) := dLg_11.2.1
theorem dL_law_338 : decode cL_law 338 = .ok (.invokevirtual 36, 3) := dLg_11.2.2.1
theorem dL_law_341 : decode cL_law 341 = .ok (.pop, 1) := dLg_11.2.2.2.1
theorem dL_law_342 : decode cL_law 342 = .ok (.goto 994, 3) := dLg_11.2.2.2.2.1
theorem dL_law_345 : decode cL_law 345 = .ok (.aload_n 1, 1) := dLg_11.2.2.2.2.2.1
theorem dL_law_346 : decode cL_law 346 = .ok (.aload_n 0, 1) := dLg_11.2.2.2.2.2.2.1
theorem dL_law_347 : decode cL_law 347 = .ok (.iload_n 3, 1) := dLg_11.2.2.2.2.2.2.2.1
theorem dL_law_348 : decode cL_law 348 = .ok (.iconst 1, 1) := dLg_11.2.2.2.2.2.2.2.2.1
theorem dL_law_349 : decode cL_law 349 = .ok (.iadd, 1) := dLg_11.2.2.2.2.2.2.2.2.2.1
theorem dL_law_350 : decode cL_law 350 = .ok (.iaload, 1) := dLg_11.2.2.2.2.2.2.2.2.2.2.1
theorem dL_law_351 : decode cL_law 351 = .ok (.aload_n 0, 1) := dLg_11.2.2.2.2.2.2.2.2.2.2.2
theorem dLg_12 : (decode cL_law 352 = .ok (.iload_n 3, 1)) ∧ (decode cL_law 353 = .ok (.iconst 2, 1)) ∧ (decode cL_law 354 = .ok (.iadd, 1)) ∧ (decode cL_law 355 = .ok (.iaload, 1)) ∧ (decode cL_law 356 = .ok (.invokevirtual 37, 3)) ∧ (decode cL_law 359 = .ok (.pop, 1)) ∧ (decode cL_law 360 = .ok (.aload_n 2, 1)) ∧ (decode cL_law 361 = .ok (.aload_n 0, 1)) ∧ (decode cL_law 362 = .ok (.iload_n 3, 1)) ∧ (decode cL_law 363 = .ok (.iconst 1, 1)) ∧ (decode cL_law 364 = .ok (.iadd, 1)) ∧ (decode cL_law 365 = .ok (.iaload, 1)) := by decide +kernel
theorem dL_law_352 : decode cL_law 352 = .ok (.iload_n 3, 1) := dLg_12.1
theorem dL_law_353 : decode cL_law 353 = .ok (.iconst 2, 1) := dLg_12.2.1
theorem dL_law_354 : decode cL_law 354 = .ok (.iadd, 1) := dLg_12.2.2.1
theorem dL_law_355 : decode cL_law 355 = .ok (.iaload, 1) := dLg_12.2.2.2.1
theorem dL_law_356 : decode cL_law 356 = .ok (.invokevirtual 37, 3) := dLg_12.2.2.2.2.1
theorem dL_law_359 : decode cL_law 359 = .ok (.pop, 1) := dLg_12.2.2.2.2.2.1
theorem dL_law_360 : decode cL_law 360 = .ok (.aload_n 2, 1) := dLg_12.2.2.2.2.2.2.1
theorem dL_law_361 : decode cL_law 361 = .ok (.aload_n 0, 1) := dLg_12.2.2.2.2.2.2.2.1
theorem dL_law_362 : decode cL_law 362 = .ok (.iload_n 3, 1) := dLg_12.2.2.2.2.2.2.2.2.1
theorem dL_law_363 : decode cL_law 363 = .ok (.iconst 1, 1) := dLg_12.2.2.2.2.2.2.2.2.2.1
theorem dL_law_364 : decode cL_law 364 = .ok (.iadd, 1) := dLg_12.2.2.2.2.2.2.2.2.2.2.1
theorem dL_law_365 : decode cL_law 365 = .ok (.iaload, 1) := dLg_12.2.2.2.2.2.2.2.2.2.2.2
theorem dLg_13 : (decode cL_law 366 = .ok (.aload_n 0, 1)) ∧ (decode cL_law 367 = .ok (.iload_n 3, 1)) ∧ (decode cL_law 368 = .ok (.iconst 2, 1)) ∧ (decode cL_law 369 = .ok (.iadd, 1)) ∧ (decode cL_law 370 = .ok (.iaload, 1)) ∧ (decode cL_law 371 = .ok (.invokevirtual 40, 3)) ∧ (decode cL_law 374 = .ok (.pop, 1)) ∧ (decode cL_law 375 = .ok (.goto 961, 3)) ∧ (decode cL_law 378 = .ok (.aload_n 1, 1)) ∧ (decode cL_law 379 = .ok (.aload_n 0, 1)) ∧ (decode cL_law 380 = .ok (.iload_n 3, 1)) ∧ (decode cL_law 381 = .ok (.iconst 1, 1)) := by decide +kernel
theorem dL_law_366 : decode cL_law 366 = .ok (.aload_n 0, 1) := dLg_13.1
theorem dL_law_367 : decode cL_law 367 = .ok (.iload_n 3, 1) := dLg_13.2.1
theorem dL_law_368 : decode cL_law 368 = .ok (.iconst 2, 1) := dLg_13.2.2.1
theorem dL_law_369 : decode cL_law 369 = .ok (.iadd, 1) := dLg_13.2.2.2.1
theorem dL_law_370 : decode cL_law 370 = .ok (.iaload, 1) := dLg_13.2.2.2.2.1
theorem dL_law_371 : decode cL_law 371 = .ok (.invokevirtual 40, 3) := dLg_13.2.2.2.2.2.1
theorem dL_law_374 : decode cL_law 374 = .ok (.pop, 1) := dLg_13.2.2.2.2.2.2.1
theorem dL_law_375 : decode cL_law 375 = .ok (.goto 961, 3) := dLg_13.2.2.2.2.2.2.2.1
theorem dL_law_378 : decode cL_law 378 = .ok (.aload_n 1, 1) := dLg_13.2.2.2.2.2.2.2.2.1
theorem dL_law_379 : decode cL_law 379 = .ok (.aload_n 0, 1) := dLg_13.2.2.2.2.2.2.2.2.2.1
theorem dL_law_380 : decode cL_law 380 = .ok (.iload_n 3, 1) := dLg_13.2.2.2.2.2.2.2.2.2.2.1
theorem dL_law_381 : decode cL_law 381 = .ok (.iconst 1, 1) := dLg_13.2.2.2.2.2.2.2.2.2.2.2
theorem dLg_14 : (decode cL_law 382 = .ok (.iadd, 1)) ∧ (decode cL_law 383 = .ok (.iaload, 1)) ∧ (decode cL_law 384 = .ok (.invokevirtual 41, 3)) ∧ (decode cL_law 387 = .ok (.pop, 1)) ∧ (decode cL_law 388 = .ok (.aload_n 2, 1)) ∧ (decode cL_law 389 = .ok (.aload_n 0, 1)) ∧ (decode cL_law 390 = .ok (.iload_n 3, 1)) ∧ (decode cL_law 391 = .ok (.iconst 1, 1)) ∧ (decode cL_law 392 = .ok (.iadd, 1)) ∧ (decode cL_law 393 = .ok (.iaload, 1)) ∧ (decode cL_law 394 = .ok (.invokevirtual 44, 3)) ∧ (decode cL_law 397 = .ok (.pop, 1)) := by decide +kernel
theorem dL_law_382 : decode cL_law 382 = .ok (.iadd, 1) := dLg_14.1
theorem dL_law_383 : decode cL_law 383 = .ok (.iaload, 1) := dLg_14.2.1
theorem dL_law_384 : decode cL_law 384 = .ok (.invokevirtual 41, 3) := dLg_14.2.2.1
theorem dL_law_387 : decode cL_law 387 = .ok (.pop, 1) := dLg_14.2.2.2.1
theorem dL_law_388 : decode cL_law 388 = .ok (.aload_n 2, 1) := dLg_14.2.2.2.2.1
theorem dL_law_389 : decode cL_law 389 = .ok (.aload_n 0, 1) := dLg_14.2.2.2.2.2.1
theorem dL_law_390 : decode cL_law 390 = .ok (.iload_n 3, 1) := dLg_14.2.2.2.2.2.2.1
theorem dL_law_391 : decode cL_law 391 = .ok (.iconst 1, 1) := dLg_14.2.2.2.2.2.2.2.1
theorem dL_law_392 : decode cL_law 392 = .ok (.iadd, 1) := dLg_14.2.2.2.2.2.2.2.2.1
theorem dL_law_393 : decode cL_law 393 = .ok (.iaload, 1) := dLg_14.2.2.2.2.2.2.2.2.2.1
theorem dL_law_394 : decode cL_law 394 = .ok (.invokevirtual 44, 3) := dLg_14.2.2.2.2.2.2.2.2.2.2.1
theorem dL_law_397 : decode cL_law 397 = .ok (.pop, 1) := dLg_14.2.2.2.2.2.2.2.2.2.2.2
theorem dLg_15 : (decode cL_law 398 = .ok (.goto 938, 3)) ∧ (decode cL_law 401 = .ok (.aload_n 1, 1)) ∧ (decode cL_law 402 = .ok (.aload_n 0, 1)) ∧ (decode cL_law 403 = .ok (.iload_n 3, 1)) ∧ (decode cL_law 404 = .ok (.iconst 1, 1)) ∧ (decode cL_law 405 = .ok (.iadd, 1)) ∧ (decode cL_law 406 = .ok (.iaload, 1)) ∧ (decode cL_law 407 = .ok (.aload_n 0, 1)) ∧ (decode cL_law 408 = .ok (.iload_n 3, 1)) ∧ (decode cL_law 409 = .ok (.iconst 2, 1)) ∧ (decode cL_law 410 = .ok (.iadd, 1)) ∧ (decode cL_law 411 = .ok (.iaload, 1)) := by decide +kernel
theorem dL_law_398 : decode cL_law 398 = .ok (.goto 938, 3) := dLg_15.1
theorem dL_law_401 : decode cL_law 401 = .ok (.aload_n 1, 1) := dLg_15.2.1
theorem dL_law_402 : decode cL_law 402 = .ok (.aload_n 0, 1) := dLg_15.2.2.1
theorem dL_law_403 : decode cL_law 403 = .ok (.iload_n 3, 1) := dLg_15.2.2.2.1
theorem dL_law_404 : decode cL_law 404 = .ok (.iconst 1, 1) := dLg_15.2.2.2.2.1
theorem dL_law_405 : decode cL_law 405 = .ok (.iadd, 1) := dLg_15.2.2.2.2.2.1
theorem dL_law_406 : decode cL_law 406 = .ok (.iaload, 1) := dLg_15.2.2.2.2.2.2.1
theorem dL_law_407 : decode cL_law 407 = .ok (.aload_n 0, 1) := dLg_15.2.2.2.2.2.2.2.1
theorem dL_law_408 : decode cL_law 408 = .ok (.iload_n 3, 1) := dLg_15.2.2.2.2.2.2.2.2.1
theorem dL_law_409 : decode cL_law 409 = .ok (.iconst 2, 1) := dLg_15.2.2.2.2.2.2.2.2.2.1
theorem dL_law_410 : decode cL_law 410 = .ok (.iadd, 1) := dLg_15.2.2.2.2.2.2.2.2.2.2.1
theorem dL_law_411 : decode cL_law 411 = .ok (.iaload, 1) := dLg_15.2.2.2.2.2.2.2.2.2.2.2
theorem dLg_16 : (decode cL_law 412 = .ok (.ifCond .eq 7, 3)) ∧ (decode cL_law 415 = .ok (.iconst 1, 1)) ∧ (decode cL_law 416 = .ok (.goto 4, 3)) ∧ (decode cL_law 419 = .ok (.iconst 0, 1)) ∧ (decode cL_law 420 = .ok (.invokevirtual 45, 3)) ∧ (decode cL_law 423 = .ok (.pop, 1)) ∧ (decode cL_law 424 = .ok (.aload_n 2, 1)) ∧ (decode cL_law 425 = .ok (.aload_n 0, 1)) ∧ (decode cL_law 426 = .ok (.iload_n 3, 1)) ∧ (decode cL_law 427 = .ok (.iconst 1, 1)) ∧ (decode cL_law 428 = .ok (.iadd, 1)) ∧ (decode cL_law 429 = .ok (.iaload, 1)) := by decide +kernel
theorem dL_law_412 : decode cL_law 412 = .ok (.ifCond .eq 7, 3) := dLg_16.1
theorem dL_law_415 : decode cL_law 415 = .ok (.iconst 1, 1) := dLg_16.2.1
theorem dL_law_416 : decode cL_law 416 = .ok (.goto 4, 3) := dLg_16.2.2.1
theorem dL_law_419 : decode cL_law 419 = .ok (.iconst 0, 1) := dLg_16.2.2.2.1
theorem dL_law_420 : decode cL_law 420 = .ok (.invokevirtual 45, 3) := dLg_16.2.2.2.2.1
theorem dL_law_423 : decode cL_law 423 = .ok (.pop, 1) := dLg_16.2.2.2.2.2.1
theorem dL_law_424 : decode cL_law 424 = .ok (.aload_n 2, 1) := dLg_16.2.2.2.2.2.2.1
theorem dL_law_425 : decode cL_law 425 = .ok (.aload_n 0, 1) := dLg_16.2.2.2.2.2.2.2.1
theorem dL_law_426 : decode cL_law 426 = .ok (.iload_n 3, 1) := dLg_16.2.2.2.2.2.2.2.2.1
theorem dL_law_427 : decode cL_law 427 = .ok (.iconst 1, 1) := dLg_16.2.2.2.2.2.2.2.2.2.1
theorem dL_law_428 : decode cL_law 428 = .ok (.iadd, 1) := dLg_16.2.2.2.2.2.2.2.2.2.2.1
theorem dL_law_429 : decode cL_law 429 = .ok (.iaload, 1) := dLg_16.2.2.2.2.2.2.2.2.2.2.2
theorem dLg_17 : (decode cL_law 430 = .ok (.aload_n 0, 1)) ∧ (decode cL_law 431 = .ok (.iload_n 3, 1)) ∧ (decode cL_law 432 = .ok (.iconst 2, 1)) ∧ (decode cL_law 433 = .ok (.iadd, 1)) ∧ (decode cL_law 434 = .ok (.iaload, 1)) ∧ (decode cL_law 435 = .ok (.ifCond .eq 7, 3)) ∧ (decode cL_law 438 = .ok (.iconst 1, 1)) ∧ (decode cL_law 439 = .ok (.goto 4, 3)) ∧ (decode cL_law 442 = .ok (.iconst 0, 1)) ∧ (decode cL_law 443 = .ok (.invokevirtual 49, 3)) ∧ (decode cL_law 446 = .ok (.pop, 1)) ∧ (decode cL_law 447 = .ok (.goto 889, 3)) := by decide +kernel
theorem dL_law_430 : decode cL_law 430 = .ok (.aload_n 0, 1) := dLg_17.1
theorem dL_law_431 : decode cL_law 431 = .ok (.iload_n 3, 1) := dLg_17.2.1
theorem dL_law_432 : decode cL_law 432 = .ok (.iconst 2, 1) := dLg_17.2.2.1
theorem dL_law_433 : decode cL_law 433 = .ok (.iadd, 1) := dLg_17.2.2.2.1
theorem dL_law_434 : decode cL_law 434 = .ok (.iaload, 1) := dLg_17.2.2.2.2.1
theorem dL_law_435 : decode cL_law 435 = .ok (.ifCond .eq 7, 3) := dLg_17.2.2.2.2.2.1
theorem dL_law_438 : decode cL_law 438 = .ok (.iconst 1, 1) := dLg_17.2.2.2.2.2.2.1
theorem dL_law_439 : decode cL_law 439 = .ok (.goto 4, 3) := dLg_17.2.2.2.2.2.2.2.1
theorem dL_law_442 : decode cL_law 442 = .ok (.iconst 0, 1) := dLg_17.2.2.2.2.2.2.2.2.1
theorem dL_law_443 : decode cL_law 443 = .ok (.invokevirtual 49, 3) := dLg_17.2.2.2.2.2.2.2.2.2.1
theorem dL_law_446 : decode cL_law 446 = .ok (.pop, 1) := dLg_17.2.2.2.2.2.2.2.2.2.2.1
theorem dL_law_447 : decode cL_law 447 = .ok (.goto 889, 3) := dLg_17.2.2.2.2.2.2.2.2.2.2.2
theorem dLg_18 : (decode cL_law 450 = .ok (.aload_n 1, 1)) ∧ (decode cL_law 451 = .ok (.aload_n 0, 1)) ∧ (decode cL_law 452 = .ok (.iload_n 3, 1)) ∧ (decode cL_law 453 = .ok (.iconst 1, 1)) ∧ (decode cL_law 454 = .ok (.iadd, 1)) ∧ (decode cL_law 455 = .ok (.iaload, 1)) ∧ (decode cL_law 456 = .ok (.aload_n 0, 1)) ∧ (decode cL_law 457 = .ok (.iload_n 3, 1)) ∧ (decode cL_law 458 = .ok (.iconst 2, 1)) ∧ (decode cL_law 459 = .ok (.iadd, 1)) ∧ (decode cL_law 460 = .ok (.iaload, 1)) ∧ (decode cL_law 461 = .ok (.invokevirtual 50, 3)) := by decide +kernel
theorem dL_law_450 : decode cL_law 450 = .ok (.aload_n 1, 1) := dLg_18.1
theorem dL_law_451 : decode cL_law 451 = .ok (.aload_n 0, 1) := dLg_18.2.1
theorem dL_law_452 : decode cL_law 452 = .ok (.iload_n 3, 1) := dLg_18.2.2.1
theorem dL_law_453 : decode cL_law 453 = .ok (.iconst 1, 1) := dLg_18.2.2.2.1
theorem dL_law_454 : decode cL_law 454 = .ok (.iadd, 1) := dLg_18.2.2.2.2.1
theorem dL_law_455 : decode cL_law 455 = .ok (.iaload, 1) := dLg_18.2.2.2.2.2.1
theorem dL_law_456 : decode cL_law 456 = .ok (.aload_n 0, 1) := dLg_18.2.2.2.2.2.2.1
theorem dL_law_457 : decode cL_law 457 = .ok (.iload_n 3, 1) := dLg_18.2.2.2.2.2.2.2.1
theorem dL_law_458 : decode cL_law 458 = .ok (.iconst 2, 1) := dLg_18.2.2.2.2.2.2.2.2.1
theorem dL_law_459 : decode cL_law 459 = .ok (.iadd, 1) := dLg_18.2.2.2.2.2.2.2.2.2.1
theorem dL_law_460 : decode cL_law 460 = .ok (.iaload, 1) := dLg_18.2.2.2.2.2.2.2.2.2.2.1
theorem dL_law_461 : decode cL_law 461 = .ok (.invokevirtual 50, 3) := dLg_18.2.2.2.2.2.2.2.2.2.2.2
theorem dLg_19 : (decode cL_law 464 = .ok (.pop, 1)) ∧ (decode cL_law 465 = .ok (.aload_n 2, 1)) ∧ (decode cL_law 466 = .ok (.aload_n 0, 1)) ∧ (decode cL_law 467 = .ok (.iload_n 3, 1)) ∧ (decode cL_law 468 = .ok (.iconst 1, 1)) ∧ (decode cL_law 469 = .ok (.iadd, 1)) ∧ (decode cL_law 470 = .ok (.iaload, 1)) ∧ (decode cL_law 471 = .ok (.aload_n 0, 1)) ∧ (decode cL_law 472 = .ok (.iload_n 3, 1)) ∧ (decode cL_law 473 = .ok (.iconst 2, 1)) ∧ (decode cL_law 474 = .ok (.iadd, 1)) ∧ (decode cL_law 475 = .ok (.iaload, 1)) := by decide +kernel
theorem dL_law_464 : decode cL_law 464 = .ok (.pop, 1) := dLg_19.1
theorem dL_law_465 : decode cL_law 465 = .ok (.aload_n 2, 1) := dLg_19.2.1
theorem dL_law_466 : decode cL_law 466 = .ok (.aload_n 0, 1) := dLg_19.2.2.1
theorem dL_law_467 : decode cL_law 467 = .ok (.iload_n 3, 1) := dLg_19.2.2.2.1
theorem dL_law_468 : decode cL_law 468 = .ok (.iconst 1, 1) := dLg_19.2.2.2.2.1
theorem dL_law_469 : decode cL_law 469 = .ok (.iadd, 1) := dLg_19.2.2.2.2.2.1
theorem dL_law_470 : decode cL_law 470 = .ok (.iaload, 1) := dLg_19.2.2.2.2.2.2.1
theorem dL_law_471 : decode cL_law 471 = .ok (.aload_n 0, 1) := dLg_19.2.2.2.2.2.2.2.1
theorem dL_law_472 : decode cL_law 472 = .ok (.iload_n 3, 1) := dLg_19.2.2.2.2.2.2.2.2.1
theorem dL_law_473 : decode cL_law 473 = .ok (.iconst 2, 1) := dLg_19.2.2.2.2.2.2.2.2.2.1
theorem dL_law_474 : decode cL_law 474 = .ok (.iadd, 1) := dLg_19.2.2.2.2.2.2.2.2.2.2.1
theorem dL_law_475 : decode cL_law 475 = .ok (.iaload, 1) := dLg_19.2.2.2.2.2.2.2.2.2.2.2
theorem dLg_20 : (decode cL_law 476 = .ok (.invokevirtual 54, 3)) ∧ (decode cL_law 479 = .ok (.pop, 1)) ∧ (decode cL_law 480 = .ok (.goto 856, 3)) ∧ (decode cL_law 483 = .ok (.aload_n 1, 1)) ∧ (decode cL_law 484 = .ok (.aload_n 0, 1)) ∧ (decode cL_law 485 = .ok (.iload_n 3, 1)) ∧ (decode cL_law 486 = .ok (.iconst 1, 1)) ∧ (decode cL_law 487 = .ok (.iadd, 1)) ∧ (decode cL_law 488 = .ok (.iaload, 1)) ∧ (decode cL_law 489 = .ok (.invokevirtual 55, 3)) ∧ (decode cL_law 492 = .ok (.pop, 1)) ∧ (decode cL_law 493 = .ok (.aload_n 2, 1)) := by decide +kernel
theorem dL_law_476 : decode cL_law 476 = .ok (.invokevirtual 54, 3) := dLg_20.1
theorem dL_law_479 : decode cL_law 479 = .ok (.pop, 1) := dLg_20.2.1
theorem dL_law_480 : decode cL_law 480 = .ok (.goto 856, 3) := dLg_20.2.2.1
theorem dL_law_483 : decode cL_law 483 = .ok (.aload_n 1, 1) := dLg_20.2.2.2.1
theorem dL_law_484 : decode cL_law 484 = .ok (.aload_n 0, 1) := dLg_20.2.2.2.2.1
theorem dL_law_485 : decode cL_law 485 = .ok (.iload_n 3, 1) := dLg_20.2.2.2.2.2.1
theorem dL_law_486 : decode cL_law 486 = .ok (.iconst 1, 1) := dLg_20.2.2.2.2.2.2.1
theorem dL_law_487 : decode cL_law 487 = .ok (.iadd, 1) := dLg_20.2.2.2.2.2.2.2.1
theorem dL_law_488 : decode cL_law 488 = .ok (.iaload, 1) := dLg_20.2.2.2.2.2.2.2.2.1
theorem dL_law_489 : decode cL_law 489 = .ok (.invokevirtual 55, 3) := dLg_20.2.2.2.2.2.2.2.2.2.1
theorem dL_law_492 : decode cL_law 492 = .ok (.pop, 1) := dLg_20.2.2.2.2.2.2.2.2.2.2.1
theorem dL_law_493 : decode cL_law 493 = .ok (.aload_n 2, 1) := dLg_20.2.2.2.2.2.2.2.2.2.2.2
theorem dLg_21 : (decode cL_law 494 = .ok (.aload_n 0, 1)) ∧ (decode cL_law 495 = .ok (.iload_n 3, 1)) ∧ (decode cL_law 496 = .ok (.iconst 1, 1)) ∧ (decode cL_law 497 = .ok (.iadd, 1)) ∧ (decode cL_law 498 = .ok (.iaload, 1)) ∧ (decode cL_law 499 = .ok (.invokevirtual 58, 3)) ∧ (decode cL_law 502 = .ok (.pop, 1)) ∧ (decode cL_law 503 = .ok (.goto 833, 3)) ∧ (decode cL_law 506 = .ok (.aload_n 1, 1)) ∧ (decode cL_law 507 = .ok (.invokevirtual 59, 3)) ∧ (decode cL_law 510 = .ok (.pop, 1)) ∧ (decode cL_law 511 = .ok (.aload_n 2, 1)) := by decide +kernel
theorem dL_law_494 : decode cL_law 494 = .ok (.aload_n 0, 1) := dLg_21.1
theorem dL_law_495 : decode cL_law 495 = .ok (.iload_n 3, 1) := dLg_21.2.1
theorem dL_law_496 : decode cL_law 496 = .ok (.iconst 1, 1) := dLg_21.2.2.1
theorem dL_law_497 : decode cL_law 497 = .ok (.iadd, 1) := dLg_21.2.2.2.1
theorem dL_law_498 : decode cL_law 498 = .ok (.iaload, 1) := dLg_21.2.2.2.2.1
theorem dL_law_499 : decode cL_law 499 = .ok (.invokevirtual 58, 3) := dLg_21.2.2.2.2.2.1
theorem dL_law_502 : decode cL_law 502 = .ok (.pop, 1) := dLg_21.2.2.2.2.2.2.1
theorem dL_law_503 : decode cL_law 503 = .ok (.goto 833, 3) := dLg_21.2.2.2.2.2.2.2.1
theorem dL_law_506 : decode cL_law 506 = .ok (.aload_n 1, 1) := dLg_21.2.2.2.2.2.2.2.2.1
theorem dL_law_507 : decode cL_law 507 = .ok (.invokevirtual 59, 3) := dLg_21.2.2.2.2.2.2.2.2.2.1
theorem dL_law_510 : decode cL_law 510 = .ok (.pop, 1) := dLg_21.2.2.2.2.2.2.2.2.2.2.1
theorem dL_law_511 : decode cL_law 511 = .ok (.aload_n 2, 1) := dLg_21.2.2.2.2.2.2.2.2.2.2.2
theorem dLg_22 : (decode cL_law 512 = .ok (.invokevirtual 63, 3)) ∧ (decode cL_law 515 = .ok (.pop, 1)) ∧ (decode cL_law 516 = .ok (.goto 820, 3)) ∧ (decode cL_law 519 = .ok (.aload_n 1, 1)) ∧ (decode cL_law 520 = .ok (.aload_n 0, 1)) ∧ (decode cL_law 521 = .ok (.iload_n 3, 1)) ∧ (decode cL_law 522 = .ok (.iconst 1, 1)) ∧ (decode cL_law 523 = .ok (.iadd, 1)) ∧ (decode cL_law 524 = .ok (.iaload, 1)) ∧ (decode cL_law 525 = .ok (.invokevirtual 64, 3)) ∧ (decode cL_law 528 = .ok (.pop, 1)) ∧ (decode cL_law 529 = .ok (.aload_n 2, 1)) := by decide +kernel
theorem dL_law_512 : decode cL_law 512 = .ok (.invokevirtual 63, 3) := dLg_22.1
theorem dL_law_515 : decode cL_law 515 = .ok (.pop, 1) := dLg_22.2.1
theorem dL_law_516 : decode cL_law 516 = .ok (.goto 820, 3) := dLg_22.2.2.1
theorem dL_law_519 : decode cL_law 519 = .ok (.aload_n 1, 1) := dLg_22.2.2.2.1
theorem dL_law_520 : decode cL_law 520 = .ok (.aload_n 0, 1) := dLg_22.2.2.2.2.1
theorem dL_law_521 : decode cL_law 521 = .ok (.iload_n 3, 1) := dLg_22.2.2.2.2.2.1
theorem dL_law_522 : decode cL_law 522 = .ok (.iconst 1, 1) := dLg_22.2.2.2.2.2.2.1
theorem dL_law_523 : decode cL_law 523 = .ok (.iadd, 1) := dLg_22.2.2.2.2.2.2.2.1
theorem dL_law_524 : decode cL_law 524 = .ok (.iaload, 1) := dLg_22.2.2.2.2.2.2.2.2.1
theorem dL_law_525 : decode cL_law 525 = .ok (.invokevirtual 64, 3) := dLg_22.2.2.2.2.2.2.2.2.2.1
theorem dL_law_528 : decode cL_law 528 = .ok (.pop, 1) := dLg_22.2.2.2.2.2.2.2.2.2.2.1
theorem dL_law_529 : decode cL_law 529 = .ok (.aload_n 2, 1) := dLg_22.2.2.2.2.2.2.2.2.2.2.2
theorem dLg_23 : (decode cL_law 530 = .ok (.aload_n 0, 1)) ∧ (decode cL_law 531 = .ok (.iload_n 3, 1)) ∧ (decode cL_law 532 = .ok (.iconst 1, 1)) ∧ (decode cL_law 533 = .ok (.iadd, 1)) ∧ (decode cL_law 534 = .ok (.iaload, 1)) ∧ (decode cL_law 535 = .ok (.invokevirtual 67, 3)) ∧ (decode cL_law 538 = .ok (.pop, 1)) ∧ (decode cL_law 539 = .ok (.goto 797, 3)) ∧ (decode cL_law 542 = .ok (.aload_n 1, 1)) ∧ (decode cL_law 543 = .ok (.aload_n 0, 1)) ∧ (decode cL_law 544 = .ok (.iload_n 3, 1)) ∧ (decode cL_law 545 = .ok (.iconst 1, 1)) := by decide +kernel
theorem dL_law_530 : decode cL_law 530 = .ok (.aload_n 0, 1) := dLg_23.1
theorem dL_law_531 : decode cL_law 531 = .ok (.iload_n 3, 1) := dLg_23.2.1
theorem dL_law_532 : decode cL_law 532 = .ok (.iconst 1, 1) := dLg_23.2.2.1
theorem dL_law_533 : decode cL_law 533 = .ok (.iadd, 1) := dLg_23.2.2.2.1
theorem dL_law_534 : decode cL_law 534 = .ok (.iaload, 1) := dLg_23.2.2.2.2.1
theorem dL_law_535 : decode cL_law 535 = .ok (.invokevirtual 67, 3) := dLg_23.2.2.2.2.2.1
theorem dL_law_538 : decode cL_law 538 = .ok (.pop, 1) := dLg_23.2.2.2.2.2.2.1
theorem dL_law_539 : decode cL_law 539 = .ok (.goto 797, 3) := dLg_23.2.2.2.2.2.2.2.1
theorem dL_law_542 : decode cL_law 542 = .ok (.aload_n 1, 1) := dLg_23.2.2.2.2.2.2.2.2.1
theorem dL_law_543 : decode cL_law 543 = .ok (.aload_n 0, 1) := dLg_23.2.2.2.2.2.2.2.2.2.1
theorem dL_law_544 : decode cL_law 544 = .ok (.iload_n 3, 1) := dLg_23.2.2.2.2.2.2.2.2.2.2.1
theorem dL_law_545 : decode cL_law 545 = .ok (.iconst 1, 1) := dLg_23.2.2.2.2.2.2.2.2.2.2.2
theorem dLg_24 : (decode cL_law 546 = .ok (.iadd, 1)) ∧ (decode cL_law 547 = .ok (.iaload, 1)) ∧ (decode cL_law 548 = .ok (.aload_n 0, 1)) ∧ (decode cL_law 549 = .ok (.iload_n 3, 1)) ∧ (decode cL_law 550 = .ok (.iconst 2, 1)) ∧ (decode cL_law 551 = .ok (.iadd, 1)) ∧ (decode cL_law 552 = .ok (.iaload, 1)) ∧ (decode cL_law 553 = .ok (.invokevirtual 68, 3)) ∧ (decode cL_law 556 = .ok (.pop, 1)) ∧ (decode cL_law 557 = .ok (.aload_n 2, 1)) ∧ (decode cL_law 558 = .ok (.aload_n 0, 1)) ∧ (decode cL_law 559 = .ok (.iload_n 3, 1)) := by decide +kernel
theorem dL_law_546 : decode cL_law 546 = .ok (.iadd, 1) := dLg_24.1
theorem dL_law_547 : decode cL_law 547 = .ok (.iaload, 1) := dLg_24.2.1
theorem dL_law_548 : decode cL_law 548 = .ok (.aload_n 0, 1) := dLg_24.2.2.1
theorem dL_law_549 : decode cL_law 549 = .ok (.iload_n 3, 1) := dLg_24.2.2.2.1
theorem dL_law_550 : decode cL_law 550 = .ok (.iconst 2, 1) := dLg_24.2.2.2.2.1
theorem dL_law_551 : decode cL_law 551 = .ok (.iadd, 1) := dLg_24.2.2.2.2.2.1
theorem dL_law_552 : decode cL_law 552 = .ok (.iaload, 1) := dLg_24.2.2.2.2.2.2.1
theorem dL_law_553 : decode cL_law 553 = .ok (.invokevirtual 68, 3) := dLg_24.2.2.2.2.2.2.2.1
theorem dL_law_556 : decode cL_law 556 = .ok (.pop, 1) := dLg_24.2.2.2.2.2.2.2.2.1
theorem dL_law_557 : decode cL_law 557 = .ok (.aload_n 2, 1) := dLg_24.2.2.2.2.2.2.2.2.2.1
theorem dL_law_558 : decode cL_law 558 = .ok (.aload_n 0, 1) := dLg_24.2.2.2.2.2.2.2.2.2.2.1
theorem dL_law_559 : decode cL_law 559 = .ok (.iload_n 3, 1) := dLg_24.2.2.2.2.2.2.2.2.2.2.2
theorem dLg_25 : (decode cL_law 560 = .ok (.iconst 1, 1)) ∧ (decode cL_law 561 = .ok (.iadd, 1)) ∧ (decode cL_law 562 = .ok (.iaload, 1)) ∧ (decode cL_law 563 = .ok (.aload_n 0, 1)) ∧ (decode cL_law 564 = .ok (.iload_n 3, 1)) ∧ (decode cL_law 565 = .ok (.iconst 2, 1)) ∧ (decode cL_law 566 = .ok (.iadd, 1)) ∧ (decode cL_law 567 = .ok (.iaload, 1)) ∧ (decode cL_law 568 = .ok (.invokevirtual 71, 3)) ∧ (decode cL_law 571 = .ok (.pop, 1)) ∧ (decode cL_law 572 = .ok (.goto 764, 3)) ∧ (decode cL_law 575 = .ok (.aload_n 1, 1)) := by decide +kernel
theorem dL_law_560 : decode cL_law 560 = .ok (.iconst 1, 1) := dLg_25.1
theorem dL_law_561 : decode cL_law 561 = .ok (.iadd, 1) := dLg_25.2.1
theorem dL_law_562 : decode cL_law 562 = .ok (.iaload, 1) := dLg_25.2.2.1
theorem dL_law_563 : decode cL_law 563 = .ok (.aload_n 0, 1) := dLg_25.2.2.2.1
theorem dL_law_564 : decode cL_law 564 = .ok (.iload_n 3, 1) := dLg_25.2.2.2.2.1
theorem dL_law_565 : decode cL_law 565 = .ok (.iconst 2, 1) := dLg_25.2.2.2.2.2.1
theorem dL_law_566 : decode cL_law 566 = .ok (.iadd, 1) := dLg_25.2.2.2.2.2.2.1
theorem dL_law_567 : decode cL_law 567 = .ok (.iaload, 1) := dLg_25.2.2.2.2.2.2.2.1
theorem dL_law_568 : decode cL_law 568 = .ok (.invokevirtual 71, 3) := dLg_25.2.2.2.2.2.2.2.2.1
theorem dL_law_571 : decode cL_law 571 = .ok (.pop, 1) := dLg_25.2.2.2.2.2.2.2.2.2.1
theorem dL_law_572 : decode cL_law 572 = .ok (.goto 764, 3) := dLg_25.2.2.2.2.2.2.2.2.2.2.1
theorem dL_law_575 : decode cL_law 575 = .ok (.aload_n 1, 1) := dLg_25.2.2.2.2.2.2.2.2.2.2.2
theorem dLg_26 : (decode cL_law 576 = .ok (.aload_n 0, 1)) ∧ (decode cL_law 577 = .ok (.iload_n 3, 1)) ∧ (decode cL_law 578 = .ok (.iconst 1, 1)) ∧ (decode cL_law 579 = .ok (.iadd, 1)) ∧ (decode cL_law 580 = .ok (.iaload, 1)) ∧ (decode cL_law 581 = .ok (.aload_n 0, 1)) ∧ (decode cL_law 582 = .ok (.iload_n 3, 1)) ∧ (decode cL_law 583 = .ok (.iconst 2, 1)) ∧ (decode cL_law 584 = .ok (.iadd, 1)) ∧ (decode cL_law 585 = .ok (.iaload, 1)) ∧ (decode cL_law 586 = .ok (.aload_n 0, 1)) ∧ (decode cL_law 587 = .ok (.iload_n 3, 1)) := by decide +kernel
theorem dL_law_576 : decode cL_law 576 = .ok (.aload_n 0, 1) := dLg_26.1
theorem dL_law_577 : decode cL_law 577 = .ok (.iload_n 3, 1) := dLg_26.2.1
theorem dL_law_578 : decode cL_law 578 = .ok (.iconst 1, 1) := dLg_26.2.2.1
theorem dL_law_579 : decode cL_law 579 = .ok (.iadd, 1) := dLg_26.2.2.2.1
theorem dL_law_580 : decode cL_law 580 = .ok (.iaload, 1) := dLg_26.2.2.2.2.1
theorem dL_law_581 : decode cL_law 581 = .ok (.aload_n 0, 1) := dLg_26.2.2.2.2.2.1
theorem dL_law_582 : decode cL_law 582 = .ok (.iload_n 3, 1) := dLg_26.2.2.2.2.2.2.1
theorem dL_law_583 : decode cL_law 583 = .ok (.iconst 2, 1) := dLg_26.2.2.2.2.2.2.2.1
theorem dL_law_584 : decode cL_law 584 = .ok (.iadd, 1) := dLg_26.2.2.2.2.2.2.2.2.1
theorem dL_law_585 : decode cL_law 585 = .ok (.iaload, 1) := dLg_26.2.2.2.2.2.2.2.2.2.1
theorem dL_law_586 : decode cL_law 586 = .ok (.aload_n 0, 1) := dLg_26.2.2.2.2.2.2.2.2.2.2.1
theorem dL_law_587 : decode cL_law 587 = .ok (.iload_n 3, 1) := dLg_26.2.2.2.2.2.2.2.2.2.2.2
theorem dLg_27 : (decode cL_law 588 = .ok (.iconst 3, 1)) ∧ (decode cL_law 589 = .ok (.iadd, 1)) ∧ (decode cL_law 590 = .ok (.iaload, 1)) ∧ (decode cL_law 591 = .ok (.invokevirtual 72, 3)) ∧ (decode cL_law 594 = .ok (.pop, 1)) ∧ (decode cL_law 595 = .ok (.aload_n 2, 1)) ∧ (decode cL_law 596 = .ok (.aload_n 0, 1)) ∧ (decode cL_law 597 = .ok (.iload_n 3, 1)) ∧ (decode cL_law 598 = .ok (.iconst 1, 1)) ∧ (decode cL_law 599 = .ok (.iadd, 1)) ∧ (decode cL_law 600 = .ok (.iaload, 1)) ∧ (decode cL_law 601 = .ok (.aload_n 0, 1)) := by decide +kernel
theorem dL_law_588 : decode cL_law 588 = .ok (.iconst 3, 1) := dLg_27.1
theorem dL_law_589 : decode cL_law 589 = .ok (.iadd, 1) := dLg_27.2.1
theorem dL_law_590 : decode cL_law 590 = .ok (.iaload, 1) := dLg_27.2.2.1
theorem dL_law_591 : decode cL_law 591 = .ok (.invokevirtual 72, 3) := dLg_27.2.2.2.1
theorem dL_law_594 : decode cL_law 594 = .ok (.pop, 1) := dLg_27.2.2.2.2.1
theorem dL_law_595 : decode cL_law 595 = .ok (.aload_n 2, 1) := dLg_27.2.2.2.2.2.1
theorem dL_law_596 : decode cL_law 596 = .ok (.aload_n 0, 1) := dLg_27.2.2.2.2.2.2.1
theorem dL_law_597 : decode cL_law 597 = .ok (.iload_n 3, 1) := dLg_27.2.2.2.2.2.2.2.1
theorem dL_law_598 : decode cL_law 598 = .ok (.iconst 1, 1) := dLg_27.2.2.2.2.2.2.2.2.1
theorem dL_law_599 : decode cL_law 599 = .ok (.iadd, 1) := dLg_27.2.2.2.2.2.2.2.2.2.1
theorem dL_law_600 : decode cL_law 600 = .ok (.iaload, 1) := dLg_27.2.2.2.2.2.2.2.2.2.2.1
theorem dL_law_601 : decode cL_law 601 = .ok (.aload_n 0, 1) := dLg_27.2.2.2.2.2.2.2.2.2.2.2
theorem dLg_28 : (decode cL_law 602 = .ok (.iload_n 3, 1)) ∧ (decode cL_law 603 = .ok (.iconst 2, 1)) ∧ (decode cL_law 604 = .ok (.iadd, 1)) ∧ (decode cL_law 605 = .ok (.iaload, 1)) ∧ (decode cL_law 606 = .ok (.aload_n 0, 1)) ∧ (decode cL_law 607 = .ok (.iload_n 3, 1)) ∧ (decode cL_law 608 = .ok (.iconst 3, 1)) ∧ (decode cL_law 609 = .ok (.iadd, 1)) ∧ (decode cL_law 610 = .ok (.iaload, 1)) ∧ (decode cL_law 611 = .ok (.invokevirtual 76, 3)) ∧ (decode cL_law 614 = .ok (.pop, 1)) ∧ (decode cL_law 615 = .ok (.goto 721, 3)) := by decide +kernel
theorem dL_law_602 : decode cL_law 602 = .ok (.iload_n 3, 1) := dLg_28.1
theorem dL_law_603 : decode cL_law 603 = .ok (.iconst 2, 1) := dLg_28.2.1
theorem dL_law_604 : decode cL_law 604 = .ok (.iadd, 1) := dLg_28.2.2.1
theorem dL_law_605 : decode cL_law 605 = .ok (.iaload, 1) := dLg_28.2.2.2.1
theorem dL_law_606 : decode cL_law 606 = .ok (.aload_n 0, 1) := dLg_28.2.2.2.2.1
theorem dL_law_607 : decode cL_law 607 = .ok (.iload_n 3, 1) := dLg_28.2.2.2.2.2.1
theorem dL_law_608 : decode cL_law 608 = .ok (.iconst 3, 1) := dLg_28.2.2.2.2.2.2.1
theorem dL_law_609 : decode cL_law 609 = .ok (.iadd, 1) := dLg_28.2.2.2.2.2.2.2.1
theorem dL_law_610 : decode cL_law 610 = .ok (.iaload, 1) := dLg_28.2.2.2.2.2.2.2.2.1
theorem dL_law_611 : decode cL_law 611 = .ok (.invokevirtual 76, 3) := dLg_28.2.2.2.2.2.2.2.2.2.1
theorem dL_law_614 : decode cL_law 614 = .ok (.pop, 1) := dLg_28.2.2.2.2.2.2.2.2.2.2.1
theorem dL_law_615 : decode cL_law 615 = .ok (.goto 721, 3) := dLg_28.2.2.2.2.2.2.2.2.2.2.2
theorem dLg_29 : (decode cL_law 618 = .ok (.aload_n 1, 1)) ∧ (decode cL_law 619 = .ok (.aload_n 0, 1)) ∧ (decode cL_law 620 = .ok (.iload_n 3, 1)) ∧ (decode cL_law 621 = .ok (.iconst 1, 1)) ∧ (decode cL_law 622 = .ok (.iadd, 1)) ∧ (decode cL_law 623 = .ok (.iaload, 1)) ∧ (decode cL_law 624 = .ok (.aload_n 0, 1)) ∧ (decode cL_law 625 = .ok (.iload_n 3, 1)) ∧ (decode cL_law 626 = .ok (.iconst 2, 1)) ∧ (decode cL_law 627 = .ok (.iadd, 1)) ∧ (decode cL_law 628 = .ok (.iaload, 1)) ∧ (decode cL_law 629 = .ok (.aload_n 0, 1)) := by decide +kernel
theorem dL_law_618 : decode cL_law 618 = .ok (.aload_n 1, 1) := dLg_29.1
theorem dL_law_619 : decode cL_law 619 = .ok (.aload_n 0, 1) := dLg_29.2.1
theorem dL_law_620 : decode cL_law 620 = .ok (.iload_n 3, 1) := dLg_29.2.2.1
theorem dL_law_621 : decode cL_law 621 = .ok (.iconst 1, 1) := dLg_29.2.2.2.1
theorem dL_law_622 : decode cL_law 622 = .ok (.iadd, 1) := dLg_29.2.2.2.2.1
theorem dL_law_623 : decode cL_law 623 = .ok (.iaload, 1) := dLg_29.2.2.2.2.2.1
theorem dL_law_624 : decode cL_law 624 = .ok (.aload_n 0, 1) := dLg_29.2.2.2.2.2.2.1
theorem dL_law_625 : decode cL_law 625 = .ok (.iload_n 3, 1) := dLg_29.2.2.2.2.2.2.2.1
theorem dL_law_626 : decode cL_law 626 = .ok (.iconst 2, 1) := dLg_29.2.2.2.2.2.2.2.2.1
theorem dL_law_627 : decode cL_law 627 = .ok (.iadd, 1) := dLg_29.2.2.2.2.2.2.2.2.2.1
theorem dL_law_628 : decode cL_law 628 = .ok (.iaload, 1) := dLg_29.2.2.2.2.2.2.2.2.2.2.1
theorem dL_law_629 : decode cL_law 629 = .ok (.aload_n 0, 1) := dLg_29.2.2.2.2.2.2.2.2.2.2.2
theorem dLg_30 : (decode cL_law 630 = .ok (.iload_n 3, 1)) ∧ (decode cL_law 631 = .ok (.iconst 3, 1)) ∧ (decode cL_law 632 = .ok (.iadd, 1)) ∧ (decode cL_law 633 = .ok (.iaload, 1)) ∧ (decode cL_law 634 = .ok (.invokevirtual 77, 3)) ∧ (decode cL_law 637 = .ok (.pop, 1)) ∧ (decode cL_law 638 = .ok (.aload_n 2, 1)) ∧ (decode cL_law 639 = .ok (.aload_n 0, 1)) ∧ (decode cL_law 640 = .ok (.iload_n 3, 1)) ∧ (decode cL_law 641 = .ok (.iconst 1, 1)) ∧ (decode cL_law 642 = .ok (.iadd, 1)) ∧ (decode cL_law 643 = .ok (.iaload, 1)) := by decide +kernel
theorem dL_law_630 : decode cL_law 630 = .ok (.iload_n 3, 1) := dLg_30.1
theorem dL_law_631 : decode cL_law 631 = .ok (.iconst 3, 1) := dLg_30.2.1
theorem dL_law_632 : decode cL_law 632 = .ok (.iadd, 1) := dLg_30.2.2.1
theorem dL_law_633 : decode cL_law 633 = .ok (.iaload, 1) := dLg_30.2.2.2.1
theorem dL_law_634 : decode cL_law 634 = .ok (.invokevirtual 77, 3) := dLg_30.2.2.2.2.1
theorem dL_law_637 : decode cL_law 637 = .ok (.pop, 1) := dLg_30.2.2.2.2.2.1
theorem dL_law_638 : decode cL_law 638 = .ok (.aload_n 2, 1) := dLg_30.2.2.2.2.2.2.1
theorem dL_law_639 : decode cL_law 639 = .ok (.aload_n 0, 1) := dLg_30.2.2.2.2.2.2.2.1
theorem dL_law_640 : decode cL_law 640 = .ok (.iload_n 3, 1) := dLg_30.2.2.2.2.2.2.2.2.1
theorem dL_law_641 : decode cL_law 641 = .ok (.iconst 1, 1) := dLg_30.2.2.2.2.2.2.2.2.2.1
theorem dL_law_642 : decode cL_law 642 = .ok (.iadd, 1) := dLg_30.2.2.2.2.2.2.2.2.2.2.1
theorem dL_law_643 : decode cL_law 643 = .ok (.iaload, 1) := dLg_30.2.2.2.2.2.2.2.2.2.2.2
theorem dLg_31 : (decode cL_law 644 = .ok (.aload_n 0, 1)) ∧ (decode cL_law 645 = .ok (.iload_n 3, 1)) ∧ (decode cL_law 646 = .ok (.iconst 2, 1)) ∧ (decode cL_law 647 = .ok (.iadd, 1)) ∧ (decode cL_law 648 = .ok (.iaload, 1)) ∧ (decode cL_law 649 = .ok (.aload_n 0, 1)) ∧ (decode cL_law 650 = .ok (.iload_n 3, 1)) ∧ (decode cL_law 651 = .ok (.iconst 3, 1)) ∧ (decode cL_law 652 = .ok (.iadd, 1)) ∧ (decode cL_law 653 = .ok (.iaload, 1)) ∧ (decode cL_law 654 = .ok (.invokevirtual 80, 3)) ∧ (decode cL_law 657 = .ok (.pop, 1)) := by decide +kernel
theorem dL_law_644 : decode cL_law 644 = .ok (.aload_n 0, 1) := dLg_31.1
theorem dL_law_645 : decode cL_law 645 = .ok (.iload_n 3, 1) := dLg_31.2.1
theorem dL_law_646 : decode cL_law 646 = .ok (.iconst 2, 1) := dLg_31.2.2.1
theorem dL_law_647 : decode cL_law 647 = .ok (.iadd, 1) := dLg_31.2.2.2.1
theorem dL_law_648 : decode cL_law 648 = .ok (.iaload, 1) := dLg_31.2.2.2.2.1
theorem dL_law_649 : decode cL_law 649 = .ok (.aload_n 0, 1) := dLg_31.2.2.2.2.2.1
theorem dL_law_650 : decode cL_law 650 = .ok (.iload_n 3, 1) := dLg_31.2.2.2.2.2.2.1
theorem dL_law_651 : decode cL_law 651 = .ok (.iconst 3, 1) := dLg_31.2.2.2.2.2.2.2.1
theorem dL_law_652 : decode cL_law 652 = .ok (.iadd, 1) := dLg_31.2.2.2.2.2.2.2.2.1
theorem dL_law_653 : decode cL_law 653 = .ok (.iaload, 1) := dLg_31.2.2.2.2.2.2.2.2.2.1
theorem dL_law_654 : decode cL_law 654 = .ok (.invokevirtual 80, 3) := dLg_31.2.2.2.2.2.2.2.2.2.2.1
theorem dL_law_657 : decode cL_law 657 = .ok (.pop, 1) := dLg_31.2.2.2.2.2.2.2.2.2.2.2
theorem dLg_32 : (decode cL_law 658 = .ok (.goto 678, 3)) ∧ (decode cL_law 661 = .ok (.aload_n 1, 1)) ∧ (decode cL_law 662 = .ok (.aload_n 0, 1)) ∧ (decode cL_law 663 = .ok (.iload_n 3, 1)) ∧ (decode cL_law 664 = .ok (.iconst 1, 1)) ∧ (decode cL_law 665 = .ok (.iadd, 1)) ∧ (decode cL_law 666 = .ok (.iaload, 1)) ∧ (decode cL_law 667 = .ok (.aload_n 0, 1)) ∧ (decode cL_law 668 = .ok (.iload_n 3, 1)) ∧ (decode cL_law 669 = .ok (.iconst 2, 1)) ∧ (decode cL_law 670 = .ok (.iadd, 1)) ∧ (decode cL_law 671 = .ok (.iaload, 1)) := by decide +kernel
theorem dL_law_658 : decode cL_law 658 = .ok (.goto 678, 3) := dLg_32.1
theorem dL_law_661 : decode cL_law 661 = .ok (.aload_n 1, 1) := dLg_32.2.1
theorem dL_law_662 : decode cL_law 662 = .ok (.aload_n 0, 1) := dLg_32.2.2.1
theorem dL_law_663 : decode cL_law 663 = .ok (.iload_n 3, 1) := dLg_32.2.2.2.1
theorem dL_law_664 : decode cL_law 664 = .ok (.iconst 1, 1) := dLg_32.2.2.2.2.1
theorem dL_law_665 : decode cL_law 665 = .ok (.iadd, 1) := dLg_32.2.2.2.2.2.1
theorem dL_law_666 : decode cL_law 666 = .ok (.iaload, 1) := dLg_32.2.2.2.2.2.2.1
theorem dL_law_667 : decode cL_law 667 = .ok (.aload_n 0, 1) := dLg_32.2.2.2.2.2.2.2.1
theorem dL_law_668 : decode cL_law 668 = .ok (.iload_n 3, 1) := dLg_32.2.2.2.2.2.2.2.2.1
theorem dL_law_669 : decode cL_law 669 = .ok (.iconst 2, 1) := dLg_32.2.2.2.2.2.2.2.2.2.1
theorem dL_law_670 : decode cL_law 670 = .ok (.iadd, 1) := dLg_32.2.2.2.2.2.2.2.2.2.2.1
theorem dL_law_671 : decode cL_law 671 = .ok (.iaload, 1) := dLg_32.2.2.2.2.2.2.2.2.2.2.2
theorem dLg_33 : (decode cL_law 672 = .ok (.aload_n 0, 1)) ∧ (decode cL_law 673 = .ok (.iload_n 3, 1)) ∧ (decode cL_law 674 = .ok (.iconst 3, 1)) ∧ (decode cL_law 675 = .ok (.iadd, 1)) ∧ (decode cL_law 676 = .ok (.iaload, 1)) ∧ (decode cL_law 677 = .ok (.aload_n 0, 1)) ∧ (decode cL_law 678 = .ok (.iload_n 3, 1)) ∧ (decode cL_law 679 = .ok (.iconst 4, 1)) ∧ (decode cL_law 680 = .ok (.iadd, 1)) ∧ (decode cL_law 681 = .ok (.iaload, 1)) ∧ (decode cL_law 682 = .ok (.invokevirtual 81, 3)) ∧ (decode cL_law 685 = .ok (.pop, 1)) := by decide +kernel
theorem dL_law_672 : decode cL_law 672 = .ok (.aload_n 0, 1) := dLg_33.1
theorem dL_law_673 : decode cL_law 673 = .ok (.iload_n 3, 1) := dLg_33.2.1
theorem dL_law_674 : decode cL_law 674 = .ok (.iconst 3, 1) := dLg_33.2.2.1
theorem dL_law_675 : decode cL_law 675 = .ok (.iadd, 1) := dLg_33.2.2.2.1
theorem dL_law_676 : decode cL_law 676 = .ok (.iaload, 1) := dLg_33.2.2.2.2.1
theorem dL_law_677 : decode cL_law 677 = .ok (.aload_n 0, 1) := dLg_33.2.2.2.2.2.1
theorem dL_law_678 : decode cL_law 678 = .ok (.iload_n 3, 1) := dLg_33.2.2.2.2.2.2.1
theorem dL_law_679 : decode cL_law 679 = .ok (.iconst 4, 1) := dLg_33.2.2.2.2.2.2.2.1
theorem dL_law_680 : decode cL_law 680 = .ok (.iadd, 1) := dLg_33.2.2.2.2.2.2.2.2.1
theorem dL_law_681 : decode cL_law 681 = .ok (.iaload, 1) := dLg_33.2.2.2.2.2.2.2.2.2.1
theorem dL_law_682 : decode cL_law 682 = .ok (.invokevirtual 81, 3) := dLg_33.2.2.2.2.2.2.2.2.2.2.1
theorem dL_law_685 : decode cL_law 685 = .ok (.pop, 1) := dLg_33.2.2.2.2.2.2.2.2.2.2.2
theorem dLg_34 : (decode cL_law 686 = .ok (.aload_n 2, 1)) ∧ (decode cL_law 687 = .ok (.aload_n 0, 1)) ∧ (decode cL_law 688 = .ok (.iload_n 3, 1)) ∧ (decode cL_law 689 = .ok (.iconst 1, 1)) ∧ (decode cL_law 690 = .ok (.iadd, 1)) ∧ (decode cL_law 691 = .ok (.iaload, 1)) ∧ (decode cL_law 692 = .ok (.aload_n 0, 1)) ∧ (decode cL_law 693 = .ok (.iload_n 3, 1)) ∧ (decode cL_law 694 = .ok (.iconst 2, 1)) ∧ (decode cL_law 695 = .ok (.iadd, 1)) ∧ (decode cL_law 696 = .ok (.iaload, 1)) ∧ (decode cL_law 697 = .ok (.aload_n 0, 1)) := by decide +kernel
theorem dL_law_686 : decode cL_law 686 = .ok (.aload_n 2, 1) := dLg_34.1
theorem dL_law_687 : decode cL_law 687 = .ok (.aload_n 0, 1) := dLg_34.2.1
theorem dL_law_688 : decode cL_law 688 = .ok (.iload_n 3, 1) := dLg_34.2.2.1
theorem dL_law_689 : decode cL_law 689 = .ok (.iconst 1, 1) := dLg_34.2.2.2.1
theorem dL_law_690 : decode cL_law 690 = .ok (.iadd, 1) := dLg_34.2.2.2.2.1
theorem dL_law_691 : decode cL_law 691 = .ok (.iaload, 1) := dLg_34.2.2.2.2.2.1
theorem dL_law_692 : decode cL_law 692 = .ok (.aload_n 0, 1) := dLg_34.2.2.2.2.2.2.1
theorem dL_law_693 : decode cL_law 693 = .ok (.iload_n 3, 1) := dLg_34.2.2.2.2.2.2.2.1
theorem dL_law_694 : decode cL_law 694 = .ok (.iconst 2, 1) := dLg_34.2.2.2.2.2.2.2.2.1
theorem dL_law_695 : decode cL_law 695 = .ok (.iadd, 1) := dLg_34.2.2.2.2.2.2.2.2.2.1
theorem dL_law_696 : decode cL_law 696 = .ok (.iaload, 1) := dLg_34.2.2.2.2.2.2.2.2.2.2.1
theorem dL_law_697 : decode cL_law 697 = .ok (.aload_n 0, 1) := dLg_34.2.2.2.2.2.2.2.2.2.2.2
theorem dLg_35 : (decode cL_law 698 = .ok (.iload_n 3, 1)) ∧ (decode cL_law 699 = .ok (.iconst 3, 1)) ∧ (decode cL_law 700 = .ok (.iadd, 1)) ∧ (decode cL_law 701 = .ok (.iaload, 1)) ∧ (decode cL_law 702 = .ok (.aload_n 0, 1)) ∧ (decode cL_law 703 = .ok (.iload_n 3, 1)) ∧ (decode cL_law 704 = .ok (.iconst 4, 1)) ∧ (decode cL_law 705 = .ok (.iadd, 1)) ∧ (decode cL_law 706 = .ok (.iaload, 1)) ∧ (decode cL_law 707 = .ok (.invokevirtual 85, 3)) ∧ (decode cL_law 710 = .ok (.pop, 1)) ∧ (decode cL_law 711 = .ok (.goto 625, 3)) := by decide +kernel
theorem dL_law_698 : decode cL_law 698 = .ok (.iload_n 3, 1) := dLg_35.1
theorem dL_law_699 : decode cL_law 699 = .ok (.iconst 3, 1) := dLg_35.2.1
theorem dL_law_700 : decode cL_law 700 = .ok (.iadd, 1) := dLg_35.2.2.1
theorem dL_law_701 : decode cL_law 701 = .ok (.iaload, 1) := dLg_35.2.2.2.1
theorem dL_law_702 : decode cL_law 702 = .ok (.aload_n 0, 1) := dLg_35.2.2.2.2.1
theorem dL_law_703 : decode cL_law 703 = .ok (.iload_n 3, 1) := dLg_35.2.2.2.2.2.1
theorem dL_law_704 : decode cL_law 704 = .ok (.iconst 4, 1) := dLg_35.2.2.2.2.2.2.1
theorem dL_law_705 : decode cL_law 705 = .ok (.iadd, 1) := dLg_35.2.2.2.2.2.2.2.1
theorem dL_law_706 : decode cL_law 706 = .ok (.iaload, 1) := dLg_35.2.2.2.2.2.2.2.2.1
theorem dL_law_707 : decode cL_law 707 = .ok (.invokevirtual 85, 3) := dLg_35.2.2.2.2.2.2.2.2.2.1
theorem dL_law_710 : decode cL_law 710 = .ok (.pop, 1) := dLg_35.2.2.2.2.2.2.2.2.2.2.1
theorem dL_law_711 : decode cL_law 711 = .ok (.goto 625, 3) := dLg_35.2.2.2.2.2.2.2.2.2.2.2
theorem dLg_36 : (decode cL_law 714 = .ok (.aload_n 1, 1)) ∧ (decode cL_law 715 = .ok (.aload_n 0, 1)) ∧ (decode cL_law 716 = .ok (.iload_n 3, 1)) ∧ (decode cL_law 717 = .ok (.iconst 1, 1)) ∧ (decode cL_law 718 = .ok (.iadd, 1)) ∧ (decode cL_law 719 = .ok (.iaload, 1)) ∧ (decode cL_law 720 = .ok (.aload_n 0, 1)) ∧ (decode cL_law 721 = .ok (.iload_n 3, 1)) ∧ (decode cL_law 722 = .ok (.iconst 2, 1)) ∧ (decode cL_law 723 = .ok (.iadd, 1)) ∧ (decode cL_law 724 = .ok (.iaload, 1)) ∧ (decode cL_law 725 = .ok (.invokevirtual 86, 3)) := by decide +kernel
theorem dL_law_714 : decode cL_law 714 = .ok (.aload_n 1, 1) := dLg_36.1
theorem dL_law_715 : decode cL_law 715 = .ok (.aload_n 0, 1) := dLg_36.2.1
theorem dL_law_716 : decode cL_law 716 = .ok (.iload_n 3, 1) := dLg_36.2.2.1
theorem dL_law_717 : decode cL_law 717 = .ok (.iconst 1, 1) := dLg_36.2.2.2.1
theorem dL_law_718 : decode cL_law 718 = .ok (.iadd, 1) := dLg_36.2.2.2.2.1
theorem dL_law_719 : decode cL_law 719 = .ok (.iaload, 1) := dLg_36.2.2.2.2.2.1
theorem dL_law_720 : decode cL_law 720 = .ok (.aload_n 0, 1) := dLg_36.2.2.2.2.2.2.1
theorem dL_law_721 : decode cL_law 721 = .ok (.iload_n 3, 1) := dLg_36.2.2.2.2.2.2.2.1
theorem dL_law_722 : decode cL_law 722 = .ok (.iconst 2, 1) := dLg_36.2.2.2.2.2.2.2.2.1
theorem dL_law_723 : decode cL_law 723 = .ok (.iadd, 1) := dLg_36.2.2.2.2.2.2.2.2.2.1
theorem dL_law_724 : decode cL_law 724 = .ok (.iaload, 1) := dLg_36.2.2.2.2.2.2.2.2.2.2.1
theorem dL_law_725 : decode cL_law 725 = .ok (.invokevirtual 86, 3) := dLg_36.2.2.2.2.2.2.2.2.2.2.2
theorem dLg_37 : (decode cL_law 728 = .ok (.pop, 1)) ∧ (decode cL_law 729 = .ok (.aload_n 2, 1)) ∧ (decode cL_law 730 = .ok (.aload_n 0, 1)) ∧ (decode cL_law 731 = .ok (.iload_n 3, 1)) ∧ (decode cL_law 732 = .ok (.iconst 1, 1)) ∧ (decode cL_law 733 = .ok (.iadd, 1)) ∧ (decode cL_law 734 = .ok (.iaload, 1)) ∧ (decode cL_law 735 = .ok (.aload_n 0, 1)) ∧ (decode cL_law 736 = .ok (.iload_n 3, 1)) ∧ (decode cL_law 737 = .ok (.iconst 2, 1)) ∧ (decode cL_law 738 = .ok (.iadd, 1)) ∧ (decode cL_law 739 = .ok (.iaload, 1)) := by decide +kernel
theorem dL_law_728 : decode cL_law 728 = .ok (.pop, 1) := dLg_37.1
theorem dL_law_729 : decode cL_law 729 = .ok (.aload_n 2, 1) := dLg_37.2.1
theorem dL_law_730 : decode cL_law 730 = .ok (.aload_n 0, 1) := dLg_37.2.2.1
theorem dL_law_731 : decode cL_law 731 = .ok (.iload_n 3, 1) := dLg_37.2.2.2.1
theorem dL_law_732 : decode cL_law 732 = .ok (.iconst 1, 1) := dLg_37.2.2.2.2.1
theorem dL_law_733 : decode cL_law 733 = .ok (.iadd, 1) := dLg_37.2.2.2.2.2.1
theorem dL_law_734 : decode cL_law 734 = .ok (.iaload, 1) := dLg_37.2.2.2.2.2.2.1
theorem dL_law_735 : decode cL_law 735 = .ok (.aload_n 0, 1) := dLg_37.2.2.2.2.2.2.2.1
theorem dL_law_736 : decode cL_law 736 = .ok (.iload_n 3, 1) := dLg_37.2.2.2.2.2.2.2.2.1
theorem dL_law_737 : decode cL_law 737 = .ok (.iconst 2, 1) := dLg_37.2.2.2.2.2.2.2.2.2.1
theorem dL_law_738 : decode cL_law 738 = .ok (.iadd, 1) := dLg_37.2.2.2.2.2.2.2.2.2.2.1
theorem dL_law_739 : decode cL_law 739 = .ok (.iaload, 1) := dLg_37.2.2.2.2.2.2.2.2.2.2.2
theorem dLg_38 : (decode cL_law 740 = .ok (.invokevirtual 89, 3)) ∧ (decode cL_law 743 = .ok (.pop, 1)) ∧ (decode cL_law 744 = .ok (.goto 592, 3)) ∧ (decode cL_law 747 = .ok (.aload_n 1, 1)) ∧ (decode cL_law 748 = .ok (.aload_n 0, 1)) ∧ (decode cL_law 749 = .ok (.iload_n 3, 1)) ∧ (decode cL_law 750 = .ok (.iconst 1, 1)) ∧ (decode cL_law 751 = .ok (.iadd, 1)) ∧ (decode cL_law 752 = .ok (.iaload, 1)) ∧ (decode cL_law 753 = .ok (.aload_n 0, 1)) ∧ (decode cL_law 754 = .ok (.iload_n 3, 1)) ∧ (decode cL_law 755 = .ok (.iconst 2, 1)) := by decide +kernel
theorem dL_law_740 : decode cL_law 740 = .ok (.invokevirtual 89, 3) := dLg_38.1
theorem dL_law_743 : decode cL_law 743 = .ok (.pop, 1) := dLg_38.2.1
theorem dL_law_744 : decode cL_law 744 = .ok (.goto 592, 3) := dLg_38.2.2.1
theorem dL_law_747 : decode cL_law 747 = .ok (.aload_n 1, 1) := dLg_38.2.2.2.1
theorem dL_law_748 : decode cL_law 748 = .ok (.aload_n 0, 1) := dLg_38.2.2.2.2.1
theorem dL_law_749 : decode cL_law 749 = .ok (.iload_n 3, 1) := dLg_38.2.2.2.2.2.1
theorem dL_law_750 : decode cL_law 750 = .ok (.iconst 1, 1) := dLg_38.2.2.2.2.2.2.1
theorem dL_law_751 : decode cL_law 751 = .ok (.iadd, 1) := dLg_38.2.2.2.2.2.2.2.1
theorem dL_law_752 : decode cL_law 752 = .ok (.iaload, 1) := dLg_38.2.2.2.2.2.2.2.2.1
theorem dL_law_753 : decode cL_law 753 = .ok (.aload_n 0, 1) := dLg_38.2.2.2.2.2.2.2.2.2.1
theorem dL_law_754 : decode cL_law 754 = .ok (.iload_n 3, 1) := dLg_38.2.2.2.2.2.2.2.2.2.2.1
theorem dL_law_755 : decode cL_law 755 = .ok (.iconst 2, 1) := dLg_38.2.2.2.2.2.2.2.2.2.2.2
theorem dLg_39 : (decode cL_law 756 = .ok (.iadd, 1)) ∧ (decode cL_law 757 = .ok (.iaload, 1)) ∧ (decode cL_law 758 = .ok (.aload_n 0, 1)) ∧ (decode cL_law 759 = .ok (.iload_n 3, 1)) ∧ (decode cL_law 760 = .ok (.iconst 3, 1)) ∧ (decode cL_law 761 = .ok (.iadd, 1)) ∧ (decode cL_law 762 = .ok (.iaload, 1)) ∧ (decode cL_law 763 = .ok (.invokevirtual 90, 3)) ∧ (decode cL_law 766 = .ok (.pop, 1)) ∧ (decode cL_law 767 = .ok (.aload_n 2, 1)) ∧ (decode cL_law 768 = .ok (.aload_n 0, 1)) ∧ (decode cL_law 769 = .ok (.iload_n 3, 1)) := by decide +kernel
theorem dL_law_756 : decode cL_law 756 = .ok (.iadd, 1) := dLg_39.1
theorem dL_law_757 : decode cL_law 757 = .ok (.iaload, 1) := dLg_39.2.1
theorem dL_law_758 : decode cL_law 758 = .ok (.aload_n 0, 1) := dLg_39.2.2.1
theorem dL_law_759 : decode cL_law 759 = .ok (.iload_n 3, 1) := dLg_39.2.2.2.1
theorem dL_law_760 : decode cL_law 760 = .ok (.iconst 3, 1) := dLg_39.2.2.2.2.1
theorem dL_law_761 : decode cL_law 761 = .ok (.iadd, 1) := dLg_39.2.2.2.2.2.1
theorem dL_law_762 : decode cL_law 762 = .ok (.iaload, 1) := dLg_39.2.2.2.2.2.2.1
theorem dL_law_763 : decode cL_law 763 = .ok (.invokevirtual 90, 3) := dLg_39.2.2.2.2.2.2.2.1
theorem dL_law_766 : decode cL_law 766 = .ok (.pop, 1) := dLg_39.2.2.2.2.2.2.2.2.1
theorem dL_law_767 : decode cL_law 767 = .ok (.aload_n 2, 1) := dLg_39.2.2.2.2.2.2.2.2.2.1
theorem dL_law_768 : decode cL_law 768 = .ok (.aload_n 0, 1) := dLg_39.2.2.2.2.2.2.2.2.2.2.1
theorem dL_law_769 : decode cL_law 769 = .ok (.iload_n 3, 1) := dLg_39.2.2.2.2.2.2.2.2.2.2.2
theorem dLg_40 : (decode cL_law 770 = .ok (.iconst 1, 1)) ∧ (decode cL_law 771 = .ok (.iadd, 1)) ∧ (decode cL_law 772 = .ok (.iaload, 1)) ∧ (decode cL_law 773 = .ok (.aload_n 0, 1)) ∧ (decode cL_law 774 = .ok (.iload_n 3, 1)) ∧ (decode cL_law 775 = .ok (.iconst 2, 1)) ∧ (decode cL_law 776 = .ok (.iadd, 1)) ∧ (decode cL_law 777 = .ok (.iaload, 1)) ∧ (decode cL_law 778 = .ok (.aload_n 0, 1)) ∧ (decode cL_law 779 = .ok (.iload_n 3, 1)) ∧ (decode cL_law 780 = .ok (.iconst 3, 1)) ∧ (decode cL_law 781 = .ok (.iadd, 1)) := by decide +kernel
theorem dL_law_770 : decode cL_law 770 = .ok (.iconst 1, 1) := dLg_40.1
theorem dL_law_771 : decode cL_law 771 = .ok (.iadd, 1) := dLg_40.2.1
theorem dL_law_772 : decode cL_law 772 = .ok (.iaload, 1) := dLg_40.2.2.1
theorem dL_law_773 : decode cL_law 773 = .ok (.aload_n 0, 1) := dLg_40.2.2.2.1
theorem dL_law_774 : decode cL_law 774 = .ok (.iload_n 3, 1) := dLg_40.2.2.2.2.1
theorem dL_law_775 : decode cL_law 775 = .ok (.iconst 2, 1) := dLg_40.2.2.2.2.2.1
theorem dL_law_776 : decode cL_law 776 = .ok (.iadd, 1) := dLg_40.2.2.2.2.2.2.1
theorem dL_law_777 : decode cL_law 777 = .ok (.iaload, 1) := dLg_40.2.2.2.2.2.2.2.1
theorem dL_law_778 : decode cL_law 778 = .ok (.aload_n 0, 1) := dLg_40.2.2.2.2.2.2.2.2.1
theorem dL_law_779 : decode cL_law 779 = .ok (.iload_n 3, 1) := dLg_40.2.2.2.2.2.2.2.2.2.1
theorem dL_law_780 : decode cL_law 780 = .ok (.iconst 3, 1) := dLg_40.2.2.2.2.2.2.2.2.2.2.1
theorem dL_law_781 : decode cL_law 781 = .ok (.iadd, 1) := dLg_40.2.2.2.2.2.2.2.2.2.2.2
theorem dLg_41 : (decode cL_law 782 = .ok (.iaload, 1)) ∧ (decode cL_law 783 = .ok (.invokevirtual 93, 3)) ∧ (decode cL_law 786 = .ok (.pop, 1)) ∧ (decode cL_law 787 = .ok (.goto 549, 3)) ∧ (decode cL_law 790 = .ok (.aload_n 1, 1)) ∧ (decode cL_law 791 = .ok (.aload_n 0, 1)) ∧ (decode cL_law 792 = .ok (.iload_n 3, 1)) ∧ (decode cL_law 793 = .ok (.iconst 1, 1)) ∧ (decode cL_law 794 = .ok (.iadd, 1)) ∧ (decode cL_law 795 = .ok (.iaload, 1)) ∧ (decode cL_law 796 = .ok (.invokevirtual 94, 3)) ∧ (decode cL_law 799 = .ok (.pop, 1)) := by decide +kernel
theorem dL_law_782 : decode cL_law 782 = .ok (.iaload, 1) := dLg_41.1
theorem dL_law_783 : decode cL_law 783 = .ok (.invokevirtual 93, 3) := dLg_41.2.1
theorem dL_law_786 : decode cL_law 786 = .ok (.pop, 1) := dLg_41.2.2.1
theorem dL_law_787 : decode cL_law 787 = .ok (.goto 549, 3) := dLg_41.2.2.2.1
theorem dL_law_790 : decode cL_law 790 = .ok (.aload_n 1, 1) := dLg_41.2.2.2.2.1
theorem dL_law_791 : decode cL_law 791 = .ok (.aload_n 0, 1) := dLg_41.2.2.2.2.2.1
theorem dL_law_792 : decode cL_law 792 = .ok (.iload_n 3, 1) := dLg_41.2.2.2.2.2.2.1
theorem dL_law_793 : decode cL_law 793 = .ok (.iconst 1, 1) := dLg_41.2.2.2.2.2.2.2.1
theorem dL_law_794 : decode cL_law 794 = .ok (.iadd, 1) := dLg_41.2.2.2.2.2.2.2.2.1
theorem dL_law_795 : decode cL_law 795 = .ok (.iaload, 1) := dLg_41.2.2.2.2.2.2.2.2.2.1
theorem dL_law_796 : decode cL_law 796 = .ok (.invokevirtual 94, 3) := dLg_41.2.2.2.2.2.2.2.2.2.2.1
theorem dL_law_799 : decode cL_law 799 = .ok (.pop, 1) := dLg_41.2.2.2.2.2.2.2.2.2.2.2
theorem dLg_42 : (decode cL_law 800 = .ok (.aload_n 2, 1)) ∧ (decode cL_law 801 = .ok (.aload_n 0, 1)) ∧ (decode cL_law 802 = .ok (.iload_n 3, 1)) ∧ (decode cL_law 803 = .ok (.iconst 1, 1)) ∧ (decode cL_law 804 = .ok (.iadd, 1)) ∧ (decode cL_law 805 = .ok (.iaload, 1)) ∧ (decode cL_law 806 = .ok (.invokevirtual 97, 3)) ∧ (decode cL_law 809 = .ok (.pop, 1)) ∧ (decode cL_law 810 = .ok (.goto 526, 3)) ∧ (decode cL_law 813 = .ok (.aload_n 1, 1)) ∧ (decode cL_law 814 = .ok (.aload_n 0, 1)) ∧ (decode cL_law 815 = .ok (.iload_n 3, 1)) := by decide +kernel
theorem dL_law_800 : decode cL_law 800 = .ok (.aload_n 2, 1) := dLg_42.1
theorem dL_law_801 : decode cL_law 801 = .ok (.aload_n 0, 1) := dLg_42.2.1
theorem dL_law_802 : decode cL_law 802 = .ok (.iload_n 3, 1) := dLg_42.2.2.1
theorem dL_law_803 : decode cL_law 803 = .ok (.iconst 1, 1) := dLg_42.2.2.2.1
theorem dL_law_804 : decode cL_law 804 = .ok (.iadd, 1) := dLg_42.2.2.2.2.1
theorem dL_law_805 : decode cL_law 805 = .ok (.iaload, 1) := dLg_42.2.2.2.2.2.1
theorem dL_law_806 : decode cL_law 806 = .ok (.invokevirtual 97, 3) := dLg_42.2.2.2.2.2.2.1
theorem dL_law_809 : decode cL_law 809 = .ok (.pop, 1) := dLg_42.2.2.2.2.2.2.2.1
theorem dL_law_810 : decode cL_law 810 = .ok (.goto 526, 3) := dLg_42.2.2.2.2.2.2.2.2.1
theorem dL_law_813 : decode cL_law 813 = .ok (.aload_n 1, 1) := dLg_42.2.2.2.2.2.2.2.2.2.1
theorem dL_law_814 : decode cL_law 814 = .ok (.aload_n 0, 1) := dLg_42.2.2.2.2.2.2.2.2.2.2.1
theorem dL_law_815 : decode cL_law 815 = .ok (.iload_n 3, 1) := dLg_42.2.2.2.2.2.2.2.2.2.2.2
theorem dLg_43 : (decode cL_law 816 = .ok (.iconst 1, 1)) ∧ (decode cL_law 817 = .ok (.iadd, 1)) ∧ (decode cL_law 818 = .ok (.iaload, 1)) ∧ (decode cL_law 819 = .ok (.invokevirtual 98, 3)) ∧ (decode cL_law 822 = .ok (.pop, 1)) ∧ (decode cL_law 823 = .ok (.aload_n 2, 1)) ∧ (decode cL_law 824 = .ok (.aload_n 0, 1)) ∧ (decode cL_law 825 = .ok (.iload_n 3, 1)) ∧ (decode cL_law 826 = .ok (.iconst 1, 1)) ∧ (decode cL_law 827 = .ok (.iadd, 1)) ∧ (decode cL_law 828 = .ok (.iaload, 1)) ∧ (decode cL_law 829 = .ok (.invokevirtual 101, 3)) := by decide +kernel
theorem dL_law_816 : decode cL_law 816 = .ok (.iconst 1, 1) := dLg_43.1
theorem dL_law_817 : decode cL_law 817 = .ok (.iadd, 1) := dLg_43.2.1
theorem dL_law_818 : decode cL_law 818 = .ok (.iaload, 1) := dLg_43.2.2.1
theorem dL_law_819 : decode cL_law 819 = .ok (.invokevirtual 98, 3) := dLg_43.2.2.2.1
theorem dL_law_822 : decode cL_law 822 = .ok (.pop, 1) := dLg_43.2.2.2.2.1
theorem dL_law_823 : decode cL_law 823 = .ok (.aload_n 2, 1) := dLg_43.2.2.2.2.2.1
theorem dL_law_824 : decode cL_law 824 = .ok (.aload_n 0, 1) := dLg_43.2.2.2.2.2.2.1
theorem dL_law_825 : decode cL_law 825 = .ok (.iload_n 3, 1) := dLg_43.2.2.2.2.2.2.2.1
theorem dL_law_826 : decode cL_law 826 = .ok (.iconst 1, 1) := dLg_43.2.2.2.2.2.2.2.2.1
theorem dL_law_827 : decode cL_law 827 = .ok (.iadd, 1) := dLg_43.2.2.2.2.2.2.2.2.2.1
theorem dL_law_828 : decode cL_law 828 = .ok (.iaload, 1) := dLg_43.2.2.2.2.2.2.2.2.2.2.1
theorem dL_law_829 : decode cL_law 829 = .ok (.invokevirtual 101, 3) := dLg_43.2.2.2.2.2.2.2.2.2.2.2
theorem dLg_44 : (decode cL_law 832 = .ok (.pop, 1)) ∧ (decode cL_law 833 = .ok (.goto 503, 3)) ∧ (decode cL_law 836 = .ok (.aload_n 1, 1)) ∧ (decode cL_law 837 = .ok (.aload_n 0, 1)) ∧ (decode cL_law 838 = .ok (.iload_n 3, 1)) ∧ (decode cL_law 839 = .ok (.iconst 1, 1)) ∧ (decode cL_law 840 = .ok (.iadd, 1)) ∧ (decode cL_law 841 = .ok (.iaload, 1)) ∧ (decode cL_law 842 = .ok (.aload_n 0, 1)) ∧ (decode cL_law 843 = .ok (.iload_n 3, 1)) ∧ (decode cL_law 844 = .ok (.iconst 2, 1)) ∧ (decode cL_law 845 = .ok (.iadd, 1)) := by decide +kernel
theorem dL_law_832 : decode cL_law 832 = .ok (.pop, 1) := dLg_44.1
theorem dL_law_833 : decode cL_law 833 = .ok (.goto 503, 3) := dLg_44.2.1
theorem dL_law_836 : decode cL_law 836 = .ok (.aload_n 1, 1) := dLg_44.2.2.1
theorem dL_law_837 : decode cL_law 837 = .ok (.aload_n 0, 1) := dLg_44.2.2.2.1
theorem dL_law_838 : decode cL_law 838 = .ok (.iload_n 3, 1) := dLg_44.2.2.2.2.1
theorem dL_law_839 : decode cL_law 839 = .ok (.iconst 1, 1) := dLg_44.2.2.2.2.2.1
theorem dL_law_840 : decode cL_law 840 = .ok (.iadd, 1) := dLg_44.2.2.2.2.2.2.1
theorem dL_law_841 : decode cL_law 841 = .ok (.iaload, 1) := dLg_44.2.2.2.2.2.2.2.1
theorem dL_law_842 : decode cL_law 842 = .ok (.aload_n 0, 1) := dLg_44.2.2.2.2.2.2.2.2.1
theorem dL_law_843 : decode cL_law 843 = .ok (.iload_n 3, 1) := dLg_44.2.2.2.2.2.2.2.2.2.1
theorem dL_law_844 : decode cL_law 844 = .ok (.iconst 2, 1) := dLg_44.2.2.2.2.2.2.2.2.2.2.1
theorem dL_law_845 : decode cL_law 845 = .ok (.iadd, 1) := dLg_44.2.2.2.2.2.2.2.2.2.2.2
theorem dLg_45 : (decode cL_law 846 = .ok (.iaload, 1)) ∧ (decode cL_law 847 = .ok (.aload_n 0, 1)) ∧ (decode cL_law 848 = .ok (.iload_n 3, 1)) ∧ (decode cL_law 849 = .ok (.iconst 3, 1)) ∧ (decode cL_law 850 = .ok (.iadd, 1)) ∧ (decode cL_law 851 = .ok (.iaload, 1)) ∧ (decode cL_law 852 = .ok (.invokevirtual 102, 3)) ∧ (decode cL_law 855 = .ok (.pop, 1)) ∧ (decode cL_law 856 = .ok (.aload_n 2, 1)) ∧ (decode cL_law 857 = .ok (.aload_n 0, 1)) ∧ (decode cL_law 858 = .ok (.iload_n 3, 1)) ∧ (decode cL_law 859 = .ok (.iconst 1, 1)) := by decide +kernel
theorem dL_law_846 : decode cL_law 846 = .ok (.iaload, 1) := dLg_45.1
theorem dL_law_847 : decode cL_law 847 = .ok (.aload_n 0, 1) := dLg_45.2.1
theorem dL_law_848 : decode cL_law 848 = .ok (.iload_n 3, 1) := dLg_45.2.2.1
theorem dL_law_849 : decode cL_law 849 = .ok (.iconst 3, 1) := dLg_45.2.2.2.1
theorem dL_law_850 : decode cL_law 850 = .ok (.iadd, 1) := dLg_45.2.2.2.2.1
theorem dL_law_851 : decode cL_law 851 = .ok (.iaload, 1) := dLg_45.2.2.2.2.2.1
theorem dL_law_852 : decode cL_law 852 = .ok (.invokevirtual 102, 3) := dLg_45.2.2.2.2.2.2.1
theorem dL_law_855 : decode cL_law 855 = .ok (.pop, 1) := dLg_45.2.2.2.2.2.2.2.1
theorem dL_law_856 : decode cL_law 856 = .ok (.aload_n 2, 1) := dLg_45.2.2.2.2.2.2.2.2.1
theorem dL_law_857 : decode cL_law 857 = .ok (.aload_n 0, 1) := dLg_45.2.2.2.2.2.2.2.2.2.1
theorem dL_law_858 : decode cL_law 858 = .ok (.iload_n 3, 1) := dLg_45.2.2.2.2.2.2.2.2.2.2.1
theorem dL_law_859 : decode cL_law 859 = .ok (.iconst 1, 1) := dLg_45.2.2.2.2.2.2.2.2.2.2.2
theorem dLg_46 : (decode cL_law 860 = .ok (.iadd, 1)) ∧ (decode cL_law 861 = .ok (.iaload, 1)) ∧ (decode cL_law 862 = .ok (.aload_n 0, 1)) ∧ (decode cL_law 863 = .ok (.iload_n 3, 1)) ∧ (decode cL_law 864 = .ok (.iconst 2, 1)) ∧ (decode cL_law 865 = .ok (.iadd, 1)) ∧ (decode cL_law 866 = .ok (.iaload, 1)) ∧ (decode cL_law 867 = .ok (.aload_n 0, 1)) ∧ (decode cL_law 868 = .ok (.iload_n 3, 1)) ∧ (decode cL_law 869 = .ok (.iconst 3, 1)) ∧ (decode cL_law 870 = .ok (.iadd, 1)) ∧ (decode cL_law 871 = .ok (.iaload, 1)) := by decide +kernel
theorem dL_law_860 : decode cL_law 860 = .ok (.iadd, 1) := dLg_46.1
theorem dL_law_861 : decode cL_law 861 = .ok (.iaload, 1) := dLg_46.2.1
theorem dL_law_862 : decode cL_law 862 = .ok (.aload_n 0, 1) := dLg_46.2.2.1
theorem dL_law_863 : decode cL_law 863 = .ok (.iload_n 3, 1) := dLg_46.2.2.2.1
theorem dL_law_864 : decode cL_law 864 = .ok (.iconst 2, 1) := dLg_46.2.2.2.2.1
theorem dL_law_865 : decode cL_law 865 = .ok (.iadd, 1) := dLg_46.2.2.2.2.2.1
theorem dL_law_866 : decode cL_law 866 = .ok (.iaload, 1) := dLg_46.2.2.2.2.2.2.1
theorem dL_law_867 : decode cL_law 867 = .ok (.aload_n 0, 1) := dLg_46.2.2.2.2.2.2.2.1
theorem dL_law_868 : decode cL_law 868 = .ok (.iload_n 3, 1) := dLg_46.2.2.2.2.2.2.2.2.1
theorem dL_law_869 : decode cL_law 869 = .ok (.iconst 3, 1) := dLg_46.2.2.2.2.2.2.2.2.2.1
theorem dL_law_870 : decode cL_law 870 = .ok (.iadd, 1) := dLg_46.2.2.2.2.2.2.2.2.2.2.1
theorem dL_law_871 : decode cL_law 871 = .ok (.iaload, 1) := dLg_46.2.2.2.2.2.2.2.2.2.2.2
theorem dLg_47 : (decode cL_law 872 = .ok (.invokevirtual 105, 3)) ∧ (decode cL_law 875 = .ok (.pop, 1)) ∧ (decode cL_law 876 = .ok (.goto 460, 3)) ∧ (decode cL_law 879 = .ok (.aload_n 1, 1)) ∧ (decode cL_law 880 = .ok (.aload_n 0, 1)) ∧ (decode cL_law 881 = .ok (.iload_n 3, 1)) ∧ (decode cL_law 882 = .ok (.iconst 1, 1)) ∧ (decode cL_law 883 = .ok (.iadd, 1)) ∧ (decode cL_law 884 = .ok (.iaload, 1)) ∧ (decode cL_law 885 = .ok (.invokevirtual 106, 3)) ∧ (decode cL_law 888 = .ok (.pop, 1)) ∧ (decode cL_law 889 = .ok (.aload_n 2, 1)) := by decide +kernel
theorem dL_law_872 : decode cL_law 872 = .ok (.invokevirtual 105, 3) := dLg_47.1
theorem dL_law_875 : decode cL_law 875 = .ok (.pop, 1) := dLg_47.2.1
theorem dL_law_876 : decode cL_law 876 = .ok (.goto 460, 3) := dLg_47.2.2.1
theorem dL_law_879 : decode cL_law 879 = .ok (.aload_n 1, 1) := dLg_47.2.2.2.1
theorem dL_law_880 : decode cL_law 880 = .ok (.aload_n 0, 1) := dLg_47.2.2.2.2.1
theorem dL_law_881 : decode cL_law 881 = .ok (.iload_n 3, 1) := dLg_47.2.2.2.2.2.1
theorem dL_law_882 : decode cL_law 882 = .ok (.iconst 1, 1) := dLg_47.2.2.2.2.2.2.1
theorem dL_law_883 : decode cL_law 883 = .ok (.iadd, 1) := dLg_47.2.2.2.2.2.2.2.1
theorem dL_law_884 : decode cL_law 884 = .ok (.iaload, 1) := dLg_47.2.2.2.2.2.2.2.2.1
theorem dL_law_885 : decode cL_law 885 = .ok (.invokevirtual 106, 3) := dLg_47.2.2.2.2.2.2.2.2.2.1
theorem dL_law_888 : decode cL_law 888 = .ok (.pop, 1) := dLg_47.2.2.2.2.2.2.2.2.2.2.1
theorem dL_law_889 : decode cL_law 889 = .ok (.aload_n 2, 1) := dLg_47.2.2.2.2.2.2.2.2.2.2.2
theorem dLg_48 : (decode cL_law 890 = .ok (.aload_n 0, 1)) ∧ (decode cL_law 891 = .ok (.iload_n 3, 1)) ∧ (decode cL_law 892 = .ok (.iconst 1, 1)) ∧ (decode cL_law 893 = .ok (.iadd, 1)) ∧ (decode cL_law 894 = .ok (.iaload, 1)) ∧ (decode cL_law 895 = .ok (.invokevirtual 109, 3)) ∧ (decode cL_law 898 = .ok (.pop, 1)) ∧ (decode cL_law 899 = .ok (.goto 437, 3)) ∧ (decode cL_law 902 = .ok (.aload_n 1, 1)) ∧ (decode cL_law 903 = .ok (.aload_n 0, 1)) ∧ (decode cL_law 904 = .ok (.iload_n 3, 1)) ∧ (decode cL_law 905 = .ok (.iconst 1, 1)) := by decide +kernel
theorem dL_law_890 : decode cL_law 890 = .ok (.aload_n 0, 1) := dLg_48.1
theorem dL_law_891 : decode cL_law 891 = .ok (.iload_n 3, 1) := dLg_48.2.1
theorem dL_law_892 : decode cL_law 892 = .ok (.iconst 1, 1) := dLg_48.2.2.1
theorem dL_law_893 : decode cL_law 893 = .ok (.iadd, 1) := dLg_48.2.2.2.1
theorem dL_law_894 : decode cL_law 894 = .ok (.iaload, 1) := dLg_48.2.2.2.2.1
theorem dL_law_895 : decode cL_law 895 = .ok (.invokevirtual 109, 3) := dLg_48.2.2.2.2.2.1
theorem dL_law_898 : decode cL_law 898 = .ok (.pop, 1) := dLg_48.2.2.2.2.2.2.1
theorem dL_law_899 : decode cL_law 899 = .ok (.goto 437, 3) := dLg_48.2.2.2.2.2.2.2.1
theorem dL_law_902 : decode cL_law 902 = .ok (.aload_n 1, 1) := dLg_48.2.2.2.2.2.2.2.2.1
theorem dL_law_903 : decode cL_law 903 = .ok (.aload_n 0, 1) := dLg_48.2.2.2.2.2.2.2.2.2.1
theorem dL_law_904 : decode cL_law 904 = .ok (.iload_n 3, 1) := dLg_48.2.2.2.2.2.2.2.2.2.2.1
theorem dL_law_905 : decode cL_law 905 = .ok (.iconst 1, 1) := dLg_48.2.2.2.2.2.2.2.2.2.2.2
theorem dLg_49 : (decode cL_law 906 = .ok (.iadd, 1)) ∧ (decode cL_law 907 = .ok (.iaload, 1)) ∧ (decode cL_law 908 = .ok (.invokevirtual 110, 3)) ∧ (decode cL_law 911 = .ok (.pop, 1)) ∧ (decode cL_law 912 = .ok (.aload_n 2, 1)) ∧ (decode cL_law 913 = .ok (.aload_n 0, 1)) ∧ (decode cL_law 914 = .ok (.iload_n 3, 1)) ∧ (decode cL_law 915 = .ok (.iconst 1, 1)) ∧ (decode cL_law 916 = .ok (.iadd, 1)) ∧ (decode cL_law 917 = .ok (.iaload, 1)) ∧ (decode cL_law 918 = .ok (.invokevirtual 113, 3)) ∧ (decode cL_law 921 = .ok (.pop, 1)) := by decide +kernel
theorem dL_law_906 : decode cL_law 906 = .ok (.iadd, 1) := dLg_49.1
theorem dL_law_907 : decode cL_law 907 = .ok (.iaload, 1) := dLg_49.2.1
theorem dL_law_908 : decode cL_law 908 = .ok (.invokevirtual 110, 3) := dLg_49.2.2.1
theorem dL_law_911 : decode cL_law 911 = .ok (.pop, 1) := dLg_49.2.2.2.1
theorem dL_law_912 : decode cL_law 912 = .ok (.aload_n 2, 1) := dLg_49.2.2.2.2.1
theorem dL_law_913 : decode cL_law 913 = .ok (.aload_n 0, 1) := dLg_49.2.2.2.2.2.1
theorem dL_law_914 : decode cL_law 914 = .ok (.iload_n 3, 1) := dLg_49.2.2.2.2.2.2.1
theorem dL_law_915 : decode cL_law 915 = .ok (.iconst 1, 1) := dLg_49.2.2.2.2.2.2.2.1
theorem dL_law_916 : decode cL_law 916 = .ok (.iadd, 1) := dLg_49.2.2.2.2.2.2.2.2.1
theorem dL_law_917 : decode cL_law 917 = .ok (.iaload, 1) := dLg_49.2.2.2.2.2.2.2.2.2.1
theorem dL_law_918 : decode cL_law 918 = .ok (.invokevirtual 113, 3) := dLg_49.2.2.2.2.2.2.2.2.2.2.1
theorem dL_law_921 : decode cL_law 921 = .ok (.pop, 1) := dLg_49.2.2.2.2.2.2.2.2.2.2.2
theorem dLg_50 : (decode cL_law 922 = .ok (.goto 414, 3)) ∧ (decode cL_law 925 = .ok (.aload_n 1, 1)) ∧ (decode cL_law 926 = .ok (.aload_n 0, 1)) ∧ (decode cL_law 927 = .ok (.iload_n 3, 1)) ∧ (decode cL_law 928 = .ok (.iconst 1, 1)) ∧ (decode cL_law 929 = .ok (.iadd, 1)) ∧ (decode cL_law 930 = .ok (.iaload, 1)) ∧ (decode cL_law 931 = .ok (.invokevirtual 114, 3)) ∧ (decode cL_law 934 = .ok (.pop, 1)) ∧ (decode cL_law 935 = .ok (.aload_n 2, 1)) ∧ (decode cL_law 936 = .ok (.aload_n 0, 1)) ∧ (decode cL_law 937 = .ok (.iload_n 3, 1)) := by decide +kernel
theorem dL_law_922 : decode cL_law 922 = .ok (.goto 414, 3) := dLg_50.1
theorem dL_law_925 : decode cL_law 925 = .ok (.aload_n 1, 1) := dLg_50.2.1
theorem dL_law_926 : decode cL_law 926 = .ok (.aload_n 0, 1) := dLg_50.2.2.1
theorem dL_law_927 : decode cL_law 927 = .ok (.iload_n 3, 1) := dLg_50.2.2.2.1
theorem dL_law_928 : decode cL_law 928 = .ok (.iconst 1, 1) := dLg_50.2.2.2.2.1
theorem dL_law_929 : decode cL_law 929 = .ok (.iadd, 1) := dLg_50.2.2.2.2.2.1
theorem dL_law_930 : decode cL_law 930 = .ok (.iaload, 1) := dLg_50.2.2.2.2.2.2.1
theorem dL_law_931 : decode cL_law 931 = .ok (.invokevirtual 114, 3) := dLg_50.2.2.2.2.2.2.2.1
theorem dL_law_934 : decode cL_law 934 = .ok (.pop, 1) := dLg_50.2.2.2.2.2.2.2.2.1
theorem dL_law_935 : decode cL_law 935 = .ok (.aload_n 2, 1) := dLg_50.2.2.2.2.2.2.2.2.2.1
theorem dL_law_936 : decode cL_law 936 = .ok (.aload_n 0, 1) := dLg_50.2.2.2.2.2.2.2.2.2.2.1
theorem dL_law_937 : decode cL_law 937 = .ok (.iload_n 3, 1) := dLg_50.2.2.2.2.2.2.2.2.2.2.2
theorem dLg_51 : (decode cL_law 938 = .ok (.iconst 1, 1)) ∧ (decode cL_law 939 = .ok (.iadd, 1)) ∧ (decode cL_law 940 = .ok (.iaload, 1)) ∧ (decode cL_law 941 = .ok (.invokevirtual 117, 3)) ∧ (decode cL_law 944 = .ok (.pop, 1)) ∧ (decode cL_law 945 = .ok (.goto 391, 3)) ∧ (decode cL_law 948 = .ok (.aload_n 1, 1)) ∧ (decode cL_law 949 = .ok (.invokevirtual 118, 3)) ∧ (decode cL_law 952 = .ok (.pop, 1)) ∧ (decode cL_law 953 = .ok (.aload_n 2, 1)) ∧ (decode cL_law 954 = .ok (.invokevirtual 121, 3)) ∧ (decode cL_law 957 = .ok (.pop, 1)) := by decide +kernel
theorem dL_law_938 : decode cL_law 938 = .ok (.iconst 1, 1) := dLg_51.1
theorem dL_law_939 : decode cL_law 939 = .ok (.iadd, 1) := dLg_51.2.1
theorem dL_law_940 : decode cL_law 940 = .ok (.iaload, 1) := dLg_51.2.2.1
theorem dL_law_941 : decode cL_law 941 = .ok (.invokevirtual 117, 3) := dLg_51.2.2.2.1
theorem dL_law_944 : decode cL_law 944 = .ok (.pop, 1) := dLg_51.2.2.2.2.1
theorem dL_law_945 : decode cL_law 945 = .ok (.goto 391, 3) := dLg_51.2.2.2.2.2.1
theorem dL_law_948 : decode cL_law 948 = .ok (.aload_n 1, 1) := dLg_51.2.2.2.2.2.2.1
theorem dL_law_949 : decode cL_law 949 = .ok (.invokevirtual 118, 3) := dLg_51.2.2.2.2.2.2.2.1
theorem dL_law_952 : decode cL_law 952 = .ok (.pop, 1) := dLg_51.2.2.2.2.2.2.2.2.1
theorem dL_law_953 : decode cL_law 953 = .ok (.aload_n 2, 1) := dLg_51.2.2.2.2.2.2.2.2.2.1
theorem dL_law_954 : decode cL_law 954 = .ok (.invokevirtual 121, 3) := dLg_51.2.2.2.2.2.2.2.2.2.2.1
theorem dL_law_957 : decode cL_law 957 = .ok (.pop, 1) := dLg_51.2.2.2.2.2.2.2.2.2.2.2
theorem dLg_52 : (decode cL_law 958 = .ok (.goto 378, 3)) ∧ (decode cL_law 961 = .ok (.aload_n 1, 1)) ∧ (decode cL_law 962 = .ok (.aload_n 0, 1)) ∧ (decode cL_law 963 = .ok (.iload_n 3, 1)) ∧ (decode cL_law 964 = .ok (.iconst 1, 1)) ∧ (decode cL_law 965 = .ok (.iadd, 1)) ∧ (decode cL_law 966 = .ok (.iaload, 1)) ∧ (decode cL_law 967 = .ok (.invokevirtual 122, 3)) ∧ (decode cL_law 970 = .ok (.pop, 1)) ∧ (decode cL_law 971 = .ok (.aload_n 2, 1)) ∧ (decode cL_law 972 = .ok (.aload_n 0, 1)) ∧ (decode cL_law 973 = .ok (.iload_n 3, 1)) := by decide +kernel
theorem dL_law_958 : decode cL_law 958 = .ok (.goto 378, 3) := dLg_52.1
theorem dL_law_961 : decode cL_law 961 = .ok (.aload_n 1, 1) := dLg_52.2.1
theorem dL_law_962 : decode cL_law 962 = .ok (.aload_n 0, 1) := dLg_52.2.2.1
theorem dL_law_963 : decode cL_law 963 = .ok (.iload_n 3, 1) := dLg_52.2.2.2.1
theorem dL_law_964 : decode cL_law 964 = .ok (.iconst 1, 1) := dLg_52.2.2.2.2.1
theorem dL_law_965 : decode cL_law 965 = .ok (.iadd, 1) := dLg_52.2.2.2.2.2.1
theorem dL_law_966 : decode cL_law 966 = .ok (.iaload, 1) := dLg_52.2.2.2.2.2.2.1
theorem dL_law_967 : decode cL_law 967 = .ok (.invokevirtual 122, 3) := dLg_52.2.2.2.2.2.2.2.1
theorem dL_law_970 : decode cL_law 970 = .ok (.pop, 1) := dLg_52.2.2.2.2.2.2.2.2.1
theorem dL_law_971 : decode cL_law 971 = .ok (.aload_n 2, 1) := dLg_52.2.2.2.2.2.2.2.2.2.1
theorem dL_law_972 : decode cL_law 972 = .ok (.aload_n 0, 1) := dLg_52.2.2.2.2.2.2.2.2.2.2.1
theorem dL_law_973 : decode cL_law 973 = .ok (.iload_n 3, 1) := dLg_52.2.2.2.2.2.2.2.2.2.2.2
theorem dLg_53 : (decode cL_law 974 = .ok (.iconst 1, 1)) ∧ (decode cL_law 975 = .ok (.iadd, 1)) ∧ (decode cL_law 976 = .ok (.iaload, 1)) ∧ (decode cL_law 977 = .ok (.invokevirtual 125, 3)) ∧ (decode cL_law 980 = .ok (.pop, 1)) ∧ (decode cL_law 981 = .ok (.goto 355, 3)) ∧ (decode cL_law 984 = .ok (.aload_n 1, 1)) ∧ (decode cL_law 985 = .ok (.aload_n 0, 1)) ∧ (decode cL_law 986 = .ok (.iload_n 3, 1)) ∧ (decode cL_law 987 = .ok (.iconst 1, 1)) ∧ (decode cL_law 988 = .ok (.iadd, 1)) ∧ (decode cL_law 989 = .ok (.iaload, 1)) := by decide +kernel
theorem dL_law_974 : decode cL_law 974 = .ok (.iconst 1, 1) := dLg_53.1
theorem dL_law_975 : decode cL_law 975 = .ok (.iadd, 1) := dLg_53.2.1
theorem dL_law_976 : decode cL_law 976 = .ok (.iaload, 1) := dLg_53.2.2.1
theorem dL_law_977 : decode cL_law 977 = .ok (.invokevirtual 125, 3) := dLg_53.2.2.2.1
theorem dL_law_980 : decode cL_law 980 = .ok (.pop, 1) := dLg_53.2.2.2.2.1
theorem dL_law_981 : decode cL_law 981 = .ok (.goto 355, 3) := dLg_53.2.2.2.2.2.1
theorem dL_law_984 : decode cL_law 984 = .ok (.aload_n 1, 1) := dLg_53.2.2.2.2.2.2.1
theorem dL_law_985 : decode cL_law 985 = .ok (.aload_n 0, 1) := dLg_53.2.2.2.2.2.2.2.1
theorem dL_law_986 : decode cL_law 986 = .ok (.iload_n 3, 1) := dLg_53.2.2.2.2.2.2.2.2.1
theorem dL_law_987 : decode cL_law 987 = .ok (.iconst 1, 1) := dLg_53.2.2.2.2.2.2.2.2.2.1
theorem dL_law_988 : decode cL_law 988 = .ok (.iadd, 1) := dLg_53.2.2.2.2.2.2.2.2.2.2.1
theorem dL_law_989 : decode cL_law 989 = .ok (.iaload, 1) := dLg_53.2.2.2.2.2.2.2.2.2.2.2
theorem dLg_54 : (decode cL_law 990 = .ok (.aload_n 0, 1)) ∧ (decode cL_law 991 = .ok (.iload_n 3, 1)) ∧ (decode cL_law 992 = .ok (.iconst 2, 1)) ∧ (decode cL_law 993 = .ok (.iadd, 1)) ∧ (decode cL_law 994 = .ok (.iaload, 1)) ∧ (decode cL_law 995 = .ok (.invokevirtual 126, 3)) ∧ (decode cL_law 998 = .ok (.aload_n 2, 1)) ∧ (decode cL_law 999 = .ok (.aload_n 0, 1)) ∧ (decode cL_law 1000 = .ok (.iload_n 3, 1)) ∧ (decode cL_law 1001 = .ok (.iconst 1, 1)) ∧ (decode cL_law 1002 = .ok (.iadd, 1)) ∧ (decode cL_law 1003 = .ok (.iaload, 1)) := by decide +kernel
theorem dL_law_990 : decode cL_law 990 = .ok (.aload_n 0, 1) := dLg_54.1
theorem dL_law_991 : decode cL_law 991 = .ok (.iload_n 3, 1) := dLg_54.2.1
theorem dL_law_992 : decode cL_law 992 = .ok (.iconst 2, 1) := dLg_54.2.2.1
theorem dL_law_993 : decode cL_law 993 = .ok (.iadd, 1) := dLg_54.2.2.2.1
theorem dL_law_994 : decode cL_law 994 = .ok (.iaload, 1) := dLg_54.2.2.2.2.1
theorem dL_law_995 : decode cL_law 995 = .ok (.invokevirtual 126, 3) := dLg_54.2.2.2.2.2.1
theorem dL_law_998 : decode cL_law 998 = .ok (.aload_n 2, 1) := dLg_54.2.2.2.2.2.2.1
theorem dL_law_999 : decode cL_law 999 = .ok (.aload_n 0, 1) := dLg_54.2.2.2.2.2.2.2.1
theorem dL_law_1000 : decode cL_law 1000 = .ok (.iload_n 3, 1) := dLg_54.2.2.2.2.2.2.2.2.1
theorem dL_law_1001 : decode cL_law 1001 = .ok (.iconst 1, 1) := dLg_54.2.2.2.2.2.2.2.2.2.1
theorem dL_law_1002 : decode cL_law 1002 = .ok (.iadd, 1) := dLg_54.2.2.2.2.2.2.2.2.2.2.1
theorem dL_law_1003 : decode cL_law 1003 = .ok (.iaload, 1) := dLg_54.2.2.2.2.2.2.2.2.2.2.2
theorem dLg_55 : (decode cL_law 1004 = .ok (.aload_n 0, 1)) ∧ (decode cL_law 1005 = .ok (.iload_n 3, 1)) ∧ (decode cL_law 1006 = .ok (.iconst 2, 1)) ∧ (decode cL_law 1007 = .ok (.iadd, 1)) ∧ (decode cL_law 1008 = .ok (.iaload, 1)) ∧ (decode cL_law 1009 = .ok (.invokevirtual 129, 3)) ∧ (decode cL_law 1012 = .ok (.if_icmp .eq 324, 3)) ∧ (decode cL_law 1015 = .ok (.iconst 0, 1)) ∧ (decode cL_law 1016 = .ok (.ireturn, 1)) ∧ (decode cL_law 1017 = .ok (.aload_n 1, 1)) ∧ (decode cL_law 1018 = .ok (.aload_n 0, 1)) ∧ (decode cL_law 1019 = .ok (.iload_n 3, 1)) := by decide +kernel
theorem dL_law_1004 : decode cL_law 1004 = .ok (.aload_n 0, 1) := dLg_55.1
theorem dL_law_1005 : decode cL_law 1005 = .ok (.iload_n 3, 1) := dLg_55.2.1
theorem dL_law_1006 : decode cL_law 1006 = .ok (.iconst 2, 1) := dLg_55.2.2.1
theorem dL_law_1007 : decode cL_law 1007 = .ok (.iadd, 1) := dLg_55.2.2.2.1
theorem dL_law_1008 : decode cL_law 1008 = .ok (.iaload, 1) := dLg_55.2.2.2.2.1
theorem dL_law_1009 : decode cL_law 1009 = .ok (.invokevirtual 129, 3) := dLg_55.2.2.2.2.2.1
theorem dL_law_1012 : decode cL_law 1012 = .ok (.if_icmp .eq 324, 3) := dLg_55.2.2.2.2.2.2.1
theorem dL_law_1015 : decode cL_law 1015 = .ok (.iconst 0, 1) := dLg_55.2.2.2.2.2.2.2.1
theorem dL_law_1016 : decode cL_law 1016 = .ok (.ireturn, 1) := dLg_55.2.2.2.2.2.2.2.2.1
theorem dL_law_1017 : decode cL_law 1017 = .ok (.aload_n 1, 1) := dLg_55.2.2.2.2.2.2.2.2.2.1
theorem dL_law_1018 : decode cL_law 1018 = .ok (.aload_n 0, 1) := dLg_55.2.2.2.2.2.2.2.2.2.2.1
theorem dL_law_1019 : decode cL_law 1019 = .ok (.iload_n 3, 1) := dLg_55.2.2.2.2.2.2.2.2.2.2.2
theorem dLg_56 : (decode cL_law 1020 = .ok (.iconst 1, 1)) ∧ (decode cL_law 1021 = .ok (.iadd, 1)) ∧ (decode cL_law 1022 = .ok (.iaload, 1)) ∧ (decode cL_law 1023 = .ok (.invokevirtual 130, 3)) ∧ (decode cL_law 1026 = .ok (.pop, 1)) ∧ (decode cL_law 1027 = .ok (.aload_n 2, 1)) ∧ (decode cL_law 1028 = .ok (.aload_n 0, 1)) ∧ (decode cL_law 1029 = .ok (.iload_n 3, 1)) ∧ (decode cL_law 1030 = .ok (.iconst 1, 1)) ∧ (decode cL_law 1031 = .ok (.iadd, 1)) ∧ (decode cL_law 1032 = .ok (.iaload, 1)) ∧ (decode cL_law 1033 = .ok (.invokevirtual 133, 3)) := by decide +kernel
theorem dL_law_1020 : decode cL_law 1020 = .ok (.iconst 1, 1) := dLg_56.1
theorem dL_law_1021 : decode cL_law 1021 = .ok (.iadd, 1) := dLg_56.2.1
theorem dL_law_1022 : decode cL_law 1022 = .ok (.iaload, 1) := dLg_56.2.2.1
theorem dL_law_1023 : decode cL_law 1023 = .ok (.invokevirtual 130, 3) := dLg_56.2.2.2.1
theorem dL_law_1026 : decode cL_law 1026 = .ok (.pop, 1) := dLg_56.2.2.2.2.1
theorem dL_law_1027 : decode cL_law 1027 = .ok (.aload_n 2, 1) := dLg_56.2.2.2.2.2.1
theorem dL_law_1028 : decode cL_law 1028 = .ok (.aload_n 0, 1) := dLg_56.2.2.2.2.2.2.1
theorem dL_law_1029 : decode cL_law 1029 = .ok (.iload_n 3, 1) := dLg_56.2.2.2.2.2.2.2.1
theorem dL_law_1030 : decode cL_law 1030 = .ok (.iconst 1, 1) := dLg_56.2.2.2.2.2.2.2.2.1
theorem dL_law_1031 : decode cL_law 1031 = .ok (.iadd, 1) := dLg_56.2.2.2.2.2.2.2.2.2.1
theorem dL_law_1032 : decode cL_law 1032 = .ok (.iaload, 1) := dLg_56.2.2.2.2.2.2.2.2.2.2.1
theorem dL_law_1033 : decode cL_law 1033 = .ok (.invokevirtual 133, 3) := dLg_56.2.2.2.2.2.2.2.2.2.2.2
theorem dLg_57 : (decode cL_law 1036 = .ok (.pop, 1)) ∧ (decode cL_law 1037 = .ok (.goto 299, 3)) ∧ (decode cL_law 1040 = .ok (.aload_n 1, 1)) ∧ (decode cL_law 1041 = .ok (.aload_n 0, 1)) ∧ (decode cL_law 1042 = .ok (.iload_n 3, 1)) ∧ (decode cL_law 1043 = .ok (.iconst 1, 1)) ∧ (decode cL_law 1044 = .ok (.iadd, 1)) ∧ (decode cL_law 1045 = .ok (.iaload, 1)) ∧ (decode cL_law 1046 = .ok (.aload_n 0, 1)) ∧ (decode cL_law 1047 = .ok (.iload_n 3, 1)) ∧ (decode cL_law 1048 = .ok (.iconst 2, 1)) ∧ (decode cL_law 1049 = .ok (.iadd, 1)) := by decide +kernel
theorem dL_law_1036 : decode cL_law 1036 = .ok (.pop, 1) := dLg_57.1
theorem dL_law_1037 : decode cL_law 1037 = .ok (.goto 299, 3) := dLg_57.2.1
theorem dL_law_1040 : decode cL_law 1040 = .ok (.aload_n 1, 1) := dLg_57.2.2.1
theorem dL_law_1041 : decode cL_law 1041 = .ok (.aload_n 0, 1) := dLg_57.2.2.2.1
theorem dL_law_1042 : decode cL_law 1042 = .ok (.iload_n 3, 1) := dLg_57.2.2.2.2.1
theorem dL_law_1043 : decode cL_law 1043 = .ok (.iconst 1, 1) := dLg_57.2.2.2.2.2.1
theorem dL_law_1044 : decode cL_law 1044 = .ok (.iadd, 1) := dLg_57.2.2.2.2.2.2.1
theorem dL_law_1045 : decode cL_law 1045 = .ok (.iaload, 1) := dLg_57.2.2.2.2.2.2.2.1
theorem dL_law_1046 : decode cL_law 1046 = .ok (.aload_n 0, 1) := dLg_57.2.2.2.2.2.2.2.2.1
theorem dL_law_1047 : decode cL_law 1047 = .ok (.iload_n 3, 1) := dLg_57.2.2.2.2.2.2.2.2.2.1
theorem dL_law_1048 : decode cL_law 1048 = .ok (.iconst 2, 1) := dLg_57.2.2.2.2.2.2.2.2.2.2.1
theorem dL_law_1049 : decode cL_law 1049 = .ok (.iadd, 1) := dLg_57.2.2.2.2.2.2.2.2.2.2.2
theorem dLg_58 : (decode cL_law 1050 = .ok (.iaload, 1)) ∧ (decode cL_law 1051 = .ok (.aload_n 0, 1)) ∧ (decode cL_law 1052 = .ok (.iload_n 3, 1)) ∧ (decode cL_law 1053 = .ok (.iconst 3, 1)) ∧ (decode cL_law 1054 = .ok (.iadd, 1)) ∧ (decode cL_law 1055 = .ok (.iaload, 1)) ∧ (decode cL_law 1056 = .ok (.invokevirtual 134, 3)) ∧ (decode cL_law 1059 = .ok (.pop, 1)) ∧ (decode cL_law 1060 = .ok (.aload_n 2, 1)) ∧ (decode cL_law 1061 = .ok (.aload_n 0, 1)) ∧ (decode cL_law 1062 = .ok (.iload_n 3, 1)) ∧ (decode cL_law 1063 = .ok (.iconst 1, 1)) := by decide +kernel
theorem dL_law_1050 : decode cL_law 1050 = .ok (.iaload, 1) := dLg_58.1
theorem dL_law_1051 : decode cL_law 1051 = .ok (.aload_n 0, 1) := dLg_58.2.1
theorem dL_law_1052 : decode cL_law 1052 = .ok (.iload_n 3, 1) := dLg_58.2.2.1
theorem dL_law_1053 : decode cL_law 1053 = .ok (.iconst 3, 1) := dLg_58.2.2.2.1
theorem dL_law_1054 : decode cL_law 1054 = .ok (.iadd, 1) := dLg_58.2.2.2.2.1
theorem dL_law_1055 : decode cL_law 1055 = .ok (.iaload, 1) := dLg_58.2.2.2.2.2.1
theorem dL_law_1056 : decode cL_law 1056 = .ok (.invokevirtual 134, 3) := dLg_58.2.2.2.2.2.2.1
theorem dL_law_1059 : decode cL_law 1059 = .ok (.pop, 1) := dLg_58.2.2.2.2.2.2.2.1
theorem dL_law_1060 : decode cL_law 1060 = .ok (.aload_n 2, 1) := dLg_58.2.2.2.2.2.2.2.2.1
theorem dL_law_1061 : decode cL_law 1061 = .ok (.aload_n 0, 1) := dLg_58.2.2.2.2.2.2.2.2.2.1
theorem dL_law_1062 : decode cL_law 1062 = .ok (.iload_n 3, 1) := dLg_58.2.2.2.2.2.2.2.2.2.2.1
theorem dL_law_1063 : decode cL_law 1063 = .ok (.iconst 1, 1) := dLg_58.2.2.2.2.2.2.2.2.2.2.2
theorem dLg_59 : (decode cL_law 1064 = .ok (.iadd, 1)) ∧ (decode cL_law 1065 = .ok (.iaload, 1)) ∧ (decode cL_law 1066 = .ok (.aload_n 0, 1)) ∧ (decode cL_law 1067 = .ok (.iload_n 3, 1)) ∧ (decode cL_law 1068 = .ok (.iconst 2, 1)) ∧ (decode cL_law 1069 = .ok (.iadd, 1)) ∧ (decode cL_law 1070 = .ok (.iaload, 1)) ∧ (decode cL_law 1071 = .ok (.aload_n 0, 1)) ∧ (decode cL_law 1072 = .ok (.iload_n 3, 1)) ∧ (decode cL_law 1073 = .ok (.iconst 3, 1)) ∧ (decode cL_law 1074 = .ok (.iadd, 1)) ∧ (decode cL_law 1075 = .ok (.iaload, 1)) := by decide +kernel
theorem dL_law_1064 : decode cL_law 1064 = .ok (.iadd, 1) := dLg_59.1
theorem dL_law_1065 : decode cL_law 1065 = .ok (.iaload, 1) := dLg_59.2.1
theorem dL_law_1066 : decode cL_law 1066 = .ok (.aload_n 0, 1) := dLg_59.2.2.1
theorem dL_law_1067 : decode cL_law 1067 = .ok (.iload_n 3, 1) := dLg_59.2.2.2.1
theorem dL_law_1068 : decode cL_law 1068 = .ok (.iconst 2, 1) := dLg_59.2.2.2.2.1
theorem dL_law_1069 : decode cL_law 1069 = .ok (.iadd, 1) := dLg_59.2.2.2.2.2.1
theorem dL_law_1070 : decode cL_law 1070 = .ok (.iaload, 1) := dLg_59.2.2.2.2.2.2.1
theorem dL_law_1071 : decode cL_law 1071 = .ok (.aload_n 0, 1) := dLg_59.2.2.2.2.2.2.2.1
theorem dL_law_1072 : decode cL_law 1072 = .ok (.iload_n 3, 1) := dLg_59.2.2.2.2.2.2.2.2.1
theorem dL_law_1073 : decode cL_law 1073 = .ok (.iconst 3, 1) := dLg_59.2.2.2.2.2.2.2.2.2.1
theorem dL_law_1074 : decode cL_law 1074 = .ok (.iadd, 1) := dLg_59.2.2.2.2.2.2.2.2.2.2.1
theorem dL_law_1075 : decode cL_law 1075 = .ok (.iaload, 1) := dLg_59.2.2.2.2.2.2.2.2.2.2.2
theorem dLg_60 : (decode cL_law 1076 = .ok (.invokevirtual 137, 3)) ∧ (decode cL_law 1079 = .ok (.pop, 1)) ∧ (decode cL_law 1080 = .ok (.goto 256, 3)) ∧ (decode cL_law 1083 = .ok (.aload_n 1, 1)) ∧ (decode cL_law 1084 = .ok (.aload_n 0, 1)) ∧ (decode cL_law 1085 = .ok (.iload_n 3, 1)) ∧ (decode cL_law 1086 = .ok (.iconst 1, 1)) ∧ (decode cL_law 1087 = .ok (.iadd, 1)) ∧ (decode cL_law 1088 = .ok (.iaload, 1)) ∧ (decode cL_law 1089 = .ok (.invokevirtual 138, 3)) ∧ (decode cL_law 1092 = .ok (.pop, 1)) ∧ (decode cL_law 1093 = .ok (.aload_n 2, 1)) := by decide +kernel
theorem dL_law_1076 : decode cL_law 1076 = .ok (.invokevirtual 137, 3) := dLg_60.1
theorem dL_law_1079 : decode cL_law 1079 = .ok (.pop, 1) := dLg_60.2.1
theorem dL_law_1080 : decode cL_law 1080 = .ok (.goto 256, 3) := dLg_60.2.2.1
theorem dL_law_1083 : decode cL_law 1083 = .ok (.aload_n 1, 1) := dLg_60.2.2.2.1
theorem dL_law_1084 : decode cL_law 1084 = .ok (.aload_n 0, 1) := dLg_60.2.2.2.2.1
theorem dL_law_1085 : decode cL_law 1085 = .ok (.iload_n 3, 1) := dLg_60.2.2.2.2.2.1
theorem dL_law_1086 : decode cL_law 1086 = .ok (.iconst 1, 1) := dLg_60.2.2.2.2.2.2.1
theorem dL_law_1087 : decode cL_law 1087 = .ok (.iadd, 1) := dLg_60.2.2.2.2.2.2.2.1
theorem dL_law_1088 : decode cL_law 1088 = .ok (.iaload, 1) := dLg_60.2.2.2.2.2.2.2.2.1
theorem dL_law_1089 : decode cL_law 1089 = .ok (.invokevirtual 138, 3) := dLg_60.2.2.2.2.2.2.2.2.2.1
theorem dL_law_1092 : decode cL_law 1092 = .ok (.pop, 1) := dLg_60.2.2.2.2.2.2.2.2.2.2.1
theorem dL_law_1093 : decode cL_law 1093 = .ok (.aload_n 2, 1) := dLg_60.2.2.2.2.2.2.2.2.2.2.2
theorem dLg_61 : (decode cL_law 1094 = .ok (.aload_n 0, 1)) ∧ (decode cL_law 1095 = .ok (.iload_n 3, 1)) ∧ (decode cL_law 1096 = .ok (.iconst 1, 1)) ∧ (decode cL_law 1097 = .ok (.iadd, 1)) ∧ (decode cL_law 1098 = .ok (.iaload, 1)) ∧ (decode cL_law 1099 = .ok (.invokevirtual 141, 3)) ∧ (decode cL_law 1102 = .ok (.pop, 1)) ∧ (decode cL_law 1103 = .ok (.goto 233, 3)) ∧ (decode cL_law 1106 = .ok (.aload_n 1, 1)) ∧ (decode cL_law 1107 = .ok (.aload_n 0, 1)) ∧ (decode cL_law 1108 = .ok (.iload_n 3, 1)) ∧ (decode cL_law 1109 = .ok (.iconst 1, 1)) := by decide +kernel
theorem dL_law_1094 : decode cL_law 1094 = .ok (.aload_n 0, 1) := dLg_61.1
theorem dL_law_1095 : decode cL_law 1095 = .ok (.iload_n 3, 1) := dLg_61.2.1
theorem dL_law_1096 : decode cL_law 1096 = .ok (.iconst 1, 1) := dLg_61.2.2.1
theorem dL_law_1097 : decode cL_law 1097 = .ok (.iadd, 1) := dLg_61.2.2.2.1
theorem dL_law_1098 : decode cL_law 1098 = .ok (.iaload, 1) := dLg_61.2.2.2.2.1
theorem dL_law_1099 : decode cL_law 1099 = .ok (.invokevirtual 141, 3) := dLg_61.2.2.2.2.2.1
theorem dL_law_1102 : decode cL_law 1102 = .ok (.pop, 1) := dLg_61.2.2.2.2.2.2.1
theorem dL_law_1103 : decode cL_law 1103 = .ok (.goto 233, 3) := dLg_61.2.2.2.2.2.2.2.1
theorem dL_law_1106 : decode cL_law 1106 = .ok (.aload_n 1, 1) := dLg_61.2.2.2.2.2.2.2.2.1
theorem dL_law_1107 : decode cL_law 1107 = .ok (.aload_n 0, 1) := dLg_61.2.2.2.2.2.2.2.2.2.1
theorem dL_law_1108 : decode cL_law 1108 = .ok (.iload_n 3, 1) := dLg_61.2.2.2.2.2.2.2.2.2.2.1
theorem dL_law_1109 : decode cL_law 1109 = .ok (.iconst 1, 1) := dLg_61.2.2.2.2.2.2.2.2.2.2.2
theorem dLg_62 : (decode cL_law 1110 = .ok (.iadd, 1)) ∧ (decode cL_law 1111 = .ok (.iaload, 1)) ∧ (decode cL_law 1112 = .ok (.aload_n 0, 1)) ∧ (decode cL_law 1113 = .ok (.iload_n 3, 1)) ∧ (decode cL_law 1114 = .ok (.iconst 2, 1)) ∧ (decode cL_law 1115 = .ok (.iadd, 1)) ∧ (decode cL_law 1116 = .ok (.iaload, 1)) ∧ (decode cL_law 1117 = .ok (.aload_n 0, 1)) ∧ (decode cL_law 1118 = .ok (.iload_n 3, 1)) ∧ (decode cL_law 1119 = .ok (.iconst 3, 1)) ∧ (decode cL_law 1120 = .ok (.iadd, 1)) ∧ (decode cL_law 1121 = .ok (.iaload, 1)) := by decide +kernel
theorem dL_law_1110 : decode cL_law 1110 = .ok (.iadd, 1) := dLg_62.1
theorem dL_law_1111 : decode cL_law 1111 = .ok (.iaload, 1) := dLg_62.2.1
theorem dL_law_1112 : decode cL_law 1112 = .ok (.aload_n 0, 1) := dLg_62.2.2.1
theorem dL_law_1113 : decode cL_law 1113 = .ok (.iload_n 3, 1) := dLg_62.2.2.2.1
theorem dL_law_1114 : decode cL_law 1114 = .ok (.iconst 2, 1) := dLg_62.2.2.2.2.1
theorem dL_law_1115 : decode cL_law 1115 = .ok (.iadd, 1) := dLg_62.2.2.2.2.2.1
theorem dL_law_1116 : decode cL_law 1116 = .ok (.iaload, 1) := dLg_62.2.2.2.2.2.2.1
theorem dL_law_1117 : decode cL_law 1117 = .ok (.aload_n 0, 1) := dLg_62.2.2.2.2.2.2.2.1
theorem dL_law_1118 : decode cL_law 1118 = .ok (.iload_n 3, 1) := dLg_62.2.2.2.2.2.2.2.2.1
theorem dL_law_1119 : decode cL_law 1119 = .ok (.iconst 3, 1) := dLg_62.2.2.2.2.2.2.2.2.2.1
theorem dL_law_1120 : decode cL_law 1120 = .ok (.iadd, 1) := dLg_62.2.2.2.2.2.2.2.2.2.2.1
theorem dL_law_1121 : decode cL_law 1121 = .ok (.iaload, 1) := dLg_62.2.2.2.2.2.2.2.2.2.2.2
theorem dLg_63 : (decode cL_law 1122 = .ok (.invokevirtual 142, 3)) ∧ (decode cL_law 1125 = .ok (.pop, 1)) ∧ (decode cL_law 1126 = .ok (.aload_n 2, 1)) ∧ (decode cL_law 1127 = .ok (.aload_n 0, 1)) ∧ (decode cL_law 1128 = .ok (.iload_n 3, 1)) ∧ (decode cL_law 1129 = .ok (.iconst 1, 1)) ∧ (decode cL_law 1130 = .ok (.iadd, 1)) ∧ (decode cL_law 1131 = .ok (.iaload, 1)) ∧ (decode cL_law 1132 = .ok (.aload_n 0, 1)) ∧ (decode cL_law 1133 = .ok (.iload_n 3, 1)) ∧ (decode cL_law 1134 = .ok (.iconst 2, 1)) ∧ (decode cL_law 1135 = .ok (.iadd, 1)) := by decide +kernel
theorem dL_law_1122 : decode cL_law 1122 = .ok (.invokevirtual 142, 3) := dLg_63.1
theorem dL_law_1125 : decode cL_law 1125 = .ok (.pop, 1) := dLg_63.2.1
theorem dL_law_1126 : decode cL_law 1126 = .ok (.aload_n 2, 1) := dLg_63.2.2.1
theorem dL_law_1127 : decode cL_law 1127 = .ok (.aload_n 0, 1) := dLg_63.2.2.2.1
theorem dL_law_1128 : decode cL_law 1128 = .ok (.iload_n 3, 1) := dLg_63.2.2.2.2.1
theorem dL_law_1129 : decode cL_law 1129 = .ok (.iconst 1, 1) := dLg_63.2.2.2.2.2.1
theorem dL_law_1130 : decode cL_law 1130 = .ok (.iadd, 1) := dLg_63.2.2.2.2.2.2.1
theorem dL_law_1131 : decode cL_law 1131 = .ok (.iaload, 1) := dLg_63.2.2.2.2.2.2.2.1
theorem dL_law_1132 : decode cL_law 1132 = .ok (.aload_n 0, 1) := dLg_63.2.2.2.2.2.2.2.2.1
theorem dL_law_1133 : decode cL_law 1133 = .ok (.iload_n 3, 1) := dLg_63.2.2.2.2.2.2.2.2.2.1
theorem dL_law_1134 : decode cL_law 1134 = .ok (.iconst 2, 1) := dLg_63.2.2.2.2.2.2.2.2.2.2.1
theorem dL_law_1135 : decode cL_law 1135 = .ok (.iadd, 1) := dLg_63.2.2.2.2.2.2.2.2.2.2.2
theorem dLg_64 : (decode cL_law 1136 = .ok (.iaload, 1)) ∧ (decode cL_law 1137 = .ok (.aload_n 0, 1)) ∧ (decode cL_law 1138 = .ok (.iload_n 3, 1)) ∧ (decode cL_law 1139 = .ok (.iconst 3, 1)) ∧ (decode cL_law 1140 = .ok (.iadd, 1)) ∧ (decode cL_law 1141 = .ok (.iaload, 1)) ∧ (decode cL_law 1142 = .ok (.invokevirtual 145, 3)) ∧ (decode cL_law 1145 = .ok (.pop, 1)) ∧ (decode cL_law 1146 = .ok (.goto 190, 3)) ∧ (decode cL_law 1149 = .ok (.aload_n 1, 1)) ∧ (decode cL_law 1150 = .ok (.aload_n 0, 1)) ∧ (decode cL_law 1151 = .ok (.iload_n 3, 1)) := by decide +kernel
theorem dL_law_1136 : decode cL_law 1136 = .ok (.iaload, 1) := dLg_64.1
theorem dL_law_1137 : decode cL_law 1137 = .ok (.aload_n 0, 1) := dLg_64.2.1
theorem dL_law_1138 : decode cL_law 1138 = .ok (.iload_n 3, 1) := dLg_64.2.2.1
theorem dL_law_1139 : decode cL_law 1139 = .ok (.iconst 3, 1) := dLg_64.2.2.2.1
theorem dL_law_1140 : decode cL_law 1140 = .ok (.iadd, 1) := dLg_64.2.2.2.2.1
theorem dL_law_1141 : decode cL_law 1141 = .ok (.iaload, 1) := dLg_64.2.2.2.2.2.1
theorem dL_law_1142 : decode cL_law 1142 = .ok (.invokevirtual 145, 3) := dLg_64.2.2.2.2.2.2.1
theorem dL_law_1145 : decode cL_law 1145 = .ok (.pop, 1) := dLg_64.2.2.2.2.2.2.2.1
theorem dL_law_1146 : decode cL_law 1146 = .ok (.goto 190, 3) := dLg_64.2.2.2.2.2.2.2.2.1
theorem dL_law_1149 : decode cL_law 1149 = .ok (.aload_n 1, 1) := dLg_64.2.2.2.2.2.2.2.2.2.1
theorem dL_law_1150 : decode cL_law 1150 = .ok (.aload_n 0, 1) := dLg_64.2.2.2.2.2.2.2.2.2.2.1
theorem dL_law_1151 : decode cL_law 1151 = .ok (.iload_n 3, 1) := dLg_64.2.2.2.2.2.2.2.2.2.2.2
theorem dLg_65 : (decode cL_law 1152 = .ok (.iconst 1, 1)) ∧ (decode cL_law 1153 = .ok (.iadd, 1)) ∧ (decode cL_law 1154 = .ok (.iaload, 1)) ∧ (decode cL_law 1155 = .ok (.aload_n 0, 1)) ∧ (decode cL_law 1156 = .ok (.iload_n 3, 1)) ∧ (decode cL_law 1157 = .ok (.iconst 2, 1)) ∧ (decode cL_law 1158 = .ok (.iadd, 1)) ∧ (decode cL_law 1159 = .ok (.iaload, 1)) ∧ (decode cL_law 1160 = .ok (.ifCond .eq 7, 3)) ∧ (decode cL_law 1163 = .ok (.iconst 1, 1)) ∧ (decode cL_law 1164 = .ok (.goto 4, 3)) ∧ (decode cL_law 1167 = .ok (.iconst 0, 1)) := by decide +kernel
theorem dL_law_1152 : decode cL_law 1152 = .ok (.iconst 1, 1) := dLg_65.1
theorem dL_law_1153 : decode cL_law 1153 = .ok (.iadd, 1) := dLg_65.2.1
theorem dL_law_1154 : decode cL_law 1154 = .ok (.iaload, 1) := dLg_65.2.2.1
theorem dL_law_1155 : decode cL_law 1155 = .ok (.aload_n 0, 1) := dLg_65.2.2.2.1
theorem dL_law_1156 : decode cL_law 1156 = .ok (.iload_n 3, 1) := dLg_65.2.2.2.2.1
theorem dL_law_1157 : decode cL_law 1157 = .ok (.iconst 2, 1) := dLg_65.2.2.2.2.2.1
theorem dL_law_1158 : decode cL_law 1158 = .ok (.iadd, 1) := dLg_65.2.2.2.2.2.2.1
theorem dL_law_1159 : decode cL_law 1159 = .ok (.iaload, 1) := dLg_65.2.2.2.2.2.2.2.1
theorem dL_law_1160 : decode cL_law 1160 = .ok (.ifCond .eq 7, 3) := dLg_65.2.2.2.2.2.2.2.2.1
theorem dL_law_1163 : decode cL_law 1163 = .ok (.iconst 1, 1) := dLg_65.2.2.2.2.2.2.2.2.2.1
theorem dL_law_1164 : decode cL_law 1164 = .ok (.goto 4, 3) := dLg_65.2.2.2.2.2.2.2.2.2.2.1
theorem dL_law_1167 : decode cL_law 1167 = .ok (.iconst 0, 1) := dLg_65.2.2.2.2.2.2.2.2.2.2.2
theorem dLg_66 : (decode cL_law 1168 = .ok (.invokevirtual 146, 3)) ∧ (decode cL_law 1171 = .ok (.pop, 1)) ∧ (decode cL_law 1172 = .ok (.aload_n 2, 1)) ∧ (decode cL_law 1173 = .ok (.aload_n 0, 1)) ∧ (decode cL_law 1174 = .ok (.iload_n 3, 1)) ∧ (decode cL_law 1175 = .ok (.iconst 1, 1)) ∧ (decode cL_law 1176 = .ok (.iadd, 1)) ∧ (decode cL_law 1177 = .ok (.iaload, 1)) ∧ (decode cL_law 1178 = .ok (.aload_n 0, 1)) ∧ (decode cL_law 1179 = .ok (.iload_n 3, 1)) ∧ (decode cL_law 1180 = .ok (.iconst 2, 1)) ∧ (decode cL_law 1181 = .ok (.iadd, 1)) := by decide +kernel
theorem dL_law_1168 : decode cL_law 1168 = .ok (.invokevirtual 146, 3) := dLg_66.1
theorem dL_law_1171 : decode cL_law 1171 = .ok (.pop, 1) := dLg_66.2.1
theorem dL_law_1172 : decode cL_law 1172 = .ok (.aload_n 2, 1) := dLg_66.2.2.1
theorem dL_law_1173 : decode cL_law 1173 = .ok (.aload_n 0, 1) := dLg_66.2.2.2.1
theorem dL_law_1174 : decode cL_law 1174 = .ok (.iload_n 3, 1) := dLg_66.2.2.2.2.1
theorem dL_law_1175 : decode cL_law 1175 = .ok (.iconst 1, 1) := dLg_66.2.2.2.2.2.1
theorem dL_law_1176 : decode cL_law 1176 = .ok (.iadd, 1) := dLg_66.2.2.2.2.2.2.1
theorem dL_law_1177 : decode cL_law 1177 = .ok (.iaload, 1) := dLg_66.2.2.2.2.2.2.2.1
theorem dL_law_1178 : decode cL_law 1178 = .ok (.aload_n 0, 1) := dLg_66.2.2.2.2.2.2.2.2.1
theorem dL_law_1179 : decode cL_law 1179 = .ok (.iload_n 3, 1) := dLg_66.2.2.2.2.2.2.2.2.2.1
theorem dL_law_1180 : decode cL_law 1180 = .ok (.iconst 2, 1) := dLg_66.2.2.2.2.2.2.2.2.2.2.1
theorem dL_law_1181 : decode cL_law 1181 = .ok (.iadd, 1) := dLg_66.2.2.2.2.2.2.2.2.2.2.2
theorem dLg_67 : (decode cL_law 1182 = .ok (.iaload, 1)) ∧ (decode cL_law 1183 = .ok (.ifCond .eq 7, 3)) ∧ (decode cL_law 1186 = .ok (.iconst 1, 1)) ∧ (decode cL_law 1187 = .ok (.goto 4, 3)) ∧ (decode cL_law 1190 = .ok (.iconst 0, 1)) ∧ (decode cL_law 1191 = .ok (.invokevirtual 150, 3)) ∧ (decode cL_law 1194 = .ok (.pop, 1)) ∧ (decode cL_law 1195 = .ok (.goto 141, 3)) ∧ (decode cL_law 1198 = .ok (.aload_n 1, 1)) ∧ (decode cL_law 1199 = .ok (.invokevirtual 151, 3)) ∧ (decode cL_law 1202 = .ok (.pop, 1)) ∧ (decode cL_law 1203 = .ok (.aload_n 2, 1)) := by decide +kernel
theorem dL_law_1182 : decode cL_law 1182 = .ok (.iaload, 1) := dLg_67.1
theorem dL_law_1183 : decode cL_law 1183 = .ok (.ifCond .eq 7, 3) := dLg_67.2.1
theorem dL_law_1186 : decode cL_law 1186 = .ok (.iconst 1, 1) := dLg_67.2.2.1
theorem dL_law_1187 : decode cL_law 1187 = .ok (.goto 4, 3) := dLg_67.2.2.2.1
theorem dL_law_1190 : decode cL_law 1190 = .ok (.iconst 0, 1) := dLg_67.2.2.2.2.1
theorem dL_law_1191 : decode cL_law 1191 = .ok (.invokevirtual 150, 3) := dLg_67.2.2.2.2.2.1
theorem dL_law_1194 : decode cL_law 1194 = .ok (.pop, 1) := dLg_67.2.2.2.2.2.2.1
theorem dL_law_1195 : decode cL_law 1195 = .ok (.goto 141, 3) := dLg_67.2.2.2.2.2.2.2.1
theorem dL_law_1198 : decode cL_law 1198 = .ok (.aload_n 1, 1) := dLg_67.2.2.2.2.2.2.2.2.1
theorem dL_law_1199 : decode cL_law 1199 = .ok (.invokevirtual 151, 3) := dLg_67.2.2.2.2.2.2.2.2.2.1
theorem dL_law_1202 : decode cL_law 1202 = .ok (.pop, 1) := dLg_67.2.2.2.2.2.2.2.2.2.2.1
theorem dL_law_1203 : decode cL_law 1203 = .ok (.aload_n 2, 1) := dLg_67.2.2.2.2.2.2.2.2.2.2.2
theorem dLg_68 : (decode cL_law 1204 = .ok (.invokevirtual 154, 3)) ∧ (decode cL_law 1207 = .ok (.pop, 1)) ∧ (decode cL_law 1208 = .ok (.goto 128, 3)) ∧ (decode cL_law 1211 = .ok (.aload_n 1, 1)) ∧ (decode cL_law 1212 = .ok (.aload_n 0, 1)) ∧ (decode cL_law 1213 = .ok (.iload_n 3, 1)) ∧ (decode cL_law 1214 = .ok (.iconst 1, 1)) ∧ (decode cL_law 1215 = .ok (.iadd, 1)) ∧ (decode cL_law 1216 = .ok (.iaload, 1)) ∧ (decode cL_law 1217 = .ok (.aload_n 0, 1)) ∧ (decode cL_law 1218 = .ok (.iload_n 3, 1)) ∧ (decode cL_law 1219 = .ok (.iconst 2, 1)) := by decide +kernel
theorem dL_law_1204 : decode cL_law 1204 = .ok (.invokevirtual 154, 3) := dLg_68.1
theorem dL_law_1207 : decode cL_law 1207 = .ok (.pop, 1) := dLg_68.2.1
theorem dL_law_1208 : decode cL_law 1208 = .ok (.goto 128, 3) := dLg_68.2.2.1
theorem dL_law_1211 : decode cL_law 1211 = .ok (.aload_n 1, 1) := dLg_68.2.2.2.1
theorem dL_law_1212 : decode cL_law 1212 = .ok (.aload_n 0, 1) := dLg_68.2.2.2.2.1
theorem dL_law_1213 : decode cL_law 1213 = .ok (.iload_n 3, 1) := dLg_68.2.2.2.2.2.1
theorem dL_law_1214 : decode cL_law 1214 = .ok (.iconst 1, 1) := dLg_68.2.2.2.2.2.2.1
theorem dL_law_1215 : decode cL_law 1215 = .ok (.iadd, 1) := dLg_68.2.2.2.2.2.2.2.1
theorem dL_law_1216 : decode cL_law 1216 = .ok (.iaload, 1) := dLg_68.2.2.2.2.2.2.2.2.1
theorem dL_law_1217 : decode cL_law 1217 = .ok (.aload_n 0, 1) := dLg_68.2.2.2.2.2.2.2.2.2.1
theorem dL_law_1218 : decode cL_law 1218 = .ok (.iload_n 3, 1) := dLg_68.2.2.2.2.2.2.2.2.2.2.1
theorem dL_law_1219 : decode cL_law 1219 = .ok (.iconst 2, 1) := dLg_68.2.2.2.2.2.2.2.2.2.2.2
theorem dLg_69 : (decode cL_law 1220 = .ok (.iadd, 1)) ∧ (decode cL_law 1221 = .ok (.iaload, 1)) ∧ (decode cL_law 1222 = .ok (.invokevirtual 155, 3)) ∧ (decode cL_law 1225 = .ok (.pop, 1)) ∧ (decode cL_law 1226 = .ok (.aload_n 2, 1)) ∧ (decode cL_law 1227 = .ok (.aload_n 0, 1)) ∧ (decode cL_law 1228 = .ok (.iload_n 3, 1)) ∧ (decode cL_law 1229 = .ok (.iconst 1, 1)) ∧ (decode cL_law 1230 = .ok (.iadd, 1)) ∧ (decode cL_law 1231 = .ok (.iaload, 1)) ∧ (decode cL_law 1232 = .ok (.aload_n 0, 1)) ∧ (decode cL_law 1233 = .ok (.iload_n 3, 1)) := by decide +kernel
theorem dL_law_1220 : decode cL_law 1220 = .ok (.iadd, 1) := dLg_69.1
theorem dL_law_1221 : decode cL_law 1221 = .ok (.iaload, 1) := dLg_69.2.1
theorem dL_law_1222 : decode cL_law 1222 = .ok (.invokevirtual 155, 3) := dLg_69.2.2.1
theorem dL_law_1225 : decode cL_law 1225 = .ok (.pop, 1) := dLg_69.2.2.2.1
theorem dL_law_1226 : decode cL_law 1226 = .ok (.aload_n 2, 1) := dLg_69.2.2.2.2.1
theorem dL_law_1227 : decode cL_law 1227 = .ok (.aload_n 0, 1) := dLg_69.2.2.2.2.2.1
theorem dL_law_1228 : decode cL_law 1228 = .ok (.iload_n 3, 1) := dLg_69.2.2.2.2.2.2.1
theorem dL_law_1229 : decode cL_law 1229 = .ok (.iconst 1, 1) := dLg_69.2.2.2.2.2.2.2.1
theorem dL_law_1230 : decode cL_law 1230 = .ok (.iadd, 1) := dLg_69.2.2.2.2.2.2.2.2.1
theorem dL_law_1231 : decode cL_law 1231 = .ok (.iaload, 1) := dLg_69.2.2.2.2.2.2.2.2.2.1
theorem dL_law_1232 : decode cL_law 1232 = .ok (.aload_n 0, 1) := dLg_69.2.2.2.2.2.2.2.2.2.2.1
theorem dL_law_1233 : decode cL_law 1233 = .ok (.iload_n 3, 1) := dLg_69.2.2.2.2.2.2.2.2.2.2.2
theorem dLg_70 : (decode cL_law 1234 = .ok (.iconst 2, 1)) ∧ (decode cL_law 1235 = .ok (.iadd, 1)) ∧ (decode cL_law 1236 = .ok (.iaload, 1)) ∧ (decode cL_law 1237 = .ok (.invokevirtual 158, 3)) ∧ (decode cL_law 1240 = .ok (.pop, 1)) ∧ (decode cL_law 1241 = .ok (.goto 95, 3)) ∧ (decode cL_law 1244 = .ok (.aload_n 1, 1)) ∧ (decode cL_law 1245 = .ok (.aload_n 0, 1)) ∧ (decode cL_law 1246 = .ok (.iload_n 3, 1)) ∧ (decode cL_law 1247 = .ok (.iconst 1, 1)) ∧ (decode cL_law 1248 = .ok (.iadd, 1)) ∧ (decode cL_law 1249 = .ok (.iaload, 1)) := by decide +kernel
theorem dL_law_1234 : decode cL_law 1234 = .ok (.iconst 2, 1) := dLg_70.1
theorem dL_law_1235 : decode cL_law 1235 = .ok (.iadd, 1) := dLg_70.2.1
theorem dL_law_1236 : decode cL_law 1236 = .ok (.iaload, 1) := dLg_70.2.2.1
theorem dL_law_1237 : decode cL_law 1237 = .ok (.invokevirtual 158, 3) := dLg_70.2.2.2.1
theorem dL_law_1240 : decode cL_law 1240 = .ok (.pop, 1) := dLg_70.2.2.2.2.1
theorem dL_law_1241 : decode cL_law 1241 = .ok (.goto 95, 3) := dLg_70.2.2.2.2.2.1
theorem dL_law_1244 : decode cL_law 1244 = .ok (.aload_n 1, 1) := dLg_70.2.2.2.2.2.2.1
theorem dL_law_1245 : decode cL_law 1245 = .ok (.aload_n 0, 1) := dLg_70.2.2.2.2.2.2.2.1
theorem dL_law_1246 : decode cL_law 1246 = .ok (.iload_n 3, 1) := dLg_70.2.2.2.2.2.2.2.2.1
theorem dL_law_1247 : decode cL_law 1247 = .ok (.iconst 1, 1) := dLg_70.2.2.2.2.2.2.2.2.2.1
theorem dL_law_1248 : decode cL_law 1248 = .ok (.iadd, 1) := dLg_70.2.2.2.2.2.2.2.2.2.2.1
theorem dL_law_1249 : decode cL_law 1249 = .ok (.iaload, 1) := dLg_70.2.2.2.2.2.2.2.2.2.2.2
theorem dLg_71 : (decode cL_law 1250 = .ok (.invokevirtual 159, 3)) ∧ (decode cL_law 1253 = .ok (.pop, 1)) ∧ (decode cL_law 1254 = .ok (.aload_n 2, 1)) ∧ (decode cL_law 1255 = .ok (.aload_n 0, 1)) ∧ (decode cL_law 1256 = .ok (.iload_n 3, 1)) ∧ (decode cL_law 1257 = .ok (.iconst 1, 1)) ∧ (decode cL_law 1258 = .ok (.iadd, 1)) ∧ (decode cL_law 1259 = .ok (.iaload, 1)) ∧ (decode cL_law 1260 = .ok (.invokevirtual 162, 3)) ∧ (decode cL_law 1263 = .ok (.pop, 1)) ∧ (decode cL_law 1264 = .ok (.goto 72, 3)) ∧ (decode cL_law 1267 = .ok (.aload_n 1, 1)) := by decide +kernel
theorem dL_law_1250 : decode cL_law 1250 = .ok (.invokevirtual 159, 3) := dLg_71.1
theorem dL_law_1253 : decode cL_law 1253 = .ok (.pop, 1) := dLg_71.2.1
theorem dL_law_1254 : decode cL_law 1254 = .ok (.aload_n 2, 1) := dLg_71.2.2.1
theorem dL_law_1255 : decode cL_law 1255 = .ok (.aload_n 0, 1) := dLg_71.2.2.2.1
theorem dL_law_1256 : decode cL_law 1256 = .ok (.iload_n 3, 1) := dLg_71.2.2.2.2.1
theorem dL_law_1257 : decode cL_law 1257 = .ok (.iconst 1, 1) := dLg_71.2.2.2.2.2.1
theorem dL_law_1258 : decode cL_law 1258 = .ok (.iadd, 1) := dLg_71.2.2.2.2.2.2.1
theorem dL_law_1259 : decode cL_law 1259 = .ok (.iaload, 1) := dLg_71.2.2.2.2.2.2.2.1
theorem dL_law_1260 : decode cL_law 1260 = .ok (.invokevirtual 162, 3) := dLg_71.2.2.2.2.2.2.2.2.1
theorem dL_law_1263 : decode cL_law 1263 = .ok (.pop, 1) := dLg_71.2.2.2.2.2.2.2.2.2.1
theorem dL_law_1264 : decode cL_law 1264 = .ok (.goto 72, 3) := dLg_71.2.2.2.2.2.2.2.2.2.2.1
theorem dL_law_1267 : decode cL_law 1267 = .ok (.aload_n 1, 1) := dLg_71.2.2.2.2.2.2.2.2.2.2.2
theorem dLg_72 : (decode cL_law 1268 = .ok (.aload_n 0, 1)) ∧ (decode cL_law 1269 = .ok (.iload_n 3, 1)) ∧ (decode cL_law 1270 = .ok (.iconst 1, 1)) ∧ (decode cL_law 1271 = .ok (.iadd, 1)) ∧ (decode cL_law 1272 = .ok (.iaload, 1)) ∧ (decode cL_law 1273 = .ok (.invokevirtual 163, 3)) ∧ (decode cL_law 1276 = .ok (.pop, 1)) ∧ (decode cL_law 1277 = .ok (.aload_n 2, 1)) ∧ (decode cL_law 1278 = .ok (.aload_n 0, 1)) ∧ (decode cL_law 1279 = .ok (.iload_n 3, 1)) ∧ (decode cL_law 1280 = .ok (.iconst 1, 1)) ∧ (decode cL_law 1281 = .ok (.iadd, 1)) := by decide +kernel
theorem dL_law_1268 : decode cL_law 1268 = .ok (.aload_n 0, 1) := dLg_72.1
theorem dL_law_1269 : decode cL_law 1269 = .ok (.iload_n 3, 1) := dLg_72.2.1
theorem dL_law_1270 : decode cL_law 1270 = .ok (.iconst 1, 1) := dLg_72.2.2.1
theorem dL_law_1271 : decode cL_law 1271 = .ok (.iadd, 1) := dLg_72.2.2.2.1
theorem dL_law_1272 : decode cL_law 1272 = .ok (.iaload, 1) := dLg_72.2.2.2.2.1
theorem dL_law_1273 : decode cL_law 1273 = .ok (.invokevirtual 163, 3) := dLg_72.2.2.2.2.2.1
theorem dL_law_1276 : decode cL_law 1276 = .ok (.pop, 1) := dLg_72.2.2.2.2.2.2.1
theorem dL_law_1277 : decode cL_law 1277 = .ok (.aload_n 2, 1) := dLg_72.2.2.2.2.2.2.2.1
theorem dL_law_1278 : decode cL_law 1278 = .ok (.aload_n 0, 1) := dLg_72.2.2.2.2.2.2.2.2.1
theorem dL_law_1279 : decode cL_law 1279 = .ok (.iload_n 3, 1) := dLg_72.2.2.2.2.2.2.2.2.2.1
theorem dL_law_1280 : decode cL_law 1280 = .ok (.iconst 1, 1) := dLg_72.2.2.2.2.2.2.2.2.2.2.1
theorem dL_law_1281 : decode cL_law 1281 = .ok (.iadd, 1) := dLg_72.2.2.2.2.2.2.2.2.2.2.2
theorem dLg_73 : (decode cL_law 1282 = .ok (.iaload, 1)) ∧ (decode cL_law 1283 = .ok (.invokevirtual 167, 3)) ∧ (decode cL_law 1286 = .ok (.pop, 1)) ∧ (decode cL_law 1287 = .ok (.goto 49, 3)) ∧ (decode cL_law 1290 = .ok (.aload_n 1, 1)) ∧ (decode cL_law 1291 = .ok (.aload_n 0, 1)) ∧ (decode cL_law 1292 = .ok (.iload_n 3, 1)) ∧ (decode cL_law 1293 = .ok (.iconst 1, 1)) ∧ (decode cL_law 1294 = .ok (.iadd, 1)) ∧ (decode cL_law 1295 = .ok (.iaload, 1)) ∧ (decode cL_law 1296 = .ok (.invokevirtual 168, 3)) ∧ (decode cL_law 1299 = .ok (.pop, 1)) := by decide +kernel
theorem dL_law_1282 : decode cL_law 1282 = .ok (.iaload, 1) := dLg_73.1
theorem dL_law_1283 : decode cL_law 1283 = .ok (.invokevirtual 167, 3) := dLg_73.2.1
theorem dL_law_1286 : decode cL_law 1286 = .ok (.pop, 1) := dLg_73.2.2.1
theorem dL_law_1287 : decode cL_law 1287 = .ok (.goto 49, 3) := dLg_73.2.2.2.1
theorem dL_law_1290 : decode cL_law 1290 = .ok (.aload_n 1, 1) := dLg_73.2.2.2.2.1
theorem dL_law_1291 : decode cL_law 1291 = .ok (.aload_n 0, 1) := dLg_73.2.2.2.2.2.1
theorem dL_law_1292 : decode cL_law 1292 = .ok (.iload_n 3, 1) := dLg_73.2.2.2.2.2.2.1
theorem dL_law_1293 : decode cL_law 1293 = .ok (.iconst 1, 1) := dLg_73.2.2.2.2.2.2.2.1
theorem dL_law_1294 : decode cL_law 1294 = .ok (.iadd, 1) := dLg_73.2.2.2.2.2.2.2.2.1
theorem dL_law_1295 : decode cL_law 1295 = .ok (.iaload, 1) := dLg_73.2.2.2.2.2.2.2.2.2.1
theorem dL_law_1296 : decode cL_law 1296 = .ok (.invokevirtual 168, 3) := dLg_73.2.2.2.2.2.2.2.2.2.2.1
theorem dL_law_1299 : decode cL_law 1299 = .ok (.pop, 1) := dLg_73.2.2.2.2.2.2.2.2.2.2.2
theorem dLg_74 : (decode cL_law 1300 = .ok (.aload_n 2, 1)) ∧ (decode cL_law 1301 = .ok (.aload_n 0, 1)) ∧ (decode cL_law 1302 = .ok (.iload_n 3, 1)) ∧ (decode cL_law 1303 = .ok (.iconst 1, 1)) ∧ (decode cL_law 1304 = .ok (.iadd, 1)) ∧ (decode cL_law 1305 = .ok (.iaload, 1)) ∧ (decode cL_law 1306 = .ok (.invokevirtual 171, 3)) ∧ (decode cL_law 1309 = .ok (.pop, 1)) ∧ (decode cL_law 1310 = .ok (.goto 26, 3)) ∧ (decode cL_law 1313 = .ok (.aload_n 1, 1)) ∧ (decode cL_law 1314 = .ok (.aload_n 0, 1)) ∧ (decode cL_law 1315 = .ok (.iload_n 3, 1)) := by decide +kernel
theorem dL_law_1300 : decode cL_law 1300 = .ok (.aload_n 2, 1) := dLg_74.1
theorem dL_law_1301 : decode cL_law 1301 = .ok (.aload_n 0, 1) := dLg_74.2.1
theorem dL_law_1302 : decode cL_law 1302 = .ok (.iload_n 3, 1) := dLg_74.2.2.1
theorem dL_law_1303 : decode cL_law 1303 = .ok (.iconst 1, 1) := dLg_74.2.2.2.1
theorem dL_law_1304 : decode cL_law 1304 = .ok (.iadd, 1) := dLg_74.2.2.2.2.1
theorem dL_law_1305 : decode cL_law 1305 = .ok (.iaload, 1) := dLg_74.2.2.2.2.2.1
theorem dL_law_1306 : decode cL_law 1306 = .ok (.invokevirtual 171, 3) := dLg_74.2.2.2.2.2.2.1
theorem dL_law_1309 : decode cL_law 1309 = .ok (.pop, 1) := dLg_74.2.2.2.2.2.2.2.1
theorem dL_law_1310 : decode cL_law 1310 = .ok (.goto 26, 3) := dLg_74.2.2.2.2.2.2.2.2.1
theorem dL_law_1313 : decode cL_law 1313 = .ok (.aload_n 1, 1) := dLg_74.2.2.2.2.2.2.2.2.2.1
theorem dL_law_1314 : decode cL_law 1314 = .ok (.aload_n 0, 1) := dLg_74.2.2.2.2.2.2.2.2.2.2.1
theorem dL_law_1315 : decode cL_law 1315 = .ok (.iload_n 3, 1) := dLg_74.2.2.2.2.2.2.2.2.2.2.2
theorem dLg_75 : (decode cL_law 1316 = .ok (.iconst 1, 1)) ∧ (decode cL_law 1317 = .ok (.iadd, 1)) ∧ (decode cL_law 1318 = .ok (.iaload, 1)) ∧ (decode cL_law 1319 = .ok (.invokevirtual 172, 3)) ∧ (decode cL_law 1322 = .ok (.pop, 1)) ∧ (decode cL_law 1323 = .ok (.aload_n 2, 1)) ∧ (decode cL_law 1324 = .ok (.aload_n 0, 1)) ∧ (decode cL_law 1325 = .ok (.iload_n 3, 1)) ∧ (decode cL_law 1326 = .ok (.iconst 1, 1)) ∧ (decode cL_law 1327 = .ok (.iadd, 1)) ∧ (decode cL_law 1328 = .ok (.iaload, 1)) ∧ (decode cL_law 1329 = .ok (.invokevirtual 175, 3)) := by decide +kernel
theorem dL_law_1316 : decode cL_law 1316 = .ok (.iconst 1, 1) := dLg_75.1
theorem dL_law_1317 : decode cL_law 1317 = .ok (.iadd, 1) := dLg_75.2.1
theorem dL_law_1318 : decode cL_law 1318 = .ok (.iaload, 1) := dLg_75.2.2.1
theorem dL_law_1319 : decode cL_law 1319 = .ok (.invokevirtual 172, 3) := dLg_75.2.2.2.1
theorem dL_law_1322 : decode cL_law 1322 = .ok (.pop, 1) := dLg_75.2.2.2.2.1
theorem dL_law_1323 : decode cL_law 1323 = .ok (.aload_n 2, 1) := dLg_75.2.2.2.2.2.1
theorem dL_law_1324 : decode cL_law 1324 = .ok (.aload_n 0, 1) := dLg_75.2.2.2.2.2.2.1
theorem dL_law_1325 : decode cL_law 1325 = .ok (.iload_n 3, 1) := dLg_75.2.2.2.2.2.2.2.1
theorem dL_law_1326 : decode cL_law 1326 = .ok (.iconst 1, 1) := dLg_75.2.2.2.2.2.2.2.2.1
theorem dL_law_1327 : decode cL_law 1327 = .ok (.iadd, 1) := dLg_75.2.2.2.2.2.2.2.2.2.1
theorem dL_law_1328 : decode cL_law 1328 = .ok (.iaload, 1) := dLg_75.2.2.2.2.2.2.2.2.2.2.1
theorem dL_law_1329 : decode cL_law 1329 = .ok (.invokevirtual 175, 3) := dLg_75.2.2.2.2.2.2.2.2.2.2.2
theorem dLg_76 : (decode cL_law 1332 = .ok (.pop, 1)) ∧ (decode cL_law 1333 = .ok (.goto 3, 3)) ∧ (decode cL_law 1336 = .ok (.iinc 3 6, 3)) ∧ (decode cL_law 1339 = .ok (.goto (-1321), 3)) ∧ (decode cL_law 1342 = .ok (.iconst 1, 1)) ∧ (decode cL_law 1343 = .ok (.ireturn, 1)) := by decide +kernel
theorem dL_law_1332 : decode cL_law 1332 = .ok (.pop, 1) := dLg_76.1
theorem dL_law_1333 : decode cL_law 1333 = .ok (.goto 3, 3) := dLg_76.2.1
theorem dL_law_1336 : decode cL_law 1336 = .ok (.iinc 3 6, 3) := dLg_76.2.2.1
theorem dL_law_1339 : decode cL_law 1339 = .ok (.goto (-1321), 3) := dLg_76.2.2.2.1
theorem dL_law_1342 : decode cL_law 1342 = .ok (.iconst 1, 1) := dLg_76.2.2.2.2.1
theorem dL_law_1343 : decode cL_law 1343 = .ok (.ireturn, 1) := dLg_76.2.2.2.2.2
