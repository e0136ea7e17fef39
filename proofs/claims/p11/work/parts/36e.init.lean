set_option maxHeartbeats 4000000 in
set_option maxRecDepth 100000 in
theorem k_Y_init (d : Nat) : Kc mX12_init (d + 3) [.ref 226] hk_500 (fun r h' => r = none ∧ h' = hk_Y ∧ G hk_Y) := by
  refine Kc.of [some (.ref 226)] ok_X12_init rfl (Nat.le_of_ble_eq_true rfl) ?_
  refine v_aload_n (i := 0) dX12_init_0 rfl rfl ?_
  refine v_objInit ml_X12_7 oi_im oi_code (Nat.le_of_ble_eq_true rfl) dX12_init_1 ?_
  refine v_aload_n (i := 0) dX12_init_4 rfl rfl ?_
  refine v_sipush (v := 2000) dX12_init_5 (by decide) ?_
  refine v_newarr (q := 227) (ty := .byte) (N := 2000) (by decide +kernel) rfl 1 (fun _ => rfl) sh_227 ac_byte ⟨nofun, nofun⟩ (fun _ => nofun) (fun _ => nofun) (by decide) (by decide) (by decide) dX12_init_8 ?_
  refine p_X12_13 rfl sh_226 (by decide +kernel) rfl dX12_init_10 ?_
  refine v_aload_n (i := 0) dX12_init_13 rfl rfl ?_
  refine v_sipush (v := 2000) dX12_init_14 (by decide) ?_
  refine v_newarr (q := 228) (ty := .byte) (N := 2000) (by decide +kernel) rfl 1 (fun _ => rfl) sh_228 ac_byte ⟨nofun, nofun⟩ (fun _ => nofun) (fun _ => nofun) (by decide) (by decide) (by decide) dX12_init_17 ?_
  refine p_X12_17 rfl sh_226 (by decide +kernel) rfl dX12_init_19 ?_
  refine v_aload_n (i := 0) dX12_init_22 rfl rfl ?_
  refine v_sipush (v := 403) dX12_init_23 (by decide) ?_
  refine v_newarr (q := 229) (ty := .int) (N := 403) (by decide +kernel) rfl 0 (fun _ => rfl) sh_229 ac_int ⟨nofun, nofun⟩ (fun _ => nofun) (fun _ => nofun) (by decide) (by decide) (by decide) dX12_init_26 ?_
  refine p_X12_20 rfl sh_226 (by decide +kernel) rfl dX12_init_28 ?_
  refine v_aload_n (i := 0) dX12_init_31 rfl rfl ?_
  refine v_sipush (v := 403) dX12_init_32 (by decide) ?_
  refine v_newarr (q := 230) (ty := .int) (N := 403) (by decide +kernel) rfl 0 (fun _ => rfl) sh_230 ac_int ⟨nofun, nofun⟩ (fun _ => nofun) (fun _ => nofun) (by decide) (by decide) (by decide) dX12_init_35 ?_
  refine p_X12_24 rfl sh_226 (by decide +kernel) rfl dX12_init_37 ?_
  refine v_aload_n (i := 0) dX12_init_40 rfl rfl ?_
  refine v_sipush (v := 403) dX12_init_41 (by decide) ?_
  refine v_newarr (q := 231) (ty := .int) (N := 403) (by decide +kernel) rfl 0 (fun _ => rfl) sh_231 ac_int ⟨nofun, nofun⟩ (fun _ => nofun) (fun _ => nofun) (by decide) (by decide) (by decide) dX12_init_44 ?_
  refine p_X12_27 rfl sh_226 (by decide +kernel) rfl dX12_init_46 ?_
  refine v_aload_n (i := 0) dX12_init_49 rfl rfl ?_
  refine v_sipush (v := 403) dX12_init_50 (by decide) ?_
  refine v_newarr (q := 232) (ty := .long) (N := 403) (by decide +kernel) rfl 4 (fun _ => rfl) sh_232 ac_long ⟨nofun, nofun⟩ (fun _ => nofun) (fun _ => nofun) (by decide) (by decide) (by decide) dX12_init_53 ?_
  refine p_X12_30 rfl sh_226 (by decide +kernel) rfl dX12_init_55 ?_
  refine v_aload_n (i := 0) dX12_init_58 rfl rfl ?_
  refine v_bipush (v := 22) dX12_init_59 (by decide) ?_
  refine v_newarr (q := 233) (ty := .long) (N := 22) (by decide +kernel) rfl 4 (fun _ => rfl) sh_233 ac_long ⟨nofun, nofun⟩ (fun _ => nofun) (fun _ => nofun) (by decide) (by decide) (by decide) dX12_init_61 ?_
  refine p_X12_34 rfl sh_226 (by decide +kernel) rfl dX12_init_63 ?_
  refine v_aload_n (i := 0) dX12_init_66 rfl rfl ?_
  refine v_iconst (v := (-1)) dX12_init_67 (by decide) ?_
  refine p_X12_37 rfl sh_226 (by decide +kernel) dX12_init_68 ?_
  refine v_aload_n (i := 0) dX12_init_71 rfl rfl ?_
  refine v_iconst (v := 5) dX12_init_72 (by decide) ?_
  refine v_newarr (q := 234) (ty := .long) (N := 5) (by decide +kernel) rfl 4 (fun _ => rfl) sh_234 ac_long ⟨nofun, nofun⟩ (fun _ => nofun) (fun _ => nofun) (by decide) (by decide) (by decide) dX12_init_73 ?_
  refine p_X12_40 rfl sh_226 (by decide +kernel) rfl dX12_init_75 ?_
  refine v_aload_n (i := 0) dX12_init_78 rfl rfl ?_
  refine v_iconst (v := 2) dX12_init_79 (by decide) ?_
  refine v_newarr (q := 235) (ty := .int) (N := 2) (by decide +kernel) rfl 0 (fun _ => rfl) sh_235 ac_int ⟨nofun, nofun⟩ (fun _ => nofun) (fun _ => nofun) (by decide) (by decide) (by decide) dX12_init_80 ?_
  refine p_X12_43 rfl sh_226 (by decide +kernel) rfl dX12_init_82 ?_
  refine v_aload_n (i := 0) dX12_init_85 rfl rfl ?_
  refine v_iconst (v := 2) dX12_init_86 (by decide) ?_
  refine v_newarr (q := 236) (ty := .int) (N := 2) (by decide +kernel) rfl 0 (fun _ => rfl) sh_236 ac_int ⟨nofun, nofun⟩ (fun _ => nofun) (fun _ => nofun) (by decide) (by decide) (by decide) dX12_init_87 ?_
  refine p_X12_46 rfl sh_226 (by decide +kernel) rfl dX12_init_89 ?_
  show V _ _ _ _ _ hk_501 _
  refine v_aload_n (i := 0) dX12_init_92 rfl rfl ?_
  refine v_iconst (v := 2) dX12_init_93 (by decide) ?_
  refine v_newarr (q := 237) (ty := .int) (N := 2) (by decide +kernel) rfl 0 (fun _ => rfl) sh_237 ac_int ⟨nofun, nofun⟩ (fun _ => nofun) (fun _ => nofun) (by decide) (by decide) (by decide) dX12_init_94 ?_
  refine p_X12_49 rfl sh_226 (by decide +kernel) rfl dX12_init_96 ?_
  refine v_aload_n (i := 0) dX12_init_99 rfl rfl ?_
  refine v_bipush (v := 16) dX12_init_100 (by decide) ?_
  refine v_newarr (q := 238) (ty := .int) (N := 16) (by decide +kernel) rfl 0 (fun _ => rfl) sh_238 ac_int ⟨nofun, nofun⟩ (fun _ => nofun) (fun _ => nofun) (by decide) (by decide) (by decide) dX12_init_102 ?_
  refine p_X12_52 rfl sh_226 (by decide +kernel) rfl dX12_init_104 ?_
  refine v_aload_n (i := 0) dX12_init_107 rfl rfl ?_
  refine v_bipush (v := 16) dX12_init_108 (by decide) ?_
  refine v_newarr (q := 239) (ty := .int) (N := 16) (by decide +kernel) rfl 0 (fun _ => rfl) sh_239 ac_int ⟨nofun, nofun⟩ (fun _ => nofun) (fun _ => nofun) (by decide) (by decide) (by decide) dX12_init_110 ?_
  refine p_X12_55 rfl sh_226 (by decide +kernel) rfl dX12_init_112 ?_
  refine v_aload_n (i := 0) dX12_init_115 rfl rfl ?_
  refine v_bipush (v := 16) dX12_init_116 (by decide) ?_
  refine v_newarr (q := 240) (ty := .int) (N := 16) (by decide +kernel) rfl 0 (fun _ => rfl) sh_240 ac_int ⟨nofun, nofun⟩ (fun _ => nofun) (fun _ => nofun) (by decide) (by decide) (by decide) dX12_init_118 ?_
  refine p_X12_58 rfl sh_226 (by decide +kernel) rfl dX12_init_120 ?_
  refine v_aload_n (i := 0) dX12_init_123 rfl rfl ?_
  refine v_bipush (v := 16) dX12_init_124 (by decide) ?_
  refine v_newarr (q := 241) (ty := .int) (N := 16) (by decide +kernel) rfl 0 (fun _ => rfl) sh_241 ac_int ⟨nofun, nofun⟩ (fun _ => nofun) (fun _ => nofun) (by decide) (by decide) (by decide) dX12_init_126 ?_
  refine p_X12_61 rfl sh_226 (by decide +kernel) rfl dX12_init_128 ?_
  refine v_aload_n (i := 0) dX12_init_131 rfl rfl ?_
  refine v_iconst (v := 2) dX12_init_132 (by decide) ?_
  refine v_newarr (q := 242) (ty := .int) (N := 2) (by decide +kernel) rfl 0 (fun _ => rfl) sh_242 ac_int ⟨nofun, nofun⟩ (fun _ => nofun) (fun _ => nofun) (by decide) (by decide) (by decide) dX12_init_133 ?_
  refine p_X12_64 rfl sh_226 (by decide +kernel) rfl dX12_init_135 ?_
  refine v_aload_n (i := 0) dX12_init_138 rfl rfl ?_
  refine v_bipush (v := 10) dX12_init_139 (by decide) ?_
  refine v_newarr (q := 243) (ty := .int) (N := 10) (by decide +kernel) rfl 0 (fun _ => rfl) sh_243 ac_int ⟨nofun, nofun⟩ (fun _ => nofun) (fun _ => nofun) (by decide) (by decide) (by decide) dX12_init_141 ?_
  refine p_X12_67 rfl sh_226 (by decide +kernel) rfl dX12_init_143 ?_
  refine v_aload_n (i := 0) dX12_init_146 rfl rfl ?_
  refine v_bipush (v := 10) dX12_init_147 (by decide) ?_
  refine v_newarr (q := 244) (ty := .int) (N := 10) (by decide +kernel) rfl 0 (fun _ => rfl) sh_244 ac_int ⟨nofun, nofun⟩ (fun _ => nofun) (fun _ => nofun) (by decide) (by decide) (by decide) dX12_init_149 ?_
  refine p_X12_70 rfl sh_226 (by decide +kernel) rfl dX12_init_151 ?_
  refine v_aload_n (i := 0) dX12_init_154 rfl rfl ?_
  refine v_iconst (v := 2) dX12_init_155 (by decide) ?_
  refine v_newarr (q := 245) (ty := .int) (N := 2) (by decide +kernel) rfl 0 (fun _ => rfl) sh_245 ac_int ⟨nofun, nofun⟩ (fun _ => nofun) (fun _ => nofun) (by decide) (by decide) (by decide) dX12_init_156 ?_
  refine p_X12_73 rfl sh_226 (by decide +kernel) rfl dX12_init_158 ?_
  refine v_aload_n (i := 0) dX12_init_161 rfl rfl ?_
  refine v_bipush (v := 16) dX12_init_162 (by decide) ?_
  refine v_newarr (q := 246) (ty := .int) (N := 16) (by decide +kernel) rfl 0 (fun _ => rfl) sh_246 ac_int ⟨nofun, nofun⟩ (fun _ => nofun) (fun _ => nofun) (by decide) (by decide) (by decide) dX12_init_164 ?_
  refine p_X12_76 rfl sh_226 (by decide +kernel) rfl dX12_init_166 ?_
  show V _ _ _ _ _ hk_502 _
  refine v_aload_n (i := 0) dX12_init_169 rfl rfl ?_
  refine v_bipush (v := 16) dX12_init_170 (by decide) ?_
  refine v_newarr (q := 247) (ty := .int) (N := 16) (by decide +kernel) rfl 0 (fun _ => rfl) sh_247 ac_int ⟨nofun, nofun⟩ (fun _ => nofun) (fun _ => nofun) (by decide) (by decide) (by decide) dX12_init_172 ?_
  refine p_X12_79 rfl sh_226 (by decide +kernel) rfl dX12_init_174 ?_
  refine v_aload_n (i := 0) dX12_init_177 rfl rfl ?_
  refine v_iconst (v := 2) dX12_init_178 (by decide) ?_
  refine v_newarr (q := 248) (ty := .int) (N := 2) (by decide +kernel) rfl 0 (fun _ => rfl) sh_248 ac_int ⟨nofun, nofun⟩ (fun _ => nofun) (fun _ => nofun) (by decide) (by decide) (by decide) dX12_init_179 ?_
  refine p_X12_82 rfl sh_226 (by decide +kernel) rfl dX12_init_181 ?_
  refine v_aload_n (i := 0) dX12_init_184 rfl rfl ?_
  refine v_iconst (v := 2) dX12_init_185 (by decide) ?_
  refine v_newarr (q := 249) (ty := .int) (N := 2) (by decide +kernel) rfl 0 (fun _ => rfl) sh_249 ac_int ⟨nofun, nofun⟩ (fun _ => nofun) (fun _ => nofun) (by decide) (by decide) (by decide) dX12_init_186 ?_
  refine p_X12_85 rfl sh_226 (by decide +kernel) rfl dX12_init_188 ?_
  refine v_aload_n (i := 0) dX12_init_191 rfl rfl ?_
  refine v_bipush (v := 8) dX12_init_192 (by decide) ?_
  refine v_newarr (q := 250) (ty := .int) (N := 8) (by decide +kernel) rfl 0 (fun _ => rfl) sh_250 ac_int ⟨nofun, nofun⟩ (fun _ => nofun) (fun _ => nofun) (by decide) (by decide) (by decide) dX12_init_194 ?_
  refine p_X12_88 rfl sh_226 (by decide +kernel) rfl dX12_init_196 ?_
  refine v_aload_n (i := 0) dX12_init_199 rfl rfl ?_
  refine v_bipush (v := 8) dX12_init_200 (by decide) ?_
  refine v_newarr (q := 251) (ty := .int) (N := 8) (by decide +kernel) rfl 0 (fun _ => rfl) sh_251 ac_int ⟨nofun, nofun⟩ (fun _ => nofun) (fun _ => nofun) (by decide) (by decide) (by decide) dX12_init_202 ?_
  refine p_X12_91 rfl sh_226 (by decide +kernel) rfl dX12_init_204 ?_
  refine v_aload_n (i := 0) dX12_init_207 rfl rfl ?_
  refine v_sipush (v := 260) dX12_init_208 (by decide) ?_
  refine v_newarr (q := 252) (ty := .boolean) (N := 260) (by decide +kernel) rfl 2 (fun _ => rfl) sh_252 ac_boolean ⟨nofun, nofun⟩ (fun _ => nofun) (fun _ => nofun) (by decide) (by decide) (by decide) dX12_init_211 ?_
  refine p_X12_94 rfl sh_226 (by decide +kernel) rfl dX12_init_213 ?_
  refine v_aload_n (i := 0) dX12_init_216 rfl rfl ?_
  refine v_sipush (v := 260) dX12_init_217 (by decide) ?_
  refine v_newarr (q := 253) (ty := .int) (N := 260) (by decide +kernel) rfl 0 (fun _ => rfl) sh_253 ac_int ⟨nofun, nofun⟩ (fun _ => nofun) (fun _ => nofun) (by decide) (by decide) (by decide) dX12_init_220 ?_
  refine p_X12_98 rfl sh_226 (by decide +kernel) rfl dX12_init_222 ?_
  refine v_aload_n (i := 0) dX12_init_225 rfl rfl ?_
  refine v_sipush (v := 260) dX12_init_226 (by decide) ?_
  refine v_newarr (q := 254) (ty := .int) (N := 260) (by decide +kernel) rfl 0 (fun _ => rfl) sh_254 ac_int ⟨nofun, nofun⟩ (fun _ => nofun) (fun _ => nofun) (by decide) (by decide) (by decide) dX12_init_229 ?_
  refine p_X12_101 rfl sh_226 (by decide +kernel) rfl dX12_init_231 ?_
  refine v_aload_n (i := 0) dX12_init_234 rfl rfl ?_
  refine v_sipush (v := 260) dX12_init_235 (by decide) ?_
  refine v_newarr (q := 255) (ty := .int) (N := 260) (by decide +kernel) rfl 0 (fun _ => rfl) sh_255 ac_int ⟨nofun, nofun⟩ (fun _ => nofun) (fun _ => nofun) (by decide) (by decide) (by decide) dX12_init_238 ?_
  refine p_X12_104 rfl sh_226 (by decide +kernel) rfl dX12_init_240 ?_
  refine v_aload_n (i := 0) dX12_init_243 rfl rfl ?_
  refine v_sipush (v := 260) dX12_init_244 (by decide) ?_
  refine v_newarr (q := 256) (ty := .int) (N := 260) (by decide +kernel) rfl 0 (fun _ => rfl) sh_256 ac_int ⟨nofun, nofun⟩ (fun _ => nofun) (fun _ => nofun) (by decide) (by decide) (by decide) dX12_init_247 ?_
  refine p_X12_107 rfl sh_226 (by decide +kernel) rfl dX12_init_249 ?_
  show V _ _ _ _ _ hk_503 _
  refine v_aload_n (i := 0) dX12_init_252 rfl rfl ?_
  refine v_sipush (v := 840) dX12_init_253 (by decide) ?_
  refine v_newarr (q := 257) (ty := .int) (N := 840) (by decide +kernel) rfl 0 (fun _ => rfl) sh_257 ac_int ⟨nofun, nofun⟩ (fun _ => nofun) (fun _ => nofun) (by decide) (by decide) (by decide) dX12_init_256 ?_
  refine p_X12_110 rfl sh_226 (by decide +kernel) rfl dX12_init_258 ?_
  refine v_aload_n (i := 0) dX12_init_261 rfl rfl ?_
  refine v_sipush (v := 840) dX12_init_262 (by decide) ?_
  refine v_newarr (q := 258) (ty := .int) (N := 840) (by decide +kernel) rfl 0 (fun _ => rfl) sh_258 ac_int ⟨nofun, nofun⟩ (fun _ => nofun) (fun _ => nofun) (by decide) (by decide) (by decide) dX12_init_265 ?_
  refine p_X12_113 rfl sh_226 (by decide +kernel) rfl dX12_init_267 ?_
  refine v_aload_n (i := 0) dX12_init_270 rfl rfl ?_
  refine v_bipush (v := 64) dX12_init_271 (by decide) ?_
  refine v_newarr (q := 259) (ty := .int) (N := 64) (by decide +kernel) rfl 0 (fun _ => rfl) sh_259 ac_int ⟨nofun, nofun⟩ (fun _ => nofun) (fun _ => nofun) (by decide) (by decide) (by decide) dX12_init_273 ?_
  refine p_X12_116 rfl sh_226 (by decide +kernel) rfl dX12_init_275 ?_
  refine v_aload_n (i := 0) dX12_init_278 rfl rfl ?_
  refine v_bipush (v := 9) dX12_init_279 (by decide) ?_
  refine v_newarr (q := 260) (ty := .int) (N := 9) (by decide +kernel) rfl 0 (fun _ => rfl) sh_260 ac_int ⟨nofun, nofun⟩ (fun _ => nofun) (fun _ => nofun) (by decide) (by decide) (by decide) dX12_init_281 ?_
  refine p_X12_119 rfl sh_226 (by decide +kernel) rfl dX12_init_283 ?_
  refine v_aload_n (i := 0) dX12_init_286 rfl rfl ?_
  refine v_sipush (v := 400) dX12_init_287 (by decide) ?_
  refine v_newarr (q := 261) (ty := .int) (N := 400) (by decide +kernel) rfl 0 (fun _ => rfl) sh_261 ac_int ⟨nofun, nofun⟩ (fun _ => nofun) (fun _ => nofun) (by decide) (by decide) (by decide) dX12_init_290 ?_
  refine p_X12_122 rfl sh_226 (by decide +kernel) rfl dX12_init_292 ?_
  refine v_aload_n (i := 0) dX12_init_295 rfl rfl ?_
  refine v_bipush (v := 63) dX12_init_296 (by decide) ?_
  refine v_newarr (q := 262) (ty := .int) (N := 63) (by decide +kernel) rfl 0 (fun _ => rfl) sh_262 ac_int ⟨nofun, nofun⟩ (fun _ => nofun) (fun _ => nofun) (by decide) (by decide) (by decide) dX12_init_298 ?_
  refine p_X12_125 rfl sh_226 (by decide +kernel) rfl dX12_init_300 ?_
  refine v_aload_n (i := 0) dX12_init_303 rfl rfl ?_
  refine v_bipush (v := 63) dX12_init_304 (by decide) ?_
  refine v_newarr (q := 263) (ty := .int) (N := 63) (by decide +kernel) rfl 0 (fun _ => rfl) sh_263 ac_int ⟨nofun, nofun⟩ (fun _ => nofun) (fun _ => nofun) (by decide) (by decide) (by decide) dX12_init_306 ?_
  refine p_X12_128 rfl sh_226 (by decide +kernel) rfl dX12_init_308 ?_
  refine v_aload_n (i := 0) dX12_init_311 rfl rfl ?_
  refine v_bipush (v := 125) dX12_init_312 (by decide) ?_
  refine v_newarr (q := 264) (ty := .int) (N := 125) (by decide +kernel) rfl 0 (fun _ => rfl) sh_264 ac_int ⟨nofun, nofun⟩ (fun _ => nofun) (fun _ => nofun) (by decide) (by decide) (by decide) dX12_init_314 ?_
  refine p_X12_131 rfl sh_226 (by decide +kernel) rfl dX12_init_316 ?_
  refine v_aload_n (i := 0) dX12_init_319 rfl rfl ?_
  refine v_iconst (v := 5) dX12_init_320 (by decide) ?_
  refine v_newarr (q := 265) (ty := .int) (N := 5) (by decide +kernel) rfl 0 (fun _ => rfl) sh_265 ac_int ⟨nofun, nofun⟩ (fun _ => nofun) (fun _ => nofun) (by decide) (by decide) (by decide) dX12_init_321 ?_
  refine p_X12_134 rfl sh_226 (by decide +kernel) rfl dX12_init_323 ?_
  refine v_aload_n (i := 0) dX12_init_326 rfl rfl ?_
  refine v_sipush (v := 2520) dX12_init_327 (by decide) ?_
  refine v_newarr (q := 266) (ty := .int) (N := 2520) (by decide +kernel) rfl 0 (fun _ => rfl) sh_266 ac_int ⟨nofun, nofun⟩ (fun _ => nofun) (fun _ => nofun) (by decide) (by decide) (by decide) dX12_init_330 ?_
  refine p_X12_137 rfl sh_226 (by decide +kernel) rfl dX12_init_332 ?_
  show V _ _ _ _ _ hk_504 _
  refine v_aload_n (i := 0) dX12_init_335 rfl rfl ?_
  refine v_bipush (v := 101) dX12_init_336 (by decide) ?_
  refine v_newarr (q := 267) (ty := .int) (N := 101) (by decide +kernel) rfl 0 (fun _ => rfl) sh_267 ac_int ⟨nofun, nofun⟩ (fun _ => nofun) (fun _ => nofun) (by decide) (by decide) (by decide) dX12_init_338 ?_
  refine p_X12_140 rfl sh_226 (by decide +kernel) rfl dX12_init_340 ?_
  refine v_aload_n (i := 0) dX12_init_343 rfl rfl ?_
  refine v_bipush (v := 101) dX12_init_344 (by decide) ?_
  refine v_newarr (q := 268) (ty := .int) (N := 101) (by decide +kernel) rfl 0 (fun _ => rfl) sh_268 ac_int ⟨nofun, nofun⟩ (fun _ => nofun) (fun _ => nofun) (by decide) (by decide) (by decide) dX12_init_346 ?_
  refine p_X12_143 rfl sh_226 (by decide +kernel) rfl dX12_init_348 ?_
  refine v_aload_n (i := 0) dX12_init_351 rfl rfl ?_
  refine v_bipush (v := 101) dX12_init_352 (by decide) ?_
  refine v_newarr (q := 269) (ty := .int) (N := 101) (by decide +kernel) rfl 0 (fun _ => rfl) sh_269 ac_int ⟨nofun, nofun⟩ (fun _ => nofun) (fun _ => nofun) (by decide) (by decide) (by decide) dX12_init_354 ?_
  refine p_X12_146 rfl sh_226 (by decide +kernel) rfl dX12_init_356 ?_
  refine v_aload_n (i := 0) dX12_init_359 rfl rfl ?_
  refine v_bipush (v := 32) dX12_init_360 (by decide) ?_
  refine v_newarr (q := 270) (ty := .int) (N := 32) (by decide +kernel) rfl 0 (fun _ => rfl) sh_270 ac_int ⟨nofun, nofun⟩ (fun _ => nofun) (fun _ => nofun) (by decide) (by decide) (by decide) dX12_init_362 ?_
  refine p_X12_149 rfl sh_226 (by decide +kernel) rfl dX12_init_364 ?_
  refine v_aload_n (i := 0) dX12_init_367 rfl rfl ?_
  refine v_bipush (v := 20) dX12_init_368 (by decide) ?_
  refine v_newarr (q := 271) (ty := .int) (N := 20) (by decide +kernel) rfl 0 (fun _ => rfl) sh_271 ac_int ⟨nofun, nofun⟩ (fun _ => nofun) (fun _ => nofun) (by decide) (by decide) (by decide) dX12_init_370 ?_
  refine p_X12_152 rfl sh_226 (by decide +kernel) rfl dX12_init_372 ?_
  refine v_aload_n (i := 0) dX12_init_375 rfl rfl ?_
  refine v_bipush (v := 20) dX12_init_376 (by decide) ?_
  refine v_newarr (q := 272) (ty := .boolean) (N := 20) (by decide +kernel) rfl 2 (fun _ => rfl) sh_272 ac_boolean ⟨nofun, nofun⟩ (fun _ => nofun) (fun _ => nofun) (by decide) (by decide) (by decide) dX12_init_378 ?_
  refine p_X12_155 rfl sh_226 (by decide +kernel) rfl dX12_init_380 ?_
  refine v_aload_n (i := 0) dX12_init_383 rfl rfl ?_
  refine v_iconst (v := 3) dX12_init_384 (by decide) ?_
  refine v_newarr (q := 273) (ty := .boolean) (N := 3) (by decide +kernel) rfl 2 (fun _ => rfl) sh_273 ac_boolean ⟨nofun, nofun⟩ (fun _ => nofun) (fun _ => nofun) (by decide) (by decide) (by decide) dX12_init_385 ?_
  refine p_X12_158 rfl sh_226 (by decide +kernel) rfl dX12_init_387 ?_
  refine v_aload_n (i := 0) dX12_init_390 rfl rfl ?_
  refine v_sipush (v := 189) dX12_init_391 (by decide) ?_
  refine v_newarr (q := 274) (ty := .int) (N := 189) (by decide +kernel) rfl 0 (fun _ => rfl) sh_274 ac_int ⟨nofun, nofun⟩ (fun _ => nofun) (fun _ => nofun) (by decide) (by decide) (by decide) dX12_init_394 ?_
  refine p_X12_161 rfl sh_226 (by decide +kernel) rfl dX12_init_396 ?_
  show V _ _ _ _ _ hk_505 _
  exact s_X12_tail d (ogetD hE someY) g12
theorem gY : G hk_Y := by
  obtain ⟨r, h', ⟨_, _, hg⟩, _⟩ := k_Y_init 0
  exact hg
