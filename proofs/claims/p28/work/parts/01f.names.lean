theorem dL_told_1 : decode cL_told 1 = .ok (.iconst 0, 1) := by decide +kernel
theorem dL_told_2 : decode cL_told 2 = .ok (.iload_n 1, 1) := by decide +kernel
theorem dL_told_3 : decode cL_told 3 = .ok (.aload_n 2, 1) := by decide +kernel
theorem dL_told_4 : decode cL_told 4 = .ok (.aload 5, 2) := by decide +kernel
theorem dL_told_6 : decode cL_told 6 = .ok (.invokestatic 68, 3) := by decide +kernel
theorem dL_told_9 : decode cL_told 9 = .ok (.ifCond .eq 32, 3) := by decide +kernel
theorem dL_told_12 : decode cL_told 12 = .ok (.aload_n 0, 1) := by decide +kernel
theorem dL_told_13 : decode cL_told 13 = .ok (.iconst 1, 1) := by decide +kernel
theorem dL_told_14 : decode cL_told 14 = .ok (.iload_n 1, 1) := by decide +kernel
theorem dL_told_15 : decode cL_told 15 = .ok (.iconst 2, 1) := by decide +kernel
theorem dL_told_16 : decode cL_told 16 = .ok (.ishr, 1) := by decide +kernel
theorem dL_told_17 : decode cL_told 17 = .ok (.aload_n 3, 1) := by decide +kernel
theorem dL_told_18 : decode cL_told 18 = .ok (.aload 5, 2) := by decide +kernel
theorem dL_told_20 : decode cL_told 20 = .ok (.invokestatic 68, 3) := by decide +kernel
theorem dL_told_23 : decode cL_told 23 = .ok (.ifCond .eq 18, 3) := by decide +kernel
theorem dL_told_26 : decode cL_told 26 = .ok (.aload_n 0, 1) := by decide +kernel
theorem dL_told_27 : decode cL_told 27 = .ok (.iconst 2, 1) := by decide +kernel
theorem dL_told_28 : decode cL_told 28 = .ok (.iload_n 1, 1) := by decide +kernel
theorem dL_told_29 : decode cL_told 29 = .ok (.iconst 4, 1) := by decide +kernel
theorem dL_told_30 : decode cL_told 30 = .ok (.ishr, 1) := by decide +kernel
theorem dL_told_31 : decode cL_told 31 = .ok (.aload 4, 2) := by decide +kernel
theorem dL_told_33 : decode cL_told 33 = .ok (.aload 5, 2) := by decide +kernel
theorem dL_told_35 : decode cL_told 35 = .ok (.invokestatic 68, 3) := by decide +kernel
theorem dL_told_38 : decode cL_told 38 = .ok (.ifCond .ne 5, 3) := by decide +kernel
theorem dL_told_41 : decode cL_told 41 = .ok (.iconst 0, 1) := by decide +kernel
theorem dL_told_42 : decode cL_told 42 = .ok (.ireturn, 1) := by decide +kernel
theorem dL_told_43 : decode cL_told 43 = .ok (.iconst 0, 1) := by decide +kernel
theorem dL_told_44 : decode cL_told 44 = .ok (.istore 7, 2) := by decide +kernel
theorem dL_told_46 : decode cL_told 46 = .ok (.iconst 0, 1) := by decide +kernel
theorem dL_told_47 : decode cL_told 47 = .ok (.istore 8, 2) := by decide +kernel
theorem dL_told_49 : decode cL_told 49 = .ok (.iconst 0, 1) := by decide +kernel
theorem dL_told_50 : decode cL_told 50 = .ok (.istore 9, 2) := by decide +kernel
theorem dL_told_52 : decode cL_told 52 = .ok (.iload 9, 2) := by decide +kernel
theorem dL_told_54 : decode cL_told 54 = .ok (.bipush 36, 2) := by decide +kernel
theorem dL_told_56 : decode cL_told 56 = .ok (.if_icmp .ge 81, 3) := by decide +kernel
theorem dL_told_59 : decode cL_told 59 = .ok (.iload 9, 2) := by decide +kernel
theorem dL_told_61 : decode cL_told 61 = .ok (.bipush 12, 2) := by decide +kernel
theorem dL_told_63 : decode cL_told 63 = .ok (.if_icmp .ge 7, 3) := by decide +kernel
theorem dL_told_66 : decode cL_told 66 = .ok (.aload_n 2, 1) := by decide +kernel
theorem dL_told_67 : decode cL_told 67 = .ok (.goto 16, 3) := by decide +kernel
theorem dL_told_70 : decode cL_told 70 = .ok (.iload 9, 2) := by decide +kernel
theorem dL_told_72 : decode cL_told 72 = .ok (.bipush 24, 2) := by decide +kernel
theorem dL_told_74 : decode cL_told 74 = .ok (.if_icmp .ge 7, 3) := by decide +kernel
theorem dL_told_77 : decode cL_told 77 = .ok (.aload_n 3, 1) := by decide +kernel
theorem dL_told_78 : decode cL_told 78 = .ok (.goto 5, 3) := by decide +kernel
theorem dL_told_81 : decode cL_told 81 = .ok (.aload 4, 2) := by decide +kernel
theorem dL_told_83 : decode cL_told 83 = .ok (.iload 9, 2) := by decide +kernel
theorem dL_told_85 : decode cL_told 85 = .ok (.bipush 12, 2) := by decide +kernel
theorem dL_told_87 : decode cL_told 87 = .ok (.irem, 1) := by decide +kernel
theorem dL_told_88 : decode cL_told 88 = .ok (.invokestatic 9, 3) := by decide +kernel
theorem dL_told_91 : decode cL_told 91 = .ok (.istore 10, 2) := by decide +kernel
theorem dL_told_93 : decode cL_told 93 = .ok (.iload 7, 2) := by decide +kernel
theorem dL_told_95 : decode cL_told 95 = .ok (.iload 10, 2) := by decide +kernel
theorem dL_told_97 : decode cL_told 97 = .ok (.aload 5, 2) := by decide +kernel
theorem dL_told_99 : decode cL_told 99 = .ok (.iconst 1, 1) := by decide +kernel
theorem dL_told_100 : decode cL_told 100 = .ok (.iaload, 1) := by decide +kernel
theorem dL_told_101 : decode cL_told 101 = .ok (.if_icmp .lt 7, 3) := by decide +kernel
theorem dL_told_104 : decode cL_told 104 = .ok (.iconst 1, 1) := by decide +kernel
theorem dL_told_105 : decode cL_told 105 = .ok (.goto 4, 3) := by decide +kernel
theorem dL_told_108 : decode cL_told 108 = .ok (.iconst 0, 1) := by decide +kernel
theorem dL_told_109 : decode cL_told 109 = .ok (.iadd, 1) := by decide +kernel
theorem dL_told_110 : decode cL_told 110 = .ok (.istore 7, 2) := by decide +kernel
theorem dL_told_112 : decode cL_told 112 = .ok (.iload 8, 2) := by decide +kernel
theorem dL_told_114 : decode cL_told 114 = .ok (.iload 10, 2) := by decide +kernel
theorem dL_told_116 : decode cL_told 116 = .ok (.aload 5, 2) := by decide +kernel
theorem dL_told_118 : decode cL_told 118 = .ok (.iconst 2, 1) := by decide +kernel
theorem dL_told_119 : decode cL_told 119 = .ok (.iaload, 1) := by decide +kernel
theorem dL_told_120 : decode cL_told 120 = .ok (.if_icmp .gt 7, 3) := by decide +kernel
theorem dL_told_123 : decode cL_told 123 = .ok (.iconst 1, 1) := by decide +kernel
theorem dL_told_124 : decode cL_told 124 = .ok (.goto 4, 3) := by decide +kernel
theorem dL_told_127 : decode cL_told 127 = .ok (.iconst 0, 1) := by decide +kernel
theorem dL_told_128 : decode cL_told 128 = .ok (.iadd, 1) := by decide +kernel
theorem dL_told_129 : decode cL_told 129 = .ok (.istore 8, 2) := by decide +kernel
theorem dL_told_131 : decode cL_told 131 = .ok (.iinc 9 1, 3) := by decide +kernel
theorem dL_told_134 : decode cL_told 134 = .ok (.goto (-82), 3) := by decide +kernel
theorem dL_told_137 : decode cL_told 137 = .ok (.iconst 0, 1) := by decide +kernel
theorem dL_told_138 : decode cL_told 138 = .ok (.istore 9, 2) := by decide +kernel
theorem dL_told_140 : decode cL_told 140 = .ok (.iload 9, 2) := by decide +kernel
theorem dL_told_142 : decode cL_told 142 = .ok (.iconst 4, 1) := by decide +kernel
theorem dL_told_143 : decode cL_told 143 = .ok (.if_icmp .ge 147, 3) := by decide +kernel
theorem dL_told_146 : decode cL_told 146 = .ok (.aload_n 2, 1) := by decide +kernel
theorem dL_told_147 : decode cL_told 147 = .ok (.iload 9, 2) := by decide +kernel
theorem dL_told_149 : decode cL_told 149 = .ok (.iconst 1, 1) := by decide +kernel
theorem dL_told_150 : decode cL_told 150 = .ok (.iadd, 1) := by decide +kernel
theorem dL_told_151 : decode cL_told 151 = .ok (.aload 5, 2) := by decide +kernel
theorem dL_told_153 : decode cL_told 153 = .ok (.invokestatic 51, 3) := by decide +kernel
theorem dL_told_156 : decode cL_told 156 = .ok (.aload_n 3, 1) := by decide +kernel
theorem dL_told_157 : decode cL_told 157 = .ok (.iload 9, 2) := by decide +kernel
theorem dL_told_159 : decode cL_told 159 = .ok (.iconst 1, 1) := by decide +kernel
theorem dL_told_160 : decode cL_told 160 = .ok (.iadd, 1) := by decide +kernel
theorem dL_told_161 : decode cL_told 161 = .ok (.aload 5, 2) := by decide +kernel
theorem dL_told_163 : decode cL_told 163 = .ok (.invokestatic 51, 3) := by decide +kernel
theorem dL_told_166 : decode cL_told 166 = .ok (.iadd, 1) := by decide +kernel
theorem dL_told_167 : decode cL_told 167 = .ok (.aload 4, 2) := by decide +kernel
theorem dL_told_169 : decode cL_told 169 = .ok (.iload 9, 2) := by decide +kernel
theorem dL_told_171 : decode cL_told 171 = .ok (.iconst 1, 1) := by decide +kernel
theorem dL_told_172 : decode cL_told 172 = .ok (.iadd, 1) := by decide +kernel
theorem dL_told_173 : decode cL_told 173 = .ok (.aload 5, 2) := by decide +kernel
theorem dL_told_175 : decode cL_told 175 = .ok (.invokestatic 51, 3) := by decide +kernel
theorem dL_told_178 : decode cL_told 178 = .ok (.iadd, 1) := by decide +kernel
theorem dL_told_179 : decode cL_told 179 = .ok (.istore 10, 2) := by decide +kernel
theorem dL_told_181 : decode cL_told 181 = .ok (.aload_n 0, 1) := by decide +kernel
theorem dL_told_182 : decode cL_told 182 = .ok (.iload 9, 2) := by decide +kernel
theorem dL_told_184 : decode cL_told 184 = .ok (.invokevirtual 72, 3) := by decide +kernel
theorem dL_told_187 : decode cL_told 187 = .ok (.aload 5, 2) := by decide +kernel
theorem dL_told_189 : decode cL_told 189 = .ok (.iload 9, 2) := by decide +kernel
theorem dL_told_191 : decode cL_told 191 = .ok (.iaload, 1) := by decide +kernel
theorem dL_told_192 : decode cL_told 192 = .ok (.if_icmp .ne 90, 3) := by decide +kernel
theorem dL_told_195 : decode cL_told 195 = .ok (.aload_n 0, 1) := by decide +kernel
theorem dL_told_196 : decode cL_told 196 = .ok (.iload 9, 2) := by decide +kernel
theorem dL_told_198 : decode cL_told 198 = .ok (.iconst 0, 1) := by decide +kernel
theorem dL_told_199 : decode cL_told 199 = .ok (.invokevirtual 76, 3) := by decide +kernel
theorem dL_told_202 : decode cL_told 202 = .ok (.aload 5, 2) := by decide +kernel
theorem dL_told_204 : decode cL_told 204 = .ok (.bipush 8, 2) := by decide +kernel
theorem dL_told_206 : decode cL_told 206 = .ok (.iload 9, 2) := by decide +kernel
theorem dL_told_208 : decode cL_told 208 = .ok (.iadd, 1) := by decide +kernel
theorem dL_told_209 : decode cL_told 209 = .ok (.iaload, 1) := by decide +kernel
theorem dL_told_210 : decode cL_told 210 = .ok (.if_icmp .ne 72, 3) := by decide +kernel
theorem dL_told_213 : decode cL_told 213 = .ok (.aload_n 0, 1) := by decide +kernel
theorem dL_told_214 : decode cL_told 214 = .ok (.iload 9, 2) := by decide +kernel
theorem dL_told_216 : decode cL_told 216 = .ok (.iconst 1, 1) := by decide +kernel
theorem dL_told_217 : decode cL_told 217 = .ok (.invokevirtual 76, 3) := by decide +kernel
theorem dL_told_220 : decode cL_told 220 = .ok (.aload 5, 2) := by decide +kernel
theorem dL_told_222 : decode cL_told 222 = .ok (.bipush 12, 2) := by decide +kernel
theorem dL_told_224 : decode cL_told 224 = .ok (.iload 9, 2) := by decide +kernel
theorem dL_told_226 : decode cL_told 226 = .ok (.iadd, 1) := by decide +kernel
theorem dL_told_227 : decode cL_told 227 = .ok (.iaload, 1) := by decide +kernel
theorem dL_told_228 : decode cL_told 228 = .ok (.if_icmp .ne 54, 3) := by decide +kernel
theorem dL_told_231 : decode cL_told 231 = .ok (.aload_n 0, 1) := by decide +kernel
theorem dL_told_232 : decode cL_told 232 = .ok (.iload 9, 2) := by decide +kernel
theorem dL_told_234 : decode cL_told 234 = .ok (.iconst 2, 1) := by decide +kernel
theorem dL_told_235 : decode cL_told 235 = .ok (.invokevirtual 76, 3) := by decide +kernel
theorem dL_told_238 : decode cL_told 238 = .ok (.iload 10, 2) := by decide +kernel
theorem dL_told_240 : decode cL_told 240 = .ok (.if_icmp .ne 42, 3) := by decide +kernel
theorem dL_told_243 : decode cL_told 243 = .ok (.aload_n 0, 1) := by decide +kernel
theorem dL_told_244 : decode cL_told 244 = .ok (.iload 9, 2) := by decide +kernel
theorem dL_told_246 : decode cL_told 246 = .ok (.iconst 3, 1) := by decide +kernel
theorem dL_told_247 : decode cL_told 247 = .ok (.invokevirtual 76, 3) := by decide +kernel
theorem dL_told_250 : decode cL_told 250 = .ok (.aload 5, 2) := by decide +kernel
theorem dL_told_252 : decode cL_told 252 = .ok (.iconst 4, 1) := by decide +kernel
theorem dL_told_253 : decode cL_told 253 = .ok (.iload 9, 2) := by decide +kernel
theorem dL_told_255 : decode cL_told 255 = .ok (.iadd, 1) := by decide +kernel
theorem dL_told_256 : decode cL_told 256 = .ok (.iaload, 1) := by decide +kernel
theorem dL_told_257 : decode cL_told 257 = .ok (.if_icmp .ne 25, 3) := by decide +kernel
theorem dL_told_260 : decode cL_told 260 = .ok (.iload 10, 2) := by decide +kernel
theorem dL_told_262 : decode cL_told 262 = .ok (.aload 5, 2) := by decide +kernel
theorem dL_told_264 : decode cL_told 264 = .ok (.bipush 8, 2) := by decide +kernel
theorem dL_told_266 : decode cL_told 266 = .ok (.iload 9, 2) := by decide +kernel
theorem dL_told_268 : decode cL_told 268 = .ok (.iadd, 1) := by decide +kernel
theorem dL_told_269 : decode cL_told 269 = .ok (.iaload, 1) := by decide +kernel
theorem dL_told_270 : decode cL_told 270 = .ok (.aload 5, 2) := by decide +kernel
theorem dL_told_272 : decode cL_told 272 = .ok (.bipush 12, 2) := by decide +kernel
theorem dL_told_274 : decode cL_told 274 = .ok (.iload 9, 2) := by decide +kernel
theorem dL_told_276 : decode cL_told 276 = .ok (.iadd, 1) := by decide +kernel
theorem dL_told_277 : decode cL_told 277 = .ok (.iaload, 1) := by decide +kernel
theorem dL_told_278 : decode cL_told 278 = .ok (.isub, 1) := by decide +kernel
theorem dL_told_279 : decode cL_told 279 = .ok (.if_icmp .eq 5, 3) := by decide +kernel
theorem dL_told_282 : decode cL_told 282 = .ok (.iconst 0, 1) := by decide +kernel
theorem dL_told_283 : decode cL_told 283 = .ok (.ireturn, 1) := by decide +kernel
theorem dL_told_284 : decode cL_told 284 = .ok (.iinc 9 1, 3) := by decide +kernel
theorem dL_told_287 : decode cL_told 287 = .ok (.goto (-147), 3) := by decide +kernel
theorem dL_told_290 : decode cL_told 290 = .ok (.aload_n 0, 1) := by decide +kernel
theorem dL_told_291 : decode cL_told 291 = .ok (.iconst 0, 1) := by decide +kernel
theorem dL_told_292 : decode cL_told 292 = .ok (.invokevirtual 79, 3) := by decide +kernel
theorem dL_told_295 : decode cL_told 295 = .ok (.aload 6, 2) := by decide +kernel
theorem dL_told_297 : decode cL_told 297 = .ok (.iconst 0, 1) := by decide +kernel
theorem dL_told_298 : decode cL_told 298 = .ok (.iaload, 1) := by decide +kernel
theorem dL_told_299 : decode cL_told 299 = .ok (.if_icmp .ne 71, 3) := by decide +kernel
theorem dL_told_302 : decode cL_told 302 = .ok (.aload_n 0, 1) := by decide +kernel
theorem dL_told_303 : decode cL_told 303 = .ok (.iconst 1, 1) := by decide +kernel
theorem dL_told_304 : decode cL_told 304 = .ok (.invokevirtual 79, 3) := by decide +kernel
theorem dL_told_307 : decode cL_told 307 = .ok (.aload_n 2, 1) := by decide +kernel
theorem dL_told_308 : decode cL_told 308 = .ok (.iconst 0, 1) := by decide +kernel
theorem dL_told_309 : decode cL_told 309 = .ok (.aload 5, 2) := by decide +kernel
theorem dL_told_311 : decode cL_told 311 = .ok (.invokestatic 51, 3) := by decide +kernel
theorem dL_told_314 : decode cL_told 314 = .ok (.aload_n 3, 1) := by decide +kernel
theorem dL_told_315 : decode cL_told 315 = .ok (.iconst 0, 1) := by decide +kernel
theorem dL_told_316 : decode cL_told 316 = .ok (.aload 5, 2) := by decide +kernel
theorem dL_told_318 : decode cL_told 318 = .ok (.invokestatic 51, 3) := by decide +kernel
theorem dL_told_321 : decode cL_told 321 = .ok (.iadd, 1) := by decide +kernel
theorem dL_told_322 : decode cL_told 322 = .ok (.aload 4, 2) := by decide +kernel
theorem dL_told_324 : decode cL_told 324 = .ok (.iconst 0, 1) := by decide +kernel
theorem dL_told_325 : decode cL_told 325 = .ok (.aload 5, 2) := by decide +kernel
theorem dL_told_327 : decode cL_told 327 = .ok (.invokestatic 51, 3) := by decide +kernel
theorem dL_told_330 : decode cL_told 330 = .ok (.iadd, 1) := by decide +kernel
theorem dL_told_331 : decode cL_told 331 = .ok (.if_icmp .ne 39, 3) := by decide +kernel
theorem dL_told_334 : decode cL_told 334 = .ok (.aload_n 0, 1) := by decide +kernel
theorem dL_told_335 : decode cL_told 335 = .ok (.iconst 2, 1) := by decide +kernel
theorem dL_told_336 : decode cL_told 336 = .ok (.invokevirtual 79, 3) := by decide +kernel
theorem dL_told_339 : decode cL_told 339 = .ok (.iload 7, 2) := by decide +kernel
theorem dL_told_341 : decode cL_told 341 = .ok (.if_icmp .ne 29, 3) := by decide +kernel
theorem dL_told_344 : decode cL_told 344 = .ok (.aload_n 0, 1) := by decide +kernel
theorem dL_told_345 : decode cL_told 345 = .ok (.iconst 3, 1) := by decide +kernel
theorem dL_told_346 : decode cL_told 346 = .ok (.invokevirtual 79, 3) := by decide +kernel
theorem dL_told_349 : decode cL_told 349 = .ok (.iload 8, 2) := by decide +kernel
theorem dL_told_351 : decode cL_told 351 = .ok (.if_icmp .ne 19, 3) := by decide +kernel
theorem dL_told_354 : decode cL_told 354 = .ok (.aload_n 0, 1) := by decide +kernel
theorem dL_told_355 : decode cL_told 355 = .ok (.iconst 4, 1) := by decide +kernel
theorem dL_told_356 : decode cL_told 356 = .ok (.invokevirtual 79, 3) := by decide +kernel
theorem dL_told_359 : decode cL_told 359 = .ok (.aload 6, 2) := by decide +kernel
theorem dL_told_361 : decode cL_told 361 = .ok (.iconst 1, 1) := by decide +kernel
theorem dL_told_362 : decode cL_told 362 = .ok (.iaload, 1) := by decide +kernel
theorem dL_told_363 : decode cL_told 363 = .ok (.if_icmp .ne 7, 3) := by decide +kernel
theorem dL_told_366 : decode cL_told 366 = .ok (.iconst 1, 1) := by decide +kernel
theorem dL_told_367 : decode cL_told 367 = .ok (.goto 4, 3) := by decide +kernel
theorem dL_told_370 : decode cL_told 370 = .ok (.iconst 0, 1) := by decide +kernel
theorem dL_told_371 : decode cL_told 371 = .ok (.ireturn, 1) := by decide +kernel
set_option maxRecDepth 20000 in
theorem ggL_ahead_L_at : GoodIn wsL_ahead wsL_at := goodIn_r _ [5] (by decide +kernel) (by decide +kernel)
set_option maxRecDepth 20000 in
theorem gL_ahead_L_at : GoodIn wsL_ahead (va_wsS RL 54 yL_at wsL_at) := goodIn_app (goodIn_of _ (by decide +kernel)) ggL_ahead_L_at
set_option maxRecDepth 20000 in
theorem ggL_ahead_L_step : GoodIn wsL_ahead wsL_step := goodIn_r _ [8, 9, 10, 4, 11, 12, 13, 14, 15, 16, 17, 18, 19, 20, 21, 22] (by decide +kernel) (by decide +kernel)
set_option maxRecDepth 20000 in
theorem gL_ahead_L_step : GoodIn wsL_ahead (va_wsS RL 64 yL_step wsL_step) := goodIn_app (goodIn_of _ (by decide +kernel)) ggL_ahead_L_step
set_option maxRecDepth 20000 in
theorem ggL_ahead_X5_ifSettled : GoodIn wsL_ahead wsX5_ifSettled := goodIn_ca (goodIn_ca (goodIn_r _ [27, 28, 29, 30, 31, 32, 33, 26, 34, 35, 36, 37, 38, 39, 40, 41, 42, 43, 44, 45, 46, 47, 48, 49, 50, 51, 52, 53, 54, 55, 56, 57, 58, 59, 60, 61, 62, 63, 64, 65, 66, 67, 68, 69, 70, 71, 72, 73, 74, 75, 76, 77, 78, 79, 80, 81, 82, 83, 84, 85, 86, 87, 88, 89, 90, 91, 92, 93, 94, 95, 96, 97, 98, 99, 100, 101, 102, 103, 104, 105, 106, 107, 108, 109, 110, 111, 112, 113, 114, 115, 116, 117, 118, 119, 120, 121, 122, 123, 124, 125, 126, 127, 128, 129, 130, 131, 132, 133, 134, 135, 136, 137, 138, 139, 140, 141, 142, 143, 144, 145, 146, 147, 148, 168, 169, 170, 171, 172, 173, 174, 175, 176, 177, 178, 179, 180] (by decide +kernel) (by decide +kernel)) (goodIn_sub (fun _ h => List.mem_cons_of_mem _ (List.mem_append_left _ (List.mem_append_right _ h))) (by decide +kernel))) (goodIn_sub (fun _ h => List.mem_cons_of_mem _ (List.mem_append_right _ h)) (by decide +kernel))
set_option maxRecDepth 20000 in
theorem gL_ahead_X5_ifSettled : GoodIn wsL_ahead (wsV RL 82 RX5 yX5_ifSettled wsX5_ifSettled) := goodIn_app (goodIn_of _ (by decide +kernel)) ggL_ahead_X5_ifSettled
set_option maxRecDepth 20000 in
theorem ggL_ahead_L_prop : GoodIn wsL_ahead wsL_prop := goodIn_r _ [151, 152, 153, 4, 154, 13, 14, 15, 155, 156, 157] (by decide +kernel) (by decide +kernel)
set_option maxRecDepth 20000 in
theorem gL_ahead_L_prop : GoodIn wsL_ahead (va_wsS RL 51 yL_prop wsL_prop) := goodIn_app (goodIn_of _ (by decide +kernel)) ggL_ahead_L_prop
set_option maxRecDepth 20000 in
theorem ggL_ahead_X5_clearIn : GoodIn wsL_ahead wsX5_clearIn := goodIn_ca (goodIn_ca (goodIn_r _ [161, 28, 29, 30, 31, 32, 33, 26, 34, 35, 36, 37, 38, 39, 40, 41, 42, 43, 44, 45, 46, 47, 48, 49, 50, 51, 162, 122, 123, 124, 68, 69, 70, 71, 72, 73, 74, 75, 125, 126, 127, 79, 128, 82, 163, 57, 58, 59, 60, 61, 62, 63, 64, 65, 66, 67, 76, 77, 78, 80, 81, 83, 84, 85, 86, 87, 88, 89, 90, 91, 92, 93, 94, 95, 96, 97, 98, 99, 100, 168, 169, 170, 171, 172, 173, 174, 175, 176, 177, 178, 179, 180] (by decide +kernel) (by decide +kernel)) (goodIn_sub (fun _ h => List.mem_cons_of_mem _ (List.mem_append_left _ (List.mem_append_right _ h))) (by decide +kernel))) (goodIn_sub (fun _ h => List.mem_cons_of_mem _ (List.mem_append_right _ h)) (by decide +kernel))
set_option maxRecDepth 20000 in
theorem gL_ahead_X5_clearIn : GoodIn wsL_ahead (wsV RL 85 RX5 yX5_clearIn wsX5_clearIn) := goodIn_app (goodIn_of _ (by decide +kernel)) ggL_ahead_X5_clearIn
set_option maxRecDepth 20000 in
theorem ggL_ahead_X5_restIn : GoodIn wsL_ahead wsX5_restIn := goodIn_ca (goodIn_r _ [167, 28, 29, 30, 31, 32, 33, 26, 34, 35, 36, 42, 43, 44, 45, 46, 47, 48, 49, 50, 51, 163, 57, 58, 59, 60, 61, 62, 63, 64, 65, 66, 67, 68, 69, 70, 71, 72, 73, 74, 75, 76, 77, 78, 79, 80, 81, 82, 83, 84, 85, 86, 87, 88, 89, 90, 91, 92, 93, 94, 95, 96, 97, 98, 99, 100, 168, 169, 170, 171, 172, 173, 174, 175, 176, 177, 178, 179, 180] (by decide +kernel) (by decide +kernel)) (goodIn_sub (fun _ h => List.mem_cons_of_mem _ (List.mem_append_left _ (List.mem_append_right _ h))) (by decide +kernel))
set_option maxRecDepth 20000 in
theorem gL_ahead_X5_restIn : GoodIn wsL_ahead (wsV RL 88 RX5 yX5_restIn wsX5_restIn) := goodIn_app (goodIn_of _ (by decide +kernel)) ggL_ahead_X5_restIn
theorem dL_ahead_0 : decode cL_ahead 0 = .ok (.bipush 48, 2) := by decide +kernel
theorem dL_ahead_2 : decode cL_ahead 2 = .ok (.newarray .int, 2) := by decide +kernel
theorem dL_ahead_4 : decode cL_ahead 4 = .ok (.astore 6, 2) := by decide +kernel
theorem dL_ahead_6 : decode cL_ahead 6 = .ok (.iconst 0, 1) := by decide +kernel
theorem dL_ahead_7 : decode cL_ahead 7 = .ok (.istore 7, 2) := by decide +kernel
theorem dL_ahead_9 : decode cL_ahead 9 = .ok (.iload 7, 2) := by decide +kernel
theorem dL_ahead_11 : decode cL_ahead 11 = .ok (.bipush 48, 2) := by decide +kernel
theorem dL_ahead_13 : decode cL_ahead 13 = .ok (.if_icmp .ge 19, 3) := by decide +kernel
theorem dL_ahead_16 : decode cL_ahead 16 = .ok (.aload 6, 2) := by decide +kernel
theorem dL_ahead_18 : decode cL_ahead 18 = .ok (.iload 7, 2) := by decide +kernel
theorem dL_ahead_20 : decode cL_ahead 20 = .ok (.aload 4, 2) := by decide +kernel
theorem dL_ahead_22 : decode cL_ahead 22 = .ok (.iload 7, 2) := by decide +kernel
theorem dL_ahead_24 : decode cL_ahead 24 = .ok (.iaload, 1) := by decide +kernel
theorem dL_ahead_25 : decode cL_ahead 25 = .ok (.iastore, 1) := by decide +kernel
theorem dL_ahead_26 : decode cL_ahead 26 = .ok (.iinc 7 1, 3) := by decide +kernel
theorem dL_ahead_29 : decode cL_ahead 29 = .ok (.goto (-20), 3) := by decide +kernel
theorem dL_ahead_32 : decode cL_ahead 32 = .ok (.iconst 1, 1) := by decide +kernel
theorem dL_ahead_33 : decode cL_ahead 33 = .ok (.iload_n 2, 1) := by decide +kernel
theorem dL_ahead_34 : decode cL_ahead 34 = .ok (.iload_n 3, 1) := by decide +kernel
theorem dL_ahead_35 : decode cL_ahead 35 = .ok (.iconst 3, 1) := by decide +kernel
theorem dL_ahead_36 : decode cL_ahead 36 = .ok (.invokestatic 54, 3) := by decide +kernel
theorem dL_ahead_39 : decode cL_ahead 39 = .ok (.ifCond .ne 8, 3) := by decide +kernel
theorem dL_ahead_42 : decode cL_ahead 42 = .ok (.bipush 100, 2) := by decide +kernel
theorem dL_ahead_44 : decode cL_ahead 44 = .ok (.goto 5, 3) := by decide +kernel
theorem dL_ahead_47 : decode cL_ahead 47 = .ok (.bipush 20, 2) := by decide +kernel
theorem dL_ahead_49 : decode cL_ahead 49 = .ok (.invokestatic 54, 3) := by decide +kernel
theorem dL_ahead_52 : decode cL_ahead 52 = .ok (.iadd, 1) := by decide +kernel
theorem dL_ahead_53 : decode cL_ahead 53 = .ok (.istore 7, 2) := by decide +kernel
theorem dL_ahead_55 : decode cL_ahead 55 = .ok (.iload_n 3, 1) := by decide +kernel
theorem dL_ahead_56 : decode cL_ahead 56 = .ok (.iconst 3, 1) := by decide +kernel
theorem dL_ahead_57 : decode cL_ahead 57 = .ok (.ishr, 1) := by decide +kernel
theorem dL_ahead_58 : decode cL_ahead 58 = .ok (.bipush 9, 2) := by decide +kernel
theorem dL_ahead_60 : decode cL_ahead 60 = .ok (.invokestatic 54, 3) := by decide +kernel
theorem dL_ahead_63 : decode cL_ahead 63 = .ok (.istore 8, 2) := by decide +kernel
theorem dL_ahead_65 : decode cL_ahead 65 = .ok (.iconst 0, 1) := by decide +kernel
theorem dL_ahead_66 : decode cL_ahead 66 = .ok (.istore 9, 2) := by decide +kernel
theorem dL_ahead_68 : decode cL_ahead 68 = .ok (.iload 9, 2) := by decide +kernel
theorem dL_ahead_70 : decode cL_ahead 70 = .ok (.iload 7, 2) := by decide +kernel
theorem dL_ahead_72 : decode cL_ahead 72 = .ok (.if_icmp .ge 17, 3) := by decide +kernel
theorem dL_ahead_75 : decode cL_ahead 75 = .ok (.aload 6, 2) := by decide +kernel
theorem dL_ahead_77 : decode cL_ahead 77 = .ok (.aload 5, 2) := by decide +kernel
theorem dL_ahead_79 : decode cL_ahead 79 = .ok (.invokestatic 64, 3) := by decide +kernel
theorem dL_ahead_82 : decode cL_ahead 82 = .ok (.pop, 1) := by decide +kernel
theorem dL_ahead_83 : decode cL_ahead 83 = .ok (.iinc 9 1, 3) := by decide +kernel
theorem dL_ahead_86 : decode cL_ahead 86 = .ok (.goto (-18), 3) := by decide +kernel
theorem dL_ahead_89 : decode cL_ahead 89 = .ok (.aload_n 0, 1) := by decide +kernel
theorem dL_ahead_90 : decode cL_ahead 90 = .ok (.iload_n 1, 1) := by decide +kernel
theorem dL_ahead_91 : decode cL_ahead 91 = .ok (.iload 7, 2) := by decide +kernel
theorem dL_ahead_93 : decode cL_ahead 93 = .ok (.iload 8, 2) := by decide +kernel
theorem dL_ahead_95 : decode cL_ahead 95 = .ok (.invokevirtual 82, 3) := by decide +kernel
theorem dL_ahead_98 : decode cL_ahead 98 = .ok (.aload 6, 2) := by decide +kernel
theorem dL_ahead_100 : decode cL_ahead 100 = .ok (.iload 8, 2) := by decide +kernel
theorem dL_ahead_102 : decode cL_ahead 102 = .ok (.aload 5, 2) := by decide +kernel
theorem dL_ahead_104 : decode cL_ahead 104 = .ok (.invokestatic 51, 3) := by decide +kernel
theorem dL_ahead_107 : decode cL_ahead 107 = .ok (.if_icmp .eq 5, 3) := by decide +kernel
theorem dL_ahead_110 : decode cL_ahead 110 = .ok (.iconst 0, 1) := by decide +kernel
theorem dL_ahead_111 : decode cL_ahead 111 = .ok (.ireturn, 1) := by decide +kernel
theorem dL_ahead_112 : decode cL_ahead 112 = .ok (.iconst 0, 1) := by decide +kernel
theorem dL_ahead_113 : decode cL_ahead 113 = .ok (.istore 9, 2) := by decide +kernel
theorem dL_ahead_115 : decode cL_ahead 115 = .ok (.iload 9, 2) := by decide +kernel
theorem dL_ahead_117 : decode cL_ahead 117 = .ok (.bipush 48, 2) := by decide +kernel
theorem dL_ahead_119 : decode cL_ahead 119 = .ok (.if_icmp .ge 19, 3) := by decide +kernel
theorem dL_ahead_122 : decode cL_ahead 122 = .ok (.aload 6, 2) := by decide +kernel
theorem dL_ahead_124 : decode cL_ahead 124 = .ok (.iload 9, 2) := by decide +kernel
theorem dL_ahead_126 : decode cL_ahead 126 = .ok (.aload 4, 2) := by decide +kernel
theorem dL_ahead_128 : decode cL_ahead 128 = .ok (.iload 9, 2) := by decide +kernel
theorem dL_ahead_130 : decode cL_ahead 130 = .ok (.iaload, 1) := by decide +kernel
theorem dL_ahead_131 : decode cL_ahead 131 = .ok (.iastore, 1) := by decide +kernel
theorem dL_ahead_132 : decode cL_ahead 132 = .ok (.iinc 9 1, 3) := by decide +kernel
theorem dL_ahead_135 : decode cL_ahead 135 = .ok (.goto (-20), 3) := by decide +kernel
theorem dL_ahead_138 : decode cL_ahead 138 = .ok (.iconst 1, 1) := by decide +kernel
theorem dL_ahead_139 : decode cL_ahead 139 = .ok (.iload_n 3, 1) := by decide +kernel
theorem dL_ahead_140 : decode cL_ahead 140 = .ok (.bipush 12, 2) := by decide +kernel
theorem dL_ahead_142 : decode cL_ahead 142 = .ok (.invokestatic 54, 3) := by decide +kernel
theorem dL_ahead_145 : decode cL_ahead 145 = .ok (.iadd, 1) := by decide +kernel
theorem dL_ahead_146 : decode cL_ahead 146 = .ok (.istore 9, 2) := by decide +kernel
theorem dL_ahead_148 : decode cL_ahead 148 = .ok (.iconst (-1), 1) := by decide +kernel
theorem dL_ahead_149 : decode cL_ahead 149 = .ok (.istore 10, 2) := by decide +kernel
theorem dL_ahead_151 : decode cL_ahead 151 = .ok (.iconst (-1), 1) := by decide +kernel
theorem dL_ahead_152 : decode cL_ahead 152 = .ok (.istore 11, 2) := by decide +kernel
theorem dL_ahead_154 : decode cL_ahead 154 = .ok (.iconst 0, 1) := by decide +kernel
theorem dL_ahead_155 : decode cL_ahead 155 = .ok (.istore 12, 2) := by decide +kernel
theorem dL_ahead_157 : decode cL_ahead 157 = .ok (.iload 12, 2) := by decide +kernel
theorem dL_ahead_159 : decode cL_ahead 159 = .ok (.sipush 601, 3) := by decide +kernel
theorem dL_ahead_162 : decode cL_ahead 162 = .ok (.if_icmp .ge 60, 3) := by decide +kernel
theorem dL_ahead_165 : decode cL_ahead 165 = .ok (.iload 10, 2) := by decide +kernel
theorem dL_ahead_167 : decode cL_ahead 167 = .ok (.ifCond .ge 29, 3) := by decide +kernel
theorem dL_ahead_170 : decode cL_ahead 170 = .ok (.iload 12, 2) := by decide +kernel
theorem dL_ahead_172 : decode cL_ahead 172 = .ok (.sipush 301, 3) := by decide +kernel
theorem dL_ahead_175 : decode cL_ahead 175 = .ok (.if_icmp .ge 21, 3) := by decide +kernel
theorem dL_ahead_178 : decode cL_ahead 178 = .ok (.aload 6, 2) := by decide +kernel
theorem dL_ahead_180 : decode cL_ahead 180 = .ok (.bipush 6, 2) := by decide +kernel
theorem dL_ahead_182 : decode cL_ahead 182 = .ok (.aload 5, 2) := by decide +kernel
theorem dL_ahead_184 : decode cL_ahead 184 = .ok (.invokestatic 51, 3) := by decide +kernel
theorem dL_ahead_187 : decode cL_ahead 187 = .ok (.iload 9, 2) := by decide +kernel
theorem dL_ahead_189 : decode cL_ahead 189 = .ok (.if_icmp .lt 7, 3) := by decide +kernel
theorem dL_ahead_192 : decode cL_ahead 192 = .ok (.iload 12, 2) := by decide +kernel
theorem dL_ahead_194 : decode cL_ahead 194 = .ok (.istore 10, 2) := by decide +kernel
theorem dL_ahead_196 : decode cL_ahead 196 = .ok (.aload 6, 2) := by decide +kernel
theorem dL_ahead_198 : decode cL_ahead 198 = .ok (.aload 5, 2) := by decide +kernel
theorem dL_ahead_200 : decode cL_ahead 200 = .ok (.invokestatic 64, 3) := by decide +kernel
theorem dL_ahead_203 : decode cL_ahead 203 = .ok (.ifCond .le 6, 3) := by decide +kernel
theorem dL_ahead_206 : decode cL_ahead 206 = .ok (.goto 10, 3) := by decide +kernel
theorem dL_ahead_209 : decode cL_ahead 209 = .ok (.iload 12, 2) := by decide +kernel
theorem dL_ahead_211 : decode cL_ahead 211 = .ok (.istore 11, 2) := by decide +kernel
theorem dL_ahead_213 : decode cL_ahead 213 = .ok (.goto 9, 3) := by decide +kernel
theorem dL_ahead_216 : decode cL_ahead 216 = .ok (.iinc 12 1, 3) := by decide +kernel
theorem dL_ahead_219 : decode cL_ahead 219 = .ok (.goto (-62), 3) := by decide +kernel
theorem dL_ahead_222 : decode cL_ahead 222 = .ok (.aload_n 0, 1) := by decide +kernel
theorem dL_ahead_223 : decode cL_ahead 223 = .ok (.iload_n 1, 1) := by decide +kernel
theorem dL_ahead_224 : decode cL_ahead 224 = .ok (.iload 9, 2) := by decide +kernel
theorem dL_ahead_226 : decode cL_ahead 226 = .ok (.invokevirtual 85, 3) := by decide +kernel
theorem dL_ahead_229 : decode cL_ahead 229 = .ok (.iload 10, 2) := by decide +kernel
theorem dL_ahead_231 : decode cL_ahead 231 = .ok (.if_icmp .ne 17, 3) := by decide +kernel
theorem dL_ahead_234 : decode cL_ahead 234 = .ok (.aload_n 0, 1) := by decide +kernel
theorem dL_ahead_235 : decode cL_ahead 235 = .ok (.iload_n 1, 1) := by decide +kernel
theorem dL_ahead_236 : decode cL_ahead 236 = .ok (.invokevirtual 88, 3) := by decide +kernel
theorem dL_ahead_239 : decode cL_ahead 239 = .ok (.iload 11, 2) := by decide +kernel
theorem dL_ahead_241 : decode cL_ahead 241 = .ok (.if_icmp .ne 7, 3) := by decide +kernel
theorem dL_ahead_244 : decode cL_ahead 244 = .ok (.iconst 1, 1) := by decide +kernel
theorem dL_ahead_245 : decode cL_ahead 245 = .ok (.goto 4, 3) := by decide +kernel
theorem dL_ahead_248 : decode cL_ahead 248 = .ok (.iconst 0, 1) := by decide +kernel
theorem dL_ahead_249 : decode cL_ahead 249 = .ok (.ireturn, 1) := by decide +kernel
set_option maxRecDepth 20000 in
theorem ggL_act_L_at : GoodIn wsL_act wsL_at := goodIn_r _ [4] (by decide +kernel) (by decide +kernel)
set_option maxRecDepth 20000 in
theorem gL_act_L_at : GoodIn wsL_act (va_wsS RL 54 yL_at wsL_at) := goodIn_app (goodIn_of _ (by decide +kernel)) ggL_act_L_at
set_option maxRecDepth 20000 in
theorem ggL_act_L_sum : GoodIn wsL_act wsL_sum := goodIn_r _ [7] (by decide +kernel) (by decide +kernel)
set_option maxRecDepth 20000 in
theorem gL_act_L_sum : GoodIn wsL_act (va_wsS RL 28 yL_sum wsL_sum) := goodIn_app (goodIn_of _ (by decide +kernel)) ggL_act_L_sum
set_option maxRecDepth 20000 in
theorem ggL_act_X5_pour : GoodIn wsL_act wsX5_pour := goodIn_ca (goodIn_ca (goodIn_ca (goodIn_r _ [12, 13, 14, 15, 16, 17, 18, 11, 19, 20, 21, 22, 23, 24, 25, 26, 27, 28, 29, 30, 31, 32, 33, 34, 35, 36, 37, 38, 39, 40, 41, 42, 43, 44, 45, 46, 47, 48, 49, 50, 51, 52, 53, 54, 55, 56, 57, 58, 59, 60, 61, 62, 63, 64, 65, 66, 67, 68, 69, 70, 71, 72, 73, 74, 75, 76, 77, 78, 79, 80, 81, 82, 83, 84, 85, 86, 87, 88, 89, 90, 91, 92, 93, 204, 205, 206, 207, 208, 209, 210, 211, 212, 213, 214, 215, 216, 217, 218, 219] (by decide +kernel) (by decide +kernel)) (goodIn_sub (fun _ h => List.mem_cons_of_mem _ (List.mem_append_left _ (List.mem_append_left _ (List.mem_append_right _ h)))) (by decide +kernel))) (goodIn_sub (fun _ h => List.mem_cons_of_mem _ (List.mem_append_left _ (List.mem_append_right _ h))) (by decide +kernel))) (goodIn_sub (fun _ h => List.mem_cons_of_mem _ (List.mem_append_right _ h)) (by decide +kernel))
set_option maxRecDepth 20000 in
theorem gL_act_X5_pour : GoodIn wsL_act (wsV RL 91 RX5 yX5_pour wsX5_pour) := goodIn_app (goodIn_of _ (by decide +kernel)) ggL_act_X5_pour
set_option maxRecDepth 20000 in
theorem ggL_act_L_all : GoodIn wsL_act wsL_all := goodIn_r _ [96] (by decide +kernel) (by decide +kernel)
set_option maxRecDepth 20000 in
theorem gL_act_L_all : GoodIn wsL_act (va_wsS RL 9 yL_all wsL_all) := goodIn_app (goodIn_of _ (by decide +kernel)) ggL_act_L_all
set_option maxRecDepth 20000 in
theorem ggL_act_L_step : GoodIn wsL_act wsL_step := goodIn_r _ [99, 100, 101, 3, 102, 103, 94, 95, 96, 104, 105, 106, 107, 108, 109, 110] (by decide +kernel) (by decide +kernel)
set_option maxRecDepth 20000 in
theorem gL_act_L_step : GoodIn wsL_act (va_wsS RL 64 yL_step wsL_step) := goodIn_app (goodIn_of _ (by decide +kernel)) ggL_act_L_step
set_option maxRecDepth 20000 in
theorem ggL_act_X5_settle : GoodIn wsL_act wsX5_settle := goodIn_ca (goodIn_ca (goodIn_r _ [114, 33, 34, 13, 115, 15, 14, 116, 117, 25, 26, 11, 27, 28, 29, 53, 54, 55, 56, 57, 58, 59, 60, 61, 62, 63, 64, 65, 66, 67, 68, 69, 70, 71, 72, 73, 74, 75, 76, 77, 78, 79, 80, 81, 82, 83, 84, 85, 86, 38, 87, 52, 88, 118, 119, 120, 121, 122, 123, 124, 125, 126, 127, 128, 129, 130, 131, 132, 133, 44, 45, 46, 47, 48, 49, 50, 51, 134, 135, 136, 137, 138, 139, 140, 141, 142, 143, 144, 145, 146, 147, 148, 149, 150, 151, 152, 90, 91, 92, 204, 205, 206, 207, 208, 209, 210, 211, 212, 213, 215, 216, 217, 218, 219, 214] (by decide +kernel) (by decide +kernel)) (goodIn_sub (fun _ h => List.mem_cons_of_mem _ (List.mem_append_right _ h)) (by decide +kernel))) (goodIn_sub (fun _ h => List.mem_cons_of_mem _ (List.mem_append_left _ (List.mem_append_right _ h))) (by decide +kernel))
set_option maxRecDepth 20000 in
theorem gL_act_X5_settle : GoodIn wsL_act (wsV RL 95 RX5 yX5_settle wsX5_settle) := goodIn_app (goodIn_of _ (by decide +kernel)) ggL_act_X5_settle
set_option maxRecDepth 20000 in
theorem ggL_act_X5_stir : GoodIn wsL_act wsX5_stir := goodIn_ca (goodIn_ca (goodIn_r _ [156, 15, 13, 14, 17, 18, 11, 19, 20, 21, 22, 23, 24, 25, 26, 27, 28, 29, 53, 54, 55, 56, 57, 58, 59, 60, 61, 62, 63, 64, 65, 66, 67, 68, 69, 70, 71, 72, 73, 74, 75, 76, 77, 78, 79, 80, 81, 82, 83, 84, 85, 86, 38, 87, 52, 88, 157, 158, 159, 160, 48, 49, 50, 51, 152, 90, 91, 92, 204, 205, 206, 207, 208, 209, 210, 211, 212, 213, 215, 216, 217, 218, 219, 214] (by decide +kernel) (by decide +kernel)) (goodIn_sub (fun _ h => List.mem_cons_of_mem _ (List.mem_append_left _ (List.mem_append_left _ (List.mem_append_right _ h)))) (by decide +kernel))) (goodIn_sub (fun _ h => List.mem_cons_of_mem _ (List.mem_append_left _ (List.mem_append_right _ h))) (by decide +kernel))
set_option maxRecDepth 20000 in
theorem gL_act_X5_stir : GoodIn wsL_act (wsV RL 98 RX5 yX5_stir wsX5_stir) := goodIn_app (goodIn_of _ (by decide +kernel)) ggL_act_X5_stir
set_option maxRecDepth 20000 in
theorem ggL_act_X5_draw : GoodIn wsL_act wsX5_draw := goodIn_ca (goodIn_ca (goodIn_r _ [164, 15, 13, 14, 165, 17, 18, 11, 19, 20, 21, 22, 23, 24, 25, 26, 27, 28, 29, 53, 54, 55, 56, 57, 58, 59, 60, 61, 62, 63, 64, 65, 66, 67, 68, 69, 70, 71, 72, 73, 74, 75, 76, 77, 78, 79, 80, 81, 82, 83, 84, 85, 86, 38, 87, 52, 88, 166, 49, 50, 51, 89, 90, 91, 92, 204, 205, 206, 207, 208, 209, 210, 211, 212, 213, 215, 216, 217, 218, 219, 214] (by decide +kernel) (by decide +kernel)) (goodIn_sub (fun _ h => List.mem_cons_of_mem _ (List.mem_append_left _ (List.mem_append_left _ (List.mem_append_right _ h)))) (by decide +kernel))) (goodIn_sub (fun _ h => List.mem_cons_of_mem _ (List.mem_append_left _ (List.mem_append_right _ h))) (by decide +kernel))
set_option maxRecDepth 20000 in
theorem gL_act_X5_draw : GoodIn wsL_act (wsV RL 101 RX5 yX5_draw wsX5_draw) := goodIn_app (goodIn_of _ (by decide +kernel)) ggL_act_X5_draw
set_option maxRecDepth 20000 in
theorem ggL_act_X5_decant : GoodIn wsL_act wsX5_decant := goodIn_ca (goodIn_ca (goodIn_ca (goodIn_r _ [170, 28, 29, 13, 14, 15, 20, 21, 11, 22, 23, 24, 17, 18, 19, 171, 41, 42, 38, 43, 44, 45, 46, 47, 48, 49, 50, 51, 52, 30, 31, 32, 33, 34, 35, 36, 37, 39, 40, 53, 54, 55, 56, 57, 58, 59, 60, 61, 62, 63, 64, 65, 66, 67, 68, 69, 70, 71, 72, 73, 74, 75, 76, 77, 78, 79, 80, 81, 82, 83, 84, 85, 86, 87, 88, 172, 173, 174, 175, 152, 90, 91, 92, 204, 205, 206, 207, 208, 209, 210, 211, 212, 213, 214, 215, 216, 217, 218, 219] (by decide +kernel) (by decide +kernel)) (goodIn_sub (fun _ h => List.mem_cons_of_mem _ (List.mem_append_left _ (List.mem_append_right _ h))) (by decide +kernel))) (goodIn_sub (fun _ h => List.mem_cons_of_mem _ (List.mem_append_left _ (List.mem_append_left _ (List.mem_append_right _ h)))) (by decide +kernel))) (goodIn_sub (fun _ h => List.mem_cons_of_mem _ (List.mem_append_right _ h)) (by decide +kernel))
set_option maxRecDepth 20000 in
theorem gL_act_X5_decant : GoodIn wsL_act (wsV RL 104 RX5 yX5_decant wsX5_decant) := goodIn_app (goodIn_of _ (by decide +kernel)) ggL_act_X5_decant
set_option maxRecDepth 20000 in
theorem ggL_act_X5_turn : GoodIn wsL_act wsX5_turn := goodIn_ca (goodIn_r _ [179, 15, 13, 14, 116, 20, 21, 11, 22, 23, 24, 53, 54, 55, 56, 57, 58, 59, 60, 61, 62, 63, 64, 65, 66, 67, 68, 69, 70, 71, 72, 73, 74, 75, 76, 77, 78, 79, 80, 81, 82, 83, 84, 85, 86, 38, 87, 52, 88, 180, 181, 182, 183, 48, 49, 50, 51, 152, 90, 91, 92, 184, 185, 186, 187, 44, 45, 46, 47, 188, 189, 190, 191, 204, 205, 206, 207, 208, 209, 210, 211, 212, 213, 215, 216, 217, 218, 219, 214] (by decide +kernel) (by decide +kernel)) (goodIn_sub (fun _ h => List.mem_cons_of_mem _ (List.mem_append_left _ (List.mem_append_left _ (List.mem_append_right _ h)))) (by decide +kernel))
set_option maxRecDepth 20000 in
theorem gL_act_X5_turn : GoodIn wsL_act (wsV RL 107 RX5 yX5_turn wsX5_turn) := goodIn_app (goodIn_of _ (by decide +kernel)) ggL_act_X5_turn
set_option maxRecDepth 20000 in
theorem ggL_act_X5_setSpeed : GoodIn wsL_act wsX5_setSpeed := goodIn_ca (goodIn_ca (goodIn_r _ [195, 15, 13, 116, 196, 20, 21, 11, 22, 23, 24, 25, 26, 27, 28, 29, 53, 54, 55, 56, 57, 58, 59, 60, 61, 62, 63, 64, 65, 66, 67, 68, 69, 70, 71, 72, 73, 74, 75, 76, 77, 78, 79, 80, 81, 82, 83, 84, 85, 86, 38, 87, 52, 88, 204, 205, 206, 207, 208, 209, 210, 211, 212, 213, 218, 219, 215, 216, 217, 214] (by decide +kernel) (by decide +kernel)) (goodIn_sub (fun _ h => List.mem_cons_of_mem _ (List.mem_append_left _ (List.mem_append_left _ (List.mem_append_right _ h)))) (by decide +kernel))) (goodIn_sub (fun _ h => List.mem_cons_of_mem _ (List.mem_append_left _ (List.mem_append_right _ h))) (by decide +kernel))
set_option maxRecDepth 20000 in
theorem gL_act_X5_setSpeed : GoodIn wsL_act (wsV RL 110 RX5 yX5_setSpeed wsX5_setSpeed) := goodIn_app (goodIn_of _ (by decide +kernel)) ggL_act_X5_setSpeed
set_option maxRecDepth 20000 in
theorem ggL_act_X5_set : GoodIn wsL_act wsX5_set := goodIn_ca (goodIn_ca (goodIn_r _ [200, 201, 202, 15, 13, 116, 203, 20, 21, 11, 22, 23, 24, 25, 26, 27, 28, 29, 53, 54, 55, 56, 57, 58, 59, 60, 61, 62, 63, 64, 65, 66, 67, 68, 69, 70, 71, 72, 73, 74, 75, 76, 77, 78, 79, 80, 81, 82, 83, 84, 85, 86, 38, 87, 52, 88, 204, 205, 206, 207, 208, 209, 210, 211, 212, 213, 218, 219, 215, 216, 217, 214] (by decide +kernel) (by decide +kernel)) (goodIn_sub (fun _ h => List.mem_cons_of_mem _ (List.mem_append_left _ (List.mem_append_left _ (List.mem_append_right _ h)))) (by decide +kernel))) (goodIn_sub (fun _ h => List.mem_cons_of_mem _ (List.mem_append_left _ (List.mem_append_right _ h))) (by decide +kernel))
set_option maxRecDepth 20000 in
theorem gL_act_X5_set : GoodIn wsL_act (wsV RL 113 RX5 yX5_set wsX5_set) := goodIn_app (goodIn_of _ (by decide +kernel)) ggL_act_X5_set
theorem dL_act_0 : decode cL_act 0 = .ok (.iload_n 2, 1) := by decide +kernel
theorem dL_act_1 : decode cL_act 1 = .ok (.iconst 3, 1) := by decide +kernel
theorem dL_act_2 : decode cL_act 2 = .ok (.invokestatic 54, 3) := by decide +kernel
theorem dL_act_5 : decode cL_act 5 = .ok (.istore 9, 2) := by decide +kernel
theorem dL_act_7 : decode cL_act 7 = .ok (.iload 9, 2) := by decide +kernel
theorem dL_act_9 : decode cL_act 9 = .ok (.ifCond .ne 8, 3) := by decide +kernel
theorem dL_act_12 : decode cL_act 12 = .ok (.aload 4, 2) := by decide +kernel
theorem dL_act_14 : decode cL_act 14 = .ok (.goto 16, 3) := by decide +kernel
theorem dL_act_17 : decode cL_act 17 = .ok (.iload 9, 2) := by decide +kernel
theorem dL_act_19 : decode cL_act 19 = .ok (.iconst 1, 1) := by decide +kernel
theorem dL_act_20 : decode cL_act 20 = .ok (.if_icmp .ne 8, 3) := by decide +kernel
theorem dL_act_23 : decode cL_act 23 = .ok (.aload 5, 2) := by decide +kernel
theorem dL_act_25 : decode cL_act 25 = .ok (.goto 5, 3) := by decide +kernel
theorem dL_act_28 : decode cL_act 28 = .ok (.aload 6, 2) := by decide +kernel
theorem dL_act_30 : decode cL_act 30 = .ok (.astore 10, 2) := by decide +kernel
theorem dL_act_32 : decode cL_act 32 = .ok (.iload_n 2, 1) := by decide +kernel
theorem dL_act_33 : decode cL_act 33 = .ok (.iconst 3, 1) := by decide +kernel
theorem dL_act_34 : decode cL_act 34 = .ok (.ishr, 1) := by decide +kernel
theorem dL_act_35 : decode cL_act 35 = .ok (.bipush 12, 2) := by decide +kernel
theorem dL_act_37 : decode cL_act 37 = .ok (.invokestatic 54, 3) := by decide +kernel
theorem dL_act_40 : decode cL_act 40 = .ok (.istore 11, 2) := by decide +kernel
theorem dL_act_42 : decode cL_act 42 = .ok (.iload_n 3, 1) := by decide +kernel
theorem dL_act_43 : decode cL_act 43 = .ok (.iconst 4, 1) := by decide +kernel
theorem dL_act_44 : decode cL_act 44 = .ok (.invokestatic 54, 3) := by decide +kernel
theorem dL_act_47 : decode cL_act 47 = .ok (.istore 12, 2) := by decide +kernel
theorem dL_act_49 : decode cL_act 49 = .ok (.iload_n 1, 1) := by decide +kernel
theorem dL_act_50 : decode cL_act 50 = .ok (.iconst 5, 1) := by decide +kernel
theorem dL_act_51 : decode cL_act 51 = .ok (.if_icmp .ge 107, 3) := by decide +kernel
theorem dL_act_54 : decode cL_act 54 = .ok (.iconst 1, 1) := by decide +kernel
theorem dL_act_55 : decode cL_act 55 = .ok (.iload_n 3, 1) := by decide +kernel
theorem dL_act_56 : decode cL_act 56 = .ok (.iconst 2, 1) := by decide +kernel
theorem dL_act_57 : decode cL_act 57 = .ok (.ishr, 1) := by decide +kernel
theorem dL_act_58 : decode cL_act 58 = .ok (.iload_n 2, 1) := by decide +kernel
theorem dL_act_59 : decode cL_act 59 = .ok (.bipush 8, 2) := by decide +kernel
theorem dL_act_61 : decode cL_act 61 = .ok (.ishr, 1) := by decide +kernel
theorem dL_act_62 : decode cL_act 62 = .ok (.iconst 3, 1) := by decide +kernel
theorem dL_act_63 : decode cL_act 63 = .ok (.invokestatic 54, 3) := by decide +kernel
theorem dL_act_66 : decode cL_act 66 = .ok (.ifCond .ne 9, 3) := by decide +kernel
theorem dL_act_69 : decode cL_act 69 = .ok (.sipush 999, 3) := by decide +kernel
theorem dL_act_72 : decode cL_act 72 = .ok (.goto 5, 3) := by decide +kernel
theorem dL_act_75 : decode cL_act 75 = .ok (.bipush 60, 2) := by decide +kernel
theorem dL_act_77 : decode cL_act 77 = .ok (.invokestatic 54, 3) := by decide +kernel
theorem dL_act_80 : decode cL_act 80 = .ok (.iadd, 1) := by decide +kernel
theorem dL_act_81 : decode cL_act 81 = .ok (.istore 13, 2) := by decide +kernel
theorem dL_act_83 : decode cL_act 83 = .ok (.aload 10, 2) := by decide +kernel
theorem dL_act_85 : decode cL_act 85 = .ok (.iconst 0, 1) := by decide +kernel
theorem dL_act_86 : decode cL_act 86 = .ok (.bipush 11, 2) := by decide +kernel
theorem dL_act_88 : decode cL_act 88 = .ok (.invokestatic 28, 3) := by decide +kernel
theorem dL_act_91 : decode cL_act 91 = .ok (.iload 13, 2) := by decide +kernel
theorem dL_act_93 : decode cL_act 93 = .ok (.iadd, 1) := by decide +kernel
theorem dL_act_94 : decode cL_act 94 = .ok (.sipush 5000, 3) := by decide +kernel
theorem dL_act_97 : decode cL_act 97 = .ok (.if_icmp .le 5, 3) := by decide +kernel
theorem dL_act_100 : decode cL_act 100 = .ok (.iconst 1, 1) := by decide +kernel
theorem dL_act_101 : decode cL_act 101 = .ok (.ireturn, 1) := by decide +kernel
theorem dL_act_102 : decode cL_act 102 = .ok (.aload 10, 2) := by decide +kernel
theorem dL_act_104 : decode cL_act 104 = .ok (.iconst 4, 1) := by decide +kernel
theorem dL_act_105 : decode cL_act 105 = .ok (.iload 11, 2) := by decide +kernel
theorem dL_act_107 : decode cL_act 107 = .ok (.imul, 1) := by decide +kernel
theorem dL_act_108 : decode cL_act 108 = .ok (.iload 12, 2) := by decide +kernel
theorem dL_act_110 : decode cL_act 110 = .ok (.iadd, 1) := by decide +kernel
theorem dL_act_111 : decode cL_act 111 = .ok (.dup2, 1) := by decide +kernel
theorem dL_act_112 : decode cL_act 112 = .ok (.iaload, 1) := by decide +kernel
theorem dL_act_113 : decode cL_act 113 = .ok (.iload 13, 2) := by decide +kernel
theorem dL_act_115 : decode cL_act 115 = .ok (.iadd, 1) := by decide +kernel
theorem dL_act_116 : decode cL_act 116 = .ok (.iastore, 1) := by decide +kernel
theorem dL_act_117 : decode cL_act 117 = .ok (.aload 7, 2) := by decide +kernel
theorem dL_act_119 : decode cL_act 119 = .ok (.bipush 8, 2) := by decide +kernel
theorem dL_act_121 : decode cL_act 121 = .ok (.iload 12, 2) := by decide +kernel
theorem dL_act_123 : decode cL_act 123 = .ok (.iadd, 1) := by decide +kernel
theorem dL_act_124 : decode cL_act 124 = .ok (.dup2, 1) := by decide +kernel
theorem dL_act_125 : decode cL_act 125 = .ok (.iaload, 1) := by decide +kernel
theorem dL_act_126 : decode cL_act 126 = .ok (.iload 13, 2) := by decide +kernel
theorem dL_act_128 : decode cL_act 128 = .ok (.iadd, 1) := by decide +kernel
theorem dL_act_129 : decode cL_act 129 = .ok (.iastore, 1) := by decide +kernel
theorem dL_act_130 : decode cL_act 130 = .ok (.aload_n 0, 1) := by decide +kernel
theorem dL_act_131 : decode cL_act 131 = .ok (.iload 9, 2) := by decide +kernel
theorem dL_act_133 : decode cL_act 133 = .ok (.iload 11, 2) := by decide +kernel
theorem dL_act_135 : decode cL_act 135 = .ok (.iload 12, 2) := by decide +kernel
theorem dL_act_137 : decode cL_act 137 = .ok (.iload 13, 2) := by decide +kernel
theorem dL_act_139 : decode cL_act 139 = .ok (.invokevirtual 91, 3) := by decide +kernel
theorem dL_act_142 : decode cL_act 142 = .ok (.aload 10, 2) := by decide +kernel
theorem dL_act_144 : decode cL_act 144 = .ok (.iload 11, 2) := by decide +kernel
theorem dL_act_146 : decode cL_act 146 = .ok (.invokestatic 9, 3) := by decide +kernel
theorem dL_act_149 : decode cL_act 149 = .ok (.if_icmp .ne 7, 3) := by decide +kernel
theorem dL_act_152 : decode cL_act 152 = .ok (.iconst 1, 1) := by decide +kernel
theorem dL_act_153 : decode cL_act 153 = .ok (.goto 4, 3) := by decide +kernel
theorem dL_act_156 : decode cL_act 156 = .ok (.iconst 0, 1) := by decide +kernel
theorem dL_act_157 : decode cL_act 157 = .ok (.ireturn, 1) := by decide +kernel
theorem dL_act_158 : decode cL_act 158 = .ok (.iload_n 1, 1) := by decide +kernel
theorem dL_act_159 : decode cL_act 159 = .ok (.bipush 9, 2) := by decide +kernel
theorem dL_act_161 : decode cL_act 161 = .ok (.if_icmp .ge 108, 3) := by decide +kernel
theorem dL_act_164 : decode cL_act 164 = .ok (.iconst 1, 1) := by decide +kernel
theorem dL_act_165 : decode cL_act 165 = .ok (.iload_n 3, 1) := by decide +kernel
theorem dL_act_166 : decode cL_act 166 = .ok (.iload_n 2, 1) := by decide +kernel
theorem dL_act_167 : decode cL_act 167 = .ok (.iconst 4, 1) := by decide +kernel
theorem dL_act_168 : decode cL_act 168 = .ok (.invokestatic 54, 3) := by decide +kernel
theorem dL_act_171 : decode cL_act 171 = .ok (.ifCond .ne 8, 3) := by decide +kernel
theorem dL_act_174 : decode cL_act 174 = .ok (.bipush 100, 2) := by decide +kernel
theorem dL_act_176 : decode cL_act 176 = .ok (.goto 5, 3) := by decide +kernel
theorem dL_act_179 : decode cL_act 179 = .ok (.bipush 8, 2) := by decide +kernel
theorem dL_act_181 : decode cL_act 181 = .ok (.invokestatic 54, 3) := by decide +kernel
theorem dL_act_184 : decode cL_act 184 = .ok (.iadd, 1) := by decide +kernel
theorem dL_act_185 : decode cL_act 185 = .ok (.istore 13, 2) := by decide +kernel
theorem dL_act_187 : decode cL_act 187 = .ok (.iconst 0, 1) := by decide +kernel
theorem dL_act_188 : decode cL_act 188 = .ok (.istore 14, 2) := by decide +kernel
theorem dL_act_190 : decode cL_act 190 = .ok (.iconst 0, 1) := by decide +kernel
theorem dL_act_191 : decode cL_act 191 = .ok (.istore 15, 2) := by decide +kernel
theorem dL_act_193 : decode cL_act 193 = .ok (.iload 15, 2) := by decide +kernel
theorem dL_act_195 : decode cL_act 195 = .ok (.iload 13, 2) := by decide +kernel
theorem dL_act_197 : decode cL_act 197 = .ok (.if_icmp .ge 37, 3) := by decide +kernel
theorem dL_act_200 : decode cL_act 200 = .ok (.iload 14, 2) := by decide +kernel
theorem dL_act_202 : decode cL_act 202 = .ok (.aload 4, 2) := by decide +kernel
theorem dL_act_204 : decode cL_act 204 = .ok (.aload 7, 2) := by decide +kernel
theorem dL_act_206 : decode cL_act 206 = .ok (.invokestatic 64, 3) := by decide +kernel
theorem dL_act_209 : decode cL_act 209 = .ok (.aload 5, 2) := by decide +kernel
theorem dL_act_211 : decode cL_act 211 = .ok (.aload 7, 2) := by decide +kernel
theorem dL_act_213 : decode cL_act 213 = .ok (.invokestatic 64, 3) := by decide +kernel
theorem dL_act_216 : decode cL_act 216 = .ok (.iadd, 1) := by decide +kernel
theorem dL_act_217 : decode cL_act 217 = .ok (.aload 6, 2) := by decide +kernel
theorem dL_act_219 : decode cL_act 219 = .ok (.aload 7, 2) := by decide +kernel
theorem dL_act_221 : decode cL_act 221 = .ok (.invokestatic 64, 3) := by decide +kernel
theorem dL_act_224 : decode cL_act 224 = .ok (.iadd, 1) := by decide +kernel
theorem dL_act_225 : decode cL_act 225 = .ok (.iadd, 1) := by decide +kernel
theorem dL_act_226 : decode cL_act 226 = .ok (.istore 14, 2) := by decide +kernel
theorem dL_act_228 : decode cL_act 228 = .ok (.iinc 15 1, 3) := by decide +kernel
theorem dL_act_231 : decode cL_act 231 = .ok (.goto (-38), 3) := by decide +kernel
theorem dL_act_234 : decode cL_act 234 = .ok (.aload 8, 2) := by decide +kernel
theorem dL_act_236 : decode cL_act 236 = .ok (.iconst 0, 1) := by decide +kernel
theorem dL_act_237 : decode cL_act 237 = .ok (.dup2, 1) := by decide +kernel
theorem dL_act_238 : decode cL_act 238 = .ok (.iaload, 1) := by decide +kernel
theorem dL_act_239 : decode cL_act 239 = .ok (.iload 13, 2) := by decide +kernel
theorem dL_act_241 : decode cL_act 241 = .ok (.iadd, 1) := by decide +kernel
theorem dL_act_242 : decode cL_act 242 = .ok (.iastore, 1) := by decide +kernel
theorem dL_act_243 : decode cL_act 243 = .ok (.aload 8, 2) := by decide +kernel
theorem dL_act_245 : decode cL_act 245 = .ok (.iconst 1, 1) := by decide +kernel
theorem dL_act_246 : decode cL_act 246 = .ok (.dup2, 1) := by decide +kernel
theorem dL_act_247 : decode cL_act 247 = .ok (.iaload, 1) := by decide +kernel
theorem dL_act_248 : decode cL_act 248 = .ok (.iload 14, 2) := by decide +kernel
theorem dL_act_250 : decode cL_act 250 = .ok (.iadd, 1) := by decide +kernel
theorem dL_act_251 : decode cL_act 251 = .ok (.iastore, 1) := by decide +kernel
theorem dL_act_252 : decode cL_act 252 = .ok (.aload_n 0, 1) := by decide +kernel
theorem dL_act_253 : decode cL_act 253 = .ok (.iload 13, 2) := by decide +kernel
theorem dL_act_255 : decode cL_act 255 = .ok (.invokevirtual 95, 3) := by decide +kernel
theorem dL_act_258 : decode cL_act 258 = .ok (.iload 14, 2) := by decide +kernel
theorem dL_act_260 : decode cL_act 260 = .ok (.if_icmp .ne 7, 3) := by decide +kernel
theorem dL_act_263 : decode cL_act 263 = .ok (.iconst 1, 1) := by decide +kernel
theorem dL_act_264 : decode cL_act 264 = .ok (.goto 4, 3) := by decide +kernel
theorem dL_act_267 : decode cL_act 267 = .ok (.iconst 0, 1) := by decide +kernel
theorem dL_act_268 : decode cL_act 268 = .ok (.ireturn, 1) := by decide +kernel
theorem dL_act_269 : decode cL_act 269 = .ok (.iload_n 1, 1) := by decide +kernel
theorem dL_act_270 : decode cL_act 270 = .ok (.bipush 9, 2) := by decide +kernel
theorem dL_act_272 : decode cL_act 272 = .ok (.if_icmp .ne 156, 3) := by decide +kernel
theorem dL_act_275 : decode cL_act 275 = .ok (.iload 11, 2) := by decide +kernel
theorem dL_act_277 : decode cL_act 277 = .ok (.iload_n 3, 1) := by decide +kernel
theorem dL_act_278 : decode cL_act 278 = .ok (.bipush 12, 2) := by decide +kernel
theorem dL_act_280 : decode cL_act 280 = .ok (.iload 11, 2) := by decide +kernel
theorem dL_act_282 : decode cL_act 282 = .ok (.isub, 1) := by decide +kernel
theorem dL_act_283 : decode cL_act 283 = .ok (.invokestatic 54, 3) := by decide +kernel
theorem dL_act_286 : decode cL_act 286 = .ok (.iadd, 1) := by decide +kernel
theorem dL_act_287 : decode cL_act 287 = .ok (.istore 13, 2) := by decide +kernel
theorem dL_act_289 : decode cL_act 289 = .ok (.iconst 0, 1) := by decide +kernel
theorem dL_act_290 : decode cL_act 290 = .ok (.istore 14, 2) := by decide +kernel
theorem dL_act_292 : decode cL_act 292 = .ok (.iconst 0, 1) := by decide +kernel
theorem dL_act_293 : decode cL_act 293 = .ok (.istore 15, 2) := by decide +kernel
theorem dL_act_295 : decode cL_act 295 = .ok (.iload 15, 2) := by decide +kernel
theorem dL_act_297 : decode cL_act 297 = .ok (.iconst 4, 1) := by decide +kernel
theorem dL_act_298 : decode cL_act 298 = .ok (.if_icmp .ge 109, 3) := by decide +kernel
theorem dL_act_301 : decode cL_act 301 = .ok (.iconst 0, 1) := by decide +kernel
theorem dL_act_302 : decode cL_act 302 = .ok (.istore 16, 2) := by decide +kernel
theorem dL_act_304 : decode cL_act 304 = .ok (.iload 11, 2) := by decide +kernel
theorem dL_act_306 : decode cL_act 306 = .ok (.istore 17, 2) := by decide +kernel
theorem dL_act_308 : decode cL_act 308 = .ok (.iload 17, 2) := by decide +kernel
theorem dL_act_310 : decode cL_act 310 = .ok (.iload 13, 2) := by decide +kernel
theorem dL_act_312 : decode cL_act 312 = .ok (.if_icmp .gt 24, 3) := by decide +kernel
theorem dL_act_315 : decode cL_act 315 = .ok (.iload 16, 2) := by decide +kernel
theorem dL_act_317 : decode cL_act 317 = .ok (.aload 10, 2) := by decide +kernel
theorem dL_act_319 : decode cL_act 319 = .ok (.iconst 4, 1) := by decide +kernel
theorem dL_act_320 : decode cL_act 320 = .ok (.iload 17, 2) := by decide +kernel
theorem dL_act_322 : decode cL_act 322 = .ok (.imul, 1) := by decide +kernel
theorem dL_act_323 : decode cL_act 323 = .ok (.iload 15, 2) := by decide +kernel
theorem dL_act_325 : decode cL_act 325 = .ok (.iadd, 1) := by decide +kernel
theorem dL_act_326 : decode cL_act 326 = .ok (.iaload, 1) := by decide +kernel
theorem dL_act_327 : decode cL_act 327 = .ok (.iadd, 1) := by decide +kernel
theorem dL_act_328 : decode cL_act 328 = .ok (.istore 16, 2) := by decide +kernel
theorem dL_act_330 : decode cL_act 330 = .ok (.iinc 17 1, 3) := by decide +kernel
theorem dL_act_333 : decode cL_act 333 = .ok (.goto (-25), 3) := by decide +kernel
theorem dL_act_336 : decode cL_act 336 = .ok (.iload 14, 2) := by decide +kernel
theorem dL_act_338 : decode cL_act 338 = .ok (.iload 16, 2) := by decide +kernel
theorem dL_act_340 : decode cL_act 340 = .ok (.iadd, 1) := by decide +kernel
theorem dL_act_341 : decode cL_act 341 = .ok (.istore 14, 2) := by decide +kernel
theorem dL_act_343 : decode cL_act 343 = .ok (.iload 11, 2) := by decide +kernel
theorem dL_act_345 : decode cL_act 345 = .ok (.istore 17, 2) := by decide +kernel
theorem dL_act_347 : decode cL_act 347 = .ok (.iload 17, 2) := by decide +kernel
theorem dL_act_349 : decode cL_act 349 = .ok (.iload 13, 2) := by decide +kernel
theorem dL_act_351 : decode cL_act 351 = .ok (.if_icmp .gt 50, 3) := by decide +kernel
theorem dL_act_354 : decode cL_act 354 = .ok (.aload 10, 2) := by decide +kernel
theorem dL_act_356 : decode cL_act 356 = .ok (.iconst 4, 1) := by decide +kernel
theorem dL_act_357 : decode cL_act 357 = .ok (.iload 17, 2) := by decide +kernel
theorem dL_act_359 : decode cL_act 359 = .ok (.imul, 1) := by decide +kernel
theorem dL_act_360 : decode cL_act 360 = .ok (.iload 15, 2) := by decide +kernel
theorem dL_act_362 : decode cL_act 362 = .ok (.iadd, 1) := by decide +kernel
theorem dL_act_363 : decode cL_act 363 = .ok (.iload 16, 2) := by decide +kernel
theorem dL_act_365 : decode cL_act 365 = .ok (.iload 13, 2) := by decide +kernel
theorem dL_act_367 : decode cL_act 367 = .ok (.iadd, 1) := by decide +kernel
theorem dL_act_368 : decode cL_act 368 = .ok (.iload 17, 2) := by decide +kernel
theorem dL_act_370 : decode cL_act 370 = .ok (.isub, 1) := by decide +kernel
theorem dL_act_371 : decode cL_act 371 = .ok (.iload 13, 2) := by decide +kernel
theorem dL_act_373 : decode cL_act 373 = .ok (.iload 17, 2) := by decide +kernel
theorem dL_act_375 : decode cL_act 375 = .ok (.isub, 1) := by decide +kernel
theorem dL_act_376 : decode cL_act 376 = .ok (.iconst 1, 1) := by decide +kernel
theorem dL_act_377 : decode cL_act 377 = .ok (.iadd, 1) := by decide +kernel
theorem dL_act_378 : decode cL_act 378 = .ok (.idiv, 1) := by decide +kernel
theorem dL_act_379 : decode cL_act 379 = .ok (.iastore, 1) := by decide +kernel
theorem dL_act_380 : decode cL_act 380 = .ok (.iload 16, 2) := by decide +kernel
theorem dL_act_382 : decode cL_act 382 = .ok (.aload 10, 2) := by decide +kernel
theorem dL_act_384 : decode cL_act 384 = .ok (.iconst 4, 1) := by decide +kernel
theorem dL_act_385 : decode cL_act 385 = .ok (.iload 17, 2) := by decide +kernel
theorem dL_act_387 : decode cL_act 387 = .ok (.imul, 1) := by decide +kernel
theorem dL_act_388 : decode cL_act 388 = .ok (.iload 15, 2) := by decide +kernel
theorem dL_act_390 : decode cL_act 390 = .ok (.iadd, 1) := by decide +kernel
theorem dL_act_391 : decode cL_act 391 = .ok (.iaload, 1) := by decide +kernel
theorem dL_act_392 : decode cL_act 392 = .ok (.isub, 1) := by decide +kernel
theorem dL_act_393 : decode cL_act 393 = .ok (.istore 16, 2) := by decide +kernel
theorem dL_act_395 : decode cL_act 395 = .ok (.iinc 17 1, 3) := by decide +kernel
theorem dL_act_398 : decode cL_act 398 = .ok (.goto (-51), 3) := by decide +kernel
theorem dL_act_401 : decode cL_act 401 = .ok (.iinc 15 1, 3) := by decide +kernel
theorem dL_act_404 : decode cL_act 404 = .ok (.goto (-109), 3) := by decide +kernel
theorem dL_act_407 : decode cL_act 407 = .ok (.aload_n 0, 1) := by decide +kernel
theorem dL_act_408 : decode cL_act 408 = .ok (.iload 9, 2) := by decide +kernel
theorem dL_act_410 : decode cL_act 410 = .ok (.iload 11, 2) := by decide +kernel
theorem dL_act_412 : decode cL_act 412 = .ok (.iload 13, 2) := by decide +kernel
theorem dL_act_414 : decode cL_act 414 = .ok (.invokevirtual 98, 3) := by decide +kernel
theorem dL_act_417 : decode cL_act 417 = .ok (.iload 14, 2) := by decide +kernel
theorem dL_act_419 : decode cL_act 419 = .ok (.if_icmp .ne 7, 3) := by decide +kernel
theorem dL_act_422 : decode cL_act 422 = .ok (.iconst 1, 1) := by decide +kernel
theorem dL_act_423 : decode cL_act 423 = .ok (.goto 4, 3) := by decide +kernel
theorem dL_act_426 : decode cL_act 426 = .ok (.iconst 0, 1) := by decide +kernel
theorem dL_act_427 : decode cL_act 427 = .ok (.ireturn, 1) := by decide +kernel
theorem dL_act_428 : decode cL_act 428 = .ok (.iload_n 1, 1) := by decide +kernel
theorem dL_act_429 : decode cL_act 429 = .ok (.bipush 10, 2) := by decide +kernel
theorem dL_act_431 : decode cL_act 431 = .ok (.if_icmp .ne 105, 3) := by decide +kernel
theorem dL_act_434 : decode cL_act 434 = .ok (.iconst 1, 1) := by decide +kernel
theorem dL_act_435 : decode cL_act 435 = .ok (.iload_n 3, 1) := by decide +kernel
theorem dL_act_436 : decode cL_act 436 = .ok (.bipush 100, 2) := by decide +kernel
theorem dL_act_438 : decode cL_act 438 = .ok (.invokestatic 54, 3) := by decide +kernel
theorem dL_act_441 : decode cL_act 441 = .ok (.iadd, 1) := by decide +kernel
theorem dL_act_442 : decode cL_act 442 = .ok (.istore 13, 2) := by decide +kernel
theorem dL_act_444 : decode cL_act 444 = .ok (.iconst 0, 1) := by decide +kernel
theorem dL_act_445 : decode cL_act 445 = .ok (.istore 14, 2) := by decide +kernel
theorem dL_act_447 : decode cL_act 447 = .ok (.iconst 0, 1) := by decide +kernel
theorem dL_act_448 : decode cL_act 448 = .ok (.istore 15, 2) := by decide +kernel
theorem dL_act_450 : decode cL_act 450 = .ok (.iload 15, 2) := by decide +kernel
theorem dL_act_452 : decode cL_act 452 = .ok (.iconst 4, 1) := by decide +kernel
theorem dL_act_453 : decode cL_act 453 = .ok (.if_icmp .ge 62, 3) := by decide +kernel
theorem dL_act_456 : decode cL_act 456 = .ok (.aload 10, 2) := by decide +kernel
theorem dL_act_458 : decode cL_act 458 = .ok (.iconst 4, 1) := by decide +kernel
theorem dL_act_459 : decode cL_act 459 = .ok (.iload 11, 2) := by decide +kernel
theorem dL_act_461 : decode cL_act 461 = .ok (.imul, 1) := by decide +kernel
theorem dL_act_462 : decode cL_act 462 = .ok (.iload 15, 2) := by decide +kernel
theorem dL_act_464 : decode cL_act 464 = .ok (.iadd, 1) := by decide +kernel
theorem dL_act_465 : decode cL_act 465 = .ok (.iaload, 1) := by decide +kernel
theorem dL_act_466 : decode cL_act 466 = .ok (.iload 13, 2) := by decide +kernel
theorem dL_act_468 : decode cL_act 468 = .ok (.imul, 1) := by decide +kernel
theorem dL_act_469 : decode cL_act 469 = .ok (.bipush 100, 2) := by decide +kernel
theorem dL_act_471 : decode cL_act 471 = .ok (.idiv, 1) := by decide +kernel
theorem dL_act_472 : decode cL_act 472 = .ok (.istore 16, 2) := by decide +kernel
theorem dL_act_474 : decode cL_act 474 = .ok (.aload 10, 2) := by decide +kernel
theorem dL_act_476 : decode cL_act 476 = .ok (.iconst 4, 1) := by decide +kernel
theorem dL_act_477 : decode cL_act 477 = .ok (.iload 11, 2) := by decide +kernel
theorem dL_act_479 : decode cL_act 479 = .ok (.imul, 1) := by decide +kernel
theorem dL_act_480 : decode cL_act 480 = .ok (.iload 15, 2) := by decide +kernel
theorem dL_act_482 : decode cL_act 482 = .ok (.iadd, 1) := by decide +kernel
theorem dL_act_483 : decode cL_act 483 = .ok (.dup2, 1) := by decide +kernel
theorem dL_act_484 : decode cL_act 484 = .ok (.iaload, 1) := by decide +kernel
theorem dL_act_485 : decode cL_act 485 = .ok (.iload 16, 2) := by decide +kernel
theorem dL_act_487 : decode cL_act 487 = .ok (.isub, 1) := by decide +kernel
theorem dL_act_488 : decode cL_act 488 = .ok (.iastore, 1) := by decide +kernel
theorem dL_act_489 : decode cL_act 489 = .ok (.aload 7, 2) := by decide +kernel
theorem dL_act_491 : decode cL_act 491 = .ok (.bipush 12, 2) := by decide +kernel
theorem dL_act_493 : decode cL_act 493 = .ok (.iload 15, 2) := by decide +kernel
theorem dL_act_495 : decode cL_act 495 = .ok (.iadd, 1) := by decide +kernel
theorem dL_act_496 : decode cL_act 496 = .ok (.dup2, 1) := by decide +kernel
theorem dL_act_497 : decode cL_act 497 = .ok (.iaload, 1) := by decide +kernel
theorem dL_act_498 : decode cL_act 498 = .ok (.iload 16, 2) := by decide +kernel
theorem dL_act_500 : decode cL_act 500 = .ok (.iadd, 1) := by decide +kernel
theorem dL_act_501 : decode cL_act 501 = .ok (.iastore, 1) := by decide +kernel
theorem dL_act_502 : decode cL_act 502 = .ok (.iload 14, 2) := by decide +kernel
theorem dL_act_504 : decode cL_act 504 = .ok (.iload 16, 2) := by decide +kernel
theorem dL_act_506 : decode cL_act 506 = .ok (.iadd, 1) := by decide +kernel
theorem dL_act_507 : decode cL_act 507 = .ok (.istore 14, 2) := by decide +kernel
theorem dL_act_509 : decode cL_act 509 = .ok (.iinc 15 1, 3) := by decide +kernel
theorem dL_act_512 : decode cL_act 512 = .ok (.goto (-62), 3) := by decide +kernel
theorem dL_act_515 : decode cL_act 515 = .ok (.aload_n 0, 1) := by decide +kernel
theorem dL_act_516 : decode cL_act 516 = .ok (.iload 9, 2) := by decide +kernel
theorem dL_act_518 : decode cL_act 518 = .ok (.iload 11, 2) := by decide +kernel
theorem dL_act_520 : decode cL_act 520 = .ok (.iload 13, 2) := by decide +kernel
theorem dL_act_522 : decode cL_act 522 = .ok (.invokevirtual 101, 3) := by decide +kernel
theorem dL_act_525 : decode cL_act 525 = .ok (.iload 14, 2) := by decide +kernel
theorem dL_act_527 : decode cL_act 527 = .ok (.if_icmp .ne 7, 3) := by decide +kernel
theorem dL_act_530 : decode cL_act 530 = .ok (.iconst 1, 1) := by decide +kernel
theorem dL_act_531 : decode cL_act 531 = .ok (.goto 4, 3) := by decide +kernel
theorem dL_act_534 : decode cL_act 534 = .ok (.iconst 0, 1) := by decide +kernel
theorem dL_act_535 : decode cL_act 535 = .ok (.ireturn, 1) := by decide +kernel
theorem dL_act_536 : decode cL_act 536 = .ok (.iload_n 1, 1) := by decide +kernel
theorem dL_act_537 : decode cL_act 537 = .ok (.bipush 11, 2) := by decide +kernel
theorem dL_act_539 : decode cL_act 539 = .ok (.if_icmp .ne 131, 3) := by decide +kernel
theorem dL_act_542 : decode cL_act 542 = .ok (.iload 9, 2) := by decide +kernel
theorem dL_act_544 : decode cL_act 544 = .ok (.iconst 1, 1) := by decide +kernel
theorem dL_act_545 : decode cL_act 545 = .ok (.iadd, 1) := by decide +kernel
theorem dL_act_546 : decode cL_act 546 = .ok (.iload_n 3, 1) := by decide +kernel
theorem dL_act_547 : decode cL_act 547 = .ok (.iconst 2, 1) := by decide +kernel
theorem dL_act_548 : decode cL_act 548 = .ok (.invokestatic 54, 3) := by decide +kernel
theorem dL_act_551 : decode cL_act 551 = .ok (.iadd, 1) := by decide +kernel
theorem dL_act_552 : decode cL_act 552 = .ok (.iconst 3, 1) := by decide +kernel
theorem dL_act_553 : decode cL_act 553 = .ok (.irem, 1) := by decide +kernel
theorem dL_act_554 : decode cL_act 554 = .ok (.istore 13, 2) := by decide +kernel
theorem dL_act_556 : decode cL_act 556 = .ok (.iload 13, 2) := by decide +kernel
theorem dL_act_558 : decode cL_act 558 = .ok (.ifCond .ne 8, 3) := by decide +kernel
theorem dL_act_561 : decode cL_act 561 = .ok (.aload 4, 2) := by decide +kernel
theorem dL_act_563 : decode cL_act 563 = .ok (.goto 16, 3) := by decide +kernel
theorem dL_act_566 : decode cL_act 566 = .ok (.iload 13, 2) := by decide +kernel
theorem dL_act_568 : decode cL_act 568 = .ok (.iconst 1, 1) := by decide +kernel
theorem dL_act_569 : decode cL_act 569 = .ok (.if_icmp .ne 8, 3) := by decide +kernel
theorem dL_act_572 : decode cL_act 572 = .ok (.aload 5, 2) := by decide +kernel
theorem dL_act_574 : decode cL_act 574 = .ok (.goto 5, 3) := by decide +kernel
theorem dL_act_577 : decode cL_act 577 = .ok (.aload 6, 2) := by decide +kernel
theorem dL_act_579 : decode cL_act 579 = .ok (.astore 14, 2) := by decide +kernel
theorem dL_act_581 : decode cL_act 581 = .ok (.aload 10, 2) := by decide +kernel
theorem dL_act_583 : decode cL_act 583 = .ok (.iconst 0, 1) := by decide +kernel
theorem dL_act_584 : decode cL_act 584 = .ok (.iload 11, 2) := by decide +kernel
theorem dL_act_586 : decode cL_act 586 = .ok (.invokestatic 28, 3) := by decide +kernel
theorem dL_act_589 : decode cL_act 589 = .ok (.istore 15, 2) := by decide +kernel
theorem dL_act_591 : decode cL_act 591 = .ok (.iload 15, 2) := by decide +kernel
theorem dL_act_593 : decode cL_act 593 = .ok (.aload 14, 2) := by decide +kernel
theorem dL_act_595 : decode cL_act 595 = .ok (.iconst 0, 1) := by decide +kernel
theorem dL_act_596 : decode cL_act 596 = .ok (.bipush 11, 2) := by decide +kernel
theorem dL_act_598 : decode cL_act 598 = .ok (.invokestatic 28, 3) := by decide +kernel
theorem dL_act_601 : decode cL_act 601 = .ok (.iadd, 1) := by decide +kernel
theorem dL_act_602 : decode cL_act 602 = .ok (.sipush 5000, 3) := by decide +kernel
theorem dL_act_605 : decode cL_act 605 = .ok (.if_icmp .le 5, 3) := by decide +kernel
theorem dL_act_608 : decode cL_act 608 = .ok (.iconst 1, 1) := by decide +kernel
theorem dL_act_609 : decode cL_act 609 = .ok (.ireturn, 1) := by decide +kernel
theorem dL_act_610 : decode cL_act 610 = .ok (.iconst 0, 1) := by decide +kernel
theorem dL_act_611 : decode cL_act 611 = .ok (.istore 16, 2) := by decide +kernel
theorem dL_act_613 : decode cL_act 613 = .ok (.iload 16, 2) := by decide +kernel
theorem dL_act_615 : decode cL_act 615 = .ok (.iconst 4, 1) := by decide +kernel
theorem dL_act_616 : decode cL_act 616 = .ok (.iload 11, 2) := by decide +kernel
theorem dL_act_618 : decode cL_act 618 = .ok (.imul, 1) := by decide +kernel
theorem dL_act_619 : decode cL_act 619 = .ok (.iconst 4, 1) := by decide +kernel
theorem dL_act_620 : decode cL_act 620 = .ok (.iadd, 1) := by decide +kernel
theorem dL_act_621 : decode cL_act 621 = .ok (.if_icmp .ge 28, 3) := by decide +kernel
theorem dL_act_624 : decode cL_act 624 = .ok (.aload 14, 2) := by decide +kernel
theorem dL_act_626 : decode cL_act 626 = .ok (.iload 16, 2) := by decide +kernel
theorem dL_act_628 : decode cL_act 628 = .ok (.dup2, 1) := by decide +kernel
theorem dL_act_629 : decode cL_act 629 = .ok (.iaload, 1) := by decide +kernel
theorem dL_act_630 : decode cL_act 630 = .ok (.aload 10, 2) := by decide +kernel
theorem dL_act_632 : decode cL_act 632 = .ok (.iload 16, 2) := by decide +kernel
theorem dL_act_634 : decode cL_act 634 = .ok (.iaload, 1) := by decide +kernel
theorem dL_act_635 : decode cL_act 635 = .ok (.iadd, 1) := by decide +kernel
theorem dL_act_636 : decode cL_act 636 = .ok (.iastore, 1) := by decide +kernel
theorem dL_act_637 : decode cL_act 637 = .ok (.aload 10, 2) := by decide +kernel
