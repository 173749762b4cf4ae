theorem dX6_reweigh_66 : decode cX6_reweigh 66 = .ok (.getfield 51, 3) := by decide +kernel
theorem dX6_reweigh_69 : decode cX6_reweigh 69 = .ok (.iload_n 1, 1) := by decide +kernel
theorem dX6_reweigh_70 : decode cX6_reweigh 70 = .ok (.iaload, 1) := by decide +kernel
theorem dX6_reweigh_71 : decode cX6_reweigh 71 = .ok (.invokevirtual 150, 3) := by decide +kernel
theorem dX6_reweigh_74 : decode cX6_reweigh 74 = .ok (.ifCond .eq 7, 3) := by decide +kernel
theorem dX6_reweigh_77 : decode cX6_reweigh 77 = .ok (.iconst 1, 1) := by decide +kernel
theorem dX6_reweigh_78 : decode cX6_reweigh 78 = .ok (.goto 4, 3) := by decide +kernel
theorem dX6_reweigh_81 : decode cX6_reweigh 81 = .ok (.iconst 0, 1) := by decide +kernel
theorem dX6_reweigh_82 : decode cX6_reweigh 82 = .ok (.istore 6, 2) := by decide +kernel
theorem dX6_reweigh_84 : decode cX6_reweigh 84 = .ok (.iload_n 3, 1) := by decide +kernel
theorem dX6_reweigh_85 : decode cX6_reweigh 85 = .ok (.ifCond .eq 32, 3) := by decide +kernel
theorem dX6_reweigh_88 : decode cX6_reweigh 88 = .ok (.iload 5, 2) := by decide +kernel
theorem dX6_reweigh_90 : decode cX6_reweigh 90 = .ok (.aload_n 0, 1) := by decide +kernel
theorem dX6_reweigh_91 : decode cX6_reweigh 91 = .ok (.getfield 45, 3) := by decide +kernel
theorem dX6_reweigh_94 : decode cX6_reweigh 94 = .ok (.iload_n 1, 1) := by decide +kernel
theorem dX6_reweigh_95 : decode cX6_reweigh 95 = .ok (.iaload, 1) := by decide +kernel
theorem dX6_reweigh_96 : decode cX6_reweigh 96 = .ok (.if_icmp .le 17, 3) := by decide +kernel
theorem dX6_reweigh_99 : decode cX6_reweigh 99 = .ok (.iload 6, 2) := by decide +kernel
theorem dX6_reweigh_101 : decode cX6_reweigh 101 = .ok (.ifCond .eq 12, 3) := by decide +kernel
theorem dX6_reweigh_104 : decode cX6_reweigh 104 = .ok (.aload_n 0, 1) := by decide +kernel
theorem dX6_reweigh_105 : decode cX6_reweigh 105 = .ok (.getfield 134, 3) := by decide +kernel
theorem dX6_reweigh_108 : decode cX6_reweigh 108 = .ok (.bipush 80, 2) := by decide +kernel
theorem dX6_reweigh_110 : decode cX6_reweigh 110 = .ok (.if_icmp .ge 7, 3) := by decide +kernel
theorem dX6_reweigh_113 : decode cX6_reweigh 113 = .ok (.iconst 1, 1) := by decide +kernel
theorem dX6_reweigh_114 : decode cX6_reweigh 114 = .ok (.goto 4, 3) := by decide +kernel
theorem dX6_reweigh_117 : decode cX6_reweigh 117 = .ok (.iconst 0, 1) := by decide +kernel
theorem dX6_reweigh_118 : decode cX6_reweigh 118 = .ok (.istore 7, 2) := by decide +kernel
theorem dX6_reweigh_120 : decode cX6_reweigh 120 = .ok (.aload_n 0, 1) := by decide +kernel
theorem dX6_reweigh_121 : decode cX6_reweigh 121 = .ok (.iload_n 3, 1) := by decide +kernel
theorem dX6_reweigh_122 : decode cX6_reweigh 122 = .ok (.ifCond .ne 7, 3) := by decide +kernel
theorem dX6_reweigh_125 : decode cX6_reweigh 125 = .ok (.iconst 1, 1) := by decide +kernel
theorem dX6_reweigh_126 : decode cX6_reweigh 126 = .ok (.goto 22, 3) := by decide +kernel
theorem dX6_reweigh_129 : decode cX6_reweigh 129 = .ok (.iload 4, 2) := by decide +kernel
theorem dX6_reweigh_131 : decode cX6_reweigh 131 = .ok (.ifCond .ne 7, 3) := by decide +kernel
theorem dX6_reweigh_134 : decode cX6_reweigh 134 = .ok (.iconst 2, 1) := by decide +kernel
theorem dX6_reweigh_135 : decode cX6_reweigh 135 = .ok (.goto 13, 3) := by decide +kernel
theorem dX6_reweigh_138 : decode cX6_reweigh 138 = .ok (.iload 7, 2) := by decide +kernel
theorem dX6_reweigh_140 : decode cX6_reweigh 140 = .ok (.ifCond .eq 7, 3) := by decide +kernel
theorem dX6_reweigh_143 : decode cX6_reweigh 143 = .ok (.iconst 0, 1) := by decide +kernel
theorem dX6_reweigh_144 : decode cX6_reweigh 144 = .ok (.goto 4, 3) := by decide +kernel
theorem dX6_reweigh_147 : decode cX6_reweigh 147 = .ok (.iconst 3, 1) := by decide +kernel
theorem dX6_reweigh_148 : decode cX6_reweigh 148 = .ok (.invokevirtual 141, 3) := by decide +kernel
theorem dX6_reweigh_151 : decode cX6_reweigh 151 = .ok (.ifCond .ne 5, 3) := by decide +kernel
theorem dX6_reweigh_154 : decode cX6_reweigh 154 = .ok (.iconst 0, 1) := by decide +kernel
theorem dX6_reweigh_155 : decode cX6_reweigh 155 = .ok (.ireturn, 1) := by decide +kernel
theorem dX6_reweigh_156 : decode cX6_reweigh 156 = .ok (.iload 5, 2) := by decide +kernel
theorem dX6_reweigh_158 : decode cX6_reweigh 158 = .ok (.aload_n 0, 1) := by decide +kernel
theorem dX6_reweigh_159 : decode cX6_reweigh 159 = .ok (.getfield 45, 3) := by decide +kernel
theorem dX6_reweigh_162 : decode cX6_reweigh 162 = .ok (.iload_n 1, 1) := by decide +kernel
theorem dX6_reweigh_163 : decode cX6_reweigh 163 = .ok (.iaload, 1) := by decide +kernel
theorem dX6_reweigh_164 : decode cX6_reweigh 164 = .ok (.isub, 1) := by decide +kernel
theorem dX6_reweigh_165 : decode cX6_reweigh 165 = .ok (.istore 8, 2) := by decide +kernel
theorem dX6_reweigh_167 : decode cX6_reweigh 167 = .ok (.aload_n 0, 1) := by decide +kernel
theorem dX6_reweigh_168 : decode cX6_reweigh 168 = .ok (.getfield 45, 3) := by decide +kernel
theorem dX6_reweigh_171 : decode cX6_reweigh 171 = .ok (.iload_n 1, 1) := by decide +kernel
theorem dX6_reweigh_172 : decode cX6_reweigh 172 = .ok (.iload 5, 2) := by decide +kernel
theorem dX6_reweigh_174 : decode cX6_reweigh 174 = .ok (.iastore, 1) := by decide +kernel
theorem dX6_reweigh_175 : decode cX6_reweigh 175 = .ok (.aload_n 0, 1) := by decide +kernel
theorem dX6_reweigh_176 : decode cX6_reweigh 176 = .ok (.getfield 39, 3) := by decide +kernel
theorem dX6_reweigh_179 : decode cX6_reweigh 179 = .ok (.iload_n 1, 1) := by decide +kernel
theorem dX6_reweigh_180 : decode cX6_reweigh 180 = .ok (.iaload, 1) := by decide +kernel
theorem dX6_reweigh_181 : decode cX6_reweigh 181 = .ok (.istore 9, 2) := by decide +kernel
theorem dX6_reweigh_183 : decode cX6_reweigh 183 = .ok (.iload 6, 2) := by decide +kernel
theorem dX6_reweigh_185 : decode cX6_reweigh 185 = .ok (.ifCond .ne 18, 3) := by decide +kernel
theorem dX6_reweigh_188 : decode cX6_reweigh 188 = .ok (.aload_n 0, 1) := by decide +kernel
theorem dX6_reweigh_189 : decode cX6_reweigh 189 = .ok (.getfield 20, 3) := by decide +kernel
theorem dX6_reweigh_192 : decode cX6_reweigh 192 = .ok (.iload 9, 2) := by decide +kernel
theorem dX6_reweigh_194 : decode cX6_reweigh 194 = .ok (.dup2, 1) := by decide +kernel
theorem dX6_reweigh_195 : decode cX6_reweigh 195 = .ok (.iaload, 1) := by decide +kernel
theorem dX6_reweigh_196 : decode cX6_reweigh 196 = .ok (.iload 8, 2) := by decide +kernel
theorem dX6_reweigh_198 : decode cX6_reweigh 198 = .ok (.isub, 1) := by decide +kernel
theorem dX6_reweigh_199 : decode cX6_reweigh 199 = .ok (.iastore, 1) := by decide +kernel
theorem dX6_reweigh_200 : decode cX6_reweigh 200 = .ok (.goto 181, 3) := by decide +kernel
theorem dX6_reweigh_203 : decode cX6_reweigh 203 = .ok (.iload 8, 2) := by decide +kernel
theorem dX6_reweigh_205 : decode cX6_reweigh 205 = .ok (.ifCond .le 39, 3) := by decide +kernel
theorem dX6_reweigh_208 : decode cX6_reweigh 208 = .ok (.aload_n 0, 1) := by decide +kernel
theorem dX6_reweigh_209 : decode cX6_reweigh 209 = .ok (.getfield 27, 3) := by decide +kernel
theorem dX6_reweigh_212 : decode cX6_reweigh 212 = .ok (.aload_n 0, 1) := by decide +kernel
theorem dX6_reweigh_213 : decode cX6_reweigh 213 = .ok (.getfield 54, 3) := by decide +kernel
theorem dX6_reweigh_216 : decode cX6_reweigh 216 = .ok (.iload_n 1, 1) := by decide +kernel
theorem dX6_reweigh_217 : decode cX6_reweigh 217 = .ok (.iaload, 1) := by decide +kernel
theorem dX6_reweigh_218 : decode cX6_reweigh 218 = .ok (.dup2, 1) := by decide +kernel
theorem dX6_reweigh_219 : decode cX6_reweigh 219 = .ok (.iaload, 1) := by decide +kernel
theorem dX6_reweigh_220 : decode cX6_reweigh 220 = .ok (.iload 8, 2) := by decide +kernel
theorem dX6_reweigh_222 : decode cX6_reweigh 222 = .ok (.iadd, 1) := by decide +kernel
theorem dX6_reweigh_223 : decode cX6_reweigh 223 = .ok (.iastore, 1) := by decide +kernel
theorem dX6_reweigh_224 : decode cX6_reweigh 224 = .ok (.aload_n 0, 1) := by decide +kernel
theorem dX6_reweigh_225 : decode cX6_reweigh 225 = .ok (.iload 8, 2) := by decide +kernel
theorem dX6_reweigh_227 : decode cX6_reweigh 227 = .ok (.iload 9, 2) := by decide +kernel
theorem dX6_reweigh_229 : decode cX6_reweigh 229 = .ok (.aload_n 0, 1) := by decide +kernel
theorem dX6_reweigh_230 : decode cX6_reweigh 230 = .ok (.getfield 54, 3) := by decide +kernel
theorem dX6_reweigh_233 : decode cX6_reweigh 233 = .ok (.iload_n 1, 1) := by decide +kernel
theorem dX6_reweigh_234 : decode cX6_reweigh 234 = .ok (.iaload, 1) := by decide +kernel
theorem dX6_reweigh_235 : decode cX6_reweigh 235 = .ok (.iload_n 1, 1) := by decide +kernel
theorem dX6_reweigh_236 : decode cX6_reweigh 236 = .ok (.invokevirtual 181, 3) := by decide +kernel
theorem dX6_reweigh_239 : decode cX6_reweigh 239 = .ok (.istore 10, 2) := by decide +kernel
theorem dX6_reweigh_241 : decode cX6_reweigh 241 = .ok (.goto 140, 3) := by decide +kernel
theorem dX6_reweigh_244 : decode cX6_reweigh 244 = .ok (.iload 8, 2) := by decide +kernel
theorem dX6_reweigh_246 : decode cX6_reweigh 246 = .ok (.ineg, 1) := by decide +kernel
theorem dX6_reweigh_247 : decode cX6_reweigh 247 = .ok (.istore 10, 2) := by decide +kernel
theorem dX6_reweigh_249 : decode cX6_reweigh 249 = .ok (.aload_n 0, 1) := by decide +kernel
theorem dX6_reweigh_250 : decode cX6_reweigh 250 = .ok (.getfield 134, 3) := by decide +kernel
theorem dX6_reweigh_253 : decode cX6_reweigh 253 = .ok (.istore 11, 2) := by decide +kernel
theorem dX6_reweigh_255 : decode cX6_reweigh 255 = .ok (.iconst 0, 1) := by decide +kernel
theorem dX6_reweigh_256 : decode cX6_reweigh 256 = .ok (.istore 12, 2) := by decide +kernel
theorem dX6_reweigh_258 : decode cX6_reweigh 258 = .ok (.iload 12, 2) := by decide +kernel
theorem dX6_reweigh_260 : decode cX6_reweigh 260 = .ok (.iload 11, 2) := by decide +kernel
theorem dX6_reweigh_262 : decode cX6_reweigh 262 = .ok (.if_icmp .ge 36, 3) := by decide +kernel
theorem dX6_reweigh_265 : decode cX6_reweigh 265 = .ok (.aload_n 0, 1) := by decide +kernel
theorem dX6_reweigh_266 : decode cX6_reweigh 266 = .ok (.getfield 66, 3) := by decide +kernel
theorem dX6_reweigh_269 : decode cX6_reweigh 269 = .ok (.iload 12, 2) := by decide +kernel
theorem dX6_reweigh_271 : decode cX6_reweigh 271 = .ok (.iaload, 1) := by decide +kernel
theorem dX6_reweigh_272 : decode cX6_reweigh 272 = .ok (.iload_n 1, 1) := by decide +kernel
theorem dX6_reweigh_273 : decode cX6_reweigh 273 = .ok (.if_icmp .ne 15, 3) := by decide +kernel
theorem dX6_reweigh_276 : decode cX6_reweigh 276 = .ok (.aload_n 0, 1) := by decide +kernel
theorem dX6_reweigh_277 : decode cX6_reweigh 277 = .ok (.iload_n 1, 1) := by decide +kernel
theorem dX6_reweigh_278 : decode cX6_reweigh 278 = .ok (.iload 12, 2) := by decide +kernel
theorem dX6_reweigh_280 : decode cX6_reweigh 280 = .ok (.iload 10, 2) := by decide +kernel
theorem dX6_reweigh_282 : decode cX6_reweigh 282 = .ok (.invokevirtual 200, 3) := by decide +kernel
theorem dX6_reweigh_285 : decode cX6_reweigh 285 = .ok (.goto 5, 3) := by decide +kernel
theorem dX6_reweigh_288 : decode cX6_reweigh 288 = .ok (.iload 10, 2) := by decide +kernel
theorem dX6_reweigh_290 : decode cX6_reweigh 290 = .ok (.istore 10, 2) := by decide +kernel
theorem dX6_reweigh_292 : decode cX6_reweigh 292 = .ok (.iinc 12 1, 3) := by decide +kernel
theorem dX6_reweigh_295 : decode cX6_reweigh 295 = .ok (.goto (-37), 3) := by decide +kernel
theorem dX6_reweigh_298 : decode cX6_reweigh 298 = .ok (.iconst 0, 1) := by decide +kernel
theorem dX6_reweigh_299 : decode cX6_reweigh 299 = .ok (.istore 12, 2) := by decide +kernel
theorem dX6_reweigh_301 : decode cX6_reweigh 301 = .ok (.iload 12, 2) := by decide +kernel
theorem dX6_reweigh_303 : decode cX6_reweigh 303 = .ok (.iload 11, 2) := by decide +kernel
theorem dX6_reweigh_305 : decode cX6_reweigh 305 = .ok (.if_icmp .ge 64, 3) := by decide +kernel
theorem dX6_reweigh_308 : decode cX6_reweigh 308 = .ok (.aload_n 0, 1) := by decide +kernel
theorem dX6_reweigh_309 : decode cX6_reweigh 309 = .ok (.getfield 66, 3) := by decide +kernel
theorem dX6_reweigh_312 : decode cX6_reweigh 312 = .ok (.iload 12, 2) := by decide +kernel
theorem dX6_reweigh_314 : decode cX6_reweigh 314 = .ok (.iaload, 1) := by decide +kernel
theorem dX6_reweigh_315 : decode cX6_reweigh 315 = .ok (.iload_n 1, 1) := by decide +kernel
theorem dX6_reweigh_316 : decode cX6_reweigh 316 = .ok (.if_icmp .eq 43, 3) := by decide +kernel
theorem dX6_reweigh_319 : decode cX6_reweigh 319 = .ok (.aload_n 0, 1) := by decide +kernel
theorem dX6_reweigh_320 : decode cX6_reweigh 320 = .ok (.getfield 60, 3) := by decide +kernel
theorem dX6_reweigh_323 : decode cX6_reweigh 323 = .ok (.iload 12, 2) := by decide +kernel
theorem dX6_reweigh_325 : decode cX6_reweigh 325 = .ok (.iaload, 1) := by decide +kernel
theorem dX6_reweigh_326 : decode cX6_reweigh 326 = .ok (.iload 9, 2) := by decide +kernel
theorem dX6_reweigh_328 : decode cX6_reweigh 328 = .ok (.if_icmp .ne 31, 3) := by decide +kernel
theorem dX6_reweigh_331 : decode cX6_reweigh 331 = .ok (.aload_n 0, 1) := by decide +kernel
theorem dX6_reweigh_332 : decode cX6_reweigh 332 = .ok (.getfield 63, 3) := by decide +kernel
theorem dX6_reweigh_335 : decode cX6_reweigh 335 = .ok (.iload 12, 2) := by decide +kernel
theorem dX6_reweigh_337 : decode cX6_reweigh 337 = .ok (.iaload, 1) := by decide +kernel
theorem dX6_reweigh_338 : decode cX6_reweigh 338 = .ok (.aload_n 0, 1) := by decide +kernel
theorem dX6_reweigh_339 : decode cX6_reweigh 339 = .ok (.getfield 54, 3) := by decide +kernel
theorem dX6_reweigh_342 : decode cX6_reweigh 342 = .ok (.iload_n 1, 1) := by decide +kernel
theorem dX6_reweigh_343 : decode cX6_reweigh 343 = .ok (.iaload, 1) := by decide +kernel
theorem dX6_reweigh_344 : decode cX6_reweigh 344 = .ok (.if_icmp .ne 15, 3) := by decide +kernel
theorem dX6_reweigh_347 : decode cX6_reweigh 347 = .ok (.aload_n 0, 1) := by decide +kernel
theorem dX6_reweigh_348 : decode cX6_reweigh 348 = .ok (.iload_n 1, 1) := by decide +kernel
theorem dX6_reweigh_349 : decode cX6_reweigh 349 = .ok (.iload 12, 2) := by decide +kernel
theorem dX6_reweigh_351 : decode cX6_reweigh 351 = .ok (.iload 10, 2) := by decide +kernel
theorem dX6_reweigh_353 : decode cX6_reweigh 353 = .ok (.invokevirtual 200, 3) := by decide +kernel
theorem dX6_reweigh_356 : decode cX6_reweigh 356 = .ok (.goto 5, 3) := by decide +kernel
theorem dX6_reweigh_359 : decode cX6_reweigh 359 = .ok (.iload 10, 2) := by decide +kernel
theorem dX6_reweigh_361 : decode cX6_reweigh 361 = .ok (.istore 10, 2) := by decide +kernel
theorem dX6_reweigh_363 : decode cX6_reweigh 363 = .ok (.iinc 12 1, 3) := by decide +kernel
theorem dX6_reweigh_366 : decode cX6_reweigh 366 = .ok (.goto (-65), 3) := by decide +kernel
theorem dX6_reweigh_369 : decode cX6_reweigh 369 = .ok (.aload_n 0, 1) := by decide +kernel
theorem dX6_reweigh_370 : decode cX6_reweigh 370 = .ok (.getfield 20, 3) := by decide +kernel
theorem dX6_reweigh_373 : decode cX6_reweigh 373 = .ok (.iload 9, 2) := by decide +kernel
theorem dX6_reweigh_375 : decode cX6_reweigh 375 = .ok (.dup2, 1) := by decide +kernel
theorem dX6_reweigh_376 : decode cX6_reweigh 376 = .ok (.iaload, 1) := by decide +kernel
theorem dX6_reweigh_377 : decode cX6_reweigh 377 = .ok (.iload 10, 2) := by decide +kernel
theorem dX6_reweigh_379 : decode cX6_reweigh 379 = .ok (.iadd, 1) := by decide +kernel
theorem dX6_reweigh_380 : decode cX6_reweigh 380 = .ok (.iastore, 1) := by decide +kernel
theorem dX6_reweigh_381 : decode cX6_reweigh 381 = .ok (.iload 8, 2) := by decide +kernel
theorem dX6_reweigh_383 : decode cX6_reweigh 383 = .ok (.ireturn, 1) := by decide +kernel
set_option maxRecDepth 20000 in
theorem ggX6_contract_X6_isHolder : GoodIn wsX6_contract wsX6_isHolder := goodIn_r _ [14, 15, 16, 13, 17] (by decide +kernel) (by decide +kernel)
set_option maxRecDepth 20000 in
theorem gX6_contract_X6_isHolder : GoodIn wsX6_contract (va_wsS RX6 163 yX6_isHolder wsX6_isHolder) := goodIn_app (goodIn_of _ (by decide +kernel)) ggX6_contract_X6_isHolder
set_option maxRecDepth 20000 in
theorem ggX6_contract_X6_isKind : GoodIn wsX6_contract wsX6_isKind := goodIn_r _ [20, 15, 16, 13, 17] (by decide +kernel) (by decide +kernel)
set_option maxRecDepth 20000 in
theorem gX6_contract_X6_isKind : GoodIn wsX6_contract (va_wsS RX6 166 yX6_isKind wsX6_isKind) := goodIn_app (goodIn_of _ (by decide +kernel)) ggX6_contract_X6_isKind
set_option maxRecDepth 20000 in
theorem ggX6_contract_X6_in : GoodIn wsX6_contract wsX6_in := goodIn_r _ [17] (by decide +kernel) (by decide +kernel)
set_option maxRecDepth 20000 in
theorem gX6_contract_X6_in : GoodIn wsX6_contract (va_wsS RX6 130 yX6_in wsX6_in) := goodIn_app (goodIn_of _ (by decide +kernel)) ggX6_contract_X6_in
set_option maxRecDepth 20000 in
theorem ggX6_contract_X6_goesWell : GoodIn wsX6_contract wsX6_goesWell := goodIn_r _ [24, 25, 26, 27, 28, 29, 30, 31, 32, 33, 34, 35, 36, 37, 38, 39, 40, 41, 42, 43, 44, 45, 46, 47, 48, 49, 50, 51, 52, 53, 54, 55, 56, 57, 58, 59, 60, 61, 62, 63, 64, 65, 66, 67, 68, 69, 70, 71] (by decide +kernel) (by decide +kernel)
set_option maxRecDepth 20000 in
theorem gX6_contract_X6_goesWell : GoodIn wsX6_contract (wsV RX6 141 RX6 yX6_goesWell wsX6_goesWell) := goodIn_app (goodIn_of _ (by decide +kernel)) ggX6_contract_X6_goesWell
theorem dX6_contract_0 : decode cX6_contract 0 = .ok (.iload_n 1, 1) := by decide +kernel
theorem dX6_contract_1 : decode cX6_contract 1 = .ok (.invokestatic 163, 3) := by decide +kernel
theorem dX6_contract_4 : decode cX6_contract 4 = .ok (.ifCond .eq 34, 3) := by decide +kernel
theorem dX6_contract_7 : decode cX6_contract 7 = .ok (.iload_n 2, 1) := by decide +kernel
theorem dX6_contract_8 : decode cX6_contract 8 = .ok (.invokestatic 163, 3) := by decide +kernel
theorem dX6_contract_11 : decode cX6_contract 11 = .ok (.ifCond .eq 27, 3) := by decide +kernel
theorem dX6_contract_14 : decode cX6_contract 14 = .ok (.iload_n 1, 1) := by decide +kernel
theorem dX6_contract_15 : decode cX6_contract 15 = .ok (.iload_n 2, 1) := by decide +kernel
theorem dX6_contract_16 : decode cX6_contract 16 = .ok (.if_icmp .eq 22, 3) := by decide +kernel
theorem dX6_contract_19 : decode cX6_contract 19 = .ok (.iload_n 3, 1) := by decide +kernel
theorem dX6_contract_20 : decode cX6_contract 20 = .ok (.invokestatic 166, 3) := by decide +kernel
theorem dX6_contract_23 : decode cX6_contract 23 = .ok (.ifCond .eq 15, 3) := by decide +kernel
theorem dX6_contract_26 : decode cX6_contract 26 = .ok (.iload 4, 2) := by decide +kernel
theorem dX6_contract_28 : decode cX6_contract 28 = .ok (.invokestatic 166, 3) := by decide +kernel
theorem dX6_contract_31 : decode cX6_contract 31 = .ok (.ifCond .eq 7, 3) := by decide +kernel
theorem dX6_contract_34 : decode cX6_contract 34 = .ok (.iconst 1, 1) := by decide +kernel
theorem dX6_contract_35 : decode cX6_contract 35 = .ok (.goto 4, 3) := by decide +kernel
theorem dX6_contract_38 : decode cX6_contract 38 = .ok (.iconst 0, 1) := by decide +kernel
theorem dX6_contract_39 : decode cX6_contract 39 = .ok (.istore 8, 2) := by decide +kernel
theorem dX6_contract_41 : decode cX6_contract 41 = .ok (.iload 8, 2) := by decide +kernel
theorem dX6_contract_43 : decode cX6_contract 43 = .ok (.ifCond .eq 41, 3) := by decide +kernel
theorem dX6_contract_46 : decode cX6_contract 46 = .ok (.iload 5, 2) := by decide +kernel
theorem dX6_contract_48 : decode cX6_contract 48 = .ok (.iconst 1, 1) := by decide +kernel
theorem dX6_contract_49 : decode cX6_contract 49 = .ok (.ldc 203, 2) := by decide +kernel
theorem dX6_contract_51 : decode cX6_contract 51 = .ok (.invokestatic 130, 3) := by decide +kernel
theorem dX6_contract_54 : decode cX6_contract 54 = .ok (.ifCond .eq 30, 3) := by decide +kernel
theorem dX6_contract_57 : decode cX6_contract 57 = .ok (.iload 6, 2) := by decide +kernel
theorem dX6_contract_59 : decode cX6_contract 59 = .ok (.iconst 1, 1) := by decide +kernel
theorem dX6_contract_60 : decode cX6_contract 60 = .ok (.bipush 100, 2) := by decide +kernel
theorem dX6_contract_62 : decode cX6_contract 62 = .ok (.invokestatic 130, 3) := by decide +kernel
theorem dX6_contract_65 : decode cX6_contract 65 = .ok (.ifCond .eq 19, 3) := by decide +kernel
theorem dX6_contract_68 : decode cX6_contract 68 = .ok (.iload 7, 2) := by decide +kernel
theorem dX6_contract_70 : decode cX6_contract 70 = .ok (.iconst 0, 1) := by decide +kernel
theorem dX6_contract_71 : decode cX6_contract 71 = .ok (.sipush 1000, 3) := by decide +kernel
theorem dX6_contract_74 : decode cX6_contract 74 = .ok (.invokestatic 130, 3) := by decide +kernel
theorem dX6_contract_77 : decode cX6_contract 77 = .ok (.ifCond .eq 7, 3) := by decide +kernel
theorem dX6_contract_80 : decode cX6_contract 80 = .ok (.iconst 1, 1) := by decide +kernel
theorem dX6_contract_81 : decode cX6_contract 81 = .ok (.goto 4, 3) := by decide +kernel
theorem dX6_contract_84 : decode cX6_contract 84 = .ok (.iconst 0, 1) := by decide +kernel
theorem dX6_contract_85 : decode cX6_contract 85 = .ok (.istore 8, 2) := by decide +kernel
theorem dX6_contract_87 : decode cX6_contract 87 = .ok (.aload_n 0, 1) := by decide +kernel
theorem dX6_contract_88 : decode cX6_contract 88 = .ok (.iload 8, 2) := by decide +kernel
theorem dX6_contract_90 : decode cX6_contract 90 = .ok (.ifCond .ne 7, 3) := by decide +kernel
theorem dX6_contract_93 : decode cX6_contract 93 = .ok (.iconst 1, 1) := by decide +kernel
theorem dX6_contract_94 : decode cX6_contract 94 = .ok (.goto 17, 3) := by decide +kernel
theorem dX6_contract_97 : decode cX6_contract 97 = .ok (.aload_n 0, 1) := by decide +kernel
theorem dX6_contract_98 : decode cX6_contract 98 = .ok (.getfield 204, 3) := by decide +kernel
theorem dX6_contract_101 : decode cX6_contract 101 = .ok (.bipush 30, 2) := by decide +kernel
theorem dX6_contract_103 : decode cX6_contract 103 = .ok (.if_icmp .ne 7, 3) := by decide +kernel
theorem dX6_contract_106 : decode cX6_contract 106 = .ok (.iconst 2, 1) := by decide +kernel
theorem dX6_contract_107 : decode cX6_contract 107 = .ok (.goto 4, 3) := by decide +kernel
theorem dX6_contract_110 : decode cX6_contract 110 = .ok (.iconst 0, 1) := by decide +kernel
theorem dX6_contract_111 : decode cX6_contract 111 = .ok (.invokevirtual 141, 3) := by decide +kernel
theorem dX6_contract_114 : decode cX6_contract 114 = .ok (.ifCond .ne 5, 3) := by decide +kernel
theorem dX6_contract_117 : decode cX6_contract 117 = .ok (.iconst 0, 1) := by decide +kernel
theorem dX6_contract_118 : decode cX6_contract 118 = .ok (.ireturn, 1) := by decide +kernel
theorem dX6_contract_119 : decode cX6_contract 119 = .ok (.aload_n 0, 1) := by decide +kernel
theorem dX6_contract_120 : decode cX6_contract 120 = .ok (.getfield 90, 3) := by decide +kernel
theorem dX6_contract_123 : decode cX6_contract 123 = .ok (.aload_n 0, 1) := by decide +kernel
theorem dX6_contract_124 : decode cX6_contract 124 = .ok (.getfield 204, 3) := by decide +kernel
theorem dX6_contract_127 : decode cX6_contract 127 = .ok (.iload_n 1, 1) := by decide +kernel
theorem dX6_contract_128 : decode cX6_contract 128 = .ok (.iastore, 1) := by decide +kernel
theorem dX6_contract_129 : decode cX6_contract 129 = .ok (.aload_n 0, 1) := by decide +kernel
theorem dX6_contract_130 : decode cX6_contract 130 = .ok (.getfield 93, 3) := by decide +kernel
theorem dX6_contract_133 : decode cX6_contract 133 = .ok (.aload_n 0, 1) := by decide +kernel
theorem dX6_contract_134 : decode cX6_contract 134 = .ok (.getfield 204, 3) := by decide +kernel
theorem dX6_contract_137 : decode cX6_contract 137 = .ok (.iload_n 2, 1) := by decide +kernel
theorem dX6_contract_138 : decode cX6_contract 138 = .ok (.iastore, 1) := by decide +kernel
theorem dX6_contract_139 : decode cX6_contract 139 = .ok (.aload_n 0, 1) := by decide +kernel
theorem dX6_contract_140 : decode cX6_contract 140 = .ok (.getfield 96, 3) := by decide +kernel
theorem dX6_contract_143 : decode cX6_contract 143 = .ok (.aload_n 0, 1) := by decide +kernel
theorem dX6_contract_144 : decode cX6_contract 144 = .ok (.getfield 204, 3) := by decide +kernel
theorem dX6_contract_147 : decode cX6_contract 147 = .ok (.iload_n 3, 1) := by decide +kernel
theorem dX6_contract_148 : decode cX6_contract 148 = .ok (.iastore, 1) := by decide +kernel
theorem dX6_contract_149 : decode cX6_contract 149 = .ok (.aload_n 0, 1) := by decide +kernel
theorem dX6_contract_150 : decode cX6_contract 150 = .ok (.getfield 99, 3) := by decide +kernel
theorem dX6_contract_153 : decode cX6_contract 153 = .ok (.aload_n 0, 1) := by decide +kernel
theorem dX6_contract_154 : decode cX6_contract 154 = .ok (.getfield 204, 3) := by decide +kernel
theorem dX6_contract_157 : decode cX6_contract 157 = .ok (.iload 4, 2) := by decide +kernel
theorem dX6_contract_159 : decode cX6_contract 159 = .ok (.iastore, 1) := by decide +kernel
theorem dX6_contract_160 : decode cX6_contract 160 = .ok (.aload_n 0, 1) := by decide +kernel
theorem dX6_contract_161 : decode cX6_contract 161 = .ok (.getfield 102, 3) := by decide +kernel
theorem dX6_contract_164 : decode cX6_contract 164 = .ok (.aload_n 0, 1) := by decide +kernel
theorem dX6_contract_165 : decode cX6_contract 165 = .ok (.getfield 204, 3) := by decide +kernel
theorem dX6_contract_168 : decode cX6_contract 168 = .ok (.iload 5, 2) := by decide +kernel
theorem dX6_contract_170 : decode cX6_contract 170 = .ok (.iastore, 1) := by decide +kernel
theorem dX6_contract_171 : decode cX6_contract 171 = .ok (.aload_n 0, 1) := by decide +kernel
theorem dX6_contract_172 : decode cX6_contract 172 = .ok (.getfield 105, 3) := by decide +kernel
theorem dX6_contract_175 : decode cX6_contract 175 = .ok (.aload_n 0, 1) := by decide +kernel
theorem dX6_contract_176 : decode cX6_contract 176 = .ok (.getfield 204, 3) := by decide +kernel
theorem dX6_contract_179 : decode cX6_contract 179 = .ok (.aload_n 0, 1) := by decide +kernel
theorem dX6_contract_180 : decode cX6_contract 180 = .ok (.getfield 156, 3) := by decide +kernel
theorem dX6_contract_183 : decode cX6_contract 183 = .ok (.iload 6, 2) := by decide +kernel
theorem dX6_contract_185 : decode cX6_contract 185 = .ok (.iadd, 1) := by decide +kernel
theorem dX6_contract_186 : decode cX6_contract 186 = .ok (.iastore, 1) := by decide +kernel
theorem dX6_contract_187 : decode cX6_contract 187 = .ok (.aload_n 0, 1) := by decide +kernel
theorem dX6_contract_188 : decode cX6_contract 188 = .ok (.getfield 108, 3) := by decide +kernel
theorem dX6_contract_191 : decode cX6_contract 191 = .ok (.aload_n 0, 1) := by decide +kernel
theorem dX6_contract_192 : decode cX6_contract 192 = .ok (.getfield 204, 3) := by decide +kernel
theorem dX6_contract_195 : decode cX6_contract 195 = .ok (.iload 7, 2) := by decide +kernel
theorem dX6_contract_197 : decode cX6_contract 197 = .ok (.iastore, 1) := by decide +kernel
theorem dX6_contract_198 : decode cX6_contract 198 = .ok (.aload_n 0, 1) := by decide +kernel
theorem dX6_contract_199 : decode cX6_contract 199 = .ok (.dup, 1) := by decide +kernel
theorem dX6_contract_200 : decode cX6_contract 200 = .ok (.getfield 204, 3) := by decide +kernel
theorem dX6_contract_203 : decode cX6_contract 203 = .ok (.iconst 1, 1) := by decide +kernel
theorem dX6_contract_204 : decode cX6_contract 204 = .ok (.iadd, 1) := by decide +kernel
theorem dX6_contract_205 : decode cX6_contract 205 = .ok (.putfield 204, 3) := by decide +kernel
theorem dX6_contract_208 : decode cX6_contract 208 = .ok (.aload_n 0, 1) := by decide +kernel
theorem dX6_contract_209 : decode cX6_contract 209 = .ok (.getfield 204, 3) := by decide +kernel
theorem dX6_contract_212 : decode cX6_contract 212 = .ok (.iconst 1, 1) := by decide +kernel
theorem dX6_contract_213 : decode cX6_contract 213 = .ok (.isub, 1) := by decide +kernel
theorem dX6_contract_214 : decode cX6_contract 214 = .ok (.ireturn, 1) := by decide +kernel
set_option maxRecDepth 20000 in
theorem ggX6_shrink_X6_lose : GoodIn wsX6_shrink wsX6_lose := goodIn_r _ [14, 6, 1, 5, 15, 16, 17, 18, 19, 20, 21, 22, 23, 24, 25, 26, 27, 28, 29, 30, 31, 32, 33, 34, 35, 36, 37, 38, 39, 40, 41, 42, 43, 44, 45, 46, 47, 48, 49, 50, 51, 52, 53, 54, 55, 56, 57, 58, 59, 60, 61] (by decide +kernel) (by decide +kernel)
set_option maxRecDepth 20000 in
theorem gX6_shrink_X6_lose : GoodIn wsX6_shrink (wsV RX6 196 RX6 yX6_lose wsX6_lose) := goodIn_app (goodIn_of _ (by decide +kernel)) ggX6_shrink_X6_lose
theorem dX6_shrink_0 : decode cX6_shrink 0 = .ok (.aload_n 0, 1) := by decide +kernel
theorem dX6_shrink_1 : decode cX6_shrink 1 = .ok (.getfield 27, 3) := by decide +kernel
theorem dX6_shrink_4 : decode cX6_shrink 4 = .ok (.iload_n 1, 1) := by decide +kernel
theorem dX6_shrink_5 : decode cX6_shrink 5 = .ok (.iaload, 1) := by decide +kernel
theorem dX6_shrink_6 : decode cX6_shrink 6 = .ok (.istore_n 2, 1) := by decide +kernel
theorem dX6_shrink_7 : decode cX6_shrink 7 = .ok (.iload_n 2, 1) := by decide +kernel
theorem dX6_shrink_8 : decode cX6_shrink 8 = .ok (.i2l, 1) := by decide +kernel
theorem dX6_shrink_9 : decode cX6_shrink 9 = .ok (.aload_n 0, 1) := by decide +kernel
theorem dX6_shrink_10 : decode cX6_shrink 10 = .ok (.getfield 145, 3) := by decide +kernel
theorem dX6_shrink_13 : decode cX6_shrink 13 = .ok (.i2l, 1) := by decide +kernel
theorem dX6_shrink_14 : decode cX6_shrink 14 = .ok (.lmul, 1) := by decide +kernel
theorem dX6_shrink_15 : decode cX6_shrink 15 = .ok (.ldc2_w 207, 3) := by decide +kernel
theorem dX6_shrink_18 : decode cX6_shrink 18 = .ok (.ldiv, 1) := by decide +kernel
theorem dX6_shrink_19 : decode cX6_shrink 19 = .ok (.l2i, 1) := by decide +kernel
theorem dX6_shrink_20 : decode cX6_shrink 20 = .ok (.istore_n 3, 1) := by decide +kernel
theorem dX6_shrink_21 : decode cX6_shrink 21 = .ok (.iload_n 3, 1) := by decide +kernel
theorem dX6_shrink_22 : decode cX6_shrink 22 = .ok (.istore 4, 2) := by decide +kernel
theorem dX6_shrink_24 : decode cX6_shrink 24 = .ok (.iconst 0, 1) := by decide +kernel
theorem dX6_shrink_25 : decode cX6_shrink 25 = .ok (.istore 5, 2) := by decide +kernel
theorem dX6_shrink_27 : decode cX6_shrink 27 = .ok (.iload 5, 2) := by decide +kernel
theorem dX6_shrink_29 : decode cX6_shrink 29 = .ok (.aload_n 0, 1) := by decide +kernel
theorem dX6_shrink_30 : decode cX6_shrink 30 = .ok (.getfield 134, 3) := by decide +kernel
theorem dX6_shrink_33 : decode cX6_shrink 33 = .ok (.if_icmp .ge 115, 3) := by decide +kernel
theorem dX6_shrink_36 : decode cX6_shrink 36 = .ok (.aload_n 0, 1) := by decide +kernel
theorem dX6_shrink_37 : decode cX6_shrink 37 = .ok (.getfield 63, 3) := by decide +kernel
theorem dX6_shrink_40 : decode cX6_shrink 40 = .ok (.iload 5, 2) := by decide +kernel
theorem dX6_shrink_42 : decode cX6_shrink 42 = .ok (.iaload, 1) := by decide +kernel
theorem dX6_shrink_43 : decode cX6_shrink 43 = .ok (.iload_n 1, 1) := by decide +kernel
theorem dX6_shrink_44 : decode cX6_shrink 44 = .ok (.if_icmp .ne 17, 3) := by decide +kernel
theorem dX6_shrink_47 : decode cX6_shrink 47 = .ok (.aload_n 0, 1) := by decide +kernel
theorem dX6_shrink_48 : decode cX6_shrink 48 = .ok (.getfield 57, 3) := by decide +kernel
theorem dX6_shrink_51 : decode cX6_shrink 51 = .ok (.iload 5, 2) := by decide +kernel
theorem dX6_shrink_53 : decode cX6_shrink 53 = .ok (.iaload, 1) := by decide +kernel
theorem dX6_shrink_54 : decode cX6_shrink 54 = .ok (.ifCond .le 7, 3) := by decide +kernel
theorem dX6_shrink_57 : decode cX6_shrink 57 = .ok (.iconst 1, 1) := by decide +kernel
theorem dX6_shrink_58 : decode cX6_shrink 58 = .ok (.goto 4, 3) := by decide +kernel
theorem dX6_shrink_61 : decode cX6_shrink 61 = .ok (.iconst 0, 1) := by decide +kernel
theorem dX6_shrink_62 : decode cX6_shrink 62 = .ok (.istore 6, 2) := by decide +kernel
theorem dX6_shrink_64 : decode cX6_shrink 64 = .ok (.iload 6, 2) := by decide +kernel
theorem dX6_shrink_66 : decode cX6_shrink 66 = .ok (.ifCond .eq 17, 3) := by decide +kernel
theorem dX6_shrink_69 : decode cX6_shrink 69 = .ok (.iload_n 3, 1) := by decide +kernel
theorem dX6_shrink_70 : decode cX6_shrink 70 = .ok (.i2l, 1) := by decide +kernel
theorem dX6_shrink_71 : decode cX6_shrink 71 = .ok (.aload_n 0, 1) := by decide +kernel
theorem dX6_shrink_72 : decode cX6_shrink 72 = .ok (.getfield 57, 3) := by decide +kernel
theorem dX6_shrink_75 : decode cX6_shrink 75 = .ok (.iload 5, 2) := by decide +kernel
theorem dX6_shrink_77 : decode cX6_shrink 77 = .ok (.iaload, 1) := by decide +kernel
theorem dX6_shrink_78 : decode cX6_shrink 78 = .ok (.i2l, 1) := by decide +kernel
theorem dX6_shrink_79 : decode cX6_shrink 79 = .ok (.lmul, 1) := by decide +kernel
theorem dX6_shrink_80 : decode cX6_shrink 80 = .ok (.goto 4, 3) := by decide +kernel
theorem dX6_shrink_83 : decode cX6_shrink 83 = .ok (.lconst 0, 1) := by decide +kernel
theorem dX6_shrink_84 : decode cX6_shrink 84 = .ok (.lstore 7, 2) := by decide +kernel
theorem dX6_shrink_86 : decode cX6_shrink 86 = .ok (.aload_n 0, 1) := by decide +kernel
theorem dX6_shrink_87 : decode cX6_shrink 87 = .ok (.getfield 121, 3) := by decide +kernel
theorem dX6_shrink_90 : decode cX6_shrink 90 = .ok (.iload 5, 2) := by decide +kernel
theorem dX6_shrink_92 : decode cX6_shrink 92 = .ok (.iload 6, 2) := by decide +kernel
theorem dX6_shrink_94 : decode cX6_shrink 94 = .ok (.ifCond .eq 12, 3) := by decide +kernel
theorem dX6_shrink_97 : decode cX6_shrink 97 = .ok (.lload 7, 2) := by decide +kernel
theorem dX6_shrink_99 : decode cX6_shrink 99 = .ok (.iload_n 2, 1) := by decide +kernel
theorem dX6_shrink_100 : decode cX6_shrink 100 = .ok (.i2l, 1) := by decide +kernel
theorem dX6_shrink_101 : decode cX6_shrink 101 = .ok (.ldiv, 1) := by decide +kernel
theorem dX6_shrink_102 : decode cX6_shrink 102 = .ok (.l2i, 1) := by decide +kernel
theorem dX6_shrink_103 : decode cX6_shrink 103 = .ok (.goto 4, 3) := by decide +kernel
theorem dX6_shrink_106 : decode cX6_shrink 106 = .ok (.iconst 0, 1) := by decide +kernel
theorem dX6_shrink_107 : decode cX6_shrink 107 = .ok (.iastore, 1) := by decide +kernel
theorem dX6_shrink_108 : decode cX6_shrink 108 = .ok (.aload_n 0, 1) := by decide +kernel
theorem dX6_shrink_109 : decode cX6_shrink 109 = .ok (.getfield 124, 3) := by decide +kernel
theorem dX6_shrink_112 : decode cX6_shrink 112 = .ok (.iload 5, 2) := by decide +kernel
theorem dX6_shrink_114 : decode cX6_shrink 114 = .ok (.iload 6, 2) := by decide +kernel
theorem dX6_shrink_116 : decode cX6_shrink 116 = .ok (.ifCond .eq 12, 3) := by decide +kernel
theorem dX6_shrink_119 : decode cX6_shrink 119 = .ok (.lload 7, 2) := by decide +kernel
theorem dX6_shrink_121 : decode cX6_shrink 121 = .ok (.iload_n 2, 1) := by decide +kernel
theorem dX6_shrink_122 : decode cX6_shrink 122 = .ok (.i2l, 1) := by decide +kernel
theorem dX6_shrink_123 : decode cX6_shrink 123 = .ok (.lrem, 1) := by decide +kernel
theorem dX6_shrink_124 : decode cX6_shrink 124 = .ok (.l2i, 1) := by decide +kernel
theorem dX6_shrink_125 : decode cX6_shrink 125 = .ok (.goto 4, 3) := by decide +kernel
theorem dX6_shrink_128 : decode cX6_shrink 128 = .ok (.iconst (-1), 1) := by decide +kernel
theorem dX6_shrink_129 : decode cX6_shrink 129 = .ok (.iastore, 1) := by decide +kernel
theorem dX6_shrink_130 : decode cX6_shrink 130 = .ok (.iload 4, 2) := by decide +kernel
theorem dX6_shrink_132 : decode cX6_shrink 132 = .ok (.aload_n 0, 1) := by decide +kernel
theorem dX6_shrink_133 : decode cX6_shrink 133 = .ok (.getfield 121, 3) := by decide +kernel
theorem dX6_shrink_136 : decode cX6_shrink 136 = .ok (.iload 5, 2) := by decide +kernel
theorem dX6_shrink_138 : decode cX6_shrink 138 = .ok (.iaload, 1) := by decide +kernel
theorem dX6_shrink_139 : decode cX6_shrink 139 = .ok (.isub, 1) := by decide +kernel
theorem dX6_shrink_140 : decode cX6_shrink 140 = .ok (.istore 4, 2) := by decide +kernel
theorem dX6_shrink_142 : decode cX6_shrink 142 = .ok (.iinc 5 1, 3) := by decide +kernel
theorem dX6_shrink_145 : decode cX6_shrink 145 = .ok (.goto (-118), 3) := by decide +kernel
theorem dX6_shrink_148 : decode cX6_shrink 148 = .ok (.iload 4, 2) := by decide +kernel
theorem dX6_shrink_150 : decode cX6_shrink 150 = .ok (.ifCond .le 75, 3) := by decide +kernel
theorem dX6_shrink_153 : decode cX6_shrink 153 = .ok (.iconst 0, 1) := by decide +kernel
theorem dX6_shrink_154 : decode cX6_shrink 154 = .ok (.istore 5, 2) := by decide +kernel
theorem dX6_shrink_156 : decode cX6_shrink 156 = .ok (.iconst 1, 1) := by decide +kernel
theorem dX6_shrink_157 : decode cX6_shrink 157 = .ok (.istore 6, 2) := by decide +kernel
theorem dX6_shrink_159 : decode cX6_shrink 159 = .ok (.iload 6, 2) := by decide +kernel
theorem dX6_shrink_161 : decode cX6_shrink 161 = .ok (.aload_n 0, 1) := by decide +kernel
theorem dX6_shrink_162 : decode cX6_shrink 162 = .ok (.getfield 134, 3) := by decide +kernel
theorem dX6_shrink_165 : decode cX6_shrink 165 = .ok (.if_icmp .ge 35, 3) := by decide +kernel
theorem dX6_shrink_168 : decode cX6_shrink 168 = .ok (.aload_n 0, 1) := by decide +kernel
theorem dX6_shrink_169 : decode cX6_shrink 169 = .ok (.getfield 124, 3) := by decide +kernel
theorem dX6_shrink_172 : decode cX6_shrink 172 = .ok (.iload 6, 2) := by decide +kernel
theorem dX6_shrink_174 : decode cX6_shrink 174 = .ok (.iaload, 1) := by decide +kernel
theorem dX6_shrink_175 : decode cX6_shrink 175 = .ok (.aload_n 0, 1) := by decide +kernel
theorem dX6_shrink_176 : decode cX6_shrink 176 = .ok (.getfield 124, 3) := by decide +kernel
theorem dX6_shrink_179 : decode cX6_shrink 179 = .ok (.iload 5, 2) := by decide +kernel
theorem dX6_shrink_181 : decode cX6_shrink 181 = .ok (.iaload, 1) := by decide +kernel
theorem dX6_shrink_182 : decode cX6_shrink 182 = .ok (.if_icmp .le 8, 3) := by decide +kernel
theorem dX6_shrink_185 : decode cX6_shrink 185 = .ok (.iload 6, 2) := by decide +kernel
theorem dX6_shrink_187 : decode cX6_shrink 187 = .ok (.goto 5, 3) := by decide +kernel
theorem dX6_shrink_190 : decode cX6_shrink 190 = .ok (.iload 5, 2) := by decide +kernel
theorem dX6_shrink_192 : decode cX6_shrink 192 = .ok (.istore 5, 2) := by decide +kernel
theorem dX6_shrink_194 : decode cX6_shrink 194 = .ok (.iinc 6 1, 3) := by decide +kernel
theorem dX6_shrink_197 : decode cX6_shrink 197 = .ok (.goto (-38), 3) := by decide +kernel
theorem dX6_shrink_200 : decode cX6_shrink 200 = .ok (.aload_n 0, 1) := by decide +kernel
theorem dX6_shrink_201 : decode cX6_shrink 201 = .ok (.getfield 121, 3) := by decide +kernel
theorem dX6_shrink_204 : decode cX6_shrink 204 = .ok (.iload 5, 2) := by decide +kernel
theorem dX6_shrink_206 : decode cX6_shrink 206 = .ok (.dup2, 1) := by decide +kernel
theorem dX6_shrink_207 : decode cX6_shrink 207 = .ok (.iaload, 1) := by decide +kernel
theorem dX6_shrink_208 : decode cX6_shrink 208 = .ok (.iconst 1, 1) := by decide +kernel
theorem dX6_shrink_209 : decode cX6_shrink 209 = .ok (.iadd, 1) := by decide +kernel
theorem dX6_shrink_210 : decode cX6_shrink 210 = .ok (.iastore, 1) := by decide +kernel
theorem dX6_shrink_211 : decode cX6_shrink 211 = .ok (.aload_n 0, 1) := by decide +kernel
theorem dX6_shrink_212 : decode cX6_shrink 212 = .ok (.getfield 124, 3) := by decide +kernel
theorem dX6_shrink_215 : decode cX6_shrink 215 = .ok (.iload 5, 2) := by decide +kernel
theorem dX6_shrink_217 : decode cX6_shrink 217 = .ok (.iconst (-1), 1) := by decide +kernel
theorem dX6_shrink_218 : decode cX6_shrink 218 = .ok (.iastore, 1) := by decide +kernel
theorem dX6_shrink_219 : decode cX6_shrink 219 = .ok (.iinc 4 (-1), 3) := by decide +kernel
theorem dX6_shrink_222 : decode cX6_shrink 222 = .ok (.goto (-74), 3) := by decide +kernel
theorem dX6_shrink_225 : decode cX6_shrink 225 = .ok (.iconst 0, 1) := by decide +kernel
theorem dX6_shrink_226 : decode cX6_shrink 226 = .ok (.istore 5, 2) := by decide +kernel
theorem dX6_shrink_228 : decode cX6_shrink 228 = .ok (.iload 5, 2) := by decide +kernel
theorem dX6_shrink_230 : decode cX6_shrink 230 = .ok (.aload_n 0, 1) := by decide +kernel
theorem dX6_shrink_231 : decode cX6_shrink 231 = .ok (.getfield 134, 3) := by decide +kernel
theorem dX6_shrink_234 : decode cX6_shrink 234 = .ok (.if_icmp .ge 37, 3) := by decide +kernel
theorem dX6_shrink_237 : decode cX6_shrink 237 = .ok (.iload_n 3, 1) := by decide +kernel
theorem dX6_shrink_238 : decode cX6_shrink 238 = .ok (.ifCond .le 33, 3) := by decide +kernel
theorem dX6_shrink_241 : decode cX6_shrink 241 = .ok (.aload_n 0, 1) := by decide +kernel
theorem dX6_shrink_242 : decode cX6_shrink 242 = .ok (.getfield 121, 3) := by decide +kernel
theorem dX6_shrink_245 : decode cX6_shrink 245 = .ok (.iload 5, 2) := by decide +kernel
theorem dX6_shrink_247 : decode cX6_shrink 247 = .ok (.iaload, 1) := by decide +kernel
theorem dX6_shrink_248 : decode cX6_shrink 248 = .ok (.ifCond .le 17, 3) := by decide +kernel
theorem dX6_shrink_251 : decode cX6_shrink 251 = .ok (.aload_n 0, 1) := by decide +kernel
theorem dX6_shrink_252 : decode cX6_shrink 252 = .ok (.iload 5, 2) := by decide +kernel
theorem dX6_shrink_254 : decode cX6_shrink 254 = .ok (.aload_n 0, 1) := by decide +kernel
theorem dX6_shrink_255 : decode cX6_shrink 255 = .ok (.getfield 121, 3) := by decide +kernel
theorem dX6_shrink_258 : decode cX6_shrink 258 = .ok (.iload 5, 2) := by decide +kernel
theorem dX6_shrink_260 : decode cX6_shrink 260 = .ok (.iaload, 1) := by decide +kernel
theorem dX6_shrink_261 : decode cX6_shrink 261 = .ok (.iconst 1, 1) := by decide +kernel
theorem dX6_shrink_262 : decode cX6_shrink 262 = .ok (.invokevirtual 196, 3) := by decide +kernel
theorem dX6_shrink_265 : decode cX6_shrink 265 = .ok (.iinc 5 1, 3) := by decide +kernel
theorem dX6_shrink_268 : decode cX6_shrink 268 = .ok (.goto (-40), 3) := by decide +kernel
theorem dX6_shrink_271 : decode cX6_shrink 271 = .ok (.aload_n 0, 1) := by decide +kernel
theorem dX6_shrink_272 : decode cX6_shrink 272 = .ok (.getfield 36, 3) := by decide +kernel
theorem dX6_shrink_275 : decode cX6_shrink 275 = .ok (.iload_n 1, 1) := by decide +kernel
theorem dX6_shrink_276 : decode cX6_shrink 276 = .ok (.dup2, 1) := by decide +kernel
theorem dX6_shrink_277 : decode cX6_shrink 277 = .ok (.iaload, 1) := by decide +kernel
theorem dX6_shrink_278 : decode cX6_shrink 278 = .ok (.iload_n 3, 1) := by decide +kernel
theorem dX6_shrink_279 : decode cX6_shrink 279 = .ok (.iadd, 1) := by decide +kernel
theorem dX6_shrink_280 : decode cX6_shrink 280 = .ok (.iastore, 1) := by decide +kernel
theorem dX6_shrink_281 : decode cX6_shrink 281 = .ok (.return_, 1) := by decide +kernel
set_option maxRecDepth 20000 in
theorem ggX6_settle_X6_isOf : GoodIn wsX6_settle wsX6_isOf := goodIn_r _ [21, 22, 23, 24, 48, 49, 50, 51, 52, 53, 54, 55, 56, 57, 58, 59, 60, 61, 62, 63, 64, 65, 66, 67, 68, 69, 70, 71, 72, 73, 74, 75, 76, 77, 78, 79, 80, 81, 82, 83, 84, 85, 86, 87, 88, 89, 90, 91, 92, 93] (by decide +kernel) (by decide +kernel)
set_option maxRecDepth 20000 in
theorem gX6_settle_X6_isOf : GoodIn wsX6_settle (wsV RX6 150 RX6 yX6_isOf wsX6_isOf) := goodIn_app (goodIn_of _ (by decide +kernel)) ggX6_settle_X6_isOf
set_option maxRecDepth 20000 in
theorem ggX6_settle_X6_splitOff : GoodIn wsX6_settle wsX6_splitOff := goodIn_r _ [28, 4, 5, 8, 29, 12, 30, 31, 32, 20, 33, 1, 7, 34, 35, 36, 37, 38, 39, 40, 41, 42, 48, 49, 50, 51, 52, 53, 54, 55, 56, 57, 58, 59, 60, 61, 62, 63, 64, 65, 66, 67, 68, 69, 70, 71, 72, 73, 74, 75, 76, 77, 78, 79, 80, 81, 82, 83, 84, 85, 86, 87, 88, 89, 90, 91, 92, 93] (by decide +kernel) (by decide +kernel)
set_option maxRecDepth 20000 in
theorem gX6_settle_X6_splitOff : GoodIn wsX6_settle (wsV RX6 188 RX6 yX6_splitOff wsX6_splitOff) := goodIn_app (goodIn_of _ (by decide +kernel)) ggX6_settle_X6_splitOff
set_option maxRecDepth 20000 in
theorem ggX6_settle_X6_become : GoodIn wsX6_settle wsX6_become := goodIn_r _ [37, 5, 12, 38, 39, 40, 41, 42, 48, 49, 50, 51, 52, 53, 54, 55, 56, 57, 58, 59, 60, 61, 62, 63, 64, 65, 66, 67, 68, 69, 70, 71, 72, 73, 74, 75, 76, 77, 78, 79, 80, 81, 82, 83, 84, 85, 86, 87, 88, 89, 90, 91, 92, 93] (by decide +kernel) (by decide +kernel)
set_option maxRecDepth 20000 in
theorem gX6_settle_X6_become : GoodIn wsX6_settle (wsV RX6 159 RX6 yX6_become wsX6_become) := goodIn_app (goodIn_of _ (by decide +kernel)) ggX6_settle_X6_become
set_option maxRecDepth 20000 in
theorem ggX6_settle_X6_pay : GoodIn wsX6_settle wsX6_pay := goodIn_r _ [46, 47, 48, 49, 50, 51, 52, 53, 54, 55, 56, 57, 58, 59, 60, 61, 62, 63, 64, 65, 66, 67, 68, 69, 70, 71, 72, 73, 74, 75, 76, 77, 78, 79, 80, 81, 82, 83, 84, 85, 86, 87, 88, 89, 90, 91, 92, 93] (by decide +kernel) (by decide +kernel)
set_option maxRecDepth 20000 in
theorem gX6_settle_X6_pay : GoodIn wsX6_settle (wsV RX6 192 RX6 yX6_pay wsX6_pay) := goodIn_app (goodIn_of _ (by decide +kernel)) ggX6_settle_X6_pay
theorem dX6_settle_0 : decode cX6_settle 0 = .ok (.aload_n 0, 1) := by decide +kernel
theorem dX6_settle_1 : decode cX6_settle 1 = .ok (.getfield 134, 3) := by decide +kernel
theorem dX6_settle_4 : decode cX6_settle 4 = .ok (.istore_n 2, 1) := by decide +kernel
theorem dX6_settle_5 : decode cX6_settle 5 = .ok (.iconst 0, 1) := by decide +kernel
theorem dX6_settle_6 : decode cX6_settle 6 = .ok (.istore_n 3, 1) := by decide +kernel
theorem dX6_settle_7 : decode cX6_settle 7 = .ok (.iconst 0, 1) := by decide +kernel
theorem dX6_settle_8 : decode cX6_settle 8 = .ok (.istore 4, 2) := by decide +kernel
theorem dX6_settle_10 : decode cX6_settle 10 = .ok (.iload 4, 2) := by decide +kernel
theorem dX6_settle_12 : decode cX6_settle 12 = .ok (.iload_n 2, 1) := by decide +kernel
theorem dX6_settle_13 : decode cX6_settle 13 = .ok (.if_icmp .ge 212, 3) := by decide +kernel
theorem dX6_settle_16 : decode cX6_settle 16 = .ok (.iload_n 3, 1) := by decide +kernel
theorem dX6_settle_17 : decode cX6_settle 17 = .ok (.ifCond .ne 208, 3) := by decide +kernel
theorem dX6_settle_20 : decode cX6_settle 20 = .ok (.aload_n 0, 1) := by decide +kernel
theorem dX6_settle_21 : decode cX6_settle 21 = .ok (.getfield 102, 3) := by decide +kernel
theorem dX6_settle_24 : decode cX6_settle 24 = .ok (.iload_n 1, 1) := by decide +kernel
theorem dX6_settle_25 : decode cX6_settle 25 = .ok (.iaload, 1) := by decide +kernel
theorem dX6_settle_26 : decode cX6_settle 26 = .ok (.aload_n 0, 1) := by decide +kernel
theorem dX6_settle_27 : decode cX6_settle 27 = .ok (.getfield 115, 3) := by decide +kernel
theorem dX6_settle_30 : decode cX6_settle 30 = .ok (.iload_n 1, 1) := by decide +kernel
theorem dX6_settle_31 : decode cX6_settle 31 = .ok (.iaload, 1) := by decide +kernel
theorem dX6_settle_32 : decode cX6_settle 32 = .ok (.isub, 1) := by decide +kernel
theorem dX6_settle_33 : decode cX6_settle 33 = .ok (.istore 5, 2) := by decide +kernel
theorem dX6_settle_35 : decode cX6_settle 35 = .ok (.aload_n 0, 1) := by decide +kernel
theorem dX6_settle_36 : decode cX6_settle 36 = .ok (.getfield 57, 3) := by decide +kernel
theorem dX6_settle_39 : decode cX6_settle 39 = .ok (.iload 4, 2) := by decide +kernel
theorem dX6_settle_41 : decode cX6_settle 41 = .ok (.iaload, 1) := by decide +kernel
theorem dX6_settle_42 : decode cX6_settle 42 = .ok (.ifCond .le 65, 3) := by decide +kernel
theorem dX6_settle_45 : decode cX6_settle 45 = .ok (.aload_n 0, 1) := by decide +kernel
theorem dX6_settle_46 : decode cX6_settle 46 = .ok (.getfield 60, 3) := by decide +kernel
theorem dX6_settle_49 : decode cX6_settle 49 = .ok (.iload 4, 2) := by decide +kernel
theorem dX6_settle_51 : decode cX6_settle 51 = .ok (.iaload, 1) := by decide +kernel
theorem dX6_settle_52 : decode cX6_settle 52 = .ok (.aload_n 0, 1) := by decide +kernel
theorem dX6_settle_53 : decode cX6_settle 53 = .ok (.getfield 90, 3) := by decide +kernel
theorem dX6_settle_56 : decode cX6_settle 56 = .ok (.iload_n 1, 1) := by decide +kernel
theorem dX6_settle_57 : decode cX6_settle 57 = .ok (.iaload, 1) := by decide +kernel
theorem dX6_settle_58 : decode cX6_settle 58 = .ok (.if_icmp .ne 49, 3) := by decide +kernel
theorem dX6_settle_61 : decode cX6_settle 61 = .ok (.aload_n 0, 1) := by decide +kernel
theorem dX6_settle_62 : decode cX6_settle 62 = .ok (.getfield 69, 3) := by decide +kernel
theorem dX6_settle_65 : decode cX6_settle 65 = .ok (.iload 4, 2) := by decide +kernel
theorem dX6_settle_67 : decode cX6_settle 67 = .ok (.iaload, 1) := by decide +kernel
theorem dX6_settle_68 : decode cX6_settle 68 = .ok (.iconst (-1), 1) := by decide +kernel
theorem dX6_settle_69 : decode cX6_settle 69 = .ok (.if_icmp .ne 38, 3) := by decide +kernel
theorem dX6_settle_72 : decode cX6_settle 72 = .ok (.aload_n 0, 1) := by decide +kernel
theorem dX6_settle_73 : decode cX6_settle 73 = .ok (.aload_n 0, 1) := by decide +kernel
theorem dX6_settle_74 : decode cX6_settle 74 = .ok (.getfield 63, 3) := by decide +kernel
theorem dX6_settle_77 : decode cX6_settle 77 = .ok (.iload 4, 2) := by decide +kernel
theorem dX6_settle_79 : decode cX6_settle 79 = .ok (.iaload, 1) := by decide +kernel
theorem dX6_settle_80 : decode cX6_settle 80 = .ok (.aload_n 0, 1) := by decide +kernel
theorem dX6_settle_81 : decode cX6_settle 81 = .ok (.getfield 96, 3) := by decide +kernel
theorem dX6_settle_84 : decode cX6_settle 84 = .ok (.iload_n 1, 1) := by decide +kernel
theorem dX6_settle_85 : decode cX6_settle 85 = .ok (.iaload, 1) := by decide +kernel
theorem dX6_settle_86 : decode cX6_settle 86 = .ok (.aload_n 0, 1) := by decide +kernel
theorem dX6_settle_87 : decode cX6_settle 87 = .ok (.getfield 99, 3) := by decide +kernel
theorem dX6_settle_90 : decode cX6_settle 90 = .ok (.iload_n 1, 1) := by decide +kernel
theorem dX6_settle_91 : decode cX6_settle 91 = .ok (.iaload, 1) := by decide +kernel
theorem dX6_settle_92 : decode cX6_settle 92 = .ok (.invokevirtual 150, 3) := by decide +kernel
theorem dX6_settle_95 : decode cX6_settle 95 = .ok (.ifCond .eq 12, 3) := by decide +kernel
theorem dX6_settle_98 : decode cX6_settle 98 = .ok (.iload 5, 2) := by decide +kernel
theorem dX6_settle_100 : decode cX6_settle 100 = .ok (.ifCond .le 7, 3) := by decide +kernel
theorem dX6_settle_103 : decode cX6_settle 103 = .ok (.iconst 1, 1) := by decide +kernel
theorem dX6_settle_104 : decode cX6_settle 104 = .ok (.goto 4, 3) := by decide +kernel
theorem dX6_settle_107 : decode cX6_settle 107 = .ok (.iconst 0, 1) := by decide +kernel
theorem dX6_settle_108 : decode cX6_settle 108 = .ok (.istore 6, 2) := by decide +kernel
theorem dX6_settle_110 : decode cX6_settle 110 = .ok (.iload 6, 2) := by decide +kernel
theorem dX6_settle_112 : decode cX6_settle 112 = .ok (.ifCond .eq 19, 3) := by decide +kernel
theorem dX6_settle_115 : decode cX6_settle 115 = .ok (.aload_n 0, 1) := by decide +kernel
theorem dX6_settle_116 : decode cX6_settle 116 = .ok (.getfield 57, 3) := by decide +kernel
theorem dX6_settle_119 : decode cX6_settle 119 = .ok (.iload 4, 2) := by decide +kernel
theorem dX6_settle_121 : decode cX6_settle 121 = .ok (.iaload, 1) := by decide +kernel
theorem dX6_settle_122 : decode cX6_settle 122 = .ok (.iload 5, 2) := by decide +kernel
theorem dX6_settle_124 : decode cX6_settle 124 = .ok (.if_icmp .le 7, 3) := by decide +kernel
theorem dX6_settle_127 : decode cX6_settle 127 = .ok (.iconst 1, 1) := by decide +kernel
theorem dX6_settle_128 : decode cX6_settle 128 = .ok (.goto 4, 3) := by decide +kernel
theorem dX6_settle_131 : decode cX6_settle 131 = .ok (.iconst 0, 1) := by decide +kernel
theorem dX6_settle_132 : decode cX6_settle 132 = .ok (.istore 7, 2) := by decide +kernel
theorem dX6_settle_134 : decode cX6_settle 134 = .ok (.iload 7, 2) := by decide +kernel
theorem dX6_settle_136 : decode cX6_settle 136 = .ok (.ifCond .eq 16, 3) := by decide +kernel
theorem dX6_settle_139 : decode cX6_settle 139 = .ok (.aload_n 0, 1) := by decide +kernel
theorem dX6_settle_140 : decode cX6_settle 140 = .ok (.getfield 134, 3) := by decide +kernel
theorem dX6_settle_143 : decode cX6_settle 143 = .ok (.bipush 80, 2) := by decide +kernel
theorem dX6_settle_145 : decode cX6_settle 145 = .ok (.if_icmp .ne 7, 3) := by decide +kernel
theorem dX6_settle_148 : decode cX6_settle 148 = .ok (.iconst 1, 1) := by decide +kernel
theorem dX6_settle_149 : decode cX6_settle 149 = .ok (.goto 4, 3) := by decide +kernel
theorem dX6_settle_152 : decode cX6_settle 152 = .ok (.iconst 0, 1) := by decide +kernel
theorem dX6_settle_153 : decode cX6_settle 153 = .ok (.istore_n 3, 1) := by decide +kernel
theorem dX6_settle_154 : decode cX6_settle 154 = .ok (.iload 6, 2) := by decide +kernel
theorem dX6_settle_156 : decode cX6_settle 156 = .ok (.ifCond .eq 63, 3) := by decide +kernel
theorem dX6_settle_159 : decode cX6_settle 159 = .ok (.iload_n 3, 1) := by decide +kernel
theorem dX6_settle_160 : decode cX6_settle 160 = .ok (.ifCond .ne 59, 3) := by decide +kernel
theorem dX6_settle_163 : decode cX6_settle 163 = .ok (.iload 7, 2) := by decide +kernel
theorem dX6_settle_165 : decode cX6_settle 165 = .ok (.ifCond .eq 14, 3) := by decide +kernel
theorem dX6_settle_168 : decode cX6_settle 168 = .ok (.aload_n 0, 1) := by decide +kernel
theorem dX6_settle_169 : decode cX6_settle 169 = .ok (.iload 4, 2) := by decide +kernel
theorem dX6_settle_171 : decode cX6_settle 171 = .ok (.iload 5, 2) := by decide +kernel
theorem dX6_settle_173 : decode cX6_settle 173 = .ok (.invokevirtual 188, 3) := by decide +kernel
theorem dX6_settle_176 : decode cX6_settle 176 = .ok (.goto 5, 3) := by decide +kernel
theorem dX6_settle_179 : decode cX6_settle 179 = .ok (.iload 4, 2) := by decide +kernel
theorem dX6_settle_181 : decode cX6_settle 181 = .ok (.istore 8, 2) := by decide +kernel
theorem dX6_settle_183 : decode cX6_settle 183 = .ok (.aload_n 0, 1) := by decide +kernel
theorem dX6_settle_184 : decode cX6_settle 184 = .ok (.iload 8, 2) := by decide +kernel
theorem dX6_settle_186 : decode cX6_settle 186 = .ok (.aload_n 0, 1) := by decide +kernel
theorem dX6_settle_187 : decode cX6_settle 187 = .ok (.getfield 93, 3) := by decide +kernel
theorem dX6_settle_190 : decode cX6_settle 190 = .ok (.iload_n 1, 1) := by decide +kernel
theorem dX6_settle_191 : decode cX6_settle 191 = .ok (.iaload, 1) := by decide +kernel
theorem dX6_settle_192 : decode cX6_settle 192 = .ok (.invokevirtual 159, 3) := by decide +kernel
theorem dX6_settle_195 : decode cX6_settle 195 = .ok (.aload_n 0, 1) := by decide +kernel
theorem dX6_settle_196 : decode cX6_settle 196 = .ok (.getfield 78, 3) := by decide +kernel
theorem dX6_settle_199 : decode cX6_settle 199 = .ok (.iload 8, 2) := by decide +kernel
theorem dX6_settle_201 : decode cX6_settle 201 = .ok (.iload_n 1, 1) := by decide +kernel
theorem dX6_settle_202 : decode cX6_settle 202 = .ok (.iastore, 1) := by decide +kernel
theorem dX6_settle_203 : decode cX6_settle 203 = .ok (.aload_n 0, 1) := by decide +kernel
theorem dX6_settle_204 : decode cX6_settle 204 = .ok (.getfield 115, 3) := by decide +kernel
theorem dX6_settle_207 : decode cX6_settle 207 = .ok (.iload_n 1, 1) := by decide +kernel
theorem dX6_settle_208 : decode cX6_settle 208 = .ok (.dup2, 1) := by decide +kernel
theorem dX6_settle_209 : decode cX6_settle 209 = .ok (.iaload, 1) := by decide +kernel
theorem dX6_settle_210 : decode cX6_settle 210 = .ok (.aload_n 0, 1) := by decide +kernel
theorem dX6_settle_211 : decode cX6_settle 211 = .ok (.getfield 57, 3) := by decide +kernel
theorem dX6_settle_214 : decode cX6_settle 214 = .ok (.iload 8, 2) := by decide +kernel
theorem dX6_settle_216 : decode cX6_settle 216 = .ok (.iaload, 1) := by decide +kernel
theorem dX6_settle_217 : decode cX6_settle 217 = .ok (.iadd, 1) := by decide +kernel
theorem dX6_settle_218 : decode cX6_settle 218 = .ok (.iastore, 1) := by decide +kernel
theorem dX6_settle_219 : decode cX6_settle 219 = .ok (.iinc 4 1, 3) := by decide +kernel
theorem dX6_settle_222 : decode cX6_settle 222 = .ok (.goto (-212), 3) := by decide +kernel
theorem dX6_settle_225 : decode cX6_settle 225 = .ok (.aload_n 0, 1) := by decide +kernel
theorem dX6_settle_226 : decode cX6_settle 226 = .ok (.getfield 118, 3) := by decide +kernel
theorem dX6_settle_229 : decode cX6_settle 229 = .ok (.iload_n 1, 1) := by decide +kernel
theorem dX6_settle_230 : decode cX6_settle 230 = .ok (.aload_n 0, 1) := by decide +kernel
theorem dX6_settle_231 : decode cX6_settle 231 = .ok (.getfield 102, 3) := by decide +kernel
theorem dX6_settle_234 : decode cX6_settle 234 = .ok (.iload_n 1, 1) := by decide +kernel
theorem dX6_settle_235 : decode cX6_settle 235 = .ok (.iaload, 1) := by decide +kernel
theorem dX6_settle_236 : decode cX6_settle 236 = .ok (.aload_n 0, 1) := by decide +kernel
theorem dX6_settle_237 : decode cX6_settle 237 = .ok (.getfield 115, 3) := by decide +kernel
theorem dX6_settle_240 : decode cX6_settle 240 = .ok (.iload_n 1, 1) := by decide +kernel
theorem dX6_settle_241 : decode cX6_settle 241 = .ok (.iaload, 1) := by decide +kernel
theorem dX6_settle_242 : decode cX6_settle 242 = .ok (.isub, 1) := by decide +kernel
theorem dX6_settle_243 : decode cX6_settle 243 = .ok (.iastore, 1) := by decide +kernel
theorem dX6_settle_244 : decode cX6_settle 244 = .ok (.aload_n 0, 1) := by decide +kernel
theorem dX6_settle_245 : decode cX6_settle 245 = .ok (.getfield 111, 3) := by decide +kernel
theorem dX6_settle_248 : decode cX6_settle 248 = .ok (.iload_n 1, 1) := by decide +kernel
theorem dX6_settle_249 : decode cX6_settle 249 = .ok (.iconst 1, 1) := by decide +kernel
theorem dX6_settle_250 : decode cX6_settle 250 = .ok (.bastore, 1) := by decide +kernel
theorem dX6_settle_251 : decode cX6_settle 251 = .ok (.aload_n 0, 1) := by decide +kernel
theorem dX6_settle_252 : decode cX6_settle 252 = .ok (.aload_n 0, 1) := by decide +kernel
theorem dX6_settle_253 : decode cX6_settle 253 = .ok (.getfield 93, 3) := by decide +kernel
theorem dX6_settle_256 : decode cX6_settle 256 = .ok (.iload_n 1, 1) := by decide +kernel
theorem dX6_settle_257 : decode cX6_settle 257 = .ok (.iaload, 1) := by decide +kernel
theorem dX6_settle_258 : decode cX6_settle 258 = .ok (.aload_n 0, 1) := by decide +kernel
theorem dX6_settle_259 : decode cX6_settle 259 = .ok (.getfield 90, 3) := by decide +kernel
theorem dX6_settle_262 : decode cX6_settle 262 = .ok (.iload_n 1, 1) := by decide +kernel
theorem dX6_settle_263 : decode cX6_settle 263 = .ok (.iaload, 1) := by decide +kernel
theorem dX6_settle_264 : decode cX6_settle 264 = .ok (.aload_n 0, 1) := by decide +kernel
theorem dX6_settle_265 : decode cX6_settle 265 = .ok (.getfield 115, 3) := by decide +kernel
theorem dX6_settle_268 : decode cX6_settle 268 = .ok (.iload_n 1, 1) := by decide +kernel
theorem dX6_settle_269 : decode cX6_settle 269 = .ok (.iaload, 1) := by decide +kernel
theorem dX6_settle_270 : decode cX6_settle 270 = .ok (.i2l, 1) := by decide +kernel
theorem dX6_settle_271 : decode cX6_settle 271 = .ok (.aload_n 0, 1) := by decide +kernel
theorem dX6_settle_272 : decode cX6_settle 272 = .ok (.getfield 108, 3) := by decide +kernel
theorem dX6_settle_275 : decode cX6_settle 275 = .ok (.iload_n 1, 1) := by decide +kernel
theorem dX6_settle_276 : decode cX6_settle 276 = .ok (.iaload, 1) := by decide +kernel
theorem dX6_settle_277 : decode cX6_settle 277 = .ok (.i2l, 1) := by decide +kernel
theorem dX6_settle_278 : decode cX6_settle 278 = .ok (.lmul, 1) := by decide +kernel
theorem dX6_settle_279 : decode cX6_settle 279 = .ok (.invokevirtual 192, 3) := by decide +kernel
theorem dX6_settle_282 : decode cX6_settle 282 = .ok (.aload_n 0, 1) := by decide +kernel
theorem dX6_settle_283 : decode cX6_settle 283 = .ok (.aload_n 0, 1) := by decide +kernel
theorem dX6_settle_284 : decode cX6_settle 284 = .ok (.getfield 90, 3) := by decide +kernel
theorem dX6_settle_287 : decode cX6_settle 287 = .ok (.iload_n 1, 1) := by decide +kernel
theorem dX6_settle_288 : decode cX6_settle 288 = .ok (.iaload, 1) := by decide +kernel
theorem dX6_settle_289 : decode cX6_settle 289 = .ok (.aload_n 0, 1) := by decide +kernel
theorem dX6_settle_290 : decode cX6_settle 290 = .ok (.getfield 93, 3) := by decide +kernel
theorem dX6_settle_293 : decode cX6_settle 293 = .ok (.iload_n 1, 1) := by decide +kernel
theorem dX6_settle_294 : decode cX6_settle 294 = .ok (.iaload, 1) := by decide +kernel
theorem dX6_settle_295 : decode cX6_settle 295 = .ok (.aload_n 0, 1) := by decide +kernel
theorem dX6_settle_296 : decode cX6_settle 296 = .ok (.getfield 118, 3) := by decide +kernel
theorem dX6_settle_299 : decode cX6_settle 299 = .ok (.iload_n 1, 1) := by decide +kernel
theorem dX6_settle_300 : decode cX6_settle 300 = .ok (.iaload, 1) := by decide +kernel
theorem dX6_settle_301 : decode cX6_settle 301 = .ok (.i2l, 1) := by decide +kernel
theorem dX6_settle_302 : decode cX6_settle 302 = .ok (.aload_n 0, 1) := by decide +kernel
theorem dX6_settle_303 : decode cX6_settle 303 = .ok (.getfield 13, 3) := by decide +kernel
theorem dX6_settle_306 : decode cX6_settle 306 = .ok (.i2l, 1) := by decide +kernel
theorem dX6_settle_307 : decode cX6_settle 307 = .ok (.lmul, 1) := by decide +kernel
theorem dX6_settle_308 : decode cX6_settle 308 = .ok (.invokevirtual 192, 3) := by decide +kernel
theorem dX6_settle_311 : decode cX6_settle 311 = .ok (.return_, 1) := by decide +kernel
set_option maxRecDepth 20000 in
theorem ggX6_pass_X6_in : GoodIn wsX6_pass wsX6_in := goodIn_r _ [11] (by decide +kernel) (by decide +kernel)
set_option maxRecDepth 20000 in
theorem gX6_pass_X6_in : GoodIn wsX6_pass (va_wsS RX6 130 yX6_in wsX6_in) := goodIn_app (goodIn_of _ (by decide +kernel)) ggX6_pass_X6_in
set_option maxRecDepth 20000 in
theorem ggX6_pass_X6_goesWell : GoodIn wsX6_pass wsX6_goesWell := goodIn_r _ [15, 16, 77, 78, 79, 80, 81, 82, 83, 84, 85, 86, 87, 88, 89, 90, 91, 92, 93, 94, 95, 96, 97, 98, 99, 100, 101, 102, 103, 104, 105, 106, 107, 108, 109, 110, 111, 112, 113, 114, 115, 116, 117, 118, 119, 120, 121, 122] (by decide +kernel) (by decide +kernel)
set_option maxRecDepth 20000 in
theorem gX6_pass_X6_goesWell : GoodIn wsX6_pass (wsV RX6 141 RX6 yX6_goesWell wsX6_goesWell) := goodIn_app (goodIn_of _ (by decide +kernel)) ggX6_pass_X6_goesWell
set_option maxRecDepth 20000 in
theorem ggX6_pass_X6_shrink : GoodIn wsX6_pass wsX6_shrink := goodIn_r _ [20, 21, 22, 23, 3, 24, 25, 26, 27, 28, 29, 30, 31, 10, 32, 4, 77, 78, 79, 80, 81, 82, 83, 84, 85, 86, 87, 88, 89, 90, 91, 92, 93, 94, 95, 96, 97, 98, 99, 100, 101, 102, 103, 104, 105, 106, 107, 108, 109, 110, 111, 112, 113, 114, 115, 116, 117, 118, 119, 120, 121, 122] (by decide +kernel) (by decide +kernel)
set_option maxRecDepth 20000 in
theorem gX6_pass_X6_shrink : GoodIn wsX6_pass (wsV RX6 209 RX6 yX6_shrink wsX6_shrink) := goodIn_app (goodIn_of _ (by decide +kernel)) ggX6_pass_X6_shrink
set_option maxRecDepth 20000 in
theorem ggX6_pass_X6_become : GoodIn wsX6_pass wsX6_become := goodIn_r _ [36, 37, 38, 39, 40, 41, 1, 42, 77, 78, 79, 80, 81, 82, 83, 84, 85, 86, 87, 88, 89, 90, 91, 92, 93, 94, 95, 96, 97, 98, 99, 100, 101, 102, 103, 104, 105, 106, 107, 108, 109, 110, 111, 112, 113, 114, 115, 116, 117, 118, 119, 120, 121, 122] (by decide +kernel) (by decide +kernel)
set_option maxRecDepth 20000 in
theorem gX6_pass_X6_become : GoodIn wsX6_pass (wsV RX6 159 RX6 yX6_become wsX6_become) := goodIn_app (goodIn_of _ (by decide +kernel)) ggX6_pass_X6_become
set_option maxRecDepth 20000 in
theorem ggX6_pass_X6_settle : GoodIn wsX6_pass wsX6_settle := goodIn_r _ [46, 3, 47, 48, 25, 37, 49, 4, 24, 50, 51, 52, 38, 53, 54, 55, 56, 57, 58, 59, 10, 60, 21, 61, 62, 63, 64, 65, 66, 67, 68, 69, 70, 71, 33, 34, 35, 36, 39, 40, 41, 1, 42, 72, 73, 74, 75, 76, 77, 78, 79, 80, 81, 82, 83, 84, 85, 86, 87, 88, 89, 90, 91, 92, 93, 94, 95, 96, 97, 98, 99, 100, 101, 102, 103, 104, 105, 106, 107, 108, 109, 110, 111, 112, 113, 114, 115, 116, 117, 118, 119, 120, 121, 122] (by decide +kernel) (by decide +kernel)
set_option maxRecDepth 20000 in
theorem gX6_pass_X6_settle : GoodIn wsX6_pass (wsV RX6 213 RX6 yX6_settle wsX6_settle) := goodIn_app (goodIn_of _ (by decide +kernel)) ggX6_pass_X6_settle
theorem dX6_pass_0 : decode cX6_pass 0 = .ok (.aload_n 0, 1) := by decide +kernel
theorem dX6_pass_1 : decode cX6_pass 1 = .ok (.iload_n 1, 1) := by decide +kernel
theorem dX6_pass_2 : decode cX6_pass 2 = .ok (.iconst 1, 1) := by decide +kernel
theorem dX6_pass_3 : decode cX6_pass 3 = .ok (.bipush 30, 2) := by decide +kernel
theorem dX6_pass_5 : decode cX6_pass 5 = .ok (.invokestatic 130, 3) := by decide +kernel
theorem dX6_pass_8 : decode cX6_pass 8 = .ok (.ifCond .eq 7, 3) := by decide +kernel
theorem dX6_pass_11 : decode cX6_pass 11 = .ok (.iconst 0, 1) := by decide +kernel
theorem dX6_pass_12 : decode cX6_pass 12 = .ok (.goto 4, 3) := by decide +kernel
theorem dX6_pass_15 : decode cX6_pass 15 = .ok (.iconst 1, 1) := by decide +kernel
theorem dX6_pass_16 : decode cX6_pass 16 = .ok (.invokevirtual 141, 3) := by decide +kernel
theorem dX6_pass_19 : decode cX6_pass 19 = .ok (.ifCond .ne 5, 3) := by decide +kernel
theorem dX6_pass_22 : decode cX6_pass 22 = .ok (.iconst 0, 1) := by decide +kernel
theorem dX6_pass_23 : decode cX6_pass 23 = .ok (.ireturn, 1) := by decide +kernel
theorem dX6_pass_24 : decode cX6_pass 24 = .ok (.iconst 0, 1) := by decide +kernel
theorem dX6_pass_25 : decode cX6_pass 25 = .ok (.istore_n 2, 1) := by decide +kernel
theorem dX6_pass_26 : decode cX6_pass 26 = .ok (.iload_n 2, 1) := by decide +kernel
theorem dX6_pass_27 : decode cX6_pass 27 = .ok (.iload_n 1, 1) := by decide +kernel
theorem dX6_pass_28 : decode cX6_pass 28 = .ok (.if_icmp .ge 131, 3) := by decide +kernel
theorem dX6_pass_31 : decode cX6_pass 31 = .ok (.aload_n 0, 1) := by decide +kernel
theorem dX6_pass_32 : decode cX6_pass 32 = .ok (.dup, 1) := by decide +kernel
theorem dX6_pass_33 : decode cX6_pass 33 = .ok (.getfield 156, 3) := by decide +kernel
theorem dX6_pass_36 : decode cX6_pass 36 = .ok (.iconst 1, 1) := by decide +kernel
theorem dX6_pass_37 : decode cX6_pass 37 = .ok (.iadd, 1) := by decide +kernel
theorem dX6_pass_38 : decode cX6_pass 38 = .ok (.putfield 156, 3) := by decide +kernel
theorem dX6_pass_41 : decode cX6_pass 41 = .ok (.iconst 0, 1) := by decide +kernel
theorem dX6_pass_42 : decode cX6_pass 42 = .ok (.istore_n 3, 1) := by decide +kernel
theorem dX6_pass_43 : decode cX6_pass 43 = .ok (.iload_n 3, 1) := by decide +kernel
theorem dX6_pass_44 : decode cX6_pass 44 = .ok (.aload_n 0, 1) := by decide +kernel
theorem dX6_pass_45 : decode cX6_pass 45 = .ok (.getfield 137, 3) := by decide +kernel
theorem dX6_pass_48 : decode cX6_pass 48 = .ok (.if_icmp .ge 14, 3) := by decide +kernel
theorem dX6_pass_51 : decode cX6_pass 51 = .ok (.aload_n 0, 1) := by decide +kernel
theorem dX6_pass_52 : decode cX6_pass 52 = .ok (.iload_n 3, 1) := by decide +kernel
theorem dX6_pass_53 : decode cX6_pass 53 = .ok (.invokevirtual 209, 3) := by decide +kernel
theorem dX6_pass_56 : decode cX6_pass 56 = .ok (.iinc 3 1, 3) := by decide +kernel
theorem dX6_pass_59 : decode cX6_pass 59 = .ok (.goto (-16), 3) := by decide +kernel
theorem dX6_pass_62 : decode cX6_pass 62 = .ok (.iconst 0, 1) := by decide +kernel
theorem dX6_pass_63 : decode cX6_pass 63 = .ok (.istore_n 3, 1) := by decide +kernel
theorem dX6_pass_64 : decode cX6_pass 64 = .ok (.iload_n 3, 1) := by decide +kernel
theorem dX6_pass_65 : decode cX6_pass 65 = .ok (.aload_n 0, 1) := by decide +kernel
theorem dX6_pass_66 : decode cX6_pass 66 = .ok (.getfield 134, 3) := by decide +kernel
theorem dX6_pass_69 : decode cX6_pass 69 = .ok (.if_icmp .ge 50, 3) := by decide +kernel
theorem dX6_pass_72 : decode cX6_pass 72 = .ok (.aload_n 0, 1) := by decide +kernel
theorem dX6_pass_73 : decode cX6_pass 73 = .ok (.getfield 69, 3) := by decide +kernel
theorem dX6_pass_76 : decode cX6_pass 76 = .ok (.iload_n 3, 1) := by decide +kernel
theorem dX6_pass_77 : decode cX6_pass 77 = .ok (.iaload, 1) := by decide +kernel
theorem dX6_pass_78 : decode cX6_pass 78 = .ok (.iconst (-1), 1) := by decide +kernel
theorem dX6_pass_79 : decode cX6_pass 79 = .ok (.if_icmp .eq 34, 3) := by decide +kernel
theorem dX6_pass_82 : decode cX6_pass 82 = .ok (.aload_n 0, 1) := by decide +kernel
theorem dX6_pass_83 : decode cX6_pass 83 = .ok (.getfield 75, 3) := by decide +kernel
theorem dX6_pass_86 : decode cX6_pass 86 = .ok (.iload_n 3, 1) := by decide +kernel
theorem dX6_pass_87 : decode cX6_pass 87 = .ok (.iaload, 1) := by decide +kernel
theorem dX6_pass_88 : decode cX6_pass 88 = .ok (.aload_n 0, 1) := by decide +kernel
theorem dX6_pass_89 : decode cX6_pass 89 = .ok (.getfield 156, 3) := by decide +kernel
theorem dX6_pass_92 : decode cX6_pass 92 = .ok (.if_icmp .ge 21, 3) := by decide +kernel
theorem dX6_pass_95 : decode cX6_pass 95 = .ok (.aload_n 0, 1) := by decide +kernel
theorem dX6_pass_96 : decode cX6_pass 96 = .ok (.iload_n 3, 1) := by decide +kernel
theorem dX6_pass_97 : decode cX6_pass 97 = .ok (.aload_n 0, 1) := by decide +kernel
theorem dX6_pass_98 : decode cX6_pass 98 = .ok (.getfield 69, 3) := by decide +kernel
theorem dX6_pass_101 : decode cX6_pass 101 = .ok (.iload_n 3, 1) := by decide +kernel
theorem dX6_pass_102 : decode cX6_pass 102 = .ok (.iaload, 1) := by decide +kernel
theorem dX6_pass_103 : decode cX6_pass 103 = .ok (.invokevirtual 159, 3) := by decide +kernel
theorem dX6_pass_106 : decode cX6_pass 106 = .ok (.aload_n 0, 1) := by decide +kernel
theorem dX6_pass_107 : decode cX6_pass 107 = .ok (.getfield 69, 3) := by decide +kernel
theorem dX6_pass_110 : decode cX6_pass 110 = .ok (.iload_n 3, 1) := by decide +kernel
theorem dX6_pass_111 : decode cX6_pass 111 = .ok (.iconst (-1), 1) := by decide +kernel
theorem dX6_pass_112 : decode cX6_pass 112 = .ok (.iastore, 1) := by decide +kernel
theorem dX6_pass_113 : decode cX6_pass 113 = .ok (.iinc 3 1, 3) := by decide +kernel
theorem dX6_pass_116 : decode cX6_pass 116 = .ok (.goto (-52), 3) := by decide +kernel
theorem dX6_pass_119 : decode cX6_pass 119 = .ok (.iconst 0, 1) := by decide +kernel
theorem dX6_pass_120 : decode cX6_pass 120 = .ok (.istore_n 3, 1) := by decide +kernel
theorem dX6_pass_121 : decode cX6_pass 121 = .ok (.iload_n 3, 1) := by decide +kernel
theorem dX6_pass_122 : decode cX6_pass 122 = .ok (.aload_n 0, 1) := by decide +kernel
theorem dX6_pass_123 : decode cX6_pass 123 = .ok (.getfield 204, 3) := by decide +kernel
theorem dX6_pass_126 : decode cX6_pass 126 = .ok (.if_icmp .ge 27, 3) := by decide +kernel
theorem dX6_pass_129 : decode cX6_pass 129 = .ok (.aload_n 0, 1) := by decide +kernel
theorem dX6_pass_130 : decode cX6_pass 130 = .ok (.getfield 105, 3) := by decide +kernel
theorem dX6_pass_133 : decode cX6_pass 133 = .ok (.iload_n 3, 1) := by decide +kernel
theorem dX6_pass_134 : decode cX6_pass 134 = .ok (.iaload, 1) := by decide +kernel
theorem dX6_pass_135 : decode cX6_pass 135 = .ok (.aload_n 0, 1) := by decide +kernel
theorem dX6_pass_136 : decode cX6_pass 136 = .ok (.getfield 156, 3) := by decide +kernel
theorem dX6_pass_139 : decode cX6_pass 139 = .ok (.if_icmp .ne 8, 3) := by decide +kernel
theorem dX6_pass_142 : decode cX6_pass 142 = .ok (.aload_n 0, 1) := by decide +kernel
theorem dX6_pass_143 : decode cX6_pass 143 = .ok (.iload_n 3, 1) := by decide +kernel
theorem dX6_pass_144 : decode cX6_pass 144 = .ok (.invokevirtual 213, 3) := by decide +kernel
theorem dX6_pass_147 : decode cX6_pass 147 = .ok (.iinc 3 1, 3) := by decide +kernel
theorem dX6_pass_150 : decode cX6_pass 150 = .ok (.goto (-29), 3) := by decide +kernel
theorem dX6_pass_153 : decode cX6_pass 153 = .ok (.iinc 2 1, 3) := by decide +kernel
theorem dX6_pass_156 : decode cX6_pass 156 = .ok (.goto (-130), 3) := by decide +kernel
theorem dX6_pass_159 : decode cX6_pass 159 = .ok (.aload_n 0, 1) := by decide +kernel
theorem dX6_pass_160 : decode cX6_pass 160 = .ok (.getfield 156, 3) := by decide +kernel
theorem dX6_pass_163 : decode cX6_pass 163 = .ok (.ireturn, 1) := by decide +kernel
set_option maxRecDepth 20000 in
theorem ggX6_receipt_X6_isReceipt : GoodIn wsX6_receipt wsX6_isReceipt := goodIn_r _ [13, 14, 15, 16, 12, 17, 23, 24, 25, 26, 27, 28, 29, 30, 31, 32, 33, 34, 35, 36, 37, 38, 39, 40, 41, 42, 43, 44, 45, 46, 47, 48, 49, 50, 51, 52, 53, 54, 55, 56, 57, 58, 59, 60, 61, 62, 63, 64, 65, 66, 67, 68] (by decide +kernel) (by decide +kernel)
set_option maxRecDepth 20000 in
theorem gX6_receipt_X6_isReceipt : GoodIn wsX6_receipt (wsV RX6 185 RX6 yX6_isReceipt wsX6_isReceipt) := goodIn_app (goodIn_of _ (by decide +kernel)) ggX6_receipt_X6_isReceipt
set_option maxRecDepth 20000 in
theorem ggX6_receipt_X6_in : GoodIn wsX6_receipt wsX6_in := goodIn_r _ [17] (by decide +kernel) (by decide +kernel)
set_option maxRecDepth 20000 in
theorem gX6_receipt_X6_in : GoodIn wsX6_receipt (va_wsS RX6 130 yX6_in wsX6_in) := goodIn_app (goodIn_of _ (by decide +kernel)) ggX6_receipt_X6_in
set_option maxRecDepth 20000 in
theorem ggX6_receipt_X6_goesWell : GoodIn wsX6_receipt wsX6_goesWell := goodIn_r _ [21, 22, 23, 24, 25, 26, 27, 28, 29, 30, 31, 32, 33, 34, 35, 36, 37, 38, 39, 40, 41, 42, 43, 44, 45, 46, 47, 48, 49, 50, 51, 52, 53, 54, 55, 56, 57, 58, 59, 60, 61, 62, 63, 64, 65, 66, 67, 68] (by decide +kernel) (by decide +kernel)
set_option maxRecDepth 20000 in
theorem gX6_receipt_X6_goesWell : GoodIn wsX6_receipt (wsV RX6 141 RX6 yX6_goesWell wsX6_goesWell) := goodIn_app (goodIn_of _ (by decide +kernel)) ggX6_receipt_X6_goesWell
theorem dX6_receipt_0 : decode cX6_receipt 0 = .ok (.aload_n 0, 1) := by decide +kernel
theorem dX6_receipt_1 : decode cX6_receipt 1 = .ok (.iload_n 1, 1) := by decide +kernel
theorem dX6_receipt_2 : decode cX6_receipt 2 = .ok (.invokevirtual 185, 3) := by decide +kernel
theorem dX6_receipt_5 : decode cX6_receipt 5 = .ok (.istore_n 3, 1) := by decide +kernel
theorem dX6_receipt_6 : decode cX6_receipt 6 = .ok (.aload_n 0, 1) := by decide +kernel
theorem dX6_receipt_7 : decode cX6_receipt 7 = .ok (.iload_n 3, 1) := by decide +kernel
theorem dX6_receipt_8 : decode cX6_receipt 8 = .ok (.ifCond .ne 7, 3) := by decide +kernel
theorem dX6_receipt_11 : decode cX6_receipt 11 = .ok (.iconst 1, 1) := by decide +kernel
theorem dX6_receipt_12 : decode cX6_receipt 12 = .ok (.goto 18, 3) := by decide +kernel
theorem dX6_receipt_15 : decode cX6_receipt 15 = .ok (.iload_n 2, 1) := by decide +kernel
theorem dX6_receipt_16 : decode cX6_receipt 16 = .ok (.iconst 0, 1) := by decide +kernel
theorem dX6_receipt_17 : decode cX6_receipt 17 = .ok (.bipush 7, 2) := by decide +kernel
theorem dX6_receipt_19 : decode cX6_receipt 19 = .ok (.invokestatic 130, 3) := by decide +kernel
theorem dX6_receipt_22 : decode cX6_receipt 22 = .ok (.ifCond .eq 7, 3) := by decide +kernel
theorem dX6_receipt_25 : decode cX6_receipt 25 = .ok (.iconst 0, 1) := by decide +kernel
theorem dX6_receipt_26 : decode cX6_receipt 26 = .ok (.goto 4, 3) := by decide +kernel
theorem dX6_receipt_29 : decode cX6_receipt 29 = .ok (.iconst 2, 1) := by decide +kernel
theorem dX6_receipt_30 : decode cX6_receipt 30 = .ok (.invokevirtual 141, 3) := by decide +kernel
theorem dX6_receipt_33 : decode cX6_receipt 33 = .ok (.ifCond .ne 5, 3) := by decide +kernel
theorem dX6_receipt_36 : decode cX6_receipt 36 = .ok (.iconst 0, 1) := by decide +kernel
theorem dX6_receipt_37 : decode cX6_receipt 37 = .ok (.ireturn, 1) := by decide +kernel
theorem dX6_receipt_38 : decode cX6_receipt 38 = .ok (.aload_n 0, 1) := by decide +kernel
theorem dX6_receipt_39 : decode cX6_receipt 39 = .ok (.getfield 69, 3) := by decide +kernel
theorem dX6_receipt_42 : decode cX6_receipt 42 = .ok (.iload_n 1, 1) := by decide +kernel
theorem dX6_receipt_43 : decode cX6_receipt 43 = .ok (.iaload, 1) := by decide +kernel
theorem dX6_receipt_44 : decode cX6_receipt 44 = .ok (.iconst (-1), 1) := by decide +kernel
theorem dX6_receipt_45 : decode cX6_receipt 45 = .ok (.if_icmp .eq 7, 3) := by decide +kernel
theorem dX6_receipt_48 : decode cX6_receipt 48 = .ok (.iconst 1, 1) := by decide +kernel
theorem dX6_receipt_49 : decode cX6_receipt 49 = .ok (.goto 4, 3) := by decide +kernel
theorem dX6_receipt_52 : decode cX6_receipt 52 = .ok (.iconst 0, 1) := by decide +kernel
theorem dX6_receipt_53 : decode cX6_receipt 53 = .ok (.istore 4, 2) := by decide +kernel
theorem dX6_receipt_55 : decode cX6_receipt 55 = .ok (.iload_n 2, 1) := by decide +kernel
theorem dX6_receipt_56 : decode cX6_receipt 56 = .ok (.tableswitch 111 0 6 #[44, 51, 58, 65, 72, 79, 95], 44) := by decide +kernel
theorem dX6_receipt_100 : decode cX6_receipt 100 = .ok (.aload_n 0, 1) := by decide +kernel
theorem dX6_receipt_101 : decode cX6_receipt 101 = .ok (.getfield 57, 3) := by decide +kernel
theorem dX6_receipt_104 : decode cX6_receipt 104 = .ok (.iload_n 1, 1) := by decide +kernel
theorem dX6_receipt_105 : decode cX6_receipt 105 = .ok (.iaload, 1) := by decide +kernel
theorem dX6_receipt_106 : decode cX6_receipt 106 = .ok (.ireturn, 1) := by decide +kernel
theorem dX6_receipt_107 : decode cX6_receipt 107 = .ok (.aload_n 0, 1) := by decide +kernel
theorem dX6_receipt_108 : decode cX6_receipt 108 = .ok (.getfield 60, 3) := by decide +kernel
theorem dX6_receipt_111 : decode cX6_receipt 111 = .ok (.iload_n 1, 1) := by decide +kernel
theorem dX6_receipt_112 : decode cX6_receipt 112 = .ok (.iaload, 1) := by decide +kernel
theorem dX6_receipt_113 : decode cX6_receipt 113 = .ok (.ireturn, 1) := by decide +kernel
theorem dX6_receipt_114 : decode cX6_receipt 114 = .ok (.aload_n 0, 1) := by decide +kernel
theorem dX6_receipt_115 : decode cX6_receipt 115 = .ok (.getfield 63, 3) := by decide +kernel
theorem dX6_receipt_118 : decode cX6_receipt 118 = .ok (.iload_n 1, 1) := by decide +kernel
theorem dX6_receipt_119 : decode cX6_receipt 119 = .ok (.iaload, 1) := by decide +kernel
theorem dX6_receipt_120 : decode cX6_receipt 120 = .ok (.ireturn, 1) := by decide +kernel
theorem dX6_receipt_121 : decode cX6_receipt 121 = .ok (.aload_n 0, 1) := by decide +kernel
theorem dX6_receipt_122 : decode cX6_receipt 122 = .ok (.getfield 66, 3) := by decide +kernel
theorem dX6_receipt_125 : decode cX6_receipt 125 = .ok (.iload_n 1, 1) := by decide +kernel
theorem dX6_receipt_126 : decode cX6_receipt 126 = .ok (.iaload, 1) := by decide +kernel
theorem dX6_receipt_127 : decode cX6_receipt 127 = .ok (.ireturn, 1) := by decide +kernel
theorem dX6_receipt_128 : decode cX6_receipt 128 = .ok (.aload_n 0, 1) := by decide +kernel
theorem dX6_receipt_129 : decode cX6_receipt 129 = .ok (.getfield 69, 3) := by decide +kernel
theorem dX6_receipt_132 : decode cX6_receipt 132 = .ok (.iload_n 1, 1) := by decide +kernel
theorem dX6_receipt_133 : decode cX6_receipt 133 = .ok (.iaload, 1) := by decide +kernel
theorem dX6_receipt_134 : decode cX6_receipt 134 = .ok (.ireturn, 1) := by decide +kernel
theorem dX6_receipt_135 : decode cX6_receipt 135 = .ok (.iload 4, 2) := by decide +kernel
theorem dX6_receipt_137 : decode cX6_receipt 137 = .ok (.ifCond .eq 12, 3) := by decide +kernel
theorem dX6_receipt_140 : decode cX6_receipt 140 = .ok (.aload_n 0, 1) := by decide +kernel
theorem dX6_receipt_141 : decode cX6_receipt 141 = .ok (.getfield 72, 3) := by decide +kernel
theorem dX6_receipt_144 : decode cX6_receipt 144 = .ok (.iload_n 1, 1) := by decide +kernel
theorem dX6_receipt_145 : decode cX6_receipt 145 = .ok (.iaload, 1) := by decide +kernel
theorem dX6_receipt_146 : decode cX6_receipt 146 = .ok (.goto 4, 3) := by decide +kernel
theorem dX6_receipt_149 : decode cX6_receipt 149 = .ok (.iconst (-1), 1) := by decide +kernel
theorem dX6_receipt_150 : decode cX6_receipt 150 = .ok (.ireturn, 1) := by decide +kernel
theorem dX6_receipt_151 : decode cX6_receipt 151 = .ok (.iload 4, 2) := by decide +kernel
theorem dX6_receipt_153 : decode cX6_receipt 153 = .ok (.ifCond .eq 12, 3) := by decide +kernel
theorem dX6_receipt_156 : decode cX6_receipt 156 = .ok (.aload_n 0, 1) := by decide +kernel
theorem dX6_receipt_157 : decode cX6_receipt 157 = .ok (.getfield 75, 3) := by decide +kernel
theorem dX6_receipt_160 : decode cX6_receipt 160 = .ok (.iload_n 1, 1) := by decide +kernel
theorem dX6_receipt_161 : decode cX6_receipt 161 = .ok (.iaload, 1) := by decide +kernel
theorem dX6_receipt_162 : decode cX6_receipt 162 = .ok (.goto 4, 3) := by decide +kernel
theorem dX6_receipt_165 : decode cX6_receipt 165 = .ok (.iconst (-1), 1) := by decide +kernel
theorem dX6_receipt_166 : decode cX6_receipt 166 = .ok (.ireturn, 1) := by decide +kernel
theorem dX6_receipt_167 : decode cX6_receipt 167 = .ok (.aload_n 0, 1) := by decide +kernel
theorem dX6_receipt_168 : decode cX6_receipt 168 = .ok (.getfield 78, 3) := by decide +kernel
theorem dX6_receipt_171 : decode cX6_receipt 171 = .ok (.iload_n 1, 1) := by decide +kernel
theorem dX6_receipt_172 : decode cX6_receipt 172 = .ok (.iaload, 1) := by decide +kernel
theorem dX6_receipt_173 : decode cX6_receipt 173 = .ok (.ireturn, 1) := by decide +kernel
theorem dX6_receipts_0 : decode cX6_receipts 0 = .ok (.aload_n 0, 1) := by decide +kernel
theorem dX6_receipts_1 : decode cX6_receipts 1 = .ok (.iconst 0, 1) := by decide +kernel
theorem dX6_receipts_2 : decode cX6_receipts 2 = .ok (.putfield 127, 3) := by decide +kernel
theorem dX6_receipts_5 : decode cX6_receipts 5 = .ok (.aload_n 0, 1) := by decide +kernel
theorem dX6_receipts_6 : decode cX6_receipts 6 = .ok (.getfield 134, 3) := by decide +kernel
theorem dX6_receipts_9 : decode cX6_receipts 9 = .ok (.ireturn, 1) := by decide +kernel
set_option maxRecDepth 20000 in
theorem ggX6_delivery_X6_in : GoodIn wsX6_delivery wsX6_in := goodIn_r _ [9] (by decide +kernel) (by decide +kernel)
set_option maxRecDepth 20000 in
theorem gX6_delivery_X6_in : GoodIn wsX6_delivery (va_wsS RX6 130 yX6_in wsX6_in) := goodIn_app (goodIn_of _ (by decide +kernel)) ggX6_delivery_X6_in
set_option maxRecDepth 20000 in
theorem ggX6_delivery_X6_goesWell : GoodIn wsX6_delivery wsX6_goesWell := goodIn_r _ [13, 14, 15, 16, 17, 18, 19, 20, 21, 22, 23, 24, 25, 26, 27, 28, 29, 30, 31, 32, 33, 34, 35, 36, 37, 38, 39, 40, 41, 42, 43, 44, 45, 46, 47, 48, 49, 50, 51, 52, 53, 54, 55, 56, 57, 58, 59, 60] (by decide +kernel) (by decide +kernel)
set_option maxRecDepth 20000 in
theorem gX6_delivery_X6_goesWell : GoodIn wsX6_delivery (wsV RX6 141 RX6 yX6_goesWell wsX6_goesWell) := goodIn_app (goodIn_of _ (by decide +kernel)) ggX6_delivery_X6_goesWell
theorem dX6_delivery_0 : decode cX6_delivery 0 = .ok (.iload_n 1, 1) := by decide +kernel
theorem dX6_delivery_1 : decode cX6_delivery 1 = .ok (.iconst 0, 1) := by decide +kernel
theorem dX6_delivery_2 : decode cX6_delivery 2 = .ok (.aload_n 0, 1) := by decide +kernel
theorem dX6_delivery_3 : decode cX6_delivery 3 = .ok (.getfield 178, 3) := by decide +kernel
theorem dX6_delivery_6 : decode cX6_delivery 6 = .ok (.iconst 1, 1) := by decide +kernel
theorem dX6_delivery_7 : decode cX6_delivery 7 = .ok (.isub, 1) := by decide +kernel
theorem dX6_delivery_8 : decode cX6_delivery 8 = .ok (.invokestatic 130, 3) := by decide +kernel
theorem dX6_delivery_11 : decode cX6_delivery 11 = .ok (.istore_n 3, 1) := by decide +kernel
theorem dX6_delivery_12 : decode cX6_delivery 12 = .ok (.aload_n 0, 1) := by decide +kernel
theorem dX6_delivery_13 : decode cX6_delivery 13 = .ok (.iload_n 3, 1) := by decide +kernel
theorem dX6_delivery_14 : decode cX6_delivery 14 = .ok (.ifCond .ne 7, 3) := by decide +kernel
theorem dX6_delivery_17 : decode cX6_delivery 17 = .ok (.iconst 1, 1) := by decide +kernel
theorem dX6_delivery_18 : decode cX6_delivery 18 = .ok (.goto 17, 3) := by decide +kernel
theorem dX6_delivery_21 : decode cX6_delivery 21 = .ok (.iload_n 2, 1) := by decide +kernel
theorem dX6_delivery_22 : decode cX6_delivery 22 = .ok (.iconst 0, 1) := by decide +kernel
theorem dX6_delivery_23 : decode cX6_delivery 23 = .ok (.iconst 3, 1) := by decide +kernel
theorem dX6_delivery_24 : decode cX6_delivery 24 = .ok (.invokestatic 130, 3) := by decide +kernel
theorem dX6_delivery_27 : decode cX6_delivery 27 = .ok (.ifCond .eq 7, 3) := by decide +kernel
theorem dX6_delivery_30 : decode cX6_delivery 30 = .ok (.iconst 0, 1) := by decide +kernel
theorem dX6_delivery_31 : decode cX6_delivery 31 = .ok (.goto 4, 3) := by decide +kernel
theorem dX6_delivery_34 : decode cX6_delivery 34 = .ok (.iconst 2, 1) := by decide +kernel
theorem dX6_delivery_35 : decode cX6_delivery 35 = .ok (.invokevirtual 141, 3) := by decide +kernel
theorem dX6_delivery_38 : decode cX6_delivery 38 = .ok (.ifCond .ne 5, 3) := by decide +kernel
theorem dX6_delivery_41 : decode cX6_delivery 41 = .ok (.iconst 0, 1) := by decide +kernel
theorem dX6_delivery_42 : decode cX6_delivery 42 = .ok (.ireturn, 1) := by decide +kernel
theorem dX6_delivery_43 : decode cX6_delivery 43 = .ok (.iload_n 2, 1) := by decide +kernel
theorem dX6_delivery_44 : decode cX6_delivery 44 = .ok (.ifCond .ne 12, 3) := by decide +kernel
theorem dX6_delivery_47 : decode cX6_delivery 47 = .ok (.aload_n 0, 1) := by decide +kernel
theorem dX6_delivery_48 : decode cX6_delivery 48 = .ok (.getfield 45, 3) := by decide +kernel
theorem dX6_delivery_51 : decode cX6_delivery 51 = .ok (.iload_n 1, 1) := by decide +kernel
theorem dX6_delivery_52 : decode cX6_delivery 52 = .ok (.iaload, 1) := by decide +kernel
theorem dX6_delivery_53 : decode cX6_delivery 53 = .ok (.goto 37, 3) := by decide +kernel
theorem dX6_delivery_56 : decode cX6_delivery 56 = .ok (.iload_n 2, 1) := by decide +kernel
theorem dX6_delivery_57 : decode cX6_delivery 57 = .ok (.iconst 1, 1) := by decide +kernel
theorem dX6_delivery_58 : decode cX6_delivery 58 = .ok (.if_icmp .ne 12, 3) := by decide +kernel
theorem dX6_delivery_61 : decode cX6_delivery 61 = .ok (.aload_n 0, 1) := by decide +kernel
theorem dX6_delivery_62 : decode cX6_delivery 62 = .ok (.getfield 51, 3) := by decide +kernel
theorem dX6_delivery_65 : decode cX6_delivery 65 = .ok (.iload_n 1, 1) := by decide +kernel
theorem dX6_delivery_66 : decode cX6_delivery 66 = .ok (.iaload, 1) := by decide +kernel
theorem dX6_delivery_67 : decode cX6_delivery 67 = .ok (.goto 23, 3) := by decide +kernel
theorem dX6_delivery_70 : decode cX6_delivery 70 = .ok (.iload_n 2, 1) := by decide +kernel
theorem dX6_delivery_71 : decode cX6_delivery 71 = .ok (.iconst 2, 1) := by decide +kernel
theorem dX6_delivery_72 : decode cX6_delivery 72 = .ok (.if_icmp .ne 12, 3) := by decide +kernel
theorem dX6_delivery_75 : decode cX6_delivery 75 = .ok (.aload_n 0, 1) := by decide +kernel
theorem dX6_delivery_76 : decode cX6_delivery 76 = .ok (.getfield 54, 3) := by decide +kernel
theorem dX6_delivery_79 : decode cX6_delivery 79 = .ok (.iload_n 1, 1) := by decide +kernel
theorem dX6_delivery_80 : decode cX6_delivery 80 = .ok (.iaload, 1) := by decide +kernel
theorem dX6_delivery_81 : decode cX6_delivery 81 = .ok (.goto 9, 3) := by decide +kernel
theorem dX6_delivery_84 : decode cX6_delivery 84 = .ok (.aload_n 0, 1) := by decide +kernel
theorem dX6_delivery_85 : decode cX6_delivery 85 = .ok (.getfield 39, 3) := by decide +kernel
theorem dX6_delivery_88 : decode cX6_delivery 88 = .ok (.iload_n 1, 1) := by decide +kernel
theorem dX6_delivery_89 : decode cX6_delivery 89 = .ok (.iaload, 1) := by decide +kernel
theorem dX6_delivery_90 : decode cX6_delivery 90 = .ok (.ireturn, 1) := by decide +kernel
set_option maxRecDepth 20000 in
theorem ggX6_ofContract_X6_in : GoodIn wsX6_ofContract wsX6_in := goodIn_r _ [9] (by decide +kernel) (by decide +kernel)
set_option maxRecDepth 20000 in
theorem gX6_ofContract_X6_in : GoodIn wsX6_ofContract (va_wsS RX6 130 yX6_in wsX6_in) := goodIn_app (goodIn_of _ (by decide +kernel)) ggX6_ofContract_X6_in
set_option maxRecDepth 20000 in
theorem ggX6_ofContract_X6_goesWell : GoodIn wsX6_ofContract wsX6_goesWell := goodIn_r _ [13, 14, 15, 16, 17, 18, 19, 20, 21, 22, 23, 24, 25, 26, 27, 28, 29, 30, 31, 32, 33, 34, 35, 36, 37, 38, 39, 40, 41, 42, 43, 44, 45, 46, 47, 48, 49, 50, 51, 52, 53, 54, 55, 56, 57, 58, 59, 60] (by decide +kernel) (by decide +kernel)
set_option maxRecDepth 20000 in
theorem gX6_ofContract_X6_goesWell : GoodIn wsX6_ofContract (wsV RX6 141 RX6 yX6_goesWell wsX6_goesWell) := goodIn_app (goodIn_of _ (by decide +kernel)) ggX6_ofContract_X6_goesWell
theorem dX6_ofContract_0 : decode cX6_ofContract 0 = .ok (.iload_n 1, 1) := by decide +kernel
theorem dX6_ofContract_1 : decode cX6_ofContract 1 = .ok (.iconst 0, 1) := by decide +kernel
theorem dX6_ofContract_2 : decode cX6_ofContract 2 = .ok (.aload_n 0, 1) := by decide +kernel
theorem dX6_ofContract_3 : decode cX6_ofContract 3 = .ok (.getfield 204, 3) := by decide +kernel
theorem dX6_ofContract_6 : decode cX6_ofContract 6 = .ok (.iconst 1, 1) := by decide +kernel
theorem dX6_ofContract_7 : decode cX6_ofContract 7 = .ok (.isub, 1) := by decide +kernel
theorem dX6_ofContract_8 : decode cX6_ofContract 8 = .ok (.invokestatic 130, 3) := by decide +kernel
theorem dX6_ofContract_11 : decode cX6_ofContract 11 = .ok (.istore_n 3, 1) := by decide +kernel
theorem dX6_ofContract_12 : decode cX6_ofContract 12 = .ok (.aload_n 0, 1) := by decide +kernel
theorem dX6_ofContract_13 : decode cX6_ofContract 13 = .ok (.iload_n 3, 1) := by decide +kernel
theorem dX6_ofContract_14 : decode cX6_ofContract 14 = .ok (.ifCond .ne 7, 3) := by decide +kernel
theorem dX6_ofContract_17 : decode cX6_ofContract 17 = .ok (.iconst 1, 1) := by decide +kernel
theorem dX6_ofContract_18 : decode cX6_ofContract 18 = .ok (.goto 17, 3) := by decide +kernel
theorem dX6_ofContract_21 : decode cX6_ofContract 21 = .ok (.iload_n 2, 1) := by decide +kernel
theorem dX6_ofContract_22 : decode cX6_ofContract 22 = .ok (.iconst 0, 1) := by decide +kernel
theorem dX6_ofContract_23 : decode cX6_ofContract 23 = .ok (.iconst 3, 1) := by decide +kernel
theorem dX6_ofContract_24 : decode cX6_ofContract 24 = .ok (.invokestatic 130, 3) := by decide +kernel
theorem dX6_ofContract_27 : decode cX6_ofContract 27 = .ok (.ifCond .eq 7, 3) := by decide +kernel
theorem dX6_ofContract_30 : decode cX6_ofContract 30 = .ok (.iconst 0, 1) := by decide +kernel
theorem dX6_ofContract_31 : decode cX6_ofContract 31 = .ok (.goto 4, 3) := by decide +kernel
theorem dX6_ofContract_34 : decode cX6_ofContract 34 = .ok (.iconst 2, 1) := by decide +kernel
theorem dX6_ofContract_35 : decode cX6_ofContract 35 = .ok (.invokevirtual 141, 3) := by decide +kernel
theorem dX6_ofContract_38 : decode cX6_ofContract 38 = .ok (.ifCond .ne 5, 3) := by decide +kernel
theorem dX6_ofContract_41 : decode cX6_ofContract 41 = .ok (.iconst 0, 1) := by decide +kernel
theorem dX6_ofContract_42 : decode cX6_ofContract 42 = .ok (.ireturn, 1) := by decide +kernel
theorem dX6_ofContract_43 : decode cX6_ofContract 43 = .ok (.iload_n 2, 1) := by decide +kernel
theorem dX6_ofContract_44 : decode cX6_ofContract 44 = .ok (.ifCond .ne 12, 3) := by decide +kernel
theorem dX6_ofContract_47 : decode cX6_ofContract 47 = .ok (.aload_n 0, 1) := by decide +kernel
theorem dX6_ofContract_48 : decode cX6_ofContract 48 = .ok (.getfield 105, 3) := by decide +kernel
theorem dX6_ofContract_51 : decode cX6_ofContract 51 = .ok (.iload_n 1, 1) := by decide +kernel
theorem dX6_ofContract_52 : decode cX6_ofContract 52 = .ok (.iaload, 1) := by decide +kernel
theorem dX6_ofContract_53 : decode cX6_ofContract 53 = .ok (.goto 45, 3) := by decide +kernel
theorem dX6_ofContract_56 : decode cX6_ofContract 56 = .ok (.iload_n 2, 1) := by decide +kernel
theorem dX6_ofContract_57 : decode cX6_ofContract 57 = .ok (.iconst 1, 1) := by decide +kernel
theorem dX6_ofContract_58 : decode cX6_ofContract 58 = .ok (.if_icmp .ne 20, 3) := by decide +kernel
theorem dX6_ofContract_61 : decode cX6_ofContract 61 = .ok (.aload_n 0, 1) := by decide +kernel
theorem dX6_ofContract_62 : decode cX6_ofContract 62 = .ok (.getfield 111, 3) := by decide +kernel
theorem dX6_ofContract_65 : decode cX6_ofContract 65 = .ok (.iload_n 1, 1) := by decide +kernel
theorem dX6_ofContract_66 : decode cX6_ofContract 66 = .ok (.baload, 1) := by decide +kernel
theorem dX6_ofContract_67 : decode cX6_ofContract 67 = .ok (.ifCond .eq 7, 3) := by decide +kernel
theorem dX6_ofContract_70 : decode cX6_ofContract 70 = .ok (.iconst 1, 1) := by decide +kernel
theorem dX6_ofContract_71 : decode cX6_ofContract 71 = .ok (.goto 27, 3) := by decide +kernel
theorem dX6_ofContract_74 : decode cX6_ofContract 74 = .ok (.iconst 0, 1) := by decide +kernel
theorem dX6_ofContract_75 : decode cX6_ofContract 75 = .ok (.goto 23, 3) := by decide +kernel
theorem dX6_ofContract_78 : decode cX6_ofContract 78 = .ok (.iload_n 2, 1) := by decide +kernel
theorem dX6_ofContract_79 : decode cX6_ofContract 79 = .ok (.iconst 2, 1) := by decide +kernel
theorem dX6_ofContract_80 : decode cX6_ofContract 80 = .ok (.if_icmp .ne 12, 3) := by decide +kernel
theorem dX6_ofContract_83 : decode cX6_ofContract 83 = .ok (.aload_n 0, 1) := by decide +kernel
theorem dX6_ofContract_84 : decode cX6_ofContract 84 = .ok (.getfield 115, 3) := by decide +kernel
theorem dX6_ofContract_87 : decode cX6_ofContract 87 = .ok (.iload_n 1, 1) := by decide +kernel
theorem dX6_ofContract_88 : decode cX6_ofContract 88 = .ok (.iaload, 1) := by decide +kernel
theorem dX6_ofContract_89 : decode cX6_ofContract 89 = .ok (.goto 9, 3) := by decide +kernel
theorem dX6_ofContract_92 : decode cX6_ofContract 92 = .ok (.aload_n 0, 1) := by decide +kernel
theorem dX6_ofContract_93 : decode cX6_ofContract 93 = .ok (.getfield 118, 3) := by decide +kernel
theorem dX6_ofContract_96 : decode cX6_ofContract 96 = .ok (.iload_n 1, 1) := by decide +kernel
theorem dX6_ofContract_97 : decode cX6_ofContract 97 = .ok (.iaload, 1) := by decide +kernel
theorem dX6_ofContract_98 : decode cX6_ofContract 98 = .ok (.ireturn, 1) := by decide +kernel
set_option maxRecDepth 20000 in
theorem ggX6_ofSilo_X6_isSilo : GoodIn wsX6_ofSilo wsX6_isSilo := goodIn_r _ [9, 10, 11, 12, 8, 13, 19, 20, 21, 22, 23, 24, 25, 26, 27, 28, 29, 30, 31, 32, 33, 34, 35, 36, 37, 38, 39, 40, 41, 42, 43, 44, 45, 46, 47, 48, 49, 50, 51, 52, 53, 54, 55, 56, 57, 58, 59, 60, 61, 62, 63, 64] (by decide +kernel) (by decide +kernel)
set_option maxRecDepth 20000 in
theorem gX6_ofSilo_X6_isSilo : GoodIn wsX6_ofSilo (wsV RX6 216 RX6 yX6_isSilo wsX6_isSilo) := goodIn_app (goodIn_of _ (by decide +kernel)) ggX6_ofSilo_X6_isSilo
set_option maxRecDepth 20000 in
theorem ggX6_ofSilo_X6_in : GoodIn wsX6_ofSilo wsX6_in := goodIn_r _ [13] (by decide +kernel) (by decide +kernel)
set_option maxRecDepth 20000 in
theorem gX6_ofSilo_X6_in : GoodIn wsX6_ofSilo (va_wsS RX6 130 yX6_in wsX6_in) := goodIn_app (goodIn_of _ (by decide +kernel)) ggX6_ofSilo_X6_in
set_option maxRecDepth 20000 in
theorem ggX6_ofSilo_X6_goesWell : GoodIn wsX6_ofSilo wsX6_goesWell := goodIn_r _ [17, 18, 19, 20, 21, 22, 23, 24, 25, 26, 27, 28, 29, 30, 31, 32, 33, 34, 35, 36, 37, 38, 39, 40, 41, 42, 43, 44, 45, 46, 47, 48, 49, 50, 51, 52, 53, 54, 55, 56, 57, 58, 59, 60, 61, 62, 63, 64] (by decide +kernel) (by decide +kernel)
set_option maxRecDepth 20000 in
theorem gX6_ofSilo_X6_goesWell : GoodIn wsX6_ofSilo (wsV RX6 141 RX6 yX6_goesWell wsX6_goesWell) := goodIn_app (goodIn_of _ (by decide +kernel)) ggX6_ofSilo_X6_goesWell
theorem dX6_ofSilo_0 : decode cX6_ofSilo 0 = .ok (.aload_n 0, 1) := by decide +kernel
theorem dX6_ofSilo_1 : decode cX6_ofSilo 1 = .ok (.iload_n 1, 1) := by decide +kernel
theorem dX6_ofSilo_2 : decode cX6_ofSilo 2 = .ok (.invokevirtual 216, 3) := by decide +kernel
theorem dX6_ofSilo_5 : decode cX6_ofSilo 5 = .ok (.istore_n 3, 1) := by decide +kernel
theorem dX6_ofSilo_6 : decode cX6_ofSilo 6 = .ok (.aload_n 0, 1) := by decide +kernel
theorem dX6_ofSilo_7 : decode cX6_ofSilo 7 = .ok (.iload_n 3, 1) := by decide +kernel
theorem dX6_ofSilo_8 : decode cX6_ofSilo 8 = .ok (.ifCond .ne 7, 3) := by decide +kernel
theorem dX6_ofSilo_11 : decode cX6_ofSilo 11 = .ok (.iconst 1, 1) := by decide +kernel
theorem dX6_ofSilo_12 : decode cX6_ofSilo 12 = .ok (.goto 17, 3) := by decide +kernel
theorem dX6_ofSilo_15 : decode cX6_ofSilo 15 = .ok (.iload_n 2, 1) := by decide +kernel
theorem dX6_ofSilo_16 : decode cX6_ofSilo 16 = .ok (.iconst 0, 1) := by decide +kernel
theorem dX6_ofSilo_17 : decode cX6_ofSilo 17 = .ok (.iconst 3, 1) := by decide +kernel
theorem dX6_ofSilo_18 : decode cX6_ofSilo 18 = .ok (.invokestatic 130, 3) := by decide +kernel
theorem dX6_ofSilo_21 : decode cX6_ofSilo 21 = .ok (.ifCond .eq 7, 3) := by decide +kernel
theorem dX6_ofSilo_24 : decode cX6_ofSilo 24 = .ok (.iconst 0, 1) := by decide +kernel
theorem dX6_ofSilo_25 : decode cX6_ofSilo 25 = .ok (.goto 4, 3) := by decide +kernel
theorem dX6_ofSilo_28 : decode cX6_ofSilo 28 = .ok (.iconst 2, 1) := by decide +kernel
theorem dX6_ofSilo_29 : decode cX6_ofSilo 29 = .ok (.invokevirtual 141, 3) := by decide +kernel
theorem dX6_ofSilo_32 : decode cX6_ofSilo 32 = .ok (.ifCond .ne 5, 3) := by decide +kernel
theorem dX6_ofSilo_35 : decode cX6_ofSilo 35 = .ok (.iconst 0, 1) := by decide +kernel
theorem dX6_ofSilo_36 : decode cX6_ofSilo 36 = .ok (.ireturn, 1) := by decide +kernel
theorem dX6_ofSilo_37 : decode cX6_ofSilo 37 = .ok (.aload_n 0, 1) := by decide +kernel
theorem dX6_ofSilo_38 : decode cX6_ofSilo 38 = .ok (.getfield 27, 3) := by decide +kernel
theorem dX6_ofSilo_41 : decode cX6_ofSilo 41 = .ok (.iload_n 1, 1) := by decide +kernel
theorem dX6_ofSilo_42 : decode cX6_ofSilo 42 = .ok (.iaload, 1) := by decide +kernel
theorem dX6_ofSilo_43 : decode cX6_ofSilo 43 = .ok (.ifCond .ne 7, 3) := by decide +kernel
theorem dX6_ofSilo_46 : decode cX6_ofSilo 46 = .ok (.iconst 1, 1) := by decide +kernel
theorem dX6_ofSilo_47 : decode cX6_ofSilo 47 = .ok (.goto 4, 3) := by decide +kernel
theorem dX6_ofSilo_50 : decode cX6_ofSilo 50 = .ok (.iconst 0, 1) := by decide +kernel
theorem dX6_ofSilo_51 : decode cX6_ofSilo 51 = .ok (.istore 4, 2) := by decide +kernel
theorem dX6_ofSilo_53 : decode cX6_ofSilo 53 = .ok (.iload_n 2, 1) := by decide +kernel
theorem dX6_ofSilo_54 : decode cX6_ofSilo 54 = .ok (.ifCond .ne 12, 3) := by decide +kernel
theorem dX6_ofSilo_57 : decode cX6_ofSilo 57 = .ok (.aload_n 0, 1) := by decide +kernel
theorem dX6_ofSilo_58 : decode cX6_ofSilo 58 = .ok (.getfield 27, 3) := by decide +kernel
theorem dX6_ofSilo_61 : decode cX6_ofSilo 61 = .ok (.iload_n 1, 1) := by decide +kernel
theorem dX6_ofSilo_62 : decode cX6_ofSilo 62 = .ok (.iaload, 1) := by decide +kernel
theorem dX6_ofSilo_63 : decode cX6_ofSilo 63 = .ok (.goto 46, 3) := by decide +kernel
theorem dX6_ofSilo_66 : decode cX6_ofSilo 66 = .ok (.iload_n 2, 1) := by decide +kernel
theorem dX6_ofSilo_67 : decode cX6_ofSilo 67 = .ok (.iconst 3, 1) := by decide +kernel
theorem dX6_ofSilo_68 : decode cX6_ofSilo 68 = .ok (.if_icmp .ne 12, 3) := by decide +kernel
theorem dX6_ofSilo_71 : decode cX6_ofSilo 71 = .ok (.aload_n 0, 1) := by decide +kernel
theorem dX6_ofSilo_72 : decode cX6_ofSilo 72 = .ok (.getfield 36, 3) := by decide +kernel
theorem dX6_ofSilo_75 : decode cX6_ofSilo 75 = .ok (.iload_n 1, 1) := by decide +kernel
theorem dX6_ofSilo_76 : decode cX6_ofSilo 76 = .ok (.iaload, 1) := by decide +kernel
theorem dX6_ofSilo_77 : decode cX6_ofSilo 77 = .ok (.goto 32, 3) := by decide +kernel
theorem dX6_ofSilo_80 : decode cX6_ofSilo 80 = .ok (.iload 4, 2) := by decide +kernel
theorem dX6_ofSilo_82 : decode cX6_ofSilo 82 = .ok (.ifCond .eq 7, 3) := by decide +kernel
theorem dX6_ofSilo_85 : decode cX6_ofSilo 85 = .ok (.iconst (-1), 1) := by decide +kernel
theorem dX6_ofSilo_86 : decode cX6_ofSilo 86 = .ok (.goto 23, 3) := by decide +kernel
theorem dX6_ofSilo_89 : decode cX6_ofSilo 89 = .ok (.iload_n 2, 1) := by decide +kernel
theorem dX6_ofSilo_90 : decode cX6_ofSilo 90 = .ok (.iconst 1, 1) := by decide +kernel
theorem dX6_ofSilo_91 : decode cX6_ofSilo 91 = .ok (.if_icmp .ne 12, 3) := by decide +kernel
theorem dX6_ofSilo_94 : decode cX6_ofSilo 94 = .ok (.aload_n 0, 1) := by decide +kernel
theorem dX6_ofSilo_95 : decode cX6_ofSilo 95 = .ok (.getfield 30, 3) := by decide +kernel
theorem dX6_ofSilo_98 : decode cX6_ofSilo 98 = .ok (.iload_n 1, 1) := by decide +kernel
theorem dX6_ofSilo_99 : decode cX6_ofSilo 99 = .ok (.iaload, 1) := by decide +kernel
theorem dX6_ofSilo_100 : decode cX6_ofSilo 100 = .ok (.goto 9, 3) := by decide +kernel
theorem dX6_ofSilo_103 : decode cX6_ofSilo 103 = .ok (.aload_n 0, 1) := by decide +kernel
theorem dX6_ofSilo_104 : decode cX6_ofSilo 104 = .ok (.getfield 33, 3) := by decide +kernel
theorem dX6_ofSilo_107 : decode cX6_ofSilo 107 = .ok (.iload_n 1, 1) := by decide +kernel
theorem dX6_ofSilo_108 : decode cX6_ofSilo 108 = .ok (.iaload, 1) := by decide +kernel
theorem dX6_ofSilo_109 : decode cX6_ofSilo 109 = .ok (.ireturn, 1) := by decide +kernel
set_option maxRecDepth 20000 in
theorem ggX6_contentAnew_X6_isSilo : GoodIn wsX6_contentAnew wsX6_isSilo := goodIn_r _ [8, 9, 10, 11, 7, 12, 18, 19, 20, 21, 22, 23, 24, 25, 26, 27, 28, 29, 30, 31, 32, 33, 34, 35, 36, 37, 38, 39, 40, 41, 42, 43, 44, 45, 46, 47, 48, 49, 50, 51, 52, 53, 54, 55, 56, 57, 58, 59, 60, 61, 62, 63] (by decide +kernel) (by decide +kernel)
set_option maxRecDepth 20000 in
theorem gX6_contentAnew_X6_isSilo : GoodIn wsX6_contentAnew (wsV RX6 216 RX6 yX6_isSilo wsX6_isSilo) := goodIn_app (goodIn_of _ (by decide +kernel)) ggX6_contentAnew_X6_isSilo
set_option maxRecDepth 20000 in
theorem ggX6_contentAnew_X6_goesWell : GoodIn wsX6_contentAnew wsX6_goesWell := goodIn_r _ [16, 17, 18, 19, 20, 21, 22, 23, 24, 25, 26, 27, 28, 29, 30, 31, 32, 33, 34, 35, 36, 37, 38, 39, 40, 41, 42, 43, 44, 45, 46, 47, 48, 49, 50, 51, 52, 53, 54, 55, 56, 57, 58, 59, 60, 61, 62, 63] (by decide +kernel) (by decide +kernel)
set_option maxRecDepth 20000 in
theorem gX6_contentAnew_X6_goesWell : GoodIn wsX6_contentAnew (wsV RX6 141 RX6 yX6_goesWell wsX6_goesWell) := goodIn_app (goodIn_of _ (by decide +kernel)) ggX6_contentAnew_X6_goesWell
theorem dX6_contentAnew_0 : decode cX6_contentAnew 0 = .ok (.aload_n 0, 1) := by decide +kernel
theorem dX6_contentAnew_1 : decode cX6_contentAnew 1 = .ok (.aload_n 0, 1) := by decide +kernel
theorem dX6_contentAnew_2 : decode cX6_contentAnew 2 = .ok (.iload_n 1, 1) := by decide +kernel
theorem dX6_contentAnew_3 : decode cX6_contentAnew 3 = .ok (.invokevirtual 216, 3) := by decide +kernel
theorem dX6_contentAnew_6 : decode cX6_contentAnew 6 = .ok (.ifCond .eq 7, 3) := by decide +kernel
theorem dX6_contentAnew_9 : decode cX6_contentAnew 9 = .ok (.iconst 0, 1) := by decide +kernel
theorem dX6_contentAnew_10 : decode cX6_contentAnew 10 = .ok (.goto 4, 3) := by decide +kernel
theorem dX6_contentAnew_13 : decode cX6_contentAnew 13 = .ok (.iconst 1, 1) := by decide +kernel
theorem dX6_contentAnew_14 : decode cX6_contentAnew 14 = .ok (.invokevirtual 141, 3) := by decide +kernel
theorem dX6_contentAnew_17 : decode cX6_contentAnew 17 = .ok (.ifCond .ne 5, 3) := by decide +kernel
theorem dX6_contentAnew_20 : decode cX6_contentAnew 20 = .ok (.iconst 0, 1) := by decide +kernel
theorem dX6_contentAnew_21 : decode cX6_contentAnew 21 = .ok (.ireturn, 1) := by decide +kernel
theorem dX6_contentAnew_22 : decode cX6_contentAnew 22 = .ok (.iconst 0, 1) := by decide +kernel
theorem dX6_contentAnew_23 : decode cX6_contentAnew 23 = .ok (.istore_n 2, 1) := by decide +kernel
theorem dX6_contentAnew_24 : decode cX6_contentAnew 24 = .ok (.iconst 0, 1) := by decide +kernel
theorem dX6_contentAnew_25 : decode cX6_contentAnew 25 = .ok (.istore_n 3, 1) := by decide +kernel
theorem dX6_contentAnew_26 : decode cX6_contentAnew 26 = .ok (.iload_n 3, 1) := by decide +kernel
theorem dX6_contentAnew_27 : decode cX6_contentAnew 27 = .ok (.aload_n 0, 1) := by decide +kernel
theorem dX6_contentAnew_28 : decode cX6_contentAnew 28 = .ok (.getfield 134, 3) := by decide +kernel
theorem dX6_contentAnew_31 : decode cX6_contentAnew 31 = .ok (.if_icmp .ge 32, 3) := by decide +kernel
theorem dX6_contentAnew_34 : decode cX6_contentAnew 34 = .ok (.iload_n 2, 1) := by decide +kernel
theorem dX6_contentAnew_35 : decode cX6_contentAnew 35 = .ok (.aload_n 0, 1) := by decide +kernel
theorem dX6_contentAnew_36 : decode cX6_contentAnew 36 = .ok (.getfield 63, 3) := by decide +kernel
theorem dX6_contentAnew_39 : decode cX6_contentAnew 39 = .ok (.iload_n 3, 1) := by decide +kernel
theorem dX6_contentAnew_40 : decode cX6_contentAnew 40 = .ok (.iaload, 1) := by decide +kernel
theorem dX6_contentAnew_41 : decode cX6_contentAnew 41 = .ok (.iload_n 1, 1) := by decide +kernel
theorem dX6_contentAnew_42 : decode cX6_contentAnew 42 = .ok (.if_icmp .ne 12, 3) := by decide +kernel
theorem dX6_contentAnew_45 : decode cX6_contentAnew 45 = .ok (.aload_n 0, 1) := by decide +kernel
theorem dX6_contentAnew_46 : decode cX6_contentAnew 46 = .ok (.getfield 57, 3) := by decide +kernel
theorem dX6_contentAnew_49 : decode cX6_contentAnew 49 = .ok (.iload_n 3, 1) := by decide +kernel
theorem dX6_contentAnew_50 : decode cX6_contentAnew 50 = .ok (.iaload, 1) := by decide +kernel
theorem dX6_contentAnew_51 : decode cX6_contentAnew 51 = .ok (.goto 4, 3) := by decide +kernel
theorem dX6_contentAnew_54 : decode cX6_contentAnew 54 = .ok (.iconst 0, 1) := by decide +kernel
theorem dX6_contentAnew_55 : decode cX6_contentAnew 55 = .ok (.iadd, 1) := by decide +kernel
theorem dX6_contentAnew_56 : decode cX6_contentAnew 56 = .ok (.istore_n 2, 1) := by decide +kernel
theorem dX6_contentAnew_57 : decode cX6_contentAnew 57 = .ok (.iinc 3 1, 3) := by decide +kernel
theorem dX6_contentAnew_60 : decode cX6_contentAnew 60 = .ok (.goto (-34), 3) := by decide +kernel
theorem dX6_contentAnew_63 : decode cX6_contentAnew 63 = .ok (.iload_n 2, 1) := by decide +kernel
theorem dX6_contentAnew_64 : decode cX6_contentAnew 64 = .ok (.ireturn, 1) := by decide +kernel
set_option maxRecDepth 20000 in
theorem ggX6_account_X6_isHolder : GoodIn wsX6_account wsX6_isHolder := goodIn_r _ [5, 6, 7, 4, 8] (by decide +kernel) (by decide +kernel)
set_option maxRecDepth 20000 in
theorem gX6_account_X6_isHolder : GoodIn wsX6_account (va_wsS RX6 163 yX6_isHolder wsX6_isHolder) := goodIn_app (goodIn_of _ (by decide +kernel)) ggX6_account_X6_isHolder
set_option maxRecDepth 20000 in
theorem ggX6_account_X6_goesWell : GoodIn wsX6_account wsX6_goesWell := goodIn_r _ [12, 13, 14, 15, 16, 17, 18, 19, 20, 21, 22, 23, 24, 25, 26, 27, 28, 29, 30, 31, 32, 33, 34, 35, 36, 37, 38, 39, 40, 41, 42, 43, 44, 45, 46, 47, 48, 49, 50, 51, 52, 53, 54, 55, 56, 57, 58, 59] (by decide +kernel) (by decide +kernel)
set_option maxRecDepth 20000 in
theorem gX6_account_X6_goesWell : GoodIn wsX6_account (wsV RX6 141 RX6 yX6_goesWell wsX6_goesWell) := goodIn_app (goodIn_of _ (by decide +kernel)) ggX6_account_X6_goesWell
theorem dX6_account_0 : decode cX6_account 0 = .ok (.aload_n 0, 1) := by decide +kernel
theorem dX6_account_1 : decode cX6_account 1 = .ok (.iload_n 1, 1) := by decide +kernel
theorem dX6_account_2 : decode cX6_account 2 = .ok (.invokestatic 163, 3) := by decide +kernel
theorem dX6_account_5 : decode cX6_account 5 = .ok (.ifCond .eq 7, 3) := by decide +kernel
theorem dX6_account_8 : decode cX6_account 8 = .ok (.iconst 0, 1) := by decide +kernel
theorem dX6_account_9 : decode cX6_account 9 = .ok (.goto 4, 3) := by decide +kernel
theorem dX6_account_12 : decode cX6_account 12 = .ok (.iconst 1, 1) := by decide +kernel
theorem dX6_account_13 : decode cX6_account 13 = .ok (.invokevirtual 141, 3) := by decide +kernel
theorem dX6_account_16 : decode cX6_account 16 = .ok (.ifCond .eq 12, 3) := by decide +kernel
theorem dX6_account_19 : decode cX6_account 19 = .ok (.aload_n 0, 1) := by decide +kernel
theorem dX6_account_20 : decode cX6_account 20 = .ok (.getfield 16, 3) := by decide +kernel
theorem dX6_account_23 : decode cX6_account 23 = .ok (.iload_n 1, 1) := by decide +kernel
theorem dX6_account_24 : decode cX6_account 24 = .ok (.laload, 1) := by decide +kernel
theorem dX6_account_25 : decode cX6_account 25 = .ok (.goto 4, 3) := by decide +kernel
theorem dX6_account_28 : decode cX6_account 28 = .ok (.lconst 0, 1) := by decide +kernel
theorem dX6_account_29 : decode cX6_account 29 = .ok (.lreturn, 1) := by decide +kernel
set_option maxRecDepth 20000 in
theorem ggX6_owes_X6_isHolder : GoodIn wsX6_owes wsX6_isHolder := goodIn_r _ [5, 6, 7, 4, 8] (by decide +kernel) (by decide +kernel)
set_option maxRecDepth 20000 in
theorem gX6_owes_X6_isHolder : GoodIn wsX6_owes (va_wsS RX6 163 yX6_isHolder wsX6_isHolder) := goodIn_app (goodIn_of _ (by decide +kernel)) ggX6_owes_X6_isHolder
set_option maxRecDepth 20000 in
theorem ggX6_owes_X6_goesWell : GoodIn wsX6_owes wsX6_goesWell := goodIn_r _ [12, 13, 14, 15, 16, 17, 18, 19, 20, 21, 22, 23, 24, 25, 26, 27, 28, 29, 30, 31, 32, 33, 34, 35, 36, 37, 38, 39, 40, 41, 42, 43, 44, 45, 46, 47, 48, 49, 50, 51, 52, 53, 54, 55, 56, 57, 58, 59] (by decide +kernel) (by decide +kernel)
set_option maxRecDepth 20000 in
theorem gX6_owes_X6_goesWell : GoodIn wsX6_owes (wsV RX6 141 RX6 yX6_goesWell wsX6_goesWell) := goodIn_app (goodIn_of _ (by decide +kernel)) ggX6_owes_X6_goesWell
theorem dX6_owes_0 : decode cX6_owes 0 = .ok (.aload_n 0, 1) := by decide +kernel
theorem dX6_owes_1 : decode cX6_owes 1 = .ok (.iload_n 1, 1) := by decide +kernel
theorem dX6_owes_2 : decode cX6_owes 2 = .ok (.invokestatic 163, 3) := by decide +kernel
theorem dX6_owes_5 : decode cX6_owes 5 = .ok (.ifCond .eq 7, 3) := by decide +kernel
theorem dX6_owes_8 : decode cX6_owes 8 = .ok (.iconst 0, 1) := by decide +kernel
theorem dX6_owes_9 : decode cX6_owes 9 = .ok (.goto 4, 3) := by decide +kernel
theorem dX6_owes_12 : decode cX6_owes 12 = .ok (.iconst 1, 1) := by decide +kernel
theorem dX6_owes_13 : decode cX6_owes 13 = .ok (.invokevirtual 141, 3) := by decide +kernel
theorem dX6_owes_16 : decode cX6_owes 16 = .ok (.ifCond .eq 12, 3) := by decide +kernel
theorem dX6_owes_19 : decode cX6_owes 19 = .ok (.aload_n 0, 1) := by decide +kernel
theorem dX6_owes_20 : decode cX6_owes 20 = .ok (.getfield 20, 3) := by decide +kernel
theorem dX6_owes_23 : decode cX6_owes 23 = .ok (.iload_n 1, 1) := by decide +kernel
theorem dX6_owes_24 : decode cX6_owes 24 = .ok (.iaload, 1) := by decide +kernel
theorem dX6_owes_25 : decode cX6_owes 25 = .ok (.goto 4, 3) := by decide +kernel
theorem dX6_owes_28 : decode cX6_owes 28 = .ok (.iconst 0, 1) := by decide +kernel
theorem dX6_owes_29 : decode cX6_owes 29 = .ok (.ireturn, 1) := by decide +kernel
set_option maxRecDepth 20000 in
theorem ggX6_holds_X6_isHolder : GoodIn wsX6_holds wsX6_isHolder := goodIn_r _ [8, 9, 10, 7, 11] (by decide +kernel) (by decide +kernel)
set_option maxRecDepth 20000 in
theorem gX6_holds_X6_isHolder : GoodIn wsX6_holds (va_wsS RX6 163 yX6_isHolder wsX6_isHolder) := goodIn_app (goodIn_of _ (by decide +kernel)) ggX6_holds_X6_isHolder
set_option maxRecDepth 20000 in
theorem ggX6_holds_X6_isKind : GoodIn wsX6_holds wsX6_isKind := goodIn_r _ [14, 9, 10, 7, 11] (by decide +kernel) (by decide +kernel)
set_option maxRecDepth 20000 in
theorem gX6_holds_X6_isKind : GoodIn wsX6_holds (va_wsS RX6 166 yX6_isKind wsX6_isKind) := goodIn_app (goodIn_of _ (by decide +kernel)) ggX6_holds_X6_isKind
set_option maxRecDepth 20000 in
theorem ggX6_holds_X6_goesWell : GoodIn wsX6_holds wsX6_goesWell := goodIn_r _ [18, 19, 27, 28, 29, 30, 31, 32, 33, 34, 35, 36, 37, 38, 39, 40, 41, 42, 43, 44, 45, 46, 47, 48, 49, 50, 51, 52, 53, 54, 55, 56, 57, 58, 59, 60, 61, 62, 63, 64, 65, 66, 67, 68, 69, 70, 71, 72] (by decide +kernel) (by decide +kernel)
set_option maxRecDepth 20000 in
theorem gX6_holds_X6_goesWell : GoodIn wsX6_holds (wsV RX6 141 RX6 yX6_goesWell wsX6_goesWell) := goodIn_app (goodIn_of _ (by decide +kernel)) ggX6_holds_X6_goesWell
set_option maxRecDepth 20000 in
theorem ggX6_holds_X6_isOf : GoodIn wsX6_holds wsX6_isOf := goodIn_r _ [23, 24, 25, 26, 27, 28, 29, 30, 31, 32, 33, 34, 35, 36, 37, 38, 39, 40, 41, 42, 43, 44, 45, 46, 47, 48, 49, 50, 51, 52, 53, 54, 55, 56, 57, 58, 59, 60, 61, 62, 63, 64, 65, 66, 67, 68, 69, 70, 71, 72] (by decide +kernel) (by decide +kernel)
set_option maxRecDepth 20000 in
theorem gX6_holds_X6_isOf : GoodIn wsX6_holds (wsV RX6 150 RX6 yX6_isOf wsX6_isOf) := goodIn_app (goodIn_of _ (by decide +kernel)) ggX6_holds_X6_isOf
theorem dX6_holds_0 : decode cX6_holds 0 = .ok (.iload_n 1, 1) := by decide +kernel
theorem dX6_holds_1 : decode cX6_holds 1 = .ok (.invokestatic 163, 3) := by decide +kernel
theorem dX6_holds_4 : decode cX6_holds 4 = .ok (.istore 4, 2) := by decide +kernel
theorem dX6_holds_6 : decode cX6_holds 6 = .ok (.aload_n 0, 1) := by decide +kernel
theorem dX6_holds_7 : decode cX6_holds 7 = .ok (.iload 4, 2) := by decide +kernel
theorem dX6_holds_9 : decode cX6_holds 9 = .ok (.ifCond .ne 7, 3) := by decide +kernel
theorem dX6_holds_12 : decode cX6_holds 12 = .ok (.iconst 1, 1) := by decide +kernel
theorem dX6_holds_13 : decode cX6_holds 13 = .ok (.goto 22, 3) := by decide +kernel
theorem dX6_holds_16 : decode cX6_holds 16 = .ok (.iload_n 2, 1) := by decide +kernel
theorem dX6_holds_17 : decode cX6_holds 17 = .ok (.invokestatic 166, 3) := by decide +kernel
theorem dX6_holds_20 : decode cX6_holds 20 = .ok (.ifCond .eq 14, 3) := by decide +kernel
theorem dX6_holds_23 : decode cX6_holds 23 = .ok (.iload_n 3, 1) := by decide +kernel
theorem dX6_holds_24 : decode cX6_holds 24 = .ok (.invokestatic 166, 3) := by decide +kernel
theorem dX6_holds_27 : decode cX6_holds 27 = .ok (.ifCond .eq 7, 3) := by decide +kernel
theorem dX6_holds_30 : decode cX6_holds 30 = .ok (.iconst 0, 1) := by decide +kernel
theorem dX6_holds_31 : decode cX6_holds 31 = .ok (.goto 4, 3) := by decide +kernel
theorem dX6_holds_34 : decode cX6_holds 34 = .ok (.iconst 2, 1) := by decide +kernel
theorem dX6_holds_35 : decode cX6_holds 35 = .ok (.invokevirtual 141, 3) := by decide +kernel
theorem dX6_holds_38 : decode cX6_holds 38 = .ok (.ifCond .ne 5, 3) := by decide +kernel
theorem dX6_holds_41 : decode cX6_holds 41 = .ok (.iconst 0, 1) := by decide +kernel
theorem dX6_holds_42 : decode cX6_holds 42 = .ok (.ireturn, 1) := by decide +kernel
theorem dX6_holds_43 : decode cX6_holds 43 = .ok (.iconst 0, 1) := by decide +kernel
theorem dX6_holds_44 : decode cX6_holds 44 = .ok (.istore 5, 2) := by decide +kernel
theorem dX6_holds_46 : decode cX6_holds 46 = .ok (.iconst 0, 1) := by decide +kernel
theorem dX6_holds_47 : decode cX6_holds 47 = .ok (.istore 6, 2) := by decide +kernel
theorem dX6_holds_49 : decode cX6_holds 49 = .ok (.iload 6, 2) := by decide +kernel
theorem dX6_holds_51 : decode cX6_holds 51 = .ok (.aload_n 0, 1) := by decide +kernel
theorem dX6_holds_52 : decode cX6_holds 52 = .ok (.getfield 134, 3) := by decide +kernel
theorem dX6_holds_55 : decode cX6_holds 55 = .ok (.if_icmp .ge 52, 3) := by decide +kernel
theorem dX6_holds_58 : decode cX6_holds 58 = .ok (.iload 5, 2) := by decide +kernel
theorem dX6_holds_60 : decode cX6_holds 60 = .ok (.aload_n 0, 1) := by decide +kernel
theorem dX6_holds_61 : decode cX6_holds 61 = .ok (.getfield 60, 3) := by decide +kernel
theorem dX6_holds_64 : decode cX6_holds 64 = .ok (.iload 6, 2) := by decide +kernel
theorem dX6_holds_66 : decode cX6_holds 66 = .ok (.iaload, 1) := by decide +kernel
theorem dX6_holds_67 : decode cX6_holds 67 = .ok (.iload_n 1, 1) := by decide +kernel
theorem dX6_holds_68 : decode cX6_holds 68 = .ok (.if_icmp .ne 29, 3) := by decide +kernel
theorem dX6_holds_71 : decode cX6_holds 71 = .ok (.aload_n 0, 1) := by decide +kernel
theorem dX6_holds_72 : decode cX6_holds 72 = .ok (.aload_n 0, 1) := by decide +kernel
theorem dX6_holds_73 : decode cX6_holds 73 = .ok (.getfield 63, 3) := by decide +kernel
theorem dX6_holds_76 : decode cX6_holds 76 = .ok (.iload 6, 2) := by decide +kernel
theorem dX6_holds_78 : decode cX6_holds 78 = .ok (.iaload, 1) := by decide +kernel
theorem dX6_holds_79 : decode cX6_holds 79 = .ok (.iload_n 2, 1) := by decide +kernel
theorem dX6_holds_80 : decode cX6_holds 80 = .ok (.iload_n 3, 1) := by decide +kernel
theorem dX6_holds_81 : decode cX6_holds 81 = .ok (.invokevirtual 150, 3) := by decide +kernel
theorem dX6_holds_84 : decode cX6_holds 84 = .ok (.ifCond .eq 13, 3) := by decide +kernel
theorem dX6_holds_87 : decode cX6_holds 87 = .ok (.aload_n 0, 1) := by decide +kernel
theorem dX6_holds_88 : decode cX6_holds 88 = .ok (.getfield 57, 3) := by decide +kernel
theorem dX6_holds_91 : decode cX6_holds 91 = .ok (.iload 6, 2) := by decide +kernel
theorem dX6_holds_93 : decode cX6_holds 93 = .ok (.iaload, 1) := by decide +kernel
theorem dX6_holds_94 : decode cX6_holds 94 = .ok (.goto 4, 3) := by decide +kernel
theorem dX6_holds_97 : decode cX6_holds 97 = .ok (.iconst 0, 1) := by decide +kernel
theorem dX6_holds_98 : decode cX6_holds 98 = .ok (.iadd, 1) := by decide +kernel
theorem dX6_holds_99 : decode cX6_holds 99 = .ok (.istore 5, 2) := by decide +kernel
theorem dX6_holds_101 : decode cX6_holds 101 = .ok (.iinc 6 1, 3) := by decide +kernel
theorem dX6_holds_104 : decode cX6_holds 104 = .ok (.goto (-55), 3) := by decide +kernel
theorem dX6_holds_107 : decode cX6_holds 107 = .ok (.iload 5, 2) := by decide +kernel
theorem dX6_holds_109 : decode cX6_holds 109 = .ok (.ireturn, 1) := by decide +kernel
set_option maxRecDepth 20000 in
theorem ggX6_ownerOn_X6_isReceipt : GoodIn wsX6_ownerOn wsX6_isReceipt := goodIn_r _ [10, 11, 12, 13, 9, 14, 20, 21, 22, 23, 24, 25, 26, 27, 28, 29, 30, 31, 32, 33, 34, 35, 36, 37, 38, 39, 40, 41, 42, 43, 44, 45, 46, 47, 48, 49, 50, 51, 52, 53, 54, 55, 56, 57, 58, 59, 60, 61, 62, 63, 64, 65] (by decide +kernel) (by decide +kernel)
set_option maxRecDepth 20000 in
theorem gX6_ownerOn_X6_isReceipt : GoodIn wsX6_ownerOn (wsV RX6 185 RX6 yX6_isReceipt wsX6_isReceipt) := goodIn_app (goodIn_of _ (by decide +kernel)) ggX6_ownerOn_X6_isReceipt
set_option maxRecDepth 20000 in
theorem ggX6_ownerOn_X6_in : GoodIn wsX6_ownerOn wsX6_in := goodIn_r _ [14] (by decide +kernel) (by decide +kernel)
set_option maxRecDepth 20000 in
theorem gX6_ownerOn_X6_in : GoodIn wsX6_ownerOn (va_wsS RX6 130 yX6_in wsX6_in) := goodIn_app (goodIn_of _ (by decide +kernel)) ggX6_ownerOn_X6_in
set_option maxRecDepth 20000 in
theorem ggX6_ownerOn_X6_goesWell : GoodIn wsX6_ownerOn wsX6_goesWell := goodIn_r _ [18, 19, 20, 21, 22, 23, 24, 25, 26, 27, 28, 29, 30, 31, 32, 33, 34, 35, 36, 37, 38, 39, 40, 41, 42, 43, 44, 45, 46, 47, 48, 49, 50, 51, 52, 53, 54, 55, 56, 57, 58, 59, 60, 61, 62, 63, 64, 65] (by decide +kernel) (by decide +kernel)
set_option maxRecDepth 20000 in
theorem gX6_ownerOn_X6_goesWell : GoodIn wsX6_ownerOn (wsV RX6 141 RX6 yX6_goesWell wsX6_goesWell) := goodIn_app (goodIn_of _ (by decide +kernel)) ggX6_ownerOn_X6_goesWell
theorem dX6_ownerOn_0 : decode cX6_ownerOn 0 = .ok (.aload_n 0, 1) := by decide +kernel
theorem dX6_ownerOn_1 : decode cX6_ownerOn 1 = .ok (.iload_n 1, 1) := by decide +kernel
theorem dX6_ownerOn_2 : decode cX6_ownerOn 2 = .ok (.invokevirtual 185, 3) := by decide +kernel
theorem dX6_ownerOn_5 : decode cX6_ownerOn 5 = .ok (.istore_n 3, 1) := by decide +kernel
theorem dX6_ownerOn_6 : decode cX6_ownerOn 6 = .ok (.aload_n 0, 1) := by decide +kernel
theorem dX6_ownerOn_7 : decode cX6_ownerOn 7 = .ok (.iload_n 3, 1) := by decide +kernel
theorem dX6_ownerOn_8 : decode cX6_ownerOn 8 = .ok (.ifCond .ne 7, 3) := by decide +kernel
theorem dX6_ownerOn_11 : decode cX6_ownerOn 11 = .ok (.iconst 1, 1) := by decide +kernel
theorem dX6_ownerOn_12 : decode cX6_ownerOn 12 = .ok (.goto 20, 3) := by decide +kernel
theorem dX6_ownerOn_15 : decode cX6_ownerOn 15 = .ok (.iload_n 2, 1) := by decide +kernel
theorem dX6_ownerOn_16 : decode cX6_ownerOn 16 = .ok (.iconst 0, 1) := by decide +kernel
theorem dX6_ownerOn_17 : decode cX6_ownerOn 17 = .ok (.aload_n 0, 1) := by decide +kernel
theorem dX6_ownerOn_18 : decode cX6_ownerOn 18 = .ok (.getfield 156, 3) := by decide +kernel
theorem dX6_ownerOn_21 : decode cX6_ownerOn 21 = .ok (.invokestatic 130, 3) := by decide +kernel
theorem dX6_ownerOn_24 : decode cX6_ownerOn 24 = .ok (.ifCond .eq 7, 3) := by decide +kernel
theorem dX6_ownerOn_27 : decode cX6_ownerOn 27 = .ok (.iconst 0, 1) := by decide +kernel
theorem dX6_ownerOn_28 : decode cX6_ownerOn 28 = .ok (.goto 4, 3) := by decide +kernel
theorem dX6_ownerOn_31 : decode cX6_ownerOn 31 = .ok (.iconst 2, 1) := by decide +kernel
theorem dX6_ownerOn_32 : decode cX6_ownerOn 32 = .ok (.invokevirtual 141, 3) := by decide +kernel
theorem dX6_ownerOn_35 : decode cX6_ownerOn 35 = .ok (.ifCond .ne 5, 3) := by decide +kernel
theorem dX6_ownerOn_38 : decode cX6_ownerOn 38 = .ok (.iconst 0, 1) := by decide +kernel
theorem dX6_ownerOn_39 : decode cX6_ownerOn 39 = .ok (.ireturn, 1) := by decide +kernel
theorem dX6_ownerOn_40 : decode cX6_ownerOn 40 = .ok (.iconst (-1), 1) := by decide +kernel
theorem dX6_ownerOn_41 : decode cX6_ownerOn 41 = .ok (.istore 4, 2) := by decide +kernel
theorem dX6_ownerOn_43 : decode cX6_ownerOn 43 = .ok (.iconst 0, 1) := by decide +kernel
theorem dX6_ownerOn_44 : decode cX6_ownerOn 44 = .ok (.istore 5, 2) := by decide +kernel
theorem dX6_ownerOn_46 : decode cX6_ownerOn 46 = .ok (.iload 5, 2) := by decide +kernel
theorem dX6_ownerOn_48 : decode cX6_ownerOn 48 = .ok (.aload_n 0, 1) := by decide +kernel
theorem dX6_ownerOn_49 : decode cX6_ownerOn 49 = .ok (.getfield 153, 3) := by decide +kernel
theorem dX6_ownerOn_52 : decode cX6_ownerOn 52 = .ok (.if_icmp .ge 45, 3) := by decide +kernel
theorem dX6_ownerOn_55 : decode cX6_ownerOn 55 = .ok (.aload_n 0, 1) := by decide +kernel
theorem dX6_ownerOn_56 : decode cX6_ownerOn 56 = .ok (.getfield 81, 3) := by decide +kernel
theorem dX6_ownerOn_59 : decode cX6_ownerOn 59 = .ok (.iload 5, 2) := by decide +kernel
theorem dX6_ownerOn_61 : decode cX6_ownerOn 61 = .ok (.iaload, 1) := by decide +kernel
theorem dX6_ownerOn_62 : decode cX6_ownerOn 62 = .ok (.iload_n 1, 1) := by decide +kernel
theorem dX6_ownerOn_63 : decode cX6_ownerOn 63 = .ok (.if_icmp .ne 24, 3) := by decide +kernel
theorem dX6_ownerOn_66 : decode cX6_ownerOn 66 = .ok (.aload_n 0, 1) := by decide +kernel
theorem dX6_ownerOn_67 : decode cX6_ownerOn 67 = .ok (.getfield 84, 3) := by decide +kernel
theorem dX6_ownerOn_70 : decode cX6_ownerOn 70 = .ok (.iload 5, 2) := by decide +kernel
theorem dX6_ownerOn_72 : decode cX6_ownerOn 72 = .ok (.iaload, 1) := by decide +kernel
theorem dX6_ownerOn_73 : decode cX6_ownerOn 73 = .ok (.iload_n 2, 1) := by decide +kernel
theorem dX6_ownerOn_74 : decode cX6_ownerOn 74 = .ok (.if_icmp .gt 13, 3) := by decide +kernel
theorem dX6_ownerOn_77 : decode cX6_ownerOn 77 = .ok (.aload_n 0, 1) := by decide +kernel
theorem dX6_ownerOn_78 : decode cX6_ownerOn 78 = .ok (.getfield 87, 3) := by decide +kernel
theorem dX6_ownerOn_81 : decode cX6_ownerOn 81 = .ok (.iload 5, 2) := by decide +kernel
theorem dX6_ownerOn_83 : decode cX6_ownerOn 83 = .ok (.iaload, 1) := by decide +kernel
theorem dX6_ownerOn_84 : decode cX6_ownerOn 84 = .ok (.goto 5, 3) := by decide +kernel
theorem dX6_ownerOn_87 : decode cX6_ownerOn 87 = .ok (.iload 4, 2) := by decide +kernel
theorem dX6_ownerOn_89 : decode cX6_ownerOn 89 = .ok (.istore 4, 2) := by decide +kernel
theorem dX6_ownerOn_91 : decode cX6_ownerOn 91 = .ok (.iinc 5 1, 3) := by decide +kernel
theorem dX6_ownerOn_94 : decode cX6_ownerOn 94 = .ok (.goto (-48), 3) := by decide +kernel
theorem dX6_ownerOn_97 : decode cX6_ownerOn 97 = .ok (.iload 4, 2) := by decide +kernel
theorem dX6_ownerOn_99 : decode cX6_ownerOn 99 = .ok (.ireturn, 1) := by decide +kernel
