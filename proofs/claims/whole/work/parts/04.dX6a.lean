theorem dX6_init_0 : decode cX6_init 0 = .ok (.aload_n 0, 1) := by decide +kernel
theorem dX6_init_1 : decode cX6_init 1 = .ok (.invokespecial 1, 3) := by decide +kernel
theorem dX6_init_4 : decode cX6_init 4 = .ok (.aload_n 0, 1) := by decide +kernel
theorem dX6_init_5 : decode cX6_init 5 = .ok (.bipush 20, 2) := by decide +kernel
theorem dX6_init_7 : decode cX6_init 7 = .ok (.putfield 7, 3) := by decide +kernel
theorem dX6_init_10 : decode cX6_init 10 = .ok (.aload_n 0, 1) := by decide +kernel
theorem dX6_init_11 : decode cX6_init 11 = .ok (.iconst 5, 1) := by decide +kernel
theorem dX6_init_12 : decode cX6_init 12 = .ok (.putfield 13, 3) := by decide +kernel
theorem dX6_init_15 : decode cX6_init 15 = .ok (.aload_n 0, 1) := by decide +kernel
theorem dX6_init_16 : decode cX6_init 16 = .ok (.bipush 6, 2) := by decide +kernel
theorem dX6_init_18 : decode cX6_init 18 = .ok (.newarray .long, 2) := by decide +kernel
theorem dX6_init_20 : decode cX6_init 20 = .ok (.putfield 16, 3) := by decide +kernel
theorem dX6_init_23 : decode cX6_init 23 = .ok (.aload_n 0, 1) := by decide +kernel
theorem dX6_init_24 : decode cX6_init 24 = .ok (.bipush 6, 2) := by decide +kernel
theorem dX6_init_26 : decode cX6_init 26 = .ok (.newarray .int, 2) := by decide +kernel
theorem dX6_init_28 : decode cX6_init 28 = .ok (.putfield 20, 3) := by decide +kernel
theorem dX6_init_31 : decode cX6_init 31 = .ok (.aload_n 0, 1) := by decide +kernel
theorem dX6_init_32 : decode cX6_init 32 = .ok (.bipush 6, 2) := by decide +kernel
theorem dX6_init_34 : decode cX6_init 34 = .ok (.newarray .int, 2) := by decide +kernel
theorem dX6_init_36 : decode cX6_init 36 = .ok (.putfield 24, 3) := by decide +kernel
theorem dX6_init_39 : decode cX6_init 39 = .ok (.aload_n 0, 1) := by decide +kernel
theorem dX6_init_40 : decode cX6_init 40 = .ok (.bipush 6, 2) := by decide +kernel
theorem dX6_init_42 : decode cX6_init 42 = .ok (.newarray .int, 2) := by decide +kernel
theorem dX6_init_44 : decode cX6_init 44 = .ok (.putfield 27, 3) := by decide +kernel
theorem dX6_init_47 : decode cX6_init 47 = .ok (.aload_n 0, 1) := by decide +kernel
theorem dX6_init_48 : decode cX6_init 48 = .ok (.bipush 6, 2) := by decide +kernel
theorem dX6_init_50 : decode cX6_init 50 = .ok (.newarray .int, 2) := by decide +kernel
theorem dX6_init_52 : decode cX6_init 52 = .ok (.putfield 30, 3) := by decide +kernel
theorem dX6_init_55 : decode cX6_init 55 = .ok (.aload_n 0, 1) := by decide +kernel
theorem dX6_init_56 : decode cX6_init 56 = .ok (.bipush 6, 2) := by decide +kernel
theorem dX6_init_58 : decode cX6_init 58 = .ok (.newarray .int, 2) := by decide +kernel
theorem dX6_init_60 : decode cX6_init 60 = .ok (.putfield 33, 3) := by decide +kernel
theorem dX6_init_63 : decode cX6_init 63 = .ok (.aload_n 0, 1) := by decide +kernel
theorem dX6_init_64 : decode cX6_init 64 = .ok (.bipush 6, 2) := by decide +kernel
theorem dX6_init_66 : decode cX6_init 66 = .ok (.newarray .int, 2) := by decide +kernel
theorem dX6_init_68 : decode cX6_init 68 = .ok (.putfield 36, 3) := by decide +kernel
theorem dX6_init_71 : decode cX6_init 71 = .ok (.aload_n 0, 1) := by decide +kernel
theorem dX6_init_72 : decode cX6_init 72 = .ok (.bipush 40, 2) := by decide +kernel
theorem dX6_init_74 : decode cX6_init 74 = .ok (.newarray .int, 2) := by decide +kernel
theorem dX6_init_76 : decode cX6_init 76 = .ok (.putfield 39, 3) := by decide +kernel
theorem dX6_init_79 : decode cX6_init 79 = .ok (.aload_n 0, 1) := by decide +kernel
theorem dX6_init_80 : decode cX6_init 80 = .ok (.bipush 40, 2) := by decide +kernel
theorem dX6_init_82 : decode cX6_init 82 = .ok (.newarray .int, 2) := by decide +kernel
theorem dX6_init_84 : decode cX6_init 84 = .ok (.putfield 42, 3) := by decide +kernel
theorem dX6_init_87 : decode cX6_init 87 = .ok (.aload_n 0, 1) := by decide +kernel
theorem dX6_init_88 : decode cX6_init 88 = .ok (.bipush 40, 2) := by decide +kernel
theorem dX6_init_90 : decode cX6_init 90 = .ok (.newarray .int, 2) := by decide +kernel
theorem dX6_init_92 : decode cX6_init 92 = .ok (.putfield 45, 3) := by decide +kernel
theorem dX6_init_95 : decode cX6_init 95 = .ok (.aload_n 0, 1) := by decide +kernel
theorem dX6_init_96 : decode cX6_init 96 = .ok (.bipush 40, 2) := by decide +kernel
theorem dX6_init_98 : decode cX6_init 98 = .ok (.newarray .int, 2) := by decide +kernel
theorem dX6_init_100 : decode cX6_init 100 = .ok (.putfield 48, 3) := by decide +kernel
theorem dX6_init_103 : decode cX6_init 103 = .ok (.aload_n 0, 1) := by decide +kernel
theorem dX6_init_104 : decode cX6_init 104 = .ok (.bipush 40, 2) := by decide +kernel
theorem dX6_init_106 : decode cX6_init 106 = .ok (.newarray .int, 2) := by decide +kernel
theorem dX6_init_108 : decode cX6_init 108 = .ok (.putfield 51, 3) := by decide +kernel
theorem dX6_init_111 : decode cX6_init 111 = .ok (.aload_n 0, 1) := by decide +kernel
theorem dX6_init_112 : decode cX6_init 112 = .ok (.bipush 40, 2) := by decide +kernel
theorem dX6_init_114 : decode cX6_init 114 = .ok (.newarray .int, 2) := by decide +kernel
theorem dX6_init_116 : decode cX6_init 116 = .ok (.putfield 54, 3) := by decide +kernel
theorem dX6_init_119 : decode cX6_init 119 = .ok (.aload_n 0, 1) := by decide +kernel
theorem dX6_init_120 : decode cX6_init 120 = .ok (.bipush 80, 2) := by decide +kernel
theorem dX6_init_122 : decode cX6_init 122 = .ok (.newarray .int, 2) := by decide +kernel
theorem dX6_init_124 : decode cX6_init 124 = .ok (.putfield 57, 3) := by decide +kernel
theorem dX6_init_127 : decode cX6_init 127 = .ok (.aload_n 0, 1) := by decide +kernel
theorem dX6_init_128 : decode cX6_init 128 = .ok (.bipush 80, 2) := by decide +kernel
theorem dX6_init_130 : decode cX6_init 130 = .ok (.newarray .int, 2) := by decide +kernel
theorem dX6_init_132 : decode cX6_init 132 = .ok (.putfield 60, 3) := by decide +kernel
theorem dX6_init_135 : decode cX6_init 135 = .ok (.aload_n 0, 1) := by decide +kernel
theorem dX6_init_136 : decode cX6_init 136 = .ok (.bipush 80, 2) := by decide +kernel
theorem dX6_init_138 : decode cX6_init 138 = .ok (.newarray .int, 2) := by decide +kernel
theorem dX6_init_140 : decode cX6_init 140 = .ok (.putfield 63, 3) := by decide +kernel
theorem dX6_init_143 : decode cX6_init 143 = .ok (.aload_n 0, 1) := by decide +kernel
theorem dX6_init_144 : decode cX6_init 144 = .ok (.bipush 80, 2) := by decide +kernel
theorem dX6_init_146 : decode cX6_init 146 = .ok (.newarray .int, 2) := by decide +kernel
theorem dX6_init_148 : decode cX6_init 148 = .ok (.putfield 66, 3) := by decide +kernel
theorem dX6_init_151 : decode cX6_init 151 = .ok (.aload_n 0, 1) := by decide +kernel
theorem dX6_init_152 : decode cX6_init 152 = .ok (.bipush 80, 2) := by decide +kernel
theorem dX6_init_154 : decode cX6_init 154 = .ok (.newarray .int, 2) := by decide +kernel
theorem dX6_init_156 : decode cX6_init 156 = .ok (.putfield 69, 3) := by decide +kernel
theorem dX6_init_159 : decode cX6_init 159 = .ok (.aload_n 0, 1) := by decide +kernel
theorem dX6_init_160 : decode cX6_init 160 = .ok (.bipush 80, 2) := by decide +kernel
theorem dX6_init_162 : decode cX6_init 162 = .ok (.newarray .int, 2) := by decide +kernel
theorem dX6_init_164 : decode cX6_init 164 = .ok (.putfield 72, 3) := by decide +kernel
theorem dX6_init_167 : decode cX6_init 167 = .ok (.aload_n 0, 1) := by decide +kernel
theorem dX6_init_168 : decode cX6_init 168 = .ok (.bipush 80, 2) := by decide +kernel
theorem dX6_init_170 : decode cX6_init 170 = .ok (.newarray .int, 2) := by decide +kernel
theorem dX6_init_172 : decode cX6_init 172 = .ok (.putfield 75, 3) := by decide +kernel
theorem dX6_init_175 : decode cX6_init 175 = .ok (.aload_n 0, 1) := by decide +kernel
theorem dX6_init_176 : decode cX6_init 176 = .ok (.bipush 80, 2) := by decide +kernel
theorem dX6_init_178 : decode cX6_init 178 = .ok (.newarray .int, 2) := by decide +kernel
theorem dX6_init_180 : decode cX6_init 180 = .ok (.putfield 78, 3) := by decide +kernel
theorem dX6_init_183 : decode cX6_init 183 = .ok (.aload_n 0, 1) := by decide +kernel
theorem dX6_init_184 : decode cX6_init 184 = .ok (.sipush 6000, 3) := by decide +kernel
theorem dX6_init_187 : decode cX6_init 187 = .ok (.newarray .int, 2) := by decide +kernel
theorem dX6_init_189 : decode cX6_init 189 = .ok (.putfield 81, 3) := by decide +kernel
theorem dX6_init_192 : decode cX6_init 192 = .ok (.aload_n 0, 1) := by decide +kernel
theorem dX6_init_193 : decode cX6_init 193 = .ok (.sipush 6000, 3) := by decide +kernel
theorem dX6_init_196 : decode cX6_init 196 = .ok (.newarray .int, 2) := by decide +kernel
theorem dX6_init_198 : decode cX6_init 198 = .ok (.putfield 84, 3) := by decide +kernel
theorem dX6_init_201 : decode cX6_init 201 = .ok (.aload_n 0, 1) := by decide +kernel
theorem dX6_init_202 : decode cX6_init 202 = .ok (.sipush 6000, 3) := by decide +kernel
theorem dX6_init_205 : decode cX6_init 205 = .ok (.newarray .int, 2) := by decide +kernel
theorem dX6_init_207 : decode cX6_init 207 = .ok (.putfield 87, 3) := by decide +kernel
theorem dX6_init_210 : decode cX6_init 210 = .ok (.aload_n 0, 1) := by decide +kernel
theorem dX6_init_211 : decode cX6_init 211 = .ok (.bipush 30, 2) := by decide +kernel
theorem dX6_init_213 : decode cX6_init 213 = .ok (.newarray .int, 2) := by decide +kernel
theorem dX6_init_215 : decode cX6_init 215 = .ok (.putfield 90, 3) := by decide +kernel
theorem dX6_init_218 : decode cX6_init 218 = .ok (.aload_n 0, 1) := by decide +kernel
theorem dX6_init_219 : decode cX6_init 219 = .ok (.bipush 30, 2) := by decide +kernel
theorem dX6_init_221 : decode cX6_init 221 = .ok (.newarray .int, 2) := by decide +kernel
theorem dX6_init_223 : decode cX6_init 223 = .ok (.putfield 93, 3) := by decide +kernel
theorem dX6_init_226 : decode cX6_init 226 = .ok (.aload_n 0, 1) := by decide +kernel
theorem dX6_init_227 : decode cX6_init 227 = .ok (.bipush 30, 2) := by decide +kernel
theorem dX6_init_229 : decode cX6_init 229 = .ok (.newarray .int, 2) := by decide +kernel
theorem dX6_init_231 : decode cX6_init 231 = .ok (.putfield 96, 3) := by decide +kernel
theorem dX6_init_234 : decode cX6_init 234 = .ok (.aload_n 0, 1) := by decide +kernel
theorem dX6_init_235 : decode cX6_init 235 = .ok (.bipush 30, 2) := by decide +kernel
theorem dX6_init_237 : decode cX6_init 237 = .ok (.newarray .int, 2) := by decide +kernel
theorem dX6_init_239 : decode cX6_init 239 = .ok (.putfield 99, 3) := by decide +kernel
theorem dX6_init_242 : decode cX6_init 242 = .ok (.aload_n 0, 1) := by decide +kernel
theorem dX6_init_243 : decode cX6_init 243 = .ok (.bipush 30, 2) := by decide +kernel
theorem dX6_init_245 : decode cX6_init 245 = .ok (.newarray .int, 2) := by decide +kernel
theorem dX6_init_247 : decode cX6_init 247 = .ok (.putfield 102, 3) := by decide +kernel
theorem dX6_init_250 : decode cX6_init 250 = .ok (.aload_n 0, 1) := by decide +kernel
theorem dX6_init_251 : decode cX6_init 251 = .ok (.bipush 30, 2) := by decide +kernel
theorem dX6_init_253 : decode cX6_init 253 = .ok (.newarray .int, 2) := by decide +kernel
theorem dX6_init_255 : decode cX6_init 255 = .ok (.putfield 105, 3) := by decide +kernel
theorem dX6_init_258 : decode cX6_init 258 = .ok (.aload_n 0, 1) := by decide +kernel
theorem dX6_init_259 : decode cX6_init 259 = .ok (.bipush 30, 2) := by decide +kernel
theorem dX6_init_261 : decode cX6_init 261 = .ok (.newarray .int, 2) := by decide +kernel
theorem dX6_init_263 : decode cX6_init 263 = .ok (.putfield 108, 3) := by decide +kernel
theorem dX6_init_266 : decode cX6_init 266 = .ok (.aload_n 0, 1) := by decide +kernel
theorem dX6_init_267 : decode cX6_init 267 = .ok (.bipush 30, 2) := by decide +kernel
theorem dX6_init_269 : decode cX6_init 269 = .ok (.newarray .boolean, 2) := by decide +kernel
theorem dX6_init_271 : decode cX6_init 271 = .ok (.putfield 111, 3) := by decide +kernel
theorem dX6_init_274 : decode cX6_init 274 = .ok (.aload_n 0, 1) := by decide +kernel
theorem dX6_init_275 : decode cX6_init 275 = .ok (.bipush 30, 2) := by decide +kernel
theorem dX6_init_277 : decode cX6_init 277 = .ok (.newarray .int, 2) := by decide +kernel
theorem dX6_init_279 : decode cX6_init 279 = .ok (.putfield 115, 3) := by decide +kernel
theorem dX6_init_282 : decode cX6_init 282 = .ok (.aload_n 0, 1) := by decide +kernel
theorem dX6_init_283 : decode cX6_init 283 = .ok (.bipush 30, 2) := by decide +kernel
theorem dX6_init_285 : decode cX6_init 285 = .ok (.newarray .int, 2) := by decide +kernel
theorem dX6_init_287 : decode cX6_init 287 = .ok (.putfield 118, 3) := by decide +kernel
theorem dX6_init_290 : decode cX6_init 290 = .ok (.aload_n 0, 1) := by decide +kernel
theorem dX6_init_291 : decode cX6_init 291 = .ok (.bipush 80, 2) := by decide +kernel
theorem dX6_init_293 : decode cX6_init 293 = .ok (.newarray .int, 2) := by decide +kernel
theorem dX6_init_295 : decode cX6_init 295 = .ok (.putfield 121, 3) := by decide +kernel
theorem dX6_init_298 : decode cX6_init 298 = .ok (.aload_n 0, 1) := by decide +kernel
theorem dX6_init_299 : decode cX6_init 299 = .ok (.bipush 80, 2) := by decide +kernel
theorem dX6_init_301 : decode cX6_init 301 = .ok (.newarray .int, 2) := by decide +kernel
theorem dX6_init_303 : decode cX6_init 303 = .ok (.putfield 124, 3) := by decide +kernel
theorem dX6_init_306 : decode cX6_init 306 = .ok (.return_, 1) := by decide +kernel
theorem dX6_thrown_0 : decode cX6_thrown 0 = .ok (.aload_n 0, 1) := by decide +kernel
theorem dX6_thrown_1 : decode cX6_thrown 1 = .ok (.getfield 127, 3) := by decide +kernel
theorem dX6_thrown_4 : decode cX6_thrown 4 = .ok (.ireturn, 1) := by decide +kernel
theorem dX6_goesWell_0 : decode cX6_goesWell 0 = .ok (.aload_n 0, 1) := by decide +kernel
theorem dX6_goesWell_1 : decode cX6_goesWell 1 = .ok (.iload_n 1, 1) := by decide +kernel
theorem dX6_goesWell_2 : decode cX6_goesWell 2 = .ok (.putfield 127, 3) := by decide +kernel
theorem dX6_goesWell_5 : decode cX6_goesWell 5 = .ok (.iload_n 1, 1) := by decide +kernel
theorem dX6_goesWell_6 : decode cX6_goesWell 6 = .ok (.ifCond .ne 7, 3) := by decide +kernel
theorem dX6_goesWell_9 : decode cX6_goesWell 9 = .ok (.iconst 1, 1) := by decide +kernel
theorem dX6_goesWell_10 : decode cX6_goesWell 10 = .ok (.goto 4, 3) := by decide +kernel
theorem dX6_goesWell_13 : decode cX6_goesWell 13 = .ok (.iconst 0, 1) := by decide +kernel
theorem dX6_goesWell_14 : decode cX6_goesWell 14 = .ok (.ireturn, 1) := by decide +kernel
theorem dX6_in_0 : decode cX6_in 0 = .ok (.iload_n 0, 1) := by decide +kernel
theorem dX6_in_1 : decode cX6_in 1 = .ok (.iload_n 1, 1) := by decide +kernel
theorem dX6_in_2 : decode cX6_in 2 = .ok (.if_icmp .lt 12, 3) := by decide +kernel
theorem dX6_in_5 : decode cX6_in 5 = .ok (.iload_n 0, 1) := by decide +kernel
theorem dX6_in_6 : decode cX6_in 6 = .ok (.iload_n 2, 1) := by decide +kernel
theorem dX6_in_7 : decode cX6_in 7 = .ok (.if_icmp .gt 7, 3) := by decide +kernel
theorem dX6_in_10 : decode cX6_in 10 = .ok (.iconst 1, 1) := by decide +kernel
theorem dX6_in_11 : decode cX6_in 11 = .ok (.goto 4, 3) := by decide +kernel
theorem dX6_in_14 : decode cX6_in 14 = .ok (.iconst 0, 1) := by decide +kernel
theorem dX6_in_15 : decode cX6_in 15 = .ok (.ireturn, 1) := by decide +kernel
set_option maxRecDepth 20000 in
theorem ggX6_isHolder_X6_in : GoodIn wsX6_isHolder wsX6_in := goodIn_r _ [4] (by decide +kernel) (by decide +kernel)
set_option maxRecDepth 20000 in
theorem gX6_isHolder_X6_in : GoodIn wsX6_isHolder (va_wsS RX6 130 yX6_in wsX6_in) := goodIn_app (goodIn_of _ (by decide +kernel)) ggX6_isHolder_X6_in
theorem dX6_isHolder_0 : decode cX6_isHolder 0 = .ok (.iload_n 0, 1) := by decide +kernel
theorem dX6_isHolder_1 : decode cX6_isHolder 1 = .ok (.iconst 0, 1) := by decide +kernel
theorem dX6_isHolder_2 : decode cX6_isHolder 2 = .ok (.iconst 5, 1) := by decide +kernel
theorem dX6_isHolder_3 : decode cX6_isHolder 3 = .ok (.invokestatic 130, 3) := by decide +kernel
theorem dX6_isHolder_6 : decode cX6_isHolder 6 = .ok (.ireturn, 1) := by decide +kernel
set_option maxRecDepth 20000 in
theorem ggX6_isKind_X6_in : GoodIn wsX6_isKind wsX6_in := goodIn_r _ [4] (by decide +kernel) (by decide +kernel)
set_option maxRecDepth 20000 in
theorem gX6_isKind_X6_in : GoodIn wsX6_isKind (va_wsS RX6 130 yX6_in wsX6_in) := goodIn_app (goodIn_of _ (by decide +kernel)) ggX6_isKind_X6_in
theorem dX6_isKind_0 : decode cX6_isKind 0 = .ok (.iload_n 0, 1) := by decide +kernel
theorem dX6_isKind_1 : decode cX6_isKind 1 = .ok (.iconst 0, 1) := by decide +kernel
theorem dX6_isKind_2 : decode cX6_isKind 2 = .ok (.iconst 2, 1) := by decide +kernel
theorem dX6_isKind_3 : decode cX6_isKind 3 = .ok (.invokestatic 130, 3) := by decide +kernel
theorem dX6_isKind_6 : decode cX6_isKind 6 = .ok (.ireturn, 1) := by decide +kernel
set_option maxRecDepth 20000 in
theorem ggX6_isReceipt_X6_in : GoodIn wsX6_isReceipt wsX6_in := goodIn_r _ [5] (by decide +kernel) (by decide +kernel)
set_option maxRecDepth 20000 in
theorem gX6_isReceipt_X6_in : GoodIn wsX6_isReceipt (va_wsS RX6 130 yX6_in wsX6_in) := goodIn_app (goodIn_of _ (by decide +kernel)) ggX6_isReceipt_X6_in
theorem dX6_isReceipt_0 : decode cX6_isReceipt 0 = .ok (.iload_n 1, 1) := by decide +kernel
theorem dX6_isReceipt_1 : decode cX6_isReceipt 1 = .ok (.iconst 0, 1) := by decide +kernel
theorem dX6_isReceipt_2 : decode cX6_isReceipt 2 = .ok (.aload_n 0, 1) := by decide +kernel
theorem dX6_isReceipt_3 : decode cX6_isReceipt 3 = .ok (.getfield 134, 3) := by decide +kernel
theorem dX6_isReceipt_6 : decode cX6_isReceipt 6 = .ok (.iconst 1, 1) := by decide +kernel
theorem dX6_isReceipt_7 : decode cX6_isReceipt 7 = .ok (.isub, 1) := by decide +kernel
theorem dX6_isReceipt_8 : decode cX6_isReceipt 8 = .ok (.invokestatic 130, 3) := by decide +kernel
theorem dX6_isReceipt_11 : decode cX6_isReceipt 11 = .ok (.ireturn, 1) := by decide +kernel
set_option maxRecDepth 20000 in
theorem ggX6_isSilo_X6_in : GoodIn wsX6_isSilo wsX6_in := goodIn_r _ [5] (by decide +kernel) (by decide +kernel)
set_option maxRecDepth 20000 in
theorem gX6_isSilo_X6_in : GoodIn wsX6_isSilo (va_wsS RX6 130 yX6_in wsX6_in) := goodIn_app (goodIn_of _ (by decide +kernel)) ggX6_isSilo_X6_in
theorem dX6_isSilo_0 : decode cX6_isSilo 0 = .ok (.iload_n 1, 1) := by decide +kernel
theorem dX6_isSilo_1 : decode cX6_isSilo 1 = .ok (.iconst 0, 1) := by decide +kernel
theorem dX6_isSilo_2 : decode cX6_isSilo 2 = .ok (.aload_n 0, 1) := by decide +kernel
theorem dX6_isSilo_3 : decode cX6_isSilo 3 = .ok (.getfield 137, 3) := by decide +kernel
theorem dX6_isSilo_6 : decode cX6_isSilo 6 = .ok (.iconst 1, 1) := by decide +kernel
theorem dX6_isSilo_7 : decode cX6_isSilo 7 = .ok (.isub, 1) := by decide +kernel
theorem dX6_isSilo_8 : decode cX6_isSilo 8 = .ok (.invokestatic 130, 3) := by decide +kernel
theorem dX6_isSilo_11 : decode cX6_isSilo 11 = .ok (.ireturn, 1) := by decide +kernel
theorem dX6_pay_0 : decode cX6_pay 0 = .ok (.aload_n 0, 1) := by decide +kernel
theorem dX6_pay_1 : decode cX6_pay 1 = .ok (.getfield 16, 3) := by decide +kernel
theorem dX6_pay_4 : decode cX6_pay 4 = .ok (.iload_n 1, 1) := by decide +kernel
theorem dX6_pay_5 : decode cX6_pay 5 = .ok (.dup2, 1) := by decide +kernel
theorem dX6_pay_6 : decode cX6_pay 6 = .ok (.laload, 1) := by decide +kernel
theorem dX6_pay_7 : decode cX6_pay 7 = .ok (.lload_n 3, 1) := by decide +kernel
theorem dX6_pay_8 : decode cX6_pay 8 = .ok (.lsub, 1) := by decide +kernel
theorem dX6_pay_9 : decode cX6_pay 9 = .ok (.lastore, 1) := by decide +kernel
theorem dX6_pay_10 : decode cX6_pay 10 = .ok (.aload_n 0, 1) := by decide +kernel
theorem dX6_pay_11 : decode cX6_pay 11 = .ok (.getfield 16, 3) := by decide +kernel
theorem dX6_pay_14 : decode cX6_pay 14 = .ok (.iload_n 2, 1) := by decide +kernel
theorem dX6_pay_15 : decode cX6_pay 15 = .ok (.dup2, 1) := by decide +kernel
theorem dX6_pay_16 : decode cX6_pay 16 = .ok (.laload, 1) := by decide +kernel
theorem dX6_pay_17 : decode cX6_pay 17 = .ok (.lload_n 3, 1) := by decide +kernel
theorem dX6_pay_18 : decode cX6_pay 18 = .ok (.ladd, 1) := by decide +kernel
theorem dX6_pay_19 : decode cX6_pay 19 = .ok (.lastore, 1) := by decide +kernel
theorem dX6_pay_20 : decode cX6_pay 20 = .ok (.return_, 1) := by decide +kernel
set_option maxRecDepth 20000 in
theorem ggX6_silo_X6_in : GoodIn wsX6_silo wsX6_in := goodIn_r _ [7] (by decide +kernel) (by decide +kernel)
set_option maxRecDepth 20000 in
theorem gX6_silo_X6_in : GoodIn wsX6_silo (va_wsS RX6 130 yX6_in wsX6_in) := goodIn_app (goodIn_of _ (by decide +kernel)) ggX6_silo_X6_in
set_option maxRecDepth 20000 in
theorem ggX6_silo_X6_goesWell : GoodIn wsX6_silo wsX6_goesWell := goodIn_r _ [11, 12, 13, 14, 15, 16, 17, 18, 19, 20, 21, 22, 23, 24, 25, 26, 27, 28, 29, 30, 31, 32, 33, 34, 35, 36, 37, 38, 39, 40, 41, 42, 43, 44, 45, 46, 47, 48, 49, 50, 51, 52, 53, 54, 55, 56, 57, 58] (by decide +kernel) (by decide +kernel)
set_option maxRecDepth 20000 in
theorem gX6_silo_X6_goesWell : GoodIn wsX6_silo (wsV RX6 141 RX6 yX6_goesWell wsX6_goesWell) := goodIn_app (goodIn_of _ (by decide +kernel)) ggX6_silo_X6_goesWell
theorem dX6_silo_0 : decode cX6_silo 0 = .ok (.aload_n 0, 1) := by decide +kernel
theorem dX6_silo_1 : decode cX6_silo 1 = .ok (.iload_n 1, 1) := by decide +kernel
theorem dX6_silo_2 : decode cX6_silo 2 = .ok (.iconst 1, 1) := by decide +kernel
theorem dX6_silo_3 : decode cX6_silo 3 = .ok (.ldc 140, 2) := by decide +kernel
theorem dX6_silo_5 : decode cX6_silo 5 = .ok (.invokestatic 130, 3) := by decide +kernel
theorem dX6_silo_8 : decode cX6_silo 8 = .ok (.ifCond .ne 7, 3) := by decide +kernel
theorem dX6_silo_11 : decode cX6_silo 11 = .ok (.iconst 1, 1) := by decide +kernel
theorem dX6_silo_12 : decode cX6_silo 12 = .ok (.goto 17, 3) := by decide +kernel
theorem dX6_silo_15 : decode cX6_silo 15 = .ok (.aload_n 0, 1) := by decide +kernel
theorem dX6_silo_16 : decode cX6_silo 16 = .ok (.getfield 137, 3) := by decide +kernel
theorem dX6_silo_19 : decode cX6_silo 19 = .ok (.bipush 6, 2) := by decide +kernel
theorem dX6_silo_21 : decode cX6_silo 21 = .ok (.if_icmp .ne 7, 3) := by decide +kernel
theorem dX6_silo_24 : decode cX6_silo 24 = .ok (.iconst 2, 1) := by decide +kernel
theorem dX6_silo_25 : decode cX6_silo 25 = .ok (.goto 4, 3) := by decide +kernel
theorem dX6_silo_28 : decode cX6_silo 28 = .ok (.iconst 0, 1) := by decide +kernel
theorem dX6_silo_29 : decode cX6_silo 29 = .ok (.invokevirtual 141, 3) := by decide +kernel
theorem dX6_silo_32 : decode cX6_silo 32 = .ok (.ifCond .ne 5, 3) := by decide +kernel
theorem dX6_silo_35 : decode cX6_silo 35 = .ok (.iconst 0, 1) := by decide +kernel
theorem dX6_silo_36 : decode cX6_silo 36 = .ok (.ireturn, 1) := by decide +kernel
theorem dX6_silo_37 : decode cX6_silo 37 = .ok (.aload_n 0, 1) := by decide +kernel
theorem dX6_silo_38 : decode cX6_silo 38 = .ok (.getfield 24, 3) := by decide +kernel
theorem dX6_silo_41 : decode cX6_silo 41 = .ok (.aload_n 0, 1) := by decide +kernel
theorem dX6_silo_42 : decode cX6_silo 42 = .ok (.getfield 137, 3) := by decide +kernel
theorem dX6_silo_45 : decode cX6_silo 45 = .ok (.iload_n 1, 1) := by decide +kernel
theorem dX6_silo_46 : decode cX6_silo 46 = .ok (.iastore, 1) := by decide +kernel
theorem dX6_silo_47 : decode cX6_silo 47 = .ok (.aload_n 0, 1) := by decide +kernel
theorem dX6_silo_48 : decode cX6_silo 48 = .ok (.dup, 1) := by decide +kernel
theorem dX6_silo_49 : decode cX6_silo 49 = .ok (.getfield 137, 3) := by decide +kernel
theorem dX6_silo_52 : decode cX6_silo 52 = .ok (.iconst 1, 1) := by decide +kernel
theorem dX6_silo_53 : decode cX6_silo 53 = .ok (.iadd, 1) := by decide +kernel
theorem dX6_silo_54 : decode cX6_silo 54 = .ok (.putfield 137, 3) := by decide +kernel
theorem dX6_silo_57 : decode cX6_silo 57 = .ok (.aload_n 0, 1) := by decide +kernel
theorem dX6_silo_58 : decode cX6_silo 58 = .ok (.getfield 137, 3) := by decide +kernel
theorem dX6_silo_61 : decode cX6_silo 61 = .ok (.iconst 1, 1) := by decide +kernel
theorem dX6_silo_62 : decode cX6_silo 62 = .ok (.isub, 1) := by decide +kernel
theorem dX6_silo_63 : decode cX6_silo 63 = .ok (.ireturn, 1) := by decide +kernel
set_option maxRecDepth 20000 in
theorem ggX6_terms_X6_in : GoodIn wsX6_terms wsX6_in := goodIn_r _ [7] (by decide +kernel) (by decide +kernel)
set_option maxRecDepth 20000 in
theorem gX6_terms_X6_in : GoodIn wsX6_terms (va_wsS RX6 130 yX6_in wsX6_in) := goodIn_app (goodIn_of _ (by decide +kernel)) ggX6_terms_X6_in
set_option maxRecDepth 20000 in
theorem ggX6_terms_X6_goesWell : GoodIn wsX6_terms wsX6_goesWell := goodIn_r _ [11, 12, 13, 14, 15, 16, 17, 18, 19, 20, 21, 22, 23, 24, 25, 26, 27, 28, 29, 30, 31, 32, 33, 34, 35, 36, 37, 38, 39, 40, 41, 42, 43, 44, 45, 46, 47, 48, 49, 50, 51, 52, 53, 54, 55, 56, 57, 58] (by decide +kernel) (by decide +kernel)
set_option maxRecDepth 20000 in
theorem gX6_terms_X6_goesWell : GoodIn wsX6_terms (wsV RX6 141 RX6 yX6_goesWell wsX6_goesWell) := goodIn_app (goodIn_of _ (by decide +kernel)) ggX6_terms_X6_goesWell
theorem dX6_terms_0 : decode cX6_terms 0 = .ok (.aload_n 0, 1) := by decide +kernel
theorem dX6_terms_1 : decode cX6_terms 1 = .ok (.iload_n 1, 1) := by decide +kernel
theorem dX6_terms_2 : decode cX6_terms 2 = .ok (.iconst 0, 1) := by decide +kernel
theorem dX6_terms_3 : decode cX6_terms 3 = .ok (.sipush 5000, 3) := by decide +kernel
theorem dX6_terms_6 : decode cX6_terms 6 = .ok (.invokestatic 130, 3) := by decide +kernel
theorem dX6_terms_9 : decode cX6_terms 9 = .ok (.ifCond .eq 29, 3) := by decide +kernel
theorem dX6_terms_12 : decode cX6_terms 12 = .ok (.iload_n 2, 1) := by decide +kernel
theorem dX6_terms_13 : decode cX6_terms 13 = .ok (.iconst 0, 1) := by decide +kernel
theorem dX6_terms_14 : decode cX6_terms 14 = .ok (.sipush 1000, 3) := by decide +kernel
theorem dX6_terms_17 : decode cX6_terms 17 = .ok (.invokestatic 130, 3) := by decide +kernel
theorem dX6_terms_20 : decode cX6_terms 20 = .ok (.ifCond .eq 18, 3) := by decide +kernel
theorem dX6_terms_23 : decode cX6_terms 23 = .ok (.iload_n 3, 1) := by decide +kernel
theorem dX6_terms_24 : decode cX6_terms 24 = .ok (.iconst 0, 1) := by decide +kernel
theorem dX6_terms_25 : decode cX6_terms 25 = .ok (.sipush 1000, 3) := by decide +kernel
theorem dX6_terms_28 : decode cX6_terms 28 = .ok (.invokestatic 130, 3) := by decide +kernel
theorem dX6_terms_31 : decode cX6_terms 31 = .ok (.ifCond .eq 7, 3) := by decide +kernel
theorem dX6_terms_34 : decode cX6_terms 34 = .ok (.iconst 0, 1) := by decide +kernel
theorem dX6_terms_35 : decode cX6_terms 35 = .ok (.goto 4, 3) := by decide +kernel
theorem dX6_terms_38 : decode cX6_terms 38 = .ok (.iconst 1, 1) := by decide +kernel
theorem dX6_terms_39 : decode cX6_terms 39 = .ok (.invokevirtual 141, 3) := by decide +kernel
theorem dX6_terms_42 : decode cX6_terms 42 = .ok (.ifCond .eq 18, 3) := by decide +kernel
theorem dX6_terms_45 : decode cX6_terms 45 = .ok (.aload_n 0, 1) := by decide +kernel
theorem dX6_terms_46 : decode cX6_terms 46 = .ok (.iload_n 1, 1) := by decide +kernel
theorem dX6_terms_47 : decode cX6_terms 47 = .ok (.putfield 145, 3) := by decide +kernel
theorem dX6_terms_50 : decode cX6_terms 50 = .ok (.aload_n 0, 1) := by decide +kernel
theorem dX6_terms_51 : decode cX6_terms 51 = .ok (.iload_n 2, 1) := by decide +kernel
theorem dX6_terms_52 : decode cX6_terms 52 = .ok (.putfield 7, 3) := by decide +kernel
theorem dX6_terms_55 : decode cX6_terms 55 = .ok (.aload_n 0, 1) := by decide +kernel
theorem dX6_terms_56 : decode cX6_terms 56 = .ok (.iload_n 3, 1) := by decide +kernel
theorem dX6_terms_57 : decode cX6_terms 57 = .ok (.putfield 13, 3) := by decide +kernel
theorem dX6_terms_60 : decode cX6_terms 60 = .ok (.return_, 1) := by decide +kernel
theorem dX6_dryOf_0 : decode cX6_dryOf 0 = .ok (.iload_n 1, 1) := by decide +kernel
theorem dX6_dryOf_1 : decode cX6_dryOf 1 = .ok (.sipush 140, 3) := by decide +kernel
theorem dX6_dryOf_4 : decode cX6_dryOf 4 = .ok (.if_icmp .gt 7, 3) := by decide +kernel
theorem dX6_dryOf_7 : decode cX6_dryOf 7 = .ok (.iload_n 0, 1) := by decide +kernel
theorem dX6_dryOf_8 : decode cX6_dryOf 8 = .ok (.goto 17, 3) := by decide +kernel
theorem dX6_dryOf_11 : decode cX6_dryOf 11 = .ok (.iload_n 0, 1) := by decide +kernel
theorem dX6_dryOf_12 : decode cX6_dryOf 12 = .ok (.i2l, 1) := by decide +kernel
theorem dX6_dryOf_13 : decode cX6_dryOf 13 = .ok (.sipush 1000, 3) := by decide +kernel
theorem dX6_dryOf_16 : decode cX6_dryOf 16 = .ok (.iload_n 1, 1) := by decide +kernel
theorem dX6_dryOf_17 : decode cX6_dryOf 17 = .ok (.isub, 1) := by decide +kernel
theorem dX6_dryOf_18 : decode cX6_dryOf 18 = .ok (.i2l, 1) := by decide +kernel
theorem dX6_dryOf_19 : decode cX6_dryOf 19 = .ok (.lmul, 1) := by decide +kernel
theorem dX6_dryOf_20 : decode cX6_dryOf 20 = .ok (.ldc2_w 148, 3) := by decide +kernel
theorem dX6_dryOf_23 : decode cX6_dryOf 23 = .ok (.ldiv, 1) := by decide +kernel
theorem dX6_dryOf_24 : decode cX6_dryOf 24 = .ok (.l2i, 1) := by decide +kernel
theorem dX6_dryOf_25 : decode cX6_dryOf 25 = .ok (.ireturn, 1) := by decide +kernel
theorem dX6_isOf_0 : decode cX6_isOf 0 = .ok (.aload_n 0, 1) := by decide +kernel
theorem dX6_isOf_1 : decode cX6_isOf 1 = .ok (.getfield 27, 3) := by decide +kernel
theorem dX6_isOf_4 : decode cX6_isOf 4 = .ok (.iload_n 1, 1) := by decide +kernel
theorem dX6_isOf_5 : decode cX6_isOf 5 = .ok (.iaload, 1) := by decide +kernel
theorem dX6_isOf_6 : decode cX6_isOf 6 = .ok (.ifCond .le 27, 3) := by decide +kernel
theorem dX6_isOf_9 : decode cX6_isOf 9 = .ok (.aload_n 0, 1) := by decide +kernel
theorem dX6_isOf_10 : decode cX6_isOf 10 = .ok (.getfield 30, 3) := by decide +kernel
theorem dX6_isOf_13 : decode cX6_isOf 13 = .ok (.iload_n 1, 1) := by decide +kernel
theorem dX6_isOf_14 : decode cX6_isOf 14 = .ok (.iaload, 1) := by decide +kernel
theorem dX6_isOf_15 : decode cX6_isOf 15 = .ok (.iload_n 2, 1) := by decide +kernel
theorem dX6_isOf_16 : decode cX6_isOf 16 = .ok (.if_icmp .ne 17, 3) := by decide +kernel
theorem dX6_isOf_19 : decode cX6_isOf 19 = .ok (.aload_n 0, 1) := by decide +kernel
theorem dX6_isOf_20 : decode cX6_isOf 20 = .ok (.getfield 33, 3) := by decide +kernel
theorem dX6_isOf_23 : decode cX6_isOf 23 = .ok (.iload_n 1, 1) := by decide +kernel
theorem dX6_isOf_24 : decode cX6_isOf 24 = .ok (.iaload, 1) := by decide +kernel
theorem dX6_isOf_25 : decode cX6_isOf 25 = .ok (.iload_n 3, 1) := by decide +kernel
theorem dX6_isOf_26 : decode cX6_isOf 26 = .ok (.if_icmp .ne 7, 3) := by decide +kernel
theorem dX6_isOf_29 : decode cX6_isOf 29 = .ok (.iconst 1, 1) := by decide +kernel
theorem dX6_isOf_30 : decode cX6_isOf 30 = .ok (.goto 4, 3) := by decide +kernel
theorem dX6_isOf_33 : decode cX6_isOf 33 = .ok (.iconst 0, 1) := by decide +kernel
theorem dX6_isOf_34 : decode cX6_isOf 34 = .ok (.ireturn, 1) := by decide +kernel
set_option maxRecDepth 20000 in
theorem ggX6_siloFor_X6_isOf : GoodIn wsX6_siloFor wsX6_isOf := goodIn_r _ [8, 2, 9, 10, 11, 12, 13, 14, 15, 16, 17, 18, 19, 20, 21, 22, 23, 24, 25, 26, 27, 28, 29, 30, 31, 32, 33, 34, 35, 36, 37, 38, 39, 40, 41, 42, 43, 44, 45, 46, 47, 48, 49, 50, 51, 52, 53, 54, 55, 56] (by decide +kernel) (by decide +kernel)
set_option maxRecDepth 20000 in
theorem gX6_siloFor_X6_isOf : GoodIn wsX6_siloFor (wsV RX6 150 RX6 yX6_isOf wsX6_isOf) := goodIn_app (goodIn_of _ (by decide +kernel)) ggX6_siloFor_X6_isOf
theorem dX6_siloFor_0 : decode cX6_siloFor 0 = .ok (.iconst 0, 1) := by decide +kernel
theorem dX6_siloFor_1 : decode cX6_siloFor 1 = .ok (.istore 4, 2) := by decide +kernel
theorem dX6_siloFor_3 : decode cX6_siloFor 3 = .ok (.iload 4, 2) := by decide +kernel
theorem dX6_siloFor_5 : decode cX6_siloFor 5 = .ok (.aload_n 0, 1) := by decide +kernel
theorem dX6_siloFor_6 : decode cX6_siloFor 6 = .ok (.getfield 137, 3) := by decide +kernel
theorem dX6_siloFor_9 : decode cX6_siloFor 9 = .ok (.if_icmp .ge 42, 3) := by decide +kernel
theorem dX6_siloFor_12 : decode cX6_siloFor 12 = .ok (.aload_n 0, 1) := by decide +kernel
theorem dX6_siloFor_13 : decode cX6_siloFor 13 = .ok (.iload 4, 2) := by decide +kernel
theorem dX6_siloFor_15 : decode cX6_siloFor 15 = .ok (.iload_n 1, 1) := by decide +kernel
theorem dX6_siloFor_16 : decode cX6_siloFor 16 = .ok (.iload_n 2, 1) := by decide +kernel
theorem dX6_siloFor_17 : decode cX6_siloFor 17 = .ok (.invokevirtual 150, 3) := by decide +kernel
theorem dX6_siloFor_20 : decode cX6_siloFor 20 = .ok (.ifCond .eq 25, 3) := by decide +kernel
theorem dX6_siloFor_23 : decode cX6_siloFor 23 = .ok (.aload_n 0, 1) := by decide +kernel
theorem dX6_siloFor_24 : decode cX6_siloFor 24 = .ok (.getfield 27, 3) := by decide +kernel
theorem dX6_siloFor_27 : decode cX6_siloFor 27 = .ok (.iload 4, 2) := by decide +kernel
theorem dX6_siloFor_29 : decode cX6_siloFor 29 = .ok (.iaload, 1) := by decide +kernel
theorem dX6_siloFor_30 : decode cX6_siloFor 30 = .ok (.iload_n 3, 1) := by decide +kernel
theorem dX6_siloFor_31 : decode cX6_siloFor 31 = .ok (.iadd, 1) := by decide +kernel
theorem dX6_siloFor_32 : decode cX6_siloFor 32 = .ok (.aload_n 0, 1) := by decide +kernel
theorem dX6_siloFor_33 : decode cX6_siloFor 33 = .ok (.getfield 24, 3) := by decide +kernel
theorem dX6_siloFor_36 : decode cX6_siloFor 36 = .ok (.iload 4, 2) := by decide +kernel
theorem dX6_siloFor_38 : decode cX6_siloFor 38 = .ok (.iaload, 1) := by decide +kernel
theorem dX6_siloFor_39 : decode cX6_siloFor 39 = .ok (.if_icmp .gt 6, 3) := by decide +kernel
theorem dX6_siloFor_42 : decode cX6_siloFor 42 = .ok (.iload 4, 2) := by decide +kernel
theorem dX6_siloFor_44 : decode cX6_siloFor 44 = .ok (.ireturn, 1) := by decide +kernel
theorem dX6_siloFor_45 : decode cX6_siloFor 45 = .ok (.iinc 4 1, 3) := by decide +kernel
theorem dX6_siloFor_48 : decode cX6_siloFor 48 = .ok (.goto (-45), 3) := by decide +kernel
theorem dX6_siloFor_51 : decode cX6_siloFor 51 = .ok (.iconst 0, 1) := by decide +kernel
theorem dX6_siloFor_52 : decode cX6_siloFor 52 = .ok (.istore 4, 2) := by decide +kernel
theorem dX6_siloFor_54 : decode cX6_siloFor 54 = .ok (.iload 4, 2) := by decide +kernel
theorem dX6_siloFor_56 : decode cX6_siloFor 56 = .ok (.aload_n 0, 1) := by decide +kernel
theorem dX6_siloFor_57 : decode cX6_siloFor 57 = .ok (.getfield 137, 3) := by decide +kernel
theorem dX6_siloFor_60 : decode cX6_siloFor 60 = .ok (.if_icmp .ge 33, 3) := by decide +kernel
theorem dX6_siloFor_63 : decode cX6_siloFor 63 = .ok (.aload_n 0, 1) := by decide +kernel
theorem dX6_siloFor_64 : decode cX6_siloFor 64 = .ok (.getfield 27, 3) := by decide +kernel
theorem dX6_siloFor_67 : decode cX6_siloFor 67 = .ok (.iload 4, 2) := by decide +kernel
theorem dX6_siloFor_69 : decode cX6_siloFor 69 = .ok (.iaload, 1) := by decide +kernel
theorem dX6_siloFor_70 : decode cX6_siloFor 70 = .ok (.ifCond .ne 17, 3) := by decide +kernel
theorem dX6_siloFor_73 : decode cX6_siloFor 73 = .ok (.iload_n 3, 1) := by decide +kernel
theorem dX6_siloFor_74 : decode cX6_siloFor 74 = .ok (.aload_n 0, 1) := by decide +kernel
theorem dX6_siloFor_75 : decode cX6_siloFor 75 = .ok (.getfield 24, 3) := by decide +kernel
theorem dX6_siloFor_78 : decode cX6_siloFor 78 = .ok (.iload 4, 2) := by decide +kernel
theorem dX6_siloFor_80 : decode cX6_siloFor 80 = .ok (.iaload, 1) := by decide +kernel
theorem dX6_siloFor_81 : decode cX6_siloFor 81 = .ok (.if_icmp .gt 6, 3) := by decide +kernel
theorem dX6_siloFor_84 : decode cX6_siloFor 84 = .ok (.iload 4, 2) := by decide +kernel
theorem dX6_siloFor_86 : decode cX6_siloFor 86 = .ok (.ireturn, 1) := by decide +kernel
theorem dX6_siloFor_87 : decode cX6_siloFor 87 = .ok (.iinc 4 1, 3) := by decide +kernel
theorem dX6_siloFor_90 : decode cX6_siloFor 90 = .ok (.goto (-36), 3) := by decide +kernel
theorem dX6_siloFor_93 : decode cX6_siloFor 93 = .ok (.iconst (-1), 1) := by decide +kernel
theorem dX6_siloFor_94 : decode cX6_siloFor 94 = .ok (.ireturn, 1) := by decide +kernel
theorem dX6_become_0 : decode cX6_become 0 = .ok (.aload_n 0, 1) := by decide +kernel
theorem dX6_become_1 : decode cX6_become 1 = .ok (.getfield 60, 3) := by decide +kernel
theorem dX6_become_4 : decode cX6_become 4 = .ok (.iload_n 1, 1) := by decide +kernel
theorem dX6_become_5 : decode cX6_become 5 = .ok (.iload_n 2, 1) := by decide +kernel
theorem dX6_become_6 : decode cX6_become 6 = .ok (.iastore, 1) := by decide +kernel
theorem dX6_become_7 : decode cX6_become 7 = .ok (.aload_n 0, 1) := by decide +kernel
theorem dX6_become_8 : decode cX6_become 8 = .ok (.getfield 78, 3) := by decide +kernel
theorem dX6_become_11 : decode cX6_become 11 = .ok (.iload_n 1, 1) := by decide +kernel
theorem dX6_become_12 : decode cX6_become 12 = .ok (.iconst (-1), 1) := by decide +kernel
theorem dX6_become_13 : decode cX6_become 13 = .ok (.iastore, 1) := by decide +kernel
theorem dX6_become_14 : decode cX6_become 14 = .ok (.aload_n 0, 1) := by decide +kernel
theorem dX6_become_15 : decode cX6_become 15 = .ok (.getfield 81, 3) := by decide +kernel
theorem dX6_become_18 : decode cX6_become 18 = .ok (.aload_n 0, 1) := by decide +kernel
theorem dX6_become_19 : decode cX6_become 19 = .ok (.getfield 153, 3) := by decide +kernel
theorem dX6_become_22 : decode cX6_become 22 = .ok (.iload_n 1, 1) := by decide +kernel
theorem dX6_become_23 : decode cX6_become 23 = .ok (.iastore, 1) := by decide +kernel
theorem dX6_become_24 : decode cX6_become 24 = .ok (.aload_n 0, 1) := by decide +kernel
theorem dX6_become_25 : decode cX6_become 25 = .ok (.getfield 84, 3) := by decide +kernel
theorem dX6_become_28 : decode cX6_become 28 = .ok (.aload_n 0, 1) := by decide +kernel
theorem dX6_become_29 : decode cX6_become 29 = .ok (.getfield 153, 3) := by decide +kernel
theorem dX6_become_32 : decode cX6_become 32 = .ok (.aload_n 0, 1) := by decide +kernel
theorem dX6_become_33 : decode cX6_become 33 = .ok (.getfield 156, 3) := by decide +kernel
theorem dX6_become_36 : decode cX6_become 36 = .ok (.iastore, 1) := by decide +kernel
theorem dX6_become_37 : decode cX6_become 37 = .ok (.aload_n 0, 1) := by decide +kernel
theorem dX6_become_38 : decode cX6_become 38 = .ok (.getfield 87, 3) := by decide +kernel
theorem dX6_become_41 : decode cX6_become 41 = .ok (.aload_n 0, 1) := by decide +kernel
theorem dX6_become_42 : decode cX6_become 42 = .ok (.getfield 153, 3) := by decide +kernel
theorem dX6_become_45 : decode cX6_become 45 = .ok (.iload_n 2, 1) := by decide +kernel
theorem dX6_become_46 : decode cX6_become 46 = .ok (.iastore, 1) := by decide +kernel
theorem dX6_become_47 : decode cX6_become 47 = .ok (.aload_n 0, 1) := by decide +kernel
theorem dX6_become_48 : decode cX6_become 48 = .ok (.dup, 1) := by decide +kernel
theorem dX6_become_49 : decode cX6_become 49 = .ok (.getfield 153, 3) := by decide +kernel
theorem dX6_become_52 : decode cX6_become 52 = .ok (.iconst 1, 1) := by decide +kernel
theorem dX6_become_53 : decode cX6_become 53 = .ok (.iadd, 1) := by decide +kernel
theorem dX6_become_54 : decode cX6_become 54 = .ok (.putfield 153, 3) := by decide +kernel
theorem dX6_become_57 : decode cX6_become 57 = .ok (.return_, 1) := by decide +kernel
set_option maxRecDepth 20000 in
theorem ggX6_make_X6_become : GoodIn wsX6_make wsX6_become := goodIn_r _ [10, 11, 12, 13, 14, 15, 16, 17, 18, 19, 20, 21, 22, 23, 24, 25, 26, 27, 28, 29, 30, 31, 32, 33, 34, 35, 36, 37, 38, 39, 40, 41, 42, 43, 44, 45, 46, 47, 48, 49, 50, 51, 52, 53, 54, 55, 56, 57, 58, 59, 60, 61, 62, 63] (by decide +kernel) (by decide +kernel)
set_option maxRecDepth 20000 in
theorem gX6_make_X6_become : GoodIn wsX6_make (wsV RX6 159 RX6 yX6_become wsX6_become) := goodIn_app (goodIn_of _ (by decide +kernel)) ggX6_make_X6_become
theorem dX6_make_0 : decode cX6_make 0 = .ok (.aload_n 0, 1) := by decide +kernel
theorem dX6_make_1 : decode cX6_make 1 = .ok (.getfield 57, 3) := by decide +kernel
theorem dX6_make_4 : decode cX6_make 4 = .ok (.aload_n 0, 1) := by decide +kernel
theorem dX6_make_5 : decode cX6_make 5 = .ok (.getfield 134, 3) := by decide +kernel
theorem dX6_make_8 : decode cX6_make 8 = .ok (.iload_n 1, 1) := by decide +kernel
theorem dX6_make_9 : decode cX6_make 9 = .ok (.iastore, 1) := by decide +kernel
theorem dX6_make_10 : decode cX6_make 10 = .ok (.aload_n 0, 1) := by decide +kernel
theorem dX6_make_11 : decode cX6_make 11 = .ok (.getfield 63, 3) := by decide +kernel
theorem dX6_make_14 : decode cX6_make 14 = .ok (.aload_n 0, 1) := by decide +kernel
theorem dX6_make_15 : decode cX6_make 15 = .ok (.getfield 134, 3) := by decide +kernel
theorem dX6_make_18 : decode cX6_make 18 = .ok (.iload_n 3, 1) := by decide +kernel
theorem dX6_make_19 : decode cX6_make 19 = .ok (.iastore, 1) := by decide +kernel
theorem dX6_make_20 : decode cX6_make 20 = .ok (.aload_n 0, 1) := by decide +kernel
theorem dX6_make_21 : decode cX6_make 21 = .ok (.getfield 66, 3) := by decide +kernel
theorem dX6_make_24 : decode cX6_make 24 = .ok (.aload_n 0, 1) := by decide +kernel
theorem dX6_make_25 : decode cX6_make 25 = .ok (.getfield 134, 3) := by decide +kernel
theorem dX6_make_28 : decode cX6_make 28 = .ok (.iload 4, 2) := by decide +kernel
theorem dX6_make_30 : decode cX6_make 30 = .ok (.iastore, 1) := by decide +kernel
theorem dX6_make_31 : decode cX6_make 31 = .ok (.aload_n 0, 1) := by decide +kernel
theorem dX6_make_32 : decode cX6_make 32 = .ok (.getfield 69, 3) := by decide +kernel
theorem dX6_make_35 : decode cX6_make 35 = .ok (.aload_n 0, 1) := by decide +kernel
theorem dX6_make_36 : decode cX6_make 36 = .ok (.getfield 134, 3) := by decide +kernel
theorem dX6_make_39 : decode cX6_make 39 = .ok (.iconst (-1), 1) := by decide +kernel
theorem dX6_make_40 : decode cX6_make 40 = .ok (.iastore, 1) := by decide +kernel
theorem dX6_make_41 : decode cX6_make 41 = .ok (.aload_n 0, 1) := by decide +kernel
theorem dX6_make_42 : decode cX6_make 42 = .ok (.dup, 1) := by decide +kernel
theorem dX6_make_43 : decode cX6_make 43 = .ok (.getfield 134, 3) := by decide +kernel
theorem dX6_make_46 : decode cX6_make 46 = .ok (.iconst 1, 1) := by decide +kernel
theorem dX6_make_47 : decode cX6_make 47 = .ok (.iadd, 1) := by decide +kernel
theorem dX6_make_48 : decode cX6_make 48 = .ok (.putfield 134, 3) := by decide +kernel
theorem dX6_make_51 : decode cX6_make 51 = .ok (.aload_n 0, 1) := by decide +kernel
theorem dX6_make_52 : decode cX6_make 52 = .ok (.aload_n 0, 1) := by decide +kernel
theorem dX6_make_53 : decode cX6_make 53 = .ok (.getfield 134, 3) := by decide +kernel
theorem dX6_make_56 : decode cX6_make 56 = .ok (.iconst 1, 1) := by decide +kernel
theorem dX6_make_57 : decode cX6_make 57 = .ok (.isub, 1) := by decide +kernel
theorem dX6_make_58 : decode cX6_make 58 = .ok (.iload_n 2, 1) := by decide +kernel
theorem dX6_make_59 : decode cX6_make 59 = .ok (.invokevirtual 159, 3) := by decide +kernel
theorem dX6_make_62 : decode cX6_make 62 = .ok (.aload_n 0, 1) := by decide +kernel
theorem dX6_make_63 : decode cX6_make 63 = .ok (.getfield 134, 3) := by decide +kernel
theorem dX6_make_66 : decode cX6_make 66 = .ok (.iconst 1, 1) := by decide +kernel
theorem dX6_make_67 : decode cX6_make 67 = .ok (.isub, 1) := by decide +kernel
theorem dX6_make_68 : decode cX6_make 68 = .ok (.ireturn, 1) := by decide +kernel
set_option maxRecDepth 20000 in
theorem ggX6_deliver_X6_isHolder : GoodIn wsX6_deliver wsX6_isHolder := goodIn_r _ [16, 17, 18, 15, 19] (by decide +kernel) (by decide +kernel)
set_option maxRecDepth 20000 in
theorem gX6_deliver_X6_isHolder : GoodIn wsX6_deliver (va_wsS RX6 163 yX6_isHolder wsX6_isHolder) := goodIn_app (goodIn_of _ (by decide +kernel)) ggX6_deliver_X6_isHolder
set_option maxRecDepth 20000 in
theorem ggX6_deliver_X6_isKind : GoodIn wsX6_deliver wsX6_isKind := goodIn_r _ [22, 17, 18, 15, 19] (by decide +kernel) (by decide +kernel)
set_option maxRecDepth 20000 in
theorem gX6_deliver_X6_isKind : GoodIn wsX6_deliver (va_wsS RX6 166 yX6_isKind wsX6_isKind) := goodIn_app (goodIn_of _ (by decide +kernel)) ggX6_deliver_X6_isKind
set_option maxRecDepth 20000 in
theorem ggX6_deliver_X6_in : GoodIn wsX6_deliver wsX6_in := goodIn_r _ [19] (by decide +kernel) (by decide +kernel)
set_option maxRecDepth 20000 in
theorem gX6_deliver_X6_in : GoodIn wsX6_deliver (va_wsS RX6 130 yX6_in wsX6_in) := goodIn_app (goodIn_of _ (by decide +kernel)) ggX6_deliver_X6_in
set_option maxRecDepth 20000 in
theorem ggX6_deliver_X6_dryOf : GoodIn wsX6_deliver wsX6_dryOf := goodIn_r _ [25, 26] (by decide +kernel) (by decide +kernel)
set_option maxRecDepth 20000 in
theorem gX6_deliver_X6_dryOf : GoodIn wsX6_deliver (va_wsS RX6 170 yX6_dryOf wsX6_dryOf) := goodIn_app (goodIn_of _ (by decide +kernel)) ggX6_deliver_X6_dryOf
set_option maxRecDepth 20000 in
theorem ggX6_deliver_X6_siloFor : GoodIn wsX6_deliver wsX6_siloFor := goodIn_r _ [30, 31, 10, 32, 33, 34, 35, 15, 36, 11, 12, 61, 62, 63, 64, 65, 66, 67, 68, 69, 70, 71, 72, 73, 74, 75, 76, 77, 78, 79, 80, 81, 82, 83, 84, 85, 86, 87, 88, 89, 90, 91, 92, 93, 94, 95, 96, 97, 98, 99, 100, 101, 102, 103, 104, 105, 106] (by decide +kernel) (by decide +kernel)
set_option maxRecDepth 20000 in
theorem gX6_deliver_X6_siloFor : GoodIn wsX6_deliver (wsV RX6 174 RX6 yX6_siloFor wsX6_siloFor) := goodIn_app (goodIn_of _ (by decide +kernel)) ggX6_deliver_X6_siloFor
set_option maxRecDepth 20000 in
theorem ggX6_deliver_X6_goesWell : GoodIn wsX6_deliver wsX6_goesWell := goodIn_r _ [40, 41, 61, 62, 63, 64, 65, 66, 67, 68, 69, 70, 71, 72, 73, 74, 75, 76, 77, 78, 79, 80, 81, 82, 83, 84, 85, 86, 87, 88, 89, 90, 91, 92, 93, 94, 95, 96, 97, 98, 99, 100, 101, 102, 103, 104, 105, 106] (by decide +kernel) (by decide +kernel)
set_option maxRecDepth 20000 in
theorem gX6_deliver_X6_goesWell : GoodIn wsX6_deliver (wsV RX6 141 RX6 yX6_goesWell wsX6_goesWell) := goodIn_app (goodIn_of _ (by decide +kernel)) ggX6_deliver_X6_goesWell
set_option maxRecDepth 20000 in
theorem ggX6_deliver_X6_make : GoodIn wsX6_deliver wsX6_make := goodIn_r _ [45, 46, 3, 47, 48, 49, 50, 51, 52, 15, 53, 54, 55, 56, 57, 58, 59, 60, 61, 62, 63, 64, 65, 66, 67, 68, 69, 70, 71, 72, 73, 74, 75, 76, 77, 78, 79, 80, 81, 82, 83, 84, 85, 86, 87, 88, 89, 90, 91, 92, 93, 94, 95, 96, 97, 98, 99, 100, 101, 102, 103, 104, 105, 106] (by decide +kernel) (by decide +kernel)
set_option maxRecDepth 20000 in
theorem gX6_deliver_X6_make : GoodIn wsX6_deliver (wsV RX6 181 RX6 yX6_make wsX6_make) := goodIn_app (goodIn_of _ (by decide +kernel)) ggX6_deliver_X6_make
theorem dX6_deliver_0 : decode cX6_deliver 0 = .ok (.iload_n 1, 1) := by decide +kernel
theorem dX6_deliver_1 : decode cX6_deliver 1 = .ok (.invokestatic 163, 3) := by decide +kernel
theorem dX6_deliver_4 : decode cX6_deliver 4 = .ok (.ifCond .eq 38, 3) := by decide +kernel
theorem dX6_deliver_7 : decode cX6_deliver 7 = .ok (.iload_n 2, 1) := by decide +kernel
theorem dX6_deliver_8 : decode cX6_deliver 8 = .ok (.invokestatic 166, 3) := by decide +kernel
theorem dX6_deliver_11 : decode cX6_deliver 11 = .ok (.ifCond .eq 31, 3) := by decide +kernel
theorem dX6_deliver_14 : decode cX6_deliver 14 = .ok (.iload_n 3, 1) := by decide +kernel
theorem dX6_deliver_15 : decode cX6_deliver 15 = .ok (.bipush 100, 2) := by decide +kernel
theorem dX6_deliver_17 : decode cX6_deliver 17 = .ok (.ldc 169, 2) := by decide +kernel
theorem dX6_deliver_19 : decode cX6_deliver 19 = .ok (.invokestatic 130, 3) := by decide +kernel
theorem dX6_deliver_22 : decode cX6_deliver 22 = .ok (.ifCond .eq 20, 3) := by decide +kernel
theorem dX6_deliver_25 : decode cX6_deliver 25 = .ok (.iload 4, 2) := by decide +kernel
theorem dX6_deliver_27 : decode cX6_deliver 27 = .ok (.bipush 50, 2) := by decide +kernel
theorem dX6_deliver_29 : decode cX6_deliver 29 = .ok (.sipush 300, 3) := by decide +kernel
theorem dX6_deliver_32 : decode cX6_deliver 32 = .ok (.invokestatic 130, 3) := by decide +kernel
theorem dX6_deliver_35 : decode cX6_deliver 35 = .ok (.ifCond .eq 7, 3) := by decide +kernel
theorem dX6_deliver_38 : decode cX6_deliver 38 = .ok (.iconst 1, 1) := by decide +kernel
theorem dX6_deliver_39 : decode cX6_deliver 39 = .ok (.goto 4, 3) := by decide +kernel
theorem dX6_deliver_42 : decode cX6_deliver 42 = .ok (.iconst 0, 1) := by decide +kernel
theorem dX6_deliver_43 : decode cX6_deliver 43 = .ok (.istore 5, 2) := by decide +kernel
theorem dX6_deliver_45 : decode cX6_deliver 45 = .ok (.iload 5, 2) := by decide +kernel
theorem dX6_deliver_47 : decode cX6_deliver 47 = .ok (.ifCond .eq 12, 3) := by decide +kernel
theorem dX6_deliver_50 : decode cX6_deliver 50 = .ok (.iload_n 3, 1) := by decide +kernel
theorem dX6_deliver_51 : decode cX6_deliver 51 = .ok (.iload 4, 2) := by decide +kernel
theorem dX6_deliver_53 : decode cX6_deliver 53 = .ok (.invokestatic 170, 3) := by decide +kernel
theorem dX6_deliver_56 : decode cX6_deliver 56 = .ok (.goto 4, 3) := by decide +kernel
theorem dX6_deliver_59 : decode cX6_deliver 59 = .ok (.iconst 0, 1) := by decide +kernel
theorem dX6_deliver_60 : decode cX6_deliver 60 = .ok (.istore 6, 2) := by decide +kernel
theorem dX6_deliver_62 : decode cX6_deliver 62 = .ok (.iload 4, 2) := by decide +kernel
theorem dX6_deliver_64 : decode cX6_deliver 64 = .ok (.sipush 140, 3) := by decide +kernel
theorem dX6_deliver_67 : decode cX6_deliver 67 = .ok (.if_icmp .gt 7, 3) := by decide +kernel
theorem dX6_deliver_70 : decode cX6_deliver 70 = .ok (.iconst 0, 1) := by decide +kernel
theorem dX6_deliver_71 : decode cX6_deliver 71 = .ok (.goto 16, 3) := by decide +kernel
theorem dX6_deliver_74 : decode cX6_deliver 74 = .ok (.iload 4, 2) := by decide +kernel
theorem dX6_deliver_76 : decode cX6_deliver 76 = .ok (.sipush 180, 3) := by decide +kernel
theorem dX6_deliver_79 : decode cX6_deliver 79 = .ok (.if_icmp .gt 7, 3) := by decide +kernel
theorem dX6_deliver_82 : decode cX6_deliver 82 = .ok (.iconst 1, 1) := by decide +kernel
theorem dX6_deliver_83 : decode cX6_deliver 83 = .ok (.goto 4, 3) := by decide +kernel
theorem dX6_deliver_86 : decode cX6_deliver 86 = .ok (.iconst 2, 1) := by decide +kernel
theorem dX6_deliver_87 : decode cX6_deliver 87 = .ok (.istore 7, 2) := by decide +kernel
theorem dX6_deliver_89 : decode cX6_deliver 89 = .ok (.iload 5, 2) := by decide +kernel
theorem dX6_deliver_91 : decode cX6_deliver 91 = .ok (.ifCond .eq 15, 3) := by decide +kernel
theorem dX6_deliver_94 : decode cX6_deliver 94 = .ok (.aload_n 0, 1) := by decide +kernel
theorem dX6_deliver_95 : decode cX6_deliver 95 = .ok (.iload_n 2, 1) := by decide +kernel
theorem dX6_deliver_96 : decode cX6_deliver 96 = .ok (.iload 7, 2) := by decide +kernel
theorem dX6_deliver_98 : decode cX6_deliver 98 = .ok (.iload 6, 2) := by decide +kernel
theorem dX6_deliver_100 : decode cX6_deliver 100 = .ok (.invokevirtual 174, 3) := by decide +kernel
theorem dX6_deliver_103 : decode cX6_deliver 103 = .ok (.goto 4, 3) := by decide +kernel
theorem dX6_deliver_106 : decode cX6_deliver 106 = .ok (.iconst (-1), 1) := by decide +kernel
theorem dX6_deliver_107 : decode cX6_deliver 107 = .ok (.istore 8, 2) := by decide +kernel
theorem dX6_deliver_109 : decode cX6_deliver 109 = .ok (.iload 5, 2) := by decide +kernel
theorem dX6_deliver_111 : decode cX6_deliver 111 = .ok (.ifCond .eq 31, 3) := by decide +kernel
theorem dX6_deliver_114 : decode cX6_deliver 114 = .ok (.aload_n 0, 1) := by decide +kernel
theorem dX6_deliver_115 : decode cX6_deliver 115 = .ok (.getfield 178, 3) := by decide +kernel
theorem dX6_deliver_118 : decode cX6_deliver 118 = .ok (.bipush 40, 2) := by decide +kernel
theorem dX6_deliver_120 : decode cX6_deliver 120 = .ok (.if_icmp .ge 22, 3) := by decide +kernel
theorem dX6_deliver_123 : decode cX6_deliver 123 = .ok (.aload_n 0, 1) := by decide +kernel
theorem dX6_deliver_124 : decode cX6_deliver 124 = .ok (.getfield 134, 3) := by decide +kernel
theorem dX6_deliver_127 : decode cX6_deliver 127 = .ok (.bipush 80, 2) := by decide +kernel
theorem dX6_deliver_129 : decode cX6_deliver 129 = .ok (.if_icmp .ge 13, 3) := by decide +kernel
theorem dX6_deliver_132 : decode cX6_deliver 132 = .ok (.iload 8, 2) := by decide +kernel
theorem dX6_deliver_134 : decode cX6_deliver 134 = .ok (.iconst (-1), 1) := by decide +kernel
theorem dX6_deliver_135 : decode cX6_deliver 135 = .ok (.if_icmp .eq 7, 3) := by decide +kernel
theorem dX6_deliver_138 : decode cX6_deliver 138 = .ok (.iconst 1, 1) := by decide +kernel
theorem dX6_deliver_139 : decode cX6_deliver 139 = .ok (.goto 4, 3) := by decide +kernel
theorem dX6_deliver_142 : decode cX6_deliver 142 = .ok (.iconst 0, 1) := by decide +kernel
theorem dX6_deliver_143 : decode cX6_deliver 143 = .ok (.istore 9, 2) := by decide +kernel
theorem dX6_deliver_145 : decode cX6_deliver 145 = .ok (.aload_n 0, 1) := by decide +kernel
theorem dX6_deliver_146 : decode cX6_deliver 146 = .ok (.iload 5, 2) := by decide +kernel
theorem dX6_deliver_148 : decode cX6_deliver 148 = .ok (.ifCond .ne 7, 3) := by decide +kernel
theorem dX6_deliver_151 : decode cX6_deliver 151 = .ok (.iconst 1, 1) := by decide +kernel
theorem dX6_deliver_152 : decode cX6_deliver 152 = .ok (.goto 13, 3) := by decide +kernel
theorem dX6_deliver_155 : decode cX6_deliver 155 = .ok (.iload 9, 2) := by decide +kernel
theorem dX6_deliver_157 : decode cX6_deliver 157 = .ok (.ifCond .eq 7, 3) := by decide +kernel
theorem dX6_deliver_160 : decode cX6_deliver 160 = .ok (.iconst 0, 1) := by decide +kernel
theorem dX6_deliver_161 : decode cX6_deliver 161 = .ok (.goto 4, 3) := by decide +kernel
theorem dX6_deliver_164 : decode cX6_deliver 164 = .ok (.iconst 2, 1) := by decide +kernel
theorem dX6_deliver_165 : decode cX6_deliver 165 = .ok (.invokevirtual 141, 3) := by decide +kernel
theorem dX6_deliver_168 : decode cX6_deliver 168 = .ok (.ifCond .ne 5, 3) := by decide +kernel
theorem dX6_deliver_171 : decode cX6_deliver 171 = .ok (.iconst 0, 1) := by decide +kernel
theorem dX6_deliver_172 : decode cX6_deliver 172 = .ok (.ireturn, 1) := by decide +kernel
theorem dX6_deliver_173 : decode cX6_deliver 173 = .ok (.aload_n 0, 1) := by decide +kernel
theorem dX6_deliver_174 : decode cX6_deliver 174 = .ok (.getfield 39, 3) := by decide +kernel
theorem dX6_deliver_177 : decode cX6_deliver 177 = .ok (.aload_n 0, 1) := by decide +kernel
theorem dX6_deliver_178 : decode cX6_deliver 178 = .ok (.getfield 178, 3) := by decide +kernel
theorem dX6_deliver_181 : decode cX6_deliver 181 = .ok (.iload_n 1, 1) := by decide +kernel
theorem dX6_deliver_182 : decode cX6_deliver 182 = .ok (.iastore, 1) := by decide +kernel
theorem dX6_deliver_183 : decode cX6_deliver 183 = .ok (.aload_n 0, 1) := by decide +kernel
theorem dX6_deliver_184 : decode cX6_deliver 184 = .ok (.getfield 42, 3) := by decide +kernel
theorem dX6_deliver_187 : decode cX6_deliver 187 = .ok (.aload_n 0, 1) := by decide +kernel
theorem dX6_deliver_188 : decode cX6_deliver 188 = .ok (.getfield 178, 3) := by decide +kernel
theorem dX6_deliver_191 : decode cX6_deliver 191 = .ok (.iload_n 3, 1) := by decide +kernel
theorem dX6_deliver_192 : decode cX6_deliver 192 = .ok (.iastore, 1) := by decide +kernel
theorem dX6_deliver_193 : decode cX6_deliver 193 = .ok (.aload_n 0, 1) := by decide +kernel
theorem dX6_deliver_194 : decode cX6_deliver 194 = .ok (.getfield 45, 3) := by decide +kernel
theorem dX6_deliver_197 : decode cX6_deliver 197 = .ok (.aload_n 0, 1) := by decide +kernel
theorem dX6_deliver_198 : decode cX6_deliver 198 = .ok (.getfield 178, 3) := by decide +kernel
theorem dX6_deliver_201 : decode cX6_deliver 201 = .ok (.iload 6, 2) := by decide +kernel
theorem dX6_deliver_203 : decode cX6_deliver 203 = .ok (.iastore, 1) := by decide +kernel
theorem dX6_deliver_204 : decode cX6_deliver 204 = .ok (.aload_n 0, 1) := by decide +kernel
theorem dX6_deliver_205 : decode cX6_deliver 205 = .ok (.getfield 48, 3) := by decide +kernel
theorem dX6_deliver_208 : decode cX6_deliver 208 = .ok (.aload_n 0, 1) := by decide +kernel
theorem dX6_deliver_209 : decode cX6_deliver 209 = .ok (.getfield 178, 3) := by decide +kernel
theorem dX6_deliver_212 : decode cX6_deliver 212 = .ok (.iload_n 2, 1) := by decide +kernel
theorem dX6_deliver_213 : decode cX6_deliver 213 = .ok (.iastore, 1) := by decide +kernel
theorem dX6_deliver_214 : decode cX6_deliver 214 = .ok (.aload_n 0, 1) := by decide +kernel
theorem dX6_deliver_215 : decode cX6_deliver 215 = .ok (.getfield 51, 3) := by decide +kernel
theorem dX6_deliver_218 : decode cX6_deliver 218 = .ok (.aload_n 0, 1) := by decide +kernel
theorem dX6_deliver_219 : decode cX6_deliver 219 = .ok (.getfield 178, 3) := by decide +kernel
theorem dX6_deliver_222 : decode cX6_deliver 222 = .ok (.iload 7, 2) := by decide +kernel
theorem dX6_deliver_224 : decode cX6_deliver 224 = .ok (.iastore, 1) := by decide +kernel
theorem dX6_deliver_225 : decode cX6_deliver 225 = .ok (.aload_n 0, 1) := by decide +kernel
theorem dX6_deliver_226 : decode cX6_deliver 226 = .ok (.getfield 54, 3) := by decide +kernel
theorem dX6_deliver_229 : decode cX6_deliver 229 = .ok (.aload_n 0, 1) := by decide +kernel
theorem dX6_deliver_230 : decode cX6_deliver 230 = .ok (.getfield 178, 3) := by decide +kernel
theorem dX6_deliver_233 : decode cX6_deliver 233 = .ok (.iload 8, 2) := by decide +kernel
theorem dX6_deliver_235 : decode cX6_deliver 235 = .ok (.iastore, 1) := by decide +kernel
theorem dX6_deliver_236 : decode cX6_deliver 236 = .ok (.aload_n 0, 1) := by decide +kernel
theorem dX6_deliver_237 : decode cX6_deliver 237 = .ok (.dup, 1) := by decide +kernel
theorem dX6_deliver_238 : decode cX6_deliver 238 = .ok (.getfield 178, 3) := by decide +kernel
theorem dX6_deliver_241 : decode cX6_deliver 241 = .ok (.iconst 1, 1) := by decide +kernel
theorem dX6_deliver_242 : decode cX6_deliver 242 = .ok (.iadd, 1) := by decide +kernel
theorem dX6_deliver_243 : decode cX6_deliver 243 = .ok (.putfield 178, 3) := by decide +kernel
theorem dX6_deliver_246 : decode cX6_deliver 246 = .ok (.aload_n 0, 1) := by decide +kernel
theorem dX6_deliver_247 : decode cX6_deliver 247 = .ok (.getfield 27, 3) := by decide +kernel
theorem dX6_deliver_250 : decode cX6_deliver 250 = .ok (.iload 8, 2) := by decide +kernel
theorem dX6_deliver_252 : decode cX6_deliver 252 = .ok (.dup2, 1) := by decide +kernel
theorem dX6_deliver_253 : decode cX6_deliver 253 = .ok (.iaload, 1) := by decide +kernel
theorem dX6_deliver_254 : decode cX6_deliver 254 = .ok (.iload 6, 2) := by decide +kernel
theorem dX6_deliver_256 : decode cX6_deliver 256 = .ok (.iadd, 1) := by decide +kernel
theorem dX6_deliver_257 : decode cX6_deliver 257 = .ok (.iastore, 1) := by decide +kernel
theorem dX6_deliver_258 : decode cX6_deliver 258 = .ok (.aload_n 0, 1) := by decide +kernel
theorem dX6_deliver_259 : decode cX6_deliver 259 = .ok (.getfield 30, 3) := by decide +kernel
theorem dX6_deliver_262 : decode cX6_deliver 262 = .ok (.iload 8, 2) := by decide +kernel
theorem dX6_deliver_264 : decode cX6_deliver 264 = .ok (.iload_n 2, 1) := by decide +kernel
theorem dX6_deliver_265 : decode cX6_deliver 265 = .ok (.iastore, 1) := by decide +kernel
theorem dX6_deliver_266 : decode cX6_deliver 266 = .ok (.aload_n 0, 1) := by decide +kernel
theorem dX6_deliver_267 : decode cX6_deliver 267 = .ok (.getfield 33, 3) := by decide +kernel
theorem dX6_deliver_270 : decode cX6_deliver 270 = .ok (.iload 8, 2) := by decide +kernel
theorem dX6_deliver_272 : decode cX6_deliver 272 = .ok (.iload 7, 2) := by decide +kernel
theorem dX6_deliver_274 : decode cX6_deliver 274 = .ok (.iastore, 1) := by decide +kernel
theorem dX6_deliver_275 : decode cX6_deliver 275 = .ok (.aload_n 0, 1) := by decide +kernel
theorem dX6_deliver_276 : decode cX6_deliver 276 = .ok (.iload 6, 2) := by decide +kernel
theorem dX6_deliver_278 : decode cX6_deliver 278 = .ok (.iload_n 1, 1) := by decide +kernel
theorem dX6_deliver_279 : decode cX6_deliver 279 = .ok (.iload 8, 2) := by decide +kernel
theorem dX6_deliver_281 : decode cX6_deliver 281 = .ok (.aload_n 0, 1) := by decide +kernel
theorem dX6_deliver_282 : decode cX6_deliver 282 = .ok (.getfield 178, 3) := by decide +kernel
theorem dX6_deliver_285 : decode cX6_deliver 285 = .ok (.iconst 1, 1) := by decide +kernel
theorem dX6_deliver_286 : decode cX6_deliver 286 = .ok (.isub, 1) := by decide +kernel
theorem dX6_deliver_287 : decode cX6_deliver 287 = .ok (.invokevirtual 181, 3) := by decide +kernel
theorem dX6_deliver_290 : decode cX6_deliver 290 = .ok (.ireturn, 1) := by decide +kernel
set_option maxRecDepth 20000 in
theorem ggX6_splitOff_X6_make : GoodIn wsX6_splitOff wsX6_make := goodIn_r _ [10, 1, 11, 3, 4, 12, 13, 14, 15, 9, 16, 2, 5, 17, 18, 19, 20, 21, 22, 23, 24, 25, 26, 27, 28, 29, 30, 31, 32, 33, 34, 35, 36, 37, 38, 39, 40, 41, 42, 43, 44, 45, 46, 47, 48, 49, 50, 51, 52, 53, 54, 55, 56, 57, 58, 59, 60, 61, 62, 63, 64, 65, 66, 67] (by decide +kernel) (by decide +kernel)
set_option maxRecDepth 20000 in
theorem gX6_splitOff_X6_make : GoodIn wsX6_splitOff (wsV RX6 181 RX6 yX6_make wsX6_make) := goodIn_app (goodIn_of _ (by decide +kernel)) ggX6_splitOff_X6_make
theorem dX6_splitOff_0 : decode cX6_splitOff 0 = .ok (.aload_n 0, 1) := by decide +kernel
theorem dX6_splitOff_1 : decode cX6_splitOff 1 = .ok (.getfield 57, 3) := by decide +kernel
theorem dX6_splitOff_4 : decode cX6_splitOff 4 = .ok (.iload_n 1, 1) := by decide +kernel
theorem dX6_splitOff_5 : decode cX6_splitOff 5 = .ok (.dup2, 1) := by decide +kernel
theorem dX6_splitOff_6 : decode cX6_splitOff 6 = .ok (.iaload, 1) := by decide +kernel
theorem dX6_splitOff_7 : decode cX6_splitOff 7 = .ok (.iload_n 2, 1) := by decide +kernel
theorem dX6_splitOff_8 : decode cX6_splitOff 8 = .ok (.isub, 1) := by decide +kernel
theorem dX6_splitOff_9 : decode cX6_splitOff 9 = .ok (.iastore, 1) := by decide +kernel
theorem dX6_splitOff_10 : decode cX6_splitOff 10 = .ok (.aload_n 0, 1) := by decide +kernel
theorem dX6_splitOff_11 : decode cX6_splitOff 11 = .ok (.iload_n 2, 1) := by decide +kernel
theorem dX6_splitOff_12 : decode cX6_splitOff 12 = .ok (.aload_n 0, 1) := by decide +kernel
theorem dX6_splitOff_13 : decode cX6_splitOff 13 = .ok (.getfield 60, 3) := by decide +kernel
theorem dX6_splitOff_16 : decode cX6_splitOff 16 = .ok (.iload_n 1, 1) := by decide +kernel
theorem dX6_splitOff_17 : decode cX6_splitOff 17 = .ok (.iaload, 1) := by decide +kernel
theorem dX6_splitOff_18 : decode cX6_splitOff 18 = .ok (.aload_n 0, 1) := by decide +kernel
theorem dX6_splitOff_19 : decode cX6_splitOff 19 = .ok (.getfield 63, 3) := by decide +kernel
theorem dX6_splitOff_22 : decode cX6_splitOff 22 = .ok (.iload_n 1, 1) := by decide +kernel
theorem dX6_splitOff_23 : decode cX6_splitOff 23 = .ok (.iaload, 1) := by decide +kernel
theorem dX6_splitOff_24 : decode cX6_splitOff 24 = .ok (.aload_n 0, 1) := by decide +kernel
theorem dX6_splitOff_25 : decode cX6_splitOff 25 = .ok (.getfield 66, 3) := by decide +kernel
theorem dX6_splitOff_28 : decode cX6_splitOff 28 = .ok (.iload_n 1, 1) := by decide +kernel
theorem dX6_splitOff_29 : decode cX6_splitOff 29 = .ok (.iaload, 1) := by decide +kernel
theorem dX6_splitOff_30 : decode cX6_splitOff 30 = .ok (.invokevirtual 181, 3) := by decide +kernel
theorem dX6_splitOff_33 : decode cX6_splitOff 33 = .ok (.istore_n 3, 1) := by decide +kernel
theorem dX6_splitOff_34 : decode cX6_splitOff 34 = .ok (.aload_n 0, 1) := by decide +kernel
theorem dX6_splitOff_35 : decode cX6_splitOff 35 = .ok (.getfield 78, 3) := by decide +kernel
theorem dX6_splitOff_38 : decode cX6_splitOff 38 = .ok (.iload_n 3, 1) := by decide +kernel
theorem dX6_splitOff_39 : decode cX6_splitOff 39 = .ok (.aload_n 0, 1) := by decide +kernel
theorem dX6_splitOff_40 : decode cX6_splitOff 40 = .ok (.getfield 78, 3) := by decide +kernel
theorem dX6_splitOff_43 : decode cX6_splitOff 43 = .ok (.iload_n 1, 1) := by decide +kernel
theorem dX6_splitOff_44 : decode cX6_splitOff 44 = .ok (.iaload, 1) := by decide +kernel
theorem dX6_splitOff_45 : decode cX6_splitOff 45 = .ok (.iastore, 1) := by decide +kernel
theorem dX6_splitOff_46 : decode cX6_splitOff 46 = .ok (.iload_n 3, 1) := by decide +kernel
theorem dX6_splitOff_47 : decode cX6_splitOff 47 = .ok (.ireturn, 1) := by decide +kernel
set_option maxRecDepth 20000 in
theorem ggX6_split_X6_isReceipt : GoodIn wsX6_split wsX6_isReceipt := goodIn_r _ [9, 4, 10, 11, 8, 12, 39, 40, 41, 42, 43, 44, 45, 46, 47, 48, 49, 50, 51, 52, 53, 54, 55, 56, 57, 58, 59, 60, 61, 62, 63, 64, 65, 66, 67, 68, 69, 70, 71, 72, 73, 74, 75, 76, 77, 78, 79, 80, 81, 82, 83, 84] (by decide +kernel) (by decide +kernel)
set_option maxRecDepth 20000 in
theorem gX6_split_X6_isReceipt : GoodIn wsX6_split (wsV RX6 185 RX6 yX6_isReceipt wsX6_isReceipt) := goodIn_app (goodIn_of _ (by decide +kernel)) ggX6_split_X6_isReceipt
set_option maxRecDepth 20000 in
theorem ggX6_split_X6_in : GoodIn wsX6_split wsX6_in := goodIn_r _ [12] (by decide +kernel) (by decide +kernel)
set_option maxRecDepth 20000 in
theorem gX6_split_X6_in : GoodIn wsX6_split (va_wsS RX6 130 yX6_in wsX6_in) := goodIn_app (goodIn_of _ (by decide +kernel)) ggX6_split_X6_in
set_option maxRecDepth 20000 in
theorem ggX6_split_X6_goesWell : GoodIn wsX6_split wsX6_goesWell := goodIn_r _ [16, 17, 39, 40, 41, 42, 43, 44, 45, 46, 47, 48, 49, 50, 51, 52, 53, 54, 55, 56, 57, 58, 59, 60, 61, 62, 63, 64, 65, 66, 67, 68, 69, 70, 71, 72, 73, 74, 75, 76, 77, 78, 79, 80, 81, 82, 83, 84] (by decide +kernel) (by decide +kernel)
set_option maxRecDepth 20000 in
theorem gX6_split_X6_goesWell : GoodIn wsX6_split (wsV RX6 141 RX6 yX6_goesWell wsX6_goesWell) := goodIn_app (goodIn_of _ (by decide +kernel)) ggX6_split_X6_goesWell
set_option maxRecDepth 20000 in
theorem ggX6_split_X6_splitOff : GoodIn wsX6_split wsX6_splitOff := goodIn_r _ [21, 2, 22, 23, 24, 25, 26, 27, 28, 8, 29, 4, 3, 30, 31, 32, 33, 34, 35, 36, 37, 38, 39, 40, 41, 42, 43, 44, 45, 46, 47, 48, 49, 50, 51, 52, 53, 54, 55, 56, 57, 58, 59, 60, 61, 62, 63, 64, 65, 66, 67, 68, 69, 70, 71, 72, 73, 74, 75, 76, 77, 78, 79, 80, 81, 82, 83, 84] (by decide +kernel) (by decide +kernel)
set_option maxRecDepth 20000 in
theorem gX6_split_X6_splitOff : GoodIn wsX6_split (wsV RX6 188 RX6 yX6_splitOff wsX6_splitOff) := goodIn_app (goodIn_of _ (by decide +kernel)) ggX6_split_X6_splitOff
theorem dX6_split_0 : decode cX6_split 0 = .ok (.aload_n 0, 1) := by decide +kernel
theorem dX6_split_1 : decode cX6_split 1 = .ok (.iload_n 1, 1) := by decide +kernel
theorem dX6_split_2 : decode cX6_split 2 = .ok (.invokevirtual 185, 3) := by decide +kernel
theorem dX6_split_5 : decode cX6_split 5 = .ok (.istore_n 3, 1) := by decide +kernel
theorem dX6_split_6 : decode cX6_split 6 = .ok (.iload_n 2, 1) := by decide +kernel
theorem dX6_split_7 : decode cX6_split 7 = .ok (.iconst 1, 1) := by decide +kernel
theorem dX6_split_8 : decode cX6_split 8 = .ok (.ldc 169, 2) := by decide +kernel
theorem dX6_split_10 : decode cX6_split 10 = .ok (.invokestatic 130, 3) := by decide +kernel
theorem dX6_split_13 : decode cX6_split 13 = .ok (.istore 4, 2) := by decide +kernel
theorem dX6_split_15 : decode cX6_split 15 = .ok (.iload_n 3, 1) := by decide +kernel
theorem dX6_split_16 : decode cX6_split 16 = .ok (.ifCond .eq 36, 3) := by decide +kernel
theorem dX6_split_19 : decode cX6_split 19 = .ok (.aload_n 0, 1) := by decide +kernel
theorem dX6_split_20 : decode cX6_split 20 = .ok (.getfield 57, 3) := by decide +kernel
theorem dX6_split_23 : decode cX6_split 23 = .ok (.iload_n 1, 1) := by decide +kernel
theorem dX6_split_24 : decode cX6_split 24 = .ok (.iaload, 1) := by decide +kernel
theorem dX6_split_25 : decode cX6_split 25 = .ok (.iload_n 2, 1) := by decide +kernel
theorem dX6_split_26 : decode cX6_split 26 = .ok (.if_icmp .le 26, 3) := by decide +kernel
theorem dX6_split_29 : decode cX6_split 29 = .ok (.aload_n 0, 1) := by decide +kernel
theorem dX6_split_30 : decode cX6_split 30 = .ok (.getfield 69, 3) := by decide +kernel
theorem dX6_split_33 : decode cX6_split 33 = .ok (.iload_n 1, 1) := by decide +kernel
theorem dX6_split_34 : decode cX6_split 34 = .ok (.iaload, 1) := by decide +kernel
theorem dX6_split_35 : decode cX6_split 35 = .ok (.iconst (-1), 1) := by decide +kernel
theorem dX6_split_36 : decode cX6_split 36 = .ok (.if_icmp .ne 16, 3) := by decide +kernel
theorem dX6_split_39 : decode cX6_split 39 = .ok (.aload_n 0, 1) := by decide +kernel
theorem dX6_split_40 : decode cX6_split 40 = .ok (.getfield 134, 3) := by decide +kernel
theorem dX6_split_43 : decode cX6_split 43 = .ok (.bipush 80, 2) := by decide +kernel
theorem dX6_split_45 : decode cX6_split 45 = .ok (.if_icmp .ge 7, 3) := by decide +kernel
theorem dX6_split_48 : decode cX6_split 48 = .ok (.iconst 1, 1) := by decide +kernel
theorem dX6_split_49 : decode cX6_split 49 = .ok (.goto 4, 3) := by decide +kernel
theorem dX6_split_52 : decode cX6_split 52 = .ok (.iconst 0, 1) := by decide +kernel
theorem dX6_split_53 : decode cX6_split 53 = .ok (.istore 5, 2) := by decide +kernel
theorem dX6_split_55 : decode cX6_split 55 = .ok (.aload_n 0, 1) := by decide +kernel
theorem dX6_split_56 : decode cX6_split 56 = .ok (.iload_n 3, 1) := by decide +kernel
theorem dX6_split_57 : decode cX6_split 57 = .ok (.ifCond .ne 7, 3) := by decide +kernel
theorem dX6_split_60 : decode cX6_split 60 = .ok (.iconst 1, 1) := by decide +kernel
theorem dX6_split_61 : decode cX6_split 61 = .ok (.goto 22, 3) := by decide +kernel
theorem dX6_split_64 : decode cX6_split 64 = .ok (.iload 4, 2) := by decide +kernel
theorem dX6_split_66 : decode cX6_split 66 = .ok (.ifCond .ne 7, 3) := by decide +kernel
theorem dX6_split_69 : decode cX6_split 69 = .ok (.iconst 2, 1) := by decide +kernel
theorem dX6_split_70 : decode cX6_split 70 = .ok (.goto 13, 3) := by decide +kernel
theorem dX6_split_73 : decode cX6_split 73 = .ok (.iload 5, 2) := by decide +kernel
theorem dX6_split_75 : decode cX6_split 75 = .ok (.ifCond .eq 7, 3) := by decide +kernel
theorem dX6_split_78 : decode cX6_split 78 = .ok (.iconst 0, 1) := by decide +kernel
theorem dX6_split_79 : decode cX6_split 79 = .ok (.goto 4, 3) := by decide +kernel
theorem dX6_split_82 : decode cX6_split 82 = .ok (.iconst 3, 1) := by decide +kernel
theorem dX6_split_83 : decode cX6_split 83 = .ok (.invokevirtual 141, 3) := by decide +kernel
theorem dX6_split_86 : decode cX6_split 86 = .ok (.ifCond .ne 5, 3) := by decide +kernel
theorem dX6_split_89 : decode cX6_split 89 = .ok (.iconst 0, 1) := by decide +kernel
theorem dX6_split_90 : decode cX6_split 90 = .ok (.ireturn, 1) := by decide +kernel
theorem dX6_split_91 : decode cX6_split 91 = .ok (.aload_n 0, 1) := by decide +kernel
theorem dX6_split_92 : decode cX6_split 92 = .ok (.iload_n 1, 1) := by decide +kernel
theorem dX6_split_93 : decode cX6_split 93 = .ok (.iload_n 2, 1) := by decide +kernel
theorem dX6_split_94 : decode cX6_split 94 = .ok (.invokevirtual 188, 3) := by decide +kernel
theorem dX6_split_97 : decode cX6_split 97 = .ok (.ireturn, 1) := by decide +kernel
set_option maxRecDepth 20000 in
theorem ggX6_sell_X6_isReceipt : GoodIn wsX6_sell wsX6_isReceipt := goodIn_r _ [9, 10, 11, 12, 8, 13, 37, 38, 39, 40, 41, 42, 43, 44, 45, 46, 47, 48, 49, 50, 51, 52, 53, 54, 55, 56, 57, 58, 59, 60, 61, 62, 63, 64, 65, 66, 67, 68, 69, 70, 71, 72, 73, 74, 75, 76, 77, 78, 79, 80, 81, 82] (by decide +kernel) (by decide +kernel)
set_option maxRecDepth 20000 in
theorem gX6_sell_X6_isReceipt : GoodIn wsX6_sell (wsV RX6 185 RX6 yX6_isReceipt wsX6_isReceipt) := goodIn_app (goodIn_of _ (by decide +kernel)) ggX6_sell_X6_isReceipt
set_option maxRecDepth 20000 in
theorem ggX6_sell_X6_isHolder : GoodIn wsX6_sell wsX6_isHolder := goodIn_r _ [16, 11, 12, 8, 13] (by decide +kernel) (by decide +kernel)
set_option maxRecDepth 20000 in
theorem gX6_sell_X6_isHolder : GoodIn wsX6_sell (va_wsS RX6 163 yX6_isHolder wsX6_isHolder) := goodIn_app (goodIn_of _ (by decide +kernel)) ggX6_sell_X6_isHolder
set_option maxRecDepth 20000 in
theorem ggX6_sell_X6_in : GoodIn wsX6_sell wsX6_in := goodIn_r _ [13] (by decide +kernel) (by decide +kernel)
set_option maxRecDepth 20000 in
theorem gX6_sell_X6_in : GoodIn wsX6_sell (va_wsS RX6 130 yX6_in wsX6_in) := goodIn_app (goodIn_of _ (by decide +kernel)) ggX6_sell_X6_in
set_option maxRecDepth 20000 in
theorem ggX6_sell_X6_goesWell : GoodIn wsX6_sell wsX6_goesWell := goodIn_r _ [20, 21, 37, 38, 39, 40, 41, 42, 43, 44, 45, 46, 47, 48, 49, 50, 51, 52, 53, 54, 55, 56, 57, 58, 59, 60, 61, 62, 63, 64, 65, 66, 67, 68, 69, 70, 71, 72, 73, 74, 75, 76, 77, 78, 79, 80, 81, 82] (by decide +kernel) (by decide +kernel)
set_option maxRecDepth 20000 in
theorem gX6_sell_X6_goesWell : GoodIn wsX6_sell (wsV RX6 141 RX6 yX6_goesWell wsX6_goesWell) := goodIn_app (goodIn_of _ (by decide +kernel)) ggX6_sell_X6_goesWell
set_option maxRecDepth 20000 in
theorem ggX6_sell_X6_pay : GoodIn wsX6_sell wsX6_pay := goodIn_r _ [25, 26, 37, 38, 39, 40, 41, 42, 43, 44, 45, 46, 47, 48, 49, 50, 51, 52, 53, 54, 55, 56, 57, 58, 59, 60, 61, 62, 63, 64, 65, 66, 67, 68, 69, 70, 71, 72, 73, 74, 75, 76, 77, 78, 79, 80, 81, 82] (by decide +kernel) (by decide +kernel)
set_option maxRecDepth 20000 in
theorem gX6_sell_X6_pay : GoodIn wsX6_sell (wsV RX6 192 RX6 yX6_pay wsX6_pay) := goodIn_app (goodIn_of _ (by decide +kernel)) ggX6_sell_X6_pay
set_option maxRecDepth 20000 in
theorem ggX6_sell_X6_become : GoodIn wsX6_sell wsX6_become := goodIn_r _ [30, 4, 31, 32, 33, 34, 35, 36, 37, 38, 39, 40, 41, 42, 43, 44, 45, 46, 47, 48, 49, 50, 51, 52, 53, 54, 55, 56, 57, 58, 59, 60, 61, 62, 63, 64, 65, 66, 67, 68, 69, 70, 71, 72, 73, 74, 75, 76, 77, 78, 79, 80, 81, 82] (by decide +kernel) (by decide +kernel)
set_option maxRecDepth 20000 in
theorem gX6_sell_X6_become : GoodIn wsX6_sell (wsV RX6 159 RX6 yX6_become wsX6_become) := goodIn_app (goodIn_of _ (by decide +kernel)) ggX6_sell_X6_become
theorem dX6_sell_0 : decode cX6_sell 0 = .ok (.aload_n 0, 1) := by decide +kernel
theorem dX6_sell_1 : decode cX6_sell 1 = .ok (.iload_n 1, 1) := by decide +kernel
theorem dX6_sell_2 : decode cX6_sell 2 = .ok (.invokevirtual 185, 3) := by decide +kernel
theorem dX6_sell_5 : decode cX6_sell 5 = .ok (.istore 4, 2) := by decide +kernel
theorem dX6_sell_7 : decode cX6_sell 7 = .ok (.iload_n 2, 1) := by decide +kernel
theorem dX6_sell_8 : decode cX6_sell 8 = .ok (.invokestatic 163, 3) := by decide +kernel
theorem dX6_sell_11 : decode cX6_sell 11 = .ok (.ifCond .eq 17, 3) := by decide +kernel
theorem dX6_sell_14 : decode cX6_sell 14 = .ok (.iload_n 3, 1) := by decide +kernel
theorem dX6_sell_15 : decode cX6_sell 15 = .ok (.iconst 0, 1) := by decide +kernel
theorem dX6_sell_16 : decode cX6_sell 16 = .ok (.ldc 191, 2) := by decide +kernel
theorem dX6_sell_18 : decode cX6_sell 18 = .ok (.invokestatic 130, 3) := by decide +kernel
theorem dX6_sell_21 : decode cX6_sell 21 = .ok (.ifCond .eq 7, 3) := by decide +kernel
theorem dX6_sell_24 : decode cX6_sell 24 = .ok (.iconst 1, 1) := by decide +kernel
theorem dX6_sell_25 : decode cX6_sell 25 = .ok (.goto 4, 3) := by decide +kernel
theorem dX6_sell_28 : decode cX6_sell 28 = .ok (.iconst 0, 1) := by decide +kernel
theorem dX6_sell_29 : decode cX6_sell 29 = .ok (.istore 5, 2) := by decide +kernel
theorem dX6_sell_31 : decode cX6_sell 31 = .ok (.iload 4, 2) := by decide +kernel
theorem dX6_sell_33 : decode cX6_sell 33 = .ok (.ifCond .eq 36, 3) := by decide +kernel
theorem dX6_sell_36 : decode cX6_sell 36 = .ok (.aload_n 0, 1) := by decide +kernel
theorem dX6_sell_37 : decode cX6_sell 37 = .ok (.getfield 57, 3) := by decide +kernel
theorem dX6_sell_40 : decode cX6_sell 40 = .ok (.iload_n 1, 1) := by decide +kernel
theorem dX6_sell_41 : decode cX6_sell 41 = .ok (.iaload, 1) := by decide +kernel
theorem dX6_sell_42 : decode cX6_sell 42 = .ok (.ifCond .le 27, 3) := by decide +kernel
theorem dX6_sell_45 : decode cX6_sell 45 = .ok (.aload_n 0, 1) := by decide +kernel
theorem dX6_sell_46 : decode cX6_sell 46 = .ok (.getfield 69, 3) := by decide +kernel
theorem dX6_sell_49 : decode cX6_sell 49 = .ok (.iload_n 1, 1) := by decide +kernel
theorem dX6_sell_50 : decode cX6_sell 50 = .ok (.iaload, 1) := by decide +kernel
theorem dX6_sell_51 : decode cX6_sell 51 = .ok (.iconst (-1), 1) := by decide +kernel
theorem dX6_sell_52 : decode cX6_sell 52 = .ok (.if_icmp .ne 17, 3) := by decide +kernel
theorem dX6_sell_55 : decode cX6_sell 55 = .ok (.aload_n 0, 1) := by decide +kernel
theorem dX6_sell_56 : decode cX6_sell 56 = .ok (.getfield 60, 3) := by decide +kernel
theorem dX6_sell_59 : decode cX6_sell 59 = .ok (.iload_n 1, 1) := by decide +kernel
theorem dX6_sell_60 : decode cX6_sell 60 = .ok (.iaload, 1) := by decide +kernel
theorem dX6_sell_61 : decode cX6_sell 61 = .ok (.iload_n 2, 1) := by decide +kernel
theorem dX6_sell_62 : decode cX6_sell 62 = .ok (.if_icmp .eq 7, 3) := by decide +kernel
theorem dX6_sell_65 : decode cX6_sell 65 = .ok (.iconst 1, 1) := by decide +kernel
theorem dX6_sell_66 : decode cX6_sell 66 = .ok (.goto 4, 3) := by decide +kernel
theorem dX6_sell_69 : decode cX6_sell 69 = .ok (.iconst 0, 1) := by decide +kernel
theorem dX6_sell_70 : decode cX6_sell 70 = .ok (.istore 6, 2) := by decide +kernel
theorem dX6_sell_72 : decode cX6_sell 72 = .ok (.aload_n 0, 1) := by decide +kernel
theorem dX6_sell_73 : decode cX6_sell 73 = .ok (.iload 4, 2) := by decide +kernel
theorem dX6_sell_75 : decode cX6_sell 75 = .ok (.ifCond .ne 7, 3) := by decide +kernel
theorem dX6_sell_78 : decode cX6_sell 78 = .ok (.iconst 1, 1) := by decide +kernel
theorem dX6_sell_79 : decode cX6_sell 79 = .ok (.goto 22, 3) := by decide +kernel
theorem dX6_sell_82 : decode cX6_sell 82 = .ok (.iload 5, 2) := by decide +kernel
theorem dX6_sell_84 : decode cX6_sell 84 = .ok (.ifCond .ne 7, 3) := by decide +kernel
theorem dX6_sell_87 : decode cX6_sell 87 = .ok (.iconst 2, 1) := by decide +kernel
theorem dX6_sell_88 : decode cX6_sell 88 = .ok (.goto 13, 3) := by decide +kernel
theorem dX6_sell_91 : decode cX6_sell 91 = .ok (.iload 6, 2) := by decide +kernel
theorem dX6_sell_93 : decode cX6_sell 93 = .ok (.ifCond .eq 7, 3) := by decide +kernel
theorem dX6_sell_96 : decode cX6_sell 96 = .ok (.iconst 0, 1) := by decide +kernel
theorem dX6_sell_97 : decode cX6_sell 97 = .ok (.goto 4, 3) := by decide +kernel
theorem dX6_sell_100 : decode cX6_sell 100 = .ok (.iconst 3, 1) := by decide +kernel
theorem dX6_sell_101 : decode cX6_sell 101 = .ok (.invokevirtual 141, 3) := by decide +kernel
theorem dX6_sell_104 : decode cX6_sell 104 = .ok (.ifCond .ne 5, 3) := by decide +kernel
theorem dX6_sell_107 : decode cX6_sell 107 = .ok (.iconst 0, 1) := by decide +kernel
theorem dX6_sell_108 : decode cX6_sell 108 = .ok (.ireturn, 1) := by decide +kernel
theorem dX6_sell_109 : decode cX6_sell 109 = .ok (.aload_n 0, 1) := by decide +kernel
theorem dX6_sell_110 : decode cX6_sell 110 = .ok (.getfield 60, 3) := by decide +kernel
theorem dX6_sell_113 : decode cX6_sell 113 = .ok (.iload_n 1, 1) := by decide +kernel
theorem dX6_sell_114 : decode cX6_sell 114 = .ok (.iaload, 1) := by decide +kernel
theorem dX6_sell_115 : decode cX6_sell 115 = .ok (.istore 7, 2) := by decide +kernel
theorem dX6_sell_117 : decode cX6_sell 117 = .ok (.aload_n 0, 1) := by decide +kernel
theorem dX6_sell_118 : decode cX6_sell 118 = .ok (.iload_n 2, 1) := by decide +kernel
theorem dX6_sell_119 : decode cX6_sell 119 = .ok (.iload 7, 2) := by decide +kernel
theorem dX6_sell_121 : decode cX6_sell 121 = .ok (.iload_n 3, 1) := by decide +kernel
theorem dX6_sell_122 : decode cX6_sell 122 = .ok (.i2l, 1) := by decide +kernel
theorem dX6_sell_123 : decode cX6_sell 123 = .ok (.invokevirtual 192, 3) := by decide +kernel
theorem dX6_sell_126 : decode cX6_sell 126 = .ok (.aload_n 0, 1) := by decide +kernel
theorem dX6_sell_127 : decode cX6_sell 127 = .ok (.iload_n 1, 1) := by decide +kernel
theorem dX6_sell_128 : decode cX6_sell 128 = .ok (.iload_n 2, 1) := by decide +kernel
theorem dX6_sell_129 : decode cX6_sell 129 = .ok (.invokevirtual 159, 3) := by decide +kernel
theorem dX6_sell_132 : decode cX6_sell 132 = .ok (.iload 7, 2) := by decide +kernel
theorem dX6_sell_134 : decode cX6_sell 134 = .ok (.ireturn, 1) := by decide +kernel
set_option maxRecDepth 20000 in
theorem ggX6_pledge_X6_isReceipt : GoodIn wsX6_pledge wsX6_isReceipt := goodIn_r _ [12, 13, 14, 15, 11, 16, 30, 31, 32, 33, 34, 35, 36, 37, 38, 39, 40, 41, 42, 43, 44, 45, 46, 47, 48, 49, 50, 51, 52, 53, 54, 55, 56, 57, 58, 59, 60, 61, 62, 63, 64, 65, 66, 67, 68, 69, 70, 71, 72, 73, 74, 75] (by decide +kernel) (by decide +kernel)
set_option maxRecDepth 20000 in
theorem gX6_pledge_X6_isReceipt : GoodIn wsX6_pledge (wsV RX6 185 RX6 yX6_isReceipt wsX6_isReceipt) := goodIn_app (goodIn_of _ (by decide +kernel)) ggX6_pledge_X6_isReceipt
set_option maxRecDepth 20000 in
theorem ggX6_pledge_X6_isHolder : GoodIn wsX6_pledge wsX6_isHolder := goodIn_r _ [19, 14, 15, 11, 16] (by decide +kernel) (by decide +kernel)
set_option maxRecDepth 20000 in
theorem gX6_pledge_X6_isHolder : GoodIn wsX6_pledge (va_wsS RX6 163 yX6_isHolder wsX6_isHolder) := goodIn_app (goodIn_of _ (by decide +kernel)) ggX6_pledge_X6_isHolder
set_option maxRecDepth 20000 in
theorem ggX6_pledge_X6_in : GoodIn wsX6_pledge wsX6_in := goodIn_r _ [16] (by decide +kernel) (by decide +kernel)
set_option maxRecDepth 20000 in
theorem gX6_pledge_X6_in : GoodIn wsX6_pledge (va_wsS RX6 130 yX6_in wsX6_in) := goodIn_app (goodIn_of _ (by decide +kernel)) ggX6_pledge_X6_in
set_option maxRecDepth 20000 in
theorem ggX6_pledge_X6_goesWell : GoodIn wsX6_pledge wsX6_goesWell := goodIn_r _ [23, 24, 30, 31, 32, 33, 34, 35, 36, 37, 38, 39, 40, 41, 42, 43, 44, 45, 46, 47, 48, 49, 50, 51, 52, 53, 54, 55, 56, 57, 58, 59, 60, 61, 62, 63, 64, 65, 66, 67, 68, 69, 70, 71, 72, 73, 74, 75] (by decide +kernel) (by decide +kernel)
set_option maxRecDepth 20000 in
theorem gX6_pledge_X6_goesWell : GoodIn wsX6_pledge (wsV RX6 141 RX6 yX6_goesWell wsX6_goesWell) := goodIn_app (goodIn_of _ (by decide +kernel)) ggX6_pledge_X6_goesWell
set_option maxRecDepth 20000 in
theorem ggX6_pledge_X6_pay : GoodIn wsX6_pledge wsX6_pay := goodIn_r _ [28, 29, 30, 31, 32, 33, 34, 35, 36, 37, 38, 39, 40, 41, 42, 43, 44, 45, 46, 47, 48, 49, 50, 51, 52, 53, 54, 55, 56, 57, 58, 59, 60, 61, 62, 63, 64, 65, 66, 67, 68, 69, 70, 71, 72, 73, 74, 75] (by decide +kernel) (by decide +kernel)
set_option maxRecDepth 20000 in
theorem gX6_pledge_X6_pay : GoodIn wsX6_pledge (wsV RX6 192 RX6 yX6_pay wsX6_pay) := goodIn_app (goodIn_of _ (by decide +kernel)) ggX6_pledge_X6_pay
theorem dX6_pledge_0 : decode cX6_pledge 0 = .ok (.aload_n 0, 1) := by decide +kernel
theorem dX6_pledge_1 : decode cX6_pledge 1 = .ok (.iload_n 1, 1) := by decide +kernel
theorem dX6_pledge_2 : decode cX6_pledge 2 = .ok (.invokevirtual 185, 3) := by decide +kernel
theorem dX6_pledge_5 : decode cX6_pledge 5 = .ok (.istore 5, 2) := by decide +kernel
theorem dX6_pledge_7 : decode cX6_pledge 7 = .ok (.iload_n 2, 1) := by decide +kernel
theorem dX6_pledge_8 : decode cX6_pledge 8 = .ok (.invokestatic 163, 3) := by decide +kernel
theorem dX6_pledge_11 : decode cX6_pledge 11 = .ok (.ifCond .eq 28, 3) := by decide +kernel
theorem dX6_pledge_14 : decode cX6_pledge 14 = .ok (.iload_n 3, 1) := by decide +kernel
theorem dX6_pledge_15 : decode cX6_pledge 15 = .ok (.iconst 0, 1) := by decide +kernel
theorem dX6_pledge_16 : decode cX6_pledge 16 = .ok (.ldc 191, 2) := by decide +kernel
theorem dX6_pledge_18 : decode cX6_pledge 18 = .ok (.invokestatic 130, 3) := by decide +kernel
theorem dX6_pledge_21 : decode cX6_pledge 21 = .ok (.ifCond .eq 18, 3) := by decide +kernel
theorem dX6_pledge_24 : decode cX6_pledge 24 = .ok (.iload 4, 2) := by decide +kernel
theorem dX6_pledge_26 : decode cX6_pledge 26 = .ok (.iconst 0, 1) := by decide +kernel
theorem dX6_pledge_27 : decode cX6_pledge 27 = .ok (.bipush 100, 2) := by decide +kernel
theorem dX6_pledge_29 : decode cX6_pledge 29 = .ok (.invokestatic 130, 3) := by decide +kernel
theorem dX6_pledge_32 : decode cX6_pledge 32 = .ok (.ifCond .eq 7, 3) := by decide +kernel
theorem dX6_pledge_35 : decode cX6_pledge 35 = .ok (.iconst 1, 1) := by decide +kernel
theorem dX6_pledge_36 : decode cX6_pledge 36 = .ok (.goto 4, 3) := by decide +kernel
theorem dX6_pledge_39 : decode cX6_pledge 39 = .ok (.iconst 0, 1) := by decide +kernel
theorem dX6_pledge_40 : decode cX6_pledge 40 = .ok (.istore 6, 2) := by decide +kernel
theorem dX6_pledge_42 : decode cX6_pledge 42 = .ok (.iload 5, 2) := by decide +kernel
theorem dX6_pledge_44 : decode cX6_pledge 44 = .ok (.ifCond .eq 36, 3) := by decide +kernel
theorem dX6_pledge_47 : decode cX6_pledge 47 = .ok (.aload_n 0, 1) := by decide +kernel
theorem dX6_pledge_48 : decode cX6_pledge 48 = .ok (.getfield 57, 3) := by decide +kernel
theorem dX6_pledge_51 : decode cX6_pledge 51 = .ok (.iload_n 1, 1) := by decide +kernel
theorem dX6_pledge_52 : decode cX6_pledge 52 = .ok (.iaload, 1) := by decide +kernel
theorem dX6_pledge_53 : decode cX6_pledge 53 = .ok (.ifCond .le 27, 3) := by decide +kernel
theorem dX6_pledge_56 : decode cX6_pledge 56 = .ok (.aload_n 0, 1) := by decide +kernel
theorem dX6_pledge_57 : decode cX6_pledge 57 = .ok (.getfield 69, 3) := by decide +kernel
theorem dX6_pledge_60 : decode cX6_pledge 60 = .ok (.iload_n 1, 1) := by decide +kernel
theorem dX6_pledge_61 : decode cX6_pledge 61 = .ok (.iaload, 1) := by decide +kernel
theorem dX6_pledge_62 : decode cX6_pledge 62 = .ok (.iconst (-1), 1) := by decide +kernel
theorem dX6_pledge_63 : decode cX6_pledge 63 = .ok (.if_icmp .ne 17, 3) := by decide +kernel
theorem dX6_pledge_66 : decode cX6_pledge 66 = .ok (.aload_n 0, 1) := by decide +kernel
theorem dX6_pledge_67 : decode cX6_pledge 67 = .ok (.getfield 60, 3) := by decide +kernel
theorem dX6_pledge_70 : decode cX6_pledge 70 = .ok (.iload_n 1, 1) := by decide +kernel
theorem dX6_pledge_71 : decode cX6_pledge 71 = .ok (.iaload, 1) := by decide +kernel
theorem dX6_pledge_72 : decode cX6_pledge 72 = .ok (.iload_n 2, 1) := by decide +kernel
theorem dX6_pledge_73 : decode cX6_pledge 73 = .ok (.if_icmp .eq 7, 3) := by decide +kernel
theorem dX6_pledge_76 : decode cX6_pledge 76 = .ok (.iconst 1, 1) := by decide +kernel
theorem dX6_pledge_77 : decode cX6_pledge 77 = .ok (.goto 4, 3) := by decide +kernel
theorem dX6_pledge_80 : decode cX6_pledge 80 = .ok (.iconst 0, 1) := by decide +kernel
theorem dX6_pledge_81 : decode cX6_pledge 81 = .ok (.istore 7, 2) := by decide +kernel
theorem dX6_pledge_83 : decode cX6_pledge 83 = .ok (.aload_n 0, 1) := by decide +kernel
theorem dX6_pledge_84 : decode cX6_pledge 84 = .ok (.iload 5, 2) := by decide +kernel
theorem dX6_pledge_86 : decode cX6_pledge 86 = .ok (.ifCond .ne 7, 3) := by decide +kernel
theorem dX6_pledge_89 : decode cX6_pledge 89 = .ok (.iconst 1, 1) := by decide +kernel
theorem dX6_pledge_90 : decode cX6_pledge 90 = .ok (.goto 22, 3) := by decide +kernel
theorem dX6_pledge_93 : decode cX6_pledge 93 = .ok (.iload 6, 2) := by decide +kernel
theorem dX6_pledge_95 : decode cX6_pledge 95 = .ok (.ifCond .ne 7, 3) := by decide +kernel
theorem dX6_pledge_98 : decode cX6_pledge 98 = .ok (.iconst 2, 1) := by decide +kernel
theorem dX6_pledge_99 : decode cX6_pledge 99 = .ok (.goto 13, 3) := by decide +kernel
theorem dX6_pledge_102 : decode cX6_pledge 102 = .ok (.iload 7, 2) := by decide +kernel
theorem dX6_pledge_104 : decode cX6_pledge 104 = .ok (.ifCond .eq 7, 3) := by decide +kernel
theorem dX6_pledge_107 : decode cX6_pledge 107 = .ok (.iconst 0, 1) := by decide +kernel
theorem dX6_pledge_108 : decode cX6_pledge 108 = .ok (.goto 4, 3) := by decide +kernel
theorem dX6_pledge_111 : decode cX6_pledge 111 = .ok (.iconst 3, 1) := by decide +kernel
theorem dX6_pledge_112 : decode cX6_pledge 112 = .ok (.invokevirtual 141, 3) := by decide +kernel
theorem dX6_pledge_115 : decode cX6_pledge 115 = .ok (.ifCond .ne 5, 3) := by decide +kernel
theorem dX6_pledge_118 : decode cX6_pledge 118 = .ok (.iconst 0, 1) := by decide +kernel
theorem dX6_pledge_119 : decode cX6_pledge 119 = .ok (.ireturn, 1) := by decide +kernel
theorem dX6_pledge_120 : decode cX6_pledge 120 = .ok (.aload_n 0, 1) := by decide +kernel
theorem dX6_pledge_121 : decode cX6_pledge 121 = .ok (.iload_n 2, 1) := by decide +kernel
theorem dX6_pledge_122 : decode cX6_pledge 122 = .ok (.aload_n 0, 1) := by decide +kernel
theorem dX6_pledge_123 : decode cX6_pledge 123 = .ok (.getfield 60, 3) := by decide +kernel
theorem dX6_pledge_126 : decode cX6_pledge 126 = .ok (.iload_n 1, 1) := by decide +kernel
theorem dX6_pledge_127 : decode cX6_pledge 127 = .ok (.iaload, 1) := by decide +kernel
theorem dX6_pledge_128 : decode cX6_pledge 128 = .ok (.iload_n 3, 1) := by decide +kernel
theorem dX6_pledge_129 : decode cX6_pledge 129 = .ok (.i2l, 1) := by decide +kernel
theorem dX6_pledge_130 : decode cX6_pledge 130 = .ok (.invokevirtual 192, 3) := by decide +kernel
theorem dX6_pledge_133 : decode cX6_pledge 133 = .ok (.aload_n 0, 1) := by decide +kernel
theorem dX6_pledge_134 : decode cX6_pledge 134 = .ok (.getfield 69, 3) := by decide +kernel
theorem dX6_pledge_137 : decode cX6_pledge 137 = .ok (.iload_n 1, 1) := by decide +kernel
theorem dX6_pledge_138 : decode cX6_pledge 138 = .ok (.iload_n 2, 1) := by decide +kernel
theorem dX6_pledge_139 : decode cX6_pledge 139 = .ok (.iastore, 1) := by decide +kernel
theorem dX6_pledge_140 : decode cX6_pledge 140 = .ok (.aload_n 0, 1) := by decide +kernel
theorem dX6_pledge_141 : decode cX6_pledge 141 = .ok (.getfield 72, 3) := by decide +kernel
theorem dX6_pledge_144 : decode cX6_pledge 144 = .ok (.iload_n 1, 1) := by decide +kernel
theorem dX6_pledge_145 : decode cX6_pledge 145 = .ok (.iload_n 3, 1) := by decide +kernel
theorem dX6_pledge_146 : decode cX6_pledge 146 = .ok (.iastore, 1) := by decide +kernel
theorem dX6_pledge_147 : decode cX6_pledge 147 = .ok (.aload_n 0, 1) := by decide +kernel
theorem dX6_pledge_148 : decode cX6_pledge 148 = .ok (.getfield 75, 3) := by decide +kernel
theorem dX6_pledge_151 : decode cX6_pledge 151 = .ok (.iload_n 1, 1) := by decide +kernel
theorem dX6_pledge_152 : decode cX6_pledge 152 = .ok (.aload_n 0, 1) := by decide +kernel
theorem dX6_pledge_153 : decode cX6_pledge 153 = .ok (.getfield 156, 3) := by decide +kernel
theorem dX6_pledge_156 : decode cX6_pledge 156 = .ok (.iload 4, 2) := by decide +kernel
theorem dX6_pledge_158 : decode cX6_pledge 158 = .ok (.iadd, 1) := by decide +kernel
theorem dX6_pledge_159 : decode cX6_pledge 159 = .ok (.iastore, 1) := by decide +kernel
theorem dX6_pledge_160 : decode cX6_pledge 160 = .ok (.aload_n 0, 1) := by decide +kernel
theorem dX6_pledge_161 : decode cX6_pledge 161 = .ok (.getfield 75, 3) := by decide +kernel
theorem dX6_pledge_164 : decode cX6_pledge 164 = .ok (.iload_n 1, 1) := by decide +kernel
theorem dX6_pledge_165 : decode cX6_pledge 165 = .ok (.iaload, 1) := by decide +kernel
theorem dX6_pledge_166 : decode cX6_pledge 166 = .ok (.ireturn, 1) := by decide +kernel
set_option maxRecDepth 20000 in
theorem ggX6_redeem_X6_isReceipt : GoodIn wsX6_redeem wsX6_isReceipt := goodIn_r _ [8, 9, 10, 11, 7, 12, 23, 24, 25, 26, 27, 28, 29, 30, 31, 32, 33, 34, 35, 36, 37, 38, 39, 40, 41, 42, 43, 44, 45, 46, 47, 48, 49, 50, 51, 52, 53, 54, 55, 56, 57, 58, 59, 60, 61, 62, 63, 64, 65, 66, 67, 68] (by decide +kernel) (by decide +kernel)
set_option maxRecDepth 20000 in
theorem gX6_redeem_X6_isReceipt : GoodIn wsX6_redeem (wsV RX6 185 RX6 yX6_isReceipt wsX6_isReceipt) := goodIn_app (goodIn_of _ (by decide +kernel)) ggX6_redeem_X6_isReceipt
set_option maxRecDepth 20000 in
theorem ggX6_redeem_X6_goesWell : GoodIn wsX6_redeem wsX6_goesWell := goodIn_r _ [16, 17, 23, 24, 25, 26, 27, 28, 29, 30, 31, 32, 33, 34, 35, 36, 37, 38, 39, 40, 41, 42, 43, 44, 45, 46, 47, 48, 49, 50, 51, 52, 53, 54, 55, 56, 57, 58, 59, 60, 61, 62, 63, 64, 65, 66, 67, 68] (by decide +kernel) (by decide +kernel)
set_option maxRecDepth 20000 in
theorem gX6_redeem_X6_goesWell : GoodIn wsX6_redeem (wsV RX6 141 RX6 yX6_goesWell wsX6_goesWell) := goodIn_app (goodIn_of _ (by decide +kernel)) ggX6_redeem_X6_goesWell
set_option maxRecDepth 20000 in
theorem ggX6_redeem_X6_pay : GoodIn wsX6_redeem wsX6_pay := goodIn_r _ [21, 22, 23, 24, 25, 26, 27, 28, 29, 30, 31, 32, 33, 34, 35, 36, 37, 38, 39, 40, 41, 42, 43, 44, 45, 46, 47, 48, 49, 50, 51, 52, 53, 54, 55, 56, 57, 58, 59, 60, 61, 62, 63, 64, 65, 66, 67, 68] (by decide +kernel) (by decide +kernel)
set_option maxRecDepth 20000 in
theorem gX6_redeem_X6_pay : GoodIn wsX6_redeem (wsV RX6 192 RX6 yX6_pay wsX6_pay) := goodIn_app (goodIn_of _ (by decide +kernel)) ggX6_redeem_X6_pay
theorem dX6_redeem_0 : decode cX6_redeem 0 = .ok (.aload_n 0, 1) := by decide +kernel
theorem dX6_redeem_1 : decode cX6_redeem 1 = .ok (.iload_n 1, 1) := by decide +kernel
theorem dX6_redeem_2 : decode cX6_redeem 2 = .ok (.invokevirtual 185, 3) := by decide +kernel
theorem dX6_redeem_5 : decode cX6_redeem 5 = .ok (.istore_n 2, 1) := by decide +kernel
theorem dX6_redeem_6 : decode cX6_redeem 6 = .ok (.aload_n 0, 1) := by decide +kernel
theorem dX6_redeem_7 : decode cX6_redeem 7 = .ok (.iload_n 2, 1) := by decide +kernel
theorem dX6_redeem_8 : decode cX6_redeem 8 = .ok (.ifCond .ne 7, 3) := by decide +kernel
theorem dX6_redeem_11 : decode cX6_redeem 11 = .ok (.iconst 1, 1) := by decide +kernel
theorem dX6_redeem_12 : decode cX6_redeem 12 = .ok (.goto 18, 3) := by decide +kernel
theorem dX6_redeem_15 : decode cX6_redeem 15 = .ok (.aload_n 0, 1) := by decide +kernel
theorem dX6_redeem_16 : decode cX6_redeem 16 = .ok (.getfield 69, 3) := by decide +kernel
theorem dX6_redeem_19 : decode cX6_redeem 19 = .ok (.iload_n 1, 1) := by decide +kernel
theorem dX6_redeem_20 : decode cX6_redeem 20 = .ok (.iaload, 1) := by decide +kernel
theorem dX6_redeem_21 : decode cX6_redeem 21 = .ok (.iconst (-1), 1) := by decide +kernel
theorem dX6_redeem_22 : decode cX6_redeem 22 = .ok (.if_icmp .ne 7, 3) := by decide +kernel
theorem dX6_redeem_25 : decode cX6_redeem 25 = .ok (.iconst 2, 1) := by decide +kernel
theorem dX6_redeem_26 : decode cX6_redeem 26 = .ok (.goto 4, 3) := by decide +kernel
theorem dX6_redeem_29 : decode cX6_redeem 29 = .ok (.iconst 0, 1) := by decide +kernel
theorem dX6_redeem_30 : decode cX6_redeem 30 = .ok (.invokevirtual 141, 3) := by decide +kernel
theorem dX6_redeem_33 : decode cX6_redeem 33 = .ok (.ifCond .ne 5, 3) := by decide +kernel
theorem dX6_redeem_36 : decode cX6_redeem 36 = .ok (.iconst 0, 1) := by decide +kernel
theorem dX6_redeem_37 : decode cX6_redeem 37 = .ok (.ireturn, 1) := by decide +kernel
theorem dX6_redeem_38 : decode cX6_redeem 38 = .ok (.aload_n 0, 1) := by decide +kernel
theorem dX6_redeem_39 : decode cX6_redeem 39 = .ok (.aload_n 0, 1) := by decide +kernel
theorem dX6_redeem_40 : decode cX6_redeem 40 = .ok (.getfield 60, 3) := by decide +kernel
theorem dX6_redeem_43 : decode cX6_redeem 43 = .ok (.iload_n 1, 1) := by decide +kernel
theorem dX6_redeem_44 : decode cX6_redeem 44 = .ok (.iaload, 1) := by decide +kernel
theorem dX6_redeem_45 : decode cX6_redeem 45 = .ok (.aload_n 0, 1) := by decide +kernel
theorem dX6_redeem_46 : decode cX6_redeem 46 = .ok (.getfield 69, 3) := by decide +kernel
theorem dX6_redeem_49 : decode cX6_redeem 49 = .ok (.iload_n 1, 1) := by decide +kernel
theorem dX6_redeem_50 : decode cX6_redeem 50 = .ok (.iaload, 1) := by decide +kernel
theorem dX6_redeem_51 : decode cX6_redeem 51 = .ok (.aload_n 0, 1) := by decide +kernel
theorem dX6_redeem_52 : decode cX6_redeem 52 = .ok (.getfield 72, 3) := by decide +kernel
theorem dX6_redeem_55 : decode cX6_redeem 55 = .ok (.iload_n 1, 1) := by decide +kernel
theorem dX6_redeem_56 : decode cX6_redeem 56 = .ok (.iaload, 1) := by decide +kernel
theorem dX6_redeem_57 : decode cX6_redeem 57 = .ok (.i2l, 1) := by decide +kernel
theorem dX6_redeem_58 : decode cX6_redeem 58 = .ok (.invokevirtual 192, 3) := by decide +kernel
theorem dX6_redeem_61 : decode cX6_redeem 61 = .ok (.aload_n 0, 1) := by decide +kernel
theorem dX6_redeem_62 : decode cX6_redeem 62 = .ok (.getfield 69, 3) := by decide +kernel
theorem dX6_redeem_65 : decode cX6_redeem 65 = .ok (.iload_n 1, 1) := by decide +kernel
theorem dX6_redeem_66 : decode cX6_redeem 66 = .ok (.iconst (-1), 1) := by decide +kernel
theorem dX6_redeem_67 : decode cX6_redeem 67 = .ok (.iastore, 1) := by decide +kernel
theorem dX6_redeem_68 : decode cX6_redeem 68 = .ok (.aload_n 0, 1) := by decide +kernel
theorem dX6_redeem_69 : decode cX6_redeem 69 = .ok (.getfield 72, 3) := by decide +kernel
theorem dX6_redeem_72 : decode cX6_redeem 72 = .ok (.iload_n 1, 1) := by decide +kernel
theorem dX6_redeem_73 : decode cX6_redeem 73 = .ok (.iaload, 1) := by decide +kernel
theorem dX6_redeem_74 : decode cX6_redeem 74 = .ok (.ireturn, 1) := by decide +kernel
theorem dX6_lose_0 : decode cX6_lose 0 = .ok (.aload_n 0, 1) := by decide +kernel
theorem dX6_lose_1 : decode cX6_lose 1 = .ok (.getfield 57, 3) := by decide +kernel
theorem dX6_lose_4 : decode cX6_lose 4 = .ok (.iload_n 1, 1) := by decide +kernel
theorem dX6_lose_5 : decode cX6_lose 5 = .ok (.dup2, 1) := by decide +kernel
theorem dX6_lose_6 : decode cX6_lose 6 = .ok (.iaload, 1) := by decide +kernel
theorem dX6_lose_7 : decode cX6_lose 7 = .ok (.iload_n 2, 1) := by decide +kernel
theorem dX6_lose_8 : decode cX6_lose 8 = .ok (.isub, 1) := by decide +kernel
theorem dX6_lose_9 : decode cX6_lose 9 = .ok (.iastore, 1) := by decide +kernel
theorem dX6_lose_10 : decode cX6_lose 10 = .ok (.aload_n 0, 1) := by decide +kernel
theorem dX6_lose_11 : decode cX6_lose 11 = .ok (.getfield 27, 3) := by decide +kernel
theorem dX6_lose_14 : decode cX6_lose 14 = .ok (.aload_n 0, 1) := by decide +kernel
theorem dX6_lose_15 : decode cX6_lose 15 = .ok (.getfield 63, 3) := by decide +kernel
theorem dX6_lose_18 : decode cX6_lose 18 = .ok (.iload_n 1, 1) := by decide +kernel
theorem dX6_lose_19 : decode cX6_lose 19 = .ok (.iaload, 1) := by decide +kernel
theorem dX6_lose_20 : decode cX6_lose 20 = .ok (.dup2, 1) := by decide +kernel
theorem dX6_lose_21 : decode cX6_lose 21 = .ok (.iaload, 1) := by decide +kernel
theorem dX6_lose_22 : decode cX6_lose 22 = .ok (.iload_n 3, 1) := by decide +kernel
theorem dX6_lose_23 : decode cX6_lose 23 = .ok (.ifCond .eq 7, 3) := by decide +kernel
theorem dX6_lose_26 : decode cX6_lose 26 = .ok (.iload_n 2, 1) := by decide +kernel
theorem dX6_lose_27 : decode cX6_lose 27 = .ok (.goto 4, 3) := by decide +kernel
theorem dX6_lose_30 : decode cX6_lose 30 = .ok (.iconst 0, 1) := by decide +kernel
theorem dX6_lose_31 : decode cX6_lose 31 = .ok (.isub, 1) := by decide +kernel
theorem dX6_lose_32 : decode cX6_lose 32 = .ok (.iastore, 1) := by decide +kernel
theorem dX6_lose_33 : decode cX6_lose 33 = .ok (.aload_n 0, 1) := by decide +kernel
theorem dX6_lose_34 : decode cX6_lose 34 = .ok (.getfield 69, 3) := by decide +kernel
theorem dX6_lose_37 : decode cX6_lose 37 = .ok (.iload_n 1, 1) := by decide +kernel
theorem dX6_lose_38 : decode cX6_lose 38 = .ok (.aload_n 0, 1) := by decide +kernel
theorem dX6_lose_39 : decode cX6_lose 39 = .ok (.getfield 57, 3) := by decide +kernel
theorem dX6_lose_42 : decode cX6_lose 42 = .ok (.iload_n 1, 1) := by decide +kernel
theorem dX6_lose_43 : decode cX6_lose 43 = .ok (.iaload, 1) := by decide +kernel
theorem dX6_lose_44 : decode cX6_lose 44 = .ok (.ifCond .ne 7, 3) := by decide +kernel
theorem dX6_lose_47 : decode cX6_lose 47 = .ok (.iconst (-1), 1) := by decide +kernel
theorem dX6_lose_48 : decode cX6_lose 48 = .ok (.goto 9, 3) := by decide +kernel
theorem dX6_lose_51 : decode cX6_lose 51 = .ok (.aload_n 0, 1) := by decide +kernel
theorem dX6_lose_52 : decode cX6_lose 52 = .ok (.getfield 69, 3) := by decide +kernel
theorem dX6_lose_55 : decode cX6_lose 55 = .ok (.iload_n 1, 1) := by decide +kernel
theorem dX6_lose_56 : decode cX6_lose 56 = .ok (.iaload, 1) := by decide +kernel
theorem dX6_lose_57 : decode cX6_lose 57 = .ok (.iastore, 1) := by decide +kernel
theorem dX6_lose_58 : decode cX6_lose 58 = .ok (.return_, 1) := by decide +kernel
set_option maxRecDepth 20000 in
theorem ggX6_takeOut_X6_isReceipt : GoodIn wsX6_takeOut wsX6_isReceipt := goodIn_r _ [7, 8, 9, 10, 6, 11, 23, 24, 25, 26, 27, 28, 29, 30, 31, 32, 33, 34, 35, 36, 37, 38, 39, 40, 41, 42, 43, 44, 45, 46, 47, 48, 49, 50, 51, 52, 53, 54, 55, 56, 57, 58, 59, 60, 61, 62, 63, 64, 65, 66, 67, 68] (by decide +kernel) (by decide +kernel)
set_option maxRecDepth 20000 in
theorem gX6_takeOut_X6_isReceipt : GoodIn wsX6_takeOut (wsV RX6 185 RX6 yX6_isReceipt wsX6_isReceipt) := goodIn_app (goodIn_of _ (by decide +kernel)) ggX6_takeOut_X6_isReceipt
set_option maxRecDepth 20000 in
theorem ggX6_takeOut_X6_goesWell : GoodIn wsX6_takeOut wsX6_goesWell := goodIn_r _ [15, 16, 23, 24, 25, 26, 27, 28, 29, 30, 31, 32, 33, 34, 35, 36, 37, 38, 39, 40, 41, 42, 43, 44, 45, 46, 47, 48, 49, 50, 51, 52, 53, 54, 55, 56, 57, 58, 59, 60, 61, 62, 63, 64, 65, 66, 67, 68] (by decide +kernel) (by decide +kernel)
set_option maxRecDepth 20000 in
theorem gX6_takeOut_X6_goesWell : GoodIn wsX6_takeOut (wsV RX6 141 RX6 yX6_goesWell wsX6_goesWell) := goodIn_app (goodIn_of _ (by decide +kernel)) ggX6_takeOut_X6_goesWell
set_option maxRecDepth 20000 in
theorem ggX6_takeOut_X6_lose : GoodIn wsX6_takeOut wsX6_lose := goodIn_r _ [20, 1, 21, 22, 2, 23, 24, 25, 26, 27, 28, 29, 30, 31, 32, 33, 34, 35, 36, 37, 38, 39, 40, 41, 42, 43, 44, 45, 46, 47, 48, 49, 50, 51, 52, 53, 54, 55, 56, 57, 58, 59, 60, 61, 62, 63, 64, 65, 66, 67, 68] (by decide +kernel) (by decide +kernel)
set_option maxRecDepth 20000 in
theorem gX6_takeOut_X6_lose : GoodIn wsX6_takeOut (wsV RX6 196 RX6 yX6_lose wsX6_lose) := goodIn_app (goodIn_of _ (by decide +kernel)) ggX6_takeOut_X6_lose
theorem dX6_takeOut_0 : decode cX6_takeOut 0 = .ok (.aload_n 0, 1) := by decide +kernel
theorem dX6_takeOut_1 : decode cX6_takeOut 1 = .ok (.iload_n 1, 1) := by decide +kernel
theorem dX6_takeOut_2 : decode cX6_takeOut 2 = .ok (.invokevirtual 185, 3) := by decide +kernel
theorem dX6_takeOut_5 : decode cX6_takeOut 5 = .ok (.istore_n 2, 1) := by decide +kernel
theorem dX6_takeOut_6 : decode cX6_takeOut 6 = .ok (.aload_n 0, 1) := by decide +kernel
theorem dX6_takeOut_7 : decode cX6_takeOut 7 = .ok (.iload_n 2, 1) := by decide +kernel
theorem dX6_takeOut_8 : decode cX6_takeOut 8 = .ok (.ifCond .ne 7, 3) := by decide +kernel
theorem dX6_takeOut_11 : decode cX6_takeOut 11 = .ok (.iconst 1, 1) := by decide +kernel
theorem dX6_takeOut_12 : decode cX6_takeOut 12 = .ok (.goto 27, 3) := by decide +kernel
theorem dX6_takeOut_15 : decode cX6_takeOut 15 = .ok (.aload_n 0, 1) := by decide +kernel
theorem dX6_takeOut_16 : decode cX6_takeOut 16 = .ok (.getfield 57, 3) := by decide +kernel
theorem dX6_takeOut_19 : decode cX6_takeOut 19 = .ok (.iload_n 1, 1) := by decide +kernel
theorem dX6_takeOut_20 : decode cX6_takeOut 20 = .ok (.iaload, 1) := by decide +kernel
theorem dX6_takeOut_21 : decode cX6_takeOut 21 = .ok (.ifCond .eq 13, 3) := by decide +kernel
theorem dX6_takeOut_24 : decode cX6_takeOut 24 = .ok (.aload_n 0, 1) := by decide +kernel
theorem dX6_takeOut_25 : decode cX6_takeOut 25 = .ok (.getfield 69, 3) := by decide +kernel
theorem dX6_takeOut_28 : decode cX6_takeOut 28 = .ok (.iload_n 1, 1) := by decide +kernel
theorem dX6_takeOut_29 : decode cX6_takeOut 29 = .ok (.iaload, 1) := by decide +kernel
theorem dX6_takeOut_30 : decode cX6_takeOut 30 = .ok (.iconst (-1), 1) := by decide +kernel
theorem dX6_takeOut_31 : decode cX6_takeOut 31 = .ok (.if_icmp .eq 7, 3) := by decide +kernel
theorem dX6_takeOut_34 : decode cX6_takeOut 34 = .ok (.iconst 2, 1) := by decide +kernel
theorem dX6_takeOut_35 : decode cX6_takeOut 35 = .ok (.goto 4, 3) := by decide +kernel
theorem dX6_takeOut_38 : decode cX6_takeOut 38 = .ok (.iconst 0, 1) := by decide +kernel
theorem dX6_takeOut_39 : decode cX6_takeOut 39 = .ok (.invokevirtual 141, 3) := by decide +kernel
theorem dX6_takeOut_42 : decode cX6_takeOut 42 = .ok (.ifCond .ne 5, 3) := by decide +kernel
theorem dX6_takeOut_45 : decode cX6_takeOut 45 = .ok (.iconst 0, 1) := by decide +kernel
theorem dX6_takeOut_46 : decode cX6_takeOut 46 = .ok (.ireturn, 1) := by decide +kernel
theorem dX6_takeOut_47 : decode cX6_takeOut 47 = .ok (.aload_n 0, 1) := by decide +kernel
theorem dX6_takeOut_48 : decode cX6_takeOut 48 = .ok (.getfield 57, 3) := by decide +kernel
theorem dX6_takeOut_51 : decode cX6_takeOut 51 = .ok (.iload_n 1, 1) := by decide +kernel
theorem dX6_takeOut_52 : decode cX6_takeOut 52 = .ok (.iaload, 1) := by decide +kernel
theorem dX6_takeOut_53 : decode cX6_takeOut 53 = .ok (.istore_n 3, 1) := by decide +kernel
theorem dX6_takeOut_54 : decode cX6_takeOut 54 = .ok (.aload_n 0, 1) := by decide +kernel
theorem dX6_takeOut_55 : decode cX6_takeOut 55 = .ok (.iload_n 1, 1) := by decide +kernel
theorem dX6_takeOut_56 : decode cX6_takeOut 56 = .ok (.iload_n 3, 1) := by decide +kernel
theorem dX6_takeOut_57 : decode cX6_takeOut 57 = .ok (.iconst 1, 1) := by decide +kernel
theorem dX6_takeOut_58 : decode cX6_takeOut 58 = .ok (.invokevirtual 196, 3) := by decide +kernel
theorem dX6_takeOut_61 : decode cX6_takeOut 61 = .ok (.iload_n 3, 1) := by decide +kernel
theorem dX6_takeOut_62 : decode cX6_takeOut 62 = .ok (.ireturn, 1) := by decide +kernel
set_option maxRecDepth 20000 in
theorem ggX6_takeFor_X6_pay : GoodIn wsX6_takeFor wsX6_pay := goodIn_r _ [14, 15, 23, 24, 25, 26, 27, 28, 29, 30, 31, 32, 33, 34, 35, 36, 37, 38, 39, 40, 41, 42, 43, 44, 45, 46, 47, 48, 49, 50, 51, 52, 53, 54, 55, 56, 57, 58, 59, 60, 61, 62, 63, 64, 65, 66, 67, 68] (by decide +kernel) (by decide +kernel)
set_option maxRecDepth 20000 in
theorem gX6_takeFor_X6_pay : GoodIn wsX6_takeFor (wsV RX6 192 RX6 yX6_pay wsX6_pay) := goodIn_app (goodIn_of _ (by decide +kernel)) ggX6_takeFor_X6_pay
set_option maxRecDepth 20000 in
theorem ggX6_takeFor_X6_lose : GoodIn wsX6_takeFor wsX6_lose := goodIn_r _ [19, 1, 20, 21, 22, 23, 24, 25, 26, 27, 28, 29, 30, 31, 32, 33, 34, 35, 36, 37, 38, 39, 40, 41, 42, 43, 44, 45, 46, 47, 48, 49, 50, 51, 52, 53, 54, 55, 56, 57, 58, 59, 60, 61, 62, 63, 64, 65, 66, 67, 68] (by decide +kernel) (by decide +kernel)
set_option maxRecDepth 20000 in
theorem gX6_takeFor_X6_lose : GoodIn wsX6_takeFor (wsV RX6 196 RX6 yX6_lose wsX6_lose) := goodIn_app (goodIn_of _ (by decide +kernel)) ggX6_takeFor_X6_lose
theorem dX6_takeFor_0 : decode cX6_takeFor 0 = .ok (.aload_n 0, 1) := by decide +kernel
theorem dX6_takeFor_1 : decode cX6_takeFor 1 = .ok (.getfield 57, 3) := by decide +kernel
theorem dX6_takeFor_4 : decode cX6_takeFor 4 = .ok (.iload_n 2, 1) := by decide +kernel
theorem dX6_takeFor_5 : decode cX6_takeFor 5 = .ok (.iaload, 1) := by decide +kernel
theorem dX6_takeFor_6 : decode cX6_takeFor 6 = .ok (.iload_n 3, 1) := by decide +kernel
theorem dX6_takeFor_7 : decode cX6_takeFor 7 = .ok (.if_icmp .ge 12, 3) := by decide +kernel
theorem dX6_takeFor_10 : decode cX6_takeFor 10 = .ok (.aload_n 0, 1) := by decide +kernel
theorem dX6_takeFor_11 : decode cX6_takeFor 11 = .ok (.getfield 57, 3) := by decide +kernel
theorem dX6_takeFor_14 : decode cX6_takeFor 14 = .ok (.iload_n 2, 1) := by decide +kernel
theorem dX6_takeFor_15 : decode cX6_takeFor 15 = .ok (.iaload, 1) := by decide +kernel
theorem dX6_takeFor_16 : decode cX6_takeFor 16 = .ok (.goto 4, 3) := by decide +kernel
theorem dX6_takeFor_19 : decode cX6_takeFor 19 = .ok (.iload_n 3, 1) := by decide +kernel
theorem dX6_takeFor_20 : decode cX6_takeFor 20 = .ok (.istore 4, 2) := by decide +kernel
theorem dX6_takeFor_22 : decode cX6_takeFor 22 = .ok (.aload_n 0, 1) := by decide +kernel
theorem dX6_takeFor_23 : decode cX6_takeFor 23 = .ok (.getfield 39, 3) := by decide +kernel
theorem dX6_takeFor_26 : decode cX6_takeFor 26 = .ok (.iload_n 1, 1) := by decide +kernel
theorem dX6_takeFor_27 : decode cX6_takeFor 27 = .ok (.iaload, 1) := by decide +kernel
theorem dX6_takeFor_28 : decode cX6_takeFor 28 = .ok (.istore 5, 2) := by decide +kernel
theorem dX6_takeFor_30 : decode cX6_takeFor 30 = .ok (.iload 4, 2) := by decide +kernel
theorem dX6_takeFor_32 : decode cX6_takeFor 32 = .ok (.ifCond .le 105, 3) := by decide +kernel
theorem dX6_takeFor_35 : decode cX6_takeFor 35 = .ok (.aload_n 0, 1) := by decide +kernel
theorem dX6_takeFor_36 : decode cX6_takeFor 36 = .ok (.getfield 60, 3) := by decide +kernel
theorem dX6_takeFor_39 : decode cX6_takeFor 39 = .ok (.iload_n 2, 1) := by decide +kernel
theorem dX6_takeFor_40 : decode cX6_takeFor 40 = .ok (.iaload, 1) := by decide +kernel
theorem dX6_takeFor_41 : decode cX6_takeFor 41 = .ok (.iload 5, 2) := by decide +kernel
theorem dX6_takeFor_43 : decode cX6_takeFor 43 = .ok (.if_icmp .eq 94, 3) := by decide +kernel
theorem dX6_takeFor_46 : decode cX6_takeFor 46 = .ok (.aload_n 0, 1) := by decide +kernel
theorem dX6_takeFor_47 : decode cX6_takeFor 47 = .ok (.getfield 78, 3) := by decide +kernel
theorem dX6_takeFor_50 : decode cX6_takeFor 50 = .ok (.iload_n 2, 1) := by decide +kernel
theorem dX6_takeFor_51 : decode cX6_takeFor 51 = .ok (.iaload, 1) := by decide +kernel
theorem dX6_takeFor_52 : decode cX6_takeFor 52 = .ok (.istore 6, 2) := by decide +kernel
theorem dX6_takeFor_54 : decode cX6_takeFor 54 = .ok (.iload 6, 2) := by decide +kernel
theorem dX6_takeFor_56 : decode cX6_takeFor 56 = .ok (.iconst (-1), 1) := by decide +kernel
theorem dX6_takeFor_57 : decode cX6_takeFor 57 = .ok (.if_icmp .ne 27, 3) := by decide +kernel
theorem dX6_takeFor_60 : decode cX6_takeFor 60 = .ok (.aload_n 0, 1) := by decide +kernel
theorem dX6_takeFor_61 : decode cX6_takeFor 61 = .ok (.iload 5, 2) := by decide +kernel
theorem dX6_takeFor_63 : decode cX6_takeFor 63 = .ok (.aload_n 0, 1) := by decide +kernel
theorem dX6_takeFor_64 : decode cX6_takeFor 64 = .ok (.getfield 60, 3) := by decide +kernel
theorem dX6_takeFor_67 : decode cX6_takeFor 67 = .ok (.iload_n 2, 1) := by decide +kernel
theorem dX6_takeFor_68 : decode cX6_takeFor 68 = .ok (.iaload, 1) := by decide +kernel
theorem dX6_takeFor_69 : decode cX6_takeFor 69 = .ok (.iload 4, 2) := by decide +kernel
theorem dX6_takeFor_71 : decode cX6_takeFor 71 = .ok (.i2l, 1) := by decide +kernel
theorem dX6_takeFor_72 : decode cX6_takeFor 72 = .ok (.aload_n 0, 1) := by decide +kernel
theorem dX6_takeFor_73 : decode cX6_takeFor 73 = .ok (.getfield 7, 3) := by decide +kernel
theorem dX6_takeFor_76 : decode cX6_takeFor 76 = .ok (.i2l, 1) := by decide +kernel
theorem dX6_takeFor_77 : decode cX6_takeFor 77 = .ok (.lmul, 1) := by decide +kernel
theorem dX6_takeFor_78 : decode cX6_takeFor 78 = .ok (.invokevirtual 192, 3) := by decide +kernel
theorem dX6_takeFor_81 : decode cX6_takeFor 81 = .ok (.goto 56, 3) := by decide +kernel
theorem dX6_takeFor_84 : decode cX6_takeFor 84 = .ok (.aload_n 0, 1) := by decide +kernel
theorem dX6_takeFor_85 : decode cX6_takeFor 85 = .ok (.aload_n 0, 1) := by decide +kernel
theorem dX6_takeFor_86 : decode cX6_takeFor 86 = .ok (.getfield 90, 3) := by decide +kernel
theorem dX6_takeFor_89 : decode cX6_takeFor 89 = .ok (.iload 6, 2) := by decide +kernel
theorem dX6_takeFor_91 : decode cX6_takeFor 91 = .ok (.iaload, 1) := by decide +kernel
theorem dX6_takeFor_92 : decode cX6_takeFor 92 = .ok (.aload_n 0, 1) := by decide +kernel
theorem dX6_takeFor_93 : decode cX6_takeFor 93 = .ok (.getfield 60, 3) := by decide +kernel
theorem dX6_takeFor_96 : decode cX6_takeFor 96 = .ok (.iload_n 2, 1) := by decide +kernel
theorem dX6_takeFor_97 : decode cX6_takeFor 97 = .ok (.iaload, 1) := by decide +kernel
theorem dX6_takeFor_98 : decode cX6_takeFor 98 = .ok (.iload 4, 2) := by decide +kernel
theorem dX6_takeFor_100 : decode cX6_takeFor 100 = .ok (.i2l, 1) := by decide +kernel
theorem dX6_takeFor_101 : decode cX6_takeFor 101 = .ok (.aload_n 0, 1) := by decide +kernel
theorem dX6_takeFor_102 : decode cX6_takeFor 102 = .ok (.getfield 108, 3) := by decide +kernel
theorem dX6_takeFor_105 : decode cX6_takeFor 105 = .ok (.iload 6, 2) := by decide +kernel
theorem dX6_takeFor_107 : decode cX6_takeFor 107 = .ok (.iaload, 1) := by decide +kernel
theorem dX6_takeFor_108 : decode cX6_takeFor 108 = .ok (.i2l, 1) := by decide +kernel
theorem dX6_takeFor_109 : decode cX6_takeFor 109 = .ok (.lmul, 1) := by decide +kernel
theorem dX6_takeFor_110 : decode cX6_takeFor 110 = .ok (.invokevirtual 192, 3) := by decide +kernel
theorem dX6_takeFor_113 : decode cX6_takeFor 113 = .ok (.aload_n 0, 1) := by decide +kernel
theorem dX6_takeFor_114 : decode cX6_takeFor 114 = .ok (.getfield 115, 3) := by decide +kernel
theorem dX6_takeFor_117 : decode cX6_takeFor 117 = .ok (.iload 6, 2) := by decide +kernel
theorem dX6_takeFor_119 : decode cX6_takeFor 119 = .ok (.dup2, 1) := by decide +kernel
theorem dX6_takeFor_120 : decode cX6_takeFor 120 = .ok (.iaload, 1) := by decide +kernel
theorem dX6_takeFor_121 : decode cX6_takeFor 121 = .ok (.iload 4, 2) := by decide +kernel
theorem dX6_takeFor_123 : decode cX6_takeFor 123 = .ok (.isub, 1) := by decide +kernel
theorem dX6_takeFor_124 : decode cX6_takeFor 124 = .ok (.iastore, 1) := by decide +kernel
theorem dX6_takeFor_125 : decode cX6_takeFor 125 = .ok (.aload_n 0, 1) := by decide +kernel
theorem dX6_takeFor_126 : decode cX6_takeFor 126 = .ok (.getfield 118, 3) := by decide +kernel
theorem dX6_takeFor_129 : decode cX6_takeFor 129 = .ok (.iload 6, 2) := by decide +kernel
theorem dX6_takeFor_131 : decode cX6_takeFor 131 = .ok (.dup2, 1) := by decide +kernel
theorem dX6_takeFor_132 : decode cX6_takeFor 132 = .ok (.iaload, 1) := by decide +kernel
theorem dX6_takeFor_133 : decode cX6_takeFor 133 = .ok (.iload 4, 2) := by decide +kernel
theorem dX6_takeFor_135 : decode cX6_takeFor 135 = .ok (.iadd, 1) := by decide +kernel
theorem dX6_takeFor_136 : decode cX6_takeFor 136 = .ok (.iastore, 1) := by decide +kernel
theorem dX6_takeFor_137 : decode cX6_takeFor 137 = .ok (.aload_n 0, 1) := by decide +kernel
theorem dX6_takeFor_138 : decode cX6_takeFor 138 = .ok (.iload_n 2, 1) := by decide +kernel
theorem dX6_takeFor_139 : decode cX6_takeFor 139 = .ok (.iload 4, 2) := by decide +kernel
theorem dX6_takeFor_141 : decode cX6_takeFor 141 = .ok (.iconst 1, 1) := by decide +kernel
theorem dX6_takeFor_142 : decode cX6_takeFor 142 = .ok (.invokevirtual 196, 3) := by decide +kernel
theorem dX6_takeFor_145 : decode cX6_takeFor 145 = .ok (.iload_n 3, 1) := by decide +kernel
theorem dX6_takeFor_146 : decode cX6_takeFor 146 = .ok (.iload 4, 2) := by decide +kernel
theorem dX6_takeFor_148 : decode cX6_takeFor 148 = .ok (.isub, 1) := by decide +kernel
theorem dX6_takeFor_149 : decode cX6_takeFor 149 = .ok (.ireturn, 1) := by decide +kernel
set_option maxRecDepth 20000 in
theorem ggX6_reweigh_X6_in : GoodIn wsX6_reweigh wsX6_in := goodIn_r _ [17] (by decide +kernel) (by decide +kernel)
set_option maxRecDepth 20000 in
theorem gX6_reweigh_X6_in : GoodIn wsX6_reweigh (va_wsS RX6 130 yX6_in wsX6_in) := goodIn_app (goodIn_of _ (by decide +kernel)) ggX6_reweigh_X6_in
set_option maxRecDepth 20000 in
theorem ggX6_reweigh_X6_dryOf : GoodIn wsX6_reweigh wsX6_dryOf := goodIn_r _ [20, 21] (by decide +kernel) (by decide +kernel)
set_option maxRecDepth 20000 in
theorem gX6_reweigh_X6_dryOf : GoodIn wsX6_reweigh (va_wsS RX6 170 yX6_dryOf wsX6_dryOf) := goodIn_app (goodIn_of _ (by decide +kernel)) ggX6_reweigh_X6_dryOf
set_option maxRecDepth 20000 in
theorem ggX6_reweigh_X6_isOf : GoodIn wsX6_reweigh wsX6_isOf := goodIn_r _ [25, 10, 26, 27, 67, 68, 69, 70, 71, 72, 73, 74, 75, 76, 77, 78, 79, 80, 81, 82, 83, 84, 85, 86, 87, 88, 89, 90, 91, 92, 93, 94, 95, 96, 97, 98, 99, 100, 101, 102, 103, 104, 105, 106, 107, 108, 109, 110, 111, 112] (by decide +kernel) (by decide +kernel)
set_option maxRecDepth 20000 in
theorem gX6_reweigh_X6_isOf : GoodIn wsX6_reweigh (wsV RX6 150 RX6 yX6_isOf wsX6_isOf) := goodIn_app (goodIn_of _ (by decide +kernel)) ggX6_reweigh_X6_isOf
set_option maxRecDepth 20000 in
theorem ggX6_reweigh_X6_goesWell : GoodIn wsX6_reweigh wsX6_goesWell := goodIn_r _ [31, 32, 67, 68, 69, 70, 71, 72, 73, 74, 75, 76, 77, 78, 79, 80, 81, 82, 83, 84, 85, 86, 87, 88, 89, 90, 91, 92, 93, 94, 95, 96, 97, 98, 99, 100, 101, 102, 103, 104, 105, 106, 107, 108, 109, 110, 111, 112] (by decide +kernel) (by decide +kernel)
set_option maxRecDepth 20000 in
theorem gX6_reweigh_X6_goesWell : GoodIn wsX6_reweigh (wsV RX6 141 RX6 yX6_goesWell wsX6_goesWell) := goodIn_app (goodIn_of _ (by decide +kernel)) ggX6_reweigh_X6_goesWell
set_option maxRecDepth 20000 in
theorem ggX6_reweigh_X6_make : GoodIn wsX6_reweigh wsX6_make := goodIn_r _ [36, 37, 7, 13, 11, 38, 39, 40, 41, 16, 42, 12, 43, 44, 45, 46, 47, 48, 67, 68, 69, 70, 71, 72, 73, 74, 75, 76, 77, 78, 79, 80, 81, 82, 83, 84, 85, 86, 87, 88, 89, 90, 91, 92, 93, 94, 95, 96, 97, 98, 99, 100, 101, 102, 103, 104, 105, 106, 107, 108, 109, 110, 111, 112] (by decide +kernel) (by decide +kernel)
set_option maxRecDepth 20000 in
theorem gX6_reweigh_X6_make : GoodIn wsX6_reweigh (wsV RX6 181 RX6 yX6_make wsX6_make) := goodIn_app (goodIn_of _ (by decide +kernel)) ggX6_reweigh_X6_make
set_option maxRecDepth 20000 in
theorem ggX6_reweigh_X6_takeFor : GoodIn wsX6_reweigh wsX6_takeFor := goodIn_r _ [52, 37, 8, 12, 43, 53, 54, 55, 56, 57, 58, 59, 60, 16, 61, 62, 63, 64, 65, 66, 10, 13, 38, 67, 68, 69, 70, 71, 72, 73, 74, 75, 76, 77, 78, 79, 80, 81, 82, 83, 84, 85, 86, 87, 88, 89, 90, 91, 92, 93, 94, 95, 96, 97, 98, 99, 100, 101, 102, 103, 104, 105, 106, 107, 108, 109, 110, 111, 112] (by decide +kernel) (by decide +kernel)
set_option maxRecDepth 20000 in
theorem gX6_reweigh_X6_takeFor : GoodIn wsX6_reweigh (wsV RX6 200 RX6 yX6_takeFor wsX6_takeFor) := goodIn_app (goodIn_of _ (by decide +kernel)) ggX6_reweigh_X6_takeFor
theorem dX6_reweigh_0 : decode cX6_reweigh 0 = .ok (.iload_n 1, 1) := by decide +kernel
theorem dX6_reweigh_1 : decode cX6_reweigh 1 = .ok (.iconst 0, 1) := by decide +kernel
theorem dX6_reweigh_2 : decode cX6_reweigh 2 = .ok (.aload_n 0, 1) := by decide +kernel
theorem dX6_reweigh_3 : decode cX6_reweigh 3 = .ok (.getfield 178, 3) := by decide +kernel
theorem dX6_reweigh_6 : decode cX6_reweigh 6 = .ok (.iconst 1, 1) := by decide +kernel
theorem dX6_reweigh_7 : decode cX6_reweigh 7 = .ok (.isub, 1) := by decide +kernel
theorem dX6_reweigh_8 : decode cX6_reweigh 8 = .ok (.invokestatic 130, 3) := by decide +kernel
theorem dX6_reweigh_11 : decode cX6_reweigh 11 = .ok (.istore_n 3, 1) := by decide +kernel
theorem dX6_reweigh_12 : decode cX6_reweigh 12 = .ok (.iload_n 2, 1) := by decide +kernel
theorem dX6_reweigh_13 : decode cX6_reweigh 13 = .ok (.bipush 50, 2) := by decide +kernel
theorem dX6_reweigh_15 : decode cX6_reweigh 15 = .ok (.sipush 300, 3) := by decide +kernel
theorem dX6_reweigh_18 : decode cX6_reweigh 18 = .ok (.invokestatic 130, 3) := by decide +kernel
theorem dX6_reweigh_21 : decode cX6_reweigh 21 = .ok (.istore 4, 2) := by decide +kernel
theorem dX6_reweigh_23 : decode cX6_reweigh 23 = .ok (.iload_n 3, 1) := by decide +kernel
theorem dX6_reweigh_24 : decode cX6_reweigh 24 = .ok (.ifCond .eq 21, 3) := by decide +kernel
theorem dX6_reweigh_27 : decode cX6_reweigh 27 = .ok (.iload 4, 2) := by decide +kernel
theorem dX6_reweigh_29 : decode cX6_reweigh 29 = .ok (.ifCond .eq 16, 3) := by decide +kernel
theorem dX6_reweigh_32 : decode cX6_reweigh 32 = .ok (.aload_n 0, 1) := by decide +kernel
theorem dX6_reweigh_33 : decode cX6_reweigh 33 = .ok (.getfield 42, 3) := by decide +kernel
theorem dX6_reweigh_36 : decode cX6_reweigh 36 = .ok (.iload_n 1, 1) := by decide +kernel
theorem dX6_reweigh_37 : decode cX6_reweigh 37 = .ok (.iaload, 1) := by decide +kernel
theorem dX6_reweigh_38 : decode cX6_reweigh 38 = .ok (.iload_n 2, 1) := by decide +kernel
theorem dX6_reweigh_39 : decode cX6_reweigh 39 = .ok (.invokestatic 170, 3) := by decide +kernel
theorem dX6_reweigh_42 : decode cX6_reweigh 42 = .ok (.goto 4, 3) := by decide +kernel
theorem dX6_reweigh_45 : decode cX6_reweigh 45 = .ok (.iconst 0, 1) := by decide +kernel
theorem dX6_reweigh_46 : decode cX6_reweigh 46 = .ok (.istore 5, 2) := by decide +kernel
theorem dX6_reweigh_48 : decode cX6_reweigh 48 = .ok (.iload_n 3, 1) := by decide +kernel
theorem dX6_reweigh_49 : decode cX6_reweigh 49 = .ok (.ifCond .eq 32, 3) := by decide +kernel
theorem dX6_reweigh_52 : decode cX6_reweigh 52 = .ok (.aload_n 0, 1) := by decide +kernel
theorem dX6_reweigh_53 : decode cX6_reweigh 53 = .ok (.aload_n 0, 1) := by decide +kernel
theorem dX6_reweigh_54 : decode cX6_reweigh 54 = .ok (.getfield 54, 3) := by decide +kernel
theorem dX6_reweigh_57 : decode cX6_reweigh 57 = .ok (.iload_n 1, 1) := by decide +kernel
theorem dX6_reweigh_58 : decode cX6_reweigh 58 = .ok (.iaload, 1) := by decide +kernel
theorem dX6_reweigh_59 : decode cX6_reweigh 59 = .ok (.aload_n 0, 1) := by decide +kernel
theorem dX6_reweigh_60 : decode cX6_reweigh 60 = .ok (.getfield 48, 3) := by decide +kernel
theorem dX6_reweigh_63 : decode cX6_reweigh 63 = .ok (.iload_n 1, 1) := by decide +kernel
theorem dX6_reweigh_64 : decode cX6_reweigh 64 = .ok (.iaload, 1) := by decide +kernel
theorem dX6_reweigh_65 : decode cX6_reweigh 65 = .ok (.aload_n 0, 1) := by decide +kernel
