set_option maxRecDepth 20000 in
theorem ggL_acts_L_tended : GoodIn wsL_acts wsL_tended := goodIn_r _ [119, 120, 121, 122, 23, 123, 124, 125, 126, 21, 22, 24, 25, 26, 27, 28, 29, 30, 31, 32, 127, 128, 129] (by decide +kernel) (by decide +kernel)
set_option maxRecDepth 20000 in
theorem gL_acts_L_tended : GoodIn wsL_acts (va_wsS RL 52 yL_tended wsL_tended) := goodIn_app (goodIn_of _ (by decide +kernel)) ggL_acts_L_tended
set_option maxRecDepth 20000 in
theorem ggL_acts_X0_toggle : GoodIn wsL_acts wsX0_toggle := goodIn_ca (goodIn_r _ [133, 43, 134, 135, 136, 8, 137, 48, 49, 37, 146, 147, 148, 149, 150, 151, 152, 153, 154, 155, 156, 157, 158, 159, 160] (by decide +kernel) (by decide +kernel)) (goodIn_sub (fun _ h => List.mem_cons_of_mem _ (List.mem_append_right _ h)) (by decide +kernel))
set_option maxRecDepth 20000 in
theorem gL_acts_X0_toggle : GoodIn wsL_acts (wsV RL 115 RX0 yX0_toggle wsX0_toggle) := goodIn_app (goodIn_of _ (by decide +kernel)) ggL_acts_X0_toggle
set_option maxRecDepth 20000 in
theorem ggL_acts_L_shift : GoodIn wsL_acts wsL_shift := goodIn_r _ [123, 124, 125, 23, 126, 21, 22, 24, 25, 26, 27, 28, 29, 30, 31, 32, 127, 128, 129] (by decide +kernel) (by decide +kernel)
set_option maxRecDepth 20000 in
theorem gL_acts_L_shift : GoodIn wsL_acts (va_wsS RL 34 yL_shift wsL_shift) := goodIn_app (goodIn_of _ (by decide +kernel)) ggL_acts_L_shift
set_option maxRecDepth 20000 in
theorem ggL_acts_L_tend : GoodIn wsL_acts wsL_tend := goodIn_ca (goodIn_ca (goodIn_ca (goodIn_r _ [140, 141, 142, 143, 144, 8, 145, 10, 11, 43, 42, 109, 110, 111, 112, 134, 135, 136, 137, 48, 49, 37, 58, 59, 60, 16, 17, 18, 19, 20, 85, 86, 87, 88, 89, 90, 91, 92, 93, 94, 95, 96, 71, 76, 97, 98, 99, 100, 39, 101, 102, 103, 104, 57, 65, 50, 51, 52, 105, 106, 107, 108, 40, 113, 114, 115, 116, 146, 147, 148, 149, 150, 151, 152, 153, 154, 155, 156, 157, 158, 159, 160] (by decide +kernel) (by decide +kernel)) (goodIn_sub (fun _ h => List.mem_cons_of_mem _ (List.mem_append_left _ (List.mem_append_left _ (List.mem_append_right _ h)))) (by decide +kernel))) (goodIn_sub (fun _ h => List.mem_cons_of_mem _ (List.mem_append_right _ h)) (by decide +kernel))) (goodIn_sub (fun _ h => List.mem_cons_of_mem _ (List.mem_append_left _ (List.mem_append_right _ h))) (by decide +kernel))
set_option maxRecDepth 20000 in
theorem gL_acts_L_tend : GoodIn wsL_acts (va_wsS RL 118 yL_tend wsL_tend) := goodIn_app (goodIn_of _ (by decide +kernel)) ggL_acts_L_tend
theorem dL_acts_0 : decode cL_acts 0 = .ok (.iload 8, 2) := by decide +kernel
theorem dL_acts_2 : decode cL_acts 2 = .ok (.iconst 3, 1) := by decide +kernel
theorem dL_acts_3 : decode cL_acts 3 = .ok (.irem, 1) := by decide +kernel
theorem dL_acts_4 : decode cL_acts 4 = .ok (.ifCond .ne 13, 3) := by decide +kernel
theorem dL_acts_7 : decode cL_acts 7 = .ok (.iload 8, 2) := by decide +kernel
theorem dL_acts_9 : decode cL_acts 9 = .ok (.iconst 3, 1) := by decide +kernel
theorem dL_acts_10 : decode cL_acts 10 = .ok (.idiv, 1) := by decide +kernel
theorem dL_acts_11 : decode cL_acts 11 = .ok (.bipush 48, 2) := by decide +kernel
theorem dL_acts_13 : decode cL_acts 13 = .ok (.irem, 1) := by decide +kernel
theorem dL_acts_14 : decode cL_acts 14 = .ok (.goto 9, 3) := by decide +kernel
theorem dL_acts_17 : decode cL_acts 17 = .ok (.iload 8, 2) := by decide +kernel
theorem dL_acts_19 : decode cL_acts 19 = .ok (.iconst 3, 1) := by decide +kernel
theorem dL_acts_20 : decode cL_acts 20 = .ok (.idiv, 1) := by decide +kernel
theorem dL_acts_21 : decode cL_acts 21 = .ok (.iconst 4, 1) := by decide +kernel
theorem dL_acts_22 : decode cL_acts 22 = .ok (.irem, 1) := by decide +kernel
theorem dL_acts_23 : decode cL_acts 23 = .ok (.istore 9, 2) := by decide +kernel
theorem dL_acts_25 : decode cL_acts 25 = .ok (.iload 7, 2) := by decide +kernel
theorem dL_acts_27 : decode cL_acts 27 = .ok (.ifCond .ne 109, 3) := by decide +kernel
theorem dL_acts_30 : decode cL_acts 30 = .ok (.aload 6, 2) := by decide +kernel
theorem dL_acts_32 : decode cL_acts 32 = .ok (.iconst 0, 1) := by decide +kernel
theorem dL_acts_33 : decode cL_acts 33 = .ok (.iaload, 1) := by decide +kernel
theorem dL_acts_34 : decode cL_acts 34 = .ok (.iconst 4, 1) := by decide +kernel
theorem dL_acts_35 : decode cL_acts 35 = .ok (.if_icmp .ge 101, 3) := by decide +kernel
theorem dL_acts_38 : decode cL_acts 38 = .ok (.aload_n 1, 1) := by decide +kernel
theorem dL_acts_39 : decode cL_acts 39 = .ok (.iconst 2, 1) := by decide +kernel
theorem dL_acts_40 : decode cL_acts 40 = .ok (.aload 6, 2) := by decide +kernel
theorem dL_acts_42 : decode cL_acts 42 = .ok (.iconst 0, 1) := by decide +kernel
theorem dL_acts_43 : decode cL_acts 43 = .ok (.iaload, 1) := by decide +kernel
theorem dL_acts_44 : decode cL_acts 44 = .ok (.imul, 1) := by decide +kernel
theorem dL_acts_45 : decode cL_acts 45 = .ok (.iload 8, 2) := by decide +kernel
theorem dL_acts_47 : decode cL_acts 47 = .ok (.sipush 6001, 3) := by decide +kernel
theorem dL_acts_50 : decode cL_acts 50 = .ok (.irem, 1) := by decide +kernel
theorem dL_acts_51 : decode cL_acts 51 = .ok (.sipush 3000, 3) := by decide +kernel
theorem dL_acts_54 : decode cL_acts 54 = .ok (.isub, 1) := by decide +kernel
theorem dL_acts_55 : decode cL_acts 55 = .ok (.iastore, 1) := by decide +kernel
theorem dL_acts_56 : decode cL_acts 56 = .ok (.aload_n 1, 1) := by decide +kernel
theorem dL_acts_57 : decode cL_acts 57 = .ok (.iconst 2, 1) := by decide +kernel
theorem dL_acts_58 : decode cL_acts 58 = .ok (.aload 6, 2) := by decide +kernel
theorem dL_acts_60 : decode cL_acts 60 = .ok (.iconst 0, 1) := by decide +kernel
theorem dL_acts_61 : decode cL_acts 61 = .ok (.iaload, 1) := by decide +kernel
theorem dL_acts_62 : decode cL_acts 62 = .ok (.imul, 1) := by decide +kernel
theorem dL_acts_63 : decode cL_acts 63 = .ok (.iconst 1, 1) := by decide +kernel
theorem dL_acts_64 : decode cL_acts 64 = .ok (.iadd, 1) := by decide +kernel
theorem dL_acts_65 : decode cL_acts 65 = .ok (.iconst 1, 1) := by decide +kernel
theorem dL_acts_66 : decode cL_acts 66 = .ok (.iload 8, 2) := by decide +kernel
theorem dL_acts_68 : decode cL_acts 68 = .ok (.bipush 7, 2) := by decide +kernel
theorem dL_acts_70 : decode cL_acts 70 = .ok (.idiv, 1) := by decide +kernel
theorem dL_acts_71 : decode cL_acts 71 = .ok (.iload 8, 2) := by decide +kernel
theorem dL_acts_73 : decode cL_acts 73 = .ok (.iconst 5, 1) := by decide +kernel
theorem dL_acts_74 : decode cL_acts 74 = .ok (.irem, 1) := by decide +kernel
theorem dL_acts_75 : decode cL_acts 75 = .ok (.ifCond .ne 9, 3) := by decide +kernel
theorem dL_acts_78 : decode cL_acts 78 = .ok (.sipush 900, 3) := by decide +kernel
theorem dL_acts_81 : decode cL_acts 81 = .ok (.goto 5, 3) := by decide +kernel
theorem dL_acts_84 : decode cL_acts 84 = .ok (.ldc 89, 2) := by decide +kernel
theorem dL_acts_86 : decode cL_acts 86 = .ok (.irem, 1) := by decide +kernel
theorem dL_acts_87 : decode cL_acts 87 = .ok (.iadd, 1) := by decide +kernel
theorem dL_acts_88 : decode cL_acts 88 = .ok (.iastore, 1) := by decide +kernel
theorem dL_acts_89 : decode cL_acts 89 = .ok (.aload 6, 2) := by decide +kernel
theorem dL_acts_91 : decode cL_acts 91 = .ok (.iconst 0, 1) := by decide +kernel
theorem dL_acts_92 : decode cL_acts 92 = .ok (.dup2, 1) := by decide +kernel
theorem dL_acts_93 : decode cL_acts 93 = .ok (.iaload, 1) := by decide +kernel
theorem dL_acts_94 : decode cL_acts 94 = .ok (.iconst 1, 1) := by decide +kernel
theorem dL_acts_95 : decode cL_acts 95 = .ok (.iadd, 1) := by decide +kernel
theorem dL_acts_96 : decode cL_acts 96 = .ok (.iastore, 1) := by decide +kernel
theorem dL_acts_97 : decode cL_acts 97 = .ok (.aload_n 0, 1) := by decide +kernel
theorem dL_acts_98 : decode cL_acts 98 = .ok (.aload_n 1, 1) := by decide +kernel
theorem dL_acts_99 : decode cL_acts 99 = .ok (.iconst 2, 1) := by decide +kernel
theorem dL_acts_100 : decode cL_acts 100 = .ok (.aload 6, 2) := by decide +kernel
theorem dL_acts_102 : decode cL_acts 102 = .ok (.iconst 0, 1) := by decide +kernel
theorem dL_acts_103 : decode cL_acts 103 = .ok (.iaload, 1) := by decide +kernel
theorem dL_acts_104 : decode cL_acts 104 = .ok (.imul, 1) := by decide +kernel
theorem dL_acts_105 : decode cL_acts 105 = .ok (.iconst 2, 1) := by decide +kernel
theorem dL_acts_106 : decode cL_acts 106 = .ok (.isub, 1) := by decide +kernel
theorem dL_acts_107 : decode cL_acts 107 = .ok (.iaload, 1) := by decide +kernel
theorem dL_acts_108 : decode cL_acts 108 = .ok (.aload_n 1, 1) := by decide +kernel
theorem dL_acts_109 : decode cL_acts 109 = .ok (.iconst 2, 1) := by decide +kernel
theorem dL_acts_110 : decode cL_acts 110 = .ok (.aload 6, 2) := by decide +kernel
theorem dL_acts_112 : decode cL_acts 112 = .ok (.iconst 0, 1) := by decide +kernel
theorem dL_acts_113 : decode cL_acts 113 = .ok (.iaload, 1) := by decide +kernel
theorem dL_acts_114 : decode cL_acts 114 = .ok (.imul, 1) := by decide +kernel
theorem dL_acts_115 : decode cL_acts 115 = .ok (.iconst 1, 1) := by decide +kernel
theorem dL_acts_116 : decode cL_acts 116 = .ok (.isub, 1) := by decide +kernel
theorem dL_acts_117 : decode cL_acts 117 = .ok (.iaload, 1) := by decide +kernel
theorem dL_acts_118 : decode cL_acts 118 = .ok (.invokevirtual 90, 3) := by decide +kernel
theorem dL_acts_121 : decode cL_acts 121 = .ok (.aload 6, 2) := by decide +kernel
theorem dL_acts_123 : decode cL_acts 123 = .ok (.iconst 0, 1) := by decide +kernel
theorem dL_acts_124 : decode cL_acts 124 = .ok (.iaload, 1) := by decide +kernel
theorem dL_acts_125 : decode cL_acts 125 = .ok (.iconst 1, 1) := by decide +kernel
theorem dL_acts_126 : decode cL_acts 126 = .ok (.isub, 1) := by decide +kernel
theorem dL_acts_127 : decode cL_acts 127 = .ok (.if_icmp .ne 7, 3) := by decide +kernel
theorem dL_acts_130 : decode cL_acts 130 = .ok (.iconst 1, 1) := by decide +kernel
theorem dL_acts_131 : decode cL_acts 131 = .ok (.goto 4, 3) := by decide +kernel
theorem dL_acts_134 : decode cL_acts 134 = .ok (.iconst 0, 1) := by decide +kernel
theorem dL_acts_135 : decode cL_acts 135 = .ok (.ireturn, 1) := by decide +kernel
theorem dL_acts_136 : decode cL_acts 136 = .ok (.iload 7, 2) := by decide +kernel
theorem dL_acts_138 : decode cL_acts 138 = .ok (.iconst 3, 1) := by decide +kernel
theorem dL_acts_139 : decode cL_acts 139 = .ok (.if_icmp .ge 171, 3) := by decide +kernel
theorem dL_acts_142 : decode cL_acts 142 = .ok (.aload 6, 2) := by decide +kernel
theorem dL_acts_144 : decode cL_acts 144 = .ok (.iconst 1, 1) := by decide +kernel
theorem dL_acts_145 : decode cL_acts 145 = .ok (.iaload, 1) := by decide +kernel
theorem dL_acts_146 : decode cL_acts 146 = .ok (.bipush 6, 2) := by decide +kernel
theorem dL_acts_148 : decode cL_acts 148 = .ok (.if_icmp .ge 162, 3) := by decide +kernel
theorem dL_acts_151 : decode cL_acts 151 = .ok (.bipush 6, 2) := by decide +kernel
theorem dL_acts_153 : decode cL_acts 153 = .ok (.aload 6, 2) := by decide +kernel
theorem dL_acts_155 : decode cL_acts 155 = .ok (.iconst 1, 1) := by decide +kernel
theorem dL_acts_156 : decode cL_acts 156 = .ok (.iaload, 1) := by decide +kernel
theorem dL_acts_157 : decode cL_acts 157 = .ok (.imul, 1) := by decide +kernel
theorem dL_acts_158 : decode cL_acts 158 = .ok (.istore 10, 2) := by decide +kernel
theorem dL_acts_160 : decode cL_acts 160 = .ok (.aload_n 2, 1) := by decide +kernel
theorem dL_acts_161 : decode cL_acts 161 = .ok (.iload 10, 2) := by decide +kernel
theorem dL_acts_163 : decode cL_acts 163 = .ok (.iload 8, 2) := by decide +kernel
theorem dL_acts_165 : decode cL_acts 165 = .ok (.sipush 4001, 3) := by decide +kernel
theorem dL_acts_168 : decode cL_acts 168 = .ok (.irem, 1) := by decide +kernel
theorem dL_acts_169 : decode cL_acts 169 = .ok (.sipush 2000, 3) := by decide +kernel
theorem dL_acts_172 : decode cL_acts 172 = .ok (.isub, 1) := by decide +kernel
theorem dL_acts_173 : decode cL_acts 173 = .ok (.iastore, 1) := by decide +kernel
theorem dL_acts_174 : decode cL_acts 174 = .ok (.aload_n 2, 1) := by decide +kernel
theorem dL_acts_175 : decode cL_acts 175 = .ok (.iload 10, 2) := by decide +kernel
theorem dL_acts_177 : decode cL_acts 177 = .ok (.iconst 1, 1) := by decide +kernel
theorem dL_acts_178 : decode cL_acts 178 = .ok (.iadd, 1) := by decide +kernel
theorem dL_acts_179 : decode cL_acts 179 = .ok (.iload 8, 2) := by decide +kernel
theorem dL_acts_181 : decode cL_acts 181 = .ok (.bipush 11, 2) := by decide +kernel
theorem dL_acts_183 : decode cL_acts 183 = .ok (.idiv, 1) := by decide +kernel
theorem dL_acts_184 : decode cL_acts 184 = .ok (.aload 6, 2) := by decide +kernel
theorem dL_acts_186 : decode cL_acts 186 = .ok (.iconst 0, 1) := by decide +kernel
theorem dL_acts_187 : decode cL_acts 187 = .ok (.iaload, 1) := by decide +kernel
theorem dL_acts_188 : decode cL_acts 188 = .ok (.irem, 1) := by decide +kernel
theorem dL_acts_189 : decode cL_acts 189 = .ok (.iastore, 1) := by decide +kernel
theorem dL_acts_190 : decode cL_acts 190 = .ok (.aload_n 2, 1) := by decide +kernel
theorem dL_acts_191 : decode cL_acts 191 = .ok (.iload 10, 2) := by decide +kernel
theorem dL_acts_193 : decode cL_acts 193 = .ok (.iconst 2, 1) := by decide +kernel
theorem dL_acts_194 : decode cL_acts 194 = .ok (.iadd, 1) := by decide +kernel
theorem dL_acts_195 : decode cL_acts 195 = .ok (.iconst 1, 1) := by decide +kernel
theorem dL_acts_196 : decode cL_acts 196 = .ok (.iload 8, 2) := by decide +kernel
theorem dL_acts_198 : decode cL_acts 198 = .ok (.bipush 44, 2) := by decide +kernel
theorem dL_acts_200 : decode cL_acts 200 = .ok (.idiv, 1) := by decide +kernel
theorem dL_acts_201 : decode cL_acts 201 = .ok (.bipush 100, 2) := by decide +kernel
theorem dL_acts_203 : decode cL_acts 203 = .ok (.irem, 1) := by decide +kernel
theorem dL_acts_204 : decode cL_acts 204 = .ok (.iadd, 1) := by decide +kernel
theorem dL_acts_205 : decode cL_acts 205 = .ok (.iastore, 1) := by decide +kernel
theorem dL_acts_206 : decode cL_acts 206 = .ok (.aload_n 2, 1) := by decide +kernel
theorem dL_acts_207 : decode cL_acts 207 = .ok (.iload 10, 2) := by decide +kernel
theorem dL_acts_209 : decode cL_acts 209 = .ok (.iconst 3, 1) := by decide +kernel
theorem dL_acts_210 : decode cL_acts 210 = .ok (.iadd, 1) := by decide +kernel
theorem dL_acts_211 : decode cL_acts 211 = .ok (.iconst 1, 1) := by decide +kernel
theorem dL_acts_212 : decode cL_acts 212 = .ok (.iload 8, 2) := by decide +kernel
theorem dL_acts_214 : decode cL_acts 214 = .ok (.bipush 13, 2) := by decide +kernel
theorem dL_acts_216 : decode cL_acts 216 = .ok (.idiv, 1) := by decide +kernel
theorem dL_acts_217 : decode cL_acts 217 = .ok (.iload 8, 2) := by decide +kernel
theorem dL_acts_219 : decode cL_acts 219 = .ok (.iconst 4, 1) := by decide +kernel
theorem dL_acts_220 : decode cL_acts 220 = .ok (.irem, 1) := by decide +kernel
theorem dL_acts_221 : decode cL_acts 221 = .ok (.ifCond .ne 9, 3) := by decide +kernel
theorem dL_acts_224 : decode cL_acts 224 = .ok (.sipush 2000, 3) := by decide +kernel
theorem dL_acts_227 : decode cL_acts 227 = .ok (.goto 5, 3) := by decide +kernel
theorem dL_acts_230 : decode cL_acts 230 = .ok (.ldc 93, 2) := by decide +kernel
theorem dL_acts_232 : decode cL_acts 232 = .ok (.irem, 1) := by decide +kernel
theorem dL_acts_233 : decode cL_acts 233 = .ok (.iadd, 1) := by decide +kernel
theorem dL_acts_234 : decode cL_acts 234 = .ok (.iastore, 1) := by decide +kernel
theorem dL_acts_235 : decode cL_acts 235 = .ok (.aload_n 2, 1) := by decide +kernel
theorem dL_acts_236 : decode cL_acts 236 = .ok (.iload 10, 2) := by decide +kernel
theorem dL_acts_238 : decode cL_acts 238 = .ok (.iconst 4, 1) := by decide +kernel
theorem dL_acts_239 : decode cL_acts 239 = .ok (.iadd, 1) := by decide +kernel
theorem dL_acts_240 : decode cL_acts 240 = .ok (.aload_n 1, 1) := by decide +kernel
theorem dL_acts_241 : decode cL_acts 241 = .ok (.aload_n 2, 1) := by decide +kernel
theorem dL_acts_242 : decode cL_acts 242 = .ok (.aload 6, 2) := by decide +kernel
theorem dL_acts_244 : decode cL_acts 244 = .ok (.iconst 1, 1) := by decide +kernel
theorem dL_acts_245 : decode cL_acts 245 = .ok (.iaload, 1) := by decide +kernel
theorem dL_acts_246 : decode cL_acts 246 = .ok (.sipush 300, 3) := by decide +kernel
theorem dL_acts_249 : decode cL_acts 249 = .ok (.iconst 0, 1) := by decide +kernel
theorem dL_acts_250 : decode cL_acts 250 = .ok (.invokestatic 23, 3) := by decide +kernel
theorem dL_acts_253 : decode cL_acts 253 = .ok (.iastore, 1) := by decide +kernel
theorem dL_acts_254 : decode cL_acts 254 = .ok (.aload_n 2, 1) := by decide +kernel
theorem dL_acts_255 : decode cL_acts 255 = .ok (.iload 10, 2) := by decide +kernel
theorem dL_acts_257 : decode cL_acts 257 = .ok (.iconst 5, 1) := by decide +kernel
theorem dL_acts_258 : decode cL_acts 258 = .ok (.iadd, 1) := by decide +kernel
theorem dL_acts_259 : decode cL_acts 259 = .ok (.iconst 0, 1) := by decide +kernel
theorem dL_acts_260 : decode cL_acts 260 = .ok (.iastore, 1) := by decide +kernel
theorem dL_acts_261 : decode cL_acts 261 = .ok (.aload 6, 2) := by decide +kernel
theorem dL_acts_263 : decode cL_acts 263 = .ok (.iconst 1, 1) := by decide +kernel
theorem dL_acts_264 : decode cL_acts 264 = .ok (.dup2, 1) := by decide +kernel
theorem dL_acts_265 : decode cL_acts 265 = .ok (.iaload, 1) := by decide +kernel
theorem dL_acts_266 : decode cL_acts 266 = .ok (.iconst 1, 1) := by decide +kernel
theorem dL_acts_267 : decode cL_acts 267 = .ok (.iadd, 1) := by decide +kernel
theorem dL_acts_268 : decode cL_acts 268 = .ok (.iastore, 1) := by decide +kernel
theorem dL_acts_269 : decode cL_acts 269 = .ok (.aload_n 0, 1) := by decide +kernel
theorem dL_acts_270 : decode cL_acts 270 = .ok (.aload_n 2, 1) := by decide +kernel
theorem dL_acts_271 : decode cL_acts 271 = .ok (.iload 10, 2) := by decide +kernel
theorem dL_acts_273 : decode cL_acts 273 = .ok (.iaload, 1) := by decide +kernel
theorem dL_acts_274 : decode cL_acts 274 = .ok (.aload_n 2, 1) := by decide +kernel
theorem dL_acts_275 : decode cL_acts 275 = .ok (.iload 10, 2) := by decide +kernel
theorem dL_acts_277 : decode cL_acts 277 = .ok (.iconst 1, 1) := by decide +kernel
theorem dL_acts_278 : decode cL_acts 278 = .ok (.iadd, 1) := by decide +kernel
theorem dL_acts_279 : decode cL_acts 279 = .ok (.iaload, 1) := by decide +kernel
theorem dL_acts_280 : decode cL_acts 280 = .ok (.aload_n 2, 1) := by decide +kernel
theorem dL_acts_281 : decode cL_acts 281 = .ok (.iload 10, 2) := by decide +kernel
theorem dL_acts_283 : decode cL_acts 283 = .ok (.iconst 2, 1) := by decide +kernel
theorem dL_acts_284 : decode cL_acts 284 = .ok (.iadd, 1) := by decide +kernel
theorem dL_acts_285 : decode cL_acts 285 = .ok (.iaload, 1) := by decide +kernel
theorem dL_acts_286 : decode cL_acts 286 = .ok (.aload_n 2, 1) := by decide +kernel
theorem dL_acts_287 : decode cL_acts 287 = .ok (.iload 10, 2) := by decide +kernel
theorem dL_acts_289 : decode cL_acts 289 = .ok (.iconst 3, 1) := by decide +kernel
theorem dL_acts_290 : decode cL_acts 290 = .ok (.iadd, 1) := by decide +kernel
theorem dL_acts_291 : decode cL_acts 291 = .ok (.iaload, 1) := by decide +kernel
theorem dL_acts_292 : decode cL_acts 292 = .ok (.invokevirtual 94, 3) := by decide +kernel
theorem dL_acts_295 : decode cL_acts 295 = .ok (.aload 6, 2) := by decide +kernel
theorem dL_acts_297 : decode cL_acts 297 = .ok (.iconst 1, 1) := by decide +kernel
theorem dL_acts_298 : decode cL_acts 298 = .ok (.iaload, 1) := by decide +kernel
theorem dL_acts_299 : decode cL_acts 299 = .ok (.iconst 1, 1) := by decide +kernel
theorem dL_acts_300 : decode cL_acts 300 = .ok (.isub, 1) := by decide +kernel
theorem dL_acts_301 : decode cL_acts 301 = .ok (.if_icmp .ne 7, 3) := by decide +kernel
theorem dL_acts_304 : decode cL_acts 304 = .ok (.iconst 1, 1) := by decide +kernel
theorem dL_acts_305 : decode cL_acts 305 = .ok (.goto 4, 3) := by decide +kernel
theorem dL_acts_308 : decode cL_acts 308 = .ok (.iconst 0, 1) := by decide +kernel
theorem dL_acts_309 : decode cL_acts 309 = .ok (.ireturn, 1) := by decide +kernel
theorem dL_acts_310 : decode cL_acts 310 = .ok (.iload 7, 2) := by decide +kernel
theorem dL_acts_312 : decode cL_acts 312 = .ok (.iconst 5, 1) := by decide +kernel
theorem dL_acts_313 : decode cL_acts 313 = .ok (.if_icmp .ge 48, 3) := by decide +kernel
theorem dL_acts_316 : decode cL_acts 316 = .ok (.aload_n 3, 1) := by decide +kernel
theorem dL_acts_317 : decode cL_acts 317 = .ok (.iload 9, 2) := by decide +kernel
theorem dL_acts_319 : decode cL_acts 319 = .ok (.iaload, 1) := by decide +kernel
theorem dL_acts_320 : decode cL_acts 320 = .ok (.istore 10, 2) := by decide +kernel
theorem dL_acts_322 : decode cL_acts 322 = .ok (.aload_n 3, 1) := by decide +kernel
theorem dL_acts_323 : decode cL_acts 323 = .ok (.iload 9, 2) := by decide +kernel
theorem dL_acts_325 : decode cL_acts 325 = .ok (.iload 8, 2) := by decide +kernel
theorem dL_acts_327 : decode cL_acts 327 = .ok (.sipush 150, 3) := by decide +kernel
theorem dL_acts_330 : decode cL_acts 330 = .ok (.idiv, 1) := by decide +kernel
theorem dL_acts_331 : decode cL_acts 331 = .ok (.sipush 401, 3) := by decide +kernel
theorem dL_acts_334 : decode cL_acts 334 = .ok (.irem, 1) := by decide +kernel
theorem dL_acts_335 : decode cL_acts 335 = .ok (.sipush 200, 3) := by decide +kernel
theorem dL_acts_338 : decode cL_acts 338 = .ok (.isub, 1) := by decide +kernel
theorem dL_acts_339 : decode cL_acts 339 = .ok (.iastore, 1) := by decide +kernel
theorem dL_acts_340 : decode cL_acts 340 = .ok (.aload_n 0, 1) := by decide +kernel
theorem dL_acts_341 : decode cL_acts 341 = .ok (.iload 9, 2) := by decide +kernel
theorem dL_acts_343 : decode cL_acts 343 = .ok (.aload_n 3, 1) := by decide +kernel
theorem dL_acts_344 : decode cL_acts 344 = .ok (.iload 9, 2) := by decide +kernel
theorem dL_acts_346 : decode cL_acts 346 = .ok (.iaload, 1) := by decide +kernel
theorem dL_acts_347 : decode cL_acts 347 = .ok (.invokevirtual 98, 3) := by decide +kernel
theorem dL_acts_350 : decode cL_acts 350 = .ok (.iload 10, 2) := by decide +kernel
theorem dL_acts_352 : decode cL_acts 352 = .ok (.if_icmp .ne 7, 3) := by decide +kernel
theorem dL_acts_355 : decode cL_acts 355 = .ok (.iconst 1, 1) := by decide +kernel
theorem dL_acts_356 : decode cL_acts 356 = .ok (.goto 4, 3) := by decide +kernel
theorem dL_acts_359 : decode cL_acts 359 = .ok (.iconst 0, 1) := by decide +kernel
theorem dL_acts_360 : decode cL_acts 360 = .ok (.ireturn, 1) := by decide +kernel
theorem dL_acts_361 : decode cL_acts 361 = .ok (.iload 7, 2) := by decide +kernel
theorem dL_acts_363 : decode cL_acts 363 = .ok (.bipush 7, 2) := by decide +kernel
theorem dL_acts_365 : decode cL_acts 365 = .ok (.if_icmp .ge 69, 3) := by decide +kernel
theorem dL_acts_368 : decode cL_acts 368 = .ok (.aload 4, 2) := by decide +kernel
theorem dL_acts_370 : decode cL_acts 370 = .ok (.iload 9, 2) := by decide +kernel
theorem dL_acts_372 : decode cL_acts 372 = .ok (.iaload, 1) := by decide +kernel
theorem dL_acts_373 : decode cL_acts 373 = .ok (.istore 10, 2) := by decide +kernel
theorem dL_acts_375 : decode cL_acts 375 = .ok (.iload 8, 2) := by decide +kernel
theorem dL_acts_377 : decode cL_acts 377 = .ok (.sipush 150, 3) := by decide +kernel
theorem dL_acts_380 : decode cL_acts 380 = .ok (.idiv, 1) := by decide +kernel
theorem dL_acts_381 : decode cL_acts 381 = .ok (.sipush 401, 3) := by decide +kernel
theorem dL_acts_384 : decode cL_acts 384 = .ok (.irem, 1) := by decide +kernel
theorem dL_acts_385 : decode cL_acts 385 = .ok (.sipush 200, 3) := by decide +kernel
theorem dL_acts_388 : decode cL_acts 388 = .ok (.isub, 1) := by decide +kernel
theorem dL_acts_389 : decode cL_acts 389 = .ok (.istore 11, 2) := by decide +kernel
theorem dL_acts_391 : decode cL_acts 391 = .ok (.iload 9, 2) := by decide +kernel
theorem dL_acts_393 : decode cL_acts 393 = .ok (.istore 12, 2) := by decide +kernel
theorem dL_acts_395 : decode cL_acts 395 = .ok (.iload 12, 2) := by decide +kernel
theorem dL_acts_397 : decode cL_acts 397 = .ok (.bipush 48, 2) := by decide +kernel
theorem dL_acts_399 : decode cL_acts 399 = .ok (.if_icmp .ge 16, 3) := by decide +kernel
theorem dL_acts_402 : decode cL_acts 402 = .ok (.aload 4, 2) := by decide +kernel
theorem dL_acts_404 : decode cL_acts 404 = .ok (.iload 12, 2) := by decide +kernel
theorem dL_acts_406 : decode cL_acts 406 = .ok (.iload 11, 2) := by decide +kernel
theorem dL_acts_408 : decode cL_acts 408 = .ok (.iastore, 1) := by decide +kernel
theorem dL_acts_409 : decode cL_acts 409 = .ok (.iinc 12 1, 3) := by decide +kernel
theorem dL_acts_412 : decode cL_acts 412 = .ok (.goto (-17), 3) := by decide +kernel
theorem dL_acts_415 : decode cL_acts 415 = .ok (.aload_n 0, 1) := by decide +kernel
theorem dL_acts_416 : decode cL_acts 416 = .ok (.iload 9, 2) := by decide +kernel
theorem dL_acts_418 : decode cL_acts 418 = .ok (.iload 11, 2) := by decide +kernel
theorem dL_acts_420 : decode cL_acts 420 = .ok (.invokevirtual 101, 3) := by decide +kernel
theorem dL_acts_423 : decode cL_acts 423 = .ok (.iload 10, 2) := by decide +kernel
theorem dL_acts_425 : decode cL_acts 425 = .ok (.if_icmp .ne 7, 3) := by decide +kernel
theorem dL_acts_428 : decode cL_acts 428 = .ok (.iconst 1, 1) := by decide +kernel
theorem dL_acts_429 : decode cL_acts 429 = .ok (.goto 4, 3) := by decide +kernel
theorem dL_acts_432 : decode cL_acts 432 = .ok (.iconst 0, 1) := by decide +kernel
theorem dL_acts_433 : decode cL_acts 433 = .ok (.ireturn, 1) := by decide +kernel
theorem dL_acts_434 : decode cL_acts 434 = .ok (.iload 7, 2) := by decide +kernel
theorem dL_acts_436 : decode cL_acts 436 = .ok (.bipush 7, 2) := by decide +kernel
theorem dL_acts_438 : decode cL_acts 438 = .ok (.if_icmp .ne 64, 3) := by decide +kernel
theorem dL_acts_441 : decode cL_acts 441 = .ok (.aload 6, 2) := by decide +kernel
theorem dL_acts_443 : decode cL_acts 443 = .ok (.iconst 2, 1) := by decide +kernel
theorem dL_acts_444 : decode cL_acts 444 = .ok (.iaload, 1) := by decide +kernel
theorem dL_acts_445 : decode cL_acts 445 = .ok (.istore 10, 2) := by decide +kernel
theorem dL_acts_447 : decode cL_acts 447 = .ok (.aload 6, 2) := by decide +kernel
theorem dL_acts_449 : decode cL_acts 449 = .ok (.iconst 2, 1) := by decide +kernel
theorem dL_acts_450 : decode cL_acts 450 = .ok (.iload 8, 2) := by decide +kernel
theorem dL_acts_452 : decode cL_acts 452 = .ok (.iconst 3, 1) := by decide +kernel
theorem dL_acts_453 : decode cL_acts 453 = .ok (.irem, 1) := by decide +kernel
theorem dL_acts_454 : decode cL_acts 454 = .ok (.ifCond .ne 16, 3) := by decide +kernel
theorem dL_acts_457 : decode cL_acts 457 = .ok (.iload 8, 2) := by decide +kernel
theorem dL_acts_459 : decode cL_acts 459 = .ok (.iconst 3, 1) := by decide +kernel
theorem dL_acts_460 : decode cL_acts 460 = .ok (.idiv, 1) := by decide +kernel
theorem dL_acts_461 : decode cL_acts 461 = .ok (.ldc 104, 2) := by decide +kernel
theorem dL_acts_463 : decode cL_acts 463 = .ok (.irem, 1) := by decide +kernel
theorem dL_acts_464 : decode cL_acts 464 = .ok (.ldc 105, 2) := by decide +kernel
theorem dL_acts_466 : decode cL_acts 466 = .ok (.isub, 1) := by decide +kernel
theorem dL_acts_467 : decode cL_acts 467 = .ok (.goto 15, 3) := by decide +kernel
theorem dL_acts_470 : decode cL_acts 470 = .ok (.iload 8, 2) := by decide +kernel
theorem dL_acts_472 : decode cL_acts 472 = .ok (.iconst 3, 1) := by decide +kernel
theorem dL_acts_473 : decode cL_acts 473 = .ok (.idiv, 1) := by decide +kernel
theorem dL_acts_474 : decode cL_acts 474 = .ok (.sipush 4001, 3) := by decide +kernel
theorem dL_acts_477 : decode cL_acts 477 = .ok (.irem, 1) := by decide +kernel
theorem dL_acts_478 : decode cL_acts 478 = .ok (.sipush 2000, 3) := by decide +kernel
theorem dL_acts_481 : decode cL_acts 481 = .ok (.isub, 1) := by decide +kernel
theorem dL_acts_482 : decode cL_acts 482 = .ok (.iastore, 1) := by decide +kernel
theorem dL_acts_483 : decode cL_acts 483 = .ok (.aload_n 0, 1) := by decide +kernel
theorem dL_acts_484 : decode cL_acts 484 = .ok (.aload 6, 2) := by decide +kernel
theorem dL_acts_486 : decode cL_acts 486 = .ok (.iconst 2, 1) := by decide +kernel
theorem dL_acts_487 : decode cL_acts 487 = .ok (.iaload, 1) := by decide +kernel
theorem dL_acts_488 : decode cL_acts 488 = .ok (.invokevirtual 106, 3) := by decide +kernel
theorem dL_acts_491 : decode cL_acts 491 = .ok (.iload 10, 2) := by decide +kernel
theorem dL_acts_493 : decode cL_acts 493 = .ok (.if_icmp .ne 7, 3) := by decide +kernel
theorem dL_acts_496 : decode cL_acts 496 = .ok (.iconst 1, 1) := by decide +kernel
theorem dL_acts_497 : decode cL_acts 497 = .ok (.goto 4, 3) := by decide +kernel
theorem dL_acts_500 : decode cL_acts 500 = .ok (.iconst 0, 1) := by decide +kernel
theorem dL_acts_501 : decode cL_acts 501 = .ok (.ireturn, 1) := by decide +kernel
theorem dL_acts_502 : decode cL_acts 502 = .ok (.iload 7, 2) := by decide +kernel
theorem dL_acts_504 : decode cL_acts 504 = .ok (.bipush 10, 2) := by decide +kernel
theorem dL_acts_506 : decode cL_acts 506 = .ok (.if_icmp .ge 77, 3) := by decide +kernel
theorem dL_acts_509 : decode cL_acts 509 = .ok (.aload 5, 2) := by decide +kernel
theorem dL_acts_511 : decode cL_acts 511 = .ok (.iload 9, 2) := by decide +kernel
theorem dL_acts_513 : decode cL_acts 513 = .ok (.iaload, 1) := by decide +kernel
theorem dL_acts_514 : decode cL_acts 514 = .ok (.istore 10, 2) := by decide +kernel
theorem dL_acts_516 : decode cL_acts 516 = .ok (.aload 5, 2) := by decide +kernel
theorem dL_acts_518 : decode cL_acts 518 = .ok (.iload 9, 2) := by decide +kernel
theorem dL_acts_520 : decode cL_acts 520 = .ok (.iload 8, 2) := by decide +kernel
theorem dL_acts_522 : decode cL_acts 522 = .ok (.sipush 150, 3) := by decide +kernel
theorem dL_acts_525 : decode cL_acts 525 = .ok (.idiv, 1) := by decide +kernel
theorem dL_acts_526 : decode cL_acts 526 = .ok (.iconst 3, 1) := by decide +kernel
theorem dL_acts_527 : decode cL_acts 527 = .ok (.irem, 1) := by decide +kernel
theorem dL_acts_528 : decode cL_acts 528 = .ok (.ifCond .ne 18, 3) := by decide +kernel
theorem dL_acts_531 : decode cL_acts 531 = .ok (.iload 8, 2) := by decide +kernel
theorem dL_acts_533 : decode cL_acts 533 = .ok (.sipush 450, 3) := by decide +kernel
theorem dL_acts_536 : decode cL_acts 536 = .ok (.idiv, 1) := by decide +kernel
theorem dL_acts_537 : decode cL_acts 537 = .ok (.ldc 104, 2) := by decide +kernel
theorem dL_acts_539 : decode cL_acts 539 = .ok (.irem, 1) := by decide +kernel
theorem dL_acts_540 : decode cL_acts 540 = .ok (.ldc 105, 2) := by decide +kernel
theorem dL_acts_542 : decode cL_acts 542 = .ok (.isub, 1) := by decide +kernel
theorem dL_acts_543 : decode cL_acts 543 = .ok (.goto 17, 3) := by decide +kernel
theorem dL_acts_546 : decode cL_acts 546 = .ok (.iload 8, 2) := by decide +kernel
theorem dL_acts_548 : decode cL_acts 548 = .ok (.sipush 450, 3) := by decide +kernel
theorem dL_acts_551 : decode cL_acts 551 = .ok (.idiv, 1) := by decide +kernel
theorem dL_acts_552 : decode cL_acts 552 = .ok (.sipush 8001, 3) := by decide +kernel
theorem dL_acts_555 : decode cL_acts 555 = .ok (.irem, 1) := by decide +kernel
theorem dL_acts_556 : decode cL_acts 556 = .ok (.sipush 4000, 3) := by decide +kernel
theorem dL_acts_559 : decode cL_acts 559 = .ok (.isub, 1) := by decide +kernel
theorem dL_acts_560 : decode cL_acts 560 = .ok (.iastore, 1) := by decide +kernel
theorem dL_acts_561 : decode cL_acts 561 = .ok (.aload_n 0, 1) := by decide +kernel
theorem dL_acts_562 : decode cL_acts 562 = .ok (.iload 9, 2) := by decide +kernel
theorem dL_acts_564 : decode cL_acts 564 = .ok (.aload 5, 2) := by decide +kernel
theorem dL_acts_566 : decode cL_acts 566 = .ok (.iload 9, 2) := by decide +kernel
theorem dL_acts_568 : decode cL_acts 568 = .ok (.iaload, 1) := by decide +kernel
theorem dL_acts_569 : decode cL_acts 569 = .ok (.invokevirtual 109, 3) := by decide +kernel
theorem dL_acts_572 : decode cL_acts 572 = .ok (.iload 10, 2) := by decide +kernel
theorem dL_acts_574 : decode cL_acts 574 = .ok (.if_icmp .ne 7, 3) := by decide +kernel
theorem dL_acts_577 : decode cL_acts 577 = .ok (.iconst 1, 1) := by decide +kernel
theorem dL_acts_578 : decode cL_acts 578 = .ok (.goto 4, 3) := by decide +kernel
theorem dL_acts_581 : decode cL_acts 581 = .ok (.iconst 0, 1) := by decide +kernel
theorem dL_acts_582 : decode cL_acts 582 = .ok (.ireturn, 1) := by decide +kernel
theorem dL_acts_583 : decode cL_acts 583 = .ok (.sipush 300, 3) := by decide +kernel
theorem dL_acts_586 : decode cL_acts 586 = .ok (.aload_n 3, 1) := by decide +kernel
theorem dL_acts_587 : decode cL_acts 587 = .ok (.iload 9, 2) := by decide +kernel
theorem dL_acts_589 : decode cL_acts 589 = .ok (.iaload, 1) := by decide +kernel
theorem dL_acts_590 : decode cL_acts 590 = .ok (.iadd, 1) := by decide +kernel
theorem dL_acts_591 : decode cL_acts 591 = .ok (.aload 4, 2) := by decide +kernel
theorem dL_acts_593 : decode cL_acts 593 = .ok (.iload 9, 2) := by decide +kernel
theorem dL_acts_595 : decode cL_acts 595 = .ok (.iaload, 1) := by decide +kernel
theorem dL_acts_596 : decode cL_acts 596 = .ok (.iadd, 1) := by decide +kernel
theorem dL_acts_597 : decode cL_acts 597 = .ok (.istore 10, 2) := by decide +kernel
theorem dL_acts_599 : decode cL_acts 599 = .ok (.iload 7, 2) := by decide +kernel
theorem dL_acts_601 : decode cL_acts 601 = .ok (.bipush 10, 2) := by decide +kernel
theorem dL_acts_603 : decode cL_acts 603 = .ok (.if_icmp .ne 32, 3) := by decide +kernel
theorem dL_acts_606 : decode cL_acts 606 = .ok (.aload_n 0, 1) := by decide +kernel
theorem dL_acts_607 : decode cL_acts 607 = .ok (.iload 9, 2) := by decide +kernel
theorem dL_acts_609 : decode cL_acts 609 = .ok (.invokevirtual 112, 3) := by decide +kernel
theorem dL_acts_612 : decode cL_acts 612 = .ok (.aload_n 1, 1) := by decide +kernel
theorem dL_acts_613 : decode cL_acts 613 = .ok (.aload_n 2, 1) := by decide +kernel
theorem dL_acts_614 : decode cL_acts 614 = .ok (.aload 6, 2) := by decide +kernel
theorem dL_acts_616 : decode cL_acts 616 = .ok (.iload 10, 2) := by decide +kernel
theorem dL_acts_618 : decode cL_acts 618 = .ok (.aload 5, 2) := by decide +kernel
theorem dL_acts_620 : decode cL_acts 620 = .ok (.iload 9, 2) := by decide +kernel
theorem dL_acts_622 : decode cL_acts 622 = .ok (.iaload, 1) := by decide +kernel
theorem dL_acts_623 : decode cL_acts 623 = .ok (.invokestatic 52, 3) := by decide +kernel
theorem dL_acts_626 : decode cL_acts 626 = .ok (.if_icmp .ne 7, 3) := by decide +kernel
theorem dL_acts_629 : decode cL_acts 629 = .ok (.iconst 1, 1) := by decide +kernel
theorem dL_acts_630 : decode cL_acts 630 = .ok (.goto 4, 3) := by decide +kernel
theorem dL_acts_633 : decode cL_acts 633 = .ok (.iconst 0, 1) := by decide +kernel
theorem dL_acts_634 : decode cL_acts 634 = .ok (.ireturn, 1) := by decide +kernel
theorem dL_acts_635 : decode cL_acts 635 = .ok (.aload 6, 2) := by decide +kernel
theorem dL_acts_637 : decode cL_acts 637 = .ok (.iconst 1, 1) := by decide +kernel
theorem dL_acts_638 : decode cL_acts 638 = .ok (.iaload, 1) := by decide +kernel
theorem dL_acts_639 : decode cL_acts 639 = .ok (.ifCond .ne 5, 3) := by decide +kernel
theorem dL_acts_642 : decode cL_acts 642 = .ok (.iconst 1, 1) := by decide +kernel
theorem dL_acts_643 : decode cL_acts 643 = .ok (.ireturn, 1) := by decide +kernel
theorem dL_acts_644 : decode cL_acts 644 = .ok (.iload 8, 2) := by decide +kernel
theorem dL_acts_646 : decode cL_acts 646 = .ok (.sipush 150, 3) := by decide +kernel
theorem dL_acts_649 : decode cL_acts 649 = .ok (.idiv, 1) := by decide +kernel
theorem dL_acts_650 : decode cL_acts 650 = .ok (.aload 6, 2) := by decide +kernel
theorem dL_acts_652 : decode cL_acts 652 = .ok (.iconst 1, 1) := by decide +kernel
theorem dL_acts_653 : decode cL_acts 653 = .ok (.iaload, 1) := by decide +kernel
theorem dL_acts_654 : decode cL_acts 654 = .ok (.irem, 1) := by decide +kernel
theorem dL_acts_655 : decode cL_acts 655 = .ok (.istore 11, 2) := by decide +kernel
theorem dL_acts_657 : decode cL_acts 657 = .ok (.iload 7, 2) := by decide +kernel
theorem dL_acts_659 : decode cL_acts 659 = .ok (.bipush 11, 2) := by decide +kernel
theorem dL_acts_661 : decode cL_acts 661 = .ok (.if_icmp .ne 55, 3) := by decide +kernel
theorem dL_acts_664 : decode cL_acts 664 = .ok (.aload_n 2, 1) := by decide +kernel
theorem dL_acts_665 : decode cL_acts 665 = .ok (.bipush 6, 2) := by decide +kernel
theorem dL_acts_667 : decode cL_acts 667 = .ok (.iload 11, 2) := by decide +kernel
theorem dL_acts_669 : decode cL_acts 669 = .ok (.imul, 1) := by decide +kernel
theorem dL_acts_670 : decode cL_acts 670 = .ok (.iconst 5, 1) := by decide +kernel
theorem dL_acts_671 : decode cL_acts 671 = .ok (.iadd, 1) := by decide +kernel
theorem dL_acts_672 : decode cL_acts 672 = .ok (.iconst 1, 1) := by decide +kernel
theorem dL_acts_673 : decode cL_acts 673 = .ok (.aload_n 2, 1) := by decide +kernel
theorem dL_acts_674 : decode cL_acts 674 = .ok (.bipush 6, 2) := by decide +kernel
theorem dL_acts_676 : decode cL_acts 676 = .ok (.iload 11, 2) := by decide +kernel
theorem dL_acts_678 : decode cL_acts 678 = .ok (.imul, 1) := by decide +kernel
theorem dL_acts_679 : decode cL_acts 679 = .ok (.iconst 5, 1) := by decide +kernel
theorem dL_acts_680 : decode cL_acts 680 = .ok (.iadd, 1) := by decide +kernel
theorem dL_acts_681 : decode cL_acts 681 = .ok (.iaload, 1) := by decide +kernel
theorem dL_acts_682 : decode cL_acts 682 = .ok (.isub, 1) := by decide +kernel
theorem dL_acts_683 : decode cL_acts 683 = .ok (.iastore, 1) := by decide +kernel
theorem dL_acts_684 : decode cL_acts 684 = .ok (.aload_n 0, 1) := by decide +kernel
theorem dL_acts_685 : decode cL_acts 685 = .ok (.iload 11, 2) := by decide +kernel
theorem dL_acts_687 : decode cL_acts 687 = .ok (.invokevirtual 115, 3) := by decide +kernel
theorem dL_acts_690 : decode cL_acts 690 = .ok (.aload_n 2, 1) := by decide +kernel
theorem dL_acts_691 : decode cL_acts 691 = .ok (.bipush 6, 2) := by decide +kernel
theorem dL_acts_693 : decode cL_acts 693 = .ok (.iload 11, 2) := by decide +kernel
theorem dL_acts_695 : decode cL_acts 695 = .ok (.imul, 1) := by decide +kernel
theorem dL_acts_696 : decode cL_acts 696 = .ok (.iconst 5, 1) := by decide +kernel
theorem dL_acts_697 : decode cL_acts 697 = .ok (.iadd, 1) := by decide +kernel
theorem dL_acts_698 : decode cL_acts 698 = .ok (.iaload, 1) := by decide +kernel
theorem dL_acts_699 : decode cL_acts 699 = .ok (.ifCond .ne 7, 3) := by decide +kernel
theorem dL_acts_702 : decode cL_acts 702 = .ok (.iconst 1, 1) := by decide +kernel
theorem dL_acts_703 : decode cL_acts 703 = .ok (.goto 4, 3) := by decide +kernel
theorem dL_acts_706 : decode cL_acts 706 = .ok (.iconst 0, 1) := by decide +kernel
theorem dL_acts_707 : decode cL_acts 707 = .ok (.if_icmp .ne 7, 3) := by decide +kernel
theorem dL_acts_710 : decode cL_acts 710 = .ok (.iconst 1, 1) := by decide +kernel
theorem dL_acts_711 : decode cL_acts 711 = .ok (.goto 4, 3) := by decide +kernel
theorem dL_acts_714 : decode cL_acts 714 = .ok (.iconst 0, 1) := by decide +kernel
theorem dL_acts_715 : decode cL_acts 715 = .ok (.ireturn, 1) := by decide +kernel
theorem dL_acts_716 : decode cL_acts 716 = .ok (.iload 8, 2) := by decide +kernel
theorem dL_acts_718 : decode cL_acts 718 = .ok (.sipush 900, 3) := by decide +kernel
theorem dL_acts_721 : decode cL_acts 721 = .ok (.idiv, 1) := by decide +kernel
theorem dL_acts_722 : decode cL_acts 722 = .ok (.sipush 201, 3) := by decide +kernel
theorem dL_acts_725 : decode cL_acts 725 = .ok (.irem, 1) := by decide +kernel
theorem dL_acts_726 : decode cL_acts 726 = .ok (.bipush 100, 2) := by decide +kernel
theorem dL_acts_728 : decode cL_acts 728 = .ok (.isub, 1) := by decide +kernel
theorem dL_acts_729 : decode cL_acts 729 = .ok (.istore 12, 2) := by decide +kernel
theorem dL_acts_731 : decode cL_acts 731 = .ok (.aload_n 1, 1) := by decide +kernel
theorem dL_acts_732 : decode cL_acts 732 = .ok (.aload_n 2, 1) := by decide +kernel
theorem dL_acts_733 : decode cL_acts 733 = .ok (.iload 11, 2) := by decide +kernel
theorem dL_acts_735 : decode cL_acts 735 = .ok (.iload 10, 2) := by decide +kernel
theorem dL_acts_737 : decode cL_acts 737 = .ok (.aload_n 1, 1) := by decide +kernel
theorem dL_acts_738 : decode cL_acts 738 = .ok (.aload_n 2, 1) := by decide +kernel
theorem dL_acts_739 : decode cL_acts 739 = .ok (.aload 6, 2) := by decide +kernel
theorem dL_acts_741 : decode cL_acts 741 = .ok (.iload 10, 2) := by decide +kernel
theorem dL_acts_743 : decode cL_acts 743 = .ok (.aload 5, 2) := by decide +kernel
theorem dL_acts_745 : decode cL_acts 745 = .ok (.iload 9, 2) := by decide +kernel
theorem dL_acts_747 : decode cL_acts 747 = .ok (.iaload, 1) := by decide +kernel
theorem dL_acts_748 : decode cL_acts 748 = .ok (.invokestatic 34, 3) := by decide +kernel
theorem dL_acts_751 : decode cL_acts 751 = .ok (.invokestatic 23, 3) := by decide +kernel
theorem dL_acts_754 : decode cL_acts 754 = .ok (.iload 12, 2) := by decide +kernel
theorem dL_acts_756 : decode cL_acts 756 = .ok (.iadd, 1) := by decide +kernel
theorem dL_acts_757 : decode cL_acts 757 = .ok (.istore 13, 2) := by decide +kernel
theorem dL_acts_759 : decode cL_acts 759 = .ok (.aload_n 2, 1) := by decide +kernel
theorem dL_acts_760 : decode cL_acts 760 = .ok (.bipush 6, 2) := by decide +kernel
theorem dL_acts_762 : decode cL_acts 762 = .ok (.iload 11, 2) := by decide +kernel
theorem dL_acts_764 : decode cL_acts 764 = .ok (.imul, 1) := by decide +kernel
theorem dL_acts_765 : decode cL_acts 765 = .ok (.iconst 5, 1) := by decide +kernel
theorem dL_acts_766 : decode cL_acts 766 = .ok (.iadd, 1) := by decide +kernel
theorem dL_acts_767 : decode cL_acts 767 = .ok (.iaload, 1) := by decide +kernel
theorem dL_acts_768 : decode cL_acts 768 = .ok (.ifCond .ne 7, 3) := by decide +kernel
theorem dL_acts_771 : decode cL_acts 771 = .ok (.iconst 1, 1) := by decide +kernel
theorem dL_acts_772 : decode cL_acts 772 = .ok (.goto 4, 3) := by decide +kernel
theorem dL_acts_775 : decode cL_acts 775 = .ok (.iconst 0, 1) := by decide +kernel
theorem dL_acts_776 : decode cL_acts 776 = .ok (.istore 14, 2) := by decide +kernel
theorem dL_acts_778 : decode cL_acts 778 = .ok (.aload_n 2, 1) := by decide +kernel
theorem dL_acts_779 : decode cL_acts 779 = .ok (.bipush 6, 2) := by decide +kernel
theorem dL_acts_781 : decode cL_acts 781 = .ok (.iload 11, 2) := by decide +kernel
theorem dL_acts_783 : decode cL_acts 783 = .ok (.imul, 1) := by decide +kernel
theorem dL_acts_784 : decode cL_acts 784 = .ok (.iconst 4, 1) := by decide +kernel
theorem dL_acts_785 : decode cL_acts 785 = .ok (.iadd, 1) := by decide +kernel
theorem dL_acts_786 : decode cL_acts 786 = .ok (.iload 14, 2) := by decide +kernel
theorem dL_acts_788 : decode cL_acts 788 = .ok (.ifCond .ne 15, 3) := by decide +kernel
theorem dL_acts_791 : decode cL_acts 791 = .ok (.aload_n 2, 1) := by decide +kernel
theorem dL_acts_792 : decode cL_acts 792 = .ok (.bipush 6, 2) := by decide +kernel
theorem dL_acts_794 : decode cL_acts 794 = .ok (.iload 11, 2) := by decide +kernel
theorem dL_acts_796 : decode cL_acts 796 = .ok (.imul, 1) := by decide +kernel
theorem dL_acts_797 : decode cL_acts 797 = .ok (.iconst 4, 1) := by decide +kernel
theorem dL_acts_798 : decode cL_acts 798 = .ok (.iadd, 1) := by decide +kernel
theorem dL_acts_799 : decode cL_acts 799 = .ok (.iaload, 1) := by decide +kernel
theorem dL_acts_800 : decode cL_acts 800 = .ok (.goto 14, 3) := by decide +kernel
theorem dL_acts_803 : decode cL_acts 803 = .ok (.iload 13, 2) := by decide +kernel
theorem dL_acts_805 : decode cL_acts 805 = .ok (.ifCond .ge 7, 3) := by decide +kernel
theorem dL_acts_808 : decode cL_acts 808 = .ok (.iconst 0, 1) := by decide +kernel
theorem dL_acts_809 : decode cL_acts 809 = .ok (.goto 5, 3) := by decide +kernel
theorem dL_acts_812 : decode cL_acts 812 = .ok (.iload 13, 2) := by decide +kernel
theorem dL_acts_814 : decode cL_acts 814 = .ok (.iastore, 1) := by decide +kernel
theorem dL_acts_815 : decode cL_acts 815 = .ok (.aload_n 0, 1) := by decide +kernel
theorem dL_acts_816 : decode cL_acts 816 = .ok (.iload 11, 2) := by decide +kernel
theorem dL_acts_818 : decode cL_acts 818 = .ok (.iload 9, 2) := by decide +kernel
theorem dL_acts_820 : decode cL_acts 820 = .ok (.iload 12, 2) := by decide +kernel
theorem dL_acts_822 : decode cL_acts 822 = .ok (.invokestatic 118, 3) := by decide +kernel
theorem dL_acts_825 : decode cL_acts 825 = .ok (.iload 14, 2) := by decide +kernel
theorem dL_acts_827 : decode cL_acts 827 = .ok (.ifCond .eq 15, 3) := by decide +kernel
theorem dL_acts_830 : decode cL_acts 830 = .ok (.aload_n 2, 1) := by decide +kernel
theorem dL_acts_831 : decode cL_acts 831 = .ok (.bipush 6, 2) := by decide +kernel
theorem dL_acts_833 : decode cL_acts 833 = .ok (.iload 11, 2) := by decide +kernel
theorem dL_acts_835 : decode cL_acts 835 = .ok (.imul, 1) := by decide +kernel
theorem dL_acts_836 : decode cL_acts 836 = .ok (.iconst 4, 1) := by decide +kernel
theorem dL_acts_837 : decode cL_acts 837 = .ok (.iadd, 1) := by decide +kernel
theorem dL_acts_838 : decode cL_acts 838 = .ok (.iaload, 1) := by decide +kernel
theorem dL_acts_839 : decode cL_acts 839 = .ok (.goto 5, 3) := by decide +kernel
theorem dL_acts_842 : decode cL_acts 842 = .ok (.bipush (-5), 2) := by decide +kernel
theorem dL_acts_844 : decode cL_acts 844 = .ok (.if_icmp .ne 7, 3) := by decide +kernel
theorem dL_acts_847 : decode cL_acts 847 = .ok (.iconst 1, 1) := by decide +kernel
theorem dL_acts_848 : decode cL_acts 848 = .ok (.goto 4, 3) := by decide +kernel
theorem dL_acts_851 : decode cL_acts 851 = .ok (.iconst 0, 1) := by decide +kernel
theorem dL_acts_852 : decode cL_acts 852 = .ok (.ireturn, 1) := by decide +kernel
set_option maxRecDepth 20000 in
theorem ggL_holds_X0_init : GoodIn wsL_holds wsX0_init := goodIn_r _ [8, 9, 10, 11, 4, 12, 13, 14, 15, 16, 17, 18, 19, 20, 21, 22, 23, 24, 25, 26, 27, 249, 250, 251, 252, 253, 254, 255, 256, 257, 258, 259, 260, 261, 262, 263] (by decide +kernel) (by decide +kernel)
set_option maxRecDepth 20000 in
theorem gL_holds_X0_init : GoodIn wsL_holds (wsX0_init) := ggL_holds_X0_init
set_option maxRecDepth 20000 in
theorem ggL_holds_L_from : GoodIn wsL_holds wsL_from := goodIn_r _ [31, 32, 33] (by decide +kernel) (by decide +kernel)
set_option maxRecDepth 20000 in
theorem gL_holds_L_from : GoodIn wsL_holds (va_wsS RL 123 yL_from wsL_from) := goodIn_app (goodIn_of _ (by decide +kernel)) ggL_holds_L_from
set_option maxRecDepth 20000 in
theorem ggL_holds_L_acts : GoodIn wsL_holds wsL_acts := goodIn_ca (goodIn_ca (goodIn_ca (goodIn_r _ [36, 37, 38, 39, 40, 41, 42, 43, 3, 44, 45, 46, 47, 16, 17, 18, 48, 49, 50, 51, 52, 53, 54, 30, 55, 56, 57, 58, 59, 60, 61, 62, 63, 64, 65, 66, 67, 19, 20, 21, 22, 23, 24, 26, 68, 69, 70, 71, 72, 73, 74, 75, 76, 77, 78, 79, 80, 12, 81, 82, 83, 84, 85, 86, 87, 13, 88, 89, 90, 91, 92, 15, 93, 94, 95, 96, 14, 97, 98, 99, 100, 101, 102, 103, 104, 105, 106, 107, 108, 109, 110, 111, 112, 113, 114, 115, 116, 117, 118, 119, 120, 121, 122, 123, 124, 125, 126, 127, 128, 129, 130, 131, 132, 133, 134, 135, 136, 137, 138, 139, 4, 140, 141, 142, 143, 144, 145, 146, 147, 148, 149, 150, 151, 152, 153, 154, 155, 156, 157, 158, 159, 160, 161, 162, 163, 164, 249, 250, 251, 252, 253, 254, 255, 256, 257, 258, 259, 260, 261, 262, 263] rfl (by decide +kernel)) (goodIn_sub (fun _ h => List.mem_cons_of_mem _ (List.mem_append_left _ (List.mem_append_left _ (List.mem_append_right _ h)))) (by decide +kernel))) (goodIn_sub (fun _ h => List.mem_cons_of_mem _ (List.mem_append_left _ (List.mem_append_right _ h))) (by decide +kernel))) (goodIn_sub (fun _ h => List.mem_cons_of_mem _ (List.mem_append_right _ h)) (by decide +kernel))
set_option maxRecDepth 20000 in
theorem gL_holds_L_acts : GoodIn wsL_holds (va_wsS RL 127 yL_acts wsL_acts) := goodIn_app (goodIn_of _ (by decide +kernel)) ggL_holds_L_acts
set_option maxRecDepth 20000 in
theorem ggL_holds_L_isTold : GoodIn wsL_holds wsL_isTold := goodIn_ca (goodIn_ca (goodIn_r _ [167, 140, 141, 30, 142, 143, 144, 145, 53, 54, 55, 56, 57, 58, 59, 60, 61, 62, 63, 146, 147, 148, 168, 169, 170, 3, 171, 81, 82, 83, 72, 73, 105, 106, 107, 108, 109, 110, 111, 112, 113, 114, 115, 116, 15, 14, 19, 117, 118, 119, 120, 21, 121, 122, 123, 124, 12, 13, 74, 75, 76, 125, 126, 127, 128, 26, 22, 24, 129, 130, 131, 132, 172, 173, 174, 175, 176, 177, 178, 179, 180, 181, 182, 183, 184, 185, 186, 187, 188, 189, 190, 191, 192, 193, 194, 23, 133, 134, 135, 136, 195, 196, 197, 198, 16, 18, 199, 200, 201, 202, 20, 203, 204, 205, 206, 207, 208, 209, 210, 211, 212, 213, 214, 48, 49, 50, 51, 52, 215, 216, 217, 218, 153, 154, 155, 156, 219, 220, 221, 222, 223, 224, 225, 226, 68, 69, 70, 71, 249, 250, 251, 252, 253, 254, 255, 256, 257, 258, 259, 260, 261, 262, 263] (by decide +kernel) (by decide +kernel)) (goodIn_sub (fun _ h => List.mem_cons_of_mem _ (List.mem_append_right _ h)) (by decide +kernel))) (goodIn_sub (fun _ h => List.mem_cons_of_mem _ (List.mem_append_left _ (List.mem_append_right _ h))) (by decide +kernel))
set_option maxRecDepth 20000 in
theorem gL_holds_L_isTold : GoodIn wsL_holds (va_wsS RL 131 yL_isTold wsL_isTold) := goodIn_app (goodIn_of _ (by decide +kernel)) ggL_holds_L_isTold
set_option maxRecDepth 20000 in
theorem ggL_holds_L_arePlans : GoodIn wsL_holds wsL_arePlans := goodIn_ca (goodIn_ca (goodIn_r _ [229, 203, 204, 30, 205, 206, 207, 140, 141, 142, 143, 144, 145, 53, 54, 55, 56, 57, 58, 59, 60, 61, 62, 63, 146, 147, 148, 180, 181, 182, 208, 209, 210, 230, 231, 232, 3, 233, 51, 52, 24, 27, 234, 235, 236, 237, 81, 82, 83, 72, 73, 238, 239, 240, 241, 187, 188, 189, 190, 105, 106, 107, 108, 109, 110, 111, 112, 113, 114, 115, 116, 15, 14, 19, 117, 118, 119, 120, 21, 121, 122, 123, 124, 12, 13, 74, 75, 76, 125, 126, 127, 128, 26, 22, 129, 130, 131, 132, 176, 177, 178, 179, 191, 192, 193, 194, 23, 133, 134, 135, 136, 195, 196, 197, 198, 16, 18, 199, 200, 201, 202, 20, 101, 102, 103, 104, 242, 243, 244, 4, 137, 138, 139, 245, 246, 247, 248, 249, 250, 251, 252, 253, 254, 255, 256, 257, 258, 259, 260, 261, 262, 263] (by decide +kernel) (by decide +kernel)) (goodIn_sub (fun _ h => List.mem_cons_of_mem _ (List.mem_append_left _ (List.mem_append_right _ h))) (by decide +kernel))) (goodIn_sub (fun _ h => List.mem_cons_of_mem _ (List.mem_append_right _ h)) (by decide +kernel))
set_option maxRecDepth 20000 in
theorem gL_holds_L_arePlans : GoodIn wsL_holds (va_wsS RL 134 yL_arePlans wsL_arePlans) := goodIn_app (goodIn_of _ (by decide +kernel)) ggL_holds_L_arePlans
theorem dL_holds_0 : decode cL_holds 0 = .ok (.new 56, 3) := by decide +kernel
theorem dL_holds_3 : decode cL_holds 3 = .ok (.dup, 1) := by decide +kernel
theorem dL_holds_4 : decode cL_holds 4 = .ok (.invokespecial 121, 3) := by decide +kernel
theorem dL_holds_7 : decode cL_holds 7 = .ok (.astore_n 1, 1) := by decide +kernel
theorem dL_holds_8 : decode cL_holds 8 = .ok (.bipush 8, 2) := by decide +kernel
theorem dL_holds_10 : decode cL_holds 10 = .ok (.newarray .int, 2) := by decide +kernel
theorem dL_holds_12 : decode cL_holds 12 = .ok (.astore_n 2, 1) := by decide +kernel
theorem dL_holds_13 : decode cL_holds 13 = .ok (.bipush 36, 2) := by decide +kernel
theorem dL_holds_15 : decode cL_holds 15 = .ok (.newarray .int, 2) := by decide +kernel
theorem dL_holds_17 : decode cL_holds 17 = .ok (.astore_n 3, 1) := by decide +kernel
theorem dL_holds_18 : decode cL_holds 18 = .ok (.bipush 48, 2) := by decide +kernel
theorem dL_holds_20 : decode cL_holds 20 = .ok (.newarray .int, 2) := by decide +kernel
theorem dL_holds_22 : decode cL_holds 22 = .ok (.astore 4, 2) := by decide +kernel
theorem dL_holds_24 : decode cL_holds 24 = .ok (.bipush 48, 2) := by decide +kernel
theorem dL_holds_26 : decode cL_holds 26 = .ok (.newarray .int, 2) := by decide +kernel
theorem dL_holds_28 : decode cL_holds 28 = .ok (.astore 5, 2) := by decide +kernel
theorem dL_holds_30 : decode cL_holds 30 = .ok (.bipush 48, 2) := by decide +kernel
theorem dL_holds_32 : decode cL_holds 32 = .ok (.newarray .int, 2) := by decide +kernel
theorem dL_holds_34 : decode cL_holds 34 = .ok (.astore 6, 2) := by decide +kernel
theorem dL_holds_36 : decode cL_holds 36 = .ok (.iconst 3, 1) := by decide +kernel
theorem dL_holds_37 : decode cL_holds 37 = .ok (.newarray .int, 2) := by decide +kernel
theorem dL_holds_39 : decode cL_holds 39 = .ok (.astore 7, 2) := by decide +kernel
theorem dL_holds_41 : decode cL_holds 41 = .ok (.iconst 1, 1) := by decide +kernel
theorem dL_holds_42 : decode cL_holds 42 = .ok (.istore 8, 2) := by decide +kernel
theorem dL_holds_44 : decode cL_holds 44 = .ok (.iconst 0, 1) := by decide +kernel
theorem dL_holds_45 : decode cL_holds 45 = .ok (.istore 9, 2) := by decide +kernel
theorem dL_holds_47 : decode cL_holds 47 = .ok (.iload 9, 2) := by decide +kernel
theorem dL_holds_49 : decode cL_holds 49 = .ok (.bipush 70, 2) := by decide +kernel
theorem dL_holds_51 : decode cL_holds 51 = .ok (.if_icmp .ge 165, 3) := by decide +kernel
theorem dL_holds_54 : decode cL_holds 54 = .ok (.iload 8, 2) := by decide +kernel
theorem dL_holds_56 : decode cL_holds 56 = .ok (.ifCond .eq 160, 3) := by decide +kernel
theorem dL_holds_59 : decode cL_holds 59 = .ok (.aload_n 0, 1) := by decide +kernel
theorem dL_holds_60 : decode cL_holds 60 = .ok (.iconst 2, 1) := by decide +kernel
theorem dL_holds_61 : decode cL_holds 61 = .ok (.iload 9, 2) := by decide +kernel
theorem dL_holds_63 : decode cL_holds 63 = .ok (.imul, 1) := by decide +kernel
theorem dL_holds_64 : decode cL_holds 64 = .ok (.iconst 1, 1) := by decide +kernel
theorem dL_holds_65 : decode cL_holds 65 = .ok (.iadd, 1) := by decide +kernel
theorem dL_holds_66 : decode cL_holds 66 = .ok (.ldc 122, 2) := by decide +kernel
theorem dL_holds_68 : decode cL_holds 68 = .ok (.invokestatic 123, 3) := by decide +kernel
theorem dL_holds_71 : decode cL_holds 71 = .ok (.istore 10, 2) := by decide +kernel
theorem dL_holds_73 : decode cL_holds 73 = .ok (.aload_n 1, 1) := by decide +kernel
theorem dL_holds_74 : decode cL_holds 74 = .ok (.aload_n 2, 1) := by decide +kernel
theorem dL_holds_75 : decode cL_holds 75 = .ok (.aload_n 3, 1) := by decide +kernel
theorem dL_holds_76 : decode cL_holds 76 = .ok (.aload 4, 2) := by decide +kernel
theorem dL_holds_78 : decode cL_holds 78 = .ok (.aload 5, 2) := by decide +kernel
theorem dL_holds_80 : decode cL_holds 80 = .ok (.aload 6, 2) := by decide +kernel
theorem dL_holds_82 : decode cL_holds 82 = .ok (.aload 7, 2) := by decide +kernel
theorem dL_holds_84 : decode cL_holds 84 = .ok (.iload 9, 2) := by decide +kernel
theorem dL_holds_86 : decode cL_holds 86 = .ok (.iconst 2, 1) := by decide +kernel
theorem dL_holds_87 : decode cL_holds 87 = .ok (.if_icmp .ge 7, 3) := by decide +kernel
theorem dL_holds_90 : decode cL_holds 90 = .ok (.iconst 0, 1) := by decide +kernel
theorem dL_holds_91 : decode cL_holds 91 = .ok (.goto 23, 3) := by decide +kernel
theorem dL_holds_94 : decode cL_holds 94 = .ok (.iload 9, 2) := by decide +kernel
theorem dL_holds_96 : decode cL_holds 96 = .ok (.iconst 5, 1) := by decide +kernel
theorem dL_holds_97 : decode cL_holds 97 = .ok (.if_icmp .ge 7, 3) := by decide +kernel
theorem dL_holds_100 : decode cL_holds 100 = .ok (.iconst 1, 1) := by decide +kernel
theorem dL_holds_101 : decode cL_holds 101 = .ok (.goto 13, 3) := by decide +kernel
theorem dL_holds_104 : decode cL_holds 104 = .ok (.aload_n 0, 1) := by decide +kernel
theorem dL_holds_105 : decode cL_holds 105 = .ok (.iconst 2, 1) := by decide +kernel
theorem dL_holds_106 : decode cL_holds 106 = .ok (.iload 9, 2) := by decide +kernel
theorem dL_holds_108 : decode cL_holds 108 = .ok (.imul, 1) := by decide +kernel
theorem dL_holds_109 : decode cL_holds 109 = .ok (.bipush 14, 2) := by decide +kernel
theorem dL_holds_111 : decode cL_holds 111 = .ok (.invokestatic 123, 3) := by decide +kernel
theorem dL_holds_114 : decode cL_holds 114 = .ok (.iload 10, 2) := by decide +kernel
theorem dL_holds_116 : decode cL_holds 116 = .ok (.invokestatic 127, 3) := by decide +kernel
theorem dL_holds_119 : decode cL_holds 119 = .ok (.ifCond .eq 88, 3) := by decide +kernel
theorem dL_holds_122 : decode cL_holds 122 = .ok (.iload 9, 2) := by decide +kernel
theorem dL_holds_124 : decode cL_holds 124 = .ok (.iconst 3, 1) := by decide +kernel
theorem dL_holds_125 : decode cL_holds 125 = .ok (.irem, 1) := by decide +kernel
theorem dL_holds_126 : decode cL_holds 126 = .ok (.iconst 2, 1) := by decide +kernel
theorem dL_holds_127 : decode cL_holds 127 = .ok (.if_icmp .lt 47, 3) := by decide +kernel
theorem dL_holds_130 : decode cL_holds 130 = .ok (.aload_n 1, 1) := by decide +kernel
theorem dL_holds_131 : decode cL_holds 131 = .ok (.aload_n 2, 1) := by decide +kernel
theorem dL_holds_132 : decode cL_holds 132 = .ok (.aload_n 3, 1) := by decide +kernel
theorem dL_holds_133 : decode cL_holds 133 = .ok (.aload 4, 2) := by decide +kernel
theorem dL_holds_135 : decode cL_holds 135 = .ok (.aload 5, 2) := by decide +kernel
theorem dL_holds_137 : decode cL_holds 137 = .ok (.aload 6, 2) := by decide +kernel
theorem dL_holds_139 : decode cL_holds 139 = .ok (.aload 7, 2) := by decide +kernel
theorem dL_holds_141 : decode cL_holds 141 = .ok (.iload 10, 2) := by decide +kernel
theorem dL_holds_143 : decode cL_holds 143 = .ok (.iconst 3, 1) := by decide +kernel
theorem dL_holds_144 : decode cL_holds 144 = .ok (.irem, 1) := by decide +kernel
theorem dL_holds_145 : decode cL_holds 145 = .ok (.ifCond .ne 13, 3) := by decide +kernel
theorem dL_holds_148 : decode cL_holds 148 = .ok (.iload 10, 2) := by decide +kernel
theorem dL_holds_150 : decode cL_holds 150 = .ok (.iconst 3, 1) := by decide +kernel
theorem dL_holds_151 : decode cL_holds 151 = .ok (.idiv, 1) := by decide +kernel
theorem dL_holds_152 : decode cL_holds 152 = .ok (.bipush 48, 2) := by decide +kernel
theorem dL_holds_154 : decode cL_holds 154 = .ok (.irem, 1) := by decide +kernel
theorem dL_holds_155 : decode cL_holds 155 = .ok (.goto 9, 3) := by decide +kernel
theorem dL_holds_158 : decode cL_holds 158 = .ok (.iload 10, 2) := by decide +kernel
theorem dL_holds_160 : decode cL_holds 160 = .ok (.iconst 3, 1) := by decide +kernel
theorem dL_holds_161 : decode cL_holds 161 = .ok (.idiv, 1) := by decide +kernel
theorem dL_holds_162 : decode cL_holds 162 = .ok (.iconst 4, 1) := by decide +kernel
theorem dL_holds_163 : decode cL_holds 163 = .ok (.irem, 1) := by decide +kernel
theorem dL_holds_164 : decode cL_holds 164 = .ok (.iload 10, 2) := by decide +kernel
theorem dL_holds_166 : decode cL_holds 166 = .ok (.iconst 5, 1) := by decide +kernel
theorem dL_holds_167 : decode cL_holds 167 = .ok (.idiv, 1) := by decide +kernel
theorem dL_holds_168 : decode cL_holds 168 = .ok (.invokestatic 131, 3) := by decide +kernel
theorem dL_holds_171 : decode cL_holds 171 = .ok (.ifCond .eq 36, 3) := by decide +kernel
theorem dL_holds_174 : decode cL_holds 174 = .ok (.iload 9, 2) := by decide +kernel
theorem dL_holds_176 : decode cL_holds 176 = .ok (.bipush 14, 2) := by decide +kernel
theorem dL_holds_178 : decode cL_holds 178 = .ok (.irem, 1) := by decide +kernel
theorem dL_holds_179 : decode cL_holds 179 = .ok (.bipush 13, 2) := by decide +kernel
theorem dL_holds_181 : decode cL_holds 181 = .ok (.if_icmp .lt 22, 3) := by decide +kernel
theorem dL_holds_184 : decode cL_holds 184 = .ok (.aload_n 1, 1) := by decide +kernel
theorem dL_holds_185 : decode cL_holds 185 = .ok (.aload_n 2, 1) := by decide +kernel
theorem dL_holds_186 : decode cL_holds 186 = .ok (.aload_n 3, 1) := by decide +kernel
theorem dL_holds_187 : decode cL_holds 187 = .ok (.aload 4, 2) := by decide +kernel
theorem dL_holds_189 : decode cL_holds 189 = .ok (.aload 5, 2) := by decide +kernel
theorem dL_holds_191 : decode cL_holds 191 = .ok (.aload 6, 2) := by decide +kernel
theorem dL_holds_193 : decode cL_holds 193 = .ok (.aload 7, 2) := by decide +kernel
theorem dL_holds_195 : decode cL_holds 195 = .ok (.iload 10, 2) := by decide +kernel
theorem dL_holds_197 : decode cL_holds 197 = .ok (.invokestatic 134, 3) := by decide +kernel
theorem dL_holds_200 : decode cL_holds 200 = .ok (.ifCond .eq 7, 3) := by decide +kernel
theorem dL_holds_203 : decode cL_holds 203 = .ok (.iconst 1, 1) := by decide +kernel
theorem dL_holds_204 : decode cL_holds 204 = .ok (.goto 4, 3) := by decide +kernel
theorem dL_holds_207 : decode cL_holds 207 = .ok (.iconst 0, 1) := by decide +kernel
theorem dL_holds_208 : decode cL_holds 208 = .ok (.istore 8, 2) := by decide +kernel
theorem dL_holds_210 : decode cL_holds 210 = .ok (.iinc 9 1, 3) := by decide +kernel
theorem dL_holds_213 : decode cL_holds 213 = .ok (.goto (-166), 3) := by decide +kernel
theorem dL_holds_216 : decode cL_holds 216 = .ok (.iload 8, 2) := by decide +kernel
theorem dL_holds_218 : decode cL_holds 218 = .ok (.ireturn, 1) := by decide +kernel
set_option maxRecDepth 20000 in
theorem ggL_isHeld_L_holds : GoodIn wsL_isHeld wsL_holds := goodIn_ca (goodIn_ca (goodIn_ca (goodIn_r _ [7, 8, 9, 10, 11, 12, 13, 14, 15, 16, 17, 18, 19, 20, 21, 22, 23, 24, 25, 26, 27, 28, 29, 30, 31, 32, 33, 34, 35, 36, 6, 37, 38, 39, 40, 41, 42, 43, 44, 45, 46, 47, 48, 49, 50, 51, 52, 53, 54, 55, 56, 57, 58, 59, 60, 61, 62, 63, 64, 65, 66, 67, 68, 69, 70, 71, 72, 73, 74, 75, 76, 77, 78, 79, 80, 81, 82, 83, 84, 85, 86, 87, 88, 89, 90, 91, 92, 93, 94, 95, 96, 97, 98, 99, 100, 101, 102, 103, 104, 105, 106, 107, 108, 109, 110, 111, 112, 113, 114, 115, 116, 117, 118, 119, 120, 121, 122, 123, 124, 125, 126, 127, 128, 129, 130, 131, 132, 133, 134, 135, 136, 137, 138, 139, 140, 141, 142, 143, 144, 145, 146, 147, 148, 149, 150, 151, 152, 153, 154, 155, 156, 157, 158, 159, 160, 161, 162, 163, 164, 165, 3, 166, 167, 168, 169, 170, 171, 172, 173, 174, 175, 176, 177, 178, 179, 180, 181, 182, 183, 184, 185, 186, 187, 188, 189, 190, 191, 192, 193, 194, 195, 196, 197, 198, 199, 200, 201, 202, 203, 204, 205, 206, 207, 208, 209, 210, 211, 212, 213, 214, 215, 216, 217, 218, 219, 220, 221, 222, 223, 224, 225, 226, 227, 228, 229, 230, 231, 232, 233, 234, 235, 236, 237, 238, 239, 240, 241, 242, 243, 244, 245, 246, 247, 248, 249, 250, 251, 252, 253, 254, 255, 256, 257, 258, 259, 260, 261, 262, 263, 264, 265, 266, 267, 268] rfl (by decide +kernel)) (goodIn_sub (fun _ h => List.mem_cons_of_mem _ (List.mem_append_left _ (List.mem_append_left _ (List.mem_append_right _ h)))) (by decide +kernel))) (goodIn_sub (fun _ h => List.mem_cons_of_mem _ (List.mem_append_left _ (List.mem_append_right _ h))) (by decide +kernel))) (goodIn_sub (fun _ h => List.mem_cons_of_mem _ (List.mem_append_right _ h)) (by decide +kernel))
set_option maxRecDepth 20000 in
theorem gL_isHeld_L_holds : GoodIn wsL_isHeld (va_wsS RL 138 yL_holds wsL_holds) := goodIn_app (goodIn_of _ (by decide +kernel)) ggL_isHeld_L_holds
theorem dL_isHeld_0 : decode cL_isHeld 0 = .ok (.aload_n 0, 1) := by decide +kernel
theorem dL_isHeld_1 : decode cL_isHeld 1 = .ok (.invokestatic 138, 3) := by decide +kernel
theorem dL_isHeld_4 : decode cL_isHeld 4 = .ok (.ireturn, 1) := by decide +kernel
theorem dL_isHeld_5 : decode cL_isHeld 5 = .ok (.astore_n 1, 1) := by decide +kernel
theorem dL_isHeld_6 : decode cL_isHeld 6 = .ok (.iconst 0, 1) := by decide +kernel
theorem dL_isHeld_7 : decode cL_isHeld 7 = .ok (.ireturn, 1) := by decide +kernel
theorem dL_isHeld_8 : decode cL_isHeld 8 = .ok (.astore_n 1, 1) := by decide +kernel
theorem dL_isHeld_9 : decode cL_isHeld 9 = .ok (.iconst 0, 1) := by decide +kernel
theorem dL_isHeld_10 : decode cL_isHeld 10 = .ok (.ireturn, 1) := by decide +kernel
theorem dL_isHeld_11 : decode cL_isHeld 11 = .ok (.astore_n 1, 1) := by decide +kernel
theorem dL_isHeld_12 : decode cL_isHeld 12 = .ok (.iconst 0, 1) := by decide +kernel
theorem dL_isHeld_13 : decode cL_isHeld 13 = .ok (.ireturn, 1) := by decide +kernel
set_option maxRecDepth 20000 in
theorem ggL_law_L_isHeld : GoodIn wsL_law wsL_isHeld := goodIn_ca (goodIn_ca (goodIn_ca (goodIn_r _ [3, 4, 5, 6, 7, 8, 2, 9, 10, 11, 12, 13, 14, 15, 16, 17, 18, 19, 20, 21, 22, 23, 24, 25, 26, 27, 28, 29, 30, 31, 32, 33, 34, 35, 36, 37, 38, 39, 40, 41, 42, 43, 44, 45, 46, 47, 48, 49, 50, 51, 52, 53, 54, 55, 56, 57, 58, 59, 60, 61, 62, 63, 64, 65, 66, 67, 68, 69, 70, 71, 72, 73, 74, 75, 76, 77, 78, 79, 80, 81, 82, 83, 84, 85, 86, 87, 88, 89, 90, 91, 92, 93, 94, 95, 96, 97, 98, 99, 100, 101, 102, 103, 104, 105, 106, 107, 108, 109, 110, 111, 112, 113, 114, 115, 116, 117, 118, 119, 120, 121, 122, 123, 124, 125, 126, 127, 128, 129, 130, 131, 132, 133, 134, 135, 136, 137, 138, 139, 140, 141, 142, 143, 144, 145, 146, 147, 148, 149, 150, 151, 152, 153, 154, 155, 156, 157, 158, 159, 160, 161, 162, 163, 164, 165, 166, 167, 168, 169, 170, 171, 172, 173, 174, 175, 176, 177, 178, 179, 180, 181, 182, 183, 184, 185, 186, 187, 188, 189, 190, 191, 192, 193, 194, 195, 196, 197, 198, 199, 200, 201, 202, 203, 204, 205, 206, 207, 208, 209, 210, 211, 212, 213, 214, 215, 216, 217, 218, 219, 220, 221, 222, 223, 224, 225, 226, 227, 228, 229, 230, 231, 232, 233, 234, 235, 236, 237, 238, 239, 240, 241, 242, 243, 244, 245, 246, 247, 248, 249, 250, 251, 252, 253, 254, 255, 256, 257, 258, 259, 260, 261, 262, 263, 264, 265, 266, 267, 268, 269, 270] rfl (by decide +kernel)) (goodIn_sub (fun _ h => List.mem_append_left _ (List.mem_append_left _ (List.mem_append_right _ h))) (by decide +kernel))) (goodIn_sub (fun _ h => List.mem_append_left _ (List.mem_append_right _ h)) (by decide +kernel))) (goodIn_sub (fun _ h => List.mem_append_right _ h) (by decide +kernel))
set_option maxRecDepth 20000 in
theorem gL_law_L_isHeld : GoodIn wsL_law (va_wsS RL 146 yL_isHeld wsL_isHeld) := goodIn_app (goodIn_of _ (by decide +kernel)) ggL_law_L_isHeld
theorem dL_law_0 : decode cL_law 0 = .ok (.aload_n 0, 1) := by decide +kernel
theorem dL_law_1 : decode cL_law 1 = .ok (.invokestatic 146, 3) := by decide +kernel
theorem dL_law_4 : decode cL_law 4 = .ok (.ireturn, 1) := by decide +kernel
abbrev vwCl : List vw_C := [(RX0, TX0, 15)]
