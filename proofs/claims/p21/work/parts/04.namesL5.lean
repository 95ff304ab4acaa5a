set_option maxRecDepth 20000 in
theorem ggL_act_L_below : GoodIn wsL_act wsL_below := goodIn_r _ [9, 10] (by decide +kernel) (by decide +kernel)
set_option maxRecDepth 20000 in
theorem gL_act_L_below : GoodIn wsL_act (va_wsS RL 18 yL_below wsL_below) := goodIn_app (goodIn_of _ (by decide +kernel)) ggL_act_L_below
set_option maxRecDepth 20000 in
theorem ggL_act_X4_more : GoodIn wsL_act wsX4_more := goodIn_r _ [14, 15] (by decide +kernel) (by decide +kernel)
set_option maxRecDepth 20000 in
theorem gL_act_X4_more : GoodIn wsL_act (va_wsS RL 24 yX4_more wsX4_more) := goodIn_app (goodIn_of _ (by decide +kernel)) ggL_act_X4_more
set_option maxRecDepth 20000 in
theorem ggL_act_X3_open : GoodIn wsL_act wsX3_open := goodIn_ca (goodIn_ca (goodIn_r _ [20, 21, 22, 23, 24, 25, 26, 27, 19, 28, 29, 30, 31, 32, 33, 34, 35, 36, 37, 38, 39, 40, 41, 42, 43, 44, 45, 153, 154, 155, 156, 157, 158, 159, 160, 161, 162, 163, 164, 165, 166] (by decide +kernel) (by decide +kernel)) (goodIn_sub (fun _ h => List.mem_cons_of_mem _ (List.mem_append_left _ (List.mem_append_left _ (List.mem_append_right _ h)))) (by decide +kernel))) (goodIn_sub (fun _ h => List.mem_cons_of_mem _ (List.mem_append_left _ (List.mem_append_right _ h))) (by decide +kernel))
set_option maxRecDepth 20000 in
theorem gL_act_X3_open : GoodIn wsL_act (wsV RL 28 RX3 yX3_open wsX3_open) := goodIn_app (goodIn_of _ (by decide +kernel)) ggL_act_X3_open
set_option maxRecDepth 20000 in
theorem ggL_act_X4_owner : GoodIn wsL_act wsX4_owner := goodIn_r _ [49, 50, 144, 145, 146, 147, 148, 149, 150, 151, 152] (by decide +kernel) (by decide +kernel)
set_option maxRecDepth 20000 in
theorem gL_act_X4_owner : GoodIn wsL_act (wsV RL 33 RX4 yX4_owner wsX4_owner) := goodIn_app (goodIn_of _ (by decide +kernel)) ggL_act_X4_owner
set_option maxRecDepth 20000 in
theorem ggL_act_X3_swear : GoodIn wsL_act wsX3_swear := goodIn_ca (goodIn_ca (goodIn_ca (goodIn_r _ [54, 55, 56, 21, 22, 23, 24, 25, 57, 58, 59, 32, 60, 34, 26, 27, 19, 28, 61, 62, 63, 64, 65, 66, 67, 68, 69, 70, 71, 72, 73, 74, 75, 76, 77, 42, 43, 78, 79, 80, 81, 153, 154, 155, 156, 157, 158, 159, 160, 161, 162, 163, 167, 168, 169, 170, 171, 172, 173, 174] (by decide +kernel) (by decide +kernel)) (goodIn_sub (fun _ h => List.mem_cons_of_mem _ (List.mem_append_right _ h)) (by decide +kernel))) (goodIn_sub (fun _ h => List.mem_cons_of_mem _ (List.mem_append_left _ (List.mem_append_left _ (List.mem_append_right _ h)))) (by decide +kernel))) (goodIn_sub (fun _ h => List.mem_cons_of_mem _ (List.mem_append_left _ (List.mem_append_right _ h))) (by decide +kernel))
set_option maxRecDepth 20000 in
theorem gL_act_X3_swear : GoodIn wsL_act (wsV RL 37 RX3 yX3_swear wsX3_swear) := goodIn_app (goodIn_of _ (by decide +kernel)) ggL_act_X3_swear
set_option maxRecDepth 20000 in
theorem ggL_act_X3_setPeople : GoodIn wsL_act wsX3_setPeople := goodIn_ca (goodIn_r _ [85, 21, 22, 25, 86, 26, 27, 19, 28, 153, 154, 155, 156, 157, 158, 159, 160, 161, 162, 163] (by decide +kernel) (by decide +kernel)) (goodIn_sub (fun _ h => List.mem_cons_of_mem _ (List.mem_append_left _ (List.mem_append_left _ (List.mem_append_right _ h)))) (by decide +kernel))
set_option maxRecDepth 20000 in
theorem gL_act_X3_setPeople : GoodIn wsL_act (wsV RL 45 RX3 yX3_setPeople wsX3_setPeople) := goodIn_app (goodIn_of _ (by decide +kernel)) ggL_act_X3_setPeople
set_option maxRecDepth 20000 in
theorem ggL_act_X3_setGate : GoodIn wsL_act wsX3_setGate := goodIn_ca (goodIn_ca (goodIn_r _ [90, 55, 56, 21, 22, 25, 26, 27, 19, 28, 91, 92, 93, 32, 94, 95, 96, 97, 98, 99, 153, 154, 155, 156, 157, 158, 159, 160, 161, 162, 163] (by decide +kernel) (by decide +kernel)) (goodIn_sub (fun _ h => List.mem_cons_of_mem _ (List.mem_append_right _ h)) (by decide +kernel))) (goodIn_sub (fun _ h => List.mem_cons_of_mem _ (List.mem_append_left _ (List.mem_append_left _ (List.mem_append_right _ h)))) (by decide +kernel))
set_option maxRecDepth 20000 in
theorem gL_act_X3_setGate : GoodIn wsL_act (wsV RL 52 RX3 yX3_setGate wsX3_setGate) := goodIn_app (goodIn_of _ (by decide +kernel)) ggL_act_X3_setGate
set_option maxRecDepth 20000 in
theorem ggL_act_X3_smoke : GoodIn wsL_act wsX3_smoke := goodIn_ca (goodIn_r _ [103, 55, 56, 25, 57, 58, 59, 32, 60, 34, 104, 105, 106, 37, 107, 45, 44, 153, 154, 155, 156, 157, 158, 159, 160, 161, 162, 163, 164, 165, 166] (by decide +kernel) (by decide +kernel)) (goodIn_sub (fun _ h => List.mem_cons_of_mem _ (List.mem_append_right _ h)) (by decide +kernel))
set_option maxRecDepth 20000 in
theorem gL_act_X3_smoke : GoodIn wsL_act (wsV RL 55 RX3 yX3_smoke wsX3_smoke) := goodIn_app (goodIn_of _ (by decide +kernel)) ggL_act_X3_smoke
set_option maxRecDepth 20000 in
theorem ggL_act_X3_deal : GoodIn wsL_act wsX3_deal := goodIn_ca (goodIn_ca (goodIn_r _ [111, 55, 56, 21, 22, 25, 112, 113, 114, 115, 32, 116, 65, 26, 27, 19, 28, 153, 154, 167, 168, 169, 170, 171, 172, 173, 174, 155, 156, 157, 158, 159, 160, 161, 162, 163] (by decide +kernel) (by decide +kernel)) (goodIn_sub (fun _ h => List.mem_cons_of_mem _ (List.mem_append_right _ h)) (by decide +kernel))) (goodIn_sub (fun _ h => List.mem_cons_of_mem _ (List.mem_append_left _ (List.mem_append_left _ (List.mem_append_right _ h)))) (by decide +kernel))
set_option maxRecDepth 20000 in
theorem gL_act_X3_deal : GoodIn wsL_act (wsV RL 58 RX3 yX3_deal wsX3_deal) := goodIn_app (goodIn_of _ (by decide +kernel)) ggL_act_X3_deal
set_option maxRecDepth 20000 in
theorem ggL_act_X3_weigh : GoodIn wsL_act wsX3_weigh := goodIn_ca (goodIn_ca (goodIn_r _ [120, 55, 56, 23, 24, 25, 121, 113, 114, 115, 32, 116, 65, 122, 123, 124, 73, 125, 126, 127, 80, 128, 129, 130, 131, 153, 154, 167, 168, 169, 170, 171, 172, 173, 174, 155, 156, 157, 158, 159, 160, 161, 162, 163] (by decide +kernel) (by decide +kernel)) (goodIn_sub (fun _ h => List.mem_cons_of_mem _ (List.mem_append_right _ h)) (by decide +kernel))) (goodIn_sub (fun _ h => List.mem_cons_of_mem _ (List.mem_append_left _ (List.mem_append_right _ h))) (by decide +kernel))
set_option maxRecDepth 20000 in
theorem gL_act_X3_weigh : GoodIn wsL_act (wsV RL 61 RX3 yX3_weigh wsX3_weigh) := goodIn_app (goodIn_of _ (by decide +kernel)) ggL_act_X3_weigh
set_option maxRecDepth 20000 in
theorem ggL_act_X3_pardon : GoodIn wsL_act wsX3_pardon := goodIn_ca (goodIn_r _ [135, 55, 56, 25, 113, 114, 115, 32, 116, 65, 136, 137, 138, 73, 139, 127, 80, 140, 141, 142, 143, 153, 154, 155, 156, 157, 158, 159, 160, 161, 162, 163, 167, 168, 169, 170, 171, 172, 173, 174] (by decide +kernel) (by decide +kernel)) (goodIn_sub (fun _ h => List.mem_cons_of_mem _ (List.mem_append_right _ h)) (by decide +kernel))
set_option maxRecDepth 20000 in
theorem gL_act_X3_pardon : GoodIn wsL_act (wsV RL 64 RX3 yX3_pardon wsX3_pardon) := goodIn_app (goodIn_of _ (by decide +kernel)) ggL_act_X3_pardon
theorem dL_act_0 : decode cL_act 0 = .ok (.aload_n 1, 1) := by decide +kernel
theorem dL_act_1 : decode cL_act 1 = .ok (.getfield 9, 3) := by decide +kernel
theorem dL_act_4 : decode cL_act 4 = .ok (.arraylength, 1) := by decide +kernel
theorem dL_act_5 : decode cL_act 5 = .ok (.istore_n 3, 1) := by decide +kernel
theorem dL_act_6 : decode cL_act 6 = .ok (.aload_n 1, 1) := by decide +kernel
theorem dL_act_7 : decode cL_act 7 = .ok (.getfield 15, 3) := by decide +kernel
theorem dL_act_10 : decode cL_act 10 = .ok (.arraylength, 1) := by decide +kernel
theorem dL_act_11 : decode cL_act 11 = .ok (.istore 4, 2) := by decide +kernel
theorem dL_act_13 : decode cL_act 13 = .ok (.iload_n 3, 1) := by decide +kernel
theorem dL_act_14 : decode cL_act 14 = .ok (.ifCond .ne 7, 3) := by decide +kernel
theorem dL_act_17 : decode cL_act 17 = .ok (.iconst 0, 1) := by decide +kernel
theorem dL_act_18 : decode cL_act 18 = .ok (.goto 12, 3) := by decide +kernel
theorem dL_act_21 : decode cL_act 21 = .ok (.iload_n 2, 1) := by decide +kernel
theorem dL_act_22 : decode cL_act 22 = .ok (.bipush 9, 2) := by decide +kernel
theorem dL_act_24 : decode cL_act 24 = .ok (.ishr, 1) := by decide +kernel
theorem dL_act_25 : decode cL_act 25 = .ok (.bipush 13, 2) := by decide +kernel
theorem dL_act_27 : decode cL_act 27 = .ok (.invokestatic 18, 3) := by decide +kernel
theorem dL_act_30 : decode cL_act 30 = .ok (.tableswitch 599 0 11 #[62, 136, 136, 136, 269, 269, 329, 329, 385, 454, 517, 517], 62) := by decide +kernel
theorem dL_act_92 : decode cL_act 92 = .ok (.iload_n 3, 1) := by decide +kernel
theorem dL_act_93 : decode cL_act 93 = .ok (.iconst 4, 1) := by decide +kernel
theorem dL_act_94 : decode cL_act 94 = .ok (.if_icmp .ne 5, 3) := by decide +kernel
theorem dL_act_97 : decode cL_act 97 = .ok (.iconst 1, 1) := by decide +kernel
theorem dL_act_98 : decode cL_act 98 = .ok (.ireturn, 1) := by decide +kernel
theorem dL_act_99 : decode cL_act 99 = .ok (.iload_n 2, 1) := by decide +kernel
theorem dL_act_100 : decode cL_act 100 = .ok (.iconst 3, 1) := by decide +kernel
theorem dL_act_101 : decode cL_act 101 = .ok (.imul, 1) := by decide +kernel
theorem dL_act_102 : decode cL_act 102 = .ok (.sipush 901, 3) := by decide +kernel
theorem dL_act_105 : decode cL_act 105 = .ok (.invokestatic 18, 3) := by decide +kernel
theorem dL_act_108 : decode cL_act 108 = .ok (.istore 5, 2) := by decide +kernel
theorem dL_act_110 : decode cL_act 110 = .ok (.iload_n 2, 1) := by decide +kernel
theorem dL_act_111 : decode cL_act 111 = .ok (.iconst 4, 1) := by decide +kernel
theorem dL_act_112 : decode cL_act 112 = .ok (.ishr, 1) := by decide +kernel
theorem dL_act_113 : decode cL_act 113 = .ok (.bipush 51, 2) := by decide +kernel
theorem dL_act_115 : decode cL_act 115 = .ok (.invokestatic 18, 3) := by decide +kernel
theorem dL_act_118 : decode cL_act 118 = .ok (.istore 6, 2) := by decide +kernel
theorem dL_act_120 : decode cL_act 120 = .ok (.aload_n 1, 1) := by decide +kernel
theorem dL_act_121 : decode cL_act 121 = .ok (.aload_n 1, 1) := by decide +kernel
theorem dL_act_122 : decode cL_act 122 = .ok (.getfield 9, 3) := by decide +kernel
theorem dL_act_125 : decode cL_act 125 = .ok (.iconst 3, 1) := by decide +kernel
theorem dL_act_126 : decode cL_act 126 = .ok (.newarray .int, 2) := by decide +kernel
theorem dL_act_128 : decode cL_act 128 = .ok (.dup, 1) := by decide +kernel
theorem dL_act_129 : decode cL_act 129 = .ok (.iconst 0, 1) := by decide +kernel
theorem dL_act_130 : decode cL_act 130 = .ok (.iload 5, 2) := by decide +kernel
theorem dL_act_132 : decode cL_act 132 = .ok (.iastore, 1) := by decide +kernel
theorem dL_act_133 : decode cL_act 133 = .ok (.dup, 1) := by decide +kernel
theorem dL_act_134 : decode cL_act 134 = .ok (.iconst 1, 1) := by decide +kernel
theorem dL_act_135 : decode cL_act 135 = .ok (.iload 6, 2) := by decide +kernel
theorem dL_act_137 : decode cL_act 137 = .ok (.iastore, 1) := by decide +kernel
theorem dL_act_138 : decode cL_act 138 = .ok (.dup, 1) := by decide +kernel
theorem dL_act_139 : decode cL_act 139 = .ok (.iconst 2, 1) := by decide +kernel
theorem dL_act_140 : decode cL_act 140 = .ok (.iconst 0, 1) := by decide +kernel
theorem dL_act_141 : decode cL_act 141 = .ok (.iastore, 1) := by decide +kernel
theorem dL_act_142 : decode cL_act 142 = .ok (.invokestatic 24, 3) := by decide +kernel
theorem dL_act_145 : decode cL_act 145 = .ok (.putfield 9, 3) := by decide +kernel
theorem dL_act_148 : decode cL_act 148 = .ok (.aload_n 0, 1) := by decide +kernel
theorem dL_act_149 : decode cL_act 149 = .ok (.iload 5, 2) := by decide +kernel
theorem dL_act_151 : decode cL_act 151 = .ok (.iload 6, 2) := by decide +kernel
theorem dL_act_153 : decode cL_act 153 = .ok (.invokevirtual 28, 3) := by decide +kernel
theorem dL_act_156 : decode cL_act 156 = .ok (.iload_n 3, 1) := by decide +kernel
theorem dL_act_157 : decode cL_act 157 = .ok (.if_icmp .ne 7, 3) := by decide +kernel
theorem dL_act_160 : decode cL_act 160 = .ok (.iconst 1, 1) := by decide +kernel
theorem dL_act_161 : decode cL_act 161 = .ok (.goto 4, 3) := by decide +kernel
theorem dL_act_164 : decode cL_act 164 = .ok (.iconst 0, 1) := by decide +kernel
theorem dL_act_165 : decode cL_act 165 = .ok (.ireturn, 1) := by decide +kernel
theorem dL_act_166 : decode cL_act 166 = .ok (.iload_n 2, 1) := by decide +kernel
theorem dL_act_167 : decode cL_act 167 = .ok (.iconst 2, 1) := by decide +kernel
theorem dL_act_168 : decode cL_act 168 = .ok (.ishr, 1) := by decide +kernel
theorem dL_act_169 : decode cL_act 169 = .ok (.bipush 26, 2) := by decide +kernel
theorem dL_act_171 : decode cL_act 171 = .ok (.invokestatic 18, 3) := by decide +kernel
theorem dL_act_174 : decode cL_act 174 = .ok (.istore 7, 2) := by decide +kernel
theorem dL_act_176 : decode cL_act 176 = .ok (.iload 4, 2) := by decide +kernel
theorem dL_act_178 : decode cL_act 178 = .ok (.bipush 6, 2) := by decide +kernel
theorem dL_act_180 : decode cL_act 180 = .ok (.if_icmp .eq 12, 3) := by decide +kernel
theorem dL_act_183 : decode cL_act 183 = .ok (.aload_n 1, 1) := by decide +kernel
theorem dL_act_184 : decode cL_act 184 = .ok (.iload 7, 2) := by decide +kernel
theorem dL_act_186 : decode cL_act 186 = .ok (.invokevirtual 33, 3) := by decide +kernel
theorem dL_act_189 : decode cL_act 189 = .ok (.ifCond .lt 5, 3) := by decide +kernel
theorem dL_act_192 : decode cL_act 192 = .ok (.iconst 1, 1) := by decide +kernel
theorem dL_act_193 : decode cL_act 193 = .ok (.ireturn, 1) := by decide +kernel
theorem dL_act_194 : decode cL_act 194 = .ok (.iload_n 2, 1) := by decide +kernel
theorem dL_act_195 : decode cL_act 195 = .ok (.iload_n 3, 1) := by decide +kernel
theorem dL_act_196 : decode cL_act 196 = .ok (.invokestatic 18, 3) := by decide +kernel
theorem dL_act_199 : decode cL_act 199 = .ok (.istore 8, 2) := by decide +kernel
theorem dL_act_201 : decode cL_act 201 = .ok (.iconst 5, 1) := by decide +kernel
theorem dL_act_202 : decode cL_act 202 = .ok (.iload_n 2, 1) := by decide +kernel
theorem dL_act_203 : decode cL_act 203 = .ok (.iconst 3, 1) := by decide +kernel
theorem dL_act_204 : decode cL_act 204 = .ok (.ishr, 1) := by decide +kernel
theorem dL_act_205 : decode cL_act 205 = .ok (.bipush 8, 2) := by decide +kernel
theorem dL_act_207 : decode cL_act 207 = .ok (.invokestatic 18, 3) := by decide +kernel
theorem dL_act_210 : decode cL_act 210 = .ok (.iadd, 1) := by decide +kernel
theorem dL_act_211 : decode cL_act 211 = .ok (.istore 9, 2) := by decide +kernel
theorem dL_act_213 : decode cL_act 213 = .ok (.iload_n 2, 1) := by decide +kernel
theorem dL_act_214 : decode cL_act 214 = .ok (.iconst 1, 1) := by decide +kernel
theorem dL_act_215 : decode cL_act 215 = .ok (.ishr, 1) := by decide +kernel
theorem dL_act_216 : decode cL_act 216 = .ok (.bipush 91, 2) := by decide +kernel
theorem dL_act_218 : decode cL_act 218 = .ok (.invokestatic 18, 3) := by decide +kernel
theorem dL_act_221 : decode cL_act 221 = .ok (.istore 10, 2) := by decide +kernel
theorem dL_act_223 : decode cL_act 223 = .ok (.aload_n 1, 1) := by decide +kernel
theorem dL_act_224 : decode cL_act 224 = .ok (.aload_n 1, 1) := by decide +kernel
theorem dL_act_225 : decode cL_act 225 = .ok (.getfield 15, 3) := by decide +kernel
theorem dL_act_228 : decode cL_act 228 = .ok (.bipush 8, 2) := by decide +kernel
theorem dL_act_230 : decode cL_act 230 = .ok (.newarray .int, 2) := by decide +kernel
theorem dL_act_232 : decode cL_act 232 = .ok (.dup, 1) := by decide +kernel
theorem dL_act_233 : decode cL_act 233 = .ok (.iconst 0, 1) := by decide +kernel
theorem dL_act_234 : decode cL_act 234 = .ok (.iload 8, 2) := by decide +kernel
theorem dL_act_236 : decode cL_act 236 = .ok (.iastore, 1) := by decide +kernel
theorem dL_act_237 : decode cL_act 237 = .ok (.dup, 1) := by decide +kernel
theorem dL_act_238 : decode cL_act 238 = .ok (.iconst 1, 1) := by decide +kernel
theorem dL_act_239 : decode cL_act 239 = .ok (.iload 7, 2) := by decide +kernel
theorem dL_act_241 : decode cL_act 241 = .ok (.iastore, 1) := by decide +kernel
theorem dL_act_242 : decode cL_act 242 = .ok (.dup, 1) := by decide +kernel
theorem dL_act_243 : decode cL_act 243 = .ok (.iconst 2, 1) := by decide +kernel
theorem dL_act_244 : decode cL_act 244 = .ok (.iload 10, 2) := by decide +kernel
theorem dL_act_246 : decode cL_act 246 = .ok (.iastore, 1) := by decide +kernel
theorem dL_act_247 : decode cL_act 247 = .ok (.dup, 1) := by decide +kernel
theorem dL_act_248 : decode cL_act 248 = .ok (.iconst 3, 1) := by decide +kernel
theorem dL_act_249 : decode cL_act 249 = .ok (.iconst 0, 1) := by decide +kernel
theorem dL_act_250 : decode cL_act 250 = .ok (.iastore, 1) := by decide +kernel
theorem dL_act_251 : decode cL_act 251 = .ok (.dup, 1) := by decide +kernel
theorem dL_act_252 : decode cL_act 252 = .ok (.iconst 4, 1) := by decide +kernel
theorem dL_act_253 : decode cL_act 253 = .ok (.iload 9, 2) := by decide +kernel
theorem dL_act_255 : decode cL_act 255 = .ok (.iastore, 1) := by decide +kernel
theorem dL_act_256 : decode cL_act 256 = .ok (.dup, 1) := by decide +kernel
theorem dL_act_257 : decode cL_act 257 = .ok (.iconst 5, 1) := by decide +kernel
theorem dL_act_258 : decode cL_act 258 = .ok (.iconst 0, 1) := by decide +kernel
theorem dL_act_259 : decode cL_act 259 = .ok (.iastore, 1) := by decide +kernel
theorem dL_act_260 : decode cL_act 260 = .ok (.dup, 1) := by decide +kernel
theorem dL_act_261 : decode cL_act 261 = .ok (.bipush 6, 2) := by decide +kernel
theorem dL_act_263 : decode cL_act 263 = .ok (.iconst 0, 1) := by decide +kernel
theorem dL_act_264 : decode cL_act 264 = .ok (.iastore, 1) := by decide +kernel
theorem dL_act_265 : decode cL_act 265 = .ok (.dup, 1) := by decide +kernel
theorem dL_act_266 : decode cL_act 266 = .ok (.bipush 7, 2) := by decide +kernel
theorem dL_act_268 : decode cL_act 268 = .ok (.iconst 0, 1) := by decide +kernel
theorem dL_act_269 : decode cL_act 269 = .ok (.iastore, 1) := by decide +kernel
theorem dL_act_270 : decode cL_act 270 = .ok (.invokestatic 24, 3) := by decide +kernel
theorem dL_act_273 : decode cL_act 273 = .ok (.putfield 15, 3) := by decide +kernel
theorem dL_act_276 : decode cL_act 276 = .ok (.aload_n 0, 1) := by decide +kernel
theorem dL_act_277 : decode cL_act 277 = .ok (.iload 8, 2) := by decide +kernel
theorem dL_act_279 : decode cL_act 279 = .ok (.iload 7, 2) := by decide +kernel
theorem dL_act_281 : decode cL_act 281 = .ok (.iload 9, 2) := by decide +kernel
theorem dL_act_283 : decode cL_act 283 = .ok (.iload 10, 2) := by decide +kernel
theorem dL_act_285 : decode cL_act 285 = .ok (.invokevirtual 37, 3) := by decide +kernel
theorem dL_act_288 : decode cL_act 288 = .ok (.iload 4, 2) := by decide +kernel
theorem dL_act_290 : decode cL_act 290 = .ok (.if_icmp .ne 7, 3) := by decide +kernel
theorem dL_act_293 : decode cL_act 293 = .ok (.iconst 1, 1) := by decide +kernel
theorem dL_act_294 : decode cL_act 294 = .ok (.goto 4, 3) := by decide +kernel
theorem dL_act_297 : decode cL_act 297 = .ok (.iconst 0, 1) := by decide +kernel
theorem dL_act_298 : decode cL_act 298 = .ok (.ireturn, 1) := by decide +kernel
theorem dL_act_299 : decode cL_act 299 = .ok (.aload_n 1, 1) := by decide +kernel
theorem dL_act_300 : decode cL_act 300 = .ok (.getfield 41, 3) := by decide +kernel
theorem dL_act_303 : decode cL_act 303 = .ok (.istore 11, 2) := by decide +kernel
theorem dL_act_305 : decode cL_act 305 = .ok (.aload_n 1, 1) := by decide +kernel
theorem dL_act_306 : decode cL_act 306 = .ok (.iload_n 2, 1) := by decide +kernel
theorem dL_act_307 : decode cL_act 307 = .ok (.iconst 5, 1) := by decide +kernel
theorem dL_act_308 : decode cL_act 308 = .ok (.ishr, 1) := by decide +kernel
theorem dL_act_309 : decode cL_act 309 = .ok (.iconst 3, 1) := by decide +kernel
theorem dL_act_310 : decode cL_act 310 = .ok (.invokestatic 18, 3) := by decide +kernel
theorem dL_act_313 : decode cL_act 313 = .ok (.ifCond .ne 16, 3) := by decide +kernel
theorem dL_act_316 : decode cL_act 316 = .ok (.iload_n 2, 1) := by decide +kernel
theorem dL_act_317 : decode cL_act 317 = .ok (.bipush 7, 2) := by decide +kernel
theorem dL_act_319 : decode cL_act 319 = .ok (.imul, 1) := by decide +kernel
theorem dL_act_320 : decode cL_act 320 = .ok (.sipush 501, 3) := by decide +kernel
theorem dL_act_323 : decode cL_act 323 = .ok (.invokestatic 18, 3) := by decide +kernel
theorem dL_act_326 : decode cL_act 326 = .ok (.goto 11, 3) := by decide +kernel
theorem dL_act_329 : decode cL_act 329 = .ok (.iload_n 2, 1) := by decide +kernel
theorem dL_act_330 : decode cL_act 330 = .ok (.iconst 2, 1) := by decide +kernel
theorem dL_act_331 : decode cL_act 331 = .ok (.ishr, 1) := by decide +kernel
theorem dL_act_332 : decode cL_act 332 = .ok (.bipush 40, 2) := by decide +kernel
theorem dL_act_334 : decode cL_act 334 = .ok (.invokestatic 18, 3) := by decide +kernel
theorem dL_act_337 : decode cL_act 337 = .ok (.putfield 41, 3) := by decide +kernel
theorem dL_act_340 : decode cL_act 340 = .ok (.aload_n 0, 1) := by decide +kernel
theorem dL_act_341 : decode cL_act 341 = .ok (.aload_n 1, 1) := by decide +kernel
theorem dL_act_342 : decode cL_act 342 = .ok (.getfield 41, 3) := by decide +kernel
theorem dL_act_345 : decode cL_act 345 = .ok (.invokevirtual 45, 3) := by decide +kernel
theorem dL_act_348 : decode cL_act 348 = .ok (.iload 11, 2) := by decide +kernel
theorem dL_act_350 : decode cL_act 350 = .ok (.if_icmp .ne 7, 3) := by decide +kernel
theorem dL_act_353 : decode cL_act 353 = .ok (.iconst 1, 1) := by decide +kernel
theorem dL_act_354 : decode cL_act 354 = .ok (.goto 4, 3) := by decide +kernel
theorem dL_act_357 : decode cL_act 357 = .ok (.iconst 0, 1) := by decide +kernel
theorem dL_act_358 : decode cL_act 358 = .ok (.ireturn, 1) := by decide +kernel
theorem dL_act_359 : decode cL_act 359 = .ok (.iload_n 2, 1) := by decide +kernel
theorem dL_act_360 : decode cL_act 360 = .ok (.bipush 24, 2) := by decide +kernel
theorem dL_act_362 : decode cL_act 362 = .ok (.invokestatic 18, 3) := by decide +kernel
theorem dL_act_365 : decode cL_act 365 = .ok (.istore 12, 2) := by decide +kernel
theorem dL_act_367 : decode cL_act 367 = .ok (.aload_n 1, 1) := by decide +kernel
theorem dL_act_368 : decode cL_act 368 = .ok (.getfield 48, 3) := by decide +kernel
theorem dL_act_371 : decode cL_act 371 = .ok (.iload 12, 2) := by decide +kernel
theorem dL_act_373 : decode cL_act 373 = .ok (.iaload, 1) := by decide +kernel
theorem dL_act_374 : decode cL_act 374 = .ok (.istore 13, 2) := by decide +kernel
theorem dL_act_376 : decode cL_act 376 = .ok (.aload_n 1, 1) := by decide +kernel
theorem dL_act_377 : decode cL_act 377 = .ok (.getfield 48, 3) := by decide +kernel
theorem dL_act_380 : decode cL_act 380 = .ok (.iload 12, 2) := by decide +kernel
theorem dL_act_382 : decode cL_act 382 = .ok (.iload_n 2, 1) := by decide +kernel
theorem dL_act_383 : decode cL_act 383 = .ok (.iconst 3, 1) := by decide +kernel
theorem dL_act_384 : decode cL_act 384 = .ok (.ishr, 1) := by decide +kernel
theorem dL_act_385 : decode cL_act 385 = .ok (.bipush 100, 2) := by decide +kernel
theorem dL_act_387 : decode cL_act 387 = .ok (.invokestatic 18, 3) := by decide +kernel
theorem dL_act_390 : decode cL_act 390 = .ok (.iastore, 1) := by decide +kernel
theorem dL_act_391 : decode cL_act 391 = .ok (.aload_n 0, 1) := by decide +kernel
theorem dL_act_392 : decode cL_act 392 = .ok (.iload 12, 2) := by decide +kernel
theorem dL_act_394 : decode cL_act 394 = .ok (.aload_n 1, 1) := by decide +kernel
theorem dL_act_395 : decode cL_act 395 = .ok (.getfield 48, 3) := by decide +kernel
theorem dL_act_398 : decode cL_act 398 = .ok (.iload 12, 2) := by decide +kernel
theorem dL_act_400 : decode cL_act 400 = .ok (.iaload, 1) := by decide +kernel
theorem dL_act_401 : decode cL_act 401 = .ok (.invokevirtual 52, 3) := by decide +kernel
theorem dL_act_404 : decode cL_act 404 = .ok (.iload 13, 2) := by decide +kernel
theorem dL_act_406 : decode cL_act 406 = .ok (.if_icmp .ne 7, 3) := by decide +kernel
theorem dL_act_409 : decode cL_act 409 = .ok (.iconst 1, 1) := by decide +kernel
theorem dL_act_410 : decode cL_act 410 = .ok (.goto 4, 3) := by decide +kernel
theorem dL_act_413 : decode cL_act 413 = .ok (.iconst 0, 1) := by decide +kernel
theorem dL_act_414 : decode cL_act 414 = .ok (.ireturn, 1) := by decide +kernel
theorem dL_act_415 : decode cL_act 415 = .ok (.iload_n 2, 1) := by decide +kernel
theorem dL_act_416 : decode cL_act 416 = .ok (.iconst 4, 1) := by decide +kernel
theorem dL_act_417 : decode cL_act 417 = .ok (.ishr, 1) := by decide +kernel
theorem dL_act_418 : decode cL_act 418 = .ok (.iconst 2, 1) := by decide +kernel
theorem dL_act_419 : decode cL_act 419 = .ok (.invokestatic 18, 3) := by decide +kernel
theorem dL_act_422 : decode cL_act 422 = .ok (.ifCond .ne 5, 3) := by decide +kernel
theorem dL_act_425 : decode cL_act 425 = .ok (.iconst 1, 1) := by decide +kernel
theorem dL_act_426 : decode cL_act 426 = .ok (.ireturn, 1) := by decide +kernel
theorem dL_act_427 : decode cL_act 427 = .ok (.aload_n 1, 1) := by decide +kernel
theorem dL_act_428 : decode cL_act 428 = .ok (.getfield 9, 3) := by decide +kernel
theorem dL_act_431 : decode cL_act 431 = .ok (.iload_n 2, 1) := by decide +kernel
theorem dL_act_432 : decode cL_act 432 = .ok (.iload_n 3, 1) := by decide +kernel
theorem dL_act_433 : decode cL_act 433 = .ok (.invokestatic 18, 3) := by decide +kernel
theorem dL_act_436 : decode cL_act 436 = .ok (.aaload, 1) := by decide +kernel
theorem dL_act_437 : decode cL_act 437 = .ok (.astore 14, 2) := by decide +kernel
theorem dL_act_439 : decode cL_act 439 = .ok (.aload 14, 2) := by decide +kernel
theorem dL_act_441 : decode cL_act 441 = .ok (.iconst 1, 1) := by decide +kernel
theorem dL_act_442 : decode cL_act 442 = .ok (.iaload, 1) := by decide +kernel
theorem dL_act_443 : decode cL_act 443 = .ok (.istore 15, 2) := by decide +kernel
theorem dL_act_445 : decode cL_act 445 = .ok (.aload 14, 2) := by decide +kernel
theorem dL_act_447 : decode cL_act 447 = .ok (.iconst 1, 1) := by decide +kernel
theorem dL_act_448 : decode cL_act 448 = .ok (.iconst 0, 1) := by decide +kernel
theorem dL_act_449 : decode cL_act 449 = .ok (.iastore, 1) := by decide +kernel
theorem dL_act_450 : decode cL_act 450 = .ok (.aload 14, 2) := by decide +kernel
theorem dL_act_452 : decode cL_act 452 = .ok (.iconst 0, 1) := by decide +kernel
theorem dL_act_453 : decode cL_act 453 = .ok (.dup2, 1) := by decide +kernel
theorem dL_act_454 : decode cL_act 454 = .ok (.iaload, 1) := by decide +kernel
theorem dL_act_455 : decode cL_act 455 = .ok (.aload 14, 2) := by decide +kernel
theorem dL_act_457 : decode cL_act 457 = .ok (.iconst 0, 1) := by decide +kernel
theorem dL_act_458 : decode cL_act 458 = .ok (.iaload, 1) := by decide +kernel
theorem dL_act_459 : decode cL_act 459 = .ok (.bipush 10, 2) := by decide +kernel
theorem dL_act_461 : decode cL_act 461 = .ok (.idiv, 1) := by decide +kernel
theorem dL_act_462 : decode cL_act 462 = .ok (.isub, 1) := by decide +kernel
theorem dL_act_463 : decode cL_act 463 = .ok (.iastore, 1) := by decide +kernel
theorem dL_act_464 : decode cL_act 464 = .ok (.aload_n 0, 1) := by decide +kernel
theorem dL_act_465 : decode cL_act 465 = .ok (.iload_n 2, 1) := by decide +kernel
theorem dL_act_466 : decode cL_act 466 = .ok (.iload_n 3, 1) := by decide +kernel
theorem dL_act_467 : decode cL_act 467 = .ok (.invokestatic 18, 3) := by decide +kernel
theorem dL_act_470 : decode cL_act 470 = .ok (.invokevirtual 55, 3) := by decide +kernel
theorem dL_act_473 : decode cL_act 473 = .ok (.iload 15, 2) := by decide +kernel
theorem dL_act_475 : decode cL_act 475 = .ok (.if_icmp .ne 7, 3) := by decide +kernel
theorem dL_act_478 : decode cL_act 478 = .ok (.iconst 1, 1) := by decide +kernel
theorem dL_act_479 : decode cL_act 479 = .ok (.goto 4, 3) := by decide +kernel
theorem dL_act_482 : decode cL_act 482 = .ok (.iconst 0, 1) := by decide +kernel
theorem dL_act_483 : decode cL_act 483 = .ok (.ireturn, 1) := by decide +kernel
theorem dL_act_484 : decode cL_act 484 = .ok (.iload 4, 2) := by decide +kernel
theorem dL_act_486 : decode cL_act 486 = .ok (.ifCond .ne 5, 3) := by decide +kernel
theorem dL_act_489 : decode cL_act 489 = .ok (.iconst 1, 1) := by decide +kernel
theorem dL_act_490 : decode cL_act 490 = .ok (.ireturn, 1) := by decide +kernel
theorem dL_act_491 : decode cL_act 491 = .ok (.aload_n 1, 1) := by decide +kernel
theorem dL_act_492 : decode cL_act 492 = .ok (.getfield 15, 3) := by decide +kernel
theorem dL_act_495 : decode cL_act 495 = .ok (.iload_n 2, 1) := by decide +kernel
theorem dL_act_496 : decode cL_act 496 = .ok (.iload 4, 2) := by decide +kernel
theorem dL_act_498 : decode cL_act 498 = .ok (.invokestatic 18, 3) := by decide +kernel
theorem dL_act_501 : decode cL_act 501 = .ok (.aaload, 1) := by decide +kernel
theorem dL_act_502 : decode cL_act 502 = .ok (.astore 16, 2) := by decide +kernel
theorem dL_act_504 : decode cL_act 504 = .ok (.aload 16, 2) := by decide +kernel
theorem dL_act_506 : decode cL_act 506 = .ok (.iconst 2, 1) := by decide +kernel
theorem dL_act_507 : decode cL_act 507 = .ok (.iaload, 1) := by decide +kernel
theorem dL_act_508 : decode cL_act 508 = .ok (.istore 17, 2) := by decide +kernel
theorem dL_act_510 : decode cL_act 510 = .ok (.aload 16, 2) := by decide +kernel
theorem dL_act_512 : decode cL_act 512 = .ok (.iconst 2, 1) := by decide +kernel
theorem dL_act_513 : decode cL_act 513 = .ok (.iload_n 2, 1) := by decide +kernel
theorem dL_act_514 : decode cL_act 514 = .ok (.iconst 2, 1) := by decide +kernel
theorem dL_act_515 : decode cL_act 515 = .ok (.ishr, 1) := by decide +kernel
theorem dL_act_516 : decode cL_act 516 = .ok (.bipush 91, 2) := by decide +kernel
theorem dL_act_518 : decode cL_act 518 = .ok (.invokestatic 18, 3) := by decide +kernel
theorem dL_act_521 : decode cL_act 521 = .ok (.iastore, 1) := by decide +kernel
theorem dL_act_522 : decode cL_act 522 = .ok (.aload_n 0, 1) := by decide +kernel
theorem dL_act_523 : decode cL_act 523 = .ok (.iload_n 2, 1) := by decide +kernel
theorem dL_act_524 : decode cL_act 524 = .ok (.iload 4, 2) := by decide +kernel
theorem dL_act_526 : decode cL_act 526 = .ok (.invokestatic 18, 3) := by decide +kernel
theorem dL_act_529 : decode cL_act 529 = .ok (.aload 16, 2) := by decide +kernel
theorem dL_act_531 : decode cL_act 531 = .ok (.iconst 2, 1) := by decide +kernel
theorem dL_act_532 : decode cL_act 532 = .ok (.iaload, 1) := by decide +kernel
theorem dL_act_533 : decode cL_act 533 = .ok (.invokevirtual 58, 3) := by decide +kernel
theorem dL_act_536 : decode cL_act 536 = .ok (.iload 17, 2) := by decide +kernel
theorem dL_act_538 : decode cL_act 538 = .ok (.if_icmp .ne 7, 3) := by decide +kernel
theorem dL_act_541 : decode cL_act 541 = .ok (.iconst 1, 1) := by decide +kernel
theorem dL_act_542 : decode cL_act 542 = .ok (.goto 4, 3) := by decide +kernel
theorem dL_act_545 : decode cL_act 545 = .ok (.iconst 0, 1) := by decide +kernel
theorem dL_act_546 : decode cL_act 546 = .ok (.ireturn, 1) := by decide +kernel
theorem dL_act_547 : decode cL_act 547 = .ok (.iload 4, 2) := by decide +kernel
theorem dL_act_549 : decode cL_act 549 = .ok (.ifCond .eq 19, 3) := by decide +kernel
theorem dL_act_552 : decode cL_act 552 = .ok (.aload_n 1, 1) := by decide +kernel
theorem dL_act_553 : decode cL_act 553 = .ok (.getfield 15, 3) := by decide +kernel
theorem dL_act_556 : decode cL_act 556 = .ok (.iload_n 2, 1) := by decide +kernel
theorem dL_act_557 : decode cL_act 557 = .ok (.iload 4, 2) := by decide +kernel
theorem dL_act_559 : decode cL_act 559 = .ok (.invokestatic 18, 3) := by decide +kernel
theorem dL_act_562 : decode cL_act 562 = .ok (.aaload, 1) := by decide +kernel
theorem dL_act_563 : decode cL_act 563 = .ok (.iconst 5, 1) := by decide +kernel
theorem dL_act_564 : decode cL_act 564 = .ok (.iaload, 1) := by decide +kernel
theorem dL_act_565 : decode cL_act 565 = .ok (.ifCond .ne 5, 3) := by decide +kernel
theorem dL_act_568 : decode cL_act 568 = .ok (.iconst 1, 1) := by decide +kernel
theorem dL_act_569 : decode cL_act 569 = .ok (.ireturn, 1) := by decide +kernel
theorem dL_act_570 : decode cL_act 570 = .ok (.aload_n 1, 1) := by decide +kernel
theorem dL_act_571 : decode cL_act 571 = .ok (.getfield 15, 3) := by decide +kernel
theorem dL_act_574 : decode cL_act 574 = .ok (.iload_n 2, 1) := by decide +kernel
theorem dL_act_575 : decode cL_act 575 = .ok (.iload 4, 2) := by decide +kernel
theorem dL_act_577 : decode cL_act 577 = .ok (.invokestatic 18, 3) := by decide +kernel
theorem dL_act_580 : decode cL_act 580 = .ok (.aaload, 1) := by decide +kernel
theorem dL_act_581 : decode cL_act 581 = .ok (.astore 18, 2) := by decide +kernel
theorem dL_act_583 : decode cL_act 583 = .ok (.aload 18, 2) := by decide +kernel
theorem dL_act_585 : decode cL_act 585 = .ok (.iconst 5, 1) := by decide +kernel
theorem dL_act_586 : decode cL_act 586 = .ok (.dup2, 1) := by decide +kernel
theorem dL_act_587 : decode cL_act 587 = .ok (.iaload, 1) := by decide +kernel
theorem dL_act_588 : decode cL_act 588 = .ok (.iconst 1, 1) := by decide +kernel
theorem dL_act_589 : decode cL_act 589 = .ok (.isub, 1) := by decide +kernel
theorem dL_act_590 : decode cL_act 590 = .ok (.iastore, 1) := by decide +kernel
theorem dL_act_591 : decode cL_act 591 = .ok (.aload 18, 2) := by decide +kernel
theorem dL_act_593 : decode cL_act 593 = .ok (.iconst 4, 1) := by decide +kernel
theorem dL_act_594 : decode cL_act 594 = .ok (.iaload, 1) := by decide +kernel
theorem dL_act_595 : decode cL_act 595 = .ok (.bipush 10, 2) := by decide +kernel
theorem dL_act_597 : decode cL_act 597 = .ok (.if_icmp .ge 9, 3) := by decide +kernel
theorem dL_act_600 : decode cL_act 600 = .ok (.aload 18, 2) := by decide +kernel
theorem dL_act_602 : decode cL_act 602 = .ok (.bipush 7, 2) := by decide +kernel
theorem dL_act_604 : decode cL_act 604 = .ok (.iconst 1, 1) := by decide +kernel
theorem dL_act_605 : decode cL_act 605 = .ok (.iastore, 1) := by decide +kernel
theorem dL_act_606 : decode cL_act 606 = .ok (.aload_n 0, 1) := by decide +kernel
theorem dL_act_607 : decode cL_act 607 = .ok (.iload_n 2, 1) := by decide +kernel
theorem dL_act_608 : decode cL_act 608 = .ok (.iload 4, 2) := by decide +kernel
theorem dL_act_610 : decode cL_act 610 = .ok (.invokestatic 18, 3) := by decide +kernel
theorem dL_act_613 : decode cL_act 613 = .ok (.invokevirtual 61, 3) := by decide +kernel
theorem dL_act_616 : decode cL_act 616 = .ok (.aload 18, 2) := by decide +kernel
theorem dL_act_618 : decode cL_act 618 = .ok (.iconst 4, 1) := by decide +kernel
theorem dL_act_619 : decode cL_act 619 = .ok (.iaload, 1) := by decide +kernel
theorem dL_act_620 : decode cL_act 620 = .ok (.if_icmp .ne 7, 3) := by decide +kernel
theorem dL_act_623 : decode cL_act 623 = .ok (.iconst 1, 1) := by decide +kernel
theorem dL_act_624 : decode cL_act 624 = .ok (.goto 4, 3) := by decide +kernel
theorem dL_act_627 : decode cL_act 627 = .ok (.iconst 0, 1) := by decide +kernel
theorem dL_act_628 : decode cL_act 628 = .ok (.ireturn, 1) := by decide +kernel
theorem dL_act_629 : decode cL_act 629 = .ok (.iload 4, 2) := by decide +kernel
theorem dL_act_631 : decode cL_act 631 = .ok (.ifCond .ne 5, 3) := by decide +kernel
theorem dL_act_634 : decode cL_act 634 = .ok (.iconst 1, 1) := by decide +kernel
theorem dL_act_635 : decode cL_act 635 = .ok (.ireturn, 1) := by decide +kernel
theorem dL_act_636 : decode cL_act 636 = .ok (.aload_n 1, 1) := by decide +kernel
theorem dL_act_637 : decode cL_act 637 = .ok (.getfield 15, 3) := by decide +kernel
theorem dL_act_640 : decode cL_act 640 = .ok (.iload_n 2, 1) := by decide +kernel
theorem dL_act_641 : decode cL_act 641 = .ok (.iload 4, 2) := by decide +kernel
theorem dL_act_643 : decode cL_act 643 = .ok (.invokestatic 18, 3) := by decide +kernel
theorem dL_act_646 : decode cL_act 646 = .ok (.aaload, 1) := by decide +kernel
theorem dL_act_647 : decode cL_act 647 = .ok (.astore 19, 2) := by decide +kernel
theorem dL_act_649 : decode cL_act 649 = .ok (.aload 19, 2) := by decide +kernel
theorem dL_act_651 : decode cL_act 651 = .ok (.bipush 7, 2) := by decide +kernel
theorem dL_act_653 : decode cL_act 653 = .ok (.iaload, 1) := by decide +kernel
theorem dL_act_654 : decode cL_act 654 = .ok (.iconst 1, 1) := by decide +kernel
theorem dL_act_655 : decode cL_act 655 = .ok (.if_icmp .ne 7, 3) := by decide +kernel
theorem dL_act_658 : decode cL_act 658 = .ok (.iconst 1, 1) := by decide +kernel
theorem dL_act_659 : decode cL_act 659 = .ok (.goto 4, 3) := by decide +kernel
theorem dL_act_662 : decode cL_act 662 = .ok (.iconst 0, 1) := by decide +kernel
theorem dL_act_663 : decode cL_act 663 = .ok (.istore 20, 2) := by decide +kernel
theorem dL_act_665 : decode cL_act 665 = .ok (.aload 19, 2) := by decide +kernel
theorem dL_act_667 : decode cL_act 667 = .ok (.bipush 7, 2) := by decide +kernel
theorem dL_act_669 : decode cL_act 669 = .ok (.iconst 0, 1) := by decide +kernel
theorem dL_act_670 : decode cL_act 670 = .ok (.iastore, 1) := by decide +kernel
theorem dL_act_671 : decode cL_act 671 = .ok (.aload 19, 2) := by decide +kernel
theorem dL_act_673 : decode cL_act 673 = .ok (.iconst 4, 1) := by decide +kernel
theorem dL_act_674 : decode cL_act 674 = .ok (.iaload, 1) := by decide +kernel
theorem dL_act_675 : decode cL_act 675 = .ok (.bipush 10, 2) := by decide +kernel
theorem dL_act_677 : decode cL_act 677 = .ok (.if_icmp .ge 9, 3) := by decide +kernel
theorem dL_act_680 : decode cL_act 680 = .ok (.aload 19, 2) := by decide +kernel
theorem dL_act_682 : decode cL_act 682 = .ok (.iconst 4, 1) := by decide +kernel
theorem dL_act_683 : decode cL_act 683 = .ok (.bipush 10, 2) := by decide +kernel
theorem dL_act_685 : decode cL_act 685 = .ok (.iastore, 1) := by decide +kernel
theorem dL_act_686 : decode cL_act 686 = .ok (.aload_n 0, 1) := by decide +kernel
theorem dL_act_687 : decode cL_act 687 = .ok (.iload_n 2, 1) := by decide +kernel
theorem dL_act_688 : decode cL_act 688 = .ok (.iload 4, 2) := by decide +kernel
theorem dL_act_690 : decode cL_act 690 = .ok (.invokestatic 18, 3) := by decide +kernel
theorem dL_act_693 : decode cL_act 693 = .ok (.invokevirtual 64, 3) := by decide +kernel
theorem dL_act_696 : decode cL_act 696 = .ok (.iload 20, 2) := by decide +kernel
theorem dL_act_698 : decode cL_act 698 = .ok (.if_icmp .ne 7, 3) := by decide +kernel
theorem dL_act_701 : decode cL_act 701 = .ok (.iconst 1, 1) := by decide +kernel
theorem dL_act_702 : decode cL_act 702 = .ok (.goto 4, 3) := by decide +kernel
theorem dL_act_705 : decode cL_act 705 = .ok (.iconst 0, 1) := by decide +kernel
theorem dL_act_706 : decode cL_act 706 = .ok (.ireturn, 1) := by decide +kernel
