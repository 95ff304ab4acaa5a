theorem dL_law_0 : decode cL_law 0 = .ok (.new 29, 3) := by decide +kernel
theorem dL_law_3 : decode cL_law 3 = .ok (.dup, 1) := by decide +kernel
theorem dL_law_4 : decode cL_law 4 = .ok (.invokespecial 77, 3) := by decide +kernel
theorem dL_law_7 : decode cL_law 7 = .ok (.astore_n 1, 1) := by decide +kernel
theorem dL_law_8 : decode cL_law 8 = .ok (.aload_n 1, 1) := by decide +kernel
theorem dL_law_9 : decode cL_law 9 = .ok (.aload_n 0, 1) := by decide +kernel
theorem dL_law_10 : decode cL_law 10 = .ok (.invokestatic 78, 3) := by decide +kernel
theorem dL_law_13 : decode cL_law 13 = .ok (.astore_n 2, 1) := by decide +kernel
theorem dL_law_14 : decode cL_law 14 = .ok (.aload_n 2, 1) := by decide +kernel
theorem dL_law_15 : decode cL_law 15 = .ok (.ifnonnull 5, 3) := by decide +kernel
theorem dL_law_18 : decode cL_law 18 = .ok (.iconst 0, 1) := by decide +kernel
theorem dL_law_19 : decode cL_law 19 = .ok (.ireturn, 1) := by decide +kernel
theorem dL_law_20 : decode cL_law 20 = .ok (.iconst 0, 1) := by decide +kernel
theorem dL_law_21 : decode cL_law 21 = .ok (.istore_n 3, 1) := by decide +kernel
theorem dL_law_22 : decode cL_law 22 = .ok (.iload_n 3, 1) := by decide +kernel
theorem dL_law_23 : decode cL_law 23 = .ok (.bipush 44, 2) := by decide +kernel
theorem dL_law_25 : decode cL_law 25 = .ok (.if_icmp .ge 972, 3) := by decide +kernel
theorem dL_law_28 : decode cL_law 28 = .ok (.aload_n 0, 1) := by decide +kernel
theorem dL_law_29 : decode cL_law 29 = .ok (.iload_n 3, 1) := by decide +kernel
theorem dL_law_30 : decode cL_law 30 = .ok (.bipush 16, 2) := by decide +kernel
theorem dL_law_32 : decode cL_law 32 = .ok (.irem, 1) := by decide +kernel
theorem dL_law_33 : decode cL_law 33 = .ok (.invokestatic 69, 3) := by decide +kernel
theorem dL_law_36 : decode cL_law 36 = .ok (.iload_n 3, 1) := by decide +kernel
theorem dL_law_37 : decode cL_law 37 = .ok (.bipush 16, 2) := by decide +kernel
theorem dL_law_39 : decode cL_law 39 = .ok (.idiv, 1) := by decide +kernel
theorem dL_law_40 : decode cL_law 40 = .ok (.iconst 3, 1) := by decide +kernel
theorem dL_law_41 : decode cL_law 41 = .ok (.imul, 1) := by decide +kernel
theorem dL_law_42 : decode cL_law 42 = .ok (.ishr, 1) := by decide +kernel
theorem dL_law_43 : decode cL_law 43 = .ok (.sipush 151, 3) := by decide +kernel
theorem dL_law_46 : decode cL_law 46 = .ok (.iload_n 3, 1) := by decide +kernel
theorem dL_law_47 : decode cL_law 47 = .ok (.imul, 1) := by decide +kernel
theorem dL_law_48 : decode cL_law 48 = .ok (.iadd, 1) := by decide +kernel
theorem dL_law_49 : decode cL_law 49 = .ok (.istore 4, 2) := by decide +kernel
theorem dL_law_51 : decode cL_law 51 = .ok (.aload_n 1, 1) := by decide +kernel
theorem dL_law_52 : decode cL_law 52 = .ok (.aload_n 2, 1) := by decide +kernel
theorem dL_law_53 : decode cL_law 53 = .ok (.iload 4, 2) := by decide +kernel
theorem dL_law_55 : decode cL_law 55 = .ok (.invokestatic 73, 3) := by decide +kernel
theorem dL_law_58 : decode cL_law 58 = .ok (.ifCond .ne 5, 3) := by decide +kernel
theorem dL_law_61 : decode cL_law 61 = .ok (.iconst 0, 1) := by decide +kernel
theorem dL_law_62 : decode cL_law 62 = .ok (.ireturn, 1) := by decide +kernel
theorem dL_law_63 : decode cL_law 63 = .ok (.iload_n 3, 1) := by decide +kernel
theorem dL_law_64 : decode cL_law 64 = .ok (.iconst 4, 1) := by decide +kernel
theorem dL_law_65 : decode cL_law 65 = .ok (.irem, 1) := by decide +kernel
theorem dL_law_66 : decode cL_law 66 = .ok (.iconst 3, 1) := by decide +kernel
theorem dL_law_67 : decode cL_law 67 = .ok (.if_icmp .ne 44, 3) := by decide +kernel
theorem dL_law_70 : decode cL_law 70 = .ok (.iload 4, 2) := by decide +kernel
theorem dL_law_72 : decode cL_law 72 = .ok (.iconst 4, 1) := by decide +kernel
theorem dL_law_73 : decode cL_law 73 = .ok (.ishr, 1) := by decide +kernel
theorem dL_law_74 : decode cL_law 74 = .ok (.bipush 26, 2) := by decide +kernel
theorem dL_law_76 : decode cL_law 76 = .ok (.invokestatic 18, 3) := by decide +kernel
theorem dL_law_79 : decode cL_law 79 = .ok (.istore 5, 2) := by decide +kernel
theorem dL_law_81 : decode cL_law 81 = .ok (.iconst 0, 1) := by decide +kernel
theorem dL_law_82 : decode cL_law 82 = .ok (.istore 6, 2) := by decide +kernel
theorem dL_law_84 : decode cL_law 84 = .ok (.iload 6, 2) := by decide +kernel
theorem dL_law_86 : decode cL_law 86 = .ok (.iload 5, 2) := by decide +kernel
theorem dL_law_88 : decode cL_law 88 = .ok (.if_icmp .ge 23, 3) := by decide +kernel
theorem dL_law_91 : decode cL_law 91 = .ok (.aload_n 1, 1) := by decide +kernel
theorem dL_law_92 : decode cL_law 92 = .ok (.iconst 1, 1) := by decide +kernel
theorem dL_law_93 : decode cL_law 93 = .ok (.invokevirtual 82, 3) := by decide +kernel
theorem dL_law_96 : decode cL_law 96 = .ok (.aload_n 2, 1) := by decide +kernel
theorem dL_law_97 : decode cL_law 97 = .ok (.invokevirtual 85, 3) := by decide +kernel
theorem dL_law_100 : decode cL_law 100 = .ok (.if_icmp .eq 5, 3) := by decide +kernel
theorem dL_law_103 : decode cL_law 103 = .ok (.iconst 0, 1) := by decide +kernel
theorem dL_law_104 : decode cL_law 104 = .ok (.ireturn, 1) := by decide +kernel
theorem dL_law_105 : decode cL_law 105 = .ok (.iinc 6 1, 3) := by decide +kernel
theorem dL_law_108 : decode cL_law 108 = .ok (.goto (-24), 3) := by decide +kernel
theorem dL_law_111 : decode cL_law 111 = .ok (.aload_n 2, 1) := by decide +kernel
theorem dL_law_112 : decode cL_law 112 = .ok (.getfield 9, 3) := by decide +kernel
theorem dL_law_115 : decode cL_law 115 = .ok (.arraylength, 1) := by decide +kernel
theorem dL_law_116 : decode cL_law 116 = .ok (.istore 5, 2) := by decide +kernel
theorem dL_law_118 : decode cL_law 118 = .ok (.aload_n 2, 1) := by decide +kernel
theorem dL_law_119 : decode cL_law 119 = .ok (.getfield 15, 3) := by decide +kernel
theorem dL_law_122 : decode cL_law 122 = .ok (.arraylength, 1) := by decide +kernel
theorem dL_law_123 : decode cL_law 123 = .ok (.istore 6, 2) := by decide +kernel
theorem dL_law_125 : decode cL_law 125 = .ok (.aload_n 1, 1) := by decide +kernel
theorem dL_law_126 : decode cL_law 126 = .ok (.iconst 1, 1) := by decide +kernel
theorem dL_law_127 : decode cL_law 127 = .ok (.invokevirtual 88, 3) := by decide +kernel
theorem dL_law_130 : decode cL_law 130 = .ok (.istore 7, 2) := by decide +kernel
theorem dL_law_132 : decode cL_law 132 = .ok (.aload_n 1, 1) := by decide +kernel
theorem dL_law_133 : decode cL_law 133 = .ok (.iconst 3, 1) := by decide +kernel
theorem dL_law_134 : decode cL_law 134 = .ok (.invokevirtual 88, 3) := by decide +kernel
theorem dL_law_137 : decode cL_law 137 = .ok (.istore 8, 2) := by decide +kernel
theorem dL_law_139 : decode cL_law 139 = .ok (.aload_n 1, 1) := by decide +kernel
theorem dL_law_140 : decode cL_law 140 = .ok (.iconst 4, 1) := by decide +kernel
theorem dL_law_141 : decode cL_law 141 = .ok (.invokevirtual 88, 3) := by decide +kernel
theorem dL_law_144 : decode cL_law 144 = .ok (.istore 9, 2) := by decide +kernel
theorem dL_law_146 : decode cL_law 146 = .ok (.aload_n 1, 1) := by decide +kernel
theorem dL_law_147 : decode cL_law 147 = .ok (.iconst 5, 1) := by decide +kernel
theorem dL_law_148 : decode cL_law 148 = .ok (.invokevirtual 88, 3) := by decide +kernel
theorem dL_law_151 : decode cL_law 151 = .ok (.istore 10, 2) := by decide +kernel
theorem dL_law_153 : decode cL_law 153 = .ok (.aload_n 1, 1) := by decide +kernel
theorem dL_law_154 : decode cL_law 154 = .ok (.bipush 9, 2) := by decide +kernel
theorem dL_law_156 : decode cL_law 156 = .ok (.invokevirtual 88, 3) := by decide +kernel
theorem dL_law_159 : decode cL_law 159 = .ok (.istore 11, 2) := by decide +kernel
theorem dL_law_161 : decode cL_law 161 = .ok (.iconst 0, 1) := by decide +kernel
theorem dL_law_162 : decode cL_law 162 = .ok (.istore 12, 2) := by decide +kernel
theorem dL_law_164 : decode cL_law 164 = .ok (.iconst 0, 1) := by decide +kernel
theorem dL_law_165 : decode cL_law 165 = .ok (.istore 13, 2) := by decide +kernel
theorem dL_law_167 : decode cL_law 167 = .ok (.iload 13, 2) := by decide +kernel
theorem dL_law_169 : decode cL_law 169 = .ok (.iload 5, 2) := by decide +kernel
theorem dL_law_171 : decode cL_law 171 = .ok (.if_icmp .ge 21, 3) := by decide +kernel
theorem dL_law_174 : decode cL_law 174 = .ok (.iload 12, 2) := by decide +kernel
theorem dL_law_176 : decode cL_law 176 = .ok (.aload_n 1, 1) := by decide +kernel
theorem dL_law_177 : decode cL_law 177 = .ok (.iload 13, 2) := by decide +kernel
theorem dL_law_179 : decode cL_law 179 = .ok (.iconst 3, 1) := by decide +kernel
theorem dL_law_180 : decode cL_law 180 = .ok (.invokevirtual 91, 3) := by decide +kernel
theorem dL_law_183 : decode cL_law 183 = .ok (.iadd, 1) := by decide +kernel
theorem dL_law_184 : decode cL_law 184 = .ok (.istore 12, 2) := by decide +kernel
theorem dL_law_186 : decode cL_law 186 = .ok (.iinc 13 1, 3) := by decide +kernel
theorem dL_law_189 : decode cL_law 189 = .ok (.goto (-22), 3) := by decide +kernel
theorem dL_law_192 : decode cL_law 192 = .ok (.iload 6, 2) := by decide +kernel
theorem dL_law_194 : decode cL_law 194 = .ok (.bipush 8, 2) := by decide +kernel
theorem dL_law_196 : decode cL_law 196 = .ok (.multianewarray 94 2, 4) := by decide +kernel
theorem dL_law_200 : decode cL_law 200 = .ok (.astore 13, 2) := by decide +kernel
theorem dL_law_202 : decode cL_law 202 = .ok (.iconst 0, 1) := by decide +kernel
theorem dL_law_203 : decode cL_law 203 = .ok (.istore 14, 2) := by decide +kernel
theorem dL_law_205 : decode cL_law 205 = .ok (.iload 14, 2) := by decide +kernel
theorem dL_law_207 : decode cL_law 207 = .ok (.iload 6, 2) := by decide +kernel
theorem dL_law_209 : decode cL_law 209 = .ok (.if_icmp .ge 41, 3) := by decide +kernel
theorem dL_law_212 : decode cL_law 212 = .ok (.iconst 0, 1) := by decide +kernel
theorem dL_law_213 : decode cL_law 213 = .ok (.istore 15, 2) := by decide +kernel
theorem dL_law_215 : decode cL_law 215 = .ok (.iload 15, 2) := by decide +kernel
theorem dL_law_217 : decode cL_law 217 = .ok (.bipush 8, 2) := by decide +kernel
theorem dL_law_219 : decode cL_law 219 = .ok (.if_icmp .ge 25, 3) := by decide +kernel
theorem dL_law_222 : decode cL_law 222 = .ok (.aload 13, 2) := by decide +kernel
theorem dL_law_224 : decode cL_law 224 = .ok (.iload 14, 2) := by decide +kernel
theorem dL_law_226 : decode cL_law 226 = .ok (.aaload, 1) := by decide +kernel
theorem dL_law_227 : decode cL_law 227 = .ok (.iload 15, 2) := by decide +kernel
theorem dL_law_229 : decode cL_law 229 = .ok (.aload_n 1, 1) := by decide +kernel
theorem dL_law_230 : decode cL_law 230 = .ok (.iload 14, 2) := by decide +kernel
theorem dL_law_232 : decode cL_law 232 = .ok (.iload 15, 2) := by decide +kernel
theorem dL_law_234 : decode cL_law 234 = .ok (.invokevirtual 95, 3) := by decide +kernel
theorem dL_law_237 : decode cL_law 237 = .ok (.iastore, 1) := by decide +kernel
theorem dL_law_238 : decode cL_law 238 = .ok (.iinc 15 1, 3) := by decide +kernel
theorem dL_law_241 : decode cL_law 241 = .ok (.goto (-26), 3) := by decide +kernel
theorem dL_law_244 : decode cL_law 244 = .ok (.iinc 14 1, 3) := by decide +kernel
theorem dL_law_247 : decode cL_law 247 = .ok (.goto (-42), 3) := by decide +kernel
theorem dL_law_250 : decode cL_law 250 = .ok (.aload_n 1, 1) := by decide +kernel
theorem dL_law_251 : decode cL_law 251 = .ok (.invokevirtual 98, 3) := by decide +kernel
theorem dL_law_254 : decode cL_law 254 = .ok (.istore 14, 2) := by decide +kernel
theorem dL_law_256 : decode cL_law 256 = .ok (.aload_n 1, 1) := by decide +kernel
theorem dL_law_257 : decode cL_law 257 = .ok (.iconst 1, 1) := by decide +kernel
theorem dL_law_258 : decode cL_law 258 = .ok (.iconst 0, 1) := by decide +kernel
theorem dL_law_259 : decode cL_law 259 = .ok (.invokevirtual 101, 3) := by decide +kernel
theorem dL_law_262 : decode cL_law 262 = .ok (.istore 15, 2) := by decide +kernel
theorem dL_law_264 : decode cL_law 264 = .ok (.aload_n 1, 1) := by decide +kernel
theorem dL_law_265 : decode cL_law 265 = .ok (.iconst 1, 1) := by decide +kernel
theorem dL_law_266 : decode cL_law 266 = .ok (.iconst 1, 1) := by decide +kernel
theorem dL_law_267 : decode cL_law 267 = .ok (.invokevirtual 101, 3) := by decide +kernel
theorem dL_law_270 : decode cL_law 270 = .ok (.istore 16, 2) := by decide +kernel
theorem dL_law_272 : decode cL_law 272 = .ok (.aload_n 1, 1) := by decide +kernel
theorem dL_law_273 : decode cL_law 273 = .ok (.iconst 1, 1) := by decide +kernel
theorem dL_law_274 : decode cL_law 274 = .ok (.iconst 2, 1) := by decide +kernel
theorem dL_law_275 : decode cL_law 275 = .ok (.invokevirtual 101, 3) := by decide +kernel
theorem dL_law_278 : decode cL_law 278 = .ok (.istore 17, 2) := by decide +kernel
theorem dL_law_280 : decode cL_law 280 = .ok (.aload_n 1, 1) := by decide +kernel
theorem dL_law_281 : decode cL_law 281 = .ok (.iconst 1, 1) := by decide +kernel
theorem dL_law_282 : decode cL_law 282 = .ok (.iconst 3, 1) := by decide +kernel
theorem dL_law_283 : decode cL_law 283 = .ok (.invokevirtual 101, 3) := by decide +kernel
theorem dL_law_286 : decode cL_law 286 = .ok (.istore 18, 2) := by decide +kernel
theorem dL_law_288 : decode cL_law 288 = .ok (.aload_n 1, 1) := by decide +kernel
theorem dL_law_289 : decode cL_law 289 = .ok (.bipush 7, 2) := by decide +kernel
theorem dL_law_291 : decode cL_law 291 = .ok (.invokevirtual 88, 3) := by decide +kernel
theorem dL_law_294 : decode cL_law 294 = .ok (.istore 19, 2) := by decide +kernel
theorem dL_law_296 : decode cL_law 296 = .ok (.aload_n 1, 1) := by decide +kernel
theorem dL_law_297 : decode cL_law 297 = .ok (.iconst 1, 1) := by decide +kernel
theorem dL_law_298 : decode cL_law 298 = .ok (.invokevirtual 82, 3) := by decide +kernel
theorem dL_law_301 : decode cL_law 301 = .ok (.iload 15, 2) := by decide +kernel
theorem dL_law_303 : decode cL_law 303 = .ok (.if_icmp .ne 107, 3) := by decide +kernel
theorem dL_law_306 : decode cL_law 306 = .ok (.aload_n 1, 1) := by decide +kernel
theorem dL_law_307 : decode cL_law 307 = .ok (.bipush 7, 2) := by decide +kernel
theorem dL_law_309 : decode cL_law 309 = .ok (.invokevirtual 88, 3) := by decide +kernel
theorem dL_law_312 : decode cL_law 312 = .ok (.iload 19, 2) := by decide +kernel
theorem dL_law_314 : decode cL_law 314 = .ok (.iload 15, 2) := by decide +kernel
theorem dL_law_316 : decode cL_law 316 = .ok (.iadd, 1) := by decide +kernel
theorem dL_law_317 : decode cL_law 317 = .ok (.if_icmp .ne 93, 3) := by decide +kernel
theorem dL_law_320 : decode cL_law 320 = .ok (.aload_n 1, 1) := by decide +kernel
theorem dL_law_321 : decode cL_law 321 = .ok (.iconst 3, 1) := by decide +kernel
theorem dL_law_322 : decode cL_law 322 = .ok (.invokevirtual 88, 3) := by decide +kernel
theorem dL_law_325 : decode cL_law 325 = .ok (.iload 16, 2) := by decide +kernel
theorem dL_law_327 : decode cL_law 327 = .ok (.if_icmp .ne 83, 3) := by decide +kernel
theorem dL_law_330 : decode cL_law 330 = .ok (.aload_n 1, 1) := by decide +kernel
theorem dL_law_331 : decode cL_law 331 = .ok (.iconst 4, 1) := by decide +kernel
theorem dL_law_332 : decode cL_law 332 = .ok (.invokevirtual 88, 3) := by decide +kernel
theorem dL_law_335 : decode cL_law 335 = .ok (.iload 17, 2) := by decide +kernel
theorem dL_law_337 : decode cL_law 337 = .ok (.if_icmp .ne 73, 3) := by decide +kernel
theorem dL_law_340 : decode cL_law 340 = .ok (.iload 7, 2) := by decide +kernel
theorem dL_law_342 : decode cL_law 342 = .ok (.bipush 12, 2) := by decide +kernel
theorem dL_law_344 : decode cL_law 344 = .ok (.if_icmp .eq 8, 3) := by decide +kernel
theorem dL_law_347 : decode cL_law 347 = .ok (.iload 15, 2) := by decide +kernel
theorem dL_law_349 : decode cL_law 349 = .ok (.ifCond .ne 61, 3) := by decide +kernel
theorem dL_law_352 : decode cL_law 352 = .ok (.iload 14, 2) := by decide +kernel
theorem dL_law_354 : decode cL_law 354 = .ok (.iconst 1, 1) := by decide +kernel
theorem dL_law_355 : decode cL_law 355 = .ok (.if_icmp .le 14, 3) := by decide +kernel
theorem dL_law_358 : decode cL_law 358 = .ok (.aload_n 1, 1) := by decide +kernel
theorem dL_law_359 : decode cL_law 359 = .ok (.invokevirtual 98, 3) := by decide +kernel
theorem dL_law_362 : decode cL_law 362 = .ok (.iload 14, 2) := by decide +kernel
theorem dL_law_364 : decode cL_law 364 = .ok (.iconst 1, 1) := by decide +kernel
theorem dL_law_365 : decode cL_law 365 = .ok (.isub, 1) := by decide +kernel
theorem dL_law_366 : decode cL_law 366 = .ok (.if_icmp .lt 44, 3) := by decide +kernel
theorem dL_law_369 : decode cL_law 369 = .ok (.iload 14, 2) := by decide +kernel
theorem dL_law_371 : decode cL_law 371 = .ok (.iconst 1, 1) := by decide +kernel
theorem dL_law_372 : decode cL_law 372 = .ok (.if_icmp .le 14, 3) := by decide +kernel
theorem dL_law_375 : decode cL_law 375 = .ok (.aload_n 1, 1) := by decide +kernel
theorem dL_law_376 : decode cL_law 376 = .ok (.invokevirtual 98, 3) := by decide +kernel
theorem dL_law_379 : decode cL_law 379 = .ok (.iload 14, 2) := by decide +kernel
theorem dL_law_381 : decode cL_law 381 = .ok (.iconst 1, 1) := by decide +kernel
theorem dL_law_382 : decode cL_law 382 = .ok (.isub, 1) := by decide +kernel
theorem dL_law_383 : decode cL_law 383 = .ok (.if_icmp .gt 27, 3) := by decide +kernel
theorem dL_law_386 : decode cL_law 386 = .ok (.iload 14, 2) := by decide +kernel
theorem dL_law_388 : decode cL_law 388 = .ok (.iconst 1, 1) := by decide +kernel
theorem dL_law_389 : decode cL_law 389 = .ok (.if_icmp .ne 7, 3) := by decide +kernel
theorem dL_law_392 : decode cL_law 392 = .ok (.iconst 1, 1) := by decide +kernel
theorem dL_law_393 : decode cL_law 393 = .ok (.goto 4, 3) := by decide +kernel
theorem dL_law_396 : decode cL_law 396 = .ok (.iconst 0, 1) := by decide +kernel
theorem dL_law_397 : decode cL_law 397 = .ok (.iload 15, 2) := by decide +kernel
theorem dL_law_399 : decode cL_law 399 = .ok (.ifCond .le 7, 3) := by decide +kernel
theorem dL_law_402 : decode cL_law 402 = .ok (.iconst 1, 1) := by decide +kernel
theorem dL_law_403 : decode cL_law 403 = .ok (.goto 4, 3) := by decide +kernel
theorem dL_law_406 : decode cL_law 406 = .ok (.iconst 0, 1) := by decide +kernel
theorem dL_law_407 : decode cL_law 407 = .ok (.if_icmp .eq 5, 3) := by decide +kernel
theorem dL_law_410 : decode cL_law 410 = .ok (.iconst 0, 1) := by decide +kernel
theorem dL_law_411 : decode cL_law 411 = .ok (.ireturn, 1) := by decide +kernel
theorem dL_law_412 : decode cL_law 412 = .ok (.aload_n 2, 1) := by decide +kernel
theorem dL_law_413 : decode cL_law 413 = .ok (.invokevirtual 85, 3) := by decide +kernel
theorem dL_law_416 : decode cL_law 416 = .ok (.pop, 1) := by decide +kernel
theorem dL_law_417 : decode cL_law 417 = .ok (.iconst 0, 1) := by decide +kernel
theorem dL_law_418 : decode cL_law 418 = .ok (.istore 20, 2) := by decide +kernel
theorem dL_law_420 : decode cL_law 420 = .ok (.iconst 0, 1) := by decide +kernel
theorem dL_law_421 : decode cL_law 421 = .ok (.istore 21, 2) := by decide +kernel
theorem dL_law_423 : decode cL_law 423 = .ok (.iconst 0, 1) := by decide +kernel
theorem dL_law_424 : decode cL_law 424 = .ok (.istore 22, 2) := by decide +kernel
theorem dL_law_426 : decode cL_law 426 = .ok (.aload_n 1, 1) := by decide +kernel
theorem dL_law_427 : decode cL_law 427 = .ok (.iconst 2, 1) := by decide +kernel
theorem dL_law_428 : decode cL_law 428 = .ok (.invokevirtual 88, 3) := by decide +kernel
theorem dL_law_431 : decode cL_law 431 = .ok (.istore 23, 2) := by decide +kernel
theorem dL_law_433 : decode cL_law 433 = .ok (.iconst 0, 1) := by decide +kernel
theorem dL_law_434 : decode cL_law 434 = .ok (.istore 24, 2) := by decide +kernel
theorem dL_law_436 : decode cL_law 436 = .ok (.iconst 0, 1) := by decide +kernel
theorem dL_law_437 : decode cL_law 437 = .ok (.istore 25, 2) := by decide +kernel
theorem dL_law_439 : decode cL_law 439 = .ok (.iconst 0, 1) := by decide +kernel
theorem dL_law_440 : decode cL_law 440 = .ok (.istore 26, 2) := by decide +kernel
theorem dL_law_442 : decode cL_law 442 = .ok (.iload 26, 2) := by decide +kernel
theorem dL_law_444 : decode cL_law 444 = .ok (.iload 5, 2) := by decide +kernel
theorem dL_law_446 : decode cL_law 446 = .ok (.if_icmp .ge 80, 3) := by decide +kernel
theorem dL_law_449 : decode cL_law 449 = .ok (.iload 24, 2) := by decide +kernel
theorem dL_law_451 : decode cL_law 451 = .ok (.aload_n 1, 1) := by decide +kernel
theorem dL_law_452 : decode cL_law 452 = .ok (.iload 26, 2) := by decide +kernel
theorem dL_law_454 : decode cL_law 454 = .ok (.iconst 3, 1) := by decide +kernel
theorem dL_law_455 : decode cL_law 455 = .ok (.invokevirtual 91, 3) := by decide +kernel
theorem dL_law_458 : decode cL_law 458 = .ok (.iadd, 1) := by decide +kernel
theorem dL_law_459 : decode cL_law 459 = .ok (.istore 24, 2) := by decide +kernel
theorem dL_law_461 : decode cL_law 461 = .ok (.iload 25, 2) := by decide +kernel
theorem dL_law_463 : decode cL_law 463 = .ok (.aload_n 1, 1) := by decide +kernel
theorem dL_law_464 : decode cL_law 464 = .ok (.iload 26, 2) := by decide +kernel
theorem dL_law_466 : decode cL_law 466 = .ok (.iconst 1, 1) := by decide +kernel
theorem dL_law_467 : decode cL_law 467 = .ok (.invokevirtual 91, 3) := by decide +kernel
theorem dL_law_470 : decode cL_law 470 = .ok (.iadd, 1) := by decide +kernel
theorem dL_law_471 : decode cL_law 471 = .ok (.istore 25, 2) := by decide +kernel
theorem dL_law_473 : decode cL_law 473 = .ok (.aload_n 1, 1) := by decide +kernel
theorem dL_law_474 : decode cL_law 474 = .ok (.iload 26, 2) := by decide +kernel
theorem dL_law_476 : decode cL_law 476 = .ok (.iconst 0, 1) := by decide +kernel
theorem dL_law_477 : decode cL_law 477 = .ok (.invokevirtual 91, 3) := by decide +kernel
theorem dL_law_480 : decode cL_law 480 = .ok (.ifCond .lt 38, 3) := by decide +kernel
theorem dL_law_483 : decode cL_law 483 = .ok (.aload_n 1, 1) := by decide +kernel
theorem dL_law_484 : decode cL_law 484 = .ok (.iload 26, 2) := by decide +kernel
theorem dL_law_486 : decode cL_law 486 = .ok (.iconst 0, 1) := by decide +kernel
theorem dL_law_487 : decode cL_law 487 = .ok (.invokevirtual 91, 3) := by decide +kernel
theorem dL_law_490 : decode cL_law 490 = .ok (.sipush 900, 3) := by decide +kernel
theorem dL_law_493 : decode cL_law 493 = .ok (.if_icmp .gt 25, 3) := by decide +kernel
theorem dL_law_496 : decode cL_law 496 = .ok (.aload_n 1, 1) := by decide +kernel
theorem dL_law_497 : decode cL_law 497 = .ok (.iload 26, 2) := by decide +kernel
theorem dL_law_499 : decode cL_law 499 = .ok (.iconst 1, 1) := by decide +kernel
theorem dL_law_500 : decode cL_law 500 = .ok (.invokevirtual 91, 3) := by decide +kernel
theorem dL_law_503 : decode cL_law 503 = .ok (.ifCond .lt 15, 3) := by decide +kernel
theorem dL_law_506 : decode cL_law 506 = .ok (.aload_n 1, 1) := by decide +kernel
theorem dL_law_507 : decode cL_law 507 = .ok (.iload 26, 2) := by decide +kernel
theorem dL_law_509 : decode cL_law 509 = .ok (.iconst 1, 1) := by decide +kernel
theorem dL_law_510 : decode cL_law 510 = .ok (.invokevirtual 91, 3) := by decide +kernel
theorem dL_law_513 : decode cL_law 513 = .ok (.bipush 50, 2) := by decide +kernel
theorem dL_law_515 : decode cL_law 515 = .ok (.if_icmp .le 5, 3) := by decide +kernel
theorem dL_law_518 : decode cL_law 518 = .ok (.iconst 0, 1) := by decide +kernel
theorem dL_law_519 : decode cL_law 519 = .ok (.ireturn, 1) := by decide +kernel
theorem dL_law_520 : decode cL_law 520 = .ok (.iinc 26 1, 3) := by decide +kernel
theorem dL_law_523 : decode cL_law 523 = .ok (.goto (-81), 3) := by decide +kernel
theorem dL_law_526 : decode cL_law 526 = .ok (.iconst 1, 1) := by decide +kernel
theorem dL_law_527 : decode cL_law 527 = .ok (.istore 26, 2) := by decide +kernel
theorem dL_law_529 : decode cL_law 529 = .ok (.iconst 0, 1) := by decide +kernel
theorem dL_law_530 : decode cL_law 530 = .ok (.istore 27, 2) := by decide +kernel
theorem dL_law_532 : decode cL_law 532 = .ok (.iload 27, 2) := by decide +kernel
theorem dL_law_534 : decode cL_law 534 = .ok (.iload 6, 2) := by decide +kernel
theorem dL_law_536 : decode cL_law 536 = .ok (.if_icmp .ge 304, 3) := by decide +kernel
theorem dL_law_539 : decode cL_law 539 = .ok (.aload_n 1, 1) := by decide +kernel
theorem dL_law_540 : decode cL_law 540 = .ok (.iload 27, 2) := by decide +kernel
theorem dL_law_542 : decode cL_law 542 = .ok (.bipush 6, 2) := by decide +kernel
theorem dL_law_544 : decode cL_law 544 = .ok (.invokevirtual 95, 3) := by decide +kernel
theorem dL_law_547 : decode cL_law 547 = .ok (.aload 13, 2) := by decide +kernel
theorem dL_law_549 : decode cL_law 549 = .ok (.iload 27, 2) := by decide +kernel
theorem dL_law_551 : decode cL_law 551 = .ok (.aaload, 1) := by decide +kernel
theorem dL_law_552 : decode cL_law 552 = .ok (.bipush 6, 2) := by decide +kernel
theorem dL_law_554 : decode cL_law 554 = .ok (.iaload, 1) := by decide +kernel
theorem dL_law_555 : decode cL_law 555 = .ok (.isub, 1) := by decide +kernel
theorem dL_law_556 : decode cL_law 556 = .ok (.istore 28, 2) := by decide +kernel
theorem dL_law_558 : decode cL_law 558 = .ok (.aload_n 1, 1) := by decide +kernel
theorem dL_law_559 : decode cL_law 559 = .ok (.iload 27, 2) := by decide +kernel
theorem dL_law_561 : decode cL_law 561 = .ok (.iconst 5, 1) := by decide +kernel
theorem dL_law_562 : decode cL_law 562 = .ok (.invokevirtual 95, 3) := by decide +kernel
theorem dL_law_565 : decode cL_law 565 = .ok (.iload 28, 2) := by decide +kernel
theorem dL_law_567 : decode cL_law 567 = .ok (.iadd, 1) := by decide +kernel
theorem dL_law_568 : decode cL_law 568 = .ok (.aload 13, 2) := by decide +kernel
theorem dL_law_570 : decode cL_law 570 = .ok (.iload 27, 2) := by decide +kernel
theorem dL_law_572 : decode cL_law 572 = .ok (.aaload, 1) := by decide +kernel
theorem dL_law_573 : decode cL_law 573 = .ok (.iconst 5, 1) := by decide +kernel
theorem dL_law_574 : decode cL_law 574 = .ok (.iaload, 1) := by decide +kernel
theorem dL_law_575 : decode cL_law 575 = .ok (.isub, 1) := by decide +kernel
theorem dL_law_576 : decode cL_law 576 = .ok (.istore 29, 2) := by decide +kernel
theorem dL_law_578 : decode cL_law 578 = .ok (.aload_n 1, 1) := by decide +kernel
theorem dL_law_579 : decode cL_law 579 = .ok (.iload 27, 2) := by decide +kernel
theorem dL_law_581 : decode cL_law 581 = .ok (.iconst 3, 1) := by decide +kernel
theorem dL_law_582 : decode cL_law 582 = .ok (.invokevirtual 95, 3) := by decide +kernel
theorem dL_law_585 : decode cL_law 585 = .ok (.iload 29, 2) := by decide +kernel
theorem dL_law_587 : decode cL_law 587 = .ok (.aload 13, 2) := by decide +kernel
theorem dL_law_589 : decode cL_law 589 = .ok (.iload 27, 2) := by decide +kernel
theorem dL_law_591 : decode cL_law 591 = .ok (.aaload, 1) := by decide +kernel
theorem dL_law_592 : decode cL_law 592 = .ok (.iconst 4, 1) := by decide +kernel
theorem dL_law_593 : decode cL_law 593 = .ok (.iaload, 1) := by decide +kernel
theorem dL_law_594 : decode cL_law 594 = .ok (.imul, 1) := by decide +kernel
theorem dL_law_595 : decode cL_law 595 = .ok (.iadd, 1) := by decide +kernel
theorem dL_law_596 : decode cL_law 596 = .ok (.aload 13, 2) := by decide +kernel
theorem dL_law_598 : decode cL_law 598 = .ok (.iload 27, 2) := by decide +kernel
theorem dL_law_600 : decode cL_law 600 = .ok (.aaload, 1) := by decide +kernel
theorem dL_law_601 : decode cL_law 601 = .ok (.iconst 3, 1) := by decide +kernel
theorem dL_law_602 : decode cL_law 602 = .ok (.iaload, 1) := by decide +kernel
theorem dL_law_603 : decode cL_law 603 = .ok (.isub, 1) := by decide +kernel
theorem dL_law_604 : decode cL_law 604 = .ok (.istore 30, 2) := by decide +kernel
theorem dL_law_606 : decode cL_law 606 = .ok (.iload 20, 2) := by decide +kernel
theorem dL_law_608 : decode cL_law 608 = .ok (.iload 30, 2) := by decide +kernel
theorem dL_law_610 : decode cL_law 610 = .ok (.iadd, 1) := by decide +kernel
theorem dL_law_611 : decode cL_law 611 = .ok (.istore 20, 2) := by decide +kernel
theorem dL_law_613 : decode cL_law 613 = .ok (.iload 21, 2) := by decide +kernel
theorem dL_law_615 : decode cL_law 615 = .ok (.iload 29, 2) := by decide +kernel
theorem dL_law_617 : decode cL_law 617 = .ok (.iadd, 1) := by decide +kernel
theorem dL_law_618 : decode cL_law 618 = .ok (.istore 21, 2) := by decide +kernel
theorem dL_law_620 : decode cL_law 620 = .ok (.iload 22, 2) := by decide +kernel
theorem dL_law_622 : decode cL_law 622 = .ok (.iload 28, 2) := by decide +kernel
theorem dL_law_624 : decode cL_law 624 = .ok (.iadd, 1) := by decide +kernel
theorem dL_law_625 : decode cL_law 625 = .ok (.istore 22, 2) := by decide +kernel
theorem dL_law_627 : decode cL_law 627 = .ok (.iload 28, 2) := by decide +kernel
theorem dL_law_629 : decode cL_law 629 = .ok (.ifCond .lt 63, 3) := by decide +kernel
theorem dL_law_632 : decode cL_law 632 = .ok (.iload 29, 2) := by decide +kernel
theorem dL_law_634 : decode cL_law 634 = .ok (.ifCond .lt 58, 3) := by decide +kernel
theorem dL_law_637 : decode cL_law 637 = .ok (.iload 29, 2) := by decide +kernel
theorem dL_law_639 : decode cL_law 639 = .ok (.iconst 4, 1) := by decide +kernel
theorem dL_law_640 : decode cL_law 640 = .ok (.if_icmp .gt 52, 3) := by decide +kernel
theorem dL_law_643 : decode cL_law 643 = .ok (.iload 30, 2) := by decide +kernel
theorem dL_law_645 : decode cL_law 645 = .ok (.ifCond .lt 47, 3) := by decide +kernel
theorem dL_law_648 : decode cL_law 648 = .ok (.iload 30, 2) := by decide +kernel
theorem dL_law_650 : decode cL_law 650 = .ok (.aload 13, 2) := by decide +kernel
theorem dL_law_652 : decode cL_law 652 = .ok (.iload 27, 2) := by decide +kernel
theorem dL_law_654 : decode cL_law 654 = .ok (.aaload, 1) := by decide +kernel
theorem dL_law_655 : decode cL_law 655 = .ok (.iconst 2, 1) := by decide +kernel
theorem dL_law_656 : decode cL_law 656 = .ok (.iaload, 1) := by decide +kernel
theorem dL_law_657 : decode cL_law 657 = .ok (.if_icmp .gt 35, 3) := by decide +kernel
theorem dL_law_660 : decode cL_law 660 = .ok (.iload 30, 2) := by decide +kernel
theorem dL_law_662 : decode cL_law 662 = .ok (.ifCond .le 8, 3) := by decide +kernel
theorem dL_law_665 : decode cL_law 665 = .ok (.iload 7, 2) := by decide +kernel
theorem dL_law_667 : decode cL_law 667 = .ok (.ifCond .ne 25, 3) := by decide +kernel
theorem dL_law_670 : decode cL_law 670 = .ok (.aload 13, 2) := by decide +kernel
theorem dL_law_672 : decode cL_law 672 = .ok (.iload 27, 2) := by decide +kernel
theorem dL_law_674 : decode cL_law 674 = .ok (.aaload, 1) := by decide +kernel
theorem dL_law_675 : decode cL_law 675 = .ok (.bipush 7, 2) := by decide +kernel
theorem dL_law_677 : decode cL_law 677 = .ok (.iaload, 1) := by decide +kernel
theorem dL_law_678 : decode cL_law 678 = .ok (.iconst 1, 1) := by decide +kernel
theorem dL_law_679 : decode cL_law 679 = .ok (.if_icmp .ne 15, 3) := by decide +kernel
theorem dL_law_682 : decode cL_law 682 = .ok (.iload 30, 2) := by decide +kernel
theorem dL_law_684 : decode cL_law 684 = .ok (.ifCond .ne 8, 3) := by decide +kernel
theorem dL_law_687 : decode cL_law 687 = .ok (.iload 29, 2) := by decide +kernel
theorem dL_law_689 : decode cL_law 689 = .ok (.ifCond .eq 5, 3) := by decide +kernel
theorem dL_law_692 : decode cL_law 692 = .ok (.iconst 0, 1) := by decide +kernel
theorem dL_law_693 : decode cL_law 693 = .ok (.ireturn, 1) := by decide +kernel
theorem dL_law_694 : decode cL_law 694 = .ok (.aload 13, 2) := by decide +kernel
theorem dL_law_696 : decode cL_law 696 = .ok (.iload 27, 2) := by decide +kernel
theorem dL_law_698 : decode cL_law 698 = .ok (.aaload, 1) := by decide +kernel
theorem dL_law_699 : decode cL_law 699 = .ok (.bipush 7, 2) := by decide +kernel
theorem dL_law_701 : decode cL_law 701 = .ok (.iaload, 1) := by decide +kernel
theorem dL_law_702 : decode cL_law 702 = .ok (.ifCond .ne 26, 3) := by decide +kernel
theorem dL_law_705 : decode cL_law 705 = .ok (.iload 29, 2) := by decide +kernel
theorem dL_law_707 : decode cL_law 707 = .ok (.iconst 4, 1) := by decide +kernel
theorem dL_law_708 : decode cL_law 708 = .ok (.if_icmp .ge 20, 3) := by decide +kernel
theorem dL_law_711 : decode cL_law 711 = .ok (.aload_n 1, 1) := by decide +kernel
theorem dL_law_712 : decode cL_law 712 = .ok (.iload 27, 2) := by decide +kernel
theorem dL_law_714 : decode cL_law 714 = .ok (.iconst 3, 1) := by decide +kernel
theorem dL_law_715 : decode cL_law 715 = .ok (.invokevirtual 95, 3) := by decide +kernel
theorem dL_law_718 : decode cL_law 718 = .ok (.aload 13, 2) := by decide +kernel
theorem dL_law_720 : decode cL_law 720 = .ok (.iload 27, 2) := by decide +kernel
theorem dL_law_722 : decode cL_law 722 = .ok (.aaload, 1) := by decide +kernel
theorem dL_law_723 : decode cL_law 723 = .ok (.iconst 4, 1) := by decide +kernel
theorem dL_law_724 : decode cL_law 724 = .ok (.iaload, 1) := by decide +kernel
theorem dL_law_725 : decode cL_law 725 = .ok (.if_icmp .ge 13, 3) := by decide +kernel
theorem dL_law_728 : decode cL_law 728 = .ok (.iload 28, 2) := by decide +kernel
theorem dL_law_730 : decode cL_law 730 = .ok (.ifCond .le 10, 3) := by decide +kernel
theorem dL_law_733 : decode cL_law 733 = .ok (.iload 26, 2) := by decide +kernel
theorem dL_law_735 : decode cL_law 735 = .ok (.ifCond .ne 5, 3) := by decide +kernel
theorem dL_law_738 : decode cL_law 738 = .ok (.iconst 0, 1) := by decide +kernel
theorem dL_law_739 : decode cL_law 739 = .ok (.ireturn, 1) := by decide +kernel
theorem dL_law_740 : decode cL_law 740 = .ok (.iload 7, 2) := by decide +kernel
theorem dL_law_742 : decode cL_law 742 = .ok (.bipush 12, 2) := by decide +kernel
theorem dL_law_744 : decode cL_law 744 = .ok (.if_icmp .ne 16, 3) := by decide +kernel
theorem dL_law_747 : decode cL_law 747 = .ok (.aload_n 1, 1) := by decide +kernel
theorem dL_law_748 : decode cL_law 748 = .ok (.iload 27, 2) := by decide +kernel
theorem dL_law_750 : decode cL_law 750 = .ok (.iconst 5, 1) := by decide +kernel
theorem dL_law_751 : decode cL_law 751 = .ok (.invokevirtual 95, 3) := by decide +kernel
theorem dL_law_754 : decode cL_law 754 = .ok (.ifCond .le 6, 3) := by decide +kernel
theorem dL_law_757 : decode cL_law 757 = .ok (.iconst 0, 1) := by decide +kernel
theorem dL_law_758 : decode cL_law 758 = .ok (.istore 26, 2) := by decide +kernel
theorem dL_law_760 : decode cL_law 760 = .ok (.iconst 0, 1) := by decide +kernel
theorem dL_law_761 : decode cL_law 761 = .ok (.istore 31, 2) := by decide +kernel
theorem dL_law_763 : decode cL_law 763 = .ok (.iload 31, 2) := by decide +kernel
theorem dL_law_765 : decode cL_law 765 = .ok (.bipush 8, 2) := by decide +kernel
theorem dL_law_767 : decode cL_law 767 = .ok (.if_icmp .ge 49, 3) := by decide +kernel
theorem dL_law_770 : decode cL_law 770 = .ok (.iload 31, 2) := by decide +kernel
theorem dL_law_772 : decode cL_law 772 = .ok (.iconst 3, 1) := by decide +kernel
theorem dL_law_773 : decode cL_law 773 = .ok (.if_icmp .eq 37, 3) := by decide +kernel
theorem dL_law_776 : decode cL_law 776 = .ok (.iload 31, 2) := by decide +kernel
theorem dL_law_778 : decode cL_law 778 = .ok (.iconst 5, 1) := by decide +kernel
theorem dL_law_779 : decode cL_law 779 = .ok (.if_icmp .eq 31, 3) := by decide +kernel
theorem dL_law_782 : decode cL_law 782 = .ok (.iload 31, 2) := by decide +kernel
theorem dL_law_784 : decode cL_law 784 = .ok (.bipush 6, 2) := by decide +kernel
theorem dL_law_786 : decode cL_law 786 = .ok (.if_icmp .eq 24, 3) := by decide +kernel
theorem dL_law_789 : decode cL_law 789 = .ok (.aload_n 1, 1) := by decide +kernel
theorem dL_law_790 : decode cL_law 790 = .ok (.iload 27, 2) := by decide +kernel
theorem dL_law_792 : decode cL_law 792 = .ok (.iload 31, 2) := by decide +kernel
theorem dL_law_794 : decode cL_law 794 = .ok (.invokevirtual 95, 3) := by decide +kernel
theorem dL_law_797 : decode cL_law 797 = .ok (.aload 13, 2) := by decide +kernel
theorem dL_law_799 : decode cL_law 799 = .ok (.iload 27, 2) := by decide +kernel
theorem dL_law_801 : decode cL_law 801 = .ok (.aaload, 1) := by decide +kernel
theorem dL_law_802 : decode cL_law 802 = .ok (.iload 31, 2) := by decide +kernel
theorem dL_law_804 : decode cL_law 804 = .ok (.iaload, 1) := by decide +kernel
theorem dL_law_805 : decode cL_law 805 = .ok (.if_icmp .eq 5, 3) := by decide +kernel
theorem dL_law_808 : decode cL_law 808 = .ok (.iconst 0, 1) := by decide +kernel
theorem dL_law_809 : decode cL_law 809 = .ok (.ireturn, 1) := by decide +kernel
theorem dL_law_810 : decode cL_law 810 = .ok (.iinc 31 1, 3) := by decide +kernel
theorem dL_law_813 : decode cL_law 813 = .ok (.goto (-50), 3) := by decide +kernel
theorem dL_law_816 : decode cL_law 816 = .ok (.aload_n 1, 1) := by decide +kernel
theorem dL_law_817 : decode cL_law 817 = .ok (.aload 13, 2) := by decide +kernel
theorem dL_law_819 : decode cL_law 819 = .ok (.iload 27, 2) := by decide +kernel
theorem dL_law_821 : decode cL_law 821 = .ok (.aaload, 1) := by decide +kernel
theorem dL_law_822 : decode cL_law 822 = .ok (.iconst 1, 1) := by decide +kernel
theorem dL_law_823 : decode cL_law 823 = .ok (.iaload, 1) := by decide +kernel
theorem dL_law_824 : decode cL_law 824 = .ok (.invokevirtual 104, 3) := by decide +kernel
theorem dL_law_827 : decode cL_law 827 = .ok (.iload 27, 2) := by decide +kernel
theorem dL_law_829 : decode cL_law 829 = .ok (.if_icmp .eq 5, 3) := by decide +kernel
theorem dL_law_832 : decode cL_law 832 = .ok (.iconst 0, 1) := by decide +kernel
theorem dL_law_833 : decode cL_law 833 = .ok (.ireturn, 1) := by decide +kernel
theorem dL_law_834 : decode cL_law 834 = .ok (.iinc 27 1, 3) := by decide +kernel
theorem dL_law_837 : decode cL_law 837 = .ok (.goto (-305), 3) := by decide +kernel
theorem dL_law_840 : decode cL_law 840 = .ok (.aload_n 1, 1) := by decide +kernel
theorem dL_law_841 : decode cL_law 841 = .ok (.iconst 4, 1) := by decide +kernel
theorem dL_law_842 : decode cL_law 842 = .ok (.invokevirtual 88, 3) := by decide +kernel
theorem dL_law_845 : decode cL_law 845 = .ok (.iload 9, 2) := by decide +kernel
theorem dL_law_847 : decode cL_law 847 = .ok (.iload 21, 2) := by decide +kernel
theorem dL_law_849 : decode cL_law 849 = .ok (.iadd, 1) := by decide +kernel
theorem dL_law_850 : decode cL_law 850 = .ok (.iload 22, 2) := by decide +kernel
theorem dL_law_852 : decode cL_law 852 = .ok (.isub, 1) := by decide +kernel
theorem dL_law_853 : decode cL_law 853 = .ok (.if_icmp .ne 72, 3) := by decide +kernel
theorem dL_law_856 : decode cL_law 856 = .ok (.aload_n 1, 1) := by decide +kernel
theorem dL_law_857 : decode cL_law 857 = .ok (.iconst 5, 1) := by decide +kernel
theorem dL_law_858 : decode cL_law 858 = .ok (.invokevirtual 88, 3) := by decide +kernel
theorem dL_law_861 : decode cL_law 861 = .ok (.iload 10, 2) := by decide +kernel
theorem dL_law_863 : decode cL_law 863 = .ok (.iload 22, 2) := by decide +kernel
theorem dL_law_865 : decode cL_law 865 = .ok (.iadd, 1) := by decide +kernel
theorem dL_law_866 : decode cL_law 866 = .ok (.if_icmp .ne 59, 3) := by decide +kernel
theorem dL_law_869 : decode cL_law 869 = .ok (.iload 25, 2) := by decide +kernel
theorem dL_law_871 : decode cL_law 871 = .ok (.iload 18, 2) := by decide +kernel
theorem dL_law_873 : decode cL_law 873 = .ok (.if_icmp .ne 52, 3) := by decide +kernel
theorem dL_law_876 : decode cL_law 876 = .ok (.iload 22, 2) := by decide +kernel
theorem dL_law_878 : decode cL_law 878 = .ok (.iload 23, 2) := by decide +kernel
theorem dL_law_880 : decode cL_law 880 = .ok (.if_icmp .gt 45, 3) := by decide +kernel
theorem dL_law_883 : decode cL_law 883 = .ok (.iload 7, 2) := by decide +kernel
theorem dL_law_885 : decode cL_law 885 = .ok (.bipush 12, 2) := by decide +kernel
theorem dL_law_887 : decode cL_law 887 = .ok (.if_icmp .eq 8, 3) := by decide +kernel
theorem dL_law_890 : decode cL_law 890 = .ok (.iload 22, 2) := by decide +kernel
theorem dL_law_892 : decode cL_law 892 = .ok (.ifCond .ne 33, 3) := by decide +kernel
theorem dL_law_895 : decode cL_law 895 = .ok (.iload 7, 2) := by decide +kernel
theorem dL_law_897 : decode cL_law 897 = .ok (.bipush 12, 2) := by decide +kernel
theorem dL_law_899 : decode cL_law 899 = .ok (.if_icmp .ne 28, 3) := by decide +kernel
theorem dL_law_902 : decode cL_law 902 = .ok (.iload 22, 2) := by decide +kernel
theorem dL_law_904 : decode cL_law 904 = .ok (.iload 15, 2) := by decide +kernel
theorem dL_law_906 : decode cL_law 906 = .ok (.iadd, 1) := by decide +kernel
theorem dL_law_907 : decode cL_law 907 = .ok (.iload 23, 2) := by decide +kernel
theorem dL_law_909 : decode cL_law 909 = .ok (.if_icmp .ne 16, 3) := by decide +kernel
theorem dL_law_912 : decode cL_law 912 = .ok (.iload 15, 2) := by decide +kernel
theorem dL_law_914 : decode cL_law 914 = .ok (.ifCond .le 13, 3) := by decide +kernel
theorem dL_law_917 : decode cL_law 917 = .ok (.aload_n 1, 1) := by decide +kernel
theorem dL_law_918 : decode cL_law 918 = .ok (.iconst 4, 1) := by decide +kernel
theorem dL_law_919 : decode cL_law 919 = .ok (.invokevirtual 88, 3) := by decide +kernel
theorem dL_law_922 : decode cL_law 922 = .ok (.ifCond .eq 5, 3) := by decide +kernel
theorem dL_law_925 : decode cL_law 925 = .ok (.iconst 0, 1) := by decide +kernel
theorem dL_law_926 : decode cL_law 926 = .ok (.ireturn, 1) := by decide +kernel
theorem dL_law_927 : decode cL_law 927 = .ok (.iload 5, 2) := by decide +kernel
theorem dL_law_929 : decode cL_law 929 = .ok (.ifCond .ne 7, 3) := by decide +kernel
theorem dL_law_932 : decode cL_law 932 = .ok (.iconst 0, 1) := by decide +kernel
theorem dL_law_933 : decode cL_law 933 = .ok (.goto 10, 3) := by decide +kernel
theorem dL_law_936 : decode cL_law 936 = .ok (.aload_n 2, 1) := by decide +kernel
theorem dL_law_937 : decode cL_law 937 = .ok (.getfield 48, 3) := by decide +kernel
theorem dL_law_940 : decode cL_law 940 = .ok (.iload 7, 2) := by decide +kernel
theorem dL_law_942 : decode cL_law 942 = .ok (.iaload, 1) := by decide +kernel
theorem dL_law_943 : decode cL_law 943 = .ok (.istore 27, 2) := by decide +kernel
theorem dL_law_945 : decode cL_law 945 = .ok (.iload 8, 2) := by decide +kernel
theorem dL_law_947 : decode cL_law 947 = .ok (.iload 27, 2) := by decide +kernel
theorem dL_law_949 : decode cL_law 949 = .ok (.iadd, 1) := by decide +kernel
theorem dL_law_950 : decode cL_law 950 = .ok (.aload_n 1, 1) := by decide +kernel
theorem dL_law_951 : decode cL_law 951 = .ok (.iconst 3, 1) := by decide +kernel
theorem dL_law_952 : decode cL_law 952 = .ok (.invokevirtual 88, 3) := by decide +kernel
theorem dL_law_955 : decode cL_law 955 = .ok (.iload 20, 2) := by decide +kernel
theorem dL_law_957 : decode cL_law 957 = .ok (.iadd, 1) := by decide +kernel
theorem dL_law_958 : decode cL_law 958 = .ok (.iload 24, 2) := by decide +kernel
theorem dL_law_960 : decode cL_law 960 = .ok (.iadd, 1) := by decide +kernel
theorem dL_law_961 : decode cL_law 961 = .ok (.iload 12, 2) := by decide +kernel
theorem dL_law_963 : decode cL_law 963 = .ok (.isub, 1) := by decide +kernel
theorem dL_law_964 : decode cL_law 964 = .ok (.aload_n 1, 1) := by decide +kernel
theorem dL_law_965 : decode cL_law 965 = .ok (.bipush 9, 2) := by decide +kernel
theorem dL_law_967 : decode cL_law 967 = .ok (.invokevirtual 88, 3) := by decide +kernel
theorem dL_law_970 : decode cL_law 970 = .ok (.iadd, 1) := by decide +kernel
theorem dL_law_971 : decode cL_law 971 = .ok (.iload 11, 2) := by decide +kernel
theorem dL_law_973 : decode cL_law 973 = .ok (.isub, 1) := by decide +kernel
theorem dL_law_974 : decode cL_law 974 = .ok (.if_icmp .ne 15, 3) := by decide +kernel
theorem dL_law_977 : decode cL_law 977 = .ok (.iload 24, 2) := by decide +kernel
theorem dL_law_979 : decode cL_law 979 = .ok (.iload 12, 2) := by decide +kernel
theorem dL_law_981 : decode cL_law 981 = .ok (.if_icmp .eq 10, 3) := by decide +kernel
theorem dL_law_984 : decode cL_law 984 = .ok (.iload 7, 2) := by decide +kernel
theorem dL_law_986 : decode cL_law 986 = .ok (.ifCond .eq 5, 3) := by decide +kernel
theorem dL_law_989 : decode cL_law 989 = .ok (.iconst 0, 1) := by decide +kernel
theorem dL_law_990 : decode cL_law 990 = .ok (.ireturn, 1) := by decide +kernel
theorem dL_law_991 : decode cL_law 991 = .ok (.iinc 3 1, 3) := by decide +kernel
theorem dL_law_994 : decode cL_law 994 = .ok (.goto (-972), 3) := by decide +kernel
theorem dL_law_997 : decode cL_law 997 = .ok (.aload_n 2, 1) := by decide +kernel
theorem dL_law_998 : decode cL_law 998 = .ok (.aload_n 1, 1) := by decide +kernel
theorem dL_law_999 : decode cL_law 999 = .ok (.invokevirtual 107, 3) := by decide +kernel
theorem dL_law_1002 : decode cL_law 1002 = .ok (.ireturn, 1) := by decide +kernel
