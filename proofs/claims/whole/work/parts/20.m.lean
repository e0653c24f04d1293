theorem dX12_least_0 : decode cX12_least 0 = .ok (.aload_n 0, 1) := by decide +kernel
theorem dX12_least_1 : decode cX12_least 1 = .ok (.iload_n 1, 1) := by decide +kernel
theorem dX12_least_2 : decode cX12_least 2 = .ok (.invokevirtual 282, 3) := by decide +kernel
theorem dX12_least_5 : decode cX12_least 5 = .ok (.ifCond .ne 5, 3) := by decide +kernel
theorem dX12_least_8 : decode cX12_least 8 = .ok (.iconst (-1), 1) := by decide +kernel
theorem dX12_least_9 : decode cX12_least 9 = .ok (.ireturn, 1) := by decide +kernel
theorem dX12_least_10 : decode cX12_least 10 = .ok (.aload_n 0, 1) := by decide +kernel
theorem dX12_least_11 : decode cX12_least 11 = .ok (.getfield 62, 3) := by decide +kernel
theorem dX12_least_14 : decode cX12_least 14 = .ok (.iload_n 1, 1) := by decide +kernel
theorem dX12_least_15 : decode cX12_least 15 = .ok (.iaload, 1) := by decide +kernel
theorem dX12_least_16 : decode cX12_least 16 = .ok (.iconst 4, 1) := by decide +kernel
theorem dX12_least_17 : decode cX12_least 17 = .ok (.if_icmp .gt 13, 3) := by decide +kernel
theorem dX12_least_20 : decode cX12_least 20 = .ok (.aload_n 0, 1) := by decide +kernel
theorem dX12_least_21 : decode cX12_least 21 = .ok (.iload_n 1, 1) := by decide +kernel
theorem dX12_least_22 : decode cX12_least 22 = .ok (.invokevirtual 323, 3) := by decide +kernel
theorem dX12_least_25 : decode cX12_least 25 = .ok (.bipush 6, 2) := by decide +kernel
theorem dX12_least_27 : decode cX12_least 27 = .ok (.if_icmp .le 6, 3) := by decide +kernel
theorem dX12_least_30 : decode cX12_least 30 = .ok (.bipush (-2), 2) := by decide +kernel
theorem dX12_least_32 : decode cX12_least 32 = .ok (.ireturn, 1) := by decide +kernel
theorem dX12_least_33 : decode cX12_least 33 = .ok (.aload_n 0, 1) := by decide +kernel
theorem dX12_least_34 : decode cX12_least 34 = .ok (.iload_n 1, 1) := by decide +kernel
theorem dX12_least_35 : decode cX12_least 35 = .ok (.invokevirtual 470, 3) := by decide +kernel
theorem dX12_least_38 : decode cX12_least 38 = .ok (.ifCond .ne 6, 3) := by decide +kernel
theorem dX12_least_41 : decode cX12_least 41 = .ok (.bipush (-3), 2) := by decide +kernel
theorem dX12_least_43 : decode cX12_least 43 = .ok (.ireturn, 1) := by decide +kernel
theorem dX12_least_44 : decode cX12_least 44 = .ok (.aload_n 0, 1) := by decide +kernel
theorem dX12_least_45 : decode cX12_least 45 = .ok (.getfield 261, 3) := by decide +kernel
theorem dX12_least_48 : decode cX12_least 48 = .ok (.bipush 40, 2) := by decide +kernel
theorem dX12_least_50 : decode cX12_least 50 = .ok (.if_icmp .ne 6, 3) := by decide +kernel
theorem dX12_least_53 : decode cX12_least 53 = .ok (.bipush (-4), 2) := by decide +kernel
theorem dX12_least_55 : decode cX12_least 55 = .ok (.ireturn, 1) := by decide +kernel
theorem dX12_least_56 : decode cX12_least 56 = .ok (.aload_n 0, 1) := by decide +kernel
theorem dX12_least_57 : decode cX12_least 57 = .ok (.dup, 1) := by decide +kernel
theorem dX12_least_58 : decode cX12_least 58 = .ok (.getfield 261, 3) := by decide +kernel
theorem dX12_least_61 : decode cX12_least 61 = .ok (.iconst 1, 1) := by decide +kernel
theorem dX12_least_62 : decode cX12_least 62 = .ok (.iadd, 1) := by decide +kernel
theorem dX12_least_63 : decode cX12_least 63 = .ok (.putfield 261, 3) := by decide +kernel
theorem dX12_least_66 : decode cX12_least 66 = .ok (.iconst 0, 1) := by decide +kernel
theorem dX12_least_67 : decode cX12_least 67 = .ok (.istore_n 2, 1) := by decide +kernel
theorem dX12_least_68 : decode cX12_least 68 = .ok (.iload_n 2, 1) := by decide +kernel
theorem dX12_least_69 : decode cX12_least 69 = .ok (.ldc 167, 2) := by decide +kernel
theorem dX12_least_71 : decode cX12_least 71 = .ok (.if_icmp .ge 16, 3) := by decide +kernel
theorem dX12_least_74 : decode cX12_least 74 = .ok (.aload_n 0, 1) := by decide +kernel
theorem dX12_least_75 : decode cX12_least 75 = .ok (.getfield 168, 3) := by decide +kernel
theorem dX12_least_78 : decode cX12_least 78 = .ok (.iload_n 2, 1) := by decide +kernel
theorem dX12_least_79 : decode cX12_least 79 = .ok (.iconst 0, 1) := by decide +kernel
theorem dX12_least_80 : decode cX12_least 80 = .ok (.iastore, 1) := by decide +kernel
theorem dX12_least_81 : decode cX12_least 81 = .ok (.iinc 2 1, 3) := by decide +kernel
theorem dX12_least_84 : decode cX12_least 84 = .ok (.goto (-16), 3) := by decide +kernel
theorem dX12_least_87 : decode cX12_least 87 = .ok (.aload_n 0, 1) := by decide +kernel
theorem dX12_least_88 : decode cX12_least 88 = .ok (.iconst 0, 1) := by decide +kernel
theorem dX12_least_89 : decode cX12_least 89 = .ok (.putfield 450, 3) := by decide +kernel
theorem dX12_least_92 : decode cX12_least 92 = .ok (.lconst 0, 1) := by decide +kernel
theorem dX12_least_93 : decode cX12_least 93 = .ok (.lstore_n 2, 1) := by decide +kernel
theorem dX12_least_94 : decode cX12_least 94 = .ok (.iconst 0, 1) := by decide +kernel
theorem dX12_least_95 : decode cX12_least 95 = .ok (.istore 4, 2) := by decide +kernel
theorem dX12_least_97 : decode cX12_least 97 = .ok (.iload 4, 2) := by decide +kernel
theorem dX12_least_99 : decode cX12_least 99 = .ok (.aload_n 0, 1) := by decide +kernel
theorem dX12_least_100 : decode cX12_least 100 = .ok (.getfield 62, 3) := by decide +kernel
theorem dX12_least_103 : decode cX12_least 103 = .ok (.iload_n 1, 1) := by decide +kernel
theorem dX12_least_104 : decode cX12_least 104 = .ok (.iaload, 1) := by decide +kernel
theorem dX12_least_105 : decode cX12_least 105 = .ok (.if_icmp .ge 90, 3) := by decide +kernel
theorem dX12_least_108 : decode cX12_least 108 = .ok (.iconst 0, 1) := by decide +kernel
theorem dX12_least_109 : decode cX12_least 109 = .ok (.istore 5, 2) := by decide +kernel
theorem dX12_least_111 : decode cX12_least 111 = .ok (.iload 5, 2) := by decide +kernel
theorem dX12_least_113 : decode cX12_least 113 = .ok (.aload_n 0, 1) := by decide +kernel
theorem dX12_least_114 : decode cX12_least 114 = .ok (.getfield 71, 3) := by decide +kernel
theorem dX12_least_117 : decode cX12_least 117 = .ok (.bipush 6, 2) := by decide +kernel
theorem dX12_least_119 : decode cX12_least 119 = .ok (.iload_n 1, 1) := by decide +kernel
theorem dX12_least_120 : decode cX12_least 120 = .ok (.imul, 1) := by decide +kernel
theorem dX12_least_121 : decode cX12_least 121 = .ok (.iload 4, 2) := by decide +kernel
theorem dX12_least_123 : decode cX12_least 123 = .ok (.iadd, 1) := by decide +kernel
theorem dX12_least_124 : decode cX12_least 124 = .ok (.iaload, 1) := by decide +kernel
theorem dX12_least_125 : decode cX12_least 125 = .ok (.if_icmp .ge 64, 3) := by decide +kernel
theorem dX12_least_128 : decode cX12_least 128 = .ok (.aload_n 0, 1) := by decide +kernel
theorem dX12_least_129 : decode cX12_least 129 = .ok (.getfield 171, 3) := by decide +kernel
theorem dX12_least_132 : decode cX12_least 132 = .ok (.aload_n 0, 1) := by decide +kernel
theorem dX12_least_133 : decode cX12_least 133 = .ok (.getfield 450, 3) := by decide +kernel
theorem dX12_least_136 : decode cX12_least 136 = .ok (.aload_n 0, 1) := by decide +kernel
theorem dX12_least_137 : decode cX12_least 137 = .ok (.getfield 74, 3) := by decide +kernel
theorem dX12_least_140 : decode cX12_least 140 = .ok (.iconst 5, 1) := by decide +kernel
theorem dX12_least_141 : decode cX12_least 141 = .ok (.bipush 6, 2) := by decide +kernel
theorem dX12_least_143 : decode cX12_least 143 = .ok (.iload_n 1, 1) := by decide +kernel
theorem dX12_least_144 : decode cX12_least 144 = .ok (.imul, 1) := by decide +kernel
theorem dX12_least_145 : decode cX12_least 145 = .ok (.iload 4, 2) := by decide +kernel
theorem dX12_least_147 : decode cX12_least 147 = .ok (.iadd, 1) := by decide +kernel
theorem dX12_least_148 : decode cX12_least 148 = .ok (.imul, 1) := by decide +kernel
theorem dX12_least_149 : decode cX12_least 149 = .ok (.iload 5, 2) := by decide +kernel
theorem dX12_least_151 : decode cX12_least 151 = .ok (.iadd, 1) := by decide +kernel
theorem dX12_least_152 : decode cX12_least 152 = .ok (.iaload, 1) := by decide +kernel
theorem dX12_least_153 : decode cX12_least 153 = .ok (.iastore, 1) := by decide +kernel
theorem dX12_least_154 : decode cX12_least 154 = .ok (.aload_n 0, 1) := by decide +kernel
theorem dX12_least_155 : decode cX12_least 155 = .ok (.dup, 1) := by decide +kernel
theorem dX12_least_156 : decode cX12_least 156 = .ok (.getfield 450, 3) := by decide +kernel
theorem dX12_least_159 : decode cX12_least 159 = .ok (.iconst 1, 1) := by decide +kernel
theorem dX12_least_160 : decode cX12_least 160 = .ok (.iadd, 1) := by decide +kernel
theorem dX12_least_161 : decode cX12_least 161 = .ok (.putfield 450, 3) := by decide +kernel
theorem dX12_least_164 : decode cX12_least 164 = .ok (.lload_n 2, 1) := by decide +kernel
theorem dX12_least_165 : decode cX12_least 165 = .ok (.aload_n 0, 1) := by decide +kernel
theorem dX12_least_166 : decode cX12_least 166 = .ok (.getfield 450, 3) := by decide +kernel
theorem dX12_least_169 : decode cX12_least 169 = .ok (.i2l, 1) := by decide +kernel
theorem dX12_least_170 : decode cX12_least 170 = .ok (.bipush 15, 2) := by decide +kernel
theorem dX12_least_172 : decode cX12_least 172 = .ok (.iload 4, 2) := by decide +kernel
theorem dX12_least_174 : decode cX12_least 174 = .ok (.imul, 1) := by decide +kernel
theorem dX12_least_175 : decode cX12_least 175 = .ok (.iconst 3, 1) := by decide +kernel
theorem dX12_least_176 : decode cX12_least 176 = .ok (.iload 5, 2) := by decide +kernel
theorem dX12_least_178 : decode cX12_least 178 = .ok (.imul, 1) := by decide +kernel
theorem dX12_least_179 : decode cX12_least 179 = .ok (.iadd, 1) := by decide +kernel
theorem dX12_least_180 : decode cX12_least 180 = .ok (.lshl, 1) := by decide +kernel
theorem dX12_least_181 : decode cX12_least 181 = .ok (.lor, 1) := by decide +kernel
theorem dX12_least_182 : decode cX12_least 182 = .ok (.lstore_n 2, 1) := by decide +kernel
theorem dX12_least_183 : decode cX12_least 183 = .ok (.iinc 5 1, 3) := by decide +kernel
theorem dX12_least_186 : decode cX12_least 186 = .ok (.goto (-75), 3) := by decide +kernel
theorem dX12_least_189 : decode cX12_least 189 = .ok (.iinc 4 1, 3) := by decide +kernel
theorem dX12_least_192 : decode cX12_least 192 = .ok (.goto (-95), 3) := by decide +kernel
theorem dX12_least_195 : decode cX12_least 195 = .ok (.aload_n 0, 1) := by decide +kernel
theorem dX12_least_196 : decode cX12_least 196 = .ok (.iconst 0, 1) := by decide +kernel
theorem dX12_least_197 : decode cX12_least 197 = .ok (.putfield 447, 3) := by decide +kernel
theorem dX12_least_200 : decode cX12_least 200 = .ok (.aload_n 0, 1) := by decide +kernel
theorem dX12_least_201 : decode cX12_least 201 = .ok (.lload_n 2, 1) := by decide +kernel
theorem dX12_least_202 : decode cX12_least 202 = .ok (.bipush (-9), 2) := by decide +kernel
theorem dX12_least_204 : decode cX12_least 204 = .ok (.bipush (-9), 2) := by decide +kernel
theorem dX12_least_206 : decode cX12_least 206 = .ok (.invokevirtual 466, 3) := by decide +kernel
theorem dX12_least_209 : decode cX12_least 209 = .ok (.iconst 0, 1) := by decide +kernel
theorem dX12_least_210 : decode cX12_least 210 = .ok (.istore 4, 2) := by decide +kernel
theorem dX12_least_212 : decode cX12_least 212 = .ok (.bipush (-9), 2) := by decide +kernel
theorem dX12_least_214 : decode cX12_least 214 = .ok (.istore 5, 2) := by decide +kernel
theorem dX12_least_216 : decode cX12_least 216 = .ok (.iload 4, 2) := by decide +kernel
theorem dX12_least_218 : decode cX12_least 218 = .ok (.aload_n 0, 1) := by decide +kernel
theorem dX12_least_219 : decode cX12_least 219 = .ok (.getfield 447, 3) := by decide +kernel
theorem dX12_least_222 : decode cX12_least 222 = .ok (.if_icmp .ge 48, 3) := by decide +kernel
theorem dX12_least_225 : decode cX12_least 225 = .ok (.iload 5, 2) := by decide +kernel
theorem dX12_least_227 : decode cX12_least 227 = .ok (.bipush (-9), 2) := by decide +kernel
theorem dX12_least_229 : decode cX12_least 229 = .ok (.if_icmp .ne 41, 3) := by decide +kernel
theorem dX12_least_232 : decode cX12_least 232 = .ok (.aload_n 0, 1) := by decide +kernel
theorem dX12_least_233 : decode cX12_least 233 = .ok (.aload_n 0, 1) := by decide +kernel
theorem dX12_least_234 : decode cX12_least 234 = .ok (.getfield 157, 3) := by decide +kernel
theorem dX12_least_237 : decode cX12_least 237 = .ok (.iload 4, 2) := by decide +kernel
theorem dX12_least_239 : decode cX12_least 239 = .ok (.laload, 1) := by decide +kernel
theorem dX12_least_240 : decode cX12_least 240 = .ok (.invokevirtual 457, 3) := by decide +kernel
theorem dX12_least_243 : decode cX12_least 243 = .ok (.aload_n 0, 1) := by decide +kernel
theorem dX12_least_244 : decode cX12_least 244 = .ok (.getfield 258, 3) := by decide +kernel
theorem dX12_least_247 : decode cX12_least 247 = .ok (.if_icmp .ne 10, 3) := by decide +kernel
theorem dX12_least_250 : decode cX12_least 250 = .ok (.iload 4, 2) := by decide +kernel
theorem dX12_least_252 : decode cX12_least 252 = .ok (.istore 5, 2) := by decide +kernel
theorem dX12_least_254 : decode cX12_least 254 = .ok (.goto (-38), 3) := by decide +kernel
theorem dX12_least_257 : decode cX12_least 257 = .ok (.aload_n 0, 1) := by decide +kernel
theorem dX12_least_258 : decode cX12_least 258 = .ok (.iload_n 1, 1) := by decide +kernel
theorem dX12_least_259 : decode cX12_least 259 = .ok (.iload 4, 2) := by decide +kernel
theorem dX12_least_261 : decode cX12_least 261 = .ok (.invokevirtual 473, 3) := by decide +kernel
theorem dX12_least_264 : decode cX12_least 264 = .ok (.iinc 4 1, 3) := by decide +kernel
theorem dX12_least_267 : decode cX12_least 267 = .ok (.goto (-51), 3) := by decide +kernel
theorem dX12_least_270 : decode cX12_least 270 = .ok (.aload_n 0, 1) := by decide +kernel
theorem dX12_least_271 : decode cX12_least 271 = .ok (.iconst 0, 1) := by decide +kernel
theorem dX12_least_272 : decode cX12_least 272 = .ok (.putfield 264, 3) := by decide +kernel
theorem dX12_least_275 : decode cX12_least 275 = .ok (.iload 5, 2) := by decide +kernel
theorem dX12_least_277 : decode cX12_least 277 = .ok (.bipush (-9), 2) := by decide +kernel
theorem dX12_least_279 : decode cX12_least 279 = .ok (.if_icmp .ne 6, 3) := by decide +kernel
theorem dX12_least_282 : decode cX12_least 282 = .ok (.bipush (-9), 2) := by decide +kernel
theorem dX12_least_284 : decode cX12_least 284 = .ok (.ireturn, 1) := by decide +kernel
theorem dX12_least_285 : decode cX12_least 285 = .ok (.aload_n 0, 1) := by decide +kernel
theorem dX12_least_286 : decode cX12_least 286 = .ok (.iload_n 1, 1) := by decide +kernel
theorem dX12_least_287 : decode cX12_least 287 = .ok (.putfield 147, 3) := by decide +kernel
theorem dX12_least_290 : decode cX12_least 290 = .ok (.iload 5, 2) := by decide +kernel
theorem dX12_least_292 : decode cX12_least 292 = .ok (.istore 6, 2) := by decide +kernel
theorem dX12_least_294 : decode cX12_least 294 = .ok (.aload_n 0, 1) := by decide +kernel
theorem dX12_least_295 : decode cX12_least 295 = .ok (.getfield 161, 3) := by decide +kernel
theorem dX12_least_298 : decode cX12_least 298 = .ok (.iload 6, 2) := by decide +kernel
theorem dX12_least_300 : decode cX12_least 300 = .ok (.iaload, 1) := by decide +kernel
theorem dX12_least_301 : decode cX12_least 301 = .ok (.bipush (-9), 2) := by decide +kernel
theorem dX12_least_303 : decode cX12_least 303 = .ok (.if_icmp .eq 25, 3) := by decide +kernel
theorem dX12_least_306 : decode cX12_least 306 = .ok (.aload_n 0, 1) := by decide +kernel
theorem dX12_least_307 : decode cX12_least 307 = .ok (.dup, 1) := by decide +kernel
theorem dX12_least_308 : decode cX12_least 308 = .ok (.getfield 264, 3) := by decide +kernel
theorem dX12_least_311 : decode cX12_least 311 = .ok (.iconst 1, 1) := by decide +kernel
theorem dX12_least_312 : decode cX12_least 312 = .ok (.iadd, 1) := by decide +kernel
theorem dX12_least_313 : decode cX12_least 313 = .ok (.putfield 264, 3) := by decide +kernel
theorem dX12_least_316 : decode cX12_least 316 = .ok (.aload_n 0, 1) := by decide +kernel
theorem dX12_least_317 : decode cX12_least 317 = .ok (.getfield 161, 3) := by decide +kernel
theorem dX12_least_320 : decode cX12_least 320 = .ok (.iload 6, 2) := by decide +kernel
theorem dX12_least_322 : decode cX12_least 322 = .ok (.iaload, 1) := by decide +kernel
theorem dX12_least_323 : decode cX12_least 323 = .ok (.istore 6, 2) := by decide +kernel
theorem dX12_least_325 : decode cX12_least 325 = .ok (.goto (-31), 3) := by decide +kernel
theorem dX12_least_328 : decode cX12_least 328 = .ok (.aload_n 0, 1) := by decide +kernel
theorem dX12_least_329 : decode cX12_least 329 = .ok (.getfield 264, 3) := by decide +kernel
theorem dX12_least_332 : decode cX12_least 332 = .ok (.istore 6, 2) := by decide +kernel
theorem dX12_least_334 : decode cX12_least 334 = .ok (.iload 5, 2) := by decide +kernel
theorem dX12_least_336 : decode cX12_least 336 = .ok (.istore 7, 2) := by decide +kernel
theorem dX12_least_338 : decode cX12_least 338 = .ok (.aload_n 0, 1) := by decide +kernel
theorem dX12_least_339 : decode cX12_least 339 = .ok (.getfield 161, 3) := by decide +kernel
theorem dX12_least_342 : decode cX12_least 342 = .ok (.iload 7, 2) := by decide +kernel
theorem dX12_least_344 : decode cX12_least 344 = .ok (.iaload, 1) := by decide +kernel
theorem dX12_least_345 : decode cX12_least 345 = .ok (.bipush (-9), 2) := by decide +kernel
theorem dX12_least_347 : decode cX12_least 347 = .ok (.if_icmp .eq 72, 3) := by decide +kernel
theorem dX12_least_350 : decode cX12_least 350 = .ok (.iinc 6 (-1), 3) := by decide +kernel
theorem dX12_least_353 : decode cX12_least 353 = .ok (.aload_n 0, 1) := by decide +kernel
theorem dX12_least_354 : decode cX12_least 354 = .ok (.getfield 150, 3) := by decide +kernel
theorem dX12_least_357 : decode cX12_least 357 = .ok (.iload 6, 2) := by decide +kernel
theorem dX12_least_359 : decode cX12_least 359 = .ok (.aload_n 0, 1) := by decide +kernel
theorem dX12_least_360 : decode cX12_least 360 = .ok (.getfield 164, 3) := by decide +kernel
theorem dX12_least_363 : decode cX12_least 363 = .ok (.iload 7, 2) := by decide +kernel
theorem dX12_least_365 : decode cX12_least 365 = .ok (.iaload, 1) := by decide +kernel
theorem dX12_least_366 : decode cX12_least 366 = .ok (.bipush 8, 2) := by decide +kernel
theorem dX12_least_368 : decode cX12_least 368 = .ok (.idiv, 1) := by decide +kernel
theorem dX12_least_369 : decode cX12_least 369 = .ok (.iastore, 1) := by decide +kernel
theorem dX12_least_370 : decode cX12_least 370 = .ok (.aload_n 0, 1) := by decide +kernel
theorem dX12_least_371 : decode cX12_least 371 = .ok (.getfield 153, 3) := by decide +kernel
theorem dX12_least_374 : decode cX12_least 374 = .ok (.iload 6, 2) := by decide +kernel
theorem dX12_least_376 : decode cX12_least 376 = .ok (.aload_n 0, 1) := by decide +kernel
theorem dX12_least_377 : decode cX12_least 377 = .ok (.getfield 164, 3) := by decide +kernel
theorem dX12_least_380 : decode cX12_least 380 = .ok (.iload 7, 2) := by decide +kernel
theorem dX12_least_382 : decode cX12_least 382 = .ok (.iaload, 1) := by decide +kernel
theorem dX12_least_383 : decode cX12_least 383 = .ok (.bipush 8, 2) := by decide +kernel
theorem dX12_least_385 : decode cX12_least 385 = .ok (.irem, 1) := by decide +kernel
theorem dX12_least_386 : decode cX12_least 386 = .ok (.bipush 7, 2) := by decide +kernel
theorem dX12_least_388 : decode cX12_least 388 = .ok (.if_icmp .ne 8, 3) := by decide +kernel
theorem dX12_least_391 : decode cX12_least 391 = .ok (.bipush (-9), 2) := by decide +kernel
theorem dX12_least_393 : decode cX12_least 393 = .ok (.goto 13, 3) := by decide +kernel
theorem dX12_least_396 : decode cX12_least 396 = .ok (.aload_n 0, 1) := by decide +kernel
theorem dX12_least_397 : decode cX12_least 397 = .ok (.getfield 164, 3) := by decide +kernel
theorem dX12_least_400 : decode cX12_least 400 = .ok (.iload 7, 2) := by decide +kernel
theorem dX12_least_402 : decode cX12_least 402 = .ok (.iaload, 1) := by decide +kernel
theorem dX12_least_403 : decode cX12_least 403 = .ok (.bipush 8, 2) := by decide +kernel
theorem dX12_least_405 : decode cX12_least 405 = .ok (.irem, 1) := by decide +kernel
theorem dX12_least_406 : decode cX12_least 406 = .ok (.iastore, 1) := by decide +kernel
theorem dX12_least_407 : decode cX12_least 407 = .ok (.aload_n 0, 1) := by decide +kernel
theorem dX12_least_408 : decode cX12_least 408 = .ok (.getfield 161, 3) := by decide +kernel
theorem dX12_least_411 : decode cX12_least 411 = .ok (.iload 7, 2) := by decide +kernel
theorem dX12_least_413 : decode cX12_least 413 = .ok (.iaload, 1) := by decide +kernel
theorem dX12_least_414 : decode cX12_least 414 = .ok (.istore 7, 2) := by decide +kernel
theorem dX12_least_416 : decode cX12_least 416 = .ok (.goto (-78), 3) := by decide +kernel
theorem dX12_least_419 : decode cX12_least 419 = .ok (.aload_n 0, 1) := by decide +kernel
theorem dX12_least_420 : decode cX12_least 420 = .ok (.getfield 264, 3) := by decide +kernel
theorem dX12_least_423 : decode cX12_least 423 = .ok (.ireturn, 1) := by decide +kernel
def M_X12_least : y_M := (yX12_least, cX12_least, 8, (Option.some Jvm.ClassFile.FieldType.int))
theorem n_X12_least : y_N0 M_X12_least 1 := ⟨(c_10 0 (by decide +kernel) rfl), (c_1 9 (by decide +kernel) rfl), ⟨by decide +kernel, by decide +kernel⟩, by decide +kernel⟩
theorem l_BoxYardModel_470 : y_lnk "BoxYardModel" 470 M_X12_hasAll := Or.inl (c_10 1 (by decide +kernel) rfl)
theorem i_X12_hasAll : Cond.instanceMethod (M_X12_hasAll).1 ∈ y_tb := (c_10 3 (by decide +kernel) rfl)
theorem e_X12_hasAll : Cond.selects (M_X12_hasAll).1.cls (M_X12_hasAll).1 (M_X12_hasAll).1 ∈ y_tb := (m_s 100 (by decide +kernel) rfl)
theorem F_BoxYardModel_261 : y_F "BoxYardModel" 261 12 57 := ⟨_, _, _, rfl, by decide, Or.inl (c_7 179 (by decide +kernel) rfl)⟩
theorem k_BoxYardModel_167 : Cond.constant "BoxYardModel" 167 131072 ∈ y_tb := (c_7 117 (by decide +kernel) rfl)
theorem Fp_BoxYardModel_450 {nm : String} : y_Fp "BoxYardModel" nm 450 12 68 := ⟨_, _, _, rfl, by decide, Or.inl ⟨rfl, Or.inl (c_7 190 (by decide +kernel) rfl)⟩⟩
theorem F_BoxYardModel_264 : y_F "BoxYardModel" 264 12 58 := ⟨_, _, _, rfl, by decide, Or.inl (c_7 180 (by decide +kernel) rfl)⟩
theorem F_BoxYardModel_150 : y_F "BoxYardModel" 150 12 60 := ⟨_, _, _, rfl, by decide, Or.inl (c_7 182 (by decide +kernel) rfl)⟩
theorem F_BoxYardModel_153 : y_F "BoxYardModel" 153 12 61 := ⟨_, _, _, rfl, by decide, Or.inl (c_7 183 (by decide +kernel) rfl)⟩
theorem l_BoxYardModel_473 : y_lnk "BoxYardModel" 473 M_X12_lifted := Or.inl (c_10 23 (by decide +kernel) rfl)
theorem i_X12_lifted : Cond.instanceMethod (M_X12_lifted).1 ∈ y_tb := (c_10 25 (by decide +kernel) rfl)
theorem e_X12_lifted : Cond.selects (M_X12_lifted).1.cls (M_X12_lifted).1 (M_X12_lifted).1 ∈ y_tb := (m_s 104 (by decide +kernel) rfl)
set_option maxRecDepth 100000 in
def f_X12_least (p0 : Nat) (p1 : Int32) (h : y_H) : Option (Int32 × y_H) :=
  if y_K h p0 = 13 then
  y_cl (f_X12_isBay p0 p1 h) (fun r1 h2 =>
  if r1 = true then
    if y_K h2 p0 = 13 then
    if y_K h2 (y_P h2 p0 19) = 100 ∧ y_ix p1 (y_N h2 (y_P h2 p0 19)) = true then
    y_jn (fun (h4 : y_H) => (
        some ((-2 : Int32), h4) : Option (Int32 × y_H))) (fun j30 =>
    if 4 < (y_I h2 (y_P h2 p0 19) (Int32.toNatClampNeg p1)) then
      j30 h2
    else
      if y_K h2 p0 = 13 then
      y_cl (f_X12_boxesOf p0 p1 h2) (fun r5 h6 =>
      if r5 ≤ 6 then
        if y_K h6 p0 = 13 then
        y_cl (f_X12_hasAll p0 p1 h6) (fun r8 h9 =>
        if r8 = true then
          if y_K h9 p0 = 13 then
          if (y_I h9 p0 57) = 40 then
            some ((-4 : Int32), h9)
          else
            if y_K h9 p0 = 13 then
            if y_K h9 p0 = 13 then
            y_bd (s_I h9 p0 57 ((y_I h9 p0 57) + 1)) (fun h11 =>
            y_jl (fun (_ : Nat) (_ : Int32) (_ : Int32) (_ : y_H) => (none : Option (Int32 × y_H))) (fun j68 (v0_68 : Nat) (v1_68 : Int32) (v2_68 : Int32) (h14 : y_H) =>
                if 131072 ≤ v2_68 then
                  if y_K h14 v0_68 = 13 then
                  y_bd (s_I h14 v0_68 68 0) (fun h15 =>
                  y_jl (fun (_ : Nat) (_ : Int32) (_ : Int64) (_ : Int32) (_ : y_H) => (none : Option (Int32 × y_H))) (fun j97 (v0_97 : Nat) (v1_97 : Int32) (v2_97 : Int64) (v4_97 : Int32) (h18 : y_H) =>
                      if y_K h18 v0_97 = 13 then
                      if y_K h18 (y_P h18 v0_97 19) = 100 ∧ y_ix v1_97 (y_N h18 (y_P h18 v0_97 19)) = true then
                      if (y_I h18 (y_P h18 v0_97 19) (Int32.toNatClampNeg v1_97)) ≤ v4_97 then
                        if y_K h18 v0_97 = 13 then
                        y_bd (s_I h18 v0_97 66 0) (fun h19 =>
                        if y_K h19 v0_97 = 13 then
                        y_cl (f_X12_come v0_97 v2_97 (-9 : Int32) (-9 : Int32) h19) (fun _ h22 =>
                        y_jl (fun (_ : Nat) (_ : Int32) (_ : Int32) (_ : Int32) (_ : y_H) => (none : Option (Int32 × y_H))) (fun j216 (v0_216 : Nat) (v1_216 : Int32) (v4_216 : Int32) (v5_216 : Int32) (h24 : y_H) =>
                            if y_K h24 v0_216 = 13 then
                            y_jn (fun (v0_270 : Nat) (v1_270 : Int32) (v5_270 : Int32) (h25 : y_H) => (
                                if y_K h25 v0_270 = 13 then
                                y_bd (s_I h25 v0_270 58 0) (fun h26 =>
                                if v5_270 = (-9 : Int32) then
                                  some ((-9 : Int32), h26)
                                else
                                  if y_K h26 v0_270 = 13 then
                                  y_bd (s_I h26 v0_270 59 v1_270) (fun h29 =>
                                  y_jl (fun (_ : Nat) (_ : Int32) (_ : Int32) (_ : y_H) => (none : Option (Int32 × y_H))) (fun j294 (v0_294 : Nat) (v5_294 : Int32) (v6_294 : Int32) (h32 : y_H) =>
                                      if y_K h32 v0_294 = 13 then
                                      if y_K h32 (y_P h32 v0_294 63) = 100 ∧ y_ix v6_294 (y_N h32 (y_P h32 v0_294 63)) = true then
                                      if (y_I h32 (y_P h32 v0_294 63) (Int32.toNatClampNeg v6_294)) = (-9 : Int32) then
                                        if y_K h32 v0_294 = 13 then
                                        y_jl (fun (_ : Nat) (_ : Int32) (_ : Int32) (_ : y_H) => (none : Option (Int32 × y_H))) (fun j338 (v0_338 : Nat) (v6_338 : Int32) (v7_338 : Int32) (h33 : y_H) =>
                                            if y_K h33 v0_338 = 13 then
                                            if y_K h33 (y_P h33 v0_338 63) = 100 ∧ y_ix v7_338 (y_N h33 (y_P h33 v0_338 63)) = true then
                                            if (y_I h33 (y_P h33 v0_338 63) (Int32.toNatClampNeg v7_338)) = (-9 : Int32) then
                                              if y_K h33 v0_338 = 13 then
                                              some (y_I h33 v0_338 58, h33)
                                              else none
                                            else
                                              if y_K h33 v0_338 = 13 then
                                              if y_K h33 v0_338 = 13 then
                                              if y_K h33 (y_P h33 v0_338 64) = 100 ∧ y_ix v7_338 (y_N h33 (y_P h33 v0_338 64)) = true then
                                              if y_K h33 (y_P h33 v0_338 60) = 100 ∧ y_ix (v6_338 + (-1 : Int32)) (y_N h33 (y_P h33 v0_338 60)) = true then
                                              y_bd (s_I h33 (y_P h33 v0_338 60) (Int32.toNatClampNeg (v6_338 + (-1 : Int32))) ((y_I h33 (y_P h33 v0_338 64) (Int32.toNatClampNeg v7_338)) / 8)) (fun h35 =>
                                              if y_K h35 v0_338 = 13 then
                                              if y_K h35 v0_338 = 13 then
                                              if y_K h35 (y_P h35 v0_338 64) = 100 ∧ y_ix v7_338 (y_N h35 (y_P h35 v0_338 64)) = true then
                                              if (y_rem (y_I h35 (y_P h35 v0_338 64) (Int32.toNatClampNeg v7_338)) 8) = 7 then
                                                if y_K h35 (y_P h35 v0_338 61) = 100 ∧ y_ix (v6_338 + (-1 : Int32)) (y_N h35 (y_P h35 v0_338 61)) = true then
                                                y_bd (s_I h35 (y_P h35 v0_338 61) (Int32.toNatClampNeg (v6_338 + (-1 : Int32))) (-9 : Int32)) (fun h45 =>
                                                if y_K h45 v0_338 = 13 then
                                                if y_K h45 (y_P h45 v0_338 63) = 100 ∧ y_ix v7_338 (y_N h45 (y_P h45 v0_338 63)) = true then
                                                j338 v0_338 (v6_338 + (-1 : Int32)) (y_I h45 (y_P h45 v0_338 63) (Int32.toNatClampNeg v7_338)) h45
                                                else none
                                                else none)
                                                else none
                                              else
                                                if y_K h35 v0_338 = 13 then
                                                if y_K h35 (y_P h35 v0_338 64) = 100 ∧ y_ix v7_338 (y_N h35 (y_P h35 v0_338 64)) = true then
                                                if y_K h35 (y_P h35 v0_338 61) = 100 ∧ y_ix (v6_338 + (-1 : Int32)) (y_N h35 (y_P h35 v0_338 61)) = true then
                                                y_bd (s_I h35 (y_P h35 v0_338 61) (Int32.toNatClampNeg (v6_338 + (-1 : Int32))) (y_rem (y_I h35 (y_P h35 v0_338 64) (Int32.toNatClampNeg v7_338)) 8)) (fun h38 =>
                                                if y_K h38 v0_338 = 13 then
                                                if y_K h38 (y_P h38 v0_338 63) = 100 ∧ y_ix v7_338 (y_N h38 (y_P h38 v0_338 63)) = true then
                                                j338 v0_338 (v6_338 + (-1 : Int32)) (y_I h38 (y_P h38 v0_338 63) (Int32.toNatClampNeg v7_338)) h38
                                                else none
                                                else none)
                                                else none
                                                else none
                                                else none
                                              else none
                                              else none
                                              else none)
                                              else none
                                              else none
                                              else none
                                              else none
                                            else none
                                            else none) (fun j338 =>
                                        j338 v0_294 (y_I h32 v0_294 58) v5_294 h32)
                                        else none
                                      else
                                        if y_K h32 v0_294 = 13 then
                                        if y_K h32 v0_294 = 13 then
                                        y_bd (s_I h32 v0_294 58 ((y_I h32 v0_294 58) + 1)) (fun h61 =>
                                        if y_K h61 v0_294 = 13 then
                                        if y_K h61 (y_P h61 v0_294 63) = 100 ∧ y_ix v6_294 (y_N h61 (y_P h61 v0_294 63)) = true then
                                        j294 v0_294 v5_294 (y_I h61 (y_P h61 v0_294 63) (Int32.toNatClampNeg v6_294)) h61
                                        else none
                                        else none)
                                        else none
                                        else none
                                      else none
                                      else none) (fun j294 =>
                                  j294 v0_270 v5_270 v5_270 h29))
                                  else none)
                                else none : Option (Int32 × y_H))) (fun j270 =>
                            if (y_I h24 v0_216 66) ≤ v4_216 then
                              j270 v0_216 v1_216 v5_216 h24
                            else
                              if v5_216 = (-9 : Int32) then
                                if y_K h24 v0_216 = 13 then
                                if y_K h24 (y_P h24 v0_216 62) = 101 ∧ y_ix v4_216 (y_N h24 (y_P h24 v0_216 62)) = true then
                                if y_K h24 v0_216 = 13 then
                                y_cl (f_X12_outOf v0_216 (y_L h24 (y_P h24 v0_216 62) (Int32.toNatClampNeg v4_216)) h24) (fun r71 h72 =>
                                if y_K h72 v0_216 = 13 then
                                if r71 = (y_I h72 v0_216 55) then
                                  j216 v0_216 v1_216 v4_216 v4_216 h72
                                else
                                  if y_K h72 v0_216 = 13 then
                                  y_cl (f_X12_lifted v0_216 v1_216 v4_216 h72) (fun _ h74 =>
                                  j216 v0_216 v1_216 (v4_216 + 1) v5_216 h74)
                                  else none
                                else none)
                                else none
                                else none
                                else none
                              else
                                j270 v0_216 v1_216 v5_216 h24)
                            else none) (fun j216 =>
                        j216 v0_97 v1_97 0 (-9 : Int32) h22))
                        else none)
                        else none
                      else
                        y_jl (fun (_ : Nat) (_ : Int32) (_ : Int64) (_ : Int32) (_ : Int32) (_ : y_H) => (none : Option (Int32 × y_H))) (fun j111 (v0_111 : Nat) (v1_111 : Int32) (v2_111 : Int64) (v4_111 : Int32) (v5_111 : Int32) (h86 : y_H) =>
                            if y_K h86 v0_111 = 13 then
                            if y_K h86 (y_P h86 v0_111 22) = 100 ∧ y_ix ((6 * v1_111) + v4_111) (y_N h86 (y_P h86 v0_111 22)) = true then
                            if (y_I h86 (y_P h86 v0_111 22) (Int32.toNatClampNeg ((6 * v1_111) + v4_111))) ≤ v5_111 then
                              j97 v0_111 v1_111 v2_111 (v4_111 + 1) h86
                            else
                              if y_K h86 v0_111 = 13 then
                              if y_K h86 v0_111 = 13 then
                              if y_K h86 v0_111 = 13 then
                              if y_K h86 (y_P h86 v0_111 23) = 100 ∧ y_ix ((5 * ((6 * v1_111) + v4_111)) + v5_111) (y_N h86 (y_P h86 v0_111 23)) = true then
                              if y_K h86 (y_P h86 v0_111 67) = 100 ∧ y_ix (y_I h86 v0_111 68) (y_N h86 (y_P h86 v0_111 67)) = true then
                              y_bd (s_I h86 (y_P h86 v0_111 67) (Int32.toNatClampNeg (y_I h86 v0_111 68)) (y_I h86 (y_P h86 v0_111 23) (Int32.toNatClampNeg ((5 * ((6 * v1_111) + v4_111)) + v5_111)))) (fun h87 =>
                              if y_K h87 v0_111 = 13 then
                              if y_K h87 v0_111 = 13 then
                              y_bd (s_I h87 v0_111 68 ((y_I h87 v0_111 68) + 1)) (fun h90 =>
                              if y_K h90 v0_111 = 13 then
                              j111 v0_111 v1_111 (v2_111 ||| ((Int32.toInt64 (y_I h90 v0_111 68)) <<< (Int32.toInt64 ((15 * v4_111) + (3 * v5_111)) &&& 63))) v4_111 (v5_111 + 1) h90
                              else none)
                              else none
                              else none)
                              else none
                              else none
                              else none
                              else none
                              else none
                            else none
                            else none) (fun j111 =>
                        j111 v0_97 v1_97 v2_97 v4_97 0 h18)
                      else none
                      else none) (fun j97 =>
                  j97 v0_68 v1_68 0 0 h15))
                  else none
                else
                  if y_K h14 v0_68 = 13 then
                  if y_K h14 (y_P h14 v0_68 65) = 100 ∧ y_ix v2_68 (y_N h14 (y_P h14 v0_68 65)) = true then
                  y_bd (s_I h14 (y_P h14 v0_68 65) (Int32.toNatClampNeg v2_68) 0) (fun h105 =>
                  j68 v0_68 v1_68 (v2_68 + 1) h105)
                  else none
                  else none) (fun j68 =>
            j68 p0 p1 0 h11))
            else none
            else none
          else none
        else
          some ((-3 : Int32), h9))
        else none
      else
        j30 h6)
      else none)
    else none
    else none
  else
    some ((-1 : Int32), h2))
  else none
abbrev rm_X12_least : Room := { frames := 3, cells := 0, slots := 0, locals := 82 }
set_option maxRecDepth 100000 in
set_option maxHeartbeats 4000000 in
theorem k_X12_least {l : Launch} {G : y_G} {p0 : Nat} {p1 : Int32} {h hz : y_H} {rz : Int32} (hf : f_X12_least p0 p1 h = some (rz, hz)) : y_S l G M_X12_least rm_X12_least [y_p p0, .int p1] h (some (.int rz)) hz := by
  refine y_start (lv := [(0, y_p p0), (1, .int p1)]) (by decide) (by simp [lg_sl, y_p_cat, y_ci, y_cj, M_X12_least]) (by simp [lv_args, y_p_cat, y_ci, y_cj]) (fun z ad0 => ?_)
  unfold f_X12_least at hf
  refine y_aload_n (x := p0) (pc2 := 1) rfl dX12_least_0 rfl ?_
  refine y_iload_n (pc2 := 2) rfl dX12_least_1 rfl ?_
  obtain ⟨g121, hf⟩ := y_g hf
  obtain ⟨r1, h2, c3, hf⟩ := y_clE hf
  refine y_callV (As := [.int p1]) (rm := rm_X12_isBay) (cells := 0) (slots := 0) (pc2 := 5) rfl dX12_least_2 n_X12_isBay l_BoxYardModel_282 i_X12_isBay e_X12_isBay (ci := 12) rfl rfl (by decide) g121 rfl rfl (by decide) (by decide) (by decide) (k_X12_isBay c3) ?_
  refine y_ifz_ne (tgt := 10) (pc2 := 8) rfl dX12_least_5 (by decide) (fun c120 => ?_) (fun c120 => ?_)
  · replace hf := y_it c120 hf
    refine y_aload_n (x := p0) (pc2 := 11) rfl dX12_least_10 rfl ?_
    obtain ⟨g119, hf⟩ := y_g hf
    refine y_getP (pc2 := 14) rfl dX12_least_11 F_BoxYardModel_62 (by decide) rfl g119 ?_
    refine y_iload_n (pc2 := 15) rfl dX12_least_14 rfl ?_
    obtain ⟨g118, hf⟩ := y_g hf
    refine y_iald (pc2 := 16) rfl dX12_least_15 g118.1 (y_ix_in g118.2) ?_
    refine y_iconst (v := 4) (pc2 := 17) rfl dX12_least_16 (by decide) ?_
    refine y_jnE hf (fun j => ∀ (h4 : y_H), j h4 = some (rz, hz) → y_V l G z rm_X12_least M_X12_least ad0 h (some (.int rz)) hz 30 [] [] h4 0 0) (fun h4 hf => ?_) (fun j30 hj30 hf => ?_)
    · refine y_bipush (v := (-2 : Int32)) (pc2 := 32) rfl dX12_least_30 (by decide) ?_
      exact y_iretF hf dX12_least_32 rfl (by decide) (by decide)
    · refine y_icmp_gt (tgt := 30) (pc2 := 20) rfl dX12_least_17 (by decide) (fun c117 => ?_) (fun c117 => ?_)
      · replace hf := y_it c117 hf
        exact y_pk [] rfl (hj30 _ hf)
      · replace hf := y_ie c117 hf
        refine y_aload_n (x := p0) (pc2 := 21) rfl dX12_least_20 rfl ?_
        refine y_iload_n (pc2 := 22) rfl dX12_least_21 rfl ?_
        obtain ⟨g116, hf⟩ := y_g hf
        obtain ⟨r5, h6, c7, hf⟩ := y_clE hf
        refine y_callV (As := [.int p1]) (rm := rm_X12_boxesOf) (cells := 0) (slots := 0) (pc2 := 25) rfl dX12_least_22 n_X12_boxesOf l_BoxYardModel_323 i_X12_boxesOf e_X12_boxesOf (ci := 12) rfl rfl (by decide) g116 rfl rfl (by decide) (by decide) (by decide) (k_X12_boxesOf c7) ?_
        refine y_bipush (v := 6) (pc2 := 27) rfl dX12_least_25 (by decide) ?_
        refine y_icmp_le (tgt := 33) (pc2 := 30) rfl dX12_least_27 (by decide) (fun c115 => ?_) (fun c115 => ?_)
        · replace hf := y_it c115 hf
          refine y_aload_n (x := p0) (pc2 := 34) rfl dX12_least_33 rfl ?_
          refine y_iload_n (pc2 := 35) rfl dX12_least_34 rfl ?_
          obtain ⟨g114, hf⟩ := y_g hf
          obtain ⟨r8, h9, c10, hf⟩ := y_clE hf
          refine y_callV (As := [.int p1]) (rm := rm_X12_hasAll) (cells := 0) (slots := 0) (pc2 := 38) rfl dX12_least_35 n_X12_hasAll l_BoxYardModel_470 i_X12_hasAll e_X12_hasAll (ci := 12) rfl rfl (by decide) g114 rfl rfl (by decide) (by decide) (by decide) (k_X12_hasAll c10) ?_
          refine y_ifz_ne (tgt := 44) (pc2 := 41) rfl dX12_least_38 (by decide) (fun c113 => ?_) (fun c113 => ?_)
          · replace hf := y_it c113 hf
            refine y_aload_n (x := p0) (pc2 := 45) rfl dX12_least_44 rfl ?_
            obtain ⟨g112, hf⟩ := y_g hf
            refine y_getI (pc2 := 48) rfl dX12_least_45 F_BoxYardModel_261 (by decide) rfl g112 ?_
            refine y_bipush (v := 40) (pc2 := 50) rfl dX12_least_48 (by decide) ?_
            refine y_icmp_ne (tgt := 56) (pc2 := 53) rfl dX12_least_50 (by decide) (fun c111 => ?_) (fun c111 => ?_)
            · replace hf := y_ie c111 hf
              refine y_aload_n (x := p0) (pc2 := 57) rfl dX12_least_56 rfl ?_
              refine y_dup (pc2 := 58) rfl dX12_least_57 (y_p_cat _) ?_
              obtain ⟨g110, hf⟩ := y_g hf
              refine y_getI (pc2 := 61) rfl dX12_least_58 F_BoxYardModel_261 (by decide) rfl g110 ?_
              refine y_iconst (v := 1) (pc2 := 62) rfl dX12_least_61 (by decide) ?_
              refine y_iadd (pc2 := 63) rfl dX12_least_62 ?_
              obtain ⟨g13, hf⟩ := y_g hf
              obtain ⟨h11, e12, hf⟩ := y_bdE hf
              refine y_putI (x := (y_I h9 p0 57) + 1) (pc2 := 66) rfl dX12_least_63 Fp_BoxYardModel_261 (by decide) rfl g13 e12 ?_
              refine y_iconst (v := 0) (pc2 := 67) rfl dX12_least_66 (by decide) ?_
              refine y_jlE hf (fun j => ∀ (v0_68 : Nat) (v1_68 : Int32) (v2_68 : Int32) (h14 : y_H), j v0_68 v1_68 v2_68 h14 = some (rz, hz) → y_V l G z rm_X12_least M_X12_least ad0 h (some (.int rz)) hz 68 [(0, y_p v0_68), (1, .int v1_68), (2, .int v2_68)] [] h14 0 0) (fun _ _ _ _ hf => by cases hf) (fun j68 hj68 v0_68 v1_68 v2_68 h14 hf => ?_) (fun j68 hj68 hf => ?_)
              · refine y_iload_n (pc2 := 69) rfl dX12_least_68 rfl ?_
                refine y_ldc (v := 131072) (pc2 := 71) rfl dX12_least_69 k_BoxYardModel_167 ?_
                refine y_icmp_ge (tgt := 87) (pc2 := 74) rfl dX12_least_71 (by decide) (fun c109 => ?_) (fun c109 => ?_)
                · replace hf := y_it c109 hf
                  refine y_aload_n (x := v0_68) (pc2 := 88) rfl dX12_least_87 rfl ?_
                  refine y_iconst (v := 0) (pc2 := 89) rfl dX12_least_88 (by decide) ?_
                  obtain ⟨g17, hf⟩ := y_g hf
                  obtain ⟨h15, e16, hf⟩ := y_bdE hf
                  refine y_putI (x := 0) (pc2 := 92) rfl dX12_least_89 Fp_BoxYardModel_450 (by decide) rfl g17 e16 ?_
                  refine y_lconst (v := 0) (pc2 := 93) rfl dX12_least_92 rfl ?_
                  refine y_lstore_n (lv' := [(2, .long 0), (0, y_p v0_68), (1, .int v1_68)]) (pc2 := 94) rfl dX12_least_93 (by decide) rfl ?_
                  refine y_iconst (v := 0) (pc2 := 95) rfl dX12_least_94 (by decide) ?_
                  refine y_jlE hf (fun j => ∀ (v0_97 : Nat) (v1_97 : Int32) (v2_97 : Int64) (v4_97 : Int32) (h18 : y_H), j v0_97 v1_97 v2_97 v4_97 h18 = some (rz, hz) → y_V l G z rm_X12_least M_X12_least ad0 h (some (.int rz)) hz 97 [(0, y_p v0_97), (1, .int v1_97), (2, .long v2_97), (4, .int v4_97)] [] h18 0 0) (fun _ _ _ _ _ hf => by cases hf) (fun j97 hj97 v0_97 v1_97 v2_97 v4_97 h18 hf => ?_) (fun j97 hj97 hf => ?_)
                  · refine y_iload (pc2 := 99) rfl dX12_least_97 rfl ?_
                    refine y_aload_n (x := v0_97) (pc2 := 100) rfl dX12_least_99 rfl ?_
                    obtain ⟨g104, hf⟩ := y_g hf
                    refine y_getP (pc2 := 103) rfl dX12_least_100 F_BoxYardModel_62 (by decide) rfl g104 ?_
                    refine y_iload_n (pc2 := 104) rfl dX12_least_103 rfl ?_
                    obtain ⟨g103, hf⟩ := y_g hf
                    refine y_iald (pc2 := 105) rfl dX12_least_104 g103.1 (y_ix_in g103.2) ?_
                    refine y_icmp_ge (tgt := 195) (pc2 := 108) rfl dX12_least_105 (by decide) (fun c102 => ?_) (fun c102 => ?_)
                    · replace hf := y_it c102 hf
                      refine y_aload_n (x := v0_97) (pc2 := 196) rfl dX12_least_195 rfl ?_
                      refine y_iconst (v := 0) (pc2 := 197) rfl dX12_least_196 (by decide) ?_
                      obtain ⟨g21, hf⟩ := y_g hf
                      obtain ⟨h19, e20, hf⟩ := y_bdE hf
                      refine y_putI (x := 0) (pc2 := 200) rfl dX12_least_197 Fp_BoxYardModel_447 (by decide) rfl g21 e20 ?_
                      refine y_aload_n (x := v0_97) (pc2 := 201) rfl dX12_least_200 rfl ?_
                      refine y_lload_n (pc2 := 202) rfl dX12_least_201 rfl ?_
                      refine y_bipush (v := (-9 : Int32)) (pc2 := 204) rfl dX12_least_202 (by decide) ?_
                      refine y_bipush (v := (-9 : Int32)) (pc2 := 206) rfl dX12_least_204 (by decide) ?_
                      obtain ⟨g85, hf⟩ := y_g hf
                      obtain ⟨r_, h22, c23, hf⟩ := y_clE hf
                      refine y_callV (As := [.long v2_97, .int (-9 : Int32), .int (-9 : Int32)]) (rm := rm_X12_come) (cells := 0) (slots := 0) (pc2 := 209) rfl dX12_least_206 n_X12_come l_BoxYardModel_466 i_X12_come e_X12_come (ci := 12) rfl rfl (by decide) g85 rfl rfl (by decide) (by decide) (by decide) (k_X12_come c23) ?_
                      refine y_iconst (v := 0) (pc2 := 210) rfl dX12_least_209 (by decide) ?_
                      refine y_istore (lv' := [(4, .int 0), (0, y_p v0_97), (1, .int v1_97), (2, .long v2_97)]) (pc2 := 212) rfl dX12_least_210 (by decide) rfl ?_
                      refine y_bipush (v := (-9 : Int32)) (pc2 := 214) rfl dX12_least_212 (by decide) ?_
                      refine y_jlE hf (fun j => ∀ (v0_216 : Nat) (v1_216 : Int32) (v4_216 : Int32) (v5_216 : Int32) (h24 : y_H), j v0_216 v1_216 v4_216 v5_216 h24 = some (rz, hz) → y_V l G z rm_X12_least M_X12_least ad0 h (some (.int rz)) hz 216 [(0, y_p v0_216), (1, .int v1_216), (4, .int v4_216), (5, .int v5_216)] [] h24 0 0) (fun _ _ _ _ _ hf => by cases hf) (fun j216 hj216 v0_216 v1_216 v4_216 v5_216 h24 hf => ?_) (fun j216 hj216 hf => ?_)
                      · refine y_iload (pc2 := 218) rfl dX12_least_216 rfl ?_
                        refine y_aload_n (x := v0_216) (pc2 := 219) rfl dX12_least_218 rfl ?_
                        obtain ⟨g84, hf⟩ := y_g hf
                        refine y_getI (pc2 := 222) rfl dX12_least_219 F_BoxYardModel_447 (by decide) rfl g84 ?_
                        refine y_jnE hf (fun j => ∀ (v0_270 : Nat) (v1_270 : Int32) (v5_270 : Int32) (h25 : y_H), j v0_270 v1_270 v5_270 h25 = some (rz, hz) → y_V l G z rm_X12_least M_X12_least ad0 h (some (.int rz)) hz 270 [(0, y_p v0_270), (1, .int v1_270), (5, .int v5_270)] [] h25 0 0) (fun v0_270 v1_270 v5_270 h25 hf => ?_) (fun j270 hj270 hf => ?_)
                        · refine y_aload_n (x := v0_270) (pc2 := 271) rfl dX12_least_270 rfl ?_
                          refine y_iconst (v := 0) (pc2 := 272) rfl dX12_least_271 (by decide) ?_
                          obtain ⟨g28, hf⟩ := y_g hf
                          obtain ⟨h26, e27, hf⟩ := y_bdE hf
                          refine y_putI (x := 0) (pc2 := 275) rfl dX12_least_272 Fp_BoxYardModel_264 (by decide) rfl g28 e27 ?_
                          refine y_iload (pc2 := 277) rfl dX12_least_275 rfl ?_
                          refine y_bipush (v := (-9 : Int32)) (pc2 := 279) rfl dX12_least_277 (by decide) ?_
                          refine y_icmp_ne (tgt := 285) (pc2 := 282) rfl dX12_least_279 (by decide) (fun c70 => ?_) (fun c70 => ?_)
                          · replace hf := y_ie c70 hf
                            refine y_aload_n (x := v0_270) (pc2 := 286) rfl dX12_least_285 rfl ?_
                            refine y_iload_n (pc2 := 287) rfl dX12_least_286 rfl ?_
                            obtain ⟨g31, hf⟩ := y_g hf
                            obtain ⟨h29, e30, hf⟩ := y_bdE hf
                            refine y_putI (x := v1_270) (pc2 := 290) rfl dX12_least_287 Fp_BoxYardModel_147 (by decide) rfl g31 e30 ?_
                            refine y_iload (pc2 := 292) rfl dX12_least_290 rfl ?_
                            refine y_jlE hf (fun j => ∀ (v0_294 : Nat) (v5_294 : Int32) (v6_294 : Int32) (h32 : y_H), j v0_294 v5_294 v6_294 h32 = some (rz, hz) → y_V l G z rm_X12_least M_X12_least ad0 h (some (.int rz)) hz 294 [(0, y_p v0_294), (5, .int v5_294), (6, .int v6_294)] [] h32 0 0) (fun _ _ _ _ hf => by cases hf) (fun j294 hj294 v0_294 v5_294 v6_294 h32 hf => ?_) (fun j294 hj294 hf => ?_)
                            · refine y_aload_n (x := v0_294) (pc2 := 295) rfl dX12_least_294 rfl ?_
                              obtain ⟨g69, hf⟩ := y_g hf
                              refine y_getP (pc2 := 298) rfl dX12_least_295 F_BoxYardModel_161 (by decide) rfl g69 ?_
                              refine y_iload (pc2 := 300) rfl dX12_least_298 rfl ?_
                              obtain ⟨g68, hf⟩ := y_g hf
                              refine y_iald (pc2 := 301) rfl dX12_least_300 g68.1 (y_ix_in g68.2) ?_
                              refine y_bipush (v := (-9 : Int32)) (pc2 := 303) rfl dX12_least_301 (by decide) ?_
                              refine y_icmp_eq (tgt := 328) (pc2 := 306) rfl dX12_least_303 (by decide) (fun c67 => ?_) (fun c67 => ?_)
                              · replace hf := y_it c67 hf
                                refine y_aload_n (x := v0_294) (pc2 := 329) rfl dX12_least_328 rfl ?_
                                obtain ⟨g60, hf⟩ := y_g hf
                                refine y_getI (pc2 := 332) rfl dX12_least_329 F_BoxYardModel_264 (by decide) rfl g60 ?_
                                refine y_istore (lv' := [(6, .int (y_I h32 v0_294 58)), (0, y_p v0_294), (5, .int v5_294)]) (pc2 := 334) rfl dX12_least_332 (by decide) rfl ?_
                                refine y_iload (pc2 := 336) rfl dX12_least_334 rfl ?_
                                refine y_jlE hf (fun j => ∀ (v0_338 : Nat) (v6_338 : Int32) (v7_338 : Int32) (h33 : y_H), j v0_338 v6_338 v7_338 h33 = some (rz, hz) → y_V l G z rm_X12_least M_X12_least ad0 h (some (.int rz)) hz 338 [(0, y_p v0_338), (6, .int v6_338), (7, .int v7_338)] [] h33 0 0) (fun _ _ _ _ hf => by cases hf) (fun j338 hj338 v0_338 v6_338 v7_338 h33 hf => ?_) (fun j338 hj338 hf => ?_)
                                · refine y_aload_n (x := v0_338) (pc2 := 339) rfl dX12_least_338 rfl ?_
                                  obtain ⟨g59, hf⟩ := y_g hf
                                  refine y_getP (pc2 := 342) rfl dX12_least_339 F_BoxYardModel_161 (by decide) rfl g59 ?_
                                  refine y_iload (pc2 := 344) rfl dX12_least_342 rfl ?_
                                  obtain ⟨g58, hf⟩ := y_g hf
                                  refine y_iald (pc2 := 345) rfl dX12_least_344 g58.1 (y_ix_in g58.2) ?_
                                  refine y_bipush (v := (-9 : Int32)) (pc2 := 347) rfl dX12_least_345 (by decide) ?_
                                  refine y_icmp_eq (tgt := 419) (pc2 := 350) rfl dX12_least_347 (by decide) (fun c57 => ?_) (fun c57 => ?_)
                                  · replace hf := y_it c57 hf
                                    refine y_aload_n (x := v0_338) (pc2 := 420) rfl dX12_least_419 rfl ?_
                                    obtain ⟨g34, hf⟩ := y_g hf
                                    refine y_getI (pc2 := 423) rfl dX12_least_420 F_BoxYardModel_264 (by decide) rfl g34 ?_
                                    exact y_iretF hf dX12_least_423 rfl (by decide) (by decide)
                                  · replace hf := y_ie c57 hf
                                    refine y_iinc (v := v6_338 + (-1 : Int32)) (lv' := [(6, .int (v6_338 + (-1 : Int32))), (0, y_p v0_338), (7, .int v7_338)]) (pc2 := 353) rfl dX12_least_350 rfl rfl (by decide) rfl ?_
                                    refine y_aload_n (x := v0_338) (pc2 := 354) rfl dX12_least_353 rfl ?_
                                    obtain ⟨g56, hf⟩ := y_g hf
                                    refine y_getP (pc2 := 357) rfl dX12_least_354 F_BoxYardModel_150 (by decide) rfl g56 ?_
                                    refine y_iload (pc2 := 359) rfl dX12_least_357 rfl ?_
                                    refine y_aload_n (x := v0_338) (pc2 := 360) rfl dX12_least_359 rfl ?_
                                    obtain ⟨g55, hf⟩ := y_g hf
                                    refine y_getP (pc2 := 363) rfl dX12_least_360 F_BoxYardModel_164 (by decide) rfl g55 ?_
                                    refine y_iload (pc2 := 365) rfl dX12_least_363 rfl ?_
                                    obtain ⟨g54, hf⟩ := y_g hf
                                    refine y_iald (pc2 := 366) rfl dX12_least_365 g54.1 (y_ix_in g54.2) ?_
                                    refine y_bipush (v := 8) (pc2 := 368) rfl dX12_least_366 (by decide) ?_
                                    refine y_idiv (pc2 := 369) rfl dX12_least_368 (by decide) ?_
                                    obtain ⟨g37, hf⟩ := y_g hf
                                    obtain ⟨h35, e36, hf⟩ := y_bdE hf
                                    refine y_iast (x := (y_I h33 (y_P h33 v0_338 64) (Int32.toNatClampNeg v7_338)) / 8) (pc2 := 370) rfl dX12_least_369 g37.1 (y_ix_in g37.2) e36 ?_
                                    refine y_aload_n (x := v0_338) (pc2 := 371) rfl dX12_least_370 rfl ?_
                                    obtain ⟨g53, hf⟩ := y_g hf
                                    refine y_getP (pc2 := 374) rfl dX12_least_371 F_BoxYardModel_153 (by decide) rfl g53 ?_
                                    refine y_iload (pc2 := 376) rfl dX12_least_374 rfl ?_
                                    refine y_aload_n (x := v0_338) (pc2 := 377) rfl dX12_least_376 rfl ?_
                                    obtain ⟨g52, hf⟩ := y_g hf
                                    refine y_getP (pc2 := 380) rfl dX12_least_377 F_BoxYardModel_164 (by decide) rfl g52 ?_
                                    refine y_iload (pc2 := 382) rfl dX12_least_380 rfl ?_
                                    obtain ⟨g51, hf⟩ := y_g hf
                                    refine y_iald (pc2 := 383) rfl dX12_least_382 g51.1 (y_ix_in g51.2) ?_
                                    refine y_bipush (v := 8) (pc2 := 385) rfl dX12_least_383 (by decide) ?_
                                    refine y_rm (pc2 := 386) rfl dX12_least_385 (by decide) ?_
                                    refine y_bipush (v := 7) (pc2 := 388) rfl dX12_least_386 (by decide) ?_
                                    refine y_icmp_ne (tgt := 396) (pc2 := 391) rfl dX12_least_388 (by decide) (fun c50 => ?_) (fun c50 => ?_)
                                    · replace hf := y_ie c50 hf
                                      refine y_aload_n (x := v0_338) (pc2 := 397) rfl dX12_least_396 rfl ?_
                                      obtain ⟨g44, hf⟩ := y_g hf
                                      refine y_getP (pc2 := 400) rfl dX12_least_397 F_BoxYardModel_164 (by decide) rfl g44 ?_
                                      refine y_iload (pc2 := 402) rfl dX12_least_400 rfl ?_
                                      obtain ⟨g43, hf⟩ := y_g hf
                                      refine y_iald (pc2 := 403) rfl dX12_least_402 g43.1 (y_ix_in g43.2) ?_
                                      refine y_bipush (v := 8) (pc2 := 405) rfl dX12_least_403 (by decide) ?_
                                      refine y_rm (pc2 := 406) rfl dX12_least_405 (by decide) ?_
                                      obtain ⟨g40, hf⟩ := y_g hf
                                      obtain ⟨h38, e39, hf⟩ := y_bdE hf
                                      refine y_iast (x := y_rem (y_I h35 (y_P h35 v0_338 64) (Int32.toNatClampNeg v7_338)) 8) (pc2 := 407) rfl dX12_least_406 g40.1 (y_ix_in g40.2) e39 ?_
                                      refine y_aload_n (x := v0_338) (pc2 := 408) rfl dX12_least_407 rfl ?_
                                      obtain ⟨g42, hf⟩ := y_g hf
                                      refine y_getP (pc2 := 411) rfl dX12_least_408 F_BoxYardModel_161 (by decide) rfl g42 ?_
                                      refine y_iload (pc2 := 413) rfl dX12_least_411 rfl ?_
                                      obtain ⟨g41, hf⟩ := y_g hf
                                      refine y_iald (pc2 := 414) rfl dX12_least_413 g41.1 (y_ix_in g41.2) ?_
                                      refine y_istore (lv' := [(7, .int (y_I h38 (y_P h38 v0_338 63) (Int32.toNatClampNeg v7_338))), (6, .int (v6_338 + (-1 : Int32))), (0, y_p v0_338)]) (pc2 := 416) rfl dX12_least_414 (by decide) rfl ?_
                                      refine y_goto (tgt := 338) dX12_least_416 (by decide) ?_
                                      exact y_pk [2, 1, 0] rfl (hj338 _ _ _ _ hf)
                                    · replace hf := y_it c50 hf
                                      refine y_bipush (v := (-9 : Int32)) (pc2 := 393) rfl dX12_least_391 (by decide) ?_
                                      refine y_goto (tgt := 406) dX12_least_393 (by decide) ?_
                                      obtain ⟨g47, hf⟩ := y_g hf
                                      obtain ⟨h45, e46, hf⟩ := y_bdE hf
                                      refine y_iast (x := (-9 : Int32)) (pc2 := 407) rfl dX12_least_406 g47.1 (y_ix_in g47.2) e46 ?_
                                      refine y_aload_n (x := v0_338) (pc2 := 408) rfl dX12_least_407 rfl ?_
                                      obtain ⟨g49, hf⟩ := y_g hf
                                      refine y_getP (pc2 := 411) rfl dX12_least_408 F_BoxYardModel_161 (by decide) rfl g49 ?_
                                      refine y_iload (pc2 := 413) rfl dX12_least_411 rfl ?_
                                      obtain ⟨g48, hf⟩ := y_g hf
                                      refine y_iald (pc2 := 414) rfl dX12_least_413 g48.1 (y_ix_in g48.2) ?_
                                      refine y_istore (lv' := [(7, .int (y_I h45 (y_P h45 v0_338 63) (Int32.toNatClampNeg v7_338))), (6, .int (v6_338 + (-1 : Int32))), (0, y_p v0_338)]) (pc2 := 416) rfl dX12_least_414 (by decide) rfl ?_
                                      refine y_goto (tgt := 338) dX12_least_416 (by decide) ?_
                                      exact y_pk [2, 1, 0] rfl (hj338 _ _ _ _ hf)
                                · refine y_istore (lv' := [(7, .int v5_294), (6, .int (y_I h32 v0_294 58)), (0, y_p v0_294), (5, .int v5_294)]) (pc2 := 338) rfl dX12_least_336 (by decide) rfl ?_
                                  exact y_pk [2, 1, 0] rfl (hj338 _ _ _ _ hf)
                              · replace hf := y_ie c67 hf
                                refine y_aload_n (x := v0_294) (pc2 := 307) rfl dX12_least_306 rfl ?_
                                refine y_dup (pc2 := 308) rfl dX12_least_307 (y_p_cat _) ?_
                                obtain ⟨g66, hf⟩ := y_g hf
                                refine y_getI (pc2 := 311) rfl dX12_least_308 F_BoxYardModel_264 (by decide) rfl g66 ?_
                                refine y_iconst (v := 1) (pc2 := 312) rfl dX12_least_311 (by decide) ?_
                                refine y_iadd (pc2 := 313) rfl dX12_least_312 ?_
                                obtain ⟨g63, hf⟩ := y_g hf
                                obtain ⟨h61, e62, hf⟩ := y_bdE hf
                                refine y_putI (x := (y_I h32 v0_294 58) + 1) (pc2 := 316) rfl dX12_least_313 Fp_BoxYardModel_264 (by decide) rfl g63 e62 ?_
                                refine y_aload_n (x := v0_294) (pc2 := 317) rfl dX12_least_316 rfl ?_
                                obtain ⟨g65, hf⟩ := y_g hf
                                refine y_getP (pc2 := 320) rfl dX12_least_317 F_BoxYardModel_161 (by decide) rfl g65 ?_
                                refine y_iload (pc2 := 322) rfl dX12_least_320 rfl ?_
                                obtain ⟨g64, hf⟩ := y_g hf
                                refine y_iald (pc2 := 323) rfl dX12_least_322 g64.1 (y_ix_in g64.2) ?_
                                refine y_istore (lv' := [(6, .int (y_I h61 (y_P h61 v0_294 63) (Int32.toNatClampNeg v6_294))), (0, y_p v0_294), (5, .int v5_294)]) (pc2 := 325) rfl dX12_least_323 (by decide) rfl ?_
                                refine y_goto (tgt := 294) dX12_least_325 (by decide) ?_
                                exact y_pk [1, 2, 0] rfl (hj294 _ _ _ _ hf)
                            · refine y_istore (lv' := [(6, .int v5_270), (0, y_p v0_270), (1, .int v1_270), (5, .int v5_270)]) (pc2 := 294) rfl dX12_least_292 (by decide) rfl ?_
                              exact y_pk [1, 3, 0] rfl (hj294 _ _ _ _ hf)
                          · replace hf := y_it c70 hf
                            refine y_bipush (v := (-9 : Int32)) (pc2 := 284) rfl dX12_least_282 (by decide) ?_
                            exact y_iretF hf dX12_least_284 rfl (by decide) (by decide)
                        · refine y_icmp_ge (tgt := 270) (pc2 := 225) rfl dX12_least_222 (by decide) (fun c83 => ?_) (fun c83 => ?_)
                          · replace hf := y_it c83 hf
                            exact y_pk [0, 1, 3] rfl (hj270 _ _ _ _ hf)
                          · replace hf := y_ie c83 hf
                            refine y_iload (pc2 := 227) rfl dX12_least_225 rfl ?_
                            refine y_bipush (v := (-9 : Int32)) (pc2 := 229) rfl dX12_least_227 (by decide) ?_
                            refine y_icmp_ne (tgt := 270) (pc2 := 232) rfl dX12_least_229 (by decide) (fun c82 => ?_) (fun c82 => ?_)
                            · replace hf := y_ie c82 hf
                              exact y_pk [0, 1, 3] rfl (hj270 _ _ _ _ hf)
                            · replace hf := y_it c82 hf
                              refine y_aload_n (x := v0_216) (pc2 := 233) rfl dX12_least_232 rfl ?_
                              refine y_aload_n (x := v0_216) (pc2 := 234) rfl dX12_least_233 rfl ?_
                              obtain ⟨g81, hf⟩ := y_g hf
                              refine y_getP (pc2 := 237) rfl dX12_least_234 F_BoxYardModel_157 (by decide) rfl g81 ?_
                              refine y_iload (pc2 := 239) rfl dX12_least_237 rfl ?_
                              obtain ⟨g80, hf⟩ := y_g hf
                              refine y_lald (pc2 := 240) rfl dX12_least_239 g80.1 (y_ix_in g80.2) ?_
                              obtain ⟨g79, hf⟩ := y_g hf
                              obtain ⟨r71, h72, c73, hf⟩ := y_clE hf
                              refine y_callV (As := [.long (y_L h24 (y_P h24 v0_216 62) (Int32.toNatClampNeg v4_216))]) (rm := rm_X12_outOf) (cells := 0) (slots := 0) (pc2 := 243) rfl dX12_least_240 n_X12_outOf l_BoxYardModel_457 i_X12_outOf e_X12_outOf (ci := 12) rfl rfl (by decide) g79 rfl rfl (by decide) (by decide) (by decide) (k_X12_outOf c73) ?_
                              refine y_aload_n (x := v0_216) (pc2 := 244) rfl dX12_least_243 rfl ?_
                              obtain ⟨g78, hf⟩ := y_g hf
                              refine y_getI (pc2 := 247) rfl dX12_least_244 F_BoxYardModel_258 (by decide) rfl g78 ?_
                              refine y_icmp_ne (tgt := 257) (pc2 := 250) rfl dX12_least_247 (by decide) (fun c77 => ?_) (fun c77 => ?_)
                              · replace hf := y_ie c77 hf
                                refine y_aload_n (x := v0_216) (pc2 := 258) rfl dX12_least_257 rfl ?_
                                refine y_iload_n (pc2 := 259) rfl dX12_least_258 rfl ?_
                                refine y_iload (pc2 := 261) rfl dX12_least_259 rfl ?_
                                obtain ⟨g76, hf⟩ := y_g hf
                                obtain ⟨r_, h74, c75, hf⟩ := y_clE hf
                                refine y_callV (As := [.int v1_216, .int v4_216]) (rm := rm_X12_lifted) (cells := 0) (slots := 0) (pc2 := 264) rfl dX12_least_261 n_X12_lifted l_BoxYardModel_473 i_X12_lifted e_X12_lifted (ci := 12) rfl rfl (by decide) g76 rfl rfl (by decide) (by decide) (by decide) (k_X12_lifted c75) ?_
                                refine y_iinc (v := v4_216 + 1) (lv' := [(4, .int (v4_216 + 1)), (0, y_p v0_216), (1, .int v1_216), (5, .int v5_216)]) (pc2 := 267) rfl dX12_least_264 rfl rfl (by decide) rfl ?_
                                refine y_goto (tgt := 216) dX12_least_267 (by decide) ?_
                                exact y_pk [1, 2, 0, 3] rfl (hj216 _ _ _ _ _ hf)
                              · replace hf := y_it c77 hf
                                refine y_iload (pc2 := 252) rfl dX12_least_250 rfl ?_
                                refine y_istore (lv' := [(5, .int v4_216), (0, y_p v0_216), (1, .int v1_216), (4, .int v4_216)]) (pc2 := 254) rfl dX12_least_252 (by decide) rfl ?_
                                refine y_goto (tgt := 216) dX12_least_254 (by decide) ?_
                                exact y_pk [1, 2, 3, 0] rfl (hj216 _ _ _ _ _ hf)
                      · refine y_istore (lv' := [(5, .int (-9 : Int32)), (4, .int 0), (0, y_p v0_97), (1, .int v1_97), (2, .long v2_97)]) (pc2 := 216) rfl dX12_least_214 (by decide) rfl ?_
                        exact y_pk [2, 3, 1, 0] rfl (hj216 _ _ _ _ _ hf)
                    · replace hf := y_ie c102 hf
                      refine y_iconst (v := 0) (pc2 := 109) rfl dX12_least_108 (by decide) ?_
                      refine y_jlE hf (fun j => ∀ (v0_111 : Nat) (v1_111 : Int32) (v2_111 : Int64) (v4_111 : Int32) (v5_111 : Int32) (h86 : y_H), j v0_111 v1_111 v2_111 v4_111 v5_111 h86 = some (rz, hz) → y_V l G z rm_X12_least M_X12_least ad0 h (some (.int rz)) hz 111 [(0, y_p v0_111), (1, .int v1_111), (2, .long v2_111), (4, .int v4_111), (5, .int v5_111)] [] h86 0 0) (fun _ _ _ _ _ _ hf => by cases hf) (fun j111 hj111 v0_111 v1_111 v2_111 v4_111 v5_111 h86 hf => ?_) (fun j111 hj111 hf => ?_)
                      · refine y_iload (pc2 := 113) rfl dX12_least_111 rfl ?_
                        refine y_aload_n (x := v0_111) (pc2 := 114) rfl dX12_least_113 rfl ?_
                        obtain ⟨g101, hf⟩ := y_g hf
                        refine y_getP (pc2 := 117) rfl dX12_least_114 F_BoxYardModel_71 (by decide) rfl g101 ?_
                        refine y_bipush (v := 6) (pc2 := 119) rfl dX12_least_117 (by decide) ?_
                        refine y_iload_n (pc2 := 120) rfl dX12_least_119 rfl ?_
                        refine y_imul (pc2 := 121) rfl dX12_least_120 ?_
                        refine y_iload (pc2 := 123) rfl dX12_least_121 rfl ?_
                        refine y_iadd (pc2 := 124) rfl dX12_least_123 ?_
                        obtain ⟨g100, hf⟩ := y_g hf
                        refine y_iald (pc2 := 125) rfl dX12_least_124 g100.1 (y_ix_in g100.2) ?_
                        refine y_icmp_ge (tgt := 189) (pc2 := 128) rfl dX12_least_125 (by decide) (fun c99 => ?_) (fun c99 => ?_)
                        · replace hf := y_it c99 hf
                          refine y_iinc (v := v4_111 + 1) (lv' := [(4, .int (v4_111 + 1)), (0, y_p v0_111), (1, .int v1_111), (2, .long v2_111), (5, .int v5_111)]) (pc2 := 192) rfl dX12_least_189 rfl rfl (by decide) rfl ?_
                          refine y_goto (tgt := 97) dX12_least_192 (by decide) ?_
                          exact y_pk [1, 2, 3, 0] rfl (hj97 _ _ _ _ _ hf)
                        · replace hf := y_ie c99 hf
                          refine y_aload_n (x := v0_111) (pc2 := 129) rfl dX12_least_128 rfl ?_
                          obtain ⟨g98, hf⟩ := y_g hf
                          refine y_getP (pc2 := 132) rfl dX12_least_129 F_BoxYardModel_171 (by decide) rfl g98 ?_
                          refine y_aload_n (x := v0_111) (pc2 := 133) rfl dX12_least_132 rfl ?_
                          obtain ⟨g97, hf⟩ := y_g hf
                          refine y_getI (pc2 := 136) rfl dX12_least_133 F_BoxYardModel_450 (by decide) rfl g97 ?_
                          refine y_aload_n (x := v0_111) (pc2 := 137) rfl dX12_least_136 rfl ?_
                          obtain ⟨g96, hf⟩ := y_g hf
                          refine y_getP (pc2 := 140) rfl dX12_least_137 F_BoxYardModel_74 (by decide) rfl g96 ?_
                          refine y_iconst (v := 5) (pc2 := 141) rfl dX12_least_140 (by decide) ?_
                          refine y_bipush (v := 6) (pc2 := 143) rfl dX12_least_141 (by decide) ?_
                          refine y_iload_n (pc2 := 144) rfl dX12_least_143 rfl ?_
                          refine y_imul (pc2 := 145) rfl dX12_least_144 ?_
                          refine y_iload (pc2 := 147) rfl dX12_least_145 rfl ?_
                          refine y_iadd (pc2 := 148) rfl dX12_least_147 ?_
                          refine y_imul (pc2 := 149) rfl dX12_least_148 ?_
                          refine y_iload (pc2 := 151) rfl dX12_least_149 rfl ?_
                          refine y_iadd (pc2 := 152) rfl dX12_least_151 ?_
                          obtain ⟨g95, hf⟩ := y_g hf
                          refine y_iald (pc2 := 153) rfl dX12_least_152 g95.1 (y_ix_in g95.2) ?_
                          obtain ⟨g89, hf⟩ := y_g hf
                          obtain ⟨h87, e88, hf⟩ := y_bdE hf
                          refine y_iast (x := y_I h86 (y_P h86 v0_111 23) (Int32.toNatClampNeg ((5 * ((6 * v1_111) + v4_111)) + v5_111))) (pc2 := 154) rfl dX12_least_153 g89.1 (y_ix_in g89.2) e88 ?_
                          refine y_aload_n (x := v0_111) (pc2 := 155) rfl dX12_least_154 rfl ?_
                          refine y_dup (pc2 := 156) rfl dX12_least_155 (y_p_cat _) ?_
                          obtain ⟨g94, hf⟩ := y_g hf
                          refine y_getI (pc2 := 159) rfl dX12_least_156 F_BoxYardModel_450 (by decide) rfl g94 ?_
                          refine y_iconst (v := 1) (pc2 := 160) rfl dX12_least_159 (by decide) ?_
                          refine y_iadd (pc2 := 161) rfl dX12_least_160 ?_
                          obtain ⟨g92, hf⟩ := y_g hf
                          obtain ⟨h90, e91, hf⟩ := y_bdE hf
                          refine y_putI (x := (y_I h87 v0_111 68) + 1) (pc2 := 164) rfl dX12_least_161 Fp_BoxYardModel_450 (by decide) rfl g92 e91 ?_
                          refine y_lload_n (pc2 := 165) rfl dX12_least_164 rfl ?_
                          refine y_aload_n (x := v0_111) (pc2 := 166) rfl dX12_least_165 rfl ?_
                          obtain ⟨g93, hf⟩ := y_g hf
                          refine y_getI (pc2 := 169) rfl dX12_least_166 F_BoxYardModel_450 (by decide) rfl g93 ?_
                          refine y_i2l (pc2 := 170) rfl dX12_least_169 ?_
                          refine y_bipush (v := 15) (pc2 := 172) rfl dX12_least_170 (by decide) ?_
                          refine y_iload (pc2 := 174) rfl dX12_least_172 rfl ?_
                          refine y_imul (pc2 := 175) rfl dX12_least_174 ?_
                          refine y_iconst (v := 3) (pc2 := 176) rfl dX12_least_175 (by decide) ?_
                          refine y_iload (pc2 := 178) rfl dX12_least_176 rfl ?_
                          refine y_imul (pc2 := 179) rfl dX12_least_178 ?_
                          refine y_iadd (pc2 := 180) rfl dX12_least_179 ?_
                          refine y_lshl (pc2 := 181) rfl dX12_least_180 ?_
                          refine y_lor (pc2 := 182) rfl dX12_least_181 ?_
                          refine y_lstore_n (lv' := [(2, .long (v2_111 ||| ((Int32.toInt64 (y_I h90 v0_111 68)) <<< (Int32.toInt64 ((15 * v4_111) + (3 * v5_111)) &&& 63)))), (0, y_p v0_111), (1, .int v1_111), (4, .int v4_111), (5, .int v5_111)]) (pc2 := 183) rfl dX12_least_182 (by decide) rfl ?_
                          refine y_iinc (v := v5_111 + 1) (lv' := [(5, .int (v5_111 + 1)), (2, .long (v2_111 ||| ((Int32.toInt64 (y_I h90 v0_111 68)) <<< (Int32.toInt64 ((15 * v4_111) + (3 * v5_111)) &&& 63)))), (0, y_p v0_111), (1, .int v1_111), (4, .int v4_111)]) (pc2 := 186) rfl dX12_least_183 rfl rfl (by decide) rfl ?_
                          refine y_goto (tgt := 111) dX12_least_186 (by decide) ?_
                          exact y_pk [2, 3, 1, 4, 0] rfl (hj111 _ _ _ _ _ _ hf)
                      · refine y_istore (lv' := [(5, .int 0), (0, y_p v0_97), (1, .int v1_97), (2, .long v2_97), (4, .int v4_97)]) (pc2 := 111) rfl dX12_least_109 (by decide) rfl ?_
                        exact y_pk [1, 2, 3, 4, 0] rfl (hj111 _ _ _ _ _ _ hf)
                  · refine y_istore (lv' := [(4, .int 0), (2, .long 0), (0, y_p v0_68), (1, .int v1_68)]) (pc2 := 97) rfl dX12_least_95 (by decide) rfl ?_
                    exact y_pk [2, 3, 1, 0] rfl (hj97 _ _ _ _ _ hf)
                · replace hf := y_ie c109 hf
                  refine y_aload_n (x := v0_68) (pc2 := 75) rfl dX12_least_74 rfl ?_
                  obtain ⟨g108, hf⟩ := y_g hf
                  refine y_getP (pc2 := 78) rfl dX12_least_75 F_BoxYardModel_168 (by decide) rfl g108 ?_
                  refine y_iload_n (pc2 := 79) rfl dX12_least_78 rfl ?_
                  refine y_iconst (v := 0) (pc2 := 80) rfl dX12_least_79 (by decide) ?_
                  obtain ⟨g107, hf⟩ := y_g hf
                  obtain ⟨h105, e106, hf⟩ := y_bdE hf
                  refine y_iast (x := 0) (pc2 := 81) rfl dX12_least_80 g107.1 (y_ix_in g107.2) e106 ?_
                  refine y_iinc (v := v2_68 + 1) (lv' := [(2, .int (v2_68 + 1)), (0, y_p v0_68), (1, .int v1_68)]) (pc2 := 84) rfl dX12_least_81 rfl rfl (by decide) rfl ?_
                  refine y_goto (tgt := 68) dX12_least_84 (by decide) ?_
                  exact y_pk [1, 2, 0] rfl (hj68 _ _ _ _ hf)
              · refine y_istore_n (lv' := [(2, .int 0), (0, y_p p0), (1, .int p1)]) (pc2 := 68) rfl dX12_least_67 (by decide) rfl ?_
                exact y_pk [1, 2, 0] rfl (hj68 _ _ _ _ hf)
            · replace hf := y_it c111 hf
              refine y_bipush (v := (-4 : Int32)) (pc2 := 55) rfl dX12_least_53 (by decide) ?_
              exact y_iretF hf dX12_least_55 rfl (by decide) (by decide)
          · replace hf := y_ie c113 hf
            refine y_bipush (v := (-3 : Int32)) (pc2 := 43) rfl dX12_least_41 (by decide) ?_
            exact y_iretF hf dX12_least_43 rfl (by decide) (by decide)
        · replace hf := y_ie c115 hf
          exact y_pk [] rfl (hj30 _ hf)
  · replace hf := y_ie c120 hf
    refine y_iconst (v := (-1 : Int32)) (pc2 := 9) rfl dX12_least_8 (by decide) ?_
    exact y_iretF hf dX12_least_9 rfl (by decide) (by decide)
theorem dX12_row_0 : decode cX12_row 0 = .ok (.iload_n 1, 1) := by decide +kernel
theorem dX12_row_1 : decode cX12_row 1 = .ok (.iconst 0, 1) := by decide +kernel
theorem dX12_row_2 : decode cX12_row 2 = .ok (.aload_n 0, 1) := by decide +kernel
theorem dX12_row_3 : decode cX12_row 3 = .ok (.getfield 264, 3) := by decide +kernel
theorem dX12_row_6 : decode cX12_row 6 = .ok (.iconst 1, 1) := by decide +kernel
theorem dX12_row_7 : decode cX12_row 7 = .ok (.isub, 1) := by decide +kernel
theorem dX12_row_8 : decode cX12_row 8 = .ok (.invokestatic 278, 3) := by decide +kernel
theorem dX12_row_11 : decode cX12_row 11 = .ok (.ifCond .ne 5, 3) := by decide +kernel
theorem dX12_row_14 : decode cX12_row 14 = .ok (.iconst (-1), 1) := by decide +kernel
theorem dX12_row_15 : decode cX12_row 15 = .ok (.ireturn, 1) := by decide +kernel
theorem dX12_row_16 : decode cX12_row 16 = .ok (.iload_n 2, 1) := by decide +kernel
theorem dX12_row_17 : decode cX12_row 17 = .ok (.ifCond .ne 12, 3) := by decide +kernel
theorem dX12_row_20 : decode cX12_row 20 = .ok (.aload_n 0, 1) := by decide +kernel
theorem dX12_row_21 : decode cX12_row 21 = .ok (.getfield 150, 3) := by decide +kernel
theorem dX12_row_24 : decode cX12_row 24 = .ok (.iload_n 1, 1) := by decide +kernel
theorem dX12_row_25 : decode cX12_row 25 = .ok (.iaload, 1) := by decide +kernel
theorem dX12_row_26 : decode cX12_row 26 = .ok (.goto 19, 3) := by decide +kernel
theorem dX12_row_29 : decode cX12_row 29 = .ok (.iload_n 2, 1) := by decide +kernel
theorem dX12_row_30 : decode cX12_row 30 = .ok (.iconst 1, 1) := by decide +kernel
theorem dX12_row_31 : decode cX12_row 31 = .ok (.if_icmp .ne 12, 3) := by decide +kernel
theorem dX12_row_34 : decode cX12_row 34 = .ok (.aload_n 0, 1) := by decide +kernel
theorem dX12_row_35 : decode cX12_row 35 = .ok (.getfield 153, 3) := by decide +kernel
theorem dX12_row_38 : decode cX12_row 38 = .ok (.iload_n 1, 1) := by decide +kernel
theorem dX12_row_39 : decode cX12_row 39 = .ok (.iaload, 1) := by decide +kernel
theorem dX12_row_40 : decode cX12_row 40 = .ok (.goto 5, 3) := by decide +kernel
theorem dX12_row_43 : decode cX12_row 43 = .ok (.bipush (-2), 2) := by decide +kernel
theorem dX12_row_45 : decode cX12_row 45 = .ok (.ireturn, 1) := by decide +kernel
def M_X12_row : y_M := (yX12_row, cX12_row, 3, (Option.some Jvm.ClassFile.FieldType.int))
theorem n_X12_row : y_N0 M_X12_row 2 := ⟨(c_10 34 (by decide +kernel) rfl), (c_1 9 (by decide +kernel) rfl), ⟨by decide +kernel, by decide +kernel⟩, by decide +kernel⟩
set_option maxRecDepth 100000 in
def f_X12_row (p0 : Nat) (p1 : Int32) (p2 : Int32) (h : y_H) : Option (Int32 × y_H) :=
  if y_K h p0 = 13 then
  y_cl (f_X12_in p1 0 ((y_I h p0 58) - 1) h) (fun r1 h2 =>
  if r1 = true then
    if p2 = 0 then
      if y_K h2 p0 = 13 then
      if y_K h2 (y_P h2 p0 60) = 100 ∧ y_ix p1 (y_N h2 (y_P h2 p0 60)) = true then
      some (y_I h2 (y_P h2 p0 60) (Int32.toNatClampNeg p1), h2)
      else none
      else none
    else
      if p2 = 1 then
        if y_K h2 p0 = 13 then
        if y_K h2 (y_P h2 p0 61) = 100 ∧ y_ix p1 (y_N h2 (y_P h2 p0 61)) = true then
        some (y_I h2 (y_P h2 p0 61) (Int32.toNatClampNeg p1), h2)
        else none
        else none
      else
        some ((-2 : Int32), h2)
  else
    some ((-1 : Int32), h2))
  else none
abbrev rm_X12_row : Room := { frames := 1, cells := 0, slots := 0, locals := 22 }
set_option maxRecDepth 100000 in
set_option maxHeartbeats 4000000 in
theorem k_X12_row {l : Launch} {G : y_G} {p0 : Nat} {p1 : Int32} {p2 : Int32} {h hz : y_H} {rz : Int32} (hf : f_X12_row p0 p1 p2 h = some (rz, hz)) : y_S l G M_X12_row rm_X12_row [y_p p0, .int p1, .int p2] h (some (.int rz)) hz := by
  refine y_start (lv := [(0, y_p p0), (1, .int p1), (2, .int p2)]) (by decide) (by simp [lg_sl, y_p_cat, y_ci, y_cj, M_X12_row]) (by simp [lv_args, y_p_cat, y_ci, y_cj]) (fun z ad0 => ?_)
  unfold f_X12_row at hf
  refine y_iload_n (pc2 := 1) rfl dX12_row_0 rfl ?_
  refine y_iconst (v := 0) (pc2 := 2) rfl dX12_row_1 (by decide) ?_
  refine y_aload_n (x := p0) (pc2 := 3) rfl dX12_row_2 rfl ?_
  obtain ⟨g11, hf⟩ := y_g hf
  refine y_getI (pc2 := 6) rfl dX12_row_3 F_BoxYardModel_264 (by decide) rfl g11 ?_
  refine y_iconst (v := 1) (pc2 := 7) rfl dX12_row_6 (by decide) ?_
  refine y_isub (pc2 := 8) rfl dX12_row_7 ?_
  obtain ⟨r1, h2, c3, hf⟩ := y_clE hf
  refine y_callS (As := [.int p1, .int 0, .int ((y_I h p0 58) - 1)]) (rm := rm_X12_in) (cells := 0) (slots := 0) (pc2 := 11) rfl dX12_row_8 n_X12_in l_BoxYardModel_278 t_X12_in rfl rfl (by decide) (by decide) (by decide) (k_X12_in c3) ?_
  refine y_ifz_ne (tgt := 16) (pc2 := 14) rfl dX12_row_11 (by decide) (fun c10 => ?_) (fun c10 => ?_)
  · replace hf := y_it c10 hf
    refine y_iload_n (pc2 := 17) rfl dX12_row_16 rfl ?_
    refine y_if_ne (tgt := 29) (pc2 := 20) rfl dX12_row_17 (by decide) (fun c9 => ?_) (fun c9 => ?_)
    · replace hf := y_ie c9 hf
      refine y_iload_n (pc2 := 30) rfl dX12_row_29 rfl ?_
      refine y_iconst (v := 1) (pc2 := 31) rfl dX12_row_30 (by decide) ?_
      refine y_icmp_ne (tgt := 43) (pc2 := 34) rfl dX12_row_31 (by decide) (fun c6 => ?_) (fun c6 => ?_)
      · replace hf := y_ie c6 hf
        refine y_bipush (v := (-2 : Int32)) (pc2 := 45) rfl dX12_row_43 (by decide) ?_
        exact y_iretF hf dX12_row_45 rfl (by decide) (by decide)
      · replace hf := y_it c6 hf
        refine y_aload_n (x := p0) (pc2 := 35) rfl dX12_row_34 rfl ?_
        obtain ⟨g5, hf⟩ := y_g hf
        refine y_getP (pc2 := 38) rfl dX12_row_35 F_BoxYardModel_153 (by decide) rfl g5 ?_
        refine y_iload_n (pc2 := 39) rfl dX12_row_38 rfl ?_
        obtain ⟨g4, hf⟩ := y_g hf
        refine y_iald (pc2 := 40) rfl dX12_row_39 g4.1 (y_ix_in g4.2) ?_
        refine y_goto (tgt := 45) dX12_row_40 (by decide) ?_
        exact y_iretF hf dX12_row_45 rfl (by decide) (by decide)
    · replace hf := y_it c9 hf
      refine y_aload_n (x := p0) (pc2 := 21) rfl dX12_row_20 rfl ?_
      obtain ⟨g8, hf⟩ := y_g hf
      refine y_getP (pc2 := 24) rfl dX12_row_21 F_BoxYardModel_150 (by decide) rfl g8 ?_
      refine y_iload_n (pc2 := 25) rfl dX12_row_24 rfl ?_
      obtain ⟨g7, hf⟩ := y_g hf
      refine y_iald (pc2 := 26) rfl dX12_row_25 g7.1 (y_ix_in g7.2) ?_
      refine y_goto (tgt := 45) dX12_row_26 (by decide) ?_
      exact y_iretF hf dX12_row_45 rfl (by decide) (by decide)
  · replace hf := y_ie c10 hf
    refine y_iconst (v := (-1 : Int32)) (pc2 := 15) rfl dX12_row_14 (by decide) ?_
    exact y_iretF hf dX12_row_15 rfl (by decide) (by decide)
theorem dX12_alter_0 : decode cX12_alter 0 = .ok (.iload_n 1, 1) := by decide +kernel
theorem dX12_alter_1 : decode cX12_alter 1 = .ok (.iconst 0, 1) := by decide +kernel
theorem dX12_alter_2 : decode cX12_alter 2 = .ok (.aload_n 0, 1) := by decide +kernel
theorem dX12_alter_3 : decode cX12_alter 3 = .ok (.getfield 264, 3) := by decide +kernel
theorem dX12_alter_6 : decode cX12_alter 6 = .ok (.iconst 1, 1) := by decide +kernel
theorem dX12_alter_7 : decode cX12_alter 7 = .ok (.isub, 1) := by decide +kernel
theorem dX12_alter_8 : decode cX12_alter 8 = .ok (.invokestatic 278, 3) := by decide +kernel
theorem dX12_alter_11 : decode cX12_alter 11 = .ok (.ifCond .ne 5, 3) := by decide +kernel
theorem dX12_alter_14 : decode cX12_alter 14 = .ok (.iconst (-1), 1) := by decide +kernel
theorem dX12_alter_15 : decode cX12_alter 15 = .ok (.ireturn, 1) := by decide +kernel
theorem dX12_alter_16 : decode cX12_alter 16 = .ok (.aload_n 0, 1) := by decide +kernel
theorem dX12_alter_17 : decode cX12_alter 17 = .ok (.getfield 150, 3) := by decide +kernel
theorem dX12_alter_20 : decode cX12_alter 20 = .ok (.iload_n 1, 1) := by decide +kernel
theorem dX12_alter_21 : decode cX12_alter 21 = .ok (.iload_n 2, 1) := by decide +kernel
theorem dX12_alter_22 : decode cX12_alter 22 = .ok (.iastore, 1) := by decide +kernel
theorem dX12_alter_23 : decode cX12_alter 23 = .ok (.aload_n 0, 1) := by decide +kernel
theorem dX12_alter_24 : decode cX12_alter 24 = .ok (.getfield 153, 3) := by decide +kernel
theorem dX12_alter_27 : decode cX12_alter 27 = .ok (.iload_n 1, 1) := by decide +kernel
theorem dX12_alter_28 : decode cX12_alter 28 = .ok (.iload_n 3, 1) := by decide +kernel
theorem dX12_alter_29 : decode cX12_alter 29 = .ok (.iastore, 1) := by decide +kernel
theorem dX12_alter_30 : decode cX12_alter 30 = .ok (.iconst 1, 1) := by decide +kernel
theorem dX12_alter_31 : decode cX12_alter 31 = .ok (.ireturn, 1) := by decide +kernel
def M_X12_alter : y_M := (yX12_alter, cX12_alter, 4, (Option.some Jvm.ClassFile.FieldType.int))
theorem n_X12_alter : y_N0 M_X12_alter 3 := ⟨(c_10 38 (by decide +kernel) rfl), (c_1 9 (by decide +kernel) rfl), ⟨by decide +kernel, by decide +kernel⟩, by decide +kernel⟩
set_option maxRecDepth 100000 in
def f_X12_alter (p0 : Nat) (p1 : Int32) (p2 : Int32) (p3 : Int32) (h : y_H) : Option (Int32 × y_H) :=
  if y_K h p0 = 13 then
  y_cl (f_X12_in p1 0 ((y_I h p0 58) - 1) h) (fun r1 h2 =>
  if r1 = true then
    if y_K h2 p0 = 13 then
    if y_K h2 (y_P h2 p0 60) = 100 ∧ y_ix p1 (y_N h2 (y_P h2 p0 60)) = true then
    y_bd (s_I h2 (y_P h2 p0 60) (Int32.toNatClampNeg p1) p2) (fun h4 =>
    if y_K h4 p0 = 13 then
    if y_K h4 (y_P h4 p0 61) = 100 ∧ y_ix p1 (y_N h4 (y_P h4 p0 61)) = true then
    y_bd (s_I h4 (y_P h4 p0 61) (Int32.toNatClampNeg p1) p3) (fun h7 =>
    some (1, h7))
    else none
    else none)
    else none
    else none
  else
    some ((-1 : Int32), h2))
  else none
abbrev rm_X12_alter : Room := { frames := 1, cells := 0, slots := 0, locals := 22 }
set_option maxRecDepth 100000 in
set_option maxHeartbeats 4000000 in
theorem k_X12_alter {l : Launch} {G : y_G} {p0 : Nat} {p1 : Int32} {p2 : Int32} {p3 : Int32} {h hz : y_H} {rz : Int32} (hf : f_X12_alter p0 p1 p2 p3 h = some (rz, hz)) : y_S l G M_X12_alter rm_X12_alter [y_p p0, .int p1, .int p2, .int p3] h (some (.int rz)) hz := by
  refine y_start (lv := [(0, y_p p0), (1, .int p1), (2, .int p2), (3, .int p3)]) (by decide) (by simp [lg_sl, y_p_cat, y_ci, y_cj, M_X12_alter]) (by simp [lv_args, y_p_cat, y_ci, y_cj]) (fun z ad0 => ?_)
  unfold f_X12_alter at hf
  refine y_iload_n (pc2 := 1) rfl dX12_alter_0 rfl ?_
  refine y_iconst (v := 0) (pc2 := 2) rfl dX12_alter_1 (by decide) ?_
  refine y_aload_n (x := p0) (pc2 := 3) rfl dX12_alter_2 rfl ?_
  obtain ⟨g13, hf⟩ := y_g hf
  refine y_getI (pc2 := 6) rfl dX12_alter_3 F_BoxYardModel_264 (by decide) rfl g13 ?_
  refine y_iconst (v := 1) (pc2 := 7) rfl dX12_alter_6 (by decide) ?_
  refine y_isub (pc2 := 8) rfl dX12_alter_7 ?_
  obtain ⟨r1, h2, c3, hf⟩ := y_clE hf
  refine y_callS (As := [.int p1, .int 0, .int ((y_I h p0 58) - 1)]) (rm := rm_X12_in) (cells := 0) (slots := 0) (pc2 := 11) rfl dX12_alter_8 n_X12_in l_BoxYardModel_278 t_X12_in rfl rfl (by decide) (by decide) (by decide) (k_X12_in c3) ?_
  refine y_ifz_ne (tgt := 16) (pc2 := 14) rfl dX12_alter_11 (by decide) (fun c12 => ?_) (fun c12 => ?_)
  · replace hf := y_it c12 hf
    refine y_aload_n (x := p0) (pc2 := 17) rfl dX12_alter_16 rfl ?_
    obtain ⟨g11, hf⟩ := y_g hf
    refine y_getP (pc2 := 20) rfl dX12_alter_17 F_BoxYardModel_150 (by decide) rfl g11 ?_
    refine y_iload_n (pc2 := 21) rfl dX12_alter_20 rfl ?_
    refine y_iload_n (pc2 := 22) rfl dX12_alter_21 rfl ?_
    obtain ⟨g6, hf⟩ := y_g hf
    obtain ⟨h4, e5, hf⟩ := y_bdE hf
    refine y_iast (x := p2) (pc2 := 23) rfl dX12_alter_22 g6.1 (y_ix_in g6.2) e5 ?_
    refine y_aload_n (x := p0) (pc2 := 24) rfl dX12_alter_23 rfl ?_
    obtain ⟨g10, hf⟩ := y_g hf
    refine y_getP (pc2 := 27) rfl dX12_alter_24 F_BoxYardModel_153 (by decide) rfl g10 ?_
    refine y_iload_n (pc2 := 28) rfl dX12_alter_27 rfl ?_
    refine y_iload_n (pc2 := 29) rfl dX12_alter_28 rfl ?_
    obtain ⟨g9, hf⟩ := y_g hf
    obtain ⟨h7, e8, hf⟩ := y_bdE hf
    refine y_iast (x := p3) (pc2 := 30) rfl dX12_alter_29 g9.1 (y_ix_in g9.2) e8 ?_
    refine y_iconst (v := 1) (pc2 := 31) rfl dX12_alter_30 (by decide) ?_
    exact y_iretF hf dX12_alter_31 rfl (by decide) (by decide)
  · replace hf := y_ie c12 hf
    refine y_iconst (v := (-1 : Int32)) (pc2 := 15) rfl dX12_alter_14 (by decide) ?_
    exact y_iretF hf dX12_alter_15 rfl (by decide) (by decide)
theorem dX12_works_0 : decode cX12_works 0 = .ok (.iload_n 1, 1) := by decide +kernel
theorem dX12_works_1 : decode cX12_works 1 = .ok (.iconst 0, 1) := by decide +kernel
theorem dX12_works_2 : decode cX12_works 2 = .ok (.aload_n 0, 1) := by decide +kernel
theorem dX12_works_3 : decode cX12_works 3 = .ok (.getfield 62, 3) := by decide +kernel
theorem dX12_works_6 : decode cX12_works 6 = .ok (.aload_n 0, 1) := by decide +kernel
theorem dX12_works_7 : decode cX12_works 7 = .ok (.getfield 147, 3) := by decide +kernel
theorem dX12_works_10 : decode cX12_works 10 = .ok (.iaload, 1) := by decide +kernel
theorem dX12_works_11 : decode cX12_works 11 = .ok (.iconst 1, 1) := by decide +kernel
theorem dX12_works_12 : decode cX12_works 12 = .ok (.isub, 1) := by decide +kernel
theorem dX12_works_13 : decode cX12_works 13 = .ok (.invokestatic 278, 3) := by decide +kernel
theorem dX12_works_16 : decode cX12_works 16 = .ok (.ifCond .eq 12, 3) := by decide +kernel
theorem dX12_works_19 : decode cX12_works 19 = .ok (.aload_n 0, 1) := by decide +kernel
theorem dX12_works_20 : decode cX12_works 20 = .ok (.getfield 174, 3) := by decide +kernel
theorem dX12_works_23 : decode cX12_works 23 = .ok (.iload_n 1, 1) := by decide +kernel
theorem dX12_works_24 : decode cX12_works 24 = .ok (.iaload, 1) := by decide +kernel
theorem dX12_works_25 : decode cX12_works 25 = .ok (.ifCond .ne 5, 3) := by decide +kernel
theorem dX12_works_28 : decode cX12_works 28 = .ok (.iconst 0, 1) := by decide +kernel
theorem dX12_works_29 : decode cX12_works 29 = .ok (.ireturn, 1) := by decide +kernel
theorem dX12_works_30 : decode cX12_works 30 = .ok (.aload_n 0, 1) := by decide +kernel
theorem dX12_works_31 : decode cX12_works 31 = .ok (.getfield 177, 3) := by decide +kernel
theorem dX12_works_34 : decode cX12_works 34 = .ok (.iconst 5, 1) := by decide +kernel
theorem dX12_works_35 : decode cX12_works 35 = .ok (.iload_n 1, 1) := by decide +kernel
theorem dX12_works_36 : decode cX12_works 36 = .ok (.imul, 1) := by decide +kernel
theorem dX12_works_37 : decode cX12_works 37 = .ok (.aload_n 0, 1) := by decide +kernel
theorem dX12_works_38 : decode cX12_works 38 = .ok (.getfield 174, 3) := by decide +kernel
theorem dX12_works_41 : decode cX12_works 41 = .ok (.iload_n 1, 1) := by decide +kernel
theorem dX12_works_42 : decode cX12_works 42 = .ok (.iaload, 1) := by decide +kernel
theorem dX12_works_43 : decode cX12_works 43 = .ok (.iadd, 1) := by decide +kernel
theorem dX12_works_44 : decode cX12_works 44 = .ok (.iconst 1, 1) := by decide +kernel
theorem dX12_works_45 : decode cX12_works 45 = .ok (.isub, 1) := by decide +kernel
theorem dX12_works_46 : decode cX12_works 46 = .ok (.iaload, 1) := by decide +kernel
theorem dX12_works_47 : decode cX12_works 47 = .ok (.istore_n 3, 1) := by decide +kernel
theorem dX12_works_48 : decode cX12_works 48 = .ok (.iload_n 2, 1) := by decide +kernel
theorem dX12_works_49 : decode cX12_works 49 = .ok (.bipush (-9), 2) := by decide +kernel
theorem dX12_works_51 : decode cX12_works 51 = .ok (.if_icmp .ne 42, 3) := by decide +kernel
theorem dX12_works_54 : decode cX12_works 54 = .ok (.aload_n 0, 1) := by decide +kernel
theorem dX12_works_55 : decode cX12_works 55 = .ok (.getfield 476, 3) := by decide +kernel
theorem dX12_works_58 : decode cX12_works 58 = .ok (.aload_n 0, 1) := by decide +kernel
theorem dX12_works_59 : decode cX12_works 59 = .ok (.getfield 258, 3) := by decide +kernel
theorem dX12_works_62 : decode cX12_works 62 = .ok (.if_icmp .eq 16, 3) := by decide +kernel
theorem dX12_works_65 : decode cX12_works 65 = .ok (.aload_n 0, 1) := by decide +kernel
theorem dX12_works_66 : decode cX12_works 66 = .ok (.getfield 144, 3) := by decide +kernel
theorem dX12_works_69 : decode cX12_works 69 = .ok (.aload_n 0, 1) := by decide +kernel
theorem dX12_works_70 : decode cX12_works 70 = .ok (.getfield 476, 3) := by decide +kernel
theorem dX12_works_73 : decode cX12_works 73 = .ok (.iaload, 1) := by decide +kernel
theorem dX12_works_74 : decode cX12_works 74 = .ok (.iload_n 3, 1) := by decide +kernel
theorem dX12_works_75 : decode cX12_works 75 = .ok (.if_icmp .eq 5, 3) := by decide +kernel
theorem dX12_works_78 : decode cX12_works 78 = .ok (.iconst 0, 1) := by decide +kernel
theorem dX12_works_79 : decode cX12_works 79 = .ok (.ireturn, 1) := by decide +kernel
theorem dX12_works_80 : decode cX12_works 80 = .ok (.aload_n 0, 1) := by decide +kernel
theorem dX12_works_81 : decode cX12_works 81 = .ok (.dup, 1) := by decide +kernel
theorem dX12_works_82 : decode cX12_works 82 = .ok (.getfield 476, 3) := by decide +kernel
theorem dX12_works_85 : decode cX12_works 85 = .ok (.iconst 1, 1) := by decide +kernel
theorem dX12_works_86 : decode cX12_works 86 = .ok (.iadd, 1) := by decide +kernel
theorem dX12_works_87 : decode cX12_works 87 = .ok (.putfield 476, 3) := by decide +kernel
theorem dX12_works_90 : decode cX12_works 90 = .ok (.goto 78, 3) := by decide +kernel
theorem dX12_works_93 : decode cX12_works 93 = .ok (.iload_n 2, 1) := by decide +kernel
theorem dX12_works_94 : decode cX12_works 94 = .ok (.iconst 0, 1) := by decide +kernel
theorem dX12_works_95 : decode cX12_works 95 = .ok (.aload_n 0, 1) := by decide +kernel
theorem dX12_works_96 : decode cX12_works 96 = .ok (.getfield 62, 3) := by decide +kernel
theorem dX12_works_99 : decode cX12_works 99 = .ok (.aload_n 0, 1) := by decide +kernel
theorem dX12_works_100 : decode cX12_works 100 = .ok (.getfield 147, 3) := by decide +kernel
theorem dX12_works_103 : decode cX12_works 103 = .ok (.iaload, 1) := by decide +kernel
theorem dX12_works_104 : decode cX12_works 104 = .ok (.iconst 1, 1) := by decide +kernel
theorem dX12_works_105 : decode cX12_works 105 = .ok (.isub, 1) := by decide +kernel
theorem dX12_works_106 : decode cX12_works 106 = .ok (.invokestatic 278, 3) := by decide +kernel
theorem dX12_works_109 : decode cX12_works 109 = .ok (.ifCond .eq 31, 3) := by decide +kernel
theorem dX12_works_112 : decode cX12_works 112 = .ok (.iload_n 2, 1) := by decide +kernel
theorem dX12_works_113 : decode cX12_works 113 = .ok (.iload_n 1, 1) := by decide +kernel
theorem dX12_works_114 : decode cX12_works 114 = .ok (.if_icmp .eq 26, 3) := by decide +kernel
theorem dX12_works_117 : decode cX12_works 117 = .ok (.aload_n 0, 1) := by decide +kernel
theorem dX12_works_118 : decode cX12_works 118 = .ok (.getfield 174, 3) := by decide +kernel
theorem dX12_works_121 : decode cX12_works 121 = .ok (.iload_n 2, 1) := by decide +kernel
theorem dX12_works_122 : decode cX12_works 122 = .ok (.iaload, 1) := by decide +kernel
theorem dX12_works_123 : decode cX12_works 123 = .ok (.aload_n 0, 1) := by decide +kernel
theorem dX12_works_124 : decode cX12_works 124 = .ok (.getfield 65, 3) := by decide +kernel
theorem dX12_works_127 : decode cX12_works 127 = .ok (.bipush 6, 2) := by decide +kernel
theorem dX12_works_129 : decode cX12_works 129 = .ok (.aload_n 0, 1) := by decide +kernel
theorem dX12_works_130 : decode cX12_works 130 = .ok (.getfield 147, 3) := by decide +kernel
theorem dX12_works_133 : decode cX12_works 133 = .ok (.imul, 1) := by decide +kernel
theorem dX12_works_134 : decode cX12_works 134 = .ok (.iload_n 2, 1) := by decide +kernel
theorem dX12_works_135 : decode cX12_works 135 = .ok (.iadd, 1) := by decide +kernel
theorem dX12_works_136 : decode cX12_works 136 = .ok (.iaload, 1) := by decide +kernel
theorem dX12_works_137 : decode cX12_works 137 = .ok (.if_icmp .ne 5, 3) := by decide +kernel
theorem dX12_works_140 : decode cX12_works 140 = .ok (.iconst 0, 1) := by decide +kernel
theorem dX12_works_141 : decode cX12_works 141 = .ok (.ireturn, 1) := by decide +kernel
theorem dX12_works_142 : decode cX12_works 142 = .ok (.aload_n 0, 1) := by decide +kernel
theorem dX12_works_143 : decode cX12_works 143 = .ok (.getfield 177, 3) := by decide +kernel
theorem dX12_works_146 : decode cX12_works 146 = .ok (.iconst 5, 1) := by decide +kernel
theorem dX12_works_147 : decode cX12_works 147 = .ok (.iload_n 2, 1) := by decide +kernel
theorem dX12_works_148 : decode cX12_works 148 = .ok (.imul, 1) := by decide +kernel
theorem dX12_works_149 : decode cX12_works 149 = .ok (.aload_n 0, 1) := by decide +kernel
theorem dX12_works_150 : decode cX12_works 150 = .ok (.getfield 174, 3) := by decide +kernel
theorem dX12_works_153 : decode cX12_works 153 = .ok (.iload_n 2, 1) := by decide +kernel
theorem dX12_works_154 : decode cX12_works 154 = .ok (.iaload, 1) := by decide +kernel
theorem dX12_works_155 : decode cX12_works 155 = .ok (.iadd, 1) := by decide +kernel
theorem dX12_works_156 : decode cX12_works 156 = .ok (.iload_n 3, 1) := by decide +kernel
theorem dX12_works_157 : decode cX12_works 157 = .ok (.iastore, 1) := by decide +kernel
theorem dX12_works_158 : decode cX12_works 158 = .ok (.aload_n 0, 1) := by decide +kernel
theorem dX12_works_159 : decode cX12_works 159 = .ok (.getfield 174, 3) := by decide +kernel
theorem dX12_works_162 : decode cX12_works 162 = .ok (.iload_n 2, 1) := by decide +kernel
theorem dX12_works_163 : decode cX12_works 163 = .ok (.dup2, 1) := by decide +kernel
theorem dX12_works_164 : decode cX12_works 164 = .ok (.iaload, 1) := by decide +kernel
theorem dX12_works_165 : decode cX12_works 165 = .ok (.iconst 1, 1) := by decide +kernel
theorem dX12_works_166 : decode cX12_works 166 = .ok (.iadd, 1) := by decide +kernel
theorem dX12_works_167 : decode cX12_works 167 = .ok (.iastore, 1) := by decide +kernel
theorem dX12_works_168 : decode cX12_works 168 = .ok (.aload_n 0, 1) := by decide +kernel
theorem dX12_works_169 : decode cX12_works 169 = .ok (.getfield 174, 3) := by decide +kernel
theorem dX12_works_172 : decode cX12_works 172 = .ok (.iload_n 1, 1) := by decide +kernel
theorem dX12_works_173 : decode cX12_works 173 = .ok (.dup2, 1) := by decide +kernel
theorem dX12_works_174 : decode cX12_works 174 = .ok (.iaload, 1) := by decide +kernel
theorem dX12_works_175 : decode cX12_works 175 = .ok (.iconst 1, 1) := by decide +kernel
theorem dX12_works_176 : decode cX12_works 176 = .ok (.isub, 1) := by decide +kernel
theorem dX12_works_177 : decode cX12_works 177 = .ok (.iastore, 1) := by decide +kernel
theorem dX12_works_178 : decode cX12_works 178 = .ok (.iconst 1, 1) := by decide +kernel
theorem dX12_works_179 : decode cX12_works 179 = .ok (.ireturn, 1) := by decide +kernel
def M_X12_works : y_M := (yX12_works, cX12_works, 4, (Option.some Jvm.ClassFile.FieldType.boolean))
theorem n_X12_works : y_N0 M_X12_works 2 := ⟨(c_10 46 (by decide +kernel) rfl), (c_1 9 (by decide +kernel) rfl), ⟨by decide +kernel, by decide +kernel⟩, by decide +kernel⟩
theorem F_BoxYardModel_147 : y_F "BoxYardModel" 147 12 59 := ⟨_, _, _, rfl, by decide, Or.inl (c_7 181 (by decide +kernel) rfl)⟩
theorem F_BoxYardModel_174 : y_F "BoxYardModel" 174 12 69 := ⟨_, _, _, rfl, by decide, Or.inl (c_7 191 (by decide +kernel) rfl)⟩
theorem F_BoxYardModel_177 : y_F "BoxYardModel" 177 12 70 := ⟨_, _, _, rfl, by decide, Or.inl (c_7 192 (by decide +kernel) rfl)⟩
theorem F_BoxYardModel_476 : y_F "BoxYardModel" 476 12 71 := ⟨_, _, _, rfl, by decide, Or.inl (c_7 193 (by decide +kernel) rfl)⟩
theorem Fp_BoxYardModel_476 {nm : String} : y_Fp "BoxYardModel" nm 476 12 71 := ⟨_, _, _, rfl, by decide, Or.inl ⟨rfl, Or.inl (c_7 193 (by decide +kernel) rfl)⟩⟩
set_option maxRecDepth 100000 in
def f_X12_works (p0 : Nat) (p1 : Int32) (p2 : Int32) (h : y_H) : Option (Bool × y_H) :=
  if y_K h p0 = 13 then
  if y_K h p0 = 13 then
  if y_K h (y_P h p0 19) = 100 ∧ y_ix (y_I h p0 59) (y_N h (y_P h p0 19)) = true then
  y_cl (f_X12_in p1 0 ((y_I h (y_P h p0 19) (Int32.toNatClampNeg (y_I h p0 59))) - 1) h) (fun r1 h2 =>
  y_jn (fun (h4 : y_H) => (
      some (false, h4) : Option (Bool × y_H))) (fun j28 =>
  if r1 = true then
    if y_K h2 p0 = 13 then
    if y_K h2 (y_P h2 p0 69) = 100 ∧ y_ix p1 (y_N h2 (y_P h2 p0 69)) = true then
    if (y_I h2 (y_P h2 p0 69) (Int32.toNatClampNeg p1)) = 0 then
      j28 h2
    else
      if y_K h2 p0 = 13 then
      if y_K h2 p0 = 13 then
      if y_K h2 (y_P h2 p0 69) = 100 ∧ y_ix p1 (y_N h2 (y_P h2 p0 69)) = true then
      if y_K h2 (y_P h2 p0 70) = 100 ∧ y_ix (((5 * p1) + (y_I h2 (y_P h2 p0 69) (Int32.toNatClampNeg p1))) - 1) (y_N h2 (y_P h2 p0 70)) = true then
      y_jn (fun (v0_168 : Nat) (v1_168 : Int32) (h5 : y_H) => (
          if y_K h5 v0_168 = 13 then
          if y_K h5 (y_P h5 v0_168 69) = 100 ∧ y_ix v1_168 (y_N h5 (y_P h5 v0_168 69)) = true then
          if y_K h5 (y_P h5 v0_168 69) = 100 ∧ y_ix v1_168 (y_N h5 (y_P h5 v0_168 69)) = true then
          y_bd (s_I h5 (y_P h5 v0_168 69) (Int32.toNatClampNeg v1_168) ((y_I h5 (y_P h5 v0_168 69) (Int32.toNatClampNeg v1_168)) - 1)) (fun h6 =>
          some (true, h6))
          else none
          else none
          else none : Option (Bool × y_H))) (fun j168 =>
      if p2 = (-9 : Int32) then
        if y_K h2 p0 = 13 then
        if y_K h2 p0 = 13 then
        y_jn (fun (h37 : y_H) => (
            some (false, h37) : Option (Bool × y_H))) (fun j78 =>
        if (y_I h2 p0 71) = (y_I h2 p0 55) then
          j78 h2
        else
          if y_K h2 p0 = 13 then
          if y_K h2 p0 = 13 then
          if y_K h2 (y_P h2 p0 56) = 100 ∧ y_ix (y_I h2 p0 71) (y_N h2 (y_P h2 p0 56)) = true then
          if (y_I h2 (y_P h2 p0 56) (Int32.toNatClampNeg (y_I h2 p0 71))) = (y_I h2 (y_P h2 p0 70) (Int32.toNatClampNeg (((5 * p1) + (y_I h2 (y_P h2 p0 69) (Int32.toNatClampNeg p1))) - 1))) then
            if y_K h2 p0 = 13 then
            if y_K h2 p0 = 13 then
            y_bd (s_I h2 p0 71 ((y_I h2 p0 71) + 1)) (fun h38 =>
            j168 p0 p1 h38)
            else none
            else none
          else
            j78 h2
          else none
          else none
          else none)
        else none
        else none
      else
        if y_K h2 p0 = 13 then
        if y_K h2 p0 = 13 then
        if y_K h2 (y_P h2 p0 19) = 100 ∧ y_ix (y_I h2 p0 59) (y_N h2 (y_P h2 p0 19)) = true then
        y_cl (f_X12_in p2 0 ((y_I h2 (y_P h2 p0 19) (Int32.toNatClampNeg (y_I h2 p0 59))) - 1) h2) (fun r11 h12 =>
        y_jn (fun (h14 : y_H) => (
            some (false, h14) : Option (Bool × y_H))) (fun j140 =>
        if r11 = true then
          if p2 = p1 then
            j140 h12
          else
            if y_K h12 p0 = 13 then
            if y_K h12 (y_P h12 p0 69) = 100 ∧ y_ix p2 (y_N h12 (y_P h12 p0 69)) = true then
            if y_K h12 p0 = 13 then
            if y_K h12 p0 = 13 then
            if y_K h12 (y_P h12 p0 20) = 100 ∧ y_ix ((6 * (y_I h12 p0 59)) + p2) (y_N h12 (y_P h12 p0 20)) = true then
            if (y_I h12 (y_P h12 p0 69) (Int32.toNatClampNeg p2)) = (y_I h12 (y_P h12 p0 20) (Int32.toNatClampNeg ((6 * (y_I h12 p0 59)) + p2))) then
              j140 h12
            else
              if y_K h12 p0 = 13 then
              if y_K h12 p0 = 13 then
              if y_K h12 (y_P h12 p0 69) = 100 ∧ y_ix p2 (y_N h12 (y_P h12 p0 69)) = true then
              if y_K h12 (y_P h12 p0 70) = 100 ∧ y_ix ((5 * p2) + (y_I h12 (y_P h12 p0 69) (Int32.toNatClampNeg p2))) (y_N h12 (y_P h12 p0 70)) = true then
              y_bd (s_I h12 (y_P h12 p0 70) (Int32.toNatClampNeg ((5 * p2) + (y_I h12 (y_P h12 p0 69) (Int32.toNatClampNeg p2)))) (y_I h2 (y_P h2 p0 70) (Int32.toNatClampNeg (((5 * p1) + (y_I h2 (y_P h2 p0 69) (Int32.toNatClampNeg p1))) - 1)))) (fun h15 =>
              if y_K h15 p0 = 13 then
              if y_K h15 (y_P h15 p0 69) = 100 ∧ y_ix p2 (y_N h15 (y_P h15 p0 69)) = true then
              if y_K h15 (y_P h15 p0 69) = 100 ∧ y_ix p2 (y_N h15 (y_P h15 p0 69)) = true then
              y_bd (s_I h15 (y_P h15 p0 69) (Int32.toNatClampNeg p2) ((y_I h15 (y_P h15 p0 69) (Int32.toNatClampNeg p2)) + 1)) (fun h18 =>
              j168 p0 p1 h18)
              else none
              else none
              else none)
              else none
              else none
              else none
              else none
            else none
            else none
            else none
            else none
            else none
        else
          j140 h12))
        else none
        else none
        else none)
      else none
      else none
      else none
      else none
    else none
    else none
  else
    j28 h2))
  else none
  else none
  else none
abbrev rm_X12_works : Room := { frames := 1, cells := 0, slots := 0, locals := 22 }
set_option maxRecDepth 100000 in
set_option maxHeartbeats 4000000 in
theorem k_X12_works {l : Launch} {G : y_G} {p0 : Nat} {p1 : Int32} {p2 : Int32} {h hz : y_H} {rz : Bool} (hf : f_X12_works p0 p1 p2 h = some (rz, hz)) : y_S l G M_X12_works rm_X12_works [y_p p0, .int p1, .int p2] h (some (.int (y_z rz))) hz := by
  refine y_start (lv := [(0, y_p p0), (1, .int p1), (2, .int p2)]) (by decide) (by simp [lg_sl, y_p_cat, y_ci, y_cj, M_X12_works]) (by simp [lv_args, y_p_cat, y_ci, y_cj]) (fun z ad0 => ?_)
  unfold f_X12_works at hf
  refine y_iload_n (pc2 := 1) rfl dX12_works_0 rfl ?_
  refine y_iconst (v := 0) (pc2 := 2) rfl dX12_works_1 (by decide) ?_
  refine y_aload_n (x := p0) (pc2 := 3) rfl dX12_works_2 rfl ?_
  obtain ⟨g60, hf⟩ := y_g hf
  refine y_getP (pc2 := 6) rfl dX12_works_3 F_BoxYardModel_62 (by decide) rfl g60 ?_
  refine y_aload_n (x := p0) (pc2 := 7) rfl dX12_works_6 rfl ?_
  obtain ⟨g59, hf⟩ := y_g hf
  refine y_getI (pc2 := 10) rfl dX12_works_7 F_BoxYardModel_147 (by decide) rfl g59 ?_
  obtain ⟨g58, hf⟩ := y_g hf
  refine y_iald (pc2 := 11) rfl dX12_works_10 g58.1 (y_ix_in g58.2) ?_
  refine y_iconst (v := 1) (pc2 := 12) rfl dX12_works_11 (by decide) ?_
  refine y_isub (pc2 := 13) rfl dX12_works_12 ?_
  obtain ⟨r1, h2, c3, hf⟩ := y_clE hf
  refine y_callS (As := [.int p1, .int 0, .int ((y_I h (y_P h p0 19) (Int32.toNatClampNeg (y_I h p0 59))) - 1)]) (rm := rm_X12_in) (cells := 0) (slots := 0) (pc2 := 16) rfl dX12_works_13 n_X12_in l_BoxYardModel_278 t_X12_in rfl rfl (by decide) (by decide) (by decide) (k_X12_in c3) ?_
  refine y_jnE hf (fun j => ∀ (h4 : y_H), j h4 = some (rz, hz) → y_V l G z rm_X12_works M_X12_works ad0 h (some (.int (y_z rz))) hz 28 [] [] h4 0 0) (fun h4 hf => ?_) (fun j28 hj28 hf => ?_)
  · refine y_iconst (v := 0) (pc2 := 29) rfl dX12_works_28 (by decide) ?_
    exact y_zretF (x := false) hf dX12_works_29 rfl (by decide) (by decide)
  · refine y_ifz_eq (tgt := 28) (pc2 := 19) rfl dX12_works_16 (by decide) (fun c57 => ?_) (fun c57 => ?_)
    · replace hf := y_ie c57 hf
      exact y_pk [] rfl (hj28 _ hf)
    · replace hf := y_it c57 hf
      refine y_aload_n (x := p0) (pc2 := 20) rfl dX12_works_19 rfl ?_
      obtain ⟨g56, hf⟩ := y_g hf
      refine y_getP (pc2 := 23) rfl dX12_works_20 F_BoxYardModel_174 (by decide) rfl g56 ?_
      refine y_iload_n (pc2 := 24) rfl dX12_works_23 rfl ?_
      obtain ⟨g55, hf⟩ := y_g hf
      refine y_iald (pc2 := 25) rfl dX12_works_24 g55.1 (y_ix_in g55.2) ?_
      refine y_if_ne (tgt := 30) (pc2 := 28) rfl dX12_works_25 (by decide) (fun c54 => ?_) (fun c54 => ?_)
      · replace hf := y_ie c54 hf
        refine y_aload_n (x := p0) (pc2 := 31) rfl dX12_works_30 rfl ?_
        obtain ⟨g53, hf⟩ := y_g hf
        refine y_getP (pc2 := 34) rfl dX12_works_31 F_BoxYardModel_177 (by decide) rfl g53 ?_
        refine y_iconst (v := 5) (pc2 := 35) rfl dX12_works_34 (by decide) ?_
        refine y_iload_n (pc2 := 36) rfl dX12_works_35 rfl ?_
        refine y_imul (pc2 := 37) rfl dX12_works_36 ?_
        refine y_aload_n (x := p0) (pc2 := 38) rfl dX12_works_37 rfl ?_
        obtain ⟨g52, hf⟩ := y_g hf
        refine y_getP (pc2 := 41) rfl dX12_works_38 F_BoxYardModel_174 (by decide) rfl g52 ?_
        refine y_iload_n (pc2 := 42) rfl dX12_works_41 rfl ?_
        obtain ⟨g51, hf⟩ := y_g hf
        refine y_iald (pc2 := 43) rfl dX12_works_42 g51.1 (y_ix_in g51.2) ?_
        refine y_iadd (pc2 := 44) rfl dX12_works_43 ?_
        refine y_iconst (v := 1) (pc2 := 45) rfl dX12_works_44 (by decide) ?_
        refine y_isub (pc2 := 46) rfl dX12_works_45 ?_
        obtain ⟨g50, hf⟩ := y_g hf
        refine y_iald (pc2 := 47) rfl dX12_works_46 g50.1 (y_ix_in g50.2) ?_
        refine y_istore_n (lv' := [(3, .int (y_I h2 (y_P h2 p0 70) (Int32.toNatClampNeg (((5 * p1) + (y_I h2 (y_P h2 p0 69) (Int32.toNatClampNeg p1))) - 1)))), (0, y_p p0), (1, .int p1), (2, .int p2)]) (pc2 := 48) rfl dX12_works_47 (by decide) rfl ?_
        refine y_iload_n (pc2 := 49) rfl dX12_works_48 rfl ?_
        refine y_bipush (v := (-9 : Int32)) (pc2 := 51) rfl dX12_works_49 (by decide) ?_
        refine y_jnE hf (fun j => ∀ (v0_168 : Nat) (v1_168 : Int32) (h5 : y_H), j v0_168 v1_168 h5 = some (rz, hz) → y_V l G z rm_X12_works M_X12_works ad0 h (some (.int (y_z rz))) hz 168 [(0, y_p v0_168), (1, .int v1_168)] [] h5 0 0) (fun v0_168 v1_168 h5 hf => ?_) (fun j168 hj168 hf => ?_)
        · refine y_aload_n (x := v0_168) (pc2 := 169) rfl dX12_works_168 rfl ?_
          obtain ⟨g10, hf⟩ := y_g hf
          refine y_getP (pc2 := 172) rfl dX12_works_169 F_BoxYardModel_174 (by decide) rfl g10 ?_
          refine y_iload_n (pc2 := 173) rfl dX12_works_172 rfl ?_
          refine y_dup2 (pc2 := 174) rfl dX12_works_173 rfl (y_p_cat _) ?_
          obtain ⟨g9, hf⟩ := y_g hf
          refine y_iald (pc2 := 175) rfl dX12_works_174 g9.1 (y_ix_in g9.2) ?_
          refine y_iconst (v := 1) (pc2 := 176) rfl dX12_works_175 (by decide) ?_
          refine y_isub (pc2 := 177) rfl dX12_works_176 ?_
          obtain ⟨g8, hf⟩ := y_g hf
          obtain ⟨h6, e7, hf⟩ := y_bdE hf
          refine y_iast (x := (y_I h5 (y_P h5 v0_168 69) (Int32.toNatClampNeg v1_168)) - 1) (pc2 := 178) rfl dX12_works_177 g8.1 (y_ix_in g8.2) e7 ?_
          refine y_iconst (v := 1) (pc2 := 179) rfl dX12_works_178 (by decide) ?_
          exact y_zretF (x := true) hf dX12_works_179 rfl (by decide) (by decide)
        · refine y_icmp_ne (tgt := 93) (pc2 := 54) rfl dX12_works_51 (by decide) (fun c49 => ?_) (fun c49 => ?_)
          · replace hf := y_ie c49 hf
            refine y_iload_n (pc2 := 94) rfl dX12_works_93 rfl ?_
            refine y_iconst (v := 0) (pc2 := 95) rfl dX12_works_94 (by decide) ?_
            refine y_aload_n (x := p0) (pc2 := 96) rfl dX12_works_95 rfl ?_
            obtain ⟨g36, hf⟩ := y_g hf
            refine y_getP (pc2 := 99) rfl dX12_works_96 F_BoxYardModel_62 (by decide) rfl g36 ?_
            refine y_aload_n (x := p0) (pc2 := 100) rfl dX12_works_99 rfl ?_
            obtain ⟨g35, hf⟩ := y_g hf
            refine y_getI (pc2 := 103) rfl dX12_works_100 F_BoxYardModel_147 (by decide) rfl g35 ?_
            obtain ⟨g34, hf⟩ := y_g hf
            refine y_iald (pc2 := 104) rfl dX12_works_103 g34.1 (y_ix_in g34.2) ?_
            refine y_iconst (v := 1) (pc2 := 105) rfl dX12_works_104 (by decide) ?_
            refine y_isub (pc2 := 106) rfl dX12_works_105 ?_
            obtain ⟨r11, h12, c13, hf⟩ := y_clE hf
            refine y_callS (As := [.int p2, .int 0, .int ((y_I h2 (y_P h2 p0 19) (Int32.toNatClampNeg (y_I h2 p0 59))) - 1)]) (rm := rm_X12_in) (cells := 0) (slots := 0) (pc2 := 109) rfl dX12_works_106 n_X12_in l_BoxYardModel_278 t_X12_in rfl rfl (by decide) (by decide) (by decide) (k_X12_in c13) ?_
            refine y_jnE hf (fun j => ∀ (h14 : y_H), j h14 = some (rz, hz) → y_V l G z rm_X12_works M_X12_works ad0 h (some (.int (y_z rz))) hz 140 [] [] h14 0 0) (fun h14 hf => ?_) (fun j140 hj140 hf => ?_)
            · refine y_iconst (v := 0) (pc2 := 141) rfl dX12_works_140 (by decide) ?_
              exact y_zretF (x := false) hf dX12_works_141 rfl (by decide) (by decide)
            · refine y_ifz_eq (tgt := 140) (pc2 := 112) rfl dX12_works_109 (by decide) (fun c33 => ?_) (fun c33 => ?_)
              · replace hf := y_ie c33 hf
                exact y_pk [] rfl (hj140 _ hf)
              · replace hf := y_it c33 hf
                refine y_iload_n (pc2 := 113) rfl dX12_works_112 rfl ?_
                refine y_iload_n (pc2 := 114) rfl dX12_works_113 rfl ?_
                refine y_icmp_eq (tgt := 140) (pc2 := 117) rfl dX12_works_114 (by decide) (fun c32 => ?_) (fun c32 => ?_)
                · replace hf := y_it c32 hf
                  exact y_pk [] rfl (hj140 _ hf)
                · replace hf := y_ie c32 hf
                  refine y_aload_n (x := p0) (pc2 := 118) rfl dX12_works_117 rfl ?_
                  obtain ⟨g31, hf⟩ := y_g hf
                  refine y_getP (pc2 := 121) rfl dX12_works_118 F_BoxYardModel_174 (by decide) rfl g31 ?_
                  refine y_iload_n (pc2 := 122) rfl dX12_works_121 rfl ?_
                  obtain ⟨g30, hf⟩ := y_g hf
                  refine y_iald (pc2 := 123) rfl dX12_works_122 g30.1 (y_ix_in g30.2) ?_
                  refine y_aload_n (x := p0) (pc2 := 124) rfl dX12_works_123 rfl ?_
                  obtain ⟨g29, hf⟩ := y_g hf
                  refine y_getP (pc2 := 127) rfl dX12_works_124 F_BoxYardModel_65 (by decide) rfl g29 ?_
                  refine y_bipush (v := 6) (pc2 := 129) rfl dX12_works_127 (by decide) ?_
                  refine y_aload_n (x := p0) (pc2 := 130) rfl dX12_works_129 rfl ?_
                  obtain ⟨g28, hf⟩ := y_g hf
                  refine y_getI (pc2 := 133) rfl dX12_works_130 F_BoxYardModel_147 (by decide) rfl g28 ?_
                  refine y_imul (pc2 := 134) rfl dX12_works_133 ?_
                  refine y_iload_n (pc2 := 135) rfl dX12_works_134 rfl ?_
                  refine y_iadd (pc2 := 136) rfl dX12_works_135 ?_
                  obtain ⟨g27, hf⟩ := y_g hf
                  refine y_iald (pc2 := 137) rfl dX12_works_136 g27.1 (y_ix_in g27.2) ?_
                  refine y_icmp_ne (tgt := 142) (pc2 := 140) rfl dX12_works_137 (by decide) (fun c26 => ?_) (fun c26 => ?_)
                  · replace hf := y_ie c26 hf
                    refine y_aload_n (x := p0) (pc2 := 143) rfl dX12_works_142 rfl ?_
                    obtain ⟨g25, hf⟩ := y_g hf
                    refine y_getP (pc2 := 146) rfl dX12_works_143 F_BoxYardModel_177 (by decide) rfl g25 ?_
                    refine y_iconst (v := 5) (pc2 := 147) rfl dX12_works_146 (by decide) ?_
                    refine y_iload_n (pc2 := 148) rfl dX12_works_147 rfl ?_
                    refine y_imul (pc2 := 149) rfl dX12_works_148 ?_
                    refine y_aload_n (x := p0) (pc2 := 150) rfl dX12_works_149 rfl ?_
                    obtain ⟨g24, hf⟩ := y_g hf
                    refine y_getP (pc2 := 153) rfl dX12_works_150 F_BoxYardModel_174 (by decide) rfl g24 ?_
                    refine y_iload_n (pc2 := 154) rfl dX12_works_153 rfl ?_
                    obtain ⟨g23, hf⟩ := y_g hf
                    refine y_iald (pc2 := 155) rfl dX12_works_154 g23.1 (y_ix_in g23.2) ?_
                    refine y_iadd (pc2 := 156) rfl dX12_works_155 ?_
                    refine y_iload_n (pc2 := 157) rfl dX12_works_156 rfl ?_
                    obtain ⟨g17, hf⟩ := y_g hf
                    obtain ⟨h15, e16, hf⟩ := y_bdE hf
                    refine y_iast (x := y_I h2 (y_P h2 p0 70) (Int32.toNatClampNeg (((5 * p1) + (y_I h2 (y_P h2 p0 69) (Int32.toNatClampNeg p1))) - 1))) (pc2 := 158) rfl dX12_works_157 g17.1 (y_ix_in g17.2) e16 ?_
                    refine y_aload_n (x := p0) (pc2 := 159) rfl dX12_works_158 rfl ?_
                    obtain ⟨g22, hf⟩ := y_g hf
                    refine y_getP (pc2 := 162) rfl dX12_works_159 F_BoxYardModel_174 (by decide) rfl g22 ?_
                    refine y_iload_n (pc2 := 163) rfl dX12_works_162 rfl ?_
                    refine y_dup2 (pc2 := 164) rfl dX12_works_163 rfl (y_p_cat _) ?_
                    obtain ⟨g21, hf⟩ := y_g hf
                    refine y_iald (pc2 := 165) rfl dX12_works_164 g21.1 (y_ix_in g21.2) ?_
                    refine y_iconst (v := 1) (pc2 := 166) rfl dX12_works_165 (by decide) ?_
                    refine y_iadd (pc2 := 167) rfl dX12_works_166 ?_
                    obtain ⟨g20, hf⟩ := y_g hf
                    obtain ⟨h18, e19, hf⟩ := y_bdE hf
                    refine y_iast (x := (y_I h15 (y_P h15 p0 69) (Int32.toNatClampNeg p2)) + 1) (pc2 := 168) rfl dX12_works_167 g20.1 (y_ix_in g20.2) e19 ?_
                    exact y_pk [1, 2] rfl (hj168 _ _ _ hf)
                  · replace hf := y_it c26 hf
                    exact y_pk [] rfl (hj140 _ hf)
          · replace hf := y_it c49 hf
            refine y_aload_n (x := p0) (pc2 := 55) rfl dX12_works_54 rfl ?_
            obtain ⟨g48, hf⟩ := y_g hf
            refine y_getI (pc2 := 58) rfl dX12_works_55 F_BoxYardModel_476 (by decide) rfl g48 ?_
            refine y_aload_n (x := p0) (pc2 := 59) rfl dX12_works_58 rfl ?_
            obtain ⟨g47, hf⟩ := y_g hf
            refine y_getI (pc2 := 62) rfl dX12_works_59 F_BoxYardModel_258 (by decide) rfl g47 ?_
            refine y_jnE hf (fun j => ∀ (h37 : y_H), j h37 = some (rz, hz) → y_V l G z rm_X12_works M_X12_works ad0 h (some (.int (y_z rz))) hz 78 [] [] h37 0 0) (fun h37 hf => ?_) (fun j78 hj78 hf => ?_)
            · refine y_iconst (v := 0) (pc2 := 79) rfl dX12_works_78 (by decide) ?_
              exact y_zretF (x := false) hf dX12_works_79 rfl (by decide) (by decide)
            · refine y_icmp_eq (tgt := 78) (pc2 := 65) rfl dX12_works_62 (by decide) (fun c46 => ?_) (fun c46 => ?_)
              · replace hf := y_it c46 hf
                exact y_pk [] rfl (hj78 _ hf)
              · replace hf := y_ie c46 hf
                refine y_aload_n (x := p0) (pc2 := 66) rfl dX12_works_65 rfl ?_
                obtain ⟨g45, hf⟩ := y_g hf
                refine y_getP (pc2 := 69) rfl dX12_works_66 F_BoxYardModel_144 (by decide) rfl g45 ?_
                refine y_aload_n (x := p0) (pc2 := 70) rfl dX12_works_69 rfl ?_
                obtain ⟨g44, hf⟩ := y_g hf
                refine y_getI (pc2 := 73) rfl dX12_works_70 F_BoxYardModel_476 (by decide) rfl g44 ?_
                obtain ⟨g43, hf⟩ := y_g hf
                refine y_iald (pc2 := 74) rfl dX12_works_73 g43.1 (y_ix_in g43.2) ?_
                refine y_iload_n (pc2 := 75) rfl dX12_works_74 rfl ?_
                refine y_icmp_eq (tgt := 80) (pc2 := 78) rfl dX12_works_75 (by decide) (fun c42 => ?_) (fun c42 => ?_)
                · replace hf := y_it c42 hf
                  refine y_aload_n (x := p0) (pc2 := 81) rfl dX12_works_80 rfl ?_
                  refine y_dup (pc2 := 82) rfl dX12_works_81 (y_p_cat _) ?_
                  obtain ⟨g41, hf⟩ := y_g hf
                  refine y_getI (pc2 := 85) rfl dX12_works_82 F_BoxYardModel_476 (by decide) rfl g41 ?_
                  refine y_iconst (v := 1) (pc2 := 86) rfl dX12_works_85 (by decide) ?_
                  refine y_iadd (pc2 := 87) rfl dX12_works_86 ?_
                  obtain ⟨g40, hf⟩ := y_g hf
                  obtain ⟨h38, e39, hf⟩ := y_bdE hf
                  refine y_putI (x := (y_I h2 p0 71) + 1) (pc2 := 90) rfl dX12_works_87 Fp_BoxYardModel_476 (by decide) rfl g40 e39 ?_
                  refine y_goto (tgt := 168) dX12_works_90 (by decide) ?_
                  exact y_pk [1, 2] rfl (hj168 _ _ _ hf)
                · replace hf := y_ie c42 hf
                  exact y_pk [] rfl (hj78 _ hf)
      · replace hf := y_it c54 hf
        exact y_pk [] rfl (hj28 _ hf)
theorem dX12_holds_0 : decode cX12_holds 0 = .ok (.aload_n 0, 1) := by decide +kernel
theorem dX12_holds_1 : decode cX12_holds 1 = .ok (.getfield 147, 3) := by decide +kernel
theorem dX12_holds_4 : decode cX12_holds 4 = .ok (.bipush (-9), 2) := by decide +kernel
theorem dX12_holds_6 : decode cX12_holds 6 = .ok (.if_icmp .ne 6, 3) := by decide +kernel
theorem dX12_holds_9 : decode cX12_holds 9 = .ok (.bipush (-3), 2) := by decide +kernel
theorem dX12_holds_11 : decode cX12_holds 11 = .ok (.ireturn, 1) := by decide +kernel
theorem dX12_holds_12 : decode cX12_holds 12 = .ok (.iconst 0, 1) := by decide +kernel
theorem dX12_holds_13 : decode cX12_holds 13 = .ok (.istore_n 1, 1) := by decide +kernel
theorem dX12_holds_14 : decode cX12_holds 14 = .ok (.iload_n 1, 1) := by decide +kernel
theorem dX12_holds_15 : decode cX12_holds 15 = .ok (.aload_n 0, 1) := by decide +kernel
theorem dX12_holds_16 : decode cX12_holds 16 = .ok (.getfield 62, 3) := by decide +kernel
theorem dX12_holds_19 : decode cX12_holds 19 = .ok (.aload_n 0, 1) := by decide +kernel
theorem dX12_holds_20 : decode cX12_holds 20 = .ok (.getfield 147, 3) := by decide +kernel
theorem dX12_holds_23 : decode cX12_holds 23 = .ok (.iaload, 1) := by decide +kernel
theorem dX12_holds_24 : decode cX12_holds 24 = .ok (.if_icmp .ge 70, 3) := by decide +kernel
theorem dX12_holds_27 : decode cX12_holds 27 = .ok (.aload_n 0, 1) := by decide +kernel
theorem dX12_holds_28 : decode cX12_holds 28 = .ok (.getfield 174, 3) := by decide +kernel
theorem dX12_holds_31 : decode cX12_holds 31 = .ok (.iload_n 1, 1) := by decide +kernel
theorem dX12_holds_32 : decode cX12_holds 32 = .ok (.aload_n 0, 1) := by decide +kernel
theorem dX12_holds_33 : decode cX12_holds 33 = .ok (.getfield 71, 3) := by decide +kernel
theorem dX12_holds_36 : decode cX12_holds 36 = .ok (.bipush 6, 2) := by decide +kernel
theorem dX12_holds_38 : decode cX12_holds 38 = .ok (.aload_n 0, 1) := by decide +kernel
theorem dX12_holds_39 : decode cX12_holds 39 = .ok (.getfield 147, 3) := by decide +kernel
theorem dX12_holds_42 : decode cX12_holds 42 = .ok (.imul, 1) := by decide +kernel
theorem dX12_holds_43 : decode cX12_holds 43 = .ok (.iload_n 1, 1) := by decide +kernel
theorem dX12_holds_44 : decode cX12_holds 44 = .ok (.iadd, 1) := by decide +kernel
theorem dX12_holds_45 : decode cX12_holds 45 = .ok (.iaload, 1) := by decide +kernel
theorem dX12_holds_46 : decode cX12_holds 46 = .ok (.iastore, 1) := by decide +kernel
theorem dX12_holds_47 : decode cX12_holds 47 = .ok (.iconst 0, 1) := by decide +kernel
theorem dX12_holds_48 : decode cX12_holds 48 = .ok (.istore_n 2, 1) := by decide +kernel
theorem dX12_holds_49 : decode cX12_holds 49 = .ok (.iload_n 2, 1) := by decide +kernel
theorem dX12_holds_50 : decode cX12_holds 50 = .ok (.iconst 5, 1) := by decide +kernel
theorem dX12_holds_51 : decode cX12_holds 51 = .ok (.if_icmp .ge 37, 3) := by decide +kernel
theorem dX12_holds_54 : decode cX12_holds 54 = .ok (.aload_n 0, 1) := by decide +kernel
theorem dX12_holds_55 : decode cX12_holds 55 = .ok (.getfield 177, 3) := by decide +kernel
theorem dX12_holds_58 : decode cX12_holds 58 = .ok (.iconst 5, 1) := by decide +kernel
theorem dX12_holds_59 : decode cX12_holds 59 = .ok (.iload_n 1, 1) := by decide +kernel
theorem dX12_holds_60 : decode cX12_holds 60 = .ok (.imul, 1) := by decide +kernel
theorem dX12_holds_61 : decode cX12_holds 61 = .ok (.iload_n 2, 1) := by decide +kernel
theorem dX12_holds_62 : decode cX12_holds 62 = .ok (.iadd, 1) := by decide +kernel
theorem dX12_holds_63 : decode cX12_holds 63 = .ok (.aload_n 0, 1) := by decide +kernel
theorem dX12_holds_64 : decode cX12_holds 64 = .ok (.getfield 74, 3) := by decide +kernel
theorem dX12_holds_67 : decode cX12_holds 67 = .ok (.iconst 5, 1) := by decide +kernel
theorem dX12_holds_68 : decode cX12_holds 68 = .ok (.bipush 6, 2) := by decide +kernel
theorem dX12_holds_70 : decode cX12_holds 70 = .ok (.aload_n 0, 1) := by decide +kernel
theorem dX12_holds_71 : decode cX12_holds 71 = .ok (.getfield 147, 3) := by decide +kernel
theorem dX12_holds_74 : decode cX12_holds 74 = .ok (.imul, 1) := by decide +kernel
theorem dX12_holds_75 : decode cX12_holds 75 = .ok (.iload_n 1, 1) := by decide +kernel
theorem dX12_holds_76 : decode cX12_holds 76 = .ok (.iadd, 1) := by decide +kernel
theorem dX12_holds_77 : decode cX12_holds 77 = .ok (.imul, 1) := by decide +kernel
theorem dX12_holds_78 : decode cX12_holds 78 = .ok (.iload_n 2, 1) := by decide +kernel
theorem dX12_holds_79 : decode cX12_holds 79 = .ok (.iadd, 1) := by decide +kernel
theorem dX12_holds_80 : decode cX12_holds 80 = .ok (.iaload, 1) := by decide +kernel
theorem dX12_holds_81 : decode cX12_holds 81 = .ok (.iastore, 1) := by decide +kernel
theorem dX12_holds_82 : decode cX12_holds 82 = .ok (.iinc 2 1, 3) := by decide +kernel
theorem dX12_holds_85 : decode cX12_holds 85 = .ok (.goto (-36), 3) := by decide +kernel
theorem dX12_holds_88 : decode cX12_holds 88 = .ok (.iinc 1 1, 3) := by decide +kernel
theorem dX12_holds_91 : decode cX12_holds 91 = .ok (.goto (-77), 3) := by decide +kernel
theorem dX12_holds_94 : decode cX12_holds 94 = .ok (.aload_n 0, 1) := by decide +kernel
theorem dX12_holds_95 : decode cX12_holds 95 = .ok (.iconst 0, 1) := by decide +kernel
theorem dX12_holds_96 : decode cX12_holds 96 = .ok (.putfield 476, 3) := by decide +kernel
theorem dX12_holds_99 : decode cX12_holds 99 = .ok (.aload_n 0, 1) := by decide +kernel
theorem dX12_holds_100 : decode cX12_holds 100 = .ok (.getfield 258, 3) := by decide +kernel
theorem dX12_holds_103 : decode cX12_holds 103 = .ok (.ifCond .gt 10, 3) := by decide +kernel
theorem dX12_holds_106 : decode cX12_holds 106 = .ok (.aload_n 0, 1) := by decide +kernel
theorem dX12_holds_107 : decode cX12_holds 107 = .ok (.getfield 264, 3) := by decide +kernel
theorem dX12_holds_110 : decode cX12_holds 110 = .ok (.ifCond .ne 7, 3) := by decide +kernel
theorem dX12_holds_113 : decode cX12_holds 113 = .ok (.iconst 1, 1) := by decide +kernel
theorem dX12_holds_114 : decode cX12_holds 114 = .ok (.goto 4, 3) := by decide +kernel
theorem dX12_holds_117 : decode cX12_holds 117 = .ok (.iconst 0, 1) := by decide +kernel
theorem dX12_holds_118 : decode cX12_holds 118 = .ok (.istore_n 1, 1) := by decide +kernel
theorem dX12_holds_119 : decode cX12_holds 119 = .ok (.iconst 0, 1) := by decide +kernel
theorem dX12_holds_120 : decode cX12_holds 120 = .ok (.istore_n 2, 1) := by decide +kernel
theorem dX12_holds_121 : decode cX12_holds 121 = .ok (.iload_n 2, 1) := by decide +kernel
theorem dX12_holds_122 : decode cX12_holds 122 = .ok (.aload_n 0, 1) := by decide +kernel
theorem dX12_holds_123 : decode cX12_holds 123 = .ok (.getfield 264, 3) := by decide +kernel
theorem dX12_holds_126 : decode cX12_holds 126 = .ok (.if_icmp .ge 49, 3) := by decide +kernel
theorem dX12_holds_129 : decode cX12_holds 129 = .ok (.iload_n 1, 1) := by decide +kernel
theorem dX12_holds_130 : decode cX12_holds 130 = .ok (.ifCond .eq 45, 3) := by decide +kernel
theorem dX12_holds_133 : decode cX12_holds 133 = .ok (.aload_n 0, 1) := by decide +kernel
theorem dX12_holds_134 : decode cX12_holds 134 = .ok (.getfield 476, 3) := by decide +kernel
theorem dX12_holds_137 : decode cX12_holds 137 = .ok (.aload_n 0, 1) := by decide +kernel
theorem dX12_holds_138 : decode cX12_holds 138 = .ok (.getfield 258, 3) := by decide +kernel
theorem dX12_holds_141 : decode cX12_holds 141 = .ok (.if_icmp .ge 26, 3) := by decide +kernel
theorem dX12_holds_144 : decode cX12_holds 144 = .ok (.aload_n 0, 1) := by decide +kernel
theorem dX12_holds_145 : decode cX12_holds 145 = .ok (.aload_n 0, 1) := by decide +kernel
theorem dX12_holds_146 : decode cX12_holds 146 = .ok (.getfield 150, 3) := by decide +kernel
theorem dX12_holds_149 : decode cX12_holds 149 = .ok (.iload_n 2, 1) := by decide +kernel
theorem dX12_holds_150 : decode cX12_holds 150 = .ok (.iaload, 1) := by decide +kernel
theorem dX12_holds_151 : decode cX12_holds 151 = .ok (.aload_n 0, 1) := by decide +kernel
theorem dX12_holds_152 : decode cX12_holds 152 = .ok (.getfield 153, 3) := by decide +kernel
theorem dX12_holds_155 : decode cX12_holds 155 = .ok (.iload_n 2, 1) := by decide +kernel
theorem dX12_holds_156 : decode cX12_holds 156 = .ok (.iaload, 1) := by decide +kernel
theorem dX12_holds_157 : decode cX12_holds 157 = .ok (.invokevirtual 479, 3) := by decide +kernel
theorem dX12_holds_160 : decode cX12_holds 160 = .ok (.ifCond .eq 7, 3) := by decide +kernel
theorem dX12_holds_163 : decode cX12_holds 163 = .ok (.iconst 1, 1) := by decide +kernel
theorem dX12_holds_164 : decode cX12_holds 164 = .ok (.goto 4, 3) := by decide +kernel
theorem dX12_holds_167 : decode cX12_holds 167 = .ok (.iconst 0, 1) := by decide +kernel
theorem dX12_holds_168 : decode cX12_holds 168 = .ok (.istore_n 1, 1) := by decide +kernel
theorem dX12_holds_169 : decode cX12_holds 169 = .ok (.iinc 2 1, 3) := by decide +kernel
theorem dX12_holds_172 : decode cX12_holds 172 = .ok (.goto (-51), 3) := by decide +kernel
theorem dX12_holds_175 : decode cX12_holds 175 = .ok (.iload_n 1, 1) := by decide +kernel
theorem dX12_holds_176 : decode cX12_holds 176 = .ok (.ifCond .eq 18, 3) := by decide +kernel
theorem dX12_holds_179 : decode cX12_holds 179 = .ok (.aload_n 0, 1) := by decide +kernel
theorem dX12_holds_180 : decode cX12_holds 180 = .ok (.getfield 476, 3) := by decide +kernel
theorem dX12_holds_183 : decode cX12_holds 183 = .ok (.aload_n 0, 1) := by decide +kernel
theorem dX12_holds_184 : decode cX12_holds 184 = .ok (.getfield 258, 3) := by decide +kernel
theorem dX12_holds_187 : decode cX12_holds 187 = .ok (.if_icmp .ne 7, 3) := by decide +kernel
theorem dX12_holds_190 : decode cX12_holds 190 = .ok (.iconst 1, 1) := by decide +kernel
theorem dX12_holds_191 : decode cX12_holds 191 = .ok (.goto 4, 3) := by decide +kernel
theorem dX12_holds_194 : decode cX12_holds 194 = .ok (.iconst 0, 1) := by decide +kernel
theorem dX12_holds_195 : decode cX12_holds 195 = .ok (.ireturn, 1) := by decide +kernel
def M_X12_holds : y_M := (yX12_holds, cX12_holds, 3, (Option.some Jvm.ClassFile.FieldType.int))
theorem n_X12_holds : y_N0 M_X12_holds 0 := ⟨(c_10 42 (by decide +kernel) rfl), (c_1 9 (by decide +kernel) rfl), ⟨by decide +kernel, by decide +kernel⟩, by decide +kernel⟩
theorem l_BoxYardModel_479 : y_lnk "BoxYardModel" 479 M_X12_works := Or.inl (c_10 43 (by decide +kernel) rfl)
theorem i_X12_works : Cond.instanceMethod (M_X12_works).1 ∈ y_tb := (c_10 45 (by decide +kernel) rfl)
theorem e_X12_works : Cond.selects (M_X12_works).1.cls (M_X12_works).1 (M_X12_works).1 ∈ y_tb := (m_s 105 (by decide +kernel) rfl)
set_option maxRecDepth 100000 in
def f_X12_holds (p0 : Nat) (h : y_H) : Option (Int32 × y_H) :=
  if y_K h p0 = 13 then
  if (y_I h p0 59) = (-9 : Int32) then
    some ((-3 : Int32), h)
  else
    y_jl (fun (_ : Nat) (_ : Int32) (_ : y_H) => (none : Option (Int32 × y_H))) (fun j14 (v0_14 : Nat) (v1_14 : Int32) (h1 : y_H) =>
        if y_K h1 v0_14 = 13 then
        if y_K h1 v0_14 = 13 then
        if y_K h1 (y_P h1 v0_14 19) = 100 ∧ y_ix (y_I h1 v0_14 59) (y_N h1 (y_P h1 v0_14 19)) = true then
        if (y_I h1 (y_P h1 v0_14 19) (Int32.toNatClampNeg (y_I h1 v0_14 59))) ≤ v1_14 then
          if y_K h1 v0_14 = 13 then
          y_bd (s_I h1 v0_14 71 0) (fun h2 =>
          if y_K h2 v0_14 = 13 then
          y_jn (fun (v0_113 : Nat) (h5 : y_H) => (
              y_jl (fun (_ : Nat) (_ : Int32) (_ : Int32) (_ : y_H) => (none : Option (Int32 × y_H))) (fun j121 (v0_121 : Nat) (v1_121 : Int32) (v2_121 : Int32) (h6 : y_H) =>
                  if y_K h6 v0_121 = 13 then
                  y_jn (fun (v0_175 : Nat) (v1_175 : Int32) (h7 : y_H) => (
                      y_jn (fun (h8 : y_H) => (
                          some (0, h8) : Option (Int32 × y_H))) (fun j194 =>
                      if v1_175 = 0 then
                        j194 h7
                      else
                        if y_K h7 v0_175 = 13 then
                        if y_K h7 v0_175 = 13 then
                        if (y_I h7 v0_175 71) = (y_I h7 v0_175 55) then
                          some (1, h7)
                        else
                          j194 h7
                        else none
                        else none) : Option (Int32 × y_H))) (fun j175 =>
                  if (y_I h6 v0_121 58) ≤ v2_121 then
                    j175 v0_121 v1_121 h6
                  else
                    if v1_121 = 0 then
                      j175 v0_121 v1_121 h6
                    else
                      if y_K h6 v0_121 = 13 then
                      if y_K h6 v0_121 = 13 then
                      y_jn (fun (v0_167 : Nat) (v2_167 : Int32) (h13 : y_H) => (
                          j121 v0_167 0 (v2_167 + 1) h13 : Option (Int32 × y_H))) (fun j167 =>
                      if (y_I h6 v0_121 55) ≤ (y_I h6 v0_121 71) then
                        j167 v0_121 v2_121 h6
                      else
                        if y_K h6 v0_121 = 13 then
                        if y_K h6 (y_P h6 v0_121 60) = 100 ∧ y_ix v2_121 (y_N h6 (y_P h6 v0_121 60)) = true then
                        if y_K h6 v0_121 = 13 then
                        if y_K h6 (y_P h6 v0_121 61) = 100 ∧ y_ix v2_121 (y_N h6 (y_P h6 v0_121 61)) = true then
                        if y_K h6 v0_121 = 13 then
                        y_cl (f_X12_works v0_121 (y_I h6 (y_P h6 v0_121 60) (Int32.toNatClampNeg v2_121)) (y_I h6 (y_P h6 v0_121 61) (Int32.toNatClampNeg v2_121)) h6) (fun r14 h15 =>
                        if r14 = true then
                          j121 v0_121 1 (v2_121 + 1) h15
                        else
                          j167 v0_121 v2_121 h15)
                        else none
                        else none
                        else none
                        else none
                        else none)
                      else none
                      else none)
                  else none) (fun j121 =>
              j121 v0_113 1 0 h5) : Option (Int32 × y_H))) (fun j113 =>
          if 0 < (y_I h2 v0_14 55) then
            j113 v0_14 h2
          else
            if y_K h2 v0_14 = 13 then
            if (y_I h2 v0_14 58) = 0 then
              j113 v0_14 h2
            else
              y_jl (fun (_ : Nat) (_ : Int32) (_ : Int32) (_ : y_H) => (none : Option (Int32 × y_H))) (fun j121 (v0_121 : Nat) (v1_121 : Int32) (v2_121 : Int32) (h29 : y_H) =>
                  if y_K h29 v0_121 = 13 then
                  y_jn (fun (v0_175 : Nat) (v1_175 : Int32) (h30 : y_H) => (
                      y_jn (fun (h31 : y_H) => (
                          some (0, h31) : Option (Int32 × y_H))) (fun j194 =>
                      if v1_175 = 0 then
                        j194 h30
                      else
                        if y_K h30 v0_175 = 13 then
                        if y_K h30 v0_175 = 13 then
                        if (y_I h30 v0_175 71) = (y_I h30 v0_175 55) then
                          some (1, h30)
                        else
                          j194 h30
                        else none
                        else none) : Option (Int32 × y_H))) (fun j175 =>
                  if (y_I h29 v0_121 58) ≤ v2_121 then
                    j175 v0_121 v1_121 h29
                  else
                    if v1_121 = 0 then
                      j175 v0_121 v1_121 h29
                    else
                      if y_K h29 v0_121 = 13 then
                      if y_K h29 v0_121 = 13 then
                      y_jn (fun (v0_167 : Nat) (v2_167 : Int32) (h36 : y_H) => (
                          j121 v0_167 0 (v2_167 + 1) h36 : Option (Int32 × y_H))) (fun j167 =>
                      if (y_I h29 v0_121 55) ≤ (y_I h29 v0_121 71) then
                        j167 v0_121 v2_121 h29
                      else
                        if y_K h29 v0_121 = 13 then
                        if y_K h29 (y_P h29 v0_121 60) = 100 ∧ y_ix v2_121 (y_N h29 (y_P h29 v0_121 60)) = true then
                        if y_K h29 v0_121 = 13 then
                        if y_K h29 (y_P h29 v0_121 61) = 100 ∧ y_ix v2_121 (y_N h29 (y_P h29 v0_121 61)) = true then
                        if y_K h29 v0_121 = 13 then
                        y_cl (f_X12_works v0_121 (y_I h29 (y_P h29 v0_121 60) (Int32.toNatClampNeg v2_121)) (y_I h29 (y_P h29 v0_121 61) (Int32.toNatClampNeg v2_121)) h29) (fun r37 h38 =>
                        if r37 = true then
                          j121 v0_121 1 (v2_121 + 1) h38
                        else
                          j167 v0_121 v2_121 h38)
                        else none
                        else none
                        else none
                        else none
                        else none)
                      else none
                      else none)
                  else none) (fun j121 =>
              j121 v0_14 0 0 h2)
            else none)
          else none)
          else none
        else
          if y_K h1 v0_14 = 13 then
          if y_K h1 v0_14 = 13 then
          if y_K h1 v0_14 = 13 then
          if y_K h1 (y_P h1 v0_14 22) = 100 ∧ y_ix ((6 * (y_I h1 v0_14 59)) + v1_14) (y_N h1 (y_P h1 v0_14 22)) = true then
          if y_K h1 (y_P h1 v0_14 69) = 100 ∧ y_ix v1_14 (y_N h1 (y_P h1 v0_14 69)) = true then
          y_bd (s_I h1 (y_P h1 v0_14 69) (Int32.toNatClampNeg v1_14) (y_I h1 (y_P h1 v0_14 22) (Int32.toNatClampNeg ((6 * (y_I h1 v0_14 59)) + v1_14)))) (fun h56 =>
          y_jl (fun (_ : Nat) (_ : Int32) (_ : Int32) (_ : y_H) => (none : Option (Int32 × y_H))) (fun j49 (v0_49 : Nat) (v1_49 : Int32) (v2_49 : Int32) (h59 : y_H) =>
              if 5 ≤ v2_49 then
                j14 v0_49 (v1_49 + 1) h59
              else
                if y_K h59 v0_49 = 13 then
                if y_K h59 v0_49 = 13 then
                if y_K h59 v0_49 = 13 then
                if y_K h59 (y_P h59 v0_49 23) = 100 ∧ y_ix ((5 * ((6 * (y_I h59 v0_49 59)) + v1_49)) + v2_49) (y_N h59 (y_P h59 v0_49 23)) = true then
                if y_K h59 (y_P h59 v0_49 70) = 100 ∧ y_ix ((5 * v1_49) + v2_49) (y_N h59 (y_P h59 v0_49 70)) = true then
                y_bd (s_I h59 (y_P h59 v0_49 70) (Int32.toNatClampNeg ((5 * v1_49) + v2_49)) (y_I h59 (y_P h59 v0_49 23) (Int32.toNatClampNeg ((5 * ((6 * (y_I h59 v0_49 59)) + v1_49)) + v2_49)))) (fun h60 =>
                j49 v0_49 v1_49 (v2_49 + 1) h60)
                else none
                else none
                else none
                else none
                else none) (fun j49 =>
          j49 v0_14 v1_14 0 h56))
          else none
          else none
          else none
          else none
          else none
        else none
        else none
        else none) (fun j14 =>
    j14 p0 0 h)
  else none
abbrev rm_X12_holds : Room := { frames := 2, cells := 0, slots := 0, locals := 45 }
set_option maxRecDepth 100000 in
set_option maxHeartbeats 4000000 in
theorem k_X12_holds {l : Launch} {G : y_G} {p0 : Nat} {h hz : y_H} {rz : Int32} (hf : f_X12_holds p0 h = some (rz, hz)) : y_S l G M_X12_holds rm_X12_holds [y_p p0] h (some (.int rz)) hz := by
  refine y_start (lv := [(0, y_p p0)]) (by decide) (by simp [lg_sl, y_p_cat, y_ci, y_cj, M_X12_holds]) (by simp [lv_args, y_p_cat, y_ci, y_cj]) (fun z ad0 => ?_)
  unfold f_X12_holds at hf
  refine y_aload_n (x := p0) (pc2 := 1) rfl dX12_holds_0 rfl ?_
  obtain ⟨g77, hf⟩ := y_g hf
  refine y_getI (pc2 := 4) rfl dX12_holds_1 F_BoxYardModel_147 (by decide) rfl g77 ?_
  refine y_bipush (v := (-9 : Int32)) (pc2 := 6) rfl dX12_holds_4 (by decide) ?_
  refine y_icmp_ne (tgt := 12) (pc2 := 9) rfl dX12_holds_6 (by decide) (fun c76 => ?_) (fun c76 => ?_)
  · replace hf := y_ie c76 hf
    refine y_iconst (v := 0) (pc2 := 13) rfl dX12_holds_12 (by decide) ?_
    refine y_jlE hf (fun j => ∀ (v0_14 : Nat) (v1_14 : Int32) (h1 : y_H), j v0_14 v1_14 h1 = some (rz, hz) → y_V l G z rm_X12_holds M_X12_holds ad0 h (some (.int rz)) hz 14 [(0, y_p v0_14), (1, .int v1_14)] [] h1 0 0) (fun _ _ _ hf => by cases hf) (fun j14 hj14 v0_14 v1_14 h1 hf => ?_) (fun j14 hj14 hf => ?_)
    · refine y_iload_n (pc2 := 15) rfl dX12_holds_14 rfl ?_
      refine y_aload_n (x := v0_14) (pc2 := 16) rfl dX12_holds_15 rfl ?_
      obtain ⟨g75, hf⟩ := y_g hf
      refine y_getP (pc2 := 19) rfl dX12_holds_16 F_BoxYardModel_62 (by decide) rfl g75 ?_
      refine y_aload_n (x := v0_14) (pc2 := 20) rfl dX12_holds_19 rfl ?_
      obtain ⟨g74, hf⟩ := y_g hf
      refine y_getI (pc2 := 23) rfl dX12_holds_20 F_BoxYardModel_147 (by decide) rfl g74 ?_
      obtain ⟨g73, hf⟩ := y_g hf
      refine y_iald (pc2 := 24) rfl dX12_holds_23 g73.1 (y_ix_in g73.2) ?_
      refine y_icmp_ge (tgt := 94) (pc2 := 27) rfl dX12_holds_24 (by decide) (fun c72 => ?_) (fun c72 => ?_)
      · replace hf := y_it c72 hf
        refine y_aload_n (x := v0_14) (pc2 := 95) rfl dX12_holds_94 rfl ?_
        refine y_iconst (v := 0) (pc2 := 96) rfl dX12_holds_95 (by decide) ?_
        obtain ⟨g4, hf⟩ := y_g hf
        obtain ⟨h2, e3, hf⟩ := y_bdE hf
        refine y_putI (x := 0) (pc2 := 99) rfl dX12_holds_96 Fp_BoxYardModel_476 (by decide) rfl g4 e3 ?_
        refine y_aload_n (x := v0_14) (pc2 := 100) rfl dX12_holds_99 rfl ?_
        obtain ⟨g55, hf⟩ := y_g hf
        refine y_getI (pc2 := 103) rfl dX12_holds_100 F_BoxYardModel_258 (by decide) rfl g55 ?_
        refine y_jnE hf (fun j => ∀ (v0_113 : Nat) (h5 : y_H), j v0_113 h5 = some (rz, hz) → y_V l G z rm_X12_holds M_X12_holds ad0 h (some (.int rz)) hz 113 [(0, y_p v0_113)] [] h5 0 0) (fun v0_113 h5 hf => ?_) (fun j113 hj113 hf => ?_)
        · refine y_iconst (v := 1) (pc2 := 114) rfl dX12_holds_113 (by decide) ?_
          refine y_goto (tgt := 118) dX12_holds_114 (by decide) ?_
          refine y_istore_n (lv' := [(1, .int 1), (0, y_p v0_113)]) (pc2 := 119) rfl dX12_holds_118 (by decide) (by show y_st1 _ 1 _ = _; simp [y_st1, y_p_cat, y_ci, y_cj]) ?_
          refine y_iconst (v := 0) (pc2 := 120) rfl dX12_holds_119 (by decide) ?_
          refine y_jlE hf (fun j => ∀ (v0_121 : Nat) (v1_121 : Int32) (v2_121 : Int32) (h6 : y_H), j v0_121 v1_121 v2_121 h6 = some (rz, hz) → y_V l G z rm_X12_holds M_X12_holds ad0 h (some (.int rz)) hz 121 [(0, y_p v0_121), (1, .int v1_121), (2, .int v2_121)] [] h6 0 0) (fun _ _ _ _ hf => by cases hf) (fun j121 hj121 v0_121 v1_121 v2_121 h6 hf => ?_) (fun j121 hj121 hf => ?_)
          · refine y_iload_n (pc2 := 122) rfl dX12_holds_121 rfl ?_
            refine y_aload_n (x := v0_121) (pc2 := 123) rfl dX12_holds_122 rfl ?_
            obtain ⟨g28, hf⟩ := y_g hf
            refine y_getI (pc2 := 126) rfl dX12_holds_123 F_BoxYardModel_264 (by decide) rfl g28 ?_
            refine y_jnE hf (fun j => ∀ (v0_175 : Nat) (v1_175 : Int32) (h7 : y_H), j v0_175 v1_175 h7 = some (rz, hz) → y_V l G z rm_X12_holds M_X12_holds ad0 h (some (.int rz)) hz 175 [(0, y_p v0_175), (1, .int v1_175)] [] h7 0 0) (fun v0_175 v1_175 h7 hf => ?_) (fun j175 hj175 hf => ?_)
            · refine y_iload_n (pc2 := 176) rfl dX12_holds_175 rfl ?_
              refine y_jnE hf (fun j => ∀ (h8 : y_H), j h8 = some (rz, hz) → y_V l G z rm_X12_holds M_X12_holds ad0 h (some (.int rz)) hz 194 [] [] h8 0 0) (fun h8 hf => ?_) (fun j194 hj194 hf => ?_)
              · refine y_iconst (v := 0) (pc2 := 195) rfl dX12_holds_194 (by decide) ?_
                exact y_iretF hf dX12_holds_195 rfl (by decide) (by decide)
              · refine y_if_eq (tgt := 194) (pc2 := 179) rfl dX12_holds_176 (by decide) (fun c12 => ?_) (fun c12 => ?_)
                · replace hf := y_it c12 hf
                  exact y_pk [] rfl (hj194 _ hf)
                · replace hf := y_ie c12 hf
                  refine y_aload_n (x := v0_175) (pc2 := 180) rfl dX12_holds_179 rfl ?_
                  obtain ⟨g11, hf⟩ := y_g hf
                  refine y_getI (pc2 := 183) rfl dX12_holds_180 F_BoxYardModel_476 (by decide) rfl g11 ?_
                  refine y_aload_n (x := v0_175) (pc2 := 184) rfl dX12_holds_183 rfl ?_
                  obtain ⟨g10, hf⟩ := y_g hf
                  refine y_getI (pc2 := 187) rfl dX12_holds_184 F_BoxYardModel_258 (by decide) rfl g10 ?_
                  refine y_icmp_ne (tgt := 194) (pc2 := 190) rfl dX12_holds_187 (by decide) (fun c9 => ?_) (fun c9 => ?_)
                  · replace hf := y_ie c9 hf
                    exact y_pk [] rfl (hj194 _ hf)
                  · replace hf := y_it c9 hf
                    refine y_iconst (v := 1) (pc2 := 191) rfl dX12_holds_190 (by decide) ?_
                    refine y_goto (tgt := 195) dX12_holds_191 (by decide) ?_
                    exact y_iretF hf dX12_holds_195 rfl (by decide) (by decide)
            · refine y_icmp_ge (tgt := 175) (pc2 := 129) rfl dX12_holds_126 (by decide) (fun c27 => ?_) (fun c27 => ?_)
              · replace hf := y_it c27 hf
                exact y_pk [0, 1] rfl (hj175 _ _ _ hf)
              · replace hf := y_ie c27 hf
                refine y_iload_n (pc2 := 130) rfl dX12_holds_129 rfl ?_
                refine y_if_eq (tgt := 175) (pc2 := 133) rfl dX12_holds_130 (by decide) (fun c26 => ?_) (fun c26 => ?_)
                · replace hf := y_it c26 hf
                  exact y_pk [0, 1] rfl (hj175 _ _ _ hf)
                · replace hf := y_ie c26 hf
                  refine y_aload_n (x := v0_121) (pc2 := 134) rfl dX12_holds_133 rfl ?_
                  obtain ⟨g25, hf⟩ := y_g hf
                  refine y_getI (pc2 := 137) rfl dX12_holds_134 F_BoxYardModel_476 (by decide) rfl g25 ?_
                  refine y_aload_n (x := v0_121) (pc2 := 138) rfl dX12_holds_137 rfl ?_
                  obtain ⟨g24, hf⟩ := y_g hf
                  refine y_getI (pc2 := 141) rfl dX12_holds_138 F_BoxYardModel_258 (by decide) rfl g24 ?_
                  refine y_jnE hf (fun j => ∀ (v0_167 : Nat) (v2_167 : Int32) (h13 : y_H), j v0_167 v2_167 h13 = some (rz, hz) → y_V l G z rm_X12_holds M_X12_holds ad0 h (some (.int rz)) hz 167 [(0, y_p v0_167), (2, .int v2_167)] [] h13 0 0) (fun v0_167 v2_167 h13 hf => ?_) (fun j167 hj167 hf => ?_)
                  · refine y_iconst (v := 0) (pc2 := 168) rfl dX12_holds_167 (by decide) ?_
                    refine y_istore_n (lv' := [(1, .int 0), (0, y_p v0_167), (2, .int v2_167)]) (pc2 := 169) rfl dX12_holds_168 (by decide) (by show y_st1 _ 1 _ = _; simp [y_st1, y_p_cat, y_ci, y_cj]) ?_
                    refine y_iinc (v := v2_167 + 1) (lv' := [(2, .int (v2_167 + 1)), (1, .int 0), (0, y_p v0_167)]) (pc2 := 172) rfl dX12_holds_169 rfl rfl (by decide) rfl ?_
                    refine y_goto (tgt := 121) dX12_holds_172 (by decide) ?_
                    exact y_pk [2, 1, 0] rfl (hj121 _ _ _ _ hf)
                  · refine y_icmp_ge (tgt := 167) (pc2 := 144) rfl dX12_holds_141 (by decide) (fun c23 => ?_) (fun c23 => ?_)
                    · replace hf := y_it c23 hf
                      exact y_pk [0, 2] rfl (hj167 _ _ _ hf)
                    · replace hf := y_ie c23 hf
                      refine y_aload_n (x := v0_121) (pc2 := 145) rfl dX12_holds_144 rfl ?_
                      refine y_aload_n (x := v0_121) (pc2 := 146) rfl dX12_holds_145 rfl ?_
                      obtain ⟨g22, hf⟩ := y_g hf
                      refine y_getP (pc2 := 149) rfl dX12_holds_146 F_BoxYardModel_150 (by decide) rfl g22 ?_
                      refine y_iload_n (pc2 := 150) rfl dX12_holds_149 rfl ?_
                      obtain ⟨g21, hf⟩ := y_g hf
                      refine y_iald (pc2 := 151) rfl dX12_holds_150 g21.1 (y_ix_in g21.2) ?_
                      refine y_aload_n (x := v0_121) (pc2 := 152) rfl dX12_holds_151 rfl ?_
                      obtain ⟨g20, hf⟩ := y_g hf
                      refine y_getP (pc2 := 155) rfl dX12_holds_152 F_BoxYardModel_153 (by decide) rfl g20 ?_
                      refine y_iload_n (pc2 := 156) rfl dX12_holds_155 rfl ?_
                      obtain ⟨g19, hf⟩ := y_g hf
                      refine y_iald (pc2 := 157) rfl dX12_holds_156 g19.1 (y_ix_in g19.2) ?_
                      obtain ⟨g18, hf⟩ := y_g hf
                      obtain ⟨r14, h15, c16, hf⟩ := y_clE hf
                      refine y_callV (As := [.int (y_I h6 (y_P h6 v0_121 60) (Int32.toNatClampNeg v2_121)), .int (y_I h6 (y_P h6 v0_121 61) (Int32.toNatClampNeg v2_121))]) (rm := rm_X12_works) (cells := 0) (slots := 0) (pc2 := 160) rfl dX12_holds_157 n_X12_works l_BoxYardModel_479 i_X12_works e_X12_works (ci := 12) rfl rfl (by decide) g18 rfl rfl (by decide) (by decide) (by decide) (k_X12_works c16) ?_
                      refine y_ifz_eq (tgt := 167) (pc2 := 163) rfl dX12_holds_160 (by decide) (fun c17 => ?_) (fun c17 => ?_)
                      · replace hf := y_ie c17 hf
                        exact y_pk [0, 2] rfl (hj167 _ _ _ hf)
                      · replace hf := y_it c17 hf
                        refine y_iconst (v := 1) (pc2 := 164) rfl dX12_holds_163 (by decide) ?_
                        refine y_goto (tgt := 168) dX12_holds_164 (by decide) ?_
                        refine y_istore_n (lv' := [(1, .int 1), (0, y_p v0_121), (2, .int v2_121)]) (pc2 := 169) rfl dX12_holds_168 (by decide) (by show y_st1 _ 1 _ = _; simp [y_st1, y_p_cat, y_ci, y_cj]) ?_
                        refine y_iinc (v := v2_121 + 1) (lv' := [(2, .int (v2_121 + 1)), (1, .int 1), (0, y_p v0_121)]) (pc2 := 172) rfl dX12_holds_169 rfl rfl (by decide) rfl ?_
                        refine y_goto (tgt := 121) dX12_holds_172 (by decide) ?_
                        exact y_pk [2, 1, 0] rfl (hj121 _ _ _ _ hf)
          · refine y_istore_n (lv' := [(2, .int 0), (1, .int 1), (0, y_p v0_113)]) (pc2 := 121) rfl dX12_holds_120 (by decide) rfl ?_
            exact y_pk [2, 1, 0] rfl (hj121 _ _ _ _ hf)
        · refine y_if_gt (tgt := 113) (pc2 := 106) rfl dX12_holds_103 (by decide) (fun c54 => ?_) (fun c54 => ?_)
          · replace hf := y_it c54 hf
            exact y_pk [0] rfl (hj113 _ _ hf)
          · replace hf := y_ie c54 hf
            refine y_aload_n (x := v0_14) (pc2 := 107) rfl dX12_holds_106 rfl ?_
            obtain ⟨g53, hf⟩ := y_g hf
            refine y_getI (pc2 := 110) rfl dX12_holds_107 F_BoxYardModel_264 (by decide) rfl g53 ?_
            refine y_if_ne (tgt := 117) (pc2 := 113) rfl dX12_holds_110 (by decide) (fun c52 => ?_) (fun c52 => ?_)
            · replace hf := y_ie c52 hf
              refine y_iconst (v := 0) (pc2 := 118) rfl dX12_holds_117 (by decide) ?_
              refine y_istore_n (lv' := [(1, .int 0), (0, y_p v0_14)]) (pc2 := 119) rfl dX12_holds_118 (by decide) (by show y_st1 _ 1 _ = _; simp [y_st1, y_p_cat, y_ci, y_cj]) ?_
              refine y_iconst (v := 0) (pc2 := 120) rfl dX12_holds_119 (by decide) ?_
              refine y_jlE hf (fun j => ∀ (v0_121 : Nat) (v1_121 : Int32) (v2_121 : Int32) (h29 : y_H), j v0_121 v1_121 v2_121 h29 = some (rz, hz) → y_V l G z rm_X12_holds M_X12_holds ad0 h (some (.int rz)) hz 121 [(0, y_p v0_121), (1, .int v1_121), (2, .int v2_121)] [] h29 0 0) (fun _ _ _ _ hf => by cases hf) (fun j121 hj121 v0_121 v1_121 v2_121 h29 hf => ?_) (fun j121 hj121 hf => ?_)
              · refine y_iload_n (pc2 := 122) rfl dX12_holds_121 rfl ?_
                refine y_aload_n (x := v0_121) (pc2 := 123) rfl dX12_holds_122 rfl ?_
                obtain ⟨g51, hf⟩ := y_g hf
                refine y_getI (pc2 := 126) rfl dX12_holds_123 F_BoxYardModel_264 (by decide) rfl g51 ?_
                refine y_jnE hf (fun j => ∀ (v0_175 : Nat) (v1_175 : Int32) (h30 : y_H), j v0_175 v1_175 h30 = some (rz, hz) → y_V l G z rm_X12_holds M_X12_holds ad0 h (some (.int rz)) hz 175 [(0, y_p v0_175), (1, .int v1_175)] [] h30 0 0) (fun v0_175 v1_175 h30 hf => ?_) (fun j175 hj175 hf => ?_)
                · refine y_iload_n (pc2 := 176) rfl dX12_holds_175 rfl ?_
                  refine y_jnE hf (fun j => ∀ (h31 : y_H), j h31 = some (rz, hz) → y_V l G z rm_X12_holds M_X12_holds ad0 h (some (.int rz)) hz 194 [] [] h31 0 0) (fun h31 hf => ?_) (fun j194 hj194 hf => ?_)
                  · refine y_iconst (v := 0) (pc2 := 195) rfl dX12_holds_194 (by decide) ?_
                    exact y_iretF hf dX12_holds_195 rfl (by decide) (by decide)
                  · refine y_if_eq (tgt := 194) (pc2 := 179) rfl dX12_holds_176 (by decide) (fun c35 => ?_) (fun c35 => ?_)
                    · replace hf := y_it c35 hf
                      exact y_pk [] rfl (hj194 _ hf)
                    · replace hf := y_ie c35 hf
                      refine y_aload_n (x := v0_175) (pc2 := 180) rfl dX12_holds_179 rfl ?_
                      obtain ⟨g34, hf⟩ := y_g hf
                      refine y_getI (pc2 := 183) rfl dX12_holds_180 F_BoxYardModel_476 (by decide) rfl g34 ?_
                      refine y_aload_n (x := v0_175) (pc2 := 184) rfl dX12_holds_183 rfl ?_
                      obtain ⟨g33, hf⟩ := y_g hf
                      refine y_getI (pc2 := 187) rfl dX12_holds_184 F_BoxYardModel_258 (by decide) rfl g33 ?_
                      refine y_icmp_ne (tgt := 194) (pc2 := 190) rfl dX12_holds_187 (by decide) (fun c32 => ?_) (fun c32 => ?_)
                      · replace hf := y_ie c32 hf
                        exact y_pk [] rfl (hj194 _ hf)
                      · replace hf := y_it c32 hf
                        refine y_iconst (v := 1) (pc2 := 191) rfl dX12_holds_190 (by decide) ?_
                        refine y_goto (tgt := 195) dX12_holds_191 (by decide) ?_
                        exact y_iretF hf dX12_holds_195 rfl (by decide) (by decide)
                · refine y_icmp_ge (tgt := 175) (pc2 := 129) rfl dX12_holds_126 (by decide) (fun c50 => ?_) (fun c50 => ?_)
                  · replace hf := y_it c50 hf
                    exact y_pk [0, 1] rfl (hj175 _ _ _ hf)
                  · replace hf := y_ie c50 hf
                    refine y_iload_n (pc2 := 130) rfl dX12_holds_129 rfl ?_
                    refine y_if_eq (tgt := 175) (pc2 := 133) rfl dX12_holds_130 (by decide) (fun c49 => ?_) (fun c49 => ?_)
                    · replace hf := y_it c49 hf
                      exact y_pk [0, 1] rfl (hj175 _ _ _ hf)
                    · replace hf := y_ie c49 hf
                      refine y_aload_n (x := v0_121) (pc2 := 134) rfl dX12_holds_133 rfl ?_
                      obtain ⟨g48, hf⟩ := y_g hf
                      refine y_getI (pc2 := 137) rfl dX12_holds_134 F_BoxYardModel_476 (by decide) rfl g48 ?_
                      refine y_aload_n (x := v0_121) (pc2 := 138) rfl dX12_holds_137 rfl ?_
                      obtain ⟨g47, hf⟩ := y_g hf
                      refine y_getI (pc2 := 141) rfl dX12_holds_138 F_BoxYardModel_258 (by decide) rfl g47 ?_
                      refine y_jnE hf (fun j => ∀ (v0_167 : Nat) (v2_167 : Int32) (h36 : y_H), j v0_167 v2_167 h36 = some (rz, hz) → y_V l G z rm_X12_holds M_X12_holds ad0 h (some (.int rz)) hz 167 [(0, y_p v0_167), (2, .int v2_167)] [] h36 0 0) (fun v0_167 v2_167 h36 hf => ?_) (fun j167 hj167 hf => ?_)
                      · refine y_iconst (v := 0) (pc2 := 168) rfl dX12_holds_167 (by decide) ?_
                        refine y_istore_n (lv' := [(1, .int 0), (0, y_p v0_167), (2, .int v2_167)]) (pc2 := 169) rfl dX12_holds_168 (by decide) (by show y_st1 _ 1 _ = _; simp [y_st1, y_p_cat, y_ci, y_cj]) ?_
                        refine y_iinc (v := v2_167 + 1) (lv' := [(2, .int (v2_167 + 1)), (1, .int 0), (0, y_p v0_167)]) (pc2 := 172) rfl dX12_holds_169 rfl rfl (by decide) rfl ?_
                        refine y_goto (tgt := 121) dX12_holds_172 (by decide) ?_
                        exact y_pk [2, 1, 0] rfl (hj121 _ _ _ _ hf)
                      · refine y_icmp_ge (tgt := 167) (pc2 := 144) rfl dX12_holds_141 (by decide) (fun c46 => ?_) (fun c46 => ?_)
                        · replace hf := y_it c46 hf
                          exact y_pk [0, 2] rfl (hj167 _ _ _ hf)
                        · replace hf := y_ie c46 hf
                          refine y_aload_n (x := v0_121) (pc2 := 145) rfl dX12_holds_144 rfl ?_
                          refine y_aload_n (x := v0_121) (pc2 := 146) rfl dX12_holds_145 rfl ?_
                          obtain ⟨g45, hf⟩ := y_g hf
                          refine y_getP (pc2 := 149) rfl dX12_holds_146 F_BoxYardModel_150 (by decide) rfl g45 ?_
                          refine y_iload_n (pc2 := 150) rfl dX12_holds_149 rfl ?_
                          obtain ⟨g44, hf⟩ := y_g hf
                          refine y_iald (pc2 := 151) rfl dX12_holds_150 g44.1 (y_ix_in g44.2) ?_
                          refine y_aload_n (x := v0_121) (pc2 := 152) rfl dX12_holds_151 rfl ?_
                          obtain ⟨g43, hf⟩ := y_g hf
                          refine y_getP (pc2 := 155) rfl dX12_holds_152 F_BoxYardModel_153 (by decide) rfl g43 ?_
                          refine y_iload_n (pc2 := 156) rfl dX12_holds_155 rfl ?_
                          obtain ⟨g42, hf⟩ := y_g hf
                          refine y_iald (pc2 := 157) rfl dX12_holds_156 g42.1 (y_ix_in g42.2) ?_
                          obtain ⟨g41, hf⟩ := y_g hf
                          obtain ⟨r37, h38, c39, hf⟩ := y_clE hf
                          refine y_callV (As := [.int (y_I h29 (y_P h29 v0_121 60) (Int32.toNatClampNeg v2_121)), .int (y_I h29 (y_P h29 v0_121 61) (Int32.toNatClampNeg v2_121))]) (rm := rm_X12_works) (cells := 0) (slots := 0) (pc2 := 160) rfl dX12_holds_157 n_X12_works l_BoxYardModel_479 i_X12_works e_X12_works (ci := 12) rfl rfl (by decide) g41 rfl rfl (by decide) (by decide) (by decide) (k_X12_works c39) ?_
                          refine y_ifz_eq (tgt := 167) (pc2 := 163) rfl dX12_holds_160 (by decide) (fun c40 => ?_) (fun c40 => ?_)
                          · replace hf := y_ie c40 hf
                            exact y_pk [0, 2] rfl (hj167 _ _ _ hf)
                          · replace hf := y_it c40 hf
                            refine y_iconst (v := 1) (pc2 := 164) rfl dX12_holds_163 (by decide) ?_
                            refine y_goto (tgt := 168) dX12_holds_164 (by decide) ?_
                            refine y_istore_n (lv' := [(1, .int 1), (0, y_p v0_121), (2, .int v2_121)]) (pc2 := 169) rfl dX12_holds_168 (by decide) (by show y_st1 _ 1 _ = _; simp [y_st1, y_p_cat, y_ci, y_cj]) ?_
                            refine y_iinc (v := v2_121 + 1) (lv' := [(2, .int (v2_121 + 1)), (1, .int 1), (0, y_p v0_121)]) (pc2 := 172) rfl dX12_holds_169 rfl rfl (by decide) rfl ?_
                            refine y_goto (tgt := 121) dX12_holds_172 (by decide) ?_
                            exact y_pk [2, 1, 0] rfl (hj121 _ _ _ _ hf)
              · refine y_istore_n (lv' := [(2, .int 0), (1, .int 0), (0, y_p v0_14)]) (pc2 := 121) rfl dX12_holds_120 (by decide) rfl ?_
                exact y_pk [2, 1, 0] rfl (hj121 _ _ _ _ hf)
            · replace hf := y_it c52 hf
              exact y_pk [0] rfl (hj113 _ _ hf)
      · replace hf := y_ie c72 hf
        refine y_aload_n (x := v0_14) (pc2 := 28) rfl dX12_holds_27 rfl ?_
        obtain ⟨g71, hf⟩ := y_g hf
        refine y_getP (pc2 := 31) rfl dX12_holds_28 F_BoxYardModel_174 (by decide) rfl g71 ?_
        refine y_iload_n (pc2 := 32) rfl dX12_holds_31 rfl ?_
        refine y_aload_n (x := v0_14) (pc2 := 33) rfl dX12_holds_32 rfl ?_
        obtain ⟨g70, hf⟩ := y_g hf
        refine y_getP (pc2 := 36) rfl dX12_holds_33 F_BoxYardModel_71 (by decide) rfl g70 ?_
        refine y_bipush (v := 6) (pc2 := 38) rfl dX12_holds_36 (by decide) ?_
        refine y_aload_n (x := v0_14) (pc2 := 39) rfl dX12_holds_38 rfl ?_
        obtain ⟨g69, hf⟩ := y_g hf
        refine y_getI (pc2 := 42) rfl dX12_holds_39 F_BoxYardModel_147 (by decide) rfl g69 ?_
        refine y_imul (pc2 := 43) rfl dX12_holds_42 ?_
        refine y_iload_n (pc2 := 44) rfl dX12_holds_43 rfl ?_
        refine y_iadd (pc2 := 45) rfl dX12_holds_44 ?_
        obtain ⟨g68, hf⟩ := y_g hf
        refine y_iald (pc2 := 46) rfl dX12_holds_45 g68.1 (y_ix_in g68.2) ?_
        obtain ⟨g58, hf⟩ := y_g hf
        obtain ⟨h56, e57, hf⟩ := y_bdE hf
        refine y_iast (x := y_I h1 (y_P h1 v0_14 22) (Int32.toNatClampNeg ((6 * (y_I h1 v0_14 59)) + v1_14))) (pc2 := 47) rfl dX12_holds_46 g58.1 (y_ix_in g58.2) e57 ?_
        refine y_iconst (v := 0) (pc2 := 48) rfl dX12_holds_47 (by decide) ?_
        refine y_jlE hf (fun j => ∀ (v0_49 : Nat) (v1_49 : Int32) (v2_49 : Int32) (h59 : y_H), j v0_49 v1_49 v2_49 h59 = some (rz, hz) → y_V l G z rm_X12_holds M_X12_holds ad0 h (some (.int rz)) hz 49 [(0, y_p v0_49), (1, .int v1_49), (2, .int v2_49)] [] h59 0 0) (fun _ _ _ _ hf => by cases hf) (fun j49 hj49 v0_49 v1_49 v2_49 h59 hf => ?_) (fun j49 hj49 hf => ?_)
        · refine y_iload_n (pc2 := 50) rfl dX12_holds_49 rfl ?_
          refine y_iconst (v := 5) (pc2 := 51) rfl dX12_holds_50 (by decide) ?_
          refine y_icmp_ge (tgt := 88) (pc2 := 54) rfl dX12_holds_51 (by decide) (fun c67 => ?_) (fun c67 => ?_)
          · replace hf := y_it c67 hf
            refine y_iinc (v := v1_49 + 1) (lv' := [(1, .int (v1_49 + 1)), (0, y_p v0_49), (2, .int v2_49)]) (pc2 := 91) rfl dX12_holds_88 rfl rfl (by decide) (by simp [y_st1, y_p_cat, y_ci, y_cj]) ?_
            refine y_goto (tgt := 14) dX12_holds_91 (by decide) ?_
            exact y_pk [1, 0] rfl (hj14 _ _ _ hf)
          · replace hf := y_ie c67 hf
            refine y_aload_n (x := v0_49) (pc2 := 55) rfl dX12_holds_54 rfl ?_
            obtain ⟨g66, hf⟩ := y_g hf
            refine y_getP (pc2 := 58) rfl dX12_holds_55 F_BoxYardModel_177 (by decide) rfl g66 ?_
            refine y_iconst (v := 5) (pc2 := 59) rfl dX12_holds_58 (by decide) ?_
            refine y_iload_n (pc2 := 60) rfl dX12_holds_59 rfl ?_
            refine y_imul (pc2 := 61) rfl dX12_holds_60 ?_
            refine y_iload_n (pc2 := 62) rfl dX12_holds_61 rfl ?_
            refine y_iadd (pc2 := 63) rfl dX12_holds_62 ?_
            refine y_aload_n (x := v0_49) (pc2 := 64) rfl dX12_holds_63 rfl ?_
            obtain ⟨g65, hf⟩ := y_g hf
            refine y_getP (pc2 := 67) rfl dX12_holds_64 F_BoxYardModel_74 (by decide) rfl g65 ?_
            refine y_iconst (v := 5) (pc2 := 68) rfl dX12_holds_67 (by decide) ?_
            refine y_bipush (v := 6) (pc2 := 70) rfl dX12_holds_68 (by decide) ?_
            refine y_aload_n (x := v0_49) (pc2 := 71) rfl dX12_holds_70 rfl ?_
            obtain ⟨g64, hf⟩ := y_g hf
            refine y_getI (pc2 := 74) rfl dX12_holds_71 F_BoxYardModel_147 (by decide) rfl g64 ?_
            refine y_imul (pc2 := 75) rfl dX12_holds_74 ?_
            refine y_iload_n (pc2 := 76) rfl dX12_holds_75 rfl ?_
            refine y_iadd (pc2 := 77) rfl dX12_holds_76 ?_
            refine y_imul (pc2 := 78) rfl dX12_holds_77 ?_
            refine y_iload_n (pc2 := 79) rfl dX12_holds_78 rfl ?_
            refine y_iadd (pc2 := 80) rfl dX12_holds_79 ?_
            obtain ⟨g63, hf⟩ := y_g hf
            refine y_iald (pc2 := 81) rfl dX12_holds_80 g63.1 (y_ix_in g63.2) ?_
            obtain ⟨g62, hf⟩ := y_g hf
            obtain ⟨h60, e61, hf⟩ := y_bdE hf
            refine y_iast (x := y_I h59 (y_P h59 v0_49 23) (Int32.toNatClampNeg ((5 * ((6 * (y_I h59 v0_49 59)) + v1_49)) + v2_49))) (pc2 := 82) rfl dX12_holds_81 g62.1 (y_ix_in g62.2) e61 ?_
            refine y_iinc (v := v2_49 + 1) (lv' := [(2, .int (v2_49 + 1)), (0, y_p v0_49), (1, .int v1_49)]) (pc2 := 85) rfl dX12_holds_82 rfl rfl (by decide) rfl ?_
            refine y_goto (tgt := 49) dX12_holds_85 (by decide) ?_
            exact y_pk [1, 2, 0] rfl (hj49 _ _ _ _ hf)
        · refine y_istore_n (lv' := [(2, .int 0), (0, y_p v0_14), (1, .int v1_14)]) (pc2 := 49) rfl dX12_holds_48 (by decide) rfl ?_
          exact y_pk [1, 2, 0] rfl (hj49 _ _ _ _ hf)
    · refine y_istore_n (lv' := [(1, .int 0), (0, y_p p0)]) (pc2 := 14) rfl dX12_holds_13 (by decide) (by show y_st1 _ 1 _ = _; simp [y_st1, y_p_cat, y_ci, y_cj]) ?_
      exact y_pk [1, 0] rfl (hj14 _ _ _ hf)
  · replace hf := y_it c76 hf
    refine y_bipush (v := (-3 : Int32)) (pc2 := 11) rfl dX12_holds_9 (by decide) ?_
    exact y_iretF hf dX12_holds_11 rfl (by decide) (by decide)
theorem dX12_task_0 : decode cX12_task 0 = .ok (.aload_n 0, 1) := by decide +kernel
theorem dX12_task_1 : decode cX12_task 1 = .ok (.getfield 267, 3) := by decide +kernel
theorem dX12_task_4 : decode cX12_task 4 = .ok (.bipush 6, 2) := by decide +kernel
theorem dX12_task_6 : decode cX12_task 6 = .ok (.if_icmp .ne 6, 3) := by decide +kernel
theorem dX12_task_9 : decode cX12_task 9 = .ok (.bipush (-4), 2) := by decide +kernel
theorem dX12_task_11 : decode cX12_task 11 = .ok (.ireturn, 1) := by decide +kernel
theorem dX12_task_12 : decode cX12_task 12 = .ok (.aload_n 0, 1) := by decide +kernel
theorem dX12_task_13 : decode cX12_task 13 = .ok (.getfield 180, 3) := by decide +kernel
theorem dX12_task_16 : decode cX12_task 16 = .ok (.aload_n 0, 1) := by decide +kernel
theorem dX12_task_17 : decode cX12_task 17 = .ok (.getfield 267, 3) := by decide +kernel
theorem dX12_task_20 : decode cX12_task 20 = .ok (.iconst 0, 1) := by decide +kernel
theorem dX12_task_21 : decode cX12_task 21 = .ok (.iastore, 1) := by decide +kernel
theorem dX12_task_22 : decode cX12_task 22 = .ok (.aload_n 0, 1) := by decide +kernel
theorem dX12_task_23 : decode cX12_task 23 = .ok (.dup, 1) := by decide +kernel
theorem dX12_task_24 : decode cX12_task 24 = .ok (.getfield 267, 3) := by decide +kernel
theorem dX12_task_27 : decode cX12_task 27 = .ok (.iconst 1, 1) := by decide +kernel
theorem dX12_task_28 : decode cX12_task 28 = .ok (.iadd, 1) := by decide +kernel
theorem dX12_task_29 : decode cX12_task 29 = .ok (.putfield 267, 3) := by decide +kernel
theorem dX12_task_32 : decode cX12_task 32 = .ok (.aload_n 0, 1) := by decide +kernel
theorem dX12_task_33 : decode cX12_task 33 = .ok (.getfield 267, 3) := by decide +kernel
theorem dX12_task_36 : decode cX12_task 36 = .ok (.iconst 1, 1) := by decide +kernel
theorem dX12_task_37 : decode cX12_task 37 = .ok (.isub, 1) := by decide +kernel
theorem dX12_task_38 : decode cX12_task 38 = .ok (.ireturn, 1) := by decide +kernel
def M_X12_task : y_M := (yX12_task, cX12_task, 1, (Option.some Jvm.ClassFile.FieldType.int))
theorem n_X12_task : y_N0 M_X12_task 0 := ⟨(c_10 50 (by decide +kernel) rfl), (c_1 9 (by decide +kernel) rfl), ⟨by decide +kernel, by decide +kernel⟩, by decide +kernel⟩
theorem F_BoxYardModel_267 : y_F "BoxYardModel" 267 12 72 := ⟨_, _, _, rfl, by decide, Or.inl (c_7 194 (by decide +kernel) rfl)⟩
theorem F_BoxYardModel_180 : y_F "BoxYardModel" 180 12 73 := ⟨_, _, _, rfl, by decide, Or.inl (c_7 195 (by decide +kernel) rfl)⟩
set_option maxRecDepth 100000 in
def f_X12_task (p0 : Nat) (h : y_H) : Option (Int32 × y_H) :=
  if y_K h p0 = 13 then
  if (y_I h p0 72) = 6 then
    some ((-4 : Int32), h)
  else
    if y_K h p0 = 13 then
    if y_K h p0 = 13 then
    if y_K h (y_P h p0 73) = 100 ∧ y_ix (y_I h p0 72) (y_N h (y_P h p0 73)) = true then
    y_bd (s_I h (y_P h p0 73) (Int32.toNatClampNeg (y_I h p0 72)) 0) (fun h1 =>
    if y_K h1 p0 = 13 then
    if y_K h1 p0 = 13 then
    y_bd (s_I h1 p0 72 ((y_I h1 p0 72) + 1)) (fun h4 =>
    if y_K h4 p0 = 13 then
    some ((y_I h4 p0 72) - 1, h4)
    else none)
    else none
    else none)
    else none
    else none
    else none
  else none
abbrev rm_X12_task : Room := { frames := 0, cells := 0, slots := 0, locals := 0 }
set_option maxRecDepth 100000 in
set_option maxHeartbeats 4000000 in
theorem k_X12_task {l : Launch} {G : y_G} {p0 : Nat} {h hz : y_H} {rz : Int32} (hf : f_X12_task p0 h = some (rz, hz)) : y_S l G M_X12_task rm_X12_task [y_p p0] h (some (.int rz)) hz := by
  refine y_start (lv := [(0, y_p p0)]) (by decide) (by simp [lg_sl, y_p_cat, y_ci, y_cj, M_X12_task]) (by simp [lv_args, y_p_cat, y_ci, y_cj]) (fun z ad0 => ?_)
  unfold f_X12_task at hf
  refine y_aload_n (x := p0) (pc2 := 1) rfl dX12_task_0 rfl ?_
  obtain ⟨g12, hf⟩ := y_g hf
  refine y_getI (pc2 := 4) rfl dX12_task_1 F_BoxYardModel_267 (by decide) rfl g12 ?_
  refine y_bipush (v := 6) (pc2 := 6) rfl dX12_task_4 (by decide) ?_
  refine y_icmp_ne (tgt := 12) (pc2 := 9) rfl dX12_task_6 (by decide) (fun c11 => ?_) (fun c11 => ?_)
  · replace hf := y_ie c11 hf
    refine y_aload_n (x := p0) (pc2 := 13) rfl dX12_task_12 rfl ?_
    obtain ⟨g10, hf⟩ := y_g hf
    refine y_getP (pc2 := 16) rfl dX12_task_13 F_BoxYardModel_180 (by decide) rfl g10 ?_
    refine y_aload_n (x := p0) (pc2 := 17) rfl dX12_task_16 rfl ?_
    obtain ⟨g9, hf⟩ := y_g hf
    refine y_getI (pc2 := 20) rfl dX12_task_17 F_BoxYardModel_267 (by decide) rfl g9 ?_
    refine y_iconst (v := 0) (pc2 := 21) rfl dX12_task_20 (by decide) ?_
    obtain ⟨g3, hf⟩ := y_g hf
    obtain ⟨h1, e2, hf⟩ := y_bdE hf
    refine y_iast (x := 0) (pc2 := 22) rfl dX12_task_21 g3.1 (y_ix_in g3.2) e2 ?_
    refine y_aload_n (x := p0) (pc2 := 23) rfl dX12_task_22 rfl ?_
    refine y_dup (pc2 := 24) rfl dX12_task_23 (y_p_cat _) ?_
    obtain ⟨g8, hf⟩ := y_g hf
    refine y_getI (pc2 := 27) rfl dX12_task_24 F_BoxYardModel_267 (by decide) rfl g8 ?_
    refine y_iconst (v := 1) (pc2 := 28) rfl dX12_task_27 (by decide) ?_
    refine y_iadd (pc2 := 29) rfl dX12_task_28 ?_
    obtain ⟨g6, hf⟩ := y_g hf
    obtain ⟨h4, e5, hf⟩ := y_bdE hf
    refine y_putI (x := (y_I h1 p0 72) + 1) (pc2 := 32) rfl dX12_task_29 Fp_BoxYardModel_267 (by decide) rfl g6 e5 ?_
    refine y_aload_n (x := p0) (pc2 := 33) rfl dX12_task_32 rfl ?_
    obtain ⟨g7, hf⟩ := y_g hf
    refine y_getI (pc2 := 36) rfl dX12_task_33 F_BoxYardModel_267 (by decide) rfl g7 ?_
    refine y_iconst (v := 1) (pc2 := 37) rfl dX12_task_36 (by decide) ?_
    refine y_isub (pc2 := 38) rfl dX12_task_37 ?_
    exact y_iretF hf dX12_task_38 rfl (by decide) (by decide)
  · replace hf := y_it c11 hf
    refine y_bipush (v := (-4 : Int32)) (pc2 := 11) rfl dX12_task_9 (by decide) ?_
    exact y_iretF hf dX12_task_11 rfl (by decide) (by decide)
theorem dX12_op_0 : decode cX12_op 0 = .ok (.iload_n 1, 1) := by decide +kernel
theorem dX12_op_1 : decode cX12_op 1 = .ok (.iconst 0, 1) := by decide +kernel
theorem dX12_op_2 : decode cX12_op 2 = .ok (.aload_n 0, 1) := by decide +kernel
theorem dX12_op_3 : decode cX12_op 3 = .ok (.getfield 267, 3) := by decide +kernel
theorem dX12_op_6 : decode cX12_op 6 = .ok (.iconst 1, 1) := by decide +kernel
theorem dX12_op_7 : decode cX12_op 7 = .ok (.isub, 1) := by decide +kernel
theorem dX12_op_8 : decode cX12_op 8 = .ok (.invokestatic 278, 3) := by decide +kernel
theorem dX12_op_11 : decode cX12_op 11 = .ok (.ifCond .ne 5, 3) := by decide +kernel
theorem dX12_op_14 : decode cX12_op 14 = .ok (.iconst (-1), 1) := by decide +kernel
theorem dX12_op_15 : decode cX12_op 15 = .ok (.ireturn, 1) := by decide +kernel
theorem dX12_op_16 : decode cX12_op 16 = .ok (.iload_n 2, 1) := by decide +kernel
theorem dX12_op_17 : decode cX12_op 17 = .ok (.iconst 0, 1) := by decide +kernel
theorem dX12_op_18 : decode cX12_op 18 = .ok (.bipush 15, 2) := by decide +kernel
theorem dX12_op_20 : decode cX12_op 20 = .ok (.invokestatic 278, 3) := by decide +kernel
theorem dX12_op_23 : decode cX12_op 23 = .ok (.ifCond .ne 6, 3) := by decide +kernel
theorem dX12_op_26 : decode cX12_op 26 = .ok (.bipush (-2), 2) := by decide +kernel
theorem dX12_op_28 : decode cX12_op 28 = .ok (.ireturn, 1) := by decide +kernel
theorem dX12_op_29 : decode cX12_op 29 = .ok (.aload_n 0, 1) := by decide +kernel
theorem dX12_op_30 : decode cX12_op 30 = .ok (.getfield 180, 3) := by decide +kernel
theorem dX12_op_33 : decode cX12_op 33 = .ok (.iload_n 1, 1) := by decide +kernel
theorem dX12_op_34 : decode cX12_op 34 = .ok (.iaload, 1) := by decide +kernel
theorem dX12_op_35 : decode cX12_op 35 = .ok (.bipush 10, 2) := by decide +kernel
theorem dX12_op_37 : decode cX12_op 37 = .ok (.if_icmp .ne 6, 3) := by decide +kernel
theorem dX12_op_40 : decode cX12_op 40 = .ok (.bipush (-4), 2) := by decide +kernel
theorem dX12_op_42 : decode cX12_op 42 = .ok (.ireturn, 1) := by decide +kernel
theorem dX12_op_43 : decode cX12_op 43 = .ok (.bipush 10, 2) := by decide +kernel
theorem dX12_op_45 : decode cX12_op 45 = .ok (.iload_n 1, 1) := by decide +kernel
theorem dX12_op_46 : decode cX12_op 46 = .ok (.imul, 1) := by decide +kernel
theorem dX12_op_47 : decode cX12_op 47 = .ok (.aload_n 0, 1) := by decide +kernel
theorem dX12_op_48 : decode cX12_op 48 = .ok (.getfield 180, 3) := by decide +kernel
theorem dX12_op_51 : decode cX12_op 51 = .ok (.iload_n 1, 1) := by decide +kernel
theorem dX12_op_52 : decode cX12_op 52 = .ok (.iaload, 1) := by decide +kernel
theorem dX12_op_53 : decode cX12_op 53 = .ok (.iadd, 1) := by decide +kernel
theorem dX12_op_54 : decode cX12_op 54 = .ok (.istore 5, 2) := by decide +kernel
theorem dX12_op_56 : decode cX12_op 56 = .ok (.aload_n 0, 1) := by decide +kernel
theorem dX12_op_57 : decode cX12_op 57 = .ok (.getfield 183, 3) := by decide +kernel
theorem dX12_op_60 : decode cX12_op 60 = .ok (.iload 5, 2) := by decide +kernel
theorem dX12_op_62 : decode cX12_op 62 = .ok (.iload_n 2, 1) := by decide +kernel
theorem dX12_op_63 : decode cX12_op 63 = .ok (.iastore, 1) := by decide +kernel
theorem dX12_op_64 : decode cX12_op 64 = .ok (.aload_n 0, 1) := by decide +kernel
theorem dX12_op_65 : decode cX12_op 65 = .ok (.getfield 186, 3) := by decide +kernel
theorem dX12_op_68 : decode cX12_op 68 = .ok (.iload 5, 2) := by decide +kernel
theorem dX12_op_70 : decode cX12_op 70 = .ok (.iload_n 3, 1) := by decide +kernel
theorem dX12_op_71 : decode cX12_op 71 = .ok (.iastore, 1) := by decide +kernel
theorem dX12_op_72 : decode cX12_op 72 = .ok (.aload_n 0, 1) := by decide +kernel
theorem dX12_op_73 : decode cX12_op 73 = .ok (.getfield 189, 3) := by decide +kernel
theorem dX12_op_76 : decode cX12_op 76 = .ok (.iload 5, 2) := by decide +kernel
theorem dX12_op_78 : decode cX12_op 78 = .ok (.iload 4, 2) := by decide +kernel
theorem dX12_op_80 : decode cX12_op 80 = .ok (.iastore, 1) := by decide +kernel
theorem dX12_op_81 : decode cX12_op 81 = .ok (.aload_n 0, 1) := by decide +kernel
theorem dX12_op_82 : decode cX12_op 82 = .ok (.getfield 180, 3) := by decide +kernel
theorem dX12_op_85 : decode cX12_op 85 = .ok (.iload_n 1, 1) := by decide +kernel
theorem dX12_op_86 : decode cX12_op 86 = .ok (.dup2, 1) := by decide +kernel
theorem dX12_op_87 : decode cX12_op 87 = .ok (.iaload, 1) := by decide +kernel
theorem dX12_op_88 : decode cX12_op 88 = .ok (.iconst 1, 1) := by decide +kernel
theorem dX12_op_89 : decode cX12_op 89 = .ok (.iadd, 1) := by decide +kernel
theorem dX12_op_90 : decode cX12_op 90 = .ok (.iastore, 1) := by decide +kernel
theorem dX12_op_91 : decode cX12_op 91 = .ok (.aload_n 0, 1) := by decide +kernel
theorem dX12_op_92 : decode cX12_op 92 = .ok (.getfield 180, 3) := by decide +kernel
theorem dX12_op_95 : decode cX12_op 95 = .ok (.iload_n 1, 1) := by decide +kernel
theorem dX12_op_96 : decode cX12_op 96 = .ok (.iaload, 1) := by decide +kernel
theorem dX12_op_97 : decode cX12_op 97 = .ok (.ireturn, 1) := by decide +kernel
def M_X12_op : y_M := (yX12_op, cX12_op, 6, (Option.some Jvm.ClassFile.FieldType.int))
theorem n_X12_op : y_N0 M_X12_op 4 := ⟨(c_10 54 (by decide +kernel) rfl), (c_1 9 (by decide +kernel) rfl), ⟨by decide +kernel, by decide +kernel⟩, by decide +kernel⟩
theorem F_BoxYardModel_183 : y_F "BoxYardModel" 183 12 74 := ⟨_, _, _, rfl, by decide, Or.inl (c_7 196 (by decide +kernel) rfl)⟩
theorem F_BoxYardModel_186 : y_F "BoxYardModel" 186 12 75 := ⟨_, _, _, rfl, by decide, Or.inl (c_7 197 (by decide +kernel) rfl)⟩
theorem F_BoxYardModel_189 : y_F "BoxYardModel" 189 12 76 := ⟨_, _, _, rfl, by decide, Or.inl (c_7 198 (by decide +kernel) rfl)⟩
set_option maxRecDepth 100000 in
def f_X12_op (p0 : Nat) (p1 : Int32) (p2 : Int32) (p3 : Int32) (p4 : Int32) (h : y_H) : Option (Int32 × y_H) :=
  if y_K h p0 = 13 then
  y_cl (f_X12_in p1 0 ((y_I h p0 72) - 1) h) (fun r1 h2 =>
  if r1 = true then
    y_cl (f_X12_in p2 0 15 h2) (fun r4 h5 =>
    if r4 = true then
      if y_K h5 p0 = 13 then
      if y_K h5 (y_P h5 p0 73) = 100 ∧ y_ix p1 (y_N h5 (y_P h5 p0 73)) = true then
      if (y_I h5 (y_P h5 p0 73) (Int32.toNatClampNeg p1)) = 10 then
        some ((-4 : Int32), h5)
      else
        if y_K h5 p0 = 13 then
        if y_K h5 (y_P h5 p0 73) = 100 ∧ y_ix p1 (y_N h5 (y_P h5 p0 73)) = true then
        if y_K h5 p0 = 13 then
        if y_K h5 (y_P h5 p0 74) = 100 ∧ y_ix ((10 * p1) + (y_I h5 (y_P h5 p0 73) (Int32.toNatClampNeg p1))) (y_N h5 (y_P h5 p0 74)) = true then
        y_bd (s_I h5 (y_P h5 p0 74) (Int32.toNatClampNeg ((10 * p1) + (y_I h5 (y_P h5 p0 73) (Int32.toNatClampNeg p1)))) p2) (fun h7 =>
        if y_K h7 p0 = 13 then
        if y_K h7 (y_P h7 p0 75) = 100 ∧ y_ix ((10 * p1) + (y_I h5 (y_P h5 p0 73) (Int32.toNatClampNeg p1))) (y_N h7 (y_P h7 p0 75)) = true then
        y_bd (s_I h7 (y_P h7 p0 75) (Int32.toNatClampNeg ((10 * p1) + (y_I h5 (y_P h5 p0 73) (Int32.toNatClampNeg p1)))) p3) (fun h10 =>
        if y_K h10 p0 = 13 then
        if y_K h10 (y_P h10 p0 76) = 100 ∧ y_ix ((10 * p1) + (y_I h5 (y_P h5 p0 73) (Int32.toNatClampNeg p1))) (y_N h10 (y_P h10 p0 76)) = true then
        y_bd (s_I h10 (y_P h10 p0 76) (Int32.toNatClampNeg ((10 * p1) + (y_I h5 (y_P h5 p0 73) (Int32.toNatClampNeg p1)))) p4) (fun h13 =>
        if y_K h13 p0 = 13 then
        if y_K h13 (y_P h13 p0 73) = 100 ∧ y_ix p1 (y_N h13 (y_P h13 p0 73)) = true then
        if y_K h13 (y_P h13 p0 73) = 100 ∧ y_ix p1 (y_N h13 (y_P h13 p0 73)) = true then
        y_bd (s_I h13 (y_P h13 p0 73) (Int32.toNatClampNeg p1) ((y_I h13 (y_P h13 p0 73) (Int32.toNatClampNeg p1)) + 1)) (fun h16 =>
        if y_K h16 p0 = 13 then
        if y_K h16 (y_P h16 p0 73) = 100 ∧ y_ix p1 (y_N h16 (y_P h16 p0 73)) = true then
        some (y_I h16 (y_P h16 p0 73) (Int32.toNatClampNeg p1), h16)
        else none
        else none)
        else none
        else none
        else none)
        else none
        else none)
        else none
        else none)
        else none
        else none
        else none
        else none
      else none
      else none
    else
      some ((-2 : Int32), h5))
  else
    some ((-1 : Int32), h2))
  else none
abbrev rm_X12_op : Room := { frames := 1, cells := 0, slots := 0, locals := 22 }
set_option maxRecDepth 100000 in
set_option maxHeartbeats 4000000 in
theorem k_X12_op {l : Launch} {G : y_G} {p0 : Nat} {p1 : Int32} {p2 : Int32} {p3 : Int32} {p4 : Int32} {h hz : y_H} {rz : Int32} (hf : f_X12_op p0 p1 p2 p3 p4 h = some (rz, hz)) : y_S l G M_X12_op rm_X12_op [y_p p0, .int p1, .int p2, .int p3, .int p4] h (some (.int rz)) hz := by
  refine y_start (lv := [(0, y_p p0), (1, .int p1), (2, .int p2), (3, .int p3), (4, .int p4)]) (by decide) (by simp [lg_sl, y_p_cat, y_ci, y_cj, M_X12_op]) (by simp [lv_args, y_p_cat, y_ci, y_cj]) (fun z ad0 => ?_)
  unfold f_X12_op at hf
  refine y_iload_n (pc2 := 1) rfl dX12_op_0 rfl ?_
  refine y_iconst (v := 0) (pc2 := 2) rfl dX12_op_1 (by decide) ?_
  refine y_aload_n (x := p0) (pc2 := 3) rfl dX12_op_2 rfl ?_
  obtain ⟨g33, hf⟩ := y_g hf
  refine y_getI (pc2 := 6) rfl dX12_op_3 F_BoxYardModel_267 (by decide) rfl g33 ?_
  refine y_iconst (v := 1) (pc2 := 7) rfl dX12_op_6 (by decide) ?_
  refine y_isub (pc2 := 8) rfl dX12_op_7 ?_
  obtain ⟨r1, h2, c3, hf⟩ := y_clE hf
  refine y_callS (As := [.int p1, .int 0, .int ((y_I h p0 72) - 1)]) (rm := rm_X12_in) (cells := 0) (slots := 0) (pc2 := 11) rfl dX12_op_8 n_X12_in l_BoxYardModel_278 t_X12_in rfl rfl (by decide) (by decide) (by decide) (k_X12_in c3) ?_
  refine y_ifz_ne (tgt := 16) (pc2 := 14) rfl dX12_op_11 (by decide) (fun c32 => ?_) (fun c32 => ?_)
  · replace hf := y_it c32 hf
    refine y_iload_n (pc2 := 17) rfl dX12_op_16 rfl ?_
    refine y_iconst (v := 0) (pc2 := 18) rfl dX12_op_17 (by decide) ?_
    refine y_bipush (v := 15) (pc2 := 20) rfl dX12_op_18 (by decide) ?_
    obtain ⟨r4, h5, c6, hf⟩ := y_clE hf
    refine y_callS (As := [.int p2, .int 0, .int 15]) (rm := rm_X12_in) (cells := 0) (slots := 0) (pc2 := 23) rfl dX12_op_20 n_X12_in l_BoxYardModel_278 t_X12_in rfl rfl (by decide) (by decide) (by decide) (k_X12_in c6) ?_
    refine y_ifz_ne (tgt := 29) (pc2 := 26) rfl dX12_op_23 (by decide) (fun c31 => ?_) (fun c31 => ?_)
    · replace hf := y_it c31 hf
      refine y_aload_n (x := p0) (pc2 := 30) rfl dX12_op_29 rfl ?_
      obtain ⟨g30, hf⟩ := y_g hf
      refine y_getP (pc2 := 33) rfl dX12_op_30 F_BoxYardModel_180 (by decide) rfl g30 ?_
      refine y_iload_n (pc2 := 34) rfl dX12_op_33 rfl ?_
      obtain ⟨g29, hf⟩ := y_g hf
      refine y_iald (pc2 := 35) rfl dX12_op_34 g29.1 (y_ix_in g29.2) ?_
      refine y_bipush (v := 10) (pc2 := 37) rfl dX12_op_35 (by decide) ?_
      refine y_icmp_ne (tgt := 43) (pc2 := 40) rfl dX12_op_37 (by decide) (fun c28 => ?_) (fun c28 => ?_)
      · replace hf := y_ie c28 hf
        refine y_bipush (v := 10) (pc2 := 45) rfl dX12_op_43 (by decide) ?_
        refine y_iload_n (pc2 := 46) rfl dX12_op_45 rfl ?_
        refine y_imul (pc2 := 47) rfl dX12_op_46 ?_
        refine y_aload_n (x := p0) (pc2 := 48) rfl dX12_op_47 rfl ?_
        obtain ⟨g27, hf⟩ := y_g hf
        refine y_getP (pc2 := 51) rfl dX12_op_48 F_BoxYardModel_180 (by decide) rfl g27 ?_
        refine y_iload_n (pc2 := 52) rfl dX12_op_51 rfl ?_
        obtain ⟨g26, hf⟩ := y_g hf
        refine y_iald (pc2 := 53) rfl dX12_op_52 g26.1 (y_ix_in g26.2) ?_
        refine y_iadd (pc2 := 54) rfl dX12_op_53 ?_
        refine y_istore (lv' := [(5, .int ((10 * p1) + (y_I h5 (y_P h5 p0 73) (Int32.toNatClampNeg p1)))), (0, y_p p0), (1, .int p1), (2, .int p2), (3, .int p3), (4, .int p4)]) (pc2 := 56) rfl dX12_op_54 (by decide) rfl ?_
        refine y_aload_n (x := p0) (pc2 := 57) rfl dX12_op_56 rfl ?_
        obtain ⟨g25, hf⟩ := y_g hf
        refine y_getP (pc2 := 60) rfl dX12_op_57 F_BoxYardModel_183 (by decide) rfl g25 ?_
        refine y_iload (pc2 := 62) rfl dX12_op_60 rfl ?_
        refine y_iload_n (pc2 := 63) rfl dX12_op_62 rfl ?_
        obtain ⟨g9, hf⟩ := y_g hf
        obtain ⟨h7, e8, hf⟩ := y_bdE hf
        refine y_iast (x := p2) (pc2 := 64) rfl dX12_op_63 g9.1 (y_ix_in g9.2) e8 ?_
        refine y_aload_n (x := p0) (pc2 := 65) rfl dX12_op_64 rfl ?_
        obtain ⟨g24, hf⟩ := y_g hf
        refine y_getP (pc2 := 68) rfl dX12_op_65 F_BoxYardModel_186 (by decide) rfl g24 ?_
        refine y_iload (pc2 := 70) rfl dX12_op_68 rfl ?_
        refine y_iload_n (pc2 := 71) rfl dX12_op_70 rfl ?_
        obtain ⟨g12, hf⟩ := y_g hf
        obtain ⟨h10, e11, hf⟩ := y_bdE hf
        refine y_iast (x := p3) (pc2 := 72) rfl dX12_op_71 g12.1 (y_ix_in g12.2) e11 ?_
        refine y_aload_n (x := p0) (pc2 := 73) rfl dX12_op_72 rfl ?_
        obtain ⟨g23, hf⟩ := y_g hf
        refine y_getP (pc2 := 76) rfl dX12_op_73 F_BoxYardModel_189 (by decide) rfl g23 ?_
        refine y_iload (pc2 := 78) rfl dX12_op_76 rfl ?_
        refine y_iload (pc2 := 80) rfl dX12_op_78 rfl ?_
        obtain ⟨g15, hf⟩ := y_g hf
        obtain ⟨h13, e14, hf⟩ := y_bdE hf
        refine y_iast (x := p4) (pc2 := 81) rfl dX12_op_80 g15.1 (y_ix_in g15.2) e14 ?_
        refine y_aload_n (x := p0) (pc2 := 82) rfl dX12_op_81 rfl ?_
        obtain ⟨g22, hf⟩ := y_g hf
        refine y_getP (pc2 := 85) rfl dX12_op_82 F_BoxYardModel_180 (by decide) rfl g22 ?_
        refine y_iload_n (pc2 := 86) rfl dX12_op_85 rfl ?_
        refine y_dup2 (pc2 := 87) rfl dX12_op_86 rfl (y_p_cat _) ?_
        obtain ⟨g21, hf⟩ := y_g hf
        refine y_iald (pc2 := 88) rfl dX12_op_87 g21.1 (y_ix_in g21.2) ?_
        refine y_iconst (v := 1) (pc2 := 89) rfl dX12_op_88 (by decide) ?_
        refine y_iadd (pc2 := 90) rfl dX12_op_89 ?_
        obtain ⟨g18, hf⟩ := y_g hf
        obtain ⟨h16, e17, hf⟩ := y_bdE hf
        refine y_iast (x := (y_I h13 (y_P h13 p0 73) (Int32.toNatClampNeg p1)) + 1) (pc2 := 91) rfl dX12_op_90 g18.1 (y_ix_in g18.2) e17 ?_
        refine y_aload_n (x := p0) (pc2 := 92) rfl dX12_op_91 rfl ?_
        obtain ⟨g20, hf⟩ := y_g hf
        refine y_getP (pc2 := 95) rfl dX12_op_92 F_BoxYardModel_180 (by decide) rfl g20 ?_
        refine y_iload_n (pc2 := 96) rfl dX12_op_95 rfl ?_
        obtain ⟨g19, hf⟩ := y_g hf
        refine y_iald (pc2 := 97) rfl dX12_op_96 g19.1 (y_ix_in g19.2) ?_
        exact y_iretF hf dX12_op_97 rfl (by decide) (by decide)
      · replace hf := y_it c28 hf
        refine y_bipush (v := (-4 : Int32)) (pc2 := 42) rfl dX12_op_40 (by decide) ?_
        exact y_iretF hf dX12_op_42 rfl (by decide) (by decide)
    · replace hf := y_ie c31 hf
      refine y_bipush (v := (-2 : Int32)) (pc2 := 28) rfl dX12_op_26 (by decide) ?_
      exact y_iretF hf dX12_op_28 rfl (by decide) (by decide)
  · replace hf := y_ie c32 hf
    refine y_iconst (v := (-1 : Int32)) (pc2 := 15) rfl dX12_op_14 (by decide) ?_
    exact y_iretF hf dX12_op_15 rfl (by decide) (by decide)
theorem dX12_push_0 : decode cX12_push 0 = .ok (.aload_n 0, 1) := by decide +kernel
theorem dX12_push_1 : decode cX12_push 1 = .ok (.getfield 207, 3) := by decide +kernel
theorem dX12_push_4 : decode cX12_push 4 = .ok (.aload_n 0, 1) := by decide +kernel
theorem dX12_push_5 : decode cX12_push 5 = .ok (.getfield 482, 3) := by decide +kernel
theorem dX12_push_8 : decode cX12_push 8 = .ok (.iload_n 1, 1) := by decide +kernel
theorem dX12_push_9 : decode cX12_push 9 = .ok (.iastore, 1) := by decide +kernel
theorem dX12_push_10 : decode cX12_push 10 = .ok (.aload_n 0, 1) := by decide +kernel
theorem dX12_push_11 : decode cX12_push 11 = .ok (.getfield 210, 3) := by decide +kernel
theorem dX12_push_14 : decode cX12_push 14 = .ok (.aload_n 0, 1) := by decide +kernel
theorem dX12_push_15 : decode cX12_push 15 = .ok (.getfield 482, 3) := by decide +kernel
theorem dX12_push_18 : decode cX12_push 18 = .ok (.iload_n 2, 1) := by decide +kernel
theorem dX12_push_19 : decode cX12_push 19 = .ok (.iastore, 1) := by decide +kernel
theorem dX12_push_20 : decode cX12_push 20 = .ok (.aload_n 0, 1) := by decide +kernel
theorem dX12_push_21 : decode cX12_push 21 = .ok (.getfield 213, 3) := by decide +kernel
theorem dX12_push_24 : decode cX12_push 24 = .ok (.aload_n 0, 1) := by decide +kernel
theorem dX12_push_25 : decode cX12_push 25 = .ok (.getfield 482, 3) := by decide +kernel
theorem dX12_push_28 : decode cX12_push 28 = .ok (.iload_n 3, 1) := by decide +kernel
theorem dX12_push_29 : decode cX12_push 29 = .ok (.iastore, 1) := by decide +kernel
theorem dX12_push_30 : decode cX12_push 30 = .ok (.aload_n 0, 1) := by decide +kernel
theorem dX12_push_31 : decode cX12_push 31 = .ok (.getfield 216, 3) := by decide +kernel
theorem dX12_push_34 : decode cX12_push 34 = .ok (.aload_n 0, 1) := by decide +kernel
theorem dX12_push_35 : decode cX12_push 35 = .ok (.getfield 482, 3) := by decide +kernel
theorem dX12_push_38 : decode cX12_push 38 = .ok (.iconst 0, 1) := by decide +kernel
theorem dX12_push_39 : decode cX12_push 39 = .ok (.iastore, 1) := by decide +kernel
theorem dX12_push_40 : decode cX12_push 40 = .ok (.aload_n 0, 1) := by decide +kernel
theorem dX12_push_41 : decode cX12_push 41 = .ok (.dup, 1) := by decide +kernel
theorem dX12_push_42 : decode cX12_push 42 = .ok (.getfield 482, 3) := by decide +kernel
theorem dX12_push_45 : decode cX12_push 45 = .ok (.iconst 1, 1) := by decide +kernel
theorem dX12_push_46 : decode cX12_push 46 = .ok (.iadd, 1) := by decide +kernel
theorem dX12_push_47 : decode cX12_push 47 = .ok (.putfield 482, 3) := by decide +kernel
theorem dX12_push_50 : decode cX12_push 50 = .ok (.return_, 1) := by decide +kernel
def M_X12_push : y_M := (yX12_push, cX12_push, 4, (Option.none : Option Jvm.ClassFile.FieldType))
theorem n_X12_push : y_N0 M_X12_push 3 := ⟨(c_10 66 (by decide +kernel) rfl), (c_1 9 (by decide +kernel) rfl), ⟨by decide +kernel, by decide +kernel⟩, by decide +kernel⟩
theorem F_BoxYardModel_207 : y_F "BoxYardModel" 207 12 86 := ⟨_, _, _, rfl, by decide, Or.inl (c_7 208 (by decide +kernel) rfl)⟩
theorem F_BoxYardModel_482 : y_F "BoxYardModel" 482 12 85 := ⟨_, _, _, rfl, by decide, Or.inl (c_7 207 (by decide +kernel) rfl)⟩
theorem F_BoxYardModel_210 : y_F "BoxYardModel" 210 12 87 := ⟨_, _, _, rfl, by decide, Or.inl (c_7 209 (by decide +kernel) rfl)⟩
theorem F_BoxYardModel_213 : y_F "BoxYardModel" 213 12 88 := ⟨_, _, _, rfl, by decide, Or.inl (c_7 210 (by decide +kernel) rfl)⟩
theorem F_BoxYardModel_216 : y_F "BoxYardModel" 216 12 89 := ⟨_, _, _, rfl, by decide, Or.inl (c_7 211 (by decide +kernel) rfl)⟩
theorem Fp_BoxYardModel_482 {nm : String} : y_Fp "BoxYardModel" nm 482 12 85 := ⟨_, _, _, rfl, by decide, Or.inl ⟨rfl, Or.inl (c_7 207 (by decide +kernel) rfl)⟩⟩
set_option maxRecDepth 100000 in
def f_X12_push (p0 : Nat) (p1 : Int32) (p2 : Int32) (p3 : Int32) (h : y_H) : Option (Unit × y_H) :=
  if y_K h p0 = 13 then
  if y_K h p0 = 13 then
  if y_K h (y_P h p0 86) = 100 ∧ y_ix (y_I h p0 85) (y_N h (y_P h p0 86)) = true then
  y_bd (s_I h (y_P h p0 86) (Int32.toNatClampNeg (y_I h p0 85)) p1) (fun h1 =>
  if y_K h1 p0 = 13 then
  if y_K h1 p0 = 13 then
  if y_K h1 (y_P h1 p0 87) = 100 ∧ y_ix (y_I h1 p0 85) (y_N h1 (y_P h1 p0 87)) = true then
  y_bd (s_I h1 (y_P h1 p0 87) (Int32.toNatClampNeg (y_I h1 p0 85)) p2) (fun h4 =>
  if y_K h4 p0 = 13 then
  if y_K h4 p0 = 13 then
  if y_K h4 (y_P h4 p0 88) = 100 ∧ y_ix (y_I h4 p0 85) (y_N h4 (y_P h4 p0 88)) = true then
  y_bd (s_I h4 (y_P h4 p0 88) (Int32.toNatClampNeg (y_I h4 p0 85)) p3) (fun h7 =>
  if y_K h7 p0 = 13 then
  if y_K h7 p0 = 13 then
  if y_K h7 (y_P h7 p0 89) = 100 ∧ y_ix (y_I h7 p0 85) (y_N h7 (y_P h7 p0 89)) = true then
  y_bd (s_I h7 (y_P h7 p0 89) (Int32.toNatClampNeg (y_I h7 p0 85)) 0) (fun h10 =>
  if y_K h10 p0 = 13 then
  if y_K h10 p0 = 13 then
  y_bd (s_I h10 p0 85 ((y_I h10 p0 85) + 1)) (fun h13 =>
  some ((), h13))
  else none
  else none)
  else none
  else none
  else none)
  else none
  else none
  else none)
  else none
  else none
  else none)
  else none
  else none
  else none
abbrev rm_X12_push : Room := { frames := 0, cells := 0, slots := 0, locals := 0 }
set_option maxRecDepth 100000 in
set_option maxHeartbeats 4000000 in
theorem k_X12_push {l : Launch} {G : y_G} {p0 : Nat} {p1 : Int32} {p2 : Int32} {p3 : Int32} {h hz : y_H} {rz : Unit} (hf : f_X12_push p0 p1 p2 p3 h = some (rz, hz)) : y_S l G M_X12_push rm_X12_push [y_p p0, .int p1, .int p2, .int p3] h none hz := by
  refine y_start (lv := [(0, y_p p0), (1, .int p1), (2, .int p2), (3, .int p3)]) (by decide) (by simp [lg_sl, y_p_cat, y_ci, y_cj, M_X12_push]) (by simp [lv_args, y_p_cat, y_ci, y_cj]) (fun z ad0 => ?_)
  unfold f_X12_push at hf
  refine y_aload_n (x := p0) (pc2 := 1) rfl dX12_push_0 rfl ?_
  obtain ⟨g24, hf⟩ := y_g hf
  refine y_getP (pc2 := 4) rfl dX12_push_1 F_BoxYardModel_207 (by decide) rfl g24 ?_
  refine y_aload_n (x := p0) (pc2 := 5) rfl dX12_push_4 rfl ?_
  obtain ⟨g23, hf⟩ := y_g hf
  refine y_getI (pc2 := 8) rfl dX12_push_5 F_BoxYardModel_482 (by decide) rfl g23 ?_
  refine y_iload_n (pc2 := 9) rfl dX12_push_8 rfl ?_
  obtain ⟨g3, hf⟩ := y_g hf
  obtain ⟨h1, e2, hf⟩ := y_bdE hf
  refine y_iast (x := p1) (pc2 := 10) rfl dX12_push_9 g3.1 (y_ix_in g3.2) e2 ?_
  refine y_aload_n (x := p0) (pc2 := 11) rfl dX12_push_10 rfl ?_
  obtain ⟨g22, hf⟩ := y_g hf
  refine y_getP (pc2 := 14) rfl dX12_push_11 F_BoxYardModel_210 (by decide) rfl g22 ?_
  refine y_aload_n (x := p0) (pc2 := 15) rfl dX12_push_14 rfl ?_
  obtain ⟨g21, hf⟩ := y_g hf
  refine y_getI (pc2 := 18) rfl dX12_push_15 F_BoxYardModel_482 (by decide) rfl g21 ?_
  refine y_iload_n (pc2 := 19) rfl dX12_push_18 rfl ?_
  obtain ⟨g6, hf⟩ := y_g hf
  obtain ⟨h4, e5, hf⟩ := y_bdE hf
  refine y_iast (x := p2) (pc2 := 20) rfl dX12_push_19 g6.1 (y_ix_in g6.2) e5 ?_
  refine y_aload_n (x := p0) (pc2 := 21) rfl dX12_push_20 rfl ?_
  obtain ⟨g20, hf⟩ := y_g hf
  refine y_getP (pc2 := 24) rfl dX12_push_21 F_BoxYardModel_213 (by decide) rfl g20 ?_
  refine y_aload_n (x := p0) (pc2 := 25) rfl dX12_push_24 rfl ?_
  obtain ⟨g19, hf⟩ := y_g hf
  refine y_getI (pc2 := 28) rfl dX12_push_25 F_BoxYardModel_482 (by decide) rfl g19 ?_
  refine y_iload_n (pc2 := 29) rfl dX12_push_28 rfl ?_
  obtain ⟨g9, hf⟩ := y_g hf
  obtain ⟨h7, e8, hf⟩ := y_bdE hf
  refine y_iast (x := p3) (pc2 := 30) rfl dX12_push_29 g9.1 (y_ix_in g9.2) e8 ?_
  refine y_aload_n (x := p0) (pc2 := 31) rfl dX12_push_30 rfl ?_
  obtain ⟨g18, hf⟩ := y_g hf
  refine y_getP (pc2 := 34) rfl dX12_push_31 F_BoxYardModel_216 (by decide) rfl g18 ?_
  refine y_aload_n (x := p0) (pc2 := 35) rfl dX12_push_34 rfl ?_
  obtain ⟨g17, hf⟩ := y_g hf
  refine y_getI (pc2 := 38) rfl dX12_push_35 F_BoxYardModel_482 (by decide) rfl g17 ?_
  refine y_iconst (v := 0) (pc2 := 39) rfl dX12_push_38 (by decide) ?_
  obtain ⟨g12, hf⟩ := y_g hf
  obtain ⟨h10, e11, hf⟩ := y_bdE hf
  refine y_iast (x := 0) (pc2 := 40) rfl dX12_push_39 g12.1 (y_ix_in g12.2) e11 ?_
  refine y_aload_n (x := p0) (pc2 := 41) rfl dX12_push_40 rfl ?_
  refine y_dup (pc2 := 42) rfl dX12_push_41 (y_p_cat _) ?_
  obtain ⟨g16, hf⟩ := y_g hf
  refine y_getI (pc2 := 45) rfl dX12_push_42 F_BoxYardModel_482 (by decide) rfl g16 ?_
  refine y_iconst (v := 1) (pc2 := 46) rfl dX12_push_45 (by decide) ?_
  refine y_iadd (pc2 := 47) rfl dX12_push_46 ?_
  obtain ⟨g15, hf⟩ := y_g hf
  obtain ⟨h13, e14, hf⟩ := y_bdE hf
  refine y_putI (x := (y_I h10 p0 85) + 1) (pc2 := 50) rfl dX12_push_47 Fp_BoxYardModel_482 (by decide) rfl g15 e14 ?_
  exact y_vretF hf dX12_push_50 rfl (by decide) (by decide)
theorem dX12_stretch_0 : decode cX12_stretch 0 = .ok (.aload_n 0, 1) := by decide +kernel
theorem dX12_stretch_1 : decode cX12_stretch 1 = .ok (.getfield 210, 3) := by decide +kernel
theorem dX12_stretch_4 : decode cX12_stretch 4 = .ok (.aload_n 0, 1) := by decide +kernel
theorem dX12_stretch_5 : decode cX12_stretch 5 = .ok (.getfield 482, 3) := by decide +kernel
theorem dX12_stretch_8 : decode cX12_stretch 8 = .ok (.iconst 1, 1) := by decide +kernel
theorem dX12_stretch_9 : decode cX12_stretch 9 = .ok (.isub, 1) := by decide +kernel
theorem dX12_stretch_10 : decode cX12_stretch 10 = .ok (.iaload, 1) := by decide +kernel
theorem dX12_stretch_11 : decode cX12_stretch 11 = .ok (.istore_n 3, 1) := by decide +kernel
theorem dX12_stretch_12 : decode cX12_stretch 12 = .ok (.iload_n 2, 1) := by decide +kernel
theorem dX12_stretch_13 : decode cX12_stretch 13 = .ok (.ifCond .gt 7, 3) := by decide +kernel
theorem dX12_stretch_16 : decode cX12_stretch 16 = .ok (.iload_n 1, 1) := by decide +kernel
theorem dX12_stretch_17 : decode cX12_stretch 17 = .ok (.goto 17, 3) := by decide +kernel
theorem dX12_stretch_20 : decode cX12_stretch 20 = .ok (.iload_n 2, 1) := by decide +kernel
theorem dX12_stretch_21 : decode cX12_stretch 21 = .ok (.iload_n 3, 1) := by decide +kernel
theorem dX12_stretch_22 : decode cX12_stretch 22 = .ok (.iload_n 1, 1) := by decide +kernel
theorem dX12_stretch_23 : decode cX12_stretch 23 = .ok (.isub, 1) := by decide +kernel
theorem dX12_stretch_24 : decode cX12_stretch 24 = .ok (.if_icmp .le 7, 3) := by decide +kernel
theorem dX12_stretch_27 : decode cX12_stretch 27 = .ok (.iload_n 3, 1) := by decide +kernel
theorem dX12_stretch_28 : decode cX12_stretch 28 = .ok (.goto 6, 3) := by decide +kernel
theorem dX12_stretch_31 : decode cX12_stretch 31 = .ok (.iload_n 1, 1) := by decide +kernel
theorem dX12_stretch_32 : decode cX12_stretch 32 = .ok (.iload_n 2, 1) := by decide +kernel
theorem dX12_stretch_33 : decode cX12_stretch 33 = .ok (.iadd, 1) := by decide +kernel
theorem dX12_stretch_34 : decode cX12_stretch 34 = .ok (.ireturn, 1) := by decide +kernel
def M_X12_stretch : y_M := (yX12_stretch, cX12_stretch, 4, (Option.some Jvm.ClassFile.FieldType.int))
theorem n_X12_stretch : y_N0 M_X12_stretch 2 := ⟨(c_10 70 (by decide +kernel) rfl), (c_1 9 (by decide +kernel) rfl), ⟨by decide +kernel, by decide +kernel⟩, by decide +kernel⟩
set_option maxRecDepth 100000 in
def f_X12_stretch (p0 : Nat) (p1 : Int32) (p2 : Int32) (h : y_H) : Option (Int32 × y_H) :=
  if y_K h p0 = 13 then
  if y_K h p0 = 13 then
  if y_K h (y_P h p0 87) = 100 ∧ y_ix ((y_I h p0 85) - 1) (y_N h (y_P h p0 87)) = true then
  if 0 < p2 then
    if p2 ≤ ((y_I h (y_P h p0 87) (Int32.toNatClampNeg ((y_I h p0 85) - 1))) - p1) then
      some (p1 + p2, h)
    else
      some (y_I h (y_P h p0 87) (Int32.toNatClampNeg ((y_I h p0 85) - 1)), h)
  else
    some (p1, h)
  else none
  else none
  else none
abbrev rm_X12_stretch : Room := { frames := 0, cells := 0, slots := 0, locals := 0 }
set_option maxRecDepth 100000 in
set_option maxHeartbeats 4000000 in
theorem k_X12_stretch {l : Launch} {G : y_G} {p0 : Nat} {p1 : Int32} {p2 : Int32} {h hz : y_H} {rz : Int32} (hf : f_X12_stretch p0 p1 p2 h = some (rz, hz)) : y_S l G M_X12_stretch rm_X12_stretch [y_p p0, .int p1, .int p2] h (some (.int rz)) hz := by
  refine y_start (lv := [(0, y_p p0), (1, .int p1), (2, .int p2)]) (by decide) (by simp [lg_sl, y_p_cat, y_ci, y_cj, M_X12_stretch]) (by simp [lv_args, y_p_cat, y_ci, y_cj]) (fun z ad0 => ?_)
  unfold f_X12_stretch at hf
  refine y_aload_n (x := p0) (pc2 := 1) rfl dX12_stretch_0 rfl ?_
  obtain ⟨g5, hf⟩ := y_g hf
  refine y_getP (pc2 := 4) rfl dX12_stretch_1 F_BoxYardModel_210 (by decide) rfl g5 ?_
  refine y_aload_n (x := p0) (pc2 := 5) rfl dX12_stretch_4 rfl ?_
  obtain ⟨g4, hf⟩ := y_g hf
  refine y_getI (pc2 := 8) rfl dX12_stretch_5 F_BoxYardModel_482 (by decide) rfl g4 ?_
  refine y_iconst (v := 1) (pc2 := 9) rfl dX12_stretch_8 (by decide) ?_
  refine y_isub (pc2 := 10) rfl dX12_stretch_9 ?_
  obtain ⟨g3, hf⟩ := y_g hf
  refine y_iald (pc2 := 11) rfl dX12_stretch_10 g3.1 (y_ix_in g3.2) ?_
  refine y_istore_n (lv' := [(3, .int (y_I h (y_P h p0 87) (Int32.toNatClampNeg ((y_I h p0 85) - 1)))), (0, y_p p0), (1, .int p1), (2, .int p2)]) (pc2 := 12) rfl dX12_stretch_11 (by decide) rfl ?_
  refine y_iload_n (pc2 := 13) rfl dX12_stretch_12 rfl ?_
  refine y_if_gt (tgt := 20) (pc2 := 16) rfl dX12_stretch_13 (by decide) (fun c2 => ?_) (fun c2 => ?_)
  · replace hf := y_it c2 hf
    refine y_iload_n (pc2 := 21) rfl dX12_stretch_20 rfl ?_
    refine y_iload_n (pc2 := 22) rfl dX12_stretch_21 rfl ?_
    refine y_iload_n (pc2 := 23) rfl dX12_stretch_22 rfl ?_
    refine y_isub (pc2 := 24) rfl dX12_stretch_23 ?_
    refine y_icmp_le (tgt := 31) (pc2 := 27) rfl dX12_stretch_24 (by decide) (fun c1 => ?_) (fun c1 => ?_)
    · replace hf := y_it c1 hf
      refine y_iload_n (pc2 := 32) rfl dX12_stretch_31 rfl ?_
      refine y_iload_n (pc2 := 33) rfl dX12_stretch_32 rfl ?_
      refine y_iadd (pc2 := 34) rfl dX12_stretch_33 ?_
      exact y_iretF hf dX12_stretch_34 rfl (by decide) (by decide)
    · replace hf := y_ie c1 hf
      refine y_iload_n (pc2 := 28) rfl dX12_stretch_27 rfl ?_
      refine y_goto (tgt := 34) dX12_stretch_28 (by decide) ?_
      exact y_iretF hf dX12_stretch_34 rfl (by decide) (by decide)
  · replace hf := y_ie c2 hf
    refine y_iload_n (pc2 := 17) rfl dX12_stretch_16 rfl ?_
    refine y_goto (tgt := 34) dX12_stretch_17 (by decide) ?_
    exact y_iretF hf dX12_stretch_34 rfl (by decide) (by decide)
theorem dX12_leads_0 : decode cX12_leads 0 = .ok (.aload_n 0, 1) := by decide +kernel
theorem dX12_leads_1 : decode cX12_leads 1 = .ok (.iload_n 1, 1) := by decide +kernel
theorem dX12_leads_2 : decode cX12_leads 2 = .ok (.putfield 198, 3) := by decide +kernel
theorem dX12_leads_5 : decode cX12_leads 5 = .ok (.aload_n 0, 1) := by decide +kernel
theorem dX12_leads_6 : decode cX12_leads 6 = .ok (.iload_n 1, 1) := by decide +kernel
theorem dX12_leads_7 : decode cX12_leads 7 = .ok (.bipush (-9), 2) := by decide +kernel
theorem dX12_leads_9 : decode cX12_leads 9 = .ok (.if_icmp .ne 8, 3) := by decide +kernel
theorem dX12_leads_12 : decode cX12_leads 12 = .ok (.bipush (-9), 2) := by decide +kernel
theorem dX12_leads_14 : decode cX12_leads 14 = .ok (.goto 4, 3) := by decide +kernel
theorem dX12_leads_17 : decode cX12_leads 17 = .ok (.iload_n 2, 1) := by decide +kernel
theorem dX12_leads_18 : decode cX12_leads 18 = .ok (.putfield 201, 3) := by decide +kernel
theorem dX12_leads_21 : decode cX12_leads 21 = .ok (.return_, 1) := by decide +kernel
def M_X12_leads : y_M := (yX12_leads, cX12_leads, 3, (Option.none : Option Jvm.ClassFile.FieldType))
theorem n_X12_leads : y_N0 M_X12_leads 2 := ⟨(c_10 62 (by decide +kernel) rfl), (c_1 9 (by decide +kernel) rfl), ⟨by decide +kernel, by decide +kernel⟩, by decide +kernel⟩
theorem Fp_BoxYardModel_198 {nm : String} : y_Fp "BoxYardModel" nm 198 12 81 := ⟨_, _, _, rfl, by decide, Or.inl ⟨rfl, Or.inl (c_7 203 (by decide +kernel) rfl)⟩⟩
theorem Fp_BoxYardModel_201 {nm : String} : y_Fp "BoxYardModel" nm 201 12 82 := ⟨_, _, _, rfl, by decide, Or.inl ⟨rfl, Or.inl (c_7 204 (by decide +kernel) rfl)⟩⟩
set_option maxRecDepth 100000 in
def f_X12_leads (p0 : Nat) (p1 : Int32) (p2 : Int32) (h : y_H) : Option (Unit × y_H) :=
  if y_K h p0 = 13 then
  y_bd (s_I h p0 81 p1) (fun h1 =>
  if p1 = (-9 : Int32) then
    if y_K h1 p0 = 13 then
    y_bd (s_I h1 p0 82 (-9 : Int32)) (fun h7 =>
    some ((), h7))
    else none
  else
    if y_K h1 p0 = 13 then
    y_bd (s_I h1 p0 82 p2) (fun h4 =>
    some ((), h4))
    else none)
  else none
abbrev rm_X12_leads : Room := { frames := 0, cells := 0, slots := 0, locals := 0 }
set_option maxRecDepth 100000 in
set_option maxHeartbeats 4000000 in
theorem k_X12_leads {l : Launch} {G : y_G} {p0 : Nat} {p1 : Int32} {p2 : Int32} {h hz : y_H} {rz : Unit} (hf : f_X12_leads p0 p1 p2 h = some (rz, hz)) : y_S l G M_X12_leads rm_X12_leads [y_p p0, .int p1, .int p2] h none hz := by
  refine y_start (lv := [(0, y_p p0), (1, .int p1), (2, .int p2)]) (by decide) (by simp [lg_sl, y_p_cat, y_ci, y_cj, M_X12_leads]) (by simp [lv_args, y_p_cat, y_ci, y_cj]) (fun z ad0 => ?_)
  unfold f_X12_leads at hf
  refine y_aload_n (x := p0) (pc2 := 1) rfl dX12_leads_0 rfl ?_
  refine y_iload_n (pc2 := 2) rfl dX12_leads_1 rfl ?_
  obtain ⟨g3, hf⟩ := y_g hf
  obtain ⟨h1, e2, hf⟩ := y_bdE hf
  refine y_putI (x := p1) (pc2 := 5) rfl dX12_leads_2 Fp_BoxYardModel_198 (by decide) rfl g3 e2 ?_
  refine y_aload_n (x := p0) (pc2 := 6) rfl dX12_leads_5 rfl ?_
  refine y_iload_n (pc2 := 7) rfl dX12_leads_6 rfl ?_
  refine y_bipush (v := (-9 : Int32)) (pc2 := 9) rfl dX12_leads_7 (by decide) ?_
  refine y_icmp_ne (tgt := 17) (pc2 := 12) rfl dX12_leads_9 (by decide) (fun c10 => ?_) (fun c10 => ?_)
  · replace hf := y_ie c10 hf
    refine y_iload_n (pc2 := 18) rfl dX12_leads_17 rfl ?_
    obtain ⟨g6, hf⟩ := y_g hf
    obtain ⟨h4, e5, hf⟩ := y_bdE hf
    refine y_putI (x := p2) (pc2 := 21) rfl dX12_leads_18 Fp_BoxYardModel_201 (by decide) rfl g6 e5 ?_
    exact y_vretF hf dX12_leads_21 rfl (by decide) (by decide)
  · replace hf := y_it c10 hf
    refine y_bipush (v := (-9 : Int32)) (pc2 := 14) rfl dX12_leads_12 (by decide) ?_
    refine y_goto (tgt := 18) dX12_leads_14 (by decide) ?_
    obtain ⟨g9, hf⟩ := y_g hf
    obtain ⟨h7, e8, hf⟩ := y_bdE hf
    refine y_putI (x := (-9 : Int32)) (pc2 := 21) rfl dX12_leads_18 Fp_BoxYardModel_201 (by decide) rfl g9 e8 ?_
    exact y_vretF hf dX12_leads_21 rfl (by decide) (by decide)
theorem dX12_as_0 : decode cX12_as 0 = .ok (.aload_n 0, 1) := by decide +kernel
theorem dX12_as_1 : decode cX12_as 1 = .ok (.getfield 198, 3) := by decide +kernel
theorem dX12_as_4 : decode cX12_as 4 = .ok (.iload_n 1, 1) := by decide +kernel
theorem dX12_as_5 : decode cX12_as 5 = .ok (.if_icmp .ne 7, 3) := by decide +kernel
theorem dX12_as_8 : decode cX12_as 8 = .ok (.iconst 0, 1) := by decide +kernel
theorem dX12_as_9 : decode cX12_as 9 = .ok (.goto 17, 3) := by decide +kernel
theorem dX12_as_12 : decode cX12_as 12 = .ok (.aload_n 0, 1) := by decide +kernel
theorem dX12_as_13 : decode cX12_as 13 = .ok (.getfield 198, 3) := by decide +kernel
theorem dX12_as_16 : decode cX12_as 16 = .ok (.bipush (-9), 2) := by decide +kernel
theorem dX12_as_18 : decode cX12_as 18 = .ok (.if_icmp .ne 7, 3) := by decide +kernel
theorem dX12_as_21 : decode cX12_as 21 = .ok (.iconst 3, 1) := by decide +kernel
theorem dX12_as_22 : decode cX12_as 22 = .ok (.goto 4, 3) := by decide +kernel
theorem dX12_as_25 : decode cX12_as 25 = .ok (.iconst 5, 1) := by decide +kernel
theorem dX12_as_26 : decode cX12_as 26 = .ok (.ireturn, 1) := by decide +kernel
def M_X12_as : y_M := (yX12_as, cX12_as, 2, (Option.some Jvm.ClassFile.FieldType.int))
theorem n_X12_as : y_N0 M_X12_as 1 := ⟨(c_10 82 (by decide +kernel) rfl), (c_1 9 (by decide +kernel) rfl), ⟨by decide +kernel, by decide +kernel⟩, by decide +kernel⟩
theorem F_BoxYardModel_198 : y_F "BoxYardModel" 198 12 81 := ⟨_, _, _, rfl, by decide, Or.inl (c_7 203 (by decide +kernel) rfl)⟩
set_option maxRecDepth 100000 in
def f_X12_as (p0 : Nat) (p1 : Int32) (h : y_H) : Option (Int32 × y_H) :=
  if y_K h p0 = 13 then
  if (y_I h p0 81) = p1 then
    some (0, h)
  else
    if y_K h p0 = 13 then
    if (y_I h p0 81) = (-9 : Int32) then
      some (3, h)
    else
      some (5, h)
    else none
  else none
abbrev rm_X12_as : Room := { frames := 0, cells := 0, slots := 0, locals := 0 }
set_option maxRecDepth 100000 in
set_option maxHeartbeats 4000000 in
theorem k_X12_as {l : Launch} {G : y_G} {p0 : Nat} {p1 : Int32} {h hz : y_H} {rz : Int32} (hf : f_X12_as p0 p1 h = some (rz, hz)) : y_S l G M_X12_as rm_X12_as [y_p p0, .int p1] h (some (.int rz)) hz := by
  refine y_start (lv := [(0, y_p p0), (1, .int p1)]) (by decide) (by simp [lg_sl, y_p_cat, y_ci, y_cj, M_X12_as]) (by simp [lv_args, y_p_cat, y_ci, y_cj]) (fun z ad0 => ?_)
  unfold f_X12_as at hf
  refine y_aload_n (x := p0) (pc2 := 1) rfl dX12_as_0 rfl ?_
  obtain ⟨g4, hf⟩ := y_g hf
  refine y_getI (pc2 := 4) rfl dX12_as_1 F_BoxYardModel_198 (by decide) rfl g4 ?_
  refine y_iload_n (pc2 := 5) rfl dX12_as_4 rfl ?_
  refine y_icmp_ne (tgt := 12) (pc2 := 8) rfl dX12_as_5 (by decide) (fun c3 => ?_) (fun c3 => ?_)
  · replace hf := y_ie c3 hf
    refine y_aload_n (x := p0) (pc2 := 13) rfl dX12_as_12 rfl ?_
    obtain ⟨g2, hf⟩ := y_g hf
    refine y_getI (pc2 := 16) rfl dX12_as_13 F_BoxYardModel_198 (by decide) rfl g2 ?_
    refine y_bipush (v := (-9 : Int32)) (pc2 := 18) rfl dX12_as_16 (by decide) ?_
    refine y_icmp_ne (tgt := 25) (pc2 := 21) rfl dX12_as_18 (by decide) (fun c1 => ?_) (fun c1 => ?_)
    · replace hf := y_ie c1 hf
      refine y_iconst (v := 5) (pc2 := 26) rfl dX12_as_25 (by decide) ?_
      exact y_iretF hf dX12_as_26 rfl (by decide) (by decide)
    · replace hf := y_it c1 hf
      refine y_iconst (v := 3) (pc2 := 22) rfl dX12_as_21 (by decide) ?_
      refine y_goto (tgt := 26) dX12_as_22 (by decide) ?_
      exact y_iretF hf dX12_as_26 rfl (by decide) (by decide)
  · replace hf := y_it c3 hf
    refine y_iconst (v := 0) (pc2 := 9) rfl dX12_as_8 (by decide) ?_
    refine y_goto (tgt := 26) dX12_as_9 (by decide) ?_
    exact y_iretF hf dX12_as_26 rfl (by decide) (by decide)
theorem dX12_isKind_0 : decode cX12_isKind 0 = .ok (.iload_n 2, 1) := by decide +kernel
theorem dX12_isKind_1 : decode cX12_isKind 1 = .ok (.ifCond .ne 19, 3) := by decide +kernel
theorem dX12_isKind_4 : decode cX12_isKind 4 = .ok (.aload_n 0, 1) := by decide +kernel
theorem dX12_isKind_5 : decode cX12_isKind 5 = .ok (.iload_n 1, 1) := by decide +kernel
theorem dX12_isKind_6 : decode cX12_isKind 6 = .ok (.invokevirtual 372, 3) := by decide +kernel
theorem dX12_isKind_9 : decode cX12_isKind 9 = .ok (.ifCond .ne 7, 3) := by decide +kernel
theorem dX12_isKind_12 : decode cX12_isKind 12 = .ok (.iconst 1, 1) := by decide +kernel
theorem dX12_isKind_13 : decode cX12_isKind 13 = .ok (.goto 35, 3) := by decide +kernel
theorem dX12_isKind_16 : decode cX12_isKind 16 = .ok (.iconst 0, 1) := by decide +kernel
theorem dX12_isKind_17 : decode cX12_isKind 17 = .ok (.goto 31, 3) := by decide +kernel
theorem dX12_isKind_20 : decode cX12_isKind 20 = .ok (.iload_n 2, 1) := by decide +kernel
theorem dX12_isKind_21 : decode cX12_isKind 21 = .ok (.iconst 3, 1) := by decide +kernel
theorem dX12_isKind_22 : decode cX12_isKind 22 = .ok (.if_icmp .ne 11, 3) := by decide +kernel
theorem dX12_isKind_25 : decode cX12_isKind 25 = .ok (.aload_n 0, 1) := by decide +kernel
theorem dX12_isKind_26 : decode cX12_isKind 26 = .ok (.iload_n 1, 1) := by decide +kernel
theorem dX12_isKind_27 : decode cX12_isKind 27 = .ok (.invokevirtual 372, 3) := by decide +kernel
theorem dX12_isKind_30 : decode cX12_isKind 30 = .ok (.goto 18, 3) := by decide +kernel
theorem dX12_isKind_33 : decode cX12_isKind 33 = .ok (.aload_n 0, 1) := by decide +kernel
theorem dX12_isKind_34 : decode cX12_isKind 34 = .ok (.getfield 7, 3) := by decide +kernel
theorem dX12_isKind_37 : decode cX12_isKind 37 = .ok (.iload_n 1, 1) := by decide +kernel
theorem dX12_isKind_38 : decode cX12_isKind 38 = .ok (.iaload, 1) := by decide +kernel
theorem dX12_isKind_39 : decode cX12_isKind 39 = .ok (.iload_n 2, 1) := by decide +kernel
theorem dX12_isKind_40 : decode cX12_isKind 40 = .ok (.if_icmp .ne 7, 3) := by decide +kernel
theorem dX12_isKind_43 : decode cX12_isKind 43 = .ok (.iconst 1, 1) := by decide +kernel
theorem dX12_isKind_44 : decode cX12_isKind 44 = .ok (.goto 4, 3) := by decide +kernel
theorem dX12_isKind_47 : decode cX12_isKind 47 = .ok (.iconst 0, 1) := by decide +kernel
theorem dX12_isKind_48 : decode cX12_isKind 48 = .ok (.ireturn, 1) := by decide +kernel
def M_X12_isKind : y_M := (yX12_isKind, cX12_isKind, 3, (Option.some Jvm.ClassFile.FieldType.boolean))
theorem n_X12_isKind : y_N0 M_X12_isKind 2 := ⟨(c_10 98 (by decide +kernel) rfl), (c_1 9 (by decide +kernel) rfl), ⟨by decide +kernel, by decide +kernel⟩, by decide +kernel⟩
set_option maxRecDepth 100000 in
def f_X12_isKind (p0 : Nat) (p1 : Int32) (p2 : Int32) (h : y_H) : Option (Bool × y_H) :=
  if p2 = 0 then
    if y_K h p0 = 13 then
    y_cl (f_X12_isOpen p0 p1 h) (fun r9 h10 =>
    if r9 = true then
      some (false, h10)
    else
      some (true, h10))
    else none
  else
    if p2 = 3 then
      if y_K h p0 = 13 then
      y_cl (f_X12_isOpen p0 p1 h) (fun r4 h5 =>
      some (r4, h5))
      else none
    else
      if y_K h p0 = 13 then
      if y_K h (y_P h p0 1) = 100 ∧ y_ix p1 (y_N h (y_P h p0 1)) = true then
      if (y_I h (y_P h p0 1) (Int32.toNatClampNeg p1)) = p2 then
        some (true, h)
      else
        some (false, h)
      else none
      else none
abbrev rm_X12_isKind : Room := { frames := 1, cells := 0, slots := 0, locals := 21 }
set_option maxRecDepth 100000 in
set_option maxHeartbeats 4000000 in
theorem k_X12_isKind {l : Launch} {G : y_G} {p0 : Nat} {p1 : Int32} {p2 : Int32} {h hz : y_H} {rz : Bool} (hf : f_X12_isKind p0 p1 p2 h = some (rz, hz)) : y_S l G M_X12_isKind rm_X12_isKind [y_p p0, .int p1, .int p2] h (some (.int (y_z rz))) hz := by
  refine y_start (lv := [(0, y_p p0), (1, .int p1), (2, .int p2)]) (by decide) (by simp [lg_sl, y_p_cat, y_ci, y_cj, M_X12_isKind]) (by simp [lv_args, y_p_cat, y_ci, y_cj]) (fun z ad0 => ?_)
  unfold f_X12_isKind at hf
  refine y_iload_n (pc2 := 1) rfl dX12_isKind_0 rfl ?_
  refine y_if_ne (tgt := 20) (pc2 := 4) rfl dX12_isKind_1 (by decide) (fun c14 => ?_) (fun c14 => ?_)
  · replace hf := y_ie c14 hf
    refine y_iload_n (pc2 := 21) rfl dX12_isKind_20 rfl ?_
    refine y_iconst (v := 3) (pc2 := 22) rfl dX12_isKind_21 (by decide) ?_
    refine y_icmp_ne (tgt := 33) (pc2 := 25) rfl dX12_isKind_22 (by decide) (fun c8 => ?_) (fun c8 => ?_)
    · replace hf := y_ie c8 hf
      refine y_aload_n (x := p0) (pc2 := 34) rfl dX12_isKind_33 rfl ?_
      obtain ⟨g3, hf⟩ := y_g hf
      refine y_getP (pc2 := 37) rfl dX12_isKind_34 F_BoxYardModel_7 (by decide) rfl g3 ?_
      refine y_iload_n (pc2 := 38) rfl dX12_isKind_37 rfl ?_
      obtain ⟨g2, hf⟩ := y_g hf
      refine y_iald (pc2 := 39) rfl dX12_isKind_38 g2.1 (y_ix_in g2.2) ?_
      refine y_iload_n (pc2 := 40) rfl dX12_isKind_39 rfl ?_
      refine y_icmp_ne (tgt := 47) (pc2 := 43) rfl dX12_isKind_40 (by decide) (fun c1 => ?_) (fun c1 => ?_)
      · replace hf := y_ie c1 hf
        refine y_iconst (v := 0) (pc2 := 48) rfl dX12_isKind_47 (by decide) ?_
        exact y_zretF (x := false) hf dX12_isKind_48 rfl (by decide) (by decide)
      · replace hf := y_it c1 hf
        refine y_iconst (v := 1) (pc2 := 44) rfl dX12_isKind_43 (by decide) ?_
        refine y_goto (tgt := 48) dX12_isKind_44 (by decide) ?_
        exact y_zretF (x := true) hf dX12_isKind_48 rfl (by decide) (by decide)
    · replace hf := y_it c8 hf
      refine y_aload_n (x := p0) (pc2 := 26) rfl dX12_isKind_25 rfl ?_
      refine y_iload_n (pc2 := 27) rfl dX12_isKind_26 rfl ?_
      obtain ⟨g7, hf⟩ := y_g hf
      obtain ⟨r4, h5, c6, hf⟩ := y_clE hf
      refine y_callV (As := [.int p1]) (rm := rm_X12_isOpen) (cells := 0) (slots := 0) (pc2 := 30) rfl dX12_isKind_27 n_X12_isOpen l_BoxYardModel_372 i_X12_isOpen e_X12_isOpen (ci := 12) rfl rfl (by decide) g7 rfl rfl (by decide) (by decide) (by decide) (k_X12_isOpen c6) ?_
      refine y_goto (tgt := 48) dX12_isKind_30 (by decide) ?_
      exact y_zretF hf dX12_isKind_48 rfl (by decide) (by decide)
  · replace hf := y_it c14 hf
    refine y_aload_n (x := p0) (pc2 := 5) rfl dX12_isKind_4 rfl ?_
    refine y_iload_n (pc2 := 6) rfl dX12_isKind_5 rfl ?_
    obtain ⟨g13, hf⟩ := y_g hf
    obtain ⟨r9, h10, c11, hf⟩ := y_clE hf
    refine y_callV (As := [.int p1]) (rm := rm_X12_isOpen) (cells := 0) (slots := 0) (pc2 := 9) rfl dX12_isKind_6 n_X12_isOpen l_BoxYardModel_372 i_X12_isOpen e_X12_isOpen (ci := 12) rfl rfl (by decide) g13 rfl rfl (by decide) (by decide) (by decide) (k_X12_isOpen c11) ?_
    refine y_ifz_ne (tgt := 16) (pc2 := 12) rfl dX12_isKind_9 (by decide) (fun c12 => ?_) (fun c12 => ?_)
    · replace hf := y_it c12 hf
      refine y_iconst (v := 0) (pc2 := 17) rfl dX12_isKind_16 (by decide) ?_
      refine y_goto (tgt := 48) dX12_isKind_17 (by decide) ?_
      exact y_zretF (x := false) hf dX12_isKind_48 rfl (by decide) (by decide)
    · replace hf := y_ie c12 hf
      refine y_iconst (v := 1) (pc2 := 13) rfl dX12_isKind_12 (by decide) ?_
      refine y_goto (tgt := 48) dX12_isKind_13 (by decide) ?_
      exact y_zretF (x := true) hf dX12_isKind_48 rfl (by decide) (by decide)
theorem dX12_boxNumber_0 : decode cX12_boxNumber 0 = .ok (.iload_n 1, 1) := by decide +kernel
theorem dX12_boxNumber_1 : decode cX12_boxNumber 1 = .ok (.ifCond .ne 14, 3) := by decide +kernel
theorem dX12_boxNumber_4 : decode cX12_boxNumber 4 = .ok (.aload_n 0, 1) := by decide +kernel
theorem dX12_boxNumber_5 : decode cX12_boxNumber 5 = .ok (.aload_n 0, 1) := by decide +kernel
theorem dX12_boxNumber_6 : decode cX12_boxNumber 6 = .ok (.getfield 201, 3) := by decide +kernel
theorem dX12_boxNumber_9 : decode cX12_boxNumber 9 = .ok (.invokevirtual 304, 3) := by decide +kernel
theorem dX12_boxNumber_12 : decode cX12_boxNumber 12 = .ok (.goto 43, 3) := by decide +kernel
theorem dX12_boxNumber_15 : decode cX12_boxNumber 15 = .ok (.iload_n 1, 1) := by decide +kernel
theorem dX12_boxNumber_16 : decode cX12_boxNumber 16 = .ok (.iconst 1, 1) := by decide +kernel
theorem dX12_boxNumber_17 : decode cX12_boxNumber 17 = .ok (.if_icmp .ne 14, 3) := by decide +kernel
theorem dX12_boxNumber_20 : decode cX12_boxNumber 20 = .ok (.aload_n 0, 1) := by decide +kernel
theorem dX12_boxNumber_21 : decode cX12_boxNumber 21 = .ok (.aload_n 0, 1) := by decide +kernel
theorem dX12_boxNumber_22 : decode cX12_boxNumber 22 = .ok (.getfield 201, 3) := by decide +kernel
theorem dX12_boxNumber_25 : decode cX12_boxNumber 25 = .ok (.invokevirtual 307, 3) := by decide +kernel
theorem dX12_boxNumber_28 : decode cX12_boxNumber 28 = .ok (.goto 27, 3) := by decide +kernel
theorem dX12_boxNumber_31 : decode cX12_boxNumber 31 = .ok (.iload_n 1, 1) := by decide +kernel
theorem dX12_boxNumber_32 : decode cX12_boxNumber 32 = .ok (.iconst 2, 1) := by decide +kernel
theorem dX12_boxNumber_33 : decode cX12_boxNumber 33 = .ok (.if_icmp .ne 14, 3) := by decide +kernel
theorem dX12_boxNumber_36 : decode cX12_boxNumber 36 = .ok (.aload_n 0, 1) := by decide +kernel
theorem dX12_boxNumber_37 : decode cX12_boxNumber 37 = .ok (.aload_n 0, 1) := by decide +kernel
theorem dX12_boxNumber_38 : decode cX12_boxNumber 38 = .ok (.getfield 201, 3) := by decide +kernel
theorem dX12_boxNumber_41 : decode cX12_boxNumber 41 = .ok (.invokevirtual 310, 3) := by decide +kernel
theorem dX12_boxNumber_44 : decode cX12_boxNumber 44 = .ok (.goto 11, 3) := by decide +kernel
theorem dX12_boxNumber_47 : decode cX12_boxNumber 47 = .ok (.aload_n 0, 1) := by decide +kernel
theorem dX12_boxNumber_48 : decode cX12_boxNumber 48 = .ok (.aload_n 0, 1) := by decide +kernel
theorem dX12_boxNumber_49 : decode cX12_boxNumber 49 = .ok (.getfield 201, 3) := by decide +kernel
theorem dX12_boxNumber_52 : decode cX12_boxNumber 52 = .ok (.invokevirtual 290, 3) := by decide +kernel
theorem dX12_boxNumber_55 : decode cX12_boxNumber 55 = .ok (.ireturn, 1) := by decide +kernel
def M_X12_boxNumber : y_M := (yX12_boxNumber, cX12_boxNumber, 2, (Option.some Jvm.ClassFile.FieldType.int))
theorem n_X12_boxNumber : y_N0 M_X12_boxNumber 1 := ⟨(c_10 86 (by decide +kernel) rfl), (c_1 9 (by decide +kernel) rfl), ⟨by decide +kernel, by decide +kernel⟩, by decide +kernel⟩
theorem F_BoxYardModel_201 : y_F "BoxYardModel" 201 12 82 := ⟨_, _, _, rfl, by decide, Or.inl (c_7 204 (by decide +kernel) rfl)⟩
set_option maxRecDepth 100000 in
def f_X12_boxNumber (p0 : Nat) (p1 : Int32) (h : y_H) : Option (Int32 × y_H) :=
  if p1 = 0 then
    if y_K h p0 = 13 then
    if y_K h p0 = 13 then
    y_cl (f_X12_bears p0 (y_I h p0 82) h) (fun r18 h19 =>
    some (r18, h19))
    else none
    else none
  else
    if p1 = 1 then
      if y_K h p0 = 13 then
      if y_K h p0 = 13 then
      y_cl (f_X12_tall p0 (y_I h p0 82) h) (fun r12 h13 =>
      some (r12, h13))
      else none
      else none
    else
      if p1 = 2 then
        if y_K h p0 = 13 then
        if y_K h p0 = 13 then
        y_cl (f_X12_fee p0 (y_I h p0 82) h) (fun r6 h7 =>
        some (r6, h7))
        else none
        else none
      else
        if y_K h p0 = 13 then
        if y_K h p0 = 13 then
        y_cl (f_X12_known p0 (y_I h p0 82) h) (fun r1 h2 =>
        some (r1, h2))
        else none
        else none
abbrev rm_X12_boxNumber : Room := { frames := 2, cells := 0, slots := 0, locals := 44 }
set_option maxRecDepth 100000 in
set_option maxHeartbeats 4000000 in
theorem k_X12_boxNumber {l : Launch} {G : y_G} {p0 : Nat} {p1 : Int32} {h hz : y_H} {rz : Int32} (hf : f_X12_boxNumber p0 p1 h = some (rz, hz)) : y_S l G M_X12_boxNumber rm_X12_boxNumber [y_p p0, .int p1] h (some (.int rz)) hz := by
  refine y_start (lv := [(0, y_p p0), (1, .int p1)]) (by decide) (by simp [lg_sl, y_p_cat, y_ci, y_cj, M_X12_boxNumber]) (by simp [lv_args, y_p_cat, y_ci, y_cj]) (fun z ad0 => ?_)
  unfold f_X12_boxNumber at hf
  refine y_iload_n (pc2 := 1) rfl dX12_boxNumber_0 rfl ?_
  refine y_if_ne (tgt := 15) (pc2 := 4) rfl dX12_boxNumber_1 (by decide) (fun c23 => ?_) (fun c23 => ?_)
  · replace hf := y_ie c23 hf
    refine y_iload_n (pc2 := 16) rfl dX12_boxNumber_15 rfl ?_
    refine y_iconst (v := 1) (pc2 := 17) rfl dX12_boxNumber_16 (by decide) ?_
    refine y_icmp_ne (tgt := 31) (pc2 := 20) rfl dX12_boxNumber_17 (by decide) (fun c17 => ?_) (fun c17 => ?_)
    · replace hf := y_ie c17 hf
      refine y_iload_n (pc2 := 32) rfl dX12_boxNumber_31 rfl ?_
      refine y_iconst (v := 2) (pc2 := 33) rfl dX12_boxNumber_32 (by decide) ?_
      refine y_icmp_ne (tgt := 47) (pc2 := 36) rfl dX12_boxNumber_33 (by decide) (fun c11 => ?_) (fun c11 => ?_)
      · replace hf := y_ie c11 hf
        refine y_aload_n (x := p0) (pc2 := 48) rfl dX12_boxNumber_47 rfl ?_
        refine y_aload_n (x := p0) (pc2 := 49) rfl dX12_boxNumber_48 rfl ?_
        obtain ⟨g5, hf⟩ := y_g hf
        refine y_getI (pc2 := 52) rfl dX12_boxNumber_49 F_BoxYardModel_201 (by decide) rfl g5 ?_
        obtain ⟨g4, hf⟩ := y_g hf
        obtain ⟨r1, h2, c3, hf⟩ := y_clE hf
        refine y_callV (As := [.int (y_I h p0 82)]) (rm := rm_X12_known) (cells := 0) (slots := 0) (pc2 := 55) rfl dX12_boxNumber_52 n_X12_known l_BoxYardModel_290 i_X12_known e_X12_known (ci := 12) rfl rfl (by decide) g4 rfl rfl (by decide) (by decide) (by decide) (k_X12_known c3) ?_
        exact y_iretF hf dX12_boxNumber_55 rfl (by decide) (by decide)
      · replace hf := y_it c11 hf
        refine y_aload_n (x := p0) (pc2 := 37) rfl dX12_boxNumber_36 rfl ?_
        refine y_aload_n (x := p0) (pc2 := 38) rfl dX12_boxNumber_37 rfl ?_
        obtain ⟨g10, hf⟩ := y_g hf
        refine y_getI (pc2 := 41) rfl dX12_boxNumber_38 F_BoxYardModel_201 (by decide) rfl g10 ?_
        obtain ⟨g9, hf⟩ := y_g hf
        obtain ⟨r6, h7, c8, hf⟩ := y_clE hf
        refine y_callV (As := [.int (y_I h p0 82)]) (rm := rm_X12_fee) (cells := 0) (slots := 0) (pc2 := 44) rfl dX12_boxNumber_41 n_X12_fee l_BoxYardModel_310 i_X12_fee e_X12_fee (ci := 12) rfl rfl (by decide) g9 rfl rfl (by decide) (by decide) (by decide) (k_X12_fee c8) ?_
        refine y_goto (tgt := 55) dX12_boxNumber_44 (by decide) ?_
        exact y_iretF hf dX12_boxNumber_55 rfl (by decide) (by decide)
    · replace hf := y_it c17 hf
      refine y_aload_n (x := p0) (pc2 := 21) rfl dX12_boxNumber_20 rfl ?_
      refine y_aload_n (x := p0) (pc2 := 22) rfl dX12_boxNumber_21 rfl ?_
      obtain ⟨g16, hf⟩ := y_g hf
      refine y_getI (pc2 := 25) rfl dX12_boxNumber_22 F_BoxYardModel_201 (by decide) rfl g16 ?_
      obtain ⟨g15, hf⟩ := y_g hf
      obtain ⟨r12, h13, c14, hf⟩ := y_clE hf
      refine y_callV (As := [.int (y_I h p0 82)]) (rm := rm_X12_tall) (cells := 0) (slots := 0) (pc2 := 28) rfl dX12_boxNumber_25 n_X12_tall l_BoxYardModel_307 i_X12_tall e_X12_tall (ci := 12) rfl rfl (by decide) g15 rfl rfl (by decide) (by decide) (by decide) (k_X12_tall c14) ?_
      refine y_goto (tgt := 55) dX12_boxNumber_28 (by decide) ?_
      exact y_iretF hf dX12_boxNumber_55 rfl (by decide) (by decide)
  · replace hf := y_it c23 hf
    refine y_aload_n (x := p0) (pc2 := 5) rfl dX12_boxNumber_4 rfl ?_
    refine y_aload_n (x := p0) (pc2 := 6) rfl dX12_boxNumber_5 rfl ?_
    obtain ⟨g22, hf⟩ := y_g hf
    refine y_getI (pc2 := 9) rfl dX12_boxNumber_6 F_BoxYardModel_201 (by decide) rfl g22 ?_
    obtain ⟨g21, hf⟩ := y_g hf
    obtain ⟨r18, h19, c20, hf⟩ := y_clE hf
    refine y_callV (As := [.int (y_I h p0 82)]) (rm := rm_X12_bears) (cells := 0) (slots := 0) (pc2 := 12) rfl dX12_boxNumber_9 n_X12_bears l_BoxYardModel_304 i_X12_bears e_X12_bears (ci := 12) rfl rfl (by decide) g21 rfl rfl (by decide) (by decide) (by decide) (k_X12_bears c20) ?_
    refine y_goto (tgt := 55) dX12_boxNumber_12 (by decide) ?_
    exact y_iretF hf dX12_boxNumber_55 rfl (by decide) (by decide)
theorem dX12_isShelf_0 : decode cX12_isShelf 0 = .ok (.iload_n 1, 1) := by decide +kernel
theorem dX12_isShelf_1 : decode cX12_isShelf 1 = .ok (.iconst 0, 1) := by decide +kernel
theorem dX12_isShelf_2 : decode cX12_isShelf 2 = .ok (.iconst 3, 1) := by decide +kernel
theorem dX12_isShelf_3 : decode cX12_isShelf 3 = .ok (.invokestatic 278, 3) := by decide +kernel
theorem dX12_isShelf_6 : decode cX12_isShelf 6 = .ok (.ireturn, 1) := by decide +kernel
def M_X12_isShelf : y_M := (yX12_isShelf, cX12_isShelf, 2, (Option.some Jvm.ClassFile.FieldType.boolean))
theorem n_X12_isShelf : y_N0 M_X12_isShelf 1 := ⟨(c_10 94 (by decide +kernel) rfl), (c_1 9 (by decide +kernel) rfl), ⟨by decide +kernel, by decide +kernel⟩, by decide +kernel⟩
set_option maxRecDepth 100000 in
def f_X12_isShelf (p0 : Nat) (p1 : Int32) (h : y_H) : Option (Bool × y_H) :=
  y_cl (f_X12_in p1 0 3 h) (fun r1 h2 =>
  some (r1, h2))
abbrev rm_X12_isShelf : Room := { frames := 1, cells := 0, slots := 0, locals := 22 }
set_option maxRecDepth 100000 in
set_option maxHeartbeats 4000000 in
theorem k_X12_isShelf {l : Launch} {G : y_G} {p0 : Nat} {p1 : Int32} {h hz : y_H} {rz : Bool} (hf : f_X12_isShelf p0 p1 h = some (rz, hz)) : y_S l G M_X12_isShelf rm_X12_isShelf [y_p p0, .int p1] h (some (.int (y_z rz))) hz := by
  refine y_start (lv := [(0, y_p p0), (1, .int p1)]) (by decide) (by simp [lg_sl, y_p_cat, y_ci, y_cj, M_X12_isShelf]) (by simp [lv_args, y_p_cat, y_ci, y_cj]) (fun z ad0 => ?_)
  unfold f_X12_isShelf at hf
  refine y_iload_n (pc2 := 1) rfl dX12_isShelf_0 rfl ?_
  refine y_iconst (v := 0) (pc2 := 2) rfl dX12_isShelf_1 (by decide) ?_
  refine y_iconst (v := 3) (pc2 := 3) rfl dX12_isShelf_2 (by decide) ?_
  obtain ⟨r1, h2, c3, hf⟩ := y_clE hf
  refine y_callS (As := [.int p1, .int 0, .int 3]) (rm := rm_X12_in) (cells := 0) (slots := 0) (pc2 := 6) rfl dX12_isShelf_3 n_X12_in l_BoxYardModel_278 t_X12_in rfl rfl (by decide) (by decide) (by decide) (k_X12_in c3) ?_
  exact y_zretF hf dX12_isShelf_6 rfl (by decide) (by decide)
theorem dX12_keepsOn_0 : decode cX12_keepsOn 0 = .ok (.aload_n 0, 1) := by decide +kernel
theorem dX12_keepsOn_1 : decode cX12_keepsOn 1 = .ok (.iload_n 1, 1) := by decide +kernel
theorem dX12_keepsOn_2 : decode cX12_keepsOn 2 = .ok (.invokevirtual 485, 3) := by decide +kernel
theorem dX12_keepsOn_5 : decode cX12_keepsOn 5 = .ok (.ifCond .ne 5, 3) := by decide +kernel
theorem dX12_keepsOn_8 : decode cX12_keepsOn 8 = .ok (.iconst 2, 1) := by decide +kernel
theorem dX12_keepsOn_9 : decode cX12_keepsOn 9 = .ok (.ireturn, 1) := by decide +kernel
theorem dX12_keepsOn_10 : decode cX12_keepsOn 10 = .ok (.aload_n 0, 1) := by decide +kernel
theorem dX12_keepsOn_11 : decode cX12_keepsOn 11 = .ok (.getfield 198, 3) := by decide +kernel
theorem dX12_keepsOn_14 : decode cX12_keepsOn 14 = .ok (.bipush (-9), 2) := by decide +kernel
theorem dX12_keepsOn_16 : decode cX12_keepsOn 16 = .ok (.if_icmp .eq 22, 3) := by decide +kernel
theorem dX12_keepsOn_19 : decode cX12_keepsOn 19 = .ok (.aload_n 0, 1) := by decide +kernel
theorem dX12_keepsOn_20 : decode cX12_keepsOn 20 = .ok (.getfield 198, 3) := by decide +kernel
theorem dX12_keepsOn_23 : decode cX12_keepsOn 23 = .ok (.iload_n 1, 1) := by decide +kernel
theorem dX12_keepsOn_24 : decode cX12_keepsOn 24 = .ok (.iconst 3, 1) := by decide +kernel
theorem dX12_keepsOn_25 : decode cX12_keepsOn 25 = .ok (.if_icmp .ne 7, 3) := by decide +kernel
theorem dX12_keepsOn_28 : decode cX12_keepsOn 28 = .ok (.iconst 1, 1) := by decide +kernel
theorem dX12_keepsOn_29 : decode cX12_keepsOn 29 = .ok (.goto 4, 3) := by decide +kernel
theorem dX12_keepsOn_32 : decode cX12_keepsOn 32 = .ok (.iconst 0, 1) := by decide +kernel
theorem dX12_keepsOn_33 : decode cX12_keepsOn 33 = .ok (.if_icmp .eq 5, 3) := by decide +kernel
theorem dX12_keepsOn_36 : decode cX12_keepsOn 36 = .ok (.iconst 5, 1) := by decide +kernel
theorem dX12_keepsOn_37 : decode cX12_keepsOn 37 = .ok (.ireturn, 1) := by decide +kernel
theorem dX12_keepsOn_38 : decode cX12_keepsOn 38 = .ok (.iload_n 2, 1) := by decide +kernel
theorem dX12_keepsOn_39 : decode cX12_keepsOn 39 = .ok (.iconst 0, 1) := by decide +kernel
theorem dX12_keepsOn_40 : decode cX12_keepsOn 40 = .ok (.aload_n 0, 1) := by decide +kernel
theorem dX12_keepsOn_41 : decode cX12_keepsOn 41 = .ok (.getfield 195, 3) := by decide +kernel
theorem dX12_keepsOn_44 : decode cX12_keepsOn 44 = .ok (.iload_n 1, 1) := by decide +kernel
theorem dX12_keepsOn_45 : decode cX12_keepsOn 45 = .ok (.iaload, 1) := by decide +kernel
theorem dX12_keepsOn_46 : decode cX12_keepsOn 46 = .ok (.iconst 1, 1) := by decide +kernel
theorem dX12_keepsOn_47 : decode cX12_keepsOn 47 = .ok (.isub, 1) := by decide +kernel
theorem dX12_keepsOn_48 : decode cX12_keepsOn 48 = .ok (.invokestatic 278, 3) := by decide +kernel
theorem dX12_keepsOn_51 : decode cX12_keepsOn 51 = .ok (.ifCond .ne 5, 3) := by decide +kernel
theorem dX12_keepsOn_54 : decode cX12_keepsOn 54 = .ok (.iconst 2, 1) := by decide +kernel
theorem dX12_keepsOn_55 : decode cX12_keepsOn 55 = .ok (.ireturn, 1) := by decide +kernel
theorem dX12_keepsOn_56 : decode cX12_keepsOn 56 = .ok (.aload_n 0, 1) := by decide +kernel
theorem dX12_keepsOn_57 : decode cX12_keepsOn 57 = .ok (.getfield 198, 3) := by decide +kernel
theorem dX12_keepsOn_60 : decode cX12_keepsOn 60 = .ok (.ifCond .ne 40, 3) := by decide +kernel
theorem dX12_keepsOn_63 : decode cX12_keepsOn 63 = .ok (.iload_n 1, 1) := by decide +kernel
theorem dX12_keepsOn_64 : decode cX12_keepsOn 64 = .ok (.iconst 1, 1) := by decide +kernel
theorem dX12_keepsOn_65 : decode cX12_keepsOn 65 = .ok (.if_icmp .ne 15, 3) := by decide +kernel
theorem dX12_keepsOn_68 : decode cX12_keepsOn 68 = .ok (.aload_n 0, 1) := by decide +kernel
theorem dX12_keepsOn_69 : decode cX12_keepsOn 69 = .ok (.aload_n 0, 1) := by decide +kernel
theorem dX12_keepsOn_70 : decode cX12_keepsOn 70 = .ok (.getfield 201, 3) := by decide +kernel
theorem dX12_keepsOn_73 : decode cX12_keepsOn 73 = .ok (.iconst 0, 1) := by decide +kernel
theorem dX12_keepsOn_74 : decode cX12_keepsOn 74 = .ok (.invokevirtual 488, 3) := by decide +kernel
theorem dX12_keepsOn_77 : decode cX12_keepsOn 77 = .ok (.ifCond .eq 21, 3) := by decide +kernel
theorem dX12_keepsOn_80 : decode cX12_keepsOn 80 = .ok (.iload_n 1, 1) := by decide +kernel
theorem dX12_keepsOn_81 : decode cX12_keepsOn 81 = .ok (.iconst 2, 1) := by decide +kernel
theorem dX12_keepsOn_82 : decode cX12_keepsOn 82 = .ok (.if_icmp .ne 18, 3) := by decide +kernel
theorem dX12_keepsOn_85 : decode cX12_keepsOn 85 = .ok (.aload_n 0, 1) := by decide +kernel
theorem dX12_keepsOn_86 : decode cX12_keepsOn 86 = .ok (.getfield 7, 3) := by decide +kernel
theorem dX12_keepsOn_89 : decode cX12_keepsOn 89 = .ok (.aload_n 0, 1) := by decide +kernel
theorem dX12_keepsOn_90 : decode cX12_keepsOn 90 = .ok (.getfield 201, 3) := by decide +kernel
theorem dX12_keepsOn_93 : decode cX12_keepsOn 93 = .ok (.iaload, 1) := by decide +kernel
theorem dX12_keepsOn_94 : decode cX12_keepsOn 94 = .ok (.iconst 1, 1) := by decide +kernel
theorem dX12_keepsOn_95 : decode cX12_keepsOn 95 = .ok (.if_icmp .eq 5, 3) := by decide +kernel
theorem dX12_keepsOn_98 : decode cX12_keepsOn 98 = .ok (.iconst 4, 1) := by decide +kernel
theorem dX12_keepsOn_99 : decode cX12_keepsOn 99 = .ok (.ireturn, 1) := by decide +kernel
theorem dX12_keepsOn_100 : decode cX12_keepsOn 100 = .ok (.aload_n 0, 1) := by decide +kernel
theorem dX12_keepsOn_101 : decode cX12_keepsOn 101 = .ok (.getfield 192, 3) := by decide +kernel
theorem dX12_keepsOn_104 : decode cX12_keepsOn 104 = .ok (.sipush 128, 3) := by decide +kernel
theorem dX12_keepsOn_107 : decode cX12_keepsOn 107 = .ok (.iload_n 1, 1) := by decide +kernel
theorem dX12_keepsOn_108 : decode cX12_keepsOn 108 = .ok (.imul, 1) := by decide +kernel
theorem dX12_keepsOn_109 : decode cX12_keepsOn 109 = .ok (.iload_n 2, 1) := by decide +kernel
theorem dX12_keepsOn_110 : decode cX12_keepsOn 110 = .ok (.iadd, 1) := by decide +kernel
theorem dX12_keepsOn_111 : decode cX12_keepsOn 111 = .ok (.aload_n 0, 1) := by decide +kernel
theorem dX12_keepsOn_112 : decode cX12_keepsOn 112 = .ok (.getfield 201, 3) := by decide +kernel
theorem dX12_keepsOn_115 : decode cX12_keepsOn 115 = .ok (.iastore, 1) := by decide +kernel
theorem dX12_keepsOn_116 : decode cX12_keepsOn 116 = .ok (.iconst 0, 1) := by decide +kernel
theorem dX12_keepsOn_117 : decode cX12_keepsOn 117 = .ok (.ireturn, 1) := by decide +kernel
def M_X12_keepsOn : y_M := (yX12_keepsOn, cX12_keepsOn, 3, (Option.some Jvm.ClassFile.FieldType.int))
theorem n_X12_keepsOn : y_N0 M_X12_keepsOn 2 := ⟨(c_10 90 (by decide +kernel) rfl), (c_1 9 (by decide +kernel) rfl), ⟨by decide +kernel, by decide +kernel⟩, by decide +kernel⟩
theorem l_BoxYardModel_485 : y_lnk "BoxYardModel" 485 M_X12_isShelf := Or.inl (c_10 91 (by decide +kernel) rfl)
theorem i_X12_isShelf : Cond.instanceMethod (M_X12_isShelf).1 ∈ y_tb := (c_10 93 (by decide +kernel) rfl)
theorem e_X12_isShelf : Cond.selects (M_X12_isShelf).1.cls (M_X12_isShelf).1 (M_X12_isShelf).1 ∈ y_tb := (m_s 114 (by decide +kernel) rfl)
theorem l_BoxYardModel_488 : y_lnk "BoxYardModel" 488 M_X12_isKind := Or.inl (c_10 95 (by decide +kernel) rfl)
theorem i_X12_isKind : Cond.instanceMethod (M_X12_isKind).1 ∈ y_tb := (c_10 97 (by decide +kernel) rfl)
theorem e_X12_isKind : Cond.selects (M_X12_isKind).1.cls (M_X12_isKind).1 (M_X12_isKind).1 ∈ y_tb := (m_s 115 (by decide +kernel) rfl)
set_option maxRecDepth 100000 in
def f_X12_keepsOn (p0 : Nat) (p1 : Int32) (p2 : Int32) (h : y_H) : Option (Int32 × y_H) :=
  if y_K h p0 = 13 then
  y_cl (f_X12_isShelf p0 p1 h) (fun r1 h2 =>
  if r1 = true then
    if y_K h2 p0 = 13 then
    y_jn (fun (v0_38 : Nat) (v1_38 : Int32) (v2_38 : Int32) (h4 : y_H) => (
        if y_K h4 v0_38 = 13 then
        if y_K h4 (y_P h4 v0_38 78) = 100 ∧ y_ix v1_38 (y_N h4 (y_P h4 v0_38 78)) = true then
        y_cl (f_X12_in v2_38 0 ((y_I h4 (y_P h4 v0_38 78) (Int32.toNatClampNeg v1_38)) - 1) h4) (fun r5 h6 =>
        if r5 = true then
          if y_K h6 v0_38 = 13 then
          y_jn (fun (v0_100 : Nat) (v1_100 : Int32) (v2_100 : Int32) (h8 : y_H) => (
              if y_K h8 v0_100 = 13 then
              if y_K h8 v0_100 = 13 then
              if y_K h8 (y_P h8 v0_100 77) = 100 ∧ y_ix ((128 * v1_100) + v2_100) (y_N h8 (y_P h8 v0_100 77)) = true then
              y_bd (s_I h8 (y_P h8 v0_100 77) (Int32.toNatClampNeg ((128 * v1_100) + v2_100)) (y_I h8 v0_100 82)) (fun h9 =>
              some (0, h9))
              else none
              else none
              else none : Option (Int32 × y_H))) (fun j100 =>
          if (y_I h6 v0_38 81) = 0 then
            y_jn (fun (h14 : y_H) => (
                some (4, h14) : Option (Int32 × y_H))) (fun j98 =>
            y_jn (fun (v0_80 : Nat) (v1_80 : Int32) (v2_80 : Int32) (h15 : y_H) => (
                if v1_80 = 2 then
                  if y_K h15 v0_80 = 13 then
                  if y_K h15 v0_80 = 13 then
                  if y_K h15 (y_P h15 v0_80 1) = 100 ∧ y_ix (y_I h15 v0_80 82) (y_N h15 (y_P h15 v0_80 1)) = true then
                  if (y_I h15 (y_P h15 v0_80 1) (Int32.toNatClampNeg (y_I h15 v0_80 82))) = 1 then
                    j100 v0_80 v1_80 v2_80 h15
                  else
                    j98 h15
                  else none
                  else none
                  else none
                else
                  j100 v0_80 v1_80 v2_80 h15 : Option (Int32 × y_H))) (fun j80 =>
            if v1_38 = 1 then
              if y_K h6 v0_38 = 13 then
              if y_K h6 v0_38 = 13 then
              y_cl (f_X12_isKind v0_38 (y_I h6 v0_38 82) 0 h6) (fun r21 h22 =>
              if r21 = true then
                j80 v0_38 v1_38 v2_38 h22
              else
                j98 h22)
              else none
              else none
            else
              j80 v0_38 v1_38 v2_38 h6))
          else
            j100 v0_38 v1_38 v2_38 h6)
          else none
        else
          some (2, h6))
        else none
        else none : Option (Int32 × y_H))) (fun j38 =>
    if (y_I h2 p0 81) = (-9 : Int32) then
      j38 p0 p1 p2 h2
    else
      if y_K h2 p0 = 13 then
      if p1 = 3 then
        if (y_I h2 p0 81) = 1 then
          j38 p0 p1 p2 h2
        else
          some (5, h2)
      else
        if (y_I h2 p0 81) = 0 then
          j38 p0 p1 p2 h2
        else
          some (5, h2)
      else none)
    else none
  else
    some (2, h2))
  else none
abbrev rm_X12_keepsOn : Room := { frames := 2, cells := 0, slots := 0, locals := 43 }
set_option maxRecDepth 100000 in
set_option maxHeartbeats 4000000 in
theorem k_X12_keepsOn {l : Launch} {G : y_G} {p0 : Nat} {p1 : Int32} {p2 : Int32} {h hz : y_H} {rz : Int32} (hf : f_X12_keepsOn p0 p1 p2 h = some (rz, hz)) : y_S l G M_X12_keepsOn rm_X12_keepsOn [y_p p0, .int p1, .int p2] h (some (.int rz)) hz := by
  refine y_start (lv := [(0, y_p p0), (1, .int p1), (2, .int p2)]) (by decide) (by simp [lg_sl, y_p_cat, y_ci, y_cj, M_X12_keepsOn]) (by simp [lv_args, y_p_cat, y_ci, y_cj]) (fun z ad0 => ?_)
  unfold f_X12_keepsOn at hf
  refine y_aload_n (x := p0) (pc2 := 1) rfl dX12_keepsOn_0 rfl ?_
  refine y_iload_n (pc2 := 2) rfl dX12_keepsOn_1 rfl ?_
  obtain ⟨g40, hf⟩ := y_g hf
  obtain ⟨r1, h2, c3, hf⟩ := y_clE hf
  refine y_callV (As := [.int p1]) (rm := rm_X12_isShelf) (cells := 0) (slots := 0) (pc2 := 5) rfl dX12_keepsOn_2 n_X12_isShelf l_BoxYardModel_485 i_X12_isShelf e_X12_isShelf (ci := 12) rfl rfl (by decide) g40 rfl rfl (by decide) (by decide) (by decide) (k_X12_isShelf c3) ?_
  refine y_ifz_ne (tgt := 10) (pc2 := 8) rfl dX12_keepsOn_5 (by decide) (fun c39 => ?_) (fun c39 => ?_)
  · replace hf := y_it c39 hf
    refine y_aload_n (x := p0) (pc2 := 11) rfl dX12_keepsOn_10 rfl ?_
    obtain ⟨g38, hf⟩ := y_g hf
    refine y_getI (pc2 := 14) rfl dX12_keepsOn_11 F_BoxYardModel_198 (by decide) rfl g38 ?_
    refine y_bipush (v := (-9 : Int32)) (pc2 := 16) rfl dX12_keepsOn_14 (by decide) ?_
    refine y_jnE hf (fun j => ∀ (v0_38 : Nat) (v1_38 : Int32) (v2_38 : Int32) (h4 : y_H), j v0_38 v1_38 v2_38 h4 = some (rz, hz) → y_V l G z rm_X12_keepsOn M_X12_keepsOn ad0 h (some (.int rz)) hz 38 [(0, y_p v0_38), (1, .int v1_38), (2, .int v2_38)] [] h4 0 0) (fun v0_38 v1_38 v2_38 h4 hf => ?_) (fun j38 hj38 hf => ?_)
    · refine y_iload_n (pc2 := 39) rfl dX12_keepsOn_38 rfl ?_
      refine y_iconst (v := 0) (pc2 := 40) rfl dX12_keepsOn_39 (by decide) ?_
      refine y_aload_n (x := v0_38) (pc2 := 41) rfl dX12_keepsOn_40 rfl ?_
      obtain ⟨g32, hf⟩ := y_g hf
      refine y_getP (pc2 := 44) rfl dX12_keepsOn_41 F_BoxYardModel_195 (by decide) rfl g32 ?_
      refine y_iload_n (pc2 := 45) rfl dX12_keepsOn_44 rfl ?_
      obtain ⟨g31, hf⟩ := y_g hf
      refine y_iald (pc2 := 46) rfl dX12_keepsOn_45 g31.1 (y_ix_in g31.2) ?_
      refine y_iconst (v := 1) (pc2 := 47) rfl dX12_keepsOn_46 (by decide) ?_
      refine y_isub (pc2 := 48) rfl dX12_keepsOn_47 ?_
      obtain ⟨r5, h6, c7, hf⟩ := y_clE hf
      refine y_callS (As := [.int v2_38, .int 0, .int ((y_I h4 (y_P h4 v0_38 78) (Int32.toNatClampNeg v1_38)) - 1)]) (rm := rm_X12_in) (cells := 0) (slots := 0) (pc2 := 51) rfl dX12_keepsOn_48 n_X12_in l_BoxYardModel_278 t_X12_in rfl rfl (by decide) (by decide) (by decide) (k_X12_in c7) ?_
      refine y_ifz_ne (tgt := 56) (pc2 := 54) rfl dX12_keepsOn_51 (by decide) (fun c30 => ?_) (fun c30 => ?_)
      · replace hf := y_it c30 hf
        refine y_aload_n (x := v0_38) (pc2 := 57) rfl dX12_keepsOn_56 rfl ?_
        obtain ⟨g29, hf⟩ := y_g hf
        refine y_getI (pc2 := 60) rfl dX12_keepsOn_57 F_BoxYardModel_198 (by decide) rfl g29 ?_
        refine y_jnE hf (fun j => ∀ (v0_100 : Nat) (v1_100 : Int32) (v2_100 : Int32) (h8 : y_H), j v0_100 v1_100 v2_100 h8 = some (rz, hz) → y_V l G z rm_X12_keepsOn M_X12_keepsOn ad0 h (some (.int rz)) hz 100 [(0, y_p v0_100), (1, .int v1_100), (2, .int v2_100)] [] h8 0 0) (fun v0_100 v1_100 v2_100 h8 hf => ?_) (fun j100 hj100 hf => ?_)
        · refine y_aload_n (x := v0_100) (pc2 := 101) rfl dX12_keepsOn_100 rfl ?_
          obtain ⟨g13, hf⟩ := y_g hf
          refine y_getP (pc2 := 104) rfl dX12_keepsOn_101 F_BoxYardModel_192 (by decide) rfl g13 ?_
          refine y_sipush (v := 128) (pc2 := 107) rfl dX12_keepsOn_104 (by decide) ?_
          refine y_iload_n (pc2 := 108) rfl dX12_keepsOn_107 rfl ?_
          refine y_imul (pc2 := 109) rfl dX12_keepsOn_108 ?_
          refine y_iload_n (pc2 := 110) rfl dX12_keepsOn_109 rfl ?_
          refine y_iadd (pc2 := 111) rfl dX12_keepsOn_110 ?_
          refine y_aload_n (x := v0_100) (pc2 := 112) rfl dX12_keepsOn_111 rfl ?_
          obtain ⟨g12, hf⟩ := y_g hf
          refine y_getI (pc2 := 115) rfl dX12_keepsOn_112 F_BoxYardModel_201 (by decide) rfl g12 ?_
          obtain ⟨g11, hf⟩ := y_g hf
          obtain ⟨h9, e10, hf⟩ := y_bdE hf
          refine y_iast (x := y_I h8 v0_100 82) (pc2 := 116) rfl dX12_keepsOn_115 g11.1 (y_ix_in g11.2) e10 ?_
          refine y_iconst (v := 0) (pc2 := 117) rfl dX12_keepsOn_116 (by decide) ?_
          exact y_iretF hf dX12_keepsOn_117 rfl (by decide) (by decide)
        · refine y_if_ne (tgt := 100) (pc2 := 63) rfl dX12_keepsOn_60 (by decide) (fun c28 => ?_) (fun c28 => ?_)
          · replace hf := y_ie c28 hf
            exact y_pk [0, 1, 2] rfl (hj100 _ _ _ _ hf)
          · replace hf := y_it c28 hf
            refine y_iload_n (pc2 := 64) rfl dX12_keepsOn_63 rfl ?_
            refine y_iconst (v := 1) (pc2 := 65) rfl dX12_keepsOn_64 (by decide) ?_
            refine y_jnE hf (fun j => ∀ (h14 : y_H), j h14 = some (rz, hz) → y_V l G z rm_X12_keepsOn M_X12_keepsOn ad0 h (some (.int rz)) hz 98 [] [] h14 0 0) (fun h14 hf => ?_) (fun j98 hj98 hf => ?_)
            · refine y_iconst (v := 4) (pc2 := 99) rfl dX12_keepsOn_98 (by decide) ?_
              exact y_iretF hf dX12_keepsOn_99 rfl (by decide) (by decide)
            · refine y_jnE hf (fun j => ∀ (v0_80 : Nat) (v1_80 : Int32) (v2_80 : Int32) (h15 : y_H), j v0_80 v1_80 v2_80 h15 = some (rz, hz) → y_V l G z rm_X12_keepsOn M_X12_keepsOn ad0 h (some (.int rz)) hz 80 [(0, y_p v0_80), (1, .int v1_80), (2, .int v2_80)] [] h15 0 0) (fun v0_80 v1_80 v2_80 h15 hf => ?_) (fun j80 hj80 hf => ?_)
              · refine y_iload_n (pc2 := 81) rfl dX12_keepsOn_80 rfl ?_
                refine y_iconst (v := 2) (pc2 := 82) rfl dX12_keepsOn_81 (by decide) ?_
                refine y_icmp_ne (tgt := 100) (pc2 := 85) rfl dX12_keepsOn_82 (by decide) (fun c20 => ?_) (fun c20 => ?_)
                · replace hf := y_ie c20 hf
                  exact y_pk [0, 1, 2] rfl (hj100 _ _ _ _ hf)
                · replace hf := y_it c20 hf
                  refine y_aload_n (x := v0_80) (pc2 := 86) rfl dX12_keepsOn_85 rfl ?_
                  obtain ⟨g19, hf⟩ := y_g hf
                  refine y_getP (pc2 := 89) rfl dX12_keepsOn_86 F_BoxYardModel_7 (by decide) rfl g19 ?_
                  refine y_aload_n (x := v0_80) (pc2 := 90) rfl dX12_keepsOn_89 rfl ?_
                  obtain ⟨g18, hf⟩ := y_g hf
                  refine y_getI (pc2 := 93) rfl dX12_keepsOn_90 F_BoxYardModel_201 (by decide) rfl g18 ?_
                  obtain ⟨g17, hf⟩ := y_g hf
                  refine y_iald (pc2 := 94) rfl dX12_keepsOn_93 g17.1 (y_ix_in g17.2) ?_
                  refine y_iconst (v := 1) (pc2 := 95) rfl dX12_keepsOn_94 (by decide) ?_
                  refine y_icmp_eq (tgt := 100) (pc2 := 98) rfl dX12_keepsOn_95 (by decide) (fun c16 => ?_) (fun c16 => ?_)
                  · replace hf := y_it c16 hf
                    exact y_pk [0, 1, 2] rfl (hj100 _ _ _ _ hf)
                  · replace hf := y_ie c16 hf
                    exact y_pk [] rfl (hj98 _ hf)
              · refine y_icmp_ne (tgt := 80) (pc2 := 68) rfl dX12_keepsOn_65 (by decide) (fun c27 => ?_) (fun c27 => ?_)
                · replace hf := y_ie c27 hf
                  exact y_pk [0, 1, 2] rfl (hj80 _ _ _ _ hf)
                · replace hf := y_it c27 hf
                  refine y_aload_n (x := v0_38) (pc2 := 69) rfl dX12_keepsOn_68 rfl ?_
                  refine y_aload_n (x := v0_38) (pc2 := 70) rfl dX12_keepsOn_69 rfl ?_
                  obtain ⟨g26, hf⟩ := y_g hf
                  refine y_getI (pc2 := 73) rfl dX12_keepsOn_70 F_BoxYardModel_201 (by decide) rfl g26 ?_
                  refine y_iconst (v := 0) (pc2 := 74) rfl dX12_keepsOn_73 (by decide) ?_
                  obtain ⟨g25, hf⟩ := y_g hf
                  obtain ⟨r21, h22, c23, hf⟩ := y_clE hf
                  refine y_callV (As := [.int (y_I h6 v0_38 82), .int 0]) (rm := rm_X12_isKind) (cells := 0) (slots := 0) (pc2 := 77) rfl dX12_keepsOn_74 n_X12_isKind l_BoxYardModel_488 i_X12_isKind e_X12_isKind (ci := 12) rfl rfl (by decide) g25 rfl rfl (by decide) (by decide) (by decide) (k_X12_isKind c23) ?_
                  refine y_ifz_eq (tgt := 98) (pc2 := 80) rfl dX12_keepsOn_77 (by decide) (fun c24 => ?_) (fun c24 => ?_)
                  · replace hf := y_ie c24 hf
                    exact y_pk [] rfl (hj98 _ hf)
                  · replace hf := y_it c24 hf
                    exact y_pk [0, 1, 2] rfl (hj80 _ _ _ _ hf)
      · replace hf := y_ie c30 hf
        refine y_iconst (v := 2) (pc2 := 55) rfl dX12_keepsOn_54 (by decide) ?_
        exact y_iretF hf dX12_keepsOn_55 rfl (by decide) (by decide)
    · refine y_icmp_eq (tgt := 38) (pc2 := 19) rfl dX12_keepsOn_16 (by decide) (fun c37 => ?_) (fun c37 => ?_)
      · replace hf := y_it c37 hf
        exact y_pk [0, 1, 2] rfl (hj38 _ _ _ _ hf)
      · replace hf := y_ie c37 hf
        refine y_aload_n (x := p0) (pc2 := 20) rfl dX12_keepsOn_19 rfl ?_
        obtain ⟨g36, hf⟩ := y_g hf
        refine y_getI (pc2 := 23) rfl dX12_keepsOn_20 F_BoxYardModel_198 (by decide) rfl g36 ?_
        refine y_iload_n (pc2 := 24) rfl dX12_keepsOn_23 rfl ?_
        refine y_iconst (v := 3) (pc2 := 25) rfl dX12_keepsOn_24 (by decide) ?_
        refine y_icmp_ne (tgt := 32) (pc2 := 28) rfl dX12_keepsOn_25 (by decide) (fun c35 => ?_) (fun c35 => ?_)
        · replace hf := y_ie c35 hf
          refine y_iconst (v := 0) (pc2 := 33) rfl dX12_keepsOn_32 (by decide) ?_
          refine y_icmp_eq (tgt := 38) (pc2 := 36) rfl dX12_keepsOn_33 (by decide) (fun c33 => ?_) (fun c33 => ?_)
          · replace hf := y_it c33 hf
            exact y_pk [0, 1, 2] rfl (hj38 _ _ _ _ hf)
          · replace hf := y_ie c33 hf
            refine y_iconst (v := 5) (pc2 := 37) rfl dX12_keepsOn_36 (by decide) ?_
            exact y_iretF hf dX12_keepsOn_37 rfl (by decide) (by decide)
        · replace hf := y_it c35 hf
          refine y_iconst (v := 1) (pc2 := 29) rfl dX12_keepsOn_28 (by decide) ?_
          refine y_goto (tgt := 33) dX12_keepsOn_29 (by decide) ?_
          refine y_icmp_eq (tgt := 38) (pc2 := 36) rfl dX12_keepsOn_33 (by decide) (fun c34 => ?_) (fun c34 => ?_)
          · replace hf := y_it c34 hf
            exact y_pk [0, 1, 2] rfl (hj38 _ _ _ _ hf)
          · replace hf := y_ie c34 hf
            refine y_iconst (v := 5) (pc2 := 37) rfl dX12_keepsOn_36 (by decide) ?_
            exact y_iretF hf dX12_keepsOn_37 rfl (by decide) (by decide)
  · replace hf := y_ie c39 hf
    refine y_iconst (v := 2) (pc2 := 9) rfl dX12_keepsOn_8 (by decide) ?_
    exact y_iretF hf dX12_keepsOn_9 rfl (by decide) (by decide)
