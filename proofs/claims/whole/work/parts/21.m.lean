theorem dX12_back_0 : decode cX12_back 0 = .ok (.iload_n 1, 1) := by decide +kernel
theorem dX12_back_1 : decode cX12_back 1 = .ok (.ifCond .lt 11, 3) := by decide +kernel
theorem dX12_back_4 : decode cX12_back 4 = .ok (.iload_n 1, 1) := by decide +kernel
theorem dX12_back_5 : decode cX12_back 5 = .ok (.aload_n 0, 1) := by decide +kernel
theorem dX12_back_6 : decode cX12_back 6 = .ok (.getfield 255, 3) := by decide +kernel
theorem dX12_back_9 : decode cX12_back 9 = .ok (.if_icmp .le 7, 3) := by decide +kernel
theorem dX12_back_12 : decode cX12_back 12 = .ok (.ldc2_w 464, 3) := by decide +kernel
theorem dX12_back_15 : decode cX12_back 15 = .ok (.lreturn, 1) := by decide +kernel
theorem dX12_back_16 : decode cX12_back 16 = .ok (.iconst 0, 1) := by decide +kernel
theorem dX12_back_17 : decode cX12_back 17 = .ok (.istore_n 2, 1) := by decide +kernel
theorem dX12_back_18 : decode cX12_back 18 = .ok (.iload_n 2, 1) := by decide +kernel
theorem dX12_back_19 : decode cX12_back 19 = .ok (.aload_n 0, 1) := by decide +kernel
theorem dX12_back_20 : decode cX12_back 20 = .ok (.getfield 234, 3) := by decide +kernel
theorem dX12_back_23 : decode cX12_back 23 = .ok (.if_icmp .ge 86, 3) := by decide +kernel
theorem dX12_back_26 : decode cX12_back 26 = .ok (.aload_n 0, 1) := by decide +kernel
theorem dX12_back_27 : decode cX12_back 27 = .ok (.getfield 222, 3) := by decide +kernel
theorem dX12_back_30 : decode cX12_back 30 = .ok (.iconst 5, 1) := by decide +kernel
theorem dX12_back_31 : decode cX12_back 31 = .ok (.iload_n 2, 1) := by decide +kernel
theorem dX12_back_32 : decode cX12_back 32 = .ok (.imul, 1) := by decide +kernel
theorem dX12_back_33 : decode cX12_back 33 = .ok (.aload_n 0, 1) := by decide +kernel
theorem dX12_back_34 : decode cX12_back 34 = .ok (.getfield 29, 3) := by decide +kernel
theorem dX12_back_37 : decode cX12_back 37 = .ok (.iload_n 2, 1) := by decide +kernel
theorem dX12_back_38 : decode cX12_back 38 = .ok (.iaload, 1) := by decide +kernel
theorem dX12_back_39 : decode cX12_back 39 = .ok (.iastore, 1) := by decide +kernel
theorem dX12_back_40 : decode cX12_back 40 = .ok (.aload_n 0, 1) := by decide +kernel
theorem dX12_back_41 : decode cX12_back 41 = .ok (.getfield 222, 3) := by decide +kernel
theorem dX12_back_44 : decode cX12_back 44 = .ok (.iconst 5, 1) := by decide +kernel
theorem dX12_back_45 : decode cX12_back 45 = .ok (.iload_n 2, 1) := by decide +kernel
theorem dX12_back_46 : decode cX12_back 46 = .ok (.imul, 1) := by decide +kernel
theorem dX12_back_47 : decode cX12_back 47 = .ok (.iconst 1, 1) := by decide +kernel
theorem dX12_back_48 : decode cX12_back 48 = .ok (.iadd, 1) := by decide +kernel
theorem dX12_back_49 : decode cX12_back 49 = .ok (.aload_n 0, 1) := by decide +kernel
theorem dX12_back_50 : decode cX12_back 50 = .ok (.getfield 32, 3) := by decide +kernel
theorem dX12_back_53 : decode cX12_back 53 = .ok (.iload_n 2, 1) := by decide +kernel
theorem dX12_back_54 : decode cX12_back 54 = .ok (.iaload, 1) := by decide +kernel
theorem dX12_back_55 : decode cX12_back 55 = .ok (.iastore, 1) := by decide +kernel
theorem dX12_back_56 : decode cX12_back 56 = .ok (.aload_n 0, 1) := by decide +kernel
theorem dX12_back_57 : decode cX12_back 57 = .ok (.getfield 222, 3) := by decide +kernel
theorem dX12_back_60 : decode cX12_back 60 = .ok (.iconst 5, 1) := by decide +kernel
theorem dX12_back_61 : decode cX12_back 61 = .ok (.iload_n 2, 1) := by decide +kernel
theorem dX12_back_62 : decode cX12_back 62 = .ok (.imul, 1) := by decide +kernel
theorem dX12_back_63 : decode cX12_back 63 = .ok (.iconst 2, 1) := by decide +kernel
theorem dX12_back_64 : decode cX12_back 64 = .ok (.iadd, 1) := by decide +kernel
theorem dX12_back_65 : decode cX12_back 65 = .ok (.aload_n 0, 1) := by decide +kernel
theorem dX12_back_66 : decode cX12_back 66 = .ok (.getfield 35, 3) := by decide +kernel
theorem dX12_back_69 : decode cX12_back 69 = .ok (.iload_n 2, 1) := by decide +kernel
theorem dX12_back_70 : decode cX12_back 70 = .ok (.iaload, 1) := by decide +kernel
theorem dX12_back_71 : decode cX12_back 71 = .ok (.iastore, 1) := by decide +kernel
theorem dX12_back_72 : decode cX12_back 72 = .ok (.aload_n 0, 1) := by decide +kernel
theorem dX12_back_73 : decode cX12_back 73 = .ok (.getfield 222, 3) := by decide +kernel
theorem dX12_back_76 : decode cX12_back 76 = .ok (.iconst 5, 1) := by decide +kernel
theorem dX12_back_77 : decode cX12_back 77 = .ok (.iload_n 2, 1) := by decide +kernel
theorem dX12_back_78 : decode cX12_back 78 = .ok (.imul, 1) := by decide +kernel
theorem dX12_back_79 : decode cX12_back 79 = .ok (.iconst 3, 1) := by decide +kernel
theorem dX12_back_80 : decode cX12_back 80 = .ok (.iadd, 1) := by decide +kernel
theorem dX12_back_81 : decode cX12_back 81 = .ok (.aload_n 0, 1) := by decide +kernel
theorem dX12_back_82 : decode cX12_back 82 = .ok (.getfield 38, 3) := by decide +kernel
theorem dX12_back_85 : decode cX12_back 85 = .ok (.iload_n 2, 1) := by decide +kernel
theorem dX12_back_86 : decode cX12_back 86 = .ok (.iaload, 1) := by decide +kernel
theorem dX12_back_87 : decode cX12_back 87 = .ok (.iastore, 1) := by decide +kernel
theorem dX12_back_88 : decode cX12_back 88 = .ok (.aload_n 0, 1) := by decide +kernel
theorem dX12_back_89 : decode cX12_back 89 = .ok (.getfield 222, 3) := by decide +kernel
theorem dX12_back_92 : decode cX12_back 92 = .ok (.iconst 5, 1) := by decide +kernel
theorem dX12_back_93 : decode cX12_back 93 = .ok (.iload_n 2, 1) := by decide +kernel
theorem dX12_back_94 : decode cX12_back 94 = .ok (.imul, 1) := by decide +kernel
theorem dX12_back_95 : decode cX12_back 95 = .ok (.iconst 4, 1) := by decide +kernel
theorem dX12_back_96 : decode cX12_back 96 = .ok (.iadd, 1) := by decide +kernel
theorem dX12_back_97 : decode cX12_back 97 = .ok (.aload_n 0, 1) := by decide +kernel
theorem dX12_back_98 : decode cX12_back 98 = .ok (.iload_n 2, 1) := by decide +kernel
theorem dX12_back_99 : decode cX12_back 99 = .ok (.invokevirtual 290, 3) := by decide +kernel
theorem dX12_back_102 : decode cX12_back 102 = .ok (.iastore, 1) := by decide +kernel
theorem dX12_back_103 : decode cX12_back 103 = .ok (.iinc 2 1, 3) := by decide +kernel
theorem dX12_back_106 : decode cX12_back 106 = .ok (.goto (-88), 3) := by decide +kernel
theorem dX12_back_109 : decode cX12_back 109 = .ok (.iconst 0, 1) := by decide +kernel
theorem dX12_back_110 : decode cX12_back 110 = .ok (.istore_n 2, 1) := by decide +kernel
theorem dX12_back_111 : decode cX12_back 111 = .ok (.iload_n 2, 1) := by decide +kernel
theorem dX12_back_112 : decode cX12_back 112 = .ok (.aload_n 0, 1) := by decide +kernel
theorem dX12_back_113 : decode cX12_back 113 = .ok (.getfield 240, 3) := by decide +kernel
theorem dX12_back_116 : decode cX12_back 116 = .ok (.if_icmp .ge 55, 3) := by decide +kernel
theorem dX12_back_119 : decode cX12_back 119 = .ok (.aload_n 0, 1) := by decide +kernel
theorem dX12_back_120 : decode cX12_back 120 = .ok (.getfield 225, 3) := by decide +kernel
theorem dX12_back_123 : decode cX12_back 123 = .ok (.iconst 3, 1) := by decide +kernel
theorem dX12_back_124 : decode cX12_back 124 = .ok (.iload_n 2, 1) := by decide +kernel
theorem dX12_back_125 : decode cX12_back 125 = .ok (.imul, 1) := by decide +kernel
theorem dX12_back_126 : decode cX12_back 126 = .ok (.aload_n 0, 1) := by decide +kernel
theorem dX12_back_127 : decode cX12_back 127 = .ok (.getfield 86, 3) := by decide +kernel
theorem dX12_back_130 : decode cX12_back 130 = .ok (.iload_n 2, 1) := by decide +kernel
theorem dX12_back_131 : decode cX12_back 131 = .ok (.iaload, 1) := by decide +kernel
theorem dX12_back_132 : decode cX12_back 132 = .ok (.iastore, 1) := by decide +kernel
theorem dX12_back_133 : decode cX12_back 133 = .ok (.aload_n 0, 1) := by decide +kernel
theorem dX12_back_134 : decode cX12_back 134 = .ok (.getfield 225, 3) := by decide +kernel
theorem dX12_back_137 : decode cX12_back 137 = .ok (.iconst 3, 1) := by decide +kernel
theorem dX12_back_138 : decode cX12_back 138 = .ok (.iload_n 2, 1) := by decide +kernel
theorem dX12_back_139 : decode cX12_back 139 = .ok (.imul, 1) := by decide +kernel
theorem dX12_back_140 : decode cX12_back 140 = .ok (.iconst 1, 1) := by decide +kernel
theorem dX12_back_141 : decode cX12_back 141 = .ok (.iadd, 1) := by decide +kernel
theorem dX12_back_142 : decode cX12_back 142 = .ok (.aload_n 0, 1) := by decide +kernel
theorem dX12_back_143 : decode cX12_back 143 = .ok (.getfield 89, 3) := by decide +kernel
theorem dX12_back_146 : decode cX12_back 146 = .ok (.iload_n 2, 1) := by decide +kernel
theorem dX12_back_147 : decode cX12_back 147 = .ok (.iaload, 1) := by decide +kernel
theorem dX12_back_148 : decode cX12_back 148 = .ok (.iastore, 1) := by decide +kernel
theorem dX12_back_149 : decode cX12_back 149 = .ok (.aload_n 0, 1) := by decide +kernel
theorem dX12_back_150 : decode cX12_back 150 = .ok (.getfield 225, 3) := by decide +kernel
theorem dX12_back_153 : decode cX12_back 153 = .ok (.iconst 3, 1) := by decide +kernel
theorem dX12_back_154 : decode cX12_back 154 = .ok (.iload_n 2, 1) := by decide +kernel
theorem dX12_back_155 : decode cX12_back 155 = .ok (.imul, 1) := by decide +kernel
theorem dX12_back_156 : decode cX12_back 156 = .ok (.iconst 2, 1) := by decide +kernel
theorem dX12_back_157 : decode cX12_back 157 = .ok (.iadd, 1) := by decide +kernel
theorem dX12_back_158 : decode cX12_back 158 = .ok (.aload_n 0, 1) := by decide +kernel
theorem dX12_back_159 : decode cX12_back 159 = .ok (.getfield 92, 3) := by decide +kernel
theorem dX12_back_162 : decode cX12_back 162 = .ok (.iload_n 2, 1) := by decide +kernel
theorem dX12_back_163 : decode cX12_back 163 = .ok (.iaload, 1) := by decide +kernel
theorem dX12_back_164 : decode cX12_back 164 = .ok (.iastore, 1) := by decide +kernel
theorem dX12_back_165 : decode cX12_back 165 = .ok (.iinc 2 1, 3) := by decide +kernel
theorem dX12_back_168 : decode cX12_back 168 = .ok (.goto (-57), 3) := by decide +kernel
theorem dX12_back_171 : decode cX12_back 171 = .ok (.iconst 0, 1) := by decide +kernel
theorem dX12_back_172 : decode cX12_back 172 = .ok (.istore_n 2, 1) := by decide +kernel
theorem dX12_back_173 : decode cX12_back 173 = .ok (.iload_n 2, 1) := by decide +kernel
theorem dX12_back_174 : decode cX12_back 174 = .ok (.aload_n 0, 1) := by decide +kernel
theorem dX12_back_175 : decode cX12_back 175 = .ok (.getfield 246, 3) := by decide +kernel
theorem dX12_back_178 : decode cX12_back 178 = .ok (.if_icmp .ge 39, 3) := by decide +kernel
theorem dX12_back_181 : decode cX12_back 181 = .ok (.aload_n 0, 1) := by decide +kernel
theorem dX12_back_182 : decode cX12_back 182 = .ok (.getfield 228, 3) := by decide +kernel
theorem dX12_back_185 : decode cX12_back 185 = .ok (.iconst 2, 1) := by decide +kernel
theorem dX12_back_186 : decode cX12_back 186 = .ok (.iload_n 2, 1) := by decide +kernel
theorem dX12_back_187 : decode cX12_back 187 = .ok (.imul, 1) := by decide +kernel
theorem dX12_back_188 : decode cX12_back 188 = .ok (.aload_n 0, 1) := by decide +kernel
theorem dX12_back_189 : decode cX12_back 189 = .ok (.getfield 125, 3) := by decide +kernel
theorem dX12_back_192 : decode cX12_back 192 = .ok (.iload_n 2, 1) := by decide +kernel
theorem dX12_back_193 : decode cX12_back 193 = .ok (.iaload, 1) := by decide +kernel
theorem dX12_back_194 : decode cX12_back 194 = .ok (.iastore, 1) := by decide +kernel
theorem dX12_back_195 : decode cX12_back 195 = .ok (.aload_n 0, 1) := by decide +kernel
theorem dX12_back_196 : decode cX12_back 196 = .ok (.getfield 228, 3) := by decide +kernel
theorem dX12_back_199 : decode cX12_back 199 = .ok (.iconst 2, 1) := by decide +kernel
theorem dX12_back_200 : decode cX12_back 200 = .ok (.iload_n 2, 1) := by decide +kernel
theorem dX12_back_201 : decode cX12_back 201 = .ok (.imul, 1) := by decide +kernel
theorem dX12_back_202 : decode cX12_back 202 = .ok (.iconst 1, 1) := by decide +kernel
theorem dX12_back_203 : decode cX12_back 203 = .ok (.iadd, 1) := by decide +kernel
theorem dX12_back_204 : decode cX12_back 204 = .ok (.aload_n 0, 1) := by decide +kernel
theorem dX12_back_205 : decode cX12_back 205 = .ok (.getfield 128, 3) := by decide +kernel
theorem dX12_back_208 : decode cX12_back 208 = .ok (.iload_n 2, 1) := by decide +kernel
theorem dX12_back_209 : decode cX12_back 209 = .ok (.iaload, 1) := by decide +kernel
theorem dX12_back_210 : decode cX12_back 210 = .ok (.iastore, 1) := by decide +kernel
theorem dX12_back_211 : decode cX12_back 211 = .ok (.iinc 2 1, 3) := by decide +kernel
theorem dX12_back_214 : decode cX12_back 214 = .ok (.goto (-41), 3) := by decide +kernel
theorem dX12_back_217 : decode cX12_back 217 = .ok (.aload_n 0, 1) := by decide +kernel
theorem dX12_back_218 : decode cX12_back 218 = .ok (.getfield 255, 3) := by decide +kernel
theorem dX12_back_221 : decode cX12_back 221 = .ok (.iconst 1, 1) := by decide +kernel
theorem dX12_back_222 : decode cX12_back 222 = .ok (.isub, 1) := by decide +kernel
theorem dX12_back_223 : decode cX12_back 223 = .ok (.istore_n 2, 1) := by decide +kernel
theorem dX12_back_224 : decode cX12_back 224 = .ok (.iload_n 2, 1) := by decide +kernel
theorem dX12_back_225 : decode cX12_back 225 = .ok (.aload_n 0, 1) := by decide +kernel
theorem dX12_back_226 : decode cX12_back 226 = .ok (.getfield 255, 3) := by decide +kernel
theorem dX12_back_229 : decode cX12_back 229 = .ok (.iload_n 1, 1) := by decide +kernel
theorem dX12_back_230 : decode cX12_back 230 = .ok (.isub, 1) := by decide +kernel
theorem dX12_back_231 : decode cX12_back 231 = .ok (.if_icmp .lt 227, 3) := by decide +kernel
theorem dX12_back_234 : decode cX12_back 234 = .ok (.bipush 14, 2) := by decide +kernel
theorem dX12_back_236 : decode cX12_back 236 = .ok (.iload_n 2, 1) := by decide +kernel
theorem dX12_back_237 : decode cX12_back 237 = .ok (.imul, 1) := by decide +kernel
theorem dX12_back_238 : decode cX12_back 238 = .ok (.istore_n 3, 1) := by decide +kernel
theorem dX12_back_239 : decode cX12_back 239 = .ok (.aload_n 0, 1) := by decide +kernel
theorem dX12_back_240 : decode cX12_back 240 = .ok (.getfield 137, 3) := by decide +kernel
theorem dX12_back_243 : decode cX12_back 243 = .ok (.iload_n 3, 1) := by decide +kernel
theorem dX12_back_244 : decode cX12_back 244 = .ok (.iconst 5, 1) := by decide +kernel
theorem dX12_back_245 : decode cX12_back 245 = .ok (.iadd, 1) := by decide +kernel
theorem dX12_back_246 : decode cX12_back 246 = .ok (.iaload, 1) := by decide +kernel
theorem dX12_back_247 : decode cX12_back 247 = .ok (.istore 4, 2) := by decide +kernel
theorem dX12_back_249 : decode cX12_back 249 = .ok (.iconst 0, 1) := by decide +kernel
theorem dX12_back_250 : decode cX12_back 250 = .ok (.istore 5, 2) := by decide +kernel
theorem dX12_back_252 : decode cX12_back 252 = .ok (.iload 5, 2) := by decide +kernel
theorem dX12_back_254 : decode cX12_back 254 = .ok (.iconst 4, 1) := by decide +kernel
theorem dX12_back_255 : decode cX12_back 255 = .ok (.if_icmp .ge 38, 3) := by decide +kernel
theorem dX12_back_258 : decode cX12_back 258 = .ok (.iload 4, 2) := by decide +kernel
theorem dX12_back_260 : decode cX12_back 260 = .ok (.ifCond .lt 33, 3) := by decide +kernel
theorem dX12_back_263 : decode cX12_back 263 = .ok (.aload_n 0, 1) := by decide +kernel
theorem dX12_back_264 : decode cX12_back 264 = .ok (.getfield 222, 3) := by decide +kernel
theorem dX12_back_267 : decode cX12_back 267 = .ok (.iconst 5, 1) := by decide +kernel
theorem dX12_back_268 : decode cX12_back 268 = .ok (.iload 4, 2) := by decide +kernel
theorem dX12_back_270 : decode cX12_back 270 = .ok (.imul, 1) := by decide +kernel
theorem dX12_back_271 : decode cX12_back 271 = .ok (.iload 5, 2) := by decide +kernel
theorem dX12_back_273 : decode cX12_back 273 = .ok (.iadd, 1) := by decide +kernel
theorem dX12_back_274 : decode cX12_back 274 = .ok (.aload_n 0, 1) := by decide +kernel
theorem dX12_back_275 : decode cX12_back 275 = .ok (.getfield 137, 3) := by decide +kernel
theorem dX12_back_278 : decode cX12_back 278 = .ok (.iload_n 3, 1) := by decide +kernel
theorem dX12_back_279 : decode cX12_back 279 = .ok (.bipush 6, 2) := by decide +kernel
theorem dX12_back_281 : decode cX12_back 281 = .ok (.iadd, 1) := by decide +kernel
theorem dX12_back_282 : decode cX12_back 282 = .ok (.iload 5, 2) := by decide +kernel
theorem dX12_back_284 : decode cX12_back 284 = .ok (.iadd, 1) := by decide +kernel
theorem dX12_back_285 : decode cX12_back 285 = .ok (.iaload, 1) := by decide +kernel
theorem dX12_back_286 : decode cX12_back 286 = .ok (.iastore, 1) := by decide +kernel
theorem dX12_back_287 : decode cX12_back 287 = .ok (.iinc 5 1, 3) := by decide +kernel
theorem dX12_back_290 : decode cX12_back 290 = .ok (.goto (-38), 3) := by decide +kernel
theorem dX12_back_293 : decode cX12_back 293 = .ok (.iload 4, 2) := by decide +kernel
theorem dX12_back_295 : decode cX12_back 295 = .ok (.ifCond .lt 44, 3) := by decide +kernel
theorem dX12_back_298 : decode cX12_back 298 = .ok (.aload_n 0, 1) := by decide +kernel
theorem dX12_back_299 : decode cX12_back 299 = .ok (.getfield 222, 3) := by decide +kernel
theorem dX12_back_302 : decode cX12_back 302 = .ok (.iconst 5, 1) := by decide +kernel
theorem dX12_back_303 : decode cX12_back 303 = .ok (.iload 4, 2) := by decide +kernel
theorem dX12_back_305 : decode cX12_back 305 = .ok (.imul, 1) := by decide +kernel
theorem dX12_back_306 : decode cX12_back 306 = .ok (.iconst 4, 1) := by decide +kernel
theorem dX12_back_307 : decode cX12_back 307 = .ok (.iadd, 1) := by decide +kernel
theorem dX12_back_308 : decode cX12_back 308 = .ok (.aload_n 0, 1) := by decide +kernel
theorem dX12_back_309 : decode cX12_back 309 = .ok (.getfield 137, 3) := by decide +kernel
theorem dX12_back_312 : decode cX12_back 312 = .ok (.iload_n 3, 1) := by decide +kernel
theorem dX12_back_313 : decode cX12_back 313 = .ok (.bipush 10, 2) := by decide +kernel
theorem dX12_back_315 : decode cX12_back 315 = .ok (.iadd, 1) := by decide +kernel
theorem dX12_back_316 : decode cX12_back 316 = .ok (.iaload, 1) := by decide +kernel
theorem dX12_back_317 : decode cX12_back 317 = .ok (.iconst 1, 1) := by decide +kernel
theorem dX12_back_318 : decode cX12_back 318 = .ok (.if_icmp .ne 13, 3) := by decide +kernel
theorem dX12_back_321 : decode cX12_back 321 = .ok (.aload_n 0, 1) := by decide +kernel
theorem dX12_back_322 : decode cX12_back 322 = .ok (.getfield 16, 3) := by decide +kernel
theorem dX12_back_325 : decode cX12_back 325 = .ok (.iload 4, 2) := by decide +kernel
theorem dX12_back_327 : decode cX12_back 327 = .ok (.iaload, 1) := by decide +kernel
theorem dX12_back_328 : decode cX12_back 328 = .ok (.goto 10, 3) := by decide +kernel
theorem dX12_back_331 : decode cX12_back 331 = .ok (.aload_n 0, 1) := by decide +kernel
theorem dX12_back_332 : decode cX12_back 332 = .ok (.getfield 13, 3) := by decide +kernel
theorem dX12_back_335 : decode cX12_back 335 = .ok (.iload 4, 2) := by decide +kernel
theorem dX12_back_337 : decode cX12_back 337 = .ok (.iaload, 1) := by decide +kernel
theorem dX12_back_338 : decode cX12_back 338 = .ok (.iastore, 1) := by decide +kernel
theorem dX12_back_339 : decode cX12_back 339 = .ok (.iconst 0, 1) := by decide +kernel
theorem dX12_back_340 : decode cX12_back 340 = .ok (.istore 5, 2) := by decide +kernel
theorem dX12_back_342 : decode cX12_back 342 = .ok (.iload 5, 2) := by decide +kernel
theorem dX12_back_344 : decode cX12_back 344 = .ok (.iconst 3, 1) := by decide +kernel
theorem dX12_back_345 : decode cX12_back 345 = .ok (.if_icmp .ge 49, 3) := by decide +kernel
theorem dX12_back_348 : decode cX12_back 348 = .ok (.aload_n 0, 1) := by decide +kernel
theorem dX12_back_349 : decode cX12_back 349 = .ok (.getfield 137, 3) := by decide +kernel
theorem dX12_back_352 : decode cX12_back 352 = .ok (.iload_n 3, 1) := by decide +kernel
theorem dX12_back_353 : decode cX12_back 353 = .ok (.iconst 1, 1) := by decide +kernel
theorem dX12_back_354 : decode cX12_back 354 = .ok (.iadd, 1) := by decide +kernel
theorem dX12_back_355 : decode cX12_back 355 = .ok (.iaload, 1) := by decide +kernel
theorem dX12_back_356 : decode cX12_back 356 = .ok (.ifCond .lt 38, 3) := by decide +kernel
theorem dX12_back_359 : decode cX12_back 359 = .ok (.aload_n 0, 1) := by decide +kernel
theorem dX12_back_360 : decode cX12_back 360 = .ok (.getfield 225, 3) := by decide +kernel
theorem dX12_back_363 : decode cX12_back 363 = .ok (.iconst 3, 1) := by decide +kernel
theorem dX12_back_364 : decode cX12_back 364 = .ok (.aload_n 0, 1) := by decide +kernel
theorem dX12_back_365 : decode cX12_back 365 = .ok (.getfield 137, 3) := by decide +kernel
theorem dX12_back_368 : decode cX12_back 368 = .ok (.iload_n 3, 1) := by decide +kernel
theorem dX12_back_369 : decode cX12_back 369 = .ok (.iconst 1, 1) := by decide +kernel
theorem dX12_back_370 : decode cX12_back 370 = .ok (.iadd, 1) := by decide +kernel
theorem dX12_back_371 : decode cX12_back 371 = .ok (.iaload, 1) := by decide +kernel
theorem dX12_back_372 : decode cX12_back 372 = .ok (.imul, 1) := by decide +kernel
theorem dX12_back_373 : decode cX12_back 373 = .ok (.iload 5, 2) := by decide +kernel
theorem dX12_back_375 : decode cX12_back 375 = .ok (.iadd, 1) := by decide +kernel
theorem dX12_back_376 : decode cX12_back 376 = .ok (.aload_n 0, 1) := by decide +kernel
theorem dX12_back_377 : decode cX12_back 377 = .ok (.getfield 137, 3) := by decide +kernel
theorem dX12_back_380 : decode cX12_back 380 = .ok (.iload_n 3, 1) := by decide +kernel
theorem dX12_back_381 : decode cX12_back 381 = .ok (.iconst 2, 1) := by decide +kernel
theorem dX12_back_382 : decode cX12_back 382 = .ok (.iadd, 1) := by decide +kernel
theorem dX12_back_383 : decode cX12_back 383 = .ok (.iload 5, 2) := by decide +kernel
theorem dX12_back_385 : decode cX12_back 385 = .ok (.iadd, 1) := by decide +kernel
theorem dX12_back_386 : decode cX12_back 386 = .ok (.iaload, 1) := by decide +kernel
theorem dX12_back_387 : decode cX12_back 387 = .ok (.iastore, 1) := by decide +kernel
theorem dX12_back_388 : decode cX12_back 388 = .ok (.iinc 5 1, 3) := by decide +kernel
theorem dX12_back_391 : decode cX12_back 391 = .ok (.goto (-49), 3) := by decide +kernel
theorem dX12_back_394 : decode cX12_back 394 = .ok (.iconst 0, 1) := by decide +kernel
theorem dX12_back_395 : decode cX12_back 395 = .ok (.istore 5, 2) := by decide +kernel
theorem dX12_back_397 : decode cX12_back 397 = .ok (.iload 5, 2) := by decide +kernel
theorem dX12_back_399 : decode cX12_back 399 = .ok (.iconst 2, 1) := by decide +kernel
theorem dX12_back_400 : decode cX12_back 400 = .ok (.if_icmp .ge 52, 3) := by decide +kernel
theorem dX12_back_403 : decode cX12_back 403 = .ok (.aload_n 0, 1) := by decide +kernel
theorem dX12_back_404 : decode cX12_back 404 = .ok (.getfield 137, 3) := by decide +kernel
theorem dX12_back_407 : decode cX12_back 407 = .ok (.iload_n 3, 1) := by decide +kernel
theorem dX12_back_408 : decode cX12_back 408 = .ok (.bipush 11, 2) := by decide +kernel
theorem dX12_back_410 : decode cX12_back 410 = .ok (.iadd, 1) := by decide +kernel
theorem dX12_back_411 : decode cX12_back 411 = .ok (.iaload, 1) := by decide +kernel
theorem dX12_back_412 : decode cX12_back 412 = .ok (.ifCond .lt 40, 3) := by decide +kernel
theorem dX12_back_415 : decode cX12_back 415 = .ok (.aload_n 0, 1) := by decide +kernel
theorem dX12_back_416 : decode cX12_back 416 = .ok (.getfield 228, 3) := by decide +kernel
theorem dX12_back_419 : decode cX12_back 419 = .ok (.iconst 2, 1) := by decide +kernel
theorem dX12_back_420 : decode cX12_back 420 = .ok (.aload_n 0, 1) := by decide +kernel
theorem dX12_back_421 : decode cX12_back 421 = .ok (.getfield 137, 3) := by decide +kernel
theorem dX12_back_424 : decode cX12_back 424 = .ok (.iload_n 3, 1) := by decide +kernel
theorem dX12_back_425 : decode cX12_back 425 = .ok (.bipush 11, 2) := by decide +kernel
theorem dX12_back_427 : decode cX12_back 427 = .ok (.iadd, 1) := by decide +kernel
theorem dX12_back_428 : decode cX12_back 428 = .ok (.iaload, 1) := by decide +kernel
theorem dX12_back_429 : decode cX12_back 429 = .ok (.imul, 1) := by decide +kernel
theorem dX12_back_430 : decode cX12_back 430 = .ok (.iload 5, 2) := by decide +kernel
theorem dX12_back_432 : decode cX12_back 432 = .ok (.iadd, 1) := by decide +kernel
theorem dX12_back_433 : decode cX12_back 433 = .ok (.aload_n 0, 1) := by decide +kernel
theorem dX12_back_434 : decode cX12_back 434 = .ok (.getfield 137, 3) := by decide +kernel
theorem dX12_back_437 : decode cX12_back 437 = .ok (.iload_n 3, 1) := by decide +kernel
theorem dX12_back_438 : decode cX12_back 438 = .ok (.bipush 12, 2) := by decide +kernel
theorem dX12_back_440 : decode cX12_back 440 = .ok (.iadd, 1) := by decide +kernel
theorem dX12_back_441 : decode cX12_back 441 = .ok (.iload 5, 2) := by decide +kernel
theorem dX12_back_443 : decode cX12_back 443 = .ok (.iadd, 1) := by decide +kernel
theorem dX12_back_444 : decode cX12_back 444 = .ok (.iaload, 1) := by decide +kernel
theorem dX12_back_445 : decode cX12_back 445 = .ok (.iastore, 1) := by decide +kernel
theorem dX12_back_446 : decode cX12_back 446 = .ok (.iinc 5 1, 3) := by decide +kernel
theorem dX12_back_449 : decode cX12_back 449 = .ok (.goto (-52), 3) := by decide +kernel
theorem dX12_back_452 : decode cX12_back 452 = .ok (.iinc 2 (-1), 3) := by decide +kernel
theorem dX12_back_455 : decode cX12_back 455 = .ok (.goto (-231), 3) := by decide +kernel
theorem dX12_back_458 : decode cX12_back 458 = .ok (.ldc2_w 536, 3) := by decide +kernel
theorem dX12_back_461 : decode cX12_back 461 = .ok (.lstore_n 2, 1) := by decide +kernel
theorem dX12_back_462 : decode cX12_back 462 = .ok (.iconst 0, 1) := by decide +kernel
theorem dX12_back_463 : decode cX12_back 463 = .ok (.istore 4, 2) := by decide +kernel
theorem dX12_back_465 : decode cX12_back 465 = .ok (.iload 4, 2) := by decide +kernel
theorem dX12_back_467 : decode cX12_back 467 = .ok (.iconst 5, 1) := by decide +kernel
theorem dX12_back_468 : decode cX12_back 468 = .ok (.aload_n 0, 1) := by decide +kernel
theorem dX12_back_469 : decode cX12_back 469 = .ok (.getfield 234, 3) := by decide +kernel
theorem dX12_back_472 : decode cX12_back 472 = .ok (.imul, 1) := by decide +kernel
theorem dX12_back_473 : decode cX12_back 473 = .ok (.if_icmp .ge 22, 3) := by decide +kernel
theorem dX12_back_476 : decode cX12_back 476 = .ok (.lload_n 2, 1) := by decide +kernel
theorem dX12_back_477 : decode cX12_back 477 = .ok (.aload_n 0, 1) := by decide +kernel
theorem dX12_back_478 : decode cX12_back 478 = .ok (.getfield 222, 3) := by decide +kernel
theorem dX12_back_481 : decode cX12_back 481 = .ok (.iload 4, 2) := by decide +kernel
theorem dX12_back_483 : decode cX12_back 483 = .ok (.iaload, 1) := by decide +kernel
theorem dX12_back_484 : decode cX12_back 484 = .ok (.i2l, 1) := by decide +kernel
theorem dX12_back_485 : decode cX12_back 485 = .ok (.invokestatic 538, 3) := by decide +kernel
theorem dX12_back_488 : decode cX12_back 488 = .ok (.lstore_n 2, 1) := by decide +kernel
theorem dX12_back_489 : decode cX12_back 489 = .ok (.iinc 4 1, 3) := by decide +kernel
theorem dX12_back_492 : decode cX12_back 492 = .ok (.goto (-27), 3) := by decide +kernel
theorem dX12_back_495 : decode cX12_back 495 = .ok (.iconst 0, 1) := by decide +kernel
theorem dX12_back_496 : decode cX12_back 496 = .ok (.istore 4, 2) := by decide +kernel
theorem dX12_back_498 : decode cX12_back 498 = .ok (.iload 4, 2) := by decide +kernel
theorem dX12_back_500 : decode cX12_back 500 = .ok (.iconst 3, 1) := by decide +kernel
theorem dX12_back_501 : decode cX12_back 501 = .ok (.aload_n 0, 1) := by decide +kernel
theorem dX12_back_502 : decode cX12_back 502 = .ok (.getfield 240, 3) := by decide +kernel
theorem dX12_back_505 : decode cX12_back 505 = .ok (.imul, 1) := by decide +kernel
theorem dX12_back_506 : decode cX12_back 506 = .ok (.if_icmp .ge 22, 3) := by decide +kernel
theorem dX12_back_509 : decode cX12_back 509 = .ok (.lload_n 2, 1) := by decide +kernel
theorem dX12_back_510 : decode cX12_back 510 = .ok (.aload_n 0, 1) := by decide +kernel
theorem dX12_back_511 : decode cX12_back 511 = .ok (.getfield 225, 3) := by decide +kernel
theorem dX12_back_514 : decode cX12_back 514 = .ok (.iload 4, 2) := by decide +kernel
theorem dX12_back_516 : decode cX12_back 516 = .ok (.iaload, 1) := by decide +kernel
theorem dX12_back_517 : decode cX12_back 517 = .ok (.i2l, 1) := by decide +kernel
theorem dX12_back_518 : decode cX12_back 518 = .ok (.invokestatic 538, 3) := by decide +kernel
theorem dX12_back_521 : decode cX12_back 521 = .ok (.lstore_n 2, 1) := by decide +kernel
theorem dX12_back_522 : decode cX12_back 522 = .ok (.iinc 4 1, 3) := by decide +kernel
theorem dX12_back_525 : decode cX12_back 525 = .ok (.goto (-27), 3) := by decide +kernel
theorem dX12_back_528 : decode cX12_back 528 = .ok (.iconst 0, 1) := by decide +kernel
theorem dX12_back_529 : decode cX12_back 529 = .ok (.istore 4, 2) := by decide +kernel
theorem dX12_back_531 : decode cX12_back 531 = .ok (.iload 4, 2) := by decide +kernel
theorem dX12_back_533 : decode cX12_back 533 = .ok (.iconst 2, 1) := by decide +kernel
theorem dX12_back_534 : decode cX12_back 534 = .ok (.aload_n 0, 1) := by decide +kernel
theorem dX12_back_535 : decode cX12_back 535 = .ok (.getfield 246, 3) := by decide +kernel
theorem dX12_back_538 : decode cX12_back 538 = .ok (.imul, 1) := by decide +kernel
theorem dX12_back_539 : decode cX12_back 539 = .ok (.if_icmp .ge 22, 3) := by decide +kernel
theorem dX12_back_542 : decode cX12_back 542 = .ok (.lload_n 2, 1) := by decide +kernel
theorem dX12_back_543 : decode cX12_back 543 = .ok (.aload_n 0, 1) := by decide +kernel
theorem dX12_back_544 : decode cX12_back 544 = .ok (.getfield 228, 3) := by decide +kernel
theorem dX12_back_547 : decode cX12_back 547 = .ok (.iload 4, 2) := by decide +kernel
theorem dX12_back_549 : decode cX12_back 549 = .ok (.iaload, 1) := by decide +kernel
theorem dX12_back_550 : decode cX12_back 550 = .ok (.i2l, 1) := by decide +kernel
theorem dX12_back_551 : decode cX12_back 551 = .ok (.invokestatic 538, 3) := by decide +kernel
theorem dX12_back_554 : decode cX12_back 554 = .ok (.lstore_n 2, 1) := by decide +kernel
theorem dX12_back_555 : decode cX12_back 555 = .ok (.iinc 4 1, 3) := by decide +kernel
theorem dX12_back_558 : decode cX12_back 558 = .ok (.goto (-27), 3) := by decide +kernel
theorem dX12_back_561 : decode cX12_back 561 = .ok (.lload_n 2, 1) := by decide +kernel
theorem dX12_back_562 : decode cX12_back 562 = .ok (.lreturn, 1) := by decide +kernel
def M_X12_back : y_M := (yX12_back, cX12_back, 6, (Option.some Jvm.ClassFile.FieldType.long))
theorem n_X12_back : y_N0 M_X12_back 1 := ⟨(c_10 150 (by decide +kernel) rfl), (c_1 9 (by decide +kernel) rfl), ⟨by decide +kernel, by decide +kernel⟩, by decide +kernel⟩
theorem k_BoxYardModel_536 : Cond.constantLong "BoxYardModel" 536 17 ∈ y_tb := (c_10 151 (by decide +kernel) rfl)
theorem F_BoxYardModel_228 : y_F "BoxYardModel" 228 12 94 := ⟨_, _, _, rfl, by decide, Or.inl (c_7 216 (by decide +kernel) rfl)⟩
theorem l_BoxYardModel_538 : y_lnk "BoxYardModel" 538 M_X12_mixed := Or.inl (c_10 152 (by decide +kernel) rfl)
theorem t_X12_mixed : Cond.static (M_X12_mixed).1 ∈ y_tb := (c_10 153 (by decide +kernel) rfl)
theorem F_BoxYardModel_225 : y_F "BoxYardModel" 225 12 93 := ⟨_, _, _, rfl, by decide, Or.inl (c_7 215 (by decide +kernel) rfl)⟩
theorem F_BoxYardModel_222 : y_F "BoxYardModel" 222 12 92 := ⟨_, _, _, rfl, by decide, Or.inl (c_7 214 (by decide +kernel) rfl)⟩
set_option maxRecDepth 100000 in
def f_X12_back (p0 : Nat) (p1 : Int32) (h : y_H) : Option (Int64 × y_H) :=
  y_jn (fun (h1 : y_H) => (
      some ((-1 : Int64), h1) : Option (Int64 × y_H))) (fun j12 =>
  if p1 < 0 then
    j12 h
  else
    if y_K h p0 = 13 then
    if p1 ≤ (y_I h p0 50) then
      y_jl (fun (_ : Nat) (_ : Int32) (_ : Int32) (_ : y_H) => (none : Option (Int64 × y_H))) (fun j18 (v0_18 : Nat) (v1_18 : Int32) (v2_18 : Int32) (h2 : y_H) =>
          if y_K h2 v0_18 = 13 then
          if (y_I h2 v0_18 0) ≤ v2_18 then
            y_jl (fun (_ : Nat) (_ : Int32) (_ : Int32) (_ : y_H) => (none : Option (Int64 × y_H))) (fun j111 (v0_111 : Nat) (v1_111 : Int32) (v2_111 : Int32) (h3 : y_H) =>
                if y_K h3 v0_111 = 13 then
                if (y_I h3 v0_111 25) ≤ v2_111 then
                  y_jl (fun (_ : Nat) (_ : Int32) (_ : Int32) (_ : y_H) => (none : Option (Int64 × y_H))) (fun j173 (v0_173 : Nat) (v1_173 : Int32) (v2_173 : Int32) (h4 : y_H) =>
                      if y_K h4 v0_173 = 13 then
                      if (y_I h4 v0_173 34) ≤ v2_173 then
                        if y_K h4 v0_173 = 13 then
                        y_jl (fun (_ : Nat) (_ : Int32) (_ : Int32) (_ : y_H) => (none : Option (Int64 × y_H))) (fun j224 (v0_224 : Nat) (v1_224 : Int32) (v2_224 : Int32) (h5 : y_H) =>
                            if y_K h5 v0_224 = 13 then
                            if v2_224 < ((y_I h5 v0_224 50) - v1_224) then
                              y_jl (fun (_ : Nat) (_ : Int64) (_ : Int32) (_ : y_H) => (none : Option (Int64 × y_H))) (fun j465 (v0_465 : Nat) (v2_465 : Int64) (v4_465 : Int32) (h6 : y_H) =>
                                  if y_K h6 v0_465 = 13 then
                                  if (5 * (y_I h6 v0_465 0)) ≤ v4_465 then
                                    y_jl (fun (_ : Nat) (_ : Int64) (_ : Int32) (_ : y_H) => (none : Option (Int64 × y_H))) (fun j498 (v0_498 : Nat) (v2_498 : Int64) (v4_498 : Int32) (h7 : y_H) =>
                                        if y_K h7 v0_498 = 13 then
                                        if (3 * (y_I h7 v0_498 25)) ≤ v4_498 then
                                          y_jl (fun (_ : Nat) (_ : Int64) (_ : Int32) (_ : y_H) => (none : Option (Int64 × y_H))) (fun j531 (v0_531 : Nat) (v2_531 : Int64) (v4_531 : Int32) (h8 : y_H) =>
                                              if y_K h8 v0_531 = 13 then
                                              if (2 * (y_I h8 v0_531 34)) ≤ v4_531 then
                                                some (v2_531, h8)
                                              else
                                                if y_K h8 v0_531 = 13 then
                                                if y_K h8 (y_P h8 v0_531 94) = 100 ∧ y_ix v4_531 (y_N h8 (y_P h8 v0_531 94)) = true then
                                                y_cl (f_X12_mixed v2_531 (Int32.toInt64 (y_I h8 (y_P h8 v0_531 94) (Int32.toNatClampNeg v4_531))) h8) (fun r9 h10 =>
                                                j531 v0_531 r9 (v4_531 + 1) h10)
                                                else none
                                                else none
                                              else none) (fun j531 =>
                                          j531 v0_498 v2_498 0 h7)
                                        else
                                          if y_K h7 v0_498 = 13 then
                                          if y_K h7 (y_P h7 v0_498 93) = 100 ∧ y_ix v4_498 (y_N h7 (y_P h7 v0_498 93)) = true then
                                          y_cl (f_X12_mixed v2_498 (Int32.toInt64 (y_I h7 (y_P h7 v0_498 93) (Int32.toNatClampNeg v4_498))) h7) (fun r16 h17 =>
                                          j498 v0_498 r16 (v4_498 + 1) h17)
                                          else none
                                          else none
                                        else none) (fun j498 =>
                                    j498 v0_465 v2_465 0 h6)
                                  else
                                    if y_K h6 v0_465 = 13 then
                                    if y_K h6 (y_P h6 v0_465 92) = 100 ∧ y_ix v4_465 (y_N h6 (y_P h6 v0_465 92)) = true then
                                    y_cl (f_X12_mixed v2_465 (Int32.toInt64 (y_I h6 (y_P h6 v0_465 92) (Int32.toNatClampNeg v4_465))) h6) (fun r23 h24 =>
                                    j465 v0_465 r23 (v4_465 + 1) h24)
                                    else none
                                    else none
                                  else none) (fun j465 =>
                              j465 v0_224 17 0 h5)
                            else
                              if y_K h5 v0_224 = 13 then
                              if y_K h5 (y_P h5 v0_224 51) = 100 ∧ y_ix ((14 * v2_224) + 5) (y_N h5 (y_P h5 v0_224 51)) = true then
                              y_jl (fun (_ : Nat) (_ : Int32) (_ : Int32) (_ : Int32) (_ : Int32) (_ : Int32) (_ : y_H) => (none : Option (Int64 × y_H))) (fun j252 (v0_252 : Nat) (v1_252 : Int32) (v2_252 : Int32) (v3_252 : Int32) (v4_252 : Int32) (v5_252 : Int32) (h30 : y_H) =>
                                  y_jn (fun (v0_293 : Nat) (v1_293 : Int32) (v2_293 : Int32) (v3_293 : Int32) (v4_293 : Int32) (h31 : y_H) => (
                                      y_jn (fun (v0_339 : Nat) (v1_339 : Int32) (v2_339 : Int32) (v3_339 : Int32) (h32 : y_H) => (
                                          y_jl (fun (_ : Nat) (_ : Int32) (_ : Int32) (_ : Int32) (_ : Int32) (_ : y_H) => (none : Option (Int64 × y_H))) (fun j342 (v0_342 : Nat) (v1_342 : Int32) (v2_342 : Int32) (v3_342 : Int32) (v5_342 : Int32) (h33 : y_H) =>
                                              y_jn (fun (v0_394 : Nat) (v1_394 : Int32) (v2_394 : Int32) (v3_394 : Int32) (h34 : y_H) => (
                                                  y_jl (fun (_ : Nat) (_ : Int32) (_ : Int32) (_ : Int32) (_ : Int32) (_ : y_H) => (none : Option (Int64 × y_H))) (fun j397 (v0_397 : Nat) (v1_397 : Int32) (v2_397 : Int32) (v3_397 : Int32) (v5_397 : Int32) (h35 : y_H) =>
                                                      y_jn (fun (v0_452 : Nat) (v1_452 : Int32) (v2_452 : Int32) (h36 : y_H) => (
                                                          j224 v0_452 v1_452 (v2_452 + (-1 : Int32)) h36 : Option (Int64 × y_H))) (fun j452 =>
                                                      if 2 ≤ v5_397 then
                                                        j452 v0_397 v1_397 v2_397 h35
                                                      else
                                                        if y_K h35 v0_397 = 13 then
                                                        if y_K h35 (y_P h35 v0_397 51) = 100 ∧ y_ix (v3_397 + 11) (y_N h35 (y_P h35 v0_397 51)) = true then
                                                        if (y_I h35 (y_P h35 v0_397 51) (Int32.toNatClampNeg (v3_397 + 11))) < 0 then
                                                          j452 v0_397 v1_397 v2_397 h35
                                                        else
                                                          if y_K h35 v0_397 = 13 then
                                                          if y_K h35 v0_397 = 13 then
                                                          if y_K h35 (y_P h35 v0_397 51) = 100 ∧ y_ix (v3_397 + 11) (y_N h35 (y_P h35 v0_397 51)) = true then
                                                          if y_K h35 v0_397 = 13 then
                                                          if y_K h35 (y_P h35 v0_397 51) = 100 ∧ y_ix ((v3_397 + 12) + v5_397) (y_N h35 (y_P h35 v0_397 51)) = true then
                                                          if y_K h35 (y_P h35 v0_397 94) = 100 ∧ y_ix ((2 * (y_I h35 (y_P h35 v0_397 51) (Int32.toNatClampNeg (v3_397 + 11)))) + v5_397) (y_N h35 (y_P h35 v0_397 94)) = true then
                                                          y_bd (s_I h35 (y_P h35 v0_397 94) (Int32.toNatClampNeg ((2 * (y_I h35 (y_P h35 v0_397 51) (Int32.toNatClampNeg (v3_397 + 11)))) + v5_397)) (y_I h35 (y_P h35 v0_397 51) (Int32.toNatClampNeg ((v3_397 + 12) + v5_397)))) (fun h37 =>
                                                          j397 v0_397 v1_397 v2_397 v3_397 (v5_397 + 1) h37)
                                                          else none
                                                          else none
                                                          else none
                                                          else none
                                                          else none
                                                          else none
                                                        else none
                                                        else none)) (fun j397 =>
                                                  j397 v0_394 v1_394 v2_394 v3_394 0 h34) : Option (Int64 × y_H))) (fun j394 =>
                                              if 3 ≤ v5_342 then
                                                j394 v0_342 v1_342 v2_342 v3_342 h33
                                              else
                                                if y_K h33 v0_342 = 13 then
                                                if y_K h33 (y_P h33 v0_342 51) = 100 ∧ y_ix (v3_342 + 1) (y_N h33 (y_P h33 v0_342 51)) = true then
                                                if (y_I h33 (y_P h33 v0_342 51) (Int32.toNatClampNeg (v3_342 + 1))) < 0 then
                                                  j394 v0_342 v1_342 v2_342 v3_342 h33
                                                else
                                                  if y_K h33 v0_342 = 13 then
                                                  if y_K h33 v0_342 = 13 then
                                                  if y_K h33 (y_P h33 v0_342 51) = 100 ∧ y_ix (v3_342 + 1) (y_N h33 (y_P h33 v0_342 51)) = true then
                                                  if y_K h33 v0_342 = 13 then
                                                  if y_K h33 (y_P h33 v0_342 51) = 100 ∧ y_ix ((v3_342 + 2) + v5_342) (y_N h33 (y_P h33 v0_342 51)) = true then
                                                  if y_K h33 (y_P h33 v0_342 93) = 100 ∧ y_ix ((3 * (y_I h33 (y_P h33 v0_342 51) (Int32.toNatClampNeg (v3_342 + 1)))) + v5_342) (y_N h33 (y_P h33 v0_342 93)) = true then
                                                  y_bd (s_I h33 (y_P h33 v0_342 93) (Int32.toNatClampNeg ((3 * (y_I h33 (y_P h33 v0_342 51) (Int32.toNatClampNeg (v3_342 + 1)))) + v5_342)) (y_I h33 (y_P h33 v0_342 51) (Int32.toNatClampNeg ((v3_342 + 2) + v5_342)))) (fun h49 =>
                                                  j342 v0_342 v1_342 v2_342 v3_342 (v5_342 + 1) h49)
                                                  else none
                                                  else none
                                                  else none
                                                  else none
                                                  else none
                                                  else none
                                                else none
                                                else none)) (fun j342 =>
                                          j342 v0_339 v1_339 v2_339 v3_339 0 h32) : Option (Int64 × y_H))) (fun j339 =>
                                      if v4_293 < 0 then
                                        j339 v0_293 v1_293 v2_293 v3_293 h31
                                      else
                                        if y_K h31 v0_293 = 13 then
                                        if y_K h31 v0_293 = 13 then
                                        if y_K h31 (y_P h31 v0_293 51) = 100 ∧ y_ix (v3_293 + 10) (y_N h31 (y_P h31 v0_293 51)) = true then
                                        if (y_I h31 (y_P h31 v0_293 51) (Int32.toNatClampNeg (v3_293 + 10))) = 1 then
                                          if y_K h31 v0_293 = 13 then
                                          if y_K h31 (y_P h31 v0_293 3) = 100 ∧ y_ix v4_293 (y_N h31 (y_P h31 v0_293 3)) = true then
                                          if y_K h31 (y_P h31 v0_293 92) = 100 ∧ y_ix ((5 * v4_293) + 4) (y_N h31 (y_P h31 v0_293 92)) = true then
                                          y_bd (s_I h31 (y_P h31 v0_293 92) (Int32.toNatClampNeg ((5 * v4_293) + 4)) (y_I h31 (y_P h31 v0_293 3) (Int32.toNatClampNeg v4_293))) (fun h66 =>
                                          j339 v0_293 v1_293 v2_293 v3_293 h66)
                                          else none
                                          else none
                                          else none
                                        else
                                          if y_K h31 v0_293 = 13 then
                                          if y_K h31 (y_P h31 v0_293 2) = 100 ∧ y_ix v4_293 (y_N h31 (y_P h31 v0_293 2)) = true then
                                          if y_K h31 (y_P h31 v0_293 92) = 100 ∧ y_ix ((5 * v4_293) + 4) (y_N h31 (y_P h31 v0_293 92)) = true then
                                          y_bd (s_I h31 (y_P h31 v0_293 92) (Int32.toNatClampNeg ((5 * v4_293) + 4)) (y_I h31 (y_P h31 v0_293 2) (Int32.toNatClampNeg v4_293))) (fun h61 =>
                                          j339 v0_293 v1_293 v2_293 v3_293 h61)
                                          else none
                                          else none
                                          else none
                                        else none
                                        else none
                                        else none) : Option (Int64 × y_H))) (fun j293 =>
                                  if 4 ≤ v5_252 then
                                    j293 v0_252 v1_252 v2_252 v3_252 v4_252 h30
                                  else
                                    if v4_252 < 0 then
                                      j293 v0_252 v1_252 v2_252 v3_252 v4_252 h30
                                    else
                                      if y_K h30 v0_252 = 13 then
                                      if y_K h30 v0_252 = 13 then
                                      if y_K h30 (y_P h30 v0_252 51) = 100 ∧ y_ix ((v3_252 + 6) + v5_252) (y_N h30 (y_P h30 v0_252 51)) = true then
                                      if y_K h30 (y_P h30 v0_252 92) = 100 ∧ y_ix ((5 * v4_252) + v5_252) (y_N h30 (y_P h30 v0_252 92)) = true then
                                      y_bd (s_I h30 (y_P h30 v0_252 92) (Int32.toNatClampNeg ((5 * v4_252) + v5_252)) (y_I h30 (y_P h30 v0_252 51) (Int32.toNatClampNeg ((v3_252 + 6) + v5_252)))) (fun h76 =>
                                      j252 v0_252 v1_252 v2_252 v3_252 v4_252 (v5_252 + 1) h76)
                                      else none
                                      else none
                                      else none
                                      else none)) (fun j252 =>
                              j252 v0_224 v1_224 v2_224 (14 * v2_224) (y_I h5 (y_P h5 v0_224 51) (Int32.toNatClampNeg ((14 * v2_224) + 5))) 0 h5)
                              else none
                              else none
                            else none) (fun j224 =>
                        j224 v0_173 v1_173 ((y_I h4 v0_173 50) - 1) h4)
                        else none
                      else
                        if y_K h4 v0_173 = 13 then
                        if y_K h4 v0_173 = 13 then
                        if y_K h4 (y_P h4 v0_173 43) = 100 ∧ y_ix v2_173 (y_N h4 (y_P h4 v0_173 43)) = true then
                        if y_K h4 (y_P h4 v0_173 94) = 100 ∧ y_ix (2 * v2_173) (y_N h4 (y_P h4 v0_173 94)) = true then
                        y_bd (s_I h4 (y_P h4 v0_173 94) (Int32.toNatClampNeg (2 * v2_173)) (y_I h4 (y_P h4 v0_173 43) (Int32.toNatClampNeg v2_173))) (fun h89 =>
                        if y_K h89 v0_173 = 13 then
                        if y_K h89 v0_173 = 13 then
                        if y_K h89 (y_P h89 v0_173 44) = 100 ∧ y_ix v2_173 (y_N h89 (y_P h89 v0_173 44)) = true then
                        if y_K h89 (y_P h89 v0_173 94) = 100 ∧ y_ix ((2 * v2_173) + 1) (y_N h89 (y_P h89 v0_173 94)) = true then
                        y_bd (s_I h89 (y_P h89 v0_173 94) (Int32.toNatClampNeg ((2 * v2_173) + 1)) (y_I h89 (y_P h89 v0_173 44) (Int32.toNatClampNeg v2_173))) (fun h92 =>
                        j173 v0_173 v1_173 (v2_173 + 1) h92)
                        else none
                        else none
                        else none
                        else none)
                        else none
                        else none
                        else none
                        else none
                      else none) (fun j173 =>
                  j173 v0_111 v1_111 0 h3)
                else
                  if y_K h3 v0_111 = 13 then
                  if y_K h3 v0_111 = 13 then
                  if y_K h3 (y_P h3 v0_111 28) = 100 ∧ y_ix v2_111 (y_N h3 (y_P h3 v0_111 28)) = true then
                  if y_K h3 (y_P h3 v0_111 93) = 100 ∧ y_ix (3 * v2_111) (y_N h3 (y_P h3 v0_111 93)) = true then
                  y_bd (s_I h3 (y_P h3 v0_111 93) (Int32.toNatClampNeg (3 * v2_111)) (y_I h3 (y_P h3 v0_111 28) (Int32.toNatClampNeg v2_111))) (fun h103 =>
                  if y_K h103 v0_111 = 13 then
                  if y_K h103 v0_111 = 13 then
                  if y_K h103 (y_P h103 v0_111 29) = 100 ∧ y_ix v2_111 (y_N h103 (y_P h103 v0_111 29)) = true then
                  if y_K h103 (y_P h103 v0_111 93) = 100 ∧ y_ix ((3 * v2_111) + 1) (y_N h103 (y_P h103 v0_111 93)) = true then
                  y_bd (s_I h103 (y_P h103 v0_111 93) (Int32.toNatClampNeg ((3 * v2_111) + 1)) (y_I h103 (y_P h103 v0_111 29) (Int32.toNatClampNeg v2_111))) (fun h106 =>
                  if y_K h106 v0_111 = 13 then
                  if y_K h106 v0_111 = 13 then
                  if y_K h106 (y_P h106 v0_111 30) = 100 ∧ y_ix v2_111 (y_N h106 (y_P h106 v0_111 30)) = true then
                  if y_K h106 (y_P h106 v0_111 93) = 100 ∧ y_ix ((3 * v2_111) + 2) (y_N h106 (y_P h106 v0_111 93)) = true then
                  y_bd (s_I h106 (y_P h106 v0_111 93) (Int32.toNatClampNeg ((3 * v2_111) + 2)) (y_I h106 (y_P h106 v0_111 30) (Int32.toNatClampNeg v2_111))) (fun h109 =>
                  j111 v0_111 v1_111 (v2_111 + 1) h109)
                  else none
                  else none
                  else none
                  else none)
                  else none
                  else none
                  else none
                  else none)
                  else none
                  else none
                  else none
                  else none
                else none) (fun j111 =>
            j111 v0_18 v1_18 0 h2)
          else
            if y_K h2 v0_18 = 13 then
            if y_K h2 v0_18 = 13 then
            if y_K h2 (y_P h2 v0_18 7) = 100 ∧ y_ix v2_18 (y_N h2 (y_P h2 v0_18 7)) = true then
            if y_K h2 (y_P h2 v0_18 92) = 100 ∧ y_ix (5 * v2_18) (y_N h2 (y_P h2 v0_18 92)) = true then
            y_bd (s_I h2 (y_P h2 v0_18 92) (Int32.toNatClampNeg (5 * v2_18)) (y_I h2 (y_P h2 v0_18 7) (Int32.toNatClampNeg v2_18))) (fun h123 =>
            if y_K h123 v0_18 = 13 then
            if y_K h123 v0_18 = 13 then
            if y_K h123 (y_P h123 v0_18 8) = 100 ∧ y_ix v2_18 (y_N h123 (y_P h123 v0_18 8)) = true then
            if y_K h123 (y_P h123 v0_18 92) = 100 ∧ y_ix ((5 * v2_18) + 1) (y_N h123 (y_P h123 v0_18 92)) = true then
            y_bd (s_I h123 (y_P h123 v0_18 92) (Int32.toNatClampNeg ((5 * v2_18) + 1)) (y_I h123 (y_P h123 v0_18 8) (Int32.toNatClampNeg v2_18))) (fun h126 =>
            if y_K h126 v0_18 = 13 then
            if y_K h126 v0_18 = 13 then
            if y_K h126 (y_P h126 v0_18 9) = 100 ∧ y_ix v2_18 (y_N h126 (y_P h126 v0_18 9)) = true then
            if y_K h126 (y_P h126 v0_18 92) = 100 ∧ y_ix ((5 * v2_18) + 2) (y_N h126 (y_P h126 v0_18 92)) = true then
            y_bd (s_I h126 (y_P h126 v0_18 92) (Int32.toNatClampNeg ((5 * v2_18) + 2)) (y_I h126 (y_P h126 v0_18 9) (Int32.toNatClampNeg v2_18))) (fun h129 =>
            if y_K h129 v0_18 = 13 then
            if y_K h129 v0_18 = 13 then
            if y_K h129 (y_P h129 v0_18 10) = 100 ∧ y_ix v2_18 (y_N h129 (y_P h129 v0_18 10)) = true then
            if y_K h129 (y_P h129 v0_18 92) = 100 ∧ y_ix ((5 * v2_18) + 3) (y_N h129 (y_P h129 v0_18 92)) = true then
            y_bd (s_I h129 (y_P h129 v0_18 92) (Int32.toNatClampNeg ((5 * v2_18) + 3)) (y_I h129 (y_P h129 v0_18 10) (Int32.toNatClampNeg v2_18))) (fun h132 =>
            if y_K h132 v0_18 = 13 then
            if y_K h132 v0_18 = 13 then
            y_cl (f_X12_known v0_18 v2_18 h132) (fun r135 h136 =>
            if y_K h136 (y_P h132 v0_18 92) = 100 ∧ y_ix ((5 * v2_18) + 4) (y_N h136 (y_P h132 v0_18 92)) = true then
            y_bd (s_I h136 (y_P h132 v0_18 92) (Int32.toNatClampNeg ((5 * v2_18) + 4)) r135) (fun h138 =>
            j18 v0_18 v1_18 (v2_18 + 1) h138)
            else none)
            else none
            else none)
            else none
            else none
            else none
            else none)
            else none
            else none
            else none
            else none)
            else none
            else none
            else none
            else none)
            else none
            else none
            else none
            else none
          else none) (fun j18 =>
      j18 p0 p1 0 h)
    else
      j12 h
    else none)
abbrev rm_X12_back : Room := { frames := 1, cells := 0, slots := 0, locals := 25 }
set_option maxRecDepth 100000 in
set_option maxHeartbeats 4000000 in
theorem k_X12_back {l : Launch} {G : y_G} {p0 : Nat} {p1 : Int32} {h hz : y_H} {rz : Int64} (hf : f_X12_back p0 p1 h = some (rz, hz)) : y_S l G M_X12_back rm_X12_back [y_p p0, .int p1] h (some (.long rz)) hz := by
  refine y_start (lv := [(0, y_p p0), (1, .int p1)]) (by decide) (by simp [lg_sl, y_p_cat, y_ci, y_cj, M_X12_back]) (by simp [lv_args, y_p_cat, y_ci, y_cj]) (fun z ad0 => ?_)
  unfold f_X12_back at hf
  refine y_iload_n (pc2 := 1) rfl dX12_back_0 rfl ?_
  refine y_jnE hf (fun j => ∀ (h1 : y_H), j h1 = some (rz, hz) → y_V l G z rm_X12_back M_X12_back ad0 h (some (.long rz)) hz 12 [] [] h1 0 0) (fun h1 hf => ?_) (fun j12 hj12 hf => ?_)
  · refine y_ldc2 (v := (-1 : Int64)) (pc2 := 15) rfl dX12_back_12 k_BoxYardModel_464 ?_
    exact y_lretF hf dX12_back_15 rfl (by decide) (by decide)
  · refine y_if_lt (tgt := 12) (pc2 := 4) rfl dX12_back_1 (by decide) (fun c159 => ?_) (fun c159 => ?_)
    · replace hf := y_it c159 hf
      exact y_pk [] rfl (hj12 _ hf)
    · replace hf := y_ie c159 hf
      refine y_iload_n (pc2 := 5) rfl dX12_back_4 rfl ?_
      refine y_aload_n (x := p0) (pc2 := 6) rfl dX12_back_5 rfl ?_
      obtain ⟨g158, hf⟩ := y_g hf
      refine y_getI (pc2 := 9) rfl dX12_back_6 F_BoxYardModel_255 (by decide) rfl g158 ?_
      refine y_icmp_le (tgt := 16) (pc2 := 12) rfl dX12_back_9 (by decide) (fun c157 => ?_) (fun c157 => ?_)
      · replace hf := y_it c157 hf
        refine y_iconst (v := 0) (pc2 := 17) rfl dX12_back_16 (by decide) ?_
        refine y_jlE hf (fun j => ∀ (v0_18 : Nat) (v1_18 : Int32) (v2_18 : Int32) (h2 : y_H), j v0_18 v1_18 v2_18 h2 = some (rz, hz) → y_V l G z rm_X12_back M_X12_back ad0 h (some (.long rz)) hz 18 [(0, y_p v0_18), (1, .int v1_18), (2, .int v2_18)] [] h2 0 0) (fun _ _ _ _ hf => by cases hf) (fun j18 hj18 v0_18 v1_18 v2_18 h2 hf => ?_) (fun j18 hj18 hf => ?_)
        · refine y_iload_n (pc2 := 19) rfl dX12_back_18 rfl ?_
          refine y_aload_n (x := v0_18) (pc2 := 20) rfl dX12_back_19 rfl ?_
          obtain ⟨g156, hf⟩ := y_g hf
          refine y_getI (pc2 := 23) rfl dX12_back_20 F_BoxYardModel_234 (by decide) rfl g156 ?_
          refine y_icmp_ge (tgt := 109) (pc2 := 26) rfl dX12_back_23 (by decide) (fun c155 => ?_) (fun c155 => ?_)
          · replace hf := y_it c155 hf
            refine y_iconst (v := 0) (pc2 := 110) rfl dX12_back_109 (by decide) ?_
            refine y_jlE hf (fun j => ∀ (v0_111 : Nat) (v1_111 : Int32) (v2_111 : Int32) (h3 : y_H), j v0_111 v1_111 v2_111 h3 = some (rz, hz) → y_V l G z rm_X12_back M_X12_back ad0 h (some (.long rz)) hz 111 [(0, y_p v0_111), (1, .int v1_111), (2, .int v2_111)] [] h3 0 0) (fun _ _ _ _ hf => by cases hf) (fun j111 hj111 v0_111 v1_111 v2_111 h3 hf => ?_) (fun j111 hj111 hf => ?_)
            · refine y_iload_n (pc2 := 112) rfl dX12_back_111 rfl ?_
              refine y_aload_n (x := v0_111) (pc2 := 113) rfl dX12_back_112 rfl ?_
              obtain ⟨g122, hf⟩ := y_g hf
              refine y_getI (pc2 := 116) rfl dX12_back_113 F_BoxYardModel_240 (by decide) rfl g122 ?_
              refine y_icmp_ge (tgt := 171) (pc2 := 119) rfl dX12_back_116 (by decide) (fun c121 => ?_) (fun c121 => ?_)
              · replace hf := y_it c121 hf
                refine y_iconst (v := 0) (pc2 := 172) rfl dX12_back_171 (by decide) ?_
                refine y_jlE hf (fun j => ∀ (v0_173 : Nat) (v1_173 : Int32) (v2_173 : Int32) (h4 : y_H), j v0_173 v1_173 v2_173 h4 = some (rz, hz) → y_V l G z rm_X12_back M_X12_back ad0 h (some (.long rz)) hz 173 [(0, y_p v0_173), (1, .int v1_173), (2, .int v2_173)] [] h4 0 0) (fun _ _ _ _ hf => by cases hf) (fun j173 hj173 v0_173 v1_173 v2_173 h4 hf => ?_) (fun j173 hj173 hf => ?_)
                · refine y_iload_n (pc2 := 174) rfl dX12_back_173 rfl ?_
                  refine y_aload_n (x := v0_173) (pc2 := 175) rfl dX12_back_174 rfl ?_
                  obtain ⟨g102, hf⟩ := y_g hf
                  refine y_getI (pc2 := 178) rfl dX12_back_175 F_BoxYardModel_246 (by decide) rfl g102 ?_
                  refine y_icmp_ge (tgt := 217) (pc2 := 181) rfl dX12_back_178 (by decide) (fun c101 => ?_) (fun c101 => ?_)
                  · replace hf := y_it c101 hf
                    refine y_aload_n (x := v0_173) (pc2 := 218) rfl dX12_back_217 rfl ?_
                    obtain ⟨g88, hf⟩ := y_g hf
                    refine y_getI (pc2 := 221) rfl dX12_back_218 F_BoxYardModel_255 (by decide) rfl g88 ?_
                    refine y_iconst (v := 1) (pc2 := 222) rfl dX12_back_221 (by decide) ?_
                    refine y_isub (pc2 := 223) rfl dX12_back_222 ?_
                    refine y_jlE hf (fun j => ∀ (v0_224 : Nat) (v1_224 : Int32) (v2_224 : Int32) (h5 : y_H), j v0_224 v1_224 v2_224 h5 = some (rz, hz) → y_V l G z rm_X12_back M_X12_back ad0 h (some (.long rz)) hz 224 [(0, y_p v0_224), (1, .int v1_224), (2, .int v2_224)] [] h5 0 0) (fun _ _ _ _ hf => by cases hf) (fun j224 hj224 v0_224 v1_224 v2_224 h5 hf => ?_) (fun j224 hj224 hf => ?_)
                    · refine y_iload_n (pc2 := 225) rfl dX12_back_224 rfl ?_
                      refine y_aload_n (x := v0_224) (pc2 := 226) rfl dX12_back_225 rfl ?_
                      obtain ⟨g87, hf⟩ := y_g hf
                      refine y_getI (pc2 := 229) rfl dX12_back_226 F_BoxYardModel_255 (by decide) rfl g87 ?_
                      refine y_iload_n (pc2 := 230) rfl dX12_back_229 rfl ?_
                      refine y_isub (pc2 := 231) rfl dX12_back_230 ?_
                      refine y_icmp_lt (tgt := 458) (pc2 := 234) rfl dX12_back_231 (by decide) (fun c86 => ?_) (fun c86 => ?_)
                      · replace hf := y_it c86 hf
                        refine y_ldc2 (v := 17) (pc2 := 461) rfl dX12_back_458 k_BoxYardModel_536 ?_
                        refine y_lstore_n (lv' := [(2, .long 17), (0, y_p v0_224), (1, .int v1_224)]) (pc2 := 462) rfl dX12_back_461 (by decide) rfl ?_
                        refine y_iconst (v := 0) (pc2 := 463) rfl dX12_back_462 (by decide) ?_
                        refine y_jlE hf (fun j => ∀ (v0_465 : Nat) (v2_465 : Int64) (v4_465 : Int32) (h6 : y_H), j v0_465 v2_465 v4_465 h6 = some (rz, hz) → y_V l G z rm_X12_back M_X12_back ad0 h (some (.long rz)) hz 465 [(0, y_p v0_465), (2, .long v2_465), (4, .int v4_465)] [] h6 0 0) (fun _ _ _ _ hf => by cases hf) (fun j465 hj465 v0_465 v2_465 v4_465 h6 hf => ?_) (fun j465 hj465 hf => ?_)
                        · refine y_iload (pc2 := 467) rfl dX12_back_465 rfl ?_
                          refine y_iconst (v := 5) (pc2 := 468) rfl dX12_back_467 (by decide) ?_
                          refine y_aload_n (x := v0_465) (pc2 := 469) rfl dX12_back_468 rfl ?_
                          obtain ⟨g29, hf⟩ := y_g hf
                          refine y_getI (pc2 := 472) rfl dX12_back_469 F_BoxYardModel_234 (by decide) rfl g29 ?_
                          refine y_imul (pc2 := 473) rfl dX12_back_472 ?_
                          refine y_icmp_ge (tgt := 495) (pc2 := 476) rfl dX12_back_473 (by decide) (fun c28 => ?_) (fun c28 => ?_)
                          · replace hf := y_it c28 hf
                            refine y_iconst (v := 0) (pc2 := 496) rfl dX12_back_495 (by decide) ?_
                            refine y_jlE hf (fun j => ∀ (v0_498 : Nat) (v2_498 : Int64) (v4_498 : Int32) (h7 : y_H), j v0_498 v2_498 v4_498 h7 = some (rz, hz) → y_V l G z rm_X12_back M_X12_back ad0 h (some (.long rz)) hz 498 [(0, y_p v0_498), (2, .long v2_498), (4, .int v4_498)] [] h7 0 0) (fun _ _ _ _ hf => by cases hf) (fun j498 hj498 v0_498 v2_498 v4_498 h7 hf => ?_) (fun j498 hj498 hf => ?_)
                            · refine y_iload (pc2 := 500) rfl dX12_back_498 rfl ?_
                              refine y_iconst (v := 3) (pc2 := 501) rfl dX12_back_500 (by decide) ?_
                              refine y_aload_n (x := v0_498) (pc2 := 502) rfl dX12_back_501 rfl ?_
                              obtain ⟨g22, hf⟩ := y_g hf
                              refine y_getI (pc2 := 505) rfl dX12_back_502 F_BoxYardModel_240 (by decide) rfl g22 ?_
                              refine y_imul (pc2 := 506) rfl dX12_back_505 ?_
                              refine y_icmp_ge (tgt := 528) (pc2 := 509) rfl dX12_back_506 (by decide) (fun c21 => ?_) (fun c21 => ?_)
                              · replace hf := y_it c21 hf
                                refine y_iconst (v := 0) (pc2 := 529) rfl dX12_back_528 (by decide) ?_
                                refine y_jlE hf (fun j => ∀ (v0_531 : Nat) (v2_531 : Int64) (v4_531 : Int32) (h8 : y_H), j v0_531 v2_531 v4_531 h8 = some (rz, hz) → y_V l G z rm_X12_back M_X12_back ad0 h (some (.long rz)) hz 531 [(0, y_p v0_531), (2, .long v2_531), (4, .int v4_531)] [] h8 0 0) (fun _ _ _ _ hf => by cases hf) (fun j531 hj531 v0_531 v2_531 v4_531 h8 hf => ?_) (fun j531 hj531 hf => ?_)
                                · refine y_iload (pc2 := 533) rfl dX12_back_531 rfl ?_
                                  refine y_iconst (v := 2) (pc2 := 534) rfl dX12_back_533 (by decide) ?_
                                  refine y_aload_n (x := v0_531) (pc2 := 535) rfl dX12_back_534 rfl ?_
                                  obtain ⟨g15, hf⟩ := y_g hf
                                  refine y_getI (pc2 := 538) rfl dX12_back_535 F_BoxYardModel_246 (by decide) rfl g15 ?_
                                  refine y_imul (pc2 := 539) rfl dX12_back_538 ?_
                                  refine y_icmp_ge (tgt := 561) (pc2 := 542) rfl dX12_back_539 (by decide) (fun c14 => ?_) (fun c14 => ?_)
                                  · replace hf := y_it c14 hf
                                    refine y_lload_n (pc2 := 562) rfl dX12_back_561 rfl ?_
                                    exact y_lretF hf dX12_back_562 rfl (by decide) (by decide)
                                  · replace hf := y_ie c14 hf
                                    refine y_lload_n (pc2 := 543) rfl dX12_back_542 rfl ?_
                                    refine y_aload_n (x := v0_531) (pc2 := 544) rfl dX12_back_543 rfl ?_
                                    obtain ⟨g13, hf⟩ := y_g hf
                                    refine y_getP (pc2 := 547) rfl dX12_back_544 F_BoxYardModel_228 (by decide) rfl g13 ?_
                                    refine y_iload (pc2 := 549) rfl dX12_back_547 rfl ?_
                                    obtain ⟨g12, hf⟩ := y_g hf
                                    refine y_iald (pc2 := 550) rfl dX12_back_549 (Or.inl g12.1) (y_ix_in g12.2) ?_
                                    refine y_i2l (pc2 := 551) rfl dX12_back_550 ?_
                                    obtain ⟨r9, h10, c11, hf⟩ := y_clE hf
                                    refine y_callS (As := [.long v2_531, .long (Int32.toInt64 (y_I h8 (y_P h8 v0_531 94) (Int32.toNatClampNeg v4_531)))]) (rm := rm_X12_mixed) (cells := 0) (slots := 0) (pc2 := 554) rfl dX12_back_551 n_X12_mixed l_BoxYardModel_538 t_X12_mixed rfl rfl (by decide) (by decide) (by decide) (k_X12_mixed c11) ?_
                                    refine y_lstore_n (lv' := [(2, .long r9), (0, y_p v0_531), (4, .int v4_531)]) (pc2 := 555) rfl dX12_back_554 (by decide) rfl ?_
                                    refine y_iinc (v := v4_531 + 1) (lv' := [(4, .int (v4_531 + 1)), (2, .long r9), (0, y_p v0_531)]) (pc2 := 558) rfl dX12_back_555 rfl rfl (by decide) rfl ?_
                                    refine y_goto (tgt := 531) dX12_back_558 (by decide) ?_
                                    exact y_pk [2, 1, 0] rfl (hj531 _ _ _ _ hf)
                                · refine y_istore (lv' := [(4, .int 0), (0, y_p v0_498), (2, .long v2_498)]) (pc2 := 531) rfl dX12_back_529 (by decide) rfl ?_
                                  exact y_pk [1, 2, 0] rfl (hj531 _ _ _ _ hf)
                              · replace hf := y_ie c21 hf
                                refine y_lload_n (pc2 := 510) rfl dX12_back_509 rfl ?_
                                refine y_aload_n (x := v0_498) (pc2 := 511) rfl dX12_back_510 rfl ?_
                                obtain ⟨g20, hf⟩ := y_g hf
                                refine y_getP (pc2 := 514) rfl dX12_back_511 F_BoxYardModel_225 (by decide) rfl g20 ?_
                                refine y_iload (pc2 := 516) rfl dX12_back_514 rfl ?_
                                obtain ⟨g19, hf⟩ := y_g hf
                                refine y_iald (pc2 := 517) rfl dX12_back_516 (Or.inl g19.1) (y_ix_in g19.2) ?_
                                refine y_i2l (pc2 := 518) rfl dX12_back_517 ?_
                                obtain ⟨r16, h17, c18, hf⟩ := y_clE hf
                                refine y_callS (As := [.long v2_498, .long (Int32.toInt64 (y_I h7 (y_P h7 v0_498 93) (Int32.toNatClampNeg v4_498)))]) (rm := rm_X12_mixed) (cells := 0) (slots := 0) (pc2 := 521) rfl dX12_back_518 n_X12_mixed l_BoxYardModel_538 t_X12_mixed rfl rfl (by decide) (by decide) (by decide) (k_X12_mixed c18) ?_
                                refine y_lstore_n (lv' := [(2, .long r16), (0, y_p v0_498), (4, .int v4_498)]) (pc2 := 522) rfl dX12_back_521 (by decide) rfl ?_
                                refine y_iinc (v := v4_498 + 1) (lv' := [(4, .int (v4_498 + 1)), (2, .long r16), (0, y_p v0_498)]) (pc2 := 525) rfl dX12_back_522 rfl rfl (by decide) rfl ?_
                                refine y_goto (tgt := 498) dX12_back_525 (by decide) ?_
                                exact y_pk [2, 1, 0] rfl (hj498 _ _ _ _ hf)
                            · refine y_istore (lv' := [(4, .int 0), (0, y_p v0_465), (2, .long v2_465)]) (pc2 := 498) rfl dX12_back_496 (by decide) rfl ?_
                              exact y_pk [1, 2, 0] rfl (hj498 _ _ _ _ hf)
                          · replace hf := y_ie c28 hf
                            refine y_lload_n (pc2 := 477) rfl dX12_back_476 rfl ?_
                            refine y_aload_n (x := v0_465) (pc2 := 478) rfl dX12_back_477 rfl ?_
                            obtain ⟨g27, hf⟩ := y_g hf
                            refine y_getP (pc2 := 481) rfl dX12_back_478 F_BoxYardModel_222 (by decide) rfl g27 ?_
                            refine y_iload (pc2 := 483) rfl dX12_back_481 rfl ?_
                            obtain ⟨g26, hf⟩ := y_g hf
                            refine y_iald (pc2 := 484) rfl dX12_back_483 (Or.inl g26.1) (y_ix_in g26.2) ?_
                            refine y_i2l (pc2 := 485) rfl dX12_back_484 ?_
                            obtain ⟨r23, h24, c25, hf⟩ := y_clE hf
                            refine y_callS (As := [.long v2_465, .long (Int32.toInt64 (y_I h6 (y_P h6 v0_465 92) (Int32.toNatClampNeg v4_465)))]) (rm := rm_X12_mixed) (cells := 0) (slots := 0) (pc2 := 488) rfl dX12_back_485 n_X12_mixed l_BoxYardModel_538 t_X12_mixed rfl rfl (by decide) (by decide) (by decide) (k_X12_mixed c25) ?_
                            refine y_lstore_n (lv' := [(2, .long r23), (0, y_p v0_465), (4, .int v4_465)]) (pc2 := 489) rfl dX12_back_488 (by decide) rfl ?_
                            refine y_iinc (v := v4_465 + 1) (lv' := [(4, .int (v4_465 + 1)), (2, .long r23), (0, y_p v0_465)]) (pc2 := 492) rfl dX12_back_489 rfl rfl (by decide) rfl ?_
                            refine y_goto (tgt := 465) dX12_back_492 (by decide) ?_
                            exact y_pk [2, 1, 0] rfl (hj465 _ _ _ _ hf)
                        · refine y_istore (lv' := [(4, .int 0), (2, .long 17), (0, y_p v0_224), (1, .int v1_224)]) (pc2 := 465) rfl dX12_back_463 (by decide) rfl ?_
                          exact y_pk [2, 1, 0] rfl (hj465 _ _ _ _ hf)
                      · replace hf := y_ie c86 hf
                        refine y_bipush (v := 14) (pc2 := 236) rfl dX12_back_234 (by decide) ?_
                        refine y_iload_n (pc2 := 237) rfl dX12_back_236 rfl ?_
                        refine y_imul (pc2 := 238) rfl dX12_back_237 ?_
                        refine y_istore_n (lv' := [(3, .int (14 * v2_224)), (0, y_p v0_224), (1, .int v1_224), (2, .int v2_224)]) (pc2 := 239) rfl dX12_back_238 (by decide) rfl ?_
                        refine y_aload_n (x := v0_224) (pc2 := 240) rfl dX12_back_239 rfl ?_
                        obtain ⟨g85, hf⟩ := y_g hf
                        refine y_getP (pc2 := 243) rfl dX12_back_240 F_BoxYardModel_137 (by decide) rfl g85 ?_
                        refine y_iload_n (pc2 := 244) rfl dX12_back_243 rfl ?_
                        refine y_iconst (v := 5) (pc2 := 245) rfl dX12_back_244 (by decide) ?_
                        refine y_iadd (pc2 := 246) rfl dX12_back_245 ?_
                        obtain ⟨g84, hf⟩ := y_g hf
                        refine y_iald (pc2 := 247) rfl dX12_back_246 (Or.inl g84.1) (y_ix_in g84.2) ?_
                        refine y_istore (lv' := [(4, .int (y_I h5 (y_P h5 v0_224 51) (Int32.toNatClampNeg ((14 * v2_224) + 5)))), (3, .int (14 * v2_224)), (0, y_p v0_224), (1, .int v1_224), (2, .int v2_224)]) (pc2 := 249) rfl dX12_back_247 (by decide) rfl ?_
                        refine y_iconst (v := 0) (pc2 := 250) rfl dX12_back_249 (by decide) ?_
                        refine y_jlE hf (fun j => ∀ (v0_252 : Nat) (v1_252 : Int32) (v2_252 : Int32) (v3_252 : Int32) (v4_252 : Int32) (v5_252 : Int32) (h30 : y_H), j v0_252 v1_252 v2_252 v3_252 v4_252 v5_252 h30 = some (rz, hz) → y_V l G z rm_X12_back M_X12_back ad0 h (some (.long rz)) hz 252 [(0, y_p v0_252), (1, .int v1_252), (2, .int v2_252), (3, .int v3_252), (4, .int v4_252), (5, .int v5_252)] [] h30 0 0) (fun _ _ _ _ _ _ _ hf => by cases hf) (fun j252 hj252 v0_252 v1_252 v2_252 v3_252 v4_252 v5_252 h30 hf => ?_) (fun j252 hj252 hf => ?_)
                        · refine y_iload (pc2 := 254) rfl dX12_back_252 rfl ?_
                          refine y_iconst (v := 4) (pc2 := 255) rfl dX12_back_254 (by decide) ?_
                          refine y_jnE hf (fun j => ∀ (v0_293 : Nat) (v1_293 : Int32) (v2_293 : Int32) (v3_293 : Int32) (v4_293 : Int32) (h31 : y_H), j v0_293 v1_293 v2_293 v3_293 v4_293 h31 = some (rz, hz) → y_V l G z rm_X12_back M_X12_back ad0 h (some (.long rz)) hz 293 [(0, y_p v0_293), (1, .int v1_293), (2, .int v2_293), (3, .int v3_293), (4, .int v4_293)] [] h31 0 0) (fun v0_293 v1_293 v2_293 v3_293 v4_293 h31 hf => ?_) (fun j293 hj293 hf => ?_)
                          · refine y_iload (pc2 := 295) rfl dX12_back_293 rfl ?_
                            refine y_jnE hf (fun j => ∀ (v0_339 : Nat) (v1_339 : Int32) (v2_339 : Int32) (v3_339 : Int32) (h32 : y_H), j v0_339 v1_339 v2_339 v3_339 h32 = some (rz, hz) → y_V l G z rm_X12_back M_X12_back ad0 h (some (.long rz)) hz 339 [(0, y_p v0_339), (1, .int v1_339), (2, .int v2_339), (3, .int v3_339)] [] h32 0 0) (fun v0_339 v1_339 v2_339 v3_339 h32 hf => ?_) (fun j339 hj339 hf => ?_)
                            · refine y_iconst (v := 0) (pc2 := 340) rfl dX12_back_339 (by decide) ?_
                              refine y_jlE hf (fun j => ∀ (v0_342 : Nat) (v1_342 : Int32) (v2_342 : Int32) (v3_342 : Int32) (v5_342 : Int32) (h33 : y_H), j v0_342 v1_342 v2_342 v3_342 v5_342 h33 = some (rz, hz) → y_V l G z rm_X12_back M_X12_back ad0 h (some (.long rz)) hz 342 [(0, y_p v0_342), (1, .int v1_342), (2, .int v2_342), (3, .int v3_342), (5, .int v5_342)] [] h33 0 0) (fun _ _ _ _ _ _ hf => by cases hf) (fun j342 hj342 v0_342 v1_342 v2_342 v3_342 v5_342 h33 hf => ?_) (fun j342 hj342 hf => ?_)
                              · refine y_iload (pc2 := 344) rfl dX12_back_342 rfl ?_
                                refine y_iconst (v := 3) (pc2 := 345) rfl dX12_back_344 (by decide) ?_
                                refine y_jnE hf (fun j => ∀ (v0_394 : Nat) (v1_394 : Int32) (v2_394 : Int32) (v3_394 : Int32) (h34 : y_H), j v0_394 v1_394 v2_394 v3_394 h34 = some (rz, hz) → y_V l G z rm_X12_back M_X12_back ad0 h (some (.long rz)) hz 394 [(0, y_p v0_394), (1, .int v1_394), (2, .int v2_394), (3, .int v3_394)] [] h34 0 0) (fun v0_394 v1_394 v2_394 v3_394 h34 hf => ?_) (fun j394 hj394 hf => ?_)
                                · refine y_iconst (v := 0) (pc2 := 395) rfl dX12_back_394 (by decide) ?_
                                  refine y_jlE hf (fun j => ∀ (v0_397 : Nat) (v1_397 : Int32) (v2_397 : Int32) (v3_397 : Int32) (v5_397 : Int32) (h35 : y_H), j v0_397 v1_397 v2_397 v3_397 v5_397 h35 = some (rz, hz) → y_V l G z rm_X12_back M_X12_back ad0 h (some (.long rz)) hz 397 [(0, y_p v0_397), (1, .int v1_397), (2, .int v2_397), (3, .int v3_397), (5, .int v5_397)] [] h35 0 0) (fun _ _ _ _ _ _ hf => by cases hf) (fun j397 hj397 v0_397 v1_397 v2_397 v3_397 v5_397 h35 hf => ?_) (fun j397 hj397 hf => ?_)
                                  · refine y_iload (pc2 := 399) rfl dX12_back_397 rfl ?_
                                    refine y_iconst (v := 2) (pc2 := 400) rfl dX12_back_399 (by decide) ?_
                                    refine y_jnE hf (fun j => ∀ (v0_452 : Nat) (v1_452 : Int32) (v2_452 : Int32) (h36 : y_H), j v0_452 v1_452 v2_452 h36 = some (rz, hz) → y_V l G z rm_X12_back M_X12_back ad0 h (some (.long rz)) hz 452 [(0, y_p v0_452), (1, .int v1_452), (2, .int v2_452)] [] h36 0 0) (fun v0_452 v1_452 v2_452 h36 hf => ?_) (fun j452 hj452 hf => ?_)
                                    · refine y_iinc (v := v2_452 + (-1 : Int32)) (lv' := [(2, .int (v2_452 + (-1 : Int32))), (0, y_p v0_452), (1, .int v1_452)]) (pc2 := 455) rfl dX12_back_452 rfl rfl (by decide) rfl ?_
                                      refine y_goto (tgt := 224) dX12_back_455 (by decide) ?_
                                      exact y_pk [1, 2, 0] rfl (hj224 _ _ _ _ hf)
                                    · refine y_icmp_ge (tgt := 452) (pc2 := 403) rfl dX12_back_400 (by decide) (fun c48 => ?_) (fun c48 => ?_)
                                      · replace hf := y_it c48 hf
                                        exact y_pk [0, 1, 2] rfl (hj452 _ _ _ _ hf)
                                      · replace hf := y_ie c48 hf
                                        refine y_aload_n (x := v0_397) (pc2 := 404) rfl dX12_back_403 rfl ?_
                                        obtain ⟨g47, hf⟩ := y_g hf
                                        refine y_getP (pc2 := 407) rfl dX12_back_404 F_BoxYardModel_137 (by decide) rfl g47 ?_
                                        refine y_iload_n (pc2 := 408) rfl dX12_back_407 rfl ?_
                                        refine y_bipush (v := 11) (pc2 := 410) rfl dX12_back_408 (by decide) ?_
                                        refine y_iadd (pc2 := 411) rfl dX12_back_410 ?_
                                        obtain ⟨g46, hf⟩ := y_g hf
                                        refine y_iald (pc2 := 412) rfl dX12_back_411 (Or.inl g46.1) (y_ix_in g46.2) ?_
                                        refine y_if_lt (tgt := 452) (pc2 := 415) rfl dX12_back_412 (by decide) (fun c45 => ?_) (fun c45 => ?_)
                                        · replace hf := y_it c45 hf
                                          exact y_pk [0, 1, 2] rfl (hj452 _ _ _ _ hf)
                                        · replace hf := y_ie c45 hf
                                          refine y_aload_n (x := v0_397) (pc2 := 416) rfl dX12_back_415 rfl ?_
                                          obtain ⟨g44, hf⟩ := y_g hf
                                          refine y_getP (pc2 := 419) rfl dX12_back_416 F_BoxYardModel_228 (by decide) rfl g44 ?_
                                          refine y_iconst (v := 2) (pc2 := 420) rfl dX12_back_419 (by decide) ?_
                                          refine y_aload_n (x := v0_397) (pc2 := 421) rfl dX12_back_420 rfl ?_
                                          obtain ⟨g43, hf⟩ := y_g hf
                                          refine y_getP (pc2 := 424) rfl dX12_back_421 F_BoxYardModel_137 (by decide) rfl g43 ?_
                                          refine y_iload_n (pc2 := 425) rfl dX12_back_424 rfl ?_
                                          refine y_bipush (v := 11) (pc2 := 427) rfl dX12_back_425 (by decide) ?_
                                          refine y_iadd (pc2 := 428) rfl dX12_back_427 ?_
                                          obtain ⟨g42, hf⟩ := y_g hf
                                          refine y_iald (pc2 := 429) rfl dX12_back_428 (Or.inl g42.1) (y_ix_in g42.2) ?_
                                          refine y_imul (pc2 := 430) rfl dX12_back_429 ?_
                                          refine y_iload (pc2 := 432) rfl dX12_back_430 rfl ?_
                                          refine y_iadd (pc2 := 433) rfl dX12_back_432 ?_
                                          refine y_aload_n (x := v0_397) (pc2 := 434) rfl dX12_back_433 rfl ?_
                                          obtain ⟨g41, hf⟩ := y_g hf
                                          refine y_getP (pc2 := 437) rfl dX12_back_434 F_BoxYardModel_137 (by decide) rfl g41 ?_
                                          refine y_iload_n (pc2 := 438) rfl dX12_back_437 rfl ?_
                                          refine y_bipush (v := 12) (pc2 := 440) rfl dX12_back_438 (by decide) ?_
                                          refine y_iadd (pc2 := 441) rfl dX12_back_440 ?_
                                          refine y_iload (pc2 := 443) rfl dX12_back_441 rfl ?_
                                          refine y_iadd (pc2 := 444) rfl dX12_back_443 ?_
                                          obtain ⟨g40, hf⟩ := y_g hf
                                          refine y_iald (pc2 := 445) rfl dX12_back_444 (Or.inl g40.1) (y_ix_in g40.2) ?_
                                          obtain ⟨g39, hf⟩ := y_g hf
                                          obtain ⟨h37, e38, hf⟩ := y_bdE hf
                                          refine y_iast (x := y_I h35 (y_P h35 v0_397 51) (Int32.toNatClampNeg ((v3_397 + 12) + v5_397))) (pc2 := 446) rfl dX12_back_445 g39.1 (y_ix_in g39.2) e38 ?_
                                          refine y_iinc (v := v5_397 + 1) (lv' := [(5, .int (v5_397 + 1)), (0, y_p v0_397), (1, .int v1_397), (2, .int v2_397), (3, .int v3_397)]) (pc2 := 449) rfl dX12_back_446 rfl rfl (by decide) rfl ?_
                                          refine y_goto (tgt := 397) dX12_back_449 (by decide) ?_
                                          exact y_pk [1, 2, 3, 4, 0] rfl (hj397 _ _ _ _ _ _ hf)
                                  · refine y_istore (lv' := [(5, .int 0), (0, y_p v0_394), (1, .int v1_394), (2, .int v2_394), (3, .int v3_394)]) (pc2 := 397) rfl dX12_back_395 (by decide) rfl ?_
                                    exact y_pk [1, 2, 3, 4, 0] rfl (hj397 _ _ _ _ _ _ hf)
                                · refine y_icmp_ge (tgt := 394) (pc2 := 348) rfl dX12_back_345 (by decide) (fun c60 => ?_) (fun c60 => ?_)
                                  · replace hf := y_it c60 hf
                                    exact y_pk [0, 1, 2, 3] rfl (hj394 _ _ _ _ _ hf)
                                  · replace hf := y_ie c60 hf
                                    refine y_aload_n (x := v0_342) (pc2 := 349) rfl dX12_back_348 rfl ?_
                                    obtain ⟨g59, hf⟩ := y_g hf
                                    refine y_getP (pc2 := 352) rfl dX12_back_349 F_BoxYardModel_137 (by decide) rfl g59 ?_
                                    refine y_iload_n (pc2 := 353) rfl dX12_back_352 rfl ?_
                                    refine y_iconst (v := 1) (pc2 := 354) rfl dX12_back_353 (by decide) ?_
                                    refine y_iadd (pc2 := 355) rfl dX12_back_354 ?_
                                    obtain ⟨g58, hf⟩ := y_g hf
                                    refine y_iald (pc2 := 356) rfl dX12_back_355 (Or.inl g58.1) (y_ix_in g58.2) ?_
                                    refine y_if_lt (tgt := 394) (pc2 := 359) rfl dX12_back_356 (by decide) (fun c57 => ?_) (fun c57 => ?_)
                                    · replace hf := y_it c57 hf
                                      exact y_pk [0, 1, 2, 3] rfl (hj394 _ _ _ _ _ hf)
                                    · replace hf := y_ie c57 hf
                                      refine y_aload_n (x := v0_342) (pc2 := 360) rfl dX12_back_359 rfl ?_
                                      obtain ⟨g56, hf⟩ := y_g hf
                                      refine y_getP (pc2 := 363) rfl dX12_back_360 F_BoxYardModel_225 (by decide) rfl g56 ?_
                                      refine y_iconst (v := 3) (pc2 := 364) rfl dX12_back_363 (by decide) ?_
                                      refine y_aload_n (x := v0_342) (pc2 := 365) rfl dX12_back_364 rfl ?_
                                      obtain ⟨g55, hf⟩ := y_g hf
                                      refine y_getP (pc2 := 368) rfl dX12_back_365 F_BoxYardModel_137 (by decide) rfl g55 ?_
                                      refine y_iload_n (pc2 := 369) rfl dX12_back_368 rfl ?_
                                      refine y_iconst (v := 1) (pc2 := 370) rfl dX12_back_369 (by decide) ?_
                                      refine y_iadd (pc2 := 371) rfl dX12_back_370 ?_
                                      obtain ⟨g54, hf⟩ := y_g hf
                                      refine y_iald (pc2 := 372) rfl dX12_back_371 (Or.inl g54.1) (y_ix_in g54.2) ?_
                                      refine y_imul (pc2 := 373) rfl dX12_back_372 ?_
                                      refine y_iload (pc2 := 375) rfl dX12_back_373 rfl ?_
                                      refine y_iadd (pc2 := 376) rfl dX12_back_375 ?_
                                      refine y_aload_n (x := v0_342) (pc2 := 377) rfl dX12_back_376 rfl ?_
                                      obtain ⟨g53, hf⟩ := y_g hf
                                      refine y_getP (pc2 := 380) rfl dX12_back_377 F_BoxYardModel_137 (by decide) rfl g53 ?_
                                      refine y_iload_n (pc2 := 381) rfl dX12_back_380 rfl ?_
                                      refine y_iconst (v := 2) (pc2 := 382) rfl dX12_back_381 (by decide) ?_
                                      refine y_iadd (pc2 := 383) rfl dX12_back_382 ?_
                                      refine y_iload (pc2 := 385) rfl dX12_back_383 rfl ?_
                                      refine y_iadd (pc2 := 386) rfl dX12_back_385 ?_
                                      obtain ⟨g52, hf⟩ := y_g hf
                                      refine y_iald (pc2 := 387) rfl dX12_back_386 (Or.inl g52.1) (y_ix_in g52.2) ?_
                                      obtain ⟨g51, hf⟩ := y_g hf
                                      obtain ⟨h49, e50, hf⟩ := y_bdE hf
                                      refine y_iast (x := y_I h33 (y_P h33 v0_342 51) (Int32.toNatClampNeg ((v3_342 + 2) + v5_342))) (pc2 := 388) rfl dX12_back_387 g51.1 (y_ix_in g51.2) e50 ?_
                                      refine y_iinc (v := v5_342 + 1) (lv' := [(5, .int (v5_342 + 1)), (0, y_p v0_342), (1, .int v1_342), (2, .int v2_342), (3, .int v3_342)]) (pc2 := 391) rfl dX12_back_388 rfl rfl (by decide) rfl ?_
                                      refine y_goto (tgt := 342) dX12_back_391 (by decide) ?_
                                      exact y_pk [1, 2, 3, 4, 0] rfl (hj342 _ _ _ _ _ _ hf)
                              · refine y_istore (lv' := [(5, .int 0), (0, y_p v0_339), (1, .int v1_339), (2, .int v2_339), (3, .int v3_339)]) (pc2 := 342) rfl dX12_back_340 (by decide) rfl ?_
                                exact y_pk [1, 2, 3, 4, 0] rfl (hj342 _ _ _ _ _ _ hf)
                            · refine y_if_lt (tgt := 339) (pc2 := 298) rfl dX12_back_295 (by decide) (fun c75 => ?_) (fun c75 => ?_)
                              · replace hf := y_it c75 hf
                                exact y_pk [0, 1, 2, 3] rfl (hj339 _ _ _ _ _ hf)
                              · replace hf := y_ie c75 hf
                                refine y_aload_n (x := v0_293) (pc2 := 299) rfl dX12_back_298 rfl ?_
                                obtain ⟨g74, hf⟩ := y_g hf
                                refine y_getP (pc2 := 302) rfl dX12_back_299 F_BoxYardModel_222 (by decide) rfl g74 ?_
                                refine y_iconst (v := 5) (pc2 := 303) rfl dX12_back_302 (by decide) ?_
                                refine y_iload (pc2 := 305) rfl dX12_back_303 rfl ?_
                                refine y_imul (pc2 := 306) rfl dX12_back_305 ?_
                                refine y_iconst (v := 4) (pc2 := 307) rfl dX12_back_306 (by decide) ?_
                                refine y_iadd (pc2 := 308) rfl dX12_back_307 ?_
                                refine y_aload_n (x := v0_293) (pc2 := 309) rfl dX12_back_308 rfl ?_
                                obtain ⟨g73, hf⟩ := y_g hf
                                refine y_getP (pc2 := 312) rfl dX12_back_309 F_BoxYardModel_137 (by decide) rfl g73 ?_
                                refine y_iload_n (pc2 := 313) rfl dX12_back_312 rfl ?_
                                refine y_bipush (v := 10) (pc2 := 315) rfl dX12_back_313 (by decide) ?_
                                refine y_iadd (pc2 := 316) rfl dX12_back_315 ?_
                                obtain ⟨g72, hf⟩ := y_g hf
                                refine y_iald (pc2 := 317) rfl dX12_back_316 (Or.inl g72.1) (y_ix_in g72.2) ?_
                                refine y_iconst (v := 1) (pc2 := 318) rfl dX12_back_317 (by decide) ?_
                                refine y_icmp_ne (tgt := 331) (pc2 := 321) rfl dX12_back_318 (by decide) (fun c71 => ?_) (fun c71 => ?_)
                                · replace hf := y_ie c71 hf
                                  refine y_aload_n (x := v0_293) (pc2 := 332) rfl dX12_back_331 rfl ?_
                                  obtain ⟨g65, hf⟩ := y_g hf
                                  refine y_getP (pc2 := 335) rfl dX12_back_332 F_BoxYardModel_13 (by decide) rfl g65 ?_
                                  refine y_iload (pc2 := 337) rfl dX12_back_335 rfl ?_
                                  obtain ⟨g64, hf⟩ := y_g hf
                                  refine y_iald (pc2 := 338) rfl dX12_back_337 (Or.inl g64.1) (y_ix_in g64.2) ?_
                                  obtain ⟨g63, hf⟩ := y_g hf
                                  obtain ⟨h61, e62, hf⟩ := y_bdE hf
                                  refine y_iast (x := y_I h31 (y_P h31 v0_293 2) (Int32.toNatClampNeg v4_293)) (pc2 := 339) rfl dX12_back_338 g63.1 (y_ix_in g63.2) e62 ?_
                                  exact y_pk [0, 1, 2, 3] rfl (hj339 _ _ _ _ _ hf)
                                · replace hf := y_it c71 hf
                                  refine y_aload_n (x := v0_293) (pc2 := 322) rfl dX12_back_321 rfl ?_
                                  obtain ⟨g70, hf⟩ := y_g hf
                                  refine y_getP (pc2 := 325) rfl dX12_back_322 F_BoxYardModel_16 (by decide) rfl g70 ?_
                                  refine y_iload (pc2 := 327) rfl dX12_back_325 rfl ?_
                                  obtain ⟨g69, hf⟩ := y_g hf
                                  refine y_iald (pc2 := 328) rfl dX12_back_327 (Or.inl g69.1) (y_ix_in g69.2) ?_
                                  refine y_goto (tgt := 338) dX12_back_328 (by decide) ?_
                                  obtain ⟨g68, hf⟩ := y_g hf
                                  obtain ⟨h66, e67, hf⟩ := y_bdE hf
                                  refine y_iast (x := y_I h31 (y_P h31 v0_293 3) (Int32.toNatClampNeg v4_293)) (pc2 := 339) rfl dX12_back_338 g68.1 (y_ix_in g68.2) e67 ?_
                                  exact y_pk [0, 1, 2, 3] rfl (hj339 _ _ _ _ _ hf)
                          · refine y_icmp_ge (tgt := 293) (pc2 := 258) rfl dX12_back_255 (by decide) (fun c83 => ?_) (fun c83 => ?_)
                            · replace hf := y_it c83 hf
                              exact y_pk [0, 1, 2, 3, 4] rfl (hj293 _ _ _ _ _ _ hf)
                            · replace hf := y_ie c83 hf
                              refine y_iload (pc2 := 260) rfl dX12_back_258 rfl ?_
                              refine y_if_lt (tgt := 293) (pc2 := 263) rfl dX12_back_260 (by decide) (fun c82 => ?_) (fun c82 => ?_)
                              · replace hf := y_it c82 hf
                                exact y_pk [0, 1, 2, 3, 4] rfl (hj293 _ _ _ _ _ _ hf)
                              · replace hf := y_ie c82 hf
                                refine y_aload_n (x := v0_252) (pc2 := 264) rfl dX12_back_263 rfl ?_
                                obtain ⟨g81, hf⟩ := y_g hf
                                refine y_getP (pc2 := 267) rfl dX12_back_264 F_BoxYardModel_222 (by decide) rfl g81 ?_
                                refine y_iconst (v := 5) (pc2 := 268) rfl dX12_back_267 (by decide) ?_
                                refine y_iload (pc2 := 270) rfl dX12_back_268 rfl ?_
                                refine y_imul (pc2 := 271) rfl dX12_back_270 ?_
                                refine y_iload (pc2 := 273) rfl dX12_back_271 rfl ?_
                                refine y_iadd (pc2 := 274) rfl dX12_back_273 ?_
                                refine y_aload_n (x := v0_252) (pc2 := 275) rfl dX12_back_274 rfl ?_
                                obtain ⟨g80, hf⟩ := y_g hf
                                refine y_getP (pc2 := 278) rfl dX12_back_275 F_BoxYardModel_137 (by decide) rfl g80 ?_
                                refine y_iload_n (pc2 := 279) rfl dX12_back_278 rfl ?_
                                refine y_bipush (v := 6) (pc2 := 281) rfl dX12_back_279 (by decide) ?_
                                refine y_iadd (pc2 := 282) rfl dX12_back_281 ?_
                                refine y_iload (pc2 := 284) rfl dX12_back_282 rfl ?_
                                refine y_iadd (pc2 := 285) rfl dX12_back_284 ?_
                                obtain ⟨g79, hf⟩ := y_g hf
                                refine y_iald (pc2 := 286) rfl dX12_back_285 (Or.inl g79.1) (y_ix_in g79.2) ?_
                                obtain ⟨g78, hf⟩ := y_g hf
                                obtain ⟨h76, e77, hf⟩ := y_bdE hf
                                refine y_iast (x := y_I h30 (y_P h30 v0_252 51) (Int32.toNatClampNeg ((v3_252 + 6) + v5_252))) (pc2 := 287) rfl dX12_back_286 g78.1 (y_ix_in g78.2) e77 ?_
                                refine y_iinc (v := v5_252 + 1) (lv' := [(5, .int (v5_252 + 1)), (0, y_p v0_252), (1, .int v1_252), (2, .int v2_252), (3, .int v3_252), (4, .int v4_252)]) (pc2 := 290) rfl dX12_back_287 rfl rfl (by decide) rfl ?_
                                refine y_goto (tgt := 252) dX12_back_290 (by decide) ?_
                                exact y_pk [1, 2, 3, 4, 5, 0] rfl (hj252 _ _ _ _ _ _ _ hf)
                        · refine y_istore (lv' := [(5, .int 0), (4, .int (y_I h5 (y_P h5 v0_224 51) (Int32.toNatClampNeg ((14 * v2_224) + 5)))), (3, .int (14 * v2_224)), (0, y_p v0_224), (1, .int v1_224), (2, .int v2_224)]) (pc2 := 252) rfl dX12_back_250 (by decide) rfl ?_
                          exact y_pk [3, 4, 5, 2, 1, 0] rfl (hj252 _ _ _ _ _ _ _ hf)
                    · refine y_istore_n (lv' := [(2, .int ((y_I h4 v0_173 50) - 1)), (0, y_p v0_173), (1, .int v1_173)]) (pc2 := 224) rfl dX12_back_223 (by decide) rfl ?_
                      exact y_pk [1, 2, 0] rfl (hj224 _ _ _ _ hf)
                  · replace hf := y_ie c101 hf
                    refine y_aload_n (x := v0_173) (pc2 := 182) rfl dX12_back_181 rfl ?_
                    obtain ⟨g100, hf⟩ := y_g hf
                    refine y_getP (pc2 := 185) rfl dX12_back_182 F_BoxYardModel_228 (by decide) rfl g100 ?_
                    refine y_iconst (v := 2) (pc2 := 186) rfl dX12_back_185 (by decide) ?_
                    refine y_iload_n (pc2 := 187) rfl dX12_back_186 rfl ?_
                    refine y_imul (pc2 := 188) rfl dX12_back_187 ?_
                    refine y_aload_n (x := v0_173) (pc2 := 189) rfl dX12_back_188 rfl ?_
                    obtain ⟨g99, hf⟩ := y_g hf
                    refine y_getP (pc2 := 192) rfl dX12_back_189 F_BoxYardModel_125 (by decide) rfl g99 ?_
                    refine y_iload_n (pc2 := 193) rfl dX12_back_192 rfl ?_
                    obtain ⟨g98, hf⟩ := y_g hf
                    refine y_iald (pc2 := 194) rfl dX12_back_193 (Or.inl g98.1) (y_ix_in g98.2) ?_
                    obtain ⟨g91, hf⟩ := y_g hf
                    obtain ⟨h89, e90, hf⟩ := y_bdE hf
                    refine y_iast (x := y_I h4 (y_P h4 v0_173 43) (Int32.toNatClampNeg v2_173)) (pc2 := 195) rfl dX12_back_194 g91.1 (y_ix_in g91.2) e90 ?_
                    refine y_aload_n (x := v0_173) (pc2 := 196) rfl dX12_back_195 rfl ?_
                    obtain ⟨g97, hf⟩ := y_g hf
                    refine y_getP (pc2 := 199) rfl dX12_back_196 F_BoxYardModel_228 (by decide) rfl g97 ?_
                    refine y_iconst (v := 2) (pc2 := 200) rfl dX12_back_199 (by decide) ?_
                    refine y_iload_n (pc2 := 201) rfl dX12_back_200 rfl ?_
                    refine y_imul (pc2 := 202) rfl dX12_back_201 ?_
                    refine y_iconst (v := 1) (pc2 := 203) rfl dX12_back_202 (by decide) ?_
                    refine y_iadd (pc2 := 204) rfl dX12_back_203 ?_
                    refine y_aload_n (x := v0_173) (pc2 := 205) rfl dX12_back_204 rfl ?_
                    obtain ⟨g96, hf⟩ := y_g hf
                    refine y_getP (pc2 := 208) rfl dX12_back_205 F_BoxYardModel_128 (by decide) rfl g96 ?_
                    refine y_iload_n (pc2 := 209) rfl dX12_back_208 rfl ?_
                    obtain ⟨g95, hf⟩ := y_g hf
                    refine y_iald (pc2 := 210) rfl dX12_back_209 (Or.inl g95.1) (y_ix_in g95.2) ?_
                    obtain ⟨g94, hf⟩ := y_g hf
                    obtain ⟨h92, e93, hf⟩ := y_bdE hf
                    refine y_iast (x := y_I h89 (y_P h89 v0_173 44) (Int32.toNatClampNeg v2_173)) (pc2 := 211) rfl dX12_back_210 g94.1 (y_ix_in g94.2) e93 ?_
                    refine y_iinc (v := v2_173 + 1) (lv' := [(2, .int (v2_173 + 1)), (0, y_p v0_173), (1, .int v1_173)]) (pc2 := 214) rfl dX12_back_211 rfl rfl (by decide) rfl ?_
                    refine y_goto (tgt := 173) dX12_back_214 (by decide) ?_
                    exact y_pk [1, 2, 0] rfl (hj173 _ _ _ _ hf)
                · refine y_istore_n (lv' := [(2, .int 0), (0, y_p v0_111), (1, .int v1_111)]) (pc2 := 173) rfl dX12_back_172 (by decide) rfl ?_
                  exact y_pk [1, 2, 0] rfl (hj173 _ _ _ _ hf)
              · replace hf := y_ie c121 hf
                refine y_aload_n (x := v0_111) (pc2 := 120) rfl dX12_back_119 rfl ?_
                obtain ⟨g120, hf⟩ := y_g hf
                refine y_getP (pc2 := 123) rfl dX12_back_120 F_BoxYardModel_225 (by decide) rfl g120 ?_
                refine y_iconst (v := 3) (pc2 := 124) rfl dX12_back_123 (by decide) ?_
                refine y_iload_n (pc2 := 125) rfl dX12_back_124 rfl ?_
                refine y_imul (pc2 := 126) rfl dX12_back_125 ?_
                refine y_aload_n (x := v0_111) (pc2 := 127) rfl dX12_back_126 rfl ?_
                obtain ⟨g119, hf⟩ := y_g hf
                refine y_getP (pc2 := 130) rfl dX12_back_127 F_BoxYardModel_86 (by decide) rfl g119 ?_
                refine y_iload_n (pc2 := 131) rfl dX12_back_130 rfl ?_
                obtain ⟨g118, hf⟩ := y_g hf
                refine y_iald (pc2 := 132) rfl dX12_back_131 (Or.inl g118.1) (y_ix_in g118.2) ?_
                obtain ⟨g105, hf⟩ := y_g hf
                obtain ⟨h103, e104, hf⟩ := y_bdE hf
                refine y_iast (x := y_I h3 (y_P h3 v0_111 28) (Int32.toNatClampNeg v2_111)) (pc2 := 133) rfl dX12_back_132 g105.1 (y_ix_in g105.2) e104 ?_
                refine y_aload_n (x := v0_111) (pc2 := 134) rfl dX12_back_133 rfl ?_
                obtain ⟨g117, hf⟩ := y_g hf
                refine y_getP (pc2 := 137) rfl dX12_back_134 F_BoxYardModel_225 (by decide) rfl g117 ?_
                refine y_iconst (v := 3) (pc2 := 138) rfl dX12_back_137 (by decide) ?_
                refine y_iload_n (pc2 := 139) rfl dX12_back_138 rfl ?_
                refine y_imul (pc2 := 140) rfl dX12_back_139 ?_
                refine y_iconst (v := 1) (pc2 := 141) rfl dX12_back_140 (by decide) ?_
                refine y_iadd (pc2 := 142) rfl dX12_back_141 ?_
                refine y_aload_n (x := v0_111) (pc2 := 143) rfl dX12_back_142 rfl ?_
                obtain ⟨g116, hf⟩ := y_g hf
                refine y_getP (pc2 := 146) rfl dX12_back_143 F_BoxYardModel_89 (by decide) rfl g116 ?_
                refine y_iload_n (pc2 := 147) rfl dX12_back_146 rfl ?_
                obtain ⟨g115, hf⟩ := y_g hf
                refine y_iald (pc2 := 148) rfl dX12_back_147 (Or.inl g115.1) (y_ix_in g115.2) ?_
                obtain ⟨g108, hf⟩ := y_g hf
                obtain ⟨h106, e107, hf⟩ := y_bdE hf
                refine y_iast (x := y_I h103 (y_P h103 v0_111 29) (Int32.toNatClampNeg v2_111)) (pc2 := 149) rfl dX12_back_148 g108.1 (y_ix_in g108.2) e107 ?_
                refine y_aload_n (x := v0_111) (pc2 := 150) rfl dX12_back_149 rfl ?_
                obtain ⟨g114, hf⟩ := y_g hf
                refine y_getP (pc2 := 153) rfl dX12_back_150 F_BoxYardModel_225 (by decide) rfl g114 ?_
                refine y_iconst (v := 3) (pc2 := 154) rfl dX12_back_153 (by decide) ?_
                refine y_iload_n (pc2 := 155) rfl dX12_back_154 rfl ?_
                refine y_imul (pc2 := 156) rfl dX12_back_155 ?_
                refine y_iconst (v := 2) (pc2 := 157) rfl dX12_back_156 (by decide) ?_
                refine y_iadd (pc2 := 158) rfl dX12_back_157 ?_
                refine y_aload_n (x := v0_111) (pc2 := 159) rfl dX12_back_158 rfl ?_
                obtain ⟨g113, hf⟩ := y_g hf
                refine y_getP (pc2 := 162) rfl dX12_back_159 F_BoxYardModel_92 (by decide) rfl g113 ?_
                refine y_iload_n (pc2 := 163) rfl dX12_back_162 rfl ?_
                obtain ⟨g112, hf⟩ := y_g hf
                refine y_iald (pc2 := 164) rfl dX12_back_163 (Or.inl g112.1) (y_ix_in g112.2) ?_
                obtain ⟨g111, hf⟩ := y_g hf
                obtain ⟨h109, e110, hf⟩ := y_bdE hf
                refine y_iast (x := y_I h106 (y_P h106 v0_111 30) (Int32.toNatClampNeg v2_111)) (pc2 := 165) rfl dX12_back_164 g111.1 (y_ix_in g111.2) e110 ?_
                refine y_iinc (v := v2_111 + 1) (lv' := [(2, .int (v2_111 + 1)), (0, y_p v0_111), (1, .int v1_111)]) (pc2 := 168) rfl dX12_back_165 rfl rfl (by decide) rfl ?_
                refine y_goto (tgt := 111) dX12_back_168 (by decide) ?_
                exact y_pk [1, 2, 0] rfl (hj111 _ _ _ _ hf)
            · refine y_istore_n (lv' := [(2, .int 0), (0, y_p v0_18), (1, .int v1_18)]) (pc2 := 111) rfl dX12_back_110 (by decide) rfl ?_
              exact y_pk [1, 2, 0] rfl (hj111 _ _ _ _ hf)
          · replace hf := y_ie c155 hf
            refine y_aload_n (x := v0_18) (pc2 := 27) rfl dX12_back_26 rfl ?_
            obtain ⟨g154, hf⟩ := y_g hf
            refine y_getP (pc2 := 30) rfl dX12_back_27 F_BoxYardModel_222 (by decide) rfl g154 ?_
            refine y_iconst (v := 5) (pc2 := 31) rfl dX12_back_30 (by decide) ?_
            refine y_iload_n (pc2 := 32) rfl dX12_back_31 rfl ?_
            refine y_imul (pc2 := 33) rfl dX12_back_32 ?_
            refine y_aload_n (x := v0_18) (pc2 := 34) rfl dX12_back_33 rfl ?_
            obtain ⟨g153, hf⟩ := y_g hf
            refine y_getP (pc2 := 37) rfl dX12_back_34 F_BoxYardModel_29 (by decide) rfl g153 ?_
            refine y_iload_n (pc2 := 38) rfl dX12_back_37 rfl ?_
            obtain ⟨g152, hf⟩ := y_g hf
            refine y_iald (pc2 := 39) rfl dX12_back_38 (Or.inl g152.1) (y_ix_in g152.2) ?_
            obtain ⟨g125, hf⟩ := y_g hf
            obtain ⟨h123, e124, hf⟩ := y_bdE hf
            refine y_iast (x := y_I h2 (y_P h2 v0_18 7) (Int32.toNatClampNeg v2_18)) (pc2 := 40) rfl dX12_back_39 g125.1 (y_ix_in g125.2) e124 ?_
            refine y_aload_n (x := v0_18) (pc2 := 41) rfl dX12_back_40 rfl ?_
            obtain ⟨g151, hf⟩ := y_g hf
            refine y_getP (pc2 := 44) rfl dX12_back_41 F_BoxYardModel_222 (by decide) rfl g151 ?_
            refine y_iconst (v := 5) (pc2 := 45) rfl dX12_back_44 (by decide) ?_
            refine y_iload_n (pc2 := 46) rfl dX12_back_45 rfl ?_
            refine y_imul (pc2 := 47) rfl dX12_back_46 ?_
            refine y_iconst (v := 1) (pc2 := 48) rfl dX12_back_47 (by decide) ?_
            refine y_iadd (pc2 := 49) rfl dX12_back_48 ?_
            refine y_aload_n (x := v0_18) (pc2 := 50) rfl dX12_back_49 rfl ?_
            obtain ⟨g150, hf⟩ := y_g hf
            refine y_getP (pc2 := 53) rfl dX12_back_50 F_BoxYardModel_32 (by decide) rfl g150 ?_
            refine y_iload_n (pc2 := 54) rfl dX12_back_53 rfl ?_
            obtain ⟨g149, hf⟩ := y_g hf
            refine y_iald (pc2 := 55) rfl dX12_back_54 (Or.inl g149.1) (y_ix_in g149.2) ?_
            obtain ⟨g128, hf⟩ := y_g hf
            obtain ⟨h126, e127, hf⟩ := y_bdE hf
            refine y_iast (x := y_I h123 (y_P h123 v0_18 8) (Int32.toNatClampNeg v2_18)) (pc2 := 56) rfl dX12_back_55 g128.1 (y_ix_in g128.2) e127 ?_
            refine y_aload_n (x := v0_18) (pc2 := 57) rfl dX12_back_56 rfl ?_
            obtain ⟨g148, hf⟩ := y_g hf
            refine y_getP (pc2 := 60) rfl dX12_back_57 F_BoxYardModel_222 (by decide) rfl g148 ?_
            refine y_iconst (v := 5) (pc2 := 61) rfl dX12_back_60 (by decide) ?_
            refine y_iload_n (pc2 := 62) rfl dX12_back_61 rfl ?_
            refine y_imul (pc2 := 63) rfl dX12_back_62 ?_
            refine y_iconst (v := 2) (pc2 := 64) rfl dX12_back_63 (by decide) ?_
            refine y_iadd (pc2 := 65) rfl dX12_back_64 ?_
            refine y_aload_n (x := v0_18) (pc2 := 66) rfl dX12_back_65 rfl ?_
            obtain ⟨g147, hf⟩ := y_g hf
            refine y_getP (pc2 := 69) rfl dX12_back_66 F_BoxYardModel_35 (by decide) rfl g147 ?_
            refine y_iload_n (pc2 := 70) rfl dX12_back_69 rfl ?_
            obtain ⟨g146, hf⟩ := y_g hf
            refine y_iald (pc2 := 71) rfl dX12_back_70 (Or.inl g146.1) (y_ix_in g146.2) ?_
            obtain ⟨g131, hf⟩ := y_g hf
            obtain ⟨h129, e130, hf⟩ := y_bdE hf
            refine y_iast (x := y_I h126 (y_P h126 v0_18 9) (Int32.toNatClampNeg v2_18)) (pc2 := 72) rfl dX12_back_71 g131.1 (y_ix_in g131.2) e130 ?_
            refine y_aload_n (x := v0_18) (pc2 := 73) rfl dX12_back_72 rfl ?_
            obtain ⟨g145, hf⟩ := y_g hf
            refine y_getP (pc2 := 76) rfl dX12_back_73 F_BoxYardModel_222 (by decide) rfl g145 ?_
            refine y_iconst (v := 5) (pc2 := 77) rfl dX12_back_76 (by decide) ?_
            refine y_iload_n (pc2 := 78) rfl dX12_back_77 rfl ?_
            refine y_imul (pc2 := 79) rfl dX12_back_78 ?_
            refine y_iconst (v := 3) (pc2 := 80) rfl dX12_back_79 (by decide) ?_
            refine y_iadd (pc2 := 81) rfl dX12_back_80 ?_
            refine y_aload_n (x := v0_18) (pc2 := 82) rfl dX12_back_81 rfl ?_
            obtain ⟨g144, hf⟩ := y_g hf
            refine y_getP (pc2 := 85) rfl dX12_back_82 F_BoxYardModel_38 (by decide) rfl g144 ?_
            refine y_iload_n (pc2 := 86) rfl dX12_back_85 rfl ?_
            obtain ⟨g143, hf⟩ := y_g hf
            refine y_iald (pc2 := 87) rfl dX12_back_86 (Or.inl g143.1) (y_ix_in g143.2) ?_
            obtain ⟨g134, hf⟩ := y_g hf
            obtain ⟨h132, e133, hf⟩ := y_bdE hf
            refine y_iast (x := y_I h129 (y_P h129 v0_18 10) (Int32.toNatClampNeg v2_18)) (pc2 := 88) rfl dX12_back_87 g134.1 (y_ix_in g134.2) e133 ?_
            refine y_aload_n (x := v0_18) (pc2 := 89) rfl dX12_back_88 rfl ?_
            obtain ⟨g142, hf⟩ := y_g hf
            refine y_getP (pc2 := 92) rfl dX12_back_89 F_BoxYardModel_222 (by decide) rfl g142 ?_
            refine y_iconst (v := 5) (pc2 := 93) rfl dX12_back_92 (by decide) ?_
            refine y_iload_n (pc2 := 94) rfl dX12_back_93 rfl ?_
            refine y_imul (pc2 := 95) rfl dX12_back_94 ?_
            refine y_iconst (v := 4) (pc2 := 96) rfl dX12_back_95 (by decide) ?_
            refine y_iadd (pc2 := 97) rfl dX12_back_96 ?_
            refine y_aload_n (x := v0_18) (pc2 := 98) rfl dX12_back_97 rfl ?_
            refine y_iload_n (pc2 := 99) rfl dX12_back_98 rfl ?_
            obtain ⟨g141, hf⟩ := y_g hf
            obtain ⟨r135, h136, c137, hf⟩ := y_clE hf
            refine y_callV (As := [.int v2_18]) (rm := rm_X12_known) (cells := 0) (slots := 0) (pc2 := 102) rfl dX12_back_99 n_X12_known l_BoxYardModel_290 i_X12_known e_X12_known (ci := 12) rfl rfl (by decide) g141 rfl rfl (by decide) (by simp [y_ci, y_cj, y_p_cat]) (by decide) (k_X12_known c137) ?_
            obtain ⟨g140, hf⟩ := y_g hf
            obtain ⟨h138, e139, hf⟩ := y_bdE hf
            refine y_iast (x := r135) (pc2 := 103) rfl dX12_back_102 g140.1 (y_ix_in g140.2) e139 ?_
            refine y_iinc (v := v2_18 + 1) (lv' := [(2, .int (v2_18 + 1)), (0, y_p v0_18), (1, .int v1_18)]) (pc2 := 106) rfl dX12_back_103 rfl rfl (by decide) rfl ?_
            refine y_goto (tgt := 18) dX12_back_106 (by decide) ?_
            exact y_pk [1, 2, 0] rfl (hj18 _ _ _ _ hf)
        · refine y_istore_n (lv' := [(2, .int 0), (0, y_p p0), (1, .int p1)]) (pc2 := 18) rfl dX12_back_17 (by decide) rfl ?_
          exact y_pk [1, 2, 0] rfl (hj18 _ _ _ _ hf)
      · replace hf := y_ie c157 hf
        exact y_pk [] rfl (hj12 _ hf)
theorem dX12_count_0 : decode cX12_count 0 = .ok (.iconst 0, 1) := by decide +kernel
theorem dX12_count_1 : decode cX12_count 1 = .ok (.istore_n 2, 1) := by decide +kernel
theorem dX12_count_2 : decode cX12_count 2 = .ok (.iload_n 1, 1) := by decide +kernel
theorem dX12_count_3 : decode cX12_count 3 = .ok (.tableswitch 141 0 10 #[57, 62, 67, 72, 77, 82, 116, 121, 126, 131, 136], 57) := by decide +kernel
theorem dX12_count_60 : decode cX12_count 60 = .ok (.aload_n 0, 1) := by decide +kernel
theorem dX12_count_61 : decode cX12_count 61 = .ok (.getfield 234, 3) := by decide +kernel
theorem dX12_count_64 : decode cX12_count 64 = .ok (.ireturn, 1) := by decide +kernel
theorem dX12_count_65 : decode cX12_count 65 = .ok (.aload_n 0, 1) := by decide +kernel
theorem dX12_count_66 : decode cX12_count 66 = .ok (.getfield 240, 3) := by decide +kernel
theorem dX12_count_69 : decode cX12_count 69 = .ok (.ireturn, 1) := by decide +kernel
theorem dX12_count_70 : decode cX12_count 70 = .ok (.aload_n 0, 1) := by decide +kernel
theorem dX12_count_71 : decode cX12_count 71 = .ok (.getfield 246, 3) := by decide +kernel
theorem dX12_count_74 : decode cX12_count 74 = .ok (.ireturn, 1) := by decide +kernel
theorem dX12_count_75 : decode cX12_count 75 = .ok (.aload_n 0, 1) := by decide +kernel
theorem dX12_count_76 : decode cX12_count 76 = .ok (.getfield 255, 3) := by decide +kernel
theorem dX12_count_79 : decode cX12_count 79 = .ok (.ireturn, 1) := by decide +kernel
theorem dX12_count_80 : decode cX12_count 80 = .ok (.aload_n 0, 1) := by decide +kernel
theorem dX12_count_81 : decode cX12_count 81 = .ok (.getfield 342, 3) := by decide +kernel
theorem dX12_count_84 : decode cX12_count 84 = .ok (.ireturn, 1) := by decide +kernel
theorem dX12_count_85 : decode cX12_count 85 = .ok (.iconst 0, 1) := by decide +kernel
theorem dX12_count_86 : decode cX12_count 86 = .ok (.istore_n 3, 1) := by decide +kernel
theorem dX12_count_87 : decode cX12_count 87 = .ok (.iload_n 3, 1) := by decide +kernel
theorem dX12_count_88 : decode cX12_count 88 = .ok (.aload_n 0, 1) := by decide +kernel
theorem dX12_count_89 : decode cX12_count 89 = .ok (.getfield 234, 3) := by decide +kernel
theorem dX12_count_92 : decode cX12_count 92 = .ok (.if_icmp .ge 25, 3) := by decide +kernel
theorem dX12_count_95 : decode cX12_count 95 = .ok (.iload_n 2, 1) := by decide +kernel
theorem dX12_count_96 : decode cX12_count 96 = .ok (.aload_n 0, 1) := by decide +kernel
theorem dX12_count_97 : decode cX12_count 97 = .ok (.iload_n 3, 1) := by decide +kernel
theorem dX12_count_98 : decode cX12_count 98 = .ok (.invokevirtual 316, 3) := by decide +kernel
theorem dX12_count_101 : decode cX12_count 101 = .ok (.ifCond .eq 7, 3) := by decide +kernel
theorem dX12_count_104 : decode cX12_count 104 = .ok (.iconst 1, 1) := by decide +kernel
theorem dX12_count_105 : decode cX12_count 105 = .ok (.goto 4, 3) := by decide +kernel
theorem dX12_count_108 : decode cX12_count 108 = .ok (.iconst 0, 1) := by decide +kernel
theorem dX12_count_109 : decode cX12_count 109 = .ok (.iadd, 1) := by decide +kernel
theorem dX12_count_110 : decode cX12_count 110 = .ok (.istore_n 2, 1) := by decide +kernel
theorem dX12_count_111 : decode cX12_count 111 = .ok (.iinc 3 1, 3) := by decide +kernel
theorem dX12_count_114 : decode cX12_count 114 = .ok (.goto (-27), 3) := by decide +kernel
theorem dX12_count_117 : decode cX12_count 117 = .ok (.iload_n 2, 1) := by decide +kernel
theorem dX12_count_118 : decode cX12_count 118 = .ok (.ireturn, 1) := by decide +kernel
theorem dX12_count_119 : decode cX12_count 119 = .ok (.aload_n 0, 1) := by decide +kernel
theorem dX12_count_120 : decode cX12_count 120 = .ok (.getfield 267, 3) := by decide +kernel
theorem dX12_count_123 : decode cX12_count 123 = .ok (.ireturn, 1) := by decide +kernel
theorem dX12_count_124 : decode cX12_count 124 = .ok (.aload_n 0, 1) := by decide +kernel
theorem dX12_count_125 : decode cX12_count 125 = .ok (.getfield 249, 3) := by decide +kernel
theorem dX12_count_128 : decode cX12_count 128 = .ok (.ireturn, 1) := by decide +kernel
theorem dX12_count_129 : decode cX12_count 129 = .ok (.aload_n 0, 1) := by decide +kernel
theorem dX12_count_130 : decode cX12_count 130 = .ok (.getfield 264, 3) := by decide +kernel
theorem dX12_count_133 : decode cX12_count 133 = .ok (.ireturn, 1) := by decide +kernel
theorem dX12_count_134 : decode cX12_count 134 = .ok (.aload_n 0, 1) := by decide +kernel
theorem dX12_count_135 : decode cX12_count 135 = .ok (.getfield 243, 3) := by decide +kernel
theorem dX12_count_138 : decode cX12_count 138 = .ok (.ireturn, 1) := by decide +kernel
theorem dX12_count_139 : decode cX12_count 139 = .ok (.aload_n 0, 1) := by decide +kernel
theorem dX12_count_140 : decode cX12_count 140 = .ok (.getfield 258, 3) := by decide +kernel
theorem dX12_count_143 : decode cX12_count 143 = .ok (.ireturn, 1) := by decide +kernel
theorem dX12_count_144 : decode cX12_count 144 = .ok (.bipush (-2), 2) := by decide +kernel
theorem dX12_count_146 : decode cX12_count 146 = .ok (.ireturn, 1) := by decide +kernel
def M_X12_count : y_M := (yX12_count, cX12_count, 4, (Option.some Jvm.ClassFile.FieldType.int))
theorem n_X12_count : y_N0 M_X12_count 1 := ⟨(c_10 158 (by decide +kernel) rfl), (c_1 9 (by decide +kernel) rfl), ⟨by decide +kernel, by decide +kernel⟩, by decide +kernel⟩
set_option maxRecDepth 100000 in
def f_X12_count (p0 : Nat) (p1 : Int32) (h : y_H) : Option (Int32 × y_H) :=
  if p1 = 0 then
    if y_K h p0 = 13 then
    some (y_I h p0 0, h)
    else none
  else
  if p1 = 1 then
    if y_K h p0 = 13 then
    some (y_I h p0 25, h)
    else none
  else
  if p1 = 2 then
    if y_K h p0 = 13 then
    some (y_I h p0 34, h)
    else none
  else
  if p1 = 3 then
    if y_K h p0 = 13 then
    some (y_I h p0 50, h)
    else none
  else
  if p1 = 4 then
    if y_K h p0 = 13 then
    some (y_I h p0 49, h)
    else none
  else
  if p1 = 5 then
    y_jl (fun (_ : Nat) (_ : Int32) (_ : Int32) (_ : y_H) => (none : Option (Int32 × y_H))) (fun j87 (v0_87 : Nat) (v2_87 : Int32) (v3_87 : Int32) (h12 : y_H) =>
        if y_K h12 v0_87 = 13 then
        if (y_I h12 v0_87 0) ≤ v3_87 then
          some (v2_87, h12)
        else
          if y_K h12 v0_87 = 13 then
          y_cl (f_X12_isWrong v0_87 v3_87 h12) (fun r13 h14 =>
          if r13 = true then
            j87 v0_87 (v2_87 + 1) (v3_87 + 1) h14
          else
            j87 v0_87 (v2_87 + 0) (v3_87 + 1) h14)
          else none
        else none) (fun j87 =>
    j87 p0 0 0 h)
  else
  if p1 = 6 then
    if y_K h p0 = 13 then
    some (y_I h p0 72, h)
    else none
  else
  if p1 = 7 then
    if y_K h p0 = 13 then
    some (y_I h p0 46, h)
    else none
  else
  if p1 = 8 then
    if y_K h p0 = 13 then
    some (y_I h p0 58, h)
    else none
  else
  if p1 = 9 then
    if y_K h p0 = 13 then
    some (y_I h p0 33, h)
    else none
  else
  if p1 = 10 then
    if y_K h p0 = 13 then
    some (y_I h p0 55, h)
    else none
  else
  some ((-2 : Int32), h)
abbrev rm_X12_count : Room := { frames := 1, cells := 0, slots := 0, locals := 21 }
set_option maxRecDepth 100000 in
set_option maxHeartbeats 4000000 in
theorem k_X12_count {l : Launch} {G : y_G} {p0 : Nat} {p1 : Int32} {h hz : y_H} {rz : Int32} (hf : f_X12_count p0 p1 h = some (rz, hz)) : y_S l G M_X12_count rm_X12_count [y_p p0, .int p1] h (some (.int rz)) hz := by
  refine y_start (lv := [(0, y_p p0), (1, .int p1)]) (by decide) (by simp [lg_sl, y_p_cat, y_ci, y_cj, M_X12_count]) (by simp [lv_args, y_p_cat, y_ci, y_cj]) (fun z ad0 => ?_)
  unfold f_X12_count at hf
  refine y_iconst (v := 0) (pc2 := 1) rfl dX12_count_0 (by decide) ?_
  refine y_istore_n (lv' := [(2, .int 0), (0, y_p p0), (1, .int p1)]) (pc2 := 2) rfl dX12_count_1 (by decide) rfl ?_
  refine y_iload_n (pc2 := 3) rfl dX12_count_2 rfl ?_
  by_cases c1 : p1 = 0
  · replace hf := y_it c1 hf
    refine y_table (off := 57) (tgt := 60) dX12_count_3 (by (rw [c1]) <;> decide) (by decide) ?_
    refine y_aload_n (x := p0) (pc2 := 61) rfl dX12_count_60 rfl ?_
    obtain ⟨g2, hf⟩ := y_g hf
    refine y_getI (pc2 := 64) rfl dX12_count_61 F_BoxYardModel_234 (by decide) rfl g2 ?_
    exact y_iretF hf dX12_count_64 rfl (by decide) (by decide)
  · replace hf := y_ie c1 hf
    by_cases c3 : p1 = 1
    · replace hf := y_it c3 hf
      refine y_table (off := 62) (tgt := 65) dX12_count_3 (by (rw [c3]) <;> decide) (by decide) ?_
      refine y_aload_n (x := p0) (pc2 := 66) rfl dX12_count_65 rfl ?_
      obtain ⟨g4, hf⟩ := y_g hf
      refine y_getI (pc2 := 69) rfl dX12_count_66 F_BoxYardModel_240 (by decide) rfl g4 ?_
      exact y_iretF hf dX12_count_69 rfl (by decide) (by decide)
    · replace hf := y_ie c3 hf
      by_cases c5 : p1 = 2
      · replace hf := y_it c5 hf
        refine y_table (off := 67) (tgt := 70) dX12_count_3 (by (rw [c5]) <;> decide) (by decide) ?_
        refine y_aload_n (x := p0) (pc2 := 71) rfl dX12_count_70 rfl ?_
        obtain ⟨g6, hf⟩ := y_g hf
        refine y_getI (pc2 := 74) rfl dX12_count_71 F_BoxYardModel_246 (by decide) rfl g6 ?_
        exact y_iretF hf dX12_count_74 rfl (by decide) (by decide)
      · replace hf := y_ie c5 hf
        by_cases c7 : p1 = 3
        · replace hf := y_it c7 hf
          refine y_table (off := 72) (tgt := 75) dX12_count_3 (by (rw [c7]) <;> decide) (by decide) ?_
          refine y_aload_n (x := p0) (pc2 := 76) rfl dX12_count_75 rfl ?_
          obtain ⟨g8, hf⟩ := y_g hf
          refine y_getI (pc2 := 79) rfl dX12_count_76 F_BoxYardModel_255 (by decide) rfl g8 ?_
          exact y_iretF hf dX12_count_79 rfl (by decide) (by decide)
        · replace hf := y_ie c7 hf
          by_cases c9 : p1 = 4
          · replace hf := y_it c9 hf
            refine y_table (off := 77) (tgt := 80) dX12_count_3 (by (rw [c9]) <;> decide) (by decide) ?_
            refine y_aload_n (x := p0) (pc2 := 81) rfl dX12_count_80 rfl ?_
            obtain ⟨g10, hf⟩ := y_g hf
            refine y_getI (pc2 := 84) rfl dX12_count_81 F_BoxYardModel_342 (by decide) rfl g10 ?_
            exact y_iretF hf dX12_count_84 rfl (by decide) (by decide)
          · replace hf := y_ie c9 hf
            by_cases c11 : p1 = 5
            · replace hf := y_it c11 hf
              refine y_table (off := 82) (tgt := 85) dX12_count_3 (by (rw [c11]) <;> decide) (by decide) ?_
              refine y_iconst (v := 0) (pc2 := 86) rfl dX12_count_85 (by decide) ?_
              refine y_jlE hf (fun j => ∀ (v0_87 : Nat) (v2_87 : Int32) (v3_87 : Int32) (h12 : y_H), j v0_87 v2_87 v3_87 h12 = some (rz, hz) → y_V l G z rm_X12_count M_X12_count ad0 h (some (.int rz)) hz 87 [(0, y_p v0_87), (2, .int v2_87), (3, .int v3_87)] [] h12 0 0) (fun _ _ _ _ hf => by cases hf) (fun j87 hj87 v0_87 v2_87 v3_87 h12 hf => ?_) (fun j87 hj87 hf => ?_)
              · refine y_iload_n (pc2 := 88) rfl dX12_count_87 rfl ?_
                refine y_aload_n (x := v0_87) (pc2 := 89) rfl dX12_count_88 rfl ?_
                obtain ⟨g19, hf⟩ := y_g hf
                refine y_getI (pc2 := 92) rfl dX12_count_89 F_BoxYardModel_234 (by decide) rfl g19 ?_
                refine y_icmp_ge (tgt := 117) (pc2 := 95) rfl dX12_count_92 (by decide) (fun c18 => ?_) (fun c18 => ?_)
                · replace hf := y_it c18 hf
                  refine y_iload_n (pc2 := 118) rfl dX12_count_117 rfl ?_
                  exact y_iretF hf dX12_count_118 rfl (by decide) (by decide)
                · replace hf := y_ie c18 hf
                  refine y_iload_n (pc2 := 96) rfl dX12_count_95 rfl ?_
                  refine y_aload_n (x := v0_87) (pc2 := 97) rfl dX12_count_96 rfl ?_
                  refine y_iload_n (pc2 := 98) rfl dX12_count_97 rfl ?_
                  obtain ⟨g17, hf⟩ := y_g hf
                  obtain ⟨r13, h14, c15, hf⟩ := y_clE hf
                  refine y_callV (As := [.int v3_87]) (rm := rm_X12_isWrong) (cells := 0) (slots := 0) (pc2 := 101) rfl dX12_count_98 n_X12_isWrong l_BoxYardModel_316 i_X12_isWrong e_X12_isWrong (ci := 12) rfl rfl (by decide) g17 rfl rfl (by decide) (by simp [y_ci, y_cj, y_p_cat]) (by decide) (k_X12_isWrong c15) ?_
                  refine y_ifz_eq (tgt := 108) (pc2 := 104) rfl dX12_count_101 (by decide) (fun c16 => ?_) (fun c16 => ?_)
                  · replace hf := y_ie c16 hf
                    refine y_iconst (v := 0) (pc2 := 109) rfl dX12_count_108 (by decide) ?_
                    refine y_iadd (pc2 := 110) rfl dX12_count_109 ?_
                    refine y_istore_n (lv' := [(2, .int (v2_87 + 0)), (0, y_p v0_87), (3, .int v3_87)]) (pc2 := 111) rfl dX12_count_110 (by decide) rfl ?_
                    refine y_iinc (v := v3_87 + 1) (lv' := [(3, .int (v3_87 + 1)), (2, .int (v2_87 + 0)), (0, y_p v0_87)]) (pc2 := 114) rfl dX12_count_111 rfl rfl (by decide) rfl ?_
                    refine y_goto (tgt := 87) dX12_count_114 (by decide) ?_
                    exact y_pk [2, 1, 0] rfl (hj87 _ _ _ _ hf)
                  · replace hf := y_it c16 hf
                    refine y_iconst (v := 1) (pc2 := 105) rfl dX12_count_104 (by decide) ?_
                    refine y_goto (tgt := 109) dX12_count_105 (by decide) ?_
                    refine y_iadd (pc2 := 110) rfl dX12_count_109 ?_
                    refine y_istore_n (lv' := [(2, .int (v2_87 + 1)), (0, y_p v0_87), (3, .int v3_87)]) (pc2 := 111) rfl dX12_count_110 (by decide) rfl ?_
                    refine y_iinc (v := v3_87 + 1) (lv' := [(3, .int (v3_87 + 1)), (2, .int (v2_87 + 1)), (0, y_p v0_87)]) (pc2 := 114) rfl dX12_count_111 rfl rfl (by decide) rfl ?_
                    refine y_goto (tgt := 87) dX12_count_114 (by decide) ?_
                    exact y_pk [2, 1, 0] rfl (hj87 _ _ _ _ hf)
              · refine y_istore_n (lv' := [(3, .int 0), (2, .int 0), (0, y_p p0), (1, .int p1)]) (pc2 := 87) rfl dX12_count_86 (by decide) rfl ?_
                exact y_pk [2, 1, 0] rfl (hj87 _ _ _ _ hf)
            · replace hf := y_ie c11 hf
              by_cases c20 : p1 = 6
              · replace hf := y_it c20 hf
                refine y_table (off := 116) (tgt := 119) dX12_count_3 (by (rw [c20]) <;> decide) (by decide) ?_
                refine y_aload_n (x := p0) (pc2 := 120) rfl dX12_count_119 rfl ?_
                obtain ⟨g21, hf⟩ := y_g hf
                refine y_getI (pc2 := 123) rfl dX12_count_120 F_BoxYardModel_267 (by decide) rfl g21 ?_
                exact y_iretF hf dX12_count_123 rfl (by decide) (by decide)
              · replace hf := y_ie c20 hf
                by_cases c22 : p1 = 7
                · replace hf := y_it c22 hf
                  refine y_table (off := 121) (tgt := 124) dX12_count_3 (by (rw [c22]) <;> decide) (by decide) ?_
                  refine y_aload_n (x := p0) (pc2 := 125) rfl dX12_count_124 rfl ?_
                  obtain ⟨g23, hf⟩ := y_g hf
                  refine y_getI (pc2 := 128) rfl dX12_count_125 F_BoxYardModel_249 (by decide) rfl g23 ?_
                  exact y_iretF hf dX12_count_128 rfl (by decide) (by decide)
                · replace hf := y_ie c22 hf
                  by_cases c24 : p1 = 8
                  · replace hf := y_it c24 hf
                    refine y_table (off := 126) (tgt := 129) dX12_count_3 (by (rw [c24]) <;> decide) (by decide) ?_
                    refine y_aload_n (x := p0) (pc2 := 130) rfl dX12_count_129 rfl ?_
                    obtain ⟨g25, hf⟩ := y_g hf
                    refine y_getI (pc2 := 133) rfl dX12_count_130 F_BoxYardModel_264 (by decide) rfl g25 ?_
                    exact y_iretF hf dX12_count_133 rfl (by decide) (by decide)
                  · replace hf := y_ie c24 hf
                    by_cases c26 : p1 = 9
                    · replace hf := y_it c26 hf
                      refine y_table (off := 131) (tgt := 134) dX12_count_3 (by (rw [c26]) <;> decide) (by decide) ?_
                      refine y_aload_n (x := p0) (pc2 := 135) rfl dX12_count_134 rfl ?_
                      obtain ⟨g27, hf⟩ := y_g hf
                      refine y_getI (pc2 := 138) rfl dX12_count_135 F_BoxYardModel_243 (by decide) rfl g27 ?_
                      exact y_iretF hf dX12_count_138 rfl (by decide) (by decide)
                    · replace hf := y_ie c26 hf
                      by_cases c28 : p1 = 10
                      · replace hf := y_it c28 hf
                        refine y_table (off := 136) (tgt := 139) dX12_count_3 (by (rw [c28]) <;> decide) (by decide) ?_
                        refine y_aload_n (x := p0) (pc2 := 140) rfl dX12_count_139 rfl ?_
                        obtain ⟨g29, hf⟩ := y_g hf
                        refine y_getI (pc2 := 143) rfl dX12_count_140 F_BoxYardModel_258 (by decide) rfl g29 ?_
                        exact y_iretF hf dX12_count_143 rfl (by decide) (by decide)
                      · replace hf := y_ie c28 hf
                        refine y_table (off := 141) (tgt := 144) dX12_count_3 ((if_pos (by have q0 := lv_neT c1 (a := 0) (by decide); have q1 := lv_neT c3 (a := 1) (by decide); have q2 := lv_neT c5 (a := 2) (by decide); have q3 := lv_neT c7 (a := 3) (by decide); have q4 := lv_neT c9 (a := 4) (by decide); have q5 := lv_neT c11 (a := 5) (by decide); have q6 := lv_neT c20 (a := 6) (by decide); have q7 := lv_neT c22 (a := 7) (by decide); have q8 := lv_neT c24 (a := 8) (by decide); have q9 := lv_neT c26 (a := 9) (by decide); have q10 := lv_neT c28 (a := 10) (by decide); omega))) (by decide) ?_
                        refine y_bipush (v := (-2 : Int32)) (pc2 := 146) rfl dX12_count_144 (by decide) ?_
                        exact y_iretF hf dX12_count_146 rfl (by decide) (by decide)
theorem dX12_clear_0 : decode cX12_clear 0 = .ok (.aload_n 0, 1) := by decide +kernel
theorem dX12_clear_1 : decode cX12_clear 1 = .ok (.getfield 234, 3) := by decide +kernel
theorem dX12_clear_4 : decode cX12_clear 4 = .ok (.istore_n 1, 1) := by decide +kernel
theorem dX12_clear_5 : decode cX12_clear 5 = .ok (.aload_n 0, 1) := by decide +kernel
theorem dX12_clear_6 : decode cX12_clear 6 = .ok (.invokevirtual 231, 3) := by decide +kernel
theorem dX12_clear_9 : decode cX12_clear 9 = .ok (.iload_n 1, 1) := by decide +kernel
theorem dX12_clear_10 : decode cX12_clear 10 = .ok (.ireturn, 1) := by decide +kernel
def M_X12_clear : y_M := (yX12_clear, cX12_clear, 2, (Option.some Jvm.ClassFile.FieldType.int))
theorem n_X12_clear : y_N0 M_X12_clear 0 := ⟨(c_10 162 (by decide +kernel) rfl), (c_1 9 (by decide +kernel) rfl), ⟨by decide +kernel, by decide +kernel⟩, by decide +kernel⟩
theorem l_BoxYardModel_231 : y_lnk "BoxYardModel" 231 M_X12_begin := Or.inl (c_7 118 (by decide +kernel) rfl)
theorem i_X12_begin : Cond.instanceMethod (M_X12_begin).1 ∈ y_tb := (c_7 120 (by decide +kernel) rfl)
theorem e_X12_begin : Cond.selects (M_X12_begin).1.cls (M_X12_begin).1 (M_X12_begin).1 ∈ y_tb := (m_s 56 (by decide +kernel) rfl)
set_option maxRecDepth 100000 in
def f_X12_clear (p0 : Nat) (h : y_H) : Option (Int32 × y_H) :=
  if y_K h p0 = 13 then
  if y_K h p0 = 13 then
  y_cl (f_X12_begin p0 h) (fun _ h1 =>
  some (y_I h p0 0, h1))
  else none
  else none
abbrev rm_X12_clear : Room := { frames := 1, cells := 0, slots := 0, locals := 22 }
set_option maxRecDepth 100000 in
set_option maxHeartbeats 4000000 in
theorem k_X12_clear {l : Launch} {G : y_G} {p0 : Nat} {h hz : y_H} {rz : Int32} (hf : f_X12_clear p0 h = some (rz, hz)) : y_S l G M_X12_clear rm_X12_clear [y_p p0] h (some (.int rz)) hz := by
  refine y_start (lv := [(0, y_p p0)]) (by decide) (by simp [lg_sl, y_p_cat, y_ci, y_cj, M_X12_clear]) (by simp [lv_args, y_p_cat, y_ci, y_cj]) (fun z ad0 => ?_)
  unfold f_X12_clear at hf
  refine y_aload_n (x := p0) (pc2 := 1) rfl dX12_clear_0 rfl ?_
  obtain ⟨g4, hf⟩ := y_g hf
  refine y_getI (pc2 := 4) rfl dX12_clear_1 F_BoxYardModel_234 (by decide) rfl g4 ?_
  refine y_istore_n (lv' := [(1, .int (y_I h p0 0)), (0, y_p p0)]) (pc2 := 5) rfl dX12_clear_4 (by decide) (by show y_st1 _ 1 _ = _; simp [y_st1, y_p_cat, y_ci, y_cj]) ?_
  refine y_aload_n (x := p0) (pc2 := 6) rfl dX12_clear_5 rfl ?_
  obtain ⟨g3, hf⟩ := y_g hf
  obtain ⟨r_, h1, c2, hf⟩ := y_clE hf
  refine y_callV (As := []) (rm := rm_X12_begin) (cells := 0) (slots := 0) (pc2 := 9) rfl dX12_clear_6 n_X12_begin l_BoxYardModel_231 i_X12_begin e_X12_begin (ci := 12) rfl rfl (by decide) g3 rfl rfl (by decide) (by decide) (by decide) (k_X12_begin c2) ?_
  refine y_iload_n (pc2 := 10) rfl dX12_clear_9 rfl ?_
  exact y_iretF hf dX12_clear_10 rfl (by decide) (by decide)
