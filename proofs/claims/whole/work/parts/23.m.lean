theorem dX12_back_0 : decode cX12_back 0 = .ok (.iload_n 1, 1) := by decide +kernel
theorem dX12_back_1 : decode cX12_back 1 = .ok (.ifCond .lt 11, 3) := by decide +kernel
theorem dX12_back_4 : decode cX12_back 4 = .ok (.iload_n 1, 1) := by decide +kernel
theorem dX12_back_5 : decode cX12_back 5 = .ok (.aload_n 0, 1) := by decide +kernel
theorem dX12_back_6 : decode cX12_back 6 = .ok (.getfield 255, 3) := by decide +kernel
theorem dX12_back_9 : decode cX12_back 9 = .ok (.if_icmp .le 7, 3) := by decide +kernel
theorem dX12_back_12 : decode cX12_back 12 = .ok (.ldc2_w 464, 3) := by decide +kernel
theorem dX12_back_15 : decode cX12_back 15 = .ok (.lreturn, 1) := by decide +kernel
theorem dX12_back_16 : decode cX12_back 16 = .ok (.iconst 0, 1) := by decide +kernel
theorem dX12_back_17 : decode cX12_back 17 = .ok (.istore_n 2, 1) := by decide +kernel
theorem dX12_back_18 : decode cX12_back 18 = .ok (.iload_n 2, 1) := by decide +kernel
theorem dX12_back_19 : decode cX12_back 19 = .ok (.aload_n 0, 1) := by decide +kernel
theorem dX12_back_20 : decode cX12_back 20 = .ok (.getfield 234, 3) := by decide +kernel
theorem dX12_back_23 : decode cX12_back 23 = .ok (.if_icmp .ge 86, 3) := by decide +kernel
theorem dX12_back_26 : decode cX12_back 26 = .ok (.aload_n 0, 1) := by decide +kernel
theorem dX12_back_27 : decode cX12_back 27 = .ok (.getfield 222, 3) := by decide +kernel
theorem dX12_back_30 : decode cX12_back 30 = .ok (.iconst 5, 1) := by decide +kernel
theorem dX12_back_31 : decode cX12_back 31 = .ok (.iload_n 2, 1) := by decide +kernel
theorem dX12_back_32 : decode cX12_back 32 = .ok (.imul, 1) := by decide +kernel
theorem dX12_back_33 : decode cX12_back 33 = .ok (.aload_n 0, 1) := by decide +kernel
theorem dX12_back_34 : decode cX12_back 34 = .ok (.getfield 29, 3) := by decide +kernel
theorem dX12_back_37 : decode cX12_back 37 = .ok (.iload_n 2, 1) := by decide +kernel
theorem dX12_back_38 : decode cX12_back 38 = .ok (.iaload, 1) := by decide +kernel
theorem dX12_back_39 : decode cX12_back 39 = .ok (.iastore, 1) := by decide +kernel
theorem dX12_back_40 : decode cX12_back 40 = .ok (.aload_n 0, 1) := by decide +kernel
theorem dX12_back_41 : decode cX12_back 41 = .ok (.getfield 222, 3) := by decide +kernel
theorem dX12_back_44 : decode cX12_back 44 = .ok (.iconst 5, 1) := by decide +kernel
theorem dX12_back_45 : decode cX12_back 45 = .ok (.iload_n 2, 1) := by decide +kernel
theorem dX12_back_46 : decode cX12_back 46 = .ok (.imul, 1) := by decide +kernel
theorem dX12_back_47 : decode cX12_back 47 = .ok (.iconst 1, 1) := by decide +kernel
theorem dX12_back_48 : decode cX12_back 48 = .ok (.iadd, 1) := by decide +kernel
theorem dX12_back_49 : decode cX12_back 49 = .ok (.aload_n 0, 1) := by decide +kernel
theorem dX12_back_50 : decode cX12_back 50 = .ok (.getfield 32, 3) := by decide +kernel
theorem dX12_back_53 : decode cX12_back 53 = .ok (.iload_n 2, 1) := by decide +kernel
theorem dX12_back_54 : decode cX12_back 54 = .ok (.iaload, 1) := by decide +kernel
theorem dX12_back_55 : decode cX12_back 55 = .ok (.iastore, 1) := by decide +kernel
theorem dX12_back_56 : decode cX12_back 56 = .ok (.aload_n 0, 1) := by decide +kernel
theorem dX12_back_57 : decode cX12_back 57 = .ok (.getfield 222, 3) := by decide +kernel
theorem dX12_back_60 : decode cX12_back 60 = .ok (.iconst 5, 1) := by decide +kernel
theorem dX12_back_61 : decode cX12_back 61 = .ok (.iload_n 2, 1) := by decide +kernel
theorem dX12_back_62 : decode cX12_back 62 = .ok (.imul, 1) := by decide +kernel
theorem dX12_back_63 : decode cX12_back 63 = .ok (.iconst 2, 1) := by decide +kernel
theorem dX12_back_64 : decode cX12_back 64 = .ok (.iadd, 1) := by decide +kernel
theorem dX12_back_65 : decode cX12_back 65 = .ok (.aload_n 0, 1) := by decide +kernel
theorem dX12_back_66 : decode cX12_back 66 = .ok (.getfield 35, 3) := by decide +kernel
theorem dX12_back_69 : decode cX12_back 69 = .ok (.iload_n 2, 1) := by decide +kernel
theorem dX12_back_70 : decode cX12_back 70 = .ok (.iaload, 1) := by decide +kernel
theorem dX12_back_71 : decode cX12_back 71 = .ok (.iastore, 1) := by decide +kernel
theorem dX12_back_72 : decode cX12_back 72 = .ok (.aload_n 0, 1) := by decide +kernel
theorem dX12_back_73 : decode cX12_back 73 = .ok (.getfield 222, 3) := by decide +kernel
theorem dX12_back_76 : decode cX12_back 76 = .ok (.iconst 5, 1) := by decide +kernel
theorem dX12_back_77 : decode cX12_back 77 = .ok (.iload_n 2, 1) := by decide +kernel
theorem dX12_back_78 : decode cX12_back 78 = .ok (.imul, 1) := by decide +kernel
theorem dX12_back_79 : decode cX12_back 79 = .ok (.iconst 3, 1) := by decide +kernel
theorem dX12_back_80 : decode cX12_back 80 = .ok (.iadd, 1) := by decide +kernel
theorem dX12_back_81 : decode cX12_back 81 = .ok (.aload_n 0, 1) := by decide +kernel
theorem dX12_back_82 : decode cX12_back 82 = .ok (.getfield 38, 3) := by decide +kernel
theorem dX12_back_85 : decode cX12_back 85 = .ok (.iload_n 2, 1) := by decide +kernel
theorem dX12_back_86 : decode cX12_back 86 = .ok (.iaload, 1) := by decide +kernel
theorem dX12_back_87 : decode cX12_back 87 = .ok (.iastore, 1) := by decide +kernel
theorem dX12_back_88 : decode cX12_back 88 = .ok (.aload_n 0, 1) := by decide +kernel
theorem dX12_back_89 : decode cX12_back 89 = .ok (.getfield 222, 3) := by decide +kernel
theorem dX12_back_92 : decode cX12_back 92 = .ok (.iconst 5, 1) := by decide +kernel
theorem dX12_back_93 : decode cX12_back 93 = .ok (.iload_n 2, 1) := by decide +kernel
theorem dX12_back_94 : decode cX12_back 94 = .ok (.imul, 1) := by decide +kernel
theorem dX12_back_95 : decode cX12_back 95 = .ok (.iconst 4, 1) := by decide +kernel
theorem dX12_back_96 : decode cX12_back 96 = .ok (.iadd, 1) := by decide +kernel
theorem dX12_back_97 : decode cX12_back 97 = .ok (.aload_n 0, 1) := by decide +kernel
theorem dX12_back_98 : decode cX12_back 98 = .ok (.iload_n 2, 1) := by decide +kernel
theorem dX12_back_99 : decode cX12_back 99 = .ok (.invokevirtual 290, 3) := by decide +kernel
theorem dX12_back_102 : decode cX12_back 102 = .ok (.iastore, 1) := by decide +kernel
theorem dX12_back_103 : decode cX12_back 103 = .ok (.iinc 2 1, 3) := by decide +kernel
theorem dX12_back_106 : decode cX12_back 106 = .ok (.goto (-88), 3) := by decide +kernel
theorem dX12_back_109 : decode cX12_back 109 = .ok (.iconst 0, 1) := by decide +kernel
theorem dX12_back_110 : decode cX12_back 110 = .ok (.istore_n 2, 1) := by decide +kernel
theorem dX12_back_111 : decode cX12_back 111 = .ok (.iload_n 2, 1) := by decide +kernel
theorem dX12_back_112 : decode cX12_back 112 = .ok (.aload_n 0, 1) := by decide +kernel
theorem dX12_back_113 : decode cX12_back 113 = .ok (.getfield 240, 3) := by decide +kernel
theorem dX12_back_116 : decode cX12_back 116 = .ok (.if_icmp .ge 55, 3) := by decide +kernel
theorem dX12_back_119 : decode cX12_back 119 = .ok (.aload_n 0, 1) := by decide +kernel
theorem dX12_back_120 : decode cX12_back 120 = .ok (.getfield 225, 3) := by decide +kernel
theorem dX12_back_123 : decode cX12_back 123 = .ok (.iconst 3, 1) := by decide +kernel
theorem dX12_back_124 : decode cX12_back 124 = .ok (.iload_n 2, 1) := by decide +kernel
theorem dX12_back_125 : decode cX12_back 125 = .ok (.imul, 1) := by decide +kernel
theorem dX12_back_126 : decode cX12_back 126 = .ok (.aload_n 0, 1) := by decide +kernel
theorem dX12_back_127 : decode cX12_back 127 = .ok (.getfield 86, 3) := by decide +kernel
theorem dX12_back_130 : decode cX12_back 130 = .ok (.iload_n 2, 1) := by decide +kernel
theorem dX12_back_131 : decode cX12_back 131 = .ok (.iaload, 1) := by decide +kernel
theorem dX12_back_132 : decode cX12_back 132 = .ok (.iastore, 1) := by decide +kernel
theorem dX12_back_133 : decode cX12_back 133 = .ok (.aload_n 0, 1) := by decide +kernel
theorem dX12_back_134 : decode cX12_back 134 = .ok (.getfield 225, 3) := by decide +kernel
theorem dX12_back_137 : decode cX12_back 137 = .ok (.iconst 3, 1) := by decide +kernel
theorem dX12_back_138 : decode cX12_back 138 = .ok (.iload_n 2, 1) := by decide +kernel
theorem dX12_back_139 : decode cX12_back 139 = .ok (.imul, 1) := by decide +kernel
theorem dX12_back_140 : decode cX12_back 140 = .ok (.iconst 1, 1) := by decide +kernel
theorem dX12_back_141 : decode cX12_back 141 = .ok (.iadd, 1) := by decide +kernel
theorem dX12_back_142 : decode cX12_back 142 = .ok (.aload_n 0, 1) := by decide +kernel
theorem dX12_back_143 : decode cX12_back 143 = .ok (.getfield 89, 3) := by decide +kernel
theorem dX12_back_146 : decode cX12_back 146 = .ok (.iload_n 2, 1) := by decide +kernel
theorem dX12_back_147 : decode cX12_back 147 = .ok (.iaload, 1) := by decide +kernel
theorem dX12_back_148 : decode cX12_back 148 = .ok (.iastore, 1) := by decide +kernel
theorem dX12_back_149 : decode cX12_back 149 = .ok (.aload_n 0, 1) := by decide +kernel
theorem dX12_back_150 : decode cX12_back 150 = .ok (.getfield 225, 3) := by decide +kernel
theorem dX12_back_153 : decode cX12_back 153 = .ok (.iconst 3, 1) := by decide +kernel
theorem dX12_back_154 : decode cX12_back 154 = .ok (.iload_n 2, 1) := by decide +kernel
theorem dX12_back_155 : decode cX12_back 155 = .ok (.imul, 1) := by decide +kernel
theorem dX12_back_156 : decode cX12_back 156 = .ok (.iconst 2, 1) := by decide +kernel
theorem dX12_back_157 : decode cX12_back 157 = .ok (.iadd, 1) := by decide +kernel
theorem dX12_back_158 : decode cX12_back 158 = .ok (.aload_n 0, 1) := by decide +kernel
theorem dX12_back_159 : decode cX12_back 159 = .ok (.getfield 92, 3) := by decide +kernel
theorem dX12_back_162 : decode cX12_back 162 = .ok (.iload_n 2, 1) := by decide +kernel
theorem dX12_back_163 : decode cX12_back 163 = .ok (.iaload, 1) := by decide +kernel
theorem dX12_back_164 : decode cX12_back 164 = .ok (.iastore, 1) := by decide +kernel
theorem dX12_back_165 : decode cX12_back 165 = .ok (.iinc 2 1, 3) := by decide +kernel
theorem dX12_back_168 : decode cX12_back 168 = .ok (.goto (-57), 3) := by decide +kernel
theorem dX12_back_171 : decode cX12_back 171 = .ok (.iconst 0, 1) := by decide +kernel
theorem dX12_back_172 : decode cX12_back 172 = .ok (.istore_n 2, 1) := by decide +kernel
theorem dX12_back_173 : decode cX12_back 173 = .ok (.iload_n 2, 1) := by decide +kernel
theorem dX12_back_174 : decode cX12_back 174 = .ok (.aload_n 0, 1) := by decide +kernel
theorem dX12_back_175 : decode cX12_back 175 = .ok (.getfield 246, 3) := by decide +kernel
theorem dX12_back_178 : decode cX12_back 178 = .ok (.if_icmp .ge 39, 3) := by decide +kernel
theorem dX12_back_181 : decode cX12_back 181 = .ok (.aload_n 0, 1) := by decide +kernel
theorem dX12_back_182 : decode cX12_back 182 = .ok (.getfield 228, 3) := by decide +kernel
theorem dX12_back_185 : decode cX12_back 185 = .ok (.iconst 2, 1) := by decide +kernel
theorem dX12_back_186 : decode cX12_back 186 = .ok (.iload_n 2, 1) := by decide +kernel
theorem dX12_back_187 : decode cX12_back 187 = .ok (.imul, 1) := by decide +kernel
theorem dX12_back_188 : decode cX12_back 188 = .ok (.aload_n 0, 1) := by decide +kernel
theorem dX12_back_189 : decode cX12_back 189 = .ok (.getfield 125, 3) := by decide +kernel
theorem dX12_back_192 : decode cX12_back 192 = .ok (.iload_n 2, 1) := by decide +kernel
theorem dX12_back_193 : decode cX12_back 193 = .ok (.iaload, 1) := by decide +kernel
theorem dX12_back_194 : decode cX12_back 194 = .ok (.iastore, 1) := by decide +kernel
theorem dX12_back_195 : decode cX12_back 195 = .ok (.aload_n 0, 1) := by decide +kernel
theorem dX12_back_196 : decode cX12_back 196 = .ok (.getfield 228, 3) := by decide +kernel
theorem dX12_back_199 : decode cX12_back 199 = .ok (.iconst 2, 1) := by decide +kernel
theorem dX12_back_200 : decode cX12_back 200 = .ok (.iload_n 2, 1) := by decide +kernel
theorem dX12_back_201 : decode cX12_back 201 = .ok (.imul, 1) := by decide +kernel
theorem dX12_back_202 : decode cX12_back 202 = .ok (.iconst 1, 1) := by decide +kernel
theorem dX12_back_203 : decode cX12_back 203 = .ok (.iadd, 1) := by decide +kernel
theorem dX12_back_204 : decode cX12_back 204 = .ok (.aload_n 0, 1) := by decide +kernel
theorem dX12_back_205 : decode cX12_back 205 = .ok (.getfield 128, 3) := by decide +kernel
theorem dX12_back_208 : decode cX12_back 208 = .ok (.iload_n 2, 1) := by decide +kernel
theorem dX12_back_209 : decode cX12_back 209 = .ok (.iaload, 1) := by decide +kernel
theorem dX12_back_210 : decode cX12_back 210 = .ok (.iastore, 1) := by decide +kernel
theorem dX12_back_211 : decode cX12_back 211 = .ok (.iinc 2 1, 3) := by decide +kernel
theorem dX12_back_214 : decode cX12_back 214 = .ok (.goto (-41), 3) := by decide +kernel
theorem dX12_back_217 : decode cX12_back 217 = .ok (.aload_n 0, 1) := by decide +kernel
theorem dX12_back_218 : decode cX12_back 218 = .ok (.getfield 255, 3) := by decide +kernel
theorem dX12_back_221 : decode cX12_back 221 = .ok (.iconst 1, 1) := by decide +kernel
theorem dX12_back_222 : decode cX12_back 222 = .ok (.isub, 1) := by decide +kernel
theorem dX12_back_223 : decode cX12_back 223 = .ok (.istore_n 2, 1) := by decide +kernel
theorem dX12_back_224 : decode cX12_back 224 = .ok (.iload_n 2, 1) := by decide +kernel
theorem dX12_back_225 : decode cX12_back 225 = .ok (.aload_n 0, 1) := by decide +kernel
theorem dX12_back_226 : decode cX12_back 226 = .ok (.getfield 255, 3) := by decide +kernel
theorem dX12_back_229 : decode cX12_back 229 = .ok (.iload_n 1, 1) := by decide +kernel
theorem dX12_back_230 : decode cX12_back 230 = .ok (.isub, 1) := by decide +kernel
theorem dX12_back_231 : decode cX12_back 231 = .ok (.if_icmp .lt 227, 3) := by decide +kernel
theorem dX12_back_234 : decode cX12_back 234 = .ok (.bipush 14, 2) := by decide +kernel
theorem dX12_back_236 : decode cX12_back 236 = .ok (.iload_n 2, 1) := by decide +kernel
theorem dX12_back_237 : decode cX12_back 237 = .ok (.imul, 1) := by decide +kernel
theorem dX12_back_238 : decode cX12_back 238 = .ok (.istore_n 3, 1) := by decide +kernel
theorem dX12_back_239 : decode cX12_back 239 = .ok (.aload_n 0, 1) := by decide +kernel
theorem dX12_back_240 : decode cX12_back 240 = .ok (.getfield 137, 3) := by decide +kernel
theorem dX12_back_243 : decode cX12_back 243 = .ok (.iload_n 3, 1) := by decide +kernel
theorem dX12_back_244 : decode cX12_back 244 = .ok (.iconst 5, 1) := by decide +kernel
theorem dX12_back_245 : decode cX12_back 245 = .ok (.iadd, 1) := by decide +kernel
theorem dX12_back_246 : decode cX12_back 246 = .ok (.iaload, 1) := by decide +kernel
theorem dX12_back_247 : decode cX12_back 247 = .ok (.istore 4, 2) := by decide +kernel
theorem dX12_back_249 : decode cX12_back 249 = .ok (.iconst 0, 1) := by decide +kernel
theorem dX12_back_250 : decode cX12_back 250 = .ok (.istore 5, 2) := by decide +kernel
theorem dX12_back_252 : decode cX12_back 252 = .ok (.iload 5, 2) := by decide +kernel
theorem dX12_back_254 : decode cX12_back 254 = .ok (.iconst 4, 1) := by decide +kernel
theorem dX12_back_255 : decode cX12_back 255 = .ok (.if_icmp .ge 38, 3) := by decide +kernel
theorem dX12_back_258 : decode cX12_back 258 = .ok (.iload 4, 2) := by decide +kernel
theorem dX12_back_260 : decode cX12_back 260 = .ok (.ifCond .lt 33, 3) := by decide +kernel
theorem dX12_back_263 : decode cX12_back 263 = .ok (.aload_n 0, 1) := by decide +kernel
theorem dX12_back_264 : decode cX12_back 264 = .ok (.getfield 222, 3) := by decide +kernel
theorem dX12_back_267 : decode cX12_back 267 = .ok (.iconst 5, 1) := by decide +kernel
theorem dX12_back_268 : decode cX12_back 268 = .ok (.iload 4, 2) := by decide +kernel
theorem dX12_back_270 : decode cX12_back 270 = .ok (.imul, 1) := by decide +kernel
theorem dX12_back_271 : decode cX12_back 271 = .ok (.iload 5, 2) := by decide +kernel
theorem dX12_back_273 : decode cX12_back 273 = .ok (.iadd, 1) := by decide +kernel
theorem dX12_back_274 : decode cX12_back 274 = .ok (.aload_n 0, 1) := by decide +kernel
theorem dX12_back_275 : decode cX12_back 275 = .ok (.getfield 137, 3) := by decide +kernel
theorem dX12_back_278 : decode cX12_back 278 = .ok (.iload_n 3, 1) := by decide +kernel
theorem dX12_back_279 : decode cX12_back 279 = .ok (.bipush 6, 2) := by decide +kernel
theorem dX12_back_281 : decode cX12_back 281 = .ok (.iadd, 1) := by decide +kernel
theorem dX12_back_282 : decode cX12_back 282 = .ok (.iload 5, 2) := by decide +kernel
theorem dX12_back_284 : decode cX12_back 284 = .ok (.iadd, 1) := by decide +kernel
theorem dX12_back_285 : decode cX12_back 285 = .ok (.iaload, 1) := by decide +kernel
theorem dX12_back_286 : decode cX12_back 286 = .ok (.iastore, 1) := by decide +kernel
theorem dX12_back_287 : decode cX12_back 287 = .ok (.iinc 5 1, 3) := by decide +kernel
theorem dX12_back_290 : decode cX12_back 290 = .ok (.goto (-38), 3) := by decide +kernel
theorem dX12_back_293 : decode cX12_back 293 = .ok (.iload 4, 2) := by decide +kernel
theorem dX12_back_295 : decode cX12_back 295 = .ok (.ifCond .lt 44, 3) := by decide +kernel
theorem dX12_back_298 : decode cX12_back 298 = .ok (.aload_n 0, 1) := by decide +kernel
theorem dX12_back_299 : decode cX12_back 299 = .ok (.getfield 222, 3) := by decide +kernel
theorem dX12_back_302 : decode cX12_back 302 = .ok (.iconst 5, 1) := by decide +kernel
theorem dX12_back_303 : decode cX12_back 303 = .ok (.iload 4, 2) := by decide +kernel
theorem dX12_back_305 : decode cX12_back 305 = .ok (.imul, 1) := by decide +kernel
theorem dX12_back_306 : decode cX12_back 306 = .ok (.iconst 4, 1) := by decide +kernel
theorem dX12_back_307 : decode cX12_back 307 = .ok (.iadd, 1) := by decide +kernel
theorem dX12_back_308 : decode cX12_back 308 = .ok (.aload_n 0, 1) := by decide +kernel
theorem dX12_back_309 : decode cX12_back 309 = .ok (.getfield 137, 3) := by decide +kernel
theorem dX12_back_312 : decode cX12_back 312 = .ok (.iload_n 3, 1) := by decide +kernel
theorem dX12_back_313 : decode cX12_back 313 = .ok (.bipush 10, 2) := by decide +kernel
theorem dX12_back_315 : decode cX12_back 315 = .ok (.iadd, 1) := by decide +kernel
theorem dX12_back_316 : decode cX12_back 316 = .ok (.iaload, 1) := by decide +kernel
theorem dX12_back_317 : decode cX12_back 317 = .ok (.iconst 1, 1) := by decide +kernel
theorem dX12_back_318 : decode cX12_back 318 = .ok (.if_icmp .ne 13, 3) := by decide +kernel
theorem dX12_back_321 : decode cX12_back 321 = .ok (.aload_n 0, 1) := by decide +kernel
theorem dX12_back_322 : decode cX12_back 322 = .ok (.getfield 16, 3) := by decide +kernel
theorem dX12_back_325 : decode cX12_back 325 = .ok (.iload 4, 2) := by decide +kernel
theorem dX12_back_327 : decode cX12_back 327 = .ok (.iaload, 1) := by decide +kernel
theorem dX12_back_328 : decode cX12_back 328 = .ok (.goto 10, 3) := by decide +kernel
theorem dX12_back_331 : decode cX12_back 331 = .ok (.aload_n 0, 1) := by decide +kernel
theorem dX12_back_332 : decode cX12_back 332 = .ok (.getfield 13, 3) := by decide +kernel
theorem dX12_back_335 : decode cX12_back 335 = .ok (.iload 4, 2) := by decide +kernel
theorem dX12_back_337 : decode cX12_back 337 = .ok (.iaload, 1) := by decide +kernel
theorem dX12_back_338 : decode cX12_back 338 = .ok (.iastore, 1) := by decide +kernel
theorem dX12_back_339 : decode cX12_back 339 = .ok (.iconst 0, 1) := by decide +kernel
theorem dX12_back_340 : decode cX12_back 340 = .ok (.istore 5, 2) := by decide +kernel
theorem dX12_back_342 : decode cX12_back 342 = .ok (.iload 5, 2) := by decide +kernel
theorem dX12_back_344 : decode cX12_back 344 = .ok (.iconst 3, 1) := by decide +kernel
theorem dX12_back_345 : decode cX12_back 345 = .ok (.if_icmp .ge 49, 3) := by decide +kernel
theorem dX12_back_348 : decode cX12_back 348 = .ok (.aload_n 0, 1) := by decide +kernel
theorem dX12_back_349 : decode cX12_back 349 = .ok (.getfield 137, 3) := by decide +kernel
theorem dX12_back_352 : decode cX12_back 352 = .ok (.iload_n 3, 1) := by decide +kernel
theorem dX12_back_353 : decode cX12_back 353 = .ok (.iconst 1, 1) := by decide +kernel
theorem dX12_back_354 : decode cX12_back 354 = .ok (.iadd, 1) := by decide +kernel
theorem dX12_back_355 : decode cX12_back 355 = .ok (.iaload, 1) := by decide +kernel
theorem dX12_back_356 : decode cX12_back 356 = .ok (.ifCond .lt 38, 3) := by decide +kernel
theorem dX12_back_359 : decode cX12_back 359 = .ok (.aload_n 0, 1) := by decide +kernel
theorem dX12_back_360 : decode cX12_back 360 = .ok (.getfield 225, 3) := by decide +kernel
theorem dX12_back_363 : decode cX12_back 363 = .ok (.iconst 3, 1) := by decide +kernel
theorem dX12_back_364 : decode cX12_back 364 = .ok (.aload_n 0, 1) := by decide +kernel
theorem dX12_back_365 : decode cX12_back 365 = .ok (.getfield 137, 3) := by decide +kernel
theorem dX12_back_368 : decode cX12_back 368 = .ok (.iload_n 3, 1) := by decide +kernel
theorem dX12_back_369 : decode cX12_back 369 = .ok (.iconst 1, 1) := by decide +kernel
theorem dX12_back_370 : decode cX12_back 370 = .ok (.iadd, 1) := by decide +kernel
theorem dX12_back_371 : decode cX12_back 371 = .ok (.iaload, 1) := by decide +kernel
theorem dX12_back_372 : decode cX12_back 372 = .ok (.imul, 1) := by decide +kernel
theorem dX12_back_373 : decode cX12_back 373 = .ok (.iload 5, 2) := by decide +kernel
theorem dX12_back_375 : decode cX12_back 375 = .ok (.iadd, 1) := by decide +kernel
theorem dX12_back_376 : decode cX12_back 376 = .ok (.aload_n 0, 1) := by decide +kernel
theorem dX12_back_377 : decode cX12_back 377 = .ok (.getfield 137, 3) := by decide +kernel
theorem dX12_back_380 : decode cX12_back 380 = .ok (.iload_n 3, 1) := by decide +kernel
theorem dX12_back_381 : decode cX12_back 381 = .ok (.iconst 2, 1) := by decide +kernel
theorem dX12_back_382 : decode cX12_back 382 = .ok (.iadd, 1) := by decide +kernel
theorem dX12_back_383 : decode cX12_back 383 = .ok (.iload 5, 2) := by decide +kernel
theorem dX12_back_385 : decode cX12_back 385 = .ok (.iadd, 1) := by decide +kernel
theorem dX12_back_386 : decode cX12_back 386 = .ok (.iaload, 1) := by decide +kernel
theorem dX12_back_387 : decode cX12_back 387 = .ok (.iastore, 1) := by decide +kernel
theorem dX12_back_388 : decode cX12_back 388 = .ok (.iinc 5 1, 3) := by decide +kernel
theorem dX12_back_391 : decode cX12_back 391 = .ok (.goto (-49), 3) := by decide +kernel
theorem dX12_back_394 : decode cX12_back 394 = .ok (.iconst 0, 1) := by decide +kernel
theorem dX12_back_395 : decode cX12_back 395 = .ok (.istore 5, 2) := by decide +kernel
theorem dX12_back_397 : decode cX12_back 397 = .ok (.iload 5, 2) := by decide +kernel
theorem dX12_back_399 : decode cX12_back 399 = .ok (.iconst 2, 1) := by decide +kernel
theorem dX12_back_400 : decode cX12_back 400 = .ok (.if_icmp .ge 52, 3) := by decide +kernel
theorem dX12_back_403 : decode cX12_back 403 = .ok (.aload_n 0, 1) := by decide +kernel
theorem dX12_back_404 : decode cX12_back 404 = .ok (.getfield 137, 3) := by decide +kernel
theorem dX12_back_407 : decode cX12_back 407 = .ok (.iload_n 3, 1) := by decide +kernel
theorem dX12_back_408 : decode cX12_back 408 = .ok (.bipush 11, 2) := by decide +kernel
theorem dX12_back_410 : decode cX12_back 410 = .ok (.iadd, 1) := by decide +kernel
theorem dX12_back_411 : decode cX12_back 411 = .ok (.iaload, 1) := by decide +kernel
theorem dX12_back_412 : decode cX12_back 412 = .ok (.ifCond .lt 40, 3) := by decide +kernel
theorem dX12_back_415 : decode cX12_back 415 = .ok (.aload_n 0, 1) := by decide +kernel
theorem dX12_back_416 : decode cX12_back 416 = .ok (.getfield 228, 3) := by decide +kernel
theorem dX12_back_419 : decode cX12_back 419 = .ok (.iconst 2, 1) := by decide +kernel
theorem dX12_back_420 : decode cX12_back 420 = .ok (.aload_n 0, 1) := by decide +kernel
theorem dX12_back_421 : decode cX12_back 421 = .ok (.getfield 137, 3) := by decide +kernel
theorem dX12_back_424 : decode cX12_back 424 = .ok (.iload_n 3, 1) := by decide +kernel
theorem dX12_back_425 : decode cX12_back 425 = .ok (.bipush 11, 2) := by decide +kernel
theorem dX12_back_427 : decode cX12_back 427 = .ok (.iadd, 1) := by decide +kernel
theorem dX12_back_428 : decode cX12_back 428 = .ok (.iaload, 1) := by decide +kernel
theorem dX12_back_429 : decode cX12_back 429 = .ok (.imul, 1) := by decide +kernel
theorem dX12_back_430 : decode cX12_back 430 = .ok (.iload 5, 2) := by decide +kernel
theorem dX12_back_432 : decode cX12_back 432 = .ok (.iadd, 1) := by decide +kernel
theorem dX12_back_433 : decode cX12_back 433 = .ok (.aload_n 0, 1) := by decide +kernel
theorem dX12_back_434 : decode cX12_back 434 = .ok (.getfield 137, 3) := by decide +kernel
theorem dX12_back_437 : decode cX12_back 437 = .ok (.iload_n 3, 1) := by decide +kernel
theorem dX12_back_438 : decode cX12_back 438 = .ok (.bipush 12, 2) := by decide +kernel
theorem dX12_back_440 : decode cX12_back 440 = .ok (.iadd, 1) := by decide +kernel
theorem dX12_back_441 : decode cX12_back 441 = .ok (.iload 5, 2) := by decide +kernel
theorem dX12_back_443 : decode cX12_back 443 = .ok (.iadd, 1) := by decide +kernel
theorem dX12_back_444 : decode cX12_back 444 = .ok (.iaload, 1) := by decide +kernel
theorem dX12_back_445 : decode cX12_back 445 = .ok (.iastore, 1) := by decide +kernel
theorem dX12_back_446 : decode cX12_back 446 = .ok (.iinc 5 1, 3) := by decide +kernel
theorem dX12_back_449 : decode cX12_back 449 = .ok (.goto (-52), 3) := by decide +kernel
theorem dX12_back_452 : decode cX12_back 452 = .ok (.iinc 2 (-1), 3) := by decide +kernel
theorem dX12_back_455 : decode cX12_back 455 = .ok (.goto (-231), 3) := by decide +kernel
theorem dX12_back_458 : decode cX12_back 458 = .ok (.ldc2_w 536, 3) := by decide +kernel
theorem dX12_back_461 : decode cX12_back 461 = .ok (.lstore_n 2, 1) := by decide +kernel
theorem dX12_back_462 : decode cX12_back 462 = .ok (.iconst 0, 1) := by decide +kernel
theorem dX12_back_463 : decode cX12_back 463 = .ok (.istore 4, 2) := by decide +kernel
theorem dX12_back_465 : decode cX12_back 465 = .ok (.iload 4, 2) := by decide +kernel
theorem dX12_back_467 : decode cX12_back 467 = .ok (.iconst 5, 1) := by decide +kernel
theorem dX12_back_468 : decode cX12_back 468 = .ok (.aload_n 0, 1) := by decide +kernel
theorem dX12_back_469 : decode cX12_back 469 = .ok (.getfield 234, 3) := by decide +kernel
theorem dX12_back_472 : decode cX12_back 472 = .ok (.imul, 1) := by decide +kernel
theorem dX12_back_473 : decode cX12_back 473 = .ok (.if_icmp .ge 22, 3) := by decide +kernel
theorem dX12_back_476 : decode cX12_back 476 = .ok (.lload_n 2, 1) := by decide +kernel
theorem dX12_back_477 : decode cX12_back 477 = .ok (.aload_n 0, 1) := by decide +kernel
theorem dX12_back_478 : decode cX12_back 478 = .ok (.getfield 222, 3) := by decide +kernel
theorem dX12_back_481 : decode cX12_back 481 = .ok (.iload 4, 2) := by decide +kernel
theorem dX12_back_483 : decode cX12_back 483 = .ok (.iaload, 1) := by decide +kernel
theorem dX12_back_484 : decode cX12_back 484 = .ok (.i2l, 1) := by decide +kernel
theorem dX12_back_485 : decode cX12_back 485 = .ok (.invokestatic 538, 3) := by decide +kernel
theorem dX12_back_488 : decode cX12_back 488 = .ok (.lstore_n 2, 1) := by decide +kernel
theorem dX12_back_489 : decode cX12_back 489 = .ok (.iinc 4 1, 3) := by decide +kernel
theorem dX12_back_492 : decode cX12_back 492 = .ok (.goto (-27), 3) := by decide +kernel
theorem dX12_back_495 : decode cX12_back 495 = .ok (.iconst 0, 1) := by decide +kernel
theorem dX12_back_496 : decode cX12_back 496 = .ok (.istore 4, 2) := by decide +kernel
theorem dX12_back_498 : decode cX12_back 498 = .ok (.iload 4, 2) := by decide +kernel
theorem dX12_back_500 : decode cX12_back 500 = .ok (.iconst 3, 1) := by decide +kernel
theorem dX12_back_501 : decode cX12_back 501 = .ok (.aload_n 0, 1) := by decide +kernel
theorem dX12_back_502 : decode cX12_back 502 = .ok (.getfield 240, 3) := by decide +kernel
theorem dX12_back_505 : decode cX12_back 505 = .ok (.imul, 1) := by decide +kernel
theorem dX12_back_506 : decode cX12_back 506 = .ok (.if_icmp .ge 22, 3) := by decide +kernel
theorem dX12_back_509 : decode cX12_back 509 = .ok (.lload_n 2, 1) := by decide +kernel
theorem dX12_back_510 : decode cX12_back 510 = .ok (.aload_n 0, 1) := by decide +kernel
theorem dX12_back_511 : decode cX12_back 511 = .ok (.getfield 225, 3) := by decide +kernel
theorem dX12_back_514 : decode cX12_back 514 = .ok (.iload 4, 2) := by decide +kernel
theorem dX12_back_516 : decode cX12_back 516 = .ok (.iaload, 1) := by decide +kernel
theorem dX12_back_517 : decode cX12_back 517 = .ok (.i2l, 1) := by decide +kernel
theorem dX12_back_518 : decode cX12_back 518 = .ok (.invokestatic 538, 3) := by decide +kernel
theorem dX12_back_521 : decode cX12_back 521 = .ok (.lstore_n 2, 1) := by decide +kernel
theorem dX12_back_522 : decode cX12_back 522 = .ok (.iinc 4 1, 3) := by decide +kernel
theorem dX12_back_525 : decode cX12_back 525 = .ok (.goto (-27), 3) := by decide +kernel
theorem dX12_back_528 : decode cX12_back 528 = .ok (.iconst 0, 1) := by decide +kernel
theorem dX12_back_529 : decode cX12_back 529 = .ok (.istore 4, 2) := by decide +kernel
theorem dX12_back_531 : decode cX12_back 531 = .ok (.iload 4, 2) := by decide +kernel
theorem dX12_back_533 : decode cX12_back 533 = .ok (.iconst 2, 1) := by decide +kernel
theorem dX12_back_534 : decode cX12_back 534 = .ok (.aload_n 0, 1) := by decide +kernel
theorem dX12_back_535 : decode cX12_back 535 = .ok (.getfield 246, 3) := by decide +kernel
theorem dX12_back_538 : decode cX12_back 538 = .ok (.imul, 1) := by decide +kernel
theorem dX12_back_539 : decode cX12_back 539 = .ok (.if_icmp .ge 22, 3) := by decide +kernel
theorem dX12_back_542 : decode cX12_back 542 = .ok (.lload_n 2, 1) := by decide +kernel
theorem dX12_back_543 : decode cX12_back 543 = .ok (.aload_n 0, 1) := by decide +kernel
theorem dX12_back_544 : decode cX12_back 544 = .ok (.getfield 228, 3) := by decide +kernel
theorem dX12_back_547 : decode cX12_back 547 = .ok (.iload 4, 2) := by decide +kernel
theorem dX12_back_549 : decode cX12_back 549 = .ok (.iaload, 1) := by decide +kernel
theorem dX12_back_550 : decode cX12_back 550 = .ok (.i2l, 1) := by decide +kernel
theorem dX12_back_551 : decode cX12_back 551 = .ok (.invokestatic 538, 3) := by decide +kernel
theorem dX12_back_554 : decode cX12_back 554 = .ok (.lstore_n 2, 1) := by decide +kernel
theorem dX12_back_555 : decode cX12_back 555 = .ok (.iinc 4 1, 3) := by decide +kernel
theorem dX12_back_558 : decode cX12_back 558 = .ok (.goto (-27), 3) := by decide +kernel
theorem dX12_back_561 : decode cX12_back 561 = .ok (.lload_n 2, 1) := by decide +kernel
theorem dX12_back_562 : decode cX12_back 562 = .ok (.lreturn, 1) := by decide +kernel
def M_X12_back : y_M := (yX12_back, cX12_back, 6, (Option.some Jvm.ClassFile.FieldType.long))
theorem n_X12_back : y_N0 M_X12_back 1 := ⟨(c_10 150 (by decide +kernel) rfl), (c_1 9 (by decide +kernel) rfl), ⟨by decide +kernel, by decide +kernel⟩, by decide +kernel⟩
theorem k_BoxYardModel_536 : Cond.constantLong "BoxYardModel" 536 17 ∈ y_tb := (c_10 151 (by decide +kernel) rfl)
theorem F_BoxYardModel_228 : y_F "BoxYardModel" 228 12 94 := ⟨_, _, _, rfl, by decide, Or.inl (c_7 216 (by decide +kernel) rfl)⟩
theorem l_BoxYardModel_538 : y_lnk "BoxYardModel" 538 M_X12_mixed := Or.inl (c_10 152 (by decide +kernel) rfl)
theorem t_X12_mixed : Cond.static (M_X12_mixed).1 ∈ y_tb := (c_10 153 (by decide +kernel) rfl)
theorem F_BoxYardModel_225 : y_F "BoxYardModel" 225 12 93 := ⟨_, _, _, rfl, by decide, Or.inl (c_7 215 (by decide +kernel) rfl)⟩
theorem F_BoxYardModel_222 : y_F "BoxYardModel" 222 12 92 := ⟨_, _, _, rfl, by decide, Or.inl (c_7 214 (by decide +kernel) rfl)⟩
set_option maxRecDepth 100000 in
def f_X12_back (p0 : Nat) (p1 : Int32) (h : y_H) : Option (Int64 × y_H) :=
  y_jn (fun (h1 : y_H) => (
      some ((-1 : Int64), h1) : Option (Int64 × y_H))) (fun j12 =>
  if p1 < 0 then
    j12 h
  else
    if y_K h p0 = 13 then
    if p1 ≤ (y_I h p0 50) then
      y_jl (fun (_ : Nat) (_ : Int32) (_ : Int32) (_ : y_H) => (none : Option (Int64 × y_H))) (fun j18 (v0_18 : Nat) (v1_18 : Int32) (v2_18 : Int32) (h2 : y_H) =>
          if y_K h2 v0_18 = 13 then
          if (y_I h2 v0_18 0) ≤ v2_18 then
            y_jl (fun (_ : Nat) (_ : Int32) (_ : Int32) (_ : y_H) => (none : Option (Int64 × y_H))) (fun j111 (v0_111 : Nat) (v1_111 : Int32) (v2_111 : Int32) (h3 : y_H) =>
                if y_K h3 v0_111 = 13 then
                if (y_I h3 v0_111 25) ≤ v2_111 then
                  y_jl (fun (_ : Nat) (_ : Int32) (_ : Int32) (_ : y_H) => (none : Option (Int64 × y_H))) (fun j173 (v0_173 : Nat) (v1_173 : Int32) (v2_173 : Int32) (h4 : y_H) =>
                      if y_K h4 v0_173 = 13 then
                      if (y_I h4 v0_173 34) ≤ v2_173 then
                        if y_K h4 v0_173 = 13 then
                        y_jl (fun (_ : Nat) (_ : Int32) (_ : Int32) (_ : y_H) => (none : Option (Int64 × y_H))) (fun j224 (v0_224 : Nat) (v1_224 : Int32) (v2_224 : Int32) (h5 : y_H) =>
                            if y_K h5 v0_224 = 13 then
                            if v2_224 < ((y_I h5 v0_224 50) - v1_224) then
                              y_jl (fun (_ : Nat) (_ : Int64) (_ : Int32) (_ : y_H) => (none : Option (Int64 × y_H))) (fun j465 (v0_465 : Nat) (v2_465 : Int64) (v4_465 : Int32) (h6 : y_H) =>
                                  if y_K h6 v0_465 = 13 then
                                  if (5 * (y_I h6 v0_465 0)) ≤ v4_465 then
                                    y_jl (fun (_ : Nat) (_ : Int64) (_ : Int32) (_ : y_H) => (none : Option (Int64 × y_H))) (fun j498 (v0_498 : Nat) (v2_498 : Int64) (v4_498 : Int32) (h7 : y_H) =>
                                        if y_K h7 v0_498 = 13 then
                                        if (3 * (y_I h7 v0_498 25)) ≤ v4_498 then
                                          y_jl (fun (_ : Nat) (_ : Int64) (_ : Int32) (_ : y_H) => (none : Option (Int64 × y_H))) (fun j531 (v0_531 : Nat) (v2_531 : Int64) (v4_531 : Int32) (h8 : y_H) =>
                                              if y_K h8 v0_531 = 13 then
                                              if (2 * (y_I h8 v0_531 34)) ≤ v4_531 then
                                                some (v2_531, h8)
                                              else
                                                if y_K h8 v0_531 = 13 then
                                                if y_K h8 (y_P h8 v0_531 94) = 100 ∧ y_ix v4_531 (y_N h8 (y_P h8 v0_531 94)) = true then
                                                y_cl (f_X12_mixed v2_531 (Int32.toInt64 (y_I h8 (y_P h8 v0_531 94) (Int32.toNatClampNeg v4_531))) h8) (fun r9 h10 =>
                                                j531 v0_531 r9 (v4_531 + 1) h10)
                                                else none
                                                else none
                                              else none) (fun j531 =>
                                          j531 v0_498 v2_498 0 h7)
                                        else
                                          if y_K h7 v0_498 = 13 then
                                          if y_K h7 (y_P h7 v0_498 93) = 100 ∧ y_ix v4_498 (y_N h7 (y_P h7 v0_498 93)) = true then
                                          y_cl (f_X12_mixed v2_498 (Int32.toInt64 (y_I h7 (y_P h7 v0_498 93) (Int32.toNatClampNeg v4_498))) h7) (fun r16 h17 =>
                                          j498 v0_498 r16 (v4_498 + 1) h17)
                                          else none
                                          else none
                                        else none) (fun j498 =>
                                    j498 v0_465 v2_465 0 h6)
                                  else
                                    if y_K h6 v0_465 = 13 then
                                    if y_K h6 (y_P h6 v0_465 92) = 100 ∧ y_ix v4_465 (y_N h6 (y_P h6 v0_465 92)) = true then
                                    y_cl (f_X12_mixed v2_465 (Int32.toInt64 (y_I h6 (y_P h6 v0_465 92) (Int32.toNatClampNeg v4_465))) h6) (fun r23 h24 =>
                                    j465 v0_465 r23 (v4_465 + 1) h24)
                                    else none
                                    else none
                                  else none) (fun j465 =>
                              j465 v0_224 17 0 h5)
                            else
                              if y_K h5 v0_224 = 13 then
                              if y_K h5 (y_P h5 v0_224 51) = 100 ∧ y_ix ((14 * v2_224) + 5) (y_N h5 (y_P h5 v0_224 51)) = true then
                              y_jl (fun (_ : Nat) (_ : Int32) (_ : Int32) (_ : Int32) (_ : Int32) (_ : Int32) (_ : y_H) => (none : Option (Int64 × y_H))) (fun j252 (v0_252 : Nat) (v1_252 : Int32) (v2_252 : Int32) (v3_252 : Int32) (v4_252 : Int32) (v5_252 : Int32) (h30 : y_H) =>
                                  y_jn (fun (v0_293 : Nat) (v1_293 : Int32) (v2_293 : Int32) (v3_293 : Int32) (v4_293 : Int32) (h31 : y_H) => (
                                      y_jn (fun (v0_339 : Nat) (v1_339 : Int32) (v2_339 : Int32) (v3_339 : Int32) (h32 : y_H) => (
                                          y_jl (fun (_ : Nat) (_ : Int32) (_ : Int32) (_ : Int32) (_ : Int32) (_ : y_H) => (none : Option (Int64 × y_H))) (fun j342 (v0_342 : Nat) (v1_342 : Int32) (v2_342 : Int32) (v3_342 : Int32) (v5_342 : Int32) (h33 : y_H) =>
                                              y_jn (fun (v0_394 : Nat) (v1_394 : Int32) (v2_394 : Int32) (v3_394 : Int32) (h34 : y_H) => (
                                                  y_jl (fun (_ : Nat) (_ : Int32) (_ : Int32) (_ : Int32) (_ : Int32) (_ : y_H) => (none : Option (Int64 × y_H))) (fun j397 (v0_397 : Nat) (v1_397 : Int32) (v2_397 : Int32) (v3_397 : Int32) (v5_397 : Int32) (h35 : y_H) =>
                                                      y_jn (fun (v0_452 : Nat) (v1_452 : Int32) (v2_452 : Int32) (h36 : y_H) => (
                                                          j224 v0_452 v1_452 (v2_452 + (-1 : Int32)) h36 : Option (Int64 × y_H))) (fun j452 =>
                                                      if 2 ≤ v5_397 then
                                                        j452 v0_397 v1_397 v2_397 h35
                                                      else
                                                        if y_K h35 v0_397 = 13 then
                                                        if y_K h35 (y_P h35 v0_397 51) = 100 ∧ y_ix (v3_397 + 11) (y_N h35 (y_P h35 v0_397 51)) = true then
                                                        if (y_I h35 (y_P h35 v0_397 51) (Int32.toNatClampNeg (v3_397 + 11))) < 0 then
                                                          j452 v0_397 v1_397 v2_397 h35
                                                        else
                                                          if y_K h35 v0_397 = 13 then
                                                          if y_K h35 v0_397 = 13 then
                                                          if y_K h35 (y_P h35 v0_397 51) = 100 ∧ y_ix (v3_397 + 11) (y_N h35 (y_P h35 v0_397 51)) = true then
                                                          if y_K h35 v0_397 = 13 then
                                                          if y_K h35 (y_P h35 v0_397 51) = 100 ∧ y_ix ((v3_397 + 12) + v5_397) (y_N h35 (y_P h35 v0_397 51)) = true then
                                                          if y_K h35 (y_P h35 v0_397 94) = 100 ∧ y_ix ((2 * (y_I h35 (y_P h35 v0_397 51) (Int32.toNatClampNeg (v3_397 + 11)))) + v5_397) (y_N h35 (y_P h35 v0_397 94)) = true then
                                                          y_bd (s_I h35 (y_P h35 v0_397 94) (Int32.toNatClampNeg ((2 * (y_I h35 (y_P h35 v0_397 51) (Int32.toNatClampNeg (v3_397 + 11)))) + v5_397)) (y_I h35 (y_P h35 v0_397 51) (Int32.toNatClampNeg ((v3_397 + 12) + v5_397)))) (fun h37 =>
                                                          j397 v0_397 v1_397 v2_397 v3_397 (v5_397 + 1) h37)
                                                          else none
                                                          else none
                                                          else none
                                                          else none
                                                          else none
                                                          else none
                                                        else none
                                                        else none)) (fun j397 =>
                                                  j397 v0_394 v1_394 v2_394 v3_394 0 h34) : Option (Int64 × y_H))) (fun j394 =>
                                              if 3 ≤ v5_342 then
                                                j394 v0_342 v1_342 v2_342 v3_342 h33
                                              else
                                                if y_K h33 v0_342 = 13 then
                                                if y_K h33 (y_P h33 v0_342 51) = 100 ∧ y_ix (v3_342 + 1) (y_N h33 (y_P h33 v0_342 51)) = true then
                                                if (y_I h33 (y_P h33 v0_342 51) (Int32.toNatClampNeg (v3_342 + 1))) < 0 then
                                                  j394 v0_342 v1_342 v2_342 v3_342 h33
                                                else
                                                  if y_K h33 v0_342 = 13 then
                                                  if y_K h33 v0_342 = 13 then
                                                  if y_K h33 (y_P h33 v0_342 51) = 100 ∧ y_ix (v3_342 + 1) (y_N h33 (y_P h33 v0_342 51)) = true then
                                                  if y_K h33 v0_342 = 13 then
                                                  if y_K h33 (y_P h33 v0_342 51) = 100 ∧ y_ix ((v3_342 + 2) + v5_342) (y_N h33 (y_P h33 v0_342 51)) = true then
                                                  if y_K h33 (y_P h33 v0_342 93) = 100 ∧ y_ix ((3 * (y_I h33 (y_P h33 v0_342 51) (Int32.toNatClampNeg (v3_342 + 1)))) + v5_342) (y_N h33 (y_P h33 v0_342 93)) = true then
                                                  y_bd (s_I h33 (y_P h33 v0_342 93) (Int32.toNatClampNeg ((3 * (y_I h33 (y_P h33 v0_342 51) (Int32.toNatClampNeg (v3_342 + 1)))) + v5_342)) (y_I h33 (y_P h33 v0_342 51) (Int32.toNatClampNeg ((v3_342 + 2) + v5_342)))) (fun h49 =>
                                                  j342 v0_342 v1_342 v2_342 v3_342 (v5_342 + 1) h49)
                                                  else none
                                                  else none
                                                  else none
                                                  else none
                                                  else none
                                                  else none
                                                else none
                                                else none)) (fun j342 =>
                                          j342 v0_339 v1_339 v2_339 v3_339 0 h32) : Option (Int64 × y_H))) (fun j339 =>
                                      if v4_293 < 0 then
                                        j339 v0_293 v1_293 v2_293 v3_293 h31
                                      else
                                        if y_K h31 v0_293 = 13 then
                                        if y_K h31 v0_293 = 13 then
                                        if y_K h31 (y_P h31 v0_293 51) = 100 ∧ y_ix (v3_293 + 10) (y_N h31 (y_P h31 v0_293 51)) = true then
                                        if (y_I h31 (y_P h31 v0_293 51) (Int32.toNatClampNeg (v3_293 + 10))) = 1 then
                                          if y_K h31 v0_293 = 13 then
                                          if y_K h31 (y_P h31 v0_293 3) = 100 ∧ y_ix v4_293 (y_N h31 (y_P h31 v0_293 3)) = true then
                                          if y_K h31 (y_P h31 v0_293 92) = 100 ∧ y_ix ((5 * v4_293) + 4) (y_N h31 (y_P h31 v0_293 92)) = true then
                                          y_bd (s_I h31 (y_P h31 v0_293 92) (Int32.toNatClampNeg ((5 * v4_293) + 4)) (y_I h31 (y_P h31 v0_293 3) (Int32.toNatClampNeg v4_293))) (fun h66 =>
                                          j339 v0_293 v1_293 v2_293 v3_293 h66)
                                          else none
                                          else none
                                          else none
                                        else
                                          if y_K h31 v0_293 = 13 then
                                          if y_K h31 (y_P h31 v0_293 2) = 100 ∧ y_ix v4_293 (y_N h31 (y_P h31 v0_293 2)) = true then
                                          if y_K h31 (y_P h31 v0_293 92) = 100 ∧ y_ix ((5 * v4_293) + 4) (y_N h31 (y_P h31 v0_293 92)) = true then
                                          y_bd (s_I h31 (y_P h31 v0_293 92) (Int32.toNatClampNeg ((5 * v4_293) + 4)) (y_I h31 (y_P h31 v0_293 2) (Int32.toNatClampNeg v4_293))) (fun h61 =>
                                          j339 v0_293 v1_293 v2_293 v3_293 h61)
                                          else none
                                          else none
                                          else none
                                        else none
                                        else none
                                        else none) : Option (Int64 × y_H))) (fun j293 =>
                                  if 4 ≤ v5_252 then
                                    j293 v0_252 v1_252 v2_252 v3_252 v4_252 h30
                                  else
                                    if v4_252 < 0 then
                                      j293 v0_252 v1_252 v2_252 v3_252 v4_252 h30
                                    else
                                      if y_K h30 v0_252 = 13 then
                                      if y_K h30 v0_252 = 13 then
                                      if y_K h30 (y_P h30 v0_252 51) = 100 ∧ y_ix ((v3_252 + 6) + v5_252) (y_N h30 (y_P h30 v0_252 51)) = true then
                                      if y_K h30 (y_P h30 v0_252 92) = 100 ∧ y_ix ((5 * v4_252) + v5_252) (y_N h30 (y_P h30 v0_252 92)) = true then
                                      y_bd (s_I h30 (y_P h30 v0_252 92) (Int32.toNatClampNeg ((5 * v4_252) + v5_252)) (y_I h30 (y_P h30 v0_252 51) (Int32.toNatClampNeg ((v3_252 + 6) + v5_252)))) (fun h76 =>
                                      j252 v0_252 v1_252 v2_252 v3_252 v4_252 (v5_252 + 1) h76)
                                      else none
                                      else none
                                      else none
                                      else none)) (fun j252 =>
                              j252 v0_224 v1_224 v2_224 (14 * v2_224) (y_I h5 (y_P h5 v0_224 51) (Int32.toNatClampNeg ((14 * v2_224) + 5))) 0 h5)
                              else none
                              else none
                            else none) (fun j224 =>
                        j224 v0_173 v1_173 ((y_I h4 v0_173 50) - 1) h4)
                        else none
                      else
                        if y_K h4 v0_173 = 13 then
                        if y_K h4 v0_173 = 13 then
                        if y_K h4 (y_P h4 v0_173 43) = 100 ∧ y_ix v2_173 (y_N h4 (y_P h4 v0_173 43)) = true then
                        if y_K h4 (y_P h4 v0_173 94) = 100 ∧ y_ix (2 * v2_173) (y_N h4 (y_P h4 v0_173 94)) = true then
                        y_bd (s_I h4 (y_P h4 v0_173 94) (Int32.toNatClampNeg (2 * v2_173)) (y_I h4 (y_P h4 v0_173 43) (Int32.toNatClampNeg v2_173))) (fun h89 =>
                        if y_K h89 v0_173 = 13 then
                        if y_K h89 v0_173 = 13 then
                        if y_K h89 (y_P h89 v0_173 44) = 100 ∧ y_ix v2_173 (y_N h89 (y_P h89 v0_173 44)) = true then
                        if y_K h89 (y_P h89 v0_173 94) = 100 ∧ y_ix ((2 * v2_173) + 1) (y_N h89 (y_P h89 v0_173 94)) = true then
                        y_bd (s_I h89 (y_P h89 v0_173 94) (Int32.toNatClampNeg ((2 * v2_173) + 1)) (y_I h89 (y_P h89 v0_173 44) (Int32.toNatClampNeg v2_173))) (fun h92 =>
                        j173 v0_173 v1_173 (v2_173 + 1) h92)
                        else none
                        else none
                        else none
                        else none)
                        else none
                        else none
                        else none
                        else none
                      else none) (fun j173 =>
                  j173 v0_111 v1_111 0 h3)
                else
                  if y_K h3 v0_111 = 13 then
                  if y_K h3 v0_111 = 13 then
                  if y_K h3 (y_P h3 v0_111 28) = 100 ∧ y_ix v2_111 (y_N h3 (y_P h3 v0_111 28)) = true then
                  if y_K h3 (y_P h3 v0_111 93) = 100 ∧ y_ix (3 * v2_111) (y_N h3 (y_P h3 v0_111 93)) = true then
                  y_bd (s_I h3 (y_P h3 v0_111 93) (Int32.toNatClampNeg (3 * v2_111)) (y_I h3 (y_P h3 v0_111 28) (Int32.toNatClampNeg v2_111))) (fun h103 =>
                  if y_K h103 v0_111 = 13 then
                  if y_K h103 v0_111 = 13 then
                  if y_K h103 (y_P h103 v0_111 29) = 100 ∧ y_ix v2_111 (y_N h103 (y_P h103 v0_111 29)) = true then
                  if y_K h103 (y_P h103 v0_111 93) = 100 ∧ y_ix ((3 * v2_111) + 1) (y_N h103 (y_P h103 v0_111 93)) = true then
                  y_bd (s_I h103 (y_P h103 v0_111 93) (Int32.toNatClampNeg ((3 * v2_111) + 1)) (y_I h103 (y_P h103 v0_111 29) (Int32.toNatClampNeg v2_111))) (fun h106 =>
                  if y_K h106 v0_111 = 13 then
                  if y_K h106 v0_111 = 13 then
                  if y_K h106 (y_P h106 v0_111 30) = 100 ∧ y_ix v2_111 (y_N h106 (y_P h106 v0_111 30)) = true then
                  if y_K h106 (y_P h106 v0_111 93) = 100 ∧ y_ix ((3 * v2_111) + 2) (y_N h106 (y_P h106 v0_111 93)) = true then
                  y_bd (s_I h106 (y_P h106 v0_111 93) (Int32.toNatClampNeg ((3 * v2_111) + 2)) (y_I h106 (y_P h106 v0_111 30) (Int32.toNatClampNeg v2_111))) (fun h109 =>
                  j111 v0_111 v1_111 (v2_111 + 1) h109)
                  else none
                  else none
                  else none
                  else none)
                  else none
                  else none
                  else none
                  else none)
                  else none
                  else none
                  else none
                  else none
                else none) (fun j111 =>
            j111 v0_18 v1_18 0 h2)
          else
            if y_K h2 v0_18 = 13 then
            if y_K h2 v0_18 = 13 then
            if y_K h2 (y_P h2 v0_18 7) = 100 ∧ y_ix v2_18 (y_N h2 (y_P h2 v0_18 7)) = true then
            if y_K h2 (y_P h2 v0_18 92) = 100 ∧ y_ix (5 * v2_18) (y_N h2 (y_P h2 v0_18 92)) = true then
            y_bd (s_I h2 (y_P h2 v0_18 92) (Int32.toNatClampNeg (5 * v2_18)) (y_I h2 (y_P h2 v0_18 7) (Int32.toNatClampNeg v2_18))) (fun h123 =>
            if y_K h123 v0_18 = 13 then
            if y_K h123 v0_18 = 13 then
            if y_K h123 (y_P h123 v0_18 8) = 100 ∧ y_ix v2_18 (y_N h123 (y_P h123 v0_18 8)) = true then
            if y_K h123 (y_P h123 v0_18 92) = 100 ∧ y_ix ((5 * v2_18) + 1) (y_N h123 (y_P h123 v0_18 92)) = true then
            y_bd (s_I h123 (y_P h123 v0_18 92) (Int32.toNatClampNeg ((5 * v2_18) + 1)) (y_I h123 (y_P h123 v0_18 8) (Int32.toNatClampNeg v2_18))) (fun h126 =>
            if y_K h126 v0_18 = 13 then
            if y_K h126 v0_18 = 13 then
            if y_K h126 (y_P h126 v0_18 9) = 100 ∧ y_ix v2_18 (y_N h126 (y_P h126 v0_18 9)) = true then
            if y_K h126 (y_P h126 v0_18 92) = 100 ∧ y_ix ((5 * v2_18) + 2) (y_N h126 (y_P h126 v0_18 92)) = true then
            y_bd (s_I h126 (y_P h126 v0_18 92) (Int32.toNatClampNeg ((5 * v2_18) + 2)) (y_I h126 (y_P h126 v0_18 9) (Int32.toNatClampNeg v2_18))) (fun h129 =>
            if y_K h129 v0_18 = 13 then
            if y_K h129 v0_18 = 13 then
            if y_K h129 (y_P h129 v0_18 10) = 100 ∧ y_ix v2_18 (y_N h129 (y_P h129 v0_18 10)) = true then
            if y_K h129 (y_P h129 v0_18 92) = 100 ∧ y_ix ((5 * v2_18) + 3) (y_N h129 (y_P h129 v0_18 92)) = true then
            y_bd (s_I h129 (y_P h129 v0_18 92) (Int32.toNatClampNeg ((5 * v2_18) + 3)) (y_I h129 (y_P h129 v0_18 10) (Int32.toNatClampNeg v2_18))) (fun h132 =>
            if y_K h132 v0_18 = 13 then
            if y_K h132 v0_18 = 13 then
            y_cl (f_X12_known v0_18 v2_18 h132) (fun r135 h136 =>
            if y_K h136 (y_P h132 v0_18 92) = 100 ∧ y_ix ((5 * v2_18) + 4) (y_N h136 (y_P h132 v0_18 92)) = true then
            y_bd (s_I h136 (y_P h132 v0_18 92) (Int32.toNatClampNeg ((5 * v2_18) + 4)) r135) (fun h138 =>
            j18 v0_18 v1_18 (v2_18 + 1) h138)
            else none)
            else none
            else none)
            else none
            else none
            else none
            else none)
            else none
            else none
            else none
            else none)
            else none
            else none
            else none
            else none)
            else none
            else none
            else none
            else none
          else none) (fun j18 =>
      j18 p0 p1 0 h)
    else
      j12 h
    else none)
abbrev rm_X12_back : Room := { frames := 1, cells := 0, slots := 0, locals := 25 }
set_option maxRecDepth 100000 in
set_option maxHeartbeats 4000000 in
theorem k_X12_back {l : Launch} {G : y_G} {p0 : Nat} {p1 : Int32} {h hz : y_H} {rz : Int64} (hf : f_X12_back p0 p1 h = some (rz, hz)) : y_S l G M_X12_back rm_X12_back [y_p p0, .int p1] h (some (.long rz)) hz := by
  refine y_start (lv := [(0, y_p p0), (1, .int p1)]) (by decide) (by simp [lg_sl, y_p_cat, y_ci, y_cj, M_X12_back]) (by simp [lv_args, y_p_cat, y_ci, y_cj]) (fun z ad0 => ?_)
  unfold f_X12_back at hf
  refine y_iload_n (pc2 := 1) rfl dX12_back_0 rfl ?_
  refine y_jnE hf (fun j => ∀ (h1 : y_H), j h1 = some (rz, hz) → y_V l G z rm_X12_back M_X12_back ad0 h (some (.long rz)) hz 12 [] [] h1 0 0) (fun h1 hf => ?_) (fun j12 hj12 hf => ?_)
  · refine y_ldc2 (v := (-1 : Int64)) (pc2 := 15) rfl dX12_back_12 k_BoxYardModel_464 ?_
    exact y_lretF hf dX12_back_15 rfl (by decide) (by decide)
  · refine y_if_lt (tgt := 12) (pc2 := 4) rfl dX12_back_1 (by decide) (fun c159 => ?_) (fun c159 => ?_)
    · replace hf := y_it c159 hf
      exact y_pk [] rfl (hj12 _ hf)
    · replace hf := y_ie c159 hf
      refine y_iload_n (pc2 := 5) rfl dX12_back_4 rfl ?_
      refine y_aload_n (x := p0) (pc2 := 6) rfl dX12_back_5 rfl ?_
      obtain ⟨g158, hf⟩ := y_g hf
      refine y_getI (pc2 := 9) rfl dX12_back_6 F_BoxYardModel_255 (by decide) rfl g158 ?_
      refine y_icmp_le (tgt := 16) (pc2 := 12) rfl dX12_back_9 (by decide) (fun c157 => ?_) (fun c157 => ?_)
      · replace hf := y_it c157 hf
        refine y_iconst (v := 0) (pc2 := 17) rfl dX12_back_16 (by decide) ?_
        refine y_jlE hf (fun j => ∀ (v0_18 : Nat) (v1_18 : Int32) (v2_18 : Int32) (h2 : y_H), j v0_18 v1_18 v2_18 h2 = some (rz, hz) → y_V l G z rm_X12_back M_X12_back ad0 h (some (.long rz)) hz 18 [(0, y_p v0_18), (1, .int v1_18), (2, .int v2_18)] [] h2 0 0) (fun _ _ _ _ hf => by cases hf) (fun j18 hj18 v0_18 v1_18 v2_18 h2 hf => ?_) (fun j18 hj18 hf => ?_)
        · refine y_iload_n (pc2 := 19) rfl dX12_back_18 rfl ?_
          refine y_aload_n (x := v0_18) (pc2 := 20) rfl dX12_back_19 rfl ?_
          obtain ⟨g156, hf⟩ := y_g hf
          refine y_getI (pc2 := 23) rfl dX12_back_20 F_BoxYardModel_234 (by decide) rfl g156 ?_
          refine y_icmp_ge (tgt := 109) (pc2 := 26) rfl dX12_back_23 (by decide) (fun c155 => ?_) (fun c155 => ?_)
          · replace hf := y_it c155 hf
            refine y_iconst (v := 0) (pc2 := 110) rfl dX12_back_109 (by decide) ?_
            refine y_jlE hf (fun j => ∀ (v0_111 : Nat) (v1_111 : Int32) (v2_111 : Int32) (h3 : y_H), j v0_111 v1_111 v2_111 h3 = some (rz, hz) → y_V l G z rm_X12_back M_X12_back ad0 h (some (.long rz)) hz 111 [(0, y_p v0_111), (1, .int v1_111), (2, .int v2_111)] [] h3 0 0) (fun _ _ _ _ hf => by cases hf) (fun j111 hj111 v0_111 v1_111 v2_111 h3 hf => ?_) (fun j111 hj111 hf => ?_)
            · refine y_iload_n (pc2 := 112) rfl dX12_back_111 rfl ?_
              refine y_aload_n (x := v0_111) (pc2 := 113) rfl dX12_back_112 rfl ?_
              obtain ⟨g122, hf⟩ := y_g hf
              refine y_getI (pc2 := 116) rfl dX12_back_113 F_BoxYardModel_240 (by decide) rfl g122 ?_
              refine y_icmp_ge (tgt := 171) (pc2 := 119) rfl dX12_back_116 (by decide) (fun c121 => ?_) (fun c121 => ?_)
              · replace hf := y_it c121 hf
                refine y_iconst (v := 0) (pc2 := 172) rfl dX12_back_171 (by decide) ?_
                refine y_jlE hf (fun j => ∀ (v0_173 : Nat) (v1_173 : Int32) (v2_173 : Int32) (h4 : y_H), j v0_173 v1_173 v2_173 h4 = some (rz, hz) → y_V l G z rm_X12_back M_X12_back ad0 h (some (.long rz)) hz 173 [(0, y_p v0_173), (1, .int v1_173), (2, .int v2_173)] [] h4 0 0) (fun _ _ _ _ hf => by cases hf) (fun j173 hj173 v0_173 v1_173 v2_173 h4 hf => ?_) (fun j173 hj173 hf => ?_)
                · refine y_iload_n (pc2 := 174) rfl dX12_back_173 rfl ?_
                  refine y_aload_n (x := v0_173) (pc2 := 175) rfl dX12_back_174 rfl ?_
                  obtain ⟨g102, hf⟩ := y_g hf
                  refine y_getI (pc2 := 178) rfl dX12_back_175 F_BoxYardModel_246 (by decide) rfl g102 ?_
                  refine y_icmp_ge (tgt := 217) (pc2 := 181) rfl dX12_back_178 (by decide) (fun c101 => ?_) (fun c101 => ?_)
                  · replace hf := y_it c101 hf
                    refine y_aload_n (x := v0_173) (pc2 := 218) rfl dX12_back_217 rfl ?_
                    obtain ⟨g88, hf⟩ := y_g hf
                    refine y_getI (pc2 := 221) rfl dX12_back_218 F_BoxYardModel_255 (by decide) rfl g88 ?_
                    refine y_iconst (v := 1) (pc2 := 222) rfl dX12_back_221 (by decide) ?_
                    refine y_isub (pc2 := 223) rfl dX12_back_222 ?_
                    refine y_jlE hf (fun j => ∀ (v0_224 : Nat) (v1_224 : Int32) (v2_224 : Int32) (h5 : y_H), j v0_224 v1_224 v2_224 h5 = some (rz, hz) → y_V l G z rm_X12_back M_X12_back ad0 h (some (.long rz)) hz 224 [(0, y_p v0_224), (1, .int v1_224), (2, .int v2_224)] [] h5 0 0) (fun _ _ _ _ hf => by cases hf) (fun j224 hj224 v0_224 v1_224 v2_224 h5 hf => ?_) (fun j224 hj224 hf => ?_)
                    · refine y_iload_n (pc2 := 225) rfl dX12_back_224 rfl ?_
                      refine y_aload_n (x := v0_224) (pc2 := 226) rfl dX12_back_225 rfl ?_
                      obtain ⟨g87, hf⟩ := y_g hf
                      refine y_getI (pc2 := 229) rfl dX12_back_226 F_BoxYardModel_255 (by decide) rfl g87 ?_
                      refine y_iload_n (pc2 := 230) rfl dX12_back_229 rfl ?_
                      refine y_isub (pc2 := 231) rfl dX12_back_230 ?_
                      refine y_icmp_lt (tgt := 458) (pc2 := 234) rfl dX12_back_231 (by decide) (fun c86 => ?_) (fun c86 => ?_)
                      · replace hf := y_it c86 hf
                        refine y_ldc2 (v := 17) (pc2 := 461) rfl dX12_back_458 k_BoxYardModel_536 ?_
                        refine y_lstore_n (lv' := [(2, .long 17), (0, y_p v0_224), (1, .int v1_224)]) (pc2 := 462) rfl dX12_back_461 (by decide) rfl ?_
                        refine y_iconst (v := 0) (pc2 := 463) rfl dX12_back_462 (by decide) ?_
                        refine y_jlE hf (fun j => ∀ (v0_465 : Nat) (v2_465 : Int64) (v4_465 : Int32) (h6 : y_H), j v0_465 v2_465 v4_465 h6 = some (rz, hz) → y_V l G z rm_X12_back M_X12_back ad0 h (some (.long rz)) hz 465 [(0, y_p v0_465), (2, .long v2_465), (4, .int v4_465)] [] h6 0 0) (fun _ _ _ _ hf => by cases hf) (fun j465 hj465 v0_465 v2_465 v4_465 h6 hf => ?_) (fun j465 hj465 hf => ?_)
                        · refine y_iload (pc2 := 467) rfl dX12_back_465 rfl ?_
                          refine y_iconst (v := 5) (pc2 := 468) rfl dX12_back_467 (by decide) ?_
                          refine y_aload_n (x := v0_465) (pc2 := 469) rfl dX12_back_468 rfl ?_
                          obtain ⟨g29, hf⟩ := y_g hf
                          refine y_getI (pc2 := 472) rfl dX12_back_469 F_BoxYardModel_234 (by decide) rfl g29 ?_
                          refine y_imul (pc2 := 473) rfl dX12_back_472 ?_
                          refine y_icmp_ge (tgt := 495) (pc2 := 476) rfl dX12_back_473 (by decide) (fun c28 => ?_) (fun c28 => ?_)
                          · replace hf := y_it c28 hf
                            refine y_iconst (v := 0) (pc2 := 496) rfl dX12_back_495 (by decide) ?_
                            refine y_jlE hf (fun j => ∀ (v0_498 : Nat) (v2_498 : Int64) (v4_498 : Int32) (h7 : y_H), j v0_498 v2_498 v4_498 h7 = some (rz, hz) → y_V l G z rm_X12_back M_X12_back ad0 h (some (.long rz)) hz 498 [(0, y_p v0_498), (2, .long v2_498), (4, .int v4_498)] [] h7 0 0) (fun _ _ _ _ hf => by cases hf) (fun j498 hj498 v0_498 v2_498 v4_498 h7 hf => ?_) (fun j498 hj498 hf => ?_)
                            · refine y_iload (pc2 := 500) rfl dX12_back_498 rfl ?_
                              refine y_iconst (v := 3) (pc2 := 501) rfl dX12_back_500 (by decide) ?_
                              refine y_aload_n (x := v0_498) (pc2 := 502) rfl dX12_back_501 rfl ?_
                              obtain ⟨g22, hf⟩ := y_g hf
                              refine y_getI (pc2 := 505) rfl dX12_back_502 F_BoxYardModel_240 (by decide) rfl g22 ?_
                              refine y_imul (pc2 := 506) rfl dX12_back_505 ?_
                              refine y_icmp_ge (tgt := 528) (pc2 := 509) rfl dX12_back_506 (by decide) (fun c21 => ?_) (fun c21 => ?_)
                              · replace hf := y_it c21 hf
                                refine y_iconst (v := 0) (pc2 := 529) rfl dX12_back_528 (by decide) ?_
                                refine y_jlE hf (fun j => ∀ (v0_531 : Nat) (v2_531 : Int64) (v4_531 : Int32) (h8 : y_H), j v0_531 v2_531 v4_531 h8 = some (rz, hz) → y_V l G z rm_X12_back M_X12_back ad0 h (some (.long rz)) hz 531 [(0, y_p v0_531), (2, .long v2_531), (4, .int v4_531)] [] h8 0 0) (fun _ _ _ _ hf => by cases hf) (fun j531 hj531 v0_531 v2_531 v4_531 h8 hf => ?_) (fun j531 hj531 hf => ?_)
                                · refine y_iload (pc2 := 533) rfl dX12_back_531 rfl ?_
                                  refine y_iconst (v := 2) (pc2 := 534) rfl dX12_back_533 (by decide) ?_
                                  refine y_aload_n (x := v0_531) (pc2 := 535) rfl dX12_back_534 rfl ?_
                                  obtain ⟨g15, hf⟩ := y_g hf
                                  refine y_getI (pc2 := 538) rfl dX12_back_535 F_BoxYardModel_246 (by decide) rfl g15 ?_
                                  refine y_imul (pc2 := 539) rfl dX12_back_538 ?_
                                  refine y_icmp_ge (tgt := 561) (pc2 := 542) rfl dX12_back_539 (by decide) (fun c14 => ?_) (fun c14 => ?_)
                                  · replace hf := y_it c14 hf
                                    refine y_lload_n (pc2 := 562) rfl dX12_back_561 rfl ?_
                                    exact y_lretF hf dX12_back_562 rfl (by decide) (by decide)
                                  · replace hf := y_ie c14 hf
                                    refine y_lload_n (pc2 := 543) rfl dX12_back_542 rfl ?_
                                    refine y_aload_n (x := v0_531) (pc2 := 544) rfl dX12_back_543 rfl ?_
                                    obtain ⟨g13, hf⟩ := y_g hf
                                    refine y_getP (pc2 := 547) rfl dX12_back_544 F_BoxYardModel_228 (by decide) rfl g13 ?_
                                    refine y_iload (pc2 := 549) rfl dX12_back_547 rfl ?_
                                    obtain ⟨g12, hf⟩ := y_g hf
                                    refine y_iald (pc2 := 550) rfl dX12_back_549 g12.1 (y_ix_in g12.2) ?_
                                    refine y_i2l (pc2 := 551) rfl dX12_back_550 ?_
                                    obtain ⟨r9, h10, c11, hf⟩ := y_clE hf
                                    refine y_callS (As := [.long v2_531, .long (Int32.toInt64 (y_I h8 (y_P h8 v0_531 94) (Int32.toNatClampNeg v4_531)))]) (rm := rm_X12_mixed) (cells := 0) (slots := 0) (pc2 := 554) rfl dX12_back_551 n_X12_mixed l_BoxYardModel_538 t_X12_mixed rfl rfl (by decide) (by decide) (by decide) (k_X12_mixed c11) ?_
                                    refine y_lstore_n (lv' := [(2, .long r9), (0, y_p v0_531), (4, .int v4_531)]) (pc2 := 555) rfl dX12_back_554 (by decide) rfl ?_
                                    refine y_iinc (v := v4_531 + 1) (lv' := [(4, .int (v4_531 + 1)), (2, .long r9), (0, y_p v0_531)]) (pc2 := 558) rfl dX12_back_555 rfl rfl (by decide) rfl ?_
                                    refine y_goto (tgt := 531) dX12_back_558 (by decide) ?_
                                    exact y_pk [2, 1, 0] rfl (hj531 _ _ _ _ hf)
                                · refine y_istore (lv' := [(4, .int 0), (0, y_p v0_498), (2, .long v2_498)]) (pc2 := 531) rfl dX12_back_529 (by decide) rfl ?_
                                  exact y_pk [1, 2, 0] rfl (hj531 _ _ _ _ hf)
                              · replace hf := y_ie c21 hf
                                refine y_lload_n (pc2 := 510) rfl dX12_back_509 rfl ?_
                                refine y_aload_n (x := v0_498) (pc2 := 511) rfl dX12_back_510 rfl ?_
                                obtain ⟨g20, hf⟩ := y_g hf
                                refine y_getP (pc2 := 514) rfl dX12_back_511 F_BoxYardModel_225 (by decide) rfl g20 ?_
                                refine y_iload (pc2 := 516) rfl dX12_back_514 rfl ?_
                                obtain ⟨g19, hf⟩ := y_g hf
                                refine y_iald (pc2 := 517) rfl dX12_back_516 g19.1 (y_ix_in g19.2) ?_
                                refine y_i2l (pc2 := 518) rfl dX12_back_517 ?_
                                obtain ⟨r16, h17, c18, hf⟩ := y_clE hf
                                refine y_callS (As := [.long v2_498, .long (Int32.toInt64 (y_I h7 (y_P h7 v0_498 93) (Int32.toNatClampNeg v4_498)))]) (rm := rm_X12_mixed) (cells := 0) (slots := 0) (pc2 := 521) rfl dX12_back_518 n_X12_mixed l_BoxYardModel_538 t_X12_mixed rfl rfl (by decide) (by decide) (by decide) (k_X12_mixed c18) ?_
                                refine y_lstore_n (lv' := [(2, .long r16), (0, y_p v0_498), (4, .int v4_498)]) (pc2 := 522) rfl dX12_back_521 (by decide) rfl ?_
                                refine y_iinc (v := v4_498 + 1) (lv' := [(4, .int (v4_498 + 1)), (2, .long r16), (0, y_p v0_498)]) (pc2 := 525) rfl dX12_back_522 rfl rfl (by decide) rfl ?_
                                refine y_goto (tgt := 498) dX12_back_525 (by decide) ?_
                                exact y_pk [2, 1, 0] rfl (hj498 _ _ _ _ hf)
                            · refine y_istore (lv' := [(4, .int 0), (0, y_p v0_465), (2, .long v2_465)]) (pc2 := 498) rfl dX12_back_496 (by decide) rfl ?_
                              exact y_pk [1, 2, 0] rfl (hj498 _ _ _ _ hf)
                          · replace hf := y_ie c28 hf
                            refine y_lload_n (pc2 := 477) rfl dX12_back_476 rfl ?_
                            refine y_aload_n (x := v0_465) (pc2 := 478) rfl dX12_back_477 rfl ?_
                            obtain ⟨g27, hf⟩ := y_g hf
                            refine y_getP (pc2 := 481) rfl dX12_back_478 F_BoxYardModel_222 (by decide) rfl g27 ?_
                            refine y_iload (pc2 := 483) rfl dX12_back_481 rfl ?_
                            obtain ⟨g26, hf⟩ := y_g hf
                            refine y_iald (pc2 := 484) rfl dX12_back_483 g26.1 (y_ix_in g26.2) ?_
                            refine y_i2l (pc2 := 485) rfl dX12_back_484 ?_
                            obtain ⟨r23, h24, c25, hf⟩ := y_clE hf
                            refine y_callS (As := [.long v2_465, .long (Int32.toInt64 (y_I h6 (y_P h6 v0_465 92) (Int32.toNatClampNeg v4_465)))]) (rm := rm_X12_mixed) (cells := 0) (slots := 0) (pc2 := 488) rfl dX12_back_485 n_X12_mixed l_BoxYardModel_538 t_X12_mixed rfl rfl (by decide) (by decide) (by decide) (k_X12_mixed c25) ?_
                            refine y_lstore_n (lv' := [(2, .long r23), (0, y_p v0_465), (4, .int v4_465)]) (pc2 := 489) rfl dX12_back_488 (by decide) rfl ?_
                            refine y_iinc (v := v4_465 + 1) (lv' := [(4, .int (v4_465 + 1)), (2, .long r23), (0, y_p v0_465)]) (pc2 := 492) rfl dX12_back_489 rfl rfl (by decide) rfl ?_
                            refine y_goto (tgt := 465) dX12_back_492 (by decide) ?_
                            exact y_pk [2, 1, 0] rfl (hj465 _ _ _ _ hf)
                        · refine y_istore (lv' := [(4, .int 0), (2, .long 17), (0, y_p v0_224), (1, .int v1_224)]) (pc2 := 465) rfl dX12_back_463 (by decide) rfl ?_
                          exact y_pk [2, 1, 0] rfl (hj465 _ _ _ _ hf)
                      · replace hf := y_ie c86 hf
                        refine y_bipush (v := 14) (pc2 := 236) rfl dX12_back_234 (by decide) ?_
                        refine y_iload_n (pc2 := 237) rfl dX12_back_236 rfl ?_
                        refine y_imul (pc2 := 238) rfl dX12_back_237 ?_
                        refine y_istore_n (lv' := [(3, .int (14 * v2_224)), (0, y_p v0_224), (1, .int v1_224), (2, .int v2_224)]) (pc2 := 239) rfl dX12_back_238 (by decide) rfl ?_
                        refine y_aload_n (x := v0_224) (pc2 := 240) rfl dX12_back_239 rfl ?_
                        obtain ⟨g85, hf⟩ := y_g hf
                        refine y_getP (pc2 := 243) rfl dX12_back_240 F_BoxYardModel_137 (by decide) rfl g85 ?_
                        refine y_iload_n (pc2 := 244) rfl dX12_back_243 rfl ?_
                        refine y_iconst (v := 5) (pc2 := 245) rfl dX12_back_244 (by decide) ?_
                        refine y_iadd (pc2 := 246) rfl dX12_back_245 ?_
                        obtain ⟨g84, hf⟩ := y_g hf
                        refine y_iald (pc2 := 247) rfl dX12_back_246 g84.1 (y_ix_in g84.2) ?_
                        refine y_istore (lv' := [(4, .int (y_I h5 (y_P h5 v0_224 51) (Int32.toNatClampNeg ((14 * v2_224) + 5)))), (3, .int (14 * v2_224)), (0, y_p v0_224), (1, .int v1_224), (2, .int v2_224)]) (pc2 := 249) rfl dX12_back_247 (by decide) rfl ?_
                        refine y_iconst (v := 0) (pc2 := 250) rfl dX12_back_249 (by decide) ?_
                        refine y_jlE hf (fun j => ∀ (v0_252 : Nat) (v1_252 : Int32) (v2_252 : Int32) (v3_252 : Int32) (v4_252 : Int32) (v5_252 : Int32) (h30 : y_H), j v0_252 v1_252 v2_252 v3_252 v4_252 v5_252 h30 = some (rz, hz) → y_V l G z rm_X12_back M_X12_back ad0 h (some (.long rz)) hz 252 [(0, y_p v0_252), (1, .int v1_252), (2, .int v2_252), (3, .int v3_252), (4, .int v4_252), (5, .int v5_252)] [] h30 0 0) (fun _ _ _ _ _ _ _ hf => by cases hf) (fun j252 hj252 v0_252 v1_252 v2_252 v3_252 v4_252 v5_252 h30 hf => ?_) (fun j252 hj252 hf => ?_)
                        · refine y_iload (pc2 := 254) rfl dX12_back_252 rfl ?_
                          refine y_iconst (v := 4) (pc2 := 255) rfl dX12_back_254 (by decide) ?_
                          refine y_jnE hf (fun j => ∀ (v0_293 : Nat) (v1_293 : Int32) (v2_293 : Int32) (v3_293 : Int32) (v4_293 : Int32) (h31 : y_H), j v0_293 v1_293 v2_293 v3_293 v4_293 h31 = some (rz, hz) → y_V l G z rm_X12_back M_X12_back ad0 h (some (.long rz)) hz 293 [(0, y_p v0_293), (1, .int v1_293), (2, .int v2_293), (3, .int v3_293), (4, .int v4_293)] [] h31 0 0) (fun v0_293 v1_293 v2_293 v3_293 v4_293 h31 hf => ?_) (fun j293 hj293 hf => ?_)
                          · refine y_iload (pc2 := 295) rfl dX12_back_293 rfl ?_
                            refine y_jnE hf (fun j => ∀ (v0_339 : Nat) (v1_339 : Int32) (v2_339 : Int32) (v3_339 : Int32) (h32 : y_H), j v0_339 v1_339 v2_339 v3_339 h32 = some (rz, hz) → y_V l G z rm_X12_back M_X12_back ad0 h (some (.long rz)) hz 339 [(0, y_p v0_339), (1, .int v1_339), (2, .int v2_339), (3, .int v3_339)] [] h32 0 0) (fun v0_339 v1_339 v2_339 v3_339 h32 hf => ?_) (fun j339 hj339 hf => ?_)
                            · refine y_iconst (v := 0) (pc2 := 340) rfl dX12_back_339 (by decide) ?_
                              refine y_jlE hf (fun j => ∀ (v0_342 : Nat) (v1_342 : Int32) (v2_342 : Int32) (v3_342 : Int32) (v5_342 : Int32) (h33 : y_H), j v0_342 v1_342 v2_342 v3_342 v5_342 h33 = some (rz, hz) → y_V l G z rm_X12_back M_X12_back ad0 h (some (.long rz)) hz 342 [(0, y_p v0_342), (1, .int v1_342), (2, .int v2_342), (3, .int v3_342), (5, .int v5_342)] [] h33 0 0) (fun _ _ _ _ _ _ hf => by cases hf) (fun j342 hj342 v0_342 v1_342 v2_342 v3_342 v5_342 h33 hf => ?_) (fun j342 hj342 hf => ?_)
                              · refine y_iload (pc2 := 344) rfl dX12_back_342 rfl ?_
                                refine y_iconst (v := 3) (pc2 := 345) rfl dX12_back_344 (by decide) ?_
                                refine y_jnE hf (fun j => ∀ (v0_394 : Nat) (v1_394 : Int32) (v2_394 : Int32) (v3_394 : Int32) (h34 : y_H), j v0_394 v1_394 v2_394 v3_394 h34 = some (rz, hz) → y_V l G z rm_X12_back M_X12_back ad0 h (some (.long rz)) hz 394 [(0, y_p v0_394), (1, .int v1_394), (2, .int v2_394), (3, .int v3_394)] [] h34 0 0) (fun v0_394 v1_394 v2_394 v3_394 h34 hf => ?_) (fun j394 hj394 hf => ?_)
                                · refine y_iconst (v := 0) (pc2 := 395) rfl dX12_back_394 (by decide) ?_
                                  refine y_jlE hf (fun j => ∀ (v0_397 : Nat) (v1_397 : Int32) (v2_397 : Int32) (v3_397 : Int32) (v5_397 : Int32) (h35 : y_H), j v0_397 v1_397 v2_397 v3_397 v5_397 h35 = some (rz, hz) → y_V l G z rm_X12_back M_X12_back ad0 h (some (.long rz)) hz 397 [(0, y_p v0_397), (1, .int v1_397), (2, .int v2_397), (3, .int v3_397), (5, .int v5_397)] [] h35 0 0) (fun _ _ _ _ _ _ hf => by cases hf) (fun j397 hj397 v0_397 v1_397 v2_397 v3_397 v5_397 h35 hf => ?_) (fun j397 hj397 hf => ?_)
                                  · refine y_iload (pc2 := 399) rfl dX12_back_397 rfl ?_
                                    refine y_iconst (v := 2) (pc2 := 400) rfl dX12_back_399 (by decide) ?_
                                    refine y_jnE hf (fun j => ∀ (v0_452 : Nat) (v1_452 : Int32) (v2_452 : Int32) (h36 : y_H), j v0_452 v1_452 v2_452 h36 = some (rz, hz) → y_V l G z rm_X12_back M_X12_back ad0 h (some (.long rz)) hz 452 [(0, y_p v0_452), (1, .int v1_452), (2, .int v2_452)] [] h36 0 0) (fun v0_452 v1_452 v2_452 h36 hf => ?_) (fun j452 hj452 hf => ?_)
                                    · refine y_iinc (v := v2_452 + (-1 : Int32)) (lv' := [(2, .int (v2_452 + (-1 : Int32))), (0, y_p v0_452), (1, .int v1_452)]) (pc2 := 455) rfl dX12_back_452 rfl rfl (by decide) rfl ?_
                                      refine y_goto (tgt := 224) dX12_back_455 (by decide) ?_
                                      exact y_pk [1, 2, 0] rfl (hj224 _ _ _ _ hf)
                                    · refine y_icmp_ge (tgt := 452) (pc2 := 403) rfl dX12_back_400 (by decide) (fun c48 => ?_) (fun c48 => ?_)
                                      · replace hf := y_it c48 hf
                                        exact y_pk [0, 1, 2] rfl (hj452 _ _ _ _ hf)
                                      · replace hf := y_ie c48 hf
                                        refine y_aload_n (x := v0_397) (pc2 := 404) rfl dX12_back_403 rfl ?_
                                        obtain ⟨g47, hf⟩ := y_g hf
                                        refine y_getP (pc2 := 407) rfl dX12_back_404 F_BoxYardModel_137 (by decide) rfl g47 ?_
                                        refine y_iload_n (pc2 := 408) rfl dX12_back_407 rfl ?_
                                        refine y_bipush (v := 11) (pc2 := 410) rfl dX12_back_408 (by decide) ?_
                                        refine y_iadd (pc2 := 411) rfl dX12_back_410 ?_
                                        obtain ⟨g46, hf⟩ := y_g hf
                                        refine y_iald (pc2 := 412) rfl dX12_back_411 g46.1 (y_ix_in g46.2) ?_
                                        refine y_if_lt (tgt := 452) (pc2 := 415) rfl dX12_back_412 (by decide) (fun c45 => ?_) (fun c45 => ?_)
                                        · replace hf := y_it c45 hf
                                          exact y_pk [0, 1, 2] rfl (hj452 _ _ _ _ hf)
                                        · replace hf := y_ie c45 hf
                                          refine y_aload_n (x := v0_397) (pc2 := 416) rfl dX12_back_415 rfl ?_
                                          obtain ⟨g44, hf⟩ := y_g hf
                                          refine y_getP (pc2 := 419) rfl dX12_back_416 F_BoxYardModel_228 (by decide) rfl g44 ?_
                                          refine y_iconst (v := 2) (pc2 := 420) rfl dX12_back_419 (by decide) ?_
                                          refine y_aload_n (x := v0_397) (pc2 := 421) rfl dX12_back_420 rfl ?_
                                          obtain ⟨g43, hf⟩ := y_g hf
                                          refine y_getP (pc2 := 424) rfl dX12_back_421 F_BoxYardModel_137 (by decide) rfl g43 ?_
                                          refine y_iload_n (pc2 := 425) rfl dX12_back_424 rfl ?_
                                          refine y_bipush (v := 11) (pc2 := 427) rfl dX12_back_425 (by decide) ?_
                                          refine y_iadd (pc2 := 428) rfl dX12_back_427 ?_
                                          obtain ⟨g42, hf⟩ := y_g hf
                                          refine y_iald (pc2 := 429) rfl dX12_back_428 g42.1 (y_ix_in g42.2) ?_
                                          refine y_imul (pc2 := 430) rfl dX12_back_429 ?_
                                          refine y_iload (pc2 := 432) rfl dX12_back_430 rfl ?_
                                          refine y_iadd (pc2 := 433) rfl dX12_back_432 ?_
                                          refine y_aload_n (x := v0_397) (pc2 := 434) rfl dX12_back_433 rfl ?_
                                          obtain ⟨g41, hf⟩ := y_g hf
                                          refine y_getP (pc2 := 437) rfl dX12_back_434 F_BoxYardModel_137 (by decide) rfl g41 ?_
                                          refine y_iload_n (pc2 := 438) rfl dX12_back_437 rfl ?_
                                          refine y_bipush (v := 12) (pc2 := 440) rfl dX12_back_438 (by decide) ?_
                                          refine y_iadd (pc2 := 441) rfl dX12_back_440 ?_
                                          refine y_iload (pc2 := 443) rfl dX12_back_441 rfl ?_
                                          refine y_iadd (pc2 := 444) rfl dX12_back_443 ?_
                                          obtain ⟨g40, hf⟩ := y_g hf
                                          refine y_iald (pc2 := 445) rfl dX12_back_444 g40.1 (y_ix_in g40.2) ?_
                                          obtain ⟨g39, hf⟩ := y_g hf
                                          obtain ⟨h37, e38, hf⟩ := y_bdE hf
                                          refine y_iast (x := y_I h35 (y_P h35 v0_397 51) (Int32.toNatClampNeg ((v3_397 + 12) + v5_397))) (pc2 := 446) rfl dX12_back_445 g39.1 (y_ix_in g39.2) e38 ?_
                                          refine y_iinc (v := v5_397 + 1) (lv' := [(5, .int (v5_397 + 1)), (0, y_p v0_397), (1, .int v1_397), (2, .int v2_397), (3, .int v3_397)]) (pc2 := 449) rfl dX12_back_446 rfl rfl (by decide) rfl ?_
                                          refine y_goto (tgt := 397) dX12_back_449 (by decide) ?_
                                          exact y_pk [1, 2, 3, 4, 0] rfl (hj397 _ _ _ _ _ _ hf)
                                  · refine y_istore (lv' := [(5, .int 0), (0, y_p v0_394), (1, .int v1_394), (2, .int v2_394), (3, .int v3_394)]) (pc2 := 397) rfl dX12_back_395 (by decide) rfl ?_
                                    exact y_pk [1, 2, 3, 4, 0] rfl (hj397 _ _ _ _ _ _ hf)
                                · refine y_icmp_ge (tgt := 394) (pc2 := 348) rfl dX12_back_345 (by decide) (fun c60 => ?_) (fun c60 => ?_)
                                  · replace hf := y_it c60 hf
                                    exact y_pk [0, 1, 2, 3] rfl (hj394 _ _ _ _ _ hf)
                                  · replace hf := y_ie c60 hf
                                    refine y_aload_n (x := v0_342) (pc2 := 349) rfl dX12_back_348 rfl ?_
                                    obtain ⟨g59, hf⟩ := y_g hf
                                    refine y_getP (pc2 := 352) rfl dX12_back_349 F_BoxYardModel_137 (by decide) rfl g59 ?_
                                    refine y_iload_n (pc2 := 353) rfl dX12_back_352 rfl ?_
                                    refine y_iconst (v := 1) (pc2 := 354) rfl dX12_back_353 (by decide) ?_
                                    refine y_iadd (pc2 := 355) rfl dX12_back_354 ?_
                                    obtain ⟨g58, hf⟩ := y_g hf
                                    refine y_iald (pc2 := 356) rfl dX12_back_355 g58.1 (y_ix_in g58.2) ?_
                                    refine y_if_lt (tgt := 394) (pc2 := 359) rfl dX12_back_356 (by decide) (fun c57 => ?_) (fun c57 => ?_)
                                    · replace hf := y_it c57 hf
                                      exact y_pk [0, 1, 2, 3] rfl (hj394 _ _ _ _ _ hf)
                                    · replace hf := y_ie c57 hf
                                      refine y_aload_n (x := v0_342) (pc2 := 360) rfl dX12_back_359 rfl ?_
                                      obtain ⟨g56, hf⟩ := y_g hf
                                      refine y_getP (pc2 := 363) rfl dX12_back_360 F_BoxYardModel_225 (by decide) rfl g56 ?_
                                      refine y_iconst (v := 3) (pc2 := 364) rfl dX12_back_363 (by decide) ?_
                                      refine y_aload_n (x := v0_342) (pc2 := 365) rfl dX12_back_364 rfl ?_
                                      obtain ⟨g55, hf⟩ := y_g hf
                                      refine y_getP (pc2 := 368) rfl dX12_back_365 F_BoxYardModel_137 (by decide) rfl g55 ?_
                                      refine y_iload_n (pc2 := 369) rfl dX12_back_368 rfl ?_
                                      refine y_iconst (v := 1) (pc2 := 370) rfl dX12_back_369 (by decide) ?_
                                      refine y_iadd (pc2 := 371) rfl dX12_back_370 ?_
                                      obtain ⟨g54, hf⟩ := y_g hf
                                      refine y_iald (pc2 := 372) rfl dX12_back_371 g54.1 (y_ix_in g54.2) ?_
                                      refine y_imul (pc2 := 373) rfl dX12_back_372 ?_
                                      refine y_iload (pc2 := 375) rfl dX12_back_373 rfl ?_
                                      refine y_iadd (pc2 := 376) rfl dX12_back_375 ?_
                                      refine y_aload_n (x := v0_342) (pc2 := 377) rfl dX12_back_376 rfl ?_
                                      obtain ⟨g53, hf⟩ := y_g hf
                                      refine y_getP (pc2 := 380) rfl dX12_back_377 F_BoxYardModel_137 (by decide) rfl g53 ?_
                                      refine y_iload_n (pc2 := 381) rfl dX12_back_380 rfl ?_
                                      refine y_iconst (v := 2) (pc2 := 382) rfl dX12_back_381 (by decide) ?_
                                      refine y_iadd (pc2 := 383) rfl dX12_back_382 ?_
                                      refine y_iload (pc2 := 385) rfl dX12_back_383 rfl ?_
                                      refine y_iadd (pc2 := 386) rfl dX12_back_385 ?_
                                      obtain ⟨g52, hf⟩ := y_g hf
                                      refine y_iald (pc2 := 387) rfl dX12_back_386 g52.1 (y_ix_in g52.2) ?_
                                      obtain ⟨g51, hf⟩ := y_g hf
                                      obtain ⟨h49, e50, hf⟩ := y_bdE hf
                                      refine y_iast (x := y_I h33 (y_P h33 v0_342 51) (Int32.toNatClampNeg ((v3_342 + 2) + v5_342))) (pc2 := 388) rfl dX12_back_387 g51.1 (y_ix_in g51.2) e50 ?_
                                      refine y_iinc (v := v5_342 + 1) (lv' := [(5, .int (v5_342 + 1)), (0, y_p v0_342), (1, .int v1_342), (2, .int v2_342), (3, .int v3_342)]) (pc2 := 391) rfl dX12_back_388 rfl rfl (by decide) rfl ?_
                                      refine y_goto (tgt := 342) dX12_back_391 (by decide) ?_
                                      exact y_pk [1, 2, 3, 4, 0] rfl (hj342 _ _ _ _ _ _ hf)
                              · refine y_istore (lv' := [(5, .int 0), (0, y_p v0_339), (1, .int v1_339), (2, .int v2_339), (3, .int v3_339)]) (pc2 := 342) rfl dX12_back_340 (by decide) rfl ?_
                                exact y_pk [1, 2, 3, 4, 0] rfl (hj342 _ _ _ _ _ _ hf)
                            · refine y_if_lt (tgt := 339) (pc2 := 298) rfl dX12_back_295 (by decide) (fun c75 => ?_) (fun c75 => ?_)
                              · replace hf := y_it c75 hf
                                exact y_pk [0, 1, 2, 3] rfl (hj339 _ _ _ _ _ hf)
                              · replace hf := y_ie c75 hf
                                refine y_aload_n (x := v0_293) (pc2 := 299) rfl dX12_back_298 rfl ?_
                                obtain ⟨g74, hf⟩ := y_g hf
                                refine y_getP (pc2 := 302) rfl dX12_back_299 F_BoxYardModel_222 (by decide) rfl g74 ?_
                                refine y_iconst (v := 5) (pc2 := 303) rfl dX12_back_302 (by decide) ?_
                                refine y_iload (pc2 := 305) rfl dX12_back_303 rfl ?_
                                refine y_imul (pc2 := 306) rfl dX12_back_305 ?_
                                refine y_iconst (v := 4) (pc2 := 307) rfl dX12_back_306 (by decide) ?_
                                refine y_iadd (pc2 := 308) rfl dX12_back_307 ?_
                                refine y_aload_n (x := v0_293) (pc2 := 309) rfl dX12_back_308 rfl ?_
                                obtain ⟨g73, hf⟩ := y_g hf
                                refine y_getP (pc2 := 312) rfl dX12_back_309 F_BoxYardModel_137 (by decide) rfl g73 ?_
                                refine y_iload_n (pc2 := 313) rfl dX12_back_312 rfl ?_
                                refine y_bipush (v := 10) (pc2 := 315) rfl dX12_back_313 (by decide) ?_
                                refine y_iadd (pc2 := 316) rfl dX12_back_315 ?_
                                obtain ⟨g72, hf⟩ := y_g hf
                                refine y_iald (pc2 := 317) rfl dX12_back_316 g72.1 (y_ix_in g72.2) ?_
                                refine y_iconst (v := 1) (pc2 := 318) rfl dX12_back_317 (by decide) ?_
                                refine y_icmp_ne (tgt := 331) (pc2 := 321) rfl dX12_back_318 (by decide) (fun c71 => ?_) (fun c71 => ?_)
                                · replace hf := y_ie c71 hf
                                  refine y_aload_n (x := v0_293) (pc2 := 332) rfl dX12_back_331 rfl ?_
                                  obtain ⟨g65, hf⟩ := y_g hf
                                  refine y_getP (pc2 := 335) rfl dX12_back_332 F_BoxYardModel_13 (by decide) rfl g65 ?_
                                  refine y_iload (pc2 := 337) rfl dX12_back_335 rfl ?_
                                  obtain ⟨g64, hf⟩ := y_g hf
                                  refine y_iald (pc2 := 338) rfl dX12_back_337 g64.1 (y_ix_in g64.2) ?_
                                  obtain ⟨g63, hf⟩ := y_g hf
                                  obtain ⟨h61, e62, hf⟩ := y_bdE hf
                                  refine y_iast (x := y_I h31 (y_P h31 v0_293 2) (Int32.toNatClampNeg v4_293)) (pc2 := 339) rfl dX12_back_338 g63.1 (y_ix_in g63.2) e62 ?_
                                  exact y_pk [0, 1, 2, 3] rfl (hj339 _ _ _ _ _ hf)
                                · replace hf := y_it c71 hf
                                  refine y_aload_n (x := v0_293) (pc2 := 322) rfl dX12_back_321 rfl ?_
                                  obtain ⟨g70, hf⟩ := y_g hf
                                  refine y_getP (pc2 := 325) rfl dX12_back_322 F_BoxYardModel_16 (by decide) rfl g70 ?_
                                  refine y_iload (pc2 := 327) rfl dX12_back_325 rfl ?_
                                  obtain ⟨g69, hf⟩ := y_g hf
                                  refine y_iald (pc2 := 328) rfl dX12_back_327 g69.1 (y_ix_in g69.2) ?_
                                  refine y_goto (tgt := 338) dX12_back_328 (by decide) ?_
                                  obtain ⟨g68, hf⟩ := y_g hf
                                  obtain ⟨h66, e67, hf⟩ := y_bdE hf
                                  refine y_iast (x := y_I h31 (y_P h31 v0_293 3) (Int32.toNatClampNeg v4_293)) (pc2 := 339) rfl dX12_back_338 g68.1 (y_ix_in g68.2) e67 ?_
                                  exact y_pk [0, 1, 2, 3] rfl (hj339 _ _ _ _ _ hf)
                          · refine y_icmp_ge (tgt := 293) (pc2 := 258) rfl dX12_back_255 (by decide) (fun c83 => ?_) (fun c83 => ?_)
                            · replace hf := y_it c83 hf
                              exact y_pk [0, 1, 2, 3, 4] rfl (hj293 _ _ _ _ _ _ hf)
                            · replace hf := y_ie c83 hf
                              refine y_iload (pc2 := 260) rfl dX12_back_258 rfl ?_
                              refine y_if_lt (tgt := 293) (pc2 := 263) rfl dX12_back_260 (by decide) (fun c82 => ?_) (fun c82 => ?_)
                              · replace hf := y_it c82 hf
                                exact y_pk [0, 1, 2, 3, 4] rfl (hj293 _ _ _ _ _ _ hf)
                              · replace hf := y_ie c82 hf
                                refine y_aload_n (x := v0_252) (pc2 := 264) rfl dX12_back_263 rfl ?_
                                obtain ⟨g81, hf⟩ := y_g hf
                                refine y_getP (pc2 := 267) rfl dX12_back_264 F_BoxYardModel_222 (by decide) rfl g81 ?_
                                refine y_iconst (v := 5) (pc2 := 268) rfl dX12_back_267 (by decide) ?_
                                refine y_iload (pc2 := 270) rfl dX12_back_268 rfl ?_
                                refine y_imul (pc2 := 271) rfl dX12_back_270 ?_
                                refine y_iload (pc2 := 273) rfl dX12_back_271 rfl ?_
                                refine y_iadd (pc2 := 274) rfl dX12_back_273 ?_
                                refine y_aload_n (x := v0_252) (pc2 := 275) rfl dX12_back_274 rfl ?_
                                obtain ⟨g80, hf⟩ := y_g hf
                                refine y_getP (pc2 := 278) rfl dX12_back_275 F_BoxYardModel_137 (by decide) rfl g80 ?_
                                refine y_iload_n (pc2 := 279) rfl dX12_back_278 rfl ?_
                                refine y_bipush (v := 6) (pc2 := 281) rfl dX12_back_279 (by decide) ?_
                                refine y_iadd (pc2 := 282) rfl dX12_back_281 ?_
                                refine y_iload (pc2 := 284) rfl dX12_back_282 rfl ?_
                                refine y_iadd (pc2 := 285) rfl dX12_back_284 ?_
                                obtain ⟨g79, hf⟩ := y_g hf
                                refine y_iald (pc2 := 286) rfl dX12_back_285 g79.1 (y_ix_in g79.2) ?_
                                obtain ⟨g78, hf⟩ := y_g hf
                                obtain ⟨h76, e77, hf⟩ := y_bdE hf
                                refine y_iast (x := y_I h30 (y_P h30 v0_252 51) (Int32.toNatClampNeg ((v3_252 + 6) + v5_252))) (pc2 := 287) rfl dX12_back_286 g78.1 (y_ix_in g78.2) e77 ?_
                                refine y_iinc (v := v5_252 + 1) (lv' := [(5, .int (v5_252 + 1)), (0, y_p v0_252), (1, .int v1_252), (2, .int v2_252), (3, .int v3_252), (4, .int v4_252)]) (pc2 := 290) rfl dX12_back_287 rfl rfl (by decide) rfl ?_
                                refine y_goto (tgt := 252) dX12_back_290 (by decide) ?_
                                exact y_pk [1, 2, 3, 4, 5, 0] rfl (hj252 _ _ _ _ _ _ _ hf)
                        · refine y_istore (lv' := [(5, .int 0), (4, .int (y_I h5 (y_P h5 v0_224 51) (Int32.toNatClampNeg ((14 * v2_224) + 5)))), (3, .int (14 * v2_224)), (0, y_p v0_224), (1, .int v1_224), (2, .int v2_224)]) (pc2 := 252) rfl dX12_back_250 (by decide) rfl ?_
                          exact y_pk [3, 4, 5, 2, 1, 0] rfl (hj252 _ _ _ _ _ _ _ hf)
                    · refine y_istore_n (lv' := [(2, .int ((y_I h4 v0_173 50) - 1)), (0, y_p v0_173), (1, .int v1_173)]) (pc2 := 224) rfl dX12_back_223 (by decide) rfl ?_
                      exact y_pk [1, 2, 0] rfl (hj224 _ _ _ _ hf)
                  · replace hf := y_ie c101 hf
                    refine y_aload_n (x := v0_173) (pc2 := 182) rfl dX12_back_181 rfl ?_
                    obtain ⟨g100, hf⟩ := y_g hf
                    refine y_getP (pc2 := 185) rfl dX12_back_182 F_BoxYardModel_228 (by decide) rfl g100 ?_
                    refine y_iconst (v := 2) (pc2 := 186) rfl dX12_back_185 (by decide) ?_
                    refine y_iload_n (pc2 := 187) rfl dX12_back_186 rfl ?_
                    refine y_imul (pc2 := 188) rfl dX12_back_187 ?_
                    refine y_aload_n (x := v0_173) (pc2 := 189) rfl dX12_back_188 rfl ?_
                    obtain ⟨g99, hf⟩ := y_g hf
                    refine y_getP (pc2 := 192) rfl dX12_back_189 F_BoxYardModel_125 (by decide) rfl g99 ?_
                    refine y_iload_n (pc2 := 193) rfl dX12_back_192 rfl ?_
                    obtain ⟨g98, hf⟩ := y_g hf
                    refine y_iald (pc2 := 194) rfl dX12_back_193 g98.1 (y_ix_in g98.2) ?_
                    obtain ⟨g91, hf⟩ := y_g hf
                    obtain ⟨h89, e90, hf⟩ := y_bdE hf
                    refine y_iast (x := y_I h4 (y_P h4 v0_173 43) (Int32.toNatClampNeg v2_173)) (pc2 := 195) rfl dX12_back_194 g91.1 (y_ix_in g91.2) e90 ?_
                    refine y_aload_n (x := v0_173) (pc2 := 196) rfl dX12_back_195 rfl ?_
                    obtain ⟨g97, hf⟩ := y_g hf
                    refine y_getP (pc2 := 199) rfl dX12_back_196 F_BoxYardModel_228 (by decide) rfl g97 ?_
                    refine y_iconst (v := 2) (pc2 := 200) rfl dX12_back_199 (by decide) ?_
                    refine y_iload_n (pc2 := 201) rfl dX12_back_200 rfl ?_
                    refine y_imul (pc2 := 202) rfl dX12_back_201 ?_
                    refine y_iconst (v := 1) (pc2 := 203) rfl dX12_back_202 (by decide) ?_
                    refine y_iadd (pc2 := 204) rfl dX12_back_203 ?_
                    refine y_aload_n (x := v0_173) (pc2 := 205) rfl dX12_back_204 rfl ?_
                    obtain ⟨g96, hf⟩ := y_g hf
                    refine y_getP (pc2 := 208) rfl dX12_back_205 F_BoxYardModel_128 (by decide) rfl g96 ?_
                    refine y_iload_n (pc2 := 209) rfl dX12_back_208 rfl ?_
                    obtain ⟨g95, hf⟩ := y_g hf
                    refine y_iald (pc2 := 210) rfl dX12_back_209 g95.1 (y_ix_in g95.2) ?_
                    obtain ⟨g94, hf⟩ := y_g hf
                    obtain ⟨h92, e93, hf⟩ := y_bdE hf
                    refine y_iast (x := y_I h89 (y_P h89 v0_173 44) (Int32.toNatClampNeg v2_173)) (pc2 := 211) rfl dX12_back_210 g94.1 (y_ix_in g94.2) e93 ?_
                    refine y_iinc (v := v2_173 + 1) (lv' := [(2, .int (v2_173 + 1)), (0, y_p v0_173), (1, .int v1_173)]) (pc2 := 214) rfl dX12_back_211 rfl rfl (by decide) rfl ?_
                    refine y_goto (tgt := 173) dX12_back_214 (by decide) ?_
                    exact y_pk [1, 2, 0] rfl (hj173 _ _ _ _ hf)
                · refine y_istore_n (lv' := [(2, .int 0), (0, y_p v0_111), (1, .int v1_111)]) (pc2 := 173) rfl dX12_back_172 (by decide) rfl ?_
                  exact y_pk [1, 2, 0] rfl (hj173 _ _ _ _ hf)
              · replace hf := y_ie c121 hf
                refine y_aload_n (x := v0_111) (pc2 := 120) rfl dX12_back_119 rfl ?_
                obtain ⟨g120, hf⟩ := y_g hf
                refine y_getP (pc2 := 123) rfl dX12_back_120 F_BoxYardModel_225 (by decide) rfl g120 ?_
                refine y_iconst (v := 3) (pc2 := 124) rfl dX12_back_123 (by decide) ?_
                refine y_iload_n (pc2 := 125) rfl dX12_back_124 rfl ?_
                refine y_imul (pc2 := 126) rfl dX12_back_125 ?_
                refine y_aload_n (x := v0_111) (pc2 := 127) rfl dX12_back_126 rfl ?_
                obtain ⟨g119, hf⟩ := y_g hf
                refine y_getP (pc2 := 130) rfl dX12_back_127 F_BoxYardModel_86 (by decide) rfl g119 ?_
                refine y_iload_n (pc2 := 131) rfl dX12_back_130 rfl ?_
                obtain ⟨g118, hf⟩ := y_g hf
                refine y_iald (pc2 := 132) rfl dX12_back_131 g118.1 (y_ix_in g118.2) ?_
                obtain ⟨g105, hf⟩ := y_g hf
                obtain ⟨h103, e104, hf⟩ := y_bdE hf
                refine y_iast (x := y_I h3 (y_P h3 v0_111 28) (Int32.toNatClampNeg v2_111)) (pc2 := 133) rfl dX12_back_132 g105.1 (y_ix_in g105.2) e104 ?_
                refine y_aload_n (x := v0_111) (pc2 := 134) rfl dX12_back_133 rfl ?_
                obtain ⟨g117, hf⟩ := y_g hf
                refine y_getP (pc2 := 137) rfl dX12_back_134 F_BoxYardModel_225 (by decide) rfl g117 ?_
                refine y_iconst (v := 3) (pc2 := 138) rfl dX12_back_137 (by decide) ?_
                refine y_iload_n (pc2 := 139) rfl dX12_back_138 rfl ?_
                refine y_imul (pc2 := 140) rfl dX12_back_139 ?_
                refine y_iconst (v := 1) (pc2 := 141) rfl dX12_back_140 (by decide) ?_
                refine y_iadd (pc2 := 142) rfl dX12_back_141 ?_
                refine y_aload_n (x := v0_111) (pc2 := 143) rfl dX12_back_142 rfl ?_
                obtain ⟨g116, hf⟩ := y_g hf
                refine y_getP (pc2 := 146) rfl dX12_back_143 F_BoxYardModel_89 (by decide) rfl g116 ?_
                refine y_iload_n (pc2 := 147) rfl dX12_back_146 rfl ?_
                obtain ⟨g115, hf⟩ := y_g hf
                refine y_iald (pc2 := 148) rfl dX12_back_147 g115.1 (y_ix_in g115.2) ?_
                obtain ⟨g108, hf⟩ := y_g hf
                obtain ⟨h106, e107, hf⟩ := y_bdE hf
                refine y_iast (x := y_I h103 (y_P h103 v0_111 29) (Int32.toNatClampNeg v2_111)) (pc2 := 149) rfl dX12_back_148 g108.1 (y_ix_in g108.2) e107 ?_
                refine y_aload_n (x := v0_111) (pc2 := 150) rfl dX12_back_149 rfl ?_
                obtain ⟨g114, hf⟩ := y_g hf
                refine y_getP (pc2 := 153) rfl dX12_back_150 F_BoxYardModel_225 (by decide) rfl g114 ?_
                refine y_iconst (v := 3) (pc2 := 154) rfl dX12_back_153 (by decide) ?_
                refine y_iload_n (pc2 := 155) rfl dX12_back_154 rfl ?_
                refine y_imul (pc2 := 156) rfl dX12_back_155 ?_
                refine y_iconst (v := 2) (pc2 := 157) rfl dX12_back_156 (by decide) ?_
                refine y_iadd (pc2 := 158) rfl dX12_back_157 ?_
                refine y_aload_n (x := v0_111) (pc2 := 159) rfl dX12_back_158 rfl ?_
                obtain ⟨g113, hf⟩ := y_g hf
                refine y_getP (pc2 := 162) rfl dX12_back_159 F_BoxYardModel_92 (by decide) rfl g113 ?_
                refine y_iload_n (pc2 := 163) rfl dX12_back_162 rfl ?_
                obtain ⟨g112, hf⟩ := y_g hf
                refine y_iald (pc2 := 164) rfl dX12_back_163 g112.1 (y_ix_in g112.2) ?_
                obtain ⟨g111, hf⟩ := y_g hf
                obtain ⟨h109, e110, hf⟩ := y_bdE hf
                refine y_iast (x := y_I h106 (y_P h106 v0_111 30) (Int32.toNatClampNeg v2_111)) (pc2 := 165) rfl dX12_back_164 g111.1 (y_ix_in g111.2) e110 ?_
                refine y_iinc (v := v2_111 + 1) (lv' := [(2, .int (v2_111 + 1)), (0, y_p v0_111), (1, .int v1_111)]) (pc2 := 168) rfl dX12_back_165 rfl rfl (by decide) rfl ?_
                refine y_goto (tgt := 111) dX12_back_168 (by decide) ?_
                exact y_pk [1, 2, 0] rfl (hj111 _ _ _ _ hf)
            · refine y_istore_n (lv' := [(2, .int 0), (0, y_p v0_18), (1, .int v1_18)]) (pc2 := 111) rfl dX12_back_110 (by decide) rfl ?_
              exact y_pk [1, 2, 0] rfl (hj111 _ _ _ _ hf)
          · replace hf := y_ie c155 hf
            refine y_aload_n (x := v0_18) (pc2 := 27) rfl dX12_back_26 rfl ?_
            obtain ⟨g154, hf⟩ := y_g hf
            refine y_getP (pc2 := 30) rfl dX12_back_27 F_BoxYardModel_222 (by decide) rfl g154 ?_
            refine y_iconst (v := 5) (pc2 := 31) rfl dX12_back_30 (by decide) ?_
            refine y_iload_n (pc2 := 32) rfl dX12_back_31 rfl ?_
            refine y_imul (pc2 := 33) rfl dX12_back_32 ?_
            refine y_aload_n (x := v0_18) (pc2 := 34) rfl dX12_back_33 rfl ?_
            obtain ⟨g153, hf⟩ := y_g hf
            refine y_getP (pc2 := 37) rfl dX12_back_34 F_BoxYardModel_29 (by decide) rfl g153 ?_
            refine y_iload_n (pc2 := 38) rfl dX12_back_37 rfl ?_
            obtain ⟨g152, hf⟩ := y_g hf
            refine y_iald (pc2 := 39) rfl dX12_back_38 g152.1 (y_ix_in g152.2) ?_
            obtain ⟨g125, hf⟩ := y_g hf
            obtain ⟨h123, e124, hf⟩ := y_bdE hf
            refine y_iast (x := y_I h2 (y_P h2 v0_18 7) (Int32.toNatClampNeg v2_18)) (pc2 := 40) rfl dX12_back_39 g125.1 (y_ix_in g125.2) e124 ?_
            refine y_aload_n (x := v0_18) (pc2 := 41) rfl dX12_back_40 rfl ?_
            obtain ⟨g151, hf⟩ := y_g hf
            refine y_getP (pc2 := 44) rfl dX12_back_41 F_BoxYardModel_222 (by decide) rfl g151 ?_
            refine y_iconst (v := 5) (pc2 := 45) rfl dX12_back_44 (by decide) ?_
            refine y_iload_n (pc2 := 46) rfl dX12_back_45 rfl ?_
            refine y_imul (pc2 := 47) rfl dX12_back_46 ?_
            refine y_iconst (v := 1) (pc2 := 48) rfl dX12_back_47 (by decide) ?_
            refine y_iadd (pc2 := 49) rfl dX12_back_48 ?_
            refine y_aload_n (x := v0_18) (pc2 := 50) rfl dX12_back_49 rfl ?_
            obtain ⟨g150, hf⟩ := y_g hf
            refine y_getP (pc2 := 53) rfl dX12_back_50 F_BoxYardModel_32 (by decide) rfl g150 ?_
            refine y_iload_n (pc2 := 54) rfl dX12_back_53 rfl ?_
            obtain ⟨g149, hf⟩ := y_g hf
            refine y_iald (pc2 := 55) rfl dX12_back_54 g149.1 (y_ix_in g149.2) ?_
            obtain ⟨g128, hf⟩ := y_g hf
            obtain ⟨h126, e127, hf⟩ := y_bdE hf
            refine y_iast (x := y_I h123 (y_P h123 v0_18 8) (Int32.toNatClampNeg v2_18)) (pc2 := 56) rfl dX12_back_55 g128.1 (y_ix_in g128.2) e127 ?_
            refine y_aload_n (x := v0_18) (pc2 := 57) rfl dX12_back_56 rfl ?_
            obtain ⟨g148, hf⟩ := y_g hf
            refine y_getP (pc2 := 60) rfl dX12_back_57 F_BoxYardModel_222 (by decide) rfl g148 ?_
            refine y_iconst (v := 5) (pc2 := 61) rfl dX12_back_60 (by decide) ?_
            refine y_iload_n (pc2 := 62) rfl dX12_back_61 rfl ?_
            refine y_imul (pc2 := 63) rfl dX12_back_62 ?_
            refine y_iconst (v := 2) (pc2 := 64) rfl dX12_back_63 (by decide) ?_
            refine y_iadd (pc2 := 65) rfl dX12_back_64 ?_
            refine y_aload_n (x := v0_18) (pc2 := 66) rfl dX12_back_65 rfl ?_
            obtain ⟨g147, hf⟩ := y_g hf
            refine y_getP (pc2 := 69) rfl dX12_back_66 F_BoxYardModel_35 (by decide) rfl g147 ?_
            refine y_iload_n (pc2 := 70) rfl dX12_back_69 rfl ?_
            obtain ⟨g146, hf⟩ := y_g hf
            refine y_iald (pc2 := 71) rfl dX12_back_70 g146.1 (y_ix_in g146.2) ?_
            obtain ⟨g131, hf⟩ := y_g hf
            obtain ⟨h129, e130, hf⟩ := y_bdE hf
            refine y_iast (x := y_I h126 (y_P h126 v0_18 9) (Int32.toNatClampNeg v2_18)) (pc2 := 72) rfl dX12_back_71 g131.1 (y_ix_in g131.2) e130 ?_
            refine y_aload_n (x := v0_18) (pc2 := 73) rfl dX12_back_72 rfl ?_
            obtain ⟨g145, hf⟩ := y_g hf
            refine y_getP (pc2 := 76) rfl dX12_back_73 F_BoxYardModel_222 (by decide) rfl g145 ?_
            refine y_iconst (v := 5) (pc2 := 77) rfl dX12_back_76 (by decide) ?_
            refine y_iload_n (pc2 := 78) rfl dX12_back_77 rfl ?_
            refine y_imul (pc2 := 79) rfl dX12_back_78 ?_
            refine y_iconst (v := 3) (pc2 := 80) rfl dX12_back_79 (by decide) ?_
            refine y_iadd (pc2 := 81) rfl dX12_back_80 ?_
            refine y_aload_n (x := v0_18) (pc2 := 82) rfl dX12_back_81 rfl ?_
            obtain ⟨g144, hf⟩ := y_g hf
            refine y_getP (pc2 := 85) rfl dX12_back_82 F_BoxYardModel_38 (by decide) rfl g144 ?_
            refine y_iload_n (pc2 := 86) rfl dX12_back_85 rfl ?_
            obtain ⟨g143, hf⟩ := y_g hf
            refine y_iald (pc2 := 87) rfl dX12_back_86 g143.1 (y_ix_in g143.2) ?_
            obtain ⟨g134, hf⟩ := y_g hf
            obtain ⟨h132, e133, hf⟩ := y_bdE hf
            refine y_iast (x := y_I h129 (y_P h129 v0_18 10) (Int32.toNatClampNeg v2_18)) (pc2 := 88) rfl dX12_back_87 g134.1 (y_ix_in g134.2) e133 ?_
            refine y_aload_n (x := v0_18) (pc2 := 89) rfl dX12_back_88 rfl ?_
            obtain ⟨g142, hf⟩ := y_g hf
            refine y_getP (pc2 := 92) rfl dX12_back_89 F_BoxYardModel_222 (by decide) rfl g142 ?_
            refine y_iconst (v := 5) (pc2 := 93) rfl dX12_back_92 (by decide) ?_
            refine y_iload_n (pc2 := 94) rfl dX12_back_93 rfl ?_
            refine y_imul (pc2 := 95) rfl dX12_back_94 ?_
            refine y_iconst (v := 4) (pc2 := 96) rfl dX12_back_95 (by decide) ?_
            refine y_iadd (pc2 := 97) rfl dX12_back_96 ?_
            refine y_aload_n (x := v0_18) (pc2 := 98) rfl dX12_back_97 rfl ?_
            refine y_iload_n (pc2 := 99) rfl dX12_back_98 rfl ?_
            obtain ⟨g141, hf⟩ := y_g hf
            obtain ⟨r135, h136, c137, hf⟩ := y_clE hf
            refine y_callV (As := [.int v2_18]) (rm := rm_X12_known) (cells := 0) (slots := 0) (pc2 := 102) rfl dX12_back_99 n_X12_known l_BoxYardModel_290 i_X12_known e_X12_known (ci := 12) rfl rfl (by decide) g141 rfl rfl (by decide) (by simp [y_ci, y_cj, y_p_cat]) (by decide) (k_X12_known c137) ?_
            obtain ⟨g140, hf⟩ := y_g hf
            obtain ⟨h138, e139, hf⟩ := y_bdE hf
            refine y_iast (x := r135) (pc2 := 103) rfl dX12_back_102 g140.1 (y_ix_in g140.2) e139 ?_
            refine y_iinc (v := v2_18 + 1) (lv' := [(2, .int (v2_18 + 1)), (0, y_p v0_18), (1, .int v1_18)]) (pc2 := 106) rfl dX12_back_103 rfl rfl (by decide) rfl ?_
            refine y_goto (tgt := 18) dX12_back_106 (by decide) ?_
            exact y_pk [1, 2, 0] rfl (hj18 _ _ _ _ hf)
        · refine y_istore_n (lv' := [(2, .int 0), (0, y_p p0), (1, .int p1)]) (pc2 := 18) rfl dX12_back_17 (by decide) rfl ?_
          exact y_pk [1, 2, 0] rfl (hj18 _ _ _ _ hf)
      · replace hf := y_ie c157 hf
        exact y_pk [] rfl (hj12 _ hf)
theorem dX12_count_0 : decode cX12_count 0 = .ok (.iconst 0, 1) := by decide +kernel
theorem dX12_count_1 : decode cX12_count 1 = .ok (.istore_n 2, 1) := by decide +kernel
theorem dX12_count_2 : decode cX12_count 2 = .ok (.iload_n 1, 1) := by decide +kernel
theorem dX12_count_3 : decode cX12_count 3 = .ok (.tableswitch 141 0 10 #[57, 62, 67, 72, 77, 82, 116, 121, 126, 131, 136], 57) := by decide +kernel
theorem dX12_count_60 : decode cX12_count 60 = .ok (.aload_n 0, 1) := by decide +kernel
theorem dX12_count_61 : decode cX12_count 61 = .ok (.getfield 234, 3) := by decide +kernel
theorem dX12_count_64 : decode cX12_count 64 = .ok (.ireturn, 1) := by decide +kernel
theorem dX12_count_65 : decode cX12_count 65 = .ok (.aload_n 0, 1) := by decide +kernel
theorem dX12_count_66 : decode cX12_count 66 = .ok (.getfield 240, 3) := by decide +kernel
theorem dX12_count_69 : decode cX12_count 69 = .ok (.ireturn, 1) := by decide +kernel
theorem dX12_count_70 : decode cX12_count 70 = .ok (.aload_n 0, 1) := by decide +kernel
theorem dX12_count_71 : decode cX12_count 71 = .ok (.getfield 246, 3) := by decide +kernel
theorem dX12_count_74 : decode cX12_count 74 = .ok (.ireturn, 1) := by decide +kernel
theorem dX12_count_75 : decode cX12_count 75 = .ok (.aload_n 0, 1) := by decide +kernel
theorem dX12_count_76 : decode cX12_count 76 = .ok (.getfield 255, 3) := by decide +kernel
theorem dX12_count_79 : decode cX12_count 79 = .ok (.ireturn, 1) := by decide +kernel
theorem dX12_count_80 : decode cX12_count 80 = .ok (.aload_n 0, 1) := by decide +kernel
theorem dX12_count_81 : decode cX12_count 81 = .ok (.getfield 342, 3) := by decide +kernel
theorem dX12_count_84 : decode cX12_count 84 = .ok (.ireturn, 1) := by decide +kernel
theorem dX12_count_85 : decode cX12_count 85 = .ok (.iconst 0, 1) := by decide +kernel
theorem dX12_count_86 : decode cX12_count 86 = .ok (.istore_n 3, 1) := by decide +kernel
theorem dX12_count_87 : decode cX12_count 87 = .ok (.iload_n 3, 1) := by decide +kernel
theorem dX12_count_88 : decode cX12_count 88 = .ok (.aload_n 0, 1) := by decide +kernel
theorem dX12_count_89 : decode cX12_count 89 = .ok (.getfield 234, 3) := by decide +kernel
theorem dX12_count_92 : decode cX12_count 92 = .ok (.if_icmp .ge 25, 3) := by decide +kernel
theorem dX12_count_95 : decode cX12_count 95 = .ok (.iload_n 2, 1) := by decide +kernel
theorem dX12_count_96 : decode cX12_count 96 = .ok (.aload_n 0, 1) := by decide +kernel
theorem dX12_count_97 : decode cX12_count 97 = .ok (.iload_n 3, 1) := by decide +kernel
theorem dX12_count_98 : decode cX12_count 98 = .ok (.invokevirtual 316, 3) := by decide +kernel
theorem dX12_count_101 : decode cX12_count 101 = .ok (.ifCond .eq 7, 3) := by decide +kernel
theorem dX12_count_104 : decode cX12_count 104 = .ok (.iconst 1, 1) := by decide +kernel
theorem dX12_count_105 : decode cX12_count 105 = .ok (.goto 4, 3) := by decide +kernel
theorem dX12_count_108 : decode cX12_count 108 = .ok (.iconst 0, 1) := by decide +kernel
theorem dX12_count_109 : decode cX12_count 109 = .ok (.iadd, 1) := by decide +kernel
theorem dX12_count_110 : decode cX12_count 110 = .ok (.istore_n 2, 1) := by decide +kernel
theorem dX12_count_111 : decode cX12_count 111 = .ok (.iinc 3 1, 3) := by decide +kernel
theorem dX12_count_114 : decode cX12_count 114 = .ok (.goto (-27), 3) := by decide +kernel
theorem dX12_count_117 : decode cX12_count 117 = .ok (.iload_n 2, 1) := by decide +kernel
theorem dX12_count_118 : decode cX12_count 118 = .ok (.ireturn, 1) := by decide +kernel
theorem dX12_count_119 : decode cX12_count 119 = .ok (.aload_n 0, 1) := by decide +kernel
theorem dX12_count_120 : decode cX12_count 120 = .ok (.getfield 267, 3) := by decide +kernel
theorem dX12_count_123 : decode cX12_count 123 = .ok (.ireturn, 1) := by decide +kernel
theorem dX12_count_124 : decode cX12_count 124 = .ok (.aload_n 0, 1) := by decide +kernel
theorem dX12_count_125 : decode cX12_count 125 = .ok (.getfield 249, 3) := by decide +kernel
theorem dX12_count_128 : decode cX12_count 128 = .ok (.ireturn, 1) := by decide +kernel
theorem dX12_count_129 : decode cX12_count 129 = .ok (.aload_n 0, 1) := by decide +kernel
theorem dX12_count_130 : decode cX12_count 130 = .ok (.getfield 264, 3) := by decide +kernel
theorem dX12_count_133 : decode cX12_count 133 = .ok (.ireturn, 1) := by decide +kernel
theorem dX12_count_134 : decode cX12_count 134 = .ok (.aload_n 0, 1) := by decide +kernel
theorem dX12_count_135 : decode cX12_count 135 = .ok (.getfield 243, 3) := by decide +kernel
theorem dX12_count_138 : decode cX12_count 138 = .ok (.ireturn, 1) := by decide +kernel
theorem dX12_count_139 : decode cX12_count 139 = .ok (.aload_n 0, 1) := by decide +kernel
theorem dX12_count_140 : decode cX12_count 140 = .ok (.getfield 258, 3) := by decide +kernel
theorem dX12_count_143 : decode cX12_count 143 = .ok (.ireturn, 1) := by decide +kernel
theorem dX12_count_144 : decode cX12_count 144 = .ok (.bipush (-2), 2) := by decide +kernel
theorem dX12_count_146 : decode cX12_count 146 = .ok (.ireturn, 1) := by decide +kernel
def M_X12_count : y_M := (yX12_count, cX12_count, 4, (Option.some Jvm.ClassFile.FieldType.int))
theorem n_X12_count : y_N0 M_X12_count 1 := ⟨(c_10 158 (by decide +kernel) rfl), (c_1 9 (by decide +kernel) rfl), ⟨by decide +kernel, by decide +kernel⟩, by decide +kernel⟩
set_option maxRecDepth 100000 in
def f_X12_count (p0 : Nat) (p1 : Int32) (h : y_H) : Option (Int32 × y_H) :=
  if p1 = 0 then
    if y_K h p0 = 13 then
    some (y_I h p0 0, h)
    else none
  else
  if p1 = 1 then
    if y_K h p0 = 13 then
    some (y_I h p0 25, h)
    else none
  else
  if p1 = 2 then
    if y_K h p0 = 13 then
    some (y_I h p0 34, h)
    else none
  else
  if p1 = 3 then
    if y_K h p0 = 13 then
    some (y_I h p0 50, h)
    else none
  else
  if p1 = 4 then
    if y_K h p0 = 13 then
    some (y_I h p0 49, h)
    else none
  else
  if p1 = 5 then
    y_jl (fun (_ : Nat) (_ : Int32) (_ : Int32) (_ : y_H) => (none : Option (Int32 × y_H))) (fun j87 (v0_87 : Nat) (v2_87 : Int32) (v3_87 : Int32) (h12 : y_H) =>
        if y_K h12 v0_87 = 13 then
        if (y_I h12 v0_87 0) ≤ v3_87 then
          some (v2_87, h12)
        else
          if y_K h12 v0_87 = 13 then
          y_cl (f_X12_isWrong v0_87 v3_87 h12) (fun r13 h14 =>
          if r13 = true then
            j87 v0_87 (v2_87 + 1) (v3_87 + 1) h14
          else
            j87 v0_87 (v2_87 + 0) (v3_87 + 1) h14)
          else none
        else none) (fun j87 =>
    j87 p0 0 0 h)
  else
  if p1 = 6 then
    if y_K h p0 = 13 then
    some (y_I h p0 72, h)
    else none
  else
  if p1 = 7 then
    if y_K h p0 = 13 then
    some (y_I h p0 46, h)
    else none
  else
  if p1 = 8 then
    if y_K h p0 = 13 then
    some (y_I h p0 58, h)
    else none
  else
  if p1 = 9 then
    if y_K h p0 = 13 then
    some (y_I h p0 33, h)
    else none
  else
  if p1 = 10 then
    if y_K h p0 = 13 then
    some (y_I h p0 55, h)
    else none
  else
  some ((-2 : Int32), h)
abbrev rm_X12_count : Room := { frames := 1, cells := 0, slots := 0, locals := 21 }
set_option maxRecDepth 100000 in
set_option maxHeartbeats 4000000 in
theorem k_X12_count {l : Launch} {G : y_G} {p0 : Nat} {p1 : Int32} {h hz : y_H} {rz : Int32} (hf : f_X12_count p0 p1 h = some (rz, hz)) : y_S l G M_X12_count rm_X12_count [y_p p0, .int p1] h (some (.int rz)) hz := by
  refine y_start (lv := [(0, y_p p0), (1, .int p1)]) (by decide) (by simp [lg_sl, y_p_cat, y_ci, y_cj, M_X12_count]) (by simp [lv_args, y_p_cat, y_ci, y_cj]) (fun z ad0 => ?_)
  unfold f_X12_count at hf
  refine y_iconst (v := 0) (pc2 := 1) rfl dX12_count_0 (by decide) ?_
  refine y_istore_n (lv' := [(2, .int 0), (0, y_p p0), (1, .int p1)]) (pc2 := 2) rfl dX12_count_1 (by decide) rfl ?_
  refine y_iload_n (pc2 := 3) rfl dX12_count_2 rfl ?_
  by_cases c1 : p1 = 0
  · replace hf := y_it c1 hf
    refine y_table (off := 57) (tgt := 60) dX12_count_3 (by (rw [c1]) <;> decide) (by decide) ?_
    refine y_aload_n (x := p0) (pc2 := 61) rfl dX12_count_60 rfl ?_
    obtain ⟨g2, hf⟩ := y_g hf
    refine y_getI (pc2 := 64) rfl dX12_count_61 F_BoxYardModel_234 (by decide) rfl g2 ?_
    exact y_iretF hf dX12_count_64 rfl (by decide) (by decide)
  · replace hf := y_ie c1 hf
    by_cases c3 : p1 = 1
    · replace hf := y_it c3 hf
      refine y_table (off := 62) (tgt := 65) dX12_count_3 (by (rw [c3]) <;> decide) (by decide) ?_
      refine y_aload_n (x := p0) (pc2 := 66) rfl dX12_count_65 rfl ?_
      obtain ⟨g4, hf⟩ := y_g hf
      refine y_getI (pc2 := 69) rfl dX12_count_66 F_BoxYardModel_240 (by decide) rfl g4 ?_
      exact y_iretF hf dX12_count_69 rfl (by decide) (by decide)
    · replace hf := y_ie c3 hf
      by_cases c5 : p1 = 2
      · replace hf := y_it c5 hf
        refine y_table (off := 67) (tgt := 70) dX12_count_3 (by (rw [c5]) <;> decide) (by decide) ?_
        refine y_aload_n (x := p0) (pc2 := 71) rfl dX12_count_70 rfl ?_
        obtain ⟨g6, hf⟩ := y_g hf
        refine y_getI (pc2 := 74) rfl dX12_count_71 F_BoxYardModel_246 (by decide) rfl g6 ?_
        exact y_iretF hf dX12_count_74 rfl (by decide) (by decide)
      · replace hf := y_ie c5 hf
        by_cases c7 : p1 = 3
        · replace hf := y_it c7 hf
          refine y_table (off := 72) (tgt := 75) dX12_count_3 (by (rw [c7]) <;> decide) (by decide) ?_
          refine y_aload_n (x := p0) (pc2 := 76) rfl dX12_count_75 rfl ?_
          obtain ⟨g8, hf⟩ := y_g hf
          refine y_getI (pc2 := 79) rfl dX12_count_76 F_BoxYardModel_255 (by decide) rfl g8 ?_
          exact y_iretF hf dX12_count_79 rfl (by decide) (by decide)
        · replace hf := y_ie c7 hf
          by_cases c9 : p1 = 4
          · replace hf := y_it c9 hf
            refine y_table (off := 77) (tgt := 80) dX12_count_3 (by (rw [c9]) <;> decide) (by decide) ?_
            refine y_aload_n (x := p0) (pc2 := 81) rfl dX12_count_80 rfl ?_
            obtain ⟨g10, hf⟩ := y_g hf
            refine y_getI (pc2 := 84) rfl dX12_count_81 F_BoxYardModel_342 (by decide) rfl g10 ?_
            exact y_iretF hf dX12_count_84 rfl (by decide) (by decide)
          · replace hf := y_ie c9 hf
            by_cases c11 : p1 = 5
            · replace hf := y_it c11 hf
              refine y_table (off := 82) (tgt := 85) dX12_count_3 (by (rw [c11]) <;> decide) (by decide) ?_
              refine y_iconst (v := 0) (pc2 := 86) rfl dX12_count_85 (by decide) ?_
              refine y_jlE hf (fun j => ∀ (v0_87 : Nat) (v2_87 : Int32) (v3_87 : Int32) (h12 : y_H), j v0_87 v2_87 v3_87 h12 = some (rz, hz) → y_V l G z rm_X12_count M_X12_count ad0 h (some (.int rz)) hz 87 [(0, y_p v0_87), (2, .int v2_87), (3, .int v3_87)] [] h12 0 0) (fun _ _ _ _ hf => by cases hf) (fun j87 hj87 v0_87 v2_87 v3_87 h12 hf => ?_) (fun j87 hj87 hf => ?_)
              · refine y_iload_n (pc2 := 88) rfl dX12_count_87 rfl ?_
                refine y_aload_n (x := v0_87) (pc2 := 89) rfl dX12_count_88 rfl ?_
                obtain ⟨g19, hf⟩ := y_g hf
                refine y_getI (pc2 := 92) rfl dX12_count_89 F_BoxYardModel_234 (by decide) rfl g19 ?_
                refine y_icmp_ge (tgt := 117) (pc2 := 95) rfl dX12_count_92 (by decide) (fun c18 => ?_) (fun c18 => ?_)
                · replace hf := y_it c18 hf
                  refine y_iload_n (pc2 := 118) rfl dX12_count_117 rfl ?_
                  exact y_iretF hf dX12_count_118 rfl (by decide) (by decide)
                · replace hf := y_ie c18 hf
                  refine y_iload_n (pc2 := 96) rfl dX12_count_95 rfl ?_
                  refine y_aload_n (x := v0_87) (pc2 := 97) rfl dX12_count_96 rfl ?_
                  refine y_iload_n (pc2 := 98) rfl dX12_count_97 rfl ?_
                  obtain ⟨g17, hf⟩ := y_g hf
                  obtain ⟨r13, h14, c15, hf⟩ := y_clE hf
                  refine y_callV (As := [.int v3_87]) (rm := rm_X12_isWrong) (cells := 0) (slots := 0) (pc2 := 101) rfl dX12_count_98 n_X12_isWrong l_BoxYardModel_316 i_X12_isWrong e_X12_isWrong (ci := 12) rfl rfl (by decide) g17 rfl rfl (by decide) (by simp [y_ci, y_cj, y_p_cat]) (by decide) (k_X12_isWrong c15) ?_
                  refine y_ifz_eq (tgt := 108) (pc2 := 104) rfl dX12_count_101 (by decide) (fun c16 => ?_) (fun c16 => ?_)
                  · replace hf := y_ie c16 hf
                    refine y_iconst (v := 0) (pc2 := 109) rfl dX12_count_108 (by decide) ?_
                    refine y_iadd (pc2 := 110) rfl dX12_count_109 ?_
                    refine y_istore_n (lv' := [(2, .int (v2_87 + 0)), (0, y_p v0_87), (3, .int v3_87)]) (pc2 := 111) rfl dX12_count_110 (by decide) rfl ?_
                    refine y_iinc (v := v3_87 + 1) (lv' := [(3, .int (v3_87 + 1)), (2, .int (v2_87 + 0)), (0, y_p v0_87)]) (pc2 := 114) rfl dX12_count_111 rfl rfl (by decide) rfl ?_
                    refine y_goto (tgt := 87) dX12_count_114 (by decide) ?_
                    exact y_pk [2, 1, 0] rfl (hj87 _ _ _ _ hf)
                  · replace hf := y_it c16 hf
                    refine y_iconst (v := 1) (pc2 := 105) rfl dX12_count_104 (by decide) ?_
                    refine y_goto (tgt := 109) dX12_count_105 (by decide) ?_
                    refine y_iadd (pc2 := 110) rfl dX12_count_109 ?_
                    refine y_istore_n (lv' := [(2, .int (v2_87 + 1)), (0, y_p v0_87), (3, .int v3_87)]) (pc2 := 111) rfl dX12_count_110 (by decide) rfl ?_
                    refine y_iinc (v := v3_87 + 1) (lv' := [(3, .int (v3_87 + 1)), (2, .int (v2_87 + 1)), (0, y_p v0_87)]) (pc2 := 114) rfl dX12_count_111 rfl rfl (by decide) rfl ?_
                    refine y_goto (tgt := 87) dX12_count_114 (by decide) ?_
                    exact y_pk [2, 1, 0] rfl (hj87 _ _ _ _ hf)
              · refine y_istore_n (lv' := [(3, .int 0), (2, .int 0), (0, y_p p0), (1, .int p1)]) (pc2 := 87) rfl dX12_count_86 (by decide) rfl ?_
                exact y_pk [2, 1, 0] rfl (hj87 _ _ _ _ hf)
            · replace hf := y_ie c11 hf
              by_cases c20 : p1 = 6
              · replace hf := y_it c20 hf
                refine y_table (off := 116) (tgt := 119) dX12_count_3 (by (rw [c20]) <;> decide) (by decide) ?_
                refine y_aload_n (x := p0) (pc2 := 120) rfl dX12_count_119 rfl ?_
                obtain ⟨g21, hf⟩ := y_g hf
                refine y_getI (pc2 := 123) rfl dX12_count_120 F_BoxYardModel_267 (by decide) rfl g21 ?_
                exact y_iretF hf dX12_count_123 rfl (by decide) (by decide)
              · replace hf := y_ie c20 hf
                by_cases c22 : p1 = 7
                · replace hf := y_it c22 hf
                  refine y_table (off := 121) (tgt := 124) dX12_count_3 (by (rw [c22]) <;> decide) (by decide) ?_
                  refine y_aload_n (x := p0) (pc2 := 125) rfl dX12_count_124 rfl ?_
                  obtain ⟨g23, hf⟩ := y_g hf
                  refine y_getI (pc2 := 128) rfl dX12_count_125 F_BoxYardModel_249 (by decide) rfl g23 ?_
                  exact y_iretF hf dX12_count_128 rfl (by decide) (by decide)
                · replace hf := y_ie c22 hf
                  by_cases c24 : p1 = 8
                  · replace hf := y_it c24 hf
                    refine y_table (off := 126) (tgt := 129) dX12_count_3 (by (rw [c24]) <;> decide) (by decide) ?_
                    refine y_aload_n (x := p0) (pc2 := 130) rfl dX12_count_129 rfl ?_
                    obtain ⟨g25, hf⟩ := y_g hf
                    refine y_getI (pc2 := 133) rfl dX12_count_130 F_BoxYardModel_264 (by decide) rfl g25 ?_
                    exact y_iretF hf dX12_count_133 rfl (by decide) (by decide)
                  · replace hf := y_ie c24 hf
                    by_cases c26 : p1 = 9
                    · replace hf := y_it c26 hf
                      refine y_table (off := 131) (tgt := 134) dX12_count_3 (by (rw [c26]) <;> decide) (by decide) ?_
                      refine y_aload_n (x := p0) (pc2 := 135) rfl dX12_count_134 rfl ?_
                      obtain ⟨g27, hf⟩ := y_g hf
                      refine y_getI (pc2 := 138) rfl dX12_count_135 F_BoxYardModel_243 (by decide) rfl g27 ?_
                      exact y_iretF hf dX12_count_138 rfl (by decide) (by decide)
                    · replace hf := y_ie c26 hf
                      by_cases c28 : p1 = 10
                      · replace hf := y_it c28 hf
                        refine y_table (off := 136) (tgt := 139) dX12_count_3 (by (rw [c28]) <;> decide) (by decide) ?_
                        refine y_aload_n (x := p0) (pc2 := 140) rfl dX12_count_139 rfl ?_
                        obtain ⟨g29, hf⟩ := y_g hf
                        refine y_getI (pc2 := 143) rfl dX12_count_140 F_BoxYardModel_258 (by decide) rfl g29 ?_
                        exact y_iretF hf dX12_count_143 rfl (by decide) (by decide)
                      · replace hf := y_ie c28 hf
                        refine y_table (off := 141) (tgt := 144) dX12_count_3 ((if_pos (by have q0 := lv_neT c1 (a := 0) (by decide); have q1 := lv_neT c3 (a := 1) (by decide); have q2 := lv_neT c5 (a := 2) (by decide); have q3 := lv_neT c7 (a := 3) (by decide); have q4 := lv_neT c9 (a := 4) (by decide); have q5 := lv_neT c11 (a := 5) (by decide); have q6 := lv_neT c20 (a := 6) (by decide); have q7 := lv_neT c22 (a := 7) (by decide); have q8 := lv_neT c24 (a := 8) (by decide); have q9 := lv_neT c26 (a := 9) (by decide); have q10 := lv_neT c28 (a := 10) (by decide); omega))) (by decide) ?_
                        refine y_bipush (v := (-2 : Int32)) (pc2 := 146) rfl dX12_count_144 (by decide) ?_
                        exact y_iretF hf dX12_count_146 rfl (by decide) (by decide)
theorem dX12_clear_0 : decode cX12_clear 0 = .ok (.aload_n 0, 1) := by decide +kernel
theorem dX12_clear_1 : decode cX12_clear 1 = .ok (.getfield 234, 3) := by decide +kernel
theorem dX12_clear_4 : decode cX12_clear 4 = .ok (.istore_n 1, 1) := by decide +kernel
theorem dX12_clear_5 : decode cX12_clear 5 = .ok (.aload_n 0, 1) := by decide +kernel
theorem dX12_clear_6 : decode cX12_clear 6 = .ok (.invokevirtual 231, 3) := by decide +kernel
theorem dX12_clear_9 : decode cX12_clear 9 = .ok (.iload_n 1, 1) := by decide +kernel
theorem dX12_clear_10 : decode cX12_clear 10 = .ok (.ireturn, 1) := by decide +kernel
def M_X12_clear : y_M := (yX12_clear, cX12_clear, 2, (Option.some Jvm.ClassFile.FieldType.int))
theorem n_X12_clear : y_N0 M_X12_clear 0 := ⟨(c_10 162 (by decide +kernel) rfl), (c_1 9 (by decide +kernel) rfl), ⟨by decide +kernel, by decide +kernel⟩, by decide +kernel⟩
theorem l_BoxYardModel_231 : y_lnk "BoxYardModel" 231 M_X12_begin := Or.inl (c_7 118 (by decide +kernel) rfl)
theorem i_X12_begin : Cond.instanceMethod (M_X12_begin).1 ∈ y_tb := (c_7 120 (by decide +kernel) rfl)
theorem e_X12_begin : Cond.selects (M_X12_begin).1.cls (M_X12_begin).1 (M_X12_begin).1 ∈ y_tb := (m_s 56 (by decide +kernel) rfl)
set_option maxRecDepth 100000 in
def f_X12_clear (p0 : Nat) (h : y_H) : Option (Int32 × y_H) :=
  if y_K h p0 = 13 then
  if y_K h p0 = 13 then
  y_cl (f_X12_begin p0 h) (fun _ h1 =>
  some (y_I h p0 0, h1))
  else none
  else none
abbrev rm_X12_clear : Room := { frames := 1, cells := 0, slots := 0, locals := 22 }
set_option maxRecDepth 100000 in
set_option maxHeartbeats 4000000 in
theorem k_X12_clear {l : Launch} {G : y_G} {p0 : Nat} {h hz : y_H} {rz : Int32} (hf : f_X12_clear p0 h = some (rz, hz)) : y_S l G M_X12_clear rm_X12_clear [y_p p0] h (some (.int rz)) hz := by
  refine y_start (lv := [(0, y_p p0)]) (by decide) (by simp [lg_sl, y_p_cat, y_ci, y_cj, M_X12_clear]) (by simp [lv_args, y_p_cat, y_ci, y_cj]) (fun z ad0 => ?_)
  unfold f_X12_clear at hf
  refine y_aload_n (x := p0) (pc2 := 1) rfl dX12_clear_0 rfl ?_
  obtain ⟨g4, hf⟩ := y_g hf
  refine y_getI (pc2 := 4) rfl dX12_clear_1 F_BoxYardModel_234 (by decide) rfl g4 ?_
  refine y_istore_n (lv' := [(1, .int (y_I h p0 0)), (0, y_p p0)]) (pc2 := 5) rfl dX12_clear_4 (by decide) (by show y_st1 _ 1 _ = _; simp [y_st1, y_p_cat, y_ci, y_cj]) ?_
  refine y_aload_n (x := p0) (pc2 := 6) rfl dX12_clear_5 rfl ?_
  obtain ⟨g3, hf⟩ := y_g hf
  obtain ⟨r_, h1, c2, hf⟩ := y_clE hf
  refine y_callV (As := []) (rm := rm_X12_begin) (cells := 0) (slots := 0) (pc2 := 9) rfl dX12_clear_6 n_X12_begin l_BoxYardModel_231 i_X12_begin e_X12_begin (ci := 12) rfl rfl (by decide) g3 rfl rfl (by decide) (by decide) (by decide) (k_X12_begin c2) ?_
  refine y_iload_n (pc2 := 10) rfl dX12_clear_9 rfl ?_
  exact y_iretF hf dX12_clear_10 rfl (by decide) (by decide)
theorem dX0_init_0 : decode cX0_init 0 = .ok (.aload_n 0, 1) := by decide +kernel
theorem dX0_init_1 : decode cX0_init 1 = .ok (.invokespecial 1, 3) := by decide +kernel
theorem dX0_init_4 : decode cX0_init 4 = .ok (.return_, 1) := by decide +kernel
def M_X0_init : y_M := (yX0_init, cX0_init, 1, (Option.none : Option Jvm.ClassFile.FieldType))
theorem n_X0_init : y_N0 M_X0_init 0 := ⟨(c_1 118 (by decide +kernel) rfl), (c_1 6 (by decide +kernel) rfl), ⟨by decide +kernel, by decide +kernel⟩, by decide +kernel⟩
theorem l_BoxYard_Act_1 : Cond.methodLink "BoxYard$Act" 1 Lib.objectInit ∈ y_tb := (c_1 119 (by decide +kernel) rfl)
set_option maxRecDepth 100000 in
def f_X0_init (p0 : Nat) (h : y_H) : Option (Unit × y_H) :=
  if y_K h p0 = 1 then
  some ((), h)
  else none
abbrev rm_X0_init : Room := { frames := 1, cells := 0, slots := 0, locals := 21 }
set_option maxRecDepth 100000 in
set_option maxHeartbeats 4000000 in
theorem k_X0_init {l : Launch} {G : y_G} {p0 : Nat} {h hz : y_H} {rz : Unit} (hf : f_X0_init p0 h = some (rz, hz)) : y_S l G M_X0_init rm_X0_init [y_p p0] h none hz := by
  refine y_start (lv := [(0, y_p p0)]) (by decide) (by simp [lg_sl, y_p_cat, y_ci, y_cj, M_X0_init]) (by simp [lv_args, y_p_cat, y_ci, y_cj]) (fun z ad0 => ?_)
  unfold f_X0_init at hf
  refine y_aload_n (x := p0) (pc2 := 1) rfl dX0_init_0 rfl ?_
  obtain ⟨g1, hf⟩ := y_g hf
  refine y_oinit (pc2 := 4) rfl dX0_init_1 l_BoxYard_Act_1 (by rw [g1]; decide) (by decide) (by decide) (by decide) ?_
  exact y_vretF hf dX0_init_4 rfl (by decide) (by decide)
theorem dX1_init_0 : decode cX1_init 0 = .ok (.aload_n 0, 1) := by decide +kernel
theorem dX1_init_1 : decode cX1_init 1 = .ok (.invokespecial 1, 3) := by decide +kernel
theorem dX1_init_4 : decode cX1_init 4 = .ok (.aload_n 0, 1) := by decide +kernel
theorem dX1_init_5 : decode cX1_init 5 = .ok (.bipush 6, 2) := by decide +kernel
theorem dX1_init_7 : decode cX1_init 7 = .ok (.newarray .int, 2) := by decide +kernel
theorem dX1_init_9 : decode cX1_init 9 = .ok (.putfield 9, 3) := by decide +kernel
theorem dX1_init_12 : decode cX1_init 12 = .ok (.aload_n 0, 1) := by decide +kernel
theorem dX1_init_13 : decode cX1_init 13 = .ok (.bipush 6, 2) := by decide +kernel
theorem dX1_init_15 : decode cX1_init 15 = .ok (.newarray .int, 2) := by decide +kernel
theorem dX1_init_17 : decode cX1_init 17 = .ok (.putfield 13, 3) := by decide +kernel
theorem dX1_init_20 : decode cX1_init 20 = .ok (.aload_n 0, 1) := by decide +kernel
theorem dX1_init_21 : decode cX1_init 21 = .ok (.bipush 6, 2) := by decide +kernel
theorem dX1_init_23 : decode cX1_init 23 = .ok (.newarray .int, 2) := by decide +kernel
theorem dX1_init_25 : decode cX1_init 25 = .ok (.putfield 16, 3) := by decide +kernel
theorem dX1_init_28 : decode cX1_init 28 = .ok (.aload_n 0, 1) := by decide +kernel
theorem dX1_init_29 : decode cX1_init 29 = .ok (.bipush 30, 2) := by decide +kernel
theorem dX1_init_31 : decode cX1_init 31 = .ok (.anewarray 19, 3) := by decide +kernel
theorem dX1_init_34 : decode cX1_init 34 = .ok (.putfield 21, 3) := by decide +kernel
theorem dX1_init_37 : decode cX1_init 37 = .ok (.aload_n 0, 1) := by decide +kernel
theorem dX1_init_38 : decode cX1_init 38 = .ok (.iload_n 1, 1) := by decide +kernel
theorem dX1_init_39 : decode cX1_init 39 = .ok (.putfield 25, 3) := by decide +kernel
theorem dX1_init_42 : decode cX1_init 42 = .ok (.return_, 1) := by decide +kernel
def M_X1_init : y_M := (yX1_init, cX1_init, 2, (Option.none : Option Jvm.ClassFile.FieldType))
theorem n_X1_init : y_N0 M_X1_init 1 := ⟨(c_3 55 (by decide +kernel) rfl), (c_1 11 (by decide +kernel) rfl), ⟨by decide +kernel, by decide +kernel⟩, by decide +kernel⟩
theorem l_BoxYard_Bay_1 : Cond.methodLink "BoxYard$Bay" 1 Lib.objectInit ∈ y_tb := (c_3 56 (by decide +kernel) rfl)
theorem ac_0 : Cond.arrayClass (t_ay 0) ∈ y_tb := (c_1 53 (by decide +kernel) rfl)
theorem Fp_BoxYard_Bay_9_i : y_Fp "BoxYard$Bay" "<init>" 9 1 1 := ⟨_, _, _, rfl, by decide, Or.inr ⟨rfl, rfl, rfl, (c_3 60 (by decide +kernel) rfl)⟩⟩
theorem Fp_BoxYard_Bay_13_i : y_Fp "BoxYard$Bay" "<init>" 13 1 2 := ⟨_, _, _, rfl, by decide, Or.inr ⟨rfl, rfl, rfl, (c_3 65 (by decide +kernel) rfl)⟩⟩
theorem Fp_BoxYard_Bay_16_i : y_Fp "BoxYard$Bay" "<init>" 16 1 3 := ⟨_, _, _, rfl, by decide, Or.inr ⟨rfl, rfl, rfl, (c_3 68 (by decide +kernel) rfl)⟩⟩
theorem cl_BoxYard_Bay_19 : Cond.classLink "BoxYard$Bay" 19 "BoxYard$Box" ∈ y_tb := (c_3 57 (by decide +kernel) rfl)
theorem ao_3 : Cond.arrayOver (.object "BoxYard$Box") ∈ y_tb := (c_1 32 (by decide +kernel) rfl)
theorem Fp_BoxYard_Bay_21_i : y_Fp "BoxYard$Bay" "<init>" 21 1 4 := ⟨_, _, _, rfl, by decide, Or.inr ⟨rfl, rfl, rfl, (c_3 73 (by decide +kernel) rfl)⟩⟩
theorem Fp_BoxYard_Bay_25_i : y_Fp "BoxYard$Bay" "<init>" 25 1 0 := ⟨_, _, _, rfl, by decide, Or.inr ⟨rfl, rfl, rfl, (c_3 58 (by decide +kernel) rfl)⟩⟩
set_option maxRecDepth 100000 in
def f_X1_init (p0 : Nat) (p1 : Int32) (c0 s0 : Nat) (h : y_H) : Option ((Unit × Nat × Nat) × y_H) :=
  if y_K h p0 = 2 then
  if 10 ≤ p0 + 7 ∧ y_K h (p0 + 7) = 0 ∧ ¬ (6 : Int32) < 0 ∧ Int32.toNatClampNeg (6 : Int32) * componentBytes (t_ay 0) ≤ 536870912 then
  y_bd (s_new h (p0 + 7) 100 (Int32.toNatClampNeg (6 : Int32))) (fun h4 =>
  if y_K h4 p0 = 2 then
  y_bd (s_P h4 p0 1 (p0 + 7)) (fun h5 =>
  if 10 ≤ p0 + 8 ∧ y_K h5 (p0 + 8) = 0 ∧ ¬ (6 : Int32) < 0 ∧ Int32.toNatClampNeg (6 : Int32) * componentBytes (t_ay 0) ≤ 536870912 then
  y_bd (s_new h5 (p0 + 8) 100 (Int32.toNatClampNeg (6 : Int32))) (fun h10 =>
  if y_K h10 p0 = 2 then
  y_bd (s_P h10 p0 2 (p0 + 8)) (fun h11 =>
  if 10 ≤ p0 + 9 ∧ y_K h11 (p0 + 9) = 0 ∧ ¬ (6 : Int32) < 0 ∧ Int32.toNatClampNeg (6 : Int32) * componentBytes (t_ay 0) ≤ 536870912 then
  y_bd (s_new h11 (p0 + 9) 100 (Int32.toNatClampNeg (6 : Int32))) (fun h16 =>
  if y_K h16 p0 = 2 then
  y_bd (s_P h16 p0 3 (p0 + 9)) (fun h17 =>
  if 10 ≤ p0 + 10 ∧ y_K h17 (p0 + 10) = 0 ∧ ¬ (30 : Int32) < 0 ∧ Int32.toNatClampNeg (30 : Int32) * 4 ≤ 536870912 then
  y_bd (s_new h17 (p0 + 10) 103 (Int32.toNatClampNeg (30 : Int32))) (fun h22 =>
  if y_K h22 p0 = 2 then
  y_bd (s_P h22 p0 4 (p0 + 10)) (fun h23 =>
  if y_K h23 p0 = 2 then
  y_bd (s_I h23 p0 0 p1) (fun h26 =>
  some (((), c0 + 1 + 1 + 1 + 1, s0 + Int32.toNatClampNeg (6 : Int32) + Int32.toNatClampNeg (6 : Int32) + Int32.toNatClampNeg (6 : Int32) + Int32.toNatClampNeg (30 : Int32)), h26))
  else none)
  else none)
  else none)
  else none)
  else none)
  else none)
  else none)
  else none)
  else none
  else none
abbrev FF_X1_init : Nat := 1
abbrev LL_X1_init : Nat := 21
set_option maxRecDepth 100000 in
set_option maxHeartbeats 4000000 in
theorem k_X1_init {l : Launch} {G : y_G} {p0 : Nat} {p1 : Int32} {c0 s0 cz sz : Nat} {h hz : y_H} {rz : Unit} (hf : f_X1_init p0 p1 c0 s0 h = some ((rz, cz, sz), hz)) : (c0 ≤ cz ∧ s0 ≤ sz) ∧ y_S l G M_X1_init (y_Rm FF_X1_init LL_X1_init c0 s0 cz sz) [y_p p0, .int p1] h none hz := by
  refine y_Ustart (lv := [(0, y_p p0), (1, .int p1)]) (by decide) (by simp [lg_sl, y_p_cat, y_ci, y_cj, M_X1_init]) (by simp [lv_args, y_p_cat, y_ci, y_cj]) (fun z ad0 => ?_)
  unfold f_X1_init at hf
  refine y_lf (fun _ _ _ _ k => y_aload_n (x := p0) (pc2 := 1) rfl dX1_init_0 rfl k) ?_
  obtain ⟨g1, hf⟩ := y_g hf
  refine y_lf (fun _ _ _ _ k => y_oinit (pc2 := 4) rfl dX1_init_1 l_BoxYard_Bay_1 (by rw [g1]; decide) (Nat.le_of_ble_eq_true rfl) (Nat.le_of_ble_eq_true rfl) (by decide) k) ?_
  refine y_lf (fun _ _ _ _ k => y_aload_n (x := p0) (pc2 := 5) rfl dX1_init_4 rfl k) ?_
  refine y_lf (fun _ _ _ _ k => y_bipush (v := 6) (pc2 := 7) rfl dX1_init_5 (by decide) k) ?_
  obtain ⟨g2, hf⟩ := y_g hf
  obtain ⟨h4, e3, hf⟩ := y_bdE hf
  refine y_Unewa (t := 0) (n := p0 + 7) (pc2 := 9) rfl dX1_init_7 (by decide) rfl rfl rfl ac_0 g2 e3 ?_
  obtain ⟨g7, hf⟩ := y_g hf
  obtain ⟨h5, e6, hf⟩ := y_bdE hf
  refine y_lf (fun _ _ _ _ k => y_putP (x := p0 + 7) (pc2 := 12) rfl dX1_init_9 Fp_BoxYard_Bay_9_i (by decide) rfl g7 e6 k) ?_
  refine y_lf (fun _ _ _ _ k => y_aload_n (x := p0) (pc2 := 13) rfl dX1_init_12 rfl k) ?_
  refine y_lf (fun _ _ _ _ k => y_bipush (v := 6) (pc2 := 15) rfl dX1_init_13 (by decide) k) ?_
  obtain ⟨g8, hf⟩ := y_g hf
  obtain ⟨h10, e9, hf⟩ := y_bdE hf
  refine y_Unewa (t := 0) (n := p0 + 8) (pc2 := 17) rfl dX1_init_15 (by decide) rfl rfl rfl ac_0 g8 e9 ?_
  obtain ⟨g13, hf⟩ := y_g hf
  obtain ⟨h11, e12, hf⟩ := y_bdE hf
  refine y_lf (fun _ _ _ _ k => y_putP (x := p0 + 8) (pc2 := 20) rfl dX1_init_17 Fp_BoxYard_Bay_13_i (by decide) rfl g13 e12 k) ?_
  refine y_lf (fun _ _ _ _ k => y_aload_n (x := p0) (pc2 := 21) rfl dX1_init_20 rfl k) ?_
  refine y_lf (fun _ _ _ _ k => y_bipush (v := 6) (pc2 := 23) rfl dX1_init_21 (by decide) k) ?_
  obtain ⟨g14, hf⟩ := y_g hf
  obtain ⟨h16, e15, hf⟩ := y_bdE hf
  refine y_Unewa (t := 0) (n := p0 + 9) (pc2 := 25) rfl dX1_init_23 (by decide) rfl rfl rfl ac_0 g14 e15 ?_
  obtain ⟨g19, hf⟩ := y_g hf
  obtain ⟨h17, e18, hf⟩ := y_bdE hf
  refine y_lf (fun _ _ _ _ k => y_putP (x := p0 + 9) (pc2 := 28) rfl dX1_init_25 Fp_BoxYard_Bay_16_i (by decide) rfl g19 e18 k) ?_
  refine y_lf (fun _ _ _ _ k => y_aload_n (x := p0) (pc2 := 29) rfl dX1_init_28 rfl k) ?_
  refine y_lf (fun _ _ _ _ k => y_bipush (v := 30) (pc2 := 31) rfl dX1_init_29 (by decide) k) ?_
  obtain ⟨g20, hf⟩ := y_g hf
  obtain ⟨h22, e21, hf⟩ := y_bdE hf
  refine y_Unewq (t := 3) (n := p0 + 10) (pc2 := 34) rfl dX1_init_31 (by decide) rfl cl_BoxYard_Bay_19 ao_3 g20 e21 ?_
  obtain ⟨g25, hf⟩ := y_g hf
  obtain ⟨h23, e24, hf⟩ := y_bdE hf
  refine y_lf (fun _ _ _ _ k => y_putP (x := p0 + 10) (pc2 := 37) rfl dX1_init_34 Fp_BoxYard_Bay_21_i (by decide) rfl g25 e24 k) ?_
  refine y_lf (fun _ _ _ _ k => y_aload_n (x := p0) (pc2 := 38) rfl dX1_init_37 rfl k) ?_
  refine y_lf (fun _ _ _ _ k => y_iload_n (pc2 := 39) rfl dX1_init_38 rfl k) ?_
  obtain ⟨g28, hf⟩ := y_g hf
  obtain ⟨h26, e27, hf⟩ := y_bdE hf
  refine y_lf (fun _ _ _ _ k => y_putI (x := p1) (pc2 := 42) rfl dX1_init_39 Fp_BoxYard_Bay_25_i (by decide) rfl g28 e27 k) ?_
  exact y_vretU hf dX1_init_42 rfl
theorem dX2_init_0 : decode cX2_init 0 = .ok (.aload_n 0, 1) := by decide +kernel
theorem dX2_init_1 : decode cX2_init 1 = .ok (.invokespecial 3, 3) := by decide +kernel
theorem dX2_init_4 : decode cX2_init 4 = .ok (.aload_n 0, 1) := by decide +kernel
theorem dX2_init_5 : decode cX2_init 5 = .ok (.iload_n 1, 1) := by decide +kernel
theorem dX2_init_6 : decode cX2_init 6 = .ok (.putfield 9, 3) := by decide +kernel
theorem dX2_init_9 : decode cX2_init 9 = .ok (.return_, 1) := by decide +kernel
def M_X2_init : y_M := (yX2_init, cX2_init, 2, (Option.none : Option Jvm.ClassFile.FieldType))
theorem n_X2_init : y_N0 M_X2_init 1 := ⟨(c_2 110 (by decide +kernel) rfl), (c_1 10 (by decide +kernel) rfl), ⟨by decide +kernel, by decide +kernel⟩, by decide +kernel⟩
theorem l_BoxYard_Box_3 : Cond.methodLink "BoxYard$Box" 3 Lib.objectInit ∈ y_tb := (c_2 111 (by decide +kernel) rfl)
theorem Fp_BoxYard_Box_9_i : y_Fp "BoxYard$Box" "<init>" 9 2 0 := ⟨_, _, _, rfl, by decide, Or.inr ⟨rfl, rfl, rfl, (c_2 112 (by decide +kernel) rfl)⟩⟩
set_option maxRecDepth 100000 in
def f_X2_init (p0 : Nat) (p1 : Int32) (h : y_H) : Option (Unit × y_H) :=
  if y_K h p0 = 3 then
  if y_K h p0 = 3 then
  y_bd (s_I h p0 0 p1) (fun h2 =>
  some ((), h2))
  else none
  else none
abbrev rm_X2_init : Room := { frames := 1, cells := 0, slots := 0, locals := 21 }
set_option maxRecDepth 100000 in
set_option maxHeartbeats 4000000 in
theorem k_X2_init {l : Launch} {G : y_G} {p0 : Nat} {p1 : Int32} {h hz : y_H} {rz : Unit} (hf : f_X2_init p0 p1 h = some (rz, hz)) : y_S l G M_X2_init rm_X2_init [y_p p0, .int p1] h none hz := by
  refine y_start (lv := [(0, y_p p0), (1, .int p1)]) (by decide) (by simp [lg_sl, y_p_cat, y_ci, y_cj, M_X2_init]) (by simp [lv_args, y_p_cat, y_ci, y_cj]) (fun z ad0 => ?_)
  unfold f_X2_init at hf
  refine y_aload_n (x := p0) (pc2 := 1) rfl dX2_init_0 rfl ?_
  obtain ⟨g1, hf⟩ := y_g hf
  refine y_oinit (pc2 := 4) rfl dX2_init_1 l_BoxYard_Box_3 (by rw [g1]; decide) (by decide) (by decide) (by decide) ?_
  refine y_aload_n (x := p0) (pc2 := 5) rfl dX2_init_4 rfl ?_
  refine y_iload_n (pc2 := 6) rfl dX2_init_5 rfl ?_
  obtain ⟨g4, hf⟩ := y_g hf
  obtain ⟨h2, e3, hf⟩ := y_bdE hf
  refine y_putI (x := p1) (pc2 := 9) rfl dX2_init_6 Fp_BoxYard_Box_9_i (by decide) rfl g4 e3 ?_
  exact y_vretF hf dX2_init_9 rfl (by decide) (by decide)
theorem dX3_init_0 : decode cX3_init 0 = .ok (.aload_n 0, 1) := by decide +kernel
theorem dX3_init_1 : decode cX3_init 1 = .ok (.invokespecial 1, 3) := by decide +kernel
theorem dX3_init_4 : decode cX3_init 4 = .ok (.aload_n 0, 1) := by decide +kernel
theorem dX3_init_5 : decode cX3_init 5 = .ok (.iload_n 1, 1) := by decide +kernel
theorem dX3_init_6 : decode cX3_init 6 = .ok (.putfield 7, 3) := by decide +kernel
theorem dX3_init_9 : decode cX3_init 9 = .ok (.return_, 1) := by decide +kernel
def M_X3_init : y_M := (yX3_init, cX3_init, 2, (Option.none : Option Jvm.ClassFile.FieldType))
theorem n_X3_init : y_N0 M_X3_init 1 := ⟨(c_3 179 (by decide +kernel) rfl), (c_1 12 (by decide +kernel) rfl), ⟨by decide +kernel, by decide +kernel⟩, by decide +kernel⟩
theorem l_BoxYard_Crane_1 : Cond.methodLink "BoxYard$Crane" 1 Lib.objectInit ∈ y_tb := (c_3 180 (by decide +kernel) rfl)
theorem Fp_BoxYard_Crane_7_i : y_Fp "BoxYard$Crane" "<init>" 7 3 0 := ⟨_, _, _, rfl, by decide, Or.inr ⟨rfl, rfl, rfl, (c_3 181 (by decide +kernel) rfl)⟩⟩
set_option maxRecDepth 100000 in
def f_X3_init (p0 : Nat) (p1 : Int32) (h : y_H) : Option (Unit × y_H) :=
  if y_K h p0 = 4 then
  if y_K h p0 = 4 then
  y_bd (s_I h p0 0 p1) (fun h2 =>
  some ((), h2))
  else none
  else none
abbrev rm_X3_init : Room := { frames := 1, cells := 0, slots := 0, locals := 21 }
set_option maxRecDepth 100000 in
set_option maxHeartbeats 4000000 in
theorem k_X3_init {l : Launch} {G : y_G} {p0 : Nat} {p1 : Int32} {h hz : y_H} {rz : Unit} (hf : f_X3_init p0 p1 h = some (rz, hz)) : y_S l G M_X3_init rm_X3_init [y_p p0, .int p1] h none hz := by
  refine y_start (lv := [(0, y_p p0), (1, .int p1)]) (by decide) (by simp [lg_sl, y_p_cat, y_ci, y_cj, M_X3_init]) (by simp [lv_args, y_p_cat, y_ci, y_cj]) (fun z ad0 => ?_)
  unfold f_X3_init at hf
  refine y_aload_n (x := p0) (pc2 := 1) rfl dX3_init_0 rfl ?_
  obtain ⟨g1, hf⟩ := y_g hf
  refine y_oinit (pc2 := 4) rfl dX3_init_1 l_BoxYard_Crane_1 (by rw [g1]; decide) (by decide) (by decide) (by decide) ?_
  refine y_aload_n (x := p0) (pc2 := 5) rfl dX3_init_4 rfl ?_
  refine y_iload_n (pc2 := 6) rfl dX3_init_5 rfl ?_
  obtain ⟨g4, hf⟩ := y_g hf
  obtain ⟨h2, e3, hf⟩ := y_bdE hf
  refine y_putI (x := p1) (pc2 := 9) rfl dX3_init_6 Fp_BoxYard_Crane_7_i (by decide) rfl g4 e3 ?_
  exact y_vretF hf dX3_init_9 rfl (by decide) (by decide)
theorem dX4_init_0 : decode cX4_init 0 = .ok (.aload_n 0, 1) := by decide +kernel
theorem dX4_init_1 : decode cX4_init 1 = .ok (.invokespecial 3, 3) := by decide +kernel
theorem dX4_init_4 : decode cX4_init 4 = .ok (.aload_n 0, 1) := by decide +kernel
theorem dX4_init_5 : decode cX4_init 5 = .ok (.iconst 5, 1) := by decide +kernel
theorem dX4_init_6 : decode cX4_init 6 = .ok (.anewarray 11, 3) := by decide +kernel
theorem dX4_init_9 : decode cX4_init 9 = .ok (.putfield 13, 3) := by decide +kernel
theorem dX4_init_12 : decode cX4_init 12 = .ok (.aload_n 0, 1) := by decide +kernel
theorem dX4_init_13 : decode cX4_init 13 = .ok (.bipush 16, 2) := by decide +kernel
theorem dX4_init_15 : decode cX4_init 15 = .ok (.newarray .int, 2) := by decide +kernel
theorem dX4_init_17 : decode cX4_init 17 = .ok (.putfield 17, 3) := by decide +kernel
theorem dX4_init_20 : decode cX4_init 20 = .ok (.aload_n 0, 1) := by decide +kernel
theorem dX4_init_21 : decode cX4_init 21 = .ok (.bipush 16, 2) := by decide +kernel
theorem dX4_init_23 : decode cX4_init 23 = .ok (.newarray .int, 2) := by decide +kernel
theorem dX4_init_25 : decode cX4_init 25 = .ok (.putfield 21, 3) := by decide +kernel
theorem dX4_init_28 : decode cX4_init 28 = .ok (.aload_n 0, 1) := by decide +kernel
theorem dX4_init_29 : decode cX4_init 29 = .ok (.bipush 30, 2) := by decide +kernel
theorem dX4_init_31 : decode cX4_init 31 = .ok (.anewarray 11, 3) := by decide +kernel
theorem dX4_init_34 : decode cX4_init 34 = .ok (.putfield 26, 3) := by decide +kernel
theorem dX4_init_37 : decode cX4_init 37 = .ok (.aload_n 0, 1) := by decide +kernel
theorem dX4_init_38 : decode cX4_init 38 = .ok (.bipush 6, 2) := by decide +kernel
theorem dX4_init_40 : decode cX4_init 40 = .ok (.newarray .int, 2) := by decide +kernel
theorem dX4_init_42 : decode cX4_init 42 = .ok (.putfield 29, 3) := by decide +kernel
theorem dX4_init_45 : decode cX4_init 45 = .ok (.return_, 1) := by decide +kernel
def M_X4_init : y_M := (yX4_init, cX4_init, 1, (Option.none : Option Jvm.ClassFile.FieldType))
theorem n_X4_init : y_N0 M_X4_init 0 := ⟨(c_1 211 (by decide +kernel) rfl), (c_1 7 (by decide +kernel) rfl), ⟨by decide +kernel, by decide +kernel⟩, by decide +kernel⟩
theorem l_BoxYard_Digging_3 : Cond.methodLink "BoxYard$Digging" 3 Lib.objectInit ∈ y_tb := (c_1 212 (by decide +kernel) rfl)
theorem cl_BoxYard_Digging_11 : Cond.classLink "BoxYard$Digging" 11 "BoxYard$Box" ∈ y_tb := (c_1 213 (by decide +kernel) rfl)
theorem Fp_BoxYard_Digging_13_i : y_Fp "BoxYard$Digging" "<init>" 13 4 0 := ⟨_, _, _, rfl, by decide, Or.inr ⟨rfl, rfl, rfl, (c_1 214 (by decide +kernel) rfl)⟩⟩
theorem Fp_BoxYard_Digging_17_i {nm : String} : y_Fp "BoxYard$Digging" nm 17 4 2 := ⟨_, _, _, rfl, by decide, Or.inl ⟨rfl, Or.inl (c_1 218 (by decide +kernel) rfl)⟩⟩
theorem Fp_BoxYard_Digging_21_i {nm : String} : y_Fp "BoxYard$Digging" nm 21 4 3 := ⟨_, _, _, rfl, by decide, Or.inl ⟨rfl, Or.inl (c_1 220 (by decide +kernel) rfl)⟩⟩
theorem Fp_BoxYard_Digging_26_i : y_Fp "BoxYard$Digging" "<init>" 26 4 8 := ⟨_, _, _, rfl, by decide, Or.inr ⟨rfl, rfl, rfl, (c_1 228 (by decide +kernel) rfl)⟩⟩
theorem Fp_BoxYard_Digging_29_i : y_Fp "BoxYard$Digging" "<init>" 29 4 9 := ⟨_, _, _, rfl, by decide, Or.inr ⟨rfl, rfl, rfl, (c_1 229 (by decide +kernel) rfl)⟩⟩
set_option maxRecDepth 100000 in
def f_X4_init (p0 : Nat) (c0 s0 : Nat) (h : y_H) : Option ((Unit × Nat × Nat) × y_H) :=
  if y_K h p0 = 5 then
  if 10 ≤ 38 ∧ y_K h 38 = 0 ∧ ¬ (5 : Int32) < 0 ∧ Int32.toNatClampNeg (5 : Int32) * 4 ≤ 536870912 then
  y_bd (s_new h 38 103 (Int32.toNatClampNeg (5 : Int32))) (fun h4 =>
  if y_K h4 p0 = 5 then
  y_bd (s_P h4 p0 0 38) (fun h5 =>
  if 10 ≤ 102 ∧ y_K h5 102 = 0 ∧ ¬ (16 : Int32) < 0 ∧ Int32.toNatClampNeg (16 : Int32) * componentBytes (t_ay 0) ≤ 536870912 then
  y_bd (s_new h5 102 100 (Int32.toNatClampNeg (16 : Int32))) (fun h10 =>
  if y_K h10 p0 = 5 then
  y_bd (s_P h10 p0 2 102) (fun h11 =>
  if 10 ≤ 166 ∧ y_K h11 166 = 0 ∧ ¬ (16 : Int32) < 0 ∧ Int32.toNatClampNeg (16 : Int32) * componentBytes (t_ay 0) ≤ 536870912 then
  y_bd (s_new h11 166 100 (Int32.toNatClampNeg (16 : Int32))) (fun h16 =>
  if y_K h16 p0 = 5 then
  y_bd (s_P h16 p0 3 166) (fun h17 =>
  if 10 ≤ 230 ∧ y_K h17 230 = 0 ∧ ¬ (30 : Int32) < 0 ∧ Int32.toNatClampNeg (30 : Int32) * 4 ≤ 536870912 then
  y_bd (s_new h17 230 103 (Int32.toNatClampNeg (30 : Int32))) (fun h22 =>
  if y_K h22 p0 = 5 then
  y_bd (s_P h22 p0 8 230) (fun h23 =>
  if 10 ≤ 294 ∧ y_K h23 294 = 0 ∧ ¬ (6 : Int32) < 0 ∧ Int32.toNatClampNeg (6 : Int32) * componentBytes (t_ay 0) ≤ 536870912 then
  y_bd (s_new h23 294 100 (Int32.toNatClampNeg (6 : Int32))) (fun h28 =>
  if y_K h28 p0 = 5 then
  y_bd (s_P h28 p0 9 294) (fun h29 =>
  some (((), c0 + 1 + 1 + 1 + 1 + 1, s0 + Int32.toNatClampNeg (5 : Int32) + Int32.toNatClampNeg (16 : Int32) + Int32.toNatClampNeg (16 : Int32) + Int32.toNatClampNeg (30 : Int32) + Int32.toNatClampNeg (6 : Int32)), h29))
  else none)
  else none)
  else none)
  else none)
  else none)
  else none)
  else none)
  else none)
  else none)
  else none
  else none
abbrev FF_X4_init : Nat := 1
abbrev LL_X4_init : Nat := 21
set_option maxRecDepth 100000 in
set_option maxHeartbeats 4000000 in
theorem k_X4_init {l : Launch} {G : y_G} {p0 : Nat} {c0 s0 cz sz : Nat} {h hz : y_H} {rz : Unit} (hf : f_X4_init p0 c0 s0 h = some ((rz, cz, sz), hz)) : (c0 ≤ cz ∧ s0 ≤ sz) ∧ y_S l G M_X4_init (y_Rm FF_X4_init LL_X4_init c0 s0 cz sz) [y_p p0] h none hz := by
  refine y_Ustart (lv := [(0, y_p p0)]) (by decide) (by simp [lg_sl, y_p_cat, y_ci, y_cj, M_X4_init]) (by simp [lv_args, y_p_cat, y_ci, y_cj]) (fun z ad0 => ?_)
  unfold f_X4_init at hf
  refine y_lf (fun _ _ _ _ k => y_aload_n (x := p0) (pc2 := 1) rfl dX4_init_0 rfl k) ?_
  obtain ⟨g1, hf⟩ := y_g hf
  refine y_lf (fun _ _ _ _ k => y_oinit (pc2 := 4) rfl dX4_init_1 l_BoxYard_Digging_3 (by rw [g1]; decide) (Nat.le_of_ble_eq_true rfl) (Nat.le_of_ble_eq_true rfl) (by decide) k) ?_
  refine y_lf (fun _ _ _ _ k => y_aload_n (x := p0) (pc2 := 5) rfl dX4_init_4 rfl k) ?_
  refine y_lf (fun _ _ _ _ k => y_iconst (v := 5) (pc2 := 6) rfl dX4_init_5 (by decide) k) ?_
  obtain ⟨g2, hf⟩ := y_g hf
  obtain ⟨h4, e3, hf⟩ := y_bdE hf
  refine y_Unewq (t := 3) (n := 38) (pc2 := 9) rfl dX4_init_6 (by decide) rfl cl_BoxYard_Digging_11 ao_3 g2 e3 ?_
  obtain ⟨g7, hf⟩ := y_g hf
  obtain ⟨h5, e6, hf⟩ := y_bdE hf
  refine y_lf (fun _ _ _ _ k => y_putP (x := 38) (pc2 := 12) rfl dX4_init_9 Fp_BoxYard_Digging_13_i (by decide) rfl g7 e6 k) ?_
  refine y_lf (fun _ _ _ _ k => y_aload_n (x := p0) (pc2 := 13) rfl dX4_init_12 rfl k) ?_
  refine y_lf (fun _ _ _ _ k => y_bipush (v := 16) (pc2 := 15) rfl dX4_init_13 (by decide) k) ?_
  obtain ⟨g8, hf⟩ := y_g hf
  obtain ⟨h10, e9, hf⟩ := y_bdE hf
  refine y_Unewa (t := 0) (n := 102) (pc2 := 17) rfl dX4_init_15 (by decide) rfl rfl rfl ac_0 g8 e9 ?_
  obtain ⟨g13, hf⟩ := y_g hf
  obtain ⟨h11, e12, hf⟩ := y_bdE hf
  refine y_lf (fun _ _ _ _ k => y_putP (x := 102) (pc2 := 20) rfl dX4_init_17 Fp_BoxYard_Digging_17_i (by decide) rfl g13 e12 k) ?_
  refine y_lf (fun _ _ _ _ k => y_aload_n (x := p0) (pc2 := 21) rfl dX4_init_20 rfl k) ?_
  refine y_lf (fun _ _ _ _ k => y_bipush (v := 16) (pc2 := 23) rfl dX4_init_21 (by decide) k) ?_
  obtain ⟨g14, hf⟩ := y_g hf
  obtain ⟨h16, e15, hf⟩ := y_bdE hf
  refine y_Unewa (t := 0) (n := 166) (pc2 := 25) rfl dX4_init_23 (by decide) rfl rfl rfl ac_0 g14 e15 ?_
  obtain ⟨g19, hf⟩ := y_g hf
  obtain ⟨h17, e18, hf⟩ := y_bdE hf
  refine y_lf (fun _ _ _ _ k => y_putP (x := 166) (pc2 := 28) rfl dX4_init_25 Fp_BoxYard_Digging_21_i (by decide) rfl g19 e18 k) ?_
  refine y_lf (fun _ _ _ _ k => y_aload_n (x := p0) (pc2 := 29) rfl dX4_init_28 rfl k) ?_
  refine y_lf (fun _ _ _ _ k => y_bipush (v := 30) (pc2 := 31) rfl dX4_init_29 (by decide) k) ?_
  obtain ⟨g20, hf⟩ := y_g hf
  obtain ⟨h22, e21, hf⟩ := y_bdE hf
  refine y_Unewq (t := 3) (n := 230) (pc2 := 34) rfl dX4_init_31 (by decide) rfl cl_BoxYard_Digging_11 ao_3 g20 e21 ?_
  obtain ⟨g25, hf⟩ := y_g hf
  obtain ⟨h23, e24, hf⟩ := y_bdE hf
  refine y_lf (fun _ _ _ _ k => y_putP (x := 230) (pc2 := 37) rfl dX4_init_34 Fp_BoxYard_Digging_26_i (by decide) rfl g25 e24 k) ?_
  refine y_lf (fun _ _ _ _ k => y_aload_n (x := p0) (pc2 := 38) rfl dX4_init_37 rfl k) ?_
  refine y_lf (fun _ _ _ _ k => y_bipush (v := 6) (pc2 := 40) rfl dX4_init_38 (by decide) k) ?_
  obtain ⟨g26, hf⟩ := y_g hf
  obtain ⟨h28, e27, hf⟩ := y_bdE hf
  refine y_Unewa (t := 0) (n := 294) (pc2 := 42) rfl dX4_init_40 (by decide) rfl rfl rfl ac_0 g26 e27 ?_
  obtain ⟨g31, hf⟩ := y_g hf
  obtain ⟨h29, e30, hf⟩ := y_bdE hf
  refine y_lf (fun _ _ _ _ k => y_putP (x := 294) (pc2 := 45) rfl dX4_init_42 Fp_BoxYard_Digging_29_i (by decide) rfl g31 e30 k) ?_
  exact y_vretU hf dX4_init_45 rfl
theorem dX6_init_0 : decode cX6_init 0 = .ok (.aload_n 0, 1) := by decide +kernel
theorem dX6_init_1 : decode cX6_init 1 = .ok (.invokespecial 5, 3) := by decide +kernel
theorem dX6_init_4 : decode cX6_init 4 = .ok (.aload_n 0, 1) := by decide +kernel
theorem dX6_init_5 : decode cX6_init 5 = .ok (.iconst 4, 1) := by decide +kernel
theorem dX6_init_6 : decode cX6_init 6 = .ok (.newarray .int, 2) := by decide +kernel
theorem dX6_init_8 : decode cX6_init 8 = .ok (.putfield 11, 3) := by decide +kernel
theorem dX6_init_11 : decode cX6_init 11 = .ok (.aload_n 0, 1) := by decide +kernel
theorem dX6_init_12 : decode cX6_init 12 = .ok (.iconst 4, 1) := by decide +kernel
theorem dX6_init_13 : decode cX6_init 13 = .ok (.newarray .int, 2) := by decide +kernel
theorem dX6_init_15 : decode cX6_init 15 = .ok (.putfield 17, 3) := by decide +kernel
theorem dX6_init_18 : decode cX6_init 18 = .ok (.aload_n 0, 1) := by decide +kernel
theorem dX6_init_19 : decode cX6_init 19 = .ok (.bipush 64, 2) := by decide +kernel
theorem dX6_init_21 : decode cX6_init 21 = .ok (.newarray .long, 2) := by decide +kernel
theorem dX6_init_23 : decode cX6_init 23 = .ok (.putfield 20, 3) := by decide +kernel
theorem dX6_init_26 : decode cX6_init 26 = .ok (.aload_n 0, 1) := by decide +kernel
theorem dX6_init_27 : decode cX6_init 27 = .ok (.bipush 64, 2) := by decide +kernel
theorem dX6_init_29 : decode cX6_init 29 = .ok (.newarray .int, 2) := by decide +kernel
theorem dX6_init_31 : decode cX6_init 31 = .ok (.putfield 24, 3) := by decide +kernel
theorem dX6_init_34 : decode cX6_init 34 = .ok (.aload_n 0, 1) := by decide +kernel
theorem dX6_init_35 : decode cX6_init 35 = .ok (.sipush 128, 3) := by decide +kernel
theorem dX6_init_38 : decode cX6_init 38 = .ok (.newarray .int, 2) := by decide +kernel
theorem dX6_init_40 : decode cX6_init 40 = .ok (.putfield 27, 3) := by decide +kernel
theorem dX6_init_43 : decode cX6_init 43 = .ok (.return_, 1) := by decide +kernel
def M_X6_init : y_M := (yX6_init, cX6_init, 1, (Option.none : Option Jvm.ClassFile.FieldType))
theorem n_X6_init : y_N0 M_X6_init 0 := ⟨(c_5 201 (by decide +kernel) rfl), (c_1 15 (by decide +kernel) rfl), ⟨by decide +kernel, by decide +kernel⟩, by decide +kernel⟩
theorem l_BoxYard_Search_5 : Cond.methodLink "BoxYard$Search" 5 Lib.objectInit ∈ y_tb := (c_5 202 (by decide +kernel) rfl)
theorem Fp_BoxYard_Search_11_i : y_Fp "BoxYard$Search" "<init>" 11 6 0 := ⟨_, _, _, rfl, by decide, Or.inr ⟨rfl, rfl, rfl, (c_5 203 (by decide +kernel) rfl)⟩⟩
theorem Fp_BoxYard_Search_17_i : y_Fp "BoxYard$Search" "<init>" 17 6 1 := ⟨_, _, _, rfl, by decide, Or.inr ⟨rfl, rfl, rfl, (c_5 204 (by decide +kernel) rfl)⟩⟩
theorem ac_1 : Cond.arrayClass (t_ay 1) ∈ y_tb := (c_5 234 (by decide +kernel) rfl)
theorem Fp_BoxYard_Search_20_i {nm : String} : y_Fp "BoxYard$Search" nm 20 6 4 := ⟨_, _, _, rfl, by decide, Or.inl ⟨rfl, Or.inl (c_5 207 (by decide +kernel) rfl)⟩⟩
theorem Fp_BoxYard_Search_24_i {nm : String} : y_Fp "BoxYard$Search" nm 24 6 5 := ⟨_, _, _, rfl, by decide, Or.inl ⟨rfl, Or.inl (c_5 208 (by decide +kernel) rfl)⟩⟩
theorem Fp_BoxYard_Search_27_i {nm : String} : y_Fp "BoxYard$Search" nm 27 6 6 := ⟨_, _, _, rfl, by decide, Or.inl ⟨rfl, Or.inl (c_5 209 (by decide +kernel) rfl)⟩⟩
set_option maxRecDepth 100000 in
def f_X6_init (p0 : Nat) (c0 s0 : Nat) (h : y_H) : Option ((Unit × Nat × Nat) × y_H) :=
  if y_K h p0 = 7 then
  if 10 ≤ 41 ∧ y_K h 41 = 0 ∧ ¬ (4 : Int32) < 0 ∧ Int32.toNatClampNeg (4 : Int32) * componentBytes (t_ay 0) ≤ 536870912 then
  y_bd (s_new h 41 100 (Int32.toNatClampNeg (4 : Int32))) (fun h4 =>
  if y_K h4 p0 = 7 then
  y_bd (s_P h4 p0 0 41) (fun h5 =>
  if 10 ≤ 105 ∧ y_K h5 105 = 0 ∧ ¬ (4 : Int32) < 0 ∧ Int32.toNatClampNeg (4 : Int32) * componentBytes (t_ay 0) ≤ 536870912 then
  y_bd (s_new h5 105 100 (Int32.toNatClampNeg (4 : Int32))) (fun h10 =>
  if y_K h10 p0 = 7 then
  y_bd (s_P h10 p0 1 105) (fun h11 =>
  if 10 ≤ 169 ∧ y_K h11 169 = 0 ∧ ¬ (64 : Int32) < 0 ∧ Int32.toNatClampNeg (64 : Int32) * componentBytes (t_ay 1) ≤ 536870912 then
  y_bd (s_new h11 169 101 (Int32.toNatClampNeg (64 : Int32))) (fun h16 =>
  if y_K h16 p0 = 7 then
  y_bd (s_P h16 p0 4 169) (fun h17 =>
  if 10 ≤ 233 ∧ y_K h17 233 = 0 ∧ ¬ (64 : Int32) < 0 ∧ Int32.toNatClampNeg (64 : Int32) * componentBytes (t_ay 0) ≤ 536870912 then
  y_bd (s_new h17 233 100 (Int32.toNatClampNeg (64 : Int32))) (fun h22 =>
  if y_K h22 p0 = 7 then
  y_bd (s_P h22 p0 5 233) (fun h23 =>
  if 10 ≤ 297 ∧ y_K h23 297 = 0 ∧ ¬ (128 : Int32) < 0 ∧ Int32.toNatClampNeg (128 : Int32) * componentBytes (t_ay 0) ≤ 536870912 then
  y_bd (s_new h23 297 100 (Int32.toNatClampNeg (128 : Int32))) (fun h28 =>
  if y_K h28 p0 = 7 then
  y_bd (s_P h28 p0 6 297) (fun h29 =>
  some (((), c0 + 1 + 1 + 1 + 1 + 1, s0 + Int32.toNatClampNeg (4 : Int32) + Int32.toNatClampNeg (4 : Int32) + Int32.toNatClampNeg (64 : Int32) + Int32.toNatClampNeg (64 : Int32) + Int32.toNatClampNeg (128 : Int32)), h29))
  else none)
  else none)
  else none)
  else none)
  else none)
  else none)
  else none)
  else none)
  else none)
  else none
  else none
abbrev FF_X6_init : Nat := 1
abbrev LL_X6_init : Nat := 21
set_option maxRecDepth 100000 in
set_option maxHeartbeats 4000000 in
theorem k_X6_init {l : Launch} {G : y_G} {p0 : Nat} {c0 s0 cz sz : Nat} {h hz : y_H} {rz : Unit} (hf : f_X6_init p0 c0 s0 h = some ((rz, cz, sz), hz)) : (c0 ≤ cz ∧ s0 ≤ sz) ∧ y_S l G M_X6_init (y_Rm FF_X6_init LL_X6_init c0 s0 cz sz) [y_p p0] h none hz := by
  refine y_Ustart (lv := [(0, y_p p0)]) (by decide) (by simp [lg_sl, y_p_cat, y_ci, y_cj, M_X6_init]) (by simp [lv_args, y_p_cat, y_ci, y_cj]) (fun z ad0 => ?_)
  unfold f_X6_init at hf
  refine y_lf (fun _ _ _ _ k => y_aload_n (x := p0) (pc2 := 1) rfl dX6_init_0 rfl k) ?_
  obtain ⟨g1, hf⟩ := y_g hf
  refine y_lf (fun _ _ _ _ k => y_oinit (pc2 := 4) rfl dX6_init_1 l_BoxYard_Search_5 (by rw [g1]; decide) (Nat.le_of_ble_eq_true rfl) (Nat.le_of_ble_eq_true rfl) (by decide) k) ?_
  refine y_lf (fun _ _ _ _ k => y_aload_n (x := p0) (pc2 := 5) rfl dX6_init_4 rfl k) ?_
  refine y_lf (fun _ _ _ _ k => y_iconst (v := 4) (pc2 := 6) rfl dX6_init_5 (by decide) k) ?_
  obtain ⟨g2, hf⟩ := y_g hf
  obtain ⟨h4, e3, hf⟩ := y_bdE hf
  refine y_Unewa (t := 0) (n := 41) (pc2 := 8) rfl dX6_init_6 (by decide) rfl rfl rfl ac_0 g2 e3 ?_
  obtain ⟨g7, hf⟩ := y_g hf
  obtain ⟨h5, e6, hf⟩ := y_bdE hf
  refine y_lf (fun _ _ _ _ k => y_putP (x := 41) (pc2 := 11) rfl dX6_init_8 Fp_BoxYard_Search_11_i (by decide) rfl g7 e6 k) ?_
  refine y_lf (fun _ _ _ _ k => y_aload_n (x := p0) (pc2 := 12) rfl dX6_init_11 rfl k) ?_
  refine y_lf (fun _ _ _ _ k => y_iconst (v := 4) (pc2 := 13) rfl dX6_init_12 (by decide) k) ?_
  obtain ⟨g8, hf⟩ := y_g hf
  obtain ⟨h10, e9, hf⟩ := y_bdE hf
  refine y_Unewa (t := 0) (n := 105) (pc2 := 15) rfl dX6_init_13 (by decide) rfl rfl rfl ac_0 g8 e9 ?_
  obtain ⟨g13, hf⟩ := y_g hf
  obtain ⟨h11, e12, hf⟩ := y_bdE hf
  refine y_lf (fun _ _ _ _ k => y_putP (x := 105) (pc2 := 18) rfl dX6_init_15 Fp_BoxYard_Search_17_i (by decide) rfl g13 e12 k) ?_
  refine y_lf (fun _ _ _ _ k => y_aload_n (x := p0) (pc2 := 19) rfl dX6_init_18 rfl k) ?_
  refine y_lf (fun _ _ _ _ k => y_bipush (v := 64) (pc2 := 21) rfl dX6_init_19 (by decide) k) ?_
  obtain ⟨g14, hf⟩ := y_g hf
  obtain ⟨h16, e15, hf⟩ := y_bdE hf
  refine y_Unewa (t := 1) (n := 169) (pc2 := 23) rfl dX6_init_21 (by decide) rfl rfl rfl ac_1 g14 e15 ?_
  obtain ⟨g19, hf⟩ := y_g hf
  obtain ⟨h17, e18, hf⟩ := y_bdE hf
  refine y_lf (fun _ _ _ _ k => y_putP (x := 169) (pc2 := 26) rfl dX6_init_23 Fp_BoxYard_Search_20_i (by decide) rfl g19 e18 k) ?_
  refine y_lf (fun _ _ _ _ k => y_aload_n (x := p0) (pc2 := 27) rfl dX6_init_26 rfl k) ?_
  refine y_lf (fun _ _ _ _ k => y_bipush (v := 64) (pc2 := 29) rfl dX6_init_27 (by decide) k) ?_
  obtain ⟨g20, hf⟩ := y_g hf
  obtain ⟨h22, e21, hf⟩ := y_bdE hf
  refine y_Unewa (t := 0) (n := 233) (pc2 := 31) rfl dX6_init_29 (by decide) rfl rfl rfl ac_0 g20 e21 ?_
  obtain ⟨g25, hf⟩ := y_g hf
  obtain ⟨h23, e24, hf⟩ := y_bdE hf
  refine y_lf (fun _ _ _ _ k => y_putP (x := 233) (pc2 := 34) rfl dX6_init_31 Fp_BoxYard_Search_24_i (by decide) rfl g25 e24 k) ?_
  refine y_lf (fun _ _ _ _ k => y_aload_n (x := p0) (pc2 := 35) rfl dX6_init_34 rfl k) ?_
  refine y_lf (fun _ _ _ _ k => y_sipush (v := 128) (pc2 := 38) rfl dX6_init_35 (by decide) k) ?_
  obtain ⟨g26, hf⟩ := y_g hf
  obtain ⟨h28, e27, hf⟩ := y_bdE hf
  refine y_Unewa (t := 0) (n := 297) (pc2 := 40) rfl dX6_init_38 (by decide) rfl rfl rfl ac_0 g26 e27 ?_
  obtain ⟨g31, hf⟩ := y_g hf
  obtain ⟨h29, e30, hf⟩ := y_bdE hf
  refine y_lf (fun _ _ _ _ k => y_putP (x := 297) (pc2 := 43) rfl dX6_init_40 Fp_BoxYard_Search_27_i (by decide) rfl g31 e30 k) ?_
  exact y_vretU hf dX6_init_43 rfl
theorem dJ7_copyOf_c38d5_0 : decode cJ7_copyOf_c38d5 0 = .ok (.iload_n 1, 1) := by decide +kernel
theorem dJ7_copyOf_c38d5_1 : decode cJ7_copyOf_c38d5 1 = .ok (.aload_n 0, 1) := by decide +kernel
theorem dJ7_copyOf_c38d5_2 : decode cJ7_copyOf_c38d5 2 = .ok (.arraylength, 1) := by decide +kernel
theorem dJ7_copyOf_c38d5_3 : decode cJ7_copyOf_c38d5 3 = .ok (.if_icmp .ne 11, 3) := by decide +kernel
theorem dJ7_copyOf_c38d5_6 : decode cJ7_copyOf_c38d5 6 = .ok (.aload_n 0, 1) := by decide +kernel
theorem dJ7_copyOf_c38d5_7 : decode cJ7_copyOf_c38d5 7 = .ok (.invokevirtual 319, 3) := by decide +kernel
theorem dJ7_copyOf_c38d5_10 : decode cJ7_copyOf_c38d5 10 = .ok (.checkcast 320, 3) := by decide +kernel
theorem dJ7_copyOf_c38d5_13 : decode cJ7_copyOf_c38d5 13 = .ok (.areturn, 1) := by decide +kernel
theorem dJ7_copyOf_c38d5_14 : decode cJ7_copyOf_c38d5 14 = .ok (.iload_n 1, 1) := by decide +kernel
theorem dJ7_copyOf_c38d5_15 : decode cJ7_copyOf_c38d5 15 = .ok (.newarray .long, 2) := by decide +kernel
theorem dJ7_copyOf_c38d5_17 : decode cJ7_copyOf_c38d5 17 = .ok (.astore_n 2, 1) := by decide +kernel
theorem dJ7_copyOf_c38d5_18 : decode cJ7_copyOf_c38d5 18 = .ok (.aload_n 0, 1) := by decide +kernel
theorem dJ7_copyOf_c38d5_19 : decode cJ7_copyOf_c38d5 19 = .ok (.iconst 0, 1) := by decide +kernel
theorem dJ7_copyOf_c38d5_20 : decode cJ7_copyOf_c38d5 20 = .ok (.aload_n 2, 1) := by decide +kernel
theorem dJ7_copyOf_c38d5_21 : decode cJ7_copyOf_c38d5 21 = .ok (.iconst 0, 1) := by decide +kernel
theorem dJ7_copyOf_c38d5_22 : decode cJ7_copyOf_c38d5 22 = .ok (.aload_n 0, 1) := by decide +kernel
theorem dJ7_copyOf_c38d5_23 : decode cJ7_copyOf_c38d5 23 = .ok (.arraylength, 1) := by decide +kernel
theorem dJ7_copyOf_c38d5_24 : decode cJ7_copyOf_c38d5 24 = .ok (.iload_n 1, 1) := by decide +kernel
theorem dJ7_copyOf_c38d5_25 : decode cJ7_copyOf_c38d5 25 = .ok (.invokestatic 304, 3) := by decide +kernel
theorem dJ7_copyOf_c38d5_28 : decode cJ7_copyOf_c38d5 28 = .ok (.invokestatic 150, 3) := by decide +kernel
theorem dJ7_copyOf_c38d5_31 : decode cJ7_copyOf_c38d5 31 = .ok (.aload_n 2, 1) := by decide +kernel
theorem dJ7_copyOf_c38d5_32 : decode cJ7_copyOf_c38d5 32 = .ok (.areturn, 1) := by decide +kernel
def M_J7_copyOf_c38d5 : y_M := (yJ7_copyOf_c38d5, cJ7_copyOf_c38d5, 3, (Option.some (Jvm.ClassFile.FieldType.array Jvm.ClassFile.FieldType.long)))
theorem n_J7_copyOf_c38d5 : y_N0 M_J7_copyOf_c38d5 2 := ⟨(c_6 39 (by decide +kernel) rfl), (c_1 4 (by decide +kernel) rfl), ⟨by decide +kernel, by decide +kernel⟩, by decide +kernel⟩
theorem l_java_util_Arrays_304 : Cond.methodLink "java/util/Arrays" 304 Lib.Math.min.name ∈ y_tb := (c_6 47 (by decide +kernel) rfl)
theorem l_java_util_Arrays_150 : Cond.methodLink "java/util/Arrays" 150 arraycopyName ∈ y_tb := (c_6 48 (by decide +kernel) rfl)
set_option maxRecDepth 100000 in
def f_J7_copyOf_c38d5 (p0 : Nat) (p1 : Int32) (c0 s0 : Nat) (h : y_H) : Option ((Nat × Nat × Nat) × y_H) :=
  if y_K h p0 = 101 then
  if p1 = (nI (y_N h p0)) then
    none
  else
    if 10 ≤ 64 * Int32.toNatClampNeg p1 + 42 ∧ y_K h (64 * Int32.toNatClampNeg p1 + 42) = 0 ∧ ¬ p1 < 0 ∧ Int32.toNatClampNeg p1 * componentBytes (t_ay 1) ≤ 536870912 then
    y_bd (s_new h (64 * Int32.toNatClampNeg p1 + 42) 101 (Int32.toNatClampNeg p1)) (fun h3 =>
    if y_K h3 p0 = 101 then
    if y_K h3 p0 = 101 ∧ y_K h3 (64 * Int32.toNatClampNeg p1 + 42) = 101 ∧ ¬ (0 : Int32) < 0 ∧ ¬ (0 : Int32) < 0 ∧ ¬ (y_mn (nI (y_N h3 p0)) p1) < 0 ∧ Int32.toNatClampNeg 0 + Int32.toNatClampNeg (y_mn (nI (y_N h3 p0)) p1) ≤ y_N h3 p0 ∧ Int32.toNatClampNeg 0 + Int32.toNatClampNeg (y_mn (nI (y_N h3 p0)) p1) ≤ y_N h3 (64 * Int32.toNatClampNeg p1 + 42) then
    y_bd (s_cpL h3 p0 (64 * Int32.toNatClampNeg p1 + 42) (Int32.toNatClampNeg 0) (Int32.toNatClampNeg 0) (Int32.toNatClampNeg (y_mn (nI (y_N h3 p0)) p1))) (fun h4 =>
    some ((64 * Int32.toNatClampNeg p1 + 42, c0 + 1, s0 + Int32.toNatClampNeg p1), h4))
    else none
    else none)
    else none
  else none
abbrev FF_J7_copyOf_c38d5 : Nat := 1
abbrev LL_J7_copyOf_c38d5 : Nat := 100
set_option maxRecDepth 100000 in
set_option maxHeartbeats 4000000 in
theorem k_J7_copyOf_c38d5 {l : Launch} {G : y_G} {p0 : Nat} {p1 : Int32} {c0 s0 cz sz : Nat} {h hz : y_H} {rz : Nat} (hf : f_J7_copyOf_c38d5 p0 p1 c0 s0 h = some ((rz, cz, sz), hz)) : (c0 ≤ cz ∧ s0 ≤ sz) ∧ y_S l G M_J7_copyOf_c38d5 (y_Rm FF_J7_copyOf_c38d5 LL_J7_copyOf_c38d5 c0 s0 cz sz) [y_p p0, .int p1] h (some (y_p rz)) hz := by
  refine y_Ustart (lv := [(0, y_p p0), (1, .int p1)]) (by decide) (by simp [lg_sl, y_p_cat, y_ci, y_cj, M_J7_copyOf_c38d5]) (by simp [lv_args, y_p_cat, y_ci, y_cj]) (fun z ad0 => ?_)
  unfold f_J7_copyOf_c38d5 at hf
  refine y_lf (fun _ _ _ _ k => y_iload_n (pc2 := 1) rfl dJ7_copyOf_c38d5_0 rfl k) ?_
  refine y_lf (fun _ _ _ _ k => y_aload_n (x := p0) (pc2 := 2) rfl dJ7_copyOf_c38d5_1 rfl k) ?_
  obtain ⟨g9, hf⟩ := y_g hf
  refine y_lf (fun _ _ _ _ k => y_alen (t := 1) (pc2 := 3) rfl dJ7_copyOf_c38d5_2 (by decide) g9 k) ?_
  refine y_lf2 (Classical.em _).symm (fun _ _ k1 k2 => y_icmp_ne (tgt := 14) (pc2 := 6) rfl dJ7_copyOf_c38d5_3 (by decide) k1 k2) (fun c8 => ?_) (fun c8 => ?_)
  · replace hf := y_ie c8 hf
    refine y_lf (fun _ _ _ _ k => y_iload_n (pc2 := 15) rfl dJ7_copyOf_c38d5_14 rfl k) ?_
    obtain ⟨g1, hf⟩ := y_g hf
    obtain ⟨h3, e2, hf⟩ := y_bdE hf
    refine y_Unewa (t := 1) (n := 64 * Int32.toNatClampNeg p1 + 42) (pc2 := 17) rfl dJ7_copyOf_c38d5_15 (by decide) rfl rfl rfl ac_1 g1 e2 ?_
    refine y_lf (fun _ _ _ _ k => y_astore_n (lv' := [(2, y_p (64 * Int32.toNatClampNeg p1 + 42)), (0, y_p p0), (1, .int p1)]) (pc2 := 18) rfl dJ7_copyOf_c38d5_17 (by decide) rfl k) ?_
    refine y_lf (fun _ _ _ _ k => y_aload_n (x := p0) (pc2 := 19) rfl dJ7_copyOf_c38d5_18 rfl k) ?_
    refine y_lf (fun _ _ _ _ k => y_iconst (v := 0) (pc2 := 20) rfl dJ7_copyOf_c38d5_19 (by decide) k) ?_
    refine y_lf (fun _ _ _ _ k => y_aload_n (x := 64 * Int32.toNatClampNeg p1 + 42) (pc2 := 21) rfl dJ7_copyOf_c38d5_20 rfl k) ?_
    refine y_lf (fun _ _ _ _ k => y_iconst (v := 0) (pc2 := 22) rfl dJ7_copyOf_c38d5_21 (by decide) k) ?_
    refine y_lf (fun _ _ _ _ k => y_aload_n (x := p0) (pc2 := 23) rfl dJ7_copyOf_c38d5_22 rfl k) ?_
    obtain ⟨g7, hf⟩ := y_g hf
    refine y_lf (fun _ _ _ _ k => y_alen (t := 1) (pc2 := 24) rfl dJ7_copyOf_c38d5_23 (by decide) g7 k) ?_
    refine y_lf (fun _ _ _ _ k => y_iload_n (pc2 := 25) rfl dJ7_copyOf_c38d5_24 rfl k) ?_
    refine y_lf (fun _ _ hc hs k => y_mmn (pc2 := 28) rfl dJ7_copyOf_c38d5_25 l_java_util_Arrays_304 (Nat.le_of_ble_eq_true rfl) (Nat.le_of_ble_eq_true rfl) (by simp [y_ci, y_cj, y_p_cat]) hc hs k) ?_
    obtain ⟨g6, hf⟩ := y_g hf
    obtain ⟨h4, e5, hf⟩ := y_bdE hf
    refine y_lf (fun _ _ _ _ k => y_acpL (pc2 := 31) rfl dJ7_copyOf_c38d5_28 l_java_util_Arrays_150 (Nat.le_of_ble_eq_true rfl) (Nat.le_of_ble_eq_true rfl) (by decide) g6 e5 k) ?_
    refine y_lf (fun _ _ _ _ k => y_aload_n (x := 64 * Int32.toNatClampNeg p1 + 42) (pc2 := 32) rfl dJ7_copyOf_c38d5_31 rfl k) ?_
    exact y_aretU hf dJ7_copyOf_c38d5_32 rfl (Or.inr ⟨_, rfl⟩)
  · replace hf := y_it c8 hf
    refine y_lf (fun _ _ _ _ k => y_aload_n (x := p0) (pc2 := 7) rfl dJ7_copyOf_c38d5_6 rfl k) ?_
    cases hf
theorem dJ7_copyOf_59c91_0 : decode cJ7_copyOf_59c91 0 = .ok (.iload_n 1, 1) := by decide +kernel
theorem dJ7_copyOf_59c91_1 : decode cJ7_copyOf_59c91 1 = .ok (.aload_n 0, 1) := by decide +kernel
theorem dJ7_copyOf_59c91_2 : decode cJ7_copyOf_59c91 2 = .ok (.arraylength, 1) := by decide +kernel
theorem dJ7_copyOf_59c91_3 : decode cJ7_copyOf_59c91 3 = .ok (.if_icmp .ne 11, 3) := by decide +kernel
theorem dJ7_copyOf_59c91_6 : decode cJ7_copyOf_59c91 6 = .ok (.aload_n 0, 1) := by decide +kernel
theorem dJ7_copyOf_59c91_7 : decode cJ7_copyOf_59c91 7 = .ok (.invokevirtual 316, 3) := by decide +kernel
theorem dJ7_copyOf_59c91_10 : decode cJ7_copyOf_59c91 10 = .ok (.checkcast 317, 3) := by decide +kernel
theorem dJ7_copyOf_59c91_13 : decode cJ7_copyOf_59c91 13 = .ok (.areturn, 1) := by decide +kernel
theorem dJ7_copyOf_59c91_14 : decode cJ7_copyOf_59c91 14 = .ok (.iload_n 1, 1) := by decide +kernel
theorem dJ7_copyOf_59c91_15 : decode cJ7_copyOf_59c91 15 = .ok (.newarray .int, 2) := by decide +kernel
theorem dJ7_copyOf_59c91_17 : decode cJ7_copyOf_59c91 17 = .ok (.astore_n 2, 1) := by decide +kernel
theorem dJ7_copyOf_59c91_18 : decode cJ7_copyOf_59c91 18 = .ok (.aload_n 0, 1) := by decide +kernel
theorem dJ7_copyOf_59c91_19 : decode cJ7_copyOf_59c91 19 = .ok (.iconst 0, 1) := by decide +kernel
theorem dJ7_copyOf_59c91_20 : decode cJ7_copyOf_59c91 20 = .ok (.aload_n 2, 1) := by decide +kernel
theorem dJ7_copyOf_59c91_21 : decode cJ7_copyOf_59c91 21 = .ok (.iconst 0, 1) := by decide +kernel
theorem dJ7_copyOf_59c91_22 : decode cJ7_copyOf_59c91 22 = .ok (.aload_n 0, 1) := by decide +kernel
theorem dJ7_copyOf_59c91_23 : decode cJ7_copyOf_59c91 23 = .ok (.arraylength, 1) := by decide +kernel
theorem dJ7_copyOf_59c91_24 : decode cJ7_copyOf_59c91 24 = .ok (.iload_n 1, 1) := by decide +kernel
theorem dJ7_copyOf_59c91_25 : decode cJ7_copyOf_59c91 25 = .ok (.invokestatic 304, 3) := by decide +kernel
theorem dJ7_copyOf_59c91_28 : decode cJ7_copyOf_59c91 28 = .ok (.invokestatic 150, 3) := by decide +kernel
theorem dJ7_copyOf_59c91_31 : decode cJ7_copyOf_59c91 31 = .ok (.aload_n 2, 1) := by decide +kernel
theorem dJ7_copyOf_59c91_32 : decode cJ7_copyOf_59c91 32 = .ok (.areturn, 1) := by decide +kernel
def M_J7_copyOf_59c91 : y_M := (yJ7_copyOf_59c91, cJ7_copyOf_59c91, 3, (Option.some (Jvm.ClassFile.FieldType.array Jvm.ClassFile.FieldType.int)))
theorem n_J7_copyOf_59c91 : y_N0 M_J7_copyOf_59c91 2 := ⟨(c_6 53 (by decide +kernel) rfl), (c_1 4 (by decide +kernel) rfl), ⟨by decide +kernel, by decide +kernel⟩, by decide +kernel⟩
set_option maxRecDepth 100000 in
def f_J7_copyOf_59c91 (p0 : Nat) (p1 : Int32) (c0 s0 : Nat) (h : y_H) : Option ((Nat × Nat × Nat) × y_H) :=
  if y_K h p0 = 100 then
  if p1 = (nI (y_N h p0)) then
    none
  else
    if 10 ≤ 64 * Int32.toNatClampNeg p1 + 43 ∧ y_K h (64 * Int32.toNatClampNeg p1 + 43) = 0 ∧ ¬ p1 < 0 ∧ Int32.toNatClampNeg p1 * componentBytes (t_ay 0) ≤ 536870912 then
    y_bd (s_new h (64 * Int32.toNatClampNeg p1 + 43) 100 (Int32.toNatClampNeg p1)) (fun h3 =>
    if y_K h3 p0 = 100 then
    if y_K h3 p0 = 100 ∧ y_K h3 (64 * Int32.toNatClampNeg p1 + 43) = 100 ∧ ¬ (0 : Int32) < 0 ∧ ¬ (0 : Int32) < 0 ∧ ¬ (y_mn (nI (y_N h3 p0)) p1) < 0 ∧ Int32.toNatClampNeg 0 + Int32.toNatClampNeg (y_mn (nI (y_N h3 p0)) p1) ≤ y_N h3 p0 ∧ Int32.toNatClampNeg 0 + Int32.toNatClampNeg (y_mn (nI (y_N h3 p0)) p1) ≤ y_N h3 (64 * Int32.toNatClampNeg p1 + 43) then
    y_bd (s_cpI h3 p0 (64 * Int32.toNatClampNeg p1 + 43) (Int32.toNatClampNeg 0) (Int32.toNatClampNeg 0) (Int32.toNatClampNeg (y_mn (nI (y_N h3 p0)) p1))) (fun h4 =>
    some ((64 * Int32.toNatClampNeg p1 + 43, c0 + 1, s0 + Int32.toNatClampNeg p1), h4))
    else none
    else none)
    else none
  else none
abbrev FF_J7_copyOf_59c91 : Nat := 1
abbrev LL_J7_copyOf_59c91 : Nat := 100
set_option maxRecDepth 100000 in
set_option maxHeartbeats 4000000 in
theorem k_J7_copyOf_59c91 {l : Launch} {G : y_G} {p0 : Nat} {p1 : Int32} {c0 s0 cz sz : Nat} {h hz : y_H} {rz : Nat} (hf : f_J7_copyOf_59c91 p0 p1 c0 s0 h = some ((rz, cz, sz), hz)) : (c0 ≤ cz ∧ s0 ≤ sz) ∧ y_S l G M_J7_copyOf_59c91 (y_Rm FF_J7_copyOf_59c91 LL_J7_copyOf_59c91 c0 s0 cz sz) [y_p p0, .int p1] h (some (y_p rz)) hz := by
  refine y_Ustart (lv := [(0, y_p p0), (1, .int p1)]) (by decide) (by simp [lg_sl, y_p_cat, y_ci, y_cj, M_J7_copyOf_59c91]) (by simp [lv_args, y_p_cat, y_ci, y_cj]) (fun z ad0 => ?_)
  unfold f_J7_copyOf_59c91 at hf
  refine y_lf (fun _ _ _ _ k => y_iload_n (pc2 := 1) rfl dJ7_copyOf_59c91_0 rfl k) ?_
  refine y_lf (fun _ _ _ _ k => y_aload_n (x := p0) (pc2 := 2) rfl dJ7_copyOf_59c91_1 rfl k) ?_
  obtain ⟨g9, hf⟩ := y_g hf
  refine y_lf (fun _ _ _ _ k => y_alen (t := 0) (pc2 := 3) rfl dJ7_copyOf_59c91_2 (by decide) g9 k) ?_
  refine y_lf2 (Classical.em _).symm (fun _ _ k1 k2 => y_icmp_ne (tgt := 14) (pc2 := 6) rfl dJ7_copyOf_59c91_3 (by decide) k1 k2) (fun c8 => ?_) (fun c8 => ?_)
  · replace hf := y_ie c8 hf
    refine y_lf (fun _ _ _ _ k => y_iload_n (pc2 := 15) rfl dJ7_copyOf_59c91_14 rfl k) ?_
    obtain ⟨g1, hf⟩ := y_g hf
    obtain ⟨h3, e2, hf⟩ := y_bdE hf
    refine y_Unewa (t := 0) (n := 64 * Int32.toNatClampNeg p1 + 43) (pc2 := 17) rfl dJ7_copyOf_59c91_15 (by decide) rfl rfl rfl ac_0 g1 e2 ?_
    refine y_lf (fun _ _ _ _ k => y_astore_n (lv' := [(2, y_p (64 * Int32.toNatClampNeg p1 + 43)), (0, y_p p0), (1, .int p1)]) (pc2 := 18) rfl dJ7_copyOf_59c91_17 (by decide) rfl k) ?_
    refine y_lf (fun _ _ _ _ k => y_aload_n (x := p0) (pc2 := 19) rfl dJ7_copyOf_59c91_18 rfl k) ?_
    refine y_lf (fun _ _ _ _ k => y_iconst (v := 0) (pc2 := 20) rfl dJ7_copyOf_59c91_19 (by decide) k) ?_
    refine y_lf (fun _ _ _ _ k => y_aload_n (x := 64 * Int32.toNatClampNeg p1 + 43) (pc2 := 21) rfl dJ7_copyOf_59c91_20 rfl k) ?_
    refine y_lf (fun _ _ _ _ k => y_iconst (v := 0) (pc2 := 22) rfl dJ7_copyOf_59c91_21 (by decide) k) ?_
    refine y_lf (fun _ _ _ _ k => y_aload_n (x := p0) (pc2 := 23) rfl dJ7_copyOf_59c91_22 rfl k) ?_
    obtain ⟨g7, hf⟩ := y_g hf
    refine y_lf (fun _ _ _ _ k => y_alen (t := 0) (pc2 := 24) rfl dJ7_copyOf_59c91_23 (by decide) g7 k) ?_
    refine y_lf (fun _ _ _ _ k => y_iload_n (pc2 := 25) rfl dJ7_copyOf_59c91_24 rfl k) ?_
    refine y_lf (fun _ _ hc hs k => y_mmn (pc2 := 28) rfl dJ7_copyOf_59c91_25 l_java_util_Arrays_304 (Nat.le_of_ble_eq_true rfl) (Nat.le_of_ble_eq_true rfl) (by simp [y_ci, y_cj, y_p_cat]) hc hs k) ?_
    obtain ⟨g6, hf⟩ := y_g hf
    obtain ⟨h4, e5, hf⟩ := y_bdE hf
    refine y_lf (fun _ _ _ _ k => y_acpI (pc2 := 31) rfl dJ7_copyOf_59c91_28 l_java_util_Arrays_150 (Nat.le_of_ble_eq_true rfl) (Nat.le_of_ble_eq_true rfl) (by decide) g6 e5 k) ?_
    refine y_lf (fun _ _ _ _ k => y_aload_n (x := 64 * Int32.toNatClampNeg p1 + 43) (pc2 := 32) rfl dJ7_copyOf_59c91_31 rfl k) ?_
    exact y_aretU hf dJ7_copyOf_59c91_32 rfl (Or.inr ⟨_, rfl⟩)
  · replace hf := y_it c8 hf
    refine y_lf (fun _ _ _ _ k => y_aload_n (x := p0) (pc2 := 7) rfl dJ7_copyOf_59c91_6 rfl k) ?_
    cases hf
theorem dX6_grow_0 : decode cX6_grow 0 = .ok (.iconst 2, 1) := by decide +kernel
theorem dX6_grow_1 : decode cX6_grow 1 = .ok (.aload_n 0, 1) := by decide +kernel
theorem dX6_grow_2 : decode cX6_grow 2 = .ok (.getfield 20, 3) := by decide +kernel
theorem dX6_grow_5 : decode cX6_grow 5 = .ok (.arraylength, 1) := by decide +kernel
theorem dX6_grow_6 : decode cX6_grow 6 = .ok (.imul, 1) := by decide +kernel
theorem dX6_grow_7 : decode cX6_grow 7 = .ok (.istore_n 1, 1) := by decide +kernel
theorem dX6_grow_8 : decode cX6_grow 8 = .ok (.aload_n 0, 1) := by decide +kernel
theorem dX6_grow_9 : decode cX6_grow 9 = .ok (.aload_n 0, 1) := by decide +kernel
theorem dX6_grow_10 : decode cX6_grow 10 = .ok (.getfield 20, 3) := by decide +kernel
theorem dX6_grow_13 : decode cX6_grow 13 = .ok (.iload_n 1, 1) := by decide +kernel
theorem dX6_grow_14 : decode cX6_grow 14 = .ok (.invokestatic 123, 3) := by decide +kernel
theorem dX6_grow_17 : decode cX6_grow 17 = .ok (.putfield 20, 3) := by decide +kernel
theorem dX6_grow_20 : decode cX6_grow 20 = .ok (.aload_n 0, 1) := by decide +kernel
theorem dX6_grow_21 : decode cX6_grow 21 = .ok (.aload_n 0, 1) := by decide +kernel
theorem dX6_grow_22 : decode cX6_grow 22 = .ok (.getfield 24, 3) := by decide +kernel
theorem dX6_grow_25 : decode cX6_grow 25 = .ok (.iload_n 1, 1) := by decide +kernel
theorem dX6_grow_26 : decode cX6_grow 26 = .ok (.invokestatic 127, 3) := by decide +kernel
theorem dX6_grow_29 : decode cX6_grow 29 = .ok (.putfield 24, 3) := by decide +kernel
theorem dX6_grow_32 : decode cX6_grow 32 = .ok (.aload_n 0, 1) := by decide +kernel
theorem dX6_grow_33 : decode cX6_grow 33 = .ok (.iconst 2, 1) := by decide +kernel
theorem dX6_grow_34 : decode cX6_grow 34 = .ok (.iload_n 1, 1) := by decide +kernel
theorem dX6_grow_35 : decode cX6_grow 35 = .ok (.imul, 1) := by decide +kernel
theorem dX6_grow_36 : decode cX6_grow 36 = .ok (.newarray .int, 2) := by decide +kernel
theorem dX6_grow_38 : decode cX6_grow 38 = .ok (.putfield 27, 3) := by decide +kernel
theorem dX6_grow_41 : decode cX6_grow 41 = .ok (.iconst 0, 1) := by decide +kernel
theorem dX6_grow_42 : decode cX6_grow 42 = .ok (.istore_n 2, 1) := by decide +kernel
theorem dX6_grow_43 : decode cX6_grow 43 = .ok (.iload_n 2, 1) := by decide +kernel
theorem dX6_grow_44 : decode cX6_grow 44 = .ok (.aload_n 0, 1) := by decide +kernel
theorem dX6_grow_45 : decode cX6_grow 45 = .ok (.getfield 84, 3) := by decide +kernel
theorem dX6_grow_48 : decode cX6_grow 48 = .ok (.if_icmp .ge 27, 3) := by decide +kernel
theorem dX6_grow_51 : decode cX6_grow 51 = .ok (.aload_n 0, 1) := by decide +kernel
theorem dX6_grow_52 : decode cX6_grow 52 = .ok (.getfield 27, 3) := by decide +kernel
theorem dX6_grow_55 : decode cX6_grow 55 = .ok (.aload_n 0, 1) := by decide +kernel
theorem dX6_grow_56 : decode cX6_grow 56 = .ok (.aload_n 0, 1) := by decide +kernel
theorem dX6_grow_57 : decode cX6_grow 57 = .ok (.getfield 20, 3) := by decide +kernel
theorem dX6_grow_60 : decode cX6_grow 60 = .ok (.iload_n 2, 1) := by decide +kernel
theorem dX6_grow_61 : decode cX6_grow 61 = .ok (.laload, 1) := by decide +kernel
theorem dX6_grow_62 : decode cX6_grow 62 = .ok (.invokevirtual 90, 3) := by decide +kernel
theorem dX6_grow_65 : decode cX6_grow 65 = .ok (.iload_n 2, 1) := by decide +kernel
theorem dX6_grow_66 : decode cX6_grow 66 = .ok (.iconst 1, 1) := by decide +kernel
theorem dX6_grow_67 : decode cX6_grow 67 = .ok (.iadd, 1) := by decide +kernel
theorem dX6_grow_68 : decode cX6_grow 68 = .ok (.iastore, 1) := by decide +kernel
theorem dX6_grow_69 : decode cX6_grow 69 = .ok (.iinc 2 1, 3) := by decide +kernel
theorem dX6_grow_72 : decode cX6_grow 72 = .ok (.goto (-29), 3) := by decide +kernel
theorem dX6_grow_75 : decode cX6_grow 75 = .ok (.return_, 1) := by decide +kernel
def M_X6_grow : y_M := (yX6_grow, cX6_grow, 3, (Option.none : Option Jvm.ClassFile.FieldType))
theorem n_X6_grow : y_N0 M_X6_grow 0 := ⟨(c_6 36 (by decide +kernel) rfl), (c_1 15 (by decide +kernel) rfl), ⟨by decide +kernel, by decide +kernel⟩, by decide +kernel⟩
theorem l_BoxYard_Search_123 : y_lnk "BoxYard$Search" 123 M_J7_copyOf_c38d5 := Or.inl (c_6 37 (by decide +kernel) rfl)
theorem t_J7_copyOf_c38d5 : Cond.static (M_J7_copyOf_c38d5).1 ∈ y_tb := (c_6 38 (by decide +kernel) rfl)
theorem Fp_BoxYard_Search_20 {nm : String} : y_Fp "BoxYard$Search" nm 20 6 4 := ⟨_, _, _, rfl, by decide, Or.inl ⟨rfl, Or.inl (c_5 207 (by decide +kernel) rfl)⟩⟩
theorem l_BoxYard_Search_127 : y_lnk "BoxYard$Search" 127 M_J7_copyOf_59c91 := Or.inl (c_6 51 (by decide +kernel) rfl)
theorem t_J7_copyOf_59c91 : Cond.static (M_J7_copyOf_59c91).1 ∈ y_tb := (c_6 52 (by decide +kernel) rfl)
theorem Fp_BoxYard_Search_24 {nm : String} : y_Fp "BoxYard$Search" nm 24 6 5 := ⟨_, _, _, rfl, by decide, Or.inl ⟨rfl, Or.inl (c_5 208 (by decide +kernel) rfl)⟩⟩
theorem Fp_BoxYard_Search_27 {nm : String} : y_Fp "BoxYard$Search" nm 27 6 6 := ⟨_, _, _, rfl, by decide, Or.inl ⟨rfl, Or.inl (c_5 209 (by decide +kernel) rfl)⟩⟩
set_option maxRecDepth 100000 in
def f_X6_grow (p0 : Nat) (c0 s0 : Nat) (h : y_H) : Option ((Unit × Nat × Nat) × y_H) :=
  if y_K h p0 = 7 then
  if y_K h (y_P h p0 4) = 101 then
  if y_K h p0 = 7 then
  y_cl (f_J7_copyOf_c38d5 (y_P h p0 4) (2 * (nI (y_N h (y_P h p0 4)))) c0 s0 h) (fun r1 h2 =>
  if y_K h2 p0 = 7 then
  y_bd (s_P h2 p0 4 r1.1) (fun h4 =>
  if y_K h4 p0 = 7 then
  y_cl (f_J7_copyOf_59c91 (y_P h4 p0 5) (2 * (nI (y_N h (y_P h p0 4)))) r1.2.1 r1.2.2 h4) (fun r7 h8 =>
  if y_K h8 p0 = 7 then
  y_bd (s_P h8 p0 5 r7.1) (fun h10 =>
  if 10 ≤ 64 * Int32.toNatClampNeg (2 * (2 * (nI (y_N h (y_P h p0 4))))) + 44 ∧ y_K h10 (64 * Int32.toNatClampNeg (2 * (2 * (nI (y_N h (y_P h p0 4))))) + 44) = 0 ∧ ¬ (2 * (2 * (nI (y_N h (y_P h p0 4))))) < 0 ∧ Int32.toNatClampNeg (2 * (2 * (nI (y_N h (y_P h p0 4))))) * componentBytes (t_ay 0) ≤ 536870912 then
  y_bd (s_new h10 (64 * Int32.toNatClampNeg (2 * (2 * (nI (y_N h (y_P h p0 4))))) + 44) 100 (Int32.toNatClampNeg (2 * (2 * (nI (y_N h (y_P h p0 4))))))) (fun h15 =>
  if y_K h15 p0 = 7 then
  y_bd (s_P h15 p0 6 (64 * Int32.toNatClampNeg (2 * (2 * (nI (y_N h (y_P h p0 4))))) + 44)) (fun h16 =>
  y_jl (fun (_ : Nat) (_ : Int32) (_ : Nat) (_ : Nat) (_ : y_H) => (none : Option ((Unit × Nat × Nat) × y_H))) (fun j43 (v0_43 : Nat) (v2_43 : Int32) (c43 : Nat) (s43 : Nat) (h19 : y_H) =>
      if y_K h19 v0_43 = 7 then
      if (y_I h19 v0_43 7) ≤ v2_43 then
        some (((), c43, s43), h19)
      else
        if y_K h19 v0_43 = 7 then
        if y_K h19 v0_43 = 7 then
        if y_K h19 (y_P h19 v0_43 4) = 101 ∧ y_ix v2_43 (y_N h19 (y_P h19 v0_43 4)) = true then
        if y_K h19 v0_43 = 7 then
        y_cl (f_X6_slotOf v0_43 (y_L h19 (y_P h19 v0_43 4) (Int32.toNatClampNeg v2_43)) h19) (fun r20 h21 =>
        if y_K h21 (y_P h19 v0_43 6) = 100 ∧ y_ix r20 (y_N h21 (y_P h19 v0_43 6)) = true then
        y_bd (s_I h21 (y_P h19 v0_43 6) (Int32.toNatClampNeg r20) (v2_43 + 1)) (fun h23 =>
        j43 v0_43 (v2_43 + 1) c43 s43 h23)
        else none)
        else none
        else none
        else none
        else none
      else none) (fun j43 =>
  j43 p0 0 (r7.2.1 + 1) (r7.2.2 + Int32.toNatClampNeg (2 * (2 * (nI (y_N h (y_P h p0 4)))))) h16))
  else none)
  else none)
  else none)
  else none)
  else none)
  else none
  else none
  else none
abbrev FF_X6_grow : Nat := 2
abbrev LL_X6_grow : Nat := 122
set_option maxRecDepth 100000 in
set_option maxHeartbeats 4000000 in
theorem k_X6_grow {l : Launch} {G : y_G} {p0 : Nat} {c0 s0 cz sz : Nat} {h hz : y_H} {rz : Unit} (hf : f_X6_grow p0 c0 s0 h = some ((rz, cz, sz), hz)) : (c0 ≤ cz ∧ s0 ≤ sz) ∧ y_S l G M_X6_grow (y_Rm FF_X6_grow LL_X6_grow c0 s0 cz sz) [y_p p0] h none hz := by
  refine y_Ustart (lv := [(0, y_p p0)]) (by decide) (by simp [lg_sl, y_p_cat, y_ci, y_cj, M_X6_grow]) (by simp [lv_args, y_p_cat, y_ci, y_cj]) (fun z ad0 => ?_)
  unfold f_X6_grow at hf
  refine y_lf (fun _ _ _ _ k => y_iconst (v := 2) (pc2 := 1) rfl dX6_grow_0 (by decide) k) ?_
  refine y_lf (fun _ _ _ _ k => y_aload_n (x := p0) (pc2 := 2) rfl dX6_grow_1 rfl k) ?_
  obtain ⟨g35, hf⟩ := y_g hf
  refine y_lf (fun _ _ _ _ k => y_getP (pc2 := 5) rfl dX6_grow_2 F_BoxYard_Search_20 (by decide) rfl g35 k) ?_
  obtain ⟨g34, hf⟩ := y_g hf
  refine y_lf (fun _ _ _ _ k => y_alen (t := 1) (pc2 := 6) rfl dX6_grow_5 (by decide) g34 k) ?_
  refine y_lf (fun _ _ _ _ k => y_imul (pc2 := 7) rfl dX6_grow_6 k) ?_
  refine y_lf (fun _ _ _ _ k => y_istore_n (lv' := [(1, .int (2 * (nI (y_N h (y_P h p0 4))))), (0, y_p p0)]) (pc2 := 8) rfl dX6_grow_7 (by decide) (by show y_st1 _ 1 _ = _; simp [y_st1, y_p_cat, y_ci, y_cj]) k) ?_
  refine y_lf (fun _ _ _ _ k => y_aload_n (x := p0) (pc2 := 9) rfl dX6_grow_8 rfl k) ?_
  refine y_lf (fun _ _ _ _ k => y_aload_n (x := p0) (pc2 := 10) rfl dX6_grow_9 rfl k) ?_
  obtain ⟨g33, hf⟩ := y_g hf
  refine y_lf (fun _ _ _ _ k => y_getP (pc2 := 13) rfl dX6_grow_10 F_BoxYard_Search_20 (by decide) rfl g33 k) ?_
  refine y_lf (fun _ _ _ _ k => y_iload_n (pc2 := 14) rfl dX6_grow_13 rfl k) ?_
  obtain ⟨r1, h2, c3, hf⟩ := y_clE hf
  refine y_UcallS (As := [y_p (y_P h p0 4), .int (2 * (nI (y_N h (y_P h p0 4))))]) (pc2 := 17) rfl dX6_grow_14 n_J7_copyOf_c38d5 l_BoxYard_Search_123 t_J7_copyOf_c38d5 rfl rfl (by decide) (by simp [y_ci, y_cj, y_p_cat]) (k_J7_copyOf_c38d5 c3) ?_
  obtain ⟨g6, hf⟩ := y_g hf
  obtain ⟨h4, e5, hf⟩ := y_bdE hf
  refine y_lf (fun _ _ _ _ k => y_putP (x := r1.1) (pc2 := 20) rfl dX6_grow_17 Fp_BoxYard_Search_20 (by decide) rfl g6 e5 k) ?_
  refine y_lf (fun _ _ _ _ k => y_aload_n (x := p0) (pc2 := 21) rfl dX6_grow_20 rfl k) ?_
  refine y_lf (fun _ _ _ _ k => y_aload_n (x := p0) (pc2 := 22) rfl dX6_grow_21 rfl k) ?_
  obtain ⟨g32, hf⟩ := y_g hf
  refine y_lf (fun _ _ _ _ k => y_getP (pc2 := 25) rfl dX6_grow_22 F_BoxYard_Search_24 (by decide) rfl g32 k) ?_
  refine y_lf (fun _ _ _ _ k => y_iload_n (pc2 := 26) rfl dX6_grow_25 rfl k) ?_
  obtain ⟨r7, h8, c9, hf⟩ := y_clE hf
  refine y_UcallS (As := [y_p (y_P h4 p0 5), .int (2 * (nI (y_N h (y_P h p0 4))))]) (pc2 := 29) rfl dX6_grow_26 n_J7_copyOf_59c91 l_BoxYard_Search_127 t_J7_copyOf_59c91 rfl rfl (by decide) (by simp [y_ci, y_cj, y_p_cat]) (k_J7_copyOf_59c91 c9) ?_
  obtain ⟨g12, hf⟩ := y_g hf
  obtain ⟨h10, e11, hf⟩ := y_bdE hf
  refine y_lf (fun _ _ _ _ k => y_putP (x := r7.1) (pc2 := 32) rfl dX6_grow_29 Fp_BoxYard_Search_24 (by decide) rfl g12 e11 k) ?_
  refine y_lf (fun _ _ _ _ k => y_aload_n (x := p0) (pc2 := 33) rfl dX6_grow_32 rfl k) ?_
  refine y_lf (fun _ _ _ _ k => y_iconst (v := 2) (pc2 := 34) rfl dX6_grow_33 (by decide) k) ?_
  refine y_lf (fun _ _ _ _ k => y_iload_n (pc2 := 35) rfl dX6_grow_34 rfl k) ?_
  refine y_lf (fun _ _ _ _ k => y_imul (pc2 := 36) rfl dX6_grow_35 k) ?_
  obtain ⟨g13, hf⟩ := y_g hf
  obtain ⟨h15, e14, hf⟩ := y_bdE hf
  refine y_Unewa (t := 0) (n := 64 * Int32.toNatClampNeg (2 * (2 * (nI (y_N h (y_P h p0 4))))) + 44) (pc2 := 38) rfl dX6_grow_36 (by decide) rfl rfl rfl ac_0 g13 e14 ?_
  obtain ⟨g18, hf⟩ := y_g hf
  obtain ⟨h16, e17, hf⟩ := y_bdE hf
  refine y_lf (fun _ _ _ _ k => y_putP (x := 64 * Int32.toNatClampNeg (2 * (2 * (nI (y_N h (y_P h p0 4))))) + 44) (pc2 := 41) rfl dX6_grow_38 Fp_BoxYard_Search_27 (by decide) rfl g18 e17 k) ?_
  refine y_lf (fun _ _ _ _ k => y_iconst (v := 0) (pc2 := 42) rfl dX6_grow_41 (by decide) k) ?_
  refine y_jlE hf (fun j => ∀ (v0_43 : Nat) (v2_43 : Int32) (c43 : Nat) (s43 : Nat) (h19 : y_H), j v0_43 v2_43 c43 s43 h19 = some ((rz, cz, sz), hz) → y_U l G z FF_X6_grow LL_X6_grow (cz - c0) (sz - s0) c0 s0 cz sz M_X6_grow ad0 h none hz 43 [(0, y_p v0_43), (2, .int v2_43)] [] h19 c43 s43) (fun _ _ _ _ _ hf => by cases hf) (fun j43 hj43 v0_43 v2_43 c43 s43 h19 hf => ?_) (fun j43 hj43 hf => ?_)
  · refine y_lf (fun _ _ _ _ k => y_iload_n (pc2 := 44) rfl dX6_grow_43 rfl k) ?_
    refine y_lf (fun _ _ _ _ k => y_aload_n (x := v0_43) (pc2 := 45) rfl dX6_grow_44 rfl k) ?_
    obtain ⟨g31, hf⟩ := y_g hf
    refine y_lf (fun _ _ _ _ k => y_getI (pc2 := 48) rfl dX6_grow_45 F_BoxYard_Search_84 (by decide) rfl g31 k) ?_
    refine y_lf2 (Classical.em _) (fun _ _ k1 k2 => y_icmp_ge (tgt := 75) (pc2 := 51) rfl dX6_grow_48 (by decide) k1 k2) (fun c30 => ?_) (fun c30 => ?_)
    · replace hf := y_it c30 hf
      exact y_vretU hf dX6_grow_75 rfl
    · replace hf := y_ie c30 hf
      refine y_lf (fun _ _ _ _ k => y_aload_n (x := v0_43) (pc2 := 52) rfl dX6_grow_51 rfl k) ?_
      obtain ⟨g29, hf⟩ := y_g hf
      refine y_lf (fun _ _ _ _ k => y_getP (pc2 := 55) rfl dX6_grow_52 F_BoxYard_Search_27 (by decide) rfl g29 k) ?_
      refine y_lf (fun _ _ _ _ k => y_aload_n (x := v0_43) (pc2 := 56) rfl dX6_grow_55 rfl k) ?_
      refine y_lf (fun _ _ _ _ k => y_aload_n (x := v0_43) (pc2 := 57) rfl dX6_grow_56 rfl k) ?_
      obtain ⟨g28, hf⟩ := y_g hf
      refine y_lf (fun _ _ _ _ k => y_getP (pc2 := 60) rfl dX6_grow_57 F_BoxYard_Search_20 (by decide) rfl g28 k) ?_
      refine y_lf (fun _ _ _ _ k => y_iload_n (pc2 := 61) rfl dX6_grow_60 rfl k) ?_
      obtain ⟨g27, hf⟩ := y_g hf
      refine y_lf (fun _ _ _ _ k => y_lald (pc2 := 62) rfl dX6_grow_61 g27.1 (y_ix_in g27.2) k) ?_
      obtain ⟨g26, hf⟩ := y_g hf
      obtain ⟨r20, h21, c22, hf⟩ := y_clE hf
      refine y_UcV0 (As := [.long (y_L h19 (y_P h19 v0_43 4) (Int32.toNatClampNeg v2_43))]) (rm := rm_X6_slotOf) (pc2 := 65) rfl dX6_grow_62 n_X6_slotOf l_BoxYard_Search_90 i_X6_slotOf e_X6_slotOf (ci := 6) rfl rfl (by decide) g26 rfl rfl (by decide) (by simp [y_ci, y_cj, y_p_cat]) rfl rfl (k_X6_slotOf c22) ?_
      refine y_lf (fun _ _ _ _ k => y_iload_n (pc2 := 66) rfl dX6_grow_65 rfl k) ?_
      refine y_lf (fun _ _ _ _ k => y_iconst (v := 1) (pc2 := 67) rfl dX6_grow_66 (by decide) k) ?_
      refine y_lf (fun _ _ _ _ k => y_iadd (pc2 := 68) rfl dX6_grow_67 k) ?_
      obtain ⟨g25, hf⟩ := y_g hf
      obtain ⟨h23, e24, hf⟩ := y_bdE hf
      refine y_lf (fun _ _ _ _ k => y_iast (x := v2_43 + 1) (pc2 := 69) rfl dX6_grow_68 g25.1 (y_ix_in g25.2) e24 k) ?_
      refine y_lf (fun _ _ _ _ k => y_iinc (v := v2_43 + 1) (lv' := [(2, .int (v2_43 + 1)), (0, y_p v0_43)]) (pc2 := 72) rfl dX6_grow_69 rfl rfl (by decide) rfl k) ?_
      refine y_lf (fun _ _ _ _ k => y_goto (tgt := 43) dX6_grow_72 (by decide) k) ?_
      exact y_lf (fun _ _ _ _ k => y_pk [1, 0] rfl k) (hj43 _ _ _ _ _ hf)
  · refine y_lf (fun _ _ _ _ k => y_istore_n (lv' := [(2, .int 0), (1, .int (2 * (nI (y_N h (y_P h p0 4))))), (0, y_p p0)]) (pc2 := 43) rfl dX6_grow_42 (by decide) rfl k) ?_
    exact y_lf (fun _ _ _ _ k => y_pk [2, 0] rfl k) (hj43 _ _ _ _ _ hf)
theorem dX6_sweep_0 : decode cX6_sweep 0 = .ok (.aload_n 0, 1) := by decide +kernel
theorem dX6_sweep_1 : decode cX6_sweep 1 = .ok (.getfield 27, 3) := by decide +kernel
theorem dX6_sweep_4 : decode cX6_sweep 4 = .ok (.iconst 0, 1) := by decide +kernel
theorem dX6_sweep_5 : decode cX6_sweep 5 = .ok (.invokestatic 78, 3) := by decide +kernel
theorem dX6_sweep_8 : decode cX6_sweep 8 = .ok (.aload_n 0, 1) := by decide +kernel
theorem dX6_sweep_9 : decode cX6_sweep 9 = .ok (.iconst 0, 1) := by decide +kernel
theorem dX6_sweep_10 : decode cX6_sweep 10 = .ok (.putfield 84, 3) := by decide +kernel
theorem dX6_sweep_13 : decode cX6_sweep 13 = .ok (.aload_n 0, 1) := by decide +kernel
theorem dX6_sweep_14 : decode cX6_sweep 14 = .ok (.iconst 0, 1) := by decide +kernel
theorem dX6_sweep_15 : decode cX6_sweep 15 = .ok (.putfield 51, 3) := by decide +kernel
theorem dX6_sweep_18 : decode cX6_sweep 18 = .ok (.aload_n 0, 1) := by decide +kernel
theorem dX6_sweep_19 : decode cX6_sweep 19 = .ok (.bipush (-9), 2) := by decide +kernel
theorem dX6_sweep_21 : decode cX6_sweep 21 = .ok (.putfield 87, 3) := by decide +kernel
theorem dX6_sweep_24 : decode cX6_sweep 24 = .ok (.aload_n 0, 1) := by decide +kernel
theorem dX6_sweep_25 : decode cX6_sweep 25 = .ok (.lload_n 1, 1) := by decide +kernel
theorem dX6_sweep_26 : decode cX6_sweep 26 = .ok (.iconst 0, 1) := by decide +kernel
theorem dX6_sweep_27 : decode cX6_sweep 27 = .ok (.aload_n 0, 1) := by decide +kernel
theorem dX6_sweep_28 : decode cX6_sweep 28 = .ok (.lload_n 1, 1) := by decide +kernel
theorem dX6_sweep_29 : decode cX6_sweep 29 = .ok (.invokevirtual 90, 3) := by decide +kernel
theorem dX6_sweep_32 : decode cX6_sweep 32 = .ok (.invokevirtual 93, 3) := by decide +kernel
theorem dX6_sweep_35 : decode cX6_sweep 35 = .ok (.pop, 1) := by decide +kernel
theorem dX6_sweep_36 : decode cX6_sweep 36 = .ok (.iconst 0, 1) := by decide +kernel
theorem dX6_sweep_37 : decode cX6_sweep 37 = .ok (.istore 4, 2) := by decide +kernel
theorem dX6_sweep_39 : decode cX6_sweep 39 = .ok (.aload_n 0, 1) := by decide +kernel
theorem dX6_sweep_40 : decode cX6_sweep 40 = .ok (.getfield 84, 3) := by decide +kernel
theorem dX6_sweep_43 : decode cX6_sweep 43 = .ok (.istore 5, 2) := by decide +kernel
theorem dX6_sweep_45 : decode cX6_sweep 45 = .ok (.iconst 0, 1) := by decide +kernel
theorem dX6_sweep_46 : decode cX6_sweep 46 = .ok (.istore 6, 2) := by decide +kernel
theorem dX6_sweep_48 : decode cX6_sweep 48 = .ok (.iload 6, 2) := by decide +kernel
theorem dX6_sweep_50 : decode cX6_sweep 50 = .ok (.ldc 97, 2) := by decide +kernel
theorem dX6_sweep_52 : decode cX6_sweep 52 = .ok (.if_icmp .ge 72, 3) := by decide +kernel
theorem dX6_sweep_55 : decode cX6_sweep 55 = .ok (.iload 6, 2) := by decide +kernel
theorem dX6_sweep_57 : decode cX6_sweep 57 = .ok (.aload_n 0, 1) := by decide +kernel
theorem dX6_sweep_58 : decode cX6_sweep 58 = .ok (.getfield 84, 3) := by decide +kernel
theorem dX6_sweep_61 : decode cX6_sweep 61 = .ok (.if_icmp .ge 63, 3) := by decide +kernel
theorem dX6_sweep_64 : decode cX6_sweep 64 = .ok (.aload_n 0, 1) := by decide +kernel
theorem dX6_sweep_65 : decode cX6_sweep 65 = .ok (.getfield 87, 3) := by decide +kernel
theorem dX6_sweep_68 : decode cX6_sweep 68 = .ok (.ifCond .ge 56, 3) := by decide +kernel
theorem dX6_sweep_71 : decode cX6_sweep 71 = .ok (.iload 6, 2) := by decide +kernel
theorem dX6_sweep_73 : decode cX6_sweep 73 = .ok (.iload 5, 2) := by decide +kernel
theorem dX6_sweep_75 : decode cX6_sweep 75 = .ok (.if_icmp .ne 12, 3) := by decide +kernel
theorem dX6_sweep_78 : decode cX6_sweep 78 = .ok (.iinc 4 1, 3) := by decide +kernel
theorem dX6_sweep_81 : decode cX6_sweep 81 = .ok (.aload_n 0, 1) := by decide +kernel
theorem dX6_sweep_82 : decode cX6_sweep 82 = .ok (.getfield 84, 3) := by decide +kernel
theorem dX6_sweep_85 : decode cX6_sweep 85 = .ok (.istore 5, 2) := by decide +kernel
theorem dX6_sweep_87 : decode cX6_sweep 87 = .ok (.aload_n 0, 1) := by decide +kernel
theorem dX6_sweep_88 : decode cX6_sweep 88 = .ok (.getfield 84, 3) := by decide +kernel
theorem dX6_sweep_91 : decode cX6_sweep 91 = .ok (.bipush 13, 2) := by decide +kernel
theorem dX6_sweep_93 : decode cX6_sweep 93 = .ok (.iadd, 1) := by decide +kernel
theorem dX6_sweep_94 : decode cX6_sweep 94 = .ok (.aload_n 0, 1) := by decide +kernel
theorem dX6_sweep_95 : decode cX6_sweep 95 = .ok (.getfield 20, 3) := by decide +kernel
theorem dX6_sweep_98 : decode cX6_sweep 98 = .ok (.arraylength, 1) := by decide +kernel
theorem dX6_sweep_99 : decode cX6_sweep 99 = .ok (.if_icmp .le 7, 3) := by decide +kernel
theorem dX6_sweep_102 : decode cX6_sweep 102 = .ok (.aload_n 0, 1) := by decide +kernel
theorem dX6_sweep_103 : decode cX6_sweep 103 = .ok (.invokevirtual 98, 3) := by decide +kernel
theorem dX6_sweep_106 : decode cX6_sweep 106 = .ok (.aload_n 0, 1) := by decide +kernel
theorem dX6_sweep_107 : decode cX6_sweep 107 = .ok (.iload 6, 2) := by decide +kernel
theorem dX6_sweep_109 : decode cX6_sweep 109 = .ok (.iload_n 3, 1) := by decide +kernel
theorem dX6_sweep_110 : decode cX6_sweep 110 = .ok (.iload 4, 2) := by decide +kernel
theorem dX6_sweep_112 : decode cX6_sweep 112 = .ok (.isub, 1) := by decide +kernel
theorem dX6_sweep_113 : decode cX6_sweep 113 = .ok (.iconst 1, 1) := by decide +kernel
theorem dX6_sweep_114 : decode cX6_sweep 114 = .ok (.isub, 1) := by decide +kernel
theorem dX6_sweep_115 : decode cX6_sweep 115 = .ok (.invokevirtual 101, 3) := by decide +kernel
theorem dX6_sweep_118 : decode cX6_sweep 118 = .ok (.iinc 6 1, 3) := by decide +kernel
theorem dX6_sweep_121 : decode cX6_sweep 121 = .ok (.goto (-73), 3) := by decide +kernel
theorem dX6_sweep_124 : decode cX6_sweep 124 = .ok (.aload_n 0, 1) := by decide +kernel
theorem dX6_sweep_125 : decode cX6_sweep 125 = .ok (.getfield 87, 3) := by decide +kernel
theorem dX6_sweep_128 : decode cX6_sweep 128 = .ok (.ifCond .ge 8, 3) := by decide +kernel
theorem dX6_sweep_131 : decode cX6_sweep 131 = .ok (.bipush (-9), 2) := by decide +kernel
theorem dX6_sweep_133 : decode cX6_sweep 133 = .ok (.goto 7, 3) := by decide +kernel
theorem dX6_sweep_136 : decode cX6_sweep 136 = .ok (.iload 4, 2) := by decide +kernel
theorem dX6_sweep_138 : decode cX6_sweep 138 = .ok (.iconst 1, 1) := by decide +kernel
theorem dX6_sweep_139 : decode cX6_sweep 139 = .ok (.iadd, 1) := by decide +kernel
theorem dX6_sweep_140 : decode cX6_sweep 140 = .ok (.ireturn, 1) := by decide +kernel
def M_X6_sweep : y_M := (yX6_sweep, cX6_sweep, 7, (Option.some Jvm.ClassFile.FieldType.int))
theorem n_X6_sweep : y_N0 M_X6_sweep 2 := ⟨(c_6 21 (by decide +kernel) rfl), (c_1 15 (by decide +kernel) rfl), ⟨by decide +kernel, by decide +kernel⟩, by decide +kernel⟩
theorem l_BoxYard_Search_78 : y_lnk "BoxYard$Search" 78 M_J7_fill_53178 := Or.inl (c_6 22 (by decide +kernel) rfl)
theorem k_BoxYard_Search_97 : Cond.constant "BoxYard$Search" 97 1048576 ∈ y_tb := (c_6 32 (by decide +kernel) rfl)
theorem l_BoxYard_Search_101 : y_lnk "BoxYard$Search" 101 M_X6_spread := Or.inl (c_6 59 (by decide +kernel) rfl)
theorem i_X6_spread : Cond.instanceMethod (M_X6_spread).1 ∈ y_tb := (c_6 61 (by decide +kernel) rfl)
theorem e_X6_spread : Cond.selects (M_X6_spread).1.cls (M_X6_spread).1 (M_X6_spread).1 ∈ y_tb := (m_s 29 (by decide +kernel) rfl)
theorem l_BoxYard_Search_98 : y_lnk "BoxYard$Search" 98 M_X6_grow := Or.inl (c_6 33 (by decide +kernel) rfl)
theorem i_X6_grow : Cond.instanceMethod (M_X6_grow).1 ∈ y_tb := (c_6 35 (by decide +kernel) rfl)
theorem e_X6_grow : Cond.selects (M_X6_grow).1.cls (M_X6_grow).1 (M_X6_grow).1 ∈ y_tb := (m_s 28 (by decide +kernel) rfl)
set_option maxRecDepth 100000 in
def f_X6_sweep (p0 : Nat) (p1 : Int64) (p3 : Int32) (c0 s0 : Nat) (h : y_H) : Option ((Int32 × Nat × Nat) × y_H) :=
  if y_K h p0 = 7 then
  y_cl (f_J7_fill_53178 (y_P h p0 6) 0 h) (fun _ h1 =>
  if y_K h1 p0 = 7 then
  y_bd (s_I h1 p0 7 0) (fun h3 =>
  if y_K h3 p0 = 7 then
  y_bd (s_B h3 p0 9 false) (fun h6 =>
  if y_K h6 p0 = 7 then
  y_bd (s_I h6 p0 8 (-9 : Int32)) (fun h9 =>
  if y_K h9 p0 = 7 then
  y_cl (f_X6_slotOf p0 p1 h9) (fun r12 h13 =>
  if y_K h13 p0 = 7 then
  y_cl (f_X6_keep p0 p1 0 r12 h13) (fun r15 h16 =>
  if y_K h16 p0 = 7 then
  y_jl (fun (_ : Nat) (_ : Int32) (_ : Int32) (_ : Int32) (_ : Int32) (_ : Nat) (_ : Nat) (_ : y_H) => (none : Option ((Int32 × Nat × Nat) × y_H))) (fun j48 (v0_48 : Nat) (v3_48 : Int32) (v4_48 : Int32) (v5_48 : Int32) (v6_48 : Int32) (c48 : Nat) (s48 : Nat) (h18 : y_H) =>
      y_jn (fun (v0_124 : Nat) (v4_124 : Int32) (c124 : Nat) (s124 : Nat) (h19 : y_H) => (
          if y_K h19 v0_124 = 7 then
          if 0 ≤ (y_I h19 v0_124 8) then
            some ((v4_124 + 1, c124, s124), h19)
          else
            some (((-9 : Int32), c124, s124), h19)
          else none : Option ((Int32 × Nat × Nat) × y_H))) (fun j124 =>
      if 1048576 ≤ v6_48 then
        j124 v0_48 v4_48 c48 s48 h18
      else
        if y_K h18 v0_48 = 7 then
        if (y_I h18 v0_48 7) ≤ v6_48 then
          j124 v0_48 v4_48 c48 s48 h18
        else
          if y_K h18 v0_48 = 7 then
          if 0 ≤ (y_I h18 v0_48 8) then
            j124 v0_48 v4_48 c48 s48 h18
          else
            y_jn (fun (v0_87 : Nat) (v3_87 : Int32) (v4_87 : Int32) (v5_87 : Int32) (v6_87 : Int32) (c87 : Nat) (s87 : Nat) (h22 : y_H) => (
                if y_K h22 v0_87 = 7 then
                if y_K h22 v0_87 = 7 then
                if y_K h22 (y_P h22 v0_87 4) = 101 then
                y_jn (fun (v0_106 : Nat) (v3_106 : Int32) (v4_106 : Int32) (v5_106 : Int32) (v6_106 : Int32) (c106 : Nat) (s106 : Nat) (h23 : y_H) => (
                    if y_K h23 v0_106 = 7 then
                    y_cl (f_X6_spread v0_106 v6_106 ((v3_106 - v4_106) - 1) h23) (fun _ h24 =>
                    j48 v0_106 v3_106 v4_106 v5_106 (v6_106 + 1) c106 s106 h24)
                    else none : Option ((Int32 × Nat × Nat) × y_H))) (fun j106 =>
                if ((y_I h22 v0_87 7) + 13) ≤ (nI (y_N h22 (y_P h22 v0_87 4))) then
                  j106 v0_87 v3_87 v4_87 v5_87 v6_87 c87 s87 h22
                else
                  if y_K h22 v0_87 = 7 then
                  y_cl (f_X6_grow v0_87 c87 s87 h22) (fun r29 h27 =>
                  j106 v0_87 v3_87 v4_87 v5_87 v6_87 r29.2.1 r29.2.2 h27)
                  else none)
                else none
                else none
                else none : Option ((Int32 × Nat × Nat) × y_H))) (fun j87 =>
            if v6_48 = v5_48 then
              if y_K h18 v0_48 = 7 then
              j87 v0_48 v3_48 (v4_48 + 1) (y_I h18 v0_48 7) v6_48 c48 s48 h18
              else none
            else
              j87 v0_48 v3_48 v4_48 v5_48 v6_48 c48 s48 h18)
          else none
        else none)) (fun j48 =>
  j48 p0 p3 0 (y_I h16 p0 7) 0 c0 s0 h16)
  else none)
  else none)
  else none)
  else none)
  else none)
  else none)
  else none
abbrev FF_X6_sweep : Nat := 4
abbrev LL_X6_sweep : Nat := 144
set_option maxRecDepth 100000 in
set_option maxHeartbeats 4000000 in
theorem k_X6_sweep {l : Launch} {G : y_G} {p0 : Nat} {p1 : Int64} {p3 : Int32} {c0 s0 cz sz : Nat} {h hz : y_H} {rz : Int32} (hf : f_X6_sweep p0 p1 p3 c0 s0 h = some ((rz, cz, sz), hz)) : (c0 ≤ cz ∧ s0 ≤ sz) ∧ y_S l G M_X6_sweep (y_Rm FF_X6_sweep LL_X6_sweep c0 s0 cz sz) [y_p p0, .long p1, .int p3] h (some (.int rz)) hz := by
  refine y_Ustart (lv := [(0, y_p p0), (1, .long p1), (3, .int p3)]) (by decide) (by simp [lg_sl, y_p_cat, y_ci, y_cj, M_X6_sweep]) (by simp [lv_args, y_p_cat, y_ci, y_cj]) (fun z ad0 => ?_)
  unfold f_X6_sweep at hf
  refine y_lf (fun _ _ _ _ k => y_aload_n (x := p0) (pc2 := 1) rfl dX6_sweep_0 rfl k) ?_
  obtain ⟨g45, hf⟩ := y_g hf
  refine y_lf (fun _ _ _ _ k => y_getP (pc2 := 4) rfl dX6_sweep_1 F_BoxYard_Search_27 (by decide) rfl g45 k) ?_
  refine y_lf (fun _ _ _ _ k => y_iconst (v := 0) (pc2 := 5) rfl dX6_sweep_4 (by decide) k) ?_
  obtain ⟨r_, h1, c2, hf⟩ := y_clE hf
  refine y_UcS0 (As := [y_p (y_P h p0 6), .int 0]) (rm := rm_J7_fill_53178) (pc2 := 8) rfl dX6_sweep_5 n_J7_fill_53178 l_BoxYard_Search_78 t_J7_fill_53178 rfl rfl (by decide) (by decide) rfl rfl (k_J7_fill_53178 c2) ?_
  refine y_lf (fun _ _ _ _ k => y_aload_n (x := p0) (pc2 := 9) rfl dX6_sweep_8 rfl k) ?_
  refine y_lf (fun _ _ _ _ k => y_iconst (v := 0) (pc2 := 10) rfl dX6_sweep_9 (by decide) k) ?_
  obtain ⟨g5, hf⟩ := y_g hf
  obtain ⟨h3, e4, hf⟩ := y_bdE hf
  refine y_lf (fun _ _ _ _ k => y_putI (x := 0) (pc2 := 13) rfl dX6_sweep_10 Fp_BoxYard_Search_84 (by decide) rfl g5 e4 k) ?_
  refine y_lf (fun _ _ _ _ k => y_aload_n (x := p0) (pc2 := 14) rfl dX6_sweep_13 rfl k) ?_
  refine y_lf (fun _ _ _ _ k => y_iconst (v := 0) (pc2 := 15) rfl dX6_sweep_14 (by decide) k) ?_
  obtain ⟨g8, hf⟩ := y_g hf
  obtain ⟨h6, e7, hf⟩ := y_bdE hf
  refine y_lf (fun _ _ _ _ k => y_putZ (x := false) (pc2 := 18) rfl dX6_sweep_15 Fp_BoxYard_Search_51 (by decide) rfl g8 e7 k) ?_
  refine y_lf (fun _ _ _ _ k => y_aload_n (x := p0) (pc2 := 19) rfl dX6_sweep_18 rfl k) ?_
  refine y_lf (fun _ _ _ _ k => y_bipush (v := (-9 : Int32)) (pc2 := 21) rfl dX6_sweep_19 (by decide) k) ?_
  obtain ⟨g11, hf⟩ := y_g hf
  obtain ⟨h9, e10, hf⟩ := y_bdE hf
  refine y_lf (fun _ _ _ _ k => y_putI (x := (-9 : Int32)) (pc2 := 24) rfl dX6_sweep_21 Fp_BoxYard_Search_87 (by decide) rfl g11 e10 k) ?_
  refine y_lf (fun _ _ _ _ k => y_aload_n (x := p0) (pc2 := 25) rfl dX6_sweep_24 rfl k) ?_
  refine y_lf (fun _ _ _ _ k => y_lload_n (pc2 := 26) rfl dX6_sweep_25 rfl k) ?_
  refine y_lf (fun _ _ _ _ k => y_iconst (v := 0) (pc2 := 27) rfl dX6_sweep_26 (by decide) k) ?_
  refine y_lf (fun _ _ _ _ k => y_aload_n (x := p0) (pc2 := 28) rfl dX6_sweep_27 rfl k) ?_
  refine y_lf (fun _ _ _ _ k => y_lload_n (pc2 := 29) rfl dX6_sweep_28 rfl k) ?_
  obtain ⟨g44, hf⟩ := y_g hf
  obtain ⟨r12, h13, c14, hf⟩ := y_clE hf
  refine y_UcV0 (As := [.long p1]) (rm := rm_X6_slotOf) (pc2 := 32) rfl dX6_sweep_29 n_X6_slotOf l_BoxYard_Search_90 i_X6_slotOf e_X6_slotOf (ci := 6) rfl rfl (by decide) g44 rfl rfl (by decide) (by simp [y_ci, y_cj, y_p_cat]) rfl rfl (k_X6_slotOf c14) ?_
  obtain ⟨g43, hf⟩ := y_g hf
  obtain ⟨r15, h16, c17, hf⟩ := y_clE hf
  refine y_UcV0 (As := [.long p1, .int 0, .int r12]) (rm := rm_X6_keep) (pc2 := 35) rfl dX6_sweep_32 n_X6_keep l_BoxYard_Search_93 i_X6_keep e_X6_keep (ci := 6) rfl rfl (by decide) g43 rfl rfl (by decide) (by decide) rfl rfl (k_X6_keep c17) ?_
  refine y_lf (fun _ _ _ _ k => y_pop (pc2 := 36) rfl dX6_sweep_35 rfl k) ?_
  refine y_lf (fun _ _ _ _ k => y_iconst (v := 0) (pc2 := 37) rfl dX6_sweep_36 (by decide) k) ?_
  refine y_lf (fun _ _ _ _ k => y_istore (lv' := [(4, .int 0), (0, y_p p0), (1, .long p1), (3, .int p3)]) (pc2 := 39) rfl dX6_sweep_37 (by decide) rfl k) ?_
  refine y_lf (fun _ _ _ _ k => y_aload_n (x := p0) (pc2 := 40) rfl dX6_sweep_39 rfl k) ?_
  obtain ⟨g42, hf⟩ := y_g hf
  refine y_lf (fun _ _ _ _ k => y_getI (pc2 := 43) rfl dX6_sweep_40 F_BoxYard_Search_84 (by decide) rfl g42 k) ?_
  refine y_lf (fun _ _ _ _ k => y_istore (lv' := [(5, .int (y_I h16 p0 7)), (4, .int 0), (0, y_p p0), (1, .long p1), (3, .int p3)]) (pc2 := 45) rfl dX6_sweep_43 (by decide) rfl k) ?_
  refine y_lf (fun _ _ _ _ k => y_iconst (v := 0) (pc2 := 46) rfl dX6_sweep_45 (by decide) k) ?_
  refine y_jlE hf (fun j => ∀ (v0_48 : Nat) (v3_48 : Int32) (v4_48 : Int32) (v5_48 : Int32) (v6_48 : Int32) (c48 : Nat) (s48 : Nat) (h18 : y_H), j v0_48 v3_48 v4_48 v5_48 v6_48 c48 s48 h18 = some ((rz, cz, sz), hz) → y_U l G z FF_X6_sweep LL_X6_sweep (cz - c0) (sz - s0) c0 s0 cz sz M_X6_sweep ad0 h (some (.int rz)) hz 48 [(0, y_p v0_48), (3, .int v3_48), (4, .int v4_48), (5, .int v5_48), (6, .int v6_48)] [] h18 c48 s48) (fun _ _ _ _ _ _ _ _ hf => by cases hf) (fun j48 hj48 v0_48 v3_48 v4_48 v5_48 v6_48 c48 s48 h18 hf => ?_) (fun j48 hj48 hf => ?_)
  · refine y_lf (fun _ _ _ _ k => y_iload (pc2 := 50) rfl dX6_sweep_48 rfl k) ?_
    refine y_lf (fun _ _ _ _ k => y_ldc (v := 1048576) (pc2 := 52) rfl dX6_sweep_50 k_BoxYard_Search_97 k) ?_
    refine y_jnE hf (fun j => ∀ (v0_124 : Nat) (v4_124 : Int32) (c124 : Nat) (s124 : Nat) (h19 : y_H), j v0_124 v4_124 c124 s124 h19 = some ((rz, cz, sz), hz) → y_U l G z FF_X6_sweep LL_X6_sweep (cz - c0) (sz - s0) c0 s0 cz sz M_X6_sweep ad0 h (some (.int rz)) hz 124 [(0, y_p v0_124), (4, .int v4_124)] [] h19 c124 s124) (fun v0_124 v4_124 c124 s124 h19 hf => ?_) (fun j124 hj124 hf => ?_)
    · refine y_lf (fun _ _ _ _ k => y_aload_n (x := v0_124) (pc2 := 125) rfl dX6_sweep_124 rfl k) ?_
      obtain ⟨g21, hf⟩ := y_g hf
      refine y_lf (fun _ _ _ _ k => y_getI (pc2 := 128) rfl dX6_sweep_125 F_BoxYard_Search_87 (by decide) rfl g21 k) ?_
      refine y_lf2 (Classical.em _) (fun _ _ k1 k2 => y_if_ge (tgt := 136) (pc2 := 131) rfl dX6_sweep_128 (by decide) k1 k2) (fun c20 => ?_) (fun c20 => ?_)
      · replace hf := y_it c20 hf
        refine y_lf (fun _ _ _ _ k => y_iload (pc2 := 138) rfl dX6_sweep_136 rfl k) ?_
        refine y_lf (fun _ _ _ _ k => y_iconst (v := 1) (pc2 := 139) rfl dX6_sweep_138 (by decide) k) ?_
        refine y_lf (fun _ _ _ _ k => y_iadd (pc2 := 140) rfl dX6_sweep_139 k) ?_
        exact y_iretU hf dX6_sweep_140 rfl
      · replace hf := y_ie c20 hf
        refine y_lf (fun _ _ _ _ k => y_bipush (v := (-9 : Int32)) (pc2 := 133) rfl dX6_sweep_131 (by decide) k) ?_
        refine y_lf (fun _ _ _ _ k => y_goto (tgt := 140) dX6_sweep_133 (by decide) k) ?_
        exact y_iretU hf dX6_sweep_140 rfl
    · refine y_lf2 (Classical.em _) (fun _ _ k1 k2 => y_icmp_ge (tgt := 124) (pc2 := 55) rfl dX6_sweep_52 (by decide) k1 k2) (fun c41 => ?_) (fun c41 => ?_)
      · replace hf := y_it c41 hf
        exact y_lf (fun _ _ _ _ k => y_pk [0, 2] rfl k) (hj124 _ _ _ _ _ hf)
      · replace hf := y_ie c41 hf
        refine y_lf (fun _ _ _ _ k => y_iload (pc2 := 57) rfl dX6_sweep_55 rfl k) ?_
        refine y_lf (fun _ _ _ _ k => y_aload_n (x := v0_48) (pc2 := 58) rfl dX6_sweep_57 rfl k) ?_
        obtain ⟨g40, hf⟩ := y_g hf
        refine y_lf (fun _ _ _ _ k => y_getI (pc2 := 61) rfl dX6_sweep_58 F_BoxYard_Search_84 (by decide) rfl g40 k) ?_
        refine y_lf2 (Classical.em _) (fun _ _ k1 k2 => y_icmp_ge (tgt := 124) (pc2 := 64) rfl dX6_sweep_61 (by decide) k1 k2) (fun c39 => ?_) (fun c39 => ?_)
        · replace hf := y_it c39 hf
          exact y_lf (fun _ _ _ _ k => y_pk [0, 2] rfl k) (hj124 _ _ _ _ _ hf)
        · replace hf := y_ie c39 hf
          refine y_lf (fun _ _ _ _ k => y_aload_n (x := v0_48) (pc2 := 65) rfl dX6_sweep_64 rfl k) ?_
          obtain ⟨g38, hf⟩ := y_g hf
          refine y_lf (fun _ _ _ _ k => y_getI (pc2 := 68) rfl dX6_sweep_65 F_BoxYard_Search_87 (by decide) rfl g38 k) ?_
          refine y_lf2 (Classical.em _) (fun _ _ k1 k2 => y_if_ge (tgt := 124) (pc2 := 71) rfl dX6_sweep_68 (by decide) k1 k2) (fun c37 => ?_) (fun c37 => ?_)
          · replace hf := y_it c37 hf
            exact y_lf (fun _ _ _ _ k => y_pk [0, 2] rfl k) (hj124 _ _ _ _ _ hf)
          · replace hf := y_ie c37 hf
            refine y_lf (fun _ _ _ _ k => y_iload (pc2 := 73) rfl dX6_sweep_71 rfl k) ?_
            refine y_lf (fun _ _ _ _ k => y_iload (pc2 := 75) rfl dX6_sweep_73 rfl k) ?_
            refine y_jnE hf (fun j => ∀ (v0_87 : Nat) (v3_87 : Int32) (v4_87 : Int32) (v5_87 : Int32) (v6_87 : Int32) (c87 : Nat) (s87 : Nat) (h22 : y_H), j v0_87 v3_87 v4_87 v5_87 v6_87 c87 s87 h22 = some ((rz, cz, sz), hz) → y_U l G z FF_X6_sweep LL_X6_sweep (cz - c0) (sz - s0) c0 s0 cz sz M_X6_sweep ad0 h (some (.int rz)) hz 87 [(0, y_p v0_87), (3, .int v3_87), (4, .int v4_87), (5, .int v5_87), (6, .int v6_87)] [] h22 c87 s87) (fun v0_87 v3_87 v4_87 v5_87 v6_87 c87 s87 h22 hf => ?_) (fun j87 hj87 hf => ?_)
            · refine y_lf (fun _ _ _ _ k => y_aload_n (x := v0_87) (pc2 := 88) rfl dX6_sweep_87 rfl k) ?_
              obtain ⟨g34, hf⟩ := y_g hf
              refine y_lf (fun _ _ _ _ k => y_getI (pc2 := 91) rfl dX6_sweep_88 F_BoxYard_Search_84 (by decide) rfl g34 k) ?_
              refine y_lf (fun _ _ _ _ k => y_bipush (v := 13) (pc2 := 93) rfl dX6_sweep_91 (by decide) k) ?_
              refine y_lf (fun _ _ _ _ k => y_iadd (pc2 := 94) rfl dX6_sweep_93 k) ?_
              refine y_lf (fun _ _ _ _ k => y_aload_n (x := v0_87) (pc2 := 95) rfl dX6_sweep_94 rfl k) ?_
              obtain ⟨g33, hf⟩ := y_g hf
              refine y_lf (fun _ _ _ _ k => y_getP (pc2 := 98) rfl dX6_sweep_95 F_BoxYard_Search_20 (by decide) rfl g33 k) ?_
              obtain ⟨g32, hf⟩ := y_g hf
              refine y_lf (fun _ _ _ _ k => y_alen (t := 1) (pc2 := 99) rfl dX6_sweep_98 (by decide) g32 k) ?_
              refine y_jnE hf (fun j => ∀ (v0_106 : Nat) (v3_106 : Int32) (v4_106 : Int32) (v5_106 : Int32) (v6_106 : Int32) (c106 : Nat) (s106 : Nat) (h23 : y_H), j v0_106 v3_106 v4_106 v5_106 v6_106 c106 s106 h23 = some ((rz, cz, sz), hz) → y_U l G z FF_X6_sweep LL_X6_sweep (cz - c0) (sz - s0) c0 s0 cz sz M_X6_sweep ad0 h (some (.int rz)) hz 106 [(0, y_p v0_106), (3, .int v3_106), (4, .int v4_106), (5, .int v5_106), (6, .int v6_106)] [] h23 c106 s106) (fun v0_106 v3_106 v4_106 v5_106 v6_106 c106 s106 h23 hf => ?_) (fun j106 hj106 hf => ?_)
              · refine y_lf (fun _ _ _ _ k => y_aload_n (x := v0_106) (pc2 := 107) rfl dX6_sweep_106 rfl k) ?_
                refine y_lf (fun _ _ _ _ k => y_iload (pc2 := 109) rfl dX6_sweep_107 rfl k) ?_
                refine y_lf (fun _ _ _ _ k => y_iload_n (pc2 := 110) rfl dX6_sweep_109 rfl k) ?_
                refine y_lf (fun _ _ _ _ k => y_iload (pc2 := 112) rfl dX6_sweep_110 rfl k) ?_
                refine y_lf (fun _ _ _ _ k => y_isub (pc2 := 113) rfl dX6_sweep_112 k) ?_
                refine y_lf (fun _ _ _ _ k => y_iconst (v := 1) (pc2 := 114) rfl dX6_sweep_113 (by decide) k) ?_
                refine y_lf (fun _ _ _ _ k => y_isub (pc2 := 115) rfl dX6_sweep_114 k) ?_
                obtain ⟨g26, hf⟩ := y_g hf
                obtain ⟨r_, h24, c25, hf⟩ := y_clE hf
                refine y_UcV0 (As := [.int v6_106, .int ((v3_106 - v4_106) - 1)]) (rm := rm_X6_spread) (pc2 := 118) rfl dX6_sweep_115 n_X6_spread l_BoxYard_Search_101 i_X6_spread e_X6_spread (ci := 6) rfl rfl (by decide) g26 rfl rfl (by decide) (by decide) rfl rfl (k_X6_spread c25) ?_
                refine y_lf (fun _ _ _ _ k => y_iinc (v := v6_106 + 1) (lv' := [(6, .int (v6_106 + 1)), (0, y_p v0_106), (3, .int v3_106), (4, .int v4_106), (5, .int v5_106)]) (pc2 := 121) rfl dX6_sweep_118 rfl rfl (by decide) rfl k) ?_
                refine y_lf (fun _ _ _ _ k => y_goto (tgt := 48) dX6_sweep_121 (by decide) k) ?_
                exact y_lf (fun _ _ _ _ k => y_pk [1, 2, 3, 4, 0] rfl k) (hj48 _ _ _ _ _ _ _ _ hf)
              · refine y_lf2 (Classical.em _) (fun _ _ k1 k2 => y_icmp_le (tgt := 106) (pc2 := 102) rfl dX6_sweep_99 (by decide) k1 k2) (fun c31 => ?_) (fun c31 => ?_)
                · replace hf := y_it c31 hf
                  exact y_lf (fun _ _ _ _ k => y_pk [0, 1, 2, 3, 4] rfl k) (hj106 _ _ _ _ _ _ _ _ hf)
                · replace hf := y_ie c31 hf
                  refine y_lf (fun _ _ _ _ k => y_aload_n (x := v0_87) (pc2 := 103) rfl dX6_sweep_102 rfl k) ?_
                  obtain ⟨g30, hf⟩ := y_g hf
                  obtain ⟨r29, h27, c28, hf⟩ := y_clE hf
                  refine y_UcallV (As := []) (pc2 := 106) rfl dX6_sweep_103 n_X6_grow l_BoxYard_Search_98 i_X6_grow e_X6_grow (ci := 6) rfl rfl (by decide) g30 rfl rfl (by decide) (by decide) (k_X6_grow c28) ?_
                  exact y_lf (fun _ _ _ _ k => y_pk [0, 1, 2, 3, 4] rfl k) (hj106 _ _ _ _ _ _ _ _ hf)
            · refine y_lf2 (Classical.em _).symm (fun _ _ k1 k2 => y_icmp_ne (tgt := 87) (pc2 := 78) rfl dX6_sweep_75 (by decide) k1 k2) (fun c36 => ?_) (fun c36 => ?_)
              · replace hf := y_ie c36 hf
                exact y_lf (fun _ _ _ _ k => y_pk [0, 1, 2, 3, 4] rfl k) (hj87 _ _ _ _ _ _ _ _ hf)
              · replace hf := y_it c36 hf
                refine y_lf (fun _ _ _ _ k => y_iinc (v := v4_48 + 1) (lv' := [(4, .int (v4_48 + 1)), (0, y_p v0_48), (3, .int v3_48), (5, .int v5_48), (6, .int v6_48)]) (pc2 := 81) rfl dX6_sweep_78 rfl rfl (by decide) rfl k) ?_
                refine y_lf (fun _ _ _ _ k => y_aload_n (x := v0_48) (pc2 := 82) rfl dX6_sweep_81 rfl k) ?_
                obtain ⟨g35, hf⟩ := y_g hf
                refine y_lf (fun _ _ _ _ k => y_getI (pc2 := 85) rfl dX6_sweep_82 F_BoxYard_Search_84 (by decide) rfl g35 k) ?_
                refine y_lf (fun _ _ _ _ k => y_istore (lv' := [(5, .int (y_I h18 v0_48 7)), (4, .int (v4_48 + 1)), (0, y_p v0_48), (3, .int v3_48), (6, .int v6_48)]) (pc2 := 87) rfl dX6_sweep_85 (by decide) rfl k) ?_
                exact y_lf (fun _ _ _ _ k => y_pk [2, 3, 1, 0, 4] rfl k) (hj87 _ _ _ _ _ _ _ _ hf)
  · refine y_lf (fun _ _ _ _ k => y_istore (lv' := [(6, .int 0), (5, .int (y_I h16 p0 7)), (4, .int 0), (0, y_p p0), (1, .long p1), (3, .int p3)]) (pc2 := 48) rfl dX6_sweep_46 (by decide) rfl k) ?_
    exact y_lf (fun _ _ _ _ k => y_pk [3, 5, 2, 1, 0] rfl k) (hj48 _ _ _ _ _ _ _ _ hf)
theorem dX6_solve_0 : decode cX6_solve 0 = .ok (.aload_n 0, 1) := by decide +kernel
theorem dX6_solve_1 : decode cX6_solve 1 = .ok (.aload_n 1, 1) := by decide +kernel
theorem dX6_solve_2 : decode cX6_solve 2 = .ok (.getfield 30, 3) := by decide +kernel
theorem dX6_solve_5 : decode cX6_solve 5 = .ok (.iconst 4, 1) := by decide +kernel
theorem dX6_solve_6 : decode cX6_solve 6 = .ok (.invokestatic 36, 3) := by decide +kernel
theorem dX6_solve_9 : decode cX6_solve 9 = .ok (.putfield 42, 3) := by decide +kernel
theorem dX6_solve_12 : decode cX6_solve 12 = .ok (.aload_n 0, 1) := by decide +kernel
theorem dX6_solve_13 : decode cX6_solve 13 = .ok (.aload_n 2, 1) := by decide +kernel
theorem dX6_solve_14 : decode cX6_solve 14 = .ok (.getfield 43, 3) := by decide +kernel
theorem dX6_solve_17 : decode cX6_solve 17 = .ok (.putfield 46, 3) := by decide +kernel
theorem dX6_solve_20 : decode cX6_solve 20 = .ok (.aload_n 0, 1) := by decide +kernel
theorem dX6_solve_21 : decode cX6_solve 21 = .ok (.aload_n 1, 1) := by decide +kernel
theorem dX6_solve_22 : decode cX6_solve 22 = .ok (.aload_n 2, 1) := by decide +kernel
theorem dX6_solve_23 : decode cX6_solve 23 = .ok (.invokevirtual 47, 3) := by decide +kernel
theorem dX6_solve_26 : decode cX6_solve 26 = .ok (.lstore_n 3, 1) := by decide +kernel
theorem dX6_solve_27 : decode cX6_solve 27 = .ok (.bipush (-9), 2) := by decide +kernel
theorem dX6_solve_29 : decode cX6_solve 29 = .ok (.istore 5, 2) := by decide +kernel
theorem dX6_solve_31 : decode cX6_solve 31 = .ok (.aload_n 0, 1) := by decide +kernel
theorem dX6_solve_32 : decode cX6_solve 32 = .ok (.iconst 1, 1) := by decide +kernel
theorem dX6_solve_33 : decode cX6_solve 33 = .ok (.putfield 51, 3) := by decide +kernel
theorem dX6_solve_36 : decode cX6_solve 36 = .ok (.iconst 0, 1) := by decide +kernel
theorem dX6_solve_37 : decode cX6_solve 37 = .ok (.istore 6, 2) := by decide +kernel
theorem dX6_solve_39 : decode cX6_solve 39 = .ok (.iload 6, 2) := by decide +kernel
theorem dX6_solve_41 : decode cX6_solve 41 = .ok (.getstatic 55, 3) := by decide +kernel
theorem dX6_solve_44 : decode cX6_solve 44 = .ok (.arraylength, 1) := by decide +kernel
theorem dX6_solve_45 : decode cX6_solve 45 = .ok (.if_icmp .ge 40, 3) := by decide +kernel
theorem dX6_solve_48 : decode cX6_solve 48 = .ok (.aload_n 0, 1) := by decide +kernel
theorem dX6_solve_49 : decode cX6_solve 49 = .ok (.getfield 51, 3) := by decide +kernel
theorem dX6_solve_52 : decode cX6_solve 52 = .ok (.ifCond .eq 33, 3) := by decide +kernel
theorem dX6_solve_55 : decode cX6_solve 55 = .ok (.iload 5, 2) := by decide +kernel
theorem dX6_solve_57 : decode cX6_solve 57 = .ok (.ifCond .ge 28, 3) := by decide +kernel
theorem dX6_solve_60 : decode cX6_solve 60 = .ok (.aload_n 0, 1) := by decide +kernel
theorem dX6_solve_61 : decode cX6_solve 61 = .ok (.lload_n 3, 1) := by decide +kernel
theorem dX6_solve_62 : decode cX6_solve 62 = .ok (.aload_n 0, 1) := by decide +kernel
theorem dX6_solve_63 : decode cX6_solve 63 = .ok (.lload_n 3, 1) := by decide +kernel
theorem dX6_solve_64 : decode cX6_solve 64 = .ok (.invokevirtual 58, 3) := by decide +kernel
theorem dX6_solve_67 : decode cX6_solve 67 = .ok (.getstatic 55, 3) := by decide +kernel
theorem dX6_solve_70 : decode cX6_solve 70 = .ok (.iload 6, 2) := by decide +kernel
theorem dX6_solve_72 : decode cX6_solve 72 = .ok (.iaload, 1) := by decide +kernel
theorem dX6_solve_73 : decode cX6_solve 73 = .ok (.iadd, 1) := by decide +kernel
theorem dX6_solve_74 : decode cX6_solve 74 = .ok (.invokevirtual 62, 3) := by decide +kernel
theorem dX6_solve_77 : decode cX6_solve 77 = .ok (.istore 5, 2) := by decide +kernel
theorem dX6_solve_79 : decode cX6_solve 79 = .ok (.iinc 6 1, 3) := by decide +kernel
theorem dX6_solve_82 : decode cX6_solve 82 = .ok (.goto (-43), 3) := by decide +kernel
theorem dX6_solve_85 : decode cX6_solve 85 = .ok (.iload 5, 2) := by decide +kernel
theorem dX6_solve_87 : decode cX6_solve 87 = .ok (.ireturn, 1) := by decide +kernel
def M_X6_solve : y_M := (yX6_solve, cX6_solve, 7, (Option.some Jvm.ClassFile.FieldType.int))
theorem n_X6_solve : y_N0 M_X6_solve 2 := ⟨(c_5 238 (by decide +kernel) rfl), (c_1 15 (by decide +kernel) rfl), ⟨by decide +kernel, by decide +kernel⟩, by decide +kernel⟩
theorem F_BoxYard_Search_30 : y_F "BoxYard$Search" 30 1 7 := ⟨_, _, _, rfl, by decide, Or.inr ⟨"BoxYard", (c_3 79 (by decide +kernel) rfl)⟩⟩
theorem Fp_BoxYard_Search_42 {nm : String} : y_Fp "BoxYard$Search" nm 42 6 2 := ⟨_, _, _, rfl, by decide, Or.inl ⟨rfl, Or.inl (c_5 205 (by decide +kernel) rfl)⟩⟩
theorem F_BoxYard_Search_43 : y_F "BoxYard$Search" 43 4 1 := ⟨_, _, _, rfl, by decide, Or.inr ⟨"BoxYard", (c_1 216 (by decide +kernel) rfl)⟩⟩
theorem Fp_BoxYard_Search_46 {nm : String} : y_Fp "BoxYard$Search" nm 46 6 3 := ⟨_, _, _, rfl, by decide, Or.inl ⟨rfl, Or.inl (c_5 206 (by decide +kernel) rfl)⟩⟩
theorem l_BoxYard_Search_47 : y_lnk "BoxYard$Search" 47 M_X6_startOf := Or.inl (c_6 2 (by decide +kernel) rfl)
theorem i_X6_startOf : Cond.instanceMethod (M_X6_startOf).1 ∈ y_tb := (c_6 4 (by decide +kernel) rfl)
theorem e_X6_startOf : Cond.selects (M_X6_startOf).1.cls (M_X6_startOf).1 (M_X6_startOf).1 ∈ y_tb := (m_s 23 (by decide +kernel) rfl)
theorem gs_BoxYard_Search_55 : Cond.fieldLink "BoxYard$Search" 55 "BoxYard$Search" "SLACKS" "[I" ∈ y_tb := (c_6 9 (by decide +kernel) rfl)
theorem F_BoxYard_Search_51 : y_F "BoxYard$Search" 51 6 9 := ⟨_, _, _, rfl, by decide, Or.inl (c_5 212 (by decide +kernel) rfl)⟩
theorem l_BoxYard_Search_62 : y_lnk "BoxYard$Search" 62 M_X6_sweep := Or.inl (c_6 18 (by decide +kernel) rfl)
theorem i_X6_sweep : Cond.instanceMethod (M_X6_sweep).1 ∈ y_tb := (c_6 20 (by decide +kernel) rfl)
theorem e_X6_sweep : Cond.selects (M_X6_sweep).1.cls (M_X6_sweep).1 (M_X6_sweep).1 ∈ y_tb := (m_s 25 (by decide +kernel) rfl)
set_option maxRecDepth 100000 in
def f_X6_solve (p0 : Nat) (p1 : Nat) (p2 : Nat) (c0 s0 : Nat) (h : y_H) : Option ((Int32 × Nat × Nat) × y_H) :=
  if y_K h p1 = 2 then
  if y_K h p0 = 7 then
  y_bd (s_I h p0 2 (y_mn (y_I h p1 7) 4)) (fun h1 =>
  if y_K h1 p2 = 5 then
  if y_K h1 p0 = 7 then
  y_bd (s_I h1 p0 3 (y_I h1 p2 1)) (fun h4 =>
  if y_K h4 p0 = 7 then
  y_cl (f_X6_startOf p0 p1 p2 h4) (fun r7 h8 =>
  if y_K h8 p0 = 7 then
  y_bd (s_B h8 p0 9 true) (fun h10 =>
  y_jl (fun (_ : Nat) (_ : Int64) (_ : Int32) (_ : Int32) (_ : Nat) (_ : Nat) (_ : y_H) => (none : Option ((Int32 × Nat × Nat) × y_H))) (fun j39 (v0_39 : Nat) (v3_39 : Int64) (v5_39 : Int32) (v6_39 : Int32) (c39 : Nat) (s39 : Nat) (h13 : y_H) =>
      if y_K h13 2 = 200 then
      if y_K h13 2 = 200 then
      y_jn (fun (v5_85 : Int32) (c85 : Nat) (s85 : Nat) (h15 : y_H) => (
          some ((v5_85, c85, s85), h15) : Option ((Int32 × Nat × Nat) × y_H))) (fun j85 =>
      if (nI (y_N h13 2)) ≤ v6_39 then
        j85 v5_39 c39 s39 h13
      else
        if y_K h13 v0_39 = 7 then
        if (y_B h13 v0_39 9) = true then
          if 0 ≤ v5_39 then
            j85 v5_39 c39 s39 h13
          else
            if y_K h13 v0_39 = 7 then
            y_cl (f_X6_lowerBound v0_39 v3_39 h13) (fun r16 h17 =>
            if y_K h17 2 = 200 then
            if y_K h17 2 = 200 ∧ y_ix v6_39 (y_N h17 2) = true then
            if y_K h17 v0_39 = 7 then
            y_cl (f_X6_sweep v0_39 v3_39 (r16 + (y_I h17 2 (Int32.toNatClampNeg v6_39))) c39 s39 h17) (fun r20 h21 =>
            j39 v0_39 v3_39 r20.1 (v6_39 + 1) r20.2.1 r20.2.2 h21)
            else none
            else none
            else none)
            else none
        else
          j85 v5_39 c39 s39 h13
        else none)
      else none
      else none) (fun j39 =>
  j39 p0 r7 (-9 : Int32) 0 c0 s0 h10))
  else none)
  else none)
  else none
  else none)
  else none
  else none
abbrev FF_X6_solve : Nat := 5
abbrev LL_X6_solve : Nat := 170
set_option maxRecDepth 100000 in
set_option maxHeartbeats 4000000 in
theorem k_X6_solve {l : Launch} {G : y_G} {p0 : Nat} {p1 : Nat} {p2 : Nat} {c0 s0 cz sz : Nat} {h hz : y_H} {rz : Int32} (hf : f_X6_solve p0 p1 p2 c0 s0 h = some ((rz, cz, sz), hz)) : (c0 ≤ cz ∧ s0 ≤ sz) ∧ y_S l G M_X6_solve (y_Rm FF_X6_solve LL_X6_solve c0 s0 cz sz) [y_p p0, y_p p1, y_p p2] h (some (.int rz)) hz := by
  refine y_Ustart (lv := [(0, y_p p0), (1, y_p p1), (2, y_p p2)]) (by decide) (by simp [lg_sl, y_p_cat, y_ci, y_cj, M_X6_solve]) (by simp [lv_args, y_p_cat, y_ci, y_cj]) (fun z ad0 => ?_)
  unfold f_X6_solve at hf
  refine y_lf (fun _ _ _ _ k => y_aload_n (x := p0) (pc2 := 1) rfl dX6_solve_0 rfl k) ?_
  refine y_lf (fun _ _ _ _ k => y_aload_n (x := p1) (pc2 := 2) rfl dX6_solve_1 rfl k) ?_
  obtain ⟨g35, hf⟩ := y_g hf
  refine y_lf (fun _ _ _ _ k => y_getI (pc2 := 5) rfl dX6_solve_2 F_BoxYard_Search_30 (by decide) rfl g35 k) ?_
  refine y_lf (fun _ _ _ _ k => y_iconst (v := 4) (pc2 := 6) rfl dX6_solve_5 (by decide) k) ?_
  refine y_lf (fun _ _ hc hs k => y_mmn (pc2 := 9) rfl dX6_solve_6 l_BoxYard_Search_36 (Nat.le_of_ble_eq_true rfl) (Nat.le_of_ble_eq_true rfl) (by simp [y_ci, y_cj, y_p_cat]) hc hs k) ?_
  obtain ⟨g3, hf⟩ := y_g hf
  obtain ⟨h1, e2, hf⟩ := y_bdE hf
  refine y_lf (fun _ _ _ _ k => y_putI (x := y_mn (y_I h p1 7) 4) (pc2 := 12) rfl dX6_solve_9 Fp_BoxYard_Search_42 (by decide) rfl g3 e2 k) ?_
  refine y_lf (fun _ _ _ _ k => y_aload_n (x := p0) (pc2 := 13) rfl dX6_solve_12 rfl k) ?_
  refine y_lf (fun _ _ _ _ k => y_aload_n (x := p2) (pc2 := 14) rfl dX6_solve_13 rfl k) ?_
  obtain ⟨g34, hf⟩ := y_g hf
  refine y_lf (fun _ _ _ _ k => y_getI (pc2 := 17) rfl dX6_solve_14 F_BoxYard_Search_43 (by decide) rfl g34 k) ?_
  obtain ⟨g6, hf⟩ := y_g hf
  obtain ⟨h4, e5, hf⟩ := y_bdE hf
  refine y_lf (fun _ _ _ _ k => y_putI (x := y_I h1 p2 1) (pc2 := 20) rfl dX6_solve_17 Fp_BoxYard_Search_46 (by decide) rfl g6 e5 k) ?_
  refine y_lf (fun _ _ _ _ k => y_aload_n (x := p0) (pc2 := 21) rfl dX6_solve_20 rfl k) ?_
  refine y_lf (fun _ _ _ _ k => y_aload_n (x := p1) (pc2 := 22) rfl dX6_solve_21 rfl k) ?_
  refine y_lf (fun _ _ _ _ k => y_aload_n (x := p2) (pc2 := 23) rfl dX6_solve_22 rfl k) ?_
  obtain ⟨g33, hf⟩ := y_g hf
  obtain ⟨r7, h8, c9, hf⟩ := y_clE hf
  refine y_UcV0 (As := [y_p p1, y_p p2]) (rm := rm_X6_startOf) (pc2 := 26) rfl dX6_solve_23 n_X6_startOf l_BoxYard_Search_47 i_X6_startOf e_X6_startOf (ci := 6) rfl rfl (by decide) g33 rfl rfl (by decide) (by decide) rfl rfl (k_X6_startOf c9) ?_
  refine y_lf (fun _ _ _ _ k => y_lstore_n (lv' := [(3, .long r7), (0, y_p p0), (1, y_p p1), (2, y_p p2)]) (pc2 := 27) rfl dX6_solve_26 (by decide) (by show y_st2 _ 3 _ = _; simp [y_st2, y_p_cat, y_ci, y_cj]) k) ?_
  refine y_lf (fun _ _ _ _ k => y_bipush (v := (-9 : Int32)) (pc2 := 29) rfl dX6_solve_27 (by decide) k) ?_
  refine y_lf (fun _ _ _ _ k => y_istore (lv' := [(5, .int (-9 : Int32)), (3, .long r7), (0, y_p p0), (1, y_p p1), (2, y_p p2)]) (pc2 := 31) rfl dX6_solve_29 (by decide) rfl k) ?_
  refine y_lf (fun _ _ _ _ k => y_aload_n (x := p0) (pc2 := 32) rfl dX6_solve_31 rfl k) ?_
  refine y_lf (fun _ _ _ _ k => y_iconst (v := 1) (pc2 := 33) rfl dX6_solve_32 (by decide) k) ?_
  obtain ⟨g12, hf⟩ := y_g hf
  obtain ⟨h10, e11, hf⟩ := y_bdE hf
  refine y_lf (fun _ _ _ _ k => y_putZ (x := true) (pc2 := 36) rfl dX6_solve_33 Fp_BoxYard_Search_51 (by decide) rfl g12 e11 k) ?_
  refine y_lf (fun _ _ _ _ k => y_iconst (v := 0) (pc2 := 37) rfl dX6_solve_36 (by decide) k) ?_
  refine y_jlE hf (fun j => ∀ (v0_39 : Nat) (v3_39 : Int64) (v5_39 : Int32) (v6_39 : Int32) (c39 : Nat) (s39 : Nat) (h13 : y_H), j v0_39 v3_39 v5_39 v6_39 c39 s39 h13 = some ((rz, cz, sz), hz) → y_U l G z FF_X6_solve LL_X6_solve (cz - c0) (sz - s0) c0 s0 cz sz M_X6_solve ad0 h (some (.int rz)) hz 39 [(0, y_p v0_39), (3, .long v3_39), (5, .int v5_39), (6, .int v6_39)] [] h13 c39 s39) (fun _ _ _ _ _ _ _ hf => by cases hf) (fun j39 hj39 v0_39 v3_39 v5_39 v6_39 c39 s39 h13 hf => ?_) (fun j39 hj39 hf => ?_)
  · refine y_lf (fun _ _ _ _ k => y_iload (pc2 := 41) rfl dX6_solve_39 rfl k) ?_
    obtain ⟨g32, hf⟩ := y_g hf
    refine y_lf (fun _ _ _ _ k => y_gets (pc2 := 44) rfl dX6_solve_41 gs_BoxYard_Search_55 g32 k) ?_
    obtain ⟨g31, hf⟩ := y_g hf
    refine y_lf (fun _ _ _ _ k => y_alenR (pc2 := 45) rfl dX6_solve_44 g31 k) ?_
    refine y_jnE hf (fun j => ∀ (v5_85 : Int32) (c85 : Nat) (s85 : Nat) (h15 : y_H), j v5_85 c85 s85 h15 = some ((rz, cz, sz), hz) → y_U l G z FF_X6_solve LL_X6_solve (cz - c0) (sz - s0) c0 s0 cz sz M_X6_solve ad0 h (some (.int rz)) hz 85 [(5, .int v5_85)] [] h15 c85 s85) (fun v5_85 c85 s85 h15 hf => ?_) (fun j85 hj85 hf => ?_)
    · refine y_lf (fun _ _ _ _ k => y_iload (pc2 := 87) rfl dX6_solve_85 rfl k) ?_
      exact y_iretU hf dX6_solve_87 rfl
    · refine y_lf2 (Classical.em _) (fun _ _ k1 k2 => y_icmp_ge (tgt := 85) (pc2 := 48) rfl dX6_solve_45 (by decide) k1 k2) (fun c30 => ?_) (fun c30 => ?_)
      · replace hf := y_it c30 hf
        exact y_lf (fun _ _ _ _ k => y_pk [2] rfl k) (hj85 _ _ _ _ hf)
      · replace hf := y_ie c30 hf
        refine y_lf (fun _ _ _ _ k => y_aload_n (x := v0_39) (pc2 := 49) rfl dX6_solve_48 rfl k) ?_
        obtain ⟨g29, hf⟩ := y_g hf
        refine y_lf (fun _ _ _ _ k => y_getZ (pc2 := 52) rfl dX6_solve_49 F_BoxYard_Search_51 (by decide) rfl g29 k) ?_
        refine y_lf2 (Classical.em _).symm (fun _ _ k1 k2 => y_ifz_eq (tgt := 85) (pc2 := 55) rfl dX6_solve_52 (by decide) k1 k2) (fun c28 => ?_) (fun c28 => ?_)
        · replace hf := y_ie c28 hf
          exact y_lf (fun _ _ _ _ k => y_pk [2] rfl k) (hj85 _ _ _ _ hf)
        · replace hf := y_it c28 hf
          refine y_lf (fun _ _ _ _ k => y_iload (pc2 := 57) rfl dX6_solve_55 rfl k) ?_
          refine y_lf2 (Classical.em _) (fun _ _ k1 k2 => y_if_ge (tgt := 85) (pc2 := 60) rfl dX6_solve_57 (by decide) k1 k2) (fun c27 => ?_) (fun c27 => ?_)
          · replace hf := y_it c27 hf
            exact y_lf (fun _ _ _ _ k => y_pk [2] rfl k) (hj85 _ _ _ _ hf)
          · replace hf := y_ie c27 hf
            refine y_lf (fun _ _ _ _ k => y_aload_n (x := v0_39) (pc2 := 61) rfl dX6_solve_60 rfl k) ?_
            refine y_lf (fun _ _ _ _ k => y_lload_n (pc2 := 62) rfl dX6_solve_61 rfl k) ?_
            refine y_lf (fun _ _ _ _ k => y_aload_n (x := v0_39) (pc2 := 63) rfl dX6_solve_62 rfl k) ?_
            refine y_lf (fun _ _ _ _ k => y_lload_n (pc2 := 64) rfl dX6_solve_63 rfl k) ?_
            obtain ⟨g26, hf⟩ := y_g hf
            obtain ⟨r16, h17, c18, hf⟩ := y_clE hf
            refine y_UcV0 (As := [.long v3_39]) (rm := rm_X6_lowerBound) (pc2 := 67) rfl dX6_solve_64 n_X6_lowerBound l_BoxYard_Search_58 i_X6_lowerBound e_X6_lowerBound (ci := 6) rfl rfl (by decide) g26 rfl rfl (by decide) (by simp [y_ci, y_cj, y_p_cat]) rfl rfl (k_X6_lowerBound c18) ?_
            obtain ⟨g25, hf⟩ := y_g hf
            refine y_lf (fun _ _ _ _ k => y_gets (pc2 := 70) rfl dX6_solve_67 gs_BoxYard_Search_55 g25 k) ?_
            refine y_lf (fun _ _ _ _ k => y_iload (pc2 := 72) rfl dX6_solve_70 rfl k) ?_
            obtain ⟨g24, hf⟩ := y_g hf
            refine y_lf (fun _ _ _ _ k => y_ialdR (pc2 := 73) rfl dX6_solve_72 g24.1 (y_ix_in g24.2) k) ?_
            refine y_lf (fun _ _ _ _ k => y_iadd (pc2 := 74) rfl dX6_solve_73 k) ?_
            obtain ⟨g23, hf⟩ := y_g hf
            obtain ⟨r20, h21, c22, hf⟩ := y_clE hf
            refine y_UcallV (As := [.long v3_39, .int (r16 + (y_I h17 2 (Int32.toNatClampNeg v6_39)))]) (pc2 := 77) rfl dX6_solve_74 n_X6_sweep l_BoxYard_Search_62 i_X6_sweep e_X6_sweep (ci := 6) rfl rfl (by decide) g23 rfl rfl (by decide) (by decide) (k_X6_sweep c22) ?_
            refine y_lf (fun _ _ _ _ k => y_istore (lv' := [(5, .int r20.1), (0, y_p v0_39), (3, .long v3_39), (6, .int v6_39)]) (pc2 := 79) rfl dX6_solve_77 (by decide) rfl k) ?_
            refine y_lf (fun _ _ _ _ k => y_iinc (v := v6_39 + 1) (lv' := [(6, .int (v6_39 + 1)), (5, .int r20.1), (0, y_p v0_39), (3, .long v3_39)]) (pc2 := 82) rfl dX6_solve_79 rfl rfl (by decide) rfl k) ?_
            refine y_lf (fun _ _ _ _ k => y_goto (tgt := 39) dX6_solve_82 (by decide) k) ?_
            exact y_lf (fun _ _ _ _ k => y_pk [2, 3, 1, 0] rfl k) (hj39 _ _ _ _ _ _ _ hf)
  · refine y_lf (fun _ _ _ _ k => y_istore (lv' := [(6, .int 0), (5, .int (-9 : Int32)), (3, .long r7), (0, y_p p0), (1, y_p p1), (2, y_p p2)]) (pc2 := 39) rfl dX6_solve_37 (by decide) rfl k) ?_
    exact y_lf (fun _ _ _ _ k => y_pk [3, 2, 1, 0] rfl k) (hj39 _ _ _ _ _ _ _ hf)
