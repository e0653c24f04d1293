theorem dX12_run_0 : decode cX12_run 0 = .ok (.aload_n 0, 1) := by decide +kernel
theorem dX12_run_1 : decode cX12_run 1 = .ok (.iconst 0, 1) := by decide +kernel
theorem dX12_run_2 : decode cX12_run 2 = .ok (.putfield 249, 3) := by decide +kernel
theorem dX12_run_5 : decode cX12_run 5 = .ok (.iload_n 1, 1) := by decide +kernel
theorem dX12_run_6 : decode cX12_run 6 = .ok (.iconst 0, 1) := by decide +kernel
theorem dX12_run_7 : decode cX12_run 7 = .ok (.aload_n 0, 1) := by decide +kernel
theorem dX12_run_8 : decode cX12_run 8 = .ok (.getfield 267, 3) := by decide +kernel
theorem dX12_run_11 : decode cX12_run 11 = .ok (.iconst 1, 1) := by decide +kernel
theorem dX12_run_12 : decode cX12_run 12 = .ok (.isub, 1) := by decide +kernel
theorem dX12_run_13 : decode cX12_run 13 = .ok (.invokestatic 278, 3) := by decide +kernel
theorem dX12_run_16 : decode cX12_run 16 = .ok (.ifCond .ne 5, 3) := by decide +kernel
theorem dX12_run_19 : decode cX12_run 19 = .ok (.iconst (-1), 1) := by decide +kernel
theorem dX12_run_20 : decode cX12_run 20 = .ok (.ireturn, 1) := by decide +kernel
theorem dX12_run_21 : decode cX12_run 21 = .ok (.aload_n 0, 1) := by decide +kernel
theorem dX12_run_22 : decode cX12_run 22 = .ok (.iconst 1, 1) := by decide +kernel
theorem dX12_run_23 : decode cX12_run 23 = .ok (.putfield 270, 3) := by decide +kernel
theorem dX12_run_26 : decode cX12_run 26 = .ok (.aload_n 0, 1) := by decide +kernel
theorem dX12_run_27 : decode cX12_run 27 = .ok (.lconst 0, 1) := by decide +kernel
theorem dX12_run_28 : decode cX12_run 28 = .ok (.putfield 274, 3) := by decide +kernel
theorem dX12_run_31 : decode cX12_run 31 = .ok (.aload_n 0, 1) := by decide +kernel
theorem dX12_run_32 : decode cX12_run 32 = .ok (.bipush (-9), 2) := by decide +kernel
theorem dX12_run_34 : decode cX12_run 34 = .ok (.bipush (-9), 2) := by decide +kernel
theorem dX12_run_36 : decode cX12_run 36 = .ok (.invokevirtual 491, 3) := by decide +kernel
theorem dX12_run_39 : decode cX12_run 39 = .ok (.aload_n 0, 1) := by decide +kernel
theorem dX12_run_40 : decode cX12_run 40 = .ok (.bipush (-9), 2) := by decide +kernel
theorem dX12_run_42 : decode cX12_run 42 = .ok (.putfield 204, 3) := by decide +kernel
theorem dX12_run_45 : decode cX12_run 45 = .ok (.aload_n 0, 1) := by decide +kernel
theorem dX12_run_46 : decode cX12_run 46 = .ok (.iconst 0, 1) := by decide +kernel
theorem dX12_run_47 : decode cX12_run 47 = .ok (.putfield 521, 3) := by decide +kernel
theorem dX12_run_50 : decode cX12_run 50 = .ok (.aload_n 0, 1) := by decide +kernel
theorem dX12_run_51 : decode cX12_run 51 = .ok (.iconst 0, 1) := by decide +kernel
theorem dX12_run_52 : decode cX12_run 52 = .ok (.putfield 482, 3) := by decide +kernel
theorem dX12_run_55 : decode cX12_run 55 = .ok (.aload_n 0, 1) := by decide +kernel
theorem dX12_run_56 : decode cX12_run 56 = .ok (.iconst 0, 1) := by decide +kernel
theorem dX12_run_57 : decode cX12_run 57 = .ok (.putfield 515, 3) := by decide +kernel
theorem dX12_run_60 : decode cX12_run 60 = .ok (.aload_n 0, 1) := by decide +kernel
theorem dX12_run_61 : decode cX12_run 61 = .ok (.iconst 0, 1) := by decide +kernel
theorem dX12_run_62 : decode cX12_run 62 = .ok (.aload_n 0, 1) := by decide +kernel
theorem dX12_run_63 : decode cX12_run 63 = .ok (.getfield 180, 3) := by decide +kernel
theorem dX12_run_66 : decode cX12_run 66 = .ok (.iload_n 1, 1) := by decide +kernel
theorem dX12_run_67 : decode cX12_run 67 = .ok (.iaload, 1) := by decide +kernel
theorem dX12_run_68 : decode cX12_run 68 = .ok (.iconst 0, 1) := by decide +kernel
theorem dX12_run_69 : decode cX12_run 69 = .ok (.invokevirtual 524, 3) := by decide +kernel
theorem dX12_run_72 : decode cX12_run 72 = .ok (.iconst 0, 1) := by decide +kernel
theorem dX12_run_73 : decode cX12_run 73 = .ok (.istore_n 2, 1) := by decide +kernel
theorem dX12_run_74 : decode cX12_run 74 = .ok (.aload_n 0, 1) := by decide +kernel
theorem dX12_run_75 : decode cX12_run 75 = .ok (.getfield 482, 3) := by decide +kernel
theorem dX12_run_78 : decode cX12_run 78 = .ok (.ifCond .le 240, 3) := by decide +kernel
theorem dX12_run_81 : decode cX12_run 81 = .ok (.iload_n 2, 1) := by decide +kernel
theorem dX12_run_82 : decode cX12_run 82 = .ok (.ifCond .ne 236, 3) := by decide +kernel
theorem dX12_run_85 : decode cX12_run 85 = .ok (.aload_n 0, 1) := by decide +kernel
theorem dX12_run_86 : decode cX12_run 86 = .ok (.getfield 482, 3) := by decide +kernel
theorem dX12_run_89 : decode cX12_run 89 = .ok (.iconst 1, 1) := by decide +kernel
theorem dX12_run_90 : decode cX12_run 90 = .ok (.isub, 1) := by decide +kernel
theorem dX12_run_91 : decode cX12_run 91 = .ok (.istore_n 3, 1) := by decide +kernel
theorem dX12_run_92 : decode cX12_run 92 = .ok (.aload_n 0, 1) := by decide +kernel
theorem dX12_run_93 : decode cX12_run 93 = .ok (.getfield 515, 3) := by decide +kernel
theorem dX12_run_96 : decode cX12_run 96 = .ok (.aload_n 0, 1) := by decide +kernel
theorem dX12_run_97 : decode cX12_run 97 = .ok (.getfield 210, 3) := by decide +kernel
theorem dX12_run_100 : decode cX12_run 100 = .ok (.iload_n 3, 1) := by decide +kernel
theorem dX12_run_101 : decode cX12_run 101 = .ok (.iaload, 1) := by decide +kernel
theorem dX12_run_102 : decode cX12_run 102 = .ok (.if_icmp .ge 145, 3) := by decide +kernel
theorem dX12_run_105 : decode cX12_run 105 = .ok (.bipush 10, 2) := by decide +kernel
theorem dX12_run_107 : decode cX12_run 107 = .ok (.iload_n 1, 1) := by decide +kernel
theorem dX12_run_108 : decode cX12_run 108 = .ok (.imul, 1) := by decide +kernel
theorem dX12_run_109 : decode cX12_run 109 = .ok (.aload_n 0, 1) := by decide +kernel
theorem dX12_run_110 : decode cX12_run 110 = .ok (.getfield 515, 3) := by decide +kernel
theorem dX12_run_113 : decode cX12_run 113 = .ok (.iadd, 1) := by decide +kernel
theorem dX12_run_114 : decode cX12_run 114 = .ok (.istore 4, 2) := by decide +kernel
theorem dX12_run_116 : decode cX12_run 116 = .ok (.aload_n 0, 1) := by decide +kernel
theorem dX12_run_117 : decode cX12_run 117 = .ok (.dup, 1) := by decide +kernel
theorem dX12_run_118 : decode cX12_run 118 = .ok (.getfield 521, 3) := by decide +kernel
theorem dX12_run_121 : decode cX12_run 121 = .ok (.iconst 1, 1) := by decide +kernel
theorem dX12_run_122 : decode cX12_run 122 = .ok (.iadd, 1) := by decide +kernel
theorem dX12_run_123 : decode cX12_run 123 = .ok (.putfield 521, 3) := by decide +kernel
theorem dX12_run_126 : decode cX12_run 126 = .ok (.aload_n 0, 1) := by decide +kernel
theorem dX12_run_127 : decode cX12_run 127 = .ok (.dup, 1) := by decide +kernel
theorem dX12_run_128 : decode cX12_run 128 = .ok (.getfield 515, 3) := by decide +kernel
theorem dX12_run_131 : decode cX12_run 131 = .ok (.iconst 1, 1) := by decide +kernel
theorem dX12_run_132 : decode cX12_run 132 = .ok (.iadd, 1) := by decide +kernel
theorem dX12_run_133 : decode cX12_run 133 = .ok (.putfield 515, 3) := by decide +kernel
theorem dX12_run_136 : decode cX12_run 136 = .ok (.aload_n 0, 1) := by decide +kernel
theorem dX12_run_137 : decode cX12_run 137 = .ok (.getfield 183, 3) := by decide +kernel
theorem dX12_run_140 : decode cX12_run 140 = .ok (.iload 4, 2) := by decide +kernel
theorem dX12_run_142 : decode cX12_run 142 = .ok (.iaload, 1) := by decide +kernel
theorem dX12_run_143 : decode cX12_run 143 = .ok (.bipush 14, 2) := by decide +kernel
theorem dX12_run_145 : decode cX12_run 145 = .ok (.if_icmp .lt 49, 3) := by decide +kernel
theorem dX12_run_148 : decode cX12_run 148 = .ok (.aload_n 0, 1) := by decide +kernel
theorem dX12_run_149 : decode cX12_run 149 = .ok (.aload_n 0, 1) := by decide +kernel
theorem dX12_run_150 : decode cX12_run 150 = .ok (.getfield 183, 3) := by decide +kernel
theorem dX12_run_153 : decode cX12_run 153 = .ok (.iload 4, 2) := by decide +kernel
theorem dX12_run_155 : decode cX12_run 155 = .ok (.iaload, 1) := by decide +kernel
theorem dX12_run_156 : decode cX12_run 156 = .ok (.bipush 14, 2) := by decide +kernel
theorem dX12_run_158 : decode cX12_run 158 = .ok (.if_icmp .ne 7, 3) := by decide +kernel
theorem dX12_run_161 : decode cX12_run 161 = .ok (.iconst 1, 1) := by decide +kernel
theorem dX12_run_162 : decode cX12_run 162 = .ok (.goto 4, 3) := by decide +kernel
theorem dX12_run_165 : decode cX12_run 165 = .ok (.iconst 2, 1) := by decide +kernel
theorem dX12_run_166 : decode cX12_run 166 = .ok (.aload_n 0, 1) := by decide +kernel
theorem dX12_run_167 : decode cX12_run 167 = .ok (.aload_n 0, 1) := by decide +kernel
theorem dX12_run_168 : decode cX12_run 168 = .ok (.getfield 515, 3) := by decide +kernel
theorem dX12_run_171 : decode cX12_run 171 = .ok (.aload_n 0, 1) := by decide +kernel
theorem dX12_run_172 : decode cX12_run 172 = .ok (.getfield 186, 3) := by decide +kernel
theorem dX12_run_175 : decode cX12_run 175 = .ok (.iload 4, 2) := by decide +kernel
theorem dX12_run_177 : decode cX12_run 177 = .ok (.iaload, 1) := by decide +kernel
theorem dX12_run_178 : decode cX12_run 178 = .ok (.invokevirtual 527, 3) := by decide +kernel
theorem dX12_run_181 : decode cX12_run 181 = .ok (.aload_n 0, 1) := by decide +kernel
theorem dX12_run_182 : decode cX12_run 182 = .ok (.getfield 189, 3) := by decide +kernel
theorem dX12_run_185 : decode cX12_run 185 = .ok (.iload 4, 2) := by decide +kernel
theorem dX12_run_187 : decode cX12_run 187 = .ok (.iaload, 1) := by decide +kernel
theorem dX12_run_188 : decode cX12_run 188 = .ok (.invokevirtual 524, 3) := by decide +kernel
theorem dX12_run_191 : decode cX12_run 191 = .ok (.goto 53, 3) := by decide +kernel
theorem dX12_run_194 : decode cX12_run 194 = .ok (.aload_n 0, 1) := by decide +kernel
theorem dX12_run_195 : decode cX12_run 195 = .ok (.aload_n 0, 1) := by decide +kernel
theorem dX12_run_196 : decode cX12_run 196 = .ok (.getfield 183, 3) := by decide +kernel
theorem dX12_run_199 : decode cX12_run 199 = .ok (.iload 4, 2) := by decide +kernel
theorem dX12_run_201 : decode cX12_run 201 = .ok (.iaload, 1) := by decide +kernel
theorem dX12_run_202 : decode cX12_run 202 = .ok (.aload_n 0, 1) := by decide +kernel
theorem dX12_run_203 : decode cX12_run 203 = .ok (.getfield 186, 3) := by decide +kernel
theorem dX12_run_206 : decode cX12_run 206 = .ok (.iload 4, 2) := by decide +kernel
theorem dX12_run_208 : decode cX12_run 208 = .ok (.iaload, 1) := by decide +kernel
theorem dX12_run_209 : decode cX12_run 209 = .ok (.aload_n 0, 1) := by decide +kernel
theorem dX12_run_210 : decode cX12_run 210 = .ok (.getfield 189, 3) := by decide +kernel
theorem dX12_run_213 : decode cX12_run 213 = .ok (.iload 4, 2) := by decide +kernel
theorem dX12_run_215 : decode cX12_run 215 = .ok (.iaload, 1) := by decide +kernel
theorem dX12_run_216 : decode cX12_run 216 = .ok (.invokevirtual 530, 3) := by decide +kernel
theorem dX12_run_219 : decode cX12_run 219 = .ok (.istore 5, 2) := by decide +kernel
theorem dX12_run_221 : decode cX12_run 221 = .ok (.iload 5, 2) := by decide +kernel
theorem dX12_run_223 : decode cX12_run 223 = .ok (.ifCond .le 19, 3) := by decide +kernel
theorem dX12_run_226 : decode cX12_run 226 = .ok (.aload_n 0, 1) := by decide +kernel
theorem dX12_run_227 : decode cX12_run 227 = .ok (.iload 5, 2) := by decide +kernel
theorem dX12_run_229 : decode cX12_run 229 = .ok (.iload 4, 2) := by decide +kernel
theorem dX12_run_231 : decode cX12_run 231 = .ok (.bipush 10, 2) := by decide +kernel
theorem dX12_run_233 : decode cX12_run 233 = .ok (.iload_n 1, 1) := by decide +kernel
theorem dX12_run_234 : decode cX12_run 234 = .ok (.imul, 1) := by decide +kernel
theorem dX12_run_235 : decode cX12_run 235 = .ok (.isub, 1) := by decide +kernel
theorem dX12_run_236 : decode cX12_run 236 = .ok (.invokevirtual 533, 3) := by decide +kernel
theorem dX12_run_239 : decode cX12_run 239 = .ok (.goto 4, 3) := by decide +kernel
theorem dX12_run_242 : decode cX12_run 242 = .ok (.iconst 0, 1) := by decide +kernel
theorem dX12_run_243 : decode cX12_run 243 = .ok (.istore_n 2, 1) := by decide +kernel
theorem dX12_run_244 : decode cX12_run 244 = .ok (.goto 71, 3) := by decide +kernel
theorem dX12_run_247 : decode cX12_run 247 = .ok (.aload_n 0, 1) := by decide +kernel
theorem dX12_run_248 : decode cX12_run 248 = .ok (.getfield 207, 3) := by decide +kernel
theorem dX12_run_251 : decode cX12_run 251 = .ok (.iload_n 3, 1) := by decide +kernel
theorem dX12_run_252 : decode cX12_run 252 = .ok (.iaload, 1) := by decide +kernel
theorem dX12_run_253 : decode cX12_run 253 = .ok (.iconst 2, 1) := by decide +kernel
theorem dX12_run_254 : decode cX12_run 254 = .ok (.if_icmp .ne 11, 3) := by decide +kernel
theorem dX12_run_257 : decode cX12_run 257 = .ok (.aload_n 0, 1) := by decide +kernel
theorem dX12_run_258 : decode cX12_run 258 = .ok (.iload_n 3, 1) := by decide +kernel
theorem dX12_run_259 : decode cX12_run 259 = .ok (.invokevirtual 518, 3) := by decide +kernel
theorem dX12_run_262 : decode cX12_run 262 = .ok (.goto 53, 3) := by decide +kernel
theorem dX12_run_265 : decode cX12_run 265 = .ok (.aload_n 0, 1) := by decide +kernel
theorem dX12_run_266 : decode cX12_run 266 = .ok (.dup, 1) := by decide +kernel
theorem dX12_run_267 : decode cX12_run 267 = .ok (.getfield 482, 3) := by decide +kernel
theorem dX12_run_270 : decode cX12_run 270 = .ok (.iconst 1, 1) := by decide +kernel
theorem dX12_run_271 : decode cX12_run 271 = .ok (.isub, 1) := by decide +kernel
theorem dX12_run_272 : decode cX12_run 272 = .ok (.putfield 482, 3) := by decide +kernel
theorem dX12_run_275 : decode cX12_run 275 = .ok (.aload_n 0, 1) := by decide +kernel
theorem dX12_run_276 : decode cX12_run 276 = .ok (.getfield 207, 3) := by decide +kernel
theorem dX12_run_279 : decode cX12_run 279 = .ok (.iload_n 3, 1) := by decide +kernel
theorem dX12_run_280 : decode cX12_run 280 = .ok (.iaload, 1) := by decide +kernel
theorem dX12_run_281 : decode cX12_run 281 = .ok (.iconst 3, 1) := by decide +kernel
theorem dX12_run_282 : decode cX12_run 282 = .ok (.if_icmp .ne 31, 3) := by decide +kernel
theorem dX12_run_285 : decode cX12_run 285 = .ok (.aload_n 0, 1) := by decide +kernel
theorem dX12_run_286 : decode cX12_run 286 = .ok (.getfield 216, 3) := by decide +kernel
theorem dX12_run_289 : decode cX12_run 289 = .ok (.iload_n 3, 1) := by decide +kernel
theorem dX12_run_290 : decode cX12_run 290 = .ok (.iaload, 1) := by decide +kernel
theorem dX12_run_291 : decode cX12_run 291 = .ok (.ifCond .le 22, 3) := by decide +kernel
theorem dX12_run_294 : decode cX12_run 294 = .ok (.aload_n 0, 1) := by decide +kernel
theorem dX12_run_295 : decode cX12_run 295 = .ok (.aload_n 0, 1) := by decide +kernel
theorem dX12_run_296 : decode cX12_run 296 = .ok (.getfield 216, 3) := by decide +kernel
theorem dX12_run_299 : decode cX12_run 299 = .ok (.iload_n 3, 1) := by decide +kernel
theorem dX12_run_300 : decode cX12_run 300 = .ok (.iaload, 1) := by decide +kernel
theorem dX12_run_301 : decode cX12_run 301 = .ok (.aload_n 0, 1) := by decide +kernel
theorem dX12_run_302 : decode cX12_run 302 = .ok (.getfield 219, 3) := by decide +kernel
theorem dX12_run_305 : decode cX12_run 305 = .ok (.iload_n 3, 1) := by decide +kernel
theorem dX12_run_306 : decode cX12_run 306 = .ok (.iaload, 1) := by decide +kernel
theorem dX12_run_307 : decode cX12_run 307 = .ok (.invokevirtual 533, 3) := by decide +kernel
theorem dX12_run_310 : decode cX12_run 310 = .ok (.goto 4, 3) := by decide +kernel
theorem dX12_run_313 : decode cX12_run 313 = .ok (.iconst 0, 1) := by decide +kernel
theorem dX12_run_314 : decode cX12_run 314 = .ok (.istore_n 2, 1) := by decide +kernel
theorem dX12_run_315 : decode cX12_run 315 = .ok (.goto (-241), 3) := by decide +kernel
theorem dX12_run_318 : decode cX12_run 318 = .ok (.iload_n 2, 1) := by decide +kernel
theorem dX12_run_319 : decode cX12_run 319 = .ok (.ifCond .ne 7, 3) := by decide +kernel
theorem dX12_run_322 : decode cX12_run 322 = .ok (.iconst 1, 1) := by decide +kernel
theorem dX12_run_323 : decode cX12_run 323 = .ok (.goto 8, 3) := by decide +kernel
theorem dX12_run_326 : decode cX12_run 326 = .ok (.aload_n 0, 1) := by decide +kernel
theorem dX12_run_327 : decode cX12_run 327 = .ok (.iload_n 2, 1) := by decide +kernel
theorem dX12_run_328 : decode cX12_run 328 = .ok (.invokevirtual 301, 3) := by decide +kernel
theorem dX12_run_331 : decode cX12_run 331 = .ok (.ireturn, 1) := by decide +kernel
def M_X12_run : y_M := (yX12_run, cX12_run, 6, (Option.some Jvm.ClassFile.FieldType.int))
theorem n_X12_run : y_N0 M_X12_run 1 := ⟨(c_10 58 (by decide +kernel) rfl), (c_1 9 (by decide +kernel) rfl), ⟨by decide +kernel, by decide +kernel⟩, by decide +kernel⟩
theorem Fp_BoxYardModel_521 {nm : String} : y_Fp "BoxYardModel" nm 521 12 84 := ⟨_, _, _, rfl, by decide, Or.inl ⟨rfl, Or.inl (c_7 206 (by decide +kernel) rfl)⟩⟩
theorem l_BoxYardModel_524 : y_lnk "BoxYardModel" 524 M_X12_push := Or.inl (c_10 63 (by decide +kernel) rfl)
theorem i_X12_push : Cond.instanceMethod (M_X12_push).1 ∈ y_tb := (c_10 65 (by decide +kernel) rfl)
theorem e_X12_push : Cond.selects (M_X12_push).1.cls (M_X12_push).1 (M_X12_push).1 ∈ y_tb := (m_s 107 (by decide +kernel) rfl)
theorem F_BoxYardModel_515 : y_F "BoxYardModel" 515 12 91 := ⟨_, _, _, rfl, by decide, Or.inl (c_7 213 (by decide +kernel) rfl)⟩
theorem l_BoxYardModel_533 : y_lnk "BoxYardModel" 533 M_X12_raise := Or.inl (c_10 111 (by decide +kernel) rfl)
theorem i_X12_raise : Cond.instanceMethod (M_X12_raise).1 ∈ y_tb := (c_10 113 (by decide +kernel) rfl)
theorem e_X12_raise : Cond.selects (M_X12_raise).1.cls (M_X12_raise).1 (M_X12_raise).1 ∈ y_tb := (m_s 119 (by decide +kernel) rfl)
theorem F_BoxYardModel_521 : y_F "BoxYardModel" 521 12 84 := ⟨_, _, _, rfl, by decide, Or.inl (c_7 206 (by decide +kernel) rfl)⟩
theorem l_BoxYardModel_530 : y_lnk "BoxYardModel" 530 M_X12_does := Or.inl (c_10 71 (by decide +kernel) rfl)
theorem i_X12_does : Cond.instanceMethod (M_X12_does).1 ∈ y_tb := (c_10 73 (by decide +kernel) rfl)
theorem e_X12_does : Cond.selects (M_X12_does).1.cls (M_X12_does).1 (M_X12_does).1 ∈ y_tb := (m_s 109 (by decide +kernel) rfl)
theorem l_BoxYardModel_527 : y_lnk "BoxYardModel" 527 M_X12_stretch := Or.inl (c_10 67 (by decide +kernel) rfl)
theorem i_X12_stretch : Cond.instanceMethod (M_X12_stretch).1 ∈ y_tb := (c_10 69 (by decide +kernel) rfl)
theorem e_X12_stretch : Cond.selects (M_X12_stretch).1.cls (M_X12_stretch).1 (M_X12_stretch).1 ∈ y_tb := (m_s 108 (by decide +kernel) rfl)
set_option maxRecDepth 100000 in
def f_X12_run (p0 : Nat) (p1 : Int32) (h : y_H) : Option (Int32 × y_H) :=
  if y_K h p0 = 13 then
  y_bd (s_I h p0 46 0) (fun h1 =>
  if y_K h1 p0 = 13 then
  y_cl (f_X12_in p1 0 ((y_I h1 p0 72) - 1) h1) (fun r4 h5 =>
  if r4 = true then
    if y_K h5 p0 = 13 then
    y_bd (s_B h5 p0 79 true) (fun h7 =>
    if y_K h7 p0 = 13 then
    y_bd (s_L h7 p0 80 0) (fun h10 =>
    if y_K h10 p0 = 13 then
    y_cl (f_X12_leads p0 (-9 : Int32) (-9 : Int32) h10) (fun _ h13 =>
    if y_K h13 p0 = 13 then
    y_bd (s_I h13 p0 83 (-9 : Int32)) (fun h15 =>
    if y_K h15 p0 = 13 then
    y_bd (s_I h15 p0 84 0) (fun h18 =>
    if y_K h18 p0 = 13 then
    y_bd (s_I h18 p0 85 0) (fun h21 =>
    if y_K h21 p0 = 13 then
    y_bd (s_I h21 p0 91 0) (fun h24 =>
    if y_K h24 p0 = 13 then
    if y_K h24 (y_P h24 p0 73) = 100 ∧ y_ix p1 (y_N h24 (y_P h24 p0 73)) = true then
    if y_K h24 p0 = 13 then
    y_cl (f_X12_push p0 0 (y_I h24 (y_P h24 p0 73) (Int32.toNatClampNeg p1)) 0 h24) (fun _ h27 =>
    y_jl (fun (_ : Nat) (_ : Int32) (_ : Int32) (_ : y_H) => (none : Option (Int32 × y_H))) (fun j74 (v0_74 : Nat) (v1_74 : Int32) (v2_74 : Int32) (h29 : y_H) =>
        if y_K h29 v0_74 = 13 then
        y_jn (fun (v0_318 : Nat) (v2_318 : Int32) (h30 : y_H) => (
            if v2_318 = 0 then
              some (1, h30)
            else
              if y_K h30 v0_318 = 13 then
              y_cl (f_X12_finds v0_318 v2_318 h30) (fun r31 h32 =>
              some (r31, h32))
              else none : Option (Int32 × y_H))) (fun j318 =>
        if (y_I h29 v0_74 85) ≤ 0 then
          j318 v0_74 v2_74 h29
        else
          if v2_74 = 0 then
            if y_K h29 v0_74 = 13 then
            if y_K h29 v0_74 = 13 then
            if y_K h29 v0_74 = 13 then
            if y_K h29 (y_P h29 v0_74 87) = 100 ∧ y_ix ((y_I h29 v0_74 85) - 1) (y_N h29 (y_P h29 v0_74 87)) = true then
            y_jn (fun (v0_315 : Nat) (v1_315 : Int32) (v2_315 : Int32) (h36 : y_H) => (
                j74 v0_315 v1_315 v2_315 h36 : Option (Int32 × y_H))) (fun j315 =>
            if (y_I h29 (y_P h29 v0_74 87) (Int32.toNatClampNeg ((y_I h29 v0_74 85) - 1))) ≤ (y_I h29 v0_74 91) then
              if y_K h29 v0_74 = 13 then
              if y_K h29 (y_P h29 v0_74 86) = 100 ∧ y_ix ((y_I h29 v0_74 85) - 1) (y_N h29 (y_P h29 v0_74 86)) = true then
              if (y_I h29 (y_P h29 v0_74 86) (Int32.toNatClampNeg ((y_I h29 v0_74 85) - 1))) = 2 then
                if y_K h29 v0_74 = 13 then
                y_cl (f_X12_second v0_74 ((y_I h29 v0_74 85) - 1) h29) (fun _ h56 =>
                j315 v0_74 v1_74 v2_74 h56)
                else none
              else
                if y_K h29 v0_74 = 13 then
                if y_K h29 v0_74 = 13 then
                y_bd (s_I h29 v0_74 85 ((y_I h29 v0_74 85) - 1)) (fun h37 =>
                if y_K h37 v0_74 = 13 then
                if y_K h37 (y_P h37 v0_74 86) = 100 ∧ y_ix ((y_I h29 v0_74 85) - 1) (y_N h37 (y_P h37 v0_74 86)) = true then
                y_jn (fun (v0_313 : Nat) (v1_313 : Int32) (h40 : y_H) => (
                    j315 v0_313 v1_313 0 h40 : Option (Int32 × y_H))) (fun j313 =>
                if (y_I h37 (y_P h37 v0_74 86) (Int32.toNatClampNeg ((y_I h29 v0_74 85) - 1))) = 3 then
                  if y_K h37 v0_74 = 13 then
                  if y_K h37 (y_P h37 v0_74 89) = 100 ∧ y_ix ((y_I h29 v0_74 85) - 1) (y_N h37 (y_P h37 v0_74 89)) = true then
                  if (y_I h37 (y_P h37 v0_74 89) (Int32.toNatClampNeg ((y_I h29 v0_74 85) - 1))) ≤ 0 then
                    j313 v0_74 v1_74 h37
                  else
                    if y_K h37 v0_74 = 13 then
                    if y_K h37 (y_P h37 v0_74 89) = 100 ∧ y_ix ((y_I h29 v0_74 85) - 1) (y_N h37 (y_P h37 v0_74 89)) = true then
                    if y_K h37 v0_74 = 13 then
                    if y_K h37 (y_P h37 v0_74 90) = 100 ∧ y_ix ((y_I h29 v0_74 85) - 1) (y_N h37 (y_P h37 v0_74 90)) = true then
                    if y_K h37 v0_74 = 13 then
                    y_cl (f_X12_raise v0_74 (y_I h37 (y_P h37 v0_74 89) (Int32.toNatClampNeg ((y_I h29 v0_74 85) - 1))) (y_I h37 (y_P h37 v0_74 90) (Int32.toNatClampNeg ((y_I h29 v0_74 85) - 1))) h37) (fun r41 h42 =>
                    j315 v0_74 v1_74 r41 h42)
                    else none
                    else none
                    else none
                    else none
                    else none
                  else none
                  else none
                else
                  j313 v0_74 v1_74 h37)
                else none
                else none)
                else none
                else none
              else none
              else none
            else
              if y_K h29 v0_74 = 13 then
              if y_K h29 v0_74 = 13 then
              if y_K h29 v0_74 = 13 then
              y_bd (s_I h29 v0_74 84 ((y_I h29 v0_74 84) + 1)) (fun h62 =>
              if y_K h62 v0_74 = 13 then
              if y_K h62 v0_74 = 13 then
              y_bd (s_I h62 v0_74 91 ((y_I h62 v0_74 91) + 1)) (fun h65 =>
              if y_K h65 v0_74 = 13 then
              if y_K h65 (y_P h65 v0_74 74) = 100 ∧ y_ix ((10 * v1_74) + (y_I h29 v0_74 91)) (y_N h65 (y_P h65 v0_74 74)) = true then
              y_jn (fun (v0_244 : Nat) (v1_244 : Int32) (v2_244 : Int32) (h68 : y_H) => (
                  j315 v0_244 v1_244 v2_244 h68 : Option (Int32 × y_H))) (fun j244 =>
              if (y_I h65 (y_P h65 v0_74 74) (Int32.toNatClampNeg ((10 * v1_74) + (y_I h29 v0_74 91)))) < 14 then
                if y_K h65 v0_74 = 13 then
                if y_K h65 (y_P h65 v0_74 74) = 100 ∧ y_ix ((10 * v1_74) + (y_I h29 v0_74 91)) (y_N h65 (y_P h65 v0_74 74)) = true then
                if y_K h65 v0_74 = 13 then
                if y_K h65 (y_P h65 v0_74 75) = 100 ∧ y_ix ((10 * v1_74) + (y_I h29 v0_74 91)) (y_N h65 (y_P h65 v0_74 75)) = true then
                if y_K h65 v0_74 = 13 then
                if y_K h65 (y_P h65 v0_74 76) = 100 ∧ y_ix ((10 * v1_74) + (y_I h29 v0_74 91)) (y_N h65 (y_P h65 v0_74 76)) = true then
                if y_K h65 v0_74 = 13 then
                y_cl (f_X12_does v0_74 (y_I h65 (y_P h65 v0_74 74) (Int32.toNatClampNeg ((10 * v1_74) + (y_I h29 v0_74 91)))) (y_I h65 (y_P h65 v0_74 75) (Int32.toNatClampNeg ((10 * v1_74) + (y_I h29 v0_74 91)))) (y_I h65 (y_P h65 v0_74 76) (Int32.toNatClampNeg ((10 * v1_74) + (y_I h29 v0_74 91)))) h65) (fun r69 h70 =>
                if r69 ≤ 0 then
                  j244 v0_74 v1_74 0 h70
                else
                  if y_K h70 v0_74 = 13 then
                  y_cl (f_X12_raise v0_74 r69 (((10 * v1_74) + (y_I h29 v0_74 91)) - (10 * v1_74)) h70) (fun r72 h73 =>
                  j244 v0_74 v1_74 r72 h73)
                  else none)
                else none
                else none
                else none
                else none
                else none
                else none
                else none
              else
                if y_K h65 v0_74 = 13 then
                if y_K h65 (y_P h65 v0_74 74) = 100 ∧ y_ix ((10 * v1_74) + (y_I h29 v0_74 91)) (y_N h65 (y_P h65 v0_74 74)) = true then
                if (y_I h65 (y_P h65 v0_74 74) (Int32.toNatClampNeg ((10 * v1_74) + (y_I h29 v0_74 91)))) = 14 then
                  if y_K h65 v0_74 = 13 then
                  if y_K h65 v0_74 = 13 then
                  if y_K h65 (y_P h65 v0_74 75) = 100 ∧ y_ix ((10 * v1_74) + (y_I h29 v0_74 91)) (y_N h65 (y_P h65 v0_74 75)) = true then
                  if y_K h65 v0_74 = 13 then
                  y_cl (f_X12_stretch v0_74 (y_I h65 v0_74 91) (y_I h65 (y_P h65 v0_74 75) (Int32.toNatClampNeg ((10 * v1_74) + (y_I h29 v0_74 91)))) h65) (fun r96 h97 =>
                  if y_K h97 v0_74 = 13 then
                  if y_K h97 (y_P h97 v0_74 76) = 100 ∧ y_ix ((10 * v1_74) + (y_I h29 v0_74 91)) (y_N h97 (y_P h97 v0_74 76)) = true then
                  if y_K h97 v0_74 = 13 then
                  y_cl (f_X12_push v0_74 1 r96 (y_I h97 (y_P h97 v0_74 76) (Int32.toNatClampNeg ((10 * v1_74) + (y_I h29 v0_74 91)))) h97) (fun _ h99 =>
                  j244 v0_74 v1_74 v2_74 h99)
                  else none
                  else none
                  else none)
                  else none
                  else none
                  else none
                  else none
                else
                  if y_K h65 v0_74 = 13 then
                  if y_K h65 v0_74 = 13 then
                  if y_K h65 (y_P h65 v0_74 75) = 100 ∧ y_ix ((10 * v1_74) + (y_I h29 v0_74 91)) (y_N h65 (y_P h65 v0_74 75)) = true then
                  if y_K h65 v0_74 = 13 then
                  y_cl (f_X12_stretch v0_74 (y_I h65 v0_74 91) (y_I h65 (y_P h65 v0_74 75) (Int32.toNatClampNeg ((10 * v1_74) + (y_I h29 v0_74 91)))) h65) (fun r84 h85 =>
                  if y_K h85 v0_74 = 13 then
                  if y_K h85 (y_P h85 v0_74 76) = 100 ∧ y_ix ((10 * v1_74) + (y_I h29 v0_74 91)) (y_N h85 (y_P h85 v0_74 76)) = true then
                  if y_K h85 v0_74 = 13 then
                  y_cl (f_X12_push v0_74 2 r84 (y_I h85 (y_P h85 v0_74 76) (Int32.toNatClampNeg ((10 * v1_74) + (y_I h29 v0_74 91)))) h85) (fun _ h87 =>
                  j244 v0_74 v1_74 v2_74 h87)
                  else none
                  else none
                  else none)
                  else none
                  else none
                  else none
                  else none
                else none
                else none)
              else none
              else none)
              else none
              else none)
              else none
              else none
              else none)
            else none
            else none
            else none
            else none
          else
            j318 v0_74 v2_74 h29)
        else none) (fun j74 =>
    j74 p0 p1 0 h27))
    else none
    else none
    else none)
    else none)
    else none)
    else none)
    else none)
    else none)
    else none)
    else none
  else
    some ((-1 : Int32), h5))
  else none)
  else none
abbrev rm_X12_run : Room := { frames := 5, cells := 0, slots := 0, locals := 114 }
set_option maxRecDepth 100000 in
set_option maxHeartbeats 4000000 in
theorem k_X12_run {l : Launch} {G : y_G} {p0 : Nat} {p1 : Int32} {h hz : y_H} {rz : Int32} (hf : f_X12_run p0 p1 h = some (rz, hz)) : y_S l G M_X12_run rm_X12_run [y_p p0, .int p1] h (some (.int rz)) hz := by
  refine y_start (lv := [(0, y_p p0), (1, .int p1)]) (by decide) (by simp [lg_sl, y_p_cat, y_ci, y_cj, M_X12_run]) (by simp [lv_args, y_p_cat, y_ci, y_cj]) (fun z ad0 => ?_)
  unfold f_X12_run at hf
  refine y_aload_n (x := p0) (pc2 := 1) rfl dX12_run_0 rfl ?_
  refine y_iconst (v := 0) (pc2 := 2) rfl dX12_run_1 (by decide) ?_
  obtain ⟨g3, hf⟩ := y_g hf
  obtain ⟨h1, e2, hf⟩ := y_bdE hf
  refine y_putI (x := 0) (pc2 := 5) rfl dX12_run_2 Fp_BoxYardModel_249 (by decide) rfl g3 e2 ?_
  refine y_iload_n (pc2 := 6) rfl dX12_run_5 rfl ?_
  refine y_iconst (v := 0) (pc2 := 7) rfl dX12_run_6 (by decide) ?_
  refine y_aload_n (x := p0) (pc2 := 8) rfl dX12_run_7 rfl ?_
  obtain ⟨g130, hf⟩ := y_g hf
  refine y_getI (pc2 := 11) rfl dX12_run_8 F_BoxYardModel_267 (by decide) rfl g130 ?_
  refine y_iconst (v := 1) (pc2 := 12) rfl dX12_run_11 (by decide) ?_
  refine y_isub (pc2 := 13) rfl dX12_run_12 ?_
  obtain ⟨r4, h5, c6, hf⟩ := y_clE hf
  refine y_callS (As := [.int p1, .int 0, .int ((y_I h1 p0 72) - 1)]) (rm := rm_X12_in) (cells := 0) (slots := 0) (pc2 := 16) rfl dX12_run_13 n_X12_in l_BoxYardModel_278 t_X12_in rfl rfl (by decide) (by decide) (by decide) (k_X12_in c6) ?_
  refine y_ifz_ne (tgt := 21) (pc2 := 19) rfl dX12_run_16 (by decide) (fun c129 => ?_) (fun c129 => ?_)
  · replace hf := y_it c129 hf
    refine y_aload_n (x := p0) (pc2 := 22) rfl dX12_run_21 rfl ?_
    refine y_iconst (v := 1) (pc2 := 23) rfl dX12_run_22 (by decide) ?_
    obtain ⟨g9, hf⟩ := y_g hf
    obtain ⟨h7, e8, hf⟩ := y_bdE hf
    refine y_putZ (x := true) (pc2 := 26) rfl dX12_run_23 Fp_BoxYardModel_270 (by decide) rfl g9 e8 ?_
    refine y_aload_n (x := p0) (pc2 := 27) rfl dX12_run_26 rfl ?_
    refine y_lconst (v := 0) (pc2 := 28) rfl dX12_run_27 rfl ?_
    obtain ⟨g12, hf⟩ := y_g hf
    obtain ⟨h10, e11, hf⟩ := y_bdE hf
    refine y_putL (x := 0) (pc2 := 31) rfl dX12_run_28 Fp_BoxYardModel_274 (by decide) rfl g12 e11 ?_
    refine y_aload_n (x := p0) (pc2 := 32) rfl dX12_run_31 rfl ?_
    refine y_bipush (v := (-9 : Int32)) (pc2 := 34) rfl dX12_run_32 (by decide) ?_
    refine y_bipush (v := (-9 : Int32)) (pc2 := 36) rfl dX12_run_34 (by decide) ?_
    obtain ⟨g128, hf⟩ := y_g hf
    obtain ⟨r_, h13, c14, hf⟩ := y_clE hf
    refine y_callV (As := [.int (-9 : Int32), .int (-9 : Int32)]) (rm := rm_X12_leads) (cells := 0) (slots := 0) (pc2 := 39) rfl dX12_run_36 n_X12_leads l_BoxYardModel_491 i_X12_leads e_X12_leads (ci := 12) rfl rfl (by decide) g128 rfl rfl (by decide) (by decide) (by decide) (k_X12_leads c14) ?_
    refine y_aload_n (x := p0) (pc2 := 40) rfl dX12_run_39 rfl ?_
    refine y_bipush (v := (-9 : Int32)) (pc2 := 42) rfl dX12_run_40 (by decide) ?_
    obtain ⟨g17, hf⟩ := y_g hf
    obtain ⟨h15, e16, hf⟩ := y_bdE hf
    refine y_putI (x := (-9 : Int32)) (pc2 := 45) rfl dX12_run_42 Fp_BoxYardModel_204 (by decide) rfl g17 e16 ?_
    refine y_aload_n (x := p0) (pc2 := 46) rfl dX12_run_45 rfl ?_
    refine y_iconst (v := 0) (pc2 := 47) rfl dX12_run_46 (by decide) ?_
    obtain ⟨g20, hf⟩ := y_g hf
    obtain ⟨h18, e19, hf⟩ := y_bdE hf
    refine y_putI (x := 0) (pc2 := 50) rfl dX12_run_47 Fp_BoxYardModel_521 (by decide) rfl g20 e19 ?_
    refine y_aload_n (x := p0) (pc2 := 51) rfl dX12_run_50 rfl ?_
    refine y_iconst (v := 0) (pc2 := 52) rfl dX12_run_51 (by decide) ?_
    obtain ⟨g23, hf⟩ := y_g hf
    obtain ⟨h21, e22, hf⟩ := y_bdE hf
    refine y_putI (x := 0) (pc2 := 55) rfl dX12_run_52 Fp_BoxYardModel_482 (by decide) rfl g23 e22 ?_
    refine y_aload_n (x := p0) (pc2 := 56) rfl dX12_run_55 rfl ?_
    refine y_iconst (v := 0) (pc2 := 57) rfl dX12_run_56 (by decide) ?_
    obtain ⟨g26, hf⟩ := y_g hf
    obtain ⟨h24, e25, hf⟩ := y_bdE hf
    refine y_putI (x := 0) (pc2 := 60) rfl dX12_run_57 Fp_BoxYardModel_515 (by decide) rfl g26 e25 ?_
    refine y_aload_n (x := p0) (pc2 := 61) rfl dX12_run_60 rfl ?_
    refine y_iconst (v := 0) (pc2 := 62) rfl dX12_run_61 (by decide) ?_
    refine y_aload_n (x := p0) (pc2 := 63) rfl dX12_run_62 rfl ?_
    obtain ⟨g127, hf⟩ := y_g hf
    refine y_getP (pc2 := 66) rfl dX12_run_63 F_BoxYardModel_180 (by decide) rfl g127 ?_
    refine y_iload_n (pc2 := 67) rfl dX12_run_66 rfl ?_
    obtain ⟨g126, hf⟩ := y_g hf
    refine y_iald (pc2 := 68) rfl dX12_run_67 g126.1 (y_ix_in g126.2) ?_
    refine y_iconst (v := 0) (pc2 := 69) rfl dX12_run_68 (by decide) ?_
    obtain ⟨g125, hf⟩ := y_g hf
    obtain ⟨r_, h27, c28, hf⟩ := y_clE hf
    refine y_callV (As := [.int 0, .int (y_I h24 (y_P h24 p0 73) (Int32.toNatClampNeg p1)), .int 0]) (rm := rm_X12_push) (cells := 0) (slots := 0) (pc2 := 72) rfl dX12_run_69 n_X12_push l_BoxYardModel_524 i_X12_push e_X12_push (ci := 12) rfl rfl (by decide) g125 rfl rfl (by decide) (by decide) (by decide) (k_X12_push c28) ?_
    refine y_iconst (v := 0) (pc2 := 73) rfl dX12_run_72 (by decide) ?_
    refine y_jlE hf (fun j => ∀ (v0_74 : Nat) (v1_74 : Int32) (v2_74 : Int32) (h29 : y_H), j v0_74 v1_74 v2_74 h29 = some (rz, hz) → y_V l G z rm_X12_run M_X12_run ad0 h (some (.int rz)) hz 74 [(0, y_p v0_74), (1, .int v1_74), (2, .int v2_74)] [] h29 0 0) (fun _ _ _ _ hf => by cases hf) (fun j74 hj74 v0_74 v1_74 v2_74 h29 hf => ?_) (fun j74 hj74 hf => ?_)
    · refine y_aload_n (x := v0_74) (pc2 := 75) rfl dX12_run_74 rfl ?_
      obtain ⟨g124, hf⟩ := y_g hf
      refine y_getI (pc2 := 78) rfl dX12_run_75 F_BoxYardModel_482 (by decide) rfl g124 ?_
      refine y_jnE hf (fun j => ∀ (v0_318 : Nat) (v2_318 : Int32) (h30 : y_H), j v0_318 v2_318 h30 = some (rz, hz) → y_V l G z rm_X12_run M_X12_run ad0 h (some (.int rz)) hz 318 [(0, y_p v0_318), (2, .int v2_318)] [] h30 0 0) (fun v0_318 v2_318 h30 hf => ?_) (fun j318 hj318 hf => ?_)
      · refine y_iload_n (pc2 := 319) rfl dX12_run_318 rfl ?_
        refine y_if_ne (tgt := 326) (pc2 := 322) rfl dX12_run_319 (by decide) (fun c35 => ?_) (fun c35 => ?_)
        · replace hf := y_ie c35 hf
          refine y_aload_n (x := v0_318) (pc2 := 327) rfl dX12_run_326 rfl ?_
          refine y_iload_n (pc2 := 328) rfl dX12_run_327 rfl ?_
          obtain ⟨g34, hf⟩ := y_g hf
          obtain ⟨r31, h32, c33, hf⟩ := y_clE hf
          refine y_callV (As := [.int v2_318]) (rm := rm_X12_finds) (cells := 0) (slots := 0) (pc2 := 331) rfl dX12_run_328 n_X12_finds l_BoxYardModel_301 i_X12_finds e_X12_finds (ci := 12) rfl rfl (by decide) g34 rfl rfl (by decide) (by decide) (by decide) (k_X12_finds c33) ?_
          exact y_iretF hf dX12_run_331 rfl (by decide) (by decide)
        · replace hf := y_it c35 hf
          refine y_iconst (v := 1) (pc2 := 323) rfl dX12_run_322 (by decide) ?_
          refine y_goto (tgt := 331) dX12_run_323 (by decide) ?_
          exact y_iretF hf dX12_run_331 rfl (by decide) (by decide)
      · refine y_if_le (tgt := 318) (pc2 := 81) rfl dX12_run_78 (by decide) (fun c123 => ?_) (fun c123 => ?_)
        · replace hf := y_it c123 hf
          exact y_pk [0, 2] rfl (hj318 _ _ _ hf)
        · replace hf := y_ie c123 hf
          refine y_iload_n (pc2 := 82) rfl dX12_run_81 rfl ?_
          refine y_if_ne (tgt := 318) (pc2 := 85) rfl dX12_run_82 (by decide) (fun c122 => ?_) (fun c122 => ?_)
          · replace hf := y_ie c122 hf
            exact y_pk [0, 2] rfl (hj318 _ _ _ hf)
          · replace hf := y_it c122 hf
            refine y_aload_n (x := v0_74) (pc2 := 86) rfl dX12_run_85 rfl ?_
            obtain ⟨g121, hf⟩ := y_g hf
            refine y_getI (pc2 := 89) rfl dX12_run_86 F_BoxYardModel_482 (by decide) rfl g121 ?_
            refine y_iconst (v := 1) (pc2 := 90) rfl dX12_run_89 (by decide) ?_
            refine y_isub (pc2 := 91) rfl dX12_run_90 ?_
            refine y_istore_n (lv' := [(3, .int ((y_I h29 v0_74 85) - 1)), (0, y_p v0_74), (1, .int v1_74), (2, .int v2_74)]) (pc2 := 92) rfl dX12_run_91 (by decide) rfl ?_
            refine y_aload_n (x := v0_74) (pc2 := 93) rfl dX12_run_92 rfl ?_
            obtain ⟨g120, hf⟩ := y_g hf
            refine y_getI (pc2 := 96) rfl dX12_run_93 F_BoxYardModel_515 (by decide) rfl g120 ?_
            refine y_aload_n (x := v0_74) (pc2 := 97) rfl dX12_run_96 rfl ?_
            obtain ⟨g119, hf⟩ := y_g hf
            refine y_getP (pc2 := 100) rfl dX12_run_97 F_BoxYardModel_210 (by decide) rfl g119 ?_
            refine y_iload_n (pc2 := 101) rfl dX12_run_100 rfl ?_
            obtain ⟨g118, hf⟩ := y_g hf
            refine y_iald (pc2 := 102) rfl dX12_run_101 g118.1 (y_ix_in g118.2) ?_
            refine y_jnE hf (fun j => ∀ (v0_315 : Nat) (v1_315 : Int32) (v2_315 : Int32) (h36 : y_H), j v0_315 v1_315 v2_315 h36 = some (rz, hz) → y_V l G z rm_X12_run M_X12_run ad0 h (some (.int rz)) hz 315 [(0, y_p v0_315), (1, .int v1_315), (2, .int v2_315)] [] h36 0 0) (fun v0_315 v1_315 v2_315 h36 hf => ?_) (fun j315 hj315 hf => ?_)
            · refine y_goto (tgt := 74) dX12_run_315 (by decide) ?_
              exact y_pk [0, 1, 2] rfl (hj74 _ _ _ _ hf)
            · refine y_icmp_ge (tgt := 247) (pc2 := 105) rfl dX12_run_102 (by decide) (fun c117 => ?_) (fun c117 => ?_)
              · replace hf := y_it c117 hf
                refine y_aload_n (x := v0_74) (pc2 := 248) rfl dX12_run_247 rfl ?_
                obtain ⟨g61, hf⟩ := y_g hf
                refine y_getP (pc2 := 251) rfl dX12_run_248 F_BoxYardModel_207 (by decide) rfl g61 ?_
                refine y_iload_n (pc2 := 252) rfl dX12_run_251 rfl ?_
                obtain ⟨g60, hf⟩ := y_g hf
                refine y_iald (pc2 := 253) rfl dX12_run_252 g60.1 (y_ix_in g60.2) ?_
                refine y_iconst (v := 2) (pc2 := 254) rfl dX12_run_253 (by decide) ?_
                refine y_icmp_ne (tgt := 265) (pc2 := 257) rfl dX12_run_254 (by decide) (fun c59 => ?_) (fun c59 => ?_)
                · replace hf := y_ie c59 hf
                  refine y_aload_n (x := v0_74) (pc2 := 266) rfl dX12_run_265 rfl ?_
                  refine y_dup (pc2 := 267) rfl dX12_run_266 (y_p_cat _) ?_
                  obtain ⟨g55, hf⟩ := y_g hf
                  refine y_getI (pc2 := 270) rfl dX12_run_267 F_BoxYardModel_482 (by decide) rfl g55 ?_
                  refine y_iconst (v := 1) (pc2 := 271) rfl dX12_run_270 (by decide) ?_
                  refine y_isub (pc2 := 272) rfl dX12_run_271 ?_
                  obtain ⟨g39, hf⟩ := y_g hf
                  obtain ⟨h37, e38, hf⟩ := y_bdE hf
                  refine y_putI (x := (y_I h29 v0_74 85) - 1) (pc2 := 275) rfl dX12_run_272 Fp_BoxYardModel_482 (by decide) rfl g39 e38 ?_
                  refine y_aload_n (x := v0_74) (pc2 := 276) rfl dX12_run_275 rfl ?_
                  obtain ⟨g54, hf⟩ := y_g hf
                  refine y_getP (pc2 := 279) rfl dX12_run_276 F_BoxYardModel_207 (by decide) rfl g54 ?_
                  refine y_iload_n (pc2 := 280) rfl dX12_run_279 rfl ?_
                  obtain ⟨g53, hf⟩ := y_g hf
                  refine y_iald (pc2 := 281) rfl dX12_run_280 g53.1 (y_ix_in g53.2) ?_
                  refine y_iconst (v := 3) (pc2 := 282) rfl dX12_run_281 (by decide) ?_
                  refine y_jnE hf (fun j => ∀ (v0_313 : Nat) (v1_313 : Int32) (h40 : y_H), j v0_313 v1_313 h40 = some (rz, hz) → y_V l G z rm_X12_run M_X12_run ad0 h (some (.int rz)) hz 313 [(0, y_p v0_313), (1, .int v1_313)] [] h40 0 0) (fun v0_313 v1_313 h40 hf => ?_) (fun j313 hj313 hf => ?_)
                  · refine y_iconst (v := 0) (pc2 := 314) rfl dX12_run_313 (by decide) ?_
                    refine y_istore_n (lv' := [(2, .int 0), (0, y_p v0_313), (1, .int v1_313)]) (pc2 := 315) rfl dX12_run_314 (by decide) rfl ?_
                    exact y_pk [1, 2, 0] rfl (hj315 _ _ _ _ hf)
                  · refine y_icmp_ne (tgt := 313) (pc2 := 285) rfl dX12_run_282 (by decide) (fun c52 => ?_) (fun c52 => ?_)
                    · replace hf := y_ie c52 hf
                      exact y_pk [1, 2] rfl (hj313 _ _ _ hf)
                    · replace hf := y_it c52 hf
                      refine y_aload_n (x := v0_74) (pc2 := 286) rfl dX12_run_285 rfl ?_
                      obtain ⟨g51, hf⟩ := y_g hf
                      refine y_getP (pc2 := 289) rfl dX12_run_286 F_BoxYardModel_216 (by decide) rfl g51 ?_
                      refine y_iload_n (pc2 := 290) rfl dX12_run_289 rfl ?_
                      obtain ⟨g50, hf⟩ := y_g hf
                      refine y_iald (pc2 := 291) rfl dX12_run_290 g50.1 (y_ix_in g50.2) ?_
                      refine y_if_le (tgt := 313) (pc2 := 294) rfl dX12_run_291 (by decide) (fun c49 => ?_) (fun c49 => ?_)
                      · replace hf := y_it c49 hf
                        exact y_pk [1, 2] rfl (hj313 _ _ _ hf)
                      · replace hf := y_ie c49 hf
                        refine y_aload_n (x := v0_74) (pc2 := 295) rfl dX12_run_294 rfl ?_
                        refine y_aload_n (x := v0_74) (pc2 := 296) rfl dX12_run_295 rfl ?_
                        obtain ⟨g48, hf⟩ := y_g hf
                        refine y_getP (pc2 := 299) rfl dX12_run_296 F_BoxYardModel_216 (by decide) rfl g48 ?_
                        refine y_iload_n (pc2 := 300) rfl dX12_run_299 rfl ?_
                        obtain ⟨g47, hf⟩ := y_g hf
                        refine y_iald (pc2 := 301) rfl dX12_run_300 g47.1 (y_ix_in g47.2) ?_
                        refine y_aload_n (x := v0_74) (pc2 := 302) rfl dX12_run_301 rfl ?_
                        obtain ⟨g46, hf⟩ := y_g hf
                        refine y_getP (pc2 := 305) rfl dX12_run_302 F_BoxYardModel_219 (by decide) rfl g46 ?_
                        refine y_iload_n (pc2 := 306) rfl dX12_run_305 rfl ?_
                        obtain ⟨g45, hf⟩ := y_g hf
                        refine y_iald (pc2 := 307) rfl dX12_run_306 g45.1 (y_ix_in g45.2) ?_
                        obtain ⟨g44, hf⟩ := y_g hf
                        obtain ⟨r41, h42, c43, hf⟩ := y_clE hf
                        refine y_callV (As := [.int (y_I h37 (y_P h37 v0_74 89) (Int32.toNatClampNeg ((y_I h29 v0_74 85) - 1))), .int (y_I h37 (y_P h37 v0_74 90) (Int32.toNatClampNeg ((y_I h29 v0_74 85) - 1)))]) (rm := rm_X12_raise) (cells := 0) (slots := 0) (pc2 := 310) rfl dX12_run_307 n_X12_raise l_BoxYardModel_533 i_X12_raise e_X12_raise (ci := 12) rfl rfl (by decide) g44 rfl rfl (by decide) (by decide) (by decide) (k_X12_raise c43) ?_
                        refine y_goto (tgt := 314) dX12_run_310 (by decide) ?_
                        refine y_istore_n (lv' := [(2, .int r41), (3, .int ((y_I h29 v0_74 85) - 1)), (0, y_p v0_74), (1, .int v1_74)]) (pc2 := 315) rfl dX12_run_314 (by decide) rfl ?_
                        exact y_pk [2, 3, 0] rfl (hj315 _ _ _ _ hf)
                · replace hf := y_it c59 hf
                  refine y_aload_n (x := v0_74) (pc2 := 258) rfl dX12_run_257 rfl ?_
                  refine y_iload_n (pc2 := 259) rfl dX12_run_258 rfl ?_
                  obtain ⟨g58, hf⟩ := y_g hf
                  obtain ⟨r_, h56, c57, hf⟩ := y_clE hf
                  refine y_callV (As := [.int ((y_I h29 v0_74 85) - 1)]) (rm := rm_X12_second) (cells := 0) (slots := 0) (pc2 := 262) rfl dX12_run_259 n_X12_second l_BoxYardModel_518 i_X12_second e_X12_second (ci := 12) rfl rfl (by decide) g58 rfl rfl (by decide) (by decide) (by decide) (k_X12_second c57) ?_
                  refine y_goto (tgt := 315) dX12_run_262 (by decide) ?_
                  exact y_pk [1, 2, 3] rfl (hj315 _ _ _ _ hf)
              · replace hf := y_ie c117 hf
                refine y_bipush (v := 10) (pc2 := 107) rfl dX12_run_105 (by decide) ?_
                refine y_iload_n (pc2 := 108) rfl dX12_run_107 rfl ?_
                refine y_imul (pc2 := 109) rfl dX12_run_108 ?_
                refine y_aload_n (x := v0_74) (pc2 := 110) rfl dX12_run_109 rfl ?_
                obtain ⟨g116, hf⟩ := y_g hf
                refine y_getI (pc2 := 113) rfl dX12_run_110 F_BoxYardModel_515 (by decide) rfl g116 ?_
                refine y_iadd (pc2 := 114) rfl dX12_run_113 ?_
                refine y_istore (lv' := [(4, .int ((10 * v1_74) + (y_I h29 v0_74 91))), (3, .int ((y_I h29 v0_74 85) - 1)), (0, y_p v0_74), (1, .int v1_74), (2, .int v2_74)]) (pc2 := 116) rfl dX12_run_114 (by decide) rfl ?_
                refine y_aload_n (x := v0_74) (pc2 := 117) rfl dX12_run_116 rfl ?_
                refine y_dup (pc2 := 118) rfl dX12_run_117 (y_p_cat _) ?_
                obtain ⟨g115, hf⟩ := y_g hf
                refine y_getI (pc2 := 121) rfl dX12_run_118 F_BoxYardModel_521 (by decide) rfl g115 ?_
                refine y_iconst (v := 1) (pc2 := 122) rfl dX12_run_121 (by decide) ?_
                refine y_iadd (pc2 := 123) rfl dX12_run_122 ?_
                obtain ⟨g64, hf⟩ := y_g hf
                obtain ⟨h62, e63, hf⟩ := y_bdE hf
                refine y_putI (x := (y_I h29 v0_74 84) + 1) (pc2 := 126) rfl dX12_run_123 Fp_BoxYardModel_521 (by decide) rfl g64 e63 ?_
                refine y_aload_n (x := v0_74) (pc2 := 127) rfl dX12_run_126 rfl ?_
                refine y_dup (pc2 := 128) rfl dX12_run_127 (y_p_cat _) ?_
                obtain ⟨g114, hf⟩ := y_g hf
                refine y_getI (pc2 := 131) rfl dX12_run_128 F_BoxYardModel_515 (by decide) rfl g114 ?_
                refine y_iconst (v := 1) (pc2 := 132) rfl dX12_run_131 (by decide) ?_
                refine y_iadd (pc2 := 133) rfl dX12_run_132 ?_
                obtain ⟨g67, hf⟩ := y_g hf
                obtain ⟨h65, e66, hf⟩ := y_bdE hf
                refine y_putI (x := (y_I h62 v0_74 91) + 1) (pc2 := 136) rfl dX12_run_133 Fp_BoxYardModel_515 (by decide) rfl g67 e66 ?_
                refine y_aload_n (x := v0_74) (pc2 := 137) rfl dX12_run_136 rfl ?_
                obtain ⟨g113, hf⟩ := y_g hf
                refine y_getP (pc2 := 140) rfl dX12_run_137 F_BoxYardModel_183 (by decide) rfl g113 ?_
                refine y_iload (pc2 := 142) rfl dX12_run_140 rfl ?_
                obtain ⟨g112, hf⟩ := y_g hf
                refine y_iald (pc2 := 143) rfl dX12_run_142 g112.1 (y_ix_in g112.2) ?_
                refine y_bipush (v := 14) (pc2 := 145) rfl dX12_run_143 (by decide) ?_
                refine y_jnE hf (fun j => ∀ (v0_244 : Nat) (v1_244 : Int32) (v2_244 : Int32) (h68 : y_H), j v0_244 v1_244 v2_244 h68 = some (rz, hz) → y_V l G z rm_X12_run M_X12_run ad0 h (some (.int rz)) hz 244 [(0, y_p v0_244), (1, .int v1_244), (2, .int v2_244)] [] h68 0 0) (fun v0_244 v1_244 v2_244 h68 hf => ?_) (fun j244 hj244 hf => ?_)
                · refine y_goto (tgt := 315) dX12_run_244 (by decide) ?_
                  exact y_pk [0, 1, 2] rfl (hj315 _ _ _ _ hf)
                · refine y_icmp_lt (tgt := 194) (pc2 := 148) rfl dX12_run_145 (by decide) (fun c111 => ?_) (fun c111 => ?_)
                  · replace hf := y_it c111 hf
                    refine y_aload_n (x := v0_74) (pc2 := 195) rfl dX12_run_194 rfl ?_
                    refine y_aload_n (x := v0_74) (pc2 := 196) rfl dX12_run_195 rfl ?_
                    obtain ⟨g83, hf⟩ := y_g hf
                    refine y_getP (pc2 := 199) rfl dX12_run_196 F_BoxYardModel_183 (by decide) rfl g83 ?_
                    refine y_iload (pc2 := 201) rfl dX12_run_199 rfl ?_
                    obtain ⟨g82, hf⟩ := y_g hf
                    refine y_iald (pc2 := 202) rfl dX12_run_201 g82.1 (y_ix_in g82.2) ?_
                    refine y_aload_n (x := v0_74) (pc2 := 203) rfl dX12_run_202 rfl ?_
                    obtain ⟨g81, hf⟩ := y_g hf
                    refine y_getP (pc2 := 206) rfl dX12_run_203 F_BoxYardModel_186 (by decide) rfl g81 ?_
                    refine y_iload (pc2 := 208) rfl dX12_run_206 rfl ?_
                    obtain ⟨g80, hf⟩ := y_g hf
                    refine y_iald (pc2 := 209) rfl dX12_run_208 g80.1 (y_ix_in g80.2) ?_
                    refine y_aload_n (x := v0_74) (pc2 := 210) rfl dX12_run_209 rfl ?_
                    obtain ⟨g79, hf⟩ := y_g hf
                    refine y_getP (pc2 := 213) rfl dX12_run_210 F_BoxYardModel_189 (by decide) rfl g79 ?_
                    refine y_iload (pc2 := 215) rfl dX12_run_213 rfl ?_
                    obtain ⟨g78, hf⟩ := y_g hf
                    refine y_iald (pc2 := 216) rfl dX12_run_215 g78.1 (y_ix_in g78.2) ?_
                    obtain ⟨g77, hf⟩ := y_g hf
                    obtain ⟨r69, h70, c71, hf⟩ := y_clE hf
                    refine y_callV (As := [.int (y_I h65 (y_P h65 v0_74 74) (Int32.toNatClampNeg ((10 * v1_74) + (y_I h29 v0_74 91)))), .int (y_I h65 (y_P h65 v0_74 75) (Int32.toNatClampNeg ((10 * v1_74) + (y_I h29 v0_74 91)))), .int (y_I h65 (y_P h65 v0_74 76) (Int32.toNatClampNeg ((10 * v1_74) + (y_I h29 v0_74 91))))]) (rm := rm_X12_does) (cells := 0) (slots := 0) (pc2 := 219) rfl dX12_run_216 n_X12_does l_BoxYardModel_530 i_X12_does e_X12_does (ci := 12) rfl rfl (by decide) g77 rfl rfl (by decide) (by decide) (by decide) (k_X12_does c71) ?_
                    refine y_istore (lv' := [(5, .int r69), (4, .int ((10 * v1_74) + (y_I h29 v0_74 91))), (3, .int ((y_I h29 v0_74 85) - 1)), (0, y_p v0_74), (1, .int v1_74), (2, .int v2_74)]) (pc2 := 221) rfl dX12_run_219 (by decide) rfl ?_
                    refine y_iload (pc2 := 223) rfl dX12_run_221 rfl ?_
                    refine y_if_le (tgt := 242) (pc2 := 226) rfl dX12_run_223 (by decide) (fun c76 => ?_) (fun c76 => ?_)
                    · replace hf := y_it c76 hf
                      refine y_iconst (v := 0) (pc2 := 243) rfl dX12_run_242 (by decide) ?_
                      refine y_istore_n (lv' := [(2, .int 0), (5, .int r69), (4, .int ((10 * v1_74) + (y_I h29 v0_74 91))), (3, .int ((y_I h29 v0_74 85) - 1)), (0, y_p v0_74), (1, .int v1_74)]) (pc2 := 244) rfl dX12_run_243 (by decide) rfl ?_
                      exact y_pk [4, 5, 0] rfl (hj244 _ _ _ _ hf)
                    · replace hf := y_ie c76 hf
                      refine y_aload_n (x := v0_74) (pc2 := 227) rfl dX12_run_226 rfl ?_
                      refine y_iload (pc2 := 229) rfl dX12_run_227 rfl ?_
                      refine y_iload (pc2 := 231) rfl dX12_run_229 rfl ?_
                      refine y_bipush (v := 10) (pc2 := 233) rfl dX12_run_231 (by decide) ?_
                      refine y_iload_n (pc2 := 234) rfl dX12_run_233 rfl ?_
                      refine y_imul (pc2 := 235) rfl dX12_run_234 ?_
                      refine y_isub (pc2 := 236) rfl dX12_run_235 ?_
                      obtain ⟨g75, hf⟩ := y_g hf
                      obtain ⟨r72, h73, c74, hf⟩ := y_clE hf
                      refine y_callV (As := [.int r69, .int (((10 * v1_74) + (y_I h29 v0_74 91)) - (10 * v1_74))]) (rm := rm_X12_raise) (cells := 0) (slots := 0) (pc2 := 239) rfl dX12_run_236 n_X12_raise l_BoxYardModel_533 i_X12_raise e_X12_raise (ci := 12) rfl rfl (by decide) g75 rfl rfl (by decide) (by decide) (by decide) (k_X12_raise c74) ?_
                      refine y_goto (tgt := 243) dX12_run_239 (by decide) ?_
                      refine y_istore_n (lv' := [(2, .int r72), (5, .int r69), (4, .int ((10 * v1_74) + (y_I h29 v0_74 91))), (3, .int ((y_I h29 v0_74 85) - 1)), (0, y_p v0_74), (1, .int v1_74)]) (pc2 := 244) rfl dX12_run_243 (by decide) rfl ?_
                      exact y_pk [4, 5, 0] rfl (hj244 _ _ _ _ hf)
                  · replace hf := y_ie c111 hf
                    refine y_aload_n (x := v0_74) (pc2 := 149) rfl dX12_run_148 rfl ?_
                    refine y_aload_n (x := v0_74) (pc2 := 150) rfl dX12_run_149 rfl ?_
                    obtain ⟨g110, hf⟩ := y_g hf
                    refine y_getP (pc2 := 153) rfl dX12_run_150 F_BoxYardModel_183 (by decide) rfl g110 ?_
                    refine y_iload (pc2 := 155) rfl dX12_run_153 rfl ?_
                    obtain ⟨g109, hf⟩ := y_g hf
                    refine y_iald (pc2 := 156) rfl dX12_run_155 g109.1 (y_ix_in g109.2) ?_
                    refine y_bipush (v := 14) (pc2 := 158) rfl dX12_run_156 (by decide) ?_
                    refine y_icmp_ne (tgt := 165) (pc2 := 161) rfl dX12_run_158 (by decide) (fun c108 => ?_) (fun c108 => ?_)
                    · replace hf := y_ie c108 hf
                      refine y_iconst (v := 2) (pc2 := 166) rfl dX12_run_165 (by decide) ?_
                      refine y_aload_n (x := v0_74) (pc2 := 167) rfl dX12_run_166 rfl ?_
                      refine y_aload_n (x := v0_74) (pc2 := 168) rfl dX12_run_167 rfl ?_
                      obtain ⟨g95, hf⟩ := y_g hf
                      refine y_getI (pc2 := 171) rfl dX12_run_168 F_BoxYardModel_515 (by decide) rfl g95 ?_
                      refine y_aload_n (x := v0_74) (pc2 := 172) rfl dX12_run_171 rfl ?_
                      obtain ⟨g94, hf⟩ := y_g hf
                      refine y_getP (pc2 := 175) rfl dX12_run_172 F_BoxYardModel_186 (by decide) rfl g94 ?_
                      refine y_iload (pc2 := 177) rfl dX12_run_175 rfl ?_
                      obtain ⟨g93, hf⟩ := y_g hf
                      refine y_iald (pc2 := 178) rfl dX12_run_177 g93.1 (y_ix_in g93.2) ?_
                      obtain ⟨g92, hf⟩ := y_g hf
                      obtain ⟨r84, h85, c86, hf⟩ := y_clE hf
                      refine y_callV (As := [.int (y_I h65 v0_74 91), .int (y_I h65 (y_P h65 v0_74 75) (Int32.toNatClampNeg ((10 * v1_74) + (y_I h29 v0_74 91))))]) (rm := rm_X12_stretch) (cells := 0) (slots := 0) (pc2 := 181) rfl dX12_run_178 n_X12_stretch l_BoxYardModel_527 i_X12_stretch e_X12_stretch (ci := 12) rfl rfl (by decide) g92 rfl rfl (by decide) (by simp [y_ci, y_cj, y_p_cat]) (by decide) (k_X12_stretch c86) ?_
                      refine y_aload_n (x := v0_74) (pc2 := 182) rfl dX12_run_181 rfl ?_
                      obtain ⟨g91, hf⟩ := y_g hf
                      refine y_getP (pc2 := 185) rfl dX12_run_182 F_BoxYardModel_189 (by decide) rfl g91 ?_
                      refine y_iload (pc2 := 187) rfl dX12_run_185 rfl ?_
                      obtain ⟨g90, hf⟩ := y_g hf
                      refine y_iald (pc2 := 188) rfl dX12_run_187 g90.1 (y_ix_in g90.2) ?_
                      obtain ⟨g89, hf⟩ := y_g hf
                      obtain ⟨r_, h87, c88, hf⟩ := y_clE hf
                      refine y_callV (As := [.int 2, .int r84, .int (y_I h85 (y_P h85 v0_74 76) (Int32.toNatClampNeg ((10 * v1_74) + (y_I h29 v0_74 91))))]) (rm := rm_X12_push) (cells := 0) (slots := 0) (pc2 := 191) rfl dX12_run_188 n_X12_push l_BoxYardModel_524 i_X12_push e_X12_push (ci := 12) rfl rfl (by decide) g89 rfl rfl (by decide) (by decide) (by decide) (k_X12_push c88) ?_
                      refine y_goto (tgt := 244) dX12_run_191 (by decide) ?_
                      exact y_pk [2, 3, 4] rfl (hj244 _ _ _ _ hf)
                    · replace hf := y_it c108 hf
                      refine y_iconst (v := 1) (pc2 := 162) rfl dX12_run_161 (by decide) ?_
                      refine y_goto (tgt := 166) dX12_run_162 (by decide) ?_
                      refine y_aload_n (x := v0_74) (pc2 := 167) rfl dX12_run_166 rfl ?_
                      refine y_aload_n (x := v0_74) (pc2 := 168) rfl dX12_run_167 rfl ?_
                      obtain ⟨g107, hf⟩ := y_g hf
                      refine y_getI (pc2 := 171) rfl dX12_run_168 F_BoxYardModel_515 (by decide) rfl g107 ?_
                      refine y_aload_n (x := v0_74) (pc2 := 172) rfl dX12_run_171 rfl ?_
                      obtain ⟨g106, hf⟩ := y_g hf
                      refine y_getP (pc2 := 175) rfl dX12_run_172 F_BoxYardModel_186 (by decide) rfl g106 ?_
                      refine y_iload (pc2 := 177) rfl dX12_run_175 rfl ?_
                      obtain ⟨g105, hf⟩ := y_g hf
                      refine y_iald (pc2 := 178) rfl dX12_run_177 g105.1 (y_ix_in g105.2) ?_
                      obtain ⟨g104, hf⟩ := y_g hf
                      obtain ⟨r96, h97, c98, hf⟩ := y_clE hf
                      refine y_callV (As := [.int (y_I h65 v0_74 91), .int (y_I h65 (y_P h65 v0_74 75) (Int32.toNatClampNeg ((10 * v1_74) + (y_I h29 v0_74 91))))]) (rm := rm_X12_stretch) (cells := 0) (slots := 0) (pc2 := 181) rfl dX12_run_178 n_X12_stretch l_BoxYardModel_527 i_X12_stretch e_X12_stretch (ci := 12) rfl rfl (by decide) g104 rfl rfl (by decide) (by simp [y_ci, y_cj, y_p_cat]) (by decide) (k_X12_stretch c98) ?_
                      refine y_aload_n (x := v0_74) (pc2 := 182) rfl dX12_run_181 rfl ?_
                      obtain ⟨g103, hf⟩ := y_g hf
                      refine y_getP (pc2 := 185) rfl dX12_run_182 F_BoxYardModel_189 (by decide) rfl g103 ?_
                      refine y_iload (pc2 := 187) rfl dX12_run_185 rfl ?_
                      obtain ⟨g102, hf⟩ := y_g hf
                      refine y_iald (pc2 := 188) rfl dX12_run_187 g102.1 (y_ix_in g102.2) ?_
                      obtain ⟨g101, hf⟩ := y_g hf
                      obtain ⟨r_, h99, c100, hf⟩ := y_clE hf
                      refine y_callV (As := [.int 1, .int r96, .int (y_I h97 (y_P h97 v0_74 76) (Int32.toNatClampNeg ((10 * v1_74) + (y_I h29 v0_74 91))))]) (rm := rm_X12_push) (cells := 0) (slots := 0) (pc2 := 191) rfl dX12_run_188 n_X12_push l_BoxYardModel_524 i_X12_push e_X12_push (ci := 12) rfl rfl (by decide) g101 rfl rfl (by decide) (by decide) (by decide) (k_X12_push c100) ?_
                      refine y_goto (tgt := 244) dX12_run_191 (by decide) ?_
                      exact y_pk [2, 3, 4] rfl (hj244 _ _ _ _ hf)
    · refine y_istore_n (lv' := [(2, .int 0), (0, y_p p0), (1, .int p1)]) (pc2 := 74) rfl dX12_run_73 (by decide) rfl ?_
      exact y_pk [1, 2, 0] rfl (hj74 _ _ _ _ hf)
  · replace hf := y_ie c129 hf
    refine y_iconst (v := (-1 : Int32)) (pc2 := 20) rfl dX12_run_19 (by decide) ?_
    exact y_iretF hf dX12_run_20 rfl (by decide) (by decide)
theorem dX12_number_0 : decode cX12_number 0 = .ok (.aload_n 0, 1) := by decide +kernel
theorem dX12_number_1 : decode cX12_number 1 = .ok (.getfield 274, 3) := by decide +kernel
theorem dX12_number_4 : decode cX12_number 4 = .ok (.lreturn, 1) := by decide +kernel
def M_X12_number : y_M := (yX12_number, cX12_number, 1, (Option.some Jvm.ClassFile.FieldType.long))
theorem n_X12_number : y_N0 M_X12_number 0 := ⟨(c_10 122 (by decide +kernel) rfl), (c_1 9 (by decide +kernel) rfl), ⟨by decide +kernel, by decide +kernel⟩, by decide +kernel⟩
set_option maxRecDepth 100000 in
def f_X12_number (p0 : Nat) (h : y_H) : Option (Int64 × y_H) :=
  if y_K h p0 = 13 then
  some (y_L h p0 80, h)
  else none
abbrev rm_X12_number : Room := { frames := 0, cells := 0, slots := 0, locals := 0 }
set_option maxRecDepth 100000 in
set_option maxHeartbeats 4000000 in
theorem k_X12_number {l : Launch} {G : y_G} {p0 : Nat} {h hz : y_H} {rz : Int64} (hf : f_X12_number p0 h = some (rz, hz)) : y_S l G M_X12_number rm_X12_number [y_p p0] h (some (.long rz)) hz := by
  refine y_start (lv := [(0, y_p p0)]) (by decide) (by simp [lg_sl, y_p_cat, y_ci, y_cj, M_X12_number]) (by simp [lv_args, y_p_cat, y_ci, y_cj]) (fun z ad0 => ?_)
  unfold f_X12_number at hf
  refine y_aload_n (x := p0) (pc2 := 1) rfl dX12_number_0 rfl ?_
  obtain ⟨g1, hf⟩ := y_g hf
  refine y_getL (pc2 := 4) rfl dX12_number_1 F_BoxYardModel_274 (by decide) rfl g1 ?_
  exact y_lretF hf dX12_number_4 rfl (by decide) (by decide)
theorem dX12_ran_0 : decode cX12_ran 0 = .ok (.iload_n 1, 1) := by decide +kernel
theorem dX12_ran_1 : decode cX12_ran 1 = .ok (.iconst 0, 1) := by decide +kernel
theorem dX12_ran_2 : decode cX12_ran 2 = .ok (.iconst 3, 1) := by decide +kernel
theorem dX12_ran_3 : decode cX12_ran 3 = .ok (.invokestatic 278, 3) := by decide +kernel
theorem dX12_ran_6 : decode cX12_ran 6 = .ok (.ifCond .ne 6, 3) := by decide +kernel
theorem dX12_ran_9 : decode cX12_ran 9 = .ok (.bipush (-2), 2) := by decide +kernel
theorem dX12_ran_11 : decode cX12_ran 11 = .ok (.ireturn, 1) := by decide +kernel
theorem dX12_ran_12 : decode cX12_ran 12 = .ok (.aload_n 0, 1) := by decide +kernel
theorem dX12_ran_13 : decode cX12_ran 13 = .ok (.getfield 270, 3) := by decide +kernel
theorem dX12_ran_16 : decode cX12_ran 16 = .ok (.ifCond .ne 8, 3) := by decide +kernel
theorem dX12_ran_19 : decode cX12_ran 19 = .ok (.bipush (-9), 2) := by decide +kernel
theorem dX12_ran_21 : decode cX12_ran 21 = .ok (.goto 42, 3) := by decide +kernel
theorem dX12_ran_24 : decode cX12_ran 24 = .ok (.iload_n 1, 1) := by decide +kernel
theorem dX12_ran_25 : decode cX12_ran 25 = .ok (.ifCond .ne 10, 3) := by decide +kernel
theorem dX12_ran_28 : decode cX12_ran 28 = .ok (.aload_n 0, 1) := by decide +kernel
theorem dX12_ran_29 : decode cX12_ran 29 = .ok (.getfield 198, 3) := by decide +kernel
theorem dX12_ran_32 : decode cX12_ran 32 = .ok (.goto 31, 3) := by decide +kernel
theorem dX12_ran_35 : decode cX12_ran 35 = .ok (.iload_n 1, 1) := by decide +kernel
theorem dX12_ran_36 : decode cX12_ran 36 = .ok (.iconst 1, 1) := by decide +kernel
theorem dX12_ran_37 : decode cX12_ran 37 = .ok (.if_icmp .ne 10, 3) := by decide +kernel
theorem dX12_ran_40 : decode cX12_ran 40 = .ok (.aload_n 0, 1) := by decide +kernel
theorem dX12_ran_41 : decode cX12_ran 41 = .ok (.getfield 201, 3) := by decide +kernel
theorem dX12_ran_44 : decode cX12_ran 44 = .ok (.goto 19, 3) := by decide +kernel
theorem dX12_ran_47 : decode cX12_ran 47 = .ok (.iload_n 1, 1) := by decide +kernel
theorem dX12_ran_48 : decode cX12_ran 48 = .ok (.iconst 2, 1) := by decide +kernel
theorem dX12_ran_49 : decode cX12_ran 49 = .ok (.if_icmp .ne 10, 3) := by decide +kernel
theorem dX12_ran_52 : decode cX12_ran 52 = .ok (.aload_n 0, 1) := by decide +kernel
theorem dX12_ran_53 : decode cX12_ran 53 = .ok (.getfield 204, 3) := by decide +kernel
theorem dX12_ran_56 : decode cX12_ran 56 = .ok (.goto 7, 3) := by decide +kernel
theorem dX12_ran_59 : decode cX12_ran 59 = .ok (.aload_n 0, 1) := by decide +kernel
theorem dX12_ran_60 : decode cX12_ran 60 = .ok (.getfield 521, 3) := by decide +kernel
theorem dX12_ran_63 : decode cX12_ran 63 = .ok (.ireturn, 1) := by decide +kernel
def M_X12_ran : y_M := (yX12_ran, cX12_ran, 2, (Option.some Jvm.ClassFile.FieldType.int))
theorem n_X12_ran : y_N0 M_X12_ran 1 := ⟨(c_10 126 (by decide +kernel) rfl), (c_1 9 (by decide +kernel) rfl), ⟨by decide +kernel, by decide +kernel⟩, by decide +kernel⟩
theorem F_BoxYardModel_270 : y_F "BoxYardModel" 270 12 79 := ⟨_, _, _, rfl, by decide, Or.inl (c_7 201 (by decide +kernel) rfl)⟩
theorem F_BoxYardModel_204 : y_F "BoxYardModel" 204 12 83 := ⟨_, _, _, rfl, by decide, Or.inl (c_7 205 (by decide +kernel) rfl)⟩
set_option maxRecDepth 100000 in
def f_X12_ran (p0 : Nat) (p1 : Int32) (h : y_H) : Option (Int32 × y_H) :=
  y_cl (f_X12_in p1 0 3 h) (fun r1 h2 =>
  if r1 = true then
    if y_K h2 p0 = 13 then
    if (y_B h2 p0 79) = true then
      if p1 = 0 then
        if y_K h2 p0 = 13 then
        some (y_I h2 p0 81, h2)
        else none
      else
        if p1 = 1 then
          if y_K h2 p0 = 13 then
          some (y_I h2 p0 82, h2)
          else none
        else
          if p1 = 2 then
            if y_K h2 p0 = 13 then
            some (y_I h2 p0 83, h2)
            else none
          else
            if y_K h2 p0 = 13 then
            some (y_I h2 p0 84, h2)
            else none
    else
      some ((-9 : Int32), h2)
    else none
  else
    some ((-2 : Int32), h2))
abbrev rm_X12_ran : Room := { frames := 1, cells := 0, slots := 0, locals := 22 }
set_option maxRecDepth 100000 in
set_option maxHeartbeats 4000000 in
theorem k_X12_ran {l : Launch} {G : y_G} {p0 : Nat} {p1 : Int32} {h hz : y_H} {rz : Int32} (hf : f_X12_ran p0 p1 h = some (rz, hz)) : y_S l G M_X12_ran rm_X12_ran [y_p p0, .int p1] h (some (.int rz)) hz := by
  refine y_start (lv := [(0, y_p p0), (1, .int p1)]) (by decide) (by simp [lg_sl, y_p_cat, y_ci, y_cj, M_X12_ran]) (by simp [lv_args, y_p_cat, y_ci, y_cj]) (fun z ad0 => ?_)
  unfold f_X12_ran at hf
  refine y_iload_n (pc2 := 1) rfl dX12_ran_0 rfl ?_
  refine y_iconst (v := 0) (pc2 := 2) rfl dX12_ran_1 (by decide) ?_
  refine y_iconst (v := 3) (pc2 := 3) rfl dX12_ran_2 (by decide) ?_
  obtain ⟨r1, h2, c3, hf⟩ := y_clE hf
  refine y_callS (As := [.int p1, .int 0, .int 3]) (rm := rm_X12_in) (cells := 0) (slots := 0) (pc2 := 6) rfl dX12_ran_3 n_X12_in l_BoxYardModel_278 t_X12_in rfl rfl (by decide) (by decide) (by decide) (k_X12_in c3) ?_
  refine y_ifz_ne (tgt := 12) (pc2 := 9) rfl dX12_ran_6 (by decide) (fun c13 => ?_) (fun c13 => ?_)
  · replace hf := y_it c13 hf
    refine y_aload_n (x := p0) (pc2 := 13) rfl dX12_ran_12 rfl ?_
    obtain ⟨g12, hf⟩ := y_g hf
    refine y_getZ (pc2 := 16) rfl dX12_ran_13 F_BoxYardModel_270 (by decide) rfl g12 ?_
    refine y_ifz_ne (tgt := 24) (pc2 := 19) rfl dX12_ran_16 (by decide) (fun c11 => ?_) (fun c11 => ?_)
    · replace hf := y_it c11 hf
      refine y_iload_n (pc2 := 25) rfl dX12_ran_24 rfl ?_
      refine y_if_ne (tgt := 35) (pc2 := 28) rfl dX12_ran_25 (by decide) (fun c10 => ?_) (fun c10 => ?_)
      · replace hf := y_ie c10 hf
        refine y_iload_n (pc2 := 36) rfl dX12_ran_35 rfl ?_
        refine y_iconst (v := 1) (pc2 := 37) rfl dX12_ran_36 (by decide) ?_
        refine y_icmp_ne (tgt := 47) (pc2 := 40) rfl dX12_ran_37 (by decide) (fun c8 => ?_) (fun c8 => ?_)
        · replace hf := y_ie c8 hf
          refine y_iload_n (pc2 := 48) rfl dX12_ran_47 rfl ?_
          refine y_iconst (v := 2) (pc2 := 49) rfl dX12_ran_48 (by decide) ?_
          refine y_icmp_ne (tgt := 59) (pc2 := 52) rfl dX12_ran_49 (by decide) (fun c6 => ?_) (fun c6 => ?_)
          · replace hf := y_ie c6 hf
            refine y_aload_n (x := p0) (pc2 := 60) rfl dX12_ran_59 rfl ?_
            obtain ⟨g4, hf⟩ := y_g hf
            refine y_getI (pc2 := 63) rfl dX12_ran_60 F_BoxYardModel_521 (by decide) rfl g4 ?_
            exact y_iretF hf dX12_ran_63 rfl (by decide) (by decide)
          · replace hf := y_it c6 hf
            refine y_aload_n (x := p0) (pc2 := 53) rfl dX12_ran_52 rfl ?_
            obtain ⟨g5, hf⟩ := y_g hf
            refine y_getI (pc2 := 56) rfl dX12_ran_53 F_BoxYardModel_204 (by decide) rfl g5 ?_
            refine y_goto (tgt := 63) dX12_ran_56 (by decide) ?_
            exact y_iretF hf dX12_ran_63 rfl (by decide) (by decide)
        · replace hf := y_it c8 hf
          refine y_aload_n (x := p0) (pc2 := 41) rfl dX12_ran_40 rfl ?_
          obtain ⟨g7, hf⟩ := y_g hf
          refine y_getI (pc2 := 44) rfl dX12_ran_41 F_BoxYardModel_201 (by decide) rfl g7 ?_
          refine y_goto (tgt := 63) dX12_ran_44 (by decide) ?_
          exact y_iretF hf dX12_ran_63 rfl (by decide) (by decide)
      · replace hf := y_it c10 hf
        refine y_aload_n (x := p0) (pc2 := 29) rfl dX12_ran_28 rfl ?_
        obtain ⟨g9, hf⟩ := y_g hf
        refine y_getI (pc2 := 32) rfl dX12_ran_29 F_BoxYardModel_198 (by decide) rfl g9 ?_
        refine y_goto (tgt := 63) dX12_ran_32 (by decide) ?_
        exact y_iretF hf dX12_ran_63 rfl (by decide) (by decide)
    · replace hf := y_ie c11 hf
      refine y_bipush (v := (-9 : Int32)) (pc2 := 21) rfl dX12_ran_19 (by decide) ?_
      refine y_goto (tgt := 63) dX12_ran_21 (by decide) ?_
      exact y_iretF hf dX12_ran_63 rfl (by decide) (by decide)
  · replace hf := y_ie c13 hf
    refine y_bipush (v := (-2 : Int32)) (pc2 := 11) rfl dX12_ran_9 (by decide) ?_
    exact y_iretF hf dX12_ran_11 rfl (by decide) (by decide)
theorem dX12_shelf_0 : decode cX12_shelf 0 = .ok (.aload_n 0, 1) := by decide +kernel
theorem dX12_shelf_1 : decode cX12_shelf 1 = .ok (.iload_n 1, 1) := by decide +kernel
theorem dX12_shelf_2 : decode cX12_shelf 2 = .ok (.invokevirtual 485, 3) := by decide +kernel
theorem dX12_shelf_5 : decode cX12_shelf 5 = .ok (.ifCond .eq 34, 3) := by decide +kernel
theorem dX12_shelf_8 : decode cX12_shelf 8 = .ok (.iload_n 2, 1) := by decide +kernel
theorem dX12_shelf_9 : decode cX12_shelf 9 = .ok (.iconst 0, 1) := by decide +kernel
theorem dX12_shelf_10 : decode cX12_shelf 10 = .ok (.aload_n 0, 1) := by decide +kernel
theorem dX12_shelf_11 : decode cX12_shelf 11 = .ok (.getfield 195, 3) := by decide +kernel
theorem dX12_shelf_14 : decode cX12_shelf 14 = .ok (.iload_n 1, 1) := by decide +kernel
theorem dX12_shelf_15 : decode cX12_shelf 15 = .ok (.iaload, 1) := by decide +kernel
theorem dX12_shelf_16 : decode cX12_shelf 16 = .ok (.iconst 1, 1) := by decide +kernel
theorem dX12_shelf_17 : decode cX12_shelf 17 = .ok (.isub, 1) := by decide +kernel
theorem dX12_shelf_18 : decode cX12_shelf 18 = .ok (.invokestatic 278, 3) := by decide +kernel
theorem dX12_shelf_21 : decode cX12_shelf 21 = .ok (.ifCond .eq 18, 3) := by decide +kernel
theorem dX12_shelf_24 : decode cX12_shelf 24 = .ok (.aload_n 0, 1) := by decide +kernel
theorem dX12_shelf_25 : decode cX12_shelf 25 = .ok (.getfield 192, 3) := by decide +kernel
theorem dX12_shelf_28 : decode cX12_shelf 28 = .ok (.sipush 128, 3) := by decide +kernel
theorem dX12_shelf_31 : decode cX12_shelf 31 = .ok (.iload_n 1, 1) := by decide +kernel
theorem dX12_shelf_32 : decode cX12_shelf 32 = .ok (.imul, 1) := by decide +kernel
theorem dX12_shelf_33 : decode cX12_shelf 33 = .ok (.iload_n 2, 1) := by decide +kernel
theorem dX12_shelf_34 : decode cX12_shelf 34 = .ok (.iadd, 1) := by decide +kernel
theorem dX12_shelf_35 : decode cX12_shelf 35 = .ok (.iaload, 1) := by decide +kernel
theorem dX12_shelf_36 : decode cX12_shelf 36 = .ok (.goto 4, 3) := by decide +kernel
theorem dX12_shelf_39 : decode cX12_shelf 39 = .ok (.iconst (-1), 1) := by decide +kernel
theorem dX12_shelf_40 : decode cX12_shelf 40 = .ok (.ireturn, 1) := by decide +kernel
def M_X12_shelf : y_M := (yX12_shelf, cX12_shelf, 3, (Option.some Jvm.ClassFile.FieldType.int))
theorem n_X12_shelf : y_N0 M_X12_shelf 2 := ⟨(c_10 130 (by decide +kernel) rfl), (c_1 9 (by decide +kernel) rfl), ⟨by decide +kernel, by decide +kernel⟩, by decide +kernel⟩
set_option maxRecDepth 100000 in
def f_X12_shelf (p0 : Nat) (p1 : Int32) (p2 : Int32) (h : y_H) : Option (Int32 × y_H) :=
  if y_K h p0 = 13 then
  y_cl (f_X12_isShelf p0 p1 h) (fun r1 h2 =>
  y_jn (fun (h4 : y_H) => (
      some ((-1 : Int32), h4) : Option (Int32 × y_H))) (fun j39 =>
  if r1 = true then
    if y_K h2 p0 = 13 then
    if y_K h2 (y_P h2 p0 78) = 100 ∧ y_ix p1 (y_N h2 (y_P h2 p0 78)) = true then
    y_cl (f_X12_in p2 0 ((y_I h2 (y_P h2 p0 78) (Int32.toNatClampNeg p1)) - 1) h2) (fun r5 h6 =>
    if r5 = true then
      if y_K h6 p0 = 13 then
      if y_K h6 (y_P h6 p0 77) = 100 ∧ y_ix ((128 * p1) + p2) (y_N h6 (y_P h6 p0 77)) = true then
      some (y_I h6 (y_P h6 p0 77) (Int32.toNatClampNeg ((128 * p1) + p2)), h6)
      else none
      else none
    else
      j39 h6)
    else none
    else none
  else
    j39 h2))
  else none
abbrev rm_X12_shelf : Room := { frames := 2, cells := 0, slots := 0, locals := 43 }
set_option maxRecDepth 100000 in
set_option maxHeartbeats 4000000 in
theorem k_X12_shelf {l : Launch} {G : y_G} {p0 : Nat} {p1 : Int32} {p2 : Int32} {h hz : y_H} {rz : Int32} (hf : f_X12_shelf p0 p1 p2 h = some (rz, hz)) : y_S l G M_X12_shelf rm_X12_shelf [y_p p0, .int p1, .int p2] h (some (.int rz)) hz := by
  refine y_start (lv := [(0, y_p p0), (1, .int p1), (2, .int p2)]) (by decide) (by simp [lg_sl, y_p_cat, y_ci, y_cj, M_X12_shelf]) (by simp [lv_args, y_p_cat, y_ci, y_cj]) (fun z ad0 => ?_)
  unfold f_X12_shelf at hf
  refine y_aload_n (x := p0) (pc2 := 1) rfl dX12_shelf_0 rfl ?_
  refine y_iload_n (pc2 := 2) rfl dX12_shelf_1 rfl ?_
  obtain ⟨g14, hf⟩ := y_g hf
  obtain ⟨r1, h2, c3, hf⟩ := y_clE hf
  refine y_callV (As := [.int p1]) (rm := rm_X12_isShelf) (cells := 0) (slots := 0) (pc2 := 5) rfl dX12_shelf_2 n_X12_isShelf l_BoxYardModel_485 i_X12_isShelf e_X12_isShelf (ci := 12) rfl rfl (by decide) g14 rfl rfl (by decide) (by decide) (by decide) (k_X12_isShelf c3) ?_
  refine y_jnE hf (fun j => ∀ (h4 : y_H), j h4 = some (rz, hz) → y_V l G z rm_X12_shelf M_X12_shelf ad0 h (some (.int rz)) hz 39 [] [] h4 0 0) (fun h4 hf => ?_) (fun j39 hj39 hf => ?_)
  · refine y_iconst (v := (-1 : Int32)) (pc2 := 40) rfl dX12_shelf_39 (by decide) ?_
    exact y_iretF hf dX12_shelf_40 rfl (by decide) (by decide)
  · refine y_ifz_eq (tgt := 39) (pc2 := 8) rfl dX12_shelf_5 (by decide) (fun c13 => ?_) (fun c13 => ?_)
    · replace hf := y_ie c13 hf
      exact y_pk [] rfl (hj39 _ hf)
    · replace hf := y_it c13 hf
      refine y_iload_n (pc2 := 9) rfl dX12_shelf_8 rfl ?_
      refine y_iconst (v := 0) (pc2 := 10) rfl dX12_shelf_9 (by decide) ?_
      refine y_aload_n (x := p0) (pc2 := 11) rfl dX12_shelf_10 rfl ?_
      obtain ⟨g12, hf⟩ := y_g hf
      refine y_getP (pc2 := 14) rfl dX12_shelf_11 F_BoxYardModel_195 (by decide) rfl g12 ?_
      refine y_iload_n (pc2 := 15) rfl dX12_shelf_14 rfl ?_
      obtain ⟨g11, hf⟩ := y_g hf
      refine y_iald (pc2 := 16) rfl dX12_shelf_15 g11.1 (y_ix_in g11.2) ?_
      refine y_iconst (v := 1) (pc2 := 17) rfl dX12_shelf_16 (by decide) ?_
      refine y_isub (pc2 := 18) rfl dX12_shelf_17 ?_
      obtain ⟨r5, h6, c7, hf⟩ := y_clE hf
      refine y_callS (As := [.int p2, .int 0, .int ((y_I h2 (y_P h2 p0 78) (Int32.toNatClampNeg p1)) - 1)]) (rm := rm_X12_in) (cells := 0) (slots := 0) (pc2 := 21) rfl dX12_shelf_18 n_X12_in l_BoxYardModel_278 t_X12_in rfl rfl (by decide) (by decide) (by decide) (k_X12_in c7) ?_
      refine y_ifz_eq (tgt := 39) (pc2 := 24) rfl dX12_shelf_21 (by decide) (fun c10 => ?_) (fun c10 => ?_)
      · replace hf := y_ie c10 hf
        exact y_pk [] rfl (hj39 _ hf)
      · replace hf := y_it c10 hf
        refine y_aload_n (x := p0) (pc2 := 25) rfl dX12_shelf_24 rfl ?_
        obtain ⟨g9, hf⟩ := y_g hf
        refine y_getP (pc2 := 28) rfl dX12_shelf_25 F_BoxYardModel_192 (by decide) rfl g9 ?_
        refine y_sipush (v := 128) (pc2 := 31) rfl dX12_shelf_28 (by decide) ?_
        refine y_iload_n (pc2 := 32) rfl dX12_shelf_31 rfl ?_
        refine y_imul (pc2 := 33) rfl dX12_shelf_32 ?_
        refine y_iload_n (pc2 := 34) rfl dX12_shelf_33 rfl ?_
        refine y_iadd (pc2 := 35) rfl dX12_shelf_34 ?_
        obtain ⟨g8, hf⟩ := y_g hf
        refine y_iald (pc2 := 36) rfl dX12_shelf_35 g8.1 (y_ix_in g8.2) ?_
        refine y_goto (tgt := 40) dX12_shelf_36 (by decide) ?_
        exact y_iretF hf dX12_shelf_40 rfl (by decide) (by decide)
theorem dX12_status_0 : decode cX12_status 0 = .ok (.aload_n 0, 1) := by decide +kernel
theorem dX12_status_1 : decode cX12_status 1 = .ok (.getfield 252, 3) := by decide +kernel
theorem dX12_status_4 : decode cX12_status 4 = .ok (.ireturn, 1) := by decide +kernel
def M_X12_status : y_M := (yX12_status, cX12_status, 1, (Option.some Jvm.ClassFile.FieldType.int))
theorem n_X12_status : y_N0 M_X12_status 0 := ⟨(c_10 134 (by decide +kernel) rfl), (c_1 9 (by decide +kernel) rfl), ⟨by decide +kernel, by decide +kernel⟩, by decide +kernel⟩
set_option maxRecDepth 100000 in
def f_X12_status (p0 : Nat) (h : y_H) : Option (Int32 × y_H) :=
  if y_K h p0 = 13 then
  some (y_I h p0 47, h)
  else none
abbrev rm_X12_status : Room := { frames := 0, cells := 0, slots := 0, locals := 0 }
set_option maxRecDepth 100000 in
set_option maxHeartbeats 4000000 in
theorem k_X12_status {l : Launch} {G : y_G} {p0 : Nat} {h hz : y_H} {rz : Int32} (hf : f_X12_status p0 h = some (rz, hz)) : y_S l G M_X12_status rm_X12_status [y_p p0] h (some (.int rz)) hz := by
  refine y_start (lv := [(0, y_p p0)]) (by decide) (by simp [lg_sl, y_p_cat, y_ci, y_cj, M_X12_status]) (by simp [lv_args, y_p_cat, y_ci, y_cj]) (fun z ad0 => ?_)
  unfold f_X12_status at hf
  refine y_aload_n (x := p0) (pc2 := 1) rfl dX12_status_0 rfl ?_
  obtain ⟨g1, hf⟩ := y_g hf
  refine y_getI (pc2 := 4) rfl dX12_status_1 F_BoxYardModel_252 (by decide) rfl g1 ?_
  exact y_iretF hf dX12_status_4 rfl (by decide) (by decide)
theorem dX12_found_0 : decode cX12_found 0 = .ok (.iload_n 1, 1) := by decide +kernel
theorem dX12_found_1 : decode cX12_found 1 = .ok (.iconst 1, 1) := by decide +kernel
theorem dX12_found_2 : decode cX12_found 2 = .ok (.bipush 7, 2) := by decide +kernel
theorem dX12_found_4 : decode cX12_found 4 = .ok (.invokestatic 278, 3) := by decide +kernel
theorem dX12_found_7 : decode cX12_found 7 = .ok (.ifCond .eq 12, 3) := by decide +kernel
theorem dX12_found_10 : decode cX12_found 10 = .ok (.aload_n 0, 1) := by decide +kernel
theorem dX12_found_11 : decode cX12_found 11 = .ok (.getfield 134, 3) := by decide +kernel
theorem dX12_found_14 : decode cX12_found 14 = .ok (.iload_n 1, 1) := by decide +kernel
theorem dX12_found_15 : decode cX12_found 15 = .ok (.iaload, 1) := by decide +kernel
theorem dX12_found_16 : decode cX12_found 16 = .ok (.goto 4, 3) := by decide +kernel
theorem dX12_found_19 : decode cX12_found 19 = .ok (.iconst (-1), 1) := by decide +kernel
theorem dX12_found_20 : decode cX12_found 20 = .ok (.ireturn, 1) := by decide +kernel
def M_X12_found : y_M := (yX12_found, cX12_found, 2, (Option.some Jvm.ClassFile.FieldType.int))
theorem n_X12_found : y_N0 M_X12_found 1 := ⟨(c_10 138 (by decide +kernel) rfl), (c_1 9 (by decide +kernel) rfl), ⟨by decide +kernel, by decide +kernel⟩, by decide +kernel⟩
set_option maxRecDepth 100000 in
def f_X12_found (p0 : Nat) (p1 : Int32) (h : y_H) : Option (Int32 × y_H) :=
  y_cl (f_X12_in p1 1 7 h) (fun r1 h2 =>
  if r1 = true then
    if y_K h2 p0 = 13 then
    if y_K h2 (y_P h2 p0 48) = 100 ∧ y_ix p1 (y_N h2 (y_P h2 p0 48)) = true then
    some (y_I h2 (y_P h2 p0 48) (Int32.toNatClampNeg p1), h2)
    else none
    else none
  else
    some ((-1 : Int32), h2))
abbrev rm_X12_found : Room := { frames := 1, cells := 0, slots := 0, locals := 22 }
set_option maxRecDepth 100000 in
set_option maxHeartbeats 4000000 in
theorem k_X12_found {l : Launch} {G : y_G} {p0 : Nat} {p1 : Int32} {h hz : y_H} {rz : Int32} (hf : f_X12_found p0 p1 h = some (rz, hz)) : y_S l G M_X12_found rm_X12_found [y_p p0, .int p1] h (some (.int rz)) hz := by
  refine y_start (lv := [(0, y_p p0), (1, .int p1)]) (by decide) (by simp [lg_sl, y_p_cat, y_ci, y_cj, M_X12_found]) (by simp [lv_args, y_p_cat, y_ci, y_cj]) (fun z ad0 => ?_)
  unfold f_X12_found at hf
  refine y_iload_n (pc2 := 1) rfl dX12_found_0 rfl ?_
  refine y_iconst (v := 1) (pc2 := 2) rfl dX12_found_1 (by decide) ?_
  refine y_bipush (v := 7) (pc2 := 4) rfl dX12_found_2 (by decide) ?_
  obtain ⟨r1, h2, c3, hf⟩ := y_clE hf
  refine y_callS (As := [.int p1, .int 1, .int 7]) (rm := rm_X12_in) (cells := 0) (slots := 0) (pc2 := 7) rfl dX12_found_4 n_X12_in l_BoxYardModel_278 t_X12_in rfl rfl (by decide) (by decide) (by decide) (k_X12_in c3) ?_
  refine y_ifz_eq (tgt := 19) (pc2 := 10) rfl dX12_found_7 (by decide) (fun c6 => ?_) (fun c6 => ?_)
  · replace hf := y_ie c6 hf
    refine y_iconst (v := (-1 : Int32)) (pc2 := 20) rfl dX12_found_19 (by decide) ?_
    exact y_iretF hf dX12_found_20 rfl (by decide) (by decide)
  · replace hf := y_it c6 hf
    refine y_aload_n (x := p0) (pc2 := 11) rfl dX12_found_10 rfl ?_
    obtain ⟨g5, hf⟩ := y_g hf
    refine y_getP (pc2 := 14) rfl dX12_found_11 F_BoxYardModel_134 (by decide) rfl g5 ?_
    refine y_iload_n (pc2 := 15) rfl dX12_found_14 rfl ?_
    obtain ⟨g4, hf⟩ := y_g hf
    refine y_iald (pc2 := 16) rfl dX12_found_15 g4.1 (y_ix_in g4.2) ?_
    refine y_goto (tgt := 20) dX12_found_16 (by decide) ?_
    exact y_iretF hf dX12_found_20 rfl (by decide) (by decide)
theorem dX12_trace_0 : decode cX12_trace 0 = .ok (.iload_n 1, 1) := by decide +kernel
theorem dX12_trace_1 : decode cX12_trace 1 = .ok (.iconst 0, 1) := by decide +kernel
theorem dX12_trace_2 : decode cX12_trace 2 = .ok (.aload_n 0, 1) := by decide +kernel
theorem dX12_trace_3 : decode cX12_trace 3 = .ok (.getfield 249, 3) := by decide +kernel
theorem dX12_trace_6 : decode cX12_trace 6 = .ok (.iconst 1, 1) := by decide +kernel
theorem dX12_trace_7 : decode cX12_trace 7 = .ok (.isub, 1) := by decide +kernel
theorem dX12_trace_8 : decode cX12_trace 8 = .ok (.invokestatic 278, 3) := by decide +kernel
theorem dX12_trace_11 : decode cX12_trace 11 = .ok (.ifCond .eq 12, 3) := by decide +kernel
theorem dX12_trace_14 : decode cX12_trace 14 = .ok (.aload_n 0, 1) := by decide +kernel
theorem dX12_trace_15 : decode cX12_trace 15 = .ok (.getfield 131, 3) := by decide +kernel
theorem dX12_trace_18 : decode cX12_trace 18 = .ok (.iload_n 1, 1) := by decide +kernel
theorem dX12_trace_19 : decode cX12_trace 19 = .ok (.iaload, 1) := by decide +kernel
theorem dX12_trace_20 : decode cX12_trace 20 = .ok (.goto 5, 3) := by decide +kernel
theorem dX12_trace_23 : decode cX12_trace 23 = .ok (.bipush (-9), 2) := by decide +kernel
theorem dX12_trace_25 : decode cX12_trace 25 = .ok (.ireturn, 1) := by decide +kernel
def M_X12_trace : y_M := (yX12_trace, cX12_trace, 2, (Option.some Jvm.ClassFile.FieldType.int))
theorem n_X12_trace : y_N0 M_X12_trace 1 := ⟨(c_10 142 (by decide +kernel) rfl), (c_1 9 (by decide +kernel) rfl), ⟨by decide +kernel, by decide +kernel⟩, by decide +kernel⟩
set_option maxRecDepth 100000 in
def f_X12_trace (p0 : Nat) (p1 : Int32) (h : y_H) : Option (Int32 × y_H) :=
  if y_K h p0 = 13 then
  y_cl (f_X12_in p1 0 ((y_I h p0 46) - 1) h) (fun r1 h2 =>
  if r1 = true then
    if y_K h2 p0 = 13 then
    if y_K h2 (y_P h2 p0 45) = 100 ∧ y_ix p1 (y_N h2 (y_P h2 p0 45)) = true then
    some (y_I h2 (y_P h2 p0 45) (Int32.toNatClampNeg p1), h2)
    else none
    else none
  else
    some ((-9 : Int32), h2))
  else none
abbrev rm_X12_trace : Room := { frames := 1, cells := 0, slots := 0, locals := 22 }
set_option maxRecDepth 100000 in
set_option maxHeartbeats 4000000 in
theorem k_X12_trace {l : Launch} {G : y_G} {p0 : Nat} {p1 : Int32} {h hz : y_H} {rz : Int32} (hf : f_X12_trace p0 p1 h = some (rz, hz)) : y_S l G M_X12_trace rm_X12_trace [y_p p0, .int p1] h (some (.int rz)) hz := by
  refine y_start (lv := [(0, y_p p0), (1, .int p1)]) (by decide) (by simp [lg_sl, y_p_cat, y_ci, y_cj, M_X12_trace]) (by simp [lv_args, y_p_cat, y_ci, y_cj]) (fun z ad0 => ?_)
  unfold f_X12_trace at hf
  refine y_iload_n (pc2 := 1) rfl dX12_trace_0 rfl ?_
  refine y_iconst (v := 0) (pc2 := 2) rfl dX12_trace_1 (by decide) ?_
  refine y_aload_n (x := p0) (pc2 := 3) rfl dX12_trace_2 rfl ?_
  obtain ⟨g7, hf⟩ := y_g hf
  refine y_getI (pc2 := 6) rfl dX12_trace_3 F_BoxYardModel_249 (by decide) rfl g7 ?_
  refine y_iconst (v := 1) (pc2 := 7) rfl dX12_trace_6 (by decide) ?_
  refine y_isub (pc2 := 8) rfl dX12_trace_7 ?_
  obtain ⟨r1, h2, c3, hf⟩ := y_clE hf
  refine y_callS (As := [.int p1, .int 0, .int ((y_I h p0 46) - 1)]) (rm := rm_X12_in) (cells := 0) (slots := 0) (pc2 := 11) rfl dX12_trace_8 n_X12_in l_BoxYardModel_278 t_X12_in rfl rfl (by decide) (by decide) (by decide) (k_X12_in c3) ?_
  refine y_ifz_eq (tgt := 23) (pc2 := 14) rfl dX12_trace_11 (by decide) (fun c6 => ?_) (fun c6 => ?_)
  · replace hf := y_ie c6 hf
    refine y_bipush (v := (-9 : Int32)) (pc2 := 25) rfl dX12_trace_23 (by decide) ?_
    exact y_iretF hf dX12_trace_25 rfl (by decide) (by decide)
  · replace hf := y_it c6 hf
    refine y_aload_n (x := p0) (pc2 := 15) rfl dX12_trace_14 rfl ?_
    obtain ⟨g5, hf⟩ := y_g hf
    refine y_getP (pc2 := 18) rfl dX12_trace_15 F_BoxYardModel_131 (by decide) rfl g5 ?_
    refine y_iload_n (pc2 := 19) rfl dX12_trace_18 rfl ?_
    obtain ⟨g4, hf⟩ := y_g hf
    refine y_iald (pc2 := 20) rfl dX12_trace_19 g4.1 (y_ix_in g4.2) ?_
    refine y_goto (tgt := 25) dX12_trace_20 (by decide) ?_
    exact y_iretF hf dX12_trace_25 rfl (by decide) (by decide)
theorem dX12_undo_0 : decode cX12_undo 0 = .ok (.aload_n 0, 1) := by decide +kernel
theorem dX12_undo_1 : decode cX12_undo 1 = .ok (.getfield 255, 3) := by decide +kernel
theorem dX12_undo_4 : decode cX12_undo 4 = .ok (.ifCond .ne 6, 3) := by decide +kernel
theorem dX12_undo_7 : decode cX12_undo 7 = .ok (.bipush (-3), 2) := by decide +kernel
theorem dX12_undo_9 : decode cX12_undo 9 = .ok (.ireturn, 1) := by decide +kernel
theorem dX12_undo_10 : decode cX12_undo 10 = .ok (.aload_n 0, 1) := by decide +kernel
theorem dX12_undo_11 : decode cX12_undo 11 = .ok (.dup, 1) := by decide +kernel
theorem dX12_undo_12 : decode cX12_undo 12 = .ok (.getfield 255, 3) := by decide +kernel
theorem dX12_undo_15 : decode cX12_undo 15 = .ok (.iconst 1, 1) := by decide +kernel
theorem dX12_undo_16 : decode cX12_undo 16 = .ok (.isub, 1) := by decide +kernel
theorem dX12_undo_17 : decode cX12_undo 17 = .ok (.putfield 255, 3) := by decide +kernel
theorem dX12_undo_20 : decode cX12_undo 20 = .ok (.bipush 14, 2) := by decide +kernel
theorem dX12_undo_22 : decode cX12_undo 22 = .ok (.aload_n 0, 1) := by decide +kernel
theorem dX12_undo_23 : decode cX12_undo 23 = .ok (.getfield 255, 3) := by decide +kernel
theorem dX12_undo_26 : decode cX12_undo 26 = .ok (.imul, 1) := by decide +kernel
theorem dX12_undo_27 : decode cX12_undo 27 = .ok (.istore_n 1, 1) := by decide +kernel
theorem dX12_undo_28 : decode cX12_undo 28 = .ok (.aload_n 0, 1) := by decide +kernel
theorem dX12_undo_29 : decode cX12_undo 29 = .ok (.getfield 137, 3) := by decide +kernel
theorem dX12_undo_32 : decode cX12_undo 32 = .ok (.iload_n 1, 1) := by decide +kernel
theorem dX12_undo_33 : decode cX12_undo 33 = .ok (.iconst 1, 1) := by decide +kernel
theorem dX12_undo_34 : decode cX12_undo 34 = .ok (.iadd, 1) := by decide +kernel
theorem dX12_undo_35 : decode cX12_undo 35 = .ok (.iaload, 1) := by decide +kernel
theorem dX12_undo_36 : decode cX12_undo 36 = .ok (.istore_n 2, 1) := by decide +kernel
theorem dX12_undo_37 : decode cX12_undo 37 = .ok (.aload_n 0, 1) := by decide +kernel
theorem dX12_undo_38 : decode cX12_undo 38 = .ok (.getfield 137, 3) := by decide +kernel
theorem dX12_undo_41 : decode cX12_undo 41 = .ok (.iload_n 1, 1) := by decide +kernel
theorem dX12_undo_42 : decode cX12_undo 42 = .ok (.iconst 5, 1) := by decide +kernel
theorem dX12_undo_43 : decode cX12_undo 43 = .ok (.iadd, 1) := by decide +kernel
theorem dX12_undo_44 : decode cX12_undo 44 = .ok (.iaload, 1) := by decide +kernel
theorem dX12_undo_45 : decode cX12_undo 45 = .ok (.istore_n 3, 1) := by decide +kernel
theorem dX12_undo_46 : decode cX12_undo 46 = .ok (.aload_n 0, 1) := by decide +kernel
theorem dX12_undo_47 : decode cX12_undo 47 = .ok (.getfield 137, 3) := by decide +kernel
theorem dX12_undo_50 : decode cX12_undo 50 = .ok (.iload_n 1, 1) := by decide +kernel
theorem dX12_undo_51 : decode cX12_undo 51 = .ok (.bipush 11, 2) := by decide +kernel
theorem dX12_undo_53 : decode cX12_undo 53 = .ok (.iadd, 1) := by decide +kernel
theorem dX12_undo_54 : decode cX12_undo 54 = .ok (.iaload, 1) := by decide +kernel
theorem dX12_undo_55 : decode cX12_undo 55 = .ok (.istore 4, 2) := by decide +kernel
theorem dX12_undo_57 : decode cX12_undo 57 = .ok (.iload_n 3, 1) := by decide +kernel
theorem dX12_undo_58 : decode cX12_undo 58 = .ok (.ifCond .lt 230, 3) := by decide +kernel
theorem dX12_undo_61 : decode cX12_undo 61 = .ok (.aload_n 0, 1) := by decide +kernel
theorem dX12_undo_62 : decode cX12_undo 62 = .ok (.getfield 29, 3) := by decide +kernel
theorem dX12_undo_65 : decode cX12_undo 65 = .ok (.iload_n 3, 1) := by decide +kernel
theorem dX12_undo_66 : decode cX12_undo 66 = .ok (.iaload, 1) := by decide +kernel
theorem dX12_undo_67 : decode cX12_undo 67 = .ok (.iconst 1, 1) := by decide +kernel
theorem dX12_undo_68 : decode cX12_undo 68 = .ok (.if_icmp .ne 31, 3) := by decide +kernel
theorem dX12_undo_71 : decode cX12_undo 71 = .ok (.aload_n 0, 1) := by decide +kernel
theorem dX12_undo_72 : decode cX12_undo 72 = .ok (.getfield 71, 3) := by decide +kernel
theorem dX12_undo_75 : decode cX12_undo 75 = .ok (.bipush 6, 2) := by decide +kernel
theorem dX12_undo_77 : decode cX12_undo 77 = .ok (.aload_n 0, 1) := by decide +kernel
theorem dX12_undo_78 : decode cX12_undo 78 = .ok (.getfield 32, 3) := by decide +kernel
theorem dX12_undo_81 : decode cX12_undo 81 = .ok (.iload_n 3, 1) := by decide +kernel
theorem dX12_undo_82 : decode cX12_undo 82 = .ok (.iaload, 1) := by decide +kernel
theorem dX12_undo_83 : decode cX12_undo 83 = .ok (.imul, 1) := by decide +kernel
theorem dX12_undo_84 : decode cX12_undo 84 = .ok (.aload_n 0, 1) := by decide +kernel
theorem dX12_undo_85 : decode cX12_undo 85 = .ok (.getfield 35, 3) := by decide +kernel
theorem dX12_undo_88 : decode cX12_undo 88 = .ok (.iload_n 3, 1) := by decide +kernel
theorem dX12_undo_89 : decode cX12_undo 89 = .ok (.iaload, 1) := by decide +kernel
theorem dX12_undo_90 : decode cX12_undo 90 = .ok (.iadd, 1) := by decide +kernel
theorem dX12_undo_91 : decode cX12_undo 91 = .ok (.dup2, 1) := by decide +kernel
theorem dX12_undo_92 : decode cX12_undo 92 = .ok (.iaload, 1) := by decide +kernel
theorem dX12_undo_93 : decode cX12_undo 93 = .ok (.iconst 1, 1) := by decide +kernel
theorem dX12_undo_94 : decode cX12_undo 94 = .ok (.isub, 1) := by decide +kernel
theorem dX12_undo_95 : decode cX12_undo 95 = .ok (.iastore, 1) := by decide +kernel
theorem dX12_undo_96 : decode cX12_undo 96 = .ok (.goto 35, 3) := by decide +kernel
theorem dX12_undo_99 : decode cX12_undo 99 = .ok (.aload_n 0, 1) := by decide +kernel
theorem dX12_undo_100 : decode cX12_undo 100 = .ok (.getfield 29, 3) := by decide +kernel
theorem dX12_undo_103 : decode cX12_undo 103 = .ok (.iload_n 3, 1) := by decide +kernel
theorem dX12_undo_104 : decode cX12_undo 104 = .ok (.iaload, 1) := by decide +kernel
theorem dX12_undo_105 : decode cX12_undo 105 = .ok (.iconst 3, 1) := by decide +kernel
theorem dX12_undo_106 : decode cX12_undo 106 = .ok (.if_icmp .ne 25, 3) := by decide +kernel
theorem dX12_undo_109 : decode cX12_undo 109 = .ok (.aload_n 0, 1) := by decide +kernel
theorem dX12_undo_110 : decode cX12_undo 110 = .ok (.getfield 113, 3) := by decide +kernel
theorem dX12_undo_113 : decode cX12_undo 113 = .ok (.bipush 54, 2) := by decide +kernel
theorem dX12_undo_115 : decode cX12_undo 115 = .ok (.aload_n 0, 1) := by decide +kernel
theorem dX12_undo_116 : decode cX12_undo 116 = .ok (.getfield 32, 3) := by decide +kernel
theorem dX12_undo_119 : decode cX12_undo 119 = .ok (.iload_n 3, 1) := by decide +kernel
theorem dX12_undo_120 : decode cX12_undo 120 = .ok (.iaload, 1) := by decide +kernel
theorem dX12_undo_121 : decode cX12_undo 121 = .ok (.imul, 1) := by decide +kernel
theorem dX12_undo_122 : decode cX12_undo 122 = .ok (.aload_n 0, 1) := by decide +kernel
theorem dX12_undo_123 : decode cX12_undo 123 = .ok (.getfield 35, 3) := by decide +kernel
theorem dX12_undo_126 : decode cX12_undo 126 = .ok (.iload_n 3, 1) := by decide +kernel
theorem dX12_undo_127 : decode cX12_undo 127 = .ok (.iaload, 1) := by decide +kernel
theorem dX12_undo_128 : decode cX12_undo 128 = .ok (.iadd, 1) := by decide +kernel
theorem dX12_undo_129 : decode cX12_undo 129 = .ok (.iconst (-1), 1) := by decide +kernel
theorem dX12_undo_130 : decode cX12_undo 130 = .ok (.iastore, 1) := by decide +kernel
theorem dX12_undo_131 : decode cX12_undo 131 = .ok (.aload_n 0, 1) := by decide +kernel
theorem dX12_undo_132 : decode cX12_undo 132 = .ok (.iload_n 3, 1) := by decide +kernel
theorem dX12_undo_133 : decode cX12_undo 133 = .ok (.aload_n 0, 1) := by decide +kernel
theorem dX12_undo_134 : decode cX12_undo 134 = .ok (.getfield 137, 3) := by decide +kernel
theorem dX12_undo_137 : decode cX12_undo 137 = .ok (.iload_n 1, 1) := by decide +kernel
theorem dX12_undo_138 : decode cX12_undo 138 = .ok (.bipush 6, 2) := by decide +kernel
theorem dX12_undo_140 : decode cX12_undo 140 = .ok (.iadd, 1) := by decide +kernel
theorem dX12_undo_141 : decode cX12_undo 141 = .ok (.iaload, 1) := by decide +kernel
theorem dX12_undo_142 : decode cX12_undo 142 = .ok (.aload_n 0, 1) := by decide +kernel
theorem dX12_undo_143 : decode cX12_undo 143 = .ok (.getfield 137, 3) := by decide +kernel
theorem dX12_undo_146 : decode cX12_undo 146 = .ok (.iload_n 1, 1) := by decide +kernel
theorem dX12_undo_147 : decode cX12_undo 147 = .ok (.bipush 7, 2) := by decide +kernel
theorem dX12_undo_149 : decode cX12_undo 149 = .ok (.iadd, 1) := by decide +kernel
theorem dX12_undo_150 : decode cX12_undo 150 = .ok (.iaload, 1) := by decide +kernel
theorem dX12_undo_151 : decode cX12_undo 151 = .ok (.aload_n 0, 1) := by decide +kernel
theorem dX12_undo_152 : decode cX12_undo 152 = .ok (.getfield 137, 3) := by decide +kernel
theorem dX12_undo_155 : decode cX12_undo 155 = .ok (.iload_n 1, 1) := by decide +kernel
theorem dX12_undo_156 : decode cX12_undo 156 = .ok (.bipush 8, 2) := by decide +kernel
theorem dX12_undo_158 : decode cX12_undo 158 = .ok (.iadd, 1) := by decide +kernel
theorem dX12_undo_159 : decode cX12_undo 159 = .ok (.iaload, 1) := by decide +kernel
theorem dX12_undo_160 : decode cX12_undo 160 = .ok (.aload_n 0, 1) := by decide +kernel
theorem dX12_undo_161 : decode cX12_undo 161 = .ok (.getfield 137, 3) := by decide +kernel
theorem dX12_undo_164 : decode cX12_undo 164 = .ok (.iload_n 1, 1) := by decide +kernel
theorem dX12_undo_165 : decode cX12_undo 165 = .ok (.bipush 9, 2) := by decide +kernel
theorem dX12_undo_167 : decode cX12_undo 167 = .ok (.iadd, 1) := by decide +kernel
theorem dX12_undo_168 : decode cX12_undo 168 = .ok (.iaload, 1) := by decide +kernel
theorem dX12_undo_169 : decode cX12_undo 169 = .ok (.invokevirtual 294, 3) := by decide +kernel
theorem dX12_undo_172 : decode cX12_undo 172 = .ok (.aload_n 0, 1) := by decide +kernel
theorem dX12_undo_173 : decode cX12_undo 173 = .ok (.getfield 25, 3) := by decide +kernel
theorem dX12_undo_176 : decode cX12_undo 176 = .ok (.iload_n 3, 1) := by decide +kernel
theorem dX12_undo_177 : decode cX12_undo 177 = .ok (.aload_n 0, 1) := by decide +kernel
theorem dX12_undo_178 : decode cX12_undo 178 = .ok (.getfield 137, 3) := by decide +kernel
theorem dX12_undo_181 : decode cX12_undo 181 = .ok (.iload_n 1, 1) := by decide +kernel
theorem dX12_undo_182 : decode cX12_undo 182 = .ok (.bipush 10, 2) := by decide +kernel
theorem dX12_undo_184 : decode cX12_undo 184 = .ok (.iadd, 1) := by decide +kernel
theorem dX12_undo_185 : decode cX12_undo 185 = .ok (.iaload, 1) := by decide +kernel
theorem dX12_undo_186 : decode cX12_undo 186 = .ok (.iconst 1, 1) := by decide +kernel
theorem dX12_undo_187 : decode cX12_undo 187 = .ok (.if_icmp .ne 7, 3) := by decide +kernel
theorem dX12_undo_190 : decode cX12_undo 190 = .ok (.iconst 1, 1) := by decide +kernel
theorem dX12_undo_191 : decode cX12_undo 191 = .ok (.goto 4, 3) := by decide +kernel
theorem dX12_undo_194 : decode cX12_undo 194 = .ok (.iconst 0, 1) := by decide +kernel
theorem dX12_undo_195 : decode cX12_undo 195 = .ok (.bastore, 1) := by decide +kernel
theorem dX12_undo_196 : decode cX12_undo 196 = .ok (.aload_n 0, 1) := by decide +kernel
theorem dX12_undo_197 : decode cX12_undo 197 = .ok (.getfield 29, 3) := by decide +kernel
theorem dX12_undo_200 : decode cX12_undo 200 = .ok (.iload_n 3, 1) := by decide +kernel
theorem dX12_undo_201 : decode cX12_undo 201 = .ok (.iaload, 1) := by decide +kernel
theorem dX12_undo_202 : decode cX12_undo 202 = .ok (.iconst 1, 1) := by decide +kernel
theorem dX12_undo_203 : decode cX12_undo 203 = .ok (.if_icmp .ne 53, 3) := by decide +kernel
theorem dX12_undo_206 : decode cX12_undo 206 = .ok (.bipush 6, 2) := by decide +kernel
theorem dX12_undo_208 : decode cX12_undo 208 = .ok (.aload_n 0, 1) := by decide +kernel
theorem dX12_undo_209 : decode cX12_undo 209 = .ok (.getfield 32, 3) := by decide +kernel
theorem dX12_undo_212 : decode cX12_undo 212 = .ok (.iload_n 3, 1) := by decide +kernel
theorem dX12_undo_213 : decode cX12_undo 213 = .ok (.iaload, 1) := by decide +kernel
theorem dX12_undo_214 : decode cX12_undo 214 = .ok (.imul, 1) := by decide +kernel
theorem dX12_undo_215 : decode cX12_undo 215 = .ok (.aload_n 0, 1) := by decide +kernel
theorem dX12_undo_216 : decode cX12_undo 216 = .ok (.getfield 35, 3) := by decide +kernel
theorem dX12_undo_219 : decode cX12_undo 219 = .ok (.iload_n 3, 1) := by decide +kernel
theorem dX12_undo_220 : decode cX12_undo 220 = .ok (.iaload, 1) := by decide +kernel
theorem dX12_undo_221 : decode cX12_undo 221 = .ok (.iadd, 1) := by decide +kernel
theorem dX12_undo_222 : decode cX12_undo 222 = .ok (.istore 5, 2) := by decide +kernel
theorem dX12_undo_224 : decode cX12_undo 224 = .ok (.aload_n 0, 1) := by decide +kernel
theorem dX12_undo_225 : decode cX12_undo 225 = .ok (.getfield 74, 3) := by decide +kernel
theorem dX12_undo_228 : decode cX12_undo 228 = .ok (.iconst 5, 1) := by decide +kernel
theorem dX12_undo_229 : decode cX12_undo 229 = .ok (.iload 5, 2) := by decide +kernel
theorem dX12_undo_231 : decode cX12_undo 231 = .ok (.imul, 1) := by decide +kernel
theorem dX12_undo_232 : decode cX12_undo 232 = .ok (.aload_n 0, 1) := by decide +kernel
theorem dX12_undo_233 : decode cX12_undo 233 = .ok (.getfield 71, 3) := by decide +kernel
theorem dX12_undo_236 : decode cX12_undo 236 = .ok (.iload 5, 2) := by decide +kernel
theorem dX12_undo_238 : decode cX12_undo 238 = .ok (.iaload, 1) := by decide +kernel
theorem dX12_undo_239 : decode cX12_undo 239 = .ok (.iadd, 1) := by decide +kernel
theorem dX12_undo_240 : decode cX12_undo 240 = .ok (.iload_n 3, 1) := by decide +kernel
theorem dX12_undo_241 : decode cX12_undo 241 = .ok (.iastore, 1) := by decide +kernel
theorem dX12_undo_242 : decode cX12_undo 242 = .ok (.aload_n 0, 1) := by decide +kernel
theorem dX12_undo_243 : decode cX12_undo 243 = .ok (.getfield 71, 3) := by decide +kernel
theorem dX12_undo_246 : decode cX12_undo 246 = .ok (.iload 5, 2) := by decide +kernel
theorem dX12_undo_248 : decode cX12_undo 248 = .ok (.dup2, 1) := by decide +kernel
theorem dX12_undo_249 : decode cX12_undo 249 = .ok (.iaload, 1) := by decide +kernel
theorem dX12_undo_250 : decode cX12_undo 250 = .ok (.iconst 1, 1) := by decide +kernel
theorem dX12_undo_251 : decode cX12_undo 251 = .ok (.iadd, 1) := by decide +kernel
theorem dX12_undo_252 : decode cX12_undo 252 = .ok (.iastore, 1) := by decide +kernel
theorem dX12_undo_253 : decode cX12_undo 253 = .ok (.goto 35, 3) := by decide +kernel
theorem dX12_undo_256 : decode cX12_undo 256 = .ok (.aload_n 0, 1) := by decide +kernel
theorem dX12_undo_257 : decode cX12_undo 257 = .ok (.getfield 29, 3) := by decide +kernel
theorem dX12_undo_260 : decode cX12_undo 260 = .ok (.iload_n 3, 1) := by decide +kernel
theorem dX12_undo_261 : decode cX12_undo 261 = .ok (.iaload, 1) := by decide +kernel
theorem dX12_undo_262 : decode cX12_undo 262 = .ok (.iconst 3, 1) := by decide +kernel
theorem dX12_undo_263 : decode cX12_undo 263 = .ok (.if_icmp .ne 25, 3) := by decide +kernel
theorem dX12_undo_266 : decode cX12_undo 266 = .ok (.aload_n 0, 1) := by decide +kernel
theorem dX12_undo_267 : decode cX12_undo 267 = .ok (.getfield 113, 3) := by decide +kernel
theorem dX12_undo_270 : decode cX12_undo 270 = .ok (.bipush 54, 2) := by decide +kernel
theorem dX12_undo_272 : decode cX12_undo 272 = .ok (.aload_n 0, 1) := by decide +kernel
theorem dX12_undo_273 : decode cX12_undo 273 = .ok (.getfield 32, 3) := by decide +kernel
theorem dX12_undo_276 : decode cX12_undo 276 = .ok (.iload_n 3, 1) := by decide +kernel
theorem dX12_undo_277 : decode cX12_undo 277 = .ok (.iaload, 1) := by decide +kernel
theorem dX12_undo_278 : decode cX12_undo 278 = .ok (.imul, 1) := by decide +kernel
theorem dX12_undo_279 : decode cX12_undo 279 = .ok (.aload_n 0, 1) := by decide +kernel
theorem dX12_undo_280 : decode cX12_undo 280 = .ok (.getfield 35, 3) := by decide +kernel
theorem dX12_undo_283 : decode cX12_undo 283 = .ok (.iload_n 3, 1) := by decide +kernel
theorem dX12_undo_284 : decode cX12_undo 284 = .ok (.iaload, 1) := by decide +kernel
theorem dX12_undo_285 : decode cX12_undo 285 = .ok (.iadd, 1) := by decide +kernel
theorem dX12_undo_286 : decode cX12_undo 286 = .ok (.iload_n 3, 1) := by decide +kernel
theorem dX12_undo_287 : decode cX12_undo 287 = .ok (.iastore, 1) := by decide +kernel
theorem dX12_undo_288 : decode cX12_undo 288 = .ok (.iload_n 2, 1) := by decide +kernel
theorem dX12_undo_289 : decode cX12_undo 289 = .ok (.ifCond .lt 45, 3) := by decide +kernel
theorem dX12_undo_292 : decode cX12_undo 292 = .ok (.aload_n 0, 1) := by decide +kernel
theorem dX12_undo_293 : decode cX12_undo 293 = .ok (.getfield 86, 3) := by decide +kernel
theorem dX12_undo_296 : decode cX12_undo 296 = .ok (.iload_n 2, 1) := by decide +kernel
theorem dX12_undo_297 : decode cX12_undo 297 = .ok (.aload_n 0, 1) := by decide +kernel
theorem dX12_undo_298 : decode cX12_undo 298 = .ok (.getfield 137, 3) := by decide +kernel
theorem dX12_undo_301 : decode cX12_undo 301 = .ok (.iload_n 1, 1) := by decide +kernel
theorem dX12_undo_302 : decode cX12_undo 302 = .ok (.iconst 2, 1) := by decide +kernel
theorem dX12_undo_303 : decode cX12_undo 303 = .ok (.iadd, 1) := by decide +kernel
theorem dX12_undo_304 : decode cX12_undo 304 = .ok (.iaload, 1) := by decide +kernel
theorem dX12_undo_305 : decode cX12_undo 305 = .ok (.iastore, 1) := by decide +kernel
theorem dX12_undo_306 : decode cX12_undo 306 = .ok (.aload_n 0, 1) := by decide +kernel
theorem dX12_undo_307 : decode cX12_undo 307 = .ok (.getfield 89, 3) := by decide +kernel
theorem dX12_undo_310 : decode cX12_undo 310 = .ok (.iload_n 2, 1) := by decide +kernel
theorem dX12_undo_311 : decode cX12_undo 311 = .ok (.aload_n 0, 1) := by decide +kernel
theorem dX12_undo_312 : decode cX12_undo 312 = .ok (.getfield 137, 3) := by decide +kernel
theorem dX12_undo_315 : decode cX12_undo 315 = .ok (.iload_n 1, 1) := by decide +kernel
theorem dX12_undo_316 : decode cX12_undo 316 = .ok (.iconst 3, 1) := by decide +kernel
theorem dX12_undo_317 : decode cX12_undo 317 = .ok (.iadd, 1) := by decide +kernel
theorem dX12_undo_318 : decode cX12_undo 318 = .ok (.iaload, 1) := by decide +kernel
theorem dX12_undo_319 : decode cX12_undo 319 = .ok (.iastore, 1) := by decide +kernel
theorem dX12_undo_320 : decode cX12_undo 320 = .ok (.aload_n 0, 1) := by decide +kernel
theorem dX12_undo_321 : decode cX12_undo 321 = .ok (.getfield 92, 3) := by decide +kernel
theorem dX12_undo_324 : decode cX12_undo 324 = .ok (.iload_n 2, 1) := by decide +kernel
theorem dX12_undo_325 : decode cX12_undo 325 = .ok (.aload_n 0, 1) := by decide +kernel
theorem dX12_undo_326 : decode cX12_undo 326 = .ok (.getfield 137, 3) := by decide +kernel
theorem dX12_undo_329 : decode cX12_undo 329 = .ok (.iload_n 1, 1) := by decide +kernel
theorem dX12_undo_330 : decode cX12_undo 330 = .ok (.iconst 4, 1) := by decide +kernel
theorem dX12_undo_331 : decode cX12_undo 331 = .ok (.iadd, 1) := by decide +kernel
theorem dX12_undo_332 : decode cX12_undo 332 = .ok (.iaload, 1) := by decide +kernel
theorem dX12_undo_333 : decode cX12_undo 333 = .ok (.iastore, 1) := by decide +kernel
theorem dX12_undo_334 : decode cX12_undo 334 = .ok (.iload 4, 2) := by decide +kernel
theorem dX12_undo_336 : decode cX12_undo 336 = .ok (.ifCond .lt 35, 3) := by decide +kernel
theorem dX12_undo_339 : decode cX12_undo 339 = .ok (.aload_n 0, 1) := by decide +kernel
theorem dX12_undo_340 : decode cX12_undo 340 = .ok (.getfield 125, 3) := by decide +kernel
theorem dX12_undo_343 : decode cX12_undo 343 = .ok (.iload 4, 2) := by decide +kernel
theorem dX12_undo_345 : decode cX12_undo 345 = .ok (.aload_n 0, 1) := by decide +kernel
theorem dX12_undo_346 : decode cX12_undo 346 = .ok (.getfield 137, 3) := by decide +kernel
theorem dX12_undo_349 : decode cX12_undo 349 = .ok (.iload_n 1, 1) := by decide +kernel
theorem dX12_undo_350 : decode cX12_undo 350 = .ok (.bipush 12, 2) := by decide +kernel
theorem dX12_undo_352 : decode cX12_undo 352 = .ok (.iadd, 1) := by decide +kernel
theorem dX12_undo_353 : decode cX12_undo 353 = .ok (.iaload, 1) := by decide +kernel
theorem dX12_undo_354 : decode cX12_undo 354 = .ok (.iastore, 1) := by decide +kernel
theorem dX12_undo_355 : decode cX12_undo 355 = .ok (.aload_n 0, 1) := by decide +kernel
theorem dX12_undo_356 : decode cX12_undo 356 = .ok (.getfield 128, 3) := by decide +kernel
theorem dX12_undo_359 : decode cX12_undo 359 = .ok (.iload 4, 2) := by decide +kernel
theorem dX12_undo_361 : decode cX12_undo 361 = .ok (.aload_n 0, 1) := by decide +kernel
theorem dX12_undo_362 : decode cX12_undo 362 = .ok (.getfield 137, 3) := by decide +kernel
theorem dX12_undo_365 : decode cX12_undo 365 = .ok (.iload_n 1, 1) := by decide +kernel
theorem dX12_undo_366 : decode cX12_undo 366 = .ok (.bipush 13, 2) := by decide +kernel
theorem dX12_undo_368 : decode cX12_undo 368 = .ok (.iadd, 1) := by decide +kernel
theorem dX12_undo_369 : decode cX12_undo 369 = .ok (.iaload, 1) := by decide +kernel
theorem dX12_undo_370 : decode cX12_undo 370 = .ok (.iastore, 1) := by decide +kernel
theorem dX12_undo_371 : decode cX12_undo 371 = .ok (.aload_n 0, 1) := by decide +kernel
theorem dX12_undo_372 : decode cX12_undo 372 = .ok (.getfield 137, 3) := by decide +kernel
theorem dX12_undo_375 : decode cX12_undo 375 = .ok (.iload_n 1, 1) := by decide +kernel
theorem dX12_undo_376 : decode cX12_undo 376 = .ok (.iaload, 1) := by decide +kernel
theorem dX12_undo_377 : decode cX12_undo 377 = .ok (.ireturn, 1) := by decide +kernel
def M_X12_undo : y_M := (yX12_undo, cX12_undo, 6, (Option.some Jvm.ClassFile.FieldType.int))
theorem n_X12_undo : y_N0 M_X12_undo 0 := ⟨(c_10 146 (by decide +kernel) rfl), (c_1 9 (by decide +kernel) rfl), ⟨by decide +kernel, by decide +kernel⟩, by decide +kernel⟩
set_option maxRecDepth 100000 in
def f_X12_undo (p0 : Nat) (h : y_H) : Option (Int32 × y_H) :=
  if y_K h p0 = 13 then
  if (y_I h p0 50) = 0 then
    some ((-3 : Int32), h)
  else
    if y_K h p0 = 13 then
    if y_K h p0 = 13 then
    y_bd (s_I h p0 50 ((y_I h p0 50) - 1)) (fun h1 =>
    if y_K h1 p0 = 13 then
    if y_K h1 p0 = 13 then
    if y_K h1 (y_P h1 p0 51) = 100 ∧ y_ix ((14 * (y_I h1 p0 50)) + 1) (y_N h1 (y_P h1 p0 51)) = true then
    if y_K h1 p0 = 13 then
    if y_K h1 (y_P h1 p0 51) = 100 ∧ y_ix ((14 * (y_I h1 p0 50)) + 5) (y_N h1 (y_P h1 p0 51)) = true then
    if y_K h1 p0 = 13 then
    if y_K h1 (y_P h1 p0 51) = 100 ∧ y_ix ((14 * (y_I h1 p0 50)) + 11) (y_N h1 (y_P h1 p0 51)) = true then
    y_jn (fun (v0_288 : Nat) (v1_288 : Int32) (v2_288 : Int32) (v4_288 : Int32) (h4 : y_H) => (
        y_jn (fun (v0_334 : Nat) (v1_334 : Int32) (v4_334 : Int32) (h5 : y_H) => (
            y_jn (fun (v0_371 : Nat) (v1_371 : Int32) (h6 : y_H) => (
                if y_K h6 v0_371 = 13 then
                if y_K h6 (y_P h6 v0_371 51) = 100 ∧ y_ix v1_371 (y_N h6 (y_P h6 v0_371 51)) = true then
                some (y_I h6 (y_P h6 v0_371 51) (Int32.toNatClampNeg v1_371), h6)
                else none
                else none : Option (Int32 × y_H))) (fun j371 =>
            if v4_334 < 0 then
              j371 v0_334 v1_334 h5
            else
              if y_K h5 v0_334 = 13 then
              if y_K h5 v0_334 = 13 then
              if y_K h5 (y_P h5 v0_334 51) = 100 ∧ y_ix (v1_334 + 12) (y_N h5 (y_P h5 v0_334 51)) = true then
              if y_K h5 (y_P h5 v0_334 43) = 100 ∧ y_ix v4_334 (y_N h5 (y_P h5 v0_334 43)) = true then
              y_bd (s_I h5 (y_P h5 v0_334 43) (Int32.toNatClampNeg v4_334) (y_I h5 (y_P h5 v0_334 51) (Int32.toNatClampNeg (v1_334 + 12)))) (fun h9 =>
              if y_K h9 v0_334 = 13 then
              if y_K h9 v0_334 = 13 then
              if y_K h9 (y_P h9 v0_334 51) = 100 ∧ y_ix (v1_334 + 13) (y_N h9 (y_P h9 v0_334 51)) = true then
              if y_K h9 (y_P h9 v0_334 44) = 100 ∧ y_ix v4_334 (y_N h9 (y_P h9 v0_334 44)) = true then
              y_bd (s_I h9 (y_P h9 v0_334 44) (Int32.toNatClampNeg v4_334) (y_I h9 (y_P h9 v0_334 51) (Int32.toNatClampNeg (v1_334 + 13)))) (fun h12 =>
              j371 v0_334 v1_334 h12)
              else none
              else none
              else none
              else none)
              else none
              else none
              else none
              else none) : Option (Int32 × y_H))) (fun j334 =>
        if v2_288 < 0 then
          j334 v0_288 v1_288 v4_288 h4
        else
          if y_K h4 v0_288 = 13 then
          if y_K h4 v0_288 = 13 then
          if y_K h4 (y_P h4 v0_288 51) = 100 ∧ y_ix (v1_288 + 2) (y_N h4 (y_P h4 v0_288 51)) = true then
          if y_K h4 (y_P h4 v0_288 28) = 100 ∧ y_ix v2_288 (y_N h4 (y_P h4 v0_288 28)) = true then
          y_bd (s_I h4 (y_P h4 v0_288 28) (Int32.toNatClampNeg v2_288) (y_I h4 (y_P h4 v0_288 51) (Int32.toNatClampNeg (v1_288 + 2)))) (fun h22 =>
          if y_K h22 v0_288 = 13 then
          if y_K h22 v0_288 = 13 then
          if y_K h22 (y_P h22 v0_288 51) = 100 ∧ y_ix (v1_288 + 3) (y_N h22 (y_P h22 v0_288 51)) = true then
          if y_K h22 (y_P h22 v0_288 29) = 100 ∧ y_ix v2_288 (y_N h22 (y_P h22 v0_288 29)) = true then
          y_bd (s_I h22 (y_P h22 v0_288 29) (Int32.toNatClampNeg v2_288) (y_I h22 (y_P h22 v0_288 51) (Int32.toNatClampNeg (v1_288 + 3)))) (fun h25 =>
          if y_K h25 v0_288 = 13 then
          if y_K h25 v0_288 = 13 then
          if y_K h25 (y_P h25 v0_288 51) = 100 ∧ y_ix (v1_288 + 4) (y_N h25 (y_P h25 v0_288 51)) = true then
          if y_K h25 (y_P h25 v0_288 30) = 100 ∧ y_ix v2_288 (y_N h25 (y_P h25 v0_288 30)) = true then
          y_bd (s_I h25 (y_P h25 v0_288 30) (Int32.toNatClampNeg v2_288) (y_I h25 (y_P h25 v0_288 51) (Int32.toNatClampNeg (v1_288 + 4)))) (fun h28 =>
          j334 v0_288 v1_288 v4_288 h28)
          else none
          else none
          else none
          else none)
          else none
          else none
          else none
          else none)
          else none
          else none
          else none
          else none) : Option (Int32 × y_H))) (fun j288 =>
    if (y_I h1 (y_P h1 p0 51) (Int32.toNatClampNeg ((14 * (y_I h1 p0 50)) + 5))) < 0 then
      j288 p0 (14 * (y_I h1 p0 50)) (y_I h1 (y_P h1 p0 51) (Int32.toNatClampNeg ((14 * (y_I h1 p0 50)) + 1))) (y_I h1 (y_P h1 p0 51) (Int32.toNatClampNeg ((14 * (y_I h1 p0 50)) + 11))) h1
    else
      if y_K h1 p0 = 13 then
      if y_K h1 (y_P h1 p0 7) = 100 ∧ y_ix (y_I h1 (y_P h1 p0 51) (Int32.toNatClampNeg ((14 * (y_I h1 p0 50)) + 5))) (y_N h1 (y_P h1 p0 7)) = true then
      y_jn (fun (v0_131 : Nat) (v1_131 : Int32) (v2_131 : Int32) (v3_131 : Int32) (v4_131 : Int32) (h41 : y_H) => (
          if y_K h41 v0_131 = 13 then
          if y_K h41 (y_P h41 v0_131 51) = 100 ∧ y_ix (v1_131 + 6) (y_N h41 (y_P h41 v0_131 51)) = true then
          if y_K h41 v0_131 = 13 then
          if y_K h41 (y_P h41 v0_131 51) = 100 ∧ y_ix (v1_131 + 7) (y_N h41 (y_P h41 v0_131 51)) = true then
          if y_K h41 v0_131 = 13 then
          if y_K h41 (y_P h41 v0_131 51) = 100 ∧ y_ix (v1_131 + 8) (y_N h41 (y_P h41 v0_131 51)) = true then
          if y_K h41 v0_131 = 13 then
          if y_K h41 (y_P h41 v0_131 51) = 100 ∧ y_ix (v1_131 + 9) (y_N h41 (y_P h41 v0_131 51)) = true then
          if y_K h41 v0_131 = 13 then
          y_cl (f_X12_put v0_131 v3_131 (y_I h41 (y_P h41 v0_131 51) (Int32.toNatClampNeg (v1_131 + 6))) (y_I h41 (y_P h41 v0_131 51) (Int32.toNatClampNeg (v1_131 + 7))) (y_I h41 (y_P h41 v0_131 51) (Int32.toNatClampNeg (v1_131 + 8))) (y_I h41 (y_P h41 v0_131 51) (Int32.toNatClampNeg (v1_131 + 9))) h41) (fun _ h42 =>
          if y_K h42 v0_131 = 13 then
          if y_K h42 v0_131 = 13 then
          if y_K h42 (y_P h42 v0_131 51) = 100 ∧ y_ix (v1_131 + 10) (y_N h42 (y_P h42 v0_131 51)) = true then
          if (y_I h42 (y_P h42 v0_131 51) (Int32.toNatClampNeg (v1_131 + 10))) = 1 then
            if y_K h42 (y_P h42 v0_131 6) = 102 ∧ y_ix v3_131 (y_N h42 (y_P h42 v0_131 6)) = true then
            y_bd (s_B h42 (y_P h42 v0_131 6) (Int32.toNatClampNeg v3_131) true) (fun h76 =>
            if y_K h76 v0_131 = 13 then
            if y_K h76 (y_P h76 v0_131 7) = 100 ∧ y_ix v3_131 (y_N h76 (y_P h76 v0_131 7)) = true then
            if (y_I h76 (y_P h76 v0_131 7) (Int32.toNatClampNeg v3_131)) = 1 then
              if y_K h76 v0_131 = 13 then
              if y_K h76 (y_P h76 v0_131 8) = 100 ∧ y_ix v3_131 (y_N h76 (y_P h76 v0_131 8)) = true then
              if y_K h76 v0_131 = 13 then
              if y_K h76 (y_P h76 v0_131 9) = 100 ∧ y_ix v3_131 (y_N h76 (y_P h76 v0_131 9)) = true then
              if y_K h76 v0_131 = 13 then
              if y_K h76 v0_131 = 13 then
              if y_K h76 (y_P h76 v0_131 22) = 100 ∧ y_ix ((6 * (y_I h76 (y_P h76 v0_131 8) (Int32.toNatClampNeg v3_131))) + (y_I h76 (y_P h76 v0_131 9) (Int32.toNatClampNeg v3_131))) (y_N h76 (y_P h76 v0_131 22)) = true then
              if y_K h76 (y_P h76 v0_131 23) = 100 ∧ y_ix ((5 * ((6 * (y_I h76 (y_P h76 v0_131 8) (Int32.toNatClampNeg v3_131))) + (y_I h76 (y_P h76 v0_131 9) (Int32.toNatClampNeg v3_131)))) + (y_I h76 (y_P h76 v0_131 22) (Int32.toNatClampNeg ((6 * (y_I h76 (y_P h76 v0_131 8) (Int32.toNatClampNeg v3_131))) + (y_I h76 (y_P h76 v0_131 9) (Int32.toNatClampNeg v3_131)))))) (y_N h76 (y_P h76 v0_131 23)) = true then
              y_bd (s_I h76 (y_P h76 v0_131 23) (Int32.toNatClampNeg ((5 * ((6 * (y_I h76 (y_P h76 v0_131 8) (Int32.toNatClampNeg v3_131))) + (y_I h76 (y_P h76 v0_131 9) (Int32.toNatClampNeg v3_131)))) + (y_I h76 (y_P h76 v0_131 22) (Int32.toNatClampNeg ((6 * (y_I h76 (y_P h76 v0_131 8) (Int32.toNatClampNeg v3_131))) + (y_I h76 (y_P h76 v0_131 9) (Int32.toNatClampNeg v3_131))))))) v3_131) (fun h90 =>
              if y_K h90 v0_131 = 13 then
              if y_K h90 (y_P h90 v0_131 22) = 100 ∧ y_ix ((6 * (y_I h76 (y_P h76 v0_131 8) (Int32.toNatClampNeg v3_131))) + (y_I h76 (y_P h76 v0_131 9) (Int32.toNatClampNeg v3_131))) (y_N h90 (y_P h90 v0_131 22)) = true then
              if y_K h90 (y_P h90 v0_131 22) = 100 ∧ y_ix ((6 * (y_I h76 (y_P h76 v0_131 8) (Int32.toNatClampNeg v3_131))) + (y_I h76 (y_P h76 v0_131 9) (Int32.toNatClampNeg v3_131))) (y_N h90 (y_P h90 v0_131 22)) = true then
              y_bd (s_I h90 (y_P h90 v0_131 22) (Int32.toNatClampNeg ((6 * (y_I h76 (y_P h76 v0_131 8) (Int32.toNatClampNeg v3_131))) + (y_I h76 (y_P h76 v0_131 9) (Int32.toNatClampNeg v3_131)))) ((y_I h90 (y_P h90 v0_131 22) (Int32.toNatClampNeg ((6 * (y_I h76 (y_P h76 v0_131 8) (Int32.toNatClampNeg v3_131))) + (y_I h76 (y_P h76 v0_131 9) (Int32.toNatClampNeg v3_131))))) + 1)) (fun h93 =>
              j288 v0_131 v1_131 v2_131 v4_131 h93)
              else none
              else none
              else none)
              else none
              else none
              else none
              else none
              else none
              else none
              else none
              else none
            else
              if y_K h76 v0_131 = 13 then
              if y_K h76 (y_P h76 v0_131 7) = 100 ∧ y_ix v3_131 (y_N h76 (y_P h76 v0_131 7)) = true then
              if (y_I h76 (y_P h76 v0_131 7) (Int32.toNatClampNeg v3_131)) = 3 then
                if y_K h76 v0_131 = 13 then
                if y_K h76 v0_131 = 13 then
                if y_K h76 (y_P h76 v0_131 8) = 100 ∧ y_ix v3_131 (y_N h76 (y_P h76 v0_131 8)) = true then
                if y_K h76 v0_131 = 13 then
                if y_K h76 (y_P h76 v0_131 9) = 100 ∧ y_ix v3_131 (y_N h76 (y_P h76 v0_131 9)) = true then
                if y_K h76 (y_P h76 v0_131 39) = 100 ∧ y_ix ((54 * (y_I h76 (y_P h76 v0_131 8) (Int32.toNatClampNeg v3_131))) + (y_I h76 (y_P h76 v0_131 9) (Int32.toNatClampNeg v3_131))) (y_N h76 (y_P h76 v0_131 39)) = true then
                y_bd (s_I h76 (y_P h76 v0_131 39) (Int32.toNatClampNeg ((54 * (y_I h76 (y_P h76 v0_131 8) (Int32.toNatClampNeg v3_131))) + (y_I h76 (y_P h76 v0_131 9) (Int32.toNatClampNeg v3_131)))) v3_131) (fun h79 =>
                j288 v0_131 v1_131 v2_131 v4_131 h79)
                else none
                else none
                else none
                else none
                else none
                else none
              else
                j288 v0_131 v1_131 v2_131 v4_131 h76
              else none
              else none
            else none
            else none)
            else none
          else
            if y_K h42 (y_P h42 v0_131 6) = 102 ∧ y_ix v3_131 (y_N h42 (y_P h42 v0_131 6)) = true then
            y_bd (s_B h42 (y_P h42 v0_131 6) (Int32.toNatClampNeg v3_131) false) (fun h44 =>
            if y_K h44 v0_131 = 13 then
            if y_K h44 (y_P h44 v0_131 7) = 100 ∧ y_ix v3_131 (y_N h44 (y_P h44 v0_131 7)) = true then
            if (y_I h44 (y_P h44 v0_131 7) (Int32.toNatClampNeg v3_131)) = 1 then
              if y_K h44 v0_131 = 13 then
              if y_K h44 (y_P h44 v0_131 8) = 100 ∧ y_ix v3_131 (y_N h44 (y_P h44 v0_131 8)) = true then
              if y_K h44 v0_131 = 13 then
              if y_K h44 (y_P h44 v0_131 9) = 100 ∧ y_ix v3_131 (y_N h44 (y_P h44 v0_131 9)) = true then
              if y_K h44 v0_131 = 13 then
              if y_K h44 v0_131 = 13 then
              if y_K h44 (y_P h44 v0_131 22) = 100 ∧ y_ix ((6 * (y_I h44 (y_P h44 v0_131 8) (Int32.toNatClampNeg v3_131))) + (y_I h44 (y_P h44 v0_131 9) (Int32.toNatClampNeg v3_131))) (y_N h44 (y_P h44 v0_131 22)) = true then
              if y_K h44 (y_P h44 v0_131 23) = 100 ∧ y_ix ((5 * ((6 * (y_I h44 (y_P h44 v0_131 8) (Int32.toNatClampNeg v3_131))) + (y_I h44 (y_P h44 v0_131 9) (Int32.toNatClampNeg v3_131)))) + (y_I h44 (y_P h44 v0_131 22) (Int32.toNatClampNeg ((6 * (y_I h44 (y_P h44 v0_131 8) (Int32.toNatClampNeg v3_131))) + (y_I h44 (y_P h44 v0_131 9) (Int32.toNatClampNeg v3_131)))))) (y_N h44 (y_P h44 v0_131 23)) = true then
              y_bd (s_I h44 (y_P h44 v0_131 23) (Int32.toNatClampNeg ((5 * ((6 * (y_I h44 (y_P h44 v0_131 8) (Int32.toNatClampNeg v3_131))) + (y_I h44 (y_P h44 v0_131 9) (Int32.toNatClampNeg v3_131)))) + (y_I h44 (y_P h44 v0_131 22) (Int32.toNatClampNeg ((6 * (y_I h44 (y_P h44 v0_131 8) (Int32.toNatClampNeg v3_131))) + (y_I h44 (y_P h44 v0_131 9) (Int32.toNatClampNeg v3_131))))))) v3_131) (fun h58 =>
              if y_K h58 v0_131 = 13 then
              if y_K h58 (y_P h58 v0_131 22) = 100 ∧ y_ix ((6 * (y_I h44 (y_P h44 v0_131 8) (Int32.toNatClampNeg v3_131))) + (y_I h44 (y_P h44 v0_131 9) (Int32.toNatClampNeg v3_131))) (y_N h58 (y_P h58 v0_131 22)) = true then
              if y_K h58 (y_P h58 v0_131 22) = 100 ∧ y_ix ((6 * (y_I h44 (y_P h44 v0_131 8) (Int32.toNatClampNeg v3_131))) + (y_I h44 (y_P h44 v0_131 9) (Int32.toNatClampNeg v3_131))) (y_N h58 (y_P h58 v0_131 22)) = true then
              y_bd (s_I h58 (y_P h58 v0_131 22) (Int32.toNatClampNeg ((6 * (y_I h44 (y_P h44 v0_131 8) (Int32.toNatClampNeg v3_131))) + (y_I h44 (y_P h44 v0_131 9) (Int32.toNatClampNeg v3_131)))) ((y_I h58 (y_P h58 v0_131 22) (Int32.toNatClampNeg ((6 * (y_I h44 (y_P h44 v0_131 8) (Int32.toNatClampNeg v3_131))) + (y_I h44 (y_P h44 v0_131 9) (Int32.toNatClampNeg v3_131))))) + 1)) (fun h61 =>
              j288 v0_131 v1_131 v2_131 v4_131 h61)
              else none
              else none
              else none)
              else none
              else none
              else none
              else none
              else none
              else none
              else none
              else none
            else
              if y_K h44 v0_131 = 13 then
              if y_K h44 (y_P h44 v0_131 7) = 100 ∧ y_ix v3_131 (y_N h44 (y_P h44 v0_131 7)) = true then
              if (y_I h44 (y_P h44 v0_131 7) (Int32.toNatClampNeg v3_131)) = 3 then
                if y_K h44 v0_131 = 13 then
                if y_K h44 v0_131 = 13 then
                if y_K h44 (y_P h44 v0_131 8) = 100 ∧ y_ix v3_131 (y_N h44 (y_P h44 v0_131 8)) = true then
                if y_K h44 v0_131 = 13 then
                if y_K h44 (y_P h44 v0_131 9) = 100 ∧ y_ix v3_131 (y_N h44 (y_P h44 v0_131 9)) = true then
                if y_K h44 (y_P h44 v0_131 39) = 100 ∧ y_ix ((54 * (y_I h44 (y_P h44 v0_131 8) (Int32.toNatClampNeg v3_131))) + (y_I h44 (y_P h44 v0_131 9) (Int32.toNatClampNeg v3_131))) (y_N h44 (y_P h44 v0_131 39)) = true then
                y_bd (s_I h44 (y_P h44 v0_131 39) (Int32.toNatClampNeg ((54 * (y_I h44 (y_P h44 v0_131 8) (Int32.toNatClampNeg v3_131))) + (y_I h44 (y_P h44 v0_131 9) (Int32.toNatClampNeg v3_131)))) v3_131) (fun h47 =>
                j288 v0_131 v1_131 v2_131 v4_131 h47)
                else none
                else none
                else none
                else none
                else none
                else none
              else
                j288 v0_131 v1_131 v2_131 v4_131 h44
              else none
              else none
            else none
            else none)
            else none
          else none
          else none
          else none)
          else none
          else none
          else none
          else none
          else none
          else none
          else none
          else none
          else none : Option (Int32 × y_H))) (fun j131 =>
      if (y_I h1 (y_P h1 p0 7) (Int32.toNatClampNeg (y_I h1 (y_P h1 p0 51) (Int32.toNatClampNeg ((14 * (y_I h1 p0 50)) + 5))))) = 1 then
        if y_K h1 p0 = 13 then
        if y_K h1 p0 = 13 then
        if y_K h1 (y_P h1 p0 8) = 100 ∧ y_ix (y_I h1 (y_P h1 p0 51) (Int32.toNatClampNeg ((14 * (y_I h1 p0 50)) + 5))) (y_N h1 (y_P h1 p0 8)) = true then
        if y_K h1 p0 = 13 then
        if y_K h1 (y_P h1 p0 9) = 100 ∧ y_ix (y_I h1 (y_P h1 p0 51) (Int32.toNatClampNeg ((14 * (y_I h1 p0 50)) + 5))) (y_N h1 (y_P h1 p0 9)) = true then
        if y_K h1 (y_P h1 p0 22) = 100 ∧ y_ix ((6 * (y_I h1 (y_P h1 p0 8) (Int32.toNatClampNeg (y_I h1 (y_P h1 p0 51) (Int32.toNatClampNeg ((14 * (y_I h1 p0 50)) + 5)))))) + (y_I h1 (y_P h1 p0 9) (Int32.toNatClampNeg (y_I h1 (y_P h1 p0 51) (Int32.toNatClampNeg ((14 * (y_I h1 p0 50)) + 5)))))) (y_N h1 (y_P h1 p0 22)) = true then
        if y_K h1 (y_P h1 p0 22) = 100 ∧ y_ix ((6 * (y_I h1 (y_P h1 p0 8) (Int32.toNatClampNeg (y_I h1 (y_P h1 p0 51) (Int32.toNatClampNeg ((14 * (y_I h1 p0 50)) + 5)))))) + (y_I h1 (y_P h1 p0 9) (Int32.toNatClampNeg (y_I h1 (y_P h1 p0 51) (Int32.toNatClampNeg ((14 * (y_I h1 p0 50)) + 5)))))) (y_N h1 (y_P h1 p0 22)) = true then
        y_bd (s_I h1 (y_P h1 p0 22) (Int32.toNatClampNeg ((6 * (y_I h1 (y_P h1 p0 8) (Int32.toNatClampNeg (y_I h1 (y_P h1 p0 51) (Int32.toNatClampNeg ((14 * (y_I h1 p0 50)) + 5)))))) + (y_I h1 (y_P h1 p0 9) (Int32.toNatClampNeg (y_I h1 (y_P h1 p0 51) (Int32.toNatClampNeg ((14 * (y_I h1 p0 50)) + 5))))))) ((y_I h1 (y_P h1 p0 22) (Int32.toNatClampNeg ((6 * (y_I h1 (y_P h1 p0 8) (Int32.toNatClampNeg (y_I h1 (y_P h1 p0 51) (Int32.toNatClampNeg ((14 * (y_I h1 p0 50)) + 5)))))) + (y_I h1 (y_P h1 p0 9) (Int32.toNatClampNeg (y_I h1 (y_P h1 p0 51) (Int32.toNatClampNeg ((14 * (y_I h1 p0 50)) + 5)))))))) - 1)) (fun h132 =>
        j131 p0 (14 * (y_I h1 p0 50)) (y_I h1 (y_P h1 p0 51) (Int32.toNatClampNeg ((14 * (y_I h1 p0 50)) + 1))) (y_I h1 (y_P h1 p0 51) (Int32.toNatClampNeg ((14 * (y_I h1 p0 50)) + 5))) (y_I h1 (y_P h1 p0 51) (Int32.toNatClampNeg ((14 * (y_I h1 p0 50)) + 11))) h132)
        else none
        else none
        else none
        else none
        else none
        else none
        else none
      else
        if y_K h1 p0 = 13 then
        if y_K h1 (y_P h1 p0 7) = 100 ∧ y_ix (y_I h1 (y_P h1 p0 51) (Int32.toNatClampNeg ((14 * (y_I h1 p0 50)) + 5))) (y_N h1 (y_P h1 p0 7)) = true then
        if (y_I h1 (y_P h1 p0 7) (Int32.toNatClampNeg (y_I h1 (y_P h1 p0 51) (Int32.toNatClampNeg ((14 * (y_I h1 p0 50)) + 5))))) = 3 then
          if y_K h1 p0 = 13 then
          if y_K h1 p0 = 13 then
          if y_K h1 (y_P h1 p0 8) = 100 ∧ y_ix (y_I h1 (y_P h1 p0 51) (Int32.toNatClampNeg ((14 * (y_I h1 p0 50)) + 5))) (y_N h1 (y_P h1 p0 8)) = true then
          if y_K h1 p0 = 13 then
          if y_K h1 (y_P h1 p0 9) = 100 ∧ y_ix (y_I h1 (y_P h1 p0 51) (Int32.toNatClampNeg ((14 * (y_I h1 p0 50)) + 5))) (y_N h1 (y_P h1 p0 9)) = true then
          if y_K h1 (y_P h1 p0 39) = 100 ∧ y_ix ((54 * (y_I h1 (y_P h1 p0 8) (Int32.toNatClampNeg (y_I h1 (y_P h1 p0 51) (Int32.toNatClampNeg ((14 * (y_I h1 p0 50)) + 5)))))) + (y_I h1 (y_P h1 p0 9) (Int32.toNatClampNeg (y_I h1 (y_P h1 p0 51) (Int32.toNatClampNeg ((14 * (y_I h1 p0 50)) + 5)))))) (y_N h1 (y_P h1 p0 39)) = true then
          y_bd (s_I h1 (y_P h1 p0 39) (Int32.toNatClampNeg ((54 * (y_I h1 (y_P h1 p0 8) (Int32.toNatClampNeg (y_I h1 (y_P h1 p0 51) (Int32.toNatClampNeg ((14 * (y_I h1 p0 50)) + 5)))))) + (y_I h1 (y_P h1 p0 9) (Int32.toNatClampNeg (y_I h1 (y_P h1 p0 51) (Int32.toNatClampNeg ((14 * (y_I h1 p0 50)) + 5))))))) (-1 : Int32)) (fun h121 =>
          j131 p0 (14 * (y_I h1 p0 50)) (y_I h1 (y_P h1 p0 51) (Int32.toNatClampNeg ((14 * (y_I h1 p0 50)) + 1))) (y_I h1 (y_P h1 p0 51) (Int32.toNatClampNeg ((14 * (y_I h1 p0 50)) + 5))) (y_I h1 (y_P h1 p0 51) (Int32.toNatClampNeg ((14 * (y_I h1 p0 50)) + 11))) h121)
          else none
          else none
          else none
          else none
          else none
          else none
        else
          j131 p0 (14 * (y_I h1 p0 50)) (y_I h1 (y_P h1 p0 51) (Int32.toNatClampNeg ((14 * (y_I h1 p0 50)) + 1))) (y_I h1 (y_P h1 p0 51) (Int32.toNatClampNeg ((14 * (y_I h1 p0 50)) + 5))) (y_I h1 (y_P h1 p0 51) (Int32.toNatClampNeg ((14 * (y_I h1 p0 50)) + 11))) h1
        else none
        else none)
      else none
      else none)
    else none
    else none
    else none
    else none
    else none
    else none
    else none)
    else none
    else none
  else none
abbrev rm_X12_undo : Room := { frames := 1, cells := 0, slots := 0, locals := 25 }
set_option maxRecDepth 100000 in
set_option maxHeartbeats 4000000 in
theorem k_X12_undo {l : Launch} {G : y_G} {p0 : Nat} {h hz : y_H} {rz : Int32} (hf : f_X12_undo p0 h = some (rz, hz)) : y_S l G M_X12_undo rm_X12_undo [y_p p0] h (some (.int rz)) hz := by
  refine y_start (lv := [(0, y_p p0)]) (by decide) (by simp [lg_sl, y_p_cat, y_ci, y_cj, M_X12_undo]) (by simp [lv_args, y_p_cat, y_ci, y_cj]) (fun z ad0 => ?_)
  unfold f_X12_undo at hf
  refine y_aload_n (x := p0) (pc2 := 1) rfl dX12_undo_0 rfl ?_
  obtain ⟨g154, hf⟩ := y_g hf
  refine y_getI (pc2 := 4) rfl dX12_undo_1 F_BoxYardModel_255 (by decide) rfl g154 ?_
  refine y_if_ne (tgt := 10) (pc2 := 7) rfl dX12_undo_4 (by decide) (fun c153 => ?_) (fun c153 => ?_)
  · replace hf := y_ie c153 hf
    refine y_aload_n (x := p0) (pc2 := 11) rfl dX12_undo_10 rfl ?_
    refine y_dup (pc2 := 12) rfl dX12_undo_11 (y_p_cat _) ?_
    obtain ⟨g152, hf⟩ := y_g hf
    refine y_getI (pc2 := 15) rfl dX12_undo_12 F_BoxYardModel_255 (by decide) rfl g152 ?_
    refine y_iconst (v := 1) (pc2 := 16) rfl dX12_undo_15 (by decide) ?_
    refine y_isub (pc2 := 17) rfl dX12_undo_16 ?_
    obtain ⟨g3, hf⟩ := y_g hf
    obtain ⟨h1, e2, hf⟩ := y_bdE hf
    refine y_putI (x := (y_I h p0 50) - 1) (pc2 := 20) rfl dX12_undo_17 Fp_BoxYardModel_255 (by decide) rfl g3 e2 ?_
    refine y_bipush (v := 14) (pc2 := 22) rfl dX12_undo_20 (by decide) ?_
    refine y_aload_n (x := p0) (pc2 := 23) rfl dX12_undo_22 rfl ?_
    obtain ⟨g151, hf⟩ := y_g hf
    refine y_getI (pc2 := 26) rfl dX12_undo_23 F_BoxYardModel_255 (by decide) rfl g151 ?_
    refine y_imul (pc2 := 27) rfl dX12_undo_26 ?_
    refine y_istore_n (lv' := [(1, .int (14 * (y_I h1 p0 50))), (0, y_p p0)]) (pc2 := 28) rfl dX12_undo_27 (by decide) (by show y_st1 _ 1 _ = _; simp [y_st1, y_p_cat, y_ci, y_cj]) ?_
    refine y_aload_n (x := p0) (pc2 := 29) rfl dX12_undo_28 rfl ?_
    obtain ⟨g150, hf⟩ := y_g hf
    refine y_getP (pc2 := 32) rfl dX12_undo_29 F_BoxYardModel_137 (by decide) rfl g150 ?_
    refine y_iload_n (pc2 := 33) rfl dX12_undo_32 rfl ?_
    refine y_iconst (v := 1) (pc2 := 34) rfl dX12_undo_33 (by decide) ?_
    refine y_iadd (pc2 := 35) rfl dX12_undo_34 ?_
    obtain ⟨g149, hf⟩ := y_g hf
    refine y_iald (pc2 := 36) rfl dX12_undo_35 g149.1 (y_ix_in g149.2) ?_
    refine y_istore_n (lv' := [(2, .int (y_I h1 (y_P h1 p0 51) (Int32.toNatClampNeg ((14 * (y_I h1 p0 50)) + 1)))), (1, .int (14 * (y_I h1 p0 50))), (0, y_p p0)]) (pc2 := 37) rfl dX12_undo_36 (by decide) rfl ?_
    refine y_aload_n (x := p0) (pc2 := 38) rfl dX12_undo_37 rfl ?_
    obtain ⟨g148, hf⟩ := y_g hf
    refine y_getP (pc2 := 41) rfl dX12_undo_38 F_BoxYardModel_137 (by decide) rfl g148 ?_
    refine y_iload_n (pc2 := 42) rfl dX12_undo_41 rfl ?_
    refine y_iconst (v := 5) (pc2 := 43) rfl dX12_undo_42 (by decide) ?_
    refine y_iadd (pc2 := 44) rfl dX12_undo_43 ?_
    obtain ⟨g147, hf⟩ := y_g hf
    refine y_iald (pc2 := 45) rfl dX12_undo_44 g147.1 (y_ix_in g147.2) ?_
    refine y_istore_n (lv' := [(3, .int (y_I h1 (y_P h1 p0 51) (Int32.toNatClampNeg ((14 * (y_I h1 p0 50)) + 5)))), (2, .int (y_I h1 (y_P h1 p0 51) (Int32.toNatClampNeg ((14 * (y_I h1 p0 50)) + 1)))), (1, .int (14 * (y_I h1 p0 50))), (0, y_p p0)]) (pc2 := 46) rfl dX12_undo_45 (by decide) rfl ?_
    refine y_aload_n (x := p0) (pc2 := 47) rfl dX12_undo_46 rfl ?_
    obtain ⟨g146, hf⟩ := y_g hf
    refine y_getP (pc2 := 50) rfl dX12_undo_47 F_BoxYardModel_137 (by decide) rfl g146 ?_
    refine y_iload_n (pc2 := 51) rfl dX12_undo_50 rfl ?_
    refine y_bipush (v := 11) (pc2 := 53) rfl dX12_undo_51 (by decide) ?_
    refine y_iadd (pc2 := 54) rfl dX12_undo_53 ?_
    obtain ⟨g145, hf⟩ := y_g hf
    refine y_iald (pc2 := 55) rfl dX12_undo_54 g145.1 (y_ix_in g145.2) ?_
    refine y_istore (lv' := [(4, .int (y_I h1 (y_P h1 p0 51) (Int32.toNatClampNeg ((14 * (y_I h1 p0 50)) + 11)))), (3, .int (y_I h1 (y_P h1 p0 51) (Int32.toNatClampNeg ((14 * (y_I h1 p0 50)) + 5)))), (2, .int (y_I h1 (y_P h1 p0 51) (Int32.toNatClampNeg ((14 * (y_I h1 p0 50)) + 1)))), (1, .int (14 * (y_I h1 p0 50))), (0, y_p p0)]) (pc2 := 57) rfl dX12_undo_55 (by decide) rfl ?_
    refine y_iload_n (pc2 := 58) rfl dX12_undo_57 rfl ?_
    refine y_jnE hf (fun j => ∀ (v0_288 : Nat) (v1_288 : Int32) (v2_288 : Int32) (v4_288 : Int32) (h4 : y_H), j v0_288 v1_288 v2_288 v4_288 h4 = some (rz, hz) → y_V l G z rm_X12_undo M_X12_undo ad0 h (some (.int rz)) hz 288 [(0, y_p v0_288), (1, .int v1_288), (2, .int v2_288), (4, .int v4_288)] [] h4 0 0) (fun v0_288 v1_288 v2_288 v4_288 h4 hf => ?_) (fun j288 hj288 hf => ?_)
    · refine y_iload_n (pc2 := 289) rfl dX12_undo_288 rfl ?_
      refine y_jnE hf (fun j => ∀ (v0_334 : Nat) (v1_334 : Int32) (v4_334 : Int32) (h5 : y_H), j v0_334 v1_334 v4_334 h5 = some (rz, hz) → y_V l G z rm_X12_undo M_X12_undo ad0 h (some (.int rz)) hz 334 [(0, y_p v0_334), (1, .int v1_334), (4, .int v4_334)] [] h5 0 0) (fun v0_334 v1_334 v4_334 h5 hf => ?_) (fun j334 hj334 hf => ?_)
      · refine y_iload (pc2 := 336) rfl dX12_undo_334 rfl ?_
        refine y_jnE hf (fun j => ∀ (v0_371 : Nat) (v1_371 : Int32) (h6 : y_H), j v0_371 v1_371 h6 = some (rz, hz) → y_V l G z rm_X12_undo M_X12_undo ad0 h (some (.int rz)) hz 371 [(0, y_p v0_371), (1, .int v1_371)] [] h6 0 0) (fun v0_371 v1_371 h6 hf => ?_) (fun j371 hj371 hf => ?_)
        · refine y_aload_n (x := v0_371) (pc2 := 372) rfl dX12_undo_371 rfl ?_
          obtain ⟨g8, hf⟩ := y_g hf
          refine y_getP (pc2 := 375) rfl dX12_undo_372 F_BoxYardModel_137 (by decide) rfl g8 ?_
          refine y_iload_n (pc2 := 376) rfl dX12_undo_375 rfl ?_
          obtain ⟨g7, hf⟩ := y_g hf
          refine y_iald (pc2 := 377) rfl dX12_undo_376 g7.1 (y_ix_in g7.2) ?_
          exact y_iretF hf dX12_undo_377 rfl (by decide) (by decide)
        · refine y_if_lt (tgt := 371) (pc2 := 339) rfl dX12_undo_336 (by decide) (fun c21 => ?_) (fun c21 => ?_)
          · replace hf := y_it c21 hf
            exact y_pk [0, 1] rfl (hj371 _ _ _ hf)
          · replace hf := y_ie c21 hf
            refine y_aload_n (x := v0_334) (pc2 := 340) rfl dX12_undo_339 rfl ?_
            obtain ⟨g20, hf⟩ := y_g hf
            refine y_getP (pc2 := 343) rfl dX12_undo_340 F_BoxYardModel_125 (by decide) rfl g20 ?_
            refine y_iload (pc2 := 345) rfl dX12_undo_343 rfl ?_
            refine y_aload_n (x := v0_334) (pc2 := 346) rfl dX12_undo_345 rfl ?_
            obtain ⟨g19, hf⟩ := y_g hf
            refine y_getP (pc2 := 349) rfl dX12_undo_346 F_BoxYardModel_137 (by decide) rfl g19 ?_
            refine y_iload_n (pc2 := 350) rfl dX12_undo_349 rfl ?_
            refine y_bipush (v := 12) (pc2 := 352) rfl dX12_undo_350 (by decide) ?_
            refine y_iadd (pc2 := 353) rfl dX12_undo_352 ?_
            obtain ⟨g18, hf⟩ := y_g hf
            refine y_iald (pc2 := 354) rfl dX12_undo_353 g18.1 (y_ix_in g18.2) ?_
            obtain ⟨g11, hf⟩ := y_g hf
            obtain ⟨h9, e10, hf⟩ := y_bdE hf
            refine y_iast (x := y_I h5 (y_P h5 v0_334 51) (Int32.toNatClampNeg (v1_334 + 12))) (pc2 := 355) rfl dX12_undo_354 g11.1 (y_ix_in g11.2) e10 ?_
            refine y_aload_n (x := v0_334) (pc2 := 356) rfl dX12_undo_355 rfl ?_
            obtain ⟨g17, hf⟩ := y_g hf
            refine y_getP (pc2 := 359) rfl dX12_undo_356 F_BoxYardModel_128 (by decide) rfl g17 ?_
            refine y_iload (pc2 := 361) rfl dX12_undo_359 rfl ?_
            refine y_aload_n (x := v0_334) (pc2 := 362) rfl dX12_undo_361 rfl ?_
            obtain ⟨g16, hf⟩ := y_g hf
            refine y_getP (pc2 := 365) rfl dX12_undo_362 F_BoxYardModel_137 (by decide) rfl g16 ?_
            refine y_iload_n (pc2 := 366) rfl dX12_undo_365 rfl ?_
            refine y_bipush (v := 13) (pc2 := 368) rfl dX12_undo_366 (by decide) ?_
            refine y_iadd (pc2 := 369) rfl dX12_undo_368 ?_
            obtain ⟨g15, hf⟩ := y_g hf
            refine y_iald (pc2 := 370) rfl dX12_undo_369 g15.1 (y_ix_in g15.2) ?_
            obtain ⟨g14, hf⟩ := y_g hf
            obtain ⟨h12, e13, hf⟩ := y_bdE hf
            refine y_iast (x := y_I h9 (y_P h9 v0_334 51) (Int32.toNatClampNeg (v1_334 + 13))) (pc2 := 371) rfl dX12_undo_370 g14.1 (y_ix_in g14.2) e13 ?_
            exact y_pk [0, 1] rfl (hj371 _ _ _ hf)
      · refine y_if_lt (tgt := 334) (pc2 := 292) rfl dX12_undo_289 (by decide) (fun c40 => ?_) (fun c40 => ?_)
        · replace hf := y_it c40 hf
          exact y_pk [0, 1, 3] rfl (hj334 _ _ _ _ hf)
        · replace hf := y_ie c40 hf
          refine y_aload_n (x := v0_288) (pc2 := 293) rfl dX12_undo_292 rfl ?_
          obtain ⟨g39, hf⟩ := y_g hf
          refine y_getP (pc2 := 296) rfl dX12_undo_293 F_BoxYardModel_86 (by decide) rfl g39 ?_
          refine y_iload_n (pc2 := 297) rfl dX12_undo_296 rfl ?_
          refine y_aload_n (x := v0_288) (pc2 := 298) rfl dX12_undo_297 rfl ?_
          obtain ⟨g38, hf⟩ := y_g hf
          refine y_getP (pc2 := 301) rfl dX12_undo_298 F_BoxYardModel_137 (by decide) rfl g38 ?_
          refine y_iload_n (pc2 := 302) rfl dX12_undo_301 rfl ?_
          refine y_iconst (v := 2) (pc2 := 303) rfl dX12_undo_302 (by decide) ?_
          refine y_iadd (pc2 := 304) rfl dX12_undo_303 ?_
          obtain ⟨g37, hf⟩ := y_g hf
          refine y_iald (pc2 := 305) rfl dX12_undo_304 g37.1 (y_ix_in g37.2) ?_
          obtain ⟨g24, hf⟩ := y_g hf
          obtain ⟨h22, e23, hf⟩ := y_bdE hf
          refine y_iast (x := y_I h4 (y_P h4 v0_288 51) (Int32.toNatClampNeg (v1_288 + 2))) (pc2 := 306) rfl dX12_undo_305 g24.1 (y_ix_in g24.2) e23 ?_
          refine y_aload_n (x := v0_288) (pc2 := 307) rfl dX12_undo_306 rfl ?_
          obtain ⟨g36, hf⟩ := y_g hf
          refine y_getP (pc2 := 310) rfl dX12_undo_307 F_BoxYardModel_89 (by decide) rfl g36 ?_
          refine y_iload_n (pc2 := 311) rfl dX12_undo_310 rfl ?_
          refine y_aload_n (x := v0_288) (pc2 := 312) rfl dX12_undo_311 rfl ?_
          obtain ⟨g35, hf⟩ := y_g hf
          refine y_getP (pc2 := 315) rfl dX12_undo_312 F_BoxYardModel_137 (by decide) rfl g35 ?_
          refine y_iload_n (pc2 := 316) rfl dX12_undo_315 rfl ?_
          refine y_iconst (v := 3) (pc2 := 317) rfl dX12_undo_316 (by decide) ?_
          refine y_iadd (pc2 := 318) rfl dX12_undo_317 ?_
          obtain ⟨g34, hf⟩ := y_g hf
          refine y_iald (pc2 := 319) rfl dX12_undo_318 g34.1 (y_ix_in g34.2) ?_
          obtain ⟨g27, hf⟩ := y_g hf
          obtain ⟨h25, e26, hf⟩ := y_bdE hf
          refine y_iast (x := y_I h22 (y_P h22 v0_288 51) (Int32.toNatClampNeg (v1_288 + 3))) (pc2 := 320) rfl dX12_undo_319 g27.1 (y_ix_in g27.2) e26 ?_
          refine y_aload_n (x := v0_288) (pc2 := 321) rfl dX12_undo_320 rfl ?_
          obtain ⟨g33, hf⟩ := y_g hf
          refine y_getP (pc2 := 324) rfl dX12_undo_321 F_BoxYardModel_92 (by decide) rfl g33 ?_
          refine y_iload_n (pc2 := 325) rfl dX12_undo_324 rfl ?_
          refine y_aload_n (x := v0_288) (pc2 := 326) rfl dX12_undo_325 rfl ?_
          obtain ⟨g32, hf⟩ := y_g hf
          refine y_getP (pc2 := 329) rfl dX12_undo_326 F_BoxYardModel_137 (by decide) rfl g32 ?_
          refine y_iload_n (pc2 := 330) rfl dX12_undo_329 rfl ?_
          refine y_iconst (v := 4) (pc2 := 331) rfl dX12_undo_330 (by decide) ?_
          refine y_iadd (pc2 := 332) rfl dX12_undo_331 ?_
          obtain ⟨g31, hf⟩ := y_g hf
          refine y_iald (pc2 := 333) rfl dX12_undo_332 g31.1 (y_ix_in g31.2) ?_
          obtain ⟨g30, hf⟩ := y_g hf
          obtain ⟨h28, e29, hf⟩ := y_bdE hf
          refine y_iast (x := y_I h25 (y_P h25 v0_288 51) (Int32.toNatClampNeg (v1_288 + 4))) (pc2 := 334) rfl dX12_undo_333 g30.1 (y_ix_in g30.2) e29 ?_
          exact y_pk [0, 1, 3] rfl (hj334 _ _ _ _ hf)
    · refine y_if_lt (tgt := 288) (pc2 := 61) rfl dX12_undo_58 (by decide) (fun c144 => ?_) (fun c144 => ?_)
      · replace hf := y_it c144 hf
        exact y_pk [4, 3, 2, 0] rfl (hj288 _ _ _ _ _ hf)
      · replace hf := y_ie c144 hf
        refine y_aload_n (x := p0) (pc2 := 62) rfl dX12_undo_61 rfl ?_
        obtain ⟨g143, hf⟩ := y_g hf
        refine y_getP (pc2 := 65) rfl dX12_undo_62 F_BoxYardModel_29 (by decide) rfl g143 ?_
        refine y_iload_n (pc2 := 66) rfl dX12_undo_65 rfl ?_
        obtain ⟨g142, hf⟩ := y_g hf
        refine y_iald (pc2 := 67) rfl dX12_undo_66 g142.1 (y_ix_in g142.2) ?_
        refine y_iconst (v := 1) (pc2 := 68) rfl dX12_undo_67 (by decide) ?_
        refine y_jnE hf (fun j => ∀ (v0_131 : Nat) (v1_131 : Int32) (v2_131 : Int32) (v3_131 : Int32) (v4_131 : Int32) (h41 : y_H), j v0_131 v1_131 v2_131 v3_131 v4_131 h41 = some (rz, hz) → y_V l G z rm_X12_undo M_X12_undo ad0 h (some (.int rz)) hz 131 [(0, y_p v0_131), (1, .int v1_131), (2, .int v2_131), (3, .int v3_131), (4, .int v4_131)] [] h41 0 0) (fun v0_131 v1_131 v2_131 v3_131 v4_131 h41 hf => ?_) (fun j131 hj131 hf => ?_)
        · refine y_aload_n (x := v0_131) (pc2 := 132) rfl dX12_undo_131 rfl ?_
          refine y_iload_n (pc2 := 133) rfl dX12_undo_132 rfl ?_
          refine y_aload_n (x := v0_131) (pc2 := 134) rfl dX12_undo_133 rfl ?_
          obtain ⟨g120, hf⟩ := y_g hf
          refine y_getP (pc2 := 137) rfl dX12_undo_134 F_BoxYardModel_137 (by decide) rfl g120 ?_
          refine y_iload_n (pc2 := 138) rfl dX12_undo_137 rfl ?_
          refine y_bipush (v := 6) (pc2 := 140) rfl dX12_undo_138 (by decide) ?_
          refine y_iadd (pc2 := 141) rfl dX12_undo_140 ?_
          obtain ⟨g119, hf⟩ := y_g hf
          refine y_iald (pc2 := 142) rfl dX12_undo_141 g119.1 (y_ix_in g119.2) ?_
          refine y_aload_n (x := v0_131) (pc2 := 143) rfl dX12_undo_142 rfl ?_
          obtain ⟨g118, hf⟩ := y_g hf
          refine y_getP (pc2 := 146) rfl dX12_undo_143 F_BoxYardModel_137 (by decide) rfl g118 ?_
          refine y_iload_n (pc2 := 147) rfl dX12_undo_146 rfl ?_
          refine y_bipush (v := 7) (pc2 := 149) rfl dX12_undo_147 (by decide) ?_
          refine y_iadd (pc2 := 150) rfl dX12_undo_149 ?_
          obtain ⟨g117, hf⟩ := y_g hf
          refine y_iald (pc2 := 151) rfl dX12_undo_150 g117.1 (y_ix_in g117.2) ?_
          refine y_aload_n (x := v0_131) (pc2 := 152) rfl dX12_undo_151 rfl ?_
          obtain ⟨g116, hf⟩ := y_g hf
          refine y_getP (pc2 := 155) rfl dX12_undo_152 F_BoxYardModel_137 (by decide) rfl g116 ?_
          refine y_iload_n (pc2 := 156) rfl dX12_undo_155 rfl ?_
          refine y_bipush (v := 8) (pc2 := 158) rfl dX12_undo_156 (by decide) ?_
          refine y_iadd (pc2 := 159) rfl dX12_undo_158 ?_
          obtain ⟨g115, hf⟩ := y_g hf
          refine y_iald (pc2 := 160) rfl dX12_undo_159 g115.1 (y_ix_in g115.2) ?_
          refine y_aload_n (x := v0_131) (pc2 := 161) rfl dX12_undo_160 rfl ?_
          obtain ⟨g114, hf⟩ := y_g hf
          refine y_getP (pc2 := 164) rfl dX12_undo_161 F_BoxYardModel_137 (by decide) rfl g114 ?_
          refine y_iload_n (pc2 := 165) rfl dX12_undo_164 rfl ?_
          refine y_bipush (v := 9) (pc2 := 167) rfl dX12_undo_165 (by decide) ?_
          refine y_iadd (pc2 := 168) rfl dX12_undo_167 ?_
          obtain ⟨g113, hf⟩ := y_g hf
          refine y_iald (pc2 := 169) rfl dX12_undo_168 g113.1 (y_ix_in g113.2) ?_
          obtain ⟨g112, hf⟩ := y_g hf
          obtain ⟨r_, h42, c43, hf⟩ := y_clE hf
          refine y_callV (As := [.int v3_131, .int (y_I h41 (y_P h41 v0_131 51) (Int32.toNatClampNeg (v1_131 + 6))), .int (y_I h41 (y_P h41 v0_131 51) (Int32.toNatClampNeg (v1_131 + 7))), .int (y_I h41 (y_P h41 v0_131 51) (Int32.toNatClampNeg (v1_131 + 8))), .int (y_I h41 (y_P h41 v0_131 51) (Int32.toNatClampNeg (v1_131 + 9)))]) (rm := rm_X12_put) (cells := 0) (slots := 0) (pc2 := 172) rfl dX12_undo_169 n_X12_put l_BoxYardModel_294 i_X12_put e_X12_put (ci := 12) rfl rfl (by decide) g112 rfl rfl (by decide) (by decide) (by decide) (k_X12_put c43) ?_
          refine y_aload_n (x := v0_131) (pc2 := 173) rfl dX12_undo_172 rfl ?_
          obtain ⟨g111, hf⟩ := y_g hf
          refine y_getP (pc2 := 176) rfl dX12_undo_173 F_BoxYardModel_25 (by decide) rfl g111 ?_
          refine y_iload_n (pc2 := 177) rfl dX12_undo_176 rfl ?_
          refine y_aload_n (x := v0_131) (pc2 := 178) rfl dX12_undo_177 rfl ?_
          obtain ⟨g110, hf⟩ := y_g hf
          refine y_getP (pc2 := 181) rfl dX12_undo_178 F_BoxYardModel_137 (by decide) rfl g110 ?_
          refine y_iload_n (pc2 := 182) rfl dX12_undo_181 rfl ?_
          refine y_bipush (v := 10) (pc2 := 184) rfl dX12_undo_182 (by decide) ?_
          refine y_iadd (pc2 := 185) rfl dX12_undo_184 ?_
          obtain ⟨g109, hf⟩ := y_g hf
          refine y_iald (pc2 := 186) rfl dX12_undo_185 g109.1 (y_ix_in g109.2) ?_
          refine y_iconst (v := 1) (pc2 := 187) rfl dX12_undo_186 (by decide) ?_
          refine y_icmp_ne (tgt := 194) (pc2 := 190) rfl dX12_undo_187 (by decide) (fun c108 => ?_) (fun c108 => ?_)
          · replace hf := y_ie c108 hf
            refine y_iconst (v := 0) (pc2 := 195) rfl dX12_undo_194 (by decide) ?_
            obtain ⟨g46, hf⟩ := y_g hf
            obtain ⟨h44, e45, hf⟩ := y_bdE hf
            refine y_zast (x := false) (pc2 := 196) rfl dX12_undo_195 g46.1 (y_ix_in g46.2) e45 ?_
            refine y_aload_n (x := v0_131) (pc2 := 197) rfl dX12_undo_196 rfl ?_
            obtain ⟨g75, hf⟩ := y_g hf
            refine y_getP (pc2 := 200) rfl dX12_undo_197 F_BoxYardModel_29 (by decide) rfl g75 ?_
            refine y_iload_n (pc2 := 201) rfl dX12_undo_200 rfl ?_
            obtain ⟨g74, hf⟩ := y_g hf
            refine y_iald (pc2 := 202) rfl dX12_undo_201 g74.1 (y_ix_in g74.2) ?_
            refine y_iconst (v := 1) (pc2 := 203) rfl dX12_undo_202 (by decide) ?_
            refine y_icmp_ne (tgt := 256) (pc2 := 206) rfl dX12_undo_203 (by decide) (fun c73 => ?_) (fun c73 => ?_)
            · replace hf := y_ie c73 hf
              refine y_aload_n (x := v0_131) (pc2 := 257) rfl dX12_undo_256 rfl ?_
              obtain ⟨g57, hf⟩ := y_g hf
              refine y_getP (pc2 := 260) rfl dX12_undo_257 F_BoxYardModel_29 (by decide) rfl g57 ?_
              refine y_iload_n (pc2 := 261) rfl dX12_undo_260 rfl ?_
              obtain ⟨g56, hf⟩ := y_g hf
              refine y_iald (pc2 := 262) rfl dX12_undo_261 g56.1 (y_ix_in g56.2) ?_
              refine y_iconst (v := 3) (pc2 := 263) rfl dX12_undo_262 (by decide) ?_
              refine y_icmp_ne (tgt := 288) (pc2 := 266) rfl dX12_undo_263 (by decide) (fun c55 => ?_) (fun c55 => ?_)
              · replace hf := y_ie c55 hf
                exact y_pk [0, 1, 2, 4] rfl (hj288 _ _ _ _ _ hf)
              · replace hf := y_it c55 hf
                refine y_aload_n (x := v0_131) (pc2 := 267) rfl dX12_undo_266 rfl ?_
                obtain ⟨g54, hf⟩ := y_g hf
                refine y_getP (pc2 := 270) rfl dX12_undo_267 F_BoxYardModel_113 (by decide) rfl g54 ?_
                refine y_bipush (v := 54) (pc2 := 272) rfl dX12_undo_270 (by decide) ?_
                refine y_aload_n (x := v0_131) (pc2 := 273) rfl dX12_undo_272 rfl ?_
                obtain ⟨g53, hf⟩ := y_g hf
                refine y_getP (pc2 := 276) rfl dX12_undo_273 F_BoxYardModel_32 (by decide) rfl g53 ?_
                refine y_iload_n (pc2 := 277) rfl dX12_undo_276 rfl ?_
                obtain ⟨g52, hf⟩ := y_g hf
                refine y_iald (pc2 := 278) rfl dX12_undo_277 g52.1 (y_ix_in g52.2) ?_
                refine y_imul (pc2 := 279) rfl dX12_undo_278 ?_
                refine y_aload_n (x := v0_131) (pc2 := 280) rfl dX12_undo_279 rfl ?_
                obtain ⟨g51, hf⟩ := y_g hf
                refine y_getP (pc2 := 283) rfl dX12_undo_280 F_BoxYardModel_35 (by decide) rfl g51 ?_
                refine y_iload_n (pc2 := 284) rfl dX12_undo_283 rfl ?_
                obtain ⟨g50, hf⟩ := y_g hf
                refine y_iald (pc2 := 285) rfl dX12_undo_284 g50.1 (y_ix_in g50.2) ?_
                refine y_iadd (pc2 := 286) rfl dX12_undo_285 ?_
                refine y_iload_n (pc2 := 287) rfl dX12_undo_286 rfl ?_
                obtain ⟨g49, hf⟩ := y_g hf
                obtain ⟨h47, e48, hf⟩ := y_bdE hf
                refine y_iast (x := v3_131) (pc2 := 288) rfl dX12_undo_287 g49.1 (y_ix_in g49.2) e48 ?_
                exact y_pk [0, 1, 2, 4] rfl (hj288 _ _ _ _ _ hf)
            · replace hf := y_it c73 hf
              refine y_bipush (v := 6) (pc2 := 208) rfl dX12_undo_206 (by decide) ?_
              refine y_aload_n (x := v0_131) (pc2 := 209) rfl dX12_undo_208 rfl ?_
              obtain ⟨g72, hf⟩ := y_g hf
              refine y_getP (pc2 := 212) rfl dX12_undo_209 F_BoxYardModel_32 (by decide) rfl g72 ?_
              refine y_iload_n (pc2 := 213) rfl dX12_undo_212 rfl ?_
              obtain ⟨g71, hf⟩ := y_g hf
              refine y_iald (pc2 := 214) rfl dX12_undo_213 g71.1 (y_ix_in g71.2) ?_
              refine y_imul (pc2 := 215) rfl dX12_undo_214 ?_
              refine y_aload_n (x := v0_131) (pc2 := 216) rfl dX12_undo_215 rfl ?_
              obtain ⟨g70, hf⟩ := y_g hf
              refine y_getP (pc2 := 219) rfl dX12_undo_216 F_BoxYardModel_35 (by decide) rfl g70 ?_
              refine y_iload_n (pc2 := 220) rfl dX12_undo_219 rfl ?_
              obtain ⟨g69, hf⟩ := y_g hf
              refine y_iald (pc2 := 221) rfl dX12_undo_220 g69.1 (y_ix_in g69.2) ?_
              refine y_iadd (pc2 := 222) rfl dX12_undo_221 ?_
              refine y_istore (lv' := [(5, .int ((6 * (y_I h44 (y_P h44 v0_131 8) (Int32.toNatClampNeg v3_131))) + (y_I h44 (y_P h44 v0_131 9) (Int32.toNatClampNeg v3_131)))), (0, y_p v0_131), (1, .int v1_131), (2, .int v2_131), (3, .int v3_131), (4, .int v4_131)]) (pc2 := 224) rfl dX12_undo_222 (by decide) rfl ?_
              refine y_aload_n (x := v0_131) (pc2 := 225) rfl dX12_undo_224 rfl ?_
              obtain ⟨g68, hf⟩ := y_g hf
              refine y_getP (pc2 := 228) rfl dX12_undo_225 F_BoxYardModel_74 (by decide) rfl g68 ?_
              refine y_iconst (v := 5) (pc2 := 229) rfl dX12_undo_228 (by decide) ?_
              refine y_iload (pc2 := 231) rfl dX12_undo_229 rfl ?_
              refine y_imul (pc2 := 232) rfl dX12_undo_231 ?_
              refine y_aload_n (x := v0_131) (pc2 := 233) rfl dX12_undo_232 rfl ?_
              obtain ⟨g67, hf⟩ := y_g hf
              refine y_getP (pc2 := 236) rfl dX12_undo_233 F_BoxYardModel_71 (by decide) rfl g67 ?_
              refine y_iload (pc2 := 238) rfl dX12_undo_236 rfl ?_
              obtain ⟨g66, hf⟩ := y_g hf
              refine y_iald (pc2 := 239) rfl dX12_undo_238 g66.1 (y_ix_in g66.2) ?_
              refine y_iadd (pc2 := 240) rfl dX12_undo_239 ?_
              refine y_iload_n (pc2 := 241) rfl dX12_undo_240 rfl ?_
              obtain ⟨g60, hf⟩ := y_g hf
              obtain ⟨h58, e59, hf⟩ := y_bdE hf
              refine y_iast (x := v3_131) (pc2 := 242) rfl dX12_undo_241 g60.1 (y_ix_in g60.2) e59 ?_
              refine y_aload_n (x := v0_131) (pc2 := 243) rfl dX12_undo_242 rfl ?_
              obtain ⟨g65, hf⟩ := y_g hf
              refine y_getP (pc2 := 246) rfl dX12_undo_243 F_BoxYardModel_71 (by decide) rfl g65 ?_
              refine y_iload (pc2 := 248) rfl dX12_undo_246 rfl ?_
              refine y_dup2 (pc2 := 249) rfl dX12_undo_248 rfl (y_p_cat _) ?_
              obtain ⟨g64, hf⟩ := y_g hf
              refine y_iald (pc2 := 250) rfl dX12_undo_249 g64.1 (y_ix_in g64.2) ?_
              refine y_iconst (v := 1) (pc2 := 251) rfl dX12_undo_250 (by decide) ?_
              refine y_iadd (pc2 := 252) rfl dX12_undo_251 ?_
              obtain ⟨g63, hf⟩ := y_g hf
              obtain ⟨h61, e62, hf⟩ := y_bdE hf
              refine y_iast (x := (y_I h58 (y_P h58 v0_131 22) (Int32.toNatClampNeg ((6 * (y_I h44 (y_P h44 v0_131 8) (Int32.toNatClampNeg v3_131))) + (y_I h44 (y_P h44 v0_131 9) (Int32.toNatClampNeg v3_131))))) + 1) (pc2 := 253) rfl dX12_undo_252 g63.1 (y_ix_in g63.2) e62 ?_
              refine y_goto (tgt := 288) dX12_undo_253 (by decide) ?_
              exact y_pk [1, 2, 3, 5] rfl (hj288 _ _ _ _ _ hf)
          · replace hf := y_it c108 hf
            refine y_iconst (v := 1) (pc2 := 191) rfl dX12_undo_190 (by decide) ?_
            refine y_goto (tgt := 195) dX12_undo_191 (by decide) ?_
            obtain ⟨g78, hf⟩ := y_g hf
            obtain ⟨h76, e77, hf⟩ := y_bdE hf
            refine y_zast (x := true) (pc2 := 196) rfl dX12_undo_195 g78.1 (y_ix_in g78.2) e77 ?_
            refine y_aload_n (x := v0_131) (pc2 := 197) rfl dX12_undo_196 rfl ?_
            obtain ⟨g107, hf⟩ := y_g hf
            refine y_getP (pc2 := 200) rfl dX12_undo_197 F_BoxYardModel_29 (by decide) rfl g107 ?_
            refine y_iload_n (pc2 := 201) rfl dX12_undo_200 rfl ?_
            obtain ⟨g106, hf⟩ := y_g hf
            refine y_iald (pc2 := 202) rfl dX12_undo_201 g106.1 (y_ix_in g106.2) ?_
            refine y_iconst (v := 1) (pc2 := 203) rfl dX12_undo_202 (by decide) ?_
            refine y_icmp_ne (tgt := 256) (pc2 := 206) rfl dX12_undo_203 (by decide) (fun c105 => ?_) (fun c105 => ?_)
            · replace hf := y_ie c105 hf
              refine y_aload_n (x := v0_131) (pc2 := 257) rfl dX12_undo_256 rfl ?_
              obtain ⟨g89, hf⟩ := y_g hf
              refine y_getP (pc2 := 260) rfl dX12_undo_257 F_BoxYardModel_29 (by decide) rfl g89 ?_
              refine y_iload_n (pc2 := 261) rfl dX12_undo_260 rfl ?_
              obtain ⟨g88, hf⟩ := y_g hf
              refine y_iald (pc2 := 262) rfl dX12_undo_261 g88.1 (y_ix_in g88.2) ?_
              refine y_iconst (v := 3) (pc2 := 263) rfl dX12_undo_262 (by decide) ?_
              refine y_icmp_ne (tgt := 288) (pc2 := 266) rfl dX12_undo_263 (by decide) (fun c87 => ?_) (fun c87 => ?_)
              · replace hf := y_ie c87 hf
                exact y_pk [0, 1, 2, 4] rfl (hj288 _ _ _ _ _ hf)
              · replace hf := y_it c87 hf
                refine y_aload_n (x := v0_131) (pc2 := 267) rfl dX12_undo_266 rfl ?_
                obtain ⟨g86, hf⟩ := y_g hf
                refine y_getP (pc2 := 270) rfl dX12_undo_267 F_BoxYardModel_113 (by decide) rfl g86 ?_
                refine y_bipush (v := 54) (pc2 := 272) rfl dX12_undo_270 (by decide) ?_
                refine y_aload_n (x := v0_131) (pc2 := 273) rfl dX12_undo_272 rfl ?_
                obtain ⟨g85, hf⟩ := y_g hf
                refine y_getP (pc2 := 276) rfl dX12_undo_273 F_BoxYardModel_32 (by decide) rfl g85 ?_
                refine y_iload_n (pc2 := 277) rfl dX12_undo_276 rfl ?_
                obtain ⟨g84, hf⟩ := y_g hf
                refine y_iald (pc2 := 278) rfl dX12_undo_277 g84.1 (y_ix_in g84.2) ?_
                refine y_imul (pc2 := 279) rfl dX12_undo_278 ?_
                refine y_aload_n (x := v0_131) (pc2 := 280) rfl dX12_undo_279 rfl ?_
                obtain ⟨g83, hf⟩ := y_g hf
                refine y_getP (pc2 := 283) rfl dX12_undo_280 F_BoxYardModel_35 (by decide) rfl g83 ?_
                refine y_iload_n (pc2 := 284) rfl dX12_undo_283 rfl ?_
                obtain ⟨g82, hf⟩ := y_g hf
                refine y_iald (pc2 := 285) rfl dX12_undo_284 g82.1 (y_ix_in g82.2) ?_
                refine y_iadd (pc2 := 286) rfl dX12_undo_285 ?_
                refine y_iload_n (pc2 := 287) rfl dX12_undo_286 rfl ?_
                obtain ⟨g81, hf⟩ := y_g hf
                obtain ⟨h79, e80, hf⟩ := y_bdE hf
                refine y_iast (x := v3_131) (pc2 := 288) rfl dX12_undo_287 g81.1 (y_ix_in g81.2) e80 ?_
                exact y_pk [0, 1, 2, 4] rfl (hj288 _ _ _ _ _ hf)
            · replace hf := y_it c105 hf
              refine y_bipush (v := 6) (pc2 := 208) rfl dX12_undo_206 (by decide) ?_
              refine y_aload_n (x := v0_131) (pc2 := 209) rfl dX12_undo_208 rfl ?_
              obtain ⟨g104, hf⟩ := y_g hf
              refine y_getP (pc2 := 212) rfl dX12_undo_209 F_BoxYardModel_32 (by decide) rfl g104 ?_
              refine y_iload_n (pc2 := 213) rfl dX12_undo_212 rfl ?_
              obtain ⟨g103, hf⟩ := y_g hf
              refine y_iald (pc2 := 214) rfl dX12_undo_213 g103.1 (y_ix_in g103.2) ?_
              refine y_imul (pc2 := 215) rfl dX12_undo_214 ?_
              refine y_aload_n (x := v0_131) (pc2 := 216) rfl dX12_undo_215 rfl ?_
              obtain ⟨g102, hf⟩ := y_g hf
              refine y_getP (pc2 := 219) rfl dX12_undo_216 F_BoxYardModel_35 (by decide) rfl g102 ?_
              refine y_iload_n (pc2 := 220) rfl dX12_undo_219 rfl ?_
              obtain ⟨g101, hf⟩ := y_g hf
              refine y_iald (pc2 := 221) rfl dX12_undo_220 g101.1 (y_ix_in g101.2) ?_
              refine y_iadd (pc2 := 222) rfl dX12_undo_221 ?_
              refine y_istore (lv' := [(5, .int ((6 * (y_I h76 (y_P h76 v0_131 8) (Int32.toNatClampNeg v3_131))) + (y_I h76 (y_P h76 v0_131 9) (Int32.toNatClampNeg v3_131)))), (0, y_p v0_131), (1, .int v1_131), (2, .int v2_131), (3, .int v3_131), (4, .int v4_131)]) (pc2 := 224) rfl dX12_undo_222 (by decide) rfl ?_
              refine y_aload_n (x := v0_131) (pc2 := 225) rfl dX12_undo_224 rfl ?_
              obtain ⟨g100, hf⟩ := y_g hf
              refine y_getP (pc2 := 228) rfl dX12_undo_225 F_BoxYardModel_74 (by decide) rfl g100 ?_
              refine y_iconst (v := 5) (pc2 := 229) rfl dX12_undo_228 (by decide) ?_
              refine y_iload (pc2 := 231) rfl dX12_undo_229 rfl ?_
              refine y_imul (pc2 := 232) rfl dX12_undo_231 ?_
              refine y_aload_n (x := v0_131) (pc2 := 233) rfl dX12_undo_232 rfl ?_
              obtain ⟨g99, hf⟩ := y_g hf
              refine y_getP (pc2 := 236) rfl dX12_undo_233 F_BoxYardModel_71 (by decide) rfl g99 ?_
              refine y_iload (pc2 := 238) rfl dX12_undo_236 rfl ?_
              obtain ⟨g98, hf⟩ := y_g hf
              refine y_iald (pc2 := 239) rfl dX12_undo_238 g98.1 (y_ix_in g98.2) ?_
              refine y_iadd (pc2 := 240) rfl dX12_undo_239 ?_
              refine y_iload_n (pc2 := 241) rfl dX12_undo_240 rfl ?_
              obtain ⟨g92, hf⟩ := y_g hf
              obtain ⟨h90, e91, hf⟩ := y_bdE hf
              refine y_iast (x := v3_131) (pc2 := 242) rfl dX12_undo_241 g92.1 (y_ix_in g92.2) e91 ?_
              refine y_aload_n (x := v0_131) (pc2 := 243) rfl dX12_undo_242 rfl ?_
              obtain ⟨g97, hf⟩ := y_g hf
              refine y_getP (pc2 := 246) rfl dX12_undo_243 F_BoxYardModel_71 (by decide) rfl g97 ?_
              refine y_iload (pc2 := 248) rfl dX12_undo_246 rfl ?_
              refine y_dup2 (pc2 := 249) rfl dX12_undo_248 rfl (y_p_cat _) ?_
              obtain ⟨g96, hf⟩ := y_g hf
              refine y_iald (pc2 := 250) rfl dX12_undo_249 g96.1 (y_ix_in g96.2) ?_
              refine y_iconst (v := 1) (pc2 := 251) rfl dX12_undo_250 (by decide) ?_
              refine y_iadd (pc2 := 252) rfl dX12_undo_251 ?_
              obtain ⟨g95, hf⟩ := y_g hf
              obtain ⟨h93, e94, hf⟩ := y_bdE hf
              refine y_iast (x := (y_I h90 (y_P h90 v0_131 22) (Int32.toNatClampNeg ((6 * (y_I h76 (y_P h76 v0_131 8) (Int32.toNatClampNeg v3_131))) + (y_I h76 (y_P h76 v0_131 9) (Int32.toNatClampNeg v3_131))))) + 1) (pc2 := 253) rfl dX12_undo_252 g95.1 (y_ix_in g95.2) e94 ?_
              refine y_goto (tgt := 288) dX12_undo_253 (by decide) ?_
              exact y_pk [1, 2, 3, 5] rfl (hj288 _ _ _ _ _ hf)
        · refine y_icmp_ne (tgt := 99) (pc2 := 71) rfl dX12_undo_68 (by decide) (fun c141 => ?_) (fun c141 => ?_)
          · replace hf := y_ie c141 hf
            refine y_aload_n (x := p0) (pc2 := 100) rfl dX12_undo_99 rfl ?_
            obtain ⟨g131, hf⟩ := y_g hf
            refine y_getP (pc2 := 103) rfl dX12_undo_100 F_BoxYardModel_29 (by decide) rfl g131 ?_
            refine y_iload_n (pc2 := 104) rfl dX12_undo_103 rfl ?_
            obtain ⟨g130, hf⟩ := y_g hf
            refine y_iald (pc2 := 105) rfl dX12_undo_104 g130.1 (y_ix_in g130.2) ?_
            refine y_iconst (v := 3) (pc2 := 106) rfl dX12_undo_105 (by decide) ?_
            refine y_icmp_ne (tgt := 131) (pc2 := 109) rfl dX12_undo_106 (by decide) (fun c129 => ?_) (fun c129 => ?_)
            · replace hf := y_ie c129 hf
              exact y_pk [4, 3, 2, 1, 0] rfl (hj131 _ _ _ _ _ _ hf)
            · replace hf := y_it c129 hf
              refine y_aload_n (x := p0) (pc2 := 110) rfl dX12_undo_109 rfl ?_
              obtain ⟨g128, hf⟩ := y_g hf
              refine y_getP (pc2 := 113) rfl dX12_undo_110 F_BoxYardModel_113 (by decide) rfl g128 ?_
              refine y_bipush (v := 54) (pc2 := 115) rfl dX12_undo_113 (by decide) ?_
              refine y_aload_n (x := p0) (pc2 := 116) rfl dX12_undo_115 rfl ?_
              obtain ⟨g127, hf⟩ := y_g hf
              refine y_getP (pc2 := 119) rfl dX12_undo_116 F_BoxYardModel_32 (by decide) rfl g127 ?_
              refine y_iload_n (pc2 := 120) rfl dX12_undo_119 rfl ?_
              obtain ⟨g126, hf⟩ := y_g hf
              refine y_iald (pc2 := 121) rfl dX12_undo_120 g126.1 (y_ix_in g126.2) ?_
              refine y_imul (pc2 := 122) rfl dX12_undo_121 ?_
              refine y_aload_n (x := p0) (pc2 := 123) rfl dX12_undo_122 rfl ?_
              obtain ⟨g125, hf⟩ := y_g hf
              refine y_getP (pc2 := 126) rfl dX12_undo_123 F_BoxYardModel_35 (by decide) rfl g125 ?_
              refine y_iload_n (pc2 := 127) rfl dX12_undo_126 rfl ?_
              obtain ⟨g124, hf⟩ := y_g hf
              refine y_iald (pc2 := 128) rfl dX12_undo_127 g124.1 (y_ix_in g124.2) ?_
              refine y_iadd (pc2 := 129) rfl dX12_undo_128 ?_
              refine y_iconst (v := (-1 : Int32)) (pc2 := 130) rfl dX12_undo_129 (by decide) ?_
              obtain ⟨g123, hf⟩ := y_g hf
              obtain ⟨h121, e122, hf⟩ := y_bdE hf
              refine y_iast (x := (-1 : Int32)) (pc2 := 131) rfl dX12_undo_130 g123.1 (y_ix_in g123.2) e122 ?_
              exact y_pk [4, 3, 2, 1, 0] rfl (hj131 _ _ _ _ _ _ hf)
          · replace hf := y_it c141 hf
            refine y_aload_n (x := p0) (pc2 := 72) rfl dX12_undo_71 rfl ?_
            obtain ⟨g140, hf⟩ := y_g hf
            refine y_getP (pc2 := 75) rfl dX12_undo_72 F_BoxYardModel_71 (by decide) rfl g140 ?_
            refine y_bipush (v := 6) (pc2 := 77) rfl dX12_undo_75 (by decide) ?_
            refine y_aload_n (x := p0) (pc2 := 78) rfl dX12_undo_77 rfl ?_
            obtain ⟨g139, hf⟩ := y_g hf
            refine y_getP (pc2 := 81) rfl dX12_undo_78 F_BoxYardModel_32 (by decide) rfl g139 ?_
            refine y_iload_n (pc2 := 82) rfl dX12_undo_81 rfl ?_
            obtain ⟨g138, hf⟩ := y_g hf
            refine y_iald (pc2 := 83) rfl dX12_undo_82 g138.1 (y_ix_in g138.2) ?_
            refine y_imul (pc2 := 84) rfl dX12_undo_83 ?_
            refine y_aload_n (x := p0) (pc2 := 85) rfl dX12_undo_84 rfl ?_
            obtain ⟨g137, hf⟩ := y_g hf
            refine y_getP (pc2 := 88) rfl dX12_undo_85 F_BoxYardModel_35 (by decide) rfl g137 ?_
            refine y_iload_n (pc2 := 89) rfl dX12_undo_88 rfl ?_
            obtain ⟨g136, hf⟩ := y_g hf
            refine y_iald (pc2 := 90) rfl dX12_undo_89 g136.1 (y_ix_in g136.2) ?_
            refine y_iadd (pc2 := 91) rfl dX12_undo_90 ?_
            refine y_dup2 (pc2 := 92) rfl dX12_undo_91 rfl (y_p_cat _) ?_
            obtain ⟨g135, hf⟩ := y_g hf
            refine y_iald (pc2 := 93) rfl dX12_undo_92 g135.1 (y_ix_in g135.2) ?_
            refine y_iconst (v := 1) (pc2 := 94) rfl dX12_undo_93 (by decide) ?_
            refine y_isub (pc2 := 95) rfl dX12_undo_94 ?_
            obtain ⟨g134, hf⟩ := y_g hf
            obtain ⟨h132, e133, hf⟩ := y_bdE hf
            refine y_iast (x := (y_I h1 (y_P h1 p0 22) (Int32.toNatClampNeg ((6 * (y_I h1 (y_P h1 p0 8) (Int32.toNatClampNeg (y_I h1 (y_P h1 p0 51) (Int32.toNatClampNeg ((14 * (y_I h1 p0 50)) + 5)))))) + (y_I h1 (y_P h1 p0 9) (Int32.toNatClampNeg (y_I h1 (y_P h1 p0 51) (Int32.toNatClampNeg ((14 * (y_I h1 p0 50)) + 5)))))))) - 1) (pc2 := 96) rfl dX12_undo_95 g134.1 (y_ix_in g134.2) e133 ?_
            refine y_goto (tgt := 131) dX12_undo_96 (by decide) ?_
            exact y_pk [4, 3, 2, 1, 0] rfl (hj131 _ _ _ _ _ _ hf)
  · replace hf := y_it c153 hf
    refine y_bipush (v := (-3 : Int32)) (pc2 := 9) rfl dX12_undo_7 (by decide) ?_
    exact y_iretF hf dX12_undo_9 rfl (by decide) (by decide)
theorem dX12_mixed_0 : decode cX12_mixed 0 = .ok (.lload_n 0, 1) := by decide +kernel
theorem dX12_mixed_1 : decode cX12_mixed 1 = .ok (.lload_n 2, 1) := by decide +kernel
theorem dX12_mixed_2 : decode cX12_mixed 2 = .ok (.lxor, 1) := by decide +kernel
theorem dX12_mixed_3 : decode cX12_mixed 3 = .ok (.ldc2_w 440, 3) := by decide +kernel
theorem dX12_mixed_6 : decode cX12_mixed 6 = .ok (.lmul, 1) := by decide +kernel
theorem dX12_mixed_7 : decode cX12_mixed 7 = .ok (.lstore 4, 2) := by decide +kernel
theorem dX12_mixed_9 : decode cX12_mixed 9 = .ok (.lload 4, 2) := by decide +kernel
theorem dX12_mixed_11 : decode cX12_mixed 11 = .ok (.lload 4, 2) := by decide +kernel
theorem dX12_mixed_13 : decode cX12_mixed 13 = .ok (.bipush 29, 2) := by decide +kernel
theorem dX12_mixed_15 : decode cX12_mixed 15 = .ok (.lushr, 1) := by decide +kernel
theorem dX12_mixed_16 : decode cX12_mixed 16 = .ok (.lxor, 1) := by decide +kernel
theorem dX12_mixed_17 : decode cX12_mixed 17 = .ok (.lreturn, 1) := by decide +kernel
def M_X12_mixed : y_M := (yX12_mixed, cX12_mixed, 6, (Option.some Jvm.ClassFile.FieldType.long))
theorem n_X12_mixed : y_N0 M_X12_mixed 2 := ⟨(c_10 154 (by decide +kernel) rfl), (c_1 9 (by decide +kernel) rfl), ⟨by decide +kernel, by decide +kernel⟩, by decide +kernel⟩
set_option maxRecDepth 100000 in
def f_X12_mixed (p0 : Int64) (p2 : Int64) (h : y_H) : Option (Int64 × y_H) :=
  some (((p0 ^^^ p2) * (-7046029254386353131 : Int64)) ^^^ (y_lush ((p0 ^^^ p2) * (-7046029254386353131 : Int64)) 29), h)
abbrev rm_X12_mixed : Room := { frames := 0, cells := 0, slots := 0, locals := 0 }
set_option maxRecDepth 100000 in
set_option maxHeartbeats 4000000 in
theorem k_X12_mixed {l : Launch} {G : y_G} {p0 : Int64} {p2 : Int64} {h hz : y_H} {rz : Int64} (hf : f_X12_mixed p0 p2 h = some (rz, hz)) : y_S l G M_X12_mixed rm_X12_mixed [.long p0, .long p2] h (some (.long rz)) hz := by
  refine y_start (lv := [(0, .long p0), (2, .long p2)]) (by decide) (by simp [lg_sl, y_p_cat, y_ci, y_cj, M_X12_mixed]) (by simp [lv_args, y_p_cat, y_ci, y_cj]) (fun z ad0 => ?_)
  unfold f_X12_mixed at hf
  refine y_lload_n (pc2 := 1) rfl dX12_mixed_0 rfl ?_
  refine y_lload_n (pc2 := 2) rfl dX12_mixed_1 rfl ?_
  refine y_lxor (pc2 := 3) rfl dX12_mixed_2 ?_
  refine y_ldc2 (v := (-7046029254386353131 : Int64)) (pc2 := 6) rfl dX12_mixed_3 k_BoxYardModel_440 ?_
  refine y_lmul (pc2 := 7) rfl dX12_mixed_6 ?_
  refine y_lstore (lv' := [(4, .long ((p0 ^^^ p2) * (-7046029254386353131 : Int64))), (0, .long p0), (2, .long p2)]) (pc2 := 9) rfl dX12_mixed_7 (by decide) rfl ?_
  refine y_lload (pc2 := 11) rfl dX12_mixed_9 rfl ?_
  refine y_lload (pc2 := 13) rfl dX12_mixed_11 rfl ?_
  refine y_bipush (v := 29) (pc2 := 15) rfl dX12_mixed_13 (by decide) ?_
  refine y_lus (pc2 := 16) rfl dX12_mixed_15 ?_
  refine y_lxor (pc2 := 17) rfl dX12_mixed_16 ?_
  exact y_lretF hf dX12_mixed_17 rfl (by decide) (by decide)
