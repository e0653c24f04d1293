theorem dX11_run_0 : decode cX11_run 0 = .ok (.aload_n 0, 1) := by decide +kernel
theorem dX11_run_1 : decode cX11_run 1 = .ok (.getfield 10, 3) := by decide +kernel
theorem dX11_run_4 : decode cX11_run 4 = .ok (.getfield 77, 3) := by decide +kernel
theorem dX11_run_7 : decode cX11_run 7 = .ok (.invokevirtual 81, 3) := by decide +kernel
theorem dX11_run_10 : decode cX11_run 10 = .ok (.aload_n 0, 1) := by decide +kernel
theorem dX11_run_11 : decode cX11_run 11 = .ok (.getfield 35, 3) := by decide +kernel
theorem dX11_run_14 : decode cX11_run 14 = .ok (.iload_n 1, 1) := by decide +kernel
theorem dX11_run_15 : decode cX11_run 15 = .ok (.invokevirtual 408, 3) := by decide +kernel
theorem dX11_run_18 : decode cX11_run 18 = .ok (.ifCond .ne 5, 3) := by decide +kernel
theorem dX11_run_21 : decode cX11_run 21 = .ok (.iconst (-1), 1) := by decide +kernel
theorem dX11_run_22 : decode cX11_run 22 = .ok (.ireturn, 1) := by decide +kernel
theorem dX11_run_23 : decode cX11_run 23 = .ok (.aload_n 0, 1) := by decide +kernel
theorem dX11_run_24 : decode cX11_run 24 = .ok (.aload_n 0, 1) := by decide +kernel
theorem dX11_run_25 : decode cX11_run 25 = .ok (.getfield 35, 3) := by decide +kernel
theorem dX11_run_28 : decode cX11_run 28 = .ok (.iload_n 1, 1) := by decide +kernel
theorem dX11_run_29 : decode cX11_run 29 = .ok (.invokevirtual 415, 3) := by decide +kernel
theorem dX11_run_32 : decode cX11_run 32 = .ok (.invokevirtual 102, 3) := by decide +kernel
theorem dX11_run_35 : decode cX11_run 35 = .ok (.ireturn, 1) := by decide +kernel
def M_X11_run : y_M := (yX11_run, cX11_run, 2, (Option.some Jvm.ClassFile.FieldType.int))
theorem n_X11_run : y_N0 M_X11_run 1 := ⟨(c_6 133 (by decide +kernel) rfl), (c_1 1 (by decide +kernel) rfl), ⟨by decide +kernel, by decide +kernel⟩, by decide +kernel⟩
theorem l_BoxYard_415 : y_lnk "BoxYard" 415 M_X8_work := Or.inl (c_6 134 (by decide +kernel) rfl)
theorem i_X8_work : Cond.instanceMethod (M_X8_work).1 ∈ y_tb := (c_6 135 (by decide +kernel) rfl)
theorem e_X8_work : Cond.selects (M_X8_work).1.cls (M_X8_work).1 (M_X8_work).1 ∈ y_tb := (c_6 136 (by decide +kernel) rfl)
set_option maxRecDepth 100000 in
def f_X11_run (p0 : Nat) (p1 : Int32) (c0 s0 : Nat) (h : y_H) : Option ((Int32 × Nat × Nat) × y_H) :=
  if y_K h p0 = 12 then
  if y_K h (y_P h p0 0) = 11 then
  if y_K h (y_P h (y_P h p0 0) 12) = 10 then
  y_cl (f_X9_begin (y_P h (y_P h p0 0) 12) h) (fun _ h1 =>
  if y_K h1 p0 = 12 then
  if y_K h1 (y_P h1 p0 3) = 9 then
  y_cl (f_X8_has (y_P h1 p0 3) p1 h1) (fun r3 h4 =>
  if r3 = true then
    if y_K h4 p0 = 12 then
    if y_K h4 (y_P h4 p0 3) = 9 then
    y_cl (f_X8_work (y_P h4 p0 3) p1 c0 s0 h4) (fun r6 h7 =>
    if y_K h7 p0 = 12 then
    y_cl (f_X11_counted p0 r6.1 h7) (fun r9 h10 =>
    some ((r9, r6.2.1, r6.2.2), h10))
    else none)
    else none
    else none
  else
    some (((-1 : Int32), c0, s0), h4))
  else none
  else none)
  else none
  else none
  else none
abbrev FF_X11_run : Nat := 23
abbrev LL_X11_run : Nat := 3362
set_option maxRecDepth 100000 in
set_option maxHeartbeats 4000000 in
theorem k_X11_run {l : Launch} {G : y_G} {p0 : Nat} {p1 : Int32} {c0 s0 cz sz : Nat} {h hz : y_H} {rz : Int32} (hf : f_X11_run p0 p1 c0 s0 h = some ((rz, cz, sz), hz)) : (c0 ≤ cz ∧ s0 ≤ sz) ∧ y_S l G M_X11_run (y_Rm FF_X11_run LL_X11_run c0 s0 cz sz) [y_p p0, .int p1] h (some (.int rz)) hz := by
  refine y_Ustart (lv := [(0, y_p p0), (1, .int p1)]) (by decide) (by simp [lg_sl, y_p_cat, y_ci, y_cj, M_X11_run]) (by simp [lv_args, y_p_cat, y_ci, y_cj]) (fun z ad0 => ?_)
  unfold f_X11_run at hf
  refine y_lf (fun _ _ _ _ k => y_aload_n (x := p0) (pc2 := 1) rfl dX11_run_0 rfl k) ?_
  obtain ⟨g20, hf⟩ := y_g hf
  refine y_lf (fun _ _ _ _ k => y_getP (pc2 := 4) rfl dX11_run_1 F_BoxYard_10 (by decide) rfl g20 k) ?_
  obtain ⟨g19, hf⟩ := y_g hf
  refine y_lf (fun _ _ _ _ k => y_getP (pc2 := 7) rfl dX11_run_4 F_BoxYard_77 (by decide) rfl g19 k) ?_
  obtain ⟨g18, hf⟩ := y_g hf
  obtain ⟨r_, h1, c2, hf⟩ := y_clE hf
  refine y_UcV0 (As := []) (rm := rm_X9_begin) (pc2 := 10) rfl dX11_run_7 n_X9_begin l_BoxYard_81 i_X9_begin e_X9_begin (ci := 9) rfl rfl (by decide) g18 rfl rfl (by decide) (by decide) rfl rfl (k_X9_begin c2) ?_
  refine y_lf (fun _ _ _ _ k => y_aload_n (x := p0) (pc2 := 11) rfl dX11_run_10 rfl k) ?_
  obtain ⟨g17, hf⟩ := y_g hf
  refine y_lf (fun _ _ _ _ k => y_getP (pc2 := 14) rfl dX11_run_11 F_BoxYard_35 (by decide) rfl g17 k) ?_
  refine y_lf (fun _ _ _ _ k => y_iload_n (pc2 := 15) rfl dX11_run_14 rfl k) ?_
  obtain ⟨g16, hf⟩ := y_g hf
  obtain ⟨r3, h4, c5, hf⟩ := y_clE hf
  refine y_UcV0 (As := [.int p1]) (rm := rm_X8_has) (pc2 := 18) rfl dX11_run_15 n_X8_has l_BoxYard_408 i_X8_has e_X8_has (ci := 8) rfl rfl (by decide) g16 rfl rfl (by decide) (by decide) rfl rfl (k_X8_has c5) ?_
  refine y_lf2 (Classical.em _) (fun _ _ k1 k2 => y_ifz_ne (tgt := 23) (pc2 := 21) rfl dX11_run_18 (by decide) k1 k2) (fun c15 => ?_) (fun c15 => ?_)
  · replace hf := y_it c15 hf
    refine y_lf (fun _ _ _ _ k => y_aload_n (x := p0) (pc2 := 24) rfl dX11_run_23 rfl k) ?_
    refine y_lf (fun _ _ _ _ k => y_aload_n (x := p0) (pc2 := 25) rfl dX11_run_24 rfl k) ?_
    obtain ⟨g14, hf⟩ := y_g hf
    refine y_lf (fun _ _ _ _ k => y_getP (pc2 := 28) rfl dX11_run_25 F_BoxYard_35 (by decide) rfl g14 k) ?_
    refine y_lf (fun _ _ _ _ k => y_iload_n (pc2 := 29) rfl dX11_run_28 rfl k) ?_
    obtain ⟨g13, hf⟩ := y_g hf
    obtain ⟨r6, h7, c8, hf⟩ := y_clE hf
    refine y_UcallV (As := [.int p1]) (pc2 := 32) rfl dX11_run_29 n_X8_work l_BoxYard_415 i_X8_work e_X8_work (ci := 8) rfl rfl (by decide) g13 rfl rfl (by decide) (by simp [y_ci, y_cj, y_p_cat]) (k_X8_work c8) ?_
    obtain ⟨g12, hf⟩ := y_g hf
    obtain ⟨r9, h10, c11, hf⟩ := y_clE hf
    refine y_UcV0 (As := [.int r6.1]) (rm := rm_X11_counted) (pc2 := 35) rfl dX11_run_32 n_X11_counted l_BoxYard_102 i_X11_counted e_X11_counted (ci := 11) rfl rfl (by decide) g12 rfl rfl (by decide) (by decide) rfl rfl (k_X11_counted c11) ?_
    exact y_iretU hf dX11_run_35 rfl
  · replace hf := y_ie c15 hf
    refine y_lf (fun _ _ _ _ k => y_iconst (v := (-1 : Int32)) (pc2 := 22) rfl dX11_run_21 (by decide) k) ?_
    exact y_iretU hf dX11_run_22 rfl
theorem dX12_init_0 : decode cX12_init 0 = .ok (.aload_n 0, 1) := by decide +kernel
theorem dX12_init_1 : decode cX12_init 1 = .ok (.invokespecial 1, 3) := by decide +kernel
theorem dX12_init_4 : decode cX12_init 4 = .ok (.aload_n 0, 1) := by decide +kernel
theorem dX12_init_5 : decode cX12_init 5 = .ok (.bipush 80, 2) := by decide +kernel
theorem dX12_init_7 : decode cX12_init 7 = .ok (.newarray .int, 2) := by decide +kernel
theorem dX12_init_9 : decode cX12_init 9 = .ok (.putfield 7, 3) := by decide +kernel
theorem dX12_init_12 : decode cX12_init 12 = .ok (.aload_n 0, 1) := by decide +kernel
theorem dX12_init_13 : decode cX12_init 13 = .ok (.bipush 80, 2) := by decide +kernel
theorem dX12_init_15 : decode cX12_init 15 = .ok (.newarray .int, 2) := by decide +kernel
theorem dX12_init_17 : decode cX12_init 17 = .ok (.putfield 13, 3) := by decide +kernel
theorem dX12_init_20 : decode cX12_init 20 = .ok (.aload_n 0, 1) := by decide +kernel
theorem dX12_init_21 : decode cX12_init 21 = .ok (.bipush 80, 2) := by decide +kernel
theorem dX12_init_23 : decode cX12_init 23 = .ok (.newarray .int, 2) := by decide +kernel
theorem dX12_init_25 : decode cX12_init 25 = .ok (.putfield 16, 3) := by decide +kernel
theorem dX12_init_28 : decode cX12_init 28 = .ok (.aload_n 0, 1) := by decide +kernel
theorem dX12_init_29 : decode cX12_init 29 = .ok (.bipush 80, 2) := by decide +kernel
theorem dX12_init_31 : decode cX12_init 31 = .ok (.newarray .int, 2) := by decide +kernel
theorem dX12_init_33 : decode cX12_init 33 = .ok (.putfield 19, 3) := by decide +kernel
theorem dX12_init_36 : decode cX12_init 36 = .ok (.aload_n 0, 1) := by decide +kernel
theorem dX12_init_37 : decode cX12_init 37 = .ok (.bipush 80, 2) := by decide +kernel
theorem dX12_init_39 : decode cX12_init 39 = .ok (.newarray .int, 2) := by decide +kernel
theorem dX12_init_41 : decode cX12_init 41 = .ok (.putfield 22, 3) := by decide +kernel
theorem dX12_init_44 : decode cX12_init 44 = .ok (.aload_n 0, 1) := by decide +kernel
theorem dX12_init_45 : decode cX12_init 45 = .ok (.bipush 80, 2) := by decide +kernel
theorem dX12_init_47 : decode cX12_init 47 = .ok (.newarray .boolean, 2) := by decide +kernel
theorem dX12_init_49 : decode cX12_init 49 = .ok (.putfield 25, 3) := by decide +kernel
theorem dX12_init_52 : decode cX12_init 52 = .ok (.aload_n 0, 1) := by decide +kernel
theorem dX12_init_53 : decode cX12_init 53 = .ok (.bipush 80, 2) := by decide +kernel
theorem dX12_init_55 : decode cX12_init 55 = .ok (.newarray .int, 2) := by decide +kernel
theorem dX12_init_57 : decode cX12_init 57 = .ok (.putfield 29, 3) := by decide +kernel
theorem dX12_init_60 : decode cX12_init 60 = .ok (.aload_n 0, 1) := by decide +kernel
theorem dX12_init_61 : decode cX12_init 61 = .ok (.bipush 80, 2) := by decide +kernel
theorem dX12_init_63 : decode cX12_init 63 = .ok (.newarray .int, 2) := by decide +kernel
theorem dX12_init_65 : decode cX12_init 65 = .ok (.putfield 32, 3) := by decide +kernel
theorem dX12_init_68 : decode cX12_init 68 = .ok (.aload_n 0, 1) := by decide +kernel
theorem dX12_init_69 : decode cX12_init 69 = .ok (.bipush 80, 2) := by decide +kernel
theorem dX12_init_71 : decode cX12_init 71 = .ok (.newarray .int, 2) := by decide +kernel
theorem dX12_init_73 : decode cX12_init 73 = .ok (.putfield 35, 3) := by decide +kernel
theorem dX12_init_76 : decode cX12_init 76 = .ok (.aload_n 0, 1) := by decide +kernel
theorem dX12_init_77 : decode cX12_init 77 = .ok (.bipush 80, 2) := by decide +kernel
theorem dX12_init_79 : decode cX12_init 79 = .ok (.newarray .int, 2) := by decide +kernel
theorem dX12_init_81 : decode cX12_init 81 = .ok (.putfield 38, 3) := by decide +kernel
theorem dX12_init_84 : decode cX12_init 84 = .ok (.aload_n 0, 1) := by decide +kernel
theorem dX12_init_85 : decode cX12_init 85 = .ok (.bipush 80, 2) := by decide +kernel
theorem dX12_init_87 : decode cX12_init 87 = .ok (.newarray .int, 2) := by decide +kernel
theorem dX12_init_89 : decode cX12_init 89 = .ok (.putfield 41, 3) := by decide +kernel
theorem dX12_init_92 : decode cX12_init 92 = .ok (.aload_n 0, 1) := by decide +kernel
theorem dX12_init_93 : decode cX12_init 93 = .ok (.bipush 80, 2) := by decide +kernel
theorem dX12_init_95 : decode cX12_init 95 = .ok (.newarray .int, 2) := by decide +kernel
theorem dX12_init_97 : decode cX12_init 97 = .ok (.putfield 44, 3) := by decide +kernel
theorem dX12_init_100 : decode cX12_init 100 = .ok (.aload_n 0, 1) := by decide +kernel
theorem dX12_init_101 : decode cX12_init 101 = .ok (.bipush 80, 2) := by decide +kernel
theorem dX12_init_103 : decode cX12_init 103 = .ok (.newarray .int, 2) := by decide +kernel
theorem dX12_init_105 : decode cX12_init 105 = .ok (.putfield 47, 3) := by decide +kernel
theorem dX12_init_108 : decode cX12_init 108 = .ok (.aload_n 0, 1) := by decide +kernel
theorem dX12_init_109 : decode cX12_init 109 = .ok (.bipush 80, 2) := by decide +kernel
theorem dX12_init_111 : decode cX12_init 111 = .ok (.newarray .int, 2) := by decide +kernel
theorem dX12_init_113 : decode cX12_init 113 = .ok (.putfield 50, 3) := by decide +kernel
theorem dX12_init_116 : decode cX12_init 116 = .ok (.aload_n 0, 1) := by decide +kernel
theorem dX12_init_117 : decode cX12_init 117 = .ok (.bipush 80, 2) := by decide +kernel
theorem dX12_init_119 : decode cX12_init 119 = .ok (.newarray .int, 2) := by decide +kernel
theorem dX12_init_121 : decode cX12_init 121 = .ok (.putfield 53, 3) := by decide +kernel
theorem dX12_init_124 : decode cX12_init 124 = .ok (.aload_n 0, 1) := by decide +kernel
theorem dX12_init_125 : decode cX12_init 125 = .ok (.bipush 10, 2) := by decide +kernel
theorem dX12_init_127 : decode cX12_init 127 = .ok (.newarray .boolean, 2) := by decide +kernel
theorem dX12_init_129 : decode cX12_init 129 = .ok (.putfield 56, 3) := by decide +kernel
theorem dX12_init_132 : decode cX12_init 132 = .ok (.aload_n 0, 1) := by decide +kernel
theorem dX12_init_133 : decode cX12_init 133 = .ok (.bipush 10, 2) := by decide +kernel
theorem dX12_init_135 : decode cX12_init 135 = .ok (.newarray .int, 2) := by decide +kernel
theorem dX12_init_137 : decode cX12_init 137 = .ok (.putfield 59, 3) := by decide +kernel
theorem dX12_init_140 : decode cX12_init 140 = .ok (.aload_n 0, 1) := by decide +kernel
theorem dX12_init_141 : decode cX12_init 141 = .ok (.bipush 10, 2) := by decide +kernel
theorem dX12_init_143 : decode cX12_init 143 = .ok (.newarray .int, 2) := by decide +kernel
theorem dX12_init_145 : decode cX12_init 145 = .ok (.putfield 62, 3) := by decide +kernel
theorem dX12_init_148 : decode cX12_init 148 = .ok (.aload_n 0, 1) := by decide +kernel
theorem dX12_init_149 : decode cX12_init 149 = .ok (.bipush 60, 2) := by decide +kernel
theorem dX12_init_151 : decode cX12_init 151 = .ok (.newarray .int, 2) := by decide +kernel
theorem dX12_init_153 : decode cX12_init 153 = .ok (.putfield 65, 3) := by decide +kernel
theorem dX12_init_156 : decode cX12_init 156 = .ok (.aload_n 0, 1) := by decide +kernel
theorem dX12_init_157 : decode cX12_init 157 = .ok (.bipush 60, 2) := by decide +kernel
theorem dX12_init_159 : decode cX12_init 159 = .ok (.newarray .int, 2) := by decide +kernel
theorem dX12_init_161 : decode cX12_init 161 = .ok (.putfield 68, 3) := by decide +kernel
theorem dX12_init_164 : decode cX12_init 164 = .ok (.aload_n 0, 1) := by decide +kernel
theorem dX12_init_165 : decode cX12_init 165 = .ok (.bipush 60, 2) := by decide +kernel
theorem dX12_init_167 : decode cX12_init 167 = .ok (.newarray .int, 2) := by decide +kernel
theorem dX12_init_169 : decode cX12_init 169 = .ok (.putfield 71, 3) := by decide +kernel
theorem dX12_init_172 : decode cX12_init 172 = .ok (.aload_n 0, 1) := by decide +kernel
theorem dX12_init_173 : decode cX12_init 173 = .ok (.sipush 300, 3) := by decide +kernel
theorem dX12_init_176 : decode cX12_init 176 = .ok (.newarray .int, 2) := by decide +kernel
theorem dX12_init_178 : decode cX12_init 178 = .ok (.putfield 74, 3) := by decide +kernel
theorem dX12_init_181 : decode cX12_init 181 = .ok (.aload_n 0, 1) := by decide +kernel
theorem dX12_init_182 : decode cX12_init 182 = .ok (.bipush 25, 2) := by decide +kernel
theorem dX12_init_184 : decode cX12_init 184 = .ok (.newarray .int, 2) := by decide +kernel
theorem dX12_init_186 : decode cX12_init 186 = .ok (.putfield 77, 3) := by decide +kernel
theorem dX12_init_189 : decode cX12_init 189 = .ok (.aload_n 0, 1) := by decide +kernel
theorem dX12_init_190 : decode cX12_init 190 = .ok (.bipush 12, 2) := by decide +kernel
theorem dX12_init_192 : decode cX12_init 192 = .ok (.newarray .int, 2) := by decide +kernel
theorem dX12_init_194 : decode cX12_init 194 = .ok (.putfield 80, 3) := by decide +kernel
theorem dX12_init_197 : decode cX12_init 197 = .ok (.aload_n 0, 1) := by decide +kernel
theorem dX12_init_198 : decode cX12_init 198 = .ok (.bipush 12, 2) := by decide +kernel
theorem dX12_init_200 : decode cX12_init 200 = .ok (.newarray .int, 2) := by decide +kernel
theorem dX12_init_202 : decode cX12_init 202 = .ok (.putfield 83, 3) := by decide +kernel
theorem dX12_init_205 : decode cX12_init 205 = .ok (.aload_n 0, 1) := by decide +kernel
theorem dX12_init_206 : decode cX12_init 206 = .ok (.bipush 12, 2) := by decide +kernel
theorem dX12_init_208 : decode cX12_init 208 = .ok (.newarray .int, 2) := by decide +kernel
theorem dX12_init_210 : decode cX12_init 210 = .ok (.putfield 86, 3) := by decide +kernel
theorem dX12_init_213 : decode cX12_init 213 = .ok (.aload_n 0, 1) := by decide +kernel
theorem dX12_init_214 : decode cX12_init 214 = .ok (.bipush 12, 2) := by decide +kernel
theorem dX12_init_216 : decode cX12_init 216 = .ok (.newarray .int, 2) := by decide +kernel
theorem dX12_init_218 : decode cX12_init 218 = .ok (.putfield 89, 3) := by decide +kernel
theorem dX12_init_221 : decode cX12_init 221 = .ok (.aload_n 0, 1) := by decide +kernel
theorem dX12_init_222 : decode cX12_init 222 = .ok (.bipush 12, 2) := by decide +kernel
theorem dX12_init_224 : decode cX12_init 224 = .ok (.newarray .int, 2) := by decide +kernel
theorem dX12_init_226 : decode cX12_init 226 = .ok (.putfield 92, 3) := by decide +kernel
theorem dX12_init_229 : decode cX12_init 229 = .ok (.aload_n 0, 1) := by decide +kernel
theorem dX12_init_230 : decode cX12_init 230 = .ok (.bipush 12, 2) := by decide +kernel
theorem dX12_init_232 : decode cX12_init 232 = .ok (.newarray .int, 2) := by decide +kernel
theorem dX12_init_234 : decode cX12_init 234 = .ok (.putfield 95, 3) := by decide +kernel
theorem dX12_init_237 : decode cX12_init 237 = .ok (.aload_n 0, 1) := by decide +kernel
theorem dX12_init_238 : decode cX12_init 238 = .ok (.iconst 3, 1) := by decide +kernel
theorem dX12_init_239 : decode cX12_init 239 = .ok (.newarray .int, 2) := by decide +kernel
theorem dX12_init_241 : decode cX12_init 241 = .ok (.putfield 98, 3) := by decide +kernel
theorem dX12_init_244 : decode cX12_init 244 = .ok (.aload_n 0, 1) := by decide +kernel
theorem dX12_init_245 : decode cX12_init 245 = .ok (.iconst 3, 1) := by decide +kernel
theorem dX12_init_246 : decode cX12_init 246 = .ok (.newarray .int, 2) := by decide +kernel
theorem dX12_init_248 : decode cX12_init 248 = .ok (.putfield 101, 3) := by decide +kernel
theorem dX12_init_251 : decode cX12_init 251 = .ok (.aload_n 0, 1) := by decide +kernel
theorem dX12_init_252 : decode cX12_init 252 = .ok (.iconst 3, 1) := by decide +kernel
theorem dX12_init_253 : decode cX12_init 253 = .ok (.newarray .int, 2) := by decide +kernel
theorem dX12_init_255 : decode cX12_init 255 = .ok (.putfield 104, 3) := by decide +kernel
theorem dX12_init_258 : decode cX12_init 258 = .ok (.aload_n 0, 1) := by decide +kernel
theorem dX12_init_259 : decode cX12_init 259 = .ok (.iconst 3, 1) := by decide +kernel
theorem dX12_init_260 : decode cX12_init 260 = .ok (.newarray .int, 2) := by decide +kernel
theorem dX12_init_262 : decode cX12_init 262 = .ok (.putfield 107, 3) := by decide +kernel
theorem dX12_init_265 : decode cX12_init 265 = .ok (.aload_n 0, 1) := by decide +kernel
theorem dX12_init_266 : decode cX12_init 266 = .ok (.iconst 3, 1) := by decide +kernel
theorem dX12_init_267 : decode cX12_init 267 = .ok (.newarray .int, 2) := by decide +kernel
theorem dX12_init_269 : decode cX12_init 269 = .ok (.putfield 110, 3) := by decide +kernel
theorem dX12_init_272 : decode cX12_init 272 = .ok (.aload_n 0, 1) := by decide +kernel
theorem dX12_init_273 : decode cX12_init 273 = .ok (.sipush 162, 3) := by decide +kernel
theorem dX12_init_276 : decode cX12_init 276 = .ok (.newarray .int, 2) := by decide +kernel
theorem dX12_init_278 : decode cX12_init 278 = .ok (.putfield 113, 3) := by decide +kernel
theorem dX12_init_281 : decode cX12_init 281 = .ok (.aload_n 0, 1) := by decide +kernel
theorem dX12_init_282 : decode cX12_init 282 = .ok (.bipush 9, 2) := by decide +kernel
theorem dX12_init_284 : decode cX12_init 284 = .ok (.newarray .int, 2) := by decide +kernel
theorem dX12_init_286 : decode cX12_init 286 = .ok (.putfield 116, 3) := by decide +kernel
theorem dX12_init_289 : decode cX12_init 289 = .ok (.aload_n 0, 1) := by decide +kernel
theorem dX12_init_290 : decode cX12_init 290 = .ok (.bipush 24, 2) := by decide +kernel
theorem dX12_init_292 : decode cX12_init 292 = .ok (.newarray .int, 2) := by decide +kernel
theorem dX12_init_294 : decode cX12_init 294 = .ok (.putfield 119, 3) := by decide +kernel
theorem dX12_init_297 : decode cX12_init 297 = .ok (.aload_n 0, 1) := by decide +kernel
theorem dX12_init_298 : decode cX12_init 298 = .ok (.iconst 3, 1) := by decide +kernel
theorem dX12_init_299 : decode cX12_init 299 = .ok (.newarray .int, 2) := by decide +kernel
theorem dX12_init_301 : decode cX12_init 301 = .ok (.putfield 122, 3) := by decide +kernel
theorem dX12_init_304 : decode cX12_init 304 = .ok (.aload_n 0, 1) := by decide +kernel
theorem dX12_init_305 : decode cX12_init 305 = .ok (.iconst 3, 1) := by decide +kernel
theorem dX12_init_306 : decode cX12_init 306 = .ok (.newarray .int, 2) := by decide +kernel
theorem dX12_init_308 : decode cX12_init 308 = .ok (.putfield 125, 3) := by decide +kernel
theorem dX12_init_311 : decode cX12_init 311 = .ok (.aload_n 0, 1) := by decide +kernel
theorem dX12_init_312 : decode cX12_init 312 = .ok (.iconst 3, 1) := by decide +kernel
theorem dX12_init_313 : decode cX12_init 313 = .ok (.newarray .int, 2) := by decide +kernel
theorem dX12_init_315 : decode cX12_init 315 = .ok (.putfield 128, 3) := by decide +kernel
theorem dX12_init_318 : decode cX12_init 318 = .ok (.aload_n 0, 1) := by decide +kernel
theorem dX12_init_319 : decode cX12_init 319 = .ok (.bipush 100, 2) := by decide +kernel
theorem dX12_init_321 : decode cX12_init 321 = .ok (.newarray .int, 2) := by decide +kernel
theorem dX12_init_323 : decode cX12_init 323 = .ok (.putfield 131, 3) := by decide +kernel
theorem dX12_init_326 : decode cX12_init 326 = .ok (.aload_n 0, 1) := by decide +kernel
theorem dX12_init_327 : decode cX12_init 327 = .ok (.bipush 8, 2) := by decide +kernel
theorem dX12_init_329 : decode cX12_init 329 = .ok (.newarray .int, 2) := by decide +kernel
theorem dX12_init_331 : decode cX12_init 331 = .ok (.putfield 134, 3) := by decide +kernel
theorem dX12_init_334 : decode cX12_init 334 = .ok (.aload_n 0, 1) := by decide +kernel
theorem dX12_init_335 : decode cX12_init 335 = .ok (.sipush 854, 3) := by decide +kernel
theorem dX12_init_338 : decode cX12_init 338 = .ok (.newarray .int, 2) := by decide +kernel
theorem dX12_init_340 : decode cX12_init 340 = .ok (.putfield 137, 3) := by decide +kernel
theorem dX12_init_343 : decode cX12_init 343 = .ok (.aload_n 0, 1) := by decide +kernel
theorem dX12_init_344 : decode cX12_init 344 = .ok (.bipush (-9), 2) := by decide +kernel
theorem dX12_init_346 : decode cX12_init 346 = .ok (.putfield 140, 3) := by decide +kernel
theorem dX12_init_349 : decode cX12_init 349 = .ok (.aload_n 0, 1) := by decide +kernel
theorem dX12_init_350 : decode cX12_init 350 = .ok (.iconst 5, 1) := by decide +kernel
theorem dX12_init_351 : decode cX12_init 351 = .ok (.newarray .int, 2) := by decide +kernel
theorem dX12_init_353 : decode cX12_init 353 = .ok (.putfield 144, 3) := by decide +kernel
theorem dX12_init_356 : decode cX12_init 356 = .ok (.aload_n 0, 1) := by decide +kernel
theorem dX12_init_357 : decode cX12_init 357 = .ok (.bipush (-9), 2) := by decide +kernel
theorem dX12_init_359 : decode cX12_init 359 = .ok (.putfield 147, 3) := by decide +kernel
theorem dX12_init_362 : decode cX12_init 362 = .ok (.aload_n 0, 1) := by decide +kernel
theorem dX12_init_363 : decode cX12_init 363 = .ok (.sipush 4000, 3) := by decide +kernel
theorem dX12_init_366 : decode cX12_init 366 = .ok (.newarray .int, 2) := by decide +kernel
theorem dX12_init_368 : decode cX12_init 368 = .ok (.putfield 150, 3) := by decide +kernel
theorem dX12_init_371 : decode cX12_init 371 = .ok (.aload_n 0, 1) := by decide +kernel
theorem dX12_init_372 : decode cX12_init 372 = .ok (.sipush 4000, 3) := by decide +kernel
theorem dX12_init_375 : decode cX12_init 375 = .ok (.newarray .int, 2) := by decide +kernel
theorem dX12_init_377 : decode cX12_init 377 = .ok (.putfield 153, 3) := by decide +kernel
theorem dX12_init_380 : decode cX12_init 380 = .ok (.aload_n 0, 1) := by decide +kernel
theorem dX12_init_381 : decode cX12_init 381 = .ok (.ldc 156, 2) := by decide +kernel
theorem dX12_init_383 : decode cX12_init 383 = .ok (.newarray .long, 2) := by decide +kernel
theorem dX12_init_385 : decode cX12_init 385 = .ok (.putfield 157, 3) := by decide +kernel
theorem dX12_init_388 : decode cX12_init 388 = .ok (.aload_n 0, 1) := by decide +kernel
theorem dX12_init_389 : decode cX12_init 389 = .ok (.ldc 156, 2) := by decide +kernel
theorem dX12_init_391 : decode cX12_init 391 = .ok (.newarray .int, 2) := by decide +kernel
theorem dX12_init_393 : decode cX12_init 393 = .ok (.putfield 161, 3) := by decide +kernel
theorem dX12_init_396 : decode cX12_init 396 = .ok (.aload_n 0, 1) := by decide +kernel
theorem dX12_init_397 : decode cX12_init 397 = .ok (.ldc 156, 2) := by decide +kernel
theorem dX12_init_399 : decode cX12_init 399 = .ok (.newarray .int, 2) := by decide +kernel
theorem dX12_init_401 : decode cX12_init 401 = .ok (.putfield 164, 3) := by decide +kernel
theorem dX12_init_404 : decode cX12_init 404 = .ok (.aload_n 0, 1) := by decide +kernel
theorem dX12_init_405 : decode cX12_init 405 = .ok (.ldc 167, 2) := by decide +kernel
theorem dX12_init_407 : decode cX12_init 407 = .ok (.newarray .int, 2) := by decide +kernel
theorem dX12_init_409 : decode cX12_init 409 = .ok (.putfield 168, 3) := by decide +kernel
theorem dX12_init_412 : decode cX12_init 412 = .ok (.aload_n 0, 1) := by decide +kernel
theorem dX12_init_413 : decode cX12_init 413 = .ok (.bipush 6, 2) := by decide +kernel
theorem dX12_init_415 : decode cX12_init 415 = .ok (.newarray .int, 2) := by decide +kernel
theorem dX12_init_417 : decode cX12_init 417 = .ok (.putfield 171, 3) := by decide +kernel
theorem dX12_init_420 : decode cX12_init 420 = .ok (.aload_n 0, 1) := by decide +kernel
theorem dX12_init_421 : decode cX12_init 421 = .ok (.bipush 6, 2) := by decide +kernel
theorem dX12_init_423 : decode cX12_init 423 = .ok (.newarray .int, 2) := by decide +kernel
theorem dX12_init_425 : decode cX12_init 425 = .ok (.putfield 174, 3) := by decide +kernel
theorem dX12_init_428 : decode cX12_init 428 = .ok (.aload_n 0, 1) := by decide +kernel
theorem dX12_init_429 : decode cX12_init 429 = .ok (.bipush 30, 2) := by decide +kernel
theorem dX12_init_431 : decode cX12_init 431 = .ok (.newarray .int, 2) := by decide +kernel
theorem dX12_init_433 : decode cX12_init 433 = .ok (.putfield 177, 3) := by decide +kernel
theorem dX12_init_436 : decode cX12_init 436 = .ok (.aload_n 0, 1) := by decide +kernel
theorem dX12_init_437 : decode cX12_init 437 = .ok (.bipush 6, 2) := by decide +kernel
theorem dX12_init_439 : decode cX12_init 439 = .ok (.newarray .int, 2) := by decide +kernel
theorem dX12_init_441 : decode cX12_init 441 = .ok (.putfield 180, 3) := by decide +kernel
theorem dX12_init_444 : decode cX12_init 444 = .ok (.aload_n 0, 1) := by decide +kernel
theorem dX12_init_445 : decode cX12_init 445 = .ok (.bipush 60, 2) := by decide +kernel
theorem dX12_init_447 : decode cX12_init 447 = .ok (.newarray .int, 2) := by decide +kernel
theorem dX12_init_449 : decode cX12_init 449 = .ok (.putfield 183, 3) := by decide +kernel
theorem dX12_init_452 : decode cX12_init 452 = .ok (.aload_n 0, 1) := by decide +kernel
theorem dX12_init_453 : decode cX12_init 453 = .ok (.bipush 60, 2) := by decide +kernel
theorem dX12_init_455 : decode cX12_init 455 = .ok (.newarray .int, 2) := by decide +kernel
theorem dX12_init_457 : decode cX12_init 457 = .ok (.putfield 186, 3) := by decide +kernel
theorem dX12_init_460 : decode cX12_init 460 = .ok (.aload_n 0, 1) := by decide +kernel
theorem dX12_init_461 : decode cX12_init 461 = .ok (.bipush 60, 2) := by decide +kernel
theorem dX12_init_463 : decode cX12_init 463 = .ok (.newarray .int, 2) := by decide +kernel
theorem dX12_init_465 : decode cX12_init 465 = .ok (.putfield 189, 3) := by decide +kernel
theorem dX12_init_468 : decode cX12_init 468 = .ok (.aload_n 0, 1) := by decide +kernel
theorem dX12_init_469 : decode cX12_init 469 = .ok (.sipush 512, 3) := by decide +kernel
theorem dX12_init_472 : decode cX12_init 472 = .ok (.newarray .int, 2) := by decide +kernel
theorem dX12_init_474 : decode cX12_init 474 = .ok (.putfield 192, 3) := by decide +kernel
theorem dX12_init_477 : decode cX12_init 477 = .ok (.aload_n 0, 1) := by decide +kernel
theorem dX12_init_478 : decode cX12_init 478 = .ok (.iconst 4, 1) := by decide +kernel
theorem dX12_init_479 : decode cX12_init 479 = .ok (.newarray .int, 2) := by decide +kernel
theorem dX12_init_481 : decode cX12_init 481 = .ok (.putfield 195, 3) := by decide +kernel
theorem dX12_init_484 : decode cX12_init 484 = .ok (.aload_n 0, 1) := by decide +kernel
theorem dX12_init_485 : decode cX12_init 485 = .ok (.bipush (-9), 2) := by decide +kernel
theorem dX12_init_487 : decode cX12_init 487 = .ok (.putfield 198, 3) := by decide +kernel
theorem dX12_init_490 : decode cX12_init 490 = .ok (.aload_n 0, 1) := by decide +kernel
theorem dX12_init_491 : decode cX12_init 491 = .ok (.bipush (-9), 2) := by decide +kernel
theorem dX12_init_493 : decode cX12_init 493 = .ok (.putfield 201, 3) := by decide +kernel
theorem dX12_init_496 : decode cX12_init 496 = .ok (.aload_n 0, 1) := by decide +kernel
theorem dX12_init_497 : decode cX12_init 497 = .ok (.bipush (-9), 2) := by decide +kernel
theorem dX12_init_499 : decode cX12_init 499 = .ok (.putfield 204, 3) := by decide +kernel
theorem dX12_init_502 : decode cX12_init 502 = .ok (.aload_n 0, 1) := by decide +kernel
theorem dX12_init_503 : decode cX12_init 503 = .ok (.bipush 12, 2) := by decide +kernel
theorem dX12_init_505 : decode cX12_init 505 = .ok (.newarray .int, 2) := by decide +kernel
theorem dX12_init_507 : decode cX12_init 507 = .ok (.putfield 207, 3) := by decide +kernel
theorem dX12_init_510 : decode cX12_init 510 = .ok (.aload_n 0, 1) := by decide +kernel
theorem dX12_init_511 : decode cX12_init 511 = .ok (.bipush 12, 2) := by decide +kernel
theorem dX12_init_513 : decode cX12_init 513 = .ok (.newarray .int, 2) := by decide +kernel
theorem dX12_init_515 : decode cX12_init 515 = .ok (.putfield 210, 3) := by decide +kernel
theorem dX12_init_518 : decode cX12_init 518 = .ok (.aload_n 0, 1) := by decide +kernel
theorem dX12_init_519 : decode cX12_init 519 = .ok (.bipush 12, 2) := by decide +kernel
theorem dX12_init_521 : decode cX12_init 521 = .ok (.newarray .int, 2) := by decide +kernel
theorem dX12_init_523 : decode cX12_init 523 = .ok (.putfield 213, 3) := by decide +kernel
theorem dX12_init_526 : decode cX12_init 526 = .ok (.aload_n 0, 1) := by decide +kernel
theorem dX12_init_527 : decode cX12_init 527 = .ok (.bipush 12, 2) := by decide +kernel
theorem dX12_init_529 : decode cX12_init 529 = .ok (.newarray .int, 2) := by decide +kernel
theorem dX12_init_531 : decode cX12_init 531 = .ok (.putfield 216, 3) := by decide +kernel
theorem dX12_init_534 : decode cX12_init 534 = .ok (.aload_n 0, 1) := by decide +kernel
theorem dX12_init_535 : decode cX12_init 535 = .ok (.bipush 12, 2) := by decide +kernel
theorem dX12_init_537 : decode cX12_init 537 = .ok (.newarray .int, 2) := by decide +kernel
theorem dX12_init_539 : decode cX12_init 539 = .ok (.putfield 219, 3) := by decide +kernel
theorem dX12_init_542 : decode cX12_init 542 = .ok (.aload_n 0, 1) := by decide +kernel
theorem dX12_init_543 : decode cX12_init 543 = .ok (.sipush 400, 3) := by decide +kernel
theorem dX12_init_546 : decode cX12_init 546 = .ok (.newarray .int, 2) := by decide +kernel
theorem dX12_init_548 : decode cX12_init 548 = .ok (.putfield 222, 3) := by decide +kernel
theorem dX12_init_551 : decode cX12_init 551 = .ok (.aload_n 0, 1) := by decide +kernel
theorem dX12_init_552 : decode cX12_init 552 = .ok (.bipush 36, 2) := by decide +kernel
theorem dX12_init_554 : decode cX12_init 554 = .ok (.newarray .int, 2) := by decide +kernel
theorem dX12_init_556 : decode cX12_init 556 = .ok (.putfield 225, 3) := by decide +kernel
theorem dX12_init_559 : decode cX12_init 559 = .ok (.aload_n 0, 1) := by decide +kernel
theorem dX12_init_560 : decode cX12_init 560 = .ok (.bipush 6, 2) := by decide +kernel
theorem dX12_init_562 : decode cX12_init 562 = .ok (.newarray .int, 2) := by decide +kernel
theorem dX12_init_564 : decode cX12_init 564 = .ok (.putfield 228, 3) := by decide +kernel
theorem dX12_init_567 : decode cX12_init 567 = .ok (.aload_n 0, 1) := by decide +kernel
theorem dX12_init_568 : decode cX12_init 568 = .ok (.invokevirtual 231, 3) := by decide +kernel
theorem dX12_init_571 : decode cX12_init 571 = .ok (.return_, 1) := by decide +kernel
def M_X12_init : y_M := (yX12_init, cX12_init, 1, (Option.none : Option Jvm.ClassFile.FieldType))
theorem n_X12_init : y_N0 M_X12_init 0 := ⟨(c_7 114 (by decide +kernel) rfl), (c_1 9 (by decide +kernel) rfl), ⟨by decide +kernel, by decide +kernel⟩, by decide +kernel⟩
theorem l_BoxYardModel_1 : Cond.methodLink "BoxYardModel" 1 Lib.objectInit ∈ y_tb := (c_7 115 (by decide +kernel) rfl)
theorem Fp_BoxYardModel_7_i : y_Fp "BoxYardModel" "<init>" 7 12 1 := ⟨_, _, _, rfl, by decide, Or.inr ⟨rfl, rfl, rfl, (c_7 123 (by decide +kernel) rfl)⟩⟩
theorem Fp_BoxYardModel_13_i : y_Fp "BoxYardModel" "<init>" 13 12 2 := ⟨_, _, _, rfl, by decide, Or.inr ⟨rfl, rfl, rfl, (c_7 124 (by decide +kernel) rfl)⟩⟩
theorem Fp_BoxYardModel_16_i : y_Fp "BoxYardModel" "<init>" 16 12 3 := ⟨_, _, _, rfl, by decide, Or.inr ⟨rfl, rfl, rfl, (c_7 125 (by decide +kernel) rfl)⟩⟩
theorem Fp_BoxYardModel_19_i : y_Fp "BoxYardModel" "<init>" 19 12 4 := ⟨_, _, _, rfl, by decide, Or.inr ⟨rfl, rfl, rfl, (c_7 126 (by decide +kernel) rfl)⟩⟩
theorem Fp_BoxYardModel_22_i : y_Fp "BoxYardModel" "<init>" 22 12 5 := ⟨_, _, _, rfl, by decide, Or.inr ⟨rfl, rfl, rfl, (c_7 127 (by decide +kernel) rfl)⟩⟩
theorem Fp_BoxYardModel_25_i : y_Fp "BoxYardModel" "<init>" 25 12 6 := ⟨_, _, _, rfl, by decide, Or.inr ⟨rfl, rfl, rfl, (c_7 128 (by decide +kernel) rfl)⟩⟩
theorem Fp_BoxYardModel_29_i : y_Fp "BoxYardModel" "<init>" 29 12 7 := ⟨_, _, _, rfl, by decide, Or.inr ⟨rfl, rfl, rfl, (c_7 129 (by decide +kernel) rfl)⟩⟩
theorem Fp_BoxYardModel_32_i : y_Fp "BoxYardModel" "<init>" 32 12 8 := ⟨_, _, _, rfl, by decide, Or.inr ⟨rfl, rfl, rfl, (c_7 130 (by decide +kernel) rfl)⟩⟩
theorem Fp_BoxYardModel_35_i : y_Fp "BoxYardModel" "<init>" 35 12 9 := ⟨_, _, _, rfl, by decide, Or.inr ⟨rfl, rfl, rfl, (c_7 131 (by decide +kernel) rfl)⟩⟩
theorem Fp_BoxYardModel_38_i : y_Fp "BoxYardModel" "<init>" 38 12 10 := ⟨_, _, _, rfl, by decide, Or.inr ⟨rfl, rfl, rfl, (c_7 132 (by decide +kernel) rfl)⟩⟩
theorem Fp_BoxYardModel_41_i : y_Fp "BoxYardModel" "<init>" 41 12 11 := ⟨_, _, _, rfl, by decide, Or.inr ⟨rfl, rfl, rfl, (c_7 133 (by decide +kernel) rfl)⟩⟩
theorem Fp_BoxYardModel_44_i : y_Fp "BoxYardModel" "<init>" 44 12 12 := ⟨_, _, _, rfl, by decide, Or.inr ⟨rfl, rfl, rfl, (c_7 134 (by decide +kernel) rfl)⟩⟩
theorem Fp_BoxYardModel_47_i : y_Fp "BoxYardModel" "<init>" 47 12 13 := ⟨_, _, _, rfl, by decide, Or.inr ⟨rfl, rfl, rfl, (c_7 135 (by decide +kernel) rfl)⟩⟩
theorem Fp_BoxYardModel_50_i : y_Fp "BoxYardModel" "<init>" 50 12 14 := ⟨_, _, _, rfl, by decide, Or.inr ⟨rfl, rfl, rfl, (c_7 136 (by decide +kernel) rfl)⟩⟩
theorem Fp_BoxYardModel_53_i : y_Fp "BoxYardModel" "<init>" 53 12 15 := ⟨_, _, _, rfl, by decide, Or.inr ⟨rfl, rfl, rfl, (c_7 137 (by decide +kernel) rfl)⟩⟩
theorem Fp_BoxYardModel_56_i : y_Fp "BoxYardModel" "<init>" 56 12 17 := ⟨_, _, _, rfl, by decide, Or.inr ⟨rfl, rfl, rfl, (c_7 139 (by decide +kernel) rfl)⟩⟩
theorem Fp_BoxYardModel_59_i : y_Fp "BoxYardModel" "<init>" 59 12 18 := ⟨_, _, _, rfl, by decide, Or.inr ⟨rfl, rfl, rfl, (c_7 140 (by decide +kernel) rfl)⟩⟩
theorem Fp_BoxYardModel_62_i : y_Fp "BoxYardModel" "<init>" 62 12 19 := ⟨_, _, _, rfl, by decide, Or.inr ⟨rfl, rfl, rfl, (c_7 141 (by decide +kernel) rfl)⟩⟩
theorem Fp_BoxYardModel_65_i : y_Fp "BoxYardModel" "<init>" 65 12 20 := ⟨_, _, _, rfl, by decide, Or.inr ⟨rfl, rfl, rfl, (c_7 142 (by decide +kernel) rfl)⟩⟩
theorem Fp_BoxYardModel_68_i : y_Fp "BoxYardModel" "<init>" 68 12 21 := ⟨_, _, _, rfl, by decide, Or.inr ⟨rfl, rfl, rfl, (c_7 143 (by decide +kernel) rfl)⟩⟩
theorem Fp_BoxYardModel_71_i : y_Fp "BoxYardModel" "<init>" 71 12 22 := ⟨_, _, _, rfl, by decide, Or.inr ⟨rfl, rfl, rfl, (c_7 144 (by decide +kernel) rfl)⟩⟩
theorem Fp_BoxYardModel_74_i : y_Fp "BoxYardModel" "<init>" 74 12 23 := ⟨_, _, _, rfl, by decide, Or.inr ⟨rfl, rfl, rfl, (c_7 145 (by decide +kernel) rfl)⟩⟩
theorem Fp_BoxYardModel_77_i : y_Fp "BoxYardModel" "<init>" 77 12 24 := ⟨_, _, _, rfl, by decide, Or.inr ⟨rfl, rfl, rfl, (c_7 146 (by decide +kernel) rfl)⟩⟩
theorem Fp_BoxYardModel_80_i : y_Fp "BoxYardModel" "<init>" 80 12 26 := ⟨_, _, _, rfl, by decide, Or.inr ⟨rfl, rfl, rfl, (c_7 148 (by decide +kernel) rfl)⟩⟩
theorem Fp_BoxYardModel_83_i : y_Fp "BoxYardModel" "<init>" 83 12 27 := ⟨_, _, _, rfl, by decide, Or.inr ⟨rfl, rfl, rfl, (c_7 149 (by decide +kernel) rfl)⟩⟩
theorem Fp_BoxYardModel_86_i : y_Fp "BoxYardModel" "<init>" 86 12 28 := ⟨_, _, _, rfl, by decide, Or.inr ⟨rfl, rfl, rfl, (c_7 150 (by decide +kernel) rfl)⟩⟩
theorem Fp_BoxYardModel_89_i : y_Fp "BoxYardModel" "<init>" 89 12 29 := ⟨_, _, _, rfl, by decide, Or.inr ⟨rfl, rfl, rfl, (c_7 151 (by decide +kernel) rfl)⟩⟩
theorem Fp_BoxYardModel_92_i : y_Fp "BoxYardModel" "<init>" 92 12 30 := ⟨_, _, _, rfl, by decide, Or.inr ⟨rfl, rfl, rfl, (c_7 152 (by decide +kernel) rfl)⟩⟩
theorem Fp_BoxYardModel_95_i : y_Fp "BoxYardModel" "<init>" 95 12 31 := ⟨_, _, _, rfl, by decide, Or.inr ⟨rfl, rfl, rfl, (c_7 153 (by decide +kernel) rfl)⟩⟩
theorem Fp_BoxYardModel_98_i : y_Fp "BoxYardModel" "<init>" 98 12 32 := ⟨_, _, _, rfl, by decide, Or.inr ⟨rfl, rfl, rfl, (c_7 154 (by decide +kernel) rfl)⟩⟩
theorem Fp_BoxYardModel_101_i : y_Fp "BoxYardModel" "<init>" 101 12 35 := ⟨_, _, _, rfl, by decide, Or.inr ⟨rfl, rfl, rfl, (c_7 157 (by decide +kernel) rfl)⟩⟩
theorem Fp_BoxYardModel_104_i : y_Fp "BoxYardModel" "<init>" 104 12 36 := ⟨_, _, _, rfl, by decide, Or.inr ⟨rfl, rfl, rfl, (c_7 158 (by decide +kernel) rfl)⟩⟩
theorem Fp_BoxYardModel_107_i : y_Fp "BoxYardModel" "<init>" 107 12 37 := ⟨_, _, _, rfl, by decide, Or.inr ⟨rfl, rfl, rfl, (c_7 159 (by decide +kernel) rfl)⟩⟩
theorem Fp_BoxYardModel_110_i : y_Fp "BoxYardModel" "<init>" 110 12 38 := ⟨_, _, _, rfl, by decide, Or.inr ⟨rfl, rfl, rfl, (c_7 160 (by decide +kernel) rfl)⟩⟩
theorem Fp_BoxYardModel_113_i : y_Fp "BoxYardModel" "<init>" 113 12 39 := ⟨_, _, _, rfl, by decide, Or.inr ⟨rfl, rfl, rfl, (c_7 161 (by decide +kernel) rfl)⟩⟩
theorem Fp_BoxYardModel_116_i : y_Fp "BoxYardModel" "<init>" 116 12 40 := ⟨_, _, _, rfl, by decide, Or.inr ⟨rfl, rfl, rfl, (c_7 162 (by decide +kernel) rfl)⟩⟩
theorem Fp_BoxYardModel_119_i : y_Fp "BoxYardModel" "<init>" 119 12 41 := ⟨_, _, _, rfl, by decide, Or.inr ⟨rfl, rfl, rfl, (c_7 163 (by decide +kernel) rfl)⟩⟩
theorem Fp_BoxYardModel_122_i : y_Fp "BoxYardModel" "<init>" 122 12 42 := ⟨_, _, _, rfl, by decide, Or.inr ⟨rfl, rfl, rfl, (c_7 164 (by decide +kernel) rfl)⟩⟩
theorem Fp_BoxYardModel_125_i : y_Fp "BoxYardModel" "<init>" 125 12 43 := ⟨_, _, _, rfl, by decide, Or.inr ⟨rfl, rfl, rfl, (c_7 165 (by decide +kernel) rfl)⟩⟩
theorem Fp_BoxYardModel_128_i : y_Fp "BoxYardModel" "<init>" 128 12 44 := ⟨_, _, _, rfl, by decide, Or.inr ⟨rfl, rfl, rfl, (c_7 166 (by decide +kernel) rfl)⟩⟩
theorem Fp_BoxYardModel_131_i : y_Fp "BoxYardModel" "<init>" 131 12 45 := ⟨_, _, _, rfl, by decide, Or.inr ⟨rfl, rfl, rfl, (c_7 167 (by decide +kernel) rfl)⟩⟩
theorem Fp_BoxYardModel_134_i : y_Fp "BoxYardModel" "<init>" 134 12 48 := ⟨_, _, _, rfl, by decide, Or.inr ⟨rfl, rfl, rfl, (c_7 170 (by decide +kernel) rfl)⟩⟩
theorem Fp_BoxYardModel_137_i : y_Fp "BoxYardModel" "<init>" 137 12 51 := ⟨_, _, _, rfl, by decide, Or.inr ⟨rfl, rfl, rfl, (c_7 173 (by decide +kernel) rfl)⟩⟩
theorem Fp_BoxYardModel_140_i {nm : String} : y_Fp "BoxYardModel" nm 140 12 52 := ⟨_, _, _, rfl, by decide, Or.inl ⟨rfl, Or.inl (c_7 174 (by decide +kernel) rfl)⟩⟩
theorem Fp_BoxYardModel_144_i : y_Fp "BoxYardModel" "<init>" 144 12 56 := ⟨_, _, _, rfl, by decide, Or.inr ⟨rfl, rfl, rfl, (c_7 178 (by decide +kernel) rfl)⟩⟩
theorem Fp_BoxYardModel_147_i {nm : String} : y_Fp "BoxYardModel" nm 147 12 59 := ⟨_, _, _, rfl, by decide, Or.inl ⟨rfl, Or.inl (c_7 181 (by decide +kernel) rfl)⟩⟩
theorem Fp_BoxYardModel_150_i : y_Fp "BoxYardModel" "<init>" 150 12 60 := ⟨_, _, _, rfl, by decide, Or.inr ⟨rfl, rfl, rfl, (c_7 182 (by decide +kernel) rfl)⟩⟩
theorem Fp_BoxYardModel_153_i : y_Fp "BoxYardModel" "<init>" 153 12 61 := ⟨_, _, _, rfl, by decide, Or.inr ⟨rfl, rfl, rfl, (c_7 183 (by decide +kernel) rfl)⟩⟩
theorem k_BoxYardModel_156 : Cond.constant "BoxYardModel" 156 66000 ∈ y_tb := (c_7 116 (by decide +kernel) rfl)
theorem Fp_BoxYardModel_157_i : y_Fp "BoxYardModel" "<init>" 157 12 62 := ⟨_, _, _, rfl, by decide, Or.inr ⟨rfl, rfl, rfl, (c_7 184 (by decide +kernel) rfl)⟩⟩
theorem Fp_BoxYardModel_161_i : y_Fp "BoxYardModel" "<init>" 161 12 63 := ⟨_, _, _, rfl, by decide, Or.inr ⟨rfl, rfl, rfl, (c_7 185 (by decide +kernel) rfl)⟩⟩
theorem Fp_BoxYardModel_164_i : y_Fp "BoxYardModel" "<init>" 164 12 64 := ⟨_, _, _, rfl, by decide, Or.inr ⟨rfl, rfl, rfl, (c_7 186 (by decide +kernel) rfl)⟩⟩
theorem Fp_BoxYardModel_168_i : y_Fp "BoxYardModel" "<init>" 168 12 65 := ⟨_, _, _, rfl, by decide, Or.inr ⟨rfl, rfl, rfl, (c_7 187 (by decide +kernel) rfl)⟩⟩
theorem Fp_BoxYardModel_171_i : y_Fp "BoxYardModel" "<init>" 171 12 67 := ⟨_, _, _, rfl, by decide, Or.inr ⟨rfl, rfl, rfl, (c_7 189 (by decide +kernel) rfl)⟩⟩
theorem Fp_BoxYardModel_174_i : y_Fp "BoxYardModel" "<init>" 174 12 69 := ⟨_, _, _, rfl, by decide, Or.inr ⟨rfl, rfl, rfl, (c_7 191 (by decide +kernel) rfl)⟩⟩
theorem Fp_BoxYardModel_177_i : y_Fp "BoxYardModel" "<init>" 177 12 70 := ⟨_, _, _, rfl, by decide, Or.inr ⟨rfl, rfl, rfl, (c_7 192 (by decide +kernel) rfl)⟩⟩
theorem Fp_BoxYardModel_180_i : y_Fp "BoxYardModel" "<init>" 180 12 73 := ⟨_, _, _, rfl, by decide, Or.inr ⟨rfl, rfl, rfl, (c_7 195 (by decide +kernel) rfl)⟩⟩
theorem Fp_BoxYardModel_183_i : y_Fp "BoxYardModel" "<init>" 183 12 74 := ⟨_, _, _, rfl, by decide, Or.inr ⟨rfl, rfl, rfl, (c_7 196 (by decide +kernel) rfl)⟩⟩
theorem Fp_BoxYardModel_186_i : y_Fp "BoxYardModel" "<init>" 186 12 75 := ⟨_, _, _, rfl, by decide, Or.inr ⟨rfl, rfl, rfl, (c_7 197 (by decide +kernel) rfl)⟩⟩
theorem Fp_BoxYardModel_189_i : y_Fp "BoxYardModel" "<init>" 189 12 76 := ⟨_, _, _, rfl, by decide, Or.inr ⟨rfl, rfl, rfl, (c_7 198 (by decide +kernel) rfl)⟩⟩
theorem Fp_BoxYardModel_192_i : y_Fp "BoxYardModel" "<init>" 192 12 77 := ⟨_, _, _, rfl, by decide, Or.inr ⟨rfl, rfl, rfl, (c_7 199 (by decide +kernel) rfl)⟩⟩
theorem Fp_BoxYardModel_195_i : y_Fp "BoxYardModel" "<init>" 195 12 78 := ⟨_, _, _, rfl, by decide, Or.inr ⟨rfl, rfl, rfl, (c_7 200 (by decide +kernel) rfl)⟩⟩
theorem Fp_BoxYardModel_198_i {nm : String} : y_Fp "BoxYardModel" nm 198 12 81 := ⟨_, _, _, rfl, by decide, Or.inl ⟨rfl, Or.inl (c_7 203 (by decide +kernel) rfl)⟩⟩
theorem Fp_BoxYardModel_201_i {nm : String} : y_Fp "BoxYardModel" nm 201 12 82 := ⟨_, _, _, rfl, by decide, Or.inl ⟨rfl, Or.inl (c_7 204 (by decide +kernel) rfl)⟩⟩
theorem Fp_BoxYardModel_204_i {nm : String} : y_Fp "BoxYardModel" nm 204 12 83 := ⟨_, _, _, rfl, by decide, Or.inl ⟨rfl, Or.inl (c_7 205 (by decide +kernel) rfl)⟩⟩
theorem Fp_BoxYardModel_207_i : y_Fp "BoxYardModel" "<init>" 207 12 86 := ⟨_, _, _, rfl, by decide, Or.inr ⟨rfl, rfl, rfl, (c_7 208 (by decide +kernel) rfl)⟩⟩
theorem Fp_BoxYardModel_210_i : y_Fp "BoxYardModel" "<init>" 210 12 87 := ⟨_, _, _, rfl, by decide, Or.inr ⟨rfl, rfl, rfl, (c_7 209 (by decide +kernel) rfl)⟩⟩
theorem Fp_BoxYardModel_213_i : y_Fp "BoxYardModel" "<init>" 213 12 88 := ⟨_, _, _, rfl, by decide, Or.inr ⟨rfl, rfl, rfl, (c_7 210 (by decide +kernel) rfl)⟩⟩
theorem Fp_BoxYardModel_216_i : y_Fp "BoxYardModel" "<init>" 216 12 89 := ⟨_, _, _, rfl, by decide, Or.inr ⟨rfl, rfl, rfl, (c_7 211 (by decide +kernel) rfl)⟩⟩
theorem Fp_BoxYardModel_219_i : y_Fp "BoxYardModel" "<init>" 219 12 90 := ⟨_, _, _, rfl, by decide, Or.inr ⟨rfl, rfl, rfl, (c_7 212 (by decide +kernel) rfl)⟩⟩
theorem Fp_BoxYardModel_222_i : y_Fp "BoxYardModel" "<init>" 222 12 92 := ⟨_, _, _, rfl, by decide, Or.inr ⟨rfl, rfl, rfl, (c_7 214 (by decide +kernel) rfl)⟩⟩
theorem Fp_BoxYardModel_225_i : y_Fp "BoxYardModel" "<init>" 225 12 93 := ⟨_, _, _, rfl, by decide, Or.inr ⟨rfl, rfl, rfl, (c_7 215 (by decide +kernel) rfl)⟩⟩
theorem Fp_BoxYardModel_228_i : y_Fp "BoxYardModel" "<init>" 228 12 94 := ⟨_, _, _, rfl, by decide, Or.inr ⟨rfl, rfl, rfl, (c_7 216 (by decide +kernel) rfl)⟩⟩
set_option maxRecDepth 100000 in
def f_X12_init (p0 : Nat) (c0 s0 : Nat) (h : y_H) : Option ((Unit × Nat × Nat) × y_H) :=
  if y_K h p0 = 13 then
  if 10 ≤ 34 ∧ y_K h 34 = 0 ∧ ¬ (80 : Int32) < 0 ∧ Int32.toNatClampNeg (80 : Int32) * componentBytes (t_ay 0) ≤ 536870912 then
  y_bd (s_new h 34 100 (Int32.toNatClampNeg (80 : Int32))) (fun h4 =>
  if y_K h4 p0 = 13 then
  y_bd (s_P h4 p0 1 34) (fun h5 =>
  if 10 ≤ 98 ∧ y_K h5 98 = 0 ∧ ¬ (80 : Int32) < 0 ∧ Int32.toNatClampNeg (80 : Int32) * componentBytes (t_ay 0) ≤ 536870912 then
  y_bd (s_new h5 98 100 (Int32.toNatClampNeg (80 : Int32))) (fun h10 =>
  if y_K h10 p0 = 13 then
  y_bd (s_P h10 p0 2 98) (fun h11 =>
  if 10 ≤ 162 ∧ y_K h11 162 = 0 ∧ ¬ (80 : Int32) < 0 ∧ Int32.toNatClampNeg (80 : Int32) * componentBytes (t_ay 0) ≤ 536870912 then
  y_bd (s_new h11 162 100 (Int32.toNatClampNeg (80 : Int32))) (fun h16 =>
  if y_K h16 p0 = 13 then
  y_bd (s_P h16 p0 3 162) (fun h17 =>
  if 10 ≤ 226 ∧ y_K h17 226 = 0 ∧ ¬ (80 : Int32) < 0 ∧ Int32.toNatClampNeg (80 : Int32) * componentBytes (t_ay 0) ≤ 536870912 then
  y_bd (s_new h17 226 100 (Int32.toNatClampNeg (80 : Int32))) (fun h22 =>
  if y_K h22 p0 = 13 then
  y_bd (s_P h22 p0 4 226) (fun h23 =>
  if 10 ≤ 290 ∧ y_K h23 290 = 0 ∧ ¬ (80 : Int32) < 0 ∧ Int32.toNatClampNeg (80 : Int32) * componentBytes (t_ay 0) ≤ 536870912 then
  y_bd (s_new h23 290 100 (Int32.toNatClampNeg (80 : Int32))) (fun h28 =>
  if y_K h28 p0 = 13 then
  y_bd (s_P h28 p0 5 290) (fun h29 =>
  if 10 ≤ 354 ∧ y_K h29 354 = 0 ∧ ¬ (80 : Int32) < 0 ∧ Int32.toNatClampNeg (80 : Int32) * componentBytes (t_ay 2) ≤ 536870912 then
  y_bd (s_new h29 354 102 (Int32.toNatClampNeg (80 : Int32))) (fun h34 =>
  if y_K h34 p0 = 13 then
  y_bd (s_P h34 p0 6 354) (fun h35 =>
  if 10 ≤ 418 ∧ y_K h35 418 = 0 ∧ ¬ (80 : Int32) < 0 ∧ Int32.toNatClampNeg (80 : Int32) * componentBytes (t_ay 0) ≤ 536870912 then
  y_bd (s_new h35 418 100 (Int32.toNatClampNeg (80 : Int32))) (fun h40 =>
  if y_K h40 p0 = 13 then
  y_bd (s_P h40 p0 7 418) (fun h41 =>
  if 10 ≤ 482 ∧ y_K h41 482 = 0 ∧ ¬ (80 : Int32) < 0 ∧ Int32.toNatClampNeg (80 : Int32) * componentBytes (t_ay 0) ≤ 536870912 then
  y_bd (s_new h41 482 100 (Int32.toNatClampNeg (80 : Int32))) (fun h46 =>
  if y_K h46 p0 = 13 then
  y_bd (s_P h46 p0 8 482) (fun h47 =>
  if 10 ≤ 546 ∧ y_K h47 546 = 0 ∧ ¬ (80 : Int32) < 0 ∧ Int32.toNatClampNeg (80 : Int32) * componentBytes (t_ay 0) ≤ 536870912 then
  y_bd (s_new h47 546 100 (Int32.toNatClampNeg (80 : Int32))) (fun h52 =>
  if y_K h52 p0 = 13 then
  y_bd (s_P h52 p0 9 546) (fun h53 =>
  if 10 ≤ 610 ∧ y_K h53 610 = 0 ∧ ¬ (80 : Int32) < 0 ∧ Int32.toNatClampNeg (80 : Int32) * componentBytes (t_ay 0) ≤ 536870912 then
  y_bd (s_new h53 610 100 (Int32.toNatClampNeg (80 : Int32))) (fun h58 =>
  if y_K h58 p0 = 13 then
  y_bd (s_P h58 p0 10 610) (fun h59 =>
  if 10 ≤ 674 ∧ y_K h59 674 = 0 ∧ ¬ (80 : Int32) < 0 ∧ Int32.toNatClampNeg (80 : Int32) * componentBytes (t_ay 0) ≤ 536870912 then
  y_bd (s_new h59 674 100 (Int32.toNatClampNeg (80 : Int32))) (fun h64 =>
  if y_K h64 p0 = 13 then
  y_bd (s_P h64 p0 11 674) (fun h65 =>
  if 10 ≤ 738 ∧ y_K h65 738 = 0 ∧ ¬ (80 : Int32) < 0 ∧ Int32.toNatClampNeg (80 : Int32) * componentBytes (t_ay 0) ≤ 536870912 then
  y_bd (s_new h65 738 100 (Int32.toNatClampNeg (80 : Int32))) (fun h70 =>
  if y_K h70 p0 = 13 then
  y_bd (s_P h70 p0 12 738) (fun h71 =>
  if 10 ≤ 802 ∧ y_K h71 802 = 0 ∧ ¬ (80 : Int32) < 0 ∧ Int32.toNatClampNeg (80 : Int32) * componentBytes (t_ay 0) ≤ 536870912 then
  y_bd (s_new h71 802 100 (Int32.toNatClampNeg (80 : Int32))) (fun h76 =>
  if y_K h76 p0 = 13 then
  y_bd (s_P h76 p0 13 802) (fun h77 =>
  if 10 ≤ 866 ∧ y_K h77 866 = 0 ∧ ¬ (80 : Int32) < 0 ∧ Int32.toNatClampNeg (80 : Int32) * componentBytes (t_ay 0) ≤ 536870912 then
  y_bd (s_new h77 866 100 (Int32.toNatClampNeg (80 : Int32))) (fun h82 =>
  if y_K h82 p0 = 13 then
  y_bd (s_P h82 p0 14 866) (fun h83 =>
  if 10 ≤ 930 ∧ y_K h83 930 = 0 ∧ ¬ (80 : Int32) < 0 ∧ Int32.toNatClampNeg (80 : Int32) * componentBytes (t_ay 0) ≤ 536870912 then
  y_bd (s_new h83 930 100 (Int32.toNatClampNeg (80 : Int32))) (fun h88 =>
  if y_K h88 p0 = 13 then
  y_bd (s_P h88 p0 15 930) (fun h89 =>
  if 10 ≤ 994 ∧ y_K h89 994 = 0 ∧ ¬ (10 : Int32) < 0 ∧ Int32.toNatClampNeg (10 : Int32) * componentBytes (t_ay 2) ≤ 536870912 then
  y_bd (s_new h89 994 102 (Int32.toNatClampNeg (10 : Int32))) (fun h94 =>
  if y_K h94 p0 = 13 then
  y_bd (s_P h94 p0 17 994) (fun h95 =>
  if 10 ≤ 1058 ∧ y_K h95 1058 = 0 ∧ ¬ (10 : Int32) < 0 ∧ Int32.toNatClampNeg (10 : Int32) * componentBytes (t_ay 0) ≤ 536870912 then
  y_bd (s_new h95 1058 100 (Int32.toNatClampNeg (10 : Int32))) (fun h100 =>
  if y_K h100 p0 = 13 then
  y_bd (s_P h100 p0 18 1058) (fun h101 =>
  if 10 ≤ 1122 ∧ y_K h101 1122 = 0 ∧ ¬ (10 : Int32) < 0 ∧ Int32.toNatClampNeg (10 : Int32) * componentBytes (t_ay 0) ≤ 536870912 then
  y_bd (s_new h101 1122 100 (Int32.toNatClampNeg (10 : Int32))) (fun h106 =>
  if y_K h106 p0 = 13 then
  y_bd (s_P h106 p0 19 1122) (fun h107 =>
  if 10 ≤ 1186 ∧ y_K h107 1186 = 0 ∧ ¬ (60 : Int32) < 0 ∧ Int32.toNatClampNeg (60 : Int32) * componentBytes (t_ay 0) ≤ 536870912 then
  y_bd (s_new h107 1186 100 (Int32.toNatClampNeg (60 : Int32))) (fun h112 =>
  if y_K h112 p0 = 13 then
  y_bd (s_P h112 p0 20 1186) (fun h113 =>
  if 10 ≤ 1250 ∧ y_K h113 1250 = 0 ∧ ¬ (60 : Int32) < 0 ∧ Int32.toNatClampNeg (60 : Int32) * componentBytes (t_ay 0) ≤ 536870912 then
  y_bd (s_new h113 1250 100 (Int32.toNatClampNeg (60 : Int32))) (fun h118 =>
  if y_K h118 p0 = 13 then
  y_bd (s_P h118 p0 21 1250) (fun h119 =>
  if 10 ≤ 1314 ∧ y_K h119 1314 = 0 ∧ ¬ (60 : Int32) < 0 ∧ Int32.toNatClampNeg (60 : Int32) * componentBytes (t_ay 0) ≤ 536870912 then
  y_bd (s_new h119 1314 100 (Int32.toNatClampNeg (60 : Int32))) (fun h124 =>
  if y_K h124 p0 = 13 then
  y_bd (s_P h124 p0 22 1314) (fun h125 =>
  if 10 ≤ 1378 ∧ y_K h125 1378 = 0 ∧ ¬ (300 : Int32) < 0 ∧ Int32.toNatClampNeg (300 : Int32) * componentBytes (t_ay 0) ≤ 536870912 then
  y_bd (s_new h125 1378 100 (Int32.toNatClampNeg (300 : Int32))) (fun h130 =>
  if y_K h130 p0 = 13 then
  y_bd (s_P h130 p0 23 1378) (fun h131 =>
  if 10 ≤ 1442 ∧ y_K h131 1442 = 0 ∧ ¬ (25 : Int32) < 0 ∧ Int32.toNatClampNeg (25 : Int32) * componentBytes (t_ay 0) ≤ 536870912 then
  y_bd (s_new h131 1442 100 (Int32.toNatClampNeg (25 : Int32))) (fun h136 =>
  if y_K h136 p0 = 13 then
  y_bd (s_P h136 p0 24 1442) (fun h137 =>
  if 10 ≤ 1506 ∧ y_K h137 1506 = 0 ∧ ¬ (12 : Int32) < 0 ∧ Int32.toNatClampNeg (12 : Int32) * componentBytes (t_ay 0) ≤ 536870912 then
  y_bd (s_new h137 1506 100 (Int32.toNatClampNeg (12 : Int32))) (fun h142 =>
  if y_K h142 p0 = 13 then
  y_bd (s_P h142 p0 26 1506) (fun h143 =>
  if 10 ≤ 1570 ∧ y_K h143 1570 = 0 ∧ ¬ (12 : Int32) < 0 ∧ Int32.toNatClampNeg (12 : Int32) * componentBytes (t_ay 0) ≤ 536870912 then
  y_bd (s_new h143 1570 100 (Int32.toNatClampNeg (12 : Int32))) (fun h148 =>
  if y_K h148 p0 = 13 then
  y_bd (s_P h148 p0 27 1570) (fun h149 =>
  if 10 ≤ 1634 ∧ y_K h149 1634 = 0 ∧ ¬ (12 : Int32) < 0 ∧ Int32.toNatClampNeg (12 : Int32) * componentBytes (t_ay 0) ≤ 536870912 then
  y_bd (s_new h149 1634 100 (Int32.toNatClampNeg (12 : Int32))) (fun h154 =>
  if y_K h154 p0 = 13 then
  y_bd (s_P h154 p0 28 1634) (fun h155 =>
  if 10 ≤ 1698 ∧ y_K h155 1698 = 0 ∧ ¬ (12 : Int32) < 0 ∧ Int32.toNatClampNeg (12 : Int32) * componentBytes (t_ay 0) ≤ 536870912 then
  y_bd (s_new h155 1698 100 (Int32.toNatClampNeg (12 : Int32))) (fun h160 =>
  if y_K h160 p0 = 13 then
  y_bd (s_P h160 p0 29 1698) (fun h161 =>
  if 10 ≤ 1762 ∧ y_K h161 1762 = 0 ∧ ¬ (12 : Int32) < 0 ∧ Int32.toNatClampNeg (12 : Int32) * componentBytes (t_ay 0) ≤ 536870912 then
  y_bd (s_new h161 1762 100 (Int32.toNatClampNeg (12 : Int32))) (fun h166 =>
  if y_K h166 p0 = 13 then
  y_bd (s_P h166 p0 30 1762) (fun h167 =>
  if 10 ≤ 1826 ∧ y_K h167 1826 = 0 ∧ ¬ (12 : Int32) < 0 ∧ Int32.toNatClampNeg (12 : Int32) * componentBytes (t_ay 0) ≤ 536870912 then
  y_bd (s_new h167 1826 100 (Int32.toNatClampNeg (12 : Int32))) (fun h172 =>
  if y_K h172 p0 = 13 then
  y_bd (s_P h172 p0 31 1826) (fun h173 =>
  if 10 ≤ 1890 ∧ y_K h173 1890 = 0 ∧ ¬ (3 : Int32) < 0 ∧ Int32.toNatClampNeg (3 : Int32) * componentBytes (t_ay 0) ≤ 536870912 then
  y_bd (s_new h173 1890 100 (Int32.toNatClampNeg (3 : Int32))) (fun h178 =>
  if y_K h178 p0 = 13 then
  y_bd (s_P h178 p0 32 1890) (fun h179 =>
  if 10 ≤ 1954 ∧ y_K h179 1954 = 0 ∧ ¬ (3 : Int32) < 0 ∧ Int32.toNatClampNeg (3 : Int32) * componentBytes (t_ay 0) ≤ 536870912 then
  y_bd (s_new h179 1954 100 (Int32.toNatClampNeg (3 : Int32))) (fun h184 =>
  if y_K h184 p0 = 13 then
  y_bd (s_P h184 p0 35 1954) (fun h185 =>
  if 10 ≤ 2018 ∧ y_K h185 2018 = 0 ∧ ¬ (3 : Int32) < 0 ∧ Int32.toNatClampNeg (3 : Int32) * componentBytes (t_ay 0) ≤ 536870912 then
  y_bd (s_new h185 2018 100 (Int32.toNatClampNeg (3 : Int32))) (fun h190 =>
  if y_K h190 p0 = 13 then
  y_bd (s_P h190 p0 36 2018) (fun h191 =>
  if 10 ≤ 2082 ∧ y_K h191 2082 = 0 ∧ ¬ (3 : Int32) < 0 ∧ Int32.toNatClampNeg (3 : Int32) * componentBytes (t_ay 0) ≤ 536870912 then
  y_bd (s_new h191 2082 100 (Int32.toNatClampNeg (3 : Int32))) (fun h196 =>
  if y_K h196 p0 = 13 then
  y_bd (s_P h196 p0 37 2082) (fun h197 =>
  if 10 ≤ 2146 ∧ y_K h197 2146 = 0 ∧ ¬ (3 : Int32) < 0 ∧ Int32.toNatClampNeg (3 : Int32) * componentBytes (t_ay 0) ≤ 536870912 then
  y_bd (s_new h197 2146 100 (Int32.toNatClampNeg (3 : Int32))) (fun h202 =>
  if y_K h202 p0 = 13 then
  y_bd (s_P h202 p0 38 2146) (fun h203 =>
  if 10 ≤ 2210 ∧ y_K h203 2210 = 0 ∧ ¬ (162 : Int32) < 0 ∧ Int32.toNatClampNeg (162 : Int32) * componentBytes (t_ay 0) ≤ 536870912 then
  y_bd (s_new h203 2210 100 (Int32.toNatClampNeg (162 : Int32))) (fun h208 =>
  if y_K h208 p0 = 13 then
  y_bd (s_P h208 p0 39 2210) (fun h209 =>
  if 10 ≤ 2274 ∧ y_K h209 2274 = 0 ∧ ¬ (9 : Int32) < 0 ∧ Int32.toNatClampNeg (9 : Int32) * componentBytes (t_ay 0) ≤ 536870912 then
  y_bd (s_new h209 2274 100 (Int32.toNatClampNeg (9 : Int32))) (fun h214 =>
  if y_K h214 p0 = 13 then
  y_bd (s_P h214 p0 40 2274) (fun h215 =>
  if 10 ≤ 2338 ∧ y_K h215 2338 = 0 ∧ ¬ (24 : Int32) < 0 ∧ Int32.toNatClampNeg (24 : Int32) * componentBytes (t_ay 0) ≤ 536870912 then
  y_bd (s_new h215 2338 100 (Int32.toNatClampNeg (24 : Int32))) (fun h220 =>
  if y_K h220 p0 = 13 then
  y_bd (s_P h220 p0 41 2338) (fun h221 =>
  if 10 ≤ 2402 ∧ y_K h221 2402 = 0 ∧ ¬ (3 : Int32) < 0 ∧ Int32.toNatClampNeg (3 : Int32) * componentBytes (t_ay 0) ≤ 536870912 then
  y_bd (s_new h221 2402 100 (Int32.toNatClampNeg (3 : Int32))) (fun h226 =>
  if y_K h226 p0 = 13 then
  y_bd (s_P h226 p0 42 2402) (fun h227 =>
  if 10 ≤ 2466 ∧ y_K h227 2466 = 0 ∧ ¬ (3 : Int32) < 0 ∧ Int32.toNatClampNeg (3 : Int32) * componentBytes (t_ay 0) ≤ 536870912 then
  y_bd (s_new h227 2466 100 (Int32.toNatClampNeg (3 : Int32))) (fun h232 =>
  if y_K h232 p0 = 13 then
  y_bd (s_P h232 p0 43 2466) (fun h233 =>
  if 10 ≤ 2530 ∧ y_K h233 2530 = 0 ∧ ¬ (3 : Int32) < 0 ∧ Int32.toNatClampNeg (3 : Int32) * componentBytes (t_ay 0) ≤ 536870912 then
  y_bd (s_new h233 2530 100 (Int32.toNatClampNeg (3 : Int32))) (fun h238 =>
  if y_K h238 p0 = 13 then
  y_bd (s_P h238 p0 44 2530) (fun h239 =>
  if 10 ≤ 2594 ∧ y_K h239 2594 = 0 ∧ ¬ (100 : Int32) < 0 ∧ Int32.toNatClampNeg (100 : Int32) * componentBytes (t_ay 0) ≤ 536870912 then
  y_bd (s_new h239 2594 100 (Int32.toNatClampNeg (100 : Int32))) (fun h244 =>
  if y_K h244 p0 = 13 then
  y_bd (s_P h244 p0 45 2594) (fun h245 =>
  if 10 ≤ 2658 ∧ y_K h245 2658 = 0 ∧ ¬ (8 : Int32) < 0 ∧ Int32.toNatClampNeg (8 : Int32) * componentBytes (t_ay 0) ≤ 536870912 then
  y_bd (s_new h245 2658 100 (Int32.toNatClampNeg (8 : Int32))) (fun h250 =>
  if y_K h250 p0 = 13 then
  y_bd (s_P h250 p0 48 2658) (fun h251 =>
  if 10 ≤ 2722 ∧ y_K h251 2722 = 0 ∧ ¬ (854 : Int32) < 0 ∧ Int32.toNatClampNeg (854 : Int32) * componentBytes (t_ay 0) ≤ 536870912 then
  y_bd (s_new h251 2722 100 (Int32.toNatClampNeg (854 : Int32))) (fun h256 =>
  if y_K h256 p0 = 13 then
  y_bd (s_P h256 p0 51 2722) (fun h257 =>
  if y_K h257 p0 = 13 then
  y_bd (s_I h257 p0 52 (-9 : Int32)) (fun h260 =>
  if 10 ≤ 2786 ∧ y_K h260 2786 = 0 ∧ ¬ (5 : Int32) < 0 ∧ Int32.toNatClampNeg (5 : Int32) * componentBytes (t_ay 0) ≤ 536870912 then
  y_bd (s_new h260 2786 100 (Int32.toNatClampNeg (5 : Int32))) (fun h265 =>
  if y_K h265 p0 = 13 then
  y_bd (s_P h265 p0 56 2786) (fun h266 =>
  if y_K h266 p0 = 13 then
  y_bd (s_I h266 p0 59 (-9 : Int32)) (fun h269 =>
  if 10 ≤ 2850 ∧ y_K h269 2850 = 0 ∧ ¬ (4000 : Int32) < 0 ∧ Int32.toNatClampNeg (4000 : Int32) * componentBytes (t_ay 0) ≤ 536870912 then
  y_bd (s_new h269 2850 100 (Int32.toNatClampNeg (4000 : Int32))) (fun h274 =>
  if y_K h274 p0 = 13 then
  y_bd (s_P h274 p0 60 2850) (fun h275 =>
  if 10 ≤ 2914 ∧ y_K h275 2914 = 0 ∧ ¬ (4000 : Int32) < 0 ∧ Int32.toNatClampNeg (4000 : Int32) * componentBytes (t_ay 0) ≤ 536870912 then
  y_bd (s_new h275 2914 100 (Int32.toNatClampNeg (4000 : Int32))) (fun h280 =>
  if y_K h280 p0 = 13 then
  y_bd (s_P h280 p0 61 2914) (fun h281 =>
  if 10 ≤ 2978 ∧ y_K h281 2978 = 0 ∧ ¬ (66000 : Int32) < 0 ∧ Int32.toNatClampNeg (66000 : Int32) * componentBytes (t_ay 1) ≤ 536870912 then
  y_bd (s_new h281 2978 101 (Int32.toNatClampNeg (66000 : Int32))) (fun h286 =>
  if y_K h286 p0 = 13 then
  y_bd (s_P h286 p0 62 2978) (fun h287 =>
  if 10 ≤ 3042 ∧ y_K h287 3042 = 0 ∧ ¬ (66000 : Int32) < 0 ∧ Int32.toNatClampNeg (66000 : Int32) * componentBytes (t_ay 0) ≤ 536870912 then
  y_bd (s_new h287 3042 100 (Int32.toNatClampNeg (66000 : Int32))) (fun h292 =>
  if y_K h292 p0 = 13 then
  y_bd (s_P h292 p0 63 3042) (fun h293 =>
  if 10 ≤ 3106 ∧ y_K h293 3106 = 0 ∧ ¬ (66000 : Int32) < 0 ∧ Int32.toNatClampNeg (66000 : Int32) * componentBytes (t_ay 0) ≤ 536870912 then
  y_bd (s_new h293 3106 100 (Int32.toNatClampNeg (66000 : Int32))) (fun h298 =>
  if y_K h298 p0 = 13 then
  y_bd (s_P h298 p0 64 3106) (fun h299 =>
  if 10 ≤ 3170 ∧ y_K h299 3170 = 0 ∧ ¬ (131072 : Int32) < 0 ∧ Int32.toNatClampNeg (131072 : Int32) * componentBytes (t_ay 0) ≤ 536870912 then
  y_bd (s_new h299 3170 100 (Int32.toNatClampNeg (131072 : Int32))) (fun h304 =>
  if y_K h304 p0 = 13 then
  y_bd (s_P h304 p0 65 3170) (fun h305 =>
  if 10 ≤ 3234 ∧ y_K h305 3234 = 0 ∧ ¬ (6 : Int32) < 0 ∧ Int32.toNatClampNeg (6 : Int32) * componentBytes (t_ay 0) ≤ 536870912 then
  y_bd (s_new h305 3234 100 (Int32.toNatClampNeg (6 : Int32))) (fun h310 =>
  if y_K h310 p0 = 13 then
  y_bd (s_P h310 p0 67 3234) (fun h311 =>
  if 10 ≤ 3298 ∧ y_K h311 3298 = 0 ∧ ¬ (6 : Int32) < 0 ∧ Int32.toNatClampNeg (6 : Int32) * componentBytes (t_ay 0) ≤ 536870912 then
  y_bd (s_new h311 3298 100 (Int32.toNatClampNeg (6 : Int32))) (fun h316 =>
  if y_K h316 p0 = 13 then
  y_bd (s_P h316 p0 69 3298) (fun h317 =>
  if 10 ≤ 3362 ∧ y_K h317 3362 = 0 ∧ ¬ (30 : Int32) < 0 ∧ Int32.toNatClampNeg (30 : Int32) * componentBytes (t_ay 0) ≤ 536870912 then
  y_bd (s_new h317 3362 100 (Int32.toNatClampNeg (30 : Int32))) (fun h322 =>
  if y_K h322 p0 = 13 then
  y_bd (s_P h322 p0 70 3362) (fun h323 =>
  if 10 ≤ 3426 ∧ y_K h323 3426 = 0 ∧ ¬ (6 : Int32) < 0 ∧ Int32.toNatClampNeg (6 : Int32) * componentBytes (t_ay 0) ≤ 536870912 then
  y_bd (s_new h323 3426 100 (Int32.toNatClampNeg (6 : Int32))) (fun h328 =>
  if y_K h328 p0 = 13 then
  y_bd (s_P h328 p0 73 3426) (fun h329 =>
  if 10 ≤ 3490 ∧ y_K h329 3490 = 0 ∧ ¬ (60 : Int32) < 0 ∧ Int32.toNatClampNeg (60 : Int32) * componentBytes (t_ay 0) ≤ 536870912 then
  y_bd (s_new h329 3490 100 (Int32.toNatClampNeg (60 : Int32))) (fun h334 =>
  if y_K h334 p0 = 13 then
  y_bd (s_P h334 p0 74 3490) (fun h335 =>
  if 10 ≤ 3554 ∧ y_K h335 3554 = 0 ∧ ¬ (60 : Int32) < 0 ∧ Int32.toNatClampNeg (60 : Int32) * componentBytes (t_ay 0) ≤ 536870912 then
  y_bd (s_new h335 3554 100 (Int32.toNatClampNeg (60 : Int32))) (fun h340 =>
  if y_K h340 p0 = 13 then
  y_bd (s_P h340 p0 75 3554) (fun h341 =>
  if 10 ≤ 3618 ∧ y_K h341 3618 = 0 ∧ ¬ (60 : Int32) < 0 ∧ Int32.toNatClampNeg (60 : Int32) * componentBytes (t_ay 0) ≤ 536870912 then
  y_bd (s_new h341 3618 100 (Int32.toNatClampNeg (60 : Int32))) (fun h346 =>
  if y_K h346 p0 = 13 then
  y_bd (s_P h346 p0 76 3618) (fun h347 =>
  if 10 ≤ 3682 ∧ y_K h347 3682 = 0 ∧ ¬ (512 : Int32) < 0 ∧ Int32.toNatClampNeg (512 : Int32) * componentBytes (t_ay 0) ≤ 536870912 then
  y_bd (s_new h347 3682 100 (Int32.toNatClampNeg (512 : Int32))) (fun h352 =>
  if y_K h352 p0 = 13 then
  y_bd (s_P h352 p0 77 3682) (fun h353 =>
  if 10 ≤ 3746 ∧ y_K h353 3746 = 0 ∧ ¬ (4 : Int32) < 0 ∧ Int32.toNatClampNeg (4 : Int32) * componentBytes (t_ay 0) ≤ 536870912 then
  y_bd (s_new h353 3746 100 (Int32.toNatClampNeg (4 : Int32))) (fun h358 =>
  if y_K h358 p0 = 13 then
  y_bd (s_P h358 p0 78 3746) (fun h359 =>
  if y_K h359 p0 = 13 then
  y_bd (s_I h359 p0 81 (-9 : Int32)) (fun h362 =>
  if y_K h362 p0 = 13 then
  y_bd (s_I h362 p0 82 (-9 : Int32)) (fun h365 =>
  if y_K h365 p0 = 13 then
  y_bd (s_I h365 p0 83 (-9 : Int32)) (fun h368 =>
  if 10 ≤ 3810 ∧ y_K h368 3810 = 0 ∧ ¬ (12 : Int32) < 0 ∧ Int32.toNatClampNeg (12 : Int32) * componentBytes (t_ay 0) ≤ 536870912 then
  y_bd (s_new h368 3810 100 (Int32.toNatClampNeg (12 : Int32))) (fun h373 =>
  if y_K h373 p0 = 13 then
  y_bd (s_P h373 p0 86 3810) (fun h374 =>
  if 10 ≤ 3874 ∧ y_K h374 3874 = 0 ∧ ¬ (12 : Int32) < 0 ∧ Int32.toNatClampNeg (12 : Int32) * componentBytes (t_ay 0) ≤ 536870912 then
  y_bd (s_new h374 3874 100 (Int32.toNatClampNeg (12 : Int32))) (fun h379 =>
  if y_K h379 p0 = 13 then
  y_bd (s_P h379 p0 87 3874) (fun h380 =>
  if 10 ≤ 3938 ∧ y_K h380 3938 = 0 ∧ ¬ (12 : Int32) < 0 ∧ Int32.toNatClampNeg (12 : Int32) * componentBytes (t_ay 0) ≤ 536870912 then
  y_bd (s_new h380 3938 100 (Int32.toNatClampNeg (12 : Int32))) (fun h385 =>
  if y_K h385 p0 = 13 then
  y_bd (s_P h385 p0 88 3938) (fun h386 =>
  if 10 ≤ 4002 ∧ y_K h386 4002 = 0 ∧ ¬ (12 : Int32) < 0 ∧ Int32.toNatClampNeg (12 : Int32) * componentBytes (t_ay 0) ≤ 536870912 then
  y_bd (s_new h386 4002 100 (Int32.toNatClampNeg (12 : Int32))) (fun h391 =>
  if y_K h391 p0 = 13 then
  y_bd (s_P h391 p0 89 4002) (fun h392 =>
  if 10 ≤ 4066 ∧ y_K h392 4066 = 0 ∧ ¬ (12 : Int32) < 0 ∧ Int32.toNatClampNeg (12 : Int32) * componentBytes (t_ay 0) ≤ 536870912 then
  y_bd (s_new h392 4066 100 (Int32.toNatClampNeg (12 : Int32))) (fun h397 =>
  if y_K h397 p0 = 13 then
  y_bd (s_P h397 p0 90 4066) (fun h398 =>
  if 10 ≤ 4130 ∧ y_K h398 4130 = 0 ∧ ¬ (400 : Int32) < 0 ∧ Int32.toNatClampNeg (400 : Int32) * componentBytes (t_ay 0) ≤ 536870912 then
  y_bd (s_new h398 4130 100 (Int32.toNatClampNeg (400 : Int32))) (fun h403 =>
  if y_K h403 p0 = 13 then
  y_bd (s_P h403 p0 92 4130) (fun h404 =>
  if 10 ≤ 4194 ∧ y_K h404 4194 = 0 ∧ ¬ (36 : Int32) < 0 ∧ Int32.toNatClampNeg (36 : Int32) * componentBytes (t_ay 0) ≤ 536870912 then
  y_bd (s_new h404 4194 100 (Int32.toNatClampNeg (36 : Int32))) (fun h409 =>
  if y_K h409 p0 = 13 then
  y_bd (s_P h409 p0 93 4194) (fun h410 =>
  if 10 ≤ 4258 ∧ y_K h410 4258 = 0 ∧ ¬ (6 : Int32) < 0 ∧ Int32.toNatClampNeg (6 : Int32) * componentBytes (t_ay 0) ≤ 536870912 then
  y_bd (s_new h410 4258 100 (Int32.toNatClampNeg (6 : Int32))) (fun h415 =>
  if y_K h415 p0 = 13 then
  y_bd (s_P h415 p0 94 4258) (fun h416 =>
  if y_K h416 p0 = 13 then
  y_cl (f_X12_begin p0 h416) (fun _ h419 =>
  some (((), c0 + 1 + 1 + 1 + 1 + 1 + 1 + 1 + 1 + 1 + 1 + 1 + 1 + 1 + 1 + 1 + 1 + 1 + 1 + 1 + 1 + 1 + 1 + 1 + 1 + 1 + 1 + 1 + 1 + 1 + 1 + 1 + 1 + 1 + 1 + 1 + 1 + 1 + 1 + 1 + 1 + 1 + 1 + 1 + 1 + 1 + 1 + 1 + 1 + 1 + 1 + 1 + 1 + 1 + 1 + 1 + 1 + 1 + 1 + 1 + 1 + 1 + 1 + 1 + 1 + 1 + 1 + 1, s0 + Int32.toNatClampNeg (80 : Int32) + Int32.toNatClampNeg (80 : Int32) + Int32.toNatClampNeg (80 : Int32) + Int32.toNatClampNeg (80 : Int32) + Int32.toNatClampNeg (80 : Int32) + Int32.toNatClampNeg (80 : Int32) + Int32.toNatClampNeg (80 : Int32) + Int32.toNatClampNeg (80 : Int32) + Int32.toNatClampNeg (80 : Int32) + Int32.toNatClampNeg (80 : Int32) + Int32.toNatClampNeg (80 : Int32) + Int32.toNatClampNeg (80 : Int32) + Int32.toNatClampNeg (80 : Int32) + Int32.toNatClampNeg (80 : Int32) + Int32.toNatClampNeg (80 : Int32) + Int32.toNatClampNeg (10 : Int32) + Int32.toNatClampNeg (10 : Int32) + Int32.toNatClampNeg (10 : Int32) + Int32.toNatClampNeg (60 : Int32) + Int32.toNatClampNeg (60 : Int32) + Int32.toNatClampNeg (60 : Int32) + Int32.toNatClampNeg (300 : Int32) + Int32.toNatClampNeg (25 : Int32) + Int32.toNatClampNeg (12 : Int32) + Int32.toNatClampNeg (12 : Int32) + Int32.toNatClampNeg (12 : Int32) + Int32.toNatClampNeg (12 : Int32) + Int32.toNatClampNeg (12 : Int32) + Int32.toNatClampNeg (12 : Int32) + Int32.toNatClampNeg (3 : Int32) + Int32.toNatClampNeg (3 : Int32) + Int32.toNatClampNeg (3 : Int32) + Int32.toNatClampNeg (3 : Int32) + Int32.toNatClampNeg (3 : Int32) + Int32.toNatClampNeg (162 : Int32) + Int32.toNatClampNeg (9 : Int32) + Int32.toNatClampNeg (24 : Int32) + Int32.toNatClampNeg (3 : Int32) + Int32.toNatClampNeg (3 : Int32) + Int32.toNatClampNeg (3 : Int32) + Int32.toNatClampNeg (100 : Int32) + Int32.toNatClampNeg (8 : Int32) + Int32.toNatClampNeg (854 : Int32) + Int32.toNatClampNeg (5 : Int32) + Int32.toNatClampNeg (4000 : Int32) + Int32.toNatClampNeg (4000 : Int32) + Int32.toNatClampNeg (66000 : Int32) + Int32.toNatClampNeg (66000 : Int32) + Int32.toNatClampNeg (66000 : Int32) + Int32.toNatClampNeg (131072 : Int32) + Int32.toNatClampNeg (6 : Int32) + Int32.toNatClampNeg (6 : Int32) + Int32.toNatClampNeg (30 : Int32) + Int32.toNatClampNeg (6 : Int32) + Int32.toNatClampNeg (60 : Int32) + Int32.toNatClampNeg (60 : Int32) + Int32.toNatClampNeg (60 : Int32) + Int32.toNatClampNeg (512 : Int32) + Int32.toNatClampNeg (4 : Int32) + Int32.toNatClampNeg (12 : Int32) + Int32.toNatClampNeg (12 : Int32) + Int32.toNatClampNeg (12 : Int32) + Int32.toNatClampNeg (12 : Int32) + Int32.toNatClampNeg (12 : Int32) + Int32.toNatClampNeg (400 : Int32) + Int32.toNatClampNeg (36 : Int32) + Int32.toNatClampNeg (6 : Int32)), h419))
  else none)
  else none)
  else none)
  else none)
  else none)
  else none)
  else none)
  else none)
  else none)
  else none)
  else none)
  else none)
  else none)
  else none)
  else none)
  else none)
  else none)
  else none)
  else none)
  else none)
  else none)
  else none)
  else none)
  else none)
  else none)
  else none)
  else none)
  else none)
  else none)
  else none)
  else none)
  else none)
  else none)
  else none)
  else none)
  else none)
  else none)
  else none)
  else none)
  else none)
  else none)
  else none)
  else none)
  else none)
  else none)
  else none)
  else none)
  else none)
  else none)
  else none)
  else none)
  else none)
  else none)
  else none)
  else none)
  else none)
  else none)
  else none)
  else none)
  else none)
  else none)
  else none)
  else none)
  else none)
  else none)
  else none)
  else none)
  else none)
  else none)
  else none)
  else none)
  else none)
  else none)
  else none)
  else none)
  else none)
  else none)
  else none)
  else none)
  else none)
  else none)
  else none)
  else none)
  else none)
  else none)
  else none)
  else none)
  else none)
  else none)
  else none)
  else none)
  else none)
  else none)
  else none)
  else none)
  else none)
  else none)
  else none)
  else none)
  else none)
  else none)
  else none)
  else none)
  else none)
  else none)
  else none)
  else none)
  else none)
  else none)
  else none)
  else none)
  else none)
  else none)
  else none)
  else none)
  else none)
  else none)
  else none)
  else none)
  else none)
  else none)
  else none)
  else none)
  else none)
  else none)
  else none)
  else none)
  else none)
  else none)
  else none)
  else none)
  else none)
  else none)
  else none)
  else none)
  else none)
  else none)
  else none)
  else none)
  else none
  else none
abbrev FF_X12_init : Nat := 1
abbrev LL_X12_init : Nat := 22
set_option maxRecDepth 100000 in
set_option maxHeartbeats 4000000 in
theorem k_X12_init {l : Launch} {G : y_G} {p0 : Nat} {c0 s0 cz sz : Nat} {h hz : y_H} {rz : Unit} (hf : f_X12_init p0 c0 s0 h = some ((rz, cz, sz), hz)) : (c0 ≤ cz ∧ s0 ≤ sz) ∧ y_S l G M_X12_init (y_Rm FF_X12_init LL_X12_init c0 s0 cz sz) [y_p p0] h none hz := by
  refine y_Ustart (lv := [(0, y_p p0)]) (by decide) (by simp [lg_sl, y_p_cat, y_ci, y_cj, M_X12_init]) (by simp [lv_args, y_p_cat, y_ci, y_cj]) (fun z ad0 => ?_)
  unfold f_X12_init at hf
  refine y_lf (fun _ _ _ _ k => y_aload_n (x := p0) (pc2 := 1) rfl dX12_init_0 rfl k) ?_
  obtain ⟨g1, hf⟩ := y_g hf
  refine y_lf (fun _ _ _ _ k => y_oinit (pc2 := 4) rfl dX12_init_1 l_BoxYardModel_1 (by rw [g1]; decide) (Nat.le_of_ble_eq_true rfl) (Nat.le_of_ble_eq_true rfl) (by decide) k) ?_
  refine y_lf (fun _ _ _ _ k => y_aload_n (x := p0) (pc2 := 5) rfl dX12_init_4 rfl k) ?_
  refine y_lf (fun _ _ _ _ k => y_bipush (v := 80) (pc2 := 7) rfl dX12_init_5 (by decide) k) ?_
  obtain ⟨g2, hf⟩ := y_g hf
  obtain ⟨h4, e3, hf⟩ := y_bdE hf
  refine y_Unewa (t := 0) (n := 34) (pc2 := 9) rfl dX12_init_7 (by decide) rfl rfl rfl ac_0 g2 e3 ?_
  obtain ⟨g7, hf⟩ := y_g hf
  obtain ⟨h5, e6, hf⟩ := y_bdE hf
  refine y_lf (fun _ _ _ _ k => y_putP (x := 34) (pc2 := 12) rfl dX12_init_9 Fp_BoxYardModel_7_i (by decide) rfl g7 e6 k) ?_
  refine y_lf (fun _ _ _ _ k => y_aload_n (x := p0) (pc2 := 13) rfl dX12_init_12 rfl k) ?_
  refine y_lf (fun _ _ _ _ k => y_bipush (v := 80) (pc2 := 15) rfl dX12_init_13 (by decide) k) ?_
  obtain ⟨g8, hf⟩ := y_g hf
  obtain ⟨h10, e9, hf⟩ := y_bdE hf
  refine y_Unewa (t := 0) (n := 98) (pc2 := 17) rfl dX12_init_15 (by decide) rfl rfl rfl ac_0 g8 e9 ?_
  obtain ⟨g13, hf⟩ := y_g hf
  obtain ⟨h11, e12, hf⟩ := y_bdE hf
  refine y_lf (fun _ _ _ _ k => y_putP (x := 98) (pc2 := 20) rfl dX12_init_17 Fp_BoxYardModel_13_i (by decide) rfl g13 e12 k) ?_
  refine y_lf (fun _ _ _ _ k => y_aload_n (x := p0) (pc2 := 21) rfl dX12_init_20 rfl k) ?_
  refine y_lf (fun _ _ _ _ k => y_bipush (v := 80) (pc2 := 23) rfl dX12_init_21 (by decide) k) ?_
  obtain ⟨g14, hf⟩ := y_g hf
  obtain ⟨h16, e15, hf⟩ := y_bdE hf
  refine y_Unewa (t := 0) (n := 162) (pc2 := 25) rfl dX12_init_23 (by decide) rfl rfl rfl ac_0 g14 e15 ?_
  obtain ⟨g19, hf⟩ := y_g hf
  obtain ⟨h17, e18, hf⟩ := y_bdE hf
  refine y_lf (fun _ _ _ _ k => y_putP (x := 162) (pc2 := 28) rfl dX12_init_25 Fp_BoxYardModel_16_i (by decide) rfl g19 e18 k) ?_
  refine y_lf (fun _ _ _ _ k => y_aload_n (x := p0) (pc2 := 29) rfl dX12_init_28 rfl k) ?_
  refine y_lf (fun _ _ _ _ k => y_bipush (v := 80) (pc2 := 31) rfl dX12_init_29 (by decide) k) ?_
  obtain ⟨g20, hf⟩ := y_g hf
  obtain ⟨h22, e21, hf⟩ := y_bdE hf
  refine y_Unewa (t := 0) (n := 226) (pc2 := 33) rfl dX12_init_31 (by decide) rfl rfl rfl ac_0 g20 e21 ?_
  obtain ⟨g25, hf⟩ := y_g hf
  obtain ⟨h23, e24, hf⟩ := y_bdE hf
  refine y_lf (fun _ _ _ _ k => y_putP (x := 226) (pc2 := 36) rfl dX12_init_33 Fp_BoxYardModel_19_i (by decide) rfl g25 e24 k) ?_
  refine y_lf (fun _ _ _ _ k => y_aload_n (x := p0) (pc2 := 37) rfl dX12_init_36 rfl k) ?_
  refine y_lf (fun _ _ _ _ k => y_bipush (v := 80) (pc2 := 39) rfl dX12_init_37 (by decide) k) ?_
  obtain ⟨g26, hf⟩ := y_g hf
  obtain ⟨h28, e27, hf⟩ := y_bdE hf
  refine y_Unewa (t := 0) (n := 290) (pc2 := 41) rfl dX12_init_39 (by decide) rfl rfl rfl ac_0 g26 e27 ?_
  obtain ⟨g31, hf⟩ := y_g hf
  obtain ⟨h29, e30, hf⟩ := y_bdE hf
  refine y_lf (fun _ _ _ _ k => y_putP (x := 290) (pc2 := 44) rfl dX12_init_41 Fp_BoxYardModel_22_i (by decide) rfl g31 e30 k) ?_
  refine y_lf (fun _ _ _ _ k => y_aload_n (x := p0) (pc2 := 45) rfl dX12_init_44 rfl k) ?_
  refine y_lf (fun _ _ _ _ k => y_bipush (v := 80) (pc2 := 47) rfl dX12_init_45 (by decide) k) ?_
  obtain ⟨g32, hf⟩ := y_g hf
  obtain ⟨h34, e33, hf⟩ := y_bdE hf
  refine y_Unewa (t := 2) (n := 354) (pc2 := 49) rfl dX12_init_47 (by decide) rfl rfl rfl ac_2 g32 e33 ?_
  obtain ⟨g37, hf⟩ := y_g hf
  obtain ⟨h35, e36, hf⟩ := y_bdE hf
  refine y_lf (fun _ _ _ _ k => y_putP (x := 354) (pc2 := 52) rfl dX12_init_49 Fp_BoxYardModel_25_i (by decide) rfl g37 e36 k) ?_
  refine y_lf (fun _ _ _ _ k => y_aload_n (x := p0) (pc2 := 53) rfl dX12_init_52 rfl k) ?_
  refine y_lf (fun _ _ _ _ k => y_bipush (v := 80) (pc2 := 55) rfl dX12_init_53 (by decide) k) ?_
  obtain ⟨g38, hf⟩ := y_g hf
  obtain ⟨h40, e39, hf⟩ := y_bdE hf
  refine y_Unewa (t := 0) (n := 418) (pc2 := 57) rfl dX12_init_55 (by decide) rfl rfl rfl ac_0 g38 e39 ?_
  obtain ⟨g43, hf⟩ := y_g hf
  obtain ⟨h41, e42, hf⟩ := y_bdE hf
  refine y_lf (fun _ _ _ _ k => y_putP (x := 418) (pc2 := 60) rfl dX12_init_57 Fp_BoxYardModel_29_i (by decide) rfl g43 e42 k) ?_
  refine y_lf (fun _ _ _ _ k => y_aload_n (x := p0) (pc2 := 61) rfl dX12_init_60 rfl k) ?_
  refine y_lf (fun _ _ _ _ k => y_bipush (v := 80) (pc2 := 63) rfl dX12_init_61 (by decide) k) ?_
  obtain ⟨g44, hf⟩ := y_g hf
  obtain ⟨h46, e45, hf⟩ := y_bdE hf
  refine y_Unewa (t := 0) (n := 482) (pc2 := 65) rfl dX12_init_63 (by decide) rfl rfl rfl ac_0 g44 e45 ?_
  obtain ⟨g49, hf⟩ := y_g hf
  obtain ⟨h47, e48, hf⟩ := y_bdE hf
  refine y_lf (fun _ _ _ _ k => y_putP (x := 482) (pc2 := 68) rfl dX12_init_65 Fp_BoxYardModel_32_i (by decide) rfl g49 e48 k) ?_
  refine y_lf (fun _ _ _ _ k => y_aload_n (x := p0) (pc2 := 69) rfl dX12_init_68 rfl k) ?_
  refine y_lf (fun _ _ _ _ k => y_bipush (v := 80) (pc2 := 71) rfl dX12_init_69 (by decide) k) ?_
  obtain ⟨g50, hf⟩ := y_g hf
  obtain ⟨h52, e51, hf⟩ := y_bdE hf
  refine y_Unewa (t := 0) (n := 546) (pc2 := 73) rfl dX12_init_71 (by decide) rfl rfl rfl ac_0 g50 e51 ?_
  obtain ⟨g55, hf⟩ := y_g hf
  obtain ⟨h53, e54, hf⟩ := y_bdE hf
  refine y_lf (fun _ _ _ _ k => y_putP (x := 546) (pc2 := 76) rfl dX12_init_73 Fp_BoxYardModel_35_i (by decide) rfl g55 e54 k) ?_
  refine y_lf (fun _ _ _ _ k => y_aload_n (x := p0) (pc2 := 77) rfl dX12_init_76 rfl k) ?_
  refine y_lf (fun _ _ _ _ k => y_bipush (v := 80) (pc2 := 79) rfl dX12_init_77 (by decide) k) ?_
  obtain ⟨g56, hf⟩ := y_g hf
  obtain ⟨h58, e57, hf⟩ := y_bdE hf
  refine y_Unewa (t := 0) (n := 610) (pc2 := 81) rfl dX12_init_79 (by decide) rfl rfl rfl ac_0 g56 e57 ?_
  obtain ⟨g61, hf⟩ := y_g hf
  obtain ⟨h59, e60, hf⟩ := y_bdE hf
  refine y_lf (fun _ _ _ _ k => y_putP (x := 610) (pc2 := 84) rfl dX12_init_81 Fp_BoxYardModel_38_i (by decide) rfl g61 e60 k) ?_
  refine y_lf (fun _ _ _ _ k => y_aload_n (x := p0) (pc2 := 85) rfl dX12_init_84 rfl k) ?_
  refine y_lf (fun _ _ _ _ k => y_bipush (v := 80) (pc2 := 87) rfl dX12_init_85 (by decide) k) ?_
  obtain ⟨g62, hf⟩ := y_g hf
  obtain ⟨h64, e63, hf⟩ := y_bdE hf
  refine y_Unewa (t := 0) (n := 674) (pc2 := 89) rfl dX12_init_87 (by decide) rfl rfl rfl ac_0 g62 e63 ?_
  obtain ⟨g67, hf⟩ := y_g hf
  obtain ⟨h65, e66, hf⟩ := y_bdE hf
  refine y_lf (fun _ _ _ _ k => y_putP (x := 674) (pc2 := 92) rfl dX12_init_89 Fp_BoxYardModel_41_i (by decide) rfl g67 e66 k) ?_
  refine y_lf (fun _ _ _ _ k => y_aload_n (x := p0) (pc2 := 93) rfl dX12_init_92 rfl k) ?_
  refine y_lf (fun _ _ _ _ k => y_bipush (v := 80) (pc2 := 95) rfl dX12_init_93 (by decide) k) ?_
  obtain ⟨g68, hf⟩ := y_g hf
  obtain ⟨h70, e69, hf⟩ := y_bdE hf
  refine y_Unewa (t := 0) (n := 738) (pc2 := 97) rfl dX12_init_95 (by decide) rfl rfl rfl ac_0 g68 e69 ?_
  obtain ⟨g73, hf⟩ := y_g hf
  obtain ⟨h71, e72, hf⟩ := y_bdE hf
  refine y_lf (fun _ _ _ _ k => y_putP (x := 738) (pc2 := 100) rfl dX12_init_97 Fp_BoxYardModel_44_i (by decide) rfl g73 e72 k) ?_
  refine y_lf (fun _ _ _ _ k => y_aload_n (x := p0) (pc2 := 101) rfl dX12_init_100 rfl k) ?_
  refine y_lf (fun _ _ _ _ k => y_bipush (v := 80) (pc2 := 103) rfl dX12_init_101 (by decide) k) ?_
  obtain ⟨g74, hf⟩ := y_g hf
  obtain ⟨h76, e75, hf⟩ := y_bdE hf
  refine y_Unewa (t := 0) (n := 802) (pc2 := 105) rfl dX12_init_103 (by decide) rfl rfl rfl ac_0 g74 e75 ?_
  obtain ⟨g79, hf⟩ := y_g hf
  obtain ⟨h77, e78, hf⟩ := y_bdE hf
  refine y_lf (fun _ _ _ _ k => y_putP (x := 802) (pc2 := 108) rfl dX12_init_105 Fp_BoxYardModel_47_i (by decide) rfl g79 e78 k) ?_
  refine y_lf (fun _ _ _ _ k => y_aload_n (x := p0) (pc2 := 109) rfl dX12_init_108 rfl k) ?_
  refine y_lf (fun _ _ _ _ k => y_bipush (v := 80) (pc2 := 111) rfl dX12_init_109 (by decide) k) ?_
  obtain ⟨g80, hf⟩ := y_g hf
  obtain ⟨h82, e81, hf⟩ := y_bdE hf
  refine y_Unewa (t := 0) (n := 866) (pc2 := 113) rfl dX12_init_111 (by decide) rfl rfl rfl ac_0 g80 e81 ?_
  obtain ⟨g85, hf⟩ := y_g hf
  obtain ⟨h83, e84, hf⟩ := y_bdE hf
  refine y_lf (fun _ _ _ _ k => y_putP (x := 866) (pc2 := 116) rfl dX12_init_113 Fp_BoxYardModel_50_i (by decide) rfl g85 e84 k) ?_
  refine y_lf (fun _ _ _ _ k => y_aload_n (x := p0) (pc2 := 117) rfl dX12_init_116 rfl k) ?_
  refine y_lf (fun _ _ _ _ k => y_bipush (v := 80) (pc2 := 119) rfl dX12_init_117 (by decide) k) ?_
  obtain ⟨g86, hf⟩ := y_g hf
  obtain ⟨h88, e87, hf⟩ := y_bdE hf
  refine y_Unewa (t := 0) (n := 930) (pc2 := 121) rfl dX12_init_119 (by decide) rfl rfl rfl ac_0 g86 e87 ?_
  obtain ⟨g91, hf⟩ := y_g hf
  obtain ⟨h89, e90, hf⟩ := y_bdE hf
  refine y_lf (fun _ _ _ _ k => y_putP (x := 930) (pc2 := 124) rfl dX12_init_121 Fp_BoxYardModel_53_i (by decide) rfl g91 e90 k) ?_
  refine y_lf (fun _ _ _ _ k => y_aload_n (x := p0) (pc2 := 125) rfl dX12_init_124 rfl k) ?_
  refine y_lf (fun _ _ _ _ k => y_bipush (v := 10) (pc2 := 127) rfl dX12_init_125 (by decide) k) ?_
  obtain ⟨g92, hf⟩ := y_g hf
  obtain ⟨h94, e93, hf⟩ := y_bdE hf
  refine y_Unewa (t := 2) (n := 994) (pc2 := 129) rfl dX12_init_127 (by decide) rfl rfl rfl ac_2 g92 e93 ?_
  obtain ⟨g97, hf⟩ := y_g hf
  obtain ⟨h95, e96, hf⟩ := y_bdE hf
  refine y_lf (fun _ _ _ _ k => y_putP (x := 994) (pc2 := 132) rfl dX12_init_129 Fp_BoxYardModel_56_i (by decide) rfl g97 e96 k) ?_
  refine y_lf (fun _ _ _ _ k => y_aload_n (x := p0) (pc2 := 133) rfl dX12_init_132 rfl k) ?_
  refine y_lf (fun _ _ _ _ k => y_bipush (v := 10) (pc2 := 135) rfl dX12_init_133 (by decide) k) ?_
  obtain ⟨g98, hf⟩ := y_g hf
  obtain ⟨h100, e99, hf⟩ := y_bdE hf
  refine y_Unewa (t := 0) (n := 1058) (pc2 := 137) rfl dX12_init_135 (by decide) rfl rfl rfl ac_0 g98 e99 ?_
  obtain ⟨g103, hf⟩ := y_g hf
  obtain ⟨h101, e102, hf⟩ := y_bdE hf
  refine y_lf (fun _ _ _ _ k => y_putP (x := 1058) (pc2 := 140) rfl dX12_init_137 Fp_BoxYardModel_59_i (by decide) rfl g103 e102 k) ?_
  refine y_lf (fun _ _ _ _ k => y_aload_n (x := p0) (pc2 := 141) rfl dX12_init_140 rfl k) ?_
  refine y_lf (fun _ _ _ _ k => y_bipush (v := 10) (pc2 := 143) rfl dX12_init_141 (by decide) k) ?_
  obtain ⟨g104, hf⟩ := y_g hf
  obtain ⟨h106, e105, hf⟩ := y_bdE hf
  refine y_Unewa (t := 0) (n := 1122) (pc2 := 145) rfl dX12_init_143 (by decide) rfl rfl rfl ac_0 g104 e105 ?_
  obtain ⟨g109, hf⟩ := y_g hf
  obtain ⟨h107, e108, hf⟩ := y_bdE hf
  refine y_lf (fun _ _ _ _ k => y_putP (x := 1122) (pc2 := 148) rfl dX12_init_145 Fp_BoxYardModel_62_i (by decide) rfl g109 e108 k) ?_
  refine y_lf (fun _ _ _ _ k => y_aload_n (x := p0) (pc2 := 149) rfl dX12_init_148 rfl k) ?_
  refine y_lf (fun _ _ _ _ k => y_bipush (v := 60) (pc2 := 151) rfl dX12_init_149 (by decide) k) ?_
  obtain ⟨g110, hf⟩ := y_g hf
  obtain ⟨h112, e111, hf⟩ := y_bdE hf
  refine y_Unewa (t := 0) (n := 1186) (pc2 := 153) rfl dX12_init_151 (by decide) rfl rfl rfl ac_0 g110 e111 ?_
  obtain ⟨g115, hf⟩ := y_g hf
  obtain ⟨h113, e114, hf⟩ := y_bdE hf
  refine y_lf (fun _ _ _ _ k => y_putP (x := 1186) (pc2 := 156) rfl dX12_init_153 Fp_BoxYardModel_65_i (by decide) rfl g115 e114 k) ?_
  refine y_lf (fun _ _ _ _ k => y_aload_n (x := p0) (pc2 := 157) rfl dX12_init_156 rfl k) ?_
  refine y_lf (fun _ _ _ _ k => y_bipush (v := 60) (pc2 := 159) rfl dX12_init_157 (by decide) k) ?_
  obtain ⟨g116, hf⟩ := y_g hf
  obtain ⟨h118, e117, hf⟩ := y_bdE hf
  refine y_Unewa (t := 0) (n := 1250) (pc2 := 161) rfl dX12_init_159 (by decide) rfl rfl rfl ac_0 g116 e117 ?_
  obtain ⟨g121, hf⟩ := y_g hf
  obtain ⟨h119, e120, hf⟩ := y_bdE hf
  refine y_lf (fun _ _ _ _ k => y_putP (x := 1250) (pc2 := 164) rfl dX12_init_161 Fp_BoxYardModel_68_i (by decide) rfl g121 e120 k) ?_
  refine y_lf (fun _ _ _ _ k => y_aload_n (x := p0) (pc2 := 165) rfl dX12_init_164 rfl k) ?_
  refine y_lf (fun _ _ _ _ k => y_bipush (v := 60) (pc2 := 167) rfl dX12_init_165 (by decide) k) ?_
  obtain ⟨g122, hf⟩ := y_g hf
  obtain ⟨h124, e123, hf⟩ := y_bdE hf
  refine y_Unewa (t := 0) (n := 1314) (pc2 := 169) rfl dX12_init_167 (by decide) rfl rfl rfl ac_0 g122 e123 ?_
  obtain ⟨g127, hf⟩ := y_g hf
  obtain ⟨h125, e126, hf⟩ := y_bdE hf
  refine y_lf (fun _ _ _ _ k => y_putP (x := 1314) (pc2 := 172) rfl dX12_init_169 Fp_BoxYardModel_71_i (by decide) rfl g127 e126 k) ?_
  refine y_lf (fun _ _ _ _ k => y_aload_n (x := p0) (pc2 := 173) rfl dX12_init_172 rfl k) ?_
  refine y_lf (fun _ _ _ _ k => y_sipush (v := 300) (pc2 := 176) rfl dX12_init_173 (by decide) k) ?_
  obtain ⟨g128, hf⟩ := y_g hf
  obtain ⟨h130, e129, hf⟩ := y_bdE hf
  refine y_Unewa (t := 0) (n := 1378) (pc2 := 178) rfl dX12_init_176 (by decide) rfl rfl rfl ac_0 g128 e129 ?_
  obtain ⟨g133, hf⟩ := y_g hf
  obtain ⟨h131, e132, hf⟩ := y_bdE hf
  refine y_lf (fun _ _ _ _ k => y_putP (x := 1378) (pc2 := 181) rfl dX12_init_178 Fp_BoxYardModel_74_i (by decide) rfl g133 e132 k) ?_
  refine y_lf (fun _ _ _ _ k => y_aload_n (x := p0) (pc2 := 182) rfl dX12_init_181 rfl k) ?_
  refine y_lf (fun _ _ _ _ k => y_bipush (v := 25) (pc2 := 184) rfl dX12_init_182 (by decide) k) ?_
  obtain ⟨g134, hf⟩ := y_g hf
  obtain ⟨h136, e135, hf⟩ := y_bdE hf
  refine y_Unewa (t := 0) (n := 1442) (pc2 := 186) rfl dX12_init_184 (by decide) rfl rfl rfl ac_0 g134 e135 ?_
  obtain ⟨g139, hf⟩ := y_g hf
  obtain ⟨h137, e138, hf⟩ := y_bdE hf
  refine y_lf (fun _ _ _ _ k => y_putP (x := 1442) (pc2 := 189) rfl dX12_init_186 Fp_BoxYardModel_77_i (by decide) rfl g139 e138 k) ?_
  refine y_lf (fun _ _ _ _ k => y_aload_n (x := p0) (pc2 := 190) rfl dX12_init_189 rfl k) ?_
  refine y_lf (fun _ _ _ _ k => y_bipush (v := 12) (pc2 := 192) rfl dX12_init_190 (by decide) k) ?_
  obtain ⟨g140, hf⟩ := y_g hf
  obtain ⟨h142, e141, hf⟩ := y_bdE hf
  refine y_Unewa (t := 0) (n := 1506) (pc2 := 194) rfl dX12_init_192 (by decide) rfl rfl rfl ac_0 g140 e141 ?_
  obtain ⟨g145, hf⟩ := y_g hf
  obtain ⟨h143, e144, hf⟩ := y_bdE hf
  refine y_lf (fun _ _ _ _ k => y_putP (x := 1506) (pc2 := 197) rfl dX12_init_194 Fp_BoxYardModel_80_i (by decide) rfl g145 e144 k) ?_
  refine y_lf (fun _ _ _ _ k => y_aload_n (x := p0) (pc2 := 198) rfl dX12_init_197 rfl k) ?_
  refine y_lf (fun _ _ _ _ k => y_bipush (v := 12) (pc2 := 200) rfl dX12_init_198 (by decide) k) ?_
  obtain ⟨g146, hf⟩ := y_g hf
  obtain ⟨h148, e147, hf⟩ := y_bdE hf
  refine y_Unewa (t := 0) (n := 1570) (pc2 := 202) rfl dX12_init_200 (by decide) rfl rfl rfl ac_0 g146 e147 ?_
  obtain ⟨g151, hf⟩ := y_g hf
  obtain ⟨h149, e150, hf⟩ := y_bdE hf
  refine y_lf (fun _ _ _ _ k => y_putP (x := 1570) (pc2 := 205) rfl dX12_init_202 Fp_BoxYardModel_83_i (by decide) rfl g151 e150 k) ?_
  refine y_lf (fun _ _ _ _ k => y_aload_n (x := p0) (pc2 := 206) rfl dX12_init_205 rfl k) ?_
  refine y_lf (fun _ _ _ _ k => y_bipush (v := 12) (pc2 := 208) rfl dX12_init_206 (by decide) k) ?_
  obtain ⟨g152, hf⟩ := y_g hf
  obtain ⟨h154, e153, hf⟩ := y_bdE hf
  refine y_Unewa (t := 0) (n := 1634) (pc2 := 210) rfl dX12_init_208 (by decide) rfl rfl rfl ac_0 g152 e153 ?_
  obtain ⟨g157, hf⟩ := y_g hf
  obtain ⟨h155, e156, hf⟩ := y_bdE hf
  refine y_lf (fun _ _ _ _ k => y_putP (x := 1634) (pc2 := 213) rfl dX12_init_210 Fp_BoxYardModel_86_i (by decide) rfl g157 e156 k) ?_
  refine y_lf (fun _ _ _ _ k => y_aload_n (x := p0) (pc2 := 214) rfl dX12_init_213 rfl k) ?_
  refine y_lf (fun _ _ _ _ k => y_bipush (v := 12) (pc2 := 216) rfl dX12_init_214 (by decide) k) ?_
  obtain ⟨g158, hf⟩ := y_g hf
  obtain ⟨h160, e159, hf⟩ := y_bdE hf
  refine y_Unewa (t := 0) (n := 1698) (pc2 := 218) rfl dX12_init_216 (by decide) rfl rfl rfl ac_0 g158 e159 ?_
  obtain ⟨g163, hf⟩ := y_g hf
  obtain ⟨h161, e162, hf⟩ := y_bdE hf
  refine y_lf (fun _ _ _ _ k => y_putP (x := 1698) (pc2 := 221) rfl dX12_init_218 Fp_BoxYardModel_89_i (by decide) rfl g163 e162 k) ?_
  refine y_lf (fun _ _ _ _ k => y_aload_n (x := p0) (pc2 := 222) rfl dX12_init_221 rfl k) ?_
  refine y_lf (fun _ _ _ _ k => y_bipush (v := 12) (pc2 := 224) rfl dX12_init_222 (by decide) k) ?_
  obtain ⟨g164, hf⟩ := y_g hf
  obtain ⟨h166, e165, hf⟩ := y_bdE hf
  refine y_Unewa (t := 0) (n := 1762) (pc2 := 226) rfl dX12_init_224 (by decide) rfl rfl rfl ac_0 g164 e165 ?_
  obtain ⟨g169, hf⟩ := y_g hf
  obtain ⟨h167, e168, hf⟩ := y_bdE hf
  refine y_lf (fun _ _ _ _ k => y_putP (x := 1762) (pc2 := 229) rfl dX12_init_226 Fp_BoxYardModel_92_i (by decide) rfl g169 e168 k) ?_
  refine y_lf (fun _ _ _ _ k => y_aload_n (x := p0) (pc2 := 230) rfl dX12_init_229 rfl k) ?_
  refine y_lf (fun _ _ _ _ k => y_bipush (v := 12) (pc2 := 232) rfl dX12_init_230 (by decide) k) ?_
  obtain ⟨g170, hf⟩ := y_g hf
  obtain ⟨h172, e171, hf⟩ := y_bdE hf
  refine y_Unewa (t := 0) (n := 1826) (pc2 := 234) rfl dX12_init_232 (by decide) rfl rfl rfl ac_0 g170 e171 ?_
  obtain ⟨g175, hf⟩ := y_g hf
  obtain ⟨h173, e174, hf⟩ := y_bdE hf
  refine y_lf (fun _ _ _ _ k => y_putP (x := 1826) (pc2 := 237) rfl dX12_init_234 Fp_BoxYardModel_95_i (by decide) rfl g175 e174 k) ?_
  refine y_lf (fun _ _ _ _ k => y_aload_n (x := p0) (pc2 := 238) rfl dX12_init_237 rfl k) ?_
  refine y_lf (fun _ _ _ _ k => y_iconst (v := 3) (pc2 := 239) rfl dX12_init_238 (by decide) k) ?_
  obtain ⟨g176, hf⟩ := y_g hf
  obtain ⟨h178, e177, hf⟩ := y_bdE hf
  refine y_Unewa (t := 0) (n := 1890) (pc2 := 241) rfl dX12_init_239 (by decide) rfl rfl rfl ac_0 g176 e177 ?_
  obtain ⟨g181, hf⟩ := y_g hf
  obtain ⟨h179, e180, hf⟩ := y_bdE hf
  refine y_lf (fun _ _ _ _ k => y_putP (x := 1890) (pc2 := 244) rfl dX12_init_241 Fp_BoxYardModel_98_i (by decide) rfl g181 e180 k) ?_
  refine y_lf (fun _ _ _ _ k => y_aload_n (x := p0) (pc2 := 245) rfl dX12_init_244 rfl k) ?_
  refine y_lf (fun _ _ _ _ k => y_iconst (v := 3) (pc2 := 246) rfl dX12_init_245 (by decide) k) ?_
  obtain ⟨g182, hf⟩ := y_g hf
  obtain ⟨h184, e183, hf⟩ := y_bdE hf
  refine y_Unewa (t := 0) (n := 1954) (pc2 := 248) rfl dX12_init_246 (by decide) rfl rfl rfl ac_0 g182 e183 ?_
  obtain ⟨g187, hf⟩ := y_g hf
  obtain ⟨h185, e186, hf⟩ := y_bdE hf
  refine y_lf (fun _ _ _ _ k => y_putP (x := 1954) (pc2 := 251) rfl dX12_init_248 Fp_BoxYardModel_101_i (by decide) rfl g187 e186 k) ?_
  refine y_lf (fun _ _ _ _ k => y_aload_n (x := p0) (pc2 := 252) rfl dX12_init_251 rfl k) ?_
  refine y_lf (fun _ _ _ _ k => y_iconst (v := 3) (pc2 := 253) rfl dX12_init_252 (by decide) k) ?_
  obtain ⟨g188, hf⟩ := y_g hf
  obtain ⟨h190, e189, hf⟩ := y_bdE hf
  refine y_Unewa (t := 0) (n := 2018) (pc2 := 255) rfl dX12_init_253 (by decide) rfl rfl rfl ac_0 g188 e189 ?_
  obtain ⟨g193, hf⟩ := y_g hf
  obtain ⟨h191, e192, hf⟩ := y_bdE hf
  refine y_lf (fun _ _ _ _ k => y_putP (x := 2018) (pc2 := 258) rfl dX12_init_255 Fp_BoxYardModel_104_i (by decide) rfl g193 e192 k) ?_
  refine y_lf (fun _ _ _ _ k => y_aload_n (x := p0) (pc2 := 259) rfl dX12_init_258 rfl k) ?_
  refine y_lf (fun _ _ _ _ k => y_iconst (v := 3) (pc2 := 260) rfl dX12_init_259 (by decide) k) ?_
  obtain ⟨g194, hf⟩ := y_g hf
  obtain ⟨h196, e195, hf⟩ := y_bdE hf
  refine y_Unewa (t := 0) (n := 2082) (pc2 := 262) rfl dX12_init_260 (by decide) rfl rfl rfl ac_0 g194 e195 ?_
  obtain ⟨g199, hf⟩ := y_g hf
  obtain ⟨h197, e198, hf⟩ := y_bdE hf
  refine y_lf (fun _ _ _ _ k => y_putP (x := 2082) (pc2 := 265) rfl dX12_init_262 Fp_BoxYardModel_107_i (by decide) rfl g199 e198 k) ?_
  refine y_lf (fun _ _ _ _ k => y_aload_n (x := p0) (pc2 := 266) rfl dX12_init_265 rfl k) ?_
  refine y_lf (fun _ _ _ _ k => y_iconst (v := 3) (pc2 := 267) rfl dX12_init_266 (by decide) k) ?_
  obtain ⟨g200, hf⟩ := y_g hf
  obtain ⟨h202, e201, hf⟩ := y_bdE hf
  refine y_Unewa (t := 0) (n := 2146) (pc2 := 269) rfl dX12_init_267 (by decide) rfl rfl rfl ac_0 g200 e201 ?_
  obtain ⟨g205, hf⟩ := y_g hf
  obtain ⟨h203, e204, hf⟩ := y_bdE hf
  refine y_lf (fun _ _ _ _ k => y_putP (x := 2146) (pc2 := 272) rfl dX12_init_269 Fp_BoxYardModel_110_i (by decide) rfl g205 e204 k) ?_
  refine y_lf (fun _ _ _ _ k => y_aload_n (x := p0) (pc2 := 273) rfl dX12_init_272 rfl k) ?_
  refine y_lf (fun _ _ _ _ k => y_sipush (v := 162) (pc2 := 276) rfl dX12_init_273 (by decide) k) ?_
  obtain ⟨g206, hf⟩ := y_g hf
  obtain ⟨h208, e207, hf⟩ := y_bdE hf
  refine y_Unewa (t := 0) (n := 2210) (pc2 := 278) rfl dX12_init_276 (by decide) rfl rfl rfl ac_0 g206 e207 ?_
  obtain ⟨g211, hf⟩ := y_g hf
  obtain ⟨h209, e210, hf⟩ := y_bdE hf
  refine y_lf (fun _ _ _ _ k => y_putP (x := 2210) (pc2 := 281) rfl dX12_init_278 Fp_BoxYardModel_113_i (by decide) rfl g211 e210 k) ?_
  refine y_lf (fun _ _ _ _ k => y_aload_n (x := p0) (pc2 := 282) rfl dX12_init_281 rfl k) ?_
  refine y_lf (fun _ _ _ _ k => y_bipush (v := 9) (pc2 := 284) rfl dX12_init_282 (by decide) k) ?_
  obtain ⟨g212, hf⟩ := y_g hf
  obtain ⟨h214, e213, hf⟩ := y_bdE hf
  refine y_Unewa (t := 0) (n := 2274) (pc2 := 286) rfl dX12_init_284 (by decide) rfl rfl rfl ac_0 g212 e213 ?_
  obtain ⟨g217, hf⟩ := y_g hf
  obtain ⟨h215, e216, hf⟩ := y_bdE hf
  refine y_lf (fun _ _ _ _ k => y_putP (x := 2274) (pc2 := 289) rfl dX12_init_286 Fp_BoxYardModel_116_i (by decide) rfl g217 e216 k) ?_
  refine y_lf (fun _ _ _ _ k => y_aload_n (x := p0) (pc2 := 290) rfl dX12_init_289 rfl k) ?_
  refine y_lf (fun _ _ _ _ k => y_bipush (v := 24) (pc2 := 292) rfl dX12_init_290 (by decide) k) ?_
  obtain ⟨g218, hf⟩ := y_g hf
  obtain ⟨h220, e219, hf⟩ := y_bdE hf
  refine y_Unewa (t := 0) (n := 2338) (pc2 := 294) rfl dX12_init_292 (by decide) rfl rfl rfl ac_0 g218 e219 ?_
  obtain ⟨g223, hf⟩ := y_g hf
  obtain ⟨h221, e222, hf⟩ := y_bdE hf
  refine y_lf (fun _ _ _ _ k => y_putP (x := 2338) (pc2 := 297) rfl dX12_init_294 Fp_BoxYardModel_119_i (by decide) rfl g223 e222 k) ?_
  refine y_lf (fun _ _ _ _ k => y_aload_n (x := p0) (pc2 := 298) rfl dX12_init_297 rfl k) ?_
  refine y_lf (fun _ _ _ _ k => y_iconst (v := 3) (pc2 := 299) rfl dX12_init_298 (by decide) k) ?_
  obtain ⟨g224, hf⟩ := y_g hf
  obtain ⟨h226, e225, hf⟩ := y_bdE hf
  refine y_Unewa (t := 0) (n := 2402) (pc2 := 301) rfl dX12_init_299 (by decide) rfl rfl rfl ac_0 g224 e225 ?_
  obtain ⟨g229, hf⟩ := y_g hf
  obtain ⟨h227, e228, hf⟩ := y_bdE hf
  refine y_lf (fun _ _ _ _ k => y_putP (x := 2402) (pc2 := 304) rfl dX12_init_301 Fp_BoxYardModel_122_i (by decide) rfl g229 e228 k) ?_
  refine y_lf (fun _ _ _ _ k => y_aload_n (x := p0) (pc2 := 305) rfl dX12_init_304 rfl k) ?_
  refine y_lf (fun _ _ _ _ k => y_iconst (v := 3) (pc2 := 306) rfl dX12_init_305 (by decide) k) ?_
  obtain ⟨g230, hf⟩ := y_g hf
  obtain ⟨h232, e231, hf⟩ := y_bdE hf
  refine y_Unewa (t := 0) (n := 2466) (pc2 := 308) rfl dX12_init_306 (by decide) rfl rfl rfl ac_0 g230 e231 ?_
  obtain ⟨g235, hf⟩ := y_g hf
  obtain ⟨h233, e234, hf⟩ := y_bdE hf
  refine y_lf (fun _ _ _ _ k => y_putP (x := 2466) (pc2 := 311) rfl dX12_init_308 Fp_BoxYardModel_125_i (by decide) rfl g235 e234 k) ?_
  refine y_lf (fun _ _ _ _ k => y_aload_n (x := p0) (pc2 := 312) rfl dX12_init_311 rfl k) ?_
  refine y_lf (fun _ _ _ _ k => y_iconst (v := 3) (pc2 := 313) rfl dX12_init_312 (by decide) k) ?_
  obtain ⟨g236, hf⟩ := y_g hf
  obtain ⟨h238, e237, hf⟩ := y_bdE hf
  refine y_Unewa (t := 0) (n := 2530) (pc2 := 315) rfl dX12_init_313 (by decide) rfl rfl rfl ac_0 g236 e237 ?_
  obtain ⟨g241, hf⟩ := y_g hf
  obtain ⟨h239, e240, hf⟩ := y_bdE hf
  refine y_lf (fun _ _ _ _ k => y_putP (x := 2530) (pc2 := 318) rfl dX12_init_315 Fp_BoxYardModel_128_i (by decide) rfl g241 e240 k) ?_
  refine y_lf (fun _ _ _ _ k => y_aload_n (x := p0) (pc2 := 319) rfl dX12_init_318 rfl k) ?_
  refine y_lf (fun _ _ _ _ k => y_bipush (v := 100) (pc2 := 321) rfl dX12_init_319 (by decide) k) ?_
  obtain ⟨g242, hf⟩ := y_g hf
  obtain ⟨h244, e243, hf⟩ := y_bdE hf
  refine y_Unewa (t := 0) (n := 2594) (pc2 := 323) rfl dX12_init_321 (by decide) rfl rfl rfl ac_0 g242 e243 ?_
  obtain ⟨g247, hf⟩ := y_g hf
  obtain ⟨h245, e246, hf⟩ := y_bdE hf
  refine y_lf (fun _ _ _ _ k => y_putP (x := 2594) (pc2 := 326) rfl dX12_init_323 Fp_BoxYardModel_131_i (by decide) rfl g247 e246 k) ?_
  refine y_lf (fun _ _ _ _ k => y_aload_n (x := p0) (pc2 := 327) rfl dX12_init_326 rfl k) ?_
  refine y_lf (fun _ _ _ _ k => y_bipush (v := 8) (pc2 := 329) rfl dX12_init_327 (by decide) k) ?_
  obtain ⟨g248, hf⟩ := y_g hf
  obtain ⟨h250, e249, hf⟩ := y_bdE hf
  refine y_Unewa (t := 0) (n := 2658) (pc2 := 331) rfl dX12_init_329 (by decide) rfl rfl rfl ac_0 g248 e249 ?_
  obtain ⟨g253, hf⟩ := y_g hf
  obtain ⟨h251, e252, hf⟩ := y_bdE hf
  refine y_lf (fun _ _ _ _ k => y_putP (x := 2658) (pc2 := 334) rfl dX12_init_331 Fp_BoxYardModel_134_i (by decide) rfl g253 e252 k) ?_
  refine y_lf (fun _ _ _ _ k => y_aload_n (x := p0) (pc2 := 335) rfl dX12_init_334 rfl k) ?_
  refine y_lf (fun _ _ _ _ k => y_sipush (v := 854) (pc2 := 338) rfl dX12_init_335 (by decide) k) ?_
  obtain ⟨g254, hf⟩ := y_g hf
  obtain ⟨h256, e255, hf⟩ := y_bdE hf
  refine y_Unewa (t := 0) (n := 2722) (pc2 := 340) rfl dX12_init_338 (by decide) rfl rfl rfl ac_0 g254 e255 ?_
  obtain ⟨g259, hf⟩ := y_g hf
  obtain ⟨h257, e258, hf⟩ := y_bdE hf
  refine y_lf (fun _ _ _ _ k => y_putP (x := 2722) (pc2 := 343) rfl dX12_init_340 Fp_BoxYardModel_137_i (by decide) rfl g259 e258 k) ?_
  refine y_lf (fun _ _ _ _ k => y_aload_n (x := p0) (pc2 := 344) rfl dX12_init_343 rfl k) ?_
  refine y_lf (fun _ _ _ _ k => y_bipush (v := (-9 : Int32)) (pc2 := 346) rfl dX12_init_344 (by decide) k) ?_
  obtain ⟨g262, hf⟩ := y_g hf
  obtain ⟨h260, e261, hf⟩ := y_bdE hf
  refine y_lf (fun _ _ _ _ k => y_putI (x := (-9 : Int32)) (pc2 := 349) rfl dX12_init_346 Fp_BoxYardModel_140_i (by decide) rfl g262 e261 k) ?_
  refine y_lf (fun _ _ _ _ k => y_aload_n (x := p0) (pc2 := 350) rfl dX12_init_349 rfl k) ?_
  refine y_lf (fun _ _ _ _ k => y_iconst (v := 5) (pc2 := 351) rfl dX12_init_350 (by decide) k) ?_
  obtain ⟨g263, hf⟩ := y_g hf
  obtain ⟨h265, e264, hf⟩ := y_bdE hf
  refine y_Unewa (t := 0) (n := 2786) (pc2 := 353) rfl dX12_init_351 (by decide) rfl rfl rfl ac_0 g263 e264 ?_
  obtain ⟨g268, hf⟩ := y_g hf
  obtain ⟨h266, e267, hf⟩ := y_bdE hf
  refine y_lf (fun _ _ _ _ k => y_putP (x := 2786) (pc2 := 356) rfl dX12_init_353 Fp_BoxYardModel_144_i (by decide) rfl g268 e267 k) ?_
  refine y_lf (fun _ _ _ _ k => y_aload_n (x := p0) (pc2 := 357) rfl dX12_init_356 rfl k) ?_
  refine y_lf (fun _ _ _ _ k => y_bipush (v := (-9 : Int32)) (pc2 := 359) rfl dX12_init_357 (by decide) k) ?_
  obtain ⟨g271, hf⟩ := y_g hf
  obtain ⟨h269, e270, hf⟩ := y_bdE hf
  refine y_lf (fun _ _ _ _ k => y_putI (x := (-9 : Int32)) (pc2 := 362) rfl dX12_init_359 Fp_BoxYardModel_147_i (by decide) rfl g271 e270 k) ?_
  refine y_lf (fun _ _ _ _ k => y_aload_n (x := p0) (pc2 := 363) rfl dX12_init_362 rfl k) ?_
  refine y_lf (fun _ _ _ _ k => y_sipush (v := 4000) (pc2 := 366) rfl dX12_init_363 (by decide) k) ?_
  obtain ⟨g272, hf⟩ := y_g hf
  obtain ⟨h274, e273, hf⟩ := y_bdE hf
  refine y_Unewa (t := 0) (n := 2850) (pc2 := 368) rfl dX12_init_366 (by decide) rfl rfl rfl ac_0 g272 e273 ?_
  obtain ⟨g277, hf⟩ := y_g hf
  obtain ⟨h275, e276, hf⟩ := y_bdE hf
  refine y_lf (fun _ _ _ _ k => y_putP (x := 2850) (pc2 := 371) rfl dX12_init_368 Fp_BoxYardModel_150_i (by decide) rfl g277 e276 k) ?_
  refine y_lf (fun _ _ _ _ k => y_aload_n (x := p0) (pc2 := 372) rfl dX12_init_371 rfl k) ?_
  refine y_lf (fun _ _ _ _ k => y_sipush (v := 4000) (pc2 := 375) rfl dX12_init_372 (by decide) k) ?_
  obtain ⟨g278, hf⟩ := y_g hf
  obtain ⟨h280, e279, hf⟩ := y_bdE hf
  refine y_Unewa (t := 0) (n := 2914) (pc2 := 377) rfl dX12_init_375 (by decide) rfl rfl rfl ac_0 g278 e279 ?_
  obtain ⟨g283, hf⟩ := y_g hf
  obtain ⟨h281, e282, hf⟩ := y_bdE hf
  refine y_lf (fun _ _ _ _ k => y_putP (x := 2914) (pc2 := 380) rfl dX12_init_377 Fp_BoxYardModel_153_i (by decide) rfl g283 e282 k) ?_
  refine y_lf (fun _ _ _ _ k => y_aload_n (x := p0) (pc2 := 381) rfl dX12_init_380 rfl k) ?_
  refine y_lf (fun _ _ _ _ k => y_ldc (v := 66000) (pc2 := 383) rfl dX12_init_381 k_BoxYardModel_156 k) ?_
  obtain ⟨g284, hf⟩ := y_g hf
  obtain ⟨h286, e285, hf⟩ := y_bdE hf
  refine y_Unewa (t := 1) (n := 2978) (pc2 := 385) rfl dX12_init_383 (by decide) rfl rfl rfl ac_1 g284 e285 ?_
  obtain ⟨g289, hf⟩ := y_g hf
  obtain ⟨h287, e288, hf⟩ := y_bdE hf
  refine y_lf (fun _ _ _ _ k => y_putP (x := 2978) (pc2 := 388) rfl dX12_init_385 Fp_BoxYardModel_157_i (by decide) rfl g289 e288 k) ?_
  refine y_lf (fun _ _ _ _ k => y_aload_n (x := p0) (pc2 := 389) rfl dX12_init_388 rfl k) ?_
  refine y_lf (fun _ _ _ _ k => y_ldc (v := 66000) (pc2 := 391) rfl dX12_init_389 k_BoxYardModel_156 k) ?_
  obtain ⟨g290, hf⟩ := y_g hf
  obtain ⟨h292, e291, hf⟩ := y_bdE hf
  refine y_Unewa (t := 0) (n := 3042) (pc2 := 393) rfl dX12_init_391 (by decide) rfl rfl rfl ac_0 g290 e291 ?_
  obtain ⟨g295, hf⟩ := y_g hf
  obtain ⟨h293, e294, hf⟩ := y_bdE hf
  refine y_lf (fun _ _ _ _ k => y_putP (x := 3042) (pc2 := 396) rfl dX12_init_393 Fp_BoxYardModel_161_i (by decide) rfl g295 e294 k) ?_
  refine y_lf (fun _ _ _ _ k => y_aload_n (x := p0) (pc2 := 397) rfl dX12_init_396 rfl k) ?_
  refine y_lf (fun _ _ _ _ k => y_ldc (v := 66000) (pc2 := 399) rfl dX12_init_397 k_BoxYardModel_156 k) ?_
  obtain ⟨g296, hf⟩ := y_g hf
  obtain ⟨h298, e297, hf⟩ := y_bdE hf
  refine y_Unewa (t := 0) (n := 3106) (pc2 := 401) rfl dX12_init_399 (by decide) rfl rfl rfl ac_0 g296 e297 ?_
  obtain ⟨g301, hf⟩ := y_g hf
  obtain ⟨h299, e300, hf⟩ := y_bdE hf
  refine y_lf (fun _ _ _ _ k => y_putP (x := 3106) (pc2 := 404) rfl dX12_init_401 Fp_BoxYardModel_164_i (by decide) rfl g301 e300 k) ?_
  refine y_lf (fun _ _ _ _ k => y_aload_n (x := p0) (pc2 := 405) rfl dX12_init_404 rfl k) ?_
  refine y_lf (fun _ _ _ _ k => y_ldc (v := 131072) (pc2 := 407) rfl dX12_init_405 k_BoxYardModel_167 k) ?_
  obtain ⟨g302, hf⟩ := y_g hf
  obtain ⟨h304, e303, hf⟩ := y_bdE hf
  refine y_Unewa (t := 0) (n := 3170) (pc2 := 409) rfl dX12_init_407 (by decide) rfl rfl rfl ac_0 g302 e303 ?_
  obtain ⟨g307, hf⟩ := y_g hf
  obtain ⟨h305, e306, hf⟩ := y_bdE hf
  refine y_lf (fun _ _ _ _ k => y_putP (x := 3170) (pc2 := 412) rfl dX12_init_409 Fp_BoxYardModel_168_i (by decide) rfl g307 e306 k) ?_
  refine y_lf (fun _ _ _ _ k => y_aload_n (x := p0) (pc2 := 413) rfl dX12_init_412 rfl k) ?_
  refine y_lf (fun _ _ _ _ k => y_bipush (v := 6) (pc2 := 415) rfl dX12_init_413 (by decide) k) ?_
  obtain ⟨g308, hf⟩ := y_g hf
  obtain ⟨h310, e309, hf⟩ := y_bdE hf
  refine y_Unewa (t := 0) (n := 3234) (pc2 := 417) rfl dX12_init_415 (by decide) rfl rfl rfl ac_0 g308 e309 ?_
  obtain ⟨g313, hf⟩ := y_g hf
  obtain ⟨h311, e312, hf⟩ := y_bdE hf
  refine y_lf (fun _ _ _ _ k => y_putP (x := 3234) (pc2 := 420) rfl dX12_init_417 Fp_BoxYardModel_171_i (by decide) rfl g313 e312 k) ?_
  refine y_lf (fun _ _ _ _ k => y_aload_n (x := p0) (pc2 := 421) rfl dX12_init_420 rfl k) ?_
  refine y_lf (fun _ _ _ _ k => y_bipush (v := 6) (pc2 := 423) rfl dX12_init_421 (by decide) k) ?_
  obtain ⟨g314, hf⟩ := y_g hf
  obtain ⟨h316, e315, hf⟩ := y_bdE hf
  refine y_Unewa (t := 0) (n := 3298) (pc2 := 425) rfl dX12_init_423 (by decide) rfl rfl rfl ac_0 g314 e315 ?_
  obtain ⟨g319, hf⟩ := y_g hf
  obtain ⟨h317, e318, hf⟩ := y_bdE hf
  refine y_lf (fun _ _ _ _ k => y_putP (x := 3298) (pc2 := 428) rfl dX12_init_425 Fp_BoxYardModel_174_i (by decide) rfl g319 e318 k) ?_
  refine y_lf (fun _ _ _ _ k => y_aload_n (x := p0) (pc2 := 429) rfl dX12_init_428 rfl k) ?_
  refine y_lf (fun _ _ _ _ k => y_bipush (v := 30) (pc2 := 431) rfl dX12_init_429 (by decide) k) ?_
  obtain ⟨g320, hf⟩ := y_g hf
  obtain ⟨h322, e321, hf⟩ := y_bdE hf
  refine y_Unewa (t := 0) (n := 3362) (pc2 := 433) rfl dX12_init_431 (by decide) rfl rfl rfl ac_0 g320 e321 ?_
  obtain ⟨g325, hf⟩ := y_g hf
  obtain ⟨h323, e324, hf⟩ := y_bdE hf
  refine y_lf (fun _ _ _ _ k => y_putP (x := 3362) (pc2 := 436) rfl dX12_init_433 Fp_BoxYardModel_177_i (by decide) rfl g325 e324 k) ?_
  refine y_lf (fun _ _ _ _ k => y_aload_n (x := p0) (pc2 := 437) rfl dX12_init_436 rfl k) ?_
  refine y_lf (fun _ _ _ _ k => y_bipush (v := 6) (pc2 := 439) rfl dX12_init_437 (by decide) k) ?_
  obtain ⟨g326, hf⟩ := y_g hf
  obtain ⟨h328, e327, hf⟩ := y_bdE hf
  refine y_Unewa (t := 0) (n := 3426) (pc2 := 441) rfl dX12_init_439 (by decide) rfl rfl rfl ac_0 g326 e327 ?_
  obtain ⟨g331, hf⟩ := y_g hf
  obtain ⟨h329, e330, hf⟩ := y_bdE hf
  refine y_lf (fun _ _ _ _ k => y_putP (x := 3426) (pc2 := 444) rfl dX12_init_441 Fp_BoxYardModel_180_i (by decide) rfl g331 e330 k) ?_
  refine y_lf (fun _ _ _ _ k => y_aload_n (x := p0) (pc2 := 445) rfl dX12_init_444 rfl k) ?_
  refine y_lf (fun _ _ _ _ k => y_bipush (v := 60) (pc2 := 447) rfl dX12_init_445 (by decide) k) ?_
  obtain ⟨g332, hf⟩ := y_g hf
  obtain ⟨h334, e333, hf⟩ := y_bdE hf
  refine y_Unewa (t := 0) (n := 3490) (pc2 := 449) rfl dX12_init_447 (by decide) rfl rfl rfl ac_0 g332 e333 ?_
  obtain ⟨g337, hf⟩ := y_g hf
  obtain ⟨h335, e336, hf⟩ := y_bdE hf
  refine y_lf (fun _ _ _ _ k => y_putP (x := 3490) (pc2 := 452) rfl dX12_init_449 Fp_BoxYardModel_183_i (by decide) rfl g337 e336 k) ?_
  refine y_lf (fun _ _ _ _ k => y_aload_n (x := p0) (pc2 := 453) rfl dX12_init_452 rfl k) ?_
  refine y_lf (fun _ _ _ _ k => y_bipush (v := 60) (pc2 := 455) rfl dX12_init_453 (by decide) k) ?_
  obtain ⟨g338, hf⟩ := y_g hf
  obtain ⟨h340, e339, hf⟩ := y_bdE hf
  refine y_Unewa (t := 0) (n := 3554) (pc2 := 457) rfl dX12_init_455 (by decide) rfl rfl rfl ac_0 g338 e339 ?_
  obtain ⟨g343, hf⟩ := y_g hf
  obtain ⟨h341, e342, hf⟩ := y_bdE hf
  refine y_lf (fun _ _ _ _ k => y_putP (x := 3554) (pc2 := 460) rfl dX12_init_457 Fp_BoxYardModel_186_i (by decide) rfl g343 e342 k) ?_
  refine y_lf (fun _ _ _ _ k => y_aload_n (x := p0) (pc2 := 461) rfl dX12_init_460 rfl k) ?_
  refine y_lf (fun _ _ _ _ k => y_bipush (v := 60) (pc2 := 463) rfl dX12_init_461 (by decide) k) ?_
  obtain ⟨g344, hf⟩ := y_g hf
  obtain ⟨h346, e345, hf⟩ := y_bdE hf
  refine y_Unewa (t := 0) (n := 3618) (pc2 := 465) rfl dX12_init_463 (by decide) rfl rfl rfl ac_0 g344 e345 ?_
  obtain ⟨g349, hf⟩ := y_g hf
  obtain ⟨h347, e348, hf⟩ := y_bdE hf
  refine y_lf (fun _ _ _ _ k => y_putP (x := 3618) (pc2 := 468) rfl dX12_init_465 Fp_BoxYardModel_189_i (by decide) rfl g349 e348 k) ?_
  refine y_lf (fun _ _ _ _ k => y_aload_n (x := p0) (pc2 := 469) rfl dX12_init_468 rfl k) ?_
  refine y_lf (fun _ _ _ _ k => y_sipush (v := 512) (pc2 := 472) rfl dX12_init_469 (by decide) k) ?_
  obtain ⟨g350, hf⟩ := y_g hf
  obtain ⟨h352, e351, hf⟩ := y_bdE hf
  refine y_Unewa (t := 0) (n := 3682) (pc2 := 474) rfl dX12_init_472 (by decide) rfl rfl rfl ac_0 g350 e351 ?_
  obtain ⟨g355, hf⟩ := y_g hf
  obtain ⟨h353, e354, hf⟩ := y_bdE hf
  refine y_lf (fun _ _ _ _ k => y_putP (x := 3682) (pc2 := 477) rfl dX12_init_474 Fp_BoxYardModel_192_i (by decide) rfl g355 e354 k) ?_
  refine y_lf (fun _ _ _ _ k => y_aload_n (x := p0) (pc2 := 478) rfl dX12_init_477 rfl k) ?_
  refine y_lf (fun _ _ _ _ k => y_iconst (v := 4) (pc2 := 479) rfl dX12_init_478 (by decide) k) ?_
  obtain ⟨g356, hf⟩ := y_g hf
  obtain ⟨h358, e357, hf⟩ := y_bdE hf
  refine y_Unewa (t := 0) (n := 3746) (pc2 := 481) rfl dX12_init_479 (by decide) rfl rfl rfl ac_0 g356 e357 ?_
  obtain ⟨g361, hf⟩ := y_g hf
  obtain ⟨h359, e360, hf⟩ := y_bdE hf
  refine y_lf (fun _ _ _ _ k => y_putP (x := 3746) (pc2 := 484) rfl dX12_init_481 Fp_BoxYardModel_195_i (by decide) rfl g361 e360 k) ?_
  refine y_lf (fun _ _ _ _ k => y_aload_n (x := p0) (pc2 := 485) rfl dX12_init_484 rfl k) ?_
  refine y_lf (fun _ _ _ _ k => y_bipush (v := (-9 : Int32)) (pc2 := 487) rfl dX12_init_485 (by decide) k) ?_
  obtain ⟨g364, hf⟩ := y_g hf
  obtain ⟨h362, e363, hf⟩ := y_bdE hf
  refine y_lf (fun _ _ _ _ k => y_putI (x := (-9 : Int32)) (pc2 := 490) rfl dX12_init_487 Fp_BoxYardModel_198_i (by decide) rfl g364 e363 k) ?_
  refine y_lf (fun _ _ _ _ k => y_aload_n (x := p0) (pc2 := 491) rfl dX12_init_490 rfl k) ?_
  refine y_lf (fun _ _ _ _ k => y_bipush (v := (-9 : Int32)) (pc2 := 493) rfl dX12_init_491 (by decide) k) ?_
  obtain ⟨g367, hf⟩ := y_g hf
  obtain ⟨h365, e366, hf⟩ := y_bdE hf
  refine y_lf (fun _ _ _ _ k => y_putI (x := (-9 : Int32)) (pc2 := 496) rfl dX12_init_493 Fp_BoxYardModel_201_i (by decide) rfl g367 e366 k) ?_
  refine y_lf (fun _ _ _ _ k => y_aload_n (x := p0) (pc2 := 497) rfl dX12_init_496 rfl k) ?_
  refine y_lf (fun _ _ _ _ k => y_bipush (v := (-9 : Int32)) (pc2 := 499) rfl dX12_init_497 (by decide) k) ?_
  obtain ⟨g370, hf⟩ := y_g hf
  obtain ⟨h368, e369, hf⟩ := y_bdE hf
  refine y_lf (fun _ _ _ _ k => y_putI (x := (-9 : Int32)) (pc2 := 502) rfl dX12_init_499 Fp_BoxYardModel_204_i (by decide) rfl g370 e369 k) ?_
  refine y_lf (fun _ _ _ _ k => y_aload_n (x := p0) (pc2 := 503) rfl dX12_init_502 rfl k) ?_
  refine y_lf (fun _ _ _ _ k => y_bipush (v := 12) (pc2 := 505) rfl dX12_init_503 (by decide) k) ?_
  obtain ⟨g371, hf⟩ := y_g hf
  obtain ⟨h373, e372, hf⟩ := y_bdE hf
  refine y_Unewa (t := 0) (n := 3810) (pc2 := 507) rfl dX12_init_505 (by decide) rfl rfl rfl ac_0 g371 e372 ?_
  obtain ⟨g376, hf⟩ := y_g hf
  obtain ⟨h374, e375, hf⟩ := y_bdE hf
  refine y_lf (fun _ _ _ _ k => y_putP (x := 3810) (pc2 := 510) rfl dX12_init_507 Fp_BoxYardModel_207_i (by decide) rfl g376 e375 k) ?_
  refine y_lf (fun _ _ _ _ k => y_aload_n (x := p0) (pc2 := 511) rfl dX12_init_510 rfl k) ?_
  refine y_lf (fun _ _ _ _ k => y_bipush (v := 12) (pc2 := 513) rfl dX12_init_511 (by decide) k) ?_
  obtain ⟨g377, hf⟩ := y_g hf
  obtain ⟨h379, e378, hf⟩ := y_bdE hf
  refine y_Unewa (t := 0) (n := 3874) (pc2 := 515) rfl dX12_init_513 (by decide) rfl rfl rfl ac_0 g377 e378 ?_
  obtain ⟨g382, hf⟩ := y_g hf
  obtain ⟨h380, e381, hf⟩ := y_bdE hf
  refine y_lf (fun _ _ _ _ k => y_putP (x := 3874) (pc2 := 518) rfl dX12_init_515 Fp_BoxYardModel_210_i (by decide) rfl g382 e381 k) ?_
  refine y_lf (fun _ _ _ _ k => y_aload_n (x := p0) (pc2 := 519) rfl dX12_init_518 rfl k) ?_
  refine y_lf (fun _ _ _ _ k => y_bipush (v := 12) (pc2 := 521) rfl dX12_init_519 (by decide) k) ?_
  obtain ⟨g383, hf⟩ := y_g hf
  obtain ⟨h385, e384, hf⟩ := y_bdE hf
  refine y_Unewa (t := 0) (n := 3938) (pc2 := 523) rfl dX12_init_521 (by decide) rfl rfl rfl ac_0 g383 e384 ?_
  obtain ⟨g388, hf⟩ := y_g hf
  obtain ⟨h386, e387, hf⟩ := y_bdE hf
  refine y_lf (fun _ _ _ _ k => y_putP (x := 3938) (pc2 := 526) rfl dX12_init_523 Fp_BoxYardModel_213_i (by decide) rfl g388 e387 k) ?_
  refine y_lf (fun _ _ _ _ k => y_aload_n (x := p0) (pc2 := 527) rfl dX12_init_526 rfl k) ?_
  refine y_lf (fun _ _ _ _ k => y_bipush (v := 12) (pc2 := 529) rfl dX12_init_527 (by decide) k) ?_
  obtain ⟨g389, hf⟩ := y_g hf
  obtain ⟨h391, e390, hf⟩ := y_bdE hf
  refine y_Unewa (t := 0) (n := 4002) (pc2 := 531) rfl dX12_init_529 (by decide) rfl rfl rfl ac_0 g389 e390 ?_
  obtain ⟨g394, hf⟩ := y_g hf
  obtain ⟨h392, e393, hf⟩ := y_bdE hf
  refine y_lf (fun _ _ _ _ k => y_putP (x := 4002) (pc2 := 534) rfl dX12_init_531 Fp_BoxYardModel_216_i (by decide) rfl g394 e393 k) ?_
  refine y_lf (fun _ _ _ _ k => y_aload_n (x := p0) (pc2 := 535) rfl dX12_init_534 rfl k) ?_
  refine y_lf (fun _ _ _ _ k => y_bipush (v := 12) (pc2 := 537) rfl dX12_init_535 (by decide) k) ?_
  obtain ⟨g395, hf⟩ := y_g hf
  obtain ⟨h397, e396, hf⟩ := y_bdE hf
  refine y_Unewa (t := 0) (n := 4066) (pc2 := 539) rfl dX12_init_537 (by decide) rfl rfl rfl ac_0 g395 e396 ?_
  obtain ⟨g400, hf⟩ := y_g hf
  obtain ⟨h398, e399, hf⟩ := y_bdE hf
  refine y_lf (fun _ _ _ _ k => y_putP (x := 4066) (pc2 := 542) rfl dX12_init_539 Fp_BoxYardModel_219_i (by decide) rfl g400 e399 k) ?_
  refine y_lf (fun _ _ _ _ k => y_aload_n (x := p0) (pc2 := 543) rfl dX12_init_542 rfl k) ?_
  refine y_lf (fun _ _ _ _ k => y_sipush (v := 400) (pc2 := 546) rfl dX12_init_543 (by decide) k) ?_
  obtain ⟨g401, hf⟩ := y_g hf
  obtain ⟨h403, e402, hf⟩ := y_bdE hf
  refine y_Unewa (t := 0) (n := 4130) (pc2 := 548) rfl dX12_init_546 (by decide) rfl rfl rfl ac_0 g401 e402 ?_
  obtain ⟨g406, hf⟩ := y_g hf
  obtain ⟨h404, e405, hf⟩ := y_bdE hf
  refine y_lf (fun _ _ _ _ k => y_putP (x := 4130) (pc2 := 551) rfl dX12_init_548 Fp_BoxYardModel_222_i (by decide) rfl g406 e405 k) ?_
  refine y_lf (fun _ _ _ _ k => y_aload_n (x := p0) (pc2 := 552) rfl dX12_init_551 rfl k) ?_
  refine y_lf (fun _ _ _ _ k => y_bipush (v := 36) (pc2 := 554) rfl dX12_init_552 (by decide) k) ?_
  obtain ⟨g407, hf⟩ := y_g hf
  obtain ⟨h409, e408, hf⟩ := y_bdE hf
  refine y_Unewa (t := 0) (n := 4194) (pc2 := 556) rfl dX12_init_554 (by decide) rfl rfl rfl ac_0 g407 e408 ?_
  obtain ⟨g412, hf⟩ := y_g hf
  obtain ⟨h410, e411, hf⟩ := y_bdE hf
  refine y_lf (fun _ _ _ _ k => y_putP (x := 4194) (pc2 := 559) rfl dX12_init_556 Fp_BoxYardModel_225_i (by decide) rfl g412 e411 k) ?_
  refine y_lf (fun _ _ _ _ k => y_aload_n (x := p0) (pc2 := 560) rfl dX12_init_559 rfl k) ?_
  refine y_lf (fun _ _ _ _ k => y_bipush (v := 6) (pc2 := 562) rfl dX12_init_560 (by decide) k) ?_
  obtain ⟨g413, hf⟩ := y_g hf
  obtain ⟨h415, e414, hf⟩ := y_bdE hf
  refine y_Unewa (t := 0) (n := 4258) (pc2 := 564) rfl dX12_init_562 (by decide) rfl rfl rfl ac_0 g413 e414 ?_
  obtain ⟨g418, hf⟩ := y_g hf
  obtain ⟨h416, e417, hf⟩ := y_bdE hf
  refine y_lf (fun _ _ _ _ k => y_putP (x := 4258) (pc2 := 567) rfl dX12_init_564 Fp_BoxYardModel_228_i (by decide) rfl g418 e417 k) ?_
  refine y_lf (fun _ _ _ _ k => y_aload_n (x := p0) (pc2 := 568) rfl dX12_init_567 rfl k) ?_
  obtain ⟨g421, hf⟩ := y_g hf
  obtain ⟨r_, h419, c420, hf⟩ := y_clE hf
  refine y_UcV0 (As := []) (rm := rm_X12_begin) (pc2 := 571) rfl dX12_init_568 n_X12_begin l_BoxYardModel_231 i_X12_begin e_X12_begin (ci := 12) rfl rfl (by decide) g421 rfl rfl (by decide) (by decide) rfl rfl (k_X12_begin c420) ?_
  exact y_vretU hf dX12_init_571 rfl
