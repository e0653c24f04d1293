theorem dX12_keep_0 : decode cX12_keep 0 = .ok (.aload_n 0, 1) := by decide +kernel
theorem dX12_keep_1 : decode cX12_keep 1 = .ok (.invokevirtual 338, 3) := by decide +kernel
theorem dX12_keep_4 : decode cX12_keep 4 = .ok (.istore 4, 2) := by decide +kernel
theorem dX12_keep_6 : decode cX12_keep 6 = .ok (.aload_n 0, 1) := by decide +kernel
theorem dX12_keep_7 : decode cX12_keep 7 = .ok (.getfield 137, 3) := by decide +kernel
theorem dX12_keep_10 : decode cX12_keep 10 = .ok (.iload 4, 2) := by decide +kernel
theorem dX12_keep_12 : decode cX12_keep 12 = .ok (.iconst 1, 1) := by decide +kernel
theorem dX12_keep_13 : decode cX12_keep 13 = .ok (.iadd, 1) := by decide +kernel
theorem dX12_keep_14 : decode cX12_keep 14 = .ok (.iload_n 1, 1) := by decide +kernel
theorem dX12_keep_15 : decode cX12_keep 15 = .ok (.iastore, 1) := by decide +kernel
theorem dX12_keep_16 : decode cX12_keep 16 = .ok (.aload_n 0, 1) := by decide +kernel
theorem dX12_keep_17 : decode cX12_keep 17 = .ok (.getfield 137, 3) := by decide +kernel
theorem dX12_keep_20 : decode cX12_keep 20 = .ok (.iload 4, 2) := by decide +kernel
theorem dX12_keep_22 : decode cX12_keep 22 = .ok (.iconst 2, 1) := by decide +kernel
theorem dX12_keep_23 : decode cX12_keep 23 = .ok (.iadd, 1) := by decide +kernel
theorem dX12_keep_24 : decode cX12_keep 24 = .ok (.iload_n 1, 1) := by decide +kernel
theorem dX12_keep_25 : decode cX12_keep 25 = .ok (.ifCond .ge 7, 3) := by decide +kernel
theorem dX12_keep_28 : decode cX12_keep 28 = .ok (.iconst 0, 1) := by decide +kernel
theorem dX12_keep_29 : decode cX12_keep 29 = .ok (.goto 9, 3) := by decide +kernel
theorem dX12_keep_32 : decode cX12_keep 32 = .ok (.aload_n 0, 1) := by decide +kernel
theorem dX12_keep_33 : decode cX12_keep 33 = .ok (.getfield 86, 3) := by decide +kernel
theorem dX12_keep_36 : decode cX12_keep 36 = .ok (.iload_n 1, 1) := by decide +kernel
theorem dX12_keep_37 : decode cX12_keep 37 = .ok (.iaload, 1) := by decide +kernel
theorem dX12_keep_38 : decode cX12_keep 38 = .ok (.iastore, 1) := by decide +kernel
theorem dX12_keep_39 : decode cX12_keep 39 = .ok (.aload_n 0, 1) := by decide +kernel
theorem dX12_keep_40 : decode cX12_keep 40 = .ok (.getfield 137, 3) := by decide +kernel
theorem dX12_keep_43 : decode cX12_keep 43 = .ok (.iload 4, 2) := by decide +kernel
theorem dX12_keep_45 : decode cX12_keep 45 = .ok (.iconst 3, 1) := by decide +kernel
theorem dX12_keep_46 : decode cX12_keep 46 = .ok (.iadd, 1) := by decide +kernel
theorem dX12_keep_47 : decode cX12_keep 47 = .ok (.iload_n 1, 1) := by decide +kernel
theorem dX12_keep_48 : decode cX12_keep 48 = .ok (.ifCond .ge 7, 3) := by decide +kernel
theorem dX12_keep_51 : decode cX12_keep 51 = .ok (.iconst 0, 1) := by decide +kernel
theorem dX12_keep_52 : decode cX12_keep 52 = .ok (.goto 9, 3) := by decide +kernel
theorem dX12_keep_55 : decode cX12_keep 55 = .ok (.aload_n 0, 1) := by decide +kernel
theorem dX12_keep_56 : decode cX12_keep 56 = .ok (.getfield 89, 3) := by decide +kernel
theorem dX12_keep_59 : decode cX12_keep 59 = .ok (.iload_n 1, 1) := by decide +kernel
theorem dX12_keep_60 : decode cX12_keep 60 = .ok (.iaload, 1) := by decide +kernel
theorem dX12_keep_61 : decode cX12_keep 61 = .ok (.iastore, 1) := by decide +kernel
theorem dX12_keep_62 : decode cX12_keep 62 = .ok (.aload_n 0, 1) := by decide +kernel
theorem dX12_keep_63 : decode cX12_keep 63 = .ok (.getfield 137, 3) := by decide +kernel
theorem dX12_keep_66 : decode cX12_keep 66 = .ok (.iload 4, 2) := by decide +kernel
theorem dX12_keep_68 : decode cX12_keep 68 = .ok (.iconst 4, 1) := by decide +kernel
theorem dX12_keep_69 : decode cX12_keep 69 = .ok (.iadd, 1) := by decide +kernel
theorem dX12_keep_70 : decode cX12_keep 70 = .ok (.iload_n 1, 1) := by decide +kernel
theorem dX12_keep_71 : decode cX12_keep 71 = .ok (.ifCond .ge 7, 3) := by decide +kernel
theorem dX12_keep_74 : decode cX12_keep 74 = .ok (.iconst 0, 1) := by decide +kernel
theorem dX12_keep_75 : decode cX12_keep 75 = .ok (.goto 9, 3) := by decide +kernel
theorem dX12_keep_78 : decode cX12_keep 78 = .ok (.aload_n 0, 1) := by decide +kernel
theorem dX12_keep_79 : decode cX12_keep 79 = .ok (.getfield 92, 3) := by decide +kernel
theorem dX12_keep_82 : decode cX12_keep 82 = .ok (.iload_n 1, 1) := by decide +kernel
theorem dX12_keep_83 : decode cX12_keep 83 = .ok (.iaload, 1) := by decide +kernel
theorem dX12_keep_84 : decode cX12_keep 84 = .ok (.iastore, 1) := by decide +kernel
theorem dX12_keep_85 : decode cX12_keep 85 = .ok (.aload_n 0, 1) := by decide +kernel
theorem dX12_keep_86 : decode cX12_keep 86 = .ok (.getfield 137, 3) := by decide +kernel
theorem dX12_keep_89 : decode cX12_keep 89 = .ok (.iload 4, 2) := by decide +kernel
theorem dX12_keep_91 : decode cX12_keep 91 = .ok (.iconst 5, 1) := by decide +kernel
theorem dX12_keep_92 : decode cX12_keep 92 = .ok (.iadd, 1) := by decide +kernel
theorem dX12_keep_93 : decode cX12_keep 93 = .ok (.iload_n 2, 1) := by decide +kernel
theorem dX12_keep_94 : decode cX12_keep 94 = .ok (.iastore, 1) := by decide +kernel
theorem dX12_keep_95 : decode cX12_keep 95 = .ok (.iload_n 2, 1) := by decide +kernel
theorem dX12_keep_96 : decode cX12_keep 96 = .ok (.ifCond .lt 91, 3) := by decide +kernel
theorem dX12_keep_99 : decode cX12_keep 99 = .ok (.aload_n 0, 1) := by decide +kernel
theorem dX12_keep_100 : decode cX12_keep 100 = .ok (.getfield 137, 3) := by decide +kernel
theorem dX12_keep_103 : decode cX12_keep 103 = .ok (.iload 4, 2) := by decide +kernel
theorem dX12_keep_105 : decode cX12_keep 105 = .ok (.bipush 6, 2) := by decide +kernel
theorem dX12_keep_107 : decode cX12_keep 107 = .ok (.iadd, 1) := by decide +kernel
theorem dX12_keep_108 : decode cX12_keep 108 = .ok (.aload_n 0, 1) := by decide +kernel
theorem dX12_keep_109 : decode cX12_keep 109 = .ok (.getfield 29, 3) := by decide +kernel
theorem dX12_keep_112 : decode cX12_keep 112 = .ok (.iload_n 2, 1) := by decide +kernel
theorem dX12_keep_113 : decode cX12_keep 113 = .ok (.iaload, 1) := by decide +kernel
theorem dX12_keep_114 : decode cX12_keep 114 = .ok (.iastore, 1) := by decide +kernel
theorem dX12_keep_115 : decode cX12_keep 115 = .ok (.aload_n 0, 1) := by decide +kernel
theorem dX12_keep_116 : decode cX12_keep 116 = .ok (.getfield 137, 3) := by decide +kernel
theorem dX12_keep_119 : decode cX12_keep 119 = .ok (.iload 4, 2) := by decide +kernel
theorem dX12_keep_121 : decode cX12_keep 121 = .ok (.bipush 7, 2) := by decide +kernel
theorem dX12_keep_123 : decode cX12_keep 123 = .ok (.iadd, 1) := by decide +kernel
theorem dX12_keep_124 : decode cX12_keep 124 = .ok (.aload_n 0, 1) := by decide +kernel
theorem dX12_keep_125 : decode cX12_keep 125 = .ok (.getfield 32, 3) := by decide +kernel
theorem dX12_keep_128 : decode cX12_keep 128 = .ok (.iload_n 2, 1) := by decide +kernel
theorem dX12_keep_129 : decode cX12_keep 129 = .ok (.iaload, 1) := by decide +kernel
theorem dX12_keep_130 : decode cX12_keep 130 = .ok (.iastore, 1) := by decide +kernel
theorem dX12_keep_131 : decode cX12_keep 131 = .ok (.aload_n 0, 1) := by decide +kernel
theorem dX12_keep_132 : decode cX12_keep 132 = .ok (.getfield 137, 3) := by decide +kernel
theorem dX12_keep_135 : decode cX12_keep 135 = .ok (.iload 4, 2) := by decide +kernel
theorem dX12_keep_137 : decode cX12_keep 137 = .ok (.bipush 8, 2) := by decide +kernel
theorem dX12_keep_139 : decode cX12_keep 139 = .ok (.iadd, 1) := by decide +kernel
theorem dX12_keep_140 : decode cX12_keep 140 = .ok (.aload_n 0, 1) := by decide +kernel
theorem dX12_keep_141 : decode cX12_keep 141 = .ok (.getfield 35, 3) := by decide +kernel
theorem dX12_keep_144 : decode cX12_keep 144 = .ok (.iload_n 2, 1) := by decide +kernel
theorem dX12_keep_145 : decode cX12_keep 145 = .ok (.iaload, 1) := by decide +kernel
theorem dX12_keep_146 : decode cX12_keep 146 = .ok (.iastore, 1) := by decide +kernel
theorem dX12_keep_147 : decode cX12_keep 147 = .ok (.aload_n 0, 1) := by decide +kernel
theorem dX12_keep_148 : decode cX12_keep 148 = .ok (.getfield 137, 3) := by decide +kernel
theorem dX12_keep_151 : decode cX12_keep 151 = .ok (.iload 4, 2) := by decide +kernel
theorem dX12_keep_153 : decode cX12_keep 153 = .ok (.bipush 9, 2) := by decide +kernel
theorem dX12_keep_155 : decode cX12_keep 155 = .ok (.iadd, 1) := by decide +kernel
theorem dX12_keep_156 : decode cX12_keep 156 = .ok (.aload_n 0, 1) := by decide +kernel
theorem dX12_keep_157 : decode cX12_keep 157 = .ok (.getfield 38, 3) := by decide +kernel
theorem dX12_keep_160 : decode cX12_keep 160 = .ok (.iload_n 2, 1) := by decide +kernel
theorem dX12_keep_161 : decode cX12_keep 161 = .ok (.iaload, 1) := by decide +kernel
theorem dX12_keep_162 : decode cX12_keep 162 = .ok (.iastore, 1) := by decide +kernel
theorem dX12_keep_163 : decode cX12_keep 163 = .ok (.aload_n 0, 1) := by decide +kernel
theorem dX12_keep_164 : decode cX12_keep 164 = .ok (.getfield 137, 3) := by decide +kernel
theorem dX12_keep_167 : decode cX12_keep 167 = .ok (.iload 4, 2) := by decide +kernel
theorem dX12_keep_169 : decode cX12_keep 169 = .ok (.bipush 10, 2) := by decide +kernel
theorem dX12_keep_171 : decode cX12_keep 171 = .ok (.iadd, 1) := by decide +kernel
theorem dX12_keep_172 : decode cX12_keep 172 = .ok (.aload_n 0, 1) := by decide +kernel
theorem dX12_keep_173 : decode cX12_keep 173 = .ok (.getfield 25, 3) := by decide +kernel
theorem dX12_keep_176 : decode cX12_keep 176 = .ok (.iload_n 2, 1) := by decide +kernel
theorem dX12_keep_177 : decode cX12_keep 177 = .ok (.baload, 1) := by decide +kernel
theorem dX12_keep_178 : decode cX12_keep 178 = .ok (.ifCond .eq 7, 3) := by decide +kernel
theorem dX12_keep_181 : decode cX12_keep 181 = .ok (.iconst 1, 1) := by decide +kernel
theorem dX12_keep_182 : decode cX12_keep 182 = .ok (.goto 4, 3) := by decide +kernel
theorem dX12_keep_185 : decode cX12_keep 185 = .ok (.iconst 0, 1) := by decide +kernel
theorem dX12_keep_186 : decode cX12_keep 186 = .ok (.iastore, 1) := by decide +kernel
theorem dX12_keep_187 : decode cX12_keep 187 = .ok (.aload_n 0, 1) := by decide +kernel
theorem dX12_keep_188 : decode cX12_keep 188 = .ok (.getfield 137, 3) := by decide +kernel
theorem dX12_keep_191 : decode cX12_keep 191 = .ok (.iload 4, 2) := by decide +kernel
theorem dX12_keep_193 : decode cX12_keep 193 = .ok (.bipush 11, 2) := by decide +kernel
theorem dX12_keep_195 : decode cX12_keep 195 = .ok (.iadd, 1) := by decide +kernel
theorem dX12_keep_196 : decode cX12_keep 196 = .ok (.iload_n 3, 1) := by decide +kernel
theorem dX12_keep_197 : decode cX12_keep 197 = .ok (.iastore, 1) := by decide +kernel
theorem dX12_keep_198 : decode cX12_keep 198 = .ok (.aload_n 0, 1) := by decide +kernel
theorem dX12_keep_199 : decode cX12_keep 199 = .ok (.getfield 137, 3) := by decide +kernel
theorem dX12_keep_202 : decode cX12_keep 202 = .ok (.iload 4, 2) := by decide +kernel
theorem dX12_keep_204 : decode cX12_keep 204 = .ok (.bipush 12, 2) := by decide +kernel
theorem dX12_keep_206 : decode cX12_keep 206 = .ok (.iadd, 1) := by decide +kernel
theorem dX12_keep_207 : decode cX12_keep 207 = .ok (.iload_n 3, 1) := by decide +kernel
theorem dX12_keep_208 : decode cX12_keep 208 = .ok (.ifCond .ge 7, 3) := by decide +kernel
theorem dX12_keep_211 : decode cX12_keep 211 = .ok (.iconst 0, 1) := by decide +kernel
theorem dX12_keep_212 : decode cX12_keep 212 = .ok (.goto 9, 3) := by decide +kernel
theorem dX12_keep_215 : decode cX12_keep 215 = .ok (.aload_n 0, 1) := by decide +kernel
theorem dX12_keep_216 : decode cX12_keep 216 = .ok (.getfield 125, 3) := by decide +kernel
theorem dX12_keep_219 : decode cX12_keep 219 = .ok (.iload_n 3, 1) := by decide +kernel
theorem dX12_keep_220 : decode cX12_keep 220 = .ok (.iaload, 1) := by decide +kernel
theorem dX12_keep_221 : decode cX12_keep 221 = .ok (.iastore, 1) := by decide +kernel
theorem dX12_keep_222 : decode cX12_keep 222 = .ok (.aload_n 0, 1) := by decide +kernel
theorem dX12_keep_223 : decode cX12_keep 223 = .ok (.getfield 137, 3) := by decide +kernel
theorem dX12_keep_226 : decode cX12_keep 226 = .ok (.iload 4, 2) := by decide +kernel
theorem dX12_keep_228 : decode cX12_keep 228 = .ok (.bipush 13, 2) := by decide +kernel
theorem dX12_keep_230 : decode cX12_keep 230 = .ok (.iadd, 1) := by decide +kernel
theorem dX12_keep_231 : decode cX12_keep 231 = .ok (.iload_n 3, 1) := by decide +kernel
theorem dX12_keep_232 : decode cX12_keep 232 = .ok (.ifCond .ge 7, 3) := by decide +kernel
theorem dX12_keep_235 : decode cX12_keep 235 = .ok (.iconst 0, 1) := by decide +kernel
theorem dX12_keep_236 : decode cX12_keep 236 = .ok (.goto 9, 3) := by decide +kernel
theorem dX12_keep_239 : decode cX12_keep 239 = .ok (.aload_n 0, 1) := by decide +kernel
theorem dX12_keep_240 : decode cX12_keep 240 = .ok (.getfield 128, 3) := by decide +kernel
theorem dX12_keep_243 : decode cX12_keep 243 = .ok (.iload_n 3, 1) := by decide +kernel
theorem dX12_keep_244 : decode cX12_keep 244 = .ok (.iaload, 1) := by decide +kernel
theorem dX12_keep_245 : decode cX12_keep 245 = .ok (.iastore, 1) := by decide +kernel
theorem dX12_keep_246 : decode cX12_keep 246 = .ok (.return_, 1) := by decide +kernel
def M_X12_keep : y_M := (yX12_keep, cX12_keep, 5, (Option.none : Option Jvm.ClassFile.FieldType))
theorem n_X12_keep : y_N0 M_X12_keep 3 := ⟨(c_9 70 (by decide +kernel) rfl), (c_1 9 (by decide +kernel) rfl), ⟨by decide +kernel, by decide +kernel⟩, by decide +kernel⟩
theorem l_BoxYardModel_338 : y_lnk "BoxYardModel" 338 M_X12_roomFor := Or.inl (c_9 71 (by decide +kernel) rfl)
theorem i_X12_roomFor : Cond.instanceMethod (M_X12_roomFor).1 ∈ y_tb := (c_9 73 (by decide +kernel) rfl)
theorem e_X12_roomFor : Cond.selects (M_X12_roomFor).1.cls (M_X12_roomFor).1 (M_X12_roomFor).1 ∈ y_tb := (m_s 78 (by decide +kernel) rfl)
theorem F_BoxYardModel_125 : y_F "BoxYardModel" 125 12 43 := ⟨_, _, _, rfl, by decide, Or.inl (c_7 165 (by decide +kernel) rfl)⟩
theorem F_BoxYardModel_128 : y_F "BoxYardModel" 128 12 44 := ⟨_, _, _, rfl, by decide, Or.inl (c_7 166 (by decide +kernel) rfl)⟩
set_option maxRecDepth 100000 in
def f_X12_keep (p0 : Nat) (p1 : Int32) (p2 : Int32) (p3 : Int32) (h : y_H) : Option (Unit × y_H) :=
  if y_K h p0 = 13 then
  y_cl (f_X12_roomFor p0 h) (fun r1 h2 =>
  if y_K h2 p0 = 13 then
  if y_K h2 (y_P h2 p0 51) = 100 ∧ y_ix (r1 + 1) (y_N h2 (y_P h2 p0 51)) = true then
  y_bd (s_I h2 (y_P h2 p0 51) (Int32.toNatClampNeg (r1 + 1)) p1) (fun h4 =>
  if y_K h4 p0 = 13 then
  if 0 ≤ p1 then
    if y_K h4 p0 = 13 then
    if y_K h4 (y_P h4 p0 28) = 100 ∧ y_ix p1 (y_N h4 (y_P h4 p0 28)) = true then
    if y_K h4 (y_P h4 p0 51) = 100 ∧ y_ix (r1 + 2) (y_N h4 (y_P h4 p0 51)) = true then
    y_bd (s_I h4 (y_P h4 p0 51) (Int32.toNatClampNeg (r1 + 2)) (y_I h4 (y_P h4 p0 28) (Int32.toNatClampNeg p1))) (fun h7 =>
    if y_K h7 p0 = 13 then
    if 0 ≤ p1 then
      if y_K h7 p0 = 13 then
      if y_K h7 (y_P h7 p0 29) = 100 ∧ y_ix p1 (y_N h7 (y_P h7 p0 29)) = true then
      if y_K h7 (y_P h7 p0 51) = 100 ∧ y_ix (r1 + 3) (y_N h7 (y_P h7 p0 51)) = true then
      y_bd (s_I h7 (y_P h7 p0 51) (Int32.toNatClampNeg (r1 + 3)) (y_I h7 (y_P h7 p0 29) (Int32.toNatClampNeg p1))) (fun h10 =>
      if y_K h10 p0 = 13 then
      if 0 ≤ p1 then
        if y_K h10 p0 = 13 then
        if y_K h10 (y_P h10 p0 30) = 100 ∧ y_ix p1 (y_N h10 (y_P h10 p0 30)) = true then
        if y_K h10 (y_P h10 p0 51) = 100 ∧ y_ix (r1 + 4) (y_N h10 (y_P h10 p0 51)) = true then
        y_bd (s_I h10 (y_P h10 p0 51) (Int32.toNatClampNeg (r1 + 4)) (y_I h10 (y_P h10 p0 30) (Int32.toNatClampNeg p1))) (fun h13 =>
        if y_K h13 p0 = 13 then
        if y_K h13 (y_P h13 p0 51) = 100 ∧ y_ix (r1 + 5) (y_N h13 (y_P h13 p0 51)) = true then
        y_bd (s_I h13 (y_P h13 p0 51) (Int32.toNatClampNeg (r1 + 5)) p2) (fun h16 =>
        y_jn (fun (v0_187 : Nat) (v3_187 : Int32) (v4_187 : Int32) (h19 : y_H) => (
            if y_K h19 v0_187 = 13 then
            if y_K h19 (y_P h19 v0_187 51) = 100 ∧ y_ix (v4_187 + 11) (y_N h19 (y_P h19 v0_187 51)) = true then
            y_bd (s_I h19 (y_P h19 v0_187 51) (Int32.toNatClampNeg (v4_187 + 11)) v3_187) (fun h20 =>
            if y_K h20 v0_187 = 13 then
            if 0 ≤ v3_187 then
              if y_K h20 v0_187 = 13 then
              if y_K h20 (y_P h20 v0_187 43) = 100 ∧ y_ix v3_187 (y_N h20 (y_P h20 v0_187 43)) = true then
              if y_K h20 (y_P h20 v0_187 51) = 100 ∧ y_ix (v4_187 + 12) (y_N h20 (y_P h20 v0_187 51)) = true then
              y_bd (s_I h20 (y_P h20 v0_187 51) (Int32.toNatClampNeg (v4_187 + 12)) (y_I h20 (y_P h20 v0_187 43) (Int32.toNatClampNeg v3_187))) (fun h23 =>
              if y_K h23 v0_187 = 13 then
              if 0 ≤ v3_187 then
                if y_K h23 v0_187 = 13 then
                if y_K h23 (y_P h23 v0_187 44) = 100 ∧ y_ix v3_187 (y_N h23 (y_P h23 v0_187 44)) = true then
                if y_K h23 (y_P h23 v0_187 51) = 100 ∧ y_ix (v4_187 + 13) (y_N h23 (y_P h23 v0_187 51)) = true then
                y_bd (s_I h23 (y_P h23 v0_187 51) (Int32.toNatClampNeg (v4_187 + 13)) (y_I h23 (y_P h23 v0_187 44) (Int32.toNatClampNeg v3_187))) (fun h26 =>
                some ((), h26))
                else none
                else none
                else none
              else
                if y_K h23 (y_P h23 v0_187 51) = 100 ∧ y_ix (v4_187 + 13) (y_N h23 (y_P h23 v0_187 51)) = true then
                y_bd (s_I h23 (y_P h23 v0_187 51) (Int32.toNatClampNeg (v4_187 + 13)) 0) (fun h31 =>
                some ((), h31))
                else none
              else none)
              else none
              else none
              else none
            else
              if y_K h20 (y_P h20 v0_187 51) = 100 ∧ y_ix (v4_187 + 12) (y_N h20 (y_P h20 v0_187 51)) = true then
              y_bd (s_I h20 (y_P h20 v0_187 51) (Int32.toNatClampNeg (v4_187 + 12)) 0) (fun h38 =>
              if y_K h38 v0_187 = 13 then
              if 0 ≤ v3_187 then
                if y_K h38 v0_187 = 13 then
                if y_K h38 (y_P h38 v0_187 44) = 100 ∧ y_ix v3_187 (y_N h38 (y_P h38 v0_187 44)) = true then
                if y_K h38 (y_P h38 v0_187 51) = 100 ∧ y_ix (v4_187 + 13) (y_N h38 (y_P h38 v0_187 51)) = true then
                y_bd (s_I h38 (y_P h38 v0_187 51) (Int32.toNatClampNeg (v4_187 + 13)) (y_I h38 (y_P h38 v0_187 44) (Int32.toNatClampNeg v3_187))) (fun h41 =>
                some ((), h41))
                else none
                else none
                else none
              else
                if y_K h38 (y_P h38 v0_187 51) = 100 ∧ y_ix (v4_187 + 13) (y_N h38 (y_P h38 v0_187 51)) = true then
                y_bd (s_I h38 (y_P h38 v0_187 51) (Int32.toNatClampNeg (v4_187 + 13)) 0) (fun h46 =>
                some ((), h46))
                else none
              else none)
              else none
            else none)
            else none
            else none : Option (Unit × y_H))) (fun j187 =>
        if p2 < 0 then
          j187 p0 p3 r1 h16
        else
          if y_K h16 p0 = 13 then
          if y_K h16 p0 = 13 then
          if y_K h16 (y_P h16 p0 7) = 100 ∧ y_ix p2 (y_N h16 (y_P h16 p0 7)) = true then
          if y_K h16 (y_P h16 p0 51) = 100 ∧ y_ix (r1 + 6) (y_N h16 (y_P h16 p0 51)) = true then
          y_bd (s_I h16 (y_P h16 p0 51) (Int32.toNatClampNeg (r1 + 6)) (y_I h16 (y_P h16 p0 7) (Int32.toNatClampNeg p2))) (fun h54 =>
          if y_K h54 p0 = 13 then
          if y_K h54 p0 = 13 then
          if y_K h54 (y_P h54 p0 8) = 100 ∧ y_ix p2 (y_N h54 (y_P h54 p0 8)) = true then
          if y_K h54 (y_P h54 p0 51) = 100 ∧ y_ix (r1 + 7) (y_N h54 (y_P h54 p0 51)) = true then
          y_bd (s_I h54 (y_P h54 p0 51) (Int32.toNatClampNeg (r1 + 7)) (y_I h54 (y_P h54 p0 8) (Int32.toNatClampNeg p2))) (fun h57 =>
          if y_K h57 p0 = 13 then
          if y_K h57 p0 = 13 then
          if y_K h57 (y_P h57 p0 9) = 100 ∧ y_ix p2 (y_N h57 (y_P h57 p0 9)) = true then
          if y_K h57 (y_P h57 p0 51) = 100 ∧ y_ix (r1 + 8) (y_N h57 (y_P h57 p0 51)) = true then
          y_bd (s_I h57 (y_P h57 p0 51) (Int32.toNatClampNeg (r1 + 8)) (y_I h57 (y_P h57 p0 9) (Int32.toNatClampNeg p2))) (fun h60 =>
          if y_K h60 p0 = 13 then
          if y_K h60 p0 = 13 then
          if y_K h60 (y_P h60 p0 10) = 100 ∧ y_ix p2 (y_N h60 (y_P h60 p0 10)) = true then
          if y_K h60 (y_P h60 p0 51) = 100 ∧ y_ix (r1 + 9) (y_N h60 (y_P h60 p0 51)) = true then
          y_bd (s_I h60 (y_P h60 p0 51) (Int32.toNatClampNeg (r1 + 9)) (y_I h60 (y_P h60 p0 10) (Int32.toNatClampNeg p2))) (fun h63 =>
          if y_K h63 p0 = 13 then
          if y_K h63 p0 = 13 then
          if y_K h63 (y_P h63 p0 6) = 102 ∧ y_ix p2 (y_N h63 (y_P h63 p0 6)) = true then
          if (y_B h63 (y_P h63 p0 6) (Int32.toNatClampNeg p2)) = true then
            if y_K h63 (y_P h63 p0 51) = 100 ∧ y_ix (r1 + 10) (y_N h63 (y_P h63 p0 51)) = true then
            y_bd (s_I h63 (y_P h63 p0 51) (Int32.toNatClampNeg (r1 + 10)) 1) (fun h69 =>
            j187 p0 p3 r1 h69)
            else none
          else
            if y_K h63 (y_P h63 p0 51) = 100 ∧ y_ix (r1 + 10) (y_N h63 (y_P h63 p0 51)) = true then
            y_bd (s_I h63 (y_P h63 p0 51) (Int32.toNatClampNeg (r1 + 10)) 0) (fun h66 =>
            j187 p0 p3 r1 h66)
            else none
          else none
          else none
          else none)
          else none
          else none
          else none
          else none)
          else none
          else none
          else none
          else none)
          else none
          else none
          else none
          else none)
          else none
          else none
          else none
          else none))
        else none
        else none)
        else none
        else none
        else none
      else
        if y_K h10 (y_P h10 p0 51) = 100 ∧ y_ix (r1 + 4) (y_N h10 (y_P h10 p0 51)) = true then
        y_bd (s_I h10 (y_P h10 p0 51) (Int32.toNatClampNeg (r1 + 4)) 0) (fun h92 =>
        if y_K h92 p0 = 13 then
        if y_K h92 (y_P h92 p0 51) = 100 ∧ y_ix (r1 + 5) (y_N h92 (y_P h92 p0 51)) = true then
        y_bd (s_I h92 (y_P h92 p0 51) (Int32.toNatClampNeg (r1 + 5)) p2) (fun h95 =>
        y_jn (fun (v0_187 : Nat) (v3_187 : Int32) (v4_187 : Int32) (h98 : y_H) => (
            if y_K h98 v0_187 = 13 then
            if y_K h98 (y_P h98 v0_187 51) = 100 ∧ y_ix (v4_187 + 11) (y_N h98 (y_P h98 v0_187 51)) = true then
            y_bd (s_I h98 (y_P h98 v0_187 51) (Int32.toNatClampNeg (v4_187 + 11)) v3_187) (fun h99 =>
            if y_K h99 v0_187 = 13 then
            if 0 ≤ v3_187 then
              if y_K h99 v0_187 = 13 then
              if y_K h99 (y_P h99 v0_187 43) = 100 ∧ y_ix v3_187 (y_N h99 (y_P h99 v0_187 43)) = true then
              if y_K h99 (y_P h99 v0_187 51) = 100 ∧ y_ix (v4_187 + 12) (y_N h99 (y_P h99 v0_187 51)) = true then
              y_bd (s_I h99 (y_P h99 v0_187 51) (Int32.toNatClampNeg (v4_187 + 12)) (y_I h99 (y_P h99 v0_187 43) (Int32.toNatClampNeg v3_187))) (fun h102 =>
              if y_K h102 v0_187 = 13 then
              if 0 ≤ v3_187 then
                if y_K h102 v0_187 = 13 then
                if y_K h102 (y_P h102 v0_187 44) = 100 ∧ y_ix v3_187 (y_N h102 (y_P h102 v0_187 44)) = true then
                if y_K h102 (y_P h102 v0_187 51) = 100 ∧ y_ix (v4_187 + 13) (y_N h102 (y_P h102 v0_187 51)) = true then
                y_bd (s_I h102 (y_P h102 v0_187 51) (Int32.toNatClampNeg (v4_187 + 13)) (y_I h102 (y_P h102 v0_187 44) (Int32.toNatClampNeg v3_187))) (fun h105 =>
                some ((), h105))
                else none
                else none
                else none
              else
                if y_K h102 (y_P h102 v0_187 51) = 100 ∧ y_ix (v4_187 + 13) (y_N h102 (y_P h102 v0_187 51)) = true then
                y_bd (s_I h102 (y_P h102 v0_187 51) (Int32.toNatClampNeg (v4_187 + 13)) 0) (fun h110 =>
                some ((), h110))
                else none
              else none)
              else none
              else none
              else none
            else
              if y_K h99 (y_P h99 v0_187 51) = 100 ∧ y_ix (v4_187 + 12) (y_N h99 (y_P h99 v0_187 51)) = true then
              y_bd (s_I h99 (y_P h99 v0_187 51) (Int32.toNatClampNeg (v4_187 + 12)) 0) (fun h117 =>
              if y_K h117 v0_187 = 13 then
              if 0 ≤ v3_187 then
                if y_K h117 v0_187 = 13 then
                if y_K h117 (y_P h117 v0_187 44) = 100 ∧ y_ix v3_187 (y_N h117 (y_P h117 v0_187 44)) = true then
                if y_K h117 (y_P h117 v0_187 51) = 100 ∧ y_ix (v4_187 + 13) (y_N h117 (y_P h117 v0_187 51)) = true then
                y_bd (s_I h117 (y_P h117 v0_187 51) (Int32.toNatClampNeg (v4_187 + 13)) (y_I h117 (y_P h117 v0_187 44) (Int32.toNatClampNeg v3_187))) (fun h120 =>
                some ((), h120))
                else none
                else none
                else none
              else
                if y_K h117 (y_P h117 v0_187 51) = 100 ∧ y_ix (v4_187 + 13) (y_N h117 (y_P h117 v0_187 51)) = true then
                y_bd (s_I h117 (y_P h117 v0_187 51) (Int32.toNatClampNeg (v4_187 + 13)) 0) (fun h125 =>
                some ((), h125))
                else none
              else none)
              else none
            else none)
            else none
            else none : Option (Unit × y_H))) (fun j187 =>
        if p2 < 0 then
          j187 p0 p3 r1 h95
        else
          if y_K h95 p0 = 13 then
          if y_K h95 p0 = 13 then
          if y_K h95 (y_P h95 p0 7) = 100 ∧ y_ix p2 (y_N h95 (y_P h95 p0 7)) = true then
          if y_K h95 (y_P h95 p0 51) = 100 ∧ y_ix (r1 + 6) (y_N h95 (y_P h95 p0 51)) = true then
          y_bd (s_I h95 (y_P h95 p0 51) (Int32.toNatClampNeg (r1 + 6)) (y_I h95 (y_P h95 p0 7) (Int32.toNatClampNeg p2))) (fun h133 =>
          if y_K h133 p0 = 13 then
          if y_K h133 p0 = 13 then
          if y_K h133 (y_P h133 p0 8) = 100 ∧ y_ix p2 (y_N h133 (y_P h133 p0 8)) = true then
          if y_K h133 (y_P h133 p0 51) = 100 ∧ y_ix (r1 + 7) (y_N h133 (y_P h133 p0 51)) = true then
          y_bd (s_I h133 (y_P h133 p0 51) (Int32.toNatClampNeg (r1 + 7)) (y_I h133 (y_P h133 p0 8) (Int32.toNatClampNeg p2))) (fun h136 =>
          if y_K h136 p0 = 13 then
          if y_K h136 p0 = 13 then
          if y_K h136 (y_P h136 p0 9) = 100 ∧ y_ix p2 (y_N h136 (y_P h136 p0 9)) = true then
          if y_K h136 (y_P h136 p0 51) = 100 ∧ y_ix (r1 + 8) (y_N h136 (y_P h136 p0 51)) = true then
          y_bd (s_I h136 (y_P h136 p0 51) (Int32.toNatClampNeg (r1 + 8)) (y_I h136 (y_P h136 p0 9) (Int32.toNatClampNeg p2))) (fun h139 =>
          if y_K h139 p0 = 13 then
          if y_K h139 p0 = 13 then
          if y_K h139 (y_P h139 p0 10) = 100 ∧ y_ix p2 (y_N h139 (y_P h139 p0 10)) = true then
          if y_K h139 (y_P h139 p0 51) = 100 ∧ y_ix (r1 + 9) (y_N h139 (y_P h139 p0 51)) = true then
          y_bd (s_I h139 (y_P h139 p0 51) (Int32.toNatClampNeg (r1 + 9)) (y_I h139 (y_P h139 p0 10) (Int32.toNatClampNeg p2))) (fun h142 =>
          if y_K h142 p0 = 13 then
          if y_K h142 p0 = 13 then
          if y_K h142 (y_P h142 p0 6) = 102 ∧ y_ix p2 (y_N h142 (y_P h142 p0 6)) = true then
          if (y_B h142 (y_P h142 p0 6) (Int32.toNatClampNeg p2)) = true then
            if y_K h142 (y_P h142 p0 51) = 100 ∧ y_ix (r1 + 10) (y_N h142 (y_P h142 p0 51)) = true then
            y_bd (s_I h142 (y_P h142 p0 51) (Int32.toNatClampNeg (r1 + 10)) 1) (fun h148 =>
            j187 p0 p3 r1 h148)
            else none
          else
            if y_K h142 (y_P h142 p0 51) = 100 ∧ y_ix (r1 + 10) (y_N h142 (y_P h142 p0 51)) = true then
            y_bd (s_I h142 (y_P h142 p0 51) (Int32.toNatClampNeg (r1 + 10)) 0) (fun h145 =>
            j187 p0 p3 r1 h145)
            else none
          else none
          else none
          else none)
          else none
          else none
          else none
          else none)
          else none
          else none
          else none
          else none)
          else none
          else none
          else none
          else none)
          else none
          else none
          else none
          else none))
        else none
        else none)
        else none
      else none)
      else none
      else none
      else none
    else
      if y_K h7 (y_P h7 p0 51) = 100 ∧ y_ix (r1 + 3) (y_N h7 (y_P h7 p0 51)) = true then
      y_bd (s_I h7 (y_P h7 p0 51) (Int32.toNatClampNeg (r1 + 3)) 0) (fun h173 =>
      if y_K h173 p0 = 13 then
      if 0 ≤ p1 then
        if y_K h173 p0 = 13 then
        if y_K h173 (y_P h173 p0 30) = 100 ∧ y_ix p1 (y_N h173 (y_P h173 p0 30)) = true then
        if y_K h173 (y_P h173 p0 51) = 100 ∧ y_ix (r1 + 4) (y_N h173 (y_P h173 p0 51)) = true then
        y_bd (s_I h173 (y_P h173 p0 51) (Int32.toNatClampNeg (r1 + 4)) (y_I h173 (y_P h173 p0 30) (Int32.toNatClampNeg p1))) (fun h176 =>
        if y_K h176 p0 = 13 then
        if y_K h176 (y_P h176 p0 51) = 100 ∧ y_ix (r1 + 5) (y_N h176 (y_P h176 p0 51)) = true then
        y_bd (s_I h176 (y_P h176 p0 51) (Int32.toNatClampNeg (r1 + 5)) p2) (fun h179 =>
        y_jn (fun (v0_187 : Nat) (v3_187 : Int32) (v4_187 : Int32) (h182 : y_H) => (
            if y_K h182 v0_187 = 13 then
            if y_K h182 (y_P h182 v0_187 51) = 100 ∧ y_ix (v4_187 + 11) (y_N h182 (y_P h182 v0_187 51)) = true then
            y_bd (s_I h182 (y_P h182 v0_187 51) (Int32.toNatClampNeg (v4_187 + 11)) v3_187) (fun h183 =>
            if y_K h183 v0_187 = 13 then
            if 0 ≤ v3_187 then
              if y_K h183 v0_187 = 13 then
              if y_K h183 (y_P h183 v0_187 43) = 100 ∧ y_ix v3_187 (y_N h183 (y_P h183 v0_187 43)) = true then
              if y_K h183 (y_P h183 v0_187 51) = 100 ∧ y_ix (v4_187 + 12) (y_N h183 (y_P h183 v0_187 51)) = true then
              y_bd (s_I h183 (y_P h183 v0_187 51) (Int32.toNatClampNeg (v4_187 + 12)) (y_I h183 (y_P h183 v0_187 43) (Int32.toNatClampNeg v3_187))) (fun h186 =>
              if y_K h186 v0_187 = 13 then
              if 0 ≤ v3_187 then
                if y_K h186 v0_187 = 13 then
                if y_K h186 (y_P h186 v0_187 44) = 100 ∧ y_ix v3_187 (y_N h186 (y_P h186 v0_187 44)) = true then
                if y_K h186 (y_P h186 v0_187 51) = 100 ∧ y_ix (v4_187 + 13) (y_N h186 (y_P h186 v0_187 51)) = true then
                y_bd (s_I h186 (y_P h186 v0_187 51) (Int32.toNatClampNeg (v4_187 + 13)) (y_I h186 (y_P h186 v0_187 44) (Int32.toNatClampNeg v3_187))) (fun h189 =>
                some ((), h189))
                else none
                else none
                else none
              else
                if y_K h186 (y_P h186 v0_187 51) = 100 ∧ y_ix (v4_187 + 13) (y_N h186 (y_P h186 v0_187 51)) = true then
                y_bd (s_I h186 (y_P h186 v0_187 51) (Int32.toNatClampNeg (v4_187 + 13)) 0) (fun h194 =>
                some ((), h194))
                else none
              else none)
              else none
              else none
              else none
            else
              if y_K h183 (y_P h183 v0_187 51) = 100 ∧ y_ix (v4_187 + 12) (y_N h183 (y_P h183 v0_187 51)) = true then
              y_bd (s_I h183 (y_P h183 v0_187 51) (Int32.toNatClampNeg (v4_187 + 12)) 0) (fun h201 =>
              if y_K h201 v0_187 = 13 then
              if 0 ≤ v3_187 then
                if y_K h201 v0_187 = 13 then
                if y_K h201 (y_P h201 v0_187 44) = 100 ∧ y_ix v3_187 (y_N h201 (y_P h201 v0_187 44)) = true then
                if y_K h201 (y_P h201 v0_187 51) = 100 ∧ y_ix (v4_187 + 13) (y_N h201 (y_P h201 v0_187 51)) = true then
                y_bd (s_I h201 (y_P h201 v0_187 51) (Int32.toNatClampNeg (v4_187 + 13)) (y_I h201 (y_P h201 v0_187 44) (Int32.toNatClampNeg v3_187))) (fun h204 =>
                some ((), h204))
                else none
                else none
                else none
              else
                if y_K h201 (y_P h201 v0_187 51) = 100 ∧ y_ix (v4_187 + 13) (y_N h201 (y_P h201 v0_187 51)) = true then
                y_bd (s_I h201 (y_P h201 v0_187 51) (Int32.toNatClampNeg (v4_187 + 13)) 0) (fun h209 =>
                some ((), h209))
                else none
              else none)
              else none
            else none)
            else none
            else none : Option (Unit × y_H))) (fun j187 =>
        if p2 < 0 then
          j187 p0 p3 r1 h179
        else
          if y_K h179 p0 = 13 then
          if y_K h179 p0 = 13 then
          if y_K h179 (y_P h179 p0 7) = 100 ∧ y_ix p2 (y_N h179 (y_P h179 p0 7)) = true then
          if y_K h179 (y_P h179 p0 51) = 100 ∧ y_ix (r1 + 6) (y_N h179 (y_P h179 p0 51)) = true then
          y_bd (s_I h179 (y_P h179 p0 51) (Int32.toNatClampNeg (r1 + 6)) (y_I h179 (y_P h179 p0 7) (Int32.toNatClampNeg p2))) (fun h217 =>
          if y_K h217 p0 = 13 then
          if y_K h217 p0 = 13 then
          if y_K h217 (y_P h217 p0 8) = 100 ∧ y_ix p2 (y_N h217 (y_P h217 p0 8)) = true then
          if y_K h217 (y_P h217 p0 51) = 100 ∧ y_ix (r1 + 7) (y_N h217 (y_P h217 p0 51)) = true then
          y_bd (s_I h217 (y_P h217 p0 51) (Int32.toNatClampNeg (r1 + 7)) (y_I h217 (y_P h217 p0 8) (Int32.toNatClampNeg p2))) (fun h220 =>
          if y_K h220 p0 = 13 then
          if y_K h220 p0 = 13 then
          if y_K h220 (y_P h220 p0 9) = 100 ∧ y_ix p2 (y_N h220 (y_P h220 p0 9)) = true then
          if y_K h220 (y_P h220 p0 51) = 100 ∧ y_ix (r1 + 8) (y_N h220 (y_P h220 p0 51)) = true then
          y_bd (s_I h220 (y_P h220 p0 51) (Int32.toNatClampNeg (r1 + 8)) (y_I h220 (y_P h220 p0 9) (Int32.toNatClampNeg p2))) (fun h223 =>
          if y_K h223 p0 = 13 then
          if y_K h223 p0 = 13 then
          if y_K h223 (y_P h223 p0 10) = 100 ∧ y_ix p2 (y_N h223 (y_P h223 p0 10)) = true then
          if y_K h223 (y_P h223 p0 51) = 100 ∧ y_ix (r1 + 9) (y_N h223 (y_P h223 p0 51)) = true then
          y_bd (s_I h223 (y_P h223 p0 51) (Int32.toNatClampNeg (r1 + 9)) (y_I h223 (y_P h223 p0 10) (Int32.toNatClampNeg p2))) (fun h226 =>
          if y_K h226 p0 = 13 then
          if y_K h226 p0 = 13 then
          if y_K h226 (y_P h226 p0 6) = 102 ∧ y_ix p2 (y_N h226 (y_P h226 p0 6)) = true then
          if (y_B h226 (y_P h226 p0 6) (Int32.toNatClampNeg p2)) = true then
            if y_K h226 (y_P h226 p0 51) = 100 ∧ y_ix (r1 + 10) (y_N h226 (y_P h226 p0 51)) = true then
            y_bd (s_I h226 (y_P h226 p0 51) (Int32.toNatClampNeg (r1 + 10)) 1) (fun h232 =>
            j187 p0 p3 r1 h232)
            else none
          else
            if y_K h226 (y_P h226 p0 51) = 100 ∧ y_ix (r1 + 10) (y_N h226 (y_P h226 p0 51)) = true then
            y_bd (s_I h226 (y_P h226 p0 51) (Int32.toNatClampNeg (r1 + 10)) 0) (fun h229 =>
            j187 p0 p3 r1 h229)
            else none
          else none
          else none
          else none)
          else none
          else none
          else none
          else none)
          else none
          else none
          else none
          else none)
          else none
          else none
          else none
          else none)
          else none
          else none
          else none
          else none))
        else none
        else none)
        else none
        else none
        else none
      else
        if y_K h173 (y_P h173 p0 51) = 100 ∧ y_ix (r1 + 4) (y_N h173 (y_P h173 p0 51)) = true then
        y_bd (s_I h173 (y_P h173 p0 51) (Int32.toNatClampNeg (r1 + 4)) 0) (fun h255 =>
        if y_K h255 p0 = 13 then
        if y_K h255 (y_P h255 p0 51) = 100 ∧ y_ix (r1 + 5) (y_N h255 (y_P h255 p0 51)) = true then
        y_bd (s_I h255 (y_P h255 p0 51) (Int32.toNatClampNeg (r1 + 5)) p2) (fun h258 =>
        y_jn (fun (v0_187 : Nat) (v3_187 : Int32) (v4_187 : Int32) (h261 : y_H) => (
            if y_K h261 v0_187 = 13 then
            if y_K h261 (y_P h261 v0_187 51) = 100 ∧ y_ix (v4_187 + 11) (y_N h261 (y_P h261 v0_187 51)) = true then
            y_bd (s_I h261 (y_P h261 v0_187 51) (Int32.toNatClampNeg (v4_187 + 11)) v3_187) (fun h262 =>
            if y_K h262 v0_187 = 13 then
            if 0 ≤ v3_187 then
              if y_K h262 v0_187 = 13 then
              if y_K h262 (y_P h262 v0_187 43) = 100 ∧ y_ix v3_187 (y_N h262 (y_P h262 v0_187 43)) = true then
              if y_K h262 (y_P h262 v0_187 51) = 100 ∧ y_ix (v4_187 + 12) (y_N h262 (y_P h262 v0_187 51)) = true then
              y_bd (s_I h262 (y_P h262 v0_187 51) (Int32.toNatClampNeg (v4_187 + 12)) (y_I h262 (y_P h262 v0_187 43) (Int32.toNatClampNeg v3_187))) (fun h265 =>
              if y_K h265 v0_187 = 13 then
              if 0 ≤ v3_187 then
                if y_K h265 v0_187 = 13 then
                if y_K h265 (y_P h265 v0_187 44) = 100 ∧ y_ix v3_187 (y_N h265 (y_P h265 v0_187 44)) = true then
                if y_K h265 (y_P h265 v0_187 51) = 100 ∧ y_ix (v4_187 + 13) (y_N h265 (y_P h265 v0_187 51)) = true then
                y_bd (s_I h265 (y_P h265 v0_187 51) (Int32.toNatClampNeg (v4_187 + 13)) (y_I h265 (y_P h265 v0_187 44) (Int32.toNatClampNeg v3_187))) (fun h268 =>
                some ((), h268))
                else none
                else none
                else none
              else
                if y_K h265 (y_P h265 v0_187 51) = 100 ∧ y_ix (v4_187 + 13) (y_N h265 (y_P h265 v0_187 51)) = true then
                y_bd (s_I h265 (y_P h265 v0_187 51) (Int32.toNatClampNeg (v4_187 + 13)) 0) (fun h273 =>
                some ((), h273))
                else none
              else none)
              else none
              else none
              else none
            else
              if y_K h262 (y_P h262 v0_187 51) = 100 ∧ y_ix (v4_187 + 12) (y_N h262 (y_P h262 v0_187 51)) = true then
              y_bd (s_I h262 (y_P h262 v0_187 51) (Int32.toNatClampNeg (v4_187 + 12)) 0) (fun h280 =>
              if y_K h280 v0_187 = 13 then
              if 0 ≤ v3_187 then
                if y_K h280 v0_187 = 13 then
                if y_K h280 (y_P h280 v0_187 44) = 100 ∧ y_ix v3_187 (y_N h280 (y_P h280 v0_187 44)) = true then
                if y_K h280 (y_P h280 v0_187 51) = 100 ∧ y_ix (v4_187 + 13) (y_N h280 (y_P h280 v0_187 51)) = true then
                y_bd (s_I h280 (y_P h280 v0_187 51) (Int32.toNatClampNeg (v4_187 + 13)) (y_I h280 (y_P h280 v0_187 44) (Int32.toNatClampNeg v3_187))) (fun h283 =>
                some ((), h283))
                else none
                else none
                else none
              else
                if y_K h280 (y_P h280 v0_187 51) = 100 ∧ y_ix (v4_187 + 13) (y_N h280 (y_P h280 v0_187 51)) = true then
                y_bd (s_I h280 (y_P h280 v0_187 51) (Int32.toNatClampNeg (v4_187 + 13)) 0) (fun h288 =>
                some ((), h288))
                else none
              else none)
              else none
            else none)
            else none
            else none : Option (Unit × y_H))) (fun j187 =>
        if p2 < 0 then
          j187 p0 p3 r1 h258
        else
          if y_K h258 p0 = 13 then
          if y_K h258 p0 = 13 then
          if y_K h258 (y_P h258 p0 7) = 100 ∧ y_ix p2 (y_N h258 (y_P h258 p0 7)) = true then
          if y_K h258 (y_P h258 p0 51) = 100 ∧ y_ix (r1 + 6) (y_N h258 (y_P h258 p0 51)) = true then
          y_bd (s_I h258 (y_P h258 p0 51) (Int32.toNatClampNeg (r1 + 6)) (y_I h258 (y_P h258 p0 7) (Int32.toNatClampNeg p2))) (fun h296 =>
          if y_K h296 p0 = 13 then
          if y_K h296 p0 = 13 then
          if y_K h296 (y_P h296 p0 8) = 100 ∧ y_ix p2 (y_N h296 (y_P h296 p0 8)) = true then
          if y_K h296 (y_P h296 p0 51) = 100 ∧ y_ix (r1 + 7) (y_N h296 (y_P h296 p0 51)) = true then
          y_bd (s_I h296 (y_P h296 p0 51) (Int32.toNatClampNeg (r1 + 7)) (y_I h296 (y_P h296 p0 8) (Int32.toNatClampNeg p2))) (fun h299 =>
          if y_K h299 p0 = 13 then
          if y_K h299 p0 = 13 then
          if y_K h299 (y_P h299 p0 9) = 100 ∧ y_ix p2 (y_N h299 (y_P h299 p0 9)) = true then
          if y_K h299 (y_P h299 p0 51) = 100 ∧ y_ix (r1 + 8) (y_N h299 (y_P h299 p0 51)) = true then
          y_bd (s_I h299 (y_P h299 p0 51) (Int32.toNatClampNeg (r1 + 8)) (y_I h299 (y_P h299 p0 9) (Int32.toNatClampNeg p2))) (fun h302 =>
          if y_K h302 p0 = 13 then
          if y_K h302 p0 = 13 then
          if y_K h302 (y_P h302 p0 10) = 100 ∧ y_ix p2 (y_N h302 (y_P h302 p0 10)) = true then
          if y_K h302 (y_P h302 p0 51) = 100 ∧ y_ix (r1 + 9) (y_N h302 (y_P h302 p0 51)) = true then
          y_bd (s_I h302 (y_P h302 p0 51) (Int32.toNatClampNeg (r1 + 9)) (y_I h302 (y_P h302 p0 10) (Int32.toNatClampNeg p2))) (fun h305 =>
          if y_K h305 p0 = 13 then
          if y_K h305 p0 = 13 then
          if y_K h305 (y_P h305 p0 6) = 102 ∧ y_ix p2 (y_N h305 (y_P h305 p0 6)) = true then
          if (y_B h305 (y_P h305 p0 6) (Int32.toNatClampNeg p2)) = true then
            if y_K h305 (y_P h305 p0 51) = 100 ∧ y_ix (r1 + 10) (y_N h305 (y_P h305 p0 51)) = true then
            y_bd (s_I h305 (y_P h305 p0 51) (Int32.toNatClampNeg (r1 + 10)) 1) (fun h311 =>
            j187 p0 p3 r1 h311)
            else none
          else
            if y_K h305 (y_P h305 p0 51) = 100 ∧ y_ix (r1 + 10) (y_N h305 (y_P h305 p0 51)) = true then
            y_bd (s_I h305 (y_P h305 p0 51) (Int32.toNatClampNeg (r1 + 10)) 0) (fun h308 =>
            j187 p0 p3 r1 h308)
            else none
          else none
          else none
          else none)
          else none
          else none
          else none
          else none)
          else none
          else none
          else none
          else none)
          else none
          else none
          else none
          else none)
          else none
          else none
          else none
          else none))
        else none
        else none)
        else none
      else none)
      else none
    else none)
    else none
    else none
    else none
  else
    if y_K h4 (y_P h4 p0 51) = 100 ∧ y_ix (r1 + 2) (y_N h4 (y_P h4 p0 51)) = true then
    y_bd (s_I h4 (y_P h4 p0 51) (Int32.toNatClampNeg (r1 + 2)) 0) (fun h338 =>
    if y_K h338 p0 = 13 then
    if 0 ≤ p1 then
      if y_K h338 p0 = 13 then
      if y_K h338 (y_P h338 p0 29) = 100 ∧ y_ix p1 (y_N h338 (y_P h338 p0 29)) = true then
      if y_K h338 (y_P h338 p0 51) = 100 ∧ y_ix (r1 + 3) (y_N h338 (y_P h338 p0 51)) = true then
      y_bd (s_I h338 (y_P h338 p0 51) (Int32.toNatClampNeg (r1 + 3)) (y_I h338 (y_P h338 p0 29) (Int32.toNatClampNeg p1))) (fun h341 =>
      if y_K h341 p0 = 13 then
      if 0 ≤ p1 then
        if y_K h341 p0 = 13 then
        if y_K h341 (y_P h341 p0 30) = 100 ∧ y_ix p1 (y_N h341 (y_P h341 p0 30)) = true then
        if y_K h341 (y_P h341 p0 51) = 100 ∧ y_ix (r1 + 4) (y_N h341 (y_P h341 p0 51)) = true then
        y_bd (s_I h341 (y_P h341 p0 51) (Int32.toNatClampNeg (r1 + 4)) (y_I h341 (y_P h341 p0 30) (Int32.toNatClampNeg p1))) (fun h344 =>
        if y_K h344 p0 = 13 then
        if y_K h344 (y_P h344 p0 51) = 100 ∧ y_ix (r1 + 5) (y_N h344 (y_P h344 p0 51)) = true then
        y_bd (s_I h344 (y_P h344 p0 51) (Int32.toNatClampNeg (r1 + 5)) p2) (fun h347 =>
        y_jn (fun (v0_187 : Nat) (v3_187 : Int32) (v4_187 : Int32) (h350 : y_H) => (
            if y_K h350 v0_187 = 13 then
            if y_K h350 (y_P h350 v0_187 51) = 100 ∧ y_ix (v4_187 + 11) (y_N h350 (y_P h350 v0_187 51)) = true then
            y_bd (s_I h350 (y_P h350 v0_187 51) (Int32.toNatClampNeg (v4_187 + 11)) v3_187) (fun h351 =>
            if y_K h351 v0_187 = 13 then
            if 0 ≤ v3_187 then
              if y_K h351 v0_187 = 13 then
              if y_K h351 (y_P h351 v0_187 43) = 100 ∧ y_ix v3_187 (y_N h351 (y_P h351 v0_187 43)) = true then
              if y_K h351 (y_P h351 v0_187 51) = 100 ∧ y_ix (v4_187 + 12) (y_N h351 (y_P h351 v0_187 51)) = true then
              y_bd (s_I h351 (y_P h351 v0_187 51) (Int32.toNatClampNeg (v4_187 + 12)) (y_I h351 (y_P h351 v0_187 43) (Int32.toNatClampNeg v3_187))) (fun h354 =>
              if y_K h354 v0_187 = 13 then
              if 0 ≤ v3_187 then
                if y_K h354 v0_187 = 13 then
                if y_K h354 (y_P h354 v0_187 44) = 100 ∧ y_ix v3_187 (y_N h354 (y_P h354 v0_187 44)) = true then
                if y_K h354 (y_P h354 v0_187 51) = 100 ∧ y_ix (v4_187 + 13) (y_N h354 (y_P h354 v0_187 51)) = true then
                y_bd (s_I h354 (y_P h354 v0_187 51) (Int32.toNatClampNeg (v4_187 + 13)) (y_I h354 (y_P h354 v0_187 44) (Int32.toNatClampNeg v3_187))) (fun h357 =>
                some ((), h357))
                else none
                else none
                else none
              else
                if y_K h354 (y_P h354 v0_187 51) = 100 ∧ y_ix (v4_187 + 13) (y_N h354 (y_P h354 v0_187 51)) = true then
                y_bd (s_I h354 (y_P h354 v0_187 51) (Int32.toNatClampNeg (v4_187 + 13)) 0) (fun h362 =>
                some ((), h362))
                else none
              else none)
              else none
              else none
              else none
            else
              if y_K h351 (y_P h351 v0_187 51) = 100 ∧ y_ix (v4_187 + 12) (y_N h351 (y_P h351 v0_187 51)) = true then
              y_bd (s_I h351 (y_P h351 v0_187 51) (Int32.toNatClampNeg (v4_187 + 12)) 0) (fun h369 =>
              if y_K h369 v0_187 = 13 then
              if 0 ≤ v3_187 then
                if y_K h369 v0_187 = 13 then
                if y_K h369 (y_P h369 v0_187 44) = 100 ∧ y_ix v3_187 (y_N h369 (y_P h369 v0_187 44)) = true then
                if y_K h369 (y_P h369 v0_187 51) = 100 ∧ y_ix (v4_187 + 13) (y_N h369 (y_P h369 v0_187 51)) = true then
                y_bd (s_I h369 (y_P h369 v0_187 51) (Int32.toNatClampNeg (v4_187 + 13)) (y_I h369 (y_P h369 v0_187 44) (Int32.toNatClampNeg v3_187))) (fun h372 =>
                some ((), h372))
                else none
                else none
                else none
              else
                if y_K h369 (y_P h369 v0_187 51) = 100 ∧ y_ix (v4_187 + 13) (y_N h369 (y_P h369 v0_187 51)) = true then
                y_bd (s_I h369 (y_P h369 v0_187 51) (Int32.toNatClampNeg (v4_187 + 13)) 0) (fun h377 =>
                some ((), h377))
                else none
              else none)
              else none
            else none)
            else none
            else none : Option (Unit × y_H))) (fun j187 =>
        if p2 < 0 then
          j187 p0 p3 r1 h347
        else
          if y_K h347 p0 = 13 then
          if y_K h347 p0 = 13 then
          if y_K h347 (y_P h347 p0 7) = 100 ∧ y_ix p2 (y_N h347 (y_P h347 p0 7)) = true then
          if y_K h347 (y_P h347 p0 51) = 100 ∧ y_ix (r1 + 6) (y_N h347 (y_P h347 p0 51)) = true then
          y_bd (s_I h347 (y_P h347 p0 51) (Int32.toNatClampNeg (r1 + 6)) (y_I h347 (y_P h347 p0 7) (Int32.toNatClampNeg p2))) (fun h385 =>
          if y_K h385 p0 = 13 then
          if y_K h385 p0 = 13 then
          if y_K h385 (y_P h385 p0 8) = 100 ∧ y_ix p2 (y_N h385 (y_P h385 p0 8)) = true then
          if y_K h385 (y_P h385 p0 51) = 100 ∧ y_ix (r1 + 7) (y_N h385 (y_P h385 p0 51)) = true then
          y_bd (s_I h385 (y_P h385 p0 51) (Int32.toNatClampNeg (r1 + 7)) (y_I h385 (y_P h385 p0 8) (Int32.toNatClampNeg p2))) (fun h388 =>
          if y_K h388 p0 = 13 then
          if y_K h388 p0 = 13 then
          if y_K h388 (y_P h388 p0 9) = 100 ∧ y_ix p2 (y_N h388 (y_P h388 p0 9)) = true then
          if y_K h388 (y_P h388 p0 51) = 100 ∧ y_ix (r1 + 8) (y_N h388 (y_P h388 p0 51)) = true then
          y_bd (s_I h388 (y_P h388 p0 51) (Int32.toNatClampNeg (r1 + 8)) (y_I h388 (y_P h388 p0 9) (Int32.toNatClampNeg p2))) (fun h391 =>
          if y_K h391 p0 = 13 then
          if y_K h391 p0 = 13 then
          if y_K h391 (y_P h391 p0 10) = 100 ∧ y_ix p2 (y_N h391 (y_P h391 p0 10)) = true then
          if y_K h391 (y_P h391 p0 51) = 100 ∧ y_ix (r1 + 9) (y_N h391 (y_P h391 p0 51)) = true then
          y_bd (s_I h391 (y_P h391 p0 51) (Int32.toNatClampNeg (r1 + 9)) (y_I h391 (y_P h391 p0 10) (Int32.toNatClampNeg p2))) (fun h394 =>
          if y_K h394 p0 = 13 then
          if y_K h394 p0 = 13 then
          if y_K h394 (y_P h394 p0 6) = 102 ∧ y_ix p2 (y_N h394 (y_P h394 p0 6)) = true then
          if (y_B h394 (y_P h394 p0 6) (Int32.toNatClampNeg p2)) = true then
            if y_K h394 (y_P h394 p0 51) = 100 ∧ y_ix (r1 + 10) (y_N h394 (y_P h394 p0 51)) = true then
            y_bd (s_I h394 (y_P h394 p0 51) (Int32.toNatClampNeg (r1 + 10)) 1) (fun h400 =>
            j187 p0 p3 r1 h400)
            else none
          else
            if y_K h394 (y_P h394 p0 51) = 100 ∧ y_ix (r1 + 10) (y_N h394 (y_P h394 p0 51)) = true then
            y_bd (s_I h394 (y_P h394 p0 51) (Int32.toNatClampNeg (r1 + 10)) 0) (fun h397 =>
            j187 p0 p3 r1 h397)
            else none
          else none
          else none
          else none)
          else none
          else none
          else none
          else none)
          else none
          else none
          else none
          else none)
          else none
          else none
          else none
          else none)
          else none
          else none
          else none
          else none))
        else none
        else none)
        else none
        else none
        else none
      else
        if y_K h341 (y_P h341 p0 51) = 100 ∧ y_ix (r1 + 4) (y_N h341 (y_P h341 p0 51)) = true then
        y_bd (s_I h341 (y_P h341 p0 51) (Int32.toNatClampNeg (r1 + 4)) 0) (fun h423 =>
        if y_K h423 p0 = 13 then
        if y_K h423 (y_P h423 p0 51) = 100 ∧ y_ix (r1 + 5) (y_N h423 (y_P h423 p0 51)) = true then
        y_bd (s_I h423 (y_P h423 p0 51) (Int32.toNatClampNeg (r1 + 5)) p2) (fun h426 =>
        y_jn (fun (v0_187 : Nat) (v3_187 : Int32) (v4_187 : Int32) (h429 : y_H) => (
            if y_K h429 v0_187 = 13 then
            if y_K h429 (y_P h429 v0_187 51) = 100 ∧ y_ix (v4_187 + 11) (y_N h429 (y_P h429 v0_187 51)) = true then
            y_bd (s_I h429 (y_P h429 v0_187 51) (Int32.toNatClampNeg (v4_187 + 11)) v3_187) (fun h430 =>
            if y_K h430 v0_187 = 13 then
            if 0 ≤ v3_187 then
              if y_K h430 v0_187 = 13 then
              if y_K h430 (y_P h430 v0_187 43) = 100 ∧ y_ix v3_187 (y_N h430 (y_P h430 v0_187 43)) = true then
              if y_K h430 (y_P h430 v0_187 51) = 100 ∧ y_ix (v4_187 + 12) (y_N h430 (y_P h430 v0_187 51)) = true then
              y_bd (s_I h430 (y_P h430 v0_187 51) (Int32.toNatClampNeg (v4_187 + 12)) (y_I h430 (y_P h430 v0_187 43) (Int32.toNatClampNeg v3_187))) (fun h433 =>
              if y_K h433 v0_187 = 13 then
              if 0 ≤ v3_187 then
                if y_K h433 v0_187 = 13 then
                if y_K h433 (y_P h433 v0_187 44) = 100 ∧ y_ix v3_187 (y_N h433 (y_P h433 v0_187 44)) = true then
                if y_K h433 (y_P h433 v0_187 51) = 100 ∧ y_ix (v4_187 + 13) (y_N h433 (y_P h433 v0_187 51)) = true then
                y_bd (s_I h433 (y_P h433 v0_187 51) (Int32.toNatClampNeg (v4_187 + 13)) (y_I h433 (y_P h433 v0_187 44) (Int32.toNatClampNeg v3_187))) (fun h436 =>
                some ((), h436))
                else none
                else none
                else none
              else
                if y_K h433 (y_P h433 v0_187 51) = 100 ∧ y_ix (v4_187 + 13) (y_N h433 (y_P h433 v0_187 51)) = true then
                y_bd (s_I h433 (y_P h433 v0_187 51) (Int32.toNatClampNeg (v4_187 + 13)) 0) (fun h441 =>
                some ((), h441))
                else none
              else none)
              else none
              else none
              else none
            else
              if y_K h430 (y_P h430 v0_187 51) = 100 ∧ y_ix (v4_187 + 12) (y_N h430 (y_P h430 v0_187 51)) = true then
              y_bd (s_I h430 (y_P h430 v0_187 51) (Int32.toNatClampNeg (v4_187 + 12)) 0) (fun h448 =>
              if y_K h448 v0_187 = 13 then
              if 0 ≤ v3_187 then
                if y_K h448 v0_187 = 13 then
                if y_K h448 (y_P h448 v0_187 44) = 100 ∧ y_ix v3_187 (y_N h448 (y_P h448 v0_187 44)) = true then
                if y_K h448 (y_P h448 v0_187 51) = 100 ∧ y_ix (v4_187 + 13) (y_N h448 (y_P h448 v0_187 51)) = true then
                y_bd (s_I h448 (y_P h448 v0_187 51) (Int32.toNatClampNeg (v4_187 + 13)) (y_I h448 (y_P h448 v0_187 44) (Int32.toNatClampNeg v3_187))) (fun h451 =>
                some ((), h451))
                else none
                else none
                else none
              else
                if y_K h448 (y_P h448 v0_187 51) = 100 ∧ y_ix (v4_187 + 13) (y_N h448 (y_P h448 v0_187 51)) = true then
                y_bd (s_I h448 (y_P h448 v0_187 51) (Int32.toNatClampNeg (v4_187 + 13)) 0) (fun h456 =>
                some ((), h456))
                else none
              else none)
              else none
            else none)
            else none
            else none : Option (Unit × y_H))) (fun j187 =>
        if p2 < 0 then
          j187 p0 p3 r1 h426
        else
          if y_K h426 p0 = 13 then
          if y_K h426 p0 = 13 then
          if y_K h426 (y_P h426 p0 7) = 100 ∧ y_ix p2 (y_N h426 (y_P h426 p0 7)) = true then
          if y_K h426 (y_P h426 p0 51) = 100 ∧ y_ix (r1 + 6) (y_N h426 (y_P h426 p0 51)) = true then
          y_bd (s_I h426 (y_P h426 p0 51) (Int32.toNatClampNeg (r1 + 6)) (y_I h426 (y_P h426 p0 7) (Int32.toNatClampNeg p2))) (fun h464 =>
          if y_K h464 p0 = 13 then
          if y_K h464 p0 = 13 then
          if y_K h464 (y_P h464 p0 8) = 100 ∧ y_ix p2 (y_N h464 (y_P h464 p0 8)) = true then
          if y_K h464 (y_P h464 p0 51) = 100 ∧ y_ix (r1 + 7) (y_N h464 (y_P h464 p0 51)) = true then
          y_bd (s_I h464 (y_P h464 p0 51) (Int32.toNatClampNeg (r1 + 7)) (y_I h464 (y_P h464 p0 8) (Int32.toNatClampNeg p2))) (fun h467 =>
          if y_K h467 p0 = 13 then
          if y_K h467 p0 = 13 then
          if y_K h467 (y_P h467 p0 9) = 100 ∧ y_ix p2 (y_N h467 (y_P h467 p0 9)) = true then
          if y_K h467 (y_P h467 p0 51) = 100 ∧ y_ix (r1 + 8) (y_N h467 (y_P h467 p0 51)) = true then
          y_bd (s_I h467 (y_P h467 p0 51) (Int32.toNatClampNeg (r1 + 8)) (y_I h467 (y_P h467 p0 9) (Int32.toNatClampNeg p2))) (fun h470 =>
          if y_K h470 p0 = 13 then
          if y_K h470 p0 = 13 then
          if y_K h470 (y_P h470 p0 10) = 100 ∧ y_ix p2 (y_N h470 (y_P h470 p0 10)) = true then
          if y_K h470 (y_P h470 p0 51) = 100 ∧ y_ix (r1 + 9) (y_N h470 (y_P h470 p0 51)) = true then
          y_bd (s_I h470 (y_P h470 p0 51) (Int32.toNatClampNeg (r1 + 9)) (y_I h470 (y_P h470 p0 10) (Int32.toNatClampNeg p2))) (fun h473 =>
          if y_K h473 p0 = 13 then
          if y_K h473 p0 = 13 then
          if y_K h473 (y_P h473 p0 6) = 102 ∧ y_ix p2 (y_N h473 (y_P h473 p0 6)) = true then
          if (y_B h473 (y_P h473 p0 6) (Int32.toNatClampNeg p2)) = true then
            if y_K h473 (y_P h473 p0 51) = 100 ∧ y_ix (r1 + 10) (y_N h473 (y_P h473 p0 51)) = true then
            y_bd (s_I h473 (y_P h473 p0 51) (Int32.toNatClampNeg (r1 + 10)) 1) (fun h479 =>
            j187 p0 p3 r1 h479)
            else none
          else
            if y_K h473 (y_P h473 p0 51) = 100 ∧ y_ix (r1 + 10) (y_N h473 (y_P h473 p0 51)) = true then
            y_bd (s_I h473 (y_P h473 p0 51) (Int32.toNatClampNeg (r1 + 10)) 0) (fun h476 =>
            j187 p0 p3 r1 h476)
            else none
          else none
          else none
          else none)
          else none
          else none
          else none
          else none)
          else none
          else none
          else none
          else none)
          else none
          else none
          else none
          else none)
          else none
          else none
          else none
          else none))
        else none
        else none)
        else none
      else none)
      else none
      else none
      else none
    else
      if y_K h338 (y_P h338 p0 51) = 100 ∧ y_ix (r1 + 3) (y_N h338 (y_P h338 p0 51)) = true then
      y_bd (s_I h338 (y_P h338 p0 51) (Int32.toNatClampNeg (r1 + 3)) 0) (fun h504 =>
      if y_K h504 p0 = 13 then
      if 0 ≤ p1 then
        if y_K h504 p0 = 13 then
        if y_K h504 (y_P h504 p0 30) = 100 ∧ y_ix p1 (y_N h504 (y_P h504 p0 30)) = true then
        if y_K h504 (y_P h504 p0 51) = 100 ∧ y_ix (r1 + 4) (y_N h504 (y_P h504 p0 51)) = true then
        y_bd (s_I h504 (y_P h504 p0 51) (Int32.toNatClampNeg (r1 + 4)) (y_I h504 (y_P h504 p0 30) (Int32.toNatClampNeg p1))) (fun h507 =>
        if y_K h507 p0 = 13 then
        if y_K h507 (y_P h507 p0 51) = 100 ∧ y_ix (r1 + 5) (y_N h507 (y_P h507 p0 51)) = true then
        y_bd (s_I h507 (y_P h507 p0 51) (Int32.toNatClampNeg (r1 + 5)) p2) (fun h510 =>
        y_jn (fun (v0_187 : Nat) (v3_187 : Int32) (v4_187 : Int32) (h513 : y_H) => (
            if y_K h513 v0_187 = 13 then
            if y_K h513 (y_P h513 v0_187 51) = 100 ∧ y_ix (v4_187 + 11) (y_N h513 (y_P h513 v0_187 51)) = true then
            y_bd (s_I h513 (y_P h513 v0_187 51) (Int32.toNatClampNeg (v4_187 + 11)) v3_187) (fun h514 =>
            if y_K h514 v0_187 = 13 then
            if 0 ≤ v3_187 then
              if y_K h514 v0_187 = 13 then
              if y_K h514 (y_P h514 v0_187 43) = 100 ∧ y_ix v3_187 (y_N h514 (y_P h514 v0_187 43)) = true then
              if y_K h514 (y_P h514 v0_187 51) = 100 ∧ y_ix (v4_187 + 12) (y_N h514 (y_P h514 v0_187 51)) = true then
              y_bd (s_I h514 (y_P h514 v0_187 51) (Int32.toNatClampNeg (v4_187 + 12)) (y_I h514 (y_P h514 v0_187 43) (Int32.toNatClampNeg v3_187))) (fun h517 =>
              if y_K h517 v0_187 = 13 then
              if 0 ≤ v3_187 then
                if y_K h517 v0_187 = 13 then
                if y_K h517 (y_P h517 v0_187 44) = 100 ∧ y_ix v3_187 (y_N h517 (y_P h517 v0_187 44)) = true then
                if y_K h517 (y_P h517 v0_187 51) = 100 ∧ y_ix (v4_187 + 13) (y_N h517 (y_P h517 v0_187 51)) = true then
                y_bd (s_I h517 (y_P h517 v0_187 51) (Int32.toNatClampNeg (v4_187 + 13)) (y_I h517 (y_P h517 v0_187 44) (Int32.toNatClampNeg v3_187))) (fun h520 =>
                some ((), h520))
                else none
                else none
                else none
              else
                if y_K h517 (y_P h517 v0_187 51) = 100 ∧ y_ix (v4_187 + 13) (y_N h517 (y_P h517 v0_187 51)) = true then
                y_bd (s_I h517 (y_P h517 v0_187 51) (Int32.toNatClampNeg (v4_187 + 13)) 0) (fun h525 =>
                some ((), h525))
                else none
              else none)
              else none
              else none
              else none
            else
              if y_K h514 (y_P h514 v0_187 51) = 100 ∧ y_ix (v4_187 + 12) (y_N h514 (y_P h514 v0_187 51)) = true then
              y_bd (s_I h514 (y_P h514 v0_187 51) (Int32.toNatClampNeg (v4_187 + 12)) 0) (fun h532 =>
              if y_K h532 v0_187 = 13 then
              if 0 ≤ v3_187 then
                if y_K h532 v0_187 = 13 then
                if y_K h532 (y_P h532 v0_187 44) = 100 ∧ y_ix v3_187 (y_N h532 (y_P h532 v0_187 44)) = true then
                if y_K h532 (y_P h532 v0_187 51) = 100 ∧ y_ix (v4_187 + 13) (y_N h532 (y_P h532 v0_187 51)) = true then
                y_bd (s_I h532 (y_P h532 v0_187 51) (Int32.toNatClampNeg (v4_187 + 13)) (y_I h532 (y_P h532 v0_187 44) (Int32.toNatClampNeg v3_187))) (fun h535 =>
                some ((), h535))
                else none
                else none
                else none
              else
                if y_K h532 (y_P h532 v0_187 51) = 100 ∧ y_ix (v4_187 + 13) (y_N h532 (y_P h532 v0_187 51)) = true then
                y_bd (s_I h532 (y_P h532 v0_187 51) (Int32.toNatClampNeg (v4_187 + 13)) 0) (fun h540 =>
                some ((), h540))
                else none
              else none)
              else none
            else none)
            else none
            else none : Option (Unit × y_H))) (fun j187 =>
        if p2 < 0 then
          j187 p0 p3 r1 h510
        else
          if y_K h510 p0 = 13 then
          if y_K h510 p0 = 13 then
          if y_K h510 (y_P h510 p0 7) = 100 ∧ y_ix p2 (y_N h510 (y_P h510 p0 7)) = true then
          if y_K h510 (y_P h510 p0 51) = 100 ∧ y_ix (r1 + 6) (y_N h510 (y_P h510 p0 51)) = true then
          y_bd (s_I h510 (y_P h510 p0 51) (Int32.toNatClampNeg (r1 + 6)) (y_I h510 (y_P h510 p0 7) (Int32.toNatClampNeg p2))) (fun h548 =>
          if y_K h548 p0 = 13 then
          if y_K h548 p0 = 13 then
          if y_K h548 (y_P h548 p0 8) = 100 ∧ y_ix p2 (y_N h548 (y_P h548 p0 8)) = true then
          if y_K h548 (y_P h548 p0 51) = 100 ∧ y_ix (r1 + 7) (y_N h548 (y_P h548 p0 51)) = true then
          y_bd (s_I h548 (y_P h548 p0 51) (Int32.toNatClampNeg (r1 + 7)) (y_I h548 (y_P h548 p0 8) (Int32.toNatClampNeg p2))) (fun h551 =>
          if y_K h551 p0 = 13 then
          if y_K h551 p0 = 13 then
          if y_K h551 (y_P h551 p0 9) = 100 ∧ y_ix p2 (y_N h551 (y_P h551 p0 9)) = true then
          if y_K h551 (y_P h551 p0 51) = 100 ∧ y_ix (r1 + 8) (y_N h551 (y_P h551 p0 51)) = true then
          y_bd (s_I h551 (y_P h551 p0 51) (Int32.toNatClampNeg (r1 + 8)) (y_I h551 (y_P h551 p0 9) (Int32.toNatClampNeg p2))) (fun h554 =>
          if y_K h554 p0 = 13 then
          if y_K h554 p0 = 13 then
          if y_K h554 (y_P h554 p0 10) = 100 ∧ y_ix p2 (y_N h554 (y_P h554 p0 10)) = true then
          if y_K h554 (y_P h554 p0 51) = 100 ∧ y_ix (r1 + 9) (y_N h554 (y_P h554 p0 51)) = true then
          y_bd (s_I h554 (y_P h554 p0 51) (Int32.toNatClampNeg (r1 + 9)) (y_I h554 (y_P h554 p0 10) (Int32.toNatClampNeg p2))) (fun h557 =>
          if y_K h557 p0 = 13 then
          if y_K h557 p0 = 13 then
          if y_K h557 (y_P h557 p0 6) = 102 ∧ y_ix p2 (y_N h557 (y_P h557 p0 6)) = true then
          if (y_B h557 (y_P h557 p0 6) (Int32.toNatClampNeg p2)) = true then
            if y_K h557 (y_P h557 p0 51) = 100 ∧ y_ix (r1 + 10) (y_N h557 (y_P h557 p0 51)) = true then
            y_bd (s_I h557 (y_P h557 p0 51) (Int32.toNatClampNeg (r1 + 10)) 1) (fun h563 =>
            j187 p0 p3 r1 h563)
            else none
          else
            if y_K h557 (y_P h557 p0 51) = 100 ∧ y_ix (r1 + 10) (y_N h557 (y_P h557 p0 51)) = true then
            y_bd (s_I h557 (y_P h557 p0 51) (Int32.toNatClampNeg (r1 + 10)) 0) (fun h560 =>
            j187 p0 p3 r1 h560)
            else none
          else none
          else none
          else none)
          else none
          else none
          else none
          else none)
          else none
          else none
          else none
          else none)
          else none
          else none
          else none
          else none)
          else none
          else none
          else none
          else none))
        else none
        else none)
        else none
        else none
        else none
      else
        if y_K h504 (y_P h504 p0 51) = 100 ∧ y_ix (r1 + 4) (y_N h504 (y_P h504 p0 51)) = true then
        y_bd (s_I h504 (y_P h504 p0 51) (Int32.toNatClampNeg (r1 + 4)) 0) (fun h586 =>
        if y_K h586 p0 = 13 then
        if y_K h586 (y_P h586 p0 51) = 100 ∧ y_ix (r1 + 5) (y_N h586 (y_P h586 p0 51)) = true then
        y_bd (s_I h586 (y_P h586 p0 51) (Int32.toNatClampNeg (r1 + 5)) p2) (fun h589 =>
        y_jn (fun (v0_187 : Nat) (v3_187 : Int32) (v4_187 : Int32) (h592 : y_H) => (
            if y_K h592 v0_187 = 13 then
            if y_K h592 (y_P h592 v0_187 51) = 100 ∧ y_ix (v4_187 + 11) (y_N h592 (y_P h592 v0_187 51)) = true then
            y_bd (s_I h592 (y_P h592 v0_187 51) (Int32.toNatClampNeg (v4_187 + 11)) v3_187) (fun h593 =>
            if y_K h593 v0_187 = 13 then
            if 0 ≤ v3_187 then
              if y_K h593 v0_187 = 13 then
              if y_K h593 (y_P h593 v0_187 43) = 100 ∧ y_ix v3_187 (y_N h593 (y_P h593 v0_187 43)) = true then
              if y_K h593 (y_P h593 v0_187 51) = 100 ∧ y_ix (v4_187 + 12) (y_N h593 (y_P h593 v0_187 51)) = true then
              y_bd (s_I h593 (y_P h593 v0_187 51) (Int32.toNatClampNeg (v4_187 + 12)) (y_I h593 (y_P h593 v0_187 43) (Int32.toNatClampNeg v3_187))) (fun h596 =>
              if y_K h596 v0_187 = 13 then
              if 0 ≤ v3_187 then
                if y_K h596 v0_187 = 13 then
                if y_K h596 (y_P h596 v0_187 44) = 100 ∧ y_ix v3_187 (y_N h596 (y_P h596 v0_187 44)) = true then
                if y_K h596 (y_P h596 v0_187 51) = 100 ∧ y_ix (v4_187 + 13) (y_N h596 (y_P h596 v0_187 51)) = true then
                y_bd (s_I h596 (y_P h596 v0_187 51) (Int32.toNatClampNeg (v4_187 + 13)) (y_I h596 (y_P h596 v0_187 44) (Int32.toNatClampNeg v3_187))) (fun h599 =>
                some ((), h599))
                else none
                else none
                else none
              else
                if y_K h596 (y_P h596 v0_187 51) = 100 ∧ y_ix (v4_187 + 13) (y_N h596 (y_P h596 v0_187 51)) = true then
                y_bd (s_I h596 (y_P h596 v0_187 51) (Int32.toNatClampNeg (v4_187 + 13)) 0) (fun h604 =>
                some ((), h604))
                else none
              else none)
              else none
              else none
              else none
            else
              if y_K h593 (y_P h593 v0_187 51) = 100 ∧ y_ix (v4_187 + 12) (y_N h593 (y_P h593 v0_187 51)) = true then
              y_bd (s_I h593 (y_P h593 v0_187 51) (Int32.toNatClampNeg (v4_187 + 12)) 0) (fun h611 =>
              if y_K h611 v0_187 = 13 then
              if 0 ≤ v3_187 then
                if y_K h611 v0_187 = 13 then
                if y_K h611 (y_P h611 v0_187 44) = 100 ∧ y_ix v3_187 (y_N h611 (y_P h611 v0_187 44)) = true then
                if y_K h611 (y_P h611 v0_187 51) = 100 ∧ y_ix (v4_187 + 13) (y_N h611 (y_P h611 v0_187 51)) = true then
                y_bd (s_I h611 (y_P h611 v0_187 51) (Int32.toNatClampNeg (v4_187 + 13)) (y_I h611 (y_P h611 v0_187 44) (Int32.toNatClampNeg v3_187))) (fun h614 =>
                some ((), h614))
                else none
                else none
                else none
              else
                if y_K h611 (y_P h611 v0_187 51) = 100 ∧ y_ix (v4_187 + 13) (y_N h611 (y_P h611 v0_187 51)) = true then
                y_bd (s_I h611 (y_P h611 v0_187 51) (Int32.toNatClampNeg (v4_187 + 13)) 0) (fun h619 =>
                some ((), h619))
                else none
              else none)
              else none
            else none)
            else none
            else none : Option (Unit × y_H))) (fun j187 =>
        if p2 < 0 then
          j187 p0 p3 r1 h589
        else
          if y_K h589 p0 = 13 then
          if y_K h589 p0 = 13 then
          if y_K h589 (y_P h589 p0 7) = 100 ∧ y_ix p2 (y_N h589 (y_P h589 p0 7)) = true then
          if y_K h589 (y_P h589 p0 51) = 100 ∧ y_ix (r1 + 6) (y_N h589 (y_P h589 p0 51)) = true then
          y_bd (s_I h589 (y_P h589 p0 51) (Int32.toNatClampNeg (r1 + 6)) (y_I h589 (y_P h589 p0 7) (Int32.toNatClampNeg p2))) (fun h627 =>
          if y_K h627 p0 = 13 then
          if y_K h627 p0 = 13 then
          if y_K h627 (y_P h627 p0 8) = 100 ∧ y_ix p2 (y_N h627 (y_P h627 p0 8)) = true then
          if y_K h627 (y_P h627 p0 51) = 100 ∧ y_ix (r1 + 7) (y_N h627 (y_P h627 p0 51)) = true then
          y_bd (s_I h627 (y_P h627 p0 51) (Int32.toNatClampNeg (r1 + 7)) (y_I h627 (y_P h627 p0 8) (Int32.toNatClampNeg p2))) (fun h630 =>
          if y_K h630 p0 = 13 then
          if y_K h630 p0 = 13 then
          if y_K h630 (y_P h630 p0 9) = 100 ∧ y_ix p2 (y_N h630 (y_P h630 p0 9)) = true then
          if y_K h630 (y_P h630 p0 51) = 100 ∧ y_ix (r1 + 8) (y_N h630 (y_P h630 p0 51)) = true then
          y_bd (s_I h630 (y_P h630 p0 51) (Int32.toNatClampNeg (r1 + 8)) (y_I h630 (y_P h630 p0 9) (Int32.toNatClampNeg p2))) (fun h633 =>
          if y_K h633 p0 = 13 then
          if y_K h633 p0 = 13 then
          if y_K h633 (y_P h633 p0 10) = 100 ∧ y_ix p2 (y_N h633 (y_P h633 p0 10)) = true then
          if y_K h633 (y_P h633 p0 51) = 100 ∧ y_ix (r1 + 9) (y_N h633 (y_P h633 p0 51)) = true then
          y_bd (s_I h633 (y_P h633 p0 51) (Int32.toNatClampNeg (r1 + 9)) (y_I h633 (y_P h633 p0 10) (Int32.toNatClampNeg p2))) (fun h636 =>
          if y_K h636 p0 = 13 then
          if y_K h636 p0 = 13 then
          if y_K h636 (y_P h636 p0 6) = 102 ∧ y_ix p2 (y_N h636 (y_P h636 p0 6)) = true then
          if (y_B h636 (y_P h636 p0 6) (Int32.toNatClampNeg p2)) = true then
            if y_K h636 (y_P h636 p0 51) = 100 ∧ y_ix (r1 + 10) (y_N h636 (y_P h636 p0 51)) = true then
            y_bd (s_I h636 (y_P h636 p0 51) (Int32.toNatClampNeg (r1 + 10)) 1) (fun h642 =>
            j187 p0 p3 r1 h642)
            else none
          else
            if y_K h636 (y_P h636 p0 51) = 100 ∧ y_ix (r1 + 10) (y_N h636 (y_P h636 p0 51)) = true then
            y_bd (s_I h636 (y_P h636 p0 51) (Int32.toNatClampNeg (r1 + 10)) 0) (fun h639 =>
            j187 p0 p3 r1 h639)
            else none
          else none
          else none
          else none)
          else none
          else none
          else none
          else none)
          else none
          else none
          else none
          else none)
          else none
          else none
          else none
          else none)
          else none
          else none
          else none
          else none))
        else none
        else none)
        else none
      else none)
      else none
    else none)
    else none
  else none)
  else none
  else none)
  else none
abbrev rm_X12_keep : Room := { frames := 1, cells := 0, slots := 0, locals := 21 }
set_option maxRecDepth 100000 in
set_option maxHeartbeats 4000000 in
theorem k_X12_keep {l : Launch} {G : y_G} {p0 : Nat} {p1 : Int32} {p2 : Int32} {p3 : Int32} {h hz : y_H} {rz : Unit} (hf : f_X12_keep p0 p1 p2 p3 h = some (rz, hz)) : y_S l G M_X12_keep rm_X12_keep [y_p p0, .int p1, .int p2, .int p3] h none hz := by
  refine y_start (lv := [(0, y_p p0), (1, .int p1), (2, .int p2), (3, .int p3)]) (by decide) (by simp [lg_sl, y_p_cat, y_ci, y_cj, M_X12_keep]) (by simp [lv_args, y_p_cat, y_ci, y_cj]) (fun z ad0 => ?_)
  unfold f_X12_keep at hf
  refine y_aload_n (x := p0) (pc2 := 1) rfl dX12_keep_0 rfl ?_
  obtain ⟨g670, hf⟩ := y_g hf
  obtain ⟨r1, h2, c3, hf⟩ := y_clE hf
  refine y_callV (As := []) (rm := rm_X12_roomFor) (cells := 0) (slots := 0) (pc2 := 4) rfl dX12_keep_1 n_X12_roomFor l_BoxYardModel_338 i_X12_roomFor e_X12_roomFor (ci := 12) rfl rfl (by decide) g670 rfl rfl (by decide) (by decide) (by decide) (k_X12_roomFor c3) ?_
  refine y_istore (lv' := [(4, .int r1), (0, y_p p0), (1, .int p1), (2, .int p2), (3, .int p3)]) (pc2 := 6) rfl dX12_keep_4 (by decide) rfl ?_
  refine y_aload_n (x := p0) (pc2 := 7) rfl dX12_keep_6 rfl ?_
  obtain ⟨g669, hf⟩ := y_g hf
  refine y_getP (pc2 := 10) rfl dX12_keep_7 F_BoxYardModel_137 (by decide) rfl g669 ?_
  refine y_iload (pc2 := 12) rfl dX12_keep_10 rfl ?_
  refine y_iconst (v := 1) (pc2 := 13) rfl dX12_keep_12 (by decide) ?_
  refine y_iadd (pc2 := 14) rfl dX12_keep_13 ?_
  refine y_iload_n (pc2 := 15) rfl dX12_keep_14 rfl ?_
  obtain ⟨g6, hf⟩ := y_g hf
  obtain ⟨h4, e5, hf⟩ := y_bdE hf
  refine y_iast (x := p1) (pc2 := 16) rfl dX12_keep_15 g6.1 (y_ix_in g6.2) e5 ?_
  refine y_aload_n (x := p0) (pc2 := 17) rfl dX12_keep_16 rfl ?_
  obtain ⟨g668, hf⟩ := y_g hf
  refine y_getP (pc2 := 20) rfl dX12_keep_17 F_BoxYardModel_137 (by decide) rfl g668 ?_
  refine y_iload (pc2 := 22) rfl dX12_keep_20 rfl ?_
  refine y_iconst (v := 2) (pc2 := 23) rfl dX12_keep_22 (by decide) ?_
  refine y_iadd (pc2 := 24) rfl dX12_keep_23 ?_
  refine y_iload_n (pc2 := 25) rfl dX12_keep_24 rfl ?_
  refine y_if_ge (tgt := 32) (pc2 := 28) rfl dX12_keep_25 (by decide) (fun c667 => ?_) (fun c667 => ?_)
  · replace hf := y_it c667 hf
    refine y_aload_n (x := p0) (pc2 := 33) rfl dX12_keep_32 rfl ?_
    obtain ⟨g337, hf⟩ := y_g hf
    refine y_getP (pc2 := 36) rfl dX12_keep_33 F_BoxYardModel_86 (by decide) rfl g337 ?_
    refine y_iload_n (pc2 := 37) rfl dX12_keep_36 rfl ?_
    obtain ⟨g336, hf⟩ := y_g hf
    refine y_iald (pc2 := 38) rfl dX12_keep_37 g336.1 (y_ix_in g336.2) ?_
    obtain ⟨g9, hf⟩ := y_g hf
    obtain ⟨h7, e8, hf⟩ := y_bdE hf
    refine y_iast (x := y_I h4 (y_P h4 p0 28) (Int32.toNatClampNeg p1)) (pc2 := 39) rfl dX12_keep_38 g9.1 (y_ix_in g9.2) e8 ?_
    refine y_aload_n (x := p0) (pc2 := 40) rfl dX12_keep_39 rfl ?_
    obtain ⟨g335, hf⟩ := y_g hf
    refine y_getP (pc2 := 43) rfl dX12_keep_40 F_BoxYardModel_137 (by decide) rfl g335 ?_
    refine y_iload (pc2 := 45) rfl dX12_keep_43 rfl ?_
    refine y_iconst (v := 3) (pc2 := 46) rfl dX12_keep_45 (by decide) ?_
    refine y_iadd (pc2 := 47) rfl dX12_keep_46 ?_
    refine y_iload_n (pc2 := 48) rfl dX12_keep_47 rfl ?_
    refine y_if_ge (tgt := 55) (pc2 := 51) rfl dX12_keep_48 (by decide) (fun c334 => ?_) (fun c334 => ?_)
    · replace hf := y_it c334 hf
      refine y_aload_n (x := p0) (pc2 := 56) rfl dX12_keep_55 rfl ?_
      obtain ⟨g172, hf⟩ := y_g hf
      refine y_getP (pc2 := 59) rfl dX12_keep_56 F_BoxYardModel_89 (by decide) rfl g172 ?_
      refine y_iload_n (pc2 := 60) rfl dX12_keep_59 rfl ?_
      obtain ⟨g171, hf⟩ := y_g hf
      refine y_iald (pc2 := 61) rfl dX12_keep_60 g171.1 (y_ix_in g171.2) ?_
      obtain ⟨g12, hf⟩ := y_g hf
      obtain ⟨h10, e11, hf⟩ := y_bdE hf
      refine y_iast (x := y_I h7 (y_P h7 p0 29) (Int32.toNatClampNeg p1)) (pc2 := 62) rfl dX12_keep_61 g12.1 (y_ix_in g12.2) e11 ?_
      refine y_aload_n (x := p0) (pc2 := 63) rfl dX12_keep_62 rfl ?_
      obtain ⟨g170, hf⟩ := y_g hf
      refine y_getP (pc2 := 66) rfl dX12_keep_63 F_BoxYardModel_137 (by decide) rfl g170 ?_
      refine y_iload (pc2 := 68) rfl dX12_keep_66 rfl ?_
      refine y_iconst (v := 4) (pc2 := 69) rfl dX12_keep_68 (by decide) ?_
      refine y_iadd (pc2 := 70) rfl dX12_keep_69 ?_
      refine y_iload_n (pc2 := 71) rfl dX12_keep_70 rfl ?_
      refine y_if_ge (tgt := 78) (pc2 := 74) rfl dX12_keep_71 (by decide) (fun c169 => ?_) (fun c169 => ?_)
      · replace hf := y_it c169 hf
        refine y_aload_n (x := p0) (pc2 := 79) rfl dX12_keep_78 rfl ?_
        obtain ⟨g91, hf⟩ := y_g hf
        refine y_getP (pc2 := 82) rfl dX12_keep_79 F_BoxYardModel_92 (by decide) rfl g91 ?_
        refine y_iload_n (pc2 := 83) rfl dX12_keep_82 rfl ?_
        obtain ⟨g90, hf⟩ := y_g hf
        refine y_iald (pc2 := 84) rfl dX12_keep_83 g90.1 (y_ix_in g90.2) ?_
        obtain ⟨g15, hf⟩ := y_g hf
        obtain ⟨h13, e14, hf⟩ := y_bdE hf
        refine y_iast (x := y_I h10 (y_P h10 p0 30) (Int32.toNatClampNeg p1)) (pc2 := 85) rfl dX12_keep_84 g15.1 (y_ix_in g15.2) e14 ?_
        refine y_aload_n (x := p0) (pc2 := 86) rfl dX12_keep_85 rfl ?_
        obtain ⟨g89, hf⟩ := y_g hf
        refine y_getP (pc2 := 89) rfl dX12_keep_86 F_BoxYardModel_137 (by decide) rfl g89 ?_
        refine y_iload (pc2 := 91) rfl dX12_keep_89 rfl ?_
        refine y_iconst (v := 5) (pc2 := 92) rfl dX12_keep_91 (by decide) ?_
        refine y_iadd (pc2 := 93) rfl dX12_keep_92 ?_
        refine y_iload_n (pc2 := 94) rfl dX12_keep_93 rfl ?_
        obtain ⟨g18, hf⟩ := y_g hf
        obtain ⟨h16, e17, hf⟩ := y_bdE hf
        refine y_iast (x := p2) (pc2 := 95) rfl dX12_keep_94 g18.1 (y_ix_in g18.2) e17 ?_
        refine y_iload_n (pc2 := 96) rfl dX12_keep_95 rfl ?_
        refine y_jnE hf (fun j => ∀ (v0_187 : Nat) (v3_187 : Int32) (v4_187 : Int32) (h19 : y_H), j v0_187 v3_187 v4_187 h19 = some (rz, hz) → y_V l G z rm_X12_keep M_X12_keep ad0 h none hz 187 [(0, y_p v0_187), (3, .int v3_187), (4, .int v4_187)] [] h19 0 0) (fun v0_187 v3_187 v4_187 h19 hf => ?_) (fun j187 hj187 hf => ?_)
        · refine y_aload_n (x := v0_187) (pc2 := 188) rfl dX12_keep_187 rfl ?_
          obtain ⟨g53, hf⟩ := y_g hf
          refine y_getP (pc2 := 191) rfl dX12_keep_188 F_BoxYardModel_137 (by decide) rfl g53 ?_
          refine y_iload (pc2 := 193) rfl dX12_keep_191 rfl ?_
          refine y_bipush (v := 11) (pc2 := 195) rfl dX12_keep_193 (by decide) ?_
          refine y_iadd (pc2 := 196) rfl dX12_keep_195 ?_
          refine y_iload_n (pc2 := 197) rfl dX12_keep_196 rfl ?_
          obtain ⟨g22, hf⟩ := y_g hf
          obtain ⟨h20, e21, hf⟩ := y_bdE hf
          refine y_iast (x := v3_187) (pc2 := 198) rfl dX12_keep_197 g22.1 (y_ix_in g22.2) e21 ?_
          refine y_aload_n (x := v0_187) (pc2 := 199) rfl dX12_keep_198 rfl ?_
          obtain ⟨g52, hf⟩ := y_g hf
          refine y_getP (pc2 := 202) rfl dX12_keep_199 F_BoxYardModel_137 (by decide) rfl g52 ?_
          refine y_iload (pc2 := 204) rfl dX12_keep_202 rfl ?_
          refine y_bipush (v := 12) (pc2 := 206) rfl dX12_keep_204 (by decide) ?_
          refine y_iadd (pc2 := 207) rfl dX12_keep_206 ?_
          refine y_iload_n (pc2 := 208) rfl dX12_keep_207 rfl ?_
          refine y_if_ge (tgt := 215) (pc2 := 211) rfl dX12_keep_208 (by decide) (fun c51 => ?_) (fun c51 => ?_)
          · replace hf := y_it c51 hf
            refine y_aload_n (x := v0_187) (pc2 := 216) rfl dX12_keep_215 rfl ?_
            obtain ⟨g37, hf⟩ := y_g hf
            refine y_getP (pc2 := 219) rfl dX12_keep_216 F_BoxYardModel_125 (by decide) rfl g37 ?_
            refine y_iload_n (pc2 := 220) rfl dX12_keep_219 rfl ?_
            obtain ⟨g36, hf⟩ := y_g hf
            refine y_iald (pc2 := 221) rfl dX12_keep_220 g36.1 (y_ix_in g36.2) ?_
            obtain ⟨g25, hf⟩ := y_g hf
            obtain ⟨h23, e24, hf⟩ := y_bdE hf
            refine y_iast (x := y_I h20 (y_P h20 v0_187 43) (Int32.toNatClampNeg v3_187)) (pc2 := 222) rfl dX12_keep_221 g25.1 (y_ix_in g25.2) e24 ?_
            refine y_aload_n (x := v0_187) (pc2 := 223) rfl dX12_keep_222 rfl ?_
            obtain ⟨g35, hf⟩ := y_g hf
            refine y_getP (pc2 := 226) rfl dX12_keep_223 F_BoxYardModel_137 (by decide) rfl g35 ?_
            refine y_iload (pc2 := 228) rfl dX12_keep_226 rfl ?_
            refine y_bipush (v := 13) (pc2 := 230) rfl dX12_keep_228 (by decide) ?_
            refine y_iadd (pc2 := 231) rfl dX12_keep_230 ?_
            refine y_iload_n (pc2 := 232) rfl dX12_keep_231 rfl ?_
            refine y_if_ge (tgt := 239) (pc2 := 235) rfl dX12_keep_232 (by decide) (fun c34 => ?_) (fun c34 => ?_)
            · replace hf := y_it c34 hf
              refine y_aload_n (x := v0_187) (pc2 := 240) rfl dX12_keep_239 rfl ?_
              obtain ⟨g30, hf⟩ := y_g hf
              refine y_getP (pc2 := 243) rfl dX12_keep_240 F_BoxYardModel_128 (by decide) rfl g30 ?_
              refine y_iload_n (pc2 := 244) rfl dX12_keep_243 rfl ?_
              obtain ⟨g29, hf⟩ := y_g hf
              refine y_iald (pc2 := 245) rfl dX12_keep_244 g29.1 (y_ix_in g29.2) ?_
              obtain ⟨g28, hf⟩ := y_g hf
              obtain ⟨h26, e27, hf⟩ := y_bdE hf
              refine y_iast (x := y_I h23 (y_P h23 v0_187 44) (Int32.toNatClampNeg v3_187)) (pc2 := 246) rfl dX12_keep_245 g28.1 (y_ix_in g28.2) e27 ?_
              exact y_vretF hf dX12_keep_246 rfl (by decide) (by decide)
            · replace hf := y_ie c34 hf
              refine y_iconst (v := 0) (pc2 := 236) rfl dX12_keep_235 (by decide) ?_
              refine y_goto (tgt := 245) dX12_keep_236 (by decide) ?_
              obtain ⟨g33, hf⟩ := y_g hf
              obtain ⟨h31, e32, hf⟩ := y_bdE hf
              refine y_iast (x := 0) (pc2 := 246) rfl dX12_keep_245 g33.1 (y_ix_in g33.2) e32 ?_
              exact y_vretF hf dX12_keep_246 rfl (by decide) (by decide)
          · replace hf := y_ie c51 hf
            refine y_iconst (v := 0) (pc2 := 212) rfl dX12_keep_211 (by decide) ?_
            refine y_goto (tgt := 221) dX12_keep_212 (by decide) ?_
            obtain ⟨g40, hf⟩ := y_g hf
            obtain ⟨h38, e39, hf⟩ := y_bdE hf
            refine y_iast (x := 0) (pc2 := 222) rfl dX12_keep_221 g40.1 (y_ix_in g40.2) e39 ?_
            refine y_aload_n (x := v0_187) (pc2 := 223) rfl dX12_keep_222 rfl ?_
            obtain ⟨g50, hf⟩ := y_g hf
            refine y_getP (pc2 := 226) rfl dX12_keep_223 F_BoxYardModel_137 (by decide) rfl g50 ?_
            refine y_iload (pc2 := 228) rfl dX12_keep_226 rfl ?_
            refine y_bipush (v := 13) (pc2 := 230) rfl dX12_keep_228 (by decide) ?_
            refine y_iadd (pc2 := 231) rfl dX12_keep_230 ?_
            refine y_iload_n (pc2 := 232) rfl dX12_keep_231 rfl ?_
            refine y_if_ge (tgt := 239) (pc2 := 235) rfl dX12_keep_232 (by decide) (fun c49 => ?_) (fun c49 => ?_)
            · replace hf := y_it c49 hf
              refine y_aload_n (x := v0_187) (pc2 := 240) rfl dX12_keep_239 rfl ?_
              obtain ⟨g45, hf⟩ := y_g hf
              refine y_getP (pc2 := 243) rfl dX12_keep_240 F_BoxYardModel_128 (by decide) rfl g45 ?_
              refine y_iload_n (pc2 := 244) rfl dX12_keep_243 rfl ?_
              obtain ⟨g44, hf⟩ := y_g hf
              refine y_iald (pc2 := 245) rfl dX12_keep_244 g44.1 (y_ix_in g44.2) ?_
              obtain ⟨g43, hf⟩ := y_g hf
              obtain ⟨h41, e42, hf⟩ := y_bdE hf
              refine y_iast (x := y_I h38 (y_P h38 v0_187 44) (Int32.toNatClampNeg v3_187)) (pc2 := 246) rfl dX12_keep_245 g43.1 (y_ix_in g43.2) e42 ?_
              exact y_vretF hf dX12_keep_246 rfl (by decide) (by decide)
            · replace hf := y_ie c49 hf
              refine y_iconst (v := 0) (pc2 := 236) rfl dX12_keep_235 (by decide) ?_
              refine y_goto (tgt := 245) dX12_keep_236 (by decide) ?_
              obtain ⟨g48, hf⟩ := y_g hf
              obtain ⟨h46, e47, hf⟩ := y_bdE hf
              refine y_iast (x := 0) (pc2 := 246) rfl dX12_keep_245 g48.1 (y_ix_in g48.2) e47 ?_
              exact y_vretF hf dX12_keep_246 rfl (by decide) (by decide)
        · refine y_if_lt (tgt := 187) (pc2 := 99) rfl dX12_keep_96 (by decide) (fun c88 => ?_) (fun c88 => ?_)
          · replace hf := y_it c88 hf
            exact y_pk [1, 4, 0] rfl (hj187 _ _ _ _ hf)
          · replace hf := y_ie c88 hf
            refine y_aload_n (x := p0) (pc2 := 100) rfl dX12_keep_99 rfl ?_
            obtain ⟨g87, hf⟩ := y_g hf
            refine y_getP (pc2 := 103) rfl dX12_keep_100 F_BoxYardModel_137 (by decide) rfl g87 ?_
            refine y_iload (pc2 := 105) rfl dX12_keep_103 rfl ?_
            refine y_bipush (v := 6) (pc2 := 107) rfl dX12_keep_105 (by decide) ?_
            refine y_iadd (pc2 := 108) rfl dX12_keep_107 ?_
            refine y_aload_n (x := p0) (pc2 := 109) rfl dX12_keep_108 rfl ?_
            obtain ⟨g86, hf⟩ := y_g hf
            refine y_getP (pc2 := 112) rfl dX12_keep_109 F_BoxYardModel_29 (by decide) rfl g86 ?_
            refine y_iload_n (pc2 := 113) rfl dX12_keep_112 rfl ?_
            obtain ⟨g85, hf⟩ := y_g hf
            refine y_iald (pc2 := 114) rfl dX12_keep_113 g85.1 (y_ix_in g85.2) ?_
            obtain ⟨g56, hf⟩ := y_g hf
            obtain ⟨h54, e55, hf⟩ := y_bdE hf
            refine y_iast (x := y_I h16 (y_P h16 p0 7) (Int32.toNatClampNeg p2)) (pc2 := 115) rfl dX12_keep_114 g56.1 (y_ix_in g56.2) e55 ?_
            refine y_aload_n (x := p0) (pc2 := 116) rfl dX12_keep_115 rfl ?_
            obtain ⟨g84, hf⟩ := y_g hf
            refine y_getP (pc2 := 119) rfl dX12_keep_116 F_BoxYardModel_137 (by decide) rfl g84 ?_
            refine y_iload (pc2 := 121) rfl dX12_keep_119 rfl ?_
            refine y_bipush (v := 7) (pc2 := 123) rfl dX12_keep_121 (by decide) ?_
            refine y_iadd (pc2 := 124) rfl dX12_keep_123 ?_
            refine y_aload_n (x := p0) (pc2 := 125) rfl dX12_keep_124 rfl ?_
            obtain ⟨g83, hf⟩ := y_g hf
            refine y_getP (pc2 := 128) rfl dX12_keep_125 F_BoxYardModel_32 (by decide) rfl g83 ?_
            refine y_iload_n (pc2 := 129) rfl dX12_keep_128 rfl ?_
            obtain ⟨g82, hf⟩ := y_g hf
            refine y_iald (pc2 := 130) rfl dX12_keep_129 g82.1 (y_ix_in g82.2) ?_
            obtain ⟨g59, hf⟩ := y_g hf
            obtain ⟨h57, e58, hf⟩ := y_bdE hf
            refine y_iast (x := y_I h54 (y_P h54 p0 8) (Int32.toNatClampNeg p2)) (pc2 := 131) rfl dX12_keep_130 g59.1 (y_ix_in g59.2) e58 ?_
            refine y_aload_n (x := p0) (pc2 := 132) rfl dX12_keep_131 rfl ?_
            obtain ⟨g81, hf⟩ := y_g hf
            refine y_getP (pc2 := 135) rfl dX12_keep_132 F_BoxYardModel_137 (by decide) rfl g81 ?_
            refine y_iload (pc2 := 137) rfl dX12_keep_135 rfl ?_
            refine y_bipush (v := 8) (pc2 := 139) rfl dX12_keep_137 (by decide) ?_
            refine y_iadd (pc2 := 140) rfl dX12_keep_139 ?_
            refine y_aload_n (x := p0) (pc2 := 141) rfl dX12_keep_140 rfl ?_
            obtain ⟨g80, hf⟩ := y_g hf
            refine y_getP (pc2 := 144) rfl dX12_keep_141 F_BoxYardModel_35 (by decide) rfl g80 ?_
            refine y_iload_n (pc2 := 145) rfl dX12_keep_144 rfl ?_
            obtain ⟨g79, hf⟩ := y_g hf
            refine y_iald (pc2 := 146) rfl dX12_keep_145 g79.1 (y_ix_in g79.2) ?_
            obtain ⟨g62, hf⟩ := y_g hf
            obtain ⟨h60, e61, hf⟩ := y_bdE hf
            refine y_iast (x := y_I h57 (y_P h57 p0 9) (Int32.toNatClampNeg p2)) (pc2 := 147) rfl dX12_keep_146 g62.1 (y_ix_in g62.2) e61 ?_
            refine y_aload_n (x := p0) (pc2 := 148) rfl dX12_keep_147 rfl ?_
            obtain ⟨g78, hf⟩ := y_g hf
            refine y_getP (pc2 := 151) rfl dX12_keep_148 F_BoxYardModel_137 (by decide) rfl g78 ?_
            refine y_iload (pc2 := 153) rfl dX12_keep_151 rfl ?_
            refine y_bipush (v := 9) (pc2 := 155) rfl dX12_keep_153 (by decide) ?_
            refine y_iadd (pc2 := 156) rfl dX12_keep_155 ?_
            refine y_aload_n (x := p0) (pc2 := 157) rfl dX12_keep_156 rfl ?_
            obtain ⟨g77, hf⟩ := y_g hf
            refine y_getP (pc2 := 160) rfl dX12_keep_157 F_BoxYardModel_38 (by decide) rfl g77 ?_
            refine y_iload_n (pc2 := 161) rfl dX12_keep_160 rfl ?_
            obtain ⟨g76, hf⟩ := y_g hf
            refine y_iald (pc2 := 162) rfl dX12_keep_161 g76.1 (y_ix_in g76.2) ?_
            obtain ⟨g65, hf⟩ := y_g hf
            obtain ⟨h63, e64, hf⟩ := y_bdE hf
            refine y_iast (x := y_I h60 (y_P h60 p0 10) (Int32.toNatClampNeg p2)) (pc2 := 163) rfl dX12_keep_162 g65.1 (y_ix_in g65.2) e64 ?_
            refine y_aload_n (x := p0) (pc2 := 164) rfl dX12_keep_163 rfl ?_
            obtain ⟨g75, hf⟩ := y_g hf
            refine y_getP (pc2 := 167) rfl dX12_keep_164 F_BoxYardModel_137 (by decide) rfl g75 ?_
            refine y_iload (pc2 := 169) rfl dX12_keep_167 rfl ?_
            refine y_bipush (v := 10) (pc2 := 171) rfl dX12_keep_169 (by decide) ?_
            refine y_iadd (pc2 := 172) rfl dX12_keep_171 ?_
            refine y_aload_n (x := p0) (pc2 := 173) rfl dX12_keep_172 rfl ?_
            obtain ⟨g74, hf⟩ := y_g hf
            refine y_getP (pc2 := 176) rfl dX12_keep_173 F_BoxYardModel_25 (by decide) rfl g74 ?_
            refine y_iload_n (pc2 := 177) rfl dX12_keep_176 rfl ?_
            obtain ⟨g73, hf⟩ := y_g hf
            refine y_zald (pc2 := 178) rfl dX12_keep_177 g73.1 (y_ix_in g73.2) ?_
            refine y_ifz_eq (tgt := 185) (pc2 := 181) rfl dX12_keep_178 (by decide) (fun c72 => ?_) (fun c72 => ?_)
            · replace hf := y_ie c72 hf
              refine y_iconst (v := 0) (pc2 := 186) rfl dX12_keep_185 (by decide) ?_
              obtain ⟨g68, hf⟩ := y_g hf
              obtain ⟨h66, e67, hf⟩ := y_bdE hf
              refine y_iast (x := 0) (pc2 := 187) rfl dX12_keep_186 g68.1 (y_ix_in g68.2) e67 ?_
              exact y_pk [1, 4, 0] rfl (hj187 _ _ _ _ hf)
            · replace hf := y_it c72 hf
              refine y_iconst (v := 1) (pc2 := 182) rfl dX12_keep_181 (by decide) ?_
              refine y_goto (tgt := 186) dX12_keep_182 (by decide) ?_
              obtain ⟨g71, hf⟩ := y_g hf
              obtain ⟨h69, e70, hf⟩ := y_bdE hf
              refine y_iast (x := 1) (pc2 := 187) rfl dX12_keep_186 g71.1 (y_ix_in g71.2) e70 ?_
              exact y_pk [1, 4, 0] rfl (hj187 _ _ _ _ hf)
      · replace hf := y_ie c169 hf
        refine y_iconst (v := 0) (pc2 := 75) rfl dX12_keep_74 (by decide) ?_
        refine y_goto (tgt := 84) dX12_keep_75 (by decide) ?_
        obtain ⟨g94, hf⟩ := y_g hf
        obtain ⟨h92, e93, hf⟩ := y_bdE hf
        refine y_iast (x := 0) (pc2 := 85) rfl dX12_keep_84 g94.1 (y_ix_in g94.2) e93 ?_
        refine y_aload_n (x := p0) (pc2 := 86) rfl dX12_keep_85 rfl ?_
        obtain ⟨g168, hf⟩ := y_g hf
        refine y_getP (pc2 := 89) rfl dX12_keep_86 F_BoxYardModel_137 (by decide) rfl g168 ?_
        refine y_iload (pc2 := 91) rfl dX12_keep_89 rfl ?_
        refine y_iconst (v := 5) (pc2 := 92) rfl dX12_keep_91 (by decide) ?_
        refine y_iadd (pc2 := 93) rfl dX12_keep_92 ?_
        refine y_iload_n (pc2 := 94) rfl dX12_keep_93 rfl ?_
        obtain ⟨g97, hf⟩ := y_g hf
        obtain ⟨h95, e96, hf⟩ := y_bdE hf
        refine y_iast (x := p2) (pc2 := 95) rfl dX12_keep_94 g97.1 (y_ix_in g97.2) e96 ?_
        refine y_iload_n (pc2 := 96) rfl dX12_keep_95 rfl ?_
        refine y_jnE hf (fun j => ∀ (v0_187 : Nat) (v3_187 : Int32) (v4_187 : Int32) (h98 : y_H), j v0_187 v3_187 v4_187 h98 = some (rz, hz) → y_V l G z rm_X12_keep M_X12_keep ad0 h none hz 187 [(0, y_p v0_187), (3, .int v3_187), (4, .int v4_187)] [] h98 0 0) (fun v0_187 v3_187 v4_187 h98 hf => ?_) (fun j187 hj187 hf => ?_)
        · refine y_aload_n (x := v0_187) (pc2 := 188) rfl dX12_keep_187 rfl ?_
          obtain ⟨g132, hf⟩ := y_g hf
          refine y_getP (pc2 := 191) rfl dX12_keep_188 F_BoxYardModel_137 (by decide) rfl g132 ?_
          refine y_iload (pc2 := 193) rfl dX12_keep_191 rfl ?_
          refine y_bipush (v := 11) (pc2 := 195) rfl dX12_keep_193 (by decide) ?_
          refine y_iadd (pc2 := 196) rfl dX12_keep_195 ?_
          refine y_iload_n (pc2 := 197) rfl dX12_keep_196 rfl ?_
          obtain ⟨g101, hf⟩ := y_g hf
          obtain ⟨h99, e100, hf⟩ := y_bdE hf
          refine y_iast (x := v3_187) (pc2 := 198) rfl dX12_keep_197 g101.1 (y_ix_in g101.2) e100 ?_
          refine y_aload_n (x := v0_187) (pc2 := 199) rfl dX12_keep_198 rfl ?_
          obtain ⟨g131, hf⟩ := y_g hf
          refine y_getP (pc2 := 202) rfl dX12_keep_199 F_BoxYardModel_137 (by decide) rfl g131 ?_
          refine y_iload (pc2 := 204) rfl dX12_keep_202 rfl ?_
          refine y_bipush (v := 12) (pc2 := 206) rfl dX12_keep_204 (by decide) ?_
          refine y_iadd (pc2 := 207) rfl dX12_keep_206 ?_
          refine y_iload_n (pc2 := 208) rfl dX12_keep_207 rfl ?_
          refine y_if_ge (tgt := 215) (pc2 := 211) rfl dX12_keep_208 (by decide) (fun c130 => ?_) (fun c130 => ?_)
          · replace hf := y_it c130 hf
            refine y_aload_n (x := v0_187) (pc2 := 216) rfl dX12_keep_215 rfl ?_
            obtain ⟨g116, hf⟩ := y_g hf
            refine y_getP (pc2 := 219) rfl dX12_keep_216 F_BoxYardModel_125 (by decide) rfl g116 ?_
            refine y_iload_n (pc2 := 220) rfl dX12_keep_219 rfl ?_
            obtain ⟨g115, hf⟩ := y_g hf
            refine y_iald (pc2 := 221) rfl dX12_keep_220 g115.1 (y_ix_in g115.2) ?_
            obtain ⟨g104, hf⟩ := y_g hf
            obtain ⟨h102, e103, hf⟩ := y_bdE hf
            refine y_iast (x := y_I h99 (y_P h99 v0_187 43) (Int32.toNatClampNeg v3_187)) (pc2 := 222) rfl dX12_keep_221 g104.1 (y_ix_in g104.2) e103 ?_
            refine y_aload_n (x := v0_187) (pc2 := 223) rfl dX12_keep_222 rfl ?_
            obtain ⟨g114, hf⟩ := y_g hf
            refine y_getP (pc2 := 226) rfl dX12_keep_223 F_BoxYardModel_137 (by decide) rfl g114 ?_
            refine y_iload (pc2 := 228) rfl dX12_keep_226 rfl ?_
            refine y_bipush (v := 13) (pc2 := 230) rfl dX12_keep_228 (by decide) ?_
            refine y_iadd (pc2 := 231) rfl dX12_keep_230 ?_
            refine y_iload_n (pc2 := 232) rfl dX12_keep_231 rfl ?_
            refine y_if_ge (tgt := 239) (pc2 := 235) rfl dX12_keep_232 (by decide) (fun c113 => ?_) (fun c113 => ?_)
            · replace hf := y_it c113 hf
              refine y_aload_n (x := v0_187) (pc2 := 240) rfl dX12_keep_239 rfl ?_
              obtain ⟨g109, hf⟩ := y_g hf
              refine y_getP (pc2 := 243) rfl dX12_keep_240 F_BoxYardModel_128 (by decide) rfl g109 ?_
              refine y_iload_n (pc2 := 244) rfl dX12_keep_243 rfl ?_
              obtain ⟨g108, hf⟩ := y_g hf
              refine y_iald (pc2 := 245) rfl dX12_keep_244 g108.1 (y_ix_in g108.2) ?_
              obtain ⟨g107, hf⟩ := y_g hf
              obtain ⟨h105, e106, hf⟩ := y_bdE hf
              refine y_iast (x := y_I h102 (y_P h102 v0_187 44) (Int32.toNatClampNeg v3_187)) (pc2 := 246) rfl dX12_keep_245 g107.1 (y_ix_in g107.2) e106 ?_
              exact y_vretF hf dX12_keep_246 rfl (by decide) (by decide)
            · replace hf := y_ie c113 hf
              refine y_iconst (v := 0) (pc2 := 236) rfl dX12_keep_235 (by decide) ?_
              refine y_goto (tgt := 245) dX12_keep_236 (by decide) ?_
              obtain ⟨g112, hf⟩ := y_g hf
              obtain ⟨h110, e111, hf⟩ := y_bdE hf
              refine y_iast (x := 0) (pc2 := 246) rfl dX12_keep_245 g112.1 (y_ix_in g112.2) e111 ?_
              exact y_vretF hf dX12_keep_246 rfl (by decide) (by decide)
          · replace hf := y_ie c130 hf
            refine y_iconst (v := 0) (pc2 := 212) rfl dX12_keep_211 (by decide) ?_
            refine y_goto (tgt := 221) dX12_keep_212 (by decide) ?_
            obtain ⟨g119, hf⟩ := y_g hf
            obtain ⟨h117, e118, hf⟩ := y_bdE hf
            refine y_iast (x := 0) (pc2 := 222) rfl dX12_keep_221 g119.1 (y_ix_in g119.2) e118 ?_
            refine y_aload_n (x := v0_187) (pc2 := 223) rfl dX12_keep_222 rfl ?_
            obtain ⟨g129, hf⟩ := y_g hf
            refine y_getP (pc2 := 226) rfl dX12_keep_223 F_BoxYardModel_137 (by decide) rfl g129 ?_
            refine y_iload (pc2 := 228) rfl dX12_keep_226 rfl ?_
            refine y_bipush (v := 13) (pc2 := 230) rfl dX12_keep_228 (by decide) ?_
            refine y_iadd (pc2 := 231) rfl dX12_keep_230 ?_
            refine y_iload_n (pc2 := 232) rfl dX12_keep_231 rfl ?_
            refine y_if_ge (tgt := 239) (pc2 := 235) rfl dX12_keep_232 (by decide) (fun c128 => ?_) (fun c128 => ?_)
            · replace hf := y_it c128 hf
              refine y_aload_n (x := v0_187) (pc2 := 240) rfl dX12_keep_239 rfl ?_
              obtain ⟨g124, hf⟩ := y_g hf
              refine y_getP (pc2 := 243) rfl dX12_keep_240 F_BoxYardModel_128 (by decide) rfl g124 ?_
              refine y_iload_n (pc2 := 244) rfl dX12_keep_243 rfl ?_
              obtain ⟨g123, hf⟩ := y_g hf
              refine y_iald (pc2 := 245) rfl dX12_keep_244 g123.1 (y_ix_in g123.2) ?_
              obtain ⟨g122, hf⟩ := y_g hf
              obtain ⟨h120, e121, hf⟩ := y_bdE hf
              refine y_iast (x := y_I h117 (y_P h117 v0_187 44) (Int32.toNatClampNeg v3_187)) (pc2 := 246) rfl dX12_keep_245 g122.1 (y_ix_in g122.2) e121 ?_
              exact y_vretF hf dX12_keep_246 rfl (by decide) (by decide)
            · replace hf := y_ie c128 hf
              refine y_iconst (v := 0) (pc2 := 236) rfl dX12_keep_235 (by decide) ?_
              refine y_goto (tgt := 245) dX12_keep_236 (by decide) ?_
              obtain ⟨g127, hf⟩ := y_g hf
              obtain ⟨h125, e126, hf⟩ := y_bdE hf
              refine y_iast (x := 0) (pc2 := 246) rfl dX12_keep_245 g127.1 (y_ix_in g127.2) e126 ?_
              exact y_vretF hf dX12_keep_246 rfl (by decide) (by decide)
        · refine y_if_lt (tgt := 187) (pc2 := 99) rfl dX12_keep_96 (by decide) (fun c167 => ?_) (fun c167 => ?_)
          · replace hf := y_it c167 hf
            exact y_pk [1, 4, 0] rfl (hj187 _ _ _ _ hf)
          · replace hf := y_ie c167 hf
            refine y_aload_n (x := p0) (pc2 := 100) rfl dX12_keep_99 rfl ?_
            obtain ⟨g166, hf⟩ := y_g hf
            refine y_getP (pc2 := 103) rfl dX12_keep_100 F_BoxYardModel_137 (by decide) rfl g166 ?_
            refine y_iload (pc2 := 105) rfl dX12_keep_103 rfl ?_
            refine y_bipush (v := 6) (pc2 := 107) rfl dX12_keep_105 (by decide) ?_
            refine y_iadd (pc2 := 108) rfl dX12_keep_107 ?_
            refine y_aload_n (x := p0) (pc2 := 109) rfl dX12_keep_108 rfl ?_
            obtain ⟨g165, hf⟩ := y_g hf
            refine y_getP (pc2 := 112) rfl dX12_keep_109 F_BoxYardModel_29 (by decide) rfl g165 ?_
            refine y_iload_n (pc2 := 113) rfl dX12_keep_112 rfl ?_
            obtain ⟨g164, hf⟩ := y_g hf
            refine y_iald (pc2 := 114) rfl dX12_keep_113 g164.1 (y_ix_in g164.2) ?_
            obtain ⟨g135, hf⟩ := y_g hf
            obtain ⟨h133, e134, hf⟩ := y_bdE hf
            refine y_iast (x := y_I h95 (y_P h95 p0 7) (Int32.toNatClampNeg p2)) (pc2 := 115) rfl dX12_keep_114 g135.1 (y_ix_in g135.2) e134 ?_
            refine y_aload_n (x := p0) (pc2 := 116) rfl dX12_keep_115 rfl ?_
            obtain ⟨g163, hf⟩ := y_g hf
            refine y_getP (pc2 := 119) rfl dX12_keep_116 F_BoxYardModel_137 (by decide) rfl g163 ?_
            refine y_iload (pc2 := 121) rfl dX12_keep_119 rfl ?_
            refine y_bipush (v := 7) (pc2 := 123) rfl dX12_keep_121 (by decide) ?_
            refine y_iadd (pc2 := 124) rfl dX12_keep_123 ?_
            refine y_aload_n (x := p0) (pc2 := 125) rfl dX12_keep_124 rfl ?_
            obtain ⟨g162, hf⟩ := y_g hf
            refine y_getP (pc2 := 128) rfl dX12_keep_125 F_BoxYardModel_32 (by decide) rfl g162 ?_
            refine y_iload_n (pc2 := 129) rfl dX12_keep_128 rfl ?_
            obtain ⟨g161, hf⟩ := y_g hf
            refine y_iald (pc2 := 130) rfl dX12_keep_129 g161.1 (y_ix_in g161.2) ?_
            obtain ⟨g138, hf⟩ := y_g hf
            obtain ⟨h136, e137, hf⟩ := y_bdE hf
            refine y_iast (x := y_I h133 (y_P h133 p0 8) (Int32.toNatClampNeg p2)) (pc2 := 131) rfl dX12_keep_130 g138.1 (y_ix_in g138.2) e137 ?_
            refine y_aload_n (x := p0) (pc2 := 132) rfl dX12_keep_131 rfl ?_
            obtain ⟨g160, hf⟩ := y_g hf
            refine y_getP (pc2 := 135) rfl dX12_keep_132 F_BoxYardModel_137 (by decide) rfl g160 ?_
            refine y_iload (pc2 := 137) rfl dX12_keep_135 rfl ?_
            refine y_bipush (v := 8) (pc2 := 139) rfl dX12_keep_137 (by decide) ?_
            refine y_iadd (pc2 := 140) rfl dX12_keep_139 ?_
            refine y_aload_n (x := p0) (pc2 := 141) rfl dX12_keep_140 rfl ?_
            obtain ⟨g159, hf⟩ := y_g hf
            refine y_getP (pc2 := 144) rfl dX12_keep_141 F_BoxYardModel_35 (by decide) rfl g159 ?_
            refine y_iload_n (pc2 := 145) rfl dX12_keep_144 rfl ?_
            obtain ⟨g158, hf⟩ := y_g hf
            refine y_iald (pc2 := 146) rfl dX12_keep_145 g158.1 (y_ix_in g158.2) ?_
            obtain ⟨g141, hf⟩ := y_g hf
            obtain ⟨h139, e140, hf⟩ := y_bdE hf
            refine y_iast (x := y_I h136 (y_P h136 p0 9) (Int32.toNatClampNeg p2)) (pc2 := 147) rfl dX12_keep_146 g141.1 (y_ix_in g141.2) e140 ?_
            refine y_aload_n (x := p0) (pc2 := 148) rfl dX12_keep_147 rfl ?_
            obtain ⟨g157, hf⟩ := y_g hf
            refine y_getP (pc2 := 151) rfl dX12_keep_148 F_BoxYardModel_137 (by decide) rfl g157 ?_
            refine y_iload (pc2 := 153) rfl dX12_keep_151 rfl ?_
            refine y_bipush (v := 9) (pc2 := 155) rfl dX12_keep_153 (by decide) ?_
            refine y_iadd (pc2 := 156) rfl dX12_keep_155 ?_
            refine y_aload_n (x := p0) (pc2 := 157) rfl dX12_keep_156 rfl ?_
            obtain ⟨g156, hf⟩ := y_g hf
            refine y_getP (pc2 := 160) rfl dX12_keep_157 F_BoxYardModel_38 (by decide) rfl g156 ?_
            refine y_iload_n (pc2 := 161) rfl dX12_keep_160 rfl ?_
            obtain ⟨g155, hf⟩ := y_g hf
            refine y_iald (pc2 := 162) rfl dX12_keep_161 g155.1 (y_ix_in g155.2) ?_
            obtain ⟨g144, hf⟩ := y_g hf
            obtain ⟨h142, e143, hf⟩ := y_bdE hf
            refine y_iast (x := y_I h139 (y_P h139 p0 10) (Int32.toNatClampNeg p2)) (pc2 := 163) rfl dX12_keep_162 g144.1 (y_ix_in g144.2) e143 ?_
            refine y_aload_n (x := p0) (pc2 := 164) rfl dX12_keep_163 rfl ?_
            obtain ⟨g154, hf⟩ := y_g hf
            refine y_getP (pc2 := 167) rfl dX12_keep_164 F_BoxYardModel_137 (by decide) rfl g154 ?_
            refine y_iload (pc2 := 169) rfl dX12_keep_167 rfl ?_
            refine y_bipush (v := 10) (pc2 := 171) rfl dX12_keep_169 (by decide) ?_
            refine y_iadd (pc2 := 172) rfl dX12_keep_171 ?_
            refine y_aload_n (x := p0) (pc2 := 173) rfl dX12_keep_172 rfl ?_
            obtain ⟨g153, hf⟩ := y_g hf
            refine y_getP (pc2 := 176) rfl dX12_keep_173 F_BoxYardModel_25 (by decide) rfl g153 ?_
            refine y_iload_n (pc2 := 177) rfl dX12_keep_176 rfl ?_
            obtain ⟨g152, hf⟩ := y_g hf
            refine y_zald (pc2 := 178) rfl dX12_keep_177 g152.1 (y_ix_in g152.2) ?_
            refine y_ifz_eq (tgt := 185) (pc2 := 181) rfl dX12_keep_178 (by decide) (fun c151 => ?_) (fun c151 => ?_)
            · replace hf := y_ie c151 hf
              refine y_iconst (v := 0) (pc2 := 186) rfl dX12_keep_185 (by decide) ?_
              obtain ⟨g147, hf⟩ := y_g hf
              obtain ⟨h145, e146, hf⟩ := y_bdE hf
              refine y_iast (x := 0) (pc2 := 187) rfl dX12_keep_186 g147.1 (y_ix_in g147.2) e146 ?_
              exact y_pk [1, 4, 0] rfl (hj187 _ _ _ _ hf)
            · replace hf := y_it c151 hf
              refine y_iconst (v := 1) (pc2 := 182) rfl dX12_keep_181 (by decide) ?_
              refine y_goto (tgt := 186) dX12_keep_182 (by decide) ?_
              obtain ⟨g150, hf⟩ := y_g hf
              obtain ⟨h148, e149, hf⟩ := y_bdE hf
              refine y_iast (x := 1) (pc2 := 187) rfl dX12_keep_186 g150.1 (y_ix_in g150.2) e149 ?_
              exact y_pk [1, 4, 0] rfl (hj187 _ _ _ _ hf)
    · replace hf := y_ie c334 hf
      refine y_iconst (v := 0) (pc2 := 52) rfl dX12_keep_51 (by decide) ?_
      refine y_goto (tgt := 61) dX12_keep_52 (by decide) ?_
      obtain ⟨g175, hf⟩ := y_g hf
      obtain ⟨h173, e174, hf⟩ := y_bdE hf
      refine y_iast (x := 0) (pc2 := 62) rfl dX12_keep_61 g175.1 (y_ix_in g175.2) e174 ?_
      refine y_aload_n (x := p0) (pc2 := 63) rfl dX12_keep_62 rfl ?_
      obtain ⟨g333, hf⟩ := y_g hf
      refine y_getP (pc2 := 66) rfl dX12_keep_63 F_BoxYardModel_137 (by decide) rfl g333 ?_
      refine y_iload (pc2 := 68) rfl dX12_keep_66 rfl ?_
      refine y_iconst (v := 4) (pc2 := 69) rfl dX12_keep_68 (by decide) ?_
      refine y_iadd (pc2 := 70) rfl dX12_keep_69 ?_
      refine y_iload_n (pc2 := 71) rfl dX12_keep_70 rfl ?_
      refine y_if_ge (tgt := 78) (pc2 := 74) rfl dX12_keep_71 (by decide) (fun c332 => ?_) (fun c332 => ?_)
      · replace hf := y_it c332 hf
        refine y_aload_n (x := p0) (pc2 := 79) rfl dX12_keep_78 rfl ?_
        obtain ⟨g254, hf⟩ := y_g hf
        refine y_getP (pc2 := 82) rfl dX12_keep_79 F_BoxYardModel_92 (by decide) rfl g254 ?_
        refine y_iload_n (pc2 := 83) rfl dX12_keep_82 rfl ?_
        obtain ⟨g253, hf⟩ := y_g hf
        refine y_iald (pc2 := 84) rfl dX12_keep_83 g253.1 (y_ix_in g253.2) ?_
        obtain ⟨g178, hf⟩ := y_g hf
        obtain ⟨h176, e177, hf⟩ := y_bdE hf
        refine y_iast (x := y_I h173 (y_P h173 p0 30) (Int32.toNatClampNeg p1)) (pc2 := 85) rfl dX12_keep_84 g178.1 (y_ix_in g178.2) e177 ?_
        refine y_aload_n (x := p0) (pc2 := 86) rfl dX12_keep_85 rfl ?_
        obtain ⟨g252, hf⟩ := y_g hf
        refine y_getP (pc2 := 89) rfl dX12_keep_86 F_BoxYardModel_137 (by decide) rfl g252 ?_
        refine y_iload (pc2 := 91) rfl dX12_keep_89 rfl ?_
        refine y_iconst (v := 5) (pc2 := 92) rfl dX12_keep_91 (by decide) ?_
        refine y_iadd (pc2 := 93) rfl dX12_keep_92 ?_
        refine y_iload_n (pc2 := 94) rfl dX12_keep_93 rfl ?_
        obtain ⟨g181, hf⟩ := y_g hf
        obtain ⟨h179, e180, hf⟩ := y_bdE hf
        refine y_iast (x := p2) (pc2 := 95) rfl dX12_keep_94 g181.1 (y_ix_in g181.2) e180 ?_
        refine y_iload_n (pc2 := 96) rfl dX12_keep_95 rfl ?_
        refine y_jnE hf (fun j => ∀ (v0_187 : Nat) (v3_187 : Int32) (v4_187 : Int32) (h182 : y_H), j v0_187 v3_187 v4_187 h182 = some (rz, hz) → y_V l G z rm_X12_keep M_X12_keep ad0 h none hz 187 [(0, y_p v0_187), (3, .int v3_187), (4, .int v4_187)] [] h182 0 0) (fun v0_187 v3_187 v4_187 h182 hf => ?_) (fun j187 hj187 hf => ?_)
        · refine y_aload_n (x := v0_187) (pc2 := 188) rfl dX12_keep_187 rfl ?_
          obtain ⟨g216, hf⟩ := y_g hf
          refine y_getP (pc2 := 191) rfl dX12_keep_188 F_BoxYardModel_137 (by decide) rfl g216 ?_
          refine y_iload (pc2 := 193) rfl dX12_keep_191 rfl ?_
          refine y_bipush (v := 11) (pc2 := 195) rfl dX12_keep_193 (by decide) ?_
          refine y_iadd (pc2 := 196) rfl dX12_keep_195 ?_
          refine y_iload_n (pc2 := 197) rfl dX12_keep_196 rfl ?_
          obtain ⟨g185, hf⟩ := y_g hf
          obtain ⟨h183, e184, hf⟩ := y_bdE hf
          refine y_iast (x := v3_187) (pc2 := 198) rfl dX12_keep_197 g185.1 (y_ix_in g185.2) e184 ?_
          refine y_aload_n (x := v0_187) (pc2 := 199) rfl dX12_keep_198 rfl ?_
          obtain ⟨g215, hf⟩ := y_g hf
          refine y_getP (pc2 := 202) rfl dX12_keep_199 F_BoxYardModel_137 (by decide) rfl g215 ?_
          refine y_iload (pc2 := 204) rfl dX12_keep_202 rfl ?_
          refine y_bipush (v := 12) (pc2 := 206) rfl dX12_keep_204 (by decide) ?_
          refine y_iadd (pc2 := 207) rfl dX12_keep_206 ?_
          refine y_iload_n (pc2 := 208) rfl dX12_keep_207 rfl ?_
          refine y_if_ge (tgt := 215) (pc2 := 211) rfl dX12_keep_208 (by decide) (fun c214 => ?_) (fun c214 => ?_)
          · replace hf := y_it c214 hf
            refine y_aload_n (x := v0_187) (pc2 := 216) rfl dX12_keep_215 rfl ?_
            obtain ⟨g200, hf⟩ := y_g hf
            refine y_getP (pc2 := 219) rfl dX12_keep_216 F_BoxYardModel_125 (by decide) rfl g200 ?_
            refine y_iload_n (pc2 := 220) rfl dX12_keep_219 rfl ?_
            obtain ⟨g199, hf⟩ := y_g hf
            refine y_iald (pc2 := 221) rfl dX12_keep_220 g199.1 (y_ix_in g199.2) ?_
            obtain ⟨g188, hf⟩ := y_g hf
            obtain ⟨h186, e187, hf⟩ := y_bdE hf
            refine y_iast (x := y_I h183 (y_P h183 v0_187 43) (Int32.toNatClampNeg v3_187)) (pc2 := 222) rfl dX12_keep_221 g188.1 (y_ix_in g188.2) e187 ?_
            refine y_aload_n (x := v0_187) (pc2 := 223) rfl dX12_keep_222 rfl ?_
            obtain ⟨g198, hf⟩ := y_g hf
            refine y_getP (pc2 := 226) rfl dX12_keep_223 F_BoxYardModel_137 (by decide) rfl g198 ?_
            refine y_iload (pc2 := 228) rfl dX12_keep_226 rfl ?_
            refine y_bipush (v := 13) (pc2 := 230) rfl dX12_keep_228 (by decide) ?_
            refine y_iadd (pc2 := 231) rfl dX12_keep_230 ?_
            refine y_iload_n (pc2 := 232) rfl dX12_keep_231 rfl ?_
            refine y_if_ge (tgt := 239) (pc2 := 235) rfl dX12_keep_232 (by decide) (fun c197 => ?_) (fun c197 => ?_)
            · replace hf := y_it c197 hf
              refine y_aload_n (x := v0_187) (pc2 := 240) rfl dX12_keep_239 rfl ?_
              obtain ⟨g193, hf⟩ := y_g hf
              refine y_getP (pc2 := 243) rfl dX12_keep_240 F_BoxYardModel_128 (by decide) rfl g193 ?_
              refine y_iload_n (pc2 := 244) rfl dX12_keep_243 rfl ?_
              obtain ⟨g192, hf⟩ := y_g hf
              refine y_iald (pc2 := 245) rfl dX12_keep_244 g192.1 (y_ix_in g192.2) ?_
              obtain ⟨g191, hf⟩ := y_g hf
              obtain ⟨h189, e190, hf⟩ := y_bdE hf
              refine y_iast (x := y_I h186 (y_P h186 v0_187 44) (Int32.toNatClampNeg v3_187)) (pc2 := 246) rfl dX12_keep_245 g191.1 (y_ix_in g191.2) e190 ?_
              exact y_vretF hf dX12_keep_246 rfl (by decide) (by decide)
            · replace hf := y_ie c197 hf
              refine y_iconst (v := 0) (pc2 := 236) rfl dX12_keep_235 (by decide) ?_
              refine y_goto (tgt := 245) dX12_keep_236 (by decide) ?_
              obtain ⟨g196, hf⟩ := y_g hf
              obtain ⟨h194, e195, hf⟩ := y_bdE hf
              refine y_iast (x := 0) (pc2 := 246) rfl dX12_keep_245 g196.1 (y_ix_in g196.2) e195 ?_
              exact y_vretF hf dX12_keep_246 rfl (by decide) (by decide)
          · replace hf := y_ie c214 hf
            refine y_iconst (v := 0) (pc2 := 212) rfl dX12_keep_211 (by decide) ?_
            refine y_goto (tgt := 221) dX12_keep_212 (by decide) ?_
            obtain ⟨g203, hf⟩ := y_g hf
            obtain ⟨h201, e202, hf⟩ := y_bdE hf
            refine y_iast (x := 0) (pc2 := 222) rfl dX12_keep_221 g203.1 (y_ix_in g203.2) e202 ?_
            refine y_aload_n (x := v0_187) (pc2 := 223) rfl dX12_keep_222 rfl ?_
            obtain ⟨g213, hf⟩ := y_g hf
            refine y_getP (pc2 := 226) rfl dX12_keep_223 F_BoxYardModel_137 (by decide) rfl g213 ?_
            refine y_iload (pc2 := 228) rfl dX12_keep_226 rfl ?_
            refine y_bipush (v := 13) (pc2 := 230) rfl dX12_keep_228 (by decide) ?_
            refine y_iadd (pc2 := 231) rfl dX12_keep_230 ?_
            refine y_iload_n (pc2 := 232) rfl dX12_keep_231 rfl ?_
            refine y_if_ge (tgt := 239) (pc2 := 235) rfl dX12_keep_232 (by decide) (fun c212 => ?_) (fun c212 => ?_)
            · replace hf := y_it c212 hf
              refine y_aload_n (x := v0_187) (pc2 := 240) rfl dX12_keep_239 rfl ?_
              obtain ⟨g208, hf⟩ := y_g hf
              refine y_getP (pc2 := 243) rfl dX12_keep_240 F_BoxYardModel_128 (by decide) rfl g208 ?_
              refine y_iload_n (pc2 := 244) rfl dX12_keep_243 rfl ?_
              obtain ⟨g207, hf⟩ := y_g hf
              refine y_iald (pc2 := 245) rfl dX12_keep_244 g207.1 (y_ix_in g207.2) ?_
              obtain ⟨g206, hf⟩ := y_g hf
              obtain ⟨h204, e205, hf⟩ := y_bdE hf
              refine y_iast (x := y_I h201 (y_P h201 v0_187 44) (Int32.toNatClampNeg v3_187)) (pc2 := 246) rfl dX12_keep_245 g206.1 (y_ix_in g206.2) e205 ?_
              exact y_vretF hf dX12_keep_246 rfl (by decide) (by decide)
            · replace hf := y_ie c212 hf
              refine y_iconst (v := 0) (pc2 := 236) rfl dX12_keep_235 (by decide) ?_
              refine y_goto (tgt := 245) dX12_keep_236 (by decide) ?_
              obtain ⟨g211, hf⟩ := y_g hf
              obtain ⟨h209, e210, hf⟩ := y_bdE hf
              refine y_iast (x := 0) (pc2 := 246) rfl dX12_keep_245 g211.1 (y_ix_in g211.2) e210 ?_
              exact y_vretF hf dX12_keep_246 rfl (by decide) (by decide)
        · refine y_if_lt (tgt := 187) (pc2 := 99) rfl dX12_keep_96 (by decide) (fun c251 => ?_) (fun c251 => ?_)
          · replace hf := y_it c251 hf
            exact y_pk [1, 4, 0] rfl (hj187 _ _ _ _ hf)
          · replace hf := y_ie c251 hf
            refine y_aload_n (x := p0) (pc2 := 100) rfl dX12_keep_99 rfl ?_
            obtain ⟨g250, hf⟩ := y_g hf
            refine y_getP (pc2 := 103) rfl dX12_keep_100 F_BoxYardModel_137 (by decide) rfl g250 ?_
            refine y_iload (pc2 := 105) rfl dX12_keep_103 rfl ?_
            refine y_bipush (v := 6) (pc2 := 107) rfl dX12_keep_105 (by decide) ?_
            refine y_iadd (pc2 := 108) rfl dX12_keep_107 ?_
            refine y_aload_n (x := p0) (pc2 := 109) rfl dX12_keep_108 rfl ?_
            obtain ⟨g249, hf⟩ := y_g hf
            refine y_getP (pc2 := 112) rfl dX12_keep_109 F_BoxYardModel_29 (by decide) rfl g249 ?_
            refine y_iload_n (pc2 := 113) rfl dX12_keep_112 rfl ?_
            obtain ⟨g248, hf⟩ := y_g hf
            refine y_iald (pc2 := 114) rfl dX12_keep_113 g248.1 (y_ix_in g248.2) ?_
            obtain ⟨g219, hf⟩ := y_g hf
            obtain ⟨h217, e218, hf⟩ := y_bdE hf
            refine y_iast (x := y_I h179 (y_P h179 p0 7) (Int32.toNatClampNeg p2)) (pc2 := 115) rfl dX12_keep_114 g219.1 (y_ix_in g219.2) e218 ?_
            refine y_aload_n (x := p0) (pc2 := 116) rfl dX12_keep_115 rfl ?_
            obtain ⟨g247, hf⟩ := y_g hf
            refine y_getP (pc2 := 119) rfl dX12_keep_116 F_BoxYardModel_137 (by decide) rfl g247 ?_
            refine y_iload (pc2 := 121) rfl dX12_keep_119 rfl ?_
            refine y_bipush (v := 7) (pc2 := 123) rfl dX12_keep_121 (by decide) ?_
            refine y_iadd (pc2 := 124) rfl dX12_keep_123 ?_
            refine y_aload_n (x := p0) (pc2 := 125) rfl dX12_keep_124 rfl ?_
            obtain ⟨g246, hf⟩ := y_g hf
            refine y_getP (pc2 := 128) rfl dX12_keep_125 F_BoxYardModel_32 (by decide) rfl g246 ?_
            refine y_iload_n (pc2 := 129) rfl dX12_keep_128 rfl ?_
            obtain ⟨g245, hf⟩ := y_g hf
            refine y_iald (pc2 := 130) rfl dX12_keep_129 g245.1 (y_ix_in g245.2) ?_
            obtain ⟨g222, hf⟩ := y_g hf
            obtain ⟨h220, e221, hf⟩ := y_bdE hf
            refine y_iast (x := y_I h217 (y_P h217 p0 8) (Int32.toNatClampNeg p2)) (pc2 := 131) rfl dX12_keep_130 g222.1 (y_ix_in g222.2) e221 ?_
            refine y_aload_n (x := p0) (pc2 := 132) rfl dX12_keep_131 rfl ?_
            obtain ⟨g244, hf⟩ := y_g hf
            refine y_getP (pc2 := 135) rfl dX12_keep_132 F_BoxYardModel_137 (by decide) rfl g244 ?_
            refine y_iload (pc2 := 137) rfl dX12_keep_135 rfl ?_
            refine y_bipush (v := 8) (pc2 := 139) rfl dX12_keep_137 (by decide) ?_
            refine y_iadd (pc2 := 140) rfl dX12_keep_139 ?_
            refine y_aload_n (x := p0) (pc2 := 141) rfl dX12_keep_140 rfl ?_
            obtain ⟨g243, hf⟩ := y_g hf
            refine y_getP (pc2 := 144) rfl dX12_keep_141 F_BoxYardModel_35 (by decide) rfl g243 ?_
            refine y_iload_n (pc2 := 145) rfl dX12_keep_144 rfl ?_
            obtain ⟨g242, hf⟩ := y_g hf
            refine y_iald (pc2 := 146) rfl dX12_keep_145 g242.1 (y_ix_in g242.2) ?_
            obtain ⟨g225, hf⟩ := y_g hf
            obtain ⟨h223, e224, hf⟩ := y_bdE hf
            refine y_iast (x := y_I h220 (y_P h220 p0 9) (Int32.toNatClampNeg p2)) (pc2 := 147) rfl dX12_keep_146 g225.1 (y_ix_in g225.2) e224 ?_
            refine y_aload_n (x := p0) (pc2 := 148) rfl dX12_keep_147 rfl ?_
            obtain ⟨g241, hf⟩ := y_g hf
            refine y_getP (pc2 := 151) rfl dX12_keep_148 F_BoxYardModel_137 (by decide) rfl g241 ?_
            refine y_iload (pc2 := 153) rfl dX12_keep_151 rfl ?_
            refine y_bipush (v := 9) (pc2 := 155) rfl dX12_keep_153 (by decide) ?_
            refine y_iadd (pc2 := 156) rfl dX12_keep_155 ?_
            refine y_aload_n (x := p0) (pc2 := 157) rfl dX12_keep_156 rfl ?_
            obtain ⟨g240, hf⟩ := y_g hf
            refine y_getP (pc2 := 160) rfl dX12_keep_157 F_BoxYardModel_38 (by decide) rfl g240 ?_
            refine y_iload_n (pc2 := 161) rfl dX12_keep_160 rfl ?_
            obtain ⟨g239, hf⟩ := y_g hf
            refine y_iald (pc2 := 162) rfl dX12_keep_161 g239.1 (y_ix_in g239.2) ?_
            obtain ⟨g228, hf⟩ := y_g hf
            obtain ⟨h226, e227, hf⟩ := y_bdE hf
            refine y_iast (x := y_I h223 (y_P h223 p0 10) (Int32.toNatClampNeg p2)) (pc2 := 163) rfl dX12_keep_162 g228.1 (y_ix_in g228.2) e227 ?_
            refine y_aload_n (x := p0) (pc2 := 164) rfl dX12_keep_163 rfl ?_
            obtain ⟨g238, hf⟩ := y_g hf
            refine y_getP (pc2 := 167) rfl dX12_keep_164 F_BoxYardModel_137 (by decide) rfl g238 ?_
            refine y_iload (pc2 := 169) rfl dX12_keep_167 rfl ?_
            refine y_bipush (v := 10) (pc2 := 171) rfl dX12_keep_169 (by decide) ?_
            refine y_iadd (pc2 := 172) rfl dX12_keep_171 ?_
            refine y_aload_n (x := p0) (pc2 := 173) rfl dX12_keep_172 rfl ?_
            obtain ⟨g237, hf⟩ := y_g hf
            refine y_getP (pc2 := 176) rfl dX12_keep_173 F_BoxYardModel_25 (by decide) rfl g237 ?_
            refine y_iload_n (pc2 := 177) rfl dX12_keep_176 rfl ?_
            obtain ⟨g236, hf⟩ := y_g hf
            refine y_zald (pc2 := 178) rfl dX12_keep_177 g236.1 (y_ix_in g236.2) ?_
            refine y_ifz_eq (tgt := 185) (pc2 := 181) rfl dX12_keep_178 (by decide) (fun c235 => ?_) (fun c235 => ?_)
            · replace hf := y_ie c235 hf
              refine y_iconst (v := 0) (pc2 := 186) rfl dX12_keep_185 (by decide) ?_
              obtain ⟨g231, hf⟩ := y_g hf
              obtain ⟨h229, e230, hf⟩ := y_bdE hf
              refine y_iast (x := 0) (pc2 := 187) rfl dX12_keep_186 g231.1 (y_ix_in g231.2) e230 ?_
              exact y_pk [1, 4, 0] rfl (hj187 _ _ _ _ hf)
            · replace hf := y_it c235 hf
              refine y_iconst (v := 1) (pc2 := 182) rfl dX12_keep_181 (by decide) ?_
              refine y_goto (tgt := 186) dX12_keep_182 (by decide) ?_
              obtain ⟨g234, hf⟩ := y_g hf
              obtain ⟨h232, e233, hf⟩ := y_bdE hf
              refine y_iast (x := 1) (pc2 := 187) rfl dX12_keep_186 g234.1 (y_ix_in g234.2) e233 ?_
              exact y_pk [1, 4, 0] rfl (hj187 _ _ _ _ hf)
      · replace hf := y_ie c332 hf
        refine y_iconst (v := 0) (pc2 := 75) rfl dX12_keep_74 (by decide) ?_
        refine y_goto (tgt := 84) dX12_keep_75 (by decide) ?_
        obtain ⟨g257, hf⟩ := y_g hf
        obtain ⟨h255, e256, hf⟩ := y_bdE hf
        refine y_iast (x := 0) (pc2 := 85) rfl dX12_keep_84 g257.1 (y_ix_in g257.2) e256 ?_
        refine y_aload_n (x := p0) (pc2 := 86) rfl dX12_keep_85 rfl ?_
        obtain ⟨g331, hf⟩ := y_g hf
        refine y_getP (pc2 := 89) rfl dX12_keep_86 F_BoxYardModel_137 (by decide) rfl g331 ?_
        refine y_iload (pc2 := 91) rfl dX12_keep_89 rfl ?_
        refine y_iconst (v := 5) (pc2 := 92) rfl dX12_keep_91 (by decide) ?_
        refine y_iadd (pc2 := 93) rfl dX12_keep_92 ?_
        refine y_iload_n (pc2 := 94) rfl dX12_keep_93 rfl ?_
        obtain ⟨g260, hf⟩ := y_g hf
        obtain ⟨h258, e259, hf⟩ := y_bdE hf
        refine y_iast (x := p2) (pc2 := 95) rfl dX12_keep_94 g260.1 (y_ix_in g260.2) e259 ?_
        refine y_iload_n (pc2 := 96) rfl dX12_keep_95 rfl ?_
        refine y_jnE hf (fun j => ∀ (v0_187 : Nat) (v3_187 : Int32) (v4_187 : Int32) (h261 : y_H), j v0_187 v3_187 v4_187 h261 = some (rz, hz) → y_V l G z rm_X12_keep M_X12_keep ad0 h none hz 187 [(0, y_p v0_187), (3, .int v3_187), (4, .int v4_187)] [] h261 0 0) (fun v0_187 v3_187 v4_187 h261 hf => ?_) (fun j187 hj187 hf => ?_)
        · refine y_aload_n (x := v0_187) (pc2 := 188) rfl dX12_keep_187 rfl ?_
          obtain ⟨g295, hf⟩ := y_g hf
          refine y_getP (pc2 := 191) rfl dX12_keep_188 F_BoxYardModel_137 (by decide) rfl g295 ?_
          refine y_iload (pc2 := 193) rfl dX12_keep_191 rfl ?_
          refine y_bipush (v := 11) (pc2 := 195) rfl dX12_keep_193 (by decide) ?_
          refine y_iadd (pc2 := 196) rfl dX12_keep_195 ?_
          refine y_iload_n (pc2 := 197) rfl dX12_keep_196 rfl ?_
          obtain ⟨g264, hf⟩ := y_g hf
          obtain ⟨h262, e263, hf⟩ := y_bdE hf
          refine y_iast (x := v3_187) (pc2 := 198) rfl dX12_keep_197 g264.1 (y_ix_in g264.2) e263 ?_
          refine y_aload_n (x := v0_187) (pc2 := 199) rfl dX12_keep_198 rfl ?_
          obtain ⟨g294, hf⟩ := y_g hf
          refine y_getP (pc2 := 202) rfl dX12_keep_199 F_BoxYardModel_137 (by decide) rfl g294 ?_
          refine y_iload (pc2 := 204) rfl dX12_keep_202 rfl ?_
          refine y_bipush (v := 12) (pc2 := 206) rfl dX12_keep_204 (by decide) ?_
          refine y_iadd (pc2 := 207) rfl dX12_keep_206 ?_
          refine y_iload_n (pc2 := 208) rfl dX12_keep_207 rfl ?_
          refine y_if_ge (tgt := 215) (pc2 := 211) rfl dX12_keep_208 (by decide) (fun c293 => ?_) (fun c293 => ?_)
          · replace hf := y_it c293 hf
            refine y_aload_n (x := v0_187) (pc2 := 216) rfl dX12_keep_215 rfl ?_
            obtain ⟨g279, hf⟩ := y_g hf
            refine y_getP (pc2 := 219) rfl dX12_keep_216 F_BoxYardModel_125 (by decide) rfl g279 ?_
            refine y_iload_n (pc2 := 220) rfl dX12_keep_219 rfl ?_
            obtain ⟨g278, hf⟩ := y_g hf
            refine y_iald (pc2 := 221) rfl dX12_keep_220 g278.1 (y_ix_in g278.2) ?_
            obtain ⟨g267, hf⟩ := y_g hf
            obtain ⟨h265, e266, hf⟩ := y_bdE hf
            refine y_iast (x := y_I h262 (y_P h262 v0_187 43) (Int32.toNatClampNeg v3_187)) (pc2 := 222) rfl dX12_keep_221 g267.1 (y_ix_in g267.2) e266 ?_
            refine y_aload_n (x := v0_187) (pc2 := 223) rfl dX12_keep_222 rfl ?_
            obtain ⟨g277, hf⟩ := y_g hf
            refine y_getP (pc2 := 226) rfl dX12_keep_223 F_BoxYardModel_137 (by decide) rfl g277 ?_
            refine y_iload (pc2 := 228) rfl dX12_keep_226 rfl ?_
            refine y_bipush (v := 13) (pc2 := 230) rfl dX12_keep_228 (by decide) ?_
            refine y_iadd (pc2 := 231) rfl dX12_keep_230 ?_
            refine y_iload_n (pc2 := 232) rfl dX12_keep_231 rfl ?_
            refine y_if_ge (tgt := 239) (pc2 := 235) rfl dX12_keep_232 (by decide) (fun c276 => ?_) (fun c276 => ?_)
            · replace hf := y_it c276 hf
              refine y_aload_n (x := v0_187) (pc2 := 240) rfl dX12_keep_239 rfl ?_
              obtain ⟨g272, hf⟩ := y_g hf
              refine y_getP (pc2 := 243) rfl dX12_keep_240 F_BoxYardModel_128 (by decide) rfl g272 ?_
              refine y_iload_n (pc2 := 244) rfl dX12_keep_243 rfl ?_
              obtain ⟨g271, hf⟩ := y_g hf
              refine y_iald (pc2 := 245) rfl dX12_keep_244 g271.1 (y_ix_in g271.2) ?_
              obtain ⟨g270, hf⟩ := y_g hf
              obtain ⟨h268, e269, hf⟩ := y_bdE hf
              refine y_iast (x := y_I h265 (y_P h265 v0_187 44) (Int32.toNatClampNeg v3_187)) (pc2 := 246) rfl dX12_keep_245 g270.1 (y_ix_in g270.2) e269 ?_
              exact y_vretF hf dX12_keep_246 rfl (by decide) (by decide)
            · replace hf := y_ie c276 hf
              refine y_iconst (v := 0) (pc2 := 236) rfl dX12_keep_235 (by decide) ?_
              refine y_goto (tgt := 245) dX12_keep_236 (by decide) ?_
              obtain ⟨g275, hf⟩ := y_g hf
              obtain ⟨h273, e274, hf⟩ := y_bdE hf
              refine y_iast (x := 0) (pc2 := 246) rfl dX12_keep_245 g275.1 (y_ix_in g275.2) e274 ?_
              exact y_vretF hf dX12_keep_246 rfl (by decide) (by decide)
          · replace hf := y_ie c293 hf
            refine y_iconst (v := 0) (pc2 := 212) rfl dX12_keep_211 (by decide) ?_
            refine y_goto (tgt := 221) dX12_keep_212 (by decide) ?_
            obtain ⟨g282, hf⟩ := y_g hf
            obtain ⟨h280, e281, hf⟩ := y_bdE hf
            refine y_iast (x := 0) (pc2 := 222) rfl dX12_keep_221 g282.1 (y_ix_in g282.2) e281 ?_
            refine y_aload_n (x := v0_187) (pc2 := 223) rfl dX12_keep_222 rfl ?_
            obtain ⟨g292, hf⟩ := y_g hf
            refine y_getP (pc2 := 226) rfl dX12_keep_223 F_BoxYardModel_137 (by decide) rfl g292 ?_
            refine y_iload (pc2 := 228) rfl dX12_keep_226 rfl ?_
            refine y_bipush (v := 13) (pc2 := 230) rfl dX12_keep_228 (by decide) ?_
            refine y_iadd (pc2 := 231) rfl dX12_keep_230 ?_
            refine y_iload_n (pc2 := 232) rfl dX12_keep_231 rfl ?_
            refine y_if_ge (tgt := 239) (pc2 := 235) rfl dX12_keep_232 (by decide) (fun c291 => ?_) (fun c291 => ?_)
            · replace hf := y_it c291 hf
              refine y_aload_n (x := v0_187) (pc2 := 240) rfl dX12_keep_239 rfl ?_
              obtain ⟨g287, hf⟩ := y_g hf
              refine y_getP (pc2 := 243) rfl dX12_keep_240 F_BoxYardModel_128 (by decide) rfl g287 ?_
              refine y_iload_n (pc2 := 244) rfl dX12_keep_243 rfl ?_
              obtain ⟨g286, hf⟩ := y_g hf
              refine y_iald (pc2 := 245) rfl dX12_keep_244 g286.1 (y_ix_in g286.2) ?_
              obtain ⟨g285, hf⟩ := y_g hf
              obtain ⟨h283, e284, hf⟩ := y_bdE hf
              refine y_iast (x := y_I h280 (y_P h280 v0_187 44) (Int32.toNatClampNeg v3_187)) (pc2 := 246) rfl dX12_keep_245 g285.1 (y_ix_in g285.2) e284 ?_
              exact y_vretF hf dX12_keep_246 rfl (by decide) (by decide)
            · replace hf := y_ie c291 hf
              refine y_iconst (v := 0) (pc2 := 236) rfl dX12_keep_235 (by decide) ?_
              refine y_goto (tgt := 245) dX12_keep_236 (by decide) ?_
              obtain ⟨g290, hf⟩ := y_g hf
              obtain ⟨h288, e289, hf⟩ := y_bdE hf
              refine y_iast (x := 0) (pc2 := 246) rfl dX12_keep_245 g290.1 (y_ix_in g290.2) e289 ?_
              exact y_vretF hf dX12_keep_246 rfl (by decide) (by decide)
        · refine y_if_lt (tgt := 187) (pc2 := 99) rfl dX12_keep_96 (by decide) (fun c330 => ?_) (fun c330 => ?_)
          · replace hf := y_it c330 hf
            exact y_pk [1, 4, 0] rfl (hj187 _ _ _ _ hf)
          · replace hf := y_ie c330 hf
            refine y_aload_n (x := p0) (pc2 := 100) rfl dX12_keep_99 rfl ?_
            obtain ⟨g329, hf⟩ := y_g hf
            refine y_getP (pc2 := 103) rfl dX12_keep_100 F_BoxYardModel_137 (by decide) rfl g329 ?_
            refine y_iload (pc2 := 105) rfl dX12_keep_103 rfl ?_
            refine y_bipush (v := 6) (pc2 := 107) rfl dX12_keep_105 (by decide) ?_
            refine y_iadd (pc2 := 108) rfl dX12_keep_107 ?_
            refine y_aload_n (x := p0) (pc2 := 109) rfl dX12_keep_108 rfl ?_
            obtain ⟨g328, hf⟩ := y_g hf
            refine y_getP (pc2 := 112) rfl dX12_keep_109 F_BoxYardModel_29 (by decide) rfl g328 ?_
            refine y_iload_n (pc2 := 113) rfl dX12_keep_112 rfl ?_
            obtain ⟨g327, hf⟩ := y_g hf
            refine y_iald (pc2 := 114) rfl dX12_keep_113 g327.1 (y_ix_in g327.2) ?_
            obtain ⟨g298, hf⟩ := y_g hf
            obtain ⟨h296, e297, hf⟩ := y_bdE hf
            refine y_iast (x := y_I h258 (y_P h258 p0 7) (Int32.toNatClampNeg p2)) (pc2 := 115) rfl dX12_keep_114 g298.1 (y_ix_in g298.2) e297 ?_
            refine y_aload_n (x := p0) (pc2 := 116) rfl dX12_keep_115 rfl ?_
            obtain ⟨g326, hf⟩ := y_g hf
            refine y_getP (pc2 := 119) rfl dX12_keep_116 F_BoxYardModel_137 (by decide) rfl g326 ?_
            refine y_iload (pc2 := 121) rfl dX12_keep_119 rfl ?_
            refine y_bipush (v := 7) (pc2 := 123) rfl dX12_keep_121 (by decide) ?_
            refine y_iadd (pc2 := 124) rfl dX12_keep_123 ?_
            refine y_aload_n (x := p0) (pc2 := 125) rfl dX12_keep_124 rfl ?_
            obtain ⟨g325, hf⟩ := y_g hf
            refine y_getP (pc2 := 128) rfl dX12_keep_125 F_BoxYardModel_32 (by decide) rfl g325 ?_
            refine y_iload_n (pc2 := 129) rfl dX12_keep_128 rfl ?_
            obtain ⟨g324, hf⟩ := y_g hf
            refine y_iald (pc2 := 130) rfl dX12_keep_129 g324.1 (y_ix_in g324.2) ?_
            obtain ⟨g301, hf⟩ := y_g hf
            obtain ⟨h299, e300, hf⟩ := y_bdE hf
            refine y_iast (x := y_I h296 (y_P h296 p0 8) (Int32.toNatClampNeg p2)) (pc2 := 131) rfl dX12_keep_130 g301.1 (y_ix_in g301.2) e300 ?_
            refine y_aload_n (x := p0) (pc2 := 132) rfl dX12_keep_131 rfl ?_
            obtain ⟨g323, hf⟩ := y_g hf
            refine y_getP (pc2 := 135) rfl dX12_keep_132 F_BoxYardModel_137 (by decide) rfl g323 ?_
            refine y_iload (pc2 := 137) rfl dX12_keep_135 rfl ?_
            refine y_bipush (v := 8) (pc2 := 139) rfl dX12_keep_137 (by decide) ?_
            refine y_iadd (pc2 := 140) rfl dX12_keep_139 ?_
            refine y_aload_n (x := p0) (pc2 := 141) rfl dX12_keep_140 rfl ?_
            obtain ⟨g322, hf⟩ := y_g hf
            refine y_getP (pc2 := 144) rfl dX12_keep_141 F_BoxYardModel_35 (by decide) rfl g322 ?_
            refine y_iload_n (pc2 := 145) rfl dX12_keep_144 rfl ?_
            obtain ⟨g321, hf⟩ := y_g hf
            refine y_iald (pc2 := 146) rfl dX12_keep_145 g321.1 (y_ix_in g321.2) ?_
            obtain ⟨g304, hf⟩ := y_g hf
            obtain ⟨h302, e303, hf⟩ := y_bdE hf
            refine y_iast (x := y_I h299 (y_P h299 p0 9) (Int32.toNatClampNeg p2)) (pc2 := 147) rfl dX12_keep_146 g304.1 (y_ix_in g304.2) e303 ?_
            refine y_aload_n (x := p0) (pc2 := 148) rfl dX12_keep_147 rfl ?_
            obtain ⟨g320, hf⟩ := y_g hf
            refine y_getP (pc2 := 151) rfl dX12_keep_148 F_BoxYardModel_137 (by decide) rfl g320 ?_
            refine y_iload (pc2 := 153) rfl dX12_keep_151 rfl ?_
            refine y_bipush (v := 9) (pc2 := 155) rfl dX12_keep_153 (by decide) ?_
            refine y_iadd (pc2 := 156) rfl dX12_keep_155 ?_
            refine y_aload_n (x := p0) (pc2 := 157) rfl dX12_keep_156 rfl ?_
            obtain ⟨g319, hf⟩ := y_g hf
            refine y_getP (pc2 := 160) rfl dX12_keep_157 F_BoxYardModel_38 (by decide) rfl g319 ?_
            refine y_iload_n (pc2 := 161) rfl dX12_keep_160 rfl ?_
            obtain ⟨g318, hf⟩ := y_g hf
            refine y_iald (pc2 := 162) rfl dX12_keep_161 g318.1 (y_ix_in g318.2) ?_
            obtain ⟨g307, hf⟩ := y_g hf
            obtain ⟨h305, e306, hf⟩ := y_bdE hf
            refine y_iast (x := y_I h302 (y_P h302 p0 10) (Int32.toNatClampNeg p2)) (pc2 := 163) rfl dX12_keep_162 g307.1 (y_ix_in g307.2) e306 ?_
            refine y_aload_n (x := p0) (pc2 := 164) rfl dX12_keep_163 rfl ?_
            obtain ⟨g317, hf⟩ := y_g hf
            refine y_getP (pc2 := 167) rfl dX12_keep_164 F_BoxYardModel_137 (by decide) rfl g317 ?_
            refine y_iload (pc2 := 169) rfl dX12_keep_167 rfl ?_
            refine y_bipush (v := 10) (pc2 := 171) rfl dX12_keep_169 (by decide) ?_
            refine y_iadd (pc2 := 172) rfl dX12_keep_171 ?_
            refine y_aload_n (x := p0) (pc2 := 173) rfl dX12_keep_172 rfl ?_
            obtain ⟨g316, hf⟩ := y_g hf
            refine y_getP (pc2 := 176) rfl dX12_keep_173 F_BoxYardModel_25 (by decide) rfl g316 ?_
            refine y_iload_n (pc2 := 177) rfl dX12_keep_176 rfl ?_
            obtain ⟨g315, hf⟩ := y_g hf
            refine y_zald (pc2 := 178) rfl dX12_keep_177 g315.1 (y_ix_in g315.2) ?_
            refine y_ifz_eq (tgt := 185) (pc2 := 181) rfl dX12_keep_178 (by decide) (fun c314 => ?_) (fun c314 => ?_)
            · replace hf := y_ie c314 hf
              refine y_iconst (v := 0) (pc2 := 186) rfl dX12_keep_185 (by decide) ?_
              obtain ⟨g310, hf⟩ := y_g hf
              obtain ⟨h308, e309, hf⟩ := y_bdE hf
              refine y_iast (x := 0) (pc2 := 187) rfl dX12_keep_186 g310.1 (y_ix_in g310.2) e309 ?_
              exact y_pk [1, 4, 0] rfl (hj187 _ _ _ _ hf)
            · replace hf := y_it c314 hf
              refine y_iconst (v := 1) (pc2 := 182) rfl dX12_keep_181 (by decide) ?_
              refine y_goto (tgt := 186) dX12_keep_182 (by decide) ?_
              obtain ⟨g313, hf⟩ := y_g hf
              obtain ⟨h311, e312, hf⟩ := y_bdE hf
              refine y_iast (x := 1) (pc2 := 187) rfl dX12_keep_186 g313.1 (y_ix_in g313.2) e312 ?_
              exact y_pk [1, 4, 0] rfl (hj187 _ _ _ _ hf)
  · replace hf := y_ie c667 hf
    refine y_iconst (v := 0) (pc2 := 29) rfl dX12_keep_28 (by decide) ?_
    refine y_goto (tgt := 38) dX12_keep_29 (by decide) ?_
    obtain ⟨g340, hf⟩ := y_g hf
    obtain ⟨h338, e339, hf⟩ := y_bdE hf
    refine y_iast (x := 0) (pc2 := 39) rfl dX12_keep_38 g340.1 (y_ix_in g340.2) e339 ?_
    refine y_aload_n (x := p0) (pc2 := 40) rfl dX12_keep_39 rfl ?_
    obtain ⟨g666, hf⟩ := y_g hf
    refine y_getP (pc2 := 43) rfl dX12_keep_40 F_BoxYardModel_137 (by decide) rfl g666 ?_
    refine y_iload (pc2 := 45) rfl dX12_keep_43 rfl ?_
    refine y_iconst (v := 3) (pc2 := 46) rfl dX12_keep_45 (by decide) ?_
    refine y_iadd (pc2 := 47) rfl dX12_keep_46 ?_
    refine y_iload_n (pc2 := 48) rfl dX12_keep_47 rfl ?_
    refine y_if_ge (tgt := 55) (pc2 := 51) rfl dX12_keep_48 (by decide) (fun c665 => ?_) (fun c665 => ?_)
    · replace hf := y_it c665 hf
      refine y_aload_n (x := p0) (pc2 := 56) rfl dX12_keep_55 rfl ?_
      obtain ⟨g503, hf⟩ := y_g hf
      refine y_getP (pc2 := 59) rfl dX12_keep_56 F_BoxYardModel_89 (by decide) rfl g503 ?_
      refine y_iload_n (pc2 := 60) rfl dX12_keep_59 rfl ?_
      obtain ⟨g502, hf⟩ := y_g hf
      refine y_iald (pc2 := 61) rfl dX12_keep_60 g502.1 (y_ix_in g502.2) ?_
      obtain ⟨g343, hf⟩ := y_g hf
      obtain ⟨h341, e342, hf⟩ := y_bdE hf
      refine y_iast (x := y_I h338 (y_P h338 p0 29) (Int32.toNatClampNeg p1)) (pc2 := 62) rfl dX12_keep_61 g343.1 (y_ix_in g343.2) e342 ?_
      refine y_aload_n (x := p0) (pc2 := 63) rfl dX12_keep_62 rfl ?_
      obtain ⟨g501, hf⟩ := y_g hf
      refine y_getP (pc2 := 66) rfl dX12_keep_63 F_BoxYardModel_137 (by decide) rfl g501 ?_
      refine y_iload (pc2 := 68) rfl dX12_keep_66 rfl ?_
      refine y_iconst (v := 4) (pc2 := 69) rfl dX12_keep_68 (by decide) ?_
      refine y_iadd (pc2 := 70) rfl dX12_keep_69 ?_
      refine y_iload_n (pc2 := 71) rfl dX12_keep_70 rfl ?_
      refine y_if_ge (tgt := 78) (pc2 := 74) rfl dX12_keep_71 (by decide) (fun c500 => ?_) (fun c500 => ?_)
      · replace hf := y_it c500 hf
        refine y_aload_n (x := p0) (pc2 := 79) rfl dX12_keep_78 rfl ?_
        obtain ⟨g422, hf⟩ := y_g hf
        refine y_getP (pc2 := 82) rfl dX12_keep_79 F_BoxYardModel_92 (by decide) rfl g422 ?_
        refine y_iload_n (pc2 := 83) rfl dX12_keep_82 rfl ?_
        obtain ⟨g421, hf⟩ := y_g hf
        refine y_iald (pc2 := 84) rfl dX12_keep_83 g421.1 (y_ix_in g421.2) ?_
        obtain ⟨g346, hf⟩ := y_g hf
        obtain ⟨h344, e345, hf⟩ := y_bdE hf
        refine y_iast (x := y_I h341 (y_P h341 p0 30) (Int32.toNatClampNeg p1)) (pc2 := 85) rfl dX12_keep_84 g346.1 (y_ix_in g346.2) e345 ?_
        refine y_aload_n (x := p0) (pc2 := 86) rfl dX12_keep_85 rfl ?_
        obtain ⟨g420, hf⟩ := y_g hf
        refine y_getP (pc2 := 89) rfl dX12_keep_86 F_BoxYardModel_137 (by decide) rfl g420 ?_
        refine y_iload (pc2 := 91) rfl dX12_keep_89 rfl ?_
        refine y_iconst (v := 5) (pc2 := 92) rfl dX12_keep_91 (by decide) ?_
        refine y_iadd (pc2 := 93) rfl dX12_keep_92 ?_
        refine y_iload_n (pc2 := 94) rfl dX12_keep_93 rfl ?_
        obtain ⟨g349, hf⟩ := y_g hf
        obtain ⟨h347, e348, hf⟩ := y_bdE hf
        refine y_iast (x := p2) (pc2 := 95) rfl dX12_keep_94 g349.1 (y_ix_in g349.2) e348 ?_
        refine y_iload_n (pc2 := 96) rfl dX12_keep_95 rfl ?_
        refine y_jnE hf (fun j => ∀ (v0_187 : Nat) (v3_187 : Int32) (v4_187 : Int32) (h350 : y_H), j v0_187 v3_187 v4_187 h350 = some (rz, hz) → y_V l G z rm_X12_keep M_X12_keep ad0 h none hz 187 [(0, y_p v0_187), (3, .int v3_187), (4, .int v4_187)] [] h350 0 0) (fun v0_187 v3_187 v4_187 h350 hf => ?_) (fun j187 hj187 hf => ?_)
        · refine y_aload_n (x := v0_187) (pc2 := 188) rfl dX12_keep_187 rfl ?_
          obtain ⟨g384, hf⟩ := y_g hf
          refine y_getP (pc2 := 191) rfl dX12_keep_188 F_BoxYardModel_137 (by decide) rfl g384 ?_
          refine y_iload (pc2 := 193) rfl dX12_keep_191 rfl ?_
          refine y_bipush (v := 11) (pc2 := 195) rfl dX12_keep_193 (by decide) ?_
          refine y_iadd (pc2 := 196) rfl dX12_keep_195 ?_
          refine y_iload_n (pc2 := 197) rfl dX12_keep_196 rfl ?_
          obtain ⟨g353, hf⟩ := y_g hf
          obtain ⟨h351, e352, hf⟩ := y_bdE hf
          refine y_iast (x := v3_187) (pc2 := 198) rfl dX12_keep_197 g353.1 (y_ix_in g353.2) e352 ?_
          refine y_aload_n (x := v0_187) (pc2 := 199) rfl dX12_keep_198 rfl ?_
          obtain ⟨g383, hf⟩ := y_g hf
          refine y_getP (pc2 := 202) rfl dX12_keep_199 F_BoxYardModel_137 (by decide) rfl g383 ?_
          refine y_iload (pc2 := 204) rfl dX12_keep_202 rfl ?_
          refine y_bipush (v := 12) (pc2 := 206) rfl dX12_keep_204 (by decide) ?_
          refine y_iadd (pc2 := 207) rfl dX12_keep_206 ?_
          refine y_iload_n (pc2 := 208) rfl dX12_keep_207 rfl ?_
          refine y_if_ge (tgt := 215) (pc2 := 211) rfl dX12_keep_208 (by decide) (fun c382 => ?_) (fun c382 => ?_)
          · replace hf := y_it c382 hf
            refine y_aload_n (x := v0_187) (pc2 := 216) rfl dX12_keep_215 rfl ?_
            obtain ⟨g368, hf⟩ := y_g hf
            refine y_getP (pc2 := 219) rfl dX12_keep_216 F_BoxYardModel_125 (by decide) rfl g368 ?_
            refine y_iload_n (pc2 := 220) rfl dX12_keep_219 rfl ?_
            obtain ⟨g367, hf⟩ := y_g hf
            refine y_iald (pc2 := 221) rfl dX12_keep_220 g367.1 (y_ix_in g367.2) ?_
            obtain ⟨g356, hf⟩ := y_g hf
            obtain ⟨h354, e355, hf⟩ := y_bdE hf
            refine y_iast (x := y_I h351 (y_P h351 v0_187 43) (Int32.toNatClampNeg v3_187)) (pc2 := 222) rfl dX12_keep_221 g356.1 (y_ix_in g356.2) e355 ?_
            refine y_aload_n (x := v0_187) (pc2 := 223) rfl dX12_keep_222 rfl ?_
            obtain ⟨g366, hf⟩ := y_g hf
            refine y_getP (pc2 := 226) rfl dX12_keep_223 F_BoxYardModel_137 (by decide) rfl g366 ?_
            refine y_iload (pc2 := 228) rfl dX12_keep_226 rfl ?_
            refine y_bipush (v := 13) (pc2 := 230) rfl dX12_keep_228 (by decide) ?_
            refine y_iadd (pc2 := 231) rfl dX12_keep_230 ?_
            refine y_iload_n (pc2 := 232) rfl dX12_keep_231 rfl ?_
            refine y_if_ge (tgt := 239) (pc2 := 235) rfl dX12_keep_232 (by decide) (fun c365 => ?_) (fun c365 => ?_)
            · replace hf := y_it c365 hf
              refine y_aload_n (x := v0_187) (pc2 := 240) rfl dX12_keep_239 rfl ?_
              obtain ⟨g361, hf⟩ := y_g hf
              refine y_getP (pc2 := 243) rfl dX12_keep_240 F_BoxYardModel_128 (by decide) rfl g361 ?_
              refine y_iload_n (pc2 := 244) rfl dX12_keep_243 rfl ?_
              obtain ⟨g360, hf⟩ := y_g hf
              refine y_iald (pc2 := 245) rfl dX12_keep_244 g360.1 (y_ix_in g360.2) ?_
              obtain ⟨g359, hf⟩ := y_g hf
              obtain ⟨h357, e358, hf⟩ := y_bdE hf
              refine y_iast (x := y_I h354 (y_P h354 v0_187 44) (Int32.toNatClampNeg v3_187)) (pc2 := 246) rfl dX12_keep_245 g359.1 (y_ix_in g359.2) e358 ?_
              exact y_vretF hf dX12_keep_246 rfl (by decide) (by decide)
            · replace hf := y_ie c365 hf
              refine y_iconst (v := 0) (pc2 := 236) rfl dX12_keep_235 (by decide) ?_
              refine y_goto (tgt := 245) dX12_keep_236 (by decide) ?_
              obtain ⟨g364, hf⟩ := y_g hf
              obtain ⟨h362, e363, hf⟩ := y_bdE hf
              refine y_iast (x := 0) (pc2 := 246) rfl dX12_keep_245 g364.1 (y_ix_in g364.2) e363 ?_
              exact y_vretF hf dX12_keep_246 rfl (by decide) (by decide)
          · replace hf := y_ie c382 hf
            refine y_iconst (v := 0) (pc2 := 212) rfl dX12_keep_211 (by decide) ?_
            refine y_goto (tgt := 221) dX12_keep_212 (by decide) ?_
            obtain ⟨g371, hf⟩ := y_g hf
            obtain ⟨h369, e370, hf⟩ := y_bdE hf
            refine y_iast (x := 0) (pc2 := 222) rfl dX12_keep_221 g371.1 (y_ix_in g371.2) e370 ?_
            refine y_aload_n (x := v0_187) (pc2 := 223) rfl dX12_keep_222 rfl ?_
            obtain ⟨g381, hf⟩ := y_g hf
            refine y_getP (pc2 := 226) rfl dX12_keep_223 F_BoxYardModel_137 (by decide) rfl g381 ?_
            refine y_iload (pc2 := 228) rfl dX12_keep_226 rfl ?_
            refine y_bipush (v := 13) (pc2 := 230) rfl dX12_keep_228 (by decide) ?_
            refine y_iadd (pc2 := 231) rfl dX12_keep_230 ?_
            refine y_iload_n (pc2 := 232) rfl dX12_keep_231 rfl ?_
            refine y_if_ge (tgt := 239) (pc2 := 235) rfl dX12_keep_232 (by decide) (fun c380 => ?_) (fun c380 => ?_)
            · replace hf := y_it c380 hf
              refine y_aload_n (x := v0_187) (pc2 := 240) rfl dX12_keep_239 rfl ?_
              obtain ⟨g376, hf⟩ := y_g hf
              refine y_getP (pc2 := 243) rfl dX12_keep_240 F_BoxYardModel_128 (by decide) rfl g376 ?_
              refine y_iload_n (pc2 := 244) rfl dX12_keep_243 rfl ?_
              obtain ⟨g375, hf⟩ := y_g hf
              refine y_iald (pc2 := 245) rfl dX12_keep_244 g375.1 (y_ix_in g375.2) ?_
              obtain ⟨g374, hf⟩ := y_g hf
              obtain ⟨h372, e373, hf⟩ := y_bdE hf
              refine y_iast (x := y_I h369 (y_P h369 v0_187 44) (Int32.toNatClampNeg v3_187)) (pc2 := 246) rfl dX12_keep_245 g374.1 (y_ix_in g374.2) e373 ?_
              exact y_vretF hf dX12_keep_246 rfl (by decide) (by decide)
            · replace hf := y_ie c380 hf
              refine y_iconst (v := 0) (pc2 := 236) rfl dX12_keep_235 (by decide) ?_
              refine y_goto (tgt := 245) dX12_keep_236 (by decide) ?_
              obtain ⟨g379, hf⟩ := y_g hf
              obtain ⟨h377, e378, hf⟩ := y_bdE hf
              refine y_iast (x := 0) (pc2 := 246) rfl dX12_keep_245 g379.1 (y_ix_in g379.2) e378 ?_
              exact y_vretF hf dX12_keep_246 rfl (by decide) (by decide)
        · refine y_if_lt (tgt := 187) (pc2 := 99) rfl dX12_keep_96 (by decide) (fun c419 => ?_) (fun c419 => ?_)
          · replace hf := y_it c419 hf
            exact y_pk [1, 4, 0] rfl (hj187 _ _ _ _ hf)
          · replace hf := y_ie c419 hf
            refine y_aload_n (x := p0) (pc2 := 100) rfl dX12_keep_99 rfl ?_
            obtain ⟨g418, hf⟩ := y_g hf
            refine y_getP (pc2 := 103) rfl dX12_keep_100 F_BoxYardModel_137 (by decide) rfl g418 ?_
            refine y_iload (pc2 := 105) rfl dX12_keep_103 rfl ?_
            refine y_bipush (v := 6) (pc2 := 107) rfl dX12_keep_105 (by decide) ?_
            refine y_iadd (pc2 := 108) rfl dX12_keep_107 ?_
            refine y_aload_n (x := p0) (pc2 := 109) rfl dX12_keep_108 rfl ?_
            obtain ⟨g417, hf⟩ := y_g hf
            refine y_getP (pc2 := 112) rfl dX12_keep_109 F_BoxYardModel_29 (by decide) rfl g417 ?_
            refine y_iload_n (pc2 := 113) rfl dX12_keep_112 rfl ?_
            obtain ⟨g416, hf⟩ := y_g hf
            refine y_iald (pc2 := 114) rfl dX12_keep_113 g416.1 (y_ix_in g416.2) ?_
            obtain ⟨g387, hf⟩ := y_g hf
            obtain ⟨h385, e386, hf⟩ := y_bdE hf
            refine y_iast (x := y_I h347 (y_P h347 p0 7) (Int32.toNatClampNeg p2)) (pc2 := 115) rfl dX12_keep_114 g387.1 (y_ix_in g387.2) e386 ?_
            refine y_aload_n (x := p0) (pc2 := 116) rfl dX12_keep_115 rfl ?_
            obtain ⟨g415, hf⟩ := y_g hf
            refine y_getP (pc2 := 119) rfl dX12_keep_116 F_BoxYardModel_137 (by decide) rfl g415 ?_
            refine y_iload (pc2 := 121) rfl dX12_keep_119 rfl ?_
            refine y_bipush (v := 7) (pc2 := 123) rfl dX12_keep_121 (by decide) ?_
            refine y_iadd (pc2 := 124) rfl dX12_keep_123 ?_
            refine y_aload_n (x := p0) (pc2 := 125) rfl dX12_keep_124 rfl ?_
            obtain ⟨g414, hf⟩ := y_g hf
            refine y_getP (pc2 := 128) rfl dX12_keep_125 F_BoxYardModel_32 (by decide) rfl g414 ?_
            refine y_iload_n (pc2 := 129) rfl dX12_keep_128 rfl ?_
            obtain ⟨g413, hf⟩ := y_g hf
            refine y_iald (pc2 := 130) rfl dX12_keep_129 g413.1 (y_ix_in g413.2) ?_
            obtain ⟨g390, hf⟩ := y_g hf
            obtain ⟨h388, e389, hf⟩ := y_bdE hf
            refine y_iast (x := y_I h385 (y_P h385 p0 8) (Int32.toNatClampNeg p2)) (pc2 := 131) rfl dX12_keep_130 g390.1 (y_ix_in g390.2) e389 ?_
            refine y_aload_n (x := p0) (pc2 := 132) rfl dX12_keep_131 rfl ?_
            obtain ⟨g412, hf⟩ := y_g hf
            refine y_getP (pc2 := 135) rfl dX12_keep_132 F_BoxYardModel_137 (by decide) rfl g412 ?_
            refine y_iload (pc2 := 137) rfl dX12_keep_135 rfl ?_
            refine y_bipush (v := 8) (pc2 := 139) rfl dX12_keep_137 (by decide) ?_
            refine y_iadd (pc2 := 140) rfl dX12_keep_139 ?_
            refine y_aload_n (x := p0) (pc2 := 141) rfl dX12_keep_140 rfl ?_
            obtain ⟨g411, hf⟩ := y_g hf
            refine y_getP (pc2 := 144) rfl dX12_keep_141 F_BoxYardModel_35 (by decide) rfl g411 ?_
            refine y_iload_n (pc2 := 145) rfl dX12_keep_144 rfl ?_
            obtain ⟨g410, hf⟩ := y_g hf
            refine y_iald (pc2 := 146) rfl dX12_keep_145 g410.1 (y_ix_in g410.2) ?_
            obtain ⟨g393, hf⟩ := y_g hf
            obtain ⟨h391, e392, hf⟩ := y_bdE hf
            refine y_iast (x := y_I h388 (y_P h388 p0 9) (Int32.toNatClampNeg p2)) (pc2 := 147) rfl dX12_keep_146 g393.1 (y_ix_in g393.2) e392 ?_
            refine y_aload_n (x := p0) (pc2 := 148) rfl dX12_keep_147 rfl ?_
            obtain ⟨g409, hf⟩ := y_g hf
            refine y_getP (pc2 := 151) rfl dX12_keep_148 F_BoxYardModel_137 (by decide) rfl g409 ?_
            refine y_iload (pc2 := 153) rfl dX12_keep_151 rfl ?_
            refine y_bipush (v := 9) (pc2 := 155) rfl dX12_keep_153 (by decide) ?_
            refine y_iadd (pc2 := 156) rfl dX12_keep_155 ?_
            refine y_aload_n (x := p0) (pc2 := 157) rfl dX12_keep_156 rfl ?_
            obtain ⟨g408, hf⟩ := y_g hf
            refine y_getP (pc2 := 160) rfl dX12_keep_157 F_BoxYardModel_38 (by decide) rfl g408 ?_
            refine y_iload_n (pc2 := 161) rfl dX12_keep_160 rfl ?_
            obtain ⟨g407, hf⟩ := y_g hf
            refine y_iald (pc2 := 162) rfl dX12_keep_161 g407.1 (y_ix_in g407.2) ?_
            obtain ⟨g396, hf⟩ := y_g hf
            obtain ⟨h394, e395, hf⟩ := y_bdE hf
            refine y_iast (x := y_I h391 (y_P h391 p0 10) (Int32.toNatClampNeg p2)) (pc2 := 163) rfl dX12_keep_162 g396.1 (y_ix_in g396.2) e395 ?_
            refine y_aload_n (x := p0) (pc2 := 164) rfl dX12_keep_163 rfl ?_
            obtain ⟨g406, hf⟩ := y_g hf
            refine y_getP (pc2 := 167) rfl dX12_keep_164 F_BoxYardModel_137 (by decide) rfl g406 ?_
            refine y_iload (pc2 := 169) rfl dX12_keep_167 rfl ?_
            refine y_bipush (v := 10) (pc2 := 171) rfl dX12_keep_169 (by decide) ?_
            refine y_iadd (pc2 := 172) rfl dX12_keep_171 ?_
            refine y_aload_n (x := p0) (pc2 := 173) rfl dX12_keep_172 rfl ?_
            obtain ⟨g405, hf⟩ := y_g hf
            refine y_getP (pc2 := 176) rfl dX12_keep_173 F_BoxYardModel_25 (by decide) rfl g405 ?_
            refine y_iload_n (pc2 := 177) rfl dX12_keep_176 rfl ?_
            obtain ⟨g404, hf⟩ := y_g hf
            refine y_zald (pc2 := 178) rfl dX12_keep_177 g404.1 (y_ix_in g404.2) ?_
            refine y_ifz_eq (tgt := 185) (pc2 := 181) rfl dX12_keep_178 (by decide) (fun c403 => ?_) (fun c403 => ?_)
            · replace hf := y_ie c403 hf
              refine y_iconst (v := 0) (pc2 := 186) rfl dX12_keep_185 (by decide) ?_
              obtain ⟨g399, hf⟩ := y_g hf
              obtain ⟨h397, e398, hf⟩ := y_bdE hf
              refine y_iast (x := 0) (pc2 := 187) rfl dX12_keep_186 g399.1 (y_ix_in g399.2) e398 ?_
              exact y_pk [1, 4, 0] rfl (hj187 _ _ _ _ hf)
            · replace hf := y_it c403 hf
              refine y_iconst (v := 1) (pc2 := 182) rfl dX12_keep_181 (by decide) ?_
              refine y_goto (tgt := 186) dX12_keep_182 (by decide) ?_
              obtain ⟨g402, hf⟩ := y_g hf
              obtain ⟨h400, e401, hf⟩ := y_bdE hf
              refine y_iast (x := 1) (pc2 := 187) rfl dX12_keep_186 g402.1 (y_ix_in g402.2) e401 ?_
              exact y_pk [1, 4, 0] rfl (hj187 _ _ _ _ hf)
      · replace hf := y_ie c500 hf
        refine y_iconst (v := 0) (pc2 := 75) rfl dX12_keep_74 (by decide) ?_
        refine y_goto (tgt := 84) dX12_keep_75 (by decide) ?_
        obtain ⟨g425, hf⟩ := y_g hf
        obtain ⟨h423, e424, hf⟩ := y_bdE hf
        refine y_iast (x := 0) (pc2 := 85) rfl dX12_keep_84 g425.1 (y_ix_in g425.2) e424 ?_
        refine y_aload_n (x := p0) (pc2 := 86) rfl dX12_keep_85 rfl ?_
        obtain ⟨g499, hf⟩ := y_g hf
        refine y_getP (pc2 := 89) rfl dX12_keep_86 F_BoxYardModel_137 (by decide) rfl g499 ?_
        refine y_iload (pc2 := 91) rfl dX12_keep_89 rfl ?_
        refine y_iconst (v := 5) (pc2 := 92) rfl dX12_keep_91 (by decide) ?_
        refine y_iadd (pc2 := 93) rfl dX12_keep_92 ?_
        refine y_iload_n (pc2 := 94) rfl dX12_keep_93 rfl ?_
        obtain ⟨g428, hf⟩ := y_g hf
        obtain ⟨h426, e427, hf⟩ := y_bdE hf
        refine y_iast (x := p2) (pc2 := 95) rfl dX12_keep_94 g428.1 (y_ix_in g428.2) e427 ?_
        refine y_iload_n (pc2 := 96) rfl dX12_keep_95 rfl ?_
        refine y_jnE hf (fun j => ∀ (v0_187 : Nat) (v3_187 : Int32) (v4_187 : Int32) (h429 : y_H), j v0_187 v3_187 v4_187 h429 = some (rz, hz) → y_V l G z rm_X12_keep M_X12_keep ad0 h none hz 187 [(0, y_p v0_187), (3, .int v3_187), (4, .int v4_187)] [] h429 0 0) (fun v0_187 v3_187 v4_187 h429 hf => ?_) (fun j187 hj187 hf => ?_)
        · refine y_aload_n (x := v0_187) (pc2 := 188) rfl dX12_keep_187 rfl ?_
          obtain ⟨g463, hf⟩ := y_g hf
          refine y_getP (pc2 := 191) rfl dX12_keep_188 F_BoxYardModel_137 (by decide) rfl g463 ?_
          refine y_iload (pc2 := 193) rfl dX12_keep_191 rfl ?_
          refine y_bipush (v := 11) (pc2 := 195) rfl dX12_keep_193 (by decide) ?_
          refine y_iadd (pc2 := 196) rfl dX12_keep_195 ?_
          refine y_iload_n (pc2 := 197) rfl dX12_keep_196 rfl ?_
          obtain ⟨g432, hf⟩ := y_g hf
          obtain ⟨h430, e431, hf⟩ := y_bdE hf
          refine y_iast (x := v3_187) (pc2 := 198) rfl dX12_keep_197 g432.1 (y_ix_in g432.2) e431 ?_
          refine y_aload_n (x := v0_187) (pc2 := 199) rfl dX12_keep_198 rfl ?_
          obtain ⟨g462, hf⟩ := y_g hf
          refine y_getP (pc2 := 202) rfl dX12_keep_199 F_BoxYardModel_137 (by decide) rfl g462 ?_
          refine y_iload (pc2 := 204) rfl dX12_keep_202 rfl ?_
          refine y_bipush (v := 12) (pc2 := 206) rfl dX12_keep_204 (by decide) ?_
          refine y_iadd (pc2 := 207) rfl dX12_keep_206 ?_
          refine y_iload_n (pc2 := 208) rfl dX12_keep_207 rfl ?_
          refine y_if_ge (tgt := 215) (pc2 := 211) rfl dX12_keep_208 (by decide) (fun c461 => ?_) (fun c461 => ?_)
          · replace hf := y_it c461 hf
            refine y_aload_n (x := v0_187) (pc2 := 216) rfl dX12_keep_215 rfl ?_
            obtain ⟨g447, hf⟩ := y_g hf
            refine y_getP (pc2 := 219) rfl dX12_keep_216 F_BoxYardModel_125 (by decide) rfl g447 ?_
            refine y_iload_n (pc2 := 220) rfl dX12_keep_219 rfl ?_
            obtain ⟨g446, hf⟩ := y_g hf
            refine y_iald (pc2 := 221) rfl dX12_keep_220 g446.1 (y_ix_in g446.2) ?_
            obtain ⟨g435, hf⟩ := y_g hf
            obtain ⟨h433, e434, hf⟩ := y_bdE hf
            refine y_iast (x := y_I h430 (y_P h430 v0_187 43) (Int32.toNatClampNeg v3_187)) (pc2 := 222) rfl dX12_keep_221 g435.1 (y_ix_in g435.2) e434 ?_
            refine y_aload_n (x := v0_187) (pc2 := 223) rfl dX12_keep_222 rfl ?_
            obtain ⟨g445, hf⟩ := y_g hf
            refine y_getP (pc2 := 226) rfl dX12_keep_223 F_BoxYardModel_137 (by decide) rfl g445 ?_
            refine y_iload (pc2 := 228) rfl dX12_keep_226 rfl ?_
            refine y_bipush (v := 13) (pc2 := 230) rfl dX12_keep_228 (by decide) ?_
            refine y_iadd (pc2 := 231) rfl dX12_keep_230 ?_
            refine y_iload_n (pc2 := 232) rfl dX12_keep_231 rfl ?_
            refine y_if_ge (tgt := 239) (pc2 := 235) rfl dX12_keep_232 (by decide) (fun c444 => ?_) (fun c444 => ?_)
            · replace hf := y_it c444 hf
              refine y_aload_n (x := v0_187) (pc2 := 240) rfl dX12_keep_239 rfl ?_
              obtain ⟨g440, hf⟩ := y_g hf
              refine y_getP (pc2 := 243) rfl dX12_keep_240 F_BoxYardModel_128 (by decide) rfl g440 ?_
              refine y_iload_n (pc2 := 244) rfl dX12_keep_243 rfl ?_
              obtain ⟨g439, hf⟩ := y_g hf
              refine y_iald (pc2 := 245) rfl dX12_keep_244 g439.1 (y_ix_in g439.2) ?_
              obtain ⟨g438, hf⟩ := y_g hf
              obtain ⟨h436, e437, hf⟩ := y_bdE hf
              refine y_iast (x := y_I h433 (y_P h433 v0_187 44) (Int32.toNatClampNeg v3_187)) (pc2 := 246) rfl dX12_keep_245 g438.1 (y_ix_in g438.2) e437 ?_
              exact y_vretF hf dX12_keep_246 rfl (by decide) (by decide)
            · replace hf := y_ie c444 hf
              refine y_iconst (v := 0) (pc2 := 236) rfl dX12_keep_235 (by decide) ?_
              refine y_goto (tgt := 245) dX12_keep_236 (by decide) ?_
              obtain ⟨g443, hf⟩ := y_g hf
              obtain ⟨h441, e442, hf⟩ := y_bdE hf
              refine y_iast (x := 0) (pc2 := 246) rfl dX12_keep_245 g443.1 (y_ix_in g443.2) e442 ?_
              exact y_vretF hf dX12_keep_246 rfl (by decide) (by decide)
          · replace hf := y_ie c461 hf
            refine y_iconst (v := 0) (pc2 := 212) rfl dX12_keep_211 (by decide) ?_
            refine y_goto (tgt := 221) dX12_keep_212 (by decide) ?_
            obtain ⟨g450, hf⟩ := y_g hf
            obtain ⟨h448, e449, hf⟩ := y_bdE hf
            refine y_iast (x := 0) (pc2 := 222) rfl dX12_keep_221 g450.1 (y_ix_in g450.2) e449 ?_
            refine y_aload_n (x := v0_187) (pc2 := 223) rfl dX12_keep_222 rfl ?_
            obtain ⟨g460, hf⟩ := y_g hf
            refine y_getP (pc2 := 226) rfl dX12_keep_223 F_BoxYardModel_137 (by decide) rfl g460 ?_
            refine y_iload (pc2 := 228) rfl dX12_keep_226 rfl ?_
            refine y_bipush (v := 13) (pc2 := 230) rfl dX12_keep_228 (by decide) ?_
            refine y_iadd (pc2 := 231) rfl dX12_keep_230 ?_
            refine y_iload_n (pc2 := 232) rfl dX12_keep_231 rfl ?_
            refine y_if_ge (tgt := 239) (pc2 := 235) rfl dX12_keep_232 (by decide) (fun c459 => ?_) (fun c459 => ?_)
            · replace hf := y_it c459 hf
              refine y_aload_n (x := v0_187) (pc2 := 240) rfl dX12_keep_239 rfl ?_
              obtain ⟨g455, hf⟩ := y_g hf
              refine y_getP (pc2 := 243) rfl dX12_keep_240 F_BoxYardModel_128 (by decide) rfl g455 ?_
              refine y_iload_n (pc2 := 244) rfl dX12_keep_243 rfl ?_
              obtain ⟨g454, hf⟩ := y_g hf
              refine y_iald (pc2 := 245) rfl dX12_keep_244 g454.1 (y_ix_in g454.2) ?_
              obtain ⟨g453, hf⟩ := y_g hf
              obtain ⟨h451, e452, hf⟩ := y_bdE hf
              refine y_iast (x := y_I h448 (y_P h448 v0_187 44) (Int32.toNatClampNeg v3_187)) (pc2 := 246) rfl dX12_keep_245 g453.1 (y_ix_in g453.2) e452 ?_
              exact y_vretF hf dX12_keep_246 rfl (by decide) (by decide)
            · replace hf := y_ie c459 hf
              refine y_iconst (v := 0) (pc2 := 236) rfl dX12_keep_235 (by decide) ?_
              refine y_goto (tgt := 245) dX12_keep_236 (by decide) ?_
              obtain ⟨g458, hf⟩ := y_g hf
              obtain ⟨h456, e457, hf⟩ := y_bdE hf
              refine y_iast (x := 0) (pc2 := 246) rfl dX12_keep_245 g458.1 (y_ix_in g458.2) e457 ?_
              exact y_vretF hf dX12_keep_246 rfl (by decide) (by decide)
        · refine y_if_lt (tgt := 187) (pc2 := 99) rfl dX12_keep_96 (by decide) (fun c498 => ?_) (fun c498 => ?_)
          · replace hf := y_it c498 hf
            exact y_pk [1, 4, 0] rfl (hj187 _ _ _ _ hf)
          · replace hf := y_ie c498 hf
            refine y_aload_n (x := p0) (pc2 := 100) rfl dX12_keep_99 rfl ?_
            obtain ⟨g497, hf⟩ := y_g hf
            refine y_getP (pc2 := 103) rfl dX12_keep_100 F_BoxYardModel_137 (by decide) rfl g497 ?_
            refine y_iload (pc2 := 105) rfl dX12_keep_103 rfl ?_
            refine y_bipush (v := 6) (pc2 := 107) rfl dX12_keep_105 (by decide) ?_
            refine y_iadd (pc2 := 108) rfl dX12_keep_107 ?_
            refine y_aload_n (x := p0) (pc2 := 109) rfl dX12_keep_108 rfl ?_
            obtain ⟨g496, hf⟩ := y_g hf
            refine y_getP (pc2 := 112) rfl dX12_keep_109 F_BoxYardModel_29 (by decide) rfl g496 ?_
            refine y_iload_n (pc2 := 113) rfl dX12_keep_112 rfl ?_
            obtain ⟨g495, hf⟩ := y_g hf
            refine y_iald (pc2 := 114) rfl dX12_keep_113 g495.1 (y_ix_in g495.2) ?_
            obtain ⟨g466, hf⟩ := y_g hf
            obtain ⟨h464, e465, hf⟩ := y_bdE hf
            refine y_iast (x := y_I h426 (y_P h426 p0 7) (Int32.toNatClampNeg p2)) (pc2 := 115) rfl dX12_keep_114 g466.1 (y_ix_in g466.2) e465 ?_
            refine y_aload_n (x := p0) (pc2 := 116) rfl dX12_keep_115 rfl ?_
            obtain ⟨g494, hf⟩ := y_g hf
            refine y_getP (pc2 := 119) rfl dX12_keep_116 F_BoxYardModel_137 (by decide) rfl g494 ?_
            refine y_iload (pc2 := 121) rfl dX12_keep_119 rfl ?_
            refine y_bipush (v := 7) (pc2 := 123) rfl dX12_keep_121 (by decide) ?_
            refine y_iadd (pc2 := 124) rfl dX12_keep_123 ?_
            refine y_aload_n (x := p0) (pc2 := 125) rfl dX12_keep_124 rfl ?_
            obtain ⟨g493, hf⟩ := y_g hf
            refine y_getP (pc2 := 128) rfl dX12_keep_125 F_BoxYardModel_32 (by decide) rfl g493 ?_
            refine y_iload_n (pc2 := 129) rfl dX12_keep_128 rfl ?_
            obtain ⟨g492, hf⟩ := y_g hf
            refine y_iald (pc2 := 130) rfl dX12_keep_129 g492.1 (y_ix_in g492.2) ?_
            obtain ⟨g469, hf⟩ := y_g hf
            obtain ⟨h467, e468, hf⟩ := y_bdE hf
            refine y_iast (x := y_I h464 (y_P h464 p0 8) (Int32.toNatClampNeg p2)) (pc2 := 131) rfl dX12_keep_130 g469.1 (y_ix_in g469.2) e468 ?_
            refine y_aload_n (x := p0) (pc2 := 132) rfl dX12_keep_131 rfl ?_
            obtain ⟨g491, hf⟩ := y_g hf
            refine y_getP (pc2 := 135) rfl dX12_keep_132 F_BoxYardModel_137 (by decide) rfl g491 ?_
            refine y_iload (pc2 := 137) rfl dX12_keep_135 rfl ?_
            refine y_bipush (v := 8) (pc2 := 139) rfl dX12_keep_137 (by decide) ?_
            refine y_iadd (pc2 := 140) rfl dX12_keep_139 ?_
            refine y_aload_n (x := p0) (pc2 := 141) rfl dX12_keep_140 rfl ?_
            obtain ⟨g490, hf⟩ := y_g hf
            refine y_getP (pc2 := 144) rfl dX12_keep_141 F_BoxYardModel_35 (by decide) rfl g490 ?_
            refine y_iload_n (pc2 := 145) rfl dX12_keep_144 rfl ?_
            obtain ⟨g489, hf⟩ := y_g hf
            refine y_iald (pc2 := 146) rfl dX12_keep_145 g489.1 (y_ix_in g489.2) ?_
            obtain ⟨g472, hf⟩ := y_g hf
            obtain ⟨h470, e471, hf⟩ := y_bdE hf
            refine y_iast (x := y_I h467 (y_P h467 p0 9) (Int32.toNatClampNeg p2)) (pc2 := 147) rfl dX12_keep_146 g472.1 (y_ix_in g472.2) e471 ?_
            refine y_aload_n (x := p0) (pc2 := 148) rfl dX12_keep_147 rfl ?_
            obtain ⟨g488, hf⟩ := y_g hf
            refine y_getP (pc2 := 151) rfl dX12_keep_148 F_BoxYardModel_137 (by decide) rfl g488 ?_
            refine y_iload (pc2 := 153) rfl dX12_keep_151 rfl ?_
            refine y_bipush (v := 9) (pc2 := 155) rfl dX12_keep_153 (by decide) ?_
            refine y_iadd (pc2 := 156) rfl dX12_keep_155 ?_
            refine y_aload_n (x := p0) (pc2 := 157) rfl dX12_keep_156 rfl ?_
            obtain ⟨g487, hf⟩ := y_g hf
            refine y_getP (pc2 := 160) rfl dX12_keep_157 F_BoxYardModel_38 (by decide) rfl g487 ?_
            refine y_iload_n (pc2 := 161) rfl dX12_keep_160 rfl ?_
            obtain ⟨g486, hf⟩ := y_g hf
            refine y_iald (pc2 := 162) rfl dX12_keep_161 g486.1 (y_ix_in g486.2) ?_
            obtain ⟨g475, hf⟩ := y_g hf
            obtain ⟨h473, e474, hf⟩ := y_bdE hf
            refine y_iast (x := y_I h470 (y_P h470 p0 10) (Int32.toNatClampNeg p2)) (pc2 := 163) rfl dX12_keep_162 g475.1 (y_ix_in g475.2) e474 ?_
            refine y_aload_n (x := p0) (pc2 := 164) rfl dX12_keep_163 rfl ?_
            obtain ⟨g485, hf⟩ := y_g hf
            refine y_getP (pc2 := 167) rfl dX12_keep_164 F_BoxYardModel_137 (by decide) rfl g485 ?_
            refine y_iload (pc2 := 169) rfl dX12_keep_167 rfl ?_
            refine y_bipush (v := 10) (pc2 := 171) rfl dX12_keep_169 (by decide) ?_
            refine y_iadd (pc2 := 172) rfl dX12_keep_171 ?_
            refine y_aload_n (x := p0) (pc2 := 173) rfl dX12_keep_172 rfl ?_
            obtain ⟨g484, hf⟩ := y_g hf
            refine y_getP (pc2 := 176) rfl dX12_keep_173 F_BoxYardModel_25 (by decide) rfl g484 ?_
            refine y_iload_n (pc2 := 177) rfl dX12_keep_176 rfl ?_
            obtain ⟨g483, hf⟩ := y_g hf
            refine y_zald (pc2 := 178) rfl dX12_keep_177 g483.1 (y_ix_in g483.2) ?_
            refine y_ifz_eq (tgt := 185) (pc2 := 181) rfl dX12_keep_178 (by decide) (fun c482 => ?_) (fun c482 => ?_)
            · replace hf := y_ie c482 hf
              refine y_iconst (v := 0) (pc2 := 186) rfl dX12_keep_185 (by decide) ?_
              obtain ⟨g478, hf⟩ := y_g hf
              obtain ⟨h476, e477, hf⟩ := y_bdE hf
              refine y_iast (x := 0) (pc2 := 187) rfl dX12_keep_186 g478.1 (y_ix_in g478.2) e477 ?_
              exact y_pk [1, 4, 0] rfl (hj187 _ _ _ _ hf)
            · replace hf := y_it c482 hf
              refine y_iconst (v := 1) (pc2 := 182) rfl dX12_keep_181 (by decide) ?_
              refine y_goto (tgt := 186) dX12_keep_182 (by decide) ?_
              obtain ⟨g481, hf⟩ := y_g hf
              obtain ⟨h479, e480, hf⟩ := y_bdE hf
              refine y_iast (x := 1) (pc2 := 187) rfl dX12_keep_186 g481.1 (y_ix_in g481.2) e480 ?_
              exact y_pk [1, 4, 0] rfl (hj187 _ _ _ _ hf)
    · replace hf := y_ie c665 hf
      refine y_iconst (v := 0) (pc2 := 52) rfl dX12_keep_51 (by decide) ?_
      refine y_goto (tgt := 61) dX12_keep_52 (by decide) ?_
      obtain ⟨g506, hf⟩ := y_g hf
      obtain ⟨h504, e505, hf⟩ := y_bdE hf
      refine y_iast (x := 0) (pc2 := 62) rfl dX12_keep_61 g506.1 (y_ix_in g506.2) e505 ?_
      refine y_aload_n (x := p0) (pc2 := 63) rfl dX12_keep_62 rfl ?_
      obtain ⟨g664, hf⟩ := y_g hf
      refine y_getP (pc2 := 66) rfl dX12_keep_63 F_BoxYardModel_137 (by decide) rfl g664 ?_
      refine y_iload (pc2 := 68) rfl dX12_keep_66 rfl ?_
      refine y_iconst (v := 4) (pc2 := 69) rfl dX12_keep_68 (by decide) ?_
      refine y_iadd (pc2 := 70) rfl dX12_keep_69 ?_
      refine y_iload_n (pc2 := 71) rfl dX12_keep_70 rfl ?_
      refine y_if_ge (tgt := 78) (pc2 := 74) rfl dX12_keep_71 (by decide) (fun c663 => ?_) (fun c663 => ?_)
      · replace hf := y_it c663 hf
        refine y_aload_n (x := p0) (pc2 := 79) rfl dX12_keep_78 rfl ?_
        obtain ⟨g585, hf⟩ := y_g hf
        refine y_getP (pc2 := 82) rfl dX12_keep_79 F_BoxYardModel_92 (by decide) rfl g585 ?_
        refine y_iload_n (pc2 := 83) rfl dX12_keep_82 rfl ?_
        obtain ⟨g584, hf⟩ := y_g hf
        refine y_iald (pc2 := 84) rfl dX12_keep_83 g584.1 (y_ix_in g584.2) ?_
        obtain ⟨g509, hf⟩ := y_g hf
        obtain ⟨h507, e508, hf⟩ := y_bdE hf
        refine y_iast (x := y_I h504 (y_P h504 p0 30) (Int32.toNatClampNeg p1)) (pc2 := 85) rfl dX12_keep_84 g509.1 (y_ix_in g509.2) e508 ?_
        refine y_aload_n (x := p0) (pc2 := 86) rfl dX12_keep_85 rfl ?_
        obtain ⟨g583, hf⟩ := y_g hf
        refine y_getP (pc2 := 89) rfl dX12_keep_86 F_BoxYardModel_137 (by decide) rfl g583 ?_
        refine y_iload (pc2 := 91) rfl dX12_keep_89 rfl ?_
        refine y_iconst (v := 5) (pc2 := 92) rfl dX12_keep_91 (by decide) ?_
        refine y_iadd (pc2 := 93) rfl dX12_keep_92 ?_
        refine y_iload_n (pc2 := 94) rfl dX12_keep_93 rfl ?_
        obtain ⟨g512, hf⟩ := y_g hf
        obtain ⟨h510, e511, hf⟩ := y_bdE hf
        refine y_iast (x := p2) (pc2 := 95) rfl dX12_keep_94 g512.1 (y_ix_in g512.2) e511 ?_
        refine y_iload_n (pc2 := 96) rfl dX12_keep_95 rfl ?_
        refine y_jnE hf (fun j => ∀ (v0_187 : Nat) (v3_187 : Int32) (v4_187 : Int32) (h513 : y_H), j v0_187 v3_187 v4_187 h513 = some (rz, hz) → y_V l G z rm_X12_keep M_X12_keep ad0 h none hz 187 [(0, y_p v0_187), (3, .int v3_187), (4, .int v4_187)] [] h513 0 0) (fun v0_187 v3_187 v4_187 h513 hf => ?_) (fun j187 hj187 hf => ?_)
        · refine y_aload_n (x := v0_187) (pc2 := 188) rfl dX12_keep_187 rfl ?_
          obtain ⟨g547, hf⟩ := y_g hf
          refine y_getP (pc2 := 191) rfl dX12_keep_188 F_BoxYardModel_137 (by decide) rfl g547 ?_
          refine y_iload (pc2 := 193) rfl dX12_keep_191 rfl ?_
          refine y_bipush (v := 11) (pc2 := 195) rfl dX12_keep_193 (by decide) ?_
          refine y_iadd (pc2 := 196) rfl dX12_keep_195 ?_
          refine y_iload_n (pc2 := 197) rfl dX12_keep_196 rfl ?_
          obtain ⟨g516, hf⟩ := y_g hf
          obtain ⟨h514, e515, hf⟩ := y_bdE hf
          refine y_iast (x := v3_187) (pc2 := 198) rfl dX12_keep_197 g516.1 (y_ix_in g516.2) e515 ?_
          refine y_aload_n (x := v0_187) (pc2 := 199) rfl dX12_keep_198 rfl ?_
          obtain ⟨g546, hf⟩ := y_g hf
          refine y_getP (pc2 := 202) rfl dX12_keep_199 F_BoxYardModel_137 (by decide) rfl g546 ?_
          refine y_iload (pc2 := 204) rfl dX12_keep_202 rfl ?_
          refine y_bipush (v := 12) (pc2 := 206) rfl dX12_keep_204 (by decide) ?_
          refine y_iadd (pc2 := 207) rfl dX12_keep_206 ?_
          refine y_iload_n (pc2 := 208) rfl dX12_keep_207 rfl ?_
          refine y_if_ge (tgt := 215) (pc2 := 211) rfl dX12_keep_208 (by decide) (fun c545 => ?_) (fun c545 => ?_)
          · replace hf := y_it c545 hf
            refine y_aload_n (x := v0_187) (pc2 := 216) rfl dX12_keep_215 rfl ?_
            obtain ⟨g531, hf⟩ := y_g hf
            refine y_getP (pc2 := 219) rfl dX12_keep_216 F_BoxYardModel_125 (by decide) rfl g531 ?_
            refine y_iload_n (pc2 := 220) rfl dX12_keep_219 rfl ?_
            obtain ⟨g530, hf⟩ := y_g hf
            refine y_iald (pc2 := 221) rfl dX12_keep_220 g530.1 (y_ix_in g530.2) ?_
            obtain ⟨g519, hf⟩ := y_g hf
            obtain ⟨h517, e518, hf⟩ := y_bdE hf
            refine y_iast (x := y_I h514 (y_P h514 v0_187 43) (Int32.toNatClampNeg v3_187)) (pc2 := 222) rfl dX12_keep_221 g519.1 (y_ix_in g519.2) e518 ?_
            refine y_aload_n (x := v0_187) (pc2 := 223) rfl dX12_keep_222 rfl ?_
            obtain ⟨g529, hf⟩ := y_g hf
            refine y_getP (pc2 := 226) rfl dX12_keep_223 F_BoxYardModel_137 (by decide) rfl g529 ?_
            refine y_iload (pc2 := 228) rfl dX12_keep_226 rfl ?_
            refine y_bipush (v := 13) (pc2 := 230) rfl dX12_keep_228 (by decide) ?_
            refine y_iadd (pc2 := 231) rfl dX12_keep_230 ?_
            refine y_iload_n (pc2 := 232) rfl dX12_keep_231 rfl ?_
            refine y_if_ge (tgt := 239) (pc2 := 235) rfl dX12_keep_232 (by decide) (fun c528 => ?_) (fun c528 => ?_)
            · replace hf := y_it c528 hf
              refine y_aload_n (x := v0_187) (pc2 := 240) rfl dX12_keep_239 rfl ?_
              obtain ⟨g524, hf⟩ := y_g hf
              refine y_getP (pc2 := 243) rfl dX12_keep_240 F_BoxYardModel_128 (by decide) rfl g524 ?_
              refine y_iload_n (pc2 := 244) rfl dX12_keep_243 rfl ?_
              obtain ⟨g523, hf⟩ := y_g hf
              refine y_iald (pc2 := 245) rfl dX12_keep_244 g523.1 (y_ix_in g523.2) ?_
              obtain ⟨g522, hf⟩ := y_g hf
              obtain ⟨h520, e521, hf⟩ := y_bdE hf
              refine y_iast (x := y_I h517 (y_P h517 v0_187 44) (Int32.toNatClampNeg v3_187)) (pc2 := 246) rfl dX12_keep_245 g522.1 (y_ix_in g522.2) e521 ?_
              exact y_vretF hf dX12_keep_246 rfl (by decide) (by decide)
            · replace hf := y_ie c528 hf
              refine y_iconst (v := 0) (pc2 := 236) rfl dX12_keep_235 (by decide) ?_
              refine y_goto (tgt := 245) dX12_keep_236 (by decide) ?_
              obtain ⟨g527, hf⟩ := y_g hf
              obtain ⟨h525, e526, hf⟩ := y_bdE hf
              refine y_iast (x := 0) (pc2 := 246) rfl dX12_keep_245 g527.1 (y_ix_in g527.2) e526 ?_
              exact y_vretF hf dX12_keep_246 rfl (by decide) (by decide)
          · replace hf := y_ie c545 hf
            refine y_iconst (v := 0) (pc2 := 212) rfl dX12_keep_211 (by decide) ?_
            refine y_goto (tgt := 221) dX12_keep_212 (by decide) ?_
            obtain ⟨g534, hf⟩ := y_g hf
            obtain ⟨h532, e533, hf⟩ := y_bdE hf
            refine y_iast (x := 0) (pc2 := 222) rfl dX12_keep_221 g534.1 (y_ix_in g534.2) e533 ?_
            refine y_aload_n (x := v0_187) (pc2 := 223) rfl dX12_keep_222 rfl ?_
            obtain ⟨g544, hf⟩ := y_g hf
            refine y_getP (pc2 := 226) rfl dX12_keep_223 F_BoxYardModel_137 (by decide) rfl g544 ?_
            refine y_iload (pc2 := 228) rfl dX12_keep_226 rfl ?_
            refine y_bipush (v := 13) (pc2 := 230) rfl dX12_keep_228 (by decide) ?_
            refine y_iadd (pc2 := 231) rfl dX12_keep_230 ?_
            refine y_iload_n (pc2 := 232) rfl dX12_keep_231 rfl ?_
            refine y_if_ge (tgt := 239) (pc2 := 235) rfl dX12_keep_232 (by decide) (fun c543 => ?_) (fun c543 => ?_)
            · replace hf := y_it c543 hf
              refine y_aload_n (x := v0_187) (pc2 := 240) rfl dX12_keep_239 rfl ?_
              obtain ⟨g539, hf⟩ := y_g hf
              refine y_getP (pc2 := 243) rfl dX12_keep_240 F_BoxYardModel_128 (by decide) rfl g539 ?_
              refine y_iload_n (pc2 := 244) rfl dX12_keep_243 rfl ?_
              obtain ⟨g538, hf⟩ := y_g hf
              refine y_iald (pc2 := 245) rfl dX12_keep_244 g538.1 (y_ix_in g538.2) ?_
              obtain ⟨g537, hf⟩ := y_g hf
              obtain ⟨h535, e536, hf⟩ := y_bdE hf
              refine y_iast (x := y_I h532 (y_P h532 v0_187 44) (Int32.toNatClampNeg v3_187)) (pc2 := 246) rfl dX12_keep_245 g537.1 (y_ix_in g537.2) e536 ?_
              exact y_vretF hf dX12_keep_246 rfl (by decide) (by decide)
            · replace hf := y_ie c543 hf
              refine y_iconst (v := 0) (pc2 := 236) rfl dX12_keep_235 (by decide) ?_
              refine y_goto (tgt := 245) dX12_keep_236 (by decide) ?_
              obtain ⟨g542, hf⟩ := y_g hf
              obtain ⟨h540, e541, hf⟩ := y_bdE hf
              refine y_iast (x := 0) (pc2 := 246) rfl dX12_keep_245 g542.1 (y_ix_in g542.2) e541 ?_
              exact y_vretF hf dX12_keep_246 rfl (by decide) (by decide)
        · refine y_if_lt (tgt := 187) (pc2 := 99) rfl dX12_keep_96 (by decide) (fun c582 => ?_) (fun c582 => ?_)
          · replace hf := y_it c582 hf
            exact y_pk [1, 4, 0] rfl (hj187 _ _ _ _ hf)
          · replace hf := y_ie c582 hf
            refine y_aload_n (x := p0) (pc2 := 100) rfl dX12_keep_99 rfl ?_
            obtain ⟨g581, hf⟩ := y_g hf
            refine y_getP (pc2 := 103) rfl dX12_keep_100 F_BoxYardModel_137 (by decide) rfl g581 ?_
            refine y_iload (pc2 := 105) rfl dX12_keep_103 rfl ?_
            refine y_bipush (v := 6) (pc2 := 107) rfl dX12_keep_105 (by decide) ?_
            refine y_iadd (pc2 := 108) rfl dX12_keep_107 ?_
            refine y_aload_n (x := p0) (pc2 := 109) rfl dX12_keep_108 rfl ?_
            obtain ⟨g580, hf⟩ := y_g hf
            refine y_getP (pc2 := 112) rfl dX12_keep_109 F_BoxYardModel_29 (by decide) rfl g580 ?_
            refine y_iload_n (pc2 := 113) rfl dX12_keep_112 rfl ?_
            obtain ⟨g579, hf⟩ := y_g hf
            refine y_iald (pc2 := 114) rfl dX12_keep_113 g579.1 (y_ix_in g579.2) ?_
            obtain ⟨g550, hf⟩ := y_g hf
            obtain ⟨h548, e549, hf⟩ := y_bdE hf
            refine y_iast (x := y_I h510 (y_P h510 p0 7) (Int32.toNatClampNeg p2)) (pc2 := 115) rfl dX12_keep_114 g550.1 (y_ix_in g550.2) e549 ?_
            refine y_aload_n (x := p0) (pc2 := 116) rfl dX12_keep_115 rfl ?_
            obtain ⟨g578, hf⟩ := y_g hf
            refine y_getP (pc2 := 119) rfl dX12_keep_116 F_BoxYardModel_137 (by decide) rfl g578 ?_
            refine y_iload (pc2 := 121) rfl dX12_keep_119 rfl ?_
            refine y_bipush (v := 7) (pc2 := 123) rfl dX12_keep_121 (by decide) ?_
            refine y_iadd (pc2 := 124) rfl dX12_keep_123 ?_
            refine y_aload_n (x := p0) (pc2 := 125) rfl dX12_keep_124 rfl ?_
            obtain ⟨g577, hf⟩ := y_g hf
            refine y_getP (pc2 := 128) rfl dX12_keep_125 F_BoxYardModel_32 (by decide) rfl g577 ?_
            refine y_iload_n (pc2 := 129) rfl dX12_keep_128 rfl ?_
            obtain ⟨g576, hf⟩ := y_g hf
            refine y_iald (pc2 := 130) rfl dX12_keep_129 g576.1 (y_ix_in g576.2) ?_
            obtain ⟨g553, hf⟩ := y_g hf
            obtain ⟨h551, e552, hf⟩ := y_bdE hf
            refine y_iast (x := y_I h548 (y_P h548 p0 8) (Int32.toNatClampNeg p2)) (pc2 := 131) rfl dX12_keep_130 g553.1 (y_ix_in g553.2) e552 ?_
            refine y_aload_n (x := p0) (pc2 := 132) rfl dX12_keep_131 rfl ?_
            obtain ⟨g575, hf⟩ := y_g hf
            refine y_getP (pc2 := 135) rfl dX12_keep_132 F_BoxYardModel_137 (by decide) rfl g575 ?_
            refine y_iload (pc2 := 137) rfl dX12_keep_135 rfl ?_
            refine y_bipush (v := 8) (pc2 := 139) rfl dX12_keep_137 (by decide) ?_
            refine y_iadd (pc2 := 140) rfl dX12_keep_139 ?_
            refine y_aload_n (x := p0) (pc2 := 141) rfl dX12_keep_140 rfl ?_
            obtain ⟨g574, hf⟩ := y_g hf
            refine y_getP (pc2 := 144) rfl dX12_keep_141 F_BoxYardModel_35 (by decide) rfl g574 ?_
            refine y_iload_n (pc2 := 145) rfl dX12_keep_144 rfl ?_
            obtain ⟨g573, hf⟩ := y_g hf
            refine y_iald (pc2 := 146) rfl dX12_keep_145 g573.1 (y_ix_in g573.2) ?_
            obtain ⟨g556, hf⟩ := y_g hf
            obtain ⟨h554, e555, hf⟩ := y_bdE hf
            refine y_iast (x := y_I h551 (y_P h551 p0 9) (Int32.toNatClampNeg p2)) (pc2 := 147) rfl dX12_keep_146 g556.1 (y_ix_in g556.2) e555 ?_
            refine y_aload_n (x := p0) (pc2 := 148) rfl dX12_keep_147 rfl ?_
            obtain ⟨g572, hf⟩ := y_g hf
            refine y_getP (pc2 := 151) rfl dX12_keep_148 F_BoxYardModel_137 (by decide) rfl g572 ?_
            refine y_iload (pc2 := 153) rfl dX12_keep_151 rfl ?_
            refine y_bipush (v := 9) (pc2 := 155) rfl dX12_keep_153 (by decide) ?_
            refine y_iadd (pc2 := 156) rfl dX12_keep_155 ?_
            refine y_aload_n (x := p0) (pc2 := 157) rfl dX12_keep_156 rfl ?_
            obtain ⟨g571, hf⟩ := y_g hf
            refine y_getP (pc2 := 160) rfl dX12_keep_157 F_BoxYardModel_38 (by decide) rfl g571 ?_
            refine y_iload_n (pc2 := 161) rfl dX12_keep_160 rfl ?_
            obtain ⟨g570, hf⟩ := y_g hf
            refine y_iald (pc2 := 162) rfl dX12_keep_161 g570.1 (y_ix_in g570.2) ?_
            obtain ⟨g559, hf⟩ := y_g hf
            obtain ⟨h557, e558, hf⟩ := y_bdE hf
            refine y_iast (x := y_I h554 (y_P h554 p0 10) (Int32.toNatClampNeg p2)) (pc2 := 163) rfl dX12_keep_162 g559.1 (y_ix_in g559.2) e558 ?_
            refine y_aload_n (x := p0) (pc2 := 164) rfl dX12_keep_163 rfl ?_
            obtain ⟨g569, hf⟩ := y_g hf
            refine y_getP (pc2 := 167) rfl dX12_keep_164 F_BoxYardModel_137 (by decide) rfl g569 ?_
            refine y_iload (pc2 := 169) rfl dX12_keep_167 rfl ?_
            refine y_bipush (v := 10) (pc2 := 171) rfl dX12_keep_169 (by decide) ?_
            refine y_iadd (pc2 := 172) rfl dX12_keep_171 ?_
            refine y_aload_n (x := p0) (pc2 := 173) rfl dX12_keep_172 rfl ?_
            obtain ⟨g568, hf⟩ := y_g hf
            refine y_getP (pc2 := 176) rfl dX12_keep_173 F_BoxYardModel_25 (by decide) rfl g568 ?_
            refine y_iload_n (pc2 := 177) rfl dX12_keep_176 rfl ?_
            obtain ⟨g567, hf⟩ := y_g hf
            refine y_zald (pc2 := 178) rfl dX12_keep_177 g567.1 (y_ix_in g567.2) ?_
            refine y_ifz_eq (tgt := 185) (pc2 := 181) rfl dX12_keep_178 (by decide) (fun c566 => ?_) (fun c566 => ?_)
            · replace hf := y_ie c566 hf
              refine y_iconst (v := 0) (pc2 := 186) rfl dX12_keep_185 (by decide) ?_
              obtain ⟨g562, hf⟩ := y_g hf
              obtain ⟨h560, e561, hf⟩ := y_bdE hf
              refine y_iast (x := 0) (pc2 := 187) rfl dX12_keep_186 g562.1 (y_ix_in g562.2) e561 ?_
              exact y_pk [1, 4, 0] rfl (hj187 _ _ _ _ hf)
            · replace hf := y_it c566 hf
              refine y_iconst (v := 1) (pc2 := 182) rfl dX12_keep_181 (by decide) ?_
              refine y_goto (tgt := 186) dX12_keep_182 (by decide) ?_
              obtain ⟨g565, hf⟩ := y_g hf
              obtain ⟨h563, e564, hf⟩ := y_bdE hf
              refine y_iast (x := 1) (pc2 := 187) rfl dX12_keep_186 g565.1 (y_ix_in g565.2) e564 ?_
              exact y_pk [1, 4, 0] rfl (hj187 _ _ _ _ hf)
      · replace hf := y_ie c663 hf
        refine y_iconst (v := 0) (pc2 := 75) rfl dX12_keep_74 (by decide) ?_
        refine y_goto (tgt := 84) dX12_keep_75 (by decide) ?_
        obtain ⟨g588, hf⟩ := y_g hf
        obtain ⟨h586, e587, hf⟩ := y_bdE hf
        refine y_iast (x := 0) (pc2 := 85) rfl dX12_keep_84 g588.1 (y_ix_in g588.2) e587 ?_
        refine y_aload_n (x := p0) (pc2 := 86) rfl dX12_keep_85 rfl ?_
        obtain ⟨g662, hf⟩ := y_g hf
        refine y_getP (pc2 := 89) rfl dX12_keep_86 F_BoxYardModel_137 (by decide) rfl g662 ?_
        refine y_iload (pc2 := 91) rfl dX12_keep_89 rfl ?_
        refine y_iconst (v := 5) (pc2 := 92) rfl dX12_keep_91 (by decide) ?_
        refine y_iadd (pc2 := 93) rfl dX12_keep_92 ?_
        refine y_iload_n (pc2 := 94) rfl dX12_keep_93 rfl ?_
        obtain ⟨g591, hf⟩ := y_g hf
        obtain ⟨h589, e590, hf⟩ := y_bdE hf
        refine y_iast (x := p2) (pc2 := 95) rfl dX12_keep_94 g591.1 (y_ix_in g591.2) e590 ?_
        refine y_iload_n (pc2 := 96) rfl dX12_keep_95 rfl ?_
        refine y_jnE hf (fun j => ∀ (v0_187 : Nat) (v3_187 : Int32) (v4_187 : Int32) (h592 : y_H), j v0_187 v3_187 v4_187 h592 = some (rz, hz) → y_V l G z rm_X12_keep M_X12_keep ad0 h none hz 187 [(0, y_p v0_187), (3, .int v3_187), (4, .int v4_187)] [] h592 0 0) (fun v0_187 v3_187 v4_187 h592 hf => ?_) (fun j187 hj187 hf => ?_)
        · refine y_aload_n (x := v0_187) (pc2 := 188) rfl dX12_keep_187 rfl ?_
          obtain ⟨g626, hf⟩ := y_g hf
          refine y_getP (pc2 := 191) rfl dX12_keep_188 F_BoxYardModel_137 (by decide) rfl g626 ?_
          refine y_iload (pc2 := 193) rfl dX12_keep_191 rfl ?_
          refine y_bipush (v := 11) (pc2 := 195) rfl dX12_keep_193 (by decide) ?_
          refine y_iadd (pc2 := 196) rfl dX12_keep_195 ?_
          refine y_iload_n (pc2 := 197) rfl dX12_keep_196 rfl ?_
          obtain ⟨g595, hf⟩ := y_g hf
          obtain ⟨h593, e594, hf⟩ := y_bdE hf
          refine y_iast (x := v3_187) (pc2 := 198) rfl dX12_keep_197 g595.1 (y_ix_in g595.2) e594 ?_
          refine y_aload_n (x := v0_187) (pc2 := 199) rfl dX12_keep_198 rfl ?_
          obtain ⟨g625, hf⟩ := y_g hf
          refine y_getP (pc2 := 202) rfl dX12_keep_199 F_BoxYardModel_137 (by decide) rfl g625 ?_
          refine y_iload (pc2 := 204) rfl dX12_keep_202 rfl ?_
          refine y_bipush (v := 12) (pc2 := 206) rfl dX12_keep_204 (by decide) ?_
          refine y_iadd (pc2 := 207) rfl dX12_keep_206 ?_
          refine y_iload_n (pc2 := 208) rfl dX12_keep_207 rfl ?_
          refine y_if_ge (tgt := 215) (pc2 := 211) rfl dX12_keep_208 (by decide) (fun c624 => ?_) (fun c624 => ?_)
          · replace hf := y_it c624 hf
            refine y_aload_n (x := v0_187) (pc2 := 216) rfl dX12_keep_215 rfl ?_
            obtain ⟨g610, hf⟩ := y_g hf
            refine y_getP (pc2 := 219) rfl dX12_keep_216 F_BoxYardModel_125 (by decide) rfl g610 ?_
            refine y_iload_n (pc2 := 220) rfl dX12_keep_219 rfl ?_
            obtain ⟨g609, hf⟩ := y_g hf
            refine y_iald (pc2 := 221) rfl dX12_keep_220 g609.1 (y_ix_in g609.2) ?_
            obtain ⟨g598, hf⟩ := y_g hf
            obtain ⟨h596, e597, hf⟩ := y_bdE hf
            refine y_iast (x := y_I h593 (y_P h593 v0_187 43) (Int32.toNatClampNeg v3_187)) (pc2 := 222) rfl dX12_keep_221 g598.1 (y_ix_in g598.2) e597 ?_
            refine y_aload_n (x := v0_187) (pc2 := 223) rfl dX12_keep_222 rfl ?_
            obtain ⟨g608, hf⟩ := y_g hf
            refine y_getP (pc2 := 226) rfl dX12_keep_223 F_BoxYardModel_137 (by decide) rfl g608 ?_
            refine y_iload (pc2 := 228) rfl dX12_keep_226 rfl ?_
            refine y_bipush (v := 13) (pc2 := 230) rfl dX12_keep_228 (by decide) ?_
            refine y_iadd (pc2 := 231) rfl dX12_keep_230 ?_
            refine y_iload_n (pc2 := 232) rfl dX12_keep_231 rfl ?_
            refine y_if_ge (tgt := 239) (pc2 := 235) rfl dX12_keep_232 (by decide) (fun c607 => ?_) (fun c607 => ?_)
            · replace hf := y_it c607 hf
              refine y_aload_n (x := v0_187) (pc2 := 240) rfl dX12_keep_239 rfl ?_
              obtain ⟨g603, hf⟩ := y_g hf
              refine y_getP (pc2 := 243) rfl dX12_keep_240 F_BoxYardModel_128 (by decide) rfl g603 ?_
              refine y_iload_n (pc2 := 244) rfl dX12_keep_243 rfl ?_
              obtain ⟨g602, hf⟩ := y_g hf
              refine y_iald (pc2 := 245) rfl dX12_keep_244 g602.1 (y_ix_in g602.2) ?_
              obtain ⟨g601, hf⟩ := y_g hf
              obtain ⟨h599, e600, hf⟩ := y_bdE hf
              refine y_iast (x := y_I h596 (y_P h596 v0_187 44) (Int32.toNatClampNeg v3_187)) (pc2 := 246) rfl dX12_keep_245 g601.1 (y_ix_in g601.2) e600 ?_
              exact y_vretF hf dX12_keep_246 rfl (by decide) (by decide)
            · replace hf := y_ie c607 hf
              refine y_iconst (v := 0) (pc2 := 236) rfl dX12_keep_235 (by decide) ?_
              refine y_goto (tgt := 245) dX12_keep_236 (by decide) ?_
              obtain ⟨g606, hf⟩ := y_g hf
              obtain ⟨h604, e605, hf⟩ := y_bdE hf
              refine y_iast (x := 0) (pc2 := 246) rfl dX12_keep_245 g606.1 (y_ix_in g606.2) e605 ?_
              exact y_vretF hf dX12_keep_246 rfl (by decide) (by decide)
          · replace hf := y_ie c624 hf
            refine y_iconst (v := 0) (pc2 := 212) rfl dX12_keep_211 (by decide) ?_
            refine y_goto (tgt := 221) dX12_keep_212 (by decide) ?_
            obtain ⟨g613, hf⟩ := y_g hf
            obtain ⟨h611, e612, hf⟩ := y_bdE hf
            refine y_iast (x := 0) (pc2 := 222) rfl dX12_keep_221 g613.1 (y_ix_in g613.2) e612 ?_
            refine y_aload_n (x := v0_187) (pc2 := 223) rfl dX12_keep_222 rfl ?_
            obtain ⟨g623, hf⟩ := y_g hf
            refine y_getP (pc2 := 226) rfl dX12_keep_223 F_BoxYardModel_137 (by decide) rfl g623 ?_
            refine y_iload (pc2 := 228) rfl dX12_keep_226 rfl ?_
            refine y_bipush (v := 13) (pc2 := 230) rfl dX12_keep_228 (by decide) ?_
            refine y_iadd (pc2 := 231) rfl dX12_keep_230 ?_
            refine y_iload_n (pc2 := 232) rfl dX12_keep_231 rfl ?_
            refine y_if_ge (tgt := 239) (pc2 := 235) rfl dX12_keep_232 (by decide) (fun c622 => ?_) (fun c622 => ?_)
            · replace hf := y_it c622 hf
              refine y_aload_n (x := v0_187) (pc2 := 240) rfl dX12_keep_239 rfl ?_
              obtain ⟨g618, hf⟩ := y_g hf
              refine y_getP (pc2 := 243) rfl dX12_keep_240 F_BoxYardModel_128 (by decide) rfl g618 ?_
              refine y_iload_n (pc2 := 244) rfl dX12_keep_243 rfl ?_
              obtain ⟨g617, hf⟩ := y_g hf
              refine y_iald (pc2 := 245) rfl dX12_keep_244 g617.1 (y_ix_in g617.2) ?_
              obtain ⟨g616, hf⟩ := y_g hf
              obtain ⟨h614, e615, hf⟩ := y_bdE hf
              refine y_iast (x := y_I h611 (y_P h611 v0_187 44) (Int32.toNatClampNeg v3_187)) (pc2 := 246) rfl dX12_keep_245 g616.1 (y_ix_in g616.2) e615 ?_
              exact y_vretF hf dX12_keep_246 rfl (by decide) (by decide)
            · replace hf := y_ie c622 hf
              refine y_iconst (v := 0) (pc2 := 236) rfl dX12_keep_235 (by decide) ?_
              refine y_goto (tgt := 245) dX12_keep_236 (by decide) ?_
              obtain ⟨g621, hf⟩ := y_g hf
              obtain ⟨h619, e620, hf⟩ := y_bdE hf
              refine y_iast (x := 0) (pc2 := 246) rfl dX12_keep_245 g621.1 (y_ix_in g621.2) e620 ?_
              exact y_vretF hf dX12_keep_246 rfl (by decide) (by decide)
        · refine y_if_lt (tgt := 187) (pc2 := 99) rfl dX12_keep_96 (by decide) (fun c661 => ?_) (fun c661 => ?_)
          · replace hf := y_it c661 hf
            exact y_pk [1, 4, 0] rfl (hj187 _ _ _ _ hf)
          · replace hf := y_ie c661 hf
            refine y_aload_n (x := p0) (pc2 := 100) rfl dX12_keep_99 rfl ?_
            obtain ⟨g660, hf⟩ := y_g hf
            refine y_getP (pc2 := 103) rfl dX12_keep_100 F_BoxYardModel_137 (by decide) rfl g660 ?_
            refine y_iload (pc2 := 105) rfl dX12_keep_103 rfl ?_
            refine y_bipush (v := 6) (pc2 := 107) rfl dX12_keep_105 (by decide) ?_
            refine y_iadd (pc2 := 108) rfl dX12_keep_107 ?_
            refine y_aload_n (x := p0) (pc2 := 109) rfl dX12_keep_108 rfl ?_
            obtain ⟨g659, hf⟩ := y_g hf
            refine y_getP (pc2 := 112) rfl dX12_keep_109 F_BoxYardModel_29 (by decide) rfl g659 ?_
            refine y_iload_n (pc2 := 113) rfl dX12_keep_112 rfl ?_
            obtain ⟨g658, hf⟩ := y_g hf
            refine y_iald (pc2 := 114) rfl dX12_keep_113 g658.1 (y_ix_in g658.2) ?_
            obtain ⟨g629, hf⟩ := y_g hf
            obtain ⟨h627, e628, hf⟩ := y_bdE hf
            refine y_iast (x := y_I h589 (y_P h589 p0 7) (Int32.toNatClampNeg p2)) (pc2 := 115) rfl dX12_keep_114 g629.1 (y_ix_in g629.2) e628 ?_
            refine y_aload_n (x := p0) (pc2 := 116) rfl dX12_keep_115 rfl ?_
            obtain ⟨g657, hf⟩ := y_g hf
            refine y_getP (pc2 := 119) rfl dX12_keep_116 F_BoxYardModel_137 (by decide) rfl g657 ?_
            refine y_iload (pc2 := 121) rfl dX12_keep_119 rfl ?_
            refine y_bipush (v := 7) (pc2 := 123) rfl dX12_keep_121 (by decide) ?_
            refine y_iadd (pc2 := 124) rfl dX12_keep_123 ?_
            refine y_aload_n (x := p0) (pc2 := 125) rfl dX12_keep_124 rfl ?_
            obtain ⟨g656, hf⟩ := y_g hf
            refine y_getP (pc2 := 128) rfl dX12_keep_125 F_BoxYardModel_32 (by decide) rfl g656 ?_
            refine y_iload_n (pc2 := 129) rfl dX12_keep_128 rfl ?_
            obtain ⟨g655, hf⟩ := y_g hf
            refine y_iald (pc2 := 130) rfl dX12_keep_129 g655.1 (y_ix_in g655.2) ?_
            obtain ⟨g632, hf⟩ := y_g hf
            obtain ⟨h630, e631, hf⟩ := y_bdE hf
            refine y_iast (x := y_I h627 (y_P h627 p0 8) (Int32.toNatClampNeg p2)) (pc2 := 131) rfl dX12_keep_130 g632.1 (y_ix_in g632.2) e631 ?_
            refine y_aload_n (x := p0) (pc2 := 132) rfl dX12_keep_131 rfl ?_
            obtain ⟨g654, hf⟩ := y_g hf
            refine y_getP (pc2 := 135) rfl dX12_keep_132 F_BoxYardModel_137 (by decide) rfl g654 ?_
            refine y_iload (pc2 := 137) rfl dX12_keep_135 rfl ?_
            refine y_bipush (v := 8) (pc2 := 139) rfl dX12_keep_137 (by decide) ?_
            refine y_iadd (pc2 := 140) rfl dX12_keep_139 ?_
            refine y_aload_n (x := p0) (pc2 := 141) rfl dX12_keep_140 rfl ?_
            obtain ⟨g653, hf⟩ := y_g hf
            refine y_getP (pc2 := 144) rfl dX12_keep_141 F_BoxYardModel_35 (by decide) rfl g653 ?_
            refine y_iload_n (pc2 := 145) rfl dX12_keep_144 rfl ?_
            obtain ⟨g652, hf⟩ := y_g hf
            refine y_iald (pc2 := 146) rfl dX12_keep_145 g652.1 (y_ix_in g652.2) ?_
            obtain ⟨g635, hf⟩ := y_g hf
            obtain ⟨h633, e634, hf⟩ := y_bdE hf
            refine y_iast (x := y_I h630 (y_P h630 p0 9) (Int32.toNatClampNeg p2)) (pc2 := 147) rfl dX12_keep_146 g635.1 (y_ix_in g635.2) e634 ?_
            refine y_aload_n (x := p0) (pc2 := 148) rfl dX12_keep_147 rfl ?_
            obtain ⟨g651, hf⟩ := y_g hf
            refine y_getP (pc2 := 151) rfl dX12_keep_148 F_BoxYardModel_137 (by decide) rfl g651 ?_
            refine y_iload (pc2 := 153) rfl dX12_keep_151 rfl ?_
            refine y_bipush (v := 9) (pc2 := 155) rfl dX12_keep_153 (by decide) ?_
            refine y_iadd (pc2 := 156) rfl dX12_keep_155 ?_
            refine y_aload_n (x := p0) (pc2 := 157) rfl dX12_keep_156 rfl ?_
            obtain ⟨g650, hf⟩ := y_g hf
            refine y_getP (pc2 := 160) rfl dX12_keep_157 F_BoxYardModel_38 (by decide) rfl g650 ?_
            refine y_iload_n (pc2 := 161) rfl dX12_keep_160 rfl ?_
            obtain ⟨g649, hf⟩ := y_g hf
            refine y_iald (pc2 := 162) rfl dX12_keep_161 g649.1 (y_ix_in g649.2) ?_
            obtain ⟨g638, hf⟩ := y_g hf
            obtain ⟨h636, e637, hf⟩ := y_bdE hf
            refine y_iast (x := y_I h633 (y_P h633 p0 10) (Int32.toNatClampNeg p2)) (pc2 := 163) rfl dX12_keep_162 g638.1 (y_ix_in g638.2) e637 ?_
            refine y_aload_n (x := p0) (pc2 := 164) rfl dX12_keep_163 rfl ?_
            obtain ⟨g648, hf⟩ := y_g hf
            refine y_getP (pc2 := 167) rfl dX12_keep_164 F_BoxYardModel_137 (by decide) rfl g648 ?_
            refine y_iload (pc2 := 169) rfl dX12_keep_167 rfl ?_
            refine y_bipush (v := 10) (pc2 := 171) rfl dX12_keep_169 (by decide) ?_
            refine y_iadd (pc2 := 172) rfl dX12_keep_171 ?_
            refine y_aload_n (x := p0) (pc2 := 173) rfl dX12_keep_172 rfl ?_
            obtain ⟨g647, hf⟩ := y_g hf
            refine y_getP (pc2 := 176) rfl dX12_keep_173 F_BoxYardModel_25 (by decide) rfl g647 ?_
            refine y_iload_n (pc2 := 177) rfl dX12_keep_176 rfl ?_
            obtain ⟨g646, hf⟩ := y_g hf
            refine y_zald (pc2 := 178) rfl dX12_keep_177 g646.1 (y_ix_in g646.2) ?_
            refine y_ifz_eq (tgt := 185) (pc2 := 181) rfl dX12_keep_178 (by decide) (fun c645 => ?_) (fun c645 => ?_)
            · replace hf := y_ie c645 hf
              refine y_iconst (v := 0) (pc2 := 186) rfl dX12_keep_185 (by decide) ?_
              obtain ⟨g641, hf⟩ := y_g hf
              obtain ⟨h639, e640, hf⟩ := y_bdE hf
              refine y_iast (x := 0) (pc2 := 187) rfl dX12_keep_186 g641.1 (y_ix_in g641.2) e640 ?_
              exact y_pk [1, 4, 0] rfl (hj187 _ _ _ _ hf)
            · replace hf := y_it c645 hf
              refine y_iconst (v := 1) (pc2 := 182) rfl dX12_keep_181 (by decide) ?_
              refine y_goto (tgt := 186) dX12_keep_182 (by decide) ?_
              obtain ⟨g644, hf⟩ := y_g hf
              obtain ⟨h642, e643, hf⟩ := y_bdE hf
              refine y_iast (x := 1) (pc2 := 187) rfl dX12_keep_186 g644.1 (y_ix_in g644.2) e643 ?_
              exact y_pk [1, 4, 0] rfl (hj187 _ _ _ _ hf)
theorem dX12_done_0 : decode cX12_done 0 = .ok (.aload_n 0, 1) := by decide +kernel
theorem dX12_done_1 : decode cX12_done 1 = .ok (.dup, 1) := by decide +kernel
theorem dX12_done_2 : decode cX12_done 2 = .ok (.getfield 342, 3) := by decide +kernel
theorem dX12_done_5 : decode cX12_done 5 = .ok (.iconst 1, 1) := by decide +kernel
theorem dX12_done_6 : decode cX12_done 6 = .ok (.iadd, 1) := by decide +kernel
theorem dX12_done_7 : decode cX12_done 7 = .ok (.putfield 342, 3) := by decide +kernel
theorem dX12_done_10 : decode cX12_done 10 = .ok (.aload_n 0, 1) := by decide +kernel
theorem dX12_done_11 : decode cX12_done 11 = .ok (.getfield 137, 3) := by decide +kernel
theorem dX12_done_14 : decode cX12_done 14 = .ok (.bipush 14, 2) := by decide +kernel
theorem dX12_done_16 : decode cX12_done 16 = .ok (.aload_n 0, 1) := by decide +kernel
theorem dX12_done_17 : decode cX12_done 17 = .ok (.getfield 255, 3) := by decide +kernel
theorem dX12_done_20 : decode cX12_done 20 = .ok (.imul, 1) := by decide +kernel
theorem dX12_done_21 : decode cX12_done 21 = .ok (.aload_n 0, 1) := by decide +kernel
theorem dX12_done_22 : decode cX12_done 22 = .ok (.getfield 342, 3) := by decide +kernel
theorem dX12_done_25 : decode cX12_done 25 = .ok (.iastore, 1) := by decide +kernel
theorem dX12_done_26 : decode cX12_done 26 = .ok (.aload_n 0, 1) := by decide +kernel
theorem dX12_done_27 : decode cX12_done 27 = .ok (.dup, 1) := by decide +kernel
theorem dX12_done_28 : decode cX12_done 28 = .ok (.getfield 255, 3) := by decide +kernel
theorem dX12_done_31 : decode cX12_done 31 = .ok (.iconst 1, 1) := by decide +kernel
theorem dX12_done_32 : decode cX12_done 32 = .ok (.iadd, 1) := by decide +kernel
theorem dX12_done_33 : decode cX12_done 33 = .ok (.putfield 255, 3) := by decide +kernel
theorem dX12_done_36 : decode cX12_done 36 = .ok (.aload_n 0, 1) := by decide +kernel
theorem dX12_done_37 : decode cX12_done 37 = .ok (.iconst 0, 1) := by decide +kernel
theorem dX12_done_38 : decode cX12_done 38 = .ok (.putfield 252, 3) := by decide +kernel
theorem dX12_done_41 : decode cX12_done 41 = .ok (.aload_n 0, 1) := by decide +kernel
theorem dX12_done_42 : decode cX12_done 42 = .ok (.getfield 342, 3) := by decide +kernel
theorem dX12_done_45 : decode cX12_done 45 = .ok (.ireturn, 1) := by decide +kernel
def M_X12_done : y_M := (yX12_done, cX12_done, 1, (Option.some Jvm.ClassFile.FieldType.int))
theorem n_X12_done : y_N0 M_X12_done 0 := ⟨(c_9 78 (by decide +kernel) rfl), (c_1 9 (by decide +kernel) rfl), ⟨by decide +kernel, by decide +kernel⟩, by decide +kernel⟩
theorem F_BoxYardModel_342 : y_F "BoxYardModel" 342 12 49 := ⟨_, _, _, rfl, by decide, Or.inl (c_7 171 (by decide +kernel) rfl)⟩
theorem Fp_BoxYardModel_342 {nm : String} : y_Fp "BoxYardModel" nm 342 12 49 := ⟨_, _, _, rfl, by decide, Or.inl ⟨rfl, Or.inl (c_7 171 (by decide +kernel) rfl)⟩⟩
set_option maxRecDepth 100000 in
def f_X12_done (p0 : Nat) (h : y_H) : Option (Int32 × y_H) :=
  if y_K h p0 = 13 then
  if y_K h p0 = 13 then
  y_bd (s_I h p0 49 ((y_I h p0 49) + 1)) (fun h1 =>
  if y_K h1 p0 = 13 then
  if y_K h1 p0 = 13 then
  if y_K h1 p0 = 13 then
  if y_K h1 (y_P h1 p0 51) = 100 ∧ y_ix (14 * (y_I h1 p0 50)) (y_N h1 (y_P h1 p0 51)) = true then
  y_bd (s_I h1 (y_P h1 p0 51) (Int32.toNatClampNeg (14 * (y_I h1 p0 50))) (y_I h1 p0 49)) (fun h4 =>
  if y_K h4 p0 = 13 then
  if y_K h4 p0 = 13 then
  y_bd (s_I h4 p0 50 ((y_I h4 p0 50) + 1)) (fun h7 =>
  if y_K h7 p0 = 13 then
  y_bd (s_I h7 p0 47 0) (fun h10 =>
  if y_K h10 p0 = 13 then
  some (y_I h10 p0 49, h10)
  else none)
  else none)
  else none
  else none)
  else none
  else none
  else none
  else none)
  else none
  else none
abbrev rm_X12_done : Room := { frames := 0, cells := 0, slots := 0, locals := 0 }
set_option maxRecDepth 100000 in
set_option maxHeartbeats 4000000 in
theorem k_X12_done {l : Launch} {G : y_G} {p0 : Nat} {h hz : y_H} {rz : Int32} (hf : f_X12_done p0 h = some (rz, hz)) : y_S l G M_X12_done rm_X12_done [y_p p0] h (some (.int rz)) hz := by
  refine y_start (lv := [(0, y_p p0)]) (by decide) (by simp [lg_sl, y_p_cat, y_ci, y_cj, M_X12_done]) (by simp [lv_args, y_p_cat, y_ci, y_cj]) (fun z ad0 => ?_)
  unfold f_X12_done at hf
  refine y_aload_n (x := p0) (pc2 := 1) rfl dX12_done_0 rfl ?_
  refine y_dup (pc2 := 2) rfl dX12_done_1 (y_p_cat _) ?_
  obtain ⟨g18, hf⟩ := y_g hf
  refine y_getI (pc2 := 5) rfl dX12_done_2 F_BoxYardModel_342 (by decide) rfl g18 ?_
  refine y_iconst (v := 1) (pc2 := 6) rfl dX12_done_5 (by decide) ?_
  refine y_iadd (pc2 := 7) rfl dX12_done_6 ?_
  obtain ⟨g3, hf⟩ := y_g hf
  obtain ⟨h1, e2, hf⟩ := y_bdE hf
  refine y_putI (x := (y_I h p0 49) + 1) (pc2 := 10) rfl dX12_done_7 Fp_BoxYardModel_342 (by decide) rfl g3 e2 ?_
  refine y_aload_n (x := p0) (pc2 := 11) rfl dX12_done_10 rfl ?_
  obtain ⟨g17, hf⟩ := y_g hf
  refine y_getP (pc2 := 14) rfl dX12_done_11 F_BoxYardModel_137 (by decide) rfl g17 ?_
  refine y_bipush (v := 14) (pc2 := 16) rfl dX12_done_14 (by decide) ?_
  refine y_aload_n (x := p0) (pc2 := 17) rfl dX12_done_16 rfl ?_
  obtain ⟨g16, hf⟩ := y_g hf
  refine y_getI (pc2 := 20) rfl dX12_done_17 F_BoxYardModel_255 (by decide) rfl g16 ?_
  refine y_imul (pc2 := 21) rfl dX12_done_20 ?_
  refine y_aload_n (x := p0) (pc2 := 22) rfl dX12_done_21 rfl ?_
  obtain ⟨g15, hf⟩ := y_g hf
  refine y_getI (pc2 := 25) rfl dX12_done_22 F_BoxYardModel_342 (by decide) rfl g15 ?_
  obtain ⟨g6, hf⟩ := y_g hf
  obtain ⟨h4, e5, hf⟩ := y_bdE hf
  refine y_iast (x := y_I h1 p0 49) (pc2 := 26) rfl dX12_done_25 g6.1 (y_ix_in g6.2) e5 ?_
  refine y_aload_n (x := p0) (pc2 := 27) rfl dX12_done_26 rfl ?_
  refine y_dup (pc2 := 28) rfl dX12_done_27 (y_p_cat _) ?_
  obtain ⟨g14, hf⟩ := y_g hf
  refine y_getI (pc2 := 31) rfl dX12_done_28 F_BoxYardModel_255 (by decide) rfl g14 ?_
  refine y_iconst (v := 1) (pc2 := 32) rfl dX12_done_31 (by decide) ?_
  refine y_iadd (pc2 := 33) rfl dX12_done_32 ?_
  obtain ⟨g9, hf⟩ := y_g hf
  obtain ⟨h7, e8, hf⟩ := y_bdE hf
  refine y_putI (x := (y_I h4 p0 50) + 1) (pc2 := 36) rfl dX12_done_33 Fp_BoxYardModel_255 (by decide) rfl g9 e8 ?_
  refine y_aload_n (x := p0) (pc2 := 37) rfl dX12_done_36 rfl ?_
  refine y_iconst (v := 0) (pc2 := 38) rfl dX12_done_37 (by decide) ?_
  obtain ⟨g12, hf⟩ := y_g hf
  obtain ⟨h10, e11, hf⟩ := y_bdE hf
  refine y_putI (x := 0) (pc2 := 41) rfl dX12_done_38 Fp_BoxYardModel_252 (by decide) rfl g12 e11 ?_
  refine y_aload_n (x := p0) (pc2 := 42) rfl dX12_done_41 rfl ?_
  obtain ⟨g13, hf⟩ := y_g hf
  refine y_getI (pc2 := 45) rfl dX12_done_42 F_BoxYardModel_342 (by decide) rfl g13 ?_
  exact y_iretF hf dX12_done_45 rfl (by decide) (by decide)
theorem dX12_refused_0 : decode cX12_refused 0 = .ok (.aload_n 0, 1) := by decide +kernel
theorem dX12_refused_1 : decode cX12_refused 1 = .ok (.iload_n 1, 1) := by decide +kernel
theorem dX12_refused_2 : decode cX12_refused 2 = .ok (.putfield 252, 3) := by decide +kernel
theorem dX12_refused_5 : decode cX12_refused 5 = .ok (.iload_n 1, 1) := by decide +kernel
theorem dX12_refused_6 : decode cX12_refused 6 = .ok (.ireturn, 1) := by decide +kernel
def M_X12_refused : y_M := (yX12_refused, cX12_refused, 2, (Option.some Jvm.ClassFile.FieldType.int))
theorem n_X12_refused : y_N0 M_X12_refused 1 := ⟨(c_9 58 (by decide +kernel) rfl), (c_1 9 (by decide +kernel) rfl), ⟨by decide +kernel, by decide +kernel⟩, by decide +kernel⟩
set_option maxRecDepth 100000 in
def f_X12_refused (p0 : Nat) (p1 : Int32) (h : y_H) : Option (Int32 × y_H) :=
  if y_K h p0 = 13 then
  y_bd (s_I h p0 47 p1) (fun h1 =>
  some (p1, h1))
  else none
abbrev rm_X12_refused : Room := { frames := 0, cells := 0, slots := 0, locals := 0 }
set_option maxRecDepth 100000 in
set_option maxHeartbeats 4000000 in
theorem k_X12_refused {l : Launch} {G : y_G} {p0 : Nat} {p1 : Int32} {h hz : y_H} {rz : Int32} (hf : f_X12_refused p0 p1 h = some (rz, hz)) : y_S l G M_X12_refused rm_X12_refused [y_p p0, .int p1] h (some (.int rz)) hz := by
  refine y_start (lv := [(0, y_p p0), (1, .int p1)]) (by decide) (by simp [lg_sl, y_p_cat, y_ci, y_cj, M_X12_refused]) (by simp [lv_args, y_p_cat, y_ci, y_cj]) (fun z ad0 => ?_)
  unfold f_X12_refused at hf
  refine y_aload_n (x := p0) (pc2 := 1) rfl dX12_refused_0 rfl ?_
  refine y_iload_n (pc2 := 2) rfl dX12_refused_1 rfl ?_
  obtain ⟨g3, hf⟩ := y_g hf
  obtain ⟨h1, e2, hf⟩ := y_bdE hf
  refine y_putI (x := p1) (pc2 := 5) rfl dX12_refused_2 Fp_BoxYardModel_252 (by decide) rfl g3 e2 ?_
  refine y_iload_n (pc2 := 6) rfl dX12_refused_5 rfl ?_
  exact y_iretF hf dX12_refused_6 rfl (by decide) (by decide)
theorem dX12_breaks_0 : decode cX12_breaks 0 = .ok (.aload_n 0, 1) := by decide +kernel
theorem dX12_breaks_1 : decode cX12_breaks 1 = .ok (.getfield 95, 3) := by decide +kernel
theorem dX12_breaks_4 : decode cX12_breaks 4 = .ok (.iload_n 1, 1) := by decide +kernel
theorem dX12_breaks_5 : decode cX12_breaks 5 = .ok (.dup2, 1) := by decide +kernel
theorem dX12_breaks_6 : decode cX12_breaks 6 = .ok (.iaload, 1) := by decide +kernel
theorem dX12_breaks_7 : decode cX12_breaks 7 = .ok (.iconst 1, 1) := by decide +kernel
theorem dX12_breaks_8 : decode cX12_breaks 8 = .ok (.iadd, 1) := by decide +kernel
theorem dX12_breaks_9 : decode cX12_breaks 9 = .ok (.iastore, 1) := by decide +kernel
theorem dX12_breaks_10 : decode cX12_breaks 10 = .ok (.aload_n 0, 1) := by decide +kernel
theorem dX12_breaks_11 : decode cX12_breaks 11 = .ok (.bipush (-40), 2) := by decide +kernel
theorem dX12_breaks_13 : decode cX12_breaks 13 = .ok (.iload_n 2, 1) := by decide +kernel
theorem dX12_breaks_14 : decode cX12_breaks 14 = .ok (.isub, 1) := by decide +kernel
theorem dX12_breaks_15 : decode cX12_breaks 15 = .ok (.putfield 252, 3) := by decide +kernel
theorem dX12_breaks_18 : decode cX12_breaks 18 = .ok (.aload_n 0, 1) := by decide +kernel
theorem dX12_breaks_19 : decode cX12_breaks 19 = .ok (.getfield 252, 3) := by decide +kernel
theorem dX12_breaks_22 : decode cX12_breaks 22 = .ok (.ireturn, 1) := by decide +kernel
def M_X12_breaks : y_M := (yX12_breaks, cX12_breaks, 3, (Option.some Jvm.ClassFile.FieldType.int))
theorem n_X12_breaks : y_N0 M_X12_breaks 2 := ⟨(c_9 66 (by decide +kernel) rfl), (c_1 9 (by decide +kernel) rfl), ⟨by decide +kernel, by decide +kernel⟩, by decide +kernel⟩
theorem F_BoxYardModel_252 : y_F "BoxYardModel" 252 12 47 := ⟨_, _, _, rfl, by decide, Or.inl (c_7 169 (by decide +kernel) rfl)⟩
set_option maxRecDepth 100000 in
def f_X12_breaks (p0 : Nat) (p1 : Int32) (p2 : Int32) (h : y_H) : Option (Int32 × y_H) :=
  if y_K h p0 = 13 then
  if y_K h (y_P h p0 31) = 100 ∧ y_ix p1 (y_N h (y_P h p0 31)) = true then
  if y_K h (y_P h p0 31) = 100 ∧ y_ix p1 (y_N h (y_P h p0 31)) = true then
  y_bd (s_I h (y_P h p0 31) (Int32.toNatClampNeg p1) ((y_I h (y_P h p0 31) (Int32.toNatClampNeg p1)) + 1)) (fun h1 =>
  if y_K h1 p0 = 13 then
  y_bd (s_I h1 p0 47 ((-40 : Int32) - p2)) (fun h4 =>
  if y_K h4 p0 = 13 then
  some (y_I h4 p0 47, h4)
  else none)
  else none)
  else none
  else none
  else none
abbrev rm_X12_breaks : Room := { frames := 0, cells := 0, slots := 0, locals := 0 }
set_option maxRecDepth 100000 in
set_option maxHeartbeats 4000000 in
theorem k_X12_breaks {l : Launch} {G : y_G} {p0 : Nat} {p1 : Int32} {p2 : Int32} {h hz : y_H} {rz : Int32} (hf : f_X12_breaks p0 p1 p2 h = some (rz, hz)) : y_S l G M_X12_breaks rm_X12_breaks [y_p p0, .int p1, .int p2] h (some (.int rz)) hz := by
  refine y_start (lv := [(0, y_p p0), (1, .int p1), (2, .int p2)]) (by decide) (by simp [lg_sl, y_p_cat, y_ci, y_cj, M_X12_breaks]) (by simp [lv_args, y_p_cat, y_ci, y_cj]) (fun z ad0 => ?_)
  unfold f_X12_breaks at hf
  refine y_aload_n (x := p0) (pc2 := 1) rfl dX12_breaks_0 rfl ?_
  obtain ⟨g9, hf⟩ := y_g hf
  refine y_getP (pc2 := 4) rfl dX12_breaks_1 F_BoxYardModel_95 (by decide) rfl g9 ?_
  refine y_iload_n (pc2 := 5) rfl dX12_breaks_4 rfl ?_
  refine y_dup2 (pc2 := 6) rfl dX12_breaks_5 rfl (y_p_cat _) ?_
  obtain ⟨g8, hf⟩ := y_g hf
  refine y_iald (pc2 := 7) rfl dX12_breaks_6 g8.1 (y_ix_in g8.2) ?_
  refine y_iconst (v := 1) (pc2 := 8) rfl dX12_breaks_7 (by decide) ?_
  refine y_iadd (pc2 := 9) rfl dX12_breaks_8 ?_
  obtain ⟨g3, hf⟩ := y_g hf
  obtain ⟨h1, e2, hf⟩ := y_bdE hf
  refine y_iast (x := (y_I h (y_P h p0 31) (Int32.toNatClampNeg p1)) + 1) (pc2 := 10) rfl dX12_breaks_9 g3.1 (y_ix_in g3.2) e2 ?_
  refine y_aload_n (x := p0) (pc2 := 11) rfl dX12_breaks_10 rfl ?_
  refine y_bipush (v := (-40 : Int32)) (pc2 := 13) rfl dX12_breaks_11 (by decide) ?_
  refine y_iload_n (pc2 := 14) rfl dX12_breaks_13 rfl ?_
  refine y_isub (pc2 := 15) rfl dX12_breaks_14 ?_
  obtain ⟨g6, hf⟩ := y_g hf
  obtain ⟨h4, e5, hf⟩ := y_bdE hf
  refine y_putI (x := (-40 : Int32) - p2) (pc2 := 18) rfl dX12_breaks_15 Fp_BoxYardModel_252 (by decide) rfl g6 e5 ?_
  refine y_aload_n (x := p0) (pc2 := 19) rfl dX12_breaks_18 rfl ?_
  obtain ⟨g7, hf⟩ := y_g hf
  refine y_getI (pc2 := 22) rfl dX12_breaks_19 F_BoxYardModel_252 (by decide) rfl g7 ?_
  exact y_iretF hf dX12_breaks_22 rfl (by decide) (by decide)
theorem dX12_meets_0 : decode cX12_meets 0 = .ok (.aload_n 0, 1) := by decide +kernel
theorem dX12_meets_1 : decode cX12_meets 1 = .ok (.getfield 95, 3) := by decide +kernel
theorem dX12_meets_4 : decode cX12_meets 4 = .ok (.iload_n 1, 1) := by decide +kernel
theorem dX12_meets_5 : decode cX12_meets 5 = .ok (.dup2, 1) := by decide +kernel
theorem dX12_meets_6 : decode cX12_meets 6 = .ok (.iaload, 1) := by decide +kernel
theorem dX12_meets_7 : decode cX12_meets 7 = .ok (.iconst 1, 1) := by decide +kernel
theorem dX12_meets_8 : decode cX12_meets 8 = .ok (.iadd, 1) := by decide +kernel
theorem dX12_meets_9 : decode cX12_meets 9 = .ok (.iastore, 1) := by decide +kernel
theorem dX12_meets_10 : decode cX12_meets 10 = .ok (.aload_n 0, 1) := by decide +kernel
theorem dX12_meets_11 : decode cX12_meets 11 = .ok (.aload_n 0, 1) := by decide +kernel
theorem dX12_meets_12 : decode cX12_meets 12 = .ok (.iload_n 2, 1) := by decide +kernel
theorem dX12_meets_13 : decode cX12_meets 13 = .ok (.invokevirtual 301, 3) := by decide +kernel
theorem dX12_meets_16 : decode cX12_meets 16 = .ok (.putfield 252, 3) := by decide +kernel
theorem dX12_meets_19 : decode cX12_meets 19 = .ok (.aload_n 0, 1) := by decide +kernel
theorem dX12_meets_20 : decode cX12_meets 20 = .ok (.getfield 252, 3) := by decide +kernel
theorem dX12_meets_23 : decode cX12_meets 23 = .ok (.ireturn, 1) := by decide +kernel
def M_X12_meets : y_M := (yX12_meets, cX12_meets, 3, (Option.some Jvm.ClassFile.FieldType.int))
theorem n_X12_meets : y_N0 M_X12_meets 2 := ⟨(c_9 94 (by decide +kernel) rfl), (c_1 9 (by decide +kernel) rfl), ⟨by decide +kernel, by decide +kernel⟩, by decide +kernel⟩
set_option maxRecDepth 100000 in
def f_X12_meets (p0 : Nat) (p1 : Int32) (p2 : Int32) (h : y_H) : Option (Int32 × y_H) :=
  if y_K h p0 = 13 then
  if y_K h (y_P h p0 31) = 100 ∧ y_ix p1 (y_N h (y_P h p0 31)) = true then
  if y_K h (y_P h p0 31) = 100 ∧ y_ix p1 (y_N h (y_P h p0 31)) = true then
  y_bd (s_I h (y_P h p0 31) (Int32.toNatClampNeg p1) ((y_I h (y_P h p0 31) (Int32.toNatClampNeg p1)) + 1)) (fun h1 =>
  if y_K h1 p0 = 13 then
  y_cl (f_X12_finds p0 p2 h1) (fun r4 h5 =>
  if y_K h5 p0 = 13 then
  y_bd (s_I h5 p0 47 r4) (fun h7 =>
  if y_K h7 p0 = 13 then
  some (y_I h7 p0 47, h7)
  else none)
  else none)
  else none)
  else none
  else none
  else none
abbrev rm_X12_meets : Room := { frames := 1, cells := 0, slots := 0, locals := 21 }
set_option maxRecDepth 100000 in
set_option maxHeartbeats 4000000 in
theorem k_X12_meets {l : Launch} {G : y_G} {p0 : Nat} {p1 : Int32} {p2 : Int32} {h hz : y_H} {rz : Int32} (hf : f_X12_meets p0 p1 p2 h = some (rz, hz)) : y_S l G M_X12_meets rm_X12_meets [y_p p0, .int p1, .int p2] h (some (.int rz)) hz := by
  refine y_start (lv := [(0, y_p p0), (1, .int p1), (2, .int p2)]) (by decide) (by simp [lg_sl, y_p_cat, y_ci, y_cj, M_X12_meets]) (by simp [lv_args, y_p_cat, y_ci, y_cj]) (fun z ad0 => ?_)
  unfold f_X12_meets at hf
  refine y_aload_n (x := p0) (pc2 := 1) rfl dX12_meets_0 rfl ?_
  obtain ⟨g13, hf⟩ := y_g hf
  refine y_getP (pc2 := 4) rfl dX12_meets_1 F_BoxYardModel_95 (by decide) rfl g13 ?_
  refine y_iload_n (pc2 := 5) rfl dX12_meets_4 rfl ?_
  refine y_dup2 (pc2 := 6) rfl dX12_meets_5 rfl (y_p_cat _) ?_
  obtain ⟨g12, hf⟩ := y_g hf
  refine y_iald (pc2 := 7) rfl dX12_meets_6 g12.1 (y_ix_in g12.2) ?_
  refine y_iconst (v := 1) (pc2 := 8) rfl dX12_meets_7 (by decide) ?_
  refine y_iadd (pc2 := 9) rfl dX12_meets_8 ?_
  obtain ⟨g3, hf⟩ := y_g hf
  obtain ⟨h1, e2, hf⟩ := y_bdE hf
  refine y_iast (x := (y_I h (y_P h p0 31) (Int32.toNatClampNeg p1)) + 1) (pc2 := 10) rfl dX12_meets_9 g3.1 (y_ix_in g3.2) e2 ?_
  refine y_aload_n (x := p0) (pc2 := 11) rfl dX12_meets_10 rfl ?_
  refine y_aload_n (x := p0) (pc2 := 12) rfl dX12_meets_11 rfl ?_
  refine y_iload_n (pc2 := 13) rfl dX12_meets_12 rfl ?_
  obtain ⟨g11, hf⟩ := y_g hf
  obtain ⟨r4, h5, c6, hf⟩ := y_clE hf
  refine y_callV (As := [.int p2]) (rm := rm_X12_finds) (cells := 0) (slots := 0) (pc2 := 16) rfl dX12_meets_13 n_X12_finds l_BoxYardModel_301 i_X12_finds e_X12_finds (ci := 12) rfl rfl (by decide) g11 rfl rfl (by decide) (by simp [y_ci, y_cj, y_p_cat]) (by decide) (k_X12_finds c6) ?_
  obtain ⟨g9, hf⟩ := y_g hf
  obtain ⟨h7, e8, hf⟩ := y_bdE hf
  refine y_putI (x := r4) (pc2 := 19) rfl dX12_meets_16 Fp_BoxYardModel_252 (by decide) rfl g9 e8 ?_
  refine y_aload_n (x := p0) (pc2 := 20) rfl dX12_meets_19 rfl ?_
  obtain ⟨g10, hf⟩ := y_g hf
  refine y_getI (pc2 := 23) rfl dX12_meets_20 F_BoxYardModel_252 (by decide) rfl g10 ?_
  exact y_iretF hf dX12_meets_23 rfl (by decide) (by decide)
theorem dX12_isWindy_0 : decode cX12_isWindy 0 = .ok (.aload_n 0, 1) := by decide +kernel
theorem dX12_isWindy_1 : decode cX12_isWindy 1 = .ok (.getfield 243, 3) := by decide +kernel
theorem dX12_isWindy_4 : decode cX12_isWindy 4 = .ok (.aload_n 0, 1) := by decide +kernel
theorem dX12_isWindy_5 : decode cX12_isWindy 5 = .ok (.iload_n 1, 1) := by decide +kernel
theorem dX12_isWindy_6 : decode cX12_isWindy 6 = .ok (.invokevirtual 335, 3) := by decide +kernel
theorem dX12_isWindy_9 : decode cX12_isWindy 9 = .ok (.if_icmp .le 7, 3) := by decide +kernel
theorem dX12_isWindy_12 : decode cX12_isWindy 12 = .ok (.iconst 1, 1) := by decide +kernel
theorem dX12_isWindy_13 : decode cX12_isWindy 13 = .ok (.goto 4, 3) := by decide +kernel
theorem dX12_isWindy_16 : decode cX12_isWindy 16 = .ok (.iconst 0, 1) := by decide +kernel
theorem dX12_isWindy_17 : decode cX12_isWindy 17 = .ok (.ireturn, 1) := by decide +kernel
def M_X12_isWindy : y_M := (yX12_isWindy, cX12_isWindy, 2, (Option.some Jvm.ClassFile.FieldType.boolean))
theorem n_X12_isWindy : y_N0 M_X12_isWindy 1 := ⟨(c_9 62 (by decide +kernel) rfl), (c_1 9 (by decide +kernel) rfl), ⟨by decide +kernel, by decide +kernel⟩, by decide +kernel⟩
set_option maxRecDepth 100000 in
def f_X12_isWindy (p0 : Nat) (p1 : Int32) (h : y_H) : Option (Bool × y_H) :=
  if y_K h p0 = 13 then
  if y_K h p0 = 13 then
  y_cl (f_X12_stop p0 p1 h) (fun r1 h2 =>
  if (y_I h p0 33) ≤ r1 then
    some (false, h2)
  else
    some (true, h2))
  else none
  else none
abbrev rm_X12_isWindy : Room := { frames := 2, cells := 0, slots := 0, locals := 43 }
set_option maxRecDepth 100000 in
set_option maxHeartbeats 4000000 in
theorem k_X12_isWindy {l : Launch} {G : y_G} {p0 : Nat} {p1 : Int32} {h hz : y_H} {rz : Bool} (hf : f_X12_isWindy p0 p1 h = some (rz, hz)) : y_S l G M_X12_isWindy rm_X12_isWindy [y_p p0, .int p1] h (some (.int (y_z rz))) hz := by
  refine y_start (lv := [(0, y_p p0), (1, .int p1)]) (by decide) (by simp [lg_sl, y_p_cat, y_ci, y_cj, M_X12_isWindy]) (by simp [lv_args, y_p_cat, y_ci, y_cj]) (fun z ad0 => ?_)
  unfold f_X12_isWindy at hf
  refine y_aload_n (x := p0) (pc2 := 1) rfl dX12_isWindy_0 rfl ?_
  obtain ⟨g6, hf⟩ := y_g hf
  refine y_getI (pc2 := 4) rfl dX12_isWindy_1 F_BoxYardModel_243 (by decide) rfl g6 ?_
  refine y_aload_n (x := p0) (pc2 := 5) rfl dX12_isWindy_4 rfl ?_
  refine y_iload_n (pc2 := 6) rfl dX12_isWindy_5 rfl ?_
  obtain ⟨g5, hf⟩ := y_g hf
  obtain ⟨r1, h2, c3, hf⟩ := y_clE hf
  refine y_callV (As := [.int p1]) (rm := rm_X12_stop) (cells := 0) (slots := 0) (pc2 := 9) rfl dX12_isWindy_6 n_X12_stop l_BoxYardModel_335 i_X12_stop e_X12_stop (ci := 12) rfl rfl (by decide) g5 rfl rfl (by decide) (by simp [y_ci, y_cj, y_p_cat]) (by decide) (k_X12_stop c3) ?_
  refine y_icmp_le (tgt := 16) (pc2 := 12) rfl dX12_isWindy_9 (by decide) (fun c4 => ?_) (fun c4 => ?_)
  · replace hf := y_it c4 hf
    refine y_iconst (v := 0) (pc2 := 17) rfl dX12_isWindy_16 (by decide) ?_
    exact y_zretF (x := false) hf dX12_isWindy_17 rfl (by decide) (by decide)
  · replace hf := y_ie c4 hf
    refine y_iconst (v := 1) (pc2 := 13) rfl dX12_isWindy_12 (by decide) ?_
    refine y_goto (tgt := 17) dX12_isWindy_13 (by decide) ?_
    exact y_zretF (x := true) hf dX12_isWindy_17 rfl (by decide) (by decide)
theorem dX12_go_0 : decode cX12_go 0 = .ok (.aload_n 0, 1) := by decide +kernel
theorem dX12_go_1 : decode cX12_go 1 = .ok (.iconst 0, 1) := by decide +kernel
theorem dX12_go_2 : decode cX12_go 2 = .ok (.putfield 249, 3) := by decide +kernel
theorem dX12_go_5 : decode cX12_go 5 = .ok (.aload_n 0, 1) := by decide +kernel
theorem dX12_go_6 : decode cX12_go 6 = .ok (.iload_n 1, 1) := by decide +kernel
theorem dX12_go_7 : decode cX12_go 7 = .ok (.invokevirtual 329, 3) := by decide +kernel
theorem dX12_go_10 : decode cX12_go 10 = .ok (.ifCond .ne 9, 3) := by decide +kernel
theorem dX12_go_13 : decode cX12_go 13 = .ok (.aload_n 0, 1) := by decide +kernel
theorem dX12_go_14 : decode cX12_go 14 = .ok (.iconst (-1), 1) := by decide +kernel
theorem dX12_go_15 : decode cX12_go 15 = .ok (.invokevirtual 345, 3) := by decide +kernel
theorem dX12_go_18 : decode cX12_go 18 = .ok (.ireturn, 1) := by decide +kernel
theorem dX12_go_19 : decode cX12_go 19 = .ok (.iload_n 2, 1) := by decide +kernel
theorem dX12_go_20 : decode cX12_go 20 = .ok (.iconst 0, 1) := by decide +kernel
theorem dX12_go_21 : decode cX12_go 21 = .ok (.bipush 9, 2) := by decide +kernel
theorem dX12_go_23 : decode cX12_go 23 = .ok (.invokestatic 278, 3) := by decide +kernel
theorem dX12_go_26 : decode cX12_go 26 = .ok (.ifCond .ne 10, 3) := by decide +kernel
theorem dX12_go_29 : decode cX12_go 29 = .ok (.aload_n 0, 1) := by decide +kernel
theorem dX12_go_30 : decode cX12_go 30 = .ok (.bipush (-2), 2) := by decide +kernel
theorem dX12_go_32 : decode cX12_go 32 = .ok (.invokevirtual 345, 3) := by decide +kernel
theorem dX12_go_35 : decode cX12_go 35 = .ok (.ireturn, 1) := by decide +kernel
theorem dX12_go_36 : decode cX12_go 36 = .ok (.aload_n 0, 1) := by decide +kernel
theorem dX12_go_37 : decode cX12_go 37 = .ok (.iload_n 1, 1) := by decide +kernel
theorem dX12_go_38 : decode cX12_go 38 = .ok (.invokevirtual 348, 3) := by decide +kernel
theorem dX12_go_41 : decode cX12_go 41 = .ok (.ifCond .eq 11, 3) := by decide +kernel
theorem dX12_go_44 : decode cX12_go 44 = .ok (.aload_n 0, 1) := by decide +kernel
theorem dX12_go_45 : decode cX12_go 45 = .ok (.iload_n 1, 1) := by decide +kernel
theorem dX12_go_46 : decode cX12_go 46 = .ok (.bipush 6, 2) := by decide +kernel
theorem dX12_go_48 : decode cX12_go 48 = .ok (.invokevirtual 351, 3) := by decide +kernel
theorem dX12_go_51 : decode cX12_go 51 = .ok (.ireturn, 1) := by decide +kernel
theorem dX12_go_52 : decode cX12_go 52 = .ok (.aload_n 0, 1) := by decide +kernel
theorem dX12_go_53 : decode cX12_go 53 = .ok (.getfield 86, 3) := by decide +kernel
theorem dX12_go_56 : decode cX12_go 56 = .ok (.iload_n 1, 1) := by decide +kernel
theorem dX12_go_57 : decode cX12_go 57 = .ok (.iaload, 1) := by decide +kernel
theorem dX12_go_58 : decode cX12_go 58 = .ok (.istore_n 3, 1) := by decide +kernel
theorem dX12_go_59 : decode cX12_go 59 = .ok (.aload_n 0, 1) := by decide +kernel
theorem dX12_go_60 : decode cX12_go 60 = .ok (.getfield 86, 3) := by decide +kernel
theorem dX12_go_63 : decode cX12_go 63 = .ok (.iload_n 1, 1) := by decide +kernel
theorem dX12_go_64 : decode cX12_go 64 = .ok (.iload_n 2, 1) := by decide +kernel
theorem dX12_go_65 : decode cX12_go 65 = .ok (.iastore, 1) := by decide +kernel
theorem dX12_go_66 : decode cX12_go 66 = .ok (.aload_n 0, 1) := by decide +kernel
theorem dX12_go_67 : decode cX12_go 67 = .ok (.getfield 83, 3) := by decide +kernel
theorem dX12_go_70 : decode cX12_go 70 = .ok (.iload_n 1, 1) := by decide +kernel
theorem dX12_go_71 : decode cX12_go 71 = .ok (.iaload, 1) := by decide +kernel
theorem dX12_go_72 : decode cX12_go 72 = .ok (.bipush (-9), 2) := by decide +kernel
theorem dX12_go_74 : decode cX12_go 74 = .ok (.if_icmp .eq 16, 3) := by decide +kernel
theorem dX12_go_77 : decode cX12_go 77 = .ok (.aload_n 0, 1) := by decide +kernel
theorem dX12_go_78 : decode cX12_go 78 = .ok (.aload_n 0, 1) := by decide +kernel
theorem dX12_go_79 : decode cX12_go 79 = .ok (.getfield 83, 3) := by decide +kernel
theorem dX12_go_82 : decode cX12_go 82 = .ok (.iload_n 1, 1) := by decide +kernel
theorem dX12_go_83 : decode cX12_go 83 = .ok (.iaload, 1) := by decide +kernel
theorem dX12_go_84 : decode cX12_go 84 = .ok (.invokevirtual 326, 3) := by decide +kernel
theorem dX12_go_87 : decode cX12_go 87 = .ok (.ifCond .eq 7, 3) := by decide +kernel
theorem dX12_go_90 : decode cX12_go 90 = .ok (.iconst 1, 1) := by decide +kernel
theorem dX12_go_91 : decode cX12_go 91 = .ok (.goto 4, 3) := by decide +kernel
theorem dX12_go_94 : decode cX12_go 94 = .ok (.iconst 0, 1) := by decide +kernel
theorem dX12_go_95 : decode cX12_go 95 = .ok (.istore 4, 2) := by decide +kernel
theorem dX12_go_97 : decode cX12_go 97 = .ok (.aload_n 0, 1) := by decide +kernel
theorem dX12_go_98 : decode cX12_go 98 = .ok (.getfield 86, 3) := by decide +kernel
theorem dX12_go_101 : decode cX12_go 101 = .ok (.iload_n 1, 1) := by decide +kernel
theorem dX12_go_102 : decode cX12_go 102 = .ok (.iload_n 3, 1) := by decide +kernel
theorem dX12_go_103 : decode cX12_go 103 = .ok (.iastore, 1) := by decide +kernel
theorem dX12_go_104 : decode cX12_go 104 = .ok (.iload 4, 2) := by decide +kernel
theorem dX12_go_106 : decode cX12_go 106 = .ok (.ifCond .ne 11, 3) := by decide +kernel
theorem dX12_go_109 : decode cX12_go 109 = .ok (.aload_n 0, 1) := by decide +kernel
theorem dX12_go_110 : decode cX12_go 110 = .ok (.iload_n 1, 1) := by decide +kernel
theorem dX12_go_111 : decode cX12_go 111 = .ok (.bipush 7, 2) := by decide +kernel
theorem dX12_go_113 : decode cX12_go 113 = .ok (.invokevirtual 351, 3) := by decide +kernel
theorem dX12_go_116 : decode cX12_go 116 = .ok (.ireturn, 1) := by decide +kernel
theorem dX12_go_117 : decode cX12_go 117 = .ok (.aload_n 0, 1) := by decide +kernel
theorem dX12_go_118 : decode cX12_go 118 = .ok (.iload_n 1, 1) := by decide +kernel
theorem dX12_go_119 : decode cX12_go 119 = .ok (.bipush (-9), 2) := by decide +kernel
theorem dX12_go_121 : decode cX12_go 121 = .ok (.bipush (-9), 2) := by decide +kernel
theorem dX12_go_123 : decode cX12_go 123 = .ok (.invokevirtual 355, 3) := by decide +kernel
theorem dX12_go_126 : decode cX12_go 126 = .ok (.aload_n 0, 1) := by decide +kernel
theorem dX12_go_127 : decode cX12_go 127 = .ok (.getfield 86, 3) := by decide +kernel
theorem dX12_go_130 : decode cX12_go 130 = .ok (.iload_n 1, 1) := by decide +kernel
theorem dX12_go_131 : decode cX12_go 131 = .ok (.iload_n 2, 1) := by decide +kernel
theorem dX12_go_132 : decode cX12_go 132 = .ok (.iastore, 1) := by decide +kernel
theorem dX12_go_133 : decode cX12_go 133 = .ok (.aload_n 0, 1) := by decide +kernel
theorem dX12_go_134 : decode cX12_go 134 = .ok (.invokevirtual 359, 3) := by decide +kernel
theorem dX12_go_137 : decode cX12_go 137 = .ok (.ireturn, 1) := by decide +kernel
def M_X12_go : y_M := (yX12_go, cX12_go, 5, (Option.some Jvm.ClassFile.FieldType.int))
theorem n_X12_go : y_N0 M_X12_go 2 := ⟨(c_9 54 (by decide +kernel) rfl), (c_1 9 (by decide +kernel) rfl), ⟨by decide +kernel, by decide +kernel⟩, by decide +kernel⟩
theorem l_BoxYardModel_348 : y_lnk "BoxYardModel" 348 M_X12_isWindy := Or.inl (c_9 59 (by decide +kernel) rfl)
theorem i_X12_isWindy : Cond.instanceMethod (M_X12_isWindy).1 ∈ y_tb := (c_9 61 (by decide +kernel) rfl)
theorem e_X12_isWindy : Cond.selects (M_X12_isWindy).1.cls (M_X12_isWindy).1 (M_X12_isWindy).1 ∈ y_tb := (m_s 75 (by decide +kernel) rfl)
theorem l_BoxYardModel_355 : y_lnk "BoxYardModel" 355 M_X12_keep := Or.inl (c_9 67 (by decide +kernel) rfl)
theorem i_X12_keep : Cond.instanceMethod (M_X12_keep).1 ∈ y_tb := (c_9 69 (by decide +kernel) rfl)
theorem e_X12_keep : Cond.selects (M_X12_keep).1.cls (M_X12_keep).1 (M_X12_keep).1 ∈ y_tb := (m_s 77 (by decide +kernel) rfl)
theorem l_BoxYardModel_359 : y_lnk "BoxYardModel" 359 M_X12_done := Or.inl (c_9 75 (by decide +kernel) rfl)
theorem i_X12_done : Cond.instanceMethod (M_X12_done).1 ∈ y_tb := (c_9 77 (by decide +kernel) rfl)
theorem e_X12_done : Cond.selects (M_X12_done).1.cls (M_X12_done).1 (M_X12_done).1 ∈ y_tb := (m_s 79 (by decide +kernel) rfl)
theorem l_BoxYardModel_351 : y_lnk "BoxYardModel" 351 M_X12_breaks := Or.inl (c_9 63 (by decide +kernel) rfl)
theorem i_X12_breaks : Cond.instanceMethod (M_X12_breaks).1 ∈ y_tb := (c_9 65 (by decide +kernel) rfl)
theorem e_X12_breaks : Cond.selects (M_X12_breaks).1.cls (M_X12_breaks).1 (M_X12_breaks).1 ∈ y_tb := (m_s 76 (by decide +kernel) rfl)
theorem l_BoxYardModel_345 : y_lnk "BoxYardModel" 345 M_X12_refused := Or.inl (c_9 55 (by decide +kernel) rfl)
theorem i_X12_refused : Cond.instanceMethod (M_X12_refused).1 ∈ y_tb := (c_9 57 (by decide +kernel) rfl)
theorem e_X12_refused : Cond.selects (M_X12_refused).1.cls (M_X12_refused).1 (M_X12_refused).1 ∈ y_tb := (m_s 74 (by decide +kernel) rfl)
set_option maxRecDepth 100000 in
def f_X12_go (p0 : Nat) (p1 : Int32) (p2 : Int32) (h : y_H) : Option (Int32 × y_H) :=
  if y_K h p0 = 13 then
  y_bd (s_I h p0 46 0) (fun h1 =>
  if y_K h1 p0 = 13 then
  y_cl (f_X12_isCrane p0 p1 h1) (fun r4 h5 =>
  if r4 = true then
    y_cl (f_X12_in p2 0 9 h5) (fun r7 h8 =>
    if r7 = true then
      if y_K h8 p0 = 13 then
      y_cl (f_X12_isWindy p0 p1 h8) (fun r10 h11 =>
      if r10 = true then
        if y_K h11 p0 = 13 then
        y_cl (f_X12_breaks p0 p1 6 h11) (fun r70 h71 =>
        some (r70, h71))
        else none
      else
        if y_K h11 p0 = 13 then
        if y_K h11 (y_P h11 p0 28) = 100 ∧ y_ix p1 (y_N h11 (y_P h11 p0 28)) = true then
        if y_K h11 p0 = 13 then
        if y_K h11 (y_P h11 p0 28) = 100 ∧ y_ix p1 (y_N h11 (y_P h11 p0 28)) = true then
        y_bd (s_I h11 (y_P h11 p0 28) (Int32.toNatClampNeg p1) p2) (fun h13 =>
        if y_K h13 p0 = 13 then
        if y_K h13 (y_P h13 p0 27) = 100 ∧ y_ix p1 (y_N h13 (y_P h13 p0 27)) = true then
        y_jn (fun (v0_90 : Nat) (v1_90 : Int32) (v2_90 : Int32) (v3_90 : Int32) (h16 : y_H) => (
            if y_K h16 v0_90 = 13 then
            if y_K h16 (y_P h16 v0_90 28) = 100 ∧ y_ix v1_90 (y_N h16 (y_P h16 v0_90 28)) = true then
            y_bd (s_I h16 (y_P h16 v0_90 28) (Int32.toNatClampNeg v1_90) v3_90) (fun h17 =>
            if (1 : Int32) = 0 then
              if y_K h17 v0_90 = 13 then
              y_cl (f_X12_breaks v0_90 v1_90 7 h17) (fun r31 h32 =>
              some (r31, h32))
              else none
            else
              if y_K h17 v0_90 = 13 then
              y_cl (f_X12_keep v0_90 v1_90 (-9 : Int32) (-9 : Int32) h17) (fun _ h20 =>
              if y_K h20 v0_90 = 13 then
              if y_K h20 (y_P h20 v0_90 28) = 100 ∧ y_ix v1_90 (y_N h20 (y_P h20 v0_90 28)) = true then
              y_bd (s_I h20 (y_P h20 v0_90 28) (Int32.toNatClampNeg v1_90) v2_90) (fun h22 =>
              if y_K h22 v0_90 = 13 then
              y_cl (f_X12_done v0_90 h22) (fun r25 h26 =>
              some (r25, h26))
              else none)
              else none
              else none)
              else none)
            else none
            else none : Option (Int32 × y_H))) (fun j90 =>
        if (y_I h13 (y_P h13 p0 27) (Int32.toNatClampNeg p1)) = (-9 : Int32) then
          j90 p0 p1 p2 (y_I h11 (y_P h11 p0 28) (Int32.toNatClampNeg p1)) h13
        else
          if y_K h13 p0 = 13 then
          if y_K h13 (y_P h13 p0 27) = 100 ∧ y_ix p1 (y_N h13 (y_P h13 p0 27)) = true then
          if y_K h13 p0 = 13 then
          y_cl (f_X12_isWell p0 (y_I h13 (y_P h13 p0 27) (Int32.toNatClampNeg p1)) h13) (fun r37 h38 =>
          if r37 = true then
            j90 p0 p1 p2 (y_I h11 (y_P h11 p0 28) (Int32.toNatClampNeg p1)) h38
          else
            if y_K h38 p0 = 13 then
            if y_K h38 (y_P h38 p0 28) = 100 ∧ y_ix p1 (y_N h38 (y_P h38 p0 28)) = true then
            y_bd (s_I h38 (y_P h38 p0 28) (Int32.toNatClampNeg p1) (y_I h11 (y_P h11 p0 28) (Int32.toNatClampNeg p1))) (fun h40 =>
            if (0 : Int32) = 0 then
              if y_K h40 p0 = 13 then
              y_cl (f_X12_breaks p0 p1 7 h40) (fun r54 h55 =>
              some (r54, h55))
              else none
            else
              if y_K h40 p0 = 13 then
              y_cl (f_X12_keep p0 p1 (-9 : Int32) (-9 : Int32) h40) (fun _ h43 =>
              if y_K h43 p0 = 13 then
              if y_K h43 (y_P h43 p0 28) = 100 ∧ y_ix p1 (y_N h43 (y_P h43 p0 28)) = true then
              y_bd (s_I h43 (y_P h43 p0 28) (Int32.toNatClampNeg p1) p2) (fun h45 =>
              if y_K h45 p0 = 13 then
              y_cl (f_X12_done p0 h45) (fun r48 h49 =>
              some (r48, h49))
              else none)
              else none
              else none)
              else none)
            else none
            else none)
          else none
          else none
          else none)
        else none
        else none)
        else none
        else none
        else none
        else none)
      else none
    else
      if y_K h8 p0 = 13 then
      y_cl (f_X12_refused p0 (-2 : Int32) h8) (fun r76 h77 =>
      some (r76, h77))
      else none)
  else
    if y_K h5 p0 = 13 then
    y_cl (f_X12_refused p0 (-1 : Int32) h5) (fun r81 h82 =>
    some (r81, h82))
    else none)
  else none)
  else none
abbrev rm_X12_go : Room := { frames := 3, cells := 0, slots := 0, locals := 64 }
set_option maxRecDepth 100000 in
set_option maxHeartbeats 4000000 in
theorem k_X12_go {l : Launch} {G : y_G} {p0 : Nat} {p1 : Int32} {p2 : Int32} {h hz : y_H} {rz : Int32} (hf : f_X12_go p0 p1 p2 h = some (rz, hz)) : y_S l G M_X12_go rm_X12_go [y_p p0, .int p1, .int p2] h (some (.int rz)) hz := by
  refine y_start (lv := [(0, y_p p0), (1, .int p1), (2, .int p2)]) (by decide) (by simp [lg_sl, y_p_cat, y_ci, y_cj, M_X12_go]) (by simp [lv_args, y_p_cat, y_ci, y_cj]) (fun z ad0 => ?_)
  unfold f_X12_go at hf
  refine y_aload_n (x := p0) (pc2 := 1) rfl dX12_go_0 rfl ?_
  refine y_iconst (v := 0) (pc2 := 2) rfl dX12_go_1 (by decide) ?_
  obtain ⟨g3, hf⟩ := y_g hf
  obtain ⟨h1, e2, hf⟩ := y_bdE hf
  refine y_putI (x := 0) (pc2 := 5) rfl dX12_go_2 Fp_BoxYardModel_249 (by decide) rfl g3 e2 ?_
  refine y_aload_n (x := p0) (pc2 := 6) rfl dX12_go_5 rfl ?_
  refine y_iload_n (pc2 := 7) rfl dX12_go_6 rfl ?_
  obtain ⟨g86, hf⟩ := y_g hf
  obtain ⟨r4, h5, c6, hf⟩ := y_clE hf
  refine y_callV (As := [.int p1]) (rm := rm_X12_isCrane) (cells := 0) (slots := 0) (pc2 := 10) rfl dX12_go_7 n_X12_isCrane l_BoxYardModel_329 i_X12_isCrane e_X12_isCrane (ci := 12) rfl rfl (by decide) g86 rfl rfl (by decide) (by decide) (by decide) (k_X12_isCrane c6) ?_
  refine y_ifz_ne (tgt := 19) (pc2 := 13) rfl dX12_go_10 (by decide) (fun c85 => ?_) (fun c85 => ?_)
  · replace hf := y_it c85 hf
    refine y_iload_n (pc2 := 20) rfl dX12_go_19 rfl ?_
    refine y_iconst (v := 0) (pc2 := 21) rfl dX12_go_20 (by decide) ?_
    refine y_bipush (v := 9) (pc2 := 23) rfl dX12_go_21 (by decide) ?_
    obtain ⟨r7, h8, c9, hf⟩ := y_clE hf
    refine y_callS (As := [.int p2, .int 0, .int 9]) (rm := rm_X12_in) (cells := 0) (slots := 0) (pc2 := 26) rfl dX12_go_23 n_X12_in l_BoxYardModel_278 t_X12_in rfl rfl (by decide) (by decide) (by decide) (k_X12_in c9) ?_
    refine y_ifz_ne (tgt := 36) (pc2 := 29) rfl dX12_go_26 (by decide) (fun c80 => ?_) (fun c80 => ?_)
    · replace hf := y_it c80 hf
      refine y_aload_n (x := p0) (pc2 := 37) rfl dX12_go_36 rfl ?_
      refine y_iload_n (pc2 := 38) rfl dX12_go_37 rfl ?_
      obtain ⟨g75, hf⟩ := y_g hf
      obtain ⟨r10, h11, c12, hf⟩ := y_clE hf
      refine y_callV (As := [.int p1]) (rm := rm_X12_isWindy) (cells := 0) (slots := 0) (pc2 := 41) rfl dX12_go_38 n_X12_isWindy l_BoxYardModel_348 i_X12_isWindy e_X12_isWindy (ci := 12) rfl rfl (by decide) g75 rfl rfl (by decide) (by decide) (by decide) (k_X12_isWindy c12) ?_
      refine y_ifz_eq (tgt := 52) (pc2 := 44) rfl dX12_go_41 (by decide) (fun c74 => ?_) (fun c74 => ?_)
      · replace hf := y_ie c74 hf
        refine y_aload_n (x := p0) (pc2 := 53) rfl dX12_go_52 rfl ?_
        obtain ⟨g69, hf⟩ := y_g hf
        refine y_getP (pc2 := 56) rfl dX12_go_53 F_BoxYardModel_86 (by decide) rfl g69 ?_
        refine y_iload_n (pc2 := 57) rfl dX12_go_56 rfl ?_
        obtain ⟨g68, hf⟩ := y_g hf
        refine y_iald (pc2 := 58) rfl dX12_go_57 g68.1 (y_ix_in g68.2) ?_
        refine y_istore_n (lv' := [(3, .int (y_I h11 (y_P h11 p0 28) (Int32.toNatClampNeg p1))), (0, y_p p0), (1, .int p1), (2, .int p2)]) (pc2 := 59) rfl dX12_go_58 (by decide) rfl ?_
        refine y_aload_n (x := p0) (pc2 := 60) rfl dX12_go_59 rfl ?_
        obtain ⟨g67, hf⟩ := y_g hf
        refine y_getP (pc2 := 63) rfl dX12_go_60 F_BoxYardModel_86 (by decide) rfl g67 ?_
        refine y_iload_n (pc2 := 64) rfl dX12_go_63 rfl ?_
        refine y_iload_n (pc2 := 65) rfl dX12_go_64 rfl ?_
        obtain ⟨g15, hf⟩ := y_g hf
        obtain ⟨h13, e14, hf⟩ := y_bdE hf
        refine y_iast (x := p2) (pc2 := 66) rfl dX12_go_65 g15.1 (y_ix_in g15.2) e14 ?_
        refine y_aload_n (x := p0) (pc2 := 67) rfl dX12_go_66 rfl ?_
        obtain ⟨g66, hf⟩ := y_g hf
        refine y_getP (pc2 := 70) rfl dX12_go_67 F_BoxYardModel_83 (by decide) rfl g66 ?_
        refine y_iload_n (pc2 := 71) rfl dX12_go_70 rfl ?_
        obtain ⟨g65, hf⟩ := y_g hf
        refine y_iald (pc2 := 72) rfl dX12_go_71 g65.1 (y_ix_in g65.2) ?_
        refine y_bipush (v := (-9 : Int32)) (pc2 := 74) rfl dX12_go_72 (by decide) ?_
        refine y_jnE hf (fun j => ∀ (v0_90 : Nat) (v1_90 : Int32) (v2_90 : Int32) (v3_90 : Int32) (h16 : y_H), j v0_90 v1_90 v2_90 v3_90 h16 = some (rz, hz) → y_V l G z rm_X12_go M_X12_go ad0 h (some (.int rz)) hz 90 [(0, y_p v0_90), (1, .int v1_90), (2, .int v2_90), (3, .int v3_90)] [] h16 0 0) (fun v0_90 v1_90 v2_90 v3_90 h16 hf => ?_) (fun j90 hj90 hf => ?_)
        · refine y_iconst (v := 1) (pc2 := 91) rfl dX12_go_90 (by decide) ?_
          refine y_goto (tgt := 95) dX12_go_91 (by decide) ?_
          refine y_istore (lv' := [(4, .int 1), (0, y_p v0_90), (1, .int v1_90), (2, .int v2_90), (3, .int v3_90)]) (pc2 := 97) rfl dX12_go_95 (by decide) rfl ?_
          refine y_aload_n (x := v0_90) (pc2 := 98) rfl dX12_go_97 rfl ?_
          obtain ⟨g36, hf⟩ := y_g hf
          refine y_getP (pc2 := 101) rfl dX12_go_98 F_BoxYardModel_86 (by decide) rfl g36 ?_
          refine y_iload_n (pc2 := 102) rfl dX12_go_101 rfl ?_
          refine y_iload_n (pc2 := 103) rfl dX12_go_102 rfl ?_
          obtain ⟨g19, hf⟩ := y_g hf
          obtain ⟨h17, e18, hf⟩ := y_bdE hf
          refine y_iast (x := v3_90) (pc2 := 104) rfl dX12_go_103 g19.1 (y_ix_in g19.2) e18 ?_
          refine y_iload (pc2 := 106) rfl dX12_go_104 rfl ?_
          refine y_if_ne (tgt := 117) (pc2 := 109) rfl dX12_go_106 (by decide) (fun c35 => ?_) (fun c35 => ?_)
          · replace hf := y_ie c35 hf
            refine y_aload_n (x := v0_90) (pc2 := 118) rfl dX12_go_117 rfl ?_
            refine y_iload_n (pc2 := 119) rfl dX12_go_118 rfl ?_
            refine y_bipush (v := (-9 : Int32)) (pc2 := 121) rfl dX12_go_119 (by decide) ?_
            refine y_bipush (v := (-9 : Int32)) (pc2 := 123) rfl dX12_go_121 (by decide) ?_
            obtain ⟨g30, hf⟩ := y_g hf
            obtain ⟨r_, h20, c21, hf⟩ := y_clE hf
            refine y_callV (As := [.int v1_90, .int (-9 : Int32), .int (-9 : Int32)]) (rm := rm_X12_keep) (cells := 0) (slots := 0) (pc2 := 126) rfl dX12_go_123 n_X12_keep l_BoxYardModel_355 i_X12_keep e_X12_keep (ci := 12) rfl rfl (by decide) g30 rfl rfl (by decide) (by decide) (by decide) (k_X12_keep c21) ?_
            refine y_aload_n (x := v0_90) (pc2 := 127) rfl dX12_go_126 rfl ?_
            obtain ⟨g29, hf⟩ := y_g hf
            refine y_getP (pc2 := 130) rfl dX12_go_127 F_BoxYardModel_86 (by decide) rfl g29 ?_
            refine y_iload_n (pc2 := 131) rfl dX12_go_130 rfl ?_
            refine y_iload_n (pc2 := 132) rfl dX12_go_131 rfl ?_
            obtain ⟨g24, hf⟩ := y_g hf
            obtain ⟨h22, e23, hf⟩ := y_bdE hf
            refine y_iast (x := v2_90) (pc2 := 133) rfl dX12_go_132 g24.1 (y_ix_in g24.2) e23 ?_
            refine y_aload_n (x := v0_90) (pc2 := 134) rfl dX12_go_133 rfl ?_
            obtain ⟨g28, hf⟩ := y_g hf
            obtain ⟨r25, h26, c27, hf⟩ := y_clE hf
            refine y_callV (As := []) (rm := rm_X12_done) (cells := 0) (slots := 0) (pc2 := 137) rfl dX12_go_134 n_X12_done l_BoxYardModel_359 i_X12_done e_X12_done (ci := 12) rfl rfl (by decide) g28 rfl rfl (by decide) (by decide) (by decide) (k_X12_done c27) ?_
            exact y_iretF hf dX12_go_137 rfl (by decide) (by decide)
          · replace hf := y_it c35 hf
            refine y_aload_n (x := v0_90) (pc2 := 110) rfl dX12_go_109 rfl ?_
            refine y_iload_n (pc2 := 111) rfl dX12_go_110 rfl ?_
            refine y_bipush (v := 7) (pc2 := 113) rfl dX12_go_111 (by decide) ?_
            obtain ⟨g34, hf⟩ := y_g hf
            obtain ⟨r31, h32, c33, hf⟩ := y_clE hf
            refine y_callV (As := [.int v1_90, .int 7]) (rm := rm_X12_breaks) (cells := 0) (slots := 0) (pc2 := 116) rfl dX12_go_113 n_X12_breaks l_BoxYardModel_351 i_X12_breaks e_X12_breaks (ci := 12) rfl rfl (by decide) g34 rfl rfl (by decide) (by decide) (by decide) (k_X12_breaks c33) ?_
            exact y_iretF hf dX12_go_116 rfl (by decide) (by decide)
        · refine y_icmp_eq (tgt := 90) (pc2 := 77) rfl dX12_go_74 (by decide) (fun c64 => ?_) (fun c64 => ?_)
          · replace hf := y_it c64 hf
            exact y_pk [1, 2, 3, 0] rfl (hj90 _ _ _ _ _ hf)
          · replace hf := y_ie c64 hf
            refine y_aload_n (x := p0) (pc2 := 78) rfl dX12_go_77 rfl ?_
            refine y_aload_n (x := p0) (pc2 := 79) rfl dX12_go_78 rfl ?_
            obtain ⟨g63, hf⟩ := y_g hf
            refine y_getP (pc2 := 82) rfl dX12_go_79 F_BoxYardModel_83 (by decide) rfl g63 ?_
            refine y_iload_n (pc2 := 83) rfl dX12_go_82 rfl ?_
            obtain ⟨g62, hf⟩ := y_g hf
            refine y_iald (pc2 := 84) rfl dX12_go_83 g62.1 (y_ix_in g62.2) ?_
            obtain ⟨g61, hf⟩ := y_g hf
            obtain ⟨r37, h38, c39, hf⟩ := y_clE hf
            refine y_callV (As := [.int (y_I h13 (y_P h13 p0 27) (Int32.toNatClampNeg p1))]) (rm := rm_X12_isWell) (cells := 0) (slots := 0) (pc2 := 87) rfl dX12_go_84 n_X12_isWell l_BoxYardModel_326 i_X12_isWell e_X12_isWell (ci := 12) rfl rfl (by decide) g61 rfl rfl (by decide) (by decide) (by decide) (k_X12_isWell c39) ?_
            refine y_ifz_eq (tgt := 94) (pc2 := 90) rfl dX12_go_87 (by decide) (fun c60 => ?_) (fun c60 => ?_)
            · replace hf := y_ie c60 hf
              refine y_iconst (v := 0) (pc2 := 95) rfl dX12_go_94 (by decide) ?_
              refine y_istore (lv' := [(4, .int 0), (3, .int (y_I h11 (y_P h11 p0 28) (Int32.toNatClampNeg p1))), (0, y_p p0), (1, .int p1), (2, .int p2)]) (pc2 := 97) rfl dX12_go_95 (by decide) rfl ?_
              refine y_aload_n (x := p0) (pc2 := 98) rfl dX12_go_97 rfl ?_
              obtain ⟨g59, hf⟩ := y_g hf
              refine y_getP (pc2 := 101) rfl dX12_go_98 F_BoxYardModel_86 (by decide) rfl g59 ?_
              refine y_iload_n (pc2 := 102) rfl dX12_go_101 rfl ?_
              refine y_iload_n (pc2 := 103) rfl dX12_go_102 rfl ?_
              obtain ⟨g42, hf⟩ := y_g hf
              obtain ⟨h40, e41, hf⟩ := y_bdE hf
              refine y_iast (x := y_I h11 (y_P h11 p0 28) (Int32.toNatClampNeg p1)) (pc2 := 104) rfl dX12_go_103 g42.1 (y_ix_in g42.2) e41 ?_
              refine y_iload (pc2 := 106) rfl dX12_go_104 rfl ?_
              refine y_if_ne (tgt := 117) (pc2 := 109) rfl dX12_go_106 (by decide) (fun c58 => ?_) (fun c58 => ?_)
              · replace hf := y_ie c58 hf
                refine y_aload_n (x := p0) (pc2 := 118) rfl dX12_go_117 rfl ?_
                refine y_iload_n (pc2 := 119) rfl dX12_go_118 rfl ?_
                refine y_bipush (v := (-9 : Int32)) (pc2 := 121) rfl dX12_go_119 (by decide) ?_
                refine y_bipush (v := (-9 : Int32)) (pc2 := 123) rfl dX12_go_121 (by decide) ?_
                obtain ⟨g53, hf⟩ := y_g hf
                obtain ⟨r_, h43, c44, hf⟩ := y_clE hf
                refine y_callV (As := [.int p1, .int (-9 : Int32), .int (-9 : Int32)]) (rm := rm_X12_keep) (cells := 0) (slots := 0) (pc2 := 126) rfl dX12_go_123 n_X12_keep l_BoxYardModel_355 i_X12_keep e_X12_keep (ci := 12) rfl rfl (by decide) g53 rfl rfl (by decide) (by decide) (by decide) (k_X12_keep c44) ?_
                refine y_aload_n (x := p0) (pc2 := 127) rfl dX12_go_126 rfl ?_
                obtain ⟨g52, hf⟩ := y_g hf
                refine y_getP (pc2 := 130) rfl dX12_go_127 F_BoxYardModel_86 (by decide) rfl g52 ?_
                refine y_iload_n (pc2 := 131) rfl dX12_go_130 rfl ?_
                refine y_iload_n (pc2 := 132) rfl dX12_go_131 rfl ?_
                obtain ⟨g47, hf⟩ := y_g hf
                obtain ⟨h45, e46, hf⟩ := y_bdE hf
                refine y_iast (x := p2) (pc2 := 133) rfl dX12_go_132 g47.1 (y_ix_in g47.2) e46 ?_
                refine y_aload_n (x := p0) (pc2 := 134) rfl dX12_go_133 rfl ?_
                obtain ⟨g51, hf⟩ := y_g hf
                obtain ⟨r48, h49, c50, hf⟩ := y_clE hf
                refine y_callV (As := []) (rm := rm_X12_done) (cells := 0) (slots := 0) (pc2 := 137) rfl dX12_go_134 n_X12_done l_BoxYardModel_359 i_X12_done e_X12_done (ci := 12) rfl rfl (by decide) g51 rfl rfl (by decide) (by decide) (by decide) (k_X12_done c50) ?_
                exact y_iretF hf dX12_go_137 rfl (by decide) (by decide)
              · replace hf := y_it c58 hf
                refine y_aload_n (x := p0) (pc2 := 110) rfl dX12_go_109 rfl ?_
                refine y_iload_n (pc2 := 111) rfl dX12_go_110 rfl ?_
                refine y_bipush (v := 7) (pc2 := 113) rfl dX12_go_111 (by decide) ?_
                obtain ⟨g57, hf⟩ := y_g hf
                obtain ⟨r54, h55, c56, hf⟩ := y_clE hf
                refine y_callV (As := [.int p1, .int 7]) (rm := rm_X12_breaks) (cells := 0) (slots := 0) (pc2 := 116) rfl dX12_go_113 n_X12_breaks l_BoxYardModel_351 i_X12_breaks e_X12_breaks (ci := 12) rfl rfl (by decide) g57 rfl rfl (by decide) (by decide) (by decide) (k_X12_breaks c56) ?_
                exact y_iretF hf dX12_go_116 rfl (by decide) (by decide)
            · replace hf := y_it c60 hf
              exact y_pk [1, 2, 3, 0] rfl (hj90 _ _ _ _ _ hf)
      · replace hf := y_it c74 hf
        refine y_aload_n (x := p0) (pc2 := 45) rfl dX12_go_44 rfl ?_
        refine y_iload_n (pc2 := 46) rfl dX12_go_45 rfl ?_
        refine y_bipush (v := 6) (pc2 := 48) rfl dX12_go_46 (by decide) ?_
        obtain ⟨g73, hf⟩ := y_g hf
        obtain ⟨r70, h71, c72, hf⟩ := y_clE hf
        refine y_callV (As := [.int p1, .int 6]) (rm := rm_X12_breaks) (cells := 0) (slots := 0) (pc2 := 51) rfl dX12_go_48 n_X12_breaks l_BoxYardModel_351 i_X12_breaks e_X12_breaks (ci := 12) rfl rfl (by decide) g73 rfl rfl (by decide) (by decide) (by decide) (k_X12_breaks c72) ?_
        exact y_iretF hf dX12_go_51 rfl (by decide) (by decide)
    · replace hf := y_ie c80 hf
      refine y_aload_n (x := p0) (pc2 := 30) rfl dX12_go_29 rfl ?_
      refine y_bipush (v := (-2 : Int32)) (pc2 := 32) rfl dX12_go_30 (by decide) ?_
      obtain ⟨g79, hf⟩ := y_g hf
      obtain ⟨r76, h77, c78, hf⟩ := y_clE hf
      refine y_callV (As := [.int (-2 : Int32)]) (rm := rm_X12_refused) (cells := 0) (slots := 0) (pc2 := 35) rfl dX12_go_32 n_X12_refused l_BoxYardModel_345 i_X12_refused e_X12_refused (ci := 12) rfl rfl (by decide) g79 rfl rfl (by decide) (by decide) (by decide) (k_X12_refused c78) ?_
      exact y_iretF hf dX12_go_35 rfl (by decide) (by decide)
  · replace hf := y_ie c85 hf
    refine y_aload_n (x := p0) (pc2 := 14) rfl dX12_go_13 rfl ?_
    refine y_iconst (v := (-1 : Int32)) (pc2 := 15) rfl dX12_go_14 (by decide) ?_
    obtain ⟨g84, hf⟩ := y_g hf
    obtain ⟨r81, h82, c83, hf⟩ := y_clE hf
    refine y_callV (As := [.int (-1 : Int32)]) (rm := rm_X12_refused) (cells := 0) (slots := 0) (pc2 := 18) rfl dX12_go_15 n_X12_refused l_BoxYardModel_345 i_X12_refused e_X12_refused (ci := 12) rfl rfl (by decide) g84 rfl rfl (by decide) (by decide) (by decide) (k_X12_refused c83) ?_
    exact y_iretF hf dX12_go_18 rfl (by decide) (by decide)
theorem dX12_hang_0 : decode cX12_hang 0 = .ok (.aload_n 0, 1) := by decide +kernel
theorem dX12_hang_1 : decode cX12_hang 1 = .ok (.getfield 25, 3) := by decide +kernel
theorem dX12_hang_4 : decode cX12_hang 4 = .ok (.iload_n 2, 1) := by decide +kernel
theorem dX12_hang_5 : decode cX12_hang 5 = .ok (.iconst 1, 1) := by decide +kernel
theorem dX12_hang_6 : decode cX12_hang 6 = .ok (.bastore, 1) := by decide +kernel
theorem dX12_hang_7 : decode cX12_hang 7 = .ok (.aload_n 0, 1) := by decide +kernel
theorem dX12_hang_8 : decode cX12_hang 8 = .ok (.getfield 89, 3) := by decide +kernel
theorem dX12_hang_11 : decode cX12_hang 11 = .ok (.iload_n 1, 1) := by decide +kernel
theorem dX12_hang_12 : decode cX12_hang 12 = .ok (.iload_n 2, 1) := by decide +kernel
theorem dX12_hang_13 : decode cX12_hang 13 = .ok (.iastore, 1) := by decide +kernel
theorem dX12_hang_14 : decode cX12_hang 14 = .ok (.aload_n 0, 1) := by decide +kernel
theorem dX12_hang_15 : decode cX12_hang 15 = .ok (.getfield 92, 3) := by decide +kernel
theorem dX12_hang_18 : decode cX12_hang 18 = .ok (.iload_n 1, 1) := by decide +kernel
theorem dX12_hang_19 : decode cX12_hang 19 = .ok (.dup2, 1) := by decide +kernel
theorem dX12_hang_20 : decode cX12_hang 20 = .ok (.iaload, 1) := by decide +kernel
theorem dX12_hang_21 : decode cX12_hang 21 = .ok (.iconst 1, 1) := by decide +kernel
theorem dX12_hang_22 : decode cX12_hang 22 = .ok (.iadd, 1) := by decide +kernel
theorem dX12_hang_23 : decode cX12_hang 23 = .ok (.iastore, 1) := by decide +kernel
theorem dX12_hang_24 : decode cX12_hang 24 = .ok (.aload_n 0, 1) := by decide +kernel
theorem dX12_hang_25 : decode cX12_hang 25 = .ok (.iload_n 2, 1) := by decide +kernel
theorem dX12_hang_26 : decode cX12_hang 26 = .ok (.iconst 2, 1) := by decide +kernel
theorem dX12_hang_27 : decode cX12_hang 27 = .ok (.iload_n 1, 1) := by decide +kernel
theorem dX12_hang_28 : decode cX12_hang 28 = .ok (.iconst 0, 1) := by decide +kernel
theorem dX12_hang_29 : decode cX12_hang 29 = .ok (.iconst 0, 1) := by decide +kernel
theorem dX12_hang_30 : decode cX12_hang 30 = .ok (.invokevirtual 294, 3) := by decide +kernel
theorem dX12_hang_33 : decode cX12_hang 33 = .ok (.return_, 1) := by decide +kernel
def M_X12_hang : y_M := (yX12_hang, cX12_hang, 3, (Option.none : Option Jvm.ClassFile.FieldType))
theorem n_X12_hang : y_N0 M_X12_hang 2 := ⟨(c_9 86 (by decide +kernel) rfl), (c_1 9 (by decide +kernel) rfl), ⟨by decide +kernel, by decide +kernel⟩, by decide +kernel⟩
set_option maxRecDepth 100000 in
def f_X12_hang (p0 : Nat) (p1 : Int32) (p2 : Int32) (h : y_H) : Option (Unit × y_H) :=
  if y_K h p0 = 13 then
  if y_K h (y_P h p0 6) = 102 ∧ y_ix p2 (y_N h (y_P h p0 6)) = true then
  y_bd (s_B h (y_P h p0 6) (Int32.toNatClampNeg p2) true) (fun h1 =>
  if y_K h1 p0 = 13 then
  if y_K h1 (y_P h1 p0 29) = 100 ∧ y_ix p1 (y_N h1 (y_P h1 p0 29)) = true then
  y_bd (s_I h1 (y_P h1 p0 29) (Int32.toNatClampNeg p1) p2) (fun h4 =>
  if y_K h4 p0 = 13 then
  if y_K h4 (y_P h4 p0 30) = 100 ∧ y_ix p1 (y_N h4 (y_P h4 p0 30)) = true then
  if y_K h4 (y_P h4 p0 30) = 100 ∧ y_ix p1 (y_N h4 (y_P h4 p0 30)) = true then
  y_bd (s_I h4 (y_P h4 p0 30) (Int32.toNatClampNeg p1) ((y_I h4 (y_P h4 p0 30) (Int32.toNatClampNeg p1)) + 1)) (fun h7 =>
  if y_K h7 p0 = 13 then
  y_cl (f_X12_put p0 p2 2 p1 0 0 h7) (fun _ h10 =>
  some ((), h10))
  else none)
  else none
  else none
  else none)
  else none
  else none)
  else none
  else none
abbrev rm_X12_hang : Room := { frames := 1, cells := 0, slots := 0, locals := 25 }
set_option maxRecDepth 100000 in
set_option maxHeartbeats 4000000 in
theorem k_X12_hang {l : Launch} {G : y_G} {p0 : Nat} {p1 : Int32} {p2 : Int32} {h hz : y_H} {rz : Unit} (hf : f_X12_hang p0 p1 p2 h = some (rz, hz)) : y_S l G M_X12_hang rm_X12_hang [y_p p0, .int p1, .int p2] h none hz := by
  refine y_start (lv := [(0, y_p p0), (1, .int p1), (2, .int p2)]) (by decide) (by simp [lg_sl, y_p_cat, y_ci, y_cj, M_X12_hang]) (by simp [lv_args, y_p_cat, y_ci, y_cj]) (fun z ad0 => ?_)
  unfold f_X12_hang at hf
  refine y_aload_n (x := p0) (pc2 := 1) rfl dX12_hang_0 rfl ?_
  obtain ⟨g16, hf⟩ := y_g hf
  refine y_getP (pc2 := 4) rfl dX12_hang_1 F_BoxYardModel_25 (by decide) rfl g16 ?_
  refine y_iload_n (pc2 := 5) rfl dX12_hang_4 rfl ?_
  refine y_iconst (v := 1) (pc2 := 6) rfl dX12_hang_5 (by decide) ?_
  obtain ⟨g3, hf⟩ := y_g hf
  obtain ⟨h1, e2, hf⟩ := y_bdE hf
  refine y_zast (x := true) (pc2 := 7) rfl dX12_hang_6 g3.1 (y_ix_in g3.2) e2 ?_
  refine y_aload_n (x := p0) (pc2 := 8) rfl dX12_hang_7 rfl ?_
  obtain ⟨g15, hf⟩ := y_g hf
  refine y_getP (pc2 := 11) rfl dX12_hang_8 F_BoxYardModel_89 (by decide) rfl g15 ?_
  refine y_iload_n (pc2 := 12) rfl dX12_hang_11 rfl ?_
  refine y_iload_n (pc2 := 13) rfl dX12_hang_12 rfl ?_
  obtain ⟨g6, hf⟩ := y_g hf
  obtain ⟨h4, e5, hf⟩ := y_bdE hf
  refine y_iast (x := p2) (pc2 := 14) rfl dX12_hang_13 g6.1 (y_ix_in g6.2) e5 ?_
  refine y_aload_n (x := p0) (pc2 := 15) rfl dX12_hang_14 rfl ?_
  obtain ⟨g14, hf⟩ := y_g hf
  refine y_getP (pc2 := 18) rfl dX12_hang_15 F_BoxYardModel_92 (by decide) rfl g14 ?_
  refine y_iload_n (pc2 := 19) rfl dX12_hang_18 rfl ?_
  refine y_dup2 (pc2 := 20) rfl dX12_hang_19 rfl (y_p_cat _) ?_
  obtain ⟨g13, hf⟩ := y_g hf
  refine y_iald (pc2 := 21) rfl dX12_hang_20 g13.1 (y_ix_in g13.2) ?_
  refine y_iconst (v := 1) (pc2 := 22) rfl dX12_hang_21 (by decide) ?_
  refine y_iadd (pc2 := 23) rfl dX12_hang_22 ?_
  obtain ⟨g9, hf⟩ := y_g hf
  obtain ⟨h7, e8, hf⟩ := y_bdE hf
  refine y_iast (x := (y_I h4 (y_P h4 p0 30) (Int32.toNatClampNeg p1)) + 1) (pc2 := 24) rfl dX12_hang_23 g9.1 (y_ix_in g9.2) e8 ?_
  refine y_aload_n (x := p0) (pc2 := 25) rfl dX12_hang_24 rfl ?_
  refine y_iload_n (pc2 := 26) rfl dX12_hang_25 rfl ?_
  refine y_iconst (v := 2) (pc2 := 27) rfl dX12_hang_26 (by decide) ?_
  refine y_iload_n (pc2 := 28) rfl dX12_hang_27 rfl ?_
  refine y_iconst (v := 0) (pc2 := 29) rfl dX12_hang_28 (by decide) ?_
  refine y_iconst (v := 0) (pc2 := 30) rfl dX12_hang_29 (by decide) ?_
  obtain ⟨g12, hf⟩ := y_g hf
  obtain ⟨r_, h10, c11, hf⟩ := y_clE hf
  refine y_callV (As := [.int p2, .int 2, .int p1, .int 0, .int 0]) (rm := rm_X12_put) (cells := 0) (slots := 0) (pc2 := 33) rfl dX12_hang_30 n_X12_put l_BoxYardModel_294 i_X12_put e_X12_put (ci := 12) rfl rfl (by decide) g12 rfl rfl (by decide) (by decide) (by decide) (k_X12_put c11) ?_
  exact y_vretF hf dX12_hang_33 rfl (by decide) (by decide)
