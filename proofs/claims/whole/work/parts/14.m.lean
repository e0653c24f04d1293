theorem dX12_box_0 : decode cX12_box 0 = .ok (.iload_n 1, 1) := by decide +kernel
theorem dX12_box_1 : decode cX12_box 1 = .ok (.iconst 0, 1) := by decide +kernel
theorem dX12_box_2 : decode cX12_box 2 = .ok (.iconst 5, 1) := by decide +kernel
theorem dX12_box_3 : decode cX12_box 3 = .ok (.invokestatic 278, 3) := by decide +kernel
theorem dX12_box_6 : decode cX12_box 6 = .ok (.ifCond .eq 46, 3) := by decide +kernel
theorem dX12_box_9 : decode cX12_box 9 = .ok (.iload_n 2, 1) := by decide +kernel
theorem dX12_box_10 : decode cX12_box 10 = .ok (.iconst 1, 1) := by decide +kernel
theorem dX12_box_11 : decode cX12_box 11 = .ok (.sipush 400, 3) := by decide +kernel
theorem dX12_box_14 : decode cX12_box 14 = .ok (.invokestatic 278, 3) := by decide +kernel
theorem dX12_box_17 : decode cX12_box 17 = .ok (.ifCond .eq 35, 3) := by decide +kernel
theorem dX12_box_20 : decode cX12_box 20 = .ok (.iload_n 3, 1) := by decide +kernel
theorem dX12_box_21 : decode cX12_box 21 = .ok (.iconst 1, 1) := by decide +kernel
theorem dX12_box_22 : decode cX12_box 22 = .ok (.sipush 400, 3) := by decide +kernel
theorem dX12_box_25 : decode cX12_box 25 = .ok (.invokestatic 278, 3) := by decide +kernel
theorem dX12_box_28 : decode cX12_box 28 = .ok (.ifCond .eq 24, 3) := by decide +kernel
theorem dX12_box_31 : decode cX12_box 31 = .ok (.iload 4, 2) := by decide +kernel
theorem dX12_box_33 : decode cX12_box 33 = .ok (.iconst 0, 1) := by decide +kernel
theorem dX12_box_34 : decode cX12_box 34 = .ok (.iconst 4, 1) := by decide +kernel
theorem dX12_box_35 : decode cX12_box 35 = .ok (.invokestatic 278, 3) := by decide +kernel
theorem dX12_box_38 : decode cX12_box 38 = .ok (.ifCond .eq 14, 3) := by decide +kernel
theorem dX12_box_41 : decode cX12_box 41 = .ok (.iload 5, 2) := by decide +kernel
theorem dX12_box_43 : decode cX12_box 43 = .ok (.iconst 0, 1) := by decide +kernel
theorem dX12_box_44 : decode cX12_box 44 = .ok (.bipush 7, 2) := by decide +kernel
theorem dX12_box_46 : decode cX12_box 46 = .ok (.invokestatic 278, 3) := by decide +kernel
theorem dX12_box_49 : decode cX12_box 49 = .ok (.ifCond .ne 6, 3) := by decide +kernel
theorem dX12_box_52 : decode cX12_box 52 = .ok (.bipush (-2), 2) := by decide +kernel
theorem dX12_box_54 : decode cX12_box 54 = .ok (.ireturn, 1) := by decide +kernel
theorem dX12_box_55 : decode cX12_box 55 = .ok (.aload_n 0, 1) := by decide +kernel
theorem dX12_box_56 : decode cX12_box 56 = .ok (.getfield 234, 3) := by decide +kernel
theorem dX12_box_59 : decode cX12_box 59 = .ok (.bipush 80, 2) := by decide +kernel
theorem dX12_box_61 : decode cX12_box 61 = .ok (.if_icmp .ne 6, 3) := by decide +kernel
theorem dX12_box_64 : decode cX12_box 64 = .ok (.bipush (-4), 2) := by decide +kernel
theorem dX12_box_66 : decode cX12_box 66 = .ok (.ireturn, 1) := by decide +kernel
theorem dX12_box_67 : decode cX12_box 67 = .ok (.aload_n 0, 1) := by decide +kernel
theorem dX12_box_68 : decode cX12_box 68 = .ok (.getfield 7, 3) := by decide +kernel
theorem dX12_box_71 : decode cX12_box 71 = .ok (.aload_n 0, 1) := by decide +kernel
theorem dX12_box_72 : decode cX12_box 72 = .ok (.getfield 234, 3) := by decide +kernel
theorem dX12_box_75 : decode cX12_box 75 = .ok (.iload_n 1, 1) := by decide +kernel
theorem dX12_box_76 : decode cX12_box 76 = .ok (.iastore, 1) := by decide +kernel
theorem dX12_box_77 : decode cX12_box 77 = .ok (.aload_n 0, 1) := by decide +kernel
theorem dX12_box_78 : decode cX12_box 78 = .ok (.getfield 13, 3) := by decide +kernel
theorem dX12_box_81 : decode cX12_box 81 = .ok (.aload_n 0, 1) := by decide +kernel
theorem dX12_box_82 : decode cX12_box 82 = .ok (.getfield 234, 3) := by decide +kernel
theorem dX12_box_85 : decode cX12_box 85 = .ok (.iload_n 2, 1) := by decide +kernel
theorem dX12_box_86 : decode cX12_box 86 = .ok (.iastore, 1) := by decide +kernel
theorem dX12_box_87 : decode cX12_box 87 = .ok (.aload_n 0, 1) := by decide +kernel
theorem dX12_box_88 : decode cX12_box 88 = .ok (.getfield 16, 3) := by decide +kernel
theorem dX12_box_91 : decode cX12_box 91 = .ok (.aload_n 0, 1) := by decide +kernel
theorem dX12_box_92 : decode cX12_box 92 = .ok (.getfield 234, 3) := by decide +kernel
theorem dX12_box_95 : decode cX12_box 95 = .ok (.iload_n 3, 1) := by decide +kernel
theorem dX12_box_96 : decode cX12_box 96 = .ok (.iastore, 1) := by decide +kernel
theorem dX12_box_97 : decode cX12_box 97 = .ok (.aload_n 0, 1) := by decide +kernel
theorem dX12_box_98 : decode cX12_box 98 = .ok (.getfield 19, 3) := by decide +kernel
theorem dX12_box_101 : decode cX12_box 101 = .ok (.aload_n 0, 1) := by decide +kernel
theorem dX12_box_102 : decode cX12_box 102 = .ok (.getfield 234, 3) := by decide +kernel
theorem dX12_box_105 : decode cX12_box 105 = .ok (.iload 4, 2) := by decide +kernel
theorem dX12_box_107 : decode cX12_box 107 = .ok (.iastore, 1) := by decide +kernel
theorem dX12_box_108 : decode cX12_box 108 = .ok (.aload_n 0, 1) := by decide +kernel
theorem dX12_box_109 : decode cX12_box 109 = .ok (.getfield 22, 3) := by decide +kernel
theorem dX12_box_112 : decode cX12_box 112 = .ok (.aload_n 0, 1) := by decide +kernel
theorem dX12_box_113 : decode cX12_box 113 = .ok (.getfield 234, 3) := by decide +kernel
theorem dX12_box_116 : decode cX12_box 116 = .ok (.iload 5, 2) := by decide +kernel
theorem dX12_box_118 : decode cX12_box 118 = .ok (.iastore, 1) := by decide +kernel
theorem dX12_box_119 : decode cX12_box 119 = .ok (.aload_n 0, 1) := by decide +kernel
theorem dX12_box_120 : decode cX12_box 120 = .ok (.getfield 25, 3) := by decide +kernel
theorem dX12_box_123 : decode cX12_box 123 = .ok (.aload_n 0, 1) := by decide +kernel
theorem dX12_box_124 : decode cX12_box 124 = .ok (.getfield 234, 3) := by decide +kernel
theorem dX12_box_127 : decode cX12_box 127 = .ok (.iconst 0, 1) := by decide +kernel
theorem dX12_box_128 : decode cX12_box 128 = .ok (.bastore, 1) := by decide +kernel
theorem dX12_box_129 : decode cX12_box 129 = .ok (.aload_n 0, 1) := by decide +kernel
theorem dX12_box_130 : decode cX12_box 130 = .ok (.aload_n 0, 1) := by decide +kernel
theorem dX12_box_131 : decode cX12_box 131 = .ok (.getfield 234, 3) := by decide +kernel
theorem dX12_box_134 : decode cX12_box 134 = .ok (.iconst 0, 1) := by decide +kernel
theorem dX12_box_135 : decode cX12_box 135 = .ok (.iconst 0, 1) := by decide +kernel
theorem dX12_box_136 : decode cX12_box 136 = .ok (.iconst 0, 1) := by decide +kernel
theorem dX12_box_137 : decode cX12_box 137 = .ok (.iconst 0, 1) := by decide +kernel
theorem dX12_box_138 : decode cX12_box 138 = .ok (.invokevirtual 294, 3) := by decide +kernel
theorem dX12_box_141 : decode cX12_box 141 = .ok (.aload_n 0, 1) := by decide +kernel
theorem dX12_box_142 : decode cX12_box 142 = .ok (.getfield 41, 3) := by decide +kernel
theorem dX12_box_145 : decode cX12_box 145 = .ok (.aload_n 0, 1) := by decide +kernel
theorem dX12_box_146 : decode cX12_box 146 = .ok (.getfield 234, 3) := by decide +kernel
theorem dX12_box_149 : decode cX12_box 149 = .ok (.bipush (-9), 2) := by decide +kernel
theorem dX12_box_151 : decode cX12_box 151 = .ok (.iastore, 1) := by decide +kernel
theorem dX12_box_152 : decode cX12_box 152 = .ok (.aload_n 0, 1) := by decide +kernel
theorem dX12_box_153 : decode cX12_box 153 = .ok (.dup, 1) := by decide +kernel
theorem dX12_box_154 : decode cX12_box 154 = .ok (.getfield 234, 3) := by decide +kernel
theorem dX12_box_157 : decode cX12_box 157 = .ok (.iconst 1, 1) := by decide +kernel
theorem dX12_box_158 : decode cX12_box 158 = .ok (.iadd, 1) := by decide +kernel
theorem dX12_box_159 : decode cX12_box 159 = .ok (.putfield 234, 3) := by decide +kernel
theorem dX12_box_162 : decode cX12_box 162 = .ok (.aload_n 0, 1) := by decide +kernel
theorem dX12_box_163 : decode cX12_box 163 = .ok (.getfield 234, 3) := by decide +kernel
theorem dX12_box_166 : decode cX12_box 166 = .ok (.iconst 1, 1) := by decide +kernel
theorem dX12_box_167 : decode cX12_box 167 = .ok (.isub, 1) := by decide +kernel
theorem dX12_box_168 : decode cX12_box 168 = .ok (.ireturn, 1) := by decide +kernel
def M_X12_box : y_M := (yX12_box, cX12_box, 6, (Option.some Jvm.ClassFile.FieldType.int))
theorem n_X12_box : y_N0 M_X12_box 5 := ⟨(c_8 171 (by decide +kernel) rfl), (c_1 9 (by decide +kernel) rfl), ⟨by decide +kernel, by decide +kernel⟩, by decide +kernel⟩
theorem F_BoxYardModel_22 : y_F "BoxYardModel" 22 12 5 := ⟨_, _, _, rfl, by decide, Or.inl (c_7 127 (by decide +kernel) rfl)⟩
theorem l_BoxYardModel_294 : y_lnk "BoxYardModel" 294 M_X12_put := Or.inl (c_8 175 (by decide +kernel) rfl)
theorem i_X12_put : Cond.instanceMethod (M_X12_put).1 ∈ y_tb := (c_8 177 (by decide +kernel) rfl)
theorem e_X12_put : Cond.selects (M_X12_put).1.cls (M_X12_put).1 (M_X12_put).1 ∈ y_tb := (m_s 57 (by decide +kernel) rfl)
theorem F_BoxYardModel_41 : y_F "BoxYardModel" 41 12 11 := ⟨_, _, _, rfl, by decide, Or.inl (c_7 133 (by decide +kernel) rfl)⟩
set_option maxRecDepth 100000 in
def f_X12_box (p0 : Nat) (p1 : Int32) (p2 : Int32) (p3 : Int32) (p4 : Int32) (p5 : Int32) (h : y_H) : Option (Int32 × y_H) :=
  y_cl (f_X12_in p1 0 5 h) (fun r1 h2 =>
  y_jn (fun (h4 : y_H) => (
      some ((-2 : Int32), h4) : Option (Int32 × y_H))) (fun j52 =>
  if r1 = true then
    y_cl (f_X12_in p2 1 400 h2) (fun r5 h6 =>
    if r5 = true then
      y_cl (f_X12_in p3 1 400 h6) (fun r8 h9 =>
      if r8 = true then
        y_cl (f_X12_in p4 0 4 h9) (fun r11 h12 =>
        if r11 = true then
          y_cl (f_X12_in p5 0 7 h12) (fun r14 h15 =>
          if r14 = true then
            if y_K h15 p0 = 13 then
            if (y_I h15 p0 0) = 80 then
              some ((-4 : Int32), h15)
            else
              if y_K h15 p0 = 13 then
              if y_K h15 p0 = 13 then
              if y_K h15 (y_P h15 p0 1) = 100 ∧ y_ix (y_I h15 p0 0) (y_N h15 (y_P h15 p0 1)) = true then
              y_bd (s_I h15 (y_P h15 p0 1) (Int32.toNatClampNeg (y_I h15 p0 0)) p1) (fun h17 =>
              if y_K h17 p0 = 13 then
              if y_K h17 p0 = 13 then
              if y_K h17 (y_P h17 p0 2) = 100 ∧ y_ix (y_I h17 p0 0) (y_N h17 (y_P h17 p0 2)) = true then
              y_bd (s_I h17 (y_P h17 p0 2) (Int32.toNatClampNeg (y_I h17 p0 0)) p2) (fun h20 =>
              if y_K h20 p0 = 13 then
              if y_K h20 p0 = 13 then
              if y_K h20 (y_P h20 p0 3) = 100 ∧ y_ix (y_I h20 p0 0) (y_N h20 (y_P h20 p0 3)) = true then
              y_bd (s_I h20 (y_P h20 p0 3) (Int32.toNatClampNeg (y_I h20 p0 0)) p3) (fun h23 =>
              if y_K h23 p0 = 13 then
              if y_K h23 p0 = 13 then
              if y_K h23 (y_P h23 p0 4) = 100 ∧ y_ix (y_I h23 p0 0) (y_N h23 (y_P h23 p0 4)) = true then
              y_bd (s_I h23 (y_P h23 p0 4) (Int32.toNatClampNeg (y_I h23 p0 0)) p4) (fun h26 =>
              if y_K h26 p0 = 13 then
              if y_K h26 p0 = 13 then
              if y_K h26 (y_P h26 p0 5) = 100 ∧ y_ix (y_I h26 p0 0) (y_N h26 (y_P h26 p0 5)) = true then
              y_bd (s_I h26 (y_P h26 p0 5) (Int32.toNatClampNeg (y_I h26 p0 0)) p5) (fun h29 =>
              if y_K h29 p0 = 13 then
              if y_K h29 p0 = 13 then
              if y_K h29 (y_P h29 p0 6) = 102 ∧ y_ix (y_I h29 p0 0) (y_N h29 (y_P h29 p0 6)) = true then
              y_bd (s_B h29 (y_P h29 p0 6) (Int32.toNatClampNeg (y_I h29 p0 0)) false) (fun h32 =>
              if y_K h32 p0 = 13 then
              if y_K h32 p0 = 13 then
              y_cl (f_X12_put p0 (y_I h32 p0 0) 0 0 0 0 h32) (fun _ h35 =>
              if y_K h35 p0 = 13 then
              if y_K h35 p0 = 13 then
              if y_K h35 (y_P h35 p0 11) = 100 ∧ y_ix (y_I h35 p0 0) (y_N h35 (y_P h35 p0 11)) = true then
              y_bd (s_I h35 (y_P h35 p0 11) (Int32.toNatClampNeg (y_I h35 p0 0)) (-9 : Int32)) (fun h37 =>
              if y_K h37 p0 = 13 then
              if y_K h37 p0 = 13 then
              y_bd (s_I h37 p0 0 ((y_I h37 p0 0) + 1)) (fun h40 =>
              if y_K h40 p0 = 13 then
              some ((y_I h40 p0 0) - 1, h40)
              else none)
              else none
              else none)
              else none
              else none
              else none)
              else none
              else none)
              else none
              else none
              else none)
              else none
              else none
              else none)
              else none
              else none
              else none)
              else none
              else none
              else none)
              else none
              else none
              else none)
              else none
              else none
              else none
            else none
          else
            j52 h15)
        else
          j52 h12)
      else
        j52 h9)
    else
      j52 h6)
  else
    j52 h2))
abbrev rm_X12_box : Room := { frames := 1, cells := 0, slots := 0, locals := 25 }
set_option maxRecDepth 100000 in
set_option maxHeartbeats 4000000 in
theorem k_X12_box {l : Launch} {G : y_G} {p0 : Nat} {p1 : Int32} {p2 : Int32} {p3 : Int32} {p4 : Int32} {p5 : Int32} {h hz : y_H} {rz : Int32} (hf : f_X12_box p0 p1 p2 p3 p4 p5 h = some (rz, hz)) : y_S l G M_X12_box rm_X12_box [y_p p0, .int p1, .int p2, .int p3, .int p4, .int p5] h (some (.int rz)) hz := by
  refine y_start (lv := [(0, y_p p0), (1, .int p1), (2, .int p2), (3, .int p3), (4, .int p4), (5, .int p5)]) (by decide) (by simp [lg_sl, y_p_cat, y_ci, y_cj, M_X12_box]) (by simp [lv_args, y_p_cat, y_ci, y_cj]) (fun z ad0 => ?_)
  unfold f_X12_box at hf
  refine y_iload_n (pc2 := 1) rfl dX12_box_0 rfl ?_
  refine y_iconst (v := 0) (pc2 := 2) rfl dX12_box_1 (by decide) ?_
  refine y_iconst (v := 5) (pc2 := 3) rfl dX12_box_2 (by decide) ?_
  obtain ⟨r1, h2, c3, hf⟩ := y_clE hf
  refine y_callS (As := [.int p1, .int 0, .int 5]) (rm := rm_X12_in) (cells := 0) (slots := 0) (pc2 := 6) rfl dX12_box_3 n_X12_in l_BoxYardModel_278 t_X12_in rfl rfl (by decide) (by decide) (by decide) (k_X12_in c3) ?_
  refine y_jnE hf (fun j => ∀ (h4 : y_H), j h4 = some (rz, hz) → y_V l G z rm_X12_box M_X12_box ad0 h (some (.int rz)) hz 52 [] [] h4 0 0) (fun h4 hf => ?_) (fun j52 hj52 hf => ?_)
  · refine y_bipush (v := (-2 : Int32)) (pc2 := 54) rfl dX12_box_52 (by decide) ?_
    exact y_iretF hf dX12_box_54 rfl (by decide) (by decide)
  · refine y_ifz_eq (tgt := 52) (pc2 := 9) rfl dX12_box_6 (by decide) (fun c67 => ?_) (fun c67 => ?_)
    · replace hf := y_ie c67 hf
      exact y_pk [] rfl (hj52 _ hf)
    · replace hf := y_it c67 hf
      refine y_iload_n (pc2 := 10) rfl dX12_box_9 rfl ?_
      refine y_iconst (v := 1) (pc2 := 11) rfl dX12_box_10 (by decide) ?_
      refine y_sipush (v := 400) (pc2 := 14) rfl dX12_box_11 (by decide) ?_
      obtain ⟨r5, h6, c7, hf⟩ := y_clE hf
      refine y_callS (As := [.int p2, .int 1, .int 400]) (rm := rm_X12_in) (cells := 0) (slots := 0) (pc2 := 17) rfl dX12_box_14 n_X12_in l_BoxYardModel_278 t_X12_in rfl rfl (by decide) (by decide) (by decide) (k_X12_in c7) ?_
      refine y_ifz_eq (tgt := 52) (pc2 := 20) rfl dX12_box_17 (by decide) (fun c66 => ?_) (fun c66 => ?_)
      · replace hf := y_ie c66 hf
        exact y_pk [] rfl (hj52 _ hf)
      · replace hf := y_it c66 hf
        refine y_iload_n (pc2 := 21) rfl dX12_box_20 rfl ?_
        refine y_iconst (v := 1) (pc2 := 22) rfl dX12_box_21 (by decide) ?_
        refine y_sipush (v := 400) (pc2 := 25) rfl dX12_box_22 (by decide) ?_
        obtain ⟨r8, h9, c10, hf⟩ := y_clE hf
        refine y_callS (As := [.int p3, .int 1, .int 400]) (rm := rm_X12_in) (cells := 0) (slots := 0) (pc2 := 28) rfl dX12_box_25 n_X12_in l_BoxYardModel_278 t_X12_in rfl rfl (by decide) (by decide) (by decide) (k_X12_in c10) ?_
        refine y_ifz_eq (tgt := 52) (pc2 := 31) rfl dX12_box_28 (by decide) (fun c65 => ?_) (fun c65 => ?_)
        · replace hf := y_ie c65 hf
          exact y_pk [] rfl (hj52 _ hf)
        · replace hf := y_it c65 hf
          refine y_iload (pc2 := 33) rfl dX12_box_31 rfl ?_
          refine y_iconst (v := 0) (pc2 := 34) rfl dX12_box_33 (by decide) ?_
          refine y_iconst (v := 4) (pc2 := 35) rfl dX12_box_34 (by decide) ?_
          obtain ⟨r11, h12, c13, hf⟩ := y_clE hf
          refine y_callS (As := [.int p4, .int 0, .int 4]) (rm := rm_X12_in) (cells := 0) (slots := 0) (pc2 := 38) rfl dX12_box_35 n_X12_in l_BoxYardModel_278 t_X12_in rfl rfl (by decide) (by decide) (by decide) (k_X12_in c13) ?_
          refine y_ifz_eq (tgt := 52) (pc2 := 41) rfl dX12_box_38 (by decide) (fun c64 => ?_) (fun c64 => ?_)
          · replace hf := y_ie c64 hf
            exact y_pk [] rfl (hj52 _ hf)
          · replace hf := y_it c64 hf
            refine y_iload (pc2 := 43) rfl dX12_box_41 rfl ?_
            refine y_iconst (v := 0) (pc2 := 44) rfl dX12_box_43 (by decide) ?_
            refine y_bipush (v := 7) (pc2 := 46) rfl dX12_box_44 (by decide) ?_
            obtain ⟨r14, h15, c16, hf⟩ := y_clE hf
            refine y_callS (As := [.int p5, .int 0, .int 7]) (rm := rm_X12_in) (cells := 0) (slots := 0) (pc2 := 49) rfl dX12_box_46 n_X12_in l_BoxYardModel_278 t_X12_in rfl rfl (by decide) (by decide) (by decide) (k_X12_in c16) ?_
            refine y_ifz_ne (tgt := 55) (pc2 := 52) rfl dX12_box_49 (by decide) (fun c63 => ?_) (fun c63 => ?_)
            · replace hf := y_it c63 hf
              refine y_aload_n (x := p0) (pc2 := 56) rfl dX12_box_55 rfl ?_
              obtain ⟨g62, hf⟩ := y_g hf
              refine y_getI (pc2 := 59) rfl dX12_box_56 F_BoxYardModel_234 (by decide) rfl g62 ?_
              refine y_bipush (v := 80) (pc2 := 61) rfl dX12_box_59 (by decide) ?_
              refine y_icmp_ne (tgt := 67) (pc2 := 64) rfl dX12_box_61 (by decide) (fun c61 => ?_) (fun c61 => ?_)
              · replace hf := y_ie c61 hf
                refine y_aload_n (x := p0) (pc2 := 68) rfl dX12_box_67 rfl ?_
                obtain ⟨g60, hf⟩ := y_g hf
                refine y_getP (pc2 := 71) rfl dX12_box_68 F_BoxYardModel_7 (by decide) rfl g60 ?_
                refine y_aload_n (x := p0) (pc2 := 72) rfl dX12_box_71 rfl ?_
                obtain ⟨g59, hf⟩ := y_g hf
                refine y_getI (pc2 := 75) rfl dX12_box_72 F_BoxYardModel_234 (by decide) rfl g59 ?_
                refine y_iload_n (pc2 := 76) rfl dX12_box_75 rfl ?_
                obtain ⟨g19, hf⟩ := y_g hf
                obtain ⟨h17, e18, hf⟩ := y_bdE hf
                refine y_iast (x := p1) (pc2 := 77) rfl dX12_box_76 g19.1 (y_ix_in g19.2) e18 ?_
                refine y_aload_n (x := p0) (pc2 := 78) rfl dX12_box_77 rfl ?_
                obtain ⟨g58, hf⟩ := y_g hf
                refine y_getP (pc2 := 81) rfl dX12_box_78 F_BoxYardModel_13 (by decide) rfl g58 ?_
                refine y_aload_n (x := p0) (pc2 := 82) rfl dX12_box_81 rfl ?_
                obtain ⟨g57, hf⟩ := y_g hf
                refine y_getI (pc2 := 85) rfl dX12_box_82 F_BoxYardModel_234 (by decide) rfl g57 ?_
                refine y_iload_n (pc2 := 86) rfl dX12_box_85 rfl ?_
                obtain ⟨g22, hf⟩ := y_g hf
                obtain ⟨h20, e21, hf⟩ := y_bdE hf
                refine y_iast (x := p2) (pc2 := 87) rfl dX12_box_86 g22.1 (y_ix_in g22.2) e21 ?_
                refine y_aload_n (x := p0) (pc2 := 88) rfl dX12_box_87 rfl ?_
                obtain ⟨g56, hf⟩ := y_g hf
                refine y_getP (pc2 := 91) rfl dX12_box_88 F_BoxYardModel_16 (by decide) rfl g56 ?_
                refine y_aload_n (x := p0) (pc2 := 92) rfl dX12_box_91 rfl ?_
                obtain ⟨g55, hf⟩ := y_g hf
                refine y_getI (pc2 := 95) rfl dX12_box_92 F_BoxYardModel_234 (by decide) rfl g55 ?_
                refine y_iload_n (pc2 := 96) rfl dX12_box_95 rfl ?_
                obtain ⟨g25, hf⟩ := y_g hf
                obtain ⟨h23, e24, hf⟩ := y_bdE hf
                refine y_iast (x := p3) (pc2 := 97) rfl dX12_box_96 g25.1 (y_ix_in g25.2) e24 ?_
                refine y_aload_n (x := p0) (pc2 := 98) rfl dX12_box_97 rfl ?_
                obtain ⟨g54, hf⟩ := y_g hf
                refine y_getP (pc2 := 101) rfl dX12_box_98 F_BoxYardModel_19 (by decide) rfl g54 ?_
                refine y_aload_n (x := p0) (pc2 := 102) rfl dX12_box_101 rfl ?_
                obtain ⟨g53, hf⟩ := y_g hf
                refine y_getI (pc2 := 105) rfl dX12_box_102 F_BoxYardModel_234 (by decide) rfl g53 ?_
                refine y_iload (pc2 := 107) rfl dX12_box_105 rfl ?_
                obtain ⟨g28, hf⟩ := y_g hf
                obtain ⟨h26, e27, hf⟩ := y_bdE hf
                refine y_iast (x := p4) (pc2 := 108) rfl dX12_box_107 g28.1 (y_ix_in g28.2) e27 ?_
                refine y_aload_n (x := p0) (pc2 := 109) rfl dX12_box_108 rfl ?_
                obtain ⟨g52, hf⟩ := y_g hf
                refine y_getP (pc2 := 112) rfl dX12_box_109 F_BoxYardModel_22 (by decide) rfl g52 ?_
                refine y_aload_n (x := p0) (pc2 := 113) rfl dX12_box_112 rfl ?_
                obtain ⟨g51, hf⟩ := y_g hf
                refine y_getI (pc2 := 116) rfl dX12_box_113 F_BoxYardModel_234 (by decide) rfl g51 ?_
                refine y_iload (pc2 := 118) rfl dX12_box_116 rfl ?_
                obtain ⟨g31, hf⟩ := y_g hf
                obtain ⟨h29, e30, hf⟩ := y_bdE hf
                refine y_iast (x := p5) (pc2 := 119) rfl dX12_box_118 g31.1 (y_ix_in g31.2) e30 ?_
                refine y_aload_n (x := p0) (pc2 := 120) rfl dX12_box_119 rfl ?_
                obtain ⟨g50, hf⟩ := y_g hf
                refine y_getP (pc2 := 123) rfl dX12_box_120 F_BoxYardModel_25 (by decide) rfl g50 ?_
                refine y_aload_n (x := p0) (pc2 := 124) rfl dX12_box_123 rfl ?_
                obtain ⟨g49, hf⟩ := y_g hf
                refine y_getI (pc2 := 127) rfl dX12_box_124 F_BoxYardModel_234 (by decide) rfl g49 ?_
                refine y_iconst (v := 0) (pc2 := 128) rfl dX12_box_127 (by decide) ?_
                obtain ⟨g34, hf⟩ := y_g hf
                obtain ⟨h32, e33, hf⟩ := y_bdE hf
                refine y_zast (x := false) (pc2 := 129) rfl dX12_box_128 g34.1 (y_ix_in g34.2) e33 ?_
                refine y_aload_n (x := p0) (pc2 := 130) rfl dX12_box_129 rfl ?_
                refine y_aload_n (x := p0) (pc2 := 131) rfl dX12_box_130 rfl ?_
                obtain ⟨g48, hf⟩ := y_g hf
                refine y_getI (pc2 := 134) rfl dX12_box_131 F_BoxYardModel_234 (by decide) rfl g48 ?_
                refine y_iconst (v := 0) (pc2 := 135) rfl dX12_box_134 (by decide) ?_
                refine y_iconst (v := 0) (pc2 := 136) rfl dX12_box_135 (by decide) ?_
                refine y_iconst (v := 0) (pc2 := 137) rfl dX12_box_136 (by decide) ?_
                refine y_iconst (v := 0) (pc2 := 138) rfl dX12_box_137 (by decide) ?_
                obtain ⟨g47, hf⟩ := y_g hf
                obtain ⟨r_, h35, c36, hf⟩ := y_clE hf
                refine y_callV (As := [.int (y_I h32 p0 0), .int 0, .int 0, .int 0, .int 0]) (rm := rm_X12_put) (cells := 0) (slots := 0) (pc2 := 141) rfl dX12_box_138 n_X12_put l_BoxYardModel_294 i_X12_put e_X12_put (ci := 12) rfl rfl (by decide) g47 rfl rfl (by decide) (by decide) (by decide) (k_X12_put c36) ?_
                refine y_aload_n (x := p0) (pc2 := 142) rfl dX12_box_141 rfl ?_
                obtain ⟨g46, hf⟩ := y_g hf
                refine y_getP (pc2 := 145) rfl dX12_box_142 F_BoxYardModel_41 (by decide) rfl g46 ?_
                refine y_aload_n (x := p0) (pc2 := 146) rfl dX12_box_145 rfl ?_
                obtain ⟨g45, hf⟩ := y_g hf
                refine y_getI (pc2 := 149) rfl dX12_box_146 F_BoxYardModel_234 (by decide) rfl g45 ?_
                refine y_bipush (v := (-9 : Int32)) (pc2 := 151) rfl dX12_box_149 (by decide) ?_
                obtain ⟨g39, hf⟩ := y_g hf
                obtain ⟨h37, e38, hf⟩ := y_bdE hf
                refine y_iast (x := (-9 : Int32)) (pc2 := 152) rfl dX12_box_151 g39.1 (y_ix_in g39.2) e38 ?_
                refine y_aload_n (x := p0) (pc2 := 153) rfl dX12_box_152 rfl ?_
                refine y_dup (pc2 := 154) rfl dX12_box_153 (y_p_cat _) ?_
                obtain ⟨g44, hf⟩ := y_g hf
                refine y_getI (pc2 := 157) rfl dX12_box_154 F_BoxYardModel_234 (by decide) rfl g44 ?_
                refine y_iconst (v := 1) (pc2 := 158) rfl dX12_box_157 (by decide) ?_
                refine y_iadd (pc2 := 159) rfl dX12_box_158 ?_
                obtain ⟨g42, hf⟩ := y_g hf
                obtain ⟨h40, e41, hf⟩ := y_bdE hf
                refine y_putI (x := (y_I h37 p0 0) + 1) (pc2 := 162) rfl dX12_box_159 Fp_BoxYardModel_234 (by decide) rfl g42 e41 ?_
                refine y_aload_n (x := p0) (pc2 := 163) rfl dX12_box_162 rfl ?_
                obtain ⟨g43, hf⟩ := y_g hf
                refine y_getI (pc2 := 166) rfl dX12_box_163 F_BoxYardModel_234 (by decide) rfl g43 ?_
                refine y_iconst (v := 1) (pc2 := 167) rfl dX12_box_166 (by decide) ?_
                refine y_isub (pc2 := 168) rfl dX12_box_167 ?_
                exact y_iretF hf dX12_box_168 rfl (by decide) (by decide)
              · replace hf := y_it c61 hf
                refine y_bipush (v := (-4 : Int32)) (pc2 := 66) rfl dX12_box_64 (by decide) ?_
                exact y_iretF hf dX12_box_66 rfl (by decide) (by decide)
            · replace hf := y_ie c63 hf
              exact y_pk [] rfl (hj52 _ hf)
theorem dX12_finds_0 : decode cX12_finds 0 = .ok (.aload_n 0, 1) := by decide +kernel
theorem dX12_finds_1 : decode cX12_finds 1 = .ok (.getfield 134, 3) := by decide +kernel
theorem dX12_finds_4 : decode cX12_finds 4 = .ok (.iload_n 1, 1) := by decide +kernel
theorem dX12_finds_5 : decode cX12_finds 5 = .ok (.dup2, 1) := by decide +kernel
theorem dX12_finds_6 : decode cX12_finds 6 = .ok (.iaload, 1) := by decide +kernel
theorem dX12_finds_7 : decode cX12_finds 7 = .ok (.iconst 1, 1) := by decide +kernel
theorem dX12_finds_8 : decode cX12_finds 8 = .ok (.iadd, 1) := by decide +kernel
theorem dX12_finds_9 : decode cX12_finds 9 = .ok (.iastore, 1) := by decide +kernel
theorem dX12_finds_10 : decode cX12_finds 10 = .ok (.bipush (-60), 2) := by decide +kernel
theorem dX12_finds_12 : decode cX12_finds 12 = .ok (.iload_n 1, 1) := by decide +kernel
theorem dX12_finds_13 : decode cX12_finds 13 = .ok (.isub, 1) := by decide +kernel
theorem dX12_finds_14 : decode cX12_finds 14 = .ok (.ireturn, 1) := by decide +kernel
def M_X12_finds : y_M := (yX12_finds, cX12_finds, 2, (Option.some Jvm.ClassFile.FieldType.int))
theorem n_X12_finds : y_N0 M_X12_finds 1 := ⟨(c_8 190 (by decide +kernel) rfl), (c_1 9 (by decide +kernel) rfl), ⟨by decide +kernel, by decide +kernel⟩, by decide +kernel⟩
set_option maxRecDepth 100000 in
def f_X12_finds (p0 : Nat) (p1 : Int32) (h : y_H) : Option (Int32 × y_H) :=
  if y_K h p0 = 13 then
  if y_K h (y_P h p0 48) = 100 ∧ y_ix p1 (y_N h (y_P h p0 48)) = true then
  if y_K h (y_P h p0 48) = 100 ∧ y_ix p1 (y_N h (y_P h p0 48)) = true then
  y_bd (s_I h (y_P h p0 48) (Int32.toNatClampNeg p1) ((y_I h (y_P h p0 48) (Int32.toNatClampNeg p1)) + 1)) (fun h1 =>
  some ((-60 : Int32) - p1, h1))
  else none
  else none
  else none
abbrev rm_X12_finds : Room := { frames := 0, cells := 0, slots := 0, locals := 0 }
set_option maxRecDepth 100000 in
set_option maxHeartbeats 4000000 in
theorem k_X12_finds {l : Launch} {G : y_G} {p0 : Nat} {p1 : Int32} {h hz : y_H} {rz : Int32} (hf : f_X12_finds p0 p1 h = some (rz, hz)) : y_S l G M_X12_finds rm_X12_finds [y_p p0, .int p1] h (some (.int rz)) hz := by
  refine y_start (lv := [(0, y_p p0), (1, .int p1)]) (by decide) (by simp [lg_sl, y_p_cat, y_ci, y_cj, M_X12_finds]) (by simp [lv_args, y_p_cat, y_ci, y_cj]) (fun z ad0 => ?_)
  unfold f_X12_finds at hf
  refine y_aload_n (x := p0) (pc2 := 1) rfl dX12_finds_0 rfl ?_
  obtain ⟨g5, hf⟩ := y_g hf
  refine y_getP (pc2 := 4) rfl dX12_finds_1 F_BoxYardModel_134 (by decide) rfl g5 ?_
  refine y_iload_n (pc2 := 5) rfl dX12_finds_4 rfl ?_
  refine y_dup2 (pc2 := 6) rfl dX12_finds_5 rfl (y_p_cat _) ?_
  obtain ⟨g4, hf⟩ := y_g hf
  refine y_iald (pc2 := 7) rfl dX12_finds_6 g4.1 (y_ix_in g4.2) ?_
  refine y_iconst (v := 1) (pc2 := 8) rfl dX12_finds_7 (by decide) ?_
  refine y_iadd (pc2 := 9) rfl dX12_finds_8 ?_
  obtain ⟨g3, hf⟩ := y_g hf
  obtain ⟨h1, e2, hf⟩ := y_bdE hf
  refine y_iast (x := (y_I h (y_P h p0 48) (Int32.toNatClampNeg p1)) + 1) (pc2 := 10) rfl dX12_finds_9 g3.1 (y_ix_in g3.2) e2 ?_
  refine y_bipush (v := (-60 : Int32)) (pc2 := 12) rfl dX12_finds_10 (by decide) ?_
  refine y_iload_n (pc2 := 13) rfl dX12_finds_12 rfl ?_
  refine y_isub (pc2 := 14) rfl dX12_finds_13 ?_
  exact y_iretF hf dX12_finds_14 rfl (by decide) (by decide)
theorem dX12_body_0 : decode cX12_body 0 = .ok (.aload_n 0, 1) := by decide +kernel
theorem dX12_body_1 : decode cX12_body 1 = .ok (.iconst 0, 1) := by decide +kernel
theorem dX12_body_2 : decode cX12_body 2 = .ok (.putfield 249, 3) := by decide +kernel
theorem dX12_body_5 : decode cX12_body 5 = .ok (.aload_n 0, 1) := by decide +kernel
theorem dX12_body_6 : decode cX12_body 6 = .ok (.iload_n 1, 1) := by decide +kernel
theorem dX12_body_7 : decode cX12_body 7 = .ok (.invokevirtual 298, 3) := by decide +kernel
theorem dX12_body_10 : decode cX12_body 10 = .ok (.ifCond .ne 5, 3) := by decide +kernel
theorem dX12_body_13 : decode cX12_body 13 = .ok (.iconst (-1), 1) := by decide +kernel
theorem dX12_body_14 : decode cX12_body 14 = .ok (.ireturn, 1) := by decide +kernel
theorem dX12_body_15 : decode cX12_body 15 = .ok (.iload_n 2, 1) := by decide +kernel
theorem dX12_body_16 : decode cX12_body 16 = .ok (.iconst 0, 1) := by decide +kernel
theorem dX12_body_17 : decode cX12_body 17 = .ok (.iconst 3, 1) := by decide +kernel
theorem dX12_body_18 : decode cX12_body 18 = .ok (.invokestatic 278, 3) := by decide +kernel
theorem dX12_body_21 : decode cX12_body 21 = .ok (.ifCond .ne 6, 3) := by decide +kernel
theorem dX12_body_24 : decode cX12_body 24 = .ok (.bipush (-2), 2) := by decide +kernel
theorem dX12_body_26 : decode cX12_body 26 = .ok (.ireturn, 1) := by decide +kernel
theorem dX12_body_27 : decode cX12_body 27 = .ok (.iload_n 2, 1) := by decide +kernel
theorem dX12_body_28 : decode cX12_body 28 = .ok (.iconst 3, 1) := by decide +kernel
theorem dX12_body_29 : decode cX12_body 29 = .ok (.if_icmp .ne 19, 3) := by decide +kernel
theorem dX12_body_32 : decode cX12_body 32 = .ok (.aload_n 0, 1) := by decide +kernel
theorem dX12_body_33 : decode cX12_body 33 = .ok (.getfield 7, 3) := by decide +kernel
theorem dX12_body_36 : decode cX12_body 36 = .ok (.iload_n 1, 1) := by decide +kernel
theorem dX12_body_37 : decode cX12_body 37 = .ok (.iaload, 1) := by decide +kernel
theorem dX12_body_38 : decode cX12_body 38 = .ok (.iconst 1, 1) := by decide +kernel
theorem dX12_body_39 : decode cX12_body 39 = .ok (.if_icmp .eq 9, 3) := by decide +kernel
theorem dX12_body_42 : decode cX12_body 42 = .ok (.aload_n 0, 1) := by decide +kernel
theorem dX12_body_43 : decode cX12_body 43 = .ok (.iconst 5, 1) := by decide +kernel
theorem dX12_body_44 : decode cX12_body 44 = .ok (.invokevirtual 301, 3) := by decide +kernel
theorem dX12_body_47 : decode cX12_body 47 = .ok (.ireturn, 1) := by decide +kernel
theorem dX12_body_48 : decode cX12_body 48 = .ok (.iload_n 2, 1) := by decide +kernel
theorem dX12_body_49 : decode cX12_body 49 = .ok (.ifCond .ne 11, 3) := by decide +kernel
theorem dX12_body_52 : decode cX12_body 52 = .ok (.aload_n 0, 1) := by decide +kernel
theorem dX12_body_53 : decode cX12_body 53 = .ok (.iload_n 1, 1) := by decide +kernel
theorem dX12_body_54 : decode cX12_body 54 = .ok (.invokevirtual 304, 3) := by decide +kernel
theorem dX12_body_57 : decode cX12_body 57 = .ok (.goto 34, 3) := by decide +kernel
theorem dX12_body_60 : decode cX12_body 60 = .ok (.iload_n 2, 1) := by decide +kernel
theorem dX12_body_61 : decode cX12_body 61 = .ok (.iconst 1, 1) := by decide +kernel
theorem dX12_body_62 : decode cX12_body 62 = .ok (.if_icmp .ne 11, 3) := by decide +kernel
theorem dX12_body_65 : decode cX12_body 65 = .ok (.aload_n 0, 1) := by decide +kernel
theorem dX12_body_66 : decode cX12_body 66 = .ok (.iload_n 1, 1) := by decide +kernel
theorem dX12_body_67 : decode cX12_body 67 = .ok (.invokevirtual 307, 3) := by decide +kernel
theorem dX12_body_70 : decode cX12_body 70 = .ok (.goto 21, 3) := by decide +kernel
theorem dX12_body_73 : decode cX12_body 73 = .ok (.iload_n 2, 1) := by decide +kernel
theorem dX12_body_74 : decode cX12_body 74 = .ok (.iconst 2, 1) := by decide +kernel
theorem dX12_body_75 : decode cX12_body 75 = .ok (.if_icmp .ne 11, 3) := by decide +kernel
theorem dX12_body_78 : decode cX12_body 78 = .ok (.aload_n 0, 1) := by decide +kernel
theorem dX12_body_79 : decode cX12_body 79 = .ok (.iload_n 1, 1) := by decide +kernel
theorem dX12_body_80 : decode cX12_body 80 = .ok (.invokevirtual 310, 3) := by decide +kernel
theorem dX12_body_83 : decode cX12_body 83 = .ok (.goto 8, 3) := by decide +kernel
theorem dX12_body_86 : decode cX12_body 86 = .ok (.aload_n 0, 1) := by decide +kernel
theorem dX12_body_87 : decode cX12_body 87 = .ok (.iload_n 1, 1) := by decide +kernel
theorem dX12_body_88 : decode cX12_body 88 = .ok (.invokevirtual 313, 3) := by decide +kernel
theorem dX12_body_91 : decode cX12_body 91 = .ok (.ireturn, 1) := by decide +kernel
def M_X12_body : y_M := (yX12_body, cX12_body, 3, (Option.some Jvm.ClassFile.FieldType.int))
theorem n_X12_body : y_N0 M_X12_body 2 := ⟨(c_8 182 (by decide +kernel) rfl), (c_1 9 (by decide +kernel) rfl), ⟨by decide +kernel, by decide +kernel⟩, by decide +kernel⟩
theorem l_BoxYardModel_298 : y_lnk "BoxYardModel" 298 M_X12_isBox := Or.inl (c_8 183 (by decide +kernel) rfl)
theorem i_X12_isBox : Cond.instanceMethod (M_X12_isBox).1 ∈ y_tb := (c_8 185 (by decide +kernel) rfl)
theorem e_X12_isBox : Cond.selects (M_X12_isBox).1.cls (M_X12_isBox).1 (M_X12_isBox).1 ∈ y_tb := (m_s 58 (by decide +kernel) rfl)
theorem l_BoxYardModel_313 : y_lnk "BoxYardModel" 313 M_X12_watts := Or.inl (c_8 211 (by decide +kernel) rfl)
theorem i_X12_watts : Cond.instanceMethod (M_X12_watts).1 ∈ y_tb := (c_8 213 (by decide +kernel) rfl)
theorem e_X12_watts : Cond.selects (M_X12_watts).1.cls (M_X12_watts).1 (M_X12_watts).1 ∈ y_tb := (m_s 65 (by decide +kernel) rfl)
theorem l_BoxYardModel_310 : y_lnk "BoxYardModel" 310 M_X12_fee := Or.inl (c_8 203 (by decide +kernel) rfl)
theorem i_X12_fee : Cond.instanceMethod (M_X12_fee).1 ∈ y_tb := (c_8 205 (by decide +kernel) rfl)
theorem e_X12_fee : Cond.selects (M_X12_fee).1.cls (M_X12_fee).1 (M_X12_fee).1 ∈ y_tb := (m_s 63 (by decide +kernel) rfl)
theorem l_BoxYardModel_307 : y_lnk "BoxYardModel" 307 M_X12_tall := Or.inl (c_8 199 (by decide +kernel) rfl)
theorem i_X12_tall : Cond.instanceMethod (M_X12_tall).1 ∈ y_tb := (c_8 201 (by decide +kernel) rfl)
theorem e_X12_tall : Cond.selects (M_X12_tall).1.cls (M_X12_tall).1 (M_X12_tall).1 ∈ y_tb := (m_s 62 (by decide +kernel) rfl)
theorem l_BoxYardModel_304 : y_lnk "BoxYardModel" 304 M_X12_bears := Or.inl (c_8 191 (by decide +kernel) rfl)
theorem i_X12_bears : Cond.instanceMethod (M_X12_bears).1 ∈ y_tb := (c_8 193 (by decide +kernel) rfl)
theorem e_X12_bears : Cond.selects (M_X12_bears).1.cls (M_X12_bears).1 (M_X12_bears).1 ∈ y_tb := (m_s 60 (by decide +kernel) rfl)
theorem l_BoxYardModel_301 : y_lnk "BoxYardModel" 301 M_X12_finds := Or.inl (c_8 187 (by decide +kernel) rfl)
theorem i_X12_finds : Cond.instanceMethod (M_X12_finds).1 ∈ y_tb := (c_8 189 (by decide +kernel) rfl)
theorem e_X12_finds : Cond.selects (M_X12_finds).1.cls (M_X12_finds).1 (M_X12_finds).1 ∈ y_tb := (m_s 59 (by decide +kernel) rfl)
set_option maxRecDepth 100000 in
def f_X12_body (p0 : Nat) (p1 : Int32) (p2 : Int32) (h : y_H) : Option (Int32 × y_H) :=
  if y_K h p0 = 13 then
  y_bd (s_I h p0 46 0) (fun h1 =>
  if y_K h1 p0 = 13 then
  y_cl (f_X12_isBox p0 p1 h1) (fun r4 h5 =>
  if r4 = true then
    y_cl (f_X12_in p2 0 3 h5) (fun r7 h8 =>
    if r7 = true then
      y_jn (fun (v0_48 : Nat) (v1_48 : Int32) (v2_48 : Int32) (h10 : y_H) => (
          if v2_48 = 0 then
            if y_K h10 v0_48 = 13 then
            y_cl (f_X12_bears v0_48 v1_48 h10) (fun r25 h26 =>
            some (r25, h26))
            else none
          else
            if v2_48 = 1 then
              if y_K h10 v0_48 = 13 then
              y_cl (f_X12_tall v0_48 v1_48 h10) (fun r20 h21 =>
              some (r20, h21))
              else none
            else
              if v2_48 = 2 then
                if y_K h10 v0_48 = 13 then
                y_cl (f_X12_fee v0_48 v1_48 h10) (fun r15 h16 =>
                some (r15, h16))
                else none
              else
                if y_K h10 v0_48 = 13 then
                y_cl (f_X12_watts v0_48 v1_48 h10) (fun r11 h12 =>
                some (r11, h12))
                else none : Option (Int32 × y_H))) (fun j48 =>
      if p2 = 3 then
        if y_K h8 p0 = 13 then
        if y_K h8 (y_P h8 p0 1) = 100 ∧ y_ix p1 (y_N h8 (y_P h8 p0 1)) = true then
        if (y_I h8 (y_P h8 p0 1) (Int32.toNatClampNeg p1)) = 1 then
          j48 p0 p1 p2 h8
        else
          if y_K h8 p0 = 13 then
          y_cl (f_X12_finds p0 5 h8) (fun r30 h31 =>
          some (r30, h31))
          else none
        else none
        else none
      else
        j48 p0 p1 p2 h8)
    else
      some ((-2 : Int32), h8))
  else
    some ((-1 : Int32), h5))
  else none)
  else none
abbrev rm_X12_body : Room := { frames := 2, cells := 0, slots := 0, locals := 44 }
set_option maxRecDepth 100000 in
set_option maxHeartbeats 4000000 in
theorem k_X12_body {l : Launch} {G : y_G} {p0 : Nat} {p1 : Int32} {p2 : Int32} {h hz : y_H} {rz : Int32} (hf : f_X12_body p0 p1 p2 h = some (rz, hz)) : y_S l G M_X12_body rm_X12_body [y_p p0, .int p1, .int p2] h (some (.int rz)) hz := by
  refine y_start (lv := [(0, y_p p0), (1, .int p1), (2, .int p2)]) (by decide) (by simp [lg_sl, y_p_cat, y_ci, y_cj, M_X12_body]) (by simp [lv_args, y_p_cat, y_ci, y_cj]) (fun z ad0 => ?_)
  unfold f_X12_body at hf
  refine y_aload_n (x := p0) (pc2 := 1) rfl dX12_body_0 rfl ?_
  refine y_iconst (v := 0) (pc2 := 2) rfl dX12_body_1 (by decide) ?_
  obtain ⟨g3, hf⟩ := y_g hf
  obtain ⟨h1, e2, hf⟩ := y_bdE hf
  refine y_putI (x := 0) (pc2 := 5) rfl dX12_body_2 Fp_BoxYardModel_249 (by decide) rfl g3 e2 ?_
  refine y_aload_n (x := p0) (pc2 := 6) rfl dX12_body_5 rfl ?_
  refine y_iload_n (pc2 := 7) rfl dX12_body_6 rfl ?_
  obtain ⟨g40, hf⟩ := y_g hf
  obtain ⟨r4, h5, c6, hf⟩ := y_clE hf
  refine y_callV (As := [.int p1]) (rm := rm_X12_isBox) (cells := 0) (slots := 0) (pc2 := 10) rfl dX12_body_7 n_X12_isBox l_BoxYardModel_298 i_X12_isBox e_X12_isBox (ci := 12) rfl rfl (by decide) g40 rfl rfl (by decide) (by decide) (by decide) (k_X12_isBox c6) ?_
  refine y_ifz_ne (tgt := 15) (pc2 := 13) rfl dX12_body_10 (by decide) (fun c39 => ?_) (fun c39 => ?_)
  · replace hf := y_it c39 hf
    refine y_iload_n (pc2 := 16) rfl dX12_body_15 rfl ?_
    refine y_iconst (v := 0) (pc2 := 17) rfl dX12_body_16 (by decide) ?_
    refine y_iconst (v := 3) (pc2 := 18) rfl dX12_body_17 (by decide) ?_
    obtain ⟨r7, h8, c9, hf⟩ := y_clE hf
    refine y_callS (As := [.int p2, .int 0, .int 3]) (rm := rm_X12_in) (cells := 0) (slots := 0) (pc2 := 21) rfl dX12_body_18 n_X12_in l_BoxYardModel_278 t_X12_in rfl rfl (by decide) (by decide) (by decide) (k_X12_in c9) ?_
    refine y_ifz_ne (tgt := 27) (pc2 := 24) rfl dX12_body_21 (by decide) (fun c38 => ?_) (fun c38 => ?_)
    · replace hf := y_it c38 hf
      refine y_iload_n (pc2 := 28) rfl dX12_body_27 rfl ?_
      refine y_iconst (v := 3) (pc2 := 29) rfl dX12_body_28 (by decide) ?_
      refine y_jnE hf (fun j => ∀ (v0_48 : Nat) (v1_48 : Int32) (v2_48 : Int32) (h10 : y_H), j v0_48 v1_48 v2_48 h10 = some (rz, hz) → y_V l G z rm_X12_body M_X12_body ad0 h (some (.int rz)) hz 48 [(0, y_p v0_48), (1, .int v1_48), (2, .int v2_48)] [] h10 0 0) (fun v0_48 v1_48 v2_48 h10 hf => ?_) (fun j48 hj48 hf => ?_)
      · refine y_iload_n (pc2 := 49) rfl dX12_body_48 rfl ?_
        refine y_if_ne (tgt := 60) (pc2 := 52) rfl dX12_body_49 (by decide) (fun c29 => ?_) (fun c29 => ?_)
        · replace hf := y_ie c29 hf
          refine y_iload_n (pc2 := 61) rfl dX12_body_60 rfl ?_
          refine y_iconst (v := 1) (pc2 := 62) rfl dX12_body_61 (by decide) ?_
          refine y_icmp_ne (tgt := 73) (pc2 := 65) rfl dX12_body_62 (by decide) (fun c24 => ?_) (fun c24 => ?_)
          · replace hf := y_ie c24 hf
            refine y_iload_n (pc2 := 74) rfl dX12_body_73 rfl ?_
            refine y_iconst (v := 2) (pc2 := 75) rfl dX12_body_74 (by decide) ?_
            refine y_icmp_ne (tgt := 86) (pc2 := 78) rfl dX12_body_75 (by decide) (fun c19 => ?_) (fun c19 => ?_)
            · replace hf := y_ie c19 hf
              refine y_aload_n (x := v0_48) (pc2 := 87) rfl dX12_body_86 rfl ?_
              refine y_iload_n (pc2 := 88) rfl dX12_body_87 rfl ?_
              obtain ⟨g14, hf⟩ := y_g hf
              obtain ⟨r11, h12, c13, hf⟩ := y_clE hf
              refine y_callV (As := [.int v1_48]) (rm := rm_X12_watts) (cells := 0) (slots := 0) (pc2 := 91) rfl dX12_body_88 n_X12_watts l_BoxYardModel_313 i_X12_watts e_X12_watts (ci := 12) rfl rfl (by decide) g14 rfl rfl (by decide) (by decide) (by decide) (k_X12_watts c13) ?_
              exact y_iretF hf dX12_body_91 rfl (by decide) (by decide)
            · replace hf := y_it c19 hf
              refine y_aload_n (x := v0_48) (pc2 := 79) rfl dX12_body_78 rfl ?_
              refine y_iload_n (pc2 := 80) rfl dX12_body_79 rfl ?_
              obtain ⟨g18, hf⟩ := y_g hf
              obtain ⟨r15, h16, c17, hf⟩ := y_clE hf
              refine y_callV (As := [.int v1_48]) (rm := rm_X12_fee) (cells := 0) (slots := 0) (pc2 := 83) rfl dX12_body_80 n_X12_fee l_BoxYardModel_310 i_X12_fee e_X12_fee (ci := 12) rfl rfl (by decide) g18 rfl rfl (by decide) (by decide) (by decide) (k_X12_fee c17) ?_
              refine y_goto (tgt := 91) dX12_body_83 (by decide) ?_
              exact y_iretF hf dX12_body_91 rfl (by decide) (by decide)
          · replace hf := y_it c24 hf
            refine y_aload_n (x := v0_48) (pc2 := 66) rfl dX12_body_65 rfl ?_
            refine y_iload_n (pc2 := 67) rfl dX12_body_66 rfl ?_
            obtain ⟨g23, hf⟩ := y_g hf
            obtain ⟨r20, h21, c22, hf⟩ := y_clE hf
            refine y_callV (As := [.int v1_48]) (rm := rm_X12_tall) (cells := 0) (slots := 0) (pc2 := 70) rfl dX12_body_67 n_X12_tall l_BoxYardModel_307 i_X12_tall e_X12_tall (ci := 12) rfl rfl (by decide) g23 rfl rfl (by decide) (by decide) (by decide) (k_X12_tall c22) ?_
            refine y_goto (tgt := 91) dX12_body_70 (by decide) ?_
            exact y_iretF hf dX12_body_91 rfl (by decide) (by decide)
        · replace hf := y_it c29 hf
          refine y_aload_n (x := v0_48) (pc2 := 53) rfl dX12_body_52 rfl ?_
          refine y_iload_n (pc2 := 54) rfl dX12_body_53 rfl ?_
          obtain ⟨g28, hf⟩ := y_g hf
          obtain ⟨r25, h26, c27, hf⟩ := y_clE hf
          refine y_callV (As := [.int v1_48]) (rm := rm_X12_bears) (cells := 0) (slots := 0) (pc2 := 57) rfl dX12_body_54 n_X12_bears l_BoxYardModel_304 i_X12_bears e_X12_bears (ci := 12) rfl rfl (by decide) g28 rfl rfl (by decide) (by decide) (by decide) (k_X12_bears c27) ?_
          refine y_goto (tgt := 91) dX12_body_57 (by decide) ?_
          exact y_iretF hf dX12_body_91 rfl (by decide) (by decide)
      · refine y_icmp_ne (tgt := 48) (pc2 := 32) rfl dX12_body_29 (by decide) (fun c37 => ?_) (fun c37 => ?_)
        · replace hf := y_ie c37 hf
          exact y_pk [0, 1, 2] rfl (hj48 _ _ _ _ hf)
        · replace hf := y_it c37 hf
          refine y_aload_n (x := p0) (pc2 := 33) rfl dX12_body_32 rfl ?_
          obtain ⟨g36, hf⟩ := y_g hf
          refine y_getP (pc2 := 36) rfl dX12_body_33 F_BoxYardModel_7 (by decide) rfl g36 ?_
          refine y_iload_n (pc2 := 37) rfl dX12_body_36 rfl ?_
          obtain ⟨g35, hf⟩ := y_g hf
          refine y_iald (pc2 := 38) rfl dX12_body_37 g35.1 (y_ix_in g35.2) ?_
          refine y_iconst (v := 1) (pc2 := 39) rfl dX12_body_38 (by decide) ?_
          refine y_icmp_eq (tgt := 48) (pc2 := 42) rfl dX12_body_39 (by decide) (fun c34 => ?_) (fun c34 => ?_)
          · replace hf := y_it c34 hf
            exact y_pk [0, 1, 2] rfl (hj48 _ _ _ _ hf)
          · replace hf := y_ie c34 hf
            refine y_aload_n (x := p0) (pc2 := 43) rfl dX12_body_42 rfl ?_
            refine y_iconst (v := 5) (pc2 := 44) rfl dX12_body_43 (by decide) ?_
            obtain ⟨g33, hf⟩ := y_g hf
            obtain ⟨r30, h31, c32, hf⟩ := y_clE hf
            refine y_callV (As := [.int 5]) (rm := rm_X12_finds) (cells := 0) (slots := 0) (pc2 := 47) rfl dX12_body_44 n_X12_finds l_BoxYardModel_301 i_X12_finds e_X12_finds (ci := 12) rfl rfl (by decide) g33 rfl rfl (by decide) (by decide) (by decide) (k_X12_finds c32) ?_
            exact y_iretF hf dX12_body_47 rfl (by decide) (by decide)
    · replace hf := y_ie c38 hf
      refine y_bipush (v := (-2 : Int32)) (pc2 := 26) rfl dX12_body_24 (by decide) ?_
      exact y_iretF hf dX12_body_26 rfl (by decide) (by decide)
  · replace hf := y_ie c39 hf
    refine y_iconst (v := (-1 : Int32)) (pc2 := 14) rfl dX12_body_13 (by decide) ?_
    exact y_iretF hf dX12_body_14 rfl (by decide) (by decide)
theorem dX12_isWrong_0 : decode cX12_isWrong 0 = .ok (.aload_n 0, 1) := by decide +kernel
theorem dX12_isWrong_1 : decode cX12_isWrong 1 = .ok (.getfield 25, 3) := by decide +kernel
theorem dX12_isWrong_4 : decode cX12_isWrong 4 = .ok (.iload_n 1, 1) := by decide +kernel
theorem dX12_isWrong_5 : decode cX12_isWrong 5 = .ok (.baload, 1) := by decide +kernel
theorem dX12_isWrong_6 : decode cX12_isWrong 6 = .ok (.ifCond .eq 22, 3) := by decide +kernel
theorem dX12_isWrong_9 : decode cX12_isWrong 9 = .ok (.aload_n 0, 1) := by decide +kernel
theorem dX12_isWrong_10 : decode cX12_isWrong 10 = .ok (.getfield 13, 3) := by decide +kernel
theorem dX12_isWrong_13 : decode cX12_isWrong 13 = .ok (.iload_n 1, 1) := by decide +kernel
theorem dX12_isWrong_14 : decode cX12_isWrong 14 = .ok (.iaload, 1) := by decide +kernel
theorem dX12_isWrong_15 : decode cX12_isWrong 15 = .ok (.aload_n 0, 1) := by decide +kernel
theorem dX12_isWrong_16 : decode cX12_isWrong 16 = .ok (.getfield 16, 3) := by decide +kernel
theorem dX12_isWrong_19 : decode cX12_isWrong 19 = .ok (.iload_n 1, 1) := by decide +kernel
theorem dX12_isWrong_20 : decode cX12_isWrong 20 = .ok (.iaload, 1) := by decide +kernel
theorem dX12_isWrong_21 : decode cX12_isWrong 21 = .ok (.if_icmp .eq 7, 3) := by decide +kernel
theorem dX12_isWrong_24 : decode cX12_isWrong 24 = .ok (.iconst 1, 1) := by decide +kernel
theorem dX12_isWrong_25 : decode cX12_isWrong 25 = .ok (.goto 4, 3) := by decide +kernel
theorem dX12_isWrong_28 : decode cX12_isWrong 28 = .ok (.iconst 0, 1) := by decide +kernel
theorem dX12_isWrong_29 : decode cX12_isWrong 29 = .ok (.ireturn, 1) := by decide +kernel
def M_X12_isWrong : y_M := (yX12_isWrong, cX12_isWrong, 2, (Option.some Jvm.ClassFile.FieldType.boolean))
theorem n_X12_isWrong : y_N0 M_X12_isWrong 1 := ⟨(c_8 222 (by decide +kernel) rfl), (c_1 9 (by decide +kernel) rfl), ⟨by decide +kernel, by decide +kernel⟩, by decide +kernel⟩
set_option maxRecDepth 100000 in
def f_X12_isWrong (p0 : Nat) (p1 : Int32) (h : y_H) : Option (Bool × y_H) :=
  if y_K h p0 = 13 then
  if y_K h (y_P h p0 6) = 102 ∧ y_ix p1 (y_N h (y_P h p0 6)) = true then
  y_jn (fun (h1 : y_H) => (
      some (false, h1) : Option (Bool × y_H))) (fun j28 =>
  if (y_B h (y_P h p0 6) (Int32.toNatClampNeg p1)) = true then
    if y_K h p0 = 13 then
    if y_K h (y_P h p0 2) = 100 ∧ y_ix p1 (y_N h (y_P h p0 2)) = true then
    if y_K h p0 = 13 then
    if y_K h (y_P h p0 3) = 100 ∧ y_ix p1 (y_N h (y_P h p0 3)) = true then
    if (y_I h (y_P h p0 2) (Int32.toNatClampNeg p1)) = (y_I h (y_P h p0 3) (Int32.toNatClampNeg p1)) then
      j28 h
    else
      some (true, h)
    else none
    else none
    else none
    else none
  else
    j28 h)
  else none
  else none
abbrev rm_X12_isWrong : Room := { frames := 0, cells := 0, slots := 0, locals := 0 }
set_option maxRecDepth 100000 in
set_option maxHeartbeats 4000000 in
theorem k_X12_isWrong {l : Launch} {G : y_G} {p0 : Nat} {p1 : Int32} {h hz : y_H} {rz : Bool} (hf : f_X12_isWrong p0 p1 h = some (rz, hz)) : y_S l G M_X12_isWrong rm_X12_isWrong [y_p p0, .int p1] h (some (.int (y_z rz))) hz := by
  refine y_start (lv := [(0, y_p p0), (1, .int p1)]) (by decide) (by simp [lg_sl, y_p_cat, y_ci, y_cj, M_X12_isWrong]) (by simp [lv_args, y_p_cat, y_ci, y_cj]) (fun z ad0 => ?_)
  unfold f_X12_isWrong at hf
  refine y_aload_n (x := p0) (pc2 := 1) rfl dX12_isWrong_0 rfl ?_
  obtain ⟨g9, hf⟩ := y_g hf
  refine y_getP (pc2 := 4) rfl dX12_isWrong_1 F_BoxYardModel_25 (by decide) rfl g9 ?_
  refine y_iload_n (pc2 := 5) rfl dX12_isWrong_4 rfl ?_
  obtain ⟨g8, hf⟩ := y_g hf
  refine y_zald (pc2 := 6) rfl dX12_isWrong_5 g8.1 (y_ix_in g8.2) ?_
  refine y_jnE hf (fun j => ∀ (h1 : y_H), j h1 = some (rz, hz) → y_V l G z rm_X12_isWrong M_X12_isWrong ad0 h (some (.int (y_z rz))) hz 28 [] [] h1 0 0) (fun h1 hf => ?_) (fun j28 hj28 hf => ?_)
  · refine y_iconst (v := 0) (pc2 := 29) rfl dX12_isWrong_28 (by decide) ?_
    exact y_zretF (x := false) hf dX12_isWrong_29 rfl (by decide) (by decide)
  · refine y_ifz_eq (tgt := 28) (pc2 := 9) rfl dX12_isWrong_6 (by decide) (fun c7 => ?_) (fun c7 => ?_)
    · replace hf := y_ie c7 hf
      exact y_pk [] rfl (hj28 _ hf)
    · replace hf := y_it c7 hf
      refine y_aload_n (x := p0) (pc2 := 10) rfl dX12_isWrong_9 rfl ?_
      obtain ⟨g6, hf⟩ := y_g hf
      refine y_getP (pc2 := 13) rfl dX12_isWrong_10 F_BoxYardModel_13 (by decide) rfl g6 ?_
      refine y_iload_n (pc2 := 14) rfl dX12_isWrong_13 rfl ?_
      obtain ⟨g5, hf⟩ := y_g hf
      refine y_iald (pc2 := 15) rfl dX12_isWrong_14 g5.1 (y_ix_in g5.2) ?_
      refine y_aload_n (x := p0) (pc2 := 16) rfl dX12_isWrong_15 rfl ?_
      obtain ⟨g4, hf⟩ := y_g hf
      refine y_getP (pc2 := 19) rfl dX12_isWrong_16 F_BoxYardModel_16 (by decide) rfl g4 ?_
      refine y_iload_n (pc2 := 20) rfl dX12_isWrong_19 rfl ?_
      obtain ⟨g3, hf⟩ := y_g hf
      refine y_iald (pc2 := 21) rfl dX12_isWrong_20 g3.1 (y_ix_in g3.2) ?_
      refine y_icmp_eq (tgt := 28) (pc2 := 24) rfl dX12_isWrong_21 (by decide) (fun c2 => ?_) (fun c2 => ?_)
      · replace hf := y_it c2 hf
        exact y_pk [] rfl (hj28 _ hf)
      · replace hf := y_ie c2 hf
        refine y_iconst (v := 1) (pc2 := 25) rfl dX12_isWrong_24 (by decide) ?_
        refine y_goto (tgt := 29) dX12_isWrong_25 (by decide) ?_
        exact y_zretF (x := true) hf dX12_isWrong_29 rfl (by decide) (by decide)
theorem dX12_where_0 : decode cX12_where 0 = .ok (.aload_n 0, 1) := by decide +kernel
theorem dX12_where_1 : decode cX12_where 1 = .ok (.iload_n 1, 1) := by decide +kernel
theorem dX12_where_2 : decode cX12_where 2 = .ok (.invokevirtual 298, 3) := by decide +kernel
theorem dX12_where_5 : decode cX12_where 5 = .ok (.ifCond .ne 5, 3) := by decide +kernel
theorem dX12_where_8 : decode cX12_where 8 = .ok (.iconst (-1), 1) := by decide +kernel
theorem dX12_where_9 : decode cX12_where 9 = .ok (.ireturn, 1) := by decide +kernel
theorem dX12_where_10 : decode cX12_where 10 = .ok (.iload_n 2, 1) := by decide +kernel
theorem dX12_where_11 : decode cX12_where 11 = .ok (.tableswitch 137 0 9 #[53, 60, 67, 74, 81, 87, 102, 116, 123, 130], 53) := by decide +kernel
theorem dX12_where_64 : decode cX12_where 64 = .ok (.aload_n 0, 1) := by decide +kernel
theorem dX12_where_65 : decode cX12_where 65 = .ok (.getfield 29, 3) := by decide +kernel
theorem dX12_where_68 : decode cX12_where 68 = .ok (.iload_n 1, 1) := by decide +kernel
theorem dX12_where_69 : decode cX12_where 69 = .ok (.iaload, 1) := by decide +kernel
theorem dX12_where_70 : decode cX12_where 70 = .ok (.ireturn, 1) := by decide +kernel
theorem dX12_where_71 : decode cX12_where 71 = .ok (.aload_n 0, 1) := by decide +kernel
theorem dX12_where_72 : decode cX12_where 72 = .ok (.getfield 32, 3) := by decide +kernel
theorem dX12_where_75 : decode cX12_where 75 = .ok (.iload_n 1, 1) := by decide +kernel
theorem dX12_where_76 : decode cX12_where 76 = .ok (.iaload, 1) := by decide +kernel
theorem dX12_where_77 : decode cX12_where 77 = .ok (.ireturn, 1) := by decide +kernel
theorem dX12_where_78 : decode cX12_where 78 = .ok (.aload_n 0, 1) := by decide +kernel
theorem dX12_where_79 : decode cX12_where 79 = .ok (.getfield 35, 3) := by decide +kernel
theorem dX12_where_82 : decode cX12_where 82 = .ok (.iload_n 1, 1) := by decide +kernel
theorem dX12_where_83 : decode cX12_where 83 = .ok (.iaload, 1) := by decide +kernel
theorem dX12_where_84 : decode cX12_where 84 = .ok (.ireturn, 1) := by decide +kernel
theorem dX12_where_85 : decode cX12_where 85 = .ok (.aload_n 0, 1) := by decide +kernel
theorem dX12_where_86 : decode cX12_where 86 = .ok (.getfield 38, 3) := by decide +kernel
theorem dX12_where_89 : decode cX12_where 89 = .ok (.iload_n 1, 1) := by decide +kernel
theorem dX12_where_90 : decode cX12_where 90 = .ok (.iaload, 1) := by decide +kernel
theorem dX12_where_91 : decode cX12_where 91 = .ok (.ireturn, 1) := by decide +kernel
theorem dX12_where_92 : decode cX12_where 92 = .ok (.aload_n 0, 1) := by decide +kernel
theorem dX12_where_93 : decode cX12_where 93 = .ok (.iload_n 1, 1) := by decide +kernel
theorem dX12_where_94 : decode cX12_where 94 = .ok (.invokevirtual 290, 3) := by decide +kernel
theorem dX12_where_97 : decode cX12_where 97 = .ok (.ireturn, 1) := by decide +kernel
theorem dX12_where_98 : decode cX12_where 98 = .ok (.aload_n 0, 1) := by decide +kernel
theorem dX12_where_99 : decode cX12_where 99 = .ok (.getfield 25, 3) := by decide +kernel
theorem dX12_where_102 : decode cX12_where 102 = .ok (.iload_n 1, 1) := by decide +kernel
theorem dX12_where_103 : decode cX12_where 103 = .ok (.baload, 1) := by decide +kernel
theorem dX12_where_104 : decode cX12_where 104 = .ok (.ifCond .eq 7, 3) := by decide +kernel
theorem dX12_where_107 : decode cX12_where 107 = .ok (.iconst 1, 1) := by decide +kernel
theorem dX12_where_108 : decode cX12_where 108 = .ok (.goto 4, 3) := by decide +kernel
theorem dX12_where_111 : decode cX12_where 111 = .ok (.iconst 0, 1) := by decide +kernel
theorem dX12_where_112 : decode cX12_where 112 = .ok (.ireturn, 1) := by decide +kernel
theorem dX12_where_113 : decode cX12_where 113 = .ok (.aload_n 0, 1) := by decide +kernel
theorem dX12_where_114 : decode cX12_where 114 = .ok (.iload_n 1, 1) := by decide +kernel
theorem dX12_where_115 : decode cX12_where 115 = .ok (.invokevirtual 316, 3) := by decide +kernel
theorem dX12_where_118 : decode cX12_where 118 = .ok (.ifCond .eq 7, 3) := by decide +kernel
theorem dX12_where_121 : decode cX12_where 121 = .ok (.iconst 1, 1) := by decide +kernel
theorem dX12_where_122 : decode cX12_where 122 = .ok (.goto 4, 3) := by decide +kernel
theorem dX12_where_125 : decode cX12_where 125 = .ok (.iconst 0, 1) := by decide +kernel
theorem dX12_where_126 : decode cX12_where 126 = .ok (.ireturn, 1) := by decide +kernel
theorem dX12_where_127 : decode cX12_where 127 = .ok (.aload_n 0, 1) := by decide +kernel
theorem dX12_where_128 : decode cX12_where 128 = .ok (.getfield 41, 3) := by decide +kernel
theorem dX12_where_131 : decode cX12_where 131 = .ok (.iload_n 1, 1) := by decide +kernel
theorem dX12_where_132 : decode cX12_where 132 = .ok (.iaload, 1) := by decide +kernel
theorem dX12_where_133 : decode cX12_where 133 = .ok (.ireturn, 1) := by decide +kernel
theorem dX12_where_134 : decode cX12_where 134 = .ok (.aload_n 0, 1) := by decide +kernel
theorem dX12_where_135 : decode cX12_where 135 = .ok (.getfield 7, 3) := by decide +kernel
theorem dX12_where_138 : decode cX12_where 138 = .ok (.iload_n 1, 1) := by decide +kernel
theorem dX12_where_139 : decode cX12_where 139 = .ok (.iaload, 1) := by decide +kernel
theorem dX12_where_140 : decode cX12_where 140 = .ok (.ireturn, 1) := by decide +kernel
theorem dX12_where_141 : decode cX12_where 141 = .ok (.aload_n 0, 1) := by decide +kernel
theorem dX12_where_142 : decode cX12_where 142 = .ok (.getfield 22, 3) := by decide +kernel
theorem dX12_where_145 : decode cX12_where 145 = .ok (.iload_n 1, 1) := by decide +kernel
theorem dX12_where_146 : decode cX12_where 146 = .ok (.iaload, 1) := by decide +kernel
theorem dX12_where_147 : decode cX12_where 147 = .ok (.ireturn, 1) := by decide +kernel
theorem dX12_where_148 : decode cX12_where 148 = .ok (.bipush (-2), 2) := by decide +kernel
theorem dX12_where_150 : decode cX12_where 150 = .ok (.ireturn, 1) := by decide +kernel
def M_X12_where : y_M := (yX12_where, cX12_where, 3, (Option.some Jvm.ClassFile.FieldType.int))
theorem n_X12_where : y_N0 M_X12_where 2 := ⟨(c_8 218 (by decide +kernel) rfl), (c_1 9 (by decide +kernel) rfl), ⟨by decide +kernel, by decide +kernel⟩, by decide +kernel⟩
theorem l_BoxYardModel_316 : y_lnk "BoxYardModel" 316 M_X12_isWrong := Or.inl (c_8 219 (by decide +kernel) rfl)
theorem i_X12_isWrong : Cond.instanceMethod (M_X12_isWrong).1 ∈ y_tb := (c_8 221 (by decide +kernel) rfl)
theorem e_X12_isWrong : Cond.selects (M_X12_isWrong).1.cls (M_X12_isWrong).1 (M_X12_isWrong).1 ∈ y_tb := (m_s 66 (by decide +kernel) rfl)
set_option maxRecDepth 100000 in
def f_X12_where (p0 : Nat) (p1 : Int32) (p2 : Int32) (h : y_H) : Option (Int32 × y_H) :=
  if y_K h p0 = 13 then
  y_cl (f_X12_isBox p0 p1 h) (fun r1 h2 =>
  if r1 = true then
    if p2 = 0 then
      if y_K h2 p0 = 13 then
      if y_K h2 (y_P h2 p0 7) = 100 ∧ y_ix p1 (y_N h2 (y_P h2 p0 7)) = true then
      some (y_I h2 (y_P h2 p0 7) (Int32.toNatClampNeg p1), h2)
      else none
      else none
    else
    if p2 = 1 then
      if y_K h2 p0 = 13 then
      if y_K h2 (y_P h2 p0 8) = 100 ∧ y_ix p1 (y_N h2 (y_P h2 p0 8)) = true then
      some (y_I h2 (y_P h2 p0 8) (Int32.toNatClampNeg p1), h2)
      else none
      else none
    else
    if p2 = 2 then
      if y_K h2 p0 = 13 then
      if y_K h2 (y_P h2 p0 9) = 100 ∧ y_ix p1 (y_N h2 (y_P h2 p0 9)) = true then
      some (y_I h2 (y_P h2 p0 9) (Int32.toNatClampNeg p1), h2)
      else none
      else none
    else
    if p2 = 3 then
      if y_K h2 p0 = 13 then
      if y_K h2 (y_P h2 p0 10) = 100 ∧ y_ix p1 (y_N h2 (y_P h2 p0 10)) = true then
      some (y_I h2 (y_P h2 p0 10) (Int32.toNatClampNeg p1), h2)
      else none
      else none
    else
    if p2 = 4 then
      if y_K h2 p0 = 13 then
      y_cl (f_X12_known p0 p1 h2) (fun r17 h18 =>
      some (r17, h18))
      else none
    else
    if p2 = 5 then
      if y_K h2 p0 = 13 then
      if y_K h2 (y_P h2 p0 6) = 102 ∧ y_ix p1 (y_N h2 (y_P h2 p0 6)) = true then
      if (y_B h2 (y_P h2 p0 6) (Int32.toNatClampNeg p1)) = true then
        some (1, h2)
      else
        some (0, h2)
      else none
      else none
    else
    if p2 = 6 then
      if y_K h2 p0 = 13 then
      y_cl (f_X12_isWrong p0 p1 h2) (fun r26 h27 =>
      if r26 = true then
        some (1, h27)
      else
        some (0, h27))
      else none
    else
    if p2 = 7 then
      if y_K h2 p0 = 13 then
      if y_K h2 (y_P h2 p0 11) = 100 ∧ y_ix p1 (y_N h2 (y_P h2 p0 11)) = true then
      some (y_I h2 (y_P h2 p0 11) (Int32.toNatClampNeg p1), h2)
      else none
      else none
    else
    if p2 = 8 then
      if y_K h2 p0 = 13 then
      if y_K h2 (y_P h2 p0 1) = 100 ∧ y_ix p1 (y_N h2 (y_P h2 p0 1)) = true then
      some (y_I h2 (y_P h2 p0 1) (Int32.toNatClampNeg p1), h2)
      else none
      else none
    else
    if p2 = 9 then
      if y_K h2 p0 = 13 then
      if y_K h2 (y_P h2 p0 5) = 100 ∧ y_ix p1 (y_N h2 (y_P h2 p0 5)) = true then
      some (y_I h2 (y_P h2 p0 5) (Int32.toNatClampNeg p1), h2)
      else none
      else none
    else
    some ((-2 : Int32), h2)
  else
    some ((-1 : Int32), h2))
  else none
abbrev rm_X12_where : Room := { frames := 2, cells := 0, slots := 0, locals := 43 }
set_option maxRecDepth 100000 in
set_option maxHeartbeats 4000000 in
theorem k_X12_where {l : Launch} {G : y_G} {p0 : Nat} {p1 : Int32} {p2 : Int32} {h hz : y_H} {rz : Int32} (hf : f_X12_where p0 p1 p2 h = some (rz, hz)) : y_S l G M_X12_where rm_X12_where [y_p p0, .int p1, .int p2] h (some (.int rz)) hz := by
  refine y_start (lv := [(0, y_p p0), (1, .int p1), (2, .int p2)]) (by decide) (by simp [lg_sl, y_p_cat, y_ci, y_cj, M_X12_where]) (by simp [lv_args, y_p_cat, y_ci, y_cj]) (fun z ad0 => ?_)
  unfold f_X12_where at hf
  refine y_aload_n (x := p0) (pc2 := 1) rfl dX12_where_0 rfl ?_
  refine y_iload_n (pc2 := 2) rfl dX12_where_1 rfl ?_
  obtain ⟨g41, hf⟩ := y_g hf
  obtain ⟨r1, h2, c3, hf⟩ := y_clE hf
  refine y_callV (As := [.int p1]) (rm := rm_X12_isBox) (cells := 0) (slots := 0) (pc2 := 5) rfl dX12_where_2 n_X12_isBox l_BoxYardModel_298 i_X12_isBox e_X12_isBox (ci := 12) rfl rfl (by decide) g41 rfl rfl (by decide) (by decide) (by decide) (k_X12_isBox c3) ?_
  refine y_ifz_ne (tgt := 10) (pc2 := 8) rfl dX12_where_5 (by decide) (fun c40 => ?_) (fun c40 => ?_)
  · replace hf := y_it c40 hf
    refine y_iload_n (pc2 := 11) rfl dX12_where_10 rfl ?_
    by_cases c4 : p2 = 0
    · replace hf := y_it c4 hf
      refine y_table (off := 53) (tgt := 64) dX12_where_11 (by (rw [c4]) <;> decide) (by decide) ?_
      refine y_aload_n (x := p0) (pc2 := 65) rfl dX12_where_64 rfl ?_
      obtain ⟨g6, hf⟩ := y_g hf
      refine y_getP (pc2 := 68) rfl dX12_where_65 F_BoxYardModel_29 (by decide) rfl g6 ?_
      refine y_iload_n (pc2 := 69) rfl dX12_where_68 rfl ?_
      obtain ⟨g5, hf⟩ := y_g hf
      refine y_iald (pc2 := 70) rfl dX12_where_69 g5.1 (y_ix_in g5.2) ?_
      exact y_iretF hf dX12_where_70 rfl (by decide) (by decide)
    · replace hf := y_ie c4 hf
      by_cases c7 : p2 = 1
      · replace hf := y_it c7 hf
        refine y_table (off := 60) (tgt := 71) dX12_where_11 (by (rw [c7]) <;> decide) (by decide) ?_
        refine y_aload_n (x := p0) (pc2 := 72) rfl dX12_where_71 rfl ?_
        obtain ⟨g9, hf⟩ := y_g hf
        refine y_getP (pc2 := 75) rfl dX12_where_72 F_BoxYardModel_32 (by decide) rfl g9 ?_
        refine y_iload_n (pc2 := 76) rfl dX12_where_75 rfl ?_
        obtain ⟨g8, hf⟩ := y_g hf
        refine y_iald (pc2 := 77) rfl dX12_where_76 g8.1 (y_ix_in g8.2) ?_
        exact y_iretF hf dX12_where_77 rfl (by decide) (by decide)
      · replace hf := y_ie c7 hf
        by_cases c10 : p2 = 2
        · replace hf := y_it c10 hf
          refine y_table (off := 67) (tgt := 78) dX12_where_11 (by (rw [c10]) <;> decide) (by decide) ?_
          refine y_aload_n (x := p0) (pc2 := 79) rfl dX12_where_78 rfl ?_
          obtain ⟨g12, hf⟩ := y_g hf
          refine y_getP (pc2 := 82) rfl dX12_where_79 F_BoxYardModel_35 (by decide) rfl g12 ?_
          refine y_iload_n (pc2 := 83) rfl dX12_where_82 rfl ?_
          obtain ⟨g11, hf⟩ := y_g hf
          refine y_iald (pc2 := 84) rfl dX12_where_83 g11.1 (y_ix_in g11.2) ?_
          exact y_iretF hf dX12_where_84 rfl (by decide) (by decide)
        · replace hf := y_ie c10 hf
          by_cases c13 : p2 = 3
          · replace hf := y_it c13 hf
            refine y_table (off := 74) (tgt := 85) dX12_where_11 (by (rw [c13]) <;> decide) (by decide) ?_
            refine y_aload_n (x := p0) (pc2 := 86) rfl dX12_where_85 rfl ?_
            obtain ⟨g15, hf⟩ := y_g hf
            refine y_getP (pc2 := 89) rfl dX12_where_86 F_BoxYardModel_38 (by decide) rfl g15 ?_
            refine y_iload_n (pc2 := 90) rfl dX12_where_89 rfl ?_
            obtain ⟨g14, hf⟩ := y_g hf
            refine y_iald (pc2 := 91) rfl dX12_where_90 g14.1 (y_ix_in g14.2) ?_
            exact y_iretF hf dX12_where_91 rfl (by decide) (by decide)
          · replace hf := y_ie c13 hf
            by_cases c16 : p2 = 4
            · replace hf := y_it c16 hf
              refine y_table (off := 81) (tgt := 92) dX12_where_11 (by (rw [c16]) <;> decide) (by decide) ?_
              refine y_aload_n (x := p0) (pc2 := 93) rfl dX12_where_92 rfl ?_
              refine y_iload_n (pc2 := 94) rfl dX12_where_93 rfl ?_
              obtain ⟨g20, hf⟩ := y_g hf
              obtain ⟨r17, h18, c19, hf⟩ := y_clE hf
              refine y_callV (As := [.int p1]) (rm := rm_X12_known) (cells := 0) (slots := 0) (pc2 := 97) rfl dX12_where_94 n_X12_known l_BoxYardModel_290 i_X12_known e_X12_known (ci := 12) rfl rfl (by decide) g20 rfl rfl (by decide) (by decide) (by decide) (k_X12_known c19) ?_
              exact y_iretF hf dX12_where_97 rfl (by decide) (by decide)
            · replace hf := y_ie c16 hf
              by_cases c21 : p2 = 5
              · replace hf := y_it c21 hf
                refine y_table (off := 87) (tgt := 98) dX12_where_11 (by (rw [c21]) <;> decide) (by decide) ?_
                refine y_aload_n (x := p0) (pc2 := 99) rfl dX12_where_98 rfl ?_
                obtain ⟨g24, hf⟩ := y_g hf
                refine y_getP (pc2 := 102) rfl dX12_where_99 F_BoxYardModel_25 (by decide) rfl g24 ?_
                refine y_iload_n (pc2 := 103) rfl dX12_where_102 rfl ?_
                obtain ⟨g23, hf⟩ := y_g hf
                refine y_zald (pc2 := 104) rfl dX12_where_103 g23.1 (y_ix_in g23.2) ?_
                refine y_ifz_eq (tgt := 111) (pc2 := 107) rfl dX12_where_104 (by decide) (fun c22 => ?_) (fun c22 => ?_)
                · replace hf := y_ie c22 hf
                  refine y_iconst (v := 0) (pc2 := 112) rfl dX12_where_111 (by decide) ?_
                  exact y_iretF hf dX12_where_112 rfl (by decide) (by decide)
                · replace hf := y_it c22 hf
                  refine y_iconst (v := 1) (pc2 := 108) rfl dX12_where_107 (by decide) ?_
                  refine y_goto (tgt := 112) dX12_where_108 (by decide) ?_
                  exact y_iretF hf dX12_where_112 rfl (by decide) (by decide)
              · replace hf := y_ie c21 hf
                by_cases c25 : p2 = 6
                · replace hf := y_it c25 hf
                  refine y_table (off := 102) (tgt := 113) dX12_where_11 (by (rw [c25]) <;> decide) (by decide) ?_
                  refine y_aload_n (x := p0) (pc2 := 114) rfl dX12_where_113 rfl ?_
                  refine y_iload_n (pc2 := 115) rfl dX12_where_114 rfl ?_
                  obtain ⟨g30, hf⟩ := y_g hf
                  obtain ⟨r26, h27, c28, hf⟩ := y_clE hf
                  refine y_callV (As := [.int p1]) (rm := rm_X12_isWrong) (cells := 0) (slots := 0) (pc2 := 118) rfl dX12_where_115 n_X12_isWrong l_BoxYardModel_316 i_X12_isWrong e_X12_isWrong (ci := 12) rfl rfl (by decide) g30 rfl rfl (by decide) (by decide) (by decide) (k_X12_isWrong c28) ?_
                  refine y_ifz_eq (tgt := 125) (pc2 := 121) rfl dX12_where_118 (by decide) (fun c29 => ?_) (fun c29 => ?_)
                  · replace hf := y_ie c29 hf
                    refine y_iconst (v := 0) (pc2 := 126) rfl dX12_where_125 (by decide) ?_
                    exact y_iretF hf dX12_where_126 rfl (by decide) (by decide)
                  · replace hf := y_it c29 hf
                    refine y_iconst (v := 1) (pc2 := 122) rfl dX12_where_121 (by decide) ?_
                    refine y_goto (tgt := 126) dX12_where_122 (by decide) ?_
                    exact y_iretF hf dX12_where_126 rfl (by decide) (by decide)
                · replace hf := y_ie c25 hf
                  by_cases c31 : p2 = 7
                  · replace hf := y_it c31 hf
                    refine y_table (off := 116) (tgt := 127) dX12_where_11 (by (rw [c31]) <;> decide) (by decide) ?_
                    refine y_aload_n (x := p0) (pc2 := 128) rfl dX12_where_127 rfl ?_
                    obtain ⟨g33, hf⟩ := y_g hf
                    refine y_getP (pc2 := 131) rfl dX12_where_128 F_BoxYardModel_41 (by decide) rfl g33 ?_
                    refine y_iload_n (pc2 := 132) rfl dX12_where_131 rfl ?_
                    obtain ⟨g32, hf⟩ := y_g hf
                    refine y_iald (pc2 := 133) rfl dX12_where_132 g32.1 (y_ix_in g32.2) ?_
                    exact y_iretF hf dX12_where_133 rfl (by decide) (by decide)
                  · replace hf := y_ie c31 hf
                    by_cases c34 : p2 = 8
                    · replace hf := y_it c34 hf
                      refine y_table (off := 123) (tgt := 134) dX12_where_11 (by (rw [c34]) <;> decide) (by decide) ?_
                      refine y_aload_n (x := p0) (pc2 := 135) rfl dX12_where_134 rfl ?_
                      obtain ⟨g36, hf⟩ := y_g hf
                      refine y_getP (pc2 := 138) rfl dX12_where_135 F_BoxYardModel_7 (by decide) rfl g36 ?_
                      refine y_iload_n (pc2 := 139) rfl dX12_where_138 rfl ?_
                      obtain ⟨g35, hf⟩ := y_g hf
                      refine y_iald (pc2 := 140) rfl dX12_where_139 g35.1 (y_ix_in g35.2) ?_
                      exact y_iretF hf dX12_where_140 rfl (by decide) (by decide)
                    · replace hf := y_ie c34 hf
                      by_cases c37 : p2 = 9
                      · replace hf := y_it c37 hf
                        refine y_table (off := 130) (tgt := 141) dX12_where_11 (by (rw [c37]) <;> decide) (by decide) ?_
                        refine y_aload_n (x := p0) (pc2 := 142) rfl dX12_where_141 rfl ?_
                        obtain ⟨g39, hf⟩ := y_g hf
                        refine y_getP (pc2 := 145) rfl dX12_where_142 F_BoxYardModel_22 (by decide) rfl g39 ?_
                        refine y_iload_n (pc2 := 146) rfl dX12_where_145 rfl ?_
                        obtain ⟨g38, hf⟩ := y_g hf
                        refine y_iald (pc2 := 147) rfl dX12_where_146 g38.1 (y_ix_in g38.2) ?_
                        exact y_iretF hf dX12_where_147 rfl (by decide) (by decide)
                      · replace hf := y_ie c37 hf
                        refine y_table (off := 137) (tgt := 148) dX12_where_11 ((if_pos (by have q0 := lv_neT c4 (a := 0) (by decide); have q1 := lv_neT c7 (a := 1) (by decide); have q2 := lv_neT c10 (a := 2) (by decide); have q3 := lv_neT c13 (a := 3) (by decide); have q4 := lv_neT c16 (a := 4) (by decide); have q5 := lv_neT c21 (a := 5) (by decide); have q6 := lv_neT c25 (a := 6) (by decide); have q7 := lv_neT c31 (a := 7) (by decide); have q8 := lv_neT c34 (a := 8) (by decide); have q9 := lv_neT c37 (a := 9) (by decide); omega))) (by decide) ?_
                        refine y_bipush (v := (-2 : Int32)) (pc2 := 150) rfl dX12_where_148 (by decide) ?_
                        exact y_iretF hf dX12_where_150 rfl (by decide) (by decide)
  · replace hf := y_ie c40 hf
    refine y_iconst (v := (-1 : Int32)) (pc2 := 9) rfl dX12_where_8 (by decide) ?_
    exact y_iretF hf dX12_where_9 rfl (by decide) (by decide)
theorem dX12_bay_0 : decode cX12_bay 0 = .ok (.iload_n 1, 1) := by decide +kernel
theorem dX12_bay_1 : decode cX12_bay 1 = .ok (.iconst 0, 1) := by decide +kernel
theorem dX12_bay_2 : decode cX12_bay 2 = .ok (.bipush 9, 2) := by decide +kernel
theorem dX12_bay_4 : decode cX12_bay 4 = .ok (.invokestatic 278, 3) := by decide +kernel
theorem dX12_bay_7 : decode cX12_bay 7 = .ok (.ifCond .ne 5, 3) := by decide +kernel
theorem dX12_bay_10 : decode cX12_bay 10 = .ok (.iconst (-1), 1) := by decide +kernel
theorem dX12_bay_11 : decode cX12_bay 11 = .ok (.ireturn, 1) := by decide +kernel
theorem dX12_bay_12 : decode cX12_bay 12 = .ok (.iconst 0, 1) := by decide +kernel
theorem dX12_bay_13 : decode cX12_bay 13 = .ok (.istore 4, 2) := by decide +kernel
theorem dX12_bay_15 : decode cX12_bay 15 = .ok (.iload_n 3, 1) := by decide +kernel
theorem dX12_bay_16 : decode cX12_bay 16 = .ok (.istore 5, 2) := by decide +kernel
theorem dX12_bay_18 : decode cX12_bay 18 = .ok (.iload_n 2, 1) := by decide +kernel
theorem dX12_bay_19 : decode cX12_bay 19 = .ok (.iconst 0, 1) := by decide +kernel
theorem dX12_bay_20 : decode cX12_bay 20 = .ok (.iconst 3, 1) := by decide +kernel
theorem dX12_bay_21 : decode cX12_bay 21 = .ok (.invokestatic 278, 3) := by decide +kernel
theorem dX12_bay_24 : decode cX12_bay 24 = .ok (.ifCond .eq 11, 3) := by decide +kernel
theorem dX12_bay_27 : decode cX12_bay 27 = .ok (.iload_n 3, 1) := by decide +kernel
theorem dX12_bay_28 : decode cX12_bay 28 = .ok (.ifCond .le 7, 3) := by decide +kernel
theorem dX12_bay_31 : decode cX12_bay 31 = .ok (.iconst 1, 1) := by decide +kernel
theorem dX12_bay_32 : decode cX12_bay 32 = .ok (.goto 4, 3) := by decide +kernel
theorem dX12_bay_35 : decode cX12_bay 35 = .ok (.iconst 0, 1) := by decide +kernel
theorem dX12_bay_36 : decode cX12_bay 36 = .ok (.istore 6, 2) := by decide +kernel
theorem dX12_bay_38 : decode cX12_bay 38 = .ok (.iload 5, 2) := by decide +kernel
theorem dX12_bay_40 : decode cX12_bay 40 = .ok (.ifCond .le 48, 3) := by decide +kernel
theorem dX12_bay_43 : decode cX12_bay 43 = .ok (.iload 6, 2) := by decide +kernel
theorem dX12_bay_45 : decode cX12_bay 45 = .ok (.ifCond .eq 27, 3) := by decide +kernel
theorem dX12_bay_48 : decode cX12_bay 48 = .ok (.iload 4, 2) := by decide +kernel
theorem dX12_bay_50 : decode cX12_bay 50 = .ok (.bipush 6, 2) := by decide +kernel
theorem dX12_bay_52 : decode cX12_bay 52 = .ok (.if_icmp .ge 20, 3) := by decide +kernel
theorem dX12_bay_55 : decode cX12_bay 55 = .ok (.iload 5, 2) := by decide +kernel
theorem dX12_bay_57 : decode cX12_bay 57 = .ok (.bipush 10, 2) := by decide +kernel
theorem dX12_bay_59 : decode cX12_bay 59 = .ok (.irem, 1) := by decide +kernel
theorem dX12_bay_60 : decode cX12_bay 60 = .ok (.iconst 1, 1) := by decide +kernel
theorem dX12_bay_61 : decode cX12_bay 61 = .ok (.iconst 5, 1) := by decide +kernel
theorem dX12_bay_62 : decode cX12_bay 62 = .ok (.invokestatic 278, 3) := by decide +kernel
theorem dX12_bay_65 : decode cX12_bay 65 = .ok (.ifCond .eq 7, 3) := by decide +kernel
theorem dX12_bay_68 : decode cX12_bay 68 = .ok (.iconst 1, 1) := by decide +kernel
theorem dX12_bay_69 : decode cX12_bay 69 = .ok (.goto 4, 3) := by decide +kernel
theorem dX12_bay_72 : decode cX12_bay 72 = .ok (.iconst 0, 1) := by decide +kernel
theorem dX12_bay_73 : decode cX12_bay 73 = .ok (.istore 6, 2) := by decide +kernel
theorem dX12_bay_75 : decode cX12_bay 75 = .ok (.iload 5, 2) := by decide +kernel
theorem dX12_bay_77 : decode cX12_bay 77 = .ok (.bipush 10, 2) := by decide +kernel
theorem dX12_bay_79 : decode cX12_bay 79 = .ok (.idiv, 1) := by decide +kernel
theorem dX12_bay_80 : decode cX12_bay 80 = .ok (.istore 5, 2) := by decide +kernel
theorem dX12_bay_82 : decode cX12_bay 82 = .ok (.iinc 4 1, 3) := by decide +kernel
theorem dX12_bay_85 : decode cX12_bay 85 = .ok (.goto (-47), 3) := by decide +kernel
theorem dX12_bay_88 : decode cX12_bay 88 = .ok (.iload 6, 2) := by decide +kernel
theorem dX12_bay_90 : decode cX12_bay 90 = .ok (.ifCond .ne 6, 3) := by decide +kernel
theorem dX12_bay_93 : decode cX12_bay 93 = .ok (.bipush (-2), 2) := by decide +kernel
theorem dX12_bay_95 : decode cX12_bay 95 = .ok (.ireturn, 1) := by decide +kernel
theorem dX12_bay_96 : decode cX12_bay 96 = .ok (.aload_n 0, 1) := by decide +kernel
theorem dX12_bay_97 : decode cX12_bay 97 = .ok (.getfield 56, 3) := by decide +kernel
theorem dX12_bay_100 : decode cX12_bay 100 = .ok (.iload_n 1, 1) := by decide +kernel
theorem dX12_bay_101 : decode cX12_bay 101 = .ok (.baload, 1) := by decide +kernel
theorem dX12_bay_102 : decode cX12_bay 102 = .ok (.ifCond .eq 6, 3) := by decide +kernel
theorem dX12_bay_105 : decode cX12_bay 105 = .ok (.bipush (-3), 2) := by decide +kernel
theorem dX12_bay_107 : decode cX12_bay 107 = .ok (.ireturn, 1) := by decide +kernel
theorem dX12_bay_108 : decode cX12_bay 108 = .ok (.aload_n 0, 1) := by decide +kernel
theorem dX12_bay_109 : decode cX12_bay 109 = .ok (.getfield 56, 3) := by decide +kernel
theorem dX12_bay_112 : decode cX12_bay 112 = .ok (.iload_n 1, 1) := by decide +kernel
theorem dX12_bay_113 : decode cX12_bay 113 = .ok (.iconst 1, 1) := by decide +kernel
theorem dX12_bay_114 : decode cX12_bay 114 = .ok (.bastore, 1) := by decide +kernel
theorem dX12_bay_115 : decode cX12_bay 115 = .ok (.aload_n 0, 1) := by decide +kernel
theorem dX12_bay_116 : decode cX12_bay 116 = .ok (.getfield 59, 3) := by decide +kernel
theorem dX12_bay_119 : decode cX12_bay 119 = .ok (.iload_n 1, 1) := by decide +kernel
theorem dX12_bay_120 : decode cX12_bay 120 = .ok (.iload_n 2, 1) := by decide +kernel
theorem dX12_bay_121 : decode cX12_bay 121 = .ok (.iastore, 1) := by decide +kernel
theorem dX12_bay_122 : decode cX12_bay 122 = .ok (.aload_n 0, 1) := by decide +kernel
theorem dX12_bay_123 : decode cX12_bay 123 = .ok (.getfield 62, 3) := by decide +kernel
theorem dX12_bay_126 : decode cX12_bay 126 = .ok (.iload_n 1, 1) := by decide +kernel
theorem dX12_bay_127 : decode cX12_bay 127 = .ok (.iload 4, 2) := by decide +kernel
theorem dX12_bay_129 : decode cX12_bay 129 = .ok (.iastore, 1) := by decide +kernel
theorem dX12_bay_130 : decode cX12_bay 130 = .ok (.iload_n 3, 1) := by decide +kernel
theorem dX12_bay_131 : decode cX12_bay 131 = .ok (.istore 5, 2) := by decide +kernel
theorem dX12_bay_133 : decode cX12_bay 133 = .ok (.iconst 0, 1) := by decide +kernel
theorem dX12_bay_134 : decode cX12_bay 134 = .ok (.istore 7, 2) := by decide +kernel
theorem dX12_bay_136 : decode cX12_bay 136 = .ok (.iload 7, 2) := by decide +kernel
theorem dX12_bay_138 : decode cX12_bay 138 = .ok (.iload 4, 2) := by decide +kernel
theorem dX12_bay_140 : decode cX12_bay 140 = .ok (.if_icmp .ge 33, 3) := by decide +kernel
theorem dX12_bay_143 : decode cX12_bay 143 = .ok (.aload_n 0, 1) := by decide +kernel
theorem dX12_bay_144 : decode cX12_bay 144 = .ok (.getfield 65, 3) := by decide +kernel
theorem dX12_bay_147 : decode cX12_bay 147 = .ok (.bipush 6, 2) := by decide +kernel
theorem dX12_bay_149 : decode cX12_bay 149 = .ok (.iload_n 1, 1) := by decide +kernel
theorem dX12_bay_150 : decode cX12_bay 150 = .ok (.imul, 1) := by decide +kernel
theorem dX12_bay_151 : decode cX12_bay 151 = .ok (.iload 7, 2) := by decide +kernel
theorem dX12_bay_153 : decode cX12_bay 153 = .ok (.iadd, 1) := by decide +kernel
theorem dX12_bay_154 : decode cX12_bay 154 = .ok (.iload 5, 2) := by decide +kernel
theorem dX12_bay_156 : decode cX12_bay 156 = .ok (.bipush 10, 2) := by decide +kernel
theorem dX12_bay_158 : decode cX12_bay 158 = .ok (.irem, 1) := by decide +kernel
theorem dX12_bay_159 : decode cX12_bay 159 = .ok (.iastore, 1) := by decide +kernel
theorem dX12_bay_160 : decode cX12_bay 160 = .ok (.iload 5, 2) := by decide +kernel
theorem dX12_bay_162 : decode cX12_bay 162 = .ok (.bipush 10, 2) := by decide +kernel
theorem dX12_bay_164 : decode cX12_bay 164 = .ok (.idiv, 1) := by decide +kernel
theorem dX12_bay_165 : decode cX12_bay 165 = .ok (.istore 5, 2) := by decide +kernel
theorem dX12_bay_167 : decode cX12_bay 167 = .ok (.iinc 7 1, 3) := by decide +kernel
theorem dX12_bay_170 : decode cX12_bay 170 = .ok (.goto (-34), 3) := by decide +kernel
theorem dX12_bay_173 : decode cX12_bay 173 = .ok (.aload_n 0, 1) := by decide +kernel
theorem dX12_bay_174 : decode cX12_bay 174 = .ok (.iconst 0, 1) := by decide +kernel
theorem dX12_bay_175 : decode cX12_bay 175 = .ok (.putfield 255, 3) := by decide +kernel
theorem dX12_bay_178 : decode cX12_bay 178 = .ok (.iload 4, 2) := by decide +kernel
theorem dX12_bay_180 : decode cX12_bay 180 = .ok (.ireturn, 1) := by decide +kernel
def M_X12_bay : y_M := (yX12_bay, cX12_bay, 8, (Option.some Jvm.ClassFile.FieldType.int))
theorem n_X12_bay : y_N0 M_X12_bay 3 := ⟨(c_8 226 (by decide +kernel) rfl), (c_1 9 (by decide +kernel) rfl), ⟨by decide +kernel, by decide +kernel⟩, by decide +kernel⟩
theorem F_BoxYardModel_59 : y_F "BoxYardModel" 59 12 18 := ⟨_, _, _, rfl, by decide, Or.inl (c_7 140 (by decide +kernel) rfl)⟩
theorem F_BoxYardModel_65 : y_F "BoxYardModel" 65 12 20 := ⟨_, _, _, rfl, by decide, Or.inl (c_7 142 (by decide +kernel) rfl)⟩
set_option maxRecDepth 100000 in
def f_X12_bay (p0 : Nat) (p1 : Int32) (p2 : Int32) (p3 : Int32) (h : y_H) : Option (Int32 × y_H) :=
  y_cl (f_X12_in p1 0 9 h) (fun r1 h2 =>
  if r1 = true then
    y_cl (f_X12_in p2 0 3 h2) (fun r4 h5 =>
    y_jn (fun (v0_35 : Nat) (v1_35 : Int32) (v2_35 : Int32) (v3_35 : Int32) (v4_35 : Int32) (v5_35 : Int32) (h7 : y_H) => (
        y_jl (fun (_ : Nat) (_ : Int32) (_ : Int32) (_ : Int32) (_ : Int32) (_ : Int32) (_ : Int32) (_ : y_H) => (none : Option (Int32 × y_H))) (fun j38 (v0_38 : Nat) (v1_38 : Int32) (v2_38 : Int32) (v3_38 : Int32) (v4_38 : Int32) (v5_38 : Int32) (v6_38 : Int32) (h8 : y_H) =>
            if v5_38 ≤ 0 then
              if v6_38 = 0 then
                some ((-2 : Int32), h8)
              else
                if y_K h8 v0_38 = 13 then
                if y_K h8 (y_P h8 v0_38 17) = 102 ∧ y_ix v1_38 (y_N h8 (y_P h8 v0_38 17)) = true then
                if (y_B h8 (y_P h8 v0_38 17) (Int32.toNatClampNeg v1_38)) = true then
                  some ((-3 : Int32), h8)
                else
                  if y_K h8 v0_38 = 13 then
                  if y_K h8 (y_P h8 v0_38 17) = 102 ∧ y_ix v1_38 (y_N h8 (y_P h8 v0_38 17)) = true then
                  y_bd (s_B h8 (y_P h8 v0_38 17) (Int32.toNatClampNeg v1_38) true) (fun h9 =>
                  if y_K h9 v0_38 = 13 then
                  if y_K h9 (y_P h9 v0_38 18) = 100 ∧ y_ix v1_38 (y_N h9 (y_P h9 v0_38 18)) = true then
                  y_bd (s_I h9 (y_P h9 v0_38 18) (Int32.toNatClampNeg v1_38) v2_38) (fun h12 =>
                  if y_K h12 v0_38 = 13 then
                  if y_K h12 (y_P h12 v0_38 19) = 100 ∧ y_ix v1_38 (y_N h12 (y_P h12 v0_38 19)) = true then
                  y_bd (s_I h12 (y_P h12 v0_38 19) (Int32.toNatClampNeg v1_38) v4_38) (fun h15 =>
                  y_jl (fun (_ : Nat) (_ : Int32) (_ : Int32) (_ : Int32) (_ : Int32) (_ : y_H) => (none : Option (Int32 × y_H))) (fun j136 (v0_136 : Nat) (v1_136 : Int32) (v4_136 : Int32) (v5_136 : Int32) (v7_136 : Int32) (h18 : y_H) =>
                      if v4_136 ≤ v7_136 then
                        if y_K h18 v0_136 = 13 then
                        y_bd (s_I h18 v0_136 50 0) (fun h19 =>
                        some (v4_136, h19))
                        else none
                      else
                        if y_K h18 v0_136 = 13 then
                        if y_K h18 (y_P h18 v0_136 20) = 100 ∧ y_ix ((6 * v1_136) + v7_136) (y_N h18 (y_P h18 v0_136 20)) = true then
                        y_bd (s_I h18 (y_P h18 v0_136 20) (Int32.toNatClampNeg ((6 * v1_136) + v7_136)) (y_rem v5_136 10)) (fun h22 =>
                        j136 v0_136 v1_136 v4_136 (v5_136 / 10) (v7_136 + 1) h22)
                        else none
                        else none) (fun j136 =>
                  j136 v0_38 v1_38 v4_38 v3_38 0 h15))
                  else none
                  else none)
                  else none
                  else none)
                  else none
                  else none
                else none
                else none
            else
              y_jn (fun (v0_72 : Nat) (v1_72 : Int32) (v2_72 : Int32) (v3_72 : Int32) (v4_72 : Int32) (v5_72 : Int32) (h34 : y_H) => (
                  j38 v0_72 v1_72 v2_72 v3_72 (v4_72 + 1) (v5_72 / 10) 0 h34 : Option (Int32 × y_H))) (fun j72 =>
              if v6_38 = 0 then
                j72 v0_38 v1_38 v2_38 v3_38 v4_38 v5_38 h8
              else
                if 6 ≤ v4_38 then
                  j72 v0_38 v1_38 v2_38 v3_38 v4_38 v5_38 h8
                else
                  y_cl (f_X12_in (y_rem v5_38 10) 1 5 h8) (fun r35 h36 =>
                  if r35 = true then
                    j38 v0_38 v1_38 v2_38 v3_38 (v4_38 + 1) (v5_38 / 10) 1 h36
                  else
                    j72 v0_38 v1_38 v2_38 v3_38 v4_38 v5_38 h36))) (fun j38 =>
        j38 v0_35 v1_35 v2_35 v3_35 v4_35 v5_35 0 h7) : Option (Int32 × y_H))) (fun j35 =>
    if r4 = true then
      if p3 ≤ 0 then
        j35 p0 p1 p2 p3 0 p3 h5
      else
        y_jl (fun (_ : Nat) (_ : Int32) (_ : Int32) (_ : Int32) (_ : Int32) (_ : Int32) (_ : Int32) (_ : y_H) => (none : Option (Int32 × y_H))) (fun j38 (v0_38 : Nat) (v1_38 : Int32) (v2_38 : Int32) (v3_38 : Int32) (v4_38 : Int32) (v5_38 : Int32) (v6_38 : Int32) (h42 : y_H) =>
            if v5_38 ≤ 0 then
              if v6_38 = 0 then
                some ((-2 : Int32), h42)
              else
                if y_K h42 v0_38 = 13 then
                if y_K h42 (y_P h42 v0_38 17) = 102 ∧ y_ix v1_38 (y_N h42 (y_P h42 v0_38 17)) = true then
                if (y_B h42 (y_P h42 v0_38 17) (Int32.toNatClampNeg v1_38)) = true then
                  some ((-3 : Int32), h42)
                else
                  if y_K h42 v0_38 = 13 then
                  if y_K h42 (y_P h42 v0_38 17) = 102 ∧ y_ix v1_38 (y_N h42 (y_P h42 v0_38 17)) = true then
                  y_bd (s_B h42 (y_P h42 v0_38 17) (Int32.toNatClampNeg v1_38) true) (fun h43 =>
                  if y_K h43 v0_38 = 13 then
                  if y_K h43 (y_P h43 v0_38 18) = 100 ∧ y_ix v1_38 (y_N h43 (y_P h43 v0_38 18)) = true then
                  y_bd (s_I h43 (y_P h43 v0_38 18) (Int32.toNatClampNeg v1_38) v2_38) (fun h46 =>
                  if y_K h46 v0_38 = 13 then
                  if y_K h46 (y_P h46 v0_38 19) = 100 ∧ y_ix v1_38 (y_N h46 (y_P h46 v0_38 19)) = true then
                  y_bd (s_I h46 (y_P h46 v0_38 19) (Int32.toNatClampNeg v1_38) v4_38) (fun h49 =>
                  y_jl (fun (_ : Nat) (_ : Int32) (_ : Int32) (_ : Int32) (_ : Int32) (_ : y_H) => (none : Option (Int32 × y_H))) (fun j136 (v0_136 : Nat) (v1_136 : Int32) (v4_136 : Int32) (v5_136 : Int32) (v7_136 : Int32) (h52 : y_H) =>
                      if v4_136 ≤ v7_136 then
                        if y_K h52 v0_136 = 13 then
                        y_bd (s_I h52 v0_136 50 0) (fun h53 =>
                        some (v4_136, h53))
                        else none
                      else
                        if y_K h52 v0_136 = 13 then
                        if y_K h52 (y_P h52 v0_136 20) = 100 ∧ y_ix ((6 * v1_136) + v7_136) (y_N h52 (y_P h52 v0_136 20)) = true then
                        y_bd (s_I h52 (y_P h52 v0_136 20) (Int32.toNatClampNeg ((6 * v1_136) + v7_136)) (y_rem v5_136 10)) (fun h56 =>
                        j136 v0_136 v1_136 v4_136 (v5_136 / 10) (v7_136 + 1) h56)
                        else none
                        else none) (fun j136 =>
                  j136 v0_38 v1_38 v4_38 v3_38 0 h49))
                  else none
                  else none)
                  else none
                  else none)
                  else none
                  else none
                else none
                else none
            else
              y_jn (fun (v0_72 : Nat) (v1_72 : Int32) (v2_72 : Int32) (v3_72 : Int32) (v4_72 : Int32) (v5_72 : Int32) (h68 : y_H) => (
                  j38 v0_72 v1_72 v2_72 v3_72 (v4_72 + 1) (v5_72 / 10) 0 h68 : Option (Int32 × y_H))) (fun j72 =>
              if v6_38 = 0 then
                j72 v0_38 v1_38 v2_38 v3_38 v4_38 v5_38 h42
              else
                if 6 ≤ v4_38 then
                  j72 v0_38 v1_38 v2_38 v3_38 v4_38 v5_38 h42
                else
                  y_cl (f_X12_in (y_rem v5_38 10) 1 5 h42) (fun r69 h70 =>
                  if r69 = true then
                    j38 v0_38 v1_38 v2_38 v3_38 (v4_38 + 1) (v5_38 / 10) 1 h70
                  else
                    j72 v0_38 v1_38 v2_38 v3_38 v4_38 v5_38 h70))) (fun j38 =>
        j38 p0 p1 p2 p3 0 p3 1 h5)
    else
      j35 p0 p1 p2 p3 0 p3 h5))
  else
    some ((-1 : Int32), h2))
abbrev rm_X12_bay : Room := { frames := 1, cells := 0, slots := 0, locals := 22 }
set_option maxRecDepth 100000 in
set_option maxHeartbeats 4000000 in
theorem k_X12_bay {l : Launch} {G : y_G} {p0 : Nat} {p1 : Int32} {p2 : Int32} {p3 : Int32} {h hz : y_H} {rz : Int32} (hf : f_X12_bay p0 p1 p2 p3 h = some (rz, hz)) : y_S l G M_X12_bay rm_X12_bay [y_p p0, .int p1, .int p2, .int p3] h (some (.int rz)) hz := by
  refine y_start (lv := [(0, y_p p0), (1, .int p1), (2, .int p2), (3, .int p3)]) (by decide) (by simp [lg_sl, y_p_cat, y_ci, y_cj, M_X12_bay]) (by simp [lv_args, y_p_cat, y_ci, y_cj]) (fun z ad0 => ?_)
  unfold f_X12_bay at hf
  refine y_iload_n (pc2 := 1) rfl dX12_bay_0 rfl ?_
  refine y_iconst (v := 0) (pc2 := 2) rfl dX12_bay_1 (by decide) ?_
  refine y_bipush (v := 9) (pc2 := 4) rfl dX12_bay_2 (by decide) ?_
  obtain ⟨r1, h2, c3, hf⟩ := y_clE hf
  refine y_callS (As := [.int p1, .int 0, .int 9]) (rm := rm_X12_in) (cells := 0) (slots := 0) (pc2 := 7) rfl dX12_bay_4 n_X12_in l_BoxYardModel_278 t_X12_in rfl rfl (by decide) (by decide) (by decide) (k_X12_in c3) ?_
  refine y_ifz_ne (tgt := 12) (pc2 := 10) rfl dX12_bay_7 (by decide) (fun c78 => ?_) (fun c78 => ?_)
  · replace hf := y_it c78 hf
    refine y_iconst (v := 0) (pc2 := 13) rfl dX12_bay_12 (by decide) ?_
    refine y_istore (lv' := [(4, .int 0), (0, y_p p0), (1, .int p1), (2, .int p2), (3, .int p3)]) (pc2 := 15) rfl dX12_bay_13 (by decide) rfl ?_
    refine y_iload_n (pc2 := 16) rfl dX12_bay_15 rfl ?_
    refine y_istore (lv' := [(5, .int p3), (4, .int 0), (0, y_p p0), (1, .int p1), (2, .int p2), (3, .int p3)]) (pc2 := 18) rfl dX12_bay_16 (by decide) rfl ?_
    refine y_iload_n (pc2 := 19) rfl dX12_bay_18 rfl ?_
    refine y_iconst (v := 0) (pc2 := 20) rfl dX12_bay_19 (by decide) ?_
    refine y_iconst (v := 3) (pc2 := 21) rfl dX12_bay_20 (by decide) ?_
    obtain ⟨r4, h5, c6, hf⟩ := y_clE hf
    refine y_callS (As := [.int p2, .int 0, .int 3]) (rm := rm_X12_in) (cells := 0) (slots := 0) (pc2 := 24) rfl dX12_bay_21 n_X12_in l_BoxYardModel_278 t_X12_in rfl rfl (by decide) (by decide) (by decide) (k_X12_in c6) ?_
    refine y_jnE hf (fun j => ∀ (v0_35 : Nat) (v1_35 : Int32) (v2_35 : Int32) (v3_35 : Int32) (v4_35 : Int32) (v5_35 : Int32) (h7 : y_H), j v0_35 v1_35 v2_35 v3_35 v4_35 v5_35 h7 = some (rz, hz) → y_V l G z rm_X12_bay M_X12_bay ad0 h (some (.int rz)) hz 35 [(0, y_p v0_35), (1, .int v1_35), (2, .int v2_35), (3, .int v3_35), (4, .int v4_35), (5, .int v5_35)] [] h7 0 0) (fun v0_35 v1_35 v2_35 v3_35 v4_35 v5_35 h7 hf => ?_) (fun j35 hj35 hf => ?_)
    · refine y_iconst (v := 0) (pc2 := 36) rfl dX12_bay_35 (by decide) ?_
      refine y_jlE hf (fun j => ∀ (v0_38 : Nat) (v1_38 : Int32) (v2_38 : Int32) (v3_38 : Int32) (v4_38 : Int32) (v5_38 : Int32) (v6_38 : Int32) (h8 : y_H), j v0_38 v1_38 v2_38 v3_38 v4_38 v5_38 v6_38 h8 = some (rz, hz) → y_V l G z rm_X12_bay M_X12_bay ad0 h (some (.int rz)) hz 38 [(0, y_p v0_38), (1, .int v1_38), (2, .int v2_38), (3, .int v3_38), (4, .int v4_38), (5, .int v5_38), (6, .int v6_38)] [] h8 0 0) (fun _ _ _ _ _ _ _ _ hf => by cases hf) (fun j38 hj38 v0_38 v1_38 v2_38 v3_38 v4_38 v5_38 v6_38 h8 hf => ?_) (fun j38 hj38 hf => ?_)
      · refine y_iload (pc2 := 40) rfl dX12_bay_38 rfl ?_
        refine y_if_le (tgt := 88) (pc2 := 43) rfl dX12_bay_40 (by decide) (fun c41 => ?_) (fun c41 => ?_)
        · replace hf := y_it c41 hf
          refine y_iload (pc2 := 90) rfl dX12_bay_88 rfl ?_
          refine y_if_ne (tgt := 96) (pc2 := 93) rfl dX12_bay_90 (by decide) (fun c33 => ?_) (fun c33 => ?_)
          · replace hf := y_ie c33 hf
            refine y_aload_n (x := v0_38) (pc2 := 97) rfl dX12_bay_96 rfl ?_
            obtain ⟨g32, hf⟩ := y_g hf
            refine y_getP (pc2 := 100) rfl dX12_bay_97 F_BoxYardModel_56 (by decide) rfl g32 ?_
            refine y_iload_n (pc2 := 101) rfl dX12_bay_100 rfl ?_
            obtain ⟨g31, hf⟩ := y_g hf
            refine y_zald (pc2 := 102) rfl dX12_bay_101 g31.1 (y_ix_in g31.2) ?_
            refine y_ifz_eq (tgt := 108) (pc2 := 105) rfl dX12_bay_102 (by decide) (fun c30 => ?_) (fun c30 => ?_)
            · replace hf := y_ie c30 hf
              refine y_aload_n (x := v0_38) (pc2 := 109) rfl dX12_bay_108 rfl ?_
              obtain ⟨g29, hf⟩ := y_g hf
              refine y_getP (pc2 := 112) rfl dX12_bay_109 F_BoxYardModel_56 (by decide) rfl g29 ?_
              refine y_iload_n (pc2 := 113) rfl dX12_bay_112 rfl ?_
              refine y_iconst (v := 1) (pc2 := 114) rfl dX12_bay_113 (by decide) ?_
              obtain ⟨g11, hf⟩ := y_g hf
              obtain ⟨h9, e10, hf⟩ := y_bdE hf
              refine y_zast (x := true) (pc2 := 115) rfl dX12_bay_114 g11.1 (y_ix_in g11.2) e10 ?_
              refine y_aload_n (x := v0_38) (pc2 := 116) rfl dX12_bay_115 rfl ?_
              obtain ⟨g28, hf⟩ := y_g hf
              refine y_getP (pc2 := 119) rfl dX12_bay_116 F_BoxYardModel_59 (by decide) rfl g28 ?_
              refine y_iload_n (pc2 := 120) rfl dX12_bay_119 rfl ?_
              refine y_iload_n (pc2 := 121) rfl dX12_bay_120 rfl ?_
              obtain ⟨g14, hf⟩ := y_g hf
              obtain ⟨h12, e13, hf⟩ := y_bdE hf
              refine y_iast (x := v2_38) (pc2 := 122) rfl dX12_bay_121 g14.1 (y_ix_in g14.2) e13 ?_
              refine y_aload_n (x := v0_38) (pc2 := 123) rfl dX12_bay_122 rfl ?_
              obtain ⟨g27, hf⟩ := y_g hf
              refine y_getP (pc2 := 126) rfl dX12_bay_123 F_BoxYardModel_62 (by decide) rfl g27 ?_
              refine y_iload_n (pc2 := 127) rfl dX12_bay_126 rfl ?_
              refine y_iload (pc2 := 129) rfl dX12_bay_127 rfl ?_
              obtain ⟨g17, hf⟩ := y_g hf
              obtain ⟨h15, e16, hf⟩ := y_bdE hf
              refine y_iast (x := v4_38) (pc2 := 130) rfl dX12_bay_129 g17.1 (y_ix_in g17.2) e16 ?_
              refine y_iload_n (pc2 := 131) rfl dX12_bay_130 rfl ?_
              refine y_istore (lv' := [(5, .int v3_38), (0, y_p v0_38), (1, .int v1_38), (2, .int v2_38), (3, .int v3_38), (4, .int v4_38), (6, .int v6_38)]) (pc2 := 133) rfl dX12_bay_131 (by decide) rfl ?_
              refine y_iconst (v := 0) (pc2 := 134) rfl dX12_bay_133 (by decide) ?_
              refine y_jlE hf (fun j => ∀ (v0_136 : Nat) (v1_136 : Int32) (v4_136 : Int32) (v5_136 : Int32) (v7_136 : Int32) (h18 : y_H), j v0_136 v1_136 v4_136 v5_136 v7_136 h18 = some (rz, hz) → y_V l G z rm_X12_bay M_X12_bay ad0 h (some (.int rz)) hz 136 [(0, y_p v0_136), (1, .int v1_136), (4, .int v4_136), (5, .int v5_136), (7, .int v7_136)] [] h18 0 0) (fun _ _ _ _ _ _ hf => by cases hf) (fun j136 hj136 v0_136 v1_136 v4_136 v5_136 v7_136 h18 hf => ?_) (fun j136 hj136 hf => ?_)
              · refine y_iload (pc2 := 138) rfl dX12_bay_136 rfl ?_
                refine y_iload (pc2 := 140) rfl dX12_bay_138 rfl ?_
                refine y_icmp_ge (tgt := 173) (pc2 := 143) rfl dX12_bay_140 (by decide) (fun c26 => ?_) (fun c26 => ?_)
                · replace hf := y_it c26 hf
                  refine y_aload_n (x := v0_136) (pc2 := 174) rfl dX12_bay_173 rfl ?_
                  refine y_iconst (v := 0) (pc2 := 175) rfl dX12_bay_174 (by decide) ?_
                  obtain ⟨g21, hf⟩ := y_g hf
                  obtain ⟨h19, e20, hf⟩ := y_bdE hf
                  refine y_putI (x := 0) (pc2 := 178) rfl dX12_bay_175 Fp_BoxYardModel_255 (by decide) rfl g21 e20 ?_
                  refine y_iload (pc2 := 180) rfl dX12_bay_178 rfl ?_
                  exact y_iretF hf dX12_bay_180 rfl (by decide) (by decide)
                · replace hf := y_ie c26 hf
                  refine y_aload_n (x := v0_136) (pc2 := 144) rfl dX12_bay_143 rfl ?_
                  obtain ⟨g25, hf⟩ := y_g hf
                  refine y_getP (pc2 := 147) rfl dX12_bay_144 F_BoxYardModel_65 (by decide) rfl g25 ?_
                  refine y_bipush (v := 6) (pc2 := 149) rfl dX12_bay_147 (by decide) ?_
                  refine y_iload_n (pc2 := 150) rfl dX12_bay_149 rfl ?_
                  refine y_imul (pc2 := 151) rfl dX12_bay_150 ?_
                  refine y_iload (pc2 := 153) rfl dX12_bay_151 rfl ?_
                  refine y_iadd (pc2 := 154) rfl dX12_bay_153 ?_
                  refine y_iload (pc2 := 156) rfl dX12_bay_154 rfl ?_
                  refine y_bipush (v := 10) (pc2 := 158) rfl dX12_bay_156 (by decide) ?_
                  refine y_rm (pc2 := 159) rfl dX12_bay_158 (by decide) ?_
                  obtain ⟨g24, hf⟩ := y_g hf
                  obtain ⟨h22, e23, hf⟩ := y_bdE hf
                  refine y_iast (x := y_rem v5_136 10) (pc2 := 160) rfl dX12_bay_159 g24.1 (y_ix_in g24.2) e23 ?_
                  refine y_iload (pc2 := 162) rfl dX12_bay_160 rfl ?_
                  refine y_bipush (v := 10) (pc2 := 164) rfl dX12_bay_162 (by decide) ?_
                  refine y_idiv (pc2 := 165) rfl dX12_bay_164 (by decide) ?_
                  refine y_istore (lv' := [(5, .int (v5_136 / 10)), (0, y_p v0_136), (1, .int v1_136), (4, .int v4_136), (7, .int v7_136)]) (pc2 := 167) rfl dX12_bay_165 (by decide) rfl ?_
                  refine y_iinc (v := v7_136 + 1) (lv' := [(7, .int (v7_136 + 1)), (5, .int (v5_136 / 10)), (0, y_p v0_136), (1, .int v1_136), (4, .int v4_136)]) (pc2 := 170) rfl dX12_bay_167 rfl rfl (by decide) rfl ?_
                  refine y_goto (tgt := 136) dX12_bay_170 (by decide) ?_
                  exact y_pk [2, 3, 4, 1, 0] rfl (hj136 _ _ _ _ _ _ hf)
              · refine y_istore (lv' := [(7, .int 0), (5, .int v3_38), (0, y_p v0_38), (1, .int v1_38), (2, .int v2_38), (3, .int v3_38), (4, .int v4_38), (6, .int v6_38)]) (pc2 := 136) rfl dX12_bay_134 (by decide) rfl ?_
                exact y_pk [2, 3, 6, 1, 0] rfl (hj136 _ _ _ _ _ _ hf)
            · replace hf := y_it c30 hf
              refine y_bipush (v := (-3 : Int32)) (pc2 := 107) rfl dX12_bay_105 (by decide) ?_
              exact y_iretF hf dX12_bay_107 rfl (by decide) (by decide)
          · replace hf := y_it c33 hf
            refine y_bipush (v := (-2 : Int32)) (pc2 := 95) rfl dX12_bay_93 (by decide) ?_
            exact y_iretF hf dX12_bay_95 rfl (by decide) (by decide)
        · replace hf := y_ie c41 hf
          refine y_iload (pc2 := 45) rfl dX12_bay_43 rfl ?_
          refine y_jnE hf (fun j => ∀ (v0_72 : Nat) (v1_72 : Int32) (v2_72 : Int32) (v3_72 : Int32) (v4_72 : Int32) (v5_72 : Int32) (h34 : y_H), j v0_72 v1_72 v2_72 v3_72 v4_72 v5_72 h34 = some (rz, hz) → y_V l G z rm_X12_bay M_X12_bay ad0 h (some (.int rz)) hz 72 [(0, y_p v0_72), (1, .int v1_72), (2, .int v2_72), (3, .int v3_72), (4, .int v4_72), (5, .int v5_72)] [] h34 0 0) (fun v0_72 v1_72 v2_72 v3_72 v4_72 v5_72 h34 hf => ?_) (fun j72 hj72 hf => ?_)
          · refine y_iconst (v := 0) (pc2 := 73) rfl dX12_bay_72 (by decide) ?_
            refine y_istore (lv' := [(6, .int 0), (0, y_p v0_72), (1, .int v1_72), (2, .int v2_72), (3, .int v3_72), (4, .int v4_72), (5, .int v5_72)]) (pc2 := 75) rfl dX12_bay_73 (by decide) rfl ?_
            refine y_iload (pc2 := 77) rfl dX12_bay_75 rfl ?_
            refine y_bipush (v := 10) (pc2 := 79) rfl dX12_bay_77 (by decide) ?_
            refine y_idiv (pc2 := 80) rfl dX12_bay_79 (by decide) ?_
            refine y_istore (lv' := [(5, .int (v5_72 / 10)), (6, .int 0), (0, y_p v0_72), (1, .int v1_72), (2, .int v2_72), (3, .int v3_72), (4, .int v4_72)]) (pc2 := 82) rfl dX12_bay_80 (by decide) rfl ?_
            refine y_iinc (v := v4_72 + 1) (lv' := [(4, .int (v4_72 + 1)), (5, .int (v5_72 / 10)), (6, .int 0), (0, y_p v0_72), (1, .int v1_72), (2, .int v2_72), (3, .int v3_72)]) (pc2 := 85) rfl dX12_bay_82 rfl rfl (by decide) rfl ?_
            refine y_goto (tgt := 38) dX12_bay_85 (by decide) ?_
            exact y_pk [3, 4, 5, 6, 0, 1, 2] rfl (hj38 _ _ _ _ _ _ _ _ hf)
          · refine y_if_eq (tgt := 72) (pc2 := 48) rfl dX12_bay_45 (by decide) (fun c40 => ?_) (fun c40 => ?_)
            · replace hf := y_it c40 hf
              exact y_pk [0, 1, 2, 3, 4, 5] rfl (hj72 _ _ _ _ _ _ _ hf)
            · replace hf := y_ie c40 hf
              refine y_iload (pc2 := 50) rfl dX12_bay_48 rfl ?_
              refine y_bipush (v := 6) (pc2 := 52) rfl dX12_bay_50 (by decide) ?_
              refine y_icmp_ge (tgt := 72) (pc2 := 55) rfl dX12_bay_52 (by decide) (fun c39 => ?_) (fun c39 => ?_)
              · replace hf := y_it c39 hf
                exact y_pk [0, 1, 2, 3, 4, 5] rfl (hj72 _ _ _ _ _ _ _ hf)
              · replace hf := y_ie c39 hf
                refine y_iload (pc2 := 57) rfl dX12_bay_55 rfl ?_
                refine y_bipush (v := 10) (pc2 := 59) rfl dX12_bay_57 (by decide) ?_
                refine y_rm (pc2 := 60) rfl dX12_bay_59 (by decide) ?_
                refine y_iconst (v := 1) (pc2 := 61) rfl dX12_bay_60 (by decide) ?_
                refine y_iconst (v := 5) (pc2 := 62) rfl dX12_bay_61 (by decide) ?_
                obtain ⟨r35, h36, c37, hf⟩ := y_clE hf
                refine y_callS (As := [.int (y_rem v5_38 10), .int 1, .int 5]) (rm := rm_X12_in) (cells := 0) (slots := 0) (pc2 := 65) rfl dX12_bay_62 n_X12_in l_BoxYardModel_278 t_X12_in rfl rfl (by decide) (by decide) (by decide) (k_X12_in c37) ?_
                refine y_ifz_eq (tgt := 72) (pc2 := 68) rfl dX12_bay_65 (by decide) (fun c38 => ?_) (fun c38 => ?_)
                · replace hf := y_ie c38 hf
                  exact y_pk [0, 1, 2, 3, 4, 5] rfl (hj72 _ _ _ _ _ _ _ hf)
                · replace hf := y_it c38 hf
                  refine y_iconst (v := 1) (pc2 := 69) rfl dX12_bay_68 (by decide) ?_
                  refine y_goto (tgt := 73) dX12_bay_69 (by decide) ?_
                  refine y_istore (lv' := [(6, .int 1), (0, y_p v0_38), (1, .int v1_38), (2, .int v2_38), (3, .int v3_38), (4, .int v4_38), (5, .int v5_38)]) (pc2 := 75) rfl dX12_bay_73 (by decide) rfl ?_
                  refine y_iload (pc2 := 77) rfl dX12_bay_75 rfl ?_
                  refine y_bipush (v := 10) (pc2 := 79) rfl dX12_bay_77 (by decide) ?_
                  refine y_idiv (pc2 := 80) rfl dX12_bay_79 (by decide) ?_
                  refine y_istore (lv' := [(5, .int (v5_38 / 10)), (6, .int 1), (0, y_p v0_38), (1, .int v1_38), (2, .int v2_38), (3, .int v3_38), (4, .int v4_38)]) (pc2 := 82) rfl dX12_bay_80 (by decide) rfl ?_
                  refine y_iinc (v := v4_38 + 1) (lv' := [(4, .int (v4_38 + 1)), (5, .int (v5_38 / 10)), (6, .int 1), (0, y_p v0_38), (1, .int v1_38), (2, .int v2_38), (3, .int v3_38)]) (pc2 := 85) rfl dX12_bay_82 rfl rfl (by decide) rfl ?_
                  refine y_goto (tgt := 38) dX12_bay_85 (by decide) ?_
                  exact y_pk [3, 4, 5, 6, 0, 1, 2] rfl (hj38 _ _ _ _ _ _ _ _ hf)
      · refine y_istore (lv' := [(6, .int 0), (0, y_p v0_35), (1, .int v1_35), (2, .int v2_35), (3, .int v3_35), (4, .int v4_35), (5, .int v5_35)]) (pc2 := 38) rfl dX12_bay_36 (by decide) rfl ?_
        exact y_pk [1, 2, 3, 4, 5, 6, 0] rfl (hj38 _ _ _ _ _ _ _ _ hf)
    · refine y_ifz_eq (tgt := 35) (pc2 := 27) rfl dX12_bay_24 (by decide) (fun c77 => ?_) (fun c77 => ?_)
      · replace hf := y_ie c77 hf
        exact y_pk [2, 3, 4, 5, 1, 0] rfl (hj35 _ _ _ _ _ _ _ hf)
      · replace hf := y_it c77 hf
        refine y_iload_n (pc2 := 28) rfl dX12_bay_27 rfl ?_
        refine y_if_le (tgt := 35) (pc2 := 31) rfl dX12_bay_28 (by decide) (fun c76 => ?_) (fun c76 => ?_)
        · replace hf := y_it c76 hf
          exact y_pk [2, 3, 4, 5, 1, 0] rfl (hj35 _ _ _ _ _ _ _ hf)
        · replace hf := y_ie c76 hf
          refine y_iconst (v := 1) (pc2 := 32) rfl dX12_bay_31 (by decide) ?_
          refine y_goto (tgt := 36) dX12_bay_32 (by decide) ?_
          refine y_jlE hf (fun j => ∀ (v0_38 : Nat) (v1_38 : Int32) (v2_38 : Int32) (v3_38 : Int32) (v4_38 : Int32) (v5_38 : Int32) (v6_38 : Int32) (h42 : y_H), j v0_38 v1_38 v2_38 v3_38 v4_38 v5_38 v6_38 h42 = some (rz, hz) → y_V l G z rm_X12_bay M_X12_bay ad0 h (some (.int rz)) hz 38 [(0, y_p v0_38), (1, .int v1_38), (2, .int v2_38), (3, .int v3_38), (4, .int v4_38), (5, .int v5_38), (6, .int v6_38)] [] h42 0 0) (fun _ _ _ _ _ _ _ _ hf => by cases hf) (fun j38 hj38 v0_38 v1_38 v2_38 v3_38 v4_38 v5_38 v6_38 h42 hf => ?_) (fun j38 hj38 hf => ?_)
          · refine y_iload (pc2 := 40) rfl dX12_bay_38 rfl ?_
            refine y_if_le (tgt := 88) (pc2 := 43) rfl dX12_bay_40 (by decide) (fun c75 => ?_) (fun c75 => ?_)
            · replace hf := y_it c75 hf
              refine y_iload (pc2 := 90) rfl dX12_bay_88 rfl ?_
              refine y_if_ne (tgt := 96) (pc2 := 93) rfl dX12_bay_90 (by decide) (fun c67 => ?_) (fun c67 => ?_)
              · replace hf := y_ie c67 hf
                refine y_aload_n (x := v0_38) (pc2 := 97) rfl dX12_bay_96 rfl ?_
                obtain ⟨g66, hf⟩ := y_g hf
                refine y_getP (pc2 := 100) rfl dX12_bay_97 F_BoxYardModel_56 (by decide) rfl g66 ?_
                refine y_iload_n (pc2 := 101) rfl dX12_bay_100 rfl ?_
                obtain ⟨g65, hf⟩ := y_g hf
                refine y_zald (pc2 := 102) rfl dX12_bay_101 g65.1 (y_ix_in g65.2) ?_
                refine y_ifz_eq (tgt := 108) (pc2 := 105) rfl dX12_bay_102 (by decide) (fun c64 => ?_) (fun c64 => ?_)
                · replace hf := y_ie c64 hf
                  refine y_aload_n (x := v0_38) (pc2 := 109) rfl dX12_bay_108 rfl ?_
                  obtain ⟨g63, hf⟩ := y_g hf
                  refine y_getP (pc2 := 112) rfl dX12_bay_109 F_BoxYardModel_56 (by decide) rfl g63 ?_
                  refine y_iload_n (pc2 := 113) rfl dX12_bay_112 rfl ?_
                  refine y_iconst (v := 1) (pc2 := 114) rfl dX12_bay_113 (by decide) ?_
                  obtain ⟨g45, hf⟩ := y_g hf
                  obtain ⟨h43, e44, hf⟩ := y_bdE hf
                  refine y_zast (x := true) (pc2 := 115) rfl dX12_bay_114 g45.1 (y_ix_in g45.2) e44 ?_
                  refine y_aload_n (x := v0_38) (pc2 := 116) rfl dX12_bay_115 rfl ?_
                  obtain ⟨g62, hf⟩ := y_g hf
                  refine y_getP (pc2 := 119) rfl dX12_bay_116 F_BoxYardModel_59 (by decide) rfl g62 ?_
                  refine y_iload_n (pc2 := 120) rfl dX12_bay_119 rfl ?_
                  refine y_iload_n (pc2 := 121) rfl dX12_bay_120 rfl ?_
                  obtain ⟨g48, hf⟩ := y_g hf
                  obtain ⟨h46, e47, hf⟩ := y_bdE hf
                  refine y_iast (x := v2_38) (pc2 := 122) rfl dX12_bay_121 g48.1 (y_ix_in g48.2) e47 ?_
                  refine y_aload_n (x := v0_38) (pc2 := 123) rfl dX12_bay_122 rfl ?_
                  obtain ⟨g61, hf⟩ := y_g hf
                  refine y_getP (pc2 := 126) rfl dX12_bay_123 F_BoxYardModel_62 (by decide) rfl g61 ?_
                  refine y_iload_n (pc2 := 127) rfl dX12_bay_126 rfl ?_
                  refine y_iload (pc2 := 129) rfl dX12_bay_127 rfl ?_
                  obtain ⟨g51, hf⟩ := y_g hf
                  obtain ⟨h49, e50, hf⟩ := y_bdE hf
                  refine y_iast (x := v4_38) (pc2 := 130) rfl dX12_bay_129 g51.1 (y_ix_in g51.2) e50 ?_
                  refine y_iload_n (pc2 := 131) rfl dX12_bay_130 rfl ?_
                  refine y_istore (lv' := [(5, .int v3_38), (0, y_p v0_38), (1, .int v1_38), (2, .int v2_38), (3, .int v3_38), (4, .int v4_38), (6, .int v6_38)]) (pc2 := 133) rfl dX12_bay_131 (by decide) rfl ?_
                  refine y_iconst (v := 0) (pc2 := 134) rfl dX12_bay_133 (by decide) ?_
                  refine y_jlE hf (fun j => ∀ (v0_136 : Nat) (v1_136 : Int32) (v4_136 : Int32) (v5_136 : Int32) (v7_136 : Int32) (h52 : y_H), j v0_136 v1_136 v4_136 v5_136 v7_136 h52 = some (rz, hz) → y_V l G z rm_X12_bay M_X12_bay ad0 h (some (.int rz)) hz 136 [(0, y_p v0_136), (1, .int v1_136), (4, .int v4_136), (5, .int v5_136), (7, .int v7_136)] [] h52 0 0) (fun _ _ _ _ _ _ hf => by cases hf) (fun j136 hj136 v0_136 v1_136 v4_136 v5_136 v7_136 h52 hf => ?_) (fun j136 hj136 hf => ?_)
                  · refine y_iload (pc2 := 138) rfl dX12_bay_136 rfl ?_
                    refine y_iload (pc2 := 140) rfl dX12_bay_138 rfl ?_
                    refine y_icmp_ge (tgt := 173) (pc2 := 143) rfl dX12_bay_140 (by decide) (fun c60 => ?_) (fun c60 => ?_)
                    · replace hf := y_it c60 hf
                      refine y_aload_n (x := v0_136) (pc2 := 174) rfl dX12_bay_173 rfl ?_
                      refine y_iconst (v := 0) (pc2 := 175) rfl dX12_bay_174 (by decide) ?_
                      obtain ⟨g55, hf⟩ := y_g hf
                      obtain ⟨h53, e54, hf⟩ := y_bdE hf
                      refine y_putI (x := 0) (pc2 := 178) rfl dX12_bay_175 Fp_BoxYardModel_255 (by decide) rfl g55 e54 ?_
                      refine y_iload (pc2 := 180) rfl dX12_bay_178 rfl ?_
                      exact y_iretF hf dX12_bay_180 rfl (by decide) (by decide)
                    · replace hf := y_ie c60 hf
                      refine y_aload_n (x := v0_136) (pc2 := 144) rfl dX12_bay_143 rfl ?_
                      obtain ⟨g59, hf⟩ := y_g hf
                      refine y_getP (pc2 := 147) rfl dX12_bay_144 F_BoxYardModel_65 (by decide) rfl g59 ?_
                      refine y_bipush (v := 6) (pc2 := 149) rfl dX12_bay_147 (by decide) ?_
                      refine y_iload_n (pc2 := 150) rfl dX12_bay_149 rfl ?_
                      refine y_imul (pc2 := 151) rfl dX12_bay_150 ?_
                      refine y_iload (pc2 := 153) rfl dX12_bay_151 rfl ?_
                      refine y_iadd (pc2 := 154) rfl dX12_bay_153 ?_
                      refine y_iload (pc2 := 156) rfl dX12_bay_154 rfl ?_
                      refine y_bipush (v := 10) (pc2 := 158) rfl dX12_bay_156 (by decide) ?_
                      refine y_rm (pc2 := 159) rfl dX12_bay_158 (by decide) ?_
                      obtain ⟨g58, hf⟩ := y_g hf
                      obtain ⟨h56, e57, hf⟩ := y_bdE hf
                      refine y_iast (x := y_rem v5_136 10) (pc2 := 160) rfl dX12_bay_159 g58.1 (y_ix_in g58.2) e57 ?_
                      refine y_iload (pc2 := 162) rfl dX12_bay_160 rfl ?_
                      refine y_bipush (v := 10) (pc2 := 164) rfl dX12_bay_162 (by decide) ?_
                      refine y_idiv (pc2 := 165) rfl dX12_bay_164 (by decide) ?_
                      refine y_istore (lv' := [(5, .int (v5_136 / 10)), (0, y_p v0_136), (1, .int v1_136), (4, .int v4_136), (7, .int v7_136)]) (pc2 := 167) rfl dX12_bay_165 (by decide) rfl ?_
                      refine y_iinc (v := v7_136 + 1) (lv' := [(7, .int (v7_136 + 1)), (5, .int (v5_136 / 10)), (0, y_p v0_136), (1, .int v1_136), (4, .int v4_136)]) (pc2 := 170) rfl dX12_bay_167 rfl rfl (by decide) rfl ?_
                      refine y_goto (tgt := 136) dX12_bay_170 (by decide) ?_
                      exact y_pk [2, 3, 4, 1, 0] rfl (hj136 _ _ _ _ _ _ hf)
                  · refine y_istore (lv' := [(7, .int 0), (5, .int v3_38), (0, y_p v0_38), (1, .int v1_38), (2, .int v2_38), (3, .int v3_38), (4, .int v4_38), (6, .int v6_38)]) (pc2 := 136) rfl dX12_bay_134 (by decide) rfl ?_
                    exact y_pk [2, 3, 6, 1, 0] rfl (hj136 _ _ _ _ _ _ hf)
                · replace hf := y_it c64 hf
                  refine y_bipush (v := (-3 : Int32)) (pc2 := 107) rfl dX12_bay_105 (by decide) ?_
                  exact y_iretF hf dX12_bay_107 rfl (by decide) (by decide)
              · replace hf := y_it c67 hf
                refine y_bipush (v := (-2 : Int32)) (pc2 := 95) rfl dX12_bay_93 (by decide) ?_
                exact y_iretF hf dX12_bay_95 rfl (by decide) (by decide)
            · replace hf := y_ie c75 hf
              refine y_iload (pc2 := 45) rfl dX12_bay_43 rfl ?_
              refine y_jnE hf (fun j => ∀ (v0_72 : Nat) (v1_72 : Int32) (v2_72 : Int32) (v3_72 : Int32) (v4_72 : Int32) (v5_72 : Int32) (h68 : y_H), j v0_72 v1_72 v2_72 v3_72 v4_72 v5_72 h68 = some (rz, hz) → y_V l G z rm_X12_bay M_X12_bay ad0 h (some (.int rz)) hz 72 [(0, y_p v0_72), (1, .int v1_72), (2, .int v2_72), (3, .int v3_72), (4, .int v4_72), (5, .int v5_72)] [] h68 0 0) (fun v0_72 v1_72 v2_72 v3_72 v4_72 v5_72 h68 hf => ?_) (fun j72 hj72 hf => ?_)
              · refine y_iconst (v := 0) (pc2 := 73) rfl dX12_bay_72 (by decide) ?_
                refine y_istore (lv' := [(6, .int 0), (0, y_p v0_72), (1, .int v1_72), (2, .int v2_72), (3, .int v3_72), (4, .int v4_72), (5, .int v5_72)]) (pc2 := 75) rfl dX12_bay_73 (by decide) rfl ?_
                refine y_iload (pc2 := 77) rfl dX12_bay_75 rfl ?_
                refine y_bipush (v := 10) (pc2 := 79) rfl dX12_bay_77 (by decide) ?_
                refine y_idiv (pc2 := 80) rfl dX12_bay_79 (by decide) ?_
                refine y_istore (lv' := [(5, .int (v5_72 / 10)), (6, .int 0), (0, y_p v0_72), (1, .int v1_72), (2, .int v2_72), (3, .int v3_72), (4, .int v4_72)]) (pc2 := 82) rfl dX12_bay_80 (by decide) rfl ?_
                refine y_iinc (v := v4_72 + 1) (lv' := [(4, .int (v4_72 + 1)), (5, .int (v5_72 / 10)), (6, .int 0), (0, y_p v0_72), (1, .int v1_72), (2, .int v2_72), (3, .int v3_72)]) (pc2 := 85) rfl dX12_bay_82 rfl rfl (by decide) rfl ?_
                refine y_goto (tgt := 38) dX12_bay_85 (by decide) ?_
                exact y_pk [3, 4, 5, 6, 0, 1, 2] rfl (hj38 _ _ _ _ _ _ _ _ hf)
              · refine y_if_eq (tgt := 72) (pc2 := 48) rfl dX12_bay_45 (by decide) (fun c74 => ?_) (fun c74 => ?_)
                · replace hf := y_it c74 hf
                  exact y_pk [0, 1, 2, 3, 4, 5] rfl (hj72 _ _ _ _ _ _ _ hf)
                · replace hf := y_ie c74 hf
                  refine y_iload (pc2 := 50) rfl dX12_bay_48 rfl ?_
                  refine y_bipush (v := 6) (pc2 := 52) rfl dX12_bay_50 (by decide) ?_
                  refine y_icmp_ge (tgt := 72) (pc2 := 55) rfl dX12_bay_52 (by decide) (fun c73 => ?_) (fun c73 => ?_)
                  · replace hf := y_it c73 hf
                    exact y_pk [0, 1, 2, 3, 4, 5] rfl (hj72 _ _ _ _ _ _ _ hf)
                  · replace hf := y_ie c73 hf
                    refine y_iload (pc2 := 57) rfl dX12_bay_55 rfl ?_
                    refine y_bipush (v := 10) (pc2 := 59) rfl dX12_bay_57 (by decide) ?_
                    refine y_rm (pc2 := 60) rfl dX12_bay_59 (by decide) ?_
                    refine y_iconst (v := 1) (pc2 := 61) rfl dX12_bay_60 (by decide) ?_
                    refine y_iconst (v := 5) (pc2 := 62) rfl dX12_bay_61 (by decide) ?_
                    obtain ⟨r69, h70, c71, hf⟩ := y_clE hf
                    refine y_callS (As := [.int (y_rem v5_38 10), .int 1, .int 5]) (rm := rm_X12_in) (cells := 0) (slots := 0) (pc2 := 65) rfl dX12_bay_62 n_X12_in l_BoxYardModel_278 t_X12_in rfl rfl (by decide) (by decide) (by decide) (k_X12_in c71) ?_
                    refine y_ifz_eq (tgt := 72) (pc2 := 68) rfl dX12_bay_65 (by decide) (fun c72 => ?_) (fun c72 => ?_)
                    · replace hf := y_ie c72 hf
                      exact y_pk [0, 1, 2, 3, 4, 5] rfl (hj72 _ _ _ _ _ _ _ hf)
                    · replace hf := y_it c72 hf
                      refine y_iconst (v := 1) (pc2 := 69) rfl dX12_bay_68 (by decide) ?_
                      refine y_goto (tgt := 73) dX12_bay_69 (by decide) ?_
                      refine y_istore (lv' := [(6, .int 1), (0, y_p v0_38), (1, .int v1_38), (2, .int v2_38), (3, .int v3_38), (4, .int v4_38), (5, .int v5_38)]) (pc2 := 75) rfl dX12_bay_73 (by decide) rfl ?_
                      refine y_iload (pc2 := 77) rfl dX12_bay_75 rfl ?_
                      refine y_bipush (v := 10) (pc2 := 79) rfl dX12_bay_77 (by decide) ?_
                      refine y_idiv (pc2 := 80) rfl dX12_bay_79 (by decide) ?_
                      refine y_istore (lv' := [(5, .int (v5_38 / 10)), (6, .int 1), (0, y_p v0_38), (1, .int v1_38), (2, .int v2_38), (3, .int v3_38), (4, .int v4_38)]) (pc2 := 82) rfl dX12_bay_80 (by decide) rfl ?_
                      refine y_iinc (v := v4_38 + 1) (lv' := [(4, .int (v4_38 + 1)), (5, .int (v5_38 / 10)), (6, .int 1), (0, y_p v0_38), (1, .int v1_38), (2, .int v2_38), (3, .int v3_38)]) (pc2 := 85) rfl dX12_bay_82 rfl rfl (by decide) rfl ?_
                      refine y_goto (tgt := 38) dX12_bay_85 (by decide) ?_
                      exact y_pk [3, 4, 5, 6, 0, 1, 2] rfl (hj38 _ _ _ _ _ _ _ _ hf)
          · refine y_istore (lv' := [(6, .int 1), (5, .int p3), (4, .int 0), (0, y_p p0), (1, .int p1), (2, .int p2), (3, .int p3)]) (pc2 := 38) rfl dX12_bay_36 (by decide) rfl ?_
            exact y_pk [3, 4, 5, 6, 2, 1, 0] rfl (hj38 _ _ _ _ _ _ _ _ hf)
  · replace hf := y_ie c78 hf
    refine y_iconst (v := (-1 : Int32)) (pc2 := 11) rfl dX12_bay_10 (by decide) ?_
    exact y_iretF hf dX12_bay_11 rfl (by decide) (by decide)
theorem dX12_plugs_0 : decode cX12_plugs 0 = .ok (.aload_n 0, 1) := by decide +kernel
theorem dX12_plugs_1 : decode cX12_plugs 1 = .ok (.iload_n 1, 1) := by decide +kernel
theorem dX12_plugs_2 : decode cX12_plugs 2 = .ok (.iload_n 2, 1) := by decide +kernel
theorem dX12_plugs_3 : decode cX12_plugs 3 = .ok (.invokevirtual 319, 3) := by decide +kernel
theorem dX12_plugs_6 : decode cX12_plugs 6 = .ok (.ifCond .ne 5, 3) := by decide +kernel
theorem dX12_plugs_9 : decode cX12_plugs 9 = .ok (.iconst (-1), 1) := by decide +kernel
theorem dX12_plugs_10 : decode cX12_plugs 10 = .ok (.ireturn, 1) := by decide +kernel
theorem dX12_plugs_11 : decode cX12_plugs 11 = .ok (.iload_n 3, 1) := by decide +kernel
theorem dX12_plugs_12 : decode cX12_plugs 12 = .ok (.iconst 0, 1) := by decide +kernel
theorem dX12_plugs_13 : decode cX12_plugs 13 = .ok (.aload_n 0, 1) := by decide +kernel
theorem dX12_plugs_14 : decode cX12_plugs 14 = .ok (.getfield 65, 3) := by decide +kernel
theorem dX12_plugs_17 : decode cX12_plugs 17 = .ok (.bipush 6, 2) := by decide +kernel
theorem dX12_plugs_19 : decode cX12_plugs 19 = .ok (.iload_n 1, 1) := by decide +kernel
theorem dX12_plugs_20 : decode cX12_plugs 20 = .ok (.imul, 1) := by decide +kernel
theorem dX12_plugs_21 : decode cX12_plugs 21 = .ok (.iload_n 2, 1) := by decide +kernel
theorem dX12_plugs_22 : decode cX12_plugs 22 = .ok (.iadd, 1) := by decide +kernel
theorem dX12_plugs_23 : decode cX12_plugs 23 = .ok (.iaload, 1) := by decide +kernel
theorem dX12_plugs_24 : decode cX12_plugs 24 = .ok (.invokestatic 278, 3) := by decide +kernel
theorem dX12_plugs_27 : decode cX12_plugs 27 = .ok (.ifCond .ne 6, 3) := by decide +kernel
theorem dX12_plugs_30 : decode cX12_plugs 30 = .ok (.bipush (-2), 2) := by decide +kernel
theorem dX12_plugs_32 : decode cX12_plugs 32 = .ok (.ireturn, 1) := by decide +kernel
theorem dX12_plugs_33 : decode cX12_plugs 33 = .ok (.aload_n 0, 1) := by decide +kernel
theorem dX12_plugs_34 : decode cX12_plugs 34 = .ok (.getfield 68, 3) := by decide +kernel
theorem dX12_plugs_37 : decode cX12_plugs 37 = .ok (.bipush 6, 2) := by decide +kernel
theorem dX12_plugs_39 : decode cX12_plugs 39 = .ok (.iload_n 1, 1) := by decide +kernel
theorem dX12_plugs_40 : decode cX12_plugs 40 = .ok (.imul, 1) := by decide +kernel
theorem dX12_plugs_41 : decode cX12_plugs 41 = .ok (.iload_n 2, 1) := by decide +kernel
theorem dX12_plugs_42 : decode cX12_plugs 42 = .ok (.iadd, 1) := by decide +kernel
theorem dX12_plugs_43 : decode cX12_plugs 43 = .ok (.iaload, 1) := by decide +kernel
theorem dX12_plugs_44 : decode cX12_plugs 44 = .ok (.istore 4, 2) := by decide +kernel
theorem dX12_plugs_46 : decode cX12_plugs 46 = .ok (.aload_n 0, 1) := by decide +kernel
theorem dX12_plugs_47 : decode cX12_plugs 47 = .ok (.getfield 68, 3) := by decide +kernel
theorem dX12_plugs_50 : decode cX12_plugs 50 = .ok (.bipush 6, 2) := by decide +kernel
theorem dX12_plugs_52 : decode cX12_plugs 52 = .ok (.iload_n 1, 1) := by decide +kernel
theorem dX12_plugs_53 : decode cX12_plugs 53 = .ok (.imul, 1) := by decide +kernel
theorem dX12_plugs_54 : decode cX12_plugs 54 = .ok (.iload_n 2, 1) := by decide +kernel
theorem dX12_plugs_55 : decode cX12_plugs 55 = .ok (.iadd, 1) := by decide +kernel
theorem dX12_plugs_56 : decode cX12_plugs 56 = .ok (.iload_n 3, 1) := by decide +kernel
theorem dX12_plugs_57 : decode cX12_plugs 57 = .ok (.iastore, 1) := by decide +kernel
theorem dX12_plugs_58 : decode cX12_plugs 58 = .ok (.iload 4, 2) := by decide +kernel
theorem dX12_plugs_60 : decode cX12_plugs 60 = .ok (.ireturn, 1) := by decide +kernel
def M_X12_plugs : y_M := (yX12_plugs, cX12_plugs, 5, (Option.some Jvm.ClassFile.FieldType.int))
theorem n_X12_plugs : y_N0 M_X12_plugs 3 := ⟨(c_8 230 (by decide +kernel) rfl), (c_1 9 (by decide +kernel) rfl), ⟨by decide +kernel, by decide +kernel⟩, by decide +kernel⟩
theorem l_BoxYardModel_319 : y_lnk "BoxYardModel" 319 M_X12_isStack := Or.inl (c_8 231 (by decide +kernel) rfl)
theorem i_X12_isStack : Cond.instanceMethod (M_X12_isStack).1 ∈ y_tb := (c_8 233 (by decide +kernel) rfl)
theorem e_X12_isStack : Cond.selects (M_X12_isStack).1.cls (M_X12_isStack).1 (M_X12_isStack).1 ∈ y_tb := (m_s 67 (by decide +kernel) rfl)
set_option maxRecDepth 100000 in
def f_X12_plugs (p0 : Nat) (p1 : Int32) (p2 : Int32) (p3 : Int32) (h : y_H) : Option (Int32 × y_H) :=
  if y_K h p0 = 13 then
  y_cl (f_X12_isStack p0 p1 p2 h) (fun r1 h2 =>
  if r1 = true then
    if y_K h2 p0 = 13 then
    if y_K h2 (y_P h2 p0 20) = 100 ∧ y_ix ((6 * p1) + p2) (y_N h2 (y_P h2 p0 20)) = true then
    y_cl (f_X12_in p3 0 (y_I h2 (y_P h2 p0 20) (Int32.toNatClampNeg ((6 * p1) + p2))) h2) (fun r4 h5 =>
    if r4 = true then
      if y_K h5 p0 = 13 then
      if y_K h5 (y_P h5 p0 21) = 100 ∧ y_ix ((6 * p1) + p2) (y_N h5 (y_P h5 p0 21)) = true then
      if y_K h5 p0 = 13 then
      if y_K h5 (y_P h5 p0 21) = 100 ∧ y_ix ((6 * p1) + p2) (y_N h5 (y_P h5 p0 21)) = true then
      y_bd (s_I h5 (y_P h5 p0 21) (Int32.toNatClampNeg ((6 * p1) + p2)) p3) (fun h7 =>
      some (y_I h5 (y_P h5 p0 21) (Int32.toNatClampNeg ((6 * p1) + p2)), h7))
      else none
      else none
      else none
      else none
    else
      some ((-2 : Int32), h5))
    else none
    else none
  else
    some ((-1 : Int32), h2))
  else none
abbrev rm_X12_plugs : Room := { frames := 3, cells := 0, slots := 0, locals := 65 }
set_option maxRecDepth 100000 in
set_option maxHeartbeats 4000000 in
theorem k_X12_plugs {l : Launch} {G : y_G} {p0 : Nat} {p1 : Int32} {p2 : Int32} {p3 : Int32} {h hz : y_H} {rz : Int32} (hf : f_X12_plugs p0 p1 p2 p3 h = some (rz, hz)) : y_S l G M_X12_plugs rm_X12_plugs [y_p p0, .int p1, .int p2, .int p3] h (some (.int rz)) hz := by
  refine y_start (lv := [(0, y_p p0), (1, .int p1), (2, .int p2), (3, .int p3)]) (by decide) (by simp [lg_sl, y_p_cat, y_ci, y_cj, M_X12_plugs]) (by simp [lv_args, y_p_cat, y_ci, y_cj]) (fun z ad0 => ?_)
  unfold f_X12_plugs at hf
  refine y_aload_n (x := p0) (pc2 := 1) rfl dX12_plugs_0 rfl ?_
  refine y_iload_n (pc2 := 2) rfl dX12_plugs_1 rfl ?_
  refine y_iload_n (pc2 := 3) rfl dX12_plugs_2 rfl ?_
  obtain ⟨g17, hf⟩ := y_g hf
  obtain ⟨r1, h2, c3, hf⟩ := y_clE hf
  refine y_callV (As := [.int p1, .int p2]) (rm := rm_X12_isStack) (cells := 0) (slots := 0) (pc2 := 6) rfl dX12_plugs_3 n_X12_isStack l_BoxYardModel_319 i_X12_isStack e_X12_isStack (ci := 12) rfl rfl (by decide) g17 rfl rfl (by decide) (by decide) (by decide) (k_X12_isStack c3) ?_
  refine y_ifz_ne (tgt := 11) (pc2 := 9) rfl dX12_plugs_6 (by decide) (fun c16 => ?_) (fun c16 => ?_)
  · replace hf := y_it c16 hf
    refine y_iload_n (pc2 := 12) rfl dX12_plugs_11 rfl ?_
    refine y_iconst (v := 0) (pc2 := 13) rfl dX12_plugs_12 (by decide) ?_
    refine y_aload_n (x := p0) (pc2 := 14) rfl dX12_plugs_13 rfl ?_
    obtain ⟨g15, hf⟩ := y_g hf
    refine y_getP (pc2 := 17) rfl dX12_plugs_14 F_BoxYardModel_65 (by decide) rfl g15 ?_
    refine y_bipush (v := 6) (pc2 := 19) rfl dX12_plugs_17 (by decide) ?_
    refine y_iload_n (pc2 := 20) rfl dX12_plugs_19 rfl ?_
    refine y_imul (pc2 := 21) rfl dX12_plugs_20 ?_
    refine y_iload_n (pc2 := 22) rfl dX12_plugs_21 rfl ?_
    refine y_iadd (pc2 := 23) rfl dX12_plugs_22 ?_
    obtain ⟨g14, hf⟩ := y_g hf
    refine y_iald (pc2 := 24) rfl dX12_plugs_23 g14.1 (y_ix_in g14.2) ?_
    obtain ⟨r4, h5, c6, hf⟩ := y_clE hf
    refine y_callS (As := [.int p3, .int 0, .int (y_I h2 (y_P h2 p0 20) (Int32.toNatClampNeg ((6 * p1) + p2)))]) (rm := rm_X12_in) (cells := 0) (slots := 0) (pc2 := 27) rfl dX12_plugs_24 n_X12_in l_BoxYardModel_278 t_X12_in rfl rfl (by decide) (by decide) (by decide) (k_X12_in c6) ?_
    refine y_ifz_ne (tgt := 33) (pc2 := 30) rfl dX12_plugs_27 (by decide) (fun c13 => ?_) (fun c13 => ?_)
    · replace hf := y_it c13 hf
      refine y_aload_n (x := p0) (pc2 := 34) rfl dX12_plugs_33 rfl ?_
      obtain ⟨g12, hf⟩ := y_g hf
      refine y_getP (pc2 := 37) rfl dX12_plugs_34 F_BoxYardModel_68 (by decide) rfl g12 ?_
      refine y_bipush (v := 6) (pc2 := 39) rfl dX12_plugs_37 (by decide) ?_
      refine y_iload_n (pc2 := 40) rfl dX12_plugs_39 rfl ?_
      refine y_imul (pc2 := 41) rfl dX12_plugs_40 ?_
      refine y_iload_n (pc2 := 42) rfl dX12_plugs_41 rfl ?_
      refine y_iadd (pc2 := 43) rfl dX12_plugs_42 ?_
      obtain ⟨g11, hf⟩ := y_g hf
      refine y_iald (pc2 := 44) rfl dX12_plugs_43 g11.1 (y_ix_in g11.2) ?_
      refine y_istore (lv' := [(4, .int (y_I h5 (y_P h5 p0 21) (Int32.toNatClampNeg ((6 * p1) + p2)))), (0, y_p p0), (1, .int p1), (2, .int p2), (3, .int p3)]) (pc2 := 46) rfl dX12_plugs_44 (by decide) rfl ?_
      refine y_aload_n (x := p0) (pc2 := 47) rfl dX12_plugs_46 rfl ?_
      obtain ⟨g10, hf⟩ := y_g hf
      refine y_getP (pc2 := 50) rfl dX12_plugs_47 F_BoxYardModel_68 (by decide) rfl g10 ?_
      refine y_bipush (v := 6) (pc2 := 52) rfl dX12_plugs_50 (by decide) ?_
      refine y_iload_n (pc2 := 53) rfl dX12_plugs_52 rfl ?_
      refine y_imul (pc2 := 54) rfl dX12_plugs_53 ?_
      refine y_iload_n (pc2 := 55) rfl dX12_plugs_54 rfl ?_
      refine y_iadd (pc2 := 56) rfl dX12_plugs_55 ?_
      refine y_iload_n (pc2 := 57) rfl dX12_plugs_56 rfl ?_
      obtain ⟨g9, hf⟩ := y_g hf
      obtain ⟨h7, e8, hf⟩ := y_bdE hf
      refine y_iast (x := p3) (pc2 := 58) rfl dX12_plugs_57 g9.1 (y_ix_in g9.2) e8 ?_
      refine y_iload (pc2 := 60) rfl dX12_plugs_58 rfl ?_
      exact y_iretF hf dX12_plugs_60 rfl (by decide) (by decide)
    · replace hf := y_ie c13 hf
      refine y_bipush (v := (-2 : Int32)) (pc2 := 32) rfl dX12_plugs_30 (by decide) ?_
      exact y_iretF hf dX12_plugs_32 rfl (by decide) (by decide)
  · replace hf := y_ie c16 hf
    refine y_iconst (v := (-1 : Int32)) (pc2 := 10) rfl dX12_plugs_9 (by decide) ?_
    exact y_iretF hf dX12_plugs_10 rfl (by decide) (by decide)
theorem dX12_apart_0 : decode cX12_apart 0 = .ok (.iload_n 1, 1) := by decide +kernel
theorem dX12_apart_1 : decode cX12_apart 1 = .ok (.iconst 1, 1) := by decide +kernel
theorem dX12_apart_2 : decode cX12_apart 2 = .ok (.iconst 4, 1) := by decide +kernel
theorem dX12_apart_3 : decode cX12_apart 3 = .ok (.invokestatic 278, 3) := by decide +kernel
theorem dX12_apart_6 : decode cX12_apart 6 = .ok (.ifCond .eq 22, 3) := by decide +kernel
theorem dX12_apart_9 : decode cX12_apart 9 = .ok (.iload_n 2, 1) := by decide +kernel
theorem dX12_apart_10 : decode cX12_apart 10 = .ok (.iconst 1, 1) := by decide +kernel
theorem dX12_apart_11 : decode cX12_apart 11 = .ok (.iconst 4, 1) := by decide +kernel
theorem dX12_apart_12 : decode cX12_apart 12 = .ok (.invokestatic 278, 3) := by decide +kernel
theorem dX12_apart_15 : decode cX12_apart 15 = .ok (.ifCond .eq 13, 3) := by decide +kernel
theorem dX12_apart_18 : decode cX12_apart 18 = .ok (.iload_n 3, 1) := by decide +kernel
theorem dX12_apart_19 : decode cX12_apart 19 = .ok (.iconst 0, 1) := by decide +kernel
theorem dX12_apart_20 : decode cX12_apart 20 = .ok (.bipush 6, 2) := by decide +kernel
theorem dX12_apart_22 : decode cX12_apart 22 = .ok (.invokestatic 278, 3) := by decide +kernel
theorem dX12_apart_25 : decode cX12_apart 25 = .ok (.ifCond .ne 6, 3) := by decide +kernel
theorem dX12_apart_28 : decode cX12_apart 28 = .ok (.bipush (-2), 2) := by decide +kernel
theorem dX12_apart_30 : decode cX12_apart 30 = .ok (.ireturn, 1) := by decide +kernel
theorem dX12_apart_31 : decode cX12_apart 31 = .ok (.aload_n 0, 1) := by decide +kernel
theorem dX12_apart_32 : decode cX12_apart 32 = .ok (.getfield 77, 3) := by decide +kernel
theorem dX12_apart_35 : decode cX12_apart 35 = .ok (.iconst 5, 1) := by decide +kernel
theorem dX12_apart_36 : decode cX12_apart 36 = .ok (.iload_n 1, 1) := by decide +kernel
theorem dX12_apart_37 : decode cX12_apart 37 = .ok (.imul, 1) := by decide +kernel
theorem dX12_apart_38 : decode cX12_apart 38 = .ok (.iload_n 2, 1) := by decide +kernel
theorem dX12_apart_39 : decode cX12_apart 39 = .ok (.iadd, 1) := by decide +kernel
theorem dX12_apart_40 : decode cX12_apart 40 = .ok (.iaload, 1) := by decide +kernel
theorem dX12_apart_41 : decode cX12_apart 41 = .ok (.istore 4, 2) := by decide +kernel
theorem dX12_apart_43 : decode cX12_apart 43 = .ok (.aload_n 0, 1) := by decide +kernel
theorem dX12_apart_44 : decode cX12_apart 44 = .ok (.getfield 77, 3) := by decide +kernel
theorem dX12_apart_47 : decode cX12_apart 47 = .ok (.iconst 5, 1) := by decide +kernel
theorem dX12_apart_48 : decode cX12_apart 48 = .ok (.iload_n 1, 1) := by decide +kernel
theorem dX12_apart_49 : decode cX12_apart 49 = .ok (.imul, 1) := by decide +kernel
theorem dX12_apart_50 : decode cX12_apart 50 = .ok (.iload_n 2, 1) := by decide +kernel
theorem dX12_apart_51 : decode cX12_apart 51 = .ok (.iadd, 1) := by decide +kernel
theorem dX12_apart_52 : decode cX12_apart 52 = .ok (.iload_n 3, 1) := by decide +kernel
theorem dX12_apart_53 : decode cX12_apart 53 = .ok (.iastore, 1) := by decide +kernel
theorem dX12_apart_54 : decode cX12_apart 54 = .ok (.aload_n 0, 1) := by decide +kernel
theorem dX12_apart_55 : decode cX12_apart 55 = .ok (.getfield 77, 3) := by decide +kernel
theorem dX12_apart_58 : decode cX12_apart 58 = .ok (.iconst 5, 1) := by decide +kernel
theorem dX12_apart_59 : decode cX12_apart 59 = .ok (.iload_n 2, 1) := by decide +kernel
theorem dX12_apart_60 : decode cX12_apart 60 = .ok (.imul, 1) := by decide +kernel
theorem dX12_apart_61 : decode cX12_apart 61 = .ok (.iload_n 1, 1) := by decide +kernel
theorem dX12_apart_62 : decode cX12_apart 62 = .ok (.iadd, 1) := by decide +kernel
theorem dX12_apart_63 : decode cX12_apart 63 = .ok (.iload_n 3, 1) := by decide +kernel
theorem dX12_apart_64 : decode cX12_apart 64 = .ok (.iastore, 1) := by decide +kernel
theorem dX12_apart_65 : decode cX12_apart 65 = .ok (.iload 4, 2) := by decide +kernel
theorem dX12_apart_67 : decode cX12_apart 67 = .ok (.ireturn, 1) := by decide +kernel
def M_X12_apart : y_M := (yX12_apart, cX12_apart, 5, (Option.some Jvm.ClassFile.FieldType.int))
theorem n_X12_apart : y_N0 M_X12_apart 3 := ⟨(c_9 2 (by decide +kernel) rfl), (c_1 9 (by decide +kernel) rfl), ⟨by decide +kernel, by decide +kernel⟩, by decide +kernel⟩
set_option maxRecDepth 100000 in
def f_X12_apart (p0 : Nat) (p1 : Int32) (p2 : Int32) (p3 : Int32) (h : y_H) : Option (Int32 × y_H) :=
  y_cl (f_X12_in p1 1 4 h) (fun r1 h2 =>
  y_jn (fun (h4 : y_H) => (
      some ((-2 : Int32), h4) : Option (Int32 × y_H))) (fun j28 =>
  if r1 = true then
    y_cl (f_X12_in p2 1 4 h2) (fun r5 h6 =>
    if r5 = true then
      y_cl (f_X12_in p3 0 6 h6) (fun r8 h9 =>
      if r8 = true then
        if y_K h9 p0 = 13 then
        if y_K h9 (y_P h9 p0 24) = 100 ∧ y_ix ((5 * p1) + p2) (y_N h9 (y_P h9 p0 24)) = true then
        if y_K h9 p0 = 13 then
        if y_K h9 (y_P h9 p0 24) = 100 ∧ y_ix ((5 * p1) + p2) (y_N h9 (y_P h9 p0 24)) = true then
        y_bd (s_I h9 (y_P h9 p0 24) (Int32.toNatClampNeg ((5 * p1) + p2)) p3) (fun h11 =>
        if y_K h11 p0 = 13 then
        if y_K h11 (y_P h11 p0 24) = 100 ∧ y_ix ((5 * p2) + p1) (y_N h11 (y_P h11 p0 24)) = true then
        y_bd (s_I h11 (y_P h11 p0 24) (Int32.toNatClampNeg ((5 * p2) + p1)) p3) (fun h14 =>
        some (y_I h9 (y_P h9 p0 24) (Int32.toNatClampNeg ((5 * p1) + p2)), h14))
        else none
        else none)
        else none
        else none
        else none
        else none
      else
        j28 h9)
    else
      j28 h6)
  else
    j28 h2))
abbrev rm_X12_apart : Room := { frames := 1, cells := 0, slots := 0, locals := 22 }
set_option maxRecDepth 100000 in
set_option maxHeartbeats 4000000 in
theorem k_X12_apart {l : Launch} {G : y_G} {p0 : Nat} {p1 : Int32} {p2 : Int32} {p3 : Int32} {h hz : y_H} {rz : Int32} (hf : f_X12_apart p0 p1 p2 p3 h = some (rz, hz)) : y_S l G M_X12_apart rm_X12_apart [y_p p0, .int p1, .int p2, .int p3] h (some (.int rz)) hz := by
  refine y_start (lv := [(0, y_p p0), (1, .int p1), (2, .int p2), (3, .int p3)]) (by decide) (by simp [lg_sl, y_p_cat, y_ci, y_cj, M_X12_apart]) (by simp [lv_args, y_p_cat, y_ci, y_cj]) (fun z ad0 => ?_)
  unfold f_X12_apart at hf
  refine y_iload_n (pc2 := 1) rfl dX12_apart_0 rfl ?_
  refine y_iconst (v := 1) (pc2 := 2) rfl dX12_apart_1 (by decide) ?_
  refine y_iconst (v := 4) (pc2 := 3) rfl dX12_apart_2 (by decide) ?_
  obtain ⟨r1, h2, c3, hf⟩ := y_clE hf
  refine y_callS (As := [.int p1, .int 1, .int 4]) (rm := rm_X12_in) (cells := 0) (slots := 0) (pc2 := 6) rfl dX12_apart_3 n_X12_in l_BoxYardModel_278 t_X12_in rfl rfl (by decide) (by decide) (by decide) (k_X12_in c3) ?_
  refine y_jnE hf (fun j => ∀ (h4 : y_H), j h4 = some (rz, hz) → y_V l G z rm_X12_apart M_X12_apart ad0 h (some (.int rz)) hz 28 [] [] h4 0 0) (fun h4 hf => ?_) (fun j28 hj28 hf => ?_)
  · refine y_bipush (v := (-2 : Int32)) (pc2 := 30) rfl dX12_apart_28 (by decide) ?_
    exact y_iretF hf dX12_apart_30 rfl (by decide) (by decide)
  · refine y_ifz_eq (tgt := 28) (pc2 := 9) rfl dX12_apart_6 (by decide) (fun c23 => ?_) (fun c23 => ?_)
    · replace hf := y_ie c23 hf
      exact y_pk [] rfl (hj28 _ hf)
    · replace hf := y_it c23 hf
      refine y_iload_n (pc2 := 10) rfl dX12_apart_9 rfl ?_
      refine y_iconst (v := 1) (pc2 := 11) rfl dX12_apart_10 (by decide) ?_
      refine y_iconst (v := 4) (pc2 := 12) rfl dX12_apart_11 (by decide) ?_
      obtain ⟨r5, h6, c7, hf⟩ := y_clE hf
      refine y_callS (As := [.int p2, .int 1, .int 4]) (rm := rm_X12_in) (cells := 0) (slots := 0) (pc2 := 15) rfl dX12_apart_12 n_X12_in l_BoxYardModel_278 t_X12_in rfl rfl (by decide) (by decide) (by decide) (k_X12_in c7) ?_
      refine y_ifz_eq (tgt := 28) (pc2 := 18) rfl dX12_apart_15 (by decide) (fun c22 => ?_) (fun c22 => ?_)
      · replace hf := y_ie c22 hf
        exact y_pk [] rfl (hj28 _ hf)
      · replace hf := y_it c22 hf
        refine y_iload_n (pc2 := 19) rfl dX12_apart_18 rfl ?_
        refine y_iconst (v := 0) (pc2 := 20) rfl dX12_apart_19 (by decide) ?_
        refine y_bipush (v := 6) (pc2 := 22) rfl dX12_apart_20 (by decide) ?_
        obtain ⟨r8, h9, c10, hf⟩ := y_clE hf
        refine y_callS (As := [.int p3, .int 0, .int 6]) (rm := rm_X12_in) (cells := 0) (slots := 0) (pc2 := 25) rfl dX12_apart_22 n_X12_in l_BoxYardModel_278 t_X12_in rfl rfl (by decide) (by decide) (by decide) (k_X12_in c10) ?_
        refine y_ifz_ne (tgt := 31) (pc2 := 28) rfl dX12_apart_25 (by decide) (fun c21 => ?_) (fun c21 => ?_)
        · replace hf := y_it c21 hf
          refine y_aload_n (x := p0) (pc2 := 32) rfl dX12_apart_31 rfl ?_
          obtain ⟨g20, hf⟩ := y_g hf
          refine y_getP (pc2 := 35) rfl dX12_apart_32 F_BoxYardModel_77 (by decide) rfl g20 ?_
          refine y_iconst (v := 5) (pc2 := 36) rfl dX12_apart_35 (by decide) ?_
          refine y_iload_n (pc2 := 37) rfl dX12_apart_36 rfl ?_
          refine y_imul (pc2 := 38) rfl dX12_apart_37 ?_
          refine y_iload_n (pc2 := 39) rfl dX12_apart_38 rfl ?_
          refine y_iadd (pc2 := 40) rfl dX12_apart_39 ?_
          obtain ⟨g19, hf⟩ := y_g hf
          refine y_iald (pc2 := 41) rfl dX12_apart_40 g19.1 (y_ix_in g19.2) ?_
          refine y_istore (lv' := [(4, .int (y_I h9 (y_P h9 p0 24) (Int32.toNatClampNeg ((5 * p1) + p2)))), (0, y_p p0), (1, .int p1), (2, .int p2), (3, .int p3)]) (pc2 := 43) rfl dX12_apart_41 (by decide) rfl ?_
          refine y_aload_n (x := p0) (pc2 := 44) rfl dX12_apart_43 rfl ?_
          obtain ⟨g18, hf⟩ := y_g hf
          refine y_getP (pc2 := 47) rfl dX12_apart_44 F_BoxYardModel_77 (by decide) rfl g18 ?_
          refine y_iconst (v := 5) (pc2 := 48) rfl dX12_apart_47 (by decide) ?_
          refine y_iload_n (pc2 := 49) rfl dX12_apart_48 rfl ?_
          refine y_imul (pc2 := 50) rfl dX12_apart_49 ?_
          refine y_iload_n (pc2 := 51) rfl dX12_apart_50 rfl ?_
          refine y_iadd (pc2 := 52) rfl dX12_apart_51 ?_
          refine y_iload_n (pc2 := 53) rfl dX12_apart_52 rfl ?_
          obtain ⟨g13, hf⟩ := y_g hf
          obtain ⟨h11, e12, hf⟩ := y_bdE hf
          refine y_iast (x := p3) (pc2 := 54) rfl dX12_apart_53 g13.1 (y_ix_in g13.2) e12 ?_
          refine y_aload_n (x := p0) (pc2 := 55) rfl dX12_apart_54 rfl ?_
          obtain ⟨g17, hf⟩ := y_g hf
          refine y_getP (pc2 := 58) rfl dX12_apart_55 F_BoxYardModel_77 (by decide) rfl g17 ?_
          refine y_iconst (v := 5) (pc2 := 59) rfl dX12_apart_58 (by decide) ?_
          refine y_iload_n (pc2 := 60) rfl dX12_apart_59 rfl ?_
          refine y_imul (pc2 := 61) rfl dX12_apart_60 ?_
          refine y_iload_n (pc2 := 62) rfl dX12_apart_61 rfl ?_
          refine y_iadd (pc2 := 63) rfl dX12_apart_62 ?_
          refine y_iload_n (pc2 := 64) rfl dX12_apart_63 rfl ?_
          obtain ⟨g16, hf⟩ := y_g hf
          obtain ⟨h14, e15, hf⟩ := y_bdE hf
          refine y_iast (x := p3) (pc2 := 65) rfl dX12_apart_64 g16.1 (y_ix_in g16.2) e15 ?_
          refine y_iload (pc2 := 67) rfl dX12_apart_65 rfl ?_
          exact y_iretF hf dX12_apart_67 rfl (by decide) (by decide)
        · replace hf := y_ie c21 hf
          exact y_pk [] rfl (hj28 _ hf)
theorem dX12_stack_0 : decode cX12_stack 0 = .ok (.aload_n 0, 1) := by decide +kernel
theorem dX12_stack_1 : decode cX12_stack 1 = .ok (.iload_n 1, 1) := by decide +kernel
theorem dX12_stack_2 : decode cX12_stack 2 = .ok (.iload_n 2, 1) := by decide +kernel
theorem dX12_stack_3 : decode cX12_stack 3 = .ok (.invokevirtual 319, 3) := by decide +kernel
theorem dX12_stack_6 : decode cX12_stack 6 = .ok (.ifCond .eq 24, 3) := by decide +kernel
theorem dX12_stack_9 : decode cX12_stack 9 = .ok (.iload_n 3, 1) := by decide +kernel
theorem dX12_stack_10 : decode cX12_stack 10 = .ok (.iconst 0, 1) := by decide +kernel
theorem dX12_stack_11 : decode cX12_stack 11 = .ok (.aload_n 0, 1) := by decide +kernel
theorem dX12_stack_12 : decode cX12_stack 12 = .ok (.getfield 65, 3) := by decide +kernel
theorem dX12_stack_15 : decode cX12_stack 15 = .ok (.bipush 6, 2) := by decide +kernel
theorem dX12_stack_17 : decode cX12_stack 17 = .ok (.iload_n 1, 1) := by decide +kernel
theorem dX12_stack_18 : decode cX12_stack 18 = .ok (.imul, 1) := by decide +kernel
theorem dX12_stack_19 : decode cX12_stack 19 = .ok (.iload_n 2, 1) := by decide +kernel
theorem dX12_stack_20 : decode cX12_stack 20 = .ok (.iadd, 1) := by decide +kernel
theorem dX12_stack_21 : decode cX12_stack 21 = .ok (.iaload, 1) := by decide +kernel
theorem dX12_stack_22 : decode cX12_stack 22 = .ok (.iconst 1, 1) := by decide +kernel
theorem dX12_stack_23 : decode cX12_stack 23 = .ok (.isub, 1) := by decide +kernel
theorem dX12_stack_24 : decode cX12_stack 24 = .ok (.invokestatic 278, 3) := by decide +kernel
theorem dX12_stack_27 : decode cX12_stack 27 = .ok (.ifCond .ne 5, 3) := by decide +kernel
theorem dX12_stack_30 : decode cX12_stack 30 = .ok (.iconst (-1), 1) := by decide +kernel
theorem dX12_stack_31 : decode cX12_stack 31 = .ok (.ireturn, 1) := by decide +kernel
theorem dX12_stack_32 : decode cX12_stack 32 = .ok (.iload_n 3, 1) := by decide +kernel
theorem dX12_stack_33 : decode cX12_stack 33 = .ok (.aload_n 0, 1) := by decide +kernel
theorem dX12_stack_34 : decode cX12_stack 34 = .ok (.getfield 71, 3) := by decide +kernel
theorem dX12_stack_37 : decode cX12_stack 37 = .ok (.bipush 6, 2) := by decide +kernel
theorem dX12_stack_39 : decode cX12_stack 39 = .ok (.iload_n 1, 1) := by decide +kernel
theorem dX12_stack_40 : decode cX12_stack 40 = .ok (.imul, 1) := by decide +kernel
theorem dX12_stack_41 : decode cX12_stack 41 = .ok (.iload_n 2, 1) := by decide +kernel
theorem dX12_stack_42 : decode cX12_stack 42 = .ok (.iadd, 1) := by decide +kernel
theorem dX12_stack_43 : decode cX12_stack 43 = .ok (.iaload, 1) := by decide +kernel
theorem dX12_stack_44 : decode cX12_stack 44 = .ok (.if_icmp .ge 21, 3) := by decide +kernel
theorem dX12_stack_47 : decode cX12_stack 47 = .ok (.aload_n 0, 1) := by decide +kernel
theorem dX12_stack_48 : decode cX12_stack 48 = .ok (.getfield 74, 3) := by decide +kernel
theorem dX12_stack_51 : decode cX12_stack 51 = .ok (.iconst 5, 1) := by decide +kernel
theorem dX12_stack_52 : decode cX12_stack 52 = .ok (.bipush 6, 2) := by decide +kernel
theorem dX12_stack_54 : decode cX12_stack 54 = .ok (.iload_n 1, 1) := by decide +kernel
theorem dX12_stack_55 : decode cX12_stack 55 = .ok (.imul, 1) := by decide +kernel
theorem dX12_stack_56 : decode cX12_stack 56 = .ok (.iload_n 2, 1) := by decide +kernel
theorem dX12_stack_57 : decode cX12_stack 57 = .ok (.iadd, 1) := by decide +kernel
theorem dX12_stack_58 : decode cX12_stack 58 = .ok (.imul, 1) := by decide +kernel
theorem dX12_stack_59 : decode cX12_stack 59 = .ok (.iload_n 3, 1) := by decide +kernel
theorem dX12_stack_60 : decode cX12_stack 60 = .ok (.iadd, 1) := by decide +kernel
theorem dX12_stack_61 : decode cX12_stack 61 = .ok (.iaload, 1) := by decide +kernel
theorem dX12_stack_62 : decode cX12_stack 62 = .ok (.goto 5, 3) := by decide +kernel
theorem dX12_stack_65 : decode cX12_stack 65 = .ok (.bipush (-9), 2) := by decide +kernel
theorem dX12_stack_67 : decode cX12_stack 67 = .ok (.ireturn, 1) := by decide +kernel
def M_X12_stack : y_M := (yX12_stack, cX12_stack, 4, (Option.some Jvm.ClassFile.FieldType.int))
theorem n_X12_stack : y_N0 M_X12_stack 3 := ⟨(c_9 6 (by decide +kernel) rfl), (c_1 9 (by decide +kernel) rfl), ⟨by decide +kernel, by decide +kernel⟩, by decide +kernel⟩
theorem F_BoxYardModel_74 : y_F "BoxYardModel" 74 12 23 := ⟨_, _, _, rfl, by decide, Or.inl (c_7 145 (by decide +kernel) rfl)⟩
set_option maxRecDepth 100000 in
def f_X12_stack (p0 : Nat) (p1 : Int32) (p2 : Int32) (p3 : Int32) (h : y_H) : Option (Int32 × y_H) :=
  if y_K h p0 = 13 then
  y_cl (f_X12_isStack p0 p1 p2 h) (fun r1 h2 =>
  y_jn (fun (h4 : y_H) => (
      some ((-1 : Int32), h4) : Option (Int32 × y_H))) (fun j30 =>
  if r1 = true then
    if y_K h2 p0 = 13 then
    if y_K h2 (y_P h2 p0 20) = 100 ∧ y_ix ((6 * p1) + p2) (y_N h2 (y_P h2 p0 20)) = true then
    y_cl (f_X12_in p3 0 ((y_I h2 (y_P h2 p0 20) (Int32.toNatClampNeg ((6 * p1) + p2))) - 1) h2) (fun r5 h6 =>
    if r5 = true then
      if y_K h6 p0 = 13 then
      if y_K h6 (y_P h6 p0 22) = 100 ∧ y_ix ((6 * p1) + p2) (y_N h6 (y_P h6 p0 22)) = true then
      if (y_I h6 (y_P h6 p0 22) (Int32.toNatClampNeg ((6 * p1) + p2))) ≤ p3 then
        some ((-9 : Int32), h6)
      else
        if y_K h6 p0 = 13 then
        if y_K h6 (y_P h6 p0 23) = 100 ∧ y_ix ((5 * ((6 * p1) + p2)) + p3) (y_N h6 (y_P h6 p0 23)) = true then
        some (y_I h6 (y_P h6 p0 23) (Int32.toNatClampNeg ((5 * ((6 * p1) + p2)) + p3)), h6)
        else none
        else none
      else none
      else none
    else
      j30 h6)
    else none
    else none
  else
    j30 h2))
  else none
abbrev rm_X12_stack : Room := { frames := 3, cells := 0, slots := 0, locals := 65 }
set_option maxRecDepth 100000 in
set_option maxHeartbeats 4000000 in
theorem k_X12_stack {l : Launch} {G : y_G} {p0 : Nat} {p1 : Int32} {p2 : Int32} {p3 : Int32} {h hz : y_H} {rz : Int32} (hf : f_X12_stack p0 p1 p2 p3 h = some (rz, hz)) : y_S l G M_X12_stack rm_X12_stack [y_p p0, .int p1, .int p2, .int p3] h (some (.int rz)) hz := by
  refine y_start (lv := [(0, y_p p0), (1, .int p1), (2, .int p2), (3, .int p3)]) (by decide) (by simp [lg_sl, y_p_cat, y_ci, y_cj, M_X12_stack]) (by simp [lv_args, y_p_cat, y_ci, y_cj]) (fun z ad0 => ?_)
  unfold f_X12_stack at hf
  refine y_aload_n (x := p0) (pc2 := 1) rfl dX12_stack_0 rfl ?_
  refine y_iload_n (pc2 := 2) rfl dX12_stack_1 rfl ?_
  refine y_iload_n (pc2 := 3) rfl dX12_stack_2 rfl ?_
  obtain ⟨g17, hf⟩ := y_g hf
  obtain ⟨r1, h2, c3, hf⟩ := y_clE hf
  refine y_callV (As := [.int p1, .int p2]) (rm := rm_X12_isStack) (cells := 0) (slots := 0) (pc2 := 6) rfl dX12_stack_3 n_X12_isStack l_BoxYardModel_319 i_X12_isStack e_X12_isStack (ci := 12) rfl rfl (by decide) g17 rfl rfl (by decide) (by decide) (by decide) (k_X12_isStack c3) ?_
  refine y_jnE hf (fun j => ∀ (h4 : y_H), j h4 = some (rz, hz) → y_V l G z rm_X12_stack M_X12_stack ad0 h (some (.int rz)) hz 30 [] [] h4 0 0) (fun h4 hf => ?_) (fun j30 hj30 hf => ?_)
  · refine y_iconst (v := (-1 : Int32)) (pc2 := 31) rfl dX12_stack_30 (by decide) ?_
    exact y_iretF hf dX12_stack_31 rfl (by decide) (by decide)
  · refine y_ifz_eq (tgt := 30) (pc2 := 9) rfl dX12_stack_6 (by decide) (fun c16 => ?_) (fun c16 => ?_)
    · replace hf := y_ie c16 hf
      exact y_pk [] rfl (hj30 _ hf)
    · replace hf := y_it c16 hf
      refine y_iload_n (pc2 := 10) rfl dX12_stack_9 rfl ?_
      refine y_iconst (v := 0) (pc2 := 11) rfl dX12_stack_10 (by decide) ?_
      refine y_aload_n (x := p0) (pc2 := 12) rfl dX12_stack_11 rfl ?_
      obtain ⟨g15, hf⟩ := y_g hf
      refine y_getP (pc2 := 15) rfl dX12_stack_12 F_BoxYardModel_65 (by decide) rfl g15 ?_
      refine y_bipush (v := 6) (pc2 := 17) rfl dX12_stack_15 (by decide) ?_
      refine y_iload_n (pc2 := 18) rfl dX12_stack_17 rfl ?_
      refine y_imul (pc2 := 19) rfl dX12_stack_18 ?_
      refine y_iload_n (pc2 := 20) rfl dX12_stack_19 rfl ?_
      refine y_iadd (pc2 := 21) rfl dX12_stack_20 ?_
      obtain ⟨g14, hf⟩ := y_g hf
      refine y_iald (pc2 := 22) rfl dX12_stack_21 g14.1 (y_ix_in g14.2) ?_
      refine y_iconst (v := 1) (pc2 := 23) rfl dX12_stack_22 (by decide) ?_
      refine y_isub (pc2 := 24) rfl dX12_stack_23 ?_
      obtain ⟨r5, h6, c7, hf⟩ := y_clE hf
      refine y_callS (As := [.int p3, .int 0, .int ((y_I h2 (y_P h2 p0 20) (Int32.toNatClampNeg ((6 * p1) + p2))) - 1)]) (rm := rm_X12_in) (cells := 0) (slots := 0) (pc2 := 27) rfl dX12_stack_24 n_X12_in l_BoxYardModel_278 t_X12_in rfl rfl (by decide) (by decide) (by decide) (k_X12_in c7) ?_
      refine y_ifz_ne (tgt := 32) (pc2 := 30) rfl dX12_stack_27 (by decide) (fun c13 => ?_) (fun c13 => ?_)
      · replace hf := y_it c13 hf
        refine y_iload_n (pc2 := 33) rfl dX12_stack_32 rfl ?_
        refine y_aload_n (x := p0) (pc2 := 34) rfl dX12_stack_33 rfl ?_
        obtain ⟨g12, hf⟩ := y_g hf
        refine y_getP (pc2 := 37) rfl dX12_stack_34 F_BoxYardModel_71 (by decide) rfl g12 ?_
        refine y_bipush (v := 6) (pc2 := 39) rfl dX12_stack_37 (by decide) ?_
        refine y_iload_n (pc2 := 40) rfl dX12_stack_39 rfl ?_
        refine y_imul (pc2 := 41) rfl dX12_stack_40 ?_
        refine y_iload_n (pc2 := 42) rfl dX12_stack_41 rfl ?_
        refine y_iadd (pc2 := 43) rfl dX12_stack_42 ?_
        obtain ⟨g11, hf⟩ := y_g hf
        refine y_iald (pc2 := 44) rfl dX12_stack_43 g11.1 (y_ix_in g11.2) ?_
        refine y_icmp_ge (tgt := 65) (pc2 := 47) rfl dX12_stack_44 (by decide) (fun c10 => ?_) (fun c10 => ?_)
        · replace hf := y_it c10 hf
          refine y_bipush (v := (-9 : Int32)) (pc2 := 67) rfl dX12_stack_65 (by decide) ?_
          exact y_iretF hf dX12_stack_67 rfl (by decide) (by decide)
        · replace hf := y_ie c10 hf
          refine y_aload_n (x := p0) (pc2 := 48) rfl dX12_stack_47 rfl ?_
          obtain ⟨g9, hf⟩ := y_g hf
          refine y_getP (pc2 := 51) rfl dX12_stack_48 F_BoxYardModel_74 (by decide) rfl g9 ?_
          refine y_iconst (v := 5) (pc2 := 52) rfl dX12_stack_51 (by decide) ?_
          refine y_bipush (v := 6) (pc2 := 54) rfl dX12_stack_52 (by decide) ?_
          refine y_iload_n (pc2 := 55) rfl dX12_stack_54 rfl ?_
          refine y_imul (pc2 := 56) rfl dX12_stack_55 ?_
          refine y_iload_n (pc2 := 57) rfl dX12_stack_56 rfl ?_
          refine y_iadd (pc2 := 58) rfl dX12_stack_57 ?_
          refine y_imul (pc2 := 59) rfl dX12_stack_58 ?_
          refine y_iload_n (pc2 := 60) rfl dX12_stack_59 rfl ?_
          refine y_iadd (pc2 := 61) rfl dX12_stack_60 ?_
          obtain ⟨g8, hf⟩ := y_g hf
          refine y_iald (pc2 := 62) rfl dX12_stack_61 g8.1 (y_ix_in g8.2) ?_
          refine y_goto (tgt := 67) dX12_stack_62 (by decide) ?_
          exact y_iretF hf dX12_stack_67 rfl (by decide) (by decide)
      · replace hf := y_ie c13 hf
        exact y_pk [] rfl (hj30 _ hf)
theorem dX12_boxesOf_0 : decode cX12_boxesOf 0 = .ok (.iconst 0, 1) := by decide +kernel
theorem dX12_boxesOf_1 : decode cX12_boxesOf 1 = .ok (.istore_n 2, 1) := by decide +kernel
theorem dX12_boxesOf_2 : decode cX12_boxesOf 2 = .ok (.iconst 0, 1) := by decide +kernel
theorem dX12_boxesOf_3 : decode cX12_boxesOf 3 = .ok (.istore_n 3, 1) := by decide +kernel
theorem dX12_boxesOf_4 : decode cX12_boxesOf 4 = .ok (.iload_n 3, 1) := by decide +kernel
theorem dX12_boxesOf_5 : decode cX12_boxesOf 5 = .ok (.aload_n 0, 1) := by decide +kernel
theorem dX12_boxesOf_6 : decode cX12_boxesOf 6 = .ok (.getfield 62, 3) := by decide +kernel
theorem dX12_boxesOf_9 : decode cX12_boxesOf 9 = .ok (.iload_n 1, 1) := by decide +kernel
theorem dX12_boxesOf_10 : decode cX12_boxesOf 10 = .ok (.iaload, 1) := by decide +kernel
theorem dX12_boxesOf_11 : decode cX12_boxesOf 11 = .ok (.if_icmp .ge 23, 3) := by decide +kernel
theorem dX12_boxesOf_14 : decode cX12_boxesOf 14 = .ok (.iload_n 2, 1) := by decide +kernel
theorem dX12_boxesOf_15 : decode cX12_boxesOf 15 = .ok (.aload_n 0, 1) := by decide +kernel
theorem dX12_boxesOf_16 : decode cX12_boxesOf 16 = .ok (.getfield 71, 3) := by decide +kernel
theorem dX12_boxesOf_19 : decode cX12_boxesOf 19 = .ok (.bipush 6, 2) := by decide +kernel
theorem dX12_boxesOf_21 : decode cX12_boxesOf 21 = .ok (.iload_n 1, 1) := by decide +kernel
theorem dX12_boxesOf_22 : decode cX12_boxesOf 22 = .ok (.imul, 1) := by decide +kernel
theorem dX12_boxesOf_23 : decode cX12_boxesOf 23 = .ok (.iload_n 3, 1) := by decide +kernel
theorem dX12_boxesOf_24 : decode cX12_boxesOf 24 = .ok (.iadd, 1) := by decide +kernel
theorem dX12_boxesOf_25 : decode cX12_boxesOf 25 = .ok (.iaload, 1) := by decide +kernel
theorem dX12_boxesOf_26 : decode cX12_boxesOf 26 = .ok (.iadd, 1) := by decide +kernel
theorem dX12_boxesOf_27 : decode cX12_boxesOf 27 = .ok (.istore_n 2, 1) := by decide +kernel
theorem dX12_boxesOf_28 : decode cX12_boxesOf 28 = .ok (.iinc 3 1, 3) := by decide +kernel
theorem dX12_boxesOf_31 : decode cX12_boxesOf 31 = .ok (.goto (-27), 3) := by decide +kernel
theorem dX12_boxesOf_34 : decode cX12_boxesOf 34 = .ok (.iload_n 2, 1) := by decide +kernel
theorem dX12_boxesOf_35 : decode cX12_boxesOf 35 = .ok (.ireturn, 1) := by decide +kernel
def M_X12_boxesOf : y_M := (yX12_boxesOf, cX12_boxesOf, 4, (Option.some Jvm.ClassFile.FieldType.int))
theorem n_X12_boxesOf : y_N0 M_X12_boxesOf 1 := ⟨(c_9 14 (by decide +kernel) rfl), (c_1 9 (by decide +kernel) rfl), ⟨by decide +kernel, by decide +kernel⟩, by decide +kernel⟩
set_option maxRecDepth 100000 in
def f_X12_boxesOf (p0 : Nat) (p1 : Int32) (h : y_H) : Option (Int32 × y_H) :=
  y_jl (fun (_ : Nat) (_ : Int32) (_ : Int32) (_ : Int32) (_ : y_H) => (none : Option (Int32 × y_H))) (fun j4 (v0_4 : Nat) (v1_4 : Int32) (v2_4 : Int32) (v3_4 : Int32) (h1 : y_H) =>
      if y_K h1 v0_4 = 13 then
      if y_K h1 (y_P h1 v0_4 19) = 100 ∧ y_ix v1_4 (y_N h1 (y_P h1 v0_4 19)) = true then
      if (y_I h1 (y_P h1 v0_4 19) (Int32.toNatClampNeg v1_4)) ≤ v3_4 then
        some (v2_4, h1)
      else
        if y_K h1 v0_4 = 13 then
        if y_K h1 (y_P h1 v0_4 22) = 100 ∧ y_ix ((6 * v1_4) + v3_4) (y_N h1 (y_P h1 v0_4 22)) = true then
        j4 v0_4 v1_4 (v2_4 + (y_I h1 (y_P h1 v0_4 22) (Int32.toNatClampNeg ((6 * v1_4) + v3_4)))) (v3_4 + 1) h1
        else none
        else none
      else none
      else none) (fun j4 =>
  j4 p0 p1 0 0 h)
abbrev rm_X12_boxesOf : Room := { frames := 0, cells := 0, slots := 0, locals := 0 }
set_option maxRecDepth 100000 in
set_option maxHeartbeats 4000000 in
theorem k_X12_boxesOf {l : Launch} {G : y_G} {p0 : Nat} {p1 : Int32} {h hz : y_H} {rz : Int32} (hf : f_X12_boxesOf p0 p1 h = some (rz, hz)) : y_S l G M_X12_boxesOf rm_X12_boxesOf [y_p p0, .int p1] h (some (.int rz)) hz := by
  refine y_start (lv := [(0, y_p p0), (1, .int p1)]) (by decide) (by simp [lg_sl, y_p_cat, y_ci, y_cj, M_X12_boxesOf]) (by simp [lv_args, y_p_cat, y_ci, y_cj]) (fun z ad0 => ?_)
  unfold f_X12_boxesOf at hf
  refine y_iconst (v := 0) (pc2 := 1) rfl dX12_boxesOf_0 (by decide) ?_
  refine y_istore_n (lv' := [(2, .int 0), (0, y_p p0), (1, .int p1)]) (pc2 := 2) rfl dX12_boxesOf_1 (by decide) rfl ?_
  refine y_iconst (v := 0) (pc2 := 3) rfl dX12_boxesOf_2 (by decide) ?_
  refine y_jlE hf (fun j => ∀ (v0_4 : Nat) (v1_4 : Int32) (v2_4 : Int32) (v3_4 : Int32) (h1 : y_H), j v0_4 v1_4 v2_4 v3_4 h1 = some (rz, hz) → y_V l G z rm_X12_boxesOf M_X12_boxesOf ad0 h (some (.int rz)) hz 4 [(0, y_p v0_4), (1, .int v1_4), (2, .int v2_4), (3, .int v3_4)] [] h1 0 0) (fun _ _ _ _ _ hf => by cases hf) (fun j4 hj4 v0_4 v1_4 v2_4 v3_4 h1 hf => ?_) (fun j4 hj4 hf => ?_)
  · refine y_iload_n (pc2 := 5) rfl dX12_boxesOf_4 rfl ?_
    refine y_aload_n (x := v0_4) (pc2 := 6) rfl dX12_boxesOf_5 rfl ?_
    obtain ⟨g6, hf⟩ := y_g hf
    refine y_getP (pc2 := 9) rfl dX12_boxesOf_6 F_BoxYardModel_62 (by decide) rfl g6 ?_
    refine y_iload_n (pc2 := 10) rfl dX12_boxesOf_9 rfl ?_
    obtain ⟨g5, hf⟩ := y_g hf
    refine y_iald (pc2 := 11) rfl dX12_boxesOf_10 g5.1 (y_ix_in g5.2) ?_
    refine y_icmp_ge (tgt := 34) (pc2 := 14) rfl dX12_boxesOf_11 (by decide) (fun c4 => ?_) (fun c4 => ?_)
    · replace hf := y_it c4 hf
      refine y_iload_n (pc2 := 35) rfl dX12_boxesOf_34 rfl ?_
      exact y_iretF hf dX12_boxesOf_35 rfl (by decide) (by decide)
    · replace hf := y_ie c4 hf
      refine y_iload_n (pc2 := 15) rfl dX12_boxesOf_14 rfl ?_
      refine y_aload_n (x := v0_4) (pc2 := 16) rfl dX12_boxesOf_15 rfl ?_
      obtain ⟨g3, hf⟩ := y_g hf
      refine y_getP (pc2 := 19) rfl dX12_boxesOf_16 F_BoxYardModel_71 (by decide) rfl g3 ?_
      refine y_bipush (v := 6) (pc2 := 21) rfl dX12_boxesOf_19 (by decide) ?_
      refine y_iload_n (pc2 := 22) rfl dX12_boxesOf_21 rfl ?_
      refine y_imul (pc2 := 23) rfl dX12_boxesOf_22 ?_
      refine y_iload_n (pc2 := 24) rfl dX12_boxesOf_23 rfl ?_
      refine y_iadd (pc2 := 25) rfl dX12_boxesOf_24 ?_
      obtain ⟨g2, hf⟩ := y_g hf
      refine y_iald (pc2 := 26) rfl dX12_boxesOf_25 g2.1 (y_ix_in g2.2) ?_
      refine y_iadd (pc2 := 27) rfl dX12_boxesOf_26 ?_
      refine y_istore_n (lv' := [(2, .int (v2_4 + (y_I h1 (y_P h1 v0_4 22) (Int32.toNatClampNeg ((6 * v1_4) + v3_4))))), (0, y_p v0_4), (1, .int v1_4), (3, .int v3_4)]) (pc2 := 28) rfl dX12_boxesOf_27 (by decide) rfl ?_
      refine y_iinc (v := v3_4 + 1) (lv' := [(3, .int (v3_4 + 1)), (2, .int (v2_4 + (y_I h1 (y_P h1 v0_4 22) (Int32.toNatClampNeg ((6 * v1_4) + v3_4))))), (0, y_p v0_4), (1, .int v1_4)]) (pc2 := 31) rfl dX12_boxesOf_28 rfl rfl (by decide) rfl ?_
      refine y_goto (tgt := 4) dX12_boxesOf_31 (by decide) ?_
      exact y_pk [2, 3, 1, 0] rfl (hj4 _ _ _ _ _ hf)
  · refine y_istore_n (lv' := [(3, .int 0), (2, .int 0), (0, y_p p0), (1, .int p1)]) (pc2 := 4) rfl dX12_boxesOf_3 (by decide) rfl ?_
    exact y_pk [2, 3, 1, 0] rfl (hj4 _ _ _ _ _ hf)
theorem dX12_share_0 : decode cX12_share 0 = .ok (.iload_n 1, 1) := by decide +kernel
theorem dX12_share_1 : decode cX12_share 1 = .ok (.iconst 0, 1) := by decide +kernel
theorem dX12_share_2 : decode cX12_share 2 = .ok (.bipush 9, 2) := by decide +kernel
theorem dX12_share_4 : decode cX12_share 4 = .ok (.invokestatic 278, 3) := by decide +kernel
theorem dX12_share_7 : decode cX12_share 7 = .ok (.ifCond .ne 5, 3) := by decide +kernel
theorem dX12_share_10 : decode cX12_share 10 = .ok (.iconst (-1), 1) := by decide +kernel
theorem dX12_share_11 : decode cX12_share 11 = .ok (.ireturn, 1) := by decide +kernel
theorem dX12_share_12 : decode cX12_share 12 = .ok (.aload_n 0, 1) := by decide +kernel
theorem dX12_share_13 : decode cX12_share 13 = .ok (.getfield 56, 3) := by decide +kernel
theorem dX12_share_16 : decode cX12_share 16 = .ok (.iload_n 1, 1) := by decide +kernel
theorem dX12_share_17 : decode cX12_share 17 = .ok (.baload, 1) := by decide +kernel
theorem dX12_share_18 : decode cX12_share 18 = .ok (.ifCond .ne 9, 3) := by decide +kernel
theorem dX12_share_21 : decode cX12_share 21 = .ok (.aload_n 0, 1) := by decide +kernel
theorem dX12_share_22 : decode cX12_share 22 = .ok (.iconst 1, 1) := by decide +kernel
theorem dX12_share_23 : decode cX12_share 23 = .ok (.invokevirtual 301, 3) := by decide +kernel
theorem dX12_share_26 : decode cX12_share 26 = .ok (.ireturn, 1) := by decide +kernel
theorem dX12_share_27 : decode cX12_share 27 = .ok (.aload_n 0, 1) := by decide +kernel
theorem dX12_share_28 : decode cX12_share 28 = .ok (.iload_n 1, 1) := by decide +kernel
theorem dX12_share_29 : decode cX12_share 29 = .ok (.invokevirtual 323, 3) := by decide +kernel
theorem dX12_share_32 : decode cX12_share 32 = .ok (.istore_n 2, 1) := by decide +kernel
theorem dX12_share_33 : decode cX12_share 33 = .ok (.iload_n 2, 1) := by decide +kernel
theorem dX12_share_34 : decode cX12_share 34 = .ok (.ifCond .ne 10, 3) := by decide +kernel
theorem dX12_share_37 : decode cX12_share 37 = .ok (.aload_n 0, 1) := by decide +kernel
theorem dX12_share_38 : decode cX12_share 38 = .ok (.bipush 6, 2) := by decide +kernel
theorem dX12_share_40 : decode cX12_share 40 = .ok (.invokevirtual 301, 3) := by decide +kernel
theorem dX12_share_43 : decode cX12_share 43 = .ok (.ireturn, 1) := by decide +kernel
theorem dX12_share_44 : decode cX12_share 44 = .ok (.iconst 0, 1) := by decide +kernel
theorem dX12_share_45 : decode cX12_share 45 = .ok (.istore_n 3, 1) := by decide +kernel
theorem dX12_share_46 : decode cX12_share 46 = .ok (.iconst 0, 1) := by decide +kernel
theorem dX12_share_47 : decode cX12_share 47 = .ok (.istore 4, 2) := by decide +kernel
theorem dX12_share_49 : decode cX12_share 49 = .ok (.iload 4, 2) := by decide +kernel
theorem dX12_share_51 : decode cX12_share 51 = .ok (.aload_n 0, 1) := by decide +kernel
theorem dX12_share_52 : decode cX12_share 52 = .ok (.getfield 234, 3) := by decide +kernel
theorem dX12_share_55 : decode cX12_share 55 = .ok (.if_icmp .ge 44, 3) := by decide +kernel
theorem dX12_share_58 : decode cX12_share 58 = .ok (.iload_n 3, 1) := by decide +kernel
theorem dX12_share_59 : decode cX12_share 59 = .ok (.aload_n 0, 1) := by decide +kernel
theorem dX12_share_60 : decode cX12_share 60 = .ok (.getfield 29, 3) := by decide +kernel
theorem dX12_share_63 : decode cX12_share 63 = .ok (.iload 4, 2) := by decide +kernel
theorem dX12_share_65 : decode cX12_share 65 = .ok (.iaload, 1) := by decide +kernel
theorem dX12_share_66 : decode cX12_share 66 = .ok (.iconst 1, 1) := by decide +kernel
theorem dX12_share_67 : decode cX12_share 67 = .ok (.if_icmp .ne 23, 3) := by decide +kernel
theorem dX12_share_70 : decode cX12_share 70 = .ok (.aload_n 0, 1) := by decide +kernel
theorem dX12_share_71 : decode cX12_share 71 = .ok (.getfield 32, 3) := by decide +kernel
theorem dX12_share_74 : decode cX12_share 74 = .ok (.iload 4, 2) := by decide +kernel
theorem dX12_share_76 : decode cX12_share 76 = .ok (.iaload, 1) := by decide +kernel
theorem dX12_share_77 : decode cX12_share 77 = .ok (.iload_n 1, 1) := by decide +kernel
theorem dX12_share_78 : decode cX12_share 78 = .ok (.if_icmp .ne 12, 3) := by decide +kernel
theorem dX12_share_81 : decode cX12_share 81 = .ok (.aload_n 0, 1) := by decide +kernel
theorem dX12_share_82 : decode cX12_share 82 = .ok (.iload 4, 2) := by decide +kernel
theorem dX12_share_84 : decode cX12_share 84 = .ok (.invokevirtual 290, 3) := by decide +kernel
theorem dX12_share_87 : decode cX12_share 87 = .ok (.goto 4, 3) := by decide +kernel
theorem dX12_share_90 : decode cX12_share 90 = .ok (.iconst 0, 1) := by decide +kernel
theorem dX12_share_91 : decode cX12_share 91 = .ok (.iadd, 1) := by decide +kernel
theorem dX12_share_92 : decode cX12_share 92 = .ok (.istore_n 3, 1) := by decide +kernel
theorem dX12_share_93 : decode cX12_share 93 = .ok (.iinc 4 1, 3) := by decide +kernel
theorem dX12_share_96 : decode cX12_share 96 = .ok (.goto (-47), 3) := by decide +kernel
theorem dX12_share_99 : decode cX12_share 99 = .ok (.iload_n 3, 1) := by decide +kernel
theorem dX12_share_100 : decode cX12_share 100 = .ok (.iload_n 2, 1) := by decide +kernel
theorem dX12_share_101 : decode cX12_share 101 = .ok (.idiv, 1) := by decide +kernel
theorem dX12_share_102 : decode cX12_share 102 = .ok (.ireturn, 1) := by decide +kernel
def M_X12_share : y_M := (yX12_share, cX12_share, 5, (Option.some Jvm.ClassFile.FieldType.int))
theorem n_X12_share : y_N0 M_X12_share 1 := ⟨(c_9 10 (by decide +kernel) rfl), (c_1 9 (by decide +kernel) rfl), ⟨by decide +kernel, by decide +kernel⟩, by decide +kernel⟩
theorem l_BoxYardModel_323 : y_lnk "BoxYardModel" 323 M_X12_boxesOf := Or.inl (c_9 11 (by decide +kernel) rfl)
theorem i_X12_boxesOf : Cond.instanceMethod (M_X12_boxesOf).1 ∈ y_tb := (c_9 13 (by decide +kernel) rfl)
theorem e_X12_boxesOf : Cond.selects (M_X12_boxesOf).1.cls (M_X12_boxesOf).1 (M_X12_boxesOf).1 ∈ y_tb := (m_s 69 (by decide +kernel) rfl)
set_option maxRecDepth 100000 in
def f_X12_share (p0 : Nat) (p1 : Int32) (h : y_H) : Option (Int32 × y_H) :=
  y_cl (f_X12_in p1 0 9 h) (fun r1 h2 =>
  if r1 = true then
    if y_K h2 p0 = 13 then
    if y_K h2 (y_P h2 p0 17) = 102 ∧ y_ix p1 (y_N h2 (y_P h2 p0 17)) = true then
    if (y_B h2 (y_P h2 p0 17) (Int32.toNatClampNeg p1)) = true then
      if y_K h2 p0 = 13 then
      y_cl (f_X12_boxesOf p0 p1 h2) (fun r4 h5 =>
      if r4 = 0 then
        if y_K h5 p0 = 13 then
        y_cl (f_X12_finds p0 6 h5) (fun r21 h22 =>
        some (r21, h22))
        else none
      else
        y_jl (fun (_ : Nat) (_ : Int32) (_ : Int32) (_ : Int32) (_ : Int32) (_ : y_H) => (none : Option (Int32 × y_H))) (fun j49 (v0_49 : Nat) (v1_49 : Int32) (v2_49 : Int32) (v3_49 : Int32) (v4_49 : Int32) (h7 : y_H) =>
            if y_K h7 v0_49 = 13 then
            if (y_I h7 v0_49 0) ≤ v4_49 then
              if ¬ v2_49 = 0 then
              some (v3_49 / v2_49, h7)
              else none
            else
              if y_K h7 v0_49 = 13 then
              if y_K h7 (y_P h7 v0_49 7) = 100 ∧ y_ix v4_49 (y_N h7 (y_P h7 v0_49 7)) = true then
              if (y_I h7 (y_P h7 v0_49 7) (Int32.toNatClampNeg v4_49)) = 1 then
                if y_K h7 v0_49 = 13 then
                if y_K h7 (y_P h7 v0_49 8) = 100 ∧ y_ix v4_49 (y_N h7 (y_P h7 v0_49 8)) = true then
                if (y_I h7 (y_P h7 v0_49 8) (Int32.toNatClampNeg v4_49)) = v1_49 then
                  if y_K h7 v0_49 = 13 then
                  y_cl (f_X12_known v0_49 v4_49 h7) (fun r9 h10 =>
                  j49 v0_49 v1_49 v2_49 (v3_49 + r9) (v4_49 + 1) h10)
                  else none
                else
                  j49 v0_49 v1_49 v2_49 (v3_49 + 0) (v4_49 + 1) h7
                else none
                else none
              else
                j49 v0_49 v1_49 v2_49 (v3_49 + 0) (v4_49 + 1) h7
              else none
              else none
            else none) (fun j49 =>
        j49 p0 p1 r4 0 0 h5))
      else none
    else
      if y_K h2 p0 = 13 then
      y_cl (f_X12_finds p0 1 h2) (fun r27 h28 =>
      some (r27, h28))
      else none
    else none
    else none
  else
    some ((-1 : Int32), h2))
abbrev rm_X12_share : Room := { frames := 1, cells := 0, slots := 0, locals := 23 }
set_option maxRecDepth 100000 in
set_option maxHeartbeats 4000000 in
theorem k_X12_share {l : Launch} {G : y_G} {p0 : Nat} {p1 : Int32} {h hz : y_H} {rz : Int32} (hf : f_X12_share p0 p1 h = some (rz, hz)) : y_S l G M_X12_share rm_X12_share [y_p p0, .int p1] h (some (.int rz)) hz := by
  refine y_start (lv := [(0, y_p p0), (1, .int p1)]) (by decide) (by simp [lg_sl, y_p_cat, y_ci, y_cj, M_X12_share]) (by simp [lv_args, y_p_cat, y_ci, y_cj]) (fun z ad0 => ?_)
  unfold f_X12_share at hf
  refine y_iload_n (pc2 := 1) rfl dX12_share_0 rfl ?_
  refine y_iconst (v := 0) (pc2 := 2) rfl dX12_share_1 (by decide) ?_
  refine y_bipush (v := 9) (pc2 := 4) rfl dX12_share_2 (by decide) ?_
  obtain ⟨r1, h2, c3, hf⟩ := y_clE hf
  refine y_callS (As := [.int p1, .int 0, .int 9]) (rm := rm_X12_in) (cells := 0) (slots := 0) (pc2 := 7) rfl dX12_share_4 n_X12_in l_BoxYardModel_278 t_X12_in rfl rfl (by decide) (by decide) (by decide) (k_X12_in c3) ?_
  refine y_ifz_ne (tgt := 12) (pc2 := 10) rfl dX12_share_7 (by decide) (fun c34 => ?_) (fun c34 => ?_)
  · replace hf := y_it c34 hf
    refine y_aload_n (x := p0) (pc2 := 13) rfl dX12_share_12 rfl ?_
    obtain ⟨g33, hf⟩ := y_g hf
    refine y_getP (pc2 := 16) rfl dX12_share_13 F_BoxYardModel_56 (by decide) rfl g33 ?_
    refine y_iload_n (pc2 := 17) rfl dX12_share_16 rfl ?_
    obtain ⟨g32, hf⟩ := y_g hf
    refine y_zald (pc2 := 18) rfl dX12_share_17 g32.1 (y_ix_in g32.2) ?_
    refine y_ifz_ne (tgt := 27) (pc2 := 21) rfl dX12_share_18 (by decide) (fun c31 => ?_) (fun c31 => ?_)
    · replace hf := y_it c31 hf
      refine y_aload_n (x := p0) (pc2 := 28) rfl dX12_share_27 rfl ?_
      refine y_iload_n (pc2 := 29) rfl dX12_share_28 rfl ?_
      obtain ⟨g26, hf⟩ := y_g hf
      obtain ⟨r4, h5, c6, hf⟩ := y_clE hf
      refine y_callV (As := [.int p1]) (rm := rm_X12_boxesOf) (cells := 0) (slots := 0) (pc2 := 32) rfl dX12_share_29 n_X12_boxesOf l_BoxYardModel_323 i_X12_boxesOf e_X12_boxesOf (ci := 12) rfl rfl (by decide) g26 rfl rfl (by decide) (by decide) (by decide) (k_X12_boxesOf c6) ?_
      refine y_istore_n (lv' := [(2, .int r4), (0, y_p p0), (1, .int p1)]) (pc2 := 33) rfl dX12_share_32 (by decide) rfl ?_
      refine y_iload_n (pc2 := 34) rfl dX12_share_33 rfl ?_
      refine y_if_ne (tgt := 44) (pc2 := 37) rfl dX12_share_34 (by decide) (fun c25 => ?_) (fun c25 => ?_)
      · replace hf := y_ie c25 hf
        refine y_iconst (v := 0) (pc2 := 45) rfl dX12_share_44 (by decide) ?_
        refine y_istore_n (lv' := [(3, .int 0), (2, .int r4), (0, y_p p0), (1, .int p1)]) (pc2 := 46) rfl dX12_share_45 (by decide) rfl ?_
        refine y_iconst (v := 0) (pc2 := 47) rfl dX12_share_46 (by decide) ?_
        refine y_jlE hf (fun j => ∀ (v0_49 : Nat) (v1_49 : Int32) (v2_49 : Int32) (v3_49 : Int32) (v4_49 : Int32) (h7 : y_H), j v0_49 v1_49 v2_49 v3_49 v4_49 h7 = some (rz, hz) → y_V l G z rm_X12_share M_X12_share ad0 h (some (.int rz)) hz 49 [(0, y_p v0_49), (1, .int v1_49), (2, .int v2_49), (3, .int v3_49), (4, .int v4_49)] [] h7 0 0) (fun _ _ _ _ _ _ hf => by cases hf) (fun j49 hj49 v0_49 v1_49 v2_49 v3_49 v4_49 h7 hf => ?_) (fun j49 hj49 hf => ?_)
        · refine y_iload (pc2 := 51) rfl dX12_share_49 rfl ?_
          refine y_aload_n (x := v0_49) (pc2 := 52) rfl dX12_share_51 rfl ?_
          obtain ⟨g20, hf⟩ := y_g hf
          refine y_getI (pc2 := 55) rfl dX12_share_52 F_BoxYardModel_234 (by decide) rfl g20 ?_
          refine y_icmp_ge (tgt := 99) (pc2 := 58) rfl dX12_share_55 (by decide) (fun c19 => ?_) (fun c19 => ?_)
          · replace hf := y_it c19 hf
            refine y_iload_n (pc2 := 100) rfl dX12_share_99 rfl ?_
            refine y_iload_n (pc2 := 101) rfl dX12_share_100 rfl ?_
            obtain ⟨g8, hf⟩ := y_g hf
            refine y_idiv (pc2 := 102) rfl dX12_share_101 g8 ?_
            exact y_iretF hf dX12_share_102 rfl (by decide) (by decide)
          · replace hf := y_ie c19 hf
            refine y_iload_n (pc2 := 59) rfl dX12_share_58 rfl ?_
            refine y_aload_n (x := v0_49) (pc2 := 60) rfl dX12_share_59 rfl ?_
            obtain ⟨g18, hf⟩ := y_g hf
            refine y_getP (pc2 := 63) rfl dX12_share_60 F_BoxYardModel_29 (by decide) rfl g18 ?_
            refine y_iload (pc2 := 65) rfl dX12_share_63 rfl ?_
            obtain ⟨g17, hf⟩ := y_g hf
            refine y_iald (pc2 := 66) rfl dX12_share_65 g17.1 (y_ix_in g17.2) ?_
            refine y_iconst (v := 1) (pc2 := 67) rfl dX12_share_66 (by decide) ?_
            refine y_icmp_ne (tgt := 90) (pc2 := 70) rfl dX12_share_67 (by decide) (fun c16 => ?_) (fun c16 => ?_)
            · replace hf := y_ie c16 hf
              refine y_iconst (v := 0) (pc2 := 91) rfl dX12_share_90 (by decide) ?_
              refine y_iadd (pc2 := 92) rfl dX12_share_91 ?_
              refine y_istore_n (lv' := [(3, .int (v3_49 + 0)), (0, y_p v0_49), (1, .int v1_49), (2, .int v2_49), (4, .int v4_49)]) (pc2 := 93) rfl dX12_share_92 (by decide) rfl ?_
              refine y_iinc (v := v4_49 + 1) (lv' := [(4, .int (v4_49 + 1)), (3, .int (v3_49 + 0)), (0, y_p v0_49), (1, .int v1_49), (2, .int v2_49)]) (pc2 := 96) rfl dX12_share_93 rfl rfl (by decide) rfl ?_
              refine y_goto (tgt := 49) dX12_share_96 (by decide) ?_
              exact y_pk [2, 3, 4, 1, 0] rfl (hj49 _ _ _ _ _ _ hf)
            · replace hf := y_it c16 hf
              refine y_aload_n (x := v0_49) (pc2 := 71) rfl dX12_share_70 rfl ?_
              obtain ⟨g15, hf⟩ := y_g hf
              refine y_getP (pc2 := 74) rfl dX12_share_71 F_BoxYardModel_32 (by decide) rfl g15 ?_
              refine y_iload (pc2 := 76) rfl dX12_share_74 rfl ?_
              obtain ⟨g14, hf⟩ := y_g hf
              refine y_iald (pc2 := 77) rfl dX12_share_76 g14.1 (y_ix_in g14.2) ?_
              refine y_iload_n (pc2 := 78) rfl dX12_share_77 rfl ?_
              refine y_icmp_ne (tgt := 90) (pc2 := 81) rfl dX12_share_78 (by decide) (fun c13 => ?_) (fun c13 => ?_)
              · replace hf := y_ie c13 hf
                refine y_iconst (v := 0) (pc2 := 91) rfl dX12_share_90 (by decide) ?_
                refine y_iadd (pc2 := 92) rfl dX12_share_91 ?_
                refine y_istore_n (lv' := [(3, .int (v3_49 + 0)), (0, y_p v0_49), (1, .int v1_49), (2, .int v2_49), (4, .int v4_49)]) (pc2 := 93) rfl dX12_share_92 (by decide) rfl ?_
                refine y_iinc (v := v4_49 + 1) (lv' := [(4, .int (v4_49 + 1)), (3, .int (v3_49 + 0)), (0, y_p v0_49), (1, .int v1_49), (2, .int v2_49)]) (pc2 := 96) rfl dX12_share_93 rfl rfl (by decide) rfl ?_
                refine y_goto (tgt := 49) dX12_share_96 (by decide) ?_
                exact y_pk [2, 3, 4, 1, 0] rfl (hj49 _ _ _ _ _ _ hf)
              · replace hf := y_it c13 hf
                refine y_aload_n (x := v0_49) (pc2 := 82) rfl dX12_share_81 rfl ?_
                refine y_iload (pc2 := 84) rfl dX12_share_82 rfl ?_
                obtain ⟨g12, hf⟩ := y_g hf
                obtain ⟨r9, h10, c11, hf⟩ := y_clE hf
                refine y_callV (As := [.int v4_49]) (rm := rm_X12_known) (cells := 0) (slots := 0) (pc2 := 87) rfl dX12_share_84 n_X12_known l_BoxYardModel_290 i_X12_known e_X12_known (ci := 12) rfl rfl (by decide) g12 rfl rfl (by decide) (by simp [y_ci, y_cj, y_p_cat]) (by decide) (k_X12_known c11) ?_
                refine y_goto (tgt := 91) dX12_share_87 (by decide) ?_
                refine y_iadd (pc2 := 92) rfl dX12_share_91 ?_
                refine y_istore_n (lv' := [(3, .int (v3_49 + r9)), (0, y_p v0_49), (1, .int v1_49), (2, .int v2_49), (4, .int v4_49)]) (pc2 := 93) rfl dX12_share_92 (by decide) rfl ?_
                refine y_iinc (v := v4_49 + 1) (lv' := [(4, .int (v4_49 + 1)), (3, .int (v3_49 + r9)), (0, y_p v0_49), (1, .int v1_49), (2, .int v2_49)]) (pc2 := 96) rfl dX12_share_93 rfl rfl (by decide) rfl ?_
                refine y_goto (tgt := 49) dX12_share_96 (by decide) ?_
                exact y_pk [2, 3, 4, 1, 0] rfl (hj49 _ _ _ _ _ _ hf)
        · refine y_istore (lv' := [(4, .int 0), (3, .int 0), (2, .int r4), (0, y_p p0), (1, .int p1)]) (pc2 := 49) rfl dX12_share_47 (by decide) rfl ?_
          exact y_pk [3, 4, 2, 1, 0] rfl (hj49 _ _ _ _ _ _ hf)
      · replace hf := y_it c25 hf
        refine y_aload_n (x := p0) (pc2 := 38) rfl dX12_share_37 rfl ?_
        refine y_bipush (v := 6) (pc2 := 40) rfl dX12_share_38 (by decide) ?_
        obtain ⟨g24, hf⟩ := y_g hf
        obtain ⟨r21, h22, c23, hf⟩ := y_clE hf
        refine y_callV (As := [.int 6]) (rm := rm_X12_finds) (cells := 0) (slots := 0) (pc2 := 43) rfl dX12_share_40 n_X12_finds l_BoxYardModel_301 i_X12_finds e_X12_finds (ci := 12) rfl rfl (by decide) g24 rfl rfl (by decide) (by decide) (by decide) (k_X12_finds c23) ?_
        exact y_iretF hf dX12_share_43 rfl (by decide) (by decide)
    · replace hf := y_ie c31 hf
      refine y_aload_n (x := p0) (pc2 := 22) rfl dX12_share_21 rfl ?_
      refine y_iconst (v := 1) (pc2 := 23) rfl dX12_share_22 (by decide) ?_
      obtain ⟨g30, hf⟩ := y_g hf
      obtain ⟨r27, h28, c29, hf⟩ := y_clE hf
      refine y_callV (As := [.int 1]) (rm := rm_X12_finds) (cells := 0) (slots := 0) (pc2 := 26) rfl dX12_share_23 n_X12_finds l_BoxYardModel_301 i_X12_finds e_X12_finds (ci := 12) rfl rfl (by decide) g30 rfl rfl (by decide) (by decide) (by decide) (k_X12_finds c29) ?_
      exact y_iretF hf dX12_share_26 rfl (by decide) (by decide)
  · replace hf := y_ie c34 hf
    refine y_iconst (v := (-1 : Int32)) (pc2 := 11) rfl dX12_share_10 (by decide) ?_
    exact y_iretF hf dX12_share_11 rfl (by decide) (by decide)
theorem dX12_loadOf_0 : decode cX12_loadOf 0 = .ok (.aload_n 0, 1) := by decide +kernel
theorem dX12_loadOf_1 : decode cX12_loadOf 1 = .ok (.getfield 80, 3) := by decide +kernel
theorem dX12_loadOf_4 : decode cX12_loadOf 4 = .ok (.iload_n 1, 1) := by decide +kernel
theorem dX12_loadOf_5 : decode cX12_loadOf 5 = .ok (.iaload, 1) := by decide +kernel
theorem dX12_loadOf_6 : decode cX12_loadOf 6 = .ok (.istore_n 2, 1) := by decide +kernel
theorem dX12_loadOf_7 : decode cX12_loadOf 7 = .ok (.iload_n 2, 1) := by decide +kernel
theorem dX12_loadOf_8 : decode cX12_loadOf 8 = .ok (.iconst 1, 1) := by decide +kernel
theorem dX12_loadOf_9 : decode cX12_loadOf 9 = .ok (.if_icmp .eq 8, 3) := by decide +kernel
theorem dX12_loadOf_12 : decode cX12_loadOf 12 = .ok (.iload_n 2, 1) := by decide +kernel
theorem dX12_loadOf_13 : decode cX12_loadOf 13 = .ok (.iconst 2, 1) := by decide +kernel
theorem dX12_loadOf_14 : decode cX12_loadOf 14 = .ok (.if_icmp .ne 19, 3) := by decide +kernel
theorem dX12_loadOf_17 : decode cX12_loadOf 17 = .ok (.aload_n 0, 1) := by decide +kernel
theorem dX12_loadOf_18 : decode cX12_loadOf 18 = .ok (.iload_n 2, 1) := by decide +kernel
theorem dX12_loadOf_19 : decode cX12_loadOf 19 = .ok (.iconst 1, 1) := by decide +kernel
theorem dX12_loadOf_20 : decode cX12_loadOf 20 = .ok (.if_icmp .ne 8, 3) := by decide +kernel
theorem dX12_loadOf_23 : decode cX12_loadOf 23 = .ok (.bipush 42, 2) := by decide +kernel
theorem dX12_loadOf_25 : decode cX12_loadOf 25 = .ok (.goto 5, 3) := by decide +kernel
theorem dX12_loadOf_28 : decode cX12_loadOf 28 = .ok (.bipush 43, 2) := by decide +kernel
theorem dX12_loadOf_30 : decode cX12_loadOf 30 = .ok (.invokevirtual 286, 3) := by decide +kernel
theorem dX12_loadOf_33 : decode cX12_loadOf 33 = .ok (.iload_n 2, 1) := by decide +kernel
theorem dX12_loadOf_34 : decode cX12_loadOf 34 = .ok (.iconst 4, 1) := by decide +kernel
theorem dX12_loadOf_35 : decode cX12_loadOf 35 = .ok (.if_icmp .ne 9, 3) := by decide +kernel
theorem dX12_loadOf_38 : decode cX12_loadOf 38 = .ok (.aload_n 0, 1) := by decide +kernel
theorem dX12_loadOf_39 : decode cX12_loadOf 39 = .ok (.bipush 45, 2) := by decide +kernel
theorem dX12_loadOf_41 : decode cX12_loadOf 41 = .ok (.invokevirtual 286, 3) := by decide +kernel
theorem dX12_loadOf_44 : decode cX12_loadOf 44 = .ok (.aload_n 0, 1) := by decide +kernel
theorem dX12_loadOf_45 : decode cX12_loadOf 45 = .ok (.iload_n 2, 1) := by decide +kernel
theorem dX12_loadOf_46 : decode cX12_loadOf 46 = .ok (.iconst 3, 1) := by decide +kernel
theorem dX12_loadOf_47 : decode cX12_loadOf 47 = .ok (.if_icmp .ge 8, 3) := by decide +kernel
theorem dX12_loadOf_50 : decode cX12_loadOf 50 = .ok (.bipush 41, 2) := by decide +kernel
theorem dX12_loadOf_52 : decode cX12_loadOf 52 = .ok (.goto 5, 3) := by decide +kernel
theorem dX12_loadOf_55 : decode cX12_loadOf 55 = .ok (.bipush 44, 2) := by decide +kernel
theorem dX12_loadOf_57 : decode cX12_loadOf 57 = .ok (.invokevirtual 286, 3) := by decide +kernel
theorem dX12_loadOf_60 : decode cX12_loadOf 60 = .ok (.iload_n 2, 1) := by decide +kernel
theorem dX12_loadOf_61 : decode cX12_loadOf 61 = .ok (.ifCond .ne 9, 3) := by decide +kernel
theorem dX12_loadOf_64 : decode cX12_loadOf 64 = .ok (.sipush 300, 3) := by decide +kernel
theorem dX12_loadOf_67 : decode cX12_loadOf 67 = .ok (.goto 39, 3) := by decide +kernel
theorem dX12_loadOf_70 : decode cX12_loadOf 70 = .ok (.iload_n 2, 1) := by decide +kernel
theorem dX12_loadOf_71 : decode cX12_loadOf 71 = .ok (.iconst 1, 1) := by decide +kernel
theorem dX12_loadOf_72 : decode cX12_loadOf 72 = .ok (.if_icmp .ne 9, 3) := by decide +kernel
theorem dX12_loadOf_75 : decode cX12_loadOf 75 = .ok (.sipush 400, 3) := by decide +kernel
theorem dX12_loadOf_78 : decode cX12_loadOf 78 = .ok (.goto 28, 3) := by decide +kernel
theorem dX12_loadOf_81 : decode cX12_loadOf 81 = .ok (.iload_n 2, 1) := by decide +kernel
theorem dX12_loadOf_82 : decode cX12_loadOf 82 = .ok (.iconst 2, 1) := by decide +kernel
theorem dX12_loadOf_83 : decode cX12_loadOf 83 = .ok (.if_icmp .ne 9, 3) := by decide +kernel
theorem dX12_loadOf_86 : decode cX12_loadOf 86 = .ok (.sipush 250, 3) := by decide +kernel
theorem dX12_loadOf_89 : decode cX12_loadOf 89 = .ok (.goto 17, 3) := by decide +kernel
theorem dX12_loadOf_92 : decode cX12_loadOf 92 = .ok (.iload_n 2, 1) := by decide +kernel
theorem dX12_loadOf_93 : decode cX12_loadOf 93 = .ok (.iconst 3, 1) := by decide +kernel
theorem dX12_loadOf_94 : decode cX12_loadOf 94 = .ok (.if_icmp .ne 9, 3) := by decide +kernel
theorem dX12_loadOf_97 : decode cX12_loadOf 97 = .ok (.sipush 200, 3) := by decide +kernel
theorem dX12_loadOf_100 : decode cX12_loadOf 100 = .ok (.goto 6, 3) := by decide +kernel
theorem dX12_loadOf_103 : decode cX12_loadOf 103 = .ok (.sipush 250, 3) := by decide +kernel
theorem dX12_loadOf_106 : decode cX12_loadOf 106 = .ok (.ireturn, 1) := by decide +kernel
def M_X12_loadOf : y_M := (yX12_loadOf, cX12_loadOf, 3, (Option.some Jvm.ClassFile.FieldType.int))
theorem n_X12_loadOf : y_N0 M_X12_loadOf 1 := ⟨(c_9 42 (by decide +kernel) rfl), (c_1 9 (by decide +kernel) rfl), ⟨by decide +kernel, by decide +kernel⟩, by decide +kernel⟩
theorem F_BoxYardModel_80 : y_F "BoxYardModel" 80 12 26 := ⟨_, _, _, rfl, by decide, Or.inl (c_7 148 (by decide +kernel) rfl)⟩
set_option maxRecDepth 100000 in
def f_X12_loadOf (p0 : Nat) (p1 : Int32) (h : y_H) : Option (Int32 × y_H) :=
  if y_K h p0 = 13 then
  if y_K h (y_P h p0 26) = 100 ∧ y_ix p1 (y_N h (y_P h p0 26)) = true then
  y_jn (fun (v0_33 : Nat) (v2_33 : Int32) (h1 : y_H) => (
      y_jn (fun (v0_44 : Nat) (v2_44 : Int32) (h2 : y_H) => (
          if 3 ≤ v2_44 then
            if y_K h2 v0_44 = 13 then
            y_cl (f_X12_mark v0_44 44 h2) (fun _ h3 =>
            if v2_44 = 0 then
              some (300, h3)
            else
              if v2_44 = 1 then
                some (400, h3)
              else
                if v2_44 = 2 then
                  some (250, h3)
                else
                  if v2_44 = 3 then
                    some (200, h3)
                  else
                    some (250, h3))
            else none
          else
            if y_K h2 v0_44 = 13 then
            y_cl (f_X12_mark v0_44 41 h2) (fun _ h10 =>
            if v2_44 = 0 then
              some (300, h10)
            else
              if v2_44 = 1 then
                some (400, h10)
              else
                if v2_44 = 2 then
                  some (250, h10)
                else
                  if v2_44 = 3 then
                    some (200, h10)
                  else
                    some (250, h10))
            else none : Option (Int32 × y_H))) (fun j44 =>
      if v2_33 = 4 then
        if y_K h1 v0_33 = 13 then
        y_cl (f_X12_mark v0_33 45 h1) (fun _ h18 =>
        j44 v0_33 v2_33 h18)
        else none
      else
        j44 v0_33 v2_33 h1) : Option (Int32 × y_H))) (fun j33 =>
  y_jn (fun (v0_17 : Nat) (v2_17 : Int32) (h22 : y_H) => (
      if v2_17 = 1 then
        if y_K h22 v0_17 = 13 then
        y_cl (f_X12_mark v0_17 42 h22) (fun _ h26 =>
        j33 v0_17 v2_17 h26)
        else none
      else
        if y_K h22 v0_17 = 13 then
        y_cl (f_X12_mark v0_17 43 h22) (fun _ h23 =>
        j33 v0_17 v2_17 h23)
        else none : Option (Int32 × y_H))) (fun j17 =>
  if (y_I h (y_P h p0 26) (Int32.toNatClampNeg p1)) = 1 then
    j17 p0 (y_I h (y_P h p0 26) (Int32.toNatClampNeg p1)) h
  else
    if (y_I h (y_P h p0 26) (Int32.toNatClampNeg p1)) = 2 then
      j17 p0 (y_I h (y_P h p0 26) (Int32.toNatClampNeg p1)) h
    else
      j33 p0 (y_I h (y_P h p0 26) (Int32.toNatClampNeg p1)) h))
  else none
  else none
abbrev rm_X12_loadOf : Room := { frames := 1, cells := 0, slots := 0, locals := 21 }
set_option maxRecDepth 100000 in
set_option maxHeartbeats 4000000 in
theorem k_X12_loadOf {l : Launch} {G : y_G} {p0 : Nat} {p1 : Int32} {h hz : y_H} {rz : Int32} (hf : f_X12_loadOf p0 p1 h = some (rz, hz)) : y_S l G M_X12_loadOf rm_X12_loadOf [y_p p0, .int p1] h (some (.int rz)) hz := by
  refine y_start (lv := [(0, y_p p0), (1, .int p1)]) (by decide) (by simp [lg_sl, y_p_cat, y_ci, y_cj, M_X12_loadOf]) (by simp [lv_args, y_p_cat, y_ci, y_cj]) (fun z ad0 => ?_)
  unfold f_X12_loadOf at hf
  refine y_aload_n (x := p0) (pc2 := 1) rfl dX12_loadOf_0 rfl ?_
  obtain ⟨g33, hf⟩ := y_g hf
  refine y_getP (pc2 := 4) rfl dX12_loadOf_1 F_BoxYardModel_80 (by decide) rfl g33 ?_
  refine y_iload_n (pc2 := 5) rfl dX12_loadOf_4 rfl ?_
  obtain ⟨g32, hf⟩ := y_g hf
  refine y_iald (pc2 := 6) rfl dX12_loadOf_5 g32.1 (y_ix_in g32.2) ?_
  refine y_istore_n (lv' := [(2, .int (y_I h (y_P h p0 26) (Int32.toNatClampNeg p1))), (0, y_p p0), (1, .int p1)]) (pc2 := 7) rfl dX12_loadOf_6 (by decide) rfl ?_
  refine y_iload_n (pc2 := 8) rfl dX12_loadOf_7 rfl ?_
  refine y_iconst (v := 1) (pc2 := 9) rfl dX12_loadOf_8 (by decide) ?_
  refine y_jnE hf (fun j => ∀ (v0_33 : Nat) (v2_33 : Int32) (h1 : y_H), j v0_33 v2_33 h1 = some (rz, hz) → y_V l G z rm_X12_loadOf M_X12_loadOf ad0 h (some (.int rz)) hz 33 [(0, y_p v0_33), (2, .int v2_33)] [] h1 0 0) (fun v0_33 v2_33 h1 hf => ?_) (fun j33 hj33 hf => ?_)
  · refine y_iload_n (pc2 := 34) rfl dX12_loadOf_33 rfl ?_
    refine y_iconst (v := 4) (pc2 := 35) rfl dX12_loadOf_34 (by decide) ?_
    refine y_jnE hf (fun j => ∀ (v0_44 : Nat) (v2_44 : Int32) (h2 : y_H), j v0_44 v2_44 h2 = some (rz, hz) → y_V l G z rm_X12_loadOf M_X12_loadOf ad0 h (some (.int rz)) hz 44 [(0, y_p v0_44), (2, .int v2_44)] [] h2 0 0) (fun v0_44 v2_44 h2 hf => ?_) (fun j44 hj44 hf => ?_)
    · refine y_aload_n (x := v0_44) (pc2 := 45) rfl dX12_loadOf_44 rfl ?_
      refine y_iload_n (pc2 := 46) rfl dX12_loadOf_45 rfl ?_
      refine y_iconst (v := 3) (pc2 := 47) rfl dX12_loadOf_46 (by decide) ?_
      refine y_icmp_ge (tgt := 55) (pc2 := 50) rfl dX12_loadOf_47 (by decide) (fun c17 => ?_) (fun c17 => ?_)
      · replace hf := y_it c17 hf
        refine y_bipush (v := 44) (pc2 := 57) rfl dX12_loadOf_55 (by decide) ?_
        obtain ⟨g9, hf⟩ := y_g hf
        obtain ⟨r_, h3, c4, hf⟩ := y_clE hf
        refine y_callV (As := [.int 44]) (rm := rm_X12_mark) (cells := 0) (slots := 0) (pc2 := 60) rfl dX12_loadOf_57 n_X12_mark l_BoxYardModel_286 i_X12_mark e_X12_mark (ci := 12) rfl rfl (by decide) g9 rfl rfl (by decide) (by decide) (by decide) (k_X12_mark c4) ?_
        refine y_iload_n (pc2 := 61) rfl dX12_loadOf_60 rfl ?_
        refine y_if_ne (tgt := 70) (pc2 := 64) rfl dX12_loadOf_61 (by decide) (fun c8 => ?_) (fun c8 => ?_)
        · replace hf := y_ie c8 hf
          refine y_iload_n (pc2 := 71) rfl dX12_loadOf_70 rfl ?_
          refine y_iconst (v := 1) (pc2 := 72) rfl dX12_loadOf_71 (by decide) ?_
          refine y_icmp_ne (tgt := 81) (pc2 := 75) rfl dX12_loadOf_72 (by decide) (fun c7 => ?_) (fun c7 => ?_)
          · replace hf := y_ie c7 hf
            refine y_iload_n (pc2 := 82) rfl dX12_loadOf_81 rfl ?_
            refine y_iconst (v := 2) (pc2 := 83) rfl dX12_loadOf_82 (by decide) ?_
            refine y_icmp_ne (tgt := 92) (pc2 := 86) rfl dX12_loadOf_83 (by decide) (fun c6 => ?_) (fun c6 => ?_)
            · replace hf := y_ie c6 hf
              refine y_iload_n (pc2 := 93) rfl dX12_loadOf_92 rfl ?_
              refine y_iconst (v := 3) (pc2 := 94) rfl dX12_loadOf_93 (by decide) ?_
              refine y_icmp_ne (tgt := 103) (pc2 := 97) rfl dX12_loadOf_94 (by decide) (fun c5 => ?_) (fun c5 => ?_)
              · replace hf := y_ie c5 hf
                refine y_sipush (v := 250) (pc2 := 106) rfl dX12_loadOf_103 (by decide) ?_
                exact y_iretF hf dX12_loadOf_106 rfl (by decide) (by decide)
              · replace hf := y_it c5 hf
                refine y_sipush (v := 200) (pc2 := 100) rfl dX12_loadOf_97 (by decide) ?_
                refine y_goto (tgt := 106) dX12_loadOf_100 (by decide) ?_
                exact y_iretF hf dX12_loadOf_106 rfl (by decide) (by decide)
            · replace hf := y_it c6 hf
              refine y_sipush (v := 250) (pc2 := 89) rfl dX12_loadOf_86 (by decide) ?_
              refine y_goto (tgt := 106) dX12_loadOf_89 (by decide) ?_
              exact y_iretF hf dX12_loadOf_106 rfl (by decide) (by decide)
          · replace hf := y_it c7 hf
            refine y_sipush (v := 400) (pc2 := 78) rfl dX12_loadOf_75 (by decide) ?_
            refine y_goto (tgt := 106) dX12_loadOf_78 (by decide) ?_
            exact y_iretF hf dX12_loadOf_106 rfl (by decide) (by decide)
        · replace hf := y_it c8 hf
          refine y_sipush (v := 300) (pc2 := 67) rfl dX12_loadOf_64 (by decide) ?_
          refine y_goto (tgt := 106) dX12_loadOf_67 (by decide) ?_
          exact y_iretF hf dX12_loadOf_106 rfl (by decide) (by decide)
      · replace hf := y_ie c17 hf
        refine y_bipush (v := 41) (pc2 := 52) rfl dX12_loadOf_50 (by decide) ?_
        refine y_goto (tgt := 57) dX12_loadOf_52 (by decide) ?_
        obtain ⟨g16, hf⟩ := y_g hf
        obtain ⟨r_, h10, c11, hf⟩ := y_clE hf
        refine y_callV (As := [.int 41]) (rm := rm_X12_mark) (cells := 0) (slots := 0) (pc2 := 60) rfl dX12_loadOf_57 n_X12_mark l_BoxYardModel_286 i_X12_mark e_X12_mark (ci := 12) rfl rfl (by decide) g16 rfl rfl (by decide) (by decide) (by decide) (k_X12_mark c11) ?_
        refine y_iload_n (pc2 := 61) rfl dX12_loadOf_60 rfl ?_
        refine y_if_ne (tgt := 70) (pc2 := 64) rfl dX12_loadOf_61 (by decide) (fun c15 => ?_) (fun c15 => ?_)
        · replace hf := y_ie c15 hf
          refine y_iload_n (pc2 := 71) rfl dX12_loadOf_70 rfl ?_
          refine y_iconst (v := 1) (pc2 := 72) rfl dX12_loadOf_71 (by decide) ?_
          refine y_icmp_ne (tgt := 81) (pc2 := 75) rfl dX12_loadOf_72 (by decide) (fun c14 => ?_) (fun c14 => ?_)
          · replace hf := y_ie c14 hf
            refine y_iload_n (pc2 := 82) rfl dX12_loadOf_81 rfl ?_
            refine y_iconst (v := 2) (pc2 := 83) rfl dX12_loadOf_82 (by decide) ?_
            refine y_icmp_ne (tgt := 92) (pc2 := 86) rfl dX12_loadOf_83 (by decide) (fun c13 => ?_) (fun c13 => ?_)
            · replace hf := y_ie c13 hf
              refine y_iload_n (pc2 := 93) rfl dX12_loadOf_92 rfl ?_
              refine y_iconst (v := 3) (pc2 := 94) rfl dX12_loadOf_93 (by decide) ?_
              refine y_icmp_ne (tgt := 103) (pc2 := 97) rfl dX12_loadOf_94 (by decide) (fun c12 => ?_) (fun c12 => ?_)
              · replace hf := y_ie c12 hf
                refine y_sipush (v := 250) (pc2 := 106) rfl dX12_loadOf_103 (by decide) ?_
                exact y_iretF hf dX12_loadOf_106 rfl (by decide) (by decide)
              · replace hf := y_it c12 hf
                refine y_sipush (v := 200) (pc2 := 100) rfl dX12_loadOf_97 (by decide) ?_
                refine y_goto (tgt := 106) dX12_loadOf_100 (by decide) ?_
                exact y_iretF hf dX12_loadOf_106 rfl (by decide) (by decide)
            · replace hf := y_it c13 hf
              refine y_sipush (v := 250) (pc2 := 89) rfl dX12_loadOf_86 (by decide) ?_
              refine y_goto (tgt := 106) dX12_loadOf_89 (by decide) ?_
              exact y_iretF hf dX12_loadOf_106 rfl (by decide) (by decide)
          · replace hf := y_it c14 hf
            refine y_sipush (v := 400) (pc2 := 78) rfl dX12_loadOf_75 (by decide) ?_
            refine y_goto (tgt := 106) dX12_loadOf_78 (by decide) ?_
            exact y_iretF hf dX12_loadOf_106 rfl (by decide) (by decide)
        · replace hf := y_it c15 hf
          refine y_sipush (v := 300) (pc2 := 67) rfl dX12_loadOf_64 (by decide) ?_
          refine y_goto (tgt := 106) dX12_loadOf_67 (by decide) ?_
          exact y_iretF hf dX12_loadOf_106 rfl (by decide) (by decide)
    · refine y_icmp_ne (tgt := 44) (pc2 := 38) rfl dX12_loadOf_35 (by decide) (fun c21 => ?_) (fun c21 => ?_)
      · replace hf := y_ie c21 hf
        exact y_pk [0, 1] rfl (hj44 _ _ _ hf)
      · replace hf := y_it c21 hf
        refine y_aload_n (x := v0_33) (pc2 := 39) rfl dX12_loadOf_38 rfl ?_
        refine y_bipush (v := 45) (pc2 := 41) rfl dX12_loadOf_39 (by decide) ?_
        obtain ⟨g20, hf⟩ := y_g hf
        obtain ⟨r_, h18, c19, hf⟩ := y_clE hf
        refine y_callV (As := [.int 45]) (rm := rm_X12_mark) (cells := 0) (slots := 0) (pc2 := 44) rfl dX12_loadOf_41 n_X12_mark l_BoxYardModel_286 i_X12_mark e_X12_mark (ci := 12) rfl rfl (by decide) g20 rfl rfl (by decide) (by decide) (by decide) (k_X12_mark c19) ?_
        exact y_pk [0, 1] rfl (hj44 _ _ _ hf)
  · refine y_jnE hf (fun j => ∀ (v0_17 : Nat) (v2_17 : Int32) (h22 : y_H), j v0_17 v2_17 h22 = some (rz, hz) → y_V l G z rm_X12_loadOf M_X12_loadOf ad0 h (some (.int rz)) hz 17 [(0, y_p v0_17), (2, .int v2_17)] [] h22 0 0) (fun v0_17 v2_17 h22 hf => ?_) (fun j17 hj17 hf => ?_)
    · refine y_aload_n (x := v0_17) (pc2 := 18) rfl dX12_loadOf_17 rfl ?_
      refine y_iload_n (pc2 := 19) rfl dX12_loadOf_18 rfl ?_
      refine y_iconst (v := 1) (pc2 := 20) rfl dX12_loadOf_19 (by decide) ?_
      refine y_icmp_ne (tgt := 28) (pc2 := 23) rfl dX12_loadOf_20 (by decide) (fun c29 => ?_) (fun c29 => ?_)
      · replace hf := y_ie c29 hf
        refine y_bipush (v := 43) (pc2 := 30) rfl dX12_loadOf_28 (by decide) ?_
        obtain ⟨g25, hf⟩ := y_g hf
        obtain ⟨r_, h23, c24, hf⟩ := y_clE hf
        refine y_callV (As := [.int 43]) (rm := rm_X12_mark) (cells := 0) (slots := 0) (pc2 := 33) rfl dX12_loadOf_30 n_X12_mark l_BoxYardModel_286 i_X12_mark e_X12_mark (ci := 12) rfl rfl (by decide) g25 rfl rfl (by decide) (by decide) (by decide) (k_X12_mark c24) ?_
        exact y_pk [0, 1] rfl (hj33 _ _ _ hf)
      · replace hf := y_it c29 hf
        refine y_bipush (v := 42) (pc2 := 25) rfl dX12_loadOf_23 (by decide) ?_
        refine y_goto (tgt := 30) dX12_loadOf_25 (by decide) ?_
        obtain ⟨g28, hf⟩ := y_g hf
        obtain ⟨r_, h26, c27, hf⟩ := y_clE hf
        refine y_callV (As := [.int 42]) (rm := rm_X12_mark) (cells := 0) (slots := 0) (pc2 := 33) rfl dX12_loadOf_30 n_X12_mark l_BoxYardModel_286 i_X12_mark e_X12_mark (ci := 12) rfl rfl (by decide) g28 rfl rfl (by decide) (by decide) (by decide) (k_X12_mark c27) ?_
        exact y_pk [0, 1] rfl (hj33 _ _ _ hf)
    · refine y_icmp_eq (tgt := 17) (pc2 := 12) rfl dX12_loadOf_9 (by decide) (fun c31 => ?_) (fun c31 => ?_)
      · replace hf := y_it c31 hf
        exact y_pk [1, 0] rfl (hj17 _ _ _ hf)
      · replace hf := y_ie c31 hf
        refine y_iload_n (pc2 := 13) rfl dX12_loadOf_12 rfl ?_
        refine y_iconst (v := 2) (pc2 := 14) rfl dX12_loadOf_13 (by decide) ?_
        refine y_icmp_ne (tgt := 33) (pc2 := 17) rfl dX12_loadOf_14 (by decide) (fun c30 => ?_) (fun c30 => ?_)
        · replace hf := y_ie c30 hf
          exact y_pk [1, 0] rfl (hj33 _ _ _ hf)
        · replace hf := y_it c30 hf
          exact y_pk [1, 0] rfl (hj17 _ _ _ hf)
theorem dX12_stop_0 : decode cX12_stop 0 = .ok (.aload_n 0, 1) := by decide +kernel
theorem dX12_stop_1 : decode cX12_stop 1 = .ok (.getfield 80, 3) := by decide +kernel
theorem dX12_stop_4 : decode cX12_stop 4 = .ok (.iload_n 1, 1) := by decide +kernel
theorem dX12_stop_5 : decode cX12_stop 5 = .ok (.iaload, 1) := by decide +kernel
theorem dX12_stop_6 : decode cX12_stop 6 = .ok (.istore_n 2, 1) := by decide +kernel
theorem dX12_stop_7 : decode cX12_stop 7 = .ok (.iload_n 2, 1) := by decide +kernel
theorem dX12_stop_8 : decode cX12_stop 8 = .ok (.iconst 3, 1) := by decide +kernel
theorem dX12_stop_9 : decode cX12_stop 9 = .ok (.if_icmp .ge 33, 3) := by decide +kernel
theorem dX12_stop_12 : decode cX12_stop 12 = .ok (.iload_n 2, 1) := by decide +kernel
theorem dX12_stop_13 : decode cX12_stop 13 = .ok (.iconst 1, 1) := by decide +kernel
theorem dX12_stop_14 : decode cX12_stop 14 = .ok (.if_icmp .ne 9, 3) := by decide +kernel
theorem dX12_stop_17 : decode cX12_stop 17 = .ok (.aload_n 0, 1) := by decide +kernel
theorem dX12_stop_18 : decode cX12_stop 18 = .ok (.bipush 52, 2) := by decide +kernel
theorem dX12_stop_20 : decode cX12_stop 20 = .ok (.invokevirtual 286, 3) := by decide +kernel
theorem dX12_stop_23 : decode cX12_stop 23 = .ok (.aload_n 0, 1) := by decide +kernel
theorem dX12_stop_24 : decode cX12_stop 24 = .ok (.bipush 51, 2) := by decide +kernel
theorem dX12_stop_26 : decode cX12_stop 26 = .ok (.invokevirtual 286, 3) := by decide +kernel
theorem dX12_stop_29 : decode cX12_stop 29 = .ok (.iload_n 2, 1) := by decide +kernel
theorem dX12_stop_30 : decode cX12_stop 30 = .ok (.iconst 1, 1) := by decide +kernel
theorem dX12_stop_31 : decode cX12_stop 31 = .ok (.if_icmp .ne 8, 3) := by decide +kernel
theorem dX12_stop_34 : decode cX12_stop 34 = .ok (.bipush 20, 2) := by decide +kernel
theorem dX12_stop_36 : decode cX12_stop 36 = .ok (.goto 5, 3) := by decide +kernel
theorem dX12_stop_39 : decode cX12_stop 39 = .ok (.bipush 25, 2) := by decide +kernel
theorem dX12_stop_41 : decode cX12_stop 41 = .ok (.ireturn, 1) := by decide +kernel
theorem dX12_stop_42 : decode cX12_stop 42 = .ok (.iload_n 2, 1) := by decide +kernel
theorem dX12_stop_43 : decode cX12_stop 43 = .ok (.iconst 4, 1) := by decide +kernel
theorem dX12_stop_44 : decode cX12_stop 44 = .ok (.if_icmp .ne 9, 3) := by decide +kernel
theorem dX12_stop_47 : decode cX12_stop 47 = .ok (.aload_n 0, 1) := by decide +kernel
theorem dX12_stop_48 : decode cX12_stop 48 = .ok (.bipush 55, 2) := by decide +kernel
theorem dX12_stop_50 : decode cX12_stop 50 = .ok (.invokevirtual 286, 3) := by decide +kernel
theorem dX12_stop_53 : decode cX12_stop 53 = .ok (.aload_n 0, 1) := by decide +kernel
theorem dX12_stop_54 : decode cX12_stop 54 = .ok (.bipush 50, 2) := by decide +kernel
theorem dX12_stop_56 : decode cX12_stop 56 = .ok (.invokevirtual 286, 3) := by decide +kernel
theorem dX12_stop_59 : decode cX12_stop 59 = .ok (.aload_n 0, 1) := by decide +kernel
theorem dX12_stop_60 : decode cX12_stop 60 = .ok (.bipush 57, 2) := by decide +kernel
theorem dX12_stop_62 : decode cX12_stop 62 = .ok (.invokevirtual 286, 3) := by decide +kernel
theorem dX12_stop_65 : decode cX12_stop 65 = .ok (.iload_n 2, 1) := by decide +kernel
theorem dX12_stop_66 : decode cX12_stop 66 = .ok (.iconst 4, 1) := by decide +kernel
theorem dX12_stop_67 : decode cX12_stop 67 = .ok (.if_icmp .ne 8, 3) := by decide +kernel
theorem dX12_stop_70 : decode cX12_stop 70 = .ok (.bipush 22, 2) := by decide +kernel
theorem dX12_stop_72 : decode cX12_stop 72 = .ok (.goto 5, 3) := by decide +kernel
theorem dX12_stop_75 : decode cX12_stop 75 = .ok (.bipush 20, 2) := by decide +kernel
theorem dX12_stop_77 : decode cX12_stop 77 = .ok (.ireturn, 1) := by decide +kernel
def M_X12_stop : y_M := (yX12_stop, cX12_stop, 3, (Option.some Jvm.ClassFile.FieldType.int))
theorem n_X12_stop : y_N0 M_X12_stop 1 := ⟨(c_9 46 (by decide +kernel) rfl), (c_1 9 (by decide +kernel) rfl), ⟨by decide +kernel, by decide +kernel⟩, by decide +kernel⟩
set_option maxRecDepth 100000 in
def f_X12_stop (p0 : Nat) (p1 : Int32) (h : y_H) : Option (Int32 × y_H) :=
  if y_K h p0 = 13 then
  if y_K h (y_P h p0 26) = 100 ∧ y_ix p1 (y_N h (y_P h p0 26)) = true then
  if 3 ≤ (y_I h (y_P h p0 26) (Int32.toNatClampNeg p1)) then
    y_jn (fun (v0_53 : Nat) (v2_53 : Int32) (h1 : y_H) => (
        if y_K h1 v0_53 = 13 then
        y_cl (f_X12_mark v0_53 50 h1) (fun _ h2 =>
        if y_K h2 v0_53 = 13 then
        y_cl (f_X12_mark v0_53 57 h2) (fun _ h4 =>
        if v2_53 = 4 then
          some (22, h4)
        else
          some (20, h4))
        else none)
        else none : Option (Int32 × y_H))) (fun j53 =>
    if (y_I h (y_P h p0 26) (Int32.toNatClampNeg p1)) = 4 then
      if y_K h p0 = 13 then
      y_cl (f_X12_mark p0 55 h) (fun _ h9 =>
      j53 p0 (y_I h (y_P h p0 26) (Int32.toNatClampNeg p1)) h9)
      else none
    else
      j53 p0 (y_I h (y_P h p0 26) (Int32.toNatClampNeg p1)) h)
  else
    y_jn (fun (v0_23 : Nat) (v2_23 : Int32) (h13 : y_H) => (
        if y_K h13 v0_23 = 13 then
        y_cl (f_X12_mark v0_23 51 h13) (fun _ h14 =>
        if v2_23 = 1 then
          some (20, h14)
        else
          some (25, h14))
        else none : Option (Int32 × y_H))) (fun j23 =>
    if (y_I h (y_P h p0 26) (Int32.toNatClampNeg p1)) = 1 then
      if y_K h p0 = 13 then
      y_cl (f_X12_mark p0 52 h) (fun _ h18 =>
      j23 p0 (y_I h (y_P h p0 26) (Int32.toNatClampNeg p1)) h18)
      else none
    else
      j23 p0 (y_I h (y_P h p0 26) (Int32.toNatClampNeg p1)) h)
  else none
  else none
abbrev rm_X12_stop : Room := { frames := 1, cells := 0, slots := 0, locals := 21 }
set_option maxRecDepth 100000 in
set_option maxHeartbeats 4000000 in
theorem k_X12_stop {l : Launch} {G : y_G} {p0 : Nat} {p1 : Int32} {h hz : y_H} {rz : Int32} (hf : f_X12_stop p0 p1 h = some (rz, hz)) : y_S l G M_X12_stop rm_X12_stop [y_p p0, .int p1] h (some (.int rz)) hz := by
  refine y_start (lv := [(0, y_p p0), (1, .int p1)]) (by decide) (by simp [lg_sl, y_p_cat, y_ci, y_cj, M_X12_stop]) (by simp [lv_args, y_p_cat, y_ci, y_cj]) (fun z ad0 => ?_)
  unfold f_X12_stop at hf
  refine y_aload_n (x := p0) (pc2 := 1) rfl dX12_stop_0 rfl ?_
  obtain ⟨g24, hf⟩ := y_g hf
  refine y_getP (pc2 := 4) rfl dX12_stop_1 F_BoxYardModel_80 (by decide) rfl g24 ?_
  refine y_iload_n (pc2 := 5) rfl dX12_stop_4 rfl ?_
  obtain ⟨g23, hf⟩ := y_g hf
  refine y_iald (pc2 := 6) rfl dX12_stop_5 g23.1 (y_ix_in g23.2) ?_
  refine y_istore_n (lv' := [(2, .int (y_I h (y_P h p0 26) (Int32.toNatClampNeg p1))), (0, y_p p0), (1, .int p1)]) (pc2 := 7) rfl dX12_stop_6 (by decide) rfl ?_
  refine y_iload_n (pc2 := 8) rfl dX12_stop_7 rfl ?_
  refine y_iconst (v := 3) (pc2 := 9) rfl dX12_stop_8 (by decide) ?_
  refine y_icmp_ge (tgt := 42) (pc2 := 12) rfl dX12_stop_9 (by decide) (fun c22 => ?_) (fun c22 => ?_)
  · replace hf := y_it c22 hf
    refine y_iload_n (pc2 := 43) rfl dX12_stop_42 rfl ?_
    refine y_iconst (v := 4) (pc2 := 44) rfl dX12_stop_43 (by decide) ?_
    refine y_jnE hf (fun j => ∀ (v0_53 : Nat) (v2_53 : Int32) (h1 : y_H), j v0_53 v2_53 h1 = some (rz, hz) → y_V l G z rm_X12_stop M_X12_stop ad0 h (some (.int rz)) hz 53 [(0, y_p v0_53), (2, .int v2_53)] [] h1 0 0) (fun v0_53 v2_53 h1 hf => ?_) (fun j53 hj53 hf => ?_)
    · refine y_aload_n (x := v0_53) (pc2 := 54) rfl dX12_stop_53 rfl ?_
      refine y_bipush (v := 50) (pc2 := 56) rfl dX12_stop_54 (by decide) ?_
      obtain ⟨g8, hf⟩ := y_g hf
      obtain ⟨r_, h2, c3, hf⟩ := y_clE hf
      refine y_callV (As := [.int 50]) (rm := rm_X12_mark) (cells := 0) (slots := 0) (pc2 := 59) rfl dX12_stop_56 n_X12_mark l_BoxYardModel_286 i_X12_mark e_X12_mark (ci := 12) rfl rfl (by decide) g8 rfl rfl (by decide) (by decide) (by decide) (k_X12_mark c3) ?_
      refine y_aload_n (x := v0_53) (pc2 := 60) rfl dX12_stop_59 rfl ?_
      refine y_bipush (v := 57) (pc2 := 62) rfl dX12_stop_60 (by decide) ?_
      obtain ⟨g7, hf⟩ := y_g hf
      obtain ⟨r_, h4, c5, hf⟩ := y_clE hf
      refine y_callV (As := [.int 57]) (rm := rm_X12_mark) (cells := 0) (slots := 0) (pc2 := 65) rfl dX12_stop_62 n_X12_mark l_BoxYardModel_286 i_X12_mark e_X12_mark (ci := 12) rfl rfl (by decide) g7 rfl rfl (by decide) (by decide) (by decide) (k_X12_mark c5) ?_
      refine y_iload_n (pc2 := 66) rfl dX12_stop_65 rfl ?_
      refine y_iconst (v := 4) (pc2 := 67) rfl dX12_stop_66 (by decide) ?_
      refine y_icmp_ne (tgt := 75) (pc2 := 70) rfl dX12_stop_67 (by decide) (fun c6 => ?_) (fun c6 => ?_)
      · replace hf := y_ie c6 hf
        refine y_bipush (v := 20) (pc2 := 77) rfl dX12_stop_75 (by decide) ?_
        exact y_iretF hf dX12_stop_77 rfl (by decide) (by decide)
      · replace hf := y_it c6 hf
        refine y_bipush (v := 22) (pc2 := 72) rfl dX12_stop_70 (by decide) ?_
        refine y_goto (tgt := 77) dX12_stop_72 (by decide) ?_
        exact y_iretF hf dX12_stop_77 rfl (by decide) (by decide)
    · refine y_icmp_ne (tgt := 53) (pc2 := 47) rfl dX12_stop_44 (by decide) (fun c12 => ?_) (fun c12 => ?_)
      · replace hf := y_ie c12 hf
        exact y_pk [1, 0] rfl (hj53 _ _ _ hf)
      · replace hf := y_it c12 hf
        refine y_aload_n (x := p0) (pc2 := 48) rfl dX12_stop_47 rfl ?_
        refine y_bipush (v := 55) (pc2 := 50) rfl dX12_stop_48 (by decide) ?_
        obtain ⟨g11, hf⟩ := y_g hf
        obtain ⟨r_, h9, c10, hf⟩ := y_clE hf
        refine y_callV (As := [.int 55]) (rm := rm_X12_mark) (cells := 0) (slots := 0) (pc2 := 53) rfl dX12_stop_50 n_X12_mark l_BoxYardModel_286 i_X12_mark e_X12_mark (ci := 12) rfl rfl (by decide) g11 rfl rfl (by decide) (by decide) (by decide) (k_X12_mark c10) ?_
        exact y_pk [1, 0] rfl (hj53 _ _ _ hf)
  · replace hf := y_ie c22 hf
    refine y_iload_n (pc2 := 13) rfl dX12_stop_12 rfl ?_
    refine y_iconst (v := 1) (pc2 := 14) rfl dX12_stop_13 (by decide) ?_
    refine y_jnE hf (fun j => ∀ (v0_23 : Nat) (v2_23 : Int32) (h13 : y_H), j v0_23 v2_23 h13 = some (rz, hz) → y_V l G z rm_X12_stop M_X12_stop ad0 h (some (.int rz)) hz 23 [(0, y_p v0_23), (2, .int v2_23)] [] h13 0 0) (fun v0_23 v2_23 h13 hf => ?_) (fun j23 hj23 hf => ?_)
    · refine y_aload_n (x := v0_23) (pc2 := 24) rfl dX12_stop_23 rfl ?_
      refine y_bipush (v := 51) (pc2 := 26) rfl dX12_stop_24 (by decide) ?_
      obtain ⟨g17, hf⟩ := y_g hf
      obtain ⟨r_, h14, c15, hf⟩ := y_clE hf
      refine y_callV (As := [.int 51]) (rm := rm_X12_mark) (cells := 0) (slots := 0) (pc2 := 29) rfl dX12_stop_26 n_X12_mark l_BoxYardModel_286 i_X12_mark e_X12_mark (ci := 12) rfl rfl (by decide) g17 rfl rfl (by decide) (by decide) (by decide) (k_X12_mark c15) ?_
      refine y_iload_n (pc2 := 30) rfl dX12_stop_29 rfl ?_
      refine y_iconst (v := 1) (pc2 := 31) rfl dX12_stop_30 (by decide) ?_
      refine y_icmp_ne (tgt := 39) (pc2 := 34) rfl dX12_stop_31 (by decide) (fun c16 => ?_) (fun c16 => ?_)
      · replace hf := y_ie c16 hf
        refine y_bipush (v := 25) (pc2 := 41) rfl dX12_stop_39 (by decide) ?_
        exact y_iretF hf dX12_stop_41 rfl (by decide) (by decide)
      · replace hf := y_it c16 hf
        refine y_bipush (v := 20) (pc2 := 36) rfl dX12_stop_34 (by decide) ?_
        refine y_goto (tgt := 41) dX12_stop_36 (by decide) ?_
        exact y_iretF hf dX12_stop_41 rfl (by decide) (by decide)
    · refine y_icmp_ne (tgt := 23) (pc2 := 17) rfl dX12_stop_14 (by decide) (fun c21 => ?_) (fun c21 => ?_)
      · replace hf := y_ie c21 hf
        exact y_pk [1, 0] rfl (hj23 _ _ _ hf)
      · replace hf := y_it c21 hf
        refine y_aload_n (x := p0) (pc2 := 18) rfl dX12_stop_17 rfl ?_
        refine y_bipush (v := 52) (pc2 := 20) rfl dX12_stop_18 (by decide) ?_
        obtain ⟨g20, hf⟩ := y_g hf
        obtain ⟨r_, h18, c19, hf⟩ := y_clE hf
        refine y_callV (As := [.int 52]) (rm := rm_X12_mark) (cells := 0) (slots := 0) (pc2 := 23) rfl dX12_stop_20 n_X12_mark l_BoxYardModel_286 i_X12_mark e_X12_mark (ci := 12) rfl rfl (by decide) g20 rfl rfl (by decide) (by decide) (by decide) (k_X12_mark c19) ?_
        exact y_pk [1, 0] rfl (hj23 _ _ _ hf)
theorem dX12_reaches_0 : decode cX12_reaches 0 = .ok (.aload_n 0, 1) := by decide +kernel
theorem dX12_reaches_1 : decode cX12_reaches 1 = .ok (.getfield 80, 3) := by decide +kernel
theorem dX12_reaches_4 : decode cX12_reaches 4 = .ok (.iload_n 1, 1) := by decide +kernel
theorem dX12_reaches_5 : decode cX12_reaches 5 = .ok (.iaload, 1) := by decide +kernel
theorem dX12_reaches_6 : decode cX12_reaches 6 = .ok (.istore 4, 2) := by decide +kernel
theorem dX12_reaches_8 : decode cX12_reaches 8 = .ok (.iload 4, 2) := by decide +kernel
theorem dX12_reaches_10 : decode cX12_reaches 10 = .ok (.iconst 3, 1) := by decide +kernel
theorem dX12_reaches_11 : decode cX12_reaches 11 = .ok (.if_icmp .eq 9, 3) := by decide +kernel
theorem dX12_reaches_14 : decode cX12_reaches 14 = .ok (.iload 4, 2) := by decide +kernel
theorem dX12_reaches_16 : decode cX12_reaches 16 = .ok (.iconst 4, 1) := by decide +kernel
theorem dX12_reaches_17 : decode cX12_reaches 17 = .ok (.if_icmp .ne 38, 3) := by decide +kernel
theorem dX12_reaches_20 : decode cX12_reaches 20 = .ok (.iload 4, 2) := by decide +kernel
theorem dX12_reaches_22 : decode cX12_reaches 22 = .ok (.iconst 4, 1) := by decide +kernel
theorem dX12_reaches_23 : decode cX12_reaches 23 = .ok (.if_icmp .ne 15, 3) := by decide +kernel
theorem dX12_reaches_26 : decode cX12_reaches 26 = .ok (.aload_n 0, 1) := by decide +kernel
theorem dX12_reaches_27 : decode cX12_reaches 27 = .ok (.bipush 65, 2) := by decide +kernel
theorem dX12_reaches_29 : decode cX12_reaches 29 = .ok (.invokevirtual 286, 3) := by decide +kernel
theorem dX12_reaches_32 : decode cX12_reaches 32 = .ok (.iload_n 2, 1) := by decide +kernel
theorem dX12_reaches_33 : decode cX12_reaches 33 = .ok (.ifCond .ne 5, 3) := by decide +kernel
theorem dX12_reaches_36 : decode cX12_reaches 36 = .ok (.iconst 1, 1) := by decide +kernel
theorem dX12_reaches_37 : decode cX12_reaches 37 = .ok (.ireturn, 1) := by decide +kernel
theorem dX12_reaches_38 : decode cX12_reaches 38 = .ok (.aload_n 0, 1) := by decide +kernel
theorem dX12_reaches_39 : decode cX12_reaches 39 = .ok (.bipush 64, 2) := by decide +kernel
theorem dX12_reaches_41 : decode cX12_reaches 41 = .ok (.invokevirtual 286, 3) := by decide +kernel
theorem dX12_reaches_44 : decode cX12_reaches 44 = .ok (.iload_n 3, 1) := by decide +kernel
theorem dX12_reaches_45 : decode cX12_reaches 45 = .ok (.iconst 2, 1) := by decide +kernel
theorem dX12_reaches_46 : decode cX12_reaches 46 = .ok (.if_icmp .gt 7, 3) := by decide +kernel
theorem dX12_reaches_49 : decode cX12_reaches 49 = .ok (.iconst 1, 1) := by decide +kernel
theorem dX12_reaches_50 : decode cX12_reaches 50 = .ok (.goto 4, 3) := by decide +kernel
theorem dX12_reaches_53 : decode cX12_reaches 53 = .ok (.iconst 0, 1) := by decide +kernel
theorem dX12_reaches_54 : decode cX12_reaches 54 = .ok (.ireturn, 1) := by decide +kernel
theorem dX12_reaches_55 : decode cX12_reaches 55 = .ok (.iload 4, 2) := by decide +kernel
theorem dX12_reaches_57 : decode cX12_reaches 57 = .ok (.iconst 1, 1) := by decide +kernel
theorem dX12_reaches_58 : decode cX12_reaches 58 = .ok (.if_icmp .eq 9, 3) := by decide +kernel
theorem dX12_reaches_61 : decode cX12_reaches 61 = .ok (.iload 4, 2) := by decide +kernel
theorem dX12_reaches_63 : decode cX12_reaches 63 = .ok (.iconst 2, 1) := by decide +kernel
theorem dX12_reaches_64 : decode cX12_reaches 64 = .ok (.if_icmp .ne 41, 3) := by decide +kernel
theorem dX12_reaches_67 : decode cX12_reaches 67 = .ok (.aload_n 0, 1) := by decide +kernel
theorem dX12_reaches_68 : decode cX12_reaches 68 = .ok (.iload 4, 2) := by decide +kernel
theorem dX12_reaches_70 : decode cX12_reaches 70 = .ok (.iconst 1, 1) := by decide +kernel
theorem dX12_reaches_71 : decode cX12_reaches 71 = .ok (.if_icmp .ne 8, 3) := by decide +kernel
theorem dX12_reaches_74 : decode cX12_reaches 74 = .ok (.bipush 62, 2) := by decide +kernel
theorem dX12_reaches_76 : decode cX12_reaches 76 = .ok (.goto 5, 3) := by decide +kernel
theorem dX12_reaches_79 : decode cX12_reaches 79 = .ok (.bipush 63, 2) := by decide +kernel
theorem dX12_reaches_81 : decode cX12_reaches 81 = .ok (.invokevirtual 286, 3) := by decide +kernel
theorem dX12_reaches_84 : decode cX12_reaches 84 = .ok (.iload 4, 2) := by decide +kernel
theorem dX12_reaches_86 : decode cX12_reaches 86 = .ok (.iconst 1, 1) := by decide +kernel
theorem dX12_reaches_87 : decode cX12_reaches 87 = .ok (.if_icmp .ne 11, 3) := by decide +kernel
theorem dX12_reaches_90 : decode cX12_reaches 90 = .ok (.iload_n 2, 1) := by decide +kernel
theorem dX12_reaches_91 : decode cX12_reaches 91 = .ok (.iconst 1, 1) := by decide +kernel
theorem dX12_reaches_92 : decode cX12_reaches 92 = .ok (.if_icmp .le 13, 3) := by decide +kernel
theorem dX12_reaches_95 : decode cX12_reaches 95 = .ok (.goto 8, 3) := by decide +kernel
theorem dX12_reaches_98 : decode cX12_reaches 98 = .ok (.iload_n 3, 1) := by decide +kernel
theorem dX12_reaches_99 : decode cX12_reaches 99 = .ok (.iconst 3, 1) := by decide +kernel
theorem dX12_reaches_100 : decode cX12_reaches 100 = .ok (.if_icmp .le 5, 3) := by decide +kernel
theorem dX12_reaches_103 : decode cX12_reaches 103 = .ok (.iconst 0, 1) := by decide +kernel
theorem dX12_reaches_104 : decode cX12_reaches 104 = .ok (.ireturn, 1) := by decide +kernel
theorem dX12_reaches_105 : decode cX12_reaches 105 = .ok (.aload_n 0, 1) := by decide +kernel
theorem dX12_reaches_106 : decode cX12_reaches 106 = .ok (.bipush 61, 2) := by decide +kernel
theorem dX12_reaches_108 : decode cX12_reaches 108 = .ok (.invokevirtual 286, 3) := by decide +kernel
theorem dX12_reaches_111 : decode cX12_reaches 111 = .ok (.iconst 1, 1) := by decide +kernel
theorem dX12_reaches_112 : decode cX12_reaches 112 = .ok (.ireturn, 1) := by decide +kernel
def M_X12_reaches : y_M := (yX12_reaches, cX12_reaches, 5, (Option.some Jvm.ClassFile.FieldType.boolean))
theorem n_X12_reaches : y_N0 M_X12_reaches 3 := ⟨(c_9 98 (by decide +kernel) rfl), (c_1 9 (by decide +kernel) rfl), ⟨by decide +kernel, by decide +kernel⟩, by decide +kernel⟩
set_option maxRecDepth 100000 in
def f_X12_reaches (p0 : Nat) (p1 : Int32) (p2 : Int32) (p3 : Int32) (h : y_H) : Option (Bool × y_H) :=
  if y_K h p0 = 13 then
  if y_K h (y_P h p0 26) = 100 ∧ y_ix p1 (y_N h (y_P h p0 26)) = true then
  y_jn (fun (v0_20 : Nat) (v2_20 : Int32) (v3_20 : Int32) (v4_20 : Int32) (h1 : y_H) => (
      y_jn (fun (v0_38 : Nat) (v3_38 : Int32) (h2 : y_H) => (
          if y_K h2 v0_38 = 13 then
          y_cl (f_X12_mark v0_38 64 h2) (fun _ h3 =>
          if 2 < v3_38 then
            some (false, h3)
          else
            some (true, h3))
          else none : Option (Bool × y_H))) (fun j38 =>
      if v4_20 = 4 then
        if y_K h1 v0_20 = 13 then
        y_cl (f_X12_mark v0_20 65 h1) (fun _ h7 =>
        if v2_20 = 0 then
          some (true, h7)
        else
          j38 v0_20 v3_20 h7)
        else none
      else
        j38 v0_20 v3_20 h1) : Option (Bool × y_H))) (fun j20 =>
  if (y_I h (y_P h p0 26) (Int32.toNatClampNeg p1)) = 3 then
    j20 p0 p2 p3 (y_I h (y_P h p0 26) (Int32.toNatClampNeg p1)) h
  else
    if (y_I h (y_P h p0 26) (Int32.toNatClampNeg p1)) = 4 then
      j20 p0 p2 p3 (y_I h (y_P h p0 26) (Int32.toNatClampNeg p1)) h
    else
      y_jn (fun (v0_105 : Nat) (h12 : y_H) => (
          if y_K h12 v0_105 = 13 then
          y_cl (f_X12_mark v0_105 61 h12) (fun _ h13 =>
          some (true, h13))
          else none : Option (Bool × y_H))) (fun j105 =>
      y_jn (fun (v0_67 : Nat) (v2_67 : Int32) (v3_67 : Int32) (v4_67 : Int32) (h16 : y_H) => (
          if v4_67 = 1 then
            if y_K h16 v0_67 = 13 then
            y_cl (f_X12_mark v0_67 62 h16) (fun _ h24 =>
            y_jn (fun (h26 : y_H) => (
                some (false, h26) : Option (Bool × y_H))) (fun j103 =>
            if v4_67 = 1 then
              if v2_67 ≤ 1 then
                j105 v0_67 h24
              else
                j103 h24
            else
              if v3_67 ≤ 3 then
                j105 v0_67 h24
              else
                j103 h24))
            else none
          else
            if y_K h16 v0_67 = 13 then
            y_cl (f_X12_mark v0_67 63 h16) (fun _ h17 =>
            y_jn (fun (h19 : y_H) => (
                some (false, h19) : Option (Bool × y_H))) (fun j103 =>
            if v4_67 = 1 then
              if v2_67 ≤ 1 then
                j105 v0_67 h17
              else
                j103 h17
            else
              if v3_67 ≤ 3 then
                j105 v0_67 h17
              else
                j103 h17))
            else none : Option (Bool × y_H))) (fun j67 =>
      if (y_I h (y_P h p0 26) (Int32.toNatClampNeg p1)) = 1 then
        j67 p0 p2 p3 (y_I h (y_P h p0 26) (Int32.toNatClampNeg p1)) h
      else
        if (y_I h (y_P h p0 26) (Int32.toNatClampNeg p1)) = 2 then
          j67 p0 p2 p3 (y_I h (y_P h p0 26) (Int32.toNatClampNeg p1)) h
        else
          j105 p0 h)))
  else none
  else none
abbrev rm_X12_reaches : Room := { frames := 1, cells := 0, slots := 0, locals := 21 }
set_option maxRecDepth 100000 in
set_option maxHeartbeats 4000000 in
theorem k_X12_reaches {l : Launch} {G : y_G} {p0 : Nat} {p1 : Int32} {p2 : Int32} {p3 : Int32} {h hz : y_H} {rz : Bool} (hf : f_X12_reaches p0 p1 p2 p3 h = some (rz, hz)) : y_S l G M_X12_reaches rm_X12_reaches [y_p p0, .int p1, .int p2, .int p3] h (some (.int (y_z rz))) hz := by
  refine y_start (lv := [(0, y_p p0), (1, .int p1), (2, .int p2), (3, .int p3)]) (by decide) (by simp [lg_sl, y_p_cat, y_ci, y_cj, M_X12_reaches]) (by simp [lv_args, y_p_cat, y_ci, y_cj]) (fun z ad0 => ?_)
  unfold f_X12_reaches at hf
  refine y_aload_n (x := p0) (pc2 := 1) rfl dX12_reaches_0 rfl ?_
  obtain ⟨g37, hf⟩ := y_g hf
  refine y_getP (pc2 := 4) rfl dX12_reaches_1 F_BoxYardModel_80 (by decide) rfl g37 ?_
  refine y_iload_n (pc2 := 5) rfl dX12_reaches_4 rfl ?_
  obtain ⟨g36, hf⟩ := y_g hf
  refine y_iald (pc2 := 6) rfl dX12_reaches_5 g36.1 (y_ix_in g36.2) ?_
  refine y_istore (lv' := [(4, .int (y_I h (y_P h p0 26) (Int32.toNatClampNeg p1))), (0, y_p p0), (1, .int p1), (2, .int p2), (3, .int p3)]) (pc2 := 8) rfl dX12_reaches_6 (by decide) rfl ?_
  refine y_iload (pc2 := 10) rfl dX12_reaches_8 rfl ?_
  refine y_iconst (v := 3) (pc2 := 11) rfl dX12_reaches_10 (by decide) ?_
  refine y_jnE hf (fun j => ∀ (v0_20 : Nat) (v2_20 : Int32) (v3_20 : Int32) (v4_20 : Int32) (h1 : y_H), j v0_20 v2_20 v3_20 v4_20 h1 = some (rz, hz) → y_V l G z rm_X12_reaches M_X12_reaches ad0 h (some (.int (y_z rz))) hz 20 [(0, y_p v0_20), (2, .int v2_20), (3, .int v3_20), (4, .int v4_20)] [] h1 0 0) (fun v0_20 v2_20 v3_20 v4_20 h1 hf => ?_) (fun j20 hj20 hf => ?_)
  · refine y_iload (pc2 := 22) rfl dX12_reaches_20 rfl ?_
    refine y_iconst (v := 4) (pc2 := 23) rfl dX12_reaches_22 (by decide) ?_
    refine y_jnE hf (fun j => ∀ (v0_38 : Nat) (v3_38 : Int32) (h2 : y_H), j v0_38 v3_38 h2 = some (rz, hz) → y_V l G z rm_X12_reaches M_X12_reaches ad0 h (some (.int (y_z rz))) hz 38 [(0, y_p v0_38), (3, .int v3_38)] [] h2 0 0) (fun v0_38 v3_38 h2 hf => ?_) (fun j38 hj38 hf => ?_)
    · refine y_aload_n (x := v0_38) (pc2 := 39) rfl dX12_reaches_38 rfl ?_
      refine y_bipush (v := 64) (pc2 := 41) rfl dX12_reaches_39 (by decide) ?_
      obtain ⟨g6, hf⟩ := y_g hf
      obtain ⟨r_, h3, c4, hf⟩ := y_clE hf
      refine y_callV (As := [.int 64]) (rm := rm_X12_mark) (cells := 0) (slots := 0) (pc2 := 44) rfl dX12_reaches_41 n_X12_mark l_BoxYardModel_286 i_X12_mark e_X12_mark (ci := 12) rfl rfl (by decide) g6 rfl rfl (by decide) (by decide) (by decide) (k_X12_mark c4) ?_
      refine y_iload_n (pc2 := 45) rfl dX12_reaches_44 rfl ?_
      refine y_iconst (v := 2) (pc2 := 46) rfl dX12_reaches_45 (by decide) ?_
      refine y_icmp_gt (tgt := 53) (pc2 := 49) rfl dX12_reaches_46 (by decide) (fun c5 => ?_) (fun c5 => ?_)
      · replace hf := y_it c5 hf
        refine y_iconst (v := 0) (pc2 := 54) rfl dX12_reaches_53 (by decide) ?_
        exact y_zretF (x := false) hf dX12_reaches_54 rfl (by decide) (by decide)
      · replace hf := y_ie c5 hf
        refine y_iconst (v := 1) (pc2 := 50) rfl dX12_reaches_49 (by decide) ?_
        refine y_goto (tgt := 54) dX12_reaches_50 (by decide) ?_
        exact y_zretF (x := true) hf dX12_reaches_54 rfl (by decide) (by decide)
    · refine y_icmp_ne (tgt := 38) (pc2 := 26) rfl dX12_reaches_23 (by decide) (fun c11 => ?_) (fun c11 => ?_)
      · replace hf := y_ie c11 hf
        exact y_pk [0, 2] rfl (hj38 _ _ _ hf)
      · replace hf := y_it c11 hf
        refine y_aload_n (x := v0_20) (pc2 := 27) rfl dX12_reaches_26 rfl ?_
        refine y_bipush (v := 65) (pc2 := 29) rfl dX12_reaches_27 (by decide) ?_
        obtain ⟨g10, hf⟩ := y_g hf
        obtain ⟨r_, h7, c8, hf⟩ := y_clE hf
        refine y_callV (As := [.int 65]) (rm := rm_X12_mark) (cells := 0) (slots := 0) (pc2 := 32) rfl dX12_reaches_29 n_X12_mark l_BoxYardModel_286 i_X12_mark e_X12_mark (ci := 12) rfl rfl (by decide) g10 rfl rfl (by decide) (by decide) (by decide) (k_X12_mark c8) ?_
        refine y_iload_n (pc2 := 33) rfl dX12_reaches_32 rfl ?_
        refine y_if_ne (tgt := 38) (pc2 := 36) rfl dX12_reaches_33 (by decide) (fun c9 => ?_) (fun c9 => ?_)
        · replace hf := y_ie c9 hf
          exact y_pk [0, 2] rfl (hj38 _ _ _ hf)
        · replace hf := y_it c9 hf
          refine y_iconst (v := 1) (pc2 := 37) rfl dX12_reaches_36 (by decide) ?_
          exact y_zretF (x := true) hf dX12_reaches_37 rfl (by decide) (by decide)
  · refine y_icmp_eq (tgt := 20) (pc2 := 14) rfl dX12_reaches_11 (by decide) (fun c35 => ?_) (fun c35 => ?_)
    · replace hf := y_it c35 hf
      exact y_pk [1, 3, 4, 0] rfl (hj20 _ _ _ _ _ hf)
    · replace hf := y_ie c35 hf
      refine y_iload (pc2 := 16) rfl dX12_reaches_14 rfl ?_
      refine y_iconst (v := 4) (pc2 := 17) rfl dX12_reaches_16 (by decide) ?_
      refine y_icmp_ne (tgt := 55) (pc2 := 20) rfl dX12_reaches_17 (by decide) (fun c34 => ?_) (fun c34 => ?_)
      · replace hf := y_ie c34 hf
        refine y_iload (pc2 := 57) rfl dX12_reaches_55 rfl ?_
        refine y_iconst (v := 1) (pc2 := 58) rfl dX12_reaches_57 (by decide) ?_
        refine y_jnE hf (fun j => ∀ (v0_105 : Nat) (h12 : y_H), j v0_105 h12 = some (rz, hz) → y_V l G z rm_X12_reaches M_X12_reaches ad0 h (some (.int (y_z rz))) hz 105 [(0, y_p v0_105)] [] h12 0 0) (fun v0_105 h12 hf => ?_) (fun j105 hj105 hf => ?_)
        · refine y_aload_n (x := v0_105) (pc2 := 106) rfl dX12_reaches_105 rfl ?_
          refine y_bipush (v := 61) (pc2 := 108) rfl dX12_reaches_106 (by decide) ?_
          obtain ⟨g15, hf⟩ := y_g hf
          obtain ⟨r_, h13, c14, hf⟩ := y_clE hf
          refine y_callV (As := [.int 61]) (rm := rm_X12_mark) (cells := 0) (slots := 0) (pc2 := 111) rfl dX12_reaches_108 n_X12_mark l_BoxYardModel_286 i_X12_mark e_X12_mark (ci := 12) rfl rfl (by decide) g15 rfl rfl (by decide) (by decide) (by decide) (k_X12_mark c14) ?_
          refine y_iconst (v := 1) (pc2 := 112) rfl dX12_reaches_111 (by decide) ?_
          exact y_zretF (x := true) hf dX12_reaches_112 rfl (by decide) (by decide)
        · refine y_jnE hf (fun j => ∀ (v0_67 : Nat) (v2_67 : Int32) (v3_67 : Int32) (v4_67 : Int32) (h16 : y_H), j v0_67 v2_67 v3_67 v4_67 h16 = some (rz, hz) → y_V l G z rm_X12_reaches M_X12_reaches ad0 h (some (.int (y_z rz))) hz 67 [(0, y_p v0_67), (2, .int v2_67), (3, .int v3_67), (4, .int v4_67)] [] h16 0 0) (fun v0_67 v2_67 v3_67 v4_67 h16 hf => ?_) (fun j67 hj67 hf => ?_)
          · refine y_aload_n (x := v0_67) (pc2 := 68) rfl dX12_reaches_67 rfl ?_
            refine y_iload (pc2 := 70) rfl dX12_reaches_68 rfl ?_
            refine y_iconst (v := 1) (pc2 := 71) rfl dX12_reaches_70 (by decide) ?_
            refine y_icmp_ne (tgt := 79) (pc2 := 74) rfl dX12_reaches_71 (by decide) (fun c31 => ?_) (fun c31 => ?_)
            · replace hf := y_ie c31 hf
              refine y_bipush (v := 63) (pc2 := 81) rfl dX12_reaches_79 (by decide) ?_
              obtain ⟨g23, hf⟩ := y_g hf
              obtain ⟨r_, h17, c18, hf⟩ := y_clE hf
              refine y_callV (As := [.int 63]) (rm := rm_X12_mark) (cells := 0) (slots := 0) (pc2 := 84) rfl dX12_reaches_81 n_X12_mark l_BoxYardModel_286 i_X12_mark e_X12_mark (ci := 12) rfl rfl (by decide) g23 rfl rfl (by decide) (by decide) (by decide) (k_X12_mark c18) ?_
              refine y_iload (pc2 := 86) rfl dX12_reaches_84 rfl ?_
              refine y_iconst (v := 1) (pc2 := 87) rfl dX12_reaches_86 (by decide) ?_
              refine y_jnE hf (fun j => ∀ (h19 : y_H), j h19 = some (rz, hz) → y_V l G z rm_X12_reaches M_X12_reaches ad0 h (some (.int (y_z rz))) hz 103 [] [] h19 0 0) (fun h19 hf => ?_) (fun j103 hj103 hf => ?_)
              · refine y_iconst (v := 0) (pc2 := 104) rfl dX12_reaches_103 (by decide) ?_
                exact y_zretF (x := false) hf dX12_reaches_104 rfl (by decide) (by decide)
              · refine y_icmp_ne (tgt := 98) (pc2 := 90) rfl dX12_reaches_87 (by decide) (fun c22 => ?_) (fun c22 => ?_)
                · replace hf := y_ie c22 hf
                  refine y_iload_n (pc2 := 99) rfl dX12_reaches_98 rfl ?_
                  refine y_iconst (v := 3) (pc2 := 100) rfl dX12_reaches_99 (by decide) ?_
                  refine y_icmp_le (tgt := 105) (pc2 := 103) rfl dX12_reaches_100 (by decide) (fun c20 => ?_) (fun c20 => ?_)
                  · replace hf := y_it c20 hf
                    exact y_pk [0] rfl (hj105 _ _ hf)
                  · replace hf := y_ie c20 hf
                    exact y_pk [] rfl (hj103 _ hf)
                · replace hf := y_it c22 hf
                  refine y_iload_n (pc2 := 91) rfl dX12_reaches_90 rfl ?_
                  refine y_iconst (v := 1) (pc2 := 92) rfl dX12_reaches_91 (by decide) ?_
                  refine y_icmp_le (tgt := 105) (pc2 := 95) rfl dX12_reaches_92 (by decide) (fun c21 => ?_) (fun c21 => ?_)
                  · replace hf := y_it c21 hf
                    exact y_pk [0] rfl (hj105 _ _ hf)
                  · replace hf := y_ie c21 hf
                    refine y_goto (tgt := 103) dX12_reaches_95 (by decide) ?_
                    exact y_pk [] rfl (hj103 _ hf)
            · replace hf := y_it c31 hf
              refine y_bipush (v := 62) (pc2 := 76) rfl dX12_reaches_74 (by decide) ?_
              refine y_goto (tgt := 81) dX12_reaches_76 (by decide) ?_
              obtain ⟨g30, hf⟩ := y_g hf
              obtain ⟨r_, h24, c25, hf⟩ := y_clE hf
              refine y_callV (As := [.int 62]) (rm := rm_X12_mark) (cells := 0) (slots := 0) (pc2 := 84) rfl dX12_reaches_81 n_X12_mark l_BoxYardModel_286 i_X12_mark e_X12_mark (ci := 12) rfl rfl (by decide) g30 rfl rfl (by decide) (by decide) (by decide) (k_X12_mark c25) ?_
              refine y_iload (pc2 := 86) rfl dX12_reaches_84 rfl ?_
              refine y_iconst (v := 1) (pc2 := 87) rfl dX12_reaches_86 (by decide) ?_
              refine y_jnE hf (fun j => ∀ (h26 : y_H), j h26 = some (rz, hz) → y_V l G z rm_X12_reaches M_X12_reaches ad0 h (some (.int (y_z rz))) hz 103 [] [] h26 0 0) (fun h26 hf => ?_) (fun j103 hj103 hf => ?_)
              · refine y_iconst (v := 0) (pc2 := 104) rfl dX12_reaches_103 (by decide) ?_
                exact y_zretF (x := false) hf dX12_reaches_104 rfl (by decide) (by decide)
              · refine y_icmp_ne (tgt := 98) (pc2 := 90) rfl dX12_reaches_87 (by decide) (fun c29 => ?_) (fun c29 => ?_)
                · replace hf := y_ie c29 hf
                  refine y_iload_n (pc2 := 99) rfl dX12_reaches_98 rfl ?_
                  refine y_iconst (v := 3) (pc2 := 100) rfl dX12_reaches_99 (by decide) ?_
                  refine y_icmp_le (tgt := 105) (pc2 := 103) rfl dX12_reaches_100 (by decide) (fun c27 => ?_) (fun c27 => ?_)
                  · replace hf := y_it c27 hf
                    exact y_pk [0] rfl (hj105 _ _ hf)
                  · replace hf := y_ie c27 hf
                    exact y_pk [] rfl (hj103 _ hf)
                · replace hf := y_it c29 hf
                  refine y_iload_n (pc2 := 91) rfl dX12_reaches_90 rfl ?_
                  refine y_iconst (v := 1) (pc2 := 92) rfl dX12_reaches_91 (by decide) ?_
                  refine y_icmp_le (tgt := 105) (pc2 := 95) rfl dX12_reaches_92 (by decide) (fun c28 => ?_) (fun c28 => ?_)
                  · replace hf := y_it c28 hf
                    exact y_pk [0] rfl (hj105 _ _ hf)
                  · replace hf := y_ie c28 hf
                    refine y_goto (tgt := 103) dX12_reaches_95 (by decide) ?_
                    exact y_pk [] rfl (hj103 _ hf)
          · refine y_icmp_eq (tgt := 67) (pc2 := 61) rfl dX12_reaches_58 (by decide) (fun c33 => ?_) (fun c33 => ?_)
            · replace hf := y_it c33 hf
              exact y_pk [1, 3, 4, 0] rfl (hj67 _ _ _ _ _ hf)
            · replace hf := y_ie c33 hf
              refine y_iload (pc2 := 63) rfl dX12_reaches_61 rfl ?_
              refine y_iconst (v := 2) (pc2 := 64) rfl dX12_reaches_63 (by decide) ?_
              refine y_icmp_ne (tgt := 105) (pc2 := 67) rfl dX12_reaches_64 (by decide) (fun c32 => ?_) (fun c32 => ?_)
              · replace hf := y_ie c32 hf
                exact y_pk [1] rfl (hj105 _ _ hf)
              · replace hf := y_it c32 hf
                exact y_pk [1, 3, 4, 0] rfl (hj67 _ _ _ _ _ hf)
      · replace hf := y_it c34 hf
        exact y_pk [1, 3, 4, 0] rfl (hj20 _ _ _ _ _ hf)
theorem dX12_isWell_0 : decode cX12_isWell 0 = .ok (.iconst (-1), 1) := by decide +kernel
theorem dX12_isWell_1 : decode cX12_isWell 1 = .ok (.istore_n 2, 1) := by decide +kernel
theorem dX12_isWell_2 : decode cX12_isWell 2 = .ok (.iconst 1, 1) := by decide +kernel
theorem dX12_isWell_3 : decode cX12_isWell 3 = .ok (.istore_n 3, 1) := by decide +kernel
theorem dX12_isWell_4 : decode cX12_isWell 4 = .ok (.iconst 0, 1) := by decide +kernel
theorem dX12_isWell_5 : decode cX12_isWell 5 = .ok (.istore 4, 2) := by decide +kernel
theorem dX12_isWell_7 : decode cX12_isWell 7 = .ok (.iload 4, 2) := by decide +kernel
theorem dX12_isWell_9 : decode cX12_isWell 9 = .ok (.aload_n 0, 1) := by decide +kernel
theorem dX12_isWell_10 : decode cX12_isWell 10 = .ok (.getfield 240, 3) := by decide +kernel
theorem dX12_isWell_13 : decode cX12_isWell 13 = .ok (.if_icmp .ge 60, 3) := by decide +kernel
theorem dX12_isWell_16 : decode cX12_isWell 16 = .ok (.aload_n 0, 1) := by decide +kernel
theorem dX12_isWell_17 : decode cX12_isWell 17 = .ok (.getfield 83, 3) := by decide +kernel
theorem dX12_isWell_20 : decode cX12_isWell 20 = .ok (.iload 4, 2) := by decide +kernel
theorem dX12_isWell_22 : decode cX12_isWell 22 = .ok (.iaload, 1) := by decide +kernel
theorem dX12_isWell_23 : decode cX12_isWell 23 = .ok (.iload_n 1, 1) := by decide +kernel
theorem dX12_isWell_24 : decode cX12_isWell 24 = .ok (.if_icmp .ne 43, 3) := by decide +kernel
theorem dX12_isWell_27 : decode cX12_isWell 27 = .ok (.iload_n 3, 1) := by decide +kernel
theorem dX12_isWell_28 : decode cX12_isWell 28 = .ok (.ifCond .eq 34, 3) := by decide +kernel
theorem dX12_isWell_31 : decode cX12_isWell 31 = .ok (.iload_n 2, 1) := by decide +kernel
theorem dX12_isWell_32 : decode cX12_isWell 32 = .ok (.ifCond .lt 26, 3) := by decide +kernel
theorem dX12_isWell_35 : decode cX12_isWell 35 = .ok (.aload_n 0, 1) := by decide +kernel
theorem dX12_isWell_36 : decode cX12_isWell 36 = .ok (.getfield 86, 3) := by decide +kernel
theorem dX12_isWell_39 : decode cX12_isWell 39 = .ok (.iload 4, 2) := by decide +kernel
theorem dX12_isWell_41 : decode cX12_isWell 41 = .ok (.iaload, 1) := by decide +kernel
theorem dX12_isWell_42 : decode cX12_isWell 42 = .ok (.aload_n 0, 1) := by decide +kernel
theorem dX12_isWell_43 : decode cX12_isWell 43 = .ok (.getfield 86, 3) := by decide +kernel
theorem dX12_isWell_46 : decode cX12_isWell 46 = .ok (.iload_n 2, 1) := by decide +kernel
theorem dX12_isWell_47 : decode cX12_isWell 47 = .ok (.iaload, 1) := by decide +kernel
theorem dX12_isWell_48 : decode cX12_isWell 48 = .ok (.aload_n 0, 1) := by decide +kernel
theorem dX12_isWell_49 : decode cX12_isWell 49 = .ok (.getfield 98, 3) := by decide +kernel
theorem dX12_isWell_52 : decode cX12_isWell 52 = .ok (.iload_n 1, 1) := by decide +kernel
theorem dX12_isWell_53 : decode cX12_isWell 53 = .ok (.iaload, 1) := by decide +kernel
theorem dX12_isWell_54 : decode cX12_isWell 54 = .ok (.iadd, 1) := by decide +kernel
theorem dX12_isWell_55 : decode cX12_isWell 55 = .ok (.if_icmp .lt 7, 3) := by decide +kernel
theorem dX12_isWell_58 : decode cX12_isWell 58 = .ok (.iconst 1, 1) := by decide +kernel
theorem dX12_isWell_59 : decode cX12_isWell 59 = .ok (.goto 4, 3) := by decide +kernel
theorem dX12_isWell_62 : decode cX12_isWell 62 = .ok (.iconst 0, 1) := by decide +kernel
theorem dX12_isWell_63 : decode cX12_isWell 63 = .ok (.istore_n 3, 1) := by decide +kernel
theorem dX12_isWell_64 : decode cX12_isWell 64 = .ok (.iload 4, 2) := by decide +kernel
theorem dX12_isWell_66 : decode cX12_isWell 66 = .ok (.istore_n 2, 1) := by decide +kernel
theorem dX12_isWell_67 : decode cX12_isWell 67 = .ok (.iinc 4 1, 3) := by decide +kernel
theorem dX12_isWell_70 : decode cX12_isWell 70 = .ok (.goto (-63), 3) := by decide +kernel
theorem dX12_isWell_73 : decode cX12_isWell 73 = .ok (.iload_n 3, 1) := by decide +kernel
theorem dX12_isWell_74 : decode cX12_isWell 74 = .ok (.ireturn, 1) := by decide +kernel
def M_X12_isWell : y_M := (yX12_isWell, cX12_isWell, 5, (Option.some Jvm.ClassFile.FieldType.boolean))
theorem n_X12_isWell : y_N0 M_X12_isWell 1 := ⟨(c_9 22 (by decide +kernel) rfl), (c_1 9 (by decide +kernel) rfl), ⟨by decide +kernel, by decide +kernel⟩, by decide +kernel⟩
theorem F_BoxYardModel_83 : y_F "BoxYardModel" 83 12 27 := ⟨_, _, _, rfl, by decide, Or.inl (c_7 149 (by decide +kernel) rfl)⟩
theorem F_BoxYardModel_86 : y_F "BoxYardModel" 86 12 28 := ⟨_, _, _, rfl, by decide, Or.inl (c_7 150 (by decide +kernel) rfl)⟩
set_option maxRecDepth 100000 in
def f_X12_isWell (p0 : Nat) (p1 : Int32) (h : y_H) : Option (Bool × y_H) :=
  y_jl (fun (_ : Nat) (_ : Int32) (_ : Int32) (_ : Int32) (_ : Int32) (_ : y_H) => (none : Option (Bool × y_H))) (fun j7 (v0_7 : Nat) (v1_7 : Int32) (v2_7 : Int32) (v3_7 : Int32) (v4_7 : Int32) (h1 : y_H) =>
      if y_K h1 v0_7 = 13 then
      if (y_I h1 v0_7 25) ≤ v4_7 then
        if v3_7 = 0 then some (false, h1) else if v3_7 = 1 then some (true, h1) else none
      else
        if y_K h1 v0_7 = 13 then
        if y_K h1 (y_P h1 v0_7 27) = 100 ∧ y_ix v4_7 (y_N h1 (y_P h1 v0_7 27)) = true then
        y_jn (fun (v0_67 : Nat) (v1_67 : Int32) (v2_67 : Int32) (v3_67 : Int32) (v4_67 : Int32) (h2 : y_H) => (
            j7 v0_67 v1_67 v2_67 v3_67 (v4_67 + 1) h2 : Option (Bool × y_H))) (fun j67 =>
        if (y_I h1 (y_P h1 v0_7 27) (Int32.toNatClampNeg v4_7)) = v1_7 then
          y_jn (fun (v0_62 : Nat) (v1_62 : Int32) (v4_62 : Int32) (h3 : y_H) => (
              j67 v0_62 v1_62 v4_62 0 v4_62 h3 : Option (Bool × y_H))) (fun j62 =>
          if v3_7 = 0 then
            j62 v0_7 v1_7 v4_7 h1
          else
            y_jn (fun (v0_58 : Nat) (v1_58 : Int32) (v4_58 : Int32) (h4 : y_H) => (
                j67 v0_58 v1_58 v4_58 1 v4_58 h4 : Option (Bool × y_H))) (fun j58 =>
            if v2_7 < 0 then
              j58 v0_7 v1_7 v4_7 h1
            else
              if y_K h1 v0_7 = 13 then
              if y_K h1 (y_P h1 v0_7 28) = 100 ∧ y_ix v4_7 (y_N h1 (y_P h1 v0_7 28)) = true then
              if y_K h1 v0_7 = 13 then
              if y_K h1 (y_P h1 v0_7 28) = 100 ∧ y_ix v2_7 (y_N h1 (y_P h1 v0_7 28)) = true then
              if y_K h1 v0_7 = 13 then
              if y_K h1 (y_P h1 v0_7 32) = 100 ∧ y_ix v1_7 (y_N h1 (y_P h1 v0_7 32)) = true then
              if (y_I h1 (y_P h1 v0_7 28) (Int32.toNatClampNeg v4_7)) < ((y_I h1 (y_P h1 v0_7 28) (Int32.toNatClampNeg v2_7)) + (y_I h1 (y_P h1 v0_7 32) (Int32.toNatClampNeg v1_7))) then
                j62 v0_7 v1_7 v4_7 h1
              else
                j58 v0_7 v1_7 v4_7 h1
              else none
              else none
              else none
              else none
              else none
              else none))
        else
          j67 v0_7 v1_7 v2_7 v3_7 v4_7 h1)
        else none
        else none
      else none) (fun j7 =>
  j7 p0 p1 (-1 : Int32) 1 0 h)
abbrev rm_X12_isWell : Room := { frames := 0, cells := 0, slots := 0, locals := 0 }
set_option maxRecDepth 100000 in
set_option maxHeartbeats 4000000 in
theorem k_X12_isWell {l : Launch} {G : y_G} {p0 : Nat} {p1 : Int32} {h hz : y_H} {rz : Bool} (hf : f_X12_isWell p0 p1 h = some (rz, hz)) : y_S l G M_X12_isWell rm_X12_isWell [y_p p0, .int p1] h (some (.int (y_z rz))) hz := by
  refine y_start (lv := [(0, y_p p0), (1, .int p1)]) (by decide) (by simp [lg_sl, y_p_cat, y_ci, y_cj, M_X12_isWell]) (by simp [lv_args, y_p_cat, y_ci, y_cj]) (fun z ad0 => ?_)
  unfold f_X12_isWell at hf
  refine y_iconst (v := (-1 : Int32)) (pc2 := 1) rfl dX12_isWell_0 (by decide) ?_
  refine y_istore_n (lv' := [(2, .int (-1 : Int32)), (0, y_p p0), (1, .int p1)]) (pc2 := 2) rfl dX12_isWell_1 (by decide) rfl ?_
  refine y_iconst (v := 1) (pc2 := 3) rfl dX12_isWell_2 (by decide) ?_
  refine y_istore_n (lv' := [(3, .int 1), (2, .int (-1 : Int32)), (0, y_p p0), (1, .int p1)]) (pc2 := 4) rfl dX12_isWell_3 (by decide) rfl ?_
  refine y_iconst (v := 0) (pc2 := 5) rfl dX12_isWell_4 (by decide) ?_
  refine y_jlE hf (fun j => ∀ (v0_7 : Nat) (v1_7 : Int32) (v2_7 : Int32) (v3_7 : Int32) (v4_7 : Int32) (h1 : y_H), j v0_7 v1_7 v2_7 v3_7 v4_7 h1 = some (rz, hz) → y_V l G z rm_X12_isWell M_X12_isWell ad0 h (some (.int (y_z rz))) hz 7 [(0, y_p v0_7), (1, .int v1_7), (2, .int v2_7), (3, .int v3_7), (4, .int v4_7)] [] h1 0 0) (fun _ _ _ _ _ _ hf => by cases hf) (fun j7 hj7 v0_7 v1_7 v2_7 v3_7 v4_7 h1 hf => ?_) (fun j7 hj7 hf => ?_)
  · refine y_iload (pc2 := 9) rfl dX12_isWell_7 rfl ?_
    refine y_aload_n (x := v0_7) (pc2 := 10) rfl dX12_isWell_9 rfl ?_
    obtain ⟨g18, hf⟩ := y_g hf
    refine y_getI (pc2 := 13) rfl dX12_isWell_10 F_BoxYardModel_240 (by decide) rfl g18 ?_
    refine y_icmp_ge (tgt := 73) (pc2 := 16) rfl dX12_isWell_13 (by decide) (fun c17 => ?_) (fun c17 => ?_)
    · replace hf := y_it c17 hf
      refine y_iload_n (pc2 := 74) rfl dX12_isWell_73 rfl ?_
      exact y_zretV hf dX12_isWell_74 rfl (by decide) (by decide)
    · replace hf := y_ie c17 hf
      refine y_aload_n (x := v0_7) (pc2 := 17) rfl dX12_isWell_16 rfl ?_
      obtain ⟨g16, hf⟩ := y_g hf
      refine y_getP (pc2 := 20) rfl dX12_isWell_17 F_BoxYardModel_83 (by decide) rfl g16 ?_
      refine y_iload (pc2 := 22) rfl dX12_isWell_20 rfl ?_
      obtain ⟨g15, hf⟩ := y_g hf
      refine y_iald (pc2 := 23) rfl dX12_isWell_22 g15.1 (y_ix_in g15.2) ?_
      refine y_iload_n (pc2 := 24) rfl dX12_isWell_23 rfl ?_
      refine y_jnE hf (fun j => ∀ (v0_67 : Nat) (v1_67 : Int32) (v2_67 : Int32) (v3_67 : Int32) (v4_67 : Int32) (h2 : y_H), j v0_67 v1_67 v2_67 v3_67 v4_67 h2 = some (rz, hz) → y_V l G z rm_X12_isWell M_X12_isWell ad0 h (some (.int (y_z rz))) hz 67 [(0, y_p v0_67), (1, .int v1_67), (2, .int v2_67), (3, .int v3_67), (4, .int v4_67)] [] h2 0 0) (fun v0_67 v1_67 v2_67 v3_67 v4_67 h2 hf => ?_) (fun j67 hj67 hf => ?_)
      · refine y_iinc (v := v4_67 + 1) (lv' := [(4, .int (v4_67 + 1)), (0, y_p v0_67), (1, .int v1_67), (2, .int v2_67), (3, .int v3_67)]) (pc2 := 70) rfl dX12_isWell_67 rfl rfl (by decide) rfl ?_
        refine y_goto (tgt := 7) dX12_isWell_70 (by decide) ?_
        exact y_pk [1, 2, 3, 4, 0] rfl (hj7 _ _ _ _ _ _ hf)
      · refine y_icmp_ne (tgt := 67) (pc2 := 27) rfl dX12_isWell_24 (by decide) (fun c14 => ?_) (fun c14 => ?_)
        · replace hf := y_ie c14 hf
          exact y_pk [0, 1, 2, 3, 4] rfl (hj67 _ _ _ _ _ _ hf)
        · replace hf := y_it c14 hf
          refine y_iload_n (pc2 := 28) rfl dX12_isWell_27 rfl ?_
          refine y_jnE hf (fun j => ∀ (v0_62 : Nat) (v1_62 : Int32) (v4_62 : Int32) (h3 : y_H), j v0_62 v1_62 v4_62 h3 = some (rz, hz) → y_V l G z rm_X12_isWell M_X12_isWell ad0 h (some (.int (y_z rz))) hz 62 [(0, y_p v0_62), (1, .int v1_62), (4, .int v4_62)] [] h3 0 0) (fun v0_62 v1_62 v4_62 h3 hf => ?_) (fun j62 hj62 hf => ?_)
          · refine y_iconst (v := 0) (pc2 := 63) rfl dX12_isWell_62 (by decide) ?_
            refine y_istore_n (lv' := [(3, .int 0), (0, y_p v0_62), (1, .int v1_62), (4, .int v4_62)]) (pc2 := 64) rfl dX12_isWell_63 (by decide) rfl ?_
            refine y_iload (pc2 := 66) rfl dX12_isWell_64 rfl ?_
            refine y_istore_n (lv' := [(2, .int v4_62), (3, .int 0), (0, y_p v0_62), (1, .int v1_62), (4, .int v4_62)]) (pc2 := 67) rfl dX12_isWell_66 (by decide) rfl ?_
            exact y_pk [2, 3, 0, 1, 4] rfl (hj67 _ _ _ _ _ _ hf)
          · refine y_if_eq (tgt := 62) (pc2 := 31) rfl dX12_isWell_28 (by decide) (fun c13 => ?_) (fun c13 => ?_)
            · replace hf := y_it c13 hf
              exact y_pk [0, 1, 4] rfl (hj62 _ _ _ _ hf)
            · replace hf := y_ie c13 hf
              refine y_iload_n (pc2 := 32) rfl dX12_isWell_31 rfl ?_
              refine y_jnE hf (fun j => ∀ (v0_58 : Nat) (v1_58 : Int32) (v4_58 : Int32) (h4 : y_H), j v0_58 v1_58 v4_58 h4 = some (rz, hz) → y_V l G z rm_X12_isWell M_X12_isWell ad0 h (some (.int (y_z rz))) hz 58 [(0, y_p v0_58), (1, .int v1_58), (4, .int v4_58)] [] h4 0 0) (fun v0_58 v1_58 v4_58 h4 hf => ?_) (fun j58 hj58 hf => ?_)
              · refine y_iconst (v := 1) (pc2 := 59) rfl dX12_isWell_58 (by decide) ?_
                refine y_goto (tgt := 63) dX12_isWell_59 (by decide) ?_
                refine y_istore_n (lv' := [(3, .int 1), (0, y_p v0_58), (1, .int v1_58), (4, .int v4_58)]) (pc2 := 64) rfl dX12_isWell_63 (by decide) rfl ?_
                refine y_iload (pc2 := 66) rfl dX12_isWell_64 rfl ?_
                refine y_istore_n (lv' := [(2, .int v4_58), (3, .int 1), (0, y_p v0_58), (1, .int v1_58), (4, .int v4_58)]) (pc2 := 67) rfl dX12_isWell_66 (by decide) rfl ?_
                exact y_pk [2, 3, 0, 1, 4] rfl (hj67 _ _ _ _ _ _ hf)
              · refine y_if_lt (tgt := 58) (pc2 := 35) rfl dX12_isWell_32 (by decide) (fun c12 => ?_) (fun c12 => ?_)
                · replace hf := y_it c12 hf
                  exact y_pk [0, 1, 4] rfl (hj58 _ _ _ _ hf)
                · replace hf := y_ie c12 hf
                  refine y_aload_n (x := v0_7) (pc2 := 36) rfl dX12_isWell_35 rfl ?_
                  obtain ⟨g11, hf⟩ := y_g hf
                  refine y_getP (pc2 := 39) rfl dX12_isWell_36 F_BoxYardModel_86 (by decide) rfl g11 ?_
                  refine y_iload (pc2 := 41) rfl dX12_isWell_39 rfl ?_
                  obtain ⟨g10, hf⟩ := y_g hf
                  refine y_iald (pc2 := 42) rfl dX12_isWell_41 g10.1 (y_ix_in g10.2) ?_
                  refine y_aload_n (x := v0_7) (pc2 := 43) rfl dX12_isWell_42 rfl ?_
                  obtain ⟨g9, hf⟩ := y_g hf
                  refine y_getP (pc2 := 46) rfl dX12_isWell_43 F_BoxYardModel_86 (by decide) rfl g9 ?_
                  refine y_iload_n (pc2 := 47) rfl dX12_isWell_46 rfl ?_
                  obtain ⟨g8, hf⟩ := y_g hf
                  refine y_iald (pc2 := 48) rfl dX12_isWell_47 g8.1 (y_ix_in g8.2) ?_
                  refine y_aload_n (x := v0_7) (pc2 := 49) rfl dX12_isWell_48 rfl ?_
                  obtain ⟨g7, hf⟩ := y_g hf
                  refine y_getP (pc2 := 52) rfl dX12_isWell_49 F_BoxYardModel_98 (by decide) rfl g7 ?_
                  refine y_iload_n (pc2 := 53) rfl dX12_isWell_52 rfl ?_
                  obtain ⟨g6, hf⟩ := y_g hf
                  refine y_iald (pc2 := 54) rfl dX12_isWell_53 g6.1 (y_ix_in g6.2) ?_
                  refine y_iadd (pc2 := 55) rfl dX12_isWell_54 ?_
                  refine y_icmp_lt (tgt := 62) (pc2 := 58) rfl dX12_isWell_55 (by decide) (fun c5 => ?_) (fun c5 => ?_)
                  · replace hf := y_it c5 hf
                    exact y_pk [0, 1, 4] rfl (hj62 _ _ _ _ hf)
                  · replace hf := y_ie c5 hf
                    exact y_pk [0, 1, 4] rfl (hj58 _ _ _ _ hf)
  · refine y_istore (lv' := [(4, .int 0), (3, .int 1), (2, .int (-1 : Int32)), (0, y_p p0), (1, .int p1)]) (pc2 := 7) rfl dX12_isWell_5 (by decide) rfl ?_
    exact y_pk [3, 4, 2, 1, 0] rfl (hj7 _ _ _ _ _ _ hf)
theorem dX12_rail_0 : decode cX12_rail 0 = .ok (.iload_n 1, 1) := by decide +kernel
theorem dX12_rail_1 : decode cX12_rail 1 = .ok (.iconst 0, 1) := by decide +kernel
theorem dX12_rail_2 : decode cX12_rail 2 = .ok (.iconst 2, 1) := by decide +kernel
theorem dX12_rail_3 : decode cX12_rail 3 = .ok (.invokestatic 278, 3) := by decide +kernel
theorem dX12_rail_6 : decode cX12_rail 6 = .ok (.ifCond .ne 5, 3) := by decide +kernel
theorem dX12_rail_9 : decode cX12_rail 9 = .ok (.iconst (-1), 1) := by decide +kernel
theorem dX12_rail_10 : decode cX12_rail 10 = .ok (.ireturn, 1) := by decide +kernel
theorem dX12_rail_11 : decode cX12_rail 11 = .ok (.iload_n 2, 1) := by decide +kernel
theorem dX12_rail_12 : decode cX12_rail 12 = .ok (.iconst 1, 1) := by decide +kernel
theorem dX12_rail_13 : decode cX12_rail 13 = .ok (.iconst 4, 1) := by decide +kernel
theorem dX12_rail_14 : decode cX12_rail 14 = .ok (.invokestatic 278, 3) := by decide +kernel
theorem dX12_rail_17 : decode cX12_rail 17 = .ok (.ifCond .ne 6, 3) := by decide +kernel
theorem dX12_rail_20 : decode cX12_rail 20 = .ok (.bipush (-2), 2) := by decide +kernel
theorem dX12_rail_22 : decode cX12_rail 22 = .ok (.ireturn, 1) := by decide +kernel
theorem dX12_rail_23 : decode cX12_rail 23 = .ok (.aload_n 0, 1) := by decide +kernel
theorem dX12_rail_24 : decode cX12_rail 24 = .ok (.getfield 98, 3) := by decide +kernel
theorem dX12_rail_27 : decode cX12_rail 27 = .ok (.iload_n 1, 1) := by decide +kernel
theorem dX12_rail_28 : decode cX12_rail 28 = .ok (.iaload, 1) := by decide +kernel
theorem dX12_rail_29 : decode cX12_rail 29 = .ok (.istore_n 3, 1) := by decide +kernel
theorem dX12_rail_30 : decode cX12_rail 30 = .ok (.aload_n 0, 1) := by decide +kernel
theorem dX12_rail_31 : decode cX12_rail 31 = .ok (.getfield 98, 3) := by decide +kernel
theorem dX12_rail_34 : decode cX12_rail 34 = .ok (.iload_n 1, 1) := by decide +kernel
theorem dX12_rail_35 : decode cX12_rail 35 = .ok (.iload_n 2, 1) := by decide +kernel
theorem dX12_rail_36 : decode cX12_rail 36 = .ok (.iastore, 1) := by decide +kernel
theorem dX12_rail_37 : decode cX12_rail 37 = .ok (.aload_n 0, 1) := by decide +kernel
theorem dX12_rail_38 : decode cX12_rail 38 = .ok (.iload_n 1, 1) := by decide +kernel
theorem dX12_rail_39 : decode cX12_rail 39 = .ok (.invokevirtual 326, 3) := by decide +kernel
theorem dX12_rail_42 : decode cX12_rail 42 = .ok (.ifCond .ne 13, 3) := by decide +kernel
theorem dX12_rail_45 : decode cX12_rail 45 = .ok (.aload_n 0, 1) := by decide +kernel
theorem dX12_rail_46 : decode cX12_rail 46 = .ok (.getfield 98, 3) := by decide +kernel
theorem dX12_rail_49 : decode cX12_rail 49 = .ok (.iload_n 1, 1) := by decide +kernel
theorem dX12_rail_50 : decode cX12_rail 50 = .ok (.iload_n 3, 1) := by decide +kernel
theorem dX12_rail_51 : decode cX12_rail 51 = .ok (.iastore, 1) := by decide +kernel
theorem dX12_rail_52 : decode cX12_rail 52 = .ok (.bipush (-47), 2) := by decide +kernel
theorem dX12_rail_54 : decode cX12_rail 54 = .ok (.ireturn, 1) := by decide +kernel
theorem dX12_rail_55 : decode cX12_rail 55 = .ok (.aload_n 0, 1) := by decide +kernel
theorem dX12_rail_56 : decode cX12_rail 56 = .ok (.iconst 0, 1) := by decide +kernel
theorem dX12_rail_57 : decode cX12_rail 57 = .ok (.putfield 255, 3) := by decide +kernel
theorem dX12_rail_60 : decode cX12_rail 60 = .ok (.iload_n 3, 1) := by decide +kernel
theorem dX12_rail_61 : decode cX12_rail 61 = .ok (.ireturn, 1) := by decide +kernel
def M_X12_rail : y_M := (yX12_rail, cX12_rail, 4, (Option.some Jvm.ClassFile.FieldType.int))
theorem n_X12_rail : y_N0 M_X12_rail 2 := ⟨(c_9 18 (by decide +kernel) rfl), (c_1 9 (by decide +kernel) rfl), ⟨by decide +kernel, by decide +kernel⟩, by decide +kernel⟩
theorem l_BoxYardModel_326 : y_lnk "BoxYardModel" 326 M_X12_isWell := Or.inl (c_9 19 (by decide +kernel) rfl)
theorem i_X12_isWell : Cond.instanceMethod (M_X12_isWell).1 ∈ y_tb := (c_9 21 (by decide +kernel) rfl)
theorem e_X12_isWell : Cond.selects (M_X12_isWell).1.cls (M_X12_isWell).1 (M_X12_isWell).1 ∈ y_tb := (m_s 70 (by decide +kernel) rfl)
set_option maxRecDepth 100000 in
def f_X12_rail (p0 : Nat) (p1 : Int32) (p2 : Int32) (h : y_H) : Option (Int32 × y_H) :=
  y_cl (f_X12_in p1 0 2 h) (fun r1 h2 =>
  if r1 = true then
    y_cl (f_X12_in p2 1 4 h2) (fun r4 h5 =>
    if r4 = true then
      if y_K h5 p0 = 13 then
      if y_K h5 (y_P h5 p0 32) = 100 ∧ y_ix p1 (y_N h5 (y_P h5 p0 32)) = true then
      if y_K h5 p0 = 13 then
      if y_K h5 (y_P h5 p0 32) = 100 ∧ y_ix p1 (y_N h5 (y_P h5 p0 32)) = true then
      y_bd (s_I h5 (y_P h5 p0 32) (Int32.toNatClampNeg p1) p2) (fun h7 =>
      if y_K h7 p0 = 13 then
      y_cl (f_X12_isWell p0 p1 h7) (fun r10 h11 =>
      if r10 = true then
        if y_K h11 p0 = 13 then
        y_bd (s_I h11 p0 50 0) (fun h13 =>
        some (y_I h5 (y_P h5 p0 32) (Int32.toNatClampNeg p1), h13))
        else none
      else
        if y_K h11 p0 = 13 then
        if y_K h11 (y_P h11 p0 32) = 100 ∧ y_ix p1 (y_N h11 (y_P h11 p0 32)) = true then
        y_bd (s_I h11 (y_P h11 p0 32) (Int32.toNatClampNeg p1) (y_I h5 (y_P h5 p0 32) (Int32.toNatClampNeg p1))) (fun h16 =>
        some ((-47 : Int32), h16))
        else none
        else none)
      else none)
      else none
      else none
      else none
      else none
    else
      some ((-2 : Int32), h5))
  else
    some ((-1 : Int32), h2))
abbrev rm_X12_rail : Room := { frames := 1, cells := 0, slots := 0, locals := 24 }
set_option maxRecDepth 100000 in
set_option maxHeartbeats 4000000 in
theorem k_X12_rail {l : Launch} {G : y_G} {p0 : Nat} {p1 : Int32} {p2 : Int32} {h hz : y_H} {rz : Int32} (hf : f_X12_rail p0 p1 p2 h = some (rz, hz)) : y_S l G M_X12_rail rm_X12_rail [y_p p0, .int p1, .int p2] h (some (.int rz)) hz := by
  refine y_start (lv := [(0, y_p p0), (1, .int p1), (2, .int p2)]) (by decide) (by simp [lg_sl, y_p_cat, y_ci, y_cj, M_X12_rail]) (by simp [lv_args, y_p_cat, y_ci, y_cj]) (fun z ad0 => ?_)
  unfold f_X12_rail at hf
  refine y_iload_n (pc2 := 1) rfl dX12_rail_0 rfl ?_
  refine y_iconst (v := 0) (pc2 := 2) rfl dX12_rail_1 (by decide) ?_
  refine y_iconst (v := 2) (pc2 := 3) rfl dX12_rail_2 (by decide) ?_
  obtain ⟨r1, h2, c3, hf⟩ := y_clE hf
  refine y_callS (As := [.int p1, .int 0, .int 2]) (rm := rm_X12_in) (cells := 0) (slots := 0) (pc2 := 6) rfl dX12_rail_3 n_X12_in l_BoxYardModel_278 t_X12_in rfl rfl (by decide) (by decide) (by decide) (k_X12_in c3) ?_
  refine y_ifz_ne (tgt := 11) (pc2 := 9) rfl dX12_rail_6 (by decide) (fun c26 => ?_) (fun c26 => ?_)
  · replace hf := y_it c26 hf
    refine y_iload_n (pc2 := 12) rfl dX12_rail_11 rfl ?_
    refine y_iconst (v := 1) (pc2 := 13) rfl dX12_rail_12 (by decide) ?_
    refine y_iconst (v := 4) (pc2 := 14) rfl dX12_rail_13 (by decide) ?_
    obtain ⟨r4, h5, c6, hf⟩ := y_clE hf
    refine y_callS (As := [.int p2, .int 1, .int 4]) (rm := rm_X12_in) (cells := 0) (slots := 0) (pc2 := 17) rfl dX12_rail_14 n_X12_in l_BoxYardModel_278 t_X12_in rfl rfl (by decide) (by decide) (by decide) (k_X12_in c6) ?_
    refine y_ifz_ne (tgt := 23) (pc2 := 20) rfl dX12_rail_17 (by decide) (fun c25 => ?_) (fun c25 => ?_)
    · replace hf := y_it c25 hf
      refine y_aload_n (x := p0) (pc2 := 24) rfl dX12_rail_23 rfl ?_
      obtain ⟨g24, hf⟩ := y_g hf
      refine y_getP (pc2 := 27) rfl dX12_rail_24 F_BoxYardModel_98 (by decide) rfl g24 ?_
      refine y_iload_n (pc2 := 28) rfl dX12_rail_27 rfl ?_
      obtain ⟨g23, hf⟩ := y_g hf
      refine y_iald (pc2 := 29) rfl dX12_rail_28 g23.1 (y_ix_in g23.2) ?_
      refine y_istore_n (lv' := [(3, .int (y_I h5 (y_P h5 p0 32) (Int32.toNatClampNeg p1))), (0, y_p p0), (1, .int p1), (2, .int p2)]) (pc2 := 30) rfl dX12_rail_29 (by decide) rfl ?_
      refine y_aload_n (x := p0) (pc2 := 31) rfl dX12_rail_30 rfl ?_
      obtain ⟨g22, hf⟩ := y_g hf
      refine y_getP (pc2 := 34) rfl dX12_rail_31 F_BoxYardModel_98 (by decide) rfl g22 ?_
      refine y_iload_n (pc2 := 35) rfl dX12_rail_34 rfl ?_
      refine y_iload_n (pc2 := 36) rfl dX12_rail_35 rfl ?_
      obtain ⟨g9, hf⟩ := y_g hf
      obtain ⟨h7, e8, hf⟩ := y_bdE hf
      refine y_iast (x := p2) (pc2 := 37) rfl dX12_rail_36 g9.1 (y_ix_in g9.2) e8 ?_
      refine y_aload_n (x := p0) (pc2 := 38) rfl dX12_rail_37 rfl ?_
      refine y_iload_n (pc2 := 39) rfl dX12_rail_38 rfl ?_
      obtain ⟨g21, hf⟩ := y_g hf
      obtain ⟨r10, h11, c12, hf⟩ := y_clE hf
      refine y_callV (As := [.int p1]) (rm := rm_X12_isWell) (cells := 0) (slots := 0) (pc2 := 42) rfl dX12_rail_39 n_X12_isWell l_BoxYardModel_326 i_X12_isWell e_X12_isWell (ci := 12) rfl rfl (by decide) g21 rfl rfl (by decide) (by decide) (by decide) (k_X12_isWell c12) ?_
      refine y_ifz_ne (tgt := 55) (pc2 := 45) rfl dX12_rail_42 (by decide) (fun c20 => ?_) (fun c20 => ?_)
      · replace hf := y_it c20 hf
        refine y_aload_n (x := p0) (pc2 := 56) rfl dX12_rail_55 rfl ?_
        refine y_iconst (v := 0) (pc2 := 57) rfl dX12_rail_56 (by decide) ?_
        obtain ⟨g15, hf⟩ := y_g hf
        obtain ⟨h13, e14, hf⟩ := y_bdE hf
        refine y_putI (x := 0) (pc2 := 60) rfl dX12_rail_57 Fp_BoxYardModel_255 (by decide) rfl g15 e14 ?_
        refine y_iload_n (pc2 := 61) rfl dX12_rail_60 rfl ?_
        exact y_iretF hf dX12_rail_61 rfl (by decide) (by decide)
      · replace hf := y_ie c20 hf
        refine y_aload_n (x := p0) (pc2 := 46) rfl dX12_rail_45 rfl ?_
        obtain ⟨g19, hf⟩ := y_g hf
        refine y_getP (pc2 := 49) rfl dX12_rail_46 F_BoxYardModel_98 (by decide) rfl g19 ?_
        refine y_iload_n (pc2 := 50) rfl dX12_rail_49 rfl ?_
        refine y_iload_n (pc2 := 51) rfl dX12_rail_50 rfl ?_
        obtain ⟨g18, hf⟩ := y_g hf
        obtain ⟨h16, e17, hf⟩ := y_bdE hf
        refine y_iast (x := y_I h5 (y_P h5 p0 32) (Int32.toNatClampNeg p1)) (pc2 := 52) rfl dX12_rail_51 g18.1 (y_ix_in g18.2) e17 ?_
        refine y_bipush (v := (-47 : Int32)) (pc2 := 54) rfl dX12_rail_52 (by decide) ?_
        exact y_iretF hf dX12_rail_54 rfl (by decide) (by decide)
    · replace hf := y_ie c25 hf
      refine y_bipush (v := (-2 : Int32)) (pc2 := 22) rfl dX12_rail_20 (by decide) ?_
      exact y_iretF hf dX12_rail_22 rfl (by decide) (by decide)
  · replace hf := y_ie c26 hf
    refine y_iconst (v := (-1 : Int32)) (pc2 := 10) rfl dX12_rail_9 (by decide) ?_
    exact y_iretF hf dX12_rail_10 rfl (by decide) (by decide)
