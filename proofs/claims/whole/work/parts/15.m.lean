theorem dX12_crane_0 : decode cX12_crane 0 = .ok (.iload_n 1, 1) := by decide +kernel
theorem dX12_crane_1 : decode cX12_crane 1 = .ok (.iconst 0, 1) := by decide +kernel
theorem dX12_crane_2 : decode cX12_crane 2 = .ok (.iconst 4, 1) := by decide +kernel
theorem dX12_crane_3 : decode cX12_crane 3 = .ok (.invokestatic 278, 3) := by decide +kernel
theorem dX12_crane_6 : decode cX12_crane 6 = .ok (.ifCond .ne 6, 3) := by decide +kernel
theorem dX12_crane_9 : decode cX12_crane 9 = .ok (.bipush (-2), 2) := by decide +kernel
theorem dX12_crane_11 : decode cX12_crane 11 = .ok (.ireturn, 1) := by decide +kernel
theorem dX12_crane_12 : decode cX12_crane 12 = .ok (.iload_n 1, 1) := by decide +kernel
theorem dX12_crane_13 : decode cX12_crane 13 = .ok (.iconst 3, 1) := by decide +kernel
theorem dX12_crane_14 : decode cX12_crane 14 = .ok (.if_icmp .ge 15, 3) := by decide +kernel
theorem dX12_crane_17 : decode cX12_crane 17 = .ok (.iload_n 2, 1) := by decide +kernel
theorem dX12_crane_18 : decode cX12_crane 18 = .ok (.iconst 0, 1) := by decide +kernel
theorem dX12_crane_19 : decode cX12_crane 19 = .ok (.iconst 2, 1) := by decide +kernel
theorem dX12_crane_20 : decode cX12_crane 20 = .ok (.invokestatic 278, 3) := by decide +kernel
theorem dX12_crane_23 : decode cX12_crane 23 = .ok (.ifCond .ne 14, 3) := by decide +kernel
theorem dX12_crane_26 : decode cX12_crane 26 = .ok (.goto 9, 3) := by decide +kernel
theorem dX12_crane_29 : decode cX12_crane 29 = .ok (.iload_n 2, 1) := by decide +kernel
theorem dX12_crane_30 : decode cX12_crane 30 = .ok (.bipush (-9), 2) := by decide +kernel
theorem dX12_crane_32 : decode cX12_crane 32 = .ok (.if_icmp .eq 5, 3) := by decide +kernel
theorem dX12_crane_35 : decode cX12_crane 35 = .ok (.iconst (-1), 1) := by decide +kernel
theorem dX12_crane_36 : decode cX12_crane 36 = .ok (.ireturn, 1) := by decide +kernel
theorem dX12_crane_37 : decode cX12_crane 37 = .ok (.iload_n 3, 1) := by decide +kernel
theorem dX12_crane_38 : decode cX12_crane 38 = .ok (.iconst 0, 1) := by decide +kernel
theorem dX12_crane_39 : decode cX12_crane 39 = .ok (.bipush 9, 2) := by decide +kernel
theorem dX12_crane_41 : decode cX12_crane 41 = .ok (.invokestatic 278, 3) := by decide +kernel
theorem dX12_crane_44 : decode cX12_crane 44 = .ok (.ifCond .ne 6, 3) := by decide +kernel
theorem dX12_crane_47 : decode cX12_crane 47 = .ok (.bipush (-2), 2) := by decide +kernel
theorem dX12_crane_49 : decode cX12_crane 49 = .ok (.ireturn, 1) := by decide +kernel
theorem dX12_crane_50 : decode cX12_crane 50 = .ok (.aload_n 0, 1) := by decide +kernel
theorem dX12_crane_51 : decode cX12_crane 51 = .ok (.getfield 240, 3) := by decide +kernel
theorem dX12_crane_54 : decode cX12_crane 54 = .ok (.bipush 12, 2) := by decide +kernel
theorem dX12_crane_56 : decode cX12_crane 56 = .ok (.if_icmp .ne 6, 3) := by decide +kernel
theorem dX12_crane_59 : decode cX12_crane 59 = .ok (.bipush (-4), 2) := by decide +kernel
theorem dX12_crane_61 : decode cX12_crane 61 = .ok (.ireturn, 1) := by decide +kernel
theorem dX12_crane_62 : decode cX12_crane 62 = .ok (.aload_n 0, 1) := by decide +kernel
theorem dX12_crane_63 : decode cX12_crane 63 = .ok (.getfield 80, 3) := by decide +kernel
theorem dX12_crane_66 : decode cX12_crane 66 = .ok (.aload_n 0, 1) := by decide +kernel
theorem dX12_crane_67 : decode cX12_crane 67 = .ok (.getfield 240, 3) := by decide +kernel
theorem dX12_crane_70 : decode cX12_crane 70 = .ok (.iload_n 1, 1) := by decide +kernel
theorem dX12_crane_71 : decode cX12_crane 71 = .ok (.iastore, 1) := by decide +kernel
theorem dX12_crane_72 : decode cX12_crane 72 = .ok (.aload_n 0, 1) := by decide +kernel
theorem dX12_crane_73 : decode cX12_crane 73 = .ok (.getfield 83, 3) := by decide +kernel
theorem dX12_crane_76 : decode cX12_crane 76 = .ok (.aload_n 0, 1) := by decide +kernel
theorem dX12_crane_77 : decode cX12_crane 77 = .ok (.getfield 240, 3) := by decide +kernel
theorem dX12_crane_80 : decode cX12_crane 80 = .ok (.iload_n 2, 1) := by decide +kernel
theorem dX12_crane_81 : decode cX12_crane 81 = .ok (.iastore, 1) := by decide +kernel
theorem dX12_crane_82 : decode cX12_crane 82 = .ok (.aload_n 0, 1) := by decide +kernel
theorem dX12_crane_83 : decode cX12_crane 83 = .ok (.getfield 86, 3) := by decide +kernel
theorem dX12_crane_86 : decode cX12_crane 86 = .ok (.aload_n 0, 1) := by decide +kernel
theorem dX12_crane_87 : decode cX12_crane 87 = .ok (.getfield 240, 3) := by decide +kernel
theorem dX12_crane_90 : decode cX12_crane 90 = .ok (.iload_n 3, 1) := by decide +kernel
theorem dX12_crane_91 : decode cX12_crane 91 = .ok (.iastore, 1) := by decide +kernel
theorem dX12_crane_92 : decode cX12_crane 92 = .ok (.aload_n 0, 1) := by decide +kernel
theorem dX12_crane_93 : decode cX12_crane 93 = .ok (.getfield 89, 3) := by decide +kernel
theorem dX12_crane_96 : decode cX12_crane 96 = .ok (.aload_n 0, 1) := by decide +kernel
theorem dX12_crane_97 : decode cX12_crane 97 = .ok (.getfield 240, 3) := by decide +kernel
theorem dX12_crane_100 : decode cX12_crane 100 = .ok (.iconst (-1), 1) := by decide +kernel
theorem dX12_crane_101 : decode cX12_crane 101 = .ok (.iastore, 1) := by decide +kernel
theorem dX12_crane_102 : decode cX12_crane 102 = .ok (.aload_n 0, 1) := by decide +kernel
theorem dX12_crane_103 : decode cX12_crane 103 = .ok (.getfield 92, 3) := by decide +kernel
theorem dX12_crane_106 : decode cX12_crane 106 = .ok (.aload_n 0, 1) := by decide +kernel
theorem dX12_crane_107 : decode cX12_crane 107 = .ok (.getfield 240, 3) := by decide +kernel
theorem dX12_crane_110 : decode cX12_crane 110 = .ok (.iconst 0, 1) := by decide +kernel
theorem dX12_crane_111 : decode cX12_crane 111 = .ok (.iastore, 1) := by decide +kernel
theorem dX12_crane_112 : decode cX12_crane 112 = .ok (.aload_n 0, 1) := by decide +kernel
theorem dX12_crane_113 : decode cX12_crane 113 = .ok (.getfield 95, 3) := by decide +kernel
theorem dX12_crane_116 : decode cX12_crane 116 = .ok (.aload_n 0, 1) := by decide +kernel
theorem dX12_crane_117 : decode cX12_crane 117 = .ok (.getfield 240, 3) := by decide +kernel
theorem dX12_crane_120 : decode cX12_crane 120 = .ok (.iconst 0, 1) := by decide +kernel
theorem dX12_crane_121 : decode cX12_crane 121 = .ok (.iastore, 1) := by decide +kernel
theorem dX12_crane_122 : decode cX12_crane 122 = .ok (.aload_n 0, 1) := by decide +kernel
theorem dX12_crane_123 : decode cX12_crane 123 = .ok (.dup, 1) := by decide +kernel
theorem dX12_crane_124 : decode cX12_crane 124 = .ok (.getfield 240, 3) := by decide +kernel
theorem dX12_crane_127 : decode cX12_crane 127 = .ok (.iconst 1, 1) := by decide +kernel
theorem dX12_crane_128 : decode cX12_crane 128 = .ok (.iadd, 1) := by decide +kernel
theorem dX12_crane_129 : decode cX12_crane 129 = .ok (.putfield 240, 3) := by decide +kernel
theorem dX12_crane_132 : decode cX12_crane 132 = .ok (.iload_n 2, 1) := by decide +kernel
theorem dX12_crane_133 : decode cX12_crane 133 = .ok (.bipush (-9), 2) := by decide +kernel
theorem dX12_crane_135 : decode cX12_crane 135 = .ok (.if_icmp .eq 24, 3) := by decide +kernel
theorem dX12_crane_138 : decode cX12_crane 138 = .ok (.aload_n 0, 1) := by decide +kernel
theorem dX12_crane_139 : decode cX12_crane 139 = .ok (.iload_n 2, 1) := by decide +kernel
theorem dX12_crane_140 : decode cX12_crane 140 = .ok (.invokevirtual 326, 3) := by decide +kernel
theorem dX12_crane_143 : decode cX12_crane 143 = .ok (.ifCond .ne 16, 3) := by decide +kernel
theorem dX12_crane_146 : decode cX12_crane 146 = .ok (.aload_n 0, 1) := by decide +kernel
theorem dX12_crane_147 : decode cX12_crane 147 = .ok (.dup, 1) := by decide +kernel
theorem dX12_crane_148 : decode cX12_crane 148 = .ok (.getfield 240, 3) := by decide +kernel
theorem dX12_crane_151 : decode cX12_crane 151 = .ok (.iconst 1, 1) := by decide +kernel
theorem dX12_crane_152 : decode cX12_crane 152 = .ok (.isub, 1) := by decide +kernel
theorem dX12_crane_153 : decode cX12_crane 153 = .ok (.putfield 240, 3) := by decide +kernel
theorem dX12_crane_156 : decode cX12_crane 156 = .ok (.bipush (-47), 2) := by decide +kernel
theorem dX12_crane_158 : decode cX12_crane 158 = .ok (.ireturn, 1) := by decide +kernel
theorem dX12_crane_159 : decode cX12_crane 159 = .ok (.aload_n 0, 1) := by decide +kernel
theorem dX12_crane_160 : decode cX12_crane 160 = .ok (.iconst 0, 1) := by decide +kernel
theorem dX12_crane_161 : decode cX12_crane 161 = .ok (.putfield 255, 3) := by decide +kernel
theorem dX12_crane_164 : decode cX12_crane 164 = .ok (.aload_n 0, 1) := by decide +kernel
theorem dX12_crane_165 : decode cX12_crane 165 = .ok (.getfield 240, 3) := by decide +kernel
theorem dX12_crane_168 : decode cX12_crane 168 = .ok (.iconst 1, 1) := by decide +kernel
theorem dX12_crane_169 : decode cX12_crane 169 = .ok (.isub, 1) := by decide +kernel
theorem dX12_crane_170 : decode cX12_crane 170 = .ok (.ireturn, 1) := by decide +kernel
def M_X12_crane : y_M := (yX12_crane, cX12_crane, 4, (Option.some Jvm.ClassFile.FieldType.int))
theorem n_X12_crane : y_N0 M_X12_crane 3 := ⟨(c_9 26 (by decide +kernel) rfl), (c_1 9 (by decide +kernel) rfl), ⟨by decide +kernel, by decide +kernel⟩, by decide +kernel⟩
theorem F_BoxYardModel_89 : y_F "BoxYardModel" 89 12 29 := ⟨_, _, _, rfl, by decide, Or.inl (c_7 151 (by decide +kernel) rfl)⟩
theorem F_BoxYardModel_92 : y_F "BoxYardModel" 92 12 30 := ⟨_, _, _, rfl, by decide, Or.inl (c_7 152 (by decide +kernel) rfl)⟩
theorem F_BoxYardModel_95 : y_F "BoxYardModel" 95 12 31 := ⟨_, _, _, rfl, by decide, Or.inl (c_7 153 (by decide +kernel) rfl)⟩
set_option maxRecDepth 100000 in
def f_X12_crane (p0 : Nat) (p1 : Int32) (p2 : Int32) (p3 : Int32) (h : y_H) : Option (Int32 × y_H) :=
  y_cl (f_X12_in p1 0 4 h) (fun r1 h2 =>
  if r1 = true then
    y_jn (fun (v0_37 : Nat) (v1_37 : Int32) (v2_37 : Int32) (v3_37 : Int32) (h4 : y_H) => (
        y_cl (f_X12_in v3_37 0 9 h4) (fun r5 h6 =>
        if r5 = true then
          if y_K h6 v0_37 = 13 then
          if (y_I h6 v0_37 25) = 12 then
            some ((-4 : Int32), h6)
          else
            if y_K h6 v0_37 = 13 then
            if y_K h6 v0_37 = 13 then
            if y_K h6 (y_P h6 v0_37 26) = 100 ∧ y_ix (y_I h6 v0_37 25) (y_N h6 (y_P h6 v0_37 26)) = true then
            y_bd (s_I h6 (y_P h6 v0_37 26) (Int32.toNatClampNeg (y_I h6 v0_37 25)) v1_37) (fun h8 =>
            if y_K h8 v0_37 = 13 then
            if y_K h8 v0_37 = 13 then
            if y_K h8 (y_P h8 v0_37 27) = 100 ∧ y_ix (y_I h8 v0_37 25) (y_N h8 (y_P h8 v0_37 27)) = true then
            y_bd (s_I h8 (y_P h8 v0_37 27) (Int32.toNatClampNeg (y_I h8 v0_37 25)) v2_37) (fun h11 =>
            if y_K h11 v0_37 = 13 then
            if y_K h11 v0_37 = 13 then
            if y_K h11 (y_P h11 v0_37 28) = 100 ∧ y_ix (y_I h11 v0_37 25) (y_N h11 (y_P h11 v0_37 28)) = true then
            y_bd (s_I h11 (y_P h11 v0_37 28) (Int32.toNatClampNeg (y_I h11 v0_37 25)) v3_37) (fun h14 =>
            if y_K h14 v0_37 = 13 then
            if y_K h14 v0_37 = 13 then
            if y_K h14 (y_P h14 v0_37 29) = 100 ∧ y_ix (y_I h14 v0_37 25) (y_N h14 (y_P h14 v0_37 29)) = true then
            y_bd (s_I h14 (y_P h14 v0_37 29) (Int32.toNatClampNeg (y_I h14 v0_37 25)) (-1 : Int32)) (fun h17 =>
            if y_K h17 v0_37 = 13 then
            if y_K h17 v0_37 = 13 then
            if y_K h17 (y_P h17 v0_37 30) = 100 ∧ y_ix (y_I h17 v0_37 25) (y_N h17 (y_P h17 v0_37 30)) = true then
            y_bd (s_I h17 (y_P h17 v0_37 30) (Int32.toNatClampNeg (y_I h17 v0_37 25)) 0) (fun h20 =>
            if y_K h20 v0_37 = 13 then
            if y_K h20 v0_37 = 13 then
            if y_K h20 (y_P h20 v0_37 31) = 100 ∧ y_ix (y_I h20 v0_37 25) (y_N h20 (y_P h20 v0_37 31)) = true then
            y_bd (s_I h20 (y_P h20 v0_37 31) (Int32.toNatClampNeg (y_I h20 v0_37 25)) 0) (fun h23 =>
            if y_K h23 v0_37 = 13 then
            if y_K h23 v0_37 = 13 then
            y_bd (s_I h23 v0_37 25 ((y_I h23 v0_37 25) + 1)) (fun h26 =>
            y_jn (fun (v0_159 : Nat) (h29 : y_H) => (
                if y_K h29 v0_159 = 13 then
                y_bd (s_I h29 v0_159 50 0) (fun h30 =>
                if y_K h30 v0_159 = 13 then
                some ((y_I h30 v0_159 25) - 1, h30)
                else none)
                else none : Option (Int32 × y_H))) (fun j159 =>
            if v2_37 = (-9 : Int32) then
              j159 v0_37 h26
            else
              if y_K h26 v0_37 = 13 then
              y_cl (f_X12_isWell v0_37 v2_37 h26) (fun r34 h35 =>
              if r34 = true then
                j159 v0_37 h35
              else
                if y_K h35 v0_37 = 13 then
                if y_K h35 v0_37 = 13 then
                y_bd (s_I h35 v0_37 25 ((y_I h35 v0_37 25) - 1)) (fun h37 =>
                some ((-47 : Int32), h37))
                else none
                else none)
              else none))
            else none
            else none)
            else none
            else none
            else none)
            else none
            else none
            else none)
            else none
            else none
            else none)
            else none
            else none
            else none)
            else none
            else none
            else none)
            else none
            else none
            else none
          else none
        else
          some ((-2 : Int32), h6)) : Option (Int32 × y_H))) (fun j37 =>
    y_jn (fun (h60 : y_H) => (
        some ((-1 : Int32), h60) : Option (Int32 × y_H))) (fun j35 =>
    if 3 ≤ p1 then
      if p2 = (-9 : Int32) then
        j37 p0 p1 p2 p3 h2
      else
        j35 h2
    else
      y_cl (f_X12_in p2 0 2 h2) (fun r62 h63 =>
      if r62 = true then
        j37 p0 p1 p2 p3 h63
      else
        j35 h63)))
  else
    some ((-2 : Int32), h2))
abbrev rm_X12_crane : Room := { frames := 1, cells := 0, slots := 0, locals := 24 }
set_option maxRecDepth 100000 in
set_option maxHeartbeats 4000000 in
theorem k_X12_crane {l : Launch} {G : y_G} {p0 : Nat} {p1 : Int32} {p2 : Int32} {p3 : Int32} {h hz : y_H} {rz : Int32} (hf : f_X12_crane p0 p1 p2 p3 h = some (rz, hz)) : y_S l G M_X12_crane rm_X12_crane [y_p p0, .int p1, .int p2, .int p3] h (some (.int rz)) hz := by
  refine y_start (lv := [(0, y_p p0), (1, .int p1), (2, .int p2), (3, .int p3)]) (by decide) (by simp [lg_sl, y_p_cat, y_ci, y_cj, M_X12_crane]) (by simp [lv_args, y_p_cat, y_ci, y_cj]) (fun z ad0 => ?_)
  unfold f_X12_crane at hf
  refine y_iload_n (pc2 := 1) rfl dX12_crane_0 rfl ?_
  refine y_iconst (v := 0) (pc2 := 2) rfl dX12_crane_1 (by decide) ?_
  refine y_iconst (v := 4) (pc2 := 3) rfl dX12_crane_2 (by decide) ?_
  obtain ⟨r1, h2, c3, hf⟩ := y_clE hf
  refine y_callS (As := [.int p1, .int 0, .int 4]) (rm := rm_X12_in) (cells := 0) (slots := 0) (pc2 := 6) rfl dX12_crane_3 n_X12_in l_BoxYardModel_278 t_X12_in rfl rfl (by decide) (by decide) (by decide) (k_X12_in c3) ?_
  refine y_ifz_ne (tgt := 12) (pc2 := 9) rfl dX12_crane_6 (by decide) (fun c67 => ?_) (fun c67 => ?_)
  · replace hf := y_it c67 hf
    refine y_iload_n (pc2 := 13) rfl dX12_crane_12 rfl ?_
    refine y_iconst (v := 3) (pc2 := 14) rfl dX12_crane_13 (by decide) ?_
    refine y_jnE hf (fun j => ∀ (v0_37 : Nat) (v1_37 : Int32) (v2_37 : Int32) (v3_37 : Int32) (h4 : y_H), j v0_37 v1_37 v2_37 v3_37 h4 = some (rz, hz) → y_V l G z rm_X12_crane M_X12_crane ad0 h (some (.int rz)) hz 37 [(0, y_p v0_37), (1, .int v1_37), (2, .int v2_37), (3, .int v3_37)] [] h4 0 0) (fun v0_37 v1_37 v2_37 v3_37 h4 hf => ?_) (fun j37 hj37 hf => ?_)
    · refine y_iload_n (pc2 := 38) rfl dX12_crane_37 rfl ?_
      refine y_iconst (v := 0) (pc2 := 39) rfl dX12_crane_38 (by decide) ?_
      refine y_bipush (v := 9) (pc2 := 41) rfl dX12_crane_39 (by decide) ?_
      obtain ⟨r5, h6, c7, hf⟩ := y_clE hf
      refine y_callS (As := [.int v3_37, .int 0, .int 9]) (rm := rm_X12_in) (cells := 0) (slots := 0) (pc2 := 44) rfl dX12_crane_41 n_X12_in l_BoxYardModel_278 t_X12_in rfl rfl (by decide) (by decide) (by decide) (k_X12_in c7) ?_
      refine y_ifz_ne (tgt := 50) (pc2 := 47) rfl dX12_crane_44 (by decide) (fun c59 => ?_) (fun c59 => ?_)
      · replace hf := y_it c59 hf
        refine y_aload_n (x := v0_37) (pc2 := 51) rfl dX12_crane_50 rfl ?_
        obtain ⟨g58, hf⟩ := y_g hf
        refine y_getI (pc2 := 54) rfl dX12_crane_51 F_BoxYardModel_240 (by decide) rfl g58 ?_
        refine y_bipush (v := 12) (pc2 := 56) rfl dX12_crane_54 (by decide) ?_
        refine y_icmp_ne (tgt := 62) (pc2 := 59) rfl dX12_crane_56 (by decide) (fun c57 => ?_) (fun c57 => ?_)
        · replace hf := y_ie c57 hf
          refine y_aload_n (x := v0_37) (pc2 := 63) rfl dX12_crane_62 rfl ?_
          obtain ⟨g56, hf⟩ := y_g hf
          refine y_getP (pc2 := 66) rfl dX12_crane_63 F_BoxYardModel_80 (by decide) rfl g56 ?_
          refine y_aload_n (x := v0_37) (pc2 := 67) rfl dX12_crane_66 rfl ?_
          obtain ⟨g55, hf⟩ := y_g hf
          refine y_getI (pc2 := 70) rfl dX12_crane_67 F_BoxYardModel_240 (by decide) rfl g55 ?_
          refine y_iload_n (pc2 := 71) rfl dX12_crane_70 rfl ?_
          obtain ⟨g10, hf⟩ := y_g hf
          obtain ⟨h8, e9, hf⟩ := y_bdE hf
          refine y_iast (x := v1_37) (pc2 := 72) rfl dX12_crane_71 g10.1 (y_ix_in g10.2) e9 ?_
          refine y_aload_n (x := v0_37) (pc2 := 73) rfl dX12_crane_72 rfl ?_
          obtain ⟨g54, hf⟩ := y_g hf
          refine y_getP (pc2 := 76) rfl dX12_crane_73 F_BoxYardModel_83 (by decide) rfl g54 ?_
          refine y_aload_n (x := v0_37) (pc2 := 77) rfl dX12_crane_76 rfl ?_
          obtain ⟨g53, hf⟩ := y_g hf
          refine y_getI (pc2 := 80) rfl dX12_crane_77 F_BoxYardModel_240 (by decide) rfl g53 ?_
          refine y_iload_n (pc2 := 81) rfl dX12_crane_80 rfl ?_
          obtain ⟨g13, hf⟩ := y_g hf
          obtain ⟨h11, e12, hf⟩ := y_bdE hf
          refine y_iast (x := v2_37) (pc2 := 82) rfl dX12_crane_81 g13.1 (y_ix_in g13.2) e12 ?_
          refine y_aload_n (x := v0_37) (pc2 := 83) rfl dX12_crane_82 rfl ?_
          obtain ⟨g52, hf⟩ := y_g hf
          refine y_getP (pc2 := 86) rfl dX12_crane_83 F_BoxYardModel_86 (by decide) rfl g52 ?_
          refine y_aload_n (x := v0_37) (pc2 := 87) rfl dX12_crane_86 rfl ?_
          obtain ⟨g51, hf⟩ := y_g hf
          refine y_getI (pc2 := 90) rfl dX12_crane_87 F_BoxYardModel_240 (by decide) rfl g51 ?_
          refine y_iload_n (pc2 := 91) rfl dX12_crane_90 rfl ?_
          obtain ⟨g16, hf⟩ := y_g hf
          obtain ⟨h14, e15, hf⟩ := y_bdE hf
          refine y_iast (x := v3_37) (pc2 := 92) rfl dX12_crane_91 g16.1 (y_ix_in g16.2) e15 ?_
          refine y_aload_n (x := v0_37) (pc2 := 93) rfl dX12_crane_92 rfl ?_
          obtain ⟨g50, hf⟩ := y_g hf
          refine y_getP (pc2 := 96) rfl dX12_crane_93 F_BoxYardModel_89 (by decide) rfl g50 ?_
          refine y_aload_n (x := v0_37) (pc2 := 97) rfl dX12_crane_96 rfl ?_
          obtain ⟨g49, hf⟩ := y_g hf
          refine y_getI (pc2 := 100) rfl dX12_crane_97 F_BoxYardModel_240 (by decide) rfl g49 ?_
          refine y_iconst (v := (-1 : Int32)) (pc2 := 101) rfl dX12_crane_100 (by decide) ?_
          obtain ⟨g19, hf⟩ := y_g hf
          obtain ⟨h17, e18, hf⟩ := y_bdE hf
          refine y_iast (x := (-1 : Int32)) (pc2 := 102) rfl dX12_crane_101 g19.1 (y_ix_in g19.2) e18 ?_
          refine y_aload_n (x := v0_37) (pc2 := 103) rfl dX12_crane_102 rfl ?_
          obtain ⟨g48, hf⟩ := y_g hf
          refine y_getP (pc2 := 106) rfl dX12_crane_103 F_BoxYardModel_92 (by decide) rfl g48 ?_
          refine y_aload_n (x := v0_37) (pc2 := 107) rfl dX12_crane_106 rfl ?_
          obtain ⟨g47, hf⟩ := y_g hf
          refine y_getI (pc2 := 110) rfl dX12_crane_107 F_BoxYardModel_240 (by decide) rfl g47 ?_
          refine y_iconst (v := 0) (pc2 := 111) rfl dX12_crane_110 (by decide) ?_
          obtain ⟨g22, hf⟩ := y_g hf
          obtain ⟨h20, e21, hf⟩ := y_bdE hf
          refine y_iast (x := 0) (pc2 := 112) rfl dX12_crane_111 g22.1 (y_ix_in g22.2) e21 ?_
          refine y_aload_n (x := v0_37) (pc2 := 113) rfl dX12_crane_112 rfl ?_
          obtain ⟨g46, hf⟩ := y_g hf
          refine y_getP (pc2 := 116) rfl dX12_crane_113 F_BoxYardModel_95 (by decide) rfl g46 ?_
          refine y_aload_n (x := v0_37) (pc2 := 117) rfl dX12_crane_116 rfl ?_
          obtain ⟨g45, hf⟩ := y_g hf
          refine y_getI (pc2 := 120) rfl dX12_crane_117 F_BoxYardModel_240 (by decide) rfl g45 ?_
          refine y_iconst (v := 0) (pc2 := 121) rfl dX12_crane_120 (by decide) ?_
          obtain ⟨g25, hf⟩ := y_g hf
          obtain ⟨h23, e24, hf⟩ := y_bdE hf
          refine y_iast (x := 0) (pc2 := 122) rfl dX12_crane_121 g25.1 (y_ix_in g25.2) e24 ?_
          refine y_aload_n (x := v0_37) (pc2 := 123) rfl dX12_crane_122 rfl ?_
          refine y_dup (pc2 := 124) rfl dX12_crane_123 (y_p_cat _) ?_
          obtain ⟨g44, hf⟩ := y_g hf
          refine y_getI (pc2 := 127) rfl dX12_crane_124 F_BoxYardModel_240 (by decide) rfl g44 ?_
          refine y_iconst (v := 1) (pc2 := 128) rfl dX12_crane_127 (by decide) ?_
          refine y_iadd (pc2 := 129) rfl dX12_crane_128 ?_
          obtain ⟨g28, hf⟩ := y_g hf
          obtain ⟨h26, e27, hf⟩ := y_bdE hf
          refine y_putI (x := (y_I h23 v0_37 25) + 1) (pc2 := 132) rfl dX12_crane_129 Fp_BoxYardModel_240 (by decide) rfl g28 e27 ?_
          refine y_iload_n (pc2 := 133) rfl dX12_crane_132 rfl ?_
          refine y_bipush (v := (-9 : Int32)) (pc2 := 135) rfl dX12_crane_133 (by decide) ?_
          refine y_jnE hf (fun j => ∀ (v0_159 : Nat) (h29 : y_H), j v0_159 h29 = some (rz, hz) → y_V l G z rm_X12_crane M_X12_crane ad0 h (some (.int rz)) hz 159 [(0, y_p v0_159)] [] h29 0 0) (fun v0_159 h29 hf => ?_) (fun j159 hj159 hf => ?_)
          · refine y_aload_n (x := v0_159) (pc2 := 160) rfl dX12_crane_159 rfl ?_
            refine y_iconst (v := 0) (pc2 := 161) rfl dX12_crane_160 (by decide) ?_
            obtain ⟨g32, hf⟩ := y_g hf
            obtain ⟨h30, e31, hf⟩ := y_bdE hf
            refine y_putI (x := 0) (pc2 := 164) rfl dX12_crane_161 Fp_BoxYardModel_255 (by decide) rfl g32 e31 ?_
            refine y_aload_n (x := v0_159) (pc2 := 165) rfl dX12_crane_164 rfl ?_
            obtain ⟨g33, hf⟩ := y_g hf
            refine y_getI (pc2 := 168) rfl dX12_crane_165 F_BoxYardModel_240 (by decide) rfl g33 ?_
            refine y_iconst (v := 1) (pc2 := 169) rfl dX12_crane_168 (by decide) ?_
            refine y_isub (pc2 := 170) rfl dX12_crane_169 ?_
            exact y_iretF hf dX12_crane_170 rfl (by decide) (by decide)
          · refine y_icmp_eq (tgt := 159) (pc2 := 138) rfl dX12_crane_135 (by decide) (fun c43 => ?_) (fun c43 => ?_)
            · replace hf := y_it c43 hf
              exact y_pk [0] rfl (hj159 _ _ hf)
            · replace hf := y_ie c43 hf
              refine y_aload_n (x := v0_37) (pc2 := 139) rfl dX12_crane_138 rfl ?_
              refine y_iload_n (pc2 := 140) rfl dX12_crane_139 rfl ?_
              obtain ⟨g42, hf⟩ := y_g hf
              obtain ⟨r34, h35, c36, hf⟩ := y_clE hf
              refine y_callV (As := [.int v2_37]) (rm := rm_X12_isWell) (cells := 0) (slots := 0) (pc2 := 143) rfl dX12_crane_140 n_X12_isWell l_BoxYardModel_326 i_X12_isWell e_X12_isWell (ci := 12) rfl rfl (by decide) g42 rfl rfl (by decide) (by decide) (by decide) (k_X12_isWell c36) ?_
              refine y_ifz_ne (tgt := 159) (pc2 := 146) rfl dX12_crane_143 (by decide) (fun c41 => ?_) (fun c41 => ?_)
              · replace hf := y_it c41 hf
                exact y_pk [0] rfl (hj159 _ _ hf)
              · replace hf := y_ie c41 hf
                refine y_aload_n (x := v0_37) (pc2 := 147) rfl dX12_crane_146 rfl ?_
                refine y_dup (pc2 := 148) rfl dX12_crane_147 (y_p_cat _) ?_
                obtain ⟨g40, hf⟩ := y_g hf
                refine y_getI (pc2 := 151) rfl dX12_crane_148 F_BoxYardModel_240 (by decide) rfl g40 ?_
                refine y_iconst (v := 1) (pc2 := 152) rfl dX12_crane_151 (by decide) ?_
                refine y_isub (pc2 := 153) rfl dX12_crane_152 ?_
                obtain ⟨g39, hf⟩ := y_g hf
                obtain ⟨h37, e38, hf⟩ := y_bdE hf
                refine y_putI (x := (y_I h35 v0_37 25) - 1) (pc2 := 156) rfl dX12_crane_153 Fp_BoxYardModel_240 (by decide) rfl g39 e38 ?_
                refine y_bipush (v := (-47 : Int32)) (pc2 := 158) rfl dX12_crane_156 (by decide) ?_
                exact y_iretF hf dX12_crane_158 rfl (by decide) (by decide)
        · replace hf := y_it c57 hf
          refine y_bipush (v := (-4 : Int32)) (pc2 := 61) rfl dX12_crane_59 (by decide) ?_
          exact y_iretF hf dX12_crane_61 rfl (by decide) (by decide)
      · replace hf := y_ie c59 hf
        refine y_bipush (v := (-2 : Int32)) (pc2 := 49) rfl dX12_crane_47 (by decide) ?_
        exact y_iretF hf dX12_crane_49 rfl (by decide) (by decide)
    · refine y_jnE hf (fun j => ∀ (h60 : y_H), j h60 = some (rz, hz) → y_V l G z rm_X12_crane M_X12_crane ad0 h (some (.int rz)) hz 35 [] [] h60 0 0) (fun h60 hf => ?_) (fun j35 hj35 hf => ?_)
      · refine y_iconst (v := (-1 : Int32)) (pc2 := 36) rfl dX12_crane_35 (by decide) ?_
        exact y_iretF hf dX12_crane_36 rfl (by decide) (by decide)
      · refine y_icmp_ge (tgt := 29) (pc2 := 17) rfl dX12_crane_14 (by decide) (fun c66 => ?_) (fun c66 => ?_)
        · replace hf := y_it c66 hf
          refine y_iload_n (pc2 := 30) rfl dX12_crane_29 rfl ?_
          refine y_bipush (v := (-9 : Int32)) (pc2 := 32) rfl dX12_crane_30 (by decide) ?_
          refine y_icmp_eq (tgt := 37) (pc2 := 35) rfl dX12_crane_32 (by decide) (fun c61 => ?_) (fun c61 => ?_)
          · replace hf := y_it c61 hf
            exact y_pk [0, 1, 2, 3] rfl (hj37 _ _ _ _ _ hf)
          · replace hf := y_ie c61 hf
            exact y_pk [] rfl (hj35 _ hf)
        · replace hf := y_ie c66 hf
          refine y_iload_n (pc2 := 18) rfl dX12_crane_17 rfl ?_
          refine y_iconst (v := 0) (pc2 := 19) rfl dX12_crane_18 (by decide) ?_
          refine y_iconst (v := 2) (pc2 := 20) rfl dX12_crane_19 (by decide) ?_
          obtain ⟨r62, h63, c64, hf⟩ := y_clE hf
          refine y_callS (As := [.int p2, .int 0, .int 2]) (rm := rm_X12_in) (cells := 0) (slots := 0) (pc2 := 23) rfl dX12_crane_20 n_X12_in l_BoxYardModel_278 t_X12_in rfl rfl (by decide) (by decide) (by decide) (k_X12_in c64) ?_
          refine y_ifz_ne (tgt := 37) (pc2 := 26) rfl dX12_crane_23 (by decide) (fun c65 => ?_) (fun c65 => ?_)
          · replace hf := y_it c65 hf
            exact y_pk [0, 1, 2, 3] rfl (hj37 _ _ _ _ _ hf)
          · replace hf := y_ie c65 hf
            refine y_goto (tgt := 35) dX12_crane_26 (by decide) ?_
            exact y_pk [] rfl (hj35 _ hf)
  · replace hf := y_ie c67 hf
    refine y_bipush (v := (-2 : Int32)) (pc2 := 11) rfl dX12_crane_9 (by decide) ?_
    exact y_iretF hf dX12_crane_11 rfl (by decide) (by decide)
theorem dX12_wind_0 : decode cX12_wind 0 = .ok (.iload_n 1, 1) := by decide +kernel
theorem dX12_wind_1 : decode cX12_wind 1 = .ok (.iconst 0, 1) := by decide +kernel
theorem dX12_wind_2 : decode cX12_wind 2 = .ok (.bipush 60, 2) := by decide +kernel
theorem dX12_wind_4 : decode cX12_wind 4 = .ok (.invokestatic 278, 3) := by decide +kernel
theorem dX12_wind_7 : decode cX12_wind 7 = .ok (.ifCond .ne 6, 3) := by decide +kernel
theorem dX12_wind_10 : decode cX12_wind 10 = .ok (.bipush (-2), 2) := by decide +kernel
theorem dX12_wind_12 : decode cX12_wind 12 = .ok (.ireturn, 1) := by decide +kernel
theorem dX12_wind_13 : decode cX12_wind 13 = .ok (.aload_n 0, 1) := by decide +kernel
theorem dX12_wind_14 : decode cX12_wind 14 = .ok (.getfield 243, 3) := by decide +kernel
theorem dX12_wind_17 : decode cX12_wind 17 = .ok (.istore_n 2, 1) := by decide +kernel
theorem dX12_wind_18 : decode cX12_wind 18 = .ok (.aload_n 0, 1) := by decide +kernel
theorem dX12_wind_19 : decode cX12_wind 19 = .ok (.iload_n 1, 1) := by decide +kernel
theorem dX12_wind_20 : decode cX12_wind 20 = .ok (.putfield 243, 3) := by decide +kernel
theorem dX12_wind_23 : decode cX12_wind 23 = .ok (.iload_n 2, 1) := by decide +kernel
theorem dX12_wind_24 : decode cX12_wind 24 = .ok (.ireturn, 1) := by decide +kernel
def M_X12_wind : y_M := (yX12_wind, cX12_wind, 3, (Option.some Jvm.ClassFile.FieldType.int))
theorem n_X12_wind : y_N0 M_X12_wind 1 := ⟨(c_9 30 (by decide +kernel) rfl), (c_1 9 (by decide +kernel) rfl), ⟨by decide +kernel, by decide +kernel⟩, by decide +kernel⟩
theorem F_BoxYardModel_243 : y_F "BoxYardModel" 243 12 33 := ⟨_, _, _, rfl, by decide, Or.inl (c_7 155 (by decide +kernel) rfl)⟩
set_option maxRecDepth 100000 in
def f_X12_wind (p0 : Nat) (p1 : Int32) (h : y_H) : Option (Int32 × y_H) :=
  y_cl (f_X12_in p1 0 60 h) (fun r1 h2 =>
  if r1 = true then
    if y_K h2 p0 = 13 then
    if y_K h2 p0 = 13 then
    y_bd (s_I h2 p0 33 p1) (fun h4 =>
    some (y_I h2 p0 33, h4))
    else none
    else none
  else
    some ((-2 : Int32), h2))
abbrev rm_X12_wind : Room := { frames := 1, cells := 0, slots := 0, locals := 22 }
set_option maxRecDepth 100000 in
set_option maxHeartbeats 4000000 in
theorem k_X12_wind {l : Launch} {G : y_G} {p0 : Nat} {p1 : Int32} {h hz : y_H} {rz : Int32} (hf : f_X12_wind p0 p1 h = some (rz, hz)) : y_S l G M_X12_wind rm_X12_wind [y_p p0, .int p1] h (some (.int rz)) hz := by
  refine y_start (lv := [(0, y_p p0), (1, .int p1)]) (by decide) (by simp [lg_sl, y_p_cat, y_ci, y_cj, M_X12_wind]) (by simp [lv_args, y_p_cat, y_ci, y_cj]) (fun z ad0 => ?_)
  unfold f_X12_wind at hf
  refine y_iload_n (pc2 := 1) rfl dX12_wind_0 rfl ?_
  refine y_iconst (v := 0) (pc2 := 2) rfl dX12_wind_1 (by decide) ?_
  refine y_bipush (v := 60) (pc2 := 4) rfl dX12_wind_2 (by decide) ?_
  obtain ⟨r1, h2, c3, hf⟩ := y_clE hf
  refine y_callS (As := [.int p1, .int 0, .int 60]) (rm := rm_X12_in) (cells := 0) (slots := 0) (pc2 := 7) rfl dX12_wind_4 n_X12_in l_BoxYardModel_278 t_X12_in rfl rfl (by decide) (by decide) (by decide) (k_X12_in c3) ?_
  refine y_ifz_ne (tgt := 13) (pc2 := 10) rfl dX12_wind_7 (by decide) (fun c8 => ?_) (fun c8 => ?_)
  · replace hf := y_it c8 hf
    refine y_aload_n (x := p0) (pc2 := 14) rfl dX12_wind_13 rfl ?_
    obtain ⟨g7, hf⟩ := y_g hf
    refine y_getI (pc2 := 17) rfl dX12_wind_14 F_BoxYardModel_243 (by decide) rfl g7 ?_
    refine y_istore_n (lv' := [(2, .int (y_I h2 p0 33)), (0, y_p p0), (1, .int p1)]) (pc2 := 18) rfl dX12_wind_17 (by decide) rfl ?_
    refine y_aload_n (x := p0) (pc2 := 19) rfl dX12_wind_18 rfl ?_
    refine y_iload_n (pc2 := 20) rfl dX12_wind_19 rfl ?_
    obtain ⟨g6, hf⟩ := y_g hf
    obtain ⟨h4, e5, hf⟩ := y_bdE hf
    refine y_putI (x := p1) (pc2 := 23) rfl dX12_wind_20 Fp_BoxYardModel_243 (by decide) rfl g6 e5 ?_
    refine y_iload_n (pc2 := 24) rfl dX12_wind_23 rfl ?_
    exact y_iretF hf dX12_wind_24 rfl (by decide) (by decide)
  · replace hf := y_ie c8 hf
    refine y_bipush (v := (-2 : Int32)) (pc2 := 12) rfl dX12_wind_10 (by decide) ?_
    exact y_iretF hf dX12_wind_12 rfl (by decide) (by decide)
theorem dX12_engine_0 : decode cX12_engine 0 = .ok (.aload_n 0, 1) := by decide +kernel
theorem dX12_engine_1 : decode cX12_engine 1 = .ok (.iconst 0, 1) := by decide +kernel
theorem dX12_engine_2 : decode cX12_engine 2 = .ok (.putfield 249, 3) := by decide +kernel
theorem dX12_engine_5 : decode cX12_engine 5 = .ok (.aload_n 0, 1) := by decide +kernel
theorem dX12_engine_6 : decode cX12_engine 6 = .ok (.iload_n 1, 1) := by decide +kernel
theorem dX12_engine_7 : decode cX12_engine 7 = .ok (.invokevirtual 329, 3) := by decide +kernel
theorem dX12_engine_10 : decode cX12_engine 10 = .ok (.ifCond .ne 5, 3) := by decide +kernel
theorem dX12_engine_13 : decode cX12_engine 13 = .ok (.iconst (-1), 1) := by decide +kernel
theorem dX12_engine_14 : decode cX12_engine 14 = .ok (.ireturn, 1) := by decide +kernel
theorem dX12_engine_15 : decode cX12_engine 15 = .ok (.iload_n 2, 1) := by decide +kernel
theorem dX12_engine_16 : decode cX12_engine 16 = .ok (.iconst 0, 1) := by decide +kernel
theorem dX12_engine_17 : decode cX12_engine 17 = .ok (.iconst 2, 1) := by decide +kernel
theorem dX12_engine_18 : decode cX12_engine 18 = .ok (.invokestatic 278, 3) := by decide +kernel
theorem dX12_engine_21 : decode cX12_engine 21 = .ok (.ifCond .ne 6, 3) := by decide +kernel
theorem dX12_engine_24 : decode cX12_engine 24 = .ok (.bipush (-2), 2) := by decide +kernel
theorem dX12_engine_26 : decode cX12_engine 26 = .ok (.ireturn, 1) := by decide +kernel
theorem dX12_engine_27 : decode cX12_engine 27 = .ok (.iload_n 2, 1) := by decide +kernel
theorem dX12_engine_28 : decode cX12_engine 28 = .ok (.iconst 2, 1) := by decide +kernel
theorem dX12_engine_29 : decode cX12_engine 29 = .ok (.if_icmp .ne 43, 3) := by decide +kernel
theorem dX12_engine_32 : decode cX12_engine 32 = .ok (.aload_n 0, 1) := by decide +kernel
theorem dX12_engine_33 : decode cX12_engine 33 = .ok (.getfield 80, 3) := by decide +kernel
theorem dX12_engine_36 : decode cX12_engine 36 = .ok (.iload_n 1, 1) := by decide +kernel
theorem dX12_engine_37 : decode cX12_engine 37 = .ok (.iaload, 1) := by decide +kernel
theorem dX12_engine_38 : decode cX12_engine 38 = .ok (.iconst 1, 1) := by decide +kernel
theorem dX12_engine_39 : decode cX12_engine 39 = .ok (.if_icmp .eq 11, 3) := by decide +kernel
theorem dX12_engine_42 : decode cX12_engine 42 = .ok (.aload_n 0, 1) := by decide +kernel
theorem dX12_engine_43 : decode cX12_engine 43 = .ok (.iconst 5, 1) := by decide +kernel
theorem dX12_engine_44 : decode cX12_engine 44 = .ok (.invokevirtual 301, 3) := by decide +kernel
theorem dX12_engine_47 : decode cX12_engine 47 = .ok (.goto 24, 3) := by decide +kernel
theorem dX12_engine_50 : decode cX12_engine 50 = .ok (.aload_n 0, 1) := by decide +kernel
theorem dX12_engine_51 : decode cX12_engine 51 = .ok (.getfield 246, 3) := by decide +kernel
theorem dX12_engine_54 : decode cX12_engine 54 = .ok (.ifCond .ne 11, 3) := by decide +kernel
theorem dX12_engine_57 : decode cX12_engine 57 = .ok (.aload_n 0, 1) := by decide +kernel
theorem dX12_engine_58 : decode cX12_engine 58 = .ok (.iconst 3, 1) := by decide +kernel
theorem dX12_engine_59 : decode cX12_engine 59 = .ok (.invokevirtual 301, 3) := by decide +kernel
theorem dX12_engine_62 : decode cX12_engine 62 = .ok (.goto 9, 3) := by decide +kernel
theorem dX12_engine_65 : decode cX12_engine 65 = .ok (.aload_n 0, 1) := by decide +kernel
theorem dX12_engine_66 : decode cX12_engine 66 = .ok (.getfield 110, 3) := by decide +kernel
theorem dX12_engine_69 : decode cX12_engine 69 = .ok (.iconst 0, 1) := by decide +kernel
theorem dX12_engine_70 : decode cX12_engine 70 = .ok (.iaload, 1) := by decide +kernel
theorem dX12_engine_71 : decode cX12_engine 71 = .ok (.ireturn, 1) := by decide +kernel
theorem dX12_engine_72 : decode cX12_engine 72 = .ok (.iload_n 2, 1) := by decide +kernel
theorem dX12_engine_73 : decode cX12_engine 73 = .ok (.ifCond .ne 11, 3) := by decide +kernel
theorem dX12_engine_76 : decode cX12_engine 76 = .ok (.aload_n 0, 1) := by decide +kernel
theorem dX12_engine_77 : decode cX12_engine 77 = .ok (.iload_n 1, 1) := by decide +kernel
theorem dX12_engine_78 : decode cX12_engine 78 = .ok (.invokevirtual 332, 3) := by decide +kernel
theorem dX12_engine_81 : decode cX12_engine 81 = .ok (.goto 8, 3) := by decide +kernel
theorem dX12_engine_84 : decode cX12_engine 84 = .ok (.aload_n 0, 1) := by decide +kernel
theorem dX12_engine_85 : decode cX12_engine 85 = .ok (.iload_n 1, 1) := by decide +kernel
theorem dX12_engine_86 : decode cX12_engine 86 = .ok (.invokevirtual 335, 3) := by decide +kernel
theorem dX12_engine_89 : decode cX12_engine 89 = .ok (.ireturn, 1) := by decide +kernel
def M_X12_engine : y_M := (yX12_engine, cX12_engine, 3, (Option.some Jvm.ClassFile.FieldType.int))
theorem n_X12_engine : y_N0 M_X12_engine 2 := ⟨(c_9 34 (by decide +kernel) rfl), (c_1 9 (by decide +kernel) rfl), ⟨by decide +kernel, by decide +kernel⟩, by decide +kernel⟩
theorem l_BoxYardModel_329 : y_lnk "BoxYardModel" 329 M_X12_isCrane := Or.inl (c_9 35 (by decide +kernel) rfl)
theorem i_X12_isCrane : Cond.instanceMethod (M_X12_isCrane).1 ∈ y_tb := (c_9 37 (by decide +kernel) rfl)
theorem e_X12_isCrane : Cond.selects (M_X12_isCrane).1.cls (M_X12_isCrane).1 (M_X12_isCrane).1 ∈ y_tb := (m_s 71 (by decide +kernel) rfl)
theorem l_BoxYardModel_335 : y_lnk "BoxYardModel" 335 M_X12_stop := Or.inl (c_9 43 (by decide +kernel) rfl)
theorem i_X12_stop : Cond.instanceMethod (M_X12_stop).1 ∈ y_tb := (c_9 45 (by decide +kernel) rfl)
theorem e_X12_stop : Cond.selects (M_X12_stop).1.cls (M_X12_stop).1 (M_X12_stop).1 ∈ y_tb := (m_s 73 (by decide +kernel) rfl)
theorem l_BoxYardModel_332 : y_lnk "BoxYardModel" 332 M_X12_loadOf := Or.inl (c_9 39 (by decide +kernel) rfl)
theorem i_X12_loadOf : Cond.instanceMethod (M_X12_loadOf).1 ∈ y_tb := (c_9 41 (by decide +kernel) rfl)
theorem e_X12_loadOf : Cond.selects (M_X12_loadOf).1.cls (M_X12_loadOf).1 (M_X12_loadOf).1 ∈ y_tb := (m_s 72 (by decide +kernel) rfl)
theorem F_BoxYardModel_110 : y_F "BoxYardModel" 110 12 38 := ⟨_, _, _, rfl, by decide, Or.inl (c_7 160 (by decide +kernel) rfl)⟩
set_option maxRecDepth 100000 in
def f_X12_engine (p0 : Nat) (p1 : Int32) (p2 : Int32) (h : y_H) : Option (Int32 × y_H) :=
  if y_K h p0 = 13 then
  y_bd (s_I h p0 46 0) (fun h1 =>
  if y_K h1 p0 = 13 then
  y_cl (f_X12_isCrane p0 p1 h1) (fun r4 h5 =>
  if r4 = true then
    y_cl (f_X12_in p2 0 2 h5) (fun r7 h8 =>
    if r7 = true then
      if p2 = 2 then
        if y_K h8 p0 = 13 then
        if y_K h8 (y_P h8 p0 26) = 100 ∧ y_ix p1 (y_N h8 (y_P h8 p0 26)) = true then
        if (y_I h8 (y_P h8 p0 26) (Int32.toNatClampNeg p1)) = 1 then
          if y_K h8 p0 = 13 then
          if (y_I h8 p0 34) = 0 then
            if y_K h8 p0 = 13 then
            y_cl (f_X12_finds p0 3 h8) (fun r21 h22 =>
            some (r21, h22))
            else none
          else
            if y_K h8 p0 = 13 then
            if y_K h8 (y_P h8 p0 38) = 100 ∧ y_ix 0 (y_N h8 (y_P h8 p0 38)) = true then
            some (y_I h8 (y_P h8 p0 38) (Int32.toNatClampNeg 0), h8)
            else none
            else none
          else none
        else
          if y_K h8 p0 = 13 then
          y_cl (f_X12_finds p0 5 h8) (fun r27 h28 =>
          some (r27, h28))
          else none
        else none
        else none
      else
        if p2 = 0 then
          if y_K h8 p0 = 13 then
          y_cl (f_X12_loadOf p0 p1 h8) (fun r14 h15 =>
          some (r14, h15))
          else none
        else
          if y_K h8 p0 = 13 then
          y_cl (f_X12_stop p0 p1 h8) (fun r10 h11 =>
          some (r10, h11))
          else none
    else
      some ((-2 : Int32), h8))
  else
    some ((-1 : Int32), h5))
  else none)
  else none
abbrev rm_X12_engine : Room := { frames := 2, cells := 0, slots := 0, locals := 43 }
set_option maxRecDepth 100000 in
set_option maxHeartbeats 4000000 in
theorem k_X12_engine {l : Launch} {G : y_G} {p0 : Nat} {p1 : Int32} {p2 : Int32} {h hz : y_H} {rz : Int32} (hf : f_X12_engine p0 p1 p2 h = some (rz, hz)) : y_S l G M_X12_engine rm_X12_engine [y_p p0, .int p1, .int p2] h (some (.int rz)) hz := by
  refine y_start (lv := [(0, y_p p0), (1, .int p1), (2, .int p2)]) (by decide) (by simp [lg_sl, y_p_cat, y_ci, y_cj, M_X12_engine]) (by simp [lv_args, y_p_cat, y_ci, y_cj]) (fun z ad0 => ?_)
  unfold f_X12_engine at hf
  refine y_aload_n (x := p0) (pc2 := 1) rfl dX12_engine_0 rfl ?_
  refine y_iconst (v := 0) (pc2 := 2) rfl dX12_engine_1 (by decide) ?_
  obtain ⟨g3, hf⟩ := y_g hf
  obtain ⟨h1, e2, hf⟩ := y_bdE hf
  refine y_putI (x := 0) (pc2 := 5) rfl dX12_engine_2 Fp_BoxYardModel_249 (by decide) rfl g3 e2 ?_
  refine y_aload_n (x := p0) (pc2 := 6) rfl dX12_engine_5 rfl ?_
  refine y_iload_n (pc2 := 7) rfl dX12_engine_6 rfl ?_
  obtain ⟨g37, hf⟩ := y_g hf
  obtain ⟨r4, h5, c6, hf⟩ := y_clE hf
  refine y_callV (As := [.int p1]) (rm := rm_X12_isCrane) (cells := 0) (slots := 0) (pc2 := 10) rfl dX12_engine_7 n_X12_isCrane l_BoxYardModel_329 i_X12_isCrane e_X12_isCrane (ci := 12) rfl rfl (by decide) g37 rfl rfl (by decide) (by decide) (by decide) (k_X12_isCrane c6) ?_
  refine y_ifz_ne (tgt := 15) (pc2 := 13) rfl dX12_engine_10 (by decide) (fun c36 => ?_) (fun c36 => ?_)
  · replace hf := y_it c36 hf
    refine y_iload_n (pc2 := 16) rfl dX12_engine_15 rfl ?_
    refine y_iconst (v := 0) (pc2 := 17) rfl dX12_engine_16 (by decide) ?_
    refine y_iconst (v := 2) (pc2 := 18) rfl dX12_engine_17 (by decide) ?_
    obtain ⟨r7, h8, c9, hf⟩ := y_clE hf
    refine y_callS (As := [.int p2, .int 0, .int 2]) (rm := rm_X12_in) (cells := 0) (slots := 0) (pc2 := 21) rfl dX12_engine_18 n_X12_in l_BoxYardModel_278 t_X12_in rfl rfl (by decide) (by decide) (by decide) (k_X12_in c9) ?_
    refine y_ifz_ne (tgt := 27) (pc2 := 24) rfl dX12_engine_21 (by decide) (fun c35 => ?_) (fun c35 => ?_)
    · replace hf := y_it c35 hf
      refine y_iload_n (pc2 := 28) rfl dX12_engine_27 rfl ?_
      refine y_iconst (v := 2) (pc2 := 29) rfl dX12_engine_28 (by decide) ?_
      refine y_icmp_ne (tgt := 72) (pc2 := 32) rfl dX12_engine_29 (by decide) (fun c34 => ?_) (fun c34 => ?_)
      · replace hf := y_ie c34 hf
        refine y_iload_n (pc2 := 73) rfl dX12_engine_72 rfl ?_
        refine y_if_ne (tgt := 84) (pc2 := 76) rfl dX12_engine_73 (by decide) (fun c18 => ?_) (fun c18 => ?_)
        · replace hf := y_ie c18 hf
          refine y_aload_n (x := p0) (pc2 := 85) rfl dX12_engine_84 rfl ?_
          refine y_iload_n (pc2 := 86) rfl dX12_engine_85 rfl ?_
          obtain ⟨g13, hf⟩ := y_g hf
          obtain ⟨r10, h11, c12, hf⟩ := y_clE hf
          refine y_callV (As := [.int p1]) (rm := rm_X12_stop) (cells := 0) (slots := 0) (pc2 := 89) rfl dX12_engine_86 n_X12_stop l_BoxYardModel_335 i_X12_stop e_X12_stop (ci := 12) rfl rfl (by decide) g13 rfl rfl (by decide) (by decide) (by decide) (k_X12_stop c12) ?_
          exact y_iretF hf dX12_engine_89 rfl (by decide) (by decide)
        · replace hf := y_it c18 hf
          refine y_aload_n (x := p0) (pc2 := 77) rfl dX12_engine_76 rfl ?_
          refine y_iload_n (pc2 := 78) rfl dX12_engine_77 rfl ?_
          obtain ⟨g17, hf⟩ := y_g hf
          obtain ⟨r14, h15, c16, hf⟩ := y_clE hf
          refine y_callV (As := [.int p1]) (rm := rm_X12_loadOf) (cells := 0) (slots := 0) (pc2 := 81) rfl dX12_engine_78 n_X12_loadOf l_BoxYardModel_332 i_X12_loadOf e_X12_loadOf (ci := 12) rfl rfl (by decide) g17 rfl rfl (by decide) (by decide) (by decide) (k_X12_loadOf c16) ?_
          refine y_goto (tgt := 89) dX12_engine_81 (by decide) ?_
          exact y_iretF hf dX12_engine_89 rfl (by decide) (by decide)
      · replace hf := y_it c34 hf
        refine y_aload_n (x := p0) (pc2 := 33) rfl dX12_engine_32 rfl ?_
        obtain ⟨g33, hf⟩ := y_g hf
        refine y_getP (pc2 := 36) rfl dX12_engine_33 F_BoxYardModel_80 (by decide) rfl g33 ?_
        refine y_iload_n (pc2 := 37) rfl dX12_engine_36 rfl ?_
        obtain ⟨g32, hf⟩ := y_g hf
        refine y_iald (pc2 := 38) rfl dX12_engine_37 g32.1 (y_ix_in g32.2) ?_
        refine y_iconst (v := 1) (pc2 := 39) rfl dX12_engine_38 (by decide) ?_
        refine y_icmp_eq (tgt := 50) (pc2 := 42) rfl dX12_engine_39 (by decide) (fun c31 => ?_) (fun c31 => ?_)
        · replace hf := y_it c31 hf
          refine y_aload_n (x := p0) (pc2 := 51) rfl dX12_engine_50 rfl ?_
          obtain ⟨g26, hf⟩ := y_g hf
          refine y_getI (pc2 := 54) rfl dX12_engine_51 F_BoxYardModel_246 (by decide) rfl g26 ?_
          refine y_if_ne (tgt := 65) (pc2 := 57) rfl dX12_engine_54 (by decide) (fun c25 => ?_) (fun c25 => ?_)
          · replace hf := y_ie c25 hf
            refine y_aload_n (x := p0) (pc2 := 66) rfl dX12_engine_65 rfl ?_
            obtain ⟨g20, hf⟩ := y_g hf
            refine y_getP (pc2 := 69) rfl dX12_engine_66 F_BoxYardModel_110 (by decide) rfl g20 ?_
            refine y_iconst (v := 0) (pc2 := 70) rfl dX12_engine_69 (by decide) ?_
            obtain ⟨g19, hf⟩ := y_g hf
            refine y_iald (pc2 := 71) rfl dX12_engine_70 g19.1 (y_ix_in g19.2) ?_
            exact y_iretF hf dX12_engine_71 rfl (by decide) (by decide)
          · replace hf := y_it c25 hf
            refine y_aload_n (x := p0) (pc2 := 58) rfl dX12_engine_57 rfl ?_
            refine y_iconst (v := 3) (pc2 := 59) rfl dX12_engine_58 (by decide) ?_
            obtain ⟨g24, hf⟩ := y_g hf
            obtain ⟨r21, h22, c23, hf⟩ := y_clE hf
            refine y_callV (As := [.int 3]) (rm := rm_X12_finds) (cells := 0) (slots := 0) (pc2 := 62) rfl dX12_engine_59 n_X12_finds l_BoxYardModel_301 i_X12_finds e_X12_finds (ci := 12) rfl rfl (by decide) g24 rfl rfl (by decide) (by decide) (by decide) (k_X12_finds c23) ?_
            refine y_goto (tgt := 71) dX12_engine_62 (by decide) ?_
            exact y_iretF hf dX12_engine_71 rfl (by decide) (by decide)
        · replace hf := y_ie c31 hf
          refine y_aload_n (x := p0) (pc2 := 43) rfl dX12_engine_42 rfl ?_
          refine y_iconst (v := 5) (pc2 := 44) rfl dX12_engine_43 (by decide) ?_
          obtain ⟨g30, hf⟩ := y_g hf
          obtain ⟨r27, h28, c29, hf⟩ := y_clE hf
          refine y_callV (As := [.int 5]) (rm := rm_X12_finds) (cells := 0) (slots := 0) (pc2 := 47) rfl dX12_engine_44 n_X12_finds l_BoxYardModel_301 i_X12_finds e_X12_finds (ci := 12) rfl rfl (by decide) g30 rfl rfl (by decide) (by decide) (by decide) (k_X12_finds c29) ?_
          refine y_goto (tgt := 71) dX12_engine_47 (by decide) ?_
          exact y_iretF hf dX12_engine_71 rfl (by decide) (by decide)
    · replace hf := y_ie c35 hf
      refine y_bipush (v := (-2 : Int32)) (pc2 := 26) rfl dX12_engine_24 (by decide) ?_
      exact y_iretF hf dX12_engine_26 rfl (by decide) (by decide)
  · replace hf := y_ie c36 hf
    refine y_iconst (v := (-1 : Int32)) (pc2 := 14) rfl dX12_engine_13 (by decide) ?_
    exact y_iretF hf dX12_engine_14 rfl (by decide) (by decide)
theorem dX12_look_0 : decode cX12_look 0 = .ok (.aload_n 0, 1) := by decide +kernel
theorem dX12_look_1 : decode cX12_look 1 = .ok (.iload_n 1, 1) := by decide +kernel
theorem dX12_look_2 : decode cX12_look 2 = .ok (.invokevirtual 329, 3) := by decide +kernel
theorem dX12_look_5 : decode cX12_look 5 = .ok (.ifCond .ne 5, 3) := by decide +kernel
theorem dX12_look_8 : decode cX12_look 8 = .ok (.iconst (-1), 1) := by decide +kernel
theorem dX12_look_9 : decode cX12_look 9 = .ok (.ireturn, 1) := by decide +kernel
theorem dX12_look_10 : decode cX12_look 10 = .ok (.iload_n 2, 1) := by decide +kernel
theorem dX12_look_11 : decode cX12_look 11 = .ok (.tableswitch 88 0 5 #[37, 44, 65, 72, 79, 81], 37) := by decide +kernel
theorem dX12_look_48 : decode cX12_look 48 = .ok (.aload_n 0, 1) := by decide +kernel
theorem dX12_look_49 : decode cX12_look 49 = .ok (.getfield 86, 3) := by decide +kernel
theorem dX12_look_52 : decode cX12_look 52 = .ok (.iload_n 1, 1) := by decide +kernel
theorem dX12_look_53 : decode cX12_look 53 = .ok (.iaload, 1) := by decide +kernel
theorem dX12_look_54 : decode cX12_look 54 = .ok (.ireturn, 1) := by decide +kernel
theorem dX12_look_55 : decode cX12_look 55 = .ok (.aload_n 0, 1) := by decide +kernel
theorem dX12_look_56 : decode cX12_look 56 = .ok (.getfield 89, 3) := by decide +kernel
theorem dX12_look_59 : decode cX12_look 59 = .ok (.iload_n 1, 1) := by decide +kernel
theorem dX12_look_60 : decode cX12_look 60 = .ok (.iaload, 1) := by decide +kernel
theorem dX12_look_61 : decode cX12_look 61 = .ok (.ifCond .ge 8, 3) := by decide +kernel
theorem dX12_look_64 : decode cX12_look 64 = .ok (.bipush (-9), 2) := by decide +kernel
theorem dX12_look_66 : decode cX12_look 66 = .ok (.goto 9, 3) := by decide +kernel
theorem dX12_look_69 : decode cX12_look 69 = .ok (.aload_n 0, 1) := by decide +kernel
theorem dX12_look_70 : decode cX12_look 70 = .ok (.getfield 89, 3) := by decide +kernel
theorem dX12_look_73 : decode cX12_look 73 = .ok (.iload_n 1, 1) := by decide +kernel
theorem dX12_look_74 : decode cX12_look 74 = .ok (.iaload, 1) := by decide +kernel
theorem dX12_look_75 : decode cX12_look 75 = .ok (.ireturn, 1) := by decide +kernel
theorem dX12_look_76 : decode cX12_look 76 = .ok (.aload_n 0, 1) := by decide +kernel
theorem dX12_look_77 : decode cX12_look 77 = .ok (.getfield 92, 3) := by decide +kernel
theorem dX12_look_80 : decode cX12_look 80 = .ok (.iload_n 1, 1) := by decide +kernel
theorem dX12_look_81 : decode cX12_look 81 = .ok (.iaload, 1) := by decide +kernel
theorem dX12_look_82 : decode cX12_look 82 = .ok (.ireturn, 1) := by decide +kernel
theorem dX12_look_83 : decode cX12_look 83 = .ok (.aload_n 0, 1) := by decide +kernel
theorem dX12_look_84 : decode cX12_look 84 = .ok (.getfield 95, 3) := by decide +kernel
theorem dX12_look_87 : decode cX12_look 87 = .ok (.iload_n 1, 1) := by decide +kernel
theorem dX12_look_88 : decode cX12_look 88 = .ok (.iaload, 1) := by decide +kernel
theorem dX12_look_89 : decode cX12_look 89 = .ok (.ireturn, 1) := by decide +kernel
theorem dX12_look_90 : decode cX12_look 90 = .ok (.iconst 1, 1) := by decide +kernel
theorem dX12_look_91 : decode cX12_look 91 = .ok (.ireturn, 1) := by decide +kernel
theorem dX12_look_92 : decode cX12_look 92 = .ok (.aload_n 0, 1) := by decide +kernel
theorem dX12_look_93 : decode cX12_look 93 = .ok (.getfield 83, 3) := by decide +kernel
theorem dX12_look_96 : decode cX12_look 96 = .ok (.iload_n 1, 1) := by decide +kernel
theorem dX12_look_97 : decode cX12_look 97 = .ok (.iaload, 1) := by decide +kernel
theorem dX12_look_98 : decode cX12_look 98 = .ok (.ireturn, 1) := by decide +kernel
theorem dX12_look_99 : decode cX12_look 99 = .ok (.bipush (-2), 2) := by decide +kernel
theorem dX12_look_101 : decode cX12_look 101 = .ok (.ireturn, 1) := by decide +kernel
def M_X12_look : y_M := (yX12_look, cX12_look, 3, (Option.some Jvm.ClassFile.FieldType.int))
theorem n_X12_look : y_N0 M_X12_look 2 := ⟨(c_9 50 (by decide +kernel) rfl), (c_1 9 (by decide +kernel) rfl), ⟨by decide +kernel, by decide +kernel⟩, by decide +kernel⟩
set_option maxRecDepth 100000 in
def f_X12_look (p0 : Nat) (p1 : Int32) (p2 : Int32) (h : y_H) : Option (Int32 × y_H) :=
  if y_K h p0 = 13 then
  y_cl (f_X12_isCrane p0 p1 h) (fun r1 h2 =>
  if r1 = true then
    if p2 = 0 then
      if y_K h2 p0 = 13 then
      if y_K h2 (y_P h2 p0 28) = 100 ∧ y_ix p1 (y_N h2 (y_P h2 p0 28)) = true then
      some (y_I h2 (y_P h2 p0 28) (Int32.toNatClampNeg p1), h2)
      else none
      else none
    else
    if p2 = 1 then
      if y_K h2 p0 = 13 then
      if y_K h2 (y_P h2 p0 29) = 100 ∧ y_ix p1 (y_N h2 (y_P h2 p0 29)) = true then
      if 0 ≤ (y_I h2 (y_P h2 p0 29) (Int32.toNatClampNeg p1)) then
        if y_K h2 p0 = 13 then
        if y_K h2 (y_P h2 p0 29) = 100 ∧ y_ix p1 (y_N h2 (y_P h2 p0 29)) = true then
        some (y_I h2 (y_P h2 p0 29) (Int32.toNatClampNeg p1), h2)
        else none
        else none
      else
        some ((-9 : Int32), h2)
      else none
      else none
    else
    if p2 = 2 then
      if y_K h2 p0 = 13 then
      if y_K h2 (y_P h2 p0 30) = 100 ∧ y_ix p1 (y_N h2 (y_P h2 p0 30)) = true then
      some (y_I h2 (y_P h2 p0 30) (Int32.toNatClampNeg p1), h2)
      else none
      else none
    else
    if p2 = 3 then
      if y_K h2 p0 = 13 then
      if y_K h2 (y_P h2 p0 31) = 100 ∧ y_ix p1 (y_N h2 (y_P h2 p0 31)) = true then
      some (y_I h2 (y_P h2 p0 31) (Int32.toNatClampNeg p1), h2)
      else none
      else none
    else
    if p2 = 4 then
      some (1, h2)
    else
    if p2 = 5 then
      if y_K h2 p0 = 13 then
      if y_K h2 (y_P h2 p0 27) = 100 ∧ y_ix p1 (y_N h2 (y_P h2 p0 27)) = true then
      some (y_I h2 (y_P h2 p0 27) (Int32.toNatClampNeg p1), h2)
      else none
      else none
    else
    some ((-2 : Int32), h2)
  else
    some ((-1 : Int32), h2))
  else none
abbrev rm_X12_look : Room := { frames := 2, cells := 0, slots := 0, locals := 43 }
set_option maxRecDepth 100000 in
set_option maxHeartbeats 4000000 in
theorem k_X12_look {l : Launch} {G : y_G} {p0 : Nat} {p1 : Int32} {p2 : Int32} {h hz : y_H} {rz : Int32} (hf : f_X12_look p0 p1 p2 h = some (rz, hz)) : y_S l G M_X12_look rm_X12_look [y_p p0, .int p1, .int p2] h (some (.int rz)) hz := by
  refine y_start (lv := [(0, y_p p0), (1, .int p1), (2, .int p2)]) (by decide) (by simp [lg_sl, y_p_cat, y_ci, y_cj, M_X12_look]) (by simp [lv_args, y_p_cat, y_ci, y_cj]) (fun z ad0 => ?_)
  unfold f_X12_look at hf
  refine y_aload_n (x := p0) (pc2 := 1) rfl dX12_look_0 rfl ?_
  refine y_iload_n (pc2 := 2) rfl dX12_look_1 rfl ?_
  obtain ⟨g24, hf⟩ := y_g hf
  obtain ⟨r1, h2, c3, hf⟩ := y_clE hf
  refine y_callV (As := [.int p1]) (rm := rm_X12_isCrane) (cells := 0) (slots := 0) (pc2 := 5) rfl dX12_look_2 n_X12_isCrane l_BoxYardModel_329 i_X12_isCrane e_X12_isCrane (ci := 12) rfl rfl (by decide) g24 rfl rfl (by decide) (by decide) (by decide) (k_X12_isCrane c3) ?_
  refine y_ifz_ne (tgt := 10) (pc2 := 8) rfl dX12_look_5 (by decide) (fun c23 => ?_) (fun c23 => ?_)
  · replace hf := y_it c23 hf
    refine y_iload_n (pc2 := 11) rfl dX12_look_10 rfl ?_
    by_cases c4 : p2 = 0
    · replace hf := y_it c4 hf
      refine y_table (off := 37) (tgt := 48) dX12_look_11 (by (rw [c4]) <;> decide) (by decide) ?_
      refine y_aload_n (x := p0) (pc2 := 49) rfl dX12_look_48 rfl ?_
      obtain ⟨g6, hf⟩ := y_g hf
      refine y_getP (pc2 := 52) rfl dX12_look_49 F_BoxYardModel_86 (by decide) rfl g6 ?_
      refine y_iload_n (pc2 := 53) rfl dX12_look_52 rfl ?_
      obtain ⟨g5, hf⟩ := y_g hf
      refine y_iald (pc2 := 54) rfl dX12_look_53 g5.1 (y_ix_in g5.2) ?_
      exact y_iretF hf dX12_look_54 rfl (by decide) (by decide)
    · replace hf := y_ie c4 hf
      by_cases c7 : p2 = 1
      · replace hf := y_it c7 hf
        refine y_table (off := 44) (tgt := 55) dX12_look_11 (by (rw [c7]) <;> decide) (by decide) ?_
        refine y_aload_n (x := p0) (pc2 := 56) rfl dX12_look_55 rfl ?_
        obtain ⟨g12, hf⟩ := y_g hf
        refine y_getP (pc2 := 59) rfl dX12_look_56 F_BoxYardModel_89 (by decide) rfl g12 ?_
        refine y_iload_n (pc2 := 60) rfl dX12_look_59 rfl ?_
        obtain ⟨g11, hf⟩ := y_g hf
        refine y_iald (pc2 := 61) rfl dX12_look_60 g11.1 (y_ix_in g11.2) ?_
        refine y_if_ge (tgt := 69) (pc2 := 64) rfl dX12_look_61 (by decide) (fun c10 => ?_) (fun c10 => ?_)
        · replace hf := y_it c10 hf
          refine y_aload_n (x := p0) (pc2 := 70) rfl dX12_look_69 rfl ?_
          obtain ⟨g9, hf⟩ := y_g hf
          refine y_getP (pc2 := 73) rfl dX12_look_70 F_BoxYardModel_89 (by decide) rfl g9 ?_
          refine y_iload_n (pc2 := 74) rfl dX12_look_73 rfl ?_
          obtain ⟨g8, hf⟩ := y_g hf
          refine y_iald (pc2 := 75) rfl dX12_look_74 g8.1 (y_ix_in g8.2) ?_
          exact y_iretF hf dX12_look_75 rfl (by decide) (by decide)
        · replace hf := y_ie c10 hf
          refine y_bipush (v := (-9 : Int32)) (pc2 := 66) rfl dX12_look_64 (by decide) ?_
          refine y_goto (tgt := 75) dX12_look_66 (by decide) ?_
          exact y_iretF hf dX12_look_75 rfl (by decide) (by decide)
      · replace hf := y_ie c7 hf
        by_cases c13 : p2 = 2
        · replace hf := y_it c13 hf
          refine y_table (off := 65) (tgt := 76) dX12_look_11 (by (rw [c13]) <;> decide) (by decide) ?_
          refine y_aload_n (x := p0) (pc2 := 77) rfl dX12_look_76 rfl ?_
          obtain ⟨g15, hf⟩ := y_g hf
          refine y_getP (pc2 := 80) rfl dX12_look_77 F_BoxYardModel_92 (by decide) rfl g15 ?_
          refine y_iload_n (pc2 := 81) rfl dX12_look_80 rfl ?_
          obtain ⟨g14, hf⟩ := y_g hf
          refine y_iald (pc2 := 82) rfl dX12_look_81 g14.1 (y_ix_in g14.2) ?_
          exact y_iretF hf dX12_look_82 rfl (by decide) (by decide)
        · replace hf := y_ie c13 hf
          by_cases c16 : p2 = 3
          · replace hf := y_it c16 hf
            refine y_table (off := 72) (tgt := 83) dX12_look_11 (by (rw [c16]) <;> decide) (by decide) ?_
            refine y_aload_n (x := p0) (pc2 := 84) rfl dX12_look_83 rfl ?_
            obtain ⟨g18, hf⟩ := y_g hf
            refine y_getP (pc2 := 87) rfl dX12_look_84 F_BoxYardModel_95 (by decide) rfl g18 ?_
            refine y_iload_n (pc2 := 88) rfl dX12_look_87 rfl ?_
            obtain ⟨g17, hf⟩ := y_g hf
            refine y_iald (pc2 := 89) rfl dX12_look_88 g17.1 (y_ix_in g17.2) ?_
            exact y_iretF hf dX12_look_89 rfl (by decide) (by decide)
          · replace hf := y_ie c16 hf
            by_cases c19 : p2 = 4
            · replace hf := y_it c19 hf
              refine y_table (off := 79) (tgt := 90) dX12_look_11 (by (rw [c19]) <;> decide) (by decide) ?_
              refine y_iconst (v := 1) (pc2 := 91) rfl dX12_look_90 (by decide) ?_
              exact y_iretF hf dX12_look_91 rfl (by decide) (by decide)
            · replace hf := y_ie c19 hf
              by_cases c20 : p2 = 5
              · replace hf := y_it c20 hf
                refine y_table (off := 81) (tgt := 92) dX12_look_11 (by (rw [c20]) <;> decide) (by decide) ?_
                refine y_aload_n (x := p0) (pc2 := 93) rfl dX12_look_92 rfl ?_
                obtain ⟨g22, hf⟩ := y_g hf
                refine y_getP (pc2 := 96) rfl dX12_look_93 F_BoxYardModel_83 (by decide) rfl g22 ?_
                refine y_iload_n (pc2 := 97) rfl dX12_look_96 rfl ?_
                obtain ⟨g21, hf⟩ := y_g hf
                refine y_iald (pc2 := 98) rfl dX12_look_97 g21.1 (y_ix_in g21.2) ?_
                exact y_iretF hf dX12_look_98 rfl (by decide) (by decide)
              · replace hf := y_ie c20 hf
                refine y_table (off := 88) (tgt := 99) dX12_look_11 ((if_pos (by have q0 := lv_neT c4 (a := 0) (by decide); have q1 := lv_neT c7 (a := 1) (by decide); have q2 := lv_neT c13 (a := 2) (by decide); have q3 := lv_neT c16 (a := 3) (by decide); have q4 := lv_neT c19 (a := 4) (by decide); have q5 := lv_neT c20 (a := 5) (by decide); omega))) (by decide) ?_
                refine y_bipush (v := (-2 : Int32)) (pc2 := 101) rfl dX12_look_99 (by decide) ?_
                exact y_iretF hf dX12_look_101 rfl (by decide) (by decide)
  · replace hf := y_ie c23 hf
    refine y_iconst (v := (-1 : Int32)) (pc2 := 9) rfl dX12_look_8 (by decide) ?_
    exact y_iretF hf dX12_look_9 rfl (by decide) (by decide)
theorem dX12_roomFor_0 : decode cX12_roomFor 0 = .ok (.aload_n 0, 1) := by decide +kernel
theorem dX12_roomFor_1 : decode cX12_roomFor 1 = .ok (.getfield 255, 3) := by decide +kernel
theorem dX12_roomFor_4 : decode cX12_roomFor 4 = .ok (.bipush 60, 2) := by decide +kernel
theorem dX12_roomFor_6 : decode cX12_roomFor 6 = .ok (.if_icmp .ne 43, 3) := by decide +kernel
theorem dX12_roomFor_9 : decode cX12_roomFor 9 = .ok (.iconst 0, 1) := by decide +kernel
theorem dX12_roomFor_10 : decode cX12_roomFor 10 = .ok (.istore_n 1, 1) := by decide +kernel
theorem dX12_roomFor_11 : decode cX12_roomFor 11 = .ok (.iload_n 1, 1) := by decide +kernel
theorem dX12_roomFor_12 : decode cX12_roomFor 12 = .ok (.sipush 826, 3) := by decide +kernel
theorem dX12_roomFor_15 : decode cX12_roomFor 15 = .ok (.if_icmp .ge 24, 3) := by decide +kernel
theorem dX12_roomFor_18 : decode cX12_roomFor 18 = .ok (.aload_n 0, 1) := by decide +kernel
theorem dX12_roomFor_19 : decode cX12_roomFor 19 = .ok (.getfield 137, 3) := by decide +kernel
theorem dX12_roomFor_22 : decode cX12_roomFor 22 = .ok (.iload_n 1, 1) := by decide +kernel
theorem dX12_roomFor_23 : decode cX12_roomFor 23 = .ok (.aload_n 0, 1) := by decide +kernel
theorem dX12_roomFor_24 : decode cX12_roomFor 24 = .ok (.getfield 137, 3) := by decide +kernel
theorem dX12_roomFor_27 : decode cX12_roomFor 27 = .ok (.iload_n 1, 1) := by decide +kernel
theorem dX12_roomFor_28 : decode cX12_roomFor 28 = .ok (.bipush 14, 2) := by decide +kernel
theorem dX12_roomFor_30 : decode cX12_roomFor 30 = .ok (.iadd, 1) := by decide +kernel
theorem dX12_roomFor_31 : decode cX12_roomFor 31 = .ok (.iaload, 1) := by decide +kernel
theorem dX12_roomFor_32 : decode cX12_roomFor 32 = .ok (.iastore, 1) := by decide +kernel
theorem dX12_roomFor_33 : decode cX12_roomFor 33 = .ok (.iinc 1 1, 3) := by decide +kernel
theorem dX12_roomFor_36 : decode cX12_roomFor 36 = .ok (.goto (-25), 3) := by decide +kernel
theorem dX12_roomFor_39 : decode cX12_roomFor 39 = .ok (.aload_n 0, 1) := by decide +kernel
theorem dX12_roomFor_40 : decode cX12_roomFor 40 = .ok (.dup, 1) := by decide +kernel
theorem dX12_roomFor_41 : decode cX12_roomFor 41 = .ok (.getfield 255, 3) := by decide +kernel
theorem dX12_roomFor_44 : decode cX12_roomFor 44 = .ok (.iconst 1, 1) := by decide +kernel
theorem dX12_roomFor_45 : decode cX12_roomFor 45 = .ok (.isub, 1) := by decide +kernel
theorem dX12_roomFor_46 : decode cX12_roomFor 46 = .ok (.putfield 255, 3) := by decide +kernel
theorem dX12_roomFor_49 : decode cX12_roomFor 49 = .ok (.bipush 14, 2) := by decide +kernel
theorem dX12_roomFor_51 : decode cX12_roomFor 51 = .ok (.aload_n 0, 1) := by decide +kernel
theorem dX12_roomFor_52 : decode cX12_roomFor 52 = .ok (.getfield 255, 3) := by decide +kernel
theorem dX12_roomFor_55 : decode cX12_roomFor 55 = .ok (.imul, 1) := by decide +kernel
theorem dX12_roomFor_56 : decode cX12_roomFor 56 = .ok (.ireturn, 1) := by decide +kernel
def M_X12_roomFor : y_M := (yX12_roomFor, cX12_roomFor, 2, (Option.some Jvm.ClassFile.FieldType.int))
theorem n_X12_roomFor : y_N0 M_X12_roomFor 0 := ⟨(c_9 74 (by decide +kernel) rfl), (c_1 9 (by decide +kernel) rfl), ⟨by decide +kernel, by decide +kernel⟩, by decide +kernel⟩
theorem F_BoxYardModel_255 : y_F "BoxYardModel" 255 12 50 := ⟨_, _, _, rfl, by decide, Or.inl (c_7 172 (by decide +kernel) rfl)⟩
theorem F_BoxYardModel_137 : y_F "BoxYardModel" 137 12 51 := ⟨_, _, _, rfl, by decide, Or.inl (c_7 173 (by decide +kernel) rfl)⟩
set_option maxRecDepth 100000 in
def f_X12_roomFor (p0 : Nat) (h : y_H) : Option (Int32 × y_H) :=
  if y_K h p0 = 13 then
  y_jn (fun (v0_49 : Nat) (h1 : y_H) => (
      if y_K h1 v0_49 = 13 then
      some (14 * (y_I h1 v0_49 50), h1)
      else none : Option (Int32 × y_H))) (fun j49 =>
  if (y_I h p0 50) = 60 then
    y_jl (fun (_ : Nat) (_ : Int32) (_ : y_H) => (none : Option (Int32 × y_H))) (fun j11 (v0_11 : Nat) (v1_11 : Int32) (h3 : y_H) =>
        if 826 ≤ v1_11 then
          if y_K h3 v0_11 = 13 then
          if y_K h3 v0_11 = 13 then
          y_bd (s_I h3 v0_11 50 ((y_I h3 v0_11 50) - 1)) (fun h4 =>
          j49 v0_11 h4)
          else none
          else none
        else
          if y_K h3 v0_11 = 13 then
          if y_K h3 v0_11 = 13 then
          if y_K h3 (y_P h3 v0_11 51) = 100 ∧ y_ix (v1_11 + 14) (y_N h3 (y_P h3 v0_11 51)) = true then
          if y_K h3 (y_P h3 v0_11 51) = 100 ∧ y_ix v1_11 (y_N h3 (y_P h3 v0_11 51)) = true then
          y_bd (s_I h3 (y_P h3 v0_11 51) (Int32.toNatClampNeg v1_11) (y_I h3 (y_P h3 v0_11 51) (Int32.toNatClampNeg (v1_11 + 14)))) (fun h8 =>
          j11 v0_11 (v1_11 + 1) h8)
          else none
          else none
          else none
          else none) (fun j11 =>
    j11 p0 0 h)
  else
    j49 p0 h)
  else none
abbrev rm_X12_roomFor : Room := { frames := 0, cells := 0, slots := 0, locals := 0 }
set_option maxRecDepth 100000 in
set_option maxHeartbeats 4000000 in
theorem k_X12_roomFor {l : Launch} {G : y_G} {p0 : Nat} {h hz : y_H} {rz : Int32} (hf : f_X12_roomFor p0 h = some (rz, hz)) : y_S l G M_X12_roomFor rm_X12_roomFor [y_p p0] h (some (.int rz)) hz := by
  refine y_start (lv := [(0, y_p p0)]) (by decide) (by simp [lg_sl, y_p_cat, y_ci, y_cj, M_X12_roomFor]) (by simp [lv_args, y_p_cat, y_ci, y_cj]) (fun z ad0 => ?_)
  unfold f_X12_roomFor at hf
  refine y_aload_n (x := p0) (pc2 := 1) rfl dX12_roomFor_0 rfl ?_
  obtain ⟨g16, hf⟩ := y_g hf
  refine y_getI (pc2 := 4) rfl dX12_roomFor_1 F_BoxYardModel_255 (by decide) rfl g16 ?_
  refine y_bipush (v := 60) (pc2 := 6) rfl dX12_roomFor_4 (by decide) ?_
  refine y_jnE hf (fun j => ∀ (v0_49 : Nat) (h1 : y_H), j v0_49 h1 = some (rz, hz) → y_V l G z rm_X12_roomFor M_X12_roomFor ad0 h (some (.int rz)) hz 49 [(0, y_p v0_49)] [] h1 0 0) (fun v0_49 h1 hf => ?_) (fun j49 hj49 hf => ?_)
  · refine y_bipush (v := 14) (pc2 := 51) rfl dX12_roomFor_49 (by decide) ?_
    refine y_aload_n (x := v0_49) (pc2 := 52) rfl dX12_roomFor_51 rfl ?_
    obtain ⟨g2, hf⟩ := y_g hf
    refine y_getI (pc2 := 55) rfl dX12_roomFor_52 F_BoxYardModel_255 (by decide) rfl g2 ?_
    refine y_imul (pc2 := 56) rfl dX12_roomFor_55 ?_
    exact y_iretF hf dX12_roomFor_56 rfl (by decide) (by decide)
  · refine y_icmp_ne (tgt := 49) (pc2 := 9) rfl dX12_roomFor_6 (by decide) (fun c15 => ?_) (fun c15 => ?_)
    · replace hf := y_ie c15 hf
      exact y_pk [0] rfl (hj49 _ _ hf)
    · replace hf := y_it c15 hf
      refine y_iconst (v := 0) (pc2 := 10) rfl dX12_roomFor_9 (by decide) ?_
      refine y_jlE hf (fun j => ∀ (v0_11 : Nat) (v1_11 : Int32) (h3 : y_H), j v0_11 v1_11 h3 = some (rz, hz) → y_V l G z rm_X12_roomFor M_X12_roomFor ad0 h (some (.int rz)) hz 11 [(0, y_p v0_11), (1, .int v1_11)] [] h3 0 0) (fun _ _ _ hf => by cases hf) (fun j11 hj11 v0_11 v1_11 h3 hf => ?_) (fun j11 hj11 hf => ?_)
      · refine y_iload_n (pc2 := 12) rfl dX12_roomFor_11 rfl ?_
        refine y_sipush (v := 826) (pc2 := 15) rfl dX12_roomFor_12 (by decide) ?_
        refine y_icmp_ge (tgt := 39) (pc2 := 18) rfl dX12_roomFor_15 (by decide) (fun c14 => ?_) (fun c14 => ?_)
        · replace hf := y_it c14 hf
          refine y_aload_n (x := v0_11) (pc2 := 40) rfl dX12_roomFor_39 rfl ?_
          refine y_dup (pc2 := 41) rfl dX12_roomFor_40 (y_p_cat _) ?_
          obtain ⟨g7, hf⟩ := y_g hf
          refine y_getI (pc2 := 44) rfl dX12_roomFor_41 F_BoxYardModel_255 (by decide) rfl g7 ?_
          refine y_iconst (v := 1) (pc2 := 45) rfl dX12_roomFor_44 (by decide) ?_
          refine y_isub (pc2 := 46) rfl dX12_roomFor_45 ?_
          obtain ⟨g6, hf⟩ := y_g hf
          obtain ⟨h4, e5, hf⟩ := y_bdE hf
          refine y_putI (x := (y_I h3 v0_11 50) - 1) (pc2 := 49) rfl dX12_roomFor_46 Fp_BoxYardModel_255 (by decide) rfl g6 e5 ?_
          exact y_pk [0] rfl (hj49 _ _ hf)
        · replace hf := y_ie c14 hf
          refine y_aload_n (x := v0_11) (pc2 := 19) rfl dX12_roomFor_18 rfl ?_
          obtain ⟨g13, hf⟩ := y_g hf
          refine y_getP (pc2 := 22) rfl dX12_roomFor_19 F_BoxYardModel_137 (by decide) rfl g13 ?_
          refine y_iload_n (pc2 := 23) rfl dX12_roomFor_22 rfl ?_
          refine y_aload_n (x := v0_11) (pc2 := 24) rfl dX12_roomFor_23 rfl ?_
          obtain ⟨g12, hf⟩ := y_g hf
          refine y_getP (pc2 := 27) rfl dX12_roomFor_24 F_BoxYardModel_137 (by decide) rfl g12 ?_
          refine y_iload_n (pc2 := 28) rfl dX12_roomFor_27 rfl ?_
          refine y_bipush (v := 14) (pc2 := 30) rfl dX12_roomFor_28 (by decide) ?_
          refine y_iadd (pc2 := 31) rfl dX12_roomFor_30 ?_
          obtain ⟨g11, hf⟩ := y_g hf
          refine y_iald (pc2 := 32) rfl dX12_roomFor_31 g11.1 (y_ix_in g11.2) ?_
          obtain ⟨g10, hf⟩ := y_g hf
          obtain ⟨h8, e9, hf⟩ := y_bdE hf
          refine y_iast (x := y_I h3 (y_P h3 v0_11 51) (Int32.toNatClampNeg (v1_11 + 14))) (pc2 := 33) rfl dX12_roomFor_32 g10.1 (y_ix_in g10.2) e9 ?_
          refine y_iinc (v := v1_11 + 1) (lv' := [(1, .int (v1_11 + 1)), (0, y_p v0_11)]) (pc2 := 36) rfl dX12_roomFor_33 rfl rfl (by decide) (by simp [y_st1, y_p_cat, y_ci, y_cj]) ?_
          refine y_goto (tgt := 11) dX12_roomFor_36 (by decide) ?_
          exact y_pk [1, 0] rfl (hj11 _ _ _ hf)
      · refine y_istore_n (lv' := [(1, .int 0), (0, y_p p0)]) (pc2 := 11) rfl dX12_roomFor_10 (by decide) (by show y_st1 _ 1 _ = _; simp [y_st1, y_p_cat, y_ci, y_cj]) ?_
        exact y_pk [1, 0] rfl (hj11 _ _ _ hf)
