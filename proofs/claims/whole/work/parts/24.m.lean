theorem dX4_searchIn_0 : decode cX4_searchIn 0 = .ok (.aload_n 0, 1) := by decide +kernel
theorem dX4_searchIn_1 : decode cX4_searchIn 1 = .ok (.getfield 39, 3) := by decide +kernel
theorem dX4_searchIn_4 : decode cX4_searchIn 4 = .ok (.bipush 40, 2) := by decide +kernel
theorem dX4_searchIn_6 : decode cX4_searchIn 6 = .ok (.if_icmp .lt 6, 3) := by decide +kernel
theorem dX4_searchIn_9 : decode cX4_searchIn 9 = .ok (.bipush (-4), 2) := by decide +kernel
theorem dX4_searchIn_11 : decode cX4_searchIn 11 = .ok (.ireturn, 1) := by decide +kernel
theorem dX4_searchIn_12 : decode cX4_searchIn 12 = .ok (.aload_n 0, 1) := by decide +kernel
theorem dX4_searchIn_13 : decode cX4_searchIn 13 = .ok (.dup, 1) := by decide +kernel
theorem dX4_searchIn_14 : decode cX4_searchIn 14 = .ok (.getfield 39, 3) := by decide +kernel
theorem dX4_searchIn_17 : decode cX4_searchIn 17 = .ok (.iconst 1, 1) := by decide +kernel
theorem dX4_searchIn_18 : decode cX4_searchIn 18 = .ok (.iadd, 1) := by decide +kernel
theorem dX4_searchIn_19 : decode cX4_searchIn 19 = .ok (.putfield 39, 3) := by decide +kernel
theorem dX4_searchIn_22 : decode cX4_searchIn 22 = .ok (.aload_n 0, 1) := by decide +kernel
theorem dX4_searchIn_23 : decode cX4_searchIn 23 = .ok (.iconst 0, 1) := by decide +kernel
theorem dX4_searchIn_24 : decode cX4_searchIn 24 = .ok (.putfield 36, 3) := by decide +kernel
theorem dX4_searchIn_27 : decode cX4_searchIn 27 = .ok (.aload_n 0, 1) := by decide +kernel
theorem dX4_searchIn_28 : decode cX4_searchIn 28 = .ok (.getfield 55, 3) := by decide +kernel
theorem dX4_searchIn_31 : decode cX4_searchIn 31 = .ok (.ifnonnull 14, 3) := by decide +kernel
theorem dX4_searchIn_34 : decode cX4_searchIn 34 = .ok (.aload_n 0, 1) := by decide +kernel
theorem dX4_searchIn_35 : decode cX4_searchIn 35 = .ok (.new 59, 3) := by decide +kernel
theorem dX4_searchIn_38 : decode cX4_searchIn 38 = .ok (.dup, 1) := by decide +kernel
theorem dX4_searchIn_39 : decode cX4_searchIn 39 = .ok (.invokespecial 61, 3) := by decide +kernel
theorem dX4_searchIn_42 : decode cX4_searchIn 42 = .ok (.putfield 55, 3) := by decide +kernel
theorem dX4_searchIn_45 : decode cX4_searchIn 45 = .ok (.aload_n 0, 1) := by decide +kernel
theorem dX4_searchIn_46 : decode cX4_searchIn 46 = .ok (.getfield 32, 3) := by decide +kernel
theorem dX4_searchIn_49 : decode cX4_searchIn 49 = .ok (.ifCond .ne 7, 3) := by decide +kernel
theorem dX4_searchIn_52 : decode cX4_searchIn 52 = .ok (.iconst 0, 1) := by decide +kernel
theorem dX4_searchIn_53 : decode cX4_searchIn 53 = .ok (.goto 12, 3) := by decide +kernel
theorem dX4_searchIn_56 : decode cX4_searchIn 56 = .ok (.aload_n 0, 1) := by decide +kernel
theorem dX4_searchIn_57 : decode cX4_searchIn 57 = .ok (.getfield 55, 3) := by decide +kernel
theorem dX4_searchIn_60 : decode cX4_searchIn 60 = .ok (.aload_n 1, 1) := by decide +kernel
theorem dX4_searchIn_61 : decode cX4_searchIn 61 = .ok (.aload_n 0, 1) := by decide +kernel
theorem dX4_searchIn_62 : decode cX4_searchIn 62 = .ok (.invokevirtual 62, 3) := by decide +kernel
theorem dX4_searchIn_65 : decode cX4_searchIn 65 = .ok (.istore_n 2, 1) := by decide +kernel
theorem dX4_searchIn_66 : decode cX4_searchIn 66 = .ok (.iload_n 2, 1) := by decide +kernel
theorem dX4_searchIn_67 : decode cX4_searchIn 67 = .ok (.ifCond .ge 6, 3) := by decide +kernel
theorem dX4_searchIn_70 : decode cX4_searchIn 70 = .ok (.bipush (-9), 2) := by decide +kernel
theorem dX4_searchIn_72 : decode cX4_searchIn 72 = .ok (.ireturn, 1) := by decide +kernel
theorem dX4_searchIn_73 : decode cX4_searchIn 73 = .ok (.iload_n 2, 1) := by decide +kernel
theorem dX4_searchIn_74 : decode cX4_searchIn 74 = .ok (.aload_n 0, 1) := by decide +kernel
theorem dX4_searchIn_75 : decode cX4_searchIn 75 = .ok (.getfield 17, 3) := by decide +kernel
theorem dX4_searchIn_78 : decode cX4_searchIn 78 = .ok (.arraylength, 1) := by decide +kernel
theorem dX4_searchIn_79 : decode cX4_searchIn 79 = .ok (.if_icmp .le 17, 3) := by decide +kernel
theorem dX4_searchIn_82 : decode cX4_searchIn 82 = .ok (.aload_n 0, 1) := by decide +kernel
theorem dX4_searchIn_83 : decode cX4_searchIn 83 = .ok (.iload_n 2, 1) := by decide +kernel
theorem dX4_searchIn_84 : decode cX4_searchIn 84 = .ok (.newarray .int, 2) := by decide +kernel
theorem dX4_searchIn_86 : decode cX4_searchIn 86 = .ok (.putfield 17, 3) := by decide +kernel
theorem dX4_searchIn_89 : decode cX4_searchIn 89 = .ok (.aload_n 0, 1) := by decide +kernel
theorem dX4_searchIn_90 : decode cX4_searchIn 90 = .ok (.iload_n 2, 1) := by decide +kernel
theorem dX4_searchIn_91 : decode cX4_searchIn 91 = .ok (.newarray .int, 2) := by decide +kernel
theorem dX4_searchIn_93 : decode cX4_searchIn 93 = .ok (.putfield 21, 3) := by decide +kernel
theorem dX4_searchIn_96 : decode cX4_searchIn 96 = .ok (.aload_n 0, 1) := by decide +kernel
theorem dX4_searchIn_97 : decode cX4_searchIn 97 = .ok (.getfield 55, 3) := by decide +kernel
theorem dX4_searchIn_100 : decode cX4_searchIn 100 = .ok (.aload_n 0, 1) := by decide +kernel
theorem dX4_searchIn_101 : decode cX4_searchIn 101 = .ok (.getfield 17, 3) := by decide +kernel
theorem dX4_searchIn_104 : decode cX4_searchIn 104 = .ok (.aload_n 0, 1) := by decide +kernel
theorem dX4_searchIn_105 : decode cX4_searchIn 105 = .ok (.getfield 21, 3) := by decide +kernel
theorem dX4_searchIn_108 : decode cX4_searchIn 108 = .ok (.iload_n 2, 1) := by decide +kernel
theorem dX4_searchIn_109 : decode cX4_searchIn 109 = .ok (.invokevirtual 66, 3) := by decide +kernel
theorem dX4_searchIn_112 : decode cX4_searchIn 112 = .ok (.aload_n 0, 1) := by decide +kernel
theorem dX4_searchIn_113 : decode cX4_searchIn 113 = .ok (.iload_n 2, 1) := by decide +kernel
theorem dX4_searchIn_114 : decode cX4_searchIn 114 = .ok (.putfield 36, 3) := by decide +kernel
theorem dX4_searchIn_117 : decode cX4_searchIn 117 = .ok (.aload_n 0, 1) := by decide +kernel
theorem dX4_searchIn_118 : decode cX4_searchIn 118 = .ok (.aload_n 1, 1) := by decide +kernel
theorem dX4_searchIn_119 : decode cX4_searchIn 119 = .ok (.putfield 42, 3) := by decide +kernel
theorem dX4_searchIn_122 : decode cX4_searchIn 122 = .ok (.iload_n 2, 1) := by decide +kernel
theorem dX4_searchIn_123 : decode cX4_searchIn 123 = .ok (.ireturn, 1) := by decide +kernel
def M_X4_searchIn : y_M := (yX4_searchIn, cX4_searchIn, 3, (Option.some Jvm.ClassFile.FieldType.int))
theorem n_X4_searchIn : y_N0 M_X4_searchIn 1 := ⟨(c_5 196 (by decide +kernel) rfl), (c_1 7 (by decide +kernel) rfl), ⟨by decide +kernel, by decide +kernel⟩, by decide +kernel⟩
theorem F_BoxYard_Digging_39 : y_F "BoxYard$Digging" 39 4 5 := ⟨_, _, _, rfl, by decide, Or.inl (c_1 224 (by decide +kernel) rfl)⟩
theorem F_BoxYard_Digging_55 : y_F "BoxYard$Digging" 55 4 7 := ⟨_, _, _, rfl, by decide, Or.inl (c_1 227 (by decide +kernel) rfl)⟩
theorem l_BoxYard_Digging_62 : y_lnk "BoxYard$Digging" 62 M_X6_solve := Or.inl (c_5 235 (by decide +kernel) rfl)
theorem i_X6_solve : Cond.instanceMethod (M_X6_solve).1 ∈ y_tb := (c_5 236 (by decide +kernel) rfl)
theorem e_X6_solve : Cond.selects (M_X6_solve).1.cls (M_X6_solve).1 (M_X6_solve).1 ∈ y_tb := (c_5 237 (by decide +kernel) rfl)
theorem l_BoxYard_Digging_66 : y_lnk "BoxYard$Digging" 66 M_X6_writeRow := Or.inl (c_6 73 (by decide +kernel) rfl)
theorem i_X6_writeRow : Cond.instanceMethod (M_X6_writeRow).1 ∈ y_tb := (c_6 74 (by decide +kernel) rfl)
theorem e_X6_writeRow : Cond.selects (M_X6_writeRow).1.cls (M_X6_writeRow).1 (M_X6_writeRow).1 ∈ y_tb := (c_6 75 (by decide +kernel) rfl)
theorem Fp_BoxYard_Digging_17 {nm : String} : y_Fp "BoxYard$Digging" nm 17 4 2 := ⟨_, _, _, rfl, by decide, Or.inl ⟨rfl, Or.inl (c_1 218 (by decide +kernel) rfl)⟩⟩
theorem Fp_BoxYard_Digging_21 {nm : String} : y_Fp "BoxYard$Digging" nm 21 4 3 := ⟨_, _, _, rfl, by decide, Or.inl ⟨rfl, Or.inl (c_1 220 (by decide +kernel) rfl)⟩⟩
theorem cl_BoxYard_Digging_59 : Cond.classLink "BoxYard$Digging" 59 "BoxYard$Search" ∈ y_tb := (c_5 197 (by decide +kernel) rfl)
theorem in_c6 : Cond.instantiable "BoxYard$Search" 10 ∈ y_tb := (c_5 198 (by decide +kernel) rfl)
theorem ii_c6 : Cond.initialized "BoxYard$Search" ∈ y_tb := (c_1 15 (by decide +kernel) rfl)
theorem ok_c6 : ∀ k, k < 10 → y_okt (t_f 6 k) = true := by decide
theorem l_BoxYard_Digging_61 : y_lnk "BoxYard$Digging" 61 M_X6_init := Or.inr ⟨"BoxYard", (c_5 199 (by decide +kernel) rfl)⟩
theorem i_X6_init : Cond.instanceMethod (M_X6_init).1 ∈ y_tb := (c_5 200 (by decide +kernel) rfl)
theorem Fp_BoxYard_Digging_55 {nm : String} : y_Fp "BoxYard$Digging" nm 55 4 7 := ⟨_, _, _, rfl, by decide, Or.inl ⟨rfl, Or.inl (c_1 227 (by decide +kernel) rfl)⟩⟩
set_option maxRecDepth 100000 in
def f_X4_searchIn (p0 : Nat) (p1 : Nat) (c0 s0 : Nat) (h : y_H) : Option ((Int32 × Nat × Nat) × y_H) :=
  if y_K h p0 = 5 then
  if (y_I h p0 5) < 40 then
    if y_K h p0 = 5 then
    if y_K h p0 = 5 then
    y_bd (s_I h p0 5 ((y_I h p0 5) + 1)) (fun h1 =>
    if y_K h1 p0 = 5 then
    y_bd (s_I h1 p0 4 0) (fun h4 =>
    if y_K h4 p0 = 5 then
    y_jn (fun (v0_45 : Nat) (v1_45 : Nat) (c45 : Nat) (s45 : Nat) (h7 : y_H) => (
        if y_K h7 v0_45 = 5 then
        if (y_I h7 v0_45 1) = 0 then
          if 0 ≤ (0 : Int32) then
            if y_K h7 v0_45 = 5 then
            if y_K h7 (y_P h7 v0_45 2) = 100 then
            y_jn (fun (v0_96 : Nat) (v1_96 : Nat) (v2_96 : Int32) (c96 : Nat) (s96 : Nat) (h42 : y_H) => (
                if y_K h42 v0_96 = 5 then
                if y_K h42 v0_96 = 5 then
                if y_K h42 v0_96 = 5 then
                if y_K h42 (y_P h42 v0_96 7) = 7 then
                y_cl (f_X6_writeRow (y_P h42 v0_96 7) (y_P h42 v0_96 2) (y_P h42 v0_96 3) v2_96 h42) (fun _ h43 =>
                if y_K h43 v0_96 = 5 then
                y_bd (s_I h43 v0_96 4 v2_96) (fun h45 =>
                if y_K h45 v0_96 = 5 then
                y_bd (s_P h45 v0_96 6 v1_96) (fun h48 =>
                some ((v2_96, c96, s96), h48))
                else none)
                else none)
                else none
                else none
                else none
                else none : Option ((Int32 × Nat × Nat) × y_H))) (fun j96 =>
            if (0 : Int32) ≤ (nI (y_N h7 (y_P h7 v0_45 2))) then
              j96 v0_45 v1_45 0 c45 s45 h7
            else
              if 10 ≤ 64 * Int32.toNatClampNeg 0 + 45 ∧ y_K h7 (64 * Int32.toNatClampNeg 0 + 45) = 0 ∧ ¬ (0 : Int32) < 0 ∧ Int32.toNatClampNeg (0 : Int32) * componentBytes (t_ay 0) ≤ 536870912 then
              y_bd (s_new h7 (64 * Int32.toNatClampNeg 0 + 45) 100 (Int32.toNatClampNeg (0 : Int32))) (fun h57 =>
              if y_K h57 v0_45 = 5 then
              y_bd (s_P h57 v0_45 2 (64 * Int32.toNatClampNeg 0 + 45)) (fun h58 =>
              if 10 ≤ 64 * Int32.toNatClampNeg 0 + 46 ∧ y_K h58 (64 * Int32.toNatClampNeg 0 + 46) = 0 ∧ ¬ (0 : Int32) < 0 ∧ Int32.toNatClampNeg (0 : Int32) * componentBytes (t_ay 0) ≤ 536870912 then
              y_bd (s_new h58 (64 * Int32.toNatClampNeg 0 + 46) 100 (Int32.toNatClampNeg (0 : Int32))) (fun h63 =>
              if y_K h63 v0_45 = 5 then
              y_bd (s_P h63 v0_45 3 (64 * Int32.toNatClampNeg 0 + 46)) (fun h64 =>
              j96 v0_45 v1_45 0 (c45 + 1 + 1) (s45 + Int32.toNatClampNeg (0 : Int32) + Int32.toNatClampNeg (0 : Int32)) h64)
              else none)
              else none)
              else none)
              else none)
            else none
            else none
          else
            some (((-9 : Int32), c45, s45), h7)
        else
          if y_K h7 v0_45 = 5 then
          if y_K h7 (y_P h7 v0_45 7) = 7 then
          y_cl (f_X6_solve (y_P h7 v0_45 7) v1_45 v0_45 c45 s45 h7) (fun r8 h9 =>
          if 0 ≤ r8.1 then
            if y_K h9 v0_45 = 5 then
            if y_K h9 (y_P h9 v0_45 2) = 100 then
            y_jn (fun (v0_96 : Nat) (v1_96 : Nat) (v2_96 : Int32) (c96 : Nat) (s96 : Nat) (h11 : y_H) => (
                if y_K h11 v0_96 = 5 then
                if y_K h11 v0_96 = 5 then
                if y_K h11 v0_96 = 5 then
                if y_K h11 (y_P h11 v0_96 7) = 7 then
                y_cl (f_X6_writeRow (y_P h11 v0_96 7) (y_P h11 v0_96 2) (y_P h11 v0_96 3) v2_96 h11) (fun _ h12 =>
                if y_K h12 v0_96 = 5 then
                y_bd (s_I h12 v0_96 4 v2_96) (fun h14 =>
                if y_K h14 v0_96 = 5 then
                y_bd (s_P h14 v0_96 6 v1_96) (fun h17 =>
                some ((v2_96, c96, s96), h17))
                else none)
                else none)
                else none
                else none
                else none
                else none : Option ((Int32 × Nat × Nat) × y_H))) (fun j96 =>
            if r8.1 ≤ (nI (y_N h9 (y_P h9 v0_45 2))) then
              j96 v0_45 v1_45 r8.1 r8.2.1 r8.2.2 h9
            else
              if 10 ≤ 64 * Int32.toNatClampNeg r8.1 + 45 ∧ y_K h9 (64 * Int32.toNatClampNeg r8.1 + 45) = 0 ∧ ¬ r8.1 < 0 ∧ Int32.toNatClampNeg r8.1 * componentBytes (t_ay 0) ≤ 536870912 then
              y_bd (s_new h9 (64 * Int32.toNatClampNeg r8.1 + 45) 100 (Int32.toNatClampNeg r8.1)) (fun h26 =>
              if y_K h26 v0_45 = 5 then
              y_bd (s_P h26 v0_45 2 (64 * Int32.toNatClampNeg r8.1 + 45)) (fun h27 =>
              if 10 ≤ 64 * Int32.toNatClampNeg r8.1 + 46 ∧ y_K h27 (64 * Int32.toNatClampNeg r8.1 + 46) = 0 ∧ ¬ r8.1 < 0 ∧ Int32.toNatClampNeg r8.1 * componentBytes (t_ay 0) ≤ 536870912 then
              y_bd (s_new h27 (64 * Int32.toNatClampNeg r8.1 + 46) 100 (Int32.toNatClampNeg r8.1)) (fun h32 =>
              if y_K h32 v0_45 = 5 then
              y_bd (s_P h32 v0_45 3 (64 * Int32.toNatClampNeg r8.1 + 46)) (fun h33 =>
              j96 v0_45 v1_45 r8.1 (r8.2.1 + 1 + 1) (r8.2.2 + Int32.toNatClampNeg r8.1 + Int32.toNatClampNeg r8.1) h33)
              else none)
              else none)
              else none)
              else none)
            else none
            else none
          else
            some (((-9 : Int32), r8.2.1, r8.2.2), h9))
          else none
          else none
        else none : Option ((Int32 × Nat × Nat) × y_H))) (fun j45 =>
    if (y_P h4 p0 7) = 0 then
      if 10 ≤ 17 ∧ y_K h4 17 = 0 then
      y_bd (s_new h4 17 7 10) (fun h75 =>
      if y_K h75 17 = 7 then
      y_cl (f_X6_init 17 (c0 + 1) (s0 + 10) h75) (fun r78 h76 =>
      if y_K h76 p0 = 5 then
      y_bd (s_P h76 p0 7 17) (fun h79 =>
      j45 p0 p1 r78.2.1 r78.2.2 h79)
      else none)
      else none)
      else none
    else
      j45 p0 p1 c0 s0 h4)
    else none)
    else none)
    else none
    else none
  else
    some (((-4 : Int32), c0, s0), h)
  else none
abbrev FF_X4_searchIn : Nat := 6
abbrev LL_X4_searchIn : Nat := 196
set_option maxRecDepth 100000 in
set_option maxHeartbeats 4000000 in
theorem k_X4_searchIn {l : Launch} {G : y_G} {p0 : Nat} {p1 : Nat} {c0 s0 cz sz : Nat} {h hz : y_H} {rz : Int32} (hf : f_X4_searchIn p0 p1 c0 s0 h = some ((rz, cz, sz), hz)) : (c0 ≤ cz ∧ s0 ≤ sz) ∧ y_S l G M_X4_searchIn (y_Rm FF_X4_searchIn LL_X4_searchIn c0 s0 cz sz) [y_p p0, y_p p1] h (some (.int rz)) hz := by
  refine y_Ustart (lv := [(0, y_p p0), (1, y_p p1)]) (by decide) (by simp [lg_sl, y_p_cat, y_ci, y_cj, M_X4_searchIn]) (by simp [lv_args, y_p_cat, y_ci, y_cj]) (fun z ad0 => ?_)
  unfold f_X4_searchIn at hf
  refine y_lf (fun _ _ _ _ k => y_aload_n (x := p0) (pc2 := 1) rfl dX4_searchIn_0 rfl k) ?_
  obtain ⟨g87, hf⟩ := y_g hf
  refine y_lf (fun _ _ _ _ k => y_getI (pc2 := 4) rfl dX4_searchIn_1 F_BoxYard_Digging_39 (by decide) rfl g87 k) ?_
  refine y_lf (fun _ _ _ _ k => y_bipush (v := 40) (pc2 := 6) rfl dX4_searchIn_4 (by decide) k) ?_
  refine y_lf2 (Classical.em _) (fun _ _ k1 k2 => y_icmp_lt (tgt := 12) (pc2 := 9) rfl dX4_searchIn_6 (by decide) k1 k2) (fun c86 => ?_) (fun c86 => ?_)
  · replace hf := y_it c86 hf
    refine y_lf (fun _ _ _ _ k => y_aload_n (x := p0) (pc2 := 13) rfl dX4_searchIn_12 rfl k) ?_
    refine y_lf (fun _ _ _ _ k => y_dup (pc2 := 14) rfl dX4_searchIn_13 (y_p_cat _) k) ?_
    obtain ⟨g85, hf⟩ := y_g hf
    refine y_lf (fun _ _ _ _ k => y_getI (pc2 := 17) rfl dX4_searchIn_14 F_BoxYard_Digging_39 (by decide) rfl g85 k) ?_
    refine y_lf (fun _ _ _ _ k => y_iconst (v := 1) (pc2 := 18) rfl dX4_searchIn_17 (by decide) k) ?_
    refine y_lf (fun _ _ _ _ k => y_iadd (pc2 := 19) rfl dX4_searchIn_18 k) ?_
    obtain ⟨g3, hf⟩ := y_g hf
    obtain ⟨h1, e2, hf⟩ := y_bdE hf
    refine y_lf (fun _ _ _ _ k => y_putI (x := (y_I h p0 5) + 1) (pc2 := 22) rfl dX4_searchIn_19 Fp_BoxYard_Digging_39 (by decide) rfl g3 e2 k) ?_
    refine y_lf (fun _ _ _ _ k => y_aload_n (x := p0) (pc2 := 23) rfl dX4_searchIn_22 rfl k) ?_
    refine y_lf (fun _ _ _ _ k => y_iconst (v := 0) (pc2 := 24) rfl dX4_searchIn_23 (by decide) k) ?_
    obtain ⟨g6, hf⟩ := y_g hf
    obtain ⟨h4, e5, hf⟩ := y_bdE hf
    refine y_lf (fun _ _ _ _ k => y_putI (x := 0) (pc2 := 27) rfl dX4_searchIn_24 Fp_BoxYard_Digging_36 (by decide) rfl g6 e5 k) ?_
    refine y_lf (fun _ _ _ _ k => y_aload_n (x := p0) (pc2 := 28) rfl dX4_searchIn_27 rfl k) ?_
    obtain ⟨g84, hf⟩ := y_g hf
    refine y_lf (fun _ _ _ _ k => y_getP (pc2 := 31) rfl dX4_searchIn_28 F_BoxYard_Digging_55 (by decide) rfl g84 k) ?_
    refine y_jnE hf (fun j => ∀ (v0_45 : Nat) (v1_45 : Nat) (c45 : Nat) (s45 : Nat) (h7 : y_H), j v0_45 v1_45 c45 s45 h7 = some ((rz, cz, sz), hz) → y_U l G z FF_X4_searchIn LL_X4_searchIn (cz - c0) (sz - s0) c0 s0 cz sz M_X4_searchIn ad0 h (some (.int rz)) hz 45 [(0, y_p v0_45), (1, y_p v1_45)] [] h7 c45 s45) (fun v0_45 v1_45 c45 s45 h7 hf => ?_) (fun j45 hj45 hf => ?_)
    · refine y_lf (fun _ _ _ _ k => y_aload_n (x := v0_45) (pc2 := 46) rfl dX4_searchIn_45 rfl k) ?_
      obtain ⟨g72, hf⟩ := y_g hf
      refine y_lf (fun _ _ _ _ k => y_getI (pc2 := 49) rfl dX4_searchIn_46 F_BoxYard_Digging_32 (by decide) rfl g72 k) ?_
      refine y_lf2 (Classical.em _).symm (fun _ _ k1 k2 => y_if_ne (tgt := 56) (pc2 := 52) rfl dX4_searchIn_49 (by decide) k1 k2) (fun c71 => ?_) (fun c71 => ?_)
      · replace hf := y_ie c71 hf
        refine y_lf (fun _ _ _ _ k => y_aload_n (x := v0_45) (pc2 := 57) rfl dX4_searchIn_56 rfl k) ?_
        obtain ⟨g41, hf⟩ := y_g hf
        refine y_lf (fun _ _ _ _ k => y_getP (pc2 := 60) rfl dX4_searchIn_57 F_BoxYard_Digging_55 (by decide) rfl g41 k) ?_
        refine y_lf (fun _ _ _ _ k => y_aload_n (x := v1_45) (pc2 := 61) rfl dX4_searchIn_60 rfl k) ?_
        refine y_lf (fun _ _ _ _ k => y_aload_n (x := v0_45) (pc2 := 62) rfl dX4_searchIn_61 rfl k) ?_
        obtain ⟨g40, hf⟩ := y_g hf
        obtain ⟨r8, h9, c10, hf⟩ := y_clE hf
        refine y_UcallV (As := [y_p v1_45, y_p v0_45]) (pc2 := 65) rfl dX4_searchIn_62 n_X6_solve l_BoxYard_Digging_62 i_X6_solve e_X6_solve (ci := 6) rfl rfl (by decide) g40 rfl rfl (by decide) (by decide) (k_X6_solve c10) ?_
        refine y_lf (fun _ _ _ _ k => y_istore_n (lv' := [(2, .int r8.1), (0, y_p v0_45), (1, y_p v1_45)]) (pc2 := 66) rfl dX4_searchIn_65 (by decide) (by show y_st1 _ 2 _ = _; simp [y_st1, y_p_cat, y_ci, y_cj]) k) ?_
        refine y_lf (fun _ _ _ _ k => y_iload_n (pc2 := 67) rfl dX4_searchIn_66 rfl k) ?_
        refine y_lf2 (Classical.em _) (fun _ _ k1 k2 => y_if_ge (tgt := 73) (pc2 := 70) rfl dX4_searchIn_67 (by decide) k1 k2) (fun c39 => ?_) (fun c39 => ?_)
        · replace hf := y_it c39 hf
          refine y_lf (fun _ _ _ _ k => y_iload_n (pc2 := 74) rfl dX4_searchIn_73 rfl k) ?_
          refine y_lf (fun _ _ _ _ k => y_aload_n (x := v0_45) (pc2 := 75) rfl dX4_searchIn_74 rfl k) ?_
          obtain ⟨g38, hf⟩ := y_g hf
          refine y_lf (fun _ _ _ _ k => y_getP (pc2 := 78) rfl dX4_searchIn_75 F_BoxYard_Digging_17 (by decide) rfl g38 k) ?_
          obtain ⟨g37, hf⟩ := y_g hf
          refine y_lf (fun _ _ _ _ k => y_alen (t := 0) (pc2 := 79) rfl dX4_searchIn_78 (by decide) g37 k) ?_
          refine y_jnE hf (fun j => ∀ (v0_96 : Nat) (v1_96 : Nat) (v2_96 : Int32) (c96 : Nat) (s96 : Nat) (h11 : y_H), j v0_96 v1_96 v2_96 c96 s96 h11 = some ((rz, cz, sz), hz) → y_U l G z FF_X4_searchIn LL_X4_searchIn (cz - c0) (sz - s0) c0 s0 cz sz M_X4_searchIn ad0 h (some (.int rz)) hz 96 [(0, y_p v0_96), (1, y_p v1_96), (2, .int v2_96)] [] h11 c96 s96) (fun v0_96 v1_96 v2_96 c96 s96 h11 hf => ?_) (fun j96 hj96 hf => ?_)
          · refine y_lf (fun _ _ _ _ k => y_aload_n (x := v0_96) (pc2 := 97) rfl dX4_searchIn_96 rfl k) ?_
            obtain ⟨g23, hf⟩ := y_g hf
            refine y_lf (fun _ _ _ _ k => y_getP (pc2 := 100) rfl dX4_searchIn_97 F_BoxYard_Digging_55 (by decide) rfl g23 k) ?_
            refine y_lf (fun _ _ _ _ k => y_aload_n (x := v0_96) (pc2 := 101) rfl dX4_searchIn_100 rfl k) ?_
            obtain ⟨g22, hf⟩ := y_g hf
            refine y_lf (fun _ _ _ _ k => y_getP (pc2 := 104) rfl dX4_searchIn_101 F_BoxYard_Digging_17 (by decide) rfl g22 k) ?_
            refine y_lf (fun _ _ _ _ k => y_aload_n (x := v0_96) (pc2 := 105) rfl dX4_searchIn_104 rfl k) ?_
            obtain ⟨g21, hf⟩ := y_g hf
            refine y_lf (fun _ _ _ _ k => y_getP (pc2 := 108) rfl dX4_searchIn_105 F_BoxYard_Digging_21 (by decide) rfl g21 k) ?_
            refine y_lf (fun _ _ _ _ k => y_iload_n (pc2 := 109) rfl dX4_searchIn_108 rfl k) ?_
            obtain ⟨g20, hf⟩ := y_g hf
            obtain ⟨r_, h12, c13, hf⟩ := y_clE hf
            refine y_UcV0 (As := [y_p (y_P h11 v0_96 2), y_p (y_P h11 v0_96 3), .int v2_96]) (rm := rm_X6_writeRow) (pc2 := 112) rfl dX4_searchIn_109 n_X6_writeRow l_BoxYard_Digging_66 i_X6_writeRow e_X6_writeRow (ci := 6) rfl rfl (by decide) g20 rfl rfl (by decide) (by decide) rfl rfl (k_X6_writeRow c13) ?_
            refine y_lf (fun _ _ _ _ k => y_aload_n (x := v0_96) (pc2 := 113) rfl dX4_searchIn_112 rfl k) ?_
            refine y_lf (fun _ _ _ _ k => y_iload_n (pc2 := 114) rfl dX4_searchIn_113 rfl k) ?_
            obtain ⟨g16, hf⟩ := y_g hf
            obtain ⟨h14, e15, hf⟩ := y_bdE hf
            refine y_lf (fun _ _ _ _ k => y_putI (x := v2_96) (pc2 := 117) rfl dX4_searchIn_114 Fp_BoxYard_Digging_36 (by decide) rfl g16 e15 k) ?_
            refine y_lf (fun _ _ _ _ k => y_aload_n (x := v0_96) (pc2 := 118) rfl dX4_searchIn_117 rfl k) ?_
            refine y_lf (fun _ _ _ _ k => y_aload_n (x := v1_96) (pc2 := 119) rfl dX4_searchIn_118 rfl k) ?_
            obtain ⟨g19, hf⟩ := y_g hf
            obtain ⟨h17, e18, hf⟩ := y_bdE hf
            refine y_lf (fun _ _ _ _ k => y_putP (x := v1_96) (pc2 := 122) rfl dX4_searchIn_119 Fp_BoxYard_Digging_42 (by decide) rfl g19 e18 k) ?_
            refine y_lf (fun _ _ _ _ k => y_iload_n (pc2 := 123) rfl dX4_searchIn_122 rfl k) ?_
            exact y_iretU hf dX4_searchIn_123 rfl
          · refine y_lf2 (Classical.em _) (fun _ _ k1 k2 => y_icmp_le (tgt := 96) (pc2 := 82) rfl dX4_searchIn_79 (by decide) k1 k2) (fun c36 => ?_) (fun c36 => ?_)
            · replace hf := y_it c36 hf
              exact y_lf (fun _ _ _ _ k => y_pk [1, 2, 0] rfl k) (hj96 _ _ _ _ _ _ hf)
            · replace hf := y_ie c36 hf
              refine y_lf (fun _ _ _ _ k => y_aload_n (x := v0_45) (pc2 := 83) rfl dX4_searchIn_82 rfl k) ?_
              refine y_lf (fun _ _ _ _ k => y_iload_n (pc2 := 84) rfl dX4_searchIn_83 rfl k) ?_
              obtain ⟨g24, hf⟩ := y_g hf
              obtain ⟨h26, e25, hf⟩ := y_bdE hf
              refine y_Unewa (t := 0) (n := 64 * Int32.toNatClampNeg r8.1 + 45) (pc2 := 86) rfl dX4_searchIn_84 (by decide) rfl rfl rfl ac_0 g24 e25 ?_
              obtain ⟨g29, hf⟩ := y_g hf
              obtain ⟨h27, e28, hf⟩ := y_bdE hf
              refine y_lf (fun _ _ _ _ k => y_putP (x := 64 * Int32.toNatClampNeg r8.1 + 45) (pc2 := 89) rfl dX4_searchIn_86 Fp_BoxYard_Digging_17 (by decide) rfl g29 e28 k) ?_
              refine y_lf (fun _ _ _ _ k => y_aload_n (x := v0_45) (pc2 := 90) rfl dX4_searchIn_89 rfl k) ?_
              refine y_lf (fun _ _ _ _ k => y_iload_n (pc2 := 91) rfl dX4_searchIn_90 rfl k) ?_
              obtain ⟨g30, hf⟩ := y_g hf
              obtain ⟨h32, e31, hf⟩ := y_bdE hf
              refine y_Unewa (t := 0) (n := 64 * Int32.toNatClampNeg r8.1 + 46) (pc2 := 93) rfl dX4_searchIn_91 (by decide) rfl rfl rfl ac_0 g30 e31 ?_
              obtain ⟨g35, hf⟩ := y_g hf
              obtain ⟨h33, e34, hf⟩ := y_bdE hf
              refine y_lf (fun _ _ _ _ k => y_putP (x := 64 * Int32.toNatClampNeg r8.1 + 46) (pc2 := 96) rfl dX4_searchIn_93 Fp_BoxYard_Digging_21 (by decide) rfl g35 e34 k) ?_
              exact y_lf (fun _ _ _ _ k => y_pk [1, 2, 0] rfl k) (hj96 _ _ _ _ _ _ hf)
        · replace hf := y_ie c39 hf
          refine y_lf (fun _ _ _ _ k => y_bipush (v := (-9 : Int32)) (pc2 := 72) rfl dX4_searchIn_70 (by decide) k) ?_
          exact y_iretU hf dX4_searchIn_72 rfl
      · replace hf := y_it c71 hf
        refine y_lf (fun _ _ _ _ k => y_iconst (v := 0) (pc2 := 53) rfl dX4_searchIn_52 (by decide) k) ?_
        refine y_lf (fun _ _ _ _ k => y_goto (tgt := 65) dX4_searchIn_53 (by decide) k) ?_
        refine y_lf (fun _ _ _ _ k => y_istore_n (lv' := [(2, .int 0), (0, y_p v0_45), (1, y_p v1_45)]) (pc2 := 66) rfl dX4_searchIn_65 (by decide) (by show y_st1 _ 2 _ = _; simp [y_st1, y_p_cat, y_ci, y_cj]) k) ?_
        refine y_lf (fun _ _ _ _ k => y_iload_n (pc2 := 67) rfl dX4_searchIn_66 rfl k) ?_
        refine y_lf2 (Classical.em _) (fun _ _ k1 k2 => y_if_ge (tgt := 73) (pc2 := 70) rfl dX4_searchIn_67 (by decide) k1 k2) (fun c70 => ?_) (fun c70 => ?_)
        · replace hf := y_it c70 hf
          refine y_lf (fun _ _ _ _ k => y_iload_n (pc2 := 74) rfl dX4_searchIn_73 rfl k) ?_
          refine y_lf (fun _ _ _ _ k => y_aload_n (x := v0_45) (pc2 := 75) rfl dX4_searchIn_74 rfl k) ?_
          obtain ⟨g69, hf⟩ := y_g hf
          refine y_lf (fun _ _ _ _ k => y_getP (pc2 := 78) rfl dX4_searchIn_75 F_BoxYard_Digging_17 (by decide) rfl g69 k) ?_
          obtain ⟨g68, hf⟩ := y_g hf
          refine y_lf (fun _ _ _ _ k => y_alen (t := 0) (pc2 := 79) rfl dX4_searchIn_78 (by decide) g68 k) ?_
          refine y_jnE hf (fun j => ∀ (v0_96 : Nat) (v1_96 : Nat) (v2_96 : Int32) (c96 : Nat) (s96 : Nat) (h42 : y_H), j v0_96 v1_96 v2_96 c96 s96 h42 = some ((rz, cz, sz), hz) → y_U l G z FF_X4_searchIn LL_X4_searchIn (cz - c0) (sz - s0) c0 s0 cz sz M_X4_searchIn ad0 h (some (.int rz)) hz 96 [(0, y_p v0_96), (1, y_p v1_96), (2, .int v2_96)] [] h42 c96 s96) (fun v0_96 v1_96 v2_96 c96 s96 h42 hf => ?_) (fun j96 hj96 hf => ?_)
          · refine y_lf (fun _ _ _ _ k => y_aload_n (x := v0_96) (pc2 := 97) rfl dX4_searchIn_96 rfl k) ?_
            obtain ⟨g54, hf⟩ := y_g hf
            refine y_lf (fun _ _ _ _ k => y_getP (pc2 := 100) rfl dX4_searchIn_97 F_BoxYard_Digging_55 (by decide) rfl g54 k) ?_
            refine y_lf (fun _ _ _ _ k => y_aload_n (x := v0_96) (pc2 := 101) rfl dX4_searchIn_100 rfl k) ?_
            obtain ⟨g53, hf⟩ := y_g hf
            refine y_lf (fun _ _ _ _ k => y_getP (pc2 := 104) rfl dX4_searchIn_101 F_BoxYard_Digging_17 (by decide) rfl g53 k) ?_
            refine y_lf (fun _ _ _ _ k => y_aload_n (x := v0_96) (pc2 := 105) rfl dX4_searchIn_104 rfl k) ?_
            obtain ⟨g52, hf⟩ := y_g hf
            refine y_lf (fun _ _ _ _ k => y_getP (pc2 := 108) rfl dX4_searchIn_105 F_BoxYard_Digging_21 (by decide) rfl g52 k) ?_
            refine y_lf (fun _ _ _ _ k => y_iload_n (pc2 := 109) rfl dX4_searchIn_108 rfl k) ?_
            obtain ⟨g51, hf⟩ := y_g hf
            obtain ⟨r_, h43, c44, hf⟩ := y_clE hf
            refine y_UcV0 (As := [y_p (y_P h42 v0_96 2), y_p (y_P h42 v0_96 3), .int v2_96]) (rm := rm_X6_writeRow) (pc2 := 112) rfl dX4_searchIn_109 n_X6_writeRow l_BoxYard_Digging_66 i_X6_writeRow e_X6_writeRow (ci := 6) rfl rfl (by decide) g51 rfl rfl (by decide) (by decide) rfl rfl (k_X6_writeRow c44) ?_
            refine y_lf (fun _ _ _ _ k => y_aload_n (x := v0_96) (pc2 := 113) rfl dX4_searchIn_112 rfl k) ?_
            refine y_lf (fun _ _ _ _ k => y_iload_n (pc2 := 114) rfl dX4_searchIn_113 rfl k) ?_
            obtain ⟨g47, hf⟩ := y_g hf
            obtain ⟨h45, e46, hf⟩ := y_bdE hf
            refine y_lf (fun _ _ _ _ k => y_putI (x := v2_96) (pc2 := 117) rfl dX4_searchIn_114 Fp_BoxYard_Digging_36 (by decide) rfl g47 e46 k) ?_
            refine y_lf (fun _ _ _ _ k => y_aload_n (x := v0_96) (pc2 := 118) rfl dX4_searchIn_117 rfl k) ?_
            refine y_lf (fun _ _ _ _ k => y_aload_n (x := v1_96) (pc2 := 119) rfl dX4_searchIn_118 rfl k) ?_
            obtain ⟨g50, hf⟩ := y_g hf
            obtain ⟨h48, e49, hf⟩ := y_bdE hf
            refine y_lf (fun _ _ _ _ k => y_putP (x := v1_96) (pc2 := 122) rfl dX4_searchIn_119 Fp_BoxYard_Digging_42 (by decide) rfl g50 e49 k) ?_
            refine y_lf (fun _ _ _ _ k => y_iload_n (pc2 := 123) rfl dX4_searchIn_122 rfl k) ?_
            exact y_iretU hf dX4_searchIn_123 rfl
          · refine y_lf2 (Classical.em _) (fun _ _ k1 k2 => y_icmp_le (tgt := 96) (pc2 := 82) rfl dX4_searchIn_79 (by decide) k1 k2) (fun c67 => ?_) (fun c67 => ?_)
            · replace hf := y_it c67 hf
              exact y_lf (fun _ _ _ _ k => y_pk [1, 2, 0] rfl k) (hj96 _ _ _ _ _ _ hf)
            · replace hf := y_ie c67 hf
              refine y_lf (fun _ _ _ _ k => y_aload_n (x := v0_45) (pc2 := 83) rfl dX4_searchIn_82 rfl k) ?_
              refine y_lf (fun _ _ _ _ k => y_iload_n (pc2 := 84) rfl dX4_searchIn_83 rfl k) ?_
              obtain ⟨g55, hf⟩ := y_g hf
              obtain ⟨h57, e56, hf⟩ := y_bdE hf
              refine y_Unewa (t := 0) (n := 64 * Int32.toNatClampNeg 0 + 45) (pc2 := 86) rfl dX4_searchIn_84 (by decide) rfl rfl rfl ac_0 g55 e56 ?_
              obtain ⟨g60, hf⟩ := y_g hf
              obtain ⟨h58, e59, hf⟩ := y_bdE hf
              refine y_lf (fun _ _ _ _ k => y_putP (x := 64 * Int32.toNatClampNeg 0 + 45) (pc2 := 89) rfl dX4_searchIn_86 Fp_BoxYard_Digging_17 (by decide) rfl g60 e59 k) ?_
              refine y_lf (fun _ _ _ _ k => y_aload_n (x := v0_45) (pc2 := 90) rfl dX4_searchIn_89 rfl k) ?_
              refine y_lf (fun _ _ _ _ k => y_iload_n (pc2 := 91) rfl dX4_searchIn_90 rfl k) ?_
              obtain ⟨g61, hf⟩ := y_g hf
              obtain ⟨h63, e62, hf⟩ := y_bdE hf
              refine y_Unewa (t := 0) (n := 64 * Int32.toNatClampNeg 0 + 46) (pc2 := 93) rfl dX4_searchIn_91 (by decide) rfl rfl rfl ac_0 g61 e62 ?_
              obtain ⟨g66, hf⟩ := y_g hf
              obtain ⟨h64, e65, hf⟩ := y_bdE hf
              refine y_lf (fun _ _ _ _ k => y_putP (x := 64 * Int32.toNatClampNeg 0 + 46) (pc2 := 96) rfl dX4_searchIn_93 Fp_BoxYard_Digging_21 (by decide) rfl g66 e65 k) ?_
              exact y_lf (fun _ _ _ _ k => y_pk [1, 2, 0] rfl k) (hj96 _ _ _ _ _ _ hf)
        · replace hf := y_ie c70 hf
          refine y_lf (fun _ _ _ _ k => y_bipush (v := (-9 : Int32)) (pc2 := 72) rfl dX4_searchIn_70 (by decide) k) ?_
          exact y_iretU hf dX4_searchIn_72 rfl
    · refine y_lf2 (Classical.em _).symm (fun _ _ k1 k2 => y_ifnonnull (tgt := 45) (pc2 := 34) rfl dX4_searchIn_31 (by decide) k1 k2) (fun c83 => ?_) (fun c83 => ?_)
      · replace hf := y_ie c83 hf
        exact y_lf (fun _ _ _ _ k => y_pk [0, 1] rfl k) (hj45 _ _ _ _ _ hf)
      · replace hf := y_it c83 hf
        refine y_lf (fun _ _ _ _ k => y_aload_n (x := p0) (pc2 := 35) rfl dX4_searchIn_34 rfl k) ?_
        obtain ⟨g73, hf⟩ := y_g hf
        obtain ⟨h75, e74, hf⟩ := y_bdE hf
        refine y_Unew (n := 17) (pc2 := 38) rfl dX4_searchIn_35 cl_BoxYard_Digging_59 in_c6 ii_c6 rfl (by decide) ok_c6 g73 e74 ?_
        refine y_lf (fun _ _ _ _ k => y_dup (pc2 := 39) rfl dX4_searchIn_38 (y_p_cat _) k) ?_
        obtain ⟨g82, hf⟩ := y_g hf
        obtain ⟨r78, h76, c77, hf⟩ := y_clE hf
        refine y_UcallI (As := []) (pc2 := 42) rfl dX4_searchIn_39 n_X6_init rfl rfl l_BoxYard_Digging_61 i_X6_init g82 rfl rfl (by decide) (by simp [y_ci, y_cj, y_p_cat]) (k_X6_init c77) ?_
        obtain ⟨g81, hf⟩ := y_g hf
        obtain ⟨h79, e80, hf⟩ := y_bdE hf
        refine y_lf (fun _ _ _ _ k => y_putP (x := 17) (pc2 := 45) rfl dX4_searchIn_42 Fp_BoxYard_Digging_55 (by decide) rfl g81 e80 k) ?_
        exact y_lf (fun _ _ _ _ k => y_pk [0, 1] rfl k) (hj45 _ _ _ _ _ hf)
  · replace hf := y_ie c86 hf
    refine y_lf (fun _ _ _ _ k => y_bipush (v := (-4 : Int32)) (pc2 := 11) rfl dX4_searchIn_9 (by decide) k) ?_
    exact y_iretU hf dX4_searchIn_11 rfl
theorem dX5_init_0 : decode cX5_init 0 = .ok (.aload_n 0, 1) := by decide +kernel
theorem dX5_init_1 : decode cX5_init 1 = .ok (.invokespecial 1, 3) := by decide +kernel
theorem dX5_init_4 : decode cX5_init 4 = .ok (.aload_n 0, 1) := by decide +kernel
theorem dX5_init_5 : decode cX5_init 5 = .ok (.bipush 60, 2) := by decide +kernel
theorem dX5_init_7 : decode cX5_init 7 = .ok (.anewarray 9, 3) := by decide +kernel
theorem dX5_init_10 : decode cX5_init 10 = .ok (.putfield 11, 3) := by decide +kernel
theorem dX5_init_13 : decode cX5_init 13 = .ok (.aload_n 0, 1) := by decide +kernel
theorem dX5_init_14 : decode cX5_init 14 = .ok (.new 9, 3) := by decide +kernel
theorem dX5_init_17 : decode cX5_init 17 = .ok (.dup, 1) := by decide +kernel
theorem dX5_init_18 : decode cX5_init 18 = .ok (.invokespecial 15, 3) := by decide +kernel
theorem dX5_init_21 : decode cX5_init 21 = .ok (.putfield 16, 3) := by decide +kernel
theorem dX5_init_24 : decode cX5_init 24 = .ok (.return_, 1) := by decide +kernel
def M_X5_init : y_M := (yX5_init, cX5_init, 1, (Option.none : Option Jvm.ClassFile.FieldType))
theorem n_X5_init : y_N0 M_X5_init 0 := ⟨(c_1 111 (by decide +kernel) rfl), (c_1 5 (by decide +kernel) rfl), ⟨by decide +kernel, by decide +kernel⟩, by decide +kernel⟩
theorem l_BoxYard_Journal_1 : Cond.methodLink "BoxYard$Journal" 1 Lib.objectInit ∈ y_tb := (c_1 112 (by decide +kernel) rfl)
theorem cl_BoxYard_Journal_9 : Cond.classLink "BoxYard$Journal" 9 "BoxYard$Act" ∈ y_tb := (c_1 113 (by decide +kernel) rfl)
theorem ao_7 : Cond.arrayOver (.object "BoxYard$Act") ∈ y_tb := (c_1 114 (by decide +kernel) rfl)
theorem Fp_BoxYard_Journal_11_i : y_Fp "BoxYard$Journal" "<init>" 11 5 0 := ⟨_, _, _, rfl, by decide, Or.inr ⟨rfl, rfl, rfl, (c_1 189 (by decide +kernel) rfl)⟩⟩
theorem in_c0 : Cond.instantiable "BoxYard$Act" 14 ∈ y_tb := (c_1 115 (by decide +kernel) rfl)
theorem ii_c0 : Cond.initialized "BoxYard$Act" ∈ y_tb := (c_1 6 (by decide +kernel) rfl)
theorem ok_c0 : ∀ k, k < 14 → y_okt (t_f 0 k) = true := by decide
theorem l_BoxYard_Journal_15 : y_lnk "BoxYard$Journal" 15 M_X0_init := Or.inr ⟨"BoxYard", (c_1 116 (by decide +kernel) rfl)⟩
theorem i_X0_init : Cond.instanceMethod (M_X0_init).1 ∈ y_tb := (c_1 117 (by decide +kernel) rfl)
theorem Fp_BoxYard_Journal_16_i : y_Fp "BoxYard$Journal" "<init>" 16 5 1 := ⟨_, _, _, rfl, by decide, Or.inr ⟨rfl, rfl, rfl, (c_1 190 (by decide +kernel) rfl)⟩⟩
set_option maxRecDepth 100000 in
def f_X5_init (p0 : Nat) (c0 s0 : Nat) (h : y_H) : Option ((Unit × Nat × Nat) × y_H) :=
  if y_K h p0 = 6 then
  if 10 ≤ 37 ∧ y_K h 37 = 0 ∧ ¬ (60 : Int32) < 0 ∧ Int32.toNatClampNeg (60 : Int32) * 4 ≤ 536870912 then
  y_bd (s_new h 37 107 (Int32.toNatClampNeg (60 : Int32))) (fun h4 =>
  if y_K h4 p0 = 6 then
  y_bd (s_P h4 p0 0 37) (fun h5 =>
  if 10 ≤ 18 ∧ y_K h5 18 = 0 then
  y_bd (s_new h5 18 1 14) (fun h10 =>
  if y_K h10 18 = 1 then
  y_cl (f_X0_init 18 h10) (fun _ h11 =>
  if y_K h11 p0 = 6 then
  y_bd (s_P h11 p0 1 18) (fun h13 =>
  some (((), c0 + 1 + 1, s0 + Int32.toNatClampNeg (60 : Int32) + 14), h13))
  else none)
  else none)
  else none)
  else none)
  else none
  else none
abbrev FF_X5_init : Nat := 2
abbrev LL_X5_init : Nat := 41
set_option maxRecDepth 100000 in
set_option maxHeartbeats 4000000 in
theorem k_X5_init {l : Launch} {G : y_G} {p0 : Nat} {c0 s0 cz sz : Nat} {h hz : y_H} {rz : Unit} (hf : f_X5_init p0 c0 s0 h = some ((rz, cz, sz), hz)) : (c0 ≤ cz ∧ s0 ≤ sz) ∧ y_S l G M_X5_init (y_Rm FF_X5_init LL_X5_init c0 s0 cz sz) [y_p p0] h none hz := by
  refine y_Ustart (lv := [(0, y_p p0)]) (by decide) (by simp [lg_sl, y_p_cat, y_ci, y_cj, M_X5_init]) (by simp [lv_args, y_p_cat, y_ci, y_cj]) (fun z ad0 => ?_)
  unfold f_X5_init at hf
  refine y_lf (fun _ _ _ _ k => y_aload_n (x := p0) (pc2 := 1) rfl dX5_init_0 rfl k) ?_
  obtain ⟨g1, hf⟩ := y_g hf
  refine y_lf (fun _ _ _ _ k => y_oinit (pc2 := 4) rfl dX5_init_1 l_BoxYard_Journal_1 (by rw [g1]; decide) (Nat.le_of_ble_eq_true rfl) (Nat.le_of_ble_eq_true rfl) (by decide) k) ?_
  refine y_lf (fun _ _ _ _ k => y_aload_n (x := p0) (pc2 := 5) rfl dX5_init_4 rfl k) ?_
  refine y_lf (fun _ _ _ _ k => y_bipush (v := 60) (pc2 := 7) rfl dX5_init_5 (by decide) k) ?_
  obtain ⟨g2, hf⟩ := y_g hf
  obtain ⟨h4, e3, hf⟩ := y_bdE hf
  refine y_Unewq (t := 7) (n := 37) (pc2 := 10) rfl dX5_init_7 (by decide) rfl cl_BoxYard_Journal_9 ao_7 g2 e3 ?_
  obtain ⟨g7, hf⟩ := y_g hf
  obtain ⟨h5, e6, hf⟩ := y_bdE hf
  refine y_lf (fun _ _ _ _ k => y_putP (x := 37) (pc2 := 13) rfl dX5_init_10 Fp_BoxYard_Journal_11_i (by decide) rfl g7 e6 k) ?_
  refine y_lf (fun _ _ _ _ k => y_aload_n (x := p0) (pc2 := 14) rfl dX5_init_13 rfl k) ?_
  obtain ⟨g8, hf⟩ := y_g hf
  obtain ⟨h10, e9, hf⟩ := y_bdE hf
  refine y_Unew (n := 18) (pc2 := 17) rfl dX5_init_14 cl_BoxYard_Journal_9 in_c0 ii_c0 rfl (by decide) ok_c0 g8 e9 ?_
  refine y_lf (fun _ _ _ _ k => y_dup (pc2 := 18) rfl dX5_init_17 (y_p_cat _) k) ?_
  obtain ⟨g16, hf⟩ := y_g hf
  obtain ⟨r_, h11, c12, hf⟩ := y_clE hf
  refine y_UcI0 (As := []) (rm := rm_X0_init) (pc2 := 21) rfl dX5_init_18 n_X0_init rfl rfl l_BoxYard_Journal_15 i_X0_init g16 rfl rfl (by decide) (by simp [y_ci, y_cj, y_p_cat]) rfl rfl (k_X0_init c12) ?_
  obtain ⟨g15, hf⟩ := y_g hf
  obtain ⟨h13, e14, hf⟩ := y_bdE hf
  refine y_lf (fun _ _ _ _ k => y_putP (x := 18) (pc2 := 24) rfl dX5_init_21 Fp_BoxYard_Journal_16_i (by decide) rfl g15 e14 k) ?_
  exact y_vretU hf dX5_init_24 rfl
theorem dX5_note_0 : decode cX5_note 0 = .ok (.aload_n 0, 1) := by decide +kernel
theorem dX5_note_1 : decode cX5_note 1 = .ok (.getfield 20, 3) := by decide +kernel
theorem dX5_note_4 : decode cX5_note 4 = .ok (.aload_n 0, 1) := by decide +kernel
theorem dX5_note_5 : decode cX5_note 5 = .ok (.getfield 24, 3) := by decide +kernel
theorem dX5_note_8 : decode cX5_note 8 = .ok (.iadd, 1) := by decide +kernel
theorem dX5_note_9 : decode cX5_note 9 = .ok (.bipush 60, 2) := by decide +kernel
theorem dX5_note_11 : decode cX5_note 11 = .ok (.irem, 1) := by decide +kernel
theorem dX5_note_12 : decode cX5_note 12 = .ok (.istore 4, 2) := by decide +kernel
theorem dX5_note_14 : decode cX5_note 14 = .ok (.aload_n 0, 1) := by decide +kernel
theorem dX5_note_15 : decode cX5_note 15 = .ok (.getfield 11, 3) := by decide +kernel
theorem dX5_note_18 : decode cX5_note 18 = .ok (.iload 4, 2) := by decide +kernel
theorem dX5_note_20 : decode cX5_note 20 = .ok (.aaload, 1) := by decide +kernel
theorem dX5_note_21 : decode cX5_note 21 = .ok (.ifnonnull 17, 3) := by decide +kernel
theorem dX5_note_24 : decode cX5_note 24 = .ok (.aload_n 0, 1) := by decide +kernel
theorem dX5_note_25 : decode cX5_note 25 = .ok (.getfield 11, 3) := by decide +kernel
theorem dX5_note_28 : decode cX5_note 28 = .ok (.iload 4, 2) := by decide +kernel
theorem dX5_note_30 : decode cX5_note 30 = .ok (.new 9, 3) := by decide +kernel
theorem dX5_note_33 : decode cX5_note 33 = .ok (.dup, 1) := by decide +kernel
theorem dX5_note_34 : decode cX5_note 34 = .ok (.invokespecial 15, 3) := by decide +kernel
theorem dX5_note_37 : decode cX5_note 37 = .ok (.aastore, 1) := by decide +kernel
theorem dX5_note_38 : decode cX5_note 38 = .ok (.aload_n 0, 1) := by decide +kernel
theorem dX5_note_39 : decode cX5_note 39 = .ok (.dup, 1) := by decide +kernel
theorem dX5_note_40 : decode cX5_note 40 = .ok (.getfield 27, 3) := by decide +kernel
theorem dX5_note_43 : decode cX5_note 43 = .ok (.iconst 1, 1) := by decide +kernel
theorem dX5_note_44 : decode cX5_note 44 = .ok (.iadd, 1) := by decide +kernel
theorem dX5_note_45 : decode cX5_note 45 = .ok (.putfield 27, 3) := by decide +kernel
theorem dX5_note_48 : decode cX5_note 48 = .ok (.aload_n 0, 1) := by decide +kernel
theorem dX5_note_49 : decode cX5_note 49 = .ok (.getfield 11, 3) := by decide +kernel
theorem dX5_note_52 : decode cX5_note 52 = .ok (.iload 4, 2) := by decide +kernel
theorem dX5_note_54 : decode cX5_note 54 = .ok (.aaload, 1) := by decide +kernel
theorem dX5_note_55 : decode cX5_note 55 = .ok (.aload_n 0, 1) := by decide +kernel
theorem dX5_note_56 : decode cX5_note 56 = .ok (.getfield 27, 3) := by decide +kernel
theorem dX5_note_59 : decode cX5_note 59 = .ok (.aload_n 1, 1) := by decide +kernel
theorem dX5_note_60 : decode cX5_note 60 = .ok (.aload_n 2, 1) := by decide +kernel
theorem dX5_note_61 : decode cX5_note 61 = .ok (.aload_n 3, 1) := by decide +kernel
theorem dX5_note_62 : decode cX5_note 62 = .ok (.invokevirtual 30, 3) := by decide +kernel
theorem dX5_note_65 : decode cX5_note 65 = .ok (.aload_n 0, 1) := by decide +kernel
theorem dX5_note_66 : decode cX5_note 66 = .ok (.getfield 24, 3) := by decide +kernel
theorem dX5_note_69 : decode cX5_note 69 = .ok (.bipush 60, 2) := by decide +kernel
theorem dX5_note_71 : decode cX5_note 71 = .ok (.if_icmp .ge 16, 3) := by decide +kernel
theorem dX5_note_74 : decode cX5_note 74 = .ok (.aload_n 0, 1) := by decide +kernel
theorem dX5_note_75 : decode cX5_note 75 = .ok (.dup, 1) := by decide +kernel
theorem dX5_note_76 : decode cX5_note 76 = .ok (.getfield 24, 3) := by decide +kernel
theorem dX5_note_79 : decode cX5_note 79 = .ok (.iconst 1, 1) := by decide +kernel
theorem dX5_note_80 : decode cX5_note 80 = .ok (.iadd, 1) := by decide +kernel
theorem dX5_note_81 : decode cX5_note 81 = .ok (.putfield 24, 3) := by decide +kernel
theorem dX5_note_84 : decode cX5_note 84 = .ok (.goto 16, 3) := by decide +kernel
theorem dX5_note_87 : decode cX5_note 87 = .ok (.aload_n 0, 1) := by decide +kernel
theorem dX5_note_88 : decode cX5_note 88 = .ok (.aload_n 0, 1) := by decide +kernel
theorem dX5_note_89 : decode cX5_note 89 = .ok (.getfield 20, 3) := by decide +kernel
theorem dX5_note_92 : decode cX5_note 92 = .ok (.iconst 1, 1) := by decide +kernel
theorem dX5_note_93 : decode cX5_note 93 = .ok (.iadd, 1) := by decide +kernel
theorem dX5_note_94 : decode cX5_note 94 = .ok (.bipush 60, 2) := by decide +kernel
theorem dX5_note_96 : decode cX5_note 96 = .ok (.irem, 1) := by decide +kernel
theorem dX5_note_97 : decode cX5_note 97 = .ok (.putfield 20, 3) := by decide +kernel
theorem dX5_note_100 : decode cX5_note 100 = .ok (.return_, 1) := by decide +kernel
def M_X5_note : y_M := (yX5_note, cX5_note, 5, (Option.none : Option Jvm.ClassFile.FieldType))
theorem n_X5_note : y_N0 M_X5_note 3 := ⟨(c_4 123 (by decide +kernel) rfl), (c_1 5 (by decide +kernel) rfl), ⟨by decide +kernel, by decide +kernel⟩, by decide +kernel⟩
theorem F_BoxYard_Journal_27 : y_F "BoxYard$Journal" 27 5 4 := ⟨_, _, _, rfl, by decide, Or.inl (c_1 194 (by decide +kernel) rfl)⟩
theorem Fp_BoxYard_Journal_27 {nm : String} : y_Fp "BoxYard$Journal" nm 27 5 4 := ⟨_, _, _, rfl, by decide, Or.inl ⟨rfl, Or.inl (c_1 194 (by decide +kernel) rfl)⟩⟩
set_option maxRecDepth 100000 in
def f_X5_note (p0 : Nat) (p1 : Nat) (p2 : Nat) (p3 : Nat) (c0 s0 : Nat) (h : y_H) : Option ((Unit × Nat × Nat) × y_H) :=
  if y_K h p0 = 6 then
  if y_K h p0 = 6 then
  if y_K h p0 = 6 then
  if y_K h (y_P h p0 0) = 107 ∧ y_ix (y_rem ((y_I h p0 2) + (y_I h p0 3)) 60) (y_N h (y_P h p0 0)) = true then
  y_jn (fun (v0_38 : Nat) (v1_38 : Nat) (v2_38 : Nat) (v3_38 : Nat) (v4_38 : Int32) (c38 : Nat) (s38 : Nat) (h1 : y_H) => (
      if y_K h1 v0_38 = 6 then
      if y_K h1 v0_38 = 6 then
      y_bd (s_I h1 v0_38 4 ((y_I h1 v0_38 4) + 1)) (fun h2 =>
      if y_K h2 v0_38 = 6 then
      if y_K h2 (y_P h2 v0_38 0) = 107 ∧ y_ix v4_38 (y_N h2 (y_P h2 v0_38 0)) = true then
      if y_K h2 v0_38 = 6 then
      if y_K h2 (y_P h2 (y_P h2 v0_38 0) (Int32.toNatClampNeg v4_38)) = 1 then
      y_cl (f_X0_begin (y_P h2 (y_P h2 v0_38 0) (Int32.toNatClampNeg v4_38)) (y_I h2 v0_38 4) v1_38 v2_38 v3_38 h2) (fun _ h5 =>
      if y_K h5 v0_38 = 6 then
      y_jn (fun (c100 : Nat) (s100 : Nat) (h7 : y_H) => (
          some (((), c100, s100), h7) : Option ((Unit × Nat × Nat) × y_H))) (fun j100 =>
      if 60 ≤ (y_I h5 v0_38 3) then
        if y_K h5 v0_38 = 6 then
        if y_K h5 v0_38 = 6 then
        y_bd (s_I h5 v0_38 2 (y_rem ((y_I h5 v0_38 2) + 1) 60)) (fun h8 =>
        j100 c38 s38 h8)
        else none
        else none
      else
        if y_K h5 v0_38 = 6 then
        if y_K h5 v0_38 = 6 then
        y_bd (s_I h5 v0_38 3 ((y_I h5 v0_38 3) + 1)) (fun h12 =>
        j100 c38 s38 h12)
        else none
        else none)
      else none)
      else none
      else none
      else none
      else none)
      else none
      else none : Option ((Unit × Nat × Nat) × y_H))) (fun j38 =>
  if (y_P h (y_P h p0 0) (Int32.toNatClampNeg (y_rem ((y_I h p0 2) + (y_I h p0 3)) 60))) = 0 then
    if y_K h p0 = 6 then
    if 10 ≤ 64 * Int32.toNatClampNeg (y_rem ((y_I h p0 2) + (y_I h p0 3)) 60) + 24 ∧ y_K h (64 * Int32.toNatClampNeg (y_rem ((y_I h p0 2) + (y_I h p0 3)) 60) + 24) = 0 then
    y_bd (s_new h (64 * Int32.toNatClampNeg (y_rem ((y_I h p0 2) + (y_I h p0 3)) 60) + 24) 1 14) (fun h25 =>
    if y_K h25 (64 * Int32.toNatClampNeg (y_rem ((y_I h p0 2) + (y_I h p0 3)) 60) + 24) = 1 then
    y_cl (f_X0_init (64 * Int32.toNatClampNeg (y_rem ((y_I h p0 2) + (y_I h p0 3)) 60) + 24) h25) (fun _ h26 =>
    if y_K h26 (y_P h p0 0) = 107 ∧ y_ix (y_rem ((y_I h p0 2) + (y_I h p0 3)) 60) (y_N h26 (y_P h p0 0)) = true ∧ ((64 * Int32.toNatClampNeg (y_rem ((y_I h p0 2) + (y_I h p0 3)) 60) + 24) = 0 ∨ y_K h26 (64 * Int32.toNatClampNeg (y_rem ((y_I h p0 2) + (y_I h p0 3)) 60) + 24) = 1) then
    y_bd (s_P h26 (y_P h p0 0) (Int32.toNatClampNeg (y_rem ((y_I h p0 2) + (y_I h p0 3)) 60)) (64 * Int32.toNatClampNeg (y_rem ((y_I h p0 2) + (y_I h p0 3)) 60) + 24)) (fun h28 =>
    j38 p0 p1 p2 p3 (y_rem ((y_I h p0 2) + (y_I h p0 3)) 60) (c0 + 1) (s0 + 14) h28)
    else none)
    else none)
    else none
    else none
  else
    j38 p0 p1 p2 p3 (y_rem ((y_I h p0 2) + (y_I h p0 3)) 60) c0 s0 h)
  else none
  else none
  else none
  else none
abbrev FF_X5_note : Nat := 2
abbrev LL_X5_note : Nat := 45
set_option maxRecDepth 100000 in
set_option maxHeartbeats 4000000 in
theorem k_X5_note {l : Launch} {G : y_G} {p0 : Nat} {p1 : Nat} {p2 : Nat} {p3 : Nat} {c0 s0 cz sz : Nat} {h hz : y_H} {rz : Unit} (hf : f_X5_note p0 p1 p2 p3 c0 s0 h = some ((rz, cz, sz), hz)) : (c0 ≤ cz ∧ s0 ≤ sz) ∧ y_S l G M_X5_note (y_Rm FF_X5_note LL_X5_note c0 s0 cz sz) [y_p p0, y_p p1, y_p p2, y_p p3] h none hz := by
  refine y_Ustart (lv := [(0, y_p p0), (1, y_p p1), (2, y_p p2), (3, y_p p3)]) (by decide) (by simp [lg_sl, y_p_cat, y_ci, y_cj, M_X5_note]) (by simp [lv_args, y_p_cat, y_ci, y_cj]) (fun z ad0 => ?_)
  unfold f_X5_note at hf
  refine y_lf (fun _ _ _ _ k => y_aload_n (x := p0) (pc2 := 1) rfl dX5_note_0 rfl k) ?_
  obtain ⟨g37, hf⟩ := y_g hf
  refine y_lf (fun _ _ _ _ k => y_getI (pc2 := 4) rfl dX5_note_1 F_BoxYard_Journal_20 (by decide) rfl g37 k) ?_
  refine y_lf (fun _ _ _ _ k => y_aload_n (x := p0) (pc2 := 5) rfl dX5_note_4 rfl k) ?_
  obtain ⟨g36, hf⟩ := y_g hf
  refine y_lf (fun _ _ _ _ k => y_getI (pc2 := 8) rfl dX5_note_5 F_BoxYard_Journal_24 (by decide) rfl g36 k) ?_
  refine y_lf (fun _ _ _ _ k => y_iadd (pc2 := 9) rfl dX5_note_8 k) ?_
  refine y_lf (fun _ _ _ _ k => y_bipush (v := 60) (pc2 := 11) rfl dX5_note_9 (by decide) k) ?_
  refine y_lf (fun _ _ _ _ k => y_rm (pc2 := 12) rfl dX5_note_11 (by decide) k) ?_
  refine y_lf (fun _ _ _ _ k => y_istore (lv' := [(4, .int (y_rem ((y_I h p0 2) + (y_I h p0 3)) 60)), (0, y_p p0), (1, y_p p1), (2, y_p p2), (3, y_p p3)]) (pc2 := 14) rfl dX5_note_12 (by decide) (by show y_st1 _ 4 _ = _; simp [y_st1, y_p_cat, y_ci, y_cj]) k) ?_
  refine y_lf (fun _ _ _ _ k => y_aload_n (x := p0) (pc2 := 15) rfl dX5_note_14 rfl k) ?_
  obtain ⟨g35, hf⟩ := y_g hf
  refine y_lf (fun _ _ _ _ k => y_getP (pc2 := 18) rfl dX5_note_15 F_BoxYard_Journal_11 (by decide) rfl g35 k) ?_
  refine y_lf (fun _ _ _ _ k => y_iload (pc2 := 20) rfl dX5_note_18 rfl k) ?_
  obtain ⟨g34, hf⟩ := y_g hf
  refine y_lf (fun _ _ _ _ k => y_aald (t := 7) (pc2 := 21) rfl dX5_note_20 (by decide) rfl g34.1 (y_ix_in g34.2) k) ?_
  refine y_jnE hf (fun j => ∀ (v0_38 : Nat) (v1_38 : Nat) (v2_38 : Nat) (v3_38 : Nat) (v4_38 : Int32) (c38 : Nat) (s38 : Nat) (h1 : y_H), j v0_38 v1_38 v2_38 v3_38 v4_38 c38 s38 h1 = some ((rz, cz, sz), hz) → y_U l G z FF_X5_note LL_X5_note (cz - c0) (sz - s0) c0 s0 cz sz M_X5_note ad0 h none hz 38 [(0, y_p v0_38), (1, y_p v1_38), (2, y_p v2_38), (3, y_p v3_38), (4, .int v4_38)] [] h1 c38 s38) (fun v0_38 v1_38 v2_38 v3_38 v4_38 c38 s38 h1 hf => ?_) (fun j38 hj38 hf => ?_)
  · refine y_lf (fun _ _ _ _ k => y_aload_n (x := v0_38) (pc2 := 39) rfl dX5_note_38 rfl k) ?_
    refine y_lf (fun _ _ _ _ k => y_dup (pc2 := 40) rfl dX5_note_39 (y_p_cat _) k) ?_
    obtain ⟨g22, hf⟩ := y_g hf
    refine y_lf (fun _ _ _ _ k => y_getI (pc2 := 43) rfl dX5_note_40 F_BoxYard_Journal_27 (by decide) rfl g22 k) ?_
    refine y_lf (fun _ _ _ _ k => y_iconst (v := 1) (pc2 := 44) rfl dX5_note_43 (by decide) k) ?_
    refine y_lf (fun _ _ _ _ k => y_iadd (pc2 := 45) rfl dX5_note_44 k) ?_
    obtain ⟨g4, hf⟩ := y_g hf
    obtain ⟨h2, e3, hf⟩ := y_bdE hf
    refine y_lf (fun _ _ _ _ k => y_putI (x := (y_I h1 v0_38 4) + 1) (pc2 := 48) rfl dX5_note_45 Fp_BoxYard_Journal_27 (by decide) rfl g4 e3 k) ?_
    refine y_lf (fun _ _ _ _ k => y_aload_n (x := v0_38) (pc2 := 49) rfl dX5_note_48 rfl k) ?_
    obtain ⟨g21, hf⟩ := y_g hf
    refine y_lf (fun _ _ _ _ k => y_getP (pc2 := 52) rfl dX5_note_49 F_BoxYard_Journal_11 (by decide) rfl g21 k) ?_
    refine y_lf (fun _ _ _ _ k => y_iload (pc2 := 54) rfl dX5_note_52 rfl k) ?_
    obtain ⟨g20, hf⟩ := y_g hf
    refine y_lf (fun _ _ _ _ k => y_aald (t := 7) (pc2 := 55) rfl dX5_note_54 (by decide) rfl g20.1 (y_ix_in g20.2) k) ?_
    refine y_lf (fun _ _ _ _ k => y_aload_n (x := v0_38) (pc2 := 56) rfl dX5_note_55 rfl k) ?_
    obtain ⟨g19, hf⟩ := y_g hf
    refine y_lf (fun _ _ _ _ k => y_getI (pc2 := 59) rfl dX5_note_56 F_BoxYard_Journal_27 (by decide) rfl g19 k) ?_
    refine y_lf (fun _ _ _ _ k => y_aload_n (x := v1_38) (pc2 := 60) rfl dX5_note_59 rfl k) ?_
    refine y_lf (fun _ _ _ _ k => y_aload_n (x := v2_38) (pc2 := 61) rfl dX5_note_60 rfl k) ?_
    refine y_lf (fun _ _ _ _ k => y_aload_n (x := v3_38) (pc2 := 62) rfl dX5_note_61 rfl k) ?_
    obtain ⟨g18, hf⟩ := y_g hf
    obtain ⟨r_, h5, c6, hf⟩ := y_clE hf
    refine y_UcV0 (As := [.int (y_I h2 v0_38 4), y_p v1_38, y_p v2_38, y_p v3_38]) (rm := rm_X0_begin) (pc2 := 65) rfl dX5_note_62 n_X0_begin l_BoxYard_Journal_30 i_X0_begin e_X0_begin (ci := 0) rfl rfl (by decide) g18 rfl rfl (by decide) (by decide) rfl rfl (k_X0_begin c6) ?_
    refine y_lf (fun _ _ _ _ k => y_aload_n (x := v0_38) (pc2 := 66) rfl dX5_note_65 rfl k) ?_
    obtain ⟨g17, hf⟩ := y_g hf
    refine y_lf (fun _ _ _ _ k => y_getI (pc2 := 69) rfl dX5_note_66 F_BoxYard_Journal_24 (by decide) rfl g17 k) ?_
    refine y_lf (fun _ _ _ _ k => y_bipush (v := 60) (pc2 := 71) rfl dX5_note_69 (by decide) k) ?_
    refine y_jnE hf (fun j => ∀ (c100 : Nat) (s100 : Nat) (h7 : y_H), j c100 s100 h7 = some ((rz, cz, sz), hz) → y_U l G z FF_X5_note LL_X5_note (cz - c0) (sz - s0) c0 s0 cz sz M_X5_note ad0 h none hz 100 [] [] h7 c100 s100) (fun c100 s100 h7 hf => ?_) (fun j100 hj100 hf => ?_)
    · exact y_vretU hf dX5_note_100 rfl
    · refine y_lf2 (Classical.em _) (fun _ _ k1 k2 => y_icmp_ge (tgt := 87) (pc2 := 74) rfl dX5_note_71 (by decide) k1 k2) (fun c16 => ?_) (fun c16 => ?_)
      · replace hf := y_it c16 hf
        refine y_lf (fun _ _ _ _ k => y_aload_n (x := v0_38) (pc2 := 88) rfl dX5_note_87 rfl k) ?_
        refine y_lf (fun _ _ _ _ k => y_aload_n (x := v0_38) (pc2 := 89) rfl dX5_note_88 rfl k) ?_
        obtain ⟨g11, hf⟩ := y_g hf
        refine y_lf (fun _ _ _ _ k => y_getI (pc2 := 92) rfl dX5_note_89 F_BoxYard_Journal_20 (by decide) rfl g11 k) ?_
        refine y_lf (fun _ _ _ _ k => y_iconst (v := 1) (pc2 := 93) rfl dX5_note_92 (by decide) k) ?_
        refine y_lf (fun _ _ _ _ k => y_iadd (pc2 := 94) rfl dX5_note_93 k) ?_
        refine y_lf (fun _ _ _ _ k => y_bipush (v := 60) (pc2 := 96) rfl dX5_note_94 (by decide) k) ?_
        refine y_lf (fun _ _ _ _ k => y_rm (pc2 := 97) rfl dX5_note_96 (by decide) k) ?_
        obtain ⟨g10, hf⟩ := y_g hf
        obtain ⟨h8, e9, hf⟩ := y_bdE hf
        refine y_lf (fun _ _ _ _ k => y_putI (x := y_rem ((y_I h5 v0_38 2) + 1) 60) (pc2 := 100) rfl dX5_note_97 Fp_BoxYard_Journal_20 (by decide) rfl g10 e9 k) ?_
        exact y_lf (fun _ _ _ _ k => y_pk [] rfl k) (hj100 _ _ _ hf)
      · replace hf := y_ie c16 hf
        refine y_lf (fun _ _ _ _ k => y_aload_n (x := v0_38) (pc2 := 75) rfl dX5_note_74 rfl k) ?_
        refine y_lf (fun _ _ _ _ k => y_dup (pc2 := 76) rfl dX5_note_75 (y_p_cat _) k) ?_
        obtain ⟨g15, hf⟩ := y_g hf
        refine y_lf (fun _ _ _ _ k => y_getI (pc2 := 79) rfl dX5_note_76 F_BoxYard_Journal_24 (by decide) rfl g15 k) ?_
        refine y_lf (fun _ _ _ _ k => y_iconst (v := 1) (pc2 := 80) rfl dX5_note_79 (by decide) k) ?_
        refine y_lf (fun _ _ _ _ k => y_iadd (pc2 := 81) rfl dX5_note_80 k) ?_
        obtain ⟨g14, hf⟩ := y_g hf
        obtain ⟨h12, e13, hf⟩ := y_bdE hf
        refine y_lf (fun _ _ _ _ k => y_putI (x := (y_I h5 v0_38 3) + 1) (pc2 := 84) rfl dX5_note_81 Fp_BoxYard_Journal_24 (by decide) rfl g14 e13 k) ?_
        refine y_lf (fun _ _ _ _ k => y_goto (tgt := 100) dX5_note_84 (by decide) k) ?_
        exact y_lf (fun _ _ _ _ k => y_pk [] rfl k) (hj100 _ _ _ hf)
  · refine y_lf2 (Classical.em _).symm (fun _ _ k1 k2 => y_ifnonnull (tgt := 38) (pc2 := 24) rfl dX5_note_21 (by decide) k1 k2) (fun c33 => ?_) (fun c33 => ?_)
    · replace hf := y_ie c33 hf
      exact y_lf (fun _ _ _ _ k => y_pk [1, 2, 3, 4, 0] rfl k) (hj38 _ _ _ _ _ _ _ _ hf)
    · replace hf := y_it c33 hf
      refine y_lf (fun _ _ _ _ k => y_aload_n (x := p0) (pc2 := 25) rfl dX5_note_24 rfl k) ?_
      obtain ⟨g32, hf⟩ := y_g hf
      refine y_lf (fun _ _ _ _ k => y_getP (pc2 := 28) rfl dX5_note_25 F_BoxYard_Journal_11 (by decide) rfl g32 k) ?_
      refine y_lf (fun _ _ _ _ k => y_iload (pc2 := 30) rfl dX5_note_28 rfl k) ?_
      obtain ⟨g23, hf⟩ := y_g hf
      obtain ⟨h25, e24, hf⟩ := y_bdE hf
      refine y_Unew (n := 64 * Int32.toNatClampNeg (y_rem ((y_I h p0 2) + (y_I h p0 3)) 60) + 24) (pc2 := 33) rfl dX5_note_30 cl_BoxYard_Journal_9 in_c0 ii_c0 rfl (by decide) ok_c0 g23 e24 ?_
      refine y_lf (fun _ _ _ _ k => y_dup (pc2 := 34) rfl dX5_note_33 (y_p_cat _) k) ?_
      obtain ⟨g31, hf⟩ := y_g hf
      obtain ⟨r_, h26, c27, hf⟩ := y_clE hf
      refine y_UcI0 (As := []) (rm := rm_X0_init) (pc2 := 37) rfl dX5_note_34 n_X0_init rfl rfl l_BoxYard_Journal_15 i_X0_init g31 rfl rfl (by decide) (by simp [y_ci, y_cj, y_p_cat]) rfl rfl (k_X0_init c27) ?_
      obtain ⟨g30, hf⟩ := y_g hf
      obtain ⟨h28, e29, hf⟩ := y_bdE hf
      refine y_lf (fun _ _ _ _ k => y_aast (t := 7) (ci := 0) (x := 64 * Int32.toNatClampNeg (y_rem ((y_I h p0 2) + (y_I h p0 3)) 60) + 24) (pc2 := 38) rfl dX5_note_37 (by decide) rfl (by decide) rfl g30.1 (y_ix_in g30.2.1) g30.2.2 e29 k) ?_
      exact y_lf (fun _ _ _ _ k => y_pk [1, 2, 3, 4, 0] rfl k) (hj38 _ _ _ _ _ _ _ _ hf)
theorem dX7_init_0 : decode cX7_init 0 = .ok (.aload_n 0, 1) := by decide +kernel
theorem dX7_init_1 : decode cX7_init 1 = .ok (.invokespecial 3, 3) := by decide +kernel
theorem dX7_init_4 : decode cX7_init 4 = .ok (.aload_n 0, 1) := by decide +kernel
theorem dX7_init_5 : decode cX7_init 5 = .ok (.bipush 54, 2) := by decide +kernel
theorem dX7_init_7 : decode cX7_init 7 = .ok (.anewarray 11, 3) := by decide +kernel
theorem dX7_init_10 : decode cX7_init 10 = .ok (.putfield 13, 3) := by decide +kernel
theorem dX7_init_13 : decode cX7_init 13 = .ok (.aload_n 0, 1) := by decide +kernel
theorem dX7_init_14 : decode cX7_init 14 = .ok (.bipush 54, 2) := by decide +kernel
theorem dX7_init_16 : decode cX7_init 16 = .ok (.newarray .boolean, 2) := by decide +kernel
theorem dX7_init_18 : decode cX7_init 18 = .ok (.putfield 17, 3) := by decide +kernel
theorem dX7_init_21 : decode cX7_init 21 = .ok (.aload_n 0, 1) := by decide +kernel
theorem dX7_init_22 : decode cX7_init 22 = .ok (.iconst 4, 1) := by decide +kernel
theorem dX7_init_23 : decode cX7_init 23 = .ok (.newarray .int, 2) := by decide +kernel
theorem dX7_init_25 : decode cX7_init 25 = .ok (.putfield 21, 3) := by decide +kernel
theorem dX7_init_28 : decode cX7_init 28 = .ok (.aload_n 0, 1) := by decide +kernel
theorem dX7_init_29 : decode cX7_init 29 = .ok (.iconst 3, 1) := by decide +kernel
theorem dX7_init_30 : decode cX7_init 30 = .ok (.newarray .int, 2) := by decide +kernel
theorem dX7_init_32 : decode cX7_init 32 = .ok (.putfield 25, 3) := by decide +kernel
theorem dX7_init_35 : decode cX7_init 35 = .ok (.aload_n 0, 1) := by decide +kernel
theorem dX7_init_36 : decode cX7_init 36 = .ok (.bipush 8, 2) := by decide +kernel
theorem dX7_init_38 : decode cX7_init 38 = .ok (.newarray .int, 2) := by decide +kernel
theorem dX7_init_40 : decode cX7_init 40 = .ok (.putfield 28, 3) := by decide +kernel
theorem dX7_init_43 : decode cX7_init 43 = .ok (.aload_n 0, 1) := by decide +kernel
theorem dX7_init_44 : decode cX7_init 44 = .ok (.iload_n 1, 1) := by decide +kernel
theorem dX7_init_45 : decode cX7_init 45 = .ok (.putfield 31, 3) := by decide +kernel
theorem dX7_init_48 : decode cX7_init 48 = .ok (.return_, 1) := by decide +kernel
def M_X7_init : y_M := (yX7_init, cX7_init, 2, (Option.none : Option Jvm.ClassFile.FieldType))
theorem n_X7_init : y_N0 M_X7_init 1 := ⟨(c_5 38 (by decide +kernel) rfl), (c_1 14 (by decide +kernel) rfl), ⟨by decide +kernel, by decide +kernel⟩, by decide +kernel⟩
theorem l_BoxYard_Ship_3 : Cond.methodLink "BoxYard$Ship" 3 Lib.objectInit ∈ y_tb := (c_5 39 (by decide +kernel) rfl)
theorem cl_BoxYard_Ship_11 : Cond.classLink "BoxYard$Ship" 11 "BoxYard$Box" ∈ y_tb := (c_5 40 (by decide +kernel) rfl)
theorem Fp_BoxYard_Ship_13_i : y_Fp "BoxYard$Ship" "<init>" 13 7 1 := ⟨_, _, _, rfl, by decide, Or.inr ⟨rfl, rfl, rfl, (c_5 44 (by decide +kernel) rfl)⟩⟩
theorem ac_2 : Cond.arrayClass (t_ay 2) ∈ y_tb := (c_5 98 (by decide +kernel) rfl)
theorem Fp_BoxYard_Ship_17_i : y_Fp "BoxYard$Ship" "<init>" 17 7 2 := ⟨_, _, _, rfl, by decide, Or.inr ⟨rfl, rfl, rfl, (c_5 45 (by decide +kernel) rfl)⟩⟩
theorem Fp_BoxYard_Ship_21_i : y_Fp "BoxYard$Ship" "<init>" 21 7 3 := ⟨_, _, _, rfl, by decide, Or.inr ⟨rfl, rfl, rfl, (c_5 46 (by decide +kernel) rfl)⟩⟩
theorem Fp_BoxYard_Ship_25_i : y_Fp "BoxYard$Ship" "<init>" 25 7 5 := ⟨_, _, _, rfl, by decide, Or.inr ⟨rfl, rfl, rfl, (c_5 50 (by decide +kernel) rfl)⟩⟩
theorem Fp_BoxYard_Ship_28_i : y_Fp "BoxYard$Ship" "<init>" 28 7 6 := ⟨_, _, _, rfl, by decide, Or.inr ⟨rfl, rfl, rfl, (c_5 52 (by decide +kernel) rfl)⟩⟩
theorem Fp_BoxYard_Ship_31_i : y_Fp "BoxYard$Ship" "<init>" 31 7 0 := ⟨_, _, _, rfl, by decide, Or.inr ⟨rfl, rfl, rfl, (c_5 41 (by decide +kernel) rfl)⟩⟩
set_option maxRecDepth 100000 in
def f_X7_init (p0 : Nat) (p1 : Int32) (c0 s0 : Nat) (h : y_H) : Option ((Unit × Nat × Nat) × y_H) :=
  if y_K h p0 = 8 then
  if 10 ≤ p0 + 3 ∧ y_K h (p0 + 3) = 0 ∧ ¬ (54 : Int32) < 0 ∧ Int32.toNatClampNeg (54 : Int32) * 4 ≤ 536870912 then
  y_bd (s_new h (p0 + 3) 103 (Int32.toNatClampNeg (54 : Int32))) (fun h4 =>
  if y_K h4 p0 = 8 then
  y_bd (s_P h4 p0 1 (p0 + 3)) (fun h5 =>
  if 10 ≤ p0 + 4 ∧ y_K h5 (p0 + 4) = 0 ∧ ¬ (54 : Int32) < 0 ∧ Int32.toNatClampNeg (54 : Int32) * componentBytes (t_ay 2) ≤ 536870912 then
  y_bd (s_new h5 (p0 + 4) 102 (Int32.toNatClampNeg (54 : Int32))) (fun h10 =>
  if y_K h10 p0 = 8 then
  y_bd (s_P h10 p0 2 (p0 + 4)) (fun h11 =>
  if 10 ≤ p0 + 5 ∧ y_K h11 (p0 + 5) = 0 ∧ ¬ (4 : Int32) < 0 ∧ Int32.toNatClampNeg (4 : Int32) * componentBytes (t_ay 0) ≤ 536870912 then
  y_bd (s_new h11 (p0 + 5) 100 (Int32.toNatClampNeg (4 : Int32))) (fun h16 =>
  if y_K h16 p0 = 8 then
  y_bd (s_P h16 p0 3 (p0 + 5)) (fun h17 =>
  if 10 ≤ p0 + 6 ∧ y_K h17 (p0 + 6) = 0 ∧ ¬ (3 : Int32) < 0 ∧ Int32.toNatClampNeg (3 : Int32) * componentBytes (t_ay 0) ≤ 536870912 then
  y_bd (s_new h17 (p0 + 6) 100 (Int32.toNatClampNeg (3 : Int32))) (fun h22 =>
  if y_K h22 p0 = 8 then
  y_bd (s_P h22 p0 5 (p0 + 6)) (fun h23 =>
  if 10 ≤ p0 + 7 ∧ y_K h23 (p0 + 7) = 0 ∧ ¬ (8 : Int32) < 0 ∧ Int32.toNatClampNeg (8 : Int32) * componentBytes (t_ay 0) ≤ 536870912 then
  y_bd (s_new h23 (p0 + 7) 100 (Int32.toNatClampNeg (8 : Int32))) (fun h28 =>
  if y_K h28 p0 = 8 then
  y_bd (s_P h28 p0 6 (p0 + 7)) (fun h29 =>
  if y_K h29 p0 = 8 then
  y_bd (s_I h29 p0 0 p1) (fun h32 =>
  some (((), c0 + 1 + 1 + 1 + 1 + 1, s0 + Int32.toNatClampNeg (54 : Int32) + Int32.toNatClampNeg (54 : Int32) + Int32.toNatClampNeg (4 : Int32) + Int32.toNatClampNeg (3 : Int32) + Int32.toNatClampNeg (8 : Int32)), h32))
  else none)
  else none)
  else none)
  else none)
  else none)
  else none)
  else none)
  else none)
  else none)
  else none)
  else none
  else none
abbrev FF_X7_init : Nat := 1
abbrev LL_X7_init : Nat := 21
set_option maxRecDepth 100000 in
set_option maxHeartbeats 4000000 in
theorem k_X7_init {l : Launch} {G : y_G} {p0 : Nat} {p1 : Int32} {c0 s0 cz sz : Nat} {h hz : y_H} {rz : Unit} (hf : f_X7_init p0 p1 c0 s0 h = some ((rz, cz, sz), hz)) : (c0 ≤ cz ∧ s0 ≤ sz) ∧ y_S l G M_X7_init (y_Rm FF_X7_init LL_X7_init c0 s0 cz sz) [y_p p0, .int p1] h none hz := by
  refine y_Ustart (lv := [(0, y_p p0), (1, .int p1)]) (by decide) (by simp [lg_sl, y_p_cat, y_ci, y_cj, M_X7_init]) (by simp [lv_args, y_p_cat, y_ci, y_cj]) (fun z ad0 => ?_)
  unfold f_X7_init at hf
  refine y_lf (fun _ _ _ _ k => y_aload_n (x := p0) (pc2 := 1) rfl dX7_init_0 rfl k) ?_
  obtain ⟨g1, hf⟩ := y_g hf
  refine y_lf (fun _ _ _ _ k => y_oinit (pc2 := 4) rfl dX7_init_1 l_BoxYard_Ship_3 (by rw [g1]; decide) (Nat.le_of_ble_eq_true rfl) (Nat.le_of_ble_eq_true rfl) (by decide) k) ?_
  refine y_lf (fun _ _ _ _ k => y_aload_n (x := p0) (pc2 := 5) rfl dX7_init_4 rfl k) ?_
  refine y_lf (fun _ _ _ _ k => y_bipush (v := 54) (pc2 := 7) rfl dX7_init_5 (by decide) k) ?_
  obtain ⟨g2, hf⟩ := y_g hf
  obtain ⟨h4, e3, hf⟩ := y_bdE hf
  refine y_Unewq (t := 3) (n := p0 + 3) (pc2 := 10) rfl dX7_init_7 (by decide) rfl cl_BoxYard_Ship_11 ao_3 g2 e3 ?_
  obtain ⟨g7, hf⟩ := y_g hf
  obtain ⟨h5, e6, hf⟩ := y_bdE hf
  refine y_lf (fun _ _ _ _ k => y_putP (x := p0 + 3) (pc2 := 13) rfl dX7_init_10 Fp_BoxYard_Ship_13_i (by decide) rfl g7 e6 k) ?_
  refine y_lf (fun _ _ _ _ k => y_aload_n (x := p0) (pc2 := 14) rfl dX7_init_13 rfl k) ?_
  refine y_lf (fun _ _ _ _ k => y_bipush (v := 54) (pc2 := 16) rfl dX7_init_14 (by decide) k) ?_
  obtain ⟨g8, hf⟩ := y_g hf
  obtain ⟨h10, e9, hf⟩ := y_bdE hf
  refine y_Unewa (t := 2) (n := p0 + 4) (pc2 := 18) rfl dX7_init_16 (by decide) rfl rfl rfl ac_2 g8 e9 ?_
  obtain ⟨g13, hf⟩ := y_g hf
  obtain ⟨h11, e12, hf⟩ := y_bdE hf
  refine y_lf (fun _ _ _ _ k => y_putP (x := p0 + 4) (pc2 := 21) rfl dX7_init_18 Fp_BoxYard_Ship_17_i (by decide) rfl g13 e12 k) ?_
  refine y_lf (fun _ _ _ _ k => y_aload_n (x := p0) (pc2 := 22) rfl dX7_init_21 rfl k) ?_
  refine y_lf (fun _ _ _ _ k => y_iconst (v := 4) (pc2 := 23) rfl dX7_init_22 (by decide) k) ?_
  obtain ⟨g14, hf⟩ := y_g hf
  obtain ⟨h16, e15, hf⟩ := y_bdE hf
  refine y_Unewa (t := 0) (n := p0 + 5) (pc2 := 25) rfl dX7_init_23 (by decide) rfl rfl rfl ac_0 g14 e15 ?_
  obtain ⟨g19, hf⟩ := y_g hf
  obtain ⟨h17, e18, hf⟩ := y_bdE hf
  refine y_lf (fun _ _ _ _ k => y_putP (x := p0 + 5) (pc2 := 28) rfl dX7_init_25 Fp_BoxYard_Ship_21_i (by decide) rfl g19 e18 k) ?_
  refine y_lf (fun _ _ _ _ k => y_aload_n (x := p0) (pc2 := 29) rfl dX7_init_28 rfl k) ?_
  refine y_lf (fun _ _ _ _ k => y_iconst (v := 3) (pc2 := 30) rfl dX7_init_29 (by decide) k) ?_
  obtain ⟨g20, hf⟩ := y_g hf
  obtain ⟨h22, e21, hf⟩ := y_bdE hf
  refine y_Unewa (t := 0) (n := p0 + 6) (pc2 := 32) rfl dX7_init_30 (by decide) rfl rfl rfl ac_0 g20 e21 ?_
  obtain ⟨g25, hf⟩ := y_g hf
  obtain ⟨h23, e24, hf⟩ := y_bdE hf
  refine y_lf (fun _ _ _ _ k => y_putP (x := p0 + 6) (pc2 := 35) rfl dX7_init_32 Fp_BoxYard_Ship_25_i (by decide) rfl g25 e24 k) ?_
  refine y_lf (fun _ _ _ _ k => y_aload_n (x := p0) (pc2 := 36) rfl dX7_init_35 rfl k) ?_
  refine y_lf (fun _ _ _ _ k => y_bipush (v := 8) (pc2 := 38) rfl dX7_init_36 (by decide) k) ?_
  obtain ⟨g26, hf⟩ := y_g hf
  obtain ⟨h28, e27, hf⟩ := y_bdE hf
  refine y_Unewa (t := 0) (n := p0 + 7) (pc2 := 40) rfl dX7_init_38 (by decide) rfl rfl rfl ac_0 g26 e27 ?_
  obtain ⟨g31, hf⟩ := y_g hf
  obtain ⟨h29, e30, hf⟩ := y_bdE hf
  refine y_lf (fun _ _ _ _ k => y_putP (x := p0 + 7) (pc2 := 43) rfl dX7_init_40 Fp_BoxYard_Ship_28_i (by decide) rfl g31 e30 k) ?_
  refine y_lf (fun _ _ _ _ k => y_aload_n (x := p0) (pc2 := 44) rfl dX7_init_43 rfl k) ?_
  refine y_lf (fun _ _ _ _ k => y_iload_n (pc2 := 45) rfl dX7_init_44 rfl k) ?_
  obtain ⟨g34, hf⟩ := y_g hf
  obtain ⟨h32, e33, hf⟩ := y_bdE hf
  refine y_lf (fun _ _ _ _ k => y_putI (x := p1) (pc2 := 48) rfl dX7_init_45 Fp_BoxYard_Ship_31_i (by decide) rfl g34 e33 k) ?_
  exact y_vretU hf dX7_init_48 rfl
/-- a row of an int[][] is laid -/
theorem y_aastA {l : Launch} {G : y_G} {z : Heap} {R : Room} {M : y_M} {ad0 : Nat → Nat} {h0 h1 : y_H} {r : Option Value} {pc pc2 : Nat} {lv : List (Nat × Value)} {st : List Value} {h h2 : y_H} {cells slots n x : Nat} {i : Int32} (hp : pc + 1 = pc2) (hd : decode M.2.1 pc = .ok (.aastore, 1)) (hn : y_K h n = 108) (hi : vp_in i (y_N h n)) (hxk : y_K h x = 100) (he : h2 = s_P h n i.toNatClampNeg x) (kk : y_V l G z R M ad0 h0 r h1 pc2 lv st h2 cells slots) : y_V l G z R M ad0 h0 r h1 pc lv (y_p x :: .int i :: y_p n :: st) h cells slots := by
  subst hp
  subst he
  intro p e s m args below meth c C ad H locs ls hR hE ha hs hl hls
  obtain ⟨hx, hb, hr, hml, hown, hts, hlk, hnm, hK, hZ⟩ := id C
  have hnz : y_K h n ≠ 0 := by omega
  have hxz : y_K h x ≠ 0 := by omega
  have hlt : i.toNatClampNeg < y_N h n := Nat.not_le.mp fun q => hi (Or.inr q)
  have h00 : ¬ i < 0 := fun q => hi (Or.inl q)
  obtain ⟨ht, hc⟩ := y_arr (t := 8) hR hn (by decide)
  obtain ⟨-, hcx⟩ := y_arr (t := 0) hR hxk (by decide)
  have hxa : y_al h (y_p x) := hs _ (by simp)
  obtain ⟨comp, cA, kA, f1, f2, f3, f4, f5⟩ := arrayOverA_spec (hts _ w_ao8)
  have eA : cA = G.2.1 8 := Option.some.inj (f5.symm.trans (hK.2 8 _ (y_tys_at G (t := 8) (by decide))).2)
  have ec : comp = G.2.1 0 := Option.some.inj (f1.symm.trans (hK.2 0 _ (y_tys_at G (t := 0) (by decide))).2)
  subst eA
  subst ec
  obtain ⟨kc, hkc, -⟩ := Vm.findClass_spec f1
  show W _ _ _ _ _ _ _ _ _ _ _ _ _ _ _ (F0 m pc ls (y_r ad (y_p x) :: .int i :: y_r ad (y_p n) :: st.map (y_r ad)))
  have hxr : y_r ad (y_p x) = .ref (ad x) := by rw [y_r_p, if_neg (y_nz hR hxz)]
  rw [hxr, y_r_p ad n, if_neg (y_nz hR hnz)]
  refine W.aast hx hb hc (fun q h => by cases h) (fun h => by cases h) f3 f4 rfl hkc ⟨h00, by rw [arrV_size]; exact hlt⟩ hcx (fun q h => by cases h) hkc (va_asg _ _) rfl rfl hd fun H' e1 e2 e3 => ?_
  rw [← hxr] at e1
  refine y_gonext (h := h) (st := y_p x :: .int i :: y_p n :: st) (h2 := s_P h n i.toNatClampNeg x) rfl hnz (by omega) y_s3 kk C hR (y_ast (h := h) (t := 8) (v := y_p x) (h2 := s_P h n i.toNatClampNeg x) (by decide) hn rfl rfl y_v_sP ?_ ?_ hR e1 e2 e3) hE ha hs hl hls
  · exact congrArg y_p (y_u_eq _ _ _ _)
  · intro g a j hna hp
    have e9 : y_P (s_P h n i.toNatClampNeg x) = y_u (y_P h) n i.toNatClampNeg x := rfl
    rw [e9] at hp ⊢
    by_cases hq : a = n ∧ j = i.toNatClampNeg
    · rw [hq.1, hq.2, y_u_eq] at hp ⊢
      exact (y_al_p hxa).resolve_left hp
    · rw [y_u_ne _ _ hq] at hp ⊢
      exact g a j hna hp
theorem dX8_newRow_0 : decode cX8_newRow 0 = .ok (.iload_n 1, 1) := by decide +kernel
theorem dX8_newRow_1 : decode cX8_newRow 1 = .ok (.iconst 0, 1) := by decide +kernel
theorem dX8_newRow_2 : decode cX8_newRow 2 = .ok (.iconst 3, 1) := by decide +kernel
theorem dX8_newRow_3 : decode cX8_newRow 3 = .ok (.invokestatic 66, 3) := by decide +kernel
theorem dX8_newRow_6 : decode cX8_newRow 6 = .ok (.ifCond .ne 5, 3) := by decide +kernel
theorem dX8_newRow_9 : decode cX8_newRow 9 = .ok (.iconst 2, 1) := by decide +kernel
theorem dX8_newRow_10 : decode cX8_newRow 10 = .ok (.ireturn, 1) := by decide +kernel
theorem dX8_newRow_11 : decode cX8_newRow 11 = .ok (.aload_n 0, 1) := by decide +kernel
theorem dX8_newRow_12 : decode cX8_newRow 12 = .ok (.getfield 56, 3) := by decide +kernel
theorem dX8_newRow_15 : decode cX8_newRow 15 = .ok (.l2i, 1) := by decide +kernel
theorem dX8_newRow_16 : decode cX8_newRow 16 = .ok (.i2b, 1) := by decide +kernel
theorem dX8_newRow_17 : decode cX8_newRow 17 = .ok (.istore_n 2, 1) := by decide +kernel
theorem dX8_newRow_18 : decode cX8_newRow 18 = .ok (.iload_n 2, 1) := by decide +kernel
theorem dX8_newRow_19 : decode cX8_newRow 19 = .ok (.ifCond .ge 6, 3) := by decide +kernel
theorem dX8_newRow_22 : decode cX8_newRow 22 = .ok (.bipush 7, 2) := by decide +kernel
theorem dX8_newRow_24 : decode cX8_newRow 24 = .ok (.ireturn, 1) := by decide +kernel
theorem dX8_newRow_25 : decode cX8_newRow 25 = .ok (.iload_n 2, 1) := by decide +kernel
theorem dX8_newRow_26 : decode cX8_newRow 26 = .ok (.aload_n 0, 1) := by decide +kernel
theorem dX8_newRow_27 : decode cX8_newRow 27 = .ok (.getfield 36, 3) := by decide +kernel
theorem dX8_newRow_30 : decode cX8_newRow 30 = .ok (.iload_n 1, 1) := by decide +kernel
theorem dX8_newRow_31 : decode cX8_newRow 31 = .ok (.aaload, 1) := by decide +kernel
theorem dX8_newRow_32 : decode cX8_newRow 32 = .ok (.arraylength, 1) := by decide +kernel
theorem dX8_newRow_33 : decode cX8_newRow 33 = .ok (.if_icmp .le 12, 3) := by decide +kernel
theorem dX8_newRow_36 : decode cX8_newRow 36 = .ok (.aload_n 0, 1) := by decide +kernel
theorem dX8_newRow_37 : decode cX8_newRow 37 = .ok (.getfield 36, 3) := by decide +kernel
theorem dX8_newRow_40 : decode cX8_newRow 40 = .ok (.iload_n 1, 1) := by decide +kernel
theorem dX8_newRow_41 : decode cX8_newRow 41 = .ok (.iload_n 2, 1) := by decide +kernel
theorem dX8_newRow_42 : decode cX8_newRow 42 = .ok (.newarray .int, 2) := by decide +kernel
theorem dX8_newRow_44 : decode cX8_newRow 44 = .ok (.aastore, 1) := by decide +kernel
theorem dX8_newRow_45 : decode cX8_newRow 45 = .ok (.aload_n 0, 1) := by decide +kernel
theorem dX8_newRow_46 : decode cX8_newRow 46 = .ok (.getfield 39, 3) := by decide +kernel
theorem dX8_newRow_49 : decode cX8_newRow 49 = .ok (.iload_n 1, 1) := by decide +kernel
theorem dX8_newRow_50 : decode cX8_newRow 50 = .ok (.iload_n 2, 1) := by decide +kernel
theorem dX8_newRow_51 : decode cX8_newRow 51 = .ok (.iastore, 1) := by decide +kernel
theorem dX8_newRow_52 : decode cX8_newRow 52 = .ok (.aload_n 0, 1) := by decide +kernel
theorem dX8_newRow_53 : decode cX8_newRow 53 = .ok (.getfield 36, 3) := by decide +kernel
theorem dX8_newRow_56 : decode cX8_newRow 56 = .ok (.iload_n 1, 1) := by decide +kernel
theorem dX8_newRow_57 : decode cX8_newRow 57 = .ok (.aaload, 1) := by decide +kernel
theorem dX8_newRow_58 : decode cX8_newRow 58 = .ok (.bipush (-9), 2) := by decide +kernel
theorem dX8_newRow_60 : decode cX8_newRow 60 = .ok (.invokestatic 60, 3) := by decide +kernel
theorem dX8_newRow_63 : decode cX8_newRow 63 = .ok (.iconst 0, 1) := by decide +kernel
theorem dX8_newRow_64 : decode cX8_newRow 64 = .ok (.ireturn, 1) := by decide +kernel
def M_X8_newRow : y_M := (yX8_newRow, cX8_newRow, 3, (Option.some Jvm.ClassFile.FieldType.int))
theorem n_X8_newRow : y_N0 M_X8_newRow 1 := ⟨(c_6 238 (by decide +kernel) rfl), (c_1 8 (by decide +kernel) rfl), ⟨by decide +kernel, by decide +kernel⟩, by decide +kernel⟩
set_option maxRecDepth 100000 in
def f_X8_newRow (p0 : Nat) (p1 : Int32) (c0 s0 : Nat) (h : y_H) : Option ((Int32 × Nat × Nat) × y_H) :=
  y_cl (f_X11_isWithin p1 0 3 h) (fun r1 h2 =>
  if r1 = true then
    if y_K h2 p0 = 9 then
    if 0 ≤ (Int8.toInt32 (Int32.toInt8 (Int64.toInt32 (y_L h2 p0 9)))) then
      if y_K h2 p0 = 9 then
      if y_K h2 (y_P h2 p0 12) = 108 ∧ y_ix p1 (y_N h2 (y_P h2 p0 12)) = true then
      if y_K h2 (y_P h2 (y_P h2 p0 12) (Int32.toNatClampNeg p1)) = 100 then
      y_jn (fun (v0_45 : Nat) (v1_45 : Int32) (v2_45 : Int32) (c45 : Nat) (s45 : Nat) (h4 : y_H) => (
          if y_K h4 v0_45 = 9 then
          if y_K h4 (y_P h4 v0_45 13) = 100 ∧ y_ix v1_45 (y_N h4 (y_P h4 v0_45 13)) = true then
          y_bd (s_I h4 (y_P h4 v0_45 13) (Int32.toNatClampNeg v1_45) v2_45) (fun h5 =>
          if y_K h5 v0_45 = 9 then
          if y_K h5 (y_P h5 v0_45 12) = 108 ∧ y_ix v1_45 (y_N h5 (y_P h5 v0_45 12)) = true then
          y_cl (f_J7_fill_53178 (y_P h5 (y_P h5 v0_45 12) (Int32.toNatClampNeg v1_45)) (-9 : Int32) h5) (fun _ h8 =>
          some ((0, c45, s45), h8))
          else none
          else none)
          else none
          else none : Option ((Int32 × Nat × Nat) × y_H))) (fun j45 =>
      if (Int8.toInt32 (Int32.toInt8 (Int64.toInt32 (y_L h2 p0 9)))) ≤ (nI (y_N h2 (y_P h2 (y_P h2 p0 12) (Int32.toNatClampNeg p1)))) then
        j45 p0 p1 (Int8.toInt32 (Int32.toInt8 (Int64.toInt32 (y_L h2 p0 9)))) c0 s0 h2
      else
        if y_K h2 p0 = 9 then
        if 10 ≤ 64 * (4 * Int32.toNatClampNeg (Int8.toInt32 (Int32.toInt8 (Int64.toInt32 (y_L h2 p0 9)))) + Int32.toNatClampNeg p1) + 47 ∧ y_K h2 (64 * (4 * Int32.toNatClampNeg (Int8.toInt32 (Int32.toInt8 (Int64.toInt32 (y_L h2 p0 9)))) + Int32.toNatClampNeg p1) + 47) = 0 ∧ ¬ (Int8.toInt32 (Int32.toInt8 (Int64.toInt32 (y_L h2 p0 9)))) < 0 ∧ Int32.toNatClampNeg (Int8.toInt32 (Int32.toInt8 (Int64.toInt32 (y_L h2 p0 9)))) * componentBytes (t_ay 0) ≤ 536870912 then
        y_bd (s_new h2 (64 * (4 * Int32.toNatClampNeg (Int8.toInt32 (Int32.toInt8 (Int64.toInt32 (y_L h2 p0 9)))) + Int32.toNatClampNeg p1) + 47) 100 (Int32.toNatClampNeg (Int8.toInt32 (Int32.toInt8 (Int64.toInt32 (y_L h2 p0 9)))))) (fun h15 =>
        if y_K h15 (y_P h2 p0 12) = 108 ∧ y_ix p1 (y_N h15 (y_P h2 p0 12)) = true ∧ y_K h15 (64 * (4 * Int32.toNatClampNeg (Int8.toInt32 (Int32.toInt8 (Int64.toInt32 (y_L h2 p0 9)))) + Int32.toNatClampNeg p1) + 47) = 100 then
        y_bd (s_P h15 (y_P h2 p0 12) (Int32.toNatClampNeg p1) (64 * (4 * Int32.toNatClampNeg (Int8.toInt32 (Int32.toInt8 (Int64.toInt32 (y_L h2 p0 9)))) + Int32.toNatClampNeg p1) + 47)) (fun h16 =>
        j45 p0 p1 (Int8.toInt32 (Int32.toInt8 (Int64.toInt32 (y_L h2 p0 9)))) (c0 + 1) (s0 + Int32.toNatClampNeg (Int8.toInt32 (Int32.toInt8 (Int64.toInt32 (y_L h2 p0 9))))) h16)
        else none)
        else none
        else none)
      else none
      else none
      else none
    else
      some ((7, c0, s0), h2)
    else none
  else
    some ((2, c0, s0), h2))
abbrev FF_X8_newRow : Nat := 1
abbrev LL_X8_newRow : Nat := 23
set_option maxRecDepth 100000 in
set_option maxHeartbeats 4000000 in
theorem k_X8_newRow {l : Launch} {G : y_G} {p0 : Nat} {p1 : Int32} {c0 s0 cz sz : Nat} {h hz : y_H} {rz : Int32} (hf : f_X8_newRow p0 p1 c0 s0 h = some ((rz, cz, sz), hz)) : (c0 ≤ cz ∧ s0 ≤ sz) ∧ y_S l G M_X8_newRow (y_Rm FF_X8_newRow LL_X8_newRow c0 s0 cz sz) [y_p p0, .int p1] h (some (.int rz)) hz := by
  refine y_Ustart (lv := [(0, y_p p0), (1, .int p1)]) (by decide) (by simp [lg_sl, y_p_cat, y_ci, y_cj, M_X8_newRow]) (by simp [lv_args, y_p_cat, y_ci, y_cj]) (fun z ad0 => ?_)
  unfold f_X8_newRow at hf
  refine y_lf (fun _ _ _ _ k => y_iload_n (pc2 := 1) rfl dX8_newRow_0 rfl k) ?_
  refine y_lf (fun _ _ _ _ k => y_iconst (v := 0) (pc2 := 2) rfl dX8_newRow_1 (by decide) k) ?_
  refine y_lf (fun _ _ _ _ k => y_iconst (v := 3) (pc2 := 3) rfl dX8_newRow_2 (by decide) k) ?_
  obtain ⟨r1, h2, c3, hf⟩ := y_clE hf
  refine y_UcS0 (As := [.int p1, .int 0, .int 3]) (rm := rm_X11_isWithin) (pc2 := 6) rfl dX8_newRow_3 n_X11_isWithin l_BoxYard_Tasks_66 t_X11_isWithin rfl rfl (by decide) (by decide) rfl rfl (k_X11_isWithin c3) ?_
  refine y_lf2 (Classical.em _) (fun _ _ k1 k2 => y_ifz_ne (tgt := 11) (pc2 := 9) rfl dX8_newRow_6 (by decide) k1 k2) (fun c26 => ?_) (fun c26 => ?_)
  · replace hf := y_it c26 hf
    refine y_lf (fun _ _ _ _ k => y_aload_n (x := p0) (pc2 := 12) rfl dX8_newRow_11 rfl k) ?_
    obtain ⟨g25, hf⟩ := y_g hf
    refine y_lf (fun _ _ _ _ k => y_getL (pc2 := 15) rfl dX8_newRow_12 F_BoxYard_Tasks_56 (by decide) rfl g25 k) ?_
    refine y_lf (fun _ _ _ _ k => y_l2i (pc2 := 16) rfl dX8_newRow_15 k) ?_
    refine y_lf (fun _ _ _ _ k => y_i2b (pc2 := 17) rfl dX8_newRow_16 k) ?_
    refine y_lf (fun _ _ _ _ k => y_istore_n (lv' := [(2, .int (Int8.toInt32 (Int32.toInt8 (Int64.toInt32 (y_L h2 p0 9))))), (0, y_p p0), (1, .int p1)]) (pc2 := 18) rfl dX8_newRow_17 (by decide) rfl k) ?_
    refine y_lf (fun _ _ _ _ k => y_iload_n (pc2 := 19) rfl dX8_newRow_18 rfl k) ?_
    refine y_lf2 (Classical.em _) (fun _ _ k1 k2 => y_if_ge (tgt := 25) (pc2 := 22) rfl dX8_newRow_19 (by decide) k1 k2) (fun c24 => ?_) (fun c24 => ?_)
    · replace hf := y_it c24 hf
      refine y_lf (fun _ _ _ _ k => y_iload_n (pc2 := 26) rfl dX8_newRow_25 rfl k) ?_
      refine y_lf (fun _ _ _ _ k => y_aload_n (x := p0) (pc2 := 27) rfl dX8_newRow_26 rfl k) ?_
      obtain ⟨g23, hf⟩ := y_g hf
      refine y_lf (fun _ _ _ _ k => y_getP (pc2 := 30) rfl dX8_newRow_27 F_BoxYard_Tasks_36 (by decide) rfl g23 k) ?_
      refine y_lf (fun _ _ _ _ k => y_iload_n (pc2 := 31) rfl dX8_newRow_30 rfl k) ?_
      obtain ⟨g22, hf⟩ := y_g hf
      refine y_lf (fun _ _ _ _ k => y_aald (t := 8) (pc2 := 32) rfl dX8_newRow_31 (by decide) rfl g22.1 (y_ix_in g22.2) k) ?_
      obtain ⟨g21, hf⟩ := y_g hf
      refine y_lf (fun _ _ _ _ k => y_alen (t := 0) (pc2 := 33) rfl dX8_newRow_32 (by decide) g21 k) ?_
      refine y_jnE hf (fun j => ∀ (v0_45 : Nat) (v1_45 : Int32) (v2_45 : Int32) (c45 : Nat) (s45 : Nat) (h4 : y_H), j v0_45 v1_45 v2_45 c45 s45 h4 = some ((rz, cz, sz), hz) → y_U l G z FF_X8_newRow LL_X8_newRow (cz - c0) (sz - s0) c0 s0 cz sz M_X8_newRow ad0 h (some (.int rz)) hz 45 [(0, y_p v0_45), (1, .int v1_45), (2, .int v2_45)] [] h4 c45 s45) (fun v0_45 v1_45 v2_45 c45 s45 h4 hf => ?_) (fun j45 hj45 hf => ?_)
      · refine y_lf (fun _ _ _ _ k => y_aload_n (x := v0_45) (pc2 := 46) rfl dX8_newRow_45 rfl k) ?_
        obtain ⟨g12, hf⟩ := y_g hf
        refine y_lf (fun _ _ _ _ k => y_getP (pc2 := 49) rfl dX8_newRow_46 F_BoxYard_Tasks_39 (by decide) rfl g12 k) ?_
        refine y_lf (fun _ _ _ _ k => y_iload_n (pc2 := 50) rfl dX8_newRow_49 rfl k) ?_
        refine y_lf (fun _ _ _ _ k => y_iload_n (pc2 := 51) rfl dX8_newRow_50 rfl k) ?_
        obtain ⟨g7, hf⟩ := y_g hf
        obtain ⟨h5, e6, hf⟩ := y_bdE hf
        refine y_lf (fun _ _ _ _ k => y_iast (x := v2_45) (pc2 := 52) rfl dX8_newRow_51 g7.1 (y_ix_in g7.2) e6 k) ?_
        refine y_lf (fun _ _ _ _ k => y_aload_n (x := v0_45) (pc2 := 53) rfl dX8_newRow_52 rfl k) ?_
        obtain ⟨g11, hf⟩ := y_g hf
        refine y_lf (fun _ _ _ _ k => y_getP (pc2 := 56) rfl dX8_newRow_53 F_BoxYard_Tasks_36 (by decide) rfl g11 k) ?_
        refine y_lf (fun _ _ _ _ k => y_iload_n (pc2 := 57) rfl dX8_newRow_56 rfl k) ?_
        obtain ⟨g10, hf⟩ := y_g hf
        refine y_lf (fun _ _ _ _ k => y_aald (t := 8) (pc2 := 58) rfl dX8_newRow_57 (by decide) rfl g10.1 (y_ix_in g10.2) k) ?_
        refine y_lf (fun _ _ _ _ k => y_bipush (v := (-9 : Int32)) (pc2 := 60) rfl dX8_newRow_58 (by decide) k) ?_
        obtain ⟨r_, h8, c9, hf⟩ := y_clE hf
        refine y_UcS0 (As := [y_p (y_P h5 (y_P h5 v0_45 12) (Int32.toNatClampNeg v1_45)), .int (-9 : Int32)]) (rm := rm_J7_fill_53178) (pc2 := 63) rfl dX8_newRow_60 n_J7_fill_53178 l_BoxYard_Tasks_60 t_J7_fill_53178 rfl rfl (by decide) (by decide) rfl rfl (k_J7_fill_53178 c9) ?_
        refine y_lf (fun _ _ _ _ k => y_iconst (v := 0) (pc2 := 64) rfl dX8_newRow_63 (by decide) k) ?_
        exact y_iretU hf dX8_newRow_64 rfl
      · refine y_lf2 (Classical.em _) (fun _ _ k1 k2 => y_icmp_le (tgt := 45) (pc2 := 36) rfl dX8_newRow_33 (by decide) k1 k2) (fun c20 => ?_) (fun c20 => ?_)
        · replace hf := y_it c20 hf
          exact y_lf (fun _ _ _ _ k => y_pk [1, 2, 0] rfl k) (hj45 _ _ _ _ _ _ hf)
        · replace hf := y_ie c20 hf
          refine y_lf (fun _ _ _ _ k => y_aload_n (x := p0) (pc2 := 37) rfl dX8_newRow_36 rfl k) ?_
          obtain ⟨g19, hf⟩ := y_g hf
          refine y_lf (fun _ _ _ _ k => y_getP (pc2 := 40) rfl dX8_newRow_37 F_BoxYard_Tasks_36 (by decide) rfl g19 k) ?_
          refine y_lf (fun _ _ _ _ k => y_iload_n (pc2 := 41) rfl dX8_newRow_40 rfl k) ?_
          refine y_lf (fun _ _ _ _ k => y_iload_n (pc2 := 42) rfl dX8_newRow_41 rfl k) ?_
          obtain ⟨g13, hf⟩ := y_g hf
          obtain ⟨h15, e14, hf⟩ := y_bdE hf
          refine y_Unewa (t := 0) (n := 64 * (4 * Int32.toNatClampNeg (Int8.toInt32 (Int32.toInt8 (Int64.toInt32 (y_L h2 p0 9)))) + Int32.toNatClampNeg p1) + 47) (pc2 := 44) rfl dX8_newRow_42 (by decide) rfl rfl rfl ac_0 g13 e14 ?_
          obtain ⟨g18, hf⟩ := y_g hf
          obtain ⟨h16, e17, hf⟩ := y_bdE hf
          refine y_lf (fun _ _ _ _ k => y_aastA (x := 64 * (4 * Int32.toNatClampNeg (Int8.toInt32 (Int32.toInt8 (Int64.toInt32 (y_L h2 p0 9)))) + Int32.toNatClampNeg p1) + 47) (pc2 := 45) rfl dX8_newRow_44 g18.1 (y_ix_in g18.2.1) g18.2.2 e17 k) ?_
          exact y_lf (fun _ _ _ _ k => y_pk [1, 2, 0] rfl k) (hj45 _ _ _ _ _ _ hf)
    · replace hf := y_ie c24 hf
      refine y_lf (fun _ _ _ _ k => y_bipush (v := 7) (pc2 := 24) rfl dX8_newRow_22 (by decide) k) ?_
      exact y_iretU hf dX8_newRow_24 rfl
  · replace hf := y_ie c26 hf
    refine y_lf (fun _ _ _ _ k => y_iconst (v := 2) (pc2 := 10) rfl dX8_newRow_9 (by decide) k) ?_
    exact y_iretU hf dX8_newRow_10 rfl
theorem dX8_step_0 : decode cX8_step 0 = .ok (.iload_n 1, 1) := by decide +kernel
theorem dX8_step_1 : decode cX8_step 1 = .ok (.tableswitch 170 0 13 #[71, 84, 97, 103, 109, 114, 119, 127, 133, 139, 144, 151, 158, 164], 71) := by decide +kernel
theorem dX8_step_72 : decode cX8_step 72 = .ok (.aload_n 0, 1) := by decide +kernel
theorem dX8_step_73 : decode cX8_step 73 = .ok (.aload_n 0, 1) := by decide +kernel
theorem dX8_step_74 : decode cX8_step 74 = .ok (.getfield 42, 3) := by decide +kernel
theorem dX8_step_77 : decode cX8_step 77 = .ok (.iload_n 2, 1) := by decide +kernel
theorem dX8_step_78 : decode cX8_step 78 = .ok (.invokevirtual 103, 3) := by decide +kernel
theorem dX8_step_81 : decode cX8_step 81 = .ok (.invokevirtual 109, 3) := by decide +kernel
theorem dX8_step_84 : decode cX8_step 84 = .ok (.ireturn, 1) := by decide +kernel
theorem dX8_step_85 : decode cX8_step 85 = .ok (.aload_n 0, 1) := by decide +kernel
theorem dX8_step_86 : decode cX8_step 86 = .ok (.aload_n 0, 1) := by decide +kernel
theorem dX8_step_87 : decode cX8_step 87 = .ok (.getfield 42, 3) := by decide +kernel
theorem dX8_step_90 : decode cX8_step 90 = .ok (.iload_n 2, 1) := by decide +kernel
theorem dX8_step_91 : decode cX8_step 91 = .ok (.invokevirtual 113, 3) := by decide +kernel
theorem dX8_step_94 : decode cX8_step 94 = .ok (.invokevirtual 117, 3) := by decide +kernel
theorem dX8_step_97 : decode cX8_step 97 = .ok (.ireturn, 1) := by decide +kernel
theorem dX8_step_98 : decode cX8_step 98 = .ok (.aload_n 0, 1) := by decide +kernel
theorem dX8_step_99 : decode cX8_step 99 = .ok (.iload_n 2, 1) := by decide +kernel
theorem dX8_step_100 : decode cX8_step 100 = .ok (.invokevirtual 121, 3) := by decide +kernel
theorem dX8_step_103 : decode cX8_step 103 = .ok (.ireturn, 1) := by decide +kernel
theorem dX8_step_104 : decode cX8_step 104 = .ok (.aload_n 0, 1) := by decide +kernel
theorem dX8_step_105 : decode cX8_step 105 = .ok (.iload_n 2, 1) := by decide +kernel
theorem dX8_step_106 : decode cX8_step 106 = .ok (.invokevirtual 125, 3) := by decide +kernel
theorem dX8_step_109 : decode cX8_step 109 = .ok (.ireturn, 1) := by decide +kernel
theorem dX8_step_110 : decode cX8_step 110 = .ok (.aload_n 0, 1) := by decide +kernel
theorem dX8_step_111 : decode cX8_step 111 = .ok (.invokevirtual 128, 3) := by decide +kernel
theorem dX8_step_114 : decode cX8_step 114 = .ok (.ireturn, 1) := by decide +kernel
theorem dX8_step_115 : decode cX8_step 115 = .ok (.aload_n 0, 1) := by decide +kernel
theorem dX8_step_116 : decode cX8_step 116 = .ok (.invokevirtual 132, 3) := by decide +kernel
theorem dX8_step_119 : decode cX8_step 119 = .ok (.ireturn, 1) := by decide +kernel
theorem dX8_step_120 : decode cX8_step 120 = .ok (.aload_n 0, 1) := by decide +kernel
theorem dX8_step_121 : decode cX8_step 121 = .ok (.iload_n 2, 1) := by decide +kernel
theorem dX8_step_122 : decode cX8_step 122 = .ok (.i2l, 1) := by decide +kernel
theorem dX8_step_123 : decode cX8_step 123 = .ok (.putfield 56, 3) := by decide +kernel
theorem dX8_step_126 : decode cX8_step 126 = .ok (.iconst 0, 1) := by decide +kernel
theorem dX8_step_127 : decode cX8_step 127 = .ok (.ireturn, 1) := by decide +kernel
theorem dX8_step_128 : decode cX8_step 128 = .ok (.aload_n 0, 1) := by decide +kernel
theorem dX8_step_129 : decode cX8_step 129 = .ok (.iload_n 2, 1) := by decide +kernel
theorem dX8_step_130 : decode cX8_step 130 = .ok (.invokevirtual 135, 3) := by decide +kernel
theorem dX8_step_133 : decode cX8_step 133 = .ok (.ireturn, 1) := by decide +kernel
theorem dX8_step_134 : decode cX8_step 134 = .ok (.aload_n 0, 1) := by decide +kernel
theorem dX8_step_135 : decode cX8_step 135 = .ok (.iload_n 2, 1) := by decide +kernel
theorem dX8_step_136 : decode cX8_step 136 = .ok (.invokevirtual 138, 3) := by decide +kernel
theorem dX8_step_139 : decode cX8_step 139 = .ok (.ireturn, 1) := by decide +kernel
theorem dX8_step_140 : decode cX8_step 140 = .ok (.aload_n 0, 1) := by decide +kernel
theorem dX8_step_141 : decode cX8_step 141 = .ok (.invokevirtual 141, 3) := by decide +kernel
theorem dX8_step_144 : decode cX8_step 144 = .ok (.ireturn, 1) := by decide +kernel
theorem dX8_step_145 : decode cX8_step 145 = .ok (.aload_n 0, 1) := by decide +kernel
theorem dX8_step_146 : decode cX8_step 146 = .ok (.iload_n 2, 1) := by decide +kernel
theorem dX8_step_147 : decode cX8_step 147 = .ok (.iload_n 3, 1) := by decide +kernel
theorem dX8_step_148 : decode cX8_step 148 = .ok (.invokevirtual 144, 3) := by decide +kernel
theorem dX8_step_151 : decode cX8_step 151 = .ok (.ireturn, 1) := by decide +kernel
theorem dX8_step_152 : decode cX8_step 152 = .ok (.aload_n 0, 1) := by decide +kernel
theorem dX8_step_153 : decode cX8_step 153 = .ok (.iload_n 2, 1) := by decide +kernel
theorem dX8_step_154 : decode cX8_step 154 = .ok (.iload_n 3, 1) := by decide +kernel
theorem dX8_step_155 : decode cX8_step 155 = .ok (.invokevirtual 147, 3) := by decide +kernel
theorem dX8_step_158 : decode cX8_step 158 = .ok (.ireturn, 1) := by decide +kernel
theorem dX8_step_159 : decode cX8_step 159 = .ok (.aload_n 0, 1) := by decide +kernel
theorem dX8_step_160 : decode cX8_step 160 = .ok (.iload_n 2, 1) := by decide +kernel
theorem dX8_step_161 : decode cX8_step 161 = .ok (.invokevirtual 150, 3) := by decide +kernel
theorem dX8_step_164 : decode cX8_step 164 = .ok (.ireturn, 1) := by decide +kernel
theorem dX8_step_165 : decode cX8_step 165 = .ok (.aload_n 0, 1) := by decide +kernel
theorem dX8_step_166 : decode cX8_step 166 = .ok (.iload_n 2, 1) := by decide +kernel
theorem dX8_step_167 : decode cX8_step 167 = .ok (.invokevirtual 153, 3) := by decide +kernel
theorem dX8_step_170 : decode cX8_step 170 = .ok (.ireturn, 1) := by decide +kernel
theorem dX8_step_171 : decode cX8_step 171 = .ok (.iconst 0, 1) := by decide +kernel
theorem dX8_step_172 : decode cX8_step 172 = .ok (.ireturn, 1) := by decide +kernel
def M_X8_step : y_M := (yX8_step, cX8_step, 4, (Option.some Jvm.ClassFile.FieldType.int))
theorem n_X8_step : y_N0 M_X8_step 3 := ⟨(c_6 160 (by decide +kernel) rfl), (c_1 8 (by decide +kernel) rfl), ⟨by decide +kernel, by decide +kernel⟩, by decide +kernel⟩
theorem l_BoxYard_Tasks_117 : y_lnk "BoxYard$Tasks" 117 M_X8_linkCrane := Or.inl (c_6 168 (by decide +kernel) rfl)
theorem i_X8_linkCrane : Cond.instanceMethod (M_X8_linkCrane).1 ∈ y_tb := (c_6 170 (by decide +kernel) rfl)
theorem e_X8_linkCrane : Cond.selects (M_X8_linkCrane).1.cls (M_X8_linkCrane).1 (M_X8_linkCrane).1 ∈ y_tb := (m_s 39 (by decide +kernel) rfl)
theorem l_BoxYard_Tasks_121 : y_lnk "BoxYard$Tasks" 121 M_X8_linkBay := Or.inl (c_6 172 (by decide +kernel) rfl)
theorem i_X8_linkBay : Cond.instanceMethod (M_X8_linkBay).1 ∈ y_tb := (c_6 174 (by decide +kernel) rfl)
theorem e_X8_linkBay : Cond.selects (M_X8_linkBay).1.cls (M_X8_linkBay).1 (M_X8_linkBay).1 ∈ y_tb := (m_s 40 (by decide +kernel) rfl)
theorem l_BoxYard_Tasks_125 : y_lnk "BoxYard$Tasks" 125 M_X8_linkTop := Or.inl (c_6 177 (by decide +kernel) rfl)
theorem i_X8_linkTop : Cond.instanceMethod (M_X8_linkTop).1 ∈ y_tb := (c_6 179 (by decide +kernel) rfl)
theorem e_X8_linkTop : Cond.selects (M_X8_linkTop).1.cls (M_X8_linkTop).1 (M_X8_linkTop).1 ∈ y_tb := (m_s 41 (by decide +kernel) rfl)
theorem l_BoxYard_Tasks_128 : y_lnk "BoxYard$Tasks" 128 M_X8_linkHeld := Or.inl (c_6 187 (by decide +kernel) rfl)
theorem i_X8_linkHeld : Cond.instanceMethod (M_X8_linkHeld).1 ∈ y_tb := (c_6 189 (by decide +kernel) rfl)
theorem e_X8_linkHeld : Cond.selects (M_X8_linkHeld).1.cls (M_X8_linkHeld).1 (M_X8_linkHeld).1 ∈ y_tb := (m_s 43 (by decide +kernel) rfl)
theorem l_BoxYard_Tasks_132 : y_lnk "BoxYard$Tasks" 132 M_X8_linkBelow := Or.inl (c_6 191 (by decide +kernel) rfl)
theorem i_X8_linkBelow : Cond.instanceMethod (M_X8_linkBelow).1 ∈ y_tb := (c_6 193 (by decide +kernel) rfl)
theorem e_X8_linkBelow : Cond.selects (M_X8_linkBelow).1.cls (M_X8_linkBelow).1 (M_X8_linkBelow).1 ∈ y_tb := (m_s 44 (by decide +kernel) rfl)
theorem l_BoxYard_Tasks_135 : y_lnk "BoxYard$Tasks" 135 M_X8_addOfBox := Or.inl (c_6 196 (by decide +kernel) rfl)
theorem i_X8_addOfBox : Cond.instanceMethod (M_X8_addOfBox).1 ∈ y_tb := (c_6 198 (by decide +kernel) rfl)
theorem e_X8_addOfBox : Cond.selects (M_X8_addOfBox).1.cls (M_X8_addOfBox).1 (M_X8_addOfBox).1 ∈ y_tb := (m_s 45 (by decide +kernel) rfl)
theorem l_BoxYard_Tasks_138 : y_lnk "BoxYard$Tasks" 138 M_X8_addOfCrane := Or.inl (c_6 206 (by decide +kernel) rfl)
theorem i_X8_addOfCrane : Cond.instanceMethod (M_X8_addOfCrane).1 ∈ y_tb := (c_6 208 (by decide +kernel) rfl)
theorem e_X8_addOfCrane : Cond.selects (M_X8_addOfCrane).1.cls (M_X8_addOfCrane).1 (M_X8_addOfCrane).1 ∈ y_tb := (m_s 46 (by decide +kernel) rfl)
theorem l_BoxYard_Tasks_141 : y_lnk "BoxYard$Tasks" 141 M_X8_divide := Or.inl (c_6 212 (by decide +kernel) rfl)
theorem i_X8_divide : Cond.instanceMethod (M_X8_divide).1 ∈ y_tb := (c_6 214 (by decide +kernel) rfl)
theorem e_X8_divide : Cond.selects (M_X8_divide).1.cls (M_X8_divide).1 (M_X8_divide).1 ∈ y_tb := (m_s 47 (by decide +kernel) rfl)
theorem l_BoxYard_Tasks_144 : y_lnk "BoxYard$Tasks" 144 M_X8_keepLink := Or.inl (c_6 217 (by decide +kernel) rfl)
theorem i_X8_keepLink : Cond.instanceMethod (M_X8_keepLink).1 ∈ y_tb := (c_6 219 (by decide +kernel) rfl)
theorem e_X8_keepLink : Cond.selects (M_X8_keepLink).1.cls (M_X8_keepLink).1 (M_X8_keepLink).1 ∈ y_tb := (m_s 48 (by decide +kernel) rfl)
theorem l_BoxYard_Tasks_147 : y_lnk "BoxYard$Tasks" 147 M_X8_linkFrom := Or.inl (c_6 231 (by decide +kernel) rfl)
theorem i_X8_linkFrom : Cond.instanceMethod (M_X8_linkFrom).1 ∈ y_tb := (c_6 233 (by decide +kernel) rfl)
theorem e_X8_linkFrom : Cond.selects (M_X8_linkFrom).1.cls (M_X8_linkFrom).1 (M_X8_linkFrom).1 ∈ y_tb := (m_s 49 (by decide +kernel) rfl)
theorem l_BoxYard_Tasks_150 : y_lnk "BoxYard$Tasks" 150 M_X8_newRow := Or.inl (c_6 235 (by decide +kernel) rfl)
theorem i_X8_newRow : Cond.instanceMethod (M_X8_newRow).1 ∈ y_tb := (c_6 237 (by decide +kernel) rfl)
theorem e_X8_newRow : Cond.selects (M_X8_newRow).1.cls (M_X8_newRow).1 (M_X8_newRow).1 ∈ y_tb := (m_s 50 (by decide +kernel) rfl)
theorem l_BoxYard_Tasks_153 : y_lnk "BoxYard$Tasks" 153 M_X8_lookAt := Or.inl (c_6 239 (by decide +kernel) rfl)
theorem i_X8_lookAt : Cond.instanceMethod (M_X8_lookAt).1 ∈ y_tb := (c_7 1 (by decide +kernel) rfl)
theorem e_X8_lookAt : Cond.selects (M_X8_lookAt).1.cls (M_X8_lookAt).1 (M_X8_lookAt).1 ∈ y_tb := (m_s 51 (by decide +kernel) rfl)
set_option maxRecDepth 100000 in
def f_X8_step (p0 : Nat) (p1 : Int32) (p2 : Int32) (p3 : Int32) (c0 s0 : Nat) (h : y_H) : Option ((Int32 × Nat × Nat) × y_H) :=
  if p1 = 0 then
    if y_K h p0 = 9 then
    if y_K h (y_P h p0 0) = 11 then
    y_cl (f_X10_boxAt (y_P h p0 0) p2 h) (fun r2 h3 =>
    if y_K h3 p0 = 9 then
    y_cl (f_X8_linkBox p0 r2 h3) (fun r5 h6 =>
    some ((r5, c0, s0), h6))
    else none)
    else none
    else none
  else
  if p1 = 1 then
    if y_K h p0 = 9 then
    if y_K h (y_P h p0 0) = 11 then
    y_cl (f_X10_craneAt (y_P h p0 0) p2 h) (fun r12 h13 =>
    if y_K h13 p0 = 9 then
    y_cl (f_X8_linkCrane p0 r12 h13) (fun r15 h16 =>
    some ((r15, c0, s0), h16))
    else none)
    else none
    else none
  else
  if p1 = 2 then
    if y_K h p0 = 9 then
    y_cl (f_X8_linkBay p0 p2 h) (fun r22 h23 =>
    some ((r22, c0, s0), h23))
    else none
  else
  if p1 = 3 then
    if y_K h p0 = 9 then
    y_cl (f_X8_linkTop p0 p2 h) (fun r27 h28 =>
    some ((r27, c0, s0), h28))
    else none
  else
  if p1 = 4 then
    if y_K h p0 = 9 then
    y_cl (f_X8_linkHeld p0 h) (fun r32 h33 =>
    some ((r32, c0, s0), h33))
    else none
  else
  if p1 = 5 then
    if y_K h p0 = 9 then
    y_cl (f_X8_linkBelow p0 h) (fun r37 h38 =>
    some ((r37, c0, s0), h38))
    else none
  else
  if p1 = 6 then
    if y_K h p0 = 9 then
    y_bd (s_L h p0 9 (Int32.toInt64 p2)) (fun h42 =>
    some ((0, c0, s0), h42))
    else none
  else
  if p1 = 7 then
    if y_K h p0 = 9 then
    y_cl (f_X8_addOfBox p0 p2 h) (fun r46 h47 =>
    some ((r46, c0, s0), h47))
    else none
  else
  if p1 = 8 then
    if y_K h p0 = 9 then
    y_cl (f_X8_addOfCrane p0 p2 h) (fun r51 h52 =>
    some ((r51, c0, s0), h52))
    else none
  else
  if p1 = 9 then
    if y_K h p0 = 9 then
    y_cl (f_X8_divide p0 h) (fun r56 h57 =>
    some ((r56, c0, s0), h57))
    else none
  else
  if p1 = 10 then
    if y_K h p0 = 9 then
    y_cl (f_X8_keepLink p0 p2 p3 h) (fun r61 h62 =>
    some ((r61, c0, s0), h62))
    else none
  else
  if p1 = 11 then
    if y_K h p0 = 9 then
    y_cl (f_X8_linkFrom p0 p2 p3 h) (fun r66 h67 =>
    some ((r66, c0, s0), h67))
    else none
  else
  if p1 = 12 then
    if y_K h p0 = 9 then
    y_cl (f_X8_newRow p0 p2 c0 s0 h) (fun r71 h72 =>
    some ((r71.1, r71.2.1, r71.2.2), h72))
    else none
  else
  if p1 = 13 then
    if y_K h p0 = 9 then
    y_cl (f_X8_lookAt p0 p2 h) (fun r76 h77 =>
    some ((r76, c0, s0), h77))
    else none
  else
  some ((0, c0, s0), h)
abbrev FF_X8_step : Nat := 4
abbrev LL_X8_step : Nat := 88
set_option maxRecDepth 100000 in
set_option maxHeartbeats 4000000 in
theorem k_X8_step {l : Launch} {G : y_G} {p0 : Nat} {p1 : Int32} {p2 : Int32} {p3 : Int32} {c0 s0 cz sz : Nat} {h hz : y_H} {rz : Int32} (hf : f_X8_step p0 p1 p2 p3 c0 s0 h = some ((rz, cz, sz), hz)) : (c0 ≤ cz ∧ s0 ≤ sz) ∧ y_S l G M_X8_step (y_Rm FF_X8_step LL_X8_step c0 s0 cz sz) [y_p p0, .int p1, .int p2, .int p3] h (some (.int rz)) hz := by
  refine y_Ustart (lv := [(0, y_p p0), (1, .int p1), (2, .int p2), (3, .int p3)]) (by decide) (by simp [lg_sl, y_p_cat, y_ci, y_cj, M_X8_step]) (by simp [lv_args, y_p_cat, y_ci, y_cj]) (fun z ad0 => ?_)
  unfold f_X8_step at hf
  refine y_lf (fun _ _ _ _ k => y_iload_n (pc2 := 1) rfl dX8_step_0 rfl k) ?_
  by_cases c1 : p1 = 0
  · replace hf := y_it c1 hf
    refine y_lf (fun _ _ _ _ k => y_table (off := 71) (tgt := 72) dX8_step_1 (by (rw [c1]) <;> decide) (by decide) k) ?_
    refine y_lf (fun _ _ _ _ k => y_aload_n (x := p0) (pc2 := 73) rfl dX8_step_72 rfl k) ?_
    refine y_lf (fun _ _ _ _ k => y_aload_n (x := p0) (pc2 := 74) rfl dX8_step_73 rfl k) ?_
    obtain ⟨g10, hf⟩ := y_g hf
    refine y_lf (fun _ _ _ _ k => y_getP (pc2 := 77) rfl dX8_step_74 F_BoxYard_Tasks_42 (by decide) rfl g10 k) ?_
    refine y_lf (fun _ _ _ _ k => y_iload_n (pc2 := 78) rfl dX8_step_77 rfl k) ?_
    obtain ⟨g9, hf⟩ := y_g hf
    obtain ⟨r2, h3, c4, hf⟩ := y_clE hf
    refine y_UcV0 (As := [.int p2]) (rm := rm_X10_boxAt) (pc2 := 81) rfl dX8_step_78 n_X10_boxAt l_BoxYard_Tasks_103 i_X10_boxAt e_X10_boxAt (ci := 10) rfl rfl (by decide) g9 rfl rfl (by decide) (by simp [y_ci, y_cj, y_p_cat]) rfl rfl (k_X10_boxAt c4) ?_
    obtain ⟨g8, hf⟩ := y_g hf
    obtain ⟨r5, h6, c7, hf⟩ := y_clE hf
    refine y_UcV0 (As := [y_p r2]) (rm := rm_X8_linkBox) (pc2 := 84) rfl dX8_step_81 n_X8_linkBox l_BoxYard_Tasks_109 i_X8_linkBox e_X8_linkBox (ci := 8) rfl rfl (by decide) g8 rfl rfl (by decide) (by decide) rfl rfl (k_X8_linkBox c7) ?_
    exact y_iretU hf dX8_step_84 rfl
  · replace hf := y_ie c1 hf
    by_cases c11 : p1 = 1
    · replace hf := y_it c11 hf
      refine y_lf (fun _ _ _ _ k => y_table (off := 84) (tgt := 85) dX8_step_1 (by (rw [c11]) <;> decide) (by decide) k) ?_
      refine y_lf (fun _ _ _ _ k => y_aload_n (x := p0) (pc2 := 86) rfl dX8_step_85 rfl k) ?_
      refine y_lf (fun _ _ _ _ k => y_aload_n (x := p0) (pc2 := 87) rfl dX8_step_86 rfl k) ?_
      obtain ⟨g20, hf⟩ := y_g hf
      refine y_lf (fun _ _ _ _ k => y_getP (pc2 := 90) rfl dX8_step_87 F_BoxYard_Tasks_42 (by decide) rfl g20 k) ?_
      refine y_lf (fun _ _ _ _ k => y_iload_n (pc2 := 91) rfl dX8_step_90 rfl k) ?_
      obtain ⟨g19, hf⟩ := y_g hf
      obtain ⟨r12, h13, c14, hf⟩ := y_clE hf
      refine y_UcV0 (As := [.int p2]) (rm := rm_X10_craneAt) (pc2 := 94) rfl dX8_step_91 n_X10_craneAt l_BoxYard_Tasks_113 i_X10_craneAt e_X10_craneAt (ci := 10) rfl rfl (by decide) g19 rfl rfl (by decide) (by simp [y_ci, y_cj, y_p_cat]) rfl rfl (k_X10_craneAt c14) ?_
      obtain ⟨g18, hf⟩ := y_g hf
      obtain ⟨r15, h16, c17, hf⟩ := y_clE hf
      refine y_UcV0 (As := [y_p r12]) (rm := rm_X8_linkCrane) (pc2 := 97) rfl dX8_step_94 n_X8_linkCrane l_BoxYard_Tasks_117 i_X8_linkCrane e_X8_linkCrane (ci := 8) rfl rfl (by decide) g18 rfl rfl (by decide) (by decide) rfl rfl (k_X8_linkCrane c17) ?_
      exact y_iretU hf dX8_step_97 rfl
    · replace hf := y_ie c11 hf
      by_cases c21 : p1 = 2
      · replace hf := y_it c21 hf
        refine y_lf (fun _ _ _ _ k => y_table (off := 97) (tgt := 98) dX8_step_1 (by (rw [c21]) <;> decide) (by decide) k) ?_
        refine y_lf (fun _ _ _ _ k => y_aload_n (x := p0) (pc2 := 99) rfl dX8_step_98 rfl k) ?_
        refine y_lf (fun _ _ _ _ k => y_iload_n (pc2 := 100) rfl dX8_step_99 rfl k) ?_
        obtain ⟨g25, hf⟩ := y_g hf
        obtain ⟨r22, h23, c24, hf⟩ := y_clE hf
        refine y_UcV0 (As := [.int p2]) (rm := rm_X8_linkBay) (pc2 := 103) rfl dX8_step_100 n_X8_linkBay l_BoxYard_Tasks_121 i_X8_linkBay e_X8_linkBay (ci := 8) rfl rfl (by decide) g25 rfl rfl (by decide) (by decide) rfl rfl (k_X8_linkBay c24) ?_
        exact y_iretU hf dX8_step_103 rfl
      · replace hf := y_ie c21 hf
        by_cases c26 : p1 = 3
        · replace hf := y_it c26 hf
          refine y_lf (fun _ _ _ _ k => y_table (off := 103) (tgt := 104) dX8_step_1 (by (rw [c26]) <;> decide) (by decide) k) ?_
          refine y_lf (fun _ _ _ _ k => y_aload_n (x := p0) (pc2 := 105) rfl dX8_step_104 rfl k) ?_
          refine y_lf (fun _ _ _ _ k => y_iload_n (pc2 := 106) rfl dX8_step_105 rfl k) ?_
          obtain ⟨g30, hf⟩ := y_g hf
          obtain ⟨r27, h28, c29, hf⟩ := y_clE hf
          refine y_UcV0 (As := [.int p2]) (rm := rm_X8_linkTop) (pc2 := 109) rfl dX8_step_106 n_X8_linkTop l_BoxYard_Tasks_125 i_X8_linkTop e_X8_linkTop (ci := 8) rfl rfl (by decide) g30 rfl rfl (by decide) (by decide) rfl rfl (k_X8_linkTop c29) ?_
          exact y_iretU hf dX8_step_109 rfl
        · replace hf := y_ie c26 hf
          by_cases c31 : p1 = 4
          · replace hf := y_it c31 hf
            refine y_lf (fun _ _ _ _ k => y_table (off := 109) (tgt := 110) dX8_step_1 (by (rw [c31]) <;> decide) (by decide) k) ?_
            refine y_lf (fun _ _ _ _ k => y_aload_n (x := p0) (pc2 := 111) rfl dX8_step_110 rfl k) ?_
            obtain ⟨g35, hf⟩ := y_g hf
            obtain ⟨r32, h33, c34, hf⟩ := y_clE hf
            refine y_UcV0 (As := []) (rm := rm_X8_linkHeld) (pc2 := 114) rfl dX8_step_111 n_X8_linkHeld l_BoxYard_Tasks_128 i_X8_linkHeld e_X8_linkHeld (ci := 8) rfl rfl (by decide) g35 rfl rfl (by decide) (by decide) rfl rfl (k_X8_linkHeld c34) ?_
            exact y_iretU hf dX8_step_114 rfl
          · replace hf := y_ie c31 hf
            by_cases c36 : p1 = 5
            · replace hf := y_it c36 hf
              refine y_lf (fun _ _ _ _ k => y_table (off := 114) (tgt := 115) dX8_step_1 (by (rw [c36]) <;> decide) (by decide) k) ?_
              refine y_lf (fun _ _ _ _ k => y_aload_n (x := p0) (pc2 := 116) rfl dX8_step_115 rfl k) ?_
              obtain ⟨g40, hf⟩ := y_g hf
              obtain ⟨r37, h38, c39, hf⟩ := y_clE hf
              refine y_UcV0 (As := []) (rm := rm_X8_linkBelow) (pc2 := 119) rfl dX8_step_116 n_X8_linkBelow l_BoxYard_Tasks_132 i_X8_linkBelow e_X8_linkBelow (ci := 8) rfl rfl (by decide) g40 rfl rfl (by decide) (by decide) rfl rfl (k_X8_linkBelow c39) ?_
              exact y_iretU hf dX8_step_119 rfl
            · replace hf := y_ie c36 hf
              by_cases c41 : p1 = 6
              · replace hf := y_it c41 hf
                refine y_lf (fun _ _ _ _ k => y_table (off := 119) (tgt := 120) dX8_step_1 (by (rw [c41]) <;> decide) (by decide) k) ?_
                refine y_lf (fun _ _ _ _ k => y_aload_n (x := p0) (pc2 := 121) rfl dX8_step_120 rfl k) ?_
                refine y_lf (fun _ _ _ _ k => y_iload_n (pc2 := 122) rfl dX8_step_121 rfl k) ?_
                refine y_lf (fun _ _ _ _ k => y_i2l (pc2 := 123) rfl dX8_step_122 k) ?_
                obtain ⟨g44, hf⟩ := y_g hf
                obtain ⟨h42, e43, hf⟩ := y_bdE hf
                refine y_lf (fun _ _ _ _ k => y_putL (x := Int32.toInt64 p2) (pc2 := 126) rfl dX8_step_123 Fp_BoxYard_Tasks_56 (by decide) rfl g44 e43 k) ?_
                refine y_lf (fun _ _ _ _ k => y_iconst (v := 0) (pc2 := 127) rfl dX8_step_126 (by decide) k) ?_
                exact y_iretU hf dX8_step_127 rfl
              · replace hf := y_ie c41 hf
                by_cases c45 : p1 = 7
                · replace hf := y_it c45 hf
                  refine y_lf (fun _ _ _ _ k => y_table (off := 127) (tgt := 128) dX8_step_1 (by (rw [c45]) <;> decide) (by decide) k) ?_
                  refine y_lf (fun _ _ _ _ k => y_aload_n (x := p0) (pc2 := 129) rfl dX8_step_128 rfl k) ?_
                  refine y_lf (fun _ _ _ _ k => y_iload_n (pc2 := 130) rfl dX8_step_129 rfl k) ?_
                  obtain ⟨g49, hf⟩ := y_g hf
                  obtain ⟨r46, h47, c48, hf⟩ := y_clE hf
                  refine y_UcV0 (As := [.int p2]) (rm := rm_X8_addOfBox) (pc2 := 133) rfl dX8_step_130 n_X8_addOfBox l_BoxYard_Tasks_135 i_X8_addOfBox e_X8_addOfBox (ci := 8) rfl rfl (by decide) g49 rfl rfl (by decide) (by decide) rfl rfl (k_X8_addOfBox c48) ?_
                  exact y_iretU hf dX8_step_133 rfl
                · replace hf := y_ie c45 hf
                  by_cases c50 : p1 = 8
                  · replace hf := y_it c50 hf
                    refine y_lf (fun _ _ _ _ k => y_table (off := 133) (tgt := 134) dX8_step_1 (by (rw [c50]) <;> decide) (by decide) k) ?_
                    refine y_lf (fun _ _ _ _ k => y_aload_n (x := p0) (pc2 := 135) rfl dX8_step_134 rfl k) ?_
                    refine y_lf (fun _ _ _ _ k => y_iload_n (pc2 := 136) rfl dX8_step_135 rfl k) ?_
                    obtain ⟨g54, hf⟩ := y_g hf
                    obtain ⟨r51, h52, c53, hf⟩ := y_clE hf
                    refine y_UcV0 (As := [.int p2]) (rm := rm_X8_addOfCrane) (pc2 := 139) rfl dX8_step_136 n_X8_addOfCrane l_BoxYard_Tasks_138 i_X8_addOfCrane e_X8_addOfCrane (ci := 8) rfl rfl (by decide) g54 rfl rfl (by decide) (by decide) rfl rfl (k_X8_addOfCrane c53) ?_
                    exact y_iretU hf dX8_step_139 rfl
                  · replace hf := y_ie c50 hf
                    by_cases c55 : p1 = 9
                    · replace hf := y_it c55 hf
                      refine y_lf (fun _ _ _ _ k => y_table (off := 139) (tgt := 140) dX8_step_1 (by (rw [c55]) <;> decide) (by decide) k) ?_
                      refine y_lf (fun _ _ _ _ k => y_aload_n (x := p0) (pc2 := 141) rfl dX8_step_140 rfl k) ?_
                      obtain ⟨g59, hf⟩ := y_g hf
                      obtain ⟨r56, h57, c58, hf⟩ := y_clE hf
                      refine y_UcV0 (As := []) (rm := rm_X8_divide) (pc2 := 144) rfl dX8_step_141 n_X8_divide l_BoxYard_Tasks_141 i_X8_divide e_X8_divide (ci := 8) rfl rfl (by decide) g59 rfl rfl (by decide) (by decide) rfl rfl (k_X8_divide c58) ?_
                      exact y_iretU hf dX8_step_144 rfl
                    · replace hf := y_ie c55 hf
                      by_cases c60 : p1 = 10
                      · replace hf := y_it c60 hf
                        refine y_lf (fun _ _ _ _ k => y_table (off := 144) (tgt := 145) dX8_step_1 (by (rw [c60]) <;> decide) (by decide) k) ?_
                        refine y_lf (fun _ _ _ _ k => y_aload_n (x := p0) (pc2 := 146) rfl dX8_step_145 rfl k) ?_
                        refine y_lf (fun _ _ _ _ k => y_iload_n (pc2 := 147) rfl dX8_step_146 rfl k) ?_
                        refine y_lf (fun _ _ _ _ k => y_iload_n (pc2 := 148) rfl dX8_step_147 rfl k) ?_
                        obtain ⟨g64, hf⟩ := y_g hf
                        obtain ⟨r61, h62, c63, hf⟩ := y_clE hf
                        refine y_UcV0 (As := [.int p2, .int p3]) (rm := rm_X8_keepLink) (pc2 := 151) rfl dX8_step_148 n_X8_keepLink l_BoxYard_Tasks_144 i_X8_keepLink e_X8_keepLink (ci := 8) rfl rfl (by decide) g64 rfl rfl (by decide) (by decide) rfl rfl (k_X8_keepLink c63) ?_
                        exact y_iretU hf dX8_step_151 rfl
                      · replace hf := y_ie c60 hf
                        by_cases c65 : p1 = 11
                        · replace hf := y_it c65 hf
                          refine y_lf (fun _ _ _ _ k => y_table (off := 151) (tgt := 152) dX8_step_1 (by (rw [c65]) <;> decide) (by decide) k) ?_
                          refine y_lf (fun _ _ _ _ k => y_aload_n (x := p0) (pc2 := 153) rfl dX8_step_152 rfl k) ?_
                          refine y_lf (fun _ _ _ _ k => y_iload_n (pc2 := 154) rfl dX8_step_153 rfl k) ?_
                          refine y_lf (fun _ _ _ _ k => y_iload_n (pc2 := 155) rfl dX8_step_154 rfl k) ?_
                          obtain ⟨g69, hf⟩ := y_g hf
                          obtain ⟨r66, h67, c68, hf⟩ := y_clE hf
                          refine y_UcV0 (As := [.int p2, .int p3]) (rm := rm_X8_linkFrom) (pc2 := 158) rfl dX8_step_155 n_X8_linkFrom l_BoxYard_Tasks_147 i_X8_linkFrom e_X8_linkFrom (ci := 8) rfl rfl (by decide) g69 rfl rfl (by decide) (by decide) rfl rfl (k_X8_linkFrom c68) ?_
                          exact y_iretU hf dX8_step_158 rfl
                        · replace hf := y_ie c65 hf
                          by_cases c70 : p1 = 12
                          · replace hf := y_it c70 hf
                            refine y_lf (fun _ _ _ _ k => y_table (off := 158) (tgt := 159) dX8_step_1 (by (rw [c70]) <;> decide) (by decide) k) ?_
                            refine y_lf (fun _ _ _ _ k => y_aload_n (x := p0) (pc2 := 160) rfl dX8_step_159 rfl k) ?_
                            refine y_lf (fun _ _ _ _ k => y_iload_n (pc2 := 161) rfl dX8_step_160 rfl k) ?_
                            obtain ⟨g74, hf⟩ := y_g hf
                            obtain ⟨r71, h72, c73, hf⟩ := y_clE hf
                            refine y_UcallV (As := [.int p2]) (pc2 := 164) rfl dX8_step_161 n_X8_newRow l_BoxYard_Tasks_150 i_X8_newRow e_X8_newRow (ci := 8) rfl rfl (by decide) g74 rfl rfl (by decide) (by decide) (k_X8_newRow c73) ?_
                            exact y_iretU hf dX8_step_164 rfl
                          · replace hf := y_ie c70 hf
                            by_cases c75 : p1 = 13
                            · replace hf := y_it c75 hf
                              refine y_lf (fun _ _ _ _ k => y_table (off := 164) (tgt := 165) dX8_step_1 (by (rw [c75]) <;> decide) (by decide) k) ?_
                              refine y_lf (fun _ _ _ _ k => y_aload_n (x := p0) (pc2 := 166) rfl dX8_step_165 rfl k) ?_
                              refine y_lf (fun _ _ _ _ k => y_iload_n (pc2 := 167) rfl dX8_step_166 rfl k) ?_
                              obtain ⟨g79, hf⟩ := y_g hf
                              obtain ⟨r76, h77, c78, hf⟩ := y_clE hf
                              refine y_UcV0 (As := [.int p2]) (rm := rm_X8_lookAt) (pc2 := 170) rfl dX8_step_167 n_X8_lookAt l_BoxYard_Tasks_153 i_X8_lookAt e_X8_lookAt (ci := 8) rfl rfl (by decide) g79 rfl rfl (by decide) (by decide) rfl rfl (k_X8_lookAt c78) ?_
                              exact y_iretU hf dX8_step_170 rfl
                            · replace hf := y_ie c75 hf
                              refine y_lf (fun _ _ _ _ k => y_table (off := 170) (tgt := 171) dX8_step_1 ((if_pos (by have q0 := lv_neT c1 (a := 0) (by decide); have q1 := lv_neT c11 (a := 1) (by decide); have q2 := lv_neT c21 (a := 2) (by decide); have q3 := lv_neT c26 (a := 3) (by decide); have q4 := lv_neT c31 (a := 4) (by decide); have q5 := lv_neT c36 (a := 5) (by decide); have q6 := lv_neT c41 (a := 6) (by decide); have q7 := lv_neT c45 (a := 7) (by decide); have q8 := lv_neT c50 (a := 8) (by decide); have q9 := lv_neT c55 (a := 9) (by decide); have q10 := lv_neT c60 (a := 10) (by decide); have q11 := lv_neT c65 (a := 11) (by decide); have q12 := lv_neT c70 (a := 12) (by decide); have q13 := lv_neT c75 (a := 13) (by decide); omega))) (by decide) k) ?_
                              refine y_lf (fun _ _ _ _ k => y_iconst (v := 0) (pc2 := 172) rfl dX8_step_171 (by decide) k) ?_
                              exact y_iretU hf dX8_step_172 rfl
theorem dX8_workOps_0 : decode cX8_workOps 0 = .ok (.iload_n 3, 1) := by decide +kernel
theorem dX8_workOps_1 : decode cX8_workOps 1 = .ok (.bipush 10, 2) := by decide +kernel
theorem dX8_workOps_3 : decode cX8_workOps 3 = .ok (.if_icmp .le 5, 3) := by decide +kernel
theorem dX8_workOps_6 : decode cX8_workOps 6 = .ok (.iconst 0, 1) := by decide +kernel
theorem dX8_workOps_7 : decode cX8_workOps 7 = .ok (.ireturn, 1) := by decide +kernel
theorem dX8_workOps_8 : decode cX8_workOps 8 = .ok (.iload_n 1, 1) := by decide +kernel
theorem dX8_workOps_9 : decode cX8_workOps 9 = .ok (.istore 4, 2) := by decide +kernel
theorem dX8_workOps_11 : decode cX8_workOps 11 = .ok (.iload_n 1, 1) := by decide +kernel
theorem dX8_workOps_12 : decode cX8_workOps 12 = .ok (.istore 5, 2) := by decide +kernel
theorem dX8_workOps_14 : decode cX8_workOps 14 = .ok (.iload 5, 2) := by decide +kernel
theorem dX8_workOps_16 : decode cX8_workOps 16 = .ok (.iload_n 2, 1) := by decide +kernel
theorem dX8_workOps_17 : decode cX8_workOps 17 = .ok (.if_icmp .ge 230, 3) := by decide +kernel
theorem dX8_workOps_20 : decode cX8_workOps 20 = .ok (.iload 5, 2) := by decide +kernel
theorem dX8_workOps_22 : decode cX8_workOps 22 = .ok (.iload 4, 2) := by decide +kernel
theorem dX8_workOps_24 : decode cX8_workOps 24 = .ok (.if_icmp .ge 6, 3) := by decide +kernel
theorem dX8_workOps_27 : decode cX8_workOps 27 = .ok (.goto 214, 3) := by decide +kernel
theorem dX8_workOps_30 : decode cX8_workOps 30 = .ok (.aload_n 0, 1) := by decide +kernel
theorem dX8_workOps_31 : decode cX8_workOps 31 = .ok (.dup, 1) := by decide +kernel
theorem dX8_workOps_32 : decode cX8_workOps 32 = .ok (.getfield 74, 3) := by decide +kernel
theorem dX8_workOps_35 : decode cX8_workOps 35 = .ok (.iconst 1, 1) := by decide +kernel
theorem dX8_workOps_36 : decode cX8_workOps 36 = .ok (.iadd, 1) := by decide +kernel
theorem dX8_workOps_37 : decode cX8_workOps 37 = .ok (.putfield 74, 3) := by decide +kernel
theorem dX8_workOps_40 : decode cX8_workOps 40 = .ok (.aload_n 0, 1) := by decide +kernel
theorem dX8_workOps_41 : decode cX8_workOps 41 = .ok (.getfield 11, 3) := by decide +kernel
theorem dX8_workOps_44 : decode cX8_workOps 44 = .ok (.iload 5, 2) := by decide +kernel
theorem dX8_workOps_46 : decode cX8_workOps 46 = .ok (.iaload, 1) := by decide +kernel
theorem dX8_workOps_47 : decode cX8_workOps 47 = .ok (.bipush 14, 2) := by decide +kernel
theorem dX8_workOps_49 : decode cX8_workOps 49 = .ok (.if_icmp .ne 49, 3) := by decide +kernel
theorem dX8_workOps_52 : decode cX8_workOps 52 = .ok (.iload 5, 2) := by decide +kernel
theorem dX8_workOps_54 : decode cX8_workOps 54 = .ok (.iconst 1, 1) := by decide +kernel
theorem dX8_workOps_55 : decode cX8_workOps 55 = .ok (.iadd, 1) := by decide +kernel
theorem dX8_workOps_56 : decode cX8_workOps 56 = .ok (.aload_n 0, 1) := by decide +kernel
theorem dX8_workOps_57 : decode cX8_workOps 57 = .ok (.getfield 15, 3) := by decide +kernel
theorem dX8_workOps_60 : decode cX8_workOps 60 = .ok (.iload 5, 2) := by decide +kernel
theorem dX8_workOps_62 : decode cX8_workOps 62 = .ok (.iaload, 1) := by decide +kernel
theorem dX8_workOps_63 : decode cX8_workOps 63 = .ok (.iload_n 2, 1) := by decide +kernel
theorem dX8_workOps_64 : decode cX8_workOps 64 = .ok (.invokestatic 85, 3) := by decide +kernel
theorem dX8_workOps_67 : decode cX8_workOps 67 = .ok (.istore 4, 2) := by decide +kernel
theorem dX8_workOps_69 : decode cX8_workOps 69 = .ok (.aload_n 0, 1) := by decide +kernel
theorem dX8_workOps_70 : decode cX8_workOps 70 = .ok (.aload_n 0, 1) := by decide +kernel
theorem dX8_workOps_71 : decode cX8_workOps 71 = .ok (.getfield 18, 3) := by decide +kernel
theorem dX8_workOps_74 : decode cX8_workOps 74 = .ok (.iload 5, 2) := by decide +kernel
theorem dX8_workOps_76 : decode cX8_workOps 76 = .ok (.iaload, 1) := by decide +kernel
theorem dX8_workOps_77 : decode cX8_workOps 77 = .ok (.aload_n 0, 1) := by decide +kernel
theorem dX8_workOps_78 : decode cX8_workOps 78 = .ok (.iload 5, 2) := by decide +kernel
theorem dX8_workOps_80 : decode cX8_workOps 80 = .ok (.iconst 1, 1) := by decide +kernel
theorem dX8_workOps_81 : decode cX8_workOps 81 = .ok (.iadd, 1) := by decide +kernel
theorem dX8_workOps_82 : decode cX8_workOps 82 = .ok (.iload 4, 2) := by decide +kernel
theorem dX8_workOps_84 : decode cX8_workOps 84 = .ok (.iload_n 3, 1) := by decide +kernel
theorem dX8_workOps_85 : decode cX8_workOps 85 = .ok (.iconst 1, 1) := by decide +kernel
theorem dX8_workOps_86 : decode cX8_workOps 86 = .ok (.iadd, 1) := by decide +kernel
theorem dX8_workOps_87 : decode cX8_workOps 87 = .ok (.invokevirtual 81, 3) := by decide +kernel
theorem dX8_workOps_90 : decode cX8_workOps 90 = .ok (.invokevirtual 88, 3) := by decide +kernel
theorem dX8_workOps_93 : decode cX8_workOps 93 = .ok (.istore 6, 2) := by decide +kernel
theorem dX8_workOps_95 : decode cX8_workOps 95 = .ok (.goto 138, 3) := by decide +kernel
theorem dX8_workOps_98 : decode cX8_workOps 98 = .ok (.aload_n 0, 1) := by decide +kernel
theorem dX8_workOps_99 : decode cX8_workOps 99 = .ok (.getfield 11, 3) := by decide +kernel
theorem dX8_workOps_102 : decode cX8_workOps 102 = .ok (.iload 5, 2) := by decide +kernel
theorem dX8_workOps_104 : decode cX8_workOps 104 = .ok (.iaload, 1) := by decide +kernel
theorem dX8_workOps_105 : decode cX8_workOps 105 = .ok (.bipush 15, 2) := by decide +kernel
theorem dX8_workOps_107 : decode cX8_workOps 107 = .ok (.if_icmp .ne 80, 3) := by decide +kernel
theorem dX8_workOps_110 : decode cX8_workOps 110 = .ok (.iload 5, 2) := by decide +kernel
theorem dX8_workOps_112 : decode cX8_workOps 112 = .ok (.iconst 1, 1) := by decide +kernel
theorem dX8_workOps_113 : decode cX8_workOps 113 = .ok (.iadd, 1) := by decide +kernel
theorem dX8_workOps_114 : decode cX8_workOps 114 = .ok (.aload_n 0, 1) := by decide +kernel
theorem dX8_workOps_115 : decode cX8_workOps 115 = .ok (.getfield 15, 3) := by decide +kernel
theorem dX8_workOps_118 : decode cX8_workOps 118 = .ok (.iload 5, 2) := by decide +kernel
theorem dX8_workOps_120 : decode cX8_workOps 120 = .ok (.iaload, 1) := by decide +kernel
theorem dX8_workOps_121 : decode cX8_workOps 121 = .ok (.iload_n 2, 1) := by decide +kernel
theorem dX8_workOps_122 : decode cX8_workOps 122 = .ok (.invokestatic 85, 3) := by decide +kernel
theorem dX8_workOps_125 : decode cX8_workOps 125 = .ok (.istore 7, 2) := by decide +kernel
theorem dX8_workOps_127 : decode cX8_workOps 127 = .ok (.iload 7, 2) := by decide +kernel
theorem dX8_workOps_129 : decode cX8_workOps 129 = .ok (.aload_n 0, 1) := by decide +kernel
theorem dX8_workOps_130 : decode cX8_workOps 130 = .ok (.getfield 18, 3) := by decide +kernel
theorem dX8_workOps_133 : decode cX8_workOps 133 = .ok (.iload 5, 2) := by decide +kernel
theorem dX8_workOps_135 : decode cX8_workOps 135 = .ok (.iaload, 1) := by decide +kernel
theorem dX8_workOps_136 : decode cX8_workOps 136 = .ok (.iload_n 2, 1) := by decide +kernel
theorem dX8_workOps_137 : decode cX8_workOps 137 = .ok (.invokestatic 85, 3) := by decide +kernel
theorem dX8_workOps_140 : decode cX8_workOps 140 = .ok (.istore 4, 2) := by decide +kernel
theorem dX8_workOps_142 : decode cX8_workOps 142 = .ok (.aload_n 0, 1) := by decide +kernel
theorem dX8_workOps_143 : decode cX8_workOps 143 = .ok (.iload 5, 2) := by decide +kernel
theorem dX8_workOps_145 : decode cX8_workOps 145 = .ok (.iconst 1, 1) := by decide +kernel
theorem dX8_workOps_146 : decode cX8_workOps 146 = .ok (.iadd, 1) := by decide +kernel
theorem dX8_workOps_147 : decode cX8_workOps 147 = .ok (.iload 7, 2) := by decide +kernel
theorem dX8_workOps_149 : decode cX8_workOps 149 = .ok (.iload_n 3, 1) := by decide +kernel
theorem dX8_workOps_150 : decode cX8_workOps 150 = .ok (.iconst 1, 1) := by decide +kernel
theorem dX8_workOps_151 : decode cX8_workOps 151 = .ok (.iadd, 1) := by decide +kernel
theorem dX8_workOps_152 : decode cX8_workOps 152 = .ok (.invokevirtual 81, 3) := by decide +kernel
theorem dX8_workOps_155 : decode cX8_workOps 155 = .ok (.istore 8, 2) := by decide +kernel
theorem dX8_workOps_157 : decode cX8_workOps 157 = .ok (.aload_n 0, 1) := by decide +kernel
theorem dX8_workOps_158 : decode cX8_workOps 158 = .ok (.iload 7, 2) := by decide +kernel
theorem dX8_workOps_160 : decode cX8_workOps 160 = .ok (.iload 4, 2) := by decide +kernel
theorem dX8_workOps_162 : decode cX8_workOps 162 = .ok (.iload_n 3, 1) := by decide +kernel
theorem dX8_workOps_163 : decode cX8_workOps 163 = .ok (.iconst 1, 1) := by decide +kernel
theorem dX8_workOps_164 : decode cX8_workOps 164 = .ok (.iadd, 1) := by decide +kernel
theorem dX8_workOps_165 : decode cX8_workOps 165 = .ok (.invokevirtual 81, 3) := by decide +kernel
theorem dX8_workOps_168 : decode cX8_workOps 168 = .ok (.istore 9, 2) := by decide +kernel
theorem dX8_workOps_170 : decode cX8_workOps 170 = .ok (.iload 9, 2) := by decide +kernel
theorem dX8_workOps_172 : decode cX8_workOps 172 = .ok (.ifCond .eq 8, 3) := by decide +kernel
theorem dX8_workOps_175 : decode cX8_workOps 175 = .ok (.iload 9, 2) := by decide +kernel
theorem dX8_workOps_177 : decode cX8_workOps 177 = .ok (.goto 5, 3) := by decide +kernel
theorem dX8_workOps_180 : decode cX8_workOps 180 = .ok (.iload 8, 2) := by decide +kernel
theorem dX8_workOps_182 : decode cX8_workOps 182 = .ok (.istore 6, 2) := by decide +kernel
theorem dX8_workOps_184 : decode cX8_workOps 184 = .ok (.goto 49, 3) := by decide +kernel
theorem dX8_workOps_187 : decode cX8_workOps 187 = .ok (.aload_n 0, 1) := by decide +kernel
theorem dX8_workOps_188 : decode cX8_workOps 188 = .ok (.aload_n 0, 1) := by decide +kernel
theorem dX8_workOps_189 : decode cX8_workOps 189 = .ok (.getfield 11, 3) := by decide +kernel
theorem dX8_workOps_192 : decode cX8_workOps 192 = .ok (.iload 5, 2) := by decide +kernel
theorem dX8_workOps_194 : decode cX8_workOps 194 = .ok (.iaload, 1) := by decide +kernel
theorem dX8_workOps_195 : decode cX8_workOps 195 = .ok (.aload_n 0, 1) := by decide +kernel
theorem dX8_workOps_196 : decode cX8_workOps 196 = .ok (.getfield 15, 3) := by decide +kernel
theorem dX8_workOps_199 : decode cX8_workOps 199 = .ok (.iload 5, 2) := by decide +kernel
theorem dX8_workOps_201 : decode cX8_workOps 201 = .ok (.iaload, 1) := by decide +kernel
theorem dX8_workOps_202 : decode cX8_workOps 202 = .ok (.aload_n 0, 1) := by decide +kernel
theorem dX8_workOps_203 : decode cX8_workOps 203 = .ok (.getfield 18, 3) := by decide +kernel
theorem dX8_workOps_206 : decode cX8_workOps 206 = .ok (.iload 5, 2) := by decide +kernel
theorem dX8_workOps_208 : decode cX8_workOps 208 = .ok (.iaload, 1) := by decide +kernel
theorem dX8_workOps_209 : decode cX8_workOps 209 = .ok (.invokevirtual 92, 3) := by decide +kernel
theorem dX8_workOps_212 : decode cX8_workOps 212 = .ok (.istore 7, 2) := by decide +kernel
theorem dX8_workOps_214 : decode cX8_workOps 214 = .ok (.iload 7, 2) := by decide +kernel
theorem dX8_workOps_216 : decode cX8_workOps 216 = .ok (.ifCond .ne 7, 3) := by decide +kernel
theorem dX8_workOps_219 : decode cX8_workOps 219 = .ok (.iconst 0, 1) := by decide +kernel
theorem dX8_workOps_220 : decode cX8_workOps 220 = .ok (.goto 11, 3) := by decide +kernel
theorem dX8_workOps_223 : decode cX8_workOps 223 = .ok (.iload 5, 2) := by decide +kernel
theorem dX8_workOps_225 : decode cX8_workOps 225 = .ok (.bipush 8, 2) := by decide +kernel
theorem dX8_workOps_227 : decode cX8_workOps 227 = .ok (.imul, 1) := by decide +kernel
theorem dX8_workOps_228 : decode cX8_workOps 228 = .ok (.iload 7, 2) := by decide +kernel
theorem dX8_workOps_230 : decode cX8_workOps 230 = .ok (.iadd, 1) := by decide +kernel
theorem dX8_workOps_231 : decode cX8_workOps 231 = .ok (.istore 6, 2) := by decide +kernel
theorem dX8_workOps_233 : decode cX8_workOps 233 = .ok (.iload 6, 2) := by decide +kernel
theorem dX8_workOps_235 : decode cX8_workOps 235 = .ok (.ifCond .eq 6, 3) := by decide +kernel
theorem dX8_workOps_238 : decode cX8_workOps 238 = .ok (.iload 6, 2) := by decide +kernel
theorem dX8_workOps_240 : decode cX8_workOps 240 = .ok (.ireturn, 1) := by decide +kernel
theorem dX8_workOps_241 : decode cX8_workOps 241 = .ok (.iinc 5 1, 3) := by decide +kernel
theorem dX8_workOps_244 : decode cX8_workOps 244 = .ok (.goto (-230), 3) := by decide +kernel
theorem dX8_workOps_247 : decode cX8_workOps 247 = .ok (.iconst 0, 1) := by decide +kernel
theorem dX8_workOps_248 : decode cX8_workOps 248 = .ok (.ireturn, 1) := by decide +kernel
def M_X8_workOps : y_M := (yX8_workOps, cX8_workOps, 10, (Option.some Jvm.ClassFile.FieldType.int))
theorem n_X8_workOps : y_N0 M_X8_workOps 3 := ⟨(c_6 145 (by decide +kernel) rfl), (c_1 8 (by decide +kernel) rfl), ⟨by decide +kernel, by decide +kernel⟩, by decide +kernel⟩
theorem Fp_BoxYard_Tasks_74 {nm : String} : y_Fp "BoxYard$Tasks" nm 74 8 10 := ⟨_, _, _, rfl, by decide, Or.inl ⟨rfl, Or.inl (c_2 36 (by decide +kernel) rfl)⟩⟩
theorem l_BoxYard_Tasks_92 : y_lnk "BoxYard$Tasks" 92 M_X8_step := Or.inl (c_6 157 (by decide +kernel) rfl)
theorem i_X8_step : Cond.instanceMethod (M_X8_step).1 ∈ y_tb := (c_6 159 (by decide +kernel) rfl)
theorem e_X8_step : Cond.selects (M_X8_step).1.cls (M_X8_step).1 (M_X8_step).1 ∈ y_tb := (m_s 37 (by decide +kernel) rfl)
theorem l_BoxYard_Tasks_85 : y_lnk "BoxYard$Tasks" 85 M_X8_behind := Or.inl (c_6 146 (by decide +kernel) rfl)
theorem t_X8_behind : Cond.static (M_X8_behind).1 ∈ y_tb := (c_6 147 (by decide +kernel) rfl)
theorem l_BoxYard_Tasks_81 : y_lnk "BoxYard$Tasks" 81 M_X8_workOps := Or.inl (c_6 142 (by decide +kernel) rfl)
theorem i_X8_workOps : Cond.instanceMethod (M_X8_workOps).1 ∈ y_tb := (c_6 144 (by decide +kernel) rfl)
theorem e_X8_workOps : Cond.selects (M_X8_workOps).1.cls (M_X8_workOps).1 (M_X8_workOps).1 ∈ y_tb := (m_s 35 (by decide +kernel) rfl)
theorem l_BoxYard_Tasks_88 : y_lnk "BoxYard$Tasks" 88 M_X8_tried := Or.inl (c_6 153 (by decide +kernel) rfl)
theorem i_X8_tried : Cond.instanceMethod (M_X8_tried).1 ∈ y_tb := (c_6 155 (by decide +kernel) rfl)
theorem e_X8_tried : Cond.selects (M_X8_tried).1.cls (M_X8_tried).1 (M_X8_tried).1 ∈ y_tb := (m_s 36 (by decide +kernel) rfl)
set_option maxRecDepth 100000 in
def fb_X8_workOps (rc : Nat → Int32 → Int32 → Int32 → Nat → Nat → y_H → Option ((Int32 × Nat × Nat) × y_H)) (p0 : Nat) (p1 : Int32) (p2 : Int32) (p3 : Int32) (c0 s0 : Nat) (h : y_H) : Option ((Int32 × Nat × Nat) × y_H) :=
  if p3 ≤ 10 then
    y_jl (fun (_ : Nat) (_ : Int32) (_ : Int32) (_ : Int32) (_ : Int32) (_ : Nat) (_ : Nat) (_ : y_H) => (none : Option ((Int32 × Nat × Nat) × y_H))) (fun j14 (v0_14 : Nat) (v2_14 : Int32) (v3_14 : Int32) (v4_14 : Int32) (v5_14 : Int32) (c14 : Nat) (s14 : Nat) (h1 : y_H) =>
        if v2_14 ≤ v5_14 then
          some ((0, c14, s14), h1)
        else
          y_jn (fun (v0_241 : Nat) (v2_241 : Int32) (v3_241 : Int32) (v4_241 : Int32) (v5_241 : Int32) (c241 : Nat) (s241 : Nat) (h2 : y_H) => (
              j14 v0_241 v2_241 v3_241 v4_241 (v5_241 + 1) c241 s241 h2 : Option ((Int32 × Nat × Nat) × y_H))) (fun j241 =>
          if v4_14 ≤ v5_14 then
            if y_K h1 v0_14 = 9 then
            if y_K h1 v0_14 = 9 then
            y_bd (s_I h1 v0_14 10 ((y_I h1 v0_14 10) + 1)) (fun h3 =>
            if y_K h3 v0_14 = 9 then
            if y_K h3 (y_P h3 v0_14 1) = 100 ∧ y_ix v5_14 (y_N h3 (y_P h3 v0_14 1)) = true then
            y_jn (fun (v0_233 : Nat) (v2_233 : Int32) (v3_233 : Int32) (v4_233 : Int32) (v5_233 : Int32) (v6_233 : Int32) (c233 : Nat) (s233 : Nat) (h6 : y_H) => (
                if v6_233 = 0 then
                  j241 v0_233 v2_233 v3_233 v4_233 v5_233 c233 s233 h6
                else
                  some ((v6_233, c233, s233), h6) : Option ((Int32 × Nat × Nat) × y_H))) (fun j233 =>
            if (y_I h3 (y_P h3 v0_14 1) (Int32.toNatClampNeg v5_14)) = 14 then
              if y_K h3 v0_14 = 9 then
              if y_K h3 (y_P h3 v0_14 2) = 100 ∧ y_ix v5_14 (y_N h3 (y_P h3 v0_14 2)) = true then
              y_cl (f_X8_behind (v5_14 + 1) (y_I h3 (y_P h3 v0_14 2) (Int32.toNatClampNeg v5_14)) v2_14 h3) (fun r41 h42 =>
              if y_K h42 v0_14 = 9 then
              if y_K h42 (y_P h42 v0_14 3) = 100 ∧ y_ix v5_14 (y_N h42 (y_P h42 v0_14 3)) = true then
              if y_K h42 v0_14 = 9 then
              y_cl (rc v0_14 (v5_14 + 1) r41 (v3_14 + 1) c14 s14 h42) (fun r44 h45 =>
              if y_K h45 v0_14 = 9 then
              y_cl (f_X8_tried v0_14 (y_I h42 (y_P h42 v0_14 3) (Int32.toNatClampNeg v5_14)) r44.1 h45) (fun r47 h48 =>
              j233 v0_14 v2_14 v3_14 r41 v5_14 r47 r44.2.1 r44.2.2 h48)
              else none)
              else none
              else none
              else none)
              else none
              else none
            else
              if y_K h3 v0_14 = 9 then
              if y_K h3 (y_P h3 v0_14 1) = 100 ∧ y_ix v5_14 (y_N h3 (y_P h3 v0_14 1)) = true then
              if (y_I h3 (y_P h3 v0_14 1) (Int32.toNatClampNeg v5_14)) = 15 then
                if y_K h3 v0_14 = 9 then
                if y_K h3 (y_P h3 v0_14 2) = 100 ∧ y_ix v5_14 (y_N h3 (y_P h3 v0_14 2)) = true then
                y_cl (f_X8_behind (v5_14 + 1) (y_I h3 (y_P h3 v0_14 2) (Int32.toNatClampNeg v5_14)) v2_14 h3) (fun r19 h20 =>
                if y_K h20 v0_14 = 9 then
                if y_K h20 (y_P h20 v0_14 3) = 100 ∧ y_ix v5_14 (y_N h20 (y_P h20 v0_14 3)) = true then
                y_cl (f_X8_behind r19 (y_I h20 (y_P h20 v0_14 3) (Int32.toNatClampNeg v5_14)) v2_14 h20) (fun r22 h23 =>
                if y_K h23 v0_14 = 9 then
                y_cl (rc v0_14 (v5_14 + 1) r19 (v3_14 + 1) c14 s14 h23) (fun r25 h26 =>
                if y_K h26 v0_14 = 9 then
                y_cl (rc v0_14 r19 r22 (v3_14 + 1) r25.2.1 r25.2.2 h26) (fun r28 h29 =>
                if r28.1 = 0 then
                  j233 v0_14 v2_14 v3_14 r22 v5_14 r25.1 r28.2.1 r28.2.2 h29
                else
                  j233 v0_14 v2_14 v3_14 r22 v5_14 r28.1 r28.2.1 r28.2.2 h29)
                else none)
                else none)
                else none
                else none)
                else none
                else none
              else
                if y_K h3 v0_14 = 9 then
                if y_K h3 (y_P h3 v0_14 1) = 100 ∧ y_ix v5_14 (y_N h3 (y_P h3 v0_14 1)) = true then
                if y_K h3 v0_14 = 9 then
                if y_K h3 (y_P h3 v0_14 2) = 100 ∧ y_ix v5_14 (y_N h3 (y_P h3 v0_14 2)) = true then
                if y_K h3 v0_14 = 9 then
                if y_K h3 (y_P h3 v0_14 3) = 100 ∧ y_ix v5_14 (y_N h3 (y_P h3 v0_14 3)) = true then
                if y_K h3 v0_14 = 9 then
                y_cl (f_X8_step v0_14 (y_I h3 (y_P h3 v0_14 1) (Int32.toNatClampNeg v5_14)) (y_I h3 (y_P h3 v0_14 2) (Int32.toNatClampNeg v5_14)) (y_I h3 (y_P h3 v0_14 3) (Int32.toNatClampNeg v5_14)) c14 s14 h3) (fun r8 h9 =>
                if r8.1 = 0 then
                  j233 v0_14 v2_14 v3_14 v4_14 v5_14 0 r8.2.1 r8.2.2 h9
                else
                  j233 v0_14 v2_14 v3_14 v4_14 v5_14 ((v5_14 * 8) + r8.1) r8.2.1 r8.2.2 h9)
                else none
                else none
                else none
                else none
                else none
                else none
                else none
              else none
              else none)
            else none
            else none)
            else none
            else none
          else
            j241 v0_14 v2_14 v3_14 v4_14 v5_14 c14 s14 h1)) (fun j14 =>
    j14 p0 p2 p3 p1 p1 c0 s0 h)
  else
    some ((0, c0, s0), h)
def f_X8_workOps : Nat → Nat → Int32 → Int32 → Int32 → Nat → Nat → y_H → Option ((Int32 × Nat × Nat) × y_H)
  | 0 => fun _ _ _ _ _ _ _ => none
  | d + 1 => fb_X8_workOps (f_X8_workOps d)
abbrev FF_X8_workOps : Nat := 5
abbrev LL_X8_workOps : Nat := 111
set_option maxRecDepth 100000 in
set_option maxHeartbeats 4000000 in
theorem kb_X8_workOps {l : Launch} {G : y_G} {d : Nat} {rc : Nat → Int32 → Int32 → Int32 → Nat → Nat → y_H → Option ((Int32 × Nat × Nat) × y_H)} (hrc : ∀ (p0 : Nat) (p1 : Int32) (p2 : Int32) (p3 : Int32) (c0 s0 : Nat) (h : y_H) (rz : Int32) (cz sz : Nat) (hz : y_H), rc p0 p1 p2 p3 c0 s0 h = some ((rz, cz, sz), hz) → (c0 ≤ cz ∧ s0 ≤ sz) ∧ y_S l G M_X8_workOps (y_Rm (FF_X8_workOps + d) (LL_X8_workOps + 200 * d) c0 s0 cz sz) [y_p p0, .int p1, .int p2, .int p3] h (some (.int rz)) hz) : ∀ (p0 : Nat) (p1 : Int32) (p2 : Int32) (p3 : Int32) (c0 s0 : Nat) (h : y_H) (rz : Int32) (cz sz : Nat) (hz : y_H), fb_X8_workOps rc p0 p1 p2 p3 c0 s0 h = some ((rz, cz, sz), hz) → (c0 ≤ cz ∧ s0 ≤ sz) ∧ y_S l G M_X8_workOps (y_Rm (FF_X8_workOps + (d + 1)) (LL_X8_workOps + 200 * (d + 1)) c0 s0 cz sz) [y_p p0, .int p1, .int p2, .int p3] h (some (.int rz)) hz := by
  intro p0 p1 p2 p3 c0 s0 h rz cz sz hz hf
  refine y_Ustart (lv := [(0, y_p p0), (1, .int p1), (2, .int p2), (3, .int p3)]) (by decide) (by simp [lg_sl, y_p_cat, y_ci, y_cj, M_X8_workOps]) (by simp [lv_args, y_p_cat, y_ci, y_cj]) (fun z ad0 => ?_)
  unfold fb_X8_workOps at hf
  refine y_lf (fun _ _ _ _ k => y_iload_n (pc2 := 1) rfl dX8_workOps_0 rfl k) ?_
  refine y_lf (fun _ _ _ _ k => y_bipush (v := 10) (pc2 := 3) rfl dX8_workOps_1 (by decide) k) ?_
  refine y_lf2 (Classical.em _) (fun _ _ k1 k2 => y_icmp_le (tgt := 8) (pc2 := 6) rfl dX8_workOps_3 (by decide) k1 k2) (fun c62 => ?_) (fun c62 => ?_)
  · replace hf := y_it c62 hf
    refine y_lf (fun _ _ _ _ k => y_iload_n (pc2 := 9) rfl dX8_workOps_8 rfl k) ?_
    refine y_lf (fun _ _ _ _ k => y_istore (lv' := [(4, .int p1), (0, y_p p0), (1, .int p1), (2, .int p2), (3, .int p3)]) (pc2 := 11) rfl dX8_workOps_9 (by decide) rfl k) ?_
    refine y_lf (fun _ _ _ _ k => y_iload_n (pc2 := 12) rfl dX8_workOps_11 rfl k) ?_
    refine y_jlE hf (fun j => ∀ (v0_14 : Nat) (v2_14 : Int32) (v3_14 : Int32) (v4_14 : Int32) (v5_14 : Int32) (c14 : Nat) (s14 : Nat) (h1 : y_H), j v0_14 v2_14 v3_14 v4_14 v5_14 c14 s14 h1 = some ((rz, cz, sz), hz) → y_U l G z (FF_X8_workOps + (d + 1)) (LL_X8_workOps + 200 * (d + 1)) (cz - c0) (sz - s0) c0 s0 cz sz M_X8_workOps ad0 h (some (.int rz)) hz 14 [(0, y_p v0_14), (2, .int v2_14), (3, .int v3_14), (4, .int v4_14), (5, .int v5_14)] [] h1 c14 s14) (fun _ _ _ _ _ _ _ _ hf => by cases hf) (fun j14 hj14 v0_14 v2_14 v3_14 v4_14 v5_14 c14 s14 h1 hf => ?_) (fun j14 hj14 hf => ?_)
    · refine y_lf (fun _ _ _ _ k => y_iload (pc2 := 16) rfl dX8_workOps_14 rfl k) ?_
      refine y_lf (fun _ _ _ _ k => y_iload_n (pc2 := 17) rfl dX8_workOps_16 rfl k) ?_
      refine y_lf2 (Classical.em _) (fun _ _ k1 k2 => y_icmp_ge (tgt := 247) (pc2 := 20) rfl dX8_workOps_17 (by decide) k1 k2) (fun c61 => ?_) (fun c61 => ?_)
      · replace hf := y_it c61 hf
        refine y_lf (fun _ _ _ _ k => y_iconst (v := 0) (pc2 := 248) rfl dX8_workOps_247 (by decide) k) ?_
        exact y_iretU hf dX8_workOps_248 rfl
      · replace hf := y_ie c61 hf
        refine y_lf (fun _ _ _ _ k => y_iload (pc2 := 22) rfl dX8_workOps_20 rfl k) ?_
        refine y_lf (fun _ _ _ _ k => y_iload (pc2 := 24) rfl dX8_workOps_22 rfl k) ?_
        refine y_jnE hf (fun j => ∀ (v0_241 : Nat) (v2_241 : Int32) (v3_241 : Int32) (v4_241 : Int32) (v5_241 : Int32) (c241 : Nat) (s241 : Nat) (h2 : y_H), j v0_241 v2_241 v3_241 v4_241 v5_241 c241 s241 h2 = some ((rz, cz, sz), hz) → y_U l G z (FF_X8_workOps + (d + 1)) (LL_X8_workOps + 200 * (d + 1)) (cz - c0) (sz - s0) c0 s0 cz sz M_X8_workOps ad0 h (some (.int rz)) hz 241 [(0, y_p v0_241), (2, .int v2_241), (3, .int v3_241), (4, .int v4_241), (5, .int v5_241)] [] h2 c241 s241) (fun v0_241 v2_241 v3_241 v4_241 v5_241 c241 s241 h2 hf => ?_) (fun j241 hj241 hf => ?_)
        · refine y_lf (fun _ _ _ _ k => y_iinc (v := v5_241 + 1) (lv' := [(5, .int (v5_241 + 1)), (0, y_p v0_241), (2, .int v2_241), (3, .int v3_241), (4, .int v4_241)]) (pc2 := 244) rfl dX8_workOps_241 rfl rfl (by decide) rfl k) ?_
          refine y_lf (fun _ _ _ _ k => y_goto (tgt := 14) dX8_workOps_244 (by decide) k) ?_
          exact y_lf (fun _ _ _ _ k => y_pk [1, 2, 3, 4, 0] rfl k) (hj14 _ _ _ _ _ _ _ _ hf)
        · refine y_lf2 (Classical.em _) (fun _ _ k1 k2 => y_icmp_ge (tgt := 30) (pc2 := 27) rfl dX8_workOps_24 (by decide) k1 k2) (fun c60 => ?_) (fun c60 => ?_)
          · replace hf := y_it c60 hf
            refine y_lf (fun _ _ _ _ k => y_aload_n (x := v0_14) (pc2 := 31) rfl dX8_workOps_30 rfl k) ?_
            refine y_lf (fun _ _ _ _ k => y_dup (pc2 := 32) rfl dX8_workOps_31 (y_p_cat _) k) ?_
            obtain ⟨g59, hf⟩ := y_g hf
            refine y_lf (fun _ _ _ _ k => y_getI (pc2 := 35) rfl dX8_workOps_32 F_BoxYard_Tasks_74 (by decide) rfl g59 k) ?_
            refine y_lf (fun _ _ _ _ k => y_iconst (v := 1) (pc2 := 36) rfl dX8_workOps_35 (by decide) k) ?_
            refine y_lf (fun _ _ _ _ k => y_iadd (pc2 := 37) rfl dX8_workOps_36 k) ?_
            obtain ⟨g5, hf⟩ := y_g hf
            obtain ⟨h3, e4, hf⟩ := y_bdE hf
            refine y_lf (fun _ _ _ _ k => y_putI (x := (y_I h1 v0_14 10) + 1) (pc2 := 40) rfl dX8_workOps_37 Fp_BoxYard_Tasks_74 (by decide) rfl g5 e4 k) ?_
            refine y_lf (fun _ _ _ _ k => y_aload_n (x := v0_14) (pc2 := 41) rfl dX8_workOps_40 rfl k) ?_
            obtain ⟨g58, hf⟩ := y_g hf
            refine y_lf (fun _ _ _ _ k => y_getP (pc2 := 44) rfl dX8_workOps_41 F_BoxYard_Tasks_11 (by decide) rfl g58 k) ?_
            refine y_lf (fun _ _ _ _ k => y_iload (pc2 := 46) rfl dX8_workOps_44 rfl k) ?_
            obtain ⟨g57, hf⟩ := y_g hf
            refine y_lf (fun _ _ _ _ k => y_iald (pc2 := 47) rfl dX8_workOps_46 g57.1 (y_ix_in g57.2) k) ?_
            refine y_lf (fun _ _ _ _ k => y_bipush (v := 14) (pc2 := 49) rfl dX8_workOps_47 (by decide) k) ?_
            refine y_jnE hf (fun j => ∀ (v0_233 : Nat) (v2_233 : Int32) (v3_233 : Int32) (v4_233 : Int32) (v5_233 : Int32) (v6_233 : Int32) (c233 : Nat) (s233 : Nat) (h6 : y_H), j v0_233 v2_233 v3_233 v4_233 v5_233 v6_233 c233 s233 h6 = some ((rz, cz, sz), hz) → y_U l G z (FF_X8_workOps + (d + 1)) (LL_X8_workOps + 200 * (d + 1)) (cz - c0) (sz - s0) c0 s0 cz sz M_X8_workOps ad0 h (some (.int rz)) hz 233 [(0, y_p v0_233), (2, .int v2_233), (3, .int v3_233), (4, .int v4_233), (5, .int v5_233), (6, .int v6_233)] [] h6 c233 s233) (fun v0_233 v2_233 v3_233 v4_233 v5_233 v6_233 c233 s233 h6 hf => ?_) (fun j233 hj233 hf => ?_)
            · refine y_lf (fun _ _ _ _ k => y_iload (pc2 := 235) rfl dX8_workOps_233 rfl k) ?_
              refine y_lf2 (Classical.em _) (fun _ _ k1 k2 => y_if_eq (tgt := 241) (pc2 := 238) rfl dX8_workOps_235 (by decide) k1 k2) (fun c7 => ?_) (fun c7 => ?_)
              · replace hf := y_it c7 hf
                exact y_lf (fun _ _ _ _ k => y_pk [0, 1, 2, 3, 4] rfl k) (hj241 _ _ _ _ _ _ _ _ hf)
              · replace hf := y_ie c7 hf
                refine y_lf (fun _ _ _ _ k => y_iload (pc2 := 240) rfl dX8_workOps_238 rfl k) ?_
                exact y_iretU hf dX8_workOps_240 rfl
            · refine y_lf2 (Classical.em _).symm (fun _ _ k1 k2 => y_icmp_ne (tgt := 98) (pc2 := 52) rfl dX8_workOps_49 (by decide) k1 k2) (fun c56 => ?_) (fun c56 => ?_)
              · replace hf := y_ie c56 hf
                refine y_lf (fun _ _ _ _ k => y_aload_n (x := v0_14) (pc2 := 99) rfl dX8_workOps_98 rfl k) ?_
                obtain ⟨g40, hf⟩ := y_g hf
                refine y_lf (fun _ _ _ _ k => y_getP (pc2 := 102) rfl dX8_workOps_99 F_BoxYard_Tasks_11 (by decide) rfl g40 k) ?_
                refine y_lf (fun _ _ _ _ k => y_iload (pc2 := 104) rfl dX8_workOps_102 rfl k) ?_
                obtain ⟨g39, hf⟩ := y_g hf
                refine y_lf (fun _ _ _ _ k => y_iald (pc2 := 105) rfl dX8_workOps_104 g39.1 (y_ix_in g39.2) k) ?_
                refine y_lf (fun _ _ _ _ k => y_bipush (v := 15) (pc2 := 107) rfl dX8_workOps_105 (by decide) k) ?_
                refine y_lf2 (Classical.em _).symm (fun _ _ k1 k2 => y_icmp_ne (tgt := 187) (pc2 := 110) rfl dX8_workOps_107 (by decide) k1 k2) (fun c38 => ?_) (fun c38 => ?_)
                · replace hf := y_ie c38 hf
                  refine y_lf (fun _ _ _ _ k => y_aload_n (x := v0_14) (pc2 := 188) rfl dX8_workOps_187 rfl k) ?_
                  refine y_lf (fun _ _ _ _ k => y_aload_n (x := v0_14) (pc2 := 189) rfl dX8_workOps_188 rfl k) ?_
                  obtain ⟨g18, hf⟩ := y_g hf
                  refine y_lf (fun _ _ _ _ k => y_getP (pc2 := 192) rfl dX8_workOps_189 F_BoxYard_Tasks_11 (by decide) rfl g18 k) ?_
                  refine y_lf (fun _ _ _ _ k => y_iload (pc2 := 194) rfl dX8_workOps_192 rfl k) ?_
                  obtain ⟨g17, hf⟩ := y_g hf
                  refine y_lf (fun _ _ _ _ k => y_iald (pc2 := 195) rfl dX8_workOps_194 g17.1 (y_ix_in g17.2) k) ?_
                  refine y_lf (fun _ _ _ _ k => y_aload_n (x := v0_14) (pc2 := 196) rfl dX8_workOps_195 rfl k) ?_
                  obtain ⟨g16, hf⟩ := y_g hf
                  refine y_lf (fun _ _ _ _ k => y_getP (pc2 := 199) rfl dX8_workOps_196 F_BoxYard_Tasks_15 (by decide) rfl g16 k) ?_
                  refine y_lf (fun _ _ _ _ k => y_iload (pc2 := 201) rfl dX8_workOps_199 rfl k) ?_
                  obtain ⟨g15, hf⟩ := y_g hf
                  refine y_lf (fun _ _ _ _ k => y_iald (pc2 := 202) rfl dX8_workOps_201 g15.1 (y_ix_in g15.2) k) ?_
                  refine y_lf (fun _ _ _ _ k => y_aload_n (x := v0_14) (pc2 := 203) rfl dX8_workOps_202 rfl k) ?_
                  obtain ⟨g14, hf⟩ := y_g hf
                  refine y_lf (fun _ _ _ _ k => y_getP (pc2 := 206) rfl dX8_workOps_203 F_BoxYard_Tasks_18 (by decide) rfl g14 k) ?_
                  refine y_lf (fun _ _ _ _ k => y_iload (pc2 := 208) rfl dX8_workOps_206 rfl k) ?_
                  obtain ⟨g13, hf⟩ := y_g hf
                  refine y_lf (fun _ _ _ _ k => y_iald (pc2 := 209) rfl dX8_workOps_208 g13.1 (y_ix_in g13.2) k) ?_
                  obtain ⟨g12, hf⟩ := y_g hf
                  obtain ⟨r8, h9, c10, hf⟩ := y_clE hf
                  refine y_UcallV (As := [.int (y_I h3 (y_P h3 v0_14 1) (Int32.toNatClampNeg v5_14)), .int (y_I h3 (y_P h3 v0_14 2) (Int32.toNatClampNeg v5_14)), .int (y_I h3 (y_P h3 v0_14 3) (Int32.toNatClampNeg v5_14))]) (pc2 := 212) rfl dX8_workOps_209 n_X8_step l_BoxYard_Tasks_92 i_X8_step e_X8_step (ci := 8) rfl rfl (by decide) g12 rfl rfl (by constructor <;> (try dsimp only [M_X8_step, FF_X8_workOps, LL_X8_workOps, FF_X8_step, LL_X8_step]) <;> omega) (by decide) (k_X8_step c10) ?_
                  refine y_lf (fun _ _ _ _ k => y_istore (lv' := [(7, .int r8.1), (0, y_p v0_14), (2, .int v2_14), (3, .int v3_14), (4, .int v4_14), (5, .int v5_14)]) (pc2 := 214) rfl dX8_workOps_212 (by decide) rfl k) ?_
                  refine y_lf (fun _ _ _ _ k => y_iload (pc2 := 216) rfl dX8_workOps_214 rfl k) ?_
                  refine y_lf2 (Classical.em _).symm (fun _ _ k1 k2 => y_if_ne (tgt := 223) (pc2 := 219) rfl dX8_workOps_216 (by decide) k1 k2) (fun c11 => ?_) (fun c11 => ?_)
                  · replace hf := y_ie c11 hf
                    refine y_lf (fun _ _ _ _ k => y_iload (pc2 := 225) rfl dX8_workOps_223 rfl k) ?_
                    refine y_lf (fun _ _ _ _ k => y_bipush (v := 8) (pc2 := 227) rfl dX8_workOps_225 (by decide) k) ?_
                    refine y_lf (fun _ _ _ _ k => y_imul (pc2 := 228) rfl dX8_workOps_227 k) ?_
                    refine y_lf (fun _ _ _ _ k => y_iload (pc2 := 230) rfl dX8_workOps_228 rfl k) ?_
                    refine y_lf (fun _ _ _ _ k => y_iadd (pc2 := 231) rfl dX8_workOps_230 k) ?_
                    refine y_lf (fun _ _ _ _ k => y_istore (lv' := [(6, .int ((v5_14 * 8) + r8.1)), (7, .int r8.1), (0, y_p v0_14), (2, .int v2_14), (3, .int v3_14), (4, .int v4_14), (5, .int v5_14)]) (pc2 := 233) rfl dX8_workOps_231 (by decide) rfl k) ?_
                    exact y_lf (fun _ _ _ _ k => y_pk [2, 3, 4, 5, 6, 0] rfl k) (hj233 _ _ _ _ _ _ _ _ _ hf)
                  · replace hf := y_it c11 hf
                    refine y_lf (fun _ _ _ _ k => y_iconst (v := 0) (pc2 := 220) rfl dX8_workOps_219 (by decide) k) ?_
                    refine y_lf (fun _ _ _ _ k => y_goto (tgt := 231) dX8_workOps_220 (by decide) k) ?_
                    refine y_lf (fun _ _ _ _ k => y_istore (lv' := [(6, .int 0), (7, .int r8.1), (0, y_p v0_14), (2, .int v2_14), (3, .int v3_14), (4, .int v4_14), (5, .int v5_14)]) (pc2 := 233) rfl dX8_workOps_231 (by decide) rfl k) ?_
                    exact y_lf (fun _ _ _ _ k => y_pk [2, 3, 4, 5, 6, 0] rfl k) (hj233 _ _ _ _ _ _ _ _ _ hf)
                · replace hf := y_it c38 hf
                  refine y_lf (fun _ _ _ _ k => y_iload (pc2 := 112) rfl dX8_workOps_110 rfl k) ?_
                  refine y_lf (fun _ _ _ _ k => y_iconst (v := 1) (pc2 := 113) rfl dX8_workOps_112 (by decide) k) ?_
                  refine y_lf (fun _ _ _ _ k => y_iadd (pc2 := 114) rfl dX8_workOps_113 k) ?_
                  refine y_lf (fun _ _ _ _ k => y_aload_n (x := v0_14) (pc2 := 115) rfl dX8_workOps_114 rfl k) ?_
                  obtain ⟨g37, hf⟩ := y_g hf
                  refine y_lf (fun _ _ _ _ k => y_getP (pc2 := 118) rfl dX8_workOps_115 F_BoxYard_Tasks_15 (by decide) rfl g37 k) ?_
                  refine y_lf (fun _ _ _ _ k => y_iload (pc2 := 120) rfl dX8_workOps_118 rfl k) ?_
                  obtain ⟨g36, hf⟩ := y_g hf
                  refine y_lf (fun _ _ _ _ k => y_iald (pc2 := 121) rfl dX8_workOps_120 g36.1 (y_ix_in g36.2) k) ?_
                  refine y_lf (fun _ _ _ _ k => y_iload_n (pc2 := 122) rfl dX8_workOps_121 rfl k) ?_
                  obtain ⟨r19, h20, c21, hf⟩ := y_clE hf
                  refine y_UcS0 (As := [.int (v5_14 + 1), .int (y_I h3 (y_P h3 v0_14 2) (Int32.toNatClampNeg v5_14)), .int v2_14]) (rm := rm_X8_behind) (pc2 := 125) rfl dX8_workOps_122 n_X8_behind l_BoxYard_Tasks_85 t_X8_behind rfl rfl (by constructor <;> (try dsimp only [M_X8_behind, FF_X8_workOps, LL_X8_workOps, rm_X8_behind]) <;> omega) (by decide) rfl rfl (k_X8_behind c21) ?_
                  refine y_lf (fun _ _ _ _ k => y_istore (lv' := [(7, .int r19), (0, y_p v0_14), (2, .int v2_14), (3, .int v3_14), (4, .int v4_14), (5, .int v5_14)]) (pc2 := 127) rfl dX8_workOps_125 (by decide) rfl k) ?_
                  refine y_lf (fun _ _ _ _ k => y_iload (pc2 := 129) rfl dX8_workOps_127 rfl k) ?_
                  refine y_lf (fun _ _ _ _ k => y_aload_n (x := v0_14) (pc2 := 130) rfl dX8_workOps_129 rfl k) ?_
                  obtain ⟨g35, hf⟩ := y_g hf
                  refine y_lf (fun _ _ _ _ k => y_getP (pc2 := 133) rfl dX8_workOps_130 F_BoxYard_Tasks_18 (by decide) rfl g35 k) ?_
                  refine y_lf (fun _ _ _ _ k => y_iload (pc2 := 135) rfl dX8_workOps_133 rfl k) ?_
                  obtain ⟨g34, hf⟩ := y_g hf
                  refine y_lf (fun _ _ _ _ k => y_iald (pc2 := 136) rfl dX8_workOps_135 g34.1 (y_ix_in g34.2) k) ?_
                  refine y_lf (fun _ _ _ _ k => y_iload_n (pc2 := 137) rfl dX8_workOps_136 rfl k) ?_
                  obtain ⟨r22, h23, c24, hf⟩ := y_clE hf
                  refine y_UcS0 (As := [.int r19, .int (y_I h20 (y_P h20 v0_14 3) (Int32.toNatClampNeg v5_14)), .int v2_14]) (rm := rm_X8_behind) (pc2 := 140) rfl dX8_workOps_137 n_X8_behind l_BoxYard_Tasks_85 t_X8_behind rfl rfl (by constructor <;> (try dsimp only [M_X8_behind, FF_X8_workOps, LL_X8_workOps, rm_X8_behind]) <;> omega) (by decide) rfl rfl (k_X8_behind c24) ?_
                  refine y_lf (fun _ _ _ _ k => y_istore (lv' := [(4, .int r22), (7, .int r19), (0, y_p v0_14), (2, .int v2_14), (3, .int v3_14), (5, .int v5_14)]) (pc2 := 142) rfl dX8_workOps_140 (by decide) rfl k) ?_
                  refine y_lf (fun _ _ _ _ k => y_aload_n (x := v0_14) (pc2 := 143) rfl dX8_workOps_142 rfl k) ?_
                  refine y_lf (fun _ _ _ _ k => y_iload (pc2 := 145) rfl dX8_workOps_143 rfl k) ?_
                  refine y_lf (fun _ _ _ _ k => y_iconst (v := 1) (pc2 := 146) rfl dX8_workOps_145 (by decide) k) ?_
                  refine y_lf (fun _ _ _ _ k => y_iadd (pc2 := 147) rfl dX8_workOps_146 k) ?_
                  refine y_lf (fun _ _ _ _ k => y_iload (pc2 := 149) rfl dX8_workOps_147 rfl k) ?_
                  refine y_lf (fun _ _ _ _ k => y_iload_n (pc2 := 150) rfl dX8_workOps_149 rfl k) ?_
                  refine y_lf (fun _ _ _ _ k => y_iconst (v := 1) (pc2 := 151) rfl dX8_workOps_150 (by decide) k) ?_
                  refine y_lf (fun _ _ _ _ k => y_iadd (pc2 := 152) rfl dX8_workOps_151 k) ?_
                  obtain ⟨g33, hf⟩ := y_g hf
                  obtain ⟨r25, h26, c27, hf⟩ := y_clE hf
                  refine y_UcallV (As := [.int (v5_14 + 1), .int r19, .int (v3_14 + 1)]) (pc2 := 155) rfl dX8_workOps_152 n_X8_workOps l_BoxYard_Tasks_81 i_X8_workOps e_X8_workOps (ci := 8) rfl rfl (by decide) g33 rfl rfl (by constructor <;> (try dsimp only [M_X8_workOps, FF_X8_workOps, LL_X8_workOps]) <;> omega) (by decide) (hrc _ _ _ _ _ _ _ _ _ _ _ c27) ?_
                  refine y_lf (fun _ _ _ _ k => y_istore (lv' := [(8, .int r25.1), (4, .int r22), (7, .int r19), (0, y_p v0_14), (2, .int v2_14), (3, .int v3_14), (5, .int v5_14)]) (pc2 := 157) rfl dX8_workOps_155 (by decide) rfl k) ?_
                  refine y_lf (fun _ _ _ _ k => y_aload_n (x := v0_14) (pc2 := 158) rfl dX8_workOps_157 rfl k) ?_
                  refine y_lf (fun _ _ _ _ k => y_iload (pc2 := 160) rfl dX8_workOps_158 rfl k) ?_
                  refine y_lf (fun _ _ _ _ k => y_iload (pc2 := 162) rfl dX8_workOps_160 rfl k) ?_
                  refine y_lf (fun _ _ _ _ k => y_iload_n (pc2 := 163) rfl dX8_workOps_162 rfl k) ?_
                  refine y_lf (fun _ _ _ _ k => y_iconst (v := 1) (pc2 := 164) rfl dX8_workOps_163 (by decide) k) ?_
                  refine y_lf (fun _ _ _ _ k => y_iadd (pc2 := 165) rfl dX8_workOps_164 k) ?_
                  obtain ⟨g32, hf⟩ := y_g hf
                  obtain ⟨r28, h29, c30, hf⟩ := y_clE hf
                  refine y_UcallV (As := [.int r19, .int r22, .int (v3_14 + 1)]) (pc2 := 168) rfl dX8_workOps_165 n_X8_workOps l_BoxYard_Tasks_81 i_X8_workOps e_X8_workOps (ci := 8) rfl rfl (by decide) g32 rfl rfl (by constructor <;> (try dsimp only [M_X8_workOps, FF_X8_workOps, LL_X8_workOps]) <;> omega) (by decide) (hrc _ _ _ _ _ _ _ _ _ _ _ c30) ?_
                  refine y_lf (fun _ _ _ _ k => y_istore (lv' := [(9, .int r28.1), (8, .int r25.1), (4, .int r22), (7, .int r19), (0, y_p v0_14), (2, .int v2_14), (3, .int v3_14), (5, .int v5_14)]) (pc2 := 170) rfl dX8_workOps_168 (by decide) rfl k) ?_
                  refine y_lf (fun _ _ _ _ k => y_iload (pc2 := 172) rfl dX8_workOps_170 rfl k) ?_
                  refine y_lf2 (Classical.em _) (fun _ _ k1 k2 => y_if_eq (tgt := 180) (pc2 := 175) rfl dX8_workOps_172 (by decide) k1 k2) (fun c31 => ?_) (fun c31 => ?_)
                  · replace hf := y_it c31 hf
                    refine y_lf (fun _ _ _ _ k => y_iload (pc2 := 182) rfl dX8_workOps_180 rfl k) ?_
                    refine y_lf (fun _ _ _ _ k => y_istore (lv' := [(6, .int r25.1), (9, .int r28.1), (8, .int r25.1), (4, .int r22), (7, .int r19), (0, y_p v0_14), (2, .int v2_14), (3, .int v3_14), (5, .int v5_14)]) (pc2 := 184) rfl dX8_workOps_182 (by decide) rfl k) ?_
                    refine y_lf (fun _ _ _ _ k => y_goto (tgt := 233) dX8_workOps_184 (by decide) k) ?_
                    exact y_lf (fun _ _ _ _ k => y_pk [5, 6, 7, 3, 8, 0] rfl k) (hj233 _ _ _ _ _ _ _ _ _ hf)
                  · replace hf := y_ie c31 hf
                    refine y_lf (fun _ _ _ _ k => y_iload (pc2 := 177) rfl dX8_workOps_175 rfl k) ?_
                    refine y_lf (fun _ _ _ _ k => y_goto (tgt := 182) dX8_workOps_177 (by decide) k) ?_
                    refine y_lf (fun _ _ _ _ k => y_istore (lv' := [(6, .int r28.1), (9, .int r28.1), (8, .int r25.1), (4, .int r22), (7, .int r19), (0, y_p v0_14), (2, .int v2_14), (3, .int v3_14), (5, .int v5_14)]) (pc2 := 184) rfl dX8_workOps_182 (by decide) rfl k) ?_
                    refine y_lf (fun _ _ _ _ k => y_goto (tgt := 233) dX8_workOps_184 (by decide) k) ?_
                    exact y_lf (fun _ _ _ _ k => y_pk [5, 6, 7, 3, 8, 0] rfl k) (hj233 _ _ _ _ _ _ _ _ _ hf)
              · replace hf := y_it c56 hf
                refine y_lf (fun _ _ _ _ k => y_iload (pc2 := 54) rfl dX8_workOps_52 rfl k) ?_
                refine y_lf (fun _ _ _ _ k => y_iconst (v := 1) (pc2 := 55) rfl dX8_workOps_54 (by decide) k) ?_
                refine y_lf (fun _ _ _ _ k => y_iadd (pc2 := 56) rfl dX8_workOps_55 k) ?_
                refine y_lf (fun _ _ _ _ k => y_aload_n (x := v0_14) (pc2 := 57) rfl dX8_workOps_56 rfl k) ?_
                obtain ⟨g55, hf⟩ := y_g hf
                refine y_lf (fun _ _ _ _ k => y_getP (pc2 := 60) rfl dX8_workOps_57 F_BoxYard_Tasks_15 (by decide) rfl g55 k) ?_
                refine y_lf (fun _ _ _ _ k => y_iload (pc2 := 62) rfl dX8_workOps_60 rfl k) ?_
                obtain ⟨g54, hf⟩ := y_g hf
                refine y_lf (fun _ _ _ _ k => y_iald (pc2 := 63) rfl dX8_workOps_62 g54.1 (y_ix_in g54.2) k) ?_
                refine y_lf (fun _ _ _ _ k => y_iload_n (pc2 := 64) rfl dX8_workOps_63 rfl k) ?_
                obtain ⟨r41, h42, c43, hf⟩ := y_clE hf
                refine y_UcS0 (As := [.int (v5_14 + 1), .int (y_I h3 (y_P h3 v0_14 2) (Int32.toNatClampNeg v5_14)), .int v2_14]) (rm := rm_X8_behind) (pc2 := 67) rfl dX8_workOps_64 n_X8_behind l_BoxYard_Tasks_85 t_X8_behind rfl rfl (by constructor <;> (try dsimp only [M_X8_behind, FF_X8_workOps, LL_X8_workOps, rm_X8_behind]) <;> omega) (by decide) rfl rfl (k_X8_behind c43) ?_
                refine y_lf (fun _ _ _ _ k => y_istore (lv' := [(4, .int r41), (0, y_p v0_14), (2, .int v2_14), (3, .int v3_14), (5, .int v5_14)]) (pc2 := 69) rfl dX8_workOps_67 (by decide) rfl k) ?_
                refine y_lf (fun _ _ _ _ k => y_aload_n (x := v0_14) (pc2 := 70) rfl dX8_workOps_69 rfl k) ?_
                refine y_lf (fun _ _ _ _ k => y_aload_n (x := v0_14) (pc2 := 71) rfl dX8_workOps_70 rfl k) ?_
                obtain ⟨g53, hf⟩ := y_g hf
                refine y_lf (fun _ _ _ _ k => y_getP (pc2 := 74) rfl dX8_workOps_71 F_BoxYard_Tasks_18 (by decide) rfl g53 k) ?_
                refine y_lf (fun _ _ _ _ k => y_iload (pc2 := 76) rfl dX8_workOps_74 rfl k) ?_
                obtain ⟨g52, hf⟩ := y_g hf
                refine y_lf (fun _ _ _ _ k => y_iald (pc2 := 77) rfl dX8_workOps_76 g52.1 (y_ix_in g52.2) k) ?_
                refine y_lf (fun _ _ _ _ k => y_aload_n (x := v0_14) (pc2 := 78) rfl dX8_workOps_77 rfl k) ?_
                refine y_lf (fun _ _ _ _ k => y_iload (pc2 := 80) rfl dX8_workOps_78 rfl k) ?_
                refine y_lf (fun _ _ _ _ k => y_iconst (v := 1) (pc2 := 81) rfl dX8_workOps_80 (by decide) k) ?_
                refine y_lf (fun _ _ _ _ k => y_iadd (pc2 := 82) rfl dX8_workOps_81 k) ?_
                refine y_lf (fun _ _ _ _ k => y_iload (pc2 := 84) rfl dX8_workOps_82 rfl k) ?_
                refine y_lf (fun _ _ _ _ k => y_iload_n (pc2 := 85) rfl dX8_workOps_84 rfl k) ?_
                refine y_lf (fun _ _ _ _ k => y_iconst (v := 1) (pc2 := 86) rfl dX8_workOps_85 (by decide) k) ?_
                refine y_lf (fun _ _ _ _ k => y_iadd (pc2 := 87) rfl dX8_workOps_86 k) ?_
                obtain ⟨g51, hf⟩ := y_g hf
                obtain ⟨r44, h45, c46, hf⟩ := y_clE hf
                refine y_UcallV (As := [.int (v5_14 + 1), .int r41, .int (v3_14 + 1)]) (pc2 := 90) rfl dX8_workOps_87 n_X8_workOps l_BoxYard_Tasks_81 i_X8_workOps e_X8_workOps (ci := 8) rfl rfl (by decide) g51 rfl rfl (by constructor <;> (try dsimp only [M_X8_workOps, FF_X8_workOps, LL_X8_workOps]) <;> omega) (by simp [y_ci, y_cj, y_p_cat]) (hrc _ _ _ _ _ _ _ _ _ _ _ c46) ?_
                obtain ⟨g50, hf⟩ := y_g hf
                obtain ⟨r47, h48, c49, hf⟩ := y_clE hf
                refine y_UcV0 (As := [.int (y_I h42 (y_P h42 v0_14 3) (Int32.toNatClampNeg v5_14)), .int r44.1]) (rm := rm_X8_tried) (pc2 := 93) rfl dX8_workOps_90 n_X8_tried l_BoxYard_Tasks_88 i_X8_tried e_X8_tried (ci := 8) rfl rfl (by decide) g50 rfl rfl (by constructor <;> (try dsimp only [M_X8_tried, FF_X8_workOps, LL_X8_workOps, rm_X8_tried]) <;> omega) (by decide) rfl rfl (k_X8_tried c49) ?_
                refine y_lf (fun _ _ _ _ k => y_istore (lv' := [(6, .int r47), (4, .int r41), (0, y_p v0_14), (2, .int v2_14), (3, .int v3_14), (5, .int v5_14)]) (pc2 := 95) rfl dX8_workOps_93 (by decide) rfl k) ?_
                refine y_lf (fun _ _ _ _ k => y_goto (tgt := 233) dX8_workOps_95 (by decide) k) ?_
                exact y_lf (fun _ _ _ _ k => y_pk [2, 3, 4, 1, 5, 0] rfl k) (hj233 _ _ _ _ _ _ _ _ _ hf)
          · replace hf := y_ie c60 hf
            refine y_lf (fun _ _ _ _ k => y_goto (tgt := 241) dX8_workOps_27 (by decide) k) ?_
            exact y_lf (fun _ _ _ _ k => y_pk [0, 1, 2, 3, 4] rfl k) (hj241 _ _ _ _ _ _ _ _ hf)
    · refine y_lf (fun _ _ _ _ k => y_istore (lv' := [(5, .int p1), (4, .int p1), (0, y_p p0), (1, .int p1), (2, .int p2), (3, .int p3)]) (pc2 := 14) rfl dX8_workOps_12 (by decide) rfl k) ?_
      exact y_lf (fun _ _ _ _ k => y_pk [2, 4, 5, 1, 0] rfl k) (hj14 _ _ _ _ _ _ _ _ hf)
  · replace hf := y_ie c62 hf
    refine y_lf (fun _ _ _ _ k => y_iconst (v := 0) (pc2 := 7) rfl dX8_workOps_6 (by decide) k) ?_
    exact y_iretU hf dX8_workOps_7 rfl
theorem ka_X8_workOps {l : Launch} {G : y_G} : ∀ d : Nat, ∀ (p0 : Nat) (p1 : Int32) (p2 : Int32) (p3 : Int32) (c0 s0 : Nat) (h : y_H) (rz : Int32) (cz sz : Nat) (hz : y_H), f_X8_workOps d p0 p1 p2 p3 c0 s0 h = some ((rz, cz, sz), hz) → (c0 ≤ cz ∧ s0 ≤ sz) ∧ y_S l G M_X8_workOps (y_Rm (FF_X8_workOps + d) (LL_X8_workOps + 200 * d) c0 s0 cz sz) [y_p p0, .int p1, .int p2, .int p3] h (some (.int rz)) hz
  | 0 => fun _ _ _ _ _ _ _ _ _ _ _ hf => by cases hf
  | d + 1 => kb_X8_workOps (ka_X8_workOps d)
theorem k_X8_workOps {l : Launch} {G : y_G} {p0 : Nat} {p1 : Int32} {p2 : Int32} {p3 : Int32} {c0 s0 cz sz : Nat} {h hz : y_H} {rz : Int32} (hf : f_X8_workOps 14 p0 p1 p2 p3 c0 s0 h = some ((rz, cz, sz), hz)) : (c0 ≤ cz ∧ s0 ≤ sz) ∧ y_S l G M_X8_workOps (y_Rm (FF_X8_workOps + 14) (LL_X8_workOps + 200 * 14) c0 s0 cz sz) [y_p p0, .int p1, .int p2, .int p3] h (some (.int rz)) hz := ka_X8_workOps 14 _ _ _ _ _ _ _ _ _ _ _ hf
theorem dX8_work_0 : decode cX8_work 0 = .ok (.aload_n 0, 1) := by decide +kernel
theorem dX8_work_1 : decode cX8_work 1 = .ok (.iload_n 1, 1) := by decide +kernel
theorem dX8_work_2 : decode cX8_work 2 = .ok (.invokevirtual 70, 3) := by decide +kernel
theorem dX8_work_5 : decode cX8_work 5 = .ok (.ifCond .ne 5, 3) := by decide +kernel
theorem dX8_work_8 : decode cX8_work 8 = .ok (.iconst (-1), 1) := by decide +kernel
theorem dX8_work_9 : decode cX8_work 9 = .ok (.ireturn, 1) := by decide +kernel
theorem dX8_work_10 : decode cX8_work 10 = .ok (.aload_n 0, 1) := by decide +kernel
theorem dX8_work_11 : decode cX8_work 11 = .ok (.iconst 1, 1) := by decide +kernel
theorem dX8_work_12 : decode cX8_work 12 = .ok (.putfield 52, 3) := by decide +kernel
theorem dX8_work_15 : decode cX8_work 15 = .ok (.aload_n 0, 1) := by decide +kernel
theorem dX8_work_16 : decode cX8_work 16 = .ok (.lconst 0, 1) := by decide +kernel
theorem dX8_work_17 : decode cX8_work 17 = .ok (.putfield 56, 3) := by decide +kernel
theorem dX8_work_20 : decode cX8_work 20 = .ok (.aload_n 0, 1) := by decide +kernel
theorem dX8_work_21 : decode cX8_work 21 = .ok (.iconst 0, 1) := by decide +kernel
theorem dX8_work_22 : decode cX8_work 22 = .ok (.putfield 74, 3) := by decide +kernel
theorem dX8_work_25 : decode cX8_work 25 = .ok (.aload_n 0, 1) := by decide +kernel
theorem dX8_work_26 : decode cX8_work 26 = .ok (.bipush (-9), 2) := by decide +kernel
theorem dX8_work_28 : decode cX8_work 28 = .ok (.putfield 31, 3) := by decide +kernel
theorem dX8_work_31 : decode cX8_work 31 = .ok (.aload_n 0, 1) := by decide +kernel
theorem dX8_work_32 : decode cX8_work 32 = .ok (.bipush (-9), 2) := by decide +kernel
theorem dX8_work_34 : decode cX8_work 34 = .ok (.bipush (-9), 2) := by decide +kernel
theorem dX8_work_36 : decode cX8_work 36 = .ok (.invokevirtual 77, 3) := by decide +kernel
theorem dX8_work_39 : decode cX8_work 39 = .ok (.aload_n 0, 1) := by decide +kernel
theorem dX8_work_40 : decode cX8_work 40 = .ok (.iload_n 1, 1) := by decide +kernel
theorem dX8_work_41 : decode cX8_work 41 = .ok (.bipush 10, 2) := by decide +kernel
theorem dX8_work_43 : decode cX8_work 43 = .ok (.imul, 1) := by decide +kernel
theorem dX8_work_44 : decode cX8_work 44 = .ok (.iload_n 1, 1) := by decide +kernel
theorem dX8_work_45 : decode cX8_work 45 = .ok (.bipush 10, 2) := by decide +kernel
theorem dX8_work_47 : decode cX8_work 47 = .ok (.imul, 1) := by decide +kernel
theorem dX8_work_48 : decode cX8_work 48 = .ok (.aload_n 0, 1) := by decide +kernel
theorem dX8_work_49 : decode cX8_work 49 = .ok (.getfield 21, 3) := by decide +kernel
theorem dX8_work_52 : decode cX8_work 52 = .ok (.iload_n 1, 1) := by decide +kernel
theorem dX8_work_53 : decode cX8_work 53 = .ok (.iaload, 1) := by decide +kernel
theorem dX8_work_54 : decode cX8_work 54 = .ok (.iadd, 1) := by decide +kernel
theorem dX8_work_55 : decode cX8_work 55 = .ok (.iconst 0, 1) := by decide +kernel
theorem dX8_work_56 : decode cX8_work 56 = .ok (.invokevirtual 81, 3) := by decide +kernel
theorem dX8_work_59 : decode cX8_work 59 = .ok (.istore_n 2, 1) := by decide +kernel
theorem dX8_work_60 : decode cX8_work 60 = .ok (.iload_n 2, 1) := by decide +kernel
theorem dX8_work_61 : decode cX8_work 61 = .ok (.ifCond .ne 5, 3) := by decide +kernel
theorem dX8_work_64 : decode cX8_work 64 = .ok (.iconst 1, 1) := by decide +kernel
theorem dX8_work_65 : decode cX8_work 65 = .ok (.ireturn, 1) := by decide +kernel
theorem dX8_work_66 : decode cX8_work 66 = .ok (.aload_n 0, 1) := by decide +kernel
theorem dX8_work_67 : decode cX8_work 67 = .ok (.iload_n 2, 1) := by decide +kernel
theorem dX8_work_68 : decode cX8_work 68 = .ok (.bipush 8, 2) := by decide +kernel
theorem dX8_work_70 : decode cX8_work 70 = .ok (.idiv, 1) := by decide +kernel
theorem dX8_work_71 : decode cX8_work 71 = .ok (.iload_n 1, 1) := by decide +kernel
theorem dX8_work_72 : decode cX8_work 72 = .ok (.bipush 10, 2) := by decide +kernel
theorem dX8_work_74 : decode cX8_work 74 = .ok (.imul, 1) := by decide +kernel
theorem dX8_work_75 : decode cX8_work 75 = .ok (.isub, 1) := by decide +kernel
theorem dX8_work_76 : decode cX8_work 76 = .ok (.putfield 31, 3) := by decide +kernel
theorem dX8_work_79 : decode cX8_work 79 = .ok (.bipush (-60), 2) := by decide +kernel
theorem dX8_work_81 : decode cX8_work 81 = .ok (.iload_n 2, 1) := by decide +kernel
theorem dX8_work_82 : decode cX8_work 82 = .ok (.bipush 8, 2) := by decide +kernel
theorem dX8_work_84 : decode cX8_work 84 = .ok (.irem, 1) := by decide +kernel
theorem dX8_work_85 : decode cX8_work 85 = .ok (.isub, 1) := by decide +kernel
theorem dX8_work_86 : decode cX8_work 86 = .ok (.ireturn, 1) := by decide +kernel
def M_X8_work : y_M := (yX8_work, cX8_work, 3, (Option.some Jvm.ClassFile.FieldType.int))
theorem n_X8_work : y_N0 M_X8_work 1 := ⟨(c_6 137 (by decide +kernel) rfl), (c_1 8 (by decide +kernel) rfl), ⟨by decide +kernel, by decide +kernel⟩, by decide +kernel⟩
theorem Fp_BoxYard_Tasks_31 {nm : String} : y_Fp "BoxYard$Tasks" nm 31 8 11 := ⟨_, _, _, rfl, by decide, Or.inl ⟨rfl, Or.inl (c_2 37 (by decide +kernel) rfl)⟩⟩
set_option maxRecDepth 100000 in
def f_X8_work (p0 : Nat) (p1 : Int32) (c0 s0 : Nat) (h : y_H) : Option ((Int32 × Nat × Nat) × y_H) :=
  if y_K h p0 = 9 then
  y_cl (f_X8_has p0 p1 h) (fun r1 h2 =>
  if r1 = true then
    if y_K h2 p0 = 9 then
    y_bd (s_B h2 p0 6 true) (fun h4 =>
    if y_K h4 p0 = 9 then
    y_bd (s_L h4 p0 9 0) (fun h7 =>
    if y_K h7 p0 = 9 then
    y_bd (s_I h7 p0 10 0) (fun h10 =>
    if y_K h10 p0 = 9 then
    y_bd (s_I h10 p0 11 (-9 : Int32)) (fun h13 =>
    if y_K h13 p0 = 9 then
    y_cl (f_X8_link p0 (-9 : Int32) (-9 : Int32) h13) (fun _ h16 =>
    if y_K h16 p0 = 9 then
    if y_K h16 (y_P h16 p0 4) = 100 ∧ y_ix p1 (y_N h16 (y_P h16 p0 4)) = true then
    if y_K h16 p0 = 9 then
    y_cl (f_X8_workOps 14 p0 (p1 * 10) ((p1 * 10) + (y_I h16 (y_P h16 p0 4) (Int32.toNatClampNeg p1))) 0 c0 s0 h16) (fun r18 h19 =>
    if r18.1 = 0 then
      some ((1, r18.2.1, r18.2.2), h19)
    else
      if y_K h19 p0 = 9 then
      y_bd (s_I h19 p0 11 ((r18.1 / 8) - (p1 * 10))) (fun h21 =>
      some (((-60 : Int32) - (y_rem r18.1 8), r18.2.1, r18.2.2), h21))
      else none)
    else none
    else none
    else none)
    else none)
    else none)
    else none)
    else none)
    else none
  else
    some (((-1 : Int32), c0, s0), h2))
  else none
abbrev FF_X8_work : Nat := 22
abbrev LL_X8_work : Nat := 3340
set_option maxRecDepth 100000 in
set_option maxHeartbeats 4000000 in
theorem k_X8_work {l : Launch} {G : y_G} {p0 : Nat} {p1 : Int32} {c0 s0 cz sz : Nat} {h hz : y_H} {rz : Int32} (hf : f_X8_work p0 p1 c0 s0 h = some ((rz, cz, sz), hz)) : (c0 ≤ cz ∧ s0 ≤ sz) ∧ y_S l G M_X8_work (y_Rm FF_X8_work LL_X8_work c0 s0 cz sz) [y_p p0, .int p1] h (some (.int rz)) hz := by
  refine y_Ustart (lv := [(0, y_p p0), (1, .int p1)]) (by decide) (by simp [lg_sl, y_p_cat, y_ci, y_cj, M_X8_work]) (by simp [lv_args, y_p_cat, y_ci, y_cj]) (fun z ad0 => ?_)
  unfold f_X8_work at hf
  refine y_lf (fun _ _ _ _ k => y_aload_n (x := p0) (pc2 := 1) rfl dX8_work_0 rfl k) ?_
  refine y_lf (fun _ _ _ _ k => y_iload_n (pc2 := 2) rfl dX8_work_1 rfl k) ?_
  obtain ⟨g30, hf⟩ := y_g hf
  obtain ⟨r1, h2, c3, hf⟩ := y_clE hf
  refine y_UcV0 (As := [.int p1]) (rm := rm_X8_has) (pc2 := 5) rfl dX8_work_2 n_X8_has l_BoxYard_Tasks_70 i_X8_has e_X8_has (ci := 8) rfl rfl (by decide) g30 rfl rfl (by decide) (by decide) rfl rfl (k_X8_has c3) ?_
  refine y_lf2 (Classical.em _) (fun _ _ k1 k2 => y_ifz_ne (tgt := 10) (pc2 := 8) rfl dX8_work_5 (by decide) k1 k2) (fun c29 => ?_) (fun c29 => ?_)
  · replace hf := y_it c29 hf
    refine y_lf (fun _ _ _ _ k => y_aload_n (x := p0) (pc2 := 11) rfl dX8_work_10 rfl k) ?_
    refine y_lf (fun _ _ _ _ k => y_iconst (v := 1) (pc2 := 12) rfl dX8_work_11 (by decide) k) ?_
    obtain ⟨g6, hf⟩ := y_g hf
    obtain ⟨h4, e5, hf⟩ := y_bdE hf
    refine y_lf (fun _ _ _ _ k => y_putZ (x := true) (pc2 := 15) rfl dX8_work_12 Fp_BoxYard_Tasks_52 (by decide) rfl g6 e5 k) ?_
    refine y_lf (fun _ _ _ _ k => y_aload_n (x := p0) (pc2 := 16) rfl dX8_work_15 rfl k) ?_
    refine y_lf (fun _ _ _ _ k => y_lconst (v := 0) (pc2 := 17) rfl dX8_work_16 rfl k) ?_
    obtain ⟨g9, hf⟩ := y_g hf
    obtain ⟨h7, e8, hf⟩ := y_bdE hf
    refine y_lf (fun _ _ _ _ k => y_putL (x := 0) (pc2 := 20) rfl dX8_work_17 Fp_BoxYard_Tasks_56 (by decide) rfl g9 e8 k) ?_
    refine y_lf (fun _ _ _ _ k => y_aload_n (x := p0) (pc2 := 21) rfl dX8_work_20 rfl k) ?_
    refine y_lf (fun _ _ _ _ k => y_iconst (v := 0) (pc2 := 22) rfl dX8_work_21 (by decide) k) ?_
    obtain ⟨g12, hf⟩ := y_g hf
    obtain ⟨h10, e11, hf⟩ := y_bdE hf
    refine y_lf (fun _ _ _ _ k => y_putI (x := 0) (pc2 := 25) rfl dX8_work_22 Fp_BoxYard_Tasks_74 (by decide) rfl g12 e11 k) ?_
    refine y_lf (fun _ _ _ _ k => y_aload_n (x := p0) (pc2 := 26) rfl dX8_work_25 rfl k) ?_
    refine y_lf (fun _ _ _ _ k => y_bipush (v := (-9 : Int32)) (pc2 := 28) rfl dX8_work_26 (by decide) k) ?_
    obtain ⟨g15, hf⟩ := y_g hf
    obtain ⟨h13, e14, hf⟩ := y_bdE hf
    refine y_lf (fun _ _ _ _ k => y_putI (x := (-9 : Int32)) (pc2 := 31) rfl dX8_work_28 Fp_BoxYard_Tasks_31 (by decide) rfl g15 e14 k) ?_
    refine y_lf (fun _ _ _ _ k => y_aload_n (x := p0) (pc2 := 32) rfl dX8_work_31 rfl k) ?_
    refine y_lf (fun _ _ _ _ k => y_bipush (v := (-9 : Int32)) (pc2 := 34) rfl dX8_work_32 (by decide) k) ?_
    refine y_lf (fun _ _ _ _ k => y_bipush (v := (-9 : Int32)) (pc2 := 36) rfl dX8_work_34 (by decide) k) ?_
    obtain ⟨g28, hf⟩ := y_g hf
    obtain ⟨r_, h16, c17, hf⟩ := y_clE hf
    refine y_UcV0 (As := [.int (-9 : Int32), .int (-9 : Int32)]) (rm := rm_X8_link) (pc2 := 39) rfl dX8_work_36 n_X8_link l_BoxYard_Tasks_77 i_X8_link e_X8_link (ci := 8) rfl rfl (by decide) g28 rfl rfl (by decide) (by decide) rfl rfl (k_X8_link c17) ?_
    refine y_lf (fun _ _ _ _ k => y_aload_n (x := p0) (pc2 := 40) rfl dX8_work_39 rfl k) ?_
    refine y_lf (fun _ _ _ _ k => y_iload_n (pc2 := 41) rfl dX8_work_40 rfl k) ?_
    refine y_lf (fun _ _ _ _ k => y_bipush (v := 10) (pc2 := 43) rfl dX8_work_41 (by decide) k) ?_
    refine y_lf (fun _ _ _ _ k => y_imul (pc2 := 44) rfl dX8_work_43 k) ?_
    refine y_lf (fun _ _ _ _ k => y_iload_n (pc2 := 45) rfl dX8_work_44 rfl k) ?_
    refine y_lf (fun _ _ _ _ k => y_bipush (v := 10) (pc2 := 47) rfl dX8_work_45 (by decide) k) ?_
    refine y_lf (fun _ _ _ _ k => y_imul (pc2 := 48) rfl dX8_work_47 k) ?_
    refine y_lf (fun _ _ _ _ k => y_aload_n (x := p0) (pc2 := 49) rfl dX8_work_48 rfl k) ?_
    obtain ⟨g27, hf⟩ := y_g hf
    refine y_lf (fun _ _ _ _ k => y_getP (pc2 := 52) rfl dX8_work_49 F_BoxYard_Tasks_21 (by decide) rfl g27 k) ?_
    refine y_lf (fun _ _ _ _ k => y_iload_n (pc2 := 53) rfl dX8_work_52 rfl k) ?_
    obtain ⟨g26, hf⟩ := y_g hf
    refine y_lf (fun _ _ _ _ k => y_iald (pc2 := 54) rfl dX8_work_53 g26.1 (y_ix_in g26.2) k) ?_
    refine y_lf (fun _ _ _ _ k => y_iadd (pc2 := 55) rfl dX8_work_54 k) ?_
    refine y_lf (fun _ _ _ _ k => y_iconst (v := 0) (pc2 := 56) rfl dX8_work_55 (by decide) k) ?_
    obtain ⟨g25, hf⟩ := y_g hf
    obtain ⟨r18, h19, c20, hf⟩ := y_clE hf
    refine y_UcallV (As := [.int (p1 * 10), .int ((p1 * 10) + (y_I h16 (y_P h16 p0 4) (Int32.toNatClampNeg p1))), .int 0]) (pc2 := 59) rfl dX8_work_56 n_X8_workOps l_BoxYard_Tasks_81 i_X8_workOps e_X8_workOps (ci := 8) rfl rfl (by decide) g25 rfl rfl (by decide) (by decide) (k_X8_workOps c20) ?_
    refine y_lf (fun _ _ _ _ k => y_istore_n (lv' := [(2, .int r18.1), (0, y_p p0), (1, .int p1)]) (pc2 := 60) rfl dX8_work_59 (by decide) rfl k) ?_
    refine y_lf (fun _ _ _ _ k => y_iload_n (pc2 := 61) rfl dX8_work_60 rfl k) ?_
    refine y_lf2 (Classical.em _).symm (fun _ _ k1 k2 => y_if_ne (tgt := 66) (pc2 := 64) rfl dX8_work_61 (by decide) k1 k2) (fun c24 => ?_) (fun c24 => ?_)
    · replace hf := y_ie c24 hf
      refine y_lf (fun _ _ _ _ k => y_aload_n (x := p0) (pc2 := 67) rfl dX8_work_66 rfl k) ?_
      refine y_lf (fun _ _ _ _ k => y_iload_n (pc2 := 68) rfl dX8_work_67 rfl k) ?_
      refine y_lf (fun _ _ _ _ k => y_bipush (v := 8) (pc2 := 70) rfl dX8_work_68 (by decide) k) ?_
      refine y_lf (fun _ _ _ _ k => y_idiv (pc2 := 71) rfl dX8_work_70 (by decide) k) ?_
      refine y_lf (fun _ _ _ _ k => y_iload_n (pc2 := 72) rfl dX8_work_71 rfl k) ?_
      refine y_lf (fun _ _ _ _ k => y_bipush (v := 10) (pc2 := 74) rfl dX8_work_72 (by decide) k) ?_
      refine y_lf (fun _ _ _ _ k => y_imul (pc2 := 75) rfl dX8_work_74 k) ?_
      refine y_lf (fun _ _ _ _ k => y_isub (pc2 := 76) rfl dX8_work_75 k) ?_
      obtain ⟨g23, hf⟩ := y_g hf
      obtain ⟨h21, e22, hf⟩ := y_bdE hf
      refine y_lf (fun _ _ _ _ k => y_putI (x := (r18.1 / 8) - (p1 * 10)) (pc2 := 79) rfl dX8_work_76 Fp_BoxYard_Tasks_31 (by decide) rfl g23 e22 k) ?_
      refine y_lf (fun _ _ _ _ k => y_bipush (v := (-60 : Int32)) (pc2 := 81) rfl dX8_work_79 (by decide) k) ?_
      refine y_lf (fun _ _ _ _ k => y_iload_n (pc2 := 82) rfl dX8_work_81 rfl k) ?_
      refine y_lf (fun _ _ _ _ k => y_bipush (v := 8) (pc2 := 84) rfl dX8_work_82 (by decide) k) ?_
      refine y_lf (fun _ _ _ _ k => y_rm (pc2 := 85) rfl dX8_work_84 (by decide) k) ?_
      refine y_lf (fun _ _ _ _ k => y_isub (pc2 := 86) rfl dX8_work_85 k) ?_
      exact y_iretU hf dX8_work_86 rfl
    · replace hf := y_it c24 hf
      refine y_lf (fun _ _ _ _ k => y_iconst (v := 1) (pc2 := 65) rfl dX8_work_64 (by decide) k) ?_
      exact y_iretU hf dX8_work_65 rfl
  · replace hf := y_ie c29 hf
    refine y_lf (fun _ _ _ _ k => y_iconst (v := (-1 : Int32)) (pc2 := 9) rfl dX8_work_8 (by decide) k) ?_
    exact y_iretU hf dX8_work_9 rfl
theorem dX9_init_0 : decode cX9_init 0 = .ok (.aload_n 0, 1) := by decide +kernel
theorem dX9_init_1 : decode cX9_init 1 = .ok (.invokespecial 3, 3) := by decide +kernel
theorem dX9_init_4 : decode cX9_init 4 = .ok (.aload_n 0, 1) := by decide +kernel
theorem dX9_init_5 : decode cX9_init 5 = .ok (.bipush 100, 2) := by decide +kernel
theorem dX9_init_7 : decode cX9_init 7 = .ok (.newarray .int, 2) := by decide +kernel
theorem dX9_init_9 : decode cX9_init 9 = .ok (.putfield 11, 3) := by decide +kernel
theorem dX9_init_12 : decode cX9_init 12 = .ok (.return_, 1) := by decide +kernel
def M_X9_init : y_M := (yX9_init, cX9_init, 1, (Option.none : Option Jvm.ClassFile.FieldType))
theorem n_X9_init : y_N0 M_X9_init 0 := ⟨(c_1 43 (by decide +kernel) rfl), (c_1 3 (by decide +kernel) rfl), ⟨by decide +kernel, by decide +kernel⟩, by decide +kernel⟩
theorem l_BoxYard_Trace_3 : Cond.methodLink "BoxYard$Trace" 3 Lib.objectInit ∈ y_tb := (c_1 44 (by decide +kernel) rfl)
theorem Fp_BoxYard_Trace_11_i : y_Fp "BoxYard$Trace" "<init>" 11 9 0 := ⟨_, _, _, rfl, by decide, Or.inr ⟨rfl, rfl, rfl, (c_1 45 (by decide +kernel) rfl)⟩⟩
set_option maxRecDepth 100000 in
def f_X9_init (p0 : Nat) (c0 s0 : Nat) (h : y_H) : Option ((Unit × Nat × Nat) × y_H) :=
  if y_K h p0 = 10 then
  if 10 ≤ 40 ∧ y_K h 40 = 0 ∧ ¬ (100 : Int32) < 0 ∧ Int32.toNatClampNeg (100 : Int32) * componentBytes (t_ay 0) ≤ 536870912 then
  y_bd (s_new h 40 100 (Int32.toNatClampNeg (100 : Int32))) (fun h4 =>
  if y_K h4 p0 = 10 then
  y_bd (s_P h4 p0 0 40) (fun h5 =>
  some (((), c0 + 1, s0 + Int32.toNatClampNeg (100 : Int32)), h5))
  else none)
  else none
  else none
abbrev FF_X9_init : Nat := 1
abbrev LL_X9_init : Nat := 21
set_option maxRecDepth 100000 in
set_option maxHeartbeats 4000000 in
theorem k_X9_init {l : Launch} {G : y_G} {p0 : Nat} {c0 s0 cz sz : Nat} {h hz : y_H} {rz : Unit} (hf : f_X9_init p0 c0 s0 h = some ((rz, cz, sz), hz)) : (c0 ≤ cz ∧ s0 ≤ sz) ∧ y_S l G M_X9_init (y_Rm FF_X9_init LL_X9_init c0 s0 cz sz) [y_p p0] h none hz := by
  refine y_Ustart (lv := [(0, y_p p0)]) (by decide) (by simp [lg_sl, y_p_cat, y_ci, y_cj, M_X9_init]) (by simp [lv_args, y_p_cat, y_ci, y_cj]) (fun z ad0 => ?_)
  unfold f_X9_init at hf
  refine y_lf (fun _ _ _ _ k => y_aload_n (x := p0) (pc2 := 1) rfl dX9_init_0 rfl k) ?_
  obtain ⟨g1, hf⟩ := y_g hf
  refine y_lf (fun _ _ _ _ k => y_oinit (pc2 := 4) rfl dX9_init_1 l_BoxYard_Trace_3 (by rw [g1]; decide) (Nat.le_of_ble_eq_true rfl) (Nat.le_of_ble_eq_true rfl) (by decide) k) ?_
  refine y_lf (fun _ _ _ _ k => y_aload_n (x := p0) (pc2 := 5) rfl dX9_init_4 rfl k) ?_
  refine y_lf (fun _ _ _ _ k => y_bipush (v := 100) (pc2 := 7) rfl dX9_init_5 (by decide) k) ?_
  obtain ⟨g2, hf⟩ := y_g hf
  obtain ⟨h4, e3, hf⟩ := y_bdE hf
  refine y_Unewa (t := 0) (n := 40) (pc2 := 9) rfl dX9_init_7 (by decide) rfl rfl rfl ac_0 g2 e3 ?_
  obtain ⟨g7, hf⟩ := y_g hf
  obtain ⟨h5, e6, hf⟩ := y_bdE hf
  refine y_lf (fun _ _ _ _ k => y_putP (x := 40) (pc2 := 12) rfl dX9_init_9 Fp_BoxYard_Trace_11_i (by decide) rfl g7 e6 k) ?_
  exact y_vretU hf dX9_init_12 rfl
theorem dX10_init_0 : decode cX10_init 0 = .ok (.aload_n 0, 1) := by decide +kernel
theorem dX10_init_1 : decode cX10_init 1 = .ok (.invokespecial 3, 3) := by decide +kernel
theorem dX10_init_4 : decode cX10_init 4 = .ok (.aload_n 0, 1) := by decide +kernel
theorem dX10_init_5 : decode cX10_init 5 = .ok (.bipush 80, 2) := by decide +kernel
theorem dX10_init_7 : decode cX10_init 7 = .ok (.anewarray 11, 3) := by decide +kernel
theorem dX10_init_10 : decode cX10_init 10 = .ok (.putfield 13, 3) := by decide +kernel
theorem dX10_init_13 : decode cX10_init 13 = .ok (.aload_n 0, 1) := by decide +kernel
theorem dX10_init_14 : decode cX10_init 14 = .ok (.bipush 10, 2) := by decide +kernel
theorem dX10_init_16 : decode cX10_init 16 = .ok (.anewarray 17, 3) := by decide +kernel
theorem dX10_init_19 : decode cX10_init 19 = .ok (.putfield 19, 3) := by decide +kernel
theorem dX10_init_22 : decode cX10_init 22 = .ok (.aload_n 0, 1) := by decide +kernel
theorem dX10_init_23 : decode cX10_init 23 = .ok (.bipush 12, 2) := by decide +kernel
theorem dX10_init_25 : decode cX10_init 25 = .ok (.anewarray 23, 3) := by decide +kernel
theorem dX10_init_28 : decode cX10_init 28 = .ok (.putfield 25, 3) := by decide +kernel
theorem dX10_init_31 : decode cX10_init 31 = .ok (.aload_n 0, 1) := by decide +kernel
theorem dX10_init_32 : decode cX10_init 32 = .ok (.iconst 3, 1) := by decide +kernel
theorem dX10_init_33 : decode cX10_init 33 = .ok (.anewarray 29, 3) := by decide +kernel
theorem dX10_init_36 : decode cX10_init 36 = .ok (.putfield 31, 3) := by decide +kernel
theorem dX10_init_39 : decode cX10_init 39 = .ok (.aload_n 0, 1) := by decide +kernel
theorem dX10_init_40 : decode cX10_init 40 = .ok (.iconst 3, 1) := by decide +kernel
theorem dX10_init_41 : decode cX10_init 41 = .ok (.newarray .int, 2) := by decide +kernel
theorem dX10_init_43 : decode cX10_init 43 = .ok (.putfield 35, 3) := by decide +kernel
theorem dX10_init_46 : decode cX10_init 46 = .ok (.aload_n 0, 1) := by decide +kernel
theorem dX10_init_47 : decode cX10_init 47 = .ok (.bipush 25, 2) := by decide +kernel
theorem dX10_init_49 : decode cX10_init 49 = .ok (.newarray .int, 2) := by decide +kernel
theorem dX10_init_51 : decode cX10_init 51 = .ok (.putfield 39, 3) := by decide +kernel
theorem dX10_init_54 : decode cX10_init 54 = .ok (.aload_n 0, 1) := by decide +kernel
theorem dX10_init_55 : decode cX10_init 55 = .ok (.bipush 80, 2) := by decide +kernel
theorem dX10_init_57 : decode cX10_init 57 = .ok (.anewarray 11, 3) := by decide +kernel
theorem dX10_init_60 : decode cX10_init 60 = .ok (.putfield 42, 3) := by decide +kernel
theorem dX10_init_63 : decode cX10_init 63 = .ok (.aload_n 0, 1) := by decide +kernel
theorem dX10_init_64 : decode cX10_init 64 = .ok (.new 45, 3) := by decide +kernel
theorem dX10_init_67 : decode cX10_init 67 = .ok (.dup, 1) := by decide +kernel
theorem dX10_init_68 : decode cX10_init 68 = .ok (.invokespecial 47, 3) := by decide +kernel
theorem dX10_init_71 : decode cX10_init 71 = .ok (.putfield 48, 3) := by decide +kernel
theorem dX10_init_74 : decode cX10_init 74 = .ok (.aload_n 0, 1) := by decide +kernel
theorem dX10_init_75 : decode cX10_init 75 = .ok (.getfield 35, 3) := by decide +kernel
theorem dX10_init_78 : decode cX10_init 78 = .ok (.iconst 1, 1) := by decide +kernel
theorem dX10_init_79 : decode cX10_init 79 = .ok (.invokestatic 52, 3) := by decide +kernel
theorem dX10_init_82 : decode cX10_init 82 = .ok (.return_, 1) := by decide +kernel
def M_X10_init : y_M := (yX10_init, cX10_init, 1, (Option.none : Option Jvm.ClassFile.FieldType))
theorem n_X10_init : y_N0 M_X10_init 0 := ⟨(c_1 29 (by decide +kernel) rfl), (c_1 2 (by decide +kernel) rfl), ⟨by decide +kernel, by decide +kernel⟩, by decide +kernel⟩
theorem l_BoxYard_Yard_3 : Cond.methodLink "BoxYard$Yard" 3 Lib.objectInit ∈ y_tb := (c_1 30 (by decide +kernel) rfl)
theorem cl_BoxYard_Yard_11 : Cond.classLink "BoxYard$Yard" 11 "BoxYard$Box" ∈ y_tb := (c_1 31 (by decide +kernel) rfl)
theorem Fp_BoxYard_Yard_13_i : y_Fp "BoxYard$Yard" "<init>" 13 10 0 := ⟨_, _, _, rfl, by decide, Or.inr ⟨rfl, rfl, rfl, (c_1 57 (by decide +kernel) rfl)⟩⟩
theorem cl_BoxYard_Yard_17 : Cond.classLink "BoxYard$Yard" 17 "BoxYard$Bay" ∈ y_tb := (c_1 33 (by decide +kernel) rfl)
theorem ao_4 : Cond.arrayOver (.object "BoxYard$Bay") ∈ y_tb := (c_1 34 (by decide +kernel) rfl)
theorem Fp_BoxYard_Yard_19_i : y_Fp "BoxYard$Yard" "<init>" 19 10 2 := ⟨_, _, _, rfl, by decide, Or.inr ⟨rfl, rfl, rfl, (c_1 61 (by decide +kernel) rfl)⟩⟩
theorem cl_BoxYard_Yard_23 : Cond.classLink "BoxYard$Yard" 23 "BoxYard$Crane" ∈ y_tb := (c_1 35 (by decide +kernel) rfl)
theorem ao_5 : Cond.arrayOver (.object "BoxYard$Crane") ∈ y_tb := (c_1 36 (by decide +kernel) rfl)
theorem Fp_BoxYard_Yard_25_i : y_Fp "BoxYard$Yard" "<init>" 25 10 3 := ⟨_, _, _, rfl, by decide, Or.inr ⟨rfl, rfl, rfl, (c_1 62 (by decide +kernel) rfl)⟩⟩
theorem cl_BoxYard_Yard_29 : Cond.classLink "BoxYard$Yard" 29 "BoxYard$Ship" ∈ y_tb := (c_1 37 (by decide +kernel) rfl)
theorem ao_6 : Cond.arrayOver (.object "BoxYard$Ship") ∈ y_tb := (c_1 38 (by decide +kernel) rfl)
theorem Fp_BoxYard_Yard_31_i : y_Fp "BoxYard$Yard" "<init>" 31 10 5 := ⟨_, _, _, rfl, by decide, Or.inr ⟨rfl, rfl, rfl, (c_1 66 (by decide +kernel) rfl)⟩⟩
theorem Fp_BoxYard_Yard_35_i : y_Fp "BoxYard$Yard" "<init>" 35 10 7 := ⟨_, _, _, rfl, by decide, Or.inr ⟨rfl, rfl, rfl, (c_1 70 (by decide +kernel) rfl)⟩⟩
theorem Fp_BoxYard_Yard_39_i : y_Fp "BoxYard$Yard" "<init>" 39 10 8 := ⟨_, _, _, rfl, by decide, Or.inr ⟨rfl, rfl, rfl, (c_1 72 (by decide +kernel) rfl)⟩⟩
theorem Fp_BoxYard_Yard_42_i : y_Fp "BoxYard$Yard" "<init>" 42 10 10 := ⟨_, _, _, rfl, by decide, Or.inr ⟨rfl, rfl, rfl, (c_1 75 (by decide +kernel) rfl)⟩⟩
theorem cl_BoxYard_Yard_45 : Cond.classLink "BoxYard$Yard" 45 "BoxYard$Trace" ∈ y_tb := (c_1 39 (by decide +kernel) rfl)
theorem in_c9 : Cond.instantiable "BoxYard$Trace" 2 ∈ y_tb := (c_1 40 (by decide +kernel) rfl)
theorem ii_c9 : Cond.initialized "BoxYard$Trace" ∈ y_tb := (c_1 3 (by decide +kernel) rfl)
theorem ok_c9 : ∀ k, k < 2 → y_okt (t_f 9 k) = true := by decide
theorem l_BoxYard_Yard_47 : y_lnk "BoxYard$Yard" 47 M_X9_init := Or.inr ⟨"BoxYard", (c_1 41 (by decide +kernel) rfl)⟩
theorem i_X9_init : Cond.instanceMethod (M_X9_init).1 ∈ y_tb := (c_1 42 (by decide +kernel) rfl)
theorem Fp_BoxYard_Yard_48_i : y_Fp "BoxYard$Yard" "<init>" 48 10 12 := ⟨_, _, _, rfl, by decide, Or.inr ⟨rfl, rfl, rfl, (c_1 77 (by decide +kernel) rfl)⟩⟩
set_option maxRecDepth 100000 in
def f_X10_init (p0 : Nat) (c0 s0 : Nat) (h : y_H) : Option ((Unit × Nat × Nat) × y_H) :=
  if y_K h p0 = 11 then
  if 10 ≤ 35 ∧ y_K h 35 = 0 ∧ ¬ (80 : Int32) < 0 ∧ Int32.toNatClampNeg (80 : Int32) * 4 ≤ 536870912 then
  y_bd (s_new h 35 103 (Int32.toNatClampNeg (80 : Int32))) (fun h4 =>
  if y_K h4 p0 = 11 then
  y_bd (s_P h4 p0 0 35) (fun h5 =>
  if 10 ≤ 99 ∧ y_K h5 99 = 0 ∧ ¬ (10 : Int32) < 0 ∧ Int32.toNatClampNeg (10 : Int32) * 4 ≤ 536870912 then
  y_bd (s_new h5 99 104 (Int32.toNatClampNeg (10 : Int32))) (fun h10 =>
  if y_K h10 p0 = 11 then
  y_bd (s_P h10 p0 2 99) (fun h11 =>
  if 10 ≤ 163 ∧ y_K h11 163 = 0 ∧ ¬ (12 : Int32) < 0 ∧ Int32.toNatClampNeg (12 : Int32) * 4 ≤ 536870912 then
  y_bd (s_new h11 163 105 (Int32.toNatClampNeg (12 : Int32))) (fun h16 =>
  if y_K h16 p0 = 11 then
  y_bd (s_P h16 p0 3 163) (fun h17 =>
  if 10 ≤ 227 ∧ y_K h17 227 = 0 ∧ ¬ (3 : Int32) < 0 ∧ Int32.toNatClampNeg (3 : Int32) * 4 ≤ 536870912 then
  y_bd (s_new h17 227 106 (Int32.toNatClampNeg (3 : Int32))) (fun h22 =>
  if y_K h22 p0 = 11 then
  y_bd (s_P h22 p0 5 227) (fun h23 =>
  if 10 ≤ 291 ∧ y_K h23 291 = 0 ∧ ¬ (3 : Int32) < 0 ∧ Int32.toNatClampNeg (3 : Int32) * componentBytes (t_ay 0) ≤ 536870912 then
  y_bd (s_new h23 291 100 (Int32.toNatClampNeg (3 : Int32))) (fun h28 =>
  if y_K h28 p0 = 11 then
  y_bd (s_P h28 p0 7 291) (fun h29 =>
  if 10 ≤ 355 ∧ y_K h29 355 = 0 ∧ ¬ (25 : Int32) < 0 ∧ Int32.toNatClampNeg (25 : Int32) * componentBytes (t_ay 0) ≤ 536870912 then
  y_bd (s_new h29 355 100 (Int32.toNatClampNeg (25 : Int32))) (fun h34 =>
  if y_K h34 p0 = 11 then
  y_bd (s_P h34 p0 8 355) (fun h35 =>
  if 10 ≤ 419 ∧ y_K h35 419 = 0 ∧ ¬ (80 : Int32) < 0 ∧ Int32.toNatClampNeg (80 : Int32) * 4 ≤ 536870912 then
  y_bd (s_new h35 419 103 (Int32.toNatClampNeg (80 : Int32))) (fun h40 =>
  if y_K h40 p0 = 11 then
  y_bd (s_P h40 p0 10 419) (fun h41 =>
  if 10 ≤ 16 ∧ y_K h41 16 = 0 then
  y_bd (s_new h41 16 10 2) (fun h46 =>
  if y_K h46 16 = 10 then
  y_cl (f_X9_init 16 (c0 + 1 + 1 + 1 + 1 + 1 + 1 + 1 + 1) (s0 + Int32.toNatClampNeg (80 : Int32) + Int32.toNatClampNeg (10 : Int32) + Int32.toNatClampNeg (12 : Int32) + Int32.toNatClampNeg (3 : Int32) + Int32.toNatClampNeg (3 : Int32) + Int32.toNatClampNeg (25 : Int32) + Int32.toNatClampNeg (80 : Int32) + 2) h46) (fun r49 h47 =>
  if y_K h47 p0 = 11 then
  y_bd (s_P h47 p0 12 16) (fun h50 =>
  if y_K h50 p0 = 11 then
  y_cl (f_J7_fill_53178 (y_P h50 p0 7) 1 h50) (fun _ h53 =>
  some (((), r49.2.1, r49.2.2), h53))
  else none)
  else none)
  else none)
  else none)
  else none)
  else none)
  else none)
  else none)
  else none)
  else none)
  else none)
  else none)
  else none)
  else none)
  else none)
  else none)
  else none)
  else none
  else none
abbrev FF_X10_init : Nat := 2
abbrev LL_X10_init : Nat := 41
set_option maxRecDepth 100000 in
set_option maxHeartbeats 4000000 in
theorem k_X10_init {l : Launch} {G : y_G} {p0 : Nat} {c0 s0 cz sz : Nat} {h hz : y_H} {rz : Unit} (hf : f_X10_init p0 c0 s0 h = some ((rz, cz, sz), hz)) : (c0 ≤ cz ∧ s0 ≤ sz) ∧ y_S l G M_X10_init (y_Rm FF_X10_init LL_X10_init c0 s0 cz sz) [y_p p0] h none hz := by
  refine y_Ustart (lv := [(0, y_p p0)]) (by decide) (by simp [lg_sl, y_p_cat, y_ci, y_cj, M_X10_init]) (by simp [lv_args, y_p_cat, y_ci, y_cj]) (fun z ad0 => ?_)
  unfold f_X10_init at hf
  refine y_lf (fun _ _ _ _ k => y_aload_n (x := p0) (pc2 := 1) rfl dX10_init_0 rfl k) ?_
  obtain ⟨g1, hf⟩ := y_g hf
  refine y_lf (fun _ _ _ _ k => y_oinit (pc2 := 4) rfl dX10_init_1 l_BoxYard_Yard_3 (by rw [g1]; decide) (Nat.le_of_ble_eq_true rfl) (Nat.le_of_ble_eq_true rfl) (by decide) k) ?_
  refine y_lf (fun _ _ _ _ k => y_aload_n (x := p0) (pc2 := 5) rfl dX10_init_4 rfl k) ?_
  refine y_lf (fun _ _ _ _ k => y_bipush (v := 80) (pc2 := 7) rfl dX10_init_5 (by decide) k) ?_
  obtain ⟨g2, hf⟩ := y_g hf
  obtain ⟨h4, e3, hf⟩ := y_bdE hf
  refine y_Unewq (t := 3) (n := 35) (pc2 := 10) rfl dX10_init_7 (by decide) rfl cl_BoxYard_Yard_11 ao_3 g2 e3 ?_
  obtain ⟨g7, hf⟩ := y_g hf
  obtain ⟨h5, e6, hf⟩ := y_bdE hf
  refine y_lf (fun _ _ _ _ k => y_putP (x := 35) (pc2 := 13) rfl dX10_init_10 Fp_BoxYard_Yard_13_i (by decide) rfl g7 e6 k) ?_
  refine y_lf (fun _ _ _ _ k => y_aload_n (x := p0) (pc2 := 14) rfl dX10_init_13 rfl k) ?_
  refine y_lf (fun _ _ _ _ k => y_bipush (v := 10) (pc2 := 16) rfl dX10_init_14 (by decide) k) ?_
  obtain ⟨g8, hf⟩ := y_g hf
  obtain ⟨h10, e9, hf⟩ := y_bdE hf
  refine y_Unewq (t := 4) (n := 99) (pc2 := 19) rfl dX10_init_16 (by decide) rfl cl_BoxYard_Yard_17 ao_4 g8 e9 ?_
  obtain ⟨g13, hf⟩ := y_g hf
  obtain ⟨h11, e12, hf⟩ := y_bdE hf
  refine y_lf (fun _ _ _ _ k => y_putP (x := 99) (pc2 := 22) rfl dX10_init_19 Fp_BoxYard_Yard_19_i (by decide) rfl g13 e12 k) ?_
  refine y_lf (fun _ _ _ _ k => y_aload_n (x := p0) (pc2 := 23) rfl dX10_init_22 rfl k) ?_
  refine y_lf (fun _ _ _ _ k => y_bipush (v := 12) (pc2 := 25) rfl dX10_init_23 (by decide) k) ?_
  obtain ⟨g14, hf⟩ := y_g hf
  obtain ⟨h16, e15, hf⟩ := y_bdE hf
  refine y_Unewq (t := 5) (n := 163) (pc2 := 28) rfl dX10_init_25 (by decide) rfl cl_BoxYard_Yard_23 ao_5 g14 e15 ?_
  obtain ⟨g19, hf⟩ := y_g hf
  obtain ⟨h17, e18, hf⟩ := y_bdE hf
  refine y_lf (fun _ _ _ _ k => y_putP (x := 163) (pc2 := 31) rfl dX10_init_28 Fp_BoxYard_Yard_25_i (by decide) rfl g19 e18 k) ?_
  refine y_lf (fun _ _ _ _ k => y_aload_n (x := p0) (pc2 := 32) rfl dX10_init_31 rfl k) ?_
  refine y_lf (fun _ _ _ _ k => y_iconst (v := 3) (pc2 := 33) rfl dX10_init_32 (by decide) k) ?_
  obtain ⟨g20, hf⟩ := y_g hf
  obtain ⟨h22, e21, hf⟩ := y_bdE hf
  refine y_Unewq (t := 6) (n := 227) (pc2 := 36) rfl dX10_init_33 (by decide) rfl cl_BoxYard_Yard_29 ao_6 g20 e21 ?_
  obtain ⟨g25, hf⟩ := y_g hf
  obtain ⟨h23, e24, hf⟩ := y_bdE hf
  refine y_lf (fun _ _ _ _ k => y_putP (x := 227) (pc2 := 39) rfl dX10_init_36 Fp_BoxYard_Yard_31_i (by decide) rfl g25 e24 k) ?_
  refine y_lf (fun _ _ _ _ k => y_aload_n (x := p0) (pc2 := 40) rfl dX10_init_39 rfl k) ?_
  refine y_lf (fun _ _ _ _ k => y_iconst (v := 3) (pc2 := 41) rfl dX10_init_40 (by decide) k) ?_
  obtain ⟨g26, hf⟩ := y_g hf
  obtain ⟨h28, e27, hf⟩ := y_bdE hf
  refine y_Unewa (t := 0) (n := 291) (pc2 := 43) rfl dX10_init_41 (by decide) rfl rfl rfl ac_0 g26 e27 ?_
  obtain ⟨g31, hf⟩ := y_g hf
  obtain ⟨h29, e30, hf⟩ := y_bdE hf
  refine y_lf (fun _ _ _ _ k => y_putP (x := 291) (pc2 := 46) rfl dX10_init_43 Fp_BoxYard_Yard_35_i (by decide) rfl g31 e30 k) ?_
  refine y_lf (fun _ _ _ _ k => y_aload_n (x := p0) (pc2 := 47) rfl dX10_init_46 rfl k) ?_
  refine y_lf (fun _ _ _ _ k => y_bipush (v := 25) (pc2 := 49) rfl dX10_init_47 (by decide) k) ?_
  obtain ⟨g32, hf⟩ := y_g hf
  obtain ⟨h34, e33, hf⟩ := y_bdE hf
  refine y_Unewa (t := 0) (n := 355) (pc2 := 51) rfl dX10_init_49 (by decide) rfl rfl rfl ac_0 g32 e33 ?_
  obtain ⟨g37, hf⟩ := y_g hf
  obtain ⟨h35, e36, hf⟩ := y_bdE hf
  refine y_lf (fun _ _ _ _ k => y_putP (x := 355) (pc2 := 54) rfl dX10_init_51 Fp_BoxYard_Yard_39_i (by decide) rfl g37 e36 k) ?_
  refine y_lf (fun _ _ _ _ k => y_aload_n (x := p0) (pc2 := 55) rfl dX10_init_54 rfl k) ?_
  refine y_lf (fun _ _ _ _ k => y_bipush (v := 80) (pc2 := 57) rfl dX10_init_55 (by decide) k) ?_
  obtain ⟨g38, hf⟩ := y_g hf
  obtain ⟨h40, e39, hf⟩ := y_bdE hf
  refine y_Unewq (t := 3) (n := 419) (pc2 := 60) rfl dX10_init_57 (by decide) rfl cl_BoxYard_Yard_11 ao_3 g38 e39 ?_
  obtain ⟨g43, hf⟩ := y_g hf
  obtain ⟨h41, e42, hf⟩ := y_bdE hf
  refine y_lf (fun _ _ _ _ k => y_putP (x := 419) (pc2 := 63) rfl dX10_init_60 Fp_BoxYard_Yard_42_i (by decide) rfl g43 e42 k) ?_
  refine y_lf (fun _ _ _ _ k => y_aload_n (x := p0) (pc2 := 64) rfl dX10_init_63 rfl k) ?_
  obtain ⟨g44, hf⟩ := y_g hf
  obtain ⟨h46, e45, hf⟩ := y_bdE hf
  refine y_Unew (n := 16) (pc2 := 67) rfl dX10_init_64 cl_BoxYard_Yard_45 in_c9 ii_c9 rfl (by decide) ok_c9 g44 e45 ?_
  refine y_lf (fun _ _ _ _ k => y_dup (pc2 := 68) rfl dX10_init_67 (y_p_cat _) k) ?_
  obtain ⟨g56, hf⟩ := y_g hf
  obtain ⟨r49, h47, c48, hf⟩ := y_clE hf
  refine y_UcallI (As := []) (pc2 := 71) rfl dX10_init_68 n_X9_init rfl rfl l_BoxYard_Yard_47 i_X9_init g56 rfl rfl (by decide) (by simp [y_ci, y_cj, y_p_cat]) (k_X9_init c48) ?_
  obtain ⟨g52, hf⟩ := y_g hf
  obtain ⟨h50, e51, hf⟩ := y_bdE hf
  refine y_lf (fun _ _ _ _ k => y_putP (x := 16) (pc2 := 74) rfl dX10_init_71 Fp_BoxYard_Yard_48_i (by decide) rfl g52 e51 k) ?_
  refine y_lf (fun _ _ _ _ k => y_aload_n (x := p0) (pc2 := 75) rfl dX10_init_74 rfl k) ?_
  obtain ⟨g55, hf⟩ := y_g hf
  refine y_lf (fun _ _ _ _ k => y_getP (pc2 := 78) rfl dX10_init_75 F_BoxYard_Yard_35 (by decide) rfl g55 k) ?_
  refine y_lf (fun _ _ _ _ k => y_iconst (v := 1) (pc2 := 79) rfl dX10_init_78 (by decide) k) ?_
  obtain ⟨r_, h53, c54, hf⟩ := y_clE hf
  refine y_UcS0 (As := [y_p (y_P h50 p0 7), .int 1]) (rm := rm_J7_fill_53178) (pc2 := 82) rfl dX10_init_79 n_J7_fill_53178 l_BoxYard_Yard_52 t_J7_fill_53178 rfl rfl (by decide) (by decide) rfl rfl (k_J7_fill_53178 c54) ?_
  exact y_vretU hf dX10_init_82 rfl
theorem dX10_nextBox_0 : decode cX10_nextBox 0 = .ok (.aload_n 0, 1) := by decide +kernel
theorem dX10_nextBox_1 : decode cX10_nextBox 1 = .ok (.getfield 58, 3) := by decide +kernel
theorem dX10_nextBox_4 : decode cX10_nextBox 4 = .ok (.bipush 80, 2) := by decide +kernel
theorem dX10_nextBox_6 : decode cX10_nextBox 6 = .ok (.if_icmp .lt 5, 3) := by decide +kernel
theorem dX10_nextBox_9 : decode cX10_nextBox 9 = .ok (.aconst_null, 1) := by decide +kernel
theorem dX10_nextBox_10 : decode cX10_nextBox 10 = .ok (.areturn, 1) := by decide +kernel
theorem dX10_nextBox_11 : decode cX10_nextBox 11 = .ok (.aload_n 0, 1) := by decide +kernel
theorem dX10_nextBox_12 : decode cX10_nextBox 12 = .ok (.getfield 13, 3) := by decide +kernel
theorem dX10_nextBox_15 : decode cX10_nextBox 15 = .ok (.aload_n 0, 1) := by decide +kernel
theorem dX10_nextBox_16 : decode cX10_nextBox 16 = .ok (.getfield 58, 3) := by decide +kernel
theorem dX10_nextBox_19 : decode cX10_nextBox 19 = .ok (.aaload, 1) := by decide +kernel
theorem dX10_nextBox_20 : decode cX10_nextBox 20 = .ok (.ifnonnull 23, 3) := by decide +kernel
theorem dX10_nextBox_23 : decode cX10_nextBox 23 = .ok (.aload_n 0, 1) := by decide +kernel
theorem dX10_nextBox_24 : decode cX10_nextBox 24 = .ok (.getfield 13, 3) := by decide +kernel
theorem dX10_nextBox_27 : decode cX10_nextBox 27 = .ok (.aload_n 0, 1) := by decide +kernel
theorem dX10_nextBox_28 : decode cX10_nextBox 28 = .ok (.getfield 58, 3) := by decide +kernel
theorem dX10_nextBox_31 : decode cX10_nextBox 31 = .ok (.new 11, 3) := by decide +kernel
theorem dX10_nextBox_34 : decode cX10_nextBox 34 = .ok (.dup, 1) := by decide +kernel
theorem dX10_nextBox_35 : decode cX10_nextBox 35 = .ok (.aload_n 0, 1) := by decide +kernel
theorem dX10_nextBox_36 : decode cX10_nextBox 36 = .ok (.getfield 58, 3) := by decide +kernel
theorem dX10_nextBox_39 : decode cX10_nextBox 39 = .ok (.invokespecial 81, 3) := by decide +kernel
theorem dX10_nextBox_42 : decode cX10_nextBox 42 = .ok (.aastore, 1) := by decide +kernel
theorem dX10_nextBox_43 : decode cX10_nextBox 43 = .ok (.aload_n 0, 1) := by decide +kernel
theorem dX10_nextBox_44 : decode cX10_nextBox 44 = .ok (.dup, 1) := by decide +kernel
theorem dX10_nextBox_45 : decode cX10_nextBox 45 = .ok (.getfield 58, 3) := by decide +kernel
theorem dX10_nextBox_48 : decode cX10_nextBox 48 = .ok (.iconst 1, 1) := by decide +kernel
theorem dX10_nextBox_49 : decode cX10_nextBox 49 = .ok (.iadd, 1) := by decide +kernel
theorem dX10_nextBox_50 : decode cX10_nextBox 50 = .ok (.putfield 58, 3) := by decide +kernel
theorem dX10_nextBox_53 : decode cX10_nextBox 53 = .ok (.aload_n 0, 1) := by decide +kernel
theorem dX10_nextBox_54 : decode cX10_nextBox 54 = .ok (.getfield 13, 3) := by decide +kernel
theorem dX10_nextBox_57 : decode cX10_nextBox 57 = .ok (.aload_n 0, 1) := by decide +kernel
theorem dX10_nextBox_58 : decode cX10_nextBox 58 = .ok (.getfield 58, 3) := by decide +kernel
theorem dX10_nextBox_61 : decode cX10_nextBox 61 = .ok (.iconst 1, 1) := by decide +kernel
theorem dX10_nextBox_62 : decode cX10_nextBox 62 = .ok (.isub, 1) := by decide +kernel
theorem dX10_nextBox_63 : decode cX10_nextBox 63 = .ok (.aaload, 1) := by decide +kernel
theorem dX10_nextBox_64 : decode cX10_nextBox 64 = .ok (.areturn, 1) := by decide +kernel
def M_X10_nextBox : y_M := (yX10_nextBox, cX10_nextBox, 1, (Option.some (Jvm.ClassFile.FieldType.object "BoxYard$Box")))
theorem n_X10_nextBox : y_N0 M_X10_nextBox 0 := ⟨(c_2 106 (by decide +kernel) rfl), (c_1 2 (by decide +kernel) rfl), ⟨by decide +kernel, by decide +kernel⟩, by decide +kernel⟩
theorem in_c2 : Cond.instantiable "BoxYard$Box" 15 ∈ y_tb := (c_2 107 (by decide +kernel) rfl)
theorem ii_c2 : Cond.initialized "BoxYard$Box" ∈ y_tb := (c_1 10 (by decide +kernel) rfl)
theorem ok_c2 : ∀ k, k < 15 → y_okt (t_f 2 k) = true := by decide
theorem l_BoxYard_Yard_81 : y_lnk "BoxYard$Yard" 81 M_X2_init := Or.inl (c_2 108 (by decide +kernel) rfl)
theorem i_X2_init : Cond.instanceMethod (M_X2_init).1 ∈ y_tb := (c_2 109 (by decide +kernel) rfl)
set_option maxRecDepth 100000 in
def f_X10_nextBox (p0 : Nat) (c0 s0 : Nat) (h : y_H) : Option ((Nat × Nat × Nat) × y_H) :=
  if y_K h p0 = 11 then
  if (y_I h p0 1) < 80 then
    if y_K h p0 = 11 then
    if y_K h p0 = 11 then
    if y_K h (y_P h p0 0) = 103 ∧ y_ix (y_I h p0 1) (y_N h (y_P h p0 0)) = true then
    y_jn (fun (v0_43 : Nat) (c43 : Nat) (s43 : Nat) (h1 : y_H) => (
        if y_K h1 v0_43 = 11 then
        if y_K h1 v0_43 = 11 then
        y_bd (s_I h1 v0_43 1 ((y_I h1 v0_43 1) + 1)) (fun h2 =>
        if y_K h2 v0_43 = 11 then
        if y_K h2 v0_43 = 11 then
        if y_K h2 (y_P h2 v0_43 0) = 103 ∧ y_ix ((y_I h2 v0_43 1) - 1) (y_N h2 (y_P h2 v0_43 0)) = true then
        some ((y_P h2 (y_P h2 v0_43 0) (Int32.toNatClampNeg ((y_I h2 v0_43 1) - 1)), c43, s43), h2)
        else none
        else none
        else none)
        else none
        else none : Option ((Nat × Nat × Nat) × y_H))) (fun j43 =>
    if (y_P h (y_P h p0 0) (Int32.toNatClampNeg (y_I h p0 1))) = 0 then
      if y_K h p0 = 11 then
      if y_K h p0 = 11 then
      if 10 ≤ 64 * Int32.toNatClampNeg (y_I h p0 1) + 20 ∧ y_K h (64 * Int32.toNatClampNeg (y_I h p0 1) + 20) = 0 then
      y_bd (s_new h (64 * Int32.toNatClampNeg (y_I h p0 1) + 20) 3 15) (fun h11 =>
      if y_K h11 p0 = 11 then
      if y_K h11 (64 * Int32.toNatClampNeg (y_I h p0 1) + 20) = 3 then
      y_cl (f_X2_init (64 * Int32.toNatClampNeg (y_I h p0 1) + 20) (y_I h11 p0 1) h11) (fun _ h12 =>
      if y_K h12 (y_P h p0 0) = 103 ∧ y_ix (y_I h p0 1) (y_N h12 (y_P h p0 0)) = true ∧ ((64 * Int32.toNatClampNeg (y_I h p0 1) + 20) = 0 ∨ y_K h12 (64 * Int32.toNatClampNeg (y_I h p0 1) + 20) = 3) then
      y_bd (s_P h12 (y_P h p0 0) (Int32.toNatClampNeg (y_I h p0 1)) (64 * Int32.toNatClampNeg (y_I h p0 1) + 20)) (fun h14 =>
      j43 p0 (c0 + 1) (s0 + 15) h14)
      else none)
      else none
      else none)
      else none
      else none
      else none
    else
      j43 p0 c0 s0 h)
    else none
    else none
    else none
  else
    some ((0, c0, s0), h)
  else none
abbrev FF_X10_nextBox : Nat := 2
abbrev LL_X10_nextBox : Nat := 42
set_option maxRecDepth 100000 in
set_option maxHeartbeats 4000000 in
theorem k_X10_nextBox {l : Launch} {G : y_G} {p0 : Nat} {c0 s0 cz sz : Nat} {h hz : y_H} {rz : Nat} (hf : f_X10_nextBox p0 c0 s0 h = some ((rz, cz, sz), hz)) : (c0 ≤ cz ∧ s0 ≤ sz) ∧ y_S l G M_X10_nextBox (y_Rm FF_X10_nextBox LL_X10_nextBox c0 s0 cz sz) [y_p p0] h (some (y_p rz)) hz := by
  refine y_Ustart (lv := [(0, y_p p0)]) (by decide) (by simp [lg_sl, y_p_cat, y_ci, y_cj, M_X10_nextBox]) (by simp [lv_args, y_p_cat, y_ci, y_cj]) (fun z ad0 => ?_)
  unfold f_X10_nextBox at hf
  refine y_lf (fun _ _ _ _ k => y_aload_n (x := p0) (pc2 := 1) rfl dX10_nextBox_0 rfl k) ?_
  obtain ⟨g26, hf⟩ := y_g hf
  refine y_lf (fun _ _ _ _ k => y_getI (pc2 := 4) rfl dX10_nextBox_1 F_BoxYard_Yard_58 (by decide) rfl g26 k) ?_
  refine y_lf (fun _ _ _ _ k => y_bipush (v := 80) (pc2 := 6) rfl dX10_nextBox_4 (by decide) k) ?_
  refine y_lf2 (Classical.em _) (fun _ _ k1 k2 => y_icmp_lt (tgt := 11) (pc2 := 9) rfl dX10_nextBox_6 (by decide) k1 k2) (fun c25 => ?_) (fun c25 => ?_)
  · replace hf := y_it c25 hf
    refine y_lf (fun _ _ _ _ k => y_aload_n (x := p0) (pc2 := 12) rfl dX10_nextBox_11 rfl k) ?_
    obtain ⟨g24, hf⟩ := y_g hf
    refine y_lf (fun _ _ _ _ k => y_getP (pc2 := 15) rfl dX10_nextBox_12 F_BoxYard_Yard_13 (by decide) rfl g24 k) ?_
    refine y_lf (fun _ _ _ _ k => y_aload_n (x := p0) (pc2 := 16) rfl dX10_nextBox_15 rfl k) ?_
    obtain ⟨g23, hf⟩ := y_g hf
    refine y_lf (fun _ _ _ _ k => y_getI (pc2 := 19) rfl dX10_nextBox_16 F_BoxYard_Yard_58 (by decide) rfl g23 k) ?_
    obtain ⟨g22, hf⟩ := y_g hf
    refine y_lf (fun _ _ _ _ k => y_aald (t := 3) (pc2 := 20) rfl dX10_nextBox_19 (by decide) rfl g22.1 (y_ix_in g22.2) k) ?_
    refine y_jnE hf (fun j => ∀ (v0_43 : Nat) (c43 : Nat) (s43 : Nat) (h1 : y_H), j v0_43 c43 s43 h1 = some ((rz, cz, sz), hz) → y_U l G z FF_X10_nextBox LL_X10_nextBox (cz - c0) (sz - s0) c0 s0 cz sz M_X10_nextBox ad0 h (some (y_p rz)) hz 43 [(0, y_p v0_43)] [] h1 c43 s43) (fun v0_43 c43 s43 h1 hf => ?_) (fun j43 hj43 hf => ?_)
    · refine y_lf (fun _ _ _ _ k => y_aload_n (x := v0_43) (pc2 := 44) rfl dX10_nextBox_43 rfl k) ?_
      refine y_lf (fun _ _ _ _ k => y_dup (pc2 := 45) rfl dX10_nextBox_44 (y_p_cat _) k) ?_
      obtain ⟨g8, hf⟩ := y_g hf
      refine y_lf (fun _ _ _ _ k => y_getI (pc2 := 48) rfl dX10_nextBox_45 F_BoxYard_Yard_58 (by decide) rfl g8 k) ?_
      refine y_lf (fun _ _ _ _ k => y_iconst (v := 1) (pc2 := 49) rfl dX10_nextBox_48 (by decide) k) ?_
      refine y_lf (fun _ _ _ _ k => y_iadd (pc2 := 50) rfl dX10_nextBox_49 k) ?_
      obtain ⟨g4, hf⟩ := y_g hf
      obtain ⟨h2, e3, hf⟩ := y_bdE hf
      refine y_lf (fun _ _ _ _ k => y_putI (x := (y_I h1 v0_43 1) + 1) (pc2 := 53) rfl dX10_nextBox_50 Fp_BoxYard_Yard_58 (by decide) rfl g4 e3 k) ?_
      refine y_lf (fun _ _ _ _ k => y_aload_n (x := v0_43) (pc2 := 54) rfl dX10_nextBox_53 rfl k) ?_
      obtain ⟨g7, hf⟩ := y_g hf
      refine y_lf (fun _ _ _ _ k => y_getP (pc2 := 57) rfl dX10_nextBox_54 F_BoxYard_Yard_13 (by decide) rfl g7 k) ?_
      refine y_lf (fun _ _ _ _ k => y_aload_n (x := v0_43) (pc2 := 58) rfl dX10_nextBox_57 rfl k) ?_
      obtain ⟨g6, hf⟩ := y_g hf
      refine y_lf (fun _ _ _ _ k => y_getI (pc2 := 61) rfl dX10_nextBox_58 F_BoxYard_Yard_58 (by decide) rfl g6 k) ?_
      refine y_lf (fun _ _ _ _ k => y_iconst (v := 1) (pc2 := 62) rfl dX10_nextBox_61 (by decide) k) ?_
      refine y_lf (fun _ _ _ _ k => y_isub (pc2 := 63) rfl dX10_nextBox_62 k) ?_
      obtain ⟨g5, hf⟩ := y_g hf
      refine y_lf (fun _ _ _ _ k => y_aald (t := 3) (pc2 := 64) rfl dX10_nextBox_63 (by decide) rfl g5.1 (y_ix_in g5.2) k) ?_
      exact y_aretU hf dX10_nextBox_64 rfl (Or.inl ⟨_, rfl⟩)
    · refine y_lf2 (Classical.em _).symm (fun _ _ k1 k2 => y_ifnonnull (tgt := 43) (pc2 := 23) rfl dX10_nextBox_20 (by decide) k1 k2) (fun c21 => ?_) (fun c21 => ?_)
      · replace hf := y_ie c21 hf
        exact y_lf (fun _ _ _ _ k => y_pk [0] rfl k) (hj43 _ _ _ _ hf)
      · replace hf := y_it c21 hf
        refine y_lf (fun _ _ _ _ k => y_aload_n (x := p0) (pc2 := 24) rfl dX10_nextBox_23 rfl k) ?_
        obtain ⟨g20, hf⟩ := y_g hf
        refine y_lf (fun _ _ _ _ k => y_getP (pc2 := 27) rfl dX10_nextBox_24 F_BoxYard_Yard_13 (by decide) rfl g20 k) ?_
        refine y_lf (fun _ _ _ _ k => y_aload_n (x := p0) (pc2 := 28) rfl dX10_nextBox_27 rfl k) ?_
        obtain ⟨g19, hf⟩ := y_g hf
        refine y_lf (fun _ _ _ _ k => y_getI (pc2 := 31) rfl dX10_nextBox_28 F_BoxYard_Yard_58 (by decide) rfl g19 k) ?_
        obtain ⟨g9, hf⟩ := y_g hf
        obtain ⟨h11, e10, hf⟩ := y_bdE hf
        refine y_Unew (n := 64 * Int32.toNatClampNeg (y_I h p0 1) + 20) (pc2 := 34) rfl dX10_nextBox_31 cl_BoxYard_Yard_11 in_c2 ii_c2 rfl (by decide) ok_c2 g9 e10 ?_
        refine y_lf (fun _ _ _ _ k => y_dup (pc2 := 35) rfl dX10_nextBox_34 (y_p_cat _) k) ?_
        refine y_lf (fun _ _ _ _ k => y_aload_n (x := p0) (pc2 := 36) rfl dX10_nextBox_35 rfl k) ?_
        obtain ⟨g18, hf⟩ := y_g hf
        refine y_lf (fun _ _ _ _ k => y_getI (pc2 := 39) rfl dX10_nextBox_36 F_BoxYard_Yard_58 (by decide) rfl g18 k) ?_
        obtain ⟨g17, hf⟩ := y_g hf
        obtain ⟨r_, h12, c13, hf⟩ := y_clE hf
        refine y_UcI0 (As := [.int (y_I h11 p0 1)]) (rm := rm_X2_init) (pc2 := 42) rfl dX10_nextBox_39 n_X2_init rfl rfl l_BoxYard_Yard_81 i_X2_init g17 rfl rfl (by decide) (by simp [y_ci, y_cj, y_p_cat]) rfl rfl (k_X2_init c13) ?_
        obtain ⟨g16, hf⟩ := y_g hf
        obtain ⟨h14, e15, hf⟩ := y_bdE hf
        refine y_lf (fun _ _ _ _ k => y_aast (t := 3) (ci := 2) (x := 64 * Int32.toNatClampNeg (y_I h p0 1) + 20) (pc2 := 43) rfl dX10_nextBox_42 (by decide) rfl (by decide) rfl g16.1 (y_ix_in g16.2.1) g16.2.2 e15 k) ?_
        exact y_lf (fun _ _ _ _ k => y_pk [0] rfl k) (hj43 _ _ _ _ hf)
  · replace hf := y_ie c25 hf
    refine y_lf (fun _ _ _ _ k => y_null (pc2 := 10) rfl dX10_nextBox_9 k) ?_
    exact y_aretU hf dX10_nextBox_10 rfl (Or.inl ⟨_, rfl⟩)
theorem dX10_nextCrane_0 : decode cX10_nextCrane 0 = .ok (.aload_n 0, 1) := by decide +kernel
theorem dX10_nextCrane_1 : decode cX10_nextCrane 1 = .ok (.getfield 62, 3) := by decide +kernel
theorem dX10_nextCrane_4 : decode cX10_nextCrane 4 = .ok (.bipush 12, 2) := by decide +kernel
theorem dX10_nextCrane_6 : decode cX10_nextCrane 6 = .ok (.if_icmp .lt 5, 3) := by decide +kernel
theorem dX10_nextCrane_9 : decode cX10_nextCrane 9 = .ok (.aconst_null, 1) := by decide +kernel
theorem dX10_nextCrane_10 : decode cX10_nextCrane 10 = .ok (.areturn, 1) := by decide +kernel
theorem dX10_nextCrane_11 : decode cX10_nextCrane 11 = .ok (.aload_n 0, 1) := by decide +kernel
theorem dX10_nextCrane_12 : decode cX10_nextCrane 12 = .ok (.getfield 25, 3) := by decide +kernel
theorem dX10_nextCrane_15 : decode cX10_nextCrane 15 = .ok (.aload_n 0, 1) := by decide +kernel
theorem dX10_nextCrane_16 : decode cX10_nextCrane 16 = .ok (.getfield 62, 3) := by decide +kernel
theorem dX10_nextCrane_19 : decode cX10_nextCrane 19 = .ok (.aaload, 1) := by decide +kernel
theorem dX10_nextCrane_20 : decode cX10_nextCrane 20 = .ok (.ifnonnull 23, 3) := by decide +kernel
theorem dX10_nextCrane_23 : decode cX10_nextCrane 23 = .ok (.aload_n 0, 1) := by decide +kernel
theorem dX10_nextCrane_24 : decode cX10_nextCrane 24 = .ok (.getfield 25, 3) := by decide +kernel
theorem dX10_nextCrane_27 : decode cX10_nextCrane 27 = .ok (.aload_n 0, 1) := by decide +kernel
theorem dX10_nextCrane_28 : decode cX10_nextCrane 28 = .ok (.getfield 62, 3) := by decide +kernel
theorem dX10_nextCrane_31 : decode cX10_nextCrane 31 = .ok (.new 23, 3) := by decide +kernel
theorem dX10_nextCrane_34 : decode cX10_nextCrane 34 = .ok (.dup, 1) := by decide +kernel
theorem dX10_nextCrane_35 : decode cX10_nextCrane 35 = .ok (.aload_n 0, 1) := by decide +kernel
theorem dX10_nextCrane_36 : decode cX10_nextCrane 36 = .ok (.getfield 62, 3) := by decide +kernel
theorem dX10_nextCrane_39 : decode cX10_nextCrane 39 = .ok (.invokespecial 84, 3) := by decide +kernel
theorem dX10_nextCrane_42 : decode cX10_nextCrane 42 = .ok (.aastore, 1) := by decide +kernel
theorem dX10_nextCrane_43 : decode cX10_nextCrane 43 = .ok (.aload_n 0, 1) := by decide +kernel
theorem dX10_nextCrane_44 : decode cX10_nextCrane 44 = .ok (.dup, 1) := by decide +kernel
theorem dX10_nextCrane_45 : decode cX10_nextCrane 45 = .ok (.getfield 62, 3) := by decide +kernel
theorem dX10_nextCrane_48 : decode cX10_nextCrane 48 = .ok (.iconst 1, 1) := by decide +kernel
theorem dX10_nextCrane_49 : decode cX10_nextCrane 49 = .ok (.iadd, 1) := by decide +kernel
theorem dX10_nextCrane_50 : decode cX10_nextCrane 50 = .ok (.putfield 62, 3) := by decide +kernel
theorem dX10_nextCrane_53 : decode cX10_nextCrane 53 = .ok (.aload_n 0, 1) := by decide +kernel
theorem dX10_nextCrane_54 : decode cX10_nextCrane 54 = .ok (.getfield 25, 3) := by decide +kernel
theorem dX10_nextCrane_57 : decode cX10_nextCrane 57 = .ok (.aload_n 0, 1) := by decide +kernel
theorem dX10_nextCrane_58 : decode cX10_nextCrane 58 = .ok (.getfield 62, 3) := by decide +kernel
theorem dX10_nextCrane_61 : decode cX10_nextCrane 61 = .ok (.iconst 1, 1) := by decide +kernel
theorem dX10_nextCrane_62 : decode cX10_nextCrane 62 = .ok (.isub, 1) := by decide +kernel
theorem dX10_nextCrane_63 : decode cX10_nextCrane 63 = .ok (.aaload, 1) := by decide +kernel
theorem dX10_nextCrane_64 : decode cX10_nextCrane 64 = .ok (.areturn, 1) := by decide +kernel
def M_X10_nextCrane : y_M := (yX10_nextCrane, cX10_nextCrane, 1, (Option.some (Jvm.ClassFile.FieldType.object "BoxYard$Crane")))
theorem n_X10_nextCrane : y_N0 M_X10_nextCrane 0 := ⟨(c_3 175 (by decide +kernel) rfl), (c_1 2 (by decide +kernel) rfl), ⟨by decide +kernel, by decide +kernel⟩, by decide +kernel⟩
theorem in_c3 : Cond.instantiable "BoxYard$Crane" 8 ∈ y_tb := (c_3 176 (by decide +kernel) rfl)
theorem ii_c3 : Cond.initialized "BoxYard$Crane" ∈ y_tb := (c_1 12 (by decide +kernel) rfl)
theorem ok_c3 : ∀ k, k < 8 → y_okt (t_f 3 k) = true := by decide
theorem l_BoxYard_Yard_84 : y_lnk "BoxYard$Yard" 84 M_X3_init := Or.inl (c_3 177 (by decide +kernel) rfl)
theorem i_X3_init : Cond.instanceMethod (M_X3_init).1 ∈ y_tb := (c_3 178 (by decide +kernel) rfl)
set_option maxRecDepth 100000 in
def f_X10_nextCrane (p0 : Nat) (c0 s0 : Nat) (h : y_H) : Option ((Nat × Nat × Nat) × y_H) :=
  if y_K h p0 = 11 then
  if (y_I h p0 4) < 12 then
    if y_K h p0 = 11 then
    if y_K h p0 = 11 then
    if y_K h (y_P h p0 3) = 105 ∧ y_ix (y_I h p0 4) (y_N h (y_P h p0 3)) = true then
    y_jn (fun (v0_43 : Nat) (c43 : Nat) (s43 : Nat) (h1 : y_H) => (
        if y_K h1 v0_43 = 11 then
        if y_K h1 v0_43 = 11 then
        y_bd (s_I h1 v0_43 4 ((y_I h1 v0_43 4) + 1)) (fun h2 =>
        if y_K h2 v0_43 = 11 then
        if y_K h2 v0_43 = 11 then
        if y_K h2 (y_P h2 v0_43 3) = 105 ∧ y_ix ((y_I h2 v0_43 4) - 1) (y_N h2 (y_P h2 v0_43 3)) = true then
        some ((y_P h2 (y_P h2 v0_43 3) (Int32.toNatClampNeg ((y_I h2 v0_43 4) - 1)), c43, s43), h2)
        else none
        else none
        else none)
        else none
        else none : Option ((Nat × Nat × Nat) × y_H))) (fun j43 =>
    if (y_P h (y_P h p0 3) (Int32.toNatClampNeg (y_I h p0 4))) = 0 then
      if y_K h p0 = 11 then
      if y_K h p0 = 11 then
      if 10 ≤ 64 * Int32.toNatClampNeg (y_I h p0 4) + 21 ∧ y_K h (64 * Int32.toNatClampNeg (y_I h p0 4) + 21) = 0 then
      y_bd (s_new h (64 * Int32.toNatClampNeg (y_I h p0 4) + 21) 4 8) (fun h11 =>
      if y_K h11 p0 = 11 then
      if y_K h11 (64 * Int32.toNatClampNeg (y_I h p0 4) + 21) = 4 then
      y_cl (f_X3_init (64 * Int32.toNatClampNeg (y_I h p0 4) + 21) (y_I h11 p0 4) h11) (fun _ h12 =>
      if y_K h12 (y_P h p0 3) = 105 ∧ y_ix (y_I h p0 4) (y_N h12 (y_P h p0 3)) = true ∧ ((64 * Int32.toNatClampNeg (y_I h p0 4) + 21) = 0 ∨ y_K h12 (64 * Int32.toNatClampNeg (y_I h p0 4) + 21) = 4) then
      y_bd (s_P h12 (y_P h p0 3) (Int32.toNatClampNeg (y_I h p0 4)) (64 * Int32.toNatClampNeg (y_I h p0 4) + 21)) (fun h14 =>
      j43 p0 (c0 + 1) (s0 + 8) h14)
      else none)
      else none
      else none)
      else none
      else none
      else none
    else
      j43 p0 c0 s0 h)
    else none
    else none
    else none
  else
    some ((0, c0, s0), h)
  else none
abbrev FF_X10_nextCrane : Nat := 2
abbrev LL_X10_nextCrane : Nat := 42
set_option maxRecDepth 100000 in
set_option maxHeartbeats 4000000 in
theorem k_X10_nextCrane {l : Launch} {G : y_G} {p0 : Nat} {c0 s0 cz sz : Nat} {h hz : y_H} {rz : Nat} (hf : f_X10_nextCrane p0 c0 s0 h = some ((rz, cz, sz), hz)) : (c0 ≤ cz ∧ s0 ≤ sz) ∧ y_S l G M_X10_nextCrane (y_Rm FF_X10_nextCrane LL_X10_nextCrane c0 s0 cz sz) [y_p p0] h (some (y_p rz)) hz := by
  refine y_Ustart (lv := [(0, y_p p0)]) (by decide) (by simp [lg_sl, y_p_cat, y_ci, y_cj, M_X10_nextCrane]) (by simp [lv_args, y_p_cat, y_ci, y_cj]) (fun z ad0 => ?_)
  unfold f_X10_nextCrane at hf
  refine y_lf (fun _ _ _ _ k => y_aload_n (x := p0) (pc2 := 1) rfl dX10_nextCrane_0 rfl k) ?_
  obtain ⟨g26, hf⟩ := y_g hf
  refine y_lf (fun _ _ _ _ k => y_getI (pc2 := 4) rfl dX10_nextCrane_1 F_BoxYard_Yard_62 (by decide) rfl g26 k) ?_
  refine y_lf (fun _ _ _ _ k => y_bipush (v := 12) (pc2 := 6) rfl dX10_nextCrane_4 (by decide) k) ?_
  refine y_lf2 (Classical.em _) (fun _ _ k1 k2 => y_icmp_lt (tgt := 11) (pc2 := 9) rfl dX10_nextCrane_6 (by decide) k1 k2) (fun c25 => ?_) (fun c25 => ?_)
  · replace hf := y_it c25 hf
    refine y_lf (fun _ _ _ _ k => y_aload_n (x := p0) (pc2 := 12) rfl dX10_nextCrane_11 rfl k) ?_
    obtain ⟨g24, hf⟩ := y_g hf
    refine y_lf (fun _ _ _ _ k => y_getP (pc2 := 15) rfl dX10_nextCrane_12 F_BoxYard_Yard_25 (by decide) rfl g24 k) ?_
    refine y_lf (fun _ _ _ _ k => y_aload_n (x := p0) (pc2 := 16) rfl dX10_nextCrane_15 rfl k) ?_
    obtain ⟨g23, hf⟩ := y_g hf
    refine y_lf (fun _ _ _ _ k => y_getI (pc2 := 19) rfl dX10_nextCrane_16 F_BoxYard_Yard_62 (by decide) rfl g23 k) ?_
    obtain ⟨g22, hf⟩ := y_g hf
    refine y_lf (fun _ _ _ _ k => y_aald (t := 5) (pc2 := 20) rfl dX10_nextCrane_19 (by decide) rfl g22.1 (y_ix_in g22.2) k) ?_
    refine y_jnE hf (fun j => ∀ (v0_43 : Nat) (c43 : Nat) (s43 : Nat) (h1 : y_H), j v0_43 c43 s43 h1 = some ((rz, cz, sz), hz) → y_U l G z FF_X10_nextCrane LL_X10_nextCrane (cz - c0) (sz - s0) c0 s0 cz sz M_X10_nextCrane ad0 h (some (y_p rz)) hz 43 [(0, y_p v0_43)] [] h1 c43 s43) (fun v0_43 c43 s43 h1 hf => ?_) (fun j43 hj43 hf => ?_)
    · refine y_lf (fun _ _ _ _ k => y_aload_n (x := v0_43) (pc2 := 44) rfl dX10_nextCrane_43 rfl k) ?_
      refine y_lf (fun _ _ _ _ k => y_dup (pc2 := 45) rfl dX10_nextCrane_44 (y_p_cat _) k) ?_
      obtain ⟨g8, hf⟩ := y_g hf
      refine y_lf (fun _ _ _ _ k => y_getI (pc2 := 48) rfl dX10_nextCrane_45 F_BoxYard_Yard_62 (by decide) rfl g8 k) ?_
      refine y_lf (fun _ _ _ _ k => y_iconst (v := 1) (pc2 := 49) rfl dX10_nextCrane_48 (by decide) k) ?_
      refine y_lf (fun _ _ _ _ k => y_iadd (pc2 := 50) rfl dX10_nextCrane_49 k) ?_
      obtain ⟨g4, hf⟩ := y_g hf
      obtain ⟨h2, e3, hf⟩ := y_bdE hf
      refine y_lf (fun _ _ _ _ k => y_putI (x := (y_I h1 v0_43 4) + 1) (pc2 := 53) rfl dX10_nextCrane_50 Fp_BoxYard_Yard_62 (by decide) rfl g4 e3 k) ?_
      refine y_lf (fun _ _ _ _ k => y_aload_n (x := v0_43) (pc2 := 54) rfl dX10_nextCrane_53 rfl k) ?_
      obtain ⟨g7, hf⟩ := y_g hf
      refine y_lf (fun _ _ _ _ k => y_getP (pc2 := 57) rfl dX10_nextCrane_54 F_BoxYard_Yard_25 (by decide) rfl g7 k) ?_
      refine y_lf (fun _ _ _ _ k => y_aload_n (x := v0_43) (pc2 := 58) rfl dX10_nextCrane_57 rfl k) ?_
      obtain ⟨g6, hf⟩ := y_g hf
      refine y_lf (fun _ _ _ _ k => y_getI (pc2 := 61) rfl dX10_nextCrane_58 F_BoxYard_Yard_62 (by decide) rfl g6 k) ?_
      refine y_lf (fun _ _ _ _ k => y_iconst (v := 1) (pc2 := 62) rfl dX10_nextCrane_61 (by decide) k) ?_
      refine y_lf (fun _ _ _ _ k => y_isub (pc2 := 63) rfl dX10_nextCrane_62 k) ?_
      obtain ⟨g5, hf⟩ := y_g hf
      refine y_lf (fun _ _ _ _ k => y_aald (t := 5) (pc2 := 64) rfl dX10_nextCrane_63 (by decide) rfl g5.1 (y_ix_in g5.2) k) ?_
      exact y_aretU hf dX10_nextCrane_64 rfl (Or.inl ⟨_, rfl⟩)
    · refine y_lf2 (Classical.em _).symm (fun _ _ k1 k2 => y_ifnonnull (tgt := 43) (pc2 := 23) rfl dX10_nextCrane_20 (by decide) k1 k2) (fun c21 => ?_) (fun c21 => ?_)
      · replace hf := y_ie c21 hf
        exact y_lf (fun _ _ _ _ k => y_pk [0] rfl k) (hj43 _ _ _ _ hf)
      · replace hf := y_it c21 hf
        refine y_lf (fun _ _ _ _ k => y_aload_n (x := p0) (pc2 := 24) rfl dX10_nextCrane_23 rfl k) ?_
        obtain ⟨g20, hf⟩ := y_g hf
        refine y_lf (fun _ _ _ _ k => y_getP (pc2 := 27) rfl dX10_nextCrane_24 F_BoxYard_Yard_25 (by decide) rfl g20 k) ?_
        refine y_lf (fun _ _ _ _ k => y_aload_n (x := p0) (pc2 := 28) rfl dX10_nextCrane_27 rfl k) ?_
        obtain ⟨g19, hf⟩ := y_g hf
        refine y_lf (fun _ _ _ _ k => y_getI (pc2 := 31) rfl dX10_nextCrane_28 F_BoxYard_Yard_62 (by decide) rfl g19 k) ?_
        obtain ⟨g9, hf⟩ := y_g hf
        obtain ⟨h11, e10, hf⟩ := y_bdE hf
        refine y_Unew (n := 64 * Int32.toNatClampNeg (y_I h p0 4) + 21) (pc2 := 34) rfl dX10_nextCrane_31 cl_BoxYard_Yard_23 in_c3 ii_c3 rfl (by decide) ok_c3 g9 e10 ?_
        refine y_lf (fun _ _ _ _ k => y_dup (pc2 := 35) rfl dX10_nextCrane_34 (y_p_cat _) k) ?_
        refine y_lf (fun _ _ _ _ k => y_aload_n (x := p0) (pc2 := 36) rfl dX10_nextCrane_35 rfl k) ?_
        obtain ⟨g18, hf⟩ := y_g hf
        refine y_lf (fun _ _ _ _ k => y_getI (pc2 := 39) rfl dX10_nextCrane_36 F_BoxYard_Yard_62 (by decide) rfl g18 k) ?_
        obtain ⟨g17, hf⟩ := y_g hf
        obtain ⟨r_, h12, c13, hf⟩ := y_clE hf
        refine y_UcI0 (As := [.int (y_I h11 p0 4)]) (rm := rm_X3_init) (pc2 := 42) rfl dX10_nextCrane_39 n_X3_init rfl rfl l_BoxYard_Yard_84 i_X3_init g17 rfl rfl (by decide) (by simp [y_ci, y_cj, y_p_cat]) rfl rfl (k_X3_init c13) ?_
        obtain ⟨g16, hf⟩ := y_g hf
        obtain ⟨h14, e15, hf⟩ := y_bdE hf
        refine y_lf (fun _ _ _ _ k => y_aast (t := 5) (ci := 3) (x := 64 * Int32.toNatClampNeg (y_I h p0 4) + 21) (pc2 := 43) rfl dX10_nextCrane_42 (by decide) rfl (by decide) rfl g16.1 (y_ix_in g16.2.1) g16.2.2 e15 k) ?_
        exact y_lf (fun _ _ _ _ k => y_pk [0] rfl k) (hj43 _ _ _ _ hf)
  · replace hf := y_ie c25 hf
    refine y_lf (fun _ _ _ _ k => y_null (pc2 := 10) rfl dX10_nextCrane_9 k) ?_
    exact y_aretU hf dX10_nextCrane_10 rfl (Or.inl ⟨_, rfl⟩)
theorem dX10_nextShip_0 : decode cX10_nextShip 0 = .ok (.aload_n 0, 1) := by decide +kernel
theorem dX10_nextShip_1 : decode cX10_nextShip 1 = .ok (.getfield 65, 3) := by decide +kernel
theorem dX10_nextShip_4 : decode cX10_nextShip 4 = .ok (.iconst 3, 1) := by decide +kernel
theorem dX10_nextShip_5 : decode cX10_nextShip 5 = .ok (.if_icmp .lt 5, 3) := by decide +kernel
theorem dX10_nextShip_8 : decode cX10_nextShip 8 = .ok (.aconst_null, 1) := by decide +kernel
theorem dX10_nextShip_9 : decode cX10_nextShip 9 = .ok (.areturn, 1) := by decide +kernel
theorem dX10_nextShip_10 : decode cX10_nextShip 10 = .ok (.aload_n 0, 1) := by decide +kernel
theorem dX10_nextShip_11 : decode cX10_nextShip 11 = .ok (.getfield 31, 3) := by decide +kernel
theorem dX10_nextShip_14 : decode cX10_nextShip 14 = .ok (.aload_n 0, 1) := by decide +kernel
theorem dX10_nextShip_15 : decode cX10_nextShip 15 = .ok (.getfield 65, 3) := by decide +kernel
theorem dX10_nextShip_18 : decode cX10_nextShip 18 = .ok (.aaload, 1) := by decide +kernel
theorem dX10_nextShip_19 : decode cX10_nextShip 19 = .ok (.ifnonnull 23, 3) := by decide +kernel
theorem dX10_nextShip_22 : decode cX10_nextShip 22 = .ok (.aload_n 0, 1) := by decide +kernel
theorem dX10_nextShip_23 : decode cX10_nextShip 23 = .ok (.getfield 31, 3) := by decide +kernel
theorem dX10_nextShip_26 : decode cX10_nextShip 26 = .ok (.aload_n 0, 1) := by decide +kernel
theorem dX10_nextShip_27 : decode cX10_nextShip 27 = .ok (.getfield 65, 3) := by decide +kernel
theorem dX10_nextShip_30 : decode cX10_nextShip 30 = .ok (.new 29, 3) := by decide +kernel
theorem dX10_nextShip_33 : decode cX10_nextShip 33 = .ok (.dup, 1) := by decide +kernel
theorem dX10_nextShip_34 : decode cX10_nextShip 34 = .ok (.aload_n 0, 1) := by decide +kernel
theorem dX10_nextShip_35 : decode cX10_nextShip 35 = .ok (.getfield 65, 3) := by decide +kernel
theorem dX10_nextShip_38 : decode cX10_nextShip 38 = .ok (.invokespecial 85, 3) := by decide +kernel
theorem dX10_nextShip_41 : decode cX10_nextShip 41 = .ok (.aastore, 1) := by decide +kernel
theorem dX10_nextShip_42 : decode cX10_nextShip 42 = .ok (.aload_n 0, 1) := by decide +kernel
theorem dX10_nextShip_43 : decode cX10_nextShip 43 = .ok (.dup, 1) := by decide +kernel
theorem dX10_nextShip_44 : decode cX10_nextShip 44 = .ok (.getfield 65, 3) := by decide +kernel
theorem dX10_nextShip_47 : decode cX10_nextShip 47 = .ok (.iconst 1, 1) := by decide +kernel
theorem dX10_nextShip_48 : decode cX10_nextShip 48 = .ok (.iadd, 1) := by decide +kernel
theorem dX10_nextShip_49 : decode cX10_nextShip 49 = .ok (.putfield 65, 3) := by decide +kernel
theorem dX10_nextShip_52 : decode cX10_nextShip 52 = .ok (.aload_n 0, 1) := by decide +kernel
theorem dX10_nextShip_53 : decode cX10_nextShip 53 = .ok (.getfield 31, 3) := by decide +kernel
theorem dX10_nextShip_56 : decode cX10_nextShip 56 = .ok (.aload_n 0, 1) := by decide +kernel
theorem dX10_nextShip_57 : decode cX10_nextShip 57 = .ok (.getfield 65, 3) := by decide +kernel
theorem dX10_nextShip_60 : decode cX10_nextShip 60 = .ok (.iconst 1, 1) := by decide +kernel
theorem dX10_nextShip_61 : decode cX10_nextShip 61 = .ok (.isub, 1) := by decide +kernel
theorem dX10_nextShip_62 : decode cX10_nextShip 62 = .ok (.aaload, 1) := by decide +kernel
theorem dX10_nextShip_63 : decode cX10_nextShip 63 = .ok (.areturn, 1) := by decide +kernel
def M_X10_nextShip : y_M := (yX10_nextShip, cX10_nextShip, 1, (Option.some (Jvm.ClassFile.FieldType.object "BoxYard$Ship")))
theorem n_X10_nextShip : y_N0 M_X10_nextShip 0 := ⟨(c_5 35 (by decide +kernel) rfl), (c_1 2 (by decide +kernel) rfl), ⟨by decide +kernel, by decide +kernel⟩, by decide +kernel⟩
theorem in_c7 : Cond.instantiable "BoxYard$Ship" 14 ∈ y_tb := (c_4 226 (by decide +kernel) rfl)
theorem ii_c7 : Cond.initialized "BoxYard$Ship" ∈ y_tb := (c_1 14 (by decide +kernel) rfl)
theorem ok_c7 : ∀ k, k < 14 → y_okt (t_f 7 k) = true := by decide
theorem l_BoxYard_Yard_85 : y_lnk "BoxYard$Yard" 85 M_X7_init := Or.inl (c_5 36 (by decide +kernel) rfl)
theorem i_X7_init : Cond.instanceMethod (M_X7_init).1 ∈ y_tb := (c_5 37 (by decide +kernel) rfl)
set_option maxRecDepth 100000 in
def f_X10_nextShip (p0 : Nat) (c0 s0 : Nat) (h : y_H) : Option ((Nat × Nat × Nat) × y_H) :=
  if y_K h p0 = 11 then
  if (y_I h p0 6) < 3 then
    if y_K h p0 = 11 then
    if y_K h p0 = 11 then
    if y_K h (y_P h p0 5) = 106 ∧ y_ix (y_I h p0 6) (y_N h (y_P h p0 5)) = true then
    y_jn (fun (v0_42 : Nat) (c42 : Nat) (s42 : Nat) (h1 : y_H) => (
        if y_K h1 v0_42 = 11 then
        if y_K h1 v0_42 = 11 then
        y_bd (s_I h1 v0_42 6 ((y_I h1 v0_42 6) + 1)) (fun h2 =>
        if y_K h2 v0_42 = 11 then
        if y_K h2 v0_42 = 11 then
        if y_K h2 (y_P h2 v0_42 5) = 106 ∧ y_ix ((y_I h2 v0_42 6) - 1) (y_N h2 (y_P h2 v0_42 5)) = true then
        some ((y_P h2 (y_P h2 v0_42 5) (Int32.toNatClampNeg ((y_I h2 v0_42 6) - 1)), c42, s42), h2)
        else none
        else none
        else none)
        else none
        else none : Option ((Nat × Nat × Nat) × y_H))) (fun j42 =>
    if (y_P h (y_P h p0 5) (Int32.toNatClampNeg (y_I h p0 6))) = 0 then
      if y_K h p0 = 11 then
      if y_K h p0 = 11 then
      if 10 ≤ 64 * Int32.toNatClampNeg (y_I h p0 6) + 22 ∧ y_K h (64 * Int32.toNatClampNeg (y_I h p0 6) + 22) = 0 then
      y_bd (s_new h (64 * Int32.toNatClampNeg (y_I h p0 6) + 22) 8 14) (fun h11 =>
      if y_K h11 p0 = 11 then
      if y_K h11 (64 * Int32.toNatClampNeg (y_I h p0 6) + 22) = 8 then
      y_cl (f_X7_init (64 * Int32.toNatClampNeg (y_I h p0 6) + 22) (y_I h11 p0 6) (c0 + 1) (s0 + 14) h11) (fun r14 h12 =>
      if y_K h12 (y_P h p0 5) = 106 ∧ y_ix (y_I h p0 6) (y_N h12 (y_P h p0 5)) = true ∧ ((64 * Int32.toNatClampNeg (y_I h p0 6) + 22) = 0 ∨ y_K h12 (64 * Int32.toNatClampNeg (y_I h p0 6) + 22) = 8) then
      y_bd (s_P h12 (y_P h p0 5) (Int32.toNatClampNeg (y_I h p0 6)) (64 * Int32.toNatClampNeg (y_I h p0 6) + 22)) (fun h15 =>
      j42 p0 r14.2.1 r14.2.2 h15)
      else none)
      else none
      else none)
      else none
      else none
      else none
    else
      j42 p0 c0 s0 h)
    else none
    else none
    else none
  else
    some ((0, c0, s0), h)
  else none
abbrev FF_X10_nextShip : Nat := 2
abbrev LL_X10_nextShip : Nat := 42
set_option maxRecDepth 100000 in
set_option maxHeartbeats 4000000 in
theorem k_X10_nextShip {l : Launch} {G : y_G} {p0 : Nat} {c0 s0 cz sz : Nat} {h hz : y_H} {rz : Nat} (hf : f_X10_nextShip p0 c0 s0 h = some ((rz, cz, sz), hz)) : (c0 ≤ cz ∧ s0 ≤ sz) ∧ y_S l G M_X10_nextShip (y_Rm FF_X10_nextShip LL_X10_nextShip c0 s0 cz sz) [y_p p0] h (some (y_p rz)) hz := by
  refine y_Ustart (lv := [(0, y_p p0)]) (by decide) (by simp [lg_sl, y_p_cat, y_ci, y_cj, M_X10_nextShip]) (by simp [lv_args, y_p_cat, y_ci, y_cj]) (fun z ad0 => ?_)
  unfold f_X10_nextShip at hf
  refine y_lf (fun _ _ _ _ k => y_aload_n (x := p0) (pc2 := 1) rfl dX10_nextShip_0 rfl k) ?_
  obtain ⟨g27, hf⟩ := y_g hf
  refine y_lf (fun _ _ _ _ k => y_getI (pc2 := 4) rfl dX10_nextShip_1 F_BoxYard_Yard_65 (by decide) rfl g27 k) ?_
  refine y_lf (fun _ _ _ _ k => y_iconst (v := 3) (pc2 := 5) rfl dX10_nextShip_4 (by decide) k) ?_
  refine y_lf2 (Classical.em _) (fun _ _ k1 k2 => y_icmp_lt (tgt := 10) (pc2 := 8) rfl dX10_nextShip_5 (by decide) k1 k2) (fun c26 => ?_) (fun c26 => ?_)
  · replace hf := y_it c26 hf
    refine y_lf (fun _ _ _ _ k => y_aload_n (x := p0) (pc2 := 11) rfl dX10_nextShip_10 rfl k) ?_
    obtain ⟨g25, hf⟩ := y_g hf
    refine y_lf (fun _ _ _ _ k => y_getP (pc2 := 14) rfl dX10_nextShip_11 F_BoxYard_Yard_31 (by decide) rfl g25 k) ?_
    refine y_lf (fun _ _ _ _ k => y_aload_n (x := p0) (pc2 := 15) rfl dX10_nextShip_14 rfl k) ?_
    obtain ⟨g24, hf⟩ := y_g hf
    refine y_lf (fun _ _ _ _ k => y_getI (pc2 := 18) rfl dX10_nextShip_15 F_BoxYard_Yard_65 (by decide) rfl g24 k) ?_
    obtain ⟨g23, hf⟩ := y_g hf
    refine y_lf (fun _ _ _ _ k => y_aald (t := 6) (pc2 := 19) rfl dX10_nextShip_18 (by decide) rfl g23.1 (y_ix_in g23.2) k) ?_
    refine y_jnE hf (fun j => ∀ (v0_42 : Nat) (c42 : Nat) (s42 : Nat) (h1 : y_H), j v0_42 c42 s42 h1 = some ((rz, cz, sz), hz) → y_U l G z FF_X10_nextShip LL_X10_nextShip (cz - c0) (sz - s0) c0 s0 cz sz M_X10_nextShip ad0 h (some (y_p rz)) hz 42 [(0, y_p v0_42)] [] h1 c42 s42) (fun v0_42 c42 s42 h1 hf => ?_) (fun j42 hj42 hf => ?_)
    · refine y_lf (fun _ _ _ _ k => y_aload_n (x := v0_42) (pc2 := 43) rfl dX10_nextShip_42 rfl k) ?_
      refine y_lf (fun _ _ _ _ k => y_dup (pc2 := 44) rfl dX10_nextShip_43 (y_p_cat _) k) ?_
      obtain ⟨g8, hf⟩ := y_g hf
      refine y_lf (fun _ _ _ _ k => y_getI (pc2 := 47) rfl dX10_nextShip_44 F_BoxYard_Yard_65 (by decide) rfl g8 k) ?_
      refine y_lf (fun _ _ _ _ k => y_iconst (v := 1) (pc2 := 48) rfl dX10_nextShip_47 (by decide) k) ?_
      refine y_lf (fun _ _ _ _ k => y_iadd (pc2 := 49) rfl dX10_nextShip_48 k) ?_
      obtain ⟨g4, hf⟩ := y_g hf
      obtain ⟨h2, e3, hf⟩ := y_bdE hf
      refine y_lf (fun _ _ _ _ k => y_putI (x := (y_I h1 v0_42 6) + 1) (pc2 := 52) rfl dX10_nextShip_49 Fp_BoxYard_Yard_65 (by decide) rfl g4 e3 k) ?_
      refine y_lf (fun _ _ _ _ k => y_aload_n (x := v0_42) (pc2 := 53) rfl dX10_nextShip_52 rfl k) ?_
      obtain ⟨g7, hf⟩ := y_g hf
      refine y_lf (fun _ _ _ _ k => y_getP (pc2 := 56) rfl dX10_nextShip_53 F_BoxYard_Yard_31 (by decide) rfl g7 k) ?_
      refine y_lf (fun _ _ _ _ k => y_aload_n (x := v0_42) (pc2 := 57) rfl dX10_nextShip_56 rfl k) ?_
      obtain ⟨g6, hf⟩ := y_g hf
      refine y_lf (fun _ _ _ _ k => y_getI (pc2 := 60) rfl dX10_nextShip_57 F_BoxYard_Yard_65 (by decide) rfl g6 k) ?_
      refine y_lf (fun _ _ _ _ k => y_iconst (v := 1) (pc2 := 61) rfl dX10_nextShip_60 (by decide) k) ?_
      refine y_lf (fun _ _ _ _ k => y_isub (pc2 := 62) rfl dX10_nextShip_61 k) ?_
      obtain ⟨g5, hf⟩ := y_g hf
      refine y_lf (fun _ _ _ _ k => y_aald (t := 6) (pc2 := 63) rfl dX10_nextShip_62 (by decide) rfl g5.1 (y_ix_in g5.2) k) ?_
      exact y_aretU hf dX10_nextShip_63 rfl (Or.inl ⟨_, rfl⟩)
    · refine y_lf2 (Classical.em _).symm (fun _ _ k1 k2 => y_ifnonnull (tgt := 42) (pc2 := 22) rfl dX10_nextShip_19 (by decide) k1 k2) (fun c22 => ?_) (fun c22 => ?_)
      · replace hf := y_ie c22 hf
        exact y_lf (fun _ _ _ _ k => y_pk [0] rfl k) (hj42 _ _ _ _ hf)
      · replace hf := y_it c22 hf
        refine y_lf (fun _ _ _ _ k => y_aload_n (x := p0) (pc2 := 23) rfl dX10_nextShip_22 rfl k) ?_
        obtain ⟨g21, hf⟩ := y_g hf
        refine y_lf (fun _ _ _ _ k => y_getP (pc2 := 26) rfl dX10_nextShip_23 F_BoxYard_Yard_31 (by decide) rfl g21 k) ?_
        refine y_lf (fun _ _ _ _ k => y_aload_n (x := p0) (pc2 := 27) rfl dX10_nextShip_26 rfl k) ?_
        obtain ⟨g20, hf⟩ := y_g hf
        refine y_lf (fun _ _ _ _ k => y_getI (pc2 := 30) rfl dX10_nextShip_27 F_BoxYard_Yard_65 (by decide) rfl g20 k) ?_
        obtain ⟨g9, hf⟩ := y_g hf
        obtain ⟨h11, e10, hf⟩ := y_bdE hf
        refine y_Unew (n := 64 * Int32.toNatClampNeg (y_I h p0 6) + 22) (pc2 := 33) rfl dX10_nextShip_30 cl_BoxYard_Yard_29 in_c7 ii_c7 rfl (by decide) ok_c7 g9 e10 ?_
        refine y_lf (fun _ _ _ _ k => y_dup (pc2 := 34) rfl dX10_nextShip_33 (y_p_cat _) k) ?_
        refine y_lf (fun _ _ _ _ k => y_aload_n (x := p0) (pc2 := 35) rfl dX10_nextShip_34 rfl k) ?_
        obtain ⟨g19, hf⟩ := y_g hf
        refine y_lf (fun _ _ _ _ k => y_getI (pc2 := 38) rfl dX10_nextShip_35 F_BoxYard_Yard_65 (by decide) rfl g19 k) ?_
        obtain ⟨g18, hf⟩ := y_g hf
        obtain ⟨r14, h12, c13, hf⟩ := y_clE hf
        refine y_UcallI (As := [.int (y_I h11 p0 6)]) (pc2 := 41) rfl dX10_nextShip_38 n_X7_init rfl rfl l_BoxYard_Yard_85 i_X7_init g18 rfl rfl (by decide) (by simp [y_ci, y_cj, y_p_cat]) (k_X7_init c13) ?_
        obtain ⟨g17, hf⟩ := y_g hf
        obtain ⟨h15, e16, hf⟩ := y_bdE hf
        refine y_lf (fun _ _ _ _ k => y_aast (t := 6) (ci := 7) (x := 64 * Int32.toNatClampNeg (y_I h p0 6) + 22) (pc2 := 42) rfl dX10_nextShip_41 (by decide) rfl (by decide) rfl g17.1 (y_ix_in g17.2.1) g17.2.2 e16 k) ?_
        exact y_lf (fun _ _ _ _ k => y_pk [0] rfl k) (hj42 _ _ _ _ hf)
  · replace hf := y_ie c26 hf
    refine y_lf (fun _ _ _ _ k => y_null (pc2 := 9) rfl dX10_nextShip_8 k) ?_
    exact y_aretU hf dX10_nextShip_9 rfl (Or.inl ⟨_, rfl⟩)
theorem dX10_layOut_0 : decode cX10_layOut 0 = .ok (.iload_n 1, 1) := by decide +kernel
theorem dX10_layOut_1 : decode cX10_layOut 1 = .ok (.iconst 0, 1) := by decide +kernel
theorem dX10_layOut_2 : decode cX10_layOut 2 = .ok (.bipush 9, 2) := by decide +kernel
theorem dX10_layOut_4 : decode cX10_layOut 4 = .ok (.invokestatic 86, 3) := by decide +kernel
theorem dX10_layOut_7 : decode cX10_layOut 7 = .ok (.ifCond .ne 5, 3) := by decide +kernel
theorem dX10_layOut_10 : decode cX10_layOut 10 = .ok (.iconst (-1), 1) := by decide +kernel
theorem dX10_layOut_11 : decode cX10_layOut 11 = .ok (.ireturn, 1) := by decide +kernel
theorem dX10_layOut_12 : decode cX10_layOut 12 = .ok (.aload_n 0, 1) := by decide +kernel
theorem dX10_layOut_13 : decode cX10_layOut 13 = .ok (.getfield 19, 3) := by decide +kernel
theorem dX10_layOut_16 : decode cX10_layOut 16 = .ok (.iload_n 1, 1) := by decide +kernel
theorem dX10_layOut_17 : decode cX10_layOut 17 = .ok (.aaload, 1) := by decide +kernel
theorem dX10_layOut_18 : decode cX10_layOut 18 = .ok (.ifnonnull 17, 3) := by decide +kernel
theorem dX10_layOut_21 : decode cX10_layOut 21 = .ok (.aload_n 0, 1) := by decide +kernel
theorem dX10_layOut_22 : decode cX10_layOut 22 = .ok (.getfield 19, 3) := by decide +kernel
theorem dX10_layOut_25 : decode cX10_layOut 25 = .ok (.iload_n 1, 1) := by decide +kernel
theorem dX10_layOut_26 : decode cX10_layOut 26 = .ok (.new 17, 3) := by decide +kernel
theorem dX10_layOut_29 : decode cX10_layOut 29 = .ok (.dup, 1) := by decide +kernel
theorem dX10_layOut_30 : decode cX10_layOut 30 = .ok (.iload_n 1, 1) := by decide +kernel
theorem dX10_layOut_31 : decode cX10_layOut 31 = .ok (.invokespecial 90, 3) := by decide +kernel
theorem dX10_layOut_34 : decode cX10_layOut 34 = .ok (.aastore, 1) := by decide +kernel
theorem dX10_layOut_35 : decode cX10_layOut 35 = .ok (.aload_n 0, 1) := by decide +kernel
theorem dX10_layOut_36 : decode cX10_layOut 36 = .ok (.getfield 19, 3) := by decide +kernel
theorem dX10_layOut_39 : decode cX10_layOut 39 = .ok (.iload_n 1, 1) := by decide +kernel
theorem dX10_layOut_40 : decode cX10_layOut 40 = .ok (.aaload, 1) := by decide +kernel
theorem dX10_layOut_41 : decode cX10_layOut 41 = .ok (.iload_n 2, 1) := by decide +kernel
theorem dX10_layOut_42 : decode cX10_layOut 42 = .ok (.iload_n 3, 1) := by decide +kernel
theorem dX10_layOut_43 : decode cX10_layOut 43 = .ok (.invokevirtual 91, 3) := by decide +kernel
theorem dX10_layOut_46 : decode cX10_layOut 46 = .ok (.aload_n 0, 1) := by decide +kernel
theorem dX10_layOut_47 : decode cX10_layOut 47 = .ok (.getfield 19, 3) := by decide +kernel
theorem dX10_layOut_50 : decode cX10_layOut 50 = .ok (.iload_n 1, 1) := by decide +kernel
theorem dX10_layOut_51 : decode cX10_layOut 51 = .ok (.aaload, 1) := by decide +kernel
theorem dX10_layOut_52 : decode cX10_layOut 52 = .ok (.getfield 94, 3) := by decide +kernel
theorem dX10_layOut_55 : decode cX10_layOut 55 = .ok (.ireturn, 1) := by decide +kernel
def M_X10_layOut : y_M := (yX10_layOut, cX10_layOut, 4, (Option.some Jvm.ClassFile.FieldType.int))
theorem n_X10_layOut : y_N0 M_X10_layOut 3 := ⟨(c_3 51 (by decide +kernel) rfl), (c_1 2 (by decide +kernel) rfl), ⟨by decide +kernel, by decide +kernel⟩, by decide +kernel⟩
theorem l_BoxYard_Yard_91 : y_lnk "BoxYard$Yard" 91 M_X1_begin := Or.inl (c_3 100 (by decide +kernel) rfl)
theorem i_X1_begin : Cond.instanceMethod (M_X1_begin).1 ∈ y_tb := (c_3 101 (by decide +kernel) rfl)
theorem e_X1_begin : Cond.selects (M_X1_begin).1.cls (M_X1_begin).1 (M_X1_begin).1 ∈ y_tb := (c_3 102 (by decide +kernel) rfl)
theorem F_BoxYard_Yard_94 : y_F "BoxYard$Yard" 94 1 7 := ⟨_, _, _, rfl, by decide, Or.inr ⟨"BoxYard", (c_3 81 (by decide +kernel) rfl)⟩⟩
theorem in_c1 : Cond.instantiable "BoxYard$Bay" 8 ∈ y_tb := (c_3 52 (by decide +kernel) rfl)
theorem ii_c1 : Cond.initialized "BoxYard$Bay" ∈ y_tb := (c_1 11 (by decide +kernel) rfl)
theorem ok_c1 : ∀ k, k < 8 → y_okt (t_f 1 k) = true := by decide
theorem l_BoxYard_Yard_90 : y_lnk "BoxYard$Yard" 90 M_X1_init := Or.inl (c_3 53 (by decide +kernel) rfl)
theorem i_X1_init : Cond.instanceMethod (M_X1_init).1 ∈ y_tb := (c_3 54 (by decide +kernel) rfl)
set_option maxRecDepth 100000 in
def f_X10_layOut (p0 : Nat) (p1 : Int32) (p2 : Int32) (p3 : Int32) (c0 s0 : Nat) (h : y_H) : Option ((Int32 × Nat × Nat) × y_H) :=
  y_cl (f_X11_isWithin p1 0 9 h) (fun r1 h2 =>
  if r1 = true then
    if y_K h2 p0 = 11 then
    if y_K h2 (y_P h2 p0 2) = 104 ∧ y_ix p1 (y_N h2 (y_P h2 p0 2)) = true then
    y_jn (fun (v0_35 : Nat) (v1_35 : Int32) (v2_35 : Int32) (v3_35 : Int32) (c35 : Nat) (s35 : Nat) (h4 : y_H) => (
        if y_K h4 v0_35 = 11 then
        if y_K h4 (y_P h4 v0_35 2) = 104 ∧ y_ix v1_35 (y_N h4 (y_P h4 v0_35 2)) = true then
        if y_K h4 (y_P h4 (y_P h4 v0_35 2) (Int32.toNatClampNeg v1_35)) = 2 then
        y_cl (f_X1_begin (y_P h4 (y_P h4 v0_35 2) (Int32.toNatClampNeg v1_35)) v2_35 v3_35 h4) (fun _ h5 =>
        if y_K h5 v0_35 = 11 then
        if y_K h5 (y_P h5 v0_35 2) = 104 ∧ y_ix v1_35 (y_N h5 (y_P h5 v0_35 2)) = true then
        if y_K h5 (y_P h5 (y_P h5 v0_35 2) (Int32.toNatClampNeg v1_35)) = 2 then
        some ((y_I h5 (y_P h5 (y_P h5 v0_35 2) (Int32.toNatClampNeg v1_35)) 7, c35, s35), h5)
        else none
        else none
        else none)
        else none
        else none
        else none : Option ((Int32 × Nat × Nat) × y_H))) (fun j35 =>
    if (y_P h2 (y_P h2 p0 2) (Int32.toNatClampNeg p1)) = 0 then
      if y_K h2 p0 = 11 then
      if 10 ≤ 64 * Int32.toNatClampNeg p1 + 23 ∧ y_K h2 (64 * Int32.toNatClampNeg p1 + 23) = 0 then
      y_bd (s_new h2 (64 * Int32.toNatClampNeg p1 + 23) 2 8) (fun h15 =>
      if y_K h15 (64 * Int32.toNatClampNeg p1 + 23) = 2 then
      y_cl (f_X1_init (64 * Int32.toNatClampNeg p1 + 23) p1 (c0 + 1) (s0 + 8) h15) (fun r18 h16 =>
      if y_K h16 (y_P h2 p0 2) = 104 ∧ y_ix p1 (y_N h16 (y_P h2 p0 2)) = true ∧ ((64 * Int32.toNatClampNeg p1 + 23) = 0 ∨ y_K h16 (64 * Int32.toNatClampNeg p1 + 23) = 2) then
      y_bd (s_P h16 (y_P h2 p0 2) (Int32.toNatClampNeg p1) (64 * Int32.toNatClampNeg p1 + 23)) (fun h19 =>
      j35 p0 p1 p2 p3 r18.2.1 r18.2.2 h19)
      else none)
      else none)
      else none
      else none
    else
      j35 p0 p1 p2 p3 c0 s0 h2)
    else none
    else none
  else
    some (((-1 : Int32), c0, s0), h2))
abbrev FF_X10_layOut : Nat := 2
abbrev LL_X10_layOut : Nat := 42
set_option maxRecDepth 100000 in
set_option maxHeartbeats 4000000 in
theorem k_X10_layOut {l : Launch} {G : y_G} {p0 : Nat} {p1 : Int32} {p2 : Int32} {p3 : Int32} {c0 s0 cz sz : Nat} {h hz : y_H} {rz : Int32} (hf : f_X10_layOut p0 p1 p2 p3 c0 s0 h = some ((rz, cz, sz), hz)) : (c0 ≤ cz ∧ s0 ≤ sz) ∧ y_S l G M_X10_layOut (y_Rm FF_X10_layOut LL_X10_layOut c0 s0 cz sz) [y_p p0, .int p1, .int p2, .int p3] h (some (.int rz)) hz := by
  refine y_Ustart (lv := [(0, y_p p0), (1, .int p1), (2, .int p2), (3, .int p3)]) (by decide) (by simp [lg_sl, y_p_cat, y_ci, y_cj, M_X10_layOut]) (by simp [lv_args, y_p_cat, y_ci, y_cj]) (fun z ad0 => ?_)
  unfold f_X10_layOut at hf
  refine y_lf (fun _ _ _ _ k => y_iload_n (pc2 := 1) rfl dX10_layOut_0 rfl k) ?_
  refine y_lf (fun _ _ _ _ k => y_iconst (v := 0) (pc2 := 2) rfl dX10_layOut_1 (by decide) k) ?_
  refine y_lf (fun _ _ _ _ k => y_bipush (v := 9) (pc2 := 4) rfl dX10_layOut_2 (by decide) k) ?_
  obtain ⟨r1, h2, c3, hf⟩ := y_clE hf
  refine y_UcS0 (As := [.int p1, .int 0, .int 9]) (rm := rm_X11_isWithin) (pc2 := 7) rfl dX10_layOut_4 n_X11_isWithin l_BoxYard_Yard_86 t_X11_isWithin rfl rfl (by decide) (by decide) rfl rfl (k_X11_isWithin c3) ?_
  refine y_lf2 (Classical.em _) (fun _ _ k1 k2 => y_ifz_ne (tgt := 12) (pc2 := 10) rfl dX10_layOut_7 (by decide) k1 k2) (fun c27 => ?_) (fun c27 => ?_)
  · replace hf := y_it c27 hf
    refine y_lf (fun _ _ _ _ k => y_aload_n (x := p0) (pc2 := 13) rfl dX10_layOut_12 rfl k) ?_
    obtain ⟨g26, hf⟩ := y_g hf
    refine y_lf (fun _ _ _ _ k => y_getP (pc2 := 16) rfl dX10_layOut_13 F_BoxYard_Yard_19 (by decide) rfl g26 k) ?_
    refine y_lf (fun _ _ _ _ k => y_iload_n (pc2 := 17) rfl dX10_layOut_16 rfl k) ?_
    obtain ⟨g25, hf⟩ := y_g hf
    refine y_lf (fun _ _ _ _ k => y_aald (t := 4) (pc2 := 18) rfl dX10_layOut_17 (by decide) rfl g25.1 (y_ix_in g25.2) k) ?_
    refine y_jnE hf (fun j => ∀ (v0_35 : Nat) (v1_35 : Int32) (v2_35 : Int32) (v3_35 : Int32) (c35 : Nat) (s35 : Nat) (h4 : y_H), j v0_35 v1_35 v2_35 v3_35 c35 s35 h4 = some ((rz, cz, sz), hz) → y_U l G z FF_X10_layOut LL_X10_layOut (cz - c0) (sz - s0) c0 s0 cz sz M_X10_layOut ad0 h (some (.int rz)) hz 35 [(0, y_p v0_35), (1, .int v1_35), (2, .int v2_35), (3, .int v3_35)] [] h4 c35 s35) (fun v0_35 v1_35 v2_35 v3_35 c35 s35 h4 hf => ?_) (fun j35 hj35 hf => ?_)
    · refine y_lf (fun _ _ _ _ k => y_aload_n (x := v0_35) (pc2 := 36) rfl dX10_layOut_35 rfl k) ?_
      obtain ⟨g12, hf⟩ := y_g hf
      refine y_lf (fun _ _ _ _ k => y_getP (pc2 := 39) rfl dX10_layOut_36 F_BoxYard_Yard_19 (by decide) rfl g12 k) ?_
      refine y_lf (fun _ _ _ _ k => y_iload_n (pc2 := 40) rfl dX10_layOut_39 rfl k) ?_
      obtain ⟨g11, hf⟩ := y_g hf
      refine y_lf (fun _ _ _ _ k => y_aald (t := 4) (pc2 := 41) rfl dX10_layOut_40 (by decide) rfl g11.1 (y_ix_in g11.2) k) ?_
      refine y_lf (fun _ _ _ _ k => y_iload_n (pc2 := 42) rfl dX10_layOut_41 rfl k) ?_
      refine y_lf (fun _ _ _ _ k => y_iload_n (pc2 := 43) rfl dX10_layOut_42 rfl k) ?_
      obtain ⟨g10, hf⟩ := y_g hf
      obtain ⟨r_, h5, c6, hf⟩ := y_clE hf
      refine y_UcV0 (As := [.int v2_35, .int v3_35]) (rm := rm_X1_begin) (pc2 := 46) rfl dX10_layOut_43 n_X1_begin l_BoxYard_Yard_91 i_X1_begin e_X1_begin (ci := 1) rfl rfl (by decide) g10 rfl rfl (by decide) (by decide) rfl rfl (k_X1_begin c6) ?_
      refine y_lf (fun _ _ _ _ k => y_aload_n (x := v0_35) (pc2 := 47) rfl dX10_layOut_46 rfl k) ?_
      obtain ⟨g9, hf⟩ := y_g hf
      refine y_lf (fun _ _ _ _ k => y_getP (pc2 := 50) rfl dX10_layOut_47 F_BoxYard_Yard_19 (by decide) rfl g9 k) ?_
      refine y_lf (fun _ _ _ _ k => y_iload_n (pc2 := 51) rfl dX10_layOut_50 rfl k) ?_
      obtain ⟨g8, hf⟩ := y_g hf
      refine y_lf (fun _ _ _ _ k => y_aald (t := 4) (pc2 := 52) rfl dX10_layOut_51 (by decide) rfl g8.1 (y_ix_in g8.2) k) ?_
      obtain ⟨g7, hf⟩ := y_g hf
      refine y_lf (fun _ _ _ _ k => y_getI (pc2 := 55) rfl dX10_layOut_52 F_BoxYard_Yard_94 (by decide) rfl g7 k) ?_
      exact y_iretU hf dX10_layOut_55 rfl
    · refine y_lf2 (Classical.em _).symm (fun _ _ k1 k2 => y_ifnonnull (tgt := 35) (pc2 := 21) rfl dX10_layOut_18 (by decide) k1 k2) (fun c24 => ?_) (fun c24 => ?_)
      · replace hf := y_ie c24 hf
        exact y_lf (fun _ _ _ _ k => y_pk [0, 1, 2, 3] rfl k) (hj35 _ _ _ _ _ _ _ hf)
      · replace hf := y_it c24 hf
        refine y_lf (fun _ _ _ _ k => y_aload_n (x := p0) (pc2 := 22) rfl dX10_layOut_21 rfl k) ?_
        obtain ⟨g23, hf⟩ := y_g hf
        refine y_lf (fun _ _ _ _ k => y_getP (pc2 := 25) rfl dX10_layOut_22 F_BoxYard_Yard_19 (by decide) rfl g23 k) ?_
        refine y_lf (fun _ _ _ _ k => y_iload_n (pc2 := 26) rfl dX10_layOut_25 rfl k) ?_
        obtain ⟨g13, hf⟩ := y_g hf
        obtain ⟨h15, e14, hf⟩ := y_bdE hf
        refine y_Unew (n := 64 * Int32.toNatClampNeg p1 + 23) (pc2 := 29) rfl dX10_layOut_26 cl_BoxYard_Yard_17 in_c1 ii_c1 rfl (by decide) ok_c1 g13 e14 ?_
        refine y_lf (fun _ _ _ _ k => y_dup (pc2 := 30) rfl dX10_layOut_29 (y_p_cat _) k) ?_
        refine y_lf (fun _ _ _ _ k => y_iload_n (pc2 := 31) rfl dX10_layOut_30 rfl k) ?_
        obtain ⟨g22, hf⟩ := y_g hf
        obtain ⟨r18, h16, c17, hf⟩ := y_clE hf
        refine y_UcallI (As := [.int p1]) (pc2 := 34) rfl dX10_layOut_31 n_X1_init rfl rfl l_BoxYard_Yard_90 i_X1_init g22 rfl rfl (by decide) (by simp [y_ci, y_cj, y_p_cat]) (k_X1_init c17) ?_
        obtain ⟨g21, hf⟩ := y_g hf
        obtain ⟨h19, e20, hf⟩ := y_bdE hf
        refine y_lf (fun _ _ _ _ k => y_aast (t := 4) (ci := 1) (x := 64 * Int32.toNatClampNeg p1 + 23) (pc2 := 35) rfl dX10_layOut_34 (by decide) rfl (by decide) rfl g21.1 (y_ix_in g21.2.1) g21.2.2 e20 k) ?_
        exact y_lf (fun _ _ _ _ k => y_pk [0, 1, 2, 3] rfl k) (hj35 _ _ _ _ _ _ _ hf)
  · replace hf := y_ie c27 hf
    refine y_lf (fun _ _ _ _ k => y_iconst (v := (-1 : Int32)) (pc2 := 11) rfl dX10_layOut_10 (by decide) k) ?_
    exact y_iretU hf dX10_layOut_11 rfl
