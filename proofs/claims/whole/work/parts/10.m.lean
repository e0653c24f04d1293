theorem dX7_meetsAt_0 : decode cX7_meetsAt 0 = .ok (.aload_n 0, 1) := by decide +kernel
theorem dX7_meetsAt_1 : decode cX7_meetsAt 1 = .ok (.iload_n 2, 1) := by decide +kernel
theorem dX7_meetsAt_2 : decode cX7_meetsAt 2 = .ok (.iload_n 3, 1) := by decide +kernel
theorem dX7_meetsAt_3 : decode cX7_meetsAt 3 = .ok (.iload 4, 2) := by decide +kernel
theorem dX7_meetsAt_5 : decode cX7_meetsAt 5 = .ok (.invokevirtual 90, 3) := by decide +kernel
theorem dX7_meetsAt_8 : decode cX7_meetsAt 8 = .ok (.ifCond .ne 6, 3) := by decide +kernel
theorem dX7_meetsAt_11 : decode cX7_meetsAt 11 = .ok (.bipush (-62), 2) := by decide +kernel
theorem dX7_meetsAt_13 : decode cX7_meetsAt 13 = .ok (.ireturn, 1) := by decide +kernel
theorem dX7_meetsAt_14 : decode cX7_meetsAt 14 = .ok (.aload_n 0, 1) := by decide +kernel
theorem dX7_meetsAt_15 : decode cX7_meetsAt 15 = .ok (.getfield 17, 3) := by decide +kernel
theorem dX7_meetsAt_18 : decode cX7_meetsAt 18 = .ok (.aload_n 0, 1) := by decide +kernel
theorem dX7_meetsAt_19 : decode cX7_meetsAt 19 = .ok (.iload_n 2, 1) := by decide +kernel
theorem dX7_meetsAt_20 : decode cX7_meetsAt 20 = .ok (.iload_n 3, 1) := by decide +kernel
theorem dX7_meetsAt_21 : decode cX7_meetsAt 21 = .ok (.iload 4, 2) := by decide +kernel
theorem dX7_meetsAt_23 : decode cX7_meetsAt 23 = .ok (.invokevirtual 71, 3) := by decide +kernel
theorem dX7_meetsAt_26 : decode cX7_meetsAt 26 = .ok (.baload, 1) := by decide +kernel
theorem dX7_meetsAt_27 : decode cX7_meetsAt 27 = .ok (.ifCond .ne 26, 3) := by decide +kernel
theorem dX7_meetsAt_30 : decode cX7_meetsAt 30 = .ok (.iload 4, 2) := by decide +kernel
theorem dX7_meetsAt_32 : decode cX7_meetsAt 32 = .ok (.ifCond .le 24, 3) := by decide +kernel
theorem dX7_meetsAt_35 : decode cX7_meetsAt 35 = .ok (.aload_n 0, 1) := by decide +kernel
theorem dX7_meetsAt_36 : decode cX7_meetsAt 36 = .ok (.getfield 17, 3) := by decide +kernel
theorem dX7_meetsAt_39 : decode cX7_meetsAt 39 = .ok (.aload_n 0, 1) := by decide +kernel
theorem dX7_meetsAt_40 : decode cX7_meetsAt 40 = .ok (.iload_n 2, 1) := by decide +kernel
theorem dX7_meetsAt_41 : decode cX7_meetsAt 41 = .ok (.iload_n 3, 1) := by decide +kernel
theorem dX7_meetsAt_42 : decode cX7_meetsAt 42 = .ok (.iload 4, 2) := by decide +kernel
theorem dX7_meetsAt_44 : decode cX7_meetsAt 44 = .ok (.iconst 1, 1) := by decide +kernel
theorem dX7_meetsAt_45 : decode cX7_meetsAt 45 = .ok (.isub, 1) := by decide +kernel
theorem dX7_meetsAt_46 : decode cX7_meetsAt 46 = .ok (.invokevirtual 71, 3) := by decide +kernel
theorem dX7_meetsAt_49 : decode cX7_meetsAt 49 = .ok (.baload, 1) := by decide +kernel
theorem dX7_meetsAt_50 : decode cX7_meetsAt 50 = .ok (.ifCond .ne 6, 3) := by decide +kernel
theorem dX7_meetsAt_53 : decode cX7_meetsAt 53 = .ok (.bipush (-52), 2) := by decide +kernel
theorem dX7_meetsAt_55 : decode cX7_meetsAt 55 = .ok (.ireturn, 1) := by decide +kernel
theorem dX7_meetsAt_56 : decode cX7_meetsAt 56 = .ok (.iconst 0, 1) := by decide +kernel
theorem dX7_meetsAt_57 : decode cX7_meetsAt 57 = .ok (.istore 5, 2) := by decide +kernel
theorem dX7_meetsAt_59 : decode cX7_meetsAt 59 = .ok (.iload 5, 2) := by decide +kernel
theorem dX7_meetsAt_61 : decode cX7_meetsAt 61 = .ok (.iconst 2, 1) := by decide +kernel
theorem dX7_meetsAt_62 : decode cX7_meetsAt 62 = .ok (.if_icmp .gt 52, 3) := by decide +kernel
theorem dX7_meetsAt_65 : decode cX7_meetsAt 65 = .ok (.aload_n 0, 1) := by decide +kernel
theorem dX7_meetsAt_66 : decode cX7_meetsAt 66 = .ok (.getfield 21, 3) := by decide +kernel
theorem dX7_meetsAt_69 : decode cX7_meetsAt 69 = .ok (.iload 5, 2) := by decide +kernel
theorem dX7_meetsAt_71 : decode cX7_meetsAt 71 = .ok (.iaload, 1) := by decide +kernel
theorem dX7_meetsAt_72 : decode cX7_meetsAt 72 = .ok (.aload_n 1, 1) := by decide +kernel
theorem dX7_meetsAt_73 : decode cX7_meetsAt 73 = .ok (.invokevirtual 82, 3) := by decide +kernel
theorem dX7_meetsAt_76 : decode cX7_meetsAt 76 = .ok (.aload_n 0, 1) := by decide +kernel
theorem dX7_meetsAt_77 : decode cX7_meetsAt 77 = .ok (.iload 5, 2) := by decide +kernel
theorem dX7_meetsAt_79 : decode cX7_meetsAt 79 = .ok (.iload_n 2, 1) := by decide +kernel
theorem dX7_meetsAt_80 : decode cX7_meetsAt 80 = .ok (.iload_n 3, 1) := by decide +kernel
theorem dX7_meetsAt_81 : decode cX7_meetsAt 81 = .ok (.iload 4, 2) := by decide +kernel
theorem dX7_meetsAt_83 : decode cX7_meetsAt 83 = .ok (.invokevirtual 86, 3) := by decide +kernel
theorem dX7_meetsAt_86 : decode cX7_meetsAt 86 = .ok (.imul, 1) := by decide +kernel
theorem dX7_meetsAt_87 : decode cX7_meetsAt 87 = .ok (.iadd, 1) := by decide +kernel
theorem dX7_meetsAt_88 : decode cX7_meetsAt 88 = .ok (.istore 6, 2) := by decide +kernel
theorem dX7_meetsAt_90 : decode cX7_meetsAt 90 = .ok (.iload 6, 2) := by decide +kernel
theorem dX7_meetsAt_92 : decode cX7_meetsAt 92 = .ok (.invokestatic 93, 3) := by decide +kernel
theorem dX7_meetsAt_95 : decode cX7_meetsAt 95 = .ok (.aload_n 0, 1) := by decide +kernel
theorem dX7_meetsAt_96 : decode cX7_meetsAt 96 = .ok (.getfield 25, 3) := by decide +kernel
theorem dX7_meetsAt_99 : decode cX7_meetsAt 99 = .ok (.iload 5, 2) := by decide +kernel
theorem dX7_meetsAt_101 : decode cX7_meetsAt 101 = .ok (.iaload, 1) := by decide +kernel
theorem dX7_meetsAt_102 : decode cX7_meetsAt 102 = .ok (.if_icmp .le 6, 3) := by decide +kernel
theorem dX7_meetsAt_105 : decode cX7_meetsAt 105 = .ok (.bipush (-53), 2) := by decide +kernel
theorem dX7_meetsAt_107 : decode cX7_meetsAt 107 = .ok (.ireturn, 1) := by decide +kernel
theorem dX7_meetsAt_108 : decode cX7_meetsAt 108 = .ok (.iinc 5 1, 3) := by decide +kernel
theorem dX7_meetsAt_111 : decode cX7_meetsAt 111 = .ok (.goto (-52), 3) := by decide +kernel
theorem dX7_meetsAt_114 : decode cX7_meetsAt 114 = .ok (.iconst 0, 1) := by decide +kernel
theorem dX7_meetsAt_115 : decode cX7_meetsAt 115 = .ok (.ireturn, 1) := by decide +kernel
def M_X7_meetsAt : y_M := (yX7_meetsAt, cX7_meetsAt, 7, (Option.some Jvm.ClassFile.FieldType.int))
theorem n_X7_meetsAt : y_N0 M_X7_meetsAt 4 := ⟨(c_4 231 (by decide +kernel) rfl), (c_1 14 (by decide +kernel) rfl), ⟨by decide +kernel, by decide +kernel⟩, by decide +kernel⟩
theorem l_BoxYard_Ship_90 : y_lnk "BoxYard$Ship" 90 M_X7_hasCell := Or.inl (c_4 232 (by decide +kernel) rfl)
theorem i_X7_hasCell : Cond.instanceMethod (M_X7_hasCell).1 ∈ y_tb := (c_4 233 (by decide +kernel) rfl)
theorem e_X7_hasCell : Cond.selects (M_X7_hasCell).1.cls (M_X7_hasCell).1 (M_X7_hasCell).1 ∈ y_tb := (c_4 234 (by decide +kernel) rfl)
theorem l_BoxYard_Ship_93 : Cond.methodLink "BoxYard$Ship" 93 Lib.Math.abs.name ∈ y_tb := (c_5 0 (by decide +kernel) rfl)
set_option maxRecDepth 100000 in
def f_X7_meetsAt (p0 : Nat) (p1 : Nat) (p2 : Int32) (p3 : Int32) (p4 : Int32) (h : y_H) : Option (Int32 × y_H) :=
  if y_K h p0 = 8 then
  y_cl (f_X7_hasCell p0 p2 p3 p4 h) (fun r1 h2 =>
  if r1 = true then
    if y_K h2 p0 = 8 then
    if y_K h2 p0 = 8 then
    y_cl (f_X7_placeNumber p0 p2 p3 p4 h2) (fun r4 h5 =>
    if y_K h5 (y_P h2 p0 2) = 102 ∧ y_ix r4 (y_N h5 (y_P h2 p0 2)) = true then
    y_jn (fun (h7 : y_H) => (
        some ((-52 : Int32), h7) : Option (Int32 × y_H))) (fun j53 =>
    if (y_B h5 (y_P h2 p0 2) (Int32.toNatClampNeg r4)) = true then
      j53 h5
    else
      y_jn (fun (v0_56 : Nat) (v1_56 : Nat) (v2_56 : Int32) (v3_56 : Int32) (v4_56 : Int32) (h8 : y_H) => (
          y_jl (fun (_ : Nat) (_ : Nat) (_ : Int32) (_ : Int32) (_ : Int32) (_ : Int32) (_ : y_H) => (none : Option (Int32 × y_H))) (fun j59 (v0_59 : Nat) (v1_59 : Nat) (v2_59 : Int32) (v3_59 : Int32) (v4_59 : Int32) (v5_59 : Int32) (h9 : y_H) =>
              if 2 < v5_59 then
                some (0, h9)
              else
                if y_K h9 v0_59 = 8 then
                if y_K h9 (y_P h9 v0_59 3) = 100 ∧ y_ix v5_59 (y_N h9 (y_P h9 v0_59 3)) = true then
                if y_K h9 v1_59 = 3 then
                y_cl (f_X2_known v1_59 h9) (fun r10 h11 =>
                if y_K h11 v0_59 = 8 then
                y_cl (f_X7_factor v0_59 v5_59 v2_59 v3_59 v4_59 h11) (fun r13 h14 =>
                if y_K h14 v0_59 = 8 then
                if y_K h14 (y_P h14 v0_59 5) = 100 ∧ y_ix v5_59 (y_N h14 (y_P h14 v0_59 5)) = true then
                if (y_ab ((y_I h9 (y_P h9 v0_59 3) (Int32.toNatClampNeg v5_59)) + (r10 * r13))) ≤ (y_I h14 (y_P h14 v0_59 5) (Int32.toNatClampNeg v5_59)) then
                  j59 v0_59 v1_59 v2_59 v3_59 v4_59 (v5_59 + 1) h14
                else
                  some ((-53 : Int32), h14)
                else none
                else none)
                else none)
                else none
                else none
                else none) (fun j59 =>
          j59 v0_56 v1_56 v2_56 v3_56 v4_56 0 h8) : Option (Int32 × y_H))) (fun j56 =>
      if p4 ≤ 0 then
        j56 p0 p1 p2 p3 p4 h5
      else
        if y_K h5 p0 = 8 then
        if y_K h5 p0 = 8 then
        y_cl (f_X7_placeNumber p0 p2 p3 (p4 - 1) h5) (fun r24 h25 =>
        if y_K h25 (y_P h5 p0 2) = 102 ∧ y_ix r24 (y_N h25 (y_P h5 p0 2)) = true then
        if (y_B h25 (y_P h5 p0 2) (Int32.toNatClampNeg r24)) = true then
          j56 p0 p1 p2 p3 p4 h25
        else
          j53 h25
        else none)
        else none
        else none))
    else none)
    else none
    else none
  else
    some ((-62 : Int32), h2))
  else none
abbrev rm_X7_meetsAt : Room := { frames := 3, cells := 0, slots := 0, locals := 67 }
set_option maxRecDepth 100000 in
set_option maxHeartbeats 4000000 in
theorem k_X7_meetsAt {l : Launch} {G : y_G} {p0 : Nat} {p1 : Nat} {p2 : Int32} {p3 : Int32} {p4 : Int32} {h hz : y_H} {rz : Int32} (hf : f_X7_meetsAt p0 p1 p2 p3 p4 h = some (rz, hz)) : y_S l G M_X7_meetsAt rm_X7_meetsAt [y_p p0, y_p p1, .int p2, .int p3, .int p4] h (some (.int rz)) hz := by
  refine y_start (lv := [(0, y_p p0), (1, y_p p1), (2, .int p2), (3, .int p3), (4, .int p4)]) (by decide) (by simp [lg_sl, y_p_cat, y_ci, y_cj, M_X7_meetsAt]) (by simp [lv_args, y_p_cat, y_ci, y_cj]) (fun z ad0 => ?_)
  unfold f_X7_meetsAt at hf
  refine y_aload_n (x := p0) (pc2 := 1) rfl dX7_meetsAt_0 rfl ?_
  refine y_iload_n (pc2 := 2) rfl dX7_meetsAt_1 rfl ?_
  refine y_iload_n (pc2 := 3) rfl dX7_meetsAt_2 rfl ?_
  refine y_iload (pc2 := 5) rfl dX7_meetsAt_3 rfl ?_
  obtain ⟨g37, hf⟩ := y_g hf
  obtain ⟨r1, h2, c3, hf⟩ := y_clE hf
  refine y_callV (As := [.int p2, .int p3, .int p4]) (rm := rm_X7_hasCell) (cells := 0) (slots := 0) (pc2 := 8) rfl dX7_meetsAt_5 n_X7_hasCell l_BoxYard_Ship_90 i_X7_hasCell e_X7_hasCell (ci := 7) rfl rfl (by decide) g37 rfl rfl (by decide) (by decide) (by decide) (k_X7_hasCell c3) ?_
  refine y_ifz_ne (tgt := 14) (pc2 := 11) rfl dX7_meetsAt_8 (by decide) (fun c36 => ?_) (fun c36 => ?_)
  · replace hf := y_it c36 hf
    refine y_aload_n (x := p0) (pc2 := 15) rfl dX7_meetsAt_14 rfl ?_
    obtain ⟨g35, hf⟩ := y_g hf
    refine y_getP (pc2 := 18) rfl dX7_meetsAt_15 F_BoxYard_Ship_17 (by decide) rfl g35 ?_
    refine y_aload_n (x := p0) (pc2 := 19) rfl dX7_meetsAt_18 rfl ?_
    refine y_iload_n (pc2 := 20) rfl dX7_meetsAt_19 rfl ?_
    refine y_iload_n (pc2 := 21) rfl dX7_meetsAt_20 rfl ?_
    refine y_iload (pc2 := 23) rfl dX7_meetsAt_21 rfl ?_
    obtain ⟨g34, hf⟩ := y_g hf
    obtain ⟨r4, h5, c6, hf⟩ := y_clE hf
    refine y_callV (As := [.int p2, .int p3, .int p4]) (rm := rm_X7_placeNumber) (cells := 0) (slots := 0) (pc2 := 26) rfl dX7_meetsAt_23 n_X7_placeNumber l_BoxYard_Ship_71 i_X7_placeNumber e_X7_placeNumber (ci := 7) rfl rfl (by decide) g34 rfl rfl (by decide) (by simp [y_ci, y_cj, y_p_cat]) (by decide) (k_X7_placeNumber c6) ?_
    obtain ⟨g33, hf⟩ := y_g hf
    refine y_zald (pc2 := 27) rfl dX7_meetsAt_26 g33.1 (y_ix_in g33.2) ?_
    refine y_jnE hf (fun j => ∀ (h7 : y_H), j h7 = some (rz, hz) → y_V l G z rm_X7_meetsAt M_X7_meetsAt ad0 h (some (.int rz)) hz 53 [] [] h7 0 0) (fun h7 hf => ?_) (fun j53 hj53 hf => ?_)
    · refine y_bipush (v := (-52 : Int32)) (pc2 := 55) rfl dX7_meetsAt_53 (by decide) ?_
      exact y_iretF hf dX7_meetsAt_55 rfl (by decide) (by decide)
    · refine y_ifz_ne (tgt := 53) (pc2 := 30) rfl dX7_meetsAt_27 (by decide) (fun c32 => ?_) (fun c32 => ?_)
      · replace hf := y_it c32 hf
        exact y_pk [] rfl (hj53 _ hf)
      · replace hf := y_ie c32 hf
        refine y_iload (pc2 := 32) rfl dX7_meetsAt_30 rfl ?_
        refine y_jnE hf (fun j => ∀ (v0_56 : Nat) (v1_56 : Nat) (v2_56 : Int32) (v3_56 : Int32) (v4_56 : Int32) (h8 : y_H), j v0_56 v1_56 v2_56 v3_56 v4_56 h8 = some (rz, hz) → y_V l G z rm_X7_meetsAt M_X7_meetsAt ad0 h (some (.int rz)) hz 56 [(0, y_p v0_56), (1, y_p v1_56), (2, .int v2_56), (3, .int v3_56), (4, .int v4_56)] [] h8 0 0) (fun v0_56 v1_56 v2_56 v3_56 v4_56 h8 hf => ?_) (fun j56 hj56 hf => ?_)
        · refine y_iconst (v := 0) (pc2 := 57) rfl dX7_meetsAt_56 (by decide) ?_
          refine y_jlE hf (fun j => ∀ (v0_59 : Nat) (v1_59 : Nat) (v2_59 : Int32) (v3_59 : Int32) (v4_59 : Int32) (v5_59 : Int32) (h9 : y_H), j v0_59 v1_59 v2_59 v3_59 v4_59 v5_59 h9 = some (rz, hz) → y_V l G z rm_X7_meetsAt M_X7_meetsAt ad0 h (some (.int rz)) hz 59 [(0, y_p v0_59), (1, y_p v1_59), (2, .int v2_59), (3, .int v3_59), (4, .int v4_59), (5, .int v5_59)] [] h9 0 0) (fun _ _ _ _ _ _ _ hf => by cases hf) (fun j59 hj59 v0_59 v1_59 v2_59 v3_59 v4_59 v5_59 h9 hf => ?_) (fun j59 hj59 hf => ?_)
          · refine y_iload (pc2 := 61) rfl dX7_meetsAt_59 rfl ?_
            refine y_iconst (v := 2) (pc2 := 62) rfl dX7_meetsAt_61 (by decide) ?_
            refine y_icmp_gt (tgt := 114) (pc2 := 65) rfl dX7_meetsAt_62 (by decide) (fun c23 => ?_) (fun c23 => ?_)
            · replace hf := y_it c23 hf
              refine y_iconst (v := 0) (pc2 := 115) rfl dX7_meetsAt_114 (by decide) ?_
              exact y_iretF hf dX7_meetsAt_115 rfl (by decide) (by decide)
            · replace hf := y_ie c23 hf
              refine y_aload_n (x := v0_59) (pc2 := 66) rfl dX7_meetsAt_65 rfl ?_
              obtain ⟨g22, hf⟩ := y_g hf
              refine y_getP (pc2 := 69) rfl dX7_meetsAt_66 F_BoxYard_Ship_21 (by decide) rfl g22 ?_
              refine y_iload (pc2 := 71) rfl dX7_meetsAt_69 rfl ?_
              obtain ⟨g21, hf⟩ := y_g hf
              refine y_iald (pc2 := 72) rfl dX7_meetsAt_71 g21.1 (y_ix_in g21.2) ?_
              refine y_aload_n (x := v1_59) (pc2 := 73) rfl dX7_meetsAt_72 rfl ?_
              obtain ⟨g20, hf⟩ := y_g hf
              obtain ⟨r10, h11, c12, hf⟩ := y_clE hf
              refine y_callV (As := []) (rm := rm_X2_known) (cells := 0) (slots := 0) (pc2 := 76) rfl dX7_meetsAt_73 n_X2_known l_BoxYard_Ship_82 i_X2_known e_X2_known (ci := 2) rfl rfl (by decide) g20 rfl rfl (by decide) (by simp [y_ci, y_cj, y_p_cat]) (by decide) (k_X2_known c12) ?_
              refine y_aload_n (x := v0_59) (pc2 := 77) rfl dX7_meetsAt_76 rfl ?_
              refine y_iload (pc2 := 79) rfl dX7_meetsAt_77 rfl ?_
              refine y_iload_n (pc2 := 80) rfl dX7_meetsAt_79 rfl ?_
              refine y_iload_n (pc2 := 81) rfl dX7_meetsAt_80 rfl ?_
              refine y_iload (pc2 := 83) rfl dX7_meetsAt_81 rfl ?_
              obtain ⟨g19, hf⟩ := y_g hf
              obtain ⟨r13, h14, c15, hf⟩ := y_clE hf
              refine y_callV (As := [.int v5_59, .int v2_59, .int v3_59, .int v4_59]) (rm := rm_X7_factor) (cells := 0) (slots := 0) (pc2 := 86) rfl dX7_meetsAt_83 n_X7_factor l_BoxYard_Ship_86 i_X7_factor e_X7_factor (ci := 7) rfl rfl (by decide) g19 rfl rfl (by decide) (by simp [y_ci, y_cj, y_p_cat]) (by decide) (k_X7_factor c15) ?_
              refine y_imul (pc2 := 87) rfl dX7_meetsAt_86 ?_
              refine y_iadd (pc2 := 88) rfl dX7_meetsAt_87 ?_
              refine y_istore (lv' := [(6, .int ((y_I h9 (y_P h9 v0_59 3) (Int32.toNatClampNeg v5_59)) + (r10 * r13))), (0, y_p v0_59), (1, y_p v1_59), (2, .int v2_59), (3, .int v3_59), (4, .int v4_59), (5, .int v5_59)]) (pc2 := 90) rfl dX7_meetsAt_88 (by decide) rfl ?_
              refine y_iload (pc2 := 92) rfl dX7_meetsAt_90 rfl ?_
              refine y_mab (pc2 := 95) rfl dX7_meetsAt_92 l_BoxYard_Ship_93 (by decide) (by decide) (by decide) (by decide) (by decide) ?_
              refine y_aload_n (x := v0_59) (pc2 := 96) rfl dX7_meetsAt_95 rfl ?_
              obtain ⟨g18, hf⟩ := y_g hf
              refine y_getP (pc2 := 99) rfl dX7_meetsAt_96 F_BoxYard_Ship_25 (by decide) rfl g18 ?_
              refine y_iload (pc2 := 101) rfl dX7_meetsAt_99 rfl ?_
              obtain ⟨g17, hf⟩ := y_g hf
              refine y_iald (pc2 := 102) rfl dX7_meetsAt_101 g17.1 (y_ix_in g17.2) ?_
              refine y_icmp_le (tgt := 108) (pc2 := 105) rfl dX7_meetsAt_102 (by decide) (fun c16 => ?_) (fun c16 => ?_)
              · replace hf := y_it c16 hf
                refine y_iinc (v := v5_59 + 1) (lv' := [(5, .int (v5_59 + 1)), (6, .int ((y_I h9 (y_P h9 v0_59 3) (Int32.toNatClampNeg v5_59)) + (r10 * r13))), (0, y_p v0_59), (1, y_p v1_59), (2, .int v2_59), (3, .int v3_59), (4, .int v4_59)]) (pc2 := 111) rfl dX7_meetsAt_108 rfl rfl (by decide) rfl ?_
                refine y_goto (tgt := 59) dX7_meetsAt_111 (by decide) ?_
                exact y_pk [2, 3, 4, 5, 6, 0] rfl (hj59 _ _ _ _ _ _ _ hf)
              · replace hf := y_ie c16 hf
                refine y_bipush (v := (-53 : Int32)) (pc2 := 107) rfl dX7_meetsAt_105 (by decide) ?_
                exact y_iretF hf dX7_meetsAt_107 rfl (by decide) (by decide)
          · refine y_istore (lv' := [(5, .int 0), (0, y_p v0_56), (1, y_p v1_56), (2, .int v2_56), (3, .int v3_56), (4, .int v4_56)]) (pc2 := 59) rfl dX7_meetsAt_57 (by decide) rfl ?_
            exact y_pk [1, 2, 3, 4, 5, 0] rfl (hj59 _ _ _ _ _ _ _ hf)
        · refine y_if_le (tgt := 56) (pc2 := 35) rfl dX7_meetsAt_32 (by decide) (fun c31 => ?_) (fun c31 => ?_)
          · replace hf := y_it c31 hf
            exact y_pk [0, 1, 2, 3, 4] rfl (hj56 _ _ _ _ _ _ hf)
          · replace hf := y_ie c31 hf
            refine y_aload_n (x := p0) (pc2 := 36) rfl dX7_meetsAt_35 rfl ?_
            obtain ⟨g30, hf⟩ := y_g hf
            refine y_getP (pc2 := 39) rfl dX7_meetsAt_36 F_BoxYard_Ship_17 (by decide) rfl g30 ?_
            refine y_aload_n (x := p0) (pc2 := 40) rfl dX7_meetsAt_39 rfl ?_
            refine y_iload_n (pc2 := 41) rfl dX7_meetsAt_40 rfl ?_
            refine y_iload_n (pc2 := 42) rfl dX7_meetsAt_41 rfl ?_
            refine y_iload (pc2 := 44) rfl dX7_meetsAt_42 rfl ?_
            refine y_iconst (v := 1) (pc2 := 45) rfl dX7_meetsAt_44 (by decide) ?_
            refine y_isub (pc2 := 46) rfl dX7_meetsAt_45 ?_
            obtain ⟨g29, hf⟩ := y_g hf
            obtain ⟨r24, h25, c26, hf⟩ := y_clE hf
            refine y_callV (As := [.int p2, .int p3, .int (p4 - 1)]) (rm := rm_X7_placeNumber) (cells := 0) (slots := 0) (pc2 := 49) rfl dX7_meetsAt_46 n_X7_placeNumber l_BoxYard_Ship_71 i_X7_placeNumber e_X7_placeNumber (ci := 7) rfl rfl (by decide) g29 rfl rfl (by decide) (by simp [y_ci, y_cj, y_p_cat]) (by decide) (k_X7_placeNumber c26) ?_
            obtain ⟨g28, hf⟩ := y_g hf
            refine y_zald (pc2 := 50) rfl dX7_meetsAt_49 g28.1 (y_ix_in g28.2) ?_
            refine y_ifz_ne (tgt := 56) (pc2 := 53) rfl dX7_meetsAt_50 (by decide) (fun c27 => ?_) (fun c27 => ?_)
            · replace hf := y_it c27 hf
              exact y_pk [0, 1, 2, 3, 4] rfl (hj56 _ _ _ _ _ _ hf)
            · replace hf := y_ie c27 hf
              exact y_pk [] rfl (hj53 _ hf)
  · replace hf := y_ie c36 hf
    refine y_bipush (v := (-62 : Int32)) (pc2 := 13) rfl dX7_meetsAt_11 (by decide) ?_
    exact y_iretF hf dX7_meetsAt_13 rfl (by decide) (by decide)
theorem dX7_indexOfPort_0 : decode cX7_indexOfPort 0 = .ok (.iconst 0, 1) := by decide +kernel
theorem dX7_indexOfPort_1 : decode cX7_indexOfPort 1 = .ok (.istore_n 2, 1) := by decide +kernel
theorem dX7_indexOfPort_2 : decode cX7_indexOfPort 2 = .ok (.iload_n 2, 1) := by decide +kernel
theorem dX7_indexOfPort_3 : decode cX7_indexOfPort 3 = .ok (.aload_n 0, 1) := by decide +kernel
theorem dX7_indexOfPort_4 : decode cX7_indexOfPort 4 = .ok (.getfield 47, 3) := by decide +kernel
theorem dX7_indexOfPort_7 : decode cX7_indexOfPort 7 = .ok (.if_icmp .ge 21, 3) := by decide +kernel
theorem dX7_indexOfPort_10 : decode cX7_indexOfPort 10 = .ok (.aload_n 0, 1) := by decide +kernel
theorem dX7_indexOfPort_11 : decode cX7_indexOfPort 11 = .ok (.getfield 28, 3) := by decide +kernel
theorem dX7_indexOfPort_14 : decode cX7_indexOfPort 14 = .ok (.iload_n 2, 1) := by decide +kernel
theorem dX7_indexOfPort_15 : decode cX7_indexOfPort 15 = .ok (.iaload, 1) := by decide +kernel
theorem dX7_indexOfPort_16 : decode cX7_indexOfPort 16 = .ok (.iload_n 1, 1) := by decide +kernel
theorem dX7_indexOfPort_17 : decode cX7_indexOfPort 17 = .ok (.if_icmp .ne 5, 3) := by decide +kernel
theorem dX7_indexOfPort_20 : decode cX7_indexOfPort 20 = .ok (.iload_n 2, 1) := by decide +kernel
theorem dX7_indexOfPort_21 : decode cX7_indexOfPort 21 = .ok (.ireturn, 1) := by decide +kernel
theorem dX7_indexOfPort_22 : decode cX7_indexOfPort 22 = .ok (.iinc 2 1, 3) := by decide +kernel
theorem dX7_indexOfPort_25 : decode cX7_indexOfPort 25 = .ok (.goto (-23), 3) := by decide +kernel
theorem dX7_indexOfPort_28 : decode cX7_indexOfPort 28 = .ok (.bipush (-9), 2) := by decide +kernel
theorem dX7_indexOfPort_30 : decode cX7_indexOfPort 30 = .ok (.ireturn, 1) := by decide +kernel
def M_X7_indexOfPort : y_M := (yX7_indexOfPort, cX7_indexOfPort, 3, (Option.some Jvm.ClassFile.FieldType.int))
theorem n_X7_indexOfPort : y_N0 M_X7_indexOfPort 1 := ⟨(c_5 23 (by decide +kernel) rfl), (c_1 14 (by decide +kernel) rfl), ⟨by decide +kernel, by decide +kernel⟩, by decide +kernel⟩
theorem F_BoxYard_Ship_47 : y_F "BoxYard$Ship" 47 7 7 := ⟨_, _, _, rfl, by decide, Or.inl (c_5 53 (by decide +kernel) rfl)⟩
theorem F_BoxYard_Ship_28 : y_F "BoxYard$Ship" 28 7 6 := ⟨_, _, _, rfl, by decide, Or.inl (c_5 52 (by decide +kernel) rfl)⟩
set_option maxRecDepth 100000 in
def f_X7_indexOfPort (p0 : Nat) (p1 : Int32) (h : y_H) : Option (Int32 × y_H) :=
  y_jl (fun (_ : Nat) (_ : Int32) (_ : Int32) (_ : y_H) => (none : Option (Int32 × y_H))) (fun j2 (v0_2 : Nat) (v1_2 : Int32) (v2_2 : Int32) (h1 : y_H) =>
      if y_K h1 v0_2 = 8 then
      if (y_I h1 v0_2 7) ≤ v2_2 then
        some ((-9 : Int32), h1)
      else
        if y_K h1 v0_2 = 8 then
        if y_K h1 (y_P h1 v0_2 6) = 100 ∧ y_ix v2_2 (y_N h1 (y_P h1 v0_2 6)) = true then
        if (y_I h1 (y_P h1 v0_2 6) (Int32.toNatClampNeg v2_2)) = v1_2 then
          some (v2_2, h1)
        else
          j2 v0_2 v1_2 (v2_2 + 1) h1
        else none
        else none
      else none) (fun j2 =>
  j2 p0 p1 0 h)
abbrev rm_X7_indexOfPort : Room := { frames := 0, cells := 0, slots := 0, locals := 0 }
set_option maxRecDepth 100000 in
set_option maxHeartbeats 4000000 in
theorem k_X7_indexOfPort {l : Launch} {G : y_G} {p0 : Nat} {p1 : Int32} {h hz : y_H} {rz : Int32} (hf : f_X7_indexOfPort p0 p1 h = some (rz, hz)) : y_S l G M_X7_indexOfPort rm_X7_indexOfPort [y_p p0, .int p1] h (some (.int rz)) hz := by
  refine y_start (lv := [(0, y_p p0), (1, .int p1)]) (by decide) (by simp [lg_sl, y_p_cat, y_ci, y_cj, M_X7_indexOfPort]) (by simp [lv_args, y_p_cat, y_ci, y_cj]) (fun z ad0 => ?_)
  unfold f_X7_indexOfPort at hf
  refine y_iconst (v := 0) (pc2 := 1) rfl dX7_indexOfPort_0 (by decide) ?_
  refine y_jlE hf (fun j => ∀ (v0_2 : Nat) (v1_2 : Int32) (v2_2 : Int32) (h1 : y_H), j v0_2 v1_2 v2_2 h1 = some (rz, hz) → y_V l G z rm_X7_indexOfPort M_X7_indexOfPort ad0 h (some (.int rz)) hz 2 [(0, y_p v0_2), (1, .int v1_2), (2, .int v2_2)] [] h1 0 0) (fun _ _ _ _ hf => by cases hf) (fun j2 hj2 v0_2 v1_2 v2_2 h1 hf => ?_) (fun j2 hj2 hf => ?_)
  · refine y_iload_n (pc2 := 3) rfl dX7_indexOfPort_2 rfl ?_
    refine y_aload_n (x := v0_2) (pc2 := 4) rfl dX7_indexOfPort_3 rfl ?_
    obtain ⟨g6, hf⟩ := y_g hf
    refine y_getI (pc2 := 7) rfl dX7_indexOfPort_4 F_BoxYard_Ship_47 (by decide) rfl g6 ?_
    refine y_icmp_ge (tgt := 28) (pc2 := 10) rfl dX7_indexOfPort_7 (by decide) (fun c5 => ?_) (fun c5 => ?_)
    · replace hf := y_it c5 hf
      refine y_bipush (v := (-9 : Int32)) (pc2 := 30) rfl dX7_indexOfPort_28 (by decide) ?_
      exact y_iretF hf dX7_indexOfPort_30 rfl (by decide) (by decide)
    · replace hf := y_ie c5 hf
      refine y_aload_n (x := v0_2) (pc2 := 11) rfl dX7_indexOfPort_10 rfl ?_
      obtain ⟨g4, hf⟩ := y_g hf
      refine y_getP (pc2 := 14) rfl dX7_indexOfPort_11 F_BoxYard_Ship_28 (by decide) rfl g4 ?_
      refine y_iload_n (pc2 := 15) rfl dX7_indexOfPort_14 rfl ?_
      obtain ⟨g3, hf⟩ := y_g hf
      refine y_iald (pc2 := 16) rfl dX7_indexOfPort_15 g3.1 (y_ix_in g3.2) ?_
      refine y_iload_n (pc2 := 17) rfl dX7_indexOfPort_16 rfl ?_
      refine y_icmp_ne (tgt := 22) (pc2 := 20) rfl dX7_indexOfPort_17 (by decide) (fun c2 => ?_) (fun c2 => ?_)
      · replace hf := y_ie c2 hf
        refine y_iinc (v := v2_2 + 1) (lv' := [(2, .int (v2_2 + 1)), (0, y_p v0_2), (1, .int v1_2)]) (pc2 := 25) rfl dX7_indexOfPort_22 rfl rfl (by decide) rfl ?_
        refine y_goto (tgt := 2) dX7_indexOfPort_25 (by decide) ?_
        exact y_pk [1, 2, 0] rfl (hj2 _ _ _ _ hf)
      · replace hf := y_it c2 hf
        refine y_iload_n (pc2 := 21) rfl dX7_indexOfPort_20 rfl ?_
        exact y_iretF hf dX7_indexOfPort_21 rfl (by decide) (by decide)
  · refine y_istore_n (lv' := [(2, .int 0), (0, y_p p0), (1, .int p1)]) (pc2 := 2) rfl dX7_indexOfPort_1 (by decide) rfl ?_
    exact y_pk [1, 2, 0] rfl (hj2 _ _ _ _ hf)
theorem dX7_addPort_0 : decode cX7_addPort 0 = .ok (.aload_n 0, 1) := by decide +kernel
theorem dX7_addPort_1 : decode cX7_addPort 1 = .ok (.getfield 47, 3) := by decide +kernel
theorem dX7_addPort_4 : decode cX7_addPort 4 = .ok (.bipush 8, 2) := by decide +kernel
theorem dX7_addPort_6 : decode cX7_addPort 6 = .ok (.if_icmp .ge 23, 3) := by decide +kernel
theorem dX7_addPort_9 : decode cX7_addPort 9 = .ok (.aload_n 0, 1) := by decide +kernel
theorem dX7_addPort_10 : decode cX7_addPort 10 = .ok (.getfield 28, 3) := by decide +kernel
theorem dX7_addPort_13 : decode cX7_addPort 13 = .ok (.aload_n 0, 1) := by decide +kernel
theorem dX7_addPort_14 : decode cX7_addPort 14 = .ok (.getfield 47, 3) := by decide +kernel
theorem dX7_addPort_17 : decode cX7_addPort 17 = .ok (.iload_n 1, 1) := by decide +kernel
theorem dX7_addPort_18 : decode cX7_addPort 18 = .ok (.iastore, 1) := by decide +kernel
theorem dX7_addPort_19 : decode cX7_addPort 19 = .ok (.aload_n 0, 1) := by decide +kernel
theorem dX7_addPort_20 : decode cX7_addPort 20 = .ok (.dup, 1) := by decide +kernel
theorem dX7_addPort_21 : decode cX7_addPort 21 = .ok (.getfield 47, 3) := by decide +kernel
theorem dX7_addPort_24 : decode cX7_addPort 24 = .ok (.iconst 1, 1) := by decide +kernel
theorem dX7_addPort_25 : decode cX7_addPort 25 = .ok (.iadd, 1) := by decide +kernel
theorem dX7_addPort_26 : decode cX7_addPort 26 = .ok (.putfield 47, 3) := by decide +kernel
theorem dX7_addPort_29 : decode cX7_addPort 29 = .ok (.aload_n 0, 1) := by decide +kernel
theorem dX7_addPort_30 : decode cX7_addPort 30 = .ok (.getfield 47, 3) := by decide +kernel
theorem dX7_addPort_33 : decode cX7_addPort 33 = .ok (.ireturn, 1) := by decide +kernel
def M_X7_addPort : y_M := (yX7_addPort, cX7_addPort, 2, (Option.some Jvm.ClassFile.FieldType.int))
theorem n_X7_addPort : y_N0 M_X7_addPort 1 := ⟨(c_5 117 (by decide +kernel) rfl), (c_1 14 (by decide +kernel) rfl), ⟨by decide +kernel, by decide +kernel⟩, by decide +kernel⟩
set_option maxRecDepth 100000 in
def f_X7_addPort (p0 : Nat) (p1 : Int32) (h : y_H) : Option (Int32 × y_H) :=
  if y_K h p0 = 8 then
  y_jn (fun (v0_29 : Nat) (h1 : y_H) => (
      if y_K h1 v0_29 = 8 then
      some (y_I h1 v0_29 7, h1)
      else none : Option (Int32 × y_H))) (fun j29 =>
  if 8 ≤ (y_I h p0 7) then
    j29 p0 h
  else
    if y_K h p0 = 8 then
    if y_K h p0 = 8 then
    if y_K h (y_P h p0 6) = 100 ∧ y_ix (y_I h p0 7) (y_N h (y_P h p0 6)) = true then
    y_bd (s_I h (y_P h p0 6) (Int32.toNatClampNeg (y_I h p0 7)) p1) (fun h3 =>
    if y_K h3 p0 = 8 then
    if y_K h3 p0 = 8 then
    y_bd (s_I h3 p0 7 ((y_I h3 p0 7) + 1)) (fun h6 =>
    j29 p0 h6)
    else none
    else none)
    else none
    else none
    else none)
  else none
abbrev rm_X7_addPort : Room := { frames := 0, cells := 0, slots := 0, locals := 0 }
set_option maxRecDepth 100000 in
set_option maxHeartbeats 4000000 in
theorem k_X7_addPort {l : Launch} {G : y_G} {p0 : Nat} {p1 : Int32} {h hz : y_H} {rz : Int32} (hf : f_X7_addPort p0 p1 h = some (rz, hz)) : y_S l G M_X7_addPort rm_X7_addPort [y_p p0, .int p1] h (some (.int rz)) hz := by
  refine y_start (lv := [(0, y_p p0), (1, .int p1)]) (by decide) (by simp [lg_sl, y_p_cat, y_ci, y_cj, M_X7_addPort]) (by simp [lv_args, y_p_cat, y_ci, y_cj]) (fun z ad0 => ?_)
  unfold f_X7_addPort at hf
  refine y_aload_n (x := p0) (pc2 := 1) rfl dX7_addPort_0 rfl ?_
  obtain ⟨g13, hf⟩ := y_g hf
  refine y_getI (pc2 := 4) rfl dX7_addPort_1 F_BoxYard_Ship_47 (by decide) rfl g13 ?_
  refine y_bipush (v := 8) (pc2 := 6) rfl dX7_addPort_4 (by decide) ?_
  refine y_jnE hf (fun j => ∀ (v0_29 : Nat) (h1 : y_H), j v0_29 h1 = some (rz, hz) → y_V l G z rm_X7_addPort M_X7_addPort ad0 h (some (.int rz)) hz 29 [(0, y_p v0_29)] [] h1 0 0) (fun v0_29 h1 hf => ?_) (fun j29 hj29 hf => ?_)
  · refine y_aload_n (x := v0_29) (pc2 := 30) rfl dX7_addPort_29 rfl ?_
    obtain ⟨g2, hf⟩ := y_g hf
    refine y_getI (pc2 := 33) rfl dX7_addPort_30 F_BoxYard_Ship_47 (by decide) rfl g2 ?_
    exact y_iretF hf dX7_addPort_33 rfl (by decide) (by decide)
  · refine y_icmp_ge (tgt := 29) (pc2 := 9) rfl dX7_addPort_6 (by decide) (fun c12 => ?_) (fun c12 => ?_)
    · replace hf := y_it c12 hf
      exact y_pk [0] rfl (hj29 _ _ hf)
    · replace hf := y_ie c12 hf
      refine y_aload_n (x := p0) (pc2 := 10) rfl dX7_addPort_9 rfl ?_
      obtain ⟨g11, hf⟩ := y_g hf
      refine y_getP (pc2 := 13) rfl dX7_addPort_10 F_BoxYard_Ship_28 (by decide) rfl g11 ?_
      refine y_aload_n (x := p0) (pc2 := 14) rfl dX7_addPort_13 rfl ?_
      obtain ⟨g10, hf⟩ := y_g hf
      refine y_getI (pc2 := 17) rfl dX7_addPort_14 F_BoxYard_Ship_47 (by decide) rfl g10 ?_
      refine y_iload_n (pc2 := 18) rfl dX7_addPort_17 rfl ?_
      obtain ⟨g5, hf⟩ := y_g hf
      obtain ⟨h3, e4, hf⟩ := y_bdE hf
      refine y_iast (x := p1) (pc2 := 19) rfl dX7_addPort_18 g5.1 (y_ix_in g5.2) e4 ?_
      refine y_aload_n (x := p0) (pc2 := 20) rfl dX7_addPort_19 rfl ?_
      refine y_dup (pc2 := 21) rfl dX7_addPort_20 (y_p_cat _) ?_
      obtain ⟨g9, hf⟩ := y_g hf
      refine y_getI (pc2 := 24) rfl dX7_addPort_21 F_BoxYard_Ship_47 (by decide) rfl g9 ?_
      refine y_iconst (v := 1) (pc2 := 25) rfl dX7_addPort_24 (by decide) ?_
      refine y_iadd (pc2 := 26) rfl dX7_addPort_25 ?_
      obtain ⟨g8, hf⟩ := y_g hf
      obtain ⟨h6, e7, hf⟩ := y_bdE hf
      refine y_putI (x := (y_I h3 p0 7) + 1) (pc2 := 29) rfl dX7_addPort_26 Fp_BoxYard_Ship_47 (by decide) rfl g8 e7 ?_
      exact y_pk [0] rfl (hj29 _ _ hf)
theorem dX7_servedPort_0 : decode cX7_servedPort 0 = .ok (.aload_n 0, 1) := by decide +kernel
theorem dX7_servedPort_1 : decode cX7_servedPort 1 = .ok (.getfield 50, 3) := by decide +kernel
theorem dX7_servedPort_4 : decode cX7_servedPort 4 = .ok (.iconst 0, 1) := by decide +kernel
theorem dX7_servedPort_5 : decode cX7_servedPort 5 = .ok (.aload_n 0, 1) := by decide +kernel
theorem dX7_servedPort_6 : decode cX7_servedPort 6 = .ok (.getfield 47, 3) := by decide +kernel
theorem dX7_servedPort_9 : decode cX7_servedPort 9 = .ok (.iconst 1, 1) := by decide +kernel
theorem dX7_servedPort_10 : decode cX7_servedPort 10 = .ok (.isub, 1) := by decide +kernel
theorem dX7_servedPort_11 : decode cX7_servedPort 11 = .ok (.invokestatic 63, 3) := by decide +kernel
theorem dX7_servedPort_14 : decode cX7_servedPort 14 = .ok (.ifCond .eq 15, 3) := by decide +kernel
theorem dX7_servedPort_17 : decode cX7_servedPort 17 = .ok (.aload_n 0, 1) := by decide +kernel
theorem dX7_servedPort_18 : decode cX7_servedPort 18 = .ok (.getfield 28, 3) := by decide +kernel
theorem dX7_servedPort_21 : decode cX7_servedPort 21 = .ok (.aload_n 0, 1) := by decide +kernel
theorem dX7_servedPort_22 : decode cX7_servedPort 22 = .ok (.getfield 50, 3) := by decide +kernel
theorem dX7_servedPort_25 : decode cX7_servedPort 25 = .ok (.iaload, 1) := by decide +kernel
theorem dX7_servedPort_26 : decode cX7_servedPort 26 = .ok (.goto 5, 3) := by decide +kernel
theorem dX7_servedPort_29 : decode cX7_servedPort 29 = .ok (.bipush (-9), 2) := by decide +kernel
theorem dX7_servedPort_31 : decode cX7_servedPort 31 = .ok (.ireturn, 1) := by decide +kernel
def M_X7_servedPort : y_M := (yX7_servedPort, cX7_servedPort, 1, (Option.some Jvm.ClassFile.FieldType.int))
theorem n_X7_servedPort : y_N0 M_X7_servedPort 0 := ⟨(c_5 139 (by decide +kernel) rfl), (c_1 14 (by decide +kernel) rfl), ⟨by decide +kernel, by decide +kernel⟩, by decide +kernel⟩
theorem F_BoxYard_Ship_50 : y_F "BoxYard$Ship" 50 7 12 := ⟨_, _, _, rfl, by decide, Or.inl (c_5 61 (by decide +kernel) rfl)⟩
set_option maxRecDepth 100000 in
def f_X7_servedPort (p0 : Nat) (h : y_H) : Option (Int32 × y_H) :=
  if y_K h p0 = 8 then
  if y_K h p0 = 8 then
  y_cl (f_X11_isWithin (y_I h p0 12) 0 ((y_I h p0 7) - 1) h) (fun r1 h2 =>
  if r1 = true then
    if y_K h2 p0 = 8 then
    if y_K h2 p0 = 8 then
    if y_K h2 (y_P h2 p0 6) = 100 ∧ y_ix (y_I h2 p0 12) (y_N h2 (y_P h2 p0 6)) = true then
    some (y_I h2 (y_P h2 p0 6) (Int32.toNatClampNeg (y_I h2 p0 12)), h2)
    else none
    else none
    else none
  else
    some ((-9 : Int32), h2))
  else none
  else none
abbrev rm_X7_servedPort : Room := { frames := 1, cells := 0, slots := 0, locals := 22 }
set_option maxRecDepth 100000 in
set_option maxHeartbeats 4000000 in
theorem k_X7_servedPort {l : Launch} {G : y_G} {p0 : Nat} {h hz : y_H} {rz : Int32} (hf : f_X7_servedPort p0 h = some (rz, hz)) : y_S l G M_X7_servedPort rm_X7_servedPort [y_p p0] h (some (.int rz)) hz := by
  refine y_start (lv := [(0, y_p p0)]) (by decide) (by simp [lg_sl, y_p_cat, y_ci, y_cj, M_X7_servedPort]) (by simp [lv_args, y_p_cat, y_ci, y_cj]) (fun z ad0 => ?_)
  unfold f_X7_servedPort at hf
  refine y_aload_n (x := p0) (pc2 := 1) rfl dX7_servedPort_0 rfl ?_
  obtain ⟨g9, hf⟩ := y_g hf
  refine y_getI (pc2 := 4) rfl dX7_servedPort_1 F_BoxYard_Ship_50 (by decide) rfl g9 ?_
  refine y_iconst (v := 0) (pc2 := 5) rfl dX7_servedPort_4 (by decide) ?_
  refine y_aload_n (x := p0) (pc2 := 6) rfl dX7_servedPort_5 rfl ?_
  obtain ⟨g8, hf⟩ := y_g hf
  refine y_getI (pc2 := 9) rfl dX7_servedPort_6 F_BoxYard_Ship_47 (by decide) rfl g8 ?_
  refine y_iconst (v := 1) (pc2 := 10) rfl dX7_servedPort_9 (by decide) ?_
  refine y_isub (pc2 := 11) rfl dX7_servedPort_10 ?_
  obtain ⟨r1, h2, c3, hf⟩ := y_clE hf
  refine y_callS (As := [.int (y_I h p0 12), .int 0, .int ((y_I h p0 7) - 1)]) (rm := rm_X11_isWithin) (cells := 0) (slots := 0) (pc2 := 14) rfl dX7_servedPort_11 n_X11_isWithin l_BoxYard_Ship_63 t_X11_isWithin rfl rfl (by decide) (by decide) (by decide) (k_X11_isWithin c3) ?_
  refine y_ifz_eq (tgt := 29) (pc2 := 17) rfl dX7_servedPort_14 (by decide) (fun c7 => ?_) (fun c7 => ?_)
  · replace hf := y_ie c7 hf
    refine y_bipush (v := (-9 : Int32)) (pc2 := 31) rfl dX7_servedPort_29 (by decide) ?_
    exact y_iretF hf dX7_servedPort_31 rfl (by decide) (by decide)
  · replace hf := y_it c7 hf
    refine y_aload_n (x := p0) (pc2 := 18) rfl dX7_servedPort_17 rfl ?_
    obtain ⟨g6, hf⟩ := y_g hf
    refine y_getP (pc2 := 21) rfl dX7_servedPort_18 F_BoxYard_Ship_28 (by decide) rfl g6 ?_
    refine y_aload_n (x := p0) (pc2 := 22) rfl dX7_servedPort_21 rfl ?_
    obtain ⟨g5, hf⟩ := y_g hf
    refine y_getI (pc2 := 25) rfl dX7_servedPort_22 F_BoxYard_Ship_50 (by decide) rfl g5 ?_
    obtain ⟨g4, hf⟩ := y_g hf
    refine y_iald (pc2 := 26) rfl dX7_servedPort_25 g4.1 (y_ix_in g4.2) ?_
    refine y_goto (tgt := 31) dX7_servedPort_26 (by decide) ?_
    exact y_iretF hf dX7_servedPort_31 rfl (by decide) (by decide)
theorem dX7_isLaterPort_0 : decode cX7_isLaterPort 0 = .ok (.aload_n 0, 1) := by decide +kernel
theorem dX7_isLaterPort_1 : decode cX7_isLaterPort 1 = .ok (.iload_n 1, 1) := by decide +kernel
theorem dX7_isLaterPort_2 : decode cX7_isLaterPort 2 = .ok (.invokevirtual 99, 3) := by decide +kernel
theorem dX7_isLaterPort_5 : decode cX7_isLaterPort 5 = .ok (.aload_n 0, 1) := by decide +kernel
theorem dX7_isLaterPort_6 : decode cX7_isLaterPort 6 = .ok (.getfield 50, 3) := by decide +kernel
theorem dX7_isLaterPort_9 : decode cX7_isLaterPort 9 = .ok (.if_icmp .le 7, 3) := by decide +kernel
theorem dX7_isLaterPort_12 : decode cX7_isLaterPort 12 = .ok (.iconst 1, 1) := by decide +kernel
theorem dX7_isLaterPort_13 : decode cX7_isLaterPort 13 = .ok (.goto 4, 3) := by decide +kernel
theorem dX7_isLaterPort_16 : decode cX7_isLaterPort 16 = .ok (.iconst 0, 1) := by decide +kernel
theorem dX7_isLaterPort_17 : decode cX7_isLaterPort 17 = .ok (.ireturn, 1) := by decide +kernel
def M_X7_isLaterPort : y_M := (yX7_isLaterPort, cX7_isLaterPort, 2, (Option.some Jvm.ClassFile.FieldType.boolean))
theorem n_X7_isLaterPort : y_N0 M_X7_isLaterPort 1 := ⟨(c_5 19 (by decide +kernel) rfl), (c_1 14 (by decide +kernel) rfl), ⟨by decide +kernel, by decide +kernel⟩, by decide +kernel⟩
theorem l_BoxYard_Ship_99 : y_lnk "BoxYard$Ship" 99 M_X7_indexOfPort := Or.inl (c_5 20 (by decide +kernel) rfl)
theorem i_X7_indexOfPort : Cond.instanceMethod (M_X7_indexOfPort).1 ∈ y_tb := (c_5 21 (by decide +kernel) rfl)
theorem e_X7_indexOfPort : Cond.selects (M_X7_indexOfPort).1.cls (M_X7_indexOfPort).1 (M_X7_indexOfPort).1 ∈ y_tb := (c_5 22 (by decide +kernel) rfl)
set_option maxRecDepth 100000 in
def f_X7_isLaterPort (p0 : Nat) (p1 : Int32) (h : y_H) : Option (Bool × y_H) :=
  if y_K h p0 = 8 then
  y_cl (f_X7_indexOfPort p0 p1 h) (fun r1 h2 =>
  if y_K h2 p0 = 8 then
  if r1 ≤ (y_I h2 p0 12) then
    some (false, h2)
  else
    some (true, h2)
  else none)
  else none
abbrev rm_X7_isLaterPort : Room := { frames := 1, cells := 0, slots := 0, locals := 22 }
set_option maxRecDepth 100000 in
set_option maxHeartbeats 4000000 in
theorem k_X7_isLaterPort {l : Launch} {G : y_G} {p0 : Nat} {p1 : Int32} {h hz : y_H} {rz : Bool} (hf : f_X7_isLaterPort p0 p1 h = some (rz, hz)) : y_S l G M_X7_isLaterPort rm_X7_isLaterPort [y_p p0, .int p1] h (some (.int (y_z rz))) hz := by
  refine y_start (lv := [(0, y_p p0), (1, .int p1)]) (by decide) (by simp [lg_sl, y_p_cat, y_ci, y_cj, M_X7_isLaterPort]) (by simp [lv_args, y_p_cat, y_ci, y_cj]) (fun z ad0 => ?_)
  unfold f_X7_isLaterPort at hf
  refine y_aload_n (x := p0) (pc2 := 1) rfl dX7_isLaterPort_0 rfl ?_
  refine y_iload_n (pc2 := 2) rfl dX7_isLaterPort_1 rfl ?_
  obtain ⟨g6, hf⟩ := y_g hf
  obtain ⟨r1, h2, c3, hf⟩ := y_clE hf
  refine y_callV (As := [.int p1]) (rm := rm_X7_indexOfPort) (cells := 0) (slots := 0) (pc2 := 5) rfl dX7_isLaterPort_2 n_X7_indexOfPort l_BoxYard_Ship_99 i_X7_indexOfPort e_X7_indexOfPort (ci := 7) rfl rfl (by decide) g6 rfl rfl (by decide) (by decide) (by decide) (k_X7_indexOfPort c3) ?_
  refine y_aload_n (x := p0) (pc2 := 6) rfl dX7_isLaterPort_5 rfl ?_
  obtain ⟨g5, hf⟩ := y_g hf
  refine y_getI (pc2 := 9) rfl dX7_isLaterPort_6 F_BoxYard_Ship_50 (by decide) rfl g5 ?_
  refine y_icmp_le (tgt := 16) (pc2 := 12) rfl dX7_isLaterPort_9 (by decide) (fun c4 => ?_) (fun c4 => ?_)
  · replace hf := y_it c4 hf
    refine y_iconst (v := 0) (pc2 := 17) rfl dX7_isLaterPort_16 (by decide) ?_
    exact y_zretF (x := false) hf dX7_isLaterPort_17 rfl (by decide) (by decide)
  · replace hf := y_ie c4 hf
    refine y_iconst (v := 1) (pc2 := 13) rfl dX7_isLaterPort_12 (by decide) ?_
    refine y_goto (tgt := 17) dX7_isLaterPort_13 (by decide) ?_
    exact y_zretF (x := true) hf dX7_isLaterPort_17 rfl (by decide) (by decide)
theorem dX8_emptyShelves_0 : decode cX8_emptyShelves 0 = .ok (.iconst 0, 1) := by decide +kernel
theorem dX8_emptyShelves_1 : decode cX8_emptyShelves 1 = .ok (.istore_n 1, 1) := by decide +kernel
theorem dX8_emptyShelves_2 : decode cX8_emptyShelves 2 = .ok (.iload_n 1, 1) := by decide +kernel
theorem dX8_emptyShelves_3 : decode cX8_emptyShelves 3 = .ok (.iconst 4, 1) := by decide +kernel
theorem dX8_emptyShelves_4 : decode cX8_emptyShelves 4 = .ok (.if_icmp .ge 27, 3) := by decide +kernel
theorem dX8_emptyShelves_7 : decode cX8_emptyShelves 7 = .ok (.aload_n 0, 1) := by decide +kernel
theorem dX8_emptyShelves_8 : decode cX8_emptyShelves 8 = .ok (.getfield 39, 3) := by decide +kernel
theorem dX8_emptyShelves_11 : decode cX8_emptyShelves 11 = .ok (.iload_n 1, 1) := by decide +kernel
theorem dX8_emptyShelves_12 : decode cX8_emptyShelves 12 = .ok (.iconst 3, 1) := by decide +kernel
theorem dX8_emptyShelves_13 : decode cX8_emptyShelves 13 = .ok (.iastore, 1) := by decide +kernel
theorem dX8_emptyShelves_14 : decode cX8_emptyShelves 14 = .ok (.aload_n 0, 1) := by decide +kernel
theorem dX8_emptyShelves_15 : decode cX8_emptyShelves 15 = .ok (.getfield 36, 3) := by decide +kernel
theorem dX8_emptyShelves_18 : decode cX8_emptyShelves 18 = .ok (.iload_n 1, 1) := by decide +kernel
theorem dX8_emptyShelves_19 : decode cX8_emptyShelves 19 = .ok (.aaload, 1) := by decide +kernel
theorem dX8_emptyShelves_20 : decode cX8_emptyShelves 20 = .ok (.bipush (-9), 2) := by decide +kernel
theorem dX8_emptyShelves_22 : decode cX8_emptyShelves 22 = .ok (.invokestatic 60, 3) := by decide +kernel
theorem dX8_emptyShelves_25 : decode cX8_emptyShelves 25 = .ok (.iinc 1 1, 3) := by decide +kernel
theorem dX8_emptyShelves_28 : decode cX8_emptyShelves 28 = .ok (.goto (-26), 3) := by decide +kernel
theorem dX8_emptyShelves_31 : decode cX8_emptyShelves 31 = .ok (.return_, 1) := by decide +kernel
def M_X8_emptyShelves : y_M := (yX8_emptyShelves, cX8_emptyShelves, 2, (Option.none : Option Jvm.ClassFile.FieldType))
theorem n_X8_emptyShelves : y_N0 M_X8_emptyShelves 0 := ⟨(c_2 22 (by decide +kernel) rfl), (c_1 8 (by decide +kernel) rfl), ⟨by decide +kernel, by decide +kernel⟩, by decide +kernel⟩
theorem F_BoxYard_Tasks_39 : y_F "BoxYard$Tasks" 39 8 13 := ⟨_, _, _, rfl, by decide, Or.inl (c_2 40 (by decide +kernel) rfl)⟩
theorem F_BoxYard_Tasks_36 : y_F "BoxYard$Tasks" 36 8 12 := ⟨_, _, _, rfl, by decide, Or.inl (c_2 38 (by decide +kernel) rfl)⟩
theorem l_BoxYard_Tasks_60 : y_lnk "BoxYard$Tasks" 60 M_J7_fill_53178 := Or.inl (c_2 23 (by decide +kernel) rfl)
set_option maxRecDepth 100000 in
def f_X8_emptyShelves (p0 : Nat) (h : y_H) : Option (Unit × y_H) :=
  y_jl (fun (_ : Nat) (_ : Int32) (_ : y_H) => (none : Option (Unit × y_H))) (fun j2 (v0_2 : Nat) (v1_2 : Int32) (h1 : y_H) =>
      if 4 ≤ v1_2 then
        some ((), h1)
      else
        if y_K h1 v0_2 = 9 then
        if y_K h1 (y_P h1 v0_2 13) = 100 ∧ y_ix v1_2 (y_N h1 (y_P h1 v0_2 13)) = true then
        y_bd (s_I h1 (y_P h1 v0_2 13) (Int32.toNatClampNeg v1_2) 3) (fun h2 =>
        if y_K h2 v0_2 = 9 then
        if y_K h2 (y_P h2 v0_2 12) = 108 ∧ y_ix v1_2 (y_N h2 (y_P h2 v0_2 12)) = true then
        y_cl (f_J7_fill_53178 (y_P h2 (y_P h2 v0_2 12) (Int32.toNatClampNeg v1_2)) (-9 : Int32) h2) (fun _ h5 =>
        j2 v0_2 (v1_2 + 1) h5)
        else none
        else none)
        else none
        else none) (fun j2 =>
  j2 p0 0 h)
abbrev rm_X8_emptyShelves : Room := { frames := 1, cells := 0, slots := 0, locals := 23 }
set_option maxRecDepth 100000 in
set_option maxHeartbeats 4000000 in
theorem k_X8_emptyShelves {l : Launch} {G : y_G} {p0 : Nat} {h hz : y_H} {rz : Unit} (hf : f_X8_emptyShelves p0 h = some (rz, hz)) : y_S l G M_X8_emptyShelves rm_X8_emptyShelves [y_p p0] h none hz := by
  refine y_start (lv := [(0, y_p p0)]) (by decide) (by simp [lg_sl, y_p_cat, y_ci, y_cj, M_X8_emptyShelves]) (by simp [lv_args, y_p_cat, y_ci, y_cj]) (fun z ad0 => ?_)
  unfold f_X8_emptyShelves at hf
  refine y_iconst (v := 0) (pc2 := 1) rfl dX8_emptyShelves_0 (by decide) ?_
  refine y_jlE hf (fun j => ∀ (v0_2 : Nat) (v1_2 : Int32) (h1 : y_H), j v0_2 v1_2 h1 = some (rz, hz) → y_V l G z rm_X8_emptyShelves M_X8_emptyShelves ad0 h none hz 2 [(0, y_p v0_2), (1, .int v1_2)] [] h1 0 0) (fun _ _ _ hf => by cases hf) (fun j2 hj2 v0_2 v1_2 h1 hf => ?_) (fun j2 hj2 hf => ?_)
  · refine y_iload_n (pc2 := 3) rfl dX8_emptyShelves_2 rfl ?_
    refine y_iconst (v := 4) (pc2 := 4) rfl dX8_emptyShelves_3 (by decide) ?_
    refine y_icmp_ge (tgt := 31) (pc2 := 7) rfl dX8_emptyShelves_4 (by decide) (fun c10 => ?_) (fun c10 => ?_)
    · replace hf := y_it c10 hf
      exact y_vretF hf dX8_emptyShelves_31 rfl (by decide) (by decide)
    · replace hf := y_ie c10 hf
      refine y_aload_n (x := v0_2) (pc2 := 8) rfl dX8_emptyShelves_7 rfl ?_
      obtain ⟨g9, hf⟩ := y_g hf
      refine y_getP (pc2 := 11) rfl dX8_emptyShelves_8 F_BoxYard_Tasks_39 (by decide) rfl g9 ?_
      refine y_iload_n (pc2 := 12) rfl dX8_emptyShelves_11 rfl ?_
      refine y_iconst (v := 3) (pc2 := 13) rfl dX8_emptyShelves_12 (by decide) ?_
      obtain ⟨g4, hf⟩ := y_g hf
      obtain ⟨h2, e3, hf⟩ := y_bdE hf
      refine y_iast (x := 3) (pc2 := 14) rfl dX8_emptyShelves_13 g4.1 (y_ix_in g4.2) e3 ?_
      refine y_aload_n (x := v0_2) (pc2 := 15) rfl dX8_emptyShelves_14 rfl ?_
      obtain ⟨g8, hf⟩ := y_g hf
      refine y_getP (pc2 := 18) rfl dX8_emptyShelves_15 F_BoxYard_Tasks_36 (by decide) rfl g8 ?_
      refine y_iload_n (pc2 := 19) rfl dX8_emptyShelves_18 rfl ?_
      obtain ⟨g7, hf⟩ := y_g hf
      refine y_aald (t := 8) (pc2 := 20) rfl dX8_emptyShelves_19 (by decide) rfl g7.1 (y_ix_in g7.2) ?_
      refine y_bipush (v := (-9 : Int32)) (pc2 := 22) rfl dX8_emptyShelves_20 (by decide) ?_
      obtain ⟨r_, h5, c6, hf⟩ := y_clE hf
      refine y_callS (As := [y_p (y_P h2 (y_P h2 v0_2 12) (Int32.toNatClampNeg v1_2)), .int (-9 : Int32)]) (rm := rm_J7_fill_53178) (cells := 0) (slots := 0) (pc2 := 25) rfl dX8_emptyShelves_22 n_J7_fill_53178 l_BoxYard_Tasks_60 t_J7_fill_53178 rfl rfl (by decide) (by decide) (by decide) (k_J7_fill_53178 c6) ?_
      refine y_iinc (v := v1_2 + 1) (lv' := [(1, .int (v1_2 + 1)), (0, y_p v0_2)]) (pc2 := 28) rfl dX8_emptyShelves_25 rfl rfl (by decide) (by simp [y_st1, y_p_cat, y_ci, y_cj]) ?_
      refine y_goto (tgt := 2) dX8_emptyShelves_28 (by decide) ?_
      exact y_pk [1, 0] rfl (hj2 _ _ _ hf)
  · refine y_istore_n (lv' := [(1, .int 0), (0, y_p p0)]) (pc2 := 2) rfl dX8_emptyShelves_1 (by decide) (by show y_st1 _ 1 _ = _; simp [y_st1, y_p_cat, y_ci, y_cj]) ?_
    exact y_pk [1, 0] rfl (hj2 _ _ _ hf)
theorem dX8_begin_0 : decode cX8_begin 0 = .ok (.aload_n 0, 1) := by decide +kernel
theorem dX8_begin_1 : decode cX8_begin 1 = .ok (.iconst 0, 1) := by decide +kernel
theorem dX8_begin_2 : decode cX8_begin 2 = .ok (.putfield 49, 3) := by decide +kernel
theorem dX8_begin_5 : decode cX8_begin 5 = .ok (.aload_n 0, 1) := by decide +kernel
theorem dX8_begin_6 : decode cX8_begin 6 = .ok (.iconst 0, 1) := by decide +kernel
theorem dX8_begin_7 : decode cX8_begin 7 = .ok (.putfield 52, 3) := by decide +kernel
theorem dX8_begin_10 : decode cX8_begin 10 = .ok (.aload_n 0, 1) := by decide +kernel
theorem dX8_begin_11 : decode cX8_begin 11 = .ok (.lconst 0, 1) := by decide +kernel
theorem dX8_begin_12 : decode cX8_begin 12 = .ok (.putfield 56, 3) := by decide +kernel
theorem dX8_begin_15 : decode cX8_begin 15 = .ok (.aload_n 0, 1) := by decide +kernel
theorem dX8_begin_16 : decode cX8_begin 16 = .ok (.invokevirtual 46, 3) := by decide +kernel
theorem dX8_begin_19 : decode cX8_begin 19 = .ok (.return_, 1) := by decide +kernel
def M_X8_begin : y_M := (yX8_begin, cX8_begin, 1, (Option.none : Option Jvm.ClassFile.FieldType))
theorem n_X8_begin : y_N0 M_X8_begin 0 := ⟨(c_7 109 (by decide +kernel) rfl), (c_1 8 (by decide +kernel) rfl), ⟨by decide +kernel, by decide +kernel⟩, by decide +kernel⟩
theorem Fp_BoxYard_Tasks_49 {nm : String} : y_Fp "BoxYard$Tasks" nm 49 8 5 := ⟨_, _, _, rfl, by decide, Or.inl ⟨rfl, Or.inl (c_2 29 (by decide +kernel) rfl)⟩⟩
theorem Fp_BoxYard_Tasks_52 {nm : String} : y_Fp "BoxYard$Tasks" nm 52 8 6 := ⟨_, _, _, rfl, by decide, Or.inl ⟨rfl, Or.inl (c_2 31 (by decide +kernel) rfl)⟩⟩
theorem Fp_BoxYard_Tasks_56 {nm : String} : y_Fp "BoxYard$Tasks" nm 56 8 9 := ⟨_, _, _, rfl, by decide, Or.inl ⟨rfl, Or.inl (c_2 34 (by decide +kernel) rfl)⟩⟩
theorem l_BoxYard_Tasks_46 : y_lnk "BoxYard$Tasks" 46 M_X8_emptyShelves := Or.inl (c_2 19 (by decide +kernel) rfl)
theorem i_X8_emptyShelves : Cond.instanceMethod (M_X8_emptyShelves).1 ∈ y_tb := (c_2 21 (by decide +kernel) rfl)
theorem e_X8_emptyShelves : Cond.selects (M_X8_emptyShelves).1.cls (M_X8_emptyShelves).1 (M_X8_emptyShelves).1 ∈ y_tb := (m_s 0 (by decide +kernel) rfl)
set_option maxRecDepth 100000 in
def f_X8_begin (p0 : Nat) (h : y_H) : Option (Unit × y_H) :=
  if y_K h p0 = 9 then
  y_bd (s_I h p0 5 0) (fun h1 =>
  if y_K h1 p0 = 9 then
  y_bd (s_B h1 p0 6 false) (fun h4 =>
  if y_K h4 p0 = 9 then
  y_bd (s_L h4 p0 9 0) (fun h7 =>
  if y_K h7 p0 = 9 then
  y_cl (f_X8_emptyShelves p0 h7) (fun _ h10 =>
  some ((), h10))
  else none)
  else none)
  else none)
  else none
abbrev rm_X8_begin : Room := { frames := 2, cells := 0, slots := 0, locals := 44 }
set_option maxRecDepth 100000 in
set_option maxHeartbeats 4000000 in
theorem k_X8_begin {l : Launch} {G : y_G} {p0 : Nat} {h hz : y_H} {rz : Unit} (hf : f_X8_begin p0 h = some (rz, hz)) : y_S l G M_X8_begin rm_X8_begin [y_p p0] h none hz := by
  refine y_start (lv := [(0, y_p p0)]) (by decide) (by simp [lg_sl, y_p_cat, y_ci, y_cj, M_X8_begin]) (by simp [lv_args, y_p_cat, y_ci, y_cj]) (fun z ad0 => ?_)
  unfold f_X8_begin at hf
  refine y_aload_n (x := p0) (pc2 := 1) rfl dX8_begin_0 rfl ?_
  refine y_iconst (v := 0) (pc2 := 2) rfl dX8_begin_1 (by decide) ?_
  obtain ⟨g3, hf⟩ := y_g hf
  obtain ⟨h1, e2, hf⟩ := y_bdE hf
  refine y_putI (x := 0) (pc2 := 5) rfl dX8_begin_2 Fp_BoxYard_Tasks_49 (by decide) rfl g3 e2 ?_
  refine y_aload_n (x := p0) (pc2 := 6) rfl dX8_begin_5 rfl ?_
  refine y_iconst (v := 0) (pc2 := 7) rfl dX8_begin_6 (by decide) ?_
  obtain ⟨g6, hf⟩ := y_g hf
  obtain ⟨h4, e5, hf⟩ := y_bdE hf
  refine y_putZ (x := false) (pc2 := 10) rfl dX8_begin_7 Fp_BoxYard_Tasks_52 (by decide) rfl g6 e5 ?_
  refine y_aload_n (x := p0) (pc2 := 11) rfl dX8_begin_10 rfl ?_
  refine y_lconst (v := 0) (pc2 := 12) rfl dX8_begin_11 rfl ?_
  obtain ⟨g9, hf⟩ := y_g hf
  obtain ⟨h7, e8, hf⟩ := y_bdE hf
  refine y_putL (x := 0) (pc2 := 15) rfl dX8_begin_12 Fp_BoxYard_Tasks_56 (by decide) rfl g9 e8 ?_
  refine y_aload_n (x := p0) (pc2 := 16) rfl dX8_begin_15 rfl ?_
  obtain ⟨g12, hf⟩ := y_g hf
  obtain ⟨r_, h10, c11, hf⟩ := y_clE hf
  refine y_callV (As := []) (rm := rm_X8_emptyShelves) (cells := 0) (slots := 0) (pc2 := 19) rfl dX8_begin_16 n_X8_emptyShelves l_BoxYard_Tasks_46 i_X8_emptyShelves e_X8_emptyShelves (ci := 8) rfl rfl (by decide) g12 rfl rfl (by decide) (by decide) (by decide) (k_X8_emptyShelves c11) ?_
  exact y_vretF hf dX8_begin_19 rfl (by decide) (by decide)
theorem dX8_has_0 : decode cX8_has 0 = .ok (.iload_n 1, 1) := by decide +kernel
theorem dX8_has_1 : decode cX8_has 1 = .ok (.iconst 0, 1) := by decide +kernel
theorem dX8_has_2 : decode cX8_has 2 = .ok (.aload_n 0, 1) := by decide +kernel
theorem dX8_has_3 : decode cX8_has 3 = .ok (.getfield 49, 3) := by decide +kernel
theorem dX8_has_6 : decode cX8_has 6 = .ok (.iconst 1, 1) := by decide +kernel
theorem dX8_has_7 : decode cX8_has 7 = .ok (.isub, 1) := by decide +kernel
theorem dX8_has_8 : decode cX8_has 8 = .ok (.invokestatic 66, 3) := by decide +kernel
theorem dX8_has_11 : decode cX8_has 11 = .ok (.ireturn, 1) := by decide +kernel
def M_X8_has : y_M := (yX8_has, cX8_has, 2, (Option.some Jvm.ClassFile.FieldType.boolean))
theorem n_X8_has : y_N0 M_X8_has 1 := ⟨(c_6 123 (by decide +kernel) rfl), (c_1 8 (by decide +kernel) rfl), ⟨by decide +kernel, by decide +kernel⟩, by decide +kernel⟩
theorem F_BoxYard_Tasks_49 : y_F "BoxYard$Tasks" 49 8 5 := ⟨_, _, _, rfl, by decide, Or.inl (c_2 29 (by decide +kernel) rfl)⟩
theorem l_BoxYard_Tasks_66 : y_lnk "BoxYard$Tasks" 66 M_X11_isWithin := Or.inr ⟨"BoxYard", (c_6 124 (by decide +kernel) rfl)⟩
set_option maxRecDepth 100000 in
def f_X8_has (p0 : Nat) (p1 : Int32) (h : y_H) : Option (Bool × y_H) :=
  if y_K h p0 = 9 then
  y_cl (f_X11_isWithin p1 0 ((y_I h p0 5) - 1) h) (fun r1 h2 =>
  some (r1, h2))
  else none
abbrev rm_X8_has : Room := { frames := 1, cells := 0, slots := 0, locals := 22 }
set_option maxRecDepth 100000 in
set_option maxHeartbeats 4000000 in
theorem k_X8_has {l : Launch} {G : y_G} {p0 : Nat} {p1 : Int32} {h hz : y_H} {rz : Bool} (hf : f_X8_has p0 p1 h = some (rz, hz)) : y_S l G M_X8_has rm_X8_has [y_p p0, .int p1] h (some (.int (y_z rz))) hz := by
  refine y_start (lv := [(0, y_p p0), (1, .int p1)]) (by decide) (by simp [lg_sl, y_p_cat, y_ci, y_cj, M_X8_has]) (by simp [lv_args, y_p_cat, y_ci, y_cj]) (fun z ad0 => ?_)
  unfold f_X8_has at hf
  refine y_iload_n (pc2 := 1) rfl dX8_has_0 rfl ?_
  refine y_iconst (v := 0) (pc2 := 2) rfl dX8_has_1 (by decide) ?_
  refine y_aload_n (x := p0) (pc2 := 3) rfl dX8_has_2 rfl ?_
  obtain ⟨g4, hf⟩ := y_g hf
  refine y_getI (pc2 := 6) rfl dX8_has_3 F_BoxYard_Tasks_49 (by decide) rfl g4 ?_
  refine y_iconst (v := 1) (pc2 := 7) rfl dX8_has_6 (by decide) ?_
  refine y_isub (pc2 := 8) rfl dX8_has_7 ?_
  obtain ⟨r1, h2, c3, hf⟩ := y_clE hf
  refine y_callS (As := [.int p1, .int 0, .int ((y_I h p0 5) - 1)]) (rm := rm_X11_isWithin) (cells := 0) (slots := 0) (pc2 := 11) rfl dX8_has_8 n_X11_isWithin l_BoxYard_Tasks_66 t_X11_isWithin rfl rfl (by decide) (by decide) (by decide) (k_X11_isWithin c3) ?_
  exact y_zretF hf dX8_has_11 rfl (by decide) (by decide)
theorem dX8_nextTask_0 : decode cX8_nextTask 0 = .ok (.aload_n 0, 1) := by decide +kernel
theorem dX8_nextTask_1 : decode cX8_nextTask 1 = .ok (.getfield 49, 3) := by decide +kernel
theorem dX8_nextTask_4 : decode cX8_nextTask 4 = .ok (.bipush 6, 2) := by decide +kernel
theorem dX8_nextTask_6 : decode cX8_nextTask 6 = .ok (.if_icmp .lt 6, 3) := by decide +kernel
theorem dX8_nextTask_9 : decode cX8_nextTask 9 = .ok (.bipush (-4), 2) := by decide +kernel
theorem dX8_nextTask_11 : decode cX8_nextTask 11 = .ok (.ireturn, 1) := by decide +kernel
theorem dX8_nextTask_12 : decode cX8_nextTask 12 = .ok (.aload_n 0, 1) := by decide +kernel
theorem dX8_nextTask_13 : decode cX8_nextTask 13 = .ok (.getfield 21, 3) := by decide +kernel
theorem dX8_nextTask_16 : decode cX8_nextTask 16 = .ok (.aload_n 0, 1) := by decide +kernel
theorem dX8_nextTask_17 : decode cX8_nextTask 17 = .ok (.getfield 49, 3) := by decide +kernel
theorem dX8_nextTask_20 : decode cX8_nextTask 20 = .ok (.iconst 0, 1) := by decide +kernel
theorem dX8_nextTask_21 : decode cX8_nextTask 21 = .ok (.iastore, 1) := by decide +kernel
theorem dX8_nextTask_22 : decode cX8_nextTask 22 = .ok (.aload_n 0, 1) := by decide +kernel
theorem dX8_nextTask_23 : decode cX8_nextTask 23 = .ok (.dup, 1) := by decide +kernel
theorem dX8_nextTask_24 : decode cX8_nextTask 24 = .ok (.getfield 49, 3) := by decide +kernel
theorem dX8_nextTask_27 : decode cX8_nextTask 27 = .ok (.iconst 1, 1) := by decide +kernel
theorem dX8_nextTask_28 : decode cX8_nextTask 28 = .ok (.iadd, 1) := by decide +kernel
theorem dX8_nextTask_29 : decode cX8_nextTask 29 = .ok (.putfield 49, 3) := by decide +kernel
theorem dX8_nextTask_32 : decode cX8_nextTask 32 = .ok (.aload_n 0, 1) := by decide +kernel
theorem dX8_nextTask_33 : decode cX8_nextTask 33 = .ok (.getfield 49, 3) := by decide +kernel
theorem dX8_nextTask_36 : decode cX8_nextTask 36 = .ok (.iconst 1, 1) := by decide +kernel
theorem dX8_nextTask_37 : decode cX8_nextTask 37 = .ok (.isub, 1) := by decide +kernel
theorem dX8_nextTask_38 : decode cX8_nextTask 38 = .ok (.ireturn, 1) := by decide +kernel
def M_X8_nextTask : y_M := (yX8_nextTask, cX8_nextTask, 1, (Option.some Jvm.ClassFile.FieldType.int))
theorem n_X8_nextTask : y_N0 M_X8_nextTask 0 := ⟨(c_6 115 (by decide +kernel) rfl), (c_1 8 (by decide +kernel) rfl), ⟨by decide +kernel, by decide +kernel⟩, by decide +kernel⟩
theorem F_BoxYard_Tasks_21 : y_F "BoxYard$Tasks" 21 8 4 := ⟨_, _, _, rfl, by decide, Or.inl (c_2 28 (by decide +kernel) rfl)⟩
set_option maxRecDepth 100000 in
def f_X8_nextTask (p0 : Nat) (h : y_H) : Option (Int32 × y_H) :=
  if y_K h p0 = 9 then
  if (y_I h p0 5) < 6 then
    if y_K h p0 = 9 then
    if y_K h p0 = 9 then
    if y_K h (y_P h p0 4) = 100 ∧ y_ix (y_I h p0 5) (y_N h (y_P h p0 4)) = true then
    y_bd (s_I h (y_P h p0 4) (Int32.toNatClampNeg (y_I h p0 5)) 0) (fun h1 =>
    if y_K h1 p0 = 9 then
    if y_K h1 p0 = 9 then
    y_bd (s_I h1 p0 5 ((y_I h1 p0 5) + 1)) (fun h4 =>
    if y_K h4 p0 = 9 then
    some ((y_I h4 p0 5) - 1, h4)
    else none)
    else none
    else none)
    else none
    else none
    else none
  else
    some ((-4 : Int32), h)
  else none
abbrev rm_X8_nextTask : Room := { frames := 0, cells := 0, slots := 0, locals := 0 }
set_option maxRecDepth 100000 in
set_option maxHeartbeats 4000000 in
theorem k_X8_nextTask {l : Launch} {G : y_G} {p0 : Nat} {h hz : y_H} {rz : Int32} (hf : f_X8_nextTask p0 h = some (rz, hz)) : y_S l G M_X8_nextTask rm_X8_nextTask [y_p p0] h (some (.int rz)) hz := by
  refine y_start (lv := [(0, y_p p0)]) (by decide) (by simp [lg_sl, y_p_cat, y_ci, y_cj, M_X8_nextTask]) (by simp [lv_args, y_p_cat, y_ci, y_cj]) (fun z ad0 => ?_)
  unfold f_X8_nextTask at hf
  refine y_aload_n (x := p0) (pc2 := 1) rfl dX8_nextTask_0 rfl ?_
  obtain ⟨g12, hf⟩ := y_g hf
  refine y_getI (pc2 := 4) rfl dX8_nextTask_1 F_BoxYard_Tasks_49 (by decide) rfl g12 ?_
  refine y_bipush (v := 6) (pc2 := 6) rfl dX8_nextTask_4 (by decide) ?_
  refine y_icmp_lt (tgt := 12) (pc2 := 9) rfl dX8_nextTask_6 (by decide) (fun c11 => ?_) (fun c11 => ?_)
  · replace hf := y_it c11 hf
    refine y_aload_n (x := p0) (pc2 := 13) rfl dX8_nextTask_12 rfl ?_
    obtain ⟨g10, hf⟩ := y_g hf
    refine y_getP (pc2 := 16) rfl dX8_nextTask_13 F_BoxYard_Tasks_21 (by decide) rfl g10 ?_
    refine y_aload_n (x := p0) (pc2 := 17) rfl dX8_nextTask_16 rfl ?_
    obtain ⟨g9, hf⟩ := y_g hf
    refine y_getI (pc2 := 20) rfl dX8_nextTask_17 F_BoxYard_Tasks_49 (by decide) rfl g9 ?_
    refine y_iconst (v := 0) (pc2 := 21) rfl dX8_nextTask_20 (by decide) ?_
    obtain ⟨g3, hf⟩ := y_g hf
    obtain ⟨h1, e2, hf⟩ := y_bdE hf
    refine y_iast (x := 0) (pc2 := 22) rfl dX8_nextTask_21 g3.1 (y_ix_in g3.2) e2 ?_
    refine y_aload_n (x := p0) (pc2 := 23) rfl dX8_nextTask_22 rfl ?_
    refine y_dup (pc2 := 24) rfl dX8_nextTask_23 (y_p_cat _) ?_
    obtain ⟨g8, hf⟩ := y_g hf
    refine y_getI (pc2 := 27) rfl dX8_nextTask_24 F_BoxYard_Tasks_49 (by decide) rfl g8 ?_
    refine y_iconst (v := 1) (pc2 := 28) rfl dX8_nextTask_27 (by decide) ?_
    refine y_iadd (pc2 := 29) rfl dX8_nextTask_28 ?_
    obtain ⟨g6, hf⟩ := y_g hf
    obtain ⟨h4, e5, hf⟩ := y_bdE hf
    refine y_putI (x := (y_I h1 p0 5) + 1) (pc2 := 32) rfl dX8_nextTask_29 Fp_BoxYard_Tasks_49 (by decide) rfl g6 e5 ?_
    refine y_aload_n (x := p0) (pc2 := 33) rfl dX8_nextTask_32 rfl ?_
    obtain ⟨g7, hf⟩ := y_g hf
    refine y_getI (pc2 := 36) rfl dX8_nextTask_33 F_BoxYard_Tasks_49 (by decide) rfl g7 ?_
    refine y_iconst (v := 1) (pc2 := 37) rfl dX8_nextTask_36 (by decide) ?_
    refine y_isub (pc2 := 38) rfl dX8_nextTask_37 ?_
    exact y_iretF hf dX8_nextTask_38 rfl (by decide) (by decide)
  · replace hf := y_ie c11 hf
    refine y_bipush (v := (-4 : Int32)) (pc2 := 11) rfl dX8_nextTask_9 (by decide) ?_
    exact y_iretF hf dX8_nextTask_11 rfl (by decide) (by decide)
theorem dX8_addOp_0 : decode cX8_addOp 0 = .ok (.aload_n 0, 1) := by decide +kernel
theorem dX8_addOp_1 : decode cX8_addOp 1 = .ok (.iload_n 1, 1) := by decide +kernel
theorem dX8_addOp_2 : decode cX8_addOp 2 = .ok (.invokevirtual 70, 3) := by decide +kernel
theorem dX8_addOp_5 : decode cX8_addOp 5 = .ok (.ifCond .ne 5, 3) := by decide +kernel
theorem dX8_addOp_8 : decode cX8_addOp 8 = .ok (.iconst (-1), 1) := by decide +kernel
theorem dX8_addOp_9 : decode cX8_addOp 9 = .ok (.ireturn, 1) := by decide +kernel
theorem dX8_addOp_10 : decode cX8_addOp 10 = .ok (.aload_n 0, 1) := by decide +kernel
theorem dX8_addOp_11 : decode cX8_addOp 11 = .ok (.getfield 21, 3) := by decide +kernel
theorem dX8_addOp_14 : decode cX8_addOp 14 = .ok (.iload_n 1, 1) := by decide +kernel
theorem dX8_addOp_15 : decode cX8_addOp 15 = .ok (.iaload, 1) := by decide +kernel
theorem dX8_addOp_16 : decode cX8_addOp 16 = .ok (.bipush 10, 2) := by decide +kernel
theorem dX8_addOp_18 : decode cX8_addOp 18 = .ok (.if_icmp .lt 6, 3) := by decide +kernel
theorem dX8_addOp_21 : decode cX8_addOp 21 = .ok (.bipush (-4), 2) := by decide +kernel
theorem dX8_addOp_23 : decode cX8_addOp 23 = .ok (.ireturn, 1) := by decide +kernel
theorem dX8_addOp_24 : decode cX8_addOp 24 = .ok (.iload_n 1, 1) := by decide +kernel
theorem dX8_addOp_25 : decode cX8_addOp 25 = .ok (.bipush 10, 2) := by decide +kernel
theorem dX8_addOp_27 : decode cX8_addOp 27 = .ok (.imul, 1) := by decide +kernel
theorem dX8_addOp_28 : decode cX8_addOp 28 = .ok (.aload_n 0, 1) := by decide +kernel
theorem dX8_addOp_29 : decode cX8_addOp 29 = .ok (.getfield 21, 3) := by decide +kernel
theorem dX8_addOp_32 : decode cX8_addOp 32 = .ok (.iload_n 1, 1) := by decide +kernel
theorem dX8_addOp_33 : decode cX8_addOp 33 = .ok (.iaload, 1) := by decide +kernel
theorem dX8_addOp_34 : decode cX8_addOp 34 = .ok (.iadd, 1) := by decide +kernel
theorem dX8_addOp_35 : decode cX8_addOp 35 = .ok (.istore 5, 2) := by decide +kernel
theorem dX8_addOp_37 : decode cX8_addOp 37 = .ok (.aload_n 0, 1) := by decide +kernel
theorem dX8_addOp_38 : decode cX8_addOp 38 = .ok (.getfield 11, 3) := by decide +kernel
theorem dX8_addOp_41 : decode cX8_addOp 41 = .ok (.iload 5, 2) := by decide +kernel
theorem dX8_addOp_43 : decode cX8_addOp 43 = .ok (.iload_n 2, 1) := by decide +kernel
theorem dX8_addOp_44 : decode cX8_addOp 44 = .ok (.iastore, 1) := by decide +kernel
theorem dX8_addOp_45 : decode cX8_addOp 45 = .ok (.aload_n 0, 1) := by decide +kernel
theorem dX8_addOp_46 : decode cX8_addOp 46 = .ok (.getfield 15, 3) := by decide +kernel
theorem dX8_addOp_49 : decode cX8_addOp 49 = .ok (.iload 5, 2) := by decide +kernel
theorem dX8_addOp_51 : decode cX8_addOp 51 = .ok (.iload_n 3, 1) := by decide +kernel
theorem dX8_addOp_52 : decode cX8_addOp 52 = .ok (.iastore, 1) := by decide +kernel
theorem dX8_addOp_53 : decode cX8_addOp 53 = .ok (.aload_n 0, 1) := by decide +kernel
theorem dX8_addOp_54 : decode cX8_addOp 54 = .ok (.getfield 18, 3) := by decide +kernel
theorem dX8_addOp_57 : decode cX8_addOp 57 = .ok (.iload 5, 2) := by decide +kernel
theorem dX8_addOp_59 : decode cX8_addOp 59 = .ok (.iload 4, 2) := by decide +kernel
theorem dX8_addOp_61 : decode cX8_addOp 61 = .ok (.iastore, 1) := by decide +kernel
theorem dX8_addOp_62 : decode cX8_addOp 62 = .ok (.aload_n 0, 1) := by decide +kernel
theorem dX8_addOp_63 : decode cX8_addOp 63 = .ok (.getfield 21, 3) := by decide +kernel
theorem dX8_addOp_66 : decode cX8_addOp 66 = .ok (.iload_n 1, 1) := by decide +kernel
theorem dX8_addOp_67 : decode cX8_addOp 67 = .ok (.dup2, 1) := by decide +kernel
theorem dX8_addOp_68 : decode cX8_addOp 68 = .ok (.iaload, 1) := by decide +kernel
theorem dX8_addOp_69 : decode cX8_addOp 69 = .ok (.iconst 1, 1) := by decide +kernel
theorem dX8_addOp_70 : decode cX8_addOp 70 = .ok (.iadd, 1) := by decide +kernel
theorem dX8_addOp_71 : decode cX8_addOp 71 = .ok (.iastore, 1) := by decide +kernel
theorem dX8_addOp_72 : decode cX8_addOp 72 = .ok (.aload_n 0, 1) := by decide +kernel
theorem dX8_addOp_73 : decode cX8_addOp 73 = .ok (.getfield 21, 3) := by decide +kernel
theorem dX8_addOp_76 : decode cX8_addOp 76 = .ok (.iload_n 1, 1) := by decide +kernel
theorem dX8_addOp_77 : decode cX8_addOp 77 = .ok (.iaload, 1) := by decide +kernel
theorem dX8_addOp_78 : decode cX8_addOp 78 = .ok (.ireturn, 1) := by decide +kernel
def M_X8_addOp : y_M := (yX8_addOp, cX8_addOp, 6, (Option.some Jvm.ClassFile.FieldType.int))
theorem n_X8_addOp : y_N0 M_X8_addOp 4 := ⟨(c_6 128 (by decide +kernel) rfl), (c_1 8 (by decide +kernel) rfl), ⟨by decide +kernel, by decide +kernel⟩, by decide +kernel⟩
theorem l_BoxYard_Tasks_70 : y_lnk "BoxYard$Tasks" 70 M_X8_has := Or.inl (c_6 129 (by decide +kernel) rfl)
theorem i_X8_has : Cond.instanceMethod (M_X8_has).1 ∈ y_tb := (c_6 121 (by decide +kernel) rfl)
theorem e_X8_has : Cond.selects (M_X8_has).1.cls (M_X8_has).1 (M_X8_has).1 ∈ y_tb := (c_6 122 (by decide +kernel) rfl)
theorem F_BoxYard_Tasks_11 : y_F "BoxYard$Tasks" 11 8 1 := ⟨_, _, _, rfl, by decide, Or.inl (c_2 25 (by decide +kernel) rfl)⟩
theorem F_BoxYard_Tasks_15 : y_F "BoxYard$Tasks" 15 8 2 := ⟨_, _, _, rfl, by decide, Or.inl (c_2 26 (by decide +kernel) rfl)⟩
theorem F_BoxYard_Tasks_18 : y_F "BoxYard$Tasks" 18 8 3 := ⟨_, _, _, rfl, by decide, Or.inl (c_2 27 (by decide +kernel) rfl)⟩
set_option maxRecDepth 100000 in
def f_X8_addOp (p0 : Nat) (p1 : Int32) (p2 : Int32) (p3 : Int32) (p4 : Int32) (h : y_H) : Option (Int32 × y_H) :=
  if y_K h p0 = 9 then
  y_cl (f_X8_has p0 p1 h) (fun r1 h2 =>
  if r1 = true then
    if y_K h2 p0 = 9 then
    if y_K h2 (y_P h2 p0 4) = 100 ∧ y_ix p1 (y_N h2 (y_P h2 p0 4)) = true then
    if (y_I h2 (y_P h2 p0 4) (Int32.toNatClampNeg p1)) < 10 then
      if y_K h2 p0 = 9 then
      if y_K h2 (y_P h2 p0 4) = 100 ∧ y_ix p1 (y_N h2 (y_P h2 p0 4)) = true then
      if y_K h2 p0 = 9 then
      if y_K h2 (y_P h2 p0 1) = 100 ∧ y_ix ((p1 * 10) + (y_I h2 (y_P h2 p0 4) (Int32.toNatClampNeg p1))) (y_N h2 (y_P h2 p0 1)) = true then
      y_bd (s_I h2 (y_P h2 p0 1) (Int32.toNatClampNeg ((p1 * 10) + (y_I h2 (y_P h2 p0 4) (Int32.toNatClampNeg p1)))) p2) (fun h4 =>
      if y_K h4 p0 = 9 then
      if y_K h4 (y_P h4 p0 2) = 100 ∧ y_ix ((p1 * 10) + (y_I h2 (y_P h2 p0 4) (Int32.toNatClampNeg p1))) (y_N h4 (y_P h4 p0 2)) = true then
      y_bd (s_I h4 (y_P h4 p0 2) (Int32.toNatClampNeg ((p1 * 10) + (y_I h2 (y_P h2 p0 4) (Int32.toNatClampNeg p1)))) p3) (fun h7 =>
      if y_K h7 p0 = 9 then
      if y_K h7 (y_P h7 p0 3) = 100 ∧ y_ix ((p1 * 10) + (y_I h2 (y_P h2 p0 4) (Int32.toNatClampNeg p1))) (y_N h7 (y_P h7 p0 3)) = true then
      y_bd (s_I h7 (y_P h7 p0 3) (Int32.toNatClampNeg ((p1 * 10) + (y_I h2 (y_P h2 p0 4) (Int32.toNatClampNeg p1)))) p4) (fun h10 =>
      if y_K h10 p0 = 9 then
      if y_K h10 (y_P h10 p0 4) = 100 ∧ y_ix p1 (y_N h10 (y_P h10 p0 4)) = true then
      if y_K h10 (y_P h10 p0 4) = 100 ∧ y_ix p1 (y_N h10 (y_P h10 p0 4)) = true then
      y_bd (s_I h10 (y_P h10 p0 4) (Int32.toNatClampNeg p1) ((y_I h10 (y_P h10 p0 4) (Int32.toNatClampNeg p1)) + 1)) (fun h13 =>
      if y_K h13 p0 = 9 then
      if y_K h13 (y_P h13 p0 4) = 100 ∧ y_ix p1 (y_N h13 (y_P h13 p0 4)) = true then
      some (y_I h13 (y_P h13 p0 4) (Int32.toNatClampNeg p1), h13)
      else none
      else none)
      else none
      else none
      else none)
      else none
      else none)
      else none
      else none)
      else none
      else none
      else none
      else none
    else
      some ((-4 : Int32), h2)
    else none
    else none
  else
    some ((-1 : Int32), h2))
  else none
abbrev rm_X8_addOp : Room := { frames := 2, cells := 0, slots := 0, locals := 43 }
set_option maxRecDepth 100000 in
set_option maxHeartbeats 4000000 in
theorem k_X8_addOp {l : Launch} {G : y_G} {p0 : Nat} {p1 : Int32} {p2 : Int32} {p3 : Int32} {p4 : Int32} {h hz : y_H} {rz : Int32} (hf : f_X8_addOp p0 p1 p2 p3 p4 h = some (rz, hz)) : y_S l G M_X8_addOp rm_X8_addOp [y_p p0, .int p1, .int p2, .int p3, .int p4] h (some (.int rz)) hz := by
  refine y_start (lv := [(0, y_p p0), (1, .int p1), (2, .int p2), (3, .int p3), (4, .int p4)]) (by decide) (by simp [lg_sl, y_p_cat, y_ci, y_cj, M_X8_addOp]) (by simp [lv_args, y_p_cat, y_ci, y_cj]) (fun z ad0 => ?_)
  unfold f_X8_addOp at hf
  refine y_aload_n (x := p0) (pc2 := 1) rfl dX8_addOp_0 rfl ?_
  refine y_iload_n (pc2 := 2) rfl dX8_addOp_1 rfl ?_
  obtain ⟨g29, hf⟩ := y_g hf
  obtain ⟨r1, h2, c3, hf⟩ := y_clE hf
  refine y_callV (As := [.int p1]) (rm := rm_X8_has) (cells := 0) (slots := 0) (pc2 := 5) rfl dX8_addOp_2 n_X8_has l_BoxYard_Tasks_70 i_X8_has e_X8_has (ci := 8) rfl rfl (by decide) g29 rfl rfl (by decide) (by decide) (by decide) (k_X8_has c3) ?_
  refine y_ifz_ne (tgt := 10) (pc2 := 8) rfl dX8_addOp_5 (by decide) (fun c28 => ?_) (fun c28 => ?_)
  · replace hf := y_it c28 hf
    refine y_aload_n (x := p0) (pc2 := 11) rfl dX8_addOp_10 rfl ?_
    obtain ⟨g27, hf⟩ := y_g hf
    refine y_getP (pc2 := 14) rfl dX8_addOp_11 F_BoxYard_Tasks_21 (by decide) rfl g27 ?_
    refine y_iload_n (pc2 := 15) rfl dX8_addOp_14 rfl ?_
    obtain ⟨g26, hf⟩ := y_g hf
    refine y_iald (pc2 := 16) rfl dX8_addOp_15 g26.1 (y_ix_in g26.2) ?_
    refine y_bipush (v := 10) (pc2 := 18) rfl dX8_addOp_16 (by decide) ?_
    refine y_icmp_lt (tgt := 24) (pc2 := 21) rfl dX8_addOp_18 (by decide) (fun c25 => ?_) (fun c25 => ?_)
    · replace hf := y_it c25 hf
      refine y_iload_n (pc2 := 25) rfl dX8_addOp_24 rfl ?_
      refine y_bipush (v := 10) (pc2 := 27) rfl dX8_addOp_25 (by decide) ?_
      refine y_imul (pc2 := 28) rfl dX8_addOp_27 ?_
      refine y_aload_n (x := p0) (pc2 := 29) rfl dX8_addOp_28 rfl ?_
      obtain ⟨g24, hf⟩ := y_g hf
      refine y_getP (pc2 := 32) rfl dX8_addOp_29 F_BoxYard_Tasks_21 (by decide) rfl g24 ?_
      refine y_iload_n (pc2 := 33) rfl dX8_addOp_32 rfl ?_
      obtain ⟨g23, hf⟩ := y_g hf
      refine y_iald (pc2 := 34) rfl dX8_addOp_33 g23.1 (y_ix_in g23.2) ?_
      refine y_iadd (pc2 := 35) rfl dX8_addOp_34 ?_
      refine y_istore (lv' := [(5, .int ((p1 * 10) + (y_I h2 (y_P h2 p0 4) (Int32.toNatClampNeg p1)))), (0, y_p p0), (1, .int p1), (2, .int p2), (3, .int p3), (4, .int p4)]) (pc2 := 37) rfl dX8_addOp_35 (by decide) rfl ?_
      refine y_aload_n (x := p0) (pc2 := 38) rfl dX8_addOp_37 rfl ?_
      obtain ⟨g22, hf⟩ := y_g hf
      refine y_getP (pc2 := 41) rfl dX8_addOp_38 F_BoxYard_Tasks_11 (by decide) rfl g22 ?_
      refine y_iload (pc2 := 43) rfl dX8_addOp_41 rfl ?_
      refine y_iload_n (pc2 := 44) rfl dX8_addOp_43 rfl ?_
      obtain ⟨g6, hf⟩ := y_g hf
      obtain ⟨h4, e5, hf⟩ := y_bdE hf
      refine y_iast (x := p2) (pc2 := 45) rfl dX8_addOp_44 g6.1 (y_ix_in g6.2) e5 ?_
      refine y_aload_n (x := p0) (pc2 := 46) rfl dX8_addOp_45 rfl ?_
      obtain ⟨g21, hf⟩ := y_g hf
      refine y_getP (pc2 := 49) rfl dX8_addOp_46 F_BoxYard_Tasks_15 (by decide) rfl g21 ?_
      refine y_iload (pc2 := 51) rfl dX8_addOp_49 rfl ?_
      refine y_iload_n (pc2 := 52) rfl dX8_addOp_51 rfl ?_
      obtain ⟨g9, hf⟩ := y_g hf
      obtain ⟨h7, e8, hf⟩ := y_bdE hf
      refine y_iast (x := p3) (pc2 := 53) rfl dX8_addOp_52 g9.1 (y_ix_in g9.2) e8 ?_
      refine y_aload_n (x := p0) (pc2 := 54) rfl dX8_addOp_53 rfl ?_
      obtain ⟨g20, hf⟩ := y_g hf
      refine y_getP (pc2 := 57) rfl dX8_addOp_54 F_BoxYard_Tasks_18 (by decide) rfl g20 ?_
      refine y_iload (pc2 := 59) rfl dX8_addOp_57 rfl ?_
      refine y_iload (pc2 := 61) rfl dX8_addOp_59 rfl ?_
      obtain ⟨g12, hf⟩ := y_g hf
      obtain ⟨h10, e11, hf⟩ := y_bdE hf
      refine y_iast (x := p4) (pc2 := 62) rfl dX8_addOp_61 g12.1 (y_ix_in g12.2) e11 ?_
      refine y_aload_n (x := p0) (pc2 := 63) rfl dX8_addOp_62 rfl ?_
      obtain ⟨g19, hf⟩ := y_g hf
      refine y_getP (pc2 := 66) rfl dX8_addOp_63 F_BoxYard_Tasks_21 (by decide) rfl g19 ?_
      refine y_iload_n (pc2 := 67) rfl dX8_addOp_66 rfl ?_
      refine y_dup2 (pc2 := 68) rfl dX8_addOp_67 rfl (y_p_cat _) ?_
      obtain ⟨g18, hf⟩ := y_g hf
      refine y_iald (pc2 := 69) rfl dX8_addOp_68 g18.1 (y_ix_in g18.2) ?_
      refine y_iconst (v := 1) (pc2 := 70) rfl dX8_addOp_69 (by decide) ?_
      refine y_iadd (pc2 := 71) rfl dX8_addOp_70 ?_
      obtain ⟨g15, hf⟩ := y_g hf
      obtain ⟨h13, e14, hf⟩ := y_bdE hf
      refine y_iast (x := (y_I h10 (y_P h10 p0 4) (Int32.toNatClampNeg p1)) + 1) (pc2 := 72) rfl dX8_addOp_71 g15.1 (y_ix_in g15.2) e14 ?_
      refine y_aload_n (x := p0) (pc2 := 73) rfl dX8_addOp_72 rfl ?_
      obtain ⟨g17, hf⟩ := y_g hf
      refine y_getP (pc2 := 76) rfl dX8_addOp_73 F_BoxYard_Tasks_21 (by decide) rfl g17 ?_
      refine y_iload_n (pc2 := 77) rfl dX8_addOp_76 rfl ?_
      obtain ⟨g16, hf⟩ := y_g hf
      refine y_iald (pc2 := 78) rfl dX8_addOp_77 g16.1 (y_ix_in g16.2) ?_
      exact y_iretF hf dX8_addOp_78 rfl (by decide) (by decide)
    · replace hf := y_ie c25 hf
      refine y_bipush (v := (-4 : Int32)) (pc2 := 23) rfl dX8_addOp_21 (by decide) ?_
      exact y_iretF hf dX8_addOp_23 rfl (by decide) (by decide)
  · replace hf := y_ie c28 hf
    refine y_iconst (v := (-1 : Int32)) (pc2 := 9) rfl dX8_addOp_8 (by decide) ?_
    exact y_iretF hf dX8_addOp_9 rfl (by decide) (by decide)
theorem dX8_hasPlace_0 : decode cX8_hasPlace 0 = .ok (.iload_n 1, 1) := by decide +kernel
theorem dX8_hasPlace_1 : decode cX8_hasPlace 1 = .ok (.iconst 0, 1) := by decide +kernel
theorem dX8_hasPlace_2 : decode cX8_hasPlace 2 = .ok (.iconst 3, 1) := by decide +kernel
theorem dX8_hasPlace_3 : decode cX8_hasPlace 3 = .ok (.invokestatic 66, 3) := by decide +kernel
theorem dX8_hasPlace_6 : decode cX8_hasPlace 6 = .ok (.ifCond .eq 23, 3) := by decide +kernel
theorem dX8_hasPlace_9 : decode cX8_hasPlace 9 = .ok (.iload_n 2, 1) := by decide +kernel
theorem dX8_hasPlace_10 : decode cX8_hasPlace 10 = .ok (.iconst 0, 1) := by decide +kernel
theorem dX8_hasPlace_11 : decode cX8_hasPlace 11 = .ok (.aload_n 0, 1) := by decide +kernel
theorem dX8_hasPlace_12 : decode cX8_hasPlace 12 = .ok (.getfield 39, 3) := by decide +kernel
theorem dX8_hasPlace_15 : decode cX8_hasPlace 15 = .ok (.iload_n 1, 1) := by decide +kernel
theorem dX8_hasPlace_16 : decode cX8_hasPlace 16 = .ok (.iaload, 1) := by decide +kernel
theorem dX8_hasPlace_17 : decode cX8_hasPlace 17 = .ok (.iconst 1, 1) := by decide +kernel
theorem dX8_hasPlace_18 : decode cX8_hasPlace 18 = .ok (.isub, 1) := by decide +kernel
theorem dX8_hasPlace_19 : decode cX8_hasPlace 19 = .ok (.invokestatic 66, 3) := by decide +kernel
theorem dX8_hasPlace_22 : decode cX8_hasPlace 22 = .ok (.ifCond .eq 7, 3) := by decide +kernel
theorem dX8_hasPlace_25 : decode cX8_hasPlace 25 = .ok (.iconst 1, 1) := by decide +kernel
theorem dX8_hasPlace_26 : decode cX8_hasPlace 26 = .ok (.goto 4, 3) := by decide +kernel
theorem dX8_hasPlace_29 : decode cX8_hasPlace 29 = .ok (.iconst 0, 1) := by decide +kernel
theorem dX8_hasPlace_30 : decode cX8_hasPlace 30 = .ok (.ireturn, 1) := by decide +kernel
def M_X8_hasPlace : y_M := (yX8_hasPlace, cX8_hasPlace, 3, (Option.some Jvm.ClassFile.FieldType.boolean))
theorem n_X8_hasPlace : y_N0 M_X8_hasPlace 2 := ⟨(c_6 227 (by decide +kernel) rfl), (c_1 8 (by decide +kernel) rfl), ⟨by decide +kernel, by decide +kernel⟩, by decide +kernel⟩
set_option maxRecDepth 100000 in
def f_X8_hasPlace (p0 : Nat) (p1 : Int32) (p2 : Int32) (h : y_H) : Option (Bool × y_H) :=
  y_cl (f_X11_isWithin p1 0 3 h) (fun r1 h2 =>
  y_jn (fun (h4 : y_H) => (
      some (false, h4) : Option (Bool × y_H))) (fun j29 =>
  if r1 = true then
    if y_K h2 p0 = 9 then
    if y_K h2 (y_P h2 p0 13) = 100 ∧ y_ix p1 (y_N h2 (y_P h2 p0 13)) = true then
    y_cl (f_X11_isWithin p2 0 ((y_I h2 (y_P h2 p0 13) (Int32.toNatClampNeg p1)) - 1) h2) (fun r5 h6 =>
    if r5 = true then
      some (true, h6)
    else
      j29 h6)
    else none
    else none
  else
    j29 h2))
abbrev rm_X8_hasPlace : Room := { frames := 1, cells := 0, slots := 0, locals := 22 }
set_option maxRecDepth 100000 in
set_option maxHeartbeats 4000000 in
theorem k_X8_hasPlace {l : Launch} {G : y_G} {p0 : Nat} {p1 : Int32} {p2 : Int32} {h hz : y_H} {rz : Bool} (hf : f_X8_hasPlace p0 p1 p2 h = some (rz, hz)) : y_S l G M_X8_hasPlace rm_X8_hasPlace [y_p p0, .int p1, .int p2] h (some (.int (y_z rz))) hz := by
  refine y_start (lv := [(0, y_p p0), (1, .int p1), (2, .int p2)]) (by decide) (by simp [lg_sl, y_p_cat, y_ci, y_cj, M_X8_hasPlace]) (by simp [lv_args, y_p_cat, y_ci, y_cj]) (fun z ad0 => ?_)
  unfold f_X8_hasPlace at hf
  refine y_iload_n (pc2 := 1) rfl dX8_hasPlace_0 rfl ?_
  refine y_iconst (v := 0) (pc2 := 2) rfl dX8_hasPlace_1 (by decide) ?_
  refine y_iconst (v := 3) (pc2 := 3) rfl dX8_hasPlace_2 (by decide) ?_
  obtain ⟨r1, h2, c3, hf⟩ := y_clE hf
  refine y_callS (As := [.int p1, .int 0, .int 3]) (rm := rm_X11_isWithin) (cells := 0) (slots := 0) (pc2 := 6) rfl dX8_hasPlace_3 n_X11_isWithin l_BoxYard_Tasks_66 t_X11_isWithin rfl rfl (by decide) (by decide) (by decide) (k_X11_isWithin c3) ?_
  refine y_jnE hf (fun j => ∀ (h4 : y_H), j h4 = some (rz, hz) → y_V l G z rm_X8_hasPlace M_X8_hasPlace ad0 h (some (.int (y_z rz))) hz 29 [] [] h4 0 0) (fun h4 hf => ?_) (fun j29 hj29 hf => ?_)
  · refine y_iconst (v := 0) (pc2 := 30) rfl dX8_hasPlace_29 (by decide) ?_
    exact y_zretF (x := false) hf dX8_hasPlace_30 rfl (by decide) (by decide)
  · refine y_ifz_eq (tgt := 29) (pc2 := 9) rfl dX8_hasPlace_6 (by decide) (fun c11 => ?_) (fun c11 => ?_)
    · replace hf := y_ie c11 hf
      exact y_pk [] rfl (hj29 _ hf)
    · replace hf := y_it c11 hf
      refine y_iload_n (pc2 := 10) rfl dX8_hasPlace_9 rfl ?_
      refine y_iconst (v := 0) (pc2 := 11) rfl dX8_hasPlace_10 (by decide) ?_
      refine y_aload_n (x := p0) (pc2 := 12) rfl dX8_hasPlace_11 rfl ?_
      obtain ⟨g10, hf⟩ := y_g hf
      refine y_getP (pc2 := 15) rfl dX8_hasPlace_12 F_BoxYard_Tasks_39 (by decide) rfl g10 ?_
      refine y_iload_n (pc2 := 16) rfl dX8_hasPlace_15 rfl ?_
      obtain ⟨g9, hf⟩ := y_g hf
      refine y_iald (pc2 := 17) rfl dX8_hasPlace_16 g9.1 (y_ix_in g9.2) ?_
      refine y_iconst (v := 1) (pc2 := 18) rfl dX8_hasPlace_17 (by decide) ?_
      refine y_isub (pc2 := 19) rfl dX8_hasPlace_18 ?_
      obtain ⟨r5, h6, c7, hf⟩ := y_clE hf
      refine y_callS (As := [.int p2, .int 0, .int ((y_I h2 (y_P h2 p0 13) (Int32.toNatClampNeg p1)) - 1)]) (rm := rm_X11_isWithin) (cells := 0) (slots := 0) (pc2 := 22) rfl dX8_hasPlace_19 n_X11_isWithin l_BoxYard_Tasks_66 t_X11_isWithin rfl rfl (by decide) (by decide) (by decide) (k_X11_isWithin c7) ?_
      refine y_ifz_eq (tgt := 29) (pc2 := 25) rfl dX8_hasPlace_22 (by decide) (fun c8 => ?_) (fun c8 => ?_)
      · replace hf := y_ie c8 hf
        exact y_pk [] rfl (hj29 _ hf)
      · replace hf := y_it c8 hf
        refine y_iconst (v := 1) (pc2 := 26) rfl dX8_hasPlace_25 (by decide) ?_
        refine y_goto (tgt := 30) dX8_hasPlace_26 (by decide) ?_
        exact y_zretF (x := true) hf dX8_hasPlace_30 rfl (by decide) (by decide)
theorem dX8_told_0 : decode cX8_told 0 = .ok (.aload_n 0, 1) := by decide +kernel
theorem dX8_told_1 : decode cX8_told 1 = .ok (.getfield 52, 3) := by decide +kernel
theorem dX8_told_4 : decode cX8_told 4 = .ok (.ifCond .ne 6, 3) := by decide +kernel
theorem dX8_told_7 : decode cX8_told 7 = .ok (.bipush (-9), 2) := by decide +kernel
theorem dX8_told_9 : decode cX8_told 9 = .ok (.ireturn, 1) := by decide +kernel
theorem dX8_told_10 : decode cX8_told 10 = .ok (.iload_n 1, 1) := by decide +kernel
theorem dX8_told_11 : decode cX8_told 11 = .ok (.tableswitch 40 0 2 #[25, 30, 35], 25) := by decide +kernel
theorem dX8_told_36 : decode cX8_told 36 = .ok (.aload_n 0, 1) := by decide +kernel
theorem dX8_told_37 : decode cX8_told 37 = .ok (.getfield 24, 3) := by decide +kernel
theorem dX8_told_40 : decode cX8_told 40 = .ok (.ireturn, 1) := by decide +kernel
theorem dX8_told_41 : decode cX8_told 41 = .ok (.aload_n 0, 1) := by decide +kernel
theorem dX8_told_42 : decode cX8_told 42 = .ok (.getfield 28, 3) := by decide +kernel
theorem dX8_told_45 : decode cX8_told 45 = .ok (.ireturn, 1) := by decide +kernel
theorem dX8_told_46 : decode cX8_told 46 = .ok (.aload_n 0, 1) := by decide +kernel
theorem dX8_told_47 : decode cX8_told 47 = .ok (.getfield 31, 3) := by decide +kernel
theorem dX8_told_50 : decode cX8_told 50 = .ok (.ireturn, 1) := by decide +kernel
theorem dX8_told_51 : decode cX8_told 51 = .ok (.aload_n 0, 1) := by decide +kernel
theorem dX8_told_52 : decode cX8_told 52 = .ok (.getfield 74, 3) := by decide +kernel
theorem dX8_told_55 : decode cX8_told 55 = .ok (.ireturn, 1) := by decide +kernel
def M_X8_told : y_M := (yX8_told, cX8_told, 2, (Option.some Jvm.ClassFile.FieldType.int))
theorem n_X8_told : y_N0 M_X8_told 1 := ⟨(c_7 14 (by decide +kernel) rfl), (c_1 8 (by decide +kernel) rfl), ⟨by decide +kernel, by decide +kernel⟩, by decide +kernel⟩
theorem F_BoxYard_Tasks_52 : y_F "BoxYard$Tasks" 52 8 6 := ⟨_, _, _, rfl, by decide, Or.inl (c_2 31 (by decide +kernel) rfl)⟩
theorem F_BoxYard_Tasks_24 : y_F "BoxYard$Tasks" 24 8 7 := ⟨_, _, _, rfl, by decide, Or.inl (c_2 32 (by decide +kernel) rfl)⟩
theorem F_BoxYard_Tasks_28 : y_F "BoxYard$Tasks" 28 8 8 := ⟨_, _, _, rfl, by decide, Or.inl (c_2 33 (by decide +kernel) rfl)⟩
theorem F_BoxYard_Tasks_31 : y_F "BoxYard$Tasks" 31 8 11 := ⟨_, _, _, rfl, by decide, Or.inl (c_2 37 (by decide +kernel) rfl)⟩
theorem F_BoxYard_Tasks_74 : y_F "BoxYard$Tasks" 74 8 10 := ⟨_, _, _, rfl, by decide, Or.inl (c_2 36 (by decide +kernel) rfl)⟩
set_option maxRecDepth 100000 in
def f_X8_told (p0 : Nat) (p1 : Int32) (h : y_H) : Option (Int32 × y_H) :=
  if y_K h p0 = 9 then
  if (y_B h p0 6) = true then
    if p1 = 0 then
      if y_K h p0 = 9 then
      some (y_I h p0 7, h)
      else none
    else
    if p1 = 1 then
      if y_K h p0 = 9 then
      some (y_I h p0 8, h)
      else none
    else
    if p1 = 2 then
      if y_K h p0 = 9 then
      some (y_I h p0 11, h)
      else none
    else
    if y_K h p0 = 9 then
    some (y_I h p0 10, h)
    else none
  else
    some ((-9 : Int32), h)
  else none
abbrev rm_X8_told : Room := { frames := 0, cells := 0, slots := 0, locals := 0 }
set_option maxRecDepth 100000 in
set_option maxHeartbeats 4000000 in
theorem k_X8_told {l : Launch} {G : y_G} {p0 : Nat} {p1 : Int32} {h hz : y_H} {rz : Int32} (hf : f_X8_told p0 p1 h = some (rz, hz)) : y_S l G M_X8_told rm_X8_told [y_p p0, .int p1] h (some (.int rz)) hz := by
  refine y_start (lv := [(0, y_p p0), (1, .int p1)]) (by decide) (by simp [lg_sl, y_p_cat, y_ci, y_cj, M_X8_told]) (by simp [lv_args, y_p_cat, y_ci, y_cj]) (fun z ad0 => ?_)
  unfold f_X8_told at hf
  refine y_aload_n (x := p0) (pc2 := 1) rfl dX8_told_0 rfl ?_
  obtain ⟨g9, hf⟩ := y_g hf
  refine y_getZ (pc2 := 4) rfl dX8_told_1 F_BoxYard_Tasks_52 (by decide) rfl g9 ?_
  refine y_ifz_ne (tgt := 10) (pc2 := 7) rfl dX8_told_4 (by decide) (fun c8 => ?_) (fun c8 => ?_)
  · replace hf := y_it c8 hf
    refine y_iload_n (pc2 := 11) rfl dX8_told_10 rfl ?_
    by_cases c1 : p1 = 0
    · replace hf := y_it c1 hf
      refine y_table (off := 25) (tgt := 36) dX8_told_11 (by (rw [c1]) <;> decide) (by decide) ?_
      refine y_aload_n (x := p0) (pc2 := 37) rfl dX8_told_36 rfl ?_
      obtain ⟨g2, hf⟩ := y_g hf
      refine y_getI (pc2 := 40) rfl dX8_told_37 F_BoxYard_Tasks_24 (by decide) rfl g2 ?_
      exact y_iretF hf dX8_told_40 rfl (by decide) (by decide)
    · replace hf := y_ie c1 hf
      by_cases c3 : p1 = 1
      · replace hf := y_it c3 hf
        refine y_table (off := 30) (tgt := 41) dX8_told_11 (by (rw [c3]) <;> decide) (by decide) ?_
        refine y_aload_n (x := p0) (pc2 := 42) rfl dX8_told_41 rfl ?_
        obtain ⟨g4, hf⟩ := y_g hf
        refine y_getI (pc2 := 45) rfl dX8_told_42 F_BoxYard_Tasks_28 (by decide) rfl g4 ?_
        exact y_iretF hf dX8_told_45 rfl (by decide) (by decide)
      · replace hf := y_ie c3 hf
        by_cases c5 : p1 = 2
        · replace hf := y_it c5 hf
          refine y_table (off := 35) (tgt := 46) dX8_told_11 (by (rw [c5]) <;> decide) (by decide) ?_
          refine y_aload_n (x := p0) (pc2 := 47) rfl dX8_told_46 rfl ?_
          obtain ⟨g6, hf⟩ := y_g hf
          refine y_getI (pc2 := 50) rfl dX8_told_47 F_BoxYard_Tasks_31 (by decide) rfl g6 ?_
          exact y_iretF hf dX8_told_50 rfl (by decide) (by decide)
        · replace hf := y_ie c5 hf
          refine y_table (off := 40) (tgt := 51) dX8_told_11 ((if_pos (by have q0 := lv_neT c1 (a := 0) (by decide); have q1 := lv_neT c3 (a := 1) (by decide); have q2 := lv_neT c5 (a := 2) (by decide); omega))) (by decide) ?_
          refine y_aload_n (x := p0) (pc2 := 52) rfl dX8_told_51 rfl ?_
          obtain ⟨g7, hf⟩ := y_g hf
          refine y_getI (pc2 := 55) rfl dX8_told_52 F_BoxYard_Tasks_74 (by decide) rfl g7 ?_
          exact y_iretF hf dX8_told_55 rfl (by decide) (by decide)
  · replace hf := y_ie c8 hf
    refine y_bipush (v := (-9 : Int32)) (pc2 := 9) rfl dX8_told_7 (by decide) ?_
    exact y_iretF hf dX8_told_9 rfl (by decide) (by decide)
theorem dX8_link_0 : decode cX8_link 0 = .ok (.aload_n 0, 1) := by decide +kernel
theorem dX8_link_1 : decode cX8_link 1 = .ok (.iload_n 1, 1) := by decide +kernel
theorem dX8_link_2 : decode cX8_link 2 = .ok (.putfield 24, 3) := by decide +kernel
theorem dX8_link_5 : decode cX8_link 5 = .ok (.aload_n 0, 1) := by decide +kernel
theorem dX8_link_6 : decode cX8_link 6 = .ok (.iload_n 2, 1) := by decide +kernel
theorem dX8_link_7 : decode cX8_link 7 = .ok (.putfield 28, 3) := by decide +kernel
theorem dX8_link_10 : decode cX8_link 10 = .ok (.return_, 1) := by decide +kernel
def M_X8_link : y_M := (yX8_link, cX8_link, 3, (Option.none : Option Jvm.ClassFile.FieldType))
theorem n_X8_link : y_N0 M_X8_link 2 := ⟨(c_6 141 (by decide +kernel) rfl), (c_1 8 (by decide +kernel) rfl), ⟨by decide +kernel, by decide +kernel⟩, by decide +kernel⟩
theorem Fp_BoxYard_Tasks_24 {nm : String} : y_Fp "BoxYard$Tasks" nm 24 8 7 := ⟨_, _, _, rfl, by decide, Or.inl ⟨rfl, Or.inl (c_2 32 (by decide +kernel) rfl)⟩⟩
theorem Fp_BoxYard_Tasks_28 {nm : String} : y_Fp "BoxYard$Tasks" nm 28 8 8 := ⟨_, _, _, rfl, by decide, Or.inl ⟨rfl, Or.inl (c_2 33 (by decide +kernel) rfl)⟩⟩
set_option maxRecDepth 100000 in
def f_X8_link (p0 : Nat) (p1 : Int32) (p2 : Int32) (h : y_H) : Option (Unit × y_H) :=
  if y_K h p0 = 9 then
  y_bd (s_I h p0 7 p1) (fun h1 =>
  if y_K h1 p0 = 9 then
  y_bd (s_I h1 p0 8 p2) (fun h4 =>
  some ((), h4))
  else none)
  else none
abbrev rm_X8_link : Room := { frames := 0, cells := 0, slots := 0, locals := 0 }
set_option maxRecDepth 100000 in
set_option maxHeartbeats 4000000 in
theorem k_X8_link {l : Launch} {G : y_G} {p0 : Nat} {p1 : Int32} {p2 : Int32} {h hz : y_H} {rz : Unit} (hf : f_X8_link p0 p1 p2 h = some (rz, hz)) : y_S l G M_X8_link rm_X8_link [y_p p0, .int p1, .int p2] h none hz := by
  refine y_start (lv := [(0, y_p p0), (1, .int p1), (2, .int p2)]) (by decide) (by simp [lg_sl, y_p_cat, y_ci, y_cj, M_X8_link]) (by simp [lv_args, y_p_cat, y_ci, y_cj]) (fun z ad0 => ?_)
  unfold f_X8_link at hf
  refine y_aload_n (x := p0) (pc2 := 1) rfl dX8_link_0 rfl ?_
  refine y_iload_n (pc2 := 2) rfl dX8_link_1 rfl ?_
  obtain ⟨g3, hf⟩ := y_g hf
  obtain ⟨h1, e2, hf⟩ := y_bdE hf
  refine y_putI (x := p1) (pc2 := 5) rfl dX8_link_2 Fp_BoxYard_Tasks_24 (by decide) rfl g3 e2 ?_
  refine y_aload_n (x := p0) (pc2 := 6) rfl dX8_link_5 rfl ?_
  refine y_iload_n (pc2 := 7) rfl dX8_link_6 rfl ?_
  obtain ⟨g6, hf⟩ := y_g hf
  obtain ⟨h4, e5, hf⟩ := y_bdE hf
  refine y_putI (x := p2) (pc2 := 10) rfl dX8_link_7 Fp_BoxYard_Tasks_28 (by decide) rfl g6 e5 ?_
  exact y_vretF hf dX8_link_10 rfl (by decide) (by decide)
theorem dX8_behind_0 : decode cX8_behind 0 = .ok (.iload_n 0, 1) := by decide +kernel
theorem dX8_behind_1 : decode cX8_behind 1 = .ok (.iconst 0, 1) := by decide +kernel
theorem dX8_behind_2 : decode cX8_behind 2 = .ok (.iload_n 1, 1) := by decide +kernel
theorem dX8_behind_3 : decode cX8_behind 3 = .ok (.iload_n 2, 1) := by decide +kernel
theorem dX8_behind_4 : decode cX8_behind 4 = .ok (.iload_n 0, 1) := by decide +kernel
theorem dX8_behind_5 : decode cX8_behind 5 = .ok (.isub, 1) := by decide +kernel
theorem dX8_behind_6 : decode cX8_behind 6 = .ok (.invokestatic 95, 3) := by decide +kernel
theorem dX8_behind_9 : decode cX8_behind 9 = .ok (.invokestatic 100, 3) := by decide +kernel
theorem dX8_behind_12 : decode cX8_behind 12 = .ok (.iadd, 1) := by decide +kernel
theorem dX8_behind_13 : decode cX8_behind 13 = .ok (.ireturn, 1) := by decide +kernel
def M_X8_behind : y_M := (yX8_behind, cX8_behind, 3, (Option.some Jvm.ClassFile.FieldType.int))
theorem n_X8_behind : y_N0 M_X8_behind 3 := ⟨(c_6 148 (by decide +kernel) rfl), (c_1 8 (by decide +kernel) rfl), ⟨by decide +kernel, by decide +kernel⟩, by decide +kernel⟩
theorem l_BoxYard_Tasks_95 : Cond.methodLink "BoxYard$Tasks" 95 Lib.Math.min.name ∈ y_tb := (c_6 149 (by decide +kernel) rfl)
theorem l_BoxYard_Tasks_100 : Cond.methodLink "BoxYard$Tasks" 100 Lib.Math.max.name ∈ y_tb := (c_6 150 (by decide +kernel) rfl)
set_option maxRecDepth 100000 in
def f_X8_behind (p0 : Int32) (p1 : Int32) (p2 : Int32) (h : y_H) : Option (Int32 × y_H) :=
  some (p0 + (y_mx 0 (y_mn p1 (p2 - p0))), h)
abbrev rm_X8_behind : Room := { frames := 1, cells := 0, slots := 0, locals := 21 }
set_option maxRecDepth 100000 in
set_option maxHeartbeats 4000000 in
theorem k_X8_behind {l : Launch} {G : y_G} {p0 : Int32} {p1 : Int32} {p2 : Int32} {h hz : y_H} {rz : Int32} (hf : f_X8_behind p0 p1 p2 h = some (rz, hz)) : y_S l G M_X8_behind rm_X8_behind [.int p0, .int p1, .int p2] h (some (.int rz)) hz := by
  refine y_start (lv := [(0, .int p0), (1, .int p1), (2, .int p2)]) (by decide) (by simp [lg_sl, y_p_cat, y_ci, y_cj, M_X8_behind]) (by simp [lv_args, y_p_cat, y_ci, y_cj]) (fun z ad0 => ?_)
  unfold f_X8_behind at hf
  refine y_iload_n (pc2 := 1) rfl dX8_behind_0 rfl ?_
  refine y_iconst (v := 0) (pc2 := 2) rfl dX8_behind_1 (by decide) ?_
  refine y_iload_n (pc2 := 3) rfl dX8_behind_2 rfl ?_
  refine y_iload_n (pc2 := 4) rfl dX8_behind_3 rfl ?_
  refine y_iload_n (pc2 := 5) rfl dX8_behind_4 rfl ?_
  refine y_isub (pc2 := 6) rfl dX8_behind_5 ?_
  refine y_mmn (pc2 := 9) rfl dX8_behind_6 l_BoxYard_Tasks_95 (by decide) (by decide) (by simp [y_ci, y_cj, y_p_cat]) (by decide) (by decide) ?_
  refine y_mmx (pc2 := 12) rfl dX8_behind_9 l_BoxYard_Tasks_100 (by decide) (by decide) (by simp [y_ci, y_cj, y_p_cat]) (by decide) (by decide) ?_
  refine y_iadd (pc2 := 13) rfl dX8_behind_12 ?_
  exact y_iretF hf dX8_behind_13 rfl (by decide) (by decide)
theorem dX8_tried_0 : decode cX8_tried 0 = .ok (.iload_n 2, 1) := by decide +kernel
theorem dX8_tried_1 : decode cX8_tried 1 = .ok (.ifCond .eq 15, 3) := by decide +kernel
theorem dX8_tried_4 : decode cX8_tried 4 = .ok (.iload_n 1, 1) := by decide +kernel
theorem dX8_tried_5 : decode cX8_tried 5 = .ok (.ifCond .eq 13, 3) := by decide +kernel
theorem dX8_tried_8 : decode cX8_tried 8 = .ok (.iload_n 1, 1) := by decide +kernel
theorem dX8_tried_9 : decode cX8_tried 9 = .ok (.iload_n 2, 1) := by decide +kernel
theorem dX8_tried_10 : decode cX8_tried 10 = .ok (.bipush 8, 2) := by decide +kernel
theorem dX8_tried_12 : decode cX8_tried 12 = .ok (.irem, 1) := by decide +kernel
theorem dX8_tried_13 : decode cX8_tried 13 = .ok (.if_icmp .eq 5, 3) := by decide +kernel
theorem dX8_tried_16 : decode cX8_tried 16 = .ok (.iload_n 2, 1) := by decide +kernel
theorem dX8_tried_17 : decode cX8_tried 17 = .ok (.ireturn, 1) := by decide +kernel
theorem dX8_tried_18 : decode cX8_tried 18 = .ok (.aload_n 0, 1) := by decide +kernel
theorem dX8_tried_19 : decode cX8_tried 19 = .ok (.iload_n 2, 1) := by decide +kernel
theorem dX8_tried_20 : decode cX8_tried 20 = .ok (.bipush 8, 2) := by decide +kernel
theorem dX8_tried_22 : decode cX8_tried 22 = .ok (.irem, 1) := by decide +kernel
theorem dX8_tried_23 : decode cX8_tried 23 = .ok (.i2l, 1) := by decide +kernel
theorem dX8_tried_24 : decode cX8_tried 24 = .ok (.putfield 56, 3) := by decide +kernel
theorem dX8_tried_27 : decode cX8_tried 27 = .ok (.iconst 0, 1) := by decide +kernel
theorem dX8_tried_28 : decode cX8_tried 28 = .ok (.ireturn, 1) := by decide +kernel
def M_X8_tried : y_M := (yX8_tried, cX8_tried, 3, (Option.some Jvm.ClassFile.FieldType.int))
theorem n_X8_tried : y_N0 M_X8_tried 2 := ⟨(c_6 156 (by decide +kernel) rfl), (c_1 8 (by decide +kernel) rfl), ⟨by decide +kernel, by decide +kernel⟩, by decide +kernel⟩
set_option maxRecDepth 100000 in
def f_X8_tried (p0 : Nat) (p1 : Int32) (p2 : Int32) (h : y_H) : Option (Int32 × y_H) :=
  y_jn (fun (v2_16 : Int32) (h1 : y_H) => (
      some (v2_16, h1) : Option (Int32 × y_H))) (fun j16 =>
  if p2 = 0 then
    j16 p2 h
  else
    y_jn (fun (v0_18 : Nat) (v2_18 : Int32) (h2 : y_H) => (
        if y_K h2 v0_18 = 9 then
        y_bd (s_L h2 v0_18 9 (Int32.toInt64 (y_rem v2_18 8))) (fun h3 =>
        some (0, h3))
        else none : Option (Int32 × y_H))) (fun j18 =>
    if p1 = 0 then
      j18 p0 p2 h
    else
      if p1 = (y_rem p2 8) then
        j18 p0 p2 h
      else
        j16 p2 h))
abbrev rm_X8_tried : Room := { frames := 0, cells := 0, slots := 0, locals := 0 }
set_option maxRecDepth 100000 in
set_option maxHeartbeats 4000000 in
theorem k_X8_tried {l : Launch} {G : y_G} {p0 : Nat} {p1 : Int32} {p2 : Int32} {h hz : y_H} {rz : Int32} (hf : f_X8_tried p0 p1 p2 h = some (rz, hz)) : y_S l G M_X8_tried rm_X8_tried [y_p p0, .int p1, .int p2] h (some (.int rz)) hz := by
  refine y_start (lv := [(0, y_p p0), (1, .int p1), (2, .int p2)]) (by decide) (by simp [lg_sl, y_p_cat, y_ci, y_cj, M_X8_tried]) (by simp [lv_args, y_p_cat, y_ci, y_cj]) (fun z ad0 => ?_)
  unfold f_X8_tried at hf
  refine y_iload_n (pc2 := 1) rfl dX8_tried_0 rfl ?_
  refine y_jnE hf (fun j => ∀ (v2_16 : Int32) (h1 : y_H), j v2_16 h1 = some (rz, hz) → y_V l G z rm_X8_tried M_X8_tried ad0 h (some (.int rz)) hz 16 [(2, .int v2_16)] [] h1 0 0) (fun v2_16 h1 hf => ?_) (fun j16 hj16 hf => ?_)
  · refine y_iload_n (pc2 := 17) rfl dX8_tried_16 rfl ?_
    exact y_iretF hf dX8_tried_17 rfl (by decide) (by decide)
  · refine y_if_eq (tgt := 16) (pc2 := 4) rfl dX8_tried_1 (by decide) (fun c8 => ?_) (fun c8 => ?_)
    · replace hf := y_it c8 hf
      exact y_pk [2] rfl (hj16 _ _ hf)
    · replace hf := y_ie c8 hf
      refine y_iload_n (pc2 := 5) rfl dX8_tried_4 rfl ?_
      refine y_jnE hf (fun j => ∀ (v0_18 : Nat) (v2_18 : Int32) (h2 : y_H), j v0_18 v2_18 h2 = some (rz, hz) → y_V l G z rm_X8_tried M_X8_tried ad0 h (some (.int rz)) hz 18 [(0, y_p v0_18), (2, .int v2_18)] [] h2 0 0) (fun v0_18 v2_18 h2 hf => ?_) (fun j18 hj18 hf => ?_)
      · refine y_aload_n (x := v0_18) (pc2 := 19) rfl dX8_tried_18 rfl ?_
        refine y_iload_n (pc2 := 20) rfl dX8_tried_19 rfl ?_
        refine y_bipush (v := 8) (pc2 := 22) rfl dX8_tried_20 (by decide) ?_
        refine y_rm (pc2 := 23) rfl dX8_tried_22 (by decide) ?_
        refine y_i2l (pc2 := 24) rfl dX8_tried_23 ?_
        obtain ⟨g5, hf⟩ := y_g hf
        obtain ⟨h3, e4, hf⟩ := y_bdE hf
        refine y_putL (x := Int32.toInt64 (y_rem v2_18 8)) (pc2 := 27) rfl dX8_tried_24 Fp_BoxYard_Tasks_56 (by decide) rfl g5 e4 ?_
        refine y_iconst (v := 0) (pc2 := 28) rfl dX8_tried_27 (by decide) ?_
        exact y_iretF hf dX8_tried_28 rfl (by decide) (by decide)
      · refine y_if_eq (tgt := 18) (pc2 := 8) rfl dX8_tried_5 (by decide) (fun c7 => ?_) (fun c7 => ?_)
        · replace hf := y_it c7 hf
          exact y_pk [0, 2] rfl (hj18 _ _ _ hf)
        · replace hf := y_ie c7 hf
          refine y_iload_n (pc2 := 9) rfl dX8_tried_8 rfl ?_
          refine y_iload_n (pc2 := 10) rfl dX8_tried_9 rfl ?_
          refine y_bipush (v := 8) (pc2 := 12) rfl dX8_tried_10 (by decide) ?_
          refine y_rm (pc2 := 13) rfl dX8_tried_12 (by decide) ?_
          refine y_icmp_eq (tgt := 18) (pc2 := 16) rfl dX8_tried_13 (by decide) (fun c6 => ?_) (fun c6 => ?_)
          · replace hf := y_it c6 hf
            exact y_pk [0, 2] rfl (hj18 _ _ _ hf)
          · replace hf := y_ie c6 hf
            exact y_pk [2] rfl (hj16 _ _ hf)
theorem dX8_linkBox_0 : decode cX8_linkBox 0 = .ok (.aload_n 0, 1) := by decide +kernel
theorem dX8_linkBox_1 : decode cX8_linkBox 1 = .ok (.aload_n 1, 1) := by decide +kernel
theorem dX8_linkBox_2 : decode cX8_linkBox 2 = .ok (.ifnonnull 8, 3) := by decide +kernel
theorem dX8_linkBox_5 : decode cX8_linkBox 5 = .ok (.bipush (-9), 2) := by decide +kernel
theorem dX8_linkBox_7 : decode cX8_linkBox 7 = .ok (.goto 4, 3) := by decide +kernel
theorem dX8_linkBox_10 : decode cX8_linkBox 10 = .ok (.iconst 0, 1) := by decide +kernel
theorem dX8_linkBox_11 : decode cX8_linkBox 11 = .ok (.aload_n 1, 1) := by decide +kernel
theorem dX8_linkBox_12 : decode cX8_linkBox 12 = .ok (.bipush (-9), 2) := by decide +kernel
theorem dX8_linkBox_14 : decode cX8_linkBox 14 = .ok (.invokestatic 156, 3) := by decide +kernel
theorem dX8_linkBox_17 : decode cX8_linkBox 17 = .ok (.invokevirtual 77, 3) := by decide +kernel
theorem dX8_linkBox_20 : decode cX8_linkBox 20 = .ok (.iconst 0, 1) := by decide +kernel
theorem dX8_linkBox_21 : decode cX8_linkBox 21 = .ok (.ireturn, 1) := by decide +kernel
def M_X8_linkBox : y_M := (yX8_linkBox, cX8_linkBox, 2, (Option.some Jvm.ClassFile.FieldType.int))
theorem n_X8_linkBox : y_N0 M_X8_linkBox 1 := ⟨(c_6 165 (by decide +kernel) rfl), (c_1 8 (by decide +kernel) rfl), ⟨by decide +kernel, by decide +kernel⟩, by decide +kernel⟩
theorem l_BoxYard_Tasks_156 : y_lnk "BoxYard$Tasks" 156 M_X11_numberOf := Or.inr ⟨"BoxYard", (c_6 166 (by decide +kernel) rfl)⟩
theorem l_BoxYard_Tasks_77 : y_lnk "BoxYard$Tasks" 77 M_X8_link := Or.inl (c_6 138 (by decide +kernel) rfl)
theorem i_X8_link : Cond.instanceMethod (M_X8_link).1 ∈ y_tb := (c_6 140 (by decide +kernel) rfl)
theorem e_X8_link : Cond.selects (M_X8_link).1.cls (M_X8_link).1 (M_X8_link).1 ∈ y_tb := (m_s 34 (by decide +kernel) rfl)
set_option maxRecDepth 100000 in
def f_X8_linkBox (p0 : Nat) (p1 : Nat) (h : y_H) : Option (Int32 × y_H) :=
  if p1 = 0 then
    y_cl (f_X11_numberOf p1 (-9 : Int32) h) (fun r7 h8 =>
    if y_K h8 p0 = 9 then
    y_cl (f_X8_link p0 (-9 : Int32) r7 h8) (fun _ h10 =>
    some (0, h10))
    else none)
  else
    y_cl (f_X11_numberOf p1 (-9 : Int32) h) (fun r1 h2 =>
    if y_K h2 p0 = 9 then
    y_cl (f_X8_link p0 0 r1 h2) (fun _ h4 =>
    some (0, h4))
    else none)
abbrev rm_X8_linkBox : Room := { frames := 1, cells := 0, slots := 0, locals := 22 }
set_option maxRecDepth 100000 in
set_option maxHeartbeats 4000000 in
theorem k_X8_linkBox {l : Launch} {G : y_G} {p0 : Nat} {p1 : Nat} {h hz : y_H} {rz : Int32} (hf : f_X8_linkBox p0 p1 h = some (rz, hz)) : y_S l G M_X8_linkBox rm_X8_linkBox [y_p p0, y_p p1] h (some (.int rz)) hz := by
  refine y_start (lv := [(0, y_p p0), (1, y_p p1)]) (by decide) (by simp [lg_sl, y_p_cat, y_ci, y_cj, M_X8_linkBox]) (by simp [lv_args, y_p_cat, y_ci, y_cj]) (fun z ad0 => ?_)
  unfold f_X8_linkBox at hf
  refine y_aload_n (x := p0) (pc2 := 1) rfl dX8_linkBox_0 rfl ?_
  refine y_aload_n (x := p1) (pc2 := 2) rfl dX8_linkBox_1 rfl ?_
  refine y_ifnonnull (tgt := 10) (pc2 := 5) rfl dX8_linkBox_2 (by decide) (fun c13 => ?_) (fun c13 => ?_)
  · replace hf := y_ie c13 hf
    refine y_iconst (v := 0) (pc2 := 11) rfl dX8_linkBox_10 (by decide) ?_
    refine y_aload_n (x := p1) (pc2 := 12) rfl dX8_linkBox_11 rfl ?_
    refine y_bipush (v := (-9 : Int32)) (pc2 := 14) rfl dX8_linkBox_12 (by decide) ?_
    obtain ⟨r1, h2, c3, hf⟩ := y_clE hf
    refine y_callS (As := [y_p p1, .int (-9 : Int32)]) (rm := rm_X11_numberOf) (cells := 0) (slots := 0) (pc2 := 17) rfl dX8_linkBox_14 n_X11_numberOf l_BoxYard_Tasks_156 t_X11_numberOf rfl rfl (by decide) (by simp [y_ci, y_cj, y_p_cat]) (by decide) (k_X11_numberOf c3) ?_
    obtain ⟨g6, hf⟩ := y_g hf
    obtain ⟨r_, h4, c5, hf⟩ := y_clE hf
    refine y_callV (As := [.int 0, .int r1]) (rm := rm_X8_link) (cells := 0) (slots := 0) (pc2 := 20) rfl dX8_linkBox_17 n_X8_link l_BoxYard_Tasks_77 i_X8_link e_X8_link (ci := 8) rfl rfl (by decide) g6 rfl rfl (by decide) (by decide) (by decide) (k_X8_link c5) ?_
    refine y_iconst (v := 0) (pc2 := 21) rfl dX8_linkBox_20 (by decide) ?_
    exact y_iretF hf dX8_linkBox_21 rfl (by decide) (by decide)
  · replace hf := y_it c13 hf
    refine y_bipush (v := (-9 : Int32)) (pc2 := 7) rfl dX8_linkBox_5 (by decide) ?_
    refine y_goto (tgt := 11) dX8_linkBox_7 (by decide) ?_
    refine y_aload_n (x := p1) (pc2 := 12) rfl dX8_linkBox_11 rfl ?_
    refine y_bipush (v := (-9 : Int32)) (pc2 := 14) rfl dX8_linkBox_12 (by decide) ?_
    obtain ⟨r7, h8, c9, hf⟩ := y_clE hf
    refine y_callS (As := [y_p p1, .int (-9 : Int32)]) (rm := rm_X11_numberOf) (cells := 0) (slots := 0) (pc2 := 17) rfl dX8_linkBox_14 n_X11_numberOf l_BoxYard_Tasks_156 t_X11_numberOf rfl rfl (by decide) (by simp [y_ci, y_cj, y_p_cat]) (by decide) (k_X11_numberOf c9) ?_
    obtain ⟨g12, hf⟩ := y_g hf
    obtain ⟨r_, h10, c11, hf⟩ := y_clE hf
    refine y_callV (As := [.int (-9 : Int32), .int r7]) (rm := rm_X8_link) (cells := 0) (slots := 0) (pc2 := 20) rfl dX8_linkBox_17 n_X8_link l_BoxYard_Tasks_77 i_X8_link e_X8_link (ci := 8) rfl rfl (by decide) g12 rfl rfl (by decide) (by decide) (by decide) (k_X8_link c11) ?_
    refine y_iconst (v := 0) (pc2 := 21) rfl dX8_linkBox_20 (by decide) ?_
    exact y_iretF hf dX8_linkBox_21 rfl (by decide) (by decide)
theorem dX8_linkCrane_0 : decode cX8_linkCrane 0 = .ok (.aload_n 0, 1) := by decide +kernel
theorem dX8_linkCrane_1 : decode cX8_linkCrane 1 = .ok (.aload_n 1, 1) := by decide +kernel
theorem dX8_linkCrane_2 : decode cX8_linkCrane 2 = .ok (.ifnonnull 8, 3) := by decide +kernel
theorem dX8_linkCrane_5 : decode cX8_linkCrane 5 = .ok (.bipush (-9), 2) := by decide +kernel
theorem dX8_linkCrane_7 : decode cX8_linkCrane 7 = .ok (.goto 4, 3) := by decide +kernel
theorem dX8_linkCrane_10 : decode cX8_linkCrane 10 = .ok (.iconst 1, 1) := by decide +kernel
theorem dX8_linkCrane_11 : decode cX8_linkCrane 11 = .ok (.aload_n 1, 1) := by decide +kernel
theorem dX8_linkCrane_12 : decode cX8_linkCrane 12 = .ok (.ifnonnull 8, 3) := by decide +kernel
theorem dX8_linkCrane_15 : decode cX8_linkCrane 15 = .ok (.bipush (-9), 2) := by decide +kernel
theorem dX8_linkCrane_17 : decode cX8_linkCrane 17 = .ok (.goto 7, 3) := by decide +kernel
theorem dX8_linkCrane_20 : decode cX8_linkCrane 20 = .ok (.aload_n 1, 1) := by decide +kernel
theorem dX8_linkCrane_21 : decode cX8_linkCrane 21 = .ok (.getfield 160, 3) := by decide +kernel
theorem dX8_linkCrane_24 : decode cX8_linkCrane 24 = .ok (.invokevirtual 77, 3) := by decide +kernel
theorem dX8_linkCrane_27 : decode cX8_linkCrane 27 = .ok (.iconst 0, 1) := by decide +kernel
theorem dX8_linkCrane_28 : decode cX8_linkCrane 28 = .ok (.ireturn, 1) := by decide +kernel
def M_X8_linkCrane : y_M := (yX8_linkCrane, cX8_linkCrane, 2, (Option.some Jvm.ClassFile.FieldType.int))
theorem n_X8_linkCrane : y_N0 M_X8_linkCrane 1 := ⟨(c_6 171 (by decide +kernel) rfl), (c_1 8 (by decide +kernel) rfl), ⟨by decide +kernel, by decide +kernel⟩, by decide +kernel⟩
theorem F_BoxYard_Tasks_160 : y_F "BoxYard$Tasks" 160 3 0 := ⟨_, _, _, rfl, by decide, Or.inr ⟨"BoxYard", (c_3 183 (by decide +kernel) rfl)⟩⟩
set_option maxRecDepth 100000 in
def f_X8_linkCrane (p0 : Nat) (p1 : Nat) (h : y_H) : Option (Int32 × y_H) :=
  if p1 = 0 then
    if p1 = 0 then
      if y_K h p0 = 9 then
      y_cl (f_X8_link p0 (-9 : Int32) (-9 : Int32) h) (fun _ h13 =>
      some (0, h13))
      else none
    else
      if y_K h p1 = 4 then
      if y_K h p0 = 9 then
      y_cl (f_X8_link p0 (-9 : Int32) (y_I h p1 0) h) (fun _ h9 =>
      some (0, h9))
      else none
      else none
  else
    if p1 = 0 then
      if y_K h p0 = 9 then
      y_cl (f_X8_link p0 1 (-9 : Int32) h) (fun _ h5 =>
      some (0, h5))
      else none
    else
      if y_K h p1 = 4 then
      if y_K h p0 = 9 then
      y_cl (f_X8_link p0 1 (y_I h p1 0) h) (fun _ h1 =>
      some (0, h1))
      else none
      else none
abbrev rm_X8_linkCrane : Room := { frames := 1, cells := 0, slots := 0, locals := 22 }
set_option maxRecDepth 100000 in
set_option maxHeartbeats 4000000 in
theorem k_X8_linkCrane {l : Launch} {G : y_G} {p0 : Nat} {p1 : Nat} {h hz : y_H} {rz : Int32} (hf : f_X8_linkCrane p0 p1 h = some (rz, hz)) : y_S l G M_X8_linkCrane rm_X8_linkCrane [y_p p0, y_p p1] h (some (.int rz)) hz := by
  refine y_start (lv := [(0, y_p p0), (1, y_p p1)]) (by decide) (by simp [lg_sl, y_p_cat, y_ci, y_cj, M_X8_linkCrane]) (by simp [lv_args, y_p_cat, y_ci, y_cj]) (fun z ad0 => ?_)
  unfold f_X8_linkCrane at hf
  refine y_aload_n (x := p0) (pc2 := 1) rfl dX8_linkCrane_0 rfl ?_
  refine y_aload_n (x := p1) (pc2 := 2) rfl dX8_linkCrane_1 rfl ?_
  refine y_ifnonnull (tgt := 10) (pc2 := 5) rfl dX8_linkCrane_2 (by decide) (fun c17 => ?_) (fun c17 => ?_)
  · replace hf := y_ie c17 hf
    refine y_iconst (v := 1) (pc2 := 11) rfl dX8_linkCrane_10 (by decide) ?_
    refine y_aload_n (x := p1) (pc2 := 12) rfl dX8_linkCrane_11 rfl ?_
    refine y_ifnonnull (tgt := 20) (pc2 := 15) rfl dX8_linkCrane_12 (by decide) (fun c8 => ?_) (fun c8 => ?_)
    · replace hf := y_ie c8 hf
      refine y_aload_n (x := p1) (pc2 := 21) rfl dX8_linkCrane_20 rfl ?_
      obtain ⟨g4, hf⟩ := y_g hf
      refine y_getI (pc2 := 24) rfl dX8_linkCrane_21 F_BoxYard_Tasks_160 (by decide) rfl g4 ?_
      obtain ⟨g3, hf⟩ := y_g hf
      obtain ⟨r_, h1, c2, hf⟩ := y_clE hf
      refine y_callV (As := [.int 1, .int (y_I h p1 0)]) (rm := rm_X8_link) (cells := 0) (slots := 0) (pc2 := 27) rfl dX8_linkCrane_24 n_X8_link l_BoxYard_Tasks_77 i_X8_link e_X8_link (ci := 8) rfl rfl (by decide) g3 rfl rfl (by decide) (by decide) (by decide) (k_X8_link c2) ?_
      refine y_iconst (v := 0) (pc2 := 28) rfl dX8_linkCrane_27 (by decide) ?_
      exact y_iretF hf dX8_linkCrane_28 rfl (by decide) (by decide)
    · replace hf := y_it c8 hf
      refine y_bipush (v := (-9 : Int32)) (pc2 := 17) rfl dX8_linkCrane_15 (by decide) ?_
      refine y_goto (tgt := 24) dX8_linkCrane_17 (by decide) ?_
      obtain ⟨g7, hf⟩ := y_g hf
      obtain ⟨r_, h5, c6, hf⟩ := y_clE hf
      refine y_callV (As := [.int 1, .int (-9 : Int32)]) (rm := rm_X8_link) (cells := 0) (slots := 0) (pc2 := 27) rfl dX8_linkCrane_24 n_X8_link l_BoxYard_Tasks_77 i_X8_link e_X8_link (ci := 8) rfl rfl (by decide) g7 rfl rfl (by decide) (by decide) (by decide) (k_X8_link c6) ?_
      refine y_iconst (v := 0) (pc2 := 28) rfl dX8_linkCrane_27 (by decide) ?_
      exact y_iretF hf dX8_linkCrane_28 rfl (by decide) (by decide)
  · replace hf := y_it c17 hf
    refine y_bipush (v := (-9 : Int32)) (pc2 := 7) rfl dX8_linkCrane_5 (by decide) ?_
    refine y_goto (tgt := 11) dX8_linkCrane_7 (by decide) ?_
    refine y_aload_n (x := p1) (pc2 := 12) rfl dX8_linkCrane_11 rfl ?_
    refine y_ifnonnull (tgt := 20) (pc2 := 15) rfl dX8_linkCrane_12 (by decide) (fun c16 => ?_) (fun c16 => ?_)
    · replace hf := y_ie c16 hf
      refine y_aload_n (x := p1) (pc2 := 21) rfl dX8_linkCrane_20 rfl ?_
      obtain ⟨g12, hf⟩ := y_g hf
      refine y_getI (pc2 := 24) rfl dX8_linkCrane_21 F_BoxYard_Tasks_160 (by decide) rfl g12 ?_
      obtain ⟨g11, hf⟩ := y_g hf
      obtain ⟨r_, h9, c10, hf⟩ := y_clE hf
      refine y_callV (As := [.int (-9 : Int32), .int (y_I h p1 0)]) (rm := rm_X8_link) (cells := 0) (slots := 0) (pc2 := 27) rfl dX8_linkCrane_24 n_X8_link l_BoxYard_Tasks_77 i_X8_link e_X8_link (ci := 8) rfl rfl (by decide) g11 rfl rfl (by decide) (by decide) (by decide) (k_X8_link c10) ?_
      refine y_iconst (v := 0) (pc2 := 28) rfl dX8_linkCrane_27 (by decide) ?_
      exact y_iretF hf dX8_linkCrane_28 rfl (by decide) (by decide)
    · replace hf := y_it c16 hf
      refine y_bipush (v := (-9 : Int32)) (pc2 := 17) rfl dX8_linkCrane_15 (by decide) ?_
      refine y_goto (tgt := 24) dX8_linkCrane_17 (by decide) ?_
      obtain ⟨g15, hf⟩ := y_g hf
      obtain ⟨r_, h13, c14, hf⟩ := y_clE hf
      refine y_callV (As := [.int (-9 : Int32), .int (-9 : Int32)]) (rm := rm_X8_link) (cells := 0) (slots := 0) (pc2 := 27) rfl dX8_linkCrane_24 n_X8_link l_BoxYard_Tasks_77 i_X8_link e_X8_link (ci := 8) rfl rfl (by decide) g15 rfl rfl (by decide) (by decide) (by decide) (k_X8_link c14) ?_
      refine y_iconst (v := 0) (pc2 := 28) rfl dX8_linkCrane_27 (by decide) ?_
      exact y_iretF hf dX8_linkCrane_28 rfl (by decide) (by decide)
theorem dX10_bayAt_0 : decode cX10_bayAt 0 = .ok (.iload_n 1, 1) := by decide +kernel
theorem dX10_bayAt_1 : decode cX10_bayAt 1 = .ok (.iconst 0, 1) := by decide +kernel
theorem dX10_bayAt_2 : decode cX10_bayAt 2 = .ok (.bipush 9, 2) := by decide +kernel
theorem dX10_bayAt_4 : decode cX10_bayAt 4 = .ok (.invokestatic 86, 3) := by decide +kernel
theorem dX10_bayAt_7 : decode cX10_bayAt 7 = .ok (.ifCond .eq 24, 3) := by decide +kernel
theorem dX10_bayAt_10 : decode cX10_bayAt 10 = .ok (.aload_n 0, 1) := by decide +kernel
theorem dX10_bayAt_11 : decode cX10_bayAt 11 = .ok (.getfield 19, 3) := by decide +kernel
theorem dX10_bayAt_14 : decode cX10_bayAt 14 = .ok (.iload_n 1, 1) := by decide +kernel
theorem dX10_bayAt_15 : decode cX10_bayAt 15 = .ok (.aaload, 1) := by decide +kernel
theorem dX10_bayAt_16 : decode cX10_bayAt 16 = .ok (.ifnull 15, 3) := by decide +kernel
theorem dX10_bayAt_19 : decode cX10_bayAt 19 = .ok (.aload_n 0, 1) := by decide +kernel
theorem dX10_bayAt_20 : decode cX10_bayAt 20 = .ok (.getfield 19, 3) := by decide +kernel
theorem dX10_bayAt_23 : decode cX10_bayAt 23 = .ok (.iload_n 1, 1) := by decide +kernel
theorem dX10_bayAt_24 : decode cX10_bayAt 24 = .ok (.aaload, 1) := by decide +kernel
theorem dX10_bayAt_25 : decode cX10_bayAt 25 = .ok (.getfield 77, 3) := by decide +kernel
theorem dX10_bayAt_28 : decode cX10_bayAt 28 = .ok (.ifCond .ne 5, 3) := by decide +kernel
theorem dX10_bayAt_31 : decode cX10_bayAt 31 = .ok (.aconst_null, 1) := by decide +kernel
theorem dX10_bayAt_32 : decode cX10_bayAt 32 = .ok (.areturn, 1) := by decide +kernel
theorem dX10_bayAt_33 : decode cX10_bayAt 33 = .ok (.aload_n 0, 1) := by decide +kernel
theorem dX10_bayAt_34 : decode cX10_bayAt 34 = .ok (.getfield 19, 3) := by decide +kernel
theorem dX10_bayAt_37 : decode cX10_bayAt 37 = .ok (.iload_n 1, 1) := by decide +kernel
theorem dX10_bayAt_38 : decode cX10_bayAt 38 = .ok (.aaload, 1) := by decide +kernel
theorem dX10_bayAt_39 : decode cX10_bayAt 39 = .ok (.areturn, 1) := by decide +kernel
def M_X10_bayAt : y_M := (yX10_bayAt, cX10_bayAt, 2, (Option.some (Jvm.ClassFile.FieldType.object "BoxYard$Bay")))
theorem n_X10_bayAt : y_N0 M_X10_bayAt 1 := ⟨(c_3 43 (by decide +kernel) rfl), (c_1 2 (by decide +kernel) rfl), ⟨by decide +kernel, by decide +kernel⟩, by decide +kernel⟩
theorem F_BoxYard_Yard_19 : y_F "BoxYard$Yard" 19 10 2 := ⟨_, _, _, rfl, by decide, Or.inl (c_1 61 (by decide +kernel) rfl)⟩
theorem F_BoxYard_Yard_77 : y_F "BoxYard$Yard" 77 1 5 := ⟨_, _, _, rfl, by decide, Or.inr ⟨"BoxYard", (c_3 76 (by decide +kernel) rfl)⟩⟩
set_option maxRecDepth 100000 in
def f_X10_bayAt (p0 : Nat) (p1 : Int32) (h : y_H) : Option (Nat × y_H) :=
  y_cl (f_X11_isWithin p1 0 9 h) (fun r1 h2 =>
  y_jn (fun (h4 : y_H) => (
      some (0, h4) : Option (Nat × y_H))) (fun j31 =>
  if r1 = true then
    if y_K h2 p0 = 11 then
    if y_K h2 (y_P h2 p0 2) = 104 ∧ y_ix p1 (y_N h2 (y_P h2 p0 2)) = true then
    if (y_P h2 (y_P h2 p0 2) (Int32.toNatClampNeg p1)) = 0 then
      j31 h2
    else
      if y_K h2 p0 = 11 then
      if y_K h2 (y_P h2 p0 2) = 104 ∧ y_ix p1 (y_N h2 (y_P h2 p0 2)) = true then
      if y_K h2 (y_P h2 (y_P h2 p0 2) (Int32.toNatClampNeg p1)) = 2 then
      if (y_B h2 (y_P h2 (y_P h2 p0 2) (Int32.toNatClampNeg p1)) 5) = true then
        if y_K h2 p0 = 11 then
        if y_K h2 (y_P h2 p0 2) = 104 ∧ y_ix p1 (y_N h2 (y_P h2 p0 2)) = true then
        some (y_P h2 (y_P h2 p0 2) (Int32.toNatClampNeg p1), h2)
        else none
        else none
      else
        j31 h2
      else none
      else none
      else none
    else none
    else none
  else
    j31 h2))
abbrev rm_X10_bayAt : Room := { frames := 1, cells := 0, slots := 0, locals := 22 }
set_option maxRecDepth 100000 in
set_option maxHeartbeats 4000000 in
theorem k_X10_bayAt {l : Launch} {G : y_G} {p0 : Nat} {p1 : Int32} {h hz : y_H} {rz : Nat} (hf : f_X10_bayAt p0 p1 h = some (rz, hz)) : y_S l G M_X10_bayAt rm_X10_bayAt [y_p p0, .int p1] h (some (y_p rz)) hz := by
  refine y_start (lv := [(0, y_p p0), (1, .int p1)]) (by decide) (by simp [lg_sl, y_p_cat, y_ci, y_cj, M_X10_bayAt]) (by simp [lv_args, y_p_cat, y_ci, y_cj]) (fun z ad0 => ?_)
  unfold f_X10_bayAt at hf
  refine y_iload_n (pc2 := 1) rfl dX10_bayAt_0 rfl ?_
  refine y_iconst (v := 0) (pc2 := 2) rfl dX10_bayAt_1 (by decide) ?_
  refine y_bipush (v := 9) (pc2 := 4) rfl dX10_bayAt_2 (by decide) ?_
  obtain ⟨r1, h2, c3, hf⟩ := y_clE hf
  refine y_callS (As := [.int p1, .int 0, .int 9]) (rm := rm_X11_isWithin) (cells := 0) (slots := 0) (pc2 := 7) rfl dX10_bayAt_4 n_X11_isWithin l_BoxYard_Yard_86 t_X11_isWithin rfl rfl (by decide) (by decide) (by decide) (k_X11_isWithin c3) ?_
  refine y_jnE hf (fun j => ∀ (h4 : y_H), j h4 = some (rz, hz) → y_V l G z rm_X10_bayAt M_X10_bayAt ad0 h (some (y_p rz)) hz 31 [] [] h4 0 0) (fun h4 hf => ?_) (fun j31 hj31 hf => ?_)
  · refine y_null (pc2 := 32) rfl dX10_bayAt_31 ?_
    exact y_aretF hf dX10_bayAt_32 rfl (Or.inl ⟨_, rfl⟩) (by decide) (by decide)
  · refine y_ifz_eq (tgt := 31) (pc2 := 10) rfl dX10_bayAt_7 (by decide) (fun c14 => ?_) (fun c14 => ?_)
    · replace hf := y_ie c14 hf
      exact y_pk [] rfl (hj31 _ hf)
    · replace hf := y_it c14 hf
      refine y_aload_n (x := p0) (pc2 := 11) rfl dX10_bayAt_10 rfl ?_
      obtain ⟨g13, hf⟩ := y_g hf
      refine y_getP (pc2 := 14) rfl dX10_bayAt_11 F_BoxYard_Yard_19 (by decide) rfl g13 ?_
      refine y_iload_n (pc2 := 15) rfl dX10_bayAt_14 rfl ?_
      obtain ⟨g12, hf⟩ := y_g hf
      refine y_aald (t := 4) (pc2 := 16) rfl dX10_bayAt_15 (by decide) rfl g12.1 (y_ix_in g12.2) ?_
      refine y_ifnull (tgt := 31) (pc2 := 19) rfl dX10_bayAt_16 (by decide) (fun c11 => ?_) (fun c11 => ?_)
      · replace hf := y_it c11 hf
        exact y_pk [] rfl (hj31 _ hf)
      · replace hf := y_ie c11 hf
        refine y_aload_n (x := p0) (pc2 := 20) rfl dX10_bayAt_19 rfl ?_
        obtain ⟨g10, hf⟩ := y_g hf
        refine y_getP (pc2 := 23) rfl dX10_bayAt_20 F_BoxYard_Yard_19 (by decide) rfl g10 ?_
        refine y_iload_n (pc2 := 24) rfl dX10_bayAt_23 rfl ?_
        obtain ⟨g9, hf⟩ := y_g hf
        refine y_aald (t := 4) (pc2 := 25) rfl dX10_bayAt_24 (by decide) rfl g9.1 (y_ix_in g9.2) ?_
        obtain ⟨g8, hf⟩ := y_g hf
        refine y_getZ (pc2 := 28) rfl dX10_bayAt_25 F_BoxYard_Yard_77 (by decide) rfl g8 ?_
        refine y_ifz_ne (tgt := 33) (pc2 := 31) rfl dX10_bayAt_28 (by decide) (fun c7 => ?_) (fun c7 => ?_)
        · replace hf := y_it c7 hf
          refine y_aload_n (x := p0) (pc2 := 34) rfl dX10_bayAt_33 rfl ?_
          obtain ⟨g6, hf⟩ := y_g hf
          refine y_getP (pc2 := 37) rfl dX10_bayAt_34 F_BoxYard_Yard_19 (by decide) rfl g6 ?_
          refine y_iload_n (pc2 := 38) rfl dX10_bayAt_37 rfl ?_
          obtain ⟨g5, hf⟩ := y_g hf
          refine y_aald (t := 4) (pc2 := 39) rfl dX10_bayAt_38 (by decide) rfl g5.1 (y_ix_in g5.2) ?_
          exact y_aretF hf dX10_bayAt_39 rfl (Or.inl ⟨_, rfl⟩) (by decide) (by decide)
        · replace hf := y_ie c7 hf
          exact y_pk [] rfl (hj31 _ hf)
theorem dX8_linkBay_0 : decode cX8_linkBay 0 = .ok (.aload_n 0, 1) := by decide +kernel
theorem dX8_linkBay_1 : decode cX8_linkBay 1 = .ok (.getfield 42, 3) := by decide +kernel
theorem dX8_linkBay_4 : decode cX8_linkBay 4 = .ok (.iload_n 1, 1) := by decide +kernel
theorem dX8_linkBay_5 : decode cX8_linkBay 5 = .ok (.invokevirtual 165, 3) := by decide +kernel
theorem dX8_linkBay_8 : decode cX8_linkBay 8 = .ok (.ifnull 7, 3) := by decide +kernel
theorem dX8_linkBay_11 : decode cX8_linkBay 11 = .ok (.iconst 1, 1) := by decide +kernel
theorem dX8_linkBay_12 : decode cX8_linkBay 12 = .ok (.goto 4, 3) := by decide +kernel
theorem dX8_linkBay_15 : decode cX8_linkBay 15 = .ok (.iconst 0, 1) := by decide +kernel
theorem dX8_linkBay_16 : decode cX8_linkBay 16 = .ok (.istore_n 2, 1) := by decide +kernel
theorem dX8_linkBay_17 : decode cX8_linkBay 17 = .ok (.aload_n 0, 1) := by decide +kernel
theorem dX8_linkBay_18 : decode cX8_linkBay 18 = .ok (.iload_n 2, 1) := by decide +kernel
theorem dX8_linkBay_19 : decode cX8_linkBay 19 = .ok (.ifCond .eq 7, 3) := by decide +kernel
theorem dX8_linkBay_22 : decode cX8_linkBay 22 = .ok (.iconst 2, 1) := by decide +kernel
theorem dX8_linkBay_23 : decode cX8_linkBay 23 = .ok (.goto 5, 3) := by decide +kernel
theorem dX8_linkBay_26 : decode cX8_linkBay 26 = .ok (.bipush (-9), 2) := by decide +kernel
theorem dX8_linkBay_28 : decode cX8_linkBay 28 = .ok (.iload_n 2, 1) := by decide +kernel
theorem dX8_linkBay_29 : decode cX8_linkBay 29 = .ok (.ifCond .eq 7, 3) := by decide +kernel
theorem dX8_linkBay_32 : decode cX8_linkBay 32 = .ok (.iload_n 1, 1) := by decide +kernel
theorem dX8_linkBay_33 : decode cX8_linkBay 33 = .ok (.goto 5, 3) := by decide +kernel
theorem dX8_linkBay_36 : decode cX8_linkBay 36 = .ok (.bipush (-9), 2) := by decide +kernel
theorem dX8_linkBay_38 : decode cX8_linkBay 38 = .ok (.invokevirtual 77, 3) := by decide +kernel
theorem dX8_linkBay_41 : decode cX8_linkBay 41 = .ok (.iconst 0, 1) := by decide +kernel
theorem dX8_linkBay_42 : decode cX8_linkBay 42 = .ok (.ireturn, 1) := by decide +kernel
def M_X8_linkBay : y_M := (yX8_linkBay, cX8_linkBay, 3, (Option.some Jvm.ClassFile.FieldType.int))
theorem n_X8_linkBay : y_N0 M_X8_linkBay 1 := ⟨(c_6 175 (by decide +kernel) rfl), (c_1 8 (by decide +kernel) rfl), ⟨by decide +kernel, by decide +kernel⟩, by decide +kernel⟩
theorem F_BoxYard_Tasks_42 : y_F "BoxYard$Tasks" 42 8 0 := ⟨_, _, _, rfl, by decide, Or.inl (c_2 24 (by decide +kernel) rfl)⟩
theorem l_BoxYard_Tasks_165 : y_lnk "BoxYard$Tasks" 165 M_X10_bayAt := Or.inl (c_6 176 (by decide +kernel) rfl)
theorem i_X10_bayAt : Cond.instanceMethod (M_X10_bayAt).1 ∈ y_tb := (c_3 41 (by decide +kernel) rfl)
theorem e_X10_bayAt : Cond.selects (M_X10_bayAt).1.cls (M_X10_bayAt).1 (M_X10_bayAt).1 ∈ y_tb := (c_3 42 (by decide +kernel) rfl)
set_option maxRecDepth 100000 in
def f_X8_linkBay (p0 : Nat) (p1 : Int32) (h : y_H) : Option (Int32 × y_H) :=
  if y_K h p0 = 9 then
  if y_K h (y_P h p0 0) = 11 then
  y_cl (f_X10_bayAt (y_P h p0 0) p1 h) (fun r1 h2 =>
  if r1 = 0 then
    if (0 : Int32) = 0 then
      if (0 : Int32) = 0 then
        if y_K h2 p0 = 9 then
        y_cl (f_X8_link p0 (-9 : Int32) (-9 : Int32) h2) (fun _ h4 =>
        some (0, h4))
        else none
      else
        if y_K h2 p0 = 9 then
        y_cl (f_X8_link p0 (-9 : Int32) p1 h2) (fun _ h7 =>
        some (0, h7))
        else none
    else
      if (0 : Int32) = 0 then
        if y_K h2 p0 = 9 then
        y_cl (f_X8_link p0 2 (-9 : Int32) h2) (fun _ h11 =>
        some (0, h11))
        else none
      else
        if y_K h2 p0 = 9 then
        y_cl (f_X8_link p0 2 p1 h2) (fun _ h14 =>
        some (0, h14))
        else none
  else
    if (1 : Int32) = 0 then
      if (1 : Int32) = 0 then
        if y_K h2 p0 = 9 then
        y_cl (f_X8_link p0 (-9 : Int32) (-9 : Int32) h2) (fun _ h19 =>
        some (0, h19))
        else none
      else
        if y_K h2 p0 = 9 then
        y_cl (f_X8_link p0 (-9 : Int32) p1 h2) (fun _ h22 =>
        some (0, h22))
        else none
    else
      if (1 : Int32) = 0 then
        if y_K h2 p0 = 9 then
        y_cl (f_X8_link p0 2 (-9 : Int32) h2) (fun _ h26 =>
        some (0, h26))
        else none
      else
        if y_K h2 p0 = 9 then
        y_cl (f_X8_link p0 2 p1 h2) (fun _ h29 =>
        some (0, h29))
        else none)
  else none
  else none
abbrev rm_X8_linkBay : Room := { frames := 2, cells := 0, slots := 0, locals := 43 }
set_option maxRecDepth 100000 in
set_option maxHeartbeats 4000000 in
theorem k_X8_linkBay {l : Launch} {G : y_G} {p0 : Nat} {p1 : Int32} {h hz : y_H} {rz : Int32} (hf : f_X8_linkBay p0 p1 h = some (rz, hz)) : y_S l G M_X8_linkBay rm_X8_linkBay [y_p p0, .int p1] h (some (.int rz)) hz := by
  refine y_start (lv := [(0, y_p p0), (1, .int p1)]) (by decide) (by simp [lg_sl, y_p_cat, y_ci, y_cj, M_X8_linkBay]) (by simp [lv_args, y_p_cat, y_ci, y_cj]) (fun z ad0 => ?_)
  unfold f_X8_linkBay at hf
  refine y_aload_n (x := p0) (pc2 := 1) rfl dX8_linkBay_0 rfl ?_
  obtain ⟨g36, hf⟩ := y_g hf
  refine y_getP (pc2 := 4) rfl dX8_linkBay_1 F_BoxYard_Tasks_42 (by decide) rfl g36 ?_
  refine y_iload_n (pc2 := 5) rfl dX8_linkBay_4 rfl ?_
  obtain ⟨g35, hf⟩ := y_g hf
  obtain ⟨r1, h2, c3, hf⟩ := y_clE hf
  refine y_callV (As := [.int p1]) (rm := rm_X10_bayAt) (cells := 0) (slots := 0) (pc2 := 8) rfl dX8_linkBay_5 n_X10_bayAt l_BoxYard_Tasks_165 i_X10_bayAt e_X10_bayAt (ci := 10) rfl rfl (by decide) g35 rfl rfl (by decide) (by decide) (by decide) (k_X10_bayAt c3) ?_
  refine y_ifnull (tgt := 15) (pc2 := 11) rfl dX8_linkBay_8 (by decide) (fun c34 => ?_) (fun c34 => ?_)
  · replace hf := y_it c34 hf
    refine y_iconst (v := 0) (pc2 := 16) rfl dX8_linkBay_15 (by decide) ?_
    refine y_istore_n (lv' := [(2, .int 0), (0, y_p p0), (1, .int p1)]) (pc2 := 17) rfl dX8_linkBay_16 (by decide) rfl ?_
    refine y_aload_n (x := p0) (pc2 := 18) rfl dX8_linkBay_17 rfl ?_
    refine y_iload_n (pc2 := 19) rfl dX8_linkBay_18 rfl ?_
    refine y_if_eq (tgt := 26) (pc2 := 22) rfl dX8_linkBay_19 (by decide) (fun c18 => ?_) (fun c18 => ?_)
    · replace hf := y_it c18 hf
      refine y_bipush (v := (-9 : Int32)) (pc2 := 28) rfl dX8_linkBay_26 (by decide) ?_
      refine y_iload_n (pc2 := 29) rfl dX8_linkBay_28 rfl ?_
      refine y_if_eq (tgt := 36) (pc2 := 32) rfl dX8_linkBay_29 (by decide) (fun c10 => ?_) (fun c10 => ?_)
      · replace hf := y_it c10 hf
        refine y_bipush (v := (-9 : Int32)) (pc2 := 38) rfl dX8_linkBay_36 (by decide) ?_
        obtain ⟨g6, hf⟩ := y_g hf
        obtain ⟨r_, h4, c5, hf⟩ := y_clE hf
        refine y_callV (As := [.int (-9 : Int32), .int (-9 : Int32)]) (rm := rm_X8_link) (cells := 0) (slots := 0) (pc2 := 41) rfl dX8_linkBay_38 n_X8_link l_BoxYard_Tasks_77 i_X8_link e_X8_link (ci := 8) rfl rfl (by decide) g6 rfl rfl (by decide) (by decide) (by decide) (k_X8_link c5) ?_
        refine y_iconst (v := 0) (pc2 := 42) rfl dX8_linkBay_41 (by decide) ?_
        exact y_iretF hf dX8_linkBay_42 rfl (by decide) (by decide)
      · replace hf := y_ie c10 hf
        refine y_iload_n (pc2 := 33) rfl dX8_linkBay_32 rfl ?_
        refine y_goto (tgt := 38) dX8_linkBay_33 (by decide) ?_
        obtain ⟨g9, hf⟩ := y_g hf
        obtain ⟨r_, h7, c8, hf⟩ := y_clE hf
        refine y_callV (As := [.int (-9 : Int32), .int p1]) (rm := rm_X8_link) (cells := 0) (slots := 0) (pc2 := 41) rfl dX8_linkBay_38 n_X8_link l_BoxYard_Tasks_77 i_X8_link e_X8_link (ci := 8) rfl rfl (by decide) g9 rfl rfl (by decide) (by decide) (by decide) (k_X8_link c8) ?_
        refine y_iconst (v := 0) (pc2 := 42) rfl dX8_linkBay_41 (by decide) ?_
        exact y_iretF hf dX8_linkBay_42 rfl (by decide) (by decide)
    · replace hf := y_ie c18 hf
      refine y_iconst (v := 2) (pc2 := 23) rfl dX8_linkBay_22 (by decide) ?_
      refine y_goto (tgt := 28) dX8_linkBay_23 (by decide) ?_
      refine y_iload_n (pc2 := 29) rfl dX8_linkBay_28 rfl ?_
      refine y_if_eq (tgt := 36) (pc2 := 32) rfl dX8_linkBay_29 (by decide) (fun c17 => ?_) (fun c17 => ?_)
      · replace hf := y_it c17 hf
        refine y_bipush (v := (-9 : Int32)) (pc2 := 38) rfl dX8_linkBay_36 (by decide) ?_
        obtain ⟨g13, hf⟩ := y_g hf
        obtain ⟨r_, h11, c12, hf⟩ := y_clE hf
        refine y_callV (As := [.int 2, .int (-9 : Int32)]) (rm := rm_X8_link) (cells := 0) (slots := 0) (pc2 := 41) rfl dX8_linkBay_38 n_X8_link l_BoxYard_Tasks_77 i_X8_link e_X8_link (ci := 8) rfl rfl (by decide) g13 rfl rfl (by decide) (by decide) (by decide) (k_X8_link c12) ?_
        refine y_iconst (v := 0) (pc2 := 42) rfl dX8_linkBay_41 (by decide) ?_
        exact y_iretF hf dX8_linkBay_42 rfl (by decide) (by decide)
      · replace hf := y_ie c17 hf
        refine y_iload_n (pc2 := 33) rfl dX8_linkBay_32 rfl ?_
        refine y_goto (tgt := 38) dX8_linkBay_33 (by decide) ?_
        obtain ⟨g16, hf⟩ := y_g hf
        obtain ⟨r_, h14, c15, hf⟩ := y_clE hf
        refine y_callV (As := [.int 2, .int p1]) (rm := rm_X8_link) (cells := 0) (slots := 0) (pc2 := 41) rfl dX8_linkBay_38 n_X8_link l_BoxYard_Tasks_77 i_X8_link e_X8_link (ci := 8) rfl rfl (by decide) g16 rfl rfl (by decide) (by decide) (by decide) (k_X8_link c15) ?_
        refine y_iconst (v := 0) (pc2 := 42) rfl dX8_linkBay_41 (by decide) ?_
        exact y_iretF hf dX8_linkBay_42 rfl (by decide) (by decide)
  · replace hf := y_ie c34 hf
    refine y_iconst (v := 1) (pc2 := 12) rfl dX8_linkBay_11 (by decide) ?_
    refine y_goto (tgt := 16) dX8_linkBay_12 (by decide) ?_
    refine y_istore_n (lv' := [(2, .int 1), (0, y_p p0), (1, .int p1)]) (pc2 := 17) rfl dX8_linkBay_16 (by decide) rfl ?_
    refine y_aload_n (x := p0) (pc2 := 18) rfl dX8_linkBay_17 rfl ?_
    refine y_iload_n (pc2 := 19) rfl dX8_linkBay_18 rfl ?_
    refine y_if_eq (tgt := 26) (pc2 := 22) rfl dX8_linkBay_19 (by decide) (fun c33 => ?_) (fun c33 => ?_)
    · replace hf := y_it c33 hf
      refine y_bipush (v := (-9 : Int32)) (pc2 := 28) rfl dX8_linkBay_26 (by decide) ?_
      refine y_iload_n (pc2 := 29) rfl dX8_linkBay_28 rfl ?_
      refine y_if_eq (tgt := 36) (pc2 := 32) rfl dX8_linkBay_29 (by decide) (fun c25 => ?_) (fun c25 => ?_)
      · replace hf := y_it c25 hf
        refine y_bipush (v := (-9 : Int32)) (pc2 := 38) rfl dX8_linkBay_36 (by decide) ?_
        obtain ⟨g21, hf⟩ := y_g hf
        obtain ⟨r_, h19, c20, hf⟩ := y_clE hf
        refine y_callV (As := [.int (-9 : Int32), .int (-9 : Int32)]) (rm := rm_X8_link) (cells := 0) (slots := 0) (pc2 := 41) rfl dX8_linkBay_38 n_X8_link l_BoxYard_Tasks_77 i_X8_link e_X8_link (ci := 8) rfl rfl (by decide) g21 rfl rfl (by decide) (by decide) (by decide) (k_X8_link c20) ?_
        refine y_iconst (v := 0) (pc2 := 42) rfl dX8_linkBay_41 (by decide) ?_
        exact y_iretF hf dX8_linkBay_42 rfl (by decide) (by decide)
      · replace hf := y_ie c25 hf
        refine y_iload_n (pc2 := 33) rfl dX8_linkBay_32 rfl ?_
        refine y_goto (tgt := 38) dX8_linkBay_33 (by decide) ?_
        obtain ⟨g24, hf⟩ := y_g hf
        obtain ⟨r_, h22, c23, hf⟩ := y_clE hf
        refine y_callV (As := [.int (-9 : Int32), .int p1]) (rm := rm_X8_link) (cells := 0) (slots := 0) (pc2 := 41) rfl dX8_linkBay_38 n_X8_link l_BoxYard_Tasks_77 i_X8_link e_X8_link (ci := 8) rfl rfl (by decide) g24 rfl rfl (by decide) (by decide) (by decide) (k_X8_link c23) ?_
        refine y_iconst (v := 0) (pc2 := 42) rfl dX8_linkBay_41 (by decide) ?_
        exact y_iretF hf dX8_linkBay_42 rfl (by decide) (by decide)
    · replace hf := y_ie c33 hf
      refine y_iconst (v := 2) (pc2 := 23) rfl dX8_linkBay_22 (by decide) ?_
      refine y_goto (tgt := 28) dX8_linkBay_23 (by decide) ?_
      refine y_iload_n (pc2 := 29) rfl dX8_linkBay_28 rfl ?_
      refine y_if_eq (tgt := 36) (pc2 := 32) rfl dX8_linkBay_29 (by decide) (fun c32 => ?_) (fun c32 => ?_)
      · replace hf := y_it c32 hf
        refine y_bipush (v := (-9 : Int32)) (pc2 := 38) rfl dX8_linkBay_36 (by decide) ?_
        obtain ⟨g28, hf⟩ := y_g hf
        obtain ⟨r_, h26, c27, hf⟩ := y_clE hf
        refine y_callV (As := [.int 2, .int (-9 : Int32)]) (rm := rm_X8_link) (cells := 0) (slots := 0) (pc2 := 41) rfl dX8_linkBay_38 n_X8_link l_BoxYard_Tasks_77 i_X8_link e_X8_link (ci := 8) rfl rfl (by decide) g28 rfl rfl (by decide) (by decide) (by decide) (k_X8_link c27) ?_
        refine y_iconst (v := 0) (pc2 := 42) rfl dX8_linkBay_41 (by decide) ?_
        exact y_iretF hf dX8_linkBay_42 rfl (by decide) (by decide)
      · replace hf := y_ie c32 hf
        refine y_iload_n (pc2 := 33) rfl dX8_linkBay_32 rfl ?_
        refine y_goto (tgt := 38) dX8_linkBay_33 (by decide) ?_
        obtain ⟨g31, hf⟩ := y_g hf
        obtain ⟨r_, h29, c30, hf⟩ := y_clE hf
        refine y_callV (As := [.int 2, .int p1]) (rm := rm_X8_link) (cells := 0) (slots := 0) (pc2 := 41) rfl dX8_linkBay_38 n_X8_link l_BoxYard_Tasks_77 i_X8_link e_X8_link (ci := 8) rfl rfl (by decide) g31 rfl rfl (by decide) (by decide) (by decide) (k_X8_link c30) ?_
        refine y_iconst (v := 0) (pc2 := 42) rfl dX8_linkBay_41 (by decide) ?_
        exact y_iretF hf dX8_linkBay_42 rfl (by decide) (by decide)
theorem dX8_asKind_0 : decode cX8_asKind 0 = .ok (.aload_n 0, 1) := by decide +kernel
theorem dX8_asKind_1 : decode cX8_asKind 1 = .ok (.getfield 24, 3) := by decide +kernel
theorem dX8_asKind_4 : decode cX8_asKind 4 = .ok (.iload_n 1, 1) := by decide +kernel
theorem dX8_asKind_5 : decode cX8_asKind 5 = .ok (.if_icmp .ne 5, 3) := by decide +kernel
theorem dX8_asKind_8 : decode cX8_asKind 8 = .ok (.iconst 0, 1) := by decide +kernel
theorem dX8_asKind_9 : decode cX8_asKind 9 = .ok (.ireturn, 1) := by decide +kernel
theorem dX8_asKind_10 : decode cX8_asKind 10 = .ok (.aload_n 0, 1) := by decide +kernel
theorem dX8_asKind_11 : decode cX8_asKind 11 = .ok (.getfield 24, 3) := by decide +kernel
theorem dX8_asKind_14 : decode cX8_asKind 14 = .ok (.bipush (-9), 2) := by decide +kernel
theorem dX8_asKind_16 : decode cX8_asKind 16 = .ok (.if_icmp .ne 7, 3) := by decide +kernel
theorem dX8_asKind_19 : decode cX8_asKind 19 = .ok (.iconst 3, 1) := by decide +kernel
theorem dX8_asKind_20 : decode cX8_asKind 20 = .ok (.goto 4, 3) := by decide +kernel
theorem dX8_asKind_23 : decode cX8_asKind 23 = .ok (.iconst 5, 1) := by decide +kernel
theorem dX8_asKind_24 : decode cX8_asKind 24 = .ok (.ireturn, 1) := by decide +kernel
def M_X8_asKind : y_M := (yX8_asKind, cX8_asKind, 2, (Option.some Jvm.ClassFile.FieldType.int))
theorem n_X8_asKind : y_N0 M_X8_asKind 1 := ⟨(c_6 184 (by decide +kernel) rfl), (c_1 8 (by decide +kernel) rfl), ⟨by decide +kernel, by decide +kernel⟩, by decide +kernel⟩
set_option maxRecDepth 100000 in
def f_X8_asKind (p0 : Nat) (p1 : Int32) (h : y_H) : Option (Int32 × y_H) :=
  if y_K h p0 = 9 then
  if (y_I h p0 7) = p1 then
    some (0, h)
  else
    if y_K h p0 = 9 then
    if (y_I h p0 7) = (-9 : Int32) then
      some (3, h)
    else
      some (5, h)
    else none
  else none
abbrev rm_X8_asKind : Room := { frames := 0, cells := 0, slots := 0, locals := 0 }
set_option maxRecDepth 100000 in
set_option maxHeartbeats 4000000 in
theorem k_X8_asKind {l : Launch} {G : y_G} {p0 : Nat} {p1 : Int32} {h hz : y_H} {rz : Int32} (hf : f_X8_asKind p0 p1 h = some (rz, hz)) : y_S l G M_X8_asKind rm_X8_asKind [y_p p0, .int p1] h (some (.int rz)) hz := by
  refine y_start (lv := [(0, y_p p0), (1, .int p1)]) (by decide) (by simp [lg_sl, y_p_cat, y_ci, y_cj, M_X8_asKind]) (by simp [lv_args, y_p_cat, y_ci, y_cj]) (fun z ad0 => ?_)
  unfold f_X8_asKind at hf
  refine y_aload_n (x := p0) (pc2 := 1) rfl dX8_asKind_0 rfl ?_
  obtain ⟨g4, hf⟩ := y_g hf
  refine y_getI (pc2 := 4) rfl dX8_asKind_1 F_BoxYard_Tasks_24 (by decide) rfl g4 ?_
  refine y_iload_n (pc2 := 5) rfl dX8_asKind_4 rfl ?_
  refine y_icmp_ne (tgt := 10) (pc2 := 8) rfl dX8_asKind_5 (by decide) (fun c3 => ?_) (fun c3 => ?_)
  · replace hf := y_ie c3 hf
    refine y_aload_n (x := p0) (pc2 := 11) rfl dX8_asKind_10 rfl ?_
    obtain ⟨g2, hf⟩ := y_g hf
    refine y_getI (pc2 := 14) rfl dX8_asKind_11 F_BoxYard_Tasks_24 (by decide) rfl g2 ?_
    refine y_bipush (v := (-9 : Int32)) (pc2 := 16) rfl dX8_asKind_14 (by decide) ?_
    refine y_icmp_ne (tgt := 23) (pc2 := 19) rfl dX8_asKind_16 (by decide) (fun c1 => ?_) (fun c1 => ?_)
    · replace hf := y_ie c1 hf
      refine y_iconst (v := 5) (pc2 := 24) rfl dX8_asKind_23 (by decide) ?_
      exact y_iretF hf dX8_asKind_24 rfl (by decide) (by decide)
    · replace hf := y_it c1 hf
      refine y_iconst (v := 3) (pc2 := 20) rfl dX8_asKind_19 (by decide) ?_
      refine y_goto (tgt := 24) dX8_asKind_20 (by decide) ?_
      exact y_iretF hf dX8_asKind_24 rfl (by decide) (by decide)
  · replace hf := y_it c3 hf
    refine y_iconst (v := 0) (pc2 := 9) rfl dX8_asKind_8 (by decide) ?_
    exact y_iretF hf dX8_asKind_9 rfl (by decide) (by decide)
theorem dX8_linkTop_0 : decode cX8_linkTop 0 = .ok (.aload_n 0, 1) := by decide +kernel
theorem dX8_linkTop_1 : decode cX8_linkTop 1 = .ok (.getfield 42, 3) := by decide +kernel
theorem dX8_linkTop_4 : decode cX8_linkTop 4 = .ok (.aload_n 0, 1) := by decide +kernel
theorem dX8_linkTop_5 : decode cX8_linkTop 5 = .ok (.getfield 28, 3) := by decide +kernel
theorem dX8_linkTop_8 : decode cX8_linkTop 8 = .ok (.invokevirtual 165, 3) := by decide +kernel
theorem dX8_linkTop_11 : decode cX8_linkTop 11 = .ok (.astore_n 2, 1) := by decide +kernel
theorem dX8_linkTop_12 : decode cX8_linkTop 12 = .ok (.aload_n 0, 1) := by decide +kernel
theorem dX8_linkTop_13 : decode cX8_linkTop 13 = .ok (.iconst 2, 1) := by decide +kernel
theorem dX8_linkTop_14 : decode cX8_linkTop 14 = .ok (.invokevirtual 169, 3) := by decide +kernel
theorem dX8_linkTop_17 : decode cX8_linkTop 17 = .ok (.istore_n 3, 1) := by decide +kernel
theorem dX8_linkTop_18 : decode cX8_linkTop 18 = .ok (.iload_n 3, 1) := by decide +kernel
theorem dX8_linkTop_19 : decode cX8_linkTop 19 = .ok (.ifCond .ne 7, 3) := by decide +kernel
theorem dX8_linkTop_22 : decode cX8_linkTop 22 = .ok (.aload_n 2, 1) := by decide +kernel
theorem dX8_linkTop_23 : decode cX8_linkTop 23 = .ok (.ifnonnull 5, 3) := by decide +kernel
theorem dX8_linkTop_26 : decode cX8_linkTop 26 = .ok (.iload_n 3, 1) := by decide +kernel
theorem dX8_linkTop_27 : decode cX8_linkTop 27 = .ok (.ireturn, 1) := by decide +kernel
theorem dX8_linkTop_28 : decode cX8_linkTop 28 = .ok (.aload_n 2, 1) := by decide +kernel
theorem dX8_linkTop_29 : decode cX8_linkTop 29 = .ok (.iload_n 1, 1) := by decide +kernel
theorem dX8_linkTop_30 : decode cX8_linkTop 30 = .ok (.invokevirtual 172, 3) := by decide +kernel
theorem dX8_linkTop_33 : decode cX8_linkTop 33 = .ok (.ifCond .eq 15, 3) := by decide +kernel
theorem dX8_linkTop_36 : decode cX8_linkTop 36 = .ok (.aload_n 0, 1) := by decide +kernel
theorem dX8_linkTop_37 : decode cX8_linkTop 37 = .ok (.aload_n 2, 1) := by decide +kernel
theorem dX8_linkTop_38 : decode cX8_linkTop 38 = .ok (.iload_n 1, 1) := by decide +kernel
theorem dX8_linkTop_39 : decode cX8_linkTop 39 = .ok (.invokevirtual 177, 3) := by decide +kernel
theorem dX8_linkTop_42 : decode cX8_linkTop 42 = .ok (.invokevirtual 109, 3) := by decide +kernel
theorem dX8_linkTop_45 : decode cX8_linkTop 45 = .ok (.goto 4, 3) := by decide +kernel
theorem dX8_linkTop_48 : decode cX8_linkTop 48 = .ok (.iconst 2, 1) := by decide +kernel
theorem dX8_linkTop_49 : decode cX8_linkTop 49 = .ok (.ireturn, 1) := by decide +kernel
def M_X8_linkTop : y_M := (yX8_linkTop, cX8_linkTop, 4, (Option.some Jvm.ClassFile.FieldType.int))
theorem n_X8_linkTop : y_N0 M_X8_linkTop 1 := ⟨(c_6 180 (by decide +kernel) rfl), (c_1 8 (by decide +kernel) rfl), ⟨by decide +kernel, by decide +kernel⟩, by decide +kernel⟩
theorem l_BoxYard_Tasks_169 : y_lnk "BoxYard$Tasks" 169 M_X8_asKind := Or.inl (c_6 181 (by decide +kernel) rfl)
theorem i_X8_asKind : Cond.instanceMethod (M_X8_asKind).1 ∈ y_tb := (c_6 183 (by decide +kernel) rfl)
theorem e_X8_asKind : Cond.selects (M_X8_asKind).1.cls (M_X8_asKind).1 (M_X8_asKind).1 ∈ y_tb := (m_s 42 (by decide +kernel) rfl)
theorem l_BoxYard_Tasks_172 : y_lnk "BoxYard$Tasks" 172 M_X1_hasStack := Or.inl (c_6 185 (by decide +kernel) rfl)
theorem l_BoxYard_Tasks_177 : y_lnk "BoxYard$Tasks" 177 M_X1_topOf := Or.inl (c_6 186 (by decide +kernel) rfl)
theorem l_BoxYard_Tasks_109 : y_lnk "BoxYard$Tasks" 109 M_X8_linkBox := Or.inl (c_6 162 (by decide +kernel) rfl)
theorem i_X8_linkBox : Cond.instanceMethod (M_X8_linkBox).1 ∈ y_tb := (c_6 164 (by decide +kernel) rfl)
theorem e_X8_linkBox : Cond.selects (M_X8_linkBox).1.cls (M_X8_linkBox).1 (M_X8_linkBox).1 ∈ y_tb := (m_s 38 (by decide +kernel) rfl)
set_option maxRecDepth 100000 in
def f_X8_linkTop (p0 : Nat) (p1 : Int32) (h : y_H) : Option (Int32 × y_H) :=
  if y_K h p0 = 9 then
  if y_K h p0 = 9 then
  if y_K h (y_P h p0 0) = 11 then
  y_cl (f_X10_bayAt (y_P h p0 0) (y_I h p0 8) h) (fun r1 h2 =>
  if y_K h2 p0 = 9 then
  y_cl (f_X8_asKind p0 2 h2) (fun r4 h5 =>
  y_jn (fun (v3_26 : Int32) (h7 : y_H) => (
      some (v3_26, h7) : Option (Int32 × y_H))) (fun j26 =>
  if r4 = 0 then
    if r1 = 0 then
      j26 r4 h5
    else
      if y_K h5 r1 = 2 then
      y_cl (f_X1_hasStack r1 p1 h5) (fun r8 h9 =>
      if r8 = true then
        if y_K h9 r1 = 2 then
        y_cl (f_X1_topOf r1 p1 h9) (fun r11 h12 =>
        if y_K h12 p0 = 9 then
        y_cl (f_X8_linkBox p0 r11 h12) (fun r14 h15 =>
        some (r14, h15))
        else none)
        else none
      else
        some (2, h9))
      else none
  else
    j26 r4 h5))
  else none)
  else none
  else none
  else none
abbrev rm_X8_linkTop : Room := { frames := 3, cells := 0, slots := 0, locals := 65 }
set_option maxRecDepth 100000 in
set_option maxHeartbeats 4000000 in
theorem k_X8_linkTop {l : Launch} {G : y_G} {p0 : Nat} {p1 : Int32} {h hz : y_H} {rz : Int32} (hf : f_X8_linkTop p0 p1 h = some (rz, hz)) : y_S l G M_X8_linkTop rm_X8_linkTop [y_p p0, .int p1] h (some (.int rz)) hz := by
  refine y_start (lv := [(0, y_p p0), (1, .int p1)]) (by decide) (by simp [lg_sl, y_p_cat, y_ci, y_cj, M_X8_linkTop]) (by simp [lv_args, y_p_cat, y_ci, y_cj]) (fun z ad0 => ?_)
  unfold f_X8_linkTop at hf
  refine y_aload_n (x := p0) (pc2 := 1) rfl dX8_linkTop_0 rfl ?_
  obtain ⟨g26, hf⟩ := y_g hf
  refine y_getP (pc2 := 4) rfl dX8_linkTop_1 F_BoxYard_Tasks_42 (by decide) rfl g26 ?_
  refine y_aload_n (x := p0) (pc2 := 5) rfl dX8_linkTop_4 rfl ?_
  obtain ⟨g25, hf⟩ := y_g hf
  refine y_getI (pc2 := 8) rfl dX8_linkTop_5 F_BoxYard_Tasks_28 (by decide) rfl g25 ?_
  obtain ⟨g24, hf⟩ := y_g hf
  obtain ⟨r1, h2, c3, hf⟩ := y_clE hf
  refine y_callV (As := [.int (y_I h p0 8)]) (rm := rm_X10_bayAt) (cells := 0) (slots := 0) (pc2 := 11) rfl dX8_linkTop_8 n_X10_bayAt l_BoxYard_Tasks_165 i_X10_bayAt e_X10_bayAt (ci := 10) rfl rfl (by decide) g24 rfl rfl (by decide) (by decide) (by decide) (k_X10_bayAt c3) ?_
  refine y_astore_n (lv' := [(2, y_p r1), (0, y_p p0), (1, .int p1)]) (pc2 := 12) rfl dX8_linkTop_11 (by decide) rfl ?_
  refine y_aload_n (x := p0) (pc2 := 13) rfl dX8_linkTop_12 rfl ?_
  refine y_iconst (v := 2) (pc2 := 14) rfl dX8_linkTop_13 (by decide) ?_
  obtain ⟨g23, hf⟩ := y_g hf
  obtain ⟨r4, h5, c6, hf⟩ := y_clE hf
  refine y_callV (As := [.int 2]) (rm := rm_X8_asKind) (cells := 0) (slots := 0) (pc2 := 17) rfl dX8_linkTop_14 n_X8_asKind l_BoxYard_Tasks_169 i_X8_asKind e_X8_asKind (ci := 8) rfl rfl (by decide) g23 rfl rfl (by decide) (by decide) (by decide) (k_X8_asKind c6) ?_
  refine y_istore_n (lv' := [(3, .int r4), (2, y_p r1), (0, y_p p0), (1, .int p1)]) (pc2 := 18) rfl dX8_linkTop_17 (by decide) (by show y_st1 _ 3 _ = _; simp [y_st1, y_p_cat, y_ci, y_cj]) ?_
  refine y_iload_n (pc2 := 19) rfl dX8_linkTop_18 rfl ?_
  refine y_jnE hf (fun j => ∀ (v3_26 : Int32) (h7 : y_H), j v3_26 h7 = some (rz, hz) → y_V l G z rm_X8_linkTop M_X8_linkTop ad0 h (some (.int rz)) hz 26 [(3, .int v3_26)] [] h7 0 0) (fun v3_26 h7 hf => ?_) (fun j26 hj26 hf => ?_)
  · refine y_iload_n (pc2 := 27) rfl dX8_linkTop_26 rfl ?_
    exact y_iretF hf dX8_linkTop_27 rfl (by decide) (by decide)
  · refine y_if_ne (tgt := 26) (pc2 := 22) rfl dX8_linkTop_19 (by decide) (fun c22 => ?_) (fun c22 => ?_)
    · replace hf := y_ie c22 hf
      exact y_pk [0] rfl (hj26 _ _ hf)
    · replace hf := y_it c22 hf
      refine y_aload_n (x := r1) (pc2 := 23) rfl dX8_linkTop_22 rfl ?_
      refine y_ifnonnull (tgt := 28) (pc2 := 26) rfl dX8_linkTop_23 (by decide) (fun c21 => ?_) (fun c21 => ?_)
      · replace hf := y_ie c21 hf
        refine y_aload_n (x := r1) (pc2 := 29) rfl dX8_linkTop_28 rfl ?_
        refine y_iload_n (pc2 := 30) rfl dX8_linkTop_29 rfl ?_
        obtain ⟨g20, hf⟩ := y_g hf
        obtain ⟨r8, h9, c10, hf⟩ := y_clE hf
        refine y_callV (As := [.int p1]) (rm := rm_X1_hasStack) (cells := 0) (slots := 0) (pc2 := 33) rfl dX8_linkTop_30 n_X1_hasStack l_BoxYard_Tasks_172 i_X1_hasStack e_X1_hasStack (ci := 1) rfl rfl (by decide) g20 rfl rfl (by decide) (by decide) (by decide) (k_X1_hasStack c10) ?_
        refine y_ifz_eq (tgt := 48) (pc2 := 36) rfl dX8_linkTop_33 (by decide) (fun c19 => ?_) (fun c19 => ?_)
        · replace hf := y_ie c19 hf
          refine y_iconst (v := 2) (pc2 := 49) rfl dX8_linkTop_48 (by decide) ?_
          exact y_iretF hf dX8_linkTop_49 rfl (by decide) (by decide)
        · replace hf := y_it c19 hf
          refine y_aload_n (x := p0) (pc2 := 37) rfl dX8_linkTop_36 rfl ?_
          refine y_aload_n (x := r1) (pc2 := 38) rfl dX8_linkTop_37 rfl ?_
          refine y_iload_n (pc2 := 39) rfl dX8_linkTop_38 rfl ?_
          obtain ⟨g18, hf⟩ := y_g hf
          obtain ⟨r11, h12, c13, hf⟩ := y_clE hf
          refine y_callV (As := [.int p1]) (rm := rm_X1_topOf) (cells := 0) (slots := 0) (pc2 := 42) rfl dX8_linkTop_39 n_X1_topOf l_BoxYard_Tasks_177 i_X1_topOf e_X1_topOf (ci := 1) rfl rfl (by decide) g18 rfl rfl (by decide) (by simp [y_ci, y_cj, y_p_cat]) (by decide) (k_X1_topOf c13) ?_
          obtain ⟨g17, hf⟩ := y_g hf
          obtain ⟨r14, h15, c16, hf⟩ := y_clE hf
          refine y_callV (As := [y_p r11]) (rm := rm_X8_linkBox) (cells := 0) (slots := 0) (pc2 := 45) rfl dX8_linkTop_42 n_X8_linkBox l_BoxYard_Tasks_109 i_X8_linkBox e_X8_linkBox (ci := 8) rfl rfl (by decide) g17 rfl rfl (by decide) (by decide) (by decide) (k_X8_linkBox c16) ?_
          refine y_goto (tgt := 49) dX8_linkTop_45 (by decide) ?_
          exact y_iretF hf dX8_linkTop_49 rfl (by decide) (by decide)
      · replace hf := y_it c21 hf
        exact y_pk [0] rfl (hj26 _ _ hf)
theorem dX8_linkHeld_0 : decode cX8_linkHeld 0 = .ok (.aload_n 0, 1) := by decide +kernel
theorem dX8_linkHeld_1 : decode cX8_linkHeld 1 = .ok (.getfield 42, 3) := by decide +kernel
theorem dX8_linkHeld_4 : decode cX8_linkHeld 4 = .ok (.aload_n 0, 1) := by decide +kernel
theorem dX8_linkHeld_5 : decode cX8_linkHeld 5 = .ok (.getfield 28, 3) := by decide +kernel
theorem dX8_linkHeld_8 : decode cX8_linkHeld 8 = .ok (.invokevirtual 113, 3) := by decide +kernel
theorem dX8_linkHeld_11 : decode cX8_linkHeld 11 = .ok (.astore_n 1, 1) := by decide +kernel
theorem dX8_linkHeld_12 : decode cX8_linkHeld 12 = .ok (.aload_n 0, 1) := by decide +kernel
theorem dX8_linkHeld_13 : decode cX8_linkHeld 13 = .ok (.iconst 1, 1) := by decide +kernel
theorem dX8_linkHeld_14 : decode cX8_linkHeld 14 = .ok (.invokevirtual 169, 3) := by decide +kernel
theorem dX8_linkHeld_17 : decode cX8_linkHeld 17 = .ok (.istore_n 2, 1) := by decide +kernel
theorem dX8_linkHeld_18 : decode cX8_linkHeld 18 = .ok (.iload_n 2, 1) := by decide +kernel
theorem dX8_linkHeld_19 : decode cX8_linkHeld 19 = .ok (.ifCond .ne 7, 3) := by decide +kernel
theorem dX8_linkHeld_22 : decode cX8_linkHeld 22 = .ok (.aload_n 1, 1) := by decide +kernel
theorem dX8_linkHeld_23 : decode cX8_linkHeld 23 = .ok (.ifnonnull 7, 3) := by decide +kernel
theorem dX8_linkHeld_26 : decode cX8_linkHeld 26 = .ok (.iload_n 2, 1) := by decide +kernel
theorem dX8_linkHeld_27 : decode cX8_linkHeld 27 = .ok (.goto 11, 3) := by decide +kernel
theorem dX8_linkHeld_30 : decode cX8_linkHeld 30 = .ok (.aload_n 0, 1) := by decide +kernel
theorem dX8_linkHeld_31 : decode cX8_linkHeld 31 = .ok (.aload_n 1, 1) := by decide +kernel
theorem dX8_linkHeld_32 : decode cX8_linkHeld 32 = .ok (.getfield 180, 3) := by decide +kernel
theorem dX8_linkHeld_35 : decode cX8_linkHeld 35 = .ok (.invokevirtual 109, 3) := by decide +kernel
theorem dX8_linkHeld_38 : decode cX8_linkHeld 38 = .ok (.ireturn, 1) := by decide +kernel
def M_X8_linkHeld : y_M := (yX8_linkHeld, cX8_linkHeld, 3, (Option.some Jvm.ClassFile.FieldType.int))
theorem n_X8_linkHeld : y_N0 M_X8_linkHeld 0 := ⟨(c_6 190 (by decide +kernel) rfl), (c_1 8 (by decide +kernel) rfl), ⟨by decide +kernel, by decide +kernel⟩, by decide +kernel⟩
theorem l_BoxYard_Tasks_113 : y_lnk "BoxYard$Tasks" 113 M_X10_craneAt := Or.inl (c_6 167 (by decide +kernel) rfl)
theorem F_BoxYard_Tasks_180 : y_F "BoxYard$Tasks" 180 3 4 := ⟨_, _, _, rfl, by decide, Or.inr ⟨"BoxYard", (c_3 199 (by decide +kernel) rfl)⟩⟩
set_option maxRecDepth 100000 in
def f_X8_linkHeld (p0 : Nat) (h : y_H) : Option (Int32 × y_H) :=
  if y_K h p0 = 9 then
  if y_K h p0 = 9 then
  if y_K h (y_P h p0 0) = 11 then
  y_cl (f_X10_craneAt (y_P h p0 0) (y_I h p0 8) h) (fun r1 h2 =>
  if y_K h2 p0 = 9 then
  y_cl (f_X8_asKind p0 1 h2) (fun r4 h5 =>
  y_jn (fun (v2_26 : Int32) (h7 : y_H) => (
      some (v2_26, h7) : Option (Int32 × y_H))) (fun j26 =>
  if r4 = 0 then
    if r1 = 0 then
      j26 r4 h5
    else
      if y_K h5 r1 = 4 then
      if y_K h5 p0 = 9 then
      y_cl (f_X8_linkBox p0 (y_P h5 r1 4) h5) (fun r8 h9 =>
      some (r8, h9))
      else none
      else none
  else
    j26 r4 h5))
  else none)
  else none
  else none
  else none
abbrev rm_X8_linkHeld : Room := { frames := 2, cells := 0, slots := 0, locals := 43 }
set_option maxRecDepth 100000 in
set_option maxHeartbeats 4000000 in
theorem k_X8_linkHeld {l : Launch} {G : y_G} {p0 : Nat} {h hz : y_H} {rz : Int32} (hf : f_X8_linkHeld p0 h = some (rz, hz)) : y_S l G M_X8_linkHeld rm_X8_linkHeld [y_p p0] h (some (.int rz)) hz := by
  refine y_start (lv := [(0, y_p p0)]) (by decide) (by simp [lg_sl, y_p_cat, y_ci, y_cj, M_X8_linkHeld]) (by simp [lv_args, y_p_cat, y_ci, y_cj]) (fun z ad0 => ?_)
  unfold f_X8_linkHeld at hf
  refine y_aload_n (x := p0) (pc2 := 1) rfl dX8_linkHeld_0 rfl ?_
  obtain ⟨g18, hf⟩ := y_g hf
  refine y_getP (pc2 := 4) rfl dX8_linkHeld_1 F_BoxYard_Tasks_42 (by decide) rfl g18 ?_
  refine y_aload_n (x := p0) (pc2 := 5) rfl dX8_linkHeld_4 rfl ?_
  obtain ⟨g17, hf⟩ := y_g hf
  refine y_getI (pc2 := 8) rfl dX8_linkHeld_5 F_BoxYard_Tasks_28 (by decide) rfl g17 ?_
  obtain ⟨g16, hf⟩ := y_g hf
  obtain ⟨r1, h2, c3, hf⟩ := y_clE hf
  refine y_callV (As := [.int (y_I h p0 8)]) (rm := rm_X10_craneAt) (cells := 0) (slots := 0) (pc2 := 11) rfl dX8_linkHeld_8 n_X10_craneAt l_BoxYard_Tasks_113 i_X10_craneAt e_X10_craneAt (ci := 10) rfl rfl (by decide) g16 rfl rfl (by decide) (by decide) (by decide) (k_X10_craneAt c3) ?_
  refine y_astore_n (lv' := [(1, y_p r1), (0, y_p p0)]) (pc2 := 12) rfl dX8_linkHeld_11 (by decide) (by show y_st1 _ 1 _ = _; simp [y_st1, y_p_cat, y_ci, y_cj]) ?_
  refine y_aload_n (x := p0) (pc2 := 13) rfl dX8_linkHeld_12 rfl ?_
  refine y_iconst (v := 1) (pc2 := 14) rfl dX8_linkHeld_13 (by decide) ?_
  obtain ⟨g15, hf⟩ := y_g hf
  obtain ⟨r4, h5, c6, hf⟩ := y_clE hf
  refine y_callV (As := [.int 1]) (rm := rm_X8_asKind) (cells := 0) (slots := 0) (pc2 := 17) rfl dX8_linkHeld_14 n_X8_asKind l_BoxYard_Tasks_169 i_X8_asKind e_X8_asKind (ci := 8) rfl rfl (by decide) g15 rfl rfl (by decide) (by decide) (by decide) (k_X8_asKind c6) ?_
  refine y_istore_n (lv' := [(2, .int r4), (1, y_p r1), (0, y_p p0)]) (pc2 := 18) rfl dX8_linkHeld_17 (by decide) (by show y_st1 _ 2 _ = _; simp [y_st1, y_p_cat, y_ci, y_cj]) ?_
  refine y_iload_n (pc2 := 19) rfl dX8_linkHeld_18 rfl ?_
  refine y_jnE hf (fun j => ∀ (v2_26 : Int32) (h7 : y_H), j v2_26 h7 = some (rz, hz) → y_V l G z rm_X8_linkHeld M_X8_linkHeld ad0 h (some (.int rz)) hz 26 [(2, .int v2_26)] [] h7 0 0) (fun v2_26 h7 hf => ?_) (fun j26 hj26 hf => ?_)
  · refine y_iload_n (pc2 := 27) rfl dX8_linkHeld_26 rfl ?_
    refine y_goto (tgt := 38) dX8_linkHeld_27 (by decide) ?_
    exact y_iretF hf dX8_linkHeld_38 rfl (by decide) (by decide)
  · refine y_if_ne (tgt := 26) (pc2 := 22) rfl dX8_linkHeld_19 (by decide) (fun c14 => ?_) (fun c14 => ?_)
    · replace hf := y_ie c14 hf
      exact y_pk [0] rfl (hj26 _ _ hf)
    · replace hf := y_it c14 hf
      refine y_aload_n (x := r1) (pc2 := 23) rfl dX8_linkHeld_22 rfl ?_
      refine y_ifnonnull (tgt := 30) (pc2 := 26) rfl dX8_linkHeld_23 (by decide) (fun c13 => ?_) (fun c13 => ?_)
      · replace hf := y_ie c13 hf
        refine y_aload_n (x := p0) (pc2 := 31) rfl dX8_linkHeld_30 rfl ?_
        refine y_aload_n (x := r1) (pc2 := 32) rfl dX8_linkHeld_31 rfl ?_
        obtain ⟨g12, hf⟩ := y_g hf
        refine y_getP (pc2 := 35) rfl dX8_linkHeld_32 F_BoxYard_Tasks_180 (by decide) rfl g12 ?_
        obtain ⟨g11, hf⟩ := y_g hf
        obtain ⟨r8, h9, c10, hf⟩ := y_clE hf
        refine y_callV (As := [y_p (y_P h5 r1 4)]) (rm := rm_X8_linkBox) (cells := 0) (slots := 0) (pc2 := 38) rfl dX8_linkHeld_35 n_X8_linkBox l_BoxYard_Tasks_109 i_X8_linkBox e_X8_linkBox (ci := 8) rfl rfl (by decide) g11 rfl rfl (by decide) (by decide) (by decide) (k_X8_linkBox c10) ?_
        exact y_iretF hf dX8_linkHeld_38 rfl (by decide) (by decide)
      · replace hf := y_it c13 hf
        exact y_pk [0] rfl (hj26 _ _ hf)
theorem dX8_linkBelow_0 : decode cX8_linkBelow 0 = .ok (.aload_n 0, 1) := by decide +kernel
theorem dX8_linkBelow_1 : decode cX8_linkBelow 1 = .ok (.getfield 42, 3) := by decide +kernel
theorem dX8_linkBelow_4 : decode cX8_linkBelow 4 = .ok (.aload_n 0, 1) := by decide +kernel
theorem dX8_linkBelow_5 : decode cX8_linkBelow 5 = .ok (.getfield 28, 3) := by decide +kernel
theorem dX8_linkBelow_8 : decode cX8_linkBelow 8 = .ok (.invokevirtual 103, 3) := by decide +kernel
theorem dX8_linkBelow_11 : decode cX8_linkBelow 11 = .ok (.astore_n 1, 1) := by decide +kernel
theorem dX8_linkBelow_12 : decode cX8_linkBelow 12 = .ok (.aload_n 0, 1) := by decide +kernel
theorem dX8_linkBelow_13 : decode cX8_linkBelow 13 = .ok (.iconst 0, 1) := by decide +kernel
theorem dX8_linkBelow_14 : decode cX8_linkBelow 14 = .ok (.invokevirtual 169, 3) := by decide +kernel
theorem dX8_linkBelow_17 : decode cX8_linkBelow 17 = .ok (.istore_n 2, 1) := by decide +kernel
theorem dX8_linkBelow_18 : decode cX8_linkBelow 18 = .ok (.iload_n 2, 1) := by decide +kernel
theorem dX8_linkBelow_19 : decode cX8_linkBelow 19 = .ok (.ifCond .ne 7, 3) := by decide +kernel
theorem dX8_linkBelow_22 : decode cX8_linkBelow 22 = .ok (.aload_n 1, 1) := by decide +kernel
theorem dX8_linkBelow_23 : decode cX8_linkBelow 23 = .ok (.ifnonnull 5, 3) := by decide +kernel
theorem dX8_linkBelow_26 : decode cX8_linkBelow 26 = .ok (.iload_n 2, 1) := by decide +kernel
theorem dX8_linkBelow_27 : decode cX8_linkBelow 27 = .ok (.ireturn, 1) := by decide +kernel
theorem dX8_linkBelow_28 : decode cX8_linkBelow 28 = .ok (.aload_n 1, 1) := by decide +kernel
theorem dX8_linkBelow_29 : decode cX8_linkBelow 29 = .ok (.getfield 184, 3) := by decide +kernel
theorem dX8_linkBelow_32 : decode cX8_linkBelow 32 = .ok (.iconst 1, 1) := by decide +kernel
theorem dX8_linkBelow_33 : decode cX8_linkBelow 33 = .ok (.if_icmp .ne 17, 3) := by decide +kernel
theorem dX8_linkBelow_36 : decode cX8_linkBelow 36 = .ok (.aload_n 0, 1) := by decide +kernel
theorem dX8_linkBelow_37 : decode cX8_linkBelow 37 = .ok (.getfield 42, 3) := by decide +kernel
theorem dX8_linkBelow_40 : decode cX8_linkBelow 40 = .ok (.aload_n 1, 1) := by decide +kernel
theorem dX8_linkBelow_41 : decode cX8_linkBelow 41 = .ok (.getfield 189, 3) := by decide +kernel
theorem dX8_linkBelow_44 : decode cX8_linkBelow 44 = .ok (.invokevirtual 165, 3) := by decide +kernel
theorem dX8_linkBelow_47 : decode cX8_linkBelow 47 = .ok (.goto 4, 3) := by decide +kernel
theorem dX8_linkBelow_50 : decode cX8_linkBelow 50 = .ok (.aconst_null, 1) := by decide +kernel
theorem dX8_linkBelow_51 : decode cX8_linkBelow 51 = .ok (.astore_n 3, 1) := by decide +kernel
theorem dX8_linkBelow_52 : decode cX8_linkBelow 52 = .ok (.aload_n 0, 1) := by decide +kernel
theorem dX8_linkBelow_53 : decode cX8_linkBelow 53 = .ok (.aload_n 3, 1) := by decide +kernel
theorem dX8_linkBelow_54 : decode cX8_linkBelow 54 = .ok (.ifnonnull 7, 3) := by decide +kernel
theorem dX8_linkBelow_57 : decode cX8_linkBelow 57 = .ok (.aconst_null, 1) := by decide +kernel
theorem dX8_linkBelow_58 : decode cX8_linkBelow 58 = .ok (.goto 17, 3) := by decide +kernel
theorem dX8_linkBelow_61 : decode cX8_linkBelow 61 = .ok (.aload_n 3, 1) := by decide +kernel
theorem dX8_linkBelow_62 : decode cX8_linkBelow 62 = .ok (.aload_n 1, 1) := by decide +kernel
theorem dX8_linkBelow_63 : decode cX8_linkBelow 63 = .ok (.getfield 192, 3) := by decide +kernel
theorem dX8_linkBelow_66 : decode cX8_linkBelow 66 = .ok (.aload_n 1, 1) := by decide +kernel
theorem dX8_linkBelow_67 : decode cX8_linkBelow 67 = .ok (.getfield 195, 3) := by decide +kernel
theorem dX8_linkBelow_70 : decode cX8_linkBelow 70 = .ok (.iconst 1, 1) := by decide +kernel
theorem dX8_linkBelow_71 : decode cX8_linkBelow 71 = .ok (.isub, 1) := by decide +kernel
theorem dX8_linkBelow_72 : decode cX8_linkBelow 72 = .ok (.invokevirtual 198, 3) := by decide +kernel
theorem dX8_linkBelow_75 : decode cX8_linkBelow 75 = .ok (.invokevirtual 109, 3) := by decide +kernel
theorem dX8_linkBelow_78 : decode cX8_linkBelow 78 = .ok (.ireturn, 1) := by decide +kernel
def M_X8_linkBelow : y_M := (yX8_linkBelow, cX8_linkBelow, 4, (Option.some Jvm.ClassFile.FieldType.int))
theorem n_X8_linkBelow : y_N0 M_X8_linkBelow 0 := ⟨(c_6 194 (by decide +kernel) rfl), (c_1 8 (by decide +kernel) rfl), ⟨by decide +kernel, by decide +kernel⟩, by decide +kernel⟩
theorem l_BoxYard_Tasks_103 : y_lnk "BoxYard$Tasks" 103 M_X10_boxAt := Or.inl (c_6 161 (by decide +kernel) rfl)
theorem F_BoxYard_Tasks_184 : y_F "BoxYard$Tasks" 184 2 6 := ⟨_, _, _, rfl, by decide, Or.inr ⟨"BoxYard", (c_2 129 (by decide +kernel) rfl)⟩⟩
theorem F_BoxYard_Tasks_192 : y_F "BoxYard$Tasks" 192 2 8 := ⟨_, _, _, rfl, by decide, Or.inr ⟨"BoxYard", (c_2 140 (by decide +kernel) rfl)⟩⟩
theorem F_BoxYard_Tasks_195 : y_F "BoxYard$Tasks" 195 2 9 := ⟨_, _, _, rfl, by decide, Or.inr ⟨"BoxYard", (c_2 145 (by decide +kernel) rfl)⟩⟩
theorem l_BoxYard_Tasks_198 : y_lnk "BoxYard$Tasks" 198 M_X1_boxIn := Or.inl (c_6 195 (by decide +kernel) rfl)
theorem F_BoxYard_Tasks_189 : y_F "BoxYard$Tasks" 189 2 7 := ⟨_, _, _, rfl, by decide, Or.inr ⟨"BoxYard", (c_2 135 (by decide +kernel) rfl)⟩⟩
set_option maxRecDepth 100000 in
def f_X8_linkBelow (p0 : Nat) (h : y_H) : Option (Int32 × y_H) :=
  if y_K h p0 = 9 then
  if y_K h p0 = 9 then
  if y_K h (y_P h p0 0) = 11 then
  y_cl (f_X10_boxAt (y_P h p0 0) (y_I h p0 8) h) (fun r1 h2 =>
  if y_K h2 p0 = 9 then
  y_cl (f_X8_asKind p0 0 h2) (fun r4 h5 =>
  y_jn (fun (v2_26 : Int32) (h7 : y_H) => (
      some (v2_26, h7) : Option (Int32 × y_H))) (fun j26 =>
  if r4 = 0 then
    if r1 = 0 then
      j26 r4 h5
    else
      if y_K h5 r1 = 3 then
      if (y_I h5 r1 6) = 1 then
        if y_K h5 p0 = 9 then
        if y_K h5 r1 = 3 then
        if y_K h5 (y_P h5 p0 0) = 11 then
        y_cl (f_X10_bayAt (y_P h5 p0 0) (y_I h5 r1 7) h5) (fun r23 h24 =>
        if r23 = 0 then
          if y_K h24 p0 = 9 then
          y_cl (f_X8_linkBox p0 0 h24) (fun r36 h37 =>
          some (r36, h37))
          else none
        else
          if y_K h24 r1 = 3 then
          if y_K h24 r1 = 3 then
          if y_K h24 r23 = 2 then
          y_cl (f_X1_boxIn r23 (y_I h24 r1 8) ((y_I h24 r1 9) - 1) h24) (fun r26 h27 =>
          if y_K h27 p0 = 9 then
          y_cl (f_X8_linkBox p0 r26 h27) (fun r29 h30 =>
          some (r29, h30))
          else none)
          else none
          else none
          else none)
        else none
        else none
        else none
      else
        if 0 = 0 then
          if y_K h5 p0 = 9 then
          y_cl (f_X8_linkBox p0 0 h5) (fun r18 h19 =>
          some (r18, h19))
          else none
        else
          if y_K h5 r1 = 3 then
          if y_K h5 r1 = 3 then
          if y_K h5 0 = 2 then
          y_cl (f_X1_boxIn 0 (y_I h5 r1 8) ((y_I h5 r1 9) - 1) h5) (fun r8 h9 =>
          if y_K h9 p0 = 9 then
          y_cl (f_X8_linkBox p0 r8 h9) (fun r11 h12 =>
          some (r11, h12))
          else none)
          else none
          else none
          else none
      else none
  else
    j26 r4 h5))
  else none)
  else none
  else none
  else none
abbrev rm_X8_linkBelow : Room := { frames := 2, cells := 0, slots := 0, locals := 44 }
set_option maxRecDepth 100000 in
set_option maxHeartbeats 4000000 in
theorem k_X8_linkBelow {l : Launch} {G : y_G} {p0 : Nat} {h hz : y_H} {rz : Int32} (hf : f_X8_linkBelow p0 h = some (rz, hz)) : y_S l G M_X8_linkBelow rm_X8_linkBelow [y_p p0] h (some (.int rz)) hz := by
  refine y_start (lv := [(0, y_p p0)]) (by decide) (by simp [lg_sl, y_p_cat, y_ci, y_cj, M_X8_linkBelow]) (by simp [lv_args, y_p_cat, y_ci, y_cj]) (fun z ad0 => ?_)
  unfold f_X8_linkBelow at hf
  refine y_aload_n (x := p0) (pc2 := 1) rfl dX8_linkBelow_0 rfl ?_
  obtain ⟨g51, hf⟩ := y_g hf
  refine y_getP (pc2 := 4) rfl dX8_linkBelow_1 F_BoxYard_Tasks_42 (by decide) rfl g51 ?_
  refine y_aload_n (x := p0) (pc2 := 5) rfl dX8_linkBelow_4 rfl ?_
  obtain ⟨g50, hf⟩ := y_g hf
  refine y_getI (pc2 := 8) rfl dX8_linkBelow_5 F_BoxYard_Tasks_28 (by decide) rfl g50 ?_
  obtain ⟨g49, hf⟩ := y_g hf
  obtain ⟨r1, h2, c3, hf⟩ := y_clE hf
  refine y_callV (As := [.int (y_I h p0 8)]) (rm := rm_X10_boxAt) (cells := 0) (slots := 0) (pc2 := 11) rfl dX8_linkBelow_8 n_X10_boxAt l_BoxYard_Tasks_103 i_X10_boxAt e_X10_boxAt (ci := 10) rfl rfl (by decide) g49 rfl rfl (by decide) (by decide) (by decide) (k_X10_boxAt c3) ?_
  refine y_astore_n (lv' := [(1, y_p r1), (0, y_p p0)]) (pc2 := 12) rfl dX8_linkBelow_11 (by decide) (by show y_st1 _ 1 _ = _; simp [y_st1, y_p_cat, y_ci, y_cj]) ?_
  refine y_aload_n (x := p0) (pc2 := 13) rfl dX8_linkBelow_12 rfl ?_
  refine y_iconst (v := 0) (pc2 := 14) rfl dX8_linkBelow_13 (by decide) ?_
  obtain ⟨g48, hf⟩ := y_g hf
  obtain ⟨r4, h5, c6, hf⟩ := y_clE hf
  refine y_callV (As := [.int 0]) (rm := rm_X8_asKind) (cells := 0) (slots := 0) (pc2 := 17) rfl dX8_linkBelow_14 n_X8_asKind l_BoxYard_Tasks_169 i_X8_asKind e_X8_asKind (ci := 8) rfl rfl (by decide) g48 rfl rfl (by decide) (by decide) (by decide) (k_X8_asKind c6) ?_
  refine y_istore_n (lv' := [(2, .int r4), (1, y_p r1), (0, y_p p0)]) (pc2 := 18) rfl dX8_linkBelow_17 (by decide) (by show y_st1 _ 2 _ = _; simp [y_st1, y_p_cat, y_ci, y_cj]) ?_
  refine y_iload_n (pc2 := 19) rfl dX8_linkBelow_18 rfl ?_
  refine y_jnE hf (fun j => ∀ (v2_26 : Int32) (h7 : y_H), j v2_26 h7 = some (rz, hz) → y_V l G z rm_X8_linkBelow M_X8_linkBelow ad0 h (some (.int rz)) hz 26 [(2, .int v2_26)] [] h7 0 0) (fun v2_26 h7 hf => ?_) (fun j26 hj26 hf => ?_)
  · refine y_iload_n (pc2 := 27) rfl dX8_linkBelow_26 rfl ?_
    exact y_iretF hf dX8_linkBelow_27 rfl (by decide) (by decide)
  · refine y_if_ne (tgt := 26) (pc2 := 22) rfl dX8_linkBelow_19 (by decide) (fun c47 => ?_) (fun c47 => ?_)
    · replace hf := y_ie c47 hf
      exact y_pk [0] rfl (hj26 _ _ hf)
    · replace hf := y_it c47 hf
      refine y_aload_n (x := r1) (pc2 := 23) rfl dX8_linkBelow_22 rfl ?_
      refine y_ifnonnull (tgt := 28) (pc2 := 26) rfl dX8_linkBelow_23 (by decide) (fun c46 => ?_) (fun c46 => ?_)
      · replace hf := y_ie c46 hf
        refine y_aload_n (x := r1) (pc2 := 29) rfl dX8_linkBelow_28 rfl ?_
        obtain ⟨g45, hf⟩ := y_g hf
        refine y_getI (pc2 := 32) rfl dX8_linkBelow_29 F_BoxYard_Tasks_184 (by decide) rfl g45 ?_
        refine y_iconst (v := 1) (pc2 := 33) rfl dX8_linkBelow_32 (by decide) ?_
        refine y_icmp_ne (tgt := 50) (pc2 := 36) rfl dX8_linkBelow_33 (by decide) (fun c44 => ?_) (fun c44 => ?_)
        · replace hf := y_ie c44 hf
          refine y_null (pc2 := 51) rfl dX8_linkBelow_50 ?_
          refine y_astore_n (lv' := [(3, y_p 0), (2, .int r4), (1, y_p r1), (0, y_p p0)]) (pc2 := 52) rfl dX8_linkBelow_51 (by decide) rfl ?_
          refine y_aload_n (x := p0) (pc2 := 53) rfl dX8_linkBelow_52 rfl ?_
          refine y_aload_n (x := 0) (pc2 := 54) rfl dX8_linkBelow_53 rfl ?_
          refine y_ifnonnull (tgt := 61) (pc2 := 57) rfl dX8_linkBelow_54 (by decide) (fun c22 => ?_) (fun c22 => ?_)
          · replace hf := y_ie c22 hf
            refine y_aload_n (x := 0) (pc2 := 62) rfl dX8_linkBelow_61 rfl ?_
            refine y_aload_n (x := r1) (pc2 := 63) rfl dX8_linkBelow_62 rfl ?_
            obtain ⟨g17, hf⟩ := y_g hf
            refine y_getI (pc2 := 66) rfl dX8_linkBelow_63 F_BoxYard_Tasks_192 (by decide) rfl g17 ?_
            refine y_aload_n (x := r1) (pc2 := 67) rfl dX8_linkBelow_66 rfl ?_
            obtain ⟨g16, hf⟩ := y_g hf
            refine y_getI (pc2 := 70) rfl dX8_linkBelow_67 F_BoxYard_Tasks_195 (by decide) rfl g16 ?_
            refine y_iconst (v := 1) (pc2 := 71) rfl dX8_linkBelow_70 (by decide) ?_
            refine y_isub (pc2 := 72) rfl dX8_linkBelow_71 ?_
            obtain ⟨g15, hf⟩ := y_g hf
            obtain ⟨r8, h9, c10, hf⟩ := y_clE hf
            refine y_callV (As := [.int (y_I h5 r1 8), .int ((y_I h5 r1 9) - 1)]) (rm := rm_X1_boxIn) (cells := 0) (slots := 0) (pc2 := 75) rfl dX8_linkBelow_72 n_X1_boxIn l_BoxYard_Tasks_198 i_X1_boxIn e_X1_boxIn (ci := 1) rfl rfl (by decide) g15 rfl rfl (by decide) (by simp [y_ci, y_cj, y_p_cat]) (by decide) (k_X1_boxIn c10) ?_
            obtain ⟨g14, hf⟩ := y_g hf
            obtain ⟨r11, h12, c13, hf⟩ := y_clE hf
            refine y_callV (As := [y_p r8]) (rm := rm_X8_linkBox) (cells := 0) (slots := 0) (pc2 := 78) rfl dX8_linkBelow_75 n_X8_linkBox l_BoxYard_Tasks_109 i_X8_linkBox e_X8_linkBox (ci := 8) rfl rfl (by decide) g14 rfl rfl (by decide) (by decide) (by decide) (k_X8_linkBox c13) ?_
            exact y_iretF hf dX8_linkBelow_78 rfl (by decide) (by decide)
          · replace hf := y_it c22 hf
            refine y_null (pc2 := 58) rfl dX8_linkBelow_57 ?_
            refine y_goto (tgt := 75) dX8_linkBelow_58 (by decide) ?_
            obtain ⟨g21, hf⟩ := y_g hf
            obtain ⟨r18, h19, c20, hf⟩ := y_clE hf
            refine y_callV (As := [y_p 0]) (rm := rm_X8_linkBox) (cells := 0) (slots := 0) (pc2 := 78) rfl dX8_linkBelow_75 n_X8_linkBox l_BoxYard_Tasks_109 i_X8_linkBox e_X8_linkBox (ci := 8) rfl rfl (by decide) g21 rfl rfl (by decide) (by decide) (by decide) (k_X8_linkBox c20) ?_
            exact y_iretF hf dX8_linkBelow_78 rfl (by decide) (by decide)
        · replace hf := y_it c44 hf
          refine y_aload_n (x := p0) (pc2 := 37) rfl dX8_linkBelow_36 rfl ?_
          obtain ⟨g43, hf⟩ := y_g hf
          refine y_getP (pc2 := 40) rfl dX8_linkBelow_37 F_BoxYard_Tasks_42 (by decide) rfl g43 ?_
          refine y_aload_n (x := r1) (pc2 := 41) rfl dX8_linkBelow_40 rfl ?_
          obtain ⟨g42, hf⟩ := y_g hf
          refine y_getI (pc2 := 44) rfl dX8_linkBelow_41 F_BoxYard_Tasks_189 (by decide) rfl g42 ?_
          obtain ⟨g41, hf⟩ := y_g hf
          obtain ⟨r23, h24, c25, hf⟩ := y_clE hf
          refine y_callV (As := [.int (y_I h5 r1 7)]) (rm := rm_X10_bayAt) (cells := 0) (slots := 0) (pc2 := 47) rfl dX8_linkBelow_44 n_X10_bayAt l_BoxYard_Tasks_165 i_X10_bayAt e_X10_bayAt (ci := 10) rfl rfl (by decide) g41 rfl rfl (by decide) (by decide) (by decide) (k_X10_bayAt c25) ?_
          refine y_goto (tgt := 51) dX8_linkBelow_47 (by decide) ?_
          refine y_astore_n (lv' := [(3, y_p r23), (2, .int r4), (1, y_p r1), (0, y_p p0)]) (pc2 := 52) rfl dX8_linkBelow_51 (by decide) rfl ?_
          refine y_aload_n (x := p0) (pc2 := 53) rfl dX8_linkBelow_52 rfl ?_
          refine y_aload_n (x := r23) (pc2 := 54) rfl dX8_linkBelow_53 rfl ?_
          refine y_ifnonnull (tgt := 61) (pc2 := 57) rfl dX8_linkBelow_54 (by decide) (fun c40 => ?_) (fun c40 => ?_)
          · replace hf := y_ie c40 hf
            refine y_aload_n (x := r23) (pc2 := 62) rfl dX8_linkBelow_61 rfl ?_
            refine y_aload_n (x := r1) (pc2 := 63) rfl dX8_linkBelow_62 rfl ?_
            obtain ⟨g35, hf⟩ := y_g hf
            refine y_getI (pc2 := 66) rfl dX8_linkBelow_63 F_BoxYard_Tasks_192 (by decide) rfl g35 ?_
            refine y_aload_n (x := r1) (pc2 := 67) rfl dX8_linkBelow_66 rfl ?_
            obtain ⟨g34, hf⟩ := y_g hf
            refine y_getI (pc2 := 70) rfl dX8_linkBelow_67 F_BoxYard_Tasks_195 (by decide) rfl g34 ?_
            refine y_iconst (v := 1) (pc2 := 71) rfl dX8_linkBelow_70 (by decide) ?_
            refine y_isub (pc2 := 72) rfl dX8_linkBelow_71 ?_
            obtain ⟨g33, hf⟩ := y_g hf
            obtain ⟨r26, h27, c28, hf⟩ := y_clE hf
            refine y_callV (As := [.int (y_I h24 r1 8), .int ((y_I h24 r1 9) - 1)]) (rm := rm_X1_boxIn) (cells := 0) (slots := 0) (pc2 := 75) rfl dX8_linkBelow_72 n_X1_boxIn l_BoxYard_Tasks_198 i_X1_boxIn e_X1_boxIn (ci := 1) rfl rfl (by decide) g33 rfl rfl (by decide) (by simp [y_ci, y_cj, y_p_cat]) (by decide) (k_X1_boxIn c28) ?_
            obtain ⟨g32, hf⟩ := y_g hf
            obtain ⟨r29, h30, c31, hf⟩ := y_clE hf
            refine y_callV (As := [y_p r26]) (rm := rm_X8_linkBox) (cells := 0) (slots := 0) (pc2 := 78) rfl dX8_linkBelow_75 n_X8_linkBox l_BoxYard_Tasks_109 i_X8_linkBox e_X8_linkBox (ci := 8) rfl rfl (by decide) g32 rfl rfl (by decide) (by decide) (by decide) (k_X8_linkBox c31) ?_
            exact y_iretF hf dX8_linkBelow_78 rfl (by decide) (by decide)
          · replace hf := y_it c40 hf
            refine y_null (pc2 := 58) rfl dX8_linkBelow_57 ?_
            refine y_goto (tgt := 75) dX8_linkBelow_58 (by decide) ?_
            obtain ⟨g39, hf⟩ := y_g hf
            obtain ⟨r36, h37, c38, hf⟩ := y_clE hf
            refine y_callV (As := [y_p 0]) (rm := rm_X8_linkBox) (cells := 0) (slots := 0) (pc2 := 78) rfl dX8_linkBelow_75 n_X8_linkBox l_BoxYard_Tasks_109 i_X8_linkBox e_X8_linkBox (ci := 8) rfl rfl (by decide) g39 rfl rfl (by decide) (by decide) (by decide) (k_X8_linkBox c38) ?_
            exact y_iretF hf dX8_linkBelow_78 rfl (by decide) (by decide)
      · replace hf := y_it c46 hf
        exact y_pk [0] rfl (hj26 _ _ hf)
theorem dX8_addOfBox_0 : decode cX8_addOfBox 0 = .ok (.aload_n 0, 1) := by decide +kernel
theorem dX8_addOfBox_1 : decode cX8_addOfBox 1 = .ok (.getfield 42, 3) := by decide +kernel
theorem dX8_addOfBox_4 : decode cX8_addOfBox 4 = .ok (.aload_n 0, 1) := by decide +kernel
theorem dX8_addOfBox_5 : decode cX8_addOfBox 5 = .ok (.getfield 28, 3) := by decide +kernel
theorem dX8_addOfBox_8 : decode cX8_addOfBox 8 = .ok (.invokevirtual 103, 3) := by decide +kernel
theorem dX8_addOfBox_11 : decode cX8_addOfBox 11 = .ok (.astore_n 2, 1) := by decide +kernel
theorem dX8_addOfBox_12 : decode cX8_addOfBox 12 = .ok (.aload_n 0, 1) := by decide +kernel
theorem dX8_addOfBox_13 : decode cX8_addOfBox 13 = .ok (.iconst 0, 1) := by decide +kernel
theorem dX8_addOfBox_14 : decode cX8_addOfBox 14 = .ok (.invokevirtual 169, 3) := by decide +kernel
theorem dX8_addOfBox_17 : decode cX8_addOfBox 17 = .ok (.istore_n 3, 1) := by decide +kernel
theorem dX8_addOfBox_18 : decode cX8_addOfBox 18 = .ok (.iload_n 3, 1) := by decide +kernel
theorem dX8_addOfBox_19 : decode cX8_addOfBox 19 = .ok (.ifCond .ne 7, 3) := by decide +kernel
theorem dX8_addOfBox_22 : decode cX8_addOfBox 22 = .ok (.aload_n 2, 1) := by decide +kernel
theorem dX8_addOfBox_23 : decode cX8_addOfBox 23 = .ok (.ifnonnull 5, 3) := by decide +kernel
theorem dX8_addOfBox_26 : decode cX8_addOfBox 26 = .ok (.iload_n 3, 1) := by decide +kernel
theorem dX8_addOfBox_27 : decode cX8_addOfBox 27 = .ok (.ireturn, 1) := by decide +kernel
theorem dX8_addOfBox_28 : decode cX8_addOfBox 28 = .ok (.iload_n 1, 1) := by decide +kernel
theorem dX8_addOfBox_29 : decode cX8_addOfBox 29 = .ok (.iconst 3, 1) := by decide +kernel
theorem dX8_addOfBox_30 : decode cX8_addOfBox 30 = .ok (.if_icmp .ne 13, 3) := by decide +kernel
theorem dX8_addOfBox_33 : decode cX8_addOfBox 33 = .ok (.aload_n 2, 1) := by decide +kernel
theorem dX8_addOfBox_34 : decode cX8_addOfBox 34 = .ok (.iconst 1, 1) := by decide +kernel
theorem dX8_addOfBox_35 : decode cX8_addOfBox 35 = .ok (.invokevirtual 202, 3) := by decide +kernel
theorem dX8_addOfBox_38 : decode cX8_addOfBox 38 = .ok (.ifCond .ne 5, 3) := by decide +kernel
theorem dX8_addOfBox_41 : decode cX8_addOfBox 41 = .ok (.iconst 5, 1) := by decide +kernel
theorem dX8_addOfBox_42 : decode cX8_addOfBox 42 = .ok (.ireturn, 1) := by decide +kernel
theorem dX8_addOfBox_43 : decode cX8_addOfBox 43 = .ok (.iload_n 1, 1) := by decide +kernel
theorem dX8_addOfBox_44 : decode cX8_addOfBox 44 = .ok (.tableswitch 124 0 3 #[32, 55, 78, 101], 32) := by decide +kernel
theorem dX8_addOfBox_76 : decode cX8_addOfBox 76 = .ok (.aload_n 0, 1) := by decide +kernel
theorem dX8_addOfBox_77 : decode cX8_addOfBox 77 = .ok (.dup, 1) := by decide +kernel
theorem dX8_addOfBox_78 : decode cX8_addOfBox 78 = .ok (.getfield 56, 3) := by decide +kernel
theorem dX8_addOfBox_81 : decode cX8_addOfBox 81 = .ok (.aload_n 2, 1) := by decide +kernel
theorem dX8_addOfBox_82 : decode cX8_addOfBox 82 = .ok (.aload_n 0, 1) := by decide +kernel
theorem dX8_addOfBox_83 : decode cX8_addOfBox 83 = .ok (.getfield 42, 3) := by decide +kernel
theorem dX8_addOfBox_86 : decode cX8_addOfBox 86 = .ok (.getfield 205, 3) := by decide +kernel
theorem dX8_addOfBox_89 : decode cX8_addOfBox 89 = .ok (.invokevirtual 209, 3) := by decide +kernel
theorem dX8_addOfBox_92 : decode cX8_addOfBox 92 = .ok (.i2l, 1) := by decide +kernel
theorem dX8_addOfBox_93 : decode cX8_addOfBox 93 = .ok (.ladd, 1) := by decide +kernel
theorem dX8_addOfBox_94 : decode cX8_addOfBox 94 = .ok (.putfield 56, 3) := by decide +kernel
theorem dX8_addOfBox_97 : decode cX8_addOfBox 97 = .ok (.iconst 0, 1) := by decide +kernel
theorem dX8_addOfBox_98 : decode cX8_addOfBox 98 = .ok (.ireturn, 1) := by decide +kernel
theorem dX8_addOfBox_99 : decode cX8_addOfBox 99 = .ok (.aload_n 0, 1) := by decide +kernel
theorem dX8_addOfBox_100 : decode cX8_addOfBox 100 = .ok (.dup, 1) := by decide +kernel
theorem dX8_addOfBox_101 : decode cX8_addOfBox 101 = .ok (.getfield 56, 3) := by decide +kernel
theorem dX8_addOfBox_104 : decode cX8_addOfBox 104 = .ok (.aload_n 2, 1) := by decide +kernel
theorem dX8_addOfBox_105 : decode cX8_addOfBox 105 = .ok (.aload_n 0, 1) := by decide +kernel
theorem dX8_addOfBox_106 : decode cX8_addOfBox 106 = .ok (.getfield 42, 3) := by decide +kernel
theorem dX8_addOfBox_109 : decode cX8_addOfBox 109 = .ok (.getfield 205, 3) := by decide +kernel
theorem dX8_addOfBox_112 : decode cX8_addOfBox 112 = .ok (.invokevirtual 213, 3) := by decide +kernel
theorem dX8_addOfBox_115 : decode cX8_addOfBox 115 = .ok (.i2l, 1) := by decide +kernel
theorem dX8_addOfBox_116 : decode cX8_addOfBox 116 = .ok (.ladd, 1) := by decide +kernel
theorem dX8_addOfBox_117 : decode cX8_addOfBox 117 = .ok (.putfield 56, 3) := by decide +kernel
theorem dX8_addOfBox_120 : decode cX8_addOfBox 120 = .ok (.iconst 0, 1) := by decide +kernel
theorem dX8_addOfBox_121 : decode cX8_addOfBox 121 = .ok (.ireturn, 1) := by decide +kernel
theorem dX8_addOfBox_122 : decode cX8_addOfBox 122 = .ok (.aload_n 0, 1) := by decide +kernel
theorem dX8_addOfBox_123 : decode cX8_addOfBox 123 = .ok (.dup, 1) := by decide +kernel
theorem dX8_addOfBox_124 : decode cX8_addOfBox 124 = .ok (.getfield 56, 3) := by decide +kernel
theorem dX8_addOfBox_127 : decode cX8_addOfBox 127 = .ok (.aload_n 2, 1) := by decide +kernel
theorem dX8_addOfBox_128 : decode cX8_addOfBox 128 = .ok (.aload_n 0, 1) := by decide +kernel
theorem dX8_addOfBox_129 : decode cX8_addOfBox 129 = .ok (.getfield 42, 3) := by decide +kernel
theorem dX8_addOfBox_132 : decode cX8_addOfBox 132 = .ok (.getfield 205, 3) := by decide +kernel
theorem dX8_addOfBox_135 : decode cX8_addOfBox 135 = .ok (.invokevirtual 216, 3) := by decide +kernel
theorem dX8_addOfBox_138 : decode cX8_addOfBox 138 = .ok (.i2l, 1) := by decide +kernel
theorem dX8_addOfBox_139 : decode cX8_addOfBox 139 = .ok (.ladd, 1) := by decide +kernel
theorem dX8_addOfBox_140 : decode cX8_addOfBox 140 = .ok (.putfield 56, 3) := by decide +kernel
theorem dX8_addOfBox_143 : decode cX8_addOfBox 143 = .ok (.iconst 0, 1) := by decide +kernel
theorem dX8_addOfBox_144 : decode cX8_addOfBox 144 = .ok (.ireturn, 1) := by decide +kernel
theorem dX8_addOfBox_145 : decode cX8_addOfBox 145 = .ok (.aload_n 0, 1) := by decide +kernel
theorem dX8_addOfBox_146 : decode cX8_addOfBox 146 = .ok (.dup, 1) := by decide +kernel
theorem dX8_addOfBox_147 : decode cX8_addOfBox 147 = .ok (.getfield 56, 3) := by decide +kernel
theorem dX8_addOfBox_150 : decode cX8_addOfBox 150 = .ok (.aload_n 2, 1) := by decide +kernel
theorem dX8_addOfBox_151 : decode cX8_addOfBox 151 = .ok (.aload_n 0, 1) := by decide +kernel
theorem dX8_addOfBox_152 : decode cX8_addOfBox 152 = .ok (.getfield 42, 3) := by decide +kernel
theorem dX8_addOfBox_155 : decode cX8_addOfBox 155 = .ok (.getfield 205, 3) := by decide +kernel
theorem dX8_addOfBox_158 : decode cX8_addOfBox 158 = .ok (.invokevirtual 219, 3) := by decide +kernel
theorem dX8_addOfBox_161 : decode cX8_addOfBox 161 = .ok (.i2l, 1) := by decide +kernel
theorem dX8_addOfBox_162 : decode cX8_addOfBox 162 = .ok (.ladd, 1) := by decide +kernel
theorem dX8_addOfBox_163 : decode cX8_addOfBox 163 = .ok (.putfield 56, 3) := by decide +kernel
theorem dX8_addOfBox_166 : decode cX8_addOfBox 166 = .ok (.iconst 0, 1) := by decide +kernel
theorem dX8_addOfBox_167 : decode cX8_addOfBox 167 = .ok (.ireturn, 1) := by decide +kernel
theorem dX8_addOfBox_168 : decode cX8_addOfBox 168 = .ok (.aload_n 0, 1) := by decide +kernel
theorem dX8_addOfBox_169 : decode cX8_addOfBox 169 = .ok (.dup, 1) := by decide +kernel
theorem dX8_addOfBox_170 : decode cX8_addOfBox 170 = .ok (.getfield 56, 3) := by decide +kernel
theorem dX8_addOfBox_173 : decode cX8_addOfBox 173 = .ok (.aload_n 2, 1) := by decide +kernel
theorem dX8_addOfBox_174 : decode cX8_addOfBox 174 = .ok (.invokevirtual 222, 3) := by decide +kernel
theorem dX8_addOfBox_177 : decode cX8_addOfBox 177 = .ok (.i2l, 1) := by decide +kernel
theorem dX8_addOfBox_178 : decode cX8_addOfBox 178 = .ok (.ladd, 1) := by decide +kernel
theorem dX8_addOfBox_179 : decode cX8_addOfBox 179 = .ok (.putfield 56, 3) := by decide +kernel
theorem dX8_addOfBox_182 : decode cX8_addOfBox 182 = .ok (.iconst 0, 1) := by decide +kernel
theorem dX8_addOfBox_183 : decode cX8_addOfBox 183 = .ok (.ireturn, 1) := by decide +kernel
def M_X8_addOfBox : y_M := (yX8_addOfBox, cX8_addOfBox, 4, (Option.some Jvm.ClassFile.FieldType.int))
theorem n_X8_addOfBox : y_N0 M_X8_addOfBox 1 := ⟨(c_6 199 (by decide +kernel) rfl), (c_1 8 (by decide +kernel) rfl), ⟨by decide +kernel, by decide +kernel⟩, by decide +kernel⟩
theorem F_BoxYard_Tasks_56 : y_F "BoxYard$Tasks" 56 8 9 := ⟨_, _, _, rfl, by decide, Or.inl (c_2 34 (by decide +kernel) rfl)⟩
theorem F_BoxYard_Tasks_205 : y_F "BoxYard$Tasks" 205 10 12 := ⟨_, _, _, rfl, by decide, Or.inr ⟨"BoxYard", (c_1 79 (by decide +kernel) rfl)⟩⟩
theorem l_BoxYard_Tasks_209 : y_lnk "BoxYard$Tasks" 209 M_X2_bears := Or.inl (c_6 201 (by decide +kernel) rfl)
theorem l_BoxYard_Tasks_213 : y_lnk "BoxYard$Tasks" 213 M_X2_tall := Or.inl (c_6 202 (by decide +kernel) rfl)
theorem l_BoxYard_Tasks_216 : y_lnk "BoxYard$Tasks" 216 M_X2_fee := Or.inl (c_6 203 (by decide +kernel) rfl)
theorem i_X2_fee : Cond.instanceMethod (M_X2_fee).1 ∈ y_tb := (c_3 0 (by decide +kernel) rfl)
theorem e_X2_fee : Cond.selects (M_X2_fee).1.cls (M_X2_fee).1 (M_X2_fee).1 ∈ y_tb := (c_3 1 (by decide +kernel) rfl)
theorem l_BoxYard_Tasks_219 : y_lnk "BoxYard$Tasks" 219 M_X2_watts := Or.inl (c_6 204 (by decide +kernel) rfl)
theorem i_X2_watts : Cond.instanceMethod (M_X2_watts).1 ∈ y_tb := (c_3 12 (by decide +kernel) rfl)
theorem e_X2_watts : Cond.selects (M_X2_watts).1.cls (M_X2_watts).1 (M_X2_watts).1 ∈ y_tb := (c_3 13 (by decide +kernel) rfl)
theorem l_BoxYard_Tasks_222 : y_lnk "BoxYard$Tasks" 222 M_X2_known := Or.inl (c_6 205 (by decide +kernel) rfl)
theorem l_BoxYard_Tasks_202 : y_lnk "BoxYard$Tasks" 202 M_X2_isOf := Or.inl (c_6 200 (by decide +kernel) rfl)
set_option maxRecDepth 100000 in
def f_X8_addOfBox (p0 : Nat) (p1 : Int32) (h : y_H) : Option (Int32 × y_H) :=
  if y_K h p0 = 9 then
  if y_K h p0 = 9 then
  if y_K h (y_P h p0 0) = 11 then
  y_cl (f_X10_boxAt (y_P h p0 0) (y_I h p0 8) h) (fun r1 h2 =>
  if y_K h2 p0 = 9 then
  y_cl (f_X8_asKind p0 0 h2) (fun r4 h5 =>
  y_jn (fun (v3_26 : Int32) (h7 : y_H) => (
      some (v3_26, h7) : Option (Int32 × y_H))) (fun j26 =>
  if r4 = 0 then
    if r1 = 0 then
      j26 r4 h5
    else
      y_jn (fun (v0_43 : Nat) (v1_43 : Int32) (v2_43 : Nat) (h8 : y_H) => (
          if v1_43 = 0 then
            if y_K h8 v0_43 = 9 then
            if y_K h8 v0_43 = 9 then
            if y_K h8 (y_P h8 v0_43 0) = 11 then
            if y_K h8 v2_43 = 3 then
            y_cl (f_X2_bears v2_43 (y_P h8 (y_P h8 v0_43 0) 12) h8) (fun r10 h11 =>
            if y_K h11 v0_43 = 9 then
            y_bd (s_L h11 v0_43 9 ((y_L h8 v0_43 9) + (Int32.toInt64 r10))) (fun h13 =>
            some (0, h13))
            else none)
            else none
            else none
            else none
            else none
          else
          if v1_43 = 1 then
            if y_K h8 v0_43 = 9 then
            if y_K h8 v0_43 = 9 then
            if y_K h8 (y_P h8 v0_43 0) = 11 then
            if y_K h8 v2_43 = 3 then
            y_cl (f_X2_tall v2_43 (y_P h8 (y_P h8 v0_43 0) 12) h8) (fun r21 h22 =>
            if y_K h22 v0_43 = 9 then
            y_bd (s_L h22 v0_43 9 ((y_L h8 v0_43 9) + (Int32.toInt64 r21))) (fun h24 =>
            some (0, h24))
            else none)
            else none
            else none
            else none
            else none
          else
          if v1_43 = 2 then
            if y_K h8 v0_43 = 9 then
            if y_K h8 v0_43 = 9 then
            if y_K h8 (y_P h8 v0_43 0) = 11 then
            if y_K h8 v2_43 = 3 then
            y_cl (f_X2_fee v2_43 (y_P h8 (y_P h8 v0_43 0) 12) h8) (fun r32 h33 =>
            if y_K h33 v0_43 = 9 then
            y_bd (s_L h33 v0_43 9 ((y_L h8 v0_43 9) + (Int32.toInt64 r32))) (fun h35 =>
            some (0, h35))
            else none)
            else none
            else none
            else none
            else none
          else
          if v1_43 = 3 then
            if y_K h8 v0_43 = 9 then
            if y_K h8 v0_43 = 9 then
            if y_K h8 (y_P h8 v0_43 0) = 11 then
            if y_K h8 v2_43 = 3 then
            y_cl (f_X2_watts v2_43 (y_P h8 (y_P h8 v0_43 0) 12) h8) (fun r43 h44 =>
            if y_K h44 v0_43 = 9 then
            y_bd (s_L h44 v0_43 9 ((y_L h8 v0_43 9) + (Int32.toInt64 r43))) (fun h46 =>
            some (0, h46))
            else none)
            else none
            else none
            else none
            else none
          else
          if y_K h8 v0_43 = 9 then
          if y_K h8 v2_43 = 3 then
          y_cl (f_X2_known v2_43 h8) (fun r53 h54 =>
          if y_K h54 v0_43 = 9 then
          y_bd (s_L h54 v0_43 9 ((y_L h8 v0_43 9) + (Int32.toInt64 r53))) (fun h56 =>
          some (0, h56))
          else none)
          else none
          else none : Option (Int32 × y_H))) (fun j43 =>
      if p1 = 3 then
        if y_K h5 r1 = 3 then
        y_cl (f_X2_isOf r1 1 h5) (fun r61 h62 =>
        if r61 = true then
          j43 p0 p1 r1 h62
        else
          some (5, h62))
        else none
      else
        j43 p0 p1 r1 h5)
  else
    j26 r4 h5))
  else none)
  else none
  else none
  else none
abbrev rm_X8_addOfBox : Room := { frames := 3, cells := 0, slots := 0, locals := 63 }
set_option maxRecDepth 100000 in
set_option maxHeartbeats 4000000 in
theorem k_X8_addOfBox {l : Launch} {G : y_G} {p0 : Nat} {p1 : Int32} {h hz : y_H} {rz : Int32} (hf : f_X8_addOfBox p0 p1 h = some (rz, hz)) : y_S l G M_X8_addOfBox rm_X8_addOfBox [y_p p0, .int p1] h (some (.int rz)) hz := by
  refine y_start (lv := [(0, y_p p0), (1, .int p1)]) (by decide) (by simp [lg_sl, y_p_cat, y_ci, y_cj, M_X8_addOfBox]) (by simp [lv_args, y_p_cat, y_ci, y_cj]) (fun z ad0 => ?_)
  unfold f_X8_addOfBox at hf
  refine y_aload_n (x := p0) (pc2 := 1) rfl dX8_addOfBox_0 rfl ?_
  obtain ⟨g72, hf⟩ := y_g hf
  refine y_getP (pc2 := 4) rfl dX8_addOfBox_1 F_BoxYard_Tasks_42 (by decide) rfl g72 ?_
  refine y_aload_n (x := p0) (pc2 := 5) rfl dX8_addOfBox_4 rfl ?_
  obtain ⟨g71, hf⟩ := y_g hf
  refine y_getI (pc2 := 8) rfl dX8_addOfBox_5 F_BoxYard_Tasks_28 (by decide) rfl g71 ?_
  obtain ⟨g70, hf⟩ := y_g hf
  obtain ⟨r1, h2, c3, hf⟩ := y_clE hf
  refine y_callV (As := [.int (y_I h p0 8)]) (rm := rm_X10_boxAt) (cells := 0) (slots := 0) (pc2 := 11) rfl dX8_addOfBox_8 n_X10_boxAt l_BoxYard_Tasks_103 i_X10_boxAt e_X10_boxAt (ci := 10) rfl rfl (by decide) g70 rfl rfl (by decide) (by decide) (by decide) (k_X10_boxAt c3) ?_
  refine y_astore_n (lv' := [(2, y_p r1), (0, y_p p0), (1, .int p1)]) (pc2 := 12) rfl dX8_addOfBox_11 (by decide) rfl ?_
  refine y_aload_n (x := p0) (pc2 := 13) rfl dX8_addOfBox_12 rfl ?_
  refine y_iconst (v := 0) (pc2 := 14) rfl dX8_addOfBox_13 (by decide) ?_
  obtain ⟨g69, hf⟩ := y_g hf
  obtain ⟨r4, h5, c6, hf⟩ := y_clE hf
  refine y_callV (As := [.int 0]) (rm := rm_X8_asKind) (cells := 0) (slots := 0) (pc2 := 17) rfl dX8_addOfBox_14 n_X8_asKind l_BoxYard_Tasks_169 i_X8_asKind e_X8_asKind (ci := 8) rfl rfl (by decide) g69 rfl rfl (by decide) (by decide) (by decide) (k_X8_asKind c6) ?_
  refine y_istore_n (lv' := [(3, .int r4), (2, y_p r1), (0, y_p p0), (1, .int p1)]) (pc2 := 18) rfl dX8_addOfBox_17 (by decide) (by show y_st1 _ 3 _ = _; simp [y_st1, y_p_cat, y_ci, y_cj]) ?_
  refine y_iload_n (pc2 := 19) rfl dX8_addOfBox_18 rfl ?_
  refine y_jnE hf (fun j => ∀ (v3_26 : Int32) (h7 : y_H), j v3_26 h7 = some (rz, hz) → y_V l G z rm_X8_addOfBox M_X8_addOfBox ad0 h (some (.int rz)) hz 26 [(3, .int v3_26)] [] h7 0 0) (fun v3_26 h7 hf => ?_) (fun j26 hj26 hf => ?_)
  · refine y_iload_n (pc2 := 27) rfl dX8_addOfBox_26 rfl ?_
    exact y_iretF hf dX8_addOfBox_27 rfl (by decide) (by decide)
  · refine y_if_ne (tgt := 26) (pc2 := 22) rfl dX8_addOfBox_19 (by decide) (fun c68 => ?_) (fun c68 => ?_)
    · replace hf := y_ie c68 hf
      exact y_pk [0] rfl (hj26 _ _ hf)
    · replace hf := y_it c68 hf
      refine y_aload_n (x := r1) (pc2 := 23) rfl dX8_addOfBox_22 rfl ?_
      refine y_ifnonnull (tgt := 28) (pc2 := 26) rfl dX8_addOfBox_23 (by decide) (fun c67 => ?_) (fun c67 => ?_)
      · replace hf := y_ie c67 hf
        refine y_iload_n (pc2 := 29) rfl dX8_addOfBox_28 rfl ?_
        refine y_iconst (v := 3) (pc2 := 30) rfl dX8_addOfBox_29 (by decide) ?_
        refine y_jnE hf (fun j => ∀ (v0_43 : Nat) (v1_43 : Int32) (v2_43 : Nat) (h8 : y_H), j v0_43 v1_43 v2_43 h8 = some (rz, hz) → y_V l G z rm_X8_addOfBox M_X8_addOfBox ad0 h (some (.int rz)) hz 43 [(0, y_p v0_43), (1, .int v1_43), (2, y_p v2_43)] [] h8 0 0) (fun v0_43 v1_43 v2_43 h8 hf => ?_) (fun j43 hj43 hf => ?_)
        · refine y_iload_n (pc2 := 44) rfl dX8_addOfBox_43 rfl ?_
          by_cases c9 : v1_43 = 0
          · replace hf := y_it c9 hf
            refine y_table (off := 32) (tgt := 76) dX8_addOfBox_44 (by (rw [c9]) <;> decide) (by decide) ?_
            refine y_aload_n (x := v0_43) (pc2 := 77) rfl dX8_addOfBox_76 rfl ?_
            refine y_dup (pc2 := 78) rfl dX8_addOfBox_77 (y_p_cat _) ?_
            obtain ⟨g19, hf⟩ := y_g hf
            refine y_getL (pc2 := 81) rfl dX8_addOfBox_78 F_BoxYard_Tasks_56 (by decide) rfl g19 ?_
            refine y_aload_n (x := v2_43) (pc2 := 82) rfl dX8_addOfBox_81 rfl ?_
            refine y_aload_n (x := v0_43) (pc2 := 83) rfl dX8_addOfBox_82 rfl ?_
            obtain ⟨g18, hf⟩ := y_g hf
            refine y_getP (pc2 := 86) rfl dX8_addOfBox_83 F_BoxYard_Tasks_42 (by decide) rfl g18 ?_
            obtain ⟨g17, hf⟩ := y_g hf
            refine y_getP (pc2 := 89) rfl dX8_addOfBox_86 F_BoxYard_Tasks_205 (by decide) rfl g17 ?_
            obtain ⟨g16, hf⟩ := y_g hf
            obtain ⟨r10, h11, c12, hf⟩ := y_clE hf
            refine y_callV (As := [y_p (y_P h8 (y_P h8 v0_43 0) 12)]) (rm := rm_X2_bears) (cells := 0) (slots := 0) (pc2 := 92) rfl dX8_addOfBox_89 n_X2_bears l_BoxYard_Tasks_209 i_X2_bears e_X2_bears (ci := 2) rfl rfl (by decide) g16 rfl rfl (by decide) (by simp [y_ci, y_cj, y_p_cat]) (by decide) (k_X2_bears c12) ?_
            refine y_i2l (pc2 := 93) rfl dX8_addOfBox_92 ?_
            refine y_ladd (pc2 := 94) rfl dX8_addOfBox_93 ?_
            obtain ⟨g15, hf⟩ := y_g hf
            obtain ⟨h13, e14, hf⟩ := y_bdE hf
            refine y_putL (x := (y_L h8 v0_43 9) + (Int32.toInt64 r10)) (pc2 := 97) rfl dX8_addOfBox_94 Fp_BoxYard_Tasks_56 (by decide) rfl g15 e14 ?_
            refine y_iconst (v := 0) (pc2 := 98) rfl dX8_addOfBox_97 (by decide) ?_
            exact y_iretF hf dX8_addOfBox_98 rfl (by decide) (by decide)
          · replace hf := y_ie c9 hf
            by_cases c20 : v1_43 = 1
            · replace hf := y_it c20 hf
              refine y_table (off := 55) (tgt := 99) dX8_addOfBox_44 (by (rw [c20]) <;> decide) (by decide) ?_
              refine y_aload_n (x := v0_43) (pc2 := 100) rfl dX8_addOfBox_99 rfl ?_
              refine y_dup (pc2 := 101) rfl dX8_addOfBox_100 (y_p_cat _) ?_
              obtain ⟨g30, hf⟩ := y_g hf
              refine y_getL (pc2 := 104) rfl dX8_addOfBox_101 F_BoxYard_Tasks_56 (by decide) rfl g30 ?_
              refine y_aload_n (x := v2_43) (pc2 := 105) rfl dX8_addOfBox_104 rfl ?_
              refine y_aload_n (x := v0_43) (pc2 := 106) rfl dX8_addOfBox_105 rfl ?_
              obtain ⟨g29, hf⟩ := y_g hf
              refine y_getP (pc2 := 109) rfl dX8_addOfBox_106 F_BoxYard_Tasks_42 (by decide) rfl g29 ?_
              obtain ⟨g28, hf⟩ := y_g hf
              refine y_getP (pc2 := 112) rfl dX8_addOfBox_109 F_BoxYard_Tasks_205 (by decide) rfl g28 ?_
              obtain ⟨g27, hf⟩ := y_g hf
              obtain ⟨r21, h22, c23, hf⟩ := y_clE hf
              refine y_callV (As := [y_p (y_P h8 (y_P h8 v0_43 0) 12)]) (rm := rm_X2_tall) (cells := 0) (slots := 0) (pc2 := 115) rfl dX8_addOfBox_112 n_X2_tall l_BoxYard_Tasks_213 i_X2_tall e_X2_tall (ci := 2) rfl rfl (by decide) g27 rfl rfl (by decide) (by simp [y_ci, y_cj, y_p_cat]) (by decide) (k_X2_tall c23) ?_
              refine y_i2l (pc2 := 116) rfl dX8_addOfBox_115 ?_
              refine y_ladd (pc2 := 117) rfl dX8_addOfBox_116 ?_
              obtain ⟨g26, hf⟩ := y_g hf
              obtain ⟨h24, e25, hf⟩ := y_bdE hf
              refine y_putL (x := (y_L h8 v0_43 9) + (Int32.toInt64 r21)) (pc2 := 120) rfl dX8_addOfBox_117 Fp_BoxYard_Tasks_56 (by decide) rfl g26 e25 ?_
              refine y_iconst (v := 0) (pc2 := 121) rfl dX8_addOfBox_120 (by decide) ?_
              exact y_iretF hf dX8_addOfBox_121 rfl (by decide) (by decide)
            · replace hf := y_ie c20 hf
              by_cases c31 : v1_43 = 2
              · replace hf := y_it c31 hf
                refine y_table (off := 78) (tgt := 122) dX8_addOfBox_44 (by (rw [c31]) <;> decide) (by decide) ?_
                refine y_aload_n (x := v0_43) (pc2 := 123) rfl dX8_addOfBox_122 rfl ?_
                refine y_dup (pc2 := 124) rfl dX8_addOfBox_123 (y_p_cat _) ?_
                obtain ⟨g41, hf⟩ := y_g hf
                refine y_getL (pc2 := 127) rfl dX8_addOfBox_124 F_BoxYard_Tasks_56 (by decide) rfl g41 ?_
                refine y_aload_n (x := v2_43) (pc2 := 128) rfl dX8_addOfBox_127 rfl ?_
                refine y_aload_n (x := v0_43) (pc2 := 129) rfl dX8_addOfBox_128 rfl ?_
                obtain ⟨g40, hf⟩ := y_g hf
                refine y_getP (pc2 := 132) rfl dX8_addOfBox_129 F_BoxYard_Tasks_42 (by decide) rfl g40 ?_
                obtain ⟨g39, hf⟩ := y_g hf
                refine y_getP (pc2 := 135) rfl dX8_addOfBox_132 F_BoxYard_Tasks_205 (by decide) rfl g39 ?_
                obtain ⟨g38, hf⟩ := y_g hf
                obtain ⟨r32, h33, c34, hf⟩ := y_clE hf
                refine y_callV (As := [y_p (y_P h8 (y_P h8 v0_43 0) 12)]) (rm := rm_X2_fee) (cells := 0) (slots := 0) (pc2 := 138) rfl dX8_addOfBox_135 n_X2_fee l_BoxYard_Tasks_216 i_X2_fee e_X2_fee (ci := 2) rfl rfl (by decide) g38 rfl rfl (by decide) (by simp [y_ci, y_cj, y_p_cat]) (by decide) (k_X2_fee c34) ?_
                refine y_i2l (pc2 := 139) rfl dX8_addOfBox_138 ?_
                refine y_ladd (pc2 := 140) rfl dX8_addOfBox_139 ?_
                obtain ⟨g37, hf⟩ := y_g hf
                obtain ⟨h35, e36, hf⟩ := y_bdE hf
                refine y_putL (x := (y_L h8 v0_43 9) + (Int32.toInt64 r32)) (pc2 := 143) rfl dX8_addOfBox_140 Fp_BoxYard_Tasks_56 (by decide) rfl g37 e36 ?_
                refine y_iconst (v := 0) (pc2 := 144) rfl dX8_addOfBox_143 (by decide) ?_
                exact y_iretF hf dX8_addOfBox_144 rfl (by decide) (by decide)
              · replace hf := y_ie c31 hf
                by_cases c42 : v1_43 = 3
                · replace hf := y_it c42 hf
                  refine y_table (off := 101) (tgt := 145) dX8_addOfBox_44 (by (rw [c42]) <;> decide) (by decide) ?_
                  refine y_aload_n (x := v0_43) (pc2 := 146) rfl dX8_addOfBox_145 rfl ?_
                  refine y_dup (pc2 := 147) rfl dX8_addOfBox_146 (y_p_cat _) ?_
                  obtain ⟨g52, hf⟩ := y_g hf
                  refine y_getL (pc2 := 150) rfl dX8_addOfBox_147 F_BoxYard_Tasks_56 (by decide) rfl g52 ?_
                  refine y_aload_n (x := v2_43) (pc2 := 151) rfl dX8_addOfBox_150 rfl ?_
                  refine y_aload_n (x := v0_43) (pc2 := 152) rfl dX8_addOfBox_151 rfl ?_
                  obtain ⟨g51, hf⟩ := y_g hf
                  refine y_getP (pc2 := 155) rfl dX8_addOfBox_152 F_BoxYard_Tasks_42 (by decide) rfl g51 ?_
                  obtain ⟨g50, hf⟩ := y_g hf
                  refine y_getP (pc2 := 158) rfl dX8_addOfBox_155 F_BoxYard_Tasks_205 (by decide) rfl g50 ?_
                  obtain ⟨g49, hf⟩ := y_g hf
                  obtain ⟨r43, h44, c45, hf⟩ := y_clE hf
                  refine y_callV (As := [y_p (y_P h8 (y_P h8 v0_43 0) 12)]) (rm := rm_X2_watts) (cells := 0) (slots := 0) (pc2 := 161) rfl dX8_addOfBox_158 n_X2_watts l_BoxYard_Tasks_219 i_X2_watts e_X2_watts (ci := 2) rfl rfl (by decide) g49 rfl rfl (by decide) (by simp [y_ci, y_cj, y_p_cat]) (by decide) (k_X2_watts c45) ?_
                  refine y_i2l (pc2 := 162) rfl dX8_addOfBox_161 ?_
                  refine y_ladd (pc2 := 163) rfl dX8_addOfBox_162 ?_
                  obtain ⟨g48, hf⟩ := y_g hf
                  obtain ⟨h46, e47, hf⟩ := y_bdE hf
                  refine y_putL (x := (y_L h8 v0_43 9) + (Int32.toInt64 r43)) (pc2 := 166) rfl dX8_addOfBox_163 Fp_BoxYard_Tasks_56 (by decide) rfl g48 e47 ?_
                  refine y_iconst (v := 0) (pc2 := 167) rfl dX8_addOfBox_166 (by decide) ?_
                  exact y_iretF hf dX8_addOfBox_167 rfl (by decide) (by decide)
                · replace hf := y_ie c42 hf
                  refine y_table (off := 124) (tgt := 168) dX8_addOfBox_44 ((if_pos (by have q0 := lv_neT c9 (a := 0) (by decide); have q1 := lv_neT c20 (a := 1) (by decide); have q2 := lv_neT c31 (a := 2) (by decide); have q3 := lv_neT c42 (a := 3) (by decide); omega))) (by decide) ?_
                  refine y_aload_n (x := v0_43) (pc2 := 169) rfl dX8_addOfBox_168 rfl ?_
                  refine y_dup (pc2 := 170) rfl dX8_addOfBox_169 (y_p_cat _) ?_
                  obtain ⟨g60, hf⟩ := y_g hf
                  refine y_getL (pc2 := 173) rfl dX8_addOfBox_170 F_BoxYard_Tasks_56 (by decide) rfl g60 ?_
                  refine y_aload_n (x := v2_43) (pc2 := 174) rfl dX8_addOfBox_173 rfl ?_
                  obtain ⟨g59, hf⟩ := y_g hf
                  obtain ⟨r53, h54, c55, hf⟩ := y_clE hf
                  refine y_callV (As := []) (rm := rm_X2_known) (cells := 0) (slots := 0) (pc2 := 177) rfl dX8_addOfBox_174 n_X2_known l_BoxYard_Tasks_222 i_X2_known e_X2_known (ci := 2) rfl rfl (by decide) g59 rfl rfl (by decide) (by simp [y_ci, y_cj, y_p_cat]) (by decide) (k_X2_known c55) ?_
                  refine y_i2l (pc2 := 178) rfl dX8_addOfBox_177 ?_
                  refine y_ladd (pc2 := 179) rfl dX8_addOfBox_178 ?_
                  obtain ⟨g58, hf⟩ := y_g hf
                  obtain ⟨h56, e57, hf⟩ := y_bdE hf
                  refine y_putL (x := (y_L h8 v0_43 9) + (Int32.toInt64 r53)) (pc2 := 182) rfl dX8_addOfBox_179 Fp_BoxYard_Tasks_56 (by decide) rfl g58 e57 ?_
                  refine y_iconst (v := 0) (pc2 := 183) rfl dX8_addOfBox_182 (by decide) ?_
                  exact y_iretF hf dX8_addOfBox_183 rfl (by decide) (by decide)
        · refine y_icmp_ne (tgt := 43) (pc2 := 33) rfl dX8_addOfBox_30 (by decide) (fun c66 => ?_) (fun c66 => ?_)
          · replace hf := y_ie c66 hf
            exact y_pk [2, 3, 1] rfl (hj43 _ _ _ _ hf)
          · replace hf := y_it c66 hf
            refine y_aload_n (x := r1) (pc2 := 34) rfl dX8_addOfBox_33 rfl ?_
            refine y_iconst (v := 1) (pc2 := 35) rfl dX8_addOfBox_34 (by decide) ?_
            obtain ⟨g65, hf⟩ := y_g hf
            obtain ⟨r61, h62, c63, hf⟩ := y_clE hf
            refine y_callV (As := [.int 1]) (rm := rm_X2_isOf) (cells := 0) (slots := 0) (pc2 := 38) rfl dX8_addOfBox_35 n_X2_isOf l_BoxYard_Tasks_202 i_X2_isOf e_X2_isOf (ci := 2) rfl rfl (by decide) g65 rfl rfl (by decide) (by decide) (by decide) (k_X2_isOf c63) ?_
            refine y_ifz_ne (tgt := 43) (pc2 := 41) rfl dX8_addOfBox_38 (by decide) (fun c64 => ?_) (fun c64 => ?_)
            · replace hf := y_it c64 hf
              exact y_pk [2, 3, 1] rfl (hj43 _ _ _ _ hf)
            · replace hf := y_ie c64 hf
              refine y_iconst (v := 5) (pc2 := 42) rfl dX8_addOfBox_41 (by decide) ?_
              exact y_iretF hf dX8_addOfBox_42 rfl (by decide) (by decide)
      · replace hf := y_it c67 hf
        exact y_pk [0] rfl (hj26 _ _ hf)
theorem dX8_addOfCrane_0 : decode cX8_addOfCrane 0 = .ok (.aload_n 0, 1) := by decide +kernel
theorem dX8_addOfCrane_1 : decode cX8_addOfCrane 1 = .ok (.getfield 42, 3) := by decide +kernel
theorem dX8_addOfCrane_4 : decode cX8_addOfCrane 4 = .ok (.aload_n 0, 1) := by decide +kernel
theorem dX8_addOfCrane_5 : decode cX8_addOfCrane 5 = .ok (.getfield 28, 3) := by decide +kernel
theorem dX8_addOfCrane_8 : decode cX8_addOfCrane 8 = .ok (.invokevirtual 113, 3) := by decide +kernel
theorem dX8_addOfCrane_11 : decode cX8_addOfCrane 11 = .ok (.astore_n 2, 1) := by decide +kernel
theorem dX8_addOfCrane_12 : decode cX8_addOfCrane 12 = .ok (.aload_n 0, 1) := by decide +kernel
theorem dX8_addOfCrane_13 : decode cX8_addOfCrane 13 = .ok (.iconst 1, 1) := by decide +kernel
theorem dX8_addOfCrane_14 : decode cX8_addOfCrane 14 = .ok (.invokevirtual 169, 3) := by decide +kernel
theorem dX8_addOfCrane_17 : decode cX8_addOfCrane 17 = .ok (.istore_n 3, 1) := by decide +kernel
theorem dX8_addOfCrane_18 : decode cX8_addOfCrane 18 = .ok (.iload_n 3, 1) := by decide +kernel
theorem dX8_addOfCrane_19 : decode cX8_addOfCrane 19 = .ok (.ifCond .ne 7, 3) := by decide +kernel
theorem dX8_addOfCrane_22 : decode cX8_addOfCrane 22 = .ok (.aload_n 2, 1) := by decide +kernel
theorem dX8_addOfCrane_23 : decode cX8_addOfCrane 23 = .ok (.ifnonnull 5, 3) := by decide +kernel
theorem dX8_addOfCrane_26 : decode cX8_addOfCrane 26 = .ok (.iload_n 3, 1) := by decide +kernel
theorem dX8_addOfCrane_27 : decode cX8_addOfCrane 27 = .ok (.ireturn, 1) := by decide +kernel
theorem dX8_addOfCrane_28 : decode cX8_addOfCrane 28 = .ok (.iload_n 1, 1) := by decide +kernel
theorem dX8_addOfCrane_29 : decode cX8_addOfCrane 29 = .ok (.ifCond .ne 27, 3) := by decide +kernel
theorem dX8_addOfCrane_32 : decode cX8_addOfCrane 32 = .ok (.aload_n 0, 1) := by decide +kernel
theorem dX8_addOfCrane_33 : decode cX8_addOfCrane 33 = .ok (.dup, 1) := by decide +kernel
theorem dX8_addOfCrane_34 : decode cX8_addOfCrane 34 = .ok (.getfield 56, 3) := by decide +kernel
theorem dX8_addOfCrane_37 : decode cX8_addOfCrane 37 = .ok (.aload_n 2, 1) := by decide +kernel
theorem dX8_addOfCrane_38 : decode cX8_addOfCrane 38 = .ok (.aload_n 0, 1) := by decide +kernel
theorem dX8_addOfCrane_39 : decode cX8_addOfCrane 39 = .ok (.getfield 42, 3) := by decide +kernel
theorem dX8_addOfCrane_42 : decode cX8_addOfCrane 42 = .ok (.getfield 205, 3) := by decide +kernel
theorem dX8_addOfCrane_45 : decode cX8_addOfCrane 45 = .ok (.invokevirtual 225, 3) := by decide +kernel
theorem dX8_addOfCrane_48 : decode cX8_addOfCrane 48 = .ok (.i2l, 1) := by decide +kernel
theorem dX8_addOfCrane_49 : decode cX8_addOfCrane 49 = .ok (.ladd, 1) := by decide +kernel
theorem dX8_addOfCrane_50 : decode cX8_addOfCrane 50 = .ok (.putfield 56, 3) := by decide +kernel
theorem dX8_addOfCrane_53 : decode cX8_addOfCrane 53 = .ok (.goto 46, 3) := by decide +kernel
theorem dX8_addOfCrane_56 : decode cX8_addOfCrane 56 = .ok (.iload_n 1, 1) := by decide +kernel
theorem dX8_addOfCrane_57 : decode cX8_addOfCrane 57 = .ok (.iconst 1, 1) := by decide +kernel
theorem dX8_addOfCrane_58 : decode cX8_addOfCrane 58 = .ok (.if_icmp .ne 27, 3) := by decide +kernel
theorem dX8_addOfCrane_61 : decode cX8_addOfCrane 61 = .ok (.aload_n 0, 1) := by decide +kernel
theorem dX8_addOfCrane_62 : decode cX8_addOfCrane 62 = .ok (.dup, 1) := by decide +kernel
theorem dX8_addOfCrane_63 : decode cX8_addOfCrane 63 = .ok (.getfield 56, 3) := by decide +kernel
theorem dX8_addOfCrane_66 : decode cX8_addOfCrane 66 = .ok (.aload_n 2, 1) := by decide +kernel
theorem dX8_addOfCrane_67 : decode cX8_addOfCrane 67 = .ok (.aload_n 0, 1) := by decide +kernel
theorem dX8_addOfCrane_68 : decode cX8_addOfCrane 68 = .ok (.getfield 42, 3) := by decide +kernel
theorem dX8_addOfCrane_71 : decode cX8_addOfCrane 71 = .ok (.getfield 205, 3) := by decide +kernel
theorem dX8_addOfCrane_74 : decode cX8_addOfCrane 74 = .ok (.invokevirtual 228, 3) := by decide +kernel
theorem dX8_addOfCrane_77 : decode cX8_addOfCrane 77 = .ok (.i2l, 1) := by decide +kernel
theorem dX8_addOfCrane_78 : decode cX8_addOfCrane 78 = .ok (.ladd, 1) := by decide +kernel
theorem dX8_addOfCrane_79 : decode cX8_addOfCrane 79 = .ok (.putfield 56, 3) := by decide +kernel
theorem dX8_addOfCrane_82 : decode cX8_addOfCrane 82 = .ok (.goto 17, 3) := by decide +kernel
theorem dX8_addOfCrane_85 : decode cX8_addOfCrane 85 = .ok (.aload_n 0, 1) := by decide +kernel
theorem dX8_addOfCrane_86 : decode cX8_addOfCrane 86 = .ok (.dup, 1) := by decide +kernel
theorem dX8_addOfCrane_87 : decode cX8_addOfCrane 87 = .ok (.getfield 56, 3) := by decide +kernel
theorem dX8_addOfCrane_90 : decode cX8_addOfCrane 90 = .ok (.aload_n 2, 1) := by decide +kernel
theorem dX8_addOfCrane_91 : decode cX8_addOfCrane 91 = .ok (.getfield 231, 3) := by decide +kernel
theorem dX8_addOfCrane_94 : decode cX8_addOfCrane 94 = .ok (.i2l, 1) := by decide +kernel
theorem dX8_addOfCrane_95 : decode cX8_addOfCrane 95 = .ok (.ladd, 1) := by decide +kernel
theorem dX8_addOfCrane_96 : decode cX8_addOfCrane 96 = .ok (.putfield 56, 3) := by decide +kernel
theorem dX8_addOfCrane_99 : decode cX8_addOfCrane 99 = .ok (.iconst 0, 1) := by decide +kernel
theorem dX8_addOfCrane_100 : decode cX8_addOfCrane 100 = .ok (.ireturn, 1) := by decide +kernel
def M_X8_addOfCrane : y_M := (yX8_addOfCrane, cX8_addOfCrane, 4, (Option.some Jvm.ClassFile.FieldType.int))
theorem n_X8_addOfCrane : y_N0 M_X8_addOfCrane 1 := ⟨(c_6 209 (by decide +kernel) rfl), (c_1 8 (by decide +kernel) rfl), ⟨by decide +kernel, by decide +kernel⟩, by decide +kernel⟩
theorem F_BoxYard_Tasks_231 : y_F "BoxYard$Tasks" 231 3 3 := ⟨_, _, _, rfl, by decide, Or.inr ⟨"BoxYard", (c_3 195 (by decide +kernel) rfl)⟩⟩
theorem l_BoxYard_Tasks_228 : y_lnk "BoxYard$Tasks" 228 M_X3_stop := Or.inl (c_6 211 (by decide +kernel) rfl)
theorem i_X3_stop : Cond.instanceMethod (M_X3_stop).1 ∈ y_tb := (c_4 13 (by decide +kernel) rfl)
theorem e_X3_stop : Cond.selects (M_X3_stop).1.cls (M_X3_stop).1 (M_X3_stop).1 ∈ y_tb := (c_4 14 (by decide +kernel) rfl)
theorem l_BoxYard_Tasks_225 : y_lnk "BoxYard$Tasks" 225 M_X3_strength := Or.inl (c_6 210 (by decide +kernel) rfl)
theorem i_X3_strength : Cond.instanceMethod (M_X3_strength).1 ∈ y_tb := (c_4 0 (by decide +kernel) rfl)
theorem e_X3_strength : Cond.selects (M_X3_strength).1.cls (M_X3_strength).1 (M_X3_strength).1 ∈ y_tb := (c_4 1 (by decide +kernel) rfl)
set_option maxRecDepth 100000 in
def f_X8_addOfCrane (p0 : Nat) (p1 : Int32) (h : y_H) : Option (Int32 × y_H) :=
  if y_K h p0 = 9 then
  if y_K h p0 = 9 then
  if y_K h (y_P h p0 0) = 11 then
  y_cl (f_X10_craneAt (y_P h p0 0) (y_I h p0 8) h) (fun r1 h2 =>
  if y_K h2 p0 = 9 then
  y_cl (f_X8_asKind p0 1 h2) (fun r4 h5 =>
  y_jn (fun (v3_26 : Int32) (h7 : y_H) => (
      some (v3_26, h7) : Option (Int32 × y_H))) (fun j26 =>
  if r4 = 0 then
    if r1 = 0 then
      j26 r4 h5
    else
      y_jn (fun (h8 : y_H) => (
          some (0, h8) : Option (Int32 × y_H))) (fun j99 =>
      if p1 = 0 then
        if y_K h5 p0 = 9 then
        if y_K h5 p0 = 9 then
        if y_K h5 (y_P h5 p0 0) = 11 then
        if y_K h5 r1 = 4 then
        y_cl (f_X3_strength r1 (y_P h5 (y_P h5 p0 0) 12) h5) (fun r25 h26 =>
        if y_K h26 p0 = 9 then
        y_bd (s_L h26 p0 9 ((y_L h5 p0 9) + (Int32.toInt64 r25))) (fun h28 =>
        j99 h28)
        else none)
        else none
        else none
        else none
        else none
      else
        if p1 = 1 then
          if y_K h5 p0 = 9 then
          if y_K h5 p0 = 9 then
          if y_K h5 (y_P h5 p0 0) = 11 then
          if y_K h5 r1 = 4 then
          y_cl (f_X3_stop r1 (y_P h5 (y_P h5 p0 0) 12) h5) (fun r14 h15 =>
          if y_K h15 p0 = 9 then
          y_bd (s_L h15 p0 9 ((y_L h5 p0 9) + (Int32.toInt64 r14))) (fun h17 =>
          j99 h17)
          else none)
          else none
          else none
          else none
          else none
        else
          if y_K h5 p0 = 9 then
          if y_K h5 r1 = 4 then
          if y_K h5 p0 = 9 then
          y_bd (s_L h5 p0 9 ((y_L h5 p0 9) + (Int32.toInt64 (y_I h5 r1 3)))) (fun h9 =>
          j99 h9)
          else none
          else none
          else none)
  else
    j26 r4 h5))
  else none)
  else none
  else none
  else none
abbrev rm_X8_addOfCrane : Room := { frames := 3, cells := 0, slots := 0, locals := 63 }
set_option maxRecDepth 100000 in
set_option maxHeartbeats 4000000 in
theorem k_X8_addOfCrane {l : Launch} {G : y_G} {p0 : Nat} {p1 : Int32} {h hz : y_H} {rz : Int32} (hf : f_X8_addOfCrane p0 p1 h = some (rz, hz)) : y_S l G M_X8_addOfCrane rm_X8_addOfCrane [y_p p0, .int p1] h (some (.int rz)) hz := by
  refine y_start (lv := [(0, y_p p0), (1, .int p1)]) (by decide) (by simp [lg_sl, y_p_cat, y_ci, y_cj, M_X8_addOfCrane]) (by simp [lv_args, y_p_cat, y_ci, y_cj]) (fun z ad0 => ?_)
  unfold f_X8_addOfCrane at hf
  refine y_aload_n (x := p0) (pc2 := 1) rfl dX8_addOfCrane_0 rfl ?_
  obtain ⟨g41, hf⟩ := y_g hf
  refine y_getP (pc2 := 4) rfl dX8_addOfCrane_1 F_BoxYard_Tasks_42 (by decide) rfl g41 ?_
  refine y_aload_n (x := p0) (pc2 := 5) rfl dX8_addOfCrane_4 rfl ?_
  obtain ⟨g40, hf⟩ := y_g hf
  refine y_getI (pc2 := 8) rfl dX8_addOfCrane_5 F_BoxYard_Tasks_28 (by decide) rfl g40 ?_
  obtain ⟨g39, hf⟩ := y_g hf
  obtain ⟨r1, h2, c3, hf⟩ := y_clE hf
  refine y_callV (As := [.int (y_I h p0 8)]) (rm := rm_X10_craneAt) (cells := 0) (slots := 0) (pc2 := 11) rfl dX8_addOfCrane_8 n_X10_craneAt l_BoxYard_Tasks_113 i_X10_craneAt e_X10_craneAt (ci := 10) rfl rfl (by decide) g39 rfl rfl (by decide) (by decide) (by decide) (k_X10_craneAt c3) ?_
  refine y_astore_n (lv' := [(2, y_p r1), (0, y_p p0), (1, .int p1)]) (pc2 := 12) rfl dX8_addOfCrane_11 (by decide) rfl ?_
  refine y_aload_n (x := p0) (pc2 := 13) rfl dX8_addOfCrane_12 rfl ?_
  refine y_iconst (v := 1) (pc2 := 14) rfl dX8_addOfCrane_13 (by decide) ?_
  obtain ⟨g38, hf⟩ := y_g hf
  obtain ⟨r4, h5, c6, hf⟩ := y_clE hf
  refine y_callV (As := [.int 1]) (rm := rm_X8_asKind) (cells := 0) (slots := 0) (pc2 := 17) rfl dX8_addOfCrane_14 n_X8_asKind l_BoxYard_Tasks_169 i_X8_asKind e_X8_asKind (ci := 8) rfl rfl (by decide) g38 rfl rfl (by decide) (by decide) (by decide) (k_X8_asKind c6) ?_
  refine y_istore_n (lv' := [(3, .int r4), (2, y_p r1), (0, y_p p0), (1, .int p1)]) (pc2 := 18) rfl dX8_addOfCrane_17 (by decide) (by show y_st1 _ 3 _ = _; simp [y_st1, y_p_cat, y_ci, y_cj]) ?_
  refine y_iload_n (pc2 := 19) rfl dX8_addOfCrane_18 rfl ?_
  refine y_jnE hf (fun j => ∀ (v3_26 : Int32) (h7 : y_H), j v3_26 h7 = some (rz, hz) → y_V l G z rm_X8_addOfCrane M_X8_addOfCrane ad0 h (some (.int rz)) hz 26 [(3, .int v3_26)] [] h7 0 0) (fun v3_26 h7 hf => ?_) (fun j26 hj26 hf => ?_)
  · refine y_iload_n (pc2 := 27) rfl dX8_addOfCrane_26 rfl ?_
    exact y_iretF hf dX8_addOfCrane_27 rfl (by decide) (by decide)
  · refine y_if_ne (tgt := 26) (pc2 := 22) rfl dX8_addOfCrane_19 (by decide) (fun c37 => ?_) (fun c37 => ?_)
    · replace hf := y_ie c37 hf
      exact y_pk [0] rfl (hj26 _ _ hf)
    · replace hf := y_it c37 hf
      refine y_aload_n (x := r1) (pc2 := 23) rfl dX8_addOfCrane_22 rfl ?_
      refine y_ifnonnull (tgt := 28) (pc2 := 26) rfl dX8_addOfCrane_23 (by decide) (fun c36 => ?_) (fun c36 => ?_)
      · replace hf := y_ie c36 hf
        refine y_iload_n (pc2 := 29) rfl dX8_addOfCrane_28 rfl ?_
        refine y_jnE hf (fun j => ∀ (h8 : y_H), j h8 = some (rz, hz) → y_V l G z rm_X8_addOfCrane M_X8_addOfCrane ad0 h (some (.int rz)) hz 99 [] [] h8 0 0) (fun h8 hf => ?_) (fun j99 hj99 hf => ?_)
        · refine y_iconst (v := 0) (pc2 := 100) rfl dX8_addOfCrane_99 (by decide) ?_
          exact y_iretF hf dX8_addOfCrane_100 rfl (by decide) (by decide)
        · refine y_if_ne (tgt := 56) (pc2 := 32) rfl dX8_addOfCrane_29 (by decide) (fun c35 => ?_) (fun c35 => ?_)
          · replace hf := y_ie c35 hf
            refine y_iload_n (pc2 := 57) rfl dX8_addOfCrane_56 rfl ?_
            refine y_iconst (v := 1) (pc2 := 58) rfl dX8_addOfCrane_57 (by decide) ?_
            refine y_icmp_ne (tgt := 85) (pc2 := 61) rfl dX8_addOfCrane_58 (by decide) (fun c24 => ?_) (fun c24 => ?_)
            · replace hf := y_ie c24 hf
              refine y_aload_n (x := p0) (pc2 := 86) rfl dX8_addOfCrane_85 rfl ?_
              refine y_dup (pc2 := 87) rfl dX8_addOfCrane_86 (y_p_cat _) ?_
              obtain ⟨g13, hf⟩ := y_g hf
              refine y_getL (pc2 := 90) rfl dX8_addOfCrane_87 F_BoxYard_Tasks_56 (by decide) rfl g13 ?_
              refine y_aload_n (x := r1) (pc2 := 91) rfl dX8_addOfCrane_90 rfl ?_
              obtain ⟨g12, hf⟩ := y_g hf
              refine y_getI (pc2 := 94) rfl dX8_addOfCrane_91 F_BoxYard_Tasks_231 (by decide) rfl g12 ?_
              refine y_i2l (pc2 := 95) rfl dX8_addOfCrane_94 ?_
              refine y_ladd (pc2 := 96) rfl dX8_addOfCrane_95 ?_
              obtain ⟨g11, hf⟩ := y_g hf
              obtain ⟨h9, e10, hf⟩ := y_bdE hf
              refine y_putL (x := (y_L h5 p0 9) + (Int32.toInt64 (y_I h5 r1 3))) (pc2 := 99) rfl dX8_addOfCrane_96 Fp_BoxYard_Tasks_56 (by decide) rfl g11 e10 ?_
              exact y_pk [] rfl (hj99 _ hf)
            · replace hf := y_it c24 hf
              refine y_aload_n (x := p0) (pc2 := 62) rfl dX8_addOfCrane_61 rfl ?_
              refine y_dup (pc2 := 63) rfl dX8_addOfCrane_62 (y_p_cat _) ?_
              obtain ⟨g23, hf⟩ := y_g hf
              refine y_getL (pc2 := 66) rfl dX8_addOfCrane_63 F_BoxYard_Tasks_56 (by decide) rfl g23 ?_
              refine y_aload_n (x := r1) (pc2 := 67) rfl dX8_addOfCrane_66 rfl ?_
              refine y_aload_n (x := p0) (pc2 := 68) rfl dX8_addOfCrane_67 rfl ?_
              obtain ⟨g22, hf⟩ := y_g hf
              refine y_getP (pc2 := 71) rfl dX8_addOfCrane_68 F_BoxYard_Tasks_42 (by decide) rfl g22 ?_
              obtain ⟨g21, hf⟩ := y_g hf
              refine y_getP (pc2 := 74) rfl dX8_addOfCrane_71 F_BoxYard_Tasks_205 (by decide) rfl g21 ?_
              obtain ⟨g20, hf⟩ := y_g hf
              obtain ⟨r14, h15, c16, hf⟩ := y_clE hf
              refine y_callV (As := [y_p (y_P h5 (y_P h5 p0 0) 12)]) (rm := rm_X3_stop) (cells := 0) (slots := 0) (pc2 := 77) rfl dX8_addOfCrane_74 n_X3_stop l_BoxYard_Tasks_228 i_X3_stop e_X3_stop (ci := 3) rfl rfl (by decide) g20 rfl rfl (by decide) (by simp [y_ci, y_cj, y_p_cat]) (by decide) (k_X3_stop c16) ?_
              refine y_i2l (pc2 := 78) rfl dX8_addOfCrane_77 ?_
              refine y_ladd (pc2 := 79) rfl dX8_addOfCrane_78 ?_
              obtain ⟨g19, hf⟩ := y_g hf
              obtain ⟨h17, e18, hf⟩ := y_bdE hf
              refine y_putL (x := (y_L h5 p0 9) + (Int32.toInt64 r14)) (pc2 := 82) rfl dX8_addOfCrane_79 Fp_BoxYard_Tasks_56 (by decide) rfl g19 e18 ?_
              refine y_goto (tgt := 99) dX8_addOfCrane_82 (by decide) ?_
              exact y_pk [] rfl (hj99 _ hf)
          · replace hf := y_it c35 hf
            refine y_aload_n (x := p0) (pc2 := 33) rfl dX8_addOfCrane_32 rfl ?_
            refine y_dup (pc2 := 34) rfl dX8_addOfCrane_33 (y_p_cat _) ?_
            obtain ⟨g34, hf⟩ := y_g hf
            refine y_getL (pc2 := 37) rfl dX8_addOfCrane_34 F_BoxYard_Tasks_56 (by decide) rfl g34 ?_
            refine y_aload_n (x := r1) (pc2 := 38) rfl dX8_addOfCrane_37 rfl ?_
            refine y_aload_n (x := p0) (pc2 := 39) rfl dX8_addOfCrane_38 rfl ?_
            obtain ⟨g33, hf⟩ := y_g hf
            refine y_getP (pc2 := 42) rfl dX8_addOfCrane_39 F_BoxYard_Tasks_42 (by decide) rfl g33 ?_
            obtain ⟨g32, hf⟩ := y_g hf
            refine y_getP (pc2 := 45) rfl dX8_addOfCrane_42 F_BoxYard_Tasks_205 (by decide) rfl g32 ?_
            obtain ⟨g31, hf⟩ := y_g hf
            obtain ⟨r25, h26, c27, hf⟩ := y_clE hf
            refine y_callV (As := [y_p (y_P h5 (y_P h5 p0 0) 12)]) (rm := rm_X3_strength) (cells := 0) (slots := 0) (pc2 := 48) rfl dX8_addOfCrane_45 n_X3_strength l_BoxYard_Tasks_225 i_X3_strength e_X3_strength (ci := 3) rfl rfl (by decide) g31 rfl rfl (by decide) (by simp [y_ci, y_cj, y_p_cat]) (by decide) (k_X3_strength c27) ?_
            refine y_i2l (pc2 := 49) rfl dX8_addOfCrane_48 ?_
            refine y_ladd (pc2 := 50) rfl dX8_addOfCrane_49 ?_
            obtain ⟨g30, hf⟩ := y_g hf
            obtain ⟨h28, e29, hf⟩ := y_bdE hf
            refine y_putL (x := (y_L h5 p0 9) + (Int32.toInt64 r25)) (pc2 := 53) rfl dX8_addOfCrane_50 Fp_BoxYard_Tasks_56 (by decide) rfl g30 e29 ?_
            refine y_goto (tgt := 99) dX8_addOfCrane_53 (by decide) ?_
            exact y_pk [] rfl (hj99 _ hf)
      · replace hf := y_it c36 hf
        exact y_pk [0] rfl (hj26 _ _ hf)
theorem dX8_divide_0 : decode cX8_divide 0 = .ok (.aload_n 0, 1) := by decide +kernel
theorem dX8_divide_1 : decode cX8_divide 1 = .ok (.getfield 42, 3) := by decide +kernel
theorem dX8_divide_4 : decode cX8_divide 4 = .ok (.aload_n 0, 1) := by decide +kernel
theorem dX8_divide_5 : decode cX8_divide 5 = .ok (.getfield 28, 3) := by decide +kernel
theorem dX8_divide_8 : decode cX8_divide 8 = .ok (.invokevirtual 165, 3) := by decide +kernel
theorem dX8_divide_11 : decode cX8_divide 11 = .ok (.astore_n 1, 1) := by decide +kernel
theorem dX8_divide_12 : decode cX8_divide 12 = .ok (.aload_n 0, 1) := by decide +kernel
theorem dX8_divide_13 : decode cX8_divide 13 = .ok (.iconst 2, 1) := by decide +kernel
theorem dX8_divide_14 : decode cX8_divide 14 = .ok (.invokevirtual 169, 3) := by decide +kernel
theorem dX8_divide_17 : decode cX8_divide 17 = .ok (.istore_n 2, 1) := by decide +kernel
theorem dX8_divide_18 : decode cX8_divide 18 = .ok (.iload_n 2, 1) := by decide +kernel
theorem dX8_divide_19 : decode cX8_divide 19 = .ok (.ifCond .ne 7, 3) := by decide +kernel
theorem dX8_divide_22 : decode cX8_divide 22 = .ok (.aload_n 1, 1) := by decide +kernel
theorem dX8_divide_23 : decode cX8_divide 23 = .ok (.ifnonnull 5, 3) := by decide +kernel
theorem dX8_divide_26 : decode cX8_divide 26 = .ok (.iload_n 2, 1) := by decide +kernel
theorem dX8_divide_27 : decode cX8_divide 27 = .ok (.ireturn, 1) := by decide +kernel
theorem dX8_divide_28 : decode cX8_divide 28 = .ok (.aload_n 1, 1) := by decide +kernel
theorem dX8_divide_29 : decode cX8_divide 29 = .ok (.invokevirtual 234, 3) := by decide +kernel
theorem dX8_divide_32 : decode cX8_divide 32 = .ok (.istore_n 3, 1) := by decide +kernel
theorem dX8_divide_33 : decode cX8_divide 33 = .ok (.iload_n 3, 1) := by decide +kernel
theorem dX8_divide_34 : decode cX8_divide 34 = .ok (.ifCond .ne 6, 3) := by decide +kernel
theorem dX8_divide_37 : decode cX8_divide 37 = .ok (.bipush 6, 2) := by decide +kernel
theorem dX8_divide_39 : decode cX8_divide 39 = .ok (.ireturn, 1) := by decide +kernel
theorem dX8_divide_40 : decode cX8_divide 40 = .ok (.aload_n 0, 1) := by decide +kernel
theorem dX8_divide_41 : decode cX8_divide 41 = .ok (.aload_n 0, 1) := by decide +kernel
theorem dX8_divide_42 : decode cX8_divide 42 = .ok (.getfield 56, 3) := by decide +kernel
theorem dX8_divide_45 : decode cX8_divide 45 = .ok (.iload_n 3, 1) := by decide +kernel
theorem dX8_divide_46 : decode cX8_divide 46 = .ok (.i2l, 1) := by decide +kernel
theorem dX8_divide_47 : decode cX8_divide 47 = .ok (.ldiv, 1) := by decide +kernel
theorem dX8_divide_48 : decode cX8_divide 48 = .ok (.putfield 56, 3) := by decide +kernel
theorem dX8_divide_51 : decode cX8_divide 51 = .ok (.iconst 0, 1) := by decide +kernel
theorem dX8_divide_52 : decode cX8_divide 52 = .ok (.ireturn, 1) := by decide +kernel
def M_X8_divide : y_M := (yX8_divide, cX8_divide, 4, (Option.some Jvm.ClassFile.FieldType.int))
theorem n_X8_divide : y_N0 M_X8_divide 0 := ⟨(c_6 215 (by decide +kernel) rfl), (c_1 8 (by decide +kernel) rfl), ⟨by decide +kernel, by decide +kernel⟩, by decide +kernel⟩
theorem l_BoxYard_Tasks_234 : y_lnk "BoxYard$Tasks" 234 M_X1_boxes := Or.inl (c_6 216 (by decide +kernel) rfl)
theorem i_X1_boxes : Cond.instanceMethod (M_X1_boxes).1 ∈ y_tb := (c_3 144 (by decide +kernel) rfl)
theorem e_X1_boxes : Cond.selects (M_X1_boxes).1.cls (M_X1_boxes).1 (M_X1_boxes).1 ∈ y_tb := (c_3 145 (by decide +kernel) rfl)
set_option maxRecDepth 100000 in
def f_X8_divide (p0 : Nat) (h : y_H) : Option (Int32 × y_H) :=
  if y_K h p0 = 9 then
  if y_K h p0 = 9 then
  if y_K h (y_P h p0 0) = 11 then
  y_cl (f_X10_bayAt (y_P h p0 0) (y_I h p0 8) h) (fun r1 h2 =>
  if y_K h2 p0 = 9 then
  y_cl (f_X8_asKind p0 2 h2) (fun r4 h5 =>
  y_jn (fun (v2_26 : Int32) (h7 : y_H) => (
      some (v2_26, h7) : Option (Int32 × y_H))) (fun j26 =>
  if r4 = 0 then
    if r1 = 0 then
      j26 r4 h5
    else
      if y_K h5 r1 = 2 then
      y_cl (f_X1_boxes r1 h5) (fun r8 h9 =>
      if r8 = 0 then
        some (6, h9)
      else
        if y_K h9 p0 = 9 then
        if ¬ (Int32.toInt64 r8) = 0 then
        if y_K h9 p0 = 9 then
        y_bd (s_L h9 p0 9 ((y_L h9 p0 9) / (Int32.toInt64 r8))) (fun h11 =>
        some (0, h11))
        else none
        else none
        else none)
      else none
  else
    j26 r4 h5))
  else none)
  else none
  else none
  else none
abbrev rm_X8_divide : Room := { frames := 2, cells := 0, slots := 0, locals := 43 }
set_option maxRecDepth 100000 in
set_option maxHeartbeats 4000000 in
theorem k_X8_divide {l : Launch} {G : y_G} {p0 : Nat} {h hz : y_H} {rz : Int32} (hf : f_X8_divide p0 h = some (rz, hz)) : y_S l G M_X8_divide rm_X8_divide [y_p p0] h (some (.int rz)) hz := by
  refine y_start (lv := [(0, y_p p0)]) (by decide) (by simp [lg_sl, y_p_cat, y_ci, y_cj, M_X8_divide]) (by simp [lv_args, y_p_cat, y_ci, y_cj]) (fun z ad0 => ?_)
  unfold f_X8_divide at hf
  refine y_aload_n (x := p0) (pc2 := 1) rfl dX8_divide_0 rfl ?_
  obtain ⟨g23, hf⟩ := y_g hf
  refine y_getP (pc2 := 4) rfl dX8_divide_1 F_BoxYard_Tasks_42 (by decide) rfl g23 ?_
  refine y_aload_n (x := p0) (pc2 := 5) rfl dX8_divide_4 rfl ?_
  obtain ⟨g22, hf⟩ := y_g hf
  refine y_getI (pc2 := 8) rfl dX8_divide_5 F_BoxYard_Tasks_28 (by decide) rfl g22 ?_
  obtain ⟨g21, hf⟩ := y_g hf
  obtain ⟨r1, h2, c3, hf⟩ := y_clE hf
  refine y_callV (As := [.int (y_I h p0 8)]) (rm := rm_X10_bayAt) (cells := 0) (slots := 0) (pc2 := 11) rfl dX8_divide_8 n_X10_bayAt l_BoxYard_Tasks_165 i_X10_bayAt e_X10_bayAt (ci := 10) rfl rfl (by decide) g21 rfl rfl (by decide) (by decide) (by decide) (k_X10_bayAt c3) ?_
  refine y_astore_n (lv' := [(1, y_p r1), (0, y_p p0)]) (pc2 := 12) rfl dX8_divide_11 (by decide) (by show y_st1 _ 1 _ = _; simp [y_st1, y_p_cat, y_ci, y_cj]) ?_
  refine y_aload_n (x := p0) (pc2 := 13) rfl dX8_divide_12 rfl ?_
  refine y_iconst (v := 2) (pc2 := 14) rfl dX8_divide_13 (by decide) ?_
  obtain ⟨g20, hf⟩ := y_g hf
  obtain ⟨r4, h5, c6, hf⟩ := y_clE hf
  refine y_callV (As := [.int 2]) (rm := rm_X8_asKind) (cells := 0) (slots := 0) (pc2 := 17) rfl dX8_divide_14 n_X8_asKind l_BoxYard_Tasks_169 i_X8_asKind e_X8_asKind (ci := 8) rfl rfl (by decide) g20 rfl rfl (by decide) (by decide) (by decide) (k_X8_asKind c6) ?_
  refine y_istore_n (lv' := [(2, .int r4), (1, y_p r1), (0, y_p p0)]) (pc2 := 18) rfl dX8_divide_17 (by decide) (by show y_st1 _ 2 _ = _; simp [y_st1, y_p_cat, y_ci, y_cj]) ?_
  refine y_iload_n (pc2 := 19) rfl dX8_divide_18 rfl ?_
  refine y_jnE hf (fun j => ∀ (v2_26 : Int32) (h7 : y_H), j v2_26 h7 = some (rz, hz) → y_V l G z rm_X8_divide M_X8_divide ad0 h (some (.int rz)) hz 26 [(2, .int v2_26)] [] h7 0 0) (fun v2_26 h7 hf => ?_) (fun j26 hj26 hf => ?_)
  · refine y_iload_n (pc2 := 27) rfl dX8_divide_26 rfl ?_
    exact y_iretF hf dX8_divide_27 rfl (by decide) (by decide)
  · refine y_if_ne (tgt := 26) (pc2 := 22) rfl dX8_divide_19 (by decide) (fun c19 => ?_) (fun c19 => ?_)
    · replace hf := y_ie c19 hf
      exact y_pk [0] rfl (hj26 _ _ hf)
    · replace hf := y_it c19 hf
      refine y_aload_n (x := r1) (pc2 := 23) rfl dX8_divide_22 rfl ?_
      refine y_ifnonnull (tgt := 28) (pc2 := 26) rfl dX8_divide_23 (by decide) (fun c18 => ?_) (fun c18 => ?_)
      · replace hf := y_ie c18 hf
        refine y_aload_n (x := r1) (pc2 := 29) rfl dX8_divide_28 rfl ?_
        obtain ⟨g17, hf⟩ := y_g hf
        obtain ⟨r8, h9, c10, hf⟩ := y_clE hf
        refine y_callV (As := []) (rm := rm_X1_boxes) (cells := 0) (slots := 0) (pc2 := 32) rfl dX8_divide_29 n_X1_boxes l_BoxYard_Tasks_234 i_X1_boxes e_X1_boxes (ci := 1) rfl rfl (by decide) g17 rfl rfl (by decide) (by decide) (by decide) (k_X1_boxes c10) ?_
        refine y_istore_n (lv' := [(3, .int r8), (2, .int r4), (1, y_p r1), (0, y_p p0)]) (pc2 := 33) rfl dX8_divide_32 (by decide) rfl ?_
        refine y_iload_n (pc2 := 34) rfl dX8_divide_33 rfl ?_
        refine y_if_ne (tgt := 40) (pc2 := 37) rfl dX8_divide_34 (by decide) (fun c16 => ?_) (fun c16 => ?_)
        · replace hf := y_ie c16 hf
          refine y_aload_n (x := p0) (pc2 := 41) rfl dX8_divide_40 rfl ?_
          refine y_aload_n (x := p0) (pc2 := 42) rfl dX8_divide_41 rfl ?_
          obtain ⟨g15, hf⟩ := y_g hf
          refine y_getL (pc2 := 45) rfl dX8_divide_42 F_BoxYard_Tasks_56 (by decide) rfl g15 ?_
          refine y_iload_n (pc2 := 46) rfl dX8_divide_45 rfl ?_
          refine y_i2l (pc2 := 47) rfl dX8_divide_46 ?_
          obtain ⟨g14, hf⟩ := y_g hf
          refine y_ldiv (pc2 := 48) rfl dX8_divide_47 g14 ?_
          obtain ⟨g13, hf⟩ := y_g hf
          obtain ⟨h11, e12, hf⟩ := y_bdE hf
          refine y_putL (x := (y_L h9 p0 9) / (Int32.toInt64 r8)) (pc2 := 51) rfl dX8_divide_48 Fp_BoxYard_Tasks_56 (by decide) rfl g13 e12 ?_
          refine y_iconst (v := 0) (pc2 := 52) rfl dX8_divide_51 (by decide) ?_
          exact y_iretF hf dX8_divide_52 rfl (by decide) (by decide)
        · replace hf := y_it c16 hf
          refine y_bipush (v := 6) (pc2 := 39) rfl dX8_divide_37 (by decide) ?_
          exact y_iretF hf dX8_divide_39 rfl (by decide) (by decide)
      · replace hf := y_it c18 hf
        exact y_pk [0] rfl (hj26 _ _ hf)
theorem dX8_kindOn_0 : decode cX8_kindOn 0 = .ok (.iload_n 0, 1) := by decide +kernel
theorem dX8_kindOn_1 : decode cX8_kindOn 1 = .ok (.iconst 3, 1) := by decide +kernel
theorem dX8_kindOn_2 : decode cX8_kindOn 2 = .ok (.if_icmp .ne 7, 3) := by decide +kernel
theorem dX8_kindOn_5 : decode cX8_kindOn 5 = .ok (.iconst 1, 1) := by decide +kernel
theorem dX8_kindOn_6 : decode cX8_kindOn 6 = .ok (.goto 4, 3) := by decide +kernel
theorem dX8_kindOn_9 : decode cX8_kindOn 9 = .ok (.iconst 0, 1) := by decide +kernel
theorem dX8_kindOn_10 : decode cX8_kindOn 10 = .ok (.ireturn, 1) := by decide +kernel
def M_X8_kindOn : y_M := (yX8_kindOn, cX8_kindOn, 1, (Option.some Jvm.ClassFile.FieldType.int))
theorem n_X8_kindOn : y_N0 M_X8_kindOn 1 := ⟨(c_6 223 (by decide +kernel) rfl), (c_1 8 (by decide +kernel) rfl), ⟨by decide +kernel, by decide +kernel⟩, by decide +kernel⟩
set_option maxRecDepth 100000 in
def f_X8_kindOn (p0 : Int32) (h : y_H) : Option (Int32 × y_H) :=
  if p0 = 3 then
    some (1, h)
  else
    some (0, h)
abbrev rm_X8_kindOn : Room := { frames := 0, cells := 0, slots := 0, locals := 0 }
set_option maxRecDepth 100000 in
set_option maxHeartbeats 4000000 in
theorem k_X8_kindOn {l : Launch} {G : y_G} {p0 : Int32} {h hz : y_H} {rz : Int32} (hf : f_X8_kindOn p0 h = some (rz, hz)) : y_S l G M_X8_kindOn rm_X8_kindOn [.int p0] h (some (.int rz)) hz := by
  refine y_start (lv := [(0, .int p0)]) (by decide) (by simp [lg_sl, y_p_cat, y_ci, y_cj, M_X8_kindOn]) (by simp [lv_args, y_p_cat, y_ci, y_cj]) (fun z ad0 => ?_)
  unfold f_X8_kindOn at hf
  refine y_iload_n (pc2 := 1) rfl dX8_kindOn_0 rfl ?_
  refine y_iconst (v := 3) (pc2 := 2) rfl dX8_kindOn_1 (by decide) ?_
  refine y_icmp_ne (tgt := 9) (pc2 := 5) rfl dX8_kindOn_2 (by decide) (fun c1 => ?_) (fun c1 => ?_)
  · replace hf := y_ie c1 hf
    refine y_iconst (v := 0) (pc2 := 10) rfl dX8_kindOn_9 (by decide) ?_
    exact y_iretF hf dX8_kindOn_10 rfl (by decide) (by decide)
  · replace hf := y_it c1 hf
    refine y_iconst (v := 1) (pc2 := 6) rfl dX8_kindOn_5 (by decide) ?_
    refine y_goto (tgt := 10) dX8_kindOn_6 (by decide) ?_
    exact y_iretF hf dX8_kindOn_10 rfl (by decide) (by decide)
theorem dX8_takesKind_0 : decode cX8_takesKind 0 = .ok (.iload_n 0, 1) := by decide +kernel
theorem dX8_takesKind_1 : decode cX8_takesKind 1 = .ok (.lookupswitch 39 #[(1, 27), (2, 33)], 27) := by decide +kernel
theorem dX8_takesKind_28 : decode cX8_takesKind 28 = .ok (.aload_n 1, 1) := by decide +kernel
theorem dX8_takesKind_29 : decode cX8_takesKind 29 = .ok (.iconst 0, 1) := by decide +kernel
theorem dX8_takesKind_30 : decode cX8_takesKind 30 = .ok (.invokevirtual 202, 3) := by decide +kernel
theorem dX8_takesKind_33 : decode cX8_takesKind 33 = .ok (.ireturn, 1) := by decide +kernel
theorem dX8_takesKind_34 : decode cX8_takesKind 34 = .ok (.aload_n 1, 1) := by decide +kernel
theorem dX8_takesKind_35 : decode cX8_takesKind 35 = .ok (.iconst 1, 1) := by decide +kernel
theorem dX8_takesKind_36 : decode cX8_takesKind 36 = .ok (.invokevirtual 202, 3) := by decide +kernel
theorem dX8_takesKind_39 : decode cX8_takesKind 39 = .ok (.ireturn, 1) := by decide +kernel
theorem dX8_takesKind_40 : decode cX8_takesKind 40 = .ok (.iconst 1, 1) := by decide +kernel
theorem dX8_takesKind_41 : decode cX8_takesKind 41 = .ok (.ireturn, 1) := by decide +kernel
def M_X8_takesKind : y_M := (yX8_takesKind, cX8_takesKind, 2, (Option.some Jvm.ClassFile.FieldType.boolean))
theorem n_X8_takesKind : y_N0 M_X8_takesKind 2 := ⟨(c_6 230 (by decide +kernel) rfl), (c_1 8 (by decide +kernel) rfl), ⟨by decide +kernel, by decide +kernel⟩, by decide +kernel⟩
set_option maxRecDepth 100000 in
def f_X8_takesKind (p0 : Int32) (p1 : Nat) (h : y_H) : Option (Bool × y_H) :=
  if p0 = 1 then
    if y_K h p1 = 3 then
    y_cl (f_X2_isOf p1 0 h) (fun r2 h3 =>
    some (r2, h3))
    else none
  else
  if p0 = 2 then
    if y_K h p1 = 3 then
    y_cl (f_X2_isOf p1 1 h) (fun r7 h8 =>
    some (r7, h8))
    else none
  else
  some (true, h)
abbrev rm_X8_takesKind : Room := { frames := 1, cells := 0, slots := 0, locals := 21 }
set_option maxRecDepth 100000 in
set_option maxHeartbeats 4000000 in
theorem k_X8_takesKind {l : Launch} {G : y_G} {p0 : Int32} {p1 : Nat} {h hz : y_H} {rz : Bool} (hf : f_X8_takesKind p0 p1 h = some (rz, hz)) : y_S l G M_X8_takesKind rm_X8_takesKind [.int p0, y_p p1] h (some (.int (y_z rz))) hz := by
  refine y_start (lv := [(0, .int p0), (1, y_p p1)]) (by decide) (by simp [lg_sl, y_p_cat, y_ci, y_cj, M_X8_takesKind]) (by simp [lv_args, y_p_cat, y_ci, y_cj]) (fun z ad0 => ?_)
  unfold f_X8_takesKind at hf
  refine y_iload_n (pc2 := 1) rfl dX8_takesKind_0 rfl ?_
  by_cases c1 : p0 = 1
  · replace hf := y_it c1 hf
    refine y_lookup (off := 27) (tgt := 28) dX8_takesKind_1 (by decide) (by (rw [c1]) <;> decide) (by decide) ?_
    refine y_aload_n (x := p1) (pc2 := 29) rfl dX8_takesKind_28 rfl ?_
    refine y_iconst (v := 0) (pc2 := 30) rfl dX8_takesKind_29 (by decide) ?_
    obtain ⟨g5, hf⟩ := y_g hf
    obtain ⟨r2, h3, c4, hf⟩ := y_clE hf
    refine y_callV (As := [.int 0]) (rm := rm_X2_isOf) (cells := 0) (slots := 0) (pc2 := 33) rfl dX8_takesKind_30 n_X2_isOf l_BoxYard_Tasks_202 i_X2_isOf e_X2_isOf (ci := 2) rfl rfl (by decide) g5 rfl rfl (by decide) (by decide) (by decide) (k_X2_isOf c4) ?_
    exact y_zretF hf dX8_takesKind_33 rfl (by decide) (by decide)
  · replace hf := y_ie c1 hf
    by_cases c6 : p0 = 2
    · replace hf := y_it c6 hf
      refine y_lookup (off := 33) (tgt := 34) dX8_takesKind_1 (by decide) (by (rw [c6]) <;> decide) (by decide) ?_
      refine y_aload_n (x := p1) (pc2 := 35) rfl dX8_takesKind_34 rfl ?_
      refine y_iconst (v := 1) (pc2 := 36) rfl dX8_takesKind_35 (by decide) ?_
      obtain ⟨g10, hf⟩ := y_g hf
      obtain ⟨r7, h8, c9, hf⟩ := y_clE hf
      refine y_callV (As := [.int 1]) (rm := rm_X2_isOf) (cells := 0) (slots := 0) (pc2 := 39) rfl dX8_takesKind_36 n_X2_isOf l_BoxYard_Tasks_202 i_X2_isOf e_X2_isOf (ci := 2) rfl rfl (by decide) g10 rfl rfl (by decide) (by decide) (by decide) (k_X2_isOf c9) ?_
      exact y_zretF hf dX8_takesKind_39 rfl (by decide) (by decide)
    · replace hf := y_ie c6 hf
      refine y_lookup (off := 39) (tgt := 40) dX8_takesKind_1 (by decide) (by (show Op.lookupswitch.offset [(1, 27), (2, 33)] _ _ = _); rw [lv_osw (a := 1) c1 (by decide), lv_osw (a := 2) c6 (by decide)] <;> rfl) (by decide) ?_
      refine y_iconst (v := 1) (pc2 := 41) rfl dX8_takesKind_40 (by decide) ?_
      exact y_zretF (x := true) hf dX8_takesKind_41 rfl (by decide) (by decide)
theorem dX8_keepLink_0 : decode cX8_keepLink 0 = .ok (.iload_n 1, 1) := by decide +kernel
theorem dX8_keepLink_1 : decode cX8_keepLink 1 = .ok (.iconst 0, 1) := by decide +kernel
theorem dX8_keepLink_2 : decode cX8_keepLink 2 = .ok (.iconst 3, 1) := by decide +kernel
theorem dX8_keepLink_3 : decode cX8_keepLink 3 = .ok (.invokestatic 66, 3) := by decide +kernel
theorem dX8_keepLink_6 : decode cX8_keepLink 6 = .ok (.ifCond .ne 5, 3) := by decide +kernel
theorem dX8_keepLink_9 : decode cX8_keepLink 9 = .ok (.iconst 2, 1) := by decide +kernel
theorem dX8_keepLink_10 : decode cX8_keepLink 10 = .ok (.ireturn, 1) := by decide +kernel
theorem dX8_keepLink_11 : decode cX8_keepLink 11 = .ok (.aload_n 0, 1) := by decide +kernel
theorem dX8_keepLink_12 : decode cX8_keepLink 12 = .ok (.getfield 24, 3) := by decide +kernel
theorem dX8_keepLink_15 : decode cX8_keepLink 15 = .ok (.bipush (-9), 2) := by decide +kernel
theorem dX8_keepLink_17 : decode cX8_keepLink 17 = .ok (.if_icmp .eq 16, 3) := by decide +kernel
theorem dX8_keepLink_20 : decode cX8_keepLink 20 = .ok (.aload_n 0, 1) := by decide +kernel
theorem dX8_keepLink_21 : decode cX8_keepLink 21 = .ok (.getfield 24, 3) := by decide +kernel
theorem dX8_keepLink_24 : decode cX8_keepLink 24 = .ok (.iload_n 1, 1) := by decide +kernel
theorem dX8_keepLink_25 : decode cX8_keepLink 25 = .ok (.invokestatic 237, 3) := by decide +kernel
theorem dX8_keepLink_28 : decode cX8_keepLink 28 = .ok (.if_icmp .eq 5, 3) := by decide +kernel
theorem dX8_keepLink_31 : decode cX8_keepLink 31 = .ok (.iconst 5, 1) := by decide +kernel
theorem dX8_keepLink_32 : decode cX8_keepLink 32 = .ok (.ireturn, 1) := by decide +kernel
theorem dX8_keepLink_33 : decode cX8_keepLink 33 = .ok (.aload_n 0, 1) := by decide +kernel
theorem dX8_keepLink_34 : decode cX8_keepLink 34 = .ok (.iload_n 1, 1) := by decide +kernel
theorem dX8_keepLink_35 : decode cX8_keepLink 35 = .ok (.iload_n 2, 1) := by decide +kernel
theorem dX8_keepLink_36 : decode cX8_keepLink 36 = .ok (.invokevirtual 240, 3) := by decide +kernel
theorem dX8_keepLink_39 : decode cX8_keepLink 39 = .ok (.ifCond .ne 5, 3) := by decide +kernel
theorem dX8_keepLink_42 : decode cX8_keepLink 42 = .ok (.iconst 2, 1) := by decide +kernel
theorem dX8_keepLink_43 : decode cX8_keepLink 43 = .ok (.ireturn, 1) := by decide +kernel
theorem dX8_keepLink_44 : decode cX8_keepLink 44 = .ok (.aload_n 0, 1) := by decide +kernel
theorem dX8_keepLink_45 : decode cX8_keepLink 45 = .ok (.getfield 24, 3) := by decide +kernel
theorem dX8_keepLink_48 : decode cX8_keepLink 48 = .ok (.ifCond .ne 17, 3) := by decide +kernel
theorem dX8_keepLink_51 : decode cX8_keepLink 51 = .ok (.aload_n 0, 1) := by decide +kernel
theorem dX8_keepLink_52 : decode cX8_keepLink 52 = .ok (.getfield 42, 3) := by decide +kernel
theorem dX8_keepLink_55 : decode cX8_keepLink 55 = .ok (.aload_n 0, 1) := by decide +kernel
theorem dX8_keepLink_56 : decode cX8_keepLink 56 = .ok (.getfield 28, 3) := by decide +kernel
theorem dX8_keepLink_59 : decode cX8_keepLink 59 = .ok (.invokevirtual 103, 3) := by decide +kernel
theorem dX8_keepLink_62 : decode cX8_keepLink 62 = .ok (.goto 4, 3) := by decide +kernel
theorem dX8_keepLink_65 : decode cX8_keepLink 65 = .ok (.aconst_null, 1) := by decide +kernel
theorem dX8_keepLink_66 : decode cX8_keepLink 66 = .ok (.astore_n 3, 1) := by decide +kernel
theorem dX8_keepLink_67 : decode cX8_keepLink 67 = .ok (.aload_n 3, 1) := by decide +kernel
theorem dX8_keepLink_68 : decode cX8_keepLink 68 = .ok (.ifnull 13, 3) := by decide +kernel
theorem dX8_keepLink_71 : decode cX8_keepLink 71 = .ok (.iload_n 1, 1) := by decide +kernel
theorem dX8_keepLink_72 : decode cX8_keepLink 72 = .ok (.aload_n 3, 1) := by decide +kernel
theorem dX8_keepLink_73 : decode cX8_keepLink 73 = .ok (.invokestatic 244, 3) := by decide +kernel
theorem dX8_keepLink_76 : decode cX8_keepLink 76 = .ok (.ifCond .ne 5, 3) := by decide +kernel
theorem dX8_keepLink_79 : decode cX8_keepLink 79 = .ok (.iconst 4, 1) := by decide +kernel
theorem dX8_keepLink_80 : decode cX8_keepLink 80 = .ok (.ireturn, 1) := by decide +kernel
theorem dX8_keepLink_81 : decode cX8_keepLink 81 = .ok (.aload_n 0, 1) := by decide +kernel
theorem dX8_keepLink_82 : decode cX8_keepLink 82 = .ok (.getfield 36, 3) := by decide +kernel
theorem dX8_keepLink_85 : decode cX8_keepLink 85 = .ok (.iload_n 1, 1) := by decide +kernel
theorem dX8_keepLink_86 : decode cX8_keepLink 86 = .ok (.aaload, 1) := by decide +kernel
theorem dX8_keepLink_87 : decode cX8_keepLink 87 = .ok (.iload_n 2, 1) := by decide +kernel
theorem dX8_keepLink_88 : decode cX8_keepLink 88 = .ok (.aload_n 0, 1) := by decide +kernel
theorem dX8_keepLink_89 : decode cX8_keepLink 89 = .ok (.getfield 28, 3) := by decide +kernel
theorem dX8_keepLink_92 : decode cX8_keepLink 92 = .ok (.iastore, 1) := by decide +kernel
theorem dX8_keepLink_93 : decode cX8_keepLink 93 = .ok (.iconst 0, 1) := by decide +kernel
theorem dX8_keepLink_94 : decode cX8_keepLink 94 = .ok (.ireturn, 1) := by decide +kernel
def M_X8_keepLink : y_M := (yX8_keepLink, cX8_keepLink, 4, (Option.some Jvm.ClassFile.FieldType.int))
theorem n_X8_keepLink : y_N0 M_X8_keepLink 2 := ⟨(c_6 220 (by decide +kernel) rfl), (c_1 8 (by decide +kernel) rfl), ⟨by decide +kernel, by decide +kernel⟩, by decide +kernel⟩
theorem l_BoxYard_Tasks_240 : y_lnk "BoxYard$Tasks" 240 M_X8_hasPlace := Or.inl (c_6 224 (by decide +kernel) rfl)
theorem i_X8_hasPlace : Cond.instanceMethod (M_X8_hasPlace).1 ∈ y_tb := (c_6 225 (by decide +kernel) rfl)
theorem e_X8_hasPlace : Cond.selects (M_X8_hasPlace).1.cls (M_X8_hasPlace).1 (M_X8_hasPlace).1 ∈ y_tb := (c_6 226 (by decide +kernel) rfl)
theorem l_BoxYard_Tasks_244 : y_lnk "BoxYard$Tasks" 244 M_X8_takesKind := Or.inl (c_6 228 (by decide +kernel) rfl)
theorem t_X8_takesKind : Cond.static (M_X8_takesKind).1 ∈ y_tb := (c_6 229 (by decide +kernel) rfl)
theorem l_BoxYard_Tasks_237 : y_lnk "BoxYard$Tasks" 237 M_X8_kindOn := Or.inl (c_6 221 (by decide +kernel) rfl)
theorem t_X8_kindOn : Cond.static (M_X8_kindOn).1 ∈ y_tb := (c_6 222 (by decide +kernel) rfl)
set_option maxRecDepth 100000 in
def f_X8_keepLink (p0 : Nat) (p1 : Int32) (p2 : Int32) (h : y_H) : Option (Int32 × y_H) :=
  y_cl (f_X11_isWithin p1 0 3 h) (fun r1 h2 =>
  if r1 = true then
    if y_K h2 p0 = 9 then
    y_jn (fun (v0_33 : Nat) (v1_33 : Int32) (v2_33 : Int32) (h4 : y_H) => (
        if y_K h4 v0_33 = 9 then
        y_cl (f_X8_hasPlace v0_33 v1_33 v2_33 h4) (fun r5 h6 =>
        if r5 = true then
          if y_K h6 v0_33 = 9 then
          if (y_I h6 v0_33 7) = 0 then
            if y_K h6 v0_33 = 9 then
            if y_K h6 v0_33 = 9 then
            if y_K h6 (y_P h6 v0_33 0) = 11 then
            y_cl (f_X10_boxAt (y_P h6 v0_33 0) (y_I h6 v0_33 8) h6) (fun r20 h21 =>
            y_jn (fun (v0_81 : Nat) (v1_81 : Int32) (v2_81 : Int32) (h23 : y_H) => (
                if y_K h23 v0_81 = 9 then
                if y_K h23 (y_P h23 v0_81 12) = 108 ∧ y_ix v1_81 (y_N h23 (y_P h23 v0_81 12)) = true then
                if y_K h23 v0_81 = 9 then
                if y_K h23 (y_P h23 (y_P h23 v0_81 12) (Int32.toNatClampNeg v1_81)) = 100 ∧ y_ix v2_81 (y_N h23 (y_P h23 (y_P h23 v0_81 12) (Int32.toNatClampNeg v1_81))) = true then
                y_bd (s_I h23 (y_P h23 (y_P h23 v0_81 12) (Int32.toNatClampNeg v1_81)) (Int32.toNatClampNeg v2_81) (y_I h23 v0_81 8)) (fun h24 =>
                some (0, h24))
                else none
                else none
                else none
                else none : Option (Int32 × y_H))) (fun j81 =>
            if r20 = 0 then
              j81 v0_33 v1_33 v2_33 h21
            else
              y_cl (f_X8_takesKind v1_33 r20 h21) (fun r30 h31 =>
              if r30 = true then
                j81 v0_33 v1_33 v2_33 h31
              else
                some (4, h31))))
            else none
            else none
            else none
          else
            y_jn (fun (v0_81 : Nat) (v1_81 : Int32) (v2_81 : Int32) (h8 : y_H) => (
                if y_K h8 v0_81 = 9 then
                if y_K h8 (y_P h8 v0_81 12) = 108 ∧ y_ix v1_81 (y_N h8 (y_P h8 v0_81 12)) = true then
                if y_K h8 v0_81 = 9 then
                if y_K h8 (y_P h8 (y_P h8 v0_81 12) (Int32.toNatClampNeg v1_81)) = 100 ∧ y_ix v2_81 (y_N h8 (y_P h8 (y_P h8 v0_81 12) (Int32.toNatClampNeg v1_81))) = true then
                y_bd (s_I h8 (y_P h8 (y_P h8 v0_81 12) (Int32.toNatClampNeg v1_81)) (Int32.toNatClampNeg v2_81) (y_I h8 v0_81 8)) (fun h9 =>
                some (0, h9))
                else none
                else none
                else none
                else none : Option (Int32 × y_H))) (fun j81 =>
            if 0 = 0 then
              j81 v0_33 v1_33 v2_33 h6
            else
              y_cl (f_X8_takesKind v1_33 0 h6) (fun r15 h16 =>
              if r15 = true then
                j81 v0_33 v1_33 v2_33 h16
              else
                some (4, h16)))
          else none
        else
          some (2, h6))
        else none : Option (Int32 × y_H))) (fun j33 =>
    if (y_I h2 p0 7) = (-9 : Int32) then
      j33 p0 p1 p2 h2
    else
      if y_K h2 p0 = 9 then
      y_cl (f_X8_kindOn p1 h2) (fun r42 h43 =>
      if (y_I h2 p0 7) = r42 then
        j33 p0 p1 p2 h43
      else
        some (5, h43))
      else none)
    else none
  else
    some (2, h2))
abbrev rm_X8_keepLink : Room := { frames := 2, cells := 0, slots := 0, locals := 44 }
set_option maxRecDepth 100000 in
set_option maxHeartbeats 4000000 in
theorem k_X8_keepLink {l : Launch} {G : y_G} {p0 : Nat} {p1 : Int32} {p2 : Int32} {h hz : y_H} {rz : Int32} (hf : f_X8_keepLink p0 p1 p2 h = some (rz, hz)) : y_S l G M_X8_keepLink rm_X8_keepLink [y_p p0, .int p1, .int p2] h (some (.int rz)) hz := by
  refine y_start (lv := [(0, y_p p0), (1, .int p1), (2, .int p2)]) (by decide) (by simp [lg_sl, y_p_cat, y_ci, y_cj, M_X8_keepLink]) (by simp [lv_args, y_p_cat, y_ci, y_cj]) (fun z ad0 => ?_)
  unfold f_X8_keepLink at hf
  refine y_iload_n (pc2 := 1) rfl dX8_keepLink_0 rfl ?_
  refine y_iconst (v := 0) (pc2 := 2) rfl dX8_keepLink_1 (by decide) ?_
  refine y_iconst (v := 3) (pc2 := 3) rfl dX8_keepLink_2 (by decide) ?_
  obtain ⟨r1, h2, c3, hf⟩ := y_clE hf
  refine y_callS (As := [.int p1, .int 0, .int 3]) (rm := rm_X11_isWithin) (cells := 0) (slots := 0) (pc2 := 6) rfl dX8_keepLink_3 n_X11_isWithin l_BoxYard_Tasks_66 t_X11_isWithin rfl rfl (by decide) (by decide) (by decide) (k_X11_isWithin c3) ?_
  refine y_ifz_ne (tgt := 11) (pc2 := 9) rfl dX8_keepLink_6 (by decide) (fun c49 => ?_) (fun c49 => ?_)
  · replace hf := y_it c49 hf
    refine y_aload_n (x := p0) (pc2 := 12) rfl dX8_keepLink_11 rfl ?_
    obtain ⟨g48, hf⟩ := y_g hf
    refine y_getI (pc2 := 15) rfl dX8_keepLink_12 F_BoxYard_Tasks_24 (by decide) rfl g48 ?_
    refine y_bipush (v := (-9 : Int32)) (pc2 := 17) rfl dX8_keepLink_15 (by decide) ?_
    refine y_jnE hf (fun j => ∀ (v0_33 : Nat) (v1_33 : Int32) (v2_33 : Int32) (h4 : y_H), j v0_33 v1_33 v2_33 h4 = some (rz, hz) → y_V l G z rm_X8_keepLink M_X8_keepLink ad0 h (some (.int rz)) hz 33 [(0, y_p v0_33), (1, .int v1_33), (2, .int v2_33)] [] h4 0 0) (fun v0_33 v1_33 v2_33 h4 hf => ?_) (fun j33 hj33 hf => ?_)
    · refine y_aload_n (x := v0_33) (pc2 := 34) rfl dX8_keepLink_33 rfl ?_
      refine y_iload_n (pc2 := 35) rfl dX8_keepLink_34 rfl ?_
      refine y_iload_n (pc2 := 36) rfl dX8_keepLink_35 rfl ?_
      obtain ⟨g41, hf⟩ := y_g hf
      obtain ⟨r5, h6, c7, hf⟩ := y_clE hf
      refine y_callV (As := [.int v1_33, .int v2_33]) (rm := rm_X8_hasPlace) (cells := 0) (slots := 0) (pc2 := 39) rfl dX8_keepLink_36 n_X8_hasPlace l_BoxYard_Tasks_240 i_X8_hasPlace e_X8_hasPlace (ci := 8) rfl rfl (by decide) g41 rfl rfl (by decide) (by decide) (by decide) (k_X8_hasPlace c7) ?_
      refine y_ifz_ne (tgt := 44) (pc2 := 42) rfl dX8_keepLink_39 (by decide) (fun c40 => ?_) (fun c40 => ?_)
      · replace hf := y_it c40 hf
        refine y_aload_n (x := v0_33) (pc2 := 45) rfl dX8_keepLink_44 rfl ?_
        obtain ⟨g39, hf⟩ := y_g hf
        refine y_getI (pc2 := 48) rfl dX8_keepLink_45 F_BoxYard_Tasks_24 (by decide) rfl g39 ?_
        refine y_if_ne (tgt := 65) (pc2 := 51) rfl dX8_keepLink_48 (by decide) (fun c38 => ?_) (fun c38 => ?_)
        · replace hf := y_ie c38 hf
          refine y_null (pc2 := 66) rfl dX8_keepLink_65 ?_
          refine y_astore_n (lv' := [(3, y_p 0), (0, y_p v0_33), (1, .int v1_33), (2, .int v2_33)]) (pc2 := 67) rfl dX8_keepLink_66 (by decide) rfl ?_
          refine y_aload_n (x := 0) (pc2 := 68) rfl dX8_keepLink_67 rfl ?_
          refine y_jnE hf (fun j => ∀ (v0_81 : Nat) (v1_81 : Int32) (v2_81 : Int32) (h8 : y_H), j v0_81 v1_81 v2_81 h8 = some (rz, hz) → y_V l G z rm_X8_keepLink M_X8_keepLink ad0 h (some (.int rz)) hz 81 [(0, y_p v0_81), (1, .int v1_81), (2, .int v2_81)] [] h8 0 0) (fun v0_81 v1_81 v2_81 h8 hf => ?_) (fun j81 hj81 hf => ?_)
          · refine y_aload_n (x := v0_81) (pc2 := 82) rfl dX8_keepLink_81 rfl ?_
            obtain ⟨g14, hf⟩ := y_g hf
            refine y_getP (pc2 := 85) rfl dX8_keepLink_82 F_BoxYard_Tasks_36 (by decide) rfl g14 ?_
            refine y_iload_n (pc2 := 86) rfl dX8_keepLink_85 rfl ?_
            obtain ⟨g13, hf⟩ := y_g hf
            refine y_aald (t := 8) (pc2 := 87) rfl dX8_keepLink_86 (by decide) rfl g13.1 (y_ix_in g13.2) ?_
            refine y_iload_n (pc2 := 88) rfl dX8_keepLink_87 rfl ?_
            refine y_aload_n (x := v0_81) (pc2 := 89) rfl dX8_keepLink_88 rfl ?_
            obtain ⟨g12, hf⟩ := y_g hf
            refine y_getI (pc2 := 92) rfl dX8_keepLink_89 F_BoxYard_Tasks_28 (by decide) rfl g12 ?_
            obtain ⟨g11, hf⟩ := y_g hf
            obtain ⟨h9, e10, hf⟩ := y_bdE hf
            refine y_iast (x := y_I h8 v0_81 8) (pc2 := 93) rfl dX8_keepLink_92 g11.1 (y_ix_in g11.2) e10 ?_
            refine y_iconst (v := 0) (pc2 := 94) rfl dX8_keepLink_93 (by decide) ?_
            exact y_iretF hf dX8_keepLink_94 rfl (by decide) (by decide)
          · refine y_ifnull (tgt := 81) (pc2 := 71) rfl dX8_keepLink_68 (by decide) (fun c19 => ?_) (fun c19 => ?_)
            · replace hf := y_it c19 hf
              exact y_pk [1, 2, 3] rfl (hj81 _ _ _ _ hf)
            · replace hf := y_ie c19 hf
              refine y_iload_n (pc2 := 72) rfl dX8_keepLink_71 rfl ?_
              refine y_aload_n (x := 0) (pc2 := 73) rfl dX8_keepLink_72 rfl ?_
              obtain ⟨r15, h16, c17, hf⟩ := y_clE hf
              refine y_callS (As := [.int v1_33, y_p 0]) (rm := rm_X8_takesKind) (cells := 0) (slots := 0) (pc2 := 76) rfl dX8_keepLink_73 n_X8_takesKind l_BoxYard_Tasks_244 t_X8_takesKind rfl rfl (by decide) (by decide) (by decide) (k_X8_takesKind c17) ?_
              refine y_ifz_ne (tgt := 81) (pc2 := 79) rfl dX8_keepLink_76 (by decide) (fun c18 => ?_) (fun c18 => ?_)
              · replace hf := y_it c18 hf
                exact y_pk [1, 2, 3] rfl (hj81 _ _ _ _ hf)
              · replace hf := y_ie c18 hf
                refine y_iconst (v := 4) (pc2 := 80) rfl dX8_keepLink_79 (by decide) ?_
                exact y_iretF hf dX8_keepLink_80 rfl (by decide) (by decide)
        · replace hf := y_it c38 hf
          refine y_aload_n (x := v0_33) (pc2 := 52) rfl dX8_keepLink_51 rfl ?_
          obtain ⟨g37, hf⟩ := y_g hf
          refine y_getP (pc2 := 55) rfl dX8_keepLink_52 F_BoxYard_Tasks_42 (by decide) rfl g37 ?_
          refine y_aload_n (x := v0_33) (pc2 := 56) rfl dX8_keepLink_55 rfl ?_
          obtain ⟨g36, hf⟩ := y_g hf
          refine y_getI (pc2 := 59) rfl dX8_keepLink_56 F_BoxYard_Tasks_28 (by decide) rfl g36 ?_
          obtain ⟨g35, hf⟩ := y_g hf
          obtain ⟨r20, h21, c22, hf⟩ := y_clE hf
          refine y_callV (As := [.int (y_I h6 v0_33 8)]) (rm := rm_X10_boxAt) (cells := 0) (slots := 0) (pc2 := 62) rfl dX8_keepLink_59 n_X10_boxAt l_BoxYard_Tasks_103 i_X10_boxAt e_X10_boxAt (ci := 10) rfl rfl (by decide) g35 rfl rfl (by decide) (by decide) (by decide) (k_X10_boxAt c22) ?_
          refine y_goto (tgt := 66) dX8_keepLink_62 (by decide) ?_
          refine y_astore_n (lv' := [(3, y_p r20), (0, y_p v0_33), (1, .int v1_33), (2, .int v2_33)]) (pc2 := 67) rfl dX8_keepLink_66 (by decide) rfl ?_
          refine y_aload_n (x := r20) (pc2 := 68) rfl dX8_keepLink_67 rfl ?_
          refine y_jnE hf (fun j => ∀ (v0_81 : Nat) (v1_81 : Int32) (v2_81 : Int32) (h23 : y_H), j v0_81 v1_81 v2_81 h23 = some (rz, hz) → y_V l G z rm_X8_keepLink M_X8_keepLink ad0 h (some (.int rz)) hz 81 [(0, y_p v0_81), (1, .int v1_81), (2, .int v2_81)] [] h23 0 0) (fun v0_81 v1_81 v2_81 h23 hf => ?_) (fun j81 hj81 hf => ?_)
          · refine y_aload_n (x := v0_81) (pc2 := 82) rfl dX8_keepLink_81 rfl ?_
            obtain ⟨g29, hf⟩ := y_g hf
            refine y_getP (pc2 := 85) rfl dX8_keepLink_82 F_BoxYard_Tasks_36 (by decide) rfl g29 ?_
            refine y_iload_n (pc2 := 86) rfl dX8_keepLink_85 rfl ?_
            obtain ⟨g28, hf⟩ := y_g hf
            refine y_aald (t := 8) (pc2 := 87) rfl dX8_keepLink_86 (by decide) rfl g28.1 (y_ix_in g28.2) ?_
            refine y_iload_n (pc2 := 88) rfl dX8_keepLink_87 rfl ?_
            refine y_aload_n (x := v0_81) (pc2 := 89) rfl dX8_keepLink_88 rfl ?_
            obtain ⟨g27, hf⟩ := y_g hf
            refine y_getI (pc2 := 92) rfl dX8_keepLink_89 F_BoxYard_Tasks_28 (by decide) rfl g27 ?_
            obtain ⟨g26, hf⟩ := y_g hf
            obtain ⟨h24, e25, hf⟩ := y_bdE hf
            refine y_iast (x := y_I h23 v0_81 8) (pc2 := 93) rfl dX8_keepLink_92 g26.1 (y_ix_in g26.2) e25 ?_
            refine y_iconst (v := 0) (pc2 := 94) rfl dX8_keepLink_93 (by decide) ?_
            exact y_iretF hf dX8_keepLink_94 rfl (by decide) (by decide)
          · refine y_ifnull (tgt := 81) (pc2 := 71) rfl dX8_keepLink_68 (by decide) (fun c34 => ?_) (fun c34 => ?_)
            · replace hf := y_it c34 hf
              exact y_pk [1, 2, 3] rfl (hj81 _ _ _ _ hf)
            · replace hf := y_ie c34 hf
              refine y_iload_n (pc2 := 72) rfl dX8_keepLink_71 rfl ?_
              refine y_aload_n (x := r20) (pc2 := 73) rfl dX8_keepLink_72 rfl ?_
              obtain ⟨r30, h31, c32, hf⟩ := y_clE hf
              refine y_callS (As := [.int v1_33, y_p r20]) (rm := rm_X8_takesKind) (cells := 0) (slots := 0) (pc2 := 76) rfl dX8_keepLink_73 n_X8_takesKind l_BoxYard_Tasks_244 t_X8_takesKind rfl rfl (by decide) (by decide) (by decide) (k_X8_takesKind c32) ?_
              refine y_ifz_ne (tgt := 81) (pc2 := 79) rfl dX8_keepLink_76 (by decide) (fun c33 => ?_) (fun c33 => ?_)
              · replace hf := y_it c33 hf
                exact y_pk [1, 2, 3] rfl (hj81 _ _ _ _ hf)
              · replace hf := y_ie c33 hf
                refine y_iconst (v := 4) (pc2 := 80) rfl dX8_keepLink_79 (by decide) ?_
                exact y_iretF hf dX8_keepLink_80 rfl (by decide) (by decide)
      · replace hf := y_ie c40 hf
        refine y_iconst (v := 2) (pc2 := 43) rfl dX8_keepLink_42 (by decide) ?_
        exact y_iretF hf dX8_keepLink_43 rfl (by decide) (by decide)
    · refine y_icmp_eq (tgt := 33) (pc2 := 20) rfl dX8_keepLink_17 (by decide) (fun c47 => ?_) (fun c47 => ?_)
      · replace hf := y_it c47 hf
        exact y_pk [0, 1, 2] rfl (hj33 _ _ _ _ hf)
      · replace hf := y_ie c47 hf
        refine y_aload_n (x := p0) (pc2 := 21) rfl dX8_keepLink_20 rfl ?_
        obtain ⟨g46, hf⟩ := y_g hf
        refine y_getI (pc2 := 24) rfl dX8_keepLink_21 F_BoxYard_Tasks_24 (by decide) rfl g46 ?_
        refine y_iload_n (pc2 := 25) rfl dX8_keepLink_24 rfl ?_
        obtain ⟨r42, h43, c44, hf⟩ := y_clE hf
        refine y_callS (As := [.int p1]) (rm := rm_X8_kindOn) (cells := 0) (slots := 0) (pc2 := 28) rfl dX8_keepLink_25 n_X8_kindOn l_BoxYard_Tasks_237 t_X8_kindOn rfl rfl (by decide) (by simp [y_ci, y_cj, y_p_cat]) (by decide) (k_X8_kindOn c44) ?_
        refine y_icmp_eq (tgt := 33) (pc2 := 31) rfl dX8_keepLink_28 (by decide) (fun c45 => ?_) (fun c45 => ?_)
        · replace hf := y_it c45 hf
          exact y_pk [0, 1, 2] rfl (hj33 _ _ _ _ hf)
        · replace hf := y_ie c45 hf
          refine y_iconst (v := 5) (pc2 := 32) rfl dX8_keepLink_31 (by decide) ?_
          exact y_iretF hf dX8_keepLink_32 rfl (by decide) (by decide)
  · replace hf := y_ie c49 hf
    refine y_iconst (v := 2) (pc2 := 10) rfl dX8_keepLink_9 (by decide) ?_
    exact y_iretF hf dX8_keepLink_10 rfl (by decide) (by decide)
