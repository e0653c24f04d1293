theorem dX12_drop_0 : decode cX12_drop 0 = .ok (.aload_n 0, 1) := by decide +kernel
theorem dX12_drop_1 : decode cX12_drop 1 = .ok (.iconst 0, 1) := by decide +kernel
theorem dX12_drop_2 : decode cX12_drop 2 = .ok (.putfield 249, 3) := by decide +kernel
theorem dX12_drop_5 : decode cX12_drop 5 = .ok (.aload_n 0, 1) := by decide +kernel
theorem dX12_drop_6 : decode cX12_drop 6 = .ok (.iload_n 1, 1) := by decide +kernel
theorem dX12_drop_7 : decode cX12_drop 7 = .ok (.invokevirtual 329, 3) := by decide +kernel
theorem dX12_drop_10 : decode cX12_drop 10 = .ok (.ifCond .ne 9, 3) := by decide +kernel
theorem dX12_drop_13 : decode cX12_drop 13 = .ok (.aload_n 0, 1) := by decide +kernel
theorem dX12_drop_14 : decode cX12_drop 14 = .ok (.iconst (-1), 1) := by decide +kernel
theorem dX12_drop_15 : decode cX12_drop 15 = .ok (.invokevirtual 345, 3) := by decide +kernel
theorem dX12_drop_18 : decode cX12_drop 18 = .ok (.ireturn, 1) := by decide +kernel
theorem dX12_drop_19 : decode cX12_drop 19 = .ok (.aload_n 0, 1) := by decide +kernel
theorem dX12_drop_20 : decode cX12_drop 20 = .ok (.getfield 89, 3) := by decide +kernel
theorem dX12_drop_23 : decode cX12_drop 23 = .ok (.iload_n 1, 1) := by decide +kernel
theorem dX12_drop_24 : decode cX12_drop 24 = .ok (.iaload, 1) := by decide +kernel
theorem dX12_drop_25 : decode cX12_drop 25 = .ok (.ifCond .ge 10, 3) := by decide +kernel
theorem dX12_drop_28 : decode cX12_drop 28 = .ok (.aload_n 0, 1) := by decide +kernel
theorem dX12_drop_29 : decode cX12_drop 29 = .ok (.bipush (-3), 2) := by decide +kernel
theorem dX12_drop_31 : decode cX12_drop 31 = .ok (.invokevirtual 345, 3) := by decide +kernel
theorem dX12_drop_34 : decode cX12_drop 34 = .ok (.ireturn, 1) := by decide +kernel
theorem dX12_drop_35 : decode cX12_drop 35 = .ok (.aload_n 0, 1) := by decide +kernel
theorem dX12_drop_36 : decode cX12_drop 36 = .ok (.iload_n 1, 1) := by decide +kernel
theorem dX12_drop_37 : decode cX12_drop 37 = .ok (.invokevirtual 348, 3) := by decide +kernel
theorem dX12_drop_40 : decode cX12_drop 40 = .ok (.ifCond .eq 11, 3) := by decide +kernel
theorem dX12_drop_43 : decode cX12_drop 43 = .ok (.aload_n 0, 1) := by decide +kernel
theorem dX12_drop_44 : decode cX12_drop 44 = .ok (.iload_n 1, 1) := by decide +kernel
theorem dX12_drop_45 : decode cX12_drop 45 = .ok (.bipush 6, 2) := by decide +kernel
theorem dX12_drop_47 : decode cX12_drop 47 = .ok (.invokevirtual 351, 3) := by decide +kernel
theorem dX12_drop_50 : decode cX12_drop 50 = .ok (.ireturn, 1) := by decide +kernel
theorem dX12_drop_51 : decode cX12_drop 51 = .ok (.aload_n 0, 1) := by decide +kernel
theorem dX12_drop_52 : decode cX12_drop 52 = .ok (.getfield 86, 3) := by decide +kernel
theorem dX12_drop_55 : decode cX12_drop 55 = .ok (.iload_n 1, 1) := by decide +kernel
theorem dX12_drop_56 : decode cX12_drop 56 = .ok (.iaload, 1) := by decide +kernel
theorem dX12_drop_57 : decode cX12_drop 57 = .ok (.ifCond .eq 11, 3) := by decide +kernel
theorem dX12_drop_60 : decode cX12_drop 60 = .ok (.aload_n 0, 1) := by decide +kernel
theorem dX12_drop_61 : decode cX12_drop 61 = .ok (.iload_n 1, 1) := by decide +kernel
theorem dX12_drop_62 : decode cX12_drop 62 = .ok (.bipush 10, 2) := by decide +kernel
theorem dX12_drop_64 : decode cX12_drop 64 = .ok (.invokevirtual 351, 3) := by decide +kernel
theorem dX12_drop_67 : decode cX12_drop 67 = .ok (.ireturn, 1) := by decide +kernel
theorem dX12_drop_68 : decode cX12_drop 68 = .ok (.aload_n 0, 1) := by decide +kernel
theorem dX12_drop_69 : decode cX12_drop 69 = .ok (.iload_n 1, 1) := by decide +kernel
theorem dX12_drop_70 : decode cX12_drop 70 = .ok (.aload_n 0, 1) := by decide +kernel
theorem dX12_drop_71 : decode cX12_drop 71 = .ok (.getfield 89, 3) := by decide +kernel
theorem dX12_drop_74 : decode cX12_drop 74 = .ok (.iload_n 1, 1) := by decide +kernel
theorem dX12_drop_75 : decode cX12_drop 75 = .ok (.iaload, 1) := by decide +kernel
theorem dX12_drop_76 : decode cX12_drop 76 = .ok (.bipush (-9), 2) := by decide +kernel
theorem dX12_drop_78 : decode cX12_drop 78 = .ok (.invokevirtual 355, 3) := by decide +kernel
theorem dX12_drop_81 : decode cX12_drop 81 = .ok (.aload_n 0, 1) := by decide +kernel
theorem dX12_drop_82 : decode cX12_drop 82 = .ok (.aload_n 0, 1) := by decide +kernel
theorem dX12_drop_83 : decode cX12_drop 83 = .ok (.getfield 89, 3) := by decide +kernel
theorem dX12_drop_86 : decode cX12_drop 86 = .ok (.iload_n 1, 1) := by decide +kernel
theorem dX12_drop_87 : decode cX12_drop 87 = .ok (.iaload, 1) := by decide +kernel
theorem dX12_drop_88 : decode cX12_drop 88 = .ok (.iconst 4, 1) := by decide +kernel
theorem dX12_drop_89 : decode cX12_drop 89 = .ok (.iconst 0, 1) := by decide +kernel
theorem dX12_drop_90 : decode cX12_drop 90 = .ok (.iconst 0, 1) := by decide +kernel
theorem dX12_drop_91 : decode cX12_drop 91 = .ok (.iconst 0, 1) := by decide +kernel
theorem dX12_drop_92 : decode cX12_drop 92 = .ok (.invokevirtual 294, 3) := by decide +kernel
theorem dX12_drop_95 : decode cX12_drop 95 = .ok (.aload_n 0, 1) := by decide +kernel
theorem dX12_drop_96 : decode cX12_drop 96 = .ok (.getfield 89, 3) := by decide +kernel
theorem dX12_drop_99 : decode cX12_drop 99 = .ok (.iload_n 1, 1) := by decide +kernel
theorem dX12_drop_100 : decode cX12_drop 100 = .ok (.iconst (-1), 1) := by decide +kernel
theorem dX12_drop_101 : decode cX12_drop 101 = .ok (.iastore, 1) := by decide +kernel
theorem dX12_drop_102 : decode cX12_drop 102 = .ok (.aload_n 0, 1) := by decide +kernel
theorem dX12_drop_103 : decode cX12_drop 103 = .ok (.invokevirtual 359, 3) := by decide +kernel
theorem dX12_drop_106 : decode cX12_drop 106 = .ok (.ireturn, 1) := by decide +kernel
def M_X12_drop : y_M := (yX12_drop, cX12_drop, 2, (Option.some Jvm.ClassFile.FieldType.int))
theorem n_X12_drop : y_N0 M_X12_drop 1 := ⟨(c_9 129 (by decide +kernel) rfl), (c_1 9 (by decide +kernel) rfl), ⟨by decide +kernel, by decide +kernel⟩, by decide +kernel⟩
set_option maxRecDepth 100000 in
def f_X12_drop (p0 : Nat) (p1 : Int32) (h : y_H) : Option (Int32 × y_H) :=
  if y_K h p0 = 13 then
  y_bd (s_I h p0 46 0) (fun h1 =>
  if y_K h1 p0 = 13 then
  y_cl (f_X12_isCrane p0 p1 h1) (fun r4 h5 =>
  if r4 = true then
    if y_K h5 p0 = 13 then
    if y_K h5 (y_P h5 p0 29) = 100 ∧ y_ix p1 (y_N h5 (y_P h5 p0 29)) = true then
    if 0 ≤ (y_I h5 (y_P h5 p0 29) (Int32.toNatClampNeg p1)) then
      if y_K h5 p0 = 13 then
      y_cl (f_X12_isWindy p0 p1 h5) (fun r7 h8 =>
      if r7 = true then
        if y_K h8 p0 = 13 then
        y_cl (f_X12_breaks p0 p1 6 h8) (fun r35 h36 =>
        some (r35, h36))
        else none
      else
        if y_K h8 p0 = 13 then
        if y_K h8 (y_P h8 p0 28) = 100 ∧ y_ix p1 (y_N h8 (y_P h8 p0 28)) = true then
        if (y_I h8 (y_P h8 p0 28) (Int32.toNatClampNeg p1)) = 0 then
          if y_K h8 p0 = 13 then
          if y_K h8 (y_P h8 p0 29) = 100 ∧ y_ix p1 (y_N h8 (y_P h8 p0 29)) = true then
          if y_K h8 p0 = 13 then
          y_cl (f_X12_keep p0 p1 (y_I h8 (y_P h8 p0 29) (Int32.toNatClampNeg p1)) (-9 : Int32) h8) (fun _ h10 =>
          if y_K h10 p0 = 13 then
          if y_K h10 (y_P h10 p0 29) = 100 ∧ y_ix p1 (y_N h10 (y_P h10 p0 29)) = true then
          if y_K h10 p0 = 13 then
          y_cl (f_X12_put p0 (y_I h10 (y_P h10 p0 29) (Int32.toNatClampNeg p1)) 4 0 0 0 h10) (fun _ h12 =>
          if y_K h12 p0 = 13 then
          if y_K h12 (y_P h12 p0 29) = 100 ∧ y_ix p1 (y_N h12 (y_P h12 p0 29)) = true then
          y_bd (s_I h12 (y_P h12 p0 29) (Int32.toNatClampNeg p1) (-1 : Int32)) (fun h14 =>
          if y_K h14 p0 = 13 then
          y_cl (f_X12_done p0 h14) (fun r17 h18 =>
          some (r17, h18))
          else none)
          else none
          else none)
          else none
          else none
          else none)
          else none
          else none
          else none
        else
          if y_K h8 p0 = 13 then
          y_cl (f_X12_breaks p0 p1 10 h8) (fun r28 h29 =>
          some (r28, h29))
          else none
        else none
        else none)
      else none
    else
      if y_K h5 p0 = 13 then
      y_cl (f_X12_refused p0 (-3 : Int32) h5) (fun r41 h42 =>
      some (r41, h42))
      else none
    else none
    else none
  else
    if y_K h5 p0 = 13 then
    y_cl (f_X12_refused p0 (-1 : Int32) h5) (fun r48 h49 =>
    some (r48, h49))
    else none)
  else none)
  else none
abbrev rm_X12_drop : Room := { frames := 3, cells := 0, slots := 0, locals := 64 }
set_option maxRecDepth 100000 in
set_option maxHeartbeats 4000000 in
theorem k_X12_drop {l : Launch} {G : y_G} {p0 : Nat} {p1 : Int32} {h hz : y_H} {rz : Int32} (hf : f_X12_drop p0 p1 h = some (rz, hz)) : y_S l G M_X12_drop rm_X12_drop [y_p p0, .int p1] h (some (.int rz)) hz := by
  refine y_start (lv := [(0, y_p p0), (1, .int p1)]) (by decide) (by simp [lg_sl, y_p_cat, y_ci, y_cj, M_X12_drop]) (by simp [lv_args, y_p_cat, y_ci, y_cj]) (fun z ad0 => ?_)
  unfold f_X12_drop at hf
  refine y_aload_n (x := p0) (pc2 := 1) rfl dX12_drop_0 rfl ?_
  refine y_iconst (v := 0) (pc2 := 2) rfl dX12_drop_1 (by decide) ?_
  obtain ⟨g3, hf⟩ := y_g hf
  obtain ⟨h1, e2, hf⟩ := y_bdE hf
  refine y_putI (x := 0) (pc2 := 5) rfl dX12_drop_2 Fp_BoxYardModel_249 (by decide) rfl g3 e2 ?_
  refine y_aload_n (x := p0) (pc2 := 6) rfl dX12_drop_5 rfl ?_
  refine y_iload_n (pc2 := 7) rfl dX12_drop_6 rfl ?_
  obtain ⟨g53, hf⟩ := y_g hf
  obtain ⟨r4, h5, c6, hf⟩ := y_clE hf
  refine y_callV (As := [.int p1]) (rm := rm_X12_isCrane) (cells := 0) (slots := 0) (pc2 := 10) rfl dX12_drop_7 n_X12_isCrane l_BoxYardModel_329 i_X12_isCrane e_X12_isCrane (ci := 12) rfl rfl (by decide) g53 rfl rfl (by decide) (by decide) (by decide) (k_X12_isCrane c6) ?_
  refine y_ifz_ne (tgt := 19) (pc2 := 13) rfl dX12_drop_10 (by decide) (fun c52 => ?_) (fun c52 => ?_)
  · replace hf := y_it c52 hf
    refine y_aload_n (x := p0) (pc2 := 20) rfl dX12_drop_19 rfl ?_
    obtain ⟨g47, hf⟩ := y_g hf
    refine y_getP (pc2 := 23) rfl dX12_drop_20 F_BoxYardModel_89 (by decide) rfl g47 ?_
    refine y_iload_n (pc2 := 24) rfl dX12_drop_23 rfl ?_
    obtain ⟨g46, hf⟩ := y_g hf
    refine y_iald (pc2 := 25) rfl dX12_drop_24 g46.1 (y_ix_in g46.2) ?_
    refine y_if_ge (tgt := 35) (pc2 := 28) rfl dX12_drop_25 (by decide) (fun c45 => ?_) (fun c45 => ?_)
    · replace hf := y_it c45 hf
      refine y_aload_n (x := p0) (pc2 := 36) rfl dX12_drop_35 rfl ?_
      refine y_iload_n (pc2 := 37) rfl dX12_drop_36 rfl ?_
      obtain ⟨g40, hf⟩ := y_g hf
      obtain ⟨r7, h8, c9, hf⟩ := y_clE hf
      refine y_callV (As := [.int p1]) (rm := rm_X12_isWindy) (cells := 0) (slots := 0) (pc2 := 40) rfl dX12_drop_37 n_X12_isWindy l_BoxYardModel_348 i_X12_isWindy e_X12_isWindy (ci := 12) rfl rfl (by decide) g40 rfl rfl (by decide) (by decide) (by decide) (k_X12_isWindy c9) ?_
      refine y_ifz_eq (tgt := 51) (pc2 := 43) rfl dX12_drop_40 (by decide) (fun c39 => ?_) (fun c39 => ?_)
      · replace hf := y_ie c39 hf
        refine y_aload_n (x := p0) (pc2 := 52) rfl dX12_drop_51 rfl ?_
        obtain ⟨g34, hf⟩ := y_g hf
        refine y_getP (pc2 := 55) rfl dX12_drop_52 F_BoxYardModel_86 (by decide) rfl g34 ?_
        refine y_iload_n (pc2 := 56) rfl dX12_drop_55 rfl ?_
        obtain ⟨g33, hf⟩ := y_g hf
        refine y_iald (pc2 := 57) rfl dX12_drop_56 g33.1 (y_ix_in g33.2) ?_
        refine y_if_eq (tgt := 68) (pc2 := 60) rfl dX12_drop_57 (by decide) (fun c32 => ?_) (fun c32 => ?_)
        · replace hf := y_it c32 hf
          refine y_aload_n (x := p0) (pc2 := 69) rfl dX12_drop_68 rfl ?_
          refine y_iload_n (pc2 := 70) rfl dX12_drop_69 rfl ?_
          refine y_aload_n (x := p0) (pc2 := 71) rfl dX12_drop_70 rfl ?_
          obtain ⟨g27, hf⟩ := y_g hf
          refine y_getP (pc2 := 74) rfl dX12_drop_71 F_BoxYardModel_89 (by decide) rfl g27 ?_
          refine y_iload_n (pc2 := 75) rfl dX12_drop_74 rfl ?_
          obtain ⟨g26, hf⟩ := y_g hf
          refine y_iald (pc2 := 76) rfl dX12_drop_75 g26.1 (y_ix_in g26.2) ?_
          refine y_bipush (v := (-9 : Int32)) (pc2 := 78) rfl dX12_drop_76 (by decide) ?_
          obtain ⟨g25, hf⟩ := y_g hf
          obtain ⟨r_, h10, c11, hf⟩ := y_clE hf
          refine y_callV (As := [.int p1, .int (y_I h8 (y_P h8 p0 29) (Int32.toNatClampNeg p1)), .int (-9 : Int32)]) (rm := rm_X12_keep) (cells := 0) (slots := 0) (pc2 := 81) rfl dX12_drop_78 n_X12_keep l_BoxYardModel_355 i_X12_keep e_X12_keep (ci := 12) rfl rfl (by decide) g25 rfl rfl (by decide) (by decide) (by decide) (k_X12_keep c11) ?_
          refine y_aload_n (x := p0) (pc2 := 82) rfl dX12_drop_81 rfl ?_
          refine y_aload_n (x := p0) (pc2 := 83) rfl dX12_drop_82 rfl ?_
          obtain ⟨g24, hf⟩ := y_g hf
          refine y_getP (pc2 := 86) rfl dX12_drop_83 F_BoxYardModel_89 (by decide) rfl g24 ?_
          refine y_iload_n (pc2 := 87) rfl dX12_drop_86 rfl ?_
          obtain ⟨g23, hf⟩ := y_g hf
          refine y_iald (pc2 := 88) rfl dX12_drop_87 g23.1 (y_ix_in g23.2) ?_
          refine y_iconst (v := 4) (pc2 := 89) rfl dX12_drop_88 (by decide) ?_
          refine y_iconst (v := 0) (pc2 := 90) rfl dX12_drop_89 (by decide) ?_
          refine y_iconst (v := 0) (pc2 := 91) rfl dX12_drop_90 (by decide) ?_
          refine y_iconst (v := 0) (pc2 := 92) rfl dX12_drop_91 (by decide) ?_
          obtain ⟨g22, hf⟩ := y_g hf
          obtain ⟨r_, h12, c13, hf⟩ := y_clE hf
          refine y_callV (As := [.int (y_I h10 (y_P h10 p0 29) (Int32.toNatClampNeg p1)), .int 4, .int 0, .int 0, .int 0]) (rm := rm_X12_put) (cells := 0) (slots := 0) (pc2 := 95) rfl dX12_drop_92 n_X12_put l_BoxYardModel_294 i_X12_put e_X12_put (ci := 12) rfl rfl (by decide) g22 rfl rfl (by decide) (by decide) (by decide) (k_X12_put c13) ?_
          refine y_aload_n (x := p0) (pc2 := 96) rfl dX12_drop_95 rfl ?_
          obtain ⟨g21, hf⟩ := y_g hf
          refine y_getP (pc2 := 99) rfl dX12_drop_96 F_BoxYardModel_89 (by decide) rfl g21 ?_
          refine y_iload_n (pc2 := 100) rfl dX12_drop_99 rfl ?_
          refine y_iconst (v := (-1 : Int32)) (pc2 := 101) rfl dX12_drop_100 (by decide) ?_
          obtain ⟨g16, hf⟩ := y_g hf
          obtain ⟨h14, e15, hf⟩ := y_bdE hf
          refine y_iast (x := (-1 : Int32)) (pc2 := 102) rfl dX12_drop_101 g16.1 (y_ix_in g16.2) e15 ?_
          refine y_aload_n (x := p0) (pc2 := 103) rfl dX12_drop_102 rfl ?_
          obtain ⟨g20, hf⟩ := y_g hf
          obtain ⟨r17, h18, c19, hf⟩ := y_clE hf
          refine y_callV (As := []) (rm := rm_X12_done) (cells := 0) (slots := 0) (pc2 := 106) rfl dX12_drop_103 n_X12_done l_BoxYardModel_359 i_X12_done e_X12_done (ci := 12) rfl rfl (by decide) g20 rfl rfl (by decide) (by decide) (by decide) (k_X12_done c19) ?_
          exact y_iretF hf dX12_drop_106 rfl (by decide) (by decide)
        · replace hf := y_ie c32 hf
          refine y_aload_n (x := p0) (pc2 := 61) rfl dX12_drop_60 rfl ?_
          refine y_iload_n (pc2 := 62) rfl dX12_drop_61 rfl ?_
          refine y_bipush (v := 10) (pc2 := 64) rfl dX12_drop_62 (by decide) ?_
          obtain ⟨g31, hf⟩ := y_g hf
          obtain ⟨r28, h29, c30, hf⟩ := y_clE hf
          refine y_callV (As := [.int p1, .int 10]) (rm := rm_X12_breaks) (cells := 0) (slots := 0) (pc2 := 67) rfl dX12_drop_64 n_X12_breaks l_BoxYardModel_351 i_X12_breaks e_X12_breaks (ci := 12) rfl rfl (by decide) g31 rfl rfl (by decide) (by decide) (by decide) (k_X12_breaks c30) ?_
          exact y_iretF hf dX12_drop_67 rfl (by decide) (by decide)
      · replace hf := y_it c39 hf
        refine y_aload_n (x := p0) (pc2 := 44) rfl dX12_drop_43 rfl ?_
        refine y_iload_n (pc2 := 45) rfl dX12_drop_44 rfl ?_
        refine y_bipush (v := 6) (pc2 := 47) rfl dX12_drop_45 (by decide) ?_
        obtain ⟨g38, hf⟩ := y_g hf
        obtain ⟨r35, h36, c37, hf⟩ := y_clE hf
        refine y_callV (As := [.int p1, .int 6]) (rm := rm_X12_breaks) (cells := 0) (slots := 0) (pc2 := 50) rfl dX12_drop_47 n_X12_breaks l_BoxYardModel_351 i_X12_breaks e_X12_breaks (ci := 12) rfl rfl (by decide) g38 rfl rfl (by decide) (by decide) (by decide) (k_X12_breaks c37) ?_
        exact y_iretF hf dX12_drop_50 rfl (by decide) (by decide)
    · replace hf := y_ie c45 hf
      refine y_aload_n (x := p0) (pc2 := 29) rfl dX12_drop_28 rfl ?_
      refine y_bipush (v := (-3 : Int32)) (pc2 := 31) rfl dX12_drop_29 (by decide) ?_
      obtain ⟨g44, hf⟩ := y_g hf
      obtain ⟨r41, h42, c43, hf⟩ := y_clE hf
      refine y_callV (As := [.int (-3 : Int32)]) (rm := rm_X12_refused) (cells := 0) (slots := 0) (pc2 := 34) rfl dX12_drop_31 n_X12_refused l_BoxYardModel_345 i_X12_refused e_X12_refused (ci := 12) rfl rfl (by decide) g44 rfl rfl (by decide) (by decide) (by decide) (k_X12_refused c43) ?_
      exact y_iretF hf dX12_drop_34 rfl (by decide) (by decide)
  · replace hf := y_ie c52 hf
    refine y_aload_n (x := p0) (pc2 := 14) rfl dX12_drop_13 rfl ?_
    refine y_iconst (v := (-1 : Int32)) (pc2 := 15) rfl dX12_drop_14 (by decide) ?_
    obtain ⟨g51, hf⟩ := y_g hf
    obtain ⟨r48, h49, c50, hf⟩ := y_clE hf
    refine y_callV (As := [.int (-1 : Int32)]) (rm := rm_X12_refused) (cells := 0) (slots := 0) (pc2 := 18) rfl dX12_drop_15 n_X12_refused l_BoxYardModel_345 i_X12_refused e_X12_refused (ci := 12) rfl rfl (by decide) g51 rfl rfl (by decide) (by decide) (by decide) (k_X12_refused c50) ?_
    exact y_iretF hf dX12_drop_18 rfl (by decide) (by decide)
theorem dX12_cell_0 : decode cX12_cell 0 = .ok (.iload_n 2, 1) := by decide +kernel
theorem dX12_cell_1 : decode cX12_cell 1 = .ok (.aload_n 0, 1) := by decide +kernel
theorem dX12_cell_2 : decode cX12_cell 2 = .ok (.getfield 101, 3) := by decide +kernel
theorem dX12_cell_5 : decode cX12_cell 5 = .ok (.iload_n 1, 1) := by decide +kernel
theorem dX12_cell_6 : decode cX12_cell 6 = .ok (.iaload, 1) := by decide +kernel
theorem dX12_cell_7 : decode cX12_cell 7 = .ok (.iload_n 3, 1) := by decide +kernel
theorem dX12_cell_8 : decode cX12_cell 8 = .ok (.aload_n 0, 1) := by decide +kernel
theorem dX12_cell_9 : decode cX12_cell 9 = .ok (.getfield 104, 3) := by decide +kernel
theorem dX12_cell_12 : decode cX12_cell 12 = .ok (.iload_n 1, 1) := by decide +kernel
theorem dX12_cell_13 : decode cX12_cell 13 = .ok (.iaload, 1) := by decide +kernel
theorem dX12_cell_14 : decode cX12_cell 14 = .ok (.iload 4, 2) := by decide +kernel
theorem dX12_cell_16 : decode cX12_cell 16 = .ok (.imul, 1) := by decide +kernel
theorem dX12_cell_17 : decode cX12_cell 17 = .ok (.iadd, 1) := by decide +kernel
theorem dX12_cell_18 : decode cX12_cell 18 = .ok (.imul, 1) := by decide +kernel
theorem dX12_cell_19 : decode cX12_cell 19 = .ok (.iadd, 1) := by decide +kernel
theorem dX12_cell_20 : decode cX12_cell 20 = .ok (.ireturn, 1) := by decide +kernel
def M_X12_cell : y_M := (yX12_cell, cX12_cell, 5, (Option.some Jvm.ClassFile.FieldType.int))
theorem n_X12_cell : y_N0 M_X12_cell 4 := ⟨(c_9 145 (by decide +kernel) rfl), (c_1 9 (by decide +kernel) rfl), ⟨by decide +kernel, by decide +kernel⟩, by decide +kernel⟩
theorem F_BoxYardModel_101 : y_F "BoxYardModel" 101 12 35 := ⟨_, _, _, rfl, by decide, Or.inl (c_7 157 (by decide +kernel) rfl)⟩
theorem F_BoxYardModel_104 : y_F "BoxYardModel" 104 12 36 := ⟨_, _, _, rfl, by decide, Or.inl (c_7 158 (by decide +kernel) rfl)⟩
set_option maxRecDepth 100000 in
def f_X12_cell (p0 : Nat) (p1 : Int32) (p2 : Int32) (p3 : Int32) (p4 : Int32) (h : y_H) : Option (Int32 × y_H) :=
  if y_K h p0 = 13 then
  if y_K h (y_P h p0 35) = 100 ∧ y_ix p1 (y_N h (y_P h p0 35)) = true then
  if y_K h p0 = 13 then
  if y_K h (y_P h p0 36) = 100 ∧ y_ix p1 (y_N h (y_P h p0 36)) = true then
  some (p2 + ((y_I h (y_P h p0 35) (Int32.toNatClampNeg p1)) * (p3 + ((y_I h (y_P h p0 36) (Int32.toNatClampNeg p1)) * p4))), h)
  else none
  else none
  else none
  else none
abbrev rm_X12_cell : Room := { frames := 0, cells := 0, slots := 0, locals := 0 }
set_option maxRecDepth 100000 in
set_option maxHeartbeats 4000000 in
theorem k_X12_cell {l : Launch} {G : y_G} {p0 : Nat} {p1 : Int32} {p2 : Int32} {p3 : Int32} {p4 : Int32} {h hz : y_H} {rz : Int32} (hf : f_X12_cell p0 p1 p2 p3 p4 h = some (rz, hz)) : y_S l G M_X12_cell rm_X12_cell [y_p p0, .int p1, .int p2, .int p3, .int p4] h (some (.int rz)) hz := by
  refine y_start (lv := [(0, y_p p0), (1, .int p1), (2, .int p2), (3, .int p3), (4, .int p4)]) (by decide) (by simp [lg_sl, y_p_cat, y_ci, y_cj, M_X12_cell]) (by simp [lv_args, y_p_cat, y_ci, y_cj]) (fun z ad0 => ?_)
  unfold f_X12_cell at hf
  refine y_iload_n (pc2 := 1) rfl dX12_cell_0 rfl ?_
  refine y_aload_n (x := p0) (pc2 := 2) rfl dX12_cell_1 rfl ?_
  obtain ⟨g4, hf⟩ := y_g hf
  refine y_getP (pc2 := 5) rfl dX12_cell_2 F_BoxYardModel_101 (by decide) rfl g4 ?_
  refine y_iload_n (pc2 := 6) rfl dX12_cell_5 rfl ?_
  obtain ⟨g3, hf⟩ := y_g hf
  refine y_iald (pc2 := 7) rfl dX12_cell_6 g3.1 (y_ix_in g3.2) ?_
  refine y_iload_n (pc2 := 8) rfl dX12_cell_7 rfl ?_
  refine y_aload_n (x := p0) (pc2 := 9) rfl dX12_cell_8 rfl ?_
  obtain ⟨g2, hf⟩ := y_g hf
  refine y_getP (pc2 := 12) rfl dX12_cell_9 F_BoxYardModel_104 (by decide) rfl g2 ?_
  refine y_iload_n (pc2 := 13) rfl dX12_cell_12 rfl ?_
  obtain ⟨g1, hf⟩ := y_g hf
  refine y_iald (pc2 := 14) rfl dX12_cell_13 g1.1 (y_ix_in g1.2) ?_
  refine y_iload (pc2 := 16) rfl dX12_cell_14 rfl ?_
  refine y_imul (pc2 := 17) rfl dX12_cell_16 ?_
  refine y_iadd (pc2 := 18) rfl dX12_cell_17 ?_
  refine y_imul (pc2 := 19) rfl dX12_cell_18 ?_
  refine y_iadd (pc2 := 20) rfl dX12_cell_19 ?_
  exact y_iretF hf dX12_cell_20 rfl (by decide) (by decide)
theorem dX12_isCell_0 : decode cX12_isCell 0 = .ok (.iload_n 2, 1) := by decide +kernel
theorem dX12_isCell_1 : decode cX12_isCell 1 = .ok (.iconst 0, 1) := by decide +kernel
theorem dX12_isCell_2 : decode cX12_isCell 2 = .ok (.aload_n 0, 1) := by decide +kernel
theorem dX12_isCell_3 : decode cX12_isCell 3 = .ok (.getfield 101, 3) := by decide +kernel
theorem dX12_isCell_6 : decode cX12_isCell 6 = .ok (.iload_n 1, 1) := by decide +kernel
theorem dX12_isCell_7 : decode cX12_isCell 7 = .ok (.iaload, 1) := by decide +kernel
theorem dX12_isCell_8 : decode cX12_isCell 8 = .ok (.iconst 1, 1) := by decide +kernel
theorem dX12_isCell_9 : decode cX12_isCell 9 = .ok (.isub, 1) := by decide +kernel
theorem dX12_isCell_10 : decode cX12_isCell 10 = .ok (.invokestatic 278, 3) := by decide +kernel
theorem dX12_isCell_13 : decode cX12_isCell 13 = .ok (.ifCond .eq 40, 3) := by decide +kernel
theorem dX12_isCell_16 : decode cX12_isCell 16 = .ok (.iload_n 3, 1) := by decide +kernel
theorem dX12_isCell_17 : decode cX12_isCell 17 = .ok (.iconst 0, 1) := by decide +kernel
theorem dX12_isCell_18 : decode cX12_isCell 18 = .ok (.aload_n 0, 1) := by decide +kernel
theorem dX12_isCell_19 : decode cX12_isCell 19 = .ok (.getfield 104, 3) := by decide +kernel
theorem dX12_isCell_22 : decode cX12_isCell 22 = .ok (.iload_n 1, 1) := by decide +kernel
theorem dX12_isCell_23 : decode cX12_isCell 23 = .ok (.iaload, 1) := by decide +kernel
theorem dX12_isCell_24 : decode cX12_isCell 24 = .ok (.iconst 1, 1) := by decide +kernel
theorem dX12_isCell_25 : decode cX12_isCell 25 = .ok (.isub, 1) := by decide +kernel
theorem dX12_isCell_26 : decode cX12_isCell 26 = .ok (.invokestatic 278, 3) := by decide +kernel
theorem dX12_isCell_29 : decode cX12_isCell 29 = .ok (.ifCond .eq 24, 3) := by decide +kernel
theorem dX12_isCell_32 : decode cX12_isCell 32 = .ok (.iload 4, 2) := by decide +kernel
theorem dX12_isCell_34 : decode cX12_isCell 34 = .ok (.iconst 0, 1) := by decide +kernel
theorem dX12_isCell_35 : decode cX12_isCell 35 = .ok (.aload_n 0, 1) := by decide +kernel
theorem dX12_isCell_36 : decode cX12_isCell 36 = .ok (.getfield 107, 3) := by decide +kernel
theorem dX12_isCell_39 : decode cX12_isCell 39 = .ok (.iload_n 1, 1) := by decide +kernel
theorem dX12_isCell_40 : decode cX12_isCell 40 = .ok (.iaload, 1) := by decide +kernel
theorem dX12_isCell_41 : decode cX12_isCell 41 = .ok (.iconst 1, 1) := by decide +kernel
theorem dX12_isCell_42 : decode cX12_isCell 42 = .ok (.isub, 1) := by decide +kernel
theorem dX12_isCell_43 : decode cX12_isCell 43 = .ok (.invokestatic 278, 3) := by decide +kernel
theorem dX12_isCell_46 : decode cX12_isCell 46 = .ok (.ifCond .eq 7, 3) := by decide +kernel
theorem dX12_isCell_49 : decode cX12_isCell 49 = .ok (.iconst 1, 1) := by decide +kernel
theorem dX12_isCell_50 : decode cX12_isCell 50 = .ok (.goto 4, 3) := by decide +kernel
theorem dX12_isCell_53 : decode cX12_isCell 53 = .ok (.iconst 0, 1) := by decide +kernel
theorem dX12_isCell_54 : decode cX12_isCell 54 = .ok (.ireturn, 1) := by decide +kernel
def M_X12_isCell : y_M := (yX12_isCell, cX12_isCell, 5, (Option.some Jvm.ClassFile.FieldType.boolean))
theorem n_X12_isCell : y_N0 M_X12_isCell 4 := ⟨(c_9 141 (by decide +kernel) rfl), (c_1 9 (by decide +kernel) rfl), ⟨by decide +kernel, by decide +kernel⟩, by decide +kernel⟩
theorem F_BoxYardModel_107 : y_F "BoxYardModel" 107 12 37 := ⟨_, _, _, rfl, by decide, Or.inl (c_7 159 (by decide +kernel) rfl)⟩
set_option maxRecDepth 100000 in
def f_X12_isCell (p0 : Nat) (p1 : Int32) (p2 : Int32) (p3 : Int32) (p4 : Int32) (h : y_H) : Option (Bool × y_H) :=
  if y_K h p0 = 13 then
  if y_K h (y_P h p0 35) = 100 ∧ y_ix p1 (y_N h (y_P h p0 35)) = true then
  y_cl (f_X12_in p2 0 ((y_I h (y_P h p0 35) (Int32.toNatClampNeg p1)) - 1) h) (fun r1 h2 =>
  y_jn (fun (h4 : y_H) => (
      some (false, h4) : Option (Bool × y_H))) (fun j53 =>
  if r1 = true then
    if y_K h2 p0 = 13 then
    if y_K h2 (y_P h2 p0 36) = 100 ∧ y_ix p1 (y_N h2 (y_P h2 p0 36)) = true then
    y_cl (f_X12_in p3 0 ((y_I h2 (y_P h2 p0 36) (Int32.toNatClampNeg p1)) - 1) h2) (fun r5 h6 =>
    if r5 = true then
      if y_K h6 p0 = 13 then
      if y_K h6 (y_P h6 p0 37) = 100 ∧ y_ix p1 (y_N h6 (y_P h6 p0 37)) = true then
      y_cl (f_X12_in p4 0 ((y_I h6 (y_P h6 p0 37) (Int32.toNatClampNeg p1)) - 1) h6) (fun r8 h9 =>
      if r8 = true then
        some (true, h9)
      else
        j53 h9)
      else none
      else none
    else
      j53 h6)
    else none
    else none
  else
    j53 h2))
  else none
  else none
abbrev rm_X12_isCell : Room := { frames := 1, cells := 0, slots := 0, locals := 22 }
set_option maxRecDepth 100000 in
set_option maxHeartbeats 4000000 in
theorem k_X12_isCell {l : Launch} {G : y_G} {p0 : Nat} {p1 : Int32} {p2 : Int32} {p3 : Int32} {p4 : Int32} {h hz : y_H} {rz : Bool} (hf : f_X12_isCell p0 p1 p2 p3 p4 h = some (rz, hz)) : y_S l G M_X12_isCell rm_X12_isCell [y_p p0, .int p1, .int p2, .int p3, .int p4] h (some (.int (y_z rz))) hz := by
  refine y_start (lv := [(0, y_p p0), (1, .int p1), (2, .int p2), (3, .int p3), (4, .int p4)]) (by decide) (by simp [lg_sl, y_p_cat, y_ci, y_cj, M_X12_isCell]) (by simp [lv_args, y_p_cat, y_ci, y_cj]) (fun z ad0 => ?_)
  unfold f_X12_isCell at hf
  refine y_iload_n (pc2 := 1) rfl dX12_isCell_0 rfl ?_
  refine y_iconst (v := 0) (pc2 := 2) rfl dX12_isCell_1 (by decide) ?_
  refine y_aload_n (x := p0) (pc2 := 3) rfl dX12_isCell_2 rfl ?_
  obtain ⟨g19, hf⟩ := y_g hf
  refine y_getP (pc2 := 6) rfl dX12_isCell_3 F_BoxYardModel_101 (by decide) rfl g19 ?_
  refine y_iload_n (pc2 := 7) rfl dX12_isCell_6 rfl ?_
  obtain ⟨g18, hf⟩ := y_g hf
  refine y_iald (pc2 := 8) rfl dX12_isCell_7 g18.1 (y_ix_in g18.2) ?_
  refine y_iconst (v := 1) (pc2 := 9) rfl dX12_isCell_8 (by decide) ?_
  refine y_isub (pc2 := 10) rfl dX12_isCell_9 ?_
  obtain ⟨r1, h2, c3, hf⟩ := y_clE hf
  refine y_callS (As := [.int p2, .int 0, .int ((y_I h (y_P h p0 35) (Int32.toNatClampNeg p1)) - 1)]) (rm := rm_X12_in) (cells := 0) (slots := 0) (pc2 := 13) rfl dX12_isCell_10 n_X12_in l_BoxYardModel_278 t_X12_in rfl rfl (by decide) (by decide) (by decide) (k_X12_in c3) ?_
  refine y_jnE hf (fun j => ∀ (h4 : y_H), j h4 = some (rz, hz) → y_V l G z rm_X12_isCell M_X12_isCell ad0 h (some (.int (y_z rz))) hz 53 [] [] h4 0 0) (fun h4 hf => ?_) (fun j53 hj53 hf => ?_)
  · refine y_iconst (v := 0) (pc2 := 54) rfl dX12_isCell_53 (by decide) ?_
    exact y_zretF (x := false) hf dX12_isCell_54 rfl (by decide) (by decide)
  · refine y_ifz_eq (tgt := 53) (pc2 := 16) rfl dX12_isCell_13 (by decide) (fun c17 => ?_) (fun c17 => ?_)
    · replace hf := y_ie c17 hf
      exact y_pk [] rfl (hj53 _ hf)
    · replace hf := y_it c17 hf
      refine y_iload_n (pc2 := 17) rfl dX12_isCell_16 rfl ?_
      refine y_iconst (v := 0) (pc2 := 18) rfl dX12_isCell_17 (by decide) ?_
      refine y_aload_n (x := p0) (pc2 := 19) rfl dX12_isCell_18 rfl ?_
      obtain ⟨g16, hf⟩ := y_g hf
      refine y_getP (pc2 := 22) rfl dX12_isCell_19 F_BoxYardModel_104 (by decide) rfl g16 ?_
      refine y_iload_n (pc2 := 23) rfl dX12_isCell_22 rfl ?_
      obtain ⟨g15, hf⟩ := y_g hf
      refine y_iald (pc2 := 24) rfl dX12_isCell_23 g15.1 (y_ix_in g15.2) ?_
      refine y_iconst (v := 1) (pc2 := 25) rfl dX12_isCell_24 (by decide) ?_
      refine y_isub (pc2 := 26) rfl dX12_isCell_25 ?_
      obtain ⟨r5, h6, c7, hf⟩ := y_clE hf
      refine y_callS (As := [.int p3, .int 0, .int ((y_I h2 (y_P h2 p0 36) (Int32.toNatClampNeg p1)) - 1)]) (rm := rm_X12_in) (cells := 0) (slots := 0) (pc2 := 29) rfl dX12_isCell_26 n_X12_in l_BoxYardModel_278 t_X12_in rfl rfl (by decide) (by decide) (by decide) (k_X12_in c7) ?_
      refine y_ifz_eq (tgt := 53) (pc2 := 32) rfl dX12_isCell_29 (by decide) (fun c14 => ?_) (fun c14 => ?_)
      · replace hf := y_ie c14 hf
        exact y_pk [] rfl (hj53 _ hf)
      · replace hf := y_it c14 hf
        refine y_iload (pc2 := 34) rfl dX12_isCell_32 rfl ?_
        refine y_iconst (v := 0) (pc2 := 35) rfl dX12_isCell_34 (by decide) ?_
        refine y_aload_n (x := p0) (pc2 := 36) rfl dX12_isCell_35 rfl ?_
        obtain ⟨g13, hf⟩ := y_g hf
        refine y_getP (pc2 := 39) rfl dX12_isCell_36 F_BoxYardModel_107 (by decide) rfl g13 ?_
        refine y_iload_n (pc2 := 40) rfl dX12_isCell_39 rfl ?_
        obtain ⟨g12, hf⟩ := y_g hf
        refine y_iald (pc2 := 41) rfl dX12_isCell_40 g12.1 (y_ix_in g12.2) ?_
        refine y_iconst (v := 1) (pc2 := 42) rfl dX12_isCell_41 (by decide) ?_
        refine y_isub (pc2 := 43) rfl dX12_isCell_42 ?_
        obtain ⟨r8, h9, c10, hf⟩ := y_clE hf
        refine y_callS (As := [.int p4, .int 0, .int ((y_I h6 (y_P h6 p0 37) (Int32.toNatClampNeg p1)) - 1)]) (rm := rm_X12_in) (cells := 0) (slots := 0) (pc2 := 46) rfl dX12_isCell_43 n_X12_in l_BoxYardModel_278 t_X12_in rfl rfl (by decide) (by decide) (by decide) (k_X12_in c10) ?_
        refine y_ifz_eq (tgt := 53) (pc2 := 49) rfl dX12_isCell_46 (by decide) (fun c11 => ?_) (fun c11 => ?_)
        · replace hf := y_ie c11 hf
          exact y_pk [] rfl (hj53 _ hf)
        · replace hf := y_it c11 hf
          refine y_iconst (v := 1) (pc2 := 50) rfl dX12_isCell_49 (by decide) ?_
          refine y_goto (tgt := 54) dX12_isCell_50 (by decide) ?_
          exact y_zretF (x := true) hf dX12_isCell_54 rfl (by decide) (by decide)
theorem dX12_part_0 : decode cX12_part 0 = .ok (.iload_n 3, 1) := by decide +kernel
theorem dX12_part_1 : decode cX12_part 1 = .ok (.ifCond .ne 25, 3) := by decide +kernel
theorem dX12_part_4 : decode cX12_part 4 = .ok (.iconst 2, 1) := by decide +kernel
theorem dX12_part_5 : decode cX12_part 5 = .ok (.iload_n 2, 1) := by decide +kernel
theorem dX12_part_6 : decode cX12_part 6 = .ok (.aload_n 0, 1) := by decide +kernel
theorem dX12_part_7 : decode cX12_part 7 = .ok (.getfield 101, 3) := by decide +kernel
theorem dX12_part_10 : decode cX12_part 10 = .ok (.iload_n 1, 1) := by decide +kernel
theorem dX12_part_11 : decode cX12_part 11 = .ok (.iaload, 1) := by decide +kernel
theorem dX12_part_12 : decode cX12_part 12 = .ok (.irem, 1) := by decide +kernel
theorem dX12_part_13 : decode cX12_part 13 = .ok (.imul, 1) := by decide +kernel
theorem dX12_part_14 : decode cX12_part 14 = .ok (.iconst 1, 1) := by decide +kernel
theorem dX12_part_15 : decode cX12_part 15 = .ok (.iadd, 1) := by decide +kernel
theorem dX12_part_16 : decode cX12_part 16 = .ok (.aload_n 0, 1) := by decide +kernel
theorem dX12_part_17 : decode cX12_part 17 = .ok (.getfield 101, 3) := by decide +kernel
theorem dX12_part_20 : decode cX12_part 20 = .ok (.iload_n 1, 1) := by decide +kernel
theorem dX12_part_21 : decode cX12_part 21 = .ok (.iaload, 1) := by decide +kernel
theorem dX12_part_22 : decode cX12_part 22 = .ok (.isub, 1) := by decide +kernel
theorem dX12_part_23 : decode cX12_part 23 = .ok (.goto 61, 3) := by decide +kernel
theorem dX12_part_26 : decode cX12_part 26 = .ok (.iload_n 3, 1) := by decide +kernel
theorem dX12_part_27 : decode cX12_part 27 = .ok (.iconst 1, 1) := by decide +kernel
theorem dX12_part_28 : decode cX12_part 28 = .ok (.if_icmp .ne 32, 3) := by decide +kernel
theorem dX12_part_31 : decode cX12_part 31 = .ok (.iconst 2, 1) := by decide +kernel
theorem dX12_part_32 : decode cX12_part 32 = .ok (.iload_n 2, 1) := by decide +kernel
theorem dX12_part_33 : decode cX12_part 33 = .ok (.aload_n 0, 1) := by decide +kernel
theorem dX12_part_34 : decode cX12_part 34 = .ok (.getfield 101, 3) := by decide +kernel
theorem dX12_part_37 : decode cX12_part 37 = .ok (.iload_n 1, 1) := by decide +kernel
theorem dX12_part_38 : decode cX12_part 38 = .ok (.iaload, 1) := by decide +kernel
theorem dX12_part_39 : decode cX12_part 39 = .ok (.idiv, 1) := by decide +kernel
theorem dX12_part_40 : decode cX12_part 40 = .ok (.aload_n 0, 1) := by decide +kernel
theorem dX12_part_41 : decode cX12_part 41 = .ok (.getfield 104, 3) := by decide +kernel
theorem dX12_part_44 : decode cX12_part 44 = .ok (.iload_n 1, 1) := by decide +kernel
theorem dX12_part_45 : decode cX12_part 45 = .ok (.iaload, 1) := by decide +kernel
theorem dX12_part_46 : decode cX12_part 46 = .ok (.irem, 1) := by decide +kernel
theorem dX12_part_47 : decode cX12_part 47 = .ok (.imul, 1) := by decide +kernel
theorem dX12_part_48 : decode cX12_part 48 = .ok (.iconst 1, 1) := by decide +kernel
theorem dX12_part_49 : decode cX12_part 49 = .ok (.iadd, 1) := by decide +kernel
theorem dX12_part_50 : decode cX12_part 50 = .ok (.aload_n 0, 1) := by decide +kernel
theorem dX12_part_51 : decode cX12_part 51 = .ok (.getfield 104, 3) := by decide +kernel
theorem dX12_part_54 : decode cX12_part 54 = .ok (.iload_n 1, 1) := by decide +kernel
theorem dX12_part_55 : decode cX12_part 55 = .ok (.iaload, 1) := by decide +kernel
theorem dX12_part_56 : decode cX12_part 56 = .ok (.isub, 1) := by decide +kernel
theorem dX12_part_57 : decode cX12_part 57 = .ok (.goto 27, 3) := by decide +kernel
theorem dX12_part_60 : decode cX12_part 60 = .ok (.iload_n 3, 1) := by decide +kernel
theorem dX12_part_61 : decode cX12_part 61 = .ok (.iconst 2, 1) := by decide +kernel
theorem dX12_part_62 : decode cX12_part 62 = .ok (.if_icmp .ne 21, 3) := by decide +kernel
theorem dX12_part_65 : decode cX12_part 65 = .ok (.iload_n 2, 1) := by decide +kernel
theorem dX12_part_66 : decode cX12_part 66 = .ok (.aload_n 0, 1) := by decide +kernel
theorem dX12_part_67 : decode cX12_part 67 = .ok (.getfield 101, 3) := by decide +kernel
theorem dX12_part_70 : decode cX12_part 70 = .ok (.iload_n 1, 1) := by decide +kernel
theorem dX12_part_71 : decode cX12_part 71 = .ok (.iaload, 1) := by decide +kernel
theorem dX12_part_72 : decode cX12_part 72 = .ok (.aload_n 0, 1) := by decide +kernel
theorem dX12_part_73 : decode cX12_part 73 = .ok (.getfield 104, 3) := by decide +kernel
theorem dX12_part_76 : decode cX12_part 76 = .ok (.iload_n 1, 1) := by decide +kernel
theorem dX12_part_77 : decode cX12_part 77 = .ok (.iaload, 1) := by decide +kernel
theorem dX12_part_78 : decode cX12_part 78 = .ok (.imul, 1) := by decide +kernel
theorem dX12_part_79 : decode cX12_part 79 = .ok (.idiv, 1) := by decide +kernel
theorem dX12_part_80 : decode cX12_part 80 = .ok (.goto 4, 3) := by decide +kernel
theorem dX12_part_83 : decode cX12_part 83 = .ok (.iconst 1, 1) := by decide +kernel
theorem dX12_part_84 : decode cX12_part 84 = .ok (.ireturn, 1) := by decide +kernel
def M_X12_part : y_M := (yX12_part, cX12_part, 4, (Option.some Jvm.ClassFile.FieldType.int))
theorem n_X12_part : y_N0 M_X12_part 3 := ⟨(c_9 157 (by decide +kernel) rfl), (c_1 9 (by decide +kernel) rfl), ⟨by decide +kernel, by decide +kernel⟩, by decide +kernel⟩
set_option maxRecDepth 100000 in
def f_X12_part (p0 : Nat) (p1 : Int32) (p2 : Int32) (p3 : Int32) (h : y_H) : Option (Int32 × y_H) :=
  if p3 = 0 then
    if y_K h p0 = 13 then
    if y_K h (y_P h p0 35) = 100 ∧ y_ix p1 (y_N h (y_P h p0 35)) = true then
    if ¬ (y_I h (y_P h p0 35) (Int32.toNatClampNeg p1)) = 0 then
    if y_K h p0 = 13 then
    if y_K h (y_P h p0 35) = 100 ∧ y_ix p1 (y_N h (y_P h p0 35)) = true then
    some (((2 * (y_rem p2 (y_I h (y_P h p0 35) (Int32.toNatClampNeg p1)))) + 1) - (y_I h (y_P h p0 35) (Int32.toNatClampNeg p1)), h)
    else none
    else none
    else none
    else none
    else none
  else
    if p3 = 1 then
      if y_K h p0 = 13 then
      if y_K h (y_P h p0 35) = 100 ∧ y_ix p1 (y_N h (y_P h p0 35)) = true then
      if ¬ (y_I h (y_P h p0 35) (Int32.toNatClampNeg p1)) = 0 then
      if y_K h p0 = 13 then
      if y_K h (y_P h p0 36) = 100 ∧ y_ix p1 (y_N h (y_P h p0 36)) = true then
      if ¬ (y_I h (y_P h p0 36) (Int32.toNatClampNeg p1)) = 0 then
      if y_K h p0 = 13 then
      if y_K h (y_P h p0 36) = 100 ∧ y_ix p1 (y_N h (y_P h p0 36)) = true then
      some (((2 * (y_rem (p2 / (y_I h (y_P h p0 35) (Int32.toNatClampNeg p1))) (y_I h (y_P h p0 36) (Int32.toNatClampNeg p1)))) + 1) - (y_I h (y_P h p0 36) (Int32.toNatClampNeg p1)), h)
      else none
      else none
      else none
      else none
      else none
      else none
      else none
      else none
    else
      if p3 = 2 then
        if y_K h p0 = 13 then
        if y_K h (y_P h p0 35) = 100 ∧ y_ix p1 (y_N h (y_P h p0 35)) = true then
        if y_K h p0 = 13 then
        if y_K h (y_P h p0 36) = 100 ∧ y_ix p1 (y_N h (y_P h p0 36)) = true then
        if ¬ ((y_I h (y_P h p0 35) (Int32.toNatClampNeg p1)) * (y_I h (y_P h p0 36) (Int32.toNatClampNeg p1))) = 0 then
        some (p2 / ((y_I h (y_P h p0 35) (Int32.toNatClampNeg p1)) * (y_I h (y_P h p0 36) (Int32.toNatClampNeg p1))), h)
        else none
        else none
        else none
        else none
        else none
      else
        some (1, h)
abbrev rm_X12_part : Room := { frames := 0, cells := 0, slots := 0, locals := 0 }
set_option maxRecDepth 100000 in
set_option maxHeartbeats 4000000 in
theorem k_X12_part {l : Launch} {G : y_G} {p0 : Nat} {p1 : Int32} {p2 : Int32} {p3 : Int32} {h hz : y_H} {rz : Int32} (hf : f_X12_part p0 p1 p2 p3 h = some (rz, hz)) : y_S l G M_X12_part rm_X12_part [y_p p0, .int p1, .int p2, .int p3] h (some (.int rz)) hz := by
  refine y_start (lv := [(0, y_p p0), (1, .int p1), (2, .int p2), (3, .int p3)]) (by decide) (by simp [lg_sl, y_p_cat, y_ci, y_cj, M_X12_part]) (by simp [lv_args, y_p_cat, y_ci, y_cj]) (fun z ad0 => ?_)
  unfold f_X12_part at hf
  refine y_iload_n (pc2 := 1) rfl dX12_part_0 rfl ?_
  refine y_if_ne (tgt := 26) (pc2 := 4) rfl dX12_part_1 (by decide) (fun c21 => ?_) (fun c21 => ?_)
  · replace hf := y_ie c21 hf
    refine y_iload_n (pc2 := 27) rfl dX12_part_26 rfl ?_
    refine y_iconst (v := 1) (pc2 := 28) rfl dX12_part_27 (by decide) ?_
    refine y_icmp_ne (tgt := 60) (pc2 := 31) rfl dX12_part_28 (by decide) (fun c15 => ?_) (fun c15 => ?_)
    · replace hf := y_ie c15 hf
      refine y_iload_n (pc2 := 61) rfl dX12_part_60 rfl ?_
      refine y_iconst (v := 2) (pc2 := 62) rfl dX12_part_61 (by decide) ?_
      refine y_icmp_ne (tgt := 83) (pc2 := 65) rfl dX12_part_62 (by decide) (fun c6 => ?_) (fun c6 => ?_)
      · replace hf := y_ie c6 hf
        refine y_iconst (v := 1) (pc2 := 84) rfl dX12_part_83 (by decide) ?_
        exact y_iretF hf dX12_part_84 rfl (by decide) (by decide)
      · replace hf := y_it c6 hf
        refine y_iload_n (pc2 := 66) rfl dX12_part_65 rfl ?_
        refine y_aload_n (x := p0) (pc2 := 67) rfl dX12_part_66 rfl ?_
        obtain ⟨g5, hf⟩ := y_g hf
        refine y_getP (pc2 := 70) rfl dX12_part_67 F_BoxYardModel_101 (by decide) rfl g5 ?_
        refine y_iload_n (pc2 := 71) rfl dX12_part_70 rfl ?_
        obtain ⟨g4, hf⟩ := y_g hf
        refine y_iald (pc2 := 72) rfl dX12_part_71 g4.1 (y_ix_in g4.2) ?_
        refine y_aload_n (x := p0) (pc2 := 73) rfl dX12_part_72 rfl ?_
        obtain ⟨g3, hf⟩ := y_g hf
        refine y_getP (pc2 := 76) rfl dX12_part_73 F_BoxYardModel_104 (by decide) rfl g3 ?_
        refine y_iload_n (pc2 := 77) rfl dX12_part_76 rfl ?_
        obtain ⟨g2, hf⟩ := y_g hf
        refine y_iald (pc2 := 78) rfl dX12_part_77 g2.1 (y_ix_in g2.2) ?_
        refine y_imul (pc2 := 79) rfl dX12_part_78 ?_
        obtain ⟨g1, hf⟩ := y_g hf
        refine y_idiv (pc2 := 80) rfl dX12_part_79 g1 ?_
        refine y_goto (tgt := 84) dX12_part_80 (by decide) ?_
        exact y_iretF hf dX12_part_84 rfl (by decide) (by decide)
    · replace hf := y_it c15 hf
      refine y_iconst (v := 2) (pc2 := 32) rfl dX12_part_31 (by decide) ?_
      refine y_iload_n (pc2 := 33) rfl dX12_part_32 rfl ?_
      refine y_aload_n (x := p0) (pc2 := 34) rfl dX12_part_33 rfl ?_
      obtain ⟨g14, hf⟩ := y_g hf
      refine y_getP (pc2 := 37) rfl dX12_part_34 F_BoxYardModel_101 (by decide) rfl g14 ?_
      refine y_iload_n (pc2 := 38) rfl dX12_part_37 rfl ?_
      obtain ⟨g13, hf⟩ := y_g hf
      refine y_iald (pc2 := 39) rfl dX12_part_38 g13.1 (y_ix_in g13.2) ?_
      obtain ⟨g12, hf⟩ := y_g hf
      refine y_idiv (pc2 := 40) rfl dX12_part_39 g12 ?_
      refine y_aload_n (x := p0) (pc2 := 41) rfl dX12_part_40 rfl ?_
      obtain ⟨g11, hf⟩ := y_g hf
      refine y_getP (pc2 := 44) rfl dX12_part_41 F_BoxYardModel_104 (by decide) rfl g11 ?_
      refine y_iload_n (pc2 := 45) rfl dX12_part_44 rfl ?_
      obtain ⟨g10, hf⟩ := y_g hf
      refine y_iald (pc2 := 46) rfl dX12_part_45 g10.1 (y_ix_in g10.2) ?_
      obtain ⟨g9, hf⟩ := y_g hf
      refine y_rm (pc2 := 47) rfl dX12_part_46 g9 ?_
      refine y_imul (pc2 := 48) rfl dX12_part_47 ?_
      refine y_iconst (v := 1) (pc2 := 49) rfl dX12_part_48 (by decide) ?_
      refine y_iadd (pc2 := 50) rfl dX12_part_49 ?_
      refine y_aload_n (x := p0) (pc2 := 51) rfl dX12_part_50 rfl ?_
      obtain ⟨g8, hf⟩ := y_g hf
      refine y_getP (pc2 := 54) rfl dX12_part_51 F_BoxYardModel_104 (by decide) rfl g8 ?_
      refine y_iload_n (pc2 := 55) rfl dX12_part_54 rfl ?_
      obtain ⟨g7, hf⟩ := y_g hf
      refine y_iald (pc2 := 56) rfl dX12_part_55 g7.1 (y_ix_in g7.2) ?_
      refine y_isub (pc2 := 57) rfl dX12_part_56 ?_
      refine y_goto (tgt := 84) dX12_part_57 (by decide) ?_
      exact y_iretF hf dX12_part_84 rfl (by decide) (by decide)
  · replace hf := y_it c21 hf
    refine y_iconst (v := 2) (pc2 := 5) rfl dX12_part_4 (by decide) ?_
    refine y_iload_n (pc2 := 6) rfl dX12_part_5 rfl ?_
    refine y_aload_n (x := p0) (pc2 := 7) rfl dX12_part_6 rfl ?_
    obtain ⟨g20, hf⟩ := y_g hf
    refine y_getP (pc2 := 10) rfl dX12_part_7 F_BoxYardModel_101 (by decide) rfl g20 ?_
    refine y_iload_n (pc2 := 11) rfl dX12_part_10 rfl ?_
    obtain ⟨g19, hf⟩ := y_g hf
    refine y_iald (pc2 := 12) rfl dX12_part_11 g19.1 (y_ix_in g19.2) ?_
    obtain ⟨g18, hf⟩ := y_g hf
    refine y_rm (pc2 := 13) rfl dX12_part_12 g18 ?_
    refine y_imul (pc2 := 14) rfl dX12_part_13 ?_
    refine y_iconst (v := 1) (pc2 := 15) rfl dX12_part_14 (by decide) ?_
    refine y_iadd (pc2 := 16) rfl dX12_part_15 ?_
    refine y_aload_n (x := p0) (pc2 := 17) rfl dX12_part_16 rfl ?_
    obtain ⟨g17, hf⟩ := y_g hf
    refine y_getP (pc2 := 20) rfl dX12_part_17 F_BoxYardModel_101 (by decide) rfl g17 ?_
    refine y_iload_n (pc2 := 21) rfl dX12_part_20 rfl ?_
    obtain ⟨g16, hf⟩ := y_g hf
    refine y_iald (pc2 := 22) rfl dX12_part_21 g16.1 (y_ix_in g16.2) ?_
    refine y_isub (pc2 := 23) rfl dX12_part_22 ?_
    refine y_goto (tgt := 84) dX12_part_23 (by decide) ?_
    exact y_iretF hf dX12_part_84 rfl (by decide) (by decide)
theorem dX12_total_0 : decode cX12_total 0 = .ok (.iconst 0, 1) := by decide +kernel
theorem dX12_total_1 : decode cX12_total 1 = .ok (.istore_n 3, 1) := by decide +kernel
theorem dX12_total_2 : decode cX12_total 2 = .ok (.iconst 0, 1) := by decide +kernel
theorem dX12_total_3 : decode cX12_total 3 = .ok (.istore 4, 2) := by decide +kernel
theorem dX12_total_5 : decode cX12_total 5 = .ok (.iload 4, 2) := by decide +kernel
theorem dX12_total_7 : decode cX12_total 7 = .ok (.aload_n 0, 1) := by decide +kernel
theorem dX12_total_8 : decode cX12_total 8 = .ok (.getfield 101, 3) := by decide +kernel
theorem dX12_total_11 : decode cX12_total 11 = .ok (.iload_n 1, 1) := by decide +kernel
theorem dX12_total_12 : decode cX12_total 12 = .ok (.iaload, 1) := by decide +kernel
theorem dX12_total_13 : decode cX12_total 13 = .ok (.aload_n 0, 1) := by decide +kernel
theorem dX12_total_14 : decode cX12_total 14 = .ok (.getfield 104, 3) := by decide +kernel
theorem dX12_total_17 : decode cX12_total 17 = .ok (.iload_n 1, 1) := by decide +kernel
theorem dX12_total_18 : decode cX12_total 18 = .ok (.iaload, 1) := by decide +kernel
theorem dX12_total_19 : decode cX12_total 19 = .ok (.imul, 1) := by decide +kernel
theorem dX12_total_20 : decode cX12_total 20 = .ok (.aload_n 0, 1) := by decide +kernel
theorem dX12_total_21 : decode cX12_total 21 = .ok (.getfield 107, 3) := by decide +kernel
theorem dX12_total_24 : decode cX12_total 24 = .ok (.iload_n 1, 1) := by decide +kernel
theorem dX12_total_25 : decode cX12_total 25 = .ok (.iaload, 1) := by decide +kernel
theorem dX12_total_26 : decode cX12_total 26 = .ok (.imul, 1) := by decide +kernel
theorem dX12_total_27 : decode cX12_total 27 = .ok (.if_icmp .ge 52, 3) := by decide +kernel
theorem dX12_total_30 : decode cX12_total 30 = .ok (.aload_n 0, 1) := by decide +kernel
theorem dX12_total_31 : decode cX12_total 31 = .ok (.getfield 113, 3) := by decide +kernel
theorem dX12_total_34 : decode cX12_total 34 = .ok (.bipush 54, 2) := by decide +kernel
theorem dX12_total_36 : decode cX12_total 36 = .ok (.iload_n 1, 1) := by decide +kernel
theorem dX12_total_37 : decode cX12_total 37 = .ok (.imul, 1) := by decide +kernel
theorem dX12_total_38 : decode cX12_total 38 = .ok (.iload 4, 2) := by decide +kernel
theorem dX12_total_40 : decode cX12_total 40 = .ok (.iadd, 1) := by decide +kernel
theorem dX12_total_41 : decode cX12_total 41 = .ok (.iaload, 1) := by decide +kernel
theorem dX12_total_42 : decode cX12_total 42 = .ok (.ifCond .lt 31, 3) := by decide +kernel
theorem dX12_total_45 : decode cX12_total 45 = .ok (.iload_n 3, 1) := by decide +kernel
theorem dX12_total_46 : decode cX12_total 46 = .ok (.aload_n 0, 1) := by decide +kernel
theorem dX12_total_47 : decode cX12_total 47 = .ok (.iload_n 1, 1) := by decide +kernel
theorem dX12_total_48 : decode cX12_total 48 = .ok (.iload 4, 2) := by decide +kernel
theorem dX12_total_50 : decode cX12_total 50 = .ok (.iload_n 2, 1) := by decide +kernel
theorem dX12_total_51 : decode cX12_total 51 = .ok (.invokevirtual 388, 3) := by decide +kernel
theorem dX12_total_54 : decode cX12_total 54 = .ok (.aload_n 0, 1) := by decide +kernel
theorem dX12_total_55 : decode cX12_total 55 = .ok (.aload_n 0, 1) := by decide +kernel
theorem dX12_total_56 : decode cX12_total 56 = .ok (.getfield 113, 3) := by decide +kernel
theorem dX12_total_59 : decode cX12_total 59 = .ok (.bipush 54, 2) := by decide +kernel
theorem dX12_total_61 : decode cX12_total 61 = .ok (.iload_n 1, 1) := by decide +kernel
theorem dX12_total_62 : decode cX12_total 62 = .ok (.imul, 1) := by decide +kernel
theorem dX12_total_63 : decode cX12_total 63 = .ok (.iload 4, 2) := by decide +kernel
theorem dX12_total_65 : decode cX12_total 65 = .ok (.iadd, 1) := by decide +kernel
theorem dX12_total_66 : decode cX12_total 66 = .ok (.iaload, 1) := by decide +kernel
theorem dX12_total_67 : decode cX12_total 67 = .ok (.invokevirtual 290, 3) := by decide +kernel
theorem dX12_total_70 : decode cX12_total 70 = .ok (.imul, 1) := by decide +kernel
theorem dX12_total_71 : decode cX12_total 71 = .ok (.iadd, 1) := by decide +kernel
theorem dX12_total_72 : decode cX12_total 72 = .ok (.istore_n 3, 1) := by decide +kernel
theorem dX12_total_73 : decode cX12_total 73 = .ok (.iinc 4 1, 3) := by decide +kernel
theorem dX12_total_76 : decode cX12_total 76 = .ok (.goto (-71), 3) := by decide +kernel
theorem dX12_total_79 : decode cX12_total 79 = .ok (.iload_n 3, 1) := by decide +kernel
theorem dX12_total_80 : decode cX12_total 80 = .ok (.ireturn, 1) := by decide +kernel
def M_X12_total : y_M := (yX12_total, cX12_total, 5, (Option.some Jvm.ClassFile.FieldType.int))
theorem n_X12_total : y_N0 M_X12_total 2 := ⟨(c_9 153 (by decide +kernel) rfl), (c_1 9 (by decide +kernel) rfl), ⟨by decide +kernel, by decide +kernel⟩, by decide +kernel⟩
theorem F_BoxYardModel_113 : y_F "BoxYardModel" 113 12 39 := ⟨_, _, _, rfl, by decide, Or.inl (c_7 161 (by decide +kernel) rfl)⟩
theorem l_BoxYardModel_388 : y_lnk "BoxYardModel" 388 M_X12_part := Or.inl (c_9 154 (by decide +kernel) rfl)
theorem i_X12_part : Cond.instanceMethod (M_X12_part).1 ∈ y_tb := (c_9 156 (by decide +kernel) rfl)
theorem e_X12_part : Cond.selects (M_X12_part).1.cls (M_X12_part).1 (M_X12_part).1 ∈ y_tb := (m_s 92 (by decide +kernel) rfl)
set_option maxRecDepth 100000 in
def f_X12_total (p0 : Nat) (p1 : Int32) (p2 : Int32) (h : y_H) : Option (Int32 × y_H) :=
  y_jl (fun (_ : Nat) (_ : Int32) (_ : Int32) (_ : Int32) (_ : Int32) (_ : y_H) => (none : Option (Int32 × y_H))) (fun j5 (v0_5 : Nat) (v1_5 : Int32) (v2_5 : Int32) (v3_5 : Int32) (v4_5 : Int32) (h1 : y_H) =>
      if y_K h1 v0_5 = 13 then
      if y_K h1 (y_P h1 v0_5 35) = 100 ∧ y_ix v1_5 (y_N h1 (y_P h1 v0_5 35)) = true then
      if y_K h1 v0_5 = 13 then
      if y_K h1 (y_P h1 v0_5 36) = 100 ∧ y_ix v1_5 (y_N h1 (y_P h1 v0_5 36)) = true then
      if y_K h1 v0_5 = 13 then
      if y_K h1 (y_P h1 v0_5 37) = 100 ∧ y_ix v1_5 (y_N h1 (y_P h1 v0_5 37)) = true then
      if (((y_I h1 (y_P h1 v0_5 35) (Int32.toNatClampNeg v1_5)) * (y_I h1 (y_P h1 v0_5 36) (Int32.toNatClampNeg v1_5))) * (y_I h1 (y_P h1 v0_5 37) (Int32.toNatClampNeg v1_5))) ≤ v4_5 then
        some (v3_5, h1)
      else
        if y_K h1 v0_5 = 13 then
        if y_K h1 (y_P h1 v0_5 39) = 100 ∧ y_ix ((54 * v1_5) + v4_5) (y_N h1 (y_P h1 v0_5 39)) = true then
        y_jn (fun (v0_73 : Nat) (v1_73 : Int32) (v2_73 : Int32) (v3_73 : Int32) (v4_73 : Int32) (h2 : y_H) => (
            j5 v0_73 v1_73 v2_73 v3_73 (v4_73 + 1) h2 : Option (Int32 × y_H))) (fun j73 =>
        if (y_I h1 (y_P h1 v0_5 39) (Int32.toNatClampNeg ((54 * v1_5) + v4_5))) < 0 then
          j73 v0_5 v1_5 v2_5 v3_5 v4_5 h1
        else
          if y_K h1 v0_5 = 13 then
          y_cl (f_X12_part v0_5 v1_5 v4_5 v2_5 h1) (fun r3 h4 =>
          if y_K h4 v0_5 = 13 then
          if y_K h4 (y_P h4 v0_5 39) = 100 ∧ y_ix ((54 * v1_5) + v4_5) (y_N h4 (y_P h4 v0_5 39)) = true then
          if y_K h4 v0_5 = 13 then
          y_cl (f_X12_known v0_5 (y_I h4 (y_P h4 v0_5 39) (Int32.toNatClampNeg ((54 * v1_5) + v4_5))) h4) (fun r6 h7 =>
          j73 v0_5 v1_5 v2_5 (v3_5 + (r3 * r6)) v4_5 h7)
          else none
          else none
          else none)
          else none)
        else none
        else none
      else none
      else none
      else none
      else none
      else none
      else none) (fun j5 =>
  j5 p0 p1 p2 0 0 h)
abbrev rm_X12_total : Room := { frames := 1, cells := 0, slots := 0, locals := 23 }
set_option maxRecDepth 100000 in
set_option maxHeartbeats 4000000 in
theorem k_X12_total {l : Launch} {G : y_G} {p0 : Nat} {p1 : Int32} {p2 : Int32} {h hz : y_H} {rz : Int32} (hf : f_X12_total p0 p1 p2 h = some (rz, hz)) : y_S l G M_X12_total rm_X12_total [y_p p0, .int p1, .int p2] h (some (.int rz)) hz := by
  refine y_start (lv := [(0, y_p p0), (1, .int p1), (2, .int p2)]) (by decide) (by simp [lg_sl, y_p_cat, y_ci, y_cj, M_X12_total]) (by simp [lv_args, y_p_cat, y_ci, y_cj]) (fun z ad0 => ?_)
  unfold f_X12_total at hf
  refine y_iconst (v := 0) (pc2 := 1) rfl dX12_total_0 (by decide) ?_
  refine y_istore_n (lv' := [(3, .int 0), (0, y_p p0), (1, .int p1), (2, .int p2)]) (pc2 := 2) rfl dX12_total_1 (by decide) rfl ?_
  refine y_iconst (v := 0) (pc2 := 3) rfl dX12_total_2 (by decide) ?_
  refine y_jlE hf (fun j => ∀ (v0_5 : Nat) (v1_5 : Int32) (v2_5 : Int32) (v3_5 : Int32) (v4_5 : Int32) (h1 : y_H), j v0_5 v1_5 v2_5 v3_5 v4_5 h1 = some (rz, hz) → y_V l G z rm_X12_total M_X12_total ad0 h (some (.int rz)) hz 5 [(0, y_p v0_5), (1, .int v1_5), (2, .int v2_5), (3, .int v3_5), (4, .int v4_5)] [] h1 0 0) (fun _ _ _ _ _ _ hf => by cases hf) (fun j5 hj5 v0_5 v1_5 v2_5 v3_5 v4_5 h1 hf => ?_) (fun j5 hj5 hf => ?_)
  · refine y_iload (pc2 := 7) rfl dX12_total_5 rfl ?_
    refine y_aload_n (x := v0_5) (pc2 := 8) rfl dX12_total_7 rfl ?_
    obtain ⟨g22, hf⟩ := y_g hf
    refine y_getP (pc2 := 11) rfl dX12_total_8 F_BoxYardModel_101 (by decide) rfl g22 ?_
    refine y_iload_n (pc2 := 12) rfl dX12_total_11 rfl ?_
    obtain ⟨g21, hf⟩ := y_g hf
    refine y_iald (pc2 := 13) rfl dX12_total_12 g21.1 (y_ix_in g21.2) ?_
    refine y_aload_n (x := v0_5) (pc2 := 14) rfl dX12_total_13 rfl ?_
    obtain ⟨g20, hf⟩ := y_g hf
    refine y_getP (pc2 := 17) rfl dX12_total_14 F_BoxYardModel_104 (by decide) rfl g20 ?_
    refine y_iload_n (pc2 := 18) rfl dX12_total_17 rfl ?_
    obtain ⟨g19, hf⟩ := y_g hf
    refine y_iald (pc2 := 19) rfl dX12_total_18 g19.1 (y_ix_in g19.2) ?_
    refine y_imul (pc2 := 20) rfl dX12_total_19 ?_
    refine y_aload_n (x := v0_5) (pc2 := 21) rfl dX12_total_20 rfl ?_
    obtain ⟨g18, hf⟩ := y_g hf
    refine y_getP (pc2 := 24) rfl dX12_total_21 F_BoxYardModel_107 (by decide) rfl g18 ?_
    refine y_iload_n (pc2 := 25) rfl dX12_total_24 rfl ?_
    obtain ⟨g17, hf⟩ := y_g hf
    refine y_iald (pc2 := 26) rfl dX12_total_25 g17.1 (y_ix_in g17.2) ?_
    refine y_imul (pc2 := 27) rfl dX12_total_26 ?_
    refine y_icmp_ge (tgt := 79) (pc2 := 30) rfl dX12_total_27 (by decide) (fun c16 => ?_) (fun c16 => ?_)
    · replace hf := y_it c16 hf
      refine y_iload_n (pc2 := 80) rfl dX12_total_79 rfl ?_
      exact y_iretF hf dX12_total_80 rfl (by decide) (by decide)
    · replace hf := y_ie c16 hf
      refine y_aload_n (x := v0_5) (pc2 := 31) rfl dX12_total_30 rfl ?_
      obtain ⟨g15, hf⟩ := y_g hf
      refine y_getP (pc2 := 34) rfl dX12_total_31 F_BoxYardModel_113 (by decide) rfl g15 ?_
      refine y_bipush (v := 54) (pc2 := 36) rfl dX12_total_34 (by decide) ?_
      refine y_iload_n (pc2 := 37) rfl dX12_total_36 rfl ?_
      refine y_imul (pc2 := 38) rfl dX12_total_37 ?_
      refine y_iload (pc2 := 40) rfl dX12_total_38 rfl ?_
      refine y_iadd (pc2 := 41) rfl dX12_total_40 ?_
      obtain ⟨g14, hf⟩ := y_g hf
      refine y_iald (pc2 := 42) rfl dX12_total_41 g14.1 (y_ix_in g14.2) ?_
      refine y_jnE hf (fun j => ∀ (v0_73 : Nat) (v1_73 : Int32) (v2_73 : Int32) (v3_73 : Int32) (v4_73 : Int32) (h2 : y_H), j v0_73 v1_73 v2_73 v3_73 v4_73 h2 = some (rz, hz) → y_V l G z rm_X12_total M_X12_total ad0 h (some (.int rz)) hz 73 [(0, y_p v0_73), (1, .int v1_73), (2, .int v2_73), (3, .int v3_73), (4, .int v4_73)] [] h2 0 0) (fun v0_73 v1_73 v2_73 v3_73 v4_73 h2 hf => ?_) (fun j73 hj73 hf => ?_)
      · refine y_iinc (v := v4_73 + 1) (lv' := [(4, .int (v4_73 + 1)), (0, y_p v0_73), (1, .int v1_73), (2, .int v2_73), (3, .int v3_73)]) (pc2 := 76) rfl dX12_total_73 rfl rfl (by decide) rfl ?_
        refine y_goto (tgt := 5) dX12_total_76 (by decide) ?_
        exact y_pk [1, 2, 3, 4, 0] rfl (hj5 _ _ _ _ _ _ hf)
      · refine y_if_lt (tgt := 73) (pc2 := 45) rfl dX12_total_42 (by decide) (fun c13 => ?_) (fun c13 => ?_)
        · replace hf := y_it c13 hf
          exact y_pk [0, 1, 2, 3, 4] rfl (hj73 _ _ _ _ _ _ hf)
        · replace hf := y_ie c13 hf
          refine y_iload_n (pc2 := 46) rfl dX12_total_45 rfl ?_
          refine y_aload_n (x := v0_5) (pc2 := 47) rfl dX12_total_46 rfl ?_
          refine y_iload_n (pc2 := 48) rfl dX12_total_47 rfl ?_
          refine y_iload (pc2 := 50) rfl dX12_total_48 rfl ?_
          refine y_iload_n (pc2 := 51) rfl dX12_total_50 rfl ?_
          obtain ⟨g12, hf⟩ := y_g hf
          obtain ⟨r3, h4, c5, hf⟩ := y_clE hf
          refine y_callV (As := [.int v1_5, .int v4_5, .int v2_5]) (rm := rm_X12_part) (cells := 0) (slots := 0) (pc2 := 54) rfl dX12_total_51 n_X12_part l_BoxYardModel_388 i_X12_part e_X12_part (ci := 12) rfl rfl (by decide) g12 rfl rfl (by decide) (by simp [y_ci, y_cj, y_p_cat]) (by decide) (k_X12_part c5) ?_
          refine y_aload_n (x := v0_5) (pc2 := 55) rfl dX12_total_54 rfl ?_
          refine y_aload_n (x := v0_5) (pc2 := 56) rfl dX12_total_55 rfl ?_
          obtain ⟨g11, hf⟩ := y_g hf
          refine y_getP (pc2 := 59) rfl dX12_total_56 F_BoxYardModel_113 (by decide) rfl g11 ?_
          refine y_bipush (v := 54) (pc2 := 61) rfl dX12_total_59 (by decide) ?_
          refine y_iload_n (pc2 := 62) rfl dX12_total_61 rfl ?_
          refine y_imul (pc2 := 63) rfl dX12_total_62 ?_
          refine y_iload (pc2 := 65) rfl dX12_total_63 rfl ?_
          refine y_iadd (pc2 := 66) rfl dX12_total_65 ?_
          obtain ⟨g10, hf⟩ := y_g hf
          refine y_iald (pc2 := 67) rfl dX12_total_66 g10.1 (y_ix_in g10.2) ?_
          obtain ⟨g9, hf⟩ := y_g hf
          obtain ⟨r6, h7, c8, hf⟩ := y_clE hf
          refine y_callV (As := [.int (y_I h4 (y_P h4 v0_5 39) (Int32.toNatClampNeg ((54 * v1_5) + v4_5)))]) (rm := rm_X12_known) (cells := 0) (slots := 0) (pc2 := 70) rfl dX12_total_67 n_X12_known l_BoxYardModel_290 i_X12_known e_X12_known (ci := 12) rfl rfl (by decide) g9 rfl rfl (by decide) (by simp [y_ci, y_cj, y_p_cat]) (by decide) (k_X12_known c8) ?_
          refine y_imul (pc2 := 71) rfl dX12_total_70 ?_
          refine y_iadd (pc2 := 72) rfl dX12_total_71 ?_
          refine y_istore_n (lv' := [(3, .int (v3_5 + (r3 * r6))), (0, y_p v0_5), (1, .int v1_5), (2, .int v2_5), (4, .int v4_5)]) (pc2 := 73) rfl dX12_total_72 (by decide) rfl ?_
          exact y_pk [1, 2, 3, 0, 4] rfl (hj73 _ _ _ _ _ _ hf)
  · refine y_istore (lv' := [(4, .int 0), (3, .int 0), (0, y_p p0), (1, .int p1), (2, .int p2)]) (pc2 := 5) rfl dX12_total_3 (by decide) rfl ?_
    exact y_pk [2, 3, 4, 1, 0] rfl (hj5 _ _ _ _ _ _ hf)
theorem dX12_sizeOf_0 : decode cX12_sizeOf 0 = .ok (.iload_n 1, 1) := by decide +kernel
theorem dX12_sizeOf_1 : decode cX12_sizeOf 1 = .ok (.ifCond .ge 8, 3) := by decide +kernel
theorem dX12_sizeOf_4 : decode cX12_sizeOf 4 = .ok (.iload_n 1, 1) := by decide +kernel
theorem dX12_sizeOf_5 : decode cX12_sizeOf 5 = .ok (.ineg, 1) := by decide +kernel
theorem dX12_sizeOf_6 : decode cX12_sizeOf 6 = .ok (.goto 4, 3) := by decide +kernel
theorem dX12_sizeOf_9 : decode cX12_sizeOf 9 = .ok (.iload_n 1, 1) := by decide +kernel
theorem dX12_sizeOf_10 : decode cX12_sizeOf 10 = .ok (.ireturn, 1) := by decide +kernel
def M_X12_sizeOf : y_M := (yX12_sizeOf, cX12_sizeOf, 2, (Option.some Jvm.ClassFile.FieldType.int))
theorem n_X12_sizeOf : y_N0 M_X12_sizeOf 1 := ⟨(c_9 161 (by decide +kernel) rfl), (c_1 9 (by decide +kernel) rfl), ⟨by decide +kernel, by decide +kernel⟩, by decide +kernel⟩
set_option maxRecDepth 100000 in
def f_X12_sizeOf (p0 : Nat) (p1 : Int32) (h : y_H) : Option (Int32 × y_H) :=
  if 0 ≤ p1 then
    some (p1, h)
  else
    some (-p1, h)
abbrev rm_X12_sizeOf : Room := { frames := 0, cells := 0, slots := 0, locals := 0 }
set_option maxRecDepth 100000 in
set_option maxHeartbeats 4000000 in
theorem k_X12_sizeOf {l : Launch} {G : y_G} {p0 : Nat} {p1 : Int32} {h hz : y_H} {rz : Int32} (hf : f_X12_sizeOf p0 p1 h = some (rz, hz)) : y_S l G M_X12_sizeOf rm_X12_sizeOf [y_p p0, .int p1] h (some (.int rz)) hz := by
  refine y_start (lv := [(0, y_p p0), (1, .int p1)]) (by decide) (by simp [lg_sl, y_p_cat, y_ci, y_cj, M_X12_sizeOf]) (by simp [lv_args, y_p_cat, y_ci, y_cj]) (fun z ad0 => ?_)
  unfold f_X12_sizeOf at hf
  refine y_iload_n (pc2 := 1) rfl dX12_sizeOf_0 rfl ?_
  refine y_if_ge (tgt := 9) (pc2 := 4) rfl dX12_sizeOf_1 (by decide) (fun c1 => ?_) (fun c1 => ?_)
  · replace hf := y_it c1 hf
    refine y_iload_n (pc2 := 10) rfl dX12_sizeOf_9 rfl ?_
    exact y_iretF hf dX12_sizeOf_10 rfl (by decide) (by decide)
  · replace hf := y_ie c1 hf
    refine y_iload_n (pc2 := 5) rfl dX12_sizeOf_4 rfl ?_
    refine y_ineg (pc2 := 6) rfl dX12_sizeOf_5 ?_
    refine y_goto (tgt := 10) dX12_sizeOf_6 (by decide) ?_
    exact y_iretF hf dX12_sizeOf_10 rfl (by decide) (by decide)
theorem dX12_isTooMuch_0 : decode cX12_isTooMuch 0 = .ok (.iconst 0, 1) := by decide +kernel
theorem dX12_isTooMuch_1 : decode cX12_isTooMuch 1 = .ok (.istore 4, 2) := by decide +kernel
theorem dX12_isTooMuch_3 : decode cX12_isTooMuch 3 = .ok (.iconst 0, 1) := by decide +kernel
theorem dX12_isTooMuch_4 : decode cX12_isTooMuch 4 = .ok (.istore 5, 2) := by decide +kernel
theorem dX12_isTooMuch_6 : decode cX12_isTooMuch 6 = .ok (.iload 5, 2) := by decide +kernel
theorem dX12_isTooMuch_8 : decode cX12_isTooMuch 8 = .ok (.iconst 3, 1) := by decide +kernel
theorem dX12_isTooMuch_9 : decode cX12_isTooMuch 9 = .ok (.if_icmp .ge 61, 3) := by decide +kernel
theorem dX12_isTooMuch_12 : decode cX12_isTooMuch 12 = .ok (.iload 4, 2) := by decide +kernel
theorem dX12_isTooMuch_14 : decode cX12_isTooMuch 14 = .ok (.ifCond .ne 43, 3) := by decide +kernel
theorem dX12_isTooMuch_17 : decode cX12_isTooMuch 17 = .ok (.aload_n 0, 1) := by decide +kernel
theorem dX12_isTooMuch_18 : decode cX12_isTooMuch 18 = .ok (.aload_n 0, 1) := by decide +kernel
theorem dX12_isTooMuch_19 : decode cX12_isTooMuch 19 = .ok (.iload_n 1, 1) := by decide +kernel
theorem dX12_isTooMuch_20 : decode cX12_isTooMuch 20 = .ok (.iload 5, 2) := by decide +kernel
theorem dX12_isTooMuch_22 : decode cX12_isTooMuch 22 = .ok (.invokevirtual 391, 3) := by decide +kernel
theorem dX12_isTooMuch_25 : decode cX12_isTooMuch 25 = .ok (.aload_n 0, 1) := by decide +kernel
theorem dX12_isTooMuch_26 : decode cX12_isTooMuch 26 = .ok (.iload_n 1, 1) := by decide +kernel
theorem dX12_isTooMuch_27 : decode cX12_isTooMuch 27 = .ok (.iload_n 2, 1) := by decide +kernel
theorem dX12_isTooMuch_28 : decode cX12_isTooMuch 28 = .ok (.iload 5, 2) := by decide +kernel
theorem dX12_isTooMuch_30 : decode cX12_isTooMuch 30 = .ok (.invokevirtual 388, 3) := by decide +kernel
theorem dX12_isTooMuch_33 : decode cX12_isTooMuch 33 = .ok (.aload_n 0, 1) := by decide +kernel
theorem dX12_isTooMuch_34 : decode cX12_isTooMuch 34 = .ok (.iload_n 3, 1) := by decide +kernel
theorem dX12_isTooMuch_35 : decode cX12_isTooMuch 35 = .ok (.invokevirtual 290, 3) := by decide +kernel
theorem dX12_isTooMuch_38 : decode cX12_isTooMuch 38 = .ok (.imul, 1) := by decide +kernel
theorem dX12_isTooMuch_39 : decode cX12_isTooMuch 39 = .ok (.iadd, 1) := by decide +kernel
theorem dX12_isTooMuch_40 : decode cX12_isTooMuch 40 = .ok (.invokevirtual 394, 3) := by decide +kernel
theorem dX12_isTooMuch_43 : decode cX12_isTooMuch 43 = .ok (.aload_n 0, 1) := by decide +kernel
theorem dX12_isTooMuch_44 : decode cX12_isTooMuch 44 = .ok (.getfield 116, 3) := by decide +kernel
theorem dX12_isTooMuch_47 : decode cX12_isTooMuch 47 = .ok (.iconst 3, 1) := by decide +kernel
theorem dX12_isTooMuch_48 : decode cX12_isTooMuch 48 = .ok (.iload_n 1, 1) := by decide +kernel
theorem dX12_isTooMuch_49 : decode cX12_isTooMuch 49 = .ok (.imul, 1) := by decide +kernel
theorem dX12_isTooMuch_50 : decode cX12_isTooMuch 50 = .ok (.iload 5, 2) := by decide +kernel
theorem dX12_isTooMuch_52 : decode cX12_isTooMuch 52 = .ok (.iadd, 1) := by decide +kernel
theorem dX12_isTooMuch_53 : decode cX12_isTooMuch 53 = .ok (.iaload, 1) := by decide +kernel
theorem dX12_isTooMuch_54 : decode cX12_isTooMuch 54 = .ok (.if_icmp .le 7, 3) := by decide +kernel
theorem dX12_isTooMuch_57 : decode cX12_isTooMuch 57 = .ok (.iconst 1, 1) := by decide +kernel
theorem dX12_isTooMuch_58 : decode cX12_isTooMuch 58 = .ok (.goto 4, 3) := by decide +kernel
theorem dX12_isTooMuch_61 : decode cX12_isTooMuch 61 = .ok (.iconst 0, 1) := by decide +kernel
theorem dX12_isTooMuch_62 : decode cX12_isTooMuch 62 = .ok (.istore 4, 2) := by decide +kernel
theorem dX12_isTooMuch_64 : decode cX12_isTooMuch 64 = .ok (.iinc 5 1, 3) := by decide +kernel
theorem dX12_isTooMuch_67 : decode cX12_isTooMuch 67 = .ok (.goto (-61), 3) := by decide +kernel
theorem dX12_isTooMuch_70 : decode cX12_isTooMuch 70 = .ok (.iload 4, 2) := by decide +kernel
theorem dX12_isTooMuch_72 : decode cX12_isTooMuch 72 = .ok (.ireturn, 1) := by decide +kernel
def M_X12_isTooMuch : y_M := (yX12_isTooMuch, cX12_isTooMuch, 6, (Option.some Jvm.ClassFile.FieldType.boolean))
theorem n_X12_isTooMuch : y_N0 M_X12_isTooMuch 3 := ⟨(c_9 149 (by decide +kernel) rfl), (c_1 9 (by decide +kernel) rfl), ⟨by decide +kernel, by decide +kernel⟩, by decide +kernel⟩
theorem l_BoxYardModel_391 : y_lnk "BoxYardModel" 391 M_X12_total := Or.inl (c_9 150 (by decide +kernel) rfl)
theorem i_X12_total : Cond.instanceMethod (M_X12_total).1 ∈ y_tb := (c_9 152 (by decide +kernel) rfl)
theorem e_X12_total : Cond.selects (M_X12_total).1.cls (M_X12_total).1 (M_X12_total).1 ∈ y_tb := (m_s 91 (by decide +kernel) rfl)
theorem l_BoxYardModel_394 : y_lnk "BoxYardModel" 394 M_X12_sizeOf := Or.inl (c_9 158 (by decide +kernel) rfl)
theorem i_X12_sizeOf : Cond.instanceMethod (M_X12_sizeOf).1 ∈ y_tb := (c_9 160 (by decide +kernel) rfl)
theorem e_X12_sizeOf : Cond.selects (M_X12_sizeOf).1.cls (M_X12_sizeOf).1 (M_X12_sizeOf).1 ∈ y_tb := (m_s 93 (by decide +kernel) rfl)
theorem F_BoxYardModel_116 : y_F "BoxYardModel" 116 12 40 := ⟨_, _, _, rfl, by decide, Or.inl (c_7 162 (by decide +kernel) rfl)⟩
set_option maxRecDepth 100000 in
def f_X12_isTooMuch (p0 : Nat) (p1 : Int32) (p2 : Int32) (p3 : Int32) (h : y_H) : Option (Bool × y_H) :=
  y_jl (fun (_ : Nat) (_ : Int32) (_ : Int32) (_ : Int32) (_ : Int32) (_ : Int32) (_ : y_H) => (none : Option (Bool × y_H))) (fun j6 (v0_6 : Nat) (v1_6 : Int32) (v2_6 : Int32) (v3_6 : Int32) (v4_6 : Int32) (v5_6 : Int32) (h1 : y_H) =>
      if 3 ≤ v5_6 then
        if v4_6 = 0 then some (false, h1) else if v4_6 = 1 then some (true, h1) else none
      else
        y_jn (fun (v0_57 : Nat) (v1_57 : Int32) (v2_57 : Int32) (v3_57 : Int32) (v5_57 : Int32) (h2 : y_H) => (
            j6 v0_57 v1_57 v2_57 v3_57 1 (v5_57 + 1) h2 : Option (Bool × y_H))) (fun j57 =>
        if v4_6 = 0 then
          if y_K h1 v0_6 = 13 then
          y_cl (f_X12_total v0_6 v1_6 v5_6 h1) (fun r3 h4 =>
          if y_K h4 v0_6 = 13 then
          y_cl (f_X12_part v0_6 v1_6 v2_6 v5_6 h4) (fun r6 h7 =>
          if y_K h7 v0_6 = 13 then
          y_cl (f_X12_known v0_6 v3_6 h7) (fun r9 h10 =>
          if y_K h10 v0_6 = 13 then
          y_cl (f_X12_sizeOf v0_6 (r3 + (r6 * r9)) h10) (fun r12 h13 =>
          if y_K h13 v0_6 = 13 then
          if y_K h13 (y_P h13 v0_6 40) = 100 ∧ y_ix ((3 * v1_6) + v5_6) (y_N h13 (y_P h13 v0_6 40)) = true then
          if r12 ≤ (y_I h13 (y_P h13 v0_6 40) (Int32.toNatClampNeg ((3 * v1_6) + v5_6))) then
            j6 v0_6 v1_6 v2_6 v3_6 0 (v5_6 + 1) h13
          else
            j57 v0_6 v1_6 v2_6 v3_6 v5_6 h13
          else none
          else none)
          else none)
          else none)
          else none)
          else none
        else
          j57 v0_6 v1_6 v2_6 v3_6 v5_6 h1)) (fun j6 =>
  j6 p0 p1 p2 p3 0 0 h)
abbrev rm_X12_isTooMuch : Room := { frames := 2, cells := 0, slots := 0, locals := 47 }
set_option maxRecDepth 100000 in
set_option maxHeartbeats 4000000 in
theorem k_X12_isTooMuch {l : Launch} {G : y_G} {p0 : Nat} {p1 : Int32} {p2 : Int32} {p3 : Int32} {h hz : y_H} {rz : Bool} (hf : f_X12_isTooMuch p0 p1 p2 p3 h = some (rz, hz)) : y_S l G M_X12_isTooMuch rm_X12_isTooMuch [y_p p0, .int p1, .int p2, .int p3] h (some (.int (y_z rz))) hz := by
  refine y_start (lv := [(0, y_p p0), (1, .int p1), (2, .int p2), (3, .int p3)]) (by decide) (by simp [lg_sl, y_p_cat, y_ci, y_cj, M_X12_isTooMuch]) (by simp [lv_args, y_p_cat, y_ci, y_cj]) (fun z ad0 => ?_)
  unfold f_X12_isTooMuch at hf
  refine y_iconst (v := 0) (pc2 := 1) rfl dX12_isTooMuch_0 (by decide) ?_
  refine y_istore (lv' := [(4, .int 0), (0, y_p p0), (1, .int p1), (2, .int p2), (3, .int p3)]) (pc2 := 3) rfl dX12_isTooMuch_1 (by decide) rfl ?_
  refine y_iconst (v := 0) (pc2 := 4) rfl dX12_isTooMuch_3 (by decide) ?_
  refine y_jlE hf (fun j => ∀ (v0_6 : Nat) (v1_6 : Int32) (v2_6 : Int32) (v3_6 : Int32) (v4_6 : Int32) (v5_6 : Int32) (h1 : y_H), j v0_6 v1_6 v2_6 v3_6 v4_6 v5_6 h1 = some (rz, hz) → y_V l G z rm_X12_isTooMuch M_X12_isTooMuch ad0 h (some (.int (y_z rz))) hz 6 [(0, y_p v0_6), (1, .int v1_6), (2, .int v2_6), (3, .int v3_6), (4, .int v4_6), (5, .int v5_6)] [] h1 0 0) (fun _ _ _ _ _ _ _ hf => by cases hf) (fun j6 hj6 v0_6 v1_6 v2_6 v3_6 v4_6 v5_6 h1 hf => ?_) (fun j6 hj6 hf => ?_)
  · refine y_iload (pc2 := 8) rfl dX12_isTooMuch_6 rfl ?_
    refine y_iconst (v := 3) (pc2 := 9) rfl dX12_isTooMuch_8 (by decide) ?_
    refine y_icmp_ge (tgt := 70) (pc2 := 12) rfl dX12_isTooMuch_9 (by decide) (fun c23 => ?_) (fun c23 => ?_)
    · replace hf := y_it c23 hf
      refine y_iload (pc2 := 72) rfl dX12_isTooMuch_70 rfl ?_
      exact y_zretV hf dX12_isTooMuch_72 rfl (by decide) (by decide)
    · replace hf := y_ie c23 hf
      refine y_iload (pc2 := 14) rfl dX12_isTooMuch_12 rfl ?_
      refine y_jnE hf (fun j => ∀ (v0_57 : Nat) (v1_57 : Int32) (v2_57 : Int32) (v3_57 : Int32) (v5_57 : Int32) (h2 : y_H), j v0_57 v1_57 v2_57 v3_57 v5_57 h2 = some (rz, hz) → y_V l G z rm_X12_isTooMuch M_X12_isTooMuch ad0 h (some (.int (y_z rz))) hz 57 [(0, y_p v0_57), (1, .int v1_57), (2, .int v2_57), (3, .int v3_57), (5, .int v5_57)] [] h2 0 0) (fun v0_57 v1_57 v2_57 v3_57 v5_57 h2 hf => ?_) (fun j57 hj57 hf => ?_)
      · refine y_iconst (v := 1) (pc2 := 58) rfl dX12_isTooMuch_57 (by decide) ?_
        refine y_goto (tgt := 62) dX12_isTooMuch_58 (by decide) ?_
        refine y_istore (lv' := [(4, .int 1), (0, y_p v0_57), (1, .int v1_57), (2, .int v2_57), (3, .int v3_57), (5, .int v5_57)]) (pc2 := 64) rfl dX12_isTooMuch_62 (by decide) rfl ?_
        refine y_iinc (v := v5_57 + 1) (lv' := [(5, .int (v5_57 + 1)), (4, .int 1), (0, y_p v0_57), (1, .int v1_57), (2, .int v2_57), (3, .int v3_57)]) (pc2 := 67) rfl dX12_isTooMuch_64 rfl rfl (by decide) rfl ?_
        refine y_goto (tgt := 6) dX12_isTooMuch_67 (by decide) ?_
        exact y_pk [2, 3, 4, 5, 1, 0] rfl (hj6 _ _ _ _ _ _ _ hf)
      · refine y_if_ne (tgt := 57) (pc2 := 17) rfl dX12_isTooMuch_14 (by decide) (fun c22 => ?_) (fun c22 => ?_)
        · replace hf := y_ie c22 hf
          exact y_pk [0, 1, 2, 3, 5] rfl (hj57 _ _ _ _ _ _ hf)
        · replace hf := y_it c22 hf
          refine y_aload_n (x := v0_6) (pc2 := 18) rfl dX12_isTooMuch_17 rfl ?_
          refine y_aload_n (x := v0_6) (pc2 := 19) rfl dX12_isTooMuch_18 rfl ?_
          refine y_iload_n (pc2 := 20) rfl dX12_isTooMuch_19 rfl ?_
          refine y_iload (pc2 := 22) rfl dX12_isTooMuch_20 rfl ?_
          obtain ⟨g21, hf⟩ := y_g hf
          obtain ⟨r3, h4, c5, hf⟩ := y_clE hf
          refine y_callV (As := [.int v1_6, .int v5_6]) (rm := rm_X12_total) (cells := 0) (slots := 0) (pc2 := 25) rfl dX12_isTooMuch_22 n_X12_total l_BoxYardModel_391 i_X12_total e_X12_total (ci := 12) rfl rfl (by decide) g21 rfl rfl (by decide) (by simp [y_ci, y_cj, y_p_cat]) (by decide) (k_X12_total c5) ?_
          refine y_aload_n (x := v0_6) (pc2 := 26) rfl dX12_isTooMuch_25 rfl ?_
          refine y_iload_n (pc2 := 27) rfl dX12_isTooMuch_26 rfl ?_
          refine y_iload_n (pc2 := 28) rfl dX12_isTooMuch_27 rfl ?_
          refine y_iload (pc2 := 30) rfl dX12_isTooMuch_28 rfl ?_
          obtain ⟨g20, hf⟩ := y_g hf
          obtain ⟨r6, h7, c8, hf⟩ := y_clE hf
          refine y_callV (As := [.int v1_6, .int v2_6, .int v5_6]) (rm := rm_X12_part) (cells := 0) (slots := 0) (pc2 := 33) rfl dX12_isTooMuch_30 n_X12_part l_BoxYardModel_388 i_X12_part e_X12_part (ci := 12) rfl rfl (by decide) g20 rfl rfl (by decide) (by simp [y_ci, y_cj, y_p_cat]) (by decide) (k_X12_part c8) ?_
          refine y_aload_n (x := v0_6) (pc2 := 34) rfl dX12_isTooMuch_33 rfl ?_
          refine y_iload_n (pc2 := 35) rfl dX12_isTooMuch_34 rfl ?_
          obtain ⟨g19, hf⟩ := y_g hf
          obtain ⟨r9, h10, c11, hf⟩ := y_clE hf
          refine y_callV (As := [.int v3_6]) (rm := rm_X12_known) (cells := 0) (slots := 0) (pc2 := 38) rfl dX12_isTooMuch_35 n_X12_known l_BoxYardModel_290 i_X12_known e_X12_known (ci := 12) rfl rfl (by decide) g19 rfl rfl (by decide) (by simp [y_ci, y_cj, y_p_cat]) (by decide) (k_X12_known c11) ?_
          refine y_imul (pc2 := 39) rfl dX12_isTooMuch_38 ?_
          refine y_iadd (pc2 := 40) rfl dX12_isTooMuch_39 ?_
          obtain ⟨g18, hf⟩ := y_g hf
          obtain ⟨r12, h13, c14, hf⟩ := y_clE hf
          refine y_callV (As := [.int (r3 + (r6 * r9))]) (rm := rm_X12_sizeOf) (cells := 0) (slots := 0) (pc2 := 43) rfl dX12_isTooMuch_40 n_X12_sizeOf l_BoxYardModel_394 i_X12_sizeOf e_X12_sizeOf (ci := 12) rfl rfl (by decide) g18 rfl rfl (by decide) (by decide) (by decide) (k_X12_sizeOf c14) ?_
          refine y_aload_n (x := v0_6) (pc2 := 44) rfl dX12_isTooMuch_43 rfl ?_
          obtain ⟨g17, hf⟩ := y_g hf
          refine y_getP (pc2 := 47) rfl dX12_isTooMuch_44 F_BoxYardModel_116 (by decide) rfl g17 ?_
          refine y_iconst (v := 3) (pc2 := 48) rfl dX12_isTooMuch_47 (by decide) ?_
          refine y_iload_n (pc2 := 49) rfl dX12_isTooMuch_48 rfl ?_
          refine y_imul (pc2 := 50) rfl dX12_isTooMuch_49 ?_
          refine y_iload (pc2 := 52) rfl dX12_isTooMuch_50 rfl ?_
          refine y_iadd (pc2 := 53) rfl dX12_isTooMuch_52 ?_
          obtain ⟨g16, hf⟩ := y_g hf
          refine y_iald (pc2 := 54) rfl dX12_isTooMuch_53 g16.1 (y_ix_in g16.2) ?_
          refine y_icmp_le (tgt := 61) (pc2 := 57) rfl dX12_isTooMuch_54 (by decide) (fun c15 => ?_) (fun c15 => ?_)
          · replace hf := y_it c15 hf
            refine y_iconst (v := 0) (pc2 := 62) rfl dX12_isTooMuch_61 (by decide) ?_
            refine y_istore (lv' := [(4, .int 0), (0, y_p v0_6), (1, .int v1_6), (2, .int v2_6), (3, .int v3_6), (5, .int v5_6)]) (pc2 := 64) rfl dX12_isTooMuch_62 (by decide) rfl ?_
            refine y_iinc (v := v5_6 + 1) (lv' := [(5, .int (v5_6 + 1)), (4, .int 0), (0, y_p v0_6), (1, .int v1_6), (2, .int v2_6), (3, .int v3_6)]) (pc2 := 67) rfl dX12_isTooMuch_64 rfl rfl (by decide) rfl ?_
            refine y_goto (tgt := 6) dX12_isTooMuch_67 (by decide) ?_
            exact y_pk [2, 3, 4, 5, 1, 0] rfl (hj6 _ _ _ _ _ _ _ hf)
          · replace hf := y_ie c15 hf
            exact y_pk [0, 1, 2, 3, 5] rfl (hj57 _ _ _ _ _ _ hf)
  · refine y_istore (lv' := [(5, .int 0), (4, .int 0), (0, y_p p0), (1, .int p1), (2, .int p2), (3, .int p3)]) (pc2 := 6) rfl dX12_isTooMuch_4 (by decide) rfl ?_
    exact y_pk [2, 3, 4, 5, 1, 0] rfl (hj6 _ _ _ _ _ _ _ hf)
theorem dX12_fits_0 : decode cX12_fits 0 = .ok (.aload_n 0, 1) := by decide +kernel
theorem dX12_fits_1 : decode cX12_fits 1 = .ok (.getfield 41, 3) := by decide +kernel
theorem dX12_fits_4 : decode cX12_fits 4 = .ok (.iload_n 1, 1) := by decide +kernel
theorem dX12_fits_5 : decode cX12_fits 5 = .ok (.iaload, 1) := by decide +kernel
theorem dX12_fits_6 : decode cX12_fits 6 = .ok (.istore_n 2, 1) := by decide +kernel
theorem dX12_fits_7 : decode cX12_fits 7 = .ok (.aload_n 0, 1) := by decide +kernel
theorem dX12_fits_8 : decode cX12_fits 8 = .ok (.getfield 44, 3) := by decide +kernel
theorem dX12_fits_11 : decode cX12_fits 11 = .ok (.iload_n 1, 1) := by decide +kernel
theorem dX12_fits_12 : decode cX12_fits 12 = .ok (.iaload, 1) := by decide +kernel
theorem dX12_fits_13 : decode cX12_fits 13 = .ok (.istore_n 3, 1) := by decide +kernel
theorem dX12_fits_14 : decode cX12_fits 14 = .ok (.aload_n 0, 1) := by decide +kernel
theorem dX12_fits_15 : decode cX12_fits 15 = .ok (.getfield 47, 3) := by decide +kernel
theorem dX12_fits_18 : decode cX12_fits 18 = .ok (.iload_n 1, 1) := by decide +kernel
theorem dX12_fits_19 : decode cX12_fits 19 = .ok (.iaload, 1) := by decide +kernel
theorem dX12_fits_20 : decode cX12_fits 20 = .ok (.istore 4, 2) := by decide +kernel
theorem dX12_fits_22 : decode cX12_fits 22 = .ok (.aload_n 0, 1) := by decide +kernel
theorem dX12_fits_23 : decode cX12_fits 23 = .ok (.getfield 50, 3) := by decide +kernel
theorem dX12_fits_26 : decode cX12_fits 26 = .ok (.iload_n 1, 1) := by decide +kernel
theorem dX12_fits_27 : decode cX12_fits 27 = .ok (.iaload, 1) := by decide +kernel
theorem dX12_fits_28 : decode cX12_fits 28 = .ok (.istore 5, 2) := by decide +kernel
theorem dX12_fits_30 : decode cX12_fits 30 = .ok (.aload_n 0, 1) := by decide +kernel
theorem dX12_fits_31 : decode cX12_fits 31 = .ok (.iload_n 2, 1) := by decide +kernel
theorem dX12_fits_32 : decode cX12_fits 32 = .ok (.iload_n 3, 1) := by decide +kernel
theorem dX12_fits_33 : decode cX12_fits 33 = .ok (.iload 4, 2) := by decide +kernel
theorem dX12_fits_35 : decode cX12_fits 35 = .ok (.iload 5, 2) := by decide +kernel
theorem dX12_fits_37 : decode cX12_fits 37 = .ok (.invokevirtual 397, 3) := by decide +kernel
theorem dX12_fits_40 : decode cX12_fits 40 = .ok (.ifCond .ne 6, 3) := by decide +kernel
theorem dX12_fits_43 : decode cX12_fits 43 = .ok (.bipush 62, 2) := by decide +kernel
theorem dX12_fits_45 : decode cX12_fits 45 = .ok (.ireturn, 1) := by decide +kernel
theorem dX12_fits_46 : decode cX12_fits 46 = .ok (.aload_n 0, 1) := by decide +kernel
theorem dX12_fits_47 : decode cX12_fits 47 = .ok (.getfield 113, 3) := by decide +kernel
theorem dX12_fits_50 : decode cX12_fits 50 = .ok (.bipush 54, 2) := by decide +kernel
theorem dX12_fits_52 : decode cX12_fits 52 = .ok (.iload_n 2, 1) := by decide +kernel
theorem dX12_fits_53 : decode cX12_fits 53 = .ok (.imul, 1) := by decide +kernel
theorem dX12_fits_54 : decode cX12_fits 54 = .ok (.aload_n 0, 1) := by decide +kernel
theorem dX12_fits_55 : decode cX12_fits 55 = .ok (.iload_n 2, 1) := by decide +kernel
theorem dX12_fits_56 : decode cX12_fits 56 = .ok (.iload_n 3, 1) := by decide +kernel
theorem dX12_fits_57 : decode cX12_fits 57 = .ok (.iload 4, 2) := by decide +kernel
theorem dX12_fits_59 : decode cX12_fits 59 = .ok (.iload 5, 2) := by decide +kernel
theorem dX12_fits_61 : decode cX12_fits 61 = .ok (.invokevirtual 401, 3) := by decide +kernel
theorem dX12_fits_64 : decode cX12_fits 64 = .ok (.iadd, 1) := by decide +kernel
theorem dX12_fits_65 : decode cX12_fits 65 = .ok (.iaload, 1) := by decide +kernel
theorem dX12_fits_66 : decode cX12_fits 66 = .ok (.ifCond .ge 33, 3) := by decide +kernel
theorem dX12_fits_69 : decode cX12_fits 69 = .ok (.iload 5, 2) := by decide +kernel
theorem dX12_fits_71 : decode cX12_fits 71 = .ok (.ifCond .le 31, 3) := by decide +kernel
theorem dX12_fits_74 : decode cX12_fits 74 = .ok (.aload_n 0, 1) := by decide +kernel
theorem dX12_fits_75 : decode cX12_fits 75 = .ok (.getfield 113, 3) := by decide +kernel
theorem dX12_fits_78 : decode cX12_fits 78 = .ok (.bipush 54, 2) := by decide +kernel
theorem dX12_fits_80 : decode cX12_fits 80 = .ok (.iload_n 2, 1) := by decide +kernel
theorem dX12_fits_81 : decode cX12_fits 81 = .ok (.imul, 1) := by decide +kernel
theorem dX12_fits_82 : decode cX12_fits 82 = .ok (.aload_n 0, 1) := by decide +kernel
theorem dX12_fits_83 : decode cX12_fits 83 = .ok (.iload_n 2, 1) := by decide +kernel
theorem dX12_fits_84 : decode cX12_fits 84 = .ok (.iload_n 3, 1) := by decide +kernel
theorem dX12_fits_85 : decode cX12_fits 85 = .ok (.iload 4, 2) := by decide +kernel
theorem dX12_fits_87 : decode cX12_fits 87 = .ok (.iload 5, 2) := by decide +kernel
theorem dX12_fits_89 : decode cX12_fits 89 = .ok (.iconst 1, 1) := by decide +kernel
theorem dX12_fits_90 : decode cX12_fits 90 = .ok (.isub, 1) := by decide +kernel
theorem dX12_fits_91 : decode cX12_fits 91 = .ok (.invokevirtual 401, 3) := by decide +kernel
theorem dX12_fits_94 : decode cX12_fits 94 = .ok (.iadd, 1) := by decide +kernel
theorem dX12_fits_95 : decode cX12_fits 95 = .ok (.iaload, 1) := by decide +kernel
theorem dX12_fits_96 : decode cX12_fits 96 = .ok (.ifCond .ge 6, 3) := by decide +kernel
theorem dX12_fits_99 : decode cX12_fits 99 = .ok (.bipush 12, 2) := by decide +kernel
theorem dX12_fits_101 : decode cX12_fits 101 = .ok (.ireturn, 1) := by decide +kernel
theorem dX12_fits_102 : decode cX12_fits 102 = .ok (.aload_n 0, 1) := by decide +kernel
theorem dX12_fits_103 : decode cX12_fits 103 = .ok (.iload_n 2, 1) := by decide +kernel
theorem dX12_fits_104 : decode cX12_fits 104 = .ok (.aload_n 0, 1) := by decide +kernel
theorem dX12_fits_105 : decode cX12_fits 105 = .ok (.iload_n 2, 1) := by decide +kernel
theorem dX12_fits_106 : decode cX12_fits 106 = .ok (.iload_n 3, 1) := by decide +kernel
theorem dX12_fits_107 : decode cX12_fits 107 = .ok (.iload 4, 2) := by decide +kernel
theorem dX12_fits_109 : decode cX12_fits 109 = .ok (.iload 5, 2) := by decide +kernel
theorem dX12_fits_111 : decode cX12_fits 111 = .ok (.invokevirtual 401, 3) := by decide +kernel
theorem dX12_fits_114 : decode cX12_fits 114 = .ok (.iload_n 1, 1) := by decide +kernel
theorem dX12_fits_115 : decode cX12_fits 115 = .ok (.invokevirtual 405, 3) := by decide +kernel
theorem dX12_fits_118 : decode cX12_fits 118 = .ok (.ifCond .eq 8, 3) := by decide +kernel
theorem dX12_fits_121 : decode cX12_fits 121 = .ok (.bipush 13, 2) := by decide +kernel
theorem dX12_fits_123 : decode cX12_fits 123 = .ok (.goto 4, 3) := by decide +kernel
theorem dX12_fits_126 : decode cX12_fits 126 = .ok (.iconst 0, 1) := by decide +kernel
theorem dX12_fits_127 : decode cX12_fits 127 = .ok (.ireturn, 1) := by decide +kernel
def M_X12_fits : y_M := (yX12_fits, cX12_fits, 6, (Option.some Jvm.ClassFile.FieldType.int))
theorem n_X12_fits : y_N0 M_X12_fits 1 := ⟨(c_9 137 (by decide +kernel) rfl), (c_1 9 (by decide +kernel) rfl), ⟨by decide +kernel, by decide +kernel⟩, by decide +kernel⟩
theorem F_BoxYardModel_44 : y_F "BoxYardModel" 44 12 12 := ⟨_, _, _, rfl, by decide, Or.inl (c_7 134 (by decide +kernel) rfl)⟩
theorem F_BoxYardModel_47 : y_F "BoxYardModel" 47 12 13 := ⟨_, _, _, rfl, by decide, Or.inl (c_7 135 (by decide +kernel) rfl)⟩
theorem F_BoxYardModel_50 : y_F "BoxYardModel" 50 12 14 := ⟨_, _, _, rfl, by decide, Or.inl (c_7 136 (by decide +kernel) rfl)⟩
theorem l_BoxYardModel_397 : y_lnk "BoxYardModel" 397 M_X12_isCell := Or.inl (c_9 138 (by decide +kernel) rfl)
theorem i_X12_isCell : Cond.instanceMethod (M_X12_isCell).1 ∈ y_tb := (c_9 140 (by decide +kernel) rfl)
theorem e_X12_isCell : Cond.selects (M_X12_isCell).1.cls (M_X12_isCell).1 (M_X12_isCell).1 ∈ y_tb := (m_s 88 (by decide +kernel) rfl)
theorem l_BoxYardModel_401 : y_lnk "BoxYardModel" 401 M_X12_cell := Or.inl (c_9 142 (by decide +kernel) rfl)
theorem i_X12_cell : Cond.instanceMethod (M_X12_cell).1 ∈ y_tb := (c_9 144 (by decide +kernel) rfl)
theorem e_X12_cell : Cond.selects (M_X12_cell).1.cls (M_X12_cell).1 (M_X12_cell).1 ∈ y_tb := (m_s 89 (by decide +kernel) rfl)
theorem l_BoxYardModel_405 : y_lnk "BoxYardModel" 405 M_X12_isTooMuch := Or.inl (c_9 146 (by decide +kernel) rfl)
theorem i_X12_isTooMuch : Cond.instanceMethod (M_X12_isTooMuch).1 ∈ y_tb := (c_9 148 (by decide +kernel) rfl)
theorem e_X12_isTooMuch : Cond.selects (M_X12_isTooMuch).1.cls (M_X12_isTooMuch).1 (M_X12_isTooMuch).1 ∈ y_tb := (m_s 90 (by decide +kernel) rfl)
set_option maxRecDepth 100000 in
def f_X12_fits (p0 : Nat) (p1 : Int32) (h : y_H) : Option (Int32 × y_H) :=
  if y_K h p0 = 13 then
  if y_K h (y_P h p0 11) = 100 ∧ y_ix p1 (y_N h (y_P h p0 11)) = true then
  if y_K h p0 = 13 then
  if y_K h (y_P h p0 12) = 100 ∧ y_ix p1 (y_N h (y_P h p0 12)) = true then
  if y_K h p0 = 13 then
  if y_K h (y_P h p0 13) = 100 ∧ y_ix p1 (y_N h (y_P h p0 13)) = true then
  if y_K h p0 = 13 then
  if y_K h (y_P h p0 14) = 100 ∧ y_ix p1 (y_N h (y_P h p0 14)) = true then
  if y_K h p0 = 13 then
  y_cl (f_X12_isCell p0 (y_I h (y_P h p0 11) (Int32.toNatClampNeg p1)) (y_I h (y_P h p0 12) (Int32.toNatClampNeg p1)) (y_I h (y_P h p0 13) (Int32.toNatClampNeg p1)) (y_I h (y_P h p0 14) (Int32.toNatClampNeg p1)) h) (fun r1 h2 =>
  if r1 = true then
    if y_K h2 p0 = 13 then
    if y_K h2 p0 = 13 then
    y_cl (f_X12_cell p0 (y_I h (y_P h p0 11) (Int32.toNatClampNeg p1)) (y_I h (y_P h p0 12) (Int32.toNatClampNeg p1)) (y_I h (y_P h p0 13) (Int32.toNatClampNeg p1)) (y_I h (y_P h p0 14) (Int32.toNatClampNeg p1)) h2) (fun r4 h5 =>
    if y_K h5 (y_P h2 p0 39) = 100 ∧ y_ix ((54 * (y_I h (y_P h p0 11) (Int32.toNatClampNeg p1))) + r4) (y_N h5 (y_P h2 p0 39)) = true then
    y_jn (fun (h7 : y_H) => (
        some (12, h7) : Option (Int32 × y_H))) (fun j99 =>
    if 0 ≤ (y_I h5 (y_P h2 p0 39) (Int32.toNatClampNeg ((54 * (y_I h (y_P h p0 11) (Int32.toNatClampNeg p1))) + r4))) then
      j99 h5
    else
      y_jn (fun (v0_102 : Nat) (v1_102 : Int32) (v2_102 : Int32) (v3_102 : Int32) (v4_102 : Int32) (v5_102 : Int32) (h8 : y_H) => (
          if y_K h8 v0_102 = 13 then
          y_cl (f_X12_cell v0_102 v2_102 v3_102 v4_102 v5_102 h8) (fun r9 h10 =>
          if y_K h10 v0_102 = 13 then
          y_cl (f_X12_isTooMuch v0_102 v2_102 r9 v1_102 h10) (fun r12 h13 =>
          if r12 = true then
            some (13, h13)
          else
            some (0, h13))
          else none)
          else none : Option (Int32 × y_H))) (fun j102 =>
      if (y_I h (y_P h p0 14) (Int32.toNatClampNeg p1)) ≤ 0 then
        j102 p0 p1 (y_I h (y_P h p0 11) (Int32.toNatClampNeg p1)) (y_I h (y_P h p0 12) (Int32.toNatClampNeg p1)) (y_I h (y_P h p0 13) (Int32.toNatClampNeg p1)) (y_I h (y_P h p0 14) (Int32.toNatClampNeg p1)) h5
      else
        if y_K h5 p0 = 13 then
        if y_K h5 p0 = 13 then
        y_cl (f_X12_cell p0 (y_I h (y_P h p0 11) (Int32.toNatClampNeg p1)) (y_I h (y_P h p0 12) (Int32.toNatClampNeg p1)) (y_I h (y_P h p0 13) (Int32.toNatClampNeg p1)) ((y_I h (y_P h p0 14) (Int32.toNatClampNeg p1)) - 1) h5) (fun r18 h19 =>
        if y_K h19 (y_P h5 p0 39) = 100 ∧ y_ix ((54 * (y_I h (y_P h p0 11) (Int32.toNatClampNeg p1))) + r18) (y_N h19 (y_P h5 p0 39)) = true then
        if 0 ≤ (y_I h19 (y_P h5 p0 39) (Int32.toNatClampNeg ((54 * (y_I h (y_P h p0 11) (Int32.toNatClampNeg p1))) + r18))) then
          j102 p0 p1 (y_I h (y_P h p0 11) (Int32.toNatClampNeg p1)) (y_I h (y_P h p0 12) (Int32.toNatClampNeg p1)) (y_I h (y_P h p0 13) (Int32.toNatClampNeg p1)) (y_I h (y_P h p0 14) (Int32.toNatClampNeg p1)) h19
        else
          j99 h19
        else none)
        else none
        else none))
    else none)
    else none
    else none
  else
    some (62, h2))
  else none
  else none
  else none
  else none
  else none
  else none
  else none
  else none
  else none
abbrev rm_X12_fits : Room := { frames := 3, cells := 0, slots := 0, locals := 72 }
set_option maxRecDepth 100000 in
set_option maxHeartbeats 4000000 in
theorem k_X12_fits {l : Launch} {G : y_G} {p0 : Nat} {p1 : Int32} {h hz : y_H} {rz : Int32} (hf : f_X12_fits p0 p1 h = some (rz, hz)) : y_S l G M_X12_fits rm_X12_fits [y_p p0, .int p1] h (some (.int rz)) hz := by
  refine y_start (lv := [(0, y_p p0), (1, .int p1)]) (by decide) (by simp [lg_sl, y_p_cat, y_ci, y_cj, M_X12_fits]) (by simp [lv_args, y_p_cat, y_ci, y_cj]) (fun z ad0 => ?_)
  unfold f_X12_fits at hf
  refine y_aload_n (x := p0) (pc2 := 1) rfl dX12_fits_0 rfl ?_
  obtain ⟨g39, hf⟩ := y_g hf
  refine y_getP (pc2 := 4) rfl dX12_fits_1 F_BoxYardModel_41 (by decide) rfl g39 ?_
  refine y_iload_n (pc2 := 5) rfl dX12_fits_4 rfl ?_
  obtain ⟨g38, hf⟩ := y_g hf
  refine y_iald (pc2 := 6) rfl dX12_fits_5 g38.1 (y_ix_in g38.2) ?_
  refine y_istore_n (lv' := [(2, .int (y_I h (y_P h p0 11) (Int32.toNatClampNeg p1))), (0, y_p p0), (1, .int p1)]) (pc2 := 7) rfl dX12_fits_6 (by decide) rfl ?_
  refine y_aload_n (x := p0) (pc2 := 8) rfl dX12_fits_7 rfl ?_
  obtain ⟨g37, hf⟩ := y_g hf
  refine y_getP (pc2 := 11) rfl dX12_fits_8 F_BoxYardModel_44 (by decide) rfl g37 ?_
  refine y_iload_n (pc2 := 12) rfl dX12_fits_11 rfl ?_
  obtain ⟨g36, hf⟩ := y_g hf
  refine y_iald (pc2 := 13) rfl dX12_fits_12 g36.1 (y_ix_in g36.2) ?_
  refine y_istore_n (lv' := [(3, .int (y_I h (y_P h p0 12) (Int32.toNatClampNeg p1))), (2, .int (y_I h (y_P h p0 11) (Int32.toNatClampNeg p1))), (0, y_p p0), (1, .int p1)]) (pc2 := 14) rfl dX12_fits_13 (by decide) rfl ?_
  refine y_aload_n (x := p0) (pc2 := 15) rfl dX12_fits_14 rfl ?_
  obtain ⟨g35, hf⟩ := y_g hf
  refine y_getP (pc2 := 18) rfl dX12_fits_15 F_BoxYardModel_47 (by decide) rfl g35 ?_
  refine y_iload_n (pc2 := 19) rfl dX12_fits_18 rfl ?_
  obtain ⟨g34, hf⟩ := y_g hf
  refine y_iald (pc2 := 20) rfl dX12_fits_19 g34.1 (y_ix_in g34.2) ?_
  refine y_istore (lv' := [(4, .int (y_I h (y_P h p0 13) (Int32.toNatClampNeg p1))), (3, .int (y_I h (y_P h p0 12) (Int32.toNatClampNeg p1))), (2, .int (y_I h (y_P h p0 11) (Int32.toNatClampNeg p1))), (0, y_p p0), (1, .int p1)]) (pc2 := 22) rfl dX12_fits_20 (by decide) rfl ?_
  refine y_aload_n (x := p0) (pc2 := 23) rfl dX12_fits_22 rfl ?_
  obtain ⟨g33, hf⟩ := y_g hf
  refine y_getP (pc2 := 26) rfl dX12_fits_23 F_BoxYardModel_50 (by decide) rfl g33 ?_
  refine y_iload_n (pc2 := 27) rfl dX12_fits_26 rfl ?_
  obtain ⟨g32, hf⟩ := y_g hf
  refine y_iald (pc2 := 28) rfl dX12_fits_27 g32.1 (y_ix_in g32.2) ?_
  refine y_istore (lv' := [(5, .int (y_I h (y_P h p0 14) (Int32.toNatClampNeg p1))), (4, .int (y_I h (y_P h p0 13) (Int32.toNatClampNeg p1))), (3, .int (y_I h (y_P h p0 12) (Int32.toNatClampNeg p1))), (2, .int (y_I h (y_P h p0 11) (Int32.toNatClampNeg p1))), (0, y_p p0), (1, .int p1)]) (pc2 := 30) rfl dX12_fits_28 (by decide) rfl ?_
  refine y_aload_n (x := p0) (pc2 := 31) rfl dX12_fits_30 rfl ?_
  refine y_iload_n (pc2 := 32) rfl dX12_fits_31 rfl ?_
  refine y_iload_n (pc2 := 33) rfl dX12_fits_32 rfl ?_
  refine y_iload (pc2 := 35) rfl dX12_fits_33 rfl ?_
  refine y_iload (pc2 := 37) rfl dX12_fits_35 rfl ?_
  obtain ⟨g31, hf⟩ := y_g hf
  obtain ⟨r1, h2, c3, hf⟩ := y_clE hf
  refine y_callV (As := [.int (y_I h (y_P h p0 11) (Int32.toNatClampNeg p1)), .int (y_I h (y_P h p0 12) (Int32.toNatClampNeg p1)), .int (y_I h (y_P h p0 13) (Int32.toNatClampNeg p1)), .int (y_I h (y_P h p0 14) (Int32.toNatClampNeg p1))]) (rm := rm_X12_isCell) (cells := 0) (slots := 0) (pc2 := 40) rfl dX12_fits_37 n_X12_isCell l_BoxYardModel_397 i_X12_isCell e_X12_isCell (ci := 12) rfl rfl (by decide) g31 rfl rfl (by decide) (by decide) (by decide) (k_X12_isCell c3) ?_
  refine y_ifz_ne (tgt := 46) (pc2 := 43) rfl dX12_fits_40 (by decide) (fun c30 => ?_) (fun c30 => ?_)
  · replace hf := y_it c30 hf
    refine y_aload_n (x := p0) (pc2 := 47) rfl dX12_fits_46 rfl ?_
    obtain ⟨g29, hf⟩ := y_g hf
    refine y_getP (pc2 := 50) rfl dX12_fits_47 F_BoxYardModel_113 (by decide) rfl g29 ?_
    refine y_bipush (v := 54) (pc2 := 52) rfl dX12_fits_50 (by decide) ?_
    refine y_iload_n (pc2 := 53) rfl dX12_fits_52 rfl ?_
    refine y_imul (pc2 := 54) rfl dX12_fits_53 ?_
    refine y_aload_n (x := p0) (pc2 := 55) rfl dX12_fits_54 rfl ?_
    refine y_iload_n (pc2 := 56) rfl dX12_fits_55 rfl ?_
    refine y_iload_n (pc2 := 57) rfl dX12_fits_56 rfl ?_
    refine y_iload (pc2 := 59) rfl dX12_fits_57 rfl ?_
    refine y_iload (pc2 := 61) rfl dX12_fits_59 rfl ?_
    obtain ⟨g28, hf⟩ := y_g hf
    obtain ⟨r4, h5, c6, hf⟩ := y_clE hf
    refine y_callV (As := [.int (y_I h (y_P h p0 11) (Int32.toNatClampNeg p1)), .int (y_I h (y_P h p0 12) (Int32.toNatClampNeg p1)), .int (y_I h (y_P h p0 13) (Int32.toNatClampNeg p1)), .int (y_I h (y_P h p0 14) (Int32.toNatClampNeg p1))]) (rm := rm_X12_cell) (cells := 0) (slots := 0) (pc2 := 64) rfl dX12_fits_61 n_X12_cell l_BoxYardModel_401 i_X12_cell e_X12_cell (ci := 12) rfl rfl (by decide) g28 rfl rfl (by decide) (by simp [y_ci, y_cj, y_p_cat]) (by decide) (k_X12_cell c6) ?_
    refine y_iadd (pc2 := 65) rfl dX12_fits_64 ?_
    obtain ⟨g27, hf⟩ := y_g hf
    refine y_iald (pc2 := 66) rfl dX12_fits_65 g27.1 (y_ix_in g27.2) ?_
    refine y_jnE hf (fun j => ∀ (h7 : y_H), j h7 = some (rz, hz) → y_V l G z rm_X12_fits M_X12_fits ad0 h (some (.int rz)) hz 99 [] [] h7 0 0) (fun h7 hf => ?_) (fun j99 hj99 hf => ?_)
    · refine y_bipush (v := 12) (pc2 := 101) rfl dX12_fits_99 (by decide) ?_
      exact y_iretF hf dX12_fits_101 rfl (by decide) (by decide)
    · refine y_if_ge (tgt := 99) (pc2 := 69) rfl dX12_fits_66 (by decide) (fun c26 => ?_) (fun c26 => ?_)
      · replace hf := y_it c26 hf
        exact y_pk [] rfl (hj99 _ hf)
      · replace hf := y_ie c26 hf
        refine y_iload (pc2 := 71) rfl dX12_fits_69 rfl ?_
        refine y_jnE hf (fun j => ∀ (v0_102 : Nat) (v1_102 : Int32) (v2_102 : Int32) (v3_102 : Int32) (v4_102 : Int32) (v5_102 : Int32) (h8 : y_H), j v0_102 v1_102 v2_102 v3_102 v4_102 v5_102 h8 = some (rz, hz) → y_V l G z rm_X12_fits M_X12_fits ad0 h (some (.int rz)) hz 102 [(0, y_p v0_102), (1, .int v1_102), (2, .int v2_102), (3, .int v3_102), (4, .int v4_102), (5, .int v5_102)] [] h8 0 0) (fun v0_102 v1_102 v2_102 v3_102 v4_102 v5_102 h8 hf => ?_) (fun j102 hj102 hf => ?_)
        · refine y_aload_n (x := v0_102) (pc2 := 103) rfl dX12_fits_102 rfl ?_
          refine y_iload_n (pc2 := 104) rfl dX12_fits_103 rfl ?_
          refine y_aload_n (x := v0_102) (pc2 := 105) rfl dX12_fits_104 rfl ?_
          refine y_iload_n (pc2 := 106) rfl dX12_fits_105 rfl ?_
          refine y_iload_n (pc2 := 107) rfl dX12_fits_106 rfl ?_
          refine y_iload (pc2 := 109) rfl dX12_fits_107 rfl ?_
          refine y_iload (pc2 := 111) rfl dX12_fits_109 rfl ?_
          obtain ⟨g17, hf⟩ := y_g hf
          obtain ⟨r9, h10, c11, hf⟩ := y_clE hf
          refine y_callV (As := [.int v2_102, .int v3_102, .int v4_102, .int v5_102]) (rm := rm_X12_cell) (cells := 0) (slots := 0) (pc2 := 114) rfl dX12_fits_111 n_X12_cell l_BoxYardModel_401 i_X12_cell e_X12_cell (ci := 12) rfl rfl (by decide) g17 rfl rfl (by decide) (by simp [y_ci, y_cj, y_p_cat]) (by decide) (k_X12_cell c11) ?_
          refine y_iload_n (pc2 := 115) rfl dX12_fits_114 rfl ?_
          obtain ⟨g16, hf⟩ := y_g hf
          obtain ⟨r12, h13, c14, hf⟩ := y_clE hf
          refine y_callV (As := [.int v2_102, .int r9, .int v1_102]) (rm := rm_X12_isTooMuch) (cells := 0) (slots := 0) (pc2 := 118) rfl dX12_fits_115 n_X12_isTooMuch l_BoxYardModel_405 i_X12_isTooMuch e_X12_isTooMuch (ci := 12) rfl rfl (by decide) g16 rfl rfl (by decide) (by decide) (by decide) (k_X12_isTooMuch c14) ?_
          refine y_ifz_eq (tgt := 126) (pc2 := 121) rfl dX12_fits_118 (by decide) (fun c15 => ?_) (fun c15 => ?_)
          · replace hf := y_ie c15 hf
            refine y_iconst (v := 0) (pc2 := 127) rfl dX12_fits_126 (by decide) ?_
            exact y_iretF hf dX12_fits_127 rfl (by decide) (by decide)
          · replace hf := y_it c15 hf
            refine y_bipush (v := 13) (pc2 := 123) rfl dX12_fits_121 (by decide) ?_
            refine y_goto (tgt := 127) dX12_fits_123 (by decide) ?_
            exact y_iretF hf dX12_fits_127 rfl (by decide) (by decide)
        · refine y_if_le (tgt := 102) (pc2 := 74) rfl dX12_fits_71 (by decide) (fun c25 => ?_) (fun c25 => ?_)
          · replace hf := y_it c25 hf
            exact y_pk [4, 5, 3, 2, 1, 0] rfl (hj102 _ _ _ _ _ _ _ hf)
          · replace hf := y_ie c25 hf
            refine y_aload_n (x := p0) (pc2 := 75) rfl dX12_fits_74 rfl ?_
            obtain ⟨g24, hf⟩ := y_g hf
            refine y_getP (pc2 := 78) rfl dX12_fits_75 F_BoxYardModel_113 (by decide) rfl g24 ?_
            refine y_bipush (v := 54) (pc2 := 80) rfl dX12_fits_78 (by decide) ?_
            refine y_iload_n (pc2 := 81) rfl dX12_fits_80 rfl ?_
            refine y_imul (pc2 := 82) rfl dX12_fits_81 ?_
            refine y_aload_n (x := p0) (pc2 := 83) rfl dX12_fits_82 rfl ?_
            refine y_iload_n (pc2 := 84) rfl dX12_fits_83 rfl ?_
            refine y_iload_n (pc2 := 85) rfl dX12_fits_84 rfl ?_
            refine y_iload (pc2 := 87) rfl dX12_fits_85 rfl ?_
            refine y_iload (pc2 := 89) rfl dX12_fits_87 rfl ?_
            refine y_iconst (v := 1) (pc2 := 90) rfl dX12_fits_89 (by decide) ?_
            refine y_isub (pc2 := 91) rfl dX12_fits_90 ?_
            obtain ⟨g23, hf⟩ := y_g hf
            obtain ⟨r18, h19, c20, hf⟩ := y_clE hf
            refine y_callV (As := [.int (y_I h (y_P h p0 11) (Int32.toNatClampNeg p1)), .int (y_I h (y_P h p0 12) (Int32.toNatClampNeg p1)), .int (y_I h (y_P h p0 13) (Int32.toNatClampNeg p1)), .int ((y_I h (y_P h p0 14) (Int32.toNatClampNeg p1)) - 1)]) (rm := rm_X12_cell) (cells := 0) (slots := 0) (pc2 := 94) rfl dX12_fits_91 n_X12_cell l_BoxYardModel_401 i_X12_cell e_X12_cell (ci := 12) rfl rfl (by decide) g23 rfl rfl (by decide) (by simp [y_ci, y_cj, y_p_cat]) (by decide) (k_X12_cell c20) ?_
            refine y_iadd (pc2 := 95) rfl dX12_fits_94 ?_
            obtain ⟨g22, hf⟩ := y_g hf
            refine y_iald (pc2 := 96) rfl dX12_fits_95 g22.1 (y_ix_in g22.2) ?_
            refine y_if_ge (tgt := 102) (pc2 := 99) rfl dX12_fits_96 (by decide) (fun c21 => ?_) (fun c21 => ?_)
            · replace hf := y_it c21 hf
              exact y_pk [4, 5, 3, 2, 1, 0] rfl (hj102 _ _ _ _ _ _ _ hf)
            · replace hf := y_ie c21 hf
              exact y_pk [] rfl (hj99 _ hf)
  · replace hf := y_ie c30 hf
    refine y_bipush (v := 62) (pc2 := 45) rfl dX12_fits_43 (by decide) ?_
    exact y_iretF hf dX12_fits_45 rfl (by decide) (by decide)
theorem dX12_linked_0 : decode cX12_linked 0 = .ok (.aload_n 0, 1) := by decide +kernel
theorem dX12_linked_1 : decode cX12_linked 1 = .ok (.aload_n 0, 1) := by decide +kernel
theorem dX12_linked_2 : decode cX12_linked 2 = .ok (.getfield 41, 3) := by decide +kernel
theorem dX12_linked_5 : decode cX12_linked 5 = .ok (.iload_n 1, 1) := by decide +kernel
theorem dX12_linked_6 : decode cX12_linked 6 = .ok (.iaload, 1) := by decide +kernel
theorem dX12_linked_7 : decode cX12_linked 7 = .ok (.aload_n 0, 1) := by decide +kernel
theorem dX12_linked_8 : decode cX12_linked 8 = .ok (.getfield 44, 3) := by decide +kernel
theorem dX12_linked_11 : decode cX12_linked 11 = .ok (.iload_n 1, 1) := by decide +kernel
theorem dX12_linked_12 : decode cX12_linked 12 = .ok (.iaload, 1) := by decide +kernel
theorem dX12_linked_13 : decode cX12_linked 13 = .ok (.aload_n 0, 1) := by decide +kernel
theorem dX12_linked_14 : decode cX12_linked 14 = .ok (.getfield 47, 3) := by decide +kernel
theorem dX12_linked_17 : decode cX12_linked 17 = .ok (.iload_n 1, 1) := by decide +kernel
theorem dX12_linked_18 : decode cX12_linked 18 = .ok (.iaload, 1) := by decide +kernel
theorem dX12_linked_19 : decode cX12_linked 19 = .ok (.aload_n 0, 1) := by decide +kernel
theorem dX12_linked_20 : decode cX12_linked 20 = .ok (.getfield 50, 3) := by decide +kernel
theorem dX12_linked_23 : decode cX12_linked 23 = .ok (.iload_n 1, 1) := by decide +kernel
theorem dX12_linked_24 : decode cX12_linked 24 = .ok (.iaload, 1) := by decide +kernel
theorem dX12_linked_25 : decode cX12_linked 25 = .ok (.invokevirtual 401, 3) := by decide +kernel
theorem dX12_linked_28 : decode cX12_linked 28 = .ok (.ireturn, 1) := by decide +kernel
def M_X12_linked : y_M := (yX12_linked, cX12_linked, 2, (Option.some Jvm.ClassFile.FieldType.int))
theorem n_X12_linked : y_N0 M_X12_linked 1 := ⟨(c_9 165 (by decide +kernel) rfl), (c_1 9 (by decide +kernel) rfl), ⟨by decide +kernel, by decide +kernel⟩, by decide +kernel⟩
set_option maxRecDepth 100000 in
def f_X12_linked (p0 : Nat) (p1 : Int32) (h : y_H) : Option (Int32 × y_H) :=
  if y_K h p0 = 13 then
  if y_K h (y_P h p0 11) = 100 ∧ y_ix p1 (y_N h (y_P h p0 11)) = true then
  if y_K h p0 = 13 then
  if y_K h (y_P h p0 12) = 100 ∧ y_ix p1 (y_N h (y_P h p0 12)) = true then
  if y_K h p0 = 13 then
  if y_K h (y_P h p0 13) = 100 ∧ y_ix p1 (y_N h (y_P h p0 13)) = true then
  if y_K h p0 = 13 then
  if y_K h (y_P h p0 14) = 100 ∧ y_ix p1 (y_N h (y_P h p0 14)) = true then
  if y_K h p0 = 13 then
  y_cl (f_X12_cell p0 (y_I h (y_P h p0 11) (Int32.toNatClampNeg p1)) (y_I h (y_P h p0 12) (Int32.toNatClampNeg p1)) (y_I h (y_P h p0 13) (Int32.toNatClampNeg p1)) (y_I h (y_P h p0 14) (Int32.toNatClampNeg p1)) h) (fun r1 h2 =>
  some (r1, h2))
  else none
  else none
  else none
  else none
  else none
  else none
  else none
  else none
  else none
abbrev rm_X12_linked : Room := { frames := 1, cells := 0, slots := 0, locals := 24 }
set_option maxRecDepth 100000 in
set_option maxHeartbeats 4000000 in
theorem k_X12_linked {l : Launch} {G : y_G} {p0 : Nat} {p1 : Int32} {h hz : y_H} {rz : Int32} (hf : f_X12_linked p0 p1 h = some (rz, hz)) : y_S l G M_X12_linked rm_X12_linked [y_p p0, .int p1] h (some (.int rz)) hz := by
  refine y_start (lv := [(0, y_p p0), (1, .int p1)]) (by decide) (by simp [lg_sl, y_p_cat, y_ci, y_cj, M_X12_linked]) (by simp [lv_args, y_p_cat, y_ci, y_cj]) (fun z ad0 => ?_)
  unfold f_X12_linked at hf
  refine y_aload_n (x := p0) (pc2 := 1) rfl dX12_linked_0 rfl ?_
  refine y_aload_n (x := p0) (pc2 := 2) rfl dX12_linked_1 rfl ?_
  obtain ⟨g12, hf⟩ := y_g hf
  refine y_getP (pc2 := 5) rfl dX12_linked_2 F_BoxYardModel_41 (by decide) rfl g12 ?_
  refine y_iload_n (pc2 := 6) rfl dX12_linked_5 rfl ?_
  obtain ⟨g11, hf⟩ := y_g hf
  refine y_iald (pc2 := 7) rfl dX12_linked_6 g11.1 (y_ix_in g11.2) ?_
  refine y_aload_n (x := p0) (pc2 := 8) rfl dX12_linked_7 rfl ?_
  obtain ⟨g10, hf⟩ := y_g hf
  refine y_getP (pc2 := 11) rfl dX12_linked_8 F_BoxYardModel_44 (by decide) rfl g10 ?_
  refine y_iload_n (pc2 := 12) rfl dX12_linked_11 rfl ?_
  obtain ⟨g9, hf⟩ := y_g hf
  refine y_iald (pc2 := 13) rfl dX12_linked_12 g9.1 (y_ix_in g9.2) ?_
  refine y_aload_n (x := p0) (pc2 := 14) rfl dX12_linked_13 rfl ?_
  obtain ⟨g8, hf⟩ := y_g hf
  refine y_getP (pc2 := 17) rfl dX12_linked_14 F_BoxYardModel_47 (by decide) rfl g8 ?_
  refine y_iload_n (pc2 := 18) rfl dX12_linked_17 rfl ?_
  obtain ⟨g7, hf⟩ := y_g hf
  refine y_iald (pc2 := 19) rfl dX12_linked_18 g7.1 (y_ix_in g7.2) ?_
  refine y_aload_n (x := p0) (pc2 := 20) rfl dX12_linked_19 rfl ?_
  obtain ⟨g6, hf⟩ := y_g hf
  refine y_getP (pc2 := 23) rfl dX12_linked_20 F_BoxYardModel_50 (by decide) rfl g6 ?_
  refine y_iload_n (pc2 := 24) rfl dX12_linked_23 rfl ?_
  obtain ⟨g5, hf⟩ := y_g hf
  refine y_iald (pc2 := 25) rfl dX12_linked_24 g5.1 (y_ix_in g5.2) ?_
  obtain ⟨g4, hf⟩ := y_g hf
  obtain ⟨r1, h2, c3, hf⟩ := y_clE hf
  refine y_callV (As := [.int (y_I h (y_P h p0 11) (Int32.toNatClampNeg p1)), .int (y_I h (y_P h p0 12) (Int32.toNatClampNeg p1)), .int (y_I h (y_P h p0 13) (Int32.toNatClampNeg p1)), .int (y_I h (y_P h p0 14) (Int32.toNatClampNeg p1))]) (rm := rm_X12_cell) (cells := 0) (slots := 0) (pc2 := 28) rfl dX12_linked_25 n_X12_cell l_BoxYardModel_401 i_X12_cell e_X12_cell (ci := 12) rfl rfl (by decide) g4 rfl rfl (by decide) (by decide) (by decide) (k_X12_cell c3) ?_
  exact y_iretF hf dX12_linked_28 rfl (by decide) (by decide)
theorem dX12_load_0 : decode cX12_load 0 = .ok (.aload_n 0, 1) := by decide +kernel
theorem dX12_load_1 : decode cX12_load 1 = .ok (.iconst 0, 1) := by decide +kernel
theorem dX12_load_2 : decode cX12_load 2 = .ok (.putfield 249, 3) := by decide +kernel
theorem dX12_load_5 : decode cX12_load 5 = .ok (.aload_n 0, 1) := by decide +kernel
theorem dX12_load_6 : decode cX12_load 6 = .ok (.iload_n 1, 1) := by decide +kernel
theorem dX12_load_7 : decode cX12_load 7 = .ok (.invokevirtual 329, 3) := by decide +kernel
theorem dX12_load_10 : decode cX12_load 10 = .ok (.ifCond .ne 9, 3) := by decide +kernel
theorem dX12_load_13 : decode cX12_load 13 = .ok (.aload_n 0, 1) := by decide +kernel
theorem dX12_load_14 : decode cX12_load 14 = .ok (.iconst (-1), 1) := by decide +kernel
theorem dX12_load_15 : decode cX12_load 15 = .ok (.invokevirtual 345, 3) := by decide +kernel
theorem dX12_load_18 : decode cX12_load 18 = .ok (.ireturn, 1) := by decide +kernel
theorem dX12_load_19 : decode cX12_load 19 = .ok (.aload_n 0, 1) := by decide +kernel
theorem dX12_load_20 : decode cX12_load 20 = .ok (.getfield 89, 3) := by decide +kernel
theorem dX12_load_23 : decode cX12_load 23 = .ok (.iload_n 1, 1) := by decide +kernel
theorem dX12_load_24 : decode cX12_load 24 = .ok (.iaload, 1) := by decide +kernel
theorem dX12_load_25 : decode cX12_load 25 = .ok (.ifCond .ge 10, 3) := by decide +kernel
theorem dX12_load_28 : decode cX12_load 28 = .ok (.aload_n 0, 1) := by decide +kernel
theorem dX12_load_29 : decode cX12_load 29 = .ok (.bipush (-3), 2) := by decide +kernel
theorem dX12_load_31 : decode cX12_load 31 = .ok (.invokevirtual 345, 3) := by decide +kernel
theorem dX12_load_34 : decode cX12_load 34 = .ok (.ireturn, 1) := by decide +kernel
theorem dX12_load_35 : decode cX12_load 35 = .ok (.aload_n 0, 1) := by decide +kernel
theorem dX12_load_36 : decode cX12_load 36 = .ok (.iload_n 1, 1) := by decide +kernel
theorem dX12_load_37 : decode cX12_load 37 = .ok (.invokevirtual 348, 3) := by decide +kernel
theorem dX12_load_40 : decode cX12_load 40 = .ok (.ifCond .eq 11, 3) := by decide +kernel
theorem dX12_load_43 : decode cX12_load 43 = .ok (.aload_n 0, 1) := by decide +kernel
theorem dX12_load_44 : decode cX12_load 44 = .ok (.iload_n 1, 1) := by decide +kernel
theorem dX12_load_45 : decode cX12_load 45 = .ok (.bipush 6, 2) := by decide +kernel
theorem dX12_load_47 : decode cX12_load 47 = .ok (.invokevirtual 351, 3) := by decide +kernel
theorem dX12_load_50 : decode cX12_load 50 = .ok (.ireturn, 1) := by decide +kernel
theorem dX12_load_51 : decode cX12_load 51 = .ok (.aload_n 0, 1) := by decide +kernel
theorem dX12_load_52 : decode cX12_load 52 = .ok (.getfield 80, 3) := by decide +kernel
theorem dX12_load_55 : decode cX12_load 55 = .ok (.iload_n 1, 1) := by decide +kernel
theorem dX12_load_56 : decode cX12_load 56 = .ok (.iaload, 1) := by decide +kernel
theorem dX12_load_57 : decode cX12_load 57 = .ok (.iconst 1, 1) := by decide +kernel
theorem dX12_load_58 : decode cX12_load 58 = .ok (.if_icmp .eq 10, 3) := by decide +kernel
theorem dX12_load_61 : decode cX12_load 61 = .ok (.aload_n 0, 1) := by decide +kernel
theorem dX12_load_62 : decode cX12_load 62 = .ok (.iload_n 1, 1) := by decide +kernel
theorem dX12_load_63 : decode cX12_load 63 = .ok (.iconst 5, 1) := by decide +kernel
theorem dX12_load_64 : decode cX12_load 64 = .ok (.invokevirtual 366, 3) := by decide +kernel
theorem dX12_load_67 : decode cX12_load 67 = .ok (.ireturn, 1) := by decide +kernel
theorem dX12_load_68 : decode cX12_load 68 = .ok (.aload_n 0, 1) := by decide +kernel
theorem dX12_load_69 : decode cX12_load 69 = .ok (.getfield 89, 3) := by decide +kernel
theorem dX12_load_72 : decode cX12_load 72 = .ok (.iload_n 1, 1) := by decide +kernel
theorem dX12_load_73 : decode cX12_load 73 = .ok (.iaload, 1) := by decide +kernel
theorem dX12_load_74 : decode cX12_load 74 = .ok (.istore_n 2, 1) := by decide +kernel
theorem dX12_load_75 : decode cX12_load 75 = .ok (.aload_n 0, 1) := by decide +kernel
theorem dX12_load_76 : decode cX12_load 76 = .ok (.getfield 41, 3) := by decide +kernel
theorem dX12_load_79 : decode cX12_load 79 = .ok (.iload_n 2, 1) := by decide +kernel
theorem dX12_load_80 : decode cX12_load 80 = .ok (.iaload, 1) := by decide +kernel
theorem dX12_load_81 : decode cX12_load 81 = .ok (.bipush (-9), 2) := by decide +kernel
theorem dX12_load_83 : decode cX12_load 83 = .ok (.if_icmp .ne 10, 3) := by decide +kernel
theorem dX12_load_86 : decode cX12_load 86 = .ok (.aload_n 0, 1) := by decide +kernel
theorem dX12_load_87 : decode cX12_load 87 = .ok (.iload_n 1, 1) := by decide +kernel
theorem dX12_load_88 : decode cX12_load 88 = .ok (.iconst 3, 1) := by decide +kernel
theorem dX12_load_89 : decode cX12_load 89 = .ok (.invokevirtual 366, 3) := by decide +kernel
theorem dX12_load_92 : decode cX12_load 92 = .ok (.ireturn, 1) := by decide +kernel
theorem dX12_load_93 : decode cX12_load 93 = .ok (.aload_n 0, 1) := by decide +kernel
theorem dX12_load_94 : decode cX12_load 94 = .ok (.getfield 86, 3) := by decide +kernel
theorem dX12_load_97 : decode cX12_load 97 = .ok (.iload_n 1, 1) := by decide +kernel
theorem dX12_load_98 : decode cX12_load 98 = .ok (.iaload, 1) := by decide +kernel
theorem dX12_load_99 : decode cX12_load 99 = .ok (.aload_n 0, 1) := by decide +kernel
theorem dX12_load_100 : decode cX12_load 100 = .ok (.getfield 110, 3) := by decide +kernel
theorem dX12_load_103 : decode cX12_load 103 = .ok (.aload_n 0, 1) := by decide +kernel
theorem dX12_load_104 : decode cX12_load 104 = .ok (.getfield 41, 3) := by decide +kernel
theorem dX12_load_107 : decode cX12_load 107 = .ok (.iload_n 2, 1) := by decide +kernel
theorem dX12_load_108 : decode cX12_load 108 = .ok (.iaload, 1) := by decide +kernel
theorem dX12_load_109 : decode cX12_load 109 = .ok (.iaload, 1) := by decide +kernel
theorem dX12_load_110 : decode cX12_load 110 = .ok (.if_icmp .eq 11, 3) := by decide +kernel
theorem dX12_load_113 : decode cX12_load 113 = .ok (.aload_n 0, 1) := by decide +kernel
theorem dX12_load_114 : decode cX12_load 114 = .ok (.iload_n 1, 1) := by decide +kernel
theorem dX12_load_115 : decode cX12_load 115 = .ok (.bipush 11, 2) := by decide +kernel
theorem dX12_load_117 : decode cX12_load 117 = .ok (.invokevirtual 351, 3) := by decide +kernel
theorem dX12_load_120 : decode cX12_load 120 = .ok (.ireturn, 1) := by decide +kernel
theorem dX12_load_121 : decode cX12_load 121 = .ok (.aload_n 0, 1) := by decide +kernel
theorem dX12_load_122 : decode cX12_load 122 = .ok (.iload_n 2, 1) := by decide +kernel
theorem dX12_load_123 : decode cX12_load 123 = .ok (.invokevirtual 408, 3) := by decide +kernel
theorem dX12_load_126 : decode cX12_load 126 = .ok (.istore_n 3, 1) := by decide +kernel
theorem dX12_load_127 : decode cX12_load 127 = .ok (.iload_n 3, 1) := by decide +kernel
theorem dX12_load_128 : decode cX12_load 128 = .ok (.bipush 62, 2) := by decide +kernel
theorem dX12_load_130 : decode cX12_load 130 = .ok (.if_icmp .ne 10, 3) := by decide +kernel
theorem dX12_load_133 : decode cX12_load 133 = .ok (.aload_n 0, 1) := by decide +kernel
theorem dX12_load_134 : decode cX12_load 134 = .ok (.iload_n 1, 1) := by decide +kernel
theorem dX12_load_135 : decode cX12_load 135 = .ok (.iconst 2, 1) := by decide +kernel
theorem dX12_load_136 : decode cX12_load 136 = .ok (.invokevirtual 366, 3) := by decide +kernel
theorem dX12_load_139 : decode cX12_load 139 = .ok (.ireturn, 1) := by decide +kernel
theorem dX12_load_140 : decode cX12_load 140 = .ok (.iload_n 3, 1) := by decide +kernel
theorem dX12_load_141 : decode cX12_load 141 = .ok (.ifCond .le 10, 3) := by decide +kernel
theorem dX12_load_144 : decode cX12_load 144 = .ok (.aload_n 0, 1) := by decide +kernel
theorem dX12_load_145 : decode cX12_load 145 = .ok (.iload_n 1, 1) := by decide +kernel
theorem dX12_load_146 : decode cX12_load 146 = .ok (.iload_n 3, 1) := by decide +kernel
theorem dX12_load_147 : decode cX12_load 147 = .ok (.invokevirtual 351, 3) := by decide +kernel
theorem dX12_load_150 : decode cX12_load 150 = .ok (.ireturn, 1) := by decide +kernel
theorem dX12_load_151 : decode cX12_load 151 = .ok (.aload_n 0, 1) := by decide +kernel
theorem dX12_load_152 : decode cX12_load 152 = .ok (.iload_n 1, 1) := by decide +kernel
theorem dX12_load_153 : decode cX12_load 153 = .ok (.iload_n 2, 1) := by decide +kernel
theorem dX12_load_154 : decode cX12_load 154 = .ok (.aload_n 0, 1) := by decide +kernel
theorem dX12_load_155 : decode cX12_load 155 = .ok (.getfield 41, 3) := by decide +kernel
theorem dX12_load_158 : decode cX12_load 158 = .ok (.iload_n 2, 1) := by decide +kernel
theorem dX12_load_159 : decode cX12_load 159 = .ok (.iaload, 1) := by decide +kernel
theorem dX12_load_160 : decode cX12_load 160 = .ok (.invokevirtual 355, 3) := by decide +kernel
theorem dX12_load_163 : decode cX12_load 163 = .ok (.aload_n 0, 1) := by decide +kernel
theorem dX12_load_164 : decode cX12_load 164 = .ok (.iload_n 2, 1) := by decide +kernel
theorem dX12_load_165 : decode cX12_load 165 = .ok (.invokevirtual 411, 3) := by decide +kernel
theorem dX12_load_168 : decode cX12_load 168 = .ok (.istore 4, 2) := by decide +kernel
theorem dX12_load_170 : decode cX12_load 170 = .ok (.aload_n 0, 1) := by decide +kernel
theorem dX12_load_171 : decode cX12_load 171 = .ok (.getfield 113, 3) := by decide +kernel
theorem dX12_load_174 : decode cX12_load 174 = .ok (.bipush 54, 2) := by decide +kernel
theorem dX12_load_176 : decode cX12_load 176 = .ok (.aload_n 0, 1) := by decide +kernel
theorem dX12_load_177 : decode cX12_load 177 = .ok (.getfield 41, 3) := by decide +kernel
theorem dX12_load_180 : decode cX12_load 180 = .ok (.iload_n 2, 1) := by decide +kernel
theorem dX12_load_181 : decode cX12_load 181 = .ok (.iaload, 1) := by decide +kernel
theorem dX12_load_182 : decode cX12_load 182 = .ok (.imul, 1) := by decide +kernel
theorem dX12_load_183 : decode cX12_load 183 = .ok (.iload 4, 2) := by decide +kernel
theorem dX12_load_185 : decode cX12_load 185 = .ok (.iadd, 1) := by decide +kernel
theorem dX12_load_186 : decode cX12_load 186 = .ok (.iload_n 2, 1) := by decide +kernel
theorem dX12_load_187 : decode cX12_load 187 = .ok (.iastore, 1) := by decide +kernel
theorem dX12_load_188 : decode cX12_load 188 = .ok (.aload_n 0, 1) := by decide +kernel
theorem dX12_load_189 : decode cX12_load 189 = .ok (.iload_n 2, 1) := by decide +kernel
theorem dX12_load_190 : decode cX12_load 190 = .ok (.iconst 3, 1) := by decide +kernel
theorem dX12_load_191 : decode cX12_load 191 = .ok (.aload_n 0, 1) := by decide +kernel
theorem dX12_load_192 : decode cX12_load 192 = .ok (.getfield 41, 3) := by decide +kernel
theorem dX12_load_195 : decode cX12_load 195 = .ok (.iload_n 2, 1) := by decide +kernel
theorem dX12_load_196 : decode cX12_load 196 = .ok (.iaload, 1) := by decide +kernel
theorem dX12_load_197 : decode cX12_load 197 = .ok (.iload 4, 2) := by decide +kernel
theorem dX12_load_199 : decode cX12_load 199 = .ok (.iconst 0, 1) := by decide +kernel
theorem dX12_load_200 : decode cX12_load 200 = .ok (.invokevirtual 294, 3) := by decide +kernel
theorem dX12_load_203 : decode cX12_load 203 = .ok (.aload_n 0, 1) := by decide +kernel
theorem dX12_load_204 : decode cX12_load 204 = .ok (.getfield 89, 3) := by decide +kernel
theorem dX12_load_207 : decode cX12_load 207 = .ok (.iload_n 1, 1) := by decide +kernel
theorem dX12_load_208 : decode cX12_load 208 = .ok (.iconst (-1), 1) := by decide +kernel
theorem dX12_load_209 : decode cX12_load 209 = .ok (.iastore, 1) := by decide +kernel
theorem dX12_load_210 : decode cX12_load 210 = .ok (.aload_n 0, 1) := by decide +kernel
theorem dX12_load_211 : decode cX12_load 211 = .ok (.invokevirtual 359, 3) := by decide +kernel
theorem dX12_load_214 : decode cX12_load 214 = .ok (.ireturn, 1) := by decide +kernel
def M_X12_load : y_M := (yX12_load, cX12_load, 5, (Option.some Jvm.ClassFile.FieldType.int))
theorem n_X12_load : y_N0 M_X12_load 1 := ⟨(c_9 133 (by decide +kernel) rfl), (c_1 9 (by decide +kernel) rfl), ⟨by decide +kernel, by decide +kernel⟩, by decide +kernel⟩
theorem l_BoxYardModel_408 : y_lnk "BoxYardModel" 408 M_X12_fits := Or.inl (c_9 134 (by decide +kernel) rfl)
theorem i_X12_fits : Cond.instanceMethod (M_X12_fits).1 ∈ y_tb := (c_9 136 (by decide +kernel) rfl)
theorem e_X12_fits : Cond.selects (M_X12_fits).1.cls (M_X12_fits).1 (M_X12_fits).1 ∈ y_tb := (m_s 87 (by decide +kernel) rfl)
theorem l_BoxYardModel_411 : y_lnk "BoxYardModel" 411 M_X12_linked := Or.inl (c_9 162 (by decide +kernel) rfl)
theorem i_X12_linked : Cond.instanceMethod (M_X12_linked).1 ∈ y_tb := (c_9 164 (by decide +kernel) rfl)
theorem e_X12_linked : Cond.selects (M_X12_linked).1.cls (M_X12_linked).1 (M_X12_linked).1 ∈ y_tb := (m_s 94 (by decide +kernel) rfl)
set_option maxRecDepth 100000 in
def f_X12_load (p0 : Nat) (p1 : Int32) (h : y_H) : Option (Int32 × y_H) :=
  if y_K h p0 = 13 then
  y_bd (s_I h p0 46 0) (fun h1 =>
  if y_K h1 p0 = 13 then
  y_cl (f_X12_isCrane p0 p1 h1) (fun r4 h5 =>
  if r4 = true then
    if y_K h5 p0 = 13 then
    if y_K h5 (y_P h5 p0 29) = 100 ∧ y_ix p1 (y_N h5 (y_P h5 p0 29)) = true then
    if 0 ≤ (y_I h5 (y_P h5 p0 29) (Int32.toNatClampNeg p1)) then
      if y_K h5 p0 = 13 then
      y_cl (f_X12_isWindy p0 p1 h5) (fun r7 h8 =>
      if r7 = true then
        if y_K h8 p0 = 13 then
        y_cl (f_X12_breaks p0 p1 6 h8) (fun r79 h80 =>
        some (r79, h80))
        else none
      else
        if y_K h8 p0 = 13 then
        if y_K h8 (y_P h8 p0 26) = 100 ∧ y_ix p1 (y_N h8 (y_P h8 p0 26)) = true then
        if (y_I h8 (y_P h8 p0 26) (Int32.toNatClampNeg p1)) = 1 then
          if y_K h8 p0 = 13 then
          if y_K h8 (y_P h8 p0 29) = 100 ∧ y_ix p1 (y_N h8 (y_P h8 p0 29)) = true then
          if y_K h8 p0 = 13 then
          if y_K h8 (y_P h8 p0 11) = 100 ∧ y_ix (y_I h8 (y_P h8 p0 29) (Int32.toNatClampNeg p1)) (y_N h8 (y_P h8 p0 11)) = true then
          if (y_I h8 (y_P h8 p0 11) (Int32.toNatClampNeg (y_I h8 (y_P h8 p0 29) (Int32.toNatClampNeg p1)))) = (-9 : Int32) then
            if y_K h8 p0 = 13 then
            y_cl (f_X12_meets p0 p1 3 h8) (fun r63 h64 =>
            some (r63, h64))
            else none
          else
            if y_K h8 p0 = 13 then
            if y_K h8 (y_P h8 p0 28) = 100 ∧ y_ix p1 (y_N h8 (y_P h8 p0 28)) = true then
            if y_K h8 p0 = 13 then
            if y_K h8 p0 = 13 then
            if y_K h8 (y_P h8 p0 11) = 100 ∧ y_ix (y_I h8 (y_P h8 p0 29) (Int32.toNatClampNeg p1)) (y_N h8 (y_P h8 p0 11)) = true then
            if y_K h8 (y_P h8 p0 38) = 100 ∧ y_ix (y_I h8 (y_P h8 p0 11) (Int32.toNatClampNeg (y_I h8 (y_P h8 p0 29) (Int32.toNatClampNeg p1)))) (y_N h8 (y_P h8 p0 38)) = true then
            if (y_I h8 (y_P h8 p0 28) (Int32.toNatClampNeg p1)) = (y_I h8 (y_P h8 p0 38) (Int32.toNatClampNeg (y_I h8 (y_P h8 p0 11) (Int32.toNatClampNeg (y_I h8 (y_P h8 p0 29) (Int32.toNatClampNeg p1)))))) then
              if y_K h8 p0 = 13 then
              y_cl (f_X12_fits p0 (y_I h8 (y_P h8 p0 29) (Int32.toNatClampNeg p1)) h8) (fun r10 h11 =>
              if r10 = 62 then
                if y_K h11 p0 = 13 then
                y_cl (f_X12_meets p0 p1 2 h11) (fun r46 h47 =>
                some (r46, h47))
                else none
              else
                if r10 ≤ 0 then
                  if y_K h11 p0 = 13 then
                  if y_K h11 (y_P h11 p0 11) = 100 ∧ y_ix (y_I h8 (y_P h8 p0 29) (Int32.toNatClampNeg p1)) (y_N h11 (y_P h11 p0 11)) = true then
                  if y_K h11 p0 = 13 then
                  y_cl (f_X12_keep p0 p1 (y_I h8 (y_P h8 p0 29) (Int32.toNatClampNeg p1)) (y_I h11 (y_P h11 p0 11) (Int32.toNatClampNeg (y_I h8 (y_P h8 p0 29) (Int32.toNatClampNeg p1)))) h11) (fun _ h13 =>
                  if y_K h13 p0 = 13 then
                  y_cl (f_X12_linked p0 (y_I h8 (y_P h8 p0 29) (Int32.toNatClampNeg p1)) h13) (fun r15 h16 =>
                  if y_K h16 p0 = 13 then
                  if y_K h16 p0 = 13 then
                  if y_K h16 (y_P h16 p0 11) = 100 ∧ y_ix (y_I h8 (y_P h8 p0 29) (Int32.toNatClampNeg p1)) (y_N h16 (y_P h16 p0 11)) = true then
                  if y_K h16 (y_P h16 p0 39) = 100 ∧ y_ix ((54 * (y_I h16 (y_P h16 p0 11) (Int32.toNatClampNeg (y_I h8 (y_P h8 p0 29) (Int32.toNatClampNeg p1))))) + r15) (y_N h16 (y_P h16 p0 39)) = true then
                  y_bd (s_I h16 (y_P h16 p0 39) (Int32.toNatClampNeg ((54 * (y_I h16 (y_P h16 p0 11) (Int32.toNatClampNeg (y_I h8 (y_P h8 p0 29) (Int32.toNatClampNeg p1))))) + r15)) (y_I h8 (y_P h8 p0 29) (Int32.toNatClampNeg p1))) (fun h18 =>
                  if y_K h18 p0 = 13 then
                  if y_K h18 (y_P h18 p0 11) = 100 ∧ y_ix (y_I h8 (y_P h8 p0 29) (Int32.toNatClampNeg p1)) (y_N h18 (y_P h18 p0 11)) = true then
                  if y_K h18 p0 = 13 then
                  y_cl (f_X12_put p0 (y_I h8 (y_P h8 p0 29) (Int32.toNatClampNeg p1)) 3 (y_I h18 (y_P h18 p0 11) (Int32.toNatClampNeg (y_I h8 (y_P h8 p0 29) (Int32.toNatClampNeg p1)))) r15 0 h18) (fun _ h21 =>
                  if y_K h21 p0 = 13 then
                  if y_K h21 (y_P h21 p0 29) = 100 ∧ y_ix p1 (y_N h21 (y_P h21 p0 29)) = true then
                  y_bd (s_I h21 (y_P h21 p0 29) (Int32.toNatClampNeg p1) (-1 : Int32)) (fun h23 =>
                  if y_K h23 p0 = 13 then
                  y_cl (f_X12_done p0 h23) (fun r26 h27 =>
                  some (r26, h27))
                  else none)
                  else none
                  else none)
                  else none
                  else none
                  else none)
                  else none
                  else none
                  else none
                  else none)
                  else none)
                  else none
                  else none
                  else none
                else
                  if y_K h11 p0 = 13 then
                  y_cl (f_X12_breaks p0 p1 r10 h11) (fun r41 h42 =>
                  some (r41, h42))
                  else none)
              else none
            else
              if y_K h8 p0 = 13 then
              y_cl (f_X12_breaks p0 p1 11 h8) (fun r52 h53 =>
              some (r52, h53))
              else none
            else none
            else none
            else none
            else none
            else none
            else none
          else none
          else none
          else none
          else none
        else
          if y_K h8 p0 = 13 then
          y_cl (f_X12_meets p0 p1 5 h8) (fun r72 h73 =>
          some (r72, h73))
          else none
        else none
        else none)
      else none
    else
      if y_K h5 p0 = 13 then
      y_cl (f_X12_refused p0 (-3 : Int32) h5) (fun r85 h86 =>
      some (r85, h86))
      else none
    else none
    else none
  else
    if y_K h5 p0 = 13 then
    y_cl (f_X12_refused p0 (-1 : Int32) h5) (fun r92 h93 =>
    some (r92, h93))
    else none)
  else none)
  else none
abbrev rm_X12_load : Room := { frames := 4, cells := 0, slots := 0, locals := 97 }
set_option maxRecDepth 100000 in
set_option maxHeartbeats 4000000 in
theorem k_X12_load {l : Launch} {G : y_G} {p0 : Nat} {p1 : Int32} {h hz : y_H} {rz : Int32} (hf : f_X12_load p0 p1 h = some (rz, hz)) : y_S l G M_X12_load rm_X12_load [y_p p0, .int p1] h (some (.int rz)) hz := by
  refine y_start (lv := [(0, y_p p0), (1, .int p1)]) (by decide) (by simp [lg_sl, y_p_cat, y_ci, y_cj, M_X12_load]) (by simp [lv_args, y_p_cat, y_ci, y_cj]) (fun z ad0 => ?_)
  unfold f_X12_load at hf
  refine y_aload_n (x := p0) (pc2 := 1) rfl dX12_load_0 rfl ?_
  refine y_iconst (v := 0) (pc2 := 2) rfl dX12_load_1 (by decide) ?_
  obtain ⟨g3, hf⟩ := y_g hf
  obtain ⟨h1, e2, hf⟩ := y_bdE hf
  refine y_putI (x := 0) (pc2 := 5) rfl dX12_load_2 Fp_BoxYardModel_249 (by decide) rfl g3 e2 ?_
  refine y_aload_n (x := p0) (pc2 := 6) rfl dX12_load_5 rfl ?_
  refine y_iload_n (pc2 := 7) rfl dX12_load_6 rfl ?_
  obtain ⟨g97, hf⟩ := y_g hf
  obtain ⟨r4, h5, c6, hf⟩ := y_clE hf
  refine y_callV (As := [.int p1]) (rm := rm_X12_isCrane) (cells := 0) (slots := 0) (pc2 := 10) rfl dX12_load_7 n_X12_isCrane l_BoxYardModel_329 i_X12_isCrane e_X12_isCrane (ci := 12) rfl rfl (by decide) g97 rfl rfl (by decide) (by decide) (by decide) (k_X12_isCrane c6) ?_
  refine y_ifz_ne (tgt := 19) (pc2 := 13) rfl dX12_load_10 (by decide) (fun c96 => ?_) (fun c96 => ?_)
  · replace hf := y_it c96 hf
    refine y_aload_n (x := p0) (pc2 := 20) rfl dX12_load_19 rfl ?_
    obtain ⟨g91, hf⟩ := y_g hf
    refine y_getP (pc2 := 23) rfl dX12_load_20 F_BoxYardModel_89 (by decide) rfl g91 ?_
    refine y_iload_n (pc2 := 24) rfl dX12_load_23 rfl ?_
    obtain ⟨g90, hf⟩ := y_g hf
    refine y_iald (pc2 := 25) rfl dX12_load_24 g90.1 (y_ix_in g90.2) ?_
    refine y_if_ge (tgt := 35) (pc2 := 28) rfl dX12_load_25 (by decide) (fun c89 => ?_) (fun c89 => ?_)
    · replace hf := y_it c89 hf
      refine y_aload_n (x := p0) (pc2 := 36) rfl dX12_load_35 rfl ?_
      refine y_iload_n (pc2 := 37) rfl dX12_load_36 rfl ?_
      obtain ⟨g84, hf⟩ := y_g hf
      obtain ⟨r7, h8, c9, hf⟩ := y_clE hf
      refine y_callV (As := [.int p1]) (rm := rm_X12_isWindy) (cells := 0) (slots := 0) (pc2 := 40) rfl dX12_load_37 n_X12_isWindy l_BoxYardModel_348 i_X12_isWindy e_X12_isWindy (ci := 12) rfl rfl (by decide) g84 rfl rfl (by decide) (by decide) (by decide) (k_X12_isWindy c9) ?_
      refine y_ifz_eq (tgt := 51) (pc2 := 43) rfl dX12_load_40 (by decide) (fun c83 => ?_) (fun c83 => ?_)
      · replace hf := y_ie c83 hf
        refine y_aload_n (x := p0) (pc2 := 52) rfl dX12_load_51 rfl ?_
        obtain ⟨g78, hf⟩ := y_g hf
        refine y_getP (pc2 := 55) rfl dX12_load_52 F_BoxYardModel_80 (by decide) rfl g78 ?_
        refine y_iload_n (pc2 := 56) rfl dX12_load_55 rfl ?_
        obtain ⟨g77, hf⟩ := y_g hf
        refine y_iald (pc2 := 57) rfl dX12_load_56 g77.1 (y_ix_in g77.2) ?_
        refine y_iconst (v := 1) (pc2 := 58) rfl dX12_load_57 (by decide) ?_
        refine y_icmp_eq (tgt := 68) (pc2 := 61) rfl dX12_load_58 (by decide) (fun c76 => ?_) (fun c76 => ?_)
        · replace hf := y_it c76 hf
          refine y_aload_n (x := p0) (pc2 := 69) rfl dX12_load_68 rfl ?_
          obtain ⟨g71, hf⟩ := y_g hf
          refine y_getP (pc2 := 72) rfl dX12_load_69 F_BoxYardModel_89 (by decide) rfl g71 ?_
          refine y_iload_n (pc2 := 73) rfl dX12_load_72 rfl ?_
          obtain ⟨g70, hf⟩ := y_g hf
          refine y_iald (pc2 := 74) rfl dX12_load_73 g70.1 (y_ix_in g70.2) ?_
          refine y_istore_n (lv' := [(2, .int (y_I h8 (y_P h8 p0 29) (Int32.toNatClampNeg p1))), (0, y_p p0), (1, .int p1)]) (pc2 := 75) rfl dX12_load_74 (by decide) rfl ?_
          refine y_aload_n (x := p0) (pc2 := 76) rfl dX12_load_75 rfl ?_
          obtain ⟨g69, hf⟩ := y_g hf
          refine y_getP (pc2 := 79) rfl dX12_load_76 F_BoxYardModel_41 (by decide) rfl g69 ?_
          refine y_iload_n (pc2 := 80) rfl dX12_load_79 rfl ?_
          obtain ⟨g68, hf⟩ := y_g hf
          refine y_iald (pc2 := 81) rfl dX12_load_80 g68.1 (y_ix_in g68.2) ?_
          refine y_bipush (v := (-9 : Int32)) (pc2 := 83) rfl dX12_load_81 (by decide) ?_
          refine y_icmp_ne (tgt := 93) (pc2 := 86) rfl dX12_load_83 (by decide) (fun c67 => ?_) (fun c67 => ?_)
          · replace hf := y_ie c67 hf
            refine y_aload_n (x := p0) (pc2 := 94) rfl dX12_load_93 rfl ?_
            obtain ⟨g62, hf⟩ := y_g hf
            refine y_getP (pc2 := 97) rfl dX12_load_94 F_BoxYardModel_86 (by decide) rfl g62 ?_
            refine y_iload_n (pc2 := 98) rfl dX12_load_97 rfl ?_
            obtain ⟨g61, hf⟩ := y_g hf
            refine y_iald (pc2 := 99) rfl dX12_load_98 g61.1 (y_ix_in g61.2) ?_
            refine y_aload_n (x := p0) (pc2 := 100) rfl dX12_load_99 rfl ?_
            obtain ⟨g60, hf⟩ := y_g hf
            refine y_getP (pc2 := 103) rfl dX12_load_100 F_BoxYardModel_110 (by decide) rfl g60 ?_
            refine y_aload_n (x := p0) (pc2 := 104) rfl dX12_load_103 rfl ?_
            obtain ⟨g59, hf⟩ := y_g hf
            refine y_getP (pc2 := 107) rfl dX12_load_104 F_BoxYardModel_41 (by decide) rfl g59 ?_
            refine y_iload_n (pc2 := 108) rfl dX12_load_107 rfl ?_
            obtain ⟨g58, hf⟩ := y_g hf
            refine y_iald (pc2 := 109) rfl dX12_load_108 g58.1 (y_ix_in g58.2) ?_
            obtain ⟨g57, hf⟩ := y_g hf
            refine y_iald (pc2 := 110) rfl dX12_load_109 g57.1 (y_ix_in g57.2) ?_
            refine y_icmp_eq (tgt := 121) (pc2 := 113) rfl dX12_load_110 (by decide) (fun c56 => ?_) (fun c56 => ?_)
            · replace hf := y_it c56 hf
              refine y_aload_n (x := p0) (pc2 := 122) rfl dX12_load_121 rfl ?_
              refine y_iload_n (pc2 := 123) rfl dX12_load_122 rfl ?_
              obtain ⟨g51, hf⟩ := y_g hf
              obtain ⟨r10, h11, c12, hf⟩ := y_clE hf
              refine y_callV (As := [.int (y_I h8 (y_P h8 p0 29) (Int32.toNatClampNeg p1))]) (rm := rm_X12_fits) (cells := 0) (slots := 0) (pc2 := 126) rfl dX12_load_123 n_X12_fits l_BoxYardModel_408 i_X12_fits e_X12_fits (ci := 12) rfl rfl (by decide) g51 rfl rfl (by decide) (by decide) (by decide) (k_X12_fits c12) ?_
              refine y_istore_n (lv' := [(3, .int r10), (2, .int (y_I h8 (y_P h8 p0 29) (Int32.toNatClampNeg p1))), (0, y_p p0), (1, .int p1)]) (pc2 := 127) rfl dX12_load_126 (by decide) rfl ?_
              refine y_iload_n (pc2 := 128) rfl dX12_load_127 rfl ?_
              refine y_bipush (v := 62) (pc2 := 130) rfl dX12_load_128 (by decide) ?_
              refine y_icmp_ne (tgt := 140) (pc2 := 133) rfl dX12_load_130 (by decide) (fun c50 => ?_) (fun c50 => ?_)
              · replace hf := y_ie c50 hf
                refine y_iload_n (pc2 := 141) rfl dX12_load_140 rfl ?_
                refine y_if_le (tgt := 151) (pc2 := 144) rfl dX12_load_141 (by decide) (fun c45 => ?_) (fun c45 => ?_)
                · replace hf := y_it c45 hf
                  refine y_aload_n (x := p0) (pc2 := 152) rfl dX12_load_151 rfl ?_
                  refine y_iload_n (pc2 := 153) rfl dX12_load_152 rfl ?_
                  refine y_iload_n (pc2 := 154) rfl dX12_load_153 rfl ?_
                  refine y_aload_n (x := p0) (pc2 := 155) rfl dX12_load_154 rfl ?_
                  obtain ⟨g40, hf⟩ := y_g hf
                  refine y_getP (pc2 := 158) rfl dX12_load_155 F_BoxYardModel_41 (by decide) rfl g40 ?_
                  refine y_iload_n (pc2 := 159) rfl dX12_load_158 rfl ?_
                  obtain ⟨g39, hf⟩ := y_g hf
                  refine y_iald (pc2 := 160) rfl dX12_load_159 g39.1 (y_ix_in g39.2) ?_
                  obtain ⟨g38, hf⟩ := y_g hf
                  obtain ⟨r_, h13, c14, hf⟩ := y_clE hf
                  refine y_callV (As := [.int p1, .int (y_I h8 (y_P h8 p0 29) (Int32.toNatClampNeg p1)), .int (y_I h11 (y_P h11 p0 11) (Int32.toNatClampNeg (y_I h8 (y_P h8 p0 29) (Int32.toNatClampNeg p1))))]) (rm := rm_X12_keep) (cells := 0) (slots := 0) (pc2 := 163) rfl dX12_load_160 n_X12_keep l_BoxYardModel_355 i_X12_keep e_X12_keep (ci := 12) rfl rfl (by decide) g38 rfl rfl (by decide) (by decide) (by decide) (k_X12_keep c14) ?_
                  refine y_aload_n (x := p0) (pc2 := 164) rfl dX12_load_163 rfl ?_
                  refine y_iload_n (pc2 := 165) rfl dX12_load_164 rfl ?_
                  obtain ⟨g37, hf⟩ := y_g hf
                  obtain ⟨r15, h16, c17, hf⟩ := y_clE hf
                  refine y_callV (As := [.int (y_I h8 (y_P h8 p0 29) (Int32.toNatClampNeg p1))]) (rm := rm_X12_linked) (cells := 0) (slots := 0) (pc2 := 168) rfl dX12_load_165 n_X12_linked l_BoxYardModel_411 i_X12_linked e_X12_linked (ci := 12) rfl rfl (by decide) g37 rfl rfl (by decide) (by decide) (by decide) (k_X12_linked c17) ?_
                  refine y_istore (lv' := [(4, .int r15), (3, .int r10), (2, .int (y_I h8 (y_P h8 p0 29) (Int32.toNatClampNeg p1))), (0, y_p p0), (1, .int p1)]) (pc2 := 170) rfl dX12_load_168 (by decide) rfl ?_
                  refine y_aload_n (x := p0) (pc2 := 171) rfl dX12_load_170 rfl ?_
                  obtain ⟨g36, hf⟩ := y_g hf
                  refine y_getP (pc2 := 174) rfl dX12_load_171 F_BoxYardModel_113 (by decide) rfl g36 ?_
                  refine y_bipush (v := 54) (pc2 := 176) rfl dX12_load_174 (by decide) ?_
                  refine y_aload_n (x := p0) (pc2 := 177) rfl dX12_load_176 rfl ?_
                  obtain ⟨g35, hf⟩ := y_g hf
                  refine y_getP (pc2 := 180) rfl dX12_load_177 F_BoxYardModel_41 (by decide) rfl g35 ?_
                  refine y_iload_n (pc2 := 181) rfl dX12_load_180 rfl ?_
                  obtain ⟨g34, hf⟩ := y_g hf
                  refine y_iald (pc2 := 182) rfl dX12_load_181 g34.1 (y_ix_in g34.2) ?_
                  refine y_imul (pc2 := 183) rfl dX12_load_182 ?_
                  refine y_iload (pc2 := 185) rfl dX12_load_183 rfl ?_
                  refine y_iadd (pc2 := 186) rfl dX12_load_185 ?_
                  refine y_iload_n (pc2 := 187) rfl dX12_load_186 rfl ?_
                  obtain ⟨g20, hf⟩ := y_g hf
                  obtain ⟨h18, e19, hf⟩ := y_bdE hf
                  refine y_iast (x := y_I h8 (y_P h8 p0 29) (Int32.toNatClampNeg p1)) (pc2 := 188) rfl dX12_load_187 g20.1 (y_ix_in g20.2) e19 ?_
                  refine y_aload_n (x := p0) (pc2 := 189) rfl dX12_load_188 rfl ?_
                  refine y_iload_n (pc2 := 190) rfl dX12_load_189 rfl ?_
                  refine y_iconst (v := 3) (pc2 := 191) rfl dX12_load_190 (by decide) ?_
                  refine y_aload_n (x := p0) (pc2 := 192) rfl dX12_load_191 rfl ?_
                  obtain ⟨g33, hf⟩ := y_g hf
                  refine y_getP (pc2 := 195) rfl dX12_load_192 F_BoxYardModel_41 (by decide) rfl g33 ?_
                  refine y_iload_n (pc2 := 196) rfl dX12_load_195 rfl ?_
                  obtain ⟨g32, hf⟩ := y_g hf
                  refine y_iald (pc2 := 197) rfl dX12_load_196 g32.1 (y_ix_in g32.2) ?_
                  refine y_iload (pc2 := 199) rfl dX12_load_197 rfl ?_
                  refine y_iconst (v := 0) (pc2 := 200) rfl dX12_load_199 (by decide) ?_
                  obtain ⟨g31, hf⟩ := y_g hf
                  obtain ⟨r_, h21, c22, hf⟩ := y_clE hf
                  refine y_callV (As := [.int (y_I h8 (y_P h8 p0 29) (Int32.toNatClampNeg p1)), .int 3, .int (y_I h18 (y_P h18 p0 11) (Int32.toNatClampNeg (y_I h8 (y_P h8 p0 29) (Int32.toNatClampNeg p1)))), .int r15, .int 0]) (rm := rm_X12_put) (cells := 0) (slots := 0) (pc2 := 203) rfl dX12_load_200 n_X12_put l_BoxYardModel_294 i_X12_put e_X12_put (ci := 12) rfl rfl (by decide) g31 rfl rfl (by decide) (by decide) (by decide) (k_X12_put c22) ?_
                  refine y_aload_n (x := p0) (pc2 := 204) rfl dX12_load_203 rfl ?_
                  obtain ⟨g30, hf⟩ := y_g hf
                  refine y_getP (pc2 := 207) rfl dX12_load_204 F_BoxYardModel_89 (by decide) rfl g30 ?_
                  refine y_iload_n (pc2 := 208) rfl dX12_load_207 rfl ?_
                  refine y_iconst (v := (-1 : Int32)) (pc2 := 209) rfl dX12_load_208 (by decide) ?_
                  obtain ⟨g25, hf⟩ := y_g hf
                  obtain ⟨h23, e24, hf⟩ := y_bdE hf
                  refine y_iast (x := (-1 : Int32)) (pc2 := 210) rfl dX12_load_209 g25.1 (y_ix_in g25.2) e24 ?_
                  refine y_aload_n (x := p0) (pc2 := 211) rfl dX12_load_210 rfl ?_
                  obtain ⟨g29, hf⟩ := y_g hf
                  obtain ⟨r26, h27, c28, hf⟩ := y_clE hf
                  refine y_callV (As := []) (rm := rm_X12_done) (cells := 0) (slots := 0) (pc2 := 214) rfl dX12_load_211 n_X12_done l_BoxYardModel_359 i_X12_done e_X12_done (ci := 12) rfl rfl (by decide) g29 rfl rfl (by decide) (by decide) (by decide) (k_X12_done c28) ?_
                  exact y_iretF hf dX12_load_214 rfl (by decide) (by decide)
                · replace hf := y_ie c45 hf
                  refine y_aload_n (x := p0) (pc2 := 145) rfl dX12_load_144 rfl ?_
                  refine y_iload_n (pc2 := 146) rfl dX12_load_145 rfl ?_
                  refine y_iload_n (pc2 := 147) rfl dX12_load_146 rfl ?_
                  obtain ⟨g44, hf⟩ := y_g hf
                  obtain ⟨r41, h42, c43, hf⟩ := y_clE hf
                  refine y_callV (As := [.int p1, .int r10]) (rm := rm_X12_breaks) (cells := 0) (slots := 0) (pc2 := 150) rfl dX12_load_147 n_X12_breaks l_BoxYardModel_351 i_X12_breaks e_X12_breaks (ci := 12) rfl rfl (by decide) g44 rfl rfl (by decide) (by decide) (by decide) (k_X12_breaks c43) ?_
                  exact y_iretF hf dX12_load_150 rfl (by decide) (by decide)
              · replace hf := y_it c50 hf
                refine y_aload_n (x := p0) (pc2 := 134) rfl dX12_load_133 rfl ?_
                refine y_iload_n (pc2 := 135) rfl dX12_load_134 rfl ?_
                refine y_iconst (v := 2) (pc2 := 136) rfl dX12_load_135 (by decide) ?_
                obtain ⟨g49, hf⟩ := y_g hf
                obtain ⟨r46, h47, c48, hf⟩ := y_clE hf
                refine y_callV (As := [.int p1, .int 2]) (rm := rm_X12_meets) (cells := 0) (slots := 0) (pc2 := 139) rfl dX12_load_136 n_X12_meets l_BoxYardModel_366 i_X12_meets e_X12_meets (ci := 12) rfl rfl (by decide) g49 rfl rfl (by decide) (by decide) (by decide) (k_X12_meets c48) ?_
                exact y_iretF hf dX12_load_139 rfl (by decide) (by decide)
            · replace hf := y_ie c56 hf
              refine y_aload_n (x := p0) (pc2 := 114) rfl dX12_load_113 rfl ?_
              refine y_iload_n (pc2 := 115) rfl dX12_load_114 rfl ?_
              refine y_bipush (v := 11) (pc2 := 117) rfl dX12_load_115 (by decide) ?_
              obtain ⟨g55, hf⟩ := y_g hf
              obtain ⟨r52, h53, c54, hf⟩ := y_clE hf
              refine y_callV (As := [.int p1, .int 11]) (rm := rm_X12_breaks) (cells := 0) (slots := 0) (pc2 := 120) rfl dX12_load_117 n_X12_breaks l_BoxYardModel_351 i_X12_breaks e_X12_breaks (ci := 12) rfl rfl (by decide) g55 rfl rfl (by decide) (by decide) (by decide) (k_X12_breaks c54) ?_
              exact y_iretF hf dX12_load_120 rfl (by decide) (by decide)
          · replace hf := y_it c67 hf
            refine y_aload_n (x := p0) (pc2 := 87) rfl dX12_load_86 rfl ?_
            refine y_iload_n (pc2 := 88) rfl dX12_load_87 rfl ?_
            refine y_iconst (v := 3) (pc2 := 89) rfl dX12_load_88 (by decide) ?_
            obtain ⟨g66, hf⟩ := y_g hf
            obtain ⟨r63, h64, c65, hf⟩ := y_clE hf
            refine y_callV (As := [.int p1, .int 3]) (rm := rm_X12_meets) (cells := 0) (slots := 0) (pc2 := 92) rfl dX12_load_89 n_X12_meets l_BoxYardModel_366 i_X12_meets e_X12_meets (ci := 12) rfl rfl (by decide) g66 rfl rfl (by decide) (by decide) (by decide) (k_X12_meets c65) ?_
            exact y_iretF hf dX12_load_92 rfl (by decide) (by decide)
        · replace hf := y_ie c76 hf
          refine y_aload_n (x := p0) (pc2 := 62) rfl dX12_load_61 rfl ?_
          refine y_iload_n (pc2 := 63) rfl dX12_load_62 rfl ?_
          refine y_iconst (v := 5) (pc2 := 64) rfl dX12_load_63 (by decide) ?_
          obtain ⟨g75, hf⟩ := y_g hf
          obtain ⟨r72, h73, c74, hf⟩ := y_clE hf
          refine y_callV (As := [.int p1, .int 5]) (rm := rm_X12_meets) (cells := 0) (slots := 0) (pc2 := 67) rfl dX12_load_64 n_X12_meets l_BoxYardModel_366 i_X12_meets e_X12_meets (ci := 12) rfl rfl (by decide) g75 rfl rfl (by decide) (by decide) (by decide) (k_X12_meets c74) ?_
          exact y_iretF hf dX12_load_67 rfl (by decide) (by decide)
      · replace hf := y_it c83 hf
        refine y_aload_n (x := p0) (pc2 := 44) rfl dX12_load_43 rfl ?_
        refine y_iload_n (pc2 := 45) rfl dX12_load_44 rfl ?_
        refine y_bipush (v := 6) (pc2 := 47) rfl dX12_load_45 (by decide) ?_
        obtain ⟨g82, hf⟩ := y_g hf
        obtain ⟨r79, h80, c81, hf⟩ := y_clE hf
        refine y_callV (As := [.int p1, .int 6]) (rm := rm_X12_breaks) (cells := 0) (slots := 0) (pc2 := 50) rfl dX12_load_47 n_X12_breaks l_BoxYardModel_351 i_X12_breaks e_X12_breaks (ci := 12) rfl rfl (by decide) g82 rfl rfl (by decide) (by decide) (by decide) (k_X12_breaks c81) ?_
        exact y_iretF hf dX12_load_50 rfl (by decide) (by decide)
    · replace hf := y_ie c89 hf
      refine y_aload_n (x := p0) (pc2 := 29) rfl dX12_load_28 rfl ?_
      refine y_bipush (v := (-3 : Int32)) (pc2 := 31) rfl dX12_load_29 (by decide) ?_
      obtain ⟨g88, hf⟩ := y_g hf
      obtain ⟨r85, h86, c87, hf⟩ := y_clE hf
      refine y_callV (As := [.int (-3 : Int32)]) (rm := rm_X12_refused) (cells := 0) (slots := 0) (pc2 := 34) rfl dX12_load_31 n_X12_refused l_BoxYardModel_345 i_X12_refused e_X12_refused (ci := 12) rfl rfl (by decide) g88 rfl rfl (by decide) (by decide) (by decide) (k_X12_refused c87) ?_
      exact y_iretF hf dX12_load_34 rfl (by decide) (by decide)
  · replace hf := y_ie c96 hf
    refine y_aload_n (x := p0) (pc2 := 14) rfl dX12_load_13 rfl ?_
    refine y_iconst (v := (-1 : Int32)) (pc2 := 15) rfl dX12_load_14 (by decide) ?_
    obtain ⟨g95, hf⟩ := y_g hf
    obtain ⟨r92, h93, c94, hf⟩ := y_clE hf
    refine y_callV (As := [.int (-1 : Int32)]) (rm := rm_X12_refused) (cells := 0) (slots := 0) (pc2 := 18) rfl dX12_load_15 n_X12_refused l_BoxYardModel_345 i_X12_refused e_X12_refused (ci := 12) rfl rfl (by decide) g95 rfl rfl (by decide) (by decide) (by decide) (k_X12_refused c94) ?_
    exact y_iretF hf dX12_load_18 rfl (by decide) (by decide)
theorem dX12_portAt_0 : decode cX12_portAt 0 = .ok (.bipush (-9), 2) := by decide +kernel
theorem dX12_portAt_2 : decode cX12_portAt 2 = .ok (.istore_n 3, 1) := by decide +kernel
theorem dX12_portAt_3 : decode cX12_portAt 3 = .ok (.iconst 0, 1) := by decide +kernel
theorem dX12_portAt_4 : decode cX12_portAt 4 = .ok (.istore 4, 2) := by decide +kernel
theorem dX12_portAt_6 : decode cX12_portAt 6 = .ok (.iload 4, 2) := by decide +kernel
theorem dX12_portAt_8 : decode cX12_portAt 8 = .ok (.aload_n 0, 1) := by decide +kernel
theorem dX12_portAt_9 : decode cX12_portAt 9 = .ok (.getfield 122, 3) := by decide +kernel
theorem dX12_portAt_12 : decode cX12_portAt 12 = .ok (.iload_n 1, 1) := by decide +kernel
theorem dX12_portAt_13 : decode cX12_portAt 13 = .ok (.iaload, 1) := by decide +kernel
theorem dX12_portAt_14 : decode cX12_portAt 14 = .ok (.if_icmp .ge 32, 3) := by decide +kernel
theorem dX12_portAt_17 : decode cX12_portAt 17 = .ok (.aload_n 0, 1) := by decide +kernel
theorem dX12_portAt_18 : decode cX12_portAt 18 = .ok (.getfield 119, 3) := by decide +kernel
theorem dX12_portAt_21 : decode cX12_portAt 21 = .ok (.bipush 8, 2) := by decide +kernel
theorem dX12_portAt_23 : decode cX12_portAt 23 = .ok (.iload_n 1, 1) := by decide +kernel
theorem dX12_portAt_24 : decode cX12_portAt 24 = .ok (.imul, 1) := by decide +kernel
theorem dX12_portAt_25 : decode cX12_portAt 25 = .ok (.iload 4, 2) := by decide +kernel
theorem dX12_portAt_27 : decode cX12_portAt 27 = .ok (.iadd, 1) := by decide +kernel
theorem dX12_portAt_28 : decode cX12_portAt 28 = .ok (.iaload, 1) := by decide +kernel
theorem dX12_portAt_29 : decode cX12_portAt 29 = .ok (.iload_n 2, 1) := by decide +kernel
theorem dX12_portAt_30 : decode cX12_portAt 30 = .ok (.if_icmp .ne 8, 3) := by decide +kernel
theorem dX12_portAt_33 : decode cX12_portAt 33 = .ok (.iload 4, 2) := by decide +kernel
theorem dX12_portAt_35 : decode cX12_portAt 35 = .ok (.goto 4, 3) := by decide +kernel
theorem dX12_portAt_38 : decode cX12_portAt 38 = .ok (.iload_n 3, 1) := by decide +kernel
theorem dX12_portAt_39 : decode cX12_portAt 39 = .ok (.istore_n 3, 1) := by decide +kernel
theorem dX12_portAt_40 : decode cX12_portAt 40 = .ok (.iinc 4 1, 3) := by decide +kernel
theorem dX12_portAt_43 : decode cX12_portAt 43 = .ok (.goto (-37), 3) := by decide +kernel
theorem dX12_portAt_46 : decode cX12_portAt 46 = .ok (.iload_n 3, 1) := by decide +kernel
theorem dX12_portAt_47 : decode cX12_portAt 47 = .ok (.ireturn, 1) := by decide +kernel
def M_X12_portAt : y_M := (yX12_portAt, cX12_portAt, 5, (Option.some Jvm.ClassFile.FieldType.int))
theorem n_X12_portAt : y_N0 M_X12_portAt 2 := ⟨(c_9 177 (by decide +kernel) rfl), (c_1 9 (by decide +kernel) rfl), ⟨by decide +kernel, by decide +kernel⟩, by decide +kernel⟩
theorem F_BoxYardModel_122 : y_F "BoxYardModel" 122 12 42 := ⟨_, _, _, rfl, by decide, Or.inl (c_7 164 (by decide +kernel) rfl)⟩
theorem F_BoxYardModel_119 : y_F "BoxYardModel" 119 12 41 := ⟨_, _, _, rfl, by decide, Or.inl (c_7 163 (by decide +kernel) rfl)⟩
set_option maxRecDepth 100000 in
def f_X12_portAt (p0 : Nat) (p1 : Int32) (p2 : Int32) (h : y_H) : Option (Int32 × y_H) :=
  y_jl (fun (_ : Nat) (_ : Int32) (_ : Int32) (_ : Int32) (_ : Int32) (_ : y_H) => (none : Option (Int32 × y_H))) (fun j6 (v0_6 : Nat) (v1_6 : Int32) (v2_6 : Int32) (v3_6 : Int32) (v4_6 : Int32) (h1 : y_H) =>
      if y_K h1 v0_6 = 13 then
      if y_K h1 (y_P h1 v0_6 42) = 100 ∧ y_ix v1_6 (y_N h1 (y_P h1 v0_6 42)) = true then
      if (y_I h1 (y_P h1 v0_6 42) (Int32.toNatClampNeg v1_6)) ≤ v4_6 then
        some (v3_6, h1)
      else
        if y_K h1 v0_6 = 13 then
        if y_K h1 (y_P h1 v0_6 41) = 100 ∧ y_ix ((8 * v1_6) + v4_6) (y_N h1 (y_P h1 v0_6 41)) = true then
        if (y_I h1 (y_P h1 v0_6 41) (Int32.toNatClampNeg ((8 * v1_6) + v4_6))) = v2_6 then
          j6 v0_6 v1_6 v2_6 v4_6 (v4_6 + 1) h1
        else
          j6 v0_6 v1_6 v2_6 v3_6 (v4_6 + 1) h1
        else none
        else none
      else none
      else none) (fun j6 =>
  j6 p0 p1 p2 (-9 : Int32) 0 h)
abbrev rm_X12_portAt : Room := { frames := 0, cells := 0, slots := 0, locals := 0 }
set_option maxRecDepth 100000 in
set_option maxHeartbeats 4000000 in
theorem k_X12_portAt {l : Launch} {G : y_G} {p0 : Nat} {p1 : Int32} {p2 : Int32} {h hz : y_H} {rz : Int32} (hf : f_X12_portAt p0 p1 p2 h = some (rz, hz)) : y_S l G M_X12_portAt rm_X12_portAt [y_p p0, .int p1, .int p2] h (some (.int rz)) hz := by
  refine y_start (lv := [(0, y_p p0), (1, .int p1), (2, .int p2)]) (by decide) (by simp [lg_sl, y_p_cat, y_ci, y_cj, M_X12_portAt]) (by simp [lv_args, y_p_cat, y_ci, y_cj]) (fun z ad0 => ?_)
  unfold f_X12_portAt at hf
  refine y_bipush (v := (-9 : Int32)) (pc2 := 2) rfl dX12_portAt_0 (by decide) ?_
  refine y_istore_n (lv' := [(3, .int (-9 : Int32)), (0, y_p p0), (1, .int p1), (2, .int p2)]) (pc2 := 3) rfl dX12_portAt_2 (by decide) rfl ?_
  refine y_iconst (v := 0) (pc2 := 4) rfl dX12_portAt_3 (by decide) ?_
  refine y_jlE hf (fun j => ∀ (v0_6 : Nat) (v1_6 : Int32) (v2_6 : Int32) (v3_6 : Int32) (v4_6 : Int32) (h1 : y_H), j v0_6 v1_6 v2_6 v3_6 v4_6 h1 = some (rz, hz) → y_V l G z rm_X12_portAt M_X12_portAt ad0 h (some (.int rz)) hz 6 [(0, y_p v0_6), (1, .int v1_6), (2, .int v2_6), (3, .int v3_6), (4, .int v4_6)] [] h1 0 0) (fun _ _ _ _ _ _ hf => by cases hf) (fun j6 hj6 v0_6 v1_6 v2_6 v3_6 v4_6 h1 hf => ?_) (fun j6 hj6 hf => ?_)
  · refine y_iload (pc2 := 8) rfl dX12_portAt_6 rfl ?_
    refine y_aload_n (x := v0_6) (pc2 := 9) rfl dX12_portAt_8 rfl ?_
    obtain ⟨g7, hf⟩ := y_g hf
    refine y_getP (pc2 := 12) rfl dX12_portAt_9 F_BoxYardModel_122 (by decide) rfl g7 ?_
    refine y_iload_n (pc2 := 13) rfl dX12_portAt_12 rfl ?_
    obtain ⟨g6, hf⟩ := y_g hf
    refine y_iald (pc2 := 14) rfl dX12_portAt_13 g6.1 (y_ix_in g6.2) ?_
    refine y_icmp_ge (tgt := 46) (pc2 := 17) rfl dX12_portAt_14 (by decide) (fun c5 => ?_) (fun c5 => ?_)
    · replace hf := y_it c5 hf
      refine y_iload_n (pc2 := 47) rfl dX12_portAt_46 rfl ?_
      exact y_iretF hf dX12_portAt_47 rfl (by decide) (by decide)
    · replace hf := y_ie c5 hf
      refine y_aload_n (x := v0_6) (pc2 := 18) rfl dX12_portAt_17 rfl ?_
      obtain ⟨g4, hf⟩ := y_g hf
      refine y_getP (pc2 := 21) rfl dX12_portAt_18 F_BoxYardModel_119 (by decide) rfl g4 ?_
      refine y_bipush (v := 8) (pc2 := 23) rfl dX12_portAt_21 (by decide) ?_
      refine y_iload_n (pc2 := 24) rfl dX12_portAt_23 rfl ?_
      refine y_imul (pc2 := 25) rfl dX12_portAt_24 ?_
      refine y_iload (pc2 := 27) rfl dX12_portAt_25 rfl ?_
      refine y_iadd (pc2 := 28) rfl dX12_portAt_27 ?_
      obtain ⟨g3, hf⟩ := y_g hf
      refine y_iald (pc2 := 29) rfl dX12_portAt_28 g3.1 (y_ix_in g3.2) ?_
      refine y_iload_n (pc2 := 30) rfl dX12_portAt_29 rfl ?_
      refine y_icmp_ne (tgt := 38) (pc2 := 33) rfl dX12_portAt_30 (by decide) (fun c2 => ?_) (fun c2 => ?_)
      · replace hf := y_ie c2 hf
        refine y_iload_n (pc2 := 39) rfl dX12_portAt_38 rfl ?_
        refine y_istore_n (lv' := [(3, .int v3_6), (0, y_p v0_6), (1, .int v1_6), (2, .int v2_6), (4, .int v4_6)]) (pc2 := 40) rfl dX12_portAt_39 (by decide) rfl ?_
        refine y_iinc (v := v4_6 + 1) (lv' := [(4, .int (v4_6 + 1)), (3, .int v3_6), (0, y_p v0_6), (1, .int v1_6), (2, .int v2_6)]) (pc2 := 43) rfl dX12_portAt_40 rfl rfl (by decide) rfl ?_
        refine y_goto (tgt := 6) dX12_portAt_43 (by decide) ?_
        exact y_pk [2, 3, 4, 1, 0] rfl (hj6 _ _ _ _ _ _ hf)
      · replace hf := y_it c2 hf
        refine y_iload (pc2 := 35) rfl dX12_portAt_33 rfl ?_
        refine y_goto (tgt := 39) dX12_portAt_35 (by decide) ?_
        refine y_istore_n (lv' := [(3, .int v4_6), (0, y_p v0_6), (1, .int v1_6), (2, .int v2_6), (4, .int v4_6)]) (pc2 := 40) rfl dX12_portAt_39 (by decide) rfl ?_
        refine y_iinc (v := v4_6 + 1) (lv' := [(4, .int (v4_6 + 1)), (3, .int v4_6), (0, y_p v0_6), (1, .int v1_6), (2, .int v2_6)]) (pc2 := 43) rfl dX12_portAt_40 rfl rfl (by decide) rfl ?_
        refine y_goto (tgt := 6) dX12_portAt_43 (by decide) ?_
        exact y_pk [2, 3, 4, 1, 0] rfl (hj6 _ _ _ _ _ _ hf)
  · refine y_istore (lv' := [(4, .int 0), (3, .int (-9 : Int32)), (0, y_p p0), (1, .int p1), (2, .int p2)]) (pc2 := 6) rfl dX12_portAt_4 (by decide) rfl ?_
    exact y_pk [2, 3, 4, 1, 0] rfl (hj6 _ _ _ _ _ _ hf)
theorem dX12_fetch_0 : decode cX12_fetch 0 = .ok (.aload_n 0, 1) := by decide +kernel
theorem dX12_fetch_1 : decode cX12_fetch 1 = .ok (.iconst 0, 1) := by decide +kernel
theorem dX12_fetch_2 : decode cX12_fetch 2 = .ok (.putfield 249, 3) := by decide +kernel
theorem dX12_fetch_5 : decode cX12_fetch 5 = .ok (.aload_n 0, 1) := by decide +kernel
theorem dX12_fetch_6 : decode cX12_fetch 6 = .ok (.iload_n 1, 1) := by decide +kernel
theorem dX12_fetch_7 : decode cX12_fetch 7 = .ok (.invokevirtual 329, 3) := by decide +kernel
theorem dX12_fetch_10 : decode cX12_fetch 10 = .ok (.ifCond .eq 11, 3) := by decide +kernel
theorem dX12_fetch_13 : decode cX12_fetch 13 = .ok (.aload_n 0, 1) := by decide +kernel
theorem dX12_fetch_14 : decode cX12_fetch 14 = .ok (.iload_n 2, 1) := by decide +kernel
theorem dX12_fetch_15 : decode cX12_fetch 15 = .ok (.invokevirtual 414, 3) := by decide +kernel
theorem dX12_fetch_18 : decode cX12_fetch 18 = .ok (.ifCond .ne 9, 3) := by decide +kernel
theorem dX12_fetch_21 : decode cX12_fetch 21 = .ok (.aload_n 0, 1) := by decide +kernel
theorem dX12_fetch_22 : decode cX12_fetch 22 = .ok (.iconst (-1), 1) := by decide +kernel
theorem dX12_fetch_23 : decode cX12_fetch 23 = .ok (.invokevirtual 345, 3) := by decide +kernel
theorem dX12_fetch_26 : decode cX12_fetch 26 = .ok (.ireturn, 1) := by decide +kernel
theorem dX12_fetch_27 : decode cX12_fetch 27 = .ok (.aload_n 0, 1) := by decide +kernel
theorem dX12_fetch_28 : decode cX12_fetch 28 = .ok (.getfield 89, 3) := by decide +kernel
theorem dX12_fetch_31 : decode cX12_fetch 31 = .ok (.iload_n 1, 1) := by decide +kernel
theorem dX12_fetch_32 : decode cX12_fetch 32 = .ok (.iaload, 1) := by decide +kernel
theorem dX12_fetch_33 : decode cX12_fetch 33 = .ok (.ifCond .lt 10, 3) := by decide +kernel
theorem dX12_fetch_36 : decode cX12_fetch 36 = .ok (.aload_n 0, 1) := by decide +kernel
theorem dX12_fetch_37 : decode cX12_fetch 37 = .ok (.bipush (-3), 2) := by decide +kernel
theorem dX12_fetch_39 : decode cX12_fetch 39 = .ok (.invokevirtual 345, 3) := by decide +kernel
theorem dX12_fetch_42 : decode cX12_fetch 42 = .ok (.ireturn, 1) := by decide +kernel
theorem dX12_fetch_43 : decode cX12_fetch 43 = .ok (.aload_n 0, 1) := by decide +kernel
theorem dX12_fetch_44 : decode cX12_fetch 44 = .ok (.iload_n 1, 1) := by decide +kernel
theorem dX12_fetch_45 : decode cX12_fetch 45 = .ok (.invokevirtual 348, 3) := by decide +kernel
theorem dX12_fetch_48 : decode cX12_fetch 48 = .ok (.ifCond .eq 11, 3) := by decide +kernel
theorem dX12_fetch_51 : decode cX12_fetch 51 = .ok (.aload_n 0, 1) := by decide +kernel
theorem dX12_fetch_52 : decode cX12_fetch 52 = .ok (.iload_n 1, 1) := by decide +kernel
theorem dX12_fetch_53 : decode cX12_fetch 53 = .ok (.bipush 6, 2) := by decide +kernel
theorem dX12_fetch_55 : decode cX12_fetch 55 = .ok (.invokevirtual 351, 3) := by decide +kernel
theorem dX12_fetch_58 : decode cX12_fetch 58 = .ok (.ireturn, 1) := by decide +kernel
theorem dX12_fetch_59 : decode cX12_fetch 59 = .ok (.aload_n 0, 1) := by decide +kernel
theorem dX12_fetch_60 : decode cX12_fetch 60 = .ok (.getfield 80, 3) := by decide +kernel
theorem dX12_fetch_63 : decode cX12_fetch 63 = .ok (.iload_n 1, 1) := by decide +kernel
theorem dX12_fetch_64 : decode cX12_fetch 64 = .ok (.iaload, 1) := by decide +kernel
theorem dX12_fetch_65 : decode cX12_fetch 65 = .ok (.iconst 1, 1) := by decide +kernel
theorem dX12_fetch_66 : decode cX12_fetch 66 = .ok (.if_icmp .eq 10, 3) := by decide +kernel
theorem dX12_fetch_69 : decode cX12_fetch 69 = .ok (.aload_n 0, 1) := by decide +kernel
theorem dX12_fetch_70 : decode cX12_fetch 70 = .ok (.iload_n 1, 1) := by decide +kernel
theorem dX12_fetch_71 : decode cX12_fetch 71 = .ok (.iconst 5, 1) := by decide +kernel
theorem dX12_fetch_72 : decode cX12_fetch 72 = .ok (.invokevirtual 366, 3) := by decide +kernel
theorem dX12_fetch_75 : decode cX12_fetch 75 = .ok (.ireturn, 1) := by decide +kernel
theorem dX12_fetch_76 : decode cX12_fetch 76 = .ok (.aload_n 0, 1) := by decide +kernel
theorem dX12_fetch_77 : decode cX12_fetch 77 = .ok (.getfield 86, 3) := by decide +kernel
theorem dX12_fetch_80 : decode cX12_fetch 80 = .ok (.iload_n 1, 1) := by decide +kernel
theorem dX12_fetch_81 : decode cX12_fetch 81 = .ok (.iaload, 1) := by decide +kernel
theorem dX12_fetch_82 : decode cX12_fetch 82 = .ok (.aload_n 0, 1) := by decide +kernel
theorem dX12_fetch_83 : decode cX12_fetch 83 = .ok (.getfield 110, 3) := by decide +kernel
theorem dX12_fetch_86 : decode cX12_fetch 86 = .ok (.iload_n 2, 1) := by decide +kernel
theorem dX12_fetch_87 : decode cX12_fetch 87 = .ok (.iaload, 1) := by decide +kernel
theorem dX12_fetch_88 : decode cX12_fetch 88 = .ok (.if_icmp .eq 11, 3) := by decide +kernel
theorem dX12_fetch_91 : decode cX12_fetch 91 = .ok (.aload_n 0, 1) := by decide +kernel
theorem dX12_fetch_92 : decode cX12_fetch 92 = .ok (.iload_n 1, 1) := by decide +kernel
theorem dX12_fetch_93 : decode cX12_fetch 93 = .ok (.bipush 11, 2) := by decide +kernel
theorem dX12_fetch_95 : decode cX12_fetch 95 = .ok (.invokevirtual 351, 3) := by decide +kernel
theorem dX12_fetch_98 : decode cX12_fetch 98 = .ok (.ireturn, 1) := by decide +kernel
theorem dX12_fetch_99 : decode cX12_fetch 99 = .ok (.aload_n 0, 1) := by decide +kernel
theorem dX12_fetch_100 : decode cX12_fetch 100 = .ok (.iload_n 2, 1) := by decide +kernel
theorem dX12_fetch_101 : decode cX12_fetch 101 = .ok (.iload_n 3, 1) := by decide +kernel
theorem dX12_fetch_102 : decode cX12_fetch 102 = .ok (.iload 4, 2) := by decide +kernel
theorem dX12_fetch_104 : decode cX12_fetch 104 = .ok (.iconst 0, 1) := by decide +kernel
theorem dX12_fetch_105 : decode cX12_fetch 105 = .ok (.invokevirtual 397, 3) := by decide +kernel
theorem dX12_fetch_108 : decode cX12_fetch 108 = .ok (.ifCond .ne 10, 3) := by decide +kernel
theorem dX12_fetch_111 : decode cX12_fetch 111 = .ok (.aload_n 0, 1) := by decide +kernel
theorem dX12_fetch_112 : decode cX12_fetch 112 = .ok (.iload_n 1, 1) := by decide +kernel
theorem dX12_fetch_113 : decode cX12_fetch 113 = .ok (.iconst 2, 1) := by decide +kernel
theorem dX12_fetch_114 : decode cX12_fetch 114 = .ok (.invokevirtual 366, 3) := by decide +kernel
theorem dX12_fetch_117 : decode cX12_fetch 117 = .ok (.ireturn, 1) := by decide +kernel
theorem dX12_fetch_118 : decode cX12_fetch 118 = .ok (.aload_n 0, 1) := by decide +kernel
theorem dX12_fetch_119 : decode cX12_fetch 119 = .ok (.getfield 107, 3) := by decide +kernel
theorem dX12_fetch_122 : decode cX12_fetch 122 = .ok (.iload_n 2, 1) := by decide +kernel
theorem dX12_fetch_123 : decode cX12_fetch 123 = .ok (.iaload, 1) := by decide +kernel
theorem dX12_fetch_124 : decode cX12_fetch 124 = .ok (.iconst 1, 1) := by decide +kernel
theorem dX12_fetch_125 : decode cX12_fetch 125 = .ok (.isub, 1) := by decide +kernel
theorem dX12_fetch_126 : decode cX12_fetch 126 = .ok (.istore 5, 2) := by decide +kernel
theorem dX12_fetch_128 : decode cX12_fetch 128 = .ok (.iload 5, 2) := by decide +kernel
theorem dX12_fetch_130 : decode cX12_fetch 130 = .ok (.ifCond .lt 32, 3) := by decide +kernel
theorem dX12_fetch_133 : decode cX12_fetch 133 = .ok (.aload_n 0, 1) := by decide +kernel
theorem dX12_fetch_134 : decode cX12_fetch 134 = .ok (.getfield 113, 3) := by decide +kernel
theorem dX12_fetch_137 : decode cX12_fetch 137 = .ok (.bipush 54, 2) := by decide +kernel
theorem dX12_fetch_139 : decode cX12_fetch 139 = .ok (.iload_n 2, 1) := by decide +kernel
theorem dX12_fetch_140 : decode cX12_fetch 140 = .ok (.imul, 1) := by decide +kernel
theorem dX12_fetch_141 : decode cX12_fetch 141 = .ok (.aload_n 0, 1) := by decide +kernel
theorem dX12_fetch_142 : decode cX12_fetch 142 = .ok (.iload_n 2, 1) := by decide +kernel
theorem dX12_fetch_143 : decode cX12_fetch 143 = .ok (.iload_n 3, 1) := by decide +kernel
theorem dX12_fetch_144 : decode cX12_fetch 144 = .ok (.iload 4, 2) := by decide +kernel
theorem dX12_fetch_146 : decode cX12_fetch 146 = .ok (.iload 5, 2) := by decide +kernel
theorem dX12_fetch_148 : decode cX12_fetch 148 = .ok (.invokevirtual 401, 3) := by decide +kernel
theorem dX12_fetch_151 : decode cX12_fetch 151 = .ok (.iadd, 1) := by decide +kernel
theorem dX12_fetch_152 : decode cX12_fetch 152 = .ok (.iaload, 1) := by decide +kernel
theorem dX12_fetch_153 : decode cX12_fetch 153 = .ok (.ifCond .ge 9, 3) := by decide +kernel
theorem dX12_fetch_156 : decode cX12_fetch 156 = .ok (.iinc 5 (-1), 3) := by decide +kernel
theorem dX12_fetch_159 : decode cX12_fetch 159 = .ok (.goto (-31), 3) := by decide +kernel
theorem dX12_fetch_162 : decode cX12_fetch 162 = .ok (.iload 5, 2) := by decide +kernel
theorem dX12_fetch_164 : decode cX12_fetch 164 = .ok (.ifCond .ge 10, 3) := by decide +kernel
theorem dX12_fetch_167 : decode cX12_fetch 167 = .ok (.aload_n 0, 1) := by decide +kernel
theorem dX12_fetch_168 : decode cX12_fetch 168 = .ok (.iload_n 1, 1) := by decide +kernel
theorem dX12_fetch_169 : decode cX12_fetch 169 = .ok (.iconst 3, 1) := by decide +kernel
theorem dX12_fetch_170 : decode cX12_fetch 170 = .ok (.invokevirtual 366, 3) := by decide +kernel
theorem dX12_fetch_173 : decode cX12_fetch 173 = .ok (.ireturn, 1) := by decide +kernel
theorem dX12_fetch_174 : decode cX12_fetch 174 = .ok (.bipush 54, 2) := by decide +kernel
theorem dX12_fetch_176 : decode cX12_fetch 176 = .ok (.iload_n 2, 1) := by decide +kernel
theorem dX12_fetch_177 : decode cX12_fetch 177 = .ok (.imul, 1) := by decide +kernel
theorem dX12_fetch_178 : decode cX12_fetch 178 = .ok (.aload_n 0, 1) := by decide +kernel
theorem dX12_fetch_179 : decode cX12_fetch 179 = .ok (.iload_n 2, 1) := by decide +kernel
theorem dX12_fetch_180 : decode cX12_fetch 180 = .ok (.iload_n 3, 1) := by decide +kernel
theorem dX12_fetch_181 : decode cX12_fetch 181 = .ok (.iload 4, 2) := by decide +kernel
theorem dX12_fetch_183 : decode cX12_fetch 183 = .ok (.iload 5, 2) := by decide +kernel
theorem dX12_fetch_185 : decode cX12_fetch 185 = .ok (.invokevirtual 401, 3) := by decide +kernel
theorem dX12_fetch_188 : decode cX12_fetch 188 = .ok (.iadd, 1) := by decide +kernel
theorem dX12_fetch_189 : decode cX12_fetch 189 = .ok (.istore 6, 2) := by decide +kernel
theorem dX12_fetch_191 : decode cX12_fetch 191 = .ok (.aload_n 0, 1) := by decide +kernel
theorem dX12_fetch_192 : decode cX12_fetch 192 = .ok (.getfield 113, 3) := by decide +kernel
theorem dX12_fetch_195 : decode cX12_fetch 195 = .ok (.iload 6, 2) := by decide +kernel
theorem dX12_fetch_197 : decode cX12_fetch 197 = .ok (.iaload, 1) := by decide +kernel
theorem dX12_fetch_198 : decode cX12_fetch 198 = .ok (.istore 7, 2) := by decide +kernel
theorem dX12_fetch_200 : decode cX12_fetch 200 = .ok (.aload_n 0, 1) := by decide +kernel
theorem dX12_fetch_201 : decode cX12_fetch 201 = .ok (.iload_n 1, 1) := by decide +kernel
theorem dX12_fetch_202 : decode cX12_fetch 202 = .ok (.iload 7, 2) := by decide +kernel
theorem dX12_fetch_204 : decode cX12_fetch 204 = .ok (.iload_n 2, 1) := by decide +kernel
theorem dX12_fetch_205 : decode cX12_fetch 205 = .ok (.invokevirtual 355, 3) := by decide +kernel
theorem dX12_fetch_208 : decode cX12_fetch 208 = .ok (.aload_n 0, 1) := by decide +kernel
theorem dX12_fetch_209 : decode cX12_fetch 209 = .ok (.getfield 113, 3) := by decide +kernel
theorem dX12_fetch_212 : decode cX12_fetch 212 = .ok (.iload 6, 2) := by decide +kernel
theorem dX12_fetch_214 : decode cX12_fetch 214 = .ok (.iconst (-1), 1) := by decide +kernel
theorem dX12_fetch_215 : decode cX12_fetch 215 = .ok (.iastore, 1) := by decide +kernel
theorem dX12_fetch_216 : decode cX12_fetch 216 = .ok (.aload_n 0, 1) := by decide +kernel
theorem dX12_fetch_217 : decode cX12_fetch 217 = .ok (.getfield 128, 3) := by decide +kernel
theorem dX12_fetch_220 : decode cX12_fetch 220 = .ok (.iload_n 2, 1) := by decide +kernel
theorem dX12_fetch_221 : decode cX12_fetch 221 = .ok (.dup2, 1) := by decide +kernel
theorem dX12_fetch_222 : decode cX12_fetch 222 = .ok (.iaload, 1) := by decide +kernel
theorem dX12_fetch_223 : decode cX12_fetch 223 = .ok (.aload_n 0, 1) := by decide +kernel
theorem dX12_fetch_224 : decode cX12_fetch 224 = .ok (.iload_n 2, 1) := by decide +kernel
theorem dX12_fetch_225 : decode cX12_fetch 225 = .ok (.aload_n 0, 1) := by decide +kernel
theorem dX12_fetch_226 : decode cX12_fetch 226 = .ok (.getfield 22, 3) := by decide +kernel
theorem dX12_fetch_229 : decode cX12_fetch 229 = .ok (.iload 7, 2) := by decide +kernel
theorem dX12_fetch_231 : decode cX12_fetch 231 = .ok (.iaload, 1) := by decide +kernel
theorem dX12_fetch_232 : decode cX12_fetch 232 = .ok (.invokevirtual 417, 3) := by decide +kernel
theorem dX12_fetch_235 : decode cX12_fetch 235 = .ok (.aload_n 0, 1) := by decide +kernel
theorem dX12_fetch_236 : decode cX12_fetch 236 = .ok (.getfield 125, 3) := by decide +kernel
theorem dX12_fetch_239 : decode cX12_fetch 239 = .ok (.iload_n 2, 1) := by decide +kernel
theorem dX12_fetch_240 : decode cX12_fetch 240 = .ok (.iaload, 1) := by decide +kernel
theorem dX12_fetch_241 : decode cX12_fetch 241 = .ok (.if_icmp .le 7, 3) := by decide +kernel
theorem dX12_fetch_244 : decode cX12_fetch 244 = .ok (.iconst 1, 1) := by decide +kernel
theorem dX12_fetch_245 : decode cX12_fetch 245 = .ok (.goto 4, 3) := by decide +kernel
theorem dX12_fetch_248 : decode cX12_fetch 248 = .ok (.iconst 0, 1) := by decide +kernel
theorem dX12_fetch_249 : decode cX12_fetch 249 = .ok (.iadd, 1) := by decide +kernel
theorem dX12_fetch_250 : decode cX12_fetch 250 = .ok (.iastore, 1) := by decide +kernel
theorem dX12_fetch_251 : decode cX12_fetch 251 = .ok (.aload_n 0, 1) := by decide +kernel
theorem dX12_fetch_252 : decode cX12_fetch 252 = .ok (.iload_n 1, 1) := by decide +kernel
theorem dX12_fetch_253 : decode cX12_fetch 253 = .ok (.iload 7, 2) := by decide +kernel
theorem dX12_fetch_255 : decode cX12_fetch 255 = .ok (.invokevirtual 362, 3) := by decide +kernel
theorem dX12_fetch_258 : decode cX12_fetch 258 = .ok (.aload_n 0, 1) := by decide +kernel
theorem dX12_fetch_259 : decode cX12_fetch 259 = .ok (.invokevirtual 359, 3) := by decide +kernel
theorem dX12_fetch_262 : decode cX12_fetch 262 = .ok (.ireturn, 1) := by decide +kernel
def M_X12_fetch : y_M := (yX12_fetch, cX12_fetch, 8, (Option.some Jvm.ClassFile.FieldType.int))
theorem n_X12_fetch : y_N0 M_X12_fetch 4 := ⟨(c_9 169 (by decide +kernel) rfl), (c_1 9 (by decide +kernel) rfl), ⟨by decide +kernel, by decide +kernel⟩, by decide +kernel⟩
theorem l_BoxYardModel_414 : y_lnk "BoxYardModel" 414 M_X12_isShip := Or.inl (c_9 170 (by decide +kernel) rfl)
theorem i_X12_isShip : Cond.instanceMethod (M_X12_isShip).1 ∈ y_tb := (c_9 172 (by decide +kernel) rfl)
theorem e_X12_isShip : Cond.selects (M_X12_isShip).1.cls (M_X12_isShip).1 (M_X12_isShip).1 ∈ y_tb := (m_s 95 (by decide +kernel) rfl)
theorem l_BoxYardModel_417 : y_lnk "BoxYardModel" 417 M_X12_portAt := Or.inl (c_9 174 (by decide +kernel) rfl)
theorem i_X12_portAt : Cond.instanceMethod (M_X12_portAt).1 ∈ y_tb := (c_9 176 (by decide +kernel) rfl)
theorem e_X12_portAt : Cond.selects (M_X12_portAt).1.cls (M_X12_portAt).1 (M_X12_portAt).1 ∈ y_tb := (m_s 96 (by decide +kernel) rfl)
set_option maxRecDepth 100000 in
def f_X12_fetch (p0 : Nat) (p1 : Int32) (p2 : Int32) (p3 : Int32) (p4 : Int32) (h : y_H) : Option (Int32 × y_H) :=
  if y_K h p0 = 13 then
  y_bd (s_I h p0 46 0) (fun h1 =>
  if y_K h1 p0 = 13 then
  y_cl (f_X12_isCrane p0 p1 h1) (fun r4 h5 =>
  y_jn (fun (v0_21 : Nat) (h7 : y_H) => (
      if y_K h7 v0_21 = 13 then
      y_cl (f_X12_refused v0_21 (-1 : Int32) h7) (fun r8 h9 =>
      some (r8, h9))
      else none : Option (Int32 × y_H))) (fun j21 =>
  if r4 = true then
    if y_K h5 p0 = 13 then
    y_cl (f_X12_isShip p0 p2 h5) (fun r12 h13 =>
    if r12 = true then
      if y_K h13 p0 = 13 then
      if y_K h13 (y_P h13 p0 29) = 100 ∧ y_ix p1 (y_N h13 (y_P h13 p0 29)) = true then
      if (y_I h13 (y_P h13 p0 29) (Int32.toNatClampNeg p1)) < 0 then
        if y_K h13 p0 = 13 then
        y_cl (f_X12_isWindy p0 p1 h13) (fun r15 h16 =>
        if r15 = true then
          if y_K h16 p0 = 13 then
          y_cl (f_X12_breaks p0 p1 6 h16) (fun r104 h105 =>
          some (r104, h105))
          else none
        else
          if y_K h16 p0 = 13 then
          if y_K h16 (y_P h16 p0 26) = 100 ∧ y_ix p1 (y_N h16 (y_P h16 p0 26)) = true then
          if (y_I h16 (y_P h16 p0 26) (Int32.toNatClampNeg p1)) = 1 then
            if y_K h16 p0 = 13 then
            if y_K h16 (y_P h16 p0 28) = 100 ∧ y_ix p1 (y_N h16 (y_P h16 p0 28)) = true then
            if y_K h16 p0 = 13 then
            if y_K h16 (y_P h16 p0 38) = 100 ∧ y_ix p2 (y_N h16 (y_P h16 p0 38)) = true then
            if (y_I h16 (y_P h16 p0 28) (Int32.toNatClampNeg p1)) = (y_I h16 (y_P h16 p0 38) (Int32.toNatClampNeg p2)) then
              if y_K h16 p0 = 13 then
              y_cl (f_X12_isCell p0 p2 p3 p4 0 h16) (fun r18 h19 =>
              if r18 = true then
                if y_K h19 p0 = 13 then
                if y_K h19 (y_P h19 p0 37) = 100 ∧ y_ix p2 (y_N h19 (y_P h19 p0 37)) = true then
                y_jl (fun (_ : Nat) (_ : Int32) (_ : Int32) (_ : Int32) (_ : Int32) (_ : Int32) (_ : y_H) => (none : Option (Int32 × y_H))) (fun j128 (v0_128 : Nat) (v1_128 : Int32) (v2_128 : Int32) (v3_128 : Int32) (v4_128 : Int32) (v5_128 : Int32) (h21 : y_H) =>
                    y_jn (fun (v0_162 : Nat) (v1_162 : Int32) (v2_162 : Int32) (v3_162 : Int32) (v4_162 : Int32) (v5_162 : Int32) (h22 : y_H) => (
                        if 0 ≤ v5_162 then
                          if y_K h22 v0_162 = 13 then
                          y_cl (f_X12_cell v0_162 v2_162 v3_162 v4_162 v5_162 h22) (fun r23 h24 =>
                          if y_K h24 v0_162 = 13 then
                          if y_K h24 (y_P h24 v0_162 39) = 100 ∧ y_ix ((54 * v2_162) + r23) (y_N h24 (y_P h24 v0_162 39)) = true then
                          if y_K h24 v0_162 = 13 then
                          y_cl (f_X12_keep v0_162 v1_162 (y_I h24 (y_P h24 v0_162 39) (Int32.toNatClampNeg ((54 * v2_162) + r23))) v2_162 h24) (fun _ h26 =>
                          if y_K h26 v0_162 = 13 then
                          if y_K h26 (y_P h26 v0_162 39) = 100 ∧ y_ix ((54 * v2_162) + r23) (y_N h26 (y_P h26 v0_162 39)) = true then
                          y_bd (s_I h26 (y_P h26 v0_162 39) (Int32.toNatClampNeg ((54 * v2_162) + r23)) (-1 : Int32)) (fun h28 =>
                          if y_K h28 v0_162 = 13 then
                          if y_K h28 (y_P h28 v0_162 44) = 100 ∧ y_ix v2_162 (y_N h28 (y_P h28 v0_162 44)) = true then
                          if y_K h28 v0_162 = 13 then
                          if y_K h28 (y_P h28 v0_162 5) = 100 ∧ y_ix (y_I h24 (y_P h24 v0_162 39) (Int32.toNatClampNeg ((54 * v2_162) + r23))) (y_N h28 (y_P h28 v0_162 5)) = true then
                          if y_K h28 v0_162 = 13 then
                          y_cl (f_X12_portAt v0_162 v2_162 (y_I h28 (y_P h28 v0_162 5) (Int32.toNatClampNeg (y_I h24 (y_P h24 v0_162 39) (Int32.toNatClampNeg ((54 * v2_162) + r23))))) h28) (fun r31 h32 =>
                          if y_K h32 v0_162 = 13 then
                          if y_K h32 (y_P h32 v0_162 43) = 100 ∧ y_ix v2_162 (y_N h32 (y_P h32 v0_162 43)) = true then
                          if r31 ≤ (y_I h32 (y_P h32 v0_162 43) (Int32.toNatClampNeg v2_162)) then
                            if y_K h32 (y_P h28 v0_162 44) = 100 ∧ y_ix v2_162 (y_N h32 (y_P h28 v0_162 44)) = true then
                            y_bd (s_I h32 (y_P h28 v0_162 44) (Int32.toNatClampNeg v2_162) ((y_I h28 (y_P h28 v0_162 44) (Int32.toNatClampNeg v2_162)) + 0)) (fun h34 =>
                            if y_K h34 v0_162 = 13 then
                            y_cl (f_X12_hang v0_162 v1_162 (y_I h24 (y_P h24 v0_162 39) (Int32.toNatClampNeg ((54 * v2_162) + r23))) h34) (fun _ h37 =>
                            if y_K h37 v0_162 = 13 then
                            y_cl (f_X12_done v0_162 h37) (fun r39 h40 =>
                            some (r39, h40))
                            else none)
                            else none)
                            else none
                          else
                            if y_K h32 (y_P h28 v0_162 44) = 100 ∧ y_ix v2_162 (y_N h32 (y_P h28 v0_162 44)) = true then
                            y_bd (s_I h32 (y_P h28 v0_162 44) (Int32.toNatClampNeg v2_162) ((y_I h28 (y_P h28 v0_162 44) (Int32.toNatClampNeg v2_162)) + 1)) (fun h44 =>
                            if y_K h44 v0_162 = 13 then
                            y_cl (f_X12_hang v0_162 v1_162 (y_I h24 (y_P h24 v0_162 39) (Int32.toNatClampNeg ((54 * v2_162) + r23))) h44) (fun _ h47 =>
                            if y_K h47 v0_162 = 13 then
                            y_cl (f_X12_done v0_162 h47) (fun r49 h50 =>
                            some (r49, h50))
                            else none)
                            else none)
                            else none
                          else none
                          else none)
                          else none
                          else none
                          else none
                          else none
                          else none)
                          else none
                          else none)
                          else none
                          else none
                          else none)
                          else none
                        else
                          if y_K h22 v0_162 = 13 then
                          y_cl (f_X12_meets v0_162 v1_162 3 h22) (fun r67 h68 =>
                          some (r67, h68))
                          else none : Option (Int32 × y_H))) (fun j162 =>
                    if v5_128 < 0 then
                      j162 v0_128 v1_128 v2_128 v3_128 v4_128 v5_128 h21
                    else
                      if y_K h21 v0_128 = 13 then
                      if y_K h21 v0_128 = 13 then
                      y_cl (f_X12_cell v0_128 v2_128 v3_128 v4_128 v5_128 h21) (fun r72 h73 =>
                      if y_K h73 (y_P h21 v0_128 39) = 100 ∧ y_ix ((54 * v2_128) + r72) (y_N h73 (y_P h21 v0_128 39)) = true then
                      if 0 ≤ (y_I h73 (y_P h21 v0_128 39) (Int32.toNatClampNeg ((54 * v2_128) + r72))) then
                        j162 v0_128 v1_128 v2_128 v3_128 v4_128 v5_128 h73
                      else
                        j128 v0_128 v1_128 v2_128 v3_128 v4_128 (v5_128 + (-1 : Int32)) h73
                      else none)
                      else none
                      else none)) (fun j128 =>
                j128 p0 p1 p2 p3 p4 ((y_I h19 (y_P h19 p0 37) (Int32.toNatClampNeg p2)) - 1) h19)
                else none
                else none
              else
                if y_K h19 p0 = 13 then
                y_cl (f_X12_meets p0 p1 2 h19) (fun r82 h83 =>
                some (r82, h83))
                else none)
              else none
            else
              if y_K h16 p0 = 13 then
              y_cl (f_X12_breaks p0 p1 11 h16) (fun r88 h89 =>
              some (r88, h89))
              else none
            else none
            else none
            else none
            else none
          else
            if y_K h16 p0 = 13 then
            y_cl (f_X12_meets p0 p1 5 h16) (fun r97 h98 =>
            some (r97, h98))
            else none
          else none
          else none)
        else none
      else
        if y_K h13 p0 = 13 then
        y_cl (f_X12_refused p0 (-3 : Int32) h13) (fun r110 h111 =>
        some (r110, h111))
        else none
      else none
      else none
    else
      j21 p0 h13)
    else none
  else
    j21 p0 h5))
  else none)
  else none
abbrev rm_X12_fetch : Room := { frames := 3, cells := 0, slots := 0, locals := 64 }
set_option maxRecDepth 100000 in
set_option maxHeartbeats 4000000 in
theorem k_X12_fetch {l : Launch} {G : y_G} {p0 : Nat} {p1 : Int32} {p2 : Int32} {p3 : Int32} {p4 : Int32} {h hz : y_H} {rz : Int32} (hf : f_X12_fetch p0 p1 p2 p3 p4 h = some (rz, hz)) : y_S l G M_X12_fetch rm_X12_fetch [y_p p0, .int p1, .int p2, .int p3, .int p4] h (some (.int rz)) hz := by
  refine y_start (lv := [(0, y_p p0), (1, .int p1), (2, .int p2), (3, .int p3), (4, .int p4)]) (by decide) (by simp [lg_sl, y_p_cat, y_ci, y_cj, M_X12_fetch]) (by simp [lv_args, y_p_cat, y_ci, y_cj]) (fun z ad0 => ?_)
  unfold f_X12_fetch at hf
  refine y_aload_n (x := p0) (pc2 := 1) rfl dX12_fetch_0 rfl ?_
  refine y_iconst (v := 0) (pc2 := 2) rfl dX12_fetch_1 (by decide) ?_
  obtain ⟨g3, hf⟩ := y_g hf
  obtain ⟨h1, e2, hf⟩ := y_bdE hf
  refine y_putI (x := 0) (pc2 := 5) rfl dX12_fetch_2 Fp_BoxYardModel_249 (by decide) rfl g3 e2 ?_
  refine y_aload_n (x := p0) (pc2 := 6) rfl dX12_fetch_5 rfl ?_
  refine y_iload_n (pc2 := 7) rfl dX12_fetch_6 rfl ?_
  obtain ⟨g120, hf⟩ := y_g hf
  obtain ⟨r4, h5, c6, hf⟩ := y_clE hf
  refine y_callV (As := [.int p1]) (rm := rm_X12_isCrane) (cells := 0) (slots := 0) (pc2 := 10) rfl dX12_fetch_7 n_X12_isCrane l_BoxYardModel_329 i_X12_isCrane e_X12_isCrane (ci := 12) rfl rfl (by decide) g120 rfl rfl (by decide) (by decide) (by decide) (k_X12_isCrane c6) ?_
  refine y_jnE hf (fun j => ∀ (v0_21 : Nat) (h7 : y_H), j v0_21 h7 = some (rz, hz) → y_V l G z rm_X12_fetch M_X12_fetch ad0 h (some (.int rz)) hz 21 [(0, y_p v0_21)] [] h7 0 0) (fun v0_21 h7 hf => ?_) (fun j21 hj21 hf => ?_)
  · refine y_aload_n (x := v0_21) (pc2 := 22) rfl dX12_fetch_21 rfl ?_
    refine y_iconst (v := (-1 : Int32)) (pc2 := 23) rfl dX12_fetch_22 (by decide) ?_
    obtain ⟨g11, hf⟩ := y_g hf
    obtain ⟨r8, h9, c10, hf⟩ := y_clE hf
    refine y_callV (As := [.int (-1 : Int32)]) (rm := rm_X12_refused) (cells := 0) (slots := 0) (pc2 := 26) rfl dX12_fetch_23 n_X12_refused l_BoxYardModel_345 i_X12_refused e_X12_refused (ci := 12) rfl rfl (by decide) g11 rfl rfl (by decide) (by decide) (by decide) (k_X12_refused c10) ?_
    exact y_iretF hf dX12_fetch_26 rfl (by decide) (by decide)
  · refine y_ifz_eq (tgt := 21) (pc2 := 13) rfl dX12_fetch_10 (by decide) (fun c119 => ?_) (fun c119 => ?_)
    · replace hf := y_ie c119 hf
      exact y_pk [0] rfl (hj21 _ _ hf)
    · replace hf := y_it c119 hf
      refine y_aload_n (x := p0) (pc2 := 14) rfl dX12_fetch_13 rfl ?_
      refine y_iload_n (pc2 := 15) rfl dX12_fetch_14 rfl ?_
      obtain ⟨g118, hf⟩ := y_g hf
      obtain ⟨r12, h13, c14, hf⟩ := y_clE hf
      refine y_callV (As := [.int p2]) (rm := rm_X12_isShip) (cells := 0) (slots := 0) (pc2 := 18) rfl dX12_fetch_15 n_X12_isShip l_BoxYardModel_414 i_X12_isShip e_X12_isShip (ci := 12) rfl rfl (by decide) g118 rfl rfl (by decide) (by decide) (by decide) (k_X12_isShip c14) ?_
      refine y_ifz_ne (tgt := 27) (pc2 := 21) rfl dX12_fetch_18 (by decide) (fun c117 => ?_) (fun c117 => ?_)
      · replace hf := y_it c117 hf
        refine y_aload_n (x := p0) (pc2 := 28) rfl dX12_fetch_27 rfl ?_
        obtain ⟨g116, hf⟩ := y_g hf
        refine y_getP (pc2 := 31) rfl dX12_fetch_28 F_BoxYardModel_89 (by decide) rfl g116 ?_
        refine y_iload_n (pc2 := 32) rfl dX12_fetch_31 rfl ?_
        obtain ⟨g115, hf⟩ := y_g hf
        refine y_iald (pc2 := 33) rfl dX12_fetch_32 g115.1 (y_ix_in g115.2) ?_
        refine y_if_lt (tgt := 43) (pc2 := 36) rfl dX12_fetch_33 (by decide) (fun c114 => ?_) (fun c114 => ?_)
        · replace hf := y_it c114 hf
          refine y_aload_n (x := p0) (pc2 := 44) rfl dX12_fetch_43 rfl ?_
          refine y_iload_n (pc2 := 45) rfl dX12_fetch_44 rfl ?_
          obtain ⟨g109, hf⟩ := y_g hf
          obtain ⟨r15, h16, c17, hf⟩ := y_clE hf
          refine y_callV (As := [.int p1]) (rm := rm_X12_isWindy) (cells := 0) (slots := 0) (pc2 := 48) rfl dX12_fetch_45 n_X12_isWindy l_BoxYardModel_348 i_X12_isWindy e_X12_isWindy (ci := 12) rfl rfl (by decide) g109 rfl rfl (by decide) (by decide) (by decide) (k_X12_isWindy c17) ?_
          refine y_ifz_eq (tgt := 59) (pc2 := 51) rfl dX12_fetch_48 (by decide) (fun c108 => ?_) (fun c108 => ?_)
          · replace hf := y_ie c108 hf
            refine y_aload_n (x := p0) (pc2 := 60) rfl dX12_fetch_59 rfl ?_
            obtain ⟨g103, hf⟩ := y_g hf
            refine y_getP (pc2 := 63) rfl dX12_fetch_60 F_BoxYardModel_80 (by decide) rfl g103 ?_
            refine y_iload_n (pc2 := 64) rfl dX12_fetch_63 rfl ?_
            obtain ⟨g102, hf⟩ := y_g hf
            refine y_iald (pc2 := 65) rfl dX12_fetch_64 g102.1 (y_ix_in g102.2) ?_
            refine y_iconst (v := 1) (pc2 := 66) rfl dX12_fetch_65 (by decide) ?_
            refine y_icmp_eq (tgt := 76) (pc2 := 69) rfl dX12_fetch_66 (by decide) (fun c101 => ?_) (fun c101 => ?_)
            · replace hf := y_it c101 hf
              refine y_aload_n (x := p0) (pc2 := 77) rfl dX12_fetch_76 rfl ?_
              obtain ⟨g96, hf⟩ := y_g hf
              refine y_getP (pc2 := 80) rfl dX12_fetch_77 F_BoxYardModel_86 (by decide) rfl g96 ?_
              refine y_iload_n (pc2 := 81) rfl dX12_fetch_80 rfl ?_
              obtain ⟨g95, hf⟩ := y_g hf
              refine y_iald (pc2 := 82) rfl dX12_fetch_81 g95.1 (y_ix_in g95.2) ?_
              refine y_aload_n (x := p0) (pc2 := 83) rfl dX12_fetch_82 rfl ?_
              obtain ⟨g94, hf⟩ := y_g hf
              refine y_getP (pc2 := 86) rfl dX12_fetch_83 F_BoxYardModel_110 (by decide) rfl g94 ?_
              refine y_iload_n (pc2 := 87) rfl dX12_fetch_86 rfl ?_
              obtain ⟨g93, hf⟩ := y_g hf
              refine y_iald (pc2 := 88) rfl dX12_fetch_87 g93.1 (y_ix_in g93.2) ?_
              refine y_icmp_eq (tgt := 99) (pc2 := 91) rfl dX12_fetch_88 (by decide) (fun c92 => ?_) (fun c92 => ?_)
              · replace hf := y_it c92 hf
                refine y_aload_n (x := p0) (pc2 := 100) rfl dX12_fetch_99 rfl ?_
                refine y_iload_n (pc2 := 101) rfl dX12_fetch_100 rfl ?_
                refine y_iload_n (pc2 := 102) rfl dX12_fetch_101 rfl ?_
                refine y_iload (pc2 := 104) rfl dX12_fetch_102 rfl ?_
                refine y_iconst (v := 0) (pc2 := 105) rfl dX12_fetch_104 (by decide) ?_
                obtain ⟨g87, hf⟩ := y_g hf
                obtain ⟨r18, h19, c20, hf⟩ := y_clE hf
                refine y_callV (As := [.int p2, .int p3, .int p4, .int 0]) (rm := rm_X12_isCell) (cells := 0) (slots := 0) (pc2 := 108) rfl dX12_fetch_105 n_X12_isCell l_BoxYardModel_397 i_X12_isCell e_X12_isCell (ci := 12) rfl rfl (by decide) g87 rfl rfl (by decide) (by decide) (by decide) (k_X12_isCell c20) ?_
                refine y_ifz_ne (tgt := 118) (pc2 := 111) rfl dX12_fetch_108 (by decide) (fun c86 => ?_) (fun c86 => ?_)
                · replace hf := y_it c86 hf
                  refine y_aload_n (x := p0) (pc2 := 119) rfl dX12_fetch_118 rfl ?_
                  obtain ⟨g81, hf⟩ := y_g hf
                  refine y_getP (pc2 := 122) rfl dX12_fetch_119 F_BoxYardModel_107 (by decide) rfl g81 ?_
                  refine y_iload_n (pc2 := 123) rfl dX12_fetch_122 rfl ?_
                  obtain ⟨g80, hf⟩ := y_g hf
                  refine y_iald (pc2 := 124) rfl dX12_fetch_123 g80.1 (y_ix_in g80.2) ?_
                  refine y_iconst (v := 1) (pc2 := 125) rfl dX12_fetch_124 (by decide) ?_
                  refine y_isub (pc2 := 126) rfl dX12_fetch_125 ?_
                  refine y_jlE hf (fun j => ∀ (v0_128 : Nat) (v1_128 : Int32) (v2_128 : Int32) (v3_128 : Int32) (v4_128 : Int32) (v5_128 : Int32) (h21 : y_H), j v0_128 v1_128 v2_128 v3_128 v4_128 v5_128 h21 = some (rz, hz) → y_V l G z rm_X12_fetch M_X12_fetch ad0 h (some (.int rz)) hz 128 [(0, y_p v0_128), (1, .int v1_128), (2, .int v2_128), (3, .int v3_128), (4, .int v4_128), (5, .int v5_128)] [] h21 0 0) (fun _ _ _ _ _ _ _ hf => by cases hf) (fun j128 hj128 v0_128 v1_128 v2_128 v3_128 v4_128 v5_128 h21 hf => ?_) (fun j128 hj128 hf => ?_)
                  · refine y_iload (pc2 := 130) rfl dX12_fetch_128 rfl ?_
                    refine y_jnE hf (fun j => ∀ (v0_162 : Nat) (v1_162 : Int32) (v2_162 : Int32) (v3_162 : Int32) (v4_162 : Int32) (v5_162 : Int32) (h22 : y_H), j v0_162 v1_162 v2_162 v3_162 v4_162 v5_162 h22 = some (rz, hz) → y_V l G z rm_X12_fetch M_X12_fetch ad0 h (some (.int rz)) hz 162 [(0, y_p v0_162), (1, .int v1_162), (2, .int v2_162), (3, .int v3_162), (4, .int v4_162), (5, .int v5_162)] [] h22 0 0) (fun v0_162 v1_162 v2_162 v3_162 v4_162 v5_162 h22 hf => ?_) (fun j162 hj162 hf => ?_)
                    · refine y_iload (pc2 := 164) rfl dX12_fetch_162 rfl ?_
                      refine y_if_ge (tgt := 174) (pc2 := 167) rfl dX12_fetch_164 (by decide) (fun c71 => ?_) (fun c71 => ?_)
                      · replace hf := y_it c71 hf
                        refine y_bipush (v := 54) (pc2 := 176) rfl dX12_fetch_174 (by decide) ?_
                        refine y_iload_n (pc2 := 177) rfl dX12_fetch_176 rfl ?_
                        refine y_imul (pc2 := 178) rfl dX12_fetch_177 ?_
                        refine y_aload_n (x := v0_162) (pc2 := 179) rfl dX12_fetch_178 rfl ?_
                        refine y_iload_n (pc2 := 180) rfl dX12_fetch_179 rfl ?_
                        refine y_iload_n (pc2 := 181) rfl dX12_fetch_180 rfl ?_
                        refine y_iload (pc2 := 183) rfl dX12_fetch_181 rfl ?_
                        refine y_iload (pc2 := 185) rfl dX12_fetch_183 rfl ?_
                        obtain ⟨g66, hf⟩ := y_g hf
                        obtain ⟨r23, h24, c25, hf⟩ := y_clE hf
                        refine y_callV (As := [.int v2_162, .int v3_162, .int v4_162, .int v5_162]) (rm := rm_X12_cell) (cells := 0) (slots := 0) (pc2 := 188) rfl dX12_fetch_185 n_X12_cell l_BoxYardModel_401 i_X12_cell e_X12_cell (ci := 12) rfl rfl (by decide) g66 rfl rfl (by decide) (by simp [y_ci, y_cj, y_p_cat]) (by decide) (k_X12_cell c25) ?_
                        refine y_iadd (pc2 := 189) rfl dX12_fetch_188 ?_
                        refine y_istore (lv' := [(6, .int ((54 * v2_162) + r23)), (0, y_p v0_162), (1, .int v1_162), (2, .int v2_162), (3, .int v3_162), (4, .int v4_162), (5, .int v5_162)]) (pc2 := 191) rfl dX12_fetch_189 (by decide) rfl ?_
                        refine y_aload_n (x := v0_162) (pc2 := 192) rfl dX12_fetch_191 rfl ?_
                        obtain ⟨g65, hf⟩ := y_g hf
                        refine y_getP (pc2 := 195) rfl dX12_fetch_192 F_BoxYardModel_113 (by decide) rfl g65 ?_
                        refine y_iload (pc2 := 197) rfl dX12_fetch_195 rfl ?_
                        obtain ⟨g64, hf⟩ := y_g hf
                        refine y_iald (pc2 := 198) rfl dX12_fetch_197 g64.1 (y_ix_in g64.2) ?_
                        refine y_istore (lv' := [(7, .int (y_I h24 (y_P h24 v0_162 39) (Int32.toNatClampNeg ((54 * v2_162) + r23)))), (6, .int ((54 * v2_162) + r23)), (0, y_p v0_162), (1, .int v1_162), (2, .int v2_162), (3, .int v3_162), (4, .int v4_162), (5, .int v5_162)]) (pc2 := 200) rfl dX12_fetch_198 (by decide) rfl ?_
                        refine y_aload_n (x := v0_162) (pc2 := 201) rfl dX12_fetch_200 rfl ?_
                        refine y_iload_n (pc2 := 202) rfl dX12_fetch_201 rfl ?_
                        refine y_iload (pc2 := 204) rfl dX12_fetch_202 rfl ?_
                        refine y_iload_n (pc2 := 205) rfl dX12_fetch_204 rfl ?_
                        obtain ⟨g63, hf⟩ := y_g hf
                        obtain ⟨r_, h26, c27, hf⟩ := y_clE hf
                        refine y_callV (As := [.int v1_162, .int (y_I h24 (y_P h24 v0_162 39) (Int32.toNatClampNeg ((54 * v2_162) + r23))), .int v2_162]) (rm := rm_X12_keep) (cells := 0) (slots := 0) (pc2 := 208) rfl dX12_fetch_205 n_X12_keep l_BoxYardModel_355 i_X12_keep e_X12_keep (ci := 12) rfl rfl (by decide) g63 rfl rfl (by decide) (by decide) (by decide) (k_X12_keep c27) ?_
                        refine y_aload_n (x := v0_162) (pc2 := 209) rfl dX12_fetch_208 rfl ?_
                        obtain ⟨g62, hf⟩ := y_g hf
                        refine y_getP (pc2 := 212) rfl dX12_fetch_209 F_BoxYardModel_113 (by decide) rfl g62 ?_
                        refine y_iload (pc2 := 214) rfl dX12_fetch_212 rfl ?_
                        refine y_iconst (v := (-1 : Int32)) (pc2 := 215) rfl dX12_fetch_214 (by decide) ?_
                        obtain ⟨g30, hf⟩ := y_g hf
                        obtain ⟨h28, e29, hf⟩ := y_bdE hf
                        refine y_iast (x := (-1 : Int32)) (pc2 := 216) rfl dX12_fetch_215 g30.1 (y_ix_in g30.2) e29 ?_
                        refine y_aload_n (x := v0_162) (pc2 := 217) rfl dX12_fetch_216 rfl ?_
                        obtain ⟨g61, hf⟩ := y_g hf
                        refine y_getP (pc2 := 220) rfl dX12_fetch_217 F_BoxYardModel_128 (by decide) rfl g61 ?_
                        refine y_iload_n (pc2 := 221) rfl dX12_fetch_220 rfl ?_
                        refine y_dup2 (pc2 := 222) rfl dX12_fetch_221 rfl (y_p_cat _) ?_
                        obtain ⟨g60, hf⟩ := y_g hf
                        refine y_iald (pc2 := 223) rfl dX12_fetch_222 g60.1 (y_ix_in g60.2) ?_
                        refine y_aload_n (x := v0_162) (pc2 := 224) rfl dX12_fetch_223 rfl ?_
                        refine y_iload_n (pc2 := 225) rfl dX12_fetch_224 rfl ?_
                        refine y_aload_n (x := v0_162) (pc2 := 226) rfl dX12_fetch_225 rfl ?_
                        obtain ⟨g59, hf⟩ := y_g hf
                        refine y_getP (pc2 := 229) rfl dX12_fetch_226 F_BoxYardModel_22 (by decide) rfl g59 ?_
                        refine y_iload (pc2 := 231) rfl dX12_fetch_229 rfl ?_
                        obtain ⟨g58, hf⟩ := y_g hf
                        refine y_iald (pc2 := 232) rfl dX12_fetch_231 g58.1 (y_ix_in g58.2) ?_
                        obtain ⟨g57, hf⟩ := y_g hf
                        obtain ⟨r31, h32, c33, hf⟩ := y_clE hf
                        refine y_callV (As := [.int v2_162, .int (y_I h28 (y_P h28 v0_162 5) (Int32.toNatClampNeg (y_I h24 (y_P h24 v0_162 39) (Int32.toNatClampNeg ((54 * v2_162) + r23)))))]) (rm := rm_X12_portAt) (cells := 0) (slots := 0) (pc2 := 235) rfl dX12_fetch_232 n_X12_portAt l_BoxYardModel_417 i_X12_portAt e_X12_portAt (ci := 12) rfl rfl (by decide) g57 rfl rfl (by decide) (by simp [y_ci, y_cj, y_p_cat]) (by decide) (k_X12_portAt c33) ?_
                        refine y_aload_n (x := v0_162) (pc2 := 236) rfl dX12_fetch_235 rfl ?_
                        obtain ⟨g56, hf⟩ := y_g hf
                        refine y_getP (pc2 := 239) rfl dX12_fetch_236 F_BoxYardModel_125 (by decide) rfl g56 ?_
                        refine y_iload_n (pc2 := 240) rfl dX12_fetch_239 rfl ?_
                        obtain ⟨g55, hf⟩ := y_g hf
                        refine y_iald (pc2 := 241) rfl dX12_fetch_240 g55.1 (y_ix_in g55.2) ?_
                        refine y_icmp_le (tgt := 248) (pc2 := 244) rfl dX12_fetch_241 (by decide) (fun c54 => ?_) (fun c54 => ?_)
                        · replace hf := y_it c54 hf
                          refine y_iconst (v := 0) (pc2 := 249) rfl dX12_fetch_248 (by decide) ?_
                          refine y_iadd (pc2 := 250) rfl dX12_fetch_249 ?_
                          obtain ⟨g36, hf⟩ := y_g hf
                          obtain ⟨h34, e35, hf⟩ := y_bdE hf
                          refine y_iast (x := (y_I h28 (y_P h28 v0_162 44) (Int32.toNatClampNeg v2_162)) + 0) (pc2 := 251) rfl dX12_fetch_250 g36.1 (y_ix_in g36.2) e35 ?_
                          refine y_aload_n (x := v0_162) (pc2 := 252) rfl dX12_fetch_251 rfl ?_
                          refine y_iload_n (pc2 := 253) rfl dX12_fetch_252 rfl ?_
                          refine y_iload (pc2 := 255) rfl dX12_fetch_253 rfl ?_
                          obtain ⟨g43, hf⟩ := y_g hf
                          obtain ⟨r_, h37, c38, hf⟩ := y_clE hf
                          refine y_callV (As := [.int v1_162, .int (y_I h24 (y_P h24 v0_162 39) (Int32.toNatClampNeg ((54 * v2_162) + r23)))]) (rm := rm_X12_hang) (cells := 0) (slots := 0) (pc2 := 258) rfl dX12_fetch_255 n_X12_hang l_BoxYardModel_362 i_X12_hang e_X12_hang (ci := 12) rfl rfl (by decide) g43 rfl rfl (by decide) (by decide) (by decide) (k_X12_hang c38) ?_
                          refine y_aload_n (x := v0_162) (pc2 := 259) rfl dX12_fetch_258 rfl ?_
                          obtain ⟨g42, hf⟩ := y_g hf
                          obtain ⟨r39, h40, c41, hf⟩ := y_clE hf
                          refine y_callV (As := []) (rm := rm_X12_done) (cells := 0) (slots := 0) (pc2 := 262) rfl dX12_fetch_259 n_X12_done l_BoxYardModel_359 i_X12_done e_X12_done (ci := 12) rfl rfl (by decide) g42 rfl rfl (by decide) (by decide) (by decide) (k_X12_done c41) ?_
                          exact y_iretF hf dX12_fetch_262 rfl (by decide) (by decide)
                        · replace hf := y_ie c54 hf
                          refine y_iconst (v := 1) (pc2 := 245) rfl dX12_fetch_244 (by decide) ?_
                          refine y_goto (tgt := 249) dX12_fetch_245 (by decide) ?_
                          refine y_iadd (pc2 := 250) rfl dX12_fetch_249 ?_
                          obtain ⟨g46, hf⟩ := y_g hf
                          obtain ⟨h44, e45, hf⟩ := y_bdE hf
                          refine y_iast (x := (y_I h28 (y_P h28 v0_162 44) (Int32.toNatClampNeg v2_162)) + 1) (pc2 := 251) rfl dX12_fetch_250 g46.1 (y_ix_in g46.2) e45 ?_
                          refine y_aload_n (x := v0_162) (pc2 := 252) rfl dX12_fetch_251 rfl ?_
                          refine y_iload_n (pc2 := 253) rfl dX12_fetch_252 rfl ?_
                          refine y_iload (pc2 := 255) rfl dX12_fetch_253 rfl ?_
                          obtain ⟨g53, hf⟩ := y_g hf
                          obtain ⟨r_, h47, c48, hf⟩ := y_clE hf
                          refine y_callV (As := [.int v1_162, .int (y_I h24 (y_P h24 v0_162 39) (Int32.toNatClampNeg ((54 * v2_162) + r23)))]) (rm := rm_X12_hang) (cells := 0) (slots := 0) (pc2 := 258) rfl dX12_fetch_255 n_X12_hang l_BoxYardModel_362 i_X12_hang e_X12_hang (ci := 12) rfl rfl (by decide) g53 rfl rfl (by decide) (by decide) (by decide) (k_X12_hang c48) ?_
                          refine y_aload_n (x := v0_162) (pc2 := 259) rfl dX12_fetch_258 rfl ?_
                          obtain ⟨g52, hf⟩ := y_g hf
                          obtain ⟨r49, h50, c51, hf⟩ := y_clE hf
                          refine y_callV (As := []) (rm := rm_X12_done) (cells := 0) (slots := 0) (pc2 := 262) rfl dX12_fetch_259 n_X12_done l_BoxYardModel_359 i_X12_done e_X12_done (ci := 12) rfl rfl (by decide) g52 rfl rfl (by decide) (by decide) (by decide) (k_X12_done c51) ?_
                          exact y_iretF hf dX12_fetch_262 rfl (by decide) (by decide)
                      · replace hf := y_ie c71 hf
                        refine y_aload_n (x := v0_162) (pc2 := 168) rfl dX12_fetch_167 rfl ?_
                        refine y_iload_n (pc2 := 169) rfl dX12_fetch_168 rfl ?_
                        refine y_iconst (v := 3) (pc2 := 170) rfl dX12_fetch_169 (by decide) ?_
                        obtain ⟨g70, hf⟩ := y_g hf
                        obtain ⟨r67, h68, c69, hf⟩ := y_clE hf
                        refine y_callV (As := [.int v1_162, .int 3]) (rm := rm_X12_meets) (cells := 0) (slots := 0) (pc2 := 173) rfl dX12_fetch_170 n_X12_meets l_BoxYardModel_366 i_X12_meets e_X12_meets (ci := 12) rfl rfl (by decide) g70 rfl rfl (by decide) (by decide) (by decide) (k_X12_meets c69) ?_
                        exact y_iretF hf dX12_fetch_173 rfl (by decide) (by decide)
                    · refine y_if_lt (tgt := 162) (pc2 := 133) rfl dX12_fetch_130 (by decide) (fun c79 => ?_) (fun c79 => ?_)
                      · replace hf := y_it c79 hf
                        exact y_pk [0, 1, 2, 3, 4, 5] rfl (hj162 _ _ _ _ _ _ _ hf)
                      · replace hf := y_ie c79 hf
                        refine y_aload_n (x := v0_128) (pc2 := 134) rfl dX12_fetch_133 rfl ?_
                        obtain ⟨g78, hf⟩ := y_g hf
                        refine y_getP (pc2 := 137) rfl dX12_fetch_134 F_BoxYardModel_113 (by decide) rfl g78 ?_
                        refine y_bipush (v := 54) (pc2 := 139) rfl dX12_fetch_137 (by decide) ?_
                        refine y_iload_n (pc2 := 140) rfl dX12_fetch_139 rfl ?_
                        refine y_imul (pc2 := 141) rfl dX12_fetch_140 ?_
                        refine y_aload_n (x := v0_128) (pc2 := 142) rfl dX12_fetch_141 rfl ?_
                        refine y_iload_n (pc2 := 143) rfl dX12_fetch_142 rfl ?_
                        refine y_iload_n (pc2 := 144) rfl dX12_fetch_143 rfl ?_
                        refine y_iload (pc2 := 146) rfl dX12_fetch_144 rfl ?_
                        refine y_iload (pc2 := 148) rfl dX12_fetch_146 rfl ?_
                        obtain ⟨g77, hf⟩ := y_g hf
                        obtain ⟨r72, h73, c74, hf⟩ := y_clE hf
                        refine y_callV (As := [.int v2_128, .int v3_128, .int v4_128, .int v5_128]) (rm := rm_X12_cell) (cells := 0) (slots := 0) (pc2 := 151) rfl dX12_fetch_148 n_X12_cell l_BoxYardModel_401 i_X12_cell e_X12_cell (ci := 12) rfl rfl (by decide) g77 rfl rfl (by decide) (by simp [y_ci, y_cj, y_p_cat]) (by decide) (k_X12_cell c74) ?_
                        refine y_iadd (pc2 := 152) rfl dX12_fetch_151 ?_
                        obtain ⟨g76, hf⟩ := y_g hf
                        refine y_iald (pc2 := 153) rfl dX12_fetch_152 g76.1 (y_ix_in g76.2) ?_
                        refine y_if_ge (tgt := 162) (pc2 := 156) rfl dX12_fetch_153 (by decide) (fun c75 => ?_) (fun c75 => ?_)
                        · replace hf := y_it c75 hf
                          exact y_pk [0, 1, 2, 3, 4, 5] rfl (hj162 _ _ _ _ _ _ _ hf)
                        · replace hf := y_ie c75 hf
                          refine y_iinc (v := v5_128 + (-1 : Int32)) (lv' := [(5, .int (v5_128 + (-1 : Int32))), (0, y_p v0_128), (1, .int v1_128), (2, .int v2_128), (3, .int v3_128), (4, .int v4_128)]) (pc2 := 159) rfl dX12_fetch_156 rfl rfl (by decide) rfl ?_
                          refine y_goto (tgt := 128) dX12_fetch_159 (by decide) ?_
                          exact y_pk [1, 2, 3, 4, 5, 0] rfl (hj128 _ _ _ _ _ _ _ hf)
                  · refine y_istore (lv' := [(5, .int ((y_I h19 (y_P h19 p0 37) (Int32.toNatClampNeg p2)) - 1)), (0, y_p p0), (1, .int p1), (2, .int p2), (3, .int p3), (4, .int p4)]) (pc2 := 128) rfl dX12_fetch_126 (by decide) rfl ?_
                    exact y_pk [1, 2, 3, 4, 5, 0] rfl (hj128 _ _ _ _ _ _ _ hf)
                · replace hf := y_ie c86 hf
                  refine y_aload_n (x := p0) (pc2 := 112) rfl dX12_fetch_111 rfl ?_
                  refine y_iload_n (pc2 := 113) rfl dX12_fetch_112 rfl ?_
                  refine y_iconst (v := 2) (pc2 := 114) rfl dX12_fetch_113 (by decide) ?_
                  obtain ⟨g85, hf⟩ := y_g hf
                  obtain ⟨r82, h83, c84, hf⟩ := y_clE hf
                  refine y_callV (As := [.int p1, .int 2]) (rm := rm_X12_meets) (cells := 0) (slots := 0) (pc2 := 117) rfl dX12_fetch_114 n_X12_meets l_BoxYardModel_366 i_X12_meets e_X12_meets (ci := 12) rfl rfl (by decide) g85 rfl rfl (by decide) (by decide) (by decide) (k_X12_meets c84) ?_
                  exact y_iretF hf dX12_fetch_117 rfl (by decide) (by decide)
              · replace hf := y_ie c92 hf
                refine y_aload_n (x := p0) (pc2 := 92) rfl dX12_fetch_91 rfl ?_
                refine y_iload_n (pc2 := 93) rfl dX12_fetch_92 rfl ?_
                refine y_bipush (v := 11) (pc2 := 95) rfl dX12_fetch_93 (by decide) ?_
                obtain ⟨g91, hf⟩ := y_g hf
                obtain ⟨r88, h89, c90, hf⟩ := y_clE hf
                refine y_callV (As := [.int p1, .int 11]) (rm := rm_X12_breaks) (cells := 0) (slots := 0) (pc2 := 98) rfl dX12_fetch_95 n_X12_breaks l_BoxYardModel_351 i_X12_breaks e_X12_breaks (ci := 12) rfl rfl (by decide) g91 rfl rfl (by decide) (by decide) (by decide) (k_X12_breaks c90) ?_
                exact y_iretF hf dX12_fetch_98 rfl (by decide) (by decide)
            · replace hf := y_ie c101 hf
              refine y_aload_n (x := p0) (pc2 := 70) rfl dX12_fetch_69 rfl ?_
              refine y_iload_n (pc2 := 71) rfl dX12_fetch_70 rfl ?_
              refine y_iconst (v := 5) (pc2 := 72) rfl dX12_fetch_71 (by decide) ?_
              obtain ⟨g100, hf⟩ := y_g hf
              obtain ⟨r97, h98, c99, hf⟩ := y_clE hf
              refine y_callV (As := [.int p1, .int 5]) (rm := rm_X12_meets) (cells := 0) (slots := 0) (pc2 := 75) rfl dX12_fetch_72 n_X12_meets l_BoxYardModel_366 i_X12_meets e_X12_meets (ci := 12) rfl rfl (by decide) g100 rfl rfl (by decide) (by decide) (by decide) (k_X12_meets c99) ?_
              exact y_iretF hf dX12_fetch_75 rfl (by decide) (by decide)
          · replace hf := y_it c108 hf
            refine y_aload_n (x := p0) (pc2 := 52) rfl dX12_fetch_51 rfl ?_
            refine y_iload_n (pc2 := 53) rfl dX12_fetch_52 rfl ?_
            refine y_bipush (v := 6) (pc2 := 55) rfl dX12_fetch_53 (by decide) ?_
            obtain ⟨g107, hf⟩ := y_g hf
            obtain ⟨r104, h105, c106, hf⟩ := y_clE hf
            refine y_callV (As := [.int p1, .int 6]) (rm := rm_X12_breaks) (cells := 0) (slots := 0) (pc2 := 58) rfl dX12_fetch_55 n_X12_breaks l_BoxYardModel_351 i_X12_breaks e_X12_breaks (ci := 12) rfl rfl (by decide) g107 rfl rfl (by decide) (by decide) (by decide) (k_X12_breaks c106) ?_
            exact y_iretF hf dX12_fetch_58 rfl (by decide) (by decide)
        · replace hf := y_ie c114 hf
          refine y_aload_n (x := p0) (pc2 := 37) rfl dX12_fetch_36 rfl ?_
          refine y_bipush (v := (-3 : Int32)) (pc2 := 39) rfl dX12_fetch_37 (by decide) ?_
          obtain ⟨g113, hf⟩ := y_g hf
          obtain ⟨r110, h111, c112, hf⟩ := y_clE hf
          refine y_callV (As := [.int (-3 : Int32)]) (rm := rm_X12_refused) (cells := 0) (slots := 0) (pc2 := 42) rfl dX12_fetch_39 n_X12_refused l_BoxYardModel_345 i_X12_refused e_X12_refused (ci := 12) rfl rfl (by decide) g113 rfl rfl (by decide) (by decide) (by decide) (k_X12_refused c112) ?_
          exact y_iretF hf dX12_fetch_42 rfl (by decide) (by decide)
      · replace hf := y_ie c117 hf
        exact y_pk [0] rfl (hj21 _ _ hf)
theorem dX12_serve_0 : decode cX12_serve 0 = .ok (.aload_n 0, 1) := by decide +kernel
theorem dX12_serve_1 : decode cX12_serve 1 = .ok (.iconst 0, 1) := by decide +kernel
theorem dX12_serve_2 : decode cX12_serve 2 = .ok (.putfield 249, 3) := by decide +kernel
theorem dX12_serve_5 : decode cX12_serve 5 = .ok (.aload_n 0, 1) := by decide +kernel
theorem dX12_serve_6 : decode cX12_serve 6 = .ok (.iload_n 1, 1) := by decide +kernel
theorem dX12_serve_7 : decode cX12_serve 7 = .ok (.invokevirtual 414, 3) := by decide +kernel
theorem dX12_serve_10 : decode cX12_serve 10 = .ok (.ifCond .ne 9, 3) := by decide +kernel
theorem dX12_serve_13 : decode cX12_serve 13 = .ok (.aload_n 0, 1) := by decide +kernel
theorem dX12_serve_14 : decode cX12_serve 14 = .ok (.iconst (-1), 1) := by decide +kernel
theorem dX12_serve_15 : decode cX12_serve 15 = .ok (.invokevirtual 345, 3) := by decide +kernel
theorem dX12_serve_18 : decode cX12_serve 18 = .ok (.ireturn, 1) := by decide +kernel
theorem dX12_serve_19 : decode cX12_serve 19 = .ok (.aload_n 0, 1) := by decide +kernel
theorem dX12_serve_20 : decode cX12_serve 20 = .ok (.getfield 125, 3) := by decide +kernel
theorem dX12_serve_23 : decode cX12_serve 23 = .ok (.iload_n 1, 1) := by decide +kernel
theorem dX12_serve_24 : decode cX12_serve 24 = .ok (.iaload, 1) := by decide +kernel
theorem dX12_serve_25 : decode cX12_serve 25 = .ok (.iconst 1, 1) := by decide +kernel
theorem dX12_serve_26 : decode cX12_serve 26 = .ok (.iadd, 1) := by decide +kernel
theorem dX12_serve_27 : decode cX12_serve 27 = .ok (.aload_n 0, 1) := by decide +kernel
theorem dX12_serve_28 : decode cX12_serve 28 = .ok (.getfield 122, 3) := by decide +kernel
theorem dX12_serve_31 : decode cX12_serve 31 = .ok (.iload_n 1, 1) := by decide +kernel
theorem dX12_serve_32 : decode cX12_serve 32 = .ok (.iaload, 1) := by decide +kernel
theorem dX12_serve_33 : decode cX12_serve 33 = .ok (.if_icmp .lt 10, 3) := by decide +kernel
theorem dX12_serve_36 : decode cX12_serve 36 = .ok (.aload_n 0, 1) := by decide +kernel
theorem dX12_serve_37 : decode cX12_serve 37 = .ok (.bipush (-3), 2) := by decide +kernel
theorem dX12_serve_39 : decode cX12_serve 39 = .ok (.invokevirtual 345, 3) := by decide +kernel
theorem dX12_serve_42 : decode cX12_serve 42 = .ok (.ireturn, 1) := by decide +kernel
theorem dX12_serve_43 : decode cX12_serve 43 = .ok (.aload_n 0, 1) := by decide +kernel
theorem dX12_serve_44 : decode cX12_serve 44 = .ok (.bipush (-9), 2) := by decide +kernel
theorem dX12_serve_46 : decode cX12_serve 46 = .ok (.bipush (-9), 2) := by decide +kernel
theorem dX12_serve_48 : decode cX12_serve 48 = .ok (.iload_n 1, 1) := by decide +kernel
theorem dX12_serve_49 : decode cX12_serve 49 = .ok (.invokevirtual 355, 3) := by decide +kernel
theorem dX12_serve_52 : decode cX12_serve 52 = .ok (.aload_n 0, 1) := by decide +kernel
theorem dX12_serve_53 : decode cX12_serve 53 = .ok (.getfield 125, 3) := by decide +kernel
theorem dX12_serve_56 : decode cX12_serve 56 = .ok (.iload_n 1, 1) := by decide +kernel
theorem dX12_serve_57 : decode cX12_serve 57 = .ok (.dup2, 1) := by decide +kernel
theorem dX12_serve_58 : decode cX12_serve 58 = .ok (.iaload, 1) := by decide +kernel
theorem dX12_serve_59 : decode cX12_serve 59 = .ok (.iconst 1, 1) := by decide +kernel
theorem dX12_serve_60 : decode cX12_serve 60 = .ok (.iadd, 1) := by decide +kernel
theorem dX12_serve_61 : decode cX12_serve 61 = .ok (.iastore, 1) := by decide +kernel
theorem dX12_serve_62 : decode cX12_serve 62 = .ok (.aload_n 0, 1) := by decide +kernel
theorem dX12_serve_63 : decode cX12_serve 63 = .ok (.invokevirtual 359, 3) := by decide +kernel
theorem dX12_serve_66 : decode cX12_serve 66 = .ok (.ireturn, 1) := by decide +kernel
def M_X12_serve : y_M := (yX12_serve, cX12_serve, 2, (Option.some Jvm.ClassFile.FieldType.int))
theorem n_X12_serve : y_N0 M_X12_serve 1 := ⟨(c_9 181 (by decide +kernel) rfl), (c_1 9 (by decide +kernel) rfl), ⟨by decide +kernel, by decide +kernel⟩, by decide +kernel⟩
set_option maxRecDepth 100000 in
def f_X12_serve (p0 : Nat) (p1 : Int32) (h : y_H) : Option (Int32 × y_H) :=
  if y_K h p0 = 13 then
  y_bd (s_I h p0 46 0) (fun h1 =>
  if y_K h1 p0 = 13 then
  y_cl (f_X12_isShip p0 p1 h1) (fun r4 h5 =>
  if r4 = true then
    if y_K h5 p0 = 13 then
    if y_K h5 (y_P h5 p0 43) = 100 ∧ y_ix p1 (y_N h5 (y_P h5 p0 43)) = true then
    if y_K h5 p0 = 13 then
    if y_K h5 (y_P h5 p0 42) = 100 ∧ y_ix p1 (y_N h5 (y_P h5 p0 42)) = true then
    if ((y_I h5 (y_P h5 p0 43) (Int32.toNatClampNeg p1)) + 1) < (y_I h5 (y_P h5 p0 42) (Int32.toNatClampNeg p1)) then
      if y_K h5 p0 = 13 then
      y_cl (f_X12_keep p0 (-9 : Int32) (-9 : Int32) p1 h5) (fun _ h7 =>
      if y_K h7 p0 = 13 then
      if y_K h7 (y_P h7 p0 43) = 100 ∧ y_ix p1 (y_N h7 (y_P h7 p0 43)) = true then
      if y_K h7 (y_P h7 p0 43) = 100 ∧ y_ix p1 (y_N h7 (y_P h7 p0 43)) = true then
      y_bd (s_I h7 (y_P h7 p0 43) (Int32.toNatClampNeg p1) ((y_I h7 (y_P h7 p0 43) (Int32.toNatClampNeg p1)) + 1)) (fun h9 =>
      if y_K h9 p0 = 13 then
      y_cl (f_X12_done p0 h9) (fun r12 h13 =>
      some (r12, h13))
      else none)
      else none
      else none
      else none)
      else none
    else
      if y_K h5 p0 = 13 then
      y_cl (f_X12_refused p0 (-3 : Int32) h5) (fun r19 h20 =>
      some (r19, h20))
      else none
    else none
    else none
    else none
    else none
  else
    if y_K h5 p0 = 13 then
    y_cl (f_X12_refused p0 (-1 : Int32) h5) (fun r28 h29 =>
    some (r28, h29))
    else none)
  else none)
  else none
abbrev rm_X12_serve : Room := { frames := 2, cells := 0, slots := 0, locals := 45 }
set_option maxRecDepth 100000 in
set_option maxHeartbeats 4000000 in
theorem k_X12_serve {l : Launch} {G : y_G} {p0 : Nat} {p1 : Int32} {h hz : y_H} {rz : Int32} (hf : f_X12_serve p0 p1 h = some (rz, hz)) : y_S l G M_X12_serve rm_X12_serve [y_p p0, .int p1] h (some (.int rz)) hz := by
  refine y_start (lv := [(0, y_p p0), (1, .int p1)]) (by decide) (by simp [lg_sl, y_p_cat, y_ci, y_cj, M_X12_serve]) (by simp [lv_args, y_p_cat, y_ci, y_cj]) (fun z ad0 => ?_)
  unfold f_X12_serve at hf
  refine y_aload_n (x := p0) (pc2 := 1) rfl dX12_serve_0 rfl ?_
  refine y_iconst (v := 0) (pc2 := 2) rfl dX12_serve_1 (by decide) ?_
  obtain ⟨g3, hf⟩ := y_g hf
  obtain ⟨h1, e2, hf⟩ := y_bdE hf
  refine y_putI (x := 0) (pc2 := 5) rfl dX12_serve_2 Fp_BoxYardModel_249 (by decide) rfl g3 e2 ?_
  refine y_aload_n (x := p0) (pc2 := 6) rfl dX12_serve_5 rfl ?_
  refine y_iload_n (pc2 := 7) rfl dX12_serve_6 rfl ?_
  obtain ⟨g33, hf⟩ := y_g hf
  obtain ⟨r4, h5, c6, hf⟩ := y_clE hf
  refine y_callV (As := [.int p1]) (rm := rm_X12_isShip) (cells := 0) (slots := 0) (pc2 := 10) rfl dX12_serve_7 n_X12_isShip l_BoxYardModel_414 i_X12_isShip e_X12_isShip (ci := 12) rfl rfl (by decide) g33 rfl rfl (by decide) (by decide) (by decide) (k_X12_isShip c6) ?_
  refine y_ifz_ne (tgt := 19) (pc2 := 13) rfl dX12_serve_10 (by decide) (fun c32 => ?_) (fun c32 => ?_)
  · replace hf := y_it c32 hf
    refine y_aload_n (x := p0) (pc2 := 20) rfl dX12_serve_19 rfl ?_
    obtain ⟨g27, hf⟩ := y_g hf
    refine y_getP (pc2 := 23) rfl dX12_serve_20 F_BoxYardModel_125 (by decide) rfl g27 ?_
    refine y_iload_n (pc2 := 24) rfl dX12_serve_23 rfl ?_
    obtain ⟨g26, hf⟩ := y_g hf
    refine y_iald (pc2 := 25) rfl dX12_serve_24 g26.1 (y_ix_in g26.2) ?_
    refine y_iconst (v := 1) (pc2 := 26) rfl dX12_serve_25 (by decide) ?_
    refine y_iadd (pc2 := 27) rfl dX12_serve_26 ?_
    refine y_aload_n (x := p0) (pc2 := 28) rfl dX12_serve_27 rfl ?_
    obtain ⟨g25, hf⟩ := y_g hf
    refine y_getP (pc2 := 31) rfl dX12_serve_28 F_BoxYardModel_122 (by decide) rfl g25 ?_
    refine y_iload_n (pc2 := 32) rfl dX12_serve_31 rfl ?_
    obtain ⟨g24, hf⟩ := y_g hf
    refine y_iald (pc2 := 33) rfl dX12_serve_32 g24.1 (y_ix_in g24.2) ?_
    refine y_icmp_lt (tgt := 43) (pc2 := 36) rfl dX12_serve_33 (by decide) (fun c23 => ?_) (fun c23 => ?_)
    · replace hf := y_it c23 hf
      refine y_aload_n (x := p0) (pc2 := 44) rfl dX12_serve_43 rfl ?_
      refine y_bipush (v := (-9 : Int32)) (pc2 := 46) rfl dX12_serve_44 (by decide) ?_
      refine y_bipush (v := (-9 : Int32)) (pc2 := 48) rfl dX12_serve_46 (by decide) ?_
      refine y_iload_n (pc2 := 49) rfl dX12_serve_48 rfl ?_
      obtain ⟨g18, hf⟩ := y_g hf
      obtain ⟨r_, h7, c8, hf⟩ := y_clE hf
      refine y_callV (As := [.int (-9 : Int32), .int (-9 : Int32), .int p1]) (rm := rm_X12_keep) (cells := 0) (slots := 0) (pc2 := 52) rfl dX12_serve_49 n_X12_keep l_BoxYardModel_355 i_X12_keep e_X12_keep (ci := 12) rfl rfl (by decide) g18 rfl rfl (by decide) (by decide) (by decide) (k_X12_keep c8) ?_
      refine y_aload_n (x := p0) (pc2 := 53) rfl dX12_serve_52 rfl ?_
      obtain ⟨g17, hf⟩ := y_g hf
      refine y_getP (pc2 := 56) rfl dX12_serve_53 F_BoxYardModel_125 (by decide) rfl g17 ?_
      refine y_iload_n (pc2 := 57) rfl dX12_serve_56 rfl ?_
      refine y_dup2 (pc2 := 58) rfl dX12_serve_57 rfl (y_p_cat _) ?_
      obtain ⟨g16, hf⟩ := y_g hf
      refine y_iald (pc2 := 59) rfl dX12_serve_58 g16.1 (y_ix_in g16.2) ?_
      refine y_iconst (v := 1) (pc2 := 60) rfl dX12_serve_59 (by decide) ?_
      refine y_iadd (pc2 := 61) rfl dX12_serve_60 ?_
      obtain ⟨g11, hf⟩ := y_g hf
      obtain ⟨h9, e10, hf⟩ := y_bdE hf
      refine y_iast (x := (y_I h7 (y_P h7 p0 43) (Int32.toNatClampNeg p1)) + 1) (pc2 := 62) rfl dX12_serve_61 g11.1 (y_ix_in g11.2) e10 ?_
      refine y_aload_n (x := p0) (pc2 := 63) rfl dX12_serve_62 rfl ?_
      obtain ⟨g15, hf⟩ := y_g hf
      obtain ⟨r12, h13, c14, hf⟩ := y_clE hf
      refine y_callV (As := []) (rm := rm_X12_done) (cells := 0) (slots := 0) (pc2 := 66) rfl dX12_serve_63 n_X12_done l_BoxYardModel_359 i_X12_done e_X12_done (ci := 12) rfl rfl (by decide) g15 rfl rfl (by decide) (by decide) (by decide) (k_X12_done c14) ?_
      exact y_iretF hf dX12_serve_66 rfl (by decide) (by decide)
    · replace hf := y_ie c23 hf
      refine y_aload_n (x := p0) (pc2 := 37) rfl dX12_serve_36 rfl ?_
      refine y_bipush (v := (-3 : Int32)) (pc2 := 39) rfl dX12_serve_37 (by decide) ?_
      obtain ⟨g22, hf⟩ := y_g hf
      obtain ⟨r19, h20, c21, hf⟩ := y_clE hf
      refine y_callV (As := [.int (-3 : Int32)]) (rm := rm_X12_refused) (cells := 0) (slots := 0) (pc2 := 42) rfl dX12_serve_39 n_X12_refused l_BoxYardModel_345 i_X12_refused e_X12_refused (ci := 12) rfl rfl (by decide) g22 rfl rfl (by decide) (by decide) (by decide) (k_X12_refused c21) ?_
      exact y_iretF hf dX12_serve_42 rfl (by decide) (by decide)
  · replace hf := y_ie c32 hf
    refine y_aload_n (x := p0) (pc2 := 14) rfl dX12_serve_13 rfl ?_
    refine y_iconst (v := (-1 : Int32)) (pc2 := 15) rfl dX12_serve_14 (by decide) ?_
    obtain ⟨g31, hf⟩ := y_g hf
    obtain ⟨r28, h29, c30, hf⟩ := y_clE hf
    refine y_callV (As := [.int (-1 : Int32)]) (rm := rm_X12_refused) (cells := 0) (slots := 0) (pc2 := 18) rfl dX12_serve_15 n_X12_refused l_BoxYardModel_345 i_X12_refused e_X12_refused (ci := 12) rfl rfl (by decide) g31 rfl rfl (by decide) (by decide) (by decide) (k_X12_refused c30) ?_
    exact y_iretF hf dX12_serve_18 rfl (by decide) (by decide)
theorem dX12_ship_0 : decode cX12_ship 0 = .ok (.iload_n 1, 1) := by decide +kernel
theorem dX12_ship_1 : decode cX12_ship 1 = .ok (.iconst 1, 1) := by decide +kernel
theorem dX12_ship_2 : decode cX12_ship 2 = .ok (.bipush 6, 2) := by decide +kernel
theorem dX12_ship_4 : decode cX12_ship 4 = .ok (.invokestatic 278, 3) := by decide +kernel
theorem dX12_ship_7 : decode cX12_ship 7 = .ok (.ifCond .eq 32, 3) := by decide +kernel
theorem dX12_ship_10 : decode cX12_ship 10 = .ok (.iload_n 2, 1) := by decide +kernel
theorem dX12_ship_11 : decode cX12_ship 11 = .ok (.iconst 1, 1) := by decide +kernel
theorem dX12_ship_12 : decode cX12_ship 12 = .ok (.iconst 3, 1) := by decide +kernel
theorem dX12_ship_13 : decode cX12_ship 13 = .ok (.invokestatic 278, 3) := by decide +kernel
theorem dX12_ship_16 : decode cX12_ship 16 = .ok (.ifCond .eq 23, 3) := by decide +kernel
theorem dX12_ship_19 : decode cX12_ship 19 = .ok (.iload_n 3, 1) := by decide +kernel
theorem dX12_ship_20 : decode cX12_ship 20 = .ok (.iconst 1, 1) := by decide +kernel
theorem dX12_ship_21 : decode cX12_ship 21 = .ok (.iconst 3, 1) := by decide +kernel
theorem dX12_ship_22 : decode cX12_ship 22 = .ok (.invokestatic 278, 3) := by decide +kernel
theorem dX12_ship_25 : decode cX12_ship 25 = .ok (.ifCond .eq 14, 3) := by decide +kernel
theorem dX12_ship_28 : decode cX12_ship 28 = .ok (.iload 4, 2) := by decide +kernel
theorem dX12_ship_30 : decode cX12_ship 30 = .ok (.iconst 0, 1) := by decide +kernel
theorem dX12_ship_31 : decode cX12_ship 31 = .ok (.bipush 9, 2) := by decide +kernel
theorem dX12_ship_33 : decode cX12_ship 33 = .ok (.invokestatic 278, 3) := by decide +kernel
theorem dX12_ship_36 : decode cX12_ship 36 = .ok (.ifCond .ne 6, 3) := by decide +kernel
theorem dX12_ship_39 : decode cX12_ship 39 = .ok (.bipush (-2), 2) := by decide +kernel
theorem dX12_ship_41 : decode cX12_ship 41 = .ok (.ireturn, 1) := by decide +kernel
theorem dX12_ship_42 : decode cX12_ship 42 = .ok (.aload_n 0, 1) := by decide +kernel
theorem dX12_ship_43 : decode cX12_ship 43 = .ok (.getfield 246, 3) := by decide +kernel
theorem dX12_ship_46 : decode cX12_ship 46 = .ok (.iconst 3, 1) := by decide +kernel
theorem dX12_ship_47 : decode cX12_ship 47 = .ok (.if_icmp .ne 6, 3) := by decide +kernel
theorem dX12_ship_50 : decode cX12_ship 50 = .ok (.bipush (-4), 2) := by decide +kernel
theorem dX12_ship_52 : decode cX12_ship 52 = .ok (.ireturn, 1) := by decide +kernel
theorem dX12_ship_53 : decode cX12_ship 53 = .ok (.aload_n 0, 1) := by decide +kernel
theorem dX12_ship_54 : decode cX12_ship 54 = .ok (.getfield 101, 3) := by decide +kernel
theorem dX12_ship_57 : decode cX12_ship 57 = .ok (.aload_n 0, 1) := by decide +kernel
theorem dX12_ship_58 : decode cX12_ship 58 = .ok (.getfield 246, 3) := by decide +kernel
theorem dX12_ship_61 : decode cX12_ship 61 = .ok (.iload_n 1, 1) := by decide +kernel
theorem dX12_ship_62 : decode cX12_ship 62 = .ok (.iastore, 1) := by decide +kernel
theorem dX12_ship_63 : decode cX12_ship 63 = .ok (.aload_n 0, 1) := by decide +kernel
theorem dX12_ship_64 : decode cX12_ship 64 = .ok (.getfield 104, 3) := by decide +kernel
theorem dX12_ship_67 : decode cX12_ship 67 = .ok (.aload_n 0, 1) := by decide +kernel
theorem dX12_ship_68 : decode cX12_ship 68 = .ok (.getfield 246, 3) := by decide +kernel
theorem dX12_ship_71 : decode cX12_ship 71 = .ok (.iload_n 2, 1) := by decide +kernel
theorem dX12_ship_72 : decode cX12_ship 72 = .ok (.iastore, 1) := by decide +kernel
theorem dX12_ship_73 : decode cX12_ship 73 = .ok (.aload_n 0, 1) := by decide +kernel
theorem dX12_ship_74 : decode cX12_ship 74 = .ok (.getfield 107, 3) := by decide +kernel
theorem dX12_ship_77 : decode cX12_ship 77 = .ok (.aload_n 0, 1) := by decide +kernel
theorem dX12_ship_78 : decode cX12_ship 78 = .ok (.getfield 246, 3) := by decide +kernel
theorem dX12_ship_81 : decode cX12_ship 81 = .ok (.iload_n 3, 1) := by decide +kernel
theorem dX12_ship_82 : decode cX12_ship 82 = .ok (.iastore, 1) := by decide +kernel
theorem dX12_ship_83 : decode cX12_ship 83 = .ok (.aload_n 0, 1) := by decide +kernel
theorem dX12_ship_84 : decode cX12_ship 84 = .ok (.getfield 110, 3) := by decide +kernel
theorem dX12_ship_87 : decode cX12_ship 87 = .ok (.aload_n 0, 1) := by decide +kernel
theorem dX12_ship_88 : decode cX12_ship 88 = .ok (.getfield 246, 3) := by decide +kernel
theorem dX12_ship_91 : decode cX12_ship 91 = .ok (.iload 4, 2) := by decide +kernel
theorem dX12_ship_93 : decode cX12_ship 93 = .ok (.iastore, 1) := by decide +kernel
theorem dX12_ship_94 : decode cX12_ship 94 = .ok (.aload_n 0, 1) := by decide +kernel
theorem dX12_ship_95 : decode cX12_ship 95 = .ok (.getfield 122, 3) := by decide +kernel
theorem dX12_ship_98 : decode cX12_ship 98 = .ok (.aload_n 0, 1) := by decide +kernel
theorem dX12_ship_99 : decode cX12_ship 99 = .ok (.getfield 246, 3) := by decide +kernel
theorem dX12_ship_102 : decode cX12_ship 102 = .ok (.iconst 0, 1) := by decide +kernel
theorem dX12_ship_103 : decode cX12_ship 103 = .ok (.iastore, 1) := by decide +kernel
theorem dX12_ship_104 : decode cX12_ship 104 = .ok (.aload_n 0, 1) := by decide +kernel
theorem dX12_ship_105 : decode cX12_ship 105 = .ok (.getfield 125, 3) := by decide +kernel
theorem dX12_ship_108 : decode cX12_ship 108 = .ok (.aload_n 0, 1) := by decide +kernel
theorem dX12_ship_109 : decode cX12_ship 109 = .ok (.getfield 246, 3) := by decide +kernel
theorem dX12_ship_112 : decode cX12_ship 112 = .ok (.iconst 0, 1) := by decide +kernel
theorem dX12_ship_113 : decode cX12_ship 113 = .ok (.iastore, 1) := by decide +kernel
theorem dX12_ship_114 : decode cX12_ship 114 = .ok (.aload_n 0, 1) := by decide +kernel
theorem dX12_ship_115 : decode cX12_ship 115 = .ok (.getfield 128, 3) := by decide +kernel
theorem dX12_ship_118 : decode cX12_ship 118 = .ok (.aload_n 0, 1) := by decide +kernel
theorem dX12_ship_119 : decode cX12_ship 119 = .ok (.getfield 246, 3) := by decide +kernel
theorem dX12_ship_122 : decode cX12_ship 122 = .ok (.iconst 0, 1) := by decide +kernel
theorem dX12_ship_123 : decode cX12_ship 123 = .ok (.iastore, 1) := by decide +kernel
theorem dX12_ship_124 : decode cX12_ship 124 = .ok (.iconst 0, 1) := by decide +kernel
theorem dX12_ship_125 : decode cX12_ship 125 = .ok (.istore 5, 2) := by decide +kernel
theorem dX12_ship_127 : decode cX12_ship 127 = .ok (.iload 5, 2) := by decide +kernel
theorem dX12_ship_129 : decode cX12_ship 129 = .ok (.bipush 54, 2) := by decide +kernel
theorem dX12_ship_131 : decode cX12_ship 131 = .ok (.if_icmp .ge 25, 3) := by decide +kernel
theorem dX12_ship_134 : decode cX12_ship 134 = .ok (.aload_n 0, 1) := by decide +kernel
theorem dX12_ship_135 : decode cX12_ship 135 = .ok (.getfield 113, 3) := by decide +kernel
theorem dX12_ship_138 : decode cX12_ship 138 = .ok (.bipush 54, 2) := by decide +kernel
theorem dX12_ship_140 : decode cX12_ship 140 = .ok (.aload_n 0, 1) := by decide +kernel
theorem dX12_ship_141 : decode cX12_ship 141 = .ok (.getfield 246, 3) := by decide +kernel
theorem dX12_ship_144 : decode cX12_ship 144 = .ok (.imul, 1) := by decide +kernel
theorem dX12_ship_145 : decode cX12_ship 145 = .ok (.iload 5, 2) := by decide +kernel
theorem dX12_ship_147 : decode cX12_ship 147 = .ok (.iadd, 1) := by decide +kernel
theorem dX12_ship_148 : decode cX12_ship 148 = .ok (.iconst (-1), 1) := by decide +kernel
theorem dX12_ship_149 : decode cX12_ship 149 = .ok (.iastore, 1) := by decide +kernel
theorem dX12_ship_150 : decode cX12_ship 150 = .ok (.iinc 5 1, 3) := by decide +kernel
theorem dX12_ship_153 : decode cX12_ship 153 = .ok (.goto (-26), 3) := by decide +kernel
theorem dX12_ship_156 : decode cX12_ship 156 = .ok (.iconst 0, 1) := by decide +kernel
theorem dX12_ship_157 : decode cX12_ship 157 = .ok (.istore 5, 2) := by decide +kernel
theorem dX12_ship_159 : decode cX12_ship 159 = .ok (.iload 5, 2) := by decide +kernel
theorem dX12_ship_161 : decode cX12_ship 161 = .ok (.iconst 3, 1) := by decide +kernel
theorem dX12_ship_162 : decode cX12_ship 162 = .ok (.if_icmp .ge 26, 3) := by decide +kernel
theorem dX12_ship_165 : decode cX12_ship 165 = .ok (.aload_n 0, 1) := by decide +kernel
theorem dX12_ship_166 : decode cX12_ship 166 = .ok (.getfield 116, 3) := by decide +kernel
theorem dX12_ship_169 : decode cX12_ship 169 = .ok (.iconst 3, 1) := by decide +kernel
theorem dX12_ship_170 : decode cX12_ship 170 = .ok (.aload_n 0, 1) := by decide +kernel
theorem dX12_ship_171 : decode cX12_ship 171 = .ok (.getfield 246, 3) := by decide +kernel
theorem dX12_ship_174 : decode cX12_ship 174 = .ok (.imul, 1) := by decide +kernel
theorem dX12_ship_175 : decode cX12_ship 175 = .ok (.iload 5, 2) := by decide +kernel
theorem dX12_ship_177 : decode cX12_ship 177 = .ok (.iadd, 1) := by decide +kernel
theorem dX12_ship_178 : decode cX12_ship 178 = .ok (.ldc_w 420, 3) := by decide +kernel
theorem dX12_ship_181 : decode cX12_ship 181 = .ok (.iastore, 1) := by decide +kernel
theorem dX12_ship_182 : decode cX12_ship 182 = .ok (.iinc 5 1, 3) := by decide +kernel
theorem dX12_ship_185 : decode cX12_ship 185 = .ok (.goto (-26), 3) := by decide +kernel
theorem dX12_ship_188 : decode cX12_ship 188 = .ok (.aload_n 0, 1) := by decide +kernel
theorem dX12_ship_189 : decode cX12_ship 189 = .ok (.dup, 1) := by decide +kernel
theorem dX12_ship_190 : decode cX12_ship 190 = .ok (.getfield 246, 3) := by decide +kernel
theorem dX12_ship_193 : decode cX12_ship 193 = .ok (.iconst 1, 1) := by decide +kernel
theorem dX12_ship_194 : decode cX12_ship 194 = .ok (.iadd, 1) := by decide +kernel
theorem dX12_ship_195 : decode cX12_ship 195 = .ok (.putfield 246, 3) := by decide +kernel
theorem dX12_ship_198 : decode cX12_ship 198 = .ok (.aload_n 0, 1) := by decide +kernel
theorem dX12_ship_199 : decode cX12_ship 199 = .ok (.getfield 246, 3) := by decide +kernel
theorem dX12_ship_202 : decode cX12_ship 202 = .ok (.iconst 1, 1) := by decide +kernel
theorem dX12_ship_203 : decode cX12_ship 203 = .ok (.isub, 1) := by decide +kernel
theorem dX12_ship_204 : decode cX12_ship 204 = .ok (.ireturn, 1) := by decide +kernel
def M_X12_ship : y_M := (yX12_ship, cX12_ship, 6, (Option.some Jvm.ClassFile.FieldType.int))
theorem n_X12_ship : y_N0 M_X12_ship 4 := ⟨(c_9 185 (by decide +kernel) rfl), (c_1 9 (by decide +kernel) rfl), ⟨by decide +kernel, by decide +kernel⟩, by decide +kernel⟩
theorem k_BoxYardModel_420 : Cond.constant "BoxYardModel" 420 1000000 ∈ y_tb := (c_9 186 (by decide +kernel) rfl)
set_option maxRecDepth 100000 in
def f_X12_ship (p0 : Nat) (p1 : Int32) (p2 : Int32) (p3 : Int32) (p4 : Int32) (h : y_H) : Option (Int32 × y_H) :=
  y_cl (f_X12_in p1 1 6 h) (fun r1 h2 =>
  y_jn (fun (h4 : y_H) => (
      some ((-2 : Int32), h4) : Option (Int32 × y_H))) (fun j39 =>
  if r1 = true then
    y_cl (f_X12_in p2 1 3 h2) (fun r5 h6 =>
    if r5 = true then
      y_cl (f_X12_in p3 1 3 h6) (fun r8 h9 =>
      if r8 = true then
        y_cl (f_X12_in p4 0 9 h9) (fun r11 h12 =>
        if r11 = true then
          if y_K h12 p0 = 13 then
          if (y_I h12 p0 34) = 3 then
            some ((-4 : Int32), h12)
          else
            if y_K h12 p0 = 13 then
            if y_K h12 p0 = 13 then
            if y_K h12 (y_P h12 p0 35) = 100 ∧ y_ix (y_I h12 p0 34) (y_N h12 (y_P h12 p0 35)) = true then
            y_bd (s_I h12 (y_P h12 p0 35) (Int32.toNatClampNeg (y_I h12 p0 34)) p1) (fun h14 =>
            if y_K h14 p0 = 13 then
            if y_K h14 p0 = 13 then
            if y_K h14 (y_P h14 p0 36) = 100 ∧ y_ix (y_I h14 p0 34) (y_N h14 (y_P h14 p0 36)) = true then
            y_bd (s_I h14 (y_P h14 p0 36) (Int32.toNatClampNeg (y_I h14 p0 34)) p2) (fun h17 =>
            if y_K h17 p0 = 13 then
            if y_K h17 p0 = 13 then
            if y_K h17 (y_P h17 p0 37) = 100 ∧ y_ix (y_I h17 p0 34) (y_N h17 (y_P h17 p0 37)) = true then
            y_bd (s_I h17 (y_P h17 p0 37) (Int32.toNatClampNeg (y_I h17 p0 34)) p3) (fun h20 =>
            if y_K h20 p0 = 13 then
            if y_K h20 p0 = 13 then
            if y_K h20 (y_P h20 p0 38) = 100 ∧ y_ix (y_I h20 p0 34) (y_N h20 (y_P h20 p0 38)) = true then
            y_bd (s_I h20 (y_P h20 p0 38) (Int32.toNatClampNeg (y_I h20 p0 34)) p4) (fun h23 =>
            if y_K h23 p0 = 13 then
            if y_K h23 p0 = 13 then
            if y_K h23 (y_P h23 p0 42) = 100 ∧ y_ix (y_I h23 p0 34) (y_N h23 (y_P h23 p0 42)) = true then
            y_bd (s_I h23 (y_P h23 p0 42) (Int32.toNatClampNeg (y_I h23 p0 34)) 0) (fun h26 =>
            if y_K h26 p0 = 13 then
            if y_K h26 p0 = 13 then
            if y_K h26 (y_P h26 p0 43) = 100 ∧ y_ix (y_I h26 p0 34) (y_N h26 (y_P h26 p0 43)) = true then
            y_bd (s_I h26 (y_P h26 p0 43) (Int32.toNatClampNeg (y_I h26 p0 34)) 0) (fun h29 =>
            if y_K h29 p0 = 13 then
            if y_K h29 p0 = 13 then
            if y_K h29 (y_P h29 p0 44) = 100 ∧ y_ix (y_I h29 p0 34) (y_N h29 (y_P h29 p0 44)) = true then
            y_bd (s_I h29 (y_P h29 p0 44) (Int32.toNatClampNeg (y_I h29 p0 34)) 0) (fun h32 =>
            y_jl (fun (_ : Nat) (_ : Int32) (_ : y_H) => (none : Option (Int32 × y_H))) (fun j127 (v0_127 : Nat) (v5_127 : Int32) (h35 : y_H) =>
                if 54 ≤ v5_127 then
                  y_jl (fun (_ : Nat) (_ : Int32) (_ : y_H) => (none : Option (Int32 × y_H))) (fun j159 (v0_159 : Nat) (v5_159 : Int32) (h36 : y_H) =>
                      if 3 ≤ v5_159 then
                        if y_K h36 v0_159 = 13 then
                        if y_K h36 v0_159 = 13 then
                        y_bd (s_I h36 v0_159 34 ((y_I h36 v0_159 34) + 1)) (fun h37 =>
                        if y_K h37 v0_159 = 13 then
                        some ((y_I h37 v0_159 34) - 1, h37)
                        else none)
                        else none
                        else none
                      else
                        if y_K h36 v0_159 = 13 then
                        if y_K h36 v0_159 = 13 then
                        if y_K h36 (y_P h36 v0_159 40) = 100 ∧ y_ix ((3 * (y_I h36 v0_159 34)) + v5_159) (y_N h36 (y_P h36 v0_159 40)) = true then
                        y_bd (s_I h36 (y_P h36 v0_159 40) (Int32.toNatClampNeg ((3 * (y_I h36 v0_159 34)) + v5_159)) 1000000) (fun h42 =>
                        j159 v0_159 (v5_159 + 1) h42)
                        else none
                        else none
                        else none) (fun j159 =>
                  j159 v0_127 0 h35)
                else
                  if y_K h35 v0_127 = 13 then
                  if y_K h35 v0_127 = 13 then
                  if y_K h35 (y_P h35 v0_127 39) = 100 ∧ y_ix ((54 * (y_I h35 v0_127 34)) + v5_127) (y_N h35 (y_P h35 v0_127 39)) = true then
                  y_bd (s_I h35 (y_P h35 v0_127 39) (Int32.toNatClampNeg ((54 * (y_I h35 v0_127 34)) + v5_127)) (-1 : Int32)) (fun h48 =>
                  j127 v0_127 (v5_127 + 1) h48)
                  else none
                  else none
                  else none) (fun j127 =>
            j127 p0 0 h32))
            else none
            else none
            else none)
            else none
            else none
            else none)
            else none
            else none
            else none)
            else none
            else none
            else none)
            else none
            else none
            else none)
            else none
            else none
            else none)
            else none
            else none
            else none
          else none
        else
          j39 h12)
      else
        j39 h9)
    else
      j39 h6)
  else
    j39 h2))
abbrev rm_X12_ship : Room := { frames := 1, cells := 0, slots := 0, locals := 22 }
set_option maxRecDepth 100000 in
set_option maxHeartbeats 4000000 in
theorem k_X12_ship {l : Launch} {G : y_G} {p0 : Nat} {p1 : Int32} {p2 : Int32} {p3 : Int32} {p4 : Int32} {h hz : y_H} {rz : Int32} (hf : f_X12_ship p0 p1 p2 p3 p4 h = some (rz, hz)) : y_S l G M_X12_ship rm_X12_ship [y_p p0, .int p1, .int p2, .int p3, .int p4] h (some (.int rz)) hz := by
  refine y_start (lv := [(0, y_p p0), (1, .int p1), (2, .int p2), (3, .int p3), (4, .int p4)]) (by decide) (by simp [lg_sl, y_p_cat, y_ci, y_cj, M_X12_ship]) (by simp [lv_args, y_p_cat, y_ci, y_cj]) (fun z ad0 => ?_)
  unfold f_X12_ship at hf
  refine y_iload_n (pc2 := 1) rfl dX12_ship_0 rfl ?_
  refine y_iconst (v := 1) (pc2 := 2) rfl dX12_ship_1 (by decide) ?_
  refine y_bipush (v := 6) (pc2 := 4) rfl dX12_ship_2 (by decide) ?_
  obtain ⟨r1, h2, c3, hf⟩ := y_clE hf
  refine y_callS (As := [.int p1, .int 1, .int 6]) (rm := rm_X12_in) (cells := 0) (slots := 0) (pc2 := 7) rfl dX12_ship_4 n_X12_in l_BoxYardModel_278 t_X12_in rfl rfl (by decide) (by decide) (by decide) (k_X12_in c3) ?_
  refine y_jnE hf (fun j => ∀ (h4 : y_H), j h4 = some (rz, hz) → y_V l G z rm_X12_ship M_X12_ship ad0 h (some (.int rz)) hz 39 [] [] h4 0 0) (fun h4 hf => ?_) (fun j39 hj39 hf => ?_)
  · refine y_bipush (v := (-2 : Int32)) (pc2 := 41) rfl dX12_ship_39 (by decide) ?_
    exact y_iretF hf dX12_ship_41 rfl (by decide) (by decide)
  · refine y_ifz_eq (tgt := 39) (pc2 := 10) rfl dX12_ship_7 (by decide) (fun c73 => ?_) (fun c73 => ?_)
    · replace hf := y_ie c73 hf
      exact y_pk [] rfl (hj39 _ hf)
    · replace hf := y_it c73 hf
      refine y_iload_n (pc2 := 11) rfl dX12_ship_10 rfl ?_
      refine y_iconst (v := 1) (pc2 := 12) rfl dX12_ship_11 (by decide) ?_
      refine y_iconst (v := 3) (pc2 := 13) rfl dX12_ship_12 (by decide) ?_
      obtain ⟨r5, h6, c7, hf⟩ := y_clE hf
      refine y_callS (As := [.int p2, .int 1, .int 3]) (rm := rm_X12_in) (cells := 0) (slots := 0) (pc2 := 16) rfl dX12_ship_13 n_X12_in l_BoxYardModel_278 t_X12_in rfl rfl (by decide) (by decide) (by decide) (k_X12_in c7) ?_
      refine y_ifz_eq (tgt := 39) (pc2 := 19) rfl dX12_ship_16 (by decide) (fun c72 => ?_) (fun c72 => ?_)
      · replace hf := y_ie c72 hf
        exact y_pk [] rfl (hj39 _ hf)
      · replace hf := y_it c72 hf
        refine y_iload_n (pc2 := 20) rfl dX12_ship_19 rfl ?_
        refine y_iconst (v := 1) (pc2 := 21) rfl dX12_ship_20 (by decide) ?_
        refine y_iconst (v := 3) (pc2 := 22) rfl dX12_ship_21 (by decide) ?_
        obtain ⟨r8, h9, c10, hf⟩ := y_clE hf
        refine y_callS (As := [.int p3, .int 1, .int 3]) (rm := rm_X12_in) (cells := 0) (slots := 0) (pc2 := 25) rfl dX12_ship_22 n_X12_in l_BoxYardModel_278 t_X12_in rfl rfl (by decide) (by decide) (by decide) (k_X12_in c10) ?_
        refine y_ifz_eq (tgt := 39) (pc2 := 28) rfl dX12_ship_25 (by decide) (fun c71 => ?_) (fun c71 => ?_)
        · replace hf := y_ie c71 hf
          exact y_pk [] rfl (hj39 _ hf)
        · replace hf := y_it c71 hf
          refine y_iload (pc2 := 30) rfl dX12_ship_28 rfl ?_
          refine y_iconst (v := 0) (pc2 := 31) rfl dX12_ship_30 (by decide) ?_
          refine y_bipush (v := 9) (pc2 := 33) rfl dX12_ship_31 (by decide) ?_
          obtain ⟨r11, h12, c13, hf⟩ := y_clE hf
          refine y_callS (As := [.int p4, .int 0, .int 9]) (rm := rm_X12_in) (cells := 0) (slots := 0) (pc2 := 36) rfl dX12_ship_33 n_X12_in l_BoxYardModel_278 t_X12_in rfl rfl (by decide) (by decide) (by decide) (k_X12_in c13) ?_
          refine y_ifz_ne (tgt := 42) (pc2 := 39) rfl dX12_ship_36 (by decide) (fun c70 => ?_) (fun c70 => ?_)
          · replace hf := y_it c70 hf
            refine y_aload_n (x := p0) (pc2 := 43) rfl dX12_ship_42 rfl ?_
            obtain ⟨g69, hf⟩ := y_g hf
            refine y_getI (pc2 := 46) rfl dX12_ship_43 F_BoxYardModel_246 (by decide) rfl g69 ?_
            refine y_iconst (v := 3) (pc2 := 47) rfl dX12_ship_46 (by decide) ?_
            refine y_icmp_ne (tgt := 53) (pc2 := 50) rfl dX12_ship_47 (by decide) (fun c68 => ?_) (fun c68 => ?_)
            · replace hf := y_ie c68 hf
              refine y_aload_n (x := p0) (pc2 := 54) rfl dX12_ship_53 rfl ?_
              obtain ⟨g67, hf⟩ := y_g hf
              refine y_getP (pc2 := 57) rfl dX12_ship_54 F_BoxYardModel_101 (by decide) rfl g67 ?_
              refine y_aload_n (x := p0) (pc2 := 58) rfl dX12_ship_57 rfl ?_
              obtain ⟨g66, hf⟩ := y_g hf
              refine y_getI (pc2 := 61) rfl dX12_ship_58 F_BoxYardModel_246 (by decide) rfl g66 ?_
              refine y_iload_n (pc2 := 62) rfl dX12_ship_61 rfl ?_
              obtain ⟨g16, hf⟩ := y_g hf
              obtain ⟨h14, e15, hf⟩ := y_bdE hf
              refine y_iast (x := p1) (pc2 := 63) rfl dX12_ship_62 g16.1 (y_ix_in g16.2) e15 ?_
              refine y_aload_n (x := p0) (pc2 := 64) rfl dX12_ship_63 rfl ?_
              obtain ⟨g65, hf⟩ := y_g hf
              refine y_getP (pc2 := 67) rfl dX12_ship_64 F_BoxYardModel_104 (by decide) rfl g65 ?_
              refine y_aload_n (x := p0) (pc2 := 68) rfl dX12_ship_67 rfl ?_
              obtain ⟨g64, hf⟩ := y_g hf
              refine y_getI (pc2 := 71) rfl dX12_ship_68 F_BoxYardModel_246 (by decide) rfl g64 ?_
              refine y_iload_n (pc2 := 72) rfl dX12_ship_71 rfl ?_
              obtain ⟨g19, hf⟩ := y_g hf
              obtain ⟨h17, e18, hf⟩ := y_bdE hf
              refine y_iast (x := p2) (pc2 := 73) rfl dX12_ship_72 g19.1 (y_ix_in g19.2) e18 ?_
              refine y_aload_n (x := p0) (pc2 := 74) rfl dX12_ship_73 rfl ?_
              obtain ⟨g63, hf⟩ := y_g hf
              refine y_getP (pc2 := 77) rfl dX12_ship_74 F_BoxYardModel_107 (by decide) rfl g63 ?_
              refine y_aload_n (x := p0) (pc2 := 78) rfl dX12_ship_77 rfl ?_
              obtain ⟨g62, hf⟩ := y_g hf
              refine y_getI (pc2 := 81) rfl dX12_ship_78 F_BoxYardModel_246 (by decide) rfl g62 ?_
              refine y_iload_n (pc2 := 82) rfl dX12_ship_81 rfl ?_
              obtain ⟨g22, hf⟩ := y_g hf
              obtain ⟨h20, e21, hf⟩ := y_bdE hf
              refine y_iast (x := p3) (pc2 := 83) rfl dX12_ship_82 g22.1 (y_ix_in g22.2) e21 ?_
              refine y_aload_n (x := p0) (pc2 := 84) rfl dX12_ship_83 rfl ?_
              obtain ⟨g61, hf⟩ := y_g hf
              refine y_getP (pc2 := 87) rfl dX12_ship_84 F_BoxYardModel_110 (by decide) rfl g61 ?_
              refine y_aload_n (x := p0) (pc2 := 88) rfl dX12_ship_87 rfl ?_
              obtain ⟨g60, hf⟩ := y_g hf
              refine y_getI (pc2 := 91) rfl dX12_ship_88 F_BoxYardModel_246 (by decide) rfl g60 ?_
              refine y_iload (pc2 := 93) rfl dX12_ship_91 rfl ?_
              obtain ⟨g25, hf⟩ := y_g hf
              obtain ⟨h23, e24, hf⟩ := y_bdE hf
              refine y_iast (x := p4) (pc2 := 94) rfl dX12_ship_93 g25.1 (y_ix_in g25.2) e24 ?_
              refine y_aload_n (x := p0) (pc2 := 95) rfl dX12_ship_94 rfl ?_
              obtain ⟨g59, hf⟩ := y_g hf
              refine y_getP (pc2 := 98) rfl dX12_ship_95 F_BoxYardModel_122 (by decide) rfl g59 ?_
              refine y_aload_n (x := p0) (pc2 := 99) rfl dX12_ship_98 rfl ?_
              obtain ⟨g58, hf⟩ := y_g hf
              refine y_getI (pc2 := 102) rfl dX12_ship_99 F_BoxYardModel_246 (by decide) rfl g58 ?_
              refine y_iconst (v := 0) (pc2 := 103) rfl dX12_ship_102 (by decide) ?_
              obtain ⟨g28, hf⟩ := y_g hf
              obtain ⟨h26, e27, hf⟩ := y_bdE hf
              refine y_iast (x := 0) (pc2 := 104) rfl dX12_ship_103 g28.1 (y_ix_in g28.2) e27 ?_
              refine y_aload_n (x := p0) (pc2 := 105) rfl dX12_ship_104 rfl ?_
              obtain ⟨g57, hf⟩ := y_g hf
              refine y_getP (pc2 := 108) rfl dX12_ship_105 F_BoxYardModel_125 (by decide) rfl g57 ?_
              refine y_aload_n (x := p0) (pc2 := 109) rfl dX12_ship_108 rfl ?_
              obtain ⟨g56, hf⟩ := y_g hf
              refine y_getI (pc2 := 112) rfl dX12_ship_109 F_BoxYardModel_246 (by decide) rfl g56 ?_
              refine y_iconst (v := 0) (pc2 := 113) rfl dX12_ship_112 (by decide) ?_
              obtain ⟨g31, hf⟩ := y_g hf
              obtain ⟨h29, e30, hf⟩ := y_bdE hf
              refine y_iast (x := 0) (pc2 := 114) rfl dX12_ship_113 g31.1 (y_ix_in g31.2) e30 ?_
              refine y_aload_n (x := p0) (pc2 := 115) rfl dX12_ship_114 rfl ?_
              obtain ⟨g55, hf⟩ := y_g hf
              refine y_getP (pc2 := 118) rfl dX12_ship_115 F_BoxYardModel_128 (by decide) rfl g55 ?_
              refine y_aload_n (x := p0) (pc2 := 119) rfl dX12_ship_118 rfl ?_
              obtain ⟨g54, hf⟩ := y_g hf
              refine y_getI (pc2 := 122) rfl dX12_ship_119 F_BoxYardModel_246 (by decide) rfl g54 ?_
              refine y_iconst (v := 0) (pc2 := 123) rfl dX12_ship_122 (by decide) ?_
              obtain ⟨g34, hf⟩ := y_g hf
              obtain ⟨h32, e33, hf⟩ := y_bdE hf
              refine y_iast (x := 0) (pc2 := 124) rfl dX12_ship_123 g34.1 (y_ix_in g34.2) e33 ?_
              refine y_iconst (v := 0) (pc2 := 125) rfl dX12_ship_124 (by decide) ?_
              refine y_jlE hf (fun j => ∀ (v0_127 : Nat) (v5_127 : Int32) (h35 : y_H), j v0_127 v5_127 h35 = some (rz, hz) → y_V l G z rm_X12_ship M_X12_ship ad0 h (some (.int rz)) hz 127 [(0, y_p v0_127), (5, .int v5_127)] [] h35 0 0) (fun _ _ _ hf => by cases hf) (fun j127 hj127 v0_127 v5_127 h35 hf => ?_) (fun j127 hj127 hf => ?_)
              · refine y_iload (pc2 := 129) rfl dX12_ship_127 rfl ?_
                refine y_bipush (v := 54) (pc2 := 131) rfl dX12_ship_129 (by decide) ?_
                refine y_icmp_ge (tgt := 156) (pc2 := 134) rfl dX12_ship_131 (by decide) (fun c53 => ?_) (fun c53 => ?_)
                · replace hf := y_it c53 hf
                  refine y_iconst (v := 0) (pc2 := 157) rfl dX12_ship_156 (by decide) ?_
                  refine y_jlE hf (fun j => ∀ (v0_159 : Nat) (v5_159 : Int32) (h36 : y_H), j v0_159 v5_159 h36 = some (rz, hz) → y_V l G z rm_X12_ship M_X12_ship ad0 h (some (.int rz)) hz 159 [(0, y_p v0_159), (5, .int v5_159)] [] h36 0 0) (fun _ _ _ hf => by cases hf) (fun j159 hj159 v0_159 v5_159 h36 hf => ?_) (fun j159 hj159 hf => ?_)
                  · refine y_iload (pc2 := 161) rfl dX12_ship_159 rfl ?_
                    refine y_iconst (v := 3) (pc2 := 162) rfl dX12_ship_161 (by decide) ?_
                    refine y_icmp_ge (tgt := 188) (pc2 := 165) rfl dX12_ship_162 (by decide) (fun c47 => ?_) (fun c47 => ?_)
                    · replace hf := y_it c47 hf
                      refine y_aload_n (x := v0_159) (pc2 := 189) rfl dX12_ship_188 rfl ?_
                      refine y_dup (pc2 := 190) rfl dX12_ship_189 (y_p_cat _) ?_
                      obtain ⟨g41, hf⟩ := y_g hf
                      refine y_getI (pc2 := 193) rfl dX12_ship_190 F_BoxYardModel_246 (by decide) rfl g41 ?_
                      refine y_iconst (v := 1) (pc2 := 194) rfl dX12_ship_193 (by decide) ?_
                      refine y_iadd (pc2 := 195) rfl dX12_ship_194 ?_
                      obtain ⟨g39, hf⟩ := y_g hf
                      obtain ⟨h37, e38, hf⟩ := y_bdE hf
                      refine y_putI (x := (y_I h36 v0_159 34) + 1) (pc2 := 198) rfl dX12_ship_195 Fp_BoxYardModel_246 (by decide) rfl g39 e38 ?_
                      refine y_aload_n (x := v0_159) (pc2 := 199) rfl dX12_ship_198 rfl ?_
                      obtain ⟨g40, hf⟩ := y_g hf
                      refine y_getI (pc2 := 202) rfl dX12_ship_199 F_BoxYardModel_246 (by decide) rfl g40 ?_
                      refine y_iconst (v := 1) (pc2 := 203) rfl dX12_ship_202 (by decide) ?_
                      refine y_isub (pc2 := 204) rfl dX12_ship_203 ?_
                      exact y_iretF hf dX12_ship_204 rfl (by decide) (by decide)
                    · replace hf := y_ie c47 hf
                      refine y_aload_n (x := v0_159) (pc2 := 166) rfl dX12_ship_165 rfl ?_
                      obtain ⟨g46, hf⟩ := y_g hf
                      refine y_getP (pc2 := 169) rfl dX12_ship_166 F_BoxYardModel_116 (by decide) rfl g46 ?_
                      refine y_iconst (v := 3) (pc2 := 170) rfl dX12_ship_169 (by decide) ?_
                      refine y_aload_n (x := v0_159) (pc2 := 171) rfl dX12_ship_170 rfl ?_
                      obtain ⟨g45, hf⟩ := y_g hf
                      refine y_getI (pc2 := 174) rfl dX12_ship_171 F_BoxYardModel_246 (by decide) rfl g45 ?_
                      refine y_imul (pc2 := 175) rfl dX12_ship_174 ?_
                      refine y_iload (pc2 := 177) rfl dX12_ship_175 rfl ?_
                      refine y_iadd (pc2 := 178) rfl dX12_ship_177 ?_
                      refine y_ldcw (v := 1000000) (pc2 := 181) rfl dX12_ship_178 k_BoxYardModel_420 ?_
                      obtain ⟨g44, hf⟩ := y_g hf
                      obtain ⟨h42, e43, hf⟩ := y_bdE hf
                      refine y_iast (x := 1000000) (pc2 := 182) rfl dX12_ship_181 g44.1 (y_ix_in g44.2) e43 ?_
                      refine y_iinc (v := v5_159 + 1) (lv' := [(5, .int (v5_159 + 1)), (0, y_p v0_159)]) (pc2 := 185) rfl dX12_ship_182 rfl rfl (by decide) rfl ?_
                      refine y_goto (tgt := 159) dX12_ship_185 (by decide) ?_
                      exact y_pk [1, 0] rfl (hj159 _ _ _ hf)
                  · refine y_istore (lv' := [(5, .int 0), (0, y_p v0_127)]) (pc2 := 159) rfl dX12_ship_157 (by decide) rfl ?_
                    exact y_pk [1, 0] rfl (hj159 _ _ _ hf)
                · replace hf := y_ie c53 hf
                  refine y_aload_n (x := v0_127) (pc2 := 135) rfl dX12_ship_134 rfl ?_
                  obtain ⟨g52, hf⟩ := y_g hf
                  refine y_getP (pc2 := 138) rfl dX12_ship_135 F_BoxYardModel_113 (by decide) rfl g52 ?_
                  refine y_bipush (v := 54) (pc2 := 140) rfl dX12_ship_138 (by decide) ?_
                  refine y_aload_n (x := v0_127) (pc2 := 141) rfl dX12_ship_140 rfl ?_
                  obtain ⟨g51, hf⟩ := y_g hf
                  refine y_getI (pc2 := 144) rfl dX12_ship_141 F_BoxYardModel_246 (by decide) rfl g51 ?_
                  refine y_imul (pc2 := 145) rfl dX12_ship_144 ?_
                  refine y_iload (pc2 := 147) rfl dX12_ship_145 rfl ?_
                  refine y_iadd (pc2 := 148) rfl dX12_ship_147 ?_
                  refine y_iconst (v := (-1 : Int32)) (pc2 := 149) rfl dX12_ship_148 (by decide) ?_
                  obtain ⟨g50, hf⟩ := y_g hf
                  obtain ⟨h48, e49, hf⟩ := y_bdE hf
                  refine y_iast (x := (-1 : Int32)) (pc2 := 150) rfl dX12_ship_149 g50.1 (y_ix_in g50.2) e49 ?_
                  refine y_iinc (v := v5_127 + 1) (lv' := [(5, .int (v5_127 + 1)), (0, y_p v0_127)]) (pc2 := 153) rfl dX12_ship_150 rfl rfl (by decide) rfl ?_
                  refine y_goto (tgt := 127) dX12_ship_153 (by decide) ?_
                  exact y_pk [1, 0] rfl (hj127 _ _ _ hf)
              · refine y_istore (lv' := [(5, .int 0), (0, y_p p0), (1, .int p1), (2, .int p2), (3, .int p3), (4, .int p4)]) (pc2 := 127) rfl dX12_ship_125 (by decide) rfl ?_
                exact y_pk [1, 0] rfl (hj127 _ _ _ hf)
            · replace hf := y_it c68 hf
              refine y_bipush (v := (-4 : Int32)) (pc2 := 52) rfl dX12_ship_50 (by decide) ?_
              exact y_iretF hf dX12_ship_52 rfl (by decide) (by decide)
          · replace hf := y_ie c70 hf
            exact y_pk [] rfl (hj39 _ hf)
theorem dX12_limit_0 : decode cX12_limit 0 = .ok (.aload_n 0, 1) := by decide +kernel
theorem dX12_limit_1 : decode cX12_limit 1 = .ok (.iload_n 1, 1) := by decide +kernel
theorem dX12_limit_2 : decode cX12_limit 2 = .ok (.invokevirtual 414, 3) := by decide +kernel
theorem dX12_limit_5 : decode cX12_limit 5 = .ok (.ifCond .ne 5, 3) := by decide +kernel
theorem dX12_limit_8 : decode cX12_limit 8 = .ok (.iconst (-1), 1) := by decide +kernel
theorem dX12_limit_9 : decode cX12_limit 9 = .ok (.ireturn, 1) := by decide +kernel
theorem dX12_limit_10 : decode cX12_limit 10 = .ok (.iload_n 2, 1) := by decide +kernel
theorem dX12_limit_11 : decode cX12_limit 11 = .ok (.iconst 0, 1) := by decide +kernel
theorem dX12_limit_12 : decode cX12_limit 12 = .ok (.iconst 2, 1) := by decide +kernel
theorem dX12_limit_13 : decode cX12_limit 13 = .ok (.invokestatic 278, 3) := by decide +kernel
theorem dX12_limit_16 : decode cX12_limit 16 = .ok (.ifCond .eq 14, 3) := by decide +kernel
theorem dX12_limit_19 : decode cX12_limit 19 = .ok (.iload_n 3, 1) := by decide +kernel
theorem dX12_limit_20 : decode cX12_limit 20 = .ok (.iconst 0, 1) := by decide +kernel
theorem dX12_limit_21 : decode cX12_limit 21 = .ok (.ldc_w 420, 3) := by decide +kernel
theorem dX12_limit_24 : decode cX12_limit 24 = .ok (.invokestatic 278, 3) := by decide +kernel
theorem dX12_limit_27 : decode cX12_limit 27 = .ok (.ifCond .ne 6, 3) := by decide +kernel
theorem dX12_limit_30 : decode cX12_limit 30 = .ok (.bipush (-2), 2) := by decide +kernel
theorem dX12_limit_32 : decode cX12_limit 32 = .ok (.ireturn, 1) := by decide +kernel
theorem dX12_limit_33 : decode cX12_limit 33 = .ok (.aload_n 0, 1) := by decide +kernel
theorem dX12_limit_34 : decode cX12_limit 34 = .ok (.getfield 116, 3) := by decide +kernel
theorem dX12_limit_37 : decode cX12_limit 37 = .ok (.iconst 3, 1) := by decide +kernel
theorem dX12_limit_38 : decode cX12_limit 38 = .ok (.iload_n 1, 1) := by decide +kernel
theorem dX12_limit_39 : decode cX12_limit 39 = .ok (.imul, 1) := by decide +kernel
theorem dX12_limit_40 : decode cX12_limit 40 = .ok (.iload_n 2, 1) := by decide +kernel
theorem dX12_limit_41 : decode cX12_limit 41 = .ok (.iadd, 1) := by decide +kernel
theorem dX12_limit_42 : decode cX12_limit 42 = .ok (.iaload, 1) := by decide +kernel
theorem dX12_limit_43 : decode cX12_limit 43 = .ok (.istore 4, 2) := by decide +kernel
theorem dX12_limit_45 : decode cX12_limit 45 = .ok (.aload_n 0, 1) := by decide +kernel
theorem dX12_limit_46 : decode cX12_limit 46 = .ok (.getfield 116, 3) := by decide +kernel
theorem dX12_limit_49 : decode cX12_limit 49 = .ok (.iconst 3, 1) := by decide +kernel
theorem dX12_limit_50 : decode cX12_limit 50 = .ok (.iload_n 1, 1) := by decide +kernel
theorem dX12_limit_51 : decode cX12_limit 51 = .ok (.imul, 1) := by decide +kernel
theorem dX12_limit_52 : decode cX12_limit 52 = .ok (.iload_n 2, 1) := by decide +kernel
theorem dX12_limit_53 : decode cX12_limit 53 = .ok (.iadd, 1) := by decide +kernel
theorem dX12_limit_54 : decode cX12_limit 54 = .ok (.iload_n 3, 1) := by decide +kernel
theorem dX12_limit_55 : decode cX12_limit 55 = .ok (.iastore, 1) := by decide +kernel
theorem dX12_limit_56 : decode cX12_limit 56 = .ok (.iload 4, 2) := by decide +kernel
theorem dX12_limit_58 : decode cX12_limit 58 = .ok (.ireturn, 1) := by decide +kernel
def M_X12_limit : y_M := (yX12_limit, cX12_limit, 5, (Option.some Jvm.ClassFile.FieldType.int))
theorem n_X12_limit : y_N0 M_X12_limit 3 := ⟨(c_9 190 (by decide +kernel) rfl), (c_1 9 (by decide +kernel) rfl), ⟨by decide +kernel, by decide +kernel⟩, by decide +kernel⟩
set_option maxRecDepth 100000 in
def f_X12_limit (p0 : Nat) (p1 : Int32) (p2 : Int32) (p3 : Int32) (h : y_H) : Option (Int32 × y_H) :=
  if y_K h p0 = 13 then
  y_cl (f_X12_isShip p0 p1 h) (fun r1 h2 =>
  if r1 = true then
    y_cl (f_X12_in p2 0 2 h2) (fun r4 h5 =>
    y_jn (fun (h7 : y_H) => (
        some ((-2 : Int32), h7) : Option (Int32 × y_H))) (fun j30 =>
    if r4 = true then
      y_cl (f_X12_in p3 0 1000000 h5) (fun r8 h9 =>
      if r8 = true then
        if y_K h9 p0 = 13 then
        if y_K h9 (y_P h9 p0 40) = 100 ∧ y_ix ((3 * p1) + p2) (y_N h9 (y_P h9 p0 40)) = true then
        if y_K h9 p0 = 13 then
        if y_K h9 (y_P h9 p0 40) = 100 ∧ y_ix ((3 * p1) + p2) (y_N h9 (y_P h9 p0 40)) = true then
        y_bd (s_I h9 (y_P h9 p0 40) (Int32.toNatClampNeg ((3 * p1) + p2)) p3) (fun h11 =>
        some (y_I h9 (y_P h9 p0 40) (Int32.toNatClampNeg ((3 * p1) + p2)), h11))
        else none
        else none
        else none
        else none
      else
        j30 h9)
    else
      j30 h5))
  else
    some ((-1 : Int32), h2))
  else none
abbrev rm_X12_limit : Room := { frames := 2, cells := 0, slots := 0, locals := 43 }
set_option maxRecDepth 100000 in
set_option maxHeartbeats 4000000 in
theorem k_X12_limit {l : Launch} {G : y_G} {p0 : Nat} {p1 : Int32} {p2 : Int32} {p3 : Int32} {h hz : y_H} {rz : Int32} (hf : f_X12_limit p0 p1 p2 p3 h = some (rz, hz)) : y_S l G M_X12_limit rm_X12_limit [y_p p0, .int p1, .int p2, .int p3] h (some (.int rz)) hz := by
  refine y_start (lv := [(0, y_p p0), (1, .int p1), (2, .int p2), (3, .int p3)]) (by decide) (by simp [lg_sl, y_p_cat, y_ci, y_cj, M_X12_limit]) (by simp [lv_args, y_p_cat, y_ci, y_cj]) (fun z ad0 => ?_)
  unfold f_X12_limit at hf
  refine y_aload_n (x := p0) (pc2 := 1) rfl dX12_limit_0 rfl ?_
  refine y_iload_n (pc2 := 2) rfl dX12_limit_1 rfl ?_
  obtain ⟨g20, hf⟩ := y_g hf
  obtain ⟨r1, h2, c3, hf⟩ := y_clE hf
  refine y_callV (As := [.int p1]) (rm := rm_X12_isShip) (cells := 0) (slots := 0) (pc2 := 5) rfl dX12_limit_2 n_X12_isShip l_BoxYardModel_414 i_X12_isShip e_X12_isShip (ci := 12) rfl rfl (by decide) g20 rfl rfl (by decide) (by decide) (by decide) (k_X12_isShip c3) ?_
  refine y_ifz_ne (tgt := 10) (pc2 := 8) rfl dX12_limit_5 (by decide) (fun c19 => ?_) (fun c19 => ?_)
  · replace hf := y_it c19 hf
    refine y_iload_n (pc2 := 11) rfl dX12_limit_10 rfl ?_
    refine y_iconst (v := 0) (pc2 := 12) rfl dX12_limit_11 (by decide) ?_
    refine y_iconst (v := 2) (pc2 := 13) rfl dX12_limit_12 (by decide) ?_
    obtain ⟨r4, h5, c6, hf⟩ := y_clE hf
    refine y_callS (As := [.int p2, .int 0, .int 2]) (rm := rm_X12_in) (cells := 0) (slots := 0) (pc2 := 16) rfl dX12_limit_13 n_X12_in l_BoxYardModel_278 t_X12_in rfl rfl (by decide) (by decide) (by decide) (k_X12_in c6) ?_
    refine y_jnE hf (fun j => ∀ (h7 : y_H), j h7 = some (rz, hz) → y_V l G z rm_X12_limit M_X12_limit ad0 h (some (.int rz)) hz 30 [] [] h7 0 0) (fun h7 hf => ?_) (fun j30 hj30 hf => ?_)
    · refine y_bipush (v := (-2 : Int32)) (pc2 := 32) rfl dX12_limit_30 (by decide) ?_
      exact y_iretF hf dX12_limit_32 rfl (by decide) (by decide)
    · refine y_ifz_eq (tgt := 30) (pc2 := 19) rfl dX12_limit_16 (by decide) (fun c18 => ?_) (fun c18 => ?_)
      · replace hf := y_ie c18 hf
        exact y_pk [] rfl (hj30 _ hf)
      · replace hf := y_it c18 hf
        refine y_iload_n (pc2 := 20) rfl dX12_limit_19 rfl ?_
        refine y_iconst (v := 0) (pc2 := 21) rfl dX12_limit_20 (by decide) ?_
        refine y_ldcw (v := 1000000) (pc2 := 24) rfl dX12_limit_21 k_BoxYardModel_420 ?_
        obtain ⟨r8, h9, c10, hf⟩ := y_clE hf
        refine y_callS (As := [.int p3, .int 0, .int 1000000]) (rm := rm_X12_in) (cells := 0) (slots := 0) (pc2 := 27) rfl dX12_limit_24 n_X12_in l_BoxYardModel_278 t_X12_in rfl rfl (by decide) (by decide) (by decide) (k_X12_in c10) ?_
        refine y_ifz_ne (tgt := 33) (pc2 := 30) rfl dX12_limit_27 (by decide) (fun c17 => ?_) (fun c17 => ?_)
        · replace hf := y_it c17 hf
          refine y_aload_n (x := p0) (pc2 := 34) rfl dX12_limit_33 rfl ?_
          obtain ⟨g16, hf⟩ := y_g hf
          refine y_getP (pc2 := 37) rfl dX12_limit_34 F_BoxYardModel_116 (by decide) rfl g16 ?_
          refine y_iconst (v := 3) (pc2 := 38) rfl dX12_limit_37 (by decide) ?_
          refine y_iload_n (pc2 := 39) rfl dX12_limit_38 rfl ?_
          refine y_imul (pc2 := 40) rfl dX12_limit_39 ?_
          refine y_iload_n (pc2 := 41) rfl dX12_limit_40 rfl ?_
          refine y_iadd (pc2 := 42) rfl dX12_limit_41 ?_
          obtain ⟨g15, hf⟩ := y_g hf
          refine y_iald (pc2 := 43) rfl dX12_limit_42 g15.1 (y_ix_in g15.2) ?_
          refine y_istore (lv' := [(4, .int (y_I h9 (y_P h9 p0 40) (Int32.toNatClampNeg ((3 * p1) + p2)))), (0, y_p p0), (1, .int p1), (2, .int p2), (3, .int p3)]) (pc2 := 45) rfl dX12_limit_43 (by decide) rfl ?_
          refine y_aload_n (x := p0) (pc2 := 46) rfl dX12_limit_45 rfl ?_
          obtain ⟨g14, hf⟩ := y_g hf
          refine y_getP (pc2 := 49) rfl dX12_limit_46 F_BoxYardModel_116 (by decide) rfl g14 ?_
          refine y_iconst (v := 3) (pc2 := 50) rfl dX12_limit_49 (by decide) ?_
          refine y_iload_n (pc2 := 51) rfl dX12_limit_50 rfl ?_
          refine y_imul (pc2 := 52) rfl dX12_limit_51 ?_
          refine y_iload_n (pc2 := 53) rfl dX12_limit_52 rfl ?_
          refine y_iadd (pc2 := 54) rfl dX12_limit_53 ?_
          refine y_iload_n (pc2 := 55) rfl dX12_limit_54 rfl ?_
          obtain ⟨g13, hf⟩ := y_g hf
          obtain ⟨h11, e12, hf⟩ := y_bdE hf
          refine y_iast (x := p3) (pc2 := 56) rfl dX12_limit_55 g13.1 (y_ix_in g13.2) e12 ?_
          refine y_iload (pc2 := 58) rfl dX12_limit_56 rfl ?_
          exact y_iretF hf dX12_limit_58 rfl (by decide) (by decide)
        · replace hf := y_ie c17 hf
          exact y_pk [] rfl (hj30 _ hf)
  · replace hf := y_ie c19 hf
    refine y_iconst (v := (-1 : Int32)) (pc2 := 9) rfl dX12_limit_8 (by decide) ?_
    exact y_iretF hf dX12_limit_9 rfl (by decide) (by decide)
