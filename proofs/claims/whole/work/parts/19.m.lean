theorem dX12_route_0 : decode cX12_route 0 = .ok (.aload_n 0, 1) := by decide +kernel
theorem dX12_route_1 : decode cX12_route 1 = .ok (.iload_n 1, 1) := by decide +kernel
theorem dX12_route_2 : decode cX12_route 2 = .ok (.invokevirtual 414, 3) := by decide +kernel
theorem dX12_route_5 : decode cX12_route 5 = .ok (.ifCond .ne 5, 3) := by decide +kernel
theorem dX12_route_8 : decode cX12_route 8 = .ok (.iconst (-1), 1) := by decide +kernel
theorem dX12_route_9 : decode cX12_route 9 = .ok (.ireturn, 1) := by decide +kernel
theorem dX12_route_10 : decode cX12_route 10 = .ok (.iload_n 2, 1) := by decide +kernel
theorem dX12_route_11 : decode cX12_route 11 = .ok (.iconst 0, 1) := by decide +kernel
theorem dX12_route_12 : decode cX12_route 12 = .ok (.bipush 7, 2) := by decide +kernel
theorem dX12_route_14 : decode cX12_route 14 = .ok (.invokestatic 278, 3) := by decide +kernel
theorem dX12_route_17 : decode cX12_route 17 = .ok (.ifCond .ne 6, 3) := by decide +kernel
theorem dX12_route_20 : decode cX12_route 20 = .ok (.bipush (-2), 2) := by decide +kernel
theorem dX12_route_22 : decode cX12_route 22 = .ok (.ireturn, 1) := by decide +kernel
theorem dX12_route_23 : decode cX12_route 23 = .ok (.aload_n 0, 1) := by decide +kernel
theorem dX12_route_24 : decode cX12_route 24 = .ok (.iload_n 1, 1) := by decide +kernel
theorem dX12_route_25 : decode cX12_route 25 = .ok (.iload_n 2, 1) := by decide +kernel
theorem dX12_route_26 : decode cX12_route 26 = .ok (.invokevirtual 417, 3) := by decide +kernel
theorem dX12_route_29 : decode cX12_route 29 = .ok (.bipush (-9), 2) := by decide +kernel
theorem dX12_route_31 : decode cX12_route 31 = .ok (.if_icmp .eq 6, 3) := by decide +kernel
theorem dX12_route_34 : decode cX12_route 34 = .ok (.bipush (-3), 2) := by decide +kernel
theorem dX12_route_36 : decode cX12_route 36 = .ok (.ireturn, 1) := by decide +kernel
theorem dX12_route_37 : decode cX12_route 37 = .ok (.aload_n 0, 1) := by decide +kernel
theorem dX12_route_38 : decode cX12_route 38 = .ok (.getfield 119, 3) := by decide +kernel
theorem dX12_route_41 : decode cX12_route 41 = .ok (.bipush 8, 2) := by decide +kernel
theorem dX12_route_43 : decode cX12_route 43 = .ok (.iload_n 1, 1) := by decide +kernel
theorem dX12_route_44 : decode cX12_route 44 = .ok (.imul, 1) := by decide +kernel
theorem dX12_route_45 : decode cX12_route 45 = .ok (.aload_n 0, 1) := by decide +kernel
theorem dX12_route_46 : decode cX12_route 46 = .ok (.getfield 122, 3) := by decide +kernel
theorem dX12_route_49 : decode cX12_route 49 = .ok (.iload_n 1, 1) := by decide +kernel
theorem dX12_route_50 : decode cX12_route 50 = .ok (.iaload, 1) := by decide +kernel
theorem dX12_route_51 : decode cX12_route 51 = .ok (.iadd, 1) := by decide +kernel
theorem dX12_route_52 : decode cX12_route 52 = .ok (.iload_n 2, 1) := by decide +kernel
theorem dX12_route_53 : decode cX12_route 53 = .ok (.iastore, 1) := by decide +kernel
theorem dX12_route_54 : decode cX12_route 54 = .ok (.aload_n 0, 1) := by decide +kernel
theorem dX12_route_55 : decode cX12_route 55 = .ok (.getfield 122, 3) := by decide +kernel
theorem dX12_route_58 : decode cX12_route 58 = .ok (.iload_n 1, 1) := by decide +kernel
theorem dX12_route_59 : decode cX12_route 59 = .ok (.dup2, 1) := by decide +kernel
theorem dX12_route_60 : decode cX12_route 60 = .ok (.iaload, 1) := by decide +kernel
theorem dX12_route_61 : decode cX12_route 61 = .ok (.iconst 1, 1) := by decide +kernel
theorem dX12_route_62 : decode cX12_route 62 = .ok (.iadd, 1) := by decide +kernel
theorem dX12_route_63 : decode cX12_route 63 = .ok (.iastore, 1) := by decide +kernel
theorem dX12_route_64 : decode cX12_route 64 = .ok (.aload_n 0, 1) := by decide +kernel
theorem dX12_route_65 : decode cX12_route 65 = .ok (.getfield 122, 3) := by decide +kernel
theorem dX12_route_68 : decode cX12_route 68 = .ok (.iload_n 1, 1) := by decide +kernel
theorem dX12_route_69 : decode cX12_route 69 = .ok (.iaload, 1) := by decide +kernel
theorem dX12_route_70 : decode cX12_route 70 = .ok (.ireturn, 1) := by decide +kernel
def M_X12_route : y_M := (yX12_route, cX12_route, 3, (Option.some Jvm.ClassFile.FieldType.int))
theorem n_X12_route : y_N0 M_X12_route 2 := ⟨(c_9 194 (by decide +kernel) rfl), (c_1 9 (by decide +kernel) rfl), ⟨by decide +kernel, by decide +kernel⟩, by decide +kernel⟩
set_option maxRecDepth 100000 in
def f_X12_route (p0 : Nat) (p1 : Int32) (p2 : Int32) (h : y_H) : Option (Int32 × y_H) :=
  if y_K h p0 = 13 then
  y_cl (f_X12_isShip p0 p1 h) (fun r1 h2 =>
  if r1 = true then
    y_cl (f_X12_in p2 0 7 h2) (fun r4 h5 =>
    if r4 = true then
      if y_K h5 p0 = 13 then
      y_cl (f_X12_portAt p0 p1 p2 h5) (fun r7 h8 =>
      if r7 = (-9 : Int32) then
        if y_K h8 p0 = 13 then
        if y_K h8 p0 = 13 then
        if y_K h8 (y_P h8 p0 42) = 100 ∧ y_ix p1 (y_N h8 (y_P h8 p0 42)) = true then
        if y_K h8 (y_P h8 p0 41) = 100 ∧ y_ix ((8 * p1) + (y_I h8 (y_P h8 p0 42) (Int32.toNatClampNeg p1))) (y_N h8 (y_P h8 p0 41)) = true then
        y_bd (s_I h8 (y_P h8 p0 41) (Int32.toNatClampNeg ((8 * p1) + (y_I h8 (y_P h8 p0 42) (Int32.toNatClampNeg p1)))) p2) (fun h10 =>
        if y_K h10 p0 = 13 then
        if y_K h10 (y_P h10 p0 42) = 100 ∧ y_ix p1 (y_N h10 (y_P h10 p0 42)) = true then
        if y_K h10 (y_P h10 p0 42) = 100 ∧ y_ix p1 (y_N h10 (y_P h10 p0 42)) = true then
        y_bd (s_I h10 (y_P h10 p0 42) (Int32.toNatClampNeg p1) ((y_I h10 (y_P h10 p0 42) (Int32.toNatClampNeg p1)) + 1)) (fun h13 =>
        if y_K h13 p0 = 13 then
        if y_K h13 (y_P h13 p0 42) = 100 ∧ y_ix p1 (y_N h13 (y_P h13 p0 42)) = true then
        some (y_I h13 (y_P h13 p0 42) (Int32.toNatClampNeg p1), h13)
        else none
        else none)
        else none
        else none
        else none)
        else none
        else none
        else none
        else none
      else
        some ((-3 : Int32), h8))
      else none
    else
      some ((-2 : Int32), h5))
  else
    some ((-1 : Int32), h2))
  else none
abbrev rm_X12_route : Room := { frames := 2, cells := 0, slots := 0, locals := 43 }
set_option maxRecDepth 100000 in
set_option maxHeartbeats 4000000 in
theorem k_X12_route {l : Launch} {G : y_G} {p0 : Nat} {p1 : Int32} {p2 : Int32} {h hz : y_H} {rz : Int32} (hf : f_X12_route p0 p1 p2 h = some (rz, hz)) : y_S l G M_X12_route rm_X12_route [y_p p0, .int p1, .int p2] h (some (.int rz)) hz := by
  refine y_start (lv := [(0, y_p p0), (1, .int p1), (2, .int p2)]) (by decide) (by simp [lg_sl, y_p_cat, y_ci, y_cj, M_X12_route]) (by simp [lv_args, y_p_cat, y_ci, y_cj]) (fun z ad0 => ?_)
  unfold f_X12_route at hf
  refine y_aload_n (x := p0) (pc2 := 1) rfl dX12_route_0 rfl ?_
  refine y_iload_n (pc2 := 2) rfl dX12_route_1 rfl ?_
  obtain ⟨g27, hf⟩ := y_g hf
  obtain ⟨r1, h2, c3, hf⟩ := y_clE hf
  refine y_callV (As := [.int p1]) (rm := rm_X12_isShip) (cells := 0) (slots := 0) (pc2 := 5) rfl dX12_route_2 n_X12_isShip l_BoxYardModel_414 i_X12_isShip e_X12_isShip (ci := 12) rfl rfl (by decide) g27 rfl rfl (by decide) (by decide) (by decide) (k_X12_isShip c3) ?_
  refine y_ifz_ne (tgt := 10) (pc2 := 8) rfl dX12_route_5 (by decide) (fun c26 => ?_) (fun c26 => ?_)
  · replace hf := y_it c26 hf
    refine y_iload_n (pc2 := 11) rfl dX12_route_10 rfl ?_
    refine y_iconst (v := 0) (pc2 := 12) rfl dX12_route_11 (by decide) ?_
    refine y_bipush (v := 7) (pc2 := 14) rfl dX12_route_12 (by decide) ?_
    obtain ⟨r4, h5, c6, hf⟩ := y_clE hf
    refine y_callS (As := [.int p2, .int 0, .int 7]) (rm := rm_X12_in) (cells := 0) (slots := 0) (pc2 := 17) rfl dX12_route_14 n_X12_in l_BoxYardModel_278 t_X12_in rfl rfl (by decide) (by decide) (by decide) (k_X12_in c6) ?_
    refine y_ifz_ne (tgt := 23) (pc2 := 20) rfl dX12_route_17 (by decide) (fun c25 => ?_) (fun c25 => ?_)
    · replace hf := y_it c25 hf
      refine y_aload_n (x := p0) (pc2 := 24) rfl dX12_route_23 rfl ?_
      refine y_iload_n (pc2 := 25) rfl dX12_route_24 rfl ?_
      refine y_iload_n (pc2 := 26) rfl dX12_route_25 rfl ?_
      obtain ⟨g24, hf⟩ := y_g hf
      obtain ⟨r7, h8, c9, hf⟩ := y_clE hf
      refine y_callV (As := [.int p1, .int p2]) (rm := rm_X12_portAt) (cells := 0) (slots := 0) (pc2 := 29) rfl dX12_route_26 n_X12_portAt l_BoxYardModel_417 i_X12_portAt e_X12_portAt (ci := 12) rfl rfl (by decide) g24 rfl rfl (by decide) (by decide) (by decide) (k_X12_portAt c9) ?_
      refine y_bipush (v := (-9 : Int32)) (pc2 := 31) rfl dX12_route_29 (by decide) ?_
      refine y_icmp_eq (tgt := 37) (pc2 := 34) rfl dX12_route_31 (by decide) (fun c23 => ?_) (fun c23 => ?_)
      · replace hf := y_it c23 hf
        refine y_aload_n (x := p0) (pc2 := 38) rfl dX12_route_37 rfl ?_
        obtain ⟨g22, hf⟩ := y_g hf
        refine y_getP (pc2 := 41) rfl dX12_route_38 F_BoxYardModel_119 (by decide) rfl g22 ?_
        refine y_bipush (v := 8) (pc2 := 43) rfl dX12_route_41 (by decide) ?_
        refine y_iload_n (pc2 := 44) rfl dX12_route_43 rfl ?_
        refine y_imul (pc2 := 45) rfl dX12_route_44 ?_
        refine y_aload_n (x := p0) (pc2 := 46) rfl dX12_route_45 rfl ?_
        obtain ⟨g21, hf⟩ := y_g hf
        refine y_getP (pc2 := 49) rfl dX12_route_46 F_BoxYardModel_122 (by decide) rfl g21 ?_
        refine y_iload_n (pc2 := 50) rfl dX12_route_49 rfl ?_
        obtain ⟨g20, hf⟩ := y_g hf
        refine y_iald (pc2 := 51) rfl dX12_route_50 g20.1 (y_ix_in g20.2) ?_
        refine y_iadd (pc2 := 52) rfl dX12_route_51 ?_
        refine y_iload_n (pc2 := 53) rfl dX12_route_52 rfl ?_
        obtain ⟨g12, hf⟩ := y_g hf
        obtain ⟨h10, e11, hf⟩ := y_bdE hf
        refine y_iast (x := p2) (pc2 := 54) rfl dX12_route_53 g12.1 (y_ix_in g12.2) e11 ?_
        refine y_aload_n (x := p0) (pc2 := 55) rfl dX12_route_54 rfl ?_
        obtain ⟨g19, hf⟩ := y_g hf
        refine y_getP (pc2 := 58) rfl dX12_route_55 F_BoxYardModel_122 (by decide) rfl g19 ?_
        refine y_iload_n (pc2 := 59) rfl dX12_route_58 rfl ?_
        refine y_dup2 (pc2 := 60) rfl dX12_route_59 rfl (y_p_cat _) ?_
        obtain ⟨g18, hf⟩ := y_g hf
        refine y_iald (pc2 := 61) rfl dX12_route_60 g18.1 (y_ix_in g18.2) ?_
        refine y_iconst (v := 1) (pc2 := 62) rfl dX12_route_61 (by decide) ?_
        refine y_iadd (pc2 := 63) rfl dX12_route_62 ?_
        obtain ⟨g15, hf⟩ := y_g hf
        obtain ⟨h13, e14, hf⟩ := y_bdE hf
        refine y_iast (x := (y_I h10 (y_P h10 p0 42) (Int32.toNatClampNeg p1)) + 1) (pc2 := 64) rfl dX12_route_63 g15.1 (y_ix_in g15.2) e14 ?_
        refine y_aload_n (x := p0) (pc2 := 65) rfl dX12_route_64 rfl ?_
        obtain ⟨g17, hf⟩ := y_g hf
        refine y_getP (pc2 := 68) rfl dX12_route_65 F_BoxYardModel_122 (by decide) rfl g17 ?_
        refine y_iload_n (pc2 := 69) rfl dX12_route_68 rfl ?_
        obtain ⟨g16, hf⟩ := y_g hf
        refine y_iald (pc2 := 70) rfl dX12_route_69 g16.1 (y_ix_in g16.2) ?_
        exact y_iretF hf dX12_route_70 rfl (by decide) (by decide)
      · replace hf := y_ie c23 hf
        refine y_bipush (v := (-3 : Int32)) (pc2 := 36) rfl dX12_route_34 (by decide) ?_
        exact y_iretF hf dX12_route_36 rfl (by decide) (by decide)
    · replace hf := y_ie c25 hf
      refine y_bipush (v := (-2 : Int32)) (pc2 := 22) rfl dX12_route_20 (by decide) ?_
      exact y_iretF hf dX12_route_22 rfl (by decide) (by decide)
  · replace hf := y_ie c26 hf
    refine y_iconst (v := (-1 : Int32)) (pc2 := 9) rfl dX12_route_8 (by decide) ?_
    exact y_iretF hf dX12_route_9 rfl (by decide) (by decide)
theorem dX12_plan_0 : decode cX12_plan 0 = .ok (.aload_n 0, 1) := by decide +kernel
theorem dX12_plan_1 : decode cX12_plan 1 = .ok (.iload_n 1, 1) := by decide +kernel
theorem dX12_plan_2 : decode cX12_plan 2 = .ok (.invokevirtual 298, 3) := by decide +kernel
theorem dX12_plan_5 : decode cX12_plan 5 = .ok (.ifCond .eq 17, 3) := by decide +kernel
theorem dX12_plan_8 : decode cX12_plan 8 = .ok (.iload_n 2, 1) := by decide +kernel
theorem dX12_plan_9 : decode cX12_plan 9 = .ok (.bipush (-9), 2) := by decide +kernel
theorem dX12_plan_11 : decode cX12_plan 11 = .ok (.if_icmp .eq 13, 3) := by decide +kernel
theorem dX12_plan_14 : decode cX12_plan 14 = .ok (.aload_n 0, 1) := by decide +kernel
theorem dX12_plan_15 : decode cX12_plan 15 = .ok (.iload_n 2, 1) := by decide +kernel
theorem dX12_plan_16 : decode cX12_plan 16 = .ok (.invokevirtual 414, 3) := by decide +kernel
theorem dX12_plan_19 : decode cX12_plan 19 = .ok (.ifCond .ne 5, 3) := by decide +kernel
theorem dX12_plan_22 : decode cX12_plan 22 = .ok (.iconst (-1), 1) := by decide +kernel
theorem dX12_plan_23 : decode cX12_plan 23 = .ok (.ireturn, 1) := by decide +kernel
theorem dX12_plan_24 : decode cX12_plan 24 = .ok (.iload_n 2, 1) := by decide +kernel
theorem dX12_plan_25 : decode cX12_plan 25 = .ok (.bipush (-9), 2) := by decide +kernel
theorem dX12_plan_27 : decode cX12_plan 27 = .ok (.if_icmp .eq 41, 3) := by decide +kernel
theorem dX12_plan_30 : decode cX12_plan 30 = .ok (.iload_n 3, 1) := by decide +kernel
theorem dX12_plan_31 : decode cX12_plan 31 = .ok (.bipush (-9), 2) := by decide +kernel
theorem dX12_plan_33 : decode cX12_plan 33 = .ok (.bipush 9, 2) := by decide +kernel
theorem dX12_plan_35 : decode cX12_plan 35 = .ok (.invokestatic 278, 3) := by decide +kernel
theorem dX12_plan_38 : decode cX12_plan 38 = .ok (.ifCond .eq 27, 3) := by decide +kernel
theorem dX12_plan_41 : decode cX12_plan 41 = .ok (.iload 4, 2) := by decide +kernel
theorem dX12_plan_43 : decode cX12_plan 43 = .ok (.bipush (-9), 2) := by decide +kernel
theorem dX12_plan_45 : decode cX12_plan 45 = .ok (.bipush 9, 2) := by decide +kernel
theorem dX12_plan_47 : decode cX12_plan 47 = .ok (.invokestatic 278, 3) := by decide +kernel
theorem dX12_plan_50 : decode cX12_plan 50 = .ok (.ifCond .eq 15, 3) := by decide +kernel
theorem dX12_plan_53 : decode cX12_plan 53 = .ok (.iload 5, 2) := by decide +kernel
theorem dX12_plan_55 : decode cX12_plan 55 = .ok (.bipush (-9), 2) := by decide +kernel
theorem dX12_plan_57 : decode cX12_plan 57 = .ok (.bipush 9, 2) := by decide +kernel
theorem dX12_plan_59 : decode cX12_plan 59 = .ok (.invokestatic 278, 3) := by decide +kernel
theorem dX12_plan_62 : decode cX12_plan 62 = .ok (.ifCond .ne 6, 3) := by decide +kernel
theorem dX12_plan_65 : decode cX12_plan 65 = .ok (.bipush (-2), 2) := by decide +kernel
theorem dX12_plan_67 : decode cX12_plan 67 = .ok (.ireturn, 1) := by decide +kernel
theorem dX12_plan_68 : decode cX12_plan 68 = .ok (.aload_n 0, 1) := by decide +kernel
theorem dX12_plan_69 : decode cX12_plan 69 = .ok (.getfield 29, 3) := by decide +kernel
theorem dX12_plan_72 : decode cX12_plan 72 = .ok (.iload_n 1, 1) := by decide +kernel
theorem dX12_plan_73 : decode cX12_plan 73 = .ok (.iaload, 1) := by decide +kernel
theorem dX12_plan_74 : decode cX12_plan 74 = .ok (.iconst 3, 1) := by decide +kernel
theorem dX12_plan_75 : decode cX12_plan 75 = .ok (.if_icmp .ne 6, 3) := by decide +kernel
theorem dX12_plan_78 : decode cX12_plan 78 = .ok (.bipush (-3), 2) := by decide +kernel
theorem dX12_plan_80 : decode cX12_plan 80 = .ok (.ireturn, 1) := by decide +kernel
theorem dX12_plan_81 : decode cX12_plan 81 = .ok (.aload_n 0, 1) := by decide +kernel
theorem dX12_plan_82 : decode cX12_plan 82 = .ok (.getfield 41, 3) := by decide +kernel
theorem dX12_plan_85 : decode cX12_plan 85 = .ok (.iload_n 1, 1) := by decide +kernel
theorem dX12_plan_86 : decode cX12_plan 86 = .ok (.iload_n 2, 1) := by decide +kernel
theorem dX12_plan_87 : decode cX12_plan 87 = .ok (.iastore, 1) := by decide +kernel
theorem dX12_plan_88 : decode cX12_plan 88 = .ok (.aload_n 0, 1) := by decide +kernel
theorem dX12_plan_89 : decode cX12_plan 89 = .ok (.getfield 44, 3) := by decide +kernel
theorem dX12_plan_92 : decode cX12_plan 92 = .ok (.iload_n 1, 1) := by decide +kernel
theorem dX12_plan_93 : decode cX12_plan 93 = .ok (.iload_n 3, 1) := by decide +kernel
theorem dX12_plan_94 : decode cX12_plan 94 = .ok (.iastore, 1) := by decide +kernel
theorem dX12_plan_95 : decode cX12_plan 95 = .ok (.aload_n 0, 1) := by decide +kernel
theorem dX12_plan_96 : decode cX12_plan 96 = .ok (.getfield 47, 3) := by decide +kernel
theorem dX12_plan_99 : decode cX12_plan 99 = .ok (.iload_n 1, 1) := by decide +kernel
theorem dX12_plan_100 : decode cX12_plan 100 = .ok (.iload 4, 2) := by decide +kernel
theorem dX12_plan_102 : decode cX12_plan 102 = .ok (.iastore, 1) := by decide +kernel
theorem dX12_plan_103 : decode cX12_plan 103 = .ok (.aload_n 0, 1) := by decide +kernel
theorem dX12_plan_104 : decode cX12_plan 104 = .ok (.getfield 50, 3) := by decide +kernel
theorem dX12_plan_107 : decode cX12_plan 107 = .ok (.iload_n 1, 1) := by decide +kernel
theorem dX12_plan_108 : decode cX12_plan 108 = .ok (.iload 5, 2) := by decide +kernel
theorem dX12_plan_110 : decode cX12_plan 110 = .ok (.iastore, 1) := by decide +kernel
theorem dX12_plan_111 : decode cX12_plan 111 = .ok (.aload_n 0, 1) := by decide +kernel
theorem dX12_plan_112 : decode cX12_plan 112 = .ok (.dup, 1) := by decide +kernel
theorem dX12_plan_113 : decode cX12_plan 113 = .ok (.getfield 237, 3) := by decide +kernel
theorem dX12_plan_116 : decode cX12_plan 116 = .ok (.iconst 1, 1) := by decide +kernel
theorem dX12_plan_117 : decode cX12_plan 117 = .ok (.iadd, 1) := by decide +kernel
theorem dX12_plan_118 : decode cX12_plan 118 = .ok (.putfield 237, 3) := by decide +kernel
theorem dX12_plan_121 : decode cX12_plan 121 = .ok (.aload_n 0, 1) := by decide +kernel
theorem dX12_plan_122 : decode cX12_plan 122 = .ok (.getfield 53, 3) := by decide +kernel
theorem dX12_plan_125 : decode cX12_plan 125 = .ok (.iload_n 1, 1) := by decide +kernel
theorem dX12_plan_126 : decode cX12_plan 126 = .ok (.aload_n 0, 1) := by decide +kernel
theorem dX12_plan_127 : decode cX12_plan 127 = .ok (.getfield 237, 3) := by decide +kernel
theorem dX12_plan_130 : decode cX12_plan 130 = .ok (.iastore, 1) := by decide +kernel
theorem dX12_plan_131 : decode cX12_plan 131 = .ok (.iconst 1, 1) := by decide +kernel
theorem dX12_plan_132 : decode cX12_plan 132 = .ok (.ireturn, 1) := by decide +kernel
def M_X12_plan : y_M := (yX12_plan, cX12_plan, 6, (Option.some Jvm.ClassFile.FieldType.int))
theorem n_X12_plan : y_N0 M_X12_plan 5 := ⟨(c_9 198 (by decide +kernel) rfl), (c_1 9 (by decide +kernel) rfl), ⟨by decide +kernel, by decide +kernel⟩, by decide +kernel⟩
theorem F_BoxYardModel_237 : y_F "BoxYardModel" 237 12 16 := ⟨_, _, _, rfl, by decide, Or.inl (c_7 138 (by decide +kernel) rfl)⟩
theorem F_BoxYardModel_53 : y_F "BoxYardModel" 53 12 15 := ⟨_, _, _, rfl, by decide, Or.inl (c_7 137 (by decide +kernel) rfl)⟩
set_option maxRecDepth 100000 in
def f_X12_plan (p0 : Nat) (p1 : Int32) (p2 : Int32) (p3 : Int32) (p4 : Int32) (p5 : Int32) (h : y_H) : Option (Int32 × y_H) :=
  if y_K h p0 = 13 then
  y_cl (f_X12_isBox p0 p1 h) (fun r1 h2 =>
  y_jn (fun (h4 : y_H) => (
      some ((-1 : Int32), h4) : Option (Int32 × y_H))) (fun j22 =>
  if r1 = true then
    y_jn (fun (v0_24 : Nat) (v1_24 : Int32) (v2_24 : Int32) (v3_24 : Int32) (v4_24 : Int32) (v5_24 : Int32) (h5 : y_H) => (
        y_jn (fun (v0_68 : Nat) (v1_68 : Int32) (v2_68 : Int32) (v3_68 : Int32) (v4_68 : Int32) (v5_68 : Int32) (h6 : y_H) => (
            if y_K h6 v0_68 = 13 then
            if y_K h6 (y_P h6 v0_68 7) = 100 ∧ y_ix v1_68 (y_N h6 (y_P h6 v0_68 7)) = true then
            if (y_I h6 (y_P h6 v0_68 7) (Int32.toNatClampNeg v1_68)) = 3 then
              some ((-3 : Int32), h6)
            else
              if y_K h6 v0_68 = 13 then
              if y_K h6 (y_P h6 v0_68 11) = 100 ∧ y_ix v1_68 (y_N h6 (y_P h6 v0_68 11)) = true then
              y_bd (s_I h6 (y_P h6 v0_68 11) (Int32.toNatClampNeg v1_68) v2_68) (fun h7 =>
              if y_K h7 v0_68 = 13 then
              if y_K h7 (y_P h7 v0_68 12) = 100 ∧ y_ix v1_68 (y_N h7 (y_P h7 v0_68 12)) = true then
              y_bd (s_I h7 (y_P h7 v0_68 12) (Int32.toNatClampNeg v1_68) v3_68) (fun h10 =>
              if y_K h10 v0_68 = 13 then
              if y_K h10 (y_P h10 v0_68 13) = 100 ∧ y_ix v1_68 (y_N h10 (y_P h10 v0_68 13)) = true then
              y_bd (s_I h10 (y_P h10 v0_68 13) (Int32.toNatClampNeg v1_68) v4_68) (fun h13 =>
              if y_K h13 v0_68 = 13 then
              if y_K h13 (y_P h13 v0_68 14) = 100 ∧ y_ix v1_68 (y_N h13 (y_P h13 v0_68 14)) = true then
              y_bd (s_I h13 (y_P h13 v0_68 14) (Int32.toNatClampNeg v1_68) v5_68) (fun h16 =>
              if y_K h16 v0_68 = 13 then
              if y_K h16 v0_68 = 13 then
              y_bd (s_I h16 v0_68 16 ((y_I h16 v0_68 16) + 1)) (fun h19 =>
              if y_K h19 v0_68 = 13 then
              if y_K h19 v0_68 = 13 then
              if y_K h19 (y_P h19 v0_68 15) = 100 ∧ y_ix v1_68 (y_N h19 (y_P h19 v0_68 15)) = true then
              y_bd (s_I h19 (y_P h19 v0_68 15) (Int32.toNatClampNeg v1_68) (y_I h19 v0_68 16)) (fun h22 =>
              some (1, h22))
              else none
              else none
              else none)
              else none
              else none)
              else none
              else none)
              else none
              else none)
              else none
              else none)
              else none
              else none
            else none
            else none : Option (Int32 × y_H))) (fun j68 =>
        if v2_24 = (-9 : Int32) then
          j68 v0_24 v1_24 v2_24 v3_24 v4_24 v5_24 h5
        else
          y_cl (f_X12_in v3_24 (-9 : Int32) 9 h5) (fun r35 h36 =>
          y_jn (fun (h38 : y_H) => (
              some ((-2 : Int32), h38) : Option (Int32 × y_H))) (fun j65 =>
          if r35 = true then
            y_cl (f_X12_in v4_24 (-9 : Int32) 9 h36) (fun r39 h40 =>
            if r39 = true then
              y_cl (f_X12_in v5_24 (-9 : Int32) 9 h40) (fun r42 h43 =>
              if r42 = true then
                j68 v0_24 v1_24 v2_24 v3_24 v4_24 v5_24 h43
              else
                j65 h43)
            else
              j65 h40)
          else
            j65 h36))) : Option (Int32 × y_H))) (fun j24 =>
    if p2 = (-9 : Int32) then
      j24 p0 p1 p2 p3 p4 p5 h2
    else
      if y_K h2 p0 = 13 then
      y_cl (f_X12_isShip p0 p2 h2) (fun r49 h50 =>
      if r49 = true then
        j24 p0 p1 p2 p3 p4 p5 h50
      else
        j22 h50)
      else none)
  else
    j22 h2))
  else none
abbrev rm_X12_plan : Room := { frames := 2, cells := 0, slots := 0, locals := 43 }
set_option maxRecDepth 100000 in
set_option maxHeartbeats 4000000 in
theorem k_X12_plan {l : Launch} {G : y_G} {p0 : Nat} {p1 : Int32} {p2 : Int32} {p3 : Int32} {p4 : Int32} {p5 : Int32} {h hz : y_H} {rz : Int32} (hf : f_X12_plan p0 p1 p2 p3 p4 p5 h = some (rz, hz)) : y_S l G M_X12_plan rm_X12_plan [y_p p0, .int p1, .int p2, .int p3, .int p4, .int p5] h (some (.int rz)) hz := by
  refine y_start (lv := [(0, y_p p0), (1, .int p1), (2, .int p2), (3, .int p3), (4, .int p4), (5, .int p5)]) (by decide) (by simp [lg_sl, y_p_cat, y_ci, y_cj, M_X12_plan]) (by simp [lv_args, y_p_cat, y_ci, y_cj]) (fun z ad0 => ?_)
  unfold f_X12_plan at hf
  refine y_aload_n (x := p0) (pc2 := 1) rfl dX12_plan_0 rfl ?_
  refine y_iload_n (pc2 := 2) rfl dX12_plan_1 rfl ?_
  obtain ⟨g56, hf⟩ := y_g hf
  obtain ⟨r1, h2, c3, hf⟩ := y_clE hf
  refine y_callV (As := [.int p1]) (rm := rm_X12_isBox) (cells := 0) (slots := 0) (pc2 := 5) rfl dX12_plan_2 n_X12_isBox l_BoxYardModel_298 i_X12_isBox e_X12_isBox (ci := 12) rfl rfl (by decide) g56 rfl rfl (by decide) (by decide) (by decide) (k_X12_isBox c3) ?_
  refine y_jnE hf (fun j => ∀ (h4 : y_H), j h4 = some (rz, hz) → y_V l G z rm_X12_plan M_X12_plan ad0 h (some (.int rz)) hz 22 [] [] h4 0 0) (fun h4 hf => ?_) (fun j22 hj22 hf => ?_)
  · refine y_iconst (v := (-1 : Int32)) (pc2 := 23) rfl dX12_plan_22 (by decide) ?_
    exact y_iretF hf dX12_plan_23 rfl (by decide) (by decide)
  · refine y_ifz_eq (tgt := 22) (pc2 := 8) rfl dX12_plan_5 (by decide) (fun c55 => ?_) (fun c55 => ?_)
    · replace hf := y_ie c55 hf
      exact y_pk [] rfl (hj22 _ hf)
    · replace hf := y_it c55 hf
      refine y_iload_n (pc2 := 9) rfl dX12_plan_8 rfl ?_
      refine y_bipush (v := (-9 : Int32)) (pc2 := 11) rfl dX12_plan_9 (by decide) ?_
      refine y_jnE hf (fun j => ∀ (v0_24 : Nat) (v1_24 : Int32) (v2_24 : Int32) (v3_24 : Int32) (v4_24 : Int32) (v5_24 : Int32) (h5 : y_H), j v0_24 v1_24 v2_24 v3_24 v4_24 v5_24 h5 = some (rz, hz) → y_V l G z rm_X12_plan M_X12_plan ad0 h (some (.int rz)) hz 24 [(0, y_p v0_24), (1, .int v1_24), (2, .int v2_24), (3, .int v3_24), (4, .int v4_24), (5, .int v5_24)] [] h5 0 0) (fun v0_24 v1_24 v2_24 v3_24 v4_24 v5_24 h5 hf => ?_) (fun j24 hj24 hf => ?_)
      · refine y_iload_n (pc2 := 25) rfl dX12_plan_24 rfl ?_
        refine y_bipush (v := (-9 : Int32)) (pc2 := 27) rfl dX12_plan_25 (by decide) ?_
        refine y_jnE hf (fun j => ∀ (v0_68 : Nat) (v1_68 : Int32) (v2_68 : Int32) (v3_68 : Int32) (v4_68 : Int32) (v5_68 : Int32) (h6 : y_H), j v0_68 v1_68 v2_68 v3_68 v4_68 v5_68 h6 = some (rz, hz) → y_V l G z rm_X12_plan M_X12_plan ad0 h (some (.int rz)) hz 68 [(0, y_p v0_68), (1, .int v1_68), (2, .int v2_68), (3, .int v3_68), (4, .int v4_68), (5, .int v5_68)] [] h6 0 0) (fun v0_68 v1_68 v2_68 v3_68 v4_68 v5_68 h6 hf => ?_) (fun j68 hj68 hf => ?_)
        · refine y_aload_n (x := v0_68) (pc2 := 69) rfl dX12_plan_68 rfl ?_
          obtain ⟨g34, hf⟩ := y_g hf
          refine y_getP (pc2 := 72) rfl dX12_plan_69 F_BoxYardModel_29 (by decide) rfl g34 ?_
          refine y_iload_n (pc2 := 73) rfl dX12_plan_72 rfl ?_
          obtain ⟨g33, hf⟩ := y_g hf
          refine y_iald (pc2 := 74) rfl dX12_plan_73 g33.1 (y_ix_in g33.2) ?_
          refine y_iconst (v := 3) (pc2 := 75) rfl dX12_plan_74 (by decide) ?_
          refine y_icmp_ne (tgt := 81) (pc2 := 78) rfl dX12_plan_75 (by decide) (fun c32 => ?_) (fun c32 => ?_)
          · replace hf := y_ie c32 hf
            refine y_aload_n (x := v0_68) (pc2 := 82) rfl dX12_plan_81 rfl ?_
            obtain ⟨g31, hf⟩ := y_g hf
            refine y_getP (pc2 := 85) rfl dX12_plan_82 F_BoxYardModel_41 (by decide) rfl g31 ?_
            refine y_iload_n (pc2 := 86) rfl dX12_plan_85 rfl ?_
            refine y_iload_n (pc2 := 87) rfl dX12_plan_86 rfl ?_
            obtain ⟨g9, hf⟩ := y_g hf
            obtain ⟨h7, e8, hf⟩ := y_bdE hf
            refine y_iast (x := v2_68) (pc2 := 88) rfl dX12_plan_87 g9.1 (y_ix_in g9.2) e8 ?_
            refine y_aload_n (x := v0_68) (pc2 := 89) rfl dX12_plan_88 rfl ?_
            obtain ⟨g30, hf⟩ := y_g hf
            refine y_getP (pc2 := 92) rfl dX12_plan_89 F_BoxYardModel_44 (by decide) rfl g30 ?_
            refine y_iload_n (pc2 := 93) rfl dX12_plan_92 rfl ?_
            refine y_iload_n (pc2 := 94) rfl dX12_plan_93 rfl ?_
            obtain ⟨g12, hf⟩ := y_g hf
            obtain ⟨h10, e11, hf⟩ := y_bdE hf
            refine y_iast (x := v3_68) (pc2 := 95) rfl dX12_plan_94 g12.1 (y_ix_in g12.2) e11 ?_
            refine y_aload_n (x := v0_68) (pc2 := 96) rfl dX12_plan_95 rfl ?_
            obtain ⟨g29, hf⟩ := y_g hf
            refine y_getP (pc2 := 99) rfl dX12_plan_96 F_BoxYardModel_47 (by decide) rfl g29 ?_
            refine y_iload_n (pc2 := 100) rfl dX12_plan_99 rfl ?_
            refine y_iload (pc2 := 102) rfl dX12_plan_100 rfl ?_
            obtain ⟨g15, hf⟩ := y_g hf
            obtain ⟨h13, e14, hf⟩ := y_bdE hf
            refine y_iast (x := v4_68) (pc2 := 103) rfl dX12_plan_102 g15.1 (y_ix_in g15.2) e14 ?_
            refine y_aload_n (x := v0_68) (pc2 := 104) rfl dX12_plan_103 rfl ?_
            obtain ⟨g28, hf⟩ := y_g hf
            refine y_getP (pc2 := 107) rfl dX12_plan_104 F_BoxYardModel_50 (by decide) rfl g28 ?_
            refine y_iload_n (pc2 := 108) rfl dX12_plan_107 rfl ?_
            refine y_iload (pc2 := 110) rfl dX12_plan_108 rfl ?_
            obtain ⟨g18, hf⟩ := y_g hf
            obtain ⟨h16, e17, hf⟩ := y_bdE hf
            refine y_iast (x := v5_68) (pc2 := 111) rfl dX12_plan_110 g18.1 (y_ix_in g18.2) e17 ?_
            refine y_aload_n (x := v0_68) (pc2 := 112) rfl dX12_plan_111 rfl ?_
            refine y_dup (pc2 := 113) rfl dX12_plan_112 (y_p_cat _) ?_
            obtain ⟨g27, hf⟩ := y_g hf
            refine y_getI (pc2 := 116) rfl dX12_plan_113 F_BoxYardModel_237 (by decide) rfl g27 ?_
            refine y_iconst (v := 1) (pc2 := 117) rfl dX12_plan_116 (by decide) ?_
            refine y_iadd (pc2 := 118) rfl dX12_plan_117 ?_
            obtain ⟨g21, hf⟩ := y_g hf
            obtain ⟨h19, e20, hf⟩ := y_bdE hf
            refine y_putI (x := (y_I h16 v0_68 16) + 1) (pc2 := 121) rfl dX12_plan_118 Fp_BoxYardModel_237 (by decide) rfl g21 e20 ?_
            refine y_aload_n (x := v0_68) (pc2 := 122) rfl dX12_plan_121 rfl ?_
            obtain ⟨g26, hf⟩ := y_g hf
            refine y_getP (pc2 := 125) rfl dX12_plan_122 F_BoxYardModel_53 (by decide) rfl g26 ?_
            refine y_iload_n (pc2 := 126) rfl dX12_plan_125 rfl ?_
            refine y_aload_n (x := v0_68) (pc2 := 127) rfl dX12_plan_126 rfl ?_
            obtain ⟨g25, hf⟩ := y_g hf
            refine y_getI (pc2 := 130) rfl dX12_plan_127 F_BoxYardModel_237 (by decide) rfl g25 ?_
            obtain ⟨g24, hf⟩ := y_g hf
            obtain ⟨h22, e23, hf⟩ := y_bdE hf
            refine y_iast (x := y_I h19 v0_68 16) (pc2 := 131) rfl dX12_plan_130 g24.1 (y_ix_in g24.2) e23 ?_
            refine y_iconst (v := 1) (pc2 := 132) rfl dX12_plan_131 (by decide) ?_
            exact y_iretF hf dX12_plan_132 rfl (by decide) (by decide)
          · replace hf := y_it c32 hf
            refine y_bipush (v := (-3 : Int32)) (pc2 := 80) rfl dX12_plan_78 (by decide) ?_
            exact y_iretF hf dX12_plan_80 rfl (by decide) (by decide)
        · refine y_icmp_eq (tgt := 68) (pc2 := 30) rfl dX12_plan_27 (by decide) (fun c48 => ?_) (fun c48 => ?_)
          · replace hf := y_it c48 hf
            exact y_pk [0, 1, 2, 3, 4, 5] rfl (hj68 _ _ _ _ _ _ _ hf)
          · replace hf := y_ie c48 hf
            refine y_iload_n (pc2 := 31) rfl dX12_plan_30 rfl ?_
            refine y_bipush (v := (-9 : Int32)) (pc2 := 33) rfl dX12_plan_31 (by decide) ?_
            refine y_bipush (v := 9) (pc2 := 35) rfl dX12_plan_33 (by decide) ?_
            obtain ⟨r35, h36, c37, hf⟩ := y_clE hf
            refine y_callS (As := [.int v3_24, .int (-9 : Int32), .int 9]) (rm := rm_X12_in) (cells := 0) (slots := 0) (pc2 := 38) rfl dX12_plan_35 n_X12_in l_BoxYardModel_278 t_X12_in rfl rfl (by decide) (by decide) (by decide) (k_X12_in c37) ?_
            refine y_jnE hf (fun j => ∀ (h38 : y_H), j h38 = some (rz, hz) → y_V l G z rm_X12_plan M_X12_plan ad0 h (some (.int rz)) hz 65 [] [] h38 0 0) (fun h38 hf => ?_) (fun j65 hj65 hf => ?_)
            · refine y_bipush (v := (-2 : Int32)) (pc2 := 67) rfl dX12_plan_65 (by decide) ?_
              exact y_iretF hf dX12_plan_67 rfl (by decide) (by decide)
            · refine y_ifz_eq (tgt := 65) (pc2 := 41) rfl dX12_plan_38 (by decide) (fun c47 => ?_) (fun c47 => ?_)
              · replace hf := y_ie c47 hf
                exact y_pk [] rfl (hj65 _ hf)
              · replace hf := y_it c47 hf
                refine y_iload (pc2 := 43) rfl dX12_plan_41 rfl ?_
                refine y_bipush (v := (-9 : Int32)) (pc2 := 45) rfl dX12_plan_43 (by decide) ?_
                refine y_bipush (v := 9) (pc2 := 47) rfl dX12_plan_45 (by decide) ?_
                obtain ⟨r39, h40, c41, hf⟩ := y_clE hf
                refine y_callS (As := [.int v4_24, .int (-9 : Int32), .int 9]) (rm := rm_X12_in) (cells := 0) (slots := 0) (pc2 := 50) rfl dX12_plan_47 n_X12_in l_BoxYardModel_278 t_X12_in rfl rfl (by decide) (by decide) (by decide) (k_X12_in c41) ?_
                refine y_ifz_eq (tgt := 65) (pc2 := 53) rfl dX12_plan_50 (by decide) (fun c46 => ?_) (fun c46 => ?_)
                · replace hf := y_ie c46 hf
                  exact y_pk [] rfl (hj65 _ hf)
                · replace hf := y_it c46 hf
                  refine y_iload (pc2 := 55) rfl dX12_plan_53 rfl ?_
                  refine y_bipush (v := (-9 : Int32)) (pc2 := 57) rfl dX12_plan_55 (by decide) ?_
                  refine y_bipush (v := 9) (pc2 := 59) rfl dX12_plan_57 (by decide) ?_
                  obtain ⟨r42, h43, c44, hf⟩ := y_clE hf
                  refine y_callS (As := [.int v5_24, .int (-9 : Int32), .int 9]) (rm := rm_X12_in) (cells := 0) (slots := 0) (pc2 := 62) rfl dX12_plan_59 n_X12_in l_BoxYardModel_278 t_X12_in rfl rfl (by decide) (by decide) (by decide) (k_X12_in c44) ?_
                  refine y_ifz_ne (tgt := 68) (pc2 := 65) rfl dX12_plan_62 (by decide) (fun c45 => ?_) (fun c45 => ?_)
                  · replace hf := y_it c45 hf
                    exact y_pk [0, 1, 2, 3, 4, 5] rfl (hj68 _ _ _ _ _ _ _ hf)
                  · replace hf := y_ie c45 hf
                    exact y_pk [] rfl (hj65 _ hf)
      · refine y_icmp_eq (tgt := 24) (pc2 := 14) rfl dX12_plan_11 (by decide) (fun c54 => ?_) (fun c54 => ?_)
        · replace hf := y_it c54 hf
          exact y_pk [0, 1, 2, 3, 4, 5] rfl (hj24 _ _ _ _ _ _ _ hf)
        · replace hf := y_ie c54 hf
          refine y_aload_n (x := p0) (pc2 := 15) rfl dX12_plan_14 rfl ?_
          refine y_iload_n (pc2 := 16) rfl dX12_plan_15 rfl ?_
          obtain ⟨g53, hf⟩ := y_g hf
          obtain ⟨r49, h50, c51, hf⟩ := y_clE hf
          refine y_callV (As := [.int p2]) (rm := rm_X12_isShip) (cells := 0) (slots := 0) (pc2 := 19) rfl dX12_plan_16 n_X12_isShip l_BoxYardModel_414 i_X12_isShip e_X12_isShip (ci := 12) rfl rfl (by decide) g53 rfl rfl (by decide) (by decide) (by decide) (k_X12_isShip c51) ?_
          refine y_ifz_ne (tgt := 24) (pc2 := 22) rfl dX12_plan_19 (by decide) (fun c52 => ?_) (fun c52 => ?_)
          · replace hf := y_it c52 hf
            exact y_pk [0, 1, 2, 3, 4, 5] rfl (hj24 _ _ _ _ _ _ _ hf)
          · replace hf := y_ie c52 hf
            exact y_pk [] rfl (hj22 _ hf)
theorem dX12_boxesIn_0 : decode cX12_boxesIn 0 = .ok (.iconst 0, 1) := by decide +kernel
theorem dX12_boxesIn_1 : decode cX12_boxesIn 1 = .ok (.istore_n 2, 1) := by decide +kernel
theorem dX12_boxesIn_2 : decode cX12_boxesIn 2 = .ok (.iconst 0, 1) := by decide +kernel
theorem dX12_boxesIn_3 : decode cX12_boxesIn 3 = .ok (.istore_n 3, 1) := by decide +kernel
theorem dX12_boxesIn_4 : decode cX12_boxesIn 4 = .ok (.iload_n 3, 1) := by decide +kernel
theorem dX12_boxesIn_5 : decode cX12_boxesIn 5 = .ok (.aload_n 0, 1) := by decide +kernel
theorem dX12_boxesIn_6 : decode cX12_boxesIn 6 = .ok (.getfield 234, 3) := by decide +kernel
theorem dX12_boxesIn_9 : decode cX12_boxesIn 9 = .ok (.if_icmp .ge 37, 3) := by decide +kernel
theorem dX12_boxesIn_12 : decode cX12_boxesIn 12 = .ok (.iload_n 2, 1) := by decide +kernel
theorem dX12_boxesIn_13 : decode cX12_boxesIn 13 = .ok (.aload_n 0, 1) := by decide +kernel
theorem dX12_boxesIn_14 : decode cX12_boxesIn 14 = .ok (.getfield 29, 3) := by decide +kernel
theorem dX12_boxesIn_17 : decode cX12_boxesIn 17 = .ok (.iload_n 3, 1) := by decide +kernel
theorem dX12_boxesIn_18 : decode cX12_boxesIn 18 = .ok (.iaload, 1) := by decide +kernel
theorem dX12_boxesIn_19 : decode cX12_boxesIn 19 = .ok (.iconst 3, 1) := by decide +kernel
theorem dX12_boxesIn_20 : decode cX12_boxesIn 20 = .ok (.if_icmp .ne 17, 3) := by decide +kernel
theorem dX12_boxesIn_23 : decode cX12_boxesIn 23 = .ok (.aload_n 0, 1) := by decide +kernel
theorem dX12_boxesIn_24 : decode cX12_boxesIn 24 = .ok (.getfield 32, 3) := by decide +kernel
theorem dX12_boxesIn_27 : decode cX12_boxesIn 27 = .ok (.iload_n 3, 1) := by decide +kernel
theorem dX12_boxesIn_28 : decode cX12_boxesIn 28 = .ok (.iaload, 1) := by decide +kernel
theorem dX12_boxesIn_29 : decode cX12_boxesIn 29 = .ok (.iload_n 1, 1) := by decide +kernel
theorem dX12_boxesIn_30 : decode cX12_boxesIn 30 = .ok (.if_icmp .ne 7, 3) := by decide +kernel
theorem dX12_boxesIn_33 : decode cX12_boxesIn 33 = .ok (.iconst 1, 1) := by decide +kernel
theorem dX12_boxesIn_34 : decode cX12_boxesIn 34 = .ok (.goto 4, 3) := by decide +kernel
theorem dX12_boxesIn_37 : decode cX12_boxesIn 37 = .ok (.iconst 0, 1) := by decide +kernel
theorem dX12_boxesIn_38 : decode cX12_boxesIn 38 = .ok (.iadd, 1) := by decide +kernel
theorem dX12_boxesIn_39 : decode cX12_boxesIn 39 = .ok (.istore_n 2, 1) := by decide +kernel
theorem dX12_boxesIn_40 : decode cX12_boxesIn 40 = .ok (.iinc 3 1, 3) := by decide +kernel
theorem dX12_boxesIn_43 : decode cX12_boxesIn 43 = .ok (.goto (-39), 3) := by decide +kernel
theorem dX12_boxesIn_46 : decode cX12_boxesIn 46 = .ok (.iload_n 2, 1) := by decide +kernel
theorem dX12_boxesIn_47 : decode cX12_boxesIn 47 = .ok (.ireturn, 1) := by decide +kernel
def M_X12_boxesIn : y_M := (yX12_boxesIn, cX12_boxesIn, 4, (Option.some Jvm.ClassFile.FieldType.int))
theorem n_X12_boxesIn : y_N0 M_X12_boxesIn 1 := ⟨(c_9 208 (by decide +kernel) rfl), (c_1 9 (by decide +kernel) rfl), ⟨by decide +kernel, by decide +kernel⟩, by decide +kernel⟩
set_option maxRecDepth 100000 in
def f_X12_boxesIn (p0 : Nat) (p1 : Int32) (h : y_H) : Option (Int32 × y_H) :=
  y_jl (fun (_ : Nat) (_ : Int32) (_ : Int32) (_ : Int32) (_ : y_H) => (none : Option (Int32 × y_H))) (fun j4 (v0_4 : Nat) (v1_4 : Int32) (v2_4 : Int32) (v3_4 : Int32) (h1 : y_H) =>
      if y_K h1 v0_4 = 13 then
      if (y_I h1 v0_4 0) ≤ v3_4 then
        some (v2_4, h1)
      else
        if y_K h1 v0_4 = 13 then
        if y_K h1 (y_P h1 v0_4 7) = 100 ∧ y_ix v3_4 (y_N h1 (y_P h1 v0_4 7)) = true then
        if (y_I h1 (y_P h1 v0_4 7) (Int32.toNatClampNeg v3_4)) = 3 then
          if y_K h1 v0_4 = 13 then
          if y_K h1 (y_P h1 v0_4 8) = 100 ∧ y_ix v3_4 (y_N h1 (y_P h1 v0_4 8)) = true then
          if (y_I h1 (y_P h1 v0_4 8) (Int32.toNatClampNeg v3_4)) = v1_4 then
            j4 v0_4 v1_4 (v2_4 + 1) (v3_4 + 1) h1
          else
            j4 v0_4 v1_4 (v2_4 + 0) (v3_4 + 1) h1
          else none
          else none
        else
          j4 v0_4 v1_4 (v2_4 + 0) (v3_4 + 1) h1
        else none
        else none
      else none) (fun j4 =>
  j4 p0 p1 0 0 h)
abbrev rm_X12_boxesIn : Room := { frames := 0, cells := 0, slots := 0, locals := 0 }
set_option maxRecDepth 100000 in
set_option maxHeartbeats 4000000 in
theorem k_X12_boxesIn {l : Launch} {G : y_G} {p0 : Nat} {p1 : Int32} {h hz : y_H} {rz : Int32} (hf : f_X12_boxesIn p0 p1 h = some (rz, hz)) : y_S l G M_X12_boxesIn rm_X12_boxesIn [y_p p0, .int p1] h (some (.int rz)) hz := by
  refine y_start (lv := [(0, y_p p0), (1, .int p1)]) (by decide) (by simp [lg_sl, y_p_cat, y_ci, y_cj, M_X12_boxesIn]) (by simp [lv_args, y_p_cat, y_ci, y_cj]) (fun z ad0 => ?_)
  unfold f_X12_boxesIn at hf
  refine y_iconst (v := 0) (pc2 := 1) rfl dX12_boxesIn_0 (by decide) ?_
  refine y_istore_n (lv' := [(2, .int 0), (0, y_p p0), (1, .int p1)]) (pc2 := 2) rfl dX12_boxesIn_1 (by decide) rfl ?_
  refine y_iconst (v := 0) (pc2 := 3) rfl dX12_boxesIn_2 (by decide) ?_
  refine y_jlE hf (fun j => ∀ (v0_4 : Nat) (v1_4 : Int32) (v2_4 : Int32) (v3_4 : Int32) (h1 : y_H), j v0_4 v1_4 v2_4 v3_4 h1 = some (rz, hz) → y_V l G z rm_X12_boxesIn M_X12_boxesIn ad0 h (some (.int rz)) hz 4 [(0, y_p v0_4), (1, .int v1_4), (2, .int v2_4), (3, .int v3_4)] [] h1 0 0) (fun _ _ _ _ _ hf => by cases hf) (fun j4 hj4 v0_4 v1_4 v2_4 v3_4 h1 hf => ?_) (fun j4 hj4 hf => ?_)
  · refine y_iload_n (pc2 := 5) rfl dX12_boxesIn_4 rfl ?_
    refine y_aload_n (x := v0_4) (pc2 := 6) rfl dX12_boxesIn_5 rfl ?_
    obtain ⟨g9, hf⟩ := y_g hf
    refine y_getI (pc2 := 9) rfl dX12_boxesIn_6 F_BoxYardModel_234 (by decide) rfl g9 ?_
    refine y_icmp_ge (tgt := 46) (pc2 := 12) rfl dX12_boxesIn_9 (by decide) (fun c8 => ?_) (fun c8 => ?_)
    · replace hf := y_it c8 hf
      refine y_iload_n (pc2 := 47) rfl dX12_boxesIn_46 rfl ?_
      exact y_iretF hf dX12_boxesIn_47 rfl (by decide) (by decide)
    · replace hf := y_ie c8 hf
      refine y_iload_n (pc2 := 13) rfl dX12_boxesIn_12 rfl ?_
      refine y_aload_n (x := v0_4) (pc2 := 14) rfl dX12_boxesIn_13 rfl ?_
      obtain ⟨g7, hf⟩ := y_g hf
      refine y_getP (pc2 := 17) rfl dX12_boxesIn_14 F_BoxYardModel_29 (by decide) rfl g7 ?_
      refine y_iload_n (pc2 := 18) rfl dX12_boxesIn_17 rfl ?_
      obtain ⟨g6, hf⟩ := y_g hf
      refine y_iald (pc2 := 19) rfl dX12_boxesIn_18 g6.1 (y_ix_in g6.2) ?_
      refine y_iconst (v := 3) (pc2 := 20) rfl dX12_boxesIn_19 (by decide) ?_
      refine y_icmp_ne (tgt := 37) (pc2 := 23) rfl dX12_boxesIn_20 (by decide) (fun c5 => ?_) (fun c5 => ?_)
      · replace hf := y_ie c5 hf
        refine y_iconst (v := 0) (pc2 := 38) rfl dX12_boxesIn_37 (by decide) ?_
        refine y_iadd (pc2 := 39) rfl dX12_boxesIn_38 ?_
        refine y_istore_n (lv' := [(2, .int (v2_4 + 0)), (0, y_p v0_4), (1, .int v1_4), (3, .int v3_4)]) (pc2 := 40) rfl dX12_boxesIn_39 (by decide) rfl ?_
        refine y_iinc (v := v3_4 + 1) (lv' := [(3, .int (v3_4 + 1)), (2, .int (v2_4 + 0)), (0, y_p v0_4), (1, .int v1_4)]) (pc2 := 43) rfl dX12_boxesIn_40 rfl rfl (by decide) rfl ?_
        refine y_goto (tgt := 4) dX12_boxesIn_43 (by decide) ?_
        exact y_pk [2, 3, 1, 0] rfl (hj4 _ _ _ _ _ hf)
      · replace hf := y_it c5 hf
        refine y_aload_n (x := v0_4) (pc2 := 24) rfl dX12_boxesIn_23 rfl ?_
        obtain ⟨g4, hf⟩ := y_g hf
        refine y_getP (pc2 := 27) rfl dX12_boxesIn_24 F_BoxYardModel_32 (by decide) rfl g4 ?_
        refine y_iload_n (pc2 := 28) rfl dX12_boxesIn_27 rfl ?_
        obtain ⟨g3, hf⟩ := y_g hf
        refine y_iald (pc2 := 29) rfl dX12_boxesIn_28 g3.1 (y_ix_in g3.2) ?_
        refine y_iload_n (pc2 := 30) rfl dX12_boxesIn_29 rfl ?_
        refine y_icmp_ne (tgt := 37) (pc2 := 33) rfl dX12_boxesIn_30 (by decide) (fun c2 => ?_) (fun c2 => ?_)
        · replace hf := y_ie c2 hf
          refine y_iconst (v := 0) (pc2 := 38) rfl dX12_boxesIn_37 (by decide) ?_
          refine y_iadd (pc2 := 39) rfl dX12_boxesIn_38 ?_
          refine y_istore_n (lv' := [(2, .int (v2_4 + 0)), (0, y_p v0_4), (1, .int v1_4), (3, .int v3_4)]) (pc2 := 40) rfl dX12_boxesIn_39 (by decide) rfl ?_
          refine y_iinc (v := v3_4 + 1) (lv' := [(3, .int (v3_4 + 1)), (2, .int (v2_4 + 0)), (0, y_p v0_4), (1, .int v1_4)]) (pc2 := 43) rfl dX12_boxesIn_40 rfl rfl (by decide) rfl ?_
          refine y_goto (tgt := 4) dX12_boxesIn_43 (by decide) ?_
          exact y_pk [2, 3, 1, 0] rfl (hj4 _ _ _ _ _ hf)
        · replace hf := y_it c2 hf
          refine y_iconst (v := 1) (pc2 := 34) rfl dX12_boxesIn_33 (by decide) ?_
          refine y_goto (tgt := 38) dX12_boxesIn_34 (by decide) ?_
          refine y_iadd (pc2 := 39) rfl dX12_boxesIn_38 ?_
          refine y_istore_n (lv' := [(2, .int (v2_4 + 1)), (0, y_p v0_4), (1, .int v1_4), (3, .int v3_4)]) (pc2 := 40) rfl dX12_boxesIn_39 (by decide) rfl ?_
          refine y_iinc (v := v3_4 + 1) (lv' := [(3, .int (v3_4 + 1)), (2, .int (v2_4 + 1)), (0, y_p v0_4), (1, .int v1_4)]) (pc2 := 43) rfl dX12_boxesIn_40 rfl rfl (by decide) rfl ?_
          refine y_goto (tgt := 4) dX12_boxesIn_43 (by decide) ?_
          exact y_pk [2, 3, 1, 0] rfl (hj4 _ _ _ _ _ hf)
  · refine y_istore_n (lv' := [(3, .int 0), (2, .int 0), (0, y_p p0), (1, .int p1)]) (pc2 := 4) rfl dX12_boxesIn_3 (by decide) rfl ?_
    exact y_pk [2, 3, 1, 0] rfl (hj4 _ _ _ _ _ hf)
theorem dX12_sum_0 : decode cX12_sum 0 = .ok (.aload_n 0, 1) := by decide +kernel
theorem dX12_sum_1 : decode cX12_sum 1 = .ok (.iload_n 1, 1) := by decide +kernel
theorem dX12_sum_2 : decode cX12_sum 2 = .ok (.invokevirtual 414, 3) := by decide +kernel
theorem dX12_sum_5 : decode cX12_sum 5 = .ok (.ifCond .ne 7, 3) := by decide +kernel
theorem dX12_sum_8 : decode cX12_sum 8 = .ok (.ldc_w 421, 3) := by decide +kernel
theorem dX12_sum_11 : decode cX12_sum 11 = .ok (.ireturn, 1) := by decide +kernel
theorem dX12_sum_12 : decode cX12_sum 12 = .ok (.iload_n 2, 1) := by decide +kernel
theorem dX12_sum_13 : decode cX12_sum 13 = .ok (.iconst 0, 1) := by decide +kernel
theorem dX12_sum_14 : decode cX12_sum 14 = .ok (.bipush 6, 2) := by decide +kernel
theorem dX12_sum_16 : decode cX12_sum 16 = .ok (.invokestatic 278, 3) := by decide +kernel
theorem dX12_sum_19 : decode cX12_sum 19 = .ok (.ifCond .ne 7, 3) := by decide +kernel
theorem dX12_sum_22 : decode cX12_sum 22 = .ok (.ldc_w 422, 3) := by decide +kernel
theorem dX12_sum_25 : decode cX12_sum 25 = .ok (.ireturn, 1) := by decide +kernel
theorem dX12_sum_26 : decode cX12_sum 26 = .ok (.iload_n 2, 1) := by decide +kernel
theorem dX12_sum_27 : decode cX12_sum 27 = .ok (.iconst 4, 1) := by decide +kernel
theorem dX12_sum_28 : decode cX12_sum 28 = .ok (.if_icmp .ge 12, 3) := by decide +kernel
theorem dX12_sum_31 : decode cX12_sum 31 = .ok (.aload_n 0, 1) := by decide +kernel
theorem dX12_sum_32 : decode cX12_sum 32 = .ok (.iload_n 1, 1) := by decide +kernel
theorem dX12_sum_33 : decode cX12_sum 33 = .ok (.iload_n 2, 1) := by decide +kernel
theorem dX12_sum_34 : decode cX12_sum 34 = .ok (.invokevirtual 391, 3) := by decide +kernel
theorem dX12_sum_37 : decode cX12_sum 37 = .ok (.goto 61, 3) := by decide +kernel
theorem dX12_sum_40 : decode cX12_sum 40 = .ok (.iload_n 2, 1) := by decide +kernel
theorem dX12_sum_41 : decode cX12_sum 41 = .ok (.iconst 4, 1) := by decide +kernel
theorem dX12_sum_42 : decode cX12_sum 42 = .ok (.if_icmp .ne 12, 3) := by decide +kernel
theorem dX12_sum_45 : decode cX12_sum 45 = .ok (.aload_n 0, 1) := by decide +kernel
theorem dX12_sum_46 : decode cX12_sum 46 = .ok (.getfield 128, 3) := by decide +kernel
theorem dX12_sum_49 : decode cX12_sum 49 = .ok (.iload_n 1, 1) := by decide +kernel
theorem dX12_sum_50 : decode cX12_sum 50 = .ok (.iaload, 1) := by decide +kernel
theorem dX12_sum_51 : decode cX12_sum 51 = .ok (.goto 47, 3) := by decide +kernel
theorem dX12_sum_54 : decode cX12_sum 54 = .ok (.iload_n 2, 1) := by decide +kernel
theorem dX12_sum_55 : decode cX12_sum 55 = .ok (.bipush 6, 2) := by decide +kernel
theorem dX12_sum_57 : decode cX12_sum 57 = .ok (.if_icmp .ne 11, 3) := by decide +kernel
theorem dX12_sum_60 : decode cX12_sum 60 = .ok (.aload_n 0, 1) := by decide +kernel
theorem dX12_sum_61 : decode cX12_sum 61 = .ok (.iload_n 1, 1) := by decide +kernel
theorem dX12_sum_62 : decode cX12_sum 62 = .ok (.invokevirtual 423, 3) := by decide +kernel
theorem dX12_sum_65 : decode cX12_sum 65 = .ok (.goto 33, 3) := by decide +kernel
theorem dX12_sum_68 : decode cX12_sum 68 = .ok (.aload_n 0, 1) := by decide +kernel
theorem dX12_sum_69 : decode cX12_sum 69 = .ok (.getfield 122, 3) := by decide +kernel
theorem dX12_sum_72 : decode cX12_sum 72 = .ok (.iload_n 1, 1) := by decide +kernel
theorem dX12_sum_73 : decode cX12_sum 73 = .ok (.iaload, 1) := by decide +kernel
theorem dX12_sum_74 : decode cX12_sum 74 = .ok (.ifCond .ne 8, 3) := by decide +kernel
theorem dX12_sum_77 : decode cX12_sum 77 = .ok (.bipush (-9), 2) := by decide +kernel
theorem dX12_sum_79 : decode cX12_sum 79 = .ok (.goto 19, 3) := by decide +kernel
theorem dX12_sum_82 : decode cX12_sum 82 = .ok (.aload_n 0, 1) := by decide +kernel
theorem dX12_sum_83 : decode cX12_sum 83 = .ok (.getfield 119, 3) := by decide +kernel
theorem dX12_sum_86 : decode cX12_sum 86 = .ok (.bipush 8, 2) := by decide +kernel
theorem dX12_sum_88 : decode cX12_sum 88 = .ok (.iload_n 1, 1) := by decide +kernel
theorem dX12_sum_89 : decode cX12_sum 89 = .ok (.imul, 1) := by decide +kernel
theorem dX12_sum_90 : decode cX12_sum 90 = .ok (.aload_n 0, 1) := by decide +kernel
theorem dX12_sum_91 : decode cX12_sum 91 = .ok (.getfield 125, 3) := by decide +kernel
theorem dX12_sum_94 : decode cX12_sum 94 = .ok (.iload_n 1, 1) := by decide +kernel
theorem dX12_sum_95 : decode cX12_sum 95 = .ok (.iaload, 1) := by decide +kernel
theorem dX12_sum_96 : decode cX12_sum 96 = .ok (.iadd, 1) := by decide +kernel
theorem dX12_sum_97 : decode cX12_sum 97 = .ok (.iaload, 1) := by decide +kernel
theorem dX12_sum_98 : decode cX12_sum 98 = .ok (.ireturn, 1) := by decide +kernel
def M_X12_sum : y_M := (yX12_sum, cX12_sum, 3, (Option.some Jvm.ClassFile.FieldType.int))
theorem n_X12_sum : y_N0 M_X12_sum 2 := ⟨(c_9 202 (by decide +kernel) rfl), (c_1 9 (by decide +kernel) rfl), ⟨by decide +kernel, by decide +kernel⟩, by decide +kernel⟩
theorem l_BoxYardModel_423 : y_lnk "BoxYardModel" 423 M_X12_boxesIn := Or.inl (c_9 205 (by decide +kernel) rfl)
theorem i_X12_boxesIn : Cond.instanceMethod (M_X12_boxesIn).1 ∈ y_tb := (c_9 207 (by decide +kernel) rfl)
theorem e_X12_boxesIn : Cond.selects (M_X12_boxesIn).1.cls (M_X12_boxesIn).1 (M_X12_boxesIn).1 ∈ y_tb := (m_s 97 (by decide +kernel) rfl)
theorem k_BoxYardModel_422 : Cond.constant "BoxYardModel" 422 (-2000000002) ∈ y_tb := (c_9 204 (by decide +kernel) rfl)
theorem k_BoxYardModel_421 : Cond.constant "BoxYardModel" 421 (-2000000001) ∈ y_tb := (c_9 203 (by decide +kernel) rfl)
set_option maxRecDepth 100000 in
def f_X12_sum (p0 : Nat) (p1 : Int32) (p2 : Int32) (h : y_H) : Option (Int32 × y_H) :=
  if y_K h p0 = 13 then
  y_cl (f_X12_isShip p0 p1 h) (fun r1 h2 =>
  if r1 = true then
    y_cl (f_X12_in p2 0 6 h2) (fun r4 h5 =>
    if r4 = true then
      if 4 ≤ p2 then
        if p2 = 4 then
          if y_K h5 p0 = 13 then
          if y_K h5 (y_P h5 p0 44) = 100 ∧ y_ix p1 (y_N h5 (y_P h5 p0 44)) = true then
          some (y_I h5 (y_P h5 p0 44) (Int32.toNatClampNeg p1), h5)
          else none
          else none
        else
          if p2 = 6 then
            if y_K h5 p0 = 13 then
            y_cl (f_X12_boxesIn p0 p1 h5) (fun r14 h15 =>
            some (r14, h15))
            else none
          else
            if y_K h5 p0 = 13 then
            if y_K h5 (y_P h5 p0 42) = 100 ∧ y_ix p1 (y_N h5 (y_P h5 p0 42)) = true then
            if (y_I h5 (y_P h5 p0 42) (Int32.toNatClampNeg p1)) = 0 then
              some ((-9 : Int32), h5)
            else
              if y_K h5 p0 = 13 then
              if y_K h5 p0 = 13 then
              if y_K h5 (y_P h5 p0 43) = 100 ∧ y_ix p1 (y_N h5 (y_P h5 p0 43)) = true then
              if y_K h5 (y_P h5 p0 41) = 100 ∧ y_ix ((8 * p1) + (y_I h5 (y_P h5 p0 43) (Int32.toNatClampNeg p1))) (y_N h5 (y_P h5 p0 41)) = true then
              some (y_I h5 (y_P h5 p0 41) (Int32.toNatClampNeg ((8 * p1) + (y_I h5 (y_P h5 p0 43) (Int32.toNatClampNeg p1)))), h5)
              else none
              else none
              else none
              else none
            else none
            else none
      else
        if y_K h5 p0 = 13 then
        y_cl (f_X12_total p0 p1 p2 h5) (fun r22 h23 =>
        some (r22, h23))
        else none
    else
      some ((-2000000002 : Int32), h5))
  else
    some ((-2000000001 : Int32), h2))
  else none
abbrev rm_X12_sum : Room := { frames := 2, cells := 0, slots := 0, locals := 47 }
set_option maxRecDepth 100000 in
set_option maxHeartbeats 4000000 in
theorem k_X12_sum {l : Launch} {G : y_G} {p0 : Nat} {p1 : Int32} {p2 : Int32} {h hz : y_H} {rz : Int32} (hf : f_X12_sum p0 p1 p2 h = some (rz, hz)) : y_S l G M_X12_sum rm_X12_sum [y_p p0, .int p1, .int p2] h (some (.int rz)) hz := by
  refine y_start (lv := [(0, y_p p0), (1, .int p1), (2, .int p2)]) (by decide) (by simp [lg_sl, y_p_cat, y_ci, y_cj, M_X12_sum]) (by simp [lv_args, y_p_cat, y_ci, y_cj]) (fun z ad0 => ?_)
  unfold f_X12_sum at hf
  refine y_aload_n (x := p0) (pc2 := 1) rfl dX12_sum_0 rfl ?_
  refine y_iload_n (pc2 := 2) rfl dX12_sum_1 rfl ?_
  obtain ⟨g29, hf⟩ := y_g hf
  obtain ⟨r1, h2, c3, hf⟩ := y_clE hf
  refine y_callV (As := [.int p1]) (rm := rm_X12_isShip) (cells := 0) (slots := 0) (pc2 := 5) rfl dX12_sum_2 n_X12_isShip l_BoxYardModel_414 i_X12_isShip e_X12_isShip (ci := 12) rfl rfl (by decide) g29 rfl rfl (by decide) (by decide) (by decide) (k_X12_isShip c3) ?_
  refine y_ifz_ne (tgt := 12) (pc2 := 8) rfl dX12_sum_5 (by decide) (fun c28 => ?_) (fun c28 => ?_)
  · replace hf := y_it c28 hf
    refine y_iload_n (pc2 := 13) rfl dX12_sum_12 rfl ?_
    refine y_iconst (v := 0) (pc2 := 14) rfl dX12_sum_13 (by decide) ?_
    refine y_bipush (v := 6) (pc2 := 16) rfl dX12_sum_14 (by decide) ?_
    obtain ⟨r4, h5, c6, hf⟩ := y_clE hf
    refine y_callS (As := [.int p2, .int 0, .int 6]) (rm := rm_X12_in) (cells := 0) (slots := 0) (pc2 := 19) rfl dX12_sum_16 n_X12_in l_BoxYardModel_278 t_X12_in rfl rfl (by decide) (by decide) (by decide) (k_X12_in c6) ?_
    refine y_ifz_ne (tgt := 26) (pc2 := 22) rfl dX12_sum_19 (by decide) (fun c27 => ?_) (fun c27 => ?_)
    · replace hf := y_it c27 hf
      refine y_iload_n (pc2 := 27) rfl dX12_sum_26 rfl ?_
      refine y_iconst (v := 4) (pc2 := 28) rfl dX12_sum_27 (by decide) ?_
      refine y_icmp_ge (tgt := 40) (pc2 := 31) rfl dX12_sum_28 (by decide) (fun c26 => ?_) (fun c26 => ?_)
      · replace hf := y_it c26 hf
        refine y_iload_n (pc2 := 41) rfl dX12_sum_40 rfl ?_
        refine y_iconst (v := 4) (pc2 := 42) rfl dX12_sum_41 (by decide) ?_
        refine y_icmp_ne (tgt := 54) (pc2 := 45) rfl dX12_sum_42 (by decide) (fun c21 => ?_) (fun c21 => ?_)
        · replace hf := y_ie c21 hf
          refine y_iload_n (pc2 := 55) rfl dX12_sum_54 rfl ?_
          refine y_bipush (v := 6) (pc2 := 57) rfl dX12_sum_55 (by decide) ?_
          refine y_icmp_ne (tgt := 68) (pc2 := 60) rfl dX12_sum_57 (by decide) (fun c18 => ?_) (fun c18 => ?_)
          · replace hf := y_ie c18 hf
            refine y_aload_n (x := p0) (pc2 := 69) rfl dX12_sum_68 rfl ?_
            obtain ⟨g13, hf⟩ := y_g hf
            refine y_getP (pc2 := 72) rfl dX12_sum_69 F_BoxYardModel_122 (by decide) rfl g13 ?_
            refine y_iload_n (pc2 := 73) rfl dX12_sum_72 rfl ?_
            obtain ⟨g12, hf⟩ := y_g hf
            refine y_iald (pc2 := 74) rfl dX12_sum_73 g12.1 (y_ix_in g12.2) ?_
            refine y_if_ne (tgt := 82) (pc2 := 77) rfl dX12_sum_74 (by decide) (fun c11 => ?_) (fun c11 => ?_)
            · replace hf := y_ie c11 hf
              refine y_aload_n (x := p0) (pc2 := 83) rfl dX12_sum_82 rfl ?_
              obtain ⟨g10, hf⟩ := y_g hf
              refine y_getP (pc2 := 86) rfl dX12_sum_83 F_BoxYardModel_119 (by decide) rfl g10 ?_
              refine y_bipush (v := 8) (pc2 := 88) rfl dX12_sum_86 (by decide) ?_
              refine y_iload_n (pc2 := 89) rfl dX12_sum_88 rfl ?_
              refine y_imul (pc2 := 90) rfl dX12_sum_89 ?_
              refine y_aload_n (x := p0) (pc2 := 91) rfl dX12_sum_90 rfl ?_
              obtain ⟨g9, hf⟩ := y_g hf
              refine y_getP (pc2 := 94) rfl dX12_sum_91 F_BoxYardModel_125 (by decide) rfl g9 ?_
              refine y_iload_n (pc2 := 95) rfl dX12_sum_94 rfl ?_
              obtain ⟨g8, hf⟩ := y_g hf
              refine y_iald (pc2 := 96) rfl dX12_sum_95 g8.1 (y_ix_in g8.2) ?_
              refine y_iadd (pc2 := 97) rfl dX12_sum_96 ?_
              obtain ⟨g7, hf⟩ := y_g hf
              refine y_iald (pc2 := 98) rfl dX12_sum_97 g7.1 (y_ix_in g7.2) ?_
              exact y_iretF hf dX12_sum_98 rfl (by decide) (by decide)
            · replace hf := y_it c11 hf
              refine y_bipush (v := (-9 : Int32)) (pc2 := 79) rfl dX12_sum_77 (by decide) ?_
              refine y_goto (tgt := 98) dX12_sum_79 (by decide) ?_
              exact y_iretF hf dX12_sum_98 rfl (by decide) (by decide)
          · replace hf := y_it c18 hf
            refine y_aload_n (x := p0) (pc2 := 61) rfl dX12_sum_60 rfl ?_
            refine y_iload_n (pc2 := 62) rfl dX12_sum_61 rfl ?_
            obtain ⟨g17, hf⟩ := y_g hf
            obtain ⟨r14, h15, c16, hf⟩ := y_clE hf
            refine y_callV (As := [.int p1]) (rm := rm_X12_boxesIn) (cells := 0) (slots := 0) (pc2 := 65) rfl dX12_sum_62 n_X12_boxesIn l_BoxYardModel_423 i_X12_boxesIn e_X12_boxesIn (ci := 12) rfl rfl (by decide) g17 rfl rfl (by decide) (by decide) (by decide) (k_X12_boxesIn c16) ?_
            refine y_goto (tgt := 98) dX12_sum_65 (by decide) ?_
            exact y_iretF hf dX12_sum_98 rfl (by decide) (by decide)
        · replace hf := y_it c21 hf
          refine y_aload_n (x := p0) (pc2 := 46) rfl dX12_sum_45 rfl ?_
          obtain ⟨g20, hf⟩ := y_g hf
          refine y_getP (pc2 := 49) rfl dX12_sum_46 F_BoxYardModel_128 (by decide) rfl g20 ?_
          refine y_iload_n (pc2 := 50) rfl dX12_sum_49 rfl ?_
          obtain ⟨g19, hf⟩ := y_g hf
          refine y_iald (pc2 := 51) rfl dX12_sum_50 g19.1 (y_ix_in g19.2) ?_
          refine y_goto (tgt := 98) dX12_sum_51 (by decide) ?_
          exact y_iretF hf dX12_sum_98 rfl (by decide) (by decide)
      · replace hf := y_ie c26 hf
        refine y_aload_n (x := p0) (pc2 := 32) rfl dX12_sum_31 rfl ?_
        refine y_iload_n (pc2 := 33) rfl dX12_sum_32 rfl ?_
        refine y_iload_n (pc2 := 34) rfl dX12_sum_33 rfl ?_
        obtain ⟨g25, hf⟩ := y_g hf
        obtain ⟨r22, h23, c24, hf⟩ := y_clE hf
        refine y_callV (As := [.int p1, .int p2]) (rm := rm_X12_total) (cells := 0) (slots := 0) (pc2 := 37) rfl dX12_sum_34 n_X12_total l_BoxYardModel_391 i_X12_total e_X12_total (ci := 12) rfl rfl (by decide) g25 rfl rfl (by decide) (by decide) (by decide) (k_X12_total c24) ?_
        refine y_goto (tgt := 98) dX12_sum_37 (by decide) ?_
        exact y_iretF hf dX12_sum_98 rfl (by decide) (by decide)
    · replace hf := y_ie c27 hf
      refine y_ldcw (v := (-2000000002 : Int32)) (pc2 := 25) rfl dX12_sum_22 k_BoxYardModel_422 ?_
      exact y_iretF hf dX12_sum_25 rfl (by decide) (by decide)
  · replace hf := y_ie c28 hf
    refine y_ldcw (v := (-2000000001 : Int32)) (pc2 := 11) rfl dX12_sum_8 k_BoxYardModel_421 ?_
    exact y_iretF hf dX12_sum_11 rfl (by decide) (by decide)
theorem dX12_mean_0 : decode cX12_mean 0 = .ok (.aload_n 0, 1) := by decide +kernel
theorem dX12_mean_1 : decode cX12_mean 1 = .ok (.iload_n 1, 1) := by decide +kernel
theorem dX12_mean_2 : decode cX12_mean 2 = .ok (.invokevirtual 414, 3) := by decide +kernel
theorem dX12_mean_5 : decode cX12_mean 5 = .ok (.ifCond .ne 5, 3) := by decide +kernel
theorem dX12_mean_8 : decode cX12_mean 8 = .ok (.iconst (-1), 1) := by decide +kernel
theorem dX12_mean_9 : decode cX12_mean 9 = .ok (.ireturn, 1) := by decide +kernel
theorem dX12_mean_10 : decode cX12_mean 10 = .ok (.aload_n 0, 1) := by decide +kernel
theorem dX12_mean_11 : decode cX12_mean 11 = .ok (.iload_n 1, 1) := by decide +kernel
theorem dX12_mean_12 : decode cX12_mean 12 = .ok (.iconst 3, 1) := by decide +kernel
theorem dX12_mean_13 : decode cX12_mean 13 = .ok (.invokevirtual 391, 3) := by decide +kernel
theorem dX12_mean_16 : decode cX12_mean 16 = .ok (.istore_n 2, 1) := by decide +kernel
theorem dX12_mean_17 : decode cX12_mean 17 = .ok (.iload_n 2, 1) := by decide +kernel
theorem dX12_mean_18 : decode cX12_mean 18 = .ok (.ifCond .ne 12, 3) := by decide +kernel
theorem dX12_mean_21 : decode cX12_mean 21 = .ok (.aload_n 0, 1) := by decide +kernel
theorem dX12_mean_22 : decode cX12_mean 22 = .ok (.bipush 6, 2) := by decide +kernel
theorem dX12_mean_24 : decode cX12_mean 24 = .ok (.invokevirtual 301, 3) := by decide +kernel
theorem dX12_mean_27 : decode cX12_mean 27 = .ok (.goto 11, 3) := by decide +kernel
theorem dX12_mean_30 : decode cX12_mean 30 = .ok (.aload_n 0, 1) := by decide +kernel
theorem dX12_mean_31 : decode cX12_mean 31 = .ok (.iload_n 1, 1) := by decide +kernel
theorem dX12_mean_32 : decode cX12_mean 32 = .ok (.iconst 2, 1) := by decide +kernel
theorem dX12_mean_33 : decode cX12_mean 33 = .ok (.invokevirtual 391, 3) := by decide +kernel
theorem dX12_mean_36 : decode cX12_mean 36 = .ok (.iload_n 2, 1) := by decide +kernel
theorem dX12_mean_37 : decode cX12_mean 37 = .ok (.idiv, 1) := by decide +kernel
theorem dX12_mean_38 : decode cX12_mean 38 = .ok (.ireturn, 1) := by decide +kernel
def M_X12_mean : y_M := (yX12_mean, cX12_mean, 3, (Option.some Jvm.ClassFile.FieldType.int))
theorem n_X12_mean : y_N0 M_X12_mean 1 := ⟨(c_9 212 (by decide +kernel) rfl), (c_1 9 (by decide +kernel) rfl), ⟨by decide +kernel, by decide +kernel⟩, by decide +kernel⟩
set_option maxRecDepth 100000 in
def f_X12_mean (p0 : Nat) (p1 : Int32) (h : y_H) : Option (Int32 × y_H) :=
  if y_K h p0 = 13 then
  y_cl (f_X12_isShip p0 p1 h) (fun r1 h2 =>
  if r1 = true then
    if y_K h2 p0 = 13 then
    y_cl (f_X12_total p0 p1 3 h2) (fun r4 h5 =>
    if r4 = 0 then
      if y_K h5 p0 = 13 then
      y_cl (f_X12_finds p0 6 h5) (fun r12 h13 =>
      some (r12, h13))
      else none
    else
      if y_K h5 p0 = 13 then
      y_cl (f_X12_total p0 p1 2 h5) (fun r7 h8 =>
      if ¬ r4 = 0 then
      some (r7 / r4, h8)
      else none)
      else none)
    else none
  else
    some ((-1 : Int32), h2))
  else none
abbrev rm_X12_mean : Room := { frames := 2, cells := 0, slots := 0, locals := 47 }
set_option maxRecDepth 100000 in
set_option maxHeartbeats 4000000 in
theorem k_X12_mean {l : Launch} {G : y_G} {p0 : Nat} {p1 : Int32} {h hz : y_H} {rz : Int32} (hf : f_X12_mean p0 p1 h = some (rz, hz)) : y_S l G M_X12_mean rm_X12_mean [y_p p0, .int p1] h (some (.int rz)) hz := by
  refine y_start (lv := [(0, y_p p0), (1, .int p1)]) (by decide) (by simp [lg_sl, y_p_cat, y_ci, y_cj, M_X12_mean]) (by simp [lv_args, y_p_cat, y_ci, y_cj]) (fun z ad0 => ?_)
  unfold f_X12_mean at hf
  refine y_aload_n (x := p0) (pc2 := 1) rfl dX12_mean_0 rfl ?_
  refine y_iload_n (pc2 := 2) rfl dX12_mean_1 rfl ?_
  obtain ⟨g19, hf⟩ := y_g hf
  obtain ⟨r1, h2, c3, hf⟩ := y_clE hf
  refine y_callV (As := [.int p1]) (rm := rm_X12_isShip) (cells := 0) (slots := 0) (pc2 := 5) rfl dX12_mean_2 n_X12_isShip l_BoxYardModel_414 i_X12_isShip e_X12_isShip (ci := 12) rfl rfl (by decide) g19 rfl rfl (by decide) (by decide) (by decide) (k_X12_isShip c3) ?_
  refine y_ifz_ne (tgt := 10) (pc2 := 8) rfl dX12_mean_5 (by decide) (fun c18 => ?_) (fun c18 => ?_)
  · replace hf := y_it c18 hf
    refine y_aload_n (x := p0) (pc2 := 11) rfl dX12_mean_10 rfl ?_
    refine y_iload_n (pc2 := 12) rfl dX12_mean_11 rfl ?_
    refine y_iconst (v := 3) (pc2 := 13) rfl dX12_mean_12 (by decide) ?_
    obtain ⟨g17, hf⟩ := y_g hf
    obtain ⟨r4, h5, c6, hf⟩ := y_clE hf
    refine y_callV (As := [.int p1, .int 3]) (rm := rm_X12_total) (cells := 0) (slots := 0) (pc2 := 16) rfl dX12_mean_13 n_X12_total l_BoxYardModel_391 i_X12_total e_X12_total (ci := 12) rfl rfl (by decide) g17 rfl rfl (by decide) (by decide) (by decide) (k_X12_total c6) ?_
    refine y_istore_n (lv' := [(2, .int r4), (0, y_p p0), (1, .int p1)]) (pc2 := 17) rfl dX12_mean_16 (by decide) rfl ?_
    refine y_iload_n (pc2 := 18) rfl dX12_mean_17 rfl ?_
    refine y_if_ne (tgt := 30) (pc2 := 21) rfl dX12_mean_18 (by decide) (fun c16 => ?_) (fun c16 => ?_)
    · replace hf := y_ie c16 hf
      refine y_aload_n (x := p0) (pc2 := 31) rfl dX12_mean_30 rfl ?_
      refine y_iload_n (pc2 := 32) rfl dX12_mean_31 rfl ?_
      refine y_iconst (v := 2) (pc2 := 33) rfl dX12_mean_32 (by decide) ?_
      obtain ⟨g11, hf⟩ := y_g hf
      obtain ⟨r7, h8, c9, hf⟩ := y_clE hf
      refine y_callV (As := [.int p1, .int 2]) (rm := rm_X12_total) (cells := 0) (slots := 0) (pc2 := 36) rfl dX12_mean_33 n_X12_total l_BoxYardModel_391 i_X12_total e_X12_total (ci := 12) rfl rfl (by decide) g11 rfl rfl (by decide) (by decide) (by decide) (k_X12_total c9) ?_
      refine y_iload_n (pc2 := 37) rfl dX12_mean_36 rfl ?_
      obtain ⟨g10, hf⟩ := y_g hf
      refine y_idiv (pc2 := 38) rfl dX12_mean_37 g10 ?_
      exact y_iretF hf dX12_mean_38 rfl (by decide) (by decide)
    · replace hf := y_it c16 hf
      refine y_aload_n (x := p0) (pc2 := 22) rfl dX12_mean_21 rfl ?_
      refine y_bipush (v := 6) (pc2 := 24) rfl dX12_mean_22 (by decide) ?_
      obtain ⟨g15, hf⟩ := y_g hf
      obtain ⟨r12, h13, c14, hf⟩ := y_clE hf
      refine y_callV (As := [.int 6]) (rm := rm_X12_finds) (cells := 0) (slots := 0) (pc2 := 27) rfl dX12_mean_24 n_X12_finds l_BoxYardModel_301 i_X12_finds e_X12_finds (ci := 12) rfl rfl (by decide) g15 rfl rfl (by decide) (by decide) (by decide) (k_X12_finds c14) ?_
      refine y_goto (tgt := 38) dX12_mean_27 (by decide) ?_
      exact y_iretF hf dX12_mean_38 rfl (by decide) (by decide)
  · replace hf := y_ie c18 hf
    refine y_iconst (v := (-1 : Int32)) (pc2 := 9) rfl dX12_mean_8 (by decide) ?_
    exact y_iretF hf dX12_mean_9 rfl (by decide) (by decide)
theorem dX12_nextLinked_0 : decode cX12_nextLinked 0 = .ok (.bipush (-9), 2) := by decide +kernel
theorem dX12_nextLinked_2 : decode cX12_nextLinked 2 = .ok (.istore_n 3, 1) := by decide +kernel
theorem dX12_nextLinked_3 : decode cX12_nextLinked 3 = .ok (.iconst 0, 1) := by decide +kernel
theorem dX12_nextLinked_4 : decode cX12_nextLinked 4 = .ok (.istore 4, 2) := by decide +kernel
theorem dX12_nextLinked_6 : decode cX12_nextLinked 6 = .ok (.iload 4, 2) := by decide +kernel
theorem dX12_nextLinked_8 : decode cX12_nextLinked 8 = .ok (.aload_n 0, 1) := by decide +kernel
theorem dX12_nextLinked_9 : decode cX12_nextLinked 9 = .ok (.getfield 234, 3) := by decide +kernel
theorem dX12_nextLinked_12 : decode cX12_nextLinked 12 = .ok (.if_icmp .ge 105, 3) := by decide +kernel
theorem dX12_nextLinked_15 : decode cX12_nextLinked 15 = .ok (.aload_n 0, 1) := by decide +kernel
theorem dX12_nextLinked_16 : decode cX12_nextLinked 16 = .ok (.getfield 41, 3) := by decide +kernel
theorem dX12_nextLinked_19 : decode cX12_nextLinked 19 = .ok (.iload 4, 2) := by decide +kernel
theorem dX12_nextLinked_21 : decode cX12_nextLinked 21 = .ok (.iaload, 1) := by decide +kernel
theorem dX12_nextLinked_22 : decode cX12_nextLinked 22 = .ok (.iload_n 1, 1) := by decide +kernel
theorem dX12_nextLinked_23 : decode cX12_nextLinked 23 = .ok (.if_icmp .ne 51, 3) := by decide +kernel
theorem dX12_nextLinked_26 : decode cX12_nextLinked 26 = .ok (.aload_n 0, 1) := by decide +kernel
theorem dX12_nextLinked_27 : decode cX12_nextLinked 27 = .ok (.getfield 53, 3) := by decide +kernel
theorem dX12_nextLinked_30 : decode cX12_nextLinked 30 = .ok (.iload 4, 2) := by decide +kernel
theorem dX12_nextLinked_32 : decode cX12_nextLinked 32 = .ok (.iaload, 1) := by decide +kernel
theorem dX12_nextLinked_33 : decode cX12_nextLinked 33 = .ok (.iload_n 2, 1) := by decide +kernel
theorem dX12_nextLinked_34 : decode cX12_nextLinked 34 = .ok (.if_icmp .le 40, 3) := by decide +kernel
theorem dX12_nextLinked_37 : decode cX12_nextLinked 37 = .ok (.aload_n 0, 1) := by decide +kernel
theorem dX12_nextLinked_38 : decode cX12_nextLinked 38 = .ok (.getfield 29, 3) := by decide +kernel
theorem dX12_nextLinked_41 : decode cX12_nextLinked 41 = .ok (.iload 4, 2) := by decide +kernel
theorem dX12_nextLinked_43 : decode cX12_nextLinked 43 = .ok (.iaload, 1) := by decide +kernel
theorem dX12_nextLinked_44 : decode cX12_nextLinked 44 = .ok (.iconst 4, 1) := by decide +kernel
theorem dX12_nextLinked_45 : decode cX12_nextLinked 45 = .ok (.if_icmp .eq 29, 3) := by decide +kernel
theorem dX12_nextLinked_48 : decode cX12_nextLinked 48 = .ok (.aload_n 0, 1) := by decide +kernel
theorem dX12_nextLinked_49 : decode cX12_nextLinked 49 = .ok (.getfield 29, 3) := by decide +kernel
theorem dX12_nextLinked_52 : decode cX12_nextLinked 52 = .ok (.iload 4, 2) := by decide +kernel
theorem dX12_nextLinked_54 : decode cX12_nextLinked 54 = .ok (.iaload, 1) := by decide +kernel
theorem dX12_nextLinked_55 : decode cX12_nextLinked 55 = .ok (.iconst 3, 1) := by decide +kernel
theorem dX12_nextLinked_56 : decode cX12_nextLinked 56 = .ok (.if_icmp .ne 14, 3) := by decide +kernel
theorem dX12_nextLinked_59 : decode cX12_nextLinked 59 = .ok (.aload_n 0, 1) := by decide +kernel
theorem dX12_nextLinked_60 : decode cX12_nextLinked 60 = .ok (.getfield 32, 3) := by decide +kernel
theorem dX12_nextLinked_63 : decode cX12_nextLinked 63 = .ok (.iload 4, 2) := by decide +kernel
theorem dX12_nextLinked_65 : decode cX12_nextLinked 65 = .ok (.iaload, 1) := by decide +kernel
theorem dX12_nextLinked_66 : decode cX12_nextLinked 66 = .ok (.iload_n 1, 1) := by decide +kernel
theorem dX12_nextLinked_67 : decode cX12_nextLinked 67 = .ok (.if_icmp .eq 7, 3) := by decide +kernel
theorem dX12_nextLinked_70 : decode cX12_nextLinked 70 = .ok (.iconst 1, 1) := by decide +kernel
theorem dX12_nextLinked_71 : decode cX12_nextLinked 71 = .ok (.goto 4, 3) := by decide +kernel
theorem dX12_nextLinked_74 : decode cX12_nextLinked 74 = .ok (.iconst 0, 1) := by decide +kernel
theorem dX12_nextLinked_75 : decode cX12_nextLinked 75 = .ok (.istore 5, 2) := by decide +kernel
theorem dX12_nextLinked_77 : decode cX12_nextLinked 77 = .ok (.iload 5, 2) := by decide +kernel
theorem dX12_nextLinked_79 : decode cX12_nextLinked 79 = .ok (.ifCond .eq 30, 3) := by decide +kernel
theorem dX12_nextLinked_82 : decode cX12_nextLinked 82 = .ok (.iload_n 3, 1) := by decide +kernel
theorem dX12_nextLinked_83 : decode cX12_nextLinked 83 = .ok (.bipush (-9), 2) := by decide +kernel
theorem dX12_nextLinked_85 : decode cX12_nextLinked 85 = .ok (.if_icmp .eq 19, 3) := by decide +kernel
theorem dX12_nextLinked_88 : decode cX12_nextLinked 88 = .ok (.aload_n 0, 1) := by decide +kernel
theorem dX12_nextLinked_89 : decode cX12_nextLinked 89 = .ok (.getfield 53, 3) := by decide +kernel
theorem dX12_nextLinked_92 : decode cX12_nextLinked 92 = .ok (.iload 4, 2) := by decide +kernel
theorem dX12_nextLinked_94 : decode cX12_nextLinked 94 = .ok (.iaload, 1) := by decide +kernel
theorem dX12_nextLinked_95 : decode cX12_nextLinked 95 = .ok (.aload_n 0, 1) := by decide +kernel
theorem dX12_nextLinked_96 : decode cX12_nextLinked 96 = .ok (.getfield 53, 3) := by decide +kernel
theorem dX12_nextLinked_99 : decode cX12_nextLinked 99 = .ok (.iload_n 3, 1) := by decide +kernel
theorem dX12_nextLinked_100 : decode cX12_nextLinked 100 = .ok (.iaload, 1) := by decide +kernel
theorem dX12_nextLinked_101 : decode cX12_nextLinked 101 = .ok (.if_icmp .ge 8, 3) := by decide +kernel
theorem dX12_nextLinked_104 : decode cX12_nextLinked 104 = .ok (.iload 4, 2) := by decide +kernel
theorem dX12_nextLinked_106 : decode cX12_nextLinked 106 = .ok (.goto 4, 3) := by decide +kernel
theorem dX12_nextLinked_109 : decode cX12_nextLinked 109 = .ok (.iload_n 3, 1) := by decide +kernel
theorem dX12_nextLinked_110 : decode cX12_nextLinked 110 = .ok (.istore_n 3, 1) := by decide +kernel
theorem dX12_nextLinked_111 : decode cX12_nextLinked 111 = .ok (.iinc 4 1, 3) := by decide +kernel
theorem dX12_nextLinked_114 : decode cX12_nextLinked 114 = .ok (.goto (-108), 3) := by decide +kernel
theorem dX12_nextLinked_117 : decode cX12_nextLinked 117 = .ok (.iload_n 3, 1) := by decide +kernel
theorem dX12_nextLinked_118 : decode cX12_nextLinked 118 = .ok (.ireturn, 1) := by decide +kernel
def M_X12_nextLinked : y_M := (yX12_nextLinked, cX12_nextLinked, 6, (Option.some Jvm.ClassFile.FieldType.int))
theorem n_X12_nextLinked : y_N0 M_X12_nextLinked 2 := ⟨(c_9 220 (by decide +kernel) rfl), (c_1 9 (by decide +kernel) rfl), ⟨by decide +kernel, by decide +kernel⟩, by decide +kernel⟩
set_option maxRecDepth 100000 in
def f_X12_nextLinked (p0 : Nat) (p1 : Int32) (p2 : Int32) (h : y_H) : Option (Int32 × y_H) :=
  y_jl (fun (_ : Nat) (_ : Int32) (_ : Int32) (_ : Int32) (_ : Int32) (_ : y_H) => (none : Option (Int32 × y_H))) (fun j6 (v0_6 : Nat) (v1_6 : Int32) (v2_6 : Int32) (v3_6 : Int32) (v4_6 : Int32) (h1 : y_H) =>
      if y_K h1 v0_6 = 13 then
      if (y_I h1 v0_6 0) ≤ v4_6 then
        some (v3_6, h1)
      else
        if y_K h1 v0_6 = 13 then
        if y_K h1 (y_P h1 v0_6 11) = 100 ∧ y_ix v4_6 (y_N h1 (y_P h1 v0_6 11)) = true then
        y_jn (fun (v0_74 : Nat) (v1_74 : Int32) (v2_74 : Int32) (v3_74 : Int32) (v4_74 : Int32) (h2 : y_H) => (
            y_jn (fun (v0_109 : Nat) (v1_109 : Int32) (v2_109 : Int32) (v3_109 : Int32) (v4_109 : Int32) (h3 : y_H) => (
                j6 v0_109 v1_109 v2_109 v3_109 (v4_109 + 1) h3 : Option (Int32 × y_H))) (fun j109 =>
            if (0 : Int32) = 0 then
              j109 v0_74 v1_74 v2_74 v3_74 v4_74 h2
            else
              y_jn (fun (v0_104 : Nat) (v1_104 : Int32) (v2_104 : Int32) (v4_104 : Int32) (h4 : y_H) => (
                  j6 v0_104 v1_104 v2_104 v4_104 (v4_104 + 1) h4 : Option (Int32 × y_H))) (fun j104 =>
              if v3_74 = (-9 : Int32) then
                j104 v0_74 v1_74 v2_74 v4_74 h2
              else
                if y_K h2 v0_74 = 13 then
                if y_K h2 (y_P h2 v0_74 15) = 100 ∧ y_ix v4_74 (y_N h2 (y_P h2 v0_74 15)) = true then
                if y_K h2 v0_74 = 13 then
                if y_K h2 (y_P h2 v0_74 15) = 100 ∧ y_ix v3_74 (y_N h2 (y_P h2 v0_74 15)) = true then
                if (y_I h2 (y_P h2 v0_74 15) (Int32.toNatClampNeg v3_74)) ≤ (y_I h2 (y_P h2 v0_74 15) (Int32.toNatClampNeg v4_74)) then
                  j109 v0_74 v1_74 v2_74 v3_74 v4_74 h2
                else
                  j104 v0_74 v1_74 v2_74 v4_74 h2
                else none
                else none
                else none
                else none)) : Option (Int32 × y_H))) (fun j74 =>
        if (y_I h1 (y_P h1 v0_6 11) (Int32.toNatClampNeg v4_6)) = v1_6 then
          if y_K h1 v0_6 = 13 then
          if y_K h1 (y_P h1 v0_6 15) = 100 ∧ y_ix v4_6 (y_N h1 (y_P h1 v0_6 15)) = true then
          if (y_I h1 (y_P h1 v0_6 15) (Int32.toNatClampNeg v4_6)) ≤ v2_6 then
            j74 v0_6 v1_6 v2_6 v3_6 v4_6 h1
          else
            if y_K h1 v0_6 = 13 then
            if y_K h1 (y_P h1 v0_6 7) = 100 ∧ y_ix v4_6 (y_N h1 (y_P h1 v0_6 7)) = true then
            if (y_I h1 (y_P h1 v0_6 7) (Int32.toNatClampNeg v4_6)) = 4 then
              j74 v0_6 v1_6 v2_6 v3_6 v4_6 h1
            else
              if y_K h1 v0_6 = 13 then
              if y_K h1 (y_P h1 v0_6 7) = 100 ∧ y_ix v4_6 (y_N h1 (y_P h1 v0_6 7)) = true then
              y_jn (fun (v0_70 : Nat) (v1_70 : Int32) (v2_70 : Int32) (v3_70 : Int32) (v4_70 : Int32) (h12 : y_H) => (
                  y_jn (fun (v0_109 : Nat) (v1_109 : Int32) (v2_109 : Int32) (v3_109 : Int32) (v4_109 : Int32) (h13 : y_H) => (
                      j6 v0_109 v1_109 v2_109 v3_109 (v4_109 + 1) h13 : Option (Int32 × y_H))) (fun j109 =>
                  if (1 : Int32) = 0 then
                    j109 v0_70 v1_70 v2_70 v3_70 v4_70 h12
                  else
                    y_jn (fun (v0_104 : Nat) (v1_104 : Int32) (v2_104 : Int32) (v4_104 : Int32) (h14 : y_H) => (
                        j6 v0_104 v1_104 v2_104 v4_104 (v4_104 + 1) h14 : Option (Int32 × y_H))) (fun j104 =>
                    if v3_70 = (-9 : Int32) then
                      j104 v0_70 v1_70 v2_70 v4_70 h12
                    else
                      if y_K h12 v0_70 = 13 then
                      if y_K h12 (y_P h12 v0_70 15) = 100 ∧ y_ix v4_70 (y_N h12 (y_P h12 v0_70 15)) = true then
                      if y_K h12 v0_70 = 13 then
                      if y_K h12 (y_P h12 v0_70 15) = 100 ∧ y_ix v3_70 (y_N h12 (y_P h12 v0_70 15)) = true then
                      if (y_I h12 (y_P h12 v0_70 15) (Int32.toNatClampNeg v3_70)) ≤ (y_I h12 (y_P h12 v0_70 15) (Int32.toNatClampNeg v4_70)) then
                        j109 v0_70 v1_70 v2_70 v3_70 v4_70 h12
                      else
                        j104 v0_70 v1_70 v2_70 v4_70 h12
                      else none
                      else none
                      else none
                      else none)) : Option (Int32 × y_H))) (fun j70 =>
              if (y_I h1 (y_P h1 v0_6 7) (Int32.toNatClampNeg v4_6)) = 3 then
                if y_K h1 v0_6 = 13 then
                if y_K h1 (y_P h1 v0_6 8) = 100 ∧ y_ix v4_6 (y_N h1 (y_P h1 v0_6 8)) = true then
                if (y_I h1 (y_P h1 v0_6 8) (Int32.toNatClampNeg v4_6)) = v1_6 then
                  j74 v0_6 v1_6 v2_6 v3_6 v4_6 h1
                else
                  j70 v0_6 v1_6 v2_6 v3_6 v4_6 h1
                else none
                else none
              else
                j70 v0_6 v1_6 v2_6 v3_6 v4_6 h1)
              else none
              else none
            else none
            else none
          else none
          else none
        else
          j74 v0_6 v1_6 v2_6 v3_6 v4_6 h1)
        else none
        else none
      else none) (fun j6 =>
  j6 p0 p1 p2 (-9 : Int32) 0 h)
abbrev rm_X12_nextLinked : Room := { frames := 0, cells := 0, slots := 0, locals := 0 }
set_option maxRecDepth 100000 in
set_option maxHeartbeats 4000000 in
theorem k_X12_nextLinked {l : Launch} {G : y_G} {p0 : Nat} {p1 : Int32} {p2 : Int32} {h hz : y_H} {rz : Int32} (hf : f_X12_nextLinked p0 p1 p2 h = some (rz, hz)) : y_S l G M_X12_nextLinked rm_X12_nextLinked [y_p p0, .int p1, .int p2] h (some (.int rz)) hz := by
  refine y_start (lv := [(0, y_p p0), (1, .int p1), (2, .int p2)]) (by decide) (by simp [lg_sl, y_p_cat, y_ci, y_cj, M_X12_nextLinked]) (by simp [lv_args, y_p_cat, y_ci, y_cj]) (fun z ad0 => ?_)
  unfold f_X12_nextLinked at hf
  refine y_bipush (v := (-9 : Int32)) (pc2 := 2) rfl dX12_nextLinked_0 (by decide) ?_
  refine y_istore_n (lv' := [(3, .int (-9 : Int32)), (0, y_p p0), (1, .int p1), (2, .int p2)]) (pc2 := 3) rfl dX12_nextLinked_2 (by decide) rfl ?_
  refine y_iconst (v := 0) (pc2 := 4) rfl dX12_nextLinked_3 (by decide) ?_
  refine y_jlE hf (fun j => ∀ (v0_6 : Nat) (v1_6 : Int32) (v2_6 : Int32) (v3_6 : Int32) (v4_6 : Int32) (h1 : y_H), j v0_6 v1_6 v2_6 v3_6 v4_6 h1 = some (rz, hz) → y_V l G z rm_X12_nextLinked M_X12_nextLinked ad0 h (some (.int rz)) hz 6 [(0, y_p v0_6), (1, .int v1_6), (2, .int v2_6), (3, .int v3_6), (4, .int v4_6)] [] h1 0 0) (fun _ _ _ _ _ _ hf => by cases hf) (fun j6 hj6 v0_6 v1_6 v2_6 v3_6 v4_6 h1 hf => ?_) (fun j6 hj6 hf => ?_)
  · refine y_iload (pc2 := 8) rfl dX12_nextLinked_6 rfl ?_
    refine y_aload_n (x := v0_6) (pc2 := 9) rfl dX12_nextLinked_8 rfl ?_
    obtain ⟨g38, hf⟩ := y_g hf
    refine y_getI (pc2 := 12) rfl dX12_nextLinked_9 F_BoxYardModel_234 (by decide) rfl g38 ?_
    refine y_icmp_ge (tgt := 117) (pc2 := 15) rfl dX12_nextLinked_12 (by decide) (fun c37 => ?_) (fun c37 => ?_)
    · replace hf := y_it c37 hf
      refine y_iload_n (pc2 := 118) rfl dX12_nextLinked_117 rfl ?_
      exact y_iretF hf dX12_nextLinked_118 rfl (by decide) (by decide)
    · replace hf := y_ie c37 hf
      refine y_aload_n (x := v0_6) (pc2 := 16) rfl dX12_nextLinked_15 rfl ?_
      obtain ⟨g36, hf⟩ := y_g hf
      refine y_getP (pc2 := 19) rfl dX12_nextLinked_16 F_BoxYardModel_41 (by decide) rfl g36 ?_
      refine y_iload (pc2 := 21) rfl dX12_nextLinked_19 rfl ?_
      obtain ⟨g35, hf⟩ := y_g hf
      refine y_iald (pc2 := 22) rfl dX12_nextLinked_21 g35.1 (y_ix_in g35.2) ?_
      refine y_iload_n (pc2 := 23) rfl dX12_nextLinked_22 rfl ?_
      refine y_jnE hf (fun j => ∀ (v0_74 : Nat) (v1_74 : Int32) (v2_74 : Int32) (v3_74 : Int32) (v4_74 : Int32) (h2 : y_H), j v0_74 v1_74 v2_74 v3_74 v4_74 h2 = some (rz, hz) → y_V l G z rm_X12_nextLinked M_X12_nextLinked ad0 h (some (.int rz)) hz 74 [(0, y_p v0_74), (1, .int v1_74), (2, .int v2_74), (3, .int v3_74), (4, .int v4_74)] [] h2 0 0) (fun v0_74 v1_74 v2_74 v3_74 v4_74 h2 hf => ?_) (fun j74 hj74 hf => ?_)
      · refine y_iconst (v := 0) (pc2 := 75) rfl dX12_nextLinked_74 (by decide) ?_
        refine y_istore (lv' := [(5, .int 0), (0, y_p v0_74), (1, .int v1_74), (2, .int v2_74), (3, .int v3_74), (4, .int v4_74)]) (pc2 := 77) rfl dX12_nextLinked_75 (by decide) rfl ?_
        refine y_iload (pc2 := 79) rfl dX12_nextLinked_77 rfl ?_
        refine y_jnE hf (fun j => ∀ (v0_109 : Nat) (v1_109 : Int32) (v2_109 : Int32) (v3_109 : Int32) (v4_109 : Int32) (h3 : y_H), j v0_109 v1_109 v2_109 v3_109 v4_109 h3 = some (rz, hz) → y_V l G z rm_X12_nextLinked M_X12_nextLinked ad0 h (some (.int rz)) hz 109 [(0, y_p v0_109), (1, .int v1_109), (2, .int v2_109), (3, .int v3_109), (4, .int v4_109)] [] h3 0 0) (fun v0_109 v1_109 v2_109 v3_109 v4_109 h3 hf => ?_) (fun j109 hj109 hf => ?_)
        · refine y_iload_n (pc2 := 110) rfl dX12_nextLinked_109 rfl ?_
          refine y_istore_n (lv' := [(3, .int v3_109), (0, y_p v0_109), (1, .int v1_109), (2, .int v2_109), (4, .int v4_109)]) (pc2 := 111) rfl dX12_nextLinked_110 (by decide) rfl ?_
          refine y_iinc (v := v4_109 + 1) (lv' := [(4, .int (v4_109 + 1)), (3, .int v3_109), (0, y_p v0_109), (1, .int v1_109), (2, .int v2_109)]) (pc2 := 114) rfl dX12_nextLinked_111 rfl rfl (by decide) rfl ?_
          refine y_goto (tgt := 6) dX12_nextLinked_114 (by decide) ?_
          exact y_pk [2, 3, 4, 1, 0] rfl (hj6 _ _ _ _ _ _ hf)
        · refine y_if_eq (tgt := 109) (pc2 := 82) rfl dX12_nextLinked_79 (by decide) (fun c11 => ?_) (fun c11 => ?_)
          · replace hf := y_it c11 hf
            exact y_pk [1, 2, 3, 4, 5] rfl (hj109 _ _ _ _ _ _ hf)
          · replace hf := y_ie c11 hf
            refine y_iload_n (pc2 := 83) rfl dX12_nextLinked_82 rfl ?_
            refine y_bipush (v := (-9 : Int32)) (pc2 := 85) rfl dX12_nextLinked_83 (by decide) ?_
            refine y_jnE hf (fun j => ∀ (v0_104 : Nat) (v1_104 : Int32) (v2_104 : Int32) (v4_104 : Int32) (h4 : y_H), j v0_104 v1_104 v2_104 v4_104 h4 = some (rz, hz) → y_V l G z rm_X12_nextLinked M_X12_nextLinked ad0 h (some (.int rz)) hz 104 [(0, y_p v0_104), (1, .int v1_104), (2, .int v2_104), (4, .int v4_104)] [] h4 0 0) (fun v0_104 v1_104 v2_104 v4_104 h4 hf => ?_) (fun j104 hj104 hf => ?_)
            · refine y_iload (pc2 := 106) rfl dX12_nextLinked_104 rfl ?_
              refine y_goto (tgt := 110) dX12_nextLinked_106 (by decide) ?_
              refine y_istore_n (lv' := [(3, .int v4_104), (0, y_p v0_104), (1, .int v1_104), (2, .int v2_104), (4, .int v4_104)]) (pc2 := 111) rfl dX12_nextLinked_110 (by decide) rfl ?_
              refine y_iinc (v := v4_104 + 1) (lv' := [(4, .int (v4_104 + 1)), (3, .int v4_104), (0, y_p v0_104), (1, .int v1_104), (2, .int v2_104)]) (pc2 := 114) rfl dX12_nextLinked_111 rfl rfl (by decide) rfl ?_
              refine y_goto (tgt := 6) dX12_nextLinked_114 (by decide) ?_
              exact y_pk [2, 3, 4, 1, 0] rfl (hj6 _ _ _ _ _ _ hf)
            · refine y_icmp_eq (tgt := 104) (pc2 := 88) rfl dX12_nextLinked_85 (by decide) (fun c10 => ?_) (fun c10 => ?_)
              · replace hf := y_it c10 hf
                exact y_pk [1, 2, 3, 5] rfl (hj104 _ _ _ _ _ hf)
              · replace hf := y_ie c10 hf
                refine y_aload_n (x := v0_74) (pc2 := 89) rfl dX12_nextLinked_88 rfl ?_
                obtain ⟨g9, hf⟩ := y_g hf
                refine y_getP (pc2 := 92) rfl dX12_nextLinked_89 F_BoxYardModel_53 (by decide) rfl g9 ?_
                refine y_iload (pc2 := 94) rfl dX12_nextLinked_92 rfl ?_
                obtain ⟨g8, hf⟩ := y_g hf
                refine y_iald (pc2 := 95) rfl dX12_nextLinked_94 g8.1 (y_ix_in g8.2) ?_
                refine y_aload_n (x := v0_74) (pc2 := 96) rfl dX12_nextLinked_95 rfl ?_
                obtain ⟨g7, hf⟩ := y_g hf
                refine y_getP (pc2 := 99) rfl dX12_nextLinked_96 F_BoxYardModel_53 (by decide) rfl g7 ?_
                refine y_iload_n (pc2 := 100) rfl dX12_nextLinked_99 rfl ?_
                obtain ⟨g6, hf⟩ := y_g hf
                refine y_iald (pc2 := 101) rfl dX12_nextLinked_100 g6.1 (y_ix_in g6.2) ?_
                refine y_icmp_ge (tgt := 109) (pc2 := 104) rfl dX12_nextLinked_101 (by decide) (fun c5 => ?_) (fun c5 => ?_)
                · replace hf := y_it c5 hf
                  exact y_pk [1, 2, 3, 4, 5] rfl (hj109 _ _ _ _ _ _ hf)
                · replace hf := y_ie c5 hf
                  exact y_pk [1, 2, 3, 5] rfl (hj104 _ _ _ _ _ hf)
      · refine y_icmp_ne (tgt := 74) (pc2 := 26) rfl dX12_nextLinked_23 (by decide) (fun c34 => ?_) (fun c34 => ?_)
        · replace hf := y_ie c34 hf
          exact y_pk [0, 1, 2, 3, 4] rfl (hj74 _ _ _ _ _ _ hf)
        · replace hf := y_it c34 hf
          refine y_aload_n (x := v0_6) (pc2 := 27) rfl dX12_nextLinked_26 rfl ?_
          obtain ⟨g33, hf⟩ := y_g hf
          refine y_getP (pc2 := 30) rfl dX12_nextLinked_27 F_BoxYardModel_53 (by decide) rfl g33 ?_
          refine y_iload (pc2 := 32) rfl dX12_nextLinked_30 rfl ?_
          obtain ⟨g32, hf⟩ := y_g hf
          refine y_iald (pc2 := 33) rfl dX12_nextLinked_32 g32.1 (y_ix_in g32.2) ?_
          refine y_iload_n (pc2 := 34) rfl dX12_nextLinked_33 rfl ?_
          refine y_icmp_le (tgt := 74) (pc2 := 37) rfl dX12_nextLinked_34 (by decide) (fun c31 => ?_) (fun c31 => ?_)
          · replace hf := y_it c31 hf
            exact y_pk [0, 1, 2, 3, 4] rfl (hj74 _ _ _ _ _ _ hf)
          · replace hf := y_ie c31 hf
            refine y_aload_n (x := v0_6) (pc2 := 38) rfl dX12_nextLinked_37 rfl ?_
            obtain ⟨g30, hf⟩ := y_g hf
            refine y_getP (pc2 := 41) rfl dX12_nextLinked_38 F_BoxYardModel_29 (by decide) rfl g30 ?_
            refine y_iload (pc2 := 43) rfl dX12_nextLinked_41 rfl ?_
            obtain ⟨g29, hf⟩ := y_g hf
            refine y_iald (pc2 := 44) rfl dX12_nextLinked_43 g29.1 (y_ix_in g29.2) ?_
            refine y_iconst (v := 4) (pc2 := 45) rfl dX12_nextLinked_44 (by decide) ?_
            refine y_icmp_eq (tgt := 74) (pc2 := 48) rfl dX12_nextLinked_45 (by decide) (fun c28 => ?_) (fun c28 => ?_)
            · replace hf := y_it c28 hf
              exact y_pk [0, 1, 2, 3, 4] rfl (hj74 _ _ _ _ _ _ hf)
            · replace hf := y_ie c28 hf
              refine y_aload_n (x := v0_6) (pc2 := 49) rfl dX12_nextLinked_48 rfl ?_
              obtain ⟨g27, hf⟩ := y_g hf
              refine y_getP (pc2 := 52) rfl dX12_nextLinked_49 F_BoxYardModel_29 (by decide) rfl g27 ?_
              refine y_iload (pc2 := 54) rfl dX12_nextLinked_52 rfl ?_
              obtain ⟨g26, hf⟩ := y_g hf
              refine y_iald (pc2 := 55) rfl dX12_nextLinked_54 g26.1 (y_ix_in g26.2) ?_
              refine y_iconst (v := 3) (pc2 := 56) rfl dX12_nextLinked_55 (by decide) ?_
              refine y_jnE hf (fun j => ∀ (v0_70 : Nat) (v1_70 : Int32) (v2_70 : Int32) (v3_70 : Int32) (v4_70 : Int32) (h12 : y_H), j v0_70 v1_70 v2_70 v3_70 v4_70 h12 = some (rz, hz) → y_V l G z rm_X12_nextLinked M_X12_nextLinked ad0 h (some (.int rz)) hz 70 [(0, y_p v0_70), (1, .int v1_70), (2, .int v2_70), (3, .int v3_70), (4, .int v4_70)] [] h12 0 0) (fun v0_70 v1_70 v2_70 v3_70 v4_70 h12 hf => ?_) (fun j70 hj70 hf => ?_)
              · refine y_iconst (v := 1) (pc2 := 71) rfl dX12_nextLinked_70 (by decide) ?_
                refine y_goto (tgt := 75) dX12_nextLinked_71 (by decide) ?_
                refine y_istore (lv' := [(5, .int 1), (0, y_p v0_70), (1, .int v1_70), (2, .int v2_70), (3, .int v3_70), (4, .int v4_70)]) (pc2 := 77) rfl dX12_nextLinked_75 (by decide) rfl ?_
                refine y_iload (pc2 := 79) rfl dX12_nextLinked_77 rfl ?_
                refine y_jnE hf (fun j => ∀ (v0_109 : Nat) (v1_109 : Int32) (v2_109 : Int32) (v3_109 : Int32) (v4_109 : Int32) (h13 : y_H), j v0_109 v1_109 v2_109 v3_109 v4_109 h13 = some (rz, hz) → y_V l G z rm_X12_nextLinked M_X12_nextLinked ad0 h (some (.int rz)) hz 109 [(0, y_p v0_109), (1, .int v1_109), (2, .int v2_109), (3, .int v3_109), (4, .int v4_109)] [] h13 0 0) (fun v0_109 v1_109 v2_109 v3_109 v4_109 h13 hf => ?_) (fun j109 hj109 hf => ?_)
                · refine y_iload_n (pc2 := 110) rfl dX12_nextLinked_109 rfl ?_
                  refine y_istore_n (lv' := [(3, .int v3_109), (0, y_p v0_109), (1, .int v1_109), (2, .int v2_109), (4, .int v4_109)]) (pc2 := 111) rfl dX12_nextLinked_110 (by decide) rfl ?_
                  refine y_iinc (v := v4_109 + 1) (lv' := [(4, .int (v4_109 + 1)), (3, .int v3_109), (0, y_p v0_109), (1, .int v1_109), (2, .int v2_109)]) (pc2 := 114) rfl dX12_nextLinked_111 rfl rfl (by decide) rfl ?_
                  refine y_goto (tgt := 6) dX12_nextLinked_114 (by decide) ?_
                  exact y_pk [2, 3, 4, 1, 0] rfl (hj6 _ _ _ _ _ _ hf)
                · refine y_if_eq (tgt := 109) (pc2 := 82) rfl dX12_nextLinked_79 (by decide) (fun c21 => ?_) (fun c21 => ?_)
                  · replace hf := y_it c21 hf
                    exact y_pk [1, 2, 3, 4, 5] rfl (hj109 _ _ _ _ _ _ hf)
                  · replace hf := y_ie c21 hf
                    refine y_iload_n (pc2 := 83) rfl dX12_nextLinked_82 rfl ?_
                    refine y_bipush (v := (-9 : Int32)) (pc2 := 85) rfl dX12_nextLinked_83 (by decide) ?_
                    refine y_jnE hf (fun j => ∀ (v0_104 : Nat) (v1_104 : Int32) (v2_104 : Int32) (v4_104 : Int32) (h14 : y_H), j v0_104 v1_104 v2_104 v4_104 h14 = some (rz, hz) → y_V l G z rm_X12_nextLinked M_X12_nextLinked ad0 h (some (.int rz)) hz 104 [(0, y_p v0_104), (1, .int v1_104), (2, .int v2_104), (4, .int v4_104)] [] h14 0 0) (fun v0_104 v1_104 v2_104 v4_104 h14 hf => ?_) (fun j104 hj104 hf => ?_)
                    · refine y_iload (pc2 := 106) rfl dX12_nextLinked_104 rfl ?_
                      refine y_goto (tgt := 110) dX12_nextLinked_106 (by decide) ?_
                      refine y_istore_n (lv' := [(3, .int v4_104), (0, y_p v0_104), (1, .int v1_104), (2, .int v2_104), (4, .int v4_104)]) (pc2 := 111) rfl dX12_nextLinked_110 (by decide) rfl ?_
                      refine y_iinc (v := v4_104 + 1) (lv' := [(4, .int (v4_104 + 1)), (3, .int v4_104), (0, y_p v0_104), (1, .int v1_104), (2, .int v2_104)]) (pc2 := 114) rfl dX12_nextLinked_111 rfl rfl (by decide) rfl ?_
                      refine y_goto (tgt := 6) dX12_nextLinked_114 (by decide) ?_
                      exact y_pk [2, 3, 4, 1, 0] rfl (hj6 _ _ _ _ _ _ hf)
                    · refine y_icmp_eq (tgt := 104) (pc2 := 88) rfl dX12_nextLinked_85 (by decide) (fun c20 => ?_) (fun c20 => ?_)
                      · replace hf := y_it c20 hf
                        exact y_pk [1, 2, 3, 5] rfl (hj104 _ _ _ _ _ hf)
                      · replace hf := y_ie c20 hf
                        refine y_aload_n (x := v0_70) (pc2 := 89) rfl dX12_nextLinked_88 rfl ?_
                        obtain ⟨g19, hf⟩ := y_g hf
                        refine y_getP (pc2 := 92) rfl dX12_nextLinked_89 F_BoxYardModel_53 (by decide) rfl g19 ?_
                        refine y_iload (pc2 := 94) rfl dX12_nextLinked_92 rfl ?_
                        obtain ⟨g18, hf⟩ := y_g hf
                        refine y_iald (pc2 := 95) rfl dX12_nextLinked_94 g18.1 (y_ix_in g18.2) ?_
                        refine y_aload_n (x := v0_70) (pc2 := 96) rfl dX12_nextLinked_95 rfl ?_
                        obtain ⟨g17, hf⟩ := y_g hf
                        refine y_getP (pc2 := 99) rfl dX12_nextLinked_96 F_BoxYardModel_53 (by decide) rfl g17 ?_
                        refine y_iload_n (pc2 := 100) rfl dX12_nextLinked_99 rfl ?_
                        obtain ⟨g16, hf⟩ := y_g hf
                        refine y_iald (pc2 := 101) rfl dX12_nextLinked_100 g16.1 (y_ix_in g16.2) ?_
                        refine y_icmp_ge (tgt := 109) (pc2 := 104) rfl dX12_nextLinked_101 (by decide) (fun c15 => ?_) (fun c15 => ?_)
                        · replace hf := y_it c15 hf
                          exact y_pk [1, 2, 3, 4, 5] rfl (hj109 _ _ _ _ _ _ hf)
                        · replace hf := y_ie c15 hf
                          exact y_pk [1, 2, 3, 5] rfl (hj104 _ _ _ _ _ hf)
              · refine y_icmp_ne (tgt := 70) (pc2 := 59) rfl dX12_nextLinked_56 (by decide) (fun c25 => ?_) (fun c25 => ?_)
                · replace hf := y_ie c25 hf
                  exact y_pk [0, 1, 2, 3, 4] rfl (hj70 _ _ _ _ _ _ hf)
                · replace hf := y_it c25 hf
                  refine y_aload_n (x := v0_6) (pc2 := 60) rfl dX12_nextLinked_59 rfl ?_
                  obtain ⟨g24, hf⟩ := y_g hf
                  refine y_getP (pc2 := 63) rfl dX12_nextLinked_60 F_BoxYardModel_32 (by decide) rfl g24 ?_
                  refine y_iload (pc2 := 65) rfl dX12_nextLinked_63 rfl ?_
                  obtain ⟨g23, hf⟩ := y_g hf
                  refine y_iald (pc2 := 66) rfl dX12_nextLinked_65 g23.1 (y_ix_in g23.2) ?_
                  refine y_iload_n (pc2 := 67) rfl dX12_nextLinked_66 rfl ?_
                  refine y_icmp_eq (tgt := 74) (pc2 := 70) rfl dX12_nextLinked_67 (by decide) (fun c22 => ?_) (fun c22 => ?_)
                  · replace hf := y_it c22 hf
                    exact y_pk [0, 1, 2, 3, 4] rfl (hj74 _ _ _ _ _ _ hf)
                  · replace hf := y_ie c22 hf
                    exact y_pk [0, 1, 2, 3, 4] rfl (hj70 _ _ _ _ _ _ hf)
  · refine y_istore (lv' := [(4, .int 0), (3, .int (-9 : Int32)), (0, y_p p0), (1, .int p1), (2, .int p2)]) (pc2 := 6) rfl dX12_nextLinked_4 (by decide) rfl ?_
    exact y_pk [2, 3, 4, 1, 0] rfl (hj6 _ _ _ _ _ _ hf)
theorem dX12_stable_0 : decode cX12_stable 0 = .ok (.aload_n 0, 1) := by decide +kernel
theorem dX12_stable_1 : decode cX12_stable 1 = .ok (.iload_n 1, 1) := by decide +kernel
theorem dX12_stable_2 : decode cX12_stable 2 = .ok (.invokevirtual 414, 3) := by decide +kernel
theorem dX12_stable_5 : decode cX12_stable 5 = .ok (.ifCond .ne 5, 3) := by decide +kernel
theorem dX12_stable_8 : decode cX12_stable 8 = .ok (.iconst (-1), 1) := by decide +kernel
theorem dX12_stable_9 : decode cX12_stable 9 = .ok (.ireturn, 1) := by decide +kernel
theorem dX12_stable_10 : decode cX12_stable 10 = .ok (.aload_n 0, 1) := by decide +kernel
theorem dX12_stable_11 : decode cX12_stable 11 = .ok (.bipush (-9), 2) := by decide +kernel
theorem dX12_stable_13 : decode cX12_stable 13 = .ok (.putfield 140, 3) := by decide +kernel
theorem dX12_stable_16 : decode cX12_stable 16 = .ok (.iconst 0, 1) := by decide +kernel
theorem dX12_stable_17 : decode cX12_stable 17 = .ok (.istore_n 2, 1) := by decide +kernel
theorem dX12_stable_18 : decode cX12_stable 18 = .ok (.aload_n 0, 1) := by decide +kernel
theorem dX12_stable_19 : decode cX12_stable 19 = .ok (.iload_n 1, 1) := by decide +kernel
theorem dX12_stable_20 : decode cX12_stable 20 = .ok (.iconst 0, 1) := by decide +kernel
theorem dX12_stable_21 : decode cX12_stable 21 = .ok (.invokevirtual 426, 3) := by decide +kernel
theorem dX12_stable_24 : decode cX12_stable 24 = .ok (.istore_n 3, 1) := by decide +kernel
theorem dX12_stable_25 : decode cX12_stable 25 = .ok (.iload_n 3, 1) := by decide +kernel
theorem dX12_stable_26 : decode cX12_stable 26 = .ok (.bipush (-9), 2) := by decide +kernel
theorem dX12_stable_28 : decode cX12_stable 28 = .ok (.if_icmp .eq 92, 3) := by decide +kernel
theorem dX12_stable_31 : decode cX12_stable 31 = .ok (.aload_n 0, 1) := by decide +kernel
theorem dX12_stable_32 : decode cX12_stable 32 = .ok (.getfield 140, 3) := by decide +kernel
theorem dX12_stable_35 : decode cX12_stable 35 = .ok (.bipush (-9), 2) := by decide +kernel
theorem dX12_stable_37 : decode cX12_stable 37 = .ok (.if_icmp .ne 83, 3) := by decide +kernel
theorem dX12_stable_40 : decode cX12_stable 40 = .ok (.aload_n 0, 1) := by decide +kernel
theorem dX12_stable_41 : decode cX12_stable 41 = .ok (.iload_n 3, 1) := by decide +kernel
theorem dX12_stable_42 : decode cX12_stable 42 = .ok (.invokevirtual 408, 3) := by decide +kernel
theorem dX12_stable_45 : decode cX12_stable 45 = .ok (.istore 4, 2) := by decide +kernel
theorem dX12_stable_47 : decode cX12_stable 47 = .ok (.iload 4, 2) := by decide +kernel
theorem dX12_stable_49 : decode cX12_stable 49 = .ok (.ifCond .le 37, 3) := by decide +kernel
theorem dX12_stable_52 : decode cX12_stable 52 = .ok (.aload_n 0, 1) := by decide +kernel
theorem dX12_stable_53 : decode cX12_stable 53 = .ok (.iload_n 3, 1) := by decide +kernel
theorem dX12_stable_54 : decode cX12_stable 54 = .ok (.putfield 140, 3) := by decide +kernel
theorem dX12_stable_57 : decode cX12_stable 57 = .ok (.aload_n 0, 1) := by decide +kernel
theorem dX12_stable_58 : decode cX12_stable 58 = .ok (.iload_n 2, 1) := by decide +kernel
theorem dX12_stable_59 : decode cX12_stable 59 = .ok (.putfield 429, 3) := by decide +kernel
theorem dX12_stable_62 : decode cX12_stable 62 = .ok (.aload_n 0, 1) := by decide +kernel
theorem dX12_stable_63 : decode cX12_stable 63 = .ok (.iload 4, 2) := by decide +kernel
theorem dX12_stable_65 : decode cX12_stable 65 = .ok (.bipush 62, 2) := by decide +kernel
theorem dX12_stable_67 : decode cX12_stable 67 = .ok (.if_icmp .ne 8, 3) := by decide +kernel
theorem dX12_stable_70 : decode cX12_stable 70 = .ok (.bipush (-62), 2) := by decide +kernel
theorem dX12_stable_72 : decode cX12_stable 72 = .ok (.goto 8, 3) := by decide +kernel
theorem dX12_stable_75 : decode cX12_stable 75 = .ok (.bipush (-40), 2) := by decide +kernel
theorem dX12_stable_77 : decode cX12_stable 77 = .ok (.iload 4, 2) := by decide +kernel
theorem dX12_stable_79 : decode cX12_stable 79 = .ok (.isub, 1) := by decide +kernel
theorem dX12_stable_80 : decode cX12_stable 80 = .ok (.putfield 432, 3) := by decide +kernel
theorem dX12_stable_83 : decode cX12_stable 83 = .ok (.goto 34, 3) := by decide +kernel
theorem dX12_stable_86 : decode cX12_stable 86 = .ok (.aload_n 0, 1) := by decide +kernel
theorem dX12_stable_87 : decode cX12_stable 87 = .ok (.getfield 113, 3) := by decide +kernel
theorem dX12_stable_90 : decode cX12_stable 90 = .ok (.bipush 54, 2) := by decide +kernel
theorem dX12_stable_92 : decode cX12_stable 92 = .ok (.iload_n 1, 1) := by decide +kernel
theorem dX12_stable_93 : decode cX12_stable 93 = .ok (.imul, 1) := by decide +kernel
theorem dX12_stable_94 : decode cX12_stable 94 = .ok (.aload_n 0, 1) := by decide +kernel
theorem dX12_stable_95 : decode cX12_stable 95 = .ok (.iload_n 3, 1) := by decide +kernel
theorem dX12_stable_96 : decode cX12_stable 96 = .ok (.invokevirtual 411, 3) := by decide +kernel
theorem dX12_stable_99 : decode cX12_stable 99 = .ok (.iadd, 1) := by decide +kernel
theorem dX12_stable_100 : decode cX12_stable 100 = .ok (.iload_n 3, 1) := by decide +kernel
theorem dX12_stable_101 : decode cX12_stable 101 = .ok (.iastore, 1) := by decide +kernel
theorem dX12_stable_102 : decode cX12_stable 102 = .ok (.iinc 2 1, 3) := by decide +kernel
theorem dX12_stable_105 : decode cX12_stable 105 = .ok (.aload_n 0, 1) := by decide +kernel
theorem dX12_stable_106 : decode cX12_stable 106 = .ok (.iload_n 1, 1) := by decide +kernel
theorem dX12_stable_107 : decode cX12_stable 107 = .ok (.aload_n 0, 1) := by decide +kernel
theorem dX12_stable_108 : decode cX12_stable 108 = .ok (.getfield 53, 3) := by decide +kernel
theorem dX12_stable_111 : decode cX12_stable 111 = .ok (.iload_n 3, 1) := by decide +kernel
theorem dX12_stable_112 : decode cX12_stable 112 = .ok (.iaload, 1) := by decide +kernel
theorem dX12_stable_113 : decode cX12_stable 113 = .ok (.invokevirtual 426, 3) := by decide +kernel
theorem dX12_stable_116 : decode cX12_stable 116 = .ok (.istore_n 3, 1) := by decide +kernel
theorem dX12_stable_117 : decode cX12_stable 117 = .ok (.goto (-92), 3) := by decide +kernel
theorem dX12_stable_120 : decode cX12_stable 120 = .ok (.iconst 0, 1) := by decide +kernel
theorem dX12_stable_121 : decode cX12_stable 121 = .ok (.istore 4, 2) := by decide +kernel
theorem dX12_stable_123 : decode cX12_stable 123 = .ok (.iload 4, 2) := by decide +kernel
theorem dX12_stable_125 : decode cX12_stable 125 = .ok (.bipush 54, 2) := by decide +kernel
theorem dX12_stable_127 : decode cX12_stable 127 = .ok (.if_icmp .ge 68, 3) := by decide +kernel
theorem dX12_stable_130 : decode cX12_stable 130 = .ok (.aload_n 0, 1) := by decide +kernel
theorem dX12_stable_131 : decode cX12_stable 131 = .ok (.getfield 113, 3) := by decide +kernel
theorem dX12_stable_134 : decode cX12_stable 134 = .ok (.bipush 54, 2) := by decide +kernel
theorem dX12_stable_136 : decode cX12_stable 136 = .ok (.iload_n 1, 1) := by decide +kernel
theorem dX12_stable_137 : decode cX12_stable 137 = .ok (.imul, 1) := by decide +kernel
theorem dX12_stable_138 : decode cX12_stable 138 = .ok (.iload 4, 2) := by decide +kernel
theorem dX12_stable_140 : decode cX12_stable 140 = .ok (.iadd, 1) := by decide +kernel
theorem dX12_stable_141 : decode cX12_stable 141 = .ok (.iaload, 1) := by decide +kernel
theorem dX12_stable_142 : decode cX12_stable 142 = .ok (.istore 5, 2) := by decide +kernel
theorem dX12_stable_144 : decode cX12_stable 144 = .ok (.aload_n 0, 1) := by decide +kernel
theorem dX12_stable_145 : decode cX12_stable 145 = .ok (.getfield 113, 3) := by decide +kernel
theorem dX12_stable_148 : decode cX12_stable 148 = .ok (.bipush 54, 2) := by decide +kernel
theorem dX12_stable_150 : decode cX12_stable 150 = .ok (.iload_n 1, 1) := by decide +kernel
theorem dX12_stable_151 : decode cX12_stable 151 = .ok (.imul, 1) := by decide +kernel
theorem dX12_stable_152 : decode cX12_stable 152 = .ok (.iload 4, 2) := by decide +kernel
theorem dX12_stable_154 : decode cX12_stable 154 = .ok (.iadd, 1) := by decide +kernel
theorem dX12_stable_155 : decode cX12_stable 155 = .ok (.iload 5, 2) := by decide +kernel
theorem dX12_stable_157 : decode cX12_stable 157 = .ok (.ifCond .lt 29, 3) := by decide +kernel
theorem dX12_stable_160 : decode cX12_stable 160 = .ok (.aload_n 0, 1) := by decide +kernel
theorem dX12_stable_161 : decode cX12_stable 161 = .ok (.getfield 29, 3) := by decide +kernel
theorem dX12_stable_164 : decode cX12_stable 164 = .ok (.iload 5, 2) := by decide +kernel
theorem dX12_stable_166 : decode cX12_stable 166 = .ok (.iaload, 1) := by decide +kernel
theorem dX12_stable_167 : decode cX12_stable 167 = .ok (.iconst 3, 1) := by decide +kernel
theorem dX12_stable_168 : decode cX12_stable 168 = .ok (.if_icmp .ne 14, 3) := by decide +kernel
theorem dX12_stable_171 : decode cX12_stable 171 = .ok (.aload_n 0, 1) := by decide +kernel
theorem dX12_stable_172 : decode cX12_stable 172 = .ok (.getfield 32, 3) := by decide +kernel
theorem dX12_stable_175 : decode cX12_stable 175 = .ok (.iload 5, 2) := by decide +kernel
theorem dX12_stable_177 : decode cX12_stable 177 = .ok (.iaload, 1) := by decide +kernel
theorem dX12_stable_178 : decode cX12_stable 178 = .ok (.iload_n 1, 1) := by decide +kernel
theorem dX12_stable_179 : decode cX12_stable 179 = .ok (.if_icmp .eq 7, 3) := by decide +kernel
theorem dX12_stable_182 : decode cX12_stable 182 = .ok (.iconst (-1), 1) := by decide +kernel
theorem dX12_stable_183 : decode cX12_stable 183 = .ok (.goto 5, 3) := by decide +kernel
theorem dX12_stable_186 : decode cX12_stable 186 = .ok (.iload 5, 2) := by decide +kernel
theorem dX12_stable_188 : decode cX12_stable 188 = .ok (.iastore, 1) := by decide +kernel
theorem dX12_stable_189 : decode cX12_stable 189 = .ok (.iinc 4 1, 3) := by decide +kernel
theorem dX12_stable_192 : decode cX12_stable 192 = .ok (.goto (-69), 3) := by decide +kernel
theorem dX12_stable_195 : decode cX12_stable 195 = .ok (.aload_n 0, 1) := by decide +kernel
theorem dX12_stable_196 : decode cX12_stable 196 = .ok (.getfield 140, 3) := by decide +kernel
theorem dX12_stable_199 : decode cX12_stable 199 = .ok (.bipush (-9), 2) := by decide +kernel
theorem dX12_stable_201 : decode cX12_stable 201 = .ok (.if_icmp .ne 7, 3) := by decide +kernel
theorem dX12_stable_204 : decode cX12_stable 204 = .ok (.iconst 1, 1) := by decide +kernel
theorem dX12_stable_205 : decode cX12_stable 205 = .ok (.goto 4, 3) := by decide +kernel
theorem dX12_stable_208 : decode cX12_stable 208 = .ok (.iconst 0, 1) := by decide +kernel
theorem dX12_stable_209 : decode cX12_stable 209 = .ok (.ireturn, 1) := by decide +kernel
def M_X12_stable : y_M := (yX12_stable, cX12_stable, 6, (Option.some Jvm.ClassFile.FieldType.int))
theorem n_X12_stable : y_N0 M_X12_stable 1 := ⟨(c_9 216 (by decide +kernel) rfl), (c_1 9 (by decide +kernel) rfl), ⟨by decide +kernel, by decide +kernel⟩, by decide +kernel⟩
theorem l_BoxYardModel_426 : y_lnk "BoxYardModel" 426 M_X12_nextLinked := Or.inl (c_9 217 (by decide +kernel) rfl)
theorem i_X12_nextLinked : Cond.instanceMethod (M_X12_nextLinked).1 ∈ y_tb := (c_9 219 (by decide +kernel) rfl)
theorem e_X12_nextLinked : Cond.selects (M_X12_nextLinked).1.cls (M_X12_nextLinked).1 (M_X12_nextLinked).1 ∈ y_tb := (m_s 98 (by decide +kernel) rfl)
theorem F_BoxYardModel_140 : y_F "BoxYardModel" 140 12 52 := ⟨_, _, _, rfl, by decide, Or.inl (c_7 174 (by decide +kernel) rfl)⟩
theorem Fp_BoxYardModel_429 {nm : String} : y_Fp "BoxYardModel" nm 429 12 53 := ⟨_, _, _, rfl, by decide, Or.inl ⟨rfl, Or.inl (c_7 175 (by decide +kernel) rfl)⟩⟩
theorem Fp_BoxYardModel_432 {nm : String} : y_Fp "BoxYardModel" nm 432 12 54 := ⟨_, _, _, rfl, by decide, Or.inl ⟨rfl, Or.inl (c_7 176 (by decide +kernel) rfl)⟩⟩
set_option maxRecDepth 100000 in
def f_X12_stable (p0 : Nat) (p1 : Int32) (h : y_H) : Option (Int32 × y_H) :=
  if y_K h p0 = 13 then
  y_cl (f_X12_isShip p0 p1 h) (fun r1 h2 =>
  if r1 = true then
    if y_K h2 p0 = 13 then
    y_bd (s_I h2 p0 52 (-9 : Int32)) (fun h4 =>
    if y_K h4 p0 = 13 then
    y_cl (f_X12_nextLinked p0 p1 0 h4) (fun r7 h8 =>
    y_jl (fun (_ : Nat) (_ : Int32) (_ : Int32) (_ : Int32) (_ : y_H) => (none : Option (Int32 × y_H))) (fun j25 (v0_25 : Nat) (v1_25 : Int32) (v2_25 : Int32) (v3_25 : Int32) (h10 : y_H) =>
        y_jn (fun (v0_120 : Nat) (v1_120 : Int32) (h11 : y_H) => (
            y_jl (fun (_ : Nat) (_ : Int32) (_ : Int32) (_ : y_H) => (none : Option (Int32 × y_H))) (fun j123 (v0_123 : Nat) (v1_123 : Int32) (v4_123 : Int32) (h12 : y_H) =>
                if 54 ≤ v4_123 then
                  if y_K h12 v0_123 = 13 then
                  if (y_I h12 v0_123 52) = (-9 : Int32) then
                    some (1, h12)
                  else
                    some (0, h12)
                  else none
                else
                  if y_K h12 v0_123 = 13 then
                  if y_K h12 (y_P h12 v0_123 39) = 100 ∧ y_ix ((54 * v1_123) + v4_123) (y_N h12 (y_P h12 v0_123 39)) = true then
                  if y_K h12 v0_123 = 13 then
                  if (y_I h12 (y_P h12 v0_123 39) (Int32.toNatClampNeg ((54 * v1_123) + v4_123))) < 0 then
                    if y_K h12 (y_P h12 v0_123 39) = 100 ∧ y_ix ((54 * v1_123) + v4_123) (y_N h12 (y_P h12 v0_123 39)) = true then
                    y_bd (s_I h12 (y_P h12 v0_123 39) (Int32.toNatClampNeg ((54 * v1_123) + v4_123)) (y_I h12 (y_P h12 v0_123 39) (Int32.toNatClampNeg ((54 * v1_123) + v4_123)))) (fun h15 =>
                    j123 v0_123 v1_123 (v4_123 + 1) h15)
                    else none
                  else
                    if y_K h12 v0_123 = 13 then
                    if y_K h12 (y_P h12 v0_123 7) = 100 ∧ y_ix (y_I h12 (y_P h12 v0_123 39) (Int32.toNatClampNeg ((54 * v1_123) + v4_123))) (y_N h12 (y_P h12 v0_123 7)) = true then
                    if (y_I h12 (y_P h12 v0_123 7) (Int32.toNatClampNeg (y_I h12 (y_P h12 v0_123 39) (Int32.toNatClampNeg ((54 * v1_123) + v4_123))))) = 3 then
                      if y_K h12 v0_123 = 13 then
                      if y_K h12 (y_P h12 v0_123 8) = 100 ∧ y_ix (y_I h12 (y_P h12 v0_123 39) (Int32.toNatClampNeg ((54 * v1_123) + v4_123))) (y_N h12 (y_P h12 v0_123 8)) = true then
                      if (y_I h12 (y_P h12 v0_123 8) (Int32.toNatClampNeg (y_I h12 (y_P h12 v0_123 39) (Int32.toNatClampNeg ((54 * v1_123) + v4_123))))) = v1_123 then
                        if y_K h12 (y_P h12 v0_123 39) = 100 ∧ y_ix ((54 * v1_123) + v4_123) (y_N h12 (y_P h12 v0_123 39)) = true then
                        y_bd (s_I h12 (y_P h12 v0_123 39) (Int32.toNatClampNeg ((54 * v1_123) + v4_123)) (y_I h12 (y_P h12 v0_123 39) (Int32.toNatClampNeg ((54 * v1_123) + v4_123)))) (fun h21 =>
                        j123 v0_123 v1_123 (v4_123 + 1) h21)
                        else none
                      else
                        if y_K h12 (y_P h12 v0_123 39) = 100 ∧ y_ix ((54 * v1_123) + v4_123) (y_N h12 (y_P h12 v0_123 39)) = true then
                        y_bd (s_I h12 (y_P h12 v0_123 39) (Int32.toNatClampNeg ((54 * v1_123) + v4_123)) (-1 : Int32)) (fun h24 =>
                        j123 v0_123 v1_123 (v4_123 + 1) h24)
                        else none
                      else none
                      else none
                    else
                      if y_K h12 (y_P h12 v0_123 39) = 100 ∧ y_ix ((54 * v1_123) + v4_123) (y_N h12 (y_P h12 v0_123 39)) = true then
                      y_bd (s_I h12 (y_P h12 v0_123 39) (Int32.toNatClampNeg ((54 * v1_123) + v4_123)) (-1 : Int32)) (fun h18 =>
                      j123 v0_123 v1_123 (v4_123 + 1) h18)
                      else none
                    else none
                    else none
                  else none
                  else none
                  else none) (fun j123 =>
            j123 v0_120 v1_120 0 h11) : Option (Int32 × y_H))) (fun j120 =>
        if v3_25 = (-9 : Int32) then
          j120 v0_25 v1_25 h10
        else
          if y_K h10 v0_25 = 13 then
          if (y_I h10 v0_25 52) = (-9 : Int32) then
            if y_K h10 v0_25 = 13 then
            y_cl (f_X12_fits v0_25 v3_25 h10) (fun r38 h39 =>
            y_jn (fun (v0_117 : Nat) (v1_117 : Int32) (v2_117 : Int32) (v3_117 : Int32) (h41 : y_H) => (
                j25 v0_117 v1_117 v2_117 v3_117 h41 : Option (Int32 × y_H))) (fun j117 =>
            if r38 ≤ 0 then
              if y_K h39 v0_25 = 13 then
              if y_K h39 v0_25 = 13 then
              y_cl (f_X12_linked v0_25 v3_25 h39) (fun r42 h43 =>
              if y_K h43 (y_P h39 v0_25 39) = 100 ∧ y_ix ((54 * v1_25) + r42) (y_N h43 (y_P h39 v0_25 39)) = true then
              y_bd (s_I h43 (y_P h39 v0_25 39) (Int32.toNatClampNeg ((54 * v1_25) + r42)) v3_25) (fun h45 =>
              if y_K h45 v0_25 = 13 then
              if y_K h45 (y_P h45 v0_25 15) = 100 ∧ y_ix v3_25 (y_N h45 (y_P h45 v0_25 15)) = true then
              if y_K h45 v0_25 = 13 then
              y_cl (f_X12_nextLinked v0_25 v1_25 (y_I h45 (y_P h45 v0_25 15) (Int32.toNatClampNeg v3_25)) h45) (fun r48 h49 =>
              j117 v0_25 v1_25 (v2_25 + 1) r48 h49)
              else none
              else none
              else none)
              else none)
              else none
              else none
            else
              if y_K h39 v0_25 = 13 then
              y_bd (s_I h39 v0_25 52 v3_25) (fun h56 =>
              if y_K h56 v0_25 = 13 then
              y_bd (s_I h56 v0_25 53 v2_25) (fun h59 =>
              if r38 = 62 then
                if y_K h59 v0_25 = 13 then
                y_bd (s_I h59 v0_25 54 (-62 : Int32)) (fun h65 =>
                j117 v0_25 v1_25 v2_25 v3_25 h65)
                else none
              else
                if y_K h59 v0_25 = 13 then
                y_bd (s_I h59 v0_25 54 ((-40 : Int32) - r38)) (fun h62 =>
                j117 v0_25 v1_25 v2_25 v3_25 h62)
                else none)
              else none)
              else none))
            else none
          else
            j120 v0_25 v1_25 h10
          else none)) (fun j25 =>
    j25 p0 p1 0 r7 h8))
    else none)
    else none
  else
    some ((-1 : Int32), h2))
  else none
abbrev rm_X12_stable : Room := { frames := 4, cells := 0, slots := 0, locals := 97 }
set_option maxRecDepth 100000 in
set_option maxHeartbeats 4000000 in
theorem k_X12_stable {l : Launch} {G : y_G} {p0 : Nat} {p1 : Int32} {h hz : y_H} {rz : Int32} (hf : f_X12_stable p0 p1 h = some (rz, hz)) : y_S l G M_X12_stable rm_X12_stable [y_p p0, .int p1] h (some (.int rz)) hz := by
  refine y_start (lv := [(0, y_p p0), (1, .int p1)]) (by decide) (by simp [lg_sl, y_p_cat, y_ci, y_cj, M_X12_stable]) (by simp [lv_args, y_p_cat, y_ci, y_cj]) (fun z ad0 => ?_)
  unfold f_X12_stable at hf
  refine y_aload_n (x := p0) (pc2 := 1) rfl dX12_stable_0 rfl ?_
  refine y_iload_n (pc2 := 2) rfl dX12_stable_1 rfl ?_
  obtain ⟨g76, hf⟩ := y_g hf
  obtain ⟨r1, h2, c3, hf⟩ := y_clE hf
  refine y_callV (As := [.int p1]) (rm := rm_X12_isShip) (cells := 0) (slots := 0) (pc2 := 5) rfl dX12_stable_2 n_X12_isShip l_BoxYardModel_414 i_X12_isShip e_X12_isShip (ci := 12) rfl rfl (by decide) g76 rfl rfl (by decide) (by decide) (by decide) (k_X12_isShip c3) ?_
  refine y_ifz_ne (tgt := 10) (pc2 := 8) rfl dX12_stable_5 (by decide) (fun c75 => ?_) (fun c75 => ?_)
  · replace hf := y_it c75 hf
    refine y_aload_n (x := p0) (pc2 := 11) rfl dX12_stable_10 rfl ?_
    refine y_bipush (v := (-9 : Int32)) (pc2 := 13) rfl dX12_stable_11 (by decide) ?_
    obtain ⟨g6, hf⟩ := y_g hf
    obtain ⟨h4, e5, hf⟩ := y_bdE hf
    refine y_putI (x := (-9 : Int32)) (pc2 := 16) rfl dX12_stable_13 Fp_BoxYardModel_140 (by decide) rfl g6 e5 ?_
    refine y_iconst (v := 0) (pc2 := 17) rfl dX12_stable_16 (by decide) ?_
    refine y_istore_n (lv' := [(2, .int 0), (0, y_p p0), (1, .int p1)]) (pc2 := 18) rfl dX12_stable_17 (by decide) rfl ?_
    refine y_aload_n (x := p0) (pc2 := 19) rfl dX12_stable_18 rfl ?_
    refine y_iload_n (pc2 := 20) rfl dX12_stable_19 rfl ?_
    refine y_iconst (v := 0) (pc2 := 21) rfl dX12_stable_20 (by decide) ?_
    obtain ⟨g74, hf⟩ := y_g hf
    obtain ⟨r7, h8, c9, hf⟩ := y_clE hf
    refine y_callV (As := [.int p1, .int 0]) (rm := rm_X12_nextLinked) (cells := 0) (slots := 0) (pc2 := 24) rfl dX12_stable_21 n_X12_nextLinked l_BoxYardModel_426 i_X12_nextLinked e_X12_nextLinked (ci := 12) rfl rfl (by decide) g74 rfl rfl (by decide) (by decide) (by decide) (k_X12_nextLinked c9) ?_
    refine y_jlE hf (fun j => ∀ (v0_25 : Nat) (v1_25 : Int32) (v2_25 : Int32) (v3_25 : Int32) (h10 : y_H), j v0_25 v1_25 v2_25 v3_25 h10 = some (rz, hz) → y_V l G z rm_X12_stable M_X12_stable ad0 h (some (.int rz)) hz 25 [(0, y_p v0_25), (1, .int v1_25), (2, .int v2_25), (3, .int v3_25)] [] h10 0 0) (fun _ _ _ _ _ hf => by cases hf) (fun j25 hj25 v0_25 v1_25 v2_25 v3_25 h10 hf => ?_) (fun j25 hj25 hf => ?_)
    · refine y_iload_n (pc2 := 26) rfl dX12_stable_25 rfl ?_
      refine y_bipush (v := (-9 : Int32)) (pc2 := 28) rfl dX12_stable_26 (by decide) ?_
      refine y_jnE hf (fun j => ∀ (v0_120 : Nat) (v1_120 : Int32) (h11 : y_H), j v0_120 v1_120 h11 = some (rz, hz) → y_V l G z rm_X12_stable M_X12_stable ad0 h (some (.int rz)) hz 120 [(0, y_p v0_120), (1, .int v1_120)] [] h11 0 0) (fun v0_120 v1_120 h11 hf => ?_) (fun j120 hj120 hf => ?_)
      · refine y_iconst (v := 0) (pc2 := 121) rfl dX12_stable_120 (by decide) ?_
        refine y_jlE hf (fun j => ∀ (v0_123 : Nat) (v1_123 : Int32) (v4_123 : Int32) (h12 : y_H), j v0_123 v1_123 v4_123 h12 = some (rz, hz) → y_V l G z rm_X12_stable M_X12_stable ad0 h (some (.int rz)) hz 123 [(0, y_p v0_123), (1, .int v1_123), (4, .int v4_123)] [] h12 0 0) (fun _ _ _ _ hf => by cases hf) (fun j123 hj123 v0_123 v1_123 v4_123 h12 hf => ?_) (fun j123 hj123 hf => ?_)
        · refine y_iload (pc2 := 125) rfl dX12_stable_123 rfl ?_
          refine y_bipush (v := 54) (pc2 := 127) rfl dX12_stable_125 (by decide) ?_
          refine y_icmp_ge (tgt := 195) (pc2 := 130) rfl dX12_stable_127 (by decide) (fun c37 => ?_) (fun c37 => ?_)
          · replace hf := y_it c37 hf
            refine y_aload_n (x := v0_123) (pc2 := 196) rfl dX12_stable_195 rfl ?_
            obtain ⟨g14, hf⟩ := y_g hf
            refine y_getI (pc2 := 199) rfl dX12_stable_196 F_BoxYardModel_140 (by decide) rfl g14 ?_
            refine y_bipush (v := (-9 : Int32)) (pc2 := 201) rfl dX12_stable_199 (by decide) ?_
            refine y_icmp_ne (tgt := 208) (pc2 := 204) rfl dX12_stable_201 (by decide) (fun c13 => ?_) (fun c13 => ?_)
            · replace hf := y_ie c13 hf
              refine y_iconst (v := 0) (pc2 := 209) rfl dX12_stable_208 (by decide) ?_
              exact y_iretF hf dX12_stable_209 rfl (by decide) (by decide)
            · replace hf := y_it c13 hf
              refine y_iconst (v := 1) (pc2 := 205) rfl dX12_stable_204 (by decide) ?_
              refine y_goto (tgt := 209) dX12_stable_205 (by decide) ?_
              exact y_iretF hf dX12_stable_209 rfl (by decide) (by decide)
          · replace hf := y_ie c37 hf
            refine y_aload_n (x := v0_123) (pc2 := 131) rfl dX12_stable_130 rfl ?_
            obtain ⟨g36, hf⟩ := y_g hf
            refine y_getP (pc2 := 134) rfl dX12_stable_131 F_BoxYardModel_113 (by decide) rfl g36 ?_
            refine y_bipush (v := 54) (pc2 := 136) rfl dX12_stable_134 (by decide) ?_
            refine y_iload_n (pc2 := 137) rfl dX12_stable_136 rfl ?_
            refine y_imul (pc2 := 138) rfl dX12_stable_137 ?_
            refine y_iload (pc2 := 140) rfl dX12_stable_138 rfl ?_
            refine y_iadd (pc2 := 141) rfl dX12_stable_140 ?_
            obtain ⟨g35, hf⟩ := y_g hf
            refine y_iald (pc2 := 142) rfl dX12_stable_141 g35.1 (y_ix_in g35.2) ?_
            refine y_istore (lv' := [(5, .int (y_I h12 (y_P h12 v0_123 39) (Int32.toNatClampNeg ((54 * v1_123) + v4_123)))), (0, y_p v0_123), (1, .int v1_123), (4, .int v4_123)]) (pc2 := 144) rfl dX12_stable_142 (by decide) rfl ?_
            refine y_aload_n (x := v0_123) (pc2 := 145) rfl dX12_stable_144 rfl ?_
            obtain ⟨g34, hf⟩ := y_g hf
            refine y_getP (pc2 := 148) rfl dX12_stable_145 F_BoxYardModel_113 (by decide) rfl g34 ?_
            refine y_bipush (v := 54) (pc2 := 150) rfl dX12_stable_148 (by decide) ?_
            refine y_iload_n (pc2 := 151) rfl dX12_stable_150 rfl ?_
            refine y_imul (pc2 := 152) rfl dX12_stable_151 ?_
            refine y_iload (pc2 := 154) rfl dX12_stable_152 rfl ?_
            refine y_iadd (pc2 := 155) rfl dX12_stable_154 ?_
            refine y_iload (pc2 := 157) rfl dX12_stable_155 rfl ?_
            refine y_if_lt (tgt := 186) (pc2 := 160) rfl dX12_stable_157 (by decide) (fun c33 => ?_) (fun c33 => ?_)
            · replace hf := y_it c33 hf
              refine y_iload (pc2 := 188) rfl dX12_stable_186 rfl ?_
              obtain ⟨g17, hf⟩ := y_g hf
              obtain ⟨h15, e16, hf⟩ := y_bdE hf
              refine y_iast (x := y_I h12 (y_P h12 v0_123 39) (Int32.toNatClampNeg ((54 * v1_123) + v4_123))) (pc2 := 189) rfl dX12_stable_188 g17.1 (y_ix_in g17.2) e16 ?_
              refine y_iinc (v := v4_123 + 1) (lv' := [(4, .int (v4_123 + 1)), (5, .int (y_I h12 (y_P h12 v0_123 39) (Int32.toNatClampNeg ((54 * v1_123) + v4_123)))), (0, y_p v0_123), (1, .int v1_123)]) (pc2 := 192) rfl dX12_stable_189 rfl rfl (by decide) rfl ?_
              refine y_goto (tgt := 123) dX12_stable_192 (by decide) ?_
              exact y_pk [2, 3, 0] rfl (hj123 _ _ _ _ hf)
            · replace hf := y_ie c33 hf
              refine y_aload_n (x := v0_123) (pc2 := 161) rfl dX12_stable_160 rfl ?_
              obtain ⟨g32, hf⟩ := y_g hf
              refine y_getP (pc2 := 164) rfl dX12_stable_161 F_BoxYardModel_29 (by decide) rfl g32 ?_
              refine y_iload (pc2 := 166) rfl dX12_stable_164 rfl ?_
              obtain ⟨g31, hf⟩ := y_g hf
              refine y_iald (pc2 := 167) rfl dX12_stable_166 g31.1 (y_ix_in g31.2) ?_
              refine y_iconst (v := 3) (pc2 := 168) rfl dX12_stable_167 (by decide) ?_
              refine y_icmp_ne (tgt := 182) (pc2 := 171) rfl dX12_stable_168 (by decide) (fun c30 => ?_) (fun c30 => ?_)
              · replace hf := y_ie c30 hf
                refine y_iconst (v := (-1 : Int32)) (pc2 := 183) rfl dX12_stable_182 (by decide) ?_
                refine y_goto (tgt := 188) dX12_stable_183 (by decide) ?_
                obtain ⟨g20, hf⟩ := y_g hf
                obtain ⟨h18, e19, hf⟩ := y_bdE hf
                refine y_iast (x := (-1 : Int32)) (pc2 := 189) rfl dX12_stable_188 g20.1 (y_ix_in g20.2) e19 ?_
                refine y_iinc (v := v4_123 + 1) (lv' := [(4, .int (v4_123 + 1)), (5, .int (y_I h12 (y_P h12 v0_123 39) (Int32.toNatClampNeg ((54 * v1_123) + v4_123)))), (0, y_p v0_123), (1, .int v1_123)]) (pc2 := 192) rfl dX12_stable_189 rfl rfl (by decide) rfl ?_
                refine y_goto (tgt := 123) dX12_stable_192 (by decide) ?_
                exact y_pk [2, 3, 0] rfl (hj123 _ _ _ _ hf)
              · replace hf := y_it c30 hf
                refine y_aload_n (x := v0_123) (pc2 := 172) rfl dX12_stable_171 rfl ?_
                obtain ⟨g29, hf⟩ := y_g hf
                refine y_getP (pc2 := 175) rfl dX12_stable_172 F_BoxYardModel_32 (by decide) rfl g29 ?_
                refine y_iload (pc2 := 177) rfl dX12_stable_175 rfl ?_
                obtain ⟨g28, hf⟩ := y_g hf
                refine y_iald (pc2 := 178) rfl dX12_stable_177 g28.1 (y_ix_in g28.2) ?_
                refine y_iload_n (pc2 := 179) rfl dX12_stable_178 rfl ?_
                refine y_icmp_eq (tgt := 186) (pc2 := 182) rfl dX12_stable_179 (by decide) (fun c27 => ?_) (fun c27 => ?_)
                · replace hf := y_it c27 hf
                  refine y_iload (pc2 := 188) rfl dX12_stable_186 rfl ?_
                  obtain ⟨g23, hf⟩ := y_g hf
                  obtain ⟨h21, e22, hf⟩ := y_bdE hf
                  refine y_iast (x := y_I h12 (y_P h12 v0_123 39) (Int32.toNatClampNeg ((54 * v1_123) + v4_123))) (pc2 := 189) rfl dX12_stable_188 g23.1 (y_ix_in g23.2) e22 ?_
                  refine y_iinc (v := v4_123 + 1) (lv' := [(4, .int (v4_123 + 1)), (5, .int (y_I h12 (y_P h12 v0_123 39) (Int32.toNatClampNeg ((54 * v1_123) + v4_123)))), (0, y_p v0_123), (1, .int v1_123)]) (pc2 := 192) rfl dX12_stable_189 rfl rfl (by decide) rfl ?_
                  refine y_goto (tgt := 123) dX12_stable_192 (by decide) ?_
                  exact y_pk [2, 3, 0] rfl (hj123 _ _ _ _ hf)
                · replace hf := y_ie c27 hf
                  refine y_iconst (v := (-1 : Int32)) (pc2 := 183) rfl dX12_stable_182 (by decide) ?_
                  refine y_goto (tgt := 188) dX12_stable_183 (by decide) ?_
                  obtain ⟨g26, hf⟩ := y_g hf
                  obtain ⟨h24, e25, hf⟩ := y_bdE hf
                  refine y_iast (x := (-1 : Int32)) (pc2 := 189) rfl dX12_stable_188 g26.1 (y_ix_in g26.2) e25 ?_
                  refine y_iinc (v := v4_123 + 1) (lv' := [(4, .int (v4_123 + 1)), (5, .int (y_I h12 (y_P h12 v0_123 39) (Int32.toNatClampNeg ((54 * v1_123) + v4_123)))), (0, y_p v0_123), (1, .int v1_123)]) (pc2 := 192) rfl dX12_stable_189 rfl rfl (by decide) rfl ?_
                  refine y_goto (tgt := 123) dX12_stable_192 (by decide) ?_
                  exact y_pk [2, 3, 0] rfl (hj123 _ _ _ _ hf)
        · refine y_istore (lv' := [(4, .int 0), (0, y_p v0_120), (1, .int v1_120)]) (pc2 := 123) rfl dX12_stable_121 (by decide) rfl ?_
          exact y_pk [1, 2, 0] rfl (hj123 _ _ _ _ hf)
      · refine y_icmp_eq (tgt := 120) (pc2 := 31) rfl dX12_stable_28 (by decide) (fun c73 => ?_) (fun c73 => ?_)
        · replace hf := y_it c73 hf
          exact y_pk [0, 1] rfl (hj120 _ _ _ hf)
        · replace hf := y_ie c73 hf
          refine y_aload_n (x := v0_25) (pc2 := 32) rfl dX12_stable_31 rfl ?_
          obtain ⟨g72, hf⟩ := y_g hf
          refine y_getI (pc2 := 35) rfl dX12_stable_32 F_BoxYardModel_140 (by decide) rfl g72 ?_
          refine y_bipush (v := (-9 : Int32)) (pc2 := 37) rfl dX12_stable_35 (by decide) ?_
          refine y_icmp_ne (tgt := 120) (pc2 := 40) rfl dX12_stable_37 (by decide) (fun c71 => ?_) (fun c71 => ?_)
          · replace hf := y_ie c71 hf
            exact y_pk [0, 1] rfl (hj120 _ _ _ hf)
          · replace hf := y_it c71 hf
            refine y_aload_n (x := v0_25) (pc2 := 41) rfl dX12_stable_40 rfl ?_
            refine y_iload_n (pc2 := 42) rfl dX12_stable_41 rfl ?_
            obtain ⟨g70, hf⟩ := y_g hf
            obtain ⟨r38, h39, c40, hf⟩ := y_clE hf
            refine y_callV (As := [.int v3_25]) (rm := rm_X12_fits) (cells := 0) (slots := 0) (pc2 := 45) rfl dX12_stable_42 n_X12_fits l_BoxYardModel_408 i_X12_fits e_X12_fits (ci := 12) rfl rfl (by decide) g70 rfl rfl (by decide) (by decide) (by decide) (k_X12_fits c40) ?_
            refine y_istore (lv' := [(4, .int r38), (0, y_p v0_25), (1, .int v1_25), (2, .int v2_25), (3, .int v3_25)]) (pc2 := 47) rfl dX12_stable_45 (by decide) rfl ?_
            refine y_iload (pc2 := 49) rfl dX12_stable_47 rfl ?_
            refine y_jnE hf (fun j => ∀ (v0_117 : Nat) (v1_117 : Int32) (v2_117 : Int32) (v3_117 : Int32) (h41 : y_H), j v0_117 v1_117 v2_117 v3_117 h41 = some (rz, hz) → y_V l G z rm_X12_stable M_X12_stable ad0 h (some (.int rz)) hz 117 [(0, y_p v0_117), (1, .int v1_117), (2, .int v2_117), (3, .int v3_117)] [] h41 0 0) (fun v0_117 v1_117 v2_117 v3_117 h41 hf => ?_) (fun j117 hj117 hf => ?_)
            · refine y_goto (tgt := 25) dX12_stable_117 (by decide) ?_
              exact y_pk [0, 1, 2, 3] rfl (hj25 _ _ _ _ _ hf)
            · refine y_if_le (tgt := 86) (pc2 := 52) rfl dX12_stable_49 (by decide) (fun c69 => ?_) (fun c69 => ?_)
              · replace hf := y_it c69 hf
                refine y_aload_n (x := v0_25) (pc2 := 87) rfl dX12_stable_86 rfl ?_
                obtain ⟨g55, hf⟩ := y_g hf
                refine y_getP (pc2 := 90) rfl dX12_stable_87 F_BoxYardModel_113 (by decide) rfl g55 ?_
                refine y_bipush (v := 54) (pc2 := 92) rfl dX12_stable_90 (by decide) ?_
                refine y_iload_n (pc2 := 93) rfl dX12_stable_92 rfl ?_
                refine y_imul (pc2 := 94) rfl dX12_stable_93 ?_
                refine y_aload_n (x := v0_25) (pc2 := 95) rfl dX12_stable_94 rfl ?_
                refine y_iload_n (pc2 := 96) rfl dX12_stable_95 rfl ?_
                obtain ⟨g54, hf⟩ := y_g hf
                obtain ⟨r42, h43, c44, hf⟩ := y_clE hf
                refine y_callV (As := [.int v3_25]) (rm := rm_X12_linked) (cells := 0) (slots := 0) (pc2 := 99) rfl dX12_stable_96 n_X12_linked l_BoxYardModel_411 i_X12_linked e_X12_linked (ci := 12) rfl rfl (by decide) g54 rfl rfl (by decide) (by simp [y_ci, y_cj, y_p_cat]) (by decide) (k_X12_linked c44) ?_
                refine y_iadd (pc2 := 100) rfl dX12_stable_99 ?_
                refine y_iload_n (pc2 := 101) rfl dX12_stable_100 rfl ?_
                obtain ⟨g47, hf⟩ := y_g hf
                obtain ⟨h45, e46, hf⟩ := y_bdE hf
                refine y_iast (x := v3_25) (pc2 := 102) rfl dX12_stable_101 g47.1 (y_ix_in g47.2) e46 ?_
                refine y_iinc (v := v2_25 + 1) (lv' := [(2, .int (v2_25 + 1)), (4, .int r38), (0, y_p v0_25), (1, .int v1_25), (3, .int v3_25)]) (pc2 := 105) rfl dX12_stable_102 rfl rfl (by decide) rfl ?_
                refine y_aload_n (x := v0_25) (pc2 := 106) rfl dX12_stable_105 rfl ?_
                refine y_iload_n (pc2 := 107) rfl dX12_stable_106 rfl ?_
                refine y_aload_n (x := v0_25) (pc2 := 108) rfl dX12_stable_107 rfl ?_
                obtain ⟨g53, hf⟩ := y_g hf
                refine y_getP (pc2 := 111) rfl dX12_stable_108 F_BoxYardModel_53 (by decide) rfl g53 ?_
                refine y_iload_n (pc2 := 112) rfl dX12_stable_111 rfl ?_
                obtain ⟨g52, hf⟩ := y_g hf
                refine y_iald (pc2 := 113) rfl dX12_stable_112 g52.1 (y_ix_in g52.2) ?_
                obtain ⟨g51, hf⟩ := y_g hf
                obtain ⟨r48, h49, c50, hf⟩ := y_clE hf
                refine y_callV (As := [.int v1_25, .int (y_I h45 (y_P h45 v0_25 15) (Int32.toNatClampNeg v3_25))]) (rm := rm_X12_nextLinked) (cells := 0) (slots := 0) (pc2 := 116) rfl dX12_stable_113 n_X12_nextLinked l_BoxYardModel_426 i_X12_nextLinked e_X12_nextLinked (ci := 12) rfl rfl (by decide) g51 rfl rfl (by decide) (by decide) (by decide) (k_X12_nextLinked c50) ?_
                refine y_istore_n (lv' := [(3, .int r48), (2, .int (v2_25 + 1)), (4, .int r38), (0, y_p v0_25), (1, .int v1_25)]) (pc2 := 117) rfl dX12_stable_116 (by decide) rfl ?_
                exact y_pk [3, 4, 1, 0] rfl (hj117 _ _ _ _ _ hf)
              · replace hf := y_ie c69 hf
                refine y_aload_n (x := v0_25) (pc2 := 53) rfl dX12_stable_52 rfl ?_
                refine y_iload_n (pc2 := 54) rfl dX12_stable_53 rfl ?_
                obtain ⟨g58, hf⟩ := y_g hf
                obtain ⟨h56, e57, hf⟩ := y_bdE hf
                refine y_putI (x := v3_25) (pc2 := 57) rfl dX12_stable_54 Fp_BoxYardModel_140 (by decide) rfl g58 e57 ?_
                refine y_aload_n (x := v0_25) (pc2 := 58) rfl dX12_stable_57 rfl ?_
                refine y_iload_n (pc2 := 59) rfl dX12_stable_58 rfl ?_
                obtain ⟨g61, hf⟩ := y_g hf
                obtain ⟨h59, e60, hf⟩ := y_bdE hf
                refine y_putI (x := v2_25) (pc2 := 62) rfl dX12_stable_59 Fp_BoxYardModel_429 (by decide) rfl g61 e60 ?_
                refine y_aload_n (x := v0_25) (pc2 := 63) rfl dX12_stable_62 rfl ?_
                refine y_iload (pc2 := 65) rfl dX12_stable_63 rfl ?_
                refine y_bipush (v := 62) (pc2 := 67) rfl dX12_stable_65 (by decide) ?_
                refine y_icmp_ne (tgt := 75) (pc2 := 70) rfl dX12_stable_67 (by decide) (fun c68 => ?_) (fun c68 => ?_)
                · replace hf := y_ie c68 hf
                  refine y_bipush (v := (-40 : Int32)) (pc2 := 77) rfl dX12_stable_75 (by decide) ?_
                  refine y_iload (pc2 := 79) rfl dX12_stable_77 rfl ?_
                  refine y_isub (pc2 := 80) rfl dX12_stable_79 ?_
                  obtain ⟨g64, hf⟩ := y_g hf
                  obtain ⟨h62, e63, hf⟩ := y_bdE hf
                  refine y_putI (x := (-40 : Int32) - r38) (pc2 := 83) rfl dX12_stable_80 Fp_BoxYardModel_432 (by decide) rfl g64 e63 ?_
                  refine y_goto (tgt := 117) dX12_stable_83 (by decide) ?_
                  exact y_pk [1, 2, 3, 4] rfl (hj117 _ _ _ _ _ hf)
                · replace hf := y_it c68 hf
                  refine y_bipush (v := (-62 : Int32)) (pc2 := 72) rfl dX12_stable_70 (by decide) ?_
                  refine y_goto (tgt := 80) dX12_stable_72 (by decide) ?_
                  obtain ⟨g67, hf⟩ := y_g hf
                  obtain ⟨h65, e66, hf⟩ := y_bdE hf
                  refine y_putI (x := (-62 : Int32)) (pc2 := 83) rfl dX12_stable_80 Fp_BoxYardModel_432 (by decide) rfl g67 e66 ?_
                  refine y_goto (tgt := 117) dX12_stable_83 (by decide) ?_
                  exact y_pk [1, 2, 3, 4] rfl (hj117 _ _ _ _ _ hf)
    · refine y_istore_n (lv' := [(3, .int r7), (2, .int 0), (0, y_p p0), (1, .int p1)]) (pc2 := 25) rfl dX12_stable_24 (by decide) rfl ?_
      exact y_pk [2, 3, 1, 0] rfl (hj25 _ _ _ _ _ hf)
  · replace hf := y_ie c75 hf
    refine y_iconst (v := (-1 : Int32)) (pc2 := 9) rfl dX12_stable_8 (by decide) ?_
    exact y_iretF hf dX12_stable_9 rfl (by decide) (by decide)
theorem dX12_broke_0 : decode cX12_broke 0 = .ok (.iload_n 1, 1) := by decide +kernel
theorem dX12_broke_1 : decode cX12_broke 1 = .ok (.iconst 0, 1) := by decide +kernel
theorem dX12_broke_2 : decode cX12_broke 2 = .ok (.iconst 2, 1) := by decide +kernel
theorem dX12_broke_3 : decode cX12_broke 3 = .ok (.invokestatic 278, 3) := by decide +kernel
theorem dX12_broke_6 : decode cX12_broke 6 = .ok (.ifCond .ne 6, 3) := by decide +kernel
theorem dX12_broke_9 : decode cX12_broke 9 = .ok (.bipush (-2), 2) := by decide +kernel
theorem dX12_broke_11 : decode cX12_broke 11 = .ok (.ireturn, 1) := by decide +kernel
theorem dX12_broke_12 : decode cX12_broke 12 = .ok (.aload_n 0, 1) := by decide +kernel
theorem dX12_broke_13 : decode cX12_broke 13 = .ok (.getfield 140, 3) := by decide +kernel
theorem dX12_broke_16 : decode cX12_broke 16 = .ok (.bipush (-9), 2) := by decide +kernel
theorem dX12_broke_18 : decode cX12_broke 18 = .ok (.if_icmp .ne 8, 3) := by decide +kernel
theorem dX12_broke_21 : decode cX12_broke 21 = .ok (.bipush (-9), 2) := by decide +kernel
theorem dX12_broke_23 : decode cX12_broke 23 = .ok (.goto 30, 3) := by decide +kernel
theorem dX12_broke_26 : decode cX12_broke 26 = .ok (.iload_n 1, 1) := by decide +kernel
theorem dX12_broke_27 : decode cX12_broke 27 = .ok (.ifCond .ne 10, 3) := by decide +kernel
theorem dX12_broke_30 : decode cX12_broke 30 = .ok (.aload_n 0, 1) := by decide +kernel
theorem dX12_broke_31 : decode cX12_broke 31 = .ok (.getfield 140, 3) := by decide +kernel
theorem dX12_broke_34 : decode cX12_broke 34 = .ok (.goto 19, 3) := by decide +kernel
theorem dX12_broke_37 : decode cX12_broke 37 = .ok (.iload_n 1, 1) := by decide +kernel
theorem dX12_broke_38 : decode cX12_broke 38 = .ok (.iconst 1, 1) := by decide +kernel
theorem dX12_broke_39 : decode cX12_broke 39 = .ok (.if_icmp .ne 10, 3) := by decide +kernel
theorem dX12_broke_42 : decode cX12_broke 42 = .ok (.aload_n 0, 1) := by decide +kernel
theorem dX12_broke_43 : decode cX12_broke 43 = .ok (.getfield 429, 3) := by decide +kernel
theorem dX12_broke_46 : decode cX12_broke 46 = .ok (.goto 7, 3) := by decide +kernel
theorem dX12_broke_49 : decode cX12_broke 49 = .ok (.aload_n 0, 1) := by decide +kernel
theorem dX12_broke_50 : decode cX12_broke 50 = .ok (.getfield 432, 3) := by decide +kernel
theorem dX12_broke_53 : decode cX12_broke 53 = .ok (.ireturn, 1) := by decide +kernel
def M_X12_broke : y_M := (yX12_broke, cX12_broke, 2, (Option.some Jvm.ClassFile.FieldType.int))
theorem n_X12_broke : y_N0 M_X12_broke 1 := ⟨(c_9 224 (by decide +kernel) rfl), (c_1 9 (by decide +kernel) rfl), ⟨by decide +kernel, by decide +kernel⟩, by decide +kernel⟩
theorem F_BoxYardModel_432 : y_F "BoxYardModel" 432 12 54 := ⟨_, _, _, rfl, by decide, Or.inl (c_7 176 (by decide +kernel) rfl)⟩
theorem F_BoxYardModel_429 : y_F "BoxYardModel" 429 12 53 := ⟨_, _, _, rfl, by decide, Or.inl (c_7 175 (by decide +kernel) rfl)⟩
set_option maxRecDepth 100000 in
def f_X12_broke (p0 : Nat) (p1 : Int32) (h : y_H) : Option (Int32 × y_H) :=
  y_cl (f_X12_in p1 0 2 h) (fun r1 h2 =>
  if r1 = true then
    if y_K h2 p0 = 13 then
    if (y_I h2 p0 52) = (-9 : Int32) then
      some ((-9 : Int32), h2)
    else
      if p1 = 0 then
        if y_K h2 p0 = 13 then
        some (y_I h2 p0 52, h2)
        else none
      else
        if p1 = 1 then
          if y_K h2 p0 = 13 then
          some (y_I h2 p0 53, h2)
          else none
        else
          if y_K h2 p0 = 13 then
          some (y_I h2 p0 54, h2)
          else none
    else none
  else
    some ((-2 : Int32), h2))
abbrev rm_X12_broke : Room := { frames := 1, cells := 0, slots := 0, locals := 22 }
set_option maxRecDepth 100000 in
set_option maxHeartbeats 4000000 in
theorem k_X12_broke {l : Launch} {G : y_G} {p0 : Nat} {p1 : Int32} {h hz : y_H} {rz : Int32} (hf : f_X12_broke p0 p1 h = some (rz, hz)) : y_S l G M_X12_broke rm_X12_broke [y_p p0, .int p1] h (some (.int rz)) hz := by
  refine y_start (lv := [(0, y_p p0), (1, .int p1)]) (by decide) (by simp [lg_sl, y_p_cat, y_ci, y_cj, M_X12_broke]) (by simp [lv_args, y_p_cat, y_ci, y_cj]) (fun z ad0 => ?_)
  unfold f_X12_broke at hf
  refine y_iload_n (pc2 := 1) rfl dX12_broke_0 rfl ?_
  refine y_iconst (v := 0) (pc2 := 2) rfl dX12_broke_1 (by decide) ?_
  refine y_iconst (v := 2) (pc2 := 3) rfl dX12_broke_2 (by decide) ?_
  obtain ⟨r1, h2, c3, hf⟩ := y_clE hf
  refine y_callS (As := [.int p1, .int 0, .int 2]) (rm := rm_X12_in) (cells := 0) (slots := 0) (pc2 := 6) rfl dX12_broke_3 n_X12_in l_BoxYardModel_278 t_X12_in rfl rfl (by decide) (by decide) (by decide) (k_X12_in c3) ?_
  refine y_ifz_ne (tgt := 12) (pc2 := 9) rfl dX12_broke_6 (by decide) (fun c11 => ?_) (fun c11 => ?_)
  · replace hf := y_it c11 hf
    refine y_aload_n (x := p0) (pc2 := 13) rfl dX12_broke_12 rfl ?_
    obtain ⟨g10, hf⟩ := y_g hf
    refine y_getI (pc2 := 16) rfl dX12_broke_13 F_BoxYardModel_140 (by decide) rfl g10 ?_
    refine y_bipush (v := (-9 : Int32)) (pc2 := 18) rfl dX12_broke_16 (by decide) ?_
    refine y_icmp_ne (tgt := 26) (pc2 := 21) rfl dX12_broke_18 (by decide) (fun c9 => ?_) (fun c9 => ?_)
    · replace hf := y_ie c9 hf
      refine y_iload_n (pc2 := 27) rfl dX12_broke_26 rfl ?_
      refine y_if_ne (tgt := 37) (pc2 := 30) rfl dX12_broke_27 (by decide) (fun c8 => ?_) (fun c8 => ?_)
      · replace hf := y_ie c8 hf
        refine y_iload_n (pc2 := 38) rfl dX12_broke_37 rfl ?_
        refine y_iconst (v := 1) (pc2 := 39) rfl dX12_broke_38 (by decide) ?_
        refine y_icmp_ne (tgt := 49) (pc2 := 42) rfl dX12_broke_39 (by decide) (fun c6 => ?_) (fun c6 => ?_)
        · replace hf := y_ie c6 hf
          refine y_aload_n (x := p0) (pc2 := 50) rfl dX12_broke_49 rfl ?_
          obtain ⟨g4, hf⟩ := y_g hf
          refine y_getI (pc2 := 53) rfl dX12_broke_50 F_BoxYardModel_432 (by decide) rfl g4 ?_
          exact y_iretF hf dX12_broke_53 rfl (by decide) (by decide)
        · replace hf := y_it c6 hf
          refine y_aload_n (x := p0) (pc2 := 43) rfl dX12_broke_42 rfl ?_
          obtain ⟨g5, hf⟩ := y_g hf
          refine y_getI (pc2 := 46) rfl dX12_broke_43 F_BoxYardModel_429 (by decide) rfl g5 ?_
          refine y_goto (tgt := 53) dX12_broke_46 (by decide) ?_
          exact y_iretF hf dX12_broke_53 rfl (by decide) (by decide)
      · replace hf := y_it c8 hf
        refine y_aload_n (x := p0) (pc2 := 31) rfl dX12_broke_30 rfl ?_
        obtain ⟨g7, hf⟩ := y_g hf
        refine y_getI (pc2 := 34) rfl dX12_broke_31 F_BoxYardModel_140 (by decide) rfl g7 ?_
        refine y_goto (tgt := 53) dX12_broke_34 (by decide) ?_
        exact y_iretF hf dX12_broke_53 rfl (by decide) (by decide)
    · replace hf := y_it c9 hf
      refine y_bipush (v := (-9 : Int32)) (pc2 := 23) rfl dX12_broke_21 (by decide) ?_
      refine y_goto (tgt := 53) dX12_broke_23 (by decide) ?_
      exact y_iretF hf dX12_broke_53 rfl (by decide) (by decide)
  · replace hf := y_ie c11 hf
    refine y_bipush (v := (-2 : Int32)) (pc2 := 11) rfl dX12_broke_9 (by decide) ?_
    exact y_iretF hf dX12_broke_11 rfl (by decide) (by decide)
theorem dX12_orderOf_0 : decode cX12_orderOf 0 = .ok (.bipush (-9), 2) := by decide +kernel
theorem dX12_orderOf_2 : decode cX12_orderOf 2 = .ok (.istore_n 2, 1) := by decide +kernel
theorem dX12_orderOf_3 : decode cX12_orderOf 3 = .ok (.iconst 0, 1) := by decide +kernel
theorem dX12_orderOf_4 : decode cX12_orderOf 4 = .ok (.istore_n 3, 1) := by decide +kernel
theorem dX12_orderOf_5 : decode cX12_orderOf 5 = .ok (.iload_n 3, 1) := by decide +kernel
theorem dX12_orderOf_6 : decode cX12_orderOf 6 = .ok (.aload_n 0, 1) := by decide +kernel
theorem dX12_orderOf_7 : decode cX12_orderOf 7 = .ok (.getfield 258, 3) := by decide +kernel
theorem dX12_orderOf_10 : decode cX12_orderOf 10 = .ok (.if_icmp .ge 25, 3) := by decide +kernel
theorem dX12_orderOf_13 : decode cX12_orderOf 13 = .ok (.aload_n 0, 1) := by decide +kernel
theorem dX12_orderOf_14 : decode cX12_orderOf 14 = .ok (.getfield 144, 3) := by decide +kernel
theorem dX12_orderOf_17 : decode cX12_orderOf 17 = .ok (.iload_n 3, 1) := by decide +kernel
theorem dX12_orderOf_18 : decode cX12_orderOf 18 = .ok (.iaload, 1) := by decide +kernel
theorem dX12_orderOf_19 : decode cX12_orderOf 19 = .ok (.iload_n 1, 1) := by decide +kernel
theorem dX12_orderOf_20 : decode cX12_orderOf 20 = .ok (.if_icmp .ne 7, 3) := by decide +kernel
theorem dX12_orderOf_23 : decode cX12_orderOf 23 = .ok (.iload_n 3, 1) := by decide +kernel
theorem dX12_orderOf_24 : decode cX12_orderOf 24 = .ok (.goto 4, 3) := by decide +kernel
theorem dX12_orderOf_27 : decode cX12_orderOf 27 = .ok (.iload_n 2, 1) := by decide +kernel
theorem dX12_orderOf_28 : decode cX12_orderOf 28 = .ok (.istore_n 2, 1) := by decide +kernel
theorem dX12_orderOf_29 : decode cX12_orderOf 29 = .ok (.iinc 3 1, 3) := by decide +kernel
theorem dX12_orderOf_32 : decode cX12_orderOf 32 = .ok (.goto (-27), 3) := by decide +kernel
theorem dX12_orderOf_35 : decode cX12_orderOf 35 = .ok (.iload_n 2, 1) := by decide +kernel
theorem dX12_orderOf_36 : decode cX12_orderOf 36 = .ok (.ireturn, 1) := by decide +kernel
def M_X12_orderOf : y_M := (yX12_orderOf, cX12_orderOf, 4, (Option.some Jvm.ClassFile.FieldType.int))
theorem n_X12_orderOf : y_N0 M_X12_orderOf 1 := ⟨(c_9 232 (by decide +kernel) rfl), (c_1 9 (by decide +kernel) rfl), ⟨by decide +kernel, by decide +kernel⟩, by decide +kernel⟩
theorem F_BoxYardModel_258 : y_F "BoxYardModel" 258 12 55 := ⟨_, _, _, rfl, by decide, Or.inl (c_7 177 (by decide +kernel) rfl)⟩
theorem F_BoxYardModel_144 : y_F "BoxYardModel" 144 12 56 := ⟨_, _, _, rfl, by decide, Or.inl (c_7 178 (by decide +kernel) rfl)⟩
set_option maxRecDepth 100000 in
def f_X12_orderOf (p0 : Nat) (p1 : Int32) (h : y_H) : Option (Int32 × y_H) :=
  y_jl (fun (_ : Nat) (_ : Int32) (_ : Int32) (_ : Int32) (_ : y_H) => (none : Option (Int32 × y_H))) (fun j5 (v0_5 : Nat) (v1_5 : Int32) (v2_5 : Int32) (v3_5 : Int32) (h1 : y_H) =>
      if y_K h1 v0_5 = 13 then
      if (y_I h1 v0_5 55) ≤ v3_5 then
        some (v2_5, h1)
      else
        if y_K h1 v0_5 = 13 then
        if y_K h1 (y_P h1 v0_5 56) = 100 ∧ y_ix v3_5 (y_N h1 (y_P h1 v0_5 56)) = true then
        if (y_I h1 (y_P h1 v0_5 56) (Int32.toNatClampNeg v3_5)) = v1_5 then
          j5 v0_5 v1_5 v3_5 (v3_5 + 1) h1
        else
          j5 v0_5 v1_5 v2_5 (v3_5 + 1) h1
        else none
        else none
      else none) (fun j5 =>
  j5 p0 p1 (-9 : Int32) 0 h)
abbrev rm_X12_orderOf : Room := { frames := 0, cells := 0, slots := 0, locals := 0 }
set_option maxRecDepth 100000 in
set_option maxHeartbeats 4000000 in
theorem k_X12_orderOf {l : Launch} {G : y_G} {p0 : Nat} {p1 : Int32} {h hz : y_H} {rz : Int32} (hf : f_X12_orderOf p0 p1 h = some (rz, hz)) : y_S l G M_X12_orderOf rm_X12_orderOf [y_p p0, .int p1] h (some (.int rz)) hz := by
  refine y_start (lv := [(0, y_p p0), (1, .int p1)]) (by decide) (by simp [lg_sl, y_p_cat, y_ci, y_cj, M_X12_orderOf]) (by simp [lv_args, y_p_cat, y_ci, y_cj]) (fun z ad0 => ?_)
  unfold f_X12_orderOf at hf
  refine y_bipush (v := (-9 : Int32)) (pc2 := 2) rfl dX12_orderOf_0 (by decide) ?_
  refine y_istore_n (lv' := [(2, .int (-9 : Int32)), (0, y_p p0), (1, .int p1)]) (pc2 := 3) rfl dX12_orderOf_2 (by decide) rfl ?_
  refine y_iconst (v := 0) (pc2 := 4) rfl dX12_orderOf_3 (by decide) ?_
  refine y_jlE hf (fun j => ∀ (v0_5 : Nat) (v1_5 : Int32) (v2_5 : Int32) (v3_5 : Int32) (h1 : y_H), j v0_5 v1_5 v2_5 v3_5 h1 = some (rz, hz) → y_V l G z rm_X12_orderOf M_X12_orderOf ad0 h (some (.int rz)) hz 5 [(0, y_p v0_5), (1, .int v1_5), (2, .int v2_5), (3, .int v3_5)] [] h1 0 0) (fun _ _ _ _ _ hf => by cases hf) (fun j5 hj5 v0_5 v1_5 v2_5 v3_5 h1 hf => ?_) (fun j5 hj5 hf => ?_)
  · refine y_iload_n (pc2 := 6) rfl dX12_orderOf_5 rfl ?_
    refine y_aload_n (x := v0_5) (pc2 := 7) rfl dX12_orderOf_6 rfl ?_
    obtain ⟨g6, hf⟩ := y_g hf
    refine y_getI (pc2 := 10) rfl dX12_orderOf_7 F_BoxYardModel_258 (by decide) rfl g6 ?_
    refine y_icmp_ge (tgt := 35) (pc2 := 13) rfl dX12_orderOf_10 (by decide) (fun c5 => ?_) (fun c5 => ?_)
    · replace hf := y_it c5 hf
      refine y_iload_n (pc2 := 36) rfl dX12_orderOf_35 rfl ?_
      exact y_iretF hf dX12_orderOf_36 rfl (by decide) (by decide)
    · replace hf := y_ie c5 hf
      refine y_aload_n (x := v0_5) (pc2 := 14) rfl dX12_orderOf_13 rfl ?_
      obtain ⟨g4, hf⟩ := y_g hf
      refine y_getP (pc2 := 17) rfl dX12_orderOf_14 F_BoxYardModel_144 (by decide) rfl g4 ?_
      refine y_iload_n (pc2 := 18) rfl dX12_orderOf_17 rfl ?_
      obtain ⟨g3, hf⟩ := y_g hf
      refine y_iald (pc2 := 19) rfl dX12_orderOf_18 g3.1 (y_ix_in g3.2) ?_
      refine y_iload_n (pc2 := 20) rfl dX12_orderOf_19 rfl ?_
      refine y_icmp_ne (tgt := 27) (pc2 := 23) rfl dX12_orderOf_20 (by decide) (fun c2 => ?_) (fun c2 => ?_)
      · replace hf := y_ie c2 hf
        refine y_iload_n (pc2 := 28) rfl dX12_orderOf_27 rfl ?_
        refine y_istore_n (lv' := [(2, .int v2_5), (0, y_p v0_5), (1, .int v1_5), (3, .int v3_5)]) (pc2 := 29) rfl dX12_orderOf_28 (by decide) rfl ?_
        refine y_iinc (v := v3_5 + 1) (lv' := [(3, .int (v3_5 + 1)), (2, .int v2_5), (0, y_p v0_5), (1, .int v1_5)]) (pc2 := 32) rfl dX12_orderOf_29 rfl rfl (by decide) rfl ?_
        refine y_goto (tgt := 5) dX12_orderOf_32 (by decide) ?_
        exact y_pk [2, 3, 1, 0] rfl (hj5 _ _ _ _ _ hf)
      · replace hf := y_it c2 hf
        refine y_iload_n (pc2 := 24) rfl dX12_orderOf_23 rfl ?_
        refine y_goto (tgt := 28) dX12_orderOf_24 (by decide) ?_
        refine y_istore_n (lv' := [(2, .int v3_5), (0, y_p v0_5), (1, .int v1_5), (3, .int v3_5)]) (pc2 := 29) rfl dX12_orderOf_28 (by decide) rfl ?_
        refine y_iinc (v := v3_5 + 1) (lv' := [(3, .int (v3_5 + 1)), (2, .int v3_5), (0, y_p v0_5), (1, .int v1_5)]) (pc2 := 32) rfl dX12_orderOf_29 rfl rfl (by decide) rfl ?_
        refine y_goto (tgt := 5) dX12_orderOf_32 (by decide) ?_
        exact y_pk [2, 3, 1, 0] rfl (hj5 _ _ _ _ _ hf)
  · refine y_istore_n (lv' := [(3, .int 0), (2, .int (-9 : Int32)), (0, y_p p0), (1, .int p1)]) (pc2 := 5) rfl dX12_orderOf_4 (by decide) rfl ?_
    exact y_pk [2, 3, 1, 0] rfl (hj5 _ _ _ _ _ hf)
theorem dX12_want_0 : decode cX12_want 0 = .ok (.aload_n 0, 1) := by decide +kernel
theorem dX12_want_1 : decode cX12_want 1 = .ok (.iload_n 1, 1) := by decide +kernel
theorem dX12_want_2 : decode cX12_want 2 = .ok (.invokevirtual 298, 3) := by decide +kernel
theorem dX12_want_5 : decode cX12_want 5 = .ok (.ifCond .ne 5, 3) := by decide +kernel
theorem dX12_want_8 : decode cX12_want 8 = .ok (.iconst (-1), 1) := by decide +kernel
theorem dX12_want_9 : decode cX12_want 9 = .ok (.ireturn, 1) := by decide +kernel
theorem dX12_want_10 : decode cX12_want 10 = .ok (.aload_n 0, 1) := by decide +kernel
theorem dX12_want_11 : decode cX12_want 11 = .ok (.iload_n 1, 1) := by decide +kernel
theorem dX12_want_12 : decode cX12_want 12 = .ok (.invokevirtual 435, 3) := by decide +kernel
theorem dX12_want_15 : decode cX12_want 15 = .ok (.bipush (-9), 2) := by decide +kernel
theorem dX12_want_17 : decode cX12_want 17 = .ok (.if_icmp .eq 6, 3) := by decide +kernel
theorem dX12_want_20 : decode cX12_want 20 = .ok (.bipush (-3), 2) := by decide +kernel
theorem dX12_want_22 : decode cX12_want 22 = .ok (.ireturn, 1) := by decide +kernel
theorem dX12_want_23 : decode cX12_want 23 = .ok (.aload_n 0, 1) := by decide +kernel
theorem dX12_want_24 : decode cX12_want 24 = .ok (.getfield 258, 3) := by decide +kernel
theorem dX12_want_27 : decode cX12_want 27 = .ok (.iconst 5, 1) := by decide +kernel
theorem dX12_want_28 : decode cX12_want 28 = .ok (.if_icmp .ne 6, 3) := by decide +kernel
theorem dX12_want_31 : decode cX12_want 31 = .ok (.bipush (-4), 2) := by decide +kernel
theorem dX12_want_33 : decode cX12_want 33 = .ok (.ireturn, 1) := by decide +kernel
theorem dX12_want_34 : decode cX12_want 34 = .ok (.aload_n 0, 1) := by decide +kernel
theorem dX12_want_35 : decode cX12_want 35 = .ok (.getfield 144, 3) := by decide +kernel
theorem dX12_want_38 : decode cX12_want 38 = .ok (.aload_n 0, 1) := by decide +kernel
theorem dX12_want_39 : decode cX12_want 39 = .ok (.getfield 258, 3) := by decide +kernel
theorem dX12_want_42 : decode cX12_want 42 = .ok (.iload_n 1, 1) := by decide +kernel
theorem dX12_want_43 : decode cX12_want 43 = .ok (.iastore, 1) := by decide +kernel
theorem dX12_want_44 : decode cX12_want 44 = .ok (.aload_n 0, 1) := by decide +kernel
theorem dX12_want_45 : decode cX12_want 45 = .ok (.dup, 1) := by decide +kernel
theorem dX12_want_46 : decode cX12_want 46 = .ok (.getfield 258, 3) := by decide +kernel
theorem dX12_want_49 : decode cX12_want 49 = .ok (.iconst 1, 1) := by decide +kernel
theorem dX12_want_50 : decode cX12_want 50 = .ok (.iadd, 1) := by decide +kernel
theorem dX12_want_51 : decode cX12_want 51 = .ok (.putfield 258, 3) := by decide +kernel
theorem dX12_want_54 : decode cX12_want 54 = .ok (.aload_n 0, 1) := by decide +kernel
theorem dX12_want_55 : decode cX12_want 55 = .ok (.getfield 258, 3) := by decide +kernel
theorem dX12_want_58 : decode cX12_want 58 = .ok (.ireturn, 1) := by decide +kernel
def M_X12_want : y_M := (yX12_want, cX12_want, 2, (Option.some Jvm.ClassFile.FieldType.int))
theorem n_X12_want : y_N0 M_X12_want 1 := ⟨(c_9 228 (by decide +kernel) rfl), (c_1 9 (by decide +kernel) rfl), ⟨by decide +kernel, by decide +kernel⟩, by decide +kernel⟩
theorem l_BoxYardModel_435 : y_lnk "BoxYardModel" 435 M_X12_orderOf := Or.inl (c_9 229 (by decide +kernel) rfl)
theorem i_X12_orderOf : Cond.instanceMethod (M_X12_orderOf).1 ∈ y_tb := (c_9 231 (by decide +kernel) rfl)
theorem e_X12_orderOf : Cond.selects (M_X12_orderOf).1.cls (M_X12_orderOf).1 (M_X12_orderOf).1 ∈ y_tb := (m_s 99 (by decide +kernel) rfl)
set_option maxRecDepth 100000 in
def f_X12_want (p0 : Nat) (p1 : Int32) (h : y_H) : Option (Int32 × y_H) :=
  if y_K h p0 = 13 then
  y_cl (f_X12_isBox p0 p1 h) (fun r1 h2 =>
  if r1 = true then
    if y_K h2 p0 = 13 then
    y_cl (f_X12_orderOf p0 p1 h2) (fun r4 h5 =>
    if r4 = (-9 : Int32) then
      if y_K h5 p0 = 13 then
      if (y_I h5 p0 55) = 5 then
        some ((-4 : Int32), h5)
      else
        if y_K h5 p0 = 13 then
        if y_K h5 p0 = 13 then
        if y_K h5 (y_P h5 p0 56) = 100 ∧ y_ix (y_I h5 p0 55) (y_N h5 (y_P h5 p0 56)) = true then
        y_bd (s_I h5 (y_P h5 p0 56) (Int32.toNatClampNeg (y_I h5 p0 55)) p1) (fun h7 =>
        if y_K h7 p0 = 13 then
        if y_K h7 p0 = 13 then
        y_bd (s_I h7 p0 55 ((y_I h7 p0 55) + 1)) (fun h10 =>
        if y_K h10 p0 = 13 then
        some (y_I h10 p0 55, h10)
        else none)
        else none
        else none)
        else none
        else none
        else none
      else none
    else
      some ((-3 : Int32), h5))
    else none
  else
    some ((-1 : Int32), h2))
  else none
abbrev rm_X12_want : Room := { frames := 2, cells := 0, slots := 0, locals := 43 }
set_option maxRecDepth 100000 in
set_option maxHeartbeats 4000000 in
theorem k_X12_want {l : Launch} {G : y_G} {p0 : Nat} {p1 : Int32} {h hz : y_H} {rz : Int32} (hf : f_X12_want p0 p1 h = some (rz, hz)) : y_S l G M_X12_want rm_X12_want [y_p p0, .int p1] h (some (.int rz)) hz := by
  refine y_start (lv := [(0, y_p p0), (1, .int p1)]) (by decide) (by simp [lg_sl, y_p_cat, y_ci, y_cj, M_X12_want]) (by simp [lv_args, y_p_cat, y_ci, y_cj]) (fun z ad0 => ?_)
  unfold f_X12_want at hf
  refine y_aload_n (x := p0) (pc2 := 1) rfl dX12_want_0 rfl ?_
  refine y_iload_n (pc2 := 2) rfl dX12_want_1 rfl ?_
  obtain ⟨g22, hf⟩ := y_g hf
  obtain ⟨r1, h2, c3, hf⟩ := y_clE hf
  refine y_callV (As := [.int p1]) (rm := rm_X12_isBox) (cells := 0) (slots := 0) (pc2 := 5) rfl dX12_want_2 n_X12_isBox l_BoxYardModel_298 i_X12_isBox e_X12_isBox (ci := 12) rfl rfl (by decide) g22 rfl rfl (by decide) (by decide) (by decide) (k_X12_isBox c3) ?_
  refine y_ifz_ne (tgt := 10) (pc2 := 8) rfl dX12_want_5 (by decide) (fun c21 => ?_) (fun c21 => ?_)
  · replace hf := y_it c21 hf
    refine y_aload_n (x := p0) (pc2 := 11) rfl dX12_want_10 rfl ?_
    refine y_iload_n (pc2 := 12) rfl dX12_want_11 rfl ?_
    obtain ⟨g20, hf⟩ := y_g hf
    obtain ⟨r4, h5, c6, hf⟩ := y_clE hf
    refine y_callV (As := [.int p1]) (rm := rm_X12_orderOf) (cells := 0) (slots := 0) (pc2 := 15) rfl dX12_want_12 n_X12_orderOf l_BoxYardModel_435 i_X12_orderOf e_X12_orderOf (ci := 12) rfl rfl (by decide) g20 rfl rfl (by decide) (by decide) (by decide) (k_X12_orderOf c6) ?_
    refine y_bipush (v := (-9 : Int32)) (pc2 := 17) rfl dX12_want_15 (by decide) ?_
    refine y_icmp_eq (tgt := 23) (pc2 := 20) rfl dX12_want_17 (by decide) (fun c19 => ?_) (fun c19 => ?_)
    · replace hf := y_it c19 hf
      refine y_aload_n (x := p0) (pc2 := 24) rfl dX12_want_23 rfl ?_
      obtain ⟨g18, hf⟩ := y_g hf
      refine y_getI (pc2 := 27) rfl dX12_want_24 F_BoxYardModel_258 (by decide) rfl g18 ?_
      refine y_iconst (v := 5) (pc2 := 28) rfl dX12_want_27 (by decide) ?_
      refine y_icmp_ne (tgt := 34) (pc2 := 31) rfl dX12_want_28 (by decide) (fun c17 => ?_) (fun c17 => ?_)
      · replace hf := y_ie c17 hf
        refine y_aload_n (x := p0) (pc2 := 35) rfl dX12_want_34 rfl ?_
        obtain ⟨g16, hf⟩ := y_g hf
        refine y_getP (pc2 := 38) rfl dX12_want_35 F_BoxYardModel_144 (by decide) rfl g16 ?_
        refine y_aload_n (x := p0) (pc2 := 39) rfl dX12_want_38 rfl ?_
        obtain ⟨g15, hf⟩ := y_g hf
        refine y_getI (pc2 := 42) rfl dX12_want_39 F_BoxYardModel_258 (by decide) rfl g15 ?_
        refine y_iload_n (pc2 := 43) rfl dX12_want_42 rfl ?_
        obtain ⟨g9, hf⟩ := y_g hf
        obtain ⟨h7, e8, hf⟩ := y_bdE hf
        refine y_iast (x := p1) (pc2 := 44) rfl dX12_want_43 g9.1 (y_ix_in g9.2) e8 ?_
        refine y_aload_n (x := p0) (pc2 := 45) rfl dX12_want_44 rfl ?_
        refine y_dup (pc2 := 46) rfl dX12_want_45 (y_p_cat _) ?_
        obtain ⟨g14, hf⟩ := y_g hf
        refine y_getI (pc2 := 49) rfl dX12_want_46 F_BoxYardModel_258 (by decide) rfl g14 ?_
        refine y_iconst (v := 1) (pc2 := 50) rfl dX12_want_49 (by decide) ?_
        refine y_iadd (pc2 := 51) rfl dX12_want_50 ?_
        obtain ⟨g12, hf⟩ := y_g hf
        obtain ⟨h10, e11, hf⟩ := y_bdE hf
        refine y_putI (x := (y_I h7 p0 55) + 1) (pc2 := 54) rfl dX12_want_51 Fp_BoxYardModel_258 (by decide) rfl g12 e11 ?_
        refine y_aload_n (x := p0) (pc2 := 55) rfl dX12_want_54 rfl ?_
        obtain ⟨g13, hf⟩ := y_g hf
        refine y_getI (pc2 := 58) rfl dX12_want_55 F_BoxYardModel_258 (by decide) rfl g13 ?_
        exact y_iretF hf dX12_want_58 rfl (by decide) (by decide)
      · replace hf := y_it c17 hf
        refine y_bipush (v := (-4 : Int32)) (pc2 := 33) rfl dX12_want_31 (by decide) ?_
        exact y_iretF hf dX12_want_33 rfl (by decide) (by decide)
    · replace hf := y_ie c19 hf
      refine y_bipush (v := (-3 : Int32)) (pc2 := 22) rfl dX12_want_20 (by decide) ?_
      exact y_iretF hf dX12_want_22 rfl (by decide) (by decide)
  · replace hf := y_ie c21 hf
    refine y_iconst (v := (-1 : Int32)) (pc2 := 9) rfl dX12_want_8 (by decide) ?_
    exact y_iretF hf dX12_want_9 rfl (by decide) (by decide)
theorem dX12_forget_0 : decode cX12_forget 0 = .ok (.aload_n 0, 1) := by decide +kernel
theorem dX12_forget_1 : decode cX12_forget 1 = .ok (.getfield 258, 3) := by decide +kernel
theorem dX12_forget_4 : decode cX12_forget 4 = .ok (.istore_n 1, 1) := by decide +kernel
theorem dX12_forget_5 : decode cX12_forget 5 = .ok (.aload_n 0, 1) := by decide +kernel
theorem dX12_forget_6 : decode cX12_forget 6 = .ok (.iconst 0, 1) := by decide +kernel
theorem dX12_forget_7 : decode cX12_forget 7 = .ok (.putfield 258, 3) := by decide +kernel
theorem dX12_forget_10 : decode cX12_forget 10 = .ok (.iload_n 1, 1) := by decide +kernel
theorem dX12_forget_11 : decode cX12_forget 11 = .ok (.ireturn, 1) := by decide +kernel
def M_X12_forget : y_M := (yX12_forget, cX12_forget, 2, (Option.some Jvm.ClassFile.FieldType.int))
theorem n_X12_forget : y_N0 M_X12_forget 0 := ⟨(c_9 236 (by decide +kernel) rfl), (c_1 9 (by decide +kernel) rfl), ⟨by decide +kernel, by decide +kernel⟩, by decide +kernel⟩
set_option maxRecDepth 100000 in
def f_X12_forget (p0 : Nat) (h : y_H) : Option (Int32 × y_H) :=
  if y_K h p0 = 13 then
  if y_K h p0 = 13 then
  y_bd (s_I h p0 55 0) (fun h1 =>
  some (y_I h p0 55, h1))
  else none
  else none
abbrev rm_X12_forget : Room := { frames := 0, cells := 0, slots := 0, locals := 0 }
set_option maxRecDepth 100000 in
set_option maxHeartbeats 4000000 in
theorem k_X12_forget {l : Launch} {G : y_G} {p0 : Nat} {h hz : y_H} {rz : Int32} (hf : f_X12_forget p0 h = some (rz, hz)) : y_S l G M_X12_forget rm_X12_forget [y_p p0] h (some (.int rz)) hz := by
  refine y_start (lv := [(0, y_p p0)]) (by decide) (by simp [lg_sl, y_p_cat, y_ci, y_cj, M_X12_forget]) (by simp [lv_args, y_p_cat, y_ci, y_cj]) (fun z ad0 => ?_)
  unfold f_X12_forget at hf
  refine y_aload_n (x := p0) (pc2 := 1) rfl dX12_forget_0 rfl ?_
  obtain ⟨g4, hf⟩ := y_g hf
  refine y_getI (pc2 := 4) rfl dX12_forget_1 F_BoxYardModel_258 (by decide) rfl g4 ?_
  refine y_istore_n (lv' := [(1, .int (y_I h p0 55)), (0, y_p p0)]) (pc2 := 5) rfl dX12_forget_4 (by decide) (by show y_st1 _ 1 _ = _; simp [y_st1, y_p_cat, y_ci, y_cj]) ?_
  refine y_aload_n (x := p0) (pc2 := 6) rfl dX12_forget_5 rfl ?_
  refine y_iconst (v := 0) (pc2 := 7) rfl dX12_forget_6 (by decide) ?_
  obtain ⟨g3, hf⟩ := y_g hf
  obtain ⟨h1, e2, hf⟩ := y_bdE hf
  refine y_putI (x := 0) (pc2 := 10) rfl dX12_forget_7 Fp_BoxYardModel_258 (by decide) rfl g3 e2 ?_
  refine y_iload_n (pc2 := 11) rfl dX12_forget_10 rfl ?_
  exact y_iretF hf dX12_forget_11 rfl (by decide) (by decide)
theorem dX12_tallOf_0 : decode cX12_tallOf 0 = .ok (.iconst 0, 1) := by decide +kernel
theorem dX12_tallOf_1 : decode cX12_tallOf 1 = .ok (.istore_n 3, 1) := by decide +kernel
theorem dX12_tallOf_2 : decode cX12_tallOf 2 = .ok (.iload_n 3, 1) := by decide +kernel
theorem dX12_tallOf_3 : decode cX12_tallOf 3 = .ok (.iconst 5, 1) := by decide +kernel
theorem dX12_tallOf_4 : decode cX12_tallOf 4 = .ok (.if_icmp .ge 28, 3) := by decide +kernel
theorem dX12_tallOf_7 : decode cX12_tallOf 7 = .ok (.lload_n 0, 1) := by decide +kernel
theorem dX12_tallOf_8 : decode cX12_tallOf 8 = .ok (.bipush 15, 2) := by decide +kernel
theorem dX12_tallOf_10 : decode cX12_tallOf 10 = .ok (.iload_n 2, 1) := by decide +kernel
theorem dX12_tallOf_11 : decode cX12_tallOf 11 = .ok (.imul, 1) := by decide +kernel
theorem dX12_tallOf_12 : decode cX12_tallOf 12 = .ok (.iconst 3, 1) := by decide +kernel
theorem dX12_tallOf_13 : decode cX12_tallOf 13 = .ok (.iload_n 3, 1) := by decide +kernel
theorem dX12_tallOf_14 : decode cX12_tallOf 14 = .ok (.imul, 1) := by decide +kernel
theorem dX12_tallOf_15 : decode cX12_tallOf 15 = .ok (.iadd, 1) := by decide +kernel
theorem dX12_tallOf_16 : decode cX12_tallOf 16 = .ok (.lshr, 1) := by decide +kernel
theorem dX12_tallOf_17 : decode cX12_tallOf 17 = .ok (.ldc2_w 438, 3) := by decide +kernel
theorem dX12_tallOf_20 : decode cX12_tallOf 20 = .ok (.land, 1) := by decide +kernel
theorem dX12_tallOf_21 : decode cX12_tallOf 21 = .ok (.lconst 0, 1) := by decide +kernel
theorem dX12_tallOf_22 : decode cX12_tallOf 22 = .ok (.lcmp, 1) := by decide +kernel
theorem dX12_tallOf_23 : decode cX12_tallOf 23 = .ok (.ifCond .eq 9, 3) := by decide +kernel
theorem dX12_tallOf_26 : decode cX12_tallOf 26 = .ok (.iinc 3 1, 3) := by decide +kernel
theorem dX12_tallOf_29 : decode cX12_tallOf 29 = .ok (.goto (-27), 3) := by decide +kernel
theorem dX12_tallOf_32 : decode cX12_tallOf 32 = .ok (.iload_n 3, 1) := by decide +kernel
theorem dX12_tallOf_33 : decode cX12_tallOf 33 = .ok (.ireturn, 1) := by decide +kernel
def M_X12_tallOf : y_M := (yX12_tallOf, cX12_tallOf, 4, (Option.some Jvm.ClassFile.FieldType.int))
theorem n_X12_tallOf : y_N0 M_X12_tallOf 2 := ⟨(c_10 21 (by decide +kernel) rfl), (c_1 9 (by decide +kernel) rfl), ⟨by decide +kernel, by decide +kernel⟩, by decide +kernel⟩
theorem k_BoxYardModel_438 : Cond.constantLong "BoxYardModel" 438 7 ∈ y_tb := (c_10 22 (by decide +kernel) rfl)
set_option maxRecDepth 100000 in
def f_X12_tallOf (p0 : Int64) (p2 : Int32) (h : y_H) : Option (Int32 × y_H) :=
  y_jl (fun (_ : Int64) (_ : Int32) (_ : Int32) (_ : y_H) => (none : Option (Int32 × y_H))) (fun j2 (v0_2 : Int64) (v2_2 : Int32) (v3_2 : Int32) (h1 : y_H) =>
      y_jn (fun (v3_32 : Int32) (h2 : y_H) => (
          some (v3_32, h2) : Option (Int32 × y_H))) (fun j32 =>
      if 5 ≤ v3_2 then
        j32 v3_2 h1
      else
        if (lg_cmp ((v0_2 >>> (Int32.toInt64 ((15 * v2_2) + (3 * v3_2)) &&& 63)) &&& 7) 0) = 0 then
          j32 v3_2 h1
        else
          j2 v0_2 v2_2 (v3_2 + 1) h1)) (fun j2 =>
  j2 p0 p2 0 h)
abbrev rm_X12_tallOf : Room := { frames := 0, cells := 0, slots := 0, locals := 0 }
set_option maxRecDepth 100000 in
set_option maxHeartbeats 4000000 in
theorem k_X12_tallOf {l : Launch} {G : y_G} {p0 : Int64} {p2 : Int32} {h hz : y_H} {rz : Int32} (hf : f_X12_tallOf p0 p2 h = some (rz, hz)) : y_S l G M_X12_tallOf rm_X12_tallOf [.long p0, .int p2] h (some (.int rz)) hz := by
  refine y_start (lv := [(0, .long p0), (2, .int p2)]) (by decide) (by simp [lg_sl, y_p_cat, y_ci, y_cj, M_X12_tallOf]) (by simp [lv_args, y_p_cat, y_ci, y_cj]) (fun z ad0 => ?_)
  unfold f_X12_tallOf at hf
  refine y_iconst (v := 0) (pc2 := 1) rfl dX12_tallOf_0 (by decide) ?_
  refine y_jlE hf (fun j => ∀ (v0_2 : Int64) (v2_2 : Int32) (v3_2 : Int32) (h1 : y_H), j v0_2 v2_2 v3_2 h1 = some (rz, hz) → y_V l G z rm_X12_tallOf M_X12_tallOf ad0 h (some (.int rz)) hz 2 [(0, .long v0_2), (2, .int v2_2), (3, .int v3_2)] [] h1 0 0) (fun _ _ _ _ hf => by cases hf) (fun j2 hj2 v0_2 v2_2 v3_2 h1 hf => ?_) (fun j2 hj2 hf => ?_)
  · refine y_iload_n (pc2 := 3) rfl dX12_tallOf_2 rfl ?_
    refine y_iconst (v := 5) (pc2 := 4) rfl dX12_tallOf_3 (by decide) ?_
    refine y_jnE hf (fun j => ∀ (v3_32 : Int32) (h2 : y_H), j v3_32 h2 = some (rz, hz) → y_V l G z rm_X12_tallOf M_X12_tallOf ad0 h (some (.int rz)) hz 32 [(3, .int v3_32)] [] h2 0 0) (fun v3_32 h2 hf => ?_) (fun j32 hj32 hf => ?_)
    · refine y_iload_n (pc2 := 33) rfl dX12_tallOf_32 rfl ?_
      exact y_iretF hf dX12_tallOf_33 rfl (by decide) (by decide)
    · refine y_icmp_ge (tgt := 32) (pc2 := 7) rfl dX12_tallOf_4 (by decide) (fun c4 => ?_) (fun c4 => ?_)
      · replace hf := y_it c4 hf
        exact y_pk [2] rfl (hj32 _ _ hf)
      · replace hf := y_ie c4 hf
        refine y_lload_n (pc2 := 8) rfl dX12_tallOf_7 rfl ?_
        refine y_bipush (v := 15) (pc2 := 10) rfl dX12_tallOf_8 (by decide) ?_
        refine y_iload_n (pc2 := 11) rfl dX12_tallOf_10 rfl ?_
        refine y_imul (pc2 := 12) rfl dX12_tallOf_11 ?_
        refine y_iconst (v := 3) (pc2 := 13) rfl dX12_tallOf_12 (by decide) ?_
        refine y_iload_n (pc2 := 14) rfl dX12_tallOf_13 rfl ?_
        refine y_imul (pc2 := 15) rfl dX12_tallOf_14 ?_
        refine y_iadd (pc2 := 16) rfl dX12_tallOf_15 ?_
        refine y_lshr (pc2 := 17) rfl dX12_tallOf_16 ?_
        refine y_ldc2 (v := 7) (pc2 := 20) rfl dX12_tallOf_17 k_BoxYardModel_438 ?_
        refine y_land (pc2 := 21) rfl dX12_tallOf_20 ?_
        refine y_lconst (v := 0) (pc2 := 22) rfl dX12_tallOf_21 rfl ?_
        refine y_lcmp (pc2 := 23) rfl dX12_tallOf_22 ?_
        refine y_if_eq (tgt := 32) (pc2 := 26) rfl dX12_tallOf_23 (by decide) (fun c3 => ?_) (fun c3 => ?_)
        · replace hf := y_it c3 hf
          exact y_pk [2] rfl (hj32 _ _ hf)
        · replace hf := y_ie c3 hf
          refine y_iinc (v := v3_2 + 1) (lv' := [(3, .int (v3_2 + 1)), (0, .long v0_2), (2, .int v2_2)]) (pc2 := 29) rfl dX12_tallOf_26 rfl rfl (by decide) rfl ?_
          refine y_goto (tgt := 2) dX12_tallOf_29 (by decide) ?_
          exact y_pk [1, 2, 0] rfl (hj2 _ _ _ _ hf)
  · refine y_istore_n (lv' := [(3, .int 0), (0, .long p0), (2, .int p2)]) (pc2 := 2) rfl dX12_tallOf_1 (by decide) rfl ?_
    exact y_pk [1, 2, 0] rfl (hj2 _ _ _ _ hf)
theorem dX12_topOf_0 : decode cX12_topOf 0 = .ok (.lload_n 0, 1) := by decide +kernel
theorem dX12_topOf_1 : decode cX12_topOf 1 = .ok (.bipush 15, 2) := by decide +kernel
theorem dX12_topOf_3 : decode cX12_topOf 3 = .ok (.iload_n 2, 1) := by decide +kernel
theorem dX12_topOf_4 : decode cX12_topOf 4 = .ok (.imul, 1) := by decide +kernel
theorem dX12_topOf_5 : decode cX12_topOf 5 = .ok (.iconst 3, 1) := by decide +kernel
theorem dX12_topOf_6 : decode cX12_topOf 6 = .ok (.iload_n 3, 1) := by decide +kernel
theorem dX12_topOf_7 : decode cX12_topOf 7 = .ok (.iconst 1, 1) := by decide +kernel
theorem dX12_topOf_8 : decode cX12_topOf 8 = .ok (.isub, 1) := by decide +kernel
theorem dX12_topOf_9 : decode cX12_topOf 9 = .ok (.imul, 1) := by decide +kernel
theorem dX12_topOf_10 : decode cX12_topOf 10 = .ok (.iadd, 1) := by decide +kernel
theorem dX12_topOf_11 : decode cX12_topOf 11 = .ok (.lshr, 1) := by decide +kernel
theorem dX12_topOf_12 : decode cX12_topOf 12 = .ok (.ldc2_w 438, 3) := by decide +kernel
theorem dX12_topOf_15 : decode cX12_topOf 15 = .ok (.land, 1) := by decide +kernel
theorem dX12_topOf_16 : decode cX12_topOf 16 = .ok (.l2i, 1) := by decide +kernel
theorem dX12_topOf_17 : decode cX12_topOf 17 = .ok (.ireturn, 1) := by decide +kernel
def M_X12_topOf : y_M := (yX12_topOf, cX12_topOf, 4, (Option.some Jvm.ClassFile.FieldType.int))
theorem n_X12_topOf : y_N0 M_X12_topOf 3 := ⟨(c_10 29 (by decide +kernel) rfl), (c_1 9 (by decide +kernel) rfl), ⟨by decide +kernel, by decide +kernel⟩, by decide +kernel⟩
set_option maxRecDepth 100000 in
def f_X12_topOf (p0 : Int64) (p2 : Int32) (p3 : Int32) (h : y_H) : Option (Int32 × y_H) :=
  some (Int64.toInt32 ((p0 >>> (Int32.toInt64 ((15 * p2) + (3 * (p3 - 1))) &&& 63)) &&& 7), h)
abbrev rm_X12_topOf : Room := { frames := 0, cells := 0, slots := 0, locals := 0 }
set_option maxRecDepth 100000 in
set_option maxHeartbeats 4000000 in
theorem k_X12_topOf {l : Launch} {G : y_G} {p0 : Int64} {p2 : Int32} {p3 : Int32} {h hz : y_H} {rz : Int32} (hf : f_X12_topOf p0 p2 p3 h = some (rz, hz)) : y_S l G M_X12_topOf rm_X12_topOf [.long p0, .int p2, .int p3] h (some (.int rz)) hz := by
  refine y_start (lv := [(0, .long p0), (2, .int p2), (3, .int p3)]) (by decide) (by simp [lg_sl, y_p_cat, y_ci, y_cj, M_X12_topOf]) (by simp [lv_args, y_p_cat, y_ci, y_cj]) (fun z ad0 => ?_)
  unfold f_X12_topOf at hf
  refine y_lload_n (pc2 := 1) rfl dX12_topOf_0 rfl ?_
  refine y_bipush (v := 15) (pc2 := 3) rfl dX12_topOf_1 (by decide) ?_
  refine y_iload_n (pc2 := 4) rfl dX12_topOf_3 rfl ?_
  refine y_imul (pc2 := 5) rfl dX12_topOf_4 ?_
  refine y_iconst (v := 3) (pc2 := 6) rfl dX12_topOf_5 (by decide) ?_
  refine y_iload_n (pc2 := 7) rfl dX12_topOf_6 rfl ?_
  refine y_iconst (v := 1) (pc2 := 8) rfl dX12_topOf_7 (by decide) ?_
  refine y_isub (pc2 := 9) rfl dX12_topOf_8 ?_
  refine y_imul (pc2 := 10) rfl dX12_topOf_9 ?_
  refine y_iadd (pc2 := 11) rfl dX12_topOf_10 ?_
  refine y_lshr (pc2 := 12) rfl dX12_topOf_11 ?_
  refine y_ldc2 (v := 7) (pc2 := 15) rfl dX12_topOf_12 k_BoxYardModel_438 ?_
  refine y_land (pc2 := 16) rfl dX12_topOf_15 ?_
  refine y_l2i (pc2 := 17) rfl dX12_topOf_16 ?_
  exact y_iretF hf dX12_topOf_17 rfl (by decide) (by decide)
theorem dX12_slotOf_0 : decode cX12_slotOf 0 = .ok (.lload_n 1, 1) := by decide +kernel
theorem dX12_slotOf_1 : decode cX12_slotOf 1 = .ok (.lload_n 1, 1) := by decide +kernel
theorem dX12_slotOf_2 : decode cX12_slotOf 2 = .ok (.bipush 31, 2) := by decide +kernel
theorem dX12_slotOf_4 : decode cX12_slotOf 4 = .ok (.lushr, 1) := by decide +kernel
theorem dX12_slotOf_5 : decode cX12_slotOf 5 = .ok (.lxor, 1) := by decide +kernel
theorem dX12_slotOf_6 : decode cX12_slotOf 6 = .ok (.ldc2_w 440, 3) := by decide +kernel
theorem dX12_slotOf_9 : decode cX12_slotOf 9 = .ok (.lmul, 1) := by decide +kernel
theorem dX12_slotOf_10 : decode cX12_slotOf 10 = .ok (.lstore_n 3, 1) := by decide +kernel
theorem dX12_slotOf_11 : decode cX12_slotOf 11 = .ok (.lload_n 3, 1) := by decide +kernel
theorem dX12_slotOf_12 : decode cX12_slotOf 12 = .ok (.bipush 47, 2) := by decide +kernel
theorem dX12_slotOf_14 : decode cX12_slotOf 14 = .ok (.lushr, 1) := by decide +kernel
theorem dX12_slotOf_15 : decode cX12_slotOf 15 = .ok (.l2i, 1) := by decide +kernel
theorem dX12_slotOf_16 : decode cX12_slotOf 16 = .ok (.istore 5, 2) := by decide +kernel
theorem dX12_slotOf_18 : decode cX12_slotOf 18 = .ok (.aload_n 0, 1) := by decide +kernel
theorem dX12_slotOf_19 : decode cX12_slotOf 19 = .ok (.getfield 168, 3) := by decide +kernel
theorem dX12_slotOf_22 : decode cX12_slotOf 22 = .ok (.iload 5, 2) := by decide +kernel
theorem dX12_slotOf_24 : decode cX12_slotOf 24 = .ok (.iaload, 1) := by decide +kernel
theorem dX12_slotOf_25 : decode cX12_slotOf 25 = .ok (.ifCond .le 35, 3) := by decide +kernel
theorem dX12_slotOf_28 : decode cX12_slotOf 28 = .ok (.aload_n 0, 1) := by decide +kernel
theorem dX12_slotOf_29 : decode cX12_slotOf 29 = .ok (.getfield 157, 3) := by decide +kernel
theorem dX12_slotOf_32 : decode cX12_slotOf 32 = .ok (.aload_n 0, 1) := by decide +kernel
theorem dX12_slotOf_33 : decode cX12_slotOf 33 = .ok (.getfield 168, 3) := by decide +kernel
theorem dX12_slotOf_36 : decode cX12_slotOf 36 = .ok (.iload 5, 2) := by decide +kernel
theorem dX12_slotOf_38 : decode cX12_slotOf 38 = .ok (.iaload, 1) := by decide +kernel
theorem dX12_slotOf_39 : decode cX12_slotOf 39 = .ok (.iconst 1, 1) := by decide +kernel
theorem dX12_slotOf_40 : decode cX12_slotOf 40 = .ok (.isub, 1) := by decide +kernel
theorem dX12_slotOf_41 : decode cX12_slotOf 41 = .ok (.laload, 1) := by decide +kernel
theorem dX12_slotOf_42 : decode cX12_slotOf 42 = .ok (.lload_n 1, 1) := by decide +kernel
theorem dX12_slotOf_43 : decode cX12_slotOf 43 = .ok (.lcmp, 1) := by decide +kernel
theorem dX12_slotOf_44 : decode cX12_slotOf 44 = .ok (.ifCond .eq 16, 3) := by decide +kernel
theorem dX12_slotOf_47 : decode cX12_slotOf 47 = .ok (.iload 5, 2) := by decide +kernel
theorem dX12_slotOf_49 : decode cX12_slotOf 49 = .ok (.iconst 1, 1) := by decide +kernel
theorem dX12_slotOf_50 : decode cX12_slotOf 50 = .ok (.iadd, 1) := by decide +kernel
theorem dX12_slotOf_51 : decode cX12_slotOf 51 = .ok (.ldc_w 442, 3) := by decide +kernel
theorem dX12_slotOf_54 : decode cX12_slotOf 54 = .ok (.iand, 1) := by decide +kernel
theorem dX12_slotOf_55 : decode cX12_slotOf 55 = .ok (.istore 5, 2) := by decide +kernel
theorem dX12_slotOf_57 : decode cX12_slotOf 57 = .ok (.goto (-39), 3) := by decide +kernel
theorem dX12_slotOf_60 : decode cX12_slotOf 60 = .ok (.iload 5, 2) := by decide +kernel
theorem dX12_slotOf_62 : decode cX12_slotOf 62 = .ok (.ireturn, 1) := by decide +kernel
def M_X12_slotOf : y_M := (yX12_slotOf, cX12_slotOf, 6, (Option.some Jvm.ClassFile.FieldType.int))
theorem n_X12_slotOf : y_N0 M_X12_slotOf 1 := ⟨(c_10 12 (by decide +kernel) rfl), (c_1 9 (by decide +kernel) rfl), ⟨by decide +kernel, by decide +kernel⟩, by decide +kernel⟩
theorem k_BoxYardModel_440 : Cond.constantLong "BoxYardModel" 440 (-7046029254386353131) ∈ y_tb := (c_10 13 (by decide +kernel) rfl)
theorem F_BoxYardModel_168 : y_F "BoxYardModel" 168 12 65 := ⟨_, _, _, rfl, by decide, Or.inl (c_7 187 (by decide +kernel) rfl)⟩
theorem F_BoxYardModel_157 : y_F "BoxYardModel" 157 12 62 := ⟨_, _, _, rfl, by decide, Or.inl (c_7 184 (by decide +kernel) rfl)⟩
theorem k_BoxYardModel_442 : Cond.constant "BoxYardModel" 442 131071 ∈ y_tb := (c_10 14 (by decide +kernel) rfl)
set_option maxRecDepth 100000 in
def f_X12_slotOf (p0 : Nat) (p1 : Int64) (h : y_H) : Option (Int32 × y_H) :=
  y_jl (fun (_ : Nat) (_ : Int64) (_ : Int32) (_ : y_H) => (none : Option (Int32 × y_H))) (fun j18 (v0_18 : Nat) (v1_18 : Int64) (v5_18 : Int32) (h1 : y_H) =>
      if y_K h1 v0_18 = 13 then
      if y_K h1 (y_P h1 v0_18 65) = 100 ∧ y_ix v5_18 (y_N h1 (y_P h1 v0_18 65)) = true then
      y_jn (fun (v5_60 : Int32) (h2 : y_H) => (
          some (v5_60, h2) : Option (Int32 × y_H))) (fun j60 =>
      if (y_I h1 (y_P h1 v0_18 65) (Int32.toNatClampNeg v5_18)) ≤ 0 then
        j60 v5_18 h1
      else
        if y_K h1 v0_18 = 13 then
        if y_K h1 v0_18 = 13 then
        if y_K h1 (y_P h1 v0_18 65) = 100 ∧ y_ix v5_18 (y_N h1 (y_P h1 v0_18 65)) = true then
        if y_K h1 (y_P h1 v0_18 62) = 101 ∧ y_ix ((y_I h1 (y_P h1 v0_18 65) (Int32.toNatClampNeg v5_18)) - 1) (y_N h1 (y_P h1 v0_18 62)) = true then
        if (lg_cmp (y_L h1 (y_P h1 v0_18 62) (Int32.toNatClampNeg ((y_I h1 (y_P h1 v0_18 65) (Int32.toNatClampNeg v5_18)) - 1))) v1_18) = 0 then
          j60 v5_18 h1
        else
          j18 v0_18 v1_18 ((v5_18 + 1) &&& 131071) h1
        else none
        else none
        else none
        else none)
      else none
      else none) (fun j18 =>
  j18 p0 p1 (Int64.toInt32 (y_lush ((p1 ^^^ (y_lush p1 31)) * (-7046029254386353131 : Int64)) 47)) h)
abbrev rm_X12_slotOf : Room := { frames := 0, cells := 0, slots := 0, locals := 0 }
set_option maxRecDepth 100000 in
set_option maxHeartbeats 4000000 in
theorem k_X12_slotOf {l : Launch} {G : y_G} {p0 : Nat} {p1 : Int64} {h hz : y_H} {rz : Int32} (hf : f_X12_slotOf p0 p1 h = some (rz, hz)) : y_S l G M_X12_slotOf rm_X12_slotOf [y_p p0, .long p1] h (some (.int rz)) hz := by
  refine y_start (lv := [(0, y_p p0), (1, .long p1)]) (by decide) (by simp [lg_sl, y_p_cat, y_ci, y_cj, M_X12_slotOf]) (by simp [lv_args, y_p_cat, y_ci, y_cj]) (fun z ad0 => ?_)
  unfold f_X12_slotOf at hf
  refine y_lload_n (pc2 := 1) rfl dX12_slotOf_0 rfl ?_
  refine y_lload_n (pc2 := 2) rfl dX12_slotOf_1 rfl ?_
  refine y_bipush (v := 31) (pc2 := 4) rfl dX12_slotOf_2 (by decide) ?_
  refine y_lus (pc2 := 5) rfl dX12_slotOf_4 ?_
  refine y_lxor (pc2 := 6) rfl dX12_slotOf_5 ?_
  refine y_ldc2 (v := (-7046029254386353131 : Int64)) (pc2 := 9) rfl dX12_slotOf_6 k_BoxYardModel_440 ?_
  refine y_lmul (pc2 := 10) rfl dX12_slotOf_9 ?_
  refine y_lstore_n (lv' := [(3, .long ((p1 ^^^ (y_lush p1 31)) * (-7046029254386353131 : Int64))), (0, y_p p0), (1, .long p1)]) (pc2 := 11) rfl dX12_slotOf_10 (by decide) rfl ?_
  refine y_lload_n (pc2 := 12) rfl dX12_slotOf_11 rfl ?_
  refine y_bipush (v := 47) (pc2 := 14) rfl dX12_slotOf_12 (by decide) ?_
  refine y_lus (pc2 := 15) rfl dX12_slotOf_14 ?_
  refine y_l2i (pc2 := 16) rfl dX12_slotOf_15 ?_
  refine y_jlE hf (fun j => ∀ (v0_18 : Nat) (v1_18 : Int64) (v5_18 : Int32) (h1 : y_H), j v0_18 v1_18 v5_18 h1 = some (rz, hz) → y_V l G z rm_X12_slotOf M_X12_slotOf ad0 h (some (.int rz)) hz 18 [(0, y_p v0_18), (1, .long v1_18), (5, .int v5_18)] [] h1 0 0) (fun _ _ _ _ hf => by cases hf) (fun j18 hj18 v0_18 v1_18 v5_18 h1 hf => ?_) (fun j18 hj18 hf => ?_)
  · refine y_aload_n (x := v0_18) (pc2 := 19) rfl dX12_slotOf_18 rfl ?_
    obtain ⟨g10, hf⟩ := y_g hf
    refine y_getP (pc2 := 22) rfl dX12_slotOf_19 F_BoxYardModel_168 (by decide) rfl g10 ?_
    refine y_iload (pc2 := 24) rfl dX12_slotOf_22 rfl ?_
    obtain ⟨g9, hf⟩ := y_g hf
    refine y_iald (pc2 := 25) rfl dX12_slotOf_24 g9.1 (y_ix_in g9.2) ?_
    refine y_jnE hf (fun j => ∀ (v5_60 : Int32) (h2 : y_H), j v5_60 h2 = some (rz, hz) → y_V l G z rm_X12_slotOf M_X12_slotOf ad0 h (some (.int rz)) hz 60 [(5, .int v5_60)] [] h2 0 0) (fun v5_60 h2 hf => ?_) (fun j60 hj60 hf => ?_)
    · refine y_iload (pc2 := 62) rfl dX12_slotOf_60 rfl ?_
      exact y_iretF hf dX12_slotOf_62 rfl (by decide) (by decide)
    · refine y_if_le (tgt := 60) (pc2 := 28) rfl dX12_slotOf_25 (by decide) (fun c8 => ?_) (fun c8 => ?_)
      · replace hf := y_it c8 hf
        exact y_pk [2] rfl (hj60 _ _ hf)
      · replace hf := y_ie c8 hf
        refine y_aload_n (x := v0_18) (pc2 := 29) rfl dX12_slotOf_28 rfl ?_
        obtain ⟨g7, hf⟩ := y_g hf
        refine y_getP (pc2 := 32) rfl dX12_slotOf_29 F_BoxYardModel_157 (by decide) rfl g7 ?_
        refine y_aload_n (x := v0_18) (pc2 := 33) rfl dX12_slotOf_32 rfl ?_
        obtain ⟨g6, hf⟩ := y_g hf
        refine y_getP (pc2 := 36) rfl dX12_slotOf_33 F_BoxYardModel_168 (by decide) rfl g6 ?_
        refine y_iload (pc2 := 38) rfl dX12_slotOf_36 rfl ?_
        obtain ⟨g5, hf⟩ := y_g hf
        refine y_iald (pc2 := 39) rfl dX12_slotOf_38 g5.1 (y_ix_in g5.2) ?_
        refine y_iconst (v := 1) (pc2 := 40) rfl dX12_slotOf_39 (by decide) ?_
        refine y_isub (pc2 := 41) rfl dX12_slotOf_40 ?_
        obtain ⟨g4, hf⟩ := y_g hf
        refine y_lald (pc2 := 42) rfl dX12_slotOf_41 g4.1 (y_ix_in g4.2) ?_
        refine y_lload_n (pc2 := 43) rfl dX12_slotOf_42 rfl ?_
        refine y_lcmp (pc2 := 44) rfl dX12_slotOf_43 ?_
        refine y_if_eq (tgt := 60) (pc2 := 47) rfl dX12_slotOf_44 (by decide) (fun c3 => ?_) (fun c3 => ?_)
        · replace hf := y_it c3 hf
          exact y_pk [2] rfl (hj60 _ _ hf)
        · replace hf := y_ie c3 hf
          refine y_iload (pc2 := 49) rfl dX12_slotOf_47 rfl ?_
          refine y_iconst (v := 1) (pc2 := 50) rfl dX12_slotOf_49 (by decide) ?_
          refine y_iadd (pc2 := 51) rfl dX12_slotOf_50 ?_
          refine y_ldcw (v := 131071) (pc2 := 54) rfl dX12_slotOf_51 k_BoxYardModel_442 ?_
          refine y_iand (pc2 := 55) rfl dX12_slotOf_54 ?_
          refine y_istore (lv' := [(5, .int ((v5_18 + 1) &&& 131071)), (0, y_p v0_18), (1, .long v1_18)]) (pc2 := 57) rfl dX12_slotOf_55 (by decide) rfl ?_
          refine y_goto (tgt := 18) dX12_slotOf_57 (by decide) ?_
          exact y_pk [1, 2, 0] rfl (hj18 _ _ _ _ hf)
  · refine y_istore (lv' := [(5, .int (Int64.toInt32 (y_lush ((p1 ^^^ (y_lush p1 31)) * (-7046029254386353131 : Int64)) 47))), (3, .long ((p1 ^^^ (y_lush p1 31)) * (-7046029254386353131 : Int64))), (0, y_p p0), (1, .long p1)]) (pc2 := 18) rfl dX12_slotOf_16 (by decide) rfl ?_
    exact y_pk [2, 3, 0] rfl (hj18 _ _ _ _ hf)
theorem dX12_come_0 : decode cX12_come 0 = .ok (.aload_n 0, 1) := by decide +kernel
theorem dX12_come_1 : decode cX12_come 1 = .ok (.lload_n 1, 1) := by decide +kernel
theorem dX12_come_2 : decode cX12_come 2 = .ok (.invokevirtual 443, 3) := by decide +kernel
theorem dX12_come_5 : decode cX12_come 5 = .ok (.istore 5, 2) := by decide +kernel
theorem dX12_come_7 : decode cX12_come 7 = .ok (.aload_n 0, 1) := by decide +kernel
theorem dX12_come_8 : decode cX12_come 8 = .ok (.getfield 168, 3) := by decide +kernel
theorem dX12_come_11 : decode cX12_come 11 = .ok (.iload 5, 2) := by decide +kernel
theorem dX12_come_13 : decode cX12_come 13 = .ok (.iaload, 1) := by decide +kernel
theorem dX12_come_14 : decode cX12_come 14 = .ok (.ifCond .ne 55, 3) := by decide +kernel
theorem dX12_come_17 : decode cX12_come 17 = .ok (.aload_n 0, 1) := by decide +kernel
theorem dX12_come_18 : decode cX12_come 18 = .ok (.getfield 157, 3) := by decide +kernel
theorem dX12_come_21 : decode cX12_come 21 = .ok (.aload_n 0, 1) := by decide +kernel
theorem dX12_come_22 : decode cX12_come 22 = .ok (.getfield 447, 3) := by decide +kernel
theorem dX12_come_25 : decode cX12_come 25 = .ok (.lload_n 1, 1) := by decide +kernel
theorem dX12_come_26 : decode cX12_come 26 = .ok (.lastore, 1) := by decide +kernel
theorem dX12_come_27 : decode cX12_come 27 = .ok (.aload_n 0, 1) := by decide +kernel
theorem dX12_come_28 : decode cX12_come 28 = .ok (.getfield 161, 3) := by decide +kernel
theorem dX12_come_31 : decode cX12_come 31 = .ok (.aload_n 0, 1) := by decide +kernel
theorem dX12_come_32 : decode cX12_come 32 = .ok (.getfield 447, 3) := by decide +kernel
theorem dX12_come_35 : decode cX12_come 35 = .ok (.iload_n 3, 1) := by decide +kernel
theorem dX12_come_36 : decode cX12_come 36 = .ok (.iastore, 1) := by decide +kernel
theorem dX12_come_37 : decode cX12_come 37 = .ok (.aload_n 0, 1) := by decide +kernel
theorem dX12_come_38 : decode cX12_come 38 = .ok (.getfield 164, 3) := by decide +kernel
theorem dX12_come_41 : decode cX12_come 41 = .ok (.aload_n 0, 1) := by decide +kernel
theorem dX12_come_42 : decode cX12_come 42 = .ok (.getfield 447, 3) := by decide +kernel
theorem dX12_come_45 : decode cX12_come 45 = .ok (.iload 4, 2) := by decide +kernel
theorem dX12_come_47 : decode cX12_come 47 = .ok (.iastore, 1) := by decide +kernel
theorem dX12_come_48 : decode cX12_come 48 = .ok (.aload_n 0, 1) := by decide +kernel
theorem dX12_come_49 : decode cX12_come 49 = .ok (.dup, 1) := by decide +kernel
theorem dX12_come_50 : decode cX12_come 50 = .ok (.getfield 447, 3) := by decide +kernel
theorem dX12_come_53 : decode cX12_come 53 = .ok (.iconst 1, 1) := by decide +kernel
theorem dX12_come_54 : decode cX12_come 54 = .ok (.iadd, 1) := by decide +kernel
theorem dX12_come_55 : decode cX12_come 55 = .ok (.putfield 447, 3) := by decide +kernel
theorem dX12_come_58 : decode cX12_come 58 = .ok (.aload_n 0, 1) := by decide +kernel
theorem dX12_come_59 : decode cX12_come 59 = .ok (.getfield 168, 3) := by decide +kernel
theorem dX12_come_62 : decode cX12_come 62 = .ok (.iload 5, 2) := by decide +kernel
theorem dX12_come_64 : decode cX12_come 64 = .ok (.aload_n 0, 1) := by decide +kernel
theorem dX12_come_65 : decode cX12_come 65 = .ok (.getfield 447, 3) := by decide +kernel
theorem dX12_come_68 : decode cX12_come 68 = .ok (.iastore, 1) := by decide +kernel
theorem dX12_come_69 : decode cX12_come 69 = .ok (.return_, 1) := by decide +kernel
def M_X12_come : y_M := (yX12_come, cX12_come, 6, (Option.none : Option Jvm.ClassFile.FieldType))
theorem n_X12_come : y_N0 M_X12_come 3 := ⟨(c_10 8 (by decide +kernel) rfl), (c_1 9 (by decide +kernel) rfl), ⟨by decide +kernel, by decide +kernel⟩, by decide +kernel⟩
theorem l_BoxYardModel_443 : y_lnk "BoxYardModel" 443 M_X12_slotOf := Or.inl (c_10 9 (by decide +kernel) rfl)
theorem i_X12_slotOf : Cond.instanceMethod (M_X12_slotOf).1 ∈ y_tb := (c_10 11 (by decide +kernel) rfl)
theorem e_X12_slotOf : Cond.selects (M_X12_slotOf).1.cls (M_X12_slotOf).1 (M_X12_slotOf).1 ∈ y_tb := (m_s 102 (by decide +kernel) rfl)
theorem F_BoxYardModel_447 : y_F "BoxYardModel" 447 12 66 := ⟨_, _, _, rfl, by decide, Or.inl (c_7 188 (by decide +kernel) rfl)⟩
theorem F_BoxYardModel_161 : y_F "BoxYardModel" 161 12 63 := ⟨_, _, _, rfl, by decide, Or.inl (c_7 185 (by decide +kernel) rfl)⟩
theorem F_BoxYardModel_164 : y_F "BoxYardModel" 164 12 64 := ⟨_, _, _, rfl, by decide, Or.inl (c_7 186 (by decide +kernel) rfl)⟩
theorem Fp_BoxYardModel_447 {nm : String} : y_Fp "BoxYardModel" nm 447 12 66 := ⟨_, _, _, rfl, by decide, Or.inl ⟨rfl, Or.inl (c_7 188 (by decide +kernel) rfl)⟩⟩
set_option maxRecDepth 100000 in
def f_X12_come (p0 : Nat) (p1 : Int64) (p3 : Int32) (p4 : Int32) (h : y_H) : Option (Unit × y_H) :=
  if y_K h p0 = 13 then
  y_cl (f_X12_slotOf p0 p1 h) (fun r1 h2 =>
  if y_K h2 p0 = 13 then
  if y_K h2 (y_P h2 p0 65) = 100 ∧ y_ix r1 (y_N h2 (y_P h2 p0 65)) = true then
  y_jn (fun (h4 : y_H) => (
      some ((), h4) : Option (Unit × y_H))) (fun j69 =>
  if (y_I h2 (y_P h2 p0 65) (Int32.toNatClampNeg r1)) = 0 then
    if y_K h2 p0 = 13 then
    if y_K h2 p0 = 13 then
    if y_K h2 (y_P h2 p0 62) = 101 ∧ y_ix (y_I h2 p0 66) (y_N h2 (y_P h2 p0 62)) = true then
    y_bd (s_L h2 (y_P h2 p0 62) (Int32.toNatClampNeg (y_I h2 p0 66)) p1) (fun h5 =>
    if y_K h5 p0 = 13 then
    if y_K h5 p0 = 13 then
    if y_K h5 (y_P h5 p0 63) = 100 ∧ y_ix (y_I h5 p0 66) (y_N h5 (y_P h5 p0 63)) = true then
    y_bd (s_I h5 (y_P h5 p0 63) (Int32.toNatClampNeg (y_I h5 p0 66)) p3) (fun h8 =>
    if y_K h8 p0 = 13 then
    if y_K h8 p0 = 13 then
    if y_K h8 (y_P h8 p0 64) = 100 ∧ y_ix (y_I h8 p0 66) (y_N h8 (y_P h8 p0 64)) = true then
    y_bd (s_I h8 (y_P h8 p0 64) (Int32.toNatClampNeg (y_I h8 p0 66)) p4) (fun h11 =>
    if y_K h11 p0 = 13 then
    if y_K h11 p0 = 13 then
    y_bd (s_I h11 p0 66 ((y_I h11 p0 66) + 1)) (fun h14 =>
    if y_K h14 p0 = 13 then
    if y_K h14 p0 = 13 then
    if y_K h14 (y_P h14 p0 65) = 100 ∧ y_ix r1 (y_N h14 (y_P h14 p0 65)) = true then
    y_bd (s_I h14 (y_P h14 p0 65) (Int32.toNatClampNeg r1) (y_I h14 p0 66)) (fun h17 =>
    j69 h17)
    else none
    else none
    else none)
    else none
    else none)
    else none
    else none
    else none)
    else none
    else none
    else none)
    else none
    else none
    else none
  else
    j69 h2)
  else none
  else none)
  else none
abbrev rm_X12_come : Room := { frames := 1, cells := 0, slots := 0, locals := 25 }
set_option maxRecDepth 100000 in
set_option maxHeartbeats 4000000 in
theorem k_X12_come {l : Launch} {G : y_G} {p0 : Nat} {p1 : Int64} {p3 : Int32} {p4 : Int32} {h hz : y_H} {rz : Unit} (hf : f_X12_come p0 p1 p3 p4 h = some (rz, hz)) : y_S l G M_X12_come rm_X12_come [y_p p0, .long p1, .int p3, .int p4] h none hz := by
  refine y_start (lv := [(0, y_p p0), (1, .long p1), (3, .int p3), (4, .int p4)]) (by decide) (by simp [lg_sl, y_p_cat, y_ci, y_cj, M_X12_come]) (by simp [lv_args, y_p_cat, y_ci, y_cj]) (fun z ad0 => ?_)
  unfold f_X12_come at hf
  refine y_aload_n (x := p0) (pc2 := 1) rfl dX12_come_0 rfl ?_
  refine y_lload_n (pc2 := 2) rfl dX12_come_1 rfl ?_
  obtain ⟨g32, hf⟩ := y_g hf
  obtain ⟨r1, h2, c3, hf⟩ := y_clE hf
  refine y_callV (As := [.long p1]) (rm := rm_X12_slotOf) (cells := 0) (slots := 0) (pc2 := 5) rfl dX12_come_2 n_X12_slotOf l_BoxYardModel_443 i_X12_slotOf e_X12_slotOf (ci := 12) rfl rfl (by decide) g32 rfl rfl (by decide) (by decide) (by decide) (k_X12_slotOf c3) ?_
  refine y_istore (lv' := [(5, .int r1), (0, y_p p0), (1, .long p1), (3, .int p3), (4, .int p4)]) (pc2 := 7) rfl dX12_come_5 (by decide) rfl ?_
  refine y_aload_n (x := p0) (pc2 := 8) rfl dX12_come_7 rfl ?_
  obtain ⟨g31, hf⟩ := y_g hf
  refine y_getP (pc2 := 11) rfl dX12_come_8 F_BoxYardModel_168 (by decide) rfl g31 ?_
  refine y_iload (pc2 := 13) rfl dX12_come_11 rfl ?_
  obtain ⟨g30, hf⟩ := y_g hf
  refine y_iald (pc2 := 14) rfl dX12_come_13 g30.1 (y_ix_in g30.2) ?_
  refine y_jnE hf (fun j => ∀ (h4 : y_H), j h4 = some (rz, hz) → y_V l G z rm_X12_come M_X12_come ad0 h none hz 69 [] [] h4 0 0) (fun h4 hf => ?_) (fun j69 hj69 hf => ?_)
  · exact y_vretF hf dX12_come_69 rfl (by decide) (by decide)
  · refine y_if_ne (tgt := 69) (pc2 := 17) rfl dX12_come_14 (by decide) (fun c29 => ?_) (fun c29 => ?_)
    · replace hf := y_ie c29 hf
      exact y_pk [] rfl (hj69 _ hf)
    · replace hf := y_it c29 hf
      refine y_aload_n (x := p0) (pc2 := 18) rfl dX12_come_17 rfl ?_
      obtain ⟨g28, hf⟩ := y_g hf
      refine y_getP (pc2 := 21) rfl dX12_come_18 F_BoxYardModel_157 (by decide) rfl g28 ?_
      refine y_aload_n (x := p0) (pc2 := 22) rfl dX12_come_21 rfl ?_
      obtain ⟨g27, hf⟩ := y_g hf
      refine y_getI (pc2 := 25) rfl dX12_come_22 F_BoxYardModel_447 (by decide) rfl g27 ?_
      refine y_lload_n (pc2 := 26) rfl dX12_come_25 rfl ?_
      obtain ⟨g7, hf⟩ := y_g hf
      obtain ⟨h5, e6, hf⟩ := y_bdE hf
      refine y_last (x := p1) (pc2 := 27) rfl dX12_come_26 g7.1 (y_ix_in g7.2) e6 ?_
      refine y_aload_n (x := p0) (pc2 := 28) rfl dX12_come_27 rfl ?_
      obtain ⟨g26, hf⟩ := y_g hf
      refine y_getP (pc2 := 31) rfl dX12_come_28 F_BoxYardModel_161 (by decide) rfl g26 ?_
      refine y_aload_n (x := p0) (pc2 := 32) rfl dX12_come_31 rfl ?_
      obtain ⟨g25, hf⟩ := y_g hf
      refine y_getI (pc2 := 35) rfl dX12_come_32 F_BoxYardModel_447 (by decide) rfl g25 ?_
      refine y_iload_n (pc2 := 36) rfl dX12_come_35 rfl ?_
      obtain ⟨g10, hf⟩ := y_g hf
      obtain ⟨h8, e9, hf⟩ := y_bdE hf
      refine y_iast (x := p3) (pc2 := 37) rfl dX12_come_36 g10.1 (y_ix_in g10.2) e9 ?_
      refine y_aload_n (x := p0) (pc2 := 38) rfl dX12_come_37 rfl ?_
      obtain ⟨g24, hf⟩ := y_g hf
      refine y_getP (pc2 := 41) rfl dX12_come_38 F_BoxYardModel_164 (by decide) rfl g24 ?_
      refine y_aload_n (x := p0) (pc2 := 42) rfl dX12_come_41 rfl ?_
      obtain ⟨g23, hf⟩ := y_g hf
      refine y_getI (pc2 := 45) rfl dX12_come_42 F_BoxYardModel_447 (by decide) rfl g23 ?_
      refine y_iload (pc2 := 47) rfl dX12_come_45 rfl ?_
      obtain ⟨g13, hf⟩ := y_g hf
      obtain ⟨h11, e12, hf⟩ := y_bdE hf
      refine y_iast (x := p4) (pc2 := 48) rfl dX12_come_47 g13.1 (y_ix_in g13.2) e12 ?_
      refine y_aload_n (x := p0) (pc2 := 49) rfl dX12_come_48 rfl ?_
      refine y_dup (pc2 := 50) rfl dX12_come_49 (y_p_cat _) ?_
      obtain ⟨g22, hf⟩ := y_g hf
      refine y_getI (pc2 := 53) rfl dX12_come_50 F_BoxYardModel_447 (by decide) rfl g22 ?_
      refine y_iconst (v := 1) (pc2 := 54) rfl dX12_come_53 (by decide) ?_
      refine y_iadd (pc2 := 55) rfl dX12_come_54 ?_
      obtain ⟨g16, hf⟩ := y_g hf
      obtain ⟨h14, e15, hf⟩ := y_bdE hf
      refine y_putI (x := (y_I h11 p0 66) + 1) (pc2 := 58) rfl dX12_come_55 Fp_BoxYardModel_447 (by decide) rfl g16 e15 ?_
      refine y_aload_n (x := p0) (pc2 := 59) rfl dX12_come_58 rfl ?_
      obtain ⟨g21, hf⟩ := y_g hf
      refine y_getP (pc2 := 62) rfl dX12_come_59 F_BoxYardModel_168 (by decide) rfl g21 ?_
      refine y_iload (pc2 := 64) rfl dX12_come_62 rfl ?_
      refine y_aload_n (x := p0) (pc2 := 65) rfl dX12_come_64 rfl ?_
      obtain ⟨g20, hf⟩ := y_g hf
      refine y_getI (pc2 := 68) rfl dX12_come_65 F_BoxYardModel_447 (by decide) rfl g20 ?_
      obtain ⟨g19, hf⟩ := y_g hf
      obtain ⟨h17, e18, hf⟩ := y_bdE hf
      refine y_iast (x := y_I h14 p0 66) (pc2 := 69) rfl dX12_come_68 g19.1 (y_ix_in g19.2) e18 ?_
      exact y_pk [] rfl (hj69 _ hf)
theorem dX12_outOf_0 : decode cX12_outOf 0 = .ok (.aload_n 0, 1) := by decide +kernel
theorem dX12_outOf_1 : decode cX12_outOf 1 = .ok (.getfield 450, 3) := by decide +kernel
theorem dX12_outOf_4 : decode cX12_outOf 4 = .ok (.istore_n 3, 1) := by decide +kernel
theorem dX12_outOf_5 : decode cX12_outOf 5 = .ok (.iconst 0, 1) := by decide +kernel
theorem dX12_outOf_6 : decode cX12_outOf 6 = .ok (.istore 4, 2) := by decide +kernel
theorem dX12_outOf_8 : decode cX12_outOf 8 = .ok (.iload 4, 2) := by decide +kernel
theorem dX12_outOf_10 : decode cX12_outOf 10 = .ok (.iconst 4, 1) := by decide +kernel
theorem dX12_outOf_11 : decode cX12_outOf 11 = .ok (.if_icmp .ge 18, 3) := by decide +kernel
theorem dX12_outOf_14 : decode cX12_outOf 14 = .ok (.iload_n 3, 1) := by decide +kernel
theorem dX12_outOf_15 : decode cX12_outOf 15 = .ok (.lload_n 1, 1) := by decide +kernel
theorem dX12_outOf_16 : decode cX12_outOf 16 = .ok (.iload 4, 2) := by decide +kernel
theorem dX12_outOf_18 : decode cX12_outOf 18 = .ok (.invokestatic 453, 3) := by decide +kernel
theorem dX12_outOf_21 : decode cX12_outOf 21 = .ok (.isub, 1) := by decide +kernel
theorem dX12_outOf_22 : decode cX12_outOf 22 = .ok (.istore_n 3, 1) := by decide +kernel
theorem dX12_outOf_23 : decode cX12_outOf 23 = .ok (.iinc 4 1, 3) := by decide +kernel
theorem dX12_outOf_26 : decode cX12_outOf 26 = .ok (.goto (-18), 3) := by decide +kernel
theorem dX12_outOf_29 : decode cX12_outOf 29 = .ok (.iload_n 3, 1) := by decide +kernel
theorem dX12_outOf_30 : decode cX12_outOf 30 = .ok (.ireturn, 1) := by decide +kernel
def M_X12_outOf : y_M := (yX12_outOf, cX12_outOf, 5, (Option.some Jvm.ClassFile.FieldType.int))
theorem n_X12_outOf : y_N0 M_X12_outOf 1 := ⟨(c_10 18 (by decide +kernel) rfl), (c_1 9 (by decide +kernel) rfl), ⟨by decide +kernel, by decide +kernel⟩, by decide +kernel⟩
theorem F_BoxYardModel_450 : y_F "BoxYardModel" 450 12 68 := ⟨_, _, _, rfl, by decide, Or.inl (c_7 190 (by decide +kernel) rfl)⟩
theorem l_BoxYardModel_453 : y_lnk "BoxYardModel" 453 M_X12_tallOf := Or.inl (c_10 19 (by decide +kernel) rfl)
theorem t_X12_tallOf : Cond.static (M_X12_tallOf).1 ∈ y_tb := (c_10 20 (by decide +kernel) rfl)
set_option maxRecDepth 100000 in
def f_X12_outOf (p0 : Nat) (p1 : Int64) (h : y_H) : Option (Int32 × y_H) :=
  if y_K h p0 = 13 then
  y_jl (fun (_ : Int64) (_ : Int32) (_ : Int32) (_ : y_H) => (none : Option (Int32 × y_H))) (fun j8 (v1_8 : Int64) (v3_8 : Int32) (v4_8 : Int32) (h1 : y_H) =>
      if 4 ≤ v4_8 then
        some (v3_8, h1)
      else
        y_cl (f_X12_tallOf v1_8 v4_8 h1) (fun r2 h3 =>
        j8 v1_8 (v3_8 - r2) (v4_8 + 1) h3)) (fun j8 =>
  j8 p1 (y_I h p0 68) 0 h)
  else none
abbrev rm_X12_outOf : Room := { frames := 1, cells := 0, slots := 0, locals := 23 }
set_option maxRecDepth 100000 in
set_option maxHeartbeats 4000000 in
theorem k_X12_outOf {l : Launch} {G : y_G} {p0 : Nat} {p1 : Int64} {h hz : y_H} {rz : Int32} (hf : f_X12_outOf p0 p1 h = some (rz, hz)) : y_S l G M_X12_outOf rm_X12_outOf [y_p p0, .long p1] h (some (.int rz)) hz := by
  refine y_start (lv := [(0, y_p p0), (1, .long p1)]) (by decide) (by simp [lg_sl, y_p_cat, y_ci, y_cj, M_X12_outOf]) (by simp [lv_args, y_p_cat, y_ci, y_cj]) (fun z ad0 => ?_)
  unfold f_X12_outOf at hf
  refine y_aload_n (x := p0) (pc2 := 1) rfl dX12_outOf_0 rfl ?_
  obtain ⟨g6, hf⟩ := y_g hf
  refine y_getI (pc2 := 4) rfl dX12_outOf_1 F_BoxYardModel_450 (by decide) rfl g6 ?_
  refine y_istore_n (lv' := [(3, .int (y_I h p0 68)), (0, y_p p0), (1, .long p1)]) (pc2 := 5) rfl dX12_outOf_4 (by decide) rfl ?_
  refine y_iconst (v := 0) (pc2 := 6) rfl dX12_outOf_5 (by decide) ?_
  refine y_jlE hf (fun j => ∀ (v1_8 : Int64) (v3_8 : Int32) (v4_8 : Int32) (h1 : y_H), j v1_8 v3_8 v4_8 h1 = some (rz, hz) → y_V l G z rm_X12_outOf M_X12_outOf ad0 h (some (.int rz)) hz 8 [(1, .long v1_8), (3, .int v3_8), (4, .int v4_8)] [] h1 0 0) (fun _ _ _ _ hf => by cases hf) (fun j8 hj8 v1_8 v3_8 v4_8 h1 hf => ?_) (fun j8 hj8 hf => ?_)
  · refine y_iload (pc2 := 10) rfl dX12_outOf_8 rfl ?_
    refine y_iconst (v := 4) (pc2 := 11) rfl dX12_outOf_10 (by decide) ?_
    refine y_icmp_ge (tgt := 29) (pc2 := 14) rfl dX12_outOf_11 (by decide) (fun c5 => ?_) (fun c5 => ?_)
    · replace hf := y_it c5 hf
      refine y_iload_n (pc2 := 30) rfl dX12_outOf_29 rfl ?_
      exact y_iretF hf dX12_outOf_30 rfl (by decide) (by decide)
    · replace hf := y_ie c5 hf
      refine y_iload_n (pc2 := 15) rfl dX12_outOf_14 rfl ?_
      refine y_lload_n (pc2 := 16) rfl dX12_outOf_15 rfl ?_
      refine y_iload (pc2 := 18) rfl dX12_outOf_16 rfl ?_
      obtain ⟨r2, h3, c4, hf⟩ := y_clE hf
      refine y_callS (As := [.long v1_8, .int v4_8]) (rm := rm_X12_tallOf) (cells := 0) (slots := 0) (pc2 := 21) rfl dX12_outOf_18 n_X12_tallOf l_BoxYardModel_453 t_X12_tallOf rfl rfl (by decide) (by simp [y_ci, y_cj, y_p_cat]) (by decide) (k_X12_tallOf c4) ?_
      refine y_isub (pc2 := 22) rfl dX12_outOf_21 ?_
      refine y_istore_n (lv' := [(3, .int (v3_8 - r2)), (1, .long v1_8), (4, .int v4_8)]) (pc2 := 23) rfl dX12_outOf_22 (by decide) rfl ?_
      refine y_iinc (v := v4_8 + 1) (lv' := [(4, .int (v4_8 + 1)), (3, .int (v3_8 - r2)), (1, .long v1_8)]) (pc2 := 26) rfl dX12_outOf_23 rfl rfl (by decide) rfl ?_
      refine y_goto (tgt := 8) dX12_outOf_26 (by decide) ?_
      exact y_pk [2, 1, 0] rfl (hj8 _ _ _ _ hf)
  · refine y_istore (lv' := [(4, .int 0), (3, .int (y_I h p0 68)), (0, y_p p0), (1, .long p1)]) (pc2 := 8) rfl dX12_outOf_6 (by decide) rfl ?_
    exact y_pk [3, 1, 0] rfl (hj8 _ _ _ _ hf)
theorem dX12_lifted_0 : decode cX12_lifted 0 = .ok (.aload_n 0, 1) := by decide +kernel
theorem dX12_lifted_1 : decode cX12_lifted 1 = .ok (.getfield 157, 3) := by decide +kernel
theorem dX12_lifted_4 : decode cX12_lifted 4 = .ok (.iload_n 2, 1) := by decide +kernel
theorem dX12_lifted_5 : decode cX12_lifted 5 = .ok (.laload, 1) := by decide +kernel
theorem dX12_lifted_6 : decode cX12_lifted 6 = .ok (.lstore_n 3, 1) := by decide +kernel
theorem dX12_lifted_7 : decode cX12_lifted 7 = .ok (.aload_n 0, 1) := by decide +kernel
theorem dX12_lifted_8 : decode cX12_lifted 8 = .ok (.lload_n 3, 1) := by decide +kernel
theorem dX12_lifted_9 : decode cX12_lifted 9 = .ok (.invokevirtual 457, 3) := by decide +kernel
theorem dX12_lifted_12 : decode cX12_lifted 12 = .ok (.istore 5, 2) := by decide +kernel
theorem dX12_lifted_14 : decode cX12_lifted 14 = .ok (.iconst 0, 1) := by decide +kernel
theorem dX12_lifted_15 : decode cX12_lifted 15 = .ok (.istore 6, 2) := by decide +kernel
theorem dX12_lifted_17 : decode cX12_lifted 17 = .ok (.iload 6, 2) := by decide +kernel
theorem dX12_lifted_19 : decode cX12_lifted 19 = .ok (.aload_n 0, 1) := by decide +kernel
theorem dX12_lifted_20 : decode cX12_lifted 20 = .ok (.getfield 62, 3) := by decide +kernel
theorem dX12_lifted_23 : decode cX12_lifted 23 = .ok (.iload_n 1, 1) := by decide +kernel
theorem dX12_lifted_24 : decode cX12_lifted 24 = .ok (.iaload, 1) := by decide +kernel
theorem dX12_lifted_25 : decode cX12_lifted 25 = .ok (.if_icmp .ge 181, 3) := by decide +kernel
theorem dX12_lifted_28 : decode cX12_lifted 28 = .ok (.lload_n 3, 1) := by decide +kernel
theorem dX12_lifted_29 : decode cX12_lifted 29 = .ok (.iload 6, 2) := by decide +kernel
theorem dX12_lifted_31 : decode cX12_lifted 31 = .ok (.invokestatic 453, 3) := by decide +kernel
theorem dX12_lifted_34 : decode cX12_lifted 34 = .ok (.istore 7, 2) := by decide +kernel
theorem dX12_lifted_36 : decode cX12_lifted 36 = .ok (.iload 7, 2) := by decide +kernel
theorem dX12_lifted_38 : decode cX12_lifted 38 = .ok (.ifCond .le 162, 3) := by decide +kernel
theorem dX12_lifted_41 : decode cX12_lifted 41 = .ok (.lload_n 3, 1) := by decide +kernel
theorem dX12_lifted_42 : decode cX12_lifted 42 = .ok (.iload 6, 2) := by decide +kernel
theorem dX12_lifted_44 : decode cX12_lifted 44 = .ok (.iload 7, 2) := by decide +kernel
theorem dX12_lifted_46 : decode cX12_lifted 46 = .ok (.invokestatic 460, 3) := by decide +kernel
theorem dX12_lifted_49 : decode cX12_lifted 49 = .ok (.istore 8, 2) := by decide +kernel
theorem dX12_lifted_51 : decode cX12_lifted 51 = .ok (.lload_n 3, 1) := by decide +kernel
theorem dX12_lifted_52 : decode cX12_lifted 52 = .ok (.ldc2_w 438, 3) := by decide +kernel
theorem dX12_lifted_55 : decode cX12_lifted 55 = .ok (.bipush 15, 2) := by decide +kernel
theorem dX12_lifted_57 : decode cX12_lifted 57 = .ok (.iload 6, 2) := by decide +kernel
theorem dX12_lifted_59 : decode cX12_lifted 59 = .ok (.imul, 1) := by decide +kernel
theorem dX12_lifted_60 : decode cX12_lifted 60 = .ok (.iconst 3, 1) := by decide +kernel
theorem dX12_lifted_61 : decode cX12_lifted 61 = .ok (.iload 7, 2) := by decide +kernel
theorem dX12_lifted_63 : decode cX12_lifted 63 = .ok (.iconst 1, 1) := by decide +kernel
theorem dX12_lifted_64 : decode cX12_lifted 64 = .ok (.isub, 1) := by decide +kernel
theorem dX12_lifted_65 : decode cX12_lifted 65 = .ok (.imul, 1) := by decide +kernel
theorem dX12_lifted_66 : decode cX12_lifted 66 = .ok (.iadd, 1) := by decide +kernel
theorem dX12_lifted_67 : decode cX12_lifted 67 = .ok (.lshl, 1) := by decide +kernel
theorem dX12_lifted_68 : decode cX12_lifted 68 = .ok (.ldc2_w 464, 3) := by decide +kernel
theorem dX12_lifted_71 : decode cX12_lifted 71 = .ok (.lxor, 1) := by decide +kernel
theorem dX12_lifted_72 : decode cX12_lifted 72 = .ok (.land, 1) := by decide +kernel
theorem dX12_lifted_73 : decode cX12_lifted 73 = .ok (.lstore 9, 2) := by decide +kernel
theorem dX12_lifted_75 : decode cX12_lifted 75 = .ok (.iload 5, 2) := by decide +kernel
theorem dX12_lifted_77 : decode cX12_lifted 77 = .ok (.aload_n 0, 1) := by decide +kernel
theorem dX12_lifted_78 : decode cX12_lifted 78 = .ok (.getfield 258, 3) := by decide +kernel
theorem dX12_lifted_81 : decode cX12_lifted 81 = .ok (.if_icmp .ge 37, 3) := by decide +kernel
theorem dX12_lifted_84 : decode cX12_lifted 84 = .ok (.aload_n 0, 1) := by decide +kernel
theorem dX12_lifted_85 : decode cX12_lifted 85 = .ok (.getfield 171, 3) := by decide +kernel
theorem dX12_lifted_88 : decode cX12_lifted 88 = .ok (.iload 8, 2) := by decide +kernel
theorem dX12_lifted_90 : decode cX12_lifted 90 = .ok (.iconst 1, 1) := by decide +kernel
theorem dX12_lifted_91 : decode cX12_lifted 91 = .ok (.isub, 1) := by decide +kernel
theorem dX12_lifted_92 : decode cX12_lifted 92 = .ok (.iaload, 1) := by decide +kernel
theorem dX12_lifted_93 : decode cX12_lifted 93 = .ok (.aload_n 0, 1) := by decide +kernel
theorem dX12_lifted_94 : decode cX12_lifted 94 = .ok (.getfield 144, 3) := by decide +kernel
theorem dX12_lifted_97 : decode cX12_lifted 97 = .ok (.iload 5, 2) := by decide +kernel
theorem dX12_lifted_99 : decode cX12_lifted 99 = .ok (.iaload, 1) := by decide +kernel
theorem dX12_lifted_100 : decode cX12_lifted 100 = .ok (.if_icmp .ne 18, 3) := by decide +kernel
theorem dX12_lifted_103 : decode cX12_lifted 103 = .ok (.aload_n 0, 1) := by decide +kernel
theorem dX12_lifted_104 : decode cX12_lifted 104 = .ok (.lload 9, 2) := by decide +kernel
theorem dX12_lifted_106 : decode cX12_lifted 106 = .ok (.iload_n 2, 1) := by decide +kernel
theorem dX12_lifted_107 : decode cX12_lifted 107 = .ok (.bipush 8, 2) := by decide +kernel
theorem dX12_lifted_109 : decode cX12_lifted 109 = .ok (.iload 6, 2) := by decide +kernel
theorem dX12_lifted_111 : decode cX12_lifted 111 = .ok (.imul, 1) := by decide +kernel
theorem dX12_lifted_112 : decode cX12_lifted 112 = .ok (.bipush 7, 2) := by decide +kernel
theorem dX12_lifted_114 : decode cX12_lifted 114 = .ok (.iadd, 1) := by decide +kernel
theorem dX12_lifted_115 : decode cX12_lifted 115 = .ok (.invokevirtual 466, 3) := by decide +kernel
theorem dX12_lifted_118 : decode cX12_lifted 118 = .ok (.iconst 0, 1) := by decide +kernel
theorem dX12_lifted_119 : decode cX12_lifted 119 = .ok (.istore 11, 2) := by decide +kernel
theorem dX12_lifted_121 : decode cX12_lifted 121 = .ok (.iload 11, 2) := by decide +kernel
theorem dX12_lifted_123 : decode cX12_lifted 123 = .ok (.aload_n 0, 1) := by decide +kernel
theorem dX12_lifted_124 : decode cX12_lifted 124 = .ok (.getfield 62, 3) := by decide +kernel
theorem dX12_lifted_127 : decode cX12_lifted 127 = .ok (.iload_n 1, 1) := by decide +kernel
theorem dX12_lifted_128 : decode cX12_lifted 128 = .ok (.iaload, 1) := by decide +kernel
theorem dX12_lifted_129 : decode cX12_lifted 129 = .ok (.if_icmp .ge 71, 3) := by decide +kernel
theorem dX12_lifted_132 : decode cX12_lifted 132 = .ok (.lload_n 3, 1) := by decide +kernel
theorem dX12_lifted_133 : decode cX12_lifted 133 = .ok (.iload 11, 2) := by decide +kernel
theorem dX12_lifted_135 : decode cX12_lifted 135 = .ok (.invokestatic 453, 3) := by decide +kernel
theorem dX12_lifted_138 : decode cX12_lifted 138 = .ok (.istore 12, 2) := by decide +kernel
theorem dX12_lifted_140 : decode cX12_lifted 140 = .ok (.iload 11, 2) := by decide +kernel
theorem dX12_lifted_142 : decode cX12_lifted 142 = .ok (.iload 6, 2) := by decide +kernel
theorem dX12_lifted_144 : decode cX12_lifted 144 = .ok (.if_icmp .eq 50, 3) := by decide +kernel
theorem dX12_lifted_147 : decode cX12_lifted 147 = .ok (.iload 12, 2) := by decide +kernel
theorem dX12_lifted_149 : decode cX12_lifted 149 = .ok (.aload_n 0, 1) := by decide +kernel
theorem dX12_lifted_150 : decode cX12_lifted 150 = .ok (.getfield 65, 3) := by decide +kernel
theorem dX12_lifted_153 : decode cX12_lifted 153 = .ok (.bipush 6, 2) := by decide +kernel
theorem dX12_lifted_155 : decode cX12_lifted 155 = .ok (.iload_n 1, 1) := by decide +kernel
theorem dX12_lifted_156 : decode cX12_lifted 156 = .ok (.imul, 1) := by decide +kernel
theorem dX12_lifted_157 : decode cX12_lifted 157 = .ok (.iload 11, 2) := by decide +kernel
theorem dX12_lifted_159 : decode cX12_lifted 159 = .ok (.iadd, 1) := by decide +kernel
theorem dX12_lifted_160 : decode cX12_lifted 160 = .ok (.iaload, 1) := by decide +kernel
theorem dX12_lifted_161 : decode cX12_lifted 161 = .ok (.if_icmp .ge 33, 3) := by decide +kernel
theorem dX12_lifted_164 : decode cX12_lifted 164 = .ok (.aload_n 0, 1) := by decide +kernel
theorem dX12_lifted_165 : decode cX12_lifted 165 = .ok (.lload 9, 2) := by decide +kernel
theorem dX12_lifted_167 : decode cX12_lifted 167 = .ok (.iload 8, 2) := by decide +kernel
theorem dX12_lifted_169 : decode cX12_lifted 169 = .ok (.i2l, 1) := by decide +kernel
theorem dX12_lifted_170 : decode cX12_lifted 170 = .ok (.bipush 15, 2) := by decide +kernel
theorem dX12_lifted_172 : decode cX12_lifted 172 = .ok (.iload 11, 2) := by decide +kernel
theorem dX12_lifted_174 : decode cX12_lifted 174 = .ok (.imul, 1) := by decide +kernel
theorem dX12_lifted_175 : decode cX12_lifted 175 = .ok (.iconst 3, 1) := by decide +kernel
theorem dX12_lifted_176 : decode cX12_lifted 176 = .ok (.iload 12, 2) := by decide +kernel
theorem dX12_lifted_178 : decode cX12_lifted 178 = .ok (.imul, 1) := by decide +kernel
theorem dX12_lifted_179 : decode cX12_lifted 179 = .ok (.iadd, 1) := by decide +kernel
theorem dX12_lifted_180 : decode cX12_lifted 180 = .ok (.lshl, 1) := by decide +kernel
theorem dX12_lifted_181 : decode cX12_lifted 181 = .ok (.lor, 1) := by decide +kernel
theorem dX12_lifted_182 : decode cX12_lifted 182 = .ok (.iload_n 2, 1) := by decide +kernel
theorem dX12_lifted_183 : decode cX12_lifted 183 = .ok (.bipush 8, 2) := by decide +kernel
theorem dX12_lifted_185 : decode cX12_lifted 185 = .ok (.iload 6, 2) := by decide +kernel
theorem dX12_lifted_187 : decode cX12_lifted 187 = .ok (.imul, 1) := by decide +kernel
theorem dX12_lifted_188 : decode cX12_lifted 188 = .ok (.iload 11, 2) := by decide +kernel
theorem dX12_lifted_190 : decode cX12_lifted 190 = .ok (.iadd, 1) := by decide +kernel
theorem dX12_lifted_191 : decode cX12_lifted 191 = .ok (.invokevirtual 466, 3) := by decide +kernel
theorem dX12_lifted_194 : decode cX12_lifted 194 = .ok (.iinc 11 1, 3) := by decide +kernel
theorem dX12_lifted_197 : decode cX12_lifted 197 = .ok (.goto (-76), 3) := by decide +kernel
theorem dX12_lifted_200 : decode cX12_lifted 200 = .ok (.iinc 6 1, 3) := by decide +kernel
theorem dX12_lifted_203 : decode cX12_lifted 203 = .ok (.goto (-186), 3) := by decide +kernel
theorem dX12_lifted_206 : decode cX12_lifted 206 = .ok (.return_, 1) := by decide +kernel
def M_X12_lifted : y_M := (yX12_lifted, cX12_lifted, 13, (Option.none : Option Jvm.ClassFile.FieldType))
theorem n_X12_lifted : y_N0 M_X12_lifted 2 := ⟨(c_10 26 (by decide +kernel) rfl), (c_1 9 (by decide +kernel) rfl), ⟨by decide +kernel, by decide +kernel⟩, by decide +kernel⟩
theorem l_BoxYardModel_457 : y_lnk "BoxYardModel" 457 M_X12_outOf := Or.inl (c_10 15 (by decide +kernel) rfl)
theorem i_X12_outOf : Cond.instanceMethod (M_X12_outOf).1 ∈ y_tb := (c_10 17 (by decide +kernel) rfl)
theorem e_X12_outOf : Cond.selects (M_X12_outOf).1.cls (M_X12_outOf).1 (M_X12_outOf).1 ∈ y_tb := (m_s 103 (by decide +kernel) rfl)
theorem l_BoxYardModel_460 : y_lnk "BoxYardModel" 460 M_X12_topOf := Or.inl (c_10 27 (by decide +kernel) rfl)
theorem t_X12_topOf : Cond.static (M_X12_topOf).1 ∈ y_tb := (c_10 28 (by decide +kernel) rfl)
theorem k_BoxYardModel_464 : Cond.constantLong "BoxYardModel" 464 (-1) ∈ y_tb := (c_10 30 (by decide +kernel) rfl)
theorem l_BoxYardModel_466 : y_lnk "BoxYardModel" 466 M_X12_come := Or.inl (c_10 5 (by decide +kernel) rfl)
theorem i_X12_come : Cond.instanceMethod (M_X12_come).1 ∈ y_tb := (c_10 7 (by decide +kernel) rfl)
theorem e_X12_come : Cond.selects (M_X12_come).1.cls (M_X12_come).1 (M_X12_come).1 ∈ y_tb := (m_s 101 (by decide +kernel) rfl)
theorem F_BoxYardModel_171 : y_F "BoxYardModel" 171 12 67 := ⟨_, _, _, rfl, by decide, Or.inl (c_7 189 (by decide +kernel) rfl)⟩
set_option maxRecDepth 100000 in
def f_X12_lifted (p0 : Nat) (p1 : Int32) (p2 : Int32) (h : y_H) : Option (Unit × y_H) :=
  if y_K h p0 = 13 then
  if y_K h (y_P h p0 62) = 101 ∧ y_ix p2 (y_N h (y_P h p0 62)) = true then
  if y_K h p0 = 13 then
  y_cl (f_X12_outOf p0 (y_L h (y_P h p0 62) (Int32.toNatClampNeg p2)) h) (fun r1 h2 =>
  y_jl (fun (_ : Nat) (_ : Int32) (_ : Int32) (_ : Int64) (_ : Int32) (_ : Int32) (_ : y_H) => (none : Option (Unit × y_H))) (fun j17 (v0_17 : Nat) (v1_17 : Int32) (v2_17 : Int32) (v3_17 : Int64) (v5_17 : Int32) (v6_17 : Int32) (h4 : y_H) =>
      if y_K h4 v0_17 = 13 then
      if y_K h4 (y_P h4 v0_17 19) = 100 ∧ y_ix v1_17 (y_N h4 (y_P h4 v0_17 19)) = true then
      if (y_I h4 (y_P h4 v0_17 19) (Int32.toNatClampNeg v1_17)) ≤ v6_17 then
        some ((), h4)
      else
        y_cl (f_X12_tallOf v3_17 v6_17 h4) (fun r5 h6 =>
        y_jn (fun (v0_200 : Nat) (v1_200 : Int32) (v2_200 : Int32) (v3_200 : Int64) (v5_200 : Int32) (v6_200 : Int32) (h8 : y_H) => (
            j17 v0_200 v1_200 v2_200 v3_200 v5_200 (v6_200 + 1) h8 : Option (Unit × y_H))) (fun j200 =>
        if r5 ≤ 0 then
          j200 v0_17 v1_17 v2_17 v3_17 v5_17 v6_17 h6
        else
          y_cl (f_X12_topOf v3_17 v6_17 r5 h6) (fun r9 h10 =>
          if y_K h10 v0_17 = 13 then
          y_jn (fun (v0_118 : Nat) (v1_118 : Int32) (v2_118 : Int32) (v3_118 : Int64) (v5_118 : Int32) (v6_118 : Int32) (v8_118 : Int32) (v9_118 : Int64) (h12 : y_H) => (
              y_jl (fun (_ : Nat) (_ : Int32) (_ : Int32) (_ : Int64) (_ : Int32) (_ : Int32) (_ : Int32) (_ : Int64) (_ : Int32) (_ : y_H) => (none : Option (Unit × y_H))) (fun j121 (v0_121 : Nat) (v1_121 : Int32) (v2_121 : Int32) (v3_121 : Int64) (v5_121 : Int32) (v6_121 : Int32) (v8_121 : Int32) (v9_121 : Int64) (v11_121 : Int32) (h13 : y_H) =>
                  if y_K h13 v0_121 = 13 then
                  if y_K h13 (y_P h13 v0_121 19) = 100 ∧ y_ix v1_121 (y_N h13 (y_P h13 v0_121 19)) = true then
                  if (y_I h13 (y_P h13 v0_121 19) (Int32.toNatClampNeg v1_121)) ≤ v11_121 then
                    j200 v0_121 v1_121 v2_121 v3_121 v5_121 v6_121 h13
                  else
                    y_cl (f_X12_tallOf v3_121 v11_121 h13) (fun r14 h15 =>
                    y_jn (fun (v0_194 : Nat) (v1_194 : Int32) (v2_194 : Int32) (v3_194 : Int64) (v5_194 : Int32) (v6_194 : Int32) (v8_194 : Int32) (v9_194 : Int64) (v11_194 : Int32) (h17 : y_H) => (
                        j121 v0_194 v1_194 v2_194 v3_194 v5_194 v6_194 v8_194 v9_194 (v11_194 + 1) h17 : Option (Unit × y_H))) (fun j194 =>
                    if v11_121 = v6_121 then
                      j194 v0_121 v1_121 v2_121 v3_121 v5_121 v6_121 v8_121 v9_121 v11_121 h15
                    else
                      if y_K h15 v0_121 = 13 then
                      if y_K h15 (y_P h15 v0_121 20) = 100 ∧ y_ix ((6 * v1_121) + v11_121) (y_N h15 (y_P h15 v0_121 20)) = true then
                      if (y_I h15 (y_P h15 v0_121 20) (Int32.toNatClampNeg ((6 * v1_121) + v11_121))) ≤ r14 then
                        j194 v0_121 v1_121 v2_121 v3_121 v5_121 v6_121 v8_121 v9_121 v11_121 h15
                      else
                        if y_K h15 v0_121 = 13 then
                        y_cl (f_X12_come v0_121 (v9_121 ||| ((Int32.toInt64 v8_121) <<< (Int32.toInt64 ((15 * v11_121) + (3 * r14)) &&& 63))) v2_121 ((8 * v6_121) + v11_121) h15) (fun _ h18 =>
                        j194 v0_121 v1_121 v2_121 v3_121 v5_121 v6_121 v8_121 v9_121 v11_121 h18)
                        else none
                      else none
                      else none))
                  else none
                  else none) (fun j121 =>
              j121 v0_118 v1_118 v2_118 v3_118 v5_118 v6_118 v8_118 v9_118 0 h12) : Option (Unit × y_H))) (fun j118 =>
          if (y_I h10 v0_17 55) ≤ v5_17 then
            j118 v0_17 v1_17 v2_17 v3_17 v5_17 v6_17 r9 (v3_17 &&& ((7 <<< (Int32.toInt64 ((15 * v6_17) + (3 * (r5 - 1))) &&& 63)) ^^^ (-1 : Int64))) h10
          else
            if y_K h10 v0_17 = 13 then
            if y_K h10 (y_P h10 v0_17 67) = 100 ∧ y_ix (r9 - 1) (y_N h10 (y_P h10 v0_17 67)) = true then
            if y_K h10 v0_17 = 13 then
            if y_K h10 (y_P h10 v0_17 56) = 100 ∧ y_ix v5_17 (y_N h10 (y_P h10 v0_17 56)) = true then
            if (y_I h10 (y_P h10 v0_17 67) (Int32.toNatClampNeg (r9 - 1))) = (y_I h10 (y_P h10 v0_17 56) (Int32.toNatClampNeg v5_17)) then
              if y_K h10 v0_17 = 13 then
              y_cl (f_X12_come v0_17 (v3_17 &&& ((7 <<< (Int32.toInt64 ((15 * v6_17) + (3 * (r5 - 1))) &&& 63)) ^^^ (-1 : Int64))) v2_17 ((8 * v6_17) + 7) h10) (fun _ h28 =>
              j118 v0_17 v1_17 v2_17 v3_17 v5_17 v6_17 r9 (v3_17 &&& ((7 <<< (Int32.toInt64 ((15 * v6_17) + (3 * (r5 - 1))) &&& 63)) ^^^ (-1 : Int64))) h28)
              else none
            else
              j118 v0_17 v1_17 v2_17 v3_17 v5_17 v6_17 r9 (v3_17 &&& ((7 <<< (Int32.toInt64 ((15 * v6_17) + (3 * (r5 - 1))) &&& 63)) ^^^ (-1 : Int64))) h10
            else none
            else none
            else none
            else none)
          else none)))
      else none
      else none) (fun j17 =>
  j17 p0 p1 p2 (y_L h (y_P h p0 62) (Int32.toNatClampNeg p2)) r1 0 h2))
  else none
  else none
  else none
abbrev rm_X12_lifted : Room := { frames := 2, cells := 0, slots := 0, locals := 50 }
set_option maxRecDepth 100000 in
set_option maxHeartbeats 4000000 in
theorem k_X12_lifted {l : Launch} {G : y_G} {p0 : Nat} {p1 : Int32} {p2 : Int32} {h hz : y_H} {rz : Unit} (hf : f_X12_lifted p0 p1 p2 h = some (rz, hz)) : y_S l G M_X12_lifted rm_X12_lifted [y_p p0, .int p1, .int p2] h none hz := by
  refine y_start (lv := [(0, y_p p0), (1, .int p1), (2, .int p2)]) (by decide) (by simp [lg_sl, y_p_cat, y_ci, y_cj, M_X12_lifted]) (by simp [lv_args, y_p_cat, y_ci, y_cj]) (fun z ad0 => ?_)
  unfold f_X12_lifted at hf
  refine y_aload_n (x := p0) (pc2 := 1) rfl dX12_lifted_0 rfl ?_
  obtain ⟨g44, hf⟩ := y_g hf
  refine y_getP (pc2 := 4) rfl dX12_lifted_1 F_BoxYardModel_157 (by decide) rfl g44 ?_
  refine y_iload_n (pc2 := 5) rfl dX12_lifted_4 rfl ?_
  obtain ⟨g43, hf⟩ := y_g hf
  refine y_lald (pc2 := 6) rfl dX12_lifted_5 g43.1 (y_ix_in g43.2) ?_
  refine y_lstore_n (lv' := [(3, .long (y_L h (y_P h p0 62) (Int32.toNatClampNeg p2))), (0, y_p p0), (1, .int p1), (2, .int p2)]) (pc2 := 7) rfl dX12_lifted_6 (by decide) rfl ?_
  refine y_aload_n (x := p0) (pc2 := 8) rfl dX12_lifted_7 rfl ?_
  refine y_lload_n (pc2 := 9) rfl dX12_lifted_8 rfl ?_
  obtain ⟨g42, hf⟩ := y_g hf
  obtain ⟨r1, h2, c3, hf⟩ := y_clE hf
  refine y_callV (As := [.long (y_L h (y_P h p0 62) (Int32.toNatClampNeg p2))]) (rm := rm_X12_outOf) (cells := 0) (slots := 0) (pc2 := 12) rfl dX12_lifted_9 n_X12_outOf l_BoxYardModel_457 i_X12_outOf e_X12_outOf (ci := 12) rfl rfl (by decide) g42 rfl rfl (by decide) (by decide) (by decide) (k_X12_outOf c3) ?_
  refine y_istore (lv' := [(5, .int r1), (3, .long (y_L h (y_P h p0 62) (Int32.toNatClampNeg p2))), (0, y_p p0), (1, .int p1), (2, .int p2)]) (pc2 := 14) rfl dX12_lifted_12 (by decide) rfl ?_
  refine y_iconst (v := 0) (pc2 := 15) rfl dX12_lifted_14 (by decide) ?_
  refine y_jlE hf (fun j => ∀ (v0_17 : Nat) (v1_17 : Int32) (v2_17 : Int32) (v3_17 : Int64) (v5_17 : Int32) (v6_17 : Int32) (h4 : y_H), j v0_17 v1_17 v2_17 v3_17 v5_17 v6_17 h4 = some (rz, hz) → y_V l G z rm_X12_lifted M_X12_lifted ad0 h none hz 17 [(0, y_p v0_17), (1, .int v1_17), (2, .int v2_17), (3, .long v3_17), (5, .int v5_17), (6, .int v6_17)] [] h4 0 0) (fun _ _ _ _ _ _ _ hf => by cases hf) (fun j17 hj17 v0_17 v1_17 v2_17 v3_17 v5_17 v6_17 h4 hf => ?_) (fun j17 hj17 hf => ?_)
  · refine y_iload (pc2 := 19) rfl dX12_lifted_17 rfl ?_
    refine y_aload_n (x := v0_17) (pc2 := 20) rfl dX12_lifted_19 rfl ?_
    obtain ⟨g41, hf⟩ := y_g hf
    refine y_getP (pc2 := 23) rfl dX12_lifted_20 F_BoxYardModel_62 (by decide) rfl g41 ?_
    refine y_iload_n (pc2 := 24) rfl dX12_lifted_23 rfl ?_
    obtain ⟨g40, hf⟩ := y_g hf
    refine y_iald (pc2 := 25) rfl dX12_lifted_24 g40.1 (y_ix_in g40.2) ?_
    refine y_icmp_ge (tgt := 206) (pc2 := 28) rfl dX12_lifted_25 (by decide) (fun c39 => ?_) (fun c39 => ?_)
    · replace hf := y_it c39 hf
      exact y_vretF hf dX12_lifted_206 rfl (by decide) (by decide)
    · replace hf := y_ie c39 hf
      refine y_lload_n (pc2 := 29) rfl dX12_lifted_28 rfl ?_
      refine y_iload (pc2 := 31) rfl dX12_lifted_29 rfl ?_
      obtain ⟨r5, h6, c7, hf⟩ := y_clE hf
      refine y_callS (As := [.long v3_17, .int v6_17]) (rm := rm_X12_tallOf) (cells := 0) (slots := 0) (pc2 := 34) rfl dX12_lifted_31 n_X12_tallOf l_BoxYardModel_453 t_X12_tallOf rfl rfl (by decide) (by decide) (by decide) (k_X12_tallOf c7) ?_
      refine y_istore (lv' := [(7, .int r5), (0, y_p v0_17), (1, .int v1_17), (2, .int v2_17), (3, .long v3_17), (5, .int v5_17), (6, .int v6_17)]) (pc2 := 36) rfl dX12_lifted_34 (by decide) rfl ?_
      refine y_iload (pc2 := 38) rfl dX12_lifted_36 rfl ?_
      refine y_jnE hf (fun j => ∀ (v0_200 : Nat) (v1_200 : Int32) (v2_200 : Int32) (v3_200 : Int64) (v5_200 : Int32) (v6_200 : Int32) (h8 : y_H), j v0_200 v1_200 v2_200 v3_200 v5_200 v6_200 h8 = some (rz, hz) → y_V l G z rm_X12_lifted M_X12_lifted ad0 h none hz 200 [(0, y_p v0_200), (1, .int v1_200), (2, .int v2_200), (3, .long v3_200), (5, .int v5_200), (6, .int v6_200)] [] h8 0 0) (fun v0_200 v1_200 v2_200 v3_200 v5_200 v6_200 h8 hf => ?_) (fun j200 hj200 hf => ?_)
      · refine y_iinc (v := v6_200 + 1) (lv' := [(6, .int (v6_200 + 1)), (0, y_p v0_200), (1, .int v1_200), (2, .int v2_200), (3, .long v3_200), (5, .int v5_200)]) (pc2 := 203) rfl dX12_lifted_200 rfl rfl (by decide) rfl ?_
        refine y_goto (tgt := 17) dX12_lifted_203 (by decide) ?_
        exact y_pk [1, 2, 3, 4, 5, 0] rfl (hj17 _ _ _ _ _ _ _ hf)
      · refine y_if_le (tgt := 200) (pc2 := 41) rfl dX12_lifted_38 (by decide) (fun c38 => ?_) (fun c38 => ?_)
        · replace hf := y_it c38 hf
          exact y_pk [1, 2, 3, 4, 5, 6] rfl (hj200 _ _ _ _ _ _ _ hf)
        · replace hf := y_ie c38 hf
          refine y_lload_n (pc2 := 42) rfl dX12_lifted_41 rfl ?_
          refine y_iload (pc2 := 44) rfl dX12_lifted_42 rfl ?_
          refine y_iload (pc2 := 46) rfl dX12_lifted_44 rfl ?_
          obtain ⟨r9, h10, c11, hf⟩ := y_clE hf
          refine y_callS (As := [.long v3_17, .int v6_17, .int r5]) (rm := rm_X12_topOf) (cells := 0) (slots := 0) (pc2 := 49) rfl dX12_lifted_46 n_X12_topOf l_BoxYardModel_460 t_X12_topOf rfl rfl (by decide) (by decide) (by decide) (k_X12_topOf c11) ?_
          refine y_istore (lv' := [(8, .int r9), (7, .int r5), (0, y_p v0_17), (1, .int v1_17), (2, .int v2_17), (3, .long v3_17), (5, .int v5_17), (6, .int v6_17)]) (pc2 := 51) rfl dX12_lifted_49 (by decide) rfl ?_
          refine y_lload_n (pc2 := 52) rfl dX12_lifted_51 rfl ?_
          refine y_ldc2 (v := 7) (pc2 := 55) rfl dX12_lifted_52 k_BoxYardModel_438 ?_
          refine y_bipush (v := 15) (pc2 := 57) rfl dX12_lifted_55 (by decide) ?_
          refine y_iload (pc2 := 59) rfl dX12_lifted_57 rfl ?_
          refine y_imul (pc2 := 60) rfl dX12_lifted_59 ?_
          refine y_iconst (v := 3) (pc2 := 61) rfl dX12_lifted_60 (by decide) ?_
          refine y_iload (pc2 := 63) rfl dX12_lifted_61 rfl ?_
          refine y_iconst (v := 1) (pc2 := 64) rfl dX12_lifted_63 (by decide) ?_
          refine y_isub (pc2 := 65) rfl dX12_lifted_64 ?_
          refine y_imul (pc2 := 66) rfl dX12_lifted_65 ?_
          refine y_iadd (pc2 := 67) rfl dX12_lifted_66 ?_
          refine y_lshl (pc2 := 68) rfl dX12_lifted_67 ?_
          refine y_ldc2 (v := (-1 : Int64)) (pc2 := 71) rfl dX12_lifted_68 k_BoxYardModel_464 ?_
          refine y_lxor (pc2 := 72) rfl dX12_lifted_71 ?_
          refine y_land (pc2 := 73) rfl dX12_lifted_72 ?_
          refine y_lstore (lv' := [(9, .long (v3_17 &&& ((7 <<< (Int32.toInt64 ((15 * v6_17) + (3 * (r5 - 1))) &&& 63)) ^^^ (-1 : Int64)))), (8, .int r9), (7, .int r5), (0, y_p v0_17), (1, .int v1_17), (2, .int v2_17), (3, .long v3_17), (5, .int v5_17), (6, .int v6_17)]) (pc2 := 75) rfl dX12_lifted_73 (by decide) rfl ?_
          refine y_iload (pc2 := 77) rfl dX12_lifted_75 rfl ?_
          refine y_aload_n (x := v0_17) (pc2 := 78) rfl dX12_lifted_77 rfl ?_
          obtain ⟨g37, hf⟩ := y_g hf
          refine y_getI (pc2 := 81) rfl dX12_lifted_78 F_BoxYardModel_258 (by decide) rfl g37 ?_
          refine y_jnE hf (fun j => ∀ (v0_118 : Nat) (v1_118 : Int32) (v2_118 : Int32) (v3_118 : Int64) (v5_118 : Int32) (v6_118 : Int32) (v8_118 : Int32) (v9_118 : Int64) (h12 : y_H), j v0_118 v1_118 v2_118 v3_118 v5_118 v6_118 v8_118 v9_118 h12 = some (rz, hz) → y_V l G z rm_X12_lifted M_X12_lifted ad0 h none hz 118 [(0, y_p v0_118), (1, .int v1_118), (2, .int v2_118), (3, .long v3_118), (5, .int v5_118), (6, .int v6_118), (8, .int v8_118), (9, .long v9_118)] [] h12 0 0) (fun v0_118 v1_118 v2_118 v3_118 v5_118 v6_118 v8_118 v9_118 h12 hf => ?_) (fun j118 hj118 hf => ?_)
          · refine y_iconst (v := 0) (pc2 := 119) rfl dX12_lifted_118 (by decide) ?_
            refine y_jlE hf (fun j => ∀ (v0_121 : Nat) (v1_121 : Int32) (v2_121 : Int32) (v3_121 : Int64) (v5_121 : Int32) (v6_121 : Int32) (v8_121 : Int32) (v9_121 : Int64) (v11_121 : Int32) (h13 : y_H), j v0_121 v1_121 v2_121 v3_121 v5_121 v6_121 v8_121 v9_121 v11_121 h13 = some (rz, hz) → y_V l G z rm_X12_lifted M_X12_lifted ad0 h none hz 121 [(0, y_p v0_121), (1, .int v1_121), (2, .int v2_121), (3, .long v3_121), (5, .int v5_121), (6, .int v6_121), (8, .int v8_121), (9, .long v9_121), (11, .int v11_121)] [] h13 0 0) (fun _ _ _ _ _ _ _ _ _ _ hf => by cases hf) (fun j121 hj121 v0_121 v1_121 v2_121 v3_121 v5_121 v6_121 v8_121 v9_121 v11_121 h13 hf => ?_) (fun j121 hj121 hf => ?_)
            · refine y_iload (pc2 := 123) rfl dX12_lifted_121 rfl ?_
              refine y_aload_n (x := v0_121) (pc2 := 124) rfl dX12_lifted_123 rfl ?_
              obtain ⟨g27, hf⟩ := y_g hf
              refine y_getP (pc2 := 127) rfl dX12_lifted_124 F_BoxYardModel_62 (by decide) rfl g27 ?_
              refine y_iload_n (pc2 := 128) rfl dX12_lifted_127 rfl ?_
              obtain ⟨g26, hf⟩ := y_g hf
              refine y_iald (pc2 := 129) rfl dX12_lifted_128 g26.1 (y_ix_in g26.2) ?_
              refine y_icmp_ge (tgt := 200) (pc2 := 132) rfl dX12_lifted_129 (by decide) (fun c25 => ?_) (fun c25 => ?_)
              · replace hf := y_it c25 hf
                exact y_pk [0, 1, 2, 3, 4, 5] rfl (hj200 _ _ _ _ _ _ _ hf)
              · replace hf := y_ie c25 hf
                refine y_lload_n (pc2 := 133) rfl dX12_lifted_132 rfl ?_
                refine y_iload (pc2 := 135) rfl dX12_lifted_133 rfl ?_
                obtain ⟨r14, h15, c16, hf⟩ := y_clE hf
                refine y_callS (As := [.long v3_121, .int v11_121]) (rm := rm_X12_tallOf) (cells := 0) (slots := 0) (pc2 := 138) rfl dX12_lifted_135 n_X12_tallOf l_BoxYardModel_453 t_X12_tallOf rfl rfl (by decide) (by decide) (by decide) (k_X12_tallOf c16) ?_
                refine y_istore (lv' := [(12, .int r14), (0, y_p v0_121), (1, .int v1_121), (2, .int v2_121), (3, .long v3_121), (5, .int v5_121), (6, .int v6_121), (8, .int v8_121), (9, .long v9_121), (11, .int v11_121)]) (pc2 := 140) rfl dX12_lifted_138 (by decide) rfl ?_
                refine y_iload (pc2 := 142) rfl dX12_lifted_140 rfl ?_
                refine y_iload (pc2 := 144) rfl dX12_lifted_142 rfl ?_
                refine y_jnE hf (fun j => ∀ (v0_194 : Nat) (v1_194 : Int32) (v2_194 : Int32) (v3_194 : Int64) (v5_194 : Int32) (v6_194 : Int32) (v8_194 : Int32) (v9_194 : Int64) (v11_194 : Int32) (h17 : y_H), j v0_194 v1_194 v2_194 v3_194 v5_194 v6_194 v8_194 v9_194 v11_194 h17 = some (rz, hz) → y_V l G z rm_X12_lifted M_X12_lifted ad0 h none hz 194 [(0, y_p v0_194), (1, .int v1_194), (2, .int v2_194), (3, .long v3_194), (5, .int v5_194), (6, .int v6_194), (8, .int v8_194), (9, .long v9_194), (11, .int v11_194)] [] h17 0 0) (fun v0_194 v1_194 v2_194 v3_194 v5_194 v6_194 v8_194 v9_194 v11_194 h17 hf => ?_) (fun j194 hj194 hf => ?_)
                · refine y_iinc (v := v11_194 + 1) (lv' := [(11, .int (v11_194 + 1)), (0, y_p v0_194), (1, .int v1_194), (2, .int v2_194), (3, .long v3_194), (5, .int v5_194), (6, .int v6_194), (8, .int v8_194), (9, .long v9_194)]) (pc2 := 197) rfl dX12_lifted_194 rfl rfl (by decide) rfl ?_
                  refine y_goto (tgt := 121) dX12_lifted_197 (by decide) ?_
                  exact y_pk [1, 2, 3, 4, 5, 6, 7, 8, 0] rfl (hj121 _ _ _ _ _ _ _ _ _ _ hf)
                · refine y_icmp_eq (tgt := 194) (pc2 := 147) rfl dX12_lifted_144 (by decide) (fun c24 => ?_) (fun c24 => ?_)
                  · replace hf := y_it c24 hf
                    exact y_pk [1, 2, 3, 4, 5, 6, 7, 8, 9] rfl (hj194 _ _ _ _ _ _ _ _ _ _ hf)
                  · replace hf := y_ie c24 hf
                    refine y_iload (pc2 := 149) rfl dX12_lifted_147 rfl ?_
                    refine y_aload_n (x := v0_121) (pc2 := 150) rfl dX12_lifted_149 rfl ?_
                    obtain ⟨g23, hf⟩ := y_g hf
                    refine y_getP (pc2 := 153) rfl dX12_lifted_150 F_BoxYardModel_65 (by decide) rfl g23 ?_
                    refine y_bipush (v := 6) (pc2 := 155) rfl dX12_lifted_153 (by decide) ?_
                    refine y_iload_n (pc2 := 156) rfl dX12_lifted_155 rfl ?_
                    refine y_imul (pc2 := 157) rfl dX12_lifted_156 ?_
                    refine y_iload (pc2 := 159) rfl dX12_lifted_157 rfl ?_
                    refine y_iadd (pc2 := 160) rfl dX12_lifted_159 ?_
                    obtain ⟨g22, hf⟩ := y_g hf
                    refine y_iald (pc2 := 161) rfl dX12_lifted_160 g22.1 (y_ix_in g22.2) ?_
                    refine y_icmp_ge (tgt := 194) (pc2 := 164) rfl dX12_lifted_161 (by decide) (fun c21 => ?_) (fun c21 => ?_)
                    · replace hf := y_it c21 hf
                      exact y_pk [1, 2, 3, 4, 5, 6, 7, 8, 9] rfl (hj194 _ _ _ _ _ _ _ _ _ _ hf)
                    · replace hf := y_ie c21 hf
                      refine y_aload_n (x := v0_121) (pc2 := 165) rfl dX12_lifted_164 rfl ?_
                      refine y_lload (pc2 := 167) rfl dX12_lifted_165 rfl ?_
                      refine y_iload (pc2 := 169) rfl dX12_lifted_167 rfl ?_
                      refine y_i2l (pc2 := 170) rfl dX12_lifted_169 ?_
                      refine y_bipush (v := 15) (pc2 := 172) rfl dX12_lifted_170 (by decide) ?_
                      refine y_iload (pc2 := 174) rfl dX12_lifted_172 rfl ?_
                      refine y_imul (pc2 := 175) rfl dX12_lifted_174 ?_
                      refine y_iconst (v := 3) (pc2 := 176) rfl dX12_lifted_175 (by decide) ?_
                      refine y_iload (pc2 := 178) rfl dX12_lifted_176 rfl ?_
                      refine y_imul (pc2 := 179) rfl dX12_lifted_178 ?_
                      refine y_iadd (pc2 := 180) rfl dX12_lifted_179 ?_
                      refine y_lshl (pc2 := 181) rfl dX12_lifted_180 ?_
                      refine y_lor (pc2 := 182) rfl dX12_lifted_181 ?_
                      refine y_iload_n (pc2 := 183) rfl dX12_lifted_182 rfl ?_
                      refine y_bipush (v := 8) (pc2 := 185) rfl dX12_lifted_183 (by decide) ?_
                      refine y_iload (pc2 := 187) rfl dX12_lifted_185 rfl ?_
                      refine y_imul (pc2 := 188) rfl dX12_lifted_187 ?_
                      refine y_iload (pc2 := 190) rfl dX12_lifted_188 rfl ?_
                      refine y_iadd (pc2 := 191) rfl dX12_lifted_190 ?_
                      obtain ⟨g20, hf⟩ := y_g hf
                      obtain ⟨r_, h18, c19, hf⟩ := y_clE hf
                      refine y_callV (As := [.long (v9_121 ||| ((Int32.toInt64 v8_121) <<< (Int32.toInt64 ((15 * v11_121) + (3 * r14)) &&& 63))), .int v2_121, .int ((8 * v6_121) + v11_121)]) (rm := rm_X12_come) (cells := 0) (slots := 0) (pc2 := 194) rfl dX12_lifted_191 n_X12_come l_BoxYardModel_466 i_X12_come e_X12_come (ci := 12) rfl rfl (by decide) g20 rfl rfl (by decide) (by decide) (by decide) (k_X12_come c19) ?_
                      exact y_pk [1, 2, 3, 4, 5, 6, 7, 8, 9] rfl (hj194 _ _ _ _ _ _ _ _ _ _ hf)
            · refine y_istore (lv' := [(11, .int 0), (0, y_p v0_118), (1, .int v1_118), (2, .int v2_118), (3, .long v3_118), (5, .int v5_118), (6, .int v6_118), (8, .int v8_118), (9, .long v9_118)]) (pc2 := 121) rfl dX12_lifted_119 (by decide) rfl ?_
              exact y_pk [1, 2, 3, 4, 5, 6, 7, 8, 0] rfl (hj121 _ _ _ _ _ _ _ _ _ _ hf)
          · refine y_icmp_ge (tgt := 118) (pc2 := 84) rfl dX12_lifted_81 (by decide) (fun c36 => ?_) (fun c36 => ?_)
            · replace hf := y_it c36 hf
              exact y_pk [3, 4, 5, 6, 7, 8, 1, 0] rfl (hj118 _ _ _ _ _ _ _ _ _ hf)
            · replace hf := y_ie c36 hf
              refine y_aload_n (x := v0_17) (pc2 := 85) rfl dX12_lifted_84 rfl ?_
              obtain ⟨g35, hf⟩ := y_g hf
              refine y_getP (pc2 := 88) rfl dX12_lifted_85 F_BoxYardModel_171 (by decide) rfl g35 ?_
              refine y_iload (pc2 := 90) rfl dX12_lifted_88 rfl ?_
              refine y_iconst (v := 1) (pc2 := 91) rfl dX12_lifted_90 (by decide) ?_
              refine y_isub (pc2 := 92) rfl dX12_lifted_91 ?_
              obtain ⟨g34, hf⟩ := y_g hf
              refine y_iald (pc2 := 93) rfl dX12_lifted_92 g34.1 (y_ix_in g34.2) ?_
              refine y_aload_n (x := v0_17) (pc2 := 94) rfl dX12_lifted_93 rfl ?_
              obtain ⟨g33, hf⟩ := y_g hf
              refine y_getP (pc2 := 97) rfl dX12_lifted_94 F_BoxYardModel_144 (by decide) rfl g33 ?_
              refine y_iload (pc2 := 99) rfl dX12_lifted_97 rfl ?_
              obtain ⟨g32, hf⟩ := y_g hf
              refine y_iald (pc2 := 100) rfl dX12_lifted_99 g32.1 (y_ix_in g32.2) ?_
              refine y_icmp_ne (tgt := 118) (pc2 := 103) rfl dX12_lifted_100 (by decide) (fun c31 => ?_) (fun c31 => ?_)
              · replace hf := y_ie c31 hf
                exact y_pk [3, 4, 5, 6, 7, 8, 1, 0] rfl (hj118 _ _ _ _ _ _ _ _ _ hf)
              · replace hf := y_it c31 hf
                refine y_aload_n (x := v0_17) (pc2 := 104) rfl dX12_lifted_103 rfl ?_
                refine y_lload (pc2 := 106) rfl dX12_lifted_104 rfl ?_
                refine y_iload_n (pc2 := 107) rfl dX12_lifted_106 rfl ?_
                refine y_bipush (v := 8) (pc2 := 109) rfl dX12_lifted_107 (by decide) ?_
                refine y_iload (pc2 := 111) rfl dX12_lifted_109 rfl ?_
                refine y_imul (pc2 := 112) rfl dX12_lifted_111 ?_
                refine y_bipush (v := 7) (pc2 := 114) rfl dX12_lifted_112 (by decide) ?_
                refine y_iadd (pc2 := 115) rfl dX12_lifted_114 ?_
                obtain ⟨g30, hf⟩ := y_g hf
                obtain ⟨r_, h28, c29, hf⟩ := y_clE hf
                refine y_callV (As := [.long (v3_17 &&& ((7 <<< (Int32.toInt64 ((15 * v6_17) + (3 * (r5 - 1))) &&& 63)) ^^^ (-1 : Int64))), .int v2_17, .int ((8 * v6_17) + 7)]) (rm := rm_X12_come) (cells := 0) (slots := 0) (pc2 := 118) rfl dX12_lifted_115 n_X12_come l_BoxYardModel_466 i_X12_come e_X12_come (ci := 12) rfl rfl (by decide) g30 rfl rfl (by decide) (by decide) (by decide) (k_X12_come c29) ?_
                exact y_pk [3, 4, 5, 6, 7, 8, 1, 0] rfl (hj118 _ _ _ _ _ _ _ _ _ hf)
  · refine y_istore (lv' := [(6, .int 0), (5, .int r1), (3, .long (y_L h (y_P h p0 62) (Int32.toNatClampNeg p2))), (0, y_p p0), (1, .int p1), (2, .int p2)]) (pc2 := 17) rfl dX12_lifted_15 (by decide) rfl ?_
    exact y_pk [3, 4, 5, 2, 1, 0] rfl (hj17 _ _ _ _ _ _ _ hf)
theorem dX12_hasAll_0 : decode cX12_hasAll 0 = .ok (.iconst 1, 1) := by decide +kernel
theorem dX12_hasAll_1 : decode cX12_hasAll 1 = .ok (.istore_n 2, 1) := by decide +kernel
theorem dX12_hasAll_2 : decode cX12_hasAll 2 = .ok (.iconst 0, 1) := by decide +kernel
theorem dX12_hasAll_3 : decode cX12_hasAll 3 = .ok (.istore_n 3, 1) := by decide +kernel
theorem dX12_hasAll_4 : decode cX12_hasAll 4 = .ok (.iload_n 3, 1) := by decide +kernel
theorem dX12_hasAll_5 : decode cX12_hasAll 5 = .ok (.aload_n 0, 1) := by decide +kernel
theorem dX12_hasAll_6 : decode cX12_hasAll 6 = .ok (.getfield 258, 3) := by decide +kernel
theorem dX12_hasAll_9 : decode cX12_hasAll 9 = .ok (.if_icmp .ge 49, 3) := by decide +kernel
theorem dX12_hasAll_12 : decode cX12_hasAll 12 = .ok (.iload_n 2, 1) := by decide +kernel
theorem dX12_hasAll_13 : decode cX12_hasAll 13 = .ok (.ifCond .eq 37, 3) := by decide +kernel
theorem dX12_hasAll_16 : decode cX12_hasAll 16 = .ok (.aload_n 0, 1) := by decide +kernel
theorem dX12_hasAll_17 : decode cX12_hasAll 17 = .ok (.getfield 29, 3) := by decide +kernel
theorem dX12_hasAll_20 : decode cX12_hasAll 20 = .ok (.aload_n 0, 1) := by decide +kernel
theorem dX12_hasAll_21 : decode cX12_hasAll 21 = .ok (.getfield 144, 3) := by decide +kernel
theorem dX12_hasAll_24 : decode cX12_hasAll 24 = .ok (.iload_n 3, 1) := by decide +kernel
theorem dX12_hasAll_25 : decode cX12_hasAll 25 = .ok (.iaload, 1) := by decide +kernel
theorem dX12_hasAll_26 : decode cX12_hasAll 26 = .ok (.iaload, 1) := by decide +kernel
theorem dX12_hasAll_27 : decode cX12_hasAll 27 = .ok (.iconst 1, 1) := by decide +kernel
theorem dX12_hasAll_28 : decode cX12_hasAll 28 = .ok (.if_icmp .ne 22, 3) := by decide +kernel
theorem dX12_hasAll_31 : decode cX12_hasAll 31 = .ok (.aload_n 0, 1) := by decide +kernel
theorem dX12_hasAll_32 : decode cX12_hasAll 32 = .ok (.getfield 32, 3) := by decide +kernel
theorem dX12_hasAll_35 : decode cX12_hasAll 35 = .ok (.aload_n 0, 1) := by decide +kernel
theorem dX12_hasAll_36 : decode cX12_hasAll 36 = .ok (.getfield 144, 3) := by decide +kernel
theorem dX12_hasAll_39 : decode cX12_hasAll 39 = .ok (.iload_n 3, 1) := by decide +kernel
theorem dX12_hasAll_40 : decode cX12_hasAll 40 = .ok (.iaload, 1) := by decide +kernel
theorem dX12_hasAll_41 : decode cX12_hasAll 41 = .ok (.iaload, 1) := by decide +kernel
theorem dX12_hasAll_42 : decode cX12_hasAll 42 = .ok (.iload_n 1, 1) := by decide +kernel
theorem dX12_hasAll_43 : decode cX12_hasAll 43 = .ok (.if_icmp .ne 7, 3) := by decide +kernel
theorem dX12_hasAll_46 : decode cX12_hasAll 46 = .ok (.iconst 1, 1) := by decide +kernel
theorem dX12_hasAll_47 : decode cX12_hasAll 47 = .ok (.goto 4, 3) := by decide +kernel
theorem dX12_hasAll_50 : decode cX12_hasAll 50 = .ok (.iconst 0, 1) := by decide +kernel
theorem dX12_hasAll_51 : decode cX12_hasAll 51 = .ok (.istore_n 2, 1) := by decide +kernel
theorem dX12_hasAll_52 : decode cX12_hasAll 52 = .ok (.iinc 3 1, 3) := by decide +kernel
theorem dX12_hasAll_55 : decode cX12_hasAll 55 = .ok (.goto (-51), 3) := by decide +kernel
theorem dX12_hasAll_58 : decode cX12_hasAll 58 = .ok (.iload_n 2, 1) := by decide +kernel
theorem dX12_hasAll_59 : decode cX12_hasAll 59 = .ok (.ireturn, 1) := by decide +kernel
def M_X12_hasAll : y_M := (yX12_hasAll, cX12_hasAll, 4, (Option.some Jvm.ClassFile.FieldType.boolean))
theorem n_X12_hasAll : y_N0 M_X12_hasAll 1 := ⟨(c_10 4 (by decide +kernel) rfl), (c_1 9 (by decide +kernel) rfl), ⟨by decide +kernel, by decide +kernel⟩, by decide +kernel⟩
set_option maxRecDepth 100000 in
def f_X12_hasAll (p0 : Nat) (p1 : Int32) (h : y_H) : Option (Bool × y_H) :=
  y_jl (fun (_ : Nat) (_ : Int32) (_ : Int32) (_ : Int32) (_ : y_H) => (none : Option (Bool × y_H))) (fun j4 (v0_4 : Nat) (v1_4 : Int32) (v2_4 : Int32) (v3_4 : Int32) (h1 : y_H) =>
      if y_K h1 v0_4 = 13 then
      if (y_I h1 v0_4 55) ≤ v3_4 then
        if v2_4 = 0 then some (false, h1) else if v2_4 = 1 then some (true, h1) else none
      else
        y_jn (fun (v0_50 : Nat) (v1_50 : Int32) (v3_50 : Int32) (h2 : y_H) => (
            j4 v0_50 v1_50 0 (v3_50 + 1) h2 : Option (Bool × y_H))) (fun j50 =>
        if v2_4 = 0 then
          j50 v0_4 v1_4 v3_4 h1
        else
          if y_K h1 v0_4 = 13 then
          if y_K h1 v0_4 = 13 then
          if y_K h1 (y_P h1 v0_4 56) = 100 ∧ y_ix v3_4 (y_N h1 (y_P h1 v0_4 56)) = true then
          if y_K h1 (y_P h1 v0_4 7) = 100 ∧ y_ix (y_I h1 (y_P h1 v0_4 56) (Int32.toNatClampNeg v3_4)) (y_N h1 (y_P h1 v0_4 7)) = true then
          if (y_I h1 (y_P h1 v0_4 7) (Int32.toNatClampNeg (y_I h1 (y_P h1 v0_4 56) (Int32.toNatClampNeg v3_4)))) = 1 then
            if y_K h1 v0_4 = 13 then
            if y_K h1 v0_4 = 13 then
            if y_K h1 (y_P h1 v0_4 56) = 100 ∧ y_ix v3_4 (y_N h1 (y_P h1 v0_4 56)) = true then
            if y_K h1 (y_P h1 v0_4 8) = 100 ∧ y_ix (y_I h1 (y_P h1 v0_4 56) (Int32.toNatClampNeg v3_4)) (y_N h1 (y_P h1 v0_4 8)) = true then
            if (y_I h1 (y_P h1 v0_4 8) (Int32.toNatClampNeg (y_I h1 (y_P h1 v0_4 56) (Int32.toNatClampNeg v3_4)))) = v1_4 then
              j4 v0_4 v1_4 1 (v3_4 + 1) h1
            else
              j50 v0_4 v1_4 v3_4 h1
            else none
            else none
            else none
            else none
          else
            j50 v0_4 v1_4 v3_4 h1
          else none
          else none
          else none
          else none)
      else none) (fun j4 =>
  j4 p0 p1 1 0 h)
abbrev rm_X12_hasAll : Room := { frames := 0, cells := 0, slots := 0, locals := 0 }
set_option maxRecDepth 100000 in
set_option maxHeartbeats 4000000 in
theorem k_X12_hasAll {l : Launch} {G : y_G} {p0 : Nat} {p1 : Int32} {h hz : y_H} {rz : Bool} (hf : f_X12_hasAll p0 p1 h = some (rz, hz)) : y_S l G M_X12_hasAll rm_X12_hasAll [y_p p0, .int p1] h (some (.int (y_z rz))) hz := by
  refine y_start (lv := [(0, y_p p0), (1, .int p1)]) (by decide) (by simp [lg_sl, y_p_cat, y_ci, y_cj, M_X12_hasAll]) (by simp [lv_args, y_p_cat, y_ci, y_cj]) (fun z ad0 => ?_)
  unfold f_X12_hasAll at hf
  refine y_iconst (v := 1) (pc2 := 1) rfl dX12_hasAll_0 (by decide) ?_
  refine y_istore_n (lv' := [(2, .int 1), (0, y_p p0), (1, .int p1)]) (pc2 := 2) rfl dX12_hasAll_1 (by decide) rfl ?_
  refine y_iconst (v := 0) (pc2 := 3) rfl dX12_hasAll_2 (by decide) ?_
  refine y_jlE hf (fun j => ∀ (v0_4 : Nat) (v1_4 : Int32) (v2_4 : Int32) (v3_4 : Int32) (h1 : y_H), j v0_4 v1_4 v2_4 v3_4 h1 = some (rz, hz) → y_V l G z rm_X12_hasAll M_X12_hasAll ad0 h (some (.int (y_z rz))) hz 4 [(0, y_p v0_4), (1, .int v1_4), (2, .int v2_4), (3, .int v3_4)] [] h1 0 0) (fun _ _ _ _ _ hf => by cases hf) (fun j4 hj4 v0_4 v1_4 v2_4 v3_4 h1 hf => ?_) (fun j4 hj4 hf => ?_)
  · refine y_iload_n (pc2 := 5) rfl dX12_hasAll_4 rfl ?_
    refine y_aload_n (x := v0_4) (pc2 := 6) rfl dX12_hasAll_5 rfl ?_
    obtain ⟨g15, hf⟩ := y_g hf
    refine y_getI (pc2 := 9) rfl dX12_hasAll_6 F_BoxYardModel_258 (by decide) rfl g15 ?_
    refine y_icmp_ge (tgt := 58) (pc2 := 12) rfl dX12_hasAll_9 (by decide) (fun c14 => ?_) (fun c14 => ?_)
    · replace hf := y_it c14 hf
      refine y_iload_n (pc2 := 59) rfl dX12_hasAll_58 rfl ?_
      exact y_zretV hf dX12_hasAll_59 rfl (by decide) (by decide)
    · replace hf := y_ie c14 hf
      refine y_iload_n (pc2 := 13) rfl dX12_hasAll_12 rfl ?_
      refine y_jnE hf (fun j => ∀ (v0_50 : Nat) (v1_50 : Int32) (v3_50 : Int32) (h2 : y_H), j v0_50 v1_50 v3_50 h2 = some (rz, hz) → y_V l G z rm_X12_hasAll M_X12_hasAll ad0 h (some (.int (y_z rz))) hz 50 [(0, y_p v0_50), (1, .int v1_50), (3, .int v3_50)] [] h2 0 0) (fun v0_50 v1_50 v3_50 h2 hf => ?_) (fun j50 hj50 hf => ?_)
      · refine y_iconst (v := 0) (pc2 := 51) rfl dX12_hasAll_50 (by decide) ?_
        refine y_istore_n (lv' := [(2, .int 0), (0, y_p v0_50), (1, .int v1_50), (3, .int v3_50)]) (pc2 := 52) rfl dX12_hasAll_51 (by decide) rfl ?_
        refine y_iinc (v := v3_50 + 1) (lv' := [(3, .int (v3_50 + 1)), (2, .int 0), (0, y_p v0_50), (1, .int v1_50)]) (pc2 := 55) rfl dX12_hasAll_52 rfl rfl (by decide) rfl ?_
        refine y_goto (tgt := 4) dX12_hasAll_55 (by decide) ?_
        exact y_pk [2, 3, 1, 0] rfl (hj4 _ _ _ _ _ hf)
      · refine y_if_eq (tgt := 50) (pc2 := 16) rfl dX12_hasAll_13 (by decide) (fun c13 => ?_) (fun c13 => ?_)
        · replace hf := y_it c13 hf
          exact y_pk [0, 1, 3] rfl (hj50 _ _ _ _ hf)
        · replace hf := y_ie c13 hf
          refine y_aload_n (x := v0_4) (pc2 := 17) rfl dX12_hasAll_16 rfl ?_
          obtain ⟨g12, hf⟩ := y_g hf
          refine y_getP (pc2 := 20) rfl dX12_hasAll_17 F_BoxYardModel_29 (by decide) rfl g12 ?_
          refine y_aload_n (x := v0_4) (pc2 := 21) rfl dX12_hasAll_20 rfl ?_
          obtain ⟨g11, hf⟩ := y_g hf
          refine y_getP (pc2 := 24) rfl dX12_hasAll_21 F_BoxYardModel_144 (by decide) rfl g11 ?_
          refine y_iload_n (pc2 := 25) rfl dX12_hasAll_24 rfl ?_
          obtain ⟨g10, hf⟩ := y_g hf
          refine y_iald (pc2 := 26) rfl dX12_hasAll_25 g10.1 (y_ix_in g10.2) ?_
          obtain ⟨g9, hf⟩ := y_g hf
          refine y_iald (pc2 := 27) rfl dX12_hasAll_26 g9.1 (y_ix_in g9.2) ?_
          refine y_iconst (v := 1) (pc2 := 28) rfl dX12_hasAll_27 (by decide) ?_
          refine y_icmp_ne (tgt := 50) (pc2 := 31) rfl dX12_hasAll_28 (by decide) (fun c8 => ?_) (fun c8 => ?_)
          · replace hf := y_ie c8 hf
            exact y_pk [0, 1, 3] rfl (hj50 _ _ _ _ hf)
          · replace hf := y_it c8 hf
            refine y_aload_n (x := v0_4) (pc2 := 32) rfl dX12_hasAll_31 rfl ?_
            obtain ⟨g7, hf⟩ := y_g hf
            refine y_getP (pc2 := 35) rfl dX12_hasAll_32 F_BoxYardModel_32 (by decide) rfl g7 ?_
            refine y_aload_n (x := v0_4) (pc2 := 36) rfl dX12_hasAll_35 rfl ?_
            obtain ⟨g6, hf⟩ := y_g hf
            refine y_getP (pc2 := 39) rfl dX12_hasAll_36 F_BoxYardModel_144 (by decide) rfl g6 ?_
            refine y_iload_n (pc2 := 40) rfl dX12_hasAll_39 rfl ?_
            obtain ⟨g5, hf⟩ := y_g hf
            refine y_iald (pc2 := 41) rfl dX12_hasAll_40 g5.1 (y_ix_in g5.2) ?_
            obtain ⟨g4, hf⟩ := y_g hf
            refine y_iald (pc2 := 42) rfl dX12_hasAll_41 g4.1 (y_ix_in g4.2) ?_
            refine y_iload_n (pc2 := 43) rfl dX12_hasAll_42 rfl ?_
            refine y_icmp_ne (tgt := 50) (pc2 := 46) rfl dX12_hasAll_43 (by decide) (fun c3 => ?_) (fun c3 => ?_)
            · replace hf := y_ie c3 hf
              exact y_pk [0, 1, 3] rfl (hj50 _ _ _ _ hf)
            · replace hf := y_it c3 hf
              refine y_iconst (v := 1) (pc2 := 47) rfl dX12_hasAll_46 (by decide) ?_
              refine y_goto (tgt := 51) dX12_hasAll_47 (by decide) ?_
              refine y_istore_n (lv' := [(2, .int 1), (0, y_p v0_4), (1, .int v1_4), (3, .int v3_4)]) (pc2 := 52) rfl dX12_hasAll_51 (by decide) rfl ?_
              refine y_iinc (v := v3_4 + 1) (lv' := [(3, .int (v3_4 + 1)), (2, .int 1), (0, y_p v0_4), (1, .int v1_4)]) (pc2 := 55) rfl dX12_hasAll_52 rfl rfl (by decide) rfl ?_
              refine y_goto (tgt := 4) dX12_hasAll_55 (by decide) ?_
              exact y_pk [2, 3, 1, 0] rfl (hj4 _ _ _ _ _ hf)
  · refine y_istore_n (lv' := [(3, .int 0), (2, .int 1), (0, y_p p0), (1, .int p1)]) (pc2 := 4) rfl dX12_hasAll_3 (by decide) rfl ?_
    exact y_pk [2, 3, 1, 0] rfl (hj4 _ _ _ _ _ hf)
