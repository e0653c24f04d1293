theorem dX11_sum_0 : decode cX11_sum 0 = .ok (.aload_n 0, 1) := by decide +kernel
theorem dX11_sum_1 : decode cX11_sum 1 = .ok (.getfield 10, 3) := by decide +kernel
theorem dX11_sum_4 : decode cX11_sum 4 = .ok (.iload_n 1, 1) := by decide +kernel
theorem dX11_sum_5 : decode cX11_sum 5 = .ok (.invokevirtual 287, 3) := by decide +kernel
theorem dX11_sum_8 : decode cX11_sum 8 = .ok (.astore_n 3, 1) := by decide +kernel
theorem dX11_sum_9 : decode cX11_sum 9 = .ok (.aload_n 3, 1) := by decide +kernel
theorem dX11_sum_10 : decode cX11_sum 10 = .ok (.ifnonnull 7, 3) := by decide +kernel
theorem dX11_sum_13 : decode cX11_sum 13 = .ok (.ldc_w 353, 3) := by decide +kernel
theorem dX11_sum_16 : decode cX11_sum 16 = .ok (.ireturn, 1) := by decide +kernel
theorem dX11_sum_17 : decode cX11_sum 17 = .ok (.iload_n 2, 1) := by decide +kernel
theorem dX11_sum_18 : decode cX11_sum 18 = .ok (.iconst 0, 1) := by decide +kernel
theorem dX11_sum_19 : decode cX11_sum 19 = .ok (.bipush 6, 2) := by decide +kernel
theorem dX11_sum_21 : decode cX11_sum 21 = .ok (.invokestatic 56, 3) := by decide +kernel
theorem dX11_sum_24 : decode cX11_sum 24 = .ok (.ifCond .ne 7, 3) := by decide +kernel
theorem dX11_sum_27 : decode cX11_sum 27 = .ok (.ldc_w 354, 3) := by decide +kernel
theorem dX11_sum_30 : decode cX11_sum 30 = .ok (.ireturn, 1) := by decide +kernel
theorem dX11_sum_31 : decode cX11_sum 31 = .ok (.iload_n 2, 1) := by decide +kernel
theorem dX11_sum_32 : decode cX11_sum 32 = .ok (.iconst 4, 1) := by decide +kernel
theorem dX11_sum_33 : decode cX11_sum 33 = .ok (.if_icmp .ne 8, 3) := by decide +kernel
theorem dX11_sum_36 : decode cX11_sum 36 = .ok (.aload_n 3, 1) := by decide +kernel
theorem dX11_sum_37 : decode cX11_sum 37 = .ok (.getfield 314, 3) := by decide +kernel
theorem dX11_sum_40 : decode cX11_sum 40 = .ok (.ireturn, 1) := by decide +kernel
theorem dX11_sum_41 : decode cX11_sum 41 = .ok (.iload_n 2, 1) := by decide +kernel
theorem dX11_sum_42 : decode cX11_sum 42 = .ok (.iconst 5, 1) := by decide +kernel
theorem dX11_sum_43 : decode cX11_sum 43 = .ok (.if_icmp .ne 8, 3) := by decide +kernel
theorem dX11_sum_46 : decode cX11_sum 46 = .ok (.aload_n 3, 1) := by decide +kernel
theorem dX11_sum_47 : decode cX11_sum 47 = .ok (.invokevirtual 355, 3) := by decide +kernel
theorem dX11_sum_50 : decode cX11_sum 50 = .ok (.ireturn, 1) := by decide +kernel
theorem dX11_sum_51 : decode cX11_sum 51 = .ok (.aload_n 3, 1) := by decide +kernel
theorem dX11_sum_52 : decode cX11_sum 52 = .ok (.invokevirtual 358, 3) := by decide +kernel
theorem dX11_sum_55 : decode cX11_sum 55 = .ok (.iload_n 2, 1) := by decide +kernel
theorem dX11_sum_56 : decode cX11_sum 56 = .ok (.bipush 6, 2) := by decide +kernel
theorem dX11_sum_58 : decode cX11_sum 58 = .ok (.if_icmp .ne 8, 3) := by decide +kernel
theorem dX11_sum_61 : decode cX11_sum 61 = .ok (.aload_n 3, 1) := by decide +kernel
theorem dX11_sum_62 : decode cX11_sum 62 = .ok (.getfield 361, 3) := by decide +kernel
theorem dX11_sum_65 : decode cX11_sum 65 = .ok (.ireturn, 1) := by decide +kernel
theorem dX11_sum_66 : decode cX11_sum 66 = .ok (.aload_n 3, 1) := by decide +kernel
theorem dX11_sum_67 : decode cX11_sum 67 = .ok (.getfield 363, 3) := by decide +kernel
theorem dX11_sum_70 : decode cX11_sum 70 = .ok (.iload_n 2, 1) := by decide +kernel
theorem dX11_sum_71 : decode cX11_sum 71 = .ok (.iaload, 1) := by decide +kernel
theorem dX11_sum_72 : decode cX11_sum 72 = .ok (.ireturn, 1) := by decide +kernel
def M_X11_sum : y_M := (yX11_sum, cX11_sum, 4, (Option.some Jvm.ClassFile.FieldType.int))
theorem n_X11_sum : y_N0 M_X11_sum 2 := ⟨(c_5 133 (by decide +kernel) rfl), (c_1 1 (by decide +kernel) rfl), ⟨by decide +kernel, by decide +kernel⟩, by decide +kernel⟩
theorem l_BoxYard_358 : y_lnk "BoxYard" 358 M_X7_survey := Or.inl (c_5 140 (by decide +kernel) rfl)
theorem F_BoxYard_363 : y_F "BoxYard" 363 7 3 := ⟨_, _, _, rfl, by decide, Or.inr ⟨"BoxYard", (c_5 47 (by decide +kernel) rfl)⟩⟩
theorem F_BoxYard_361 : y_F "BoxYard" 361 7 4 := ⟨_, _, _, rfl, by decide, Or.inr ⟨"BoxYard", (c_5 49 (by decide +kernel) rfl)⟩⟩
theorem l_BoxYard_355 : y_lnk "BoxYard" 355 M_X7_servedPort := Or.inl (c_5 136 (by decide +kernel) rfl)
theorem i_X7_servedPort : Cond.instanceMethod (M_X7_servedPort).1 ∈ y_tb := (c_5 137 (by decide +kernel) rfl)
theorem e_X7_servedPort : Cond.selects (M_X7_servedPort).1.cls (M_X7_servedPort).1 (M_X7_servedPort).1 ∈ y_tb := (c_5 138 (by decide +kernel) rfl)
theorem F_BoxYard_314 : y_F "BoxYard" 314 7 13 := ⟨_, _, _, rfl, by decide, Or.inr ⟨"BoxYard", (c_5 67 (by decide +kernel) rfl)⟩⟩
theorem k_BoxYard_354 : Cond.constant "BoxYard" 354 (-2000000002) ∈ y_tb := (c_5 135 (by decide +kernel) rfl)
theorem k_BoxYard_353 : Cond.constant "BoxYard" 353 (-2000000001) ∈ y_tb := (c_5 134 (by decide +kernel) rfl)
set_option maxRecDepth 100000 in
def f_X11_sum (p0 : Nat) (p1 : Int32) (p2 : Int32) (h : y_H) : Option (Int32 × y_H) :=
  if y_K h p0 = 12 then
  if y_K h (y_P h p0 0) = 11 then
  y_cl (f_X10_shipAt (y_P h p0 0) p1 h) (fun r1 h2 =>
  if r1 = 0 then
    some ((-2000000001 : Int32), h2)
  else
    y_cl (f_X11_isWithin p2 0 6 h2) (fun r4 h5 =>
    if r4 = true then
      if p2 = 4 then
        if y_K h5 r1 = 8 then
        some (y_I h5 r1 13, h5)
        else none
      else
        if p2 = 5 then
          if y_K h5 r1 = 8 then
          y_cl (f_X7_servedPort r1 h5) (fun r14 h15 =>
          some (r14, h15))
          else none
        else
          if y_K h5 r1 = 8 then
          y_cl (f_X7_survey r1 h5) (fun _ h7 =>
          if p2 = 6 then
            if y_K h7 r1 = 8 then
            some (y_I h7 r1 4, h7)
            else none
          else
            if y_K h7 r1 = 8 then
            if y_K h7 (y_P h7 r1 3) = 100 ∧ y_ix p2 (y_N h7 (y_P h7 r1 3)) = true then
            some (y_I h7 (y_P h7 r1 3) (Int32.toNatClampNeg p2), h7)
            else none
            else none)
          else none
    else
      some ((-2000000002 : Int32), h5)))
  else none
  else none
abbrev rm_X11_sum : Room := { frames := 3, cells := 0, slots := 0, locals := 73 }
set_option maxRecDepth 100000 in
set_option maxHeartbeats 4000000 in
theorem k_X11_sum {l : Launch} {G : y_G} {p0 : Nat} {p1 : Int32} {p2 : Int32} {h hz : y_H} {rz : Int32} (hf : f_X11_sum p0 p1 p2 h = some (rz, hz)) : y_S l G M_X11_sum rm_X11_sum [y_p p0, .int p1, .int p2] h (some (.int rz)) hz := by
  refine y_start (lv := [(0, y_p p0), (1, .int p1), (2, .int p2)]) (by decide) (by simp [lg_sl, y_p_cat, y_ci, y_cj, M_X11_sum]) (by simp [lv_args, y_p_cat, y_ci, y_cj]) (fun z ad0 => ?_)
  unfold f_X11_sum at hf
  refine y_aload_n (x := p0) (pc2 := 1) rfl dX11_sum_0 rfl ?_
  obtain ⟨g24, hf⟩ := y_g hf
  refine y_getP (pc2 := 4) rfl dX11_sum_1 F_BoxYard_10 (by decide) rfl g24 ?_
  refine y_iload_n (pc2 := 5) rfl dX11_sum_4 rfl ?_
  obtain ⟨g23, hf⟩ := y_g hf
  obtain ⟨r1, h2, c3, hf⟩ := y_clE hf
  refine y_callV (As := [.int p1]) (rm := rm_X10_shipAt) (cells := 0) (slots := 0) (pc2 := 8) rfl dX11_sum_5 n_X10_shipAt l_BoxYard_287 i_X10_shipAt e_X10_shipAt (ci := 10) rfl rfl (by decide) g23 rfl rfl (by decide) (by decide) (by decide) (k_X10_shipAt c3) ?_
  refine y_astore_n (lv' := [(3, y_p r1), (0, y_p p0), (1, .int p1), (2, .int p2)]) (pc2 := 9) rfl dX11_sum_8 (by decide) rfl ?_
  refine y_aload_n (x := r1) (pc2 := 10) rfl dX11_sum_9 rfl ?_
  refine y_ifnonnull (tgt := 17) (pc2 := 13) rfl dX11_sum_10 (by decide) (fun c22 => ?_) (fun c22 => ?_)
  · replace hf := y_ie c22 hf
    refine y_iload_n (pc2 := 18) rfl dX11_sum_17 rfl ?_
    refine y_iconst (v := 0) (pc2 := 19) rfl dX11_sum_18 (by decide) ?_
    refine y_bipush (v := 6) (pc2 := 21) rfl dX11_sum_19 (by decide) ?_
    obtain ⟨r4, h5, c6, hf⟩ := y_clE hf
    refine y_callS (As := [.int p2, .int 0, .int 6]) (rm := rm_X11_isWithin) (cells := 0) (slots := 0) (pc2 := 24) rfl dX11_sum_21 n_X11_isWithin l_BoxYard_56 t_X11_isWithin rfl rfl (by decide) (by decide) (by decide) (k_X11_isWithin c6) ?_
    refine y_ifz_ne (tgt := 31) (pc2 := 27) rfl dX11_sum_24 (by decide) (fun c21 => ?_) (fun c21 => ?_)
    · replace hf := y_it c21 hf
      refine y_iload_n (pc2 := 32) rfl dX11_sum_31 rfl ?_
      refine y_iconst (v := 4) (pc2 := 33) rfl dX11_sum_32 (by decide) ?_
      refine y_icmp_ne (tgt := 41) (pc2 := 36) rfl dX11_sum_33 (by decide) (fun c20 => ?_) (fun c20 => ?_)
      · replace hf := y_ie c20 hf
        refine y_iload_n (pc2 := 42) rfl dX11_sum_41 rfl ?_
        refine y_iconst (v := 5) (pc2 := 43) rfl dX11_sum_42 (by decide) ?_
        refine y_icmp_ne (tgt := 51) (pc2 := 46) rfl dX11_sum_43 (by decide) (fun c18 => ?_) (fun c18 => ?_)
        · replace hf := y_ie c18 hf
          refine y_aload_n (x := r1) (pc2 := 52) rfl dX11_sum_51 rfl ?_
          obtain ⟨g13, hf⟩ := y_g hf
          obtain ⟨r_, h7, c8, hf⟩ := y_clE hf
          refine y_callV (As := []) (rm := rm_X7_survey) (cells := 0) (slots := 0) (pc2 := 55) rfl dX11_sum_52 n_X7_survey l_BoxYard_358 i_X7_survey e_X7_survey (ci := 7) rfl rfl (by decide) g13 rfl rfl (by decide) (by decide) (by decide) (k_X7_survey c8) ?_
          refine y_iload_n (pc2 := 56) rfl dX11_sum_55 rfl ?_
          refine y_bipush (v := 6) (pc2 := 58) rfl dX11_sum_56 (by decide) ?_
          refine y_icmp_ne (tgt := 66) (pc2 := 61) rfl dX11_sum_58 (by decide) (fun c12 => ?_) (fun c12 => ?_)
          · replace hf := y_ie c12 hf
            refine y_aload_n (x := r1) (pc2 := 67) rfl dX11_sum_66 rfl ?_
            obtain ⟨g10, hf⟩ := y_g hf
            refine y_getP (pc2 := 70) rfl dX11_sum_67 F_BoxYard_363 (by decide) rfl g10 ?_
            refine y_iload_n (pc2 := 71) rfl dX11_sum_70 rfl ?_
            obtain ⟨g9, hf⟩ := y_g hf
            refine y_iald (pc2 := 72) rfl dX11_sum_71 g9.1 (y_ix_in g9.2) ?_
            exact y_iretF hf dX11_sum_72 rfl (by decide) (by decide)
          · replace hf := y_it c12 hf
            refine y_aload_n (x := r1) (pc2 := 62) rfl dX11_sum_61 rfl ?_
            obtain ⟨g11, hf⟩ := y_g hf
            refine y_getI (pc2 := 65) rfl dX11_sum_62 F_BoxYard_361 (by decide) rfl g11 ?_
            exact y_iretF hf dX11_sum_65 rfl (by decide) (by decide)
        · replace hf := y_it c18 hf
          refine y_aload_n (x := r1) (pc2 := 47) rfl dX11_sum_46 rfl ?_
          obtain ⟨g17, hf⟩ := y_g hf
          obtain ⟨r14, h15, c16, hf⟩ := y_clE hf
          refine y_callV (As := []) (rm := rm_X7_servedPort) (cells := 0) (slots := 0) (pc2 := 50) rfl dX11_sum_47 n_X7_servedPort l_BoxYard_355 i_X7_servedPort e_X7_servedPort (ci := 7) rfl rfl (by decide) g17 rfl rfl (by decide) (by decide) (by decide) (k_X7_servedPort c16) ?_
          exact y_iretF hf dX11_sum_50 rfl (by decide) (by decide)
      · replace hf := y_it c20 hf
        refine y_aload_n (x := r1) (pc2 := 37) rfl dX11_sum_36 rfl ?_
        obtain ⟨g19, hf⟩ := y_g hf
        refine y_getI (pc2 := 40) rfl dX11_sum_37 F_BoxYard_314 (by decide) rfl g19 ?_
        exact y_iretF hf dX11_sum_40 rfl (by decide) (by decide)
    · replace hf := y_ie c21 hf
      refine y_ldcw (v := (-2000000002 : Int32)) (pc2 := 30) rfl dX11_sum_27 k_BoxYard_354 ?_
      exact y_iretF hf dX11_sum_30 rfl (by decide) (by decide)
  · replace hf := y_it c22 hf
    refine y_ldcw (v := (-2000000001 : Int32)) (pc2 := 16) rfl dX11_sum_13 k_BoxYard_353 ?_
    exact y_iretF hf dX11_sum_16 rfl (by decide) (by decide)
theorem dX11_mean_0 : decode cX11_mean 0 = .ok (.aload_n 0, 1) := by decide +kernel
theorem dX11_mean_1 : decode cX11_mean 1 = .ok (.getfield 10, 3) := by decide +kernel
theorem dX11_mean_4 : decode cX11_mean 4 = .ok (.iload_n 1, 1) := by decide +kernel
theorem dX11_mean_5 : decode cX11_mean 5 = .ok (.invokevirtual 287, 3) := by decide +kernel
theorem dX11_mean_8 : decode cX11_mean 8 = .ok (.astore_n 2, 1) := by decide +kernel
theorem dX11_mean_9 : decode cX11_mean 9 = .ok (.aload_n 2, 1) := by decide +kernel
theorem dX11_mean_10 : decode cX11_mean 10 = .ok (.ifnonnull 5, 3) := by decide +kernel
theorem dX11_mean_13 : decode cX11_mean 13 = .ok (.iconst (-1), 1) := by decide +kernel
theorem dX11_mean_14 : decode cX11_mean 14 = .ok (.ireturn, 1) := by decide +kernel
theorem dX11_mean_15 : decode cX11_mean 15 = .ok (.aload_n 2, 1) := by decide +kernel
theorem dX11_mean_16 : decode cX11_mean 16 = .ok (.invokevirtual 358, 3) := by decide +kernel
theorem dX11_mean_19 : decode cX11_mean 19 = .ok (.aload_n 2, 1) := by decide +kernel
theorem dX11_mean_20 : decode cX11_mean 20 = .ok (.getfield 363, 3) := by decide +kernel
theorem dX11_mean_23 : decode cX11_mean 23 = .ok (.iconst 3, 1) := by decide +kernel
theorem dX11_mean_24 : decode cX11_mean 24 = .ok (.iaload, 1) := by decide +kernel
theorem dX11_mean_25 : decode cX11_mean 25 = .ok (.istore_n 3, 1) := by decide +kernel
theorem dX11_mean_26 : decode cX11_mean 26 = .ok (.iload_n 3, 1) := by decide +kernel
theorem dX11_mean_27 : decode cX11_mean 27 = .ok (.ifCond .ne 10, 3) := by decide +kernel
theorem dX11_mean_30 : decode cX11_mean 30 = .ok (.aload_n 0, 1) := by decide +kernel
theorem dX11_mean_31 : decode cX11_mean 31 = .ok (.bipush (-66), 2) := by decide +kernel
theorem dX11_mean_33 : decode cX11_mean 33 = .ok (.invokevirtual 102, 3) := by decide +kernel
theorem dX11_mean_36 : decode cX11_mean 36 = .ok (.ireturn, 1) := by decide +kernel
theorem dX11_mean_37 : decode cX11_mean 37 = .ok (.aload_n 2, 1) := by decide +kernel
theorem dX11_mean_38 : decode cX11_mean 38 = .ok (.getfield 363, 3) := by decide +kernel
theorem dX11_mean_41 : decode cX11_mean 41 = .ok (.iconst 2, 1) := by decide +kernel
theorem dX11_mean_42 : decode cX11_mean 42 = .ok (.iaload, 1) := by decide +kernel
theorem dX11_mean_43 : decode cX11_mean 43 = .ok (.iload_n 3, 1) := by decide +kernel
theorem dX11_mean_44 : decode cX11_mean 44 = .ok (.idiv, 1) := by decide +kernel
theorem dX11_mean_45 : decode cX11_mean 45 = .ok (.ireturn, 1) := by decide +kernel
def M_X11_mean : y_M := (yX11_mean, cX11_mean, 4, (Option.some Jvm.ClassFile.FieldType.int))
theorem n_X11_mean : y_N0 M_X11_mean 1 := ⟨(c_5 144 (by decide +kernel) rfl), (c_1 1 (by decide +kernel) rfl), ⟨by decide +kernel, by decide +kernel⟩, by decide +kernel⟩
set_option maxRecDepth 100000 in
def f_X11_mean (p0 : Nat) (p1 : Int32) (h : y_H) : Option (Int32 × y_H) :=
  if y_K h p0 = 12 then
  if y_K h (y_P h p0 0) = 11 then
  y_cl (f_X10_shipAt (y_P h p0 0) p1 h) (fun r1 h2 =>
  if r1 = 0 then
    some ((-1 : Int32), h2)
  else
    if y_K h2 r1 = 8 then
    y_cl (f_X7_survey r1 h2) (fun _ h4 =>
    if y_K h4 r1 = 8 then
    if y_K h4 (y_P h4 r1 3) = 100 ∧ y_ix 3 (y_N h4 (y_P h4 r1 3)) = true then
    if (y_I h4 (y_P h4 r1 3) (Int32.toNatClampNeg 3)) = 0 then
      if y_K h4 p0 = 12 then
      y_cl (f_X11_counted p0 (-66 : Int32) h4) (fun r9 h10 =>
      some (r9, h10))
      else none
    else
      if y_K h4 r1 = 8 then
      if y_K h4 (y_P h4 r1 3) = 100 ∧ y_ix 2 (y_N h4 (y_P h4 r1 3)) = true then
      if ¬ (y_I h4 (y_P h4 r1 3) (Int32.toNatClampNeg 3)) = 0 then
      some ((y_I h4 (y_P h4 r1 3) (Int32.toNatClampNeg 2)) / (y_I h4 (y_P h4 r1 3) (Int32.toNatClampNeg 3)), h4)
      else none
      else none
      else none
    else none
    else none)
    else none)
  else none
  else none
abbrev rm_X11_mean : Room := { frames := 3, cells := 0, slots := 0, locals := 73 }
set_option maxRecDepth 100000 in
set_option maxHeartbeats 4000000 in
theorem k_X11_mean {l : Launch} {G : y_G} {p0 : Nat} {p1 : Int32} {h hz : y_H} {rz : Int32} (hf : f_X11_mean p0 p1 h = some (rz, hz)) : y_S l G M_X11_mean rm_X11_mean [y_p p0, .int p1] h (some (.int rz)) hz := by
  refine y_start (lv := [(0, y_p p0), (1, .int p1)]) (by decide) (by simp [lg_sl, y_p_cat, y_ci, y_cj, M_X11_mean]) (by simp [lv_args, y_p_cat, y_ci, y_cj]) (fun z ad0 => ?_)
  unfold f_X11_mean at hf
  refine y_aload_n (x := p0) (pc2 := 1) rfl dX11_mean_0 rfl ?_
  obtain ⟨g19, hf⟩ := y_g hf
  refine y_getP (pc2 := 4) rfl dX11_mean_1 F_BoxYard_10 (by decide) rfl g19 ?_
  refine y_iload_n (pc2 := 5) rfl dX11_mean_4 rfl ?_
  obtain ⟨g18, hf⟩ := y_g hf
  obtain ⟨r1, h2, c3, hf⟩ := y_clE hf
  refine y_callV (As := [.int p1]) (rm := rm_X10_shipAt) (cells := 0) (slots := 0) (pc2 := 8) rfl dX11_mean_5 n_X10_shipAt l_BoxYard_287 i_X10_shipAt e_X10_shipAt (ci := 10) rfl rfl (by decide) g18 rfl rfl (by decide) (by decide) (by decide) (k_X10_shipAt c3) ?_
  refine y_astore_n (lv' := [(2, y_p r1), (0, y_p p0), (1, .int p1)]) (pc2 := 9) rfl dX11_mean_8 (by decide) rfl ?_
  refine y_aload_n (x := r1) (pc2 := 10) rfl dX11_mean_9 rfl ?_
  refine y_ifnonnull (tgt := 15) (pc2 := 13) rfl dX11_mean_10 (by decide) (fun c17 => ?_) (fun c17 => ?_)
  · replace hf := y_ie c17 hf
    refine y_aload_n (x := r1) (pc2 := 16) rfl dX11_mean_15 rfl ?_
    obtain ⟨g16, hf⟩ := y_g hf
    obtain ⟨r_, h4, c5, hf⟩ := y_clE hf
    refine y_callV (As := []) (rm := rm_X7_survey) (cells := 0) (slots := 0) (pc2 := 19) rfl dX11_mean_16 n_X7_survey l_BoxYard_358 i_X7_survey e_X7_survey (ci := 7) rfl rfl (by decide) g16 rfl rfl (by decide) (by decide) (by decide) (k_X7_survey c5) ?_
    refine y_aload_n (x := r1) (pc2 := 20) rfl dX11_mean_19 rfl ?_
    obtain ⟨g15, hf⟩ := y_g hf
    refine y_getP (pc2 := 23) rfl dX11_mean_20 F_BoxYard_363 (by decide) rfl g15 ?_
    refine y_iconst (v := 3) (pc2 := 24) rfl dX11_mean_23 (by decide) ?_
    obtain ⟨g14, hf⟩ := y_g hf
    refine y_iald (pc2 := 25) rfl dX11_mean_24 g14.1 (y_ix_in g14.2) ?_
    refine y_istore_n (lv' := [(3, .int (y_I h4 (y_P h4 r1 3) (Int32.toNatClampNeg 3))), (2, y_p r1), (0, y_p p0), (1, .int p1)]) (pc2 := 26) rfl dX11_mean_25 (by decide) (by show y_st1 _ 3 _ = _; simp [y_st1, y_p_cat, y_ci, y_cj]) ?_
    refine y_iload_n (pc2 := 27) rfl dX11_mean_26 rfl ?_
    refine y_if_ne (tgt := 37) (pc2 := 30) rfl dX11_mean_27 (by decide) (fun c13 => ?_) (fun c13 => ?_)
    · replace hf := y_ie c13 hf
      refine y_aload_n (x := r1) (pc2 := 38) rfl dX11_mean_37 rfl ?_
      obtain ⟨g8, hf⟩ := y_g hf
      refine y_getP (pc2 := 41) rfl dX11_mean_38 F_BoxYard_363 (by decide) rfl g8 ?_
      refine y_iconst (v := 2) (pc2 := 42) rfl dX11_mean_41 (by decide) ?_
      obtain ⟨g7, hf⟩ := y_g hf
      refine y_iald (pc2 := 43) rfl dX11_mean_42 g7.1 (y_ix_in g7.2) ?_
      refine y_iload_n (pc2 := 44) rfl dX11_mean_43 rfl ?_
      obtain ⟨g6, hf⟩ := y_g hf
      refine y_idiv (pc2 := 45) rfl dX11_mean_44 g6 ?_
      exact y_iretF hf dX11_mean_45 rfl (by decide) (by decide)
    · replace hf := y_it c13 hf
      refine y_aload_n (x := p0) (pc2 := 31) rfl dX11_mean_30 rfl ?_
      refine y_bipush (v := (-66 : Int32)) (pc2 := 33) rfl dX11_mean_31 (by decide) ?_
      obtain ⟨g12, hf⟩ := y_g hf
      obtain ⟨r9, h10, c11, hf⟩ := y_clE hf
      refine y_callV (As := [.int (-66 : Int32)]) (rm := rm_X11_counted) (cells := 0) (slots := 0) (pc2 := 36) rfl dX11_mean_33 n_X11_counted l_BoxYard_102 i_X11_counted e_X11_counted (ci := 11) rfl rfl (by decide) g12 rfl rfl (by decide) (by decide) (by decide) (k_X11_counted c11) ?_
      exact y_iretF hf dX11_mean_36 rfl (by decide) (by decide)
  · replace hf := y_it c17 hf
    refine y_iconst (v := (-1 : Int32)) (pc2 := 14) rfl dX11_mean_13 (by decide) ?_
    exact y_iretF hf dX11_mean_14 rfl (by decide) (by decide)
theorem dX11_stable_0 : decode cX11_stable 0 = .ok (.aload_n 0, 1) := by decide +kernel
theorem dX11_stable_1 : decode cX11_stable 1 = .ok (.getfield 10, 3) := by decide +kernel
theorem dX11_stable_4 : decode cX11_stable 4 = .ok (.iload_n 1, 1) := by decide +kernel
theorem dX11_stable_5 : decode cX11_stable 5 = .ok (.invokevirtual 287, 3) := by decide +kernel
theorem dX11_stable_8 : decode cX11_stable 8 = .ok (.astore_n 2, 1) := by decide +kernel
theorem dX11_stable_9 : decode cX11_stable 9 = .ok (.aload_n 2, 1) := by decide +kernel
theorem dX11_stable_10 : decode cX11_stable 10 = .ok (.ifnonnull 5, 3) := by decide +kernel
theorem dX11_stable_13 : decode cX11_stable 13 = .ok (.iconst (-1), 1) := by decide +kernel
theorem dX11_stable_14 : decode cX11_stable 14 = .ok (.ireturn, 1) := by decide +kernel
theorem dX11_stable_15 : decode cX11_stable 15 = .ok (.aload_n 0, 1) := by decide +kernel
theorem dX11_stable_16 : decode cX11_stable 16 = .ok (.getfield 10, 3) := by decide +kernel
theorem dX11_stable_19 : decode cX11_stable 19 = .ok (.aload_n 2, 1) := by decide +kernel
theorem dX11_stable_20 : decode cX11_stable 20 = .ok (.aload_n 0, 1) := by decide +kernel
theorem dX11_stable_21 : decode cX11_stable 21 = .ok (.getfield 43, 3) := by decide +kernel
theorem dX11_stable_24 : decode cX11_stable 24 = .ok (.invokevirtual 366, 3) := by decide +kernel
theorem dX11_stable_27 : decode cX11_stable 27 = .ok (.invokestatic 126, 3) := by decide +kernel
theorem dX11_stable_30 : decode cX11_stable 30 = .ok (.ireturn, 1) := by decide +kernel
def M_X11_stable : y_M := (yX11_stable, cX11_stable, 3, (Option.some Jvm.ClassFile.FieldType.int))
theorem n_X11_stable : y_N0 M_X11_stable 1 := ⟨(c_5 148 (by decide +kernel) rfl), (c_1 1 (by decide +kernel) rfl), ⟨by decide +kernel, by decide +kernel⟩, by decide +kernel⟩
theorem F_BoxYard_43 : y_F "BoxYard" 43 11 5 := ⟨_, _, _, rfl, by decide, Or.inl (c_2 76 (by decide +kernel) rfl)⟩
theorem l_BoxYard_366 : y_lnk "BoxYard" 366 M_X10_allCouldCome := Or.inl (c_5 149 (by decide +kernel) rfl)
theorem i_X10_allCouldCome : Cond.instanceMethod (M_X10_allCouldCome).1 ∈ y_tb := (c_5 150 (by decide +kernel) rfl)
theorem e_X10_allCouldCome : Cond.selects (M_X10_allCouldCome).1.cls (M_X10_allCouldCome).1 (M_X10_allCouldCome).1 ∈ y_tb := (c_5 151 (by decide +kernel) rfl)
set_option maxRecDepth 100000 in
def f_X11_stable (p0 : Nat) (p1 : Int32) (h : y_H) : Option (Int32 × y_H) :=
  if y_K h p0 = 12 then
  if y_K h (y_P h p0 0) = 11 then
  y_cl (f_X10_shipAt (y_P h p0 0) p1 h) (fun r1 h2 =>
  if r1 = 0 then
    some ((-1 : Int32), h2)
  else
    if y_K h2 p0 = 12 then
    if y_K h2 p0 = 12 then
    if y_K h2 (y_P h2 p0 0) = 11 then
    y_cl (f_X10_allCouldCome (y_P h2 p0 0) r1 (y_P h2 p0 5) h2) (fun r4 h5 =>
    y_cl (f_X11_asBit r4 h5) (fun r7 h8 =>
    some (r7, h8)))
    else none
    else none
    else none)
  else none
  else none
abbrev rm_X11_stable : Room := { frames := 5, cells := 0, slots := 0, locals := 119 }
set_option maxRecDepth 100000 in
set_option maxHeartbeats 4000000 in
theorem k_X11_stable {l : Launch} {G : y_G} {p0 : Nat} {p1 : Int32} {h hz : y_H} {rz : Int32} (hf : f_X11_stable p0 p1 h = some (rz, hz)) : y_S l G M_X11_stable rm_X11_stable [y_p p0, .int p1] h (some (.int rz)) hz := by
  refine y_start (lv := [(0, y_p p0), (1, .int p1)]) (by decide) (by simp [lg_sl, y_p_cat, y_ci, y_cj, M_X11_stable]) (by simp [lv_args, y_p_cat, y_ci, y_cj]) (fun z ad0 => ?_)
  unfold f_X11_stable at hf
  refine y_aload_n (x := p0) (pc2 := 1) rfl dX11_stable_0 rfl ?_
  obtain ⟨g15, hf⟩ := y_g hf
  refine y_getP (pc2 := 4) rfl dX11_stable_1 F_BoxYard_10 (by decide) rfl g15 ?_
  refine y_iload_n (pc2 := 5) rfl dX11_stable_4 rfl ?_
  obtain ⟨g14, hf⟩ := y_g hf
  obtain ⟨r1, h2, c3, hf⟩ := y_clE hf
  refine y_callV (As := [.int p1]) (rm := rm_X10_shipAt) (cells := 0) (slots := 0) (pc2 := 8) rfl dX11_stable_5 n_X10_shipAt l_BoxYard_287 i_X10_shipAt e_X10_shipAt (ci := 10) rfl rfl (by decide) g14 rfl rfl (by decide) (by decide) (by decide) (k_X10_shipAt c3) ?_
  refine y_astore_n (lv' := [(2, y_p r1), (0, y_p p0), (1, .int p1)]) (pc2 := 9) rfl dX11_stable_8 (by decide) rfl ?_
  refine y_aload_n (x := r1) (pc2 := 10) rfl dX11_stable_9 rfl ?_
  refine y_ifnonnull (tgt := 15) (pc2 := 13) rfl dX11_stable_10 (by decide) (fun c13 => ?_) (fun c13 => ?_)
  · replace hf := y_ie c13 hf
    refine y_aload_n (x := p0) (pc2 := 16) rfl dX11_stable_15 rfl ?_
    obtain ⟨g12, hf⟩ := y_g hf
    refine y_getP (pc2 := 19) rfl dX11_stable_16 F_BoxYard_10 (by decide) rfl g12 ?_
    refine y_aload_n (x := r1) (pc2 := 20) rfl dX11_stable_19 rfl ?_
    refine y_aload_n (x := p0) (pc2 := 21) rfl dX11_stable_20 rfl ?_
    obtain ⟨g11, hf⟩ := y_g hf
    refine y_getP (pc2 := 24) rfl dX11_stable_21 F_BoxYard_43 (by decide) rfl g11 ?_
    obtain ⟨g10, hf⟩ := y_g hf
    obtain ⟨r4, h5, c6, hf⟩ := y_clE hf
    refine y_callV (As := [y_p r1, y_p (y_P h2 p0 5)]) (rm := rm_X10_allCouldCome) (cells := 0) (slots := 0) (pc2 := 27) rfl dX11_stable_24 n_X10_allCouldCome l_BoxYard_366 i_X10_allCouldCome e_X10_allCouldCome (ci := 10) rfl rfl (by decide) g10 rfl rfl (by decide) (by decide) (by decide) (k_X10_allCouldCome c6) ?_
    obtain ⟨r7, h8, c9, hf⟩ := y_clE hf
    refine y_callS (As := [.int (y_z r4)]) (rm := rm_X11_asBit) (cells := 0) (slots := 0) (pc2 := 30) rfl dX11_stable_27 n_X11_asBit l_BoxYard_126 t_X11_asBit rfl rfl (by decide) (by decide) (by decide) (k_X11_asBit c9) ?_
    exact y_iretF hf dX11_stable_30 rfl (by decide) (by decide)
  · replace hf := y_it c13 hf
    refine y_iconst (v := (-1 : Int32)) (pc2 := 14) rfl dX11_stable_13 (by decide) ?_
    exact y_iretF hf dX11_stable_14 rfl (by decide) (by decide)
theorem dX11_broke_0 : decode cX11_broke 0 = .ok (.iload_n 1, 1) := by decide +kernel
theorem dX11_broke_1 : decode cX11_broke 1 = .ok (.iconst 0, 1) := by decide +kernel
theorem dX11_broke_2 : decode cX11_broke 2 = .ok (.iconst 2, 1) := by decide +kernel
theorem dX11_broke_3 : decode cX11_broke 3 = .ok (.invokestatic 56, 3) := by decide +kernel
theorem dX11_broke_6 : decode cX11_broke 6 = .ok (.ifCond .eq 12, 3) := by decide +kernel
theorem dX11_broke_9 : decode cX11_broke 9 = .ok (.aload_n 0, 1) := by decide +kernel
theorem dX11_broke_10 : decode cX11_broke 10 = .ok (.getfield 43, 3) := by decide +kernel
theorem dX11_broke_13 : decode cX11_broke 13 = .ok (.iload_n 1, 1) := by decide +kernel
theorem dX11_broke_14 : decode cX11_broke 14 = .ok (.iaload, 1) := by decide +kernel
theorem dX11_broke_15 : decode cX11_broke 15 = .ok (.goto 5, 3) := by decide +kernel
theorem dX11_broke_18 : decode cX11_broke 18 = .ok (.bipush (-2), 2) := by decide +kernel
theorem dX11_broke_20 : decode cX11_broke 20 = .ok (.ireturn, 1) := by decide +kernel
def M_X11_broke : y_M := (yX11_broke, cX11_broke, 2, (Option.some Jvm.ClassFile.FieldType.int))
theorem n_X11_broke : y_N0 M_X11_broke 1 := ⟨(c_5 164 (by decide +kernel) rfl), (c_1 1 (by decide +kernel) rfl), ⟨by decide +kernel, by decide +kernel⟩, by decide +kernel⟩
set_option maxRecDepth 100000 in
def f_X11_broke (p0 : Nat) (p1 : Int32) (h : y_H) : Option (Int32 × y_H) :=
  y_cl (f_X11_isWithin p1 0 2 h) (fun r1 h2 =>
  if r1 = true then
    if y_K h2 p0 = 12 then
    if y_K h2 (y_P h2 p0 5) = 100 ∧ y_ix p1 (y_N h2 (y_P h2 p0 5)) = true then
    some (y_I h2 (y_P h2 p0 5) (Int32.toNatClampNeg p1), h2)
    else none
    else none
  else
    some ((-2 : Int32), h2))
abbrev rm_X11_broke : Room := { frames := 1, cells := 0, slots := 0, locals := 22 }
set_option maxRecDepth 100000 in
set_option maxHeartbeats 4000000 in
theorem k_X11_broke {l : Launch} {G : y_G} {p0 : Nat} {p1 : Int32} {h hz : y_H} {rz : Int32} (hf : f_X11_broke p0 p1 h = some (rz, hz)) : y_S l G M_X11_broke rm_X11_broke [y_p p0, .int p1] h (some (.int rz)) hz := by
  refine y_start (lv := [(0, y_p p0), (1, .int p1)]) (by decide) (by simp [lg_sl, y_p_cat, y_ci, y_cj, M_X11_broke]) (by simp [lv_args, y_p_cat, y_ci, y_cj]) (fun z ad0 => ?_)
  unfold f_X11_broke at hf
  refine y_iload_n (pc2 := 1) rfl dX11_broke_0 rfl ?_
  refine y_iconst (v := 0) (pc2 := 2) rfl dX11_broke_1 (by decide) ?_
  refine y_iconst (v := 2) (pc2 := 3) rfl dX11_broke_2 (by decide) ?_
  obtain ⟨r1, h2, c3, hf⟩ := y_clE hf
  refine y_callS (As := [.int p1, .int 0, .int 2]) (rm := rm_X11_isWithin) (cells := 0) (slots := 0) (pc2 := 6) rfl dX11_broke_3 n_X11_isWithin l_BoxYard_56 t_X11_isWithin rfl rfl (by decide) (by decide) (by decide) (k_X11_isWithin c3) ?_
  refine y_ifz_eq (tgt := 18) (pc2 := 9) rfl dX11_broke_6 (by decide) (fun c6 => ?_) (fun c6 => ?_)
  · replace hf := y_ie c6 hf
    refine y_bipush (v := (-2 : Int32)) (pc2 := 20) rfl dX11_broke_18 (by decide) ?_
    exact y_iretF hf dX11_broke_20 rfl (by decide) (by decide)
  · replace hf := y_it c6 hf
    refine y_aload_n (x := p0) (pc2 := 10) rfl dX11_broke_9 rfl ?_
    obtain ⟨g5, hf⟩ := y_g hf
    refine y_getP (pc2 := 13) rfl dX11_broke_10 F_BoxYard_43 (by decide) rfl g5 ?_
    refine y_iload_n (pc2 := 14) rfl dX11_broke_13 rfl ?_
    obtain ⟨g4, hf⟩ := y_g hf
    refine y_iald (pc2 := 15) rfl dX11_broke_14 g4.1 (y_ix_in g4.2) ?_
    refine y_goto (tgt := 20) dX11_broke_15 (by decide) ?_
    exact y_iretF hf dX11_broke_20 rfl (by decide) (by decide)
theorem dX11_want_0 : decode cX11_want 0 = .ok (.aload_n 0, 1) := by decide +kernel
theorem dX11_want_1 : decode cX11_want 1 = .ok (.getfield 10, 3) := by decide +kernel
theorem dX11_want_4 : decode cX11_want 4 = .ok (.iload_n 1, 1) := by decide +kernel
theorem dX11_want_5 : decode cX11_want 5 = .ok (.invokevirtual 85, 3) := by decide +kernel
theorem dX11_want_8 : decode cX11_want 8 = .ok (.astore_n 2, 1) := by decide +kernel
theorem dX11_want_9 : decode cX11_want 9 = .ok (.aload_n 2, 1) := by decide +kernel
theorem dX11_want_10 : decode cX11_want 10 = .ok (.ifnonnull 5, 3) := by decide +kernel
theorem dX11_want_13 : decode cX11_want 13 = .ok (.iconst (-1), 1) := by decide +kernel
theorem dX11_want_14 : decode cX11_want 14 = .ok (.ireturn, 1) := by decide +kernel
theorem dX11_want_15 : decode cX11_want 15 = .ok (.aload_n 0, 1) := by decide +kernel
theorem dX11_want_16 : decode cX11_want 16 = .ok (.getfield 26, 3) := by decide +kernel
theorem dX11_want_19 : decode cX11_want 19 = .ok (.aload_n 2, 1) := by decide +kernel
theorem dX11_want_20 : decode cX11_want 20 = .ok (.invokevirtual 370, 3) := by decide +kernel
theorem dX11_want_23 : decode cX11_want 23 = .ok (.ifCond .lt 6, 3) := by decide +kernel
theorem dX11_want_26 : decode cX11_want 26 = .ok (.bipush (-3), 2) := by decide +kernel
theorem dX11_want_28 : decode cX11_want 28 = .ok (.ireturn, 1) := by decide +kernel
theorem dX11_want_29 : decode cX11_want 29 = .ok (.aload_n 0, 1) := by decide +kernel
theorem dX11_want_30 : decode cX11_want 30 = .ok (.getfield 26, 3) := by decide +kernel
theorem dX11_want_33 : decode cX11_want 33 = .ok (.aload_n 2, 1) := by decide +kernel
theorem dX11_want_34 : decode cX11_want 34 = .ok (.invokevirtual 374, 3) := by decide +kernel
theorem dX11_want_37 : decode cX11_want 37 = .ok (.ireturn, 1) := by decide +kernel
def M_X11_want : y_M := (yX11_want, cX11_want, 3, (Option.some Jvm.ClassFile.FieldType.int))
theorem n_X11_want : y_N0 M_X11_want 1 := ⟨(c_5 168 (by decide +kernel) rfl), (c_1 1 (by decide +kernel) rfl), ⟨by decide +kernel, by decide +kernel⟩, by decide +kernel⟩
theorem F_BoxYard_26 : y_F "BoxYard" 26 11 2 := ⟨_, _, _, rfl, by decide, Or.inl (c_2 73 (by decide +kernel) rfl)⟩
theorem l_BoxYard_370 : y_lnk "BoxYard" 370 M_X4_rankOf := Or.inl (c_5 169 (by decide +kernel) rfl)
theorem l_BoxYard_374 : y_lnk "BoxYard" 374 M_X4_addWanted := Or.inl (c_5 173 (by decide +kernel) rfl)
theorem i_X4_addWanted : Cond.instanceMethod (M_X4_addWanted).1 ∈ y_tb := (c_5 174 (by decide +kernel) rfl)
theorem e_X4_addWanted : Cond.selects (M_X4_addWanted).1.cls (M_X4_addWanted).1 (M_X4_addWanted).1 ∈ y_tb := (c_5 175 (by decide +kernel) rfl)
set_option maxRecDepth 100000 in
def f_X11_want (p0 : Nat) (p1 : Int32) (h : y_H) : Option (Int32 × y_H) :=
  if y_K h p0 = 12 then
  if y_K h (y_P h p0 0) = 11 then
  y_cl (f_X10_boxAt (y_P h p0 0) p1 h) (fun r1 h2 =>
  if r1 = 0 then
    some ((-1 : Int32), h2)
  else
    if y_K h2 p0 = 12 then
    if y_K h2 (y_P h2 p0 2) = 5 then
    y_cl (f_X4_rankOf (y_P h2 p0 2) r1 h2) (fun r4 h5 =>
    if r4 < 0 then
      if y_K h5 p0 = 12 then
      if y_K h5 (y_P h5 p0 2) = 5 then
      y_cl (f_X4_addWanted (y_P h5 p0 2) r1 h5) (fun r7 h8 =>
      some (r7, h8))
      else none
      else none
    else
      some ((-3 : Int32), h5))
    else none
    else none)
  else none
  else none
abbrev rm_X11_want : Room := { frames := 2, cells := 0, slots := 0, locals := 43 }
set_option maxRecDepth 100000 in
set_option maxHeartbeats 4000000 in
theorem k_X11_want {l : Launch} {G : y_G} {p0 : Nat} {p1 : Int32} {h hz : y_H} {rz : Int32} (hf : f_X11_want p0 p1 h = some (rz, hz)) : y_S l G M_X11_want rm_X11_want [y_p p0, .int p1] h (some (.int rz)) hz := by
  refine y_start (lv := [(0, y_p p0), (1, .int p1)]) (by decide) (by simp [lg_sl, y_p_cat, y_ci, y_cj, M_X11_want]) (by simp [lv_args, y_p_cat, y_ci, y_cj]) (fun z ad0 => ?_)
  unfold f_X11_want at hf
  refine y_aload_n (x := p0) (pc2 := 1) rfl dX11_want_0 rfl ?_
  obtain ⟨g17, hf⟩ := y_g hf
  refine y_getP (pc2 := 4) rfl dX11_want_1 F_BoxYard_10 (by decide) rfl g17 ?_
  refine y_iload_n (pc2 := 5) rfl dX11_want_4 rfl ?_
  obtain ⟨g16, hf⟩ := y_g hf
  obtain ⟨r1, h2, c3, hf⟩ := y_clE hf
  refine y_callV (As := [.int p1]) (rm := rm_X10_boxAt) (cells := 0) (slots := 0) (pc2 := 8) rfl dX11_want_5 n_X10_boxAt l_BoxYard_85 i_X10_boxAt e_X10_boxAt (ci := 10) rfl rfl (by decide) g16 rfl rfl (by decide) (by decide) (by decide) (k_X10_boxAt c3) ?_
  refine y_astore_n (lv' := [(2, y_p r1), (0, y_p p0), (1, .int p1)]) (pc2 := 9) rfl dX11_want_8 (by decide) rfl ?_
  refine y_aload_n (x := r1) (pc2 := 10) rfl dX11_want_9 rfl ?_
  refine y_ifnonnull (tgt := 15) (pc2 := 13) rfl dX11_want_10 (by decide) (fun c15 => ?_) (fun c15 => ?_)
  · replace hf := y_ie c15 hf
    refine y_aload_n (x := p0) (pc2 := 16) rfl dX11_want_15 rfl ?_
    obtain ⟨g14, hf⟩ := y_g hf
    refine y_getP (pc2 := 19) rfl dX11_want_16 F_BoxYard_26 (by decide) rfl g14 ?_
    refine y_aload_n (x := r1) (pc2 := 20) rfl dX11_want_19 rfl ?_
    obtain ⟨g13, hf⟩ := y_g hf
    obtain ⟨r4, h5, c6, hf⟩ := y_clE hf
    refine y_callV (As := [y_p r1]) (rm := rm_X4_rankOf) (cells := 0) (slots := 0) (pc2 := 23) rfl dX11_want_20 n_X4_rankOf l_BoxYard_370 i_X4_rankOf e_X4_rankOf (ci := 4) rfl rfl (by decide) g13 rfl rfl (by decide) (by decide) (by decide) (k_X4_rankOf c6) ?_
    refine y_if_lt (tgt := 29) (pc2 := 26) rfl dX11_want_23 (by decide) (fun c12 => ?_) (fun c12 => ?_)
    · replace hf := y_it c12 hf
      refine y_aload_n (x := p0) (pc2 := 30) rfl dX11_want_29 rfl ?_
      obtain ⟨g11, hf⟩ := y_g hf
      refine y_getP (pc2 := 33) rfl dX11_want_30 F_BoxYard_26 (by decide) rfl g11 ?_
      refine y_aload_n (x := r1) (pc2 := 34) rfl dX11_want_33 rfl ?_
      obtain ⟨g10, hf⟩ := y_g hf
      obtain ⟨r7, h8, c9, hf⟩ := y_clE hf
      refine y_callV (As := [y_p r1]) (rm := rm_X4_addWanted) (cells := 0) (slots := 0) (pc2 := 37) rfl dX11_want_34 n_X4_addWanted l_BoxYard_374 i_X4_addWanted e_X4_addWanted (ci := 4) rfl rfl (by decide) g10 rfl rfl (by decide) (by decide) (by decide) (k_X4_addWanted c9) ?_
      exact y_iretF hf dX11_want_37 rfl (by decide) (by decide)
    · replace hf := y_ie c12 hf
      refine y_bipush (v := (-3 : Int32)) (pc2 := 28) rfl dX11_want_26 (by decide) ?_
      exact y_iretF hf dX11_want_28 rfl (by decide) (by decide)
  · replace hf := y_it c15 hf
    refine y_iconst (v := (-1 : Int32)) (pc2 := 14) rfl dX11_want_13 (by decide) ?_
    exact y_iretF hf dX11_want_14 rfl (by decide) (by decide)
theorem dX11_forget_0 : decode cX11_forget 0 = .ok (.aload_n 0, 1) := by decide +kernel
theorem dX11_forget_1 : decode cX11_forget 1 = .ok (.getfield 26, 3) := by decide +kernel
theorem dX11_forget_4 : decode cX11_forget 4 = .ok (.invokevirtual 377, 3) := by decide +kernel
theorem dX11_forget_7 : decode cX11_forget 7 = .ok (.ireturn, 1) := by decide +kernel
def M_X11_forget : y_M := (yX11_forget, cX11_forget, 1, (Option.some Jvm.ClassFile.FieldType.int))
theorem n_X11_forget : y_N0 M_X11_forget 0 := ⟨(c_5 180 (by decide +kernel) rfl), (c_1 1 (by decide +kernel) rfl), ⟨by decide +kernel, by decide +kernel⟩, by decide +kernel⟩
theorem l_BoxYard_377 : y_lnk "BoxYard" 377 M_X4_dropOrder := Or.inl (c_5 181 (by decide +kernel) rfl)
theorem i_X4_dropOrder : Cond.instanceMethod (M_X4_dropOrder).1 ∈ y_tb := (c_5 182 (by decide +kernel) rfl)
theorem e_X4_dropOrder : Cond.selects (M_X4_dropOrder).1.cls (M_X4_dropOrder).1 (M_X4_dropOrder).1 ∈ y_tb := (c_5 183 (by decide +kernel) rfl)
set_option maxRecDepth 100000 in
def f_X11_forget (p0 : Nat) (h : y_H) : Option (Int32 × y_H) :=
  if y_K h p0 = 12 then
  if y_K h (y_P h p0 2) = 5 then
  y_cl (f_X4_dropOrder (y_P h p0 2) h) (fun r1 h2 =>
  some (r1, h2))
  else none
  else none
abbrev rm_X11_forget : Room := { frames := 1, cells := 0, slots := 0, locals := 21 }
set_option maxRecDepth 100000 in
set_option maxHeartbeats 4000000 in
theorem k_X11_forget {l : Launch} {G : y_G} {p0 : Nat} {h hz : y_H} {rz : Int32} (hf : f_X11_forget p0 h = some (rz, hz)) : y_S l G M_X11_forget rm_X11_forget [y_p p0] h (some (.int rz)) hz := by
  refine y_start (lv := [(0, y_p p0)]) (by decide) (by simp [lg_sl, y_p_cat, y_ci, y_cj, M_X11_forget]) (by simp [lv_args, y_p_cat, y_ci, y_cj]) (fun z ad0 => ?_)
  unfold f_X11_forget at hf
  refine y_aload_n (x := p0) (pc2 := 1) rfl dX11_forget_0 rfl ?_
  obtain ⟨g5, hf⟩ := y_g hf
  refine y_getP (pc2 := 4) rfl dX11_forget_1 F_BoxYard_26 (by decide) rfl g5 ?_
  obtain ⟨g4, hf⟩ := y_g hf
  obtain ⟨r1, h2, c3, hf⟩ := y_clE hf
  refine y_callV (As := []) (rm := rm_X4_dropOrder) (cells := 0) (slots := 0) (pc2 := 7) rfl dX11_forget_4 n_X4_dropOrder l_BoxYard_377 i_X4_dropOrder e_X4_dropOrder (ci := 4) rfl rfl (by decide) g4 rfl rfl (by decide) (by decide) (by decide) (k_X4_dropOrder c3) ?_
  exact y_iretF hf dX11_forget_7 rfl (by decide) (by decide)
theorem dX11_row_0 : decode cX11_row 0 = .ok (.iload_n 1, 1) := by decide +kernel
theorem dX11_row_1 : decode cX11_row 1 = .ok (.iconst 0, 1) := by decide +kernel
theorem dX11_row_2 : decode cX11_row 2 = .ok (.aload_n 0, 1) := by decide +kernel
theorem dX11_row_3 : decode cX11_row 3 = .ok (.getfield 26, 3) := by decide +kernel
theorem dX11_row_6 : decode cX11_row 6 = .ok (.getfield 391, 3) := by decide +kernel
theorem dX11_row_9 : decode cX11_row 9 = .ok (.iconst 1, 1) := by decide +kernel
theorem dX11_row_10 : decode cX11_row 10 = .ok (.isub, 1) := by decide +kernel
theorem dX11_row_11 : decode cX11_row 11 = .ok (.invokestatic 56, 3) := by decide +kernel
theorem dX11_row_14 : decode cX11_row 14 = .ok (.ifCond .ne 5, 3) := by decide +kernel
theorem dX11_row_17 : decode cX11_row 17 = .ok (.iconst (-1), 1) := by decide +kernel
theorem dX11_row_18 : decode cX11_row 18 = .ok (.ireturn, 1) := by decide +kernel
theorem dX11_row_19 : decode cX11_row 19 = .ok (.iload_n 2, 1) := by decide +kernel
theorem dX11_row_20 : decode cX11_row 20 = .ok (.lookupswitch 48 #[(0, 28), (1, 38)], 28) := by decide +kernel
theorem dX11_row_48 : decode cX11_row 48 = .ok (.aload_n 0, 1) := by decide +kernel
theorem dX11_row_49 : decode cX11_row 49 = .ok (.getfield 26, 3) := by decide +kernel
theorem dX11_row_52 : decode cX11_row 52 = .ok (.getfield 392, 3) := by decide +kernel
theorem dX11_row_55 : decode cX11_row 55 = .ok (.iload_n 1, 1) := by decide +kernel
theorem dX11_row_56 : decode cX11_row 56 = .ok (.iaload, 1) := by decide +kernel
theorem dX11_row_57 : decode cX11_row 57 = .ok (.ireturn, 1) := by decide +kernel
theorem dX11_row_58 : decode cX11_row 58 = .ok (.aload_n 0, 1) := by decide +kernel
theorem dX11_row_59 : decode cX11_row 59 = .ok (.getfield 26, 3) := by decide +kernel
theorem dX11_row_62 : decode cX11_row 62 = .ok (.getfield 395, 3) := by decide +kernel
theorem dX11_row_65 : decode cX11_row 65 = .ok (.iload_n 1, 1) := by decide +kernel
theorem dX11_row_66 : decode cX11_row 66 = .ok (.iaload, 1) := by decide +kernel
theorem dX11_row_67 : decode cX11_row 67 = .ok (.ireturn, 1) := by decide +kernel
theorem dX11_row_68 : decode cX11_row 68 = .ok (.bipush (-2), 2) := by decide +kernel
theorem dX11_row_70 : decode cX11_row 70 = .ok (.ireturn, 1) := by decide +kernel
def M_X11_row : y_M := (yX11_row, cX11_row, 3, (Option.some Jvm.ClassFile.FieldType.int))
theorem n_X11_row : y_N0 M_X11_row 2 := ⟨(c_6 81 (by decide +kernel) rfl), (c_1 1 (by decide +kernel) rfl), ⟨by decide +kernel, by decide +kernel⟩, by decide +kernel⟩
theorem F_BoxYard_391 : y_F "BoxYard" 391 4 4 := ⟨_, _, _, rfl, by decide, Or.inr ⟨"BoxYard", (c_1 223 (by decide +kernel) rfl)⟩⟩
theorem F_BoxYard_392 : y_F "BoxYard" 392 4 2 := ⟨_, _, _, rfl, by decide, Or.inr ⟨"BoxYard", (c_1 219 (by decide +kernel) rfl)⟩⟩
theorem F_BoxYard_395 : y_F "BoxYard" 395 4 3 := ⟨_, _, _, rfl, by decide, Or.inr ⟨"BoxYard", (c_1 221 (by decide +kernel) rfl)⟩⟩
set_option maxRecDepth 100000 in
def f_X11_row (p0 : Nat) (p1 : Int32) (p2 : Int32) (h : y_H) : Option (Int32 × y_H) :=
  if y_K h p0 = 12 then
  if y_K h (y_P h p0 2) = 5 then
  y_cl (f_X11_isWithin p1 0 ((y_I h (y_P h p0 2) 4) - 1) h) (fun r1 h2 =>
  if r1 = true then
    if p2 = 0 then
      if y_K h2 p0 = 12 then
      if y_K h2 (y_P h2 p0 2) = 5 then
      if y_K h2 (y_P h2 (y_P h2 p0 2) 2) = 100 ∧ y_ix p1 (y_N h2 (y_P h2 (y_P h2 p0 2) 2)) = true then
      some (y_I h2 (y_P h2 (y_P h2 p0 2) 2) (Int32.toNatClampNeg p1), h2)
      else none
      else none
      else none
    else
    if p2 = 1 then
      if y_K h2 p0 = 12 then
      if y_K h2 (y_P h2 p0 2) = 5 then
      if y_K h2 (y_P h2 (y_P h2 p0 2) 3) = 100 ∧ y_ix p1 (y_N h2 (y_P h2 (y_P h2 p0 2) 3)) = true then
      some (y_I h2 (y_P h2 (y_P h2 p0 2) 3) (Int32.toNatClampNeg p1), h2)
      else none
      else none
      else none
    else
    some ((-2 : Int32), h2)
  else
    some ((-1 : Int32), h2))
  else none
  else none
abbrev rm_X11_row : Room := { frames := 1, cells := 0, slots := 0, locals := 22 }
set_option maxRecDepth 100000 in
set_option maxHeartbeats 4000000 in
theorem k_X11_row {l : Launch} {G : y_G} {p0 : Nat} {p1 : Int32} {p2 : Int32} {h hz : y_H} {rz : Int32} (hf : f_X11_row p0 p1 p2 h = some (rz, hz)) : y_S l G M_X11_row rm_X11_row [y_p p0, .int p1, .int p2] h (some (.int rz)) hz := by
  refine y_start (lv := [(0, y_p p0), (1, .int p1), (2, .int p2)]) (by decide) (by simp [lg_sl, y_p_cat, y_ci, y_cj, M_X11_row]) (by simp [lv_args, y_p_cat, y_ci, y_cj]) (fun z ad0 => ?_)
  unfold f_X11_row at hf
  refine y_iload_n (pc2 := 1) rfl dX11_row_0 rfl ?_
  refine y_iconst (v := 0) (pc2 := 2) rfl dX11_row_1 (by decide) ?_
  refine y_aload_n (x := p0) (pc2 := 3) rfl dX11_row_2 rfl ?_
  obtain ⟨g14, hf⟩ := y_g hf
  refine y_getP (pc2 := 6) rfl dX11_row_3 F_BoxYard_26 (by decide) rfl g14 ?_
  obtain ⟨g13, hf⟩ := y_g hf
  refine y_getI (pc2 := 9) rfl dX11_row_6 F_BoxYard_391 (by decide) rfl g13 ?_
  refine y_iconst (v := 1) (pc2 := 10) rfl dX11_row_9 (by decide) ?_
  refine y_isub (pc2 := 11) rfl dX11_row_10 ?_
  obtain ⟨r1, h2, c3, hf⟩ := y_clE hf
  refine y_callS (As := [.int p1, .int 0, .int ((y_I h (y_P h p0 2) 4) - 1)]) (rm := rm_X11_isWithin) (cells := 0) (slots := 0) (pc2 := 14) rfl dX11_row_11 n_X11_isWithin l_BoxYard_56 t_X11_isWithin rfl rfl (by decide) (by decide) (by decide) (k_X11_isWithin c3) ?_
  refine y_ifz_ne (tgt := 19) (pc2 := 17) rfl dX11_row_14 (by decide) (fun c12 => ?_) (fun c12 => ?_)
  · replace hf := y_it c12 hf
    refine y_iload_n (pc2 := 20) rfl dX11_row_19 rfl ?_
    by_cases c4 : p2 = 0
    · replace hf := y_it c4 hf
      refine y_lookup (off := 28) (tgt := 48) dX11_row_20 (by decide) (by (rw [c4]) <;> decide) (by decide) ?_
      refine y_aload_n (x := p0) (pc2 := 49) rfl dX11_row_48 rfl ?_
      obtain ⟨g7, hf⟩ := y_g hf
      refine y_getP (pc2 := 52) rfl dX11_row_49 F_BoxYard_26 (by decide) rfl g7 ?_
      obtain ⟨g6, hf⟩ := y_g hf
      refine y_getP (pc2 := 55) rfl dX11_row_52 F_BoxYard_392 (by decide) rfl g6 ?_
      refine y_iload_n (pc2 := 56) rfl dX11_row_55 rfl ?_
      obtain ⟨g5, hf⟩ := y_g hf
      refine y_iald (pc2 := 57) rfl dX11_row_56 g5.1 (y_ix_in g5.2) ?_
      exact y_iretF hf dX11_row_57 rfl (by decide) (by decide)
    · replace hf := y_ie c4 hf
      by_cases c8 : p2 = 1
      · replace hf := y_it c8 hf
        refine y_lookup (off := 38) (tgt := 58) dX11_row_20 (by decide) (by (rw [c8]) <;> decide) (by decide) ?_
        refine y_aload_n (x := p0) (pc2 := 59) rfl dX11_row_58 rfl ?_
        obtain ⟨g11, hf⟩ := y_g hf
        refine y_getP (pc2 := 62) rfl dX11_row_59 F_BoxYard_26 (by decide) rfl g11 ?_
        obtain ⟨g10, hf⟩ := y_g hf
        refine y_getP (pc2 := 65) rfl dX11_row_62 F_BoxYard_395 (by decide) rfl g10 ?_
        refine y_iload_n (pc2 := 66) rfl dX11_row_65 rfl ?_
        obtain ⟨g9, hf⟩ := y_g hf
        refine y_iald (pc2 := 67) rfl dX11_row_66 g9.1 (y_ix_in g9.2) ?_
        exact y_iretF hf dX11_row_67 rfl (by decide) (by decide)
      · replace hf := y_ie c8 hf
        refine y_lookup (off := 48) (tgt := 68) dX11_row_20 (by decide) (by (show Op.lookupswitch.offset [(0, 28), (1, 38)] _ _ = _); rw [lv_osw (a := 0) c4 (by decide), lv_osw (a := 1) c8 (by decide)] <;> rfl) (by decide) ?_
        refine y_bipush (v := (-2 : Int32)) (pc2 := 70) rfl dX11_row_68 (by decide) ?_
        exact y_iretF hf dX11_row_70 rfl (by decide) (by decide)
  · replace hf := y_ie c12 hf
    refine y_iconst (v := (-1 : Int32)) (pc2 := 18) rfl dX11_row_17 (by decide) ?_
    exact y_iretF hf dX11_row_18 rfl (by decide) (by decide)
theorem dX11_alter_0 : decode cX11_alter 0 = .ok (.iload_n 1, 1) := by decide +kernel
theorem dX11_alter_1 : decode cX11_alter 1 = .ok (.iconst 0, 1) := by decide +kernel
theorem dX11_alter_2 : decode cX11_alter 2 = .ok (.aload_n 0, 1) := by decide +kernel
theorem dX11_alter_3 : decode cX11_alter 3 = .ok (.getfield 26, 3) := by decide +kernel
theorem dX11_alter_6 : decode cX11_alter 6 = .ok (.getfield 391, 3) := by decide +kernel
theorem dX11_alter_9 : decode cX11_alter 9 = .ok (.iconst 1, 1) := by decide +kernel
theorem dX11_alter_10 : decode cX11_alter 10 = .ok (.isub, 1) := by decide +kernel
theorem dX11_alter_11 : decode cX11_alter 11 = .ok (.invokestatic 56, 3) := by decide +kernel
theorem dX11_alter_14 : decode cX11_alter 14 = .ok (.ifCond .ne 5, 3) := by decide +kernel
theorem dX11_alter_17 : decode cX11_alter 17 = .ok (.iconst (-1), 1) := by decide +kernel
theorem dX11_alter_18 : decode cX11_alter 18 = .ok (.ireturn, 1) := by decide +kernel
theorem dX11_alter_19 : decode cX11_alter 19 = .ok (.aload_n 0, 1) := by decide +kernel
theorem dX11_alter_20 : decode cX11_alter 20 = .ok (.getfield 26, 3) := by decide +kernel
theorem dX11_alter_23 : decode cX11_alter 23 = .ok (.getfield 392, 3) := by decide +kernel
theorem dX11_alter_26 : decode cX11_alter 26 = .ok (.iload_n 1, 1) := by decide +kernel
theorem dX11_alter_27 : decode cX11_alter 27 = .ok (.iload_n 2, 1) := by decide +kernel
theorem dX11_alter_28 : decode cX11_alter 28 = .ok (.iastore, 1) := by decide +kernel
theorem dX11_alter_29 : decode cX11_alter 29 = .ok (.aload_n 0, 1) := by decide +kernel
theorem dX11_alter_30 : decode cX11_alter 30 = .ok (.getfield 26, 3) := by decide +kernel
theorem dX11_alter_33 : decode cX11_alter 33 = .ok (.getfield 395, 3) := by decide +kernel
theorem dX11_alter_36 : decode cX11_alter 36 = .ok (.iload_n 1, 1) := by decide +kernel
theorem dX11_alter_37 : decode cX11_alter 37 = .ok (.iload_n 3, 1) := by decide +kernel
theorem dX11_alter_38 : decode cX11_alter 38 = .ok (.iastore, 1) := by decide +kernel
theorem dX11_alter_39 : decode cX11_alter 39 = .ok (.iconst 1, 1) := by decide +kernel
theorem dX11_alter_40 : decode cX11_alter 40 = .ok (.ireturn, 1) := by decide +kernel
def M_X11_alter : y_M := (yX11_alter, cX11_alter, 4, (Option.some Jvm.ClassFile.FieldType.int))
theorem n_X11_alter : y_N0 M_X11_alter 3 := ⟨(c_6 85 (by decide +kernel) rfl), (c_1 1 (by decide +kernel) rfl), ⟨by decide +kernel, by decide +kernel⟩, by decide +kernel⟩
set_option maxRecDepth 100000 in
def f_X11_alter (p0 : Nat) (p1 : Int32) (p2 : Int32) (p3 : Int32) (h : y_H) : Option (Int32 × y_H) :=
  if y_K h p0 = 12 then
  if y_K h (y_P h p0 2) = 5 then
  y_cl (f_X11_isWithin p1 0 ((y_I h (y_P h p0 2) 4) - 1) h) (fun r1 h2 =>
  if r1 = true then
    if y_K h2 p0 = 12 then
    if y_K h2 (y_P h2 p0 2) = 5 then
    if y_K h2 (y_P h2 (y_P h2 p0 2) 2) = 100 ∧ y_ix p1 (y_N h2 (y_P h2 (y_P h2 p0 2) 2)) = true then
    y_bd (s_I h2 (y_P h2 (y_P h2 p0 2) 2) (Int32.toNatClampNeg p1) p2) (fun h4 =>
    if y_K h4 p0 = 12 then
    if y_K h4 (y_P h4 p0 2) = 5 then
    if y_K h4 (y_P h4 (y_P h4 p0 2) 3) = 100 ∧ y_ix p1 (y_N h4 (y_P h4 (y_P h4 p0 2) 3)) = true then
    y_bd (s_I h4 (y_P h4 (y_P h4 p0 2) 3) (Int32.toNatClampNeg p1) p3) (fun h7 =>
    some (1, h7))
    else none
    else none
    else none)
    else none
    else none
    else none
  else
    some ((-1 : Int32), h2))
  else none
  else none
abbrev rm_X11_alter : Room := { frames := 1, cells := 0, slots := 0, locals := 22 }
set_option maxRecDepth 100000 in
set_option maxHeartbeats 4000000 in
theorem k_X11_alter {l : Launch} {G : y_G} {p0 : Nat} {p1 : Int32} {p2 : Int32} {p3 : Int32} {h hz : y_H} {rz : Int32} (hf : f_X11_alter p0 p1 p2 p3 h = some (rz, hz)) : y_S l G M_X11_alter rm_X11_alter [y_p p0, .int p1, .int p2, .int p3] h (some (.int rz)) hz := by
  refine y_start (lv := [(0, y_p p0), (1, .int p1), (2, .int p2), (3, .int p3)]) (by decide) (by simp [lg_sl, y_p_cat, y_ci, y_cj, M_X11_alter]) (by simp [lv_args, y_p_cat, y_ci, y_cj]) (fun z ad0 => ?_)
  unfold f_X11_alter at hf
  refine y_iload_n (pc2 := 1) rfl dX11_alter_0 rfl ?_
  refine y_iconst (v := 0) (pc2 := 2) rfl dX11_alter_1 (by decide) ?_
  refine y_aload_n (x := p0) (pc2 := 3) rfl dX11_alter_2 rfl ?_
  obtain ⟨g16, hf⟩ := y_g hf
  refine y_getP (pc2 := 6) rfl dX11_alter_3 F_BoxYard_26 (by decide) rfl g16 ?_
  obtain ⟨g15, hf⟩ := y_g hf
  refine y_getI (pc2 := 9) rfl dX11_alter_6 F_BoxYard_391 (by decide) rfl g15 ?_
  refine y_iconst (v := 1) (pc2 := 10) rfl dX11_alter_9 (by decide) ?_
  refine y_isub (pc2 := 11) rfl dX11_alter_10 ?_
  obtain ⟨r1, h2, c3, hf⟩ := y_clE hf
  refine y_callS (As := [.int p1, .int 0, .int ((y_I h (y_P h p0 2) 4) - 1)]) (rm := rm_X11_isWithin) (cells := 0) (slots := 0) (pc2 := 14) rfl dX11_alter_11 n_X11_isWithin l_BoxYard_56 t_X11_isWithin rfl rfl (by decide) (by decide) (by decide) (k_X11_isWithin c3) ?_
  refine y_ifz_ne (tgt := 19) (pc2 := 17) rfl dX11_alter_14 (by decide) (fun c14 => ?_) (fun c14 => ?_)
  · replace hf := y_it c14 hf
    refine y_aload_n (x := p0) (pc2 := 20) rfl dX11_alter_19 rfl ?_
    obtain ⟨g13, hf⟩ := y_g hf
    refine y_getP (pc2 := 23) rfl dX11_alter_20 F_BoxYard_26 (by decide) rfl g13 ?_
    obtain ⟨g12, hf⟩ := y_g hf
    refine y_getP (pc2 := 26) rfl dX11_alter_23 F_BoxYard_392 (by decide) rfl g12 ?_
    refine y_iload_n (pc2 := 27) rfl dX11_alter_26 rfl ?_
    refine y_iload_n (pc2 := 28) rfl dX11_alter_27 rfl ?_
    obtain ⟨g6, hf⟩ := y_g hf
    obtain ⟨h4, e5, hf⟩ := y_bdE hf
    refine y_iast (x := p2) (pc2 := 29) rfl dX11_alter_28 g6.1 (y_ix_in g6.2) e5 ?_
    refine y_aload_n (x := p0) (pc2 := 30) rfl dX11_alter_29 rfl ?_
    obtain ⟨g11, hf⟩ := y_g hf
    refine y_getP (pc2 := 33) rfl dX11_alter_30 F_BoxYard_26 (by decide) rfl g11 ?_
    obtain ⟨g10, hf⟩ := y_g hf
    refine y_getP (pc2 := 36) rfl dX11_alter_33 F_BoxYard_395 (by decide) rfl g10 ?_
    refine y_iload_n (pc2 := 37) rfl dX11_alter_36 rfl ?_
    refine y_iload_n (pc2 := 38) rfl dX11_alter_37 rfl ?_
    obtain ⟨g9, hf⟩ := y_g hf
    obtain ⟨h7, e8, hf⟩ := y_bdE hf
    refine y_iast (x := p3) (pc2 := 39) rfl dX11_alter_38 g9.1 (y_ix_in g9.2) e8 ?_
    refine y_iconst (v := 1) (pc2 := 40) rfl dX11_alter_39 (by decide) ?_
    exact y_iretF hf dX11_alter_40 rfl (by decide) (by decide)
  · replace hf := y_ie c14 hf
    refine y_iconst (v := (-1 : Int32)) (pc2 := 18) rfl dX11_alter_17 (by decide) ?_
    exact y_iretF hf dX11_alter_18 rfl (by decide) (by decide)
theorem dX11_holds_0 : decode cX11_holds 0 = .ok (.aload_n 0, 1) := by decide +kernel
theorem dX11_holds_1 : decode cX11_holds 1 = .ok (.getfield 26, 3) := by decide +kernel
theorem dX11_holds_4 : decode cX11_holds 4 = .ok (.getfield 398, 3) := by decide +kernel
theorem dX11_holds_7 : decode cX11_holds 7 = .ok (.ifnonnull 6, 3) := by decide +kernel
theorem dX11_holds_10 : decode cX11_holds 10 = .ok (.bipush (-3), 2) := by decide +kernel
theorem dX11_holds_12 : decode cX11_holds 12 = .ok (.ireturn, 1) := by decide +kernel
theorem dX11_holds_13 : decode cX11_holds 13 = .ok (.aload_n 0, 1) := by decide +kernel
theorem dX11_holds_14 : decode cX11_holds 14 = .ok (.getfield 26, 3) := by decide +kernel
theorem dX11_holds_17 : decode cX11_holds 17 = .ok (.aload_n 0, 1) := by decide +kernel
theorem dX11_holds_18 : decode cX11_holds 18 = .ok (.getfield 26, 3) := by decide +kernel
theorem dX11_holds_21 : decode cX11_holds 21 = .ok (.getfield 398, 3) := by decide +kernel
theorem dX11_holds_24 : decode cX11_holds 24 = .ok (.invokevirtual 402, 3) := by decide +kernel
theorem dX11_holds_27 : decode cX11_holds 27 = .ok (.invokestatic 126, 3) := by decide +kernel
theorem dX11_holds_30 : decode cX11_holds 30 = .ok (.ireturn, 1) := by decide +kernel
def M_X11_holds : y_M := (yX11_holds, cX11_holds, 1, (Option.some Jvm.ClassFile.FieldType.int))
theorem n_X11_holds : y_N0 M_X11_holds 0 := ⟨(c_6 89 (by decide +kernel) rfl), (c_1 1 (by decide +kernel) rfl), ⟨by decide +kernel, by decide +kernel⟩, by decide +kernel⟩
theorem F_BoxYard_398 : y_F "BoxYard" 398 4 6 := ⟨_, _, _, rfl, by decide, Or.inr ⟨"BoxYard", (c_1 226 (by decide +kernel) rfl)⟩⟩
theorem l_BoxYard_402 : y_lnk "BoxYard" 402 M_X4_rowHolds := Or.inl (c_6 90 (by decide +kernel) rfl)
theorem i_X4_rowHolds : Cond.instanceMethod (M_X4_rowHolds).1 ∈ y_tb := (c_6 91 (by decide +kernel) rfl)
theorem e_X4_rowHolds : Cond.selects (M_X4_rowHolds).1.cls (M_X4_rowHolds).1 (M_X4_rowHolds).1 ∈ y_tb := (c_6 92 (by decide +kernel) rfl)
set_option maxRecDepth 100000 in
def f_X11_holds (p0 : Nat) (h : y_H) : Option (Int32 × y_H) :=
  if y_K h p0 = 12 then
  if y_K h (y_P h p0 2) = 5 then
  if (y_P h (y_P h p0 2) 6) = 0 then
    some ((-3 : Int32), h)
  else
    if y_K h p0 = 12 then
    if y_K h p0 = 12 then
    if y_K h (y_P h p0 2) = 5 then
    if y_K h (y_P h p0 2) = 5 then
    y_cl (f_X4_rowHolds (y_P h p0 2) (y_P h (y_P h p0 2) 6) h) (fun r1 h2 =>
    y_cl (f_X11_asBit r1 h2) (fun r4 h5 =>
    some (r4, h5)))
    else none
    else none
    else none
    else none
  else none
  else none
abbrev rm_X11_holds : Room := { frames := 3, cells := 0, slots := 0, locals := 69 }
set_option maxRecDepth 100000 in
set_option maxHeartbeats 4000000 in
theorem k_X11_holds {l : Launch} {G : y_G} {p0 : Nat} {h hz : y_H} {rz : Int32} (hf : f_X11_holds p0 h = some (rz, hz)) : y_S l G M_X11_holds rm_X11_holds [y_p p0] h (some (.int rz)) hz := by
  refine y_start (lv := [(0, y_p p0)]) (by decide) (by simp [lg_sl, y_p_cat, y_ci, y_cj, M_X11_holds]) (by simp [lv_args, y_p_cat, y_ci, y_cj]) (fun z ad0 => ?_)
  unfold f_X11_holds at hf
  refine y_aload_n (x := p0) (pc2 := 1) rfl dX11_holds_0 rfl ?_
  obtain ⟨g13, hf⟩ := y_g hf
  refine y_getP (pc2 := 4) rfl dX11_holds_1 F_BoxYard_26 (by decide) rfl g13 ?_
  obtain ⟨g12, hf⟩ := y_g hf
  refine y_getP (pc2 := 7) rfl dX11_holds_4 F_BoxYard_398 (by decide) rfl g12 ?_
  refine y_ifnonnull (tgt := 13) (pc2 := 10) rfl dX11_holds_7 (by decide) (fun c11 => ?_) (fun c11 => ?_)
  · replace hf := y_ie c11 hf
    refine y_aload_n (x := p0) (pc2 := 14) rfl dX11_holds_13 rfl ?_
    obtain ⟨g10, hf⟩ := y_g hf
    refine y_getP (pc2 := 17) rfl dX11_holds_14 F_BoxYard_26 (by decide) rfl g10 ?_
    refine y_aload_n (x := p0) (pc2 := 18) rfl dX11_holds_17 rfl ?_
    obtain ⟨g9, hf⟩ := y_g hf
    refine y_getP (pc2 := 21) rfl dX11_holds_18 F_BoxYard_26 (by decide) rfl g9 ?_
    obtain ⟨g8, hf⟩ := y_g hf
    refine y_getP (pc2 := 24) rfl dX11_holds_21 F_BoxYard_398 (by decide) rfl g8 ?_
    obtain ⟨g7, hf⟩ := y_g hf
    obtain ⟨r1, h2, c3, hf⟩ := y_clE hf
    refine y_callV (As := [y_p (y_P h (y_P h p0 2) 6)]) (rm := rm_X4_rowHolds) (cells := 0) (slots := 0) (pc2 := 27) rfl dX11_holds_24 n_X4_rowHolds l_BoxYard_402 i_X4_rowHolds e_X4_rowHolds (ci := 4) rfl rfl (by decide) g7 rfl rfl (by decide) (by decide) (by decide) (k_X4_rowHolds c3) ?_
    obtain ⟨r4, h5, c6, hf⟩ := y_clE hf
    refine y_callS (As := [.int (y_z r1)]) (rm := rm_X11_asBit) (cells := 0) (slots := 0) (pc2 := 30) rfl dX11_holds_27 n_X11_asBit l_BoxYard_126 t_X11_asBit rfl rfl (by decide) (by decide) (by decide) (k_X11_asBit c6) ?_
    exact y_iretF hf dX11_holds_30 rfl (by decide) (by decide)
  · replace hf := y_it c11 hf
    refine y_bipush (v := (-3 : Int32)) (pc2 := 12) rfl dX11_holds_10 (by decide) ?_
    exact y_iretF hf dX11_holds_12 rfl (by decide) (by decide)
theorem dX11_task_0 : decode cX11_task 0 = .ok (.aload_n 0, 1) := by decide +kernel
theorem dX11_task_1 : decode cX11_task 1 = .ok (.getfield 35, 3) := by decide +kernel
theorem dX11_task_4 : decode cX11_task 4 = .ok (.invokevirtual 405, 3) := by decide +kernel
theorem dX11_task_7 : decode cX11_task 7 = .ok (.ireturn, 1) := by decide +kernel
def M_X11_task : y_M := (yX11_task, cX11_task, 1, (Option.some Jvm.ClassFile.FieldType.int))
theorem n_X11_task : y_N0 M_X11_task 0 := ⟨(c_6 111 (by decide +kernel) rfl), (c_1 1 (by decide +kernel) rfl), ⟨by decide +kernel, by decide +kernel⟩, by decide +kernel⟩
theorem F_BoxYard_35 : y_F "BoxYard" 35 11 3 := ⟨_, _, _, rfl, by decide, Or.inl (c_2 74 (by decide +kernel) rfl)⟩
theorem l_BoxYard_405 : y_lnk "BoxYard" 405 M_X8_nextTask := Or.inl (c_6 112 (by decide +kernel) rfl)
theorem i_X8_nextTask : Cond.instanceMethod (M_X8_nextTask).1 ∈ y_tb := (c_6 113 (by decide +kernel) rfl)
theorem e_X8_nextTask : Cond.selects (M_X8_nextTask).1.cls (M_X8_nextTask).1 (M_X8_nextTask).1 ∈ y_tb := (c_6 114 (by decide +kernel) rfl)
set_option maxRecDepth 100000 in
def f_X11_task (p0 : Nat) (h : y_H) : Option (Int32 × y_H) :=
  if y_K h p0 = 12 then
  if y_K h (y_P h p0 3) = 9 then
  y_cl (f_X8_nextTask (y_P h p0 3) h) (fun r1 h2 =>
  some (r1, h2))
  else none
  else none
abbrev rm_X11_task : Room := { frames := 1, cells := 0, slots := 0, locals := 20 }
set_option maxRecDepth 100000 in
set_option maxHeartbeats 4000000 in
theorem k_X11_task {l : Launch} {G : y_G} {p0 : Nat} {h hz : y_H} {rz : Int32} (hf : f_X11_task p0 h = some (rz, hz)) : y_S l G M_X11_task rm_X11_task [y_p p0] h (some (.int rz)) hz := by
  refine y_start (lv := [(0, y_p p0)]) (by decide) (by simp [lg_sl, y_p_cat, y_ci, y_cj, M_X11_task]) (by simp [lv_args, y_p_cat, y_ci, y_cj]) (fun z ad0 => ?_)
  unfold f_X11_task at hf
  refine y_aload_n (x := p0) (pc2 := 1) rfl dX11_task_0 rfl ?_
  obtain ⟨g5, hf⟩ := y_g hf
  refine y_getP (pc2 := 4) rfl dX11_task_1 F_BoxYard_35 (by decide) rfl g5 ?_
  obtain ⟨g4, hf⟩ := y_g hf
  obtain ⟨r1, h2, c3, hf⟩ := y_clE hf
  refine y_callV (As := []) (rm := rm_X8_nextTask) (cells := 0) (slots := 0) (pc2 := 7) rfl dX11_task_4 n_X8_nextTask l_BoxYard_405 i_X8_nextTask e_X8_nextTask (ci := 8) rfl rfl (by decide) g4 rfl rfl (by decide) (by decide) (by decide) (k_X8_nextTask c3) ?_
  exact y_iretF hf dX11_task_7 rfl (by decide) (by decide)
theorem dX11_op_0 : decode cX11_op 0 = .ok (.aload_n 0, 1) := by decide +kernel
theorem dX11_op_1 : decode cX11_op 1 = .ok (.getfield 35, 3) := by decide +kernel
theorem dX11_op_4 : decode cX11_op 4 = .ok (.iload_n 1, 1) := by decide +kernel
theorem dX11_op_5 : decode cX11_op 5 = .ok (.invokevirtual 408, 3) := by decide +kernel
theorem dX11_op_8 : decode cX11_op 8 = .ok (.ifCond .ne 5, 3) := by decide +kernel
theorem dX11_op_11 : decode cX11_op 11 = .ok (.iconst (-1), 1) := by decide +kernel
theorem dX11_op_12 : decode cX11_op 12 = .ok (.ireturn, 1) := by decide +kernel
theorem dX11_op_13 : decode cX11_op 13 = .ok (.iload_n 2, 1) := by decide +kernel
theorem dX11_op_14 : decode cX11_op 14 = .ok (.iconst 0, 1) := by decide +kernel
theorem dX11_op_15 : decode cX11_op 15 = .ok (.bipush 15, 2) := by decide +kernel
theorem dX11_op_17 : decode cX11_op 17 = .ok (.invokestatic 56, 3) := by decide +kernel
theorem dX11_op_20 : decode cX11_op 20 = .ok (.ifCond .ne 6, 3) := by decide +kernel
theorem dX11_op_23 : decode cX11_op 23 = .ok (.bipush (-2), 2) := by decide +kernel
theorem dX11_op_25 : decode cX11_op 25 = .ok (.ireturn, 1) := by decide +kernel
theorem dX11_op_26 : decode cX11_op 26 = .ok (.aload_n 0, 1) := by decide +kernel
theorem dX11_op_27 : decode cX11_op 27 = .ok (.getfield 35, 3) := by decide +kernel
theorem dX11_op_30 : decode cX11_op 30 = .ok (.iload_n 1, 1) := by decide +kernel
theorem dX11_op_31 : decode cX11_op 31 = .ok (.iload_n 2, 1) := by decide +kernel
theorem dX11_op_32 : decode cX11_op 32 = .ok (.iload_n 3, 1) := by decide +kernel
theorem dX11_op_33 : decode cX11_op 33 = .ok (.iload 4, 2) := by decide +kernel
theorem dX11_op_35 : decode cX11_op 35 = .ok (.invokevirtual 411, 3) := by decide +kernel
theorem dX11_op_38 : decode cX11_op 38 = .ok (.ireturn, 1) := by decide +kernel
def M_X11_op : y_M := (yX11_op, cX11_op, 5, (Option.some Jvm.ClassFile.FieldType.int))
theorem n_X11_op : y_N0 M_X11_op 4 := ⟨(c_6 119 (by decide +kernel) rfl), (c_1 1 (by decide +kernel) rfl), ⟨by decide +kernel, by decide +kernel⟩, by decide +kernel⟩
theorem l_BoxYard_408 : y_lnk "BoxYard" 408 M_X8_has := Or.inl (c_6 120 (by decide +kernel) rfl)
theorem l_BoxYard_411 : y_lnk "BoxYard" 411 M_X8_addOp := Or.inl (c_6 125 (by decide +kernel) rfl)
theorem i_X8_addOp : Cond.instanceMethod (M_X8_addOp).1 ∈ y_tb := (c_6 126 (by decide +kernel) rfl)
theorem e_X8_addOp : Cond.selects (M_X8_addOp).1.cls (M_X8_addOp).1 (M_X8_addOp).1 ∈ y_tb := (c_6 127 (by decide +kernel) rfl)
set_option maxRecDepth 100000 in
def f_X11_op (p0 : Nat) (p1 : Int32) (p2 : Int32) (p3 : Int32) (p4 : Int32) (h : y_H) : Option (Int32 × y_H) :=
  if y_K h p0 = 12 then
  if y_K h (y_P h p0 3) = 9 then
  y_cl (f_X8_has (y_P h p0 3) p1 h) (fun r1 h2 =>
  if r1 = true then
    y_cl (f_X11_isWithin p2 0 15 h2) (fun r4 h5 =>
    if r4 = true then
      if y_K h5 p0 = 12 then
      if y_K h5 (y_P h5 p0 3) = 9 then
      y_cl (f_X8_addOp (y_P h5 p0 3) p1 p2 p3 p4 h5) (fun r7 h8 =>
      some (r7, h8))
      else none
      else none
    else
      some ((-2 : Int32), h5))
  else
    some ((-1 : Int32), h2))
  else none
  else none
abbrev rm_X11_op : Room := { frames := 3, cells := 0, slots := 0, locals := 68 }
set_option maxRecDepth 100000 in
set_option maxHeartbeats 4000000 in
theorem k_X11_op {l : Launch} {G : y_G} {p0 : Nat} {p1 : Int32} {p2 : Int32} {p3 : Int32} {p4 : Int32} {h hz : y_H} {rz : Int32} (hf : f_X11_op p0 p1 p2 p3 p4 h = some (rz, hz)) : y_S l G M_X11_op rm_X11_op [y_p p0, .int p1, .int p2, .int p3, .int p4] h (some (.int rz)) hz := by
  refine y_start (lv := [(0, y_p p0), (1, .int p1), (2, .int p2), (3, .int p3), (4, .int p4)]) (by decide) (by simp [lg_sl, y_p_cat, y_ci, y_cj, M_X11_op]) (by simp [lv_args, y_p_cat, y_ci, y_cj]) (fun z ad0 => ?_)
  unfold f_X11_op at hf
  refine y_aload_n (x := p0) (pc2 := 1) rfl dX11_op_0 rfl ?_
  obtain ⟨g15, hf⟩ := y_g hf
  refine y_getP (pc2 := 4) rfl dX11_op_1 F_BoxYard_35 (by decide) rfl g15 ?_
  refine y_iload_n (pc2 := 5) rfl dX11_op_4 rfl ?_
  obtain ⟨g14, hf⟩ := y_g hf
  obtain ⟨r1, h2, c3, hf⟩ := y_clE hf
  refine y_callV (As := [.int p1]) (rm := rm_X8_has) (cells := 0) (slots := 0) (pc2 := 8) rfl dX11_op_5 n_X8_has l_BoxYard_408 i_X8_has e_X8_has (ci := 8) rfl rfl (by decide) g14 rfl rfl (by decide) (by decide) (by decide) (k_X8_has c3) ?_
  refine y_ifz_ne (tgt := 13) (pc2 := 11) rfl dX11_op_8 (by decide) (fun c13 => ?_) (fun c13 => ?_)
  · replace hf := y_it c13 hf
    refine y_iload_n (pc2 := 14) rfl dX11_op_13 rfl ?_
    refine y_iconst (v := 0) (pc2 := 15) rfl dX11_op_14 (by decide) ?_
    refine y_bipush (v := 15) (pc2 := 17) rfl dX11_op_15 (by decide) ?_
    obtain ⟨r4, h5, c6, hf⟩ := y_clE hf
    refine y_callS (As := [.int p2, .int 0, .int 15]) (rm := rm_X11_isWithin) (cells := 0) (slots := 0) (pc2 := 20) rfl dX11_op_17 n_X11_isWithin l_BoxYard_56 t_X11_isWithin rfl rfl (by decide) (by decide) (by decide) (k_X11_isWithin c6) ?_
    refine y_ifz_ne (tgt := 26) (pc2 := 23) rfl dX11_op_20 (by decide) (fun c12 => ?_) (fun c12 => ?_)
    · replace hf := y_it c12 hf
      refine y_aload_n (x := p0) (pc2 := 27) rfl dX11_op_26 rfl ?_
      obtain ⟨g11, hf⟩ := y_g hf
      refine y_getP (pc2 := 30) rfl dX11_op_27 F_BoxYard_35 (by decide) rfl g11 ?_
      refine y_iload_n (pc2 := 31) rfl dX11_op_30 rfl ?_
      refine y_iload_n (pc2 := 32) rfl dX11_op_31 rfl ?_
      refine y_iload_n (pc2 := 33) rfl dX11_op_32 rfl ?_
      refine y_iload (pc2 := 35) rfl dX11_op_33 rfl ?_
      obtain ⟨g10, hf⟩ := y_g hf
      obtain ⟨r7, h8, c9, hf⟩ := y_clE hf
      refine y_callV (As := [.int p1, .int p2, .int p3, .int p4]) (rm := rm_X8_addOp) (cells := 0) (slots := 0) (pc2 := 38) rfl dX11_op_35 n_X8_addOp l_BoxYard_411 i_X8_addOp e_X8_addOp (ci := 8) rfl rfl (by decide) g10 rfl rfl (by decide) (by decide) (by decide) (k_X8_addOp c9) ?_
      exact y_iretF hf dX11_op_38 rfl (by decide) (by decide)
    · replace hf := y_ie c12 hf
      refine y_bipush (v := (-2 : Int32)) (pc2 := 25) rfl dX11_op_23 (by decide) ?_
      exact y_iretF hf dX11_op_25 rfl (by decide) (by decide)
  · replace hf := y_ie c13 hf
    refine y_iconst (v := (-1 : Int32)) (pc2 := 12) rfl dX11_op_11 (by decide) ?_
    exact y_iretF hf dX11_op_12 rfl (by decide) (by decide)
theorem dX11_number_0 : decode cX11_number 0 = .ok (.aload_n 0, 1) := by decide +kernel
theorem dX11_number_1 : decode cX11_number 1 = .ok (.getfield 35, 3) := by decide +kernel
theorem dX11_number_4 : decode cX11_number 4 = .ok (.getfield 418, 3) := by decide +kernel
theorem dX11_number_7 : decode cX11_number 7 = .ok (.lreturn, 1) := by decide +kernel
def M_X11_number : y_M := (yX11_number, cX11_number, 1, (Option.some Jvm.ClassFile.FieldType.long))
theorem n_X11_number : y_N0 M_X11_number 0 := ⟨(c_7 6 (by decide +kernel) rfl), (c_1 1 (by decide +kernel) rfl), ⟨by decide +kernel, by decide +kernel⟩, by decide +kernel⟩
theorem F_BoxYard_418 : y_F "BoxYard" 418 8 9 := ⟨_, _, _, rfl, by decide, Or.inr ⟨"BoxYard", (c_2 35 (by decide +kernel) rfl)⟩⟩
set_option maxRecDepth 100000 in
def f_X11_number (p0 : Nat) (h : y_H) : Option (Int64 × y_H) :=
  if y_K h p0 = 12 then
  if y_K h (y_P h p0 3) = 9 then
  some (y_L h (y_P h p0 3) 9, h)
  else none
  else none
abbrev rm_X11_number : Room := { frames := 0, cells := 0, slots := 0, locals := 0 }
set_option maxRecDepth 100000 in
set_option maxHeartbeats 4000000 in
theorem k_X11_number {l : Launch} {G : y_G} {p0 : Nat} {h hz : y_H} {rz : Int64} (hf : f_X11_number p0 h = some (rz, hz)) : y_S l G M_X11_number rm_X11_number [y_p p0] h (some (.long rz)) hz := by
  refine y_start (lv := [(0, y_p p0)]) (by decide) (by simp [lg_sl, y_p_cat, y_ci, y_cj, M_X11_number]) (by simp [lv_args, y_p_cat, y_ci, y_cj]) (fun z ad0 => ?_)
  unfold f_X11_number at hf
  refine y_aload_n (x := p0) (pc2 := 1) rfl dX11_number_0 rfl ?_
  obtain ⟨g2, hf⟩ := y_g hf
  refine y_getP (pc2 := 4) rfl dX11_number_1 F_BoxYard_35 (by decide) rfl g2 ?_
  obtain ⟨g1, hf⟩ := y_g hf
  refine y_getL (pc2 := 7) rfl dX11_number_4 F_BoxYard_418 (by decide) rfl g1 ?_
  exact y_lretF hf dX11_number_7 rfl (by decide) (by decide)
theorem dX11_ran_0 : decode cX11_ran 0 = .ok (.iload_n 1, 1) := by decide +kernel
theorem dX11_ran_1 : decode cX11_ran 1 = .ok (.iconst 0, 1) := by decide +kernel
theorem dX11_ran_2 : decode cX11_ran 2 = .ok (.iconst 3, 1) := by decide +kernel
theorem dX11_ran_3 : decode cX11_ran 3 = .ok (.invokestatic 56, 3) := by decide +kernel
theorem dX11_ran_6 : decode cX11_ran 6 = .ok (.ifCond .ne 6, 3) := by decide +kernel
theorem dX11_ran_9 : decode cX11_ran 9 = .ok (.bipush (-2), 2) := by decide +kernel
theorem dX11_ran_11 : decode cX11_ran 11 = .ok (.ireturn, 1) := by decide +kernel
theorem dX11_ran_12 : decode cX11_ran 12 = .ok (.aload_n 0, 1) := by decide +kernel
theorem dX11_ran_13 : decode cX11_ran 13 = .ok (.getfield 35, 3) := by decide +kernel
theorem dX11_ran_16 : decode cX11_ran 16 = .ok (.iload_n 1, 1) := by decide +kernel
theorem dX11_ran_17 : decode cX11_ran 17 = .ok (.invokevirtual 422, 3) := by decide +kernel
theorem dX11_ran_20 : decode cX11_ran 20 = .ok (.ireturn, 1) := by decide +kernel
def M_X11_ran : y_M := (yX11_ran, cX11_ran, 2, (Option.some Jvm.ClassFile.FieldType.int))
theorem n_X11_ran : y_N0 M_X11_ran 1 := ⟨(c_7 10 (by decide +kernel) rfl), (c_1 1 (by decide +kernel) rfl), ⟨by decide +kernel, by decide +kernel⟩, by decide +kernel⟩
theorem l_BoxYard_422 : y_lnk "BoxYard" 422 M_X8_told := Or.inl (c_7 11 (by decide +kernel) rfl)
theorem i_X8_told : Cond.instanceMethod (M_X8_told).1 ∈ y_tb := (c_7 12 (by decide +kernel) rfl)
theorem e_X8_told : Cond.selects (M_X8_told).1.cls (M_X8_told).1 (M_X8_told).1 ∈ y_tb := (c_7 13 (by decide +kernel) rfl)
set_option maxRecDepth 100000 in
def f_X11_ran (p0 : Nat) (p1 : Int32) (h : y_H) : Option (Int32 × y_H) :=
  y_cl (f_X11_isWithin p1 0 3 h) (fun r1 h2 =>
  if r1 = true then
    if y_K h2 p0 = 12 then
    if y_K h2 (y_P h2 p0 3) = 9 then
    y_cl (f_X8_told (y_P h2 p0 3) p1 h2) (fun r4 h5 =>
    some (r4, h5))
    else none
    else none
  else
    some ((-2 : Int32), h2))
abbrev rm_X11_ran : Room := { frames := 1, cells := 0, slots := 0, locals := 22 }
set_option maxRecDepth 100000 in
set_option maxHeartbeats 4000000 in
theorem k_X11_ran {l : Launch} {G : y_G} {p0 : Nat} {p1 : Int32} {h hz : y_H} {rz : Int32} (hf : f_X11_ran p0 p1 h = some (rz, hz)) : y_S l G M_X11_ran rm_X11_ran [y_p p0, .int p1] h (some (.int rz)) hz := by
  refine y_start (lv := [(0, y_p p0), (1, .int p1)]) (by decide) (by simp [lg_sl, y_p_cat, y_ci, y_cj, M_X11_ran]) (by simp [lv_args, y_p_cat, y_ci, y_cj]) (fun z ad0 => ?_)
  unfold f_X11_ran at hf
  refine y_iload_n (pc2 := 1) rfl dX11_ran_0 rfl ?_
  refine y_iconst (v := 0) (pc2 := 2) rfl dX11_ran_1 (by decide) ?_
  refine y_iconst (v := 3) (pc2 := 3) rfl dX11_ran_2 (by decide) ?_
  obtain ⟨r1, h2, c3, hf⟩ := y_clE hf
  refine y_callS (As := [.int p1, .int 0, .int 3]) (rm := rm_X11_isWithin) (cells := 0) (slots := 0) (pc2 := 6) rfl dX11_ran_3 n_X11_isWithin l_BoxYard_56 t_X11_isWithin rfl rfl (by decide) (by decide) (by decide) (k_X11_isWithin c3) ?_
  refine y_ifz_ne (tgt := 12) (pc2 := 9) rfl dX11_ran_6 (by decide) (fun c9 => ?_) (fun c9 => ?_)
  · replace hf := y_it c9 hf
    refine y_aload_n (x := p0) (pc2 := 13) rfl dX11_ran_12 rfl ?_
    obtain ⟨g8, hf⟩ := y_g hf
    refine y_getP (pc2 := 16) rfl dX11_ran_13 F_BoxYard_35 (by decide) rfl g8 ?_
    refine y_iload_n (pc2 := 17) rfl dX11_ran_16 rfl ?_
    obtain ⟨g7, hf⟩ := y_g hf
    obtain ⟨r4, h5, c6, hf⟩ := y_clE hf
    refine y_callV (As := [.int p1]) (rm := rm_X8_told) (cells := 0) (slots := 0) (pc2 := 20) rfl dX11_ran_17 n_X8_told l_BoxYard_422 i_X8_told e_X8_told (ci := 8) rfl rfl (by decide) g7 rfl rfl (by decide) (by decide) (by decide) (k_X8_told c6) ?_
    exact y_iretF hf dX11_ran_20 rfl (by decide) (by decide)
  · replace hf := y_ie c9 hf
    refine y_bipush (v := (-2 : Int32)) (pc2 := 11) rfl dX11_ran_9 (by decide) ?_
    exact y_iretF hf dX11_ran_11 rfl (by decide) (by decide)
theorem dX11_shelf_0 : decode cX11_shelf 0 = .ok (.aload_n 0, 1) := by decide +kernel
theorem dX11_shelf_1 : decode cX11_shelf 1 = .ok (.getfield 35, 3) := by decide +kernel
theorem dX11_shelf_4 : decode cX11_shelf 4 = .ok (.iload_n 1, 1) := by decide +kernel
theorem dX11_shelf_5 : decode cX11_shelf 5 = .ok (.iload_n 2, 1) := by decide +kernel
theorem dX11_shelf_6 : decode cX11_shelf 6 = .ok (.invokevirtual 425, 3) := by decide +kernel
theorem dX11_shelf_9 : decode cX11_shelf 9 = .ok (.ifCond .ne 5, 3) := by decide +kernel
theorem dX11_shelf_12 : decode cX11_shelf 12 = .ok (.iconst (-1), 1) := by decide +kernel
theorem dX11_shelf_13 : decode cX11_shelf 13 = .ok (.ireturn, 1) := by decide +kernel
theorem dX11_shelf_14 : decode cX11_shelf 14 = .ok (.aload_n 0, 1) := by decide +kernel
theorem dX11_shelf_15 : decode cX11_shelf 15 = .ok (.getfield 35, 3) := by decide +kernel
theorem dX11_shelf_18 : decode cX11_shelf 18 = .ok (.getfield 428, 3) := by decide +kernel
theorem dX11_shelf_21 : decode cX11_shelf 21 = .ok (.iload_n 1, 1) := by decide +kernel
theorem dX11_shelf_22 : decode cX11_shelf 22 = .ok (.aaload, 1) := by decide +kernel
theorem dX11_shelf_23 : decode cX11_shelf 23 = .ok (.iload_n 2, 1) := by decide +kernel
theorem dX11_shelf_24 : decode cX11_shelf 24 = .ok (.iaload, 1) := by decide +kernel
theorem dX11_shelf_25 : decode cX11_shelf 25 = .ok (.ireturn, 1) := by decide +kernel
def M_X11_shelf : y_M := (yX11_shelf, cX11_shelf, 3, (Option.some Jvm.ClassFile.FieldType.int))
theorem n_X11_shelf : y_N0 M_X11_shelf 2 := ⟨(c_7 18 (by decide +kernel) rfl), (c_1 1 (by decide +kernel) rfl), ⟨by decide +kernel, by decide +kernel⟩, by decide +kernel⟩
theorem l_BoxYard_425 : y_lnk "BoxYard" 425 M_X8_hasPlace := Or.inl (c_7 19 (by decide +kernel) rfl)
theorem F_BoxYard_428 : y_F "BoxYard" 428 8 12 := ⟨_, _, _, rfl, by decide, Or.inr ⟨"BoxYard", (c_2 39 (by decide +kernel) rfl)⟩⟩
set_option maxRecDepth 100000 in
def f_X11_shelf (p0 : Nat) (p1 : Int32) (p2 : Int32) (h : y_H) : Option (Int32 × y_H) :=
  if y_K h p0 = 12 then
  if y_K h (y_P h p0 3) = 9 then
  y_cl (f_X8_hasPlace (y_P h p0 3) p1 p2 h) (fun r1 h2 =>
  if r1 = true then
    if y_K h2 p0 = 12 then
    if y_K h2 (y_P h2 p0 3) = 9 then
    if y_K h2 (y_P h2 (y_P h2 p0 3) 12) = 108 ∧ y_ix p1 (y_N h2 (y_P h2 (y_P h2 p0 3) 12)) = true then
    if y_K h2 (y_P h2 (y_P h2 (y_P h2 p0 3) 12) (Int32.toNatClampNeg p1)) = 100 ∧ y_ix p2 (y_N h2 (y_P h2 (y_P h2 (y_P h2 p0 3) 12) (Int32.toNatClampNeg p1))) = true then
    some (y_I h2 (y_P h2 (y_P h2 (y_P h2 p0 3) 12) (Int32.toNatClampNeg p1)) (Int32.toNatClampNeg p2), h2)
    else none
    else none
    else none
    else none
  else
    some ((-1 : Int32), h2))
  else none
  else none
abbrev rm_X11_shelf : Room := { frames := 2, cells := 0, slots := 0, locals := 44 }
set_option maxRecDepth 100000 in
set_option maxHeartbeats 4000000 in
theorem k_X11_shelf {l : Launch} {G : y_G} {p0 : Nat} {p1 : Int32} {p2 : Int32} {h hz : y_H} {rz : Int32} (hf : f_X11_shelf p0 p1 p2 h = some (rz, hz)) : y_S l G M_X11_shelf rm_X11_shelf [y_p p0, .int p1, .int p2] h (some (.int rz)) hz := by
  refine y_start (lv := [(0, y_p p0), (1, .int p1), (2, .int p2)]) (by decide) (by simp [lg_sl, y_p_cat, y_ci, y_cj, M_X11_shelf]) (by simp [lv_args, y_p_cat, y_ci, y_cj]) (fun z ad0 => ?_)
  unfold f_X11_shelf at hf
  refine y_aload_n (x := p0) (pc2 := 1) rfl dX11_shelf_0 rfl ?_
  obtain ⟨g10, hf⟩ := y_g hf
  refine y_getP (pc2 := 4) rfl dX11_shelf_1 F_BoxYard_35 (by decide) rfl g10 ?_
  refine y_iload_n (pc2 := 5) rfl dX11_shelf_4 rfl ?_
  refine y_iload_n (pc2 := 6) rfl dX11_shelf_5 rfl ?_
  obtain ⟨g9, hf⟩ := y_g hf
  obtain ⟨r1, h2, c3, hf⟩ := y_clE hf
  refine y_callV (As := [.int p1, .int p2]) (rm := rm_X8_hasPlace) (cells := 0) (slots := 0) (pc2 := 9) rfl dX11_shelf_6 n_X8_hasPlace l_BoxYard_425 i_X8_hasPlace e_X8_hasPlace (ci := 8) rfl rfl (by decide) g9 rfl rfl (by decide) (by decide) (by decide) (k_X8_hasPlace c3) ?_
  refine y_ifz_ne (tgt := 14) (pc2 := 12) rfl dX11_shelf_9 (by decide) (fun c8 => ?_) (fun c8 => ?_)
  · replace hf := y_it c8 hf
    refine y_aload_n (x := p0) (pc2 := 15) rfl dX11_shelf_14 rfl ?_
    obtain ⟨g7, hf⟩ := y_g hf
    refine y_getP (pc2 := 18) rfl dX11_shelf_15 F_BoxYard_35 (by decide) rfl g7 ?_
    obtain ⟨g6, hf⟩ := y_g hf
    refine y_getP (pc2 := 21) rfl dX11_shelf_18 F_BoxYard_428 (by decide) rfl g6 ?_
    refine y_iload_n (pc2 := 22) rfl dX11_shelf_21 rfl ?_
    obtain ⟨g5, hf⟩ := y_g hf
    refine y_aald (t := 8) (pc2 := 23) rfl dX11_shelf_22 (by decide) rfl g5.1 (y_ix_in g5.2) ?_
    refine y_iload_n (pc2 := 24) rfl dX11_shelf_23 rfl ?_
    obtain ⟨g4, hf⟩ := y_g hf
    refine y_iald (pc2 := 25) rfl dX11_shelf_24 g4.1 (y_ix_in g4.2) ?_
    exact y_iretF hf dX11_shelf_25 rfl (by decide) (by decide)
  · replace hf := y_ie c8 hf
    refine y_iconst (v := (-1 : Int32)) (pc2 := 13) rfl dX11_shelf_12 (by decide) ?_
    exact y_iretF hf dX11_shelf_13 rfl (by decide) (by decide)
theorem dX11_status_0 : decode cX11_status 0 = .ok (.aload_n 0, 1) := by decide +kernel
theorem dX11_status_1 : decode cX11_status 1 = .ok (.getfield 52, 3) := by decide +kernel
theorem dX11_status_4 : decode cX11_status 4 = .ok (.ireturn, 1) := by decide +kernel
def M_X11_status : y_M := (yX11_status, cX11_status, 1, (Option.some Jvm.ClassFile.FieldType.int))
theorem n_X11_status : y_N0 M_X11_status 0 := ⟨(c_7 23 (by decide +kernel) rfl), (c_1 1 (by decide +kernel) rfl), ⟨by decide +kernel, by decide +kernel⟩, by decide +kernel⟩
theorem F_BoxYard_52 : y_F "BoxYard" 52 11 6 := ⟨_, _, _, rfl, by decide, Or.inl (c_2 77 (by decide +kernel) rfl)⟩
set_option maxRecDepth 100000 in
def f_X11_status (p0 : Nat) (h : y_H) : Option (Int32 × y_H) :=
  if y_K h p0 = 12 then
  some (y_I h p0 6, h)
  else none
abbrev rm_X11_status : Room := { frames := 0, cells := 0, slots := 0, locals := 0 }
set_option maxRecDepth 100000 in
set_option maxHeartbeats 4000000 in
theorem k_X11_status {l : Launch} {G : y_G} {p0 : Nat} {h hz : y_H} {rz : Int32} (hf : f_X11_status p0 h = some (rz, hz)) : y_S l G M_X11_status rm_X11_status [y_p p0] h (some (.int rz)) hz := by
  refine y_start (lv := [(0, y_p p0)]) (by decide) (by simp [lg_sl, y_p_cat, y_ci, y_cj, M_X11_status]) (by simp [lv_args, y_p_cat, y_ci, y_cj]) (fun z ad0 => ?_)
  unfold f_X11_status at hf
  refine y_aload_n (x := p0) (pc2 := 1) rfl dX11_status_0 rfl ?_
  obtain ⟨g1, hf⟩ := y_g hf
  refine y_getI (pc2 := 4) rfl dX11_status_1 F_BoxYard_52 (by decide) rfl g1 ?_
  exact y_iretF hf dX11_status_4 rfl (by decide) (by decide)
theorem dX11_found_0 : decode cX11_found 0 = .ok (.iload_n 1, 1) := by decide +kernel
theorem dX11_found_1 : decode cX11_found 1 = .ok (.iconst 1, 1) := by decide +kernel
theorem dX11_found_2 : decode cX11_found 2 = .ok (.bipush 7, 2) := by decide +kernel
theorem dX11_found_4 : decode cX11_found 4 = .ok (.invokestatic 56, 3) := by decide +kernel
theorem dX11_found_7 : decode cX11_found 7 = .ok (.ifCond .eq 12, 3) := by decide +kernel
theorem dX11_found_10 : decode cX11_found 10 = .ok (.aload_n 0, 1) := by decide +kernel
theorem dX11_found_11 : decode cX11_found 11 = .ok (.getfield 39, 3) := by decide +kernel
theorem dX11_found_14 : decode cX11_found 14 = .ok (.iload_n 1, 1) := by decide +kernel
theorem dX11_found_15 : decode cX11_found 15 = .ok (.iaload, 1) := by decide +kernel
theorem dX11_found_16 : decode cX11_found 16 = .ok (.goto 4, 3) := by decide +kernel
theorem dX11_found_19 : decode cX11_found 19 = .ok (.iconst (-1), 1) := by decide +kernel
theorem dX11_found_20 : decode cX11_found 20 = .ok (.ireturn, 1) := by decide +kernel
def M_X11_found : y_M := (yX11_found, cX11_found, 2, (Option.some Jvm.ClassFile.FieldType.int))
theorem n_X11_found : y_N0 M_X11_found 1 := ⟨(c_7 27 (by decide +kernel) rfl), (c_1 1 (by decide +kernel) rfl), ⟨by decide +kernel, by decide +kernel⟩, by decide +kernel⟩
set_option maxRecDepth 100000 in
def f_X11_found (p0 : Nat) (p1 : Int32) (h : y_H) : Option (Int32 × y_H) :=
  y_cl (f_X11_isWithin p1 1 7 h) (fun r1 h2 =>
  if r1 = true then
    if y_K h2 p0 = 12 then
    if y_K h2 (y_P h2 p0 4) = 100 ∧ y_ix p1 (y_N h2 (y_P h2 p0 4)) = true then
    some (y_I h2 (y_P h2 p0 4) (Int32.toNatClampNeg p1), h2)
    else none
    else none
  else
    some ((-1 : Int32), h2))
abbrev rm_X11_found : Room := { frames := 1, cells := 0, slots := 0, locals := 22 }
set_option maxRecDepth 100000 in
set_option maxHeartbeats 4000000 in
theorem k_X11_found {l : Launch} {G : y_G} {p0 : Nat} {p1 : Int32} {h hz : y_H} {rz : Int32} (hf : f_X11_found p0 p1 h = some (rz, hz)) : y_S l G M_X11_found rm_X11_found [y_p p0, .int p1] h (some (.int rz)) hz := by
  refine y_start (lv := [(0, y_p p0), (1, .int p1)]) (by decide) (by simp [lg_sl, y_p_cat, y_ci, y_cj, M_X11_found]) (by simp [lv_args, y_p_cat, y_ci, y_cj]) (fun z ad0 => ?_)
  unfold f_X11_found at hf
  refine y_iload_n (pc2 := 1) rfl dX11_found_0 rfl ?_
  refine y_iconst (v := 1) (pc2 := 2) rfl dX11_found_1 (by decide) ?_
  refine y_bipush (v := 7) (pc2 := 4) rfl dX11_found_2 (by decide) ?_
  obtain ⟨r1, h2, c3, hf⟩ := y_clE hf
  refine y_callS (As := [.int p1, .int 1, .int 7]) (rm := rm_X11_isWithin) (cells := 0) (slots := 0) (pc2 := 7) rfl dX11_found_4 n_X11_isWithin l_BoxYard_56 t_X11_isWithin rfl rfl (by decide) (by decide) (by decide) (k_X11_isWithin c3) ?_
  refine y_ifz_eq (tgt := 19) (pc2 := 10) rfl dX11_found_7 (by decide) (fun c6 => ?_) (fun c6 => ?_)
  · replace hf := y_ie c6 hf
    refine y_iconst (v := (-1 : Int32)) (pc2 := 20) rfl dX11_found_19 (by decide) ?_
    exact y_iretF hf dX11_found_20 rfl (by decide) (by decide)
  · replace hf := y_it c6 hf
    refine y_aload_n (x := p0) (pc2 := 11) rfl dX11_found_10 rfl ?_
    obtain ⟨g5, hf⟩ := y_g hf
    refine y_getP (pc2 := 14) rfl dX11_found_11 F_BoxYard_39 (by decide) rfl g5 ?_
    refine y_iload_n (pc2 := 15) rfl dX11_found_14 rfl ?_
    obtain ⟨g4, hf⟩ := y_g hf
    refine y_iald (pc2 := 16) rfl dX11_found_15 g4.1 (y_ix_in g4.2) ?_
    refine y_goto (tgt := 20) dX11_found_16 (by decide) ?_
    exact y_iretF hf dX11_found_20 rfl (by decide) (by decide)
theorem dX11_trace_0 : decode cX11_trace 0 = .ok (.aload_n 0, 1) := by decide +kernel
theorem dX11_trace_1 : decode cX11_trace 1 = .ok (.getfield 10, 3) := by decide +kernel
theorem dX11_trace_4 : decode cX11_trace 4 = .ok (.getfield 77, 3) := by decide +kernel
theorem dX11_trace_7 : decode cX11_trace 7 = .ok (.iload_n 1, 1) := by decide +kernel
theorem dX11_trace_8 : decode cX11_trace 8 = .ok (.invokevirtual 432, 3) := by decide +kernel
theorem dX11_trace_11 : decode cX11_trace 11 = .ok (.ireturn, 1) := by decide +kernel
def M_X11_trace : y_M := (yX11_trace, cX11_trace, 2, (Option.some Jvm.ClassFile.FieldType.int))
theorem n_X11_trace : y_N0 M_X11_trace 1 := ⟨(c_7 31 (by decide +kernel) rfl), (c_1 1 (by decide +kernel) rfl), ⟨by decide +kernel, by decide +kernel⟩, by decide +kernel⟩
theorem l_BoxYard_432 : y_lnk "BoxYard" 432 M_X9_markAt := Or.inl (c_7 32 (by decide +kernel) rfl)
theorem i_X9_markAt : Cond.instanceMethod (M_X9_markAt).1 ∈ y_tb := (c_7 33 (by decide +kernel) rfl)
theorem e_X9_markAt : Cond.selects (M_X9_markAt).1.cls (M_X9_markAt).1 (M_X9_markAt).1 ∈ y_tb := (c_7 34 (by decide +kernel) rfl)
set_option maxRecDepth 100000 in
def f_X11_trace (p0 : Nat) (p1 : Int32) (h : y_H) : Option (Int32 × y_H) :=
  if y_K h p0 = 12 then
  if y_K h (y_P h p0 0) = 11 then
  if y_K h (y_P h (y_P h p0 0) 12) = 10 then
  y_cl (f_X9_markAt (y_P h (y_P h p0 0) 12) p1 h) (fun r1 h2 =>
  some (r1, h2))
  else none
  else none
  else none
abbrev rm_X11_trace : Room := { frames := 2, cells := 0, slots := 0, locals := 43 }
set_option maxRecDepth 100000 in
set_option maxHeartbeats 4000000 in
theorem k_X11_trace {l : Launch} {G : y_G} {p0 : Nat} {p1 : Int32} {h hz : y_H} {rz : Int32} (hf : f_X11_trace p0 p1 h = some (rz, hz)) : y_S l G M_X11_trace rm_X11_trace [y_p p0, .int p1] h (some (.int rz)) hz := by
  refine y_start (lv := [(0, y_p p0), (1, .int p1)]) (by decide) (by simp [lg_sl, y_p_cat, y_ci, y_cj, M_X11_trace]) (by simp [lv_args, y_p_cat, y_ci, y_cj]) (fun z ad0 => ?_)
  unfold f_X11_trace at hf
  refine y_aload_n (x := p0) (pc2 := 1) rfl dX11_trace_0 rfl ?_
  obtain ⟨g6, hf⟩ := y_g hf
  refine y_getP (pc2 := 4) rfl dX11_trace_1 F_BoxYard_10 (by decide) rfl g6 ?_
  obtain ⟨g5, hf⟩ := y_g hf
  refine y_getP (pc2 := 7) rfl dX11_trace_4 F_BoxYard_77 (by decide) rfl g5 ?_
  refine y_iload_n (pc2 := 8) rfl dX11_trace_7 rfl ?_
  obtain ⟨g4, hf⟩ := y_g hf
  obtain ⟨r1, h2, c3, hf⟩ := y_clE hf
  refine y_callV (As := [.int p1]) (rm := rm_X9_markAt) (cells := 0) (slots := 0) (pc2 := 11) rfl dX11_trace_8 n_X9_markAt l_BoxYard_432 i_X9_markAt e_X9_markAt (ci := 9) rfl rfl (by decide) g4 rfl rfl (by decide) (by decide) (by decide) (k_X9_markAt c3) ?_
  exact y_iretF hf dX11_trace_11 rfl (by decide) (by decide)
theorem dX11_undo_0 : decode cX11_undo 0 = .ok (.aload_n 0, 1) := by decide +kernel
theorem dX11_undo_1 : decode cX11_undo 1 = .ok (.getfield 19, 3) := by decide +kernel
theorem dX11_undo_4 : decode cX11_undo 4 = .ok (.invokevirtual 435, 3) := by decide +kernel
theorem dX11_undo_7 : decode cX11_undo 7 = .ok (.astore_n 1, 1) := by decide +kernel
theorem dX11_undo_8 : decode cX11_undo 8 = .ok (.aload_n 1, 1) := by decide +kernel
theorem dX11_undo_9 : decode cX11_undo 9 = .ok (.ifnonnull 6, 3) := by decide +kernel
theorem dX11_undo_12 : decode cX11_undo 12 = .ok (.bipush (-3), 2) := by decide +kernel
theorem dX11_undo_14 : decode cX11_undo 14 = .ok (.ireturn, 1) := by decide +kernel
theorem dX11_undo_15 : decode cX11_undo 15 = .ok (.aload_n 0, 1) := by decide +kernel
theorem dX11_undo_16 : decode cX11_undo 16 = .ok (.getfield 10, 3) := by decide +kernel
theorem dX11_undo_19 : decode cX11_undo 19 = .ok (.aload_n 1, 1) := by decide +kernel
theorem dX11_undo_20 : decode cX11_undo 20 = .ok (.invokevirtual 439, 3) := by decide +kernel
theorem dX11_undo_23 : decode cX11_undo 23 = .ok (.aload_n 1, 1) := by decide +kernel
theorem dX11_undo_24 : decode cX11_undo 24 = .ok (.getfield 443, 3) := by decide +kernel
theorem dX11_undo_27 : decode cX11_undo 27 = .ok (.ireturn, 1) := by decide +kernel
def M_X11_undo : y_M := (yX11_undo, cX11_undo, 2, (Option.some Jvm.ClassFile.FieldType.int))
theorem n_X11_undo : y_N0 M_X11_undo 0 := ⟨(c_7 40 (by decide +kernel) rfl), (c_1 1 (by decide +kernel) rfl), ⟨by decide +kernel, by decide +kernel⟩, by decide +kernel⟩
theorem l_BoxYard_435 : y_lnk "BoxYard" 435 M_X5_takeLatest := Or.inl (c_7 41 (by decide +kernel) rfl)
theorem i_X5_takeLatest : Cond.instanceMethod (M_X5_takeLatest).1 ∈ y_tb := (c_7 42 (by decide +kernel) rfl)
theorem e_X5_takeLatest : Cond.selects (M_X5_takeLatest).1.cls (M_X5_takeLatest).1 (M_X5_takeLatest).1 ∈ y_tb := (c_7 43 (by decide +kernel) rfl)
theorem l_BoxYard_439 : y_lnk "BoxYard" 439 M_X10_restore := Or.inl (c_7 45 (by decide +kernel) rfl)
theorem i_X10_restore : Cond.instanceMethod (M_X10_restore).1 ∈ y_tb := (c_7 46 (by decide +kernel) rfl)
theorem e_X10_restore : Cond.selects (M_X10_restore).1.cls (M_X10_restore).1 (M_X10_restore).1 ∈ y_tb := (c_7 47 (by decide +kernel) rfl)
theorem F_BoxYard_443 : y_F "BoxYard" 443 0 0 := ⟨_, _, _, rfl, by decide, Or.inr ⟨"BoxYard", (c_1 121 (by decide +kernel) rfl)⟩⟩
set_option maxRecDepth 100000 in
def f_X11_undo (p0 : Nat) (h : y_H) : Option (Int32 × y_H) :=
  if y_K h p0 = 12 then
  if y_K h (y_P h p0 1) = 6 then
  y_cl (f_X5_takeLatest (y_P h p0 1) h) (fun r1 h2 =>
  if r1 = 0 then
    some ((-3 : Int32), h2)
  else
    if y_K h2 p0 = 12 then
    if y_K h2 (y_P h2 p0 0) = 11 then
    y_cl (f_X10_restore (y_P h2 p0 0) r1 h2) (fun _ h4 =>
    if y_K h4 r1 = 1 then
    some (y_I h4 r1 0, h4)
    else none)
    else none
    else none)
  else none
  else none
abbrev rm_X11_undo : Room := { frames := 5, cells := 0, slots := 0, locals := 113 }
set_option maxRecDepth 100000 in
set_option maxHeartbeats 4000000 in
theorem k_X11_undo {l : Launch} {G : y_G} {p0 : Nat} {h hz : y_H} {rz : Int32} (hf : f_X11_undo p0 h = some (rz, hz)) : y_S l G M_X11_undo rm_X11_undo [y_p p0] h (some (.int rz)) hz := by
  refine y_start (lv := [(0, y_p p0)]) (by decide) (by simp [lg_sl, y_p_cat, y_ci, y_cj, M_X11_undo]) (by simp [lv_args, y_p_cat, y_ci, y_cj]) (fun z ad0 => ?_)
  unfold f_X11_undo at hf
  refine y_aload_n (x := p0) (pc2 := 1) rfl dX11_undo_0 rfl ?_
  obtain ⟨g11, hf⟩ := y_g hf
  refine y_getP (pc2 := 4) rfl dX11_undo_1 F_BoxYard_19 (by decide) rfl g11 ?_
  obtain ⟨g10, hf⟩ := y_g hf
  obtain ⟨r1, h2, c3, hf⟩ := y_clE hf
  refine y_callV (As := []) (rm := rm_X5_takeLatest) (cells := 0) (slots := 0) (pc2 := 7) rfl dX11_undo_4 n_X5_takeLatest l_BoxYard_435 i_X5_takeLatest e_X5_takeLatest (ci := 5) rfl rfl (by decide) g10 rfl rfl (by decide) (by decide) (by decide) (k_X5_takeLatest c3) ?_
  refine y_astore_n (lv' := [(1, y_p r1), (0, y_p p0)]) (pc2 := 8) rfl dX11_undo_7 (by decide) (by show y_st1 _ 1 _ = _; simp [y_st1, y_p_cat, y_ci, y_cj]) ?_
  refine y_aload_n (x := r1) (pc2 := 9) rfl dX11_undo_8 rfl ?_
  refine y_ifnonnull (tgt := 15) (pc2 := 12) rfl dX11_undo_9 (by decide) (fun c9 => ?_) (fun c9 => ?_)
  · replace hf := y_ie c9 hf
    refine y_aload_n (x := p0) (pc2 := 16) rfl dX11_undo_15 rfl ?_
    obtain ⟨g8, hf⟩ := y_g hf
    refine y_getP (pc2 := 19) rfl dX11_undo_16 F_BoxYard_10 (by decide) rfl g8 ?_
    refine y_aload_n (x := r1) (pc2 := 20) rfl dX11_undo_19 rfl ?_
    obtain ⟨g7, hf⟩ := y_g hf
    obtain ⟨r_, h4, c5, hf⟩ := y_clE hf
    refine y_callV (As := [y_p r1]) (rm := rm_X10_restore) (cells := 0) (slots := 0) (pc2 := 23) rfl dX11_undo_20 n_X10_restore l_BoxYard_439 i_X10_restore e_X10_restore (ci := 10) rfl rfl (by decide) g7 rfl rfl (by decide) (by decide) (by decide) (k_X10_restore c5) ?_
    refine y_aload_n (x := r1) (pc2 := 24) rfl dX11_undo_23 rfl ?_
    obtain ⟨g6, hf⟩ := y_g hf
    refine y_getI (pc2 := 27) rfl dX11_undo_24 F_BoxYard_443 (by decide) rfl g6 ?_
    exact y_iretF hf dX11_undo_27 rfl (by decide) (by decide)
  · replace hf := y_it c9 hf
    refine y_bipush (v := (-3 : Int32)) (pc2 := 14) rfl dX11_undo_12 (by decide) ?_
    exact y_iretF hf dX11_undo_14 rfl (by decide) (by decide)
theorem dX11_back_0 : decode cX11_back 0 = .ok (.iload_n 1, 1) := by decide +kernel
theorem dX11_back_1 : decode cX11_back 1 = .ok (.iconst 0, 1) := by decide +kernel
theorem dX11_back_2 : decode cX11_back 2 = .ok (.aload_n 0, 1) := by decide +kernel
theorem dX11_back_3 : decode cX11_back 3 = .ok (.getfield 19, 3) := by decide +kernel
theorem dX11_back_6 : decode cX11_back 6 = .ok (.getfield 446, 3) := by decide +kernel
theorem dX11_back_9 : decode cX11_back 9 = .ok (.invokestatic 56, 3) := by decide +kernel
theorem dX11_back_12 : decode cX11_back 12 = .ok (.ifCond .ne 7, 3) := by decide +kernel
theorem dX11_back_15 : decode cX11_back 15 = .ok (.ldc2_w 449, 3) := by decide +kernel
theorem dX11_back_18 : decode cX11_back 18 = .ok (.lreturn, 1) := by decide +kernel
theorem dX11_back_19 : decode cX11_back 19 = .ok (.aload_n 0, 1) := by decide +kernel
theorem dX11_back_20 : decode cX11_back 20 = .ok (.getfield 19, 3) := by decide +kernel
theorem dX11_back_23 : decode cX11_back 23 = .ok (.aload_n 0, 1) := by decide +kernel
theorem dX11_back_24 : decode cX11_back 24 = .ok (.getfield 10, 3) := by decide +kernel
theorem dX11_back_27 : decode cX11_back 27 = .ok (.iload_n 1, 1) := by decide +kernel
theorem dX11_back_28 : decode cX11_back 28 = .ok (.invokevirtual 451, 3) := by decide +kernel
theorem dX11_back_31 : decode cX11_back 31 = .ok (.lreturn, 1) := by decide +kernel
def M_X11_back : y_M := (yX11_back, cX11_back, 2, (Option.some Jvm.ClassFile.FieldType.long))
theorem n_X11_back : y_N0 M_X11_back 1 := ⟨(c_7 52 (by decide +kernel) rfl), (c_1 1 (by decide +kernel) rfl), ⟨by decide +kernel, by decide +kernel⟩, by decide +kernel⟩
theorem F_BoxYard_446 : y_F "BoxYard" 446 5 3 := ⟨_, _, _, rfl, by decide, Or.inr ⟨"BoxYard", (c_1 193 (by decide +kernel) rfl)⟩⟩
theorem l_BoxYard_451 : y_lnk "BoxYard" 451 M_X5_digestBefore := Or.inl (c_7 54 (by decide +kernel) rfl)
theorem i_X5_digestBefore : Cond.instanceMethod (M_X5_digestBefore).1 ∈ y_tb := (c_7 55 (by decide +kernel) rfl)
theorem e_X5_digestBefore : Cond.selects (M_X5_digestBefore).1.cls (M_X5_digestBefore).1 (M_X5_digestBefore).1 ∈ y_tb := (c_7 56 (by decide +kernel) rfl)
theorem k_BoxYard_449 : Cond.constantLong "BoxYard" 449 (-1) ∈ y_tb := (c_7 53 (by decide +kernel) rfl)
set_option maxRecDepth 100000 in
def f_X11_back (p0 : Nat) (p1 : Int32) (h : y_H) : Option (Int64 × y_H) :=
  if y_K h p0 = 12 then
  if y_K h (y_P h p0 1) = 6 then
  y_cl (f_X11_isWithin p1 0 (y_I h (y_P h p0 1) 3) h) (fun r1 h2 =>
  if r1 = true then
    if y_K h2 p0 = 12 then
    if y_K h2 p0 = 12 then
    if y_K h2 (y_P h2 p0 1) = 6 then
    y_cl (f_X5_digestBefore (y_P h2 p0 1) (y_P h2 p0 0) p1 h2) (fun r4 h5 =>
    some (r4, h5))
    else none
    else none
    else none
  else
    some ((-1 : Int64), h2))
  else none
  else none
abbrev rm_X11_back : Room := { frames := 4, cells := 0, slots := 0, locals := 95 }
set_option maxRecDepth 100000 in
set_option maxHeartbeats 4000000 in
theorem k_X11_back {l : Launch} {G : y_G} {p0 : Nat} {p1 : Int32} {h hz : y_H} {rz : Int64} (hf : f_X11_back p0 p1 h = some (rz, hz)) : y_S l G M_X11_back rm_X11_back [y_p p0, .int p1] h (some (.long rz)) hz := by
  refine y_start (lv := [(0, y_p p0), (1, .int p1)]) (by decide) (by simp [lg_sl, y_p_cat, y_ci, y_cj, M_X11_back]) (by simp [lv_args, y_p_cat, y_ci, y_cj]) (fun z ad0 => ?_)
  unfold f_X11_back at hf
  refine y_iload_n (pc2 := 1) rfl dX11_back_0 rfl ?_
  refine y_iconst (v := 0) (pc2 := 2) rfl dX11_back_1 (by decide) ?_
  refine y_aload_n (x := p0) (pc2 := 3) rfl dX11_back_2 rfl ?_
  obtain ⟨g12, hf⟩ := y_g hf
  refine y_getP (pc2 := 6) rfl dX11_back_3 F_BoxYard_19 (by decide) rfl g12 ?_
  obtain ⟨g11, hf⟩ := y_g hf
  refine y_getI (pc2 := 9) rfl dX11_back_6 F_BoxYard_446 (by decide) rfl g11 ?_
  obtain ⟨r1, h2, c3, hf⟩ := y_clE hf
  refine y_callS (As := [.int p1, .int 0, .int (y_I h (y_P h p0 1) 3)]) (rm := rm_X11_isWithin) (cells := 0) (slots := 0) (pc2 := 12) rfl dX11_back_9 n_X11_isWithin l_BoxYard_56 t_X11_isWithin rfl rfl (by decide) (by decide) (by decide) (k_X11_isWithin c3) ?_
  refine y_ifz_ne (tgt := 19) (pc2 := 15) rfl dX11_back_12 (by decide) (fun c10 => ?_) (fun c10 => ?_)
  · replace hf := y_it c10 hf
    refine y_aload_n (x := p0) (pc2 := 20) rfl dX11_back_19 rfl ?_
    obtain ⟨g9, hf⟩ := y_g hf
    refine y_getP (pc2 := 23) rfl dX11_back_20 F_BoxYard_19 (by decide) rfl g9 ?_
    refine y_aload_n (x := p0) (pc2 := 24) rfl dX11_back_23 rfl ?_
    obtain ⟨g8, hf⟩ := y_g hf
    refine y_getP (pc2 := 27) rfl dX11_back_24 F_BoxYard_10 (by decide) rfl g8 ?_
    refine y_iload_n (pc2 := 28) rfl dX11_back_27 rfl ?_
    obtain ⟨g7, hf⟩ := y_g hf
    obtain ⟨r4, h5, c6, hf⟩ := y_clE hf
    refine y_callV (As := [y_p (y_P h2 p0 0), .int p1]) (rm := rm_X5_digestBefore) (cells := 0) (slots := 0) (pc2 := 31) rfl dX11_back_28 n_X5_digestBefore l_BoxYard_451 i_X5_digestBefore e_X5_digestBefore (ci := 5) rfl rfl (by decide) g7 rfl rfl (by decide) (by decide) (by decide) (k_X5_digestBefore c6) ?_
    exact y_lretF hf dX11_back_31 rfl (by decide) (by decide)
  · replace hf := y_ie c10 hf
    refine y_ldc2 (v := (-1 : Int64)) (pc2 := 18) rfl dX11_back_15 k_BoxYard_449 ?_
    exact y_lretF hf dX11_back_18 rfl (by decide) (by decide)
theorem dX11_count_0 : decode cX11_count 0 = .ok (.iload_n 1, 1) := by decide +kernel
theorem dX11_count_1 : decode cX11_count 1 = .ok (.tableswitch 150 0 10 #[59, 67, 75, 83, 91, 99, 107, 115, 126, 134, 142], 59) := by decide +kernel
theorem dX11_count_60 : decode cX11_count 60 = .ok (.aload_n 0, 1) := by decide +kernel
theorem dX11_count_61 : decode cX11_count 61 = .ok (.getfield 10, 3) := by decide +kernel
theorem dX11_count_64 : decode cX11_count 64 = .ok (.getfield 455, 3) := by decide +kernel
theorem dX11_count_67 : decode cX11_count 67 = .ok (.ireturn, 1) := by decide +kernel
theorem dX11_count_68 : decode cX11_count 68 = .ok (.aload_n 0, 1) := by decide +kernel
theorem dX11_count_69 : decode cX11_count 69 = .ok (.getfield 10, 3) := by decide +kernel
theorem dX11_count_72 : decode cX11_count 72 = .ok (.getfield 192, 3) := by decide +kernel
theorem dX11_count_75 : decode cX11_count 75 = .ok (.ireturn, 1) := by decide +kernel
theorem dX11_count_76 : decode cX11_count 76 = .ok (.aload_n 0, 1) := by decide +kernel
theorem dX11_count_77 : decode cX11_count 77 = .ok (.getfield 10, 3) := by decide +kernel
theorem dX11_count_80 : decode cX11_count 80 = .ok (.getfield 458, 3) := by decide +kernel
theorem dX11_count_83 : decode cX11_count 83 = .ok (.ireturn, 1) := by decide +kernel
theorem dX11_count_84 : decode cX11_count 84 = .ok (.aload_n 0, 1) := by decide +kernel
theorem dX11_count_85 : decode cX11_count 85 = .ok (.getfield 19, 3) := by decide +kernel
theorem dX11_count_88 : decode cX11_count 88 = .ok (.getfield 446, 3) := by decide +kernel
theorem dX11_count_91 : decode cX11_count 91 = .ok (.ireturn, 1) := by decide +kernel
theorem dX11_count_92 : decode cX11_count 92 = .ok (.aload_n 0, 1) := by decide +kernel
theorem dX11_count_93 : decode cX11_count 93 = .ok (.getfield 19, 3) := by decide +kernel
theorem dX11_count_96 : decode cX11_count 96 = .ok (.getfield 323, 3) := by decide +kernel
theorem dX11_count_99 : decode cX11_count 99 = .ok (.ireturn, 1) := by decide +kernel
theorem dX11_count_100 : decode cX11_count 100 = .ok (.aload_n 0, 1) := by decide +kernel
theorem dX11_count_101 : decode cX11_count 101 = .ok (.getfield 10, 3) := by decide +kernel
theorem dX11_count_104 : decode cX11_count 104 = .ok (.invokevirtual 461, 3) := by decide +kernel
theorem dX11_count_107 : decode cX11_count 107 = .ok (.ireturn, 1) := by decide +kernel
theorem dX11_count_108 : decode cX11_count 108 = .ok (.aload_n 0, 1) := by decide +kernel
theorem dX11_count_109 : decode cX11_count 109 = .ok (.getfield 35, 3) := by decide +kernel
theorem dX11_count_112 : decode cX11_count 112 = .ok (.getfield 464, 3) := by decide +kernel
theorem dX11_count_115 : decode cX11_count 115 = .ok (.ireturn, 1) := by decide +kernel
theorem dX11_count_116 : decode cX11_count 116 = .ok (.aload_n 0, 1) := by decide +kernel
theorem dX11_count_117 : decode cX11_count 117 = .ok (.getfield 10, 3) := by decide +kernel
theorem dX11_count_120 : decode cX11_count 120 = .ok (.getfield 77, 3) := by decide +kernel
theorem dX11_count_123 : decode cX11_count 123 = .ok (.getfield 467, 3) := by decide +kernel
theorem dX11_count_126 : decode cX11_count 126 = .ok (.ireturn, 1) := by decide +kernel
theorem dX11_count_127 : decode cX11_count 127 = .ok (.aload_n 0, 1) := by decide +kernel
theorem dX11_count_128 : decode cX11_count 128 = .ok (.getfield 26, 3) := by decide +kernel
theorem dX11_count_131 : decode cX11_count 131 = .ok (.getfield 391, 3) := by decide +kernel
theorem dX11_count_134 : decode cX11_count 134 = .ok (.ireturn, 1) := by decide +kernel
theorem dX11_count_135 : decode cX11_count 135 = .ok (.aload_n 0, 1) := by decide +kernel
theorem dX11_count_136 : decode cX11_count 136 = .ok (.getfield 10, 3) := by decide +kernel
theorem dX11_count_139 : decode cX11_count 139 = .ok (.getfield 206, 3) := by decide +kernel
theorem dX11_count_142 : decode cX11_count 142 = .ok (.ireturn, 1) := by decide +kernel
theorem dX11_count_143 : decode cX11_count 143 = .ok (.aload_n 0, 1) := by decide +kernel
theorem dX11_count_144 : decode cX11_count 144 = .ok (.getfield 26, 3) := by decide +kernel
theorem dX11_count_147 : decode cX11_count 147 = .ok (.getfield 468, 3) := by decide +kernel
theorem dX11_count_150 : decode cX11_count 150 = .ok (.ireturn, 1) := by decide +kernel
theorem dX11_count_151 : decode cX11_count 151 = .ok (.bipush (-2), 2) := by decide +kernel
theorem dX11_count_153 : decode cX11_count 153 = .ok (.ireturn, 1) := by decide +kernel
def M_X11_count : y_M := (yX11_count, cX11_count, 2, (Option.some Jvm.ClassFile.FieldType.int))
theorem n_X11_count : y_N0 M_X11_count 1 := ⟨(c_7 86 (by decide +kernel) rfl), (c_1 1 (by decide +kernel) rfl), ⟨by decide +kernel, by decide +kernel⟩, by decide +kernel⟩
theorem F_BoxYard_455 : y_F "BoxYard" 455 10 1 := ⟨_, _, _, rfl, by decide, Or.inr ⟨"BoxYard", (c_1 60 (by decide +kernel) rfl)⟩⟩
theorem F_BoxYard_192 : y_F "BoxYard" 192 10 4 := ⟨_, _, _, rfl, by decide, Or.inr ⟨"BoxYard", (c_1 65 (by decide +kernel) rfl)⟩⟩
theorem F_BoxYard_458 : y_F "BoxYard" 458 10 6 := ⟨_, _, _, rfl, by decide, Or.inr ⟨"BoxYard", (c_1 69 (by decide +kernel) rfl)⟩⟩
theorem l_BoxYard_461 : y_lnk "BoxYard" 461 M_X10_wrongBoxes := Or.inl (c_7 87 (by decide +kernel) rfl)
theorem i_X10_wrongBoxes : Cond.instanceMethod (M_X10_wrongBoxes).1 ∈ y_tb := (c_7 88 (by decide +kernel) rfl)
theorem e_X10_wrongBoxes : Cond.selects (M_X10_wrongBoxes).1.cls (M_X10_wrongBoxes).1 (M_X10_wrongBoxes).1 ∈ y_tb := (c_7 89 (by decide +kernel) rfl)
theorem F_BoxYard_464 : y_F "BoxYard" 464 8 5 := ⟨_, _, _, rfl, by decide, Or.inr ⟨"BoxYard", (c_2 30 (by decide +kernel) rfl)⟩⟩
theorem F_BoxYard_467 : y_F "BoxYard" 467 9 1 := ⟨_, _, _, rfl, by decide, Or.inr ⟨"BoxYard", (c_1 47 (by decide +kernel) rfl)⟩⟩
theorem F_BoxYard_468 : y_F "BoxYard" 468 4 1 := ⟨_, _, _, rfl, by decide, Or.inr ⟨"BoxYard", (c_1 217 (by decide +kernel) rfl)⟩⟩
set_option maxRecDepth 100000 in
def f_X11_count (p0 : Nat) (p1 : Int32) (h : y_H) : Option (Int32 × y_H) :=
  if p1 = 0 then
    if y_K h p0 = 12 then
    if y_K h (y_P h p0 0) = 11 then
    some (y_I h (y_P h p0 0) 1, h)
    else none
    else none
  else
  if p1 = 1 then
    if y_K h p0 = 12 then
    if y_K h (y_P h p0 0) = 11 then
    some (y_I h (y_P h p0 0) 4, h)
    else none
    else none
  else
  if p1 = 2 then
    if y_K h p0 = 12 then
    if y_K h (y_P h p0 0) = 11 then
    some (y_I h (y_P h p0 0) 6, h)
    else none
    else none
  else
  if p1 = 3 then
    if y_K h p0 = 12 then
    if y_K h (y_P h p0 1) = 6 then
    some (y_I h (y_P h p0 1) 3, h)
    else none
    else none
  else
  if p1 = 4 then
    if y_K h p0 = 12 then
    if y_K h (y_P h p0 1) = 6 then
    some (y_I h (y_P h p0 1) 4, h)
    else none
    else none
  else
  if p1 = 5 then
    if y_K h p0 = 12 then
    if y_K h (y_P h p0 0) = 11 then
    y_cl (f_X10_wrongBoxes (y_P h p0 0) h) (fun r17 h18 =>
    some (r17, h18))
    else none
    else none
  else
  if p1 = 6 then
    if y_K h p0 = 12 then
    if y_K h (y_P h p0 3) = 9 then
    some (y_I h (y_P h p0 3) 5, h)
    else none
    else none
  else
  if p1 = 7 then
    if y_K h p0 = 12 then
    if y_K h (y_P h p0 0) = 11 then
    if y_K h (y_P h (y_P h p0 0) 12) = 10 then
    some (y_I h (y_P h (y_P h p0 0) 12) 1, h)
    else none
    else none
    else none
  else
  if p1 = 8 then
    if y_K h p0 = 12 then
    if y_K h (y_P h p0 2) = 5 then
    some (y_I h (y_P h p0 2) 4, h)
    else none
    else none
  else
  if p1 = 9 then
    if y_K h p0 = 12 then
    if y_K h (y_P h p0 0) = 11 then
    some (y_I h (y_P h p0 0) 9, h)
    else none
    else none
  else
  if p1 = 10 then
    if y_K h p0 = 12 then
    if y_K h (y_P h p0 2) = 5 then
    some (y_I h (y_P h p0 2) 1, h)
    else none
    else none
  else
  some ((-2 : Int32), h)
abbrev rm_X11_count : Room := { frames := 3, cells := 0, slots := 0, locals := 66 }
set_option maxRecDepth 100000 in
set_option maxHeartbeats 4000000 in
theorem k_X11_count {l : Launch} {G : y_G} {p0 : Nat} {p1 : Int32} {h hz : y_H} {rz : Int32} (hf : f_X11_count p0 p1 h = some (rz, hz)) : y_S l G M_X11_count rm_X11_count [y_p p0, .int p1] h (some (.int rz)) hz := by
  refine y_start (lv := [(0, y_p p0), (1, .int p1)]) (by decide) (by simp [lg_sl, y_p_cat, y_ci, y_cj, M_X11_count]) (by simp [lv_args, y_p_cat, y_ci, y_cj]) (fun z ad0 => ?_)
  unfold f_X11_count at hf
  refine y_iload_n (pc2 := 1) rfl dX11_count_0 rfl ?_
  by_cases c1 : p1 = 0
  · replace hf := y_it c1 hf
    refine y_table (off := 59) (tgt := 60) dX11_count_1 (by (rw [c1]) <;> decide) (by decide) ?_
    refine y_aload_n (x := p0) (pc2 := 61) rfl dX11_count_60 rfl ?_
    obtain ⟨g3, hf⟩ := y_g hf
    refine y_getP (pc2 := 64) rfl dX11_count_61 F_BoxYard_10 (by decide) rfl g3 ?_
    obtain ⟨g2, hf⟩ := y_g hf
    refine y_getI (pc2 := 67) rfl dX11_count_64 F_BoxYard_455 (by decide) rfl g2 ?_
    exact y_iretF hf dX11_count_67 rfl (by decide) (by decide)
  · replace hf := y_ie c1 hf
    by_cases c4 : p1 = 1
    · replace hf := y_it c4 hf
      refine y_table (off := 67) (tgt := 68) dX11_count_1 (by (rw [c4]) <;> decide) (by decide) ?_
      refine y_aload_n (x := p0) (pc2 := 69) rfl dX11_count_68 rfl ?_
      obtain ⟨g6, hf⟩ := y_g hf
      refine y_getP (pc2 := 72) rfl dX11_count_69 F_BoxYard_10 (by decide) rfl g6 ?_
      obtain ⟨g5, hf⟩ := y_g hf
      refine y_getI (pc2 := 75) rfl dX11_count_72 F_BoxYard_192 (by decide) rfl g5 ?_
      exact y_iretF hf dX11_count_75 rfl (by decide) (by decide)
    · replace hf := y_ie c4 hf
      by_cases c7 : p1 = 2
      · replace hf := y_it c7 hf
        refine y_table (off := 75) (tgt := 76) dX11_count_1 (by (rw [c7]) <;> decide) (by decide) ?_
        refine y_aload_n (x := p0) (pc2 := 77) rfl dX11_count_76 rfl ?_
        obtain ⟨g9, hf⟩ := y_g hf
        refine y_getP (pc2 := 80) rfl dX11_count_77 F_BoxYard_10 (by decide) rfl g9 ?_
        obtain ⟨g8, hf⟩ := y_g hf
        refine y_getI (pc2 := 83) rfl dX11_count_80 F_BoxYard_458 (by decide) rfl g8 ?_
        exact y_iretF hf dX11_count_83 rfl (by decide) (by decide)
      · replace hf := y_ie c7 hf
        by_cases c10 : p1 = 3
        · replace hf := y_it c10 hf
          refine y_table (off := 83) (tgt := 84) dX11_count_1 (by (rw [c10]) <;> decide) (by decide) ?_
          refine y_aload_n (x := p0) (pc2 := 85) rfl dX11_count_84 rfl ?_
          obtain ⟨g12, hf⟩ := y_g hf
          refine y_getP (pc2 := 88) rfl dX11_count_85 F_BoxYard_19 (by decide) rfl g12 ?_
          obtain ⟨g11, hf⟩ := y_g hf
          refine y_getI (pc2 := 91) rfl dX11_count_88 F_BoxYard_446 (by decide) rfl g11 ?_
          exact y_iretF hf dX11_count_91 rfl (by decide) (by decide)
        · replace hf := y_ie c10 hf
          by_cases c13 : p1 = 4
          · replace hf := y_it c13 hf
            refine y_table (off := 91) (tgt := 92) dX11_count_1 (by (rw [c13]) <;> decide) (by decide) ?_
            refine y_aload_n (x := p0) (pc2 := 93) rfl dX11_count_92 rfl ?_
            obtain ⟨g15, hf⟩ := y_g hf
            refine y_getP (pc2 := 96) rfl dX11_count_93 F_BoxYard_19 (by decide) rfl g15 ?_
            obtain ⟨g14, hf⟩ := y_g hf
            refine y_getI (pc2 := 99) rfl dX11_count_96 F_BoxYard_323 (by decide) rfl g14 ?_
            exact y_iretF hf dX11_count_99 rfl (by decide) (by decide)
          · replace hf := y_ie c13 hf
            by_cases c16 : p1 = 5
            · replace hf := y_it c16 hf
              refine y_table (off := 99) (tgt := 100) dX11_count_1 (by (rw [c16]) <;> decide) (by decide) ?_
              refine y_aload_n (x := p0) (pc2 := 101) rfl dX11_count_100 rfl ?_
              obtain ⟨g21, hf⟩ := y_g hf
              refine y_getP (pc2 := 104) rfl dX11_count_101 F_BoxYard_10 (by decide) rfl g21 ?_
              obtain ⟨g20, hf⟩ := y_g hf
              obtain ⟨r17, h18, c19, hf⟩ := y_clE hf
              refine y_callV (As := []) (rm := rm_X10_wrongBoxes) (cells := 0) (slots := 0) (pc2 := 107) rfl dX11_count_104 n_X10_wrongBoxes l_BoxYard_461 i_X10_wrongBoxes e_X10_wrongBoxes (ci := 10) rfl rfl (by decide) g20 rfl rfl (by decide) (by decide) (by decide) (k_X10_wrongBoxes c19) ?_
              exact y_iretF hf dX11_count_107 rfl (by decide) (by decide)
            · replace hf := y_ie c16 hf
              by_cases c22 : p1 = 6
              · replace hf := y_it c22 hf
                refine y_table (off := 107) (tgt := 108) dX11_count_1 (by (rw [c22]) <;> decide) (by decide) ?_
                refine y_aload_n (x := p0) (pc2 := 109) rfl dX11_count_108 rfl ?_
                obtain ⟨g24, hf⟩ := y_g hf
                refine y_getP (pc2 := 112) rfl dX11_count_109 F_BoxYard_35 (by decide) rfl g24 ?_
                obtain ⟨g23, hf⟩ := y_g hf
                refine y_getI (pc2 := 115) rfl dX11_count_112 F_BoxYard_464 (by decide) rfl g23 ?_
                exact y_iretF hf dX11_count_115 rfl (by decide) (by decide)
              · replace hf := y_ie c22 hf
                by_cases c25 : p1 = 7
                · replace hf := y_it c25 hf
                  refine y_table (off := 115) (tgt := 116) dX11_count_1 (by (rw [c25]) <;> decide) (by decide) ?_
                  refine y_aload_n (x := p0) (pc2 := 117) rfl dX11_count_116 rfl ?_
                  obtain ⟨g28, hf⟩ := y_g hf
                  refine y_getP (pc2 := 120) rfl dX11_count_117 F_BoxYard_10 (by decide) rfl g28 ?_
                  obtain ⟨g27, hf⟩ := y_g hf
                  refine y_getP (pc2 := 123) rfl dX11_count_120 F_BoxYard_77 (by decide) rfl g27 ?_
                  obtain ⟨g26, hf⟩ := y_g hf
                  refine y_getI (pc2 := 126) rfl dX11_count_123 F_BoxYard_467 (by decide) rfl g26 ?_
                  exact y_iretF hf dX11_count_126 rfl (by decide) (by decide)
                · replace hf := y_ie c25 hf
                  by_cases c29 : p1 = 8
                  · replace hf := y_it c29 hf
                    refine y_table (off := 126) (tgt := 127) dX11_count_1 (by (rw [c29]) <;> decide) (by decide) ?_
                    refine y_aload_n (x := p0) (pc2 := 128) rfl dX11_count_127 rfl ?_
                    obtain ⟨g31, hf⟩ := y_g hf
                    refine y_getP (pc2 := 131) rfl dX11_count_128 F_BoxYard_26 (by decide) rfl g31 ?_
                    obtain ⟨g30, hf⟩ := y_g hf
                    refine y_getI (pc2 := 134) rfl dX11_count_131 F_BoxYard_391 (by decide) rfl g30 ?_
                    exact y_iretF hf dX11_count_134 rfl (by decide) (by decide)
                  · replace hf := y_ie c29 hf
                    by_cases c32 : p1 = 9
                    · replace hf := y_it c32 hf
                      refine y_table (off := 134) (tgt := 135) dX11_count_1 (by (rw [c32]) <;> decide) (by decide) ?_
                      refine y_aload_n (x := p0) (pc2 := 136) rfl dX11_count_135 rfl ?_
                      obtain ⟨g34, hf⟩ := y_g hf
                      refine y_getP (pc2 := 139) rfl dX11_count_136 F_BoxYard_10 (by decide) rfl g34 ?_
                      obtain ⟨g33, hf⟩ := y_g hf
                      refine y_getI (pc2 := 142) rfl dX11_count_139 F_BoxYard_206 (by decide) rfl g33 ?_
                      exact y_iretF hf dX11_count_142 rfl (by decide) (by decide)
                    · replace hf := y_ie c32 hf
                      by_cases c35 : p1 = 10
                      · replace hf := y_it c35 hf
                        refine y_table (off := 142) (tgt := 143) dX11_count_1 (by (rw [c35]) <;> decide) (by decide) ?_
                        refine y_aload_n (x := p0) (pc2 := 144) rfl dX11_count_143 rfl ?_
                        obtain ⟨g37, hf⟩ := y_g hf
                        refine y_getP (pc2 := 147) rfl dX11_count_144 F_BoxYard_26 (by decide) rfl g37 ?_
                        obtain ⟨g36, hf⟩ := y_g hf
                        refine y_getI (pc2 := 150) rfl dX11_count_147 F_BoxYard_468 (by decide) rfl g36 ?_
                        exact y_iretF hf dX11_count_150 rfl (by decide) (by decide)
                      · replace hf := y_ie c35 hf
                        refine y_table (off := 150) (tgt := 151) dX11_count_1 ((if_pos (by have q0 := lv_neT c1 (a := 0) (by decide); have q1 := lv_neT c4 (a := 1) (by decide); have q2 := lv_neT c7 (a := 2) (by decide); have q3 := lv_neT c10 (a := 3) (by decide); have q4 := lv_neT c13 (a := 4) (by decide); have q5 := lv_neT c16 (a := 5) (by decide); have q6 := lv_neT c22 (a := 6) (by decide); have q7 := lv_neT c25 (a := 7) (by decide); have q8 := lv_neT c29 (a := 8) (by decide); have q9 := lv_neT c32 (a := 9) (by decide); have q10 := lv_neT c35 (a := 10) (by decide); omega))) (by decide) ?_
                        refine y_bipush (v := (-2 : Int32)) (pc2 := 153) rfl dX11_count_151 (by decide) ?_
                        exact y_iretF hf dX11_count_153 rfl (by decide) (by decide)
theorem dX11_clear_0 : decode cX11_clear 0 = .ok (.aload_n 0, 1) := by decide +kernel
theorem dX11_clear_1 : decode cX11_clear 1 = .ok (.getfield 10, 3) := by decide +kernel
theorem dX11_clear_4 : decode cX11_clear 4 = .ok (.getfield 455, 3) := by decide +kernel
theorem dX11_clear_7 : decode cX11_clear 7 = .ok (.istore_n 1, 1) := by decide +kernel
theorem dX11_clear_8 : decode cX11_clear 8 = .ok (.aload_n 0, 1) := by decide +kernel
theorem dX11_clear_9 : decode cX11_clear 9 = .ok (.getfield 10, 3) := by decide +kernel
theorem dX11_clear_12 : decode cX11_clear 12 = .ok (.invokevirtual 471, 3) := by decide +kernel
theorem dX11_clear_15 : decode cX11_clear 15 = .ok (.aload_n 0, 1) := by decide +kernel
theorem dX11_clear_16 : decode cX11_clear 16 = .ok (.getfield 19, 3) := by decide +kernel
theorem dX11_clear_19 : decode cX11_clear 19 = .ok (.invokevirtual 152, 3) := by decide +kernel
theorem dX11_clear_22 : decode cX11_clear 22 = .ok (.aload_n 0, 1) := by decide +kernel
theorem dX11_clear_23 : decode cX11_clear 23 = .ok (.getfield 26, 3) := by decide +kernel
theorem dX11_clear_26 : decode cX11_clear 26 = .ok (.invokevirtual 472, 3) := by decide +kernel
theorem dX11_clear_29 : decode cX11_clear 29 = .ok (.aload_n 0, 1) := by decide +kernel
theorem dX11_clear_30 : decode cX11_clear 30 = .ok (.getfield 35, 3) := by decide +kernel
theorem dX11_clear_33 : decode cX11_clear 33 = .ok (.invokevirtual 473, 3) := by decide +kernel
theorem dX11_clear_36 : decode cX11_clear 36 = .ok (.aload_n 0, 1) := by decide +kernel
theorem dX11_clear_37 : decode cX11_clear 37 = .ok (.getfield 39, 3) := by decide +kernel
theorem dX11_clear_40 : decode cX11_clear 40 = .ok (.iconst 0, 1) := by decide +kernel
theorem dX11_clear_41 : decode cX11_clear 41 = .ok (.invokestatic 46, 3) := by decide +kernel
theorem dX11_clear_44 : decode cX11_clear 44 = .ok (.aload_n 0, 1) := by decide +kernel
theorem dX11_clear_45 : decode cX11_clear 45 = .ok (.getfield 43, 3) := by decide +kernel
theorem dX11_clear_48 : decode cX11_clear 48 = .ok (.bipush (-9), 2) := by decide +kernel
theorem dX11_clear_50 : decode cX11_clear 50 = .ok (.invokestatic 46, 3) := by decide +kernel
theorem dX11_clear_53 : decode cX11_clear 53 = .ok (.aload_n 0, 1) := by decide +kernel
theorem dX11_clear_54 : decode cX11_clear 54 = .ok (.iconst 0, 1) := by decide +kernel
theorem dX11_clear_55 : decode cX11_clear 55 = .ok (.putfield 52, 3) := by decide +kernel
theorem dX11_clear_58 : decode cX11_clear 58 = .ok (.iload_n 1, 1) := by decide +kernel
theorem dX11_clear_59 : decode cX11_clear 59 = .ok (.ireturn, 1) := by decide +kernel
def M_X11_clear : y_M := (yX11_clear, cX11_clear, 2, (Option.some Jvm.ClassFile.FieldType.int))
theorem n_X11_clear : y_N0 M_X11_clear 0 := ⟨(c_7 96 (by decide +kernel) rfl), (c_1 1 (by decide +kernel) rfl), ⟨by decide +kernel, by decide +kernel⟩, by decide +kernel⟩
theorem l_BoxYard_471 : y_lnk "BoxYard" 471 M_X10_begin := Or.inl (c_7 97 (by decide +kernel) rfl)
theorem i_X10_begin : Cond.instanceMethod (M_X10_begin).1 ∈ y_tb := (c_7 98 (by decide +kernel) rfl)
theorem e_X10_begin : Cond.selects (M_X10_begin).1.cls (M_X10_begin).1 (M_X10_begin).1 ∈ y_tb := (c_7 99 (by decide +kernel) rfl)
theorem l_BoxYard_472 : y_lnk "BoxYard" 472 M_X4_begin := Or.inl (c_7 102 (by decide +kernel) rfl)
theorem i_X4_begin : Cond.instanceMethod (M_X4_begin).1 ∈ y_tb := (c_7 103 (by decide +kernel) rfl)
theorem e_X4_begin : Cond.selects (M_X4_begin).1.cls (M_X4_begin).1 (M_X4_begin).1 ∈ y_tb := (c_7 104 (by decide +kernel) rfl)
theorem l_BoxYard_473 : y_lnk "BoxYard" 473 M_X8_begin := Or.inl (c_7 106 (by decide +kernel) rfl)
theorem i_X8_begin : Cond.instanceMethod (M_X8_begin).1 ∈ y_tb := (c_7 107 (by decide +kernel) rfl)
theorem e_X8_begin : Cond.selects (M_X8_begin).1.cls (M_X8_begin).1 (M_X8_begin).1 ∈ y_tb := (c_7 108 (by decide +kernel) rfl)
theorem l_BoxYard_46 : y_lnk "BoxYard" 46 M_J7_fill_53178 := Or.inl (c_2 70 (by decide +kernel) rfl)
set_option maxRecDepth 100000 in
def f_X11_clear (p0 : Nat) (h : y_H) : Option (Int32 × y_H) :=
  if y_K h p0 = 12 then
  if y_K h (y_P h p0 0) = 11 then
  if y_K h p0 = 12 then
  if y_K h (y_P h p0 0) = 11 then
  y_cl (f_X10_begin (y_P h p0 0) h) (fun _ h1 =>
  if y_K h1 p0 = 12 then
  if y_K h1 (y_P h1 p0 1) = 6 then
  y_cl (f_X5_begin (y_P h1 p0 1) h1) (fun _ h3 =>
  if y_K h3 p0 = 12 then
  if y_K h3 (y_P h3 p0 2) = 5 then
  y_cl (f_X4_begin (y_P h3 p0 2) h3) (fun _ h5 =>
  if y_K h5 p0 = 12 then
  if y_K h5 (y_P h5 p0 3) = 9 then
  y_cl (f_X8_begin (y_P h5 p0 3) h5) (fun _ h7 =>
  if y_K h7 p0 = 12 then
  y_cl (f_J7_fill_53178 (y_P h7 p0 4) 0 h7) (fun _ h9 =>
  if y_K h9 p0 = 12 then
  y_cl (f_J7_fill_53178 (y_P h9 p0 5) (-9 : Int32) h9) (fun _ h11 =>
  if y_K h11 p0 = 12 then
  y_bd (s_I h11 p0 6 0) (fun h13 =>
  some (y_I h (y_P h p0 0) 1, h13))
  else none)
  else none)
  else none)
  else none
  else none)
  else none
  else none)
  else none
  else none)
  else none
  else none
  else none
  else none
abbrev rm_X11_clear : Room := { frames := 3, cells := 0, slots := 0, locals := 64 }
set_option maxRecDepth 100000 in
set_option maxHeartbeats 4000000 in
theorem k_X11_clear {l : Launch} {G : y_G} {p0 : Nat} {h hz : y_H} {rz : Int32} (hf : f_X11_clear p0 h = some (rz, hz)) : y_S l G M_X11_clear rm_X11_clear [y_p p0] h (some (.int rz)) hz := by
  refine y_start (lv := [(0, y_p p0)]) (by decide) (by simp [lg_sl, y_p_cat, y_ci, y_cj, M_X11_clear]) (by simp [lv_args, y_p_cat, y_ci, y_cj]) (fun z ad0 => ?_)
  unfold f_X11_clear at hf
  refine y_aload_n (x := p0) (pc2 := 1) rfl dX11_clear_0 rfl ?_
  obtain ⟨g27, hf⟩ := y_g hf
  refine y_getP (pc2 := 4) rfl dX11_clear_1 F_BoxYard_10 (by decide) rfl g27 ?_
  obtain ⟨g26, hf⟩ := y_g hf
  refine y_getI (pc2 := 7) rfl dX11_clear_4 F_BoxYard_455 (by decide) rfl g26 ?_
  refine y_istore_n (lv' := [(1, .int (y_I h (y_P h p0 0) 1)), (0, y_p p0)]) (pc2 := 8) rfl dX11_clear_7 (by decide) (by show y_st1 _ 1 _ = _; simp [y_st1, y_p_cat, y_ci, y_cj]) ?_
  refine y_aload_n (x := p0) (pc2 := 9) rfl dX11_clear_8 rfl ?_
  obtain ⟨g25, hf⟩ := y_g hf
  refine y_getP (pc2 := 12) rfl dX11_clear_9 F_BoxYard_10 (by decide) rfl g25 ?_
  obtain ⟨g24, hf⟩ := y_g hf
  obtain ⟨r_, h1, c2, hf⟩ := y_clE hf
  refine y_callV (As := []) (rm := rm_X10_begin) (cells := 0) (slots := 0) (pc2 := 15) rfl dX11_clear_12 n_X10_begin l_BoxYard_471 i_X10_begin e_X10_begin (ci := 10) rfl rfl (by decide) g24 rfl rfl (by decide) (by decide) (by decide) (k_X10_begin c2) ?_
  refine y_aload_n (x := p0) (pc2 := 16) rfl dX11_clear_15 rfl ?_
  obtain ⟨g23, hf⟩ := y_g hf
  refine y_getP (pc2 := 19) rfl dX11_clear_16 F_BoxYard_19 (by decide) rfl g23 ?_
  obtain ⟨g22, hf⟩ := y_g hf
  obtain ⟨r_, h3, c4, hf⟩ := y_clE hf
  refine y_callV (As := []) (rm := rm_X5_begin) (cells := 0) (slots := 0) (pc2 := 22) rfl dX11_clear_19 n_X5_begin l_BoxYard_152 i_X5_begin e_X5_begin (ci := 5) rfl rfl (by decide) g22 rfl rfl (by decide) (by decide) (by decide) (k_X5_begin c4) ?_
  refine y_aload_n (x := p0) (pc2 := 23) rfl dX11_clear_22 rfl ?_
  obtain ⟨g21, hf⟩ := y_g hf
  refine y_getP (pc2 := 26) rfl dX11_clear_23 F_BoxYard_26 (by decide) rfl g21 ?_
  obtain ⟨g20, hf⟩ := y_g hf
  obtain ⟨r_, h5, c6, hf⟩ := y_clE hf
  refine y_callV (As := []) (rm := rm_X4_begin) (cells := 0) (slots := 0) (pc2 := 29) rfl dX11_clear_26 n_X4_begin l_BoxYard_472 i_X4_begin e_X4_begin (ci := 4) rfl rfl (by decide) g20 rfl rfl (by decide) (by decide) (by decide) (k_X4_begin c6) ?_
  refine y_aload_n (x := p0) (pc2 := 30) rfl dX11_clear_29 rfl ?_
  obtain ⟨g19, hf⟩ := y_g hf
  refine y_getP (pc2 := 33) rfl dX11_clear_30 F_BoxYard_35 (by decide) rfl g19 ?_
  obtain ⟨g18, hf⟩ := y_g hf
  obtain ⟨r_, h7, c8, hf⟩ := y_clE hf
  refine y_callV (As := []) (rm := rm_X8_begin) (cells := 0) (slots := 0) (pc2 := 36) rfl dX11_clear_33 n_X8_begin l_BoxYard_473 i_X8_begin e_X8_begin (ci := 8) rfl rfl (by decide) g18 rfl rfl (by decide) (by decide) (by decide) (k_X8_begin c8) ?_
  refine y_aload_n (x := p0) (pc2 := 37) rfl dX11_clear_36 rfl ?_
  obtain ⟨g17, hf⟩ := y_g hf
  refine y_getP (pc2 := 40) rfl dX11_clear_37 F_BoxYard_39 (by decide) rfl g17 ?_
  refine y_iconst (v := 0) (pc2 := 41) rfl dX11_clear_40 (by decide) ?_
  obtain ⟨r_, h9, c10, hf⟩ := y_clE hf
  refine y_callS (As := [y_p (y_P h7 p0 4), .int 0]) (rm := rm_J7_fill_53178) (cells := 0) (slots := 0) (pc2 := 44) rfl dX11_clear_41 n_J7_fill_53178 l_BoxYard_46 t_J7_fill_53178 rfl rfl (by decide) (by decide) (by decide) (k_J7_fill_53178 c10) ?_
  refine y_aload_n (x := p0) (pc2 := 45) rfl dX11_clear_44 rfl ?_
  obtain ⟨g16, hf⟩ := y_g hf
  refine y_getP (pc2 := 48) rfl dX11_clear_45 F_BoxYard_43 (by decide) rfl g16 ?_
  refine y_bipush (v := (-9 : Int32)) (pc2 := 50) rfl dX11_clear_48 (by decide) ?_
  obtain ⟨r_, h11, c12, hf⟩ := y_clE hf
  refine y_callS (As := [y_p (y_P h9 p0 5), .int (-9 : Int32)]) (rm := rm_J7_fill_53178) (cells := 0) (slots := 0) (pc2 := 53) rfl dX11_clear_50 n_J7_fill_53178 l_BoxYard_46 t_J7_fill_53178 rfl rfl (by decide) (by decide) (by decide) (k_J7_fill_53178 c12) ?_
  refine y_aload_n (x := p0) (pc2 := 54) rfl dX11_clear_53 rfl ?_
  refine y_iconst (v := 0) (pc2 := 55) rfl dX11_clear_54 (by decide) ?_
  obtain ⟨g15, hf⟩ := y_g hf
  obtain ⟨h13, e14, hf⟩ := y_bdE hf
  refine y_putI (x := 0) (pc2 := 58) rfl dX11_clear_55 Fp_BoxYard_52 (by decide) rfl g15 e14 ?_
  refine y_iload_n (pc2 := 59) rfl dX11_clear_58 rfl ?_
  exact y_iretF hf dX11_clear_59 rfl (by decide) (by decide)
theorem dX12_begin_0 : decode cX12_begin 0 = .ok (.aload_n 0, 1) := by decide +kernel
theorem dX12_begin_1 : decode cX12_begin 1 = .ok (.iconst 0, 1) := by decide +kernel
theorem dX12_begin_2 : decode cX12_begin 2 = .ok (.putfield 234, 3) := by decide +kernel
theorem dX12_begin_5 : decode cX12_begin 5 = .ok (.aload_n 0, 1) := by decide +kernel
theorem dX12_begin_6 : decode cX12_begin 6 = .ok (.iconst 0, 1) := by decide +kernel
theorem dX12_begin_7 : decode cX12_begin 7 = .ok (.putfield 237, 3) := by decide +kernel
theorem dX12_begin_10 : decode cX12_begin 10 = .ok (.aload_n 0, 1) := by decide +kernel
theorem dX12_begin_11 : decode cX12_begin 11 = .ok (.iconst 0, 1) := by decide +kernel
theorem dX12_begin_12 : decode cX12_begin 12 = .ok (.putfield 240, 3) := by decide +kernel
theorem dX12_begin_15 : decode cX12_begin 15 = .ok (.aload_n 0, 1) := by decide +kernel
theorem dX12_begin_16 : decode cX12_begin 16 = .ok (.iconst 0, 1) := by decide +kernel
theorem dX12_begin_17 : decode cX12_begin 17 = .ok (.putfield 243, 3) := by decide +kernel
theorem dX12_begin_20 : decode cX12_begin 20 = .ok (.aload_n 0, 1) := by decide +kernel
theorem dX12_begin_21 : decode cX12_begin 21 = .ok (.iconst 0, 1) := by decide +kernel
theorem dX12_begin_22 : decode cX12_begin 22 = .ok (.putfield 246, 3) := by decide +kernel
theorem dX12_begin_25 : decode cX12_begin 25 = .ok (.aload_n 0, 1) := by decide +kernel
theorem dX12_begin_26 : decode cX12_begin 26 = .ok (.iconst 0, 1) := by decide +kernel
theorem dX12_begin_27 : decode cX12_begin 27 = .ok (.putfield 249, 3) := by decide +kernel
theorem dX12_begin_30 : decode cX12_begin 30 = .ok (.aload_n 0, 1) := by decide +kernel
theorem dX12_begin_31 : decode cX12_begin 31 = .ok (.iconst 0, 1) := by decide +kernel
theorem dX12_begin_32 : decode cX12_begin 32 = .ok (.putfield 252, 3) := by decide +kernel
theorem dX12_begin_35 : decode cX12_begin 35 = .ok (.aload_n 0, 1) := by decide +kernel
theorem dX12_begin_36 : decode cX12_begin 36 = .ok (.iconst 0, 1) := by decide +kernel
theorem dX12_begin_37 : decode cX12_begin 37 = .ok (.putfield 255, 3) := by decide +kernel
theorem dX12_begin_40 : decode cX12_begin 40 = .ok (.aload_n 0, 1) := by decide +kernel
theorem dX12_begin_41 : decode cX12_begin 41 = .ok (.iconst 0, 1) := by decide +kernel
theorem dX12_begin_42 : decode cX12_begin 42 = .ok (.putfield 258, 3) := by decide +kernel
theorem dX12_begin_45 : decode cX12_begin 45 = .ok (.aload_n 0, 1) := by decide +kernel
theorem dX12_begin_46 : decode cX12_begin 46 = .ok (.iconst 0, 1) := by decide +kernel
theorem dX12_begin_47 : decode cX12_begin 47 = .ok (.putfield 261, 3) := by decide +kernel
theorem dX12_begin_50 : decode cX12_begin 50 = .ok (.aload_n 0, 1) := by decide +kernel
theorem dX12_begin_51 : decode cX12_begin 51 = .ok (.iconst 0, 1) := by decide +kernel
theorem dX12_begin_52 : decode cX12_begin 52 = .ok (.putfield 264, 3) := by decide +kernel
theorem dX12_begin_55 : decode cX12_begin 55 = .ok (.aload_n 0, 1) := by decide +kernel
theorem dX12_begin_56 : decode cX12_begin 56 = .ok (.bipush (-9), 2) := by decide +kernel
theorem dX12_begin_58 : decode cX12_begin 58 = .ok (.putfield 147, 3) := by decide +kernel
theorem dX12_begin_61 : decode cX12_begin 61 = .ok (.aload_n 0, 1) := by decide +kernel
theorem dX12_begin_62 : decode cX12_begin 62 = .ok (.iconst 0, 1) := by decide +kernel
theorem dX12_begin_63 : decode cX12_begin 63 = .ok (.putfield 267, 3) := by decide +kernel
theorem dX12_begin_66 : decode cX12_begin 66 = .ok (.aload_n 0, 1) := by decide +kernel
theorem dX12_begin_67 : decode cX12_begin 67 = .ok (.iconst 0, 1) := by decide +kernel
theorem dX12_begin_68 : decode cX12_begin 68 = .ok (.putfield 270, 3) := by decide +kernel
theorem dX12_begin_71 : decode cX12_begin 71 = .ok (.aload_n 0, 1) := by decide +kernel
theorem dX12_begin_72 : decode cX12_begin 72 = .ok (.lconst 0, 1) := by decide +kernel
theorem dX12_begin_73 : decode cX12_begin 73 = .ok (.putfield 274, 3) := by decide +kernel
theorem dX12_begin_76 : decode cX12_begin 76 = .ok (.aload_n 0, 1) := by decide +kernel
theorem dX12_begin_77 : decode cX12_begin 77 = .ok (.bipush (-9), 2) := by decide +kernel
theorem dX12_begin_79 : decode cX12_begin 79 = .ok (.putfield 140, 3) := by decide +kernel
theorem dX12_begin_82 : decode cX12_begin 82 = .ok (.iconst 0, 1) := by decide +kernel
theorem dX12_begin_83 : decode cX12_begin 83 = .ok (.istore_n 1, 1) := by decide +kernel
theorem dX12_begin_84 : decode cX12_begin 84 = .ok (.iload_n 1, 1) := by decide +kernel
theorem dX12_begin_85 : decode cX12_begin 85 = .ok (.bipush 10, 2) := by decide +kernel
theorem dX12_begin_87 : decode cX12_begin 87 = .ok (.if_icmp .ge 16, 3) := by decide +kernel
theorem dX12_begin_90 : decode cX12_begin 90 = .ok (.aload_n 0, 1) := by decide +kernel
theorem dX12_begin_91 : decode cX12_begin 91 = .ok (.getfield 56, 3) := by decide +kernel
theorem dX12_begin_94 : decode cX12_begin 94 = .ok (.iload_n 1, 1) := by decide +kernel
theorem dX12_begin_95 : decode cX12_begin 95 = .ok (.iconst 0, 1) := by decide +kernel
theorem dX12_begin_96 : decode cX12_begin 96 = .ok (.bastore, 1) := by decide +kernel
theorem dX12_begin_97 : decode cX12_begin 97 = .ok (.iinc 1 1, 3) := by decide +kernel
theorem dX12_begin_100 : decode cX12_begin 100 = .ok (.goto (-16), 3) := by decide +kernel
theorem dX12_begin_103 : decode cX12_begin 103 = .ok (.iconst 0, 1) := by decide +kernel
theorem dX12_begin_104 : decode cX12_begin 104 = .ok (.istore_n 1, 1) := by decide +kernel
theorem dX12_begin_105 : decode cX12_begin 105 = .ok (.iload_n 1, 1) := by decide +kernel
theorem dX12_begin_106 : decode cX12_begin 106 = .ok (.bipush 25, 2) := by decide +kernel
theorem dX12_begin_108 : decode cX12_begin 108 = .ok (.if_icmp .ge 16, 3) := by decide +kernel
theorem dX12_begin_111 : decode cX12_begin 111 = .ok (.aload_n 0, 1) := by decide +kernel
theorem dX12_begin_112 : decode cX12_begin 112 = .ok (.getfield 77, 3) := by decide +kernel
theorem dX12_begin_115 : decode cX12_begin 115 = .ok (.iload_n 1, 1) := by decide +kernel
theorem dX12_begin_116 : decode cX12_begin 116 = .ok (.iconst 0, 1) := by decide +kernel
theorem dX12_begin_117 : decode cX12_begin 117 = .ok (.iastore, 1) := by decide +kernel
theorem dX12_begin_118 : decode cX12_begin 118 = .ok (.iinc 1 1, 3) := by decide +kernel
theorem dX12_begin_121 : decode cX12_begin 121 = .ok (.goto (-16), 3) := by decide +kernel
theorem dX12_begin_124 : decode cX12_begin 124 = .ok (.iconst 0, 1) := by decide +kernel
theorem dX12_begin_125 : decode cX12_begin 125 = .ok (.istore_n 1, 1) := by decide +kernel
theorem dX12_begin_126 : decode cX12_begin 126 = .ok (.iload_n 1, 1) := by decide +kernel
theorem dX12_begin_127 : decode cX12_begin 127 = .ok (.bipush 60, 2) := by decide +kernel
theorem dX12_begin_129 : decode cX12_begin 129 = .ok (.if_icmp .ge 23, 3) := by decide +kernel
theorem dX12_begin_132 : decode cX12_begin 132 = .ok (.aload_n 0, 1) := by decide +kernel
theorem dX12_begin_133 : decode cX12_begin 133 = .ok (.getfield 68, 3) := by decide +kernel
theorem dX12_begin_136 : decode cX12_begin 136 = .ok (.iload_n 1, 1) := by decide +kernel
theorem dX12_begin_137 : decode cX12_begin 137 = .ok (.iconst 0, 1) := by decide +kernel
theorem dX12_begin_138 : decode cX12_begin 138 = .ok (.iastore, 1) := by decide +kernel
theorem dX12_begin_139 : decode cX12_begin 139 = .ok (.aload_n 0, 1) := by decide +kernel
theorem dX12_begin_140 : decode cX12_begin 140 = .ok (.getfield 71, 3) := by decide +kernel
theorem dX12_begin_143 : decode cX12_begin 143 = .ok (.iload_n 1, 1) := by decide +kernel
theorem dX12_begin_144 : decode cX12_begin 144 = .ok (.iconst 0, 1) := by decide +kernel
theorem dX12_begin_145 : decode cX12_begin 145 = .ok (.iastore, 1) := by decide +kernel
theorem dX12_begin_146 : decode cX12_begin 146 = .ok (.iinc 1 1, 3) := by decide +kernel
theorem dX12_begin_149 : decode cX12_begin 149 = .ok (.goto (-23), 3) := by decide +kernel
theorem dX12_begin_152 : decode cX12_begin 152 = .ok (.iconst 0, 1) := by decide +kernel
theorem dX12_begin_153 : decode cX12_begin 153 = .ok (.istore_n 1, 1) := by decide +kernel
theorem dX12_begin_154 : decode cX12_begin 154 = .ok (.iload_n 1, 1) := by decide +kernel
theorem dX12_begin_155 : decode cX12_begin 155 = .ok (.bipush 8, 2) := by decide +kernel
theorem dX12_begin_157 : decode cX12_begin 157 = .ok (.if_icmp .ge 16, 3) := by decide +kernel
theorem dX12_begin_160 : decode cX12_begin 160 = .ok (.aload_n 0, 1) := by decide +kernel
theorem dX12_begin_161 : decode cX12_begin 161 = .ok (.getfield 134, 3) := by decide +kernel
theorem dX12_begin_164 : decode cX12_begin 164 = .ok (.iload_n 1, 1) := by decide +kernel
theorem dX12_begin_165 : decode cX12_begin 165 = .ok (.iconst 0, 1) := by decide +kernel
theorem dX12_begin_166 : decode cX12_begin 166 = .ok (.iastore, 1) := by decide +kernel
theorem dX12_begin_167 : decode cX12_begin 167 = .ok (.iinc 1 1, 3) := by decide +kernel
theorem dX12_begin_170 : decode cX12_begin 170 = .ok (.goto (-16), 3) := by decide +kernel
theorem dX12_begin_173 : decode cX12_begin 173 = .ok (.iconst 0, 1) := by decide +kernel
theorem dX12_begin_174 : decode cX12_begin 174 = .ok (.istore_n 1, 1) := by decide +kernel
theorem dX12_begin_175 : decode cX12_begin 175 = .ok (.iload_n 1, 1) := by decide +kernel
theorem dX12_begin_176 : decode cX12_begin 176 = .ok (.iconst 3, 1) := by decide +kernel
theorem dX12_begin_177 : decode cX12_begin 177 = .ok (.if_icmp .ge 16, 3) := by decide +kernel
theorem dX12_begin_180 : decode cX12_begin 180 = .ok (.aload_n 0, 1) := by decide +kernel
theorem dX12_begin_181 : decode cX12_begin 181 = .ok (.getfield 98, 3) := by decide +kernel
theorem dX12_begin_184 : decode cX12_begin 184 = .ok (.iload_n 1, 1) := by decide +kernel
theorem dX12_begin_185 : decode cX12_begin 185 = .ok (.iconst 1, 1) := by decide +kernel
theorem dX12_begin_186 : decode cX12_begin 186 = .ok (.iastore, 1) := by decide +kernel
theorem dX12_begin_187 : decode cX12_begin 187 = .ok (.iinc 1 1, 3) := by decide +kernel
theorem dX12_begin_190 : decode cX12_begin 190 = .ok (.goto (-15), 3) := by decide +kernel
theorem dX12_begin_193 : decode cX12_begin 193 = .ok (.iconst 0, 1) := by decide +kernel
theorem dX12_begin_194 : decode cX12_begin 194 = .ok (.istore_n 1, 1) := by decide +kernel
theorem dX12_begin_195 : decode cX12_begin 195 = .ok (.iload_n 1, 1) := by decide +kernel
theorem dX12_begin_196 : decode cX12_begin 196 = .ok (.iconst 4, 1) := by decide +kernel
theorem dX12_begin_197 : decode cX12_begin 197 = .ok (.if_icmp .ge 43, 3) := by decide +kernel
theorem dX12_begin_200 : decode cX12_begin 200 = .ok (.aload_n 0, 1) := by decide +kernel
theorem dX12_begin_201 : decode cX12_begin 201 = .ok (.getfield 195, 3) := by decide +kernel
theorem dX12_begin_204 : decode cX12_begin 204 = .ok (.iload_n 1, 1) := by decide +kernel
theorem dX12_begin_205 : decode cX12_begin 205 = .ok (.iconst 3, 1) := by decide +kernel
theorem dX12_begin_206 : decode cX12_begin 206 = .ok (.iastore, 1) := by decide +kernel
theorem dX12_begin_207 : decode cX12_begin 207 = .ok (.iconst 0, 1) := by decide +kernel
theorem dX12_begin_208 : decode cX12_begin 208 = .ok (.istore_n 2, 1) := by decide +kernel
theorem dX12_begin_209 : decode cX12_begin 209 = .ok (.iload_n 2, 1) := by decide +kernel
theorem dX12_begin_210 : decode cX12_begin 210 = .ok (.iconst 3, 1) := by decide +kernel
theorem dX12_begin_211 : decode cX12_begin 211 = .ok (.if_icmp .ge 23, 3) := by decide +kernel
theorem dX12_begin_214 : decode cX12_begin 214 = .ok (.aload_n 0, 1) := by decide +kernel
theorem dX12_begin_215 : decode cX12_begin 215 = .ok (.getfield 192, 3) := by decide +kernel
theorem dX12_begin_218 : decode cX12_begin 218 = .ok (.sipush 128, 3) := by decide +kernel
theorem dX12_begin_221 : decode cX12_begin 221 = .ok (.iload_n 1, 1) := by decide +kernel
theorem dX12_begin_222 : decode cX12_begin 222 = .ok (.imul, 1) := by decide +kernel
theorem dX12_begin_223 : decode cX12_begin 223 = .ok (.iload_n 2, 1) := by decide +kernel
theorem dX12_begin_224 : decode cX12_begin 224 = .ok (.iadd, 1) := by decide +kernel
theorem dX12_begin_225 : decode cX12_begin 225 = .ok (.bipush (-9), 2) := by decide +kernel
theorem dX12_begin_227 : decode cX12_begin 227 = .ok (.iastore, 1) := by decide +kernel
theorem dX12_begin_228 : decode cX12_begin 228 = .ok (.iinc 2 1, 3) := by decide +kernel
theorem dX12_begin_231 : decode cX12_begin 231 = .ok (.goto (-22), 3) := by decide +kernel
theorem dX12_begin_234 : decode cX12_begin 234 = .ok (.iinc 1 1, 3) := by decide +kernel
theorem dX12_begin_237 : decode cX12_begin 237 = .ok (.goto (-42), 3) := by decide +kernel
theorem dX12_begin_240 : decode cX12_begin 240 = .ok (.return_, 1) := by decide +kernel
def M_X12_begin : y_M := (yX12_begin, cX12_begin, 3, (Option.none : Option Jvm.ClassFile.FieldType))
theorem n_X12_begin : y_N0 M_X12_begin 0 := ⟨(c_7 121 (by decide +kernel) rfl), (c_1 9 (by decide +kernel) rfl), ⟨by decide +kernel, by decide +kernel⟩, by decide +kernel⟩
theorem Fp_BoxYardModel_234 {nm : String} : y_Fp "BoxYardModel" nm 234 12 0 := ⟨_, _, _, rfl, by decide, Or.inl ⟨rfl, Or.inl (c_7 122 (by decide +kernel) rfl)⟩⟩
theorem Fp_BoxYardModel_237 {nm : String} : y_Fp "BoxYardModel" nm 237 12 16 := ⟨_, _, _, rfl, by decide, Or.inl ⟨rfl, Or.inl (c_7 138 (by decide +kernel) rfl)⟩⟩
theorem Fp_BoxYardModel_240 {nm : String} : y_Fp "BoxYardModel" nm 240 12 25 := ⟨_, _, _, rfl, by decide, Or.inl ⟨rfl, Or.inl (c_7 147 (by decide +kernel) rfl)⟩⟩
theorem Fp_BoxYardModel_243 {nm : String} : y_Fp "BoxYardModel" nm 243 12 33 := ⟨_, _, _, rfl, by decide, Or.inl ⟨rfl, Or.inl (c_7 155 (by decide +kernel) rfl)⟩⟩
theorem Fp_BoxYardModel_246 {nm : String} : y_Fp "BoxYardModel" nm 246 12 34 := ⟨_, _, _, rfl, by decide, Or.inl ⟨rfl, Or.inl (c_7 156 (by decide +kernel) rfl)⟩⟩
theorem Fp_BoxYardModel_249 {nm : String} : y_Fp "BoxYardModel" nm 249 12 46 := ⟨_, _, _, rfl, by decide, Or.inl ⟨rfl, Or.inl (c_7 168 (by decide +kernel) rfl)⟩⟩
theorem Fp_BoxYardModel_252 {nm : String} : y_Fp "BoxYardModel" nm 252 12 47 := ⟨_, _, _, rfl, by decide, Or.inl ⟨rfl, Or.inl (c_7 169 (by decide +kernel) rfl)⟩⟩
theorem Fp_BoxYardModel_255 {nm : String} : y_Fp "BoxYardModel" nm 255 12 50 := ⟨_, _, _, rfl, by decide, Or.inl ⟨rfl, Or.inl (c_7 172 (by decide +kernel) rfl)⟩⟩
theorem Fp_BoxYardModel_258 {nm : String} : y_Fp "BoxYardModel" nm 258 12 55 := ⟨_, _, _, rfl, by decide, Or.inl ⟨rfl, Or.inl (c_7 177 (by decide +kernel) rfl)⟩⟩
theorem Fp_BoxYardModel_261 {nm : String} : y_Fp "BoxYardModel" nm 261 12 57 := ⟨_, _, _, rfl, by decide, Or.inl ⟨rfl, Or.inl (c_7 179 (by decide +kernel) rfl)⟩⟩
theorem Fp_BoxYardModel_264 {nm : String} : y_Fp "BoxYardModel" nm 264 12 58 := ⟨_, _, _, rfl, by decide, Or.inl ⟨rfl, Or.inl (c_7 180 (by decide +kernel) rfl)⟩⟩
theorem Fp_BoxYardModel_147 {nm : String} : y_Fp "BoxYardModel" nm 147 12 59 := ⟨_, _, _, rfl, by decide, Or.inl ⟨rfl, Or.inl (c_7 181 (by decide +kernel) rfl)⟩⟩
theorem Fp_BoxYardModel_267 {nm : String} : y_Fp "BoxYardModel" nm 267 12 72 := ⟨_, _, _, rfl, by decide, Or.inl ⟨rfl, Or.inl (c_7 194 (by decide +kernel) rfl)⟩⟩
theorem Fp_BoxYardModel_270 {nm : String} : y_Fp "BoxYardModel" nm 270 12 79 := ⟨_, _, _, rfl, by decide, Or.inl ⟨rfl, Or.inl (c_7 201 (by decide +kernel) rfl)⟩⟩
theorem Fp_BoxYardModel_274 {nm : String} : y_Fp "BoxYardModel" nm 274 12 80 := ⟨_, _, _, rfl, by decide, Or.inl ⟨rfl, Or.inl (c_7 202 (by decide +kernel) rfl)⟩⟩
theorem Fp_BoxYardModel_140 {nm : String} : y_Fp "BoxYardModel" nm 140 12 52 := ⟨_, _, _, rfl, by decide, Or.inl ⟨rfl, Or.inl (c_7 174 (by decide +kernel) rfl)⟩⟩
theorem F_BoxYardModel_195 : y_F "BoxYardModel" 195 12 78 := ⟨_, _, _, rfl, by decide, Or.inl (c_7 200 (by decide +kernel) rfl)⟩
theorem F_BoxYardModel_192 : y_F "BoxYardModel" 192 12 77 := ⟨_, _, _, rfl, by decide, Or.inl (c_7 199 (by decide +kernel) rfl)⟩
theorem F_BoxYardModel_98 : y_F "BoxYardModel" 98 12 32 := ⟨_, _, _, rfl, by decide, Or.inl (c_7 154 (by decide +kernel) rfl)⟩
theorem F_BoxYardModel_134 : y_F "BoxYardModel" 134 12 48 := ⟨_, _, _, rfl, by decide, Or.inl (c_7 170 (by decide +kernel) rfl)⟩
theorem F_BoxYardModel_68 : y_F "BoxYardModel" 68 12 21 := ⟨_, _, _, rfl, by decide, Or.inl (c_7 143 (by decide +kernel) rfl)⟩
theorem F_BoxYardModel_71 : y_F "BoxYardModel" 71 12 22 := ⟨_, _, _, rfl, by decide, Or.inl (c_7 144 (by decide +kernel) rfl)⟩
theorem F_BoxYardModel_77 : y_F "BoxYardModel" 77 12 24 := ⟨_, _, _, rfl, by decide, Or.inl (c_7 146 (by decide +kernel) rfl)⟩
theorem F_BoxYardModel_56 : y_F "BoxYardModel" 56 12 17 := ⟨_, _, _, rfl, by decide, Or.inl (c_7 139 (by decide +kernel) rfl)⟩
set_option maxRecDepth 100000 in
def f_X12_begin (p0 : Nat) (h : y_H) : Option (Unit × y_H) :=
  if y_K h p0 = 13 then
  y_bd (s_I h p0 0 0) (fun h1 =>
  if y_K h1 p0 = 13 then
  y_bd (s_I h1 p0 16 0) (fun h4 =>
  if y_K h4 p0 = 13 then
  y_bd (s_I h4 p0 25 0) (fun h7 =>
  if y_K h7 p0 = 13 then
  y_bd (s_I h7 p0 33 0) (fun h10 =>
  if y_K h10 p0 = 13 then
  y_bd (s_I h10 p0 34 0) (fun h13 =>
  if y_K h13 p0 = 13 then
  y_bd (s_I h13 p0 46 0) (fun h16 =>
  if y_K h16 p0 = 13 then
  y_bd (s_I h16 p0 47 0) (fun h19 =>
  if y_K h19 p0 = 13 then
  y_bd (s_I h19 p0 50 0) (fun h22 =>
  if y_K h22 p0 = 13 then
  y_bd (s_I h22 p0 55 0) (fun h25 =>
  if y_K h25 p0 = 13 then
  y_bd (s_I h25 p0 57 0) (fun h28 =>
  if y_K h28 p0 = 13 then
  y_bd (s_I h28 p0 58 0) (fun h31 =>
  if y_K h31 p0 = 13 then
  y_bd (s_I h31 p0 59 (-9 : Int32)) (fun h34 =>
  if y_K h34 p0 = 13 then
  y_bd (s_I h34 p0 72 0) (fun h37 =>
  if y_K h37 p0 = 13 then
  y_bd (s_B h37 p0 79 false) (fun h40 =>
  if y_K h40 p0 = 13 then
  y_bd (s_L h40 p0 80 0) (fun h43 =>
  if y_K h43 p0 = 13 then
  y_bd (s_I h43 p0 52 (-9 : Int32)) (fun h46 =>
  y_jl (fun (_ : Nat) (_ : Int32) (_ : y_H) => (none : Option (Unit × y_H))) (fun j84 (v0_84 : Nat) (v1_84 : Int32) (h49 : y_H) =>
      if 10 ≤ v1_84 then
        y_jl (fun (_ : Nat) (_ : Int32) (_ : y_H) => (none : Option (Unit × y_H))) (fun j105 (v0_105 : Nat) (v1_105 : Int32) (h50 : y_H) =>
            if 25 ≤ v1_105 then
              y_jl (fun (_ : Nat) (_ : Int32) (_ : y_H) => (none : Option (Unit × y_H))) (fun j126 (v0_126 : Nat) (v1_126 : Int32) (h51 : y_H) =>
                  if 60 ≤ v1_126 then
                    y_jl (fun (_ : Nat) (_ : Int32) (_ : y_H) => (none : Option (Unit × y_H))) (fun j154 (v0_154 : Nat) (v1_154 : Int32) (h52 : y_H) =>
                        if 8 ≤ v1_154 then
                          y_jl (fun (_ : Nat) (_ : Int32) (_ : y_H) => (none : Option (Unit × y_H))) (fun j175 (v0_175 : Nat) (v1_175 : Int32) (h53 : y_H) =>
                              if 3 ≤ v1_175 then
                                y_jl (fun (_ : Nat) (_ : Int32) (_ : y_H) => (none : Option (Unit × y_H))) (fun j195 (v0_195 : Nat) (v1_195 : Int32) (h54 : y_H) =>
                                    if 4 ≤ v1_195 then
                                      some ((), h54)
                                    else
                                      if y_K h54 v0_195 = 13 then
                                      if y_K h54 (y_P h54 v0_195 78) = 100 ∧ y_ix v1_195 (y_N h54 (y_P h54 v0_195 78)) = true then
                                      y_bd (s_I h54 (y_P h54 v0_195 78) (Int32.toNatClampNeg v1_195) 3) (fun h55 =>
                                      y_jl (fun (_ : Nat) (_ : Int32) (_ : Int32) (_ : y_H) => (none : Option (Unit × y_H))) (fun j209 (v0_209 : Nat) (v1_209 : Int32) (v2_209 : Int32) (h58 : y_H) =>
                                          if 3 ≤ v2_209 then
                                            j195 v0_209 (v1_209 + 1) h58
                                          else
                                            if y_K h58 v0_209 = 13 then
                                            if y_K h58 (y_P h58 v0_209 77) = 100 ∧ y_ix ((128 * v1_209) + v2_209) (y_N h58 (y_P h58 v0_209 77)) = true then
                                            y_bd (s_I h58 (y_P h58 v0_209 77) (Int32.toNatClampNeg ((128 * v1_209) + v2_209)) (-9 : Int32)) (fun h59 =>
                                            j209 v0_209 v1_209 (v2_209 + 1) h59)
                                            else none
                                            else none) (fun j209 =>
                                      j209 v0_195 v1_195 0 h55))
                                      else none
                                      else none) (fun j195 =>
                                j195 v0_175 0 h53)
                              else
                                if y_K h53 v0_175 = 13 then
                                if y_K h53 (y_P h53 v0_175 32) = 100 ∧ y_ix v1_175 (y_N h53 (y_P h53 v0_175 32)) = true then
                                y_bd (s_I h53 (y_P h53 v0_175 32) (Int32.toNatClampNeg v1_175) 1) (fun h66 =>
                                j175 v0_175 (v1_175 + 1) h66)
                                else none
                                else none) (fun j175 =>
                          j175 v0_154 0 h52)
                        else
                          if y_K h52 v0_154 = 13 then
                          if y_K h52 (y_P h52 v0_154 48) = 100 ∧ y_ix v1_154 (y_N h52 (y_P h52 v0_154 48)) = true then
                          y_bd (s_I h52 (y_P h52 v0_154 48) (Int32.toNatClampNeg v1_154) 0) (fun h71 =>
                          j154 v0_154 (v1_154 + 1) h71)
                          else none
                          else none) (fun j154 =>
                    j154 v0_126 0 h51)
                  else
                    if y_K h51 v0_126 = 13 then
                    if y_K h51 (y_P h51 v0_126 21) = 100 ∧ y_ix v1_126 (y_N h51 (y_P h51 v0_126 21)) = true then
                    y_bd (s_I h51 (y_P h51 v0_126 21) (Int32.toNatClampNeg v1_126) 0) (fun h76 =>
                    if y_K h76 v0_126 = 13 then
                    if y_K h76 (y_P h76 v0_126 22) = 100 ∧ y_ix v1_126 (y_N h76 (y_P h76 v0_126 22)) = true then
                    y_bd (s_I h76 (y_P h76 v0_126 22) (Int32.toNatClampNeg v1_126) 0) (fun h79 =>
                    j126 v0_126 (v1_126 + 1) h79)
                    else none
                    else none)
                    else none
                    else none) (fun j126 =>
              j126 v0_105 0 h50)
            else
              if y_K h50 v0_105 = 13 then
              if y_K h50 (y_P h50 v0_105 24) = 100 ∧ y_ix v1_105 (y_N h50 (y_P h50 v0_105 24)) = true then
              y_bd (s_I h50 (y_P h50 v0_105 24) (Int32.toNatClampNeg v1_105) 0) (fun h85 =>
              j105 v0_105 (v1_105 + 1) h85)
              else none
              else none) (fun j105 =>
        j105 v0_84 0 h49)
      else
        if y_K h49 v0_84 = 13 then
        if y_K h49 (y_P h49 v0_84 17) = 102 ∧ y_ix v1_84 (y_N h49 (y_P h49 v0_84 17)) = true then
        y_bd (s_B h49 (y_P h49 v0_84 17) (Int32.toNatClampNeg v1_84) false) (fun h90 =>
        j84 v0_84 (v1_84 + 1) h90)
        else none
        else none) (fun j84 =>
  j84 p0 0 h46))
  else none)
  else none)
  else none)
  else none)
  else none)
  else none)
  else none)
  else none)
  else none)
  else none)
  else none)
  else none)
  else none)
  else none)
  else none)
  else none
abbrev rm_X12_begin : Room := { frames := 0, cells := 0, slots := 0, locals := 0 }
set_option maxRecDepth 100000 in
set_option maxHeartbeats 4000000 in
theorem k_X12_begin {l : Launch} {G : y_G} {p0 : Nat} {h hz : y_H} {rz : Unit} (hf : f_X12_begin p0 h = some (rz, hz)) : y_S l G M_X12_begin rm_X12_begin [y_p p0] h none hz := by
  refine y_start (lv := [(0, y_p p0)]) (by decide) (by simp [lg_sl, y_p_cat, y_ci, y_cj, M_X12_begin]) (by simp [lv_args, y_p_cat, y_ci, y_cj]) (fun z ad0 => ?_)
  unfold f_X12_begin at hf
  refine y_aload_n (x := p0) (pc2 := 1) rfl dX12_begin_0 rfl ?_
  refine y_iconst (v := 0) (pc2 := 2) rfl dX12_begin_1 (by decide) ?_
  obtain ⟨g3, hf⟩ := y_g hf
  obtain ⟨h1, e2, hf⟩ := y_bdE hf
  refine y_putI (x := 0) (pc2 := 5) rfl dX12_begin_2 Fp_BoxYardModel_234 (by decide) rfl g3 e2 ?_
  refine y_aload_n (x := p0) (pc2 := 6) rfl dX12_begin_5 rfl ?_
  refine y_iconst (v := 0) (pc2 := 7) rfl dX12_begin_6 (by decide) ?_
  obtain ⟨g6, hf⟩ := y_g hf
  obtain ⟨h4, e5, hf⟩ := y_bdE hf
  refine y_putI (x := 0) (pc2 := 10) rfl dX12_begin_7 Fp_BoxYardModel_237 (by decide) rfl g6 e5 ?_
  refine y_aload_n (x := p0) (pc2 := 11) rfl dX12_begin_10 rfl ?_
  refine y_iconst (v := 0) (pc2 := 12) rfl dX12_begin_11 (by decide) ?_
  obtain ⟨g9, hf⟩ := y_g hf
  obtain ⟨h7, e8, hf⟩ := y_bdE hf
  refine y_putI (x := 0) (pc2 := 15) rfl dX12_begin_12 Fp_BoxYardModel_240 (by decide) rfl g9 e8 ?_
  refine y_aload_n (x := p0) (pc2 := 16) rfl dX12_begin_15 rfl ?_
  refine y_iconst (v := 0) (pc2 := 17) rfl dX12_begin_16 (by decide) ?_
  obtain ⟨g12, hf⟩ := y_g hf
  obtain ⟨h10, e11, hf⟩ := y_bdE hf
  refine y_putI (x := 0) (pc2 := 20) rfl dX12_begin_17 Fp_BoxYardModel_243 (by decide) rfl g12 e11 ?_
  refine y_aload_n (x := p0) (pc2 := 21) rfl dX12_begin_20 rfl ?_
  refine y_iconst (v := 0) (pc2 := 22) rfl dX12_begin_21 (by decide) ?_
  obtain ⟨g15, hf⟩ := y_g hf
  obtain ⟨h13, e14, hf⟩ := y_bdE hf
  refine y_putI (x := 0) (pc2 := 25) rfl dX12_begin_22 Fp_BoxYardModel_246 (by decide) rfl g15 e14 ?_
  refine y_aload_n (x := p0) (pc2 := 26) rfl dX12_begin_25 rfl ?_
  refine y_iconst (v := 0) (pc2 := 27) rfl dX12_begin_26 (by decide) ?_
  obtain ⟨g18, hf⟩ := y_g hf
  obtain ⟨h16, e17, hf⟩ := y_bdE hf
  refine y_putI (x := 0) (pc2 := 30) rfl dX12_begin_27 Fp_BoxYardModel_249 (by decide) rfl g18 e17 ?_
  refine y_aload_n (x := p0) (pc2 := 31) rfl dX12_begin_30 rfl ?_
  refine y_iconst (v := 0) (pc2 := 32) rfl dX12_begin_31 (by decide) ?_
  obtain ⟨g21, hf⟩ := y_g hf
  obtain ⟨h19, e20, hf⟩ := y_bdE hf
  refine y_putI (x := 0) (pc2 := 35) rfl dX12_begin_32 Fp_BoxYardModel_252 (by decide) rfl g21 e20 ?_
  refine y_aload_n (x := p0) (pc2 := 36) rfl dX12_begin_35 rfl ?_
  refine y_iconst (v := 0) (pc2 := 37) rfl dX12_begin_36 (by decide) ?_
  obtain ⟨g24, hf⟩ := y_g hf
  obtain ⟨h22, e23, hf⟩ := y_bdE hf
  refine y_putI (x := 0) (pc2 := 40) rfl dX12_begin_37 Fp_BoxYardModel_255 (by decide) rfl g24 e23 ?_
  refine y_aload_n (x := p0) (pc2 := 41) rfl dX12_begin_40 rfl ?_
  refine y_iconst (v := 0) (pc2 := 42) rfl dX12_begin_41 (by decide) ?_
  obtain ⟨g27, hf⟩ := y_g hf
  obtain ⟨h25, e26, hf⟩ := y_bdE hf
  refine y_putI (x := 0) (pc2 := 45) rfl dX12_begin_42 Fp_BoxYardModel_258 (by decide) rfl g27 e26 ?_
  refine y_aload_n (x := p0) (pc2 := 46) rfl dX12_begin_45 rfl ?_
  refine y_iconst (v := 0) (pc2 := 47) rfl dX12_begin_46 (by decide) ?_
  obtain ⟨g30, hf⟩ := y_g hf
  obtain ⟨h28, e29, hf⟩ := y_bdE hf
  refine y_putI (x := 0) (pc2 := 50) rfl dX12_begin_47 Fp_BoxYardModel_261 (by decide) rfl g30 e29 ?_
  refine y_aload_n (x := p0) (pc2 := 51) rfl dX12_begin_50 rfl ?_
  refine y_iconst (v := 0) (pc2 := 52) rfl dX12_begin_51 (by decide) ?_
  obtain ⟨g33, hf⟩ := y_g hf
  obtain ⟨h31, e32, hf⟩ := y_bdE hf
  refine y_putI (x := 0) (pc2 := 55) rfl dX12_begin_52 Fp_BoxYardModel_264 (by decide) rfl g33 e32 ?_
  refine y_aload_n (x := p0) (pc2 := 56) rfl dX12_begin_55 rfl ?_
  refine y_bipush (v := (-9 : Int32)) (pc2 := 58) rfl dX12_begin_56 (by decide) ?_
  obtain ⟨g36, hf⟩ := y_g hf
  obtain ⟨h34, e35, hf⟩ := y_bdE hf
  refine y_putI (x := (-9 : Int32)) (pc2 := 61) rfl dX12_begin_58 Fp_BoxYardModel_147 (by decide) rfl g36 e35 ?_
  refine y_aload_n (x := p0) (pc2 := 62) rfl dX12_begin_61 rfl ?_
  refine y_iconst (v := 0) (pc2 := 63) rfl dX12_begin_62 (by decide) ?_
  obtain ⟨g39, hf⟩ := y_g hf
  obtain ⟨h37, e38, hf⟩ := y_bdE hf
  refine y_putI (x := 0) (pc2 := 66) rfl dX12_begin_63 Fp_BoxYardModel_267 (by decide) rfl g39 e38 ?_
  refine y_aload_n (x := p0) (pc2 := 67) rfl dX12_begin_66 rfl ?_
  refine y_iconst (v := 0) (pc2 := 68) rfl dX12_begin_67 (by decide) ?_
  obtain ⟨g42, hf⟩ := y_g hf
  obtain ⟨h40, e41, hf⟩ := y_bdE hf
  refine y_putZ (x := false) (pc2 := 71) rfl dX12_begin_68 Fp_BoxYardModel_270 (by decide) rfl g42 e41 ?_
  refine y_aload_n (x := p0) (pc2 := 72) rfl dX12_begin_71 rfl ?_
  refine y_lconst (v := 0) (pc2 := 73) rfl dX12_begin_72 rfl ?_
  obtain ⟨g45, hf⟩ := y_g hf
  obtain ⟨h43, e44, hf⟩ := y_bdE hf
  refine y_putL (x := 0) (pc2 := 76) rfl dX12_begin_73 Fp_BoxYardModel_274 (by decide) rfl g45 e44 ?_
  refine y_aload_n (x := p0) (pc2 := 77) rfl dX12_begin_76 rfl ?_
  refine y_bipush (v := (-9 : Int32)) (pc2 := 79) rfl dX12_begin_77 (by decide) ?_
  obtain ⟨g48, hf⟩ := y_g hf
  obtain ⟨h46, e47, hf⟩ := y_bdE hf
  refine y_putI (x := (-9 : Int32)) (pc2 := 82) rfl dX12_begin_79 Fp_BoxYardModel_140 (by decide) rfl g48 e47 ?_
  refine y_iconst (v := 0) (pc2 := 83) rfl dX12_begin_82 (by decide) ?_
  refine y_jlE hf (fun j => ∀ (v0_84 : Nat) (v1_84 : Int32) (h49 : y_H), j v0_84 v1_84 h49 = some (rz, hz) → y_V l G z rm_X12_begin M_X12_begin ad0 h none hz 84 [(0, y_p v0_84), (1, .int v1_84)] [] h49 0 0) (fun _ _ _ hf => by cases hf) (fun j84 hj84 v0_84 v1_84 h49 hf => ?_) (fun j84 hj84 hf => ?_)
  · refine y_iload_n (pc2 := 85) rfl dX12_begin_84 rfl ?_
    refine y_bipush (v := 10) (pc2 := 87) rfl dX12_begin_85 (by decide) ?_
    refine y_icmp_ge (tgt := 103) (pc2 := 90) rfl dX12_begin_87 (by decide) (fun c94 => ?_) (fun c94 => ?_)
    · replace hf := y_it c94 hf
      refine y_iconst (v := 0) (pc2 := 104) rfl dX12_begin_103 (by decide) ?_
      refine y_jlE hf (fun j => ∀ (v0_105 : Nat) (v1_105 : Int32) (h50 : y_H), j v0_105 v1_105 h50 = some (rz, hz) → y_V l G z rm_X12_begin M_X12_begin ad0 h none hz 105 [(0, y_p v0_105), (1, .int v1_105)] [] h50 0 0) (fun _ _ _ hf => by cases hf) (fun j105 hj105 v0_105 v1_105 h50 hf => ?_) (fun j105 hj105 hf => ?_)
      · refine y_iload_n (pc2 := 106) rfl dX12_begin_105 rfl ?_
        refine y_bipush (v := 25) (pc2 := 108) rfl dX12_begin_106 (by decide) ?_
        refine y_icmp_ge (tgt := 124) (pc2 := 111) rfl dX12_begin_108 (by decide) (fun c89 => ?_) (fun c89 => ?_)
        · replace hf := y_it c89 hf
          refine y_iconst (v := 0) (pc2 := 125) rfl dX12_begin_124 (by decide) ?_
          refine y_jlE hf (fun j => ∀ (v0_126 : Nat) (v1_126 : Int32) (h51 : y_H), j v0_126 v1_126 h51 = some (rz, hz) → y_V l G z rm_X12_begin M_X12_begin ad0 h none hz 126 [(0, y_p v0_126), (1, .int v1_126)] [] h51 0 0) (fun _ _ _ hf => by cases hf) (fun j126 hj126 v0_126 v1_126 h51 hf => ?_) (fun j126 hj126 hf => ?_)
          · refine y_iload_n (pc2 := 127) rfl dX12_begin_126 rfl ?_
            refine y_bipush (v := 60) (pc2 := 129) rfl dX12_begin_127 (by decide) ?_
            refine y_icmp_ge (tgt := 152) (pc2 := 132) rfl dX12_begin_129 (by decide) (fun c84 => ?_) (fun c84 => ?_)
            · replace hf := y_it c84 hf
              refine y_iconst (v := 0) (pc2 := 153) rfl dX12_begin_152 (by decide) ?_
              refine y_jlE hf (fun j => ∀ (v0_154 : Nat) (v1_154 : Int32) (h52 : y_H), j v0_154 v1_154 h52 = some (rz, hz) → y_V l G z rm_X12_begin M_X12_begin ad0 h none hz 154 [(0, y_p v0_154), (1, .int v1_154)] [] h52 0 0) (fun _ _ _ hf => by cases hf) (fun j154 hj154 v0_154 v1_154 h52 hf => ?_) (fun j154 hj154 hf => ?_)
              · refine y_iload_n (pc2 := 155) rfl dX12_begin_154 rfl ?_
                refine y_bipush (v := 8) (pc2 := 157) rfl dX12_begin_155 (by decide) ?_
                refine y_icmp_ge (tgt := 173) (pc2 := 160) rfl dX12_begin_157 (by decide) (fun c75 => ?_) (fun c75 => ?_)
                · replace hf := y_it c75 hf
                  refine y_iconst (v := 0) (pc2 := 174) rfl dX12_begin_173 (by decide) ?_
                  refine y_jlE hf (fun j => ∀ (v0_175 : Nat) (v1_175 : Int32) (h53 : y_H), j v0_175 v1_175 h53 = some (rz, hz) → y_V l G z rm_X12_begin M_X12_begin ad0 h none hz 175 [(0, y_p v0_175), (1, .int v1_175)] [] h53 0 0) (fun _ _ _ hf => by cases hf) (fun j175 hj175 v0_175 v1_175 h53 hf => ?_) (fun j175 hj175 hf => ?_)
                  · refine y_iload_n (pc2 := 176) rfl dX12_begin_175 rfl ?_
                    refine y_iconst (v := 3) (pc2 := 177) rfl dX12_begin_176 (by decide) ?_
                    refine y_icmp_ge (tgt := 193) (pc2 := 180) rfl dX12_begin_177 (by decide) (fun c70 => ?_) (fun c70 => ?_)
                    · replace hf := y_it c70 hf
                      refine y_iconst (v := 0) (pc2 := 194) rfl dX12_begin_193 (by decide) ?_
                      refine y_jlE hf (fun j => ∀ (v0_195 : Nat) (v1_195 : Int32) (h54 : y_H), j v0_195 v1_195 h54 = some (rz, hz) → y_V l G z rm_X12_begin M_X12_begin ad0 h none hz 195 [(0, y_p v0_195), (1, .int v1_195)] [] h54 0 0) (fun _ _ _ hf => by cases hf) (fun j195 hj195 v0_195 v1_195 h54 hf => ?_) (fun j195 hj195 hf => ?_)
                      · refine y_iload_n (pc2 := 196) rfl dX12_begin_195 rfl ?_
                        refine y_iconst (v := 4) (pc2 := 197) rfl dX12_begin_196 (by decide) ?_
                        refine y_icmp_ge (tgt := 240) (pc2 := 200) rfl dX12_begin_197 (by decide) (fun c65 => ?_) (fun c65 => ?_)
                        · replace hf := y_it c65 hf
                          exact y_vretF hf dX12_begin_240 rfl (by decide) (by decide)
                        · replace hf := y_ie c65 hf
                          refine y_aload_n (x := v0_195) (pc2 := 201) rfl dX12_begin_200 rfl ?_
                          obtain ⟨g64, hf⟩ := y_g hf
                          refine y_getP (pc2 := 204) rfl dX12_begin_201 F_BoxYardModel_195 (by decide) rfl g64 ?_
                          refine y_iload_n (pc2 := 205) rfl dX12_begin_204 rfl ?_
                          refine y_iconst (v := 3) (pc2 := 206) rfl dX12_begin_205 (by decide) ?_
                          obtain ⟨g57, hf⟩ := y_g hf
                          obtain ⟨h55, e56, hf⟩ := y_bdE hf
                          refine y_iast (x := 3) (pc2 := 207) rfl dX12_begin_206 g57.1 (y_ix_in g57.2) e56 ?_
                          refine y_iconst (v := 0) (pc2 := 208) rfl dX12_begin_207 (by decide) ?_
                          refine y_jlE hf (fun j => ∀ (v0_209 : Nat) (v1_209 : Int32) (v2_209 : Int32) (h58 : y_H), j v0_209 v1_209 v2_209 h58 = some (rz, hz) → y_V l G z rm_X12_begin M_X12_begin ad0 h none hz 209 [(0, y_p v0_209), (1, .int v1_209), (2, .int v2_209)] [] h58 0 0) (fun _ _ _ _ hf => by cases hf) (fun j209 hj209 v0_209 v1_209 v2_209 h58 hf => ?_) (fun j209 hj209 hf => ?_)
                          · refine y_iload_n (pc2 := 210) rfl dX12_begin_209 rfl ?_
                            refine y_iconst (v := 3) (pc2 := 211) rfl dX12_begin_210 (by decide) ?_
                            refine y_icmp_ge (tgt := 234) (pc2 := 214) rfl dX12_begin_211 (by decide) (fun c63 => ?_) (fun c63 => ?_)
                            · replace hf := y_it c63 hf
                              refine y_iinc (v := v1_209 + 1) (lv' := [(1, .int (v1_209 + 1)), (0, y_p v0_209), (2, .int v2_209)]) (pc2 := 237) rfl dX12_begin_234 rfl rfl (by decide) (by simp [y_st1, y_p_cat, y_ci, y_cj]) ?_
                              refine y_goto (tgt := 195) dX12_begin_237 (by decide) ?_
                              exact y_pk [1, 0] rfl (hj195 _ _ _ hf)
                            · replace hf := y_ie c63 hf
                              refine y_aload_n (x := v0_209) (pc2 := 215) rfl dX12_begin_214 rfl ?_
                              obtain ⟨g62, hf⟩ := y_g hf
                              refine y_getP (pc2 := 218) rfl dX12_begin_215 F_BoxYardModel_192 (by decide) rfl g62 ?_
                              refine y_sipush (v := 128) (pc2 := 221) rfl dX12_begin_218 (by decide) ?_
                              refine y_iload_n (pc2 := 222) rfl dX12_begin_221 rfl ?_
                              refine y_imul (pc2 := 223) rfl dX12_begin_222 ?_
                              refine y_iload_n (pc2 := 224) rfl dX12_begin_223 rfl ?_
                              refine y_iadd (pc2 := 225) rfl dX12_begin_224 ?_
                              refine y_bipush (v := (-9 : Int32)) (pc2 := 227) rfl dX12_begin_225 (by decide) ?_
                              obtain ⟨g61, hf⟩ := y_g hf
                              obtain ⟨h59, e60, hf⟩ := y_bdE hf
                              refine y_iast (x := (-9 : Int32)) (pc2 := 228) rfl dX12_begin_227 g61.1 (y_ix_in g61.2) e60 ?_
                              refine y_iinc (v := v2_209 + 1) (lv' := [(2, .int (v2_209 + 1)), (0, y_p v0_209), (1, .int v1_209)]) (pc2 := 231) rfl dX12_begin_228 rfl rfl (by decide) rfl ?_
                              refine y_goto (tgt := 209) dX12_begin_231 (by decide) ?_
                              exact y_pk [1, 2, 0] rfl (hj209 _ _ _ _ hf)
                          · refine y_istore_n (lv' := [(2, .int 0), (0, y_p v0_195), (1, .int v1_195)]) (pc2 := 209) rfl dX12_begin_208 (by decide) rfl ?_
                            exact y_pk [1, 2, 0] rfl (hj209 _ _ _ _ hf)
                      · refine y_istore_n (lv' := [(1, .int 0), (0, y_p v0_175)]) (pc2 := 195) rfl dX12_begin_194 (by decide) (by show y_st1 _ 1 _ = _; simp [y_st1, y_p_cat, y_ci, y_cj]) ?_
                        exact y_pk [1, 0] rfl (hj195 _ _ _ hf)
                    · replace hf := y_ie c70 hf
                      refine y_aload_n (x := v0_175) (pc2 := 181) rfl dX12_begin_180 rfl ?_
                      obtain ⟨g69, hf⟩ := y_g hf
                      refine y_getP (pc2 := 184) rfl dX12_begin_181 F_BoxYardModel_98 (by decide) rfl g69 ?_
                      refine y_iload_n (pc2 := 185) rfl dX12_begin_184 rfl ?_
                      refine y_iconst (v := 1) (pc2 := 186) rfl dX12_begin_185 (by decide) ?_
                      obtain ⟨g68, hf⟩ := y_g hf
                      obtain ⟨h66, e67, hf⟩ := y_bdE hf
                      refine y_iast (x := 1) (pc2 := 187) rfl dX12_begin_186 g68.1 (y_ix_in g68.2) e67 ?_
                      refine y_iinc (v := v1_175 + 1) (lv' := [(1, .int (v1_175 + 1)), (0, y_p v0_175)]) (pc2 := 190) rfl dX12_begin_187 rfl rfl (by decide) (by simp [y_st1, y_p_cat, y_ci, y_cj]) ?_
                      refine y_goto (tgt := 175) dX12_begin_190 (by decide) ?_
                      exact y_pk [1, 0] rfl (hj175 _ _ _ hf)
                  · refine y_istore_n (lv' := [(1, .int 0), (0, y_p v0_154)]) (pc2 := 175) rfl dX12_begin_174 (by decide) (by show y_st1 _ 1 _ = _; simp [y_st1, y_p_cat, y_ci, y_cj]) ?_
                    exact y_pk [1, 0] rfl (hj175 _ _ _ hf)
                · replace hf := y_ie c75 hf
                  refine y_aload_n (x := v0_154) (pc2 := 161) rfl dX12_begin_160 rfl ?_
                  obtain ⟨g74, hf⟩ := y_g hf
                  refine y_getP (pc2 := 164) rfl dX12_begin_161 F_BoxYardModel_134 (by decide) rfl g74 ?_
                  refine y_iload_n (pc2 := 165) rfl dX12_begin_164 rfl ?_
                  refine y_iconst (v := 0) (pc2 := 166) rfl dX12_begin_165 (by decide) ?_
                  obtain ⟨g73, hf⟩ := y_g hf
                  obtain ⟨h71, e72, hf⟩ := y_bdE hf
                  refine y_iast (x := 0) (pc2 := 167) rfl dX12_begin_166 g73.1 (y_ix_in g73.2) e72 ?_
                  refine y_iinc (v := v1_154 + 1) (lv' := [(1, .int (v1_154 + 1)), (0, y_p v0_154)]) (pc2 := 170) rfl dX12_begin_167 rfl rfl (by decide) (by simp [y_st1, y_p_cat, y_ci, y_cj]) ?_
                  refine y_goto (tgt := 154) dX12_begin_170 (by decide) ?_
                  exact y_pk [1, 0] rfl (hj154 _ _ _ hf)
              · refine y_istore_n (lv' := [(1, .int 0), (0, y_p v0_126)]) (pc2 := 154) rfl dX12_begin_153 (by decide) (by show y_st1 _ 1 _ = _; simp [y_st1, y_p_cat, y_ci, y_cj]) ?_
                exact y_pk [1, 0] rfl (hj154 _ _ _ hf)
            · replace hf := y_ie c84 hf
              refine y_aload_n (x := v0_126) (pc2 := 133) rfl dX12_begin_132 rfl ?_
              obtain ⟨g83, hf⟩ := y_g hf
              refine y_getP (pc2 := 136) rfl dX12_begin_133 F_BoxYardModel_68 (by decide) rfl g83 ?_
              refine y_iload_n (pc2 := 137) rfl dX12_begin_136 rfl ?_
              refine y_iconst (v := 0) (pc2 := 138) rfl dX12_begin_137 (by decide) ?_
              obtain ⟨g78, hf⟩ := y_g hf
              obtain ⟨h76, e77, hf⟩ := y_bdE hf
              refine y_iast (x := 0) (pc2 := 139) rfl dX12_begin_138 g78.1 (y_ix_in g78.2) e77 ?_
              refine y_aload_n (x := v0_126) (pc2 := 140) rfl dX12_begin_139 rfl ?_
              obtain ⟨g82, hf⟩ := y_g hf
              refine y_getP (pc2 := 143) rfl dX12_begin_140 F_BoxYardModel_71 (by decide) rfl g82 ?_
              refine y_iload_n (pc2 := 144) rfl dX12_begin_143 rfl ?_
              refine y_iconst (v := 0) (pc2 := 145) rfl dX12_begin_144 (by decide) ?_
              obtain ⟨g81, hf⟩ := y_g hf
              obtain ⟨h79, e80, hf⟩ := y_bdE hf
              refine y_iast (x := 0) (pc2 := 146) rfl dX12_begin_145 g81.1 (y_ix_in g81.2) e80 ?_
              refine y_iinc (v := v1_126 + 1) (lv' := [(1, .int (v1_126 + 1)), (0, y_p v0_126)]) (pc2 := 149) rfl dX12_begin_146 rfl rfl (by decide) (by simp [y_st1, y_p_cat, y_ci, y_cj]) ?_
              refine y_goto (tgt := 126) dX12_begin_149 (by decide) ?_
              exact y_pk [1, 0] rfl (hj126 _ _ _ hf)
          · refine y_istore_n (lv' := [(1, .int 0), (0, y_p v0_105)]) (pc2 := 126) rfl dX12_begin_125 (by decide) (by show y_st1 _ 1 _ = _; simp [y_st1, y_p_cat, y_ci, y_cj]) ?_
            exact y_pk [1, 0] rfl (hj126 _ _ _ hf)
        · replace hf := y_ie c89 hf
          refine y_aload_n (x := v0_105) (pc2 := 112) rfl dX12_begin_111 rfl ?_
          obtain ⟨g88, hf⟩ := y_g hf
          refine y_getP (pc2 := 115) rfl dX12_begin_112 F_BoxYardModel_77 (by decide) rfl g88 ?_
          refine y_iload_n (pc2 := 116) rfl dX12_begin_115 rfl ?_
          refine y_iconst (v := 0) (pc2 := 117) rfl dX12_begin_116 (by decide) ?_
          obtain ⟨g87, hf⟩ := y_g hf
          obtain ⟨h85, e86, hf⟩ := y_bdE hf
          refine y_iast (x := 0) (pc2 := 118) rfl dX12_begin_117 g87.1 (y_ix_in g87.2) e86 ?_
          refine y_iinc (v := v1_105 + 1) (lv' := [(1, .int (v1_105 + 1)), (0, y_p v0_105)]) (pc2 := 121) rfl dX12_begin_118 rfl rfl (by decide) (by simp [y_st1, y_p_cat, y_ci, y_cj]) ?_
          refine y_goto (tgt := 105) dX12_begin_121 (by decide) ?_
          exact y_pk [1, 0] rfl (hj105 _ _ _ hf)
      · refine y_istore_n (lv' := [(1, .int 0), (0, y_p v0_84)]) (pc2 := 105) rfl dX12_begin_104 (by decide) (by show y_st1 _ 1 _ = _; simp [y_st1, y_p_cat, y_ci, y_cj]) ?_
        exact y_pk [1, 0] rfl (hj105 _ _ _ hf)
    · replace hf := y_ie c94 hf
      refine y_aload_n (x := v0_84) (pc2 := 91) rfl dX12_begin_90 rfl ?_
      obtain ⟨g93, hf⟩ := y_g hf
      refine y_getP (pc2 := 94) rfl dX12_begin_91 F_BoxYardModel_56 (by decide) rfl g93 ?_
      refine y_iload_n (pc2 := 95) rfl dX12_begin_94 rfl ?_
      refine y_iconst (v := 0) (pc2 := 96) rfl dX12_begin_95 (by decide) ?_
      obtain ⟨g92, hf⟩ := y_g hf
      obtain ⟨h90, e91, hf⟩ := y_bdE hf
      refine y_zast (x := false) (pc2 := 97) rfl dX12_begin_96 g92.1 (y_ix_in g92.2) e91 ?_
      refine y_iinc (v := v1_84 + 1) (lv' := [(1, .int (v1_84 + 1)), (0, y_p v0_84)]) (pc2 := 100) rfl dX12_begin_97 rfl rfl (by decide) (by simp [y_st1, y_p_cat, y_ci, y_cj]) ?_
      refine y_goto (tgt := 84) dX12_begin_100 (by decide) ?_
      exact y_pk [1, 0] rfl (hj84 _ _ _ hf)
  · refine y_istore_n (lv' := [(1, .int 0), (0, y_p p0)]) (pc2 := 84) rfl dX12_begin_83 (by decide) (by show y_st1 _ 1 _ = _; simp [y_st1, y_p_cat, y_ci, y_cj]) ?_
    exact y_pk [1, 0] rfl (hj84 _ _ _ hf)
theorem dX12_in_0 : decode cX12_in 0 = .ok (.iload_n 0, 1) := by decide +kernel
theorem dX12_in_1 : decode cX12_in 1 = .ok (.iload_n 1, 1) := by decide +kernel
theorem dX12_in_2 : decode cX12_in 2 = .ok (.if_icmp .lt 12, 3) := by decide +kernel
theorem dX12_in_5 : decode cX12_in 5 = .ok (.iload_n 0, 1) := by decide +kernel
theorem dX12_in_6 : decode cX12_in 6 = .ok (.iload_n 2, 1) := by decide +kernel
theorem dX12_in_7 : decode cX12_in 7 = .ok (.if_icmp .gt 7, 3) := by decide +kernel
theorem dX12_in_10 : decode cX12_in 10 = .ok (.iconst 1, 1) := by decide +kernel
theorem dX12_in_11 : decode cX12_in 11 = .ok (.goto 4, 3) := by decide +kernel
theorem dX12_in_14 : decode cX12_in 14 = .ok (.iconst 0, 1) := by decide +kernel
theorem dX12_in_15 : decode cX12_in 15 = .ok (.ireturn, 1) := by decide +kernel
def M_X12_in : y_M := (yX12_in, cX12_in, 3, (Option.some Jvm.ClassFile.FieldType.boolean))
theorem n_X12_in : y_N0 M_X12_in 3 := ⟨(c_8 174 (by decide +kernel) rfl), (c_1 9 (by decide +kernel) rfl), ⟨by decide +kernel, by decide +kernel⟩, by decide +kernel⟩
set_option maxRecDepth 100000 in
def f_X12_in (p0 : Int32) (p1 : Int32) (p2 : Int32) (h : y_H) : Option (Bool × y_H) :=
  y_jn (fun (h1 : y_H) => (
      some (false, h1) : Option (Bool × y_H))) (fun j14 =>
  if p0 < p1 then
    j14 h
  else
    if p2 < p0 then
      j14 h
    else
      some (true, h))
abbrev rm_X12_in : Room := { frames := 0, cells := 0, slots := 0, locals := 0 }
set_option maxRecDepth 100000 in
set_option maxHeartbeats 4000000 in
theorem k_X12_in {l : Launch} {G : y_G} {p0 : Int32} {p1 : Int32} {p2 : Int32} {h hz : y_H} {rz : Bool} (hf : f_X12_in p0 p1 p2 h = some (rz, hz)) : y_S l G M_X12_in rm_X12_in [.int p0, .int p1, .int p2] h (some (.int (y_z rz))) hz := by
  refine y_start (lv := [(0, .int p0), (1, .int p1), (2, .int p2)]) (by decide) (by simp [lg_sl, y_p_cat, y_ci, y_cj, M_X12_in]) (by simp [lv_args, y_p_cat, y_ci, y_cj]) (fun z ad0 => ?_)
  unfold f_X12_in at hf
  refine y_iload_n (pc2 := 1) rfl dX12_in_0 rfl ?_
  refine y_iload_n (pc2 := 2) rfl dX12_in_1 rfl ?_
  refine y_jnE hf (fun j => ∀ (h1 : y_H), j h1 = some (rz, hz) → y_V l G z rm_X12_in M_X12_in ad0 h (some (.int (y_z rz))) hz 14 [] [] h1 0 0) (fun h1 hf => ?_) (fun j14 hj14 hf => ?_)
  · refine y_iconst (v := 0) (pc2 := 15) rfl dX12_in_14 (by decide) ?_
    exact y_zretF (x := false) hf dX12_in_15 rfl (by decide) (by decide)
  · refine y_icmp_lt (tgt := 14) (pc2 := 5) rfl dX12_in_2 (by decide) (fun c3 => ?_) (fun c3 => ?_)
    · replace hf := y_it c3 hf
      exact y_pk [] rfl (hj14 _ hf)
    · replace hf := y_ie c3 hf
      refine y_iload_n (pc2 := 6) rfl dX12_in_5 rfl ?_
      refine y_iload_n (pc2 := 7) rfl dX12_in_6 rfl ?_
      refine y_icmp_gt (tgt := 14) (pc2 := 10) rfl dX12_in_7 (by decide) (fun c2 => ?_) (fun c2 => ?_)
      · replace hf := y_it c2 hf
        exact y_pk [] rfl (hj14 _ hf)
      · replace hf := y_ie c2 hf
        refine y_iconst (v := 1) (pc2 := 11) rfl dX12_in_10 (by decide) ?_
        refine y_goto (tgt := 15) dX12_in_11 (by decide) ?_
        exact y_zretF (x := true) hf dX12_in_15 rfl (by decide) (by decide)
theorem dX12_isBox_0 : decode cX12_isBox 0 = .ok (.iload_n 1, 1) := by decide +kernel
theorem dX12_isBox_1 : decode cX12_isBox 1 = .ok (.iconst 0, 1) := by decide +kernel
theorem dX12_isBox_2 : decode cX12_isBox 2 = .ok (.aload_n 0, 1) := by decide +kernel
theorem dX12_isBox_3 : decode cX12_isBox 3 = .ok (.getfield 234, 3) := by decide +kernel
theorem dX12_isBox_6 : decode cX12_isBox 6 = .ok (.iconst 1, 1) := by decide +kernel
theorem dX12_isBox_7 : decode cX12_isBox 7 = .ok (.isub, 1) := by decide +kernel
theorem dX12_isBox_8 : decode cX12_isBox 8 = .ok (.invokestatic 278, 3) := by decide +kernel
theorem dX12_isBox_11 : decode cX12_isBox 11 = .ok (.ireturn, 1) := by decide +kernel
def M_X12_isBox : y_M := (yX12_isBox, cX12_isBox, 2, (Option.some Jvm.ClassFile.FieldType.boolean))
theorem n_X12_isBox : y_N0 M_X12_isBox 1 := ⟨(c_8 186 (by decide +kernel) rfl), (c_1 9 (by decide +kernel) rfl), ⟨by decide +kernel, by decide +kernel⟩, by decide +kernel⟩
theorem F_BoxYardModel_234 : y_F "BoxYardModel" 234 12 0 := ⟨_, _, _, rfl, by decide, Or.inl (c_7 122 (by decide +kernel) rfl)⟩
theorem l_BoxYardModel_278 : y_lnk "BoxYardModel" 278 M_X12_in := Or.inl (c_8 172 (by decide +kernel) rfl)
theorem t_X12_in : Cond.static (M_X12_in).1 ∈ y_tb := (c_8 173 (by decide +kernel) rfl)
set_option maxRecDepth 100000 in
def f_X12_isBox (p0 : Nat) (p1 : Int32) (h : y_H) : Option (Bool × y_H) :=
  if y_K h p0 = 13 then
  y_cl (f_X12_in p1 0 ((y_I h p0 0) - 1) h) (fun r1 h2 =>
  some (r1, h2))
  else none
abbrev rm_X12_isBox : Room := { frames := 1, cells := 0, slots := 0, locals := 22 }
set_option maxRecDepth 100000 in
set_option maxHeartbeats 4000000 in
theorem k_X12_isBox {l : Launch} {G : y_G} {p0 : Nat} {p1 : Int32} {h hz : y_H} {rz : Bool} (hf : f_X12_isBox p0 p1 h = some (rz, hz)) : y_S l G M_X12_isBox rm_X12_isBox [y_p p0, .int p1] h (some (.int (y_z rz))) hz := by
  refine y_start (lv := [(0, y_p p0), (1, .int p1)]) (by decide) (by simp [lg_sl, y_p_cat, y_ci, y_cj, M_X12_isBox]) (by simp [lv_args, y_p_cat, y_ci, y_cj]) (fun z ad0 => ?_)
  unfold f_X12_isBox at hf
  refine y_iload_n (pc2 := 1) rfl dX12_isBox_0 rfl ?_
  refine y_iconst (v := 0) (pc2 := 2) rfl dX12_isBox_1 (by decide) ?_
  refine y_aload_n (x := p0) (pc2 := 3) rfl dX12_isBox_2 rfl ?_
  obtain ⟨g4, hf⟩ := y_g hf
  refine y_getI (pc2 := 6) rfl dX12_isBox_3 F_BoxYardModel_234 (by decide) rfl g4 ?_
  refine y_iconst (v := 1) (pc2 := 7) rfl dX12_isBox_6 (by decide) ?_
  refine y_isub (pc2 := 8) rfl dX12_isBox_7 ?_
  obtain ⟨r1, h2, c3, hf⟩ := y_clE hf
  refine y_callS (As := [.int p1, .int 0, .int ((y_I h p0 0) - 1)]) (rm := rm_X12_in) (cells := 0) (slots := 0) (pc2 := 11) rfl dX12_isBox_8 n_X12_in l_BoxYardModel_278 t_X12_in rfl rfl (by decide) (by decide) (by decide) (k_X12_in c3) ?_
  exact y_zretF hf dX12_isBox_11 rfl (by decide) (by decide)
theorem dX12_isCrane_0 : decode cX12_isCrane 0 = .ok (.iload_n 1, 1) := by decide +kernel
theorem dX12_isCrane_1 : decode cX12_isCrane 1 = .ok (.iconst 0, 1) := by decide +kernel
theorem dX12_isCrane_2 : decode cX12_isCrane 2 = .ok (.aload_n 0, 1) := by decide +kernel
theorem dX12_isCrane_3 : decode cX12_isCrane 3 = .ok (.getfield 240, 3) := by decide +kernel
theorem dX12_isCrane_6 : decode cX12_isCrane 6 = .ok (.iconst 1, 1) := by decide +kernel
theorem dX12_isCrane_7 : decode cX12_isCrane 7 = .ok (.isub, 1) := by decide +kernel
theorem dX12_isCrane_8 : decode cX12_isCrane 8 = .ok (.invokestatic 278, 3) := by decide +kernel
theorem dX12_isCrane_11 : decode cX12_isCrane 11 = .ok (.ireturn, 1) := by decide +kernel
def M_X12_isCrane : y_M := (yX12_isCrane, cX12_isCrane, 2, (Option.some Jvm.ClassFile.FieldType.boolean))
theorem n_X12_isCrane : y_N0 M_X12_isCrane 1 := ⟨(c_9 38 (by decide +kernel) rfl), (c_1 9 (by decide +kernel) rfl), ⟨by decide +kernel, by decide +kernel⟩, by decide +kernel⟩
theorem F_BoxYardModel_240 : y_F "BoxYardModel" 240 12 25 := ⟨_, _, _, rfl, by decide, Or.inl (c_7 147 (by decide +kernel) rfl)⟩
set_option maxRecDepth 100000 in
def f_X12_isCrane (p0 : Nat) (p1 : Int32) (h : y_H) : Option (Bool × y_H) :=
  if y_K h p0 = 13 then
  y_cl (f_X12_in p1 0 ((y_I h p0 25) - 1) h) (fun r1 h2 =>
  some (r1, h2))
  else none
abbrev rm_X12_isCrane : Room := { frames := 1, cells := 0, slots := 0, locals := 22 }
set_option maxRecDepth 100000 in
set_option maxHeartbeats 4000000 in
theorem k_X12_isCrane {l : Launch} {G : y_G} {p0 : Nat} {p1 : Int32} {h hz : y_H} {rz : Bool} (hf : f_X12_isCrane p0 p1 h = some (rz, hz)) : y_S l G M_X12_isCrane rm_X12_isCrane [y_p p0, .int p1] h (some (.int (y_z rz))) hz := by
  refine y_start (lv := [(0, y_p p0), (1, .int p1)]) (by decide) (by simp [lg_sl, y_p_cat, y_ci, y_cj, M_X12_isCrane]) (by simp [lv_args, y_p_cat, y_ci, y_cj]) (fun z ad0 => ?_)
  unfold f_X12_isCrane at hf
  refine y_iload_n (pc2 := 1) rfl dX12_isCrane_0 rfl ?_
  refine y_iconst (v := 0) (pc2 := 2) rfl dX12_isCrane_1 (by decide) ?_
  refine y_aload_n (x := p0) (pc2 := 3) rfl dX12_isCrane_2 rfl ?_
  obtain ⟨g4, hf⟩ := y_g hf
  refine y_getI (pc2 := 6) rfl dX12_isCrane_3 F_BoxYardModel_240 (by decide) rfl g4 ?_
  refine y_iconst (v := 1) (pc2 := 7) rfl dX12_isCrane_6 (by decide) ?_
  refine y_isub (pc2 := 8) rfl dX12_isCrane_7 ?_
  obtain ⟨r1, h2, c3, hf⟩ := y_clE hf
  refine y_callS (As := [.int p1, .int 0, .int ((y_I h p0 25) - 1)]) (rm := rm_X12_in) (cells := 0) (slots := 0) (pc2 := 11) rfl dX12_isCrane_8 n_X12_in l_BoxYardModel_278 t_X12_in rfl rfl (by decide) (by decide) (by decide) (k_X12_in c3) ?_
  exact y_zretF hf dX12_isCrane_11 rfl (by decide) (by decide)
theorem dX12_isShip_0 : decode cX12_isShip 0 = .ok (.iload_n 1, 1) := by decide +kernel
theorem dX12_isShip_1 : decode cX12_isShip 1 = .ok (.iconst 0, 1) := by decide +kernel
theorem dX12_isShip_2 : decode cX12_isShip 2 = .ok (.aload_n 0, 1) := by decide +kernel
theorem dX12_isShip_3 : decode cX12_isShip 3 = .ok (.getfield 246, 3) := by decide +kernel
theorem dX12_isShip_6 : decode cX12_isShip 6 = .ok (.iconst 1, 1) := by decide +kernel
theorem dX12_isShip_7 : decode cX12_isShip 7 = .ok (.isub, 1) := by decide +kernel
theorem dX12_isShip_8 : decode cX12_isShip 8 = .ok (.invokestatic 278, 3) := by decide +kernel
theorem dX12_isShip_11 : decode cX12_isShip 11 = .ok (.ireturn, 1) := by decide +kernel
def M_X12_isShip : y_M := (yX12_isShip, cX12_isShip, 2, (Option.some Jvm.ClassFile.FieldType.boolean))
theorem n_X12_isShip : y_N0 M_X12_isShip 1 := ⟨(c_9 173 (by decide +kernel) rfl), (c_1 9 (by decide +kernel) rfl), ⟨by decide +kernel, by decide +kernel⟩, by decide +kernel⟩
theorem F_BoxYardModel_246 : y_F "BoxYardModel" 246 12 34 := ⟨_, _, _, rfl, by decide, Or.inl (c_7 156 (by decide +kernel) rfl)⟩
set_option maxRecDepth 100000 in
def f_X12_isShip (p0 : Nat) (p1 : Int32) (h : y_H) : Option (Bool × y_H) :=
  if y_K h p0 = 13 then
  y_cl (f_X12_in p1 0 ((y_I h p0 34) - 1) h) (fun r1 h2 =>
  some (r1, h2))
  else none
abbrev rm_X12_isShip : Room := { frames := 1, cells := 0, slots := 0, locals := 22 }
set_option maxRecDepth 100000 in
set_option maxHeartbeats 4000000 in
theorem k_X12_isShip {l : Launch} {G : y_G} {p0 : Nat} {p1 : Int32} {h hz : y_H} {rz : Bool} (hf : f_X12_isShip p0 p1 h = some (rz, hz)) : y_S l G M_X12_isShip rm_X12_isShip [y_p p0, .int p1] h (some (.int (y_z rz))) hz := by
  refine y_start (lv := [(0, y_p p0), (1, .int p1)]) (by decide) (by simp [lg_sl, y_p_cat, y_ci, y_cj, M_X12_isShip]) (by simp [lv_args, y_p_cat, y_ci, y_cj]) (fun z ad0 => ?_)
  unfold f_X12_isShip at hf
  refine y_iload_n (pc2 := 1) rfl dX12_isShip_0 rfl ?_
  refine y_iconst (v := 0) (pc2 := 2) rfl dX12_isShip_1 (by decide) ?_
  refine y_aload_n (x := p0) (pc2 := 3) rfl dX12_isShip_2 rfl ?_
  obtain ⟨g4, hf⟩ := y_g hf
  refine y_getI (pc2 := 6) rfl dX12_isShip_3 F_BoxYardModel_246 (by decide) rfl g4 ?_
  refine y_iconst (v := 1) (pc2 := 7) rfl dX12_isShip_6 (by decide) ?_
  refine y_isub (pc2 := 8) rfl dX12_isShip_7 ?_
  obtain ⟨r1, h2, c3, hf⟩ := y_clE hf
  refine y_callS (As := [.int p1, .int 0, .int ((y_I h p0 34) - 1)]) (rm := rm_X12_in) (cells := 0) (slots := 0) (pc2 := 11) rfl dX12_isShip_8 n_X12_in l_BoxYardModel_278 t_X12_in rfl rfl (by decide) (by decide) (by decide) (k_X12_in c3) ?_
  exact y_zretF hf dX12_isShip_11 rfl (by decide) (by decide)
theorem dX12_isBay_0 : decode cX12_isBay 0 = .ok (.iload_n 1, 1) := by decide +kernel
theorem dX12_isBay_1 : decode cX12_isBay 1 = .ok (.iconst 0, 1) := by decide +kernel
theorem dX12_isBay_2 : decode cX12_isBay 2 = .ok (.bipush 9, 2) := by decide +kernel
theorem dX12_isBay_4 : decode cX12_isBay 4 = .ok (.invokestatic 278, 3) := by decide +kernel
theorem dX12_isBay_7 : decode cX12_isBay 7 = .ok (.ifCond .eq 16, 3) := by decide +kernel
theorem dX12_isBay_10 : decode cX12_isBay 10 = .ok (.aload_n 0, 1) := by decide +kernel
theorem dX12_isBay_11 : decode cX12_isBay 11 = .ok (.getfield 56, 3) := by decide +kernel
theorem dX12_isBay_14 : decode cX12_isBay 14 = .ok (.iload_n 1, 1) := by decide +kernel
theorem dX12_isBay_15 : decode cX12_isBay 15 = .ok (.baload, 1) := by decide +kernel
theorem dX12_isBay_16 : decode cX12_isBay 16 = .ok (.ifCond .eq 7, 3) := by decide +kernel
theorem dX12_isBay_19 : decode cX12_isBay 19 = .ok (.iconst 1, 1) := by decide +kernel
theorem dX12_isBay_20 : decode cX12_isBay 20 = .ok (.goto 4, 3) := by decide +kernel
theorem dX12_isBay_23 : decode cX12_isBay 23 = .ok (.iconst 0, 1) := by decide +kernel
theorem dX12_isBay_24 : decode cX12_isBay 24 = .ok (.ireturn, 1) := by decide +kernel
def M_X12_isBay : y_M := (yX12_isBay, cX12_isBay, 2, (Option.some Jvm.ClassFile.FieldType.boolean))
theorem n_X12_isBay : y_N0 M_X12_isBay 1 := ⟨(c_8 238 (by decide +kernel) rfl), (c_1 9 (by decide +kernel) rfl), ⟨by decide +kernel, by decide +kernel⟩, by decide +kernel⟩
set_option maxRecDepth 100000 in
def f_X12_isBay (p0 : Nat) (p1 : Int32) (h : y_H) : Option (Bool × y_H) :=
  y_cl (f_X12_in p1 0 9 h) (fun r1 h2 =>
  y_jn (fun (h4 : y_H) => (
      some (false, h4) : Option (Bool × y_H))) (fun j23 =>
  if r1 = true then
    if y_K h2 p0 = 13 then
    if y_K h2 (y_P h2 p0 17) = 102 ∧ y_ix p1 (y_N h2 (y_P h2 p0 17)) = true then
    if (y_B h2 (y_P h2 p0 17) (Int32.toNatClampNeg p1)) = true then
      some (true, h2)
    else
      j23 h2
    else none
    else none
  else
    j23 h2))
abbrev rm_X12_isBay : Room := { frames := 1, cells := 0, slots := 0, locals := 22 }
set_option maxRecDepth 100000 in
set_option maxHeartbeats 4000000 in
theorem k_X12_isBay {l : Launch} {G : y_G} {p0 : Nat} {p1 : Int32} {h hz : y_H} {rz : Bool} (hf : f_X12_isBay p0 p1 h = some (rz, hz)) : y_S l G M_X12_isBay rm_X12_isBay [y_p p0, .int p1] h (some (.int (y_z rz))) hz := by
  refine y_start (lv := [(0, y_p p0), (1, .int p1)]) (by decide) (by simp [lg_sl, y_p_cat, y_ci, y_cj, M_X12_isBay]) (by simp [lv_args, y_p_cat, y_ci, y_cj]) (fun z ad0 => ?_)
  unfold f_X12_isBay at hf
  refine y_iload_n (pc2 := 1) rfl dX12_isBay_0 rfl ?_
  refine y_iconst (v := 0) (pc2 := 2) rfl dX12_isBay_1 (by decide) ?_
  refine y_bipush (v := 9) (pc2 := 4) rfl dX12_isBay_2 (by decide) ?_
  obtain ⟨r1, h2, c3, hf⟩ := y_clE hf
  refine y_callS (As := [.int p1, .int 0, .int 9]) (rm := rm_X12_in) (cells := 0) (slots := 0) (pc2 := 7) rfl dX12_isBay_4 n_X12_in l_BoxYardModel_278 t_X12_in rfl rfl (by decide) (by decide) (by decide) (k_X12_in c3) ?_
  refine y_jnE hf (fun j => ∀ (h4 : y_H), j h4 = some (rz, hz) → y_V l G z rm_X12_isBay M_X12_isBay ad0 h (some (.int (y_z rz))) hz 23 [] [] h4 0 0) (fun h4 hf => ?_) (fun j23 hj23 hf => ?_)
  · refine y_iconst (v := 0) (pc2 := 24) rfl dX12_isBay_23 (by decide) ?_
    exact y_zretF (x := false) hf dX12_isBay_24 rfl (by decide) (by decide)
  · refine y_ifz_eq (tgt := 23) (pc2 := 10) rfl dX12_isBay_7 (by decide) (fun c8 => ?_) (fun c8 => ?_)
    · replace hf := y_ie c8 hf
      exact y_pk [] rfl (hj23 _ hf)
    · replace hf := y_it c8 hf
      refine y_aload_n (x := p0) (pc2 := 11) rfl dX12_isBay_10 rfl ?_
      obtain ⟨g7, hf⟩ := y_g hf
      refine y_getP (pc2 := 14) rfl dX12_isBay_11 F_BoxYardModel_56 (by decide) rfl g7 ?_
      refine y_iload_n (pc2 := 15) rfl dX12_isBay_14 rfl ?_
      obtain ⟨g6, hf⟩ := y_g hf
      refine y_zald (pc2 := 16) rfl dX12_isBay_15 g6.1 (y_ix_in g6.2) ?_
      refine y_ifz_eq (tgt := 23) (pc2 := 19) rfl dX12_isBay_16 (by decide) (fun c5 => ?_) (fun c5 => ?_)
      · replace hf := y_ie c5 hf
        exact y_pk [] rfl (hj23 _ hf)
      · replace hf := y_it c5 hf
        refine y_iconst (v := 1) (pc2 := 20) rfl dX12_isBay_19 (by decide) ?_
        refine y_goto (tgt := 24) dX12_isBay_20 (by decide) ?_
        exact y_zretF (x := true) hf dX12_isBay_24 rfl (by decide) (by decide)
theorem dX12_isStack_0 : decode cX12_isStack 0 = .ok (.aload_n 0, 1) := by decide +kernel
theorem dX12_isStack_1 : decode cX12_isStack 1 = .ok (.iload_n 1, 1) := by decide +kernel
theorem dX12_isStack_2 : decode cX12_isStack 2 = .ok (.invokevirtual 282, 3) := by decide +kernel
theorem dX12_isStack_5 : decode cX12_isStack 5 = .ok (.ifCond .eq 23, 3) := by decide +kernel
theorem dX12_isStack_8 : decode cX12_isStack 8 = .ok (.iload_n 2, 1) := by decide +kernel
theorem dX12_isStack_9 : decode cX12_isStack 9 = .ok (.iconst 0, 1) := by decide +kernel
theorem dX12_isStack_10 : decode cX12_isStack 10 = .ok (.aload_n 0, 1) := by decide +kernel
theorem dX12_isStack_11 : decode cX12_isStack 11 = .ok (.getfield 62, 3) := by decide +kernel
theorem dX12_isStack_14 : decode cX12_isStack 14 = .ok (.iload_n 1, 1) := by decide +kernel
theorem dX12_isStack_15 : decode cX12_isStack 15 = .ok (.iaload, 1) := by decide +kernel
theorem dX12_isStack_16 : decode cX12_isStack 16 = .ok (.iconst 1, 1) := by decide +kernel
theorem dX12_isStack_17 : decode cX12_isStack 17 = .ok (.isub, 1) := by decide +kernel
theorem dX12_isStack_18 : decode cX12_isStack 18 = .ok (.invokestatic 278, 3) := by decide +kernel
theorem dX12_isStack_21 : decode cX12_isStack 21 = .ok (.ifCond .eq 7, 3) := by decide +kernel
theorem dX12_isStack_24 : decode cX12_isStack 24 = .ok (.iconst 1, 1) := by decide +kernel
theorem dX12_isStack_25 : decode cX12_isStack 25 = .ok (.goto 4, 3) := by decide +kernel
theorem dX12_isStack_28 : decode cX12_isStack 28 = .ok (.iconst 0, 1) := by decide +kernel
theorem dX12_isStack_29 : decode cX12_isStack 29 = .ok (.ireturn, 1) := by decide +kernel
def M_X12_isStack : y_M := (yX12_isStack, cX12_isStack, 3, (Option.some Jvm.ClassFile.FieldType.boolean))
theorem n_X12_isStack : y_N0 M_X12_isStack 2 := ⟨(c_8 234 (by decide +kernel) rfl), (c_1 9 (by decide +kernel) rfl), ⟨by decide +kernel, by decide +kernel⟩, by decide +kernel⟩
theorem l_BoxYardModel_282 : y_lnk "BoxYardModel" 282 M_X12_isBay := Or.inl (c_8 235 (by decide +kernel) rfl)
theorem i_X12_isBay : Cond.instanceMethod (M_X12_isBay).1 ∈ y_tb := (c_8 237 (by decide +kernel) rfl)
theorem e_X12_isBay : Cond.selects (M_X12_isBay).1.cls (M_X12_isBay).1 (M_X12_isBay).1 ∈ y_tb := (m_s 68 (by decide +kernel) rfl)
theorem F_BoxYardModel_62 : y_F "BoxYardModel" 62 12 19 := ⟨_, _, _, rfl, by decide, Or.inl (c_7 141 (by decide +kernel) rfl)⟩
set_option maxRecDepth 100000 in
def f_X12_isStack (p0 : Nat) (p1 : Int32) (p2 : Int32) (h : y_H) : Option (Bool × y_H) :=
  if y_K h p0 = 13 then
  y_cl (f_X12_isBay p0 p1 h) (fun r1 h2 =>
  y_jn (fun (h4 : y_H) => (
      some (false, h4) : Option (Bool × y_H))) (fun j28 =>
  if r1 = true then
    if y_K h2 p0 = 13 then
    if y_K h2 (y_P h2 p0 19) = 100 ∧ y_ix p1 (y_N h2 (y_P h2 p0 19)) = true then
    y_cl (f_X12_in p2 0 ((y_I h2 (y_P h2 p0 19) (Int32.toNatClampNeg p1)) - 1) h2) (fun r5 h6 =>
    if r5 = true then
      some (true, h6)
    else
      j28 h6)
    else none
    else none
  else
    j28 h2))
  else none
abbrev rm_X12_isStack : Room := { frames := 2, cells := 0, slots := 0, locals := 43 }
set_option maxRecDepth 100000 in
set_option maxHeartbeats 4000000 in
theorem k_X12_isStack {l : Launch} {G : y_G} {p0 : Nat} {p1 : Int32} {p2 : Int32} {h hz : y_H} {rz : Bool} (hf : f_X12_isStack p0 p1 p2 h = some (rz, hz)) : y_S l G M_X12_isStack rm_X12_isStack [y_p p0, .int p1, .int p2] h (some (.int (y_z rz))) hz := by
  refine y_start (lv := [(0, y_p p0), (1, .int p1), (2, .int p2)]) (by decide) (by simp [lg_sl, y_p_cat, y_ci, y_cj, M_X12_isStack]) (by simp [lv_args, y_p_cat, y_ci, y_cj]) (fun z ad0 => ?_)
  unfold f_X12_isStack at hf
  refine y_aload_n (x := p0) (pc2 := 1) rfl dX12_isStack_0 rfl ?_
  refine y_iload_n (pc2 := 2) rfl dX12_isStack_1 rfl ?_
  obtain ⟨g12, hf⟩ := y_g hf
  obtain ⟨r1, h2, c3, hf⟩ := y_clE hf
  refine y_callV (As := [.int p1]) (rm := rm_X12_isBay) (cells := 0) (slots := 0) (pc2 := 5) rfl dX12_isStack_2 n_X12_isBay l_BoxYardModel_282 i_X12_isBay e_X12_isBay (ci := 12) rfl rfl (by decide) g12 rfl rfl (by decide) (by decide) (by decide) (k_X12_isBay c3) ?_
  refine y_jnE hf (fun j => ∀ (h4 : y_H), j h4 = some (rz, hz) → y_V l G z rm_X12_isStack M_X12_isStack ad0 h (some (.int (y_z rz))) hz 28 [] [] h4 0 0) (fun h4 hf => ?_) (fun j28 hj28 hf => ?_)
  · refine y_iconst (v := 0) (pc2 := 29) rfl dX12_isStack_28 (by decide) ?_
    exact y_zretF (x := false) hf dX12_isStack_29 rfl (by decide) (by decide)
  · refine y_ifz_eq (tgt := 28) (pc2 := 8) rfl dX12_isStack_5 (by decide) (fun c11 => ?_) (fun c11 => ?_)
    · replace hf := y_ie c11 hf
      exact y_pk [] rfl (hj28 _ hf)
    · replace hf := y_it c11 hf
      refine y_iload_n (pc2 := 9) rfl dX12_isStack_8 rfl ?_
      refine y_iconst (v := 0) (pc2 := 10) rfl dX12_isStack_9 (by decide) ?_
      refine y_aload_n (x := p0) (pc2 := 11) rfl dX12_isStack_10 rfl ?_
      obtain ⟨g10, hf⟩ := y_g hf
      refine y_getP (pc2 := 14) rfl dX12_isStack_11 F_BoxYardModel_62 (by decide) rfl g10 ?_
      refine y_iload_n (pc2 := 15) rfl dX12_isStack_14 rfl ?_
      obtain ⟨g9, hf⟩ := y_g hf
      refine y_iald (pc2 := 16) rfl dX12_isStack_15 g9.1 (y_ix_in g9.2) ?_
      refine y_iconst (v := 1) (pc2 := 17) rfl dX12_isStack_16 (by decide) ?_
      refine y_isub (pc2 := 18) rfl dX12_isStack_17 ?_
      obtain ⟨r5, h6, c7, hf⟩ := y_clE hf
      refine y_callS (As := [.int p2, .int 0, .int ((y_I h2 (y_P h2 p0 19) (Int32.toNatClampNeg p1)) - 1)]) (rm := rm_X12_in) (cells := 0) (slots := 0) (pc2 := 21) rfl dX12_isStack_18 n_X12_in l_BoxYardModel_278 t_X12_in rfl rfl (by decide) (by decide) (by decide) (k_X12_in c7) ?_
      refine y_ifz_eq (tgt := 28) (pc2 := 24) rfl dX12_isStack_21 (by decide) (fun c8 => ?_) (fun c8 => ?_)
      · replace hf := y_ie c8 hf
        exact y_pk [] rfl (hj28 _ hf)
      · replace hf := y_it c8 hf
        refine y_iconst (v := 1) (pc2 := 25) rfl dX12_isStack_24 (by decide) ?_
        refine y_goto (tgt := 29) dX12_isStack_25 (by decide) ?_
        exact y_zretF (x := true) hf dX12_isStack_29 rfl (by decide) (by decide)
theorem dX12_mark_0 : decode cX12_mark 0 = .ok (.aload_n 0, 1) := by decide +kernel
theorem dX12_mark_1 : decode cX12_mark 1 = .ok (.getfield 249, 3) := by decide +kernel
theorem dX12_mark_4 : decode cX12_mark 4 = .ok (.bipush 100, 2) := by decide +kernel
theorem dX12_mark_6 : decode cX12_mark 6 = .ok (.if_icmp .ge 23, 3) := by decide +kernel
theorem dX12_mark_9 : decode cX12_mark 9 = .ok (.aload_n 0, 1) := by decide +kernel
theorem dX12_mark_10 : decode cX12_mark 10 = .ok (.getfield 131, 3) := by decide +kernel
theorem dX12_mark_13 : decode cX12_mark 13 = .ok (.aload_n 0, 1) := by decide +kernel
theorem dX12_mark_14 : decode cX12_mark 14 = .ok (.getfield 249, 3) := by decide +kernel
theorem dX12_mark_17 : decode cX12_mark 17 = .ok (.iload_n 1, 1) := by decide +kernel
theorem dX12_mark_18 : decode cX12_mark 18 = .ok (.iastore, 1) := by decide +kernel
theorem dX12_mark_19 : decode cX12_mark 19 = .ok (.aload_n 0, 1) := by decide +kernel
theorem dX12_mark_20 : decode cX12_mark 20 = .ok (.dup, 1) := by decide +kernel
theorem dX12_mark_21 : decode cX12_mark 21 = .ok (.getfield 249, 3) := by decide +kernel
theorem dX12_mark_24 : decode cX12_mark 24 = .ok (.iconst 1, 1) := by decide +kernel
theorem dX12_mark_25 : decode cX12_mark 25 = .ok (.iadd, 1) := by decide +kernel
theorem dX12_mark_26 : decode cX12_mark 26 = .ok (.putfield 249, 3) := by decide +kernel
theorem dX12_mark_29 : decode cX12_mark 29 = .ok (.return_, 1) := by decide +kernel
def M_X12_mark : y_M := (yX12_mark, cX12_mark, 2, (Option.none : Option Jvm.ClassFile.FieldType))
theorem n_X12_mark : y_N0 M_X12_mark 1 := ⟨(c_8 198 (by decide +kernel) rfl), (c_1 9 (by decide +kernel) rfl), ⟨by decide +kernel, by decide +kernel⟩, by decide +kernel⟩
theorem F_BoxYardModel_249 : y_F "BoxYardModel" 249 12 46 := ⟨_, _, _, rfl, by decide, Or.inl (c_7 168 (by decide +kernel) rfl)⟩
theorem F_BoxYardModel_131 : y_F "BoxYardModel" 131 12 45 := ⟨_, _, _, rfl, by decide, Or.inl (c_7 167 (by decide +kernel) rfl)⟩
set_option maxRecDepth 100000 in
def f_X12_mark (p0 : Nat) (p1 : Int32) (h : y_H) : Option (Unit × y_H) :=
  if y_K h p0 = 13 then
  y_jn (fun (h1 : y_H) => (
      some ((), h1) : Option (Unit × y_H))) (fun j29 =>
  if 100 ≤ (y_I h p0 46) then
    j29 h
  else
    if y_K h p0 = 13 then
    if y_K h p0 = 13 then
    if y_K h (y_P h p0 45) = 100 ∧ y_ix (y_I h p0 46) (y_N h (y_P h p0 45)) = true then
    y_bd (s_I h (y_P h p0 45) (Int32.toNatClampNeg (y_I h p0 46)) p1) (fun h2 =>
    if y_K h2 p0 = 13 then
    if y_K h2 p0 = 13 then
    y_bd (s_I h2 p0 46 ((y_I h2 p0 46) + 1)) (fun h5 =>
    j29 h5)
    else none
    else none)
    else none
    else none
    else none)
  else none
abbrev rm_X12_mark : Room := { frames := 0, cells := 0, slots := 0, locals := 0 }
set_option maxRecDepth 100000 in
set_option maxHeartbeats 4000000 in
theorem k_X12_mark {l : Launch} {G : y_G} {p0 : Nat} {p1 : Int32} {h hz : y_H} {rz : Unit} (hf : f_X12_mark p0 p1 h = some (rz, hz)) : y_S l G M_X12_mark rm_X12_mark [y_p p0, .int p1] h none hz := by
  refine y_start (lv := [(0, y_p p0), (1, .int p1)]) (by decide) (by simp [lg_sl, y_p_cat, y_ci, y_cj, M_X12_mark]) (by simp [lv_args, y_p_cat, y_ci, y_cj]) (fun z ad0 => ?_)
  unfold f_X12_mark at hf
  refine y_aload_n (x := p0) (pc2 := 1) rfl dX12_mark_0 rfl ?_
  obtain ⟨g12, hf⟩ := y_g hf
  refine y_getI (pc2 := 4) rfl dX12_mark_1 F_BoxYardModel_249 (by decide) rfl g12 ?_
  refine y_bipush (v := 100) (pc2 := 6) rfl dX12_mark_4 (by decide) ?_
  refine y_jnE hf (fun j => ∀ (h1 : y_H), j h1 = some (rz, hz) → y_V l G z rm_X12_mark M_X12_mark ad0 h none hz 29 [] [] h1 0 0) (fun h1 hf => ?_) (fun j29 hj29 hf => ?_)
  · exact y_vretF hf dX12_mark_29 rfl (by decide) (by decide)
  · refine y_icmp_ge (tgt := 29) (pc2 := 9) rfl dX12_mark_6 (by decide) (fun c11 => ?_) (fun c11 => ?_)
    · replace hf := y_it c11 hf
      exact y_pk [] rfl (hj29 _ hf)
    · replace hf := y_ie c11 hf
      refine y_aload_n (x := p0) (pc2 := 10) rfl dX12_mark_9 rfl ?_
      obtain ⟨g10, hf⟩ := y_g hf
      refine y_getP (pc2 := 13) rfl dX12_mark_10 F_BoxYardModel_131 (by decide) rfl g10 ?_
      refine y_aload_n (x := p0) (pc2 := 14) rfl dX12_mark_13 rfl ?_
      obtain ⟨g9, hf⟩ := y_g hf
      refine y_getI (pc2 := 17) rfl dX12_mark_14 F_BoxYardModel_249 (by decide) rfl g9 ?_
      refine y_iload_n (pc2 := 18) rfl dX12_mark_17 rfl ?_
      obtain ⟨g4, hf⟩ := y_g hf
      obtain ⟨h2, e3, hf⟩ := y_bdE hf
      refine y_iast (x := p1) (pc2 := 19) rfl dX12_mark_18 g4.1 (y_ix_in g4.2) e3 ?_
      refine y_aload_n (x := p0) (pc2 := 20) rfl dX12_mark_19 rfl ?_
      refine y_dup (pc2 := 21) rfl dX12_mark_20 (y_p_cat _) ?_
      obtain ⟨g8, hf⟩ := y_g hf
      refine y_getI (pc2 := 24) rfl dX12_mark_21 F_BoxYardModel_249 (by decide) rfl g8 ?_
      refine y_iconst (v := 1) (pc2 := 25) rfl dX12_mark_24 (by decide) ?_
      refine y_iadd (pc2 := 26) rfl dX12_mark_25 ?_
      obtain ⟨g7, hf⟩ := y_g hf
      obtain ⟨h5, e6, hf⟩ := y_bdE hf
      refine y_putI (x := (y_I h2 p0 46) + 1) (pc2 := 29) rfl dX12_mark_26 Fp_BoxYardModel_249 (by decide) rfl g7 e6 ?_
      exact y_pk [] rfl (hj29 _ hf)
theorem dX12_known_0 : decode cX12_known 0 = .ok (.aload_n 0, 1) := by decide +kernel
theorem dX12_known_1 : decode cX12_known 1 = .ok (.getfield 25, 3) := by decide +kernel
theorem dX12_known_4 : decode cX12_known 4 = .ok (.iload_n 1, 1) := by decide +kernel
theorem dX12_known_5 : decode cX12_known 5 = .ok (.baload, 1) := by decide +kernel
theorem dX12_known_6 : decode cX12_known 6 = .ok (.ifCond .eq 12, 3) := by decide +kernel
theorem dX12_known_9 : decode cX12_known 9 = .ok (.aload_n 0, 1) := by decide +kernel
theorem dX12_known_10 : decode cX12_known 10 = .ok (.getfield 16, 3) := by decide +kernel
theorem dX12_known_13 : decode cX12_known 13 = .ok (.iload_n 1, 1) := by decide +kernel
theorem dX12_known_14 : decode cX12_known 14 = .ok (.iaload, 1) := by decide +kernel
theorem dX12_known_15 : decode cX12_known 15 = .ok (.goto 9, 3) := by decide +kernel
theorem dX12_known_18 : decode cX12_known 18 = .ok (.aload_n 0, 1) := by decide +kernel
theorem dX12_known_19 : decode cX12_known 19 = .ok (.getfield 13, 3) := by decide +kernel
theorem dX12_known_22 : decode cX12_known 22 = .ok (.iload_n 1, 1) := by decide +kernel
theorem dX12_known_23 : decode cX12_known 23 = .ok (.iaload, 1) := by decide +kernel
theorem dX12_known_24 : decode cX12_known 24 = .ok (.ireturn, 1) := by decide +kernel
def M_X12_known : y_M := (yX12_known, cX12_known, 2, (Option.some Jvm.ClassFile.FieldType.int))
theorem n_X12_known : y_N0 M_X12_known 1 := ⟨(c_8 210 (by decide +kernel) rfl), (c_1 9 (by decide +kernel) rfl), ⟨by decide +kernel, by decide +kernel⟩, by decide +kernel⟩
theorem F_BoxYardModel_25 : y_F "BoxYardModel" 25 12 6 := ⟨_, _, _, rfl, by decide, Or.inl (c_7 128 (by decide +kernel) rfl)⟩
theorem F_BoxYardModel_13 : y_F "BoxYardModel" 13 12 2 := ⟨_, _, _, rfl, by decide, Or.inl (c_7 124 (by decide +kernel) rfl)⟩
theorem F_BoxYardModel_16 : y_F "BoxYardModel" 16 12 3 := ⟨_, _, _, rfl, by decide, Or.inl (c_7 125 (by decide +kernel) rfl)⟩
set_option maxRecDepth 100000 in
def f_X12_known (p0 : Nat) (p1 : Int32) (h : y_H) : Option (Int32 × y_H) :=
  if y_K h p0 = 13 then
  if y_K h (y_P h p0 6) = 102 ∧ y_ix p1 (y_N h (y_P h p0 6)) = true then
  if (y_B h (y_P h p0 6) (Int32.toNatClampNeg p1)) = true then
    if y_K h p0 = 13 then
    if y_K h (y_P h p0 3) = 100 ∧ y_ix p1 (y_N h (y_P h p0 3)) = true then
    some (y_I h (y_P h p0 3) (Int32.toNatClampNeg p1), h)
    else none
    else none
  else
    if y_K h p0 = 13 then
    if y_K h (y_P h p0 2) = 100 ∧ y_ix p1 (y_N h (y_P h p0 2)) = true then
    some (y_I h (y_P h p0 2) (Int32.toNatClampNeg p1), h)
    else none
    else none
  else none
  else none
abbrev rm_X12_known : Room := { frames := 0, cells := 0, slots := 0, locals := 0 }
set_option maxRecDepth 100000 in
set_option maxHeartbeats 4000000 in
theorem k_X12_known {l : Launch} {G : y_G} {p0 : Nat} {p1 : Int32} {h hz : y_H} {rz : Int32} (hf : f_X12_known p0 p1 h = some (rz, hz)) : y_S l G M_X12_known rm_X12_known [y_p p0, .int p1] h (some (.int rz)) hz := by
  refine y_start (lv := [(0, y_p p0), (1, .int p1)]) (by decide) (by simp [lg_sl, y_p_cat, y_ci, y_cj, M_X12_known]) (by simp [lv_args, y_p_cat, y_ci, y_cj]) (fun z ad0 => ?_)
  unfold f_X12_known at hf
  refine y_aload_n (x := p0) (pc2 := 1) rfl dX12_known_0 rfl ?_
  obtain ⟨g7, hf⟩ := y_g hf
  refine y_getP (pc2 := 4) rfl dX12_known_1 F_BoxYardModel_25 (by decide) rfl g7 ?_
  refine y_iload_n (pc2 := 5) rfl dX12_known_4 rfl ?_
  obtain ⟨g6, hf⟩ := y_g hf
  refine y_zald (pc2 := 6) rfl dX12_known_5 g6.1 (y_ix_in g6.2) ?_
  refine y_ifz_eq (tgt := 18) (pc2 := 9) rfl dX12_known_6 (by decide) (fun c5 => ?_) (fun c5 => ?_)
  · replace hf := y_ie c5 hf
    refine y_aload_n (x := p0) (pc2 := 19) rfl dX12_known_18 rfl ?_
    obtain ⟨g2, hf⟩ := y_g hf
    refine y_getP (pc2 := 22) rfl dX12_known_19 F_BoxYardModel_13 (by decide) rfl g2 ?_
    refine y_iload_n (pc2 := 23) rfl dX12_known_22 rfl ?_
    obtain ⟨g1, hf⟩ := y_g hf
    refine y_iald (pc2 := 24) rfl dX12_known_23 g1.1 (y_ix_in g1.2) ?_
    exact y_iretF hf dX12_known_24 rfl (by decide) (by decide)
  · replace hf := y_it c5 hf
    refine y_aload_n (x := p0) (pc2 := 10) rfl dX12_known_9 rfl ?_
    obtain ⟨g4, hf⟩ := y_g hf
    refine y_getP (pc2 := 13) rfl dX12_known_10 F_BoxYardModel_16 (by decide) rfl g4 ?_
    refine y_iload_n (pc2 := 14) rfl dX12_known_13 rfl ?_
    obtain ⟨g3, hf⟩ := y_g hf
    refine y_iald (pc2 := 15) rfl dX12_known_14 g3.1 (y_ix_in g3.2) ?_
    refine y_goto (tgt := 24) dX12_known_15 (by decide) ?_
    exact y_iretF hf dX12_known_24 rfl (by decide) (by decide)
theorem dX12_bears_0 : decode cX12_bears 0 = .ok (.aload_n 0, 1) := by decide +kernel
theorem dX12_bears_1 : decode cX12_bears 1 = .ok (.getfield 7, 3) := by decide +kernel
theorem dX12_bears_4 : decode cX12_bears 4 = .ok (.iload_n 1, 1) := by decide +kernel
theorem dX12_bears_5 : decode cX12_bears 5 = .ok (.iaload, 1) := by decide +kernel
theorem dX12_bears_6 : decode cX12_bears 6 = .ok (.istore_n 2, 1) := by decide +kernel
theorem dX12_bears_7 : decode cX12_bears 7 = .ok (.iload_n 2, 1) := by decide +kernel
theorem dX12_bears_8 : decode cX12_bears 8 = .ok (.iconst 3, 1) := by decide +kernel
theorem dX12_bears_9 : decode cX12_bears 9 = .ok (.if_icmp .eq 8, 3) := by decide +kernel
theorem dX12_bears_12 : decode cX12_bears 12 = .ok (.iload_n 2, 1) := by decide +kernel
theorem dX12_bears_13 : decode cX12_bears 13 = .ok (.iconst 4, 1) := by decide +kernel
theorem dX12_bears_14 : decode cX12_bears 14 = .ok (.if_icmp .ne 10, 3) := by decide +kernel
theorem dX12_bears_17 : decode cX12_bears 17 = .ok (.aload_n 0, 1) := by decide +kernel
theorem dX12_bears_18 : decode cX12_bears 18 = .ok (.iconst 4, 1) := by decide +kernel
theorem dX12_bears_19 : decode cX12_bears 19 = .ok (.invokevirtual 286, 3) := by decide +kernel
theorem dX12_bears_22 : decode cX12_bears 22 = .ok (.iconst 0, 1) := by decide +kernel
theorem dX12_bears_23 : decode cX12_bears 23 = .ok (.ireturn, 1) := by decide +kernel
theorem dX12_bears_24 : decode cX12_bears 24 = .ok (.iload_n 2, 1) := by decide +kernel
theorem dX12_bears_25 : decode cX12_bears 25 = .ok (.ifCond .eq 27, 3) := by decide +kernel
theorem dX12_bears_28 : decode cX12_bears 28 = .ok (.aload_n 0, 1) := by decide +kernel
theorem dX12_bears_29 : decode cX12_bears 29 = .ok (.iload_n 2, 1) := by decide +kernel
theorem dX12_bears_30 : decode cX12_bears 30 = .ok (.iconst 1, 1) := by decide +kernel
theorem dX12_bears_31 : decode cX12_bears 31 = .ok (.if_icmp .ne 7, 3) := by decide +kernel
theorem dX12_bears_34 : decode cX12_bears 34 = .ok (.iconst 2, 1) := by decide +kernel
theorem dX12_bears_35 : decode cX12_bears 35 = .ok (.goto 14, 3) := by decide +kernel
theorem dX12_bears_38 : decode cX12_bears 38 = .ok (.iload_n 2, 1) := by decide +kernel
theorem dX12_bears_39 : decode cX12_bears 39 = .ok (.iconst 2, 1) := by decide +kernel
theorem dX12_bears_40 : decode cX12_bears 40 = .ok (.if_icmp .ne 7, 3) := by decide +kernel
theorem dX12_bears_43 : decode cX12_bears 43 = .ok (.iconst 3, 1) := by decide +kernel
theorem dX12_bears_44 : decode cX12_bears 44 = .ok (.goto 5, 3) := by decide +kernel
theorem dX12_bears_47 : decode cX12_bears 47 = .ok (.bipush 6, 2) := by decide +kernel
theorem dX12_bears_49 : decode cX12_bears 49 = .ok (.invokevirtual 286, 3) := by decide +kernel
theorem dX12_bears_52 : decode cX12_bears 52 = .ok (.aload_n 0, 1) := by decide +kernel
theorem dX12_bears_53 : decode cX12_bears 53 = .ok (.iconst 1, 1) := by decide +kernel
theorem dX12_bears_54 : decode cX12_bears 54 = .ok (.invokevirtual 286, 3) := by decide +kernel
theorem dX12_bears_57 : decode cX12_bears 57 = .ok (.iload_n 2, 1) := by decide +kernel
theorem dX12_bears_58 : decode cX12_bears 58 = .ok (.iconst 1, 1) := by decide +kernel
theorem dX12_bears_59 : decode cX12_bears 59 = .ok (.if_icmp .ne 9, 3) := by decide +kernel
theorem dX12_bears_62 : decode cX12_bears 62 = .ok (.sipush 600, 3) := by decide +kernel
theorem dX12_bears_65 : decode cX12_bears 65 = .ok (.goto 28, 3) := by decide +kernel
theorem dX12_bears_68 : decode cX12_bears 68 = .ok (.iload_n 2, 1) := by decide +kernel
theorem dX12_bears_69 : decode cX12_bears 69 = .ok (.iconst 2, 1) := by decide +kernel
theorem dX12_bears_70 : decode cX12_bears 70 = .ok (.if_icmp .ne 9, 3) := by decide +kernel
theorem dX12_bears_73 : decode cX12_bears 73 = .ok (.sipush 225, 3) := by decide +kernel
theorem dX12_bears_76 : decode cX12_bears 76 = .ok (.goto 17, 3) := by decide +kernel
theorem dX12_bears_79 : decode cX12_bears 79 = .ok (.iload_n 2, 1) := by decide +kernel
theorem dX12_bears_80 : decode cX12_bears 80 = .ok (.iconst 5, 1) := by decide +kernel
theorem dX12_bears_81 : decode cX12_bears 81 = .ok (.if_icmp .ne 9, 3) := by decide +kernel
theorem dX12_bears_84 : decode cX12_bears 84 = .ok (.sipush 300, 3) := by decide +kernel
theorem dX12_bears_87 : decode cX12_bears 87 = .ok (.goto 6, 3) := by decide +kernel
theorem dX12_bears_90 : decode cX12_bears 90 = .ok (.sipush 900, 3) := by decide +kernel
theorem dX12_bears_93 : decode cX12_bears 93 = .ok (.ireturn, 1) := by decide +kernel
def M_X12_bears : y_M := (yX12_bears, cX12_bears, 3, (Option.some Jvm.ClassFile.FieldType.int))
theorem n_X12_bears : y_N0 M_X12_bears 1 := ⟨(c_8 194 (by decide +kernel) rfl), (c_1 9 (by decide +kernel) rfl), ⟨by decide +kernel, by decide +kernel⟩, by decide +kernel⟩
theorem F_BoxYardModel_7 : y_F "BoxYardModel" 7 12 1 := ⟨_, _, _, rfl, by decide, Or.inl (c_7 123 (by decide +kernel) rfl)⟩
theorem l_BoxYardModel_286 : y_lnk "BoxYardModel" 286 M_X12_mark := Or.inl (c_8 195 (by decide +kernel) rfl)
theorem i_X12_mark : Cond.instanceMethod (M_X12_mark).1 ∈ y_tb := (c_8 197 (by decide +kernel) rfl)
theorem e_X12_mark : Cond.selects (M_X12_mark).1.cls (M_X12_mark).1 (M_X12_mark).1 ∈ y_tb := (m_s 61 (by decide +kernel) rfl)
set_option maxRecDepth 100000 in
def f_X12_bears (p0 : Nat) (p1 : Int32) (h : y_H) : Option (Int32 × y_H) :=
  if y_K h p0 = 13 then
  if y_K h (y_P h p0 1) = 100 ∧ y_ix p1 (y_N h (y_P h p0 1)) = true then
  y_jn (fun (v0_17 : Nat) (h1 : y_H) => (
      if y_K h1 v0_17 = 13 then
      y_cl (f_X12_mark v0_17 4 h1) (fun _ h2 =>
      some (0, h2))
      else none : Option (Int32 × y_H))) (fun j17 =>
  if (y_I h (y_P h p0 1) (Int32.toNatClampNeg p1)) = 3 then
    j17 p0 h
  else
    if (y_I h (y_P h p0 1) (Int32.toNatClampNeg p1)) = 4 then
      j17 p0 h
    else
      y_jn (fun (v0_52 : Nat) (v2_52 : Int32) (h5 : y_H) => (
          if y_K h5 v0_52 = 13 then
          y_cl (f_X12_mark v0_52 1 h5) (fun _ h6 =>
          if v2_52 = 1 then
            some (600, h6)
          else
            if v2_52 = 2 then
              some (225, h6)
            else
              if v2_52 = 5 then
                some (300, h6)
              else
                some (900, h6))
          else none : Option (Int32 × y_H))) (fun j52 =>
      if (y_I h (y_P h p0 1) (Int32.toNatClampNeg p1)) = 0 then
        j52 p0 (y_I h (y_P h p0 1) (Int32.toNatClampNeg p1)) h
      else
        if (y_I h (y_P h p0 1) (Int32.toNatClampNeg p1)) = 1 then
          if y_K h p0 = 13 then
          y_cl (f_X12_mark p0 2 h) (fun _ h19 =>
          j52 p0 (y_I h (y_P h p0 1) (Int32.toNatClampNeg p1)) h19)
          else none
        else
          if (y_I h (y_P h p0 1) (Int32.toNatClampNeg p1)) = 2 then
            if y_K h p0 = 13 then
            y_cl (f_X12_mark p0 3 h) (fun _ h15 =>
            j52 p0 (y_I h (y_P h p0 1) (Int32.toNatClampNeg p1)) h15)
            else none
          else
            if y_K h p0 = 13 then
            y_cl (f_X12_mark p0 6 h) (fun _ h12 =>
            j52 p0 (y_I h (y_P h p0 1) (Int32.toNatClampNeg p1)) h12)
            else none))
  else none
  else none
abbrev rm_X12_bears : Room := { frames := 1, cells := 0, slots := 0, locals := 21 }
set_option maxRecDepth 100000 in
set_option maxHeartbeats 4000000 in
theorem k_X12_bears {l : Launch} {G : y_G} {p0 : Nat} {p1 : Int32} {h hz : y_H} {rz : Int32} (hf : f_X12_bears p0 p1 h = some (rz, hz)) : y_S l G M_X12_bears rm_X12_bears [y_p p0, .int p1] h (some (.int rz)) hz := by
  refine y_start (lv := [(0, y_p p0), (1, .int p1)]) (by decide) (by simp [lg_sl, y_p_cat, y_ci, y_cj, M_X12_bears]) (by simp [lv_args, y_p_cat, y_ci, y_cj]) (fun z ad0 => ?_)
  unfold f_X12_bears at hf
  refine y_aload_n (x := p0) (pc2 := 1) rfl dX12_bears_0 rfl ?_
  obtain ⟨g27, hf⟩ := y_g hf
  refine y_getP (pc2 := 4) rfl dX12_bears_1 F_BoxYardModel_7 (by decide) rfl g27 ?_
  refine y_iload_n (pc2 := 5) rfl dX12_bears_4 rfl ?_
  obtain ⟨g26, hf⟩ := y_g hf
  refine y_iald (pc2 := 6) rfl dX12_bears_5 g26.1 (y_ix_in g26.2) ?_
  refine y_istore_n (lv' := [(2, .int (y_I h (y_P h p0 1) (Int32.toNatClampNeg p1))), (0, y_p p0), (1, .int p1)]) (pc2 := 7) rfl dX12_bears_6 (by decide) rfl ?_
  refine y_iload_n (pc2 := 8) rfl dX12_bears_7 rfl ?_
  refine y_iconst (v := 3) (pc2 := 9) rfl dX12_bears_8 (by decide) ?_
  refine y_jnE hf (fun j => ∀ (v0_17 : Nat) (h1 : y_H), j v0_17 h1 = some (rz, hz) → y_V l G z rm_X12_bears M_X12_bears ad0 h (some (.int rz)) hz 17 [(0, y_p v0_17)] [] h1 0 0) (fun v0_17 h1 hf => ?_) (fun j17 hj17 hf => ?_)
  · refine y_aload_n (x := v0_17) (pc2 := 18) rfl dX12_bears_17 rfl ?_
    refine y_iconst (v := 4) (pc2 := 19) rfl dX12_bears_18 (by decide) ?_
    obtain ⟨g4, hf⟩ := y_g hf
    obtain ⟨r_, h2, c3, hf⟩ := y_clE hf
    refine y_callV (As := [.int 4]) (rm := rm_X12_mark) (cells := 0) (slots := 0) (pc2 := 22) rfl dX12_bears_19 n_X12_mark l_BoxYardModel_286 i_X12_mark e_X12_mark (ci := 12) rfl rfl (by decide) g4 rfl rfl (by decide) (by decide) (by decide) (k_X12_mark c3) ?_
    refine y_iconst (v := 0) (pc2 := 23) rfl dX12_bears_22 (by decide) ?_
    exact y_iretF hf dX12_bears_23 rfl (by decide) (by decide)
  · refine y_icmp_eq (tgt := 17) (pc2 := 12) rfl dX12_bears_9 (by decide) (fun c25 => ?_) (fun c25 => ?_)
    · replace hf := y_it c25 hf
      exact y_pk [1] rfl (hj17 _ _ hf)
    · replace hf := y_ie c25 hf
      refine y_iload_n (pc2 := 13) rfl dX12_bears_12 rfl ?_
      refine y_iconst (v := 4) (pc2 := 14) rfl dX12_bears_13 (by decide) ?_
      refine y_icmp_ne (tgt := 24) (pc2 := 17) rfl dX12_bears_14 (by decide) (fun c24 => ?_) (fun c24 => ?_)
      · replace hf := y_ie c24 hf
        refine y_iload_n (pc2 := 25) rfl dX12_bears_24 rfl ?_
        refine y_jnE hf (fun j => ∀ (v0_52 : Nat) (v2_52 : Int32) (h5 : y_H), j v0_52 v2_52 h5 = some (rz, hz) → y_V l G z rm_X12_bears M_X12_bears ad0 h (some (.int rz)) hz 52 [(0, y_p v0_52), (2, .int v2_52)] [] h5 0 0) (fun v0_52 v2_52 h5 hf => ?_) (fun j52 hj52 hf => ?_)
        · refine y_aload_n (x := v0_52) (pc2 := 53) rfl dX12_bears_52 rfl ?_
          refine y_iconst (v := 1) (pc2 := 54) rfl dX12_bears_53 (by decide) ?_
          obtain ⟨g11, hf⟩ := y_g hf
          obtain ⟨r_, h6, c7, hf⟩ := y_clE hf
          refine y_callV (As := [.int 1]) (rm := rm_X12_mark) (cells := 0) (slots := 0) (pc2 := 57) rfl dX12_bears_54 n_X12_mark l_BoxYardModel_286 i_X12_mark e_X12_mark (ci := 12) rfl rfl (by decide) g11 rfl rfl (by decide) (by decide) (by decide) (k_X12_mark c7) ?_
          refine y_iload_n (pc2 := 58) rfl dX12_bears_57 rfl ?_
          refine y_iconst (v := 1) (pc2 := 59) rfl dX12_bears_58 (by decide) ?_
          refine y_icmp_ne (tgt := 68) (pc2 := 62) rfl dX12_bears_59 (by decide) (fun c10 => ?_) (fun c10 => ?_)
          · replace hf := y_ie c10 hf
            refine y_iload_n (pc2 := 69) rfl dX12_bears_68 rfl ?_
            refine y_iconst (v := 2) (pc2 := 70) rfl dX12_bears_69 (by decide) ?_
            refine y_icmp_ne (tgt := 79) (pc2 := 73) rfl dX12_bears_70 (by decide) (fun c9 => ?_) (fun c9 => ?_)
            · replace hf := y_ie c9 hf
              refine y_iload_n (pc2 := 80) rfl dX12_bears_79 rfl ?_
              refine y_iconst (v := 5) (pc2 := 81) rfl dX12_bears_80 (by decide) ?_
              refine y_icmp_ne (tgt := 90) (pc2 := 84) rfl dX12_bears_81 (by decide) (fun c8 => ?_) (fun c8 => ?_)
              · replace hf := y_ie c8 hf
                refine y_sipush (v := 900) (pc2 := 93) rfl dX12_bears_90 (by decide) ?_
                exact y_iretF hf dX12_bears_93 rfl (by decide) (by decide)
              · replace hf := y_it c8 hf
                refine y_sipush (v := 300) (pc2 := 87) rfl dX12_bears_84 (by decide) ?_
                refine y_goto (tgt := 93) dX12_bears_87 (by decide) ?_
                exact y_iretF hf dX12_bears_93 rfl (by decide) (by decide)
            · replace hf := y_it c9 hf
              refine y_sipush (v := 225) (pc2 := 76) rfl dX12_bears_73 (by decide) ?_
              refine y_goto (tgt := 93) dX12_bears_76 (by decide) ?_
              exact y_iretF hf dX12_bears_93 rfl (by decide) (by decide)
          · replace hf := y_it c10 hf
            refine y_sipush (v := 600) (pc2 := 65) rfl dX12_bears_62 (by decide) ?_
            refine y_goto (tgt := 93) dX12_bears_65 (by decide) ?_
            exact y_iretF hf dX12_bears_93 rfl (by decide) (by decide)
        · refine y_if_eq (tgt := 52) (pc2 := 28) rfl dX12_bears_25 (by decide) (fun c23 => ?_) (fun c23 => ?_)
          · replace hf := y_it c23 hf
            exact y_pk [1, 0] rfl (hj52 _ _ _ hf)
          · replace hf := y_ie c23 hf
            refine y_aload_n (x := p0) (pc2 := 29) rfl dX12_bears_28 rfl ?_
            refine y_iload_n (pc2 := 30) rfl dX12_bears_29 rfl ?_
            refine y_iconst (v := 1) (pc2 := 31) rfl dX12_bears_30 (by decide) ?_
            refine y_icmp_ne (tgt := 38) (pc2 := 34) rfl dX12_bears_31 (by decide) (fun c22 => ?_) (fun c22 => ?_)
            · replace hf := y_ie c22 hf
              refine y_iload_n (pc2 := 39) rfl dX12_bears_38 rfl ?_
              refine y_iconst (v := 2) (pc2 := 40) rfl dX12_bears_39 (by decide) ?_
              refine y_icmp_ne (tgt := 47) (pc2 := 43) rfl dX12_bears_40 (by decide) (fun c18 => ?_) (fun c18 => ?_)
              · replace hf := y_ie c18 hf
                refine y_bipush (v := 6) (pc2 := 49) rfl dX12_bears_47 (by decide) ?_
                obtain ⟨g14, hf⟩ := y_g hf
                obtain ⟨r_, h12, c13, hf⟩ := y_clE hf
                refine y_callV (As := [.int 6]) (rm := rm_X12_mark) (cells := 0) (slots := 0) (pc2 := 52) rfl dX12_bears_49 n_X12_mark l_BoxYardModel_286 i_X12_mark e_X12_mark (ci := 12) rfl rfl (by decide) g14 rfl rfl (by decide) (by decide) (by decide) (k_X12_mark c13) ?_
                exact y_pk [1, 0] rfl (hj52 _ _ _ hf)
              · replace hf := y_it c18 hf
                refine y_iconst (v := 3) (pc2 := 44) rfl dX12_bears_43 (by decide) ?_
                refine y_goto (tgt := 49) dX12_bears_44 (by decide) ?_
                obtain ⟨g17, hf⟩ := y_g hf
                obtain ⟨r_, h15, c16, hf⟩ := y_clE hf
                refine y_callV (As := [.int 3]) (rm := rm_X12_mark) (cells := 0) (slots := 0) (pc2 := 52) rfl dX12_bears_49 n_X12_mark l_BoxYardModel_286 i_X12_mark e_X12_mark (ci := 12) rfl rfl (by decide) g17 rfl rfl (by decide) (by decide) (by decide) (k_X12_mark c16) ?_
                exact y_pk [1, 0] rfl (hj52 _ _ _ hf)
            · replace hf := y_it c22 hf
              refine y_iconst (v := 2) (pc2 := 35) rfl dX12_bears_34 (by decide) ?_
              refine y_goto (tgt := 49) dX12_bears_35 (by decide) ?_
              obtain ⟨g21, hf⟩ := y_g hf
              obtain ⟨r_, h19, c20, hf⟩ := y_clE hf
              refine y_callV (As := [.int 2]) (rm := rm_X12_mark) (cells := 0) (slots := 0) (pc2 := 52) rfl dX12_bears_49 n_X12_mark l_BoxYardModel_286 i_X12_mark e_X12_mark (ci := 12) rfl rfl (by decide) g21 rfl rfl (by decide) (by decide) (by decide) (k_X12_mark c20) ?_
              exact y_pk [1, 0] rfl (hj52 _ _ _ hf)
      · replace hf := y_it c24 hf
        exact y_pk [1] rfl (hj17 _ _ hf)
theorem dX12_tall_0 : decode cX12_tall 0 = .ok (.aload_n 0, 1) := by decide +kernel
theorem dX12_tall_1 : decode cX12_tall 1 = .ok (.getfield 7, 3) := by decide +kernel
theorem dX12_tall_4 : decode cX12_tall 4 = .ok (.iload_n 1, 1) := by decide +kernel
theorem dX12_tall_5 : decode cX12_tall 5 = .ok (.iaload, 1) := by decide +kernel
theorem dX12_tall_6 : decode cX12_tall 6 = .ok (.istore_n 2, 1) := by decide +kernel
theorem dX12_tall_7 : decode cX12_tall 7 = .ok (.iload_n 2, 1) := by decide +kernel
theorem dX12_tall_8 : decode cX12_tall 8 = .ok (.iconst 5, 1) := by decide +kernel
theorem dX12_tall_9 : decode cX12_tall 9 = .ok (.if_icmp .ne 11, 3) := by decide +kernel
theorem dX12_tall_12 : decode cX12_tall 12 = .ok (.aload_n 0, 1) := by decide +kernel
theorem dX12_tall_13 : decode cX12_tall 13 = .ok (.bipush 16, 2) := by decide +kernel
theorem dX12_tall_15 : decode cX12_tall 15 = .ok (.invokevirtual 286, 3) := by decide +kernel
theorem dX12_tall_18 : decode cX12_tall 18 = .ok (.iconst 1, 1) := by decide +kernel
theorem dX12_tall_19 : decode cX12_tall 19 = .ok (.ireturn, 1) := by decide +kernel
theorem dX12_tall_20 : decode cX12_tall 20 = .ok (.iload_n 2, 1) := by decide +kernel
theorem dX12_tall_21 : decode cX12_tall 21 = .ok (.iconst 4, 1) := by decide +kernel
theorem dX12_tall_22 : decode cX12_tall 22 = .ok (.if_icmp .ne 9, 3) := by decide +kernel
theorem dX12_tall_25 : decode cX12_tall 25 = .ok (.aload_n 0, 1) := by decide +kernel
theorem dX12_tall_26 : decode cX12_tall 26 = .ok (.bipush 15, 2) := by decide +kernel
theorem dX12_tall_28 : decode cX12_tall 28 = .ok (.invokevirtual 286, 3) := by decide +kernel
theorem dX12_tall_31 : decode cX12_tall 31 = .ok (.aload_n 0, 1) := by decide +kernel
theorem dX12_tall_32 : decode cX12_tall 32 = .ok (.bipush 10, 2) := by decide +kernel
theorem dX12_tall_34 : decode cX12_tall 34 = .ok (.invokevirtual 286, 3) := by decide +kernel
theorem dX12_tall_37 : decode cX12_tall 37 = .ok (.aload_n 0, 1) := by decide +kernel
theorem dX12_tall_38 : decode cX12_tall 38 = .ok (.bipush 17, 2) := by decide +kernel
theorem dX12_tall_40 : decode cX12_tall 40 = .ok (.invokevirtual 286, 3) := by decide +kernel
theorem dX12_tall_43 : decode cX12_tall 43 = .ok (.iload_n 2, 1) := by decide +kernel
theorem dX12_tall_44 : decode cX12_tall 44 = .ok (.iconst 4, 1) := by decide +kernel
theorem dX12_tall_45 : decode cX12_tall 45 = .ok (.if_icmp .ne 7, 3) := by decide +kernel
theorem dX12_tall_48 : decode cX12_tall 48 = .ok (.iconst 3, 1) := by decide +kernel
theorem dX12_tall_49 : decode cX12_tall 49 = .ok (.goto 4, 3) := by decide +kernel
theorem dX12_tall_52 : decode cX12_tall 52 = .ok (.iconst 2, 1) := by decide +kernel
theorem dX12_tall_53 : decode cX12_tall 53 = .ok (.ireturn, 1) := by decide +kernel
def M_X12_tall : y_M := (yX12_tall, cX12_tall, 3, (Option.some Jvm.ClassFile.FieldType.int))
theorem n_X12_tall : y_N0 M_X12_tall 1 := ⟨(c_8 202 (by decide +kernel) rfl), (c_1 9 (by decide +kernel) rfl), ⟨by decide +kernel, by decide +kernel⟩, by decide +kernel⟩
set_option maxRecDepth 100000 in
def f_X12_tall (p0 : Nat) (p1 : Int32) (h : y_H) : Option (Int32 × y_H) :=
  if y_K h p0 = 13 then
  if y_K h (y_P h p0 1) = 100 ∧ y_ix p1 (y_N h (y_P h p0 1)) = true then
  if (y_I h (y_P h p0 1) (Int32.toNatClampNeg p1)) = 5 then
    if y_K h p0 = 13 then
    y_cl (f_X12_mark p0 16 h) (fun _ h13 =>
    some (1, h13))
    else none
  else
    y_jn (fun (v0_31 : Nat) (v2_31 : Int32) (h1 : y_H) => (
        if y_K h1 v0_31 = 13 then
        y_cl (f_X12_mark v0_31 10 h1) (fun _ h2 =>
        if y_K h2 v0_31 = 13 then
        y_cl (f_X12_mark v0_31 17 h2) (fun _ h4 =>
        if v2_31 = 4 then
          some (3, h4)
        else
          some (2, h4))
        else none)
        else none : Option (Int32 × y_H))) (fun j31 =>
    if (y_I h (y_P h p0 1) (Int32.toNatClampNeg p1)) = 4 then
      if y_K h p0 = 13 then
      y_cl (f_X12_mark p0 15 h) (fun _ h9 =>
      j31 p0 (y_I h (y_P h p0 1) (Int32.toNatClampNeg p1)) h9)
      else none
    else
      j31 p0 (y_I h (y_P h p0 1) (Int32.toNatClampNeg p1)) h)
  else none
  else none
abbrev rm_X12_tall : Room := { frames := 1, cells := 0, slots := 0, locals := 21 }
set_option maxRecDepth 100000 in
set_option maxHeartbeats 4000000 in
theorem k_X12_tall {l : Launch} {G : y_G} {p0 : Nat} {p1 : Int32} {h hz : y_H} {rz : Int32} (hf : f_X12_tall p0 p1 h = some (rz, hz)) : y_S l G M_X12_tall rm_X12_tall [y_p p0, .int p1] h (some (.int rz)) hz := by
  refine y_start (lv := [(0, y_p p0), (1, .int p1)]) (by decide) (by simp [lg_sl, y_p_cat, y_ci, y_cj, M_X12_tall]) (by simp [lv_args, y_p_cat, y_ci, y_cj]) (fun z ad0 => ?_)
  unfold f_X12_tall at hf
  refine y_aload_n (x := p0) (pc2 := 1) rfl dX12_tall_0 rfl ?_
  obtain ⟨g18, hf⟩ := y_g hf
  refine y_getP (pc2 := 4) rfl dX12_tall_1 F_BoxYardModel_7 (by decide) rfl g18 ?_
  refine y_iload_n (pc2 := 5) rfl dX12_tall_4 rfl ?_
  obtain ⟨g17, hf⟩ := y_g hf
  refine y_iald (pc2 := 6) rfl dX12_tall_5 g17.1 (y_ix_in g17.2) ?_
  refine y_istore_n (lv' := [(2, .int (y_I h (y_P h p0 1) (Int32.toNatClampNeg p1))), (0, y_p p0), (1, .int p1)]) (pc2 := 7) rfl dX12_tall_6 (by decide) rfl ?_
  refine y_iload_n (pc2 := 8) rfl dX12_tall_7 rfl ?_
  refine y_iconst (v := 5) (pc2 := 9) rfl dX12_tall_8 (by decide) ?_
  refine y_icmp_ne (tgt := 20) (pc2 := 12) rfl dX12_tall_9 (by decide) (fun c16 => ?_) (fun c16 => ?_)
  · replace hf := y_ie c16 hf
    refine y_iload_n (pc2 := 21) rfl dX12_tall_20 rfl ?_
    refine y_iconst (v := 4) (pc2 := 22) rfl dX12_tall_21 (by decide) ?_
    refine y_jnE hf (fun j => ∀ (v0_31 : Nat) (v2_31 : Int32) (h1 : y_H), j v0_31 v2_31 h1 = some (rz, hz) → y_V l G z rm_X12_tall M_X12_tall ad0 h (some (.int rz)) hz 31 [(0, y_p v0_31), (2, .int v2_31)] [] h1 0 0) (fun v0_31 v2_31 h1 hf => ?_) (fun j31 hj31 hf => ?_)
    · refine y_aload_n (x := v0_31) (pc2 := 32) rfl dX12_tall_31 rfl ?_
      refine y_bipush (v := 10) (pc2 := 34) rfl dX12_tall_32 (by decide) ?_
      obtain ⟨g8, hf⟩ := y_g hf
      obtain ⟨r_, h2, c3, hf⟩ := y_clE hf
      refine y_callV (As := [.int 10]) (rm := rm_X12_mark) (cells := 0) (slots := 0) (pc2 := 37) rfl dX12_tall_34 n_X12_mark l_BoxYardModel_286 i_X12_mark e_X12_mark (ci := 12) rfl rfl (by decide) g8 rfl rfl (by decide) (by decide) (by decide) (k_X12_mark c3) ?_
      refine y_aload_n (x := v0_31) (pc2 := 38) rfl dX12_tall_37 rfl ?_
      refine y_bipush (v := 17) (pc2 := 40) rfl dX12_tall_38 (by decide) ?_
      obtain ⟨g7, hf⟩ := y_g hf
      obtain ⟨r_, h4, c5, hf⟩ := y_clE hf
      refine y_callV (As := [.int 17]) (rm := rm_X12_mark) (cells := 0) (slots := 0) (pc2 := 43) rfl dX12_tall_40 n_X12_mark l_BoxYardModel_286 i_X12_mark e_X12_mark (ci := 12) rfl rfl (by decide) g7 rfl rfl (by decide) (by decide) (by decide) (k_X12_mark c5) ?_
      refine y_iload_n (pc2 := 44) rfl dX12_tall_43 rfl ?_
      refine y_iconst (v := 4) (pc2 := 45) rfl dX12_tall_44 (by decide) ?_
      refine y_icmp_ne (tgt := 52) (pc2 := 48) rfl dX12_tall_45 (by decide) (fun c6 => ?_) (fun c6 => ?_)
      · replace hf := y_ie c6 hf
        refine y_iconst (v := 2) (pc2 := 53) rfl dX12_tall_52 (by decide) ?_
        exact y_iretF hf dX12_tall_53 rfl (by decide) (by decide)
      · replace hf := y_it c6 hf
        refine y_iconst (v := 3) (pc2 := 49) rfl dX12_tall_48 (by decide) ?_
        refine y_goto (tgt := 53) dX12_tall_49 (by decide) ?_
        exact y_iretF hf dX12_tall_53 rfl (by decide) (by decide)
    · refine y_icmp_ne (tgt := 31) (pc2 := 25) rfl dX12_tall_22 (by decide) (fun c12 => ?_) (fun c12 => ?_)
      · replace hf := y_ie c12 hf
        exact y_pk [1, 0] rfl (hj31 _ _ _ hf)
      · replace hf := y_it c12 hf
        refine y_aload_n (x := p0) (pc2 := 26) rfl dX12_tall_25 rfl ?_
        refine y_bipush (v := 15) (pc2 := 28) rfl dX12_tall_26 (by decide) ?_
        obtain ⟨g11, hf⟩ := y_g hf
        obtain ⟨r_, h9, c10, hf⟩ := y_clE hf
        refine y_callV (As := [.int 15]) (rm := rm_X12_mark) (cells := 0) (slots := 0) (pc2 := 31) rfl dX12_tall_28 n_X12_mark l_BoxYardModel_286 i_X12_mark e_X12_mark (ci := 12) rfl rfl (by decide) g11 rfl rfl (by decide) (by decide) (by decide) (k_X12_mark c10) ?_
        exact y_pk [1, 0] rfl (hj31 _ _ _ hf)
  · replace hf := y_it c16 hf
    refine y_aload_n (x := p0) (pc2 := 13) rfl dX12_tall_12 rfl ?_
    refine y_bipush (v := 16) (pc2 := 15) rfl dX12_tall_13 (by decide) ?_
    obtain ⟨g15, hf⟩ := y_g hf
    obtain ⟨r_, h13, c14, hf⟩ := y_clE hf
    refine y_callV (As := [.int 16]) (rm := rm_X12_mark) (cells := 0) (slots := 0) (pc2 := 18) rfl dX12_tall_15 n_X12_mark l_BoxYardModel_286 i_X12_mark e_X12_mark (ci := 12) rfl rfl (by decide) g15 rfl rfl (by decide) (by decide) (by decide) (k_X12_mark c14) ?_
    refine y_iconst (v := 1) (pc2 := 19) rfl dX12_tall_18 (by decide) ?_
    exact y_iretF hf dX12_tall_19 rfl (by decide) (by decide)
theorem dX12_fee_0 : decode cX12_fee 0 = .ok (.aload_n 0, 1) := by decide +kernel
theorem dX12_fee_1 : decode cX12_fee 1 = .ok (.getfield 7, 3) := by decide +kernel
theorem dX12_fee_4 : decode cX12_fee 4 = .ok (.iload_n 1, 1) := by decide +kernel
theorem dX12_fee_5 : decode cX12_fee 5 = .ok (.iaload, 1) := by decide +kernel
theorem dX12_fee_6 : decode cX12_fee 6 = .ok (.istore_n 2, 1) := by decide +kernel
theorem dX12_fee_7 : decode cX12_fee 7 = .ok (.iload_n 2, 1) := by decide +kernel
theorem dX12_fee_8 : decode cX12_fee 8 = .ok (.iconst 5, 1) := by decide +kernel
theorem dX12_fee_9 : decode cX12_fee 9 = .ok (.if_icmp .ne 17, 3) := by decide +kernel
theorem dX12_fee_12 : decode cX12_fee 12 = .ok (.aload_n 0, 1) := by decide +kernel
theorem dX12_fee_13 : decode cX12_fee 13 = .ok (.bipush 26, 2) := by decide +kernel
theorem dX12_fee_15 : decode cX12_fee 15 = .ok (.invokevirtual 286, 3) := by decide +kernel
theorem dX12_fee_18 : decode cX12_fee 18 = .ok (.aload_n 0, 1) := by decide +kernel
theorem dX12_fee_19 : decode cX12_fee 19 = .ok (.bipush 27, 2) := by decide +kernel
theorem dX12_fee_21 : decode cX12_fee 21 = .ok (.invokevirtual 286, 3) := by decide +kernel
theorem dX12_fee_24 : decode cX12_fee 24 = .ok (.iconst 3, 1) := by decide +kernel
theorem dX12_fee_25 : decode cX12_fee 25 = .ok (.ireturn, 1) := by decide +kernel
theorem dX12_fee_26 : decode cX12_fee 26 = .ok (.iload_n 2, 1) := by decide +kernel
theorem dX12_fee_27 : decode cX12_fee 27 = .ok (.iconst 4, 1) := by decide +kernel
theorem dX12_fee_28 : decode cX12_fee 28 = .ok (.if_icmp .ne 9, 3) := by decide +kernel
theorem dX12_fee_31 : decode cX12_fee 31 = .ok (.aload_n 0, 1) := by decide +kernel
theorem dX12_fee_32 : decode cX12_fee 32 = .ok (.bipush 25, 2) := by decide +kernel
theorem dX12_fee_34 : decode cX12_fee 34 = .ok (.invokevirtual 286, 3) := by decide +kernel
theorem dX12_fee_37 : decode cX12_fee 37 = .ok (.iload_n 2, 1) := by decide +kernel
theorem dX12_fee_38 : decode cX12_fee 38 = .ok (.ifCond .eq 29, 3) := by decide +kernel
theorem dX12_fee_41 : decode cX12_fee 41 = .ok (.aload_n 0, 1) := by decide +kernel
theorem dX12_fee_42 : decode cX12_fee 42 = .ok (.iload_n 2, 1) := by decide +kernel
theorem dX12_fee_43 : decode cX12_fee 43 = .ok (.iconst 1, 1) := by decide +kernel
theorem dX12_fee_44 : decode cX12_fee 44 = .ok (.if_icmp .ne 8, 3) := by decide +kernel
theorem dX12_fee_47 : decode cX12_fee 47 = .ok (.bipush 22, 2) := by decide +kernel
theorem dX12_fee_49 : decode cX12_fee 49 = .ok (.goto 15, 3) := by decide +kernel
theorem dX12_fee_52 : decode cX12_fee 52 = .ok (.iload_n 2, 1) := by decide +kernel
theorem dX12_fee_53 : decode cX12_fee 53 = .ok (.iconst 2, 1) := by decide +kernel
theorem dX12_fee_54 : decode cX12_fee 54 = .ok (.if_icmp .ne 8, 3) := by decide +kernel
theorem dX12_fee_57 : decode cX12_fee 57 = .ok (.bipush 23, 2) := by decide +kernel
theorem dX12_fee_59 : decode cX12_fee 59 = .ok (.goto 5, 3) := by decide +kernel
theorem dX12_fee_62 : decode cX12_fee 62 = .ok (.bipush 24, 2) := by decide +kernel
theorem dX12_fee_64 : decode cX12_fee 64 = .ok (.invokevirtual 286, 3) := by decide +kernel
theorem dX12_fee_67 : decode cX12_fee 67 = .ok (.aload_n 0, 1) := by decide +kernel
theorem dX12_fee_68 : decode cX12_fee 68 = .ok (.bipush 20, 2) := by decide +kernel
theorem dX12_fee_70 : decode cX12_fee 70 = .ok (.invokevirtual 286, 3) := by decide +kernel
theorem dX12_fee_73 : decode cX12_fee 73 = .ok (.aload_n 0, 1) := by decide +kernel
theorem dX12_fee_74 : decode cX12_fee 74 = .ok (.iload_n 1, 1) := by decide +kernel
theorem dX12_fee_75 : decode cX12_fee 75 = .ok (.invokevirtual 290, 3) := by decide +kernel
theorem dX12_fee_78 : decode cX12_fee 78 = .ok (.bipush 10, 2) := by decide +kernel
theorem dX12_fee_80 : decode cX12_fee 80 = .ok (.idiv, 1) := by decide +kernel
theorem dX12_fee_81 : decode cX12_fee 81 = .ok (.iconst 5, 1) := by decide +kernel
theorem dX12_fee_82 : decode cX12_fee 82 = .ok (.iadd, 1) := by decide +kernel
theorem dX12_fee_83 : decode cX12_fee 83 = .ok (.istore_n 3, 1) := by decide +kernel
theorem dX12_fee_84 : decode cX12_fee 84 = .ok (.iload_n 2, 1) := by decide +kernel
theorem dX12_fee_85 : decode cX12_fee 85 = .ok (.iconst 1, 1) := by decide +kernel
theorem dX12_fee_86 : decode cX12_fee 86 = .ok (.if_icmp .ne 10, 3) := by decide +kernel
theorem dX12_fee_89 : decode cX12_fee 89 = .ok (.iload_n 3, 1) := by decide +kernel
theorem dX12_fee_90 : decode cX12_fee 90 = .ok (.bipush 40, 2) := by decide +kernel
theorem dX12_fee_92 : decode cX12_fee 92 = .ok (.iadd, 1) := by decide +kernel
theorem dX12_fee_93 : decode cX12_fee 93 = .ok (.goto 48, 3) := by decide +kernel
theorem dX12_fee_96 : decode cX12_fee 96 = .ok (.iload_n 2, 1) := by decide +kernel
theorem dX12_fee_97 : decode cX12_fee 97 = .ok (.iconst 2, 1) := by decide +kernel
theorem dX12_fee_98 : decode cX12_fee 98 = .ok (.if_icmp .ne 17, 3) := by decide +kernel
theorem dX12_fee_101 : decode cX12_fee 101 = .ok (.iload_n 3, 1) := by decide +kernel
theorem dX12_fee_102 : decode cX12_fee 102 = .ok (.bipush 10, 2) := by decide +kernel
theorem dX12_fee_104 : decode cX12_fee 104 = .ok (.aload_n 0, 1) := by decide +kernel
theorem dX12_fee_105 : decode cX12_fee 105 = .ok (.getfield 19, 3) := by decide +kernel
theorem dX12_fee_108 : decode cX12_fee 108 = .ok (.iload_n 1, 1) := by decide +kernel
theorem dX12_fee_109 : decode cX12_fee 109 = .ok (.iaload, 1) := by decide +kernel
theorem dX12_fee_110 : decode cX12_fee 110 = .ok (.imul, 1) := by decide +kernel
theorem dX12_fee_111 : decode cX12_fee 111 = .ok (.iadd, 1) := by decide +kernel
theorem dX12_fee_112 : decode cX12_fee 112 = .ok (.goto 29, 3) := by decide +kernel
theorem dX12_fee_115 : decode cX12_fee 115 = .ok (.iload_n 2, 1) := by decide +kernel
theorem dX12_fee_116 : decode cX12_fee 116 = .ok (.iconst 3, 1) := by decide +kernel
theorem dX12_fee_117 : decode cX12_fee 117 = .ok (.if_icmp .ne 9, 3) := by decide +kernel
theorem dX12_fee_120 : decode cX12_fee 120 = .ok (.iconst 2, 1) := by decide +kernel
theorem dX12_fee_121 : decode cX12_fee 121 = .ok (.iload_n 3, 1) := by decide +kernel
theorem dX12_fee_122 : decode cX12_fee 122 = .ok (.imul, 1) := by decide +kernel
theorem dX12_fee_123 : decode cX12_fee 123 = .ok (.goto 18, 3) := by decide +kernel
theorem dX12_fee_126 : decode cX12_fee 126 = .ok (.iload_n 2, 1) := by decide +kernel
theorem dX12_fee_127 : decode cX12_fee 127 = .ok (.iconst 4, 1) := by decide +kernel
theorem dX12_fee_128 : decode cX12_fee 128 = .ok (.if_icmp .ne 12, 3) := by decide +kernel
theorem dX12_fee_131 : decode cX12_fee 131 = .ok (.iconst 2, 1) := by decide +kernel
theorem dX12_fee_132 : decode cX12_fee 132 = .ok (.iload_n 3, 1) := by decide +kernel
theorem dX12_fee_133 : decode cX12_fee 133 = .ok (.imul, 1) := by decide +kernel
theorem dX12_fee_134 : decode cX12_fee 134 = .ok (.bipush 30, 2) := by decide +kernel
theorem dX12_fee_136 : decode cX12_fee 136 = .ok (.iadd, 1) := by decide +kernel
theorem dX12_fee_137 : decode cX12_fee 137 = .ok (.goto 4, 3) := by decide +kernel
theorem dX12_fee_140 : decode cX12_fee 140 = .ok (.iload_n 3, 1) := by decide +kernel
theorem dX12_fee_141 : decode cX12_fee 141 = .ok (.ireturn, 1) := by decide +kernel
def M_X12_fee : y_M := (yX12_fee, cX12_fee, 4, (Option.some Jvm.ClassFile.FieldType.int))
theorem n_X12_fee : y_N0 M_X12_fee 1 := ⟨(c_8 206 (by decide +kernel) rfl), (c_1 9 (by decide +kernel) rfl), ⟨by decide +kernel, by decide +kernel⟩, by decide +kernel⟩
theorem l_BoxYardModel_290 : y_lnk "BoxYardModel" 290 M_X12_known := Or.inl (c_8 207 (by decide +kernel) rfl)
theorem i_X12_known : Cond.instanceMethod (M_X12_known).1 ∈ y_tb := (c_8 209 (by decide +kernel) rfl)
theorem e_X12_known : Cond.selects (M_X12_known).1.cls (M_X12_known).1 (M_X12_known).1 ∈ y_tb := (m_s 64 (by decide +kernel) rfl)
theorem F_BoxYardModel_19 : y_F "BoxYardModel" 19 12 4 := ⟨_, _, _, rfl, by decide, Or.inl (c_7 126 (by decide +kernel) rfl)⟩
set_option maxRecDepth 100000 in
def f_X12_fee (p0 : Nat) (p1 : Int32) (h : y_H) : Option (Int32 × y_H) :=
  if y_K h p0 = 13 then
  if y_K h (y_P h p0 1) = 100 ∧ y_ix p1 (y_N h (y_P h p0 1)) = true then
  if (y_I h (y_P h p0 1) (Int32.toNatClampNeg p1)) = 5 then
    if y_K h p0 = 13 then
    y_cl (f_X12_mark p0 26 h) (fun _ h32 =>
    if y_K h32 p0 = 13 then
    y_cl (f_X12_mark p0 27 h32) (fun _ h34 =>
    some (3, h34))
    else none)
    else none
  else
    y_jn (fun (v0_37 : Nat) (v1_37 : Int32) (v2_37 : Int32) (h1 : y_H) => (
        y_jn (fun (v0_67 : Nat) (v1_67 : Int32) (v2_67 : Int32) (h2 : y_H) => (
            if y_K h2 v0_67 = 13 then
            y_cl (f_X12_mark v0_67 20 h2) (fun _ h3 =>
            if y_K h3 v0_67 = 13 then
            y_cl (f_X12_known v0_67 v1_67 h3) (fun r5 h6 =>
            if v2_67 = 1 then
              some (((r5 / 10) + 5) + 40, h6)
            else
              if v2_67 = 2 then
                if y_K h6 v0_67 = 13 then
                if y_K h6 (y_P h6 v0_67 4) = 100 ∧ y_ix v1_67 (y_N h6 (y_P h6 v0_67 4)) = true then
                some (((r5 / 10) + 5) + (10 * (y_I h6 (y_P h6 v0_67 4) (Int32.toNatClampNeg v1_67))), h6)
                else none
                else none
              else
                if v2_67 = 3 then
                  some (2 * ((r5 / 10) + 5), h6)
                else
                  if v2_67 = 4 then
                    some ((2 * ((r5 / 10) + 5)) + 30, h6)
                  else
                    some ((r5 / 10) + 5, h6))
            else none)
            else none : Option (Int32 × y_H))) (fun j67 =>
        if v2_37 = 0 then
          j67 v0_37 v1_37 v2_37 h1
        else
          if v2_37 = 1 then
            if y_K h1 v0_37 = 13 then
            y_cl (f_X12_mark v0_37 22 h1) (fun _ h23 =>
            j67 v0_37 v1_37 v2_37 h23)
            else none
          else
            if v2_37 = 2 then
              if y_K h1 v0_37 = 13 then
              y_cl (f_X12_mark v0_37 23 h1) (fun _ h19 =>
              j67 v0_37 v1_37 v2_37 h19)
              else none
            else
              if y_K h1 v0_37 = 13 then
              y_cl (f_X12_mark v0_37 24 h1) (fun _ h16 =>
              j67 v0_37 v1_37 v2_37 h16)
              else none) : Option (Int32 × y_H))) (fun j37 =>
    if (y_I h (y_P h p0 1) (Int32.toNatClampNeg p1)) = 4 then
      if y_K h p0 = 13 then
      y_cl (f_X12_mark p0 25 h) (fun _ h28 =>
      j37 p0 p1 (y_I h (y_P h p0 1) (Int32.toNatClampNeg p1)) h28)
      else none
    else
      j37 p0 p1 (y_I h (y_P h p0 1) (Int32.toNatClampNeg p1)) h)
  else none
  else none
abbrev rm_X12_fee : Room := { frames := 1, cells := 0, slots := 0, locals := 21 }
set_option maxRecDepth 100000 in
set_option maxHeartbeats 4000000 in
theorem k_X12_fee {l : Launch} {G : y_G} {p0 : Nat} {p1 : Int32} {h hz : y_H} {rz : Int32} (hf : f_X12_fee p0 p1 h = some (rz, hz)) : y_S l G M_X12_fee rm_X12_fee [y_p p0, .int p1] h (some (.int rz)) hz := by
  refine y_start (lv := [(0, y_p p0), (1, .int p1)]) (by decide) (by simp [lg_sl, y_p_cat, y_ci, y_cj, M_X12_fee]) (by simp [lv_args, y_p_cat, y_ci, y_cj]) (fun z ad0 => ?_)
  unfold f_X12_fee at hf
  refine y_aload_n (x := p0) (pc2 := 1) rfl dX12_fee_0 rfl ?_
  obtain ⟨g40, hf⟩ := y_g hf
  refine y_getP (pc2 := 4) rfl dX12_fee_1 F_BoxYardModel_7 (by decide) rfl g40 ?_
  refine y_iload_n (pc2 := 5) rfl dX12_fee_4 rfl ?_
  obtain ⟨g39, hf⟩ := y_g hf
  refine y_iald (pc2 := 6) rfl dX12_fee_5 g39.1 (y_ix_in g39.2) ?_
  refine y_istore_n (lv' := [(2, .int (y_I h (y_P h p0 1) (Int32.toNatClampNeg p1))), (0, y_p p0), (1, .int p1)]) (pc2 := 7) rfl dX12_fee_6 (by decide) rfl ?_
  refine y_iload_n (pc2 := 8) rfl dX12_fee_7 rfl ?_
  refine y_iconst (v := 5) (pc2 := 9) rfl dX12_fee_8 (by decide) ?_
  refine y_icmp_ne (tgt := 26) (pc2 := 12) rfl dX12_fee_9 (by decide) (fun c38 => ?_) (fun c38 => ?_)
  · replace hf := y_ie c38 hf
    refine y_iload_n (pc2 := 27) rfl dX12_fee_26 rfl ?_
    refine y_iconst (v := 4) (pc2 := 28) rfl dX12_fee_27 (by decide) ?_
    refine y_jnE hf (fun j => ∀ (v0_37 : Nat) (v1_37 : Int32) (v2_37 : Int32) (h1 : y_H), j v0_37 v1_37 v2_37 h1 = some (rz, hz) → y_V l G z rm_X12_fee M_X12_fee ad0 h (some (.int rz)) hz 37 [(0, y_p v0_37), (1, .int v1_37), (2, .int v2_37)] [] h1 0 0) (fun v0_37 v1_37 v2_37 h1 hf => ?_) (fun j37 hj37 hf => ?_)
    · refine y_iload_n (pc2 := 38) rfl dX12_fee_37 rfl ?_
      refine y_jnE hf (fun j => ∀ (v0_67 : Nat) (v1_67 : Int32) (v2_67 : Int32) (h2 : y_H), j v0_67 v1_67 v2_67 h2 = some (rz, hz) → y_V l G z rm_X12_fee M_X12_fee ad0 h (some (.int rz)) hz 67 [(0, y_p v0_67), (1, .int v1_67), (2, .int v2_67)] [] h2 0 0) (fun v0_67 v1_67 v2_67 h2 hf => ?_) (fun j67 hj67 hf => ?_)
      · refine y_aload_n (x := v0_67) (pc2 := 68) rfl dX12_fee_67 rfl ?_
        refine y_bipush (v := 20) (pc2 := 70) rfl dX12_fee_68 (by decide) ?_
        obtain ⟨g15, hf⟩ := y_g hf
        obtain ⟨r_, h3, c4, hf⟩ := y_clE hf
        refine y_callV (As := [.int 20]) (rm := rm_X12_mark) (cells := 0) (slots := 0) (pc2 := 73) rfl dX12_fee_70 n_X12_mark l_BoxYardModel_286 i_X12_mark e_X12_mark (ci := 12) rfl rfl (by decide) g15 rfl rfl (by decide) (by decide) (by decide) (k_X12_mark c4) ?_
        refine y_aload_n (x := v0_67) (pc2 := 74) rfl dX12_fee_73 rfl ?_
        refine y_iload_n (pc2 := 75) rfl dX12_fee_74 rfl ?_
        obtain ⟨g14, hf⟩ := y_g hf
        obtain ⟨r5, h6, c7, hf⟩ := y_clE hf
        refine y_callV (As := [.int v1_67]) (rm := rm_X12_known) (cells := 0) (slots := 0) (pc2 := 78) rfl dX12_fee_75 n_X12_known l_BoxYardModel_290 i_X12_known e_X12_known (ci := 12) rfl rfl (by decide) g14 rfl rfl (by decide) (by decide) (by decide) (k_X12_known c7) ?_
        refine y_bipush (v := 10) (pc2 := 80) rfl dX12_fee_78 (by decide) ?_
        refine y_idiv (pc2 := 81) rfl dX12_fee_80 (by decide) ?_
        refine y_iconst (v := 5) (pc2 := 82) rfl dX12_fee_81 (by decide) ?_
        refine y_iadd (pc2 := 83) rfl dX12_fee_82 ?_
        refine y_istore_n (lv' := [(3, .int ((r5 / 10) + 5)), (0, y_p v0_67), (1, .int v1_67), (2, .int v2_67)]) (pc2 := 84) rfl dX12_fee_83 (by decide) rfl ?_
        refine y_iload_n (pc2 := 85) rfl dX12_fee_84 rfl ?_
        refine y_iconst (v := 1) (pc2 := 86) rfl dX12_fee_85 (by decide) ?_
        refine y_icmp_ne (tgt := 96) (pc2 := 89) rfl dX12_fee_86 (by decide) (fun c13 => ?_) (fun c13 => ?_)
        · replace hf := y_ie c13 hf
          refine y_iload_n (pc2 := 97) rfl dX12_fee_96 rfl ?_
          refine y_iconst (v := 2) (pc2 := 98) rfl dX12_fee_97 (by decide) ?_
          refine y_icmp_ne (tgt := 115) (pc2 := 101) rfl dX12_fee_98 (by decide) (fun c12 => ?_) (fun c12 => ?_)
          · replace hf := y_ie c12 hf
            refine y_iload_n (pc2 := 116) rfl dX12_fee_115 rfl ?_
            refine y_iconst (v := 3) (pc2 := 117) rfl dX12_fee_116 (by decide) ?_
            refine y_icmp_ne (tgt := 126) (pc2 := 120) rfl dX12_fee_117 (by decide) (fun c9 => ?_) (fun c9 => ?_)
            · replace hf := y_ie c9 hf
              refine y_iload_n (pc2 := 127) rfl dX12_fee_126 rfl ?_
              refine y_iconst (v := 4) (pc2 := 128) rfl dX12_fee_127 (by decide) ?_
              refine y_icmp_ne (tgt := 140) (pc2 := 131) rfl dX12_fee_128 (by decide) (fun c8 => ?_) (fun c8 => ?_)
              · replace hf := y_ie c8 hf
                refine y_iload_n (pc2 := 141) rfl dX12_fee_140 rfl ?_
                exact y_iretF hf dX12_fee_141 rfl (by decide) (by decide)
              · replace hf := y_it c8 hf
                refine y_iconst (v := 2) (pc2 := 132) rfl dX12_fee_131 (by decide) ?_
                refine y_iload_n (pc2 := 133) rfl dX12_fee_132 rfl ?_
                refine y_imul (pc2 := 134) rfl dX12_fee_133 ?_
                refine y_bipush (v := 30) (pc2 := 136) rfl dX12_fee_134 (by decide) ?_
                refine y_iadd (pc2 := 137) rfl dX12_fee_136 ?_
                refine y_goto (tgt := 141) dX12_fee_137 (by decide) ?_
                exact y_iretF hf dX12_fee_141 rfl (by decide) (by decide)
            · replace hf := y_it c9 hf
              refine y_iconst (v := 2) (pc2 := 121) rfl dX12_fee_120 (by decide) ?_
              refine y_iload_n (pc2 := 122) rfl dX12_fee_121 rfl ?_
              refine y_imul (pc2 := 123) rfl dX12_fee_122 ?_
              refine y_goto (tgt := 141) dX12_fee_123 (by decide) ?_
              exact y_iretF hf dX12_fee_141 rfl (by decide) (by decide)
          · replace hf := y_it c12 hf
            refine y_iload_n (pc2 := 102) rfl dX12_fee_101 rfl ?_
            refine y_bipush (v := 10) (pc2 := 104) rfl dX12_fee_102 (by decide) ?_
            refine y_aload_n (x := v0_67) (pc2 := 105) rfl dX12_fee_104 rfl ?_
            obtain ⟨g11, hf⟩ := y_g hf
            refine y_getP (pc2 := 108) rfl dX12_fee_105 F_BoxYardModel_19 (by decide) rfl g11 ?_
            refine y_iload_n (pc2 := 109) rfl dX12_fee_108 rfl ?_
            obtain ⟨g10, hf⟩ := y_g hf
            refine y_iald (pc2 := 110) rfl dX12_fee_109 g10.1 (y_ix_in g10.2) ?_
            refine y_imul (pc2 := 111) rfl dX12_fee_110 ?_
            refine y_iadd (pc2 := 112) rfl dX12_fee_111 ?_
            refine y_goto (tgt := 141) dX12_fee_112 (by decide) ?_
            exact y_iretF hf dX12_fee_141 rfl (by decide) (by decide)
        · replace hf := y_it c13 hf
          refine y_iload_n (pc2 := 90) rfl dX12_fee_89 rfl ?_
          refine y_bipush (v := 40) (pc2 := 92) rfl dX12_fee_90 (by decide) ?_
          refine y_iadd (pc2 := 93) rfl dX12_fee_92 ?_
          refine y_goto (tgt := 141) dX12_fee_93 (by decide) ?_
          exact y_iretF hf dX12_fee_141 rfl (by decide) (by decide)
      · refine y_if_eq (tgt := 67) (pc2 := 41) rfl dX12_fee_38 (by decide) (fun c27 => ?_) (fun c27 => ?_)
        · replace hf := y_it c27 hf
          exact y_pk [0, 1, 2] rfl (hj67 _ _ _ _ hf)
        · replace hf := y_ie c27 hf
          refine y_aload_n (x := v0_37) (pc2 := 42) rfl dX12_fee_41 rfl ?_
          refine y_iload_n (pc2 := 43) rfl dX12_fee_42 rfl ?_
          refine y_iconst (v := 1) (pc2 := 44) rfl dX12_fee_43 (by decide) ?_
          refine y_icmp_ne (tgt := 52) (pc2 := 47) rfl dX12_fee_44 (by decide) (fun c26 => ?_) (fun c26 => ?_)
          · replace hf := y_ie c26 hf
            refine y_iload_n (pc2 := 53) rfl dX12_fee_52 rfl ?_
            refine y_iconst (v := 2) (pc2 := 54) rfl dX12_fee_53 (by decide) ?_
            refine y_icmp_ne (tgt := 62) (pc2 := 57) rfl dX12_fee_54 (by decide) (fun c22 => ?_) (fun c22 => ?_)
            · replace hf := y_ie c22 hf
              refine y_bipush (v := 24) (pc2 := 64) rfl dX12_fee_62 (by decide) ?_
              obtain ⟨g18, hf⟩ := y_g hf
              obtain ⟨r_, h16, c17, hf⟩ := y_clE hf
              refine y_callV (As := [.int 24]) (rm := rm_X12_mark) (cells := 0) (slots := 0) (pc2 := 67) rfl dX12_fee_64 n_X12_mark l_BoxYardModel_286 i_X12_mark e_X12_mark (ci := 12) rfl rfl (by decide) g18 rfl rfl (by decide) (by decide) (by decide) (k_X12_mark c17) ?_
              exact y_pk [0, 1, 2] rfl (hj67 _ _ _ _ hf)
            · replace hf := y_it c22 hf
              refine y_bipush (v := 23) (pc2 := 59) rfl dX12_fee_57 (by decide) ?_
              refine y_goto (tgt := 64) dX12_fee_59 (by decide) ?_
              obtain ⟨g21, hf⟩ := y_g hf
              obtain ⟨r_, h19, c20, hf⟩ := y_clE hf
              refine y_callV (As := [.int 23]) (rm := rm_X12_mark) (cells := 0) (slots := 0) (pc2 := 67) rfl dX12_fee_64 n_X12_mark l_BoxYardModel_286 i_X12_mark e_X12_mark (ci := 12) rfl rfl (by decide) g21 rfl rfl (by decide) (by decide) (by decide) (k_X12_mark c20) ?_
              exact y_pk [0, 1, 2] rfl (hj67 _ _ _ _ hf)
          · replace hf := y_it c26 hf
            refine y_bipush (v := 22) (pc2 := 49) rfl dX12_fee_47 (by decide) ?_
            refine y_goto (tgt := 64) dX12_fee_49 (by decide) ?_
            obtain ⟨g25, hf⟩ := y_g hf
            obtain ⟨r_, h23, c24, hf⟩ := y_clE hf
            refine y_callV (As := [.int 22]) (rm := rm_X12_mark) (cells := 0) (slots := 0) (pc2 := 67) rfl dX12_fee_64 n_X12_mark l_BoxYardModel_286 i_X12_mark e_X12_mark (ci := 12) rfl rfl (by decide) g25 rfl rfl (by decide) (by decide) (by decide) (k_X12_mark c24) ?_
            exact y_pk [0, 1, 2] rfl (hj67 _ _ _ _ hf)
    · refine y_icmp_ne (tgt := 37) (pc2 := 31) rfl dX12_fee_28 (by decide) (fun c31 => ?_) (fun c31 => ?_)
      · replace hf := y_ie c31 hf
        exact y_pk [1, 2, 0] rfl (hj37 _ _ _ _ hf)
      · replace hf := y_it c31 hf
        refine y_aload_n (x := p0) (pc2 := 32) rfl dX12_fee_31 rfl ?_
        refine y_bipush (v := 25) (pc2 := 34) rfl dX12_fee_32 (by decide) ?_
        obtain ⟨g30, hf⟩ := y_g hf
        obtain ⟨r_, h28, c29, hf⟩ := y_clE hf
        refine y_callV (As := [.int 25]) (rm := rm_X12_mark) (cells := 0) (slots := 0) (pc2 := 37) rfl dX12_fee_34 n_X12_mark l_BoxYardModel_286 i_X12_mark e_X12_mark (ci := 12) rfl rfl (by decide) g30 rfl rfl (by decide) (by decide) (by decide) (k_X12_mark c29) ?_
        exact y_pk [1, 2, 0] rfl (hj37 _ _ _ _ hf)
  · replace hf := y_it c38 hf
    refine y_aload_n (x := p0) (pc2 := 13) rfl dX12_fee_12 rfl ?_
    refine y_bipush (v := 26) (pc2 := 15) rfl dX12_fee_13 (by decide) ?_
    obtain ⟨g37, hf⟩ := y_g hf
    obtain ⟨r_, h32, c33, hf⟩ := y_clE hf
    refine y_callV (As := [.int 26]) (rm := rm_X12_mark) (cells := 0) (slots := 0) (pc2 := 18) rfl dX12_fee_15 n_X12_mark l_BoxYardModel_286 i_X12_mark e_X12_mark (ci := 12) rfl rfl (by decide) g37 rfl rfl (by decide) (by decide) (by decide) (k_X12_mark c33) ?_
    refine y_aload_n (x := p0) (pc2 := 19) rfl dX12_fee_18 rfl ?_
    refine y_bipush (v := 27) (pc2 := 21) rfl dX12_fee_19 (by decide) ?_
    obtain ⟨g36, hf⟩ := y_g hf
    obtain ⟨r_, h34, c35, hf⟩ := y_clE hf
    refine y_callV (As := [.int 27]) (rm := rm_X12_mark) (cells := 0) (slots := 0) (pc2 := 24) rfl dX12_fee_21 n_X12_mark l_BoxYardModel_286 i_X12_mark e_X12_mark (ci := 12) rfl rfl (by decide) g36 rfl rfl (by decide) (by decide) (by decide) (k_X12_mark c35) ?_
    refine y_iconst (v := 3) (pc2 := 25) rfl dX12_fee_24 (by decide) ?_
    exact y_iretF hf dX12_fee_25 rfl (by decide) (by decide)
theorem dX12_watts_0 : decode cX12_watts 0 = .ok (.aload_n 0, 1) := by decide +kernel
theorem dX12_watts_1 : decode cX12_watts 1 = .ok (.bipush 32, 2) := by decide +kernel
theorem dX12_watts_3 : decode cX12_watts 3 = .ok (.invokevirtual 286, 3) := by decide +kernel
theorem dX12_watts_6 : decode cX12_watts 6 = .ok (.iconst 4, 1) := by decide +kernel
theorem dX12_watts_7 : decode cX12_watts 7 = .ok (.aload_n 0, 1) := by decide +kernel
theorem dX12_watts_8 : decode cX12_watts 8 = .ok (.iload_n 1, 1) := by decide +kernel
theorem dX12_watts_9 : decode cX12_watts 9 = .ok (.invokevirtual 290, 3) := by decide +kernel
theorem dX12_watts_12 : decode cX12_watts 12 = .ok (.bipush 100, 2) := by decide +kernel
theorem dX12_watts_14 : decode cX12_watts 14 = .ok (.idiv, 1) := by decide +kernel
theorem dX12_watts_15 : decode cX12_watts 15 = .ok (.iadd, 1) := by decide +kernel
theorem dX12_watts_16 : decode cX12_watts 16 = .ok (.ireturn, 1) := by decide +kernel
def M_X12_watts : y_M := (yX12_watts, cX12_watts, 2, (Option.some Jvm.ClassFile.FieldType.int))
theorem n_X12_watts : y_N0 M_X12_watts 1 := ⟨(c_8 214 (by decide +kernel) rfl), (c_1 9 (by decide +kernel) rfl), ⟨by decide +kernel, by decide +kernel⟩, by decide +kernel⟩
set_option maxRecDepth 100000 in
def f_X12_watts (p0 : Nat) (p1 : Int32) (h : y_H) : Option (Int32 × y_H) :=
  if y_K h p0 = 13 then
  y_cl (f_X12_mark p0 32 h) (fun _ h1 =>
  if y_K h1 p0 = 13 then
  y_cl (f_X12_known p0 p1 h1) (fun r3 h4 =>
  some (4 + (r3 / 100), h4))
  else none)
  else none
abbrev rm_X12_watts : Room := { frames := 1, cells := 0, slots := 0, locals := 21 }
set_option maxRecDepth 100000 in
set_option maxHeartbeats 4000000 in
theorem k_X12_watts {l : Launch} {G : y_G} {p0 : Nat} {p1 : Int32} {h hz : y_H} {rz : Int32} (hf : f_X12_watts p0 p1 h = some (rz, hz)) : y_S l G M_X12_watts rm_X12_watts [y_p p0, .int p1] h (some (.int rz)) hz := by
  refine y_start (lv := [(0, y_p p0), (1, .int p1)]) (by decide) (by simp [lg_sl, y_p_cat, y_ci, y_cj, M_X12_watts]) (by simp [lv_args, y_p_cat, y_ci, y_cj]) (fun z ad0 => ?_)
  unfold f_X12_watts at hf
  refine y_aload_n (x := p0) (pc2 := 1) rfl dX12_watts_0 rfl ?_
  refine y_bipush (v := 32) (pc2 := 3) rfl dX12_watts_1 (by decide) ?_
  obtain ⟨g7, hf⟩ := y_g hf
  obtain ⟨r_, h1, c2, hf⟩ := y_clE hf
  refine y_callV (As := [.int 32]) (rm := rm_X12_mark) (cells := 0) (slots := 0) (pc2 := 6) rfl dX12_watts_3 n_X12_mark l_BoxYardModel_286 i_X12_mark e_X12_mark (ci := 12) rfl rfl (by decide) g7 rfl rfl (by decide) (by decide) (by decide) (k_X12_mark c2) ?_
  refine y_iconst (v := 4) (pc2 := 7) rfl dX12_watts_6 (by decide) ?_
  refine y_aload_n (x := p0) (pc2 := 8) rfl dX12_watts_7 rfl ?_
  refine y_iload_n (pc2 := 9) rfl dX12_watts_8 rfl ?_
  obtain ⟨g6, hf⟩ := y_g hf
  obtain ⟨r3, h4, c5, hf⟩ := y_clE hf
  refine y_callV (As := [.int p1]) (rm := rm_X12_known) (cells := 0) (slots := 0) (pc2 := 12) rfl dX12_watts_9 n_X12_known l_BoxYardModel_290 i_X12_known e_X12_known (ci := 12) rfl rfl (by decide) g6 rfl rfl (by decide) (by simp [y_ci, y_cj, y_p_cat]) (by decide) (k_X12_known c5) ?_
  refine y_bipush (v := 100) (pc2 := 14) rfl dX12_watts_12 (by decide) ?_
  refine y_idiv (pc2 := 15) rfl dX12_watts_14 (by decide) ?_
  refine y_iadd (pc2 := 16) rfl dX12_watts_15 ?_
  exact y_iretF hf dX12_watts_16 rfl (by decide) (by decide)
theorem dX12_put_0 : decode cX12_put 0 = .ok (.aload_n 0, 1) := by decide +kernel
theorem dX12_put_1 : decode cX12_put 1 = .ok (.getfield 29, 3) := by decide +kernel
theorem dX12_put_4 : decode cX12_put 4 = .ok (.iload_n 1, 1) := by decide +kernel
theorem dX12_put_5 : decode cX12_put 5 = .ok (.iload_n 2, 1) := by decide +kernel
theorem dX12_put_6 : decode cX12_put 6 = .ok (.iastore, 1) := by decide +kernel
theorem dX12_put_7 : decode cX12_put 7 = .ok (.aload_n 0, 1) := by decide +kernel
theorem dX12_put_8 : decode cX12_put 8 = .ok (.getfield 32, 3) := by decide +kernel
theorem dX12_put_11 : decode cX12_put 11 = .ok (.iload_n 1, 1) := by decide +kernel
theorem dX12_put_12 : decode cX12_put 12 = .ok (.iload_n 3, 1) := by decide +kernel
theorem dX12_put_13 : decode cX12_put 13 = .ok (.iastore, 1) := by decide +kernel
theorem dX12_put_14 : decode cX12_put 14 = .ok (.aload_n 0, 1) := by decide +kernel
theorem dX12_put_15 : decode cX12_put 15 = .ok (.getfield 35, 3) := by decide +kernel
theorem dX12_put_18 : decode cX12_put 18 = .ok (.iload_n 1, 1) := by decide +kernel
theorem dX12_put_19 : decode cX12_put 19 = .ok (.iload 4, 2) := by decide +kernel
theorem dX12_put_21 : decode cX12_put 21 = .ok (.iastore, 1) := by decide +kernel
theorem dX12_put_22 : decode cX12_put 22 = .ok (.aload_n 0, 1) := by decide +kernel
theorem dX12_put_23 : decode cX12_put 23 = .ok (.getfield 38, 3) := by decide +kernel
theorem dX12_put_26 : decode cX12_put 26 = .ok (.iload_n 1, 1) := by decide +kernel
theorem dX12_put_27 : decode cX12_put 27 = .ok (.iload 5, 2) := by decide +kernel
theorem dX12_put_29 : decode cX12_put 29 = .ok (.iastore, 1) := by decide +kernel
theorem dX12_put_30 : decode cX12_put 30 = .ok (.return_, 1) := by decide +kernel
def M_X12_put : y_M := (yX12_put, cX12_put, 6, (Option.none : Option Jvm.ClassFile.FieldType))
theorem n_X12_put : y_N0 M_X12_put 5 := ⟨(c_8 178 (by decide +kernel) rfl), (c_1 9 (by decide +kernel) rfl), ⟨by decide +kernel, by decide +kernel⟩, by decide +kernel⟩
theorem F_BoxYardModel_29 : y_F "BoxYardModel" 29 12 7 := ⟨_, _, _, rfl, by decide, Or.inl (c_7 129 (by decide +kernel) rfl)⟩
theorem F_BoxYardModel_32 : y_F "BoxYardModel" 32 12 8 := ⟨_, _, _, rfl, by decide, Or.inl (c_7 130 (by decide +kernel) rfl)⟩
theorem F_BoxYardModel_35 : y_F "BoxYardModel" 35 12 9 := ⟨_, _, _, rfl, by decide, Or.inl (c_7 131 (by decide +kernel) rfl)⟩
theorem F_BoxYardModel_38 : y_F "BoxYardModel" 38 12 10 := ⟨_, _, _, rfl, by decide, Or.inl (c_7 132 (by decide +kernel) rfl)⟩
set_option maxRecDepth 100000 in
def f_X12_put (p0 : Nat) (p1 : Int32) (p2 : Int32) (p3 : Int32) (p4 : Int32) (p5 : Int32) (h : y_H) : Option (Unit × y_H) :=
  if y_K h p0 = 13 then
  if y_K h (y_P h p0 7) = 100 ∧ y_ix p1 (y_N h (y_P h p0 7)) = true then
  y_bd (s_I h (y_P h p0 7) (Int32.toNatClampNeg p1) p2) (fun h1 =>
  if y_K h1 p0 = 13 then
  if y_K h1 (y_P h1 p0 8) = 100 ∧ y_ix p1 (y_N h1 (y_P h1 p0 8)) = true then
  y_bd (s_I h1 (y_P h1 p0 8) (Int32.toNatClampNeg p1) p3) (fun h4 =>
  if y_K h4 p0 = 13 then
  if y_K h4 (y_P h4 p0 9) = 100 ∧ y_ix p1 (y_N h4 (y_P h4 p0 9)) = true then
  y_bd (s_I h4 (y_P h4 p0 9) (Int32.toNatClampNeg p1) p4) (fun h7 =>
  if y_K h7 p0 = 13 then
  if y_K h7 (y_P h7 p0 10) = 100 ∧ y_ix p1 (y_N h7 (y_P h7 p0 10)) = true then
  y_bd (s_I h7 (y_P h7 p0 10) (Int32.toNatClampNeg p1) p5) (fun h10 =>
  some ((), h10))
  else none
  else none)
  else none
  else none)
  else none
  else none)
  else none
  else none
abbrev rm_X12_put : Room := { frames := 0, cells := 0, slots := 0, locals := 0 }
set_option maxRecDepth 100000 in
set_option maxHeartbeats 4000000 in
theorem k_X12_put {l : Launch} {G : y_G} {p0 : Nat} {p1 : Int32} {p2 : Int32} {p3 : Int32} {p4 : Int32} {p5 : Int32} {h hz : y_H} {rz : Unit} (hf : f_X12_put p0 p1 p2 p3 p4 p5 h = some (rz, hz)) : y_S l G M_X12_put rm_X12_put [y_p p0, .int p1, .int p2, .int p3, .int p4, .int p5] h none hz := by
  refine y_start (lv := [(0, y_p p0), (1, .int p1), (2, .int p2), (3, .int p3), (4, .int p4), (5, .int p5)]) (by decide) (by simp [lg_sl, y_p_cat, y_ci, y_cj, M_X12_put]) (by simp [lv_args, y_p_cat, y_ci, y_cj]) (fun z ad0 => ?_)
  unfold f_X12_put at hf
  refine y_aload_n (x := p0) (pc2 := 1) rfl dX12_put_0 rfl ?_
  obtain ⟨g16, hf⟩ := y_g hf
  refine y_getP (pc2 := 4) rfl dX12_put_1 F_BoxYardModel_29 (by decide) rfl g16 ?_
  refine y_iload_n (pc2 := 5) rfl dX12_put_4 rfl ?_
  refine y_iload_n (pc2 := 6) rfl dX12_put_5 rfl ?_
  obtain ⟨g3, hf⟩ := y_g hf
  obtain ⟨h1, e2, hf⟩ := y_bdE hf
  refine y_iast (x := p2) (pc2 := 7) rfl dX12_put_6 g3.1 (y_ix_in g3.2) e2 ?_
  refine y_aload_n (x := p0) (pc2 := 8) rfl dX12_put_7 rfl ?_
  obtain ⟨g15, hf⟩ := y_g hf
  refine y_getP (pc2 := 11) rfl dX12_put_8 F_BoxYardModel_32 (by decide) rfl g15 ?_
  refine y_iload_n (pc2 := 12) rfl dX12_put_11 rfl ?_
  refine y_iload_n (pc2 := 13) rfl dX12_put_12 rfl ?_
  obtain ⟨g6, hf⟩ := y_g hf
  obtain ⟨h4, e5, hf⟩ := y_bdE hf
  refine y_iast (x := p3) (pc2 := 14) rfl dX12_put_13 g6.1 (y_ix_in g6.2) e5 ?_
  refine y_aload_n (x := p0) (pc2 := 15) rfl dX12_put_14 rfl ?_
  obtain ⟨g14, hf⟩ := y_g hf
  refine y_getP (pc2 := 18) rfl dX12_put_15 F_BoxYardModel_35 (by decide) rfl g14 ?_
  refine y_iload_n (pc2 := 19) rfl dX12_put_18 rfl ?_
  refine y_iload (pc2 := 21) rfl dX12_put_19 rfl ?_
  obtain ⟨g9, hf⟩ := y_g hf
  obtain ⟨h7, e8, hf⟩ := y_bdE hf
  refine y_iast (x := p4) (pc2 := 22) rfl dX12_put_21 g9.1 (y_ix_in g9.2) e8 ?_
  refine y_aload_n (x := p0) (pc2 := 23) rfl dX12_put_22 rfl ?_
  obtain ⟨g13, hf⟩ := y_g hf
  refine y_getP (pc2 := 26) rfl dX12_put_23 F_BoxYardModel_38 (by decide) rfl g13 ?_
  refine y_iload_n (pc2 := 27) rfl dX12_put_26 rfl ?_
  refine y_iload (pc2 := 29) rfl dX12_put_27 rfl ?_
  obtain ⟨g12, hf⟩ := y_g hf
  obtain ⟨h10, e11, hf⟩ := y_bdE hf
  refine y_iast (x := p5) (pc2 := 30) rfl dX12_put_29 g12.1 (y_ix_in g12.2) e11 ?_
  exact y_vretF hf dX12_put_30 rfl (by decide) (by decide)
