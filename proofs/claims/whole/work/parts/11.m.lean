theorem dX8_linkFrom_0 : decode cX8_linkFrom 0 = .ok (.aload_n 0, 1) := by decide +kernel
theorem dX8_linkFrom_1 : decode cX8_linkFrom 1 = .ok (.iload_n 1, 1) := by decide +kernel
theorem dX8_linkFrom_2 : decode cX8_linkFrom 2 = .ok (.iload_n 2, 1) := by decide +kernel
theorem dX8_linkFrom_3 : decode cX8_linkFrom 3 = .ok (.invokevirtual 240, 3) := by decide +kernel
theorem dX8_linkFrom_6 : decode cX8_linkFrom 6 = .ok (.ifCond .ne 5, 3) := by decide +kernel
theorem dX8_linkFrom_9 : decode cX8_linkFrom 9 = .ok (.iconst 2, 1) := by decide +kernel
theorem dX8_linkFrom_10 : decode cX8_linkFrom 10 = .ok (.ireturn, 1) := by decide +kernel
theorem dX8_linkFrom_11 : decode cX8_linkFrom 11 = .ok (.aload_n 0, 1) := by decide +kernel
theorem dX8_linkFrom_12 : decode cX8_linkFrom 12 = .ok (.getfield 36, 3) := by decide +kernel
theorem dX8_linkFrom_15 : decode cX8_linkFrom 15 = .ok (.iload_n 1, 1) := by decide +kernel
theorem dX8_linkFrom_16 : decode cX8_linkFrom 16 = .ok (.aaload, 1) := by decide +kernel
theorem dX8_linkFrom_17 : decode cX8_linkFrom 17 = .ok (.iload_n 2, 1) := by decide +kernel
theorem dX8_linkFrom_18 : decode cX8_linkFrom 18 = .ok (.iaload, 1) := by decide +kernel
theorem dX8_linkFrom_19 : decode cX8_linkFrom 19 = .ok (.istore_n 3, 1) := by decide +kernel
theorem dX8_linkFrom_20 : decode cX8_linkFrom 20 = .ok (.aload_n 0, 1) := by decide +kernel
theorem dX8_linkFrom_21 : decode cX8_linkFrom 21 = .ok (.iload_n 3, 1) := by decide +kernel
theorem dX8_linkFrom_22 : decode cX8_linkFrom 22 = .ok (.bipush (-9), 2) := by decide +kernel
theorem dX8_linkFrom_24 : decode cX8_linkFrom 24 = .ok (.if_icmp .ne 8, 3) := by decide +kernel
theorem dX8_linkFrom_27 : decode cX8_linkFrom 27 = .ok (.bipush (-9), 2) := by decide +kernel
theorem dX8_linkFrom_29 : decode cX8_linkFrom 29 = .ok (.goto 7, 3) := by decide +kernel
theorem dX8_linkFrom_32 : decode cX8_linkFrom 32 = .ok (.iload_n 1, 1) := by decide +kernel
theorem dX8_linkFrom_33 : decode cX8_linkFrom 33 = .ok (.invokestatic 237, 3) := by decide +kernel
theorem dX8_linkFrom_36 : decode cX8_linkFrom 36 = .ok (.iload_n 3, 1) := by decide +kernel
theorem dX8_linkFrom_37 : decode cX8_linkFrom 37 = .ok (.invokevirtual 77, 3) := by decide +kernel
theorem dX8_linkFrom_40 : decode cX8_linkFrom 40 = .ok (.iconst 0, 1) := by decide +kernel
theorem dX8_linkFrom_41 : decode cX8_linkFrom 41 = .ok (.ireturn, 1) := by decide +kernel
def M_X8_linkFrom : y_M := (yX8_linkFrom, cX8_linkFrom, 4, (Option.some Jvm.ClassFile.FieldType.int))
theorem n_X8_linkFrom : y_N0 M_X8_linkFrom 2 := ⟨(c_6 234 (by decide +kernel) rfl), (c_1 8 (by decide +kernel) rfl), ⟨by decide +kernel, by decide +kernel⟩, by decide +kernel⟩
set_option maxRecDepth 100000 in
def f_X8_linkFrom (p0 : Nat) (p1 : Int32) (p2 : Int32) (h : y_H) : Option (Int32 × y_H) :=
  if y_K h p0 = 9 then
  y_cl (f_X8_hasPlace p0 p1 p2 h) (fun r1 h2 =>
  if r1 = true then
    if y_K h2 p0 = 9 then
    if y_K h2 (y_P h2 p0 12) = 108 ∧ y_ix p1 (y_N h2 (y_P h2 p0 12)) = true then
    if y_K h2 (y_P h2 (y_P h2 p0 12) (Int32.toNatClampNeg p1)) = 100 ∧ y_ix p2 (y_N h2 (y_P h2 (y_P h2 p0 12) (Int32.toNatClampNeg p1))) = true then
    if (y_I h2 (y_P h2 (y_P h2 p0 12) (Int32.toNatClampNeg p1)) (Int32.toNatClampNeg p2)) = (-9 : Int32) then
      if y_K h2 p0 = 9 then
      y_cl (f_X8_link p0 (-9 : Int32) (y_I h2 (y_P h2 (y_P h2 p0 12) (Int32.toNatClampNeg p1)) (Int32.toNatClampNeg p2)) h2) (fun _ h10 =>
      some (0, h10))
      else none
    else
      y_cl (f_X8_kindOn p1 h2) (fun r4 h5 =>
      if y_K h5 p0 = 9 then
      y_cl (f_X8_link p0 r4 (y_I h2 (y_P h2 (y_P h2 p0 12) (Int32.toNatClampNeg p1)) (Int32.toNatClampNeg p2)) h5) (fun _ h7 =>
      some (0, h7))
      else none)
    else none
    else none
    else none
  else
    some (2, h2))
  else none
abbrev rm_X8_linkFrom : Room := { frames := 2, cells := 0, slots := 0, locals := 44 }
set_option maxRecDepth 100000 in
set_option maxHeartbeats 4000000 in
theorem k_X8_linkFrom {l : Launch} {G : y_G} {p0 : Nat} {p1 : Int32} {p2 : Int32} {h hz : y_H} {rz : Int32} (hf : f_X8_linkFrom p0 p1 p2 h = some (rz, hz)) : y_S l G M_X8_linkFrom rm_X8_linkFrom [y_p p0, .int p1, .int p2] h (some (.int rz)) hz := by
  refine y_start (lv := [(0, y_p p0), (1, .int p1), (2, .int p2)]) (by decide) (by simp [lg_sl, y_p_cat, y_ci, y_cj, M_X8_linkFrom]) (by simp [lv_args, y_p_cat, y_ci, y_cj]) (fun z ad0 => ?_)
  unfold f_X8_linkFrom at hf
  refine y_aload_n (x := p0) (pc2 := 1) rfl dX8_linkFrom_0 rfl ?_
  refine y_iload_n (pc2 := 2) rfl dX8_linkFrom_1 rfl ?_
  refine y_iload_n (pc2 := 3) rfl dX8_linkFrom_2 rfl ?_
  obtain ⟨g18, hf⟩ := y_g hf
  obtain ⟨r1, h2, c3, hf⟩ := y_clE hf
  refine y_callV (As := [.int p1, .int p2]) (rm := rm_X8_hasPlace) (cells := 0) (slots := 0) (pc2 := 6) rfl dX8_linkFrom_3 n_X8_hasPlace l_BoxYard_Tasks_240 i_X8_hasPlace e_X8_hasPlace (ci := 8) rfl rfl (by decide) g18 rfl rfl (by decide) (by decide) (by decide) (k_X8_hasPlace c3) ?_
  refine y_ifz_ne (tgt := 11) (pc2 := 9) rfl dX8_linkFrom_6 (by decide) (fun c17 => ?_) (fun c17 => ?_)
  · replace hf := y_it c17 hf
    refine y_aload_n (x := p0) (pc2 := 12) rfl dX8_linkFrom_11 rfl ?_
    obtain ⟨g16, hf⟩ := y_g hf
    refine y_getP (pc2 := 15) rfl dX8_linkFrom_12 F_BoxYard_Tasks_36 (by decide) rfl g16 ?_
    refine y_iload_n (pc2 := 16) rfl dX8_linkFrom_15 rfl ?_
    obtain ⟨g15, hf⟩ := y_g hf
    refine y_aald (t := 8) (pc2 := 17) rfl dX8_linkFrom_16 (by decide) rfl g15.1 (y_ix_in g15.2) ?_
    refine y_iload_n (pc2 := 18) rfl dX8_linkFrom_17 rfl ?_
    obtain ⟨g14, hf⟩ := y_g hf
    refine y_iald (pc2 := 19) rfl dX8_linkFrom_18 g14.1 (y_ix_in g14.2) ?_
    refine y_istore_n (lv' := [(3, .int (y_I h2 (y_P h2 (y_P h2 p0 12) (Int32.toNatClampNeg p1)) (Int32.toNatClampNeg p2))), (0, y_p p0), (1, .int p1), (2, .int p2)]) (pc2 := 20) rfl dX8_linkFrom_19 (by decide) rfl ?_
    refine y_aload_n (x := p0) (pc2 := 21) rfl dX8_linkFrom_20 rfl ?_
    refine y_iload_n (pc2 := 22) rfl dX8_linkFrom_21 rfl ?_
    refine y_bipush (v := (-9 : Int32)) (pc2 := 24) rfl dX8_linkFrom_22 (by decide) ?_
    refine y_icmp_ne (tgt := 32) (pc2 := 27) rfl dX8_linkFrom_24 (by decide) (fun c13 => ?_) (fun c13 => ?_)
    · replace hf := y_ie c13 hf
      refine y_iload_n (pc2 := 33) rfl dX8_linkFrom_32 rfl ?_
      obtain ⟨r4, h5, c6, hf⟩ := y_clE hf
      refine y_callS (As := [.int p1]) (rm := rm_X8_kindOn) (cells := 0) (slots := 0) (pc2 := 36) rfl dX8_linkFrom_33 n_X8_kindOn l_BoxYard_Tasks_237 t_X8_kindOn rfl rfl (by decide) (by simp [y_ci, y_cj, y_p_cat]) (by decide) (k_X8_kindOn c6) ?_
      refine y_iload_n (pc2 := 37) rfl dX8_linkFrom_36 rfl ?_
      obtain ⟨g9, hf⟩ := y_g hf
      obtain ⟨r_, h7, c8, hf⟩ := y_clE hf
      refine y_callV (As := [.int r4, .int (y_I h2 (y_P h2 (y_P h2 p0 12) (Int32.toNatClampNeg p1)) (Int32.toNatClampNeg p2))]) (rm := rm_X8_link) (cells := 0) (slots := 0) (pc2 := 40) rfl dX8_linkFrom_37 n_X8_link l_BoxYard_Tasks_77 i_X8_link e_X8_link (ci := 8) rfl rfl (by decide) g9 rfl rfl (by decide) (by decide) (by decide) (k_X8_link c8) ?_
      refine y_iconst (v := 0) (pc2 := 41) rfl dX8_linkFrom_40 (by decide) ?_
      exact y_iretF hf dX8_linkFrom_41 rfl (by decide) (by decide)
    · replace hf := y_it c13 hf
      refine y_bipush (v := (-9 : Int32)) (pc2 := 29) rfl dX8_linkFrom_27 (by decide) ?_
      refine y_goto (tgt := 36) dX8_linkFrom_29 (by decide) ?_
      refine y_iload_n (pc2 := 37) rfl dX8_linkFrom_36 rfl ?_
      obtain ⟨g12, hf⟩ := y_g hf
      obtain ⟨r_, h10, c11, hf⟩ := y_clE hf
      refine y_callV (As := [.int (-9 : Int32), .int (y_I h2 (y_P h2 (y_P h2 p0 12) (Int32.toNatClampNeg p1)) (Int32.toNatClampNeg p2))]) (rm := rm_X8_link) (cells := 0) (slots := 0) (pc2 := 40) rfl dX8_linkFrom_37 n_X8_link l_BoxYard_Tasks_77 i_X8_link e_X8_link (ci := 8) rfl rfl (by decide) g12 rfl rfl (by decide) (by decide) (by decide) (k_X8_link c11) ?_
      refine y_iconst (v := 0) (pc2 := 41) rfl dX8_linkFrom_40 (by decide) ?_
      exact y_iretF hf dX8_linkFrom_41 rfl (by decide) (by decide)
  · replace hf := y_ie c17 hf
    refine y_iconst (v := 2) (pc2 := 10) rfl dX8_linkFrom_9 (by decide) ?_
    exact y_iretF hf dX8_linkFrom_10 rfl (by decide) (by decide)
theorem dX8_lookAt_0 : decode cX8_lookAt 0 = .ok (.aload_n 0, 1) := by decide +kernel
theorem dX8_lookAt_1 : decode cX8_lookAt 1 = .ok (.getfield 24, 3) := by decide +kernel
theorem dX8_lookAt_4 : decode cX8_lookAt 4 = .ok (.bipush (-9), 2) := by decide +kernel
theorem dX8_lookAt_6 : decode cX8_lookAt 6 = .ok (.if_icmp .eq 13, 3) := by decide +kernel
theorem dX8_lookAt_9 : decode cX8_lookAt 9 = .ok (.iload_n 1, 1) := by decide +kernel
theorem dX8_lookAt_10 : decode cX8_lookAt 10 = .ok (.iconst 0, 1) := by decide +kernel
theorem dX8_lookAt_11 : decode cX8_lookAt 11 = .ok (.bipush 7, 2) := by decide +kernel
theorem dX8_lookAt_13 : decode cX8_lookAt 13 = .ok (.invokestatic 66, 3) := by decide +kernel
theorem dX8_lookAt_16 : decode cX8_lookAt 16 = .ok (.ifCond .ne 5, 3) := by decide +kernel
theorem dX8_lookAt_19 : decode cX8_lookAt 19 = .ok (.iconst 0, 1) := by decide +kernel
theorem dX8_lookAt_20 : decode cX8_lookAt 20 = .ok (.ireturn, 1) := by decide +kernel
theorem dX8_lookAt_21 : decode cX8_lookAt 21 = .ok (.iload_n 1, 1) := by decide +kernel
theorem dX8_lookAt_22 : decode cX8_lookAt 22 = .ok (.bipush 7, 2) := by decide +kernel
theorem dX8_lookAt_24 : decode cX8_lookAt 24 = .ok (.if_icmp .ne 9, 3) := by decide +kernel
theorem dX8_lookAt_27 : decode cX8_lookAt 27 = .ok (.aload_n 0, 1) := by decide +kernel
theorem dX8_lookAt_28 : decode cX8_lookAt 28 = .ok (.iconst 1, 1) := by decide +kernel
theorem dX8_lookAt_29 : decode cX8_lookAt 29 = .ok (.invokevirtual 169, 3) := by decide +kernel
theorem dX8_lookAt_32 : decode cX8_lookAt 32 = .ok (.ireturn, 1) := by decide +kernel
theorem dX8_lookAt_33 : decode cX8_lookAt 33 = .ok (.aload_n 0, 1) := by decide +kernel
theorem dX8_lookAt_34 : decode cX8_lookAt 34 = .ok (.iconst 0, 1) := by decide +kernel
theorem dX8_lookAt_35 : decode cX8_lookAt 35 = .ok (.invokevirtual 169, 3) := by decide +kernel
theorem dX8_lookAt_38 : decode cX8_lookAt 38 = .ok (.istore_n 2, 1) := by decide +kernel
theorem dX8_lookAt_39 : decode cX8_lookAt 39 = .ok (.aload_n 0, 1) := by decide +kernel
theorem dX8_lookAt_40 : decode cX8_lookAt 40 = .ok (.getfield 42, 3) := by decide +kernel
theorem dX8_lookAt_43 : decode cX8_lookAt 43 = .ok (.aload_n 0, 1) := by decide +kernel
theorem dX8_lookAt_44 : decode cX8_lookAt 44 = .ok (.getfield 28, 3) := by decide +kernel
theorem dX8_lookAt_47 : decode cX8_lookAt 47 = .ok (.invokevirtual 103, 3) := by decide +kernel
theorem dX8_lookAt_50 : decode cX8_lookAt 50 = .ok (.astore_n 3, 1) := by decide +kernel
theorem dX8_lookAt_51 : decode cX8_lookAt 51 = .ok (.iload_n 2, 1) := by decide +kernel
theorem dX8_lookAt_52 : decode cX8_lookAt 52 = .ok (.ifCond .ne 13, 3) := by decide +kernel
theorem dX8_lookAt_55 : decode cX8_lookAt 55 = .ok (.iload_n 1, 1) := by decide +kernel
theorem dX8_lookAt_56 : decode cX8_lookAt 56 = .ok (.bipush 6, 2) := by decide +kernel
theorem dX8_lookAt_58 : decode cX8_lookAt 58 = .ok (.if_icmp .eq 7, 3) := by decide +kernel
theorem dX8_lookAt_61 : decode cX8_lookAt 61 = .ok (.aload_n 3, 1) := by decide +kernel
theorem dX8_lookAt_62 : decode cX8_lookAt 62 = .ok (.ifnonnull 5, 3) := by decide +kernel
theorem dX8_lookAt_65 : decode cX8_lookAt 65 = .ok (.iload_n 2, 1) := by decide +kernel
theorem dX8_lookAt_66 : decode cX8_lookAt 66 = .ok (.ireturn, 1) := by decide +kernel
theorem dX8_lookAt_67 : decode cX8_lookAt 67 = .ok (.aload_n 3, 1) := by decide +kernel
theorem dX8_lookAt_68 : decode cX8_lookAt 68 = .ok (.iload_n 1, 1) := by decide +kernel
theorem dX8_lookAt_69 : decode cX8_lookAt 69 = .ok (.invokevirtual 202, 3) := by decide +kernel
theorem dX8_lookAt_72 : decode cX8_lookAt 72 = .ok (.ifCond .eq 7, 3) := by decide +kernel
theorem dX8_lookAt_75 : decode cX8_lookAt 75 = .ok (.iconst 0, 1) := by decide +kernel
theorem dX8_lookAt_76 : decode cX8_lookAt 76 = .ok (.goto 4, 3) := by decide +kernel
theorem dX8_lookAt_79 : decode cX8_lookAt 79 = .ok (.iconst 5, 1) := by decide +kernel
theorem dX8_lookAt_80 : decode cX8_lookAt 80 = .ok (.ireturn, 1) := by decide +kernel
def M_X8_lookAt : y_M := (yX8_lookAt, cX8_lookAt, 4, (Option.some Jvm.ClassFile.FieldType.int))
theorem n_X8_lookAt : y_N0 M_X8_lookAt 1 := ⟨(c_7 2 (by decide +kernel) rfl), (c_1 8 (by decide +kernel) rfl), ⟨by decide +kernel, by decide +kernel⟩, by decide +kernel⟩
set_option maxRecDepth 100000 in
def f_X8_lookAt (p0 : Nat) (p1 : Int32) (h : y_H) : Option (Int32 × y_H) :=
  if y_K h p0 = 9 then
  y_jn (fun (h1 : y_H) => (
      some (0, h1) : Option (Int32 × y_H))) (fun j19 =>
  if (y_I h p0 7) = (-9 : Int32) then
    j19 h
  else
    y_cl (f_X11_isWithin p1 0 7 h) (fun r2 h3 =>
    if r2 = true then
      if p1 = 7 then
        if y_K h3 p0 = 9 then
        y_cl (f_X8_asKind p0 1 h3) (fun r24 h25 =>
        some (r24, h25))
        else none
      else
        if y_K h3 p0 = 9 then
        y_cl (f_X8_asKind p0 0 h3) (fun r5 h6 =>
        if y_K h6 p0 = 9 then
        if y_K h6 p0 = 9 then
        if y_K h6 (y_P h6 p0 0) = 11 then
        y_cl (f_X10_boxAt (y_P h6 p0 0) (y_I h6 p0 8) h6) (fun r8 h9 =>
        y_jn (fun (v2_65 : Int32) (h11 : y_H) => (
            some (v2_65, h11) : Option (Int32 × y_H))) (fun j65 =>
        if r5 = 0 then
          if p1 = 6 then
            j65 r5 h9
          else
            if r8 = 0 then
              j65 r5 h9
            else
              if y_K h9 r8 = 3 then
              y_cl (f_X2_isOf r8 p1 h9) (fun r12 h13 =>
              if r12 = true then
                some (0, h13)
              else
                some (5, h13))
              else none
        else
          j65 r5 h9))
        else none
        else none
        else none)
        else none
    else
      j19 h3))
  else none
abbrev rm_X8_lookAt : Room := { frames := 2, cells := 0, slots := 0, locals := 43 }
set_option maxRecDepth 100000 in
set_option maxHeartbeats 4000000 in
theorem k_X8_lookAt {l : Launch} {G : y_G} {p0 : Nat} {p1 : Int32} {h hz : y_H} {rz : Int32} (hf : f_X8_lookAt p0 p1 h = some (rz, hz)) : y_S l G M_X8_lookAt rm_X8_lookAt [y_p p0, .int p1] h (some (.int rz)) hz := by
  refine y_start (lv := [(0, y_p p0), (1, .int p1)]) (by decide) (by simp [lg_sl, y_p_cat, y_ci, y_cj, M_X8_lookAt]) (by simp [lv_args, y_p_cat, y_ci, y_cj]) (fun z ad0 => ?_)
  unfold f_X8_lookAt at hf
  refine y_aload_n (x := p0) (pc2 := 1) rfl dX8_lookAt_0 rfl ?_
  obtain ⟨g31, hf⟩ := y_g hf
  refine y_getI (pc2 := 4) rfl dX8_lookAt_1 F_BoxYard_Tasks_24 (by decide) rfl g31 ?_
  refine y_bipush (v := (-9 : Int32)) (pc2 := 6) rfl dX8_lookAt_4 (by decide) ?_
  refine y_jnE hf (fun j => ∀ (h1 : y_H), j h1 = some (rz, hz) → y_V l G z rm_X8_lookAt M_X8_lookAt ad0 h (some (.int rz)) hz 19 [] [] h1 0 0) (fun h1 hf => ?_) (fun j19 hj19 hf => ?_)
  · refine y_iconst (v := 0) (pc2 := 20) rfl dX8_lookAt_19 (by decide) ?_
    exact y_iretF hf dX8_lookAt_20 rfl (by decide) (by decide)
  · refine y_icmp_eq (tgt := 19) (pc2 := 9) rfl dX8_lookAt_6 (by decide) (fun c30 => ?_) (fun c30 => ?_)
    · replace hf := y_it c30 hf
      exact y_pk [] rfl (hj19 _ hf)
    · replace hf := y_ie c30 hf
      refine y_iload_n (pc2 := 10) rfl dX8_lookAt_9 rfl ?_
      refine y_iconst (v := 0) (pc2 := 11) rfl dX8_lookAt_10 (by decide) ?_
      refine y_bipush (v := 7) (pc2 := 13) rfl dX8_lookAt_11 (by decide) ?_
      obtain ⟨r2, h3, c4, hf⟩ := y_clE hf
      refine y_callS (As := [.int p1, .int 0, .int 7]) (rm := rm_X11_isWithin) (cells := 0) (slots := 0) (pc2 := 16) rfl dX8_lookAt_13 n_X11_isWithin l_BoxYard_Tasks_66 t_X11_isWithin rfl rfl (by decide) (by decide) (by decide) (k_X11_isWithin c4) ?_
      refine y_ifz_ne (tgt := 21) (pc2 := 19) rfl dX8_lookAt_16 (by decide) (fun c29 => ?_) (fun c29 => ?_)
      · replace hf := y_it c29 hf
        refine y_iload_n (pc2 := 22) rfl dX8_lookAt_21 rfl ?_
        refine y_bipush (v := 7) (pc2 := 24) rfl dX8_lookAt_22 (by decide) ?_
        refine y_icmp_ne (tgt := 33) (pc2 := 27) rfl dX8_lookAt_24 (by decide) (fun c28 => ?_) (fun c28 => ?_)
        · replace hf := y_ie c28 hf
          refine y_aload_n (x := p0) (pc2 := 34) rfl dX8_lookAt_33 rfl ?_
          refine y_iconst (v := 0) (pc2 := 35) rfl dX8_lookAt_34 (by decide) ?_
          obtain ⟨g23, hf⟩ := y_g hf
          obtain ⟨r5, h6, c7, hf⟩ := y_clE hf
          refine y_callV (As := [.int 0]) (rm := rm_X8_asKind) (cells := 0) (slots := 0) (pc2 := 38) rfl dX8_lookAt_35 n_X8_asKind l_BoxYard_Tasks_169 i_X8_asKind e_X8_asKind (ci := 8) rfl rfl (by decide) g23 rfl rfl (by decide) (by decide) (by decide) (k_X8_asKind c7) ?_
          refine y_istore_n (lv' := [(2, .int r5), (0, y_p p0), (1, .int p1)]) (pc2 := 39) rfl dX8_lookAt_38 (by decide) rfl ?_
          refine y_aload_n (x := p0) (pc2 := 40) rfl dX8_lookAt_39 rfl ?_
          obtain ⟨g22, hf⟩ := y_g hf
          refine y_getP (pc2 := 43) rfl dX8_lookAt_40 F_BoxYard_Tasks_42 (by decide) rfl g22 ?_
          refine y_aload_n (x := p0) (pc2 := 44) rfl dX8_lookAt_43 rfl ?_
          obtain ⟨g21, hf⟩ := y_g hf
          refine y_getI (pc2 := 47) rfl dX8_lookAt_44 F_BoxYard_Tasks_28 (by decide) rfl g21 ?_
          obtain ⟨g20, hf⟩ := y_g hf
          obtain ⟨r8, h9, c10, hf⟩ := y_clE hf
          refine y_callV (As := [.int (y_I h6 p0 8)]) (rm := rm_X10_boxAt) (cells := 0) (slots := 0) (pc2 := 50) rfl dX8_lookAt_47 n_X10_boxAt l_BoxYard_Tasks_103 i_X10_boxAt e_X10_boxAt (ci := 10) rfl rfl (by decide) g20 rfl rfl (by decide) (by decide) (by decide) (k_X10_boxAt c10) ?_
          refine y_astore_n (lv' := [(3, y_p r8), (2, .int r5), (0, y_p p0), (1, .int p1)]) (pc2 := 51) rfl dX8_lookAt_50 (by decide) rfl ?_
          refine y_iload_n (pc2 := 52) rfl dX8_lookAt_51 rfl ?_
          refine y_jnE hf (fun j => ∀ (v2_65 : Int32) (h11 : y_H), j v2_65 h11 = some (rz, hz) → y_V l G z rm_X8_lookAt M_X8_lookAt ad0 h (some (.int rz)) hz 65 [(2, .int v2_65)] [] h11 0 0) (fun v2_65 h11 hf => ?_) (fun j65 hj65 hf => ?_)
          · refine y_iload_n (pc2 := 66) rfl dX8_lookAt_65 rfl ?_
            exact y_iretF hf dX8_lookAt_66 rfl (by decide) (by decide)
          · refine y_if_ne (tgt := 65) (pc2 := 55) rfl dX8_lookAt_52 (by decide) (fun c19 => ?_) (fun c19 => ?_)
            · replace hf := y_ie c19 hf
              exact y_pk [1] rfl (hj65 _ _ hf)
            · replace hf := y_it c19 hf
              refine y_iload_n (pc2 := 56) rfl dX8_lookAt_55 rfl ?_
              refine y_bipush (v := 6) (pc2 := 58) rfl dX8_lookAt_56 (by decide) ?_
              refine y_icmp_eq (tgt := 65) (pc2 := 61) rfl dX8_lookAt_58 (by decide) (fun c18 => ?_) (fun c18 => ?_)
              · replace hf := y_it c18 hf
                exact y_pk [1] rfl (hj65 _ _ hf)
              · replace hf := y_ie c18 hf
                refine y_aload_n (x := r8) (pc2 := 62) rfl dX8_lookAt_61 rfl ?_
                refine y_ifnonnull (tgt := 67) (pc2 := 65) rfl dX8_lookAt_62 (by decide) (fun c17 => ?_) (fun c17 => ?_)
                · replace hf := y_ie c17 hf
                  refine y_aload_n (x := r8) (pc2 := 68) rfl dX8_lookAt_67 rfl ?_
                  refine y_iload_n (pc2 := 69) rfl dX8_lookAt_68 rfl ?_
                  obtain ⟨g16, hf⟩ := y_g hf
                  obtain ⟨r12, h13, c14, hf⟩ := y_clE hf
                  refine y_callV (As := [.int p1]) (rm := rm_X2_isOf) (cells := 0) (slots := 0) (pc2 := 72) rfl dX8_lookAt_69 n_X2_isOf l_BoxYard_Tasks_202 i_X2_isOf e_X2_isOf (ci := 2) rfl rfl (by decide) g16 rfl rfl (by decide) (by decide) (by decide) (k_X2_isOf c14) ?_
                  refine y_ifz_eq (tgt := 79) (pc2 := 75) rfl dX8_lookAt_72 (by decide) (fun c15 => ?_) (fun c15 => ?_)
                  · replace hf := y_ie c15 hf
                    refine y_iconst (v := 5) (pc2 := 80) rfl dX8_lookAt_79 (by decide) ?_
                    exact y_iretF hf dX8_lookAt_80 rfl (by decide) (by decide)
                  · replace hf := y_it c15 hf
                    refine y_iconst (v := 0) (pc2 := 76) rfl dX8_lookAt_75 (by decide) ?_
                    refine y_goto (tgt := 80) dX8_lookAt_76 (by decide) ?_
                    exact y_iretF hf dX8_lookAt_80 rfl (by decide) (by decide)
                · replace hf := y_it c17 hf
                  exact y_pk [1] rfl (hj65 _ _ hf)
        · replace hf := y_it c28 hf
          refine y_aload_n (x := p0) (pc2 := 28) rfl dX8_lookAt_27 rfl ?_
          refine y_iconst (v := 1) (pc2 := 29) rfl dX8_lookAt_28 (by decide) ?_
          obtain ⟨g27, hf⟩ := y_g hf
          obtain ⟨r24, h25, c26, hf⟩ := y_clE hf
          refine y_callV (As := [.int 1]) (rm := rm_X8_asKind) (cells := 0) (slots := 0) (pc2 := 32) rfl dX8_lookAt_29 n_X8_asKind l_BoxYard_Tasks_169 i_X8_asKind e_X8_asKind (ci := 8) rfl rfl (by decide) g27 rfl rfl (by decide) (by decide) (by decide) (k_X8_asKind c26) ?_
          exact y_iretF hf dX8_lookAt_32 rfl (by decide) (by decide)
      · replace hf := y_ie c29 hf
        exact y_pk [] rfl (hj19 _ hf)
theorem dX9_begin_0 : decode cX9_begin 0 = .ok (.aload_n 0, 1) := by decide +kernel
theorem dX9_begin_1 : decode cX9_begin 1 = .ok (.iconst 0, 1) := by decide +kernel
theorem dX9_begin_2 : decode cX9_begin 2 = .ok (.putfield 15, 3) := by decide +kernel
theorem dX9_begin_5 : decode cX9_begin 5 = .ok (.return_, 1) := by decide +kernel
def M_X9_begin : y_M := (yX9_begin, cX9_begin, 1, (Option.none : Option Jvm.ClassFile.FieldType))
theorem n_X9_begin : y_N0 M_X9_begin 0 := ⟨(c_2 213 (by decide +kernel) rfl), (c_1 3 (by decide +kernel) rfl), ⟨by decide +kernel, by decide +kernel⟩, by decide +kernel⟩
set_option maxRecDepth 100000 in
def f_X9_begin (p0 : Nat) (h : y_H) : Option (Unit × y_H) :=
  if y_K h p0 = 10 then
  y_bd (s_I h p0 1 0) (fun h1 =>
  some ((), h1))
  else none
abbrev rm_X9_begin : Room := { frames := 0, cells := 0, slots := 0, locals := 0 }
set_option maxRecDepth 100000 in
set_option maxHeartbeats 4000000 in
theorem k_X9_begin {l : Launch} {G : y_G} {p0 : Nat} {h hz : y_H} {rz : Unit} (hf : f_X9_begin p0 h = some (rz, hz)) : y_S l G M_X9_begin rm_X9_begin [y_p p0] h none hz := by
  refine y_start (lv := [(0, y_p p0)]) (by decide) (by simp [lg_sl, y_p_cat, y_ci, y_cj, M_X9_begin]) (by simp [lv_args, y_p_cat, y_ci, y_cj]) (fun z ad0 => ?_)
  unfold f_X9_begin at hf
  refine y_aload_n (x := p0) (pc2 := 1) rfl dX9_begin_0 rfl ?_
  refine y_iconst (v := 0) (pc2 := 2) rfl dX9_begin_1 (by decide) ?_
  obtain ⟨g3, hf⟩ := y_g hf
  obtain ⟨h1, e2, hf⟩ := y_bdE hf
  refine y_putI (x := 0) (pc2 := 5) rfl dX9_begin_2 Fp_BoxYard_Trace_15 (by decide) rfl g3 e2 ?_
  exact y_vretF hf dX9_begin_5 rfl (by decide) (by decide)
theorem dX9_markAt_0 : decode cX9_markAt 0 = .ok (.iload_n 1, 1) := by decide +kernel
theorem dX9_markAt_1 : decode cX9_markAt 1 = .ok (.iconst 0, 1) := by decide +kernel
theorem dX9_markAt_2 : decode cX9_markAt 2 = .ok (.aload_n 0, 1) := by decide +kernel
theorem dX9_markAt_3 : decode cX9_markAt 3 = .ok (.getfield 15, 3) := by decide +kernel
theorem dX9_markAt_6 : decode cX9_markAt 6 = .ok (.iconst 1, 1) := by decide +kernel
theorem dX9_markAt_7 : decode cX9_markAt 7 = .ok (.isub, 1) := by decide +kernel
theorem dX9_markAt_8 : decode cX9_markAt 8 = .ok (.invokestatic 19, 3) := by decide +kernel
theorem dX9_markAt_11 : decode cX9_markAt 11 = .ok (.ifCond .eq 12, 3) := by decide +kernel
theorem dX9_markAt_14 : decode cX9_markAt 14 = .ok (.aload_n 0, 1) := by decide +kernel
theorem dX9_markAt_15 : decode cX9_markAt 15 = .ok (.getfield 11, 3) := by decide +kernel
theorem dX9_markAt_18 : decode cX9_markAt 18 = .ok (.iload_n 1, 1) := by decide +kernel
theorem dX9_markAt_19 : decode cX9_markAt 19 = .ok (.iaload, 1) := by decide +kernel
theorem dX9_markAt_20 : decode cX9_markAt 20 = .ok (.goto 5, 3) := by decide +kernel
theorem dX9_markAt_23 : decode cX9_markAt 23 = .ok (.bipush (-9), 2) := by decide +kernel
theorem dX9_markAt_25 : decode cX9_markAt 25 = .ok (.ireturn, 1) := by decide +kernel
def M_X9_markAt : y_M := (yX9_markAt, cX9_markAt, 2, (Option.some Jvm.ClassFile.FieldType.int))
theorem n_X9_markAt : y_N0 M_X9_markAt 1 := ⟨(c_7 35 (by decide +kernel) rfl), (c_1 3 (by decide +kernel) rfl), ⟨by decide +kernel, by decide +kernel⟩, by decide +kernel⟩
theorem l_BoxYard_Trace_19 : y_lnk "BoxYard$Trace" 19 M_X11_isWithin := Or.inr ⟨"BoxYard", (c_7 36 (by decide +kernel) rfl)⟩
set_option maxRecDepth 100000 in
def f_X9_markAt (p0 : Nat) (p1 : Int32) (h : y_H) : Option (Int32 × y_H) :=
  if y_K h p0 = 10 then
  y_cl (f_X11_isWithin p1 0 ((y_I h p0 1) - 1) h) (fun r1 h2 =>
  if r1 = true then
    if y_K h2 p0 = 10 then
    if y_K h2 (y_P h2 p0 0) = 100 ∧ y_ix p1 (y_N h2 (y_P h2 p0 0)) = true then
    some (y_I h2 (y_P h2 p0 0) (Int32.toNatClampNeg p1), h2)
    else none
    else none
  else
    some ((-9 : Int32), h2))
  else none
abbrev rm_X9_markAt : Room := { frames := 1, cells := 0, slots := 0, locals := 22 }
set_option maxRecDepth 100000 in
set_option maxHeartbeats 4000000 in
theorem k_X9_markAt {l : Launch} {G : y_G} {p0 : Nat} {p1 : Int32} {h hz : y_H} {rz : Int32} (hf : f_X9_markAt p0 p1 h = some (rz, hz)) : y_S l G M_X9_markAt rm_X9_markAt [y_p p0, .int p1] h (some (.int rz)) hz := by
  refine y_start (lv := [(0, y_p p0), (1, .int p1)]) (by decide) (by simp [lg_sl, y_p_cat, y_ci, y_cj, M_X9_markAt]) (by simp [lv_args, y_p_cat, y_ci, y_cj]) (fun z ad0 => ?_)
  unfold f_X9_markAt at hf
  refine y_iload_n (pc2 := 1) rfl dX9_markAt_0 rfl ?_
  refine y_iconst (v := 0) (pc2 := 2) rfl dX9_markAt_1 (by decide) ?_
  refine y_aload_n (x := p0) (pc2 := 3) rfl dX9_markAt_2 rfl ?_
  obtain ⟨g7, hf⟩ := y_g hf
  refine y_getI (pc2 := 6) rfl dX9_markAt_3 F_BoxYard_Trace_15 (by decide) rfl g7 ?_
  refine y_iconst (v := 1) (pc2 := 7) rfl dX9_markAt_6 (by decide) ?_
  refine y_isub (pc2 := 8) rfl dX9_markAt_7 ?_
  obtain ⟨r1, h2, c3, hf⟩ := y_clE hf
  refine y_callS (As := [.int p1, .int 0, .int ((y_I h p0 1) - 1)]) (rm := rm_X11_isWithin) (cells := 0) (slots := 0) (pc2 := 11) rfl dX9_markAt_8 n_X11_isWithin l_BoxYard_Trace_19 t_X11_isWithin rfl rfl (by decide) (by decide) (by decide) (k_X11_isWithin c3) ?_
  refine y_ifz_eq (tgt := 23) (pc2 := 14) rfl dX9_markAt_11 (by decide) (fun c6 => ?_) (fun c6 => ?_)
  · replace hf := y_ie c6 hf
    refine y_bipush (v := (-9 : Int32)) (pc2 := 25) rfl dX9_markAt_23 (by decide) ?_
    exact y_iretF hf dX9_markAt_25 rfl (by decide) (by decide)
  · replace hf := y_it c6 hf
    refine y_aload_n (x := p0) (pc2 := 15) rfl dX9_markAt_14 rfl ?_
    obtain ⟨g5, hf⟩ := y_g hf
    refine y_getP (pc2 := 18) rfl dX9_markAt_15 F_BoxYard_Trace_11 (by decide) rfl g5 ?_
    refine y_iload_n (pc2 := 19) rfl dX9_markAt_18 rfl ?_
    obtain ⟨g4, hf⟩ := y_g hf
    refine y_iald (pc2 := 20) rfl dX9_markAt_19 g4.1 (y_ix_in g4.2) ?_
    refine y_goto (tgt := 25) dX9_markAt_20 (by decide) ?_
    exact y_iretF hf dX9_markAt_25 rfl (by decide) (by decide)
theorem dX10_begin_0 : decode cX10_begin 0 = .ok (.aload_n 0, 1) := by decide +kernel
theorem dX10_begin_1 : decode cX10_begin 1 = .ok (.iconst 0, 1) := by decide +kernel
theorem dX10_begin_2 : decode cX10_begin 2 = .ok (.putfield 58, 3) := by decide +kernel
theorem dX10_begin_5 : decode cX10_begin 5 = .ok (.aload_n 0, 1) := by decide +kernel
theorem dX10_begin_6 : decode cX10_begin 6 = .ok (.iconst 0, 1) := by decide +kernel
theorem dX10_begin_7 : decode cX10_begin 7 = .ok (.putfield 62, 3) := by decide +kernel
theorem dX10_begin_10 : decode cX10_begin 10 = .ok (.aload_n 0, 1) := by decide +kernel
theorem dX10_begin_11 : decode cX10_begin 11 = .ok (.iconst 0, 1) := by decide +kernel
theorem dX10_begin_12 : decode cX10_begin 12 = .ok (.putfield 65, 3) := by decide +kernel
theorem dX10_begin_15 : decode cX10_begin 15 = .ok (.aload_n 0, 1) := by decide +kernel
theorem dX10_begin_16 : decode cX10_begin 16 = .ok (.iconst 0, 1) := by decide +kernel
theorem dX10_begin_17 : decode cX10_begin 17 = .ok (.putfield 68, 3) := by decide +kernel
theorem dX10_begin_20 : decode cX10_begin 20 = .ok (.aload_n 0, 1) := by decide +kernel
theorem dX10_begin_21 : decode cX10_begin 21 = .ok (.iconst 0, 1) := by decide +kernel
theorem dX10_begin_22 : decode cX10_begin 22 = .ok (.putfield 71, 3) := by decide +kernel
theorem dX10_begin_25 : decode cX10_begin 25 = .ok (.aload_n 0, 1) := by decide +kernel
theorem dX10_begin_26 : decode cX10_begin 26 = .ok (.getfield 35, 3) := by decide +kernel
theorem dX10_begin_29 : decode cX10_begin 29 = .ok (.iconst 1, 1) := by decide +kernel
theorem dX10_begin_30 : decode cX10_begin 30 = .ok (.invokestatic 52, 3) := by decide +kernel
theorem dX10_begin_33 : decode cX10_begin 33 = .ok (.aload_n 0, 1) := by decide +kernel
theorem dX10_begin_34 : decode cX10_begin 34 = .ok (.getfield 39, 3) := by decide +kernel
theorem dX10_begin_37 : decode cX10_begin 37 = .ok (.iconst 0, 1) := by decide +kernel
theorem dX10_begin_38 : decode cX10_begin 38 = .ok (.invokestatic 52, 3) := by decide +kernel
theorem dX10_begin_41 : decode cX10_begin 41 = .ok (.aload_n 0, 1) := by decide +kernel
theorem dX10_begin_42 : decode cX10_begin 42 = .ok (.getfield 48, 3) := by decide +kernel
theorem dX10_begin_45 : decode cX10_begin 45 = .ok (.invokevirtual 74, 3) := by decide +kernel
theorem dX10_begin_48 : decode cX10_begin 48 = .ok (.iconst 0, 1) := by decide +kernel
theorem dX10_begin_49 : decode cX10_begin 49 = .ok (.istore_n 1, 1) := by decide +kernel
theorem dX10_begin_50 : decode cX10_begin 50 = .ok (.iload_n 1, 1) := by decide +kernel
theorem dX10_begin_51 : decode cX10_begin 51 = .ok (.bipush 10, 2) := by decide +kernel
theorem dX10_begin_53 : decode cX10_begin 53 = .ok (.if_icmp .ge 28, 3) := by decide +kernel
theorem dX10_begin_56 : decode cX10_begin 56 = .ok (.aload_n 0, 1) := by decide +kernel
theorem dX10_begin_57 : decode cX10_begin 57 = .ok (.getfield 19, 3) := by decide +kernel
theorem dX10_begin_60 : decode cX10_begin 60 = .ok (.iload_n 1, 1) := by decide +kernel
theorem dX10_begin_61 : decode cX10_begin 61 = .ok (.aaload, 1) := by decide +kernel
theorem dX10_begin_62 : decode cX10_begin 62 = .ok (.ifnull 13, 3) := by decide +kernel
theorem dX10_begin_65 : decode cX10_begin 65 = .ok (.aload_n 0, 1) := by decide +kernel
theorem dX10_begin_66 : decode cX10_begin 66 = .ok (.getfield 19, 3) := by decide +kernel
theorem dX10_begin_69 : decode cX10_begin 69 = .ok (.iload_n 1, 1) := by decide +kernel
theorem dX10_begin_70 : decode cX10_begin 70 = .ok (.aaload, 1) := by decide +kernel
theorem dX10_begin_71 : decode cX10_begin 71 = .ok (.iconst 0, 1) := by decide +kernel
theorem dX10_begin_72 : decode cX10_begin 72 = .ok (.putfield 77, 3) := by decide +kernel
theorem dX10_begin_75 : decode cX10_begin 75 = .ok (.iinc 1 1, 3) := by decide +kernel
theorem dX10_begin_78 : decode cX10_begin 78 = .ok (.goto (-28), 3) := by decide +kernel
theorem dX10_begin_81 : decode cX10_begin 81 = .ok (.return_, 1) := by decide +kernel
def M_X10_begin : y_M := (yX10_begin, cX10_begin, 2, (Option.none : Option Jvm.ClassFile.FieldType))
theorem n_X10_begin : y_N0 M_X10_begin 0 := ⟨(c_7 100 (by decide +kernel) rfl), (c_1 2 (by decide +kernel) rfl), ⟨by decide +kernel, by decide +kernel⟩, by decide +kernel⟩
theorem Fp_BoxYard_Yard_58 {nm : String} : y_Fp "BoxYard$Yard" nm 58 10 1 := ⟨_, _, _, rfl, by decide, Or.inl ⟨rfl, Or.inl (c_1 58 (by decide +kernel) rfl)⟩⟩
theorem Fp_BoxYard_Yard_62 {nm : String} : y_Fp "BoxYard$Yard" nm 62 10 4 := ⟨_, _, _, rfl, by decide, Or.inl ⟨rfl, Or.inl (c_1 63 (by decide +kernel) rfl)⟩⟩
theorem Fp_BoxYard_Yard_65 {nm : String} : y_Fp "BoxYard$Yard" nm 65 10 6 := ⟨_, _, _, rfl, by decide, Or.inl ⟨rfl, Or.inl (c_1 67 (by decide +kernel) rfl)⟩⟩
theorem Fp_BoxYard_Yard_68 {nm : String} : y_Fp "BoxYard$Yard" nm 68 10 9 := ⟨_, _, _, rfl, by decide, Or.inl ⟨rfl, Or.inl (c_1 73 (by decide +kernel) rfl)⟩⟩
theorem Fp_BoxYard_Yard_71 {nm : String} : y_Fp "BoxYard$Yard" nm 71 10 11 := ⟨_, _, _, rfl, by decide, Or.inl ⟨rfl, Or.inl (c_1 76 (by decide +kernel) rfl)⟩⟩
theorem F_BoxYard_Yard_35 : y_F "BoxYard$Yard" 35 10 7 := ⟨_, _, _, rfl, by decide, Or.inl (c_1 70 (by decide +kernel) rfl)⟩
theorem l_BoxYard_Yard_52 : y_lnk "BoxYard$Yard" 52 M_J7_fill_53178 := Or.inl (c_1 54 (by decide +kernel) rfl)
theorem F_BoxYard_Yard_39 : y_F "BoxYard$Yard" 39 10 8 := ⟨_, _, _, rfl, by decide, Or.inl (c_1 72 (by decide +kernel) rfl)⟩
theorem F_BoxYard_Yard_48 : y_F "BoxYard$Yard" 48 10 12 := ⟨_, _, _, rfl, by decide, Or.inl (c_1 77 (by decide +kernel) rfl)⟩
theorem l_BoxYard_Yard_74 : y_lnk "BoxYard$Yard" 74 M_X9_begin := Or.inl (c_7 101 (by decide +kernel) rfl)
theorem i_X9_begin : Cond.instanceMethod (M_X9_begin).1 ∈ y_tb := (c_2 211 (by decide +kernel) rfl)
theorem e_X9_begin : Cond.selects (M_X9_begin).1.cls (M_X9_begin).1 (M_X9_begin).1 ∈ y_tb := (c_2 212 (by decide +kernel) rfl)
theorem Fp_BoxYard_Yard_77 {nm : String} : y_Fp "BoxYard$Yard" nm 77 1 5 := ⟨_, _, _, rfl, by decide, Or.inl ⟨rfl, Or.inr ⟨"BoxYard", (c_3 76 (by decide +kernel) rfl)⟩⟩⟩
set_option maxRecDepth 100000 in
def f_X10_begin (p0 : Nat) (h : y_H) : Option (Unit × y_H) :=
  if y_K h p0 = 11 then
  y_bd (s_I h p0 1 0) (fun h1 =>
  if y_K h1 p0 = 11 then
  y_bd (s_I h1 p0 4 0) (fun h4 =>
  if y_K h4 p0 = 11 then
  y_bd (s_I h4 p0 6 0) (fun h7 =>
  if y_K h7 p0 = 11 then
  y_bd (s_I h7 p0 9 0) (fun h10 =>
  if y_K h10 p0 = 11 then
  y_bd (s_I h10 p0 11 0) (fun h13 =>
  if y_K h13 p0 = 11 then
  y_cl (f_J7_fill_53178 (y_P h13 p0 7) 1 h13) (fun _ h16 =>
  if y_K h16 p0 = 11 then
  y_cl (f_J7_fill_53178 (y_P h16 p0 8) 0 h16) (fun _ h18 =>
  if y_K h18 p0 = 11 then
  if y_K h18 (y_P h18 p0 12) = 10 then
  y_cl (f_X9_begin (y_P h18 p0 12) h18) (fun _ h20 =>
  y_jl (fun (_ : Nat) (_ : Int32) (_ : y_H) => (none : Option (Unit × y_H))) (fun j50 (v0_50 : Nat) (v1_50 : Int32) (h22 : y_H) =>
      if 10 ≤ v1_50 then
        some ((), h22)
      else
        if y_K h22 v0_50 = 11 then
        if y_K h22 (y_P h22 v0_50 2) = 104 ∧ y_ix v1_50 (y_N h22 (y_P h22 v0_50 2)) = true then
        y_jn (fun (v0_75 : Nat) (v1_75 : Int32) (h23 : y_H) => (
            j50 v0_75 (v1_75 + 1) h23 : Option (Unit × y_H))) (fun j75 =>
        if (y_P h22 (y_P h22 v0_50 2) (Int32.toNatClampNeg v1_50)) = 0 then
          j75 v0_50 v1_50 h22
        else
          if y_K h22 v0_50 = 11 then
          if y_K h22 (y_P h22 v0_50 2) = 104 ∧ y_ix v1_50 (y_N h22 (y_P h22 v0_50 2)) = true then
          if y_K h22 (y_P h22 (y_P h22 v0_50 2) (Int32.toNatClampNeg v1_50)) = 2 then
          y_bd (s_B h22 (y_P h22 (y_P h22 v0_50 2) (Int32.toNatClampNeg v1_50)) 5 false) (fun h24 =>
          j75 v0_50 v1_50 h24)
          else none
          else none
          else none)
        else none
        else none) (fun j50 =>
  j50 p0 0 h20))
  else none
  else none)
  else none)
  else none)
  else none)
  else none)
  else none)
  else none)
  else none
abbrev rm_X10_begin : Room := { frames := 1, cells := 0, slots := 0, locals := 23 }
set_option maxRecDepth 100000 in
set_option maxHeartbeats 4000000 in
theorem k_X10_begin {l : Launch} {G : y_G} {p0 : Nat} {h hz : y_H} {rz : Unit} (hf : f_X10_begin p0 h = some (rz, hz)) : y_S l G M_X10_begin rm_X10_begin [y_p p0] h none hz := by
  refine y_start (lv := [(0, y_p p0)]) (by decide) (by simp [lg_sl, y_p_cat, y_ci, y_cj, M_X10_begin]) (by simp [lv_args, y_p_cat, y_ci, y_cj]) (fun z ad0 => ?_)
  unfold f_X10_begin at hf
  refine y_aload_n (x := p0) (pc2 := 1) rfl dX10_begin_0 rfl ?_
  refine y_iconst (v := 0) (pc2 := 2) rfl dX10_begin_1 (by decide) ?_
  obtain ⟨g3, hf⟩ := y_g hf
  obtain ⟨h1, e2, hf⟩ := y_bdE hf
  refine y_putI (x := 0) (pc2 := 5) rfl dX10_begin_2 Fp_BoxYard_Yard_58 (by decide) rfl g3 e2 ?_
  refine y_aload_n (x := p0) (pc2 := 6) rfl dX10_begin_5 rfl ?_
  refine y_iconst (v := 0) (pc2 := 7) rfl dX10_begin_6 (by decide) ?_
  obtain ⟨g6, hf⟩ := y_g hf
  obtain ⟨h4, e5, hf⟩ := y_bdE hf
  refine y_putI (x := 0) (pc2 := 10) rfl dX10_begin_7 Fp_BoxYard_Yard_62 (by decide) rfl g6 e5 ?_
  refine y_aload_n (x := p0) (pc2 := 11) rfl dX10_begin_10 rfl ?_
  refine y_iconst (v := 0) (pc2 := 12) rfl dX10_begin_11 (by decide) ?_
  obtain ⟨g9, hf⟩ := y_g hf
  obtain ⟨h7, e8, hf⟩ := y_bdE hf
  refine y_putI (x := 0) (pc2 := 15) rfl dX10_begin_12 Fp_BoxYard_Yard_65 (by decide) rfl g9 e8 ?_
  refine y_aload_n (x := p0) (pc2 := 16) rfl dX10_begin_15 rfl ?_
  refine y_iconst (v := 0) (pc2 := 17) rfl dX10_begin_16 (by decide) ?_
  obtain ⟨g12, hf⟩ := y_g hf
  obtain ⟨h10, e11, hf⟩ := y_bdE hf
  refine y_putI (x := 0) (pc2 := 20) rfl dX10_begin_17 Fp_BoxYard_Yard_68 (by decide) rfl g12 e11 ?_
  refine y_aload_n (x := p0) (pc2 := 21) rfl dX10_begin_20 rfl ?_
  refine y_iconst (v := 0) (pc2 := 22) rfl dX10_begin_21 (by decide) ?_
  obtain ⟨g15, hf⟩ := y_g hf
  obtain ⟨h13, e14, hf⟩ := y_bdE hf
  refine y_putI (x := 0) (pc2 := 25) rfl dX10_begin_22 Fp_BoxYard_Yard_71 (by decide) rfl g15 e14 ?_
  refine y_aload_n (x := p0) (pc2 := 26) rfl dX10_begin_25 rfl ?_
  obtain ⟨g36, hf⟩ := y_g hf
  refine y_getP (pc2 := 29) rfl dX10_begin_26 F_BoxYard_Yard_35 (by decide) rfl g36 ?_
  refine y_iconst (v := 1) (pc2 := 30) rfl dX10_begin_29 (by decide) ?_
  obtain ⟨r_, h16, c17, hf⟩ := y_clE hf
  refine y_callS (As := [y_p (y_P h13 p0 7), .int 1]) (rm := rm_J7_fill_53178) (cells := 0) (slots := 0) (pc2 := 33) rfl dX10_begin_30 n_J7_fill_53178 l_BoxYard_Yard_52 t_J7_fill_53178 rfl rfl (by decide) (by decide) (by decide) (k_J7_fill_53178 c17) ?_
  refine y_aload_n (x := p0) (pc2 := 34) rfl dX10_begin_33 rfl ?_
  obtain ⟨g35, hf⟩ := y_g hf
  refine y_getP (pc2 := 37) rfl dX10_begin_34 F_BoxYard_Yard_39 (by decide) rfl g35 ?_
  refine y_iconst (v := 0) (pc2 := 38) rfl dX10_begin_37 (by decide) ?_
  obtain ⟨r_, h18, c19, hf⟩ := y_clE hf
  refine y_callS (As := [y_p (y_P h16 p0 8), .int 0]) (rm := rm_J7_fill_53178) (cells := 0) (slots := 0) (pc2 := 41) rfl dX10_begin_38 n_J7_fill_53178 l_BoxYard_Yard_52 t_J7_fill_53178 rfl rfl (by decide) (by decide) (by decide) (k_J7_fill_53178 c19) ?_
  refine y_aload_n (x := p0) (pc2 := 42) rfl dX10_begin_41 rfl ?_
  obtain ⟨g34, hf⟩ := y_g hf
  refine y_getP (pc2 := 45) rfl dX10_begin_42 F_BoxYard_Yard_48 (by decide) rfl g34 ?_
  obtain ⟨g33, hf⟩ := y_g hf
  obtain ⟨r_, h20, c21, hf⟩ := y_clE hf
  refine y_callV (As := []) (rm := rm_X9_begin) (cells := 0) (slots := 0) (pc2 := 48) rfl dX10_begin_45 n_X9_begin l_BoxYard_Yard_74 i_X9_begin e_X9_begin (ci := 9) rfl rfl (by decide) g33 rfl rfl (by decide) (by decide) (by decide) (k_X9_begin c21) ?_
  refine y_iconst (v := 0) (pc2 := 49) rfl dX10_begin_48 (by decide) ?_
  refine y_jlE hf (fun j => ∀ (v0_50 : Nat) (v1_50 : Int32) (h22 : y_H), j v0_50 v1_50 h22 = some (rz, hz) → y_V l G z rm_X10_begin M_X10_begin ad0 h none hz 50 [(0, y_p v0_50), (1, .int v1_50)] [] h22 0 0) (fun _ _ _ hf => by cases hf) (fun j50 hj50 v0_50 v1_50 h22 hf => ?_) (fun j50 hj50 hf => ?_)
  · refine y_iload_n (pc2 := 51) rfl dX10_begin_50 rfl ?_
    refine y_bipush (v := 10) (pc2 := 53) rfl dX10_begin_51 (by decide) ?_
    refine y_icmp_ge (tgt := 81) (pc2 := 56) rfl dX10_begin_53 (by decide) (fun c32 => ?_) (fun c32 => ?_)
    · replace hf := y_it c32 hf
      exact y_vretF hf dX10_begin_81 rfl (by decide) (by decide)
    · replace hf := y_ie c32 hf
      refine y_aload_n (x := v0_50) (pc2 := 57) rfl dX10_begin_56 rfl ?_
      obtain ⟨g31, hf⟩ := y_g hf
      refine y_getP (pc2 := 60) rfl dX10_begin_57 F_BoxYard_Yard_19 (by decide) rfl g31 ?_
      refine y_iload_n (pc2 := 61) rfl dX10_begin_60 rfl ?_
      obtain ⟨g30, hf⟩ := y_g hf
      refine y_aald (t := 4) (pc2 := 62) rfl dX10_begin_61 (by decide) rfl g30.1 (y_ix_in g30.2) ?_
      refine y_jnE hf (fun j => ∀ (v0_75 : Nat) (v1_75 : Int32) (h23 : y_H), j v0_75 v1_75 h23 = some (rz, hz) → y_V l G z rm_X10_begin M_X10_begin ad0 h none hz 75 [(0, y_p v0_75), (1, .int v1_75)] [] h23 0 0) (fun v0_75 v1_75 h23 hf => ?_) (fun j75 hj75 hf => ?_)
      · refine y_iinc (v := v1_75 + 1) (lv' := [(1, .int (v1_75 + 1)), (0, y_p v0_75)]) (pc2 := 78) rfl dX10_begin_75 rfl rfl (by decide) (by simp [y_st1, y_p_cat, y_ci, y_cj]) ?_
        refine y_goto (tgt := 50) dX10_begin_78 (by decide) ?_
        exact y_pk [1, 0] rfl (hj50 _ _ _ hf)
      · refine y_ifnull (tgt := 75) (pc2 := 65) rfl dX10_begin_62 (by decide) (fun c29 => ?_) (fun c29 => ?_)
        · replace hf := y_it c29 hf
          exact y_pk [0, 1] rfl (hj75 _ _ _ hf)
        · replace hf := y_ie c29 hf
          refine y_aload_n (x := v0_50) (pc2 := 66) rfl dX10_begin_65 rfl ?_
          obtain ⟨g28, hf⟩ := y_g hf
          refine y_getP (pc2 := 69) rfl dX10_begin_66 F_BoxYard_Yard_19 (by decide) rfl g28 ?_
          refine y_iload_n (pc2 := 70) rfl dX10_begin_69 rfl ?_
          obtain ⟨g27, hf⟩ := y_g hf
          refine y_aald (t := 4) (pc2 := 71) rfl dX10_begin_70 (by decide) rfl g27.1 (y_ix_in g27.2) ?_
          refine y_iconst (v := 0) (pc2 := 72) rfl dX10_begin_71 (by decide) ?_
          obtain ⟨g26, hf⟩ := y_g hf
          obtain ⟨h24, e25, hf⟩ := y_bdE hf
          refine y_putZ (x := false) (pc2 := 75) rfl dX10_begin_72 Fp_BoxYard_Yard_77 (by decide) rfl g26 e25 ?_
          exact y_pk [0, 1] rfl (hj75 _ _ _ hf)
  · refine y_istore_n (lv' := [(1, .int 0), (0, y_p p0)]) (pc2 := 50) rfl dX10_begin_49 (by decide) (by show y_st1 _ 1 _ = _; simp [y_st1, y_p_cat, y_ci, y_cj]) ?_
    exact y_pk [1, 0] rfl (hj50 _ _ _ hf)
theorem dX10_topAt_0 : decode cX10_topAt 0 = .ok (.aload_n 0, 1) := by decide +kernel
theorem dX10_topAt_1 : decode cX10_topAt 1 = .ok (.iload_n 1, 1) := by decide +kernel
theorem dX10_topAt_2 : decode cX10_topAt 2 = .ok (.invokevirtual 97, 3) := by decide +kernel
theorem dX10_topAt_5 : decode cX10_topAt 5 = .ok (.astore_n 3, 1) := by decide +kernel
theorem dX10_topAt_6 : decode cX10_topAt 6 = .ok (.aload_n 3, 1) := by decide +kernel
theorem dX10_topAt_7 : decode cX10_topAt 7 = .ok (.ifnonnull 7, 3) := by decide +kernel
theorem dX10_topAt_10 : decode cX10_topAt 10 = .ok (.aconst_null, 1) := by decide +kernel
theorem dX10_topAt_11 : decode cX10_topAt 11 = .ok (.goto 8, 3) := by decide +kernel
theorem dX10_topAt_14 : decode cX10_topAt 14 = .ok (.aload_n 3, 1) := by decide +kernel
theorem dX10_topAt_15 : decode cX10_topAt 15 = .ok (.iload_n 2, 1) := by decide +kernel
theorem dX10_topAt_16 : decode cX10_topAt 16 = .ok (.invokevirtual 101, 3) := by decide +kernel
theorem dX10_topAt_19 : decode cX10_topAt 19 = .ok (.areturn, 1) := by decide +kernel
def M_X10_topAt : y_M := (yX10_topAt, cX10_topAt, 4, (Option.some (Jvm.ClassFile.FieldType.object "BoxYard$Box")))
theorem n_X10_topAt : y_N0 M_X10_topAt 2 := ⟨(c_4 190 (by decide +kernel) rfl), (c_1 2 (by decide +kernel) rfl), ⟨by decide +kernel, by decide +kernel⟩, by decide +kernel⟩
theorem l_BoxYard_Yard_97 : y_lnk "BoxYard$Yard" 97 M_X10_bayAt := Or.inl (c_4 49 (by decide +kernel) rfl)
theorem l_BoxYard_Yard_101 : y_lnk "BoxYard$Yard" 101 M_X1_topOf := Or.inl (c_4 186 (by decide +kernel) rfl)
set_option maxRecDepth 100000 in
def f_X10_topAt (p0 : Nat) (p1 : Int32) (p2 : Int32) (h : y_H) : Option (Nat × y_H) :=
  if y_K h p0 = 11 then
  y_cl (f_X10_bayAt p0 p1 h) (fun r1 h2 =>
  if r1 = 0 then
    some (0, h2)
  else
    if y_K h2 r1 = 2 then
    y_cl (f_X1_topOf r1 p2 h2) (fun r4 h5 =>
    some (r4, h5))
    else none)
  else none
abbrev rm_X10_topAt : Room := { frames := 3, cells := 0, slots := 0, locals := 65 }
set_option maxRecDepth 100000 in
set_option maxHeartbeats 4000000 in
theorem k_X10_topAt {l : Launch} {G : y_G} {p0 : Nat} {p1 : Int32} {p2 : Int32} {h hz : y_H} {rz : Nat} (hf : f_X10_topAt p0 p1 p2 h = some (rz, hz)) : y_S l G M_X10_topAt rm_X10_topAt [y_p p0, .int p1, .int p2] h (some (y_p rz)) hz := by
  refine y_start (lv := [(0, y_p p0), (1, .int p1), (2, .int p2)]) (by decide) (by simp [lg_sl, y_p_cat, y_ci, y_cj, M_X10_topAt]) (by simp [lv_args, y_p_cat, y_ci, y_cj]) (fun z ad0 => ?_)
  unfold f_X10_topAt at hf
  refine y_aload_n (x := p0) (pc2 := 1) rfl dX10_topAt_0 rfl ?_
  refine y_iload_n (pc2 := 2) rfl dX10_topAt_1 rfl ?_
  obtain ⟨g9, hf⟩ := y_g hf
  obtain ⟨r1, h2, c3, hf⟩ := y_clE hf
  refine y_callV (As := [.int p1]) (rm := rm_X10_bayAt) (cells := 0) (slots := 0) (pc2 := 5) rfl dX10_topAt_2 n_X10_bayAt l_BoxYard_Yard_97 i_X10_bayAt e_X10_bayAt (ci := 10) rfl rfl (by decide) g9 rfl rfl (by decide) (by decide) (by decide) (k_X10_bayAt c3) ?_
  refine y_astore_n (lv' := [(3, y_p r1), (0, y_p p0), (1, .int p1), (2, .int p2)]) (pc2 := 6) rfl dX10_topAt_5 (by decide) rfl ?_
  refine y_aload_n (x := r1) (pc2 := 7) rfl dX10_topAt_6 rfl ?_
  refine y_ifnonnull (tgt := 14) (pc2 := 10) rfl dX10_topAt_7 (by decide) (fun c8 => ?_) (fun c8 => ?_)
  · replace hf := y_ie c8 hf
    refine y_aload_n (x := r1) (pc2 := 15) rfl dX10_topAt_14 rfl ?_
    refine y_iload_n (pc2 := 16) rfl dX10_topAt_15 rfl ?_
    obtain ⟨g7, hf⟩ := y_g hf
    obtain ⟨r4, h5, c6, hf⟩ := y_clE hf
    refine y_callV (As := [.int p2]) (rm := rm_X1_topOf) (cells := 0) (slots := 0) (pc2 := 19) rfl dX10_topAt_16 n_X1_topOf l_BoxYard_Yard_101 i_X1_topOf e_X1_topOf (ci := 1) rfl rfl (by decide) g7 rfl rfl (by decide) (by decide) (by decide) (k_X1_topOf c6) ?_
    exact y_aretF hf dX10_topAt_19 rfl (Or.inl ⟨_, rfl⟩) (by decide) (by decide)
  · replace hf := y_it c8 hf
    refine y_null (pc2 := 11) rfl dX10_topAt_10 ?_
    refine y_goto (tgt := 19) dX10_topAt_11 (by decide) ?_
    exact y_aretF hf dX10_topAt_19 rfl (Or.inl ⟨_, rfl⟩) (by decide) (by decide)
theorem dX10_wrongBoxes_0 : decode cX10_wrongBoxes 0 = .ok (.iconst 0, 1) := by decide +kernel
theorem dX10_wrongBoxes_1 : decode cX10_wrongBoxes 1 = .ok (.istore_n 1, 1) := by decide +kernel
theorem dX10_wrongBoxes_2 : decode cX10_wrongBoxes 2 = .ok (.iconst 0, 1) := by decide +kernel
theorem dX10_wrongBoxes_3 : decode cX10_wrongBoxes 3 = .ok (.istore_n 2, 1) := by decide +kernel
theorem dX10_wrongBoxes_4 : decode cX10_wrongBoxes 4 = .ok (.iload_n 2, 1) := by decide +kernel
theorem dX10_wrongBoxes_5 : decode cX10_wrongBoxes 5 = .ok (.aload_n 0, 1) := by decide +kernel
theorem dX10_wrongBoxes_6 : decode cX10_wrongBoxes 6 = .ok (.getfield 58, 3) := by decide +kernel
theorem dX10_wrongBoxes_9 : decode cX10_wrongBoxes 9 = .ok (.if_icmp .ge 29, 3) := by decide +kernel
theorem dX10_wrongBoxes_12 : decode cX10_wrongBoxes 12 = .ok (.aload_n 0, 1) := by decide +kernel
theorem dX10_wrongBoxes_13 : decode cX10_wrongBoxes 13 = .ok (.iload_n 2, 1) := by decide +kernel
theorem dX10_wrongBoxes_14 : decode cX10_wrongBoxes 14 = .ok (.invokevirtual 105, 3) := by decide +kernel
theorem dX10_wrongBoxes_17 : decode cX10_wrongBoxes 17 = .ok (.astore_n 3, 1) := by decide +kernel
theorem dX10_wrongBoxes_18 : decode cX10_wrongBoxes 18 = .ok (.aload_n 3, 1) := by decide +kernel
theorem dX10_wrongBoxes_19 : decode cX10_wrongBoxes 19 = .ok (.ifnull 13, 3) := by decide +kernel
theorem dX10_wrongBoxes_22 : decode cX10_wrongBoxes 22 = .ok (.aload_n 3, 1) := by decide +kernel
theorem dX10_wrongBoxes_23 : decode cX10_wrongBoxes 23 = .ok (.invokevirtual 108, 3) := by decide +kernel
theorem dX10_wrongBoxes_26 : decode cX10_wrongBoxes 26 = .ok (.ifCond .eq 6, 3) := by decide +kernel
theorem dX10_wrongBoxes_29 : decode cX10_wrongBoxes 29 = .ok (.iinc 1 1, 3) := by decide +kernel
theorem dX10_wrongBoxes_32 : decode cX10_wrongBoxes 32 = .ok (.iinc 2 1, 3) := by decide +kernel
theorem dX10_wrongBoxes_35 : decode cX10_wrongBoxes 35 = .ok (.goto (-31), 3) := by decide +kernel
theorem dX10_wrongBoxes_38 : decode cX10_wrongBoxes 38 = .ok (.iload_n 1, 1) := by decide +kernel
theorem dX10_wrongBoxes_39 : decode cX10_wrongBoxes 39 = .ok (.ireturn, 1) := by decide +kernel
def M_X10_wrongBoxes : y_M := (yX10_wrongBoxes, cX10_wrongBoxes, 4, (Option.some Jvm.ClassFile.FieldType.int))
theorem n_X10_wrongBoxes : y_N0 M_X10_wrongBoxes 0 := ⟨(c_7 90 (by decide +kernel) rfl), (c_1 2 (by decide +kernel) rfl), ⟨by decide +kernel, by decide +kernel⟩, by decide +kernel⟩
theorem l_BoxYard_Yard_105 : y_lnk "BoxYard$Yard" 105 M_X10_boxAt := Or.inl (c_7 91 (by decide +kernel) rfl)
theorem l_BoxYard_Yard_108 : y_lnk "BoxYard$Yard" 108 M_X2_isWrong := Or.inl (c_7 92 (by decide +kernel) rfl)
theorem i_X2_isWrong : Cond.instanceMethod (M_X2_isWrong).1 ∈ y_tb := (c_3 28 (by decide +kernel) rfl)
theorem e_X2_isWrong : Cond.selects (M_X2_isWrong).1.cls (M_X2_isWrong).1 (M_X2_isWrong).1 ∈ y_tb := (c_3 29 (by decide +kernel) rfl)
set_option maxRecDepth 100000 in
def f_X10_wrongBoxes (p0 : Nat) (h : y_H) : Option (Int32 × y_H) :=
  y_jl (fun (_ : Nat) (_ : Int32) (_ : Int32) (_ : y_H) => (none : Option (Int32 × y_H))) (fun j4 (v0_4 : Nat) (v1_4 : Int32) (v2_4 : Int32) (h1 : y_H) =>
      if y_K h1 v0_4 = 11 then
      if (y_I h1 v0_4 1) ≤ v2_4 then
        some (v1_4, h1)
      else
        if y_K h1 v0_4 = 11 then
        y_cl (f_X10_boxAt v0_4 v2_4 h1) (fun r2 h3 =>
        y_jn (fun (v0_32 : Nat) (v1_32 : Int32) (v2_32 : Int32) (h5 : y_H) => (
            j4 v0_32 v1_32 (v2_32 + 1) h5 : Option (Int32 × y_H))) (fun j32 =>
        if r2 = 0 then
          j32 v0_4 v1_4 v2_4 h3
        else
          if y_K h3 r2 = 3 then
          y_cl (f_X2_isWrong r2 h3) (fun r6 h7 =>
          if r6 = true then
            j32 v0_4 (v1_4 + 1) v2_4 h7
          else
            j32 v0_4 v1_4 v2_4 h7)
          else none))
        else none
      else none) (fun j4 =>
  j4 p0 0 0 h)
abbrev rm_X10_wrongBoxes : Room := { frames := 2, cells := 0, slots := 0, locals := 43 }
set_option maxRecDepth 100000 in
set_option maxHeartbeats 4000000 in
theorem k_X10_wrongBoxes {l : Launch} {G : y_G} {p0 : Nat} {h hz : y_H} {rz : Int32} (hf : f_X10_wrongBoxes p0 h = some (rz, hz)) : y_S l G M_X10_wrongBoxes rm_X10_wrongBoxes [y_p p0] h (some (.int rz)) hz := by
  refine y_start (lv := [(0, y_p p0)]) (by decide) (by simp [lg_sl, y_p_cat, y_ci, y_cj, M_X10_wrongBoxes]) (by simp [lv_args, y_p_cat, y_ci, y_cj]) (fun z ad0 => ?_)
  unfold f_X10_wrongBoxes at hf
  refine y_iconst (v := 0) (pc2 := 1) rfl dX10_wrongBoxes_0 (by decide) ?_
  refine y_istore_n (lv' := [(1, .int 0), (0, y_p p0)]) (pc2 := 2) rfl dX10_wrongBoxes_1 (by decide) (by show y_st1 _ 1 _ = _; simp [y_st1, y_p_cat, y_ci, y_cj]) ?_
  refine y_iconst (v := 0) (pc2 := 3) rfl dX10_wrongBoxes_2 (by decide) ?_
  refine y_jlE hf (fun j => ∀ (v0_4 : Nat) (v1_4 : Int32) (v2_4 : Int32) (h1 : y_H), j v0_4 v1_4 v2_4 h1 = some (rz, hz) → y_V l G z rm_X10_wrongBoxes M_X10_wrongBoxes ad0 h (some (.int rz)) hz 4 [(0, y_p v0_4), (1, .int v1_4), (2, .int v2_4)] [] h1 0 0) (fun _ _ _ _ hf => by cases hf) (fun j4 hj4 v0_4 v1_4 v2_4 h1 hf => ?_) (fun j4 hj4 hf => ?_)
  · refine y_iload_n (pc2 := 5) rfl dX10_wrongBoxes_4 rfl ?_
    refine y_aload_n (x := v0_4) (pc2 := 6) rfl dX10_wrongBoxes_5 rfl ?_
    obtain ⟨g14, hf⟩ := y_g hf
    refine y_getI (pc2 := 9) rfl dX10_wrongBoxes_6 F_BoxYard_Yard_58 (by decide) rfl g14 ?_
    refine y_icmp_ge (tgt := 38) (pc2 := 12) rfl dX10_wrongBoxes_9 (by decide) (fun c13 => ?_) (fun c13 => ?_)
    · replace hf := y_it c13 hf
      refine y_iload_n (pc2 := 39) rfl dX10_wrongBoxes_38 rfl ?_
      exact y_iretF hf dX10_wrongBoxes_39 rfl (by decide) (by decide)
    · replace hf := y_ie c13 hf
      refine y_aload_n (x := v0_4) (pc2 := 13) rfl dX10_wrongBoxes_12 rfl ?_
      refine y_iload_n (pc2 := 14) rfl dX10_wrongBoxes_13 rfl ?_
      obtain ⟨g12, hf⟩ := y_g hf
      obtain ⟨r2, h3, c4, hf⟩ := y_clE hf
      refine y_callV (As := [.int v2_4]) (rm := rm_X10_boxAt) (cells := 0) (slots := 0) (pc2 := 17) rfl dX10_wrongBoxes_14 n_X10_boxAt l_BoxYard_Yard_105 i_X10_boxAt e_X10_boxAt (ci := 10) rfl rfl (by decide) g12 rfl rfl (by decide) (by decide) (by decide) (k_X10_boxAt c4) ?_
      refine y_astore_n (lv' := [(3, y_p r2), (0, y_p v0_4), (1, .int v1_4), (2, .int v2_4)]) (pc2 := 18) rfl dX10_wrongBoxes_17 (by decide) rfl ?_
      refine y_aload_n (x := r2) (pc2 := 19) rfl dX10_wrongBoxes_18 rfl ?_
      refine y_jnE hf (fun j => ∀ (v0_32 : Nat) (v1_32 : Int32) (v2_32 : Int32) (h5 : y_H), j v0_32 v1_32 v2_32 h5 = some (rz, hz) → y_V l G z rm_X10_wrongBoxes M_X10_wrongBoxes ad0 h (some (.int rz)) hz 32 [(0, y_p v0_32), (1, .int v1_32), (2, .int v2_32)] [] h5 0 0) (fun v0_32 v1_32 v2_32 h5 hf => ?_) (fun j32 hj32 hf => ?_)
      · refine y_iinc (v := v2_32 + 1) (lv' := [(2, .int (v2_32 + 1)), (0, y_p v0_32), (1, .int v1_32)]) (pc2 := 35) rfl dX10_wrongBoxes_32 rfl rfl (by decide) rfl ?_
        refine y_goto (tgt := 4) dX10_wrongBoxes_35 (by decide) ?_
        exact y_pk [1, 2, 0] rfl (hj4 _ _ _ _ hf)
      · refine y_ifnull (tgt := 32) (pc2 := 22) rfl dX10_wrongBoxes_19 (by decide) (fun c11 => ?_) (fun c11 => ?_)
        · replace hf := y_it c11 hf
          exact y_pk [1, 2, 3] rfl (hj32 _ _ _ _ hf)
        · replace hf := y_ie c11 hf
          refine y_aload_n (x := r2) (pc2 := 23) rfl dX10_wrongBoxes_22 rfl ?_
          obtain ⟨g10, hf⟩ := y_g hf
          obtain ⟨r6, h7, c8, hf⟩ := y_clE hf
          refine y_callV (As := []) (rm := rm_X2_isWrong) (cells := 0) (slots := 0) (pc2 := 26) rfl dX10_wrongBoxes_23 n_X2_isWrong l_BoxYard_Yard_108 i_X2_isWrong e_X2_isWrong (ci := 2) rfl rfl (by decide) g10 rfl rfl (by decide) (by decide) (by decide) (k_X2_isWrong c8) ?_
          refine y_ifz_eq (tgt := 32) (pc2 := 29) rfl dX10_wrongBoxes_26 (by decide) (fun c9 => ?_) (fun c9 => ?_)
          · replace hf := y_ie c9 hf
            exact y_pk [1, 2, 3] rfl (hj32 _ _ _ _ hf)
          · replace hf := y_it c9 hf
            refine y_iinc (v := v1_4 + 1) (lv' := [(1, .int (v1_4 + 1)), (3, y_p r2), (0, y_p v0_4), (2, .int v2_4)]) (pc2 := 32) rfl dX10_wrongBoxes_29 rfl rfl (by decide) (by simp [y_st1, y_p_cat, y_ci, y_cj]) ?_
            exact y_pk [2, 0, 3] rfl (hj32 _ _ _ _ hf)
  · refine y_istore_n (lv' := [(2, .int 0), (1, .int 0), (0, y_p p0)]) (pc2 := 4) rfl dX10_wrongBoxes_3 (by decide) rfl ?_
    exact y_pk [2, 1, 0] rfl (hj4 _ _ _ _ hf)
theorem dX10_apartOf_0 : decode cX10_apartOf 0 = .ok (.iload_n 1, 1) := by decide +kernel
theorem dX10_apartOf_1 : decode cX10_apartOf 1 = .ok (.iconst 1, 1) := by decide +kernel
theorem dX10_apartOf_2 : decode cX10_apartOf 2 = .ok (.iconst 4, 1) := by decide +kernel
theorem dX10_apartOf_3 : decode cX10_apartOf 3 = .ok (.invokestatic 86, 3) := by decide +kernel
theorem dX10_apartOf_6 : decode cX10_apartOf 6 = .ok (.ifCond .eq 16, 3) := by decide +kernel
theorem dX10_apartOf_9 : decode cX10_apartOf 9 = .ok (.iload_n 2, 1) := by decide +kernel
theorem dX10_apartOf_10 : decode cX10_apartOf 10 = .ok (.iconst 1, 1) := by decide +kernel
theorem dX10_apartOf_11 : decode cX10_apartOf 11 = .ok (.iconst 4, 1) := by decide +kernel
theorem dX10_apartOf_12 : decode cX10_apartOf 12 = .ok (.invokestatic 86, 3) := by decide +kernel
theorem dX10_apartOf_15 : decode cX10_apartOf 15 = .ok (.ifCond .eq 7, 3) := by decide +kernel
theorem dX10_apartOf_18 : decode cX10_apartOf 18 = .ok (.iconst 1, 1) := by decide +kernel
theorem dX10_apartOf_19 : decode cX10_apartOf 19 = .ok (.goto 4, 3) := by decide +kernel
theorem dX10_apartOf_22 : decode cX10_apartOf 22 = .ok (.iconst 0, 1) := by decide +kernel
theorem dX10_apartOf_23 : decode cX10_apartOf 23 = .ok (.istore_n 3, 1) := by decide +kernel
theorem dX10_apartOf_24 : decode cX10_apartOf 24 = .ok (.iload_n 3, 1) := by decide +kernel
theorem dX10_apartOf_25 : decode cX10_apartOf 25 = .ok (.ifCond .eq 16, 3) := by decide +kernel
theorem dX10_apartOf_28 : decode cX10_apartOf 28 = .ok (.aload_n 0, 1) := by decide +kernel
theorem dX10_apartOf_29 : decode cX10_apartOf 29 = .ok (.getfield 39, 3) := by decide +kernel
theorem dX10_apartOf_32 : decode cX10_apartOf 32 = .ok (.iload_n 1, 1) := by decide +kernel
theorem dX10_apartOf_33 : decode cX10_apartOf 33 = .ok (.iconst 5, 1) := by decide +kernel
theorem dX10_apartOf_34 : decode cX10_apartOf 34 = .ok (.imul, 1) := by decide +kernel
theorem dX10_apartOf_35 : decode cX10_apartOf 35 = .ok (.iload_n 2, 1) := by decide +kernel
theorem dX10_apartOf_36 : decode cX10_apartOf 36 = .ok (.iadd, 1) := by decide +kernel
theorem dX10_apartOf_37 : decode cX10_apartOf 37 = .ok (.iaload, 1) := by decide +kernel
theorem dX10_apartOf_38 : decode cX10_apartOf 38 = .ok (.goto 4, 3) := by decide +kernel
theorem dX10_apartOf_41 : decode cX10_apartOf 41 = .ok (.iconst 0, 1) := by decide +kernel
theorem dX10_apartOf_42 : decode cX10_apartOf 42 = .ok (.ireturn, 1) := by decide +kernel
def M_X10_apartOf : y_M := (yX10_apartOf, cX10_apartOf, 4, (Option.some Jvm.ClassFile.FieldType.int))
theorem n_X10_apartOf : y_N0 M_X10_apartOf 2 := ⟨(c_3 123 (by decide +kernel) rfl), (c_1 2 (by decide +kernel) rfl), ⟨by decide +kernel, by decide +kernel⟩, by decide +kernel⟩
set_option maxRecDepth 100000 in
def f_X10_apartOf (p0 : Nat) (p1 : Int32) (p2 : Int32) (h : y_H) : Option (Int32 × y_H) :=
  y_cl (f_X11_isWithin p1 1 4 h) (fun r1 h2 =>
  y_jn (fun (v0_22 : Nat) (v1_22 : Int32) (v2_22 : Int32) (h4 : y_H) => (
      if (0 : Int32) = 0 then
        some (0, h4)
      else
        if y_K h4 v0_22 = 11 then
        if y_K h4 (y_P h4 v0_22 8) = 100 ∧ y_ix ((v1_22 * 5) + v2_22) (y_N h4 (y_P h4 v0_22 8)) = true then
        some (y_I h4 (y_P h4 v0_22 8) (Int32.toNatClampNeg ((v1_22 * 5) + v2_22)), h4)
        else none
        else none : Option (Int32 × y_H))) (fun j22 =>
  if r1 = true then
    y_cl (f_X11_isWithin p2 1 4 h2) (fun r8 h9 =>
    if r8 = true then
      if (1 : Int32) = 0 then
        some (0, h9)
      else
        if y_K h9 p0 = 11 then
        if y_K h9 (y_P h9 p0 8) = 100 ∧ y_ix ((p1 * 5) + p2) (y_N h9 (y_P h9 p0 8)) = true then
        some (y_I h9 (y_P h9 p0 8) (Int32.toNatClampNeg ((p1 * 5) + p2)), h9)
        else none
        else none
    else
      j22 p0 p1 p2 h9)
  else
    j22 p0 p1 p2 h2))
abbrev rm_X10_apartOf : Room := { frames := 1, cells := 0, slots := 0, locals := 22 }
set_option maxRecDepth 100000 in
set_option maxHeartbeats 4000000 in
theorem k_X10_apartOf {l : Launch} {G : y_G} {p0 : Nat} {p1 : Int32} {p2 : Int32} {h hz : y_H} {rz : Int32} (hf : f_X10_apartOf p0 p1 p2 h = some (rz, hz)) : y_S l G M_X10_apartOf rm_X10_apartOf [y_p p0, .int p1, .int p2] h (some (.int rz)) hz := by
  refine y_start (lv := [(0, y_p p0), (1, .int p1), (2, .int p2)]) (by decide) (by simp [lg_sl, y_p_cat, y_ci, y_cj, M_X10_apartOf]) (by simp [lv_args, y_p_cat, y_ci, y_cj]) (fun z ad0 => ?_)
  unfold f_X10_apartOf at hf
  refine y_iload_n (pc2 := 1) rfl dX10_apartOf_0 rfl ?_
  refine y_iconst (v := 1) (pc2 := 2) rfl dX10_apartOf_1 (by decide) ?_
  refine y_iconst (v := 4) (pc2 := 3) rfl dX10_apartOf_2 (by decide) ?_
  obtain ⟨r1, h2, c3, hf⟩ := y_clE hf
  refine y_callS (As := [.int p1, .int 1, .int 4]) (rm := rm_X11_isWithin) (cells := 0) (slots := 0) (pc2 := 6) rfl dX10_apartOf_3 n_X11_isWithin l_BoxYard_Yard_86 t_X11_isWithin rfl rfl (by decide) (by decide) (by decide) (k_X11_isWithin c3) ?_
  refine y_jnE hf (fun j => ∀ (v0_22 : Nat) (v1_22 : Int32) (v2_22 : Int32) (h4 : y_H), j v0_22 v1_22 v2_22 h4 = some (rz, hz) → y_V l G z rm_X10_apartOf M_X10_apartOf ad0 h (some (.int rz)) hz 22 [(0, y_p v0_22), (1, .int v1_22), (2, .int v2_22)] [] h4 0 0) (fun v0_22 v1_22 v2_22 h4 hf => ?_) (fun j22 hj22 hf => ?_)
  · refine y_iconst (v := 0) (pc2 := 23) rfl dX10_apartOf_22 (by decide) ?_
    refine y_istore_n (lv' := [(3, .int 0), (0, y_p v0_22), (1, .int v1_22), (2, .int v2_22)]) (pc2 := 24) rfl dX10_apartOf_23 (by decide) rfl ?_
    refine y_iload_n (pc2 := 25) rfl dX10_apartOf_24 rfl ?_
    refine y_if_eq (tgt := 41) (pc2 := 28) rfl dX10_apartOf_25 (by decide) (fun c7 => ?_) (fun c7 => ?_)
    · replace hf := y_it c7 hf
      refine y_iconst (v := 0) (pc2 := 42) rfl dX10_apartOf_41 (by decide) ?_
      exact y_iretF hf dX10_apartOf_42 rfl (by decide) (by decide)
    · replace hf := y_ie c7 hf
      refine y_aload_n (x := v0_22) (pc2 := 29) rfl dX10_apartOf_28 rfl ?_
      obtain ⟨g6, hf⟩ := y_g hf
      refine y_getP (pc2 := 32) rfl dX10_apartOf_29 F_BoxYard_Yard_39 (by decide) rfl g6 ?_
      refine y_iload_n (pc2 := 33) rfl dX10_apartOf_32 rfl ?_
      refine y_iconst (v := 5) (pc2 := 34) rfl dX10_apartOf_33 (by decide) ?_
      refine y_imul (pc2 := 35) rfl dX10_apartOf_34 ?_
      refine y_iload_n (pc2 := 36) rfl dX10_apartOf_35 rfl ?_
      refine y_iadd (pc2 := 37) rfl dX10_apartOf_36 ?_
      obtain ⟨g5, hf⟩ := y_g hf
      refine y_iald (pc2 := 38) rfl dX10_apartOf_37 g5.1 (y_ix_in g5.2) ?_
      refine y_goto (tgt := 42) dX10_apartOf_38 (by decide) ?_
      exact y_iretF hf dX10_apartOf_42 rfl (by decide) (by decide)
  · refine y_ifz_eq (tgt := 22) (pc2 := 9) rfl dX10_apartOf_6 (by decide) (fun c15 => ?_) (fun c15 => ?_)
    · replace hf := y_ie c15 hf
      exact y_pk [0, 1, 2] rfl (hj22 _ _ _ _ hf)
    · replace hf := y_it c15 hf
      refine y_iload_n (pc2 := 10) rfl dX10_apartOf_9 rfl ?_
      refine y_iconst (v := 1) (pc2 := 11) rfl dX10_apartOf_10 (by decide) ?_
      refine y_iconst (v := 4) (pc2 := 12) rfl dX10_apartOf_11 (by decide) ?_
      obtain ⟨r8, h9, c10, hf⟩ := y_clE hf
      refine y_callS (As := [.int p2, .int 1, .int 4]) (rm := rm_X11_isWithin) (cells := 0) (slots := 0) (pc2 := 15) rfl dX10_apartOf_12 n_X11_isWithin l_BoxYard_Yard_86 t_X11_isWithin rfl rfl (by decide) (by decide) (by decide) (k_X11_isWithin c10) ?_
      refine y_ifz_eq (tgt := 22) (pc2 := 18) rfl dX10_apartOf_15 (by decide) (fun c14 => ?_) (fun c14 => ?_)
      · replace hf := y_ie c14 hf
        exact y_pk [0, 1, 2] rfl (hj22 _ _ _ _ hf)
      · replace hf := y_it c14 hf
        refine y_iconst (v := 1) (pc2 := 19) rfl dX10_apartOf_18 (by decide) ?_
        refine y_goto (tgt := 23) dX10_apartOf_19 (by decide) ?_
        refine y_istore_n (lv' := [(3, .int 1), (0, y_p p0), (1, .int p1), (2, .int p2)]) (pc2 := 24) rfl dX10_apartOf_23 (by decide) rfl ?_
        refine y_iload_n (pc2 := 25) rfl dX10_apartOf_24 rfl ?_
        refine y_if_eq (tgt := 41) (pc2 := 28) rfl dX10_apartOf_25 (by decide) (fun c13 => ?_) (fun c13 => ?_)
        · replace hf := y_it c13 hf
          refine y_iconst (v := 0) (pc2 := 42) rfl dX10_apartOf_41 (by decide) ?_
          exact y_iretF hf dX10_apartOf_42 rfl (by decide) (by decide)
        · replace hf := y_ie c13 hf
          refine y_aload_n (x := p0) (pc2 := 29) rfl dX10_apartOf_28 rfl ?_
          obtain ⟨g12, hf⟩ := y_g hf
          refine y_getP (pc2 := 32) rfl dX10_apartOf_29 F_BoxYard_Yard_39 (by decide) rfl g12 ?_
          refine y_iload_n (pc2 := 33) rfl dX10_apartOf_32 rfl ?_
          refine y_iconst (v := 5) (pc2 := 34) rfl dX10_apartOf_33 (by decide) ?_
          refine y_imul (pc2 := 35) rfl dX10_apartOf_34 ?_
          refine y_iload_n (pc2 := 36) rfl dX10_apartOf_35 rfl ?_
          refine y_iadd (pc2 := 37) rfl dX10_apartOf_36 ?_
          obtain ⟨g11, hf⟩ := y_g hf
          refine y_iald (pc2 := 38) rfl dX10_apartOf_37 g11.1 (y_ix_in g11.2) ?_
          refine y_goto (tgt := 42) dX10_apartOf_38 (by decide) ?_
          exact y_iretF hf dX10_apartOf_42 rfl (by decide) (by decide)
theorem dX10_tellApart_0 : decode cX10_tellApart 0 = .ok (.aload_n 0, 1) := by decide +kernel
theorem dX10_tellApart_1 : decode cX10_tellApart 1 = .ok (.iload_n 1, 1) := by decide +kernel
theorem dX10_tellApart_2 : decode cX10_tellApart 2 = .ok (.iload_n 2, 1) := by decide +kernel
theorem dX10_tellApart_3 : decode cX10_tellApart 3 = .ok (.invokevirtual 112, 3) := by decide +kernel
theorem dX10_tellApart_6 : decode cX10_tellApart 6 = .ok (.istore 4, 2) := by decide +kernel
theorem dX10_tellApart_8 : decode cX10_tellApart 8 = .ok (.iload_n 1, 1) := by decide +kernel
theorem dX10_tellApart_9 : decode cX10_tellApart 9 = .ok (.iconst 1, 1) := by decide +kernel
theorem dX10_tellApart_10 : decode cX10_tellApart 10 = .ok (.iconst 4, 1) := by decide +kernel
theorem dX10_tellApart_11 : decode cX10_tellApart 11 = .ok (.invokestatic 86, 3) := by decide +kernel
theorem dX10_tellApart_14 : decode cX10_tellApart 14 = .ok (.ifCond .eq 34, 3) := by decide +kernel
theorem dX10_tellApart_17 : decode cX10_tellApart 17 = .ok (.iload_n 2, 1) := by decide +kernel
theorem dX10_tellApart_18 : decode cX10_tellApart 18 = .ok (.iconst 1, 1) := by decide +kernel
theorem dX10_tellApart_19 : decode cX10_tellApart 19 = .ok (.iconst 4, 1) := by decide +kernel
theorem dX10_tellApart_20 : decode cX10_tellApart 20 = .ok (.invokestatic 86, 3) := by decide +kernel
theorem dX10_tellApart_23 : decode cX10_tellApart 23 = .ok (.ifCond .eq 25, 3) := by decide +kernel
theorem dX10_tellApart_26 : decode cX10_tellApart 26 = .ok (.aload_n 0, 1) := by decide +kernel
theorem dX10_tellApart_27 : decode cX10_tellApart 27 = .ok (.getfield 39, 3) := by decide +kernel
theorem dX10_tellApart_30 : decode cX10_tellApart 30 = .ok (.iload_n 1, 1) := by decide +kernel
theorem dX10_tellApart_31 : decode cX10_tellApart 31 = .ok (.iconst 5, 1) := by decide +kernel
theorem dX10_tellApart_32 : decode cX10_tellApart 32 = .ok (.imul, 1) := by decide +kernel
theorem dX10_tellApart_33 : decode cX10_tellApart 33 = .ok (.iload_n 2, 1) := by decide +kernel
theorem dX10_tellApart_34 : decode cX10_tellApart 34 = .ok (.iadd, 1) := by decide +kernel
theorem dX10_tellApart_35 : decode cX10_tellApart 35 = .ok (.iload_n 3, 1) := by decide +kernel
theorem dX10_tellApart_36 : decode cX10_tellApart 36 = .ok (.iastore, 1) := by decide +kernel
theorem dX10_tellApart_37 : decode cX10_tellApart 37 = .ok (.aload_n 0, 1) := by decide +kernel
theorem dX10_tellApart_38 : decode cX10_tellApart 38 = .ok (.getfield 39, 3) := by decide +kernel
theorem dX10_tellApart_41 : decode cX10_tellApart 41 = .ok (.iload_n 2, 1) := by decide +kernel
theorem dX10_tellApart_42 : decode cX10_tellApart 42 = .ok (.iconst 5, 1) := by decide +kernel
theorem dX10_tellApart_43 : decode cX10_tellApart 43 = .ok (.imul, 1) := by decide +kernel
theorem dX10_tellApart_44 : decode cX10_tellApart 44 = .ok (.iload_n 1, 1) := by decide +kernel
theorem dX10_tellApart_45 : decode cX10_tellApart 45 = .ok (.iadd, 1) := by decide +kernel
theorem dX10_tellApart_46 : decode cX10_tellApart 46 = .ok (.iload_n 3, 1) := by decide +kernel
theorem dX10_tellApart_47 : decode cX10_tellApart 47 = .ok (.iastore, 1) := by decide +kernel
theorem dX10_tellApart_48 : decode cX10_tellApart 48 = .ok (.iload 4, 2) := by decide +kernel
theorem dX10_tellApart_50 : decode cX10_tellApart 50 = .ok (.ireturn, 1) := by decide +kernel
def M_X10_tellApart : y_M := (yX10_tellApart, cX10_tellApart, 5, (Option.some Jvm.ClassFile.FieldType.int))
theorem n_X10_tellApart : y_N0 M_X10_tellApart 3 := ⟨(c_3 119 (by decide +kernel) rfl), (c_1 2 (by decide +kernel) rfl), ⟨by decide +kernel, by decide +kernel⟩, by decide +kernel⟩
theorem l_BoxYard_Yard_112 : y_lnk "BoxYard$Yard" 112 M_X10_apartOf := Or.inl (c_3 120 (by decide +kernel) rfl)
theorem i_X10_apartOf : Cond.instanceMethod (M_X10_apartOf).1 ∈ y_tb := (c_3 122 (by decide +kernel) rfl)
theorem e_X10_apartOf : Cond.selects (M_X10_apartOf).1.cls (M_X10_apartOf).1 (M_X10_apartOf).1 ∈ y_tb := (m_s 5 (by decide +kernel) rfl)
set_option maxRecDepth 100000 in
def f_X10_tellApart (p0 : Nat) (p1 : Int32) (p2 : Int32) (p3 : Int32) (h : y_H) : Option (Int32 × y_H) :=
  if y_K h p0 = 11 then
  y_cl (f_X10_apartOf p0 p1 p2 h) (fun r1 h2 =>
  y_cl (f_X11_isWithin p1 1 4 h2) (fun r4 h5 =>
  y_jn (fun (v4_48 : Int32) (h7 : y_H) => (
      some (v4_48, h7) : Option (Int32 × y_H))) (fun j48 =>
  if r4 = true then
    y_cl (f_X11_isWithin p2 1 4 h5) (fun r8 h9 =>
    if r8 = true then
      if y_K h9 p0 = 11 then
      if y_K h9 (y_P h9 p0 8) = 100 ∧ y_ix ((p1 * 5) + p2) (y_N h9 (y_P h9 p0 8)) = true then
      y_bd (s_I h9 (y_P h9 p0 8) (Int32.toNatClampNeg ((p1 * 5) + p2)) p3) (fun h11 =>
      if y_K h11 p0 = 11 then
      if y_K h11 (y_P h11 p0 8) = 100 ∧ y_ix ((p2 * 5) + p1) (y_N h11 (y_P h11 p0 8)) = true then
      y_bd (s_I h11 (y_P h11 p0 8) (Int32.toNatClampNeg ((p2 * 5) + p1)) p3) (fun h14 =>
      j48 r1 h14)
      else none
      else none)
      else none
      else none
    else
      j48 r1 h9)
  else
    j48 r1 h5)))
  else none
abbrev rm_X10_tellApart : Room := { frames := 2, cells := 0, slots := 0, locals := 45 }
set_option maxRecDepth 100000 in
set_option maxHeartbeats 4000000 in
theorem k_X10_tellApart {l : Launch} {G : y_G} {p0 : Nat} {p1 : Int32} {p2 : Int32} {p3 : Int32} {h hz : y_H} {rz : Int32} (hf : f_X10_tellApart p0 p1 p2 p3 h = some (rz, hz)) : y_S l G M_X10_tellApart rm_X10_tellApart [y_p p0, .int p1, .int p2, .int p3] h (some (.int rz)) hz := by
  refine y_start (lv := [(0, y_p p0), (1, .int p1), (2, .int p2), (3, .int p3)]) (by decide) (by simp [lg_sl, y_p_cat, y_ci, y_cj, M_X10_tellApart]) (by simp [lv_args, y_p_cat, y_ci, y_cj]) (fun z ad0 => ?_)
  unfold f_X10_tellApart at hf
  refine y_aload_n (x := p0) (pc2 := 1) rfl dX10_tellApart_0 rfl ?_
  refine y_iload_n (pc2 := 2) rfl dX10_tellApart_1 rfl ?_
  refine y_iload_n (pc2 := 3) rfl dX10_tellApart_2 rfl ?_
  obtain ⟨g21, hf⟩ := y_g hf
  obtain ⟨r1, h2, c3, hf⟩ := y_clE hf
  refine y_callV (As := [.int p1, .int p2]) (rm := rm_X10_apartOf) (cells := 0) (slots := 0) (pc2 := 6) rfl dX10_tellApart_3 n_X10_apartOf l_BoxYard_Yard_112 i_X10_apartOf e_X10_apartOf (ci := 10) rfl rfl (by decide) g21 rfl rfl (by decide) (by decide) (by decide) (k_X10_apartOf c3) ?_
  refine y_istore (lv' := [(4, .int r1), (0, y_p p0), (1, .int p1), (2, .int p2), (3, .int p3)]) (pc2 := 8) rfl dX10_tellApart_6 (by decide) rfl ?_
  refine y_iload_n (pc2 := 9) rfl dX10_tellApart_8 rfl ?_
  refine y_iconst (v := 1) (pc2 := 10) rfl dX10_tellApart_9 (by decide) ?_
  refine y_iconst (v := 4) (pc2 := 11) rfl dX10_tellApart_10 (by decide) ?_
  obtain ⟨r4, h5, c6, hf⟩ := y_clE hf
  refine y_callS (As := [.int p1, .int 1, .int 4]) (rm := rm_X11_isWithin) (cells := 0) (slots := 0) (pc2 := 14) rfl dX10_tellApart_11 n_X11_isWithin l_BoxYard_Yard_86 t_X11_isWithin rfl rfl (by decide) (by decide) (by decide) (k_X11_isWithin c6) ?_
  refine y_jnE hf (fun j => ∀ (v4_48 : Int32) (h7 : y_H), j v4_48 h7 = some (rz, hz) → y_V l G z rm_X10_tellApart M_X10_tellApart ad0 h (some (.int rz)) hz 48 [(4, .int v4_48)] [] h7 0 0) (fun v4_48 h7 hf => ?_) (fun j48 hj48 hf => ?_)
  · refine y_iload (pc2 := 50) rfl dX10_tellApart_48 rfl ?_
    exact y_iretF hf dX10_tellApart_50 rfl (by decide) (by decide)
  · refine y_ifz_eq (tgt := 48) (pc2 := 17) rfl dX10_tellApart_14 (by decide) (fun c20 => ?_) (fun c20 => ?_)
    · replace hf := y_ie c20 hf
      exact y_pk [0] rfl (hj48 _ _ hf)
    · replace hf := y_it c20 hf
      refine y_iload_n (pc2 := 18) rfl dX10_tellApart_17 rfl ?_
      refine y_iconst (v := 1) (pc2 := 19) rfl dX10_tellApart_18 (by decide) ?_
      refine y_iconst (v := 4) (pc2 := 20) rfl dX10_tellApart_19 (by decide) ?_
      obtain ⟨r8, h9, c10, hf⟩ := y_clE hf
      refine y_callS (As := [.int p2, .int 1, .int 4]) (rm := rm_X11_isWithin) (cells := 0) (slots := 0) (pc2 := 23) rfl dX10_tellApart_20 n_X11_isWithin l_BoxYard_Yard_86 t_X11_isWithin rfl rfl (by decide) (by decide) (by decide) (k_X11_isWithin c10) ?_
      refine y_ifz_eq (tgt := 48) (pc2 := 26) rfl dX10_tellApart_23 (by decide) (fun c19 => ?_) (fun c19 => ?_)
      · replace hf := y_ie c19 hf
        exact y_pk [0] rfl (hj48 _ _ hf)
      · replace hf := y_it c19 hf
        refine y_aload_n (x := p0) (pc2 := 27) rfl dX10_tellApart_26 rfl ?_
        obtain ⟨g18, hf⟩ := y_g hf
        refine y_getP (pc2 := 30) rfl dX10_tellApart_27 F_BoxYard_Yard_39 (by decide) rfl g18 ?_
        refine y_iload_n (pc2 := 31) rfl dX10_tellApart_30 rfl ?_
        refine y_iconst (v := 5) (pc2 := 32) rfl dX10_tellApart_31 (by decide) ?_
        refine y_imul (pc2 := 33) rfl dX10_tellApart_32 ?_
        refine y_iload_n (pc2 := 34) rfl dX10_tellApart_33 rfl ?_
        refine y_iadd (pc2 := 35) rfl dX10_tellApart_34 ?_
        refine y_iload_n (pc2 := 36) rfl dX10_tellApart_35 rfl ?_
        obtain ⟨g13, hf⟩ := y_g hf
        obtain ⟨h11, e12, hf⟩ := y_bdE hf
        refine y_iast (x := p3) (pc2 := 37) rfl dX10_tellApart_36 g13.1 (y_ix_in g13.2) e12 ?_
        refine y_aload_n (x := p0) (pc2 := 38) rfl dX10_tellApart_37 rfl ?_
        obtain ⟨g17, hf⟩ := y_g hf
        refine y_getP (pc2 := 41) rfl dX10_tellApart_38 F_BoxYard_Yard_39 (by decide) rfl g17 ?_
        refine y_iload_n (pc2 := 42) rfl dX10_tellApart_41 rfl ?_
        refine y_iconst (v := 5) (pc2 := 43) rfl dX10_tellApart_42 (by decide) ?_
        refine y_imul (pc2 := 44) rfl dX10_tellApart_43 ?_
        refine y_iload_n (pc2 := 45) rfl dX10_tellApart_44 rfl ?_
        refine y_iadd (pc2 := 46) rfl dX10_tellApart_45 ?_
        refine y_iload_n (pc2 := 47) rfl dX10_tellApart_46 rfl ?_
        obtain ⟨g16, hf⟩ := y_g hf
        obtain ⟨h14, e15, hf⟩ := y_bdE hf
        refine y_iast (x := p3) (pc2 := 48) rfl dX10_tellApart_47 g16.1 (y_ix_in g16.2) e15 ?_
        exact y_pk [0] rfl (hj48 _ _ hf)
theorem dX10_tellLink_0 : decode cX10_tellLink 0 = .ok (.iconst 0, 1) := by decide +kernel
theorem dX10_tellLink_1 : decode cX10_tellLink 1 = .ok (.istore_n 2, 1) := by decide +kernel
theorem dX10_tellLink_2 : decode cX10_tellLink 2 = .ok (.iconst 0, 1) := by decide +kernel
theorem dX10_tellLink_3 : decode cX10_tellLink 3 = .ok (.istore_n 3, 1) := by decide +kernel
theorem dX10_tellLink_4 : decode cX10_tellLink 4 = .ok (.iload_n 3, 1) := by decide +kernel
theorem dX10_tellLink_5 : decode cX10_tellLink 5 = .ok (.aload_n 0, 1) := by decide +kernel
theorem dX10_tellLink_6 : decode cX10_tellLink 6 = .ok (.getfield 71, 3) := by decide +kernel
theorem dX10_tellLink_9 : decode cX10_tellLink 9 = .ok (.if_icmp .ge 34, 3) := by decide +kernel
theorem dX10_tellLink_12 : decode cX10_tellLink 12 = .ok (.aload_n 0, 1) := by decide +kernel
theorem dX10_tellLink_13 : decode cX10_tellLink 13 = .ok (.getfield 42, 3) := by decide +kernel
theorem dX10_tellLink_16 : decode cX10_tellLink 16 = .ok (.iload_n 3, 1) := by decide +kernel
theorem dX10_tellLink_17 : decode cX10_tellLink 17 = .ok (.aaload, 1) := by decide +kernel
theorem dX10_tellLink_18 : decode cX10_tellLink 18 = .ok (.aload_n 1, 1) := by decide +kernel
theorem dX10_tellLink_19 : decode cX10_tellLink 19 = .ok (.if_acmp .eq 18, 3) := by decide +kernel
theorem dX10_tellLink_22 : decode cX10_tellLink 22 = .ok (.aload_n 0, 1) := by decide +kernel
theorem dX10_tellLink_23 : decode cX10_tellLink 23 = .ok (.getfield 42, 3) := by decide +kernel
theorem dX10_tellLink_26 : decode cX10_tellLink 26 = .ok (.iload_n 2, 1) := by decide +kernel
theorem dX10_tellLink_27 : decode cX10_tellLink 27 = .ok (.aload_n 0, 1) := by decide +kernel
theorem dX10_tellLink_28 : decode cX10_tellLink 28 = .ok (.getfield 42, 3) := by decide +kernel
theorem dX10_tellLink_31 : decode cX10_tellLink 31 = .ok (.iload_n 3, 1) := by decide +kernel
theorem dX10_tellLink_32 : decode cX10_tellLink 32 = .ok (.aaload, 1) := by decide +kernel
theorem dX10_tellLink_33 : decode cX10_tellLink 33 = .ok (.aastore, 1) := by decide +kernel
theorem dX10_tellLink_34 : decode cX10_tellLink 34 = .ok (.iinc 2 1, 3) := by decide +kernel
theorem dX10_tellLink_37 : decode cX10_tellLink 37 = .ok (.iinc 3 1, 3) := by decide +kernel
theorem dX10_tellLink_40 : decode cX10_tellLink 40 = .ok (.goto (-36), 3) := by decide +kernel
theorem dX10_tellLink_43 : decode cX10_tellLink 43 = .ok (.aload_n 0, 1) := by decide +kernel
theorem dX10_tellLink_44 : decode cX10_tellLink 44 = .ok (.iload_n 2, 1) := by decide +kernel
theorem dX10_tellLink_45 : decode cX10_tellLink 45 = .ok (.putfield 71, 3) := by decide +kernel
theorem dX10_tellLink_48 : decode cX10_tellLink 48 = .ok (.aload_n 1, 1) := by decide +kernel
theorem dX10_tellLink_49 : decode cX10_tellLink 49 = .ok (.getfield 116, 3) := by decide +kernel
theorem dX10_tellLink_52 : decode cX10_tellLink 52 = .ok (.bipush (-9), 2) := by decide +kernel
theorem dX10_tellLink_54 : decode cX10_tellLink 54 = .ok (.if_icmp .eq 32, 3) := by decide +kernel
theorem dX10_tellLink_57 : decode cX10_tellLink 57 = .ok (.aload_n 0, 1) := by decide +kernel
theorem dX10_tellLink_58 : decode cX10_tellLink 58 = .ok (.getfield 71, 3) := by decide +kernel
theorem dX10_tellLink_61 : decode cX10_tellLink 61 = .ok (.bipush 80, 2) := by decide +kernel
theorem dX10_tellLink_63 : decode cX10_tellLink 63 = .ok (.if_icmp .ge 23, 3) := by decide +kernel
theorem dX10_tellLink_66 : decode cX10_tellLink 66 = .ok (.aload_n 0, 1) := by decide +kernel
theorem dX10_tellLink_67 : decode cX10_tellLink 67 = .ok (.getfield 42, 3) := by decide +kernel
theorem dX10_tellLink_70 : decode cX10_tellLink 70 = .ok (.aload_n 0, 1) := by decide +kernel
theorem dX10_tellLink_71 : decode cX10_tellLink 71 = .ok (.getfield 71, 3) := by decide +kernel
theorem dX10_tellLink_74 : decode cX10_tellLink 74 = .ok (.aload_n 1, 1) := by decide +kernel
theorem dX10_tellLink_75 : decode cX10_tellLink 75 = .ok (.aastore, 1) := by decide +kernel
theorem dX10_tellLink_76 : decode cX10_tellLink 76 = .ok (.aload_n 0, 1) := by decide +kernel
theorem dX10_tellLink_77 : decode cX10_tellLink 77 = .ok (.dup, 1) := by decide +kernel
theorem dX10_tellLink_78 : decode cX10_tellLink 78 = .ok (.getfield 71, 3) := by decide +kernel
theorem dX10_tellLink_81 : decode cX10_tellLink 81 = .ok (.iconst 1, 1) := by decide +kernel
theorem dX10_tellLink_82 : decode cX10_tellLink 82 = .ok (.iadd, 1) := by decide +kernel
theorem dX10_tellLink_83 : decode cX10_tellLink 83 = .ok (.putfield 71, 3) := by decide +kernel
theorem dX10_tellLink_86 : decode cX10_tellLink 86 = .ok (.return_, 1) := by decide +kernel
def M_X10_tellLink : y_M := (yX10_tellLink, cX10_tellLink, 4, (Option.none : Option Jvm.ClassFile.FieldType))
theorem n_X10_tellLink : y_N0 M_X10_tellLink 1 := ⟨(c_5 129 (by decide +kernel) rfl), (c_1 2 (by decide +kernel) rfl), ⟨by decide +kernel, by decide +kernel⟩, by decide +kernel⟩
theorem F_BoxYard_Yard_71 : y_F "BoxYard$Yard" 71 10 11 := ⟨_, _, _, rfl, by decide, Or.inl (c_1 76 (by decide +kernel) rfl)⟩
theorem F_BoxYard_Yard_116 : y_F "BoxYard$Yard" 116 2 11 := ⟨_, _, _, rfl, by decide, Or.inr ⟨"BoxYard", (c_2 153 (by decide +kernel) rfl)⟩⟩
theorem F_BoxYard_Yard_42 : y_F "BoxYard$Yard" 42 10 10 := ⟨_, _, _, rfl, by decide, Or.inl (c_1 75 (by decide +kernel) rfl)⟩
set_option maxRecDepth 100000 in
def f_X10_tellLink (p0 : Nat) (p1 : Nat) (h : y_H) : Option (Unit × y_H) :=
  y_jl (fun (_ : Nat) (_ : Nat) (_ : Int32) (_ : Int32) (_ : y_H) => (none : Option (Unit × y_H))) (fun j4 (v0_4 : Nat) (v1_4 : Nat) (v2_4 : Int32) (v3_4 : Int32) (h1 : y_H) =>
      if y_K h1 v0_4 = 11 then
      if (y_I h1 v0_4 11) ≤ v3_4 then
        if y_K h1 v0_4 = 11 then
        y_bd (s_I h1 v0_4 11 v2_4) (fun h2 =>
        if y_K h2 v1_4 = 3 then
        y_jn (fun (h5 : y_H) => (
            some ((), h5) : Option (Unit × y_H))) (fun j86 =>
        if (y_I h2 v1_4 11) = (-9 : Int32) then
          j86 h2
        else
          if y_K h2 v0_4 = 11 then
          if 80 ≤ (y_I h2 v0_4 11) then
            j86 h2
          else
            if y_K h2 v0_4 = 11 then
            if y_K h2 v0_4 = 11 then
            if y_K h2 (y_P h2 v0_4 10) = 103 ∧ y_ix (y_I h2 v0_4 11) (y_N h2 (y_P h2 v0_4 10)) = true ∧ (v1_4 = 0 ∨ y_K h2 v1_4 = 3) then
            y_bd (s_P h2 (y_P h2 v0_4 10) (Int32.toNatClampNeg (y_I h2 v0_4 11)) v1_4) (fun h6 =>
            if y_K h6 v0_4 = 11 then
            if y_K h6 v0_4 = 11 then
            y_bd (s_I h6 v0_4 11 ((y_I h6 v0_4 11) + 1)) (fun h9 =>
            j86 h9)
            else none
            else none)
            else none
            else none
            else none
          else none)
        else none)
        else none
      else
        if y_K h1 v0_4 = 11 then
        if y_K h1 (y_P h1 v0_4 10) = 103 ∧ y_ix v3_4 (y_N h1 (y_P h1 v0_4 10)) = true then
        y_jn (fun (v0_37 : Nat) (v1_37 : Nat) (v2_37 : Int32) (v3_37 : Int32) (h19 : y_H) => (
            j4 v0_37 v1_37 v2_37 (v3_37 + 1) h19 : Option (Unit × y_H))) (fun j37 =>
        if (y_P h1 (y_P h1 v0_4 10) (Int32.toNatClampNeg v3_4)) = v1_4 then
          j37 v0_4 v1_4 v2_4 v3_4 h1
        else
          if y_K h1 v0_4 = 11 then
          if y_K h1 v0_4 = 11 then
          if y_K h1 (y_P h1 v0_4 10) = 103 ∧ y_ix v3_4 (y_N h1 (y_P h1 v0_4 10)) = true then
          if y_K h1 (y_P h1 v0_4 10) = 103 ∧ y_ix v2_4 (y_N h1 (y_P h1 v0_4 10)) = true ∧ ((y_P h1 (y_P h1 v0_4 10) (Int32.toNatClampNeg v3_4)) = 0 ∨ y_K h1 (y_P h1 (y_P h1 v0_4 10) (Int32.toNatClampNeg v3_4)) = 3) then
          y_bd (s_P h1 (y_P h1 v0_4 10) (Int32.toNatClampNeg v2_4) (y_P h1 (y_P h1 v0_4 10) (Int32.toNatClampNeg v3_4))) (fun h20 =>
          j37 v0_4 v1_4 (v2_4 + 1) v3_4 h20)
          else none
          else none
          else none
          else none)
        else none
        else none
      else none) (fun j4 =>
  j4 p0 p1 0 0 h)
abbrev rm_X10_tellLink : Room := { frames := 0, cells := 0, slots := 0, locals := 0 }
set_option maxRecDepth 100000 in
set_option maxHeartbeats 4000000 in
theorem k_X10_tellLink {l : Launch} {G : y_G} {p0 : Nat} {p1 : Nat} {h hz : y_H} {rz : Unit} (hf : f_X10_tellLink p0 p1 h = some (rz, hz)) : y_S l G M_X10_tellLink rm_X10_tellLink [y_p p0, y_p p1] h none hz := by
  refine y_start (lv := [(0, y_p p0), (1, y_p p1)]) (by decide) (by simp [lg_sl, y_p_cat, y_ci, y_cj, M_X10_tellLink]) (by simp [lv_args, y_p_cat, y_ci, y_cj]) (fun z ad0 => ?_)
  unfold f_X10_tellLink at hf
  refine y_iconst (v := 0) (pc2 := 1) rfl dX10_tellLink_0 (by decide) ?_
  refine y_istore_n (lv' := [(2, .int 0), (0, y_p p0), (1, y_p p1)]) (pc2 := 2) rfl dX10_tellLink_1 (by decide) (by show y_st1 _ 2 _ = _; simp [y_st1, y_p_cat, y_ci, y_cj]) ?_
  refine y_iconst (v := 0) (pc2 := 3) rfl dX10_tellLink_2 (by decide) ?_
  refine y_jlE hf (fun j => ∀ (v0_4 : Nat) (v1_4 : Nat) (v2_4 : Int32) (v3_4 : Int32) (h1 : y_H), j v0_4 v1_4 v2_4 v3_4 h1 = some (rz, hz) → y_V l G z rm_X10_tellLink M_X10_tellLink ad0 h none hz 4 [(0, y_p v0_4), (1, y_p v1_4), (2, .int v2_4), (3, .int v3_4)] [] h1 0 0) (fun _ _ _ _ _ hf => by cases hf) (fun j4 hj4 v0_4 v1_4 v2_4 v3_4 h1 hf => ?_) (fun j4 hj4 hf => ?_)
  · refine y_iload_n (pc2 := 5) rfl dX10_tellLink_4 rfl ?_
    refine y_aload_n (x := v0_4) (pc2 := 6) rfl dX10_tellLink_5 rfl ?_
    obtain ⟨g30, hf⟩ := y_g hf
    refine y_getI (pc2 := 9) rfl dX10_tellLink_6 F_BoxYard_Yard_71 (by decide) rfl g30 ?_
    refine y_icmp_ge (tgt := 43) (pc2 := 12) rfl dX10_tellLink_9 (by decide) (fun c29 => ?_) (fun c29 => ?_)
    · replace hf := y_it c29 hf
      refine y_aload_n (x := v0_4) (pc2 := 44) rfl dX10_tellLink_43 rfl ?_
      refine y_iload_n (pc2 := 45) rfl dX10_tellLink_44 rfl ?_
      obtain ⟨g4, hf⟩ := y_g hf
      obtain ⟨h2, e3, hf⟩ := y_bdE hf
      refine y_putI (x := v2_4) (pc2 := 48) rfl dX10_tellLink_45 Fp_BoxYard_Yard_71 (by decide) rfl g4 e3 ?_
      refine y_aload_n (x := v1_4) (pc2 := 49) rfl dX10_tellLink_48 rfl ?_
      obtain ⟨g18, hf⟩ := y_g hf
      refine y_getI (pc2 := 52) rfl dX10_tellLink_49 F_BoxYard_Yard_116 (by decide) rfl g18 ?_
      refine y_bipush (v := (-9 : Int32)) (pc2 := 54) rfl dX10_tellLink_52 (by decide) ?_
      refine y_jnE hf (fun j => ∀ (h5 : y_H), j h5 = some (rz, hz) → y_V l G z rm_X10_tellLink M_X10_tellLink ad0 h none hz 86 [] [] h5 0 0) (fun h5 hf => ?_) (fun j86 hj86 hf => ?_)
      · exact y_vretF hf dX10_tellLink_86 rfl (by decide) (by decide)
      · refine y_icmp_eq (tgt := 86) (pc2 := 57) rfl dX10_tellLink_54 (by decide) (fun c17 => ?_) (fun c17 => ?_)
        · replace hf := y_it c17 hf
          exact y_pk [] rfl (hj86 _ hf)
        · replace hf := y_ie c17 hf
          refine y_aload_n (x := v0_4) (pc2 := 58) rfl dX10_tellLink_57 rfl ?_
          obtain ⟨g16, hf⟩ := y_g hf
          refine y_getI (pc2 := 61) rfl dX10_tellLink_58 F_BoxYard_Yard_71 (by decide) rfl g16 ?_
          refine y_bipush (v := 80) (pc2 := 63) rfl dX10_tellLink_61 (by decide) ?_
          refine y_icmp_ge (tgt := 86) (pc2 := 66) rfl dX10_tellLink_63 (by decide) (fun c15 => ?_) (fun c15 => ?_)
          · replace hf := y_it c15 hf
            exact y_pk [] rfl (hj86 _ hf)
          · replace hf := y_ie c15 hf
            refine y_aload_n (x := v0_4) (pc2 := 67) rfl dX10_tellLink_66 rfl ?_
            obtain ⟨g14, hf⟩ := y_g hf
            refine y_getP (pc2 := 70) rfl dX10_tellLink_67 F_BoxYard_Yard_42 (by decide) rfl g14 ?_
            refine y_aload_n (x := v0_4) (pc2 := 71) rfl dX10_tellLink_70 rfl ?_
            obtain ⟨g13, hf⟩ := y_g hf
            refine y_getI (pc2 := 74) rfl dX10_tellLink_71 F_BoxYard_Yard_71 (by decide) rfl g13 ?_
            refine y_aload_n (x := v1_4) (pc2 := 75) rfl dX10_tellLink_74 rfl ?_
            obtain ⟨g8, hf⟩ := y_g hf
            obtain ⟨h6, e7, hf⟩ := y_bdE hf
            refine y_aast (t := 3) (ci := 2) (x := v1_4) (pc2 := 76) rfl dX10_tellLink_75 (by decide) rfl (by decide) rfl g8.1 (y_ix_in g8.2.1) g8.2.2 e7 ?_
            refine y_aload_n (x := v0_4) (pc2 := 77) rfl dX10_tellLink_76 rfl ?_
            refine y_dup (pc2 := 78) rfl dX10_tellLink_77 (y_p_cat _) ?_
            obtain ⟨g12, hf⟩ := y_g hf
            refine y_getI (pc2 := 81) rfl dX10_tellLink_78 F_BoxYard_Yard_71 (by decide) rfl g12 ?_
            refine y_iconst (v := 1) (pc2 := 82) rfl dX10_tellLink_81 (by decide) ?_
            refine y_iadd (pc2 := 83) rfl dX10_tellLink_82 ?_
            obtain ⟨g11, hf⟩ := y_g hf
            obtain ⟨h9, e10, hf⟩ := y_bdE hf
            refine y_putI (x := (y_I h6 v0_4 11) + 1) (pc2 := 86) rfl dX10_tellLink_83 Fp_BoxYard_Yard_71 (by decide) rfl g11 e10 ?_
            exact y_pk [] rfl (hj86 _ hf)
    · replace hf := y_ie c29 hf
      refine y_aload_n (x := v0_4) (pc2 := 13) rfl dX10_tellLink_12 rfl ?_
      obtain ⟨g28, hf⟩ := y_g hf
      refine y_getP (pc2 := 16) rfl dX10_tellLink_13 F_BoxYard_Yard_42 (by decide) rfl g28 ?_
      refine y_iload_n (pc2 := 17) rfl dX10_tellLink_16 rfl ?_
      obtain ⟨g27, hf⟩ := y_g hf
      refine y_aald (t := 3) (pc2 := 18) rfl dX10_tellLink_17 (by decide) rfl g27.1 (y_ix_in g27.2) ?_
      refine y_aload_n (x := v1_4) (pc2 := 19) rfl dX10_tellLink_18 rfl ?_
      refine y_jnE hf (fun j => ∀ (v0_37 : Nat) (v1_37 : Nat) (v2_37 : Int32) (v3_37 : Int32) (h19 : y_H), j v0_37 v1_37 v2_37 v3_37 h19 = some (rz, hz) → y_V l G z rm_X10_tellLink M_X10_tellLink ad0 h none hz 37 [(0, y_p v0_37), (1, y_p v1_37), (2, .int v2_37), (3, .int v3_37)] [] h19 0 0) (fun v0_37 v1_37 v2_37 v3_37 h19 hf => ?_) (fun j37 hj37 hf => ?_)
      · refine y_iinc (v := v3_37 + 1) (lv' := [(3, .int (v3_37 + 1)), (0, y_p v0_37), (1, y_p v1_37), (2, .int v2_37)]) (pc2 := 40) rfl dX10_tellLink_37 rfl rfl (by decide) rfl ?_
        refine y_goto (tgt := 4) dX10_tellLink_40 (by decide) ?_
        exact y_pk [1, 2, 3, 0] rfl (hj4 _ _ _ _ _ hf)
      · refine y_acmp_eq (tgt := 37) (pc2 := 22) rfl dX10_tellLink_19 (by decide) (fun c26 => ?_) (fun c26 => ?_)
        · replace hf := y_it c26 hf
          exact y_pk [0, 1, 2, 3] rfl (hj37 _ _ _ _ _ hf)
        · replace hf := y_ie c26 hf
          refine y_aload_n (x := v0_4) (pc2 := 23) rfl dX10_tellLink_22 rfl ?_
          obtain ⟨g25, hf⟩ := y_g hf
          refine y_getP (pc2 := 26) rfl dX10_tellLink_23 F_BoxYard_Yard_42 (by decide) rfl g25 ?_
          refine y_iload_n (pc2 := 27) rfl dX10_tellLink_26 rfl ?_
          refine y_aload_n (x := v0_4) (pc2 := 28) rfl dX10_tellLink_27 rfl ?_
          obtain ⟨g24, hf⟩ := y_g hf
          refine y_getP (pc2 := 31) rfl dX10_tellLink_28 F_BoxYard_Yard_42 (by decide) rfl g24 ?_
          refine y_iload_n (pc2 := 32) rfl dX10_tellLink_31 rfl ?_
          obtain ⟨g23, hf⟩ := y_g hf
          refine y_aald (t := 3) (pc2 := 33) rfl dX10_tellLink_32 (by decide) rfl g23.1 (y_ix_in g23.2) ?_
          obtain ⟨g22, hf⟩ := y_g hf
          obtain ⟨h20, e21, hf⟩ := y_bdE hf
          refine y_aast (t := 3) (ci := 2) (x := y_P h1 (y_P h1 v0_4 10) (Int32.toNatClampNeg v3_4)) (pc2 := 34) rfl dX10_tellLink_33 (by decide) rfl (by decide) rfl g22.1 (y_ix_in g22.2.1) g22.2.2 e21 ?_
          refine y_iinc (v := v2_4 + 1) (lv' := [(2, .int (v2_4 + 1)), (0, y_p v0_4), (1, y_p v1_4), (3, .int v3_4)]) (pc2 := 37) rfl dX10_tellLink_34 rfl rfl (by decide) (by simp [y_st1, y_p_cat, y_ci, y_cj]) ?_
          exact y_pk [1, 2, 0, 3] rfl (hj37 _ _ _ _ _ hf)
  · refine y_istore_n (lv' := [(3, .int 0), (2, .int 0), (0, y_p p0), (1, y_p p1)]) (pc2 := 4) rfl dX10_tellLink_3 (by decide) rfl ?_
    exact y_pk [2, 3, 1, 0] rfl (hj4 _ _ _ _ _ hf)
theorem dX10_tellBroken_0 : decode cX10_tellBroken 0 = .ok (.aload_n 0, 1) := by decide +kernel
theorem dX10_tellBroken_1 : decode cX10_tellBroken 1 = .ok (.arraylength, 1) := by decide +kernel
theorem dX10_tellBroken_2 : decode cX10_tellBroken 2 = .ok (.iconst 3, 1) := by decide +kernel
theorem dX10_tellBroken_3 : decode cX10_tellBroken 3 = .ok (.if_icmp .lt 15, 3) := by decide +kernel
theorem dX10_tellBroken_6 : decode cX10_tellBroken 6 = .ok (.aload_n 0, 1) := by decide +kernel
theorem dX10_tellBroken_7 : decode cX10_tellBroken 7 = .ok (.iconst 0, 1) := by decide +kernel
theorem dX10_tellBroken_8 : decode cX10_tellBroken 8 = .ok (.iload_n 1, 1) := by decide +kernel
theorem dX10_tellBroken_9 : decode cX10_tellBroken 9 = .ok (.iastore, 1) := by decide +kernel
theorem dX10_tellBroken_10 : decode cX10_tellBroken 10 = .ok (.aload_n 0, 1) := by decide +kernel
theorem dX10_tellBroken_11 : decode cX10_tellBroken 11 = .ok (.iconst 1, 1) := by decide +kernel
theorem dX10_tellBroken_12 : decode cX10_tellBroken 12 = .ok (.iload_n 2, 1) := by decide +kernel
theorem dX10_tellBroken_13 : decode cX10_tellBroken 13 = .ok (.iastore, 1) := by decide +kernel
theorem dX10_tellBroken_14 : decode cX10_tellBroken 14 = .ok (.aload_n 0, 1) := by decide +kernel
theorem dX10_tellBroken_15 : decode cX10_tellBroken 15 = .ok (.iconst 2, 1) := by decide +kernel
theorem dX10_tellBroken_16 : decode cX10_tellBroken 16 = .ok (.iload_n 3, 1) := by decide +kernel
theorem dX10_tellBroken_17 : decode cX10_tellBroken 17 = .ok (.iastore, 1) := by decide +kernel
theorem dX10_tellBroken_18 : decode cX10_tellBroken 18 = .ok (.return_, 1) := by decide +kernel
def M_X10_tellBroken : y_M := (yX10_tellBroken, cX10_tellBroken, 4, (Option.none : Option Jvm.ClassFile.FieldType))
theorem n_X10_tellBroken : y_N0 M_X10_tellBroken 4 := ⟨(c_5 159 (by decide +kernel) rfl), (c_1 2 (by decide +kernel) rfl), ⟨by decide +kernel, by decide +kernel⟩, by decide +kernel⟩
set_option maxRecDepth 100000 in
def f_X10_tellBroken (p0 : Nat) (p1 : Int32) (p2 : Int32) (p3 : Int32) (h : y_H) : Option (Unit × y_H) :=
  if y_K h p0 = 100 then
  y_jn (fun (h1 : y_H) => (
      some ((), h1) : Option (Unit × y_H))) (fun j18 =>
  if (nI (y_N h p0)) < 3 then
    j18 h
  else
    if y_K h p0 = 100 ∧ y_ix 0 (y_N h p0) = true then
    y_bd (s_I h p0 (Int32.toNatClampNeg 0) p1) (fun h2 =>
    if y_K h2 p0 = 100 ∧ y_ix 1 (y_N h2 p0) = true then
    y_bd (s_I h2 p0 (Int32.toNatClampNeg 1) p2) (fun h5 =>
    if y_K h5 p0 = 100 ∧ y_ix 2 (y_N h5 p0) = true then
    y_bd (s_I h5 p0 (Int32.toNatClampNeg 2) p3) (fun h8 =>
    j18 h8)
    else none)
    else none)
    else none)
  else none
abbrev rm_X10_tellBroken : Room := { frames := 0, cells := 0, slots := 0, locals := 0 }
set_option maxRecDepth 100000 in
set_option maxHeartbeats 4000000 in
theorem k_X10_tellBroken {l : Launch} {G : y_G} {p0 : Nat} {p1 : Int32} {p2 : Int32} {p3 : Int32} {h hz : y_H} {rz : Unit} (hf : f_X10_tellBroken p0 p1 p2 p3 h = some (rz, hz)) : y_S l G M_X10_tellBroken rm_X10_tellBroken [y_p p0, .int p1, .int p2, .int p3] h none hz := by
  refine y_start (lv := [(0, y_p p0), (1, .int p1), (2, .int p2), (3, .int p3)]) (by decide) (by simp [lg_sl, y_p_cat, y_ci, y_cj, M_X10_tellBroken]) (by simp [lv_args, y_p_cat, y_ci, y_cj]) (fun z ad0 => ?_)
  unfold f_X10_tellBroken at hf
  refine y_aload_n (x := p0) (pc2 := 1) rfl dX10_tellBroken_0 rfl ?_
  obtain ⟨g12, hf⟩ := y_g hf
  refine y_alen (t := 0) (pc2 := 2) rfl dX10_tellBroken_1 (by decide) g12 ?_
  refine y_iconst (v := 3) (pc2 := 3) rfl dX10_tellBroken_2 (by decide) ?_
  refine y_jnE hf (fun j => ∀ (h1 : y_H), j h1 = some (rz, hz) → y_V l G z rm_X10_tellBroken M_X10_tellBroken ad0 h none hz 18 [] [] h1 0 0) (fun h1 hf => ?_) (fun j18 hj18 hf => ?_)
  · exact y_vretF hf dX10_tellBroken_18 rfl (by decide) (by decide)
  · refine y_icmp_lt (tgt := 18) (pc2 := 6) rfl dX10_tellBroken_3 (by decide) (fun c11 => ?_) (fun c11 => ?_)
    · replace hf := y_it c11 hf
      exact y_pk [] rfl (hj18 _ hf)
    · replace hf := y_ie c11 hf
      refine y_aload_n (x := p0) (pc2 := 7) rfl dX10_tellBroken_6 rfl ?_
      refine y_iconst (v := 0) (pc2 := 8) rfl dX10_tellBroken_7 (by decide) ?_
      refine y_iload_n (pc2 := 9) rfl dX10_tellBroken_8 rfl ?_
      obtain ⟨g4, hf⟩ := y_g hf
      obtain ⟨h2, e3, hf⟩ := y_bdE hf
      refine y_iast (x := p1) (pc2 := 10) rfl dX10_tellBroken_9 g4.1 (y_ix_in g4.2) e3 ?_
      refine y_aload_n (x := p0) (pc2 := 11) rfl dX10_tellBroken_10 rfl ?_
      refine y_iconst (v := 1) (pc2 := 12) rfl dX10_tellBroken_11 (by decide) ?_
      refine y_iload_n (pc2 := 13) rfl dX10_tellBroken_12 rfl ?_
      obtain ⟨g7, hf⟩ := y_g hf
      obtain ⟨h5, e6, hf⟩ := y_bdE hf
      refine y_iast (x := p2) (pc2 := 14) rfl dX10_tellBroken_13 g7.1 (y_ix_in g7.2) e6 ?_
      refine y_aload_n (x := p0) (pc2 := 15) rfl dX10_tellBroken_14 rfl ?_
      refine y_iconst (v := 2) (pc2 := 16) rfl dX10_tellBroken_15 (by decide) ?_
      refine y_iload_n (pc2 := 17) rfl dX10_tellBroken_16 rfl ?_
      obtain ⟨g10, hf⟩ := y_g hf
      obtain ⟨h8, e9, hf⟩ := y_bdE hf
      refine y_iast (x := p3) (pc2 := 18) rfl dX10_tellBroken_17 g10.1 (y_ix_in g10.2) e9 ?_
      exact y_pk [] rfl (hj18 _ hf)
theorem dX10_allCouldCome_0 : decode cX10_allCouldCome 0 = .ok (.aload_n 2, 1) := by decide +kernel
theorem dX10_allCouldCome_1 : decode cX10_allCouldCome 1 = .ok (.bipush (-9), 2) := by decide +kernel
theorem dX10_allCouldCome_3 : decode cX10_allCouldCome 3 = .ok (.invokestatic 52, 3) := by decide +kernel
theorem dX10_allCouldCome_6 : decode cX10_allCouldCome 6 = .ok (.aload_n 1, 1) := by decide +kernel
theorem dX10_allCouldCome_7 : decode cX10_allCouldCome 7 = .ok (.invokevirtual 119, 3) := by decide +kernel
theorem dX10_allCouldCome_10 : decode cX10_allCouldCome 10 = .ok (.iconst 0, 1) := by decide +kernel
theorem dX10_allCouldCome_11 : decode cX10_allCouldCome 11 = .ok (.istore_n 3, 1) := by decide +kernel
theorem dX10_allCouldCome_12 : decode cX10_allCouldCome 12 = .ok (.iconst 0, 1) := by decide +kernel
theorem dX10_allCouldCome_13 : decode cX10_allCouldCome 13 = .ok (.istore 4, 2) := by decide +kernel
theorem dX10_allCouldCome_15 : decode cX10_allCouldCome 15 = .ok (.iload 4, 2) := by decide +kernel
theorem dX10_allCouldCome_17 : decode cX10_allCouldCome 17 = .ok (.aload_n 0, 1) := by decide +kernel
theorem dX10_allCouldCome_18 : decode cX10_allCouldCome 18 = .ok (.getfield 71, 3) := by decide +kernel
theorem dX10_allCouldCome_21 : decode cX10_allCouldCome 21 = .ok (.if_icmp .ge 104, 3) := by decide +kernel
theorem dX10_allCouldCome_24 : decode cX10_allCouldCome 24 = .ok (.aload_n 0, 1) := by decide +kernel
theorem dX10_allCouldCome_25 : decode cX10_allCouldCome 25 = .ok (.getfield 42, 3) := by decide +kernel
theorem dX10_allCouldCome_28 : decode cX10_allCouldCome 28 = .ok (.iload 4, 2) := by decide +kernel
theorem dX10_allCouldCome_30 : decode cX10_allCouldCome 30 = .ok (.aaload, 1) := by decide +kernel
theorem dX10_allCouldCome_31 : decode cX10_allCouldCome 31 = .ok (.astore 5, 2) := by decide +kernel
theorem dX10_allCouldCome_33 : decode cX10_allCouldCome 33 = .ok (.aload 5, 2) := by decide +kernel
theorem dX10_allCouldCome_35 : decode cX10_allCouldCome 35 = .ok (.ifnull 84, 3) := by decide +kernel
theorem dX10_allCouldCome_38 : decode cX10_allCouldCome 38 = .ok (.aload 5, 2) := by decide +kernel
theorem dX10_allCouldCome_40 : decode cX10_allCouldCome 40 = .ok (.aload_n 1, 1) := by decide +kernel
theorem dX10_allCouldCome_41 : decode cX10_allCouldCome 41 = .ok (.getfield 122, 3) := by decide +kernel
theorem dX10_allCouldCome_44 : decode cX10_allCouldCome 44 = .ok (.invokevirtual 125, 3) := by decide +kernel
theorem dX10_allCouldCome_47 : decode cX10_allCouldCome 47 = .ok (.ifCond .ne 6, 3) := by decide +kernel
theorem dX10_allCouldCome_50 : decode cX10_allCouldCome 50 = .ok (.goto 69, 3) := by decide +kernel
theorem dX10_allCouldCome_53 : decode cX10_allCouldCome 53 = .ok (.aload_n 1, 1) := by decide +kernel
theorem dX10_allCouldCome_54 : decode cX10_allCouldCome 54 = .ok (.aload 5, 2) := by decide +kernel
theorem dX10_allCouldCome_56 : decode cX10_allCouldCome 56 = .ok (.aload 5, 2) := by decide +kernel
theorem dX10_allCouldCome_58 : decode cX10_allCouldCome 58 = .ok (.getfield 129, 3) := by decide +kernel
theorem dX10_allCouldCome_61 : decode cX10_allCouldCome 61 = .ok (.aload 5, 2) := by decide +kernel
theorem dX10_allCouldCome_63 : decode cX10_allCouldCome 63 = .ok (.getfield 132, 3) := by decide +kernel
theorem dX10_allCouldCome_66 : decode cX10_allCouldCome 66 = .ok (.aload 5, 2) := by decide +kernel
theorem dX10_allCouldCome_68 : decode cX10_allCouldCome 68 = .ok (.getfield 135, 3) := by decide +kernel
theorem dX10_allCouldCome_71 : decode cX10_allCouldCome 71 = .ok (.invokevirtual 138, 3) := by decide +kernel
theorem dX10_allCouldCome_74 : decode cX10_allCouldCome 74 = .ok (.istore 6, 2) := by decide +kernel
theorem dX10_allCouldCome_76 : decode cX10_allCouldCome 76 = .ok (.iload 6, 2) := by decide +kernel
theorem dX10_allCouldCome_78 : decode cX10_allCouldCome 78 = .ok (.ifCond .eq 17, 3) := by decide +kernel
theorem dX10_allCouldCome_81 : decode cX10_allCouldCome 81 = .ok (.aload_n 2, 1) := by decide +kernel
theorem dX10_allCouldCome_82 : decode cX10_allCouldCome 82 = .ok (.aload 5, 2) := by decide +kernel
theorem dX10_allCouldCome_84 : decode cX10_allCouldCome 84 = .ok (.getfield 142, 3) := by decide +kernel
theorem dX10_allCouldCome_87 : decode cX10_allCouldCome 87 = .ok (.iload_n 3, 1) := by decide +kernel
theorem dX10_allCouldCome_88 : decode cX10_allCouldCome 88 = .ok (.iload 6, 2) := by decide +kernel
theorem dX10_allCouldCome_90 : decode cX10_allCouldCome 90 = .ok (.invokestatic 143, 3) := by decide +kernel
theorem dX10_allCouldCome_93 : decode cX10_allCouldCome 93 = .ok (.iconst 0, 1) := by decide +kernel
theorem dX10_allCouldCome_94 : decode cX10_allCouldCome 94 = .ok (.ireturn, 1) := by decide +kernel
theorem dX10_allCouldCome_95 : decode cX10_allCouldCome 95 = .ok (.aload_n 1, 1) := by decide +kernel
theorem dX10_allCouldCome_96 : decode cX10_allCouldCome 96 = .ok (.aload 5, 2) := by decide +kernel
theorem dX10_allCouldCome_98 : decode cX10_allCouldCome 98 = .ok (.aload 5, 2) := by decide +kernel
theorem dX10_allCouldCome_100 : decode cX10_allCouldCome 100 = .ok (.getfield 129, 3) := by decide +kernel
theorem dX10_allCouldCome_103 : decode cX10_allCouldCome 103 = .ok (.aload 5, 2) := by decide +kernel
theorem dX10_allCouldCome_105 : decode cX10_allCouldCome 105 = .ok (.getfield 132, 3) := by decide +kernel
theorem dX10_allCouldCome_108 : decode cX10_allCouldCome 108 = .ok (.aload 5, 2) := by decide +kernel
theorem dX10_allCouldCome_110 : decode cX10_allCouldCome 110 = .ok (.getfield 135, 3) := by decide +kernel
theorem dX10_allCouldCome_113 : decode cX10_allCouldCome 113 = .ok (.invokevirtual 147, 3) := by decide +kernel
theorem dX10_allCouldCome_116 : decode cX10_allCouldCome 116 = .ok (.iinc 3 1, 3) := by decide +kernel
theorem dX10_allCouldCome_119 : decode cX10_allCouldCome 119 = .ok (.iinc 4 1, 3) := by decide +kernel
theorem dX10_allCouldCome_122 : decode cX10_allCouldCome 122 = .ok (.goto (-107), 3) := by decide +kernel
theorem dX10_allCouldCome_125 : decode cX10_allCouldCome 125 = .ok (.iconst 1, 1) := by decide +kernel
theorem dX10_allCouldCome_126 : decode cX10_allCouldCome 126 = .ok (.ireturn, 1) := by decide +kernel
def M_X10_allCouldCome : y_M := (yX10_allCouldCome, cX10_allCouldCome, 7, (Option.some Jvm.ClassFile.FieldType.boolean))
theorem n_X10_allCouldCome : y_N0 M_X10_allCouldCome 2 := ⟨(c_5 152 (by decide +kernel) rfl), (c_1 2 (by decide +kernel) rfl), ⟨by decide +kernel, by decide +kernel⟩, by decide +kernel⟩
theorem l_BoxYard_Yard_119 : y_lnk "BoxYard$Yard" 119 M_X7_survey := Or.inl (c_4 209 (by decide +kernel) rfl)
theorem i_X7_survey : Cond.instanceMethod (M_X7_survey).1 ∈ y_tb := (c_4 210 (by decide +kernel) rfl)
theorem e_X7_survey : Cond.selects (M_X7_survey).1.cls (M_X7_survey).1 (M_X7_survey).1 ∈ y_tb := (c_4 211 (by decide +kernel) rfl)
theorem F_BoxYard_Yard_122 : y_F "BoxYard$Yard" 122 7 0 := ⟨_, _, _, rfl, by decide, Or.inr ⟨"BoxYard", (c_5 42 (by decide +kernel) rfl)⟩⟩
theorem l_BoxYard_Yard_125 : y_lnk "BoxYard$Yard" 125 M_X2_isToComeTo := Or.inl (c_5 153 (by decide +kernel) rfl)
theorem i_X2_isToComeTo : Cond.instanceMethod (M_X2_isToComeTo).1 ∈ y_tb := (c_5 154 (by decide +kernel) rfl)
theorem e_X2_isToComeTo : Cond.selects (M_X2_isToComeTo).1.cls (M_X2_isToComeTo).1 (M_X2_isToComeTo).1 ∈ y_tb := (c_5 155 (by decide +kernel) rfl)
theorem F_BoxYard_Yard_129 : y_F "BoxYard$Yard" 129 2 12 := ⟨_, _, _, rfl, by decide, Or.inr ⟨"BoxYard", (c_2 155 (by decide +kernel) rfl)⟩⟩
theorem F_BoxYard_Yard_132 : y_F "BoxYard$Yard" 132 2 13 := ⟨_, _, _, rfl, by decide, Or.inr ⟨"BoxYard", (c_2 158 (by decide +kernel) rfl)⟩⟩
theorem F_BoxYard_Yard_135 : y_F "BoxYard$Yard" 135 2 14 := ⟨_, _, _, rfl, by decide, Or.inr ⟨"BoxYard", (c_2 161 (by decide +kernel) rfl)⟩⟩
theorem l_BoxYard_Yard_138 : y_lnk "BoxYard$Yard" 138 M_X7_meetsAt := Or.inl (c_4 228 (by decide +kernel) rfl)
theorem i_X7_meetsAt : Cond.instanceMethod (M_X7_meetsAt).1 ∈ y_tb := (c_4 229 (by decide +kernel) rfl)
theorem e_X7_meetsAt : Cond.selects (M_X7_meetsAt).1.cls (M_X7_meetsAt).1 (M_X7_meetsAt).1 ∈ y_tb := (c_4 230 (by decide +kernel) rfl)
theorem l_BoxYard_Yard_147 : y_lnk "BoxYard$Yard" 147 M_X7_include := Or.inl (c_5 160 (by decide +kernel) rfl)
theorem F_BoxYard_Yard_142 : y_F "BoxYard$Yard" 142 2 0 := ⟨_, _, _, rfl, by decide, Or.inr ⟨"BoxYard", (c_2 114 (by decide +kernel) rfl)⟩⟩
theorem l_BoxYard_Yard_143 : y_lnk "BoxYard$Yard" 143 M_X10_tellBroken := Or.inl (c_5 157 (by decide +kernel) rfl)
theorem t_X10_tellBroken : Cond.static (M_X10_tellBroken).1 ∈ y_tb := (c_5 158 (by decide +kernel) rfl)
set_option maxRecDepth 100000 in
def f_X10_allCouldCome (p0 : Nat) (p1 : Nat) (p2 : Nat) (h : y_H) : Option (Bool × y_H) :=
  y_cl (f_J7_fill_53178 p2 (-9 : Int32) h) (fun _ h1 =>
  if y_K h1 p1 = 8 then
  y_cl (f_X7_survey p1 h1) (fun _ h3 =>
  y_jl (fun (_ : Nat) (_ : Nat) (_ : Nat) (_ : Int32) (_ : Int32) (_ : y_H) => (none : Option (Bool × y_H))) (fun j15 (v0_15 : Nat) (v1_15 : Nat) (v2_15 : Nat) (v3_15 : Int32) (v4_15 : Int32) (h5 : y_H) =>
      if y_K h5 v0_15 = 11 then
      if (y_I h5 v0_15 11) ≤ v4_15 then
        some (true, h5)
      else
        if y_K h5 v0_15 = 11 then
        if y_K h5 (y_P h5 v0_15 10) = 103 ∧ y_ix v4_15 (y_N h5 (y_P h5 v0_15 10)) = true then
        y_jn (fun (v0_119 : Nat) (v1_119 : Nat) (v2_119 : Nat) (v3_119 : Int32) (v4_119 : Int32) (h6 : y_H) => (
            j15 v0_119 v1_119 v2_119 v3_119 (v4_119 + 1) h6 : Option (Bool × y_H))) (fun j119 =>
        if (y_P h5 (y_P h5 v0_15 10) (Int32.toNatClampNeg v4_15)) = 0 then
          j119 v0_15 v1_15 v2_15 v3_15 v4_15 h5
        else
          if y_K h5 v1_15 = 8 then
          if y_K h5 (y_P h5 (y_P h5 v0_15 10) (Int32.toNatClampNeg v4_15)) = 3 then
          y_cl (f_X2_isToComeTo (y_P h5 (y_P h5 v0_15 10) (Int32.toNatClampNeg v4_15)) (y_I h5 v1_15 0) h5) (fun r7 h8 =>
          if r7 = true then
            if y_K h8 (y_P h5 (y_P h5 v0_15 10) (Int32.toNatClampNeg v4_15)) = 3 then
            if y_K h8 (y_P h5 (y_P h5 v0_15 10) (Int32.toNatClampNeg v4_15)) = 3 then
            if y_K h8 (y_P h5 (y_P h5 v0_15 10) (Int32.toNatClampNeg v4_15)) = 3 then
            if y_K h8 v1_15 = 8 then
            y_cl (f_X7_meetsAt v1_15 (y_P h5 (y_P h5 v0_15 10) (Int32.toNatClampNeg v4_15)) (y_I h8 (y_P h5 (y_P h5 v0_15 10) (Int32.toNatClampNeg v4_15)) 12) (y_I h8 (y_P h5 (y_P h5 v0_15 10) (Int32.toNatClampNeg v4_15)) 13) (y_I h8 (y_P h5 (y_P h5 v0_15 10) (Int32.toNatClampNeg v4_15)) 14) h8) (fun r10 h11 =>
            if r10 = 0 then
              if y_K h11 (y_P h5 (y_P h5 v0_15 10) (Int32.toNatClampNeg v4_15)) = 3 then
              if y_K h11 (y_P h5 (y_P h5 v0_15 10) (Int32.toNatClampNeg v4_15)) = 3 then
              if y_K h11 (y_P h5 (y_P h5 v0_15 10) (Int32.toNatClampNeg v4_15)) = 3 then
              if y_K h11 v1_15 = 8 then
              y_cl (f_X7_include v1_15 (y_P h5 (y_P h5 v0_15 10) (Int32.toNatClampNeg v4_15)) (y_I h11 (y_P h5 (y_P h5 v0_15 10) (Int32.toNatClampNeg v4_15)) 12) (y_I h11 (y_P h5 (y_P h5 v0_15 10) (Int32.toNatClampNeg v4_15)) 13) (y_I h11 (y_P h5 (y_P h5 v0_15 10) (Int32.toNatClampNeg v4_15)) 14) h11) (fun _ h13 =>
              j119 v0_15 v1_15 v2_15 (v3_15 + 1) v4_15 h13)
              else none
              else none
              else none
              else none
            else
              if y_K h11 (y_P h5 (y_P h5 v0_15 10) (Int32.toNatClampNeg v4_15)) = 3 then
              y_cl (f_X10_tellBroken v2_15 (y_I h11 (y_P h5 (y_P h5 v0_15 10) (Int32.toNatClampNeg v4_15)) 0) v3_15 r10 h11) (fun _ h19 =>
              some (false, h19))
              else none)
            else none
            else none
            else none
            else none
          else
            j119 v0_15 v1_15 v2_15 v3_15 v4_15 h8)
          else none
          else none)
        else none
        else none
      else none) (fun j15 =>
  j15 p0 p1 p2 0 0 h3))
  else none)
abbrev rm_X10_allCouldCome : Room := { frames := 4, cells := 0, slots := 0, locals := 93 }
set_option maxRecDepth 100000 in
set_option maxHeartbeats 4000000 in
theorem k_X10_allCouldCome {l : Launch} {G : y_G} {p0 : Nat} {p1 : Nat} {p2 : Nat} {h hz : y_H} {rz : Bool} (hf : f_X10_allCouldCome p0 p1 p2 h = some (rz, hz)) : y_S l G M_X10_allCouldCome rm_X10_allCouldCome [y_p p0, y_p p1, y_p p2] h (some (.int (y_z rz))) hz := by
  refine y_start (lv := [(0, y_p p0), (1, y_p p1), (2, y_p p2)]) (by decide) (by simp [lg_sl, y_p_cat, y_ci, y_cj, M_X10_allCouldCome]) (by simp [lv_args, y_p_cat, y_ci, y_cj]) (fun z ad0 => ?_)
  unfold f_X10_allCouldCome at hf
  refine y_aload_n (x := p2) (pc2 := 1) rfl dX10_allCouldCome_0 rfl ?_
  refine y_bipush (v := (-9 : Int32)) (pc2 := 3) rfl dX10_allCouldCome_1 (by decide) ?_
  obtain ⟨r_, h1, c2, hf⟩ := y_clE hf
  refine y_callS (As := [y_p p2, .int (-9 : Int32)]) (rm := rm_J7_fill_53178) (cells := 0) (slots := 0) (pc2 := 6) rfl dX10_allCouldCome_3 n_J7_fill_53178 l_BoxYard_Yard_52 t_J7_fill_53178 rfl rfl (by decide) (by decide) (by decide) (k_J7_fill_53178 c2) ?_
  refine y_aload_n (x := p1) (pc2 := 7) rfl dX10_allCouldCome_6 rfl ?_
  obtain ⟨g35, hf⟩ := y_g hf
  obtain ⟨r_, h3, c4, hf⟩ := y_clE hf
  refine y_callV (As := []) (rm := rm_X7_survey) (cells := 0) (slots := 0) (pc2 := 10) rfl dX10_allCouldCome_7 n_X7_survey l_BoxYard_Yard_119 i_X7_survey e_X7_survey (ci := 7) rfl rfl (by decide) g35 rfl rfl (by decide) (by decide) (by decide) (k_X7_survey c4) ?_
  refine y_iconst (v := 0) (pc2 := 11) rfl dX10_allCouldCome_10 (by decide) ?_
  refine y_istore_n (lv' := [(3, .int 0), (0, y_p p0), (1, y_p p1), (2, y_p p2)]) (pc2 := 12) rfl dX10_allCouldCome_11 (by decide) (by show y_st1 _ 3 _ = _; simp [y_st1, y_p_cat, y_ci, y_cj]) ?_
  refine y_iconst (v := 0) (pc2 := 13) rfl dX10_allCouldCome_12 (by decide) ?_
  refine y_jlE hf (fun j => ∀ (v0_15 : Nat) (v1_15 : Nat) (v2_15 : Nat) (v3_15 : Int32) (v4_15 : Int32) (h5 : y_H), j v0_15 v1_15 v2_15 v3_15 v4_15 h5 = some (rz, hz) → y_V l G z rm_X10_allCouldCome M_X10_allCouldCome ad0 h (some (.int (y_z rz))) hz 15 [(0, y_p v0_15), (1, y_p v1_15), (2, y_p v2_15), (3, .int v3_15), (4, .int v4_15)] [] h5 0 0) (fun _ _ _ _ _ _ hf => by cases hf) (fun j15 hj15 v0_15 v1_15 v2_15 v3_15 v4_15 h5 hf => ?_) (fun j15 hj15 hf => ?_)
  · refine y_iload (pc2 := 17) rfl dX10_allCouldCome_15 rfl ?_
    refine y_aload_n (x := v0_15) (pc2 := 18) rfl dX10_allCouldCome_17 rfl ?_
    obtain ⟨g34, hf⟩ := y_g hf
    refine y_getI (pc2 := 21) rfl dX10_allCouldCome_18 F_BoxYard_Yard_71 (by decide) rfl g34 ?_
    refine y_icmp_ge (tgt := 125) (pc2 := 24) rfl dX10_allCouldCome_21 (by decide) (fun c33 => ?_) (fun c33 => ?_)
    · replace hf := y_it c33 hf
      refine y_iconst (v := 1) (pc2 := 126) rfl dX10_allCouldCome_125 (by decide) ?_
      exact y_zretF (x := true) hf dX10_allCouldCome_126 rfl (by decide) (by decide)
    · replace hf := y_ie c33 hf
      refine y_aload_n (x := v0_15) (pc2 := 25) rfl dX10_allCouldCome_24 rfl ?_
      obtain ⟨g32, hf⟩ := y_g hf
      refine y_getP (pc2 := 28) rfl dX10_allCouldCome_25 F_BoxYard_Yard_42 (by decide) rfl g32 ?_
      refine y_iload (pc2 := 30) rfl dX10_allCouldCome_28 rfl ?_
      obtain ⟨g31, hf⟩ := y_g hf
      refine y_aald (t := 3) (pc2 := 31) rfl dX10_allCouldCome_30 (by decide) rfl g31.1 (y_ix_in g31.2) ?_
      refine y_astore (lv' := [(5, y_p (y_P h5 (y_P h5 v0_15 10) (Int32.toNatClampNeg v4_15))), (0, y_p v0_15), (1, y_p v1_15), (2, y_p v2_15), (3, .int v3_15), (4, .int v4_15)]) (pc2 := 33) rfl dX10_allCouldCome_31 (by decide) rfl ?_
      refine y_aload (x := y_P h5 (y_P h5 v0_15 10) (Int32.toNatClampNeg v4_15)) (pc2 := 35) rfl dX10_allCouldCome_33 rfl ?_
      refine y_jnE hf (fun j => ∀ (v0_119 : Nat) (v1_119 : Nat) (v2_119 : Nat) (v3_119 : Int32) (v4_119 : Int32) (h6 : y_H), j v0_119 v1_119 v2_119 v3_119 v4_119 h6 = some (rz, hz) → y_V l G z rm_X10_allCouldCome M_X10_allCouldCome ad0 h (some (.int (y_z rz))) hz 119 [(0, y_p v0_119), (1, y_p v1_119), (2, y_p v2_119), (3, .int v3_119), (4, .int v4_119)] [] h6 0 0) (fun v0_119 v1_119 v2_119 v3_119 v4_119 h6 hf => ?_) (fun j119 hj119 hf => ?_)
      · refine y_iinc (v := v4_119 + 1) (lv' := [(4, .int (v4_119 + 1)), (0, y_p v0_119), (1, y_p v1_119), (2, y_p v2_119), (3, .int v3_119)]) (pc2 := 122) rfl dX10_allCouldCome_119 rfl rfl (by decide) rfl ?_
        refine y_goto (tgt := 15) dX10_allCouldCome_122 (by decide) ?_
        exact y_pk [1, 2, 3, 4, 0] rfl (hj15 _ _ _ _ _ _ hf)
      · refine y_ifnull (tgt := 119) (pc2 := 38) rfl dX10_allCouldCome_35 (by decide) (fun c30 => ?_) (fun c30 => ?_)
        · replace hf := y_it c30 hf
          exact y_pk [1, 2, 3, 4, 5] rfl (hj119 _ _ _ _ _ _ hf)
        · replace hf := y_ie c30 hf
          refine y_aload (x := y_P h5 (y_P h5 v0_15 10) (Int32.toNatClampNeg v4_15)) (pc2 := 40) rfl dX10_allCouldCome_38 rfl ?_
          refine y_aload_n (x := v1_15) (pc2 := 41) rfl dX10_allCouldCome_40 rfl ?_
          obtain ⟨g29, hf⟩ := y_g hf
          refine y_getI (pc2 := 44) rfl dX10_allCouldCome_41 F_BoxYard_Yard_122 (by decide) rfl g29 ?_
          obtain ⟨g28, hf⟩ := y_g hf
          obtain ⟨r7, h8, c9, hf⟩ := y_clE hf
          refine y_callV (As := [.int (y_I h5 v1_15 0)]) (rm := rm_X2_isToComeTo) (cells := 0) (slots := 0) (pc2 := 47) rfl dX10_allCouldCome_44 n_X2_isToComeTo l_BoxYard_Yard_125 i_X2_isToComeTo e_X2_isToComeTo (ci := 2) rfl rfl (by decide) g28 rfl rfl (by decide) (by decide) (by decide) (k_X2_isToComeTo c9) ?_
          refine y_ifz_ne (tgt := 53) (pc2 := 50) rfl dX10_allCouldCome_47 (by decide) (fun c27 => ?_) (fun c27 => ?_)
          · replace hf := y_it c27 hf
            refine y_aload_n (x := v1_15) (pc2 := 54) rfl dX10_allCouldCome_53 rfl ?_
            refine y_aload (x := y_P h5 (y_P h5 v0_15 10) (Int32.toNatClampNeg v4_15)) (pc2 := 56) rfl dX10_allCouldCome_54 rfl ?_
            refine y_aload (x := y_P h5 (y_P h5 v0_15 10) (Int32.toNatClampNeg v4_15)) (pc2 := 58) rfl dX10_allCouldCome_56 rfl ?_
            obtain ⟨g26, hf⟩ := y_g hf
            refine y_getI (pc2 := 61) rfl dX10_allCouldCome_58 F_BoxYard_Yard_129 (by decide) rfl g26 ?_
            refine y_aload (x := y_P h5 (y_P h5 v0_15 10) (Int32.toNatClampNeg v4_15)) (pc2 := 63) rfl dX10_allCouldCome_61 rfl ?_
            obtain ⟨g25, hf⟩ := y_g hf
            refine y_getI (pc2 := 66) rfl dX10_allCouldCome_63 F_BoxYard_Yard_132 (by decide) rfl g25 ?_
            refine y_aload (x := y_P h5 (y_P h5 v0_15 10) (Int32.toNatClampNeg v4_15)) (pc2 := 68) rfl dX10_allCouldCome_66 rfl ?_
            obtain ⟨g24, hf⟩ := y_g hf
            refine y_getI (pc2 := 71) rfl dX10_allCouldCome_68 F_BoxYard_Yard_135 (by decide) rfl g24 ?_
            obtain ⟨g23, hf⟩ := y_g hf
            obtain ⟨r10, h11, c12, hf⟩ := y_clE hf
            refine y_callV (As := [y_p (y_P h5 (y_P h5 v0_15 10) (Int32.toNatClampNeg v4_15)), .int (y_I h8 (y_P h5 (y_P h5 v0_15 10) (Int32.toNatClampNeg v4_15)) 12), .int (y_I h8 (y_P h5 (y_P h5 v0_15 10) (Int32.toNatClampNeg v4_15)) 13), .int (y_I h8 (y_P h5 (y_P h5 v0_15 10) (Int32.toNatClampNeg v4_15)) 14)]) (rm := rm_X7_meetsAt) (cells := 0) (slots := 0) (pc2 := 74) rfl dX10_allCouldCome_71 n_X7_meetsAt l_BoxYard_Yard_138 i_X7_meetsAt e_X7_meetsAt (ci := 7) rfl rfl (by decide) g23 rfl rfl (by decide) (by decide) (by decide) (k_X7_meetsAt c12) ?_
            refine y_istore (lv' := [(6, .int r10), (5, y_p (y_P h5 (y_P h5 v0_15 10) (Int32.toNatClampNeg v4_15))), (0, y_p v0_15), (1, y_p v1_15), (2, y_p v2_15), (3, .int v3_15), (4, .int v4_15)]) (pc2 := 76) rfl dX10_allCouldCome_74 (by decide) (by show y_st1 _ 6 _ = _; simp [y_st1, y_p_cat, y_ci, y_cj]) ?_
            refine y_iload (pc2 := 78) rfl dX10_allCouldCome_76 rfl ?_
            refine y_if_eq (tgt := 95) (pc2 := 81) rfl dX10_allCouldCome_78 (by decide) (fun c22 => ?_) (fun c22 => ?_)
            · replace hf := y_it c22 hf
              refine y_aload_n (x := v1_15) (pc2 := 96) rfl dX10_allCouldCome_95 rfl ?_
              refine y_aload (x := y_P h5 (y_P h5 v0_15 10) (Int32.toNatClampNeg v4_15)) (pc2 := 98) rfl dX10_allCouldCome_96 rfl ?_
              refine y_aload (x := y_P h5 (y_P h5 v0_15 10) (Int32.toNatClampNeg v4_15)) (pc2 := 100) rfl dX10_allCouldCome_98 rfl ?_
              obtain ⟨g18, hf⟩ := y_g hf
              refine y_getI (pc2 := 103) rfl dX10_allCouldCome_100 F_BoxYard_Yard_129 (by decide) rfl g18 ?_
              refine y_aload (x := y_P h5 (y_P h5 v0_15 10) (Int32.toNatClampNeg v4_15)) (pc2 := 105) rfl dX10_allCouldCome_103 rfl ?_
              obtain ⟨g17, hf⟩ := y_g hf
              refine y_getI (pc2 := 108) rfl dX10_allCouldCome_105 F_BoxYard_Yard_132 (by decide) rfl g17 ?_
              refine y_aload (x := y_P h5 (y_P h5 v0_15 10) (Int32.toNatClampNeg v4_15)) (pc2 := 110) rfl dX10_allCouldCome_108 rfl ?_
              obtain ⟨g16, hf⟩ := y_g hf
              refine y_getI (pc2 := 113) rfl dX10_allCouldCome_110 F_BoxYard_Yard_135 (by decide) rfl g16 ?_
              obtain ⟨g15, hf⟩ := y_g hf
              obtain ⟨r_, h13, c14, hf⟩ := y_clE hf
              refine y_callV (As := [y_p (y_P h5 (y_P h5 v0_15 10) (Int32.toNatClampNeg v4_15)), .int (y_I h11 (y_P h5 (y_P h5 v0_15 10) (Int32.toNatClampNeg v4_15)) 12), .int (y_I h11 (y_P h5 (y_P h5 v0_15 10) (Int32.toNatClampNeg v4_15)) 13), .int (y_I h11 (y_P h5 (y_P h5 v0_15 10) (Int32.toNatClampNeg v4_15)) 14)]) (rm := rm_X7_include) (cells := 0) (slots := 0) (pc2 := 116) rfl dX10_allCouldCome_113 n_X7_include l_BoxYard_Yard_147 i_X7_include e_X7_include (ci := 7) rfl rfl (by decide) g15 rfl rfl (by decide) (by decide) (by decide) (k_X7_include c14) ?_
              refine y_iinc (v := v3_15 + 1) (lv' := [(3, .int (v3_15 + 1)), (6, .int r10), (5, y_p (y_P h5 (y_P h5 v0_15 10) (Int32.toNatClampNeg v4_15))), (0, y_p v0_15), (1, y_p v1_15), (2, y_p v2_15), (4, .int v4_15)]) (pc2 := 119) rfl dX10_allCouldCome_116 rfl rfl (by decide) (by simp [y_st1, y_p_cat, y_ci, y_cj]) ?_
              exact y_pk [3, 4, 5, 0, 6] rfl (hj119 _ _ _ _ _ _ hf)
            · replace hf := y_ie c22 hf
              refine y_aload_n (x := v2_15) (pc2 := 82) rfl dX10_allCouldCome_81 rfl ?_
              refine y_aload (x := y_P h5 (y_P h5 v0_15 10) (Int32.toNatClampNeg v4_15)) (pc2 := 84) rfl dX10_allCouldCome_82 rfl ?_
              obtain ⟨g21, hf⟩ := y_g hf
              refine y_getI (pc2 := 87) rfl dX10_allCouldCome_84 F_BoxYard_Yard_142 (by decide) rfl g21 ?_
              refine y_iload_n (pc2 := 88) rfl dX10_allCouldCome_87 rfl ?_
              refine y_iload (pc2 := 90) rfl dX10_allCouldCome_88 rfl ?_
              obtain ⟨r_, h19, c20, hf⟩ := y_clE hf
              refine y_callS (As := [y_p v2_15, .int (y_I h11 (y_P h5 (y_P h5 v0_15 10) (Int32.toNatClampNeg v4_15)) 0), .int v3_15, .int r10]) (rm := rm_X10_tellBroken) (cells := 0) (slots := 0) (pc2 := 93) rfl dX10_allCouldCome_90 n_X10_tellBroken l_BoxYard_Yard_143 t_X10_tellBroken rfl rfl (by decide) (by decide) (by decide) (k_X10_tellBroken c20) ?_
              refine y_iconst (v := 0) (pc2 := 94) rfl dX10_allCouldCome_93 (by decide) ?_
              exact y_zretF (x := false) hf dX10_allCouldCome_94 rfl (by decide) (by decide)
          · replace hf := y_ie c27 hf
            refine y_goto (tgt := 119) dX10_allCouldCome_50 (by decide) ?_
            exact y_pk [1, 2, 3, 4, 5] rfl (hj119 _ _ _ _ _ _ hf)
  · refine y_istore (lv' := [(4, .int 0), (3, .int 0), (0, y_p p0), (1, y_p p1), (2, y_p p2)]) (pc2 := 15) rfl dX10_allCouldCome_13 (by decide) rfl ?_
    exact y_pk [2, 3, 4, 1, 0] rfl (hj15 _ _ _ _ _ _ hf)
theorem dX10_hasRoomOnRail_0 : decode cX10_hasRoomOnRail 0 = .ok (.iload_n 1, 1) := by decide +kernel
theorem dX10_hasRoomOnRail_1 : decode cX10_hasRoomOnRail 1 = .ok (.iconst 0, 1) := by decide +kernel
theorem dX10_hasRoomOnRail_2 : decode cX10_hasRoomOnRail 2 = .ok (.iconst 2, 1) := by decide +kernel
theorem dX10_hasRoomOnRail_3 : decode cX10_hasRoomOnRail 3 = .ok (.invokestatic 86, 3) := by decide +kernel
theorem dX10_hasRoomOnRail_6 : decode cX10_hasRoomOnRail 6 = .ok (.ifCond .ne 5, 3) := by decide +kernel
theorem dX10_hasRoomOnRail_9 : decode cX10_hasRoomOnRail 9 = .ok (.iconst 1, 1) := by decide +kernel
theorem dX10_hasRoomOnRail_10 : decode cX10_hasRoomOnRail 10 = .ok (.ireturn, 1) := by decide +kernel
theorem dX10_hasRoomOnRail_11 : decode cX10_hasRoomOnRail 11 = .ok (.iconst 0, 1) := by decide +kernel
theorem dX10_hasRoomOnRail_12 : decode cX10_hasRoomOnRail 12 = .ok (.istore 4, 2) := by decide +kernel
theorem dX10_hasRoomOnRail_14 : decode cX10_hasRoomOnRail 14 = .ok (.iload 4, 2) := by decide +kernel
theorem dX10_hasRoomOnRail_16 : decode cX10_hasRoomOnRail 16 = .ok (.aload_n 0, 1) := by decide +kernel
theorem dX10_hasRoomOnRail_17 : decode cX10_hasRoomOnRail 17 = .ok (.getfield 62, 3) := by decide +kernel
theorem dX10_hasRoomOnRail_20 : decode cX10_hasRoomOnRail 20 = .ok (.if_icmp .ge 78, 3) := by decide +kernel
theorem dX10_hasRoomOnRail_23 : decode cX10_hasRoomOnRail 23 = .ok (.aload_n 0, 1) := by decide +kernel
theorem dX10_hasRoomOnRail_24 : decode cX10_hasRoomOnRail 24 = .ok (.iload 4, 2) := by decide +kernel
theorem dX10_hasRoomOnRail_26 : decode cX10_hasRoomOnRail 26 = .ok (.invokevirtual 151, 3) := by decide +kernel
theorem dX10_hasRoomOnRail_29 : decode cX10_hasRoomOnRail 29 = .ok (.astore 5, 2) := by decide +kernel
theorem dX10_hasRoomOnRail_31 : decode cX10_hasRoomOnRail 31 = .ok (.aload 5, 2) := by decide +kernel
theorem dX10_hasRoomOnRail_33 : decode cX10_hasRoomOnRail 33 = .ok (.ifnull 59, 3) := by decide +kernel
theorem dX10_hasRoomOnRail_36 : decode cX10_hasRoomOnRail 36 = .ok (.aload 5, 2) := by decide +kernel
theorem dX10_hasRoomOnRail_38 : decode cX10_hasRoomOnRail 38 = .ok (.getfield 155, 3) := by decide +kernel
theorem dX10_hasRoomOnRail_41 : decode cX10_hasRoomOnRail 41 = .ok (.iload_n 1, 1) := by decide +kernel
theorem dX10_hasRoomOnRail_42 : decode cX10_hasRoomOnRail 42 = .ok (.if_icmp .ne 50, 3) := by decide +kernel
theorem dX10_hasRoomOnRail_45 : decode cX10_hasRoomOnRail 45 = .ok (.iload 4, 2) := by decide +kernel
theorem dX10_hasRoomOnRail_47 : decode cX10_hasRoomOnRail 47 = .ok (.iload_n 2, 1) := by decide +kernel
theorem dX10_hasRoomOnRail_48 : decode cX10_hasRoomOnRail 48 = .ok (.if_icmp .ne 6, 3) := by decide +kernel
theorem dX10_hasRoomOnRail_51 : decode cX10_hasRoomOnRail 51 = .ok (.goto 41, 3) := by decide +kernel
theorem dX10_hasRoomOnRail_54 : decode cX10_hasRoomOnRail 54 = .ok (.iload 4, 2) := by decide +kernel
theorem dX10_hasRoomOnRail_56 : decode cX10_hasRoomOnRail 56 = .ok (.iload_n 2, 1) := by decide +kernel
theorem dX10_hasRoomOnRail_57 : decode cX10_hasRoomOnRail 57 = .ok (.if_icmp .ge 13, 3) := by decide +kernel
theorem dX10_hasRoomOnRail_60 : decode cX10_hasRoomOnRail 60 = .ok (.iload_n 3, 1) := by decide +kernel
theorem dX10_hasRoomOnRail_61 : decode cX10_hasRoomOnRail 61 = .ok (.aload 5, 2) := by decide +kernel
theorem dX10_hasRoomOnRail_63 : decode cX10_hasRoomOnRail 63 = .ok (.getfield 158, 3) := by decide +kernel
theorem dX10_hasRoomOnRail_66 : decode cX10_hasRoomOnRail 66 = .ok (.isub, 1) := by decide +kernel
theorem dX10_hasRoomOnRail_67 : decode cX10_hasRoomOnRail 67 = .ok (.goto 10, 3) := by decide +kernel
theorem dX10_hasRoomOnRail_70 : decode cX10_hasRoomOnRail 70 = .ok (.aload 5, 2) := by decide +kernel
theorem dX10_hasRoomOnRail_72 : decode cX10_hasRoomOnRail 72 = .ok (.getfield 158, 3) := by decide +kernel
theorem dX10_hasRoomOnRail_75 : decode cX10_hasRoomOnRail 75 = .ok (.iload_n 3, 1) := by decide +kernel
theorem dX10_hasRoomOnRail_76 : decode cX10_hasRoomOnRail 76 = .ok (.isub, 1) := by decide +kernel
theorem dX10_hasRoomOnRail_77 : decode cX10_hasRoomOnRail 77 = .ok (.istore 6, 2) := by decide +kernel
theorem dX10_hasRoomOnRail_79 : decode cX10_hasRoomOnRail 79 = .ok (.iload 6, 2) := by decide +kernel
theorem dX10_hasRoomOnRail_81 : decode cX10_hasRoomOnRail 81 = .ok (.aload_n 0, 1) := by decide +kernel
theorem dX10_hasRoomOnRail_82 : decode cX10_hasRoomOnRail 82 = .ok (.getfield 35, 3) := by decide +kernel
theorem dX10_hasRoomOnRail_85 : decode cX10_hasRoomOnRail 85 = .ok (.iload_n 1, 1) := by decide +kernel
theorem dX10_hasRoomOnRail_86 : decode cX10_hasRoomOnRail 86 = .ok (.iaload, 1) := by decide +kernel
theorem dX10_hasRoomOnRail_87 : decode cX10_hasRoomOnRail 87 = .ok (.if_icmp .ge 5, 3) := by decide +kernel
theorem dX10_hasRoomOnRail_90 : decode cX10_hasRoomOnRail 90 = .ok (.iconst 0, 1) := by decide +kernel
theorem dX10_hasRoomOnRail_91 : decode cX10_hasRoomOnRail 91 = .ok (.ireturn, 1) := by decide +kernel
theorem dX10_hasRoomOnRail_92 : decode cX10_hasRoomOnRail 92 = .ok (.iinc 4 1, 3) := by decide +kernel
theorem dX10_hasRoomOnRail_95 : decode cX10_hasRoomOnRail 95 = .ok (.goto (-81), 3) := by decide +kernel
theorem dX10_hasRoomOnRail_98 : decode cX10_hasRoomOnRail 98 = .ok (.iconst 1, 1) := by decide +kernel
theorem dX10_hasRoomOnRail_99 : decode cX10_hasRoomOnRail 99 = .ok (.ireturn, 1) := by decide +kernel
def M_X10_hasRoomOnRail : y_M := (yX10_hasRoomOnRail, cX10_hasRoomOnRail, 7, (Option.some Jvm.ClassFile.FieldType.boolean))
theorem n_X10_hasRoomOnRail : y_N0 M_X10_hasRoomOnRail 3 := ⟨(c_3 171 (by decide +kernel) rfl), (c_1 2 (by decide +kernel) rfl), ⟨by decide +kernel, by decide +kernel⟩, by decide +kernel⟩
theorem l_BoxYard_Yard_151 : y_lnk "BoxYard$Yard" 151 M_X10_craneAt := Or.inl (c_3 160 (by decide +kernel) rfl)
theorem F_BoxYard_Yard_155 : y_F "BoxYard$Yard" 155 3 2 := ⟨_, _, _, rfl, by decide, Or.inr ⟨"BoxYard", (c_3 190 (by decide +kernel) rfl)⟩⟩
theorem F_BoxYard_Yard_158 : y_F "BoxYard$Yard" 158 3 3 := ⟨_, _, _, rfl, by decide, Or.inr ⟨"BoxYard", (c_3 194 (by decide +kernel) rfl)⟩⟩
set_option maxRecDepth 100000 in
def f_X10_hasRoomOnRail (p0 : Nat) (p1 : Int32) (p2 : Int32) (p3 : Int32) (h : y_H) : Option (Bool × y_H) :=
  y_cl (f_X11_isWithin p1 0 2 h) (fun r1 h2 =>
  if r1 = true then
    y_jl (fun (_ : Nat) (_ : Int32) (_ : Int32) (_ : Int32) (_ : Int32) (_ : y_H) => (none : Option (Bool × y_H))) (fun j14 (v0_14 : Nat) (v1_14 : Int32) (v2_14 : Int32) (v3_14 : Int32) (v4_14 : Int32) (h4 : y_H) =>
        if y_K h4 v0_14 = 11 then
        if (y_I h4 v0_14 4) ≤ v4_14 then
          some (true, h4)
        else
          if y_K h4 v0_14 = 11 then
          y_cl (f_X10_craneAt v0_14 v4_14 h4) (fun r5 h6 =>
          y_jn (fun (v0_92 : Nat) (v1_92 : Int32) (v2_92 : Int32) (v3_92 : Int32) (v4_92 : Int32) (h8 : y_H) => (
              j14 v0_92 v1_92 v2_92 v3_92 (v4_92 + 1) h8 : Option (Bool × y_H))) (fun j92 =>
          if r5 = 0 then
            j92 v0_14 v1_14 v2_14 v3_14 v4_14 h6
          else
            if y_K h6 r5 = 4 then
            if (y_I h6 r5 2) = v1_14 then
              if v4_14 = v2_14 then
                j92 v0_14 v1_14 v2_14 v3_14 v4_14 h6
              else
                if v2_14 ≤ v4_14 then
                  if y_K h6 r5 = 4 then
                  if y_K h6 v0_14 = 11 then
                  if y_K h6 (y_P h6 v0_14 7) = 100 ∧ y_ix v1_14 (y_N h6 (y_P h6 v0_14 7)) = true then
                  if (y_I h6 (y_P h6 v0_14 7) (Int32.toNatClampNeg v1_14)) ≤ ((y_I h6 r5 3) - v3_14) then
                    j92 v0_14 v1_14 v2_14 v3_14 v4_14 h6
                  else
                    some (false, h6)
                  else none
                  else none
                  else none
                else
                  if y_K h6 r5 = 4 then
                  if y_K h6 v0_14 = 11 then
                  if y_K h6 (y_P h6 v0_14 7) = 100 ∧ y_ix v1_14 (y_N h6 (y_P h6 v0_14 7)) = true then
                  if (y_I h6 (y_P h6 v0_14 7) (Int32.toNatClampNeg v1_14)) ≤ (v3_14 - (y_I h6 r5 3)) then
                    j92 v0_14 v1_14 v2_14 v3_14 v4_14 h6
                  else
                    some (false, h6)
                  else none
                  else none
                  else none
            else
              j92 v0_14 v1_14 v2_14 v3_14 v4_14 h6
            else none))
          else none
        else none) (fun j14 =>
    j14 p0 p1 p2 p3 0 h2)
  else
    some (true, h2))
abbrev rm_X10_hasRoomOnRail : Room := { frames := 2, cells := 0, slots := 0, locals := 43 }
set_option maxRecDepth 100000 in
set_option maxHeartbeats 4000000 in
theorem k_X10_hasRoomOnRail {l : Launch} {G : y_G} {p0 : Nat} {p1 : Int32} {p2 : Int32} {p3 : Int32} {h hz : y_H} {rz : Bool} (hf : f_X10_hasRoomOnRail p0 p1 p2 p3 h = some (rz, hz)) : y_S l G M_X10_hasRoomOnRail rm_X10_hasRoomOnRail [y_p p0, .int p1, .int p2, .int p3] h (some (.int (y_z rz))) hz := by
  refine y_start (lv := [(0, y_p p0), (1, .int p1), (2, .int p2), (3, .int p3)]) (by decide) (by simp [lg_sl, y_p_cat, y_ci, y_cj, M_X10_hasRoomOnRail]) (by simp [lv_args, y_p_cat, y_ci, y_cj]) (fun z ad0 => ?_)
  unfold f_X10_hasRoomOnRail at hf
  refine y_iload_n (pc2 := 1) rfl dX10_hasRoomOnRail_0 rfl ?_
  refine y_iconst (v := 0) (pc2 := 2) rfl dX10_hasRoomOnRail_1 (by decide) ?_
  refine y_iconst (v := 2) (pc2 := 3) rfl dX10_hasRoomOnRail_2 (by decide) ?_
  obtain ⟨r1, h2, c3, hf⟩ := y_clE hf
  refine y_callS (As := [.int p1, .int 0, .int 2]) (rm := rm_X11_isWithin) (cells := 0) (slots := 0) (pc2 := 6) rfl dX10_hasRoomOnRail_3 n_X11_isWithin l_BoxYard_Yard_86 t_X11_isWithin rfl rfl (by decide) (by decide) (by decide) (k_X11_isWithin c3) ?_
  refine y_ifz_ne (tgt := 11) (pc2 := 9) rfl dX10_hasRoomOnRail_6 (by decide) (fun c25 => ?_) (fun c25 => ?_)
  · replace hf := y_it c25 hf
    refine y_iconst (v := 0) (pc2 := 12) rfl dX10_hasRoomOnRail_11 (by decide) ?_
    refine y_jlE hf (fun j => ∀ (v0_14 : Nat) (v1_14 : Int32) (v2_14 : Int32) (v3_14 : Int32) (v4_14 : Int32) (h4 : y_H), j v0_14 v1_14 v2_14 v3_14 v4_14 h4 = some (rz, hz) → y_V l G z rm_X10_hasRoomOnRail M_X10_hasRoomOnRail ad0 h (some (.int (y_z rz))) hz 14 [(0, y_p v0_14), (1, .int v1_14), (2, .int v2_14), (3, .int v3_14), (4, .int v4_14)] [] h4 0 0) (fun _ _ _ _ _ _ hf => by cases hf) (fun j14 hj14 v0_14 v1_14 v2_14 v3_14 v4_14 h4 hf => ?_) (fun j14 hj14 hf => ?_)
    · refine y_iload (pc2 := 16) rfl dX10_hasRoomOnRail_14 rfl ?_
      refine y_aload_n (x := v0_14) (pc2 := 17) rfl dX10_hasRoomOnRail_16 rfl ?_
      obtain ⟨g24, hf⟩ := y_g hf
      refine y_getI (pc2 := 20) rfl dX10_hasRoomOnRail_17 F_BoxYard_Yard_62 (by decide) rfl g24 ?_
      refine y_icmp_ge (tgt := 98) (pc2 := 23) rfl dX10_hasRoomOnRail_20 (by decide) (fun c23 => ?_) (fun c23 => ?_)
      · replace hf := y_it c23 hf
        refine y_iconst (v := 1) (pc2 := 99) rfl dX10_hasRoomOnRail_98 (by decide) ?_
        exact y_zretF (x := true) hf dX10_hasRoomOnRail_99 rfl (by decide) (by decide)
      · replace hf := y_ie c23 hf
        refine y_aload_n (x := v0_14) (pc2 := 24) rfl dX10_hasRoomOnRail_23 rfl ?_
        refine y_iload (pc2 := 26) rfl dX10_hasRoomOnRail_24 rfl ?_
        obtain ⟨g22, hf⟩ := y_g hf
        obtain ⟨r5, h6, c7, hf⟩ := y_clE hf
        refine y_callV (As := [.int v4_14]) (rm := rm_X10_craneAt) (cells := 0) (slots := 0) (pc2 := 29) rfl dX10_hasRoomOnRail_26 n_X10_craneAt l_BoxYard_Yard_151 i_X10_craneAt e_X10_craneAt (ci := 10) rfl rfl (by decide) g22 rfl rfl (by decide) (by decide) (by decide) (k_X10_craneAt c7) ?_
        refine y_astore (lv' := [(5, y_p r5), (0, y_p v0_14), (1, .int v1_14), (2, .int v2_14), (3, .int v3_14), (4, .int v4_14)]) (pc2 := 31) rfl dX10_hasRoomOnRail_29 (by decide) rfl ?_
        refine y_aload (x := r5) (pc2 := 33) rfl dX10_hasRoomOnRail_31 rfl ?_
        refine y_jnE hf (fun j => ∀ (v0_92 : Nat) (v1_92 : Int32) (v2_92 : Int32) (v3_92 : Int32) (v4_92 : Int32) (h8 : y_H), j v0_92 v1_92 v2_92 v3_92 v4_92 h8 = some (rz, hz) → y_V l G z rm_X10_hasRoomOnRail M_X10_hasRoomOnRail ad0 h (some (.int (y_z rz))) hz 92 [(0, y_p v0_92), (1, .int v1_92), (2, .int v2_92), (3, .int v3_92), (4, .int v4_92)] [] h8 0 0) (fun v0_92 v1_92 v2_92 v3_92 v4_92 h8 hf => ?_) (fun j92 hj92 hf => ?_)
        · refine y_iinc (v := v4_92 + 1) (lv' := [(4, .int (v4_92 + 1)), (0, y_p v0_92), (1, .int v1_92), (2, .int v2_92), (3, .int v3_92)]) (pc2 := 95) rfl dX10_hasRoomOnRail_92 rfl rfl (by decide) rfl ?_
          refine y_goto (tgt := 14) dX10_hasRoomOnRail_95 (by decide) ?_
          exact y_pk [1, 2, 3, 4, 0] rfl (hj14 _ _ _ _ _ _ hf)
        · refine y_ifnull (tgt := 92) (pc2 := 36) rfl dX10_hasRoomOnRail_33 (by decide) (fun c21 => ?_) (fun c21 => ?_)
          · replace hf := y_it c21 hf
            exact y_pk [1, 2, 3, 4, 5] rfl (hj92 _ _ _ _ _ _ hf)
          · replace hf := y_ie c21 hf
            refine y_aload (x := r5) (pc2 := 38) rfl dX10_hasRoomOnRail_36 rfl ?_
            obtain ⟨g20, hf⟩ := y_g hf
            refine y_getI (pc2 := 41) rfl dX10_hasRoomOnRail_38 F_BoxYard_Yard_155 (by decide) rfl g20 ?_
            refine y_iload_n (pc2 := 42) rfl dX10_hasRoomOnRail_41 rfl ?_
            refine y_icmp_ne (tgt := 92) (pc2 := 45) rfl dX10_hasRoomOnRail_42 (by decide) (fun c19 => ?_) (fun c19 => ?_)
            · replace hf := y_ie c19 hf
              exact y_pk [1, 2, 3, 4, 5] rfl (hj92 _ _ _ _ _ _ hf)
            · replace hf := y_it c19 hf
              refine y_iload (pc2 := 47) rfl dX10_hasRoomOnRail_45 rfl ?_
              refine y_iload_n (pc2 := 48) rfl dX10_hasRoomOnRail_47 rfl ?_
              refine y_icmp_ne (tgt := 54) (pc2 := 51) rfl dX10_hasRoomOnRail_48 (by decide) (fun c18 => ?_) (fun c18 => ?_)
              · replace hf := y_ie c18 hf
                refine y_iload (pc2 := 56) rfl dX10_hasRoomOnRail_54 rfl ?_
                refine y_iload_n (pc2 := 57) rfl dX10_hasRoomOnRail_56 rfl ?_
                refine y_icmp_ge (tgt := 70) (pc2 := 60) rfl dX10_hasRoomOnRail_57 (by decide) (fun c17 => ?_) (fun c17 => ?_)
                · replace hf := y_it c17 hf
                  refine y_aload (x := r5) (pc2 := 72) rfl dX10_hasRoomOnRail_70 rfl ?_
                  obtain ⟨g12, hf⟩ := y_g hf
                  refine y_getI (pc2 := 75) rfl dX10_hasRoomOnRail_72 F_BoxYard_Yard_158 (by decide) rfl g12 ?_
                  refine y_iload_n (pc2 := 76) rfl dX10_hasRoomOnRail_75 rfl ?_
                  refine y_isub (pc2 := 77) rfl dX10_hasRoomOnRail_76 ?_
                  refine y_istore (lv' := [(6, .int ((y_I h6 r5 3) - v3_14)), (5, y_p r5), (0, y_p v0_14), (1, .int v1_14), (2, .int v2_14), (3, .int v3_14), (4, .int v4_14)]) (pc2 := 79) rfl dX10_hasRoomOnRail_77 (by decide) (by show y_st1 _ 6 _ = _; simp [y_st1, y_p_cat, y_ci, y_cj]) ?_
                  refine y_iload (pc2 := 81) rfl dX10_hasRoomOnRail_79 rfl ?_
                  refine y_aload_n (x := v0_14) (pc2 := 82) rfl dX10_hasRoomOnRail_81 rfl ?_
                  obtain ⟨g11, hf⟩ := y_g hf
                  refine y_getP (pc2 := 85) rfl dX10_hasRoomOnRail_82 F_BoxYard_Yard_35 (by decide) rfl g11 ?_
                  refine y_iload_n (pc2 := 86) rfl dX10_hasRoomOnRail_85 rfl ?_
                  obtain ⟨g10, hf⟩ := y_g hf
                  refine y_iald (pc2 := 87) rfl dX10_hasRoomOnRail_86 g10.1 (y_ix_in g10.2) ?_
                  refine y_icmp_ge (tgt := 92) (pc2 := 90) rfl dX10_hasRoomOnRail_87 (by decide) (fun c9 => ?_) (fun c9 => ?_)
                  · replace hf := y_it c9 hf
                    exact y_pk [2, 3, 4, 5, 6] rfl (hj92 _ _ _ _ _ _ hf)
                  · replace hf := y_ie c9 hf
                    refine y_iconst (v := 0) (pc2 := 91) rfl dX10_hasRoomOnRail_90 (by decide) ?_
                    exact y_zretF (x := false) hf dX10_hasRoomOnRail_91 rfl (by decide) (by decide)
                · replace hf := y_ie c17 hf
                  refine y_iload_n (pc2 := 61) rfl dX10_hasRoomOnRail_60 rfl ?_
                  refine y_aload (x := r5) (pc2 := 63) rfl dX10_hasRoomOnRail_61 rfl ?_
                  obtain ⟨g16, hf⟩ := y_g hf
                  refine y_getI (pc2 := 66) rfl dX10_hasRoomOnRail_63 F_BoxYard_Yard_158 (by decide) rfl g16 ?_
                  refine y_isub (pc2 := 67) rfl dX10_hasRoomOnRail_66 ?_
                  refine y_goto (tgt := 77) dX10_hasRoomOnRail_67 (by decide) ?_
                  refine y_istore (lv' := [(6, .int (v3_14 - (y_I h6 r5 3))), (5, y_p r5), (0, y_p v0_14), (1, .int v1_14), (2, .int v2_14), (3, .int v3_14), (4, .int v4_14)]) (pc2 := 79) rfl dX10_hasRoomOnRail_77 (by decide) (by show y_st1 _ 6 _ = _; simp [y_st1, y_p_cat, y_ci, y_cj]) ?_
                  refine y_iload (pc2 := 81) rfl dX10_hasRoomOnRail_79 rfl ?_
                  refine y_aload_n (x := v0_14) (pc2 := 82) rfl dX10_hasRoomOnRail_81 rfl ?_
                  obtain ⟨g15, hf⟩ := y_g hf
                  refine y_getP (pc2 := 85) rfl dX10_hasRoomOnRail_82 F_BoxYard_Yard_35 (by decide) rfl g15 ?_
                  refine y_iload_n (pc2 := 86) rfl dX10_hasRoomOnRail_85 rfl ?_
                  obtain ⟨g14, hf⟩ := y_g hf
                  refine y_iald (pc2 := 87) rfl dX10_hasRoomOnRail_86 g14.1 (y_ix_in g14.2) ?_
                  refine y_icmp_ge (tgt := 92) (pc2 := 90) rfl dX10_hasRoomOnRail_87 (by decide) (fun c13 => ?_) (fun c13 => ?_)
                  · replace hf := y_it c13 hf
                    exact y_pk [2, 3, 4, 5, 6] rfl (hj92 _ _ _ _ _ _ hf)
                  · replace hf := y_ie c13 hf
                    refine y_iconst (v := 0) (pc2 := 91) rfl dX10_hasRoomOnRail_90 (by decide) ?_
                    exact y_zretF (x := false) hf dX10_hasRoomOnRail_91 rfl (by decide) (by decide)
              · replace hf := y_it c18 hf
                refine y_goto (tgt := 92) dX10_hasRoomOnRail_51 (by decide) ?_
                exact y_pk [1, 2, 3, 4, 5] rfl (hj92 _ _ _ _ _ _ hf)
    · refine y_istore (lv' := [(4, .int 0), (0, y_p p0), (1, .int p1), (2, .int p2), (3, .int p3)]) (pc2 := 14) rfl dX10_hasRoomOnRail_12 (by decide) rfl ?_
      exact y_pk [1, 2, 3, 4, 0] rfl (hj14 _ _ _ _ _ _ hf)
  · replace hf := y_ie c25 hf
    refine y_iconst (v := 1) (pc2 := 10) rfl dX10_hasRoomOnRail_9 (by decide) ?_
    exact y_zretF (x := true) hf dX10_hasRoomOnRail_10 rfl (by decide) (by decide)
theorem dX10_takesGap_0 : decode cX10_takesGap 0 = .ok (.bipush (-10), 2) := by decide +kernel
theorem dX10_takesGap_2 : decode cX10_takesGap 2 = .ok (.istore_n 3, 1) := by decide +kernel
theorem dX10_takesGap_3 : decode cX10_takesGap 3 = .ok (.iconst 0, 1) := by decide +kernel
theorem dX10_takesGap_4 : decode cX10_takesGap 4 = .ok (.istore 4, 2) := by decide +kernel
theorem dX10_takesGap_6 : decode cX10_takesGap 6 = .ok (.iload 4, 2) := by decide +kernel
theorem dX10_takesGap_8 : decode cX10_takesGap 8 = .ok (.aload_n 0, 1) := by decide +kernel
theorem dX10_takesGap_9 : decode cX10_takesGap 9 = .ok (.getfield 62, 3) := by decide +kernel
theorem dX10_takesGap_12 : decode cX10_takesGap 12 = .ok (.if_icmp .ge 53, 3) := by decide +kernel
theorem dX10_takesGap_15 : decode cX10_takesGap 15 = .ok (.aload_n 0, 1) := by decide +kernel
theorem dX10_takesGap_16 : decode cX10_takesGap 16 = .ok (.iload 4, 2) := by decide +kernel
theorem dX10_takesGap_18 : decode cX10_takesGap 18 = .ok (.invokevirtual 151, 3) := by decide +kernel
theorem dX10_takesGap_21 : decode cX10_takesGap 21 = .ok (.astore 5, 2) := by decide +kernel
theorem dX10_takesGap_23 : decode cX10_takesGap 23 = .ok (.aload 5, 2) := by decide +kernel
theorem dX10_takesGap_25 : decode cX10_takesGap 25 = .ok (.ifnull 34, 3) := by decide +kernel
theorem dX10_takesGap_28 : decode cX10_takesGap 28 = .ok (.aload 5, 2) := by decide +kernel
theorem dX10_takesGap_30 : decode cX10_takesGap 30 = .ok (.getfield 155, 3) := by decide +kernel
theorem dX10_takesGap_33 : decode cX10_takesGap 33 = .ok (.iload_n 1, 1) := by decide +kernel
theorem dX10_takesGap_34 : decode cX10_takesGap 34 = .ok (.if_icmp .eq 6, 3) := by decide +kernel
theorem dX10_takesGap_37 : decode cX10_takesGap 37 = .ok (.goto 22, 3) := by decide +kernel
theorem dX10_takesGap_40 : decode cX10_takesGap 40 = .ok (.aload 5, 2) := by decide +kernel
theorem dX10_takesGap_42 : decode cX10_takesGap 42 = .ok (.getfield 158, 3) := by decide +kernel
theorem dX10_takesGap_45 : decode cX10_takesGap 45 = .ok (.iload_n 3, 1) := by decide +kernel
theorem dX10_takesGap_46 : decode cX10_takesGap 46 = .ok (.isub, 1) := by decide +kernel
theorem dX10_takesGap_47 : decode cX10_takesGap 47 = .ok (.iload_n 2, 1) := by decide +kernel
theorem dX10_takesGap_48 : decode cX10_takesGap 48 = .ok (.if_icmp .ge 5, 3) := by decide +kernel
theorem dX10_takesGap_51 : decode cX10_takesGap 51 = .ok (.iconst 0, 1) := by decide +kernel
theorem dX10_takesGap_52 : decode cX10_takesGap 52 = .ok (.ireturn, 1) := by decide +kernel
theorem dX10_takesGap_53 : decode cX10_takesGap 53 = .ok (.aload 5, 2) := by decide +kernel
theorem dX10_takesGap_55 : decode cX10_takesGap 55 = .ok (.getfield 158, 3) := by decide +kernel
theorem dX10_takesGap_58 : decode cX10_takesGap 58 = .ok (.istore_n 3, 1) := by decide +kernel
theorem dX10_takesGap_59 : decode cX10_takesGap 59 = .ok (.iinc 4 1, 3) := by decide +kernel
theorem dX10_takesGap_62 : decode cX10_takesGap 62 = .ok (.goto (-56), 3) := by decide +kernel
theorem dX10_takesGap_65 : decode cX10_takesGap 65 = .ok (.iconst 1, 1) := by decide +kernel
theorem dX10_takesGap_66 : decode cX10_takesGap 66 = .ok (.ireturn, 1) := by decide +kernel
def M_X10_takesGap : y_M := (yX10_takesGap, cX10_takesGap, 6, (Option.some Jvm.ClassFile.FieldType.boolean))
theorem n_X10_takesGap : y_N0 M_X10_takesGap 2 := ⟨(c_3 159 (by decide +kernel) rfl), (c_1 2 (by decide +kernel) rfl), ⟨by decide +kernel, by decide +kernel⟩, by decide +kernel⟩
set_option maxRecDepth 100000 in
def f_X10_takesGap (p0 : Nat) (p1 : Int32) (p2 : Int32) (h : y_H) : Option (Bool × y_H) :=
  y_jl (fun (_ : Nat) (_ : Int32) (_ : Int32) (_ : Int32) (_ : Int32) (_ : y_H) => (none : Option (Bool × y_H))) (fun j6 (v0_6 : Nat) (v1_6 : Int32) (v2_6 : Int32) (v3_6 : Int32) (v4_6 : Int32) (h1 : y_H) =>
      if y_K h1 v0_6 = 11 then
      if (y_I h1 v0_6 4) ≤ v4_6 then
        some (true, h1)
      else
        if y_K h1 v0_6 = 11 then
        y_cl (f_X10_craneAt v0_6 v4_6 h1) (fun r2 h3 =>
        y_jn (fun (v0_59 : Nat) (v1_59 : Int32) (v2_59 : Int32) (v3_59 : Int32) (v4_59 : Int32) (h5 : y_H) => (
            j6 v0_59 v1_59 v2_59 v3_59 (v4_59 + 1) h5 : Option (Bool × y_H))) (fun j59 =>
        if r2 = 0 then
          j59 v0_6 v1_6 v2_6 v3_6 v4_6 h3
        else
          if y_K h3 r2 = 4 then
          if (y_I h3 r2 2) = v1_6 then
            if y_K h3 r2 = 4 then
            if v2_6 ≤ ((y_I h3 r2 3) - v3_6) then
              if y_K h3 r2 = 4 then
              j59 v0_6 v1_6 v2_6 (y_I h3 r2 3) v4_6 h3
              else none
            else
              some (false, h3)
            else none
          else
            j59 v0_6 v1_6 v2_6 v3_6 v4_6 h3
          else none))
        else none
      else none) (fun j6 =>
  j6 p0 p1 p2 (-10 : Int32) 0 h)
abbrev rm_X10_takesGap : Room := { frames := 2, cells := 0, slots := 0, locals := 43 }
set_option maxRecDepth 100000 in
set_option maxHeartbeats 4000000 in
theorem k_X10_takesGap {l : Launch} {G : y_G} {p0 : Nat} {p1 : Int32} {p2 : Int32} {h hz : y_H} {rz : Bool} (hf : f_X10_takesGap p0 p1 p2 h = some (rz, hz)) : y_S l G M_X10_takesGap rm_X10_takesGap [y_p p0, .int p1, .int p2] h (some (.int (y_z rz))) hz := by
  refine y_start (lv := [(0, y_p p0), (1, .int p1), (2, .int p2)]) (by decide) (by simp [lg_sl, y_p_cat, y_ci, y_cj, M_X10_takesGap]) (by simp [lv_args, y_p_cat, y_ci, y_cj]) (fun z ad0 => ?_)
  unfold f_X10_takesGap at hf
  refine y_bipush (v := (-10 : Int32)) (pc2 := 2) rfl dX10_takesGap_0 (by decide) ?_
  refine y_istore_n (lv' := [(3, .int (-10 : Int32)), (0, y_p p0), (1, .int p1), (2, .int p2)]) (pc2 := 3) rfl dX10_takesGap_2 (by decide) rfl ?_
  refine y_iconst (v := 0) (pc2 := 4) rfl dX10_takesGap_3 (by decide) ?_
  refine y_jlE hf (fun j => ∀ (v0_6 : Nat) (v1_6 : Int32) (v2_6 : Int32) (v3_6 : Int32) (v4_6 : Int32) (h1 : y_H), j v0_6 v1_6 v2_6 v3_6 v4_6 h1 = some (rz, hz) → y_V l G z rm_X10_takesGap M_X10_takesGap ad0 h (some (.int (y_z rz))) hz 6 [(0, y_p v0_6), (1, .int v1_6), (2, .int v2_6), (3, .int v3_6), (4, .int v4_6)] [] h1 0 0) (fun _ _ _ _ _ _ hf => by cases hf) (fun j6 hj6 v0_6 v1_6 v2_6 v3_6 v4_6 h1 hf => ?_) (fun j6 hj6 hf => ?_)
  · refine y_iload (pc2 := 8) rfl dX10_takesGap_6 rfl ?_
    refine y_aload_n (x := v0_6) (pc2 := 9) rfl dX10_takesGap_8 rfl ?_
    obtain ⟨g14, hf⟩ := y_g hf
    refine y_getI (pc2 := 12) rfl dX10_takesGap_9 F_BoxYard_Yard_62 (by decide) rfl g14 ?_
    refine y_icmp_ge (tgt := 65) (pc2 := 15) rfl dX10_takesGap_12 (by decide) (fun c13 => ?_) (fun c13 => ?_)
    · replace hf := y_it c13 hf
      refine y_iconst (v := 1) (pc2 := 66) rfl dX10_takesGap_65 (by decide) ?_
      exact y_zretF (x := true) hf dX10_takesGap_66 rfl (by decide) (by decide)
    · replace hf := y_ie c13 hf
      refine y_aload_n (x := v0_6) (pc2 := 16) rfl dX10_takesGap_15 rfl ?_
      refine y_iload (pc2 := 18) rfl dX10_takesGap_16 rfl ?_
      obtain ⟨g12, hf⟩ := y_g hf
      obtain ⟨r2, h3, c4, hf⟩ := y_clE hf
      refine y_callV (As := [.int v4_6]) (rm := rm_X10_craneAt) (cells := 0) (slots := 0) (pc2 := 21) rfl dX10_takesGap_18 n_X10_craneAt l_BoxYard_Yard_151 i_X10_craneAt e_X10_craneAt (ci := 10) rfl rfl (by decide) g12 rfl rfl (by decide) (by decide) (by decide) (k_X10_craneAt c4) ?_
      refine y_astore (lv' := [(5, y_p r2), (0, y_p v0_6), (1, .int v1_6), (2, .int v2_6), (3, .int v3_6), (4, .int v4_6)]) (pc2 := 23) rfl dX10_takesGap_21 (by decide) rfl ?_
      refine y_aload (x := r2) (pc2 := 25) rfl dX10_takesGap_23 rfl ?_
      refine y_jnE hf (fun j => ∀ (v0_59 : Nat) (v1_59 : Int32) (v2_59 : Int32) (v3_59 : Int32) (v4_59 : Int32) (h5 : y_H), j v0_59 v1_59 v2_59 v3_59 v4_59 h5 = some (rz, hz) → y_V l G z rm_X10_takesGap M_X10_takesGap ad0 h (some (.int (y_z rz))) hz 59 [(0, y_p v0_59), (1, .int v1_59), (2, .int v2_59), (3, .int v3_59), (4, .int v4_59)] [] h5 0 0) (fun v0_59 v1_59 v2_59 v3_59 v4_59 h5 hf => ?_) (fun j59 hj59 hf => ?_)
      · refine y_iinc (v := v4_59 + 1) (lv' := [(4, .int (v4_59 + 1)), (0, y_p v0_59), (1, .int v1_59), (2, .int v2_59), (3, .int v3_59)]) (pc2 := 62) rfl dX10_takesGap_59 rfl rfl (by decide) rfl ?_
        refine y_goto (tgt := 6) dX10_takesGap_62 (by decide) ?_
        exact y_pk [1, 2, 3, 4, 0] rfl (hj6 _ _ _ _ _ _ hf)
      · refine y_ifnull (tgt := 59) (pc2 := 28) rfl dX10_takesGap_25 (by decide) (fun c11 => ?_) (fun c11 => ?_)
        · replace hf := y_it c11 hf
          exact y_pk [1, 2, 3, 4, 5] rfl (hj59 _ _ _ _ _ _ hf)
        · replace hf := y_ie c11 hf
          refine y_aload (x := r2) (pc2 := 30) rfl dX10_takesGap_28 rfl ?_
          obtain ⟨g10, hf⟩ := y_g hf
          refine y_getI (pc2 := 33) rfl dX10_takesGap_30 F_BoxYard_Yard_155 (by decide) rfl g10 ?_
          refine y_iload_n (pc2 := 34) rfl dX10_takesGap_33 rfl ?_
          refine y_icmp_eq (tgt := 40) (pc2 := 37) rfl dX10_takesGap_34 (by decide) (fun c9 => ?_) (fun c9 => ?_)
          · replace hf := y_it c9 hf
            refine y_aload (x := r2) (pc2 := 42) rfl dX10_takesGap_40 rfl ?_
            obtain ⟨g8, hf⟩ := y_g hf
            refine y_getI (pc2 := 45) rfl dX10_takesGap_42 F_BoxYard_Yard_158 (by decide) rfl g8 ?_
            refine y_iload_n (pc2 := 46) rfl dX10_takesGap_45 rfl ?_
            refine y_isub (pc2 := 47) rfl dX10_takesGap_46 ?_
            refine y_iload_n (pc2 := 48) rfl dX10_takesGap_47 rfl ?_
            refine y_icmp_ge (tgt := 53) (pc2 := 51) rfl dX10_takesGap_48 (by decide) (fun c7 => ?_) (fun c7 => ?_)
            · replace hf := y_it c7 hf
              refine y_aload (x := r2) (pc2 := 55) rfl dX10_takesGap_53 rfl ?_
              obtain ⟨g6, hf⟩ := y_g hf
              refine y_getI (pc2 := 58) rfl dX10_takesGap_55 F_BoxYard_Yard_158 (by decide) rfl g6 ?_
              refine y_istore_n (lv' := [(3, .int (y_I h3 r2 3)), (5, y_p r2), (0, y_p v0_6), (1, .int v1_6), (2, .int v2_6), (4, .int v4_6)]) (pc2 := 59) rfl dX10_takesGap_58 (by decide) rfl ?_
              exact y_pk [2, 3, 4, 0, 5] rfl (hj59 _ _ _ _ _ _ hf)
            · replace hf := y_ie c7 hf
              refine y_iconst (v := 0) (pc2 := 52) rfl dX10_takesGap_51 (by decide) ?_
              exact y_zretF (x := false) hf dX10_takesGap_52 rfl (by decide) (by decide)
          · replace hf := y_ie c9 hf
            refine y_goto (tgt := 59) dX10_takesGap_37 (by decide) ?_
            exact y_pk [1, 2, 3, 4, 5] rfl (hj59 _ _ _ _ _ _ hf)
  · refine y_istore (lv' := [(4, .int 0), (3, .int (-10 : Int32)), (0, y_p p0), (1, .int p1), (2, .int p2)]) (pc2 := 6) rfl dX10_takesGap_4 (by decide) rfl ?_
    exact y_pk [2, 3, 4, 1, 0] rfl (hj6 _ _ _ _ _ _ hf)
theorem dX10_isTooWindy_0 : decode cX10_isTooWindy 0 = .ok (.aload_n 0, 1) := by decide +kernel
theorem dX10_isTooWindy_1 : decode cX10_isTooWindy 1 = .ok (.getfield 68, 3) := by decide +kernel
theorem dX10_isTooWindy_4 : decode cX10_isTooWindy 4 = .ok (.aload_n 1, 1) := by decide +kernel
theorem dX10_isTooWindy_5 : decode cX10_isTooWindy 5 = .ok (.aload_n 0, 1) := by decide +kernel
theorem dX10_isTooWindy_6 : decode cX10_isTooWindy 6 = .ok (.getfield 48, 3) := by decide +kernel
theorem dX10_isTooWindy_9 : decode cX10_isTooWindy 9 = .ok (.invokevirtual 161, 3) := by decide +kernel
theorem dX10_isTooWindy_12 : decode cX10_isTooWindy 12 = .ok (.if_icmp .le 7, 3) := by decide +kernel
theorem dX10_isTooWindy_15 : decode cX10_isTooWindy 15 = .ok (.iconst 1, 1) := by decide +kernel
theorem dX10_isTooWindy_16 : decode cX10_isTooWindy 16 = .ok (.goto 4, 3) := by decide +kernel
theorem dX10_isTooWindy_19 : decode cX10_isTooWindy 19 = .ok (.iconst 0, 1) := by decide +kernel
theorem dX10_isTooWindy_20 : decode cX10_isTooWindy 20 = .ok (.ireturn, 1) := by decide +kernel
def M_X10_isTooWindy : y_M := (yX10_isTooWindy, cX10_isTooWindy, 2, (Option.some Jvm.ClassFile.FieldType.boolean))
theorem n_X10_isTooWindy : y_N0 M_X10_isTooWindy 1 := ⟨(c_4 47 (by decide +kernel) rfl), (c_1 2 (by decide +kernel) rfl), ⟨by decide +kernel, by decide +kernel⟩, by decide +kernel⟩
theorem F_BoxYard_Yard_68 : y_F "BoxYard$Yard" 68 10 9 := ⟨_, _, _, rfl, by decide, Or.inl (c_1 73 (by decide +kernel) rfl)⟩
theorem l_BoxYard_Yard_161 : y_lnk "BoxYard$Yard" 161 M_X3_stop := Or.inl (c_4 48 (by decide +kernel) rfl)
set_option maxRecDepth 100000 in
def f_X10_isTooWindy (p0 : Nat) (p1 : Nat) (h : y_H) : Option (Bool × y_H) :=
  if y_K h p0 = 11 then
  if y_K h p0 = 11 then
  if y_K h p1 = 4 then
  y_cl (f_X3_stop p1 (y_P h p0 12) h) (fun r1 h2 =>
  if (y_I h p0 9) ≤ r1 then
    some (false, h2)
  else
    some (true, h2))
  else none
  else none
  else none
abbrev rm_X10_isTooWindy : Room := { frames := 3, cells := 0, slots := 0, locals := 63 }
set_option maxRecDepth 100000 in
set_option maxHeartbeats 4000000 in
theorem k_X10_isTooWindy {l : Launch} {G : y_G} {p0 : Nat} {p1 : Nat} {h hz : y_H} {rz : Bool} (hf : f_X10_isTooWindy p0 p1 h = some (rz, hz)) : y_S l G M_X10_isTooWindy rm_X10_isTooWindy [y_p p0, y_p p1] h (some (.int (y_z rz))) hz := by
  refine y_start (lv := [(0, y_p p0), (1, y_p p1)]) (by decide) (by simp [lg_sl, y_p_cat, y_ci, y_cj, M_X10_isTooWindy]) (by simp [lv_args, y_p_cat, y_ci, y_cj]) (fun z ad0 => ?_)
  unfold f_X10_isTooWindy at hf
  refine y_aload_n (x := p0) (pc2 := 1) rfl dX10_isTooWindy_0 rfl ?_
  obtain ⟨g7, hf⟩ := y_g hf
  refine y_getI (pc2 := 4) rfl dX10_isTooWindy_1 F_BoxYard_Yard_68 (by decide) rfl g7 ?_
  refine y_aload_n (x := p1) (pc2 := 5) rfl dX10_isTooWindy_4 rfl ?_
  refine y_aload_n (x := p0) (pc2 := 6) rfl dX10_isTooWindy_5 rfl ?_
  obtain ⟨g6, hf⟩ := y_g hf
  refine y_getP (pc2 := 9) rfl dX10_isTooWindy_6 F_BoxYard_Yard_48 (by decide) rfl g6 ?_
  obtain ⟨g5, hf⟩ := y_g hf
  obtain ⟨r1, h2, c3, hf⟩ := y_clE hf
  refine y_callV (As := [y_p (y_P h p0 12)]) (rm := rm_X3_stop) (cells := 0) (slots := 0) (pc2 := 12) rfl dX10_isTooWindy_9 n_X3_stop l_BoxYard_Yard_161 i_X3_stop e_X3_stop (ci := 3) rfl rfl (by decide) g5 rfl rfl (by decide) (by simp [y_ci, y_cj, y_p_cat]) (by decide) (k_X3_stop c3) ?_
  refine y_icmp_le (tgt := 19) (pc2 := 15) rfl dX10_isTooWindy_12 (by decide) (fun c4 => ?_) (fun c4 => ?_)
  · replace hf := y_it c4 hf
    refine y_iconst (v := 0) (pc2 := 20) rfl dX10_isTooWindy_19 (by decide) ?_
    exact y_zretF (x := false) hf dX10_isTooWindy_20 rfl (by decide) (by decide)
  · replace hf := y_ie c4 hf
    refine y_iconst (v := 1) (pc2 := 16) rfl dX10_isTooWindy_15 (by decide) ?_
    refine y_goto (tgt := 20) dX10_isTooWindy_16 (by decide) ?_
    exact y_zretF (x := true) hf dX10_isTooWindy_20 rfl (by decide) (by decide)
theorem dX10_meetsGoing_0 : decode cX10_meetsGoing 0 = .ok (.aload_n 0, 1) := by decide +kernel
theorem dX10_meetsGoing_1 : decode cX10_meetsGoing 1 = .ok (.aload_n 1, 1) := by decide +kernel
theorem dX10_meetsGoing_2 : decode cX10_meetsGoing 2 = .ok (.invokevirtual 165, 3) := by decide +kernel
theorem dX10_meetsGoing_5 : decode cX10_meetsGoing 5 = .ok (.ifCond .eq 6, 3) := by decide +kernel
theorem dX10_meetsGoing_8 : decode cX10_meetsGoing 8 = .ok (.bipush (-46), 2) := by decide +kernel
theorem dX10_meetsGoing_10 : decode cX10_meetsGoing 10 = .ok (.ireturn, 1) := by decide +kernel
theorem dX10_meetsGoing_11 : decode cX10_meetsGoing 11 = .ok (.aload_n 0, 1) := by decide +kernel
theorem dX10_meetsGoing_12 : decode cX10_meetsGoing 12 = .ok (.aload_n 1, 1) := by decide +kernel
theorem dX10_meetsGoing_13 : decode cX10_meetsGoing 13 = .ok (.getfield 155, 3) := by decide +kernel
theorem dX10_meetsGoing_16 : decode cX10_meetsGoing 16 = .ok (.aload_n 1, 1) := by decide +kernel
theorem dX10_meetsGoing_17 : decode cX10_meetsGoing 17 = .ok (.getfield 169, 3) := by decide +kernel
theorem dX10_meetsGoing_20 : decode cX10_meetsGoing 20 = .ok (.iload_n 2, 1) := by decide +kernel
theorem dX10_meetsGoing_21 : decode cX10_meetsGoing 21 = .ok (.invokevirtual 170, 3) := by decide +kernel
theorem dX10_meetsGoing_24 : decode cX10_meetsGoing 24 = .ok (.ifCond .eq 7, 3) := by decide +kernel
theorem dX10_meetsGoing_27 : decode cX10_meetsGoing 27 = .ok (.iconst 0, 1) := by decide +kernel
theorem dX10_meetsGoing_28 : decode cX10_meetsGoing 28 = .ok (.goto 5, 3) := by decide +kernel
theorem dX10_meetsGoing_31 : decode cX10_meetsGoing 31 = .ok (.bipush (-47), 2) := by decide +kernel
theorem dX10_meetsGoing_33 : decode cX10_meetsGoing 33 = .ok (.ireturn, 1) := by decide +kernel
def M_X10_meetsGoing : y_M := (yX10_meetsGoing, cX10_meetsGoing, 3, (Option.some Jvm.ClassFile.FieldType.int))
theorem n_X10_meetsGoing : y_N0 M_X10_meetsGoing 2 := ⟨(c_4 118 (by decide +kernel) rfl), (c_1 2 (by decide +kernel) rfl), ⟨by decide +kernel, by decide +kernel⟩, by decide +kernel⟩
theorem l_BoxYard_Yard_165 : y_lnk "BoxYard$Yard" 165 M_X10_isTooWindy := Or.inl (c_4 44 (by decide +kernel) rfl)
theorem i_X10_isTooWindy : Cond.instanceMethod (M_X10_isTooWindy).1 ∈ y_tb := (c_4 46 (by decide +kernel) rfl)
theorem e_X10_isTooWindy : Cond.selects (M_X10_isTooWindy).1.cls (M_X10_isTooWindy).1 (M_X10_isTooWindy).1 ∈ y_tb := (m_s 12 (by decide +kernel) rfl)
theorem F_BoxYard_Yard_169 : y_F "BoxYard$Yard" 169 3 0 := ⟨_, _, _, rfl, by decide, Or.inr ⟨"BoxYard", (c_3 184 (by decide +kernel) rfl)⟩⟩
theorem l_BoxYard_Yard_170 : y_lnk "BoxYard$Yard" 170 M_X10_hasRoomOnRail := Or.inl (c_4 119 (by decide +kernel) rfl)
theorem i_X10_hasRoomOnRail : Cond.instanceMethod (M_X10_hasRoomOnRail).1 ∈ y_tb := (c_3 169 (by decide +kernel) rfl)
theorem e_X10_hasRoomOnRail : Cond.selects (M_X10_hasRoomOnRail).1.cls (M_X10_hasRoomOnRail).1 (M_X10_hasRoomOnRail).1 ∈ y_tb := (c_3 170 (by decide +kernel) rfl)
set_option maxRecDepth 100000 in
def f_X10_meetsGoing (p0 : Nat) (p1 : Nat) (p2 : Int32) (h : y_H) : Option (Int32 × y_H) :=
  if y_K h p0 = 11 then
  y_cl (f_X10_isTooWindy p0 p1 h) (fun r1 h2 =>
  if r1 = true then
    some ((-46 : Int32), h2)
  else
    if y_K h2 p1 = 4 then
    if y_K h2 p1 = 4 then
    if y_K h2 p0 = 11 then
    y_cl (f_X10_hasRoomOnRail p0 (y_I h2 p1 2) (y_I h2 p1 0) p2 h2) (fun r4 h5 =>
    if r4 = true then
      some (0, h5)
    else
      some ((-47 : Int32), h5))
    else none
    else none
    else none)
  else none
abbrev rm_X10_meetsGoing : Room := { frames := 4, cells := 0, slots := 0, locals := 84 }
set_option maxRecDepth 100000 in
set_option maxHeartbeats 4000000 in
theorem k_X10_meetsGoing {l : Launch} {G : y_G} {p0 : Nat} {p1 : Nat} {p2 : Int32} {h hz : y_H} {rz : Int32} (hf : f_X10_meetsGoing p0 p1 p2 h = some (rz, hz)) : y_S l G M_X10_meetsGoing rm_X10_meetsGoing [y_p p0, y_p p1, .int p2] h (some (.int rz)) hz := by
  refine y_start (lv := [(0, y_p p0), (1, y_p p1), (2, .int p2)]) (by decide) (by simp [lg_sl, y_p_cat, y_ci, y_cj, M_X10_meetsGoing]) (by simp [lv_args, y_p_cat, y_ci, y_cj]) (fun z ad0 => ?_)
  unfold f_X10_meetsGoing at hf
  refine y_aload_n (x := p0) (pc2 := 1) rfl dX10_meetsGoing_0 rfl ?_
  refine y_aload_n (x := p1) (pc2 := 2) rfl dX10_meetsGoing_1 rfl ?_
  obtain ⟨g12, hf⟩ := y_g hf
  obtain ⟨r1, h2, c3, hf⟩ := y_clE hf
  refine y_callV (As := [y_p p1]) (rm := rm_X10_isTooWindy) (cells := 0) (slots := 0) (pc2 := 5) rfl dX10_meetsGoing_2 n_X10_isTooWindy l_BoxYard_Yard_165 i_X10_isTooWindy e_X10_isTooWindy (ci := 10) rfl rfl (by decide) g12 rfl rfl (by decide) (by decide) (by decide) (k_X10_isTooWindy c3) ?_
  refine y_ifz_eq (tgt := 11) (pc2 := 8) rfl dX10_meetsGoing_5 (by decide) (fun c11 => ?_) (fun c11 => ?_)
  · replace hf := y_ie c11 hf
    refine y_aload_n (x := p0) (pc2 := 12) rfl dX10_meetsGoing_11 rfl ?_
    refine y_aload_n (x := p1) (pc2 := 13) rfl dX10_meetsGoing_12 rfl ?_
    obtain ⟨g10, hf⟩ := y_g hf
    refine y_getI (pc2 := 16) rfl dX10_meetsGoing_13 F_BoxYard_Yard_155 (by decide) rfl g10 ?_
    refine y_aload_n (x := p1) (pc2 := 17) rfl dX10_meetsGoing_16 rfl ?_
    obtain ⟨g9, hf⟩ := y_g hf
    refine y_getI (pc2 := 20) rfl dX10_meetsGoing_17 F_BoxYard_Yard_169 (by decide) rfl g9 ?_
    refine y_iload_n (pc2 := 21) rfl dX10_meetsGoing_20 rfl ?_
    obtain ⟨g8, hf⟩ := y_g hf
    obtain ⟨r4, h5, c6, hf⟩ := y_clE hf
    refine y_callV (As := [.int (y_I h2 p1 2), .int (y_I h2 p1 0), .int p2]) (rm := rm_X10_hasRoomOnRail) (cells := 0) (slots := 0) (pc2 := 24) rfl dX10_meetsGoing_21 n_X10_hasRoomOnRail l_BoxYard_Yard_170 i_X10_hasRoomOnRail e_X10_hasRoomOnRail (ci := 10) rfl rfl (by decide) g8 rfl rfl (by decide) (by decide) (by decide) (k_X10_hasRoomOnRail c6) ?_
    refine y_ifz_eq (tgt := 31) (pc2 := 27) rfl dX10_meetsGoing_24 (by decide) (fun c7 => ?_) (fun c7 => ?_)
    · replace hf := y_ie c7 hf
      refine y_bipush (v := (-47 : Int32)) (pc2 := 33) rfl dX10_meetsGoing_31 (by decide) ?_
      exact y_iretF hf dX10_meetsGoing_33 rfl (by decide) (by decide)
    · replace hf := y_it c7 hf
      refine y_iconst (v := 0) (pc2 := 28) rfl dX10_meetsGoing_27 (by decide) ?_
      refine y_goto (tgt := 33) dX10_meetsGoing_28 (by decide) ?_
      exact y_iretF hf dX10_meetsGoing_33 rfl (by decide) (by decide)
  · replace hf := y_it c11 hf
    refine y_bipush (v := (-46 : Int32)) (pc2 := 10) rfl dX10_meetsGoing_8 (by decide) ?_
    exact y_iretF hf dX10_meetsGoing_10 rfl (by decide) (by decide)
theorem dX10_meetsDropping_0 : decode cX10_meetsDropping 0 = .ok (.aload_n 0, 1) := by decide +kernel
theorem dX10_meetsDropping_1 : decode cX10_meetsDropping 1 = .ok (.aload_n 1, 1) := by decide +kernel
theorem dX10_meetsDropping_2 : decode cX10_meetsDropping 2 = .ok (.invokevirtual 165, 3) := by decide +kernel
theorem dX10_meetsDropping_5 : decode cX10_meetsDropping 5 = .ok (.ifCond .eq 6, 3) := by decide +kernel
theorem dX10_meetsDropping_8 : decode cX10_meetsDropping 8 = .ok (.bipush (-46), 2) := by decide +kernel
theorem dX10_meetsDropping_10 : decode cX10_meetsDropping 10 = .ok (.ireturn, 1) := by decide +kernel
theorem dX10_meetsDropping_11 : decode cX10_meetsDropping 11 = .ok (.aload_n 1, 1) := by decide +kernel
theorem dX10_meetsDropping_12 : decode cX10_meetsDropping 12 = .ok (.getfield 158, 3) := by decide +kernel
theorem dX10_meetsDropping_15 : decode cX10_meetsDropping 15 = .ok (.ifCond .eq 8, 3) := by decide +kernel
theorem dX10_meetsDropping_18 : decode cX10_meetsDropping 18 = .ok (.bipush (-50), 2) := by decide +kernel
theorem dX10_meetsDropping_20 : decode cX10_meetsDropping 20 = .ok (.goto 4, 3) := by decide +kernel
theorem dX10_meetsDropping_23 : decode cX10_meetsDropping 23 = .ok (.iconst 0, 1) := by decide +kernel
theorem dX10_meetsDropping_24 : decode cX10_meetsDropping 24 = .ok (.ireturn, 1) := by decide +kernel
def M_X10_meetsDropping : y_M := (yX10_meetsDropping, cX10_meetsDropping, 2, (Option.some Jvm.ClassFile.FieldType.int))
theorem n_X10_meetsDropping : y_N0 M_X10_meetsDropping 1 := ⟨(c_4 144 (by decide +kernel) rfl), (c_1 2 (by decide +kernel) rfl), ⟨by decide +kernel, by decide +kernel⟩, by decide +kernel⟩
set_option maxRecDepth 100000 in
def f_X10_meetsDropping (p0 : Nat) (p1 : Nat) (h : y_H) : Option (Int32 × y_H) :=
  if y_K h p0 = 11 then
  y_cl (f_X10_isTooWindy p0 p1 h) (fun r1 h2 =>
  if r1 = true then
    some ((-46 : Int32), h2)
  else
    if y_K h2 p1 = 4 then
    if (y_I h2 p1 3) = 0 then
      some (0, h2)
    else
      some ((-50 : Int32), h2)
    else none)
  else none
abbrev rm_X10_meetsDropping : Room := { frames := 4, cells := 0, slots := 0, locals := 84 }
set_option maxRecDepth 100000 in
set_option maxHeartbeats 4000000 in
theorem k_X10_meetsDropping {l : Launch} {G : y_G} {p0 : Nat} {p1 : Nat} {h hz : y_H} {rz : Int32} (hf : f_X10_meetsDropping p0 p1 h = some (rz, hz)) : y_S l G M_X10_meetsDropping rm_X10_meetsDropping [y_p p0, y_p p1] h (some (.int rz)) hz := by
  refine y_start (lv := [(0, y_p p0), (1, y_p p1)]) (by decide) (by simp [lg_sl, y_p_cat, y_ci, y_cj, M_X10_meetsDropping]) (by simp [lv_args, y_p_cat, y_ci, y_cj]) (fun z ad0 => ?_)
  unfold f_X10_meetsDropping at hf
  refine y_aload_n (x := p0) (pc2 := 1) rfl dX10_meetsDropping_0 rfl ?_
  refine y_aload_n (x := p1) (pc2 := 2) rfl dX10_meetsDropping_1 rfl ?_
  obtain ⟨g7, hf⟩ := y_g hf
  obtain ⟨r1, h2, c3, hf⟩ := y_clE hf
  refine y_callV (As := [y_p p1]) (rm := rm_X10_isTooWindy) (cells := 0) (slots := 0) (pc2 := 5) rfl dX10_meetsDropping_2 n_X10_isTooWindy l_BoxYard_Yard_165 i_X10_isTooWindy e_X10_isTooWindy (ci := 10) rfl rfl (by decide) g7 rfl rfl (by decide) (by decide) (by decide) (k_X10_isTooWindy c3) ?_
  refine y_ifz_eq (tgt := 11) (pc2 := 8) rfl dX10_meetsDropping_5 (by decide) (fun c6 => ?_) (fun c6 => ?_)
  · replace hf := y_ie c6 hf
    refine y_aload_n (x := p1) (pc2 := 12) rfl dX10_meetsDropping_11 rfl ?_
    obtain ⟨g5, hf⟩ := y_g hf
    refine y_getI (pc2 := 15) rfl dX10_meetsDropping_12 F_BoxYard_Yard_158 (by decide) rfl g5 ?_
    refine y_if_eq (tgt := 23) (pc2 := 18) rfl dX10_meetsDropping_15 (by decide) (fun c4 => ?_) (fun c4 => ?_)
    · replace hf := y_it c4 hf
      refine y_iconst (v := 0) (pc2 := 24) rfl dX10_meetsDropping_23 (by decide) ?_
      exact y_iretF hf dX10_meetsDropping_24 rfl (by decide) (by decide)
    · replace hf := y_ie c4 hf
      refine y_bipush (v := (-50 : Int32)) (pc2 := 20) rfl dX10_meetsDropping_18 (by decide) ?_
      refine y_goto (tgt := 24) dX10_meetsDropping_20 (by decide) ?_
      exact y_iretF hf dX10_meetsDropping_24 rfl (by decide) (by decide)
  · replace hf := y_it c6 hf
    refine y_bipush (v := (-46 : Int32)) (pc2 := 10) rfl dX10_meetsDropping_8 (by decide) ?_
    exact y_iretF hf dX10_meetsDropping_10 rfl (by decide) (by decide)
theorem dX10_meetsTaking_0 : decode cX10_meetsTaking 0 = .ok (.aload_n 0, 1) := by decide +kernel
theorem dX10_meetsTaking_1 : decode cX10_meetsTaking 1 = .ok (.aload_n 1, 1) := by decide +kernel
theorem dX10_meetsTaking_2 : decode cX10_meetsTaking 2 = .ok (.invokevirtual 173, 3) := by decide +kernel
theorem dX10_meetsTaking_5 : decode cX10_meetsTaking 5 = .ok (.istore_n 3, 1) := by decide +kernel
theorem dX10_meetsTaking_6 : decode cX10_meetsTaking 6 = .ok (.iload_n 3, 1) := by decide +kernel
theorem dX10_meetsTaking_7 : decode cX10_meetsTaking 7 = .ok (.ifCond .eq 5, 3) := by decide +kernel
theorem dX10_meetsTaking_10 : decode cX10_meetsTaking 10 = .ok (.iload_n 3, 1) := by decide +kernel
theorem dX10_meetsTaking_11 : decode cX10_meetsTaking 11 = .ok (.ireturn, 1) := by decide +kernel
theorem dX10_meetsTaking_12 : decode cX10_meetsTaking 12 = .ok (.aload_n 2, 1) := by decide +kernel
theorem dX10_meetsTaking_13 : decode cX10_meetsTaking 13 = .ok (.invokevirtual 177, 3) := by decide +kernel
theorem dX10_meetsTaking_16 : decode cX10_meetsTaking 16 = .ok (.aload_n 1, 1) := by decide +kernel
theorem dX10_meetsTaking_17 : decode cX10_meetsTaking 17 = .ok (.aload_n 0, 1) := by decide +kernel
theorem dX10_meetsTaking_18 : decode cX10_meetsTaking 18 = .ok (.getfield 48, 3) := by decide +kernel
theorem dX10_meetsTaking_21 : decode cX10_meetsTaking 21 = .ok (.invokevirtual 181, 3) := by decide +kernel
theorem dX10_meetsTaking_24 : decode cX10_meetsTaking 24 = .ok (.if_icmp .le 8, 3) := by decide +kernel
theorem dX10_meetsTaking_27 : decode cX10_meetsTaking 27 = .ok (.bipush (-49), 2) := by decide +kernel
theorem dX10_meetsTaking_29 : decode cX10_meetsTaking 29 = .ok (.goto 4, 3) := by decide +kernel
theorem dX10_meetsTaking_32 : decode cX10_meetsTaking 32 = .ok (.iconst 0, 1) := by decide +kernel
theorem dX10_meetsTaking_33 : decode cX10_meetsTaking 33 = .ok (.ireturn, 1) := by decide +kernel
def M_X10_meetsTaking : y_M := (yX10_meetsTaking, cX10_meetsTaking, 4, (Option.some Jvm.ClassFile.FieldType.int))
theorem n_X10_meetsTaking : y_N0 M_X10_meetsTaking 2 := ⟨(c_4 140 (by decide +kernel) rfl), (c_1 2 (by decide +kernel) rfl), ⟨by decide +kernel, by decide +kernel⟩, by decide +kernel⟩
theorem l_BoxYard_Yard_173 : y_lnk "BoxYard$Yard" 173 M_X10_meetsDropping := Or.inl (c_4 141 (by decide +kernel) rfl)
theorem i_X10_meetsDropping : Cond.instanceMethod (M_X10_meetsDropping).1 ∈ y_tb := (c_4 142 (by decide +kernel) rfl)
theorem e_X10_meetsDropping : Cond.selects (M_X10_meetsDropping).1.cls (M_X10_meetsDropping).1 (M_X10_meetsDropping).1 ∈ y_tb := (c_4 143 (by decide +kernel) rfl)
theorem l_BoxYard_Yard_177 : y_lnk "BoxYard$Yard" 177 M_X2_known := Or.inl (c_4 145 (by decide +kernel) rfl)
theorem l_BoxYard_Yard_181 : y_lnk "BoxYard$Yard" 181 M_X3_strength := Or.inl (c_4 146 (by decide +kernel) rfl)
set_option maxRecDepth 100000 in
def f_X10_meetsTaking (p0 : Nat) (p1 : Nat) (p2 : Nat) (h : y_H) : Option (Int32 × y_H) :=
  if y_K h p0 = 11 then
  y_cl (f_X10_meetsDropping p0 p1 h) (fun r1 h2 =>
  if r1 = 0 then
    if y_K h2 p2 = 3 then
    y_cl (f_X2_known p2 h2) (fun r4 h5 =>
    if y_K h5 p0 = 11 then
    if y_K h5 p1 = 4 then
    y_cl (f_X3_strength p1 (y_P h5 p0 12) h5) (fun r7 h8 =>
    if r4 ≤ r7 then
      some (0, h8)
    else
      some ((-49 : Int32), h8))
    else none
    else none)
    else none
  else
    some (r1, h2))
  else none
abbrev rm_X10_meetsTaking : Room := { frames := 5, cells := 0, slots := 0, locals := 105 }
set_option maxRecDepth 100000 in
set_option maxHeartbeats 4000000 in
theorem k_X10_meetsTaking {l : Launch} {G : y_G} {p0 : Nat} {p1 : Nat} {p2 : Nat} {h hz : y_H} {rz : Int32} (hf : f_X10_meetsTaking p0 p1 p2 h = some (rz, hz)) : y_S l G M_X10_meetsTaking rm_X10_meetsTaking [y_p p0, y_p p1, y_p p2] h (some (.int rz)) hz := by
  refine y_start (lv := [(0, y_p p0), (1, y_p p1), (2, y_p p2)]) (by decide) (by simp [lg_sl, y_p_cat, y_ci, y_cj, M_X10_meetsTaking]) (by simp [lv_args, y_p_cat, y_ci, y_cj]) (fun z ad0 => ?_)
  unfold f_X10_meetsTaking at hf
  refine y_aload_n (x := p0) (pc2 := 1) rfl dX10_meetsTaking_0 rfl ?_
  refine y_aload_n (x := p1) (pc2 := 2) rfl dX10_meetsTaking_1 rfl ?_
  obtain ⟨g15, hf⟩ := y_g hf
  obtain ⟨r1, h2, c3, hf⟩ := y_clE hf
  refine y_callV (As := [y_p p1]) (rm := rm_X10_meetsDropping) (cells := 0) (slots := 0) (pc2 := 5) rfl dX10_meetsTaking_2 n_X10_meetsDropping l_BoxYard_Yard_173 i_X10_meetsDropping e_X10_meetsDropping (ci := 10) rfl rfl (by decide) g15 rfl rfl (by decide) (by decide) (by decide) (k_X10_meetsDropping c3) ?_
  refine y_istore_n (lv' := [(3, .int r1), (0, y_p p0), (1, y_p p1), (2, y_p p2)]) (pc2 := 6) rfl dX10_meetsTaking_5 (by decide) (by show y_st1 _ 3 _ = _; simp [y_st1, y_p_cat, y_ci, y_cj]) ?_
  refine y_iload_n (pc2 := 7) rfl dX10_meetsTaking_6 rfl ?_
  refine y_if_eq (tgt := 12) (pc2 := 10) rfl dX10_meetsTaking_7 (by decide) (fun c14 => ?_) (fun c14 => ?_)
  · replace hf := y_it c14 hf
    refine y_aload_n (x := p2) (pc2 := 13) rfl dX10_meetsTaking_12 rfl ?_
    obtain ⟨g13, hf⟩ := y_g hf
    obtain ⟨r4, h5, c6, hf⟩ := y_clE hf
    refine y_callV (As := []) (rm := rm_X2_known) (cells := 0) (slots := 0) (pc2 := 16) rfl dX10_meetsTaking_13 n_X2_known l_BoxYard_Yard_177 i_X2_known e_X2_known (ci := 2) rfl rfl (by decide) g13 rfl rfl (by decide) (by decide) (by decide) (k_X2_known c6) ?_
    refine y_aload_n (x := p1) (pc2 := 17) rfl dX10_meetsTaking_16 rfl ?_
    refine y_aload_n (x := p0) (pc2 := 18) rfl dX10_meetsTaking_17 rfl ?_
    obtain ⟨g12, hf⟩ := y_g hf
    refine y_getP (pc2 := 21) rfl dX10_meetsTaking_18 F_BoxYard_Yard_48 (by decide) rfl g12 ?_
    obtain ⟨g11, hf⟩ := y_g hf
    obtain ⟨r7, h8, c9, hf⟩ := y_clE hf
    refine y_callV (As := [y_p (y_P h5 p0 12)]) (rm := rm_X3_strength) (cells := 0) (slots := 0) (pc2 := 24) rfl dX10_meetsTaking_21 n_X3_strength l_BoxYard_Yard_181 i_X3_strength e_X3_strength (ci := 3) rfl rfl (by decide) g11 rfl rfl (by decide) (by simp [y_ci, y_cj, y_p_cat]) (by decide) (k_X3_strength c9) ?_
    refine y_icmp_le (tgt := 32) (pc2 := 27) rfl dX10_meetsTaking_24 (by decide) (fun c10 => ?_) (fun c10 => ?_)
    · replace hf := y_it c10 hf
      refine y_iconst (v := 0) (pc2 := 33) rfl dX10_meetsTaking_32 (by decide) ?_
      exact y_iretF hf dX10_meetsTaking_33 rfl (by decide) (by decide)
    · replace hf := y_ie c10 hf
      refine y_bipush (v := (-49 : Int32)) (pc2 := 29) rfl dX10_meetsTaking_27 (by decide) ?_
      refine y_goto (tgt := 33) dX10_meetsTaking_29 (by decide) ?_
      exact y_iretF hf dX10_meetsTaking_33 rfl (by decide) (by decide)
  · replace hf := y_ie c14 hf
    refine y_iload_n (pc2 := 11) rfl dX10_meetsTaking_10 rfl ?_
    exact y_iretF hf dX10_meetsTaking_11 rfl (by decide) (by decide)
theorem dX10_meetsLifting_0 : decode cX10_meetsLifting 0 = .ok (.aload_n 0, 1) := by decide +kernel
theorem dX10_meetsLifting_1 : decode cX10_meetsLifting 1 = .ok (.aload_n 1, 1) := by decide +kernel
theorem dX10_meetsLifting_2 : decode cX10_meetsLifting 2 = .ok (.invokevirtual 165, 3) := by decide +kernel
theorem dX10_meetsLifting_5 : decode cX10_meetsLifting 5 = .ok (.ifCond .eq 6, 3) := by decide +kernel
theorem dX10_meetsLifting_8 : decode cX10_meetsLifting 8 = .ok (.bipush (-46), 2) := by decide +kernel
theorem dX10_meetsLifting_10 : decode cX10_meetsLifting 10 = .ok (.ireturn, 1) := by decide +kernel
theorem dX10_meetsLifting_11 : decode cX10_meetsLifting 11 = .ok (.aload_n 0, 1) := by decide +kernel
theorem dX10_meetsLifting_12 : decode cX10_meetsLifting 12 = .ok (.aload_n 1, 1) := by decide +kernel
theorem dX10_meetsLifting_13 : decode cX10_meetsLifting 13 = .ok (.getfield 158, 3) := by decide +kernel
theorem dX10_meetsLifting_16 : decode cX10_meetsLifting 16 = .ok (.invokevirtual 97, 3) := by decide +kernel
theorem dX10_meetsLifting_19 : decode cX10_meetsLifting 19 = .ok (.astore_n 3, 1) := by decide +kernel
theorem dX10_meetsLifting_20 : decode cX10_meetsLifting 20 = .ok (.aload_n 3, 1) := by decide +kernel
theorem dX10_meetsLifting_21 : decode cX10_meetsLifting 21 = .ok (.ifnonnull 6, 3) := by decide +kernel
theorem dX10_meetsLifting_24 : decode cX10_meetsLifting 24 = .ok (.bipush (-61), 2) := by decide +kernel
theorem dX10_meetsLifting_26 : decode cX10_meetsLifting 26 = .ok (.ireturn, 1) := by decide +kernel
theorem dX10_meetsLifting_27 : decode cX10_meetsLifting 27 = .ok (.aload_n 3, 1) := by decide +kernel
theorem dX10_meetsLifting_28 : decode cX10_meetsLifting 28 = .ok (.iload_n 2, 1) := by decide +kernel
theorem dX10_meetsLifting_29 : decode cX10_meetsLifting 29 = .ok (.invokevirtual 184, 3) := by decide +kernel
theorem dX10_meetsLifting_32 : decode cX10_meetsLifting 32 = .ok (.ifCond .ne 6, 3) := by decide +kernel
theorem dX10_meetsLifting_35 : decode cX10_meetsLifting 35 = .ok (.bipush (-62), 2) := by decide +kernel
theorem dX10_meetsLifting_37 : decode cX10_meetsLifting 37 = .ok (.ireturn, 1) := by decide +kernel
theorem dX10_meetsLifting_38 : decode cX10_meetsLifting 38 = .ok (.aload_n 3, 1) := by decide +kernel
theorem dX10_meetsLifting_39 : decode cX10_meetsLifting 39 = .ok (.iload_n 2, 1) := by decide +kernel
theorem dX10_meetsLifting_40 : decode cX10_meetsLifting 40 = .ok (.invokevirtual 101, 3) := by decide +kernel
theorem dX10_meetsLifting_43 : decode cX10_meetsLifting 43 = .ok (.astore 4, 2) := by decide +kernel
theorem dX10_meetsLifting_45 : decode cX10_meetsLifting 45 = .ok (.aload 4, 2) := by decide +kernel
theorem dX10_meetsLifting_47 : decode cX10_meetsLifting 47 = .ok (.ifnonnull 6, 3) := by decide +kernel
theorem dX10_meetsLifting_50 : decode cX10_meetsLifting 50 = .ok (.bipush (-63), 2) := by decide +kernel
theorem dX10_meetsLifting_52 : decode cX10_meetsLifting 52 = .ok (.ireturn, 1) := by decide +kernel
theorem dX10_meetsLifting_53 : decode cX10_meetsLifting 53 = .ok (.aload_n 1, 1) := by decide +kernel
theorem dX10_meetsLifting_54 : decode cX10_meetsLifting 54 = .ok (.iload_n 2, 1) := by decide +kernel
theorem dX10_meetsLifting_55 : decode cX10_meetsLifting 55 = .ok (.aload 4, 2) := by decide +kernel
theorem dX10_meetsLifting_57 : decode cX10_meetsLifting 57 = .ok (.getfield 187, 3) := by decide +kernel
theorem dX10_meetsLifting_60 : decode cX10_meetsLifting 60 = .ok (.aload_n 0, 1) := by decide +kernel
theorem dX10_meetsLifting_61 : decode cX10_meetsLifting 61 = .ok (.getfield 48, 3) := by decide +kernel
theorem dX10_meetsLifting_64 : decode cX10_meetsLifting 64 = .ok (.invokevirtual 190, 3) := by decide +kernel
theorem dX10_meetsLifting_67 : decode cX10_meetsLifting 67 = .ok (.ifCond .ne 6, 3) := by decide +kernel
theorem dX10_meetsLifting_70 : decode cX10_meetsLifting 70 = .ok (.bipush (-48), 2) := by decide +kernel
theorem dX10_meetsLifting_72 : decode cX10_meetsLifting 72 = .ok (.ireturn, 1) := by decide +kernel
theorem dX10_meetsLifting_73 : decode cX10_meetsLifting 73 = .ok (.aload 4, 2) := by decide +kernel
theorem dX10_meetsLifting_75 : decode cX10_meetsLifting 75 = .ok (.invokevirtual 177, 3) := by decide +kernel
theorem dX10_meetsLifting_78 : decode cX10_meetsLifting 78 = .ok (.aload_n 1, 1) := by decide +kernel
theorem dX10_meetsLifting_79 : decode cX10_meetsLifting 79 = .ok (.aload_n 0, 1) := by decide +kernel
theorem dX10_meetsLifting_80 : decode cX10_meetsLifting 80 = .ok (.getfield 48, 3) := by decide +kernel
theorem dX10_meetsLifting_83 : decode cX10_meetsLifting 83 = .ok (.invokevirtual 181, 3) := by decide +kernel
theorem dX10_meetsLifting_86 : decode cX10_meetsLifting 86 = .ok (.if_icmp .le 8, 3) := by decide +kernel
theorem dX10_meetsLifting_89 : decode cX10_meetsLifting 89 = .ok (.bipush (-49), 2) := by decide +kernel
theorem dX10_meetsLifting_91 : decode cX10_meetsLifting 91 = .ok (.goto 4, 3) := by decide +kernel
theorem dX10_meetsLifting_94 : decode cX10_meetsLifting 94 = .ok (.iconst 0, 1) := by decide +kernel
theorem dX10_meetsLifting_95 : decode cX10_meetsLifting 95 = .ok (.ireturn, 1) := by decide +kernel
def M_X10_meetsLifting : y_M := (yX10_meetsLifting, cX10_meetsLifting, 5, (Option.some Jvm.ClassFile.FieldType.int))
theorem n_X10_meetsLifting : y_N0 M_X10_meetsLifting 2 := ⟨(c_4 185 (by decide +kernel) rfl), (c_1 2 (by decide +kernel) rfl), ⟨by decide +kernel, by decide +kernel⟩, by decide +kernel⟩
theorem l_BoxYard_Yard_184 : y_lnk "BoxYard$Yard" 184 M_X1_hasStack := Or.inl (c_4 50 (by decide +kernel) rfl)
theorem F_BoxYard_Yard_187 : y_F "BoxYard$Yard" 187 2 9 := ⟨_, _, _, rfl, by decide, Or.inr ⟨"BoxYard", (c_2 146 (by decide +kernel) rfl)⟩⟩
theorem l_BoxYard_Yard_190 : y_lnk "BoxYard$Yard" 190 M_X3_reaches := Or.inl (c_4 51 (by decide +kernel) rfl)
theorem i_X3_reaches : Cond.instanceMethod (M_X3_reaches).1 ∈ y_tb := (c_4 52 (by decide +kernel) rfl)
theorem e_X3_reaches : Cond.selects (M_X3_reaches).1.cls (M_X3_reaches).1 (M_X3_reaches).1 ∈ y_tb := (c_4 53 (by decide +kernel) rfl)
set_option maxRecDepth 100000 in
def f_X10_meetsLifting (p0 : Nat) (p1 : Nat) (p2 : Int32) (h : y_H) : Option (Int32 × y_H) :=
  if y_K h p0 = 11 then
  y_cl (f_X10_isTooWindy p0 p1 h) (fun r1 h2 =>
  if r1 = true then
    some ((-46 : Int32), h2)
  else
    if y_K h2 p1 = 4 then
    if y_K h2 p0 = 11 then
    y_cl (f_X10_bayAt p0 (y_I h2 p1 3) h2) (fun r4 h5 =>
    if r4 = 0 then
      some ((-61 : Int32), h5)
    else
      if y_K h5 r4 = 2 then
      y_cl (f_X1_hasStack r4 p2 h5) (fun r7 h8 =>
      if r7 = true then
        if y_K h8 r4 = 2 then
        y_cl (f_X1_topOf r4 p2 h8) (fun r10 h11 =>
        if r10 = 0 then
          some ((-63 : Int32), h11)
        else
          if y_K h11 r10 = 3 then
          if y_K h11 p0 = 11 then
          if y_K h11 p1 = 4 then
          y_cl (f_X3_reaches p1 p2 (y_I h11 r10 9) (y_P h11 p0 12) h11) (fun r13 h14 =>
          if r13 = true then
            if y_K h14 r10 = 3 then
            y_cl (f_X2_known r10 h14) (fun r16 h17 =>
            if y_K h17 p0 = 11 then
            if y_K h17 p1 = 4 then
            y_cl (f_X3_strength p1 (y_P h17 p0 12) h17) (fun r19 h20 =>
            if r16 ≤ r19 then
              some (0, h20)
            else
              some ((-49 : Int32), h20))
            else none
            else none)
            else none
          else
            some ((-48 : Int32), h14))
          else none
          else none
          else none)
        else none
      else
        some ((-62 : Int32), h8))
      else none)
    else none
    else none)
  else none
abbrev rm_X10_meetsLifting : Room := { frames := 4, cells := 0, slots := 0, locals := 84 }
set_option maxRecDepth 100000 in
set_option maxHeartbeats 4000000 in
theorem k_X10_meetsLifting {l : Launch} {G : y_G} {p0 : Nat} {p1 : Nat} {p2 : Int32} {h hz : y_H} {rz : Int32} (hf : f_X10_meetsLifting p0 p1 p2 h = some (rz, hz)) : y_S l G M_X10_meetsLifting rm_X10_meetsLifting [y_p p0, y_p p1, .int p2] h (some (.int rz)) hz := by
  refine y_start (lv := [(0, y_p p0), (1, y_p p1), (2, .int p2)]) (by decide) (by simp [lg_sl, y_p_cat, y_ci, y_cj, M_X10_meetsLifting]) (by simp [lv_args, y_p_cat, y_ci, y_cj]) (fun z ad0 => ?_)
  unfold f_X10_meetsLifting at hf
  refine y_aload_n (x := p0) (pc2 := 1) rfl dX10_meetsLifting_0 rfl ?_
  refine y_aload_n (x := p1) (pc2 := 2) rfl dX10_meetsLifting_1 rfl ?_
  obtain ⟨g38, hf⟩ := y_g hf
  obtain ⟨r1, h2, c3, hf⟩ := y_clE hf
  refine y_callV (As := [y_p p1]) (rm := rm_X10_isTooWindy) (cells := 0) (slots := 0) (pc2 := 5) rfl dX10_meetsLifting_2 n_X10_isTooWindy l_BoxYard_Yard_165 i_X10_isTooWindy e_X10_isTooWindy (ci := 10) rfl rfl (by decide) g38 rfl rfl (by decide) (by decide) (by decide) (k_X10_isTooWindy c3) ?_
  refine y_ifz_eq (tgt := 11) (pc2 := 8) rfl dX10_meetsLifting_5 (by decide) (fun c37 => ?_) (fun c37 => ?_)
  · replace hf := y_ie c37 hf
    refine y_aload_n (x := p0) (pc2 := 12) rfl dX10_meetsLifting_11 rfl ?_
    refine y_aload_n (x := p1) (pc2 := 13) rfl dX10_meetsLifting_12 rfl ?_
    obtain ⟨g36, hf⟩ := y_g hf
    refine y_getI (pc2 := 16) rfl dX10_meetsLifting_13 F_BoxYard_Yard_158 (by decide) rfl g36 ?_
    obtain ⟨g35, hf⟩ := y_g hf
    obtain ⟨r4, h5, c6, hf⟩ := y_clE hf
    refine y_callV (As := [.int (y_I h2 p1 3)]) (rm := rm_X10_bayAt) (cells := 0) (slots := 0) (pc2 := 19) rfl dX10_meetsLifting_16 n_X10_bayAt l_BoxYard_Yard_97 i_X10_bayAt e_X10_bayAt (ci := 10) rfl rfl (by decide) g35 rfl rfl (by decide) (by decide) (by decide) (k_X10_bayAt c6) ?_
    refine y_astore_n (lv' := [(3, y_p r4), (0, y_p p0), (1, y_p p1), (2, .int p2)]) (pc2 := 20) rfl dX10_meetsLifting_19 (by decide) rfl ?_
    refine y_aload_n (x := r4) (pc2 := 21) rfl dX10_meetsLifting_20 rfl ?_
    refine y_ifnonnull (tgt := 27) (pc2 := 24) rfl dX10_meetsLifting_21 (by decide) (fun c34 => ?_) (fun c34 => ?_)
    · replace hf := y_ie c34 hf
      refine y_aload_n (x := r4) (pc2 := 28) rfl dX10_meetsLifting_27 rfl ?_
      refine y_iload_n (pc2 := 29) rfl dX10_meetsLifting_28 rfl ?_
      obtain ⟨g33, hf⟩ := y_g hf
      obtain ⟨r7, h8, c9, hf⟩ := y_clE hf
      refine y_callV (As := [.int p2]) (rm := rm_X1_hasStack) (cells := 0) (slots := 0) (pc2 := 32) rfl dX10_meetsLifting_29 n_X1_hasStack l_BoxYard_Yard_184 i_X1_hasStack e_X1_hasStack (ci := 1) rfl rfl (by decide) g33 rfl rfl (by decide) (by decide) (by decide) (k_X1_hasStack c9) ?_
      refine y_ifz_ne (tgt := 38) (pc2 := 35) rfl dX10_meetsLifting_32 (by decide) (fun c32 => ?_) (fun c32 => ?_)
      · replace hf := y_it c32 hf
        refine y_aload_n (x := r4) (pc2 := 39) rfl dX10_meetsLifting_38 rfl ?_
        refine y_iload_n (pc2 := 40) rfl dX10_meetsLifting_39 rfl ?_
        obtain ⟨g31, hf⟩ := y_g hf
        obtain ⟨r10, h11, c12, hf⟩ := y_clE hf
        refine y_callV (As := [.int p2]) (rm := rm_X1_topOf) (cells := 0) (slots := 0) (pc2 := 43) rfl dX10_meetsLifting_40 n_X1_topOf l_BoxYard_Yard_101 i_X1_topOf e_X1_topOf (ci := 1) rfl rfl (by decide) g31 rfl rfl (by decide) (by decide) (by decide) (k_X1_topOf c12) ?_
        refine y_astore (lv' := [(4, y_p r10), (3, y_p r4), (0, y_p p0), (1, y_p p1), (2, .int p2)]) (pc2 := 45) rfl dX10_meetsLifting_43 (by decide) (by show y_st1 _ 4 _ = _; simp [y_st1, y_p_cat, y_ci, y_cj]) ?_
        refine y_aload (x := r10) (pc2 := 47) rfl dX10_meetsLifting_45 rfl ?_
        refine y_ifnonnull (tgt := 53) (pc2 := 50) rfl dX10_meetsLifting_47 (by decide) (fun c30 => ?_) (fun c30 => ?_)
        · replace hf := y_ie c30 hf
          refine y_aload_n (x := p1) (pc2 := 54) rfl dX10_meetsLifting_53 rfl ?_
          refine y_iload_n (pc2 := 55) rfl dX10_meetsLifting_54 rfl ?_
          refine y_aload (x := r10) (pc2 := 57) rfl dX10_meetsLifting_55 rfl ?_
          obtain ⟨g29, hf⟩ := y_g hf
          refine y_getI (pc2 := 60) rfl dX10_meetsLifting_57 F_BoxYard_Yard_187 (by decide) rfl g29 ?_
          refine y_aload_n (x := p0) (pc2 := 61) rfl dX10_meetsLifting_60 rfl ?_
          obtain ⟨g28, hf⟩ := y_g hf
          refine y_getP (pc2 := 64) rfl dX10_meetsLifting_61 F_BoxYard_Yard_48 (by decide) rfl g28 ?_
          obtain ⟨g27, hf⟩ := y_g hf
          obtain ⟨r13, h14, c15, hf⟩ := y_clE hf
          refine y_callV (As := [.int p2, .int (y_I h11 r10 9), y_p (y_P h11 p0 12)]) (rm := rm_X3_reaches) (cells := 0) (slots := 0) (pc2 := 67) rfl dX10_meetsLifting_64 n_X3_reaches l_BoxYard_Yard_190 i_X3_reaches e_X3_reaches (ci := 3) rfl rfl (by decide) g27 rfl rfl (by decide) (by decide) (by decide) (k_X3_reaches c15) ?_
          refine y_ifz_ne (tgt := 73) (pc2 := 70) rfl dX10_meetsLifting_67 (by decide) (fun c26 => ?_) (fun c26 => ?_)
          · replace hf := y_it c26 hf
            refine y_aload (x := r10) (pc2 := 75) rfl dX10_meetsLifting_73 rfl ?_
            obtain ⟨g25, hf⟩ := y_g hf
            obtain ⟨r16, h17, c18, hf⟩ := y_clE hf
            refine y_callV (As := []) (rm := rm_X2_known) (cells := 0) (slots := 0) (pc2 := 78) rfl dX10_meetsLifting_75 n_X2_known l_BoxYard_Yard_177 i_X2_known e_X2_known (ci := 2) rfl rfl (by decide) g25 rfl rfl (by decide) (by decide) (by decide) (k_X2_known c18) ?_
            refine y_aload_n (x := p1) (pc2 := 79) rfl dX10_meetsLifting_78 rfl ?_
            refine y_aload_n (x := p0) (pc2 := 80) rfl dX10_meetsLifting_79 rfl ?_
            obtain ⟨g24, hf⟩ := y_g hf
            refine y_getP (pc2 := 83) rfl dX10_meetsLifting_80 F_BoxYard_Yard_48 (by decide) rfl g24 ?_
            obtain ⟨g23, hf⟩ := y_g hf
            obtain ⟨r19, h20, c21, hf⟩ := y_clE hf
            refine y_callV (As := [y_p (y_P h17 p0 12)]) (rm := rm_X3_strength) (cells := 0) (slots := 0) (pc2 := 86) rfl dX10_meetsLifting_83 n_X3_strength l_BoxYard_Yard_181 i_X3_strength e_X3_strength (ci := 3) rfl rfl (by decide) g23 rfl rfl (by decide) (by simp [y_ci, y_cj, y_p_cat]) (by decide) (k_X3_strength c21) ?_
            refine y_icmp_le (tgt := 94) (pc2 := 89) rfl dX10_meetsLifting_86 (by decide) (fun c22 => ?_) (fun c22 => ?_)
            · replace hf := y_it c22 hf
              refine y_iconst (v := 0) (pc2 := 95) rfl dX10_meetsLifting_94 (by decide) ?_
              exact y_iretF hf dX10_meetsLifting_95 rfl (by decide) (by decide)
            · replace hf := y_ie c22 hf
              refine y_bipush (v := (-49 : Int32)) (pc2 := 91) rfl dX10_meetsLifting_89 (by decide) ?_
              refine y_goto (tgt := 95) dX10_meetsLifting_91 (by decide) ?_
              exact y_iretF hf dX10_meetsLifting_95 rfl (by decide) (by decide)
          · replace hf := y_ie c26 hf
            refine y_bipush (v := (-48 : Int32)) (pc2 := 72) rfl dX10_meetsLifting_70 (by decide) ?_
            exact y_iretF hf dX10_meetsLifting_72 rfl (by decide) (by decide)
        · replace hf := y_it c30 hf
          refine y_bipush (v := (-63 : Int32)) (pc2 := 52) rfl dX10_meetsLifting_50 (by decide) ?_
          exact y_iretF hf dX10_meetsLifting_52 rfl (by decide) (by decide)
      · replace hf := y_ie c32 hf
        refine y_bipush (v := (-62 : Int32)) (pc2 := 37) rfl dX10_meetsLifting_35 (by decide) ?_
        exact y_iretF hf dX10_meetsLifting_37 rfl (by decide) (by decide)
    · replace hf := y_it c34 hf
      refine y_bipush (v := (-61 : Int32)) (pc2 := 26) rfl dX10_meetsLifting_24 (by decide) ?_
      exact y_iretF hf dX10_meetsLifting_26 rfl (by decide) (by decide)
  · replace hf := y_it c37 hf
    refine y_bipush (v := (-46 : Int32)) (pc2 := 10) rfl dX10_meetsLifting_8 (by decide) ?_
    exact y_iretF hf dX10_meetsLifting_10 rfl (by decide) (by decide)
theorem dX10_isTooNear_0 : decode cX10_isTooNear 0 = .ok (.iconst 0, 1) := by decide +kernel
theorem dX10_isTooNear_1 : decode cX10_isTooNear 1 = .ok (.istore 4, 2) := by decide +kernel
theorem dX10_isTooNear_3 : decode cX10_isTooNear 3 = .ok (.iload 4, 2) := by decide +kernel
theorem dX10_isTooNear_5 : decode cX10_isTooNear 5 = .ok (.aload_n 1, 1) := by decide +kernel
theorem dX10_isTooNear_6 : decode cX10_isTooNear 6 = .ok (.getfield 229, 3) := by decide +kernel
theorem dX10_isTooNear_9 : decode cX10_isTooNear 9 = .ok (.arraylength, 1) := by decide +kernel
theorem dX10_isTooNear_10 : decode cX10_isTooNear 10 = .ok (.if_icmp .ge 54, 3) := by decide +kernel
theorem dX10_isTooNear_13 : decode cX10_isTooNear 13 = .ok (.aload_n 1, 1) := by decide +kernel
theorem dX10_isTooNear_14 : decode cX10_isTooNear 14 = .ok (.getfield 229, 3) := by decide +kernel
theorem dX10_isTooNear_17 : decode cX10_isTooNear 17 = .ok (.iload 4, 2) := by decide +kernel
theorem dX10_isTooNear_19 : decode cX10_isTooNear 19 = .ok (.aaload, 1) := by decide +kernel
theorem dX10_isTooNear_20 : decode cX10_isTooNear 20 = .ok (.astore 5, 2) := by decide +kernel
theorem dX10_isTooNear_22 : decode cX10_isTooNear 22 = .ok (.aload 5, 2) := by decide +kernel
theorem dX10_isTooNear_24 : decode cX10_isTooNear 24 = .ok (.ifnonnull 6, 3) := by decide +kernel
theorem dX10_isTooNear_27 : decode cX10_isTooNear 27 = .ok (.goto 31, 3) := by decide +kernel
theorem dX10_isTooNear_30 : decode cX10_isTooNear 30 = .ok (.aload 5, 2) := by decide +kernel
theorem dX10_isTooNear_32 : decode cX10_isTooNear 32 = .ok (.getfield 232, 3) := by decide +kernel
theorem dX10_isTooNear_35 : decode cX10_isTooNear 35 = .ok (.iload_n 3, 1) := by decide +kernel
theorem dX10_isTooNear_36 : decode cX10_isTooNear 36 = .ok (.isub, 1) := by decide +kernel
theorem dX10_isTooNear_37 : decode cX10_isTooNear 37 = .ok (.invokestatic 235, 3) := by decide +kernel
theorem dX10_isTooNear_40 : decode cX10_isTooNear 40 = .ok (.aload_n 0, 1) := by decide +kernel
theorem dX10_isTooNear_41 : decode cX10_isTooNear 41 = .ok (.aload_n 2, 1) := by decide +kernel
theorem dX10_isTooNear_42 : decode cX10_isTooNear 42 = .ok (.getfield 241, 3) := by decide +kernel
theorem dX10_isTooNear_45 : decode cX10_isTooNear 45 = .ok (.aload 5, 2) := by decide +kernel
theorem dX10_isTooNear_47 : decode cX10_isTooNear 47 = .ok (.getfield 241, 3) := by decide +kernel
theorem dX10_isTooNear_50 : decode cX10_isTooNear 50 = .ok (.invokevirtual 112, 3) := by decide +kernel
theorem dX10_isTooNear_53 : decode cX10_isTooNear 53 = .ok (.if_icmp .ge 5, 3) := by decide +kernel
theorem dX10_isTooNear_56 : decode cX10_isTooNear 56 = .ok (.iconst 1, 1) := by decide +kernel
theorem dX10_isTooNear_57 : decode cX10_isTooNear 57 = .ok (.ireturn, 1) := by decide +kernel
theorem dX10_isTooNear_58 : decode cX10_isTooNear 58 = .ok (.iinc 4 1, 3) := by decide +kernel
theorem dX10_isTooNear_61 : decode cX10_isTooNear 61 = .ok (.goto (-58), 3) := by decide +kernel
theorem dX10_isTooNear_64 : decode cX10_isTooNear 64 = .ok (.iconst 0, 1) := by decide +kernel
theorem dX10_isTooNear_65 : decode cX10_isTooNear 65 = .ok (.ireturn, 1) := by decide +kernel
def M_X10_isTooNear : y_M := (yX10_isTooNear, cX10_isTooNear, 6, (Option.some Jvm.ClassFile.FieldType.boolean))
theorem n_X10_isTooNear : y_N0 M_X10_isTooNear 3 := ⟨(c_4 94 (by decide +kernel) rfl), (c_1 2 (by decide +kernel) rfl), ⟨by decide +kernel, by decide +kernel⟩, by decide +kernel⟩
theorem F_BoxYard_Yard_229 : y_F "BoxYard$Yard" 229 1 4 := ⟨_, _, _, rfl, by decide, Or.inr ⟨"BoxYard", (c_3 75 (by decide +kernel) rfl)⟩⟩
theorem F_BoxYard_Yard_232 : y_F "BoxYard$Yard" 232 2 8 := ⟨_, _, _, rfl, by decide, Or.inr ⟨"BoxYard", (c_2 141 (by decide +kernel) rfl)⟩⟩
theorem l_BoxYard_Yard_235 : Cond.methodLink "BoxYard$Yard" 235 Lib.Math.abs.name ∈ y_tb := (c_4 95 (by decide +kernel) rfl)
theorem F_BoxYard_Yard_241 : y_F "BoxYard$Yard" 241 2 4 := ⟨_, _, _, rfl, by decide, Or.inr ⟨"BoxYard", (c_2 122 (by decide +kernel) rfl)⟩⟩
set_option maxRecDepth 100000 in
def f_X10_isTooNear (p0 : Nat) (p1 : Nat) (p2 : Nat) (p3 : Int32) (h : y_H) : Option (Bool × y_H) :=
  y_jl (fun (_ : Nat) (_ : Nat) (_ : Nat) (_ : Int32) (_ : Int32) (_ : y_H) => (none : Option (Bool × y_H))) (fun j3 (v0_3 : Nat) (v1_3 : Nat) (v2_3 : Nat) (v3_3 : Int32) (v4_3 : Int32) (h1 : y_H) =>
      if y_K h1 v1_3 = 2 then
      if y_K h1 (y_P h1 v1_3 4) = 103 then
      if (nI (y_N h1 (y_P h1 v1_3 4))) ≤ v4_3 then
        some (false, h1)
      else
        if y_K h1 v1_3 = 2 then
        if y_K h1 (y_P h1 v1_3 4) = 103 ∧ y_ix v4_3 (y_N h1 (y_P h1 v1_3 4)) = true then
        y_jn (fun (v0_58 : Nat) (v1_58 : Nat) (v2_58 : Nat) (v3_58 : Int32) (v4_58 : Int32) (h2 : y_H) => (
            j3 v0_58 v1_58 v2_58 v3_58 (v4_58 + 1) h2 : Option (Bool × y_H))) (fun j58 =>
        if (y_P h1 (y_P h1 v1_3 4) (Int32.toNatClampNeg v4_3)) = 0 then
          j58 v0_3 v1_3 v2_3 v3_3 v4_3 h1
        else
          if y_K h1 (y_P h1 (y_P h1 v1_3 4) (Int32.toNatClampNeg v4_3)) = 3 then
          if y_K h1 v2_3 = 3 then
          if y_K h1 (y_P h1 (y_P h1 v1_3 4) (Int32.toNatClampNeg v4_3)) = 3 then
          if y_K h1 v0_3 = 11 then
          y_cl (f_X10_apartOf v0_3 (y_I h1 v2_3 4) (y_I h1 (y_P h1 (y_P h1 v1_3 4) (Int32.toNatClampNeg v4_3)) 4) h1) (fun r3 h4 =>
          if r3 ≤ (y_ab ((y_I h1 (y_P h1 (y_P h1 v1_3 4) (Int32.toNatClampNeg v4_3)) 8) - v3_3)) then
            j58 v0_3 v1_3 v2_3 v3_3 v4_3 h4
          else
            some (true, h4))
          else none
          else none
          else none
          else none)
        else none
        else none
      else none
      else none) (fun j3 =>
  j3 p0 p1 p2 p3 0 h)
abbrev rm_X10_isTooNear : Room := { frames := 2, cells := 0, slots := 0, locals := 45 }
set_option maxRecDepth 100000 in
set_option maxHeartbeats 4000000 in
theorem k_X10_isTooNear {l : Launch} {G : y_G} {p0 : Nat} {p1 : Nat} {p2 : Nat} {p3 : Int32} {h hz : y_H} {rz : Bool} (hf : f_X10_isTooNear p0 p1 p2 p3 h = some (rz, hz)) : y_S l G M_X10_isTooNear rm_X10_isTooNear [y_p p0, y_p p1, y_p p2, .int p3] h (some (.int (y_z rz))) hz := by
  refine y_start (lv := [(0, y_p p0), (1, y_p p1), (2, y_p p2), (3, .int p3)]) (by decide) (by simp [lg_sl, y_p_cat, y_ci, y_cj, M_X10_isTooNear]) (by simp [lv_args, y_p_cat, y_ci, y_cj]) (fun z ad0 => ?_)
  unfold f_X10_isTooNear at hf
  refine y_iconst (v := 0) (pc2 := 1) rfl dX10_isTooNear_0 (by decide) ?_
  refine y_jlE hf (fun j => ∀ (v0_3 : Nat) (v1_3 : Nat) (v2_3 : Nat) (v3_3 : Int32) (v4_3 : Int32) (h1 : y_H), j v0_3 v1_3 v2_3 v3_3 v4_3 h1 = some (rz, hz) → y_V l G z rm_X10_isTooNear M_X10_isTooNear ad0 h (some (.int (y_z rz))) hz 3 [(0, y_p v0_3), (1, y_p v1_3), (2, y_p v2_3), (3, .int v3_3), (4, .int v4_3)] [] h1 0 0) (fun _ _ _ _ _ _ hf => by cases hf) (fun j3 hj3 v0_3 v1_3 v2_3 v3_3 v4_3 h1 hf => ?_) (fun j3 hj3 hf => ?_)
  · refine y_iload (pc2 := 5) rfl dX10_isTooNear_3 rfl ?_
    refine y_aload_n (x := v1_3) (pc2 := 6) rfl dX10_isTooNear_5 rfl ?_
    obtain ⟨g16, hf⟩ := y_g hf
    refine y_getP (pc2 := 9) rfl dX10_isTooNear_6 F_BoxYard_Yard_229 (by decide) rfl g16 ?_
    obtain ⟨g15, hf⟩ := y_g hf
    refine y_alen (t := 3) (pc2 := 10) rfl dX10_isTooNear_9 (by decide) g15 ?_
    refine y_icmp_ge (tgt := 64) (pc2 := 13) rfl dX10_isTooNear_10 (by decide) (fun c14 => ?_) (fun c14 => ?_)
    · replace hf := y_it c14 hf
      refine y_iconst (v := 0) (pc2 := 65) rfl dX10_isTooNear_64 (by decide) ?_
      exact y_zretF (x := false) hf dX10_isTooNear_65 rfl (by decide) (by decide)
    · replace hf := y_ie c14 hf
      refine y_aload_n (x := v1_3) (pc2 := 14) rfl dX10_isTooNear_13 rfl ?_
      obtain ⟨g13, hf⟩ := y_g hf
      refine y_getP (pc2 := 17) rfl dX10_isTooNear_14 F_BoxYard_Yard_229 (by decide) rfl g13 ?_
      refine y_iload (pc2 := 19) rfl dX10_isTooNear_17 rfl ?_
      obtain ⟨g12, hf⟩ := y_g hf
      refine y_aald (t := 3) (pc2 := 20) rfl dX10_isTooNear_19 (by decide) rfl g12.1 (y_ix_in g12.2) ?_
      refine y_astore (lv' := [(5, y_p (y_P h1 (y_P h1 v1_3 4) (Int32.toNatClampNeg v4_3))), (0, y_p v0_3), (1, y_p v1_3), (2, y_p v2_3), (3, .int v3_3), (4, .int v4_3)]) (pc2 := 22) rfl dX10_isTooNear_20 (by decide) rfl ?_
      refine y_aload (x := y_P h1 (y_P h1 v1_3 4) (Int32.toNatClampNeg v4_3)) (pc2 := 24) rfl dX10_isTooNear_22 rfl ?_
      refine y_jnE hf (fun j => ∀ (v0_58 : Nat) (v1_58 : Nat) (v2_58 : Nat) (v3_58 : Int32) (v4_58 : Int32) (h2 : y_H), j v0_58 v1_58 v2_58 v3_58 v4_58 h2 = some (rz, hz) → y_V l G z rm_X10_isTooNear M_X10_isTooNear ad0 h (some (.int (y_z rz))) hz 58 [(0, y_p v0_58), (1, y_p v1_58), (2, y_p v2_58), (3, .int v3_58), (4, .int v4_58)] [] h2 0 0) (fun v0_58 v1_58 v2_58 v3_58 v4_58 h2 hf => ?_) (fun j58 hj58 hf => ?_)
      · refine y_iinc (v := v4_58 + 1) (lv' := [(4, .int (v4_58 + 1)), (0, y_p v0_58), (1, y_p v1_58), (2, y_p v2_58), (3, .int v3_58)]) (pc2 := 61) rfl dX10_isTooNear_58 rfl rfl (by decide) rfl ?_
        refine y_goto (tgt := 3) dX10_isTooNear_61 (by decide) ?_
        exact y_pk [1, 2, 3, 4, 0] rfl (hj3 _ _ _ _ _ _ hf)
      · refine y_ifnonnull (tgt := 30) (pc2 := 27) rfl dX10_isTooNear_24 (by decide) (fun c11 => ?_) (fun c11 => ?_)
        · replace hf := y_ie c11 hf
          refine y_aload (x := y_P h1 (y_P h1 v1_3 4) (Int32.toNatClampNeg v4_3)) (pc2 := 32) rfl dX10_isTooNear_30 rfl ?_
          obtain ⟨g10, hf⟩ := y_g hf
          refine y_getI (pc2 := 35) rfl dX10_isTooNear_32 F_BoxYard_Yard_232 (by decide) rfl g10 ?_
          refine y_iload_n (pc2 := 36) rfl dX10_isTooNear_35 rfl ?_
          refine y_isub (pc2 := 37) rfl dX10_isTooNear_36 ?_
          refine y_mab (pc2 := 40) rfl dX10_isTooNear_37 l_BoxYard_Yard_235 (by decide) (by decide) (by decide) (by decide) (by decide) ?_
          refine y_aload_n (x := v0_3) (pc2 := 41) rfl dX10_isTooNear_40 rfl ?_
          refine y_aload_n (x := v2_3) (pc2 := 42) rfl dX10_isTooNear_41 rfl ?_
          obtain ⟨g9, hf⟩ := y_g hf
          refine y_getI (pc2 := 45) rfl dX10_isTooNear_42 F_BoxYard_Yard_241 (by decide) rfl g9 ?_
          refine y_aload (x := y_P h1 (y_P h1 v1_3 4) (Int32.toNatClampNeg v4_3)) (pc2 := 47) rfl dX10_isTooNear_45 rfl ?_
          obtain ⟨g8, hf⟩ := y_g hf
          refine y_getI (pc2 := 50) rfl dX10_isTooNear_47 F_BoxYard_Yard_241 (by decide) rfl g8 ?_
          obtain ⟨g7, hf⟩ := y_g hf
          obtain ⟨r3, h4, c5, hf⟩ := y_clE hf
          refine y_callV (As := [.int (y_I h1 v2_3 4), .int (y_I h1 (y_P h1 (y_P h1 v1_3 4) (Int32.toNatClampNeg v4_3)) 4)]) (rm := rm_X10_apartOf) (cells := 0) (slots := 0) (pc2 := 53) rfl dX10_isTooNear_50 n_X10_apartOf l_BoxYard_Yard_112 i_X10_apartOf e_X10_apartOf (ci := 10) rfl rfl (by decide) g7 rfl rfl (by decide) (by simp [y_ci, y_cj, y_p_cat]) (by decide) (k_X10_apartOf c5) ?_
          refine y_icmp_ge (tgt := 58) (pc2 := 56) rfl dX10_isTooNear_53 (by decide) (fun c6 => ?_) (fun c6 => ?_)
          · replace hf := y_it c6 hf
            exact y_pk [1, 2, 3, 4, 5] rfl (hj58 _ _ _ _ _ _ hf)
          · replace hf := y_ie c6 hf
            refine y_iconst (v := 1) (pc2 := 57) rfl dX10_isTooNear_56 (by decide) ?_
            exact y_zretF (x := true) hf dX10_isTooNear_57 rfl (by decide) (by decide)
        · replace hf := y_it c11 hf
          refine y_goto (tgt := 58) dX10_isTooNear_27 (by decide) ?_
          exact y_pk [1, 2, 3, 4, 5] rfl (hj58 _ _ _ _ _ _ hf)
  · refine y_istore (lv' := [(4, .int 0), (0, y_p p0), (1, y_p p1), (2, y_p p2), (3, .int p3)]) (pc2 := 3) rfl dX10_isTooNear_1 (by decide) rfl ?_
    exact y_pk [1, 2, 3, 4, 0] rfl (hj3 _ _ _ _ _ _ hf)
theorem dX10_meetsStanding_0 : decode cX10_meetsStanding 0 = .ok (.aload_n 1, 1) := by decide +kernel
theorem dX10_meetsStanding_1 : decode cX10_meetsStanding 1 = .ok (.aload_n 2, 1) := by decide +kernel
theorem dX10_meetsStanding_2 : decode cX10_meetsStanding 2 = .ok (.iload_n 3, 1) := by decide +kernel
theorem dX10_meetsStanding_3 : decode cX10_meetsStanding 3 = .ok (.invokevirtual 208, 3) := by decide +kernel
theorem dX10_meetsStanding_6 : decode cX10_meetsStanding 6 = .ok (.ifCond .eq 6, 3) := by decide +kernel
theorem dX10_meetsStanding_9 : decode cX10_meetsStanding 9 = .ok (.bipush (-41), 2) := by decide +kernel
theorem dX10_meetsStanding_11 : decode cX10_meetsStanding 11 = .ok (.ireturn, 1) := by decide +kernel
theorem dX10_meetsStanding_12 : decode cX10_meetsStanding 12 = .ok (.aload_n 1, 1) := by decide +kernel
theorem dX10_meetsStanding_13 : decode cX10_meetsStanding 13 = .ok (.aload_n 2, 1) := by decide +kernel
theorem dX10_meetsStanding_14 : decode cX10_meetsStanding 14 = .ok (.iload_n 3, 1) := by decide +kernel
theorem dX10_meetsStanding_15 : decode cX10_meetsStanding 15 = .ok (.aload_n 0, 1) := by decide +kernel
theorem dX10_meetsStanding_16 : decode cX10_meetsStanding 16 = .ok (.getfield 48, 3) := by decide +kernel
theorem dX10_meetsStanding_19 : decode cX10_meetsStanding 19 = .ok (.invokevirtual 212, 3) := by decide +kernel
theorem dX10_meetsStanding_22 : decode cX10_meetsStanding 22 = .ok (.ifCond .eq 6, 3) := by decide +kernel
theorem dX10_meetsStanding_25 : decode cX10_meetsStanding 25 = .ok (.bipush (-42), 2) := by decide +kernel
theorem dX10_meetsStanding_27 : decode cX10_meetsStanding 27 = .ok (.ireturn, 1) := by decide +kernel
theorem dX10_meetsStanding_28 : decode cX10_meetsStanding 28 = .ok (.aload_n 1, 1) := by decide +kernel
theorem dX10_meetsStanding_29 : decode cX10_meetsStanding 29 = .ok (.iload_n 3, 1) := by decide +kernel
theorem dX10_meetsStanding_30 : decode cX10_meetsStanding 30 = .ok (.invokevirtual 184, 3) := by decide +kernel
theorem dX10_meetsStanding_33 : decode cX10_meetsStanding 33 = .ok (.ifCond .eq 29, 3) := by decide +kernel
theorem dX10_meetsStanding_36 : decode cX10_meetsStanding 36 = .ok (.aload_n 2, 1) := by decide +kernel
theorem dX10_meetsStanding_37 : decode cX10_meetsStanding 37 = .ok (.iconst 1, 1) := by decide +kernel
theorem dX10_meetsStanding_38 : decode cX10_meetsStanding 38 = .ok (.invokevirtual 216, 3) := by decide +kernel
theorem dX10_meetsStanding_41 : decode cX10_meetsStanding 41 = .ok (.ifCond .eq 21, 3) := by decide +kernel
theorem dX10_meetsStanding_44 : decode cX10_meetsStanding 44 = .ok (.aload_n 1, 1) := by decide +kernel
theorem dX10_meetsStanding_45 : decode cX10_meetsStanding 45 = .ok (.getfield 194, 3) := by decide +kernel
theorem dX10_meetsStanding_48 : decode cX10_meetsStanding 48 = .ok (.iload_n 3, 1) := by decide +kernel
theorem dX10_meetsStanding_49 : decode cX10_meetsStanding 49 = .ok (.iaload, 1) := by decide +kernel
theorem dX10_meetsStanding_50 : decode cX10_meetsStanding 50 = .ok (.aload_n 1, 1) := by decide +kernel
theorem dX10_meetsStanding_51 : decode cX10_meetsStanding 51 = .ok (.getfield 219, 3) := by decide +kernel
theorem dX10_meetsStanding_54 : decode cX10_meetsStanding 54 = .ok (.iload_n 3, 1) := by decide +kernel
theorem dX10_meetsStanding_55 : decode cX10_meetsStanding 55 = .ok (.iaload, 1) := by decide +kernel
theorem dX10_meetsStanding_56 : decode cX10_meetsStanding 56 = .ok (.if_icmp .lt 6, 3) := by decide +kernel
theorem dX10_meetsStanding_59 : decode cX10_meetsStanding 59 = .ok (.bipush (-43), 2) := by decide +kernel
theorem dX10_meetsStanding_61 : decode cX10_meetsStanding 61 = .ok (.ireturn, 1) := by decide +kernel
theorem dX10_meetsStanding_62 : decode cX10_meetsStanding 62 = .ok (.aload_n 0, 1) := by decide +kernel
theorem dX10_meetsStanding_63 : decode cX10_meetsStanding 63 = .ok (.aload_n 1, 1) := by decide +kernel
theorem dX10_meetsStanding_64 : decode cX10_meetsStanding 64 = .ok (.aload_n 2, 1) := by decide +kernel
theorem dX10_meetsStanding_65 : decode cX10_meetsStanding 65 = .ok (.iload_n 3, 1) := by decide +kernel
theorem dX10_meetsStanding_66 : decode cX10_meetsStanding 66 = .ok (.invokevirtual 222, 3) := by decide +kernel
theorem dX10_meetsStanding_69 : decode cX10_meetsStanding 69 = .ok (.ifCond .eq 6, 3) := by decide +kernel
theorem dX10_meetsStanding_72 : decode cX10_meetsStanding 72 = .ok (.bipush (-44), 2) := by decide +kernel
theorem dX10_meetsStanding_74 : decode cX10_meetsStanding 74 = .ok (.ireturn, 1) := by decide +kernel
theorem dX10_meetsStanding_75 : decode cX10_meetsStanding 75 = .ok (.aload_n 1, 1) := by decide +kernel
theorem dX10_meetsStanding_76 : decode cX10_meetsStanding 76 = .ok (.aload_n 2, 1) := by decide +kernel
theorem dX10_meetsStanding_77 : decode cX10_meetsStanding 77 = .ok (.iload_n 3, 1) := by decide +kernel
theorem dX10_meetsStanding_78 : decode cX10_meetsStanding 78 = .ok (.aload_n 0, 1) := by decide +kernel
theorem dX10_meetsStanding_79 : decode cX10_meetsStanding 79 = .ok (.getfield 48, 3) := by decide +kernel
theorem dX10_meetsStanding_82 : decode cX10_meetsStanding 82 = .ok (.invokevirtual 226, 3) := by decide +kernel
theorem dX10_meetsStanding_85 : decode cX10_meetsStanding 85 = .ok (.ifCond .eq 8, 3) := by decide +kernel
theorem dX10_meetsStanding_88 : decode cX10_meetsStanding 88 = .ok (.bipush (-45), 2) := by decide +kernel
theorem dX10_meetsStanding_90 : decode cX10_meetsStanding 90 = .ok (.goto 4, 3) := by decide +kernel
theorem dX10_meetsStanding_93 : decode cX10_meetsStanding 93 = .ok (.iconst 0, 1) := by decide +kernel
theorem dX10_meetsStanding_94 : decode cX10_meetsStanding 94 = .ok (.ireturn, 1) := by decide +kernel
def M_X10_meetsStanding : y_M := (yX10_meetsStanding, cX10_meetsStanding, 4, (Option.some Jvm.ClassFile.FieldType.int))
theorem n_X10_meetsStanding : y_N0 M_X10_meetsStanding 3 := ⟨(c_4 66 (by decide +kernel) rfl), (c_1 2 (by decide +kernel) rfl), ⟨by decide +kernel, by decide +kernel⟩, by decide +kernel⟩
theorem l_BoxYard_Yard_208 : y_lnk "BoxYard$Yard" 208 M_X1_topRefuses := Or.inl (c_4 67 (by decide +kernel) rfl)
theorem i_X1_topRefuses : Cond.instanceMethod (M_X1_topRefuses).1 ∈ y_tb := (c_4 68 (by decide +kernel) rfl)
theorem e_X1_topRefuses : Cond.selects (M_X1_topRefuses).1.cls (M_X1_topRefuses).1 (M_X1_topRefuses).1 ∈ y_tb := (c_4 69 (by decide +kernel) rfl)
theorem l_BoxYard_Yard_212 : y_lnk "BoxYard$Yard" 212 M_X1_isTooHeavy := Or.inl (c_4 81 (by decide +kernel) rfl)
theorem i_X1_isTooHeavy : Cond.instanceMethod (M_X1_isTooHeavy).1 ∈ y_tb := (c_4 82 (by decide +kernel) rfl)
theorem e_X1_isTooHeavy : Cond.selects (M_X1_isTooHeavy).1.cls (M_X1_isTooHeavy).1 (M_X1_isTooHeavy).1 ∈ y_tb := (c_4 83 (by decide +kernel) rfl)
theorem l_BoxYard_Yard_222 : y_lnk "BoxYard$Yard" 222 M_X10_isTooNear := Or.inl (c_4 91 (by decide +kernel) rfl)
theorem i_X10_isTooNear : Cond.instanceMethod (M_X10_isTooNear).1 ∈ y_tb := (c_4 93 (by decide +kernel) rfl)
theorem e_X10_isTooNear : Cond.selects (M_X10_isTooNear).1.cls (M_X10_isTooNear).1 (M_X10_isTooNear).1 ∈ y_tb := (m_s 17 (by decide +kernel) rfl)
theorem l_BoxYard_Yard_226 : y_lnk "BoxYard$Yard" 226 M_X1_isTooTall := Or.inl (c_4 98 (by decide +kernel) rfl)
theorem i_X1_isTooTall : Cond.instanceMethod (M_X1_isTooTall).1 ∈ y_tb := (c_4 99 (by decide +kernel) rfl)
theorem e_X1_isTooTall : Cond.selects (M_X1_isTooTall).1.cls (M_X1_isTooTall).1 (M_X1_isTooTall).1 ∈ y_tb := (c_4 100 (by decide +kernel) rfl)
theorem l_BoxYard_Yard_216 : y_lnk "BoxYard$Yard" 216 M_X2_isOf := Or.inl (c_4 90 (by decide +kernel) rfl)
theorem F_BoxYard_Yard_194 : y_F "BoxYard$Yard" 194 1 3 := ⟨_, _, _, rfl, by decide, Or.inr ⟨"BoxYard", (c_3 72 (by decide +kernel) rfl)⟩⟩
theorem F_BoxYard_Yard_219 : y_F "BoxYard$Yard" 219 1 2 := ⟨_, _, _, rfl, by decide, Or.inr ⟨"BoxYard", (c_3 67 (by decide +kernel) rfl)⟩⟩
set_option maxRecDepth 100000 in
def f_X10_meetsStanding (p0 : Nat) (p1 : Nat) (p2 : Nat) (p3 : Int32) (h : y_H) : Option (Int32 × y_H) :=
  if y_K h p1 = 2 then
  y_cl (f_X1_topRefuses p1 p2 p3 h) (fun r1 h2 =>
  if r1 = true then
    some ((-41 : Int32), h2)
  else
    if y_K h2 p0 = 11 then
    if y_K h2 p1 = 2 then
    y_cl (f_X1_isTooHeavy p1 p2 p3 (y_P h2 p0 12) h2) (fun r4 h5 =>
    if r4 = true then
      some ((-42 : Int32), h5)
    else
      if y_K h5 p1 = 2 then
      y_cl (f_X1_hasStack p1 p3 h5) (fun r7 h8 =>
      y_jn (fun (v0_62 : Nat) (v1_62 : Nat) (v2_62 : Nat) (v3_62 : Int32) (h10 : y_H) => (
          if y_K h10 v0_62 = 11 then
          y_cl (f_X10_isTooNear v0_62 v1_62 v2_62 v3_62 h10) (fun r11 h12 =>
          if r11 = true then
            some ((-44 : Int32), h12)
          else
            if y_K h12 v0_62 = 11 then
            if y_K h12 v1_62 = 2 then
            y_cl (f_X1_isTooTall v1_62 v2_62 v3_62 (y_P h12 v0_62 12) h12) (fun r14 h15 =>
            if r14 = true then
              some ((-45 : Int32), h15)
            else
              some (0, h15))
            else none
            else none)
          else none : Option (Int32 × y_H))) (fun j62 =>
      if r7 = true then
        if y_K h8 p2 = 3 then
        y_cl (f_X2_isOf p2 1 h8) (fun r22 h23 =>
        if r22 = true then
          if y_K h23 p1 = 2 then
          if y_K h23 (y_P h23 p1 3) = 100 ∧ y_ix p3 (y_N h23 (y_P h23 p1 3)) = true then
          if y_K h23 p1 = 2 then
          if y_K h23 (y_P h23 p1 2) = 100 ∧ y_ix p3 (y_N h23 (y_P h23 p1 2)) = true then
          if (y_I h23 (y_P h23 p1 3) (Int32.toNatClampNeg p3)) < (y_I h23 (y_P h23 p1 2) (Int32.toNatClampNeg p3)) then
            j62 p0 p1 p2 p3 h23
          else
            some ((-43 : Int32), h23)
          else none
          else none
          else none
          else none
        else
          j62 p0 p1 p2 p3 h23)
        else none
      else
        j62 p0 p1 p2 p3 h8))
      else none)
    else none
    else none)
  else none
abbrev rm_X10_meetsStanding : Room := { frames := 4, cells := 0, slots := 0, locals := 94 }
set_option maxRecDepth 100000 in
set_option maxHeartbeats 4000000 in
theorem k_X10_meetsStanding {l : Launch} {G : y_G} {p0 : Nat} {p1 : Nat} {p2 : Nat} {p3 : Int32} {h hz : y_H} {rz : Int32} (hf : f_X10_meetsStanding p0 p1 p2 p3 h = some (rz, hz)) : y_S l G M_X10_meetsStanding rm_X10_meetsStanding [y_p p0, y_p p1, y_p p2, .int p3] h (some (.int rz)) hz := by
  refine y_start (lv := [(0, y_p p0), (1, y_p p1), (2, y_p p2), (3, .int p3)]) (by decide) (by simp [lg_sl, y_p_cat, y_ci, y_cj, M_X10_meetsStanding]) (by simp [lv_args, y_p_cat, y_ci, y_cj]) (fun z ad0 => ?_)
  unfold f_X10_meetsStanding at hf
  refine y_aload_n (x := p1) (pc2 := 1) rfl dX10_meetsStanding_0 rfl ?_
  refine y_aload_n (x := p2) (pc2 := 2) rfl dX10_meetsStanding_1 rfl ?_
  refine y_iload_n (pc2 := 3) rfl dX10_meetsStanding_2 rfl ?_
  obtain ⟨g38, hf⟩ := y_g hf
  obtain ⟨r1, h2, c3, hf⟩ := y_clE hf
  refine y_callV (As := [y_p p2, .int p3]) (rm := rm_X1_topRefuses) (cells := 0) (slots := 0) (pc2 := 6) rfl dX10_meetsStanding_3 n_X1_topRefuses l_BoxYard_Yard_208 i_X1_topRefuses e_X1_topRefuses (ci := 1) rfl rfl (by decide) g38 rfl rfl (by decide) (by decide) (by decide) (k_X1_topRefuses c3) ?_
  refine y_ifz_eq (tgt := 12) (pc2 := 9) rfl dX10_meetsStanding_6 (by decide) (fun c37 => ?_) (fun c37 => ?_)
  · replace hf := y_ie c37 hf
    refine y_aload_n (x := p1) (pc2 := 13) rfl dX10_meetsStanding_12 rfl ?_
    refine y_aload_n (x := p2) (pc2 := 14) rfl dX10_meetsStanding_13 rfl ?_
    refine y_iload_n (pc2 := 15) rfl dX10_meetsStanding_14 rfl ?_
    refine y_aload_n (x := p0) (pc2 := 16) rfl dX10_meetsStanding_15 rfl ?_
    obtain ⟨g36, hf⟩ := y_g hf
    refine y_getP (pc2 := 19) rfl dX10_meetsStanding_16 F_BoxYard_Yard_48 (by decide) rfl g36 ?_
    obtain ⟨g35, hf⟩ := y_g hf
    obtain ⟨r4, h5, c6, hf⟩ := y_clE hf
    refine y_callV (As := [y_p p2, .int p3, y_p (y_P h2 p0 12)]) (rm := rm_X1_isTooHeavy) (cells := 0) (slots := 0) (pc2 := 22) rfl dX10_meetsStanding_19 n_X1_isTooHeavy l_BoxYard_Yard_212 i_X1_isTooHeavy e_X1_isTooHeavy (ci := 1) rfl rfl (by decide) g35 rfl rfl (by decide) (by decide) (by decide) (k_X1_isTooHeavy c6) ?_
    refine y_ifz_eq (tgt := 28) (pc2 := 25) rfl dX10_meetsStanding_22 (by decide) (fun c34 => ?_) (fun c34 => ?_)
    · replace hf := y_ie c34 hf
      refine y_aload_n (x := p1) (pc2 := 29) rfl dX10_meetsStanding_28 rfl ?_
      refine y_iload_n (pc2 := 30) rfl dX10_meetsStanding_29 rfl ?_
      obtain ⟨g33, hf⟩ := y_g hf
      obtain ⟨r7, h8, c9, hf⟩ := y_clE hf
      refine y_callV (As := [.int p3]) (rm := rm_X1_hasStack) (cells := 0) (slots := 0) (pc2 := 33) rfl dX10_meetsStanding_30 n_X1_hasStack l_BoxYard_Yard_184 i_X1_hasStack e_X1_hasStack (ci := 1) rfl rfl (by decide) g33 rfl rfl (by decide) (by decide) (by decide) (k_X1_hasStack c9) ?_
      refine y_jnE hf (fun j => ∀ (v0_62 : Nat) (v1_62 : Nat) (v2_62 : Nat) (v3_62 : Int32) (h10 : y_H), j v0_62 v1_62 v2_62 v3_62 h10 = some (rz, hz) → y_V l G z rm_X10_meetsStanding M_X10_meetsStanding ad0 h (some (.int rz)) hz 62 [(0, y_p v0_62), (1, y_p v1_62), (2, y_p v2_62), (3, .int v3_62)] [] h10 0 0) (fun v0_62 v1_62 v2_62 v3_62 h10 hf => ?_) (fun j62 hj62 hf => ?_)
      · refine y_aload_n (x := v0_62) (pc2 := 63) rfl dX10_meetsStanding_62 rfl ?_
        refine y_aload_n (x := v1_62) (pc2 := 64) rfl dX10_meetsStanding_63 rfl ?_
        refine y_aload_n (x := v2_62) (pc2 := 65) rfl dX10_meetsStanding_64 rfl ?_
        refine y_iload_n (pc2 := 66) rfl dX10_meetsStanding_65 rfl ?_
        obtain ⟨g21, hf⟩ := y_g hf
        obtain ⟨r11, h12, c13, hf⟩ := y_clE hf
        refine y_callV (As := [y_p v1_62, y_p v2_62, .int v3_62]) (rm := rm_X10_isTooNear) (cells := 0) (slots := 0) (pc2 := 69) rfl dX10_meetsStanding_66 n_X10_isTooNear l_BoxYard_Yard_222 i_X10_isTooNear e_X10_isTooNear (ci := 10) rfl rfl (by decide) g21 rfl rfl (by decide) (by decide) (by decide) (k_X10_isTooNear c13) ?_
        refine y_ifz_eq (tgt := 75) (pc2 := 72) rfl dX10_meetsStanding_69 (by decide) (fun c20 => ?_) (fun c20 => ?_)
        · replace hf := y_ie c20 hf
          refine y_aload_n (x := v1_62) (pc2 := 76) rfl dX10_meetsStanding_75 rfl ?_
          refine y_aload_n (x := v2_62) (pc2 := 77) rfl dX10_meetsStanding_76 rfl ?_
          refine y_iload_n (pc2 := 78) rfl dX10_meetsStanding_77 rfl ?_
          refine y_aload_n (x := v0_62) (pc2 := 79) rfl dX10_meetsStanding_78 rfl ?_
          obtain ⟨g19, hf⟩ := y_g hf
          refine y_getP (pc2 := 82) rfl dX10_meetsStanding_79 F_BoxYard_Yard_48 (by decide) rfl g19 ?_
          obtain ⟨g18, hf⟩ := y_g hf
          obtain ⟨r14, h15, c16, hf⟩ := y_clE hf
          refine y_callV (As := [y_p v2_62, .int v3_62, y_p (y_P h12 v0_62 12)]) (rm := rm_X1_isTooTall) (cells := 0) (slots := 0) (pc2 := 85) rfl dX10_meetsStanding_82 n_X1_isTooTall l_BoxYard_Yard_226 i_X1_isTooTall e_X1_isTooTall (ci := 1) rfl rfl (by decide) g18 rfl rfl (by decide) (by decide) (by decide) (k_X1_isTooTall c16) ?_
          refine y_ifz_eq (tgt := 93) (pc2 := 88) rfl dX10_meetsStanding_85 (by decide) (fun c17 => ?_) (fun c17 => ?_)
          · replace hf := y_ie c17 hf
            refine y_iconst (v := 0) (pc2 := 94) rfl dX10_meetsStanding_93 (by decide) ?_
            exact y_iretF hf dX10_meetsStanding_94 rfl (by decide) (by decide)
          · replace hf := y_it c17 hf
            refine y_bipush (v := (-45 : Int32)) (pc2 := 90) rfl dX10_meetsStanding_88 (by decide) ?_
            refine y_goto (tgt := 94) dX10_meetsStanding_90 (by decide) ?_
            exact y_iretF hf dX10_meetsStanding_94 rfl (by decide) (by decide)
        · replace hf := y_it c20 hf
          refine y_bipush (v := (-44 : Int32)) (pc2 := 74) rfl dX10_meetsStanding_72 (by decide) ?_
          exact y_iretF hf dX10_meetsStanding_74 rfl (by decide) (by decide)
      · refine y_ifz_eq (tgt := 62) (pc2 := 36) rfl dX10_meetsStanding_33 (by decide) (fun c32 => ?_) (fun c32 => ?_)
        · replace hf := y_ie c32 hf
          exact y_pk [0, 1, 2, 3] rfl (hj62 _ _ _ _ _ hf)
        · replace hf := y_it c32 hf
          refine y_aload_n (x := p2) (pc2 := 37) rfl dX10_meetsStanding_36 rfl ?_
          refine y_iconst (v := 1) (pc2 := 38) rfl dX10_meetsStanding_37 (by decide) ?_
          obtain ⟨g31, hf⟩ := y_g hf
          obtain ⟨r22, h23, c24, hf⟩ := y_clE hf
          refine y_callV (As := [.int 1]) (rm := rm_X2_isOf) (cells := 0) (slots := 0) (pc2 := 41) rfl dX10_meetsStanding_38 n_X2_isOf l_BoxYard_Yard_216 i_X2_isOf e_X2_isOf (ci := 2) rfl rfl (by decide) g31 rfl rfl (by decide) (by decide) (by decide) (k_X2_isOf c24) ?_
          refine y_ifz_eq (tgt := 62) (pc2 := 44) rfl dX10_meetsStanding_41 (by decide) (fun c30 => ?_) (fun c30 => ?_)
          · replace hf := y_ie c30 hf
            exact y_pk [0, 1, 2, 3] rfl (hj62 _ _ _ _ _ hf)
          · replace hf := y_it c30 hf
            refine y_aload_n (x := p1) (pc2 := 45) rfl dX10_meetsStanding_44 rfl ?_
            obtain ⟨g29, hf⟩ := y_g hf
            refine y_getP (pc2 := 48) rfl dX10_meetsStanding_45 F_BoxYard_Yard_194 (by decide) rfl g29 ?_
            refine y_iload_n (pc2 := 49) rfl dX10_meetsStanding_48 rfl ?_
            obtain ⟨g28, hf⟩ := y_g hf
            refine y_iald (pc2 := 50) rfl dX10_meetsStanding_49 g28.1 (y_ix_in g28.2) ?_
            refine y_aload_n (x := p1) (pc2 := 51) rfl dX10_meetsStanding_50 rfl ?_
            obtain ⟨g27, hf⟩ := y_g hf
            refine y_getP (pc2 := 54) rfl dX10_meetsStanding_51 F_BoxYard_Yard_219 (by decide) rfl g27 ?_
            refine y_iload_n (pc2 := 55) rfl dX10_meetsStanding_54 rfl ?_
            obtain ⟨g26, hf⟩ := y_g hf
            refine y_iald (pc2 := 56) rfl dX10_meetsStanding_55 g26.1 (y_ix_in g26.2) ?_
            refine y_icmp_lt (tgt := 62) (pc2 := 59) rfl dX10_meetsStanding_56 (by decide) (fun c25 => ?_) (fun c25 => ?_)
            · replace hf := y_it c25 hf
              exact y_pk [0, 1, 2, 3] rfl (hj62 _ _ _ _ _ hf)
            · replace hf := y_ie c25 hf
              refine y_bipush (v := (-43 : Int32)) (pc2 := 61) rfl dX10_meetsStanding_59 (by decide) ?_
              exact y_iretF hf dX10_meetsStanding_61 rfl (by decide) (by decide)
    · replace hf := y_it c34 hf
      refine y_bipush (v := (-42 : Int32)) (pc2 := 27) rfl dX10_meetsStanding_25 (by decide) ?_
      exact y_iretF hf dX10_meetsStanding_27 rfl (by decide) (by decide)
  · replace hf := y_it c37 hf
    refine y_bipush (v := (-41 : Int32)) (pc2 := 11) rfl dX10_meetsStanding_9 (by decide) ?_
    exact y_iretF hf dX10_meetsStanding_11 rfl (by decide) (by decide)
theorem dX10_meetsSetting_0 : decode cX10_meetsSetting 0 = .ok (.aload_n 0, 1) := by decide +kernel
theorem dX10_meetsSetting_1 : decode cX10_meetsSetting 1 = .ok (.aload_n 1, 1) := by decide +kernel
theorem dX10_meetsSetting_2 : decode cX10_meetsSetting 2 = .ok (.invokevirtual 165, 3) := by decide +kernel
theorem dX10_meetsSetting_5 : decode cX10_meetsSetting 5 = .ok (.ifCond .eq 6, 3) := by decide +kernel
theorem dX10_meetsSetting_8 : decode cX10_meetsSetting 8 = .ok (.bipush (-46), 2) := by decide +kernel
theorem dX10_meetsSetting_10 : decode cX10_meetsSetting 10 = .ok (.ireturn, 1) := by decide +kernel
theorem dX10_meetsSetting_11 : decode cX10_meetsSetting 11 = .ok (.aload_n 0, 1) := by decide +kernel
theorem dX10_meetsSetting_12 : decode cX10_meetsSetting 12 = .ok (.aload_n 1, 1) := by decide +kernel
theorem dX10_meetsSetting_13 : decode cX10_meetsSetting 13 = .ok (.getfield 158, 3) := by decide +kernel
theorem dX10_meetsSetting_16 : decode cX10_meetsSetting 16 = .ok (.invokevirtual 97, 3) := by decide +kernel
theorem dX10_meetsSetting_19 : decode cX10_meetsSetting 19 = .ok (.astore 4, 2) := by decide +kernel
theorem dX10_meetsSetting_21 : decode cX10_meetsSetting 21 = .ok (.aload 4, 2) := by decide +kernel
theorem dX10_meetsSetting_23 : decode cX10_meetsSetting 23 = .ok (.ifnonnull 6, 3) := by decide +kernel
theorem dX10_meetsSetting_26 : decode cX10_meetsSetting 26 = .ok (.bipush (-61), 2) := by decide +kernel
theorem dX10_meetsSetting_28 : decode cX10_meetsSetting 28 = .ok (.ireturn, 1) := by decide +kernel
theorem dX10_meetsSetting_29 : decode cX10_meetsSetting 29 = .ok (.aload 4, 2) := by decide +kernel
theorem dX10_meetsSetting_31 : decode cX10_meetsSetting 31 = .ok (.iload_n 3, 1) := by decide +kernel
theorem dX10_meetsSetting_32 : decode cX10_meetsSetting 32 = .ok (.invokevirtual 184, 3) := by decide +kernel
theorem dX10_meetsSetting_35 : decode cX10_meetsSetting 35 = .ok (.ifCond .eq 20, 3) := by decide +kernel
theorem dX10_meetsSetting_38 : decode cX10_meetsSetting 38 = .ok (.aload 4, 2) := by decide +kernel
theorem dX10_meetsSetting_40 : decode cX10_meetsSetting 40 = .ok (.getfield 194, 3) := by decide +kernel
theorem dX10_meetsSetting_43 : decode cX10_meetsSetting 43 = .ok (.iload_n 3, 1) := by decide +kernel
theorem dX10_meetsSetting_44 : decode cX10_meetsSetting 44 = .ok (.iaload, 1) := by decide +kernel
theorem dX10_meetsSetting_45 : decode cX10_meetsSetting 45 = .ok (.aload 4, 2) := by decide +kernel
theorem dX10_meetsSetting_47 : decode cX10_meetsSetting 47 = .ok (.getfield 197, 3) := by decide +kernel
theorem dX10_meetsSetting_50 : decode cX10_meetsSetting 50 = .ok (.iload_n 3, 1) := by decide +kernel
theorem dX10_meetsSetting_51 : decode cX10_meetsSetting 51 = .ok (.iaload, 1) := by decide +kernel
theorem dX10_meetsSetting_52 : decode cX10_meetsSetting 52 = .ok (.if_icmp .lt 6, 3) := by decide +kernel
theorem dX10_meetsSetting_55 : decode cX10_meetsSetting 55 = .ok (.bipush (-62), 2) := by decide +kernel
theorem dX10_meetsSetting_57 : decode cX10_meetsSetting 57 = .ok (.ireturn, 1) := by decide +kernel
theorem dX10_meetsSetting_58 : decode cX10_meetsSetting 58 = .ok (.aload_n 1, 1) := by decide +kernel
theorem dX10_meetsSetting_59 : decode cX10_meetsSetting 59 = .ok (.iload_n 3, 1) := by decide +kernel
theorem dX10_meetsSetting_60 : decode cX10_meetsSetting 60 = .ok (.aload 4, 2) := by decide +kernel
theorem dX10_meetsSetting_62 : decode cX10_meetsSetting 62 = .ok (.getfield 194, 3) := by decide +kernel
theorem dX10_meetsSetting_65 : decode cX10_meetsSetting 65 = .ok (.iload_n 3, 1) := by decide +kernel
theorem dX10_meetsSetting_66 : decode cX10_meetsSetting 66 = .ok (.iaload, 1) := by decide +kernel
theorem dX10_meetsSetting_67 : decode cX10_meetsSetting 67 = .ok (.aload_n 0, 1) := by decide +kernel
theorem dX10_meetsSetting_68 : decode cX10_meetsSetting 68 = .ok (.getfield 48, 3) := by decide +kernel
theorem dX10_meetsSetting_71 : decode cX10_meetsSetting 71 = .ok (.invokevirtual 190, 3) := by decide +kernel
theorem dX10_meetsSetting_74 : decode cX10_meetsSetting 74 = .ok (.ifCond .ne 6, 3) := by decide +kernel
theorem dX10_meetsSetting_77 : decode cX10_meetsSetting 77 = .ok (.bipush (-48), 2) := by decide +kernel
theorem dX10_meetsSetting_79 : decode cX10_meetsSetting 79 = .ok (.ireturn, 1) := by decide +kernel
theorem dX10_meetsSetting_80 : decode cX10_meetsSetting 80 = .ok (.aload_n 0, 1) := by decide +kernel
theorem dX10_meetsSetting_81 : decode cX10_meetsSetting 81 = .ok (.aload 4, 2) := by decide +kernel
theorem dX10_meetsSetting_83 : decode cX10_meetsSetting 83 = .ok (.aload_n 2, 1) := by decide +kernel
theorem dX10_meetsSetting_84 : decode cX10_meetsSetting 84 = .ok (.iload_n 3, 1) := by decide +kernel
theorem dX10_meetsSetting_85 : decode cX10_meetsSetting 85 = .ok (.invokevirtual 200, 3) := by decide +kernel
theorem dX10_meetsSetting_88 : decode cX10_meetsSetting 88 = .ok (.istore 5, 2) := by decide +kernel
theorem dX10_meetsSetting_90 : decode cX10_meetsSetting 90 = .ok (.iload 5, 2) := by decide +kernel
theorem dX10_meetsSetting_92 : decode cX10_meetsSetting 92 = .ok (.ifCond .eq 6, 3) := by decide +kernel
theorem dX10_meetsSetting_95 : decode cX10_meetsSetting 95 = .ok (.iload 5, 2) := by decide +kernel
theorem dX10_meetsSetting_97 : decode cX10_meetsSetting 97 = .ok (.ireturn, 1) := by decide +kernel
theorem dX10_meetsSetting_98 : decode cX10_meetsSetting 98 = .ok (.aload 4, 2) := by decide +kernel
theorem dX10_meetsSetting_100 : decode cX10_meetsSetting 100 = .ok (.aload_n 2, 1) := by decide +kernel
theorem dX10_meetsSetting_101 : decode cX10_meetsSetting 101 = .ok (.invokevirtual 204, 3) := by decide +kernel
theorem dX10_meetsSetting_104 : decode cX10_meetsSetting 104 = .ok (.ifCond .eq 7, 3) := by decide +kernel
theorem dX10_meetsSetting_107 : decode cX10_meetsSetting 107 = .ok (.iconst 0, 1) := by decide +kernel
theorem dX10_meetsSetting_108 : decode cX10_meetsSetting 108 = .ok (.goto 5, 3) := by decide +kernel
theorem dX10_meetsSetting_111 : decode cX10_meetsSetting 111 = .ok (.bipush (-64), 2) := by decide +kernel
theorem dX10_meetsSetting_113 : decode cX10_meetsSetting 113 = .ok (.ireturn, 1) := by decide +kernel
def M_X10_meetsSetting : y_M := (yX10_meetsSetting, cX10_meetsSetting, 6, (Option.some Jvm.ClassFile.FieldType.int))
theorem n_X10_meetsSetting : y_N0 M_X10_meetsSetting 3 := ⟨(c_4 43 (by decide +kernel) rfl), (c_1 2 (by decide +kernel) rfl), ⟨by decide +kernel, by decide +kernel⟩, by decide +kernel⟩
theorem F_BoxYard_Yard_197 : y_F "BoxYard$Yard" 197 1 1 := ⟨_, _, _, rfl, by decide, Or.inr ⟨"BoxYard", (c_3 64 (by decide +kernel) rfl)⟩⟩
theorem l_BoxYard_Yard_200 : y_lnk "BoxYard$Yard" 200 M_X10_meetsStanding := Or.inl (c_4 63 (by decide +kernel) rfl)
theorem i_X10_meetsStanding : Cond.instanceMethod (M_X10_meetsStanding).1 ∈ y_tb := (c_4 65 (by decide +kernel) rfl)
theorem e_X10_meetsStanding : Cond.selects (M_X10_meetsStanding).1.cls (M_X10_meetsStanding).1 (M_X10_meetsStanding).1 ∈ y_tb := (m_s 15 (by decide +kernel) rfl)
theorem l_BoxYard_Yard_204 : y_lnk "BoxYard$Yard" 204 M_X1_takesForm := Or.inl (c_4 103 (by decide +kernel) rfl)
theorem i_X1_takesForm : Cond.instanceMethod (M_X1_takesForm).1 ∈ y_tb := (c_4 104 (by decide +kernel) rfl)
theorem e_X1_takesForm : Cond.selects (M_X1_takesForm).1.cls (M_X1_takesForm).1 (M_X1_takesForm).1 ∈ y_tb := (c_4 105 (by decide +kernel) rfl)
set_option maxRecDepth 100000 in
def f_X10_meetsSetting (p0 : Nat) (p1 : Nat) (p2 : Nat) (p3 : Int32) (h : y_H) : Option (Int32 × y_H) :=
  if y_K h p0 = 11 then
  y_cl (f_X10_isTooWindy p0 p1 h) (fun r1 h2 =>
  if r1 = true then
    some ((-46 : Int32), h2)
  else
    if y_K h2 p1 = 4 then
    if y_K h2 p0 = 11 then
    y_cl (f_X10_bayAt p0 (y_I h2 p1 3) h2) (fun r4 h5 =>
    if r4 = 0 then
      some ((-61 : Int32), h5)
    else
      if y_K h5 r4 = 2 then
      y_cl (f_X1_hasStack r4 p3 h5) (fun r7 h8 =>
      y_jn (fun (h10 : y_H) => (
          some ((-62 : Int32), h10) : Option (Int32 × y_H))) (fun j55 =>
      if r7 = true then
        if y_K h8 r4 = 2 then
        if y_K h8 (y_P h8 r4 3) = 100 ∧ y_ix p3 (y_N h8 (y_P h8 r4 3)) = true then
        if y_K h8 r4 = 2 then
        if y_K h8 (y_P h8 r4 1) = 100 ∧ y_ix p3 (y_N h8 (y_P h8 r4 1)) = true then
        if (y_I h8 (y_P h8 r4 3) (Int32.toNatClampNeg p3)) < (y_I h8 (y_P h8 r4 1) (Int32.toNatClampNeg p3)) then
          if y_K h8 r4 = 2 then
          if y_K h8 (y_P h8 r4 3) = 100 ∧ y_ix p3 (y_N h8 (y_P h8 r4 3)) = true then
          if y_K h8 p0 = 11 then
          if y_K h8 p1 = 4 then
          y_cl (f_X3_reaches p1 p3 (y_I h8 (y_P h8 r4 3) (Int32.toNatClampNeg p3)) (y_P h8 p0 12) h8) (fun r11 h12 =>
          if r11 = true then
            if y_K h12 p0 = 11 then
            y_cl (f_X10_meetsStanding p0 r4 p2 p3 h12) (fun r14 h15 =>
            if r14 = 0 then
              if y_K h15 r4 = 2 then
              y_cl (f_X1_takesForm r4 p2 h15) (fun r17 h18 =>
              if r17 = true then
                some (0, h18)
              else
                some ((-64 : Int32), h18))
              else none
            else
              some (r14, h15))
            else none
          else
            some ((-48 : Int32), h12))
          else none
          else none
          else none
          else none
        else
          j55 h8
        else none
        else none
        else none
        else none
      else
        j55 h8))
      else none)
    else none
    else none)
  else none
abbrev rm_X10_meetsSetting : Room := { frames := 5, cells := 0, slots := 0, locals := 117 }
set_option maxRecDepth 100000 in
set_option maxHeartbeats 4000000 in
theorem k_X10_meetsSetting {l : Launch} {G : y_G} {p0 : Nat} {p1 : Nat} {p2 : Nat} {p3 : Int32} {h hz : y_H} {rz : Int32} (hf : f_X10_meetsSetting p0 p1 p2 p3 h = some (rz, hz)) : y_S l G M_X10_meetsSetting rm_X10_meetsSetting [y_p p0, y_p p1, y_p p2, .int p3] h (some (.int rz)) hz := by
  refine y_start (lv := [(0, y_p p0), (1, y_p p1), (2, y_p p2), (3, .int p3)]) (by decide) (by simp [lg_sl, y_p_cat, y_ci, y_cj, M_X10_meetsSetting]) (by simp [lv_args, y_p_cat, y_ci, y_cj]) (fun z ad0 => ?_)
  unfold f_X10_meetsSetting at hf
  refine y_aload_n (x := p0) (pc2 := 1) rfl dX10_meetsSetting_0 rfl ?_
  refine y_aload_n (x := p1) (pc2 := 2) rfl dX10_meetsSetting_1 rfl ?_
  obtain ⟨g40, hf⟩ := y_g hf
  obtain ⟨r1, h2, c3, hf⟩ := y_clE hf
  refine y_callV (As := [y_p p1]) (rm := rm_X10_isTooWindy) (cells := 0) (slots := 0) (pc2 := 5) rfl dX10_meetsSetting_2 n_X10_isTooWindy l_BoxYard_Yard_165 i_X10_isTooWindy e_X10_isTooWindy (ci := 10) rfl rfl (by decide) g40 rfl rfl (by decide) (by decide) (by decide) (k_X10_isTooWindy c3) ?_
  refine y_ifz_eq (tgt := 11) (pc2 := 8) rfl dX10_meetsSetting_5 (by decide) (fun c39 => ?_) (fun c39 => ?_)
  · replace hf := y_ie c39 hf
    refine y_aload_n (x := p0) (pc2 := 12) rfl dX10_meetsSetting_11 rfl ?_
    refine y_aload_n (x := p1) (pc2 := 13) rfl dX10_meetsSetting_12 rfl ?_
    obtain ⟨g38, hf⟩ := y_g hf
    refine y_getI (pc2 := 16) rfl dX10_meetsSetting_13 F_BoxYard_Yard_158 (by decide) rfl g38 ?_
    obtain ⟨g37, hf⟩ := y_g hf
    obtain ⟨r4, h5, c6, hf⟩ := y_clE hf
    refine y_callV (As := [.int (y_I h2 p1 3)]) (rm := rm_X10_bayAt) (cells := 0) (slots := 0) (pc2 := 19) rfl dX10_meetsSetting_16 n_X10_bayAt l_BoxYard_Yard_97 i_X10_bayAt e_X10_bayAt (ci := 10) rfl rfl (by decide) g37 rfl rfl (by decide) (by decide) (by decide) (k_X10_bayAt c6) ?_
    refine y_astore (lv' := [(4, y_p r4), (0, y_p p0), (1, y_p p1), (2, y_p p2), (3, .int p3)]) (pc2 := 21) rfl dX10_meetsSetting_19 (by decide) rfl ?_
    refine y_aload (x := r4) (pc2 := 23) rfl dX10_meetsSetting_21 rfl ?_
    refine y_ifnonnull (tgt := 29) (pc2 := 26) rfl dX10_meetsSetting_23 (by decide) (fun c36 => ?_) (fun c36 => ?_)
    · replace hf := y_ie c36 hf
      refine y_aload (x := r4) (pc2 := 31) rfl dX10_meetsSetting_29 rfl ?_
      refine y_iload_n (pc2 := 32) rfl dX10_meetsSetting_31 rfl ?_
      obtain ⟨g35, hf⟩ := y_g hf
      obtain ⟨r7, h8, c9, hf⟩ := y_clE hf
      refine y_callV (As := [.int p3]) (rm := rm_X1_hasStack) (cells := 0) (slots := 0) (pc2 := 35) rfl dX10_meetsSetting_32 n_X1_hasStack l_BoxYard_Yard_184 i_X1_hasStack e_X1_hasStack (ci := 1) rfl rfl (by decide) g35 rfl rfl (by decide) (by decide) (by decide) (k_X1_hasStack c9) ?_
      refine y_jnE hf (fun j => ∀ (h10 : y_H), j h10 = some (rz, hz) → y_V l G z rm_X10_meetsSetting M_X10_meetsSetting ad0 h (some (.int rz)) hz 55 [] [] h10 0 0) (fun h10 hf => ?_) (fun j55 hj55 hf => ?_)
      · refine y_bipush (v := (-62 : Int32)) (pc2 := 57) rfl dX10_meetsSetting_55 (by decide) ?_
        exact y_iretF hf dX10_meetsSetting_57 rfl (by decide) (by decide)
      · refine y_ifz_eq (tgt := 55) (pc2 := 38) rfl dX10_meetsSetting_35 (by decide) (fun c34 => ?_) (fun c34 => ?_)
        · replace hf := y_ie c34 hf
          exact y_pk [] rfl (hj55 _ hf)
        · replace hf := y_it c34 hf
          refine y_aload (x := r4) (pc2 := 40) rfl dX10_meetsSetting_38 rfl ?_
          obtain ⟨g33, hf⟩ := y_g hf
          refine y_getP (pc2 := 43) rfl dX10_meetsSetting_40 F_BoxYard_Yard_194 (by decide) rfl g33 ?_
          refine y_iload_n (pc2 := 44) rfl dX10_meetsSetting_43 rfl ?_
          obtain ⟨g32, hf⟩ := y_g hf
          refine y_iald (pc2 := 45) rfl dX10_meetsSetting_44 g32.1 (y_ix_in g32.2) ?_
          refine y_aload (x := r4) (pc2 := 47) rfl dX10_meetsSetting_45 rfl ?_
          obtain ⟨g31, hf⟩ := y_g hf
          refine y_getP (pc2 := 50) rfl dX10_meetsSetting_47 F_BoxYard_Yard_197 (by decide) rfl g31 ?_
          refine y_iload_n (pc2 := 51) rfl dX10_meetsSetting_50 rfl ?_
          obtain ⟨g30, hf⟩ := y_g hf
          refine y_iald (pc2 := 52) rfl dX10_meetsSetting_51 g30.1 (y_ix_in g30.2) ?_
          refine y_icmp_lt (tgt := 58) (pc2 := 55) rfl dX10_meetsSetting_52 (by decide) (fun c29 => ?_) (fun c29 => ?_)
          · replace hf := y_it c29 hf
            refine y_aload_n (x := p1) (pc2 := 59) rfl dX10_meetsSetting_58 rfl ?_
            refine y_iload_n (pc2 := 60) rfl dX10_meetsSetting_59 rfl ?_
            refine y_aload (x := r4) (pc2 := 62) rfl dX10_meetsSetting_60 rfl ?_
            obtain ⟨g28, hf⟩ := y_g hf
            refine y_getP (pc2 := 65) rfl dX10_meetsSetting_62 F_BoxYard_Yard_194 (by decide) rfl g28 ?_
            refine y_iload_n (pc2 := 66) rfl dX10_meetsSetting_65 rfl ?_
            obtain ⟨g27, hf⟩ := y_g hf
            refine y_iald (pc2 := 67) rfl dX10_meetsSetting_66 g27.1 (y_ix_in g27.2) ?_
            refine y_aload_n (x := p0) (pc2 := 68) rfl dX10_meetsSetting_67 rfl ?_
            obtain ⟨g26, hf⟩ := y_g hf
            refine y_getP (pc2 := 71) rfl dX10_meetsSetting_68 F_BoxYard_Yard_48 (by decide) rfl g26 ?_
            obtain ⟨g25, hf⟩ := y_g hf
            obtain ⟨r11, h12, c13, hf⟩ := y_clE hf
            refine y_callV (As := [.int p3, .int (y_I h8 (y_P h8 r4 3) (Int32.toNatClampNeg p3)), y_p (y_P h8 p0 12)]) (rm := rm_X3_reaches) (cells := 0) (slots := 0) (pc2 := 74) rfl dX10_meetsSetting_71 n_X3_reaches l_BoxYard_Yard_190 i_X3_reaches e_X3_reaches (ci := 3) rfl rfl (by decide) g25 rfl rfl (by decide) (by decide) (by decide) (k_X3_reaches c13) ?_
            refine y_ifz_ne (tgt := 80) (pc2 := 77) rfl dX10_meetsSetting_74 (by decide) (fun c24 => ?_) (fun c24 => ?_)
            · replace hf := y_it c24 hf
              refine y_aload_n (x := p0) (pc2 := 81) rfl dX10_meetsSetting_80 rfl ?_
              refine y_aload (x := r4) (pc2 := 83) rfl dX10_meetsSetting_81 rfl ?_
              refine y_aload_n (x := p2) (pc2 := 84) rfl dX10_meetsSetting_83 rfl ?_
              refine y_iload_n (pc2 := 85) rfl dX10_meetsSetting_84 rfl ?_
              obtain ⟨g23, hf⟩ := y_g hf
              obtain ⟨r14, h15, c16, hf⟩ := y_clE hf
              refine y_callV (As := [y_p r4, y_p p2, .int p3]) (rm := rm_X10_meetsStanding) (cells := 0) (slots := 0) (pc2 := 88) rfl dX10_meetsSetting_85 n_X10_meetsStanding l_BoxYard_Yard_200 i_X10_meetsStanding e_X10_meetsStanding (ci := 10) rfl rfl (by decide) g23 rfl rfl (by decide) (by decide) (by decide) (k_X10_meetsStanding c16) ?_
              refine y_istore (lv' := [(5, .int r14), (4, y_p r4), (0, y_p p0), (1, y_p p1), (2, y_p p2), (3, .int p3)]) (pc2 := 90) rfl dX10_meetsSetting_88 (by decide) (by show y_st1 _ 5 _ = _; simp [y_st1, y_p_cat, y_ci, y_cj]) ?_
              refine y_iload (pc2 := 92) rfl dX10_meetsSetting_90 rfl ?_
              refine y_if_eq (tgt := 98) (pc2 := 95) rfl dX10_meetsSetting_92 (by decide) (fun c22 => ?_) (fun c22 => ?_)
              · replace hf := y_it c22 hf
                refine y_aload (x := r4) (pc2 := 100) rfl dX10_meetsSetting_98 rfl ?_
                refine y_aload_n (x := p2) (pc2 := 101) rfl dX10_meetsSetting_100 rfl ?_
                obtain ⟨g21, hf⟩ := y_g hf
                obtain ⟨r17, h18, c19, hf⟩ := y_clE hf
                refine y_callV (As := [y_p p2]) (rm := rm_X1_takesForm) (cells := 0) (slots := 0) (pc2 := 104) rfl dX10_meetsSetting_101 n_X1_takesForm l_BoxYard_Yard_204 i_X1_takesForm e_X1_takesForm (ci := 1) rfl rfl (by decide) g21 rfl rfl (by decide) (by decide) (by decide) (k_X1_takesForm c19) ?_
                refine y_ifz_eq (tgt := 111) (pc2 := 107) rfl dX10_meetsSetting_104 (by decide) (fun c20 => ?_) (fun c20 => ?_)
                · replace hf := y_ie c20 hf
                  refine y_bipush (v := (-64 : Int32)) (pc2 := 113) rfl dX10_meetsSetting_111 (by decide) ?_
                  exact y_iretF hf dX10_meetsSetting_113 rfl (by decide) (by decide)
                · replace hf := y_it c20 hf
                  refine y_iconst (v := 0) (pc2 := 108) rfl dX10_meetsSetting_107 (by decide) ?_
                  refine y_goto (tgt := 113) dX10_meetsSetting_108 (by decide) ?_
                  exact y_iretF hf dX10_meetsSetting_113 rfl (by decide) (by decide)
              · replace hf := y_ie c22 hf
                refine y_iload (pc2 := 97) rfl dX10_meetsSetting_95 rfl ?_
                exact y_iretF hf dX10_meetsSetting_97 rfl (by decide) (by decide)
            · replace hf := y_ie c24 hf
              refine y_bipush (v := (-48 : Int32)) (pc2 := 79) rfl dX10_meetsSetting_77 (by decide) ?_
              exact y_iretF hf dX10_meetsSetting_79 rfl (by decide) (by decide)
          · replace hf := y_ie c29 hf
            exact y_pk [] rfl (hj55 _ hf)
    · replace hf := y_it c36 hf
      refine y_bipush (v := (-61 : Int32)) (pc2 := 28) rfl dX10_meetsSetting_26 (by decide) ?_
      exact y_iretF hf dX10_meetsSetting_28 rfl (by decide) (by decide)
  · replace hf := y_it c39 hf
    refine y_bipush (v := (-46 : Int32)) (pc2 := 10) rfl dX10_meetsSetting_8 (by decide) ?_
    exact y_iretF hf dX10_meetsSetting_10 rfl (by decide) (by decide)
theorem dX10_meetsLoading_0 : decode cX10_meetsLoading 0 = .ok (.aload_n 0, 1) := by decide +kernel
theorem dX10_meetsLoading_1 : decode cX10_meetsLoading 1 = .ok (.aload_n 1, 1) := by decide +kernel
theorem dX10_meetsLoading_2 : decode cX10_meetsLoading 2 = .ok (.invokevirtual 165, 3) := by decide +kernel
theorem dX10_meetsLoading_5 : decode cX10_meetsLoading 5 = .ok (.ifCond .eq 6, 3) := by decide +kernel
theorem dX10_meetsLoading_8 : decode cX10_meetsLoading 8 = .ok (.bipush (-46), 2) := by decide +kernel
theorem dX10_meetsLoading_10 : decode cX10_meetsLoading 10 = .ok (.ireturn, 1) := by decide +kernel
theorem dX10_meetsLoading_11 : decode cX10_meetsLoading 11 = .ok (.aload_n 1, 1) := by decide +kernel
theorem dX10_meetsLoading_12 : decode cX10_meetsLoading 12 = .ok (.getfield 244, 3) := by decide +kernel
theorem dX10_meetsLoading_15 : decode cX10_meetsLoading 15 = .ok (.iconst 1, 1) := by decide +kernel
theorem dX10_meetsLoading_16 : decode cX10_meetsLoading 16 = .ok (.if_icmp .eq 6, 3) := by decide +kernel
theorem dX10_meetsLoading_19 : decode cX10_meetsLoading 19 = .ok (.bipush (-65), 2) := by decide +kernel
theorem dX10_meetsLoading_21 : decode cX10_meetsLoading 21 = .ok (.ireturn, 1) := by decide +kernel
theorem dX10_meetsLoading_22 : decode cX10_meetsLoading 22 = .ok (.aload_n 0, 1) := by decide +kernel
theorem dX10_meetsLoading_23 : decode cX10_meetsLoading 23 = .ok (.aload_n 2, 1) := by decide +kernel
theorem dX10_meetsLoading_24 : decode cX10_meetsLoading 24 = .ok (.getfield 116, 3) := by decide +kernel
theorem dX10_meetsLoading_27 : decode cX10_meetsLoading 27 = .ok (.invokevirtual 247, 3) := by decide +kernel
theorem dX10_meetsLoading_30 : decode cX10_meetsLoading 30 = .ok (.astore_n 3, 1) := by decide +kernel
theorem dX10_meetsLoading_31 : decode cX10_meetsLoading 31 = .ok (.aload_n 3, 1) := by decide +kernel
theorem dX10_meetsLoading_32 : decode cX10_meetsLoading 32 = .ok (.ifnonnull 6, 3) := by decide +kernel
theorem dX10_meetsLoading_35 : decode cX10_meetsLoading 35 = .ok (.bipush (-63), 2) := by decide +kernel
theorem dX10_meetsLoading_37 : decode cX10_meetsLoading 37 = .ok (.ireturn, 1) := by decide +kernel
theorem dX10_meetsLoading_38 : decode cX10_meetsLoading 38 = .ok (.aload_n 1, 1) := by decide +kernel
theorem dX10_meetsLoading_39 : decode cX10_meetsLoading 39 = .ok (.getfield 158, 3) := by decide +kernel
theorem dX10_meetsLoading_42 : decode cX10_meetsLoading 42 = .ok (.aload_n 3, 1) := by decide +kernel
theorem dX10_meetsLoading_43 : decode cX10_meetsLoading 43 = .ok (.getfield 251, 3) := by decide +kernel
theorem dX10_meetsLoading_46 : decode cX10_meetsLoading 46 = .ok (.if_icmp .eq 6, 3) := by decide +kernel
theorem dX10_meetsLoading_49 : decode cX10_meetsLoading 49 = .ok (.bipush (-51), 2) := by decide +kernel
theorem dX10_meetsLoading_51 : decode cX10_meetsLoading 51 = .ok (.ireturn, 1) := by decide +kernel
theorem dX10_meetsLoading_52 : decode cX10_meetsLoading 52 = .ok (.aload_n 3, 1) := by decide +kernel
theorem dX10_meetsLoading_53 : decode cX10_meetsLoading 53 = .ok (.invokevirtual 119, 3) := by decide +kernel
theorem dX10_meetsLoading_56 : decode cX10_meetsLoading 56 = .ok (.aload_n 3, 1) := by decide +kernel
theorem dX10_meetsLoading_57 : decode cX10_meetsLoading 57 = .ok (.aload_n 2, 1) := by decide +kernel
theorem dX10_meetsLoading_58 : decode cX10_meetsLoading 58 = .ok (.aload_n 2, 1) := by decide +kernel
theorem dX10_meetsLoading_59 : decode cX10_meetsLoading 59 = .ok (.getfield 129, 3) := by decide +kernel
theorem dX10_meetsLoading_62 : decode cX10_meetsLoading 62 = .ok (.aload_n 2, 1) := by decide +kernel
theorem dX10_meetsLoading_63 : decode cX10_meetsLoading 63 = .ok (.getfield 132, 3) := by decide +kernel
theorem dX10_meetsLoading_66 : decode cX10_meetsLoading 66 = .ok (.aload_n 2, 1) := by decide +kernel
theorem dX10_meetsLoading_67 : decode cX10_meetsLoading 67 = .ok (.getfield 135, 3) := by decide +kernel
theorem dX10_meetsLoading_70 : decode cX10_meetsLoading 70 = .ok (.invokevirtual 138, 3) := by decide +kernel
theorem dX10_meetsLoading_73 : decode cX10_meetsLoading 73 = .ok (.ireturn, 1) := by decide +kernel
def M_X10_meetsLoading : y_M := (yX10_meetsLoading, cX10_meetsLoading, 4, (Option.some Jvm.ClassFile.FieldType.int))
theorem n_X10_meetsLoading : y_N0 M_X10_meetsLoading 2 := ⟨(c_4 208 (by decide +kernel) rfl), (c_1 2 (by decide +kernel) rfl), ⟨by decide +kernel, by decide +kernel⟩, by decide +kernel⟩
theorem F_BoxYard_Yard_244 : y_F "BoxYard$Yard" 244 3 1 := ⟨_, _, _, rfl, by decide, Or.inr ⟨"BoxYard", (c_3 186 (by decide +kernel) rfl)⟩⟩
theorem l_BoxYard_Yard_247 : y_lnk "BoxYard$Yard" 247 M_X10_shipAt := Or.inl (c_4 163 (by decide +kernel) rfl)
theorem F_BoxYard_Yard_251 : y_F "BoxYard$Yard" 251 7 11 := ⟨_, _, _, rfl, by decide, Or.inr ⟨"BoxYard", (c_5 59 (by decide +kernel) rfl)⟩⟩
set_option maxRecDepth 100000 in
def f_X10_meetsLoading (p0 : Nat) (p1 : Nat) (p2 : Nat) (h : y_H) : Option (Int32 × y_H) :=
  if y_K h p0 = 11 then
  y_cl (f_X10_isTooWindy p0 p1 h) (fun r1 h2 =>
  if r1 = true then
    some ((-46 : Int32), h2)
  else
    if y_K h2 p1 = 4 then
    if (y_I h2 p1 1) = 1 then
      if y_K h2 p2 = 3 then
      if y_K h2 p0 = 11 then
      y_cl (f_X10_shipAt p0 (y_I h2 p2 11) h2) (fun r4 h5 =>
      if r4 = 0 then
        some ((-63 : Int32), h5)
      else
        if y_K h5 p1 = 4 then
        if y_K h5 r4 = 8 then
        if (y_I h5 p1 3) = (y_I h5 r4 11) then
          if y_K h5 r4 = 8 then
          y_cl (f_X7_survey r4 h5) (fun _ h7 =>
          if y_K h7 p2 = 3 then
          if y_K h7 p2 = 3 then
          if y_K h7 p2 = 3 then
          if y_K h7 r4 = 8 then
          y_cl (f_X7_meetsAt r4 p2 (y_I h7 p2 12) (y_I h7 p2 13) (y_I h7 p2 14) h7) (fun r9 h10 =>
          some (r9, h10))
          else none
          else none
          else none
          else none)
          else none
        else
          some ((-51 : Int32), h5)
        else none
        else none)
      else none
      else none
    else
      some ((-65 : Int32), h2)
    else none)
  else none
abbrev rm_X10_meetsLoading : Room := { frames := 4, cells := 0, slots := 0, locals := 93 }
set_option maxRecDepth 100000 in
set_option maxHeartbeats 4000000 in
theorem k_X10_meetsLoading {l : Launch} {G : y_G} {p0 : Nat} {p1 : Nat} {p2 : Nat} {h hz : y_H} {rz : Int32} (hf : f_X10_meetsLoading p0 p1 p2 h = some (rz, hz)) : y_S l G M_X10_meetsLoading rm_X10_meetsLoading [y_p p0, y_p p1, y_p p2] h (some (.int rz)) hz := by
  refine y_start (lv := [(0, y_p p0), (1, y_p p1), (2, y_p p2)]) (by decide) (by simp [lg_sl, y_p_cat, y_ci, y_cj, M_X10_meetsLoading]) (by simp [lv_args, y_p_cat, y_ci, y_cj]) (fun z ad0 => ?_)
  unfold f_X10_meetsLoading at hf
  refine y_aload_n (x := p0) (pc2 := 1) rfl dX10_meetsLoading_0 rfl ?_
  refine y_aload_n (x := p1) (pc2 := 2) rfl dX10_meetsLoading_1 rfl ?_
  obtain ⟨g26, hf⟩ := y_g hf
  obtain ⟨r1, h2, c3, hf⟩ := y_clE hf
  refine y_callV (As := [y_p p1]) (rm := rm_X10_isTooWindy) (cells := 0) (slots := 0) (pc2 := 5) rfl dX10_meetsLoading_2 n_X10_isTooWindy l_BoxYard_Yard_165 i_X10_isTooWindy e_X10_isTooWindy (ci := 10) rfl rfl (by decide) g26 rfl rfl (by decide) (by decide) (by decide) (k_X10_isTooWindy c3) ?_
  refine y_ifz_eq (tgt := 11) (pc2 := 8) rfl dX10_meetsLoading_5 (by decide) (fun c25 => ?_) (fun c25 => ?_)
  · replace hf := y_ie c25 hf
    refine y_aload_n (x := p1) (pc2 := 12) rfl dX10_meetsLoading_11 rfl ?_
    obtain ⟨g24, hf⟩ := y_g hf
    refine y_getI (pc2 := 15) rfl dX10_meetsLoading_12 F_BoxYard_Yard_244 (by decide) rfl g24 ?_
    refine y_iconst (v := 1) (pc2 := 16) rfl dX10_meetsLoading_15 (by decide) ?_
    refine y_icmp_eq (tgt := 22) (pc2 := 19) rfl dX10_meetsLoading_16 (by decide) (fun c23 => ?_) (fun c23 => ?_)
    · replace hf := y_it c23 hf
      refine y_aload_n (x := p0) (pc2 := 23) rfl dX10_meetsLoading_22 rfl ?_
      refine y_aload_n (x := p2) (pc2 := 24) rfl dX10_meetsLoading_23 rfl ?_
      obtain ⟨g22, hf⟩ := y_g hf
      refine y_getI (pc2 := 27) rfl dX10_meetsLoading_24 F_BoxYard_Yard_116 (by decide) rfl g22 ?_
      obtain ⟨g21, hf⟩ := y_g hf
      obtain ⟨r4, h5, c6, hf⟩ := y_clE hf
      refine y_callV (As := [.int (y_I h2 p2 11)]) (rm := rm_X10_shipAt) (cells := 0) (slots := 0) (pc2 := 30) rfl dX10_meetsLoading_27 n_X10_shipAt l_BoxYard_Yard_247 i_X10_shipAt e_X10_shipAt (ci := 10) rfl rfl (by decide) g21 rfl rfl (by decide) (by decide) (by decide) (k_X10_shipAt c6) ?_
      refine y_astore_n (lv' := [(3, y_p r4), (0, y_p p0), (1, y_p p1), (2, y_p p2)]) (pc2 := 31) rfl dX10_meetsLoading_30 (by decide) (by show y_st1 _ 3 _ = _; simp [y_st1, y_p_cat, y_ci, y_cj]) ?_
      refine y_aload_n (x := r4) (pc2 := 32) rfl dX10_meetsLoading_31 rfl ?_
      refine y_ifnonnull (tgt := 38) (pc2 := 35) rfl dX10_meetsLoading_32 (by decide) (fun c20 => ?_) (fun c20 => ?_)
      · replace hf := y_ie c20 hf
        refine y_aload_n (x := p1) (pc2 := 39) rfl dX10_meetsLoading_38 rfl ?_
        obtain ⟨g19, hf⟩ := y_g hf
        refine y_getI (pc2 := 42) rfl dX10_meetsLoading_39 F_BoxYard_Yard_158 (by decide) rfl g19 ?_
        refine y_aload_n (x := r4) (pc2 := 43) rfl dX10_meetsLoading_42 rfl ?_
        obtain ⟨g18, hf⟩ := y_g hf
        refine y_getI (pc2 := 46) rfl dX10_meetsLoading_43 F_BoxYard_Yard_251 (by decide) rfl g18 ?_
        refine y_icmp_eq (tgt := 52) (pc2 := 49) rfl dX10_meetsLoading_46 (by decide) (fun c17 => ?_) (fun c17 => ?_)
        · replace hf := y_it c17 hf
          refine y_aload_n (x := r4) (pc2 := 53) rfl dX10_meetsLoading_52 rfl ?_
          obtain ⟨g16, hf⟩ := y_g hf
          obtain ⟨r_, h7, c8, hf⟩ := y_clE hf
          refine y_callV (As := []) (rm := rm_X7_survey) (cells := 0) (slots := 0) (pc2 := 56) rfl dX10_meetsLoading_53 n_X7_survey l_BoxYard_Yard_119 i_X7_survey e_X7_survey (ci := 7) rfl rfl (by decide) g16 rfl rfl (by decide) (by decide) (by decide) (k_X7_survey c8) ?_
          refine y_aload_n (x := r4) (pc2 := 57) rfl dX10_meetsLoading_56 rfl ?_
          refine y_aload_n (x := p2) (pc2 := 58) rfl dX10_meetsLoading_57 rfl ?_
          refine y_aload_n (x := p2) (pc2 := 59) rfl dX10_meetsLoading_58 rfl ?_
          obtain ⟨g15, hf⟩ := y_g hf
          refine y_getI (pc2 := 62) rfl dX10_meetsLoading_59 F_BoxYard_Yard_129 (by decide) rfl g15 ?_
          refine y_aload_n (x := p2) (pc2 := 63) rfl dX10_meetsLoading_62 rfl ?_
          obtain ⟨g14, hf⟩ := y_g hf
          refine y_getI (pc2 := 66) rfl dX10_meetsLoading_63 F_BoxYard_Yard_132 (by decide) rfl g14 ?_
          refine y_aload_n (x := p2) (pc2 := 67) rfl dX10_meetsLoading_66 rfl ?_
          obtain ⟨g13, hf⟩ := y_g hf
          refine y_getI (pc2 := 70) rfl dX10_meetsLoading_67 F_BoxYard_Yard_135 (by decide) rfl g13 ?_
          obtain ⟨g12, hf⟩ := y_g hf
          obtain ⟨r9, h10, c11, hf⟩ := y_clE hf
          refine y_callV (As := [y_p p2, .int (y_I h7 p2 12), .int (y_I h7 p2 13), .int (y_I h7 p2 14)]) (rm := rm_X7_meetsAt) (cells := 0) (slots := 0) (pc2 := 73) rfl dX10_meetsLoading_70 n_X7_meetsAt l_BoxYard_Yard_138 i_X7_meetsAt e_X7_meetsAt (ci := 7) rfl rfl (by decide) g12 rfl rfl (by decide) (by decide) (by decide) (k_X7_meetsAt c11) ?_
          exact y_iretF hf dX10_meetsLoading_73 rfl (by decide) (by decide)
        · replace hf := y_ie c17 hf
          refine y_bipush (v := (-51 : Int32)) (pc2 := 51) rfl dX10_meetsLoading_49 (by decide) ?_
          exact y_iretF hf dX10_meetsLoading_51 rfl (by decide) (by decide)
      · replace hf := y_it c20 hf
        refine y_bipush (v := (-63 : Int32)) (pc2 := 37) rfl dX10_meetsLoading_35 (by decide) ?_
        exact y_iretF hf dX10_meetsLoading_37 rfl (by decide) (by decide)
    · replace hf := y_ie c23 hf
      refine y_bipush (v := (-65 : Int32)) (pc2 := 21) rfl dX10_meetsLoading_19 (by decide) ?_
      exact y_iretF hf dX10_meetsLoading_21 rfl (by decide) (by decide)
  · replace hf := y_it c25 hf
    refine y_bipush (v := (-46 : Int32)) (pc2 := 10) rfl dX10_meetsLoading_8 (by decide) ?_
    exact y_iretF hf dX10_meetsLoading_10 rfl (by decide) (by decide)
