theorem dX10_meetsFetching_0 : decode cX10_meetsFetching 0 = .ok (.aload_n 0, 1) := by decide +kernel
theorem dX10_meetsFetching_1 : decode cX10_meetsFetching 1 = .ok (.aload_n 1, 1) := by decide +kernel
theorem dX10_meetsFetching_2 : decode cX10_meetsFetching 2 = .ok (.invokevirtual 165, 3) := by decide +kernel
theorem dX10_meetsFetching_5 : decode cX10_meetsFetching 5 = .ok (.ifCond .eq 6, 3) := by decide +kernel
theorem dX10_meetsFetching_8 : decode cX10_meetsFetching 8 = .ok (.bipush (-46), 2) := by decide +kernel
theorem dX10_meetsFetching_10 : decode cX10_meetsFetching 10 = .ok (.ireturn, 1) := by decide +kernel
theorem dX10_meetsFetching_11 : decode cX10_meetsFetching 11 = .ok (.aload_n 1, 1) := by decide +kernel
theorem dX10_meetsFetching_12 : decode cX10_meetsFetching 12 = .ok (.getfield 244, 3) := by decide +kernel
theorem dX10_meetsFetching_15 : decode cX10_meetsFetching 15 = .ok (.iconst 1, 1) := by decide +kernel
theorem dX10_meetsFetching_16 : decode cX10_meetsFetching 16 = .ok (.if_icmp .eq 6, 3) := by decide +kernel
theorem dX10_meetsFetching_19 : decode cX10_meetsFetching 19 = .ok (.bipush (-65), 2) := by decide +kernel
theorem dX10_meetsFetching_21 : decode cX10_meetsFetching 21 = .ok (.ireturn, 1) := by decide +kernel
theorem dX10_meetsFetching_22 : decode cX10_meetsFetching 22 = .ok (.aload_n 1, 1) := by decide +kernel
theorem dX10_meetsFetching_23 : decode cX10_meetsFetching 23 = .ok (.getfield 158, 3) := by decide +kernel
theorem dX10_meetsFetching_26 : decode cX10_meetsFetching 26 = .ok (.aload_n 2, 1) := by decide +kernel
theorem dX10_meetsFetching_27 : decode cX10_meetsFetching 27 = .ok (.getfield 251, 3) := by decide +kernel
theorem dX10_meetsFetching_30 : decode cX10_meetsFetching 30 = .ok (.if_icmp .eq 6, 3) := by decide +kernel
theorem dX10_meetsFetching_33 : decode cX10_meetsFetching 33 = .ok (.bipush (-51), 2) := by decide +kernel
theorem dX10_meetsFetching_35 : decode cX10_meetsFetching 35 = .ok (.ireturn, 1) := by decide +kernel
theorem dX10_meetsFetching_36 : decode cX10_meetsFetching 36 = .ok (.aload_n 2, 1) := by decide +kernel
theorem dX10_meetsFetching_37 : decode cX10_meetsFetching 37 = .ok (.iload_n 3, 1) := by decide +kernel
theorem dX10_meetsFetching_38 : decode cX10_meetsFetching 38 = .ok (.iload 4, 2) := by decide +kernel
theorem dX10_meetsFetching_40 : decode cX10_meetsFetching 40 = .ok (.invokevirtual 254, 3) := by decide +kernel
theorem dX10_meetsFetching_43 : decode cX10_meetsFetching 43 = .ok (.ifCond .ne 6, 3) := by decide +kernel
theorem dX10_meetsFetching_46 : decode cX10_meetsFetching 46 = .ok (.bipush (-62), 2) := by decide +kernel
theorem dX10_meetsFetching_48 : decode cX10_meetsFetching 48 = .ok (.ireturn, 1) := by decide +kernel
theorem dX10_meetsFetching_49 : decode cX10_meetsFetching 49 = .ok (.aload_n 2, 1) := by decide +kernel
theorem dX10_meetsFetching_50 : decode cX10_meetsFetching 50 = .ok (.iload_n 3, 1) := by decide +kernel
theorem dX10_meetsFetching_51 : decode cX10_meetsFetching 51 = .ok (.iload 4, 2) := by decide +kernel
theorem dX10_meetsFetching_53 : decode cX10_meetsFetching 53 = .ok (.invokevirtual 258, 3) := by decide +kernel
theorem dX10_meetsFetching_56 : decode cX10_meetsFetching 56 = .ok (.ifnonnull 8, 3) := by decide +kernel
theorem dX10_meetsFetching_59 : decode cX10_meetsFetching 59 = .ok (.bipush (-63), 2) := by decide +kernel
theorem dX10_meetsFetching_61 : decode cX10_meetsFetching 61 = .ok (.goto 4, 3) := by decide +kernel
theorem dX10_meetsFetching_64 : decode cX10_meetsFetching 64 = .ok (.iconst 0, 1) := by decide +kernel
theorem dX10_meetsFetching_65 : decode cX10_meetsFetching 65 = .ok (.ireturn, 1) := by decide +kernel
def M_X10_meetsFetching : y_M := (yX10_meetsFetching, cX10_meetsFetching, 5, (Option.some Jvm.ClassFile.FieldType.int))
theorem n_X10_meetsFetching : y_N0 M_X10_meetsFetching 4 := ⟨(c_5 9 (by decide +kernel) rfl), (c_1 2 (by decide +kernel) rfl), ⟨by decide +kernel, by decide +kernel⟩, by decide +kernel⟩
theorem l_BoxYard_Yard_254 : y_lnk "BoxYard$Yard" 254 M_X7_hasColumn := Or.inl (c_5 10 (by decide +kernel) rfl)
theorem l_BoxYard_Yard_258 : y_lnk "BoxYard$Yard" 258 M_X7_topAt := Or.inl (c_5 11 (by decide +kernel) rfl)
theorem i_X7_topAt : Cond.instanceMethod (M_X7_topAt).1 ∈ y_tb := (c_5 12 (by decide +kernel) rfl)
theorem e_X7_topAt : Cond.selects (M_X7_topAt).1.cls (M_X7_topAt).1 (M_X7_topAt).1 ∈ y_tb := (c_5 13 (by decide +kernel) rfl)
set_option maxRecDepth 100000 in
def f_X10_meetsFetching (p0 : Nat) (p1 : Nat) (p2 : Nat) (p3 : Int32) (p4 : Int32) (h : y_H) : Option (Int32 × y_H) :=
  if y_K h p0 = 11 then
  y_cl (f_X10_isTooWindy p0 p1 h) (fun r1 h2 =>
  if r1 = true then
    some ((-46 : Int32), h2)
  else
    if y_K h2 p1 = 4 then
    if (y_I h2 p1 1) = 1 then
      if y_K h2 p1 = 4 then
      if y_K h2 p2 = 8 then
      if (y_I h2 p1 3) = (y_I h2 p2 11) then
        if y_K h2 p2 = 8 then
        y_cl (f_X7_hasColumn p2 p3 p4 h2) (fun r4 h5 =>
        if r4 = true then
          if y_K h5 p2 = 8 then
          y_cl (f_X7_topAt p2 p3 p4 h5) (fun r7 h8 =>
          if r7 = 0 then
            some ((-63 : Int32), h8)
          else
            some (0, h8))
          else none
        else
          some ((-62 : Int32), h5))
        else none
      else
        some ((-51 : Int32), h2)
      else none
      else none
    else
      some ((-65 : Int32), h2)
    else none)
  else none
abbrev rm_X10_meetsFetching : Room := { frames := 4, cells := 0, slots := 0, locals := 84 }
set_option maxRecDepth 100000 in
set_option maxHeartbeats 4000000 in
theorem k_X10_meetsFetching {l : Launch} {G : y_G} {p0 : Nat} {p1 : Nat} {p2 : Nat} {p3 : Int32} {p4 : Int32} {h hz : y_H} {rz : Int32} (hf : f_X10_meetsFetching p0 p1 p2 p3 p4 h = some (rz, hz)) : y_S l G M_X10_meetsFetching rm_X10_meetsFetching [y_p p0, y_p p1, y_p p2, .int p3, .int p4] h (some (.int rz)) hz := by
  refine y_start (lv := [(0, y_p p0), (1, y_p p1), (2, y_p p2), (3, .int p3), (4, .int p4)]) (by decide) (by simp [lg_sl, y_p_cat, y_ci, y_cj, M_X10_meetsFetching]) (by simp [lv_args, y_p_cat, y_ci, y_cj]) (fun z ad0 => ?_)
  unfold f_X10_meetsFetching at hf
  refine y_aload_n (x := p0) (pc2 := 1) rfl dX10_meetsFetching_0 rfl ?_
  refine y_aload_n (x := p1) (pc2 := 2) rfl dX10_meetsFetching_1 rfl ?_
  obtain ⟨g20, hf⟩ := y_g hf
  obtain ⟨r1, h2, c3, hf⟩ := y_clE hf
  refine y_callV (As := [y_p p1]) (rm := rm_X10_isTooWindy) (cells := 0) (slots := 0) (pc2 := 5) rfl dX10_meetsFetching_2 n_X10_isTooWindy l_BoxYard_Yard_165 i_X10_isTooWindy e_X10_isTooWindy (ci := 10) rfl rfl (by decide) g20 rfl rfl (by decide) (by decide) (by decide) (k_X10_isTooWindy c3) ?_
  refine y_ifz_eq (tgt := 11) (pc2 := 8) rfl dX10_meetsFetching_5 (by decide) (fun c19 => ?_) (fun c19 => ?_)
  · replace hf := y_ie c19 hf
    refine y_aload_n (x := p1) (pc2 := 12) rfl dX10_meetsFetching_11 rfl ?_
    obtain ⟨g18, hf⟩ := y_g hf
    refine y_getI (pc2 := 15) rfl dX10_meetsFetching_12 F_BoxYard_Yard_244 (by decide) rfl g18 ?_
    refine y_iconst (v := 1) (pc2 := 16) rfl dX10_meetsFetching_15 (by decide) ?_
    refine y_icmp_eq (tgt := 22) (pc2 := 19) rfl dX10_meetsFetching_16 (by decide) (fun c17 => ?_) (fun c17 => ?_)
    · replace hf := y_it c17 hf
      refine y_aload_n (x := p1) (pc2 := 23) rfl dX10_meetsFetching_22 rfl ?_
      obtain ⟨g16, hf⟩ := y_g hf
      refine y_getI (pc2 := 26) rfl dX10_meetsFetching_23 F_BoxYard_Yard_158 (by decide) rfl g16 ?_
      refine y_aload_n (x := p2) (pc2 := 27) rfl dX10_meetsFetching_26 rfl ?_
      obtain ⟨g15, hf⟩ := y_g hf
      refine y_getI (pc2 := 30) rfl dX10_meetsFetching_27 F_BoxYard_Yard_251 (by decide) rfl g15 ?_
      refine y_icmp_eq (tgt := 36) (pc2 := 33) rfl dX10_meetsFetching_30 (by decide) (fun c14 => ?_) (fun c14 => ?_)
      · replace hf := y_it c14 hf
        refine y_aload_n (x := p2) (pc2 := 37) rfl dX10_meetsFetching_36 rfl ?_
        refine y_iload_n (pc2 := 38) rfl dX10_meetsFetching_37 rfl ?_
        refine y_iload (pc2 := 40) rfl dX10_meetsFetching_38 rfl ?_
        obtain ⟨g13, hf⟩ := y_g hf
        obtain ⟨r4, h5, c6, hf⟩ := y_clE hf
        refine y_callV (As := [.int p3, .int p4]) (rm := rm_X7_hasColumn) (cells := 0) (slots := 0) (pc2 := 43) rfl dX10_meetsFetching_40 n_X7_hasColumn l_BoxYard_Yard_254 i_X7_hasColumn e_X7_hasColumn (ci := 7) rfl rfl (by decide) g13 rfl rfl (by decide) (by decide) (by decide) (k_X7_hasColumn c6) ?_
        refine y_ifz_ne (tgt := 49) (pc2 := 46) rfl dX10_meetsFetching_43 (by decide) (fun c12 => ?_) (fun c12 => ?_)
        · replace hf := y_it c12 hf
          refine y_aload_n (x := p2) (pc2 := 50) rfl dX10_meetsFetching_49 rfl ?_
          refine y_iload_n (pc2 := 51) rfl dX10_meetsFetching_50 rfl ?_
          refine y_iload (pc2 := 53) rfl dX10_meetsFetching_51 rfl ?_
          obtain ⟨g11, hf⟩ := y_g hf
          obtain ⟨r7, h8, c9, hf⟩ := y_clE hf
          refine y_callV (As := [.int p3, .int p4]) (rm := rm_X7_topAt) (cells := 0) (slots := 0) (pc2 := 56) rfl dX10_meetsFetching_53 n_X7_topAt l_BoxYard_Yard_258 i_X7_topAt e_X7_topAt (ci := 7) rfl rfl (by decide) g11 rfl rfl (by decide) (by decide) (by decide) (k_X7_topAt c9) ?_
          refine y_ifnonnull (tgt := 64) (pc2 := 59) rfl dX10_meetsFetching_56 (by decide) (fun c10 => ?_) (fun c10 => ?_)
          · replace hf := y_ie c10 hf
            refine y_iconst (v := 0) (pc2 := 65) rfl dX10_meetsFetching_64 (by decide) ?_
            exact y_iretF hf dX10_meetsFetching_65 rfl (by decide) (by decide)
          · replace hf := y_it c10 hf
            refine y_bipush (v := (-63 : Int32)) (pc2 := 61) rfl dX10_meetsFetching_59 (by decide) ?_
            refine y_goto (tgt := 65) dX10_meetsFetching_61 (by decide) ?_
            exact y_iretF hf dX10_meetsFetching_65 rfl (by decide) (by decide)
        · replace hf := y_ie c12 hf
          refine y_bipush (v := (-62 : Int32)) (pc2 := 48) rfl dX10_meetsFetching_46 (by decide) ?_
          exact y_iretF hf dX10_meetsFetching_48 rfl (by decide) (by decide)
      · replace hf := y_ie c14 hf
        refine y_bipush (v := (-51 : Int32)) (pc2 := 35) rfl dX10_meetsFetching_33 (by decide) ?_
        exact y_iretF hf dX10_meetsFetching_35 rfl (by decide) (by decide)
    · replace hf := y_ie c17 hf
      refine y_bipush (v := (-65 : Int32)) (pc2 := 21) rfl dX10_meetsFetching_19 (by decide) ?_
      exact y_iretF hf dX10_meetsFetching_21 rfl (by decide) (by decide)
  · replace hf := y_it c19 hf
    refine y_bipush (v := (-46 : Int32)) (pc2 := 10) rfl dX10_meetsFetching_8 (by decide) ?_
    exact y_iretF hf dX10_meetsFetching_10 rfl (by decide) (by decide)
theorem dX10_leave_0 : decode cX10_leave 0 = .ok (.aload_n 1, 1) := by decide +kernel
theorem dX10_leave_1 : decode cX10_leave 1 = .ok (.getfield 283, 3) := by decide +kernel
theorem dX10_leave_4 : decode cX10_leave 4 = .ok (.iconst 1, 1) := by decide +kernel
theorem dX10_leave_5 : decode cX10_leave 5 = .ok (.if_icmp .ne 31, 3) := by decide +kernel
theorem dX10_leave_8 : decode cX10_leave 8 = .ok (.aload_n 0, 1) := by decide +kernel
theorem dX10_leave_9 : decode cX10_leave 9 = .ok (.aload_n 1, 1) := by decide +kernel
theorem dX10_leave_10 : decode cX10_leave 10 = .ok (.getfield 286, 3) := by decide +kernel
theorem dX10_leave_13 : decode cX10_leave 13 = .ok (.invokevirtual 97, 3) := by decide +kernel
theorem dX10_leave_16 : decode cX10_leave 16 = .ok (.astore_n 2, 1) := by decide +kernel
theorem dX10_leave_17 : decode cX10_leave 17 = .ok (.aload_n 2, 1) := by decide +kernel
theorem dX10_leave_18 : decode cX10_leave 18 = .ok (.ifnull 15, 3) := by decide +kernel
theorem dX10_leave_21 : decode cX10_leave 21 = .ok (.aload_n 2, 1) := by decide +kernel
theorem dX10_leave_22 : decode cX10_leave 22 = .ok (.aload_n 1, 1) := by decide +kernel
theorem dX10_leave_23 : decode cX10_leave 23 = .ok (.getfield 232, 3) := by decide +kernel
theorem dX10_leave_26 : decode cX10_leave 26 = .ok (.aload_n 1, 1) := by decide +kernel
theorem dX10_leave_27 : decode cX10_leave 27 = .ok (.getfield 187, 3) := by decide +kernel
theorem dX10_leave_30 : decode cX10_leave 30 = .ok (.invokevirtual 289, 3) := by decide +kernel
theorem dX10_leave_33 : decode cX10_leave 33 = .ok (.goto 62, 3) := by decide +kernel
theorem dX10_leave_36 : decode cX10_leave 36 = .ok (.aload_n 1, 1) := by decide +kernel
theorem dX10_leave_37 : decode cX10_leave 37 = .ok (.getfield 283, 3) := by decide +kernel
theorem dX10_leave_40 : decode cX10_leave 40 = .ok (.iconst 2, 1) := by decide +kernel
theorem dX10_leave_41 : decode cX10_leave 41 = .ok (.if_icmp .ne 24, 3) := by decide +kernel
theorem dX10_leave_44 : decode cX10_leave 44 = .ok (.aload_n 0, 1) := by decide +kernel
theorem dX10_leave_45 : decode cX10_leave 45 = .ok (.aload_n 1, 1) := by decide +kernel
theorem dX10_leave_46 : decode cX10_leave 46 = .ok (.getfield 286, 3) := by decide +kernel
theorem dX10_leave_49 : decode cX10_leave 49 = .ok (.invokevirtual 151, 3) := by decide +kernel
theorem dX10_leave_52 : decode cX10_leave 52 = .ok (.astore_n 2, 1) := by decide +kernel
theorem dX10_leave_53 : decode cX10_leave 53 = .ok (.aload_n 2, 1) := by decide +kernel
theorem dX10_leave_54 : decode cX10_leave 54 = .ok (.ifnull 8, 3) := by decide +kernel
theorem dX10_leave_57 : decode cX10_leave 57 = .ok (.aload_n 2, 1) := by decide +kernel
theorem dX10_leave_58 : decode cX10_leave 58 = .ok (.aconst_null, 1) := by decide +kernel
theorem dX10_leave_59 : decode cX10_leave 59 = .ok (.putfield 292, 3) := by decide +kernel
theorem dX10_leave_62 : decode cX10_leave 62 = .ok (.goto 33, 3) := by decide +kernel
theorem dX10_leave_65 : decode cX10_leave 65 = .ok (.aload_n 1, 1) := by decide +kernel
theorem dX10_leave_66 : decode cX10_leave 66 = .ok (.getfield 283, 3) := by decide +kernel
theorem dX10_leave_69 : decode cX10_leave 69 = .ok (.iconst 3, 1) := by decide +kernel
theorem dX10_leave_70 : decode cX10_leave 70 = .ok (.if_icmp .ne 25, 3) := by decide +kernel
theorem dX10_leave_73 : decode cX10_leave 73 = .ok (.aload_n 0, 1) := by decide +kernel
theorem dX10_leave_74 : decode cX10_leave 74 = .ok (.aload_n 1, 1) := by decide +kernel
theorem dX10_leave_75 : decode cX10_leave 75 = .ok (.getfield 286, 3) := by decide +kernel
theorem dX10_leave_78 : decode cX10_leave 78 = .ok (.invokevirtual 247, 3) := by decide +kernel
theorem dX10_leave_81 : decode cX10_leave 81 = .ok (.astore_n 2, 1) := by decide +kernel
theorem dX10_leave_82 : decode cX10_leave 82 = .ok (.aload_n 2, 1) := by decide +kernel
theorem dX10_leave_83 : decode cX10_leave 83 = .ok (.ifnull 12, 3) := by decide +kernel
theorem dX10_leave_86 : decode cX10_leave 86 = .ok (.aload_n 2, 1) := by decide +kernel
theorem dX10_leave_87 : decode cX10_leave 87 = .ok (.aconst_null, 1) := by decide +kernel
theorem dX10_leave_88 : decode cX10_leave 88 = .ok (.aload_n 1, 1) := by decide +kernel
theorem dX10_leave_89 : decode cX10_leave 89 = .ok (.getfield 232, 3) := by decide +kernel
theorem dX10_leave_92 : decode cX10_leave 92 = .ok (.invokevirtual 296, 3) := by decide +kernel
theorem dX10_leave_95 : decode cX10_leave 95 = .ok (.return_, 1) := by decide +kernel
def M_X10_leave : y_M := (yX10_leave, cX10_leave, 3, (Option.none : Option Jvm.ClassFile.FieldType))
theorem n_X10_leave : y_N0 M_X10_leave 1 := ⟨(c_4 158 (by decide +kernel) rfl), (c_1 2 (by decide +kernel) rfl), ⟨by decide +kernel, by decide +kernel⟩, by decide +kernel⟩
theorem F_BoxYard_Yard_283 : y_F "BoxYard$Yard" 283 2 6 := ⟨_, _, _, rfl, by decide, Or.inr ⟨"BoxYard", (c_2 130 (by decide +kernel) rfl)⟩⟩
theorem F_BoxYard_Yard_286 : y_F "BoxYard$Yard" 286 2 7 := ⟨_, _, _, rfl, by decide, Or.inr ⟨"BoxYard", (c_2 136 (by decide +kernel) rfl)⟩⟩
theorem l_BoxYard_Yard_296 : y_lnk "BoxYard$Yard" 296 M_X7_putIn := Or.inl (c_4 164 (by decide +kernel) rfl)
theorem i_X7_putIn : Cond.instanceMethod (M_X7_putIn).1 ∈ y_tb := (c_4 165 (by decide +kernel) rfl)
theorem e_X7_putIn : Cond.selects (M_X7_putIn).1.cls (M_X7_putIn).1 (M_X7_putIn).1 ∈ y_tb := (c_4 166 (by decide +kernel) rfl)
theorem Fp_BoxYard_Yard_292 {nm : String} : y_Fp "BoxYard$Yard" nm 292 3 4 := ⟨_, _, _, rfl, by decide, Or.inl ⟨rfl, Or.inr ⟨"BoxYard", (c_3 200 (by decide +kernel) rfl)⟩⟩⟩
theorem l_BoxYard_Yard_289 : y_lnk "BoxYard$Yard" 289 M_X1_takeOut := Or.inl (c_4 159 (by decide +kernel) rfl)
theorem i_X1_takeOut : Cond.instanceMethod (M_X1_takeOut).1 ∈ y_tb := (c_4 160 (by decide +kernel) rfl)
theorem e_X1_takeOut : Cond.selects (M_X1_takeOut).1.cls (M_X1_takeOut).1 (M_X1_takeOut).1 ∈ y_tb := (c_4 161 (by decide +kernel) rfl)
set_option maxRecDepth 100000 in
def f_X10_leave (p0 : Nat) (p1 : Nat) (h : y_H) : Option (Unit × y_H) :=
  if y_K h p1 = 3 then
  y_jn (fun (h1 : y_H) => (
      some ((), h1) : Option (Unit × y_H))) (fun j95 =>
  if (y_I h p1 6) = 1 then
    if y_K h p1 = 3 then
    if y_K h p0 = 11 then
    y_cl (f_X10_bayAt p0 (y_I h p1 7) h) (fun r26 h27 =>
    y_jn (fun (h29 : y_H) => (
        j95 h29 : Option (Unit × y_H))) (fun j33 =>
    if r26 = 0 then
      j33 h27
    else
      if y_K h27 p1 = 3 then
      if y_K h27 p1 = 3 then
      if y_K h27 r26 = 2 then
      y_cl (f_X1_takeOut r26 (y_I h27 p1 8) (y_I h27 p1 9) h27) (fun _ h30 =>
      j33 h30)
      else none
      else none
      else none))
    else none
    else none
  else
    if y_K h p1 = 3 then
    if (y_I h p1 6) = 2 then
      if y_K h p1 = 3 then
      if y_K h p0 = 11 then
      y_cl (f_X10_craneAt p0 (y_I h p1 7) h) (fun r14 h15 =>
      y_jn (fun (h17 : y_H) => (
          j95 h17 : Option (Unit × y_H))) (fun j62 =>
      if r14 = 0 then
        j62 h15
      else
        if y_K h15 r14 = 4 then
        y_bd (s_P h15 r14 4 0) (fun h18 =>
        j62 h18)
        else none))
      else none
      else none
    else
      if y_K h p1 = 3 then
      if (y_I h p1 6) = 3 then
        if y_K h p1 = 3 then
        if y_K h p0 = 11 then
        y_cl (f_X10_shipAt p0 (y_I h p1 7) h) (fun r2 h3 =>
        if r2 = 0 then
          j95 h3
        else
          if y_K h3 p1 = 3 then
          if y_K h3 r2 = 8 then
          y_cl (f_X7_putIn r2 0 (y_I h3 p1 8) h3) (fun _ h5 =>
          j95 h5)
          else none
          else none)
        else none
        else none
      else
        j95 h
      else none
    else none)
  else none
abbrev rm_X10_leave : Room := { frames := 2, cells := 0, slots := 0, locals := 44 }
set_option maxRecDepth 100000 in
set_option maxHeartbeats 4000000 in
theorem k_X10_leave {l : Launch} {G : y_G} {p0 : Nat} {p1 : Nat} {h hz : y_H} {rz : Unit} (hf : f_X10_leave p0 p1 h = some (rz, hz)) : y_S l G M_X10_leave rm_X10_leave [y_p p0, y_p p1] h none hz := by
  refine y_start (lv := [(0, y_p p0), (1, y_p p1)]) (by decide) (by simp [lg_sl, y_p_cat, y_ci, y_cj, M_X10_leave]) (by simp [lv_args, y_p_cat, y_ci, y_cj]) (fun z ad0 => ?_)
  unfold f_X10_leave at hf
  refine y_aload_n (x := p1) (pc2 := 1) rfl dX10_leave_0 rfl ?_
  obtain ⟨g39, hf⟩ := y_g hf
  refine y_getI (pc2 := 4) rfl dX10_leave_1 F_BoxYard_Yard_283 (by decide) rfl g39 ?_
  refine y_iconst (v := 1) (pc2 := 5) rfl dX10_leave_4 (by decide) ?_
  refine y_jnE hf (fun j => ∀ (h1 : y_H), j h1 = some (rz, hz) → y_V l G z rm_X10_leave M_X10_leave ad0 h none hz 95 [] [] h1 0 0) (fun h1 hf => ?_) (fun j95 hj95 hf => ?_)
  · exact y_vretF hf dX10_leave_95 rfl (by decide) (by decide)
  · refine y_icmp_ne (tgt := 36) (pc2 := 8) rfl dX10_leave_5 (by decide) (fun c38 => ?_) (fun c38 => ?_)
    · replace hf := y_ie c38 hf
      refine y_aload_n (x := p1) (pc2 := 37) rfl dX10_leave_36 rfl ?_
      obtain ⟨g25, hf⟩ := y_g hf
      refine y_getI (pc2 := 40) rfl dX10_leave_37 F_BoxYard_Yard_283 (by decide) rfl g25 ?_
      refine y_iconst (v := 2) (pc2 := 41) rfl dX10_leave_40 (by decide) ?_
      refine y_icmp_ne (tgt := 65) (pc2 := 44) rfl dX10_leave_41 (by decide) (fun c24 => ?_) (fun c24 => ?_)
      · replace hf := y_ie c24 hf
        refine y_aload_n (x := p1) (pc2 := 66) rfl dX10_leave_65 rfl ?_
        obtain ⟨g13, hf⟩ := y_g hf
        refine y_getI (pc2 := 69) rfl dX10_leave_66 F_BoxYard_Yard_283 (by decide) rfl g13 ?_
        refine y_iconst (v := 3) (pc2 := 70) rfl dX10_leave_69 (by decide) ?_
        refine y_icmp_ne (tgt := 95) (pc2 := 73) rfl dX10_leave_70 (by decide) (fun c12 => ?_) (fun c12 => ?_)
        · replace hf := y_ie c12 hf
          exact y_pk [] rfl (hj95 _ hf)
        · replace hf := y_it c12 hf
          refine y_aload_n (x := p0) (pc2 := 74) rfl dX10_leave_73 rfl ?_
          refine y_aload_n (x := p1) (pc2 := 75) rfl dX10_leave_74 rfl ?_
          obtain ⟨g11, hf⟩ := y_g hf
          refine y_getI (pc2 := 78) rfl dX10_leave_75 F_BoxYard_Yard_286 (by decide) rfl g11 ?_
          obtain ⟨g10, hf⟩ := y_g hf
          obtain ⟨r2, h3, c4, hf⟩ := y_clE hf
          refine y_callV (As := [.int (y_I h p1 7)]) (rm := rm_X10_shipAt) (cells := 0) (slots := 0) (pc2 := 81) rfl dX10_leave_78 n_X10_shipAt l_BoxYard_Yard_247 i_X10_shipAt e_X10_shipAt (ci := 10) rfl rfl (by decide) g10 rfl rfl (by decide) (by decide) (by decide) (k_X10_shipAt c4) ?_
          refine y_astore_n (lv' := [(2, y_p r2), (0, y_p p0), (1, y_p p1)]) (pc2 := 82) rfl dX10_leave_81 (by decide) (by show y_st1 _ 2 _ = _; simp [y_st1, y_p_cat, y_ci, y_cj]) ?_
          refine y_aload_n (x := r2) (pc2 := 83) rfl dX10_leave_82 rfl ?_
          refine y_ifnull (tgt := 95) (pc2 := 86) rfl dX10_leave_83 (by decide) (fun c9 => ?_) (fun c9 => ?_)
          · replace hf := y_it c9 hf
            exact y_pk [] rfl (hj95 _ hf)
          · replace hf := y_ie c9 hf
            refine y_aload_n (x := r2) (pc2 := 87) rfl dX10_leave_86 rfl ?_
            refine y_null (pc2 := 88) rfl dX10_leave_87 ?_
            refine y_aload_n (x := p1) (pc2 := 89) rfl dX10_leave_88 rfl ?_
            obtain ⟨g8, hf⟩ := y_g hf
            refine y_getI (pc2 := 92) rfl dX10_leave_89 F_BoxYard_Yard_232 (by decide) rfl g8 ?_
            obtain ⟨g7, hf⟩ := y_g hf
            obtain ⟨r_, h5, c6, hf⟩ := y_clE hf
            refine y_callV (As := [y_p 0, .int (y_I h3 p1 8)]) (rm := rm_X7_putIn) (cells := 0) (slots := 0) (pc2 := 95) rfl dX10_leave_92 n_X7_putIn l_BoxYard_Yard_296 i_X7_putIn e_X7_putIn (ci := 7) rfl rfl (by decide) g7 rfl rfl (by decide) (by decide) (by decide) (k_X7_putIn c6) ?_
            exact y_pk [] rfl (hj95 _ hf)
      · replace hf := y_it c24 hf
        refine y_aload_n (x := p0) (pc2 := 45) rfl dX10_leave_44 rfl ?_
        refine y_aload_n (x := p1) (pc2 := 46) rfl dX10_leave_45 rfl ?_
        obtain ⟨g23, hf⟩ := y_g hf
        refine y_getI (pc2 := 49) rfl dX10_leave_46 F_BoxYard_Yard_286 (by decide) rfl g23 ?_
        obtain ⟨g22, hf⟩ := y_g hf
        obtain ⟨r14, h15, c16, hf⟩ := y_clE hf
        refine y_callV (As := [.int (y_I h p1 7)]) (rm := rm_X10_craneAt) (cells := 0) (slots := 0) (pc2 := 52) rfl dX10_leave_49 n_X10_craneAt l_BoxYard_Yard_151 i_X10_craneAt e_X10_craneAt (ci := 10) rfl rfl (by decide) g22 rfl rfl (by decide) (by decide) (by decide) (k_X10_craneAt c16) ?_
        refine y_astore_n (lv' := [(2, y_p r14), (0, y_p p0), (1, y_p p1)]) (pc2 := 53) rfl dX10_leave_52 (by decide) (by show y_st1 _ 2 _ = _; simp [y_st1, y_p_cat, y_ci, y_cj]) ?_
        refine y_aload_n (x := r14) (pc2 := 54) rfl dX10_leave_53 rfl ?_
        refine y_jnE hf (fun j => ∀ (h17 : y_H), j h17 = some (rz, hz) → y_V l G z rm_X10_leave M_X10_leave ad0 h none hz 62 [] [] h17 0 0) (fun h17 hf => ?_) (fun j62 hj62 hf => ?_)
        · refine y_goto (tgt := 95) dX10_leave_62 (by decide) ?_
          exact y_pk [] rfl (hj95 _ hf)
        · refine y_ifnull (tgt := 62) (pc2 := 57) rfl dX10_leave_54 (by decide) (fun c21 => ?_) (fun c21 => ?_)
          · replace hf := y_it c21 hf
            exact y_pk [] rfl (hj62 _ hf)
          · replace hf := y_ie c21 hf
            refine y_aload_n (x := r14) (pc2 := 58) rfl dX10_leave_57 rfl ?_
            refine y_null (pc2 := 59) rfl dX10_leave_58 ?_
            obtain ⟨g20, hf⟩ := y_g hf
            obtain ⟨h18, e19, hf⟩ := y_bdE hf
            refine y_putP (x := 0) (pc2 := 62) rfl dX10_leave_59 Fp_BoxYard_Yard_292 (by decide) rfl g20 e19 ?_
            exact y_pk [] rfl (hj62 _ hf)
    · replace hf := y_it c38 hf
      refine y_aload_n (x := p0) (pc2 := 9) rfl dX10_leave_8 rfl ?_
      refine y_aload_n (x := p1) (pc2 := 10) rfl dX10_leave_9 rfl ?_
      obtain ⟨g37, hf⟩ := y_g hf
      refine y_getI (pc2 := 13) rfl dX10_leave_10 F_BoxYard_Yard_286 (by decide) rfl g37 ?_
      obtain ⟨g36, hf⟩ := y_g hf
      obtain ⟨r26, h27, c28, hf⟩ := y_clE hf
      refine y_callV (As := [.int (y_I h p1 7)]) (rm := rm_X10_bayAt) (cells := 0) (slots := 0) (pc2 := 16) rfl dX10_leave_13 n_X10_bayAt l_BoxYard_Yard_97 i_X10_bayAt e_X10_bayAt (ci := 10) rfl rfl (by decide) g36 rfl rfl (by decide) (by decide) (by decide) (k_X10_bayAt c28) ?_
      refine y_astore_n (lv' := [(2, y_p r26), (0, y_p p0), (1, y_p p1)]) (pc2 := 17) rfl dX10_leave_16 (by decide) (by show y_st1 _ 2 _ = _; simp [y_st1, y_p_cat, y_ci, y_cj]) ?_
      refine y_aload_n (x := r26) (pc2 := 18) rfl dX10_leave_17 rfl ?_
      refine y_jnE hf (fun j => ∀ (h29 : y_H), j h29 = some (rz, hz) → y_V l G z rm_X10_leave M_X10_leave ad0 h none hz 33 [] [] h29 0 0) (fun h29 hf => ?_) (fun j33 hj33 hf => ?_)
      · refine y_goto (tgt := 95) dX10_leave_33 (by decide) ?_
        exact y_pk [] rfl (hj95 _ hf)
      · refine y_ifnull (tgt := 33) (pc2 := 21) rfl dX10_leave_18 (by decide) (fun c35 => ?_) (fun c35 => ?_)
        · replace hf := y_it c35 hf
          exact y_pk [] rfl (hj33 _ hf)
        · replace hf := y_ie c35 hf
          refine y_aload_n (x := r26) (pc2 := 22) rfl dX10_leave_21 rfl ?_
          refine y_aload_n (x := p1) (pc2 := 23) rfl dX10_leave_22 rfl ?_
          obtain ⟨g34, hf⟩ := y_g hf
          refine y_getI (pc2 := 26) rfl dX10_leave_23 F_BoxYard_Yard_232 (by decide) rfl g34 ?_
          refine y_aload_n (x := p1) (pc2 := 27) rfl dX10_leave_26 rfl ?_
          obtain ⟨g33, hf⟩ := y_g hf
          refine y_getI (pc2 := 30) rfl dX10_leave_27 F_BoxYard_Yard_187 (by decide) rfl g33 ?_
          obtain ⟨g32, hf⟩ := y_g hf
          obtain ⟨r_, h30, c31, hf⟩ := y_clE hf
          refine y_callV (As := [.int (y_I h27 p1 8), .int (y_I h27 p1 9)]) (rm := rm_X1_takeOut) (cells := 0) (slots := 0) (pc2 := 33) rfl dX10_leave_30 n_X1_takeOut l_BoxYard_Yard_289 i_X1_takeOut e_X1_takeOut (ci := 1) rfl rfl (by decide) g32 rfl rfl (by decide) (by decide) (by decide) (k_X1_takeOut c31) ?_
          exact y_pk [] rfl (hj33 _ hf)
theorem dX10_arrive_0 : decode cX10_arrive 0 = .ok (.aload_n 1, 1) := by decide +kernel
theorem dX10_arrive_1 : decode cX10_arrive 1 = .ok (.getfield 283, 3) := by decide +kernel
theorem dX10_arrive_4 : decode cX10_arrive 4 = .ok (.iconst 1, 1) := by decide +kernel
theorem dX10_arrive_5 : decode cX10_arrive 5 = .ok (.if_icmp .ne 32, 3) := by decide +kernel
theorem dX10_arrive_8 : decode cX10_arrive 8 = .ok (.aload_n 0, 1) := by decide +kernel
theorem dX10_arrive_9 : decode cX10_arrive 9 = .ok (.aload_n 1, 1) := by decide +kernel
theorem dX10_arrive_10 : decode cX10_arrive 10 = .ok (.getfield 286, 3) := by decide +kernel
theorem dX10_arrive_13 : decode cX10_arrive 13 = .ok (.invokevirtual 97, 3) := by decide +kernel
theorem dX10_arrive_16 : decode cX10_arrive 16 = .ok (.astore_n 2, 1) := by decide +kernel
theorem dX10_arrive_17 : decode cX10_arrive 17 = .ok (.aload_n 2, 1) := by decide +kernel
theorem dX10_arrive_18 : decode cX10_arrive 18 = .ok (.ifnull 16, 3) := by decide +kernel
theorem dX10_arrive_21 : decode cX10_arrive 21 = .ok (.aload_n 2, 1) := by decide +kernel
theorem dX10_arrive_22 : decode cX10_arrive 22 = .ok (.aload_n 1, 1) := by decide +kernel
theorem dX10_arrive_23 : decode cX10_arrive 23 = .ok (.aload_n 1, 1) := by decide +kernel
theorem dX10_arrive_24 : decode cX10_arrive 24 = .ok (.getfield 232, 3) := by decide +kernel
theorem dX10_arrive_27 : decode cX10_arrive 27 = .ok (.aload_n 1, 1) := by decide +kernel
theorem dX10_arrive_28 : decode cX10_arrive 28 = .ok (.getfield 187, 3) := by decide +kernel
theorem dX10_arrive_31 : decode cX10_arrive 31 = .ok (.invokevirtual 300, 3) := by decide +kernel
theorem dX10_arrive_34 : decode cX10_arrive 34 = .ok (.goto 62, 3) := by decide +kernel
theorem dX10_arrive_37 : decode cX10_arrive 37 = .ok (.aload_n 1, 1) := by decide +kernel
theorem dX10_arrive_38 : decode cX10_arrive 38 = .ok (.getfield 283, 3) := by decide +kernel
theorem dX10_arrive_41 : decode cX10_arrive 41 = .ok (.iconst 2, 1) := by decide +kernel
theorem dX10_arrive_42 : decode cX10_arrive 42 = .ok (.if_icmp .ne 24, 3) := by decide +kernel
theorem dX10_arrive_45 : decode cX10_arrive 45 = .ok (.aload_n 0, 1) := by decide +kernel
theorem dX10_arrive_46 : decode cX10_arrive 46 = .ok (.aload_n 1, 1) := by decide +kernel
theorem dX10_arrive_47 : decode cX10_arrive 47 = .ok (.getfield 286, 3) := by decide +kernel
theorem dX10_arrive_50 : decode cX10_arrive 50 = .ok (.invokevirtual 151, 3) := by decide +kernel
theorem dX10_arrive_53 : decode cX10_arrive 53 = .ok (.astore_n 2, 1) := by decide +kernel
theorem dX10_arrive_54 : decode cX10_arrive 54 = .ok (.aload_n 2, 1) := by decide +kernel
theorem dX10_arrive_55 : decode cX10_arrive 55 = .ok (.ifnull 8, 3) := by decide +kernel
theorem dX10_arrive_58 : decode cX10_arrive 58 = .ok (.aload_n 2, 1) := by decide +kernel
theorem dX10_arrive_59 : decode cX10_arrive 59 = .ok (.aload_n 1, 1) := by decide +kernel
theorem dX10_arrive_60 : decode cX10_arrive 60 = .ok (.putfield 292, 3) := by decide +kernel
theorem dX10_arrive_63 : decode cX10_arrive 63 = .ok (.goto 33, 3) := by decide +kernel
theorem dX10_arrive_66 : decode cX10_arrive 66 = .ok (.aload_n 1, 1) := by decide +kernel
theorem dX10_arrive_67 : decode cX10_arrive 67 = .ok (.getfield 283, 3) := by decide +kernel
theorem dX10_arrive_70 : decode cX10_arrive 70 = .ok (.iconst 3, 1) := by decide +kernel
theorem dX10_arrive_71 : decode cX10_arrive 71 = .ok (.if_icmp .ne 25, 3) := by decide +kernel
theorem dX10_arrive_74 : decode cX10_arrive 74 = .ok (.aload_n 0, 1) := by decide +kernel
theorem dX10_arrive_75 : decode cX10_arrive 75 = .ok (.aload_n 1, 1) := by decide +kernel
theorem dX10_arrive_76 : decode cX10_arrive 76 = .ok (.getfield 286, 3) := by decide +kernel
theorem dX10_arrive_79 : decode cX10_arrive 79 = .ok (.invokevirtual 247, 3) := by decide +kernel
theorem dX10_arrive_82 : decode cX10_arrive 82 = .ok (.astore_n 2, 1) := by decide +kernel
theorem dX10_arrive_83 : decode cX10_arrive 83 = .ok (.aload_n 2, 1) := by decide +kernel
theorem dX10_arrive_84 : decode cX10_arrive 84 = .ok (.ifnull 12, 3) := by decide +kernel
theorem dX10_arrive_87 : decode cX10_arrive 87 = .ok (.aload_n 2, 1) := by decide +kernel
theorem dX10_arrive_88 : decode cX10_arrive 88 = .ok (.aload_n 1, 1) := by decide +kernel
theorem dX10_arrive_89 : decode cX10_arrive 89 = .ok (.aload_n 1, 1) := by decide +kernel
theorem dX10_arrive_90 : decode cX10_arrive 90 = .ok (.getfield 232, 3) := by decide +kernel
theorem dX10_arrive_93 : decode cX10_arrive 93 = .ok (.invokevirtual 296, 3) := by decide +kernel
theorem dX10_arrive_96 : decode cX10_arrive 96 = .ok (.return_, 1) := by decide +kernel
def M_X10_arrive : y_M := (yX10_arrive, cX10_arrive, 3, (Option.none : Option Jvm.ClassFile.FieldType))
theorem n_X10_arrive : y_N0 M_X10_arrive 1 := ⟨(c_4 173 (by decide +kernel) rfl), (c_1 2 (by decide +kernel) rfl), ⟨by decide +kernel, by decide +kernel⟩, by decide +kernel⟩
theorem l_BoxYard_Yard_300 : y_lnk "BoxYard$Yard" 300 M_X1_putIn := Or.inl (c_4 174 (by decide +kernel) rfl)
theorem i_X1_putIn : Cond.instanceMethod (M_X1_putIn).1 ∈ y_tb := (c_4 175 (by decide +kernel) rfl)
theorem e_X1_putIn : Cond.selects (M_X1_putIn).1.cls (M_X1_putIn).1 (M_X1_putIn).1 ∈ y_tb := (c_4 176 (by decide +kernel) rfl)
set_option maxRecDepth 100000 in
def f_X10_arrive (p0 : Nat) (p1 : Nat) (h : y_H) : Option (Unit × y_H) :=
  if y_K h p1 = 3 then
  y_jn (fun (h1 : y_H) => (
      some ((), h1) : Option (Unit × y_H))) (fun j96 =>
  if (y_I h p1 6) = 1 then
    if y_K h p1 = 3 then
    if y_K h p0 = 11 then
    y_cl (f_X10_bayAt p0 (y_I h p1 7) h) (fun r26 h27 =>
    y_jn (fun (h29 : y_H) => (
        j96 h29 : Option (Unit × y_H))) (fun j34 =>
    if r26 = 0 then
      j34 h27
    else
      if y_K h27 p1 = 3 then
      if y_K h27 p1 = 3 then
      if y_K h27 r26 = 2 then
      y_cl (f_X1_putIn r26 p1 (y_I h27 p1 8) (y_I h27 p1 9) h27) (fun _ h30 =>
      j34 h30)
      else none
      else none
      else none))
    else none
    else none
  else
    if y_K h p1 = 3 then
    if (y_I h p1 6) = 2 then
      if y_K h p1 = 3 then
      if y_K h p0 = 11 then
      y_cl (f_X10_craneAt p0 (y_I h p1 7) h) (fun r14 h15 =>
      y_jn (fun (h17 : y_H) => (
          j96 h17 : Option (Unit × y_H))) (fun j63 =>
      if r14 = 0 then
        j63 h15
      else
        if y_K h15 r14 = 4 then
        y_bd (s_P h15 r14 4 p1) (fun h18 =>
        j63 h18)
        else none))
      else none
      else none
    else
      if y_K h p1 = 3 then
      if (y_I h p1 6) = 3 then
        if y_K h p1 = 3 then
        if y_K h p0 = 11 then
        y_cl (f_X10_shipAt p0 (y_I h p1 7) h) (fun r2 h3 =>
        if r2 = 0 then
          j96 h3
        else
          if y_K h3 p1 = 3 then
          if y_K h3 r2 = 8 then
          y_cl (f_X7_putIn r2 p1 (y_I h3 p1 8) h3) (fun _ h5 =>
          j96 h5)
          else none
          else none)
        else none
        else none
      else
        j96 h
      else none
    else none)
  else none
abbrev rm_X10_arrive : Room := { frames := 2, cells := 0, slots := 0, locals := 45 }
set_option maxRecDepth 100000 in
set_option maxHeartbeats 4000000 in
theorem k_X10_arrive {l : Launch} {G : y_G} {p0 : Nat} {p1 : Nat} {h hz : y_H} {rz : Unit} (hf : f_X10_arrive p0 p1 h = some (rz, hz)) : y_S l G M_X10_arrive rm_X10_arrive [y_p p0, y_p p1] h none hz := by
  refine y_start (lv := [(0, y_p p0), (1, y_p p1)]) (by decide) (by simp [lg_sl, y_p_cat, y_ci, y_cj, M_X10_arrive]) (by simp [lv_args, y_p_cat, y_ci, y_cj]) (fun z ad0 => ?_)
  unfold f_X10_arrive at hf
  refine y_aload_n (x := p1) (pc2 := 1) rfl dX10_arrive_0 rfl ?_
  obtain ⟨g39, hf⟩ := y_g hf
  refine y_getI (pc2 := 4) rfl dX10_arrive_1 F_BoxYard_Yard_283 (by decide) rfl g39 ?_
  refine y_iconst (v := 1) (pc2 := 5) rfl dX10_arrive_4 (by decide) ?_
  refine y_jnE hf (fun j => ∀ (h1 : y_H), j h1 = some (rz, hz) → y_V l G z rm_X10_arrive M_X10_arrive ad0 h none hz 96 [] [] h1 0 0) (fun h1 hf => ?_) (fun j96 hj96 hf => ?_)
  · exact y_vretF hf dX10_arrive_96 rfl (by decide) (by decide)
  · refine y_icmp_ne (tgt := 37) (pc2 := 8) rfl dX10_arrive_5 (by decide) (fun c38 => ?_) (fun c38 => ?_)
    · replace hf := y_ie c38 hf
      refine y_aload_n (x := p1) (pc2 := 38) rfl dX10_arrive_37 rfl ?_
      obtain ⟨g25, hf⟩ := y_g hf
      refine y_getI (pc2 := 41) rfl dX10_arrive_38 F_BoxYard_Yard_283 (by decide) rfl g25 ?_
      refine y_iconst (v := 2) (pc2 := 42) rfl dX10_arrive_41 (by decide) ?_
      refine y_icmp_ne (tgt := 66) (pc2 := 45) rfl dX10_arrive_42 (by decide) (fun c24 => ?_) (fun c24 => ?_)
      · replace hf := y_ie c24 hf
        refine y_aload_n (x := p1) (pc2 := 67) rfl dX10_arrive_66 rfl ?_
        obtain ⟨g13, hf⟩ := y_g hf
        refine y_getI (pc2 := 70) rfl dX10_arrive_67 F_BoxYard_Yard_283 (by decide) rfl g13 ?_
        refine y_iconst (v := 3) (pc2 := 71) rfl dX10_arrive_70 (by decide) ?_
        refine y_icmp_ne (tgt := 96) (pc2 := 74) rfl dX10_arrive_71 (by decide) (fun c12 => ?_) (fun c12 => ?_)
        · replace hf := y_ie c12 hf
          exact y_pk [] rfl (hj96 _ hf)
        · replace hf := y_it c12 hf
          refine y_aload_n (x := p0) (pc2 := 75) rfl dX10_arrive_74 rfl ?_
          refine y_aload_n (x := p1) (pc2 := 76) rfl dX10_arrive_75 rfl ?_
          obtain ⟨g11, hf⟩ := y_g hf
          refine y_getI (pc2 := 79) rfl dX10_arrive_76 F_BoxYard_Yard_286 (by decide) rfl g11 ?_
          obtain ⟨g10, hf⟩ := y_g hf
          obtain ⟨r2, h3, c4, hf⟩ := y_clE hf
          refine y_callV (As := [.int (y_I h p1 7)]) (rm := rm_X10_shipAt) (cells := 0) (slots := 0) (pc2 := 82) rfl dX10_arrive_79 n_X10_shipAt l_BoxYard_Yard_247 i_X10_shipAt e_X10_shipAt (ci := 10) rfl rfl (by decide) g10 rfl rfl (by decide) (by decide) (by decide) (k_X10_shipAt c4) ?_
          refine y_astore_n (lv' := [(2, y_p r2), (0, y_p p0), (1, y_p p1)]) (pc2 := 83) rfl dX10_arrive_82 (by decide) (by show y_st1 _ 2 _ = _; simp [y_st1, y_p_cat, y_ci, y_cj]) ?_
          refine y_aload_n (x := r2) (pc2 := 84) rfl dX10_arrive_83 rfl ?_
          refine y_ifnull (tgt := 96) (pc2 := 87) rfl dX10_arrive_84 (by decide) (fun c9 => ?_) (fun c9 => ?_)
          · replace hf := y_it c9 hf
            exact y_pk [] rfl (hj96 _ hf)
          · replace hf := y_ie c9 hf
            refine y_aload_n (x := r2) (pc2 := 88) rfl dX10_arrive_87 rfl ?_
            refine y_aload_n (x := p1) (pc2 := 89) rfl dX10_arrive_88 rfl ?_
            refine y_aload_n (x := p1) (pc2 := 90) rfl dX10_arrive_89 rfl ?_
            obtain ⟨g8, hf⟩ := y_g hf
            refine y_getI (pc2 := 93) rfl dX10_arrive_90 F_BoxYard_Yard_232 (by decide) rfl g8 ?_
            obtain ⟨g7, hf⟩ := y_g hf
            obtain ⟨r_, h5, c6, hf⟩ := y_clE hf
            refine y_callV (As := [y_p p1, .int (y_I h3 p1 8)]) (rm := rm_X7_putIn) (cells := 0) (slots := 0) (pc2 := 96) rfl dX10_arrive_93 n_X7_putIn l_BoxYard_Yard_296 i_X7_putIn e_X7_putIn (ci := 7) rfl rfl (by decide) g7 rfl rfl (by decide) (by decide) (by decide) (k_X7_putIn c6) ?_
            exact y_pk [] rfl (hj96 _ hf)
      · replace hf := y_it c24 hf
        refine y_aload_n (x := p0) (pc2 := 46) rfl dX10_arrive_45 rfl ?_
        refine y_aload_n (x := p1) (pc2 := 47) rfl dX10_arrive_46 rfl ?_
        obtain ⟨g23, hf⟩ := y_g hf
        refine y_getI (pc2 := 50) rfl dX10_arrive_47 F_BoxYard_Yard_286 (by decide) rfl g23 ?_
        obtain ⟨g22, hf⟩ := y_g hf
        obtain ⟨r14, h15, c16, hf⟩ := y_clE hf
        refine y_callV (As := [.int (y_I h p1 7)]) (rm := rm_X10_craneAt) (cells := 0) (slots := 0) (pc2 := 53) rfl dX10_arrive_50 n_X10_craneAt l_BoxYard_Yard_151 i_X10_craneAt e_X10_craneAt (ci := 10) rfl rfl (by decide) g22 rfl rfl (by decide) (by decide) (by decide) (k_X10_craneAt c16) ?_
        refine y_astore_n (lv' := [(2, y_p r14), (0, y_p p0), (1, y_p p1)]) (pc2 := 54) rfl dX10_arrive_53 (by decide) (by show y_st1 _ 2 _ = _; simp [y_st1, y_p_cat, y_ci, y_cj]) ?_
        refine y_aload_n (x := r14) (pc2 := 55) rfl dX10_arrive_54 rfl ?_
        refine y_jnE hf (fun j => ∀ (h17 : y_H), j h17 = some (rz, hz) → y_V l G z rm_X10_arrive M_X10_arrive ad0 h none hz 63 [] [] h17 0 0) (fun h17 hf => ?_) (fun j63 hj63 hf => ?_)
        · refine y_goto (tgt := 96) dX10_arrive_63 (by decide) ?_
          exact y_pk [] rfl (hj96 _ hf)
        · refine y_ifnull (tgt := 63) (pc2 := 58) rfl dX10_arrive_55 (by decide) (fun c21 => ?_) (fun c21 => ?_)
          · replace hf := y_it c21 hf
            exact y_pk [] rfl (hj63 _ hf)
          · replace hf := y_ie c21 hf
            refine y_aload_n (x := r14) (pc2 := 59) rfl dX10_arrive_58 rfl ?_
            refine y_aload_n (x := p1) (pc2 := 60) rfl dX10_arrive_59 rfl ?_
            obtain ⟨g20, hf⟩ := y_g hf
            obtain ⟨h18, e19, hf⟩ := y_bdE hf
            refine y_putP (x := p1) (pc2 := 63) rfl dX10_arrive_60 Fp_BoxYard_Yard_292 (by decide) rfl g20 e19 ?_
            exact y_pk [] rfl (hj63 _ hf)
    · replace hf := y_it c38 hf
      refine y_aload_n (x := p0) (pc2 := 9) rfl dX10_arrive_8 rfl ?_
      refine y_aload_n (x := p1) (pc2 := 10) rfl dX10_arrive_9 rfl ?_
      obtain ⟨g37, hf⟩ := y_g hf
      refine y_getI (pc2 := 13) rfl dX10_arrive_10 F_BoxYard_Yard_286 (by decide) rfl g37 ?_
      obtain ⟨g36, hf⟩ := y_g hf
      obtain ⟨r26, h27, c28, hf⟩ := y_clE hf
      refine y_callV (As := [.int (y_I h p1 7)]) (rm := rm_X10_bayAt) (cells := 0) (slots := 0) (pc2 := 16) rfl dX10_arrive_13 n_X10_bayAt l_BoxYard_Yard_97 i_X10_bayAt e_X10_bayAt (ci := 10) rfl rfl (by decide) g36 rfl rfl (by decide) (by decide) (by decide) (k_X10_bayAt c28) ?_
      refine y_astore_n (lv' := [(2, y_p r26), (0, y_p p0), (1, y_p p1)]) (pc2 := 17) rfl dX10_arrive_16 (by decide) (by show y_st1 _ 2 _ = _; simp [y_st1, y_p_cat, y_ci, y_cj]) ?_
      refine y_aload_n (x := r26) (pc2 := 18) rfl dX10_arrive_17 rfl ?_
      refine y_jnE hf (fun j => ∀ (h29 : y_H), j h29 = some (rz, hz) → y_V l G z rm_X10_arrive M_X10_arrive ad0 h none hz 34 [] [] h29 0 0) (fun h29 hf => ?_) (fun j34 hj34 hf => ?_)
      · refine y_goto (tgt := 96) dX10_arrive_34 (by decide) ?_
        exact y_pk [] rfl (hj96 _ hf)
      · refine y_ifnull (tgt := 34) (pc2 := 21) rfl dX10_arrive_18 (by decide) (fun c35 => ?_) (fun c35 => ?_)
        · replace hf := y_it c35 hf
          exact y_pk [] rfl (hj34 _ hf)
        · replace hf := y_ie c35 hf
          refine y_aload_n (x := r26) (pc2 := 22) rfl dX10_arrive_21 rfl ?_
          refine y_aload_n (x := p1) (pc2 := 23) rfl dX10_arrive_22 rfl ?_
          refine y_aload_n (x := p1) (pc2 := 24) rfl dX10_arrive_23 rfl ?_
          obtain ⟨g34, hf⟩ := y_g hf
          refine y_getI (pc2 := 27) rfl dX10_arrive_24 F_BoxYard_Yard_232 (by decide) rfl g34 ?_
          refine y_aload_n (x := p1) (pc2 := 28) rfl dX10_arrive_27 rfl ?_
          obtain ⟨g33, hf⟩ := y_g hf
          refine y_getI (pc2 := 31) rfl dX10_arrive_28 F_BoxYard_Yard_187 (by decide) rfl g33 ?_
          obtain ⟨g32, hf⟩ := y_g hf
          obtain ⟨r_, h30, c31, hf⟩ := y_clE hf
          refine y_callV (As := [y_p p1, .int (y_I h27 p1 8), .int (y_I h27 p1 9)]) (rm := rm_X1_putIn) (cells := 0) (slots := 0) (pc2 := 34) rfl dX10_arrive_31 n_X1_putIn l_BoxYard_Yard_300 i_X1_putIn e_X1_putIn (ci := 1) rfl rfl (by decide) g32 rfl rfl (by decide) (by decide) (by decide) (k_X1_putIn c31) ?_
          exact y_pk [] rfl (hj34 _ hf)
theorem dX10_bring_0 : decode cX10_bring 0 = .ok (.aload_n 0, 1) := by decide +kernel
theorem dX10_bring_1 : decode cX10_bring 1 = .ok (.aload_n 1, 1) := by decide +kernel
theorem dX10_bring_2 : decode cX10_bring 2 = .ok (.invokevirtual 272, 3) := by decide +kernel
theorem dX10_bring_5 : decode cX10_bring 5 = .ok (.aload_n 1, 1) := by decide +kernel
theorem dX10_bring_6 : decode cX10_bring 6 = .ok (.iload_n 2, 1) := by decide +kernel
theorem dX10_bring_7 : decode cX10_bring 7 = .ok (.iload_n 3, 1) := by decide +kernel
theorem dX10_bring_8 : decode cX10_bring 8 = .ok (.iload 4, 2) := by decide +kernel
theorem dX10_bring_10 : decode cX10_bring 10 = .ok (.iload 5, 2) := by decide +kernel
theorem dX10_bring_12 : decode cX10_bring 12 = .ok (.invokevirtual 276, 3) := by decide +kernel
theorem dX10_bring_15 : decode cX10_bring 15 = .ok (.aload_n 0, 1) := by decide +kernel
theorem dX10_bring_16 : decode cX10_bring 16 = .ok (.aload_n 1, 1) := by decide +kernel
theorem dX10_bring_17 : decode cX10_bring 17 = .ok (.invokevirtual 280, 3) := by decide +kernel
theorem dX10_bring_20 : decode cX10_bring 20 = .ok (.return_, 1) := by decide +kernel
def M_X10_bring : y_M := (yX10_bring, cX10_bring, 6, (Option.none : Option Jvm.ClassFile.FieldType))
theorem n_X10_bring : y_N0 M_X10_bring 5 := ⟨(c_4 154 (by decide +kernel) rfl), (c_1 2 (by decide +kernel) rfl), ⟨by decide +kernel, by decide +kernel⟩, by decide +kernel⟩
theorem l_BoxYard_Yard_272 : y_lnk "BoxYard$Yard" 272 M_X10_leave := Or.inl (c_4 155 (by decide +kernel) rfl)
theorem i_X10_leave : Cond.instanceMethod (M_X10_leave).1 ∈ y_tb := (c_4 157 (by decide +kernel) rfl)
theorem e_X10_leave : Cond.selects (M_X10_leave).1.cls (M_X10_leave).1 (M_X10_leave).1 ∈ y_tb := (m_s 20 (by decide +kernel) rfl)
theorem l_BoxYard_Yard_276 : y_lnk "BoxYard$Yard" 276 M_X2_stand := Or.inl (c_4 169 (by decide +kernel) rfl)
theorem l_BoxYard_Yard_280 : y_lnk "BoxYard$Yard" 280 M_X10_arrive := Or.inl (c_4 170 (by decide +kernel) rfl)
theorem i_X10_arrive : Cond.instanceMethod (M_X10_arrive).1 ∈ y_tb := (c_4 172 (by decide +kernel) rfl)
theorem e_X10_arrive : Cond.selects (M_X10_arrive).1.cls (M_X10_arrive).1 (M_X10_arrive).1 ∈ y_tb := (m_s 21 (by decide +kernel) rfl)
set_option maxRecDepth 100000 in
def f_X10_bring (p0 : Nat) (p1 : Nat) (p2 : Int32) (p3 : Int32) (p4 : Int32) (p5 : Int32) (h : y_H) : Option (Unit × y_H) :=
  if y_K h p0 = 11 then
  y_cl (f_X10_leave p0 p1 h) (fun _ h1 =>
  if y_K h1 p1 = 3 then
  y_cl (f_X2_stand p1 p2 p3 p4 p5 h1) (fun _ h3 =>
  if y_K h3 p0 = 11 then
  y_cl (f_X10_arrive p0 p1 h3) (fun _ h5 =>
  some ((), h5))
  else none)
  else none)
  else none
abbrev rm_X10_bring : Room := { frames := 3, cells := 0, slots := 0, locals := 67 }
set_option maxRecDepth 100000 in
set_option maxHeartbeats 4000000 in
theorem k_X10_bring {l : Launch} {G : y_G} {p0 : Nat} {p1 : Nat} {p2 : Int32} {p3 : Int32} {p4 : Int32} {p5 : Int32} {h hz : y_H} {rz : Unit} (hf : f_X10_bring p0 p1 p2 p3 p4 p5 h = some (rz, hz)) : y_S l G M_X10_bring rm_X10_bring [y_p p0, y_p p1, .int p2, .int p3, .int p4, .int p5] h none hz := by
  refine y_start (lv := [(0, y_p p0), (1, y_p p1), (2, .int p2), (3, .int p3), (4, .int p4), (5, .int p5)]) (by decide) (by simp [lg_sl, y_p_cat, y_ci, y_cj, M_X10_bring]) (by simp [lv_args, y_p_cat, y_ci, y_cj]) (fun z ad0 => ?_)
  unfold f_X10_bring at hf
  refine y_aload_n (x := p0) (pc2 := 1) rfl dX10_bring_0 rfl ?_
  refine y_aload_n (x := p1) (pc2 := 2) rfl dX10_bring_1 rfl ?_
  obtain ⟨g9, hf⟩ := y_g hf
  obtain ⟨r_, h1, c2, hf⟩ := y_clE hf
  refine y_callV (As := [y_p p1]) (rm := rm_X10_leave) (cells := 0) (slots := 0) (pc2 := 5) rfl dX10_bring_2 n_X10_leave l_BoxYard_Yard_272 i_X10_leave e_X10_leave (ci := 10) rfl rfl (by decide) g9 rfl rfl (by decide) (by decide) (by decide) (k_X10_leave c2) ?_
  refine y_aload_n (x := p1) (pc2 := 6) rfl dX10_bring_5 rfl ?_
  refine y_iload_n (pc2 := 7) rfl dX10_bring_6 rfl ?_
  refine y_iload_n (pc2 := 8) rfl dX10_bring_7 rfl ?_
  refine y_iload (pc2 := 10) rfl dX10_bring_8 rfl ?_
  refine y_iload (pc2 := 12) rfl dX10_bring_10 rfl ?_
  obtain ⟨g8, hf⟩ := y_g hf
  obtain ⟨r_, h3, c4, hf⟩ := y_clE hf
  refine y_callV (As := [.int p2, .int p3, .int p4, .int p5]) (rm := rm_X2_stand) (cells := 0) (slots := 0) (pc2 := 15) rfl dX10_bring_12 n_X2_stand l_BoxYard_Yard_276 i_X2_stand e_X2_stand (ci := 2) rfl rfl (by decide) g8 rfl rfl (by decide) (by decide) (by decide) (k_X2_stand c4) ?_
  refine y_aload_n (x := p0) (pc2 := 16) rfl dX10_bring_15 rfl ?_
  refine y_aload_n (x := p1) (pc2 := 17) rfl dX10_bring_16 rfl ?_
  obtain ⟨g7, hf⟩ := y_g hf
  obtain ⟨r_, h5, c6, hf⟩ := y_clE hf
  refine y_callV (As := [y_p p1]) (rm := rm_X10_arrive) (cells := 0) (slots := 0) (pc2 := 20) rfl dX10_bring_17 n_X10_arrive l_BoxYard_Yard_280 i_X10_arrive e_X10_arrive (ci := 10) rfl rfl (by decide) g7 rfl rfl (by decide) (by decide) (by decide) (k_X10_arrive c6) ?_
  exact y_vretF hf dX10_bring_20 rfl (by decide) (by decide)
theorem dX10_hold_0 : decode cX10_hold 0 = .ok (.aload_n 0, 1) := by decide +kernel
theorem dX10_hold_1 : decode cX10_hold 1 = .ok (.aload_n 2, 1) := by decide +kernel
theorem dX10_hold_2 : decode cX10_hold 2 = .ok (.iconst 2, 1) := by decide +kernel
theorem dX10_hold_3 : decode cX10_hold 3 = .ok (.aload_n 1, 1) := by decide +kernel
theorem dX10_hold_4 : decode cX10_hold 4 = .ok (.getfield 169, 3) := by decide +kernel
theorem dX10_hold_7 : decode cX10_hold 7 = .ok (.iconst 0, 1) := by decide +kernel
theorem dX10_hold_8 : decode cX10_hold 8 = .ok (.iconst 0, 1) := by decide +kernel
theorem dX10_hold_9 : decode cX10_hold 9 = .ok (.invokevirtual 262, 3) := by decide +kernel
theorem dX10_hold_12 : decode cX10_hold 12 = .ok (.aload_n 2, 1) := by decide +kernel
theorem dX10_hold_13 : decode cX10_hold 13 = .ok (.iconst 1, 1) := by decide +kernel
theorem dX10_hold_14 : decode cX10_hold 14 = .ok (.putfield 266, 3) := by decide +kernel
theorem dX10_hold_17 : decode cX10_hold 17 = .ok (.aload_n 1, 1) := by decide +kernel
theorem dX10_hold_18 : decode cX10_hold 18 = .ok (.dup, 1) := by decide +kernel
theorem dX10_hold_19 : decode cX10_hold 19 = .ok (.getfield 269, 3) := by decide +kernel
theorem dX10_hold_22 : decode cX10_hold 22 = .ok (.iconst 1, 1) := by decide +kernel
theorem dX10_hold_23 : decode cX10_hold 23 = .ok (.iadd, 1) := by decide +kernel
theorem dX10_hold_24 : decode cX10_hold 24 = .ok (.putfield 269, 3) := by decide +kernel
theorem dX10_hold_27 : decode cX10_hold 27 = .ok (.return_, 1) := by decide +kernel
def M_X10_hold : y_M := (yX10_hold, cX10_hold, 3, (Option.none : Option Jvm.ClassFile.FieldType))
theorem n_X10_hold : y_N0 M_X10_hold 2 := ⟨(c_4 150 (by decide +kernel) rfl), (c_1 2 (by decide +kernel) rfl), ⟨by decide +kernel, by decide +kernel⟩, by decide +kernel⟩
theorem l_BoxYard_Yard_262 : y_lnk "BoxYard$Yard" 262 M_X10_bring := Or.inl (c_4 151 (by decide +kernel) rfl)
theorem i_X10_bring : Cond.instanceMethod (M_X10_bring).1 ∈ y_tb := (c_4 152 (by decide +kernel) rfl)
theorem e_X10_bring : Cond.selects (M_X10_bring).1.cls (M_X10_bring).1 (M_X10_bring).1 ∈ y_tb := (c_4 153 (by decide +kernel) rfl)
theorem Fp_BoxYard_Yard_266 {nm : String} : y_Fp "BoxYard$Yard" nm 266 2 10 := ⟨_, _, _, rfl, by decide, Or.inl ⟨rfl, Or.inr ⟨"BoxYard", (c_2 150 (by decide +kernel) rfl)⟩⟩⟩
theorem F_BoxYard_Yard_269 : y_F "BoxYard$Yard" 269 3 5 := ⟨_, _, _, rfl, by decide, Or.inr ⟨"BoxYard", (c_3 204 (by decide +kernel) rfl)⟩⟩
theorem Fp_BoxYard_Yard_269 {nm : String} : y_Fp "BoxYard$Yard" nm 269 3 5 := ⟨_, _, _, rfl, by decide, Or.inl ⟨rfl, Or.inr ⟨"BoxYard", (c_3 204 (by decide +kernel) rfl)⟩⟩⟩
set_option maxRecDepth 100000 in
def f_X10_hold (p0 : Nat) (p1 : Nat) (p2 : Nat) (h : y_H) : Option (Unit × y_H) :=
  if y_K h p1 = 4 then
  if y_K h p0 = 11 then
  y_cl (f_X10_bring p0 p2 2 (y_I h p1 0) 0 0 h) (fun _ h1 =>
  if y_K h1 p2 = 3 then
  y_bd (s_B h1 p2 10 true) (fun h3 =>
  if y_K h3 p1 = 4 then
  if y_K h3 p1 = 4 then
  y_bd (s_I h3 p1 5 ((y_I h3 p1 5) + 1)) (fun h6 =>
  some ((), h6))
  else none
  else none)
  else none)
  else none
  else none
abbrev rm_X10_hold : Room := { frames := 4, cells := 0, slots := 0, locals := 92 }
set_option maxRecDepth 100000 in
set_option maxHeartbeats 4000000 in
theorem k_X10_hold {l : Launch} {G : y_G} {p0 : Nat} {p1 : Nat} {p2 : Nat} {h hz : y_H} {rz : Unit} (hf : f_X10_hold p0 p1 p2 h = some (rz, hz)) : y_S l G M_X10_hold rm_X10_hold [y_p p0, y_p p1, y_p p2] h none hz := by
  refine y_start (lv := [(0, y_p p0), (1, y_p p1), (2, y_p p2)]) (by decide) (by simp [lg_sl, y_p_cat, y_ci, y_cj, M_X10_hold]) (by simp [lv_args, y_p_cat, y_ci, y_cj]) (fun z ad0 => ?_)
  unfold f_X10_hold at hf
  refine y_aload_n (x := p0) (pc2 := 1) rfl dX10_hold_0 rfl ?_
  refine y_aload_n (x := p2) (pc2 := 2) rfl dX10_hold_1 rfl ?_
  refine y_iconst (v := 2) (pc2 := 3) rfl dX10_hold_2 (by decide) ?_
  refine y_aload_n (x := p1) (pc2 := 4) rfl dX10_hold_3 rfl ?_
  obtain ⟨g11, hf⟩ := y_g hf
  refine y_getI (pc2 := 7) rfl dX10_hold_4 F_BoxYard_Yard_169 (by decide) rfl g11 ?_
  refine y_iconst (v := 0) (pc2 := 8) rfl dX10_hold_7 (by decide) ?_
  refine y_iconst (v := 0) (pc2 := 9) rfl dX10_hold_8 (by decide) ?_
  obtain ⟨g10, hf⟩ := y_g hf
  obtain ⟨r_, h1, c2, hf⟩ := y_clE hf
  refine y_callV (As := [y_p p2, .int 2, .int (y_I h p1 0), .int 0, .int 0]) (rm := rm_X10_bring) (cells := 0) (slots := 0) (pc2 := 12) rfl dX10_hold_9 n_X10_bring l_BoxYard_Yard_262 i_X10_bring e_X10_bring (ci := 10) rfl rfl (by decide) g10 rfl rfl (by decide) (by decide) (by decide) (k_X10_bring c2) ?_
  refine y_aload_n (x := p2) (pc2 := 13) rfl dX10_hold_12 rfl ?_
  refine y_iconst (v := 1) (pc2 := 14) rfl dX10_hold_13 (by decide) ?_
  obtain ⟨g5, hf⟩ := y_g hf
  obtain ⟨h3, e4, hf⟩ := y_bdE hf
  refine y_putZ (x := true) (pc2 := 17) rfl dX10_hold_14 Fp_BoxYard_Yard_266 (by decide) rfl g5 e4 ?_
  refine y_aload_n (x := p1) (pc2 := 18) rfl dX10_hold_17 rfl ?_
  refine y_dup (pc2 := 19) rfl dX10_hold_18 (y_p_cat _) ?_
  obtain ⟨g9, hf⟩ := y_g hf
  refine y_getI (pc2 := 22) rfl dX10_hold_19 F_BoxYard_Yard_269 (by decide) rfl g9 ?_
  refine y_iconst (v := 1) (pc2 := 23) rfl dX10_hold_22 (by decide) ?_
  refine y_iadd (pc2 := 24) rfl dX10_hold_23 ?_
  obtain ⟨g8, hf⟩ := y_g hf
  obtain ⟨h6, e7, hf⟩ := y_bdE hf
  refine y_putI (x := (y_I h3 p1 5) + 1) (pc2 := 27) rfl dX10_hold_24 Fp_BoxYard_Yard_269 (by decide) rfl g8 e7 ?_
  exact y_vretF hf dX10_hold_27 rfl (by decide) (by decide)
theorem dX10_restore_0 : decode cX10_restore 0 = .ok (.aload_n 1, 1) := by decide +kernel
theorem dX10_restore_1 : decode cX10_restore 1 = .ok (.getfield 303, 3) := by decide +kernel
theorem dX10_restore_4 : decode cX10_restore 4 = .ok (.ifnull 38, 3) := by decide +kernel
theorem dX10_restore_7 : decode cX10_restore 7 = .ok (.aload_n 0, 1) := by decide +kernel
theorem dX10_restore_8 : decode cX10_restore 8 = .ok (.aload_n 1, 1) := by decide +kernel
theorem dX10_restore_9 : decode cX10_restore 9 = .ok (.getfield 303, 3) := by decide +kernel
theorem dX10_restore_12 : decode cX10_restore 12 = .ok (.aload_n 1, 1) := by decide +kernel
theorem dX10_restore_13 : decode cX10_restore 13 = .ok (.getfield 308, 3) := by decide +kernel
theorem dX10_restore_16 : decode cX10_restore 16 = .ok (.aload_n 1, 1) := by decide +kernel
theorem dX10_restore_17 : decode cX10_restore 17 = .ok (.getfield 309, 3) := by decide +kernel
theorem dX10_restore_20 : decode cX10_restore 20 = .ok (.aload_n 1, 1) := by decide +kernel
theorem dX10_restore_21 : decode cX10_restore 21 = .ok (.getfield 310, 3) := by decide +kernel
theorem dX10_restore_24 : decode cX10_restore 24 = .ok (.aload_n 1, 1) := by decide +kernel
theorem dX10_restore_25 : decode cX10_restore 25 = .ok (.getfield 311, 3) := by decide +kernel
theorem dX10_restore_28 : decode cX10_restore 28 = .ok (.invokevirtual 262, 3) := by decide +kernel
theorem dX10_restore_31 : decode cX10_restore 31 = .ok (.aload_n 1, 1) := by decide +kernel
theorem dX10_restore_32 : decode cX10_restore 32 = .ok (.getfield 303, 3) := by decide +kernel
theorem dX10_restore_35 : decode cX10_restore 35 = .ok (.aload_n 1, 1) := by decide +kernel
theorem dX10_restore_36 : decode cX10_restore 36 = .ok (.getfield 312, 3) := by decide +kernel
theorem dX10_restore_39 : decode cX10_restore 39 = .ok (.putfield 266, 3) := by decide +kernel
theorem dX10_restore_42 : decode cX10_restore 42 = .ok (.aload_n 1, 1) := by decide +kernel
theorem dX10_restore_43 : decode cX10_restore 43 = .ok (.getfield 313, 3) := by decide +kernel
theorem dX10_restore_46 : decode cX10_restore 46 = .ok (.ifnull 25, 3) := by decide +kernel
theorem dX10_restore_49 : decode cX10_restore 49 = .ok (.aload_n 1, 1) := by decide +kernel
theorem dX10_restore_50 : decode cX10_restore 50 = .ok (.getfield 313, 3) := by decide +kernel
theorem dX10_restore_53 : decode cX10_restore 53 = .ok (.aload_n 1, 1) := by decide +kernel
theorem dX10_restore_54 : decode cX10_restore 54 = .ok (.getfield 317, 3) := by decide +kernel
theorem dX10_restore_57 : decode cX10_restore 57 = .ok (.putfield 158, 3) := by decide +kernel
theorem dX10_restore_60 : decode cX10_restore 60 = .ok (.aload_n 1, 1) := by decide +kernel
theorem dX10_restore_61 : decode cX10_restore 61 = .ok (.getfield 313, 3) := by decide +kernel
theorem dX10_restore_64 : decode cX10_restore 64 = .ok (.aload_n 1, 1) := by decide +kernel
theorem dX10_restore_65 : decode cX10_restore 65 = .ok (.getfield 318, 3) := by decide +kernel
theorem dX10_restore_68 : decode cX10_restore 68 = .ok (.putfield 269, 3) := by decide +kernel
theorem dX10_restore_71 : decode cX10_restore 71 = .ok (.aload_n 1, 1) := by decide +kernel
theorem dX10_restore_72 : decode cX10_restore 72 = .ok (.getfield 319, 3) := by decide +kernel
theorem dX10_restore_75 : decode cX10_restore 75 = .ok (.ifnull 25, 3) := by decide +kernel
theorem dX10_restore_78 : decode cX10_restore 78 = .ok (.aload_n 1, 1) := by decide +kernel
theorem dX10_restore_79 : decode cX10_restore 79 = .ok (.getfield 319, 3) := by decide +kernel
theorem dX10_restore_82 : decode cX10_restore 82 = .ok (.aload_n 1, 1) := by decide +kernel
theorem dX10_restore_83 : decode cX10_restore 83 = .ok (.getfield 323, 3) := by decide +kernel
theorem dX10_restore_86 : decode cX10_restore 86 = .ok (.putfield 326, 3) := by decide +kernel
theorem dX10_restore_89 : decode cX10_restore 89 = .ok (.aload_n 1, 1) := by decide +kernel
theorem dX10_restore_90 : decode cX10_restore 90 = .ok (.getfield 319, 3) := by decide +kernel
theorem dX10_restore_93 : decode cX10_restore 93 = .ok (.aload_n 1, 1) := by decide +kernel
theorem dX10_restore_94 : decode cX10_restore 94 = .ok (.getfield 327, 3) := by decide +kernel
theorem dX10_restore_97 : decode cX10_restore 97 = .ok (.putfield 330, 3) := by decide +kernel
theorem dX10_restore_100 : decode cX10_restore 100 = .ok (.return_, 1) := by decide +kernel
def M_X10_restore : y_M := (yX10_restore, cX10_restore, 2, (Option.none : Option Jvm.ClassFile.FieldType))
theorem n_X10_restore : y_N0 M_X10_restore 1 := ⟨(c_7 48 (by decide +kernel) rfl), (c_1 2 (by decide +kernel) rfl), ⟨by decide +kernel, by decide +kernel⟩, by decide +kernel⟩
theorem F_BoxYard_Yard_303 : y_F "BoxYard$Yard" 303 0 1 := ⟨_, _, _, rfl, by decide, Or.inr ⟨"BoxYard", (c_1 124 (by decide +kernel) rfl)⟩⟩
theorem F_BoxYard_Yard_313 : y_F "BoxYard$Yard" 313 0 7 := ⟨_, _, _, rfl, by decide, Or.inr ⟨"BoxYard", (c_1 142 (by decide +kernel) rfl)⟩⟩
theorem F_BoxYard_Yard_319 : y_F "BoxYard$Yard" 319 0 11 := ⟨_, _, _, rfl, by decide, Or.inr ⟨"BoxYard", (c_1 153 (by decide +kernel) rfl)⟩⟩
theorem F_BoxYard_Yard_323 : y_F "BoxYard$Yard" 323 0 12 := ⟨_, _, _, rfl, by decide, Or.inr ⟨"BoxYard", (c_1 156 (by decide +kernel) rfl)⟩⟩
theorem Fp_BoxYard_Yard_326 {nm : String} : y_Fp "BoxYard$Yard" nm 326 7 12 := ⟨_, _, _, rfl, by decide, Or.inl ⟨rfl, Or.inr ⟨"BoxYard", (c_5 64 (by decide +kernel) rfl)⟩⟩⟩
theorem F_BoxYard_Yard_327 : y_F "BoxYard$Yard" 327 0 13 := ⟨_, _, _, rfl, by decide, Or.inr ⟨"BoxYard", (c_1 159 (by decide +kernel) rfl)⟩⟩
theorem Fp_BoxYard_Yard_330 {nm : String} : y_Fp "BoxYard$Yard" nm 330 7 13 := ⟨_, _, _, rfl, by decide, Or.inl ⟨rfl, Or.inr ⟨"BoxYard", (c_5 68 (by decide +kernel) rfl)⟩⟩⟩
theorem F_BoxYard_Yard_317 : y_F "BoxYard$Yard" 317 0 8 := ⟨_, _, _, rfl, by decide, Or.inr ⟨"BoxYard", (c_1 145 (by decide +kernel) rfl)⟩⟩
theorem Fp_BoxYard_Yard_158 {nm : String} : y_Fp "BoxYard$Yard" nm 158 3 3 := ⟨_, _, _, rfl, by decide, Or.inl ⟨rfl, Or.inr ⟨"BoxYard", (c_3 194 (by decide +kernel) rfl)⟩⟩⟩
theorem F_BoxYard_Yard_318 : y_F "BoxYard$Yard" 318 0 10 := ⟨_, _, _, rfl, by decide, Or.inr ⟨"BoxYard", (c_1 150 (by decide +kernel) rfl)⟩⟩
theorem F_BoxYard_Yard_308 : y_F "BoxYard$Yard" 308 0 2 := ⟨_, _, _, rfl, by decide, Or.inr ⟨"BoxYard", (c_1 127 (by decide +kernel) rfl)⟩⟩
theorem F_BoxYard_Yard_309 : y_F "BoxYard$Yard" 309 0 3 := ⟨_, _, _, rfl, by decide, Or.inr ⟨"BoxYard", (c_1 130 (by decide +kernel) rfl)⟩⟩
theorem F_BoxYard_Yard_310 : y_F "BoxYard$Yard" 310 0 4 := ⟨_, _, _, rfl, by decide, Or.inr ⟨"BoxYard", (c_1 133 (by decide +kernel) rfl)⟩⟩
theorem F_BoxYard_Yard_311 : y_F "BoxYard$Yard" 311 0 5 := ⟨_, _, _, rfl, by decide, Or.inr ⟨"BoxYard", (c_1 136 (by decide +kernel) rfl)⟩⟩
theorem F_BoxYard_Yard_312 : y_F "BoxYard$Yard" 312 0 6 := ⟨_, _, _, rfl, by decide, Or.inr ⟨"BoxYard", (c_1 139 (by decide +kernel) rfl)⟩⟩
set_option maxRecDepth 100000 in
def f_X10_restore (p0 : Nat) (p1 : Nat) (h : y_H) : Option (Unit × y_H) :=
  if y_K h p1 = 1 then
  y_jn (fun (v1_42 : Nat) (h1 : y_H) => (
      if y_K h1 v1_42 = 1 then
      y_jn (fun (v1_71 : Nat) (h2 : y_H) => (
          if y_K h2 v1_71 = 1 then
          y_jn (fun (h3 : y_H) => (
              some ((), h3) : Option (Unit × y_H))) (fun j100 =>
          if (y_P h2 v1_71 11) = 0 then
            j100 h2
          else
            if y_K h2 v1_71 = 1 then
            if y_K h2 v1_71 = 1 then
            if y_K h2 (y_P h2 v1_71 11) = 8 then
            y_bd (s_I h2 (y_P h2 v1_71 11) 12 (y_I h2 v1_71 12)) (fun h4 =>
            if y_K h4 v1_71 = 1 then
            if y_K h4 v1_71 = 1 then
            if y_K h4 (y_P h4 v1_71 11) = 8 then
            y_bd (s_I h4 (y_P h4 v1_71 11) 13 (y_I h4 v1_71 13)) (fun h7 =>
            j100 h7)
            else none
            else none
            else none)
            else none
            else none
            else none)
          else none : Option (Unit × y_H))) (fun j71 =>
      if (y_P h1 v1_42 7) = 0 then
        j71 v1_42 h1
      else
        if y_K h1 v1_42 = 1 then
        if y_K h1 v1_42 = 1 then
        if y_K h1 (y_P h1 v1_42 7) = 4 then
        y_bd (s_I h1 (y_P h1 v1_42 7) 3 (y_I h1 v1_42 8)) (fun h16 =>
        if y_K h16 v1_42 = 1 then
        if y_K h16 v1_42 = 1 then
        if y_K h16 (y_P h16 v1_42 7) = 4 then
        y_bd (s_I h16 (y_P h16 v1_42 7) 5 (y_I h16 v1_42 10)) (fun h19 =>
        j71 v1_42 h19)
        else none
        else none
        else none)
        else none
        else none
        else none)
      else none : Option (Unit × y_H))) (fun j42 =>
  if (y_P h p1 1) = 0 then
    j42 p1 h
  else
    if y_K h p1 = 1 then
    if y_K h p1 = 1 then
    if y_K h p1 = 1 then
    if y_K h p1 = 1 then
    if y_K h p1 = 1 then
    if y_K h p0 = 11 then
    y_cl (f_X10_bring p0 (y_P h p1 1) (y_I h p1 2) (y_I h p1 3) (y_I h p1 4) (y_I h p1 5) h) (fun _ h28 =>
    if y_K h28 p1 = 1 then
    if y_K h28 p1 = 1 then
    if y_K h28 (y_P h28 p1 1) = 3 then
    y_bd (s_B h28 (y_P h28 p1 1) 10 (y_B h28 p1 6)) (fun h30 =>
    j42 p1 h30)
    else none
    else none
    else none)
    else none
    else none
    else none
    else none
    else none
    else none)
  else none
abbrev rm_X10_restore : Room := { frames := 4, cells := 0, slots := 0, locals := 92 }
set_option maxRecDepth 100000 in
set_option maxHeartbeats 4000000 in
theorem k_X10_restore {l : Launch} {G : y_G} {p0 : Nat} {p1 : Nat} {h hz : y_H} {rz : Unit} (hf : f_X10_restore p0 p1 h = some (rz, hz)) : y_S l G M_X10_restore rm_X10_restore [y_p p0, y_p p1] h none hz := by
  refine y_start (lv := [(0, y_p p0), (1, y_p p1)]) (by decide) (by simp [lg_sl, y_p_cat, y_ci, y_cj, M_X10_restore]) (by simp [lv_args, y_p_cat, y_ci, y_cj]) (fun z ad0 => ?_)
  unfold f_X10_restore at hf
  refine y_aload_n (x := p1) (pc2 := 1) rfl dX10_restore_0 rfl ?_
  obtain ⟨g42, hf⟩ := y_g hf
  refine y_getP (pc2 := 4) rfl dX10_restore_1 F_BoxYard_Yard_303 (by decide) rfl g42 ?_
  refine y_jnE hf (fun j => ∀ (v1_42 : Nat) (h1 : y_H), j v1_42 h1 = some (rz, hz) → y_V l G z rm_X10_restore M_X10_restore ad0 h none hz 42 [(1, y_p v1_42)] [] h1 0 0) (fun v1_42 h1 hf => ?_) (fun j42 hj42 hf => ?_)
  · refine y_aload_n (x := v1_42) (pc2 := 43) rfl dX10_restore_42 rfl ?_
    obtain ⟨g27, hf⟩ := y_g hf
    refine y_getP (pc2 := 46) rfl dX10_restore_43 F_BoxYard_Yard_313 (by decide) rfl g27 ?_
    refine y_jnE hf (fun j => ∀ (v1_71 : Nat) (h2 : y_H), j v1_71 h2 = some (rz, hz) → y_V l G z rm_X10_restore M_X10_restore ad0 h none hz 71 [(1, y_p v1_71)] [] h2 0 0) (fun v1_71 h2 hf => ?_) (fun j71 hj71 hf => ?_)
    · refine y_aload_n (x := v1_71) (pc2 := 72) rfl dX10_restore_71 rfl ?_
      obtain ⟨g15, hf⟩ := y_g hf
      refine y_getP (pc2 := 75) rfl dX10_restore_72 F_BoxYard_Yard_319 (by decide) rfl g15 ?_
      refine y_jnE hf (fun j => ∀ (h3 : y_H), j h3 = some (rz, hz) → y_V l G z rm_X10_restore M_X10_restore ad0 h none hz 100 [] [] h3 0 0) (fun h3 hf => ?_) (fun j100 hj100 hf => ?_)
      · exact y_vretF hf dX10_restore_100 rfl (by decide) (by decide)
      · refine y_ifnull (tgt := 100) (pc2 := 78) rfl dX10_restore_75 (by decide) (fun c14 => ?_) (fun c14 => ?_)
        · replace hf := y_it c14 hf
          exact y_pk [] rfl (hj100 _ hf)
        · replace hf := y_ie c14 hf
          refine y_aload_n (x := v1_71) (pc2 := 79) rfl dX10_restore_78 rfl ?_
          obtain ⟨g13, hf⟩ := y_g hf
          refine y_getP (pc2 := 82) rfl dX10_restore_79 F_BoxYard_Yard_319 (by decide) rfl g13 ?_
          refine y_aload_n (x := v1_71) (pc2 := 83) rfl dX10_restore_82 rfl ?_
          obtain ⟨g12, hf⟩ := y_g hf
          refine y_getI (pc2 := 86) rfl dX10_restore_83 F_BoxYard_Yard_323 (by decide) rfl g12 ?_
          obtain ⟨g6, hf⟩ := y_g hf
          obtain ⟨h4, e5, hf⟩ := y_bdE hf
          refine y_putI (x := y_I h2 v1_71 12) (pc2 := 89) rfl dX10_restore_86 Fp_BoxYard_Yard_326 (by decide) rfl g6 e5 ?_
          refine y_aload_n (x := v1_71) (pc2 := 90) rfl dX10_restore_89 rfl ?_
          obtain ⟨g11, hf⟩ := y_g hf
          refine y_getP (pc2 := 93) rfl dX10_restore_90 F_BoxYard_Yard_319 (by decide) rfl g11 ?_
          refine y_aload_n (x := v1_71) (pc2 := 94) rfl dX10_restore_93 rfl ?_
          obtain ⟨g10, hf⟩ := y_g hf
          refine y_getI (pc2 := 97) rfl dX10_restore_94 F_BoxYard_Yard_327 (by decide) rfl g10 ?_
          obtain ⟨g9, hf⟩ := y_g hf
          obtain ⟨h7, e8, hf⟩ := y_bdE hf
          refine y_putI (x := y_I h4 v1_71 13) (pc2 := 100) rfl dX10_restore_97 Fp_BoxYard_Yard_330 (by decide) rfl g9 e8 ?_
          exact y_pk [] rfl (hj100 _ hf)
    · refine y_ifnull (tgt := 71) (pc2 := 49) rfl dX10_restore_46 (by decide) (fun c26 => ?_) (fun c26 => ?_)
      · replace hf := y_it c26 hf
        exact y_pk [0] rfl (hj71 _ _ hf)
      · replace hf := y_ie c26 hf
        refine y_aload_n (x := v1_42) (pc2 := 50) rfl dX10_restore_49 rfl ?_
        obtain ⟨g25, hf⟩ := y_g hf
        refine y_getP (pc2 := 53) rfl dX10_restore_50 F_BoxYard_Yard_313 (by decide) rfl g25 ?_
        refine y_aload_n (x := v1_42) (pc2 := 54) rfl dX10_restore_53 rfl ?_
        obtain ⟨g24, hf⟩ := y_g hf
        refine y_getI (pc2 := 57) rfl dX10_restore_54 F_BoxYard_Yard_317 (by decide) rfl g24 ?_
        obtain ⟨g18, hf⟩ := y_g hf
        obtain ⟨h16, e17, hf⟩ := y_bdE hf
        refine y_putI (x := y_I h1 v1_42 8) (pc2 := 60) rfl dX10_restore_57 Fp_BoxYard_Yard_158 (by decide) rfl g18 e17 ?_
        refine y_aload_n (x := v1_42) (pc2 := 61) rfl dX10_restore_60 rfl ?_
        obtain ⟨g23, hf⟩ := y_g hf
        refine y_getP (pc2 := 64) rfl dX10_restore_61 F_BoxYard_Yard_313 (by decide) rfl g23 ?_
        refine y_aload_n (x := v1_42) (pc2 := 65) rfl dX10_restore_64 rfl ?_
        obtain ⟨g22, hf⟩ := y_g hf
        refine y_getI (pc2 := 68) rfl dX10_restore_65 F_BoxYard_Yard_318 (by decide) rfl g22 ?_
        obtain ⟨g21, hf⟩ := y_g hf
        obtain ⟨h19, e20, hf⟩ := y_bdE hf
        refine y_putI (x := y_I h16 v1_42 10) (pc2 := 71) rfl dX10_restore_68 Fp_BoxYard_Yard_269 (by decide) rfl g21 e20 ?_
        exact y_pk [0] rfl (hj71 _ _ hf)
  · refine y_ifnull (tgt := 42) (pc2 := 7) rfl dX10_restore_4 (by decide) (fun c41 => ?_) (fun c41 => ?_)
    · replace hf := y_it c41 hf
      exact y_pk [1] rfl (hj42 _ _ hf)
    · replace hf := y_ie c41 hf
      refine y_aload_n (x := p0) (pc2 := 8) rfl dX10_restore_7 rfl ?_
      refine y_aload_n (x := p1) (pc2 := 9) rfl dX10_restore_8 rfl ?_
      obtain ⟨g40, hf⟩ := y_g hf
      refine y_getP (pc2 := 12) rfl dX10_restore_9 F_BoxYard_Yard_303 (by decide) rfl g40 ?_
      refine y_aload_n (x := p1) (pc2 := 13) rfl dX10_restore_12 rfl ?_
      obtain ⟨g39, hf⟩ := y_g hf
      refine y_getI (pc2 := 16) rfl dX10_restore_13 F_BoxYard_Yard_308 (by decide) rfl g39 ?_
      refine y_aload_n (x := p1) (pc2 := 17) rfl dX10_restore_16 rfl ?_
      obtain ⟨g38, hf⟩ := y_g hf
      refine y_getI (pc2 := 20) rfl dX10_restore_17 F_BoxYard_Yard_309 (by decide) rfl g38 ?_
      refine y_aload_n (x := p1) (pc2 := 21) rfl dX10_restore_20 rfl ?_
      obtain ⟨g37, hf⟩ := y_g hf
      refine y_getI (pc2 := 24) rfl dX10_restore_21 F_BoxYard_Yard_310 (by decide) rfl g37 ?_
      refine y_aload_n (x := p1) (pc2 := 25) rfl dX10_restore_24 rfl ?_
      obtain ⟨g36, hf⟩ := y_g hf
      refine y_getI (pc2 := 28) rfl dX10_restore_25 F_BoxYard_Yard_311 (by decide) rfl g36 ?_
      obtain ⟨g35, hf⟩ := y_g hf
      obtain ⟨r_, h28, c29, hf⟩ := y_clE hf
      refine y_callV (As := [y_p (y_P h p1 1), .int (y_I h p1 2), .int (y_I h p1 3), .int (y_I h p1 4), .int (y_I h p1 5)]) (rm := rm_X10_bring) (cells := 0) (slots := 0) (pc2 := 31) rfl dX10_restore_28 n_X10_bring l_BoxYard_Yard_262 i_X10_bring e_X10_bring (ci := 10) rfl rfl (by decide) g35 rfl rfl (by decide) (by decide) (by decide) (k_X10_bring c29) ?_
      refine y_aload_n (x := p1) (pc2 := 32) rfl dX10_restore_31 rfl ?_
      obtain ⟨g34, hf⟩ := y_g hf
      refine y_getP (pc2 := 35) rfl dX10_restore_32 F_BoxYard_Yard_303 (by decide) rfl g34 ?_
      refine y_aload_n (x := p1) (pc2 := 36) rfl dX10_restore_35 rfl ?_
      obtain ⟨g33, hf⟩ := y_g hf
      refine y_getZ (pc2 := 39) rfl dX10_restore_36 F_BoxYard_Yard_312 (by decide) rfl g33 ?_
      obtain ⟨g32, hf⟩ := y_g hf
      obtain ⟨h30, e31, hf⟩ := y_bdE hf
      refine y_putZ (x := y_B h28 p1 6) (pc2 := 42) rfl dX10_restore_39 Fp_BoxYard_Yard_266 (by decide) rfl g32 e31 ?_
      exact y_pk [1] rfl (hj42 _ _ hf)
theorem dX11_isWeight_0 : decode cX11_isWeight 0 = .ok (.iload_n 0, 1) := by decide +kernel
theorem dX11_isWeight_1 : decode cX11_isWeight 1 = .ok (.iconst 1, 1) := by decide +kernel
theorem dX11_isWeight_2 : decode cX11_isWeight 2 = .ok (.sipush 400, 3) := by decide +kernel
theorem dX11_isWeight_5 : decode cX11_isWeight 5 = .ok (.invokestatic 56, 3) := by decide +kernel
theorem dX11_isWeight_8 : decode cX11_isWeight 8 = .ok (.ireturn, 1) := by decide +kernel
def M_X11_isWeight : y_M := (yX11_isWeight, cX11_isWeight, 1, (Option.some Jvm.ClassFile.FieldType.boolean))
theorem n_X11_isWeight : y_N0 M_X11_isWeight 1 := ⟨(c_2 102 (by decide +kernel) rfl), (c_1 1 (by decide +kernel) rfl), ⟨by decide +kernel, by decide +kernel⟩, by decide +kernel⟩
theorem l_BoxYard_56 : y_lnk "BoxYard" 56 M_X11_isWithin := Or.inl (c_2 97 (by decide +kernel) rfl)
set_option maxRecDepth 100000 in
def f_X11_isWeight (p0 : Int32) (h : y_H) : Option (Bool × y_H) :=
  y_cl (f_X11_isWithin p0 1 400 h) (fun r1 h2 =>
  some (r1, h2))
abbrev rm_X11_isWeight : Room := { frames := 1, cells := 0, slots := 0, locals := 22 }
set_option maxRecDepth 100000 in
set_option maxHeartbeats 4000000 in
theorem k_X11_isWeight {l : Launch} {G : y_G} {p0 : Int32} {h hz : y_H} {rz : Bool} (hf : f_X11_isWeight p0 h = some (rz, hz)) : y_S l G M_X11_isWeight rm_X11_isWeight [.int p0] h (some (.int (y_z rz))) hz := by
  refine y_start (lv := [(0, .int p0)]) (by decide) (by simp [lg_sl, y_p_cat, y_ci, y_cj, M_X11_isWeight]) (by simp [lv_args, y_p_cat, y_ci, y_cj]) (fun z ad0 => ?_)
  unfold f_X11_isWeight at hf
  refine y_iload_n (pc2 := 1) rfl dX11_isWeight_0 rfl ?_
  refine y_iconst (v := 1) (pc2 := 2) rfl dX11_isWeight_1 (by decide) ?_
  refine y_sipush (v := 400) (pc2 := 5) rfl dX11_isWeight_2 (by decide) ?_
  obtain ⟨r1, h2, c3, hf⟩ := y_clE hf
  refine y_callS (As := [.int p0, .int 1, .int 400]) (rm := rm_X11_isWithin) (cells := 0) (slots := 0) (pc2 := 8) rfl dX11_isWeight_5 n_X11_isWithin l_BoxYard_56 t_X11_isWithin rfl rfl (by decide) (by decide) (by decide) (k_X11_isWithin c3) ?_
  exact y_zretF hf dX11_isWeight_8 rfl (by decide) (by decide)
theorem dX11_counted_0 : decode cX11_counted 0 = .ok (.bipush (-60), 2) := by decide +kernel
theorem dX11_counted_2 : decode cX11_counted 2 = .ok (.iload_n 1, 1) := by decide +kernel
theorem dX11_counted_3 : decode cX11_counted 3 = .ok (.isub, 1) := by decide +kernel
theorem dX11_counted_4 : decode cX11_counted 4 = .ok (.istore_n 2, 1) := by decide +kernel
theorem dX11_counted_5 : decode cX11_counted 5 = .ok (.iload_n 2, 1) := by decide +kernel
theorem dX11_counted_6 : decode cX11_counted 6 = .ok (.iconst 1, 1) := by decide +kernel
theorem dX11_counted_7 : decode cX11_counted 7 = .ok (.if_icmp .lt 19, 3) := by decide +kernel
theorem dX11_counted_10 : decode cX11_counted 10 = .ok (.iload_n 2, 1) := by decide +kernel
theorem dX11_counted_11 : decode cX11_counted 11 = .ok (.bipush 7, 2) := by decide +kernel
theorem dX11_counted_13 : decode cX11_counted 13 = .ok (.if_icmp .gt 13, 3) := by decide +kernel
theorem dX11_counted_16 : decode cX11_counted 16 = .ok (.aload_n 0, 1) := by decide +kernel
theorem dX11_counted_17 : decode cX11_counted 17 = .ok (.getfield 39, 3) := by decide +kernel
theorem dX11_counted_20 : decode cX11_counted 20 = .ok (.iload_n 2, 1) := by decide +kernel
theorem dX11_counted_21 : decode cX11_counted 21 = .ok (.dup2, 1) := by decide +kernel
theorem dX11_counted_22 : decode cX11_counted 22 = .ok (.iaload, 1) := by decide +kernel
theorem dX11_counted_23 : decode cX11_counted 23 = .ok (.iconst 1, 1) := by decide +kernel
theorem dX11_counted_24 : decode cX11_counted 24 = .ok (.iadd, 1) := by decide +kernel
theorem dX11_counted_25 : decode cX11_counted 25 = .ok (.iastore, 1) := by decide +kernel
theorem dX11_counted_26 : decode cX11_counted 26 = .ok (.iload_n 1, 1) := by decide +kernel
theorem dX11_counted_27 : decode cX11_counted 27 = .ok (.ireturn, 1) := by decide +kernel
def M_X11_counted : y_M := (yX11_counted, cX11_counted, 3, (Option.some Jvm.ClassFile.FieldType.int))
theorem n_X11_counted : y_N0 M_X11_counted 1 := ⟨(c_3 18 (by decide +kernel) rfl), (c_1 1 (by decide +kernel) rfl), ⟨by decide +kernel, by decide +kernel⟩, by decide +kernel⟩
theorem F_BoxYard_39 : y_F "BoxYard" 39 11 4 := ⟨_, _, _, rfl, by decide, Or.inl (c_2 75 (by decide +kernel) rfl)⟩
set_option maxRecDepth 100000 in
def f_X11_counted (p0 : Nat) (p1 : Int32) (h : y_H) : Option (Int32 × y_H) :=
  y_jn (fun (v1_26 : Int32) (h1 : y_H) => (
      some (v1_26, h1) : Option (Int32 × y_H))) (fun j26 =>
  if ((-60 : Int32) - p1) < 1 then
    j26 p1 h
  else
    if 7 < ((-60 : Int32) - p1) then
      j26 p1 h
    else
      if y_K h p0 = 12 then
      if y_K h (y_P h p0 4) = 100 ∧ y_ix ((-60 : Int32) - p1) (y_N h (y_P h p0 4)) = true then
      if y_K h (y_P h p0 4) = 100 ∧ y_ix ((-60 : Int32) - p1) (y_N h (y_P h p0 4)) = true then
      y_bd (s_I h (y_P h p0 4) (Int32.toNatClampNeg ((-60 : Int32) - p1)) ((y_I h (y_P h p0 4) (Int32.toNatClampNeg ((-60 : Int32) - p1))) + 1)) (fun h2 =>
      j26 p1 h2)
      else none
      else none
      else none)
abbrev rm_X11_counted : Room := { frames := 0, cells := 0, slots := 0, locals := 0 }
set_option maxRecDepth 100000 in
set_option maxHeartbeats 4000000 in
theorem k_X11_counted {l : Launch} {G : y_G} {p0 : Nat} {p1 : Int32} {h hz : y_H} {rz : Int32} (hf : f_X11_counted p0 p1 h = some (rz, hz)) : y_S l G M_X11_counted rm_X11_counted [y_p p0, .int p1] h (some (.int rz)) hz := by
  refine y_start (lv := [(0, y_p p0), (1, .int p1)]) (by decide) (by simp [lg_sl, y_p_cat, y_ci, y_cj, M_X11_counted]) (by simp [lv_args, y_p_cat, y_ci, y_cj]) (fun z ad0 => ?_)
  unfold f_X11_counted at hf
  refine y_bipush (v := (-60 : Int32)) (pc2 := 2) rfl dX11_counted_0 (by decide) ?_
  refine y_iload_n (pc2 := 3) rfl dX11_counted_2 rfl ?_
  refine y_isub (pc2 := 4) rfl dX11_counted_3 ?_
  refine y_istore_n (lv' := [(2, .int ((-60 : Int32) - p1)), (0, y_p p0), (1, .int p1)]) (pc2 := 5) rfl dX11_counted_4 (by decide) rfl ?_
  refine y_iload_n (pc2 := 6) rfl dX11_counted_5 rfl ?_
  refine y_iconst (v := 1) (pc2 := 7) rfl dX11_counted_6 (by decide) ?_
  refine y_jnE hf (fun j => ∀ (v1_26 : Int32) (h1 : y_H), j v1_26 h1 = some (rz, hz) → y_V l G z rm_X11_counted M_X11_counted ad0 h (some (.int rz)) hz 26 [(1, .int v1_26)] [] h1 0 0) (fun v1_26 h1 hf => ?_) (fun j26 hj26 hf => ?_)
  · refine y_iload_n (pc2 := 27) rfl dX11_counted_26 rfl ?_
    exact y_iretF hf dX11_counted_27 rfl (by decide) (by decide)
  · refine y_icmp_lt (tgt := 26) (pc2 := 10) rfl dX11_counted_7 (by decide) (fun c8 => ?_) (fun c8 => ?_)
    · replace hf := y_it c8 hf
      exact y_pk [2] rfl (hj26 _ _ hf)
    · replace hf := y_ie c8 hf
      refine y_iload_n (pc2 := 11) rfl dX11_counted_10 rfl ?_
      refine y_bipush (v := 7) (pc2 := 13) rfl dX11_counted_11 (by decide) ?_
      refine y_icmp_gt (tgt := 26) (pc2 := 16) rfl dX11_counted_13 (by decide) (fun c7 => ?_) (fun c7 => ?_)
      · replace hf := y_it c7 hf
        exact y_pk [2] rfl (hj26 _ _ hf)
      · replace hf := y_ie c7 hf
        refine y_aload_n (x := p0) (pc2 := 17) rfl dX11_counted_16 rfl ?_
        obtain ⟨g6, hf⟩ := y_g hf
        refine y_getP (pc2 := 20) rfl dX11_counted_17 F_BoxYard_39 (by decide) rfl g6 ?_
        refine y_iload_n (pc2 := 21) rfl dX11_counted_20 rfl ?_
        refine y_dup2 (pc2 := 22) rfl dX11_counted_21 rfl (y_p_cat _) ?_
        obtain ⟨g5, hf⟩ := y_g hf
        refine y_iald (pc2 := 23) rfl dX11_counted_22 g5.1 (y_ix_in g5.2) ?_
        refine y_iconst (v := 1) (pc2 := 24) rfl dX11_counted_23 (by decide) ?_
        refine y_iadd (pc2 := 25) rfl dX11_counted_24 ?_
        obtain ⟨g4, hf⟩ := y_g hf
        obtain ⟨h2, e3, hf⟩ := y_bdE hf
        refine y_iast (x := (y_I h (y_P h p0 4) (Int32.toNatClampNeg ((-60 : Int32) - p1))) + 1) (pc2 := 26) rfl dX11_counted_25 g4.1 (y_ix_in g4.2) e3 ?_
        exact y_pk [2] rfl (hj26 _ _ hf)
theorem dX11_body_0 : decode cX11_body 0 = .ok (.aload_n 0, 1) := by decide +kernel
theorem dX11_body_1 : decode cX11_body 1 = .ok (.getfield 10, 3) := by decide +kernel
theorem dX11_body_4 : decode cX11_body 4 = .ok (.getfield 77, 3) := by decide +kernel
theorem dX11_body_7 : decode cX11_body 7 = .ok (.invokevirtual 81, 3) := by decide +kernel
theorem dX11_body_10 : decode cX11_body 10 = .ok (.aload_n 0, 1) := by decide +kernel
theorem dX11_body_11 : decode cX11_body 11 = .ok (.getfield 10, 3) := by decide +kernel
theorem dX11_body_14 : decode cX11_body 14 = .ok (.iload_n 1, 1) := by decide +kernel
theorem dX11_body_15 : decode cX11_body 15 = .ok (.invokevirtual 85, 3) := by decide +kernel
theorem dX11_body_18 : decode cX11_body 18 = .ok (.astore_n 3, 1) := by decide +kernel
theorem dX11_body_19 : decode cX11_body 19 = .ok (.aload_n 3, 1) := by decide +kernel
theorem dX11_body_20 : decode cX11_body 20 = .ok (.ifnonnull 5, 3) := by decide +kernel
theorem dX11_body_23 : decode cX11_body 23 = .ok (.iconst (-1), 1) := by decide +kernel
theorem dX11_body_24 : decode cX11_body 24 = .ok (.ireturn, 1) := by decide +kernel
theorem dX11_body_25 : decode cX11_body 25 = .ok (.iload_n 2, 1) := by decide +kernel
theorem dX11_body_26 : decode cX11_body 26 = .ok (.tableswitch 82 0 3 #[30, 42, 54, 66], 30) := by decide +kernel
theorem dX11_body_56 : decode cX11_body 56 = .ok (.aload_n 3, 1) := by decide +kernel
theorem dX11_body_57 : decode cX11_body 57 = .ok (.aload_n 0, 1) := by decide +kernel
theorem dX11_body_58 : decode cX11_body 58 = .ok (.getfield 10, 3) := by decide +kernel
theorem dX11_body_61 : decode cX11_body 61 = .ok (.getfield 77, 3) := by decide +kernel
theorem dX11_body_64 : decode cX11_body 64 = .ok (.invokevirtual 89, 3) := by decide +kernel
theorem dX11_body_67 : decode cX11_body 67 = .ok (.ireturn, 1) := by decide +kernel
theorem dX11_body_68 : decode cX11_body 68 = .ok (.aload_n 3, 1) := by decide +kernel
theorem dX11_body_69 : decode cX11_body 69 = .ok (.aload_n 0, 1) := by decide +kernel
theorem dX11_body_70 : decode cX11_body 70 = .ok (.getfield 10, 3) := by decide +kernel
theorem dX11_body_73 : decode cX11_body 73 = .ok (.getfield 77, 3) := by decide +kernel
theorem dX11_body_76 : decode cX11_body 76 = .ok (.invokevirtual 93, 3) := by decide +kernel
theorem dX11_body_79 : decode cX11_body 79 = .ok (.ireturn, 1) := by decide +kernel
theorem dX11_body_80 : decode cX11_body 80 = .ok (.aload_n 3, 1) := by decide +kernel
theorem dX11_body_81 : decode cX11_body 81 = .ok (.aload_n 0, 1) := by decide +kernel
theorem dX11_body_82 : decode cX11_body 82 = .ok (.getfield 10, 3) := by decide +kernel
theorem dX11_body_85 : decode cX11_body 85 = .ok (.getfield 77, 3) := by decide +kernel
theorem dX11_body_88 : decode cX11_body 88 = .ok (.invokevirtual 96, 3) := by decide +kernel
theorem dX11_body_91 : decode cX11_body 91 = .ok (.ireturn, 1) := by decide +kernel
theorem dX11_body_92 : decode cX11_body 92 = .ok (.aload_n 0, 1) := by decide +kernel
theorem dX11_body_93 : decode cX11_body 93 = .ok (.aload_n 3, 1) := by decide +kernel
theorem dX11_body_94 : decode cX11_body 94 = .ok (.aload_n 0, 1) := by decide +kernel
theorem dX11_body_95 : decode cX11_body 95 = .ok (.getfield 10, 3) := by decide +kernel
theorem dX11_body_98 : decode cX11_body 98 = .ok (.getfield 77, 3) := by decide +kernel
theorem dX11_body_101 : decode cX11_body 101 = .ok (.invokevirtual 99, 3) := by decide +kernel
theorem dX11_body_104 : decode cX11_body 104 = .ok (.invokevirtual 102, 3) := by decide +kernel
theorem dX11_body_107 : decode cX11_body 107 = .ok (.ireturn, 1) := by decide +kernel
theorem dX11_body_108 : decode cX11_body 108 = .ok (.bipush (-2), 2) := by decide +kernel
theorem dX11_body_110 : decode cX11_body 110 = .ok (.ireturn, 1) := by decide +kernel
def M_X11_body : y_M := (yX11_body, cX11_body, 4, (Option.some Jvm.ClassFile.FieldType.int))
theorem n_X11_body : y_N0 M_X11_body 2 := ⟨(c_2 209 (by decide +kernel) rfl), (c_1 1 (by decide +kernel) rfl), ⟨by decide +kernel, by decide +kernel⟩, by decide +kernel⟩
theorem F_BoxYard_10 : y_F "BoxYard" 10 11 0 := ⟨_, _, _, rfl, by decide, Or.inl (c_2 71 (by decide +kernel) rfl)⟩
theorem F_BoxYard_77 : y_F "BoxYard" 77 10 12 := ⟨_, _, _, rfl, by decide, Or.inr ⟨"BoxYard", (c_1 78 (by decide +kernel) rfl)⟩⟩
theorem l_BoxYard_81 : y_lnk "BoxYard" 81 M_X9_begin := Or.inl (c_2 210 (by decide +kernel) rfl)
theorem l_BoxYard_85 : y_lnk "BoxYard" 85 M_X10_boxAt := Or.inl (c_2 214 (by decide +kernel) rfl)
theorem l_BoxYard_89 : y_lnk "BoxYard" 89 M_X2_bears := Or.inl (c_2 219 (by decide +kernel) rfl)
theorem l_BoxYard_93 : y_lnk "BoxYard" 93 M_X2_tall := Or.inl (c_2 231 (by decide +kernel) rfl)
theorem l_BoxYard_96 : y_lnk "BoxYard" 96 M_X2_fee := Or.inl (c_2 239 (by decide +kernel) rfl)
theorem l_BoxYard_99 : y_lnk "BoxYard" 99 M_X2_watts := Or.inl (c_3 11 (by decide +kernel) rfl)
theorem l_BoxYard_102 : y_lnk "BoxYard" 102 M_X11_counted := Or.inl (c_3 15 (by decide +kernel) rfl)
theorem i_X11_counted : Cond.instanceMethod (M_X11_counted).1 ∈ y_tb := (c_3 17 (by decide +kernel) rfl)
theorem e_X11_counted : Cond.selects (M_X11_counted).1.cls (M_X11_counted).1 (M_X11_counted).1 ∈ y_tb := (m_s 4 (by decide +kernel) rfl)
set_option maxRecDepth 100000 in
def f_X11_body (p0 : Nat) (p1 : Int32) (p2 : Int32) (h : y_H) : Option (Int32 × y_H) :=
  if y_K h p0 = 12 then
  if y_K h (y_P h p0 0) = 11 then
  if y_K h (y_P h (y_P h p0 0) 12) = 10 then
  y_cl (f_X9_begin (y_P h (y_P h p0 0) 12) h) (fun _ h1 =>
  if y_K h1 p0 = 12 then
  if y_K h1 (y_P h1 p0 0) = 11 then
  y_cl (f_X10_boxAt (y_P h1 p0 0) p1 h1) (fun r3 h4 =>
  if r3 = 0 then
    some ((-1 : Int32), h4)
  else
    if p2 = 0 then
      if y_K h4 p0 = 12 then
      if y_K h4 (y_P h4 p0 0) = 11 then
      if y_K h4 r3 = 3 then
      y_cl (f_X2_bears r3 (y_P h4 (y_P h4 p0 0) 12) h4) (fun r7 h8 =>
      some (r7, h8))
      else none
      else none
      else none
    else
    if p2 = 1 then
      if y_K h4 p0 = 12 then
      if y_K h4 (y_P h4 p0 0) = 11 then
      if y_K h4 r3 = 3 then
      y_cl (f_X2_tall r3 (y_P h4 (y_P h4 p0 0) 12) h4) (fun r14 h15 =>
      some (r14, h15))
      else none
      else none
      else none
    else
    if p2 = 2 then
      if y_K h4 p0 = 12 then
      if y_K h4 (y_P h4 p0 0) = 11 then
      if y_K h4 r3 = 3 then
      y_cl (f_X2_fee r3 (y_P h4 (y_P h4 p0 0) 12) h4) (fun r21 h22 =>
      some (r21, h22))
      else none
      else none
      else none
    else
    if p2 = 3 then
      if y_K h4 p0 = 12 then
      if y_K h4 (y_P h4 p0 0) = 11 then
      if y_K h4 r3 = 3 then
      y_cl (f_X2_watts r3 (y_P h4 (y_P h4 p0 0) 12) h4) (fun r28 h29 =>
      if y_K h29 p0 = 12 then
      y_cl (f_X11_counted p0 r28 h29) (fun r31 h32 =>
      some (r31, h32))
      else none)
      else none
      else none
      else none
    else
    some ((-2 : Int32), h4))
  else none
  else none)
  else none
  else none
  else none
abbrev rm_X11_body : Room := { frames := 3, cells := 0, slots := 0, locals := 63 }
set_option maxRecDepth 100000 in
set_option maxHeartbeats 4000000 in
theorem k_X11_body {l : Launch} {G : y_G} {p0 : Nat} {p1 : Int32} {p2 : Int32} {h hz : y_H} {rz : Int32} (hf : f_X11_body p0 p1 p2 h = some (rz, hz)) : y_S l G M_X11_body rm_X11_body [y_p p0, .int p1, .int p2] h (some (.int rz)) hz := by
  refine y_start (lv := [(0, y_p p0), (1, .int p1), (2, .int p2)]) (by decide) (by simp [lg_sl, y_p_cat, y_ci, y_cj, M_X11_body]) (by simp [lv_args, y_p_cat, y_ci, y_cj]) (fun z ad0 => ?_)
  unfold f_X11_body at hf
  refine y_aload_n (x := p0) (pc2 := 1) rfl dX11_body_0 rfl ?_
  obtain ⟨g43, hf⟩ := y_g hf
  refine y_getP (pc2 := 4) rfl dX11_body_1 F_BoxYard_10 (by decide) rfl g43 ?_
  obtain ⟨g42, hf⟩ := y_g hf
  refine y_getP (pc2 := 7) rfl dX11_body_4 F_BoxYard_77 (by decide) rfl g42 ?_
  obtain ⟨g41, hf⟩ := y_g hf
  obtain ⟨r_, h1, c2, hf⟩ := y_clE hf
  refine y_callV (As := []) (rm := rm_X9_begin) (cells := 0) (slots := 0) (pc2 := 10) rfl dX11_body_7 n_X9_begin l_BoxYard_81 i_X9_begin e_X9_begin (ci := 9) rfl rfl (by decide) g41 rfl rfl (by decide) (by decide) (by decide) (k_X9_begin c2) ?_
  refine y_aload_n (x := p0) (pc2 := 11) rfl dX11_body_10 rfl ?_
  obtain ⟨g40, hf⟩ := y_g hf
  refine y_getP (pc2 := 14) rfl dX11_body_11 F_BoxYard_10 (by decide) rfl g40 ?_
  refine y_iload_n (pc2 := 15) rfl dX11_body_14 rfl ?_
  obtain ⟨g39, hf⟩ := y_g hf
  obtain ⟨r3, h4, c5, hf⟩ := y_clE hf
  refine y_callV (As := [.int p1]) (rm := rm_X10_boxAt) (cells := 0) (slots := 0) (pc2 := 18) rfl dX11_body_15 n_X10_boxAt l_BoxYard_85 i_X10_boxAt e_X10_boxAt (ci := 10) rfl rfl (by decide) g39 rfl rfl (by decide) (by decide) (by decide) (k_X10_boxAt c5) ?_
  refine y_astore_n (lv' := [(3, y_p r3), (0, y_p p0), (1, .int p1), (2, .int p2)]) (pc2 := 19) rfl dX11_body_18 (by decide) rfl ?_
  refine y_aload_n (x := r3) (pc2 := 20) rfl dX11_body_19 rfl ?_
  refine y_ifnonnull (tgt := 25) (pc2 := 23) rfl dX11_body_20 (by decide) (fun c38 => ?_) (fun c38 => ?_)
  · replace hf := y_ie c38 hf
    refine y_iload_n (pc2 := 26) rfl dX11_body_25 rfl ?_
    by_cases c6 : p2 = 0
    · replace hf := y_it c6 hf
      refine y_table (off := 30) (tgt := 56) dX11_body_26 (by (rw [c6]) <;> decide) (by decide) ?_
      refine y_aload_n (x := r3) (pc2 := 57) rfl dX11_body_56 rfl ?_
      refine y_aload_n (x := p0) (pc2 := 58) rfl dX11_body_57 rfl ?_
      obtain ⟨g12, hf⟩ := y_g hf
      refine y_getP (pc2 := 61) rfl dX11_body_58 F_BoxYard_10 (by decide) rfl g12 ?_
      obtain ⟨g11, hf⟩ := y_g hf
      refine y_getP (pc2 := 64) rfl dX11_body_61 F_BoxYard_77 (by decide) rfl g11 ?_
      obtain ⟨g10, hf⟩ := y_g hf
      obtain ⟨r7, h8, c9, hf⟩ := y_clE hf
      refine y_callV (As := [y_p (y_P h4 (y_P h4 p0 0) 12)]) (rm := rm_X2_bears) (cells := 0) (slots := 0) (pc2 := 67) rfl dX11_body_64 n_X2_bears l_BoxYard_89 i_X2_bears e_X2_bears (ci := 2) rfl rfl (by decide) g10 rfl rfl (by decide) (by decide) (by decide) (k_X2_bears c9) ?_
      exact y_iretF hf dX11_body_67 rfl (by decide) (by decide)
    · replace hf := y_ie c6 hf
      by_cases c13 : p2 = 1
      · replace hf := y_it c13 hf
        refine y_table (off := 42) (tgt := 68) dX11_body_26 (by (rw [c13]) <;> decide) (by decide) ?_
        refine y_aload_n (x := r3) (pc2 := 69) rfl dX11_body_68 rfl ?_
        refine y_aload_n (x := p0) (pc2 := 70) rfl dX11_body_69 rfl ?_
        obtain ⟨g19, hf⟩ := y_g hf
        refine y_getP (pc2 := 73) rfl dX11_body_70 F_BoxYard_10 (by decide) rfl g19 ?_
        obtain ⟨g18, hf⟩ := y_g hf
        refine y_getP (pc2 := 76) rfl dX11_body_73 F_BoxYard_77 (by decide) rfl g18 ?_
        obtain ⟨g17, hf⟩ := y_g hf
        obtain ⟨r14, h15, c16, hf⟩ := y_clE hf
        refine y_callV (As := [y_p (y_P h4 (y_P h4 p0 0) 12)]) (rm := rm_X2_tall) (cells := 0) (slots := 0) (pc2 := 79) rfl dX11_body_76 n_X2_tall l_BoxYard_93 i_X2_tall e_X2_tall (ci := 2) rfl rfl (by decide) g17 rfl rfl (by decide) (by decide) (by decide) (k_X2_tall c16) ?_
        exact y_iretF hf dX11_body_79 rfl (by decide) (by decide)
      · replace hf := y_ie c13 hf
        by_cases c20 : p2 = 2
        · replace hf := y_it c20 hf
          refine y_table (off := 54) (tgt := 80) dX11_body_26 (by (rw [c20]) <;> decide) (by decide) ?_
          refine y_aload_n (x := r3) (pc2 := 81) rfl dX11_body_80 rfl ?_
          refine y_aload_n (x := p0) (pc2 := 82) rfl dX11_body_81 rfl ?_
          obtain ⟨g26, hf⟩ := y_g hf
          refine y_getP (pc2 := 85) rfl dX11_body_82 F_BoxYard_10 (by decide) rfl g26 ?_
          obtain ⟨g25, hf⟩ := y_g hf
          refine y_getP (pc2 := 88) rfl dX11_body_85 F_BoxYard_77 (by decide) rfl g25 ?_
          obtain ⟨g24, hf⟩ := y_g hf
          obtain ⟨r21, h22, c23, hf⟩ := y_clE hf
          refine y_callV (As := [y_p (y_P h4 (y_P h4 p0 0) 12)]) (rm := rm_X2_fee) (cells := 0) (slots := 0) (pc2 := 91) rfl dX11_body_88 n_X2_fee l_BoxYard_96 i_X2_fee e_X2_fee (ci := 2) rfl rfl (by decide) g24 rfl rfl (by decide) (by decide) (by decide) (k_X2_fee c23) ?_
          exact y_iretF hf dX11_body_91 rfl (by decide) (by decide)
        · replace hf := y_ie c20 hf
          by_cases c27 : p2 = 3
          · replace hf := y_it c27 hf
            refine y_table (off := 66) (tgt := 92) dX11_body_26 (by (rw [c27]) <;> decide) (by decide) ?_
            refine y_aload_n (x := p0) (pc2 := 93) rfl dX11_body_92 rfl ?_
            refine y_aload_n (x := r3) (pc2 := 94) rfl dX11_body_93 rfl ?_
            refine y_aload_n (x := p0) (pc2 := 95) rfl dX11_body_94 rfl ?_
            obtain ⟨g37, hf⟩ := y_g hf
            refine y_getP (pc2 := 98) rfl dX11_body_95 F_BoxYard_10 (by decide) rfl g37 ?_
            obtain ⟨g36, hf⟩ := y_g hf
            refine y_getP (pc2 := 101) rfl dX11_body_98 F_BoxYard_77 (by decide) rfl g36 ?_
            obtain ⟨g35, hf⟩ := y_g hf
            obtain ⟨r28, h29, c30, hf⟩ := y_clE hf
            refine y_callV (As := [y_p (y_P h4 (y_P h4 p0 0) 12)]) (rm := rm_X2_watts) (cells := 0) (slots := 0) (pc2 := 104) rfl dX11_body_101 n_X2_watts l_BoxYard_99 i_X2_watts e_X2_watts (ci := 2) rfl rfl (by decide) g35 rfl rfl (by decide) (by simp [y_ci, y_cj, y_p_cat]) (by decide) (k_X2_watts c30) ?_
            obtain ⟨g34, hf⟩ := y_g hf
            obtain ⟨r31, h32, c33, hf⟩ := y_clE hf
            refine y_callV (As := [.int r28]) (rm := rm_X11_counted) (cells := 0) (slots := 0) (pc2 := 107) rfl dX11_body_104 n_X11_counted l_BoxYard_102 i_X11_counted e_X11_counted (ci := 11) rfl rfl (by decide) g34 rfl rfl (by decide) (by decide) (by decide) (k_X11_counted c33) ?_
            exact y_iretF hf dX11_body_107 rfl (by decide) (by decide)
          · replace hf := y_ie c27 hf
            refine y_table (off := 82) (tgt := 108) dX11_body_26 ((if_pos (by have q0 := lv_neT c6 (a := 0) (by decide); have q1 := lv_neT c13 (a := 1) (by decide); have q2 := lv_neT c20 (a := 2) (by decide); have q3 := lv_neT c27 (a := 3) (by decide); omega))) (by decide) ?_
            refine y_bipush (v := (-2 : Int32)) (pc2 := 110) rfl dX11_body_108 (by decide) ?_
            exact y_iretF hf dX11_body_110 rfl (by decide) (by decide)
  · replace hf := y_it c38 hf
    refine y_iconst (v := (-1 : Int32)) (pc2 := 24) rfl dX11_body_23 (by decide) ?_
    exact y_iretF hf dX11_body_24 rfl (by decide) (by decide)
theorem dX11_asBit_0 : decode cX11_asBit 0 = .ok (.iload_n 0, 1) := by decide +kernel
theorem dX11_asBit_1 : decode cX11_asBit 1 = .ok (.ifCond .eq 7, 3) := by decide +kernel
theorem dX11_asBit_4 : decode cX11_asBit 4 = .ok (.iconst 1, 1) := by decide +kernel
theorem dX11_asBit_5 : decode cX11_asBit 5 = .ok (.goto 4, 3) := by decide +kernel
theorem dX11_asBit_8 : decode cX11_asBit 8 = .ok (.iconst 0, 1) := by decide +kernel
theorem dX11_asBit_9 : decode cX11_asBit 9 = .ok (.ireturn, 1) := by decide +kernel
def M_X11_asBit : y_M := (yX11_asBit, cX11_asBit, 1, (Option.some Jvm.ClassFile.FieldType.int))
theorem n_X11_asBit : y_N0 M_X11_asBit 1 := ⟨(c_3 26 (by decide +kernel) rfl), (c_1 1 (by decide +kernel) rfl), ⟨by decide +kernel, by decide +kernel⟩, by decide +kernel⟩
set_option maxRecDepth 100000 in
def f_X11_asBit (p0 : Bool) (h : y_H) : Option (Int32 × y_H) :=
  if p0 = true then
    some (1, h)
  else
    some (0, h)
abbrev rm_X11_asBit : Room := { frames := 0, cells := 0, slots := 0, locals := 0 }
set_option maxRecDepth 100000 in
set_option maxHeartbeats 4000000 in
theorem k_X11_asBit {l : Launch} {G : y_G} {p0 : Bool} {h hz : y_H} {rz : Int32} (hf : f_X11_asBit p0 h = some (rz, hz)) : y_S l G M_X11_asBit rm_X11_asBit [.int (y_z p0)] h (some (.int rz)) hz := by
  refine y_start (lv := [(0, .int (y_z p0))]) (by decide) (by simp [lg_sl, y_p_cat, y_ci, y_cj, M_X11_asBit]) (by simp [lv_args, y_p_cat, y_ci, y_cj]) (fun z ad0 => ?_)
  unfold f_X11_asBit at hf
  refine y_iload_n (pc2 := 1) rfl dX11_asBit_0 rfl ?_
  refine y_ifz_eq (tgt := 8) (pc2 := 4) rfl dX11_asBit_1 (by decide) (fun c1 => ?_) (fun c1 => ?_)
  · replace hf := y_ie c1 hf
    refine y_iconst (v := 0) (pc2 := 9) rfl dX11_asBit_8 (by decide) ?_
    exact y_iretF hf dX11_asBit_9 rfl (by decide) (by decide)
  · replace hf := y_it c1 hf
    refine y_iconst (v := 1) (pc2 := 5) rfl dX11_asBit_4 (by decide) ?_
    refine y_goto (tgt := 9) dX11_asBit_5 (by decide) ?_
    exact y_iretF hf dX11_asBit_9 rfl (by decide) (by decide)
theorem dX11_where_0 : decode cX11_where 0 = .ok (.aload_n 0, 1) := by decide +kernel
theorem dX11_where_1 : decode cX11_where 1 = .ok (.getfield 10, 3) := by decide +kernel
theorem dX11_where_4 : decode cX11_where 4 = .ok (.iload_n 1, 1) := by decide +kernel
theorem dX11_where_5 : decode cX11_where 5 = .ok (.invokevirtual 85, 3) := by decide +kernel
theorem dX11_where_8 : decode cX11_where 8 = .ok (.astore_n 3, 1) := by decide +kernel
theorem dX11_where_9 : decode cX11_where 9 = .ok (.aload_n 3, 1) := by decide +kernel
theorem dX11_where_10 : decode cX11_where 10 = .ok (.ifnonnull 5, 3) := by decide +kernel
theorem dX11_where_13 : decode cX11_where 13 = .ok (.iconst (-1), 1) := by decide +kernel
theorem dX11_where_14 : decode cX11_where 14 = .ok (.ireturn, 1) := by decide +kernel
theorem dX11_where_15 : decode cX11_where 15 = .ok (.iload_n 2, 1) := by decide +kernel
theorem dX11_where_16 : decode cX11_where 16 = .ok (.tableswitch 112 0 9 #[56, 61, 66, 71, 76, 81, 89, 97, 102, 107], 56) := by decide +kernel
theorem dX11_where_72 : decode cX11_where 72 = .ok (.aload_n 3, 1) := by decide +kernel
theorem dX11_where_73 : decode cX11_where 73 = .ok (.getfield 106, 3) := by decide +kernel
theorem dX11_where_76 : decode cX11_where 76 = .ok (.ireturn, 1) := by decide +kernel
theorem dX11_where_77 : decode cX11_where 77 = .ok (.aload_n 3, 1) := by decide +kernel
theorem dX11_where_78 : decode cX11_where 78 = .ok (.getfield 109, 3) := by decide +kernel
theorem dX11_where_81 : decode cX11_where 81 = .ok (.ireturn, 1) := by decide +kernel
theorem dX11_where_82 : decode cX11_where 82 = .ok (.aload_n 3, 1) := by decide +kernel
theorem dX11_where_83 : decode cX11_where 83 = .ok (.getfield 112, 3) := by decide +kernel
theorem dX11_where_86 : decode cX11_where 86 = .ok (.ireturn, 1) := by decide +kernel
theorem dX11_where_87 : decode cX11_where 87 = .ok (.aload_n 3, 1) := by decide +kernel
theorem dX11_where_88 : decode cX11_where 88 = .ok (.getfield 115, 3) := by decide +kernel
theorem dX11_where_91 : decode cX11_where 91 = .ok (.ireturn, 1) := by decide +kernel
theorem dX11_where_92 : decode cX11_where 92 = .ok (.aload_n 3, 1) := by decide +kernel
theorem dX11_where_93 : decode cX11_where 93 = .ok (.invokevirtual 118, 3) := by decide +kernel
theorem dX11_where_96 : decode cX11_where 96 = .ok (.ireturn, 1) := by decide +kernel
theorem dX11_where_97 : decode cX11_where 97 = .ok (.aload_n 3, 1) := by decide +kernel
theorem dX11_where_98 : decode cX11_where 98 = .ok (.getfield 122, 3) := by decide +kernel
theorem dX11_where_101 : decode cX11_where 101 = .ok (.invokestatic 126, 3) := by decide +kernel
theorem dX11_where_104 : decode cX11_where 104 = .ok (.ireturn, 1) := by decide +kernel
theorem dX11_where_105 : decode cX11_where 105 = .ok (.aload_n 3, 1) := by decide +kernel
theorem dX11_where_106 : decode cX11_where 106 = .ok (.invokevirtual 130, 3) := by decide +kernel
theorem dX11_where_109 : decode cX11_where 109 = .ok (.invokestatic 126, 3) := by decide +kernel
theorem dX11_where_112 : decode cX11_where 112 = .ok (.ireturn, 1) := by decide +kernel
theorem dX11_where_113 : decode cX11_where 113 = .ok (.aload_n 3, 1) := by decide +kernel
theorem dX11_where_114 : decode cX11_where 114 = .ok (.getfield 134, 3) := by decide +kernel
theorem dX11_where_117 : decode cX11_where 117 = .ok (.ireturn, 1) := by decide +kernel
theorem dX11_where_118 : decode cX11_where 118 = .ok (.aload_n 3, 1) := by decide +kernel
theorem dX11_where_119 : decode cX11_where 119 = .ok (.getfield 137, 3) := by decide +kernel
theorem dX11_where_122 : decode cX11_where 122 = .ok (.ireturn, 1) := by decide +kernel
theorem dX11_where_123 : decode cX11_where 123 = .ok (.aload_n 3, 1) := by decide +kernel
theorem dX11_where_124 : decode cX11_where 124 = .ok (.getfield 140, 3) := by decide +kernel
theorem dX11_where_127 : decode cX11_where 127 = .ok (.ireturn, 1) := by decide +kernel
theorem dX11_where_128 : decode cX11_where 128 = .ok (.bipush (-2), 2) := by decide +kernel
theorem dX11_where_130 : decode cX11_where 130 = .ok (.ireturn, 1) := by decide +kernel
def M_X11_where : y_M := (yX11_where, cX11_where, 4, (Option.some Jvm.ClassFile.FieldType.int))
theorem n_X11_where : y_N0 M_X11_where 2 := ⟨(c_3 22 (by decide +kernel) rfl), (c_1 1 (by decide +kernel) rfl), ⟨by decide +kernel, by decide +kernel⟩, by decide +kernel⟩
theorem F_BoxYard_106 : y_F "BoxYard" 106 2 6 := ⟨_, _, _, rfl, by decide, Or.inr ⟨"BoxYard", (c_2 127 (by decide +kernel) rfl)⟩⟩
theorem F_BoxYard_109 : y_F "BoxYard" 109 2 7 := ⟨_, _, _, rfl, by decide, Or.inr ⟨"BoxYard", (c_2 133 (by decide +kernel) rfl)⟩⟩
theorem F_BoxYard_112 : y_F "BoxYard" 112 2 8 := ⟨_, _, _, rfl, by decide, Or.inr ⟨"BoxYard", (c_2 139 (by decide +kernel) rfl)⟩⟩
theorem F_BoxYard_115 : y_F "BoxYard" 115 2 9 := ⟨_, _, _, rfl, by decide, Or.inr ⟨"BoxYard", (c_2 144 (by decide +kernel) rfl)⟩⟩
theorem l_BoxYard_118 : y_lnk "BoxYard" 118 M_X2_known := Or.inl (c_3 23 (by decide +kernel) rfl)
theorem F_BoxYard_122 : y_F "BoxYard" 122 2 10 := ⟨_, _, _, rfl, by decide, Or.inr ⟨"BoxYard", (c_2 149 (by decide +kernel) rfl)⟩⟩
theorem l_BoxYard_126 : y_lnk "BoxYard" 126 M_X11_asBit := Or.inl (c_3 24 (by decide +kernel) rfl)
theorem t_X11_asBit : Cond.static (M_X11_asBit).1 ∈ y_tb := (c_3 25 (by decide +kernel) rfl)
theorem l_BoxYard_130 : y_lnk "BoxYard" 130 M_X2_isWrong := Or.inl (c_3 27 (by decide +kernel) rfl)
theorem F_BoxYard_134 : y_F "BoxYard" 134 2 11 := ⟨_, _, _, rfl, by decide, Or.inr ⟨"BoxYard", (c_2 152 (by decide +kernel) rfl)⟩⟩
theorem F_BoxYard_137 : y_F "BoxYard" 137 2 1 := ⟨_, _, _, rfl, by decide, Or.inr ⟨"BoxYard", (c_2 116 (by decide +kernel) rfl)⟩⟩
theorem F_BoxYard_140 : y_F "BoxYard" 140 2 5 := ⟨_, _, _, rfl, by decide, Or.inr ⟨"BoxYard", (c_2 124 (by decide +kernel) rfl)⟩⟩
set_option maxRecDepth 100000 in
def f_X11_where (p0 : Nat) (p1 : Int32) (p2 : Int32) (h : y_H) : Option (Int32 × y_H) :=
  if y_K h p0 = 12 then
  if y_K h (y_P h p0 0) = 11 then
  y_cl (f_X10_boxAt (y_P h p0 0) p1 h) (fun r1 h2 =>
  if r1 = 0 then
    some ((-1 : Int32), h2)
  else
    if p2 = 0 then
      if y_K h2 r1 = 3 then
      some (y_I h2 r1 6, h2)
      else none
    else
    if p2 = 1 then
      if y_K h2 r1 = 3 then
      some (y_I h2 r1 7, h2)
      else none
    else
    if p2 = 2 then
      if y_K h2 r1 = 3 then
      some (y_I h2 r1 8, h2)
      else none
    else
    if p2 = 3 then
      if y_K h2 r1 = 3 then
      some (y_I h2 r1 9, h2)
      else none
    else
    if p2 = 4 then
      if y_K h2 r1 = 3 then
      y_cl (f_X2_known r1 h2) (fun r13 h14 =>
      some (r13, h14))
      else none
    else
    if p2 = 5 then
      if y_K h2 r1 = 3 then
      y_cl (f_X11_asBit (y_B h2 r1 10) h2) (fun r18 h19 =>
      some (r18, h19))
      else none
    else
    if p2 = 6 then
      if y_K h2 r1 = 3 then
      y_cl (f_X2_isWrong r1 h2) (fun r23 h24 =>
      y_cl (f_X11_asBit r23 h24) (fun r26 h27 =>
      some (r26, h27)))
      else none
    else
    if p2 = 7 then
      if y_K h2 r1 = 3 then
      some (y_I h2 r1 11, h2)
      else none
    else
    if p2 = 8 then
      if y_K h2 r1 = 3 then
      some (y_I h2 r1 1, h2)
      else none
    else
    if p2 = 9 then
      if y_K h2 r1 = 3 then
      some (y_I h2 r1 5, h2)
      else none
    else
    some ((-2 : Int32), h2))
  else none
  else none
abbrev rm_X11_where : Room := { frames := 2, cells := 0, slots := 0, locals := 43 }
set_option maxRecDepth 100000 in
set_option maxHeartbeats 4000000 in
theorem k_X11_where {l : Launch} {G : y_G} {p0 : Nat} {p1 : Int32} {p2 : Int32} {h hz : y_H} {rz : Int32} (hf : f_X11_where p0 p1 p2 h = some (rz, hz)) : y_S l G M_X11_where rm_X11_where [y_p p0, .int p1, .int p2] h (some (.int rz)) hz := by
  refine y_start (lv := [(0, y_p p0), (1, .int p1), (2, .int p2)]) (by decide) (by simp [lg_sl, y_p_cat, y_ci, y_cj, M_X11_where]) (by simp [lv_args, y_p_cat, y_ci, y_cj]) (fun z ad0 => ?_)
  unfold f_X11_where at hf
  refine y_aload_n (x := p0) (pc2 := 1) rfl dX11_where_0 rfl ?_
  obtain ⟨g38, hf⟩ := y_g hf
  refine y_getP (pc2 := 4) rfl dX11_where_1 F_BoxYard_10 (by decide) rfl g38 ?_
  refine y_iload_n (pc2 := 5) rfl dX11_where_4 rfl ?_
  obtain ⟨g37, hf⟩ := y_g hf
  obtain ⟨r1, h2, c3, hf⟩ := y_clE hf
  refine y_callV (As := [.int p1]) (rm := rm_X10_boxAt) (cells := 0) (slots := 0) (pc2 := 8) rfl dX11_where_5 n_X10_boxAt l_BoxYard_85 i_X10_boxAt e_X10_boxAt (ci := 10) rfl rfl (by decide) g37 rfl rfl (by decide) (by decide) (by decide) (k_X10_boxAt c3) ?_
  refine y_astore_n (lv' := [(3, y_p r1), (0, y_p p0), (1, .int p1), (2, .int p2)]) (pc2 := 9) rfl dX11_where_8 (by decide) rfl ?_
  refine y_aload_n (x := r1) (pc2 := 10) rfl dX11_where_9 rfl ?_
  refine y_ifnonnull (tgt := 15) (pc2 := 13) rfl dX11_where_10 (by decide) (fun c36 => ?_) (fun c36 => ?_)
  · replace hf := y_ie c36 hf
    refine y_iload_n (pc2 := 16) rfl dX11_where_15 rfl ?_
    by_cases c4 : p2 = 0
    · replace hf := y_it c4 hf
      refine y_table (off := 56) (tgt := 72) dX11_where_16 (by (rw [c4]) <;> decide) (by decide) ?_
      refine y_aload_n (x := r1) (pc2 := 73) rfl dX11_where_72 rfl ?_
      obtain ⟨g5, hf⟩ := y_g hf
      refine y_getI (pc2 := 76) rfl dX11_where_73 F_BoxYard_106 (by decide) rfl g5 ?_
      exact y_iretF hf dX11_where_76 rfl (by decide) (by decide)
    · replace hf := y_ie c4 hf
      by_cases c6 : p2 = 1
      · replace hf := y_it c6 hf
        refine y_table (off := 61) (tgt := 77) dX11_where_16 (by (rw [c6]) <;> decide) (by decide) ?_
        refine y_aload_n (x := r1) (pc2 := 78) rfl dX11_where_77 rfl ?_
        obtain ⟨g7, hf⟩ := y_g hf
        refine y_getI (pc2 := 81) rfl dX11_where_78 F_BoxYard_109 (by decide) rfl g7 ?_
        exact y_iretF hf dX11_where_81 rfl (by decide) (by decide)
      · replace hf := y_ie c6 hf
        by_cases c8 : p2 = 2
        · replace hf := y_it c8 hf
          refine y_table (off := 66) (tgt := 82) dX11_where_16 (by (rw [c8]) <;> decide) (by decide) ?_
          refine y_aload_n (x := r1) (pc2 := 83) rfl dX11_where_82 rfl ?_
          obtain ⟨g9, hf⟩ := y_g hf
          refine y_getI (pc2 := 86) rfl dX11_where_83 F_BoxYard_112 (by decide) rfl g9 ?_
          exact y_iretF hf dX11_where_86 rfl (by decide) (by decide)
        · replace hf := y_ie c8 hf
          by_cases c10 : p2 = 3
          · replace hf := y_it c10 hf
            refine y_table (off := 71) (tgt := 87) dX11_where_16 (by (rw [c10]) <;> decide) (by decide) ?_
            refine y_aload_n (x := r1) (pc2 := 88) rfl dX11_where_87 rfl ?_
            obtain ⟨g11, hf⟩ := y_g hf
            refine y_getI (pc2 := 91) rfl dX11_where_88 F_BoxYard_115 (by decide) rfl g11 ?_
            exact y_iretF hf dX11_where_91 rfl (by decide) (by decide)
          · replace hf := y_ie c10 hf
            by_cases c12 : p2 = 4
            · replace hf := y_it c12 hf
              refine y_table (off := 76) (tgt := 92) dX11_where_16 (by (rw [c12]) <;> decide) (by decide) ?_
              refine y_aload_n (x := r1) (pc2 := 93) rfl dX11_where_92 rfl ?_
              obtain ⟨g16, hf⟩ := y_g hf
              obtain ⟨r13, h14, c15, hf⟩ := y_clE hf
              refine y_callV (As := []) (rm := rm_X2_known) (cells := 0) (slots := 0) (pc2 := 96) rfl dX11_where_93 n_X2_known l_BoxYard_118 i_X2_known e_X2_known (ci := 2) rfl rfl (by decide) g16 rfl rfl (by decide) (by decide) (by decide) (k_X2_known c15) ?_
              exact y_iretF hf dX11_where_96 rfl (by decide) (by decide)
            · replace hf := y_ie c12 hf
              by_cases c17 : p2 = 5
              · replace hf := y_it c17 hf
                refine y_table (off := 81) (tgt := 97) dX11_where_16 (by (rw [c17]) <;> decide) (by decide) ?_
                refine y_aload_n (x := r1) (pc2 := 98) rfl dX11_where_97 rfl ?_
                obtain ⟨g21, hf⟩ := y_g hf
                refine y_getZ (pc2 := 101) rfl dX11_where_98 F_BoxYard_122 (by decide) rfl g21 ?_
                obtain ⟨r18, h19, c20, hf⟩ := y_clE hf
                refine y_callS (As := [.int (y_z (y_B h2 r1 10))]) (rm := rm_X11_asBit) (cells := 0) (slots := 0) (pc2 := 104) rfl dX11_where_101 n_X11_asBit l_BoxYard_126 t_X11_asBit rfl rfl (by decide) (by decide) (by decide) (k_X11_asBit c20) ?_
                exact y_iretF hf dX11_where_104 rfl (by decide) (by decide)
              · replace hf := y_ie c17 hf
                by_cases c22 : p2 = 6
                · replace hf := y_it c22 hf
                  refine y_table (off := 89) (tgt := 105) dX11_where_16 (by (rw [c22]) <;> decide) (by decide) ?_
                  refine y_aload_n (x := r1) (pc2 := 106) rfl dX11_where_105 rfl ?_
                  obtain ⟨g29, hf⟩ := y_g hf
                  obtain ⟨r23, h24, c25, hf⟩ := y_clE hf
                  refine y_callV (As := []) (rm := rm_X2_isWrong) (cells := 0) (slots := 0) (pc2 := 109) rfl dX11_where_106 n_X2_isWrong l_BoxYard_130 i_X2_isWrong e_X2_isWrong (ci := 2) rfl rfl (by decide) g29 rfl rfl (by decide) (by decide) (by decide) (k_X2_isWrong c25) ?_
                  obtain ⟨r26, h27, c28, hf⟩ := y_clE hf
                  refine y_callS (As := [.int (y_z r23)]) (rm := rm_X11_asBit) (cells := 0) (slots := 0) (pc2 := 112) rfl dX11_where_109 n_X11_asBit l_BoxYard_126 t_X11_asBit rfl rfl (by decide) (by decide) (by decide) (k_X11_asBit c28) ?_
                  exact y_iretF hf dX11_where_112 rfl (by decide) (by decide)
                · replace hf := y_ie c22 hf
                  by_cases c30 : p2 = 7
                  · replace hf := y_it c30 hf
                    refine y_table (off := 97) (tgt := 113) dX11_where_16 (by (rw [c30]) <;> decide) (by decide) ?_
                    refine y_aload_n (x := r1) (pc2 := 114) rfl dX11_where_113 rfl ?_
                    obtain ⟨g31, hf⟩ := y_g hf
                    refine y_getI (pc2 := 117) rfl dX11_where_114 F_BoxYard_134 (by decide) rfl g31 ?_
                    exact y_iretF hf dX11_where_117 rfl (by decide) (by decide)
                  · replace hf := y_ie c30 hf
                    by_cases c32 : p2 = 8
                    · replace hf := y_it c32 hf
                      refine y_table (off := 102) (tgt := 118) dX11_where_16 (by (rw [c32]) <;> decide) (by decide) ?_
                      refine y_aload_n (x := r1) (pc2 := 119) rfl dX11_where_118 rfl ?_
                      obtain ⟨g33, hf⟩ := y_g hf
                      refine y_getI (pc2 := 122) rfl dX11_where_119 F_BoxYard_137 (by decide) rfl g33 ?_
                      exact y_iretF hf dX11_where_122 rfl (by decide) (by decide)
                    · replace hf := y_ie c32 hf
                      by_cases c34 : p2 = 9
                      · replace hf := y_it c34 hf
                        refine y_table (off := 107) (tgt := 123) dX11_where_16 (by (rw [c34]) <;> decide) (by decide) ?_
                        refine y_aload_n (x := r1) (pc2 := 124) rfl dX11_where_123 rfl ?_
                        obtain ⟨g35, hf⟩ := y_g hf
                        refine y_getI (pc2 := 127) rfl dX11_where_124 F_BoxYard_140 (by decide) rfl g35 ?_
                        exact y_iretF hf dX11_where_127 rfl (by decide) (by decide)
                      · replace hf := y_ie c34 hf
                        refine y_table (off := 112) (tgt := 128) dX11_where_16 ((if_pos (by have q0 := lv_neT c4 (a := 0) (by decide); have q1 := lv_neT c6 (a := 1) (by decide); have q2 := lv_neT c8 (a := 2) (by decide); have q3 := lv_neT c10 (a := 3) (by decide); have q4 := lv_neT c12 (a := 4) (by decide); have q5 := lv_neT c17 (a := 5) (by decide); have q6 := lv_neT c22 (a := 6) (by decide); have q7 := lv_neT c30 (a := 7) (by decide); have q8 := lv_neT c32 (a := 8) (by decide); have q9 := lv_neT c34 (a := 9) (by decide); omega))) (by decide) ?_
                        refine y_bipush (v := (-2 : Int32)) (pc2 := 130) rfl dX11_where_128 (by decide) ?_
                        exact y_iretF hf dX11_where_130 rfl (by decide) (by decide)
  · replace hf := y_it c36 hf
    refine y_iconst (v := (-1 : Int32)) (pc2 := 14) rfl dX11_where_13 (by decide) ?_
    exact y_iretF hf dX11_where_14 rfl (by decide) (by decide)
theorem dX11_plugs_0 : decode cX11_plugs 0 = .ok (.aload_n 0, 1) := by decide +kernel
theorem dX11_plugs_1 : decode cX11_plugs 1 = .ok (.getfield 10, 3) := by decide +kernel
theorem dX11_plugs_4 : decode cX11_plugs 4 = .ok (.iload_n 1, 1) := by decide +kernel
theorem dX11_plugs_5 : decode cX11_plugs 5 = .ok (.invokevirtual 148, 3) := by decide +kernel
theorem dX11_plugs_8 : decode cX11_plugs 8 = .ok (.astore 4, 2) := by decide +kernel
theorem dX11_plugs_10 : decode cX11_plugs 10 = .ok (.aload 4, 2) := by decide +kernel
theorem dX11_plugs_12 : decode cX11_plugs 12 = .ok (.ifnull 12, 3) := by decide +kernel
theorem dX11_plugs_15 : decode cX11_plugs 15 = .ok (.aload 4, 2) := by decide +kernel
theorem dX11_plugs_17 : decode cX11_plugs 17 = .ok (.iload_n 2, 1) := by decide +kernel
theorem dX11_plugs_18 : decode cX11_plugs 18 = .ok (.invokevirtual 157, 3) := by decide +kernel
theorem dX11_plugs_21 : decode cX11_plugs 21 = .ok (.ifCond .ne 5, 3) := by decide +kernel
theorem dX11_plugs_24 : decode cX11_plugs 24 = .ok (.iconst (-1), 1) := by decide +kernel
theorem dX11_plugs_25 : decode cX11_plugs 25 = .ok (.ireturn, 1) := by decide +kernel
theorem dX11_plugs_26 : decode cX11_plugs 26 = .ok (.iload_n 3, 1) := by decide +kernel
theorem dX11_plugs_27 : decode cX11_plugs 27 = .ok (.iconst 0, 1) := by decide +kernel
theorem dX11_plugs_28 : decode cX11_plugs 28 = .ok (.aload 4, 2) := by decide +kernel
theorem dX11_plugs_30 : decode cX11_plugs 30 = .ok (.getfield 160, 3) := by decide +kernel
theorem dX11_plugs_33 : decode cX11_plugs 33 = .ok (.iload_n 2, 1) := by decide +kernel
theorem dX11_plugs_34 : decode cX11_plugs 34 = .ok (.iaload, 1) := by decide +kernel
theorem dX11_plugs_35 : decode cX11_plugs 35 = .ok (.invokestatic 56, 3) := by decide +kernel
theorem dX11_plugs_38 : decode cX11_plugs 38 = .ok (.ifCond .ne 6, 3) := by decide +kernel
theorem dX11_plugs_41 : decode cX11_plugs 41 = .ok (.bipush (-2), 2) := by decide +kernel
theorem dX11_plugs_43 : decode cX11_plugs 43 = .ok (.ireturn, 1) := by decide +kernel
theorem dX11_plugs_44 : decode cX11_plugs 44 = .ok (.aload 4, 2) := by decide +kernel
theorem dX11_plugs_46 : decode cX11_plugs 46 = .ok (.getfield 163, 3) := by decide +kernel
theorem dX11_plugs_49 : decode cX11_plugs 49 = .ok (.iload_n 2, 1) := by decide +kernel
theorem dX11_plugs_50 : decode cX11_plugs 50 = .ok (.iaload, 1) := by decide +kernel
theorem dX11_plugs_51 : decode cX11_plugs 51 = .ok (.istore 5, 2) := by decide +kernel
theorem dX11_plugs_53 : decode cX11_plugs 53 = .ok (.aload 4, 2) := by decide +kernel
theorem dX11_plugs_55 : decode cX11_plugs 55 = .ok (.getfield 163, 3) := by decide +kernel
theorem dX11_plugs_58 : decode cX11_plugs 58 = .ok (.iload_n 2, 1) := by decide +kernel
theorem dX11_plugs_59 : decode cX11_plugs 59 = .ok (.iload_n 3, 1) := by decide +kernel
theorem dX11_plugs_60 : decode cX11_plugs 60 = .ok (.iastore, 1) := by decide +kernel
theorem dX11_plugs_61 : decode cX11_plugs 61 = .ok (.iload 5, 2) := by decide +kernel
theorem dX11_plugs_63 : decode cX11_plugs 63 = .ok (.ireturn, 1) := by decide +kernel
def M_X11_plugs : y_M := (yX11_plugs, cX11_plugs, 6, (Option.some Jvm.ClassFile.FieldType.int))
theorem n_X11_plugs : y_N0 M_X11_plugs 3 := ⟨(c_3 107 (by decide +kernel) rfl), (c_1 1 (by decide +kernel) rfl), ⟨by decide +kernel, by decide +kernel⟩, by decide +kernel⟩
theorem l_BoxYard_148 : y_lnk "BoxYard" 148 M_X10_bayAt := Or.inl (c_3 40 (by decide +kernel) rfl)
theorem l_BoxYard_157 : y_lnk "BoxYard" 157 M_X1_hasStack := Or.inl (c_3 108 (by decide +kernel) rfl)
theorem F_BoxYard_160 : y_F "BoxYard" 160 1 1 := ⟨_, _, _, rfl, by decide, Or.inr ⟨"BoxYard", (c_3 62 (by decide +kernel) rfl)⟩⟩
theorem F_BoxYard_163 : y_F "BoxYard" 163 1 2 := ⟨_, _, _, rfl, by decide, Or.inr ⟨"BoxYard", (c_3 66 (by decide +kernel) rfl)⟩⟩
set_option maxRecDepth 100000 in
def f_X11_plugs (p0 : Nat) (p1 : Int32) (p2 : Int32) (p3 : Int32) (h : y_H) : Option (Int32 × y_H) :=
  if y_K h p0 = 12 then
  if y_K h (y_P h p0 0) = 11 then
  y_cl (f_X10_bayAt (y_P h p0 0) p1 h) (fun r1 h2 =>
  y_jn (fun (h4 : y_H) => (
      some ((-1 : Int32), h4) : Option (Int32 × y_H))) (fun j24 =>
  if r1 = 0 then
    j24 h2
  else
    if y_K h2 r1 = 2 then
    y_cl (f_X1_hasStack r1 p2 h2) (fun r5 h6 =>
    if r5 = true then
      if y_K h6 r1 = 2 then
      if y_K h6 (y_P h6 r1 1) = 100 ∧ y_ix p2 (y_N h6 (y_P h6 r1 1)) = true then
      y_cl (f_X11_isWithin p3 0 (y_I h6 (y_P h6 r1 1) (Int32.toNatClampNeg p2)) h6) (fun r8 h9 =>
      if r8 = true then
        if y_K h9 r1 = 2 then
        if y_K h9 (y_P h9 r1 2) = 100 ∧ y_ix p2 (y_N h9 (y_P h9 r1 2)) = true then
        if y_K h9 r1 = 2 then
        if y_K h9 (y_P h9 r1 2) = 100 ∧ y_ix p2 (y_N h9 (y_P h9 r1 2)) = true then
        y_bd (s_I h9 (y_P h9 r1 2) (Int32.toNatClampNeg p2) p3) (fun h11 =>
        some (y_I h9 (y_P h9 r1 2) (Int32.toNatClampNeg p2), h11))
        else none
        else none
        else none
        else none
      else
        some ((-2 : Int32), h9))
      else none
      else none
    else
      j24 h6)
    else none))
  else none
  else none
abbrev rm_X11_plugs : Room := { frames := 2, cells := 0, slots := 0, locals := 43 }
set_option maxRecDepth 100000 in
set_option maxHeartbeats 4000000 in
theorem k_X11_plugs {l : Launch} {G : y_G} {p0 : Nat} {p1 : Int32} {p2 : Int32} {p3 : Int32} {h hz : y_H} {rz : Int32} (hf : f_X11_plugs p0 p1 p2 p3 h = some (rz, hz)) : y_S l G M_X11_plugs rm_X11_plugs [y_p p0, .int p1, .int p2, .int p3] h (some (.int rz)) hz := by
  refine y_start (lv := [(0, y_p p0), (1, .int p1), (2, .int p2), (3, .int p3)]) (by decide) (by simp [lg_sl, y_p_cat, y_ci, y_cj, M_X11_plugs]) (by simp [lv_args, y_p_cat, y_ci, y_cj]) (fun z ad0 => ?_)
  unfold f_X11_plugs at hf
  refine y_aload_n (x := p0) (pc2 := 1) rfl dX11_plugs_0 rfl ?_
  obtain ⟨g24, hf⟩ := y_g hf
  refine y_getP (pc2 := 4) rfl dX11_plugs_1 F_BoxYard_10 (by decide) rfl g24 ?_
  refine y_iload_n (pc2 := 5) rfl dX11_plugs_4 rfl ?_
  obtain ⟨g23, hf⟩ := y_g hf
  obtain ⟨r1, h2, c3, hf⟩ := y_clE hf
  refine y_callV (As := [.int p1]) (rm := rm_X10_bayAt) (cells := 0) (slots := 0) (pc2 := 8) rfl dX11_plugs_5 n_X10_bayAt l_BoxYard_148 i_X10_bayAt e_X10_bayAt (ci := 10) rfl rfl (by decide) g23 rfl rfl (by decide) (by decide) (by decide) (k_X10_bayAt c3) ?_
  refine y_astore (lv' := [(4, y_p r1), (0, y_p p0), (1, .int p1), (2, .int p2), (3, .int p3)]) (pc2 := 10) rfl dX11_plugs_8 (by decide) rfl ?_
  refine y_aload (x := r1) (pc2 := 12) rfl dX11_plugs_10 rfl ?_
  refine y_jnE hf (fun j => ∀ (h4 : y_H), j h4 = some (rz, hz) → y_V l G z rm_X11_plugs M_X11_plugs ad0 h (some (.int rz)) hz 24 [] [] h4 0 0) (fun h4 hf => ?_) (fun j24 hj24 hf => ?_)
  · refine y_iconst (v := (-1 : Int32)) (pc2 := 25) rfl dX11_plugs_24 (by decide) ?_
    exact y_iretF hf dX11_plugs_25 rfl (by decide) (by decide)
  · refine y_ifnull (tgt := 24) (pc2 := 15) rfl dX11_plugs_12 (by decide) (fun c22 => ?_) (fun c22 => ?_)
    · replace hf := y_it c22 hf
      exact y_pk [] rfl (hj24 _ hf)
    · replace hf := y_ie c22 hf
      refine y_aload (x := r1) (pc2 := 17) rfl dX11_plugs_15 rfl ?_
      refine y_iload_n (pc2 := 18) rfl dX11_plugs_17 rfl ?_
      obtain ⟨g21, hf⟩ := y_g hf
      obtain ⟨r5, h6, c7, hf⟩ := y_clE hf
      refine y_callV (As := [.int p2]) (rm := rm_X1_hasStack) (cells := 0) (slots := 0) (pc2 := 21) rfl dX11_plugs_18 n_X1_hasStack l_BoxYard_157 i_X1_hasStack e_X1_hasStack (ci := 1) rfl rfl (by decide) g21 rfl rfl (by decide) (by decide) (by decide) (k_X1_hasStack c7) ?_
      refine y_ifz_ne (tgt := 26) (pc2 := 24) rfl dX11_plugs_21 (by decide) (fun c20 => ?_) (fun c20 => ?_)
      · replace hf := y_it c20 hf
        refine y_iload_n (pc2 := 27) rfl dX11_plugs_26 rfl ?_
        refine y_iconst (v := 0) (pc2 := 28) rfl dX11_plugs_27 (by decide) ?_
        refine y_aload (x := r1) (pc2 := 30) rfl dX11_plugs_28 rfl ?_
        obtain ⟨g19, hf⟩ := y_g hf
        refine y_getP (pc2 := 33) rfl dX11_plugs_30 F_BoxYard_160 (by decide) rfl g19 ?_
        refine y_iload_n (pc2 := 34) rfl dX11_plugs_33 rfl ?_
        obtain ⟨g18, hf⟩ := y_g hf
        refine y_iald (pc2 := 35) rfl dX11_plugs_34 g18.1 (y_ix_in g18.2) ?_
        obtain ⟨r8, h9, c10, hf⟩ := y_clE hf
        refine y_callS (As := [.int p3, .int 0, .int (y_I h6 (y_P h6 r1 1) (Int32.toNatClampNeg p2))]) (rm := rm_X11_isWithin) (cells := 0) (slots := 0) (pc2 := 38) rfl dX11_plugs_35 n_X11_isWithin l_BoxYard_56 t_X11_isWithin rfl rfl (by decide) (by decide) (by decide) (k_X11_isWithin c10) ?_
        refine y_ifz_ne (tgt := 44) (pc2 := 41) rfl dX11_plugs_38 (by decide) (fun c17 => ?_) (fun c17 => ?_)
        · replace hf := y_it c17 hf
          refine y_aload (x := r1) (pc2 := 46) rfl dX11_plugs_44 rfl ?_
          obtain ⟨g16, hf⟩ := y_g hf
          refine y_getP (pc2 := 49) rfl dX11_plugs_46 F_BoxYard_163 (by decide) rfl g16 ?_
          refine y_iload_n (pc2 := 50) rfl dX11_plugs_49 rfl ?_
          obtain ⟨g15, hf⟩ := y_g hf
          refine y_iald (pc2 := 51) rfl dX11_plugs_50 g15.1 (y_ix_in g15.2) ?_
          refine y_istore (lv' := [(5, .int (y_I h9 (y_P h9 r1 2) (Int32.toNatClampNeg p2))), (4, y_p r1), (0, y_p p0), (1, .int p1), (2, .int p2), (3, .int p3)]) (pc2 := 53) rfl dX11_plugs_51 (by decide) (by show y_st1 _ 5 _ = _; simp [y_st1, y_p_cat, y_ci, y_cj]) ?_
          refine y_aload (x := r1) (pc2 := 55) rfl dX11_plugs_53 rfl ?_
          obtain ⟨g14, hf⟩ := y_g hf
          refine y_getP (pc2 := 58) rfl dX11_plugs_55 F_BoxYard_163 (by decide) rfl g14 ?_
          refine y_iload_n (pc2 := 59) rfl dX11_plugs_58 rfl ?_
          refine y_iload_n (pc2 := 60) rfl dX11_plugs_59 rfl ?_
          obtain ⟨g13, hf⟩ := y_g hf
          obtain ⟨h11, e12, hf⟩ := y_bdE hf
          refine y_iast (x := p3) (pc2 := 61) rfl dX11_plugs_60 g13.1 (y_ix_in g13.2) e12 ?_
          refine y_iload (pc2 := 63) rfl dX11_plugs_61 rfl ?_
          exact y_iretF hf dX11_plugs_63 rfl (by decide) (by decide)
        · replace hf := y_ie c17 hf
          refine y_bipush (v := (-2 : Int32)) (pc2 := 43) rfl dX11_plugs_41 (by decide) ?_
          exact y_iretF hf dX11_plugs_43 rfl (by decide) (by decide)
      · replace hf := y_ie c20 hf
        exact y_pk [] rfl (hj24 _ hf)
theorem dX11_apart_0 : decode cX11_apart 0 = .ok (.iload_n 1, 1) := by decide +kernel
theorem dX11_apart_1 : decode cX11_apart 1 = .ok (.iconst 1, 1) := by decide +kernel
theorem dX11_apart_2 : decode cX11_apart 2 = .ok (.iconst 4, 1) := by decide +kernel
theorem dX11_apart_3 : decode cX11_apart 3 = .ok (.invokestatic 56, 3) := by decide +kernel
theorem dX11_apart_6 : decode cX11_apart 6 = .ok (.ifCond .eq 22, 3) := by decide +kernel
theorem dX11_apart_9 : decode cX11_apart 9 = .ok (.iload_n 2, 1) := by decide +kernel
theorem dX11_apart_10 : decode cX11_apart 10 = .ok (.iconst 1, 1) := by decide +kernel
theorem dX11_apart_11 : decode cX11_apart 11 = .ok (.iconst 4, 1) := by decide +kernel
theorem dX11_apart_12 : decode cX11_apart 12 = .ok (.invokestatic 56, 3) := by decide +kernel
theorem dX11_apart_15 : decode cX11_apart 15 = .ok (.ifCond .eq 13, 3) := by decide +kernel
theorem dX11_apart_18 : decode cX11_apart 18 = .ok (.iload_n 3, 1) := by decide +kernel
theorem dX11_apart_19 : decode cX11_apart 19 = .ok (.iconst 0, 1) := by decide +kernel
theorem dX11_apart_20 : decode cX11_apart 20 = .ok (.bipush 6, 2) := by decide +kernel
theorem dX11_apart_22 : decode cX11_apart 22 = .ok (.invokestatic 56, 3) := by decide +kernel
theorem dX11_apart_25 : decode cX11_apart 25 = .ok (.ifCond .ne 6, 3) := by decide +kernel
theorem dX11_apart_28 : decode cX11_apart 28 = .ok (.bipush (-2), 2) := by decide +kernel
theorem dX11_apart_30 : decode cX11_apart 30 = .ok (.ireturn, 1) := by decide +kernel
theorem dX11_apart_31 : decode cX11_apart 31 = .ok (.aload_n 0, 1) := by decide +kernel
theorem dX11_apart_32 : decode cX11_apart 32 = .ok (.getfield 10, 3) := by decide +kernel
theorem dX11_apart_35 : decode cX11_apart 35 = .ok (.iload_n 1, 1) := by decide +kernel
theorem dX11_apart_36 : decode cX11_apart 36 = .ok (.iload_n 2, 1) := by decide +kernel
theorem dX11_apart_37 : decode cX11_apart 37 = .ok (.iload_n 3, 1) := by decide +kernel
theorem dX11_apart_38 : decode cX11_apart 38 = .ok (.invokevirtual 166, 3) := by decide +kernel
theorem dX11_apart_41 : decode cX11_apart 41 = .ok (.ireturn, 1) := by decide +kernel
def M_X11_apart : y_M := (yX11_apart, cX11_apart, 4, (Option.some Jvm.ClassFile.FieldType.int))
theorem n_X11_apart : y_N0 M_X11_apart 3 := ⟨(c_3 115 (by decide +kernel) rfl), (c_1 1 (by decide +kernel) rfl), ⟨by decide +kernel, by decide +kernel⟩, by decide +kernel⟩
theorem l_BoxYard_166 : y_lnk "BoxYard" 166 M_X10_tellApart := Or.inl (c_3 116 (by decide +kernel) rfl)
theorem i_X10_tellApart : Cond.instanceMethod (M_X10_tellApart).1 ∈ y_tb := (c_3 117 (by decide +kernel) rfl)
theorem e_X10_tellApart : Cond.selects (M_X10_tellApart).1.cls (M_X10_tellApart).1 (M_X10_tellApart).1 ∈ y_tb := (c_3 118 (by decide +kernel) rfl)
set_option maxRecDepth 100000 in
def f_X11_apart (p0 : Nat) (p1 : Int32) (p2 : Int32) (p3 : Int32) (h : y_H) : Option (Int32 × y_H) :=
  y_cl (f_X11_isWithin p1 1 4 h) (fun r1 h2 =>
  y_jn (fun (h4 : y_H) => (
      some ((-2 : Int32), h4) : Option (Int32 × y_H))) (fun j28 =>
  if r1 = true then
    y_cl (f_X11_isWithin p2 1 4 h2) (fun r5 h6 =>
    if r5 = true then
      y_cl (f_X11_isWithin p3 0 6 h6) (fun r8 h9 =>
      if r8 = true then
        if y_K h9 p0 = 12 then
        if y_K h9 (y_P h9 p0 0) = 11 then
        y_cl (f_X10_tellApart (y_P h9 p0 0) p1 p2 p3 h9) (fun r11 h12 =>
        some (r11, h12))
        else none
        else none
      else
        j28 h9)
    else
      j28 h6)
  else
    j28 h2))
abbrev rm_X11_apart : Room := { frames := 3, cells := 0, slots := 0, locals := 69 }
set_option maxRecDepth 100000 in
set_option maxHeartbeats 4000000 in
theorem k_X11_apart {l : Launch} {G : y_G} {p0 : Nat} {p1 : Int32} {p2 : Int32} {p3 : Int32} {h hz : y_H} {rz : Int32} (hf : f_X11_apart p0 p1 p2 p3 h = some (rz, hz)) : y_S l G M_X11_apart rm_X11_apart [y_p p0, .int p1, .int p2, .int p3] h (some (.int rz)) hz := by
  refine y_start (lv := [(0, y_p p0), (1, .int p1), (2, .int p2), (3, .int p3)]) (by decide) (by simp [lg_sl, y_p_cat, y_ci, y_cj, M_X11_apart]) (by simp [lv_args, y_p_cat, y_ci, y_cj]) (fun z ad0 => ?_)
  unfold f_X11_apart at hf
  refine y_iload_n (pc2 := 1) rfl dX11_apart_0 rfl ?_
  refine y_iconst (v := 1) (pc2 := 2) rfl dX11_apart_1 (by decide) ?_
  refine y_iconst (v := 4) (pc2 := 3) rfl dX11_apart_2 (by decide) ?_
  obtain ⟨r1, h2, c3, hf⟩ := y_clE hf
  refine y_callS (As := [.int p1, .int 1, .int 4]) (rm := rm_X11_isWithin) (cells := 0) (slots := 0) (pc2 := 6) rfl dX11_apart_3 n_X11_isWithin l_BoxYard_56 t_X11_isWithin rfl rfl (by decide) (by decide) (by decide) (k_X11_isWithin c3) ?_
  refine y_jnE hf (fun j => ∀ (h4 : y_H), j h4 = some (rz, hz) → y_V l G z rm_X11_apart M_X11_apart ad0 h (some (.int rz)) hz 28 [] [] h4 0 0) (fun h4 hf => ?_) (fun j28 hj28 hf => ?_)
  · refine y_bipush (v := (-2 : Int32)) (pc2 := 30) rfl dX11_apart_28 (by decide) ?_
    exact y_iretF hf dX11_apart_30 rfl (by decide) (by decide)
  · refine y_ifz_eq (tgt := 28) (pc2 := 9) rfl dX11_apart_6 (by decide) (fun c18 => ?_) (fun c18 => ?_)
    · replace hf := y_ie c18 hf
      exact y_pk [] rfl (hj28 _ hf)
    · replace hf := y_it c18 hf
      refine y_iload_n (pc2 := 10) rfl dX11_apart_9 rfl ?_
      refine y_iconst (v := 1) (pc2 := 11) rfl dX11_apart_10 (by decide) ?_
      refine y_iconst (v := 4) (pc2 := 12) rfl dX11_apart_11 (by decide) ?_
      obtain ⟨r5, h6, c7, hf⟩ := y_clE hf
      refine y_callS (As := [.int p2, .int 1, .int 4]) (rm := rm_X11_isWithin) (cells := 0) (slots := 0) (pc2 := 15) rfl dX11_apart_12 n_X11_isWithin l_BoxYard_56 t_X11_isWithin rfl rfl (by decide) (by decide) (by decide) (k_X11_isWithin c7) ?_
      refine y_ifz_eq (tgt := 28) (pc2 := 18) rfl dX11_apart_15 (by decide) (fun c17 => ?_) (fun c17 => ?_)
      · replace hf := y_ie c17 hf
        exact y_pk [] rfl (hj28 _ hf)
      · replace hf := y_it c17 hf
        refine y_iload_n (pc2 := 19) rfl dX11_apart_18 rfl ?_
        refine y_iconst (v := 0) (pc2 := 20) rfl dX11_apart_19 (by decide) ?_
        refine y_bipush (v := 6) (pc2 := 22) rfl dX11_apart_20 (by decide) ?_
        obtain ⟨r8, h9, c10, hf⟩ := y_clE hf
        refine y_callS (As := [.int p3, .int 0, .int 6]) (rm := rm_X11_isWithin) (cells := 0) (slots := 0) (pc2 := 25) rfl dX11_apart_22 n_X11_isWithin l_BoxYard_56 t_X11_isWithin rfl rfl (by decide) (by decide) (by decide) (k_X11_isWithin c10) ?_
        refine y_ifz_ne (tgt := 31) (pc2 := 28) rfl dX11_apart_25 (by decide) (fun c16 => ?_) (fun c16 => ?_)
        · replace hf := y_it c16 hf
          refine y_aload_n (x := p0) (pc2 := 32) rfl dX11_apart_31 rfl ?_
          obtain ⟨g15, hf⟩ := y_g hf
          refine y_getP (pc2 := 35) rfl dX11_apart_32 F_BoxYard_10 (by decide) rfl g15 ?_
          refine y_iload_n (pc2 := 36) rfl dX11_apart_35 rfl ?_
          refine y_iload_n (pc2 := 37) rfl dX11_apart_36 rfl ?_
          refine y_iload_n (pc2 := 38) rfl dX11_apart_37 rfl ?_
          obtain ⟨g14, hf⟩ := y_g hf
          obtain ⟨r11, h12, c13, hf⟩ := y_clE hf
          refine y_callV (As := [.int p1, .int p2, .int p3]) (rm := rm_X10_tellApart) (cells := 0) (slots := 0) (pc2 := 41) rfl dX11_apart_38 n_X10_tellApart l_BoxYard_166 i_X10_tellApart e_X10_tellApart (ci := 10) rfl rfl (by decide) g14 rfl rfl (by decide) (by decide) (by decide) (k_X10_tellApart c13) ?_
          exact y_iretF hf dX11_apart_41 rfl (by decide) (by decide)
        · replace hf := y_ie c16 hf
          exact y_pk [] rfl (hj28 _ hf)
theorem dX11_stack_0 : decode cX11_stack 0 = .ok (.aload_n 0, 1) := by decide +kernel
theorem dX11_stack_1 : decode cX11_stack 1 = .ok (.getfield 10, 3) := by decide +kernel
theorem dX11_stack_4 : decode cX11_stack 4 = .ok (.iload_n 1, 1) := by decide +kernel
theorem dX11_stack_5 : decode cX11_stack 5 = .ok (.invokevirtual 148, 3) := by decide +kernel
theorem dX11_stack_8 : decode cX11_stack 8 = .ok (.astore 4, 2) := by decide +kernel
theorem dX11_stack_10 : decode cX11_stack 10 = .ok (.aload 4, 2) := by decide +kernel
theorem dX11_stack_12 : decode cX11_stack 12 = .ok (.ifnull 29, 3) := by decide +kernel
theorem dX11_stack_15 : decode cX11_stack 15 = .ok (.aload 4, 2) := by decide +kernel
theorem dX11_stack_17 : decode cX11_stack 17 = .ok (.iload_n 2, 1) := by decide +kernel
theorem dX11_stack_18 : decode cX11_stack 18 = .ok (.invokevirtual 157, 3) := by decide +kernel
theorem dX11_stack_21 : decode cX11_stack 21 = .ok (.ifCond .eq 20, 3) := by decide +kernel
theorem dX11_stack_24 : decode cX11_stack 24 = .ok (.iload_n 3, 1) := by decide +kernel
theorem dX11_stack_25 : decode cX11_stack 25 = .ok (.iconst 0, 1) := by decide +kernel
theorem dX11_stack_26 : decode cX11_stack 26 = .ok (.aload 4, 2) := by decide +kernel
theorem dX11_stack_28 : decode cX11_stack 28 = .ok (.getfield 160, 3) := by decide +kernel
theorem dX11_stack_31 : decode cX11_stack 31 = .ok (.iload_n 2, 1) := by decide +kernel
theorem dX11_stack_32 : decode cX11_stack 32 = .ok (.iaload, 1) := by decide +kernel
theorem dX11_stack_33 : decode cX11_stack 33 = .ok (.iconst 1, 1) := by decide +kernel
theorem dX11_stack_34 : decode cX11_stack 34 = .ok (.isub, 1) := by decide +kernel
theorem dX11_stack_35 : decode cX11_stack 35 = .ok (.invokestatic 56, 3) := by decide +kernel
theorem dX11_stack_38 : decode cX11_stack 38 = .ok (.ifCond .ne 5, 3) := by decide +kernel
theorem dX11_stack_41 : decode cX11_stack 41 = .ok (.iconst (-1), 1) := by decide +kernel
theorem dX11_stack_42 : decode cX11_stack 42 = .ok (.ireturn, 1) := by decide +kernel
theorem dX11_stack_43 : decode cX11_stack 43 = .ok (.aload 4, 2) := by decide +kernel
theorem dX11_stack_45 : decode cX11_stack 45 = .ok (.iload_n 2, 1) := by decide +kernel
theorem dX11_stack_46 : decode cX11_stack 46 = .ok (.iload_n 3, 1) := by decide +kernel
theorem dX11_stack_47 : decode cX11_stack 47 = .ok (.invokevirtual 169, 3) := by decide +kernel
theorem dX11_stack_50 : decode cX11_stack 50 = .ok (.bipush (-9), 2) := by decide +kernel
theorem dX11_stack_52 : decode cX11_stack 52 = .ok (.invokestatic 173, 3) := by decide +kernel
theorem dX11_stack_55 : decode cX11_stack 55 = .ok (.ireturn, 1) := by decide +kernel
def M_X11_stack : y_M := (yX11_stack, cX11_stack, 5, (Option.some Jvm.ClassFile.FieldType.int))
theorem n_X11_stack : y_N0 M_X11_stack 3 := ⟨(c_3 127 (by decide +kernel) rfl), (c_1 1 (by decide +kernel) rfl), ⟨by decide +kernel, by decide +kernel⟩, by decide +kernel⟩
theorem l_BoxYard_169 : y_lnk "BoxYard" 169 M_X1_boxIn := Or.inl (c_3 128 (by decide +kernel) rfl)
theorem l_BoxYard_173 : y_lnk "BoxYard" 173 M_X11_numberOf := Or.inl (c_3 136 (by decide +kernel) rfl)
set_option maxRecDepth 100000 in
def f_X11_stack (p0 : Nat) (p1 : Int32) (p2 : Int32) (p3 : Int32) (h : y_H) : Option (Int32 × y_H) :=
  if y_K h p0 = 12 then
  if y_K h (y_P h p0 0) = 11 then
  y_cl (f_X10_bayAt (y_P h p0 0) p1 h) (fun r1 h2 =>
  y_jn (fun (h4 : y_H) => (
      some ((-1 : Int32), h4) : Option (Int32 × y_H))) (fun j41 =>
  if r1 = 0 then
    j41 h2
  else
    if y_K h2 r1 = 2 then
    y_cl (f_X1_hasStack r1 p2 h2) (fun r5 h6 =>
    if r5 = true then
      if y_K h6 r1 = 2 then
      if y_K h6 (y_P h6 r1 1) = 100 ∧ y_ix p2 (y_N h6 (y_P h6 r1 1)) = true then
      y_cl (f_X11_isWithin p3 0 ((y_I h6 (y_P h6 r1 1) (Int32.toNatClampNeg p2)) - 1) h6) (fun r8 h9 =>
      if r8 = true then
        if y_K h9 r1 = 2 then
        y_cl (f_X1_boxIn r1 p2 p3 h9) (fun r11 h12 =>
        y_cl (f_X11_numberOf r11 (-9 : Int32) h12) (fun r14 h15 =>
        some (r14, h15)))
        else none
      else
        j41 h9)
      else none
      else none
    else
      j41 h6)
    else none))
  else none
  else none
abbrev rm_X11_stack : Room := { frames := 2, cells := 0, slots := 0, locals := 44 }
set_option maxRecDepth 100000 in
set_option maxHeartbeats 4000000 in
theorem k_X11_stack {l : Launch} {G : y_G} {p0 : Nat} {p1 : Int32} {p2 : Int32} {p3 : Int32} {h hz : y_H} {rz : Int32} (hf : f_X11_stack p0 p1 p2 p3 h = some (rz, hz)) : y_S l G M_X11_stack rm_X11_stack [y_p p0, .int p1, .int p2, .int p3] h (some (.int rz)) hz := by
  refine y_start (lv := [(0, y_p p0), (1, .int p1), (2, .int p2), (3, .int p3)]) (by decide) (by simp [lg_sl, y_p_cat, y_ci, y_cj, M_X11_stack]) (by simp [lv_args, y_p_cat, y_ci, y_cj]) (fun z ad0 => ?_)
  unfold f_X11_stack at hf
  refine y_aload_n (x := p0) (pc2 := 1) rfl dX11_stack_0 rfl ?_
  obtain ⟨g25, hf⟩ := y_g hf
  refine y_getP (pc2 := 4) rfl dX11_stack_1 F_BoxYard_10 (by decide) rfl g25 ?_
  refine y_iload_n (pc2 := 5) rfl dX11_stack_4 rfl ?_
  obtain ⟨g24, hf⟩ := y_g hf
  obtain ⟨r1, h2, c3, hf⟩ := y_clE hf
  refine y_callV (As := [.int p1]) (rm := rm_X10_bayAt) (cells := 0) (slots := 0) (pc2 := 8) rfl dX11_stack_5 n_X10_bayAt l_BoxYard_148 i_X10_bayAt e_X10_bayAt (ci := 10) rfl rfl (by decide) g24 rfl rfl (by decide) (by decide) (by decide) (k_X10_bayAt c3) ?_
  refine y_astore (lv' := [(4, y_p r1), (0, y_p p0), (1, .int p1), (2, .int p2), (3, .int p3)]) (pc2 := 10) rfl dX11_stack_8 (by decide) rfl ?_
  refine y_aload (x := r1) (pc2 := 12) rfl dX11_stack_10 rfl ?_
  refine y_jnE hf (fun j => ∀ (h4 : y_H), j h4 = some (rz, hz) → y_V l G z rm_X11_stack M_X11_stack ad0 h (some (.int rz)) hz 41 [] [] h4 0 0) (fun h4 hf => ?_) (fun j41 hj41 hf => ?_)
  · refine y_iconst (v := (-1 : Int32)) (pc2 := 42) rfl dX11_stack_41 (by decide) ?_
    exact y_iretF hf dX11_stack_42 rfl (by decide) (by decide)
  · refine y_ifnull (tgt := 41) (pc2 := 15) rfl dX11_stack_12 (by decide) (fun c23 => ?_) (fun c23 => ?_)
    · replace hf := y_it c23 hf
      exact y_pk [] rfl (hj41 _ hf)
    · replace hf := y_ie c23 hf
      refine y_aload (x := r1) (pc2 := 17) rfl dX11_stack_15 rfl ?_
      refine y_iload_n (pc2 := 18) rfl dX11_stack_17 rfl ?_
      obtain ⟨g22, hf⟩ := y_g hf
      obtain ⟨r5, h6, c7, hf⟩ := y_clE hf
      refine y_callV (As := [.int p2]) (rm := rm_X1_hasStack) (cells := 0) (slots := 0) (pc2 := 21) rfl dX11_stack_18 n_X1_hasStack l_BoxYard_157 i_X1_hasStack e_X1_hasStack (ci := 1) rfl rfl (by decide) g22 rfl rfl (by decide) (by decide) (by decide) (k_X1_hasStack c7) ?_
      refine y_ifz_eq (tgt := 41) (pc2 := 24) rfl dX11_stack_21 (by decide) (fun c21 => ?_) (fun c21 => ?_)
      · replace hf := y_ie c21 hf
        exact y_pk [] rfl (hj41 _ hf)
      · replace hf := y_it c21 hf
        refine y_iload_n (pc2 := 25) rfl dX11_stack_24 rfl ?_
        refine y_iconst (v := 0) (pc2 := 26) rfl dX11_stack_25 (by decide) ?_
        refine y_aload (x := r1) (pc2 := 28) rfl dX11_stack_26 rfl ?_
        obtain ⟨g20, hf⟩ := y_g hf
        refine y_getP (pc2 := 31) rfl dX11_stack_28 F_BoxYard_160 (by decide) rfl g20 ?_
        refine y_iload_n (pc2 := 32) rfl dX11_stack_31 rfl ?_
        obtain ⟨g19, hf⟩ := y_g hf
        refine y_iald (pc2 := 33) rfl dX11_stack_32 g19.1 (y_ix_in g19.2) ?_
        refine y_iconst (v := 1) (pc2 := 34) rfl dX11_stack_33 (by decide) ?_
        refine y_isub (pc2 := 35) rfl dX11_stack_34 ?_
        obtain ⟨r8, h9, c10, hf⟩ := y_clE hf
        refine y_callS (As := [.int p3, .int 0, .int ((y_I h6 (y_P h6 r1 1) (Int32.toNatClampNeg p2)) - 1)]) (rm := rm_X11_isWithin) (cells := 0) (slots := 0) (pc2 := 38) rfl dX11_stack_35 n_X11_isWithin l_BoxYard_56 t_X11_isWithin rfl rfl (by decide) (by decide) (by decide) (k_X11_isWithin c10) ?_
        refine y_ifz_ne (tgt := 43) (pc2 := 41) rfl dX11_stack_38 (by decide) (fun c18 => ?_) (fun c18 => ?_)
        · replace hf := y_it c18 hf
          refine y_aload (x := r1) (pc2 := 45) rfl dX11_stack_43 rfl ?_
          refine y_iload_n (pc2 := 46) rfl dX11_stack_45 rfl ?_
          refine y_iload_n (pc2 := 47) rfl dX11_stack_46 rfl ?_
          obtain ⟨g17, hf⟩ := y_g hf
          obtain ⟨r11, h12, c13, hf⟩ := y_clE hf
          refine y_callV (As := [.int p2, .int p3]) (rm := rm_X1_boxIn) (cells := 0) (slots := 0) (pc2 := 50) rfl dX11_stack_47 n_X1_boxIn l_BoxYard_169 i_X1_boxIn e_X1_boxIn (ci := 1) rfl rfl (by decide) g17 rfl rfl (by decide) (by decide) (by decide) (k_X1_boxIn c13) ?_
          refine y_bipush (v := (-9 : Int32)) (pc2 := 52) rfl dX11_stack_50 (by decide) ?_
          obtain ⟨r14, h15, c16, hf⟩ := y_clE hf
          refine y_callS (As := [y_p r11, .int (-9 : Int32)]) (rm := rm_X11_numberOf) (cells := 0) (slots := 0) (pc2 := 55) rfl dX11_stack_52 n_X11_numberOf l_BoxYard_173 t_X11_numberOf rfl rfl (by decide) (by decide) (by decide) (k_X11_numberOf c16) ?_
          exact y_iretF hf dX11_stack_55 rfl (by decide) (by decide)
        · replace hf := y_ie c18 hf
          exact y_pk [] rfl (hj41 _ hf)
theorem dX11_share_0 : decode cX11_share 0 = .ok (.iload_n 1, 1) := by decide +kernel
theorem dX11_share_1 : decode cX11_share 1 = .ok (.iconst 0, 1) := by decide +kernel
theorem dX11_share_2 : decode cX11_share 2 = .ok (.bipush 9, 2) := by decide +kernel
theorem dX11_share_4 : decode cX11_share 4 = .ok (.invokestatic 56, 3) := by decide +kernel
theorem dX11_share_7 : decode cX11_share 7 = .ok (.ifCond .ne 5, 3) := by decide +kernel
theorem dX11_share_10 : decode cX11_share 10 = .ok (.iconst (-1), 1) := by decide +kernel
theorem dX11_share_11 : decode cX11_share 11 = .ok (.ireturn, 1) := by decide +kernel
theorem dX11_share_12 : decode cX11_share 12 = .ok (.aload_n 0, 1) := by decide +kernel
theorem dX11_share_13 : decode cX11_share 13 = .ok (.getfield 10, 3) := by decide +kernel
theorem dX11_share_16 : decode cX11_share 16 = .ok (.iload_n 1, 1) := by decide +kernel
theorem dX11_share_17 : decode cX11_share 17 = .ok (.invokevirtual 148, 3) := by decide +kernel
theorem dX11_share_20 : decode cX11_share 20 = .ok (.astore_n 2, 1) := by decide +kernel
theorem dX11_share_21 : decode cX11_share 21 = .ok (.aload_n 2, 1) := by decide +kernel
theorem dX11_share_22 : decode cX11_share 22 = .ok (.ifnonnull 10, 3) := by decide +kernel
theorem dX11_share_25 : decode cX11_share 25 = .ok (.aload_n 0, 1) := by decide +kernel
theorem dX11_share_26 : decode cX11_share 26 = .ok (.bipush (-61), 2) := by decide +kernel
theorem dX11_share_28 : decode cX11_share 28 = .ok (.invokevirtual 102, 3) := by decide +kernel
theorem dX11_share_31 : decode cX11_share 31 = .ok (.ireturn, 1) := by decide +kernel
theorem dX11_share_32 : decode cX11_share 32 = .ok (.aload_n 2, 1) := by decide +kernel
theorem dX11_share_33 : decode cX11_share 33 = .ok (.invokevirtual 177, 3) := by decide +kernel
theorem dX11_share_36 : decode cX11_share 36 = .ok (.istore_n 3, 1) := by decide +kernel
theorem dX11_share_37 : decode cX11_share 37 = .ok (.iload_n 3, 1) := by decide +kernel
theorem dX11_share_38 : decode cX11_share 38 = .ok (.ifCond .ne 10, 3) := by decide +kernel
theorem dX11_share_41 : decode cX11_share 41 = .ok (.aload_n 0, 1) := by decide +kernel
theorem dX11_share_42 : decode cX11_share 42 = .ok (.bipush (-66), 2) := by decide +kernel
theorem dX11_share_44 : decode cX11_share 44 = .ok (.invokevirtual 102, 3) := by decide +kernel
theorem dX11_share_47 : decode cX11_share 47 = .ok (.ireturn, 1) := by decide +kernel
theorem dX11_share_48 : decode cX11_share 48 = .ok (.aload_n 2, 1) := by decide +kernel
theorem dX11_share_49 : decode cX11_share 49 = .ok (.invokevirtual 180, 3) := by decide +kernel
theorem dX11_share_52 : decode cX11_share 52 = .ok (.iload_n 3, 1) := by decide +kernel
theorem dX11_share_53 : decode cX11_share 53 = .ok (.idiv, 1) := by decide +kernel
theorem dX11_share_54 : decode cX11_share 54 = .ok (.ireturn, 1) := by decide +kernel
def M_X11_share : y_M := (yX11_share, cX11_share, 4, (Option.some Jvm.ClassFile.FieldType.int))
theorem n_X11_share : y_N0 M_X11_share 1 := ⟨(c_3 142 (by decide +kernel) rfl), (c_1 1 (by decide +kernel) rfl), ⟨by decide +kernel, by decide +kernel⟩, by decide +kernel⟩
theorem l_BoxYard_177 : y_lnk "BoxYard" 177 M_X1_boxes := Or.inl (c_3 143 (by decide +kernel) rfl)
theorem l_BoxYard_180 : y_lnk "BoxYard" 180 M_X1_weight := Or.inl (c_3 147 (by decide +kernel) rfl)
theorem i_X1_weight : Cond.instanceMethod (M_X1_weight).1 ∈ y_tb := (c_3 148 (by decide +kernel) rfl)
theorem e_X1_weight : Cond.selects (M_X1_weight).1.cls (M_X1_weight).1 (M_X1_weight).1 ∈ y_tb := (c_3 149 (by decide +kernel) rfl)
set_option maxRecDepth 100000 in
def f_X11_share (p0 : Nat) (p1 : Int32) (h : y_H) : Option (Int32 × y_H) :=
  y_cl (f_X11_isWithin p1 0 9 h) (fun r1 h2 =>
  if r1 = true then
    if y_K h2 p0 = 12 then
    if y_K h2 (y_P h2 p0 0) = 11 then
    y_cl (f_X10_bayAt (y_P h2 p0 0) p1 h2) (fun r4 h5 =>
    if r4 = 0 then
      if y_K h5 p0 = 12 then
      y_cl (f_X11_counted p0 (-61 : Int32) h5) (fun r21 h22 =>
      some (r21, h22))
      else none
    else
      if y_K h5 r4 = 2 then
      y_cl (f_X1_boxes r4 h5) (fun r7 h8 =>
      if r7 = 0 then
        if y_K h8 p0 = 12 then
        y_cl (f_X11_counted p0 (-66 : Int32) h8) (fun r15 h16 =>
        some (r15, h16))
        else none
      else
        if y_K h8 r4 = 2 then
        y_cl (f_X1_weight r4 h8) (fun r10 h11 =>
        if ¬ r7 = 0 then
        some (r10 / r7, h11)
        else none)
        else none)
      else none)
    else none
    else none
  else
    some ((-1 : Int32), h2))
abbrev rm_X11_share : Room := { frames := 2, cells := 0, slots := 0, locals := 43 }
set_option maxRecDepth 100000 in
set_option maxHeartbeats 4000000 in
theorem k_X11_share {l : Launch} {G : y_G} {p0 : Nat} {p1 : Int32} {h hz : y_H} {rz : Int32} (hf : f_X11_share p0 p1 h = some (rz, hz)) : y_S l G M_X11_share rm_X11_share [y_p p0, .int p1] h (some (.int rz)) hz := by
  refine y_start (lv := [(0, y_p p0), (1, .int p1)]) (by decide) (by simp [lg_sl, y_p_cat, y_ci, y_cj, M_X11_share]) (by simp [lv_args, y_p_cat, y_ci, y_cj]) (fun z ad0 => ?_)
  unfold f_X11_share at hf
  refine y_iload_n (pc2 := 1) rfl dX11_share_0 rfl ?_
  refine y_iconst (v := 0) (pc2 := 2) rfl dX11_share_1 (by decide) ?_
  refine y_bipush (v := 9) (pc2 := 4) rfl dX11_share_2 (by decide) ?_
  obtain ⟨r1, h2, c3, hf⟩ := y_clE hf
  refine y_callS (As := [.int p1, .int 0, .int 9]) (rm := rm_X11_isWithin) (cells := 0) (slots := 0) (pc2 := 7) rfl dX11_share_4 n_X11_isWithin l_BoxYard_56 t_X11_isWithin rfl rfl (by decide) (by decide) (by decide) (k_X11_isWithin c3) ?_
  refine y_ifz_ne (tgt := 12) (pc2 := 10) rfl dX11_share_7 (by decide) (fun c28 => ?_) (fun c28 => ?_)
  · replace hf := y_it c28 hf
    refine y_aload_n (x := p0) (pc2 := 13) rfl dX11_share_12 rfl ?_
    obtain ⟨g27, hf⟩ := y_g hf
    refine y_getP (pc2 := 16) rfl dX11_share_13 F_BoxYard_10 (by decide) rfl g27 ?_
    refine y_iload_n (pc2 := 17) rfl dX11_share_16 rfl ?_
    obtain ⟨g26, hf⟩ := y_g hf
    obtain ⟨r4, h5, c6, hf⟩ := y_clE hf
    refine y_callV (As := [.int p1]) (rm := rm_X10_bayAt) (cells := 0) (slots := 0) (pc2 := 20) rfl dX11_share_17 n_X10_bayAt l_BoxYard_148 i_X10_bayAt e_X10_bayAt (ci := 10) rfl rfl (by decide) g26 rfl rfl (by decide) (by decide) (by decide) (k_X10_bayAt c6) ?_
    refine y_astore_n (lv' := [(2, y_p r4), (0, y_p p0), (1, .int p1)]) (pc2 := 21) rfl dX11_share_20 (by decide) rfl ?_
    refine y_aload_n (x := r4) (pc2 := 22) rfl dX11_share_21 rfl ?_
    refine y_ifnonnull (tgt := 32) (pc2 := 25) rfl dX11_share_22 (by decide) (fun c25 => ?_) (fun c25 => ?_)
    · replace hf := y_ie c25 hf
      refine y_aload_n (x := r4) (pc2 := 33) rfl dX11_share_32 rfl ?_
      obtain ⟨g20, hf⟩ := y_g hf
      obtain ⟨r7, h8, c9, hf⟩ := y_clE hf
      refine y_callV (As := []) (rm := rm_X1_boxes) (cells := 0) (slots := 0) (pc2 := 36) rfl dX11_share_33 n_X1_boxes l_BoxYard_177 i_X1_boxes e_X1_boxes (ci := 1) rfl rfl (by decide) g20 rfl rfl (by decide) (by decide) (by decide) (k_X1_boxes c9) ?_
      refine y_istore_n (lv' := [(3, .int r7), (2, y_p r4), (0, y_p p0), (1, .int p1)]) (pc2 := 37) rfl dX11_share_36 (by decide) (by show y_st1 _ 3 _ = _; simp [y_st1, y_p_cat, y_ci, y_cj]) ?_
      refine y_iload_n (pc2 := 38) rfl dX11_share_37 rfl ?_
      refine y_if_ne (tgt := 48) (pc2 := 41) rfl dX11_share_38 (by decide) (fun c19 => ?_) (fun c19 => ?_)
      · replace hf := y_ie c19 hf
        refine y_aload_n (x := r4) (pc2 := 49) rfl dX11_share_48 rfl ?_
        obtain ⟨g14, hf⟩ := y_g hf
        obtain ⟨r10, h11, c12, hf⟩ := y_clE hf
        refine y_callV (As := []) (rm := rm_X1_weight) (cells := 0) (slots := 0) (pc2 := 52) rfl dX11_share_49 n_X1_weight l_BoxYard_180 i_X1_weight e_X1_weight (ci := 1) rfl rfl (by decide) g14 rfl rfl (by decide) (by decide) (by decide) (k_X1_weight c12) ?_
        refine y_iload_n (pc2 := 53) rfl dX11_share_52 rfl ?_
        obtain ⟨g13, hf⟩ := y_g hf
        refine y_idiv (pc2 := 54) rfl dX11_share_53 g13 ?_
        exact y_iretF hf dX11_share_54 rfl (by decide) (by decide)
      · replace hf := y_it c19 hf
        refine y_aload_n (x := p0) (pc2 := 42) rfl dX11_share_41 rfl ?_
        refine y_bipush (v := (-66 : Int32)) (pc2 := 44) rfl dX11_share_42 (by decide) ?_
        obtain ⟨g18, hf⟩ := y_g hf
        obtain ⟨r15, h16, c17, hf⟩ := y_clE hf
        refine y_callV (As := [.int (-66 : Int32)]) (rm := rm_X11_counted) (cells := 0) (slots := 0) (pc2 := 47) rfl dX11_share_44 n_X11_counted l_BoxYard_102 i_X11_counted e_X11_counted (ci := 11) rfl rfl (by decide) g18 rfl rfl (by decide) (by decide) (by decide) (k_X11_counted c17) ?_
        exact y_iretF hf dX11_share_47 rfl (by decide) (by decide)
    · replace hf := y_it c25 hf
      refine y_aload_n (x := p0) (pc2 := 26) rfl dX11_share_25 rfl ?_
      refine y_bipush (v := (-61 : Int32)) (pc2 := 28) rfl dX11_share_26 (by decide) ?_
      obtain ⟨g24, hf⟩ := y_g hf
      obtain ⟨r21, h22, c23, hf⟩ := y_clE hf
      refine y_callV (As := [.int (-61 : Int32)]) (rm := rm_X11_counted) (cells := 0) (slots := 0) (pc2 := 31) rfl dX11_share_28 n_X11_counted l_BoxYard_102 i_X11_counted e_X11_counted (ci := 11) rfl rfl (by decide) g24 rfl rfl (by decide) (by decide) (by decide) (k_X11_counted c23) ?_
      exact y_iretF hf dX11_share_31 rfl (by decide) (by decide)
  · replace hf := y_ie c28 hf
    refine y_iconst (v := (-1 : Int32)) (pc2 := 11) rfl dX11_share_10 (by decide) ?_
    exact y_iretF hf dX11_share_11 rfl (by decide) (by decide)
theorem dX11_rail_0 : decode cX11_rail 0 = .ok (.iload_n 1, 1) := by decide +kernel
theorem dX11_rail_1 : decode cX11_rail 1 = .ok (.iconst 0, 1) := by decide +kernel
theorem dX11_rail_2 : decode cX11_rail 2 = .ok (.iconst 2, 1) := by decide +kernel
theorem dX11_rail_3 : decode cX11_rail 3 = .ok (.invokestatic 56, 3) := by decide +kernel
theorem dX11_rail_6 : decode cX11_rail 6 = .ok (.ifCond .ne 5, 3) := by decide +kernel
theorem dX11_rail_9 : decode cX11_rail 9 = .ok (.iconst (-1), 1) := by decide +kernel
theorem dX11_rail_10 : decode cX11_rail 10 = .ok (.ireturn, 1) := by decide +kernel
theorem dX11_rail_11 : decode cX11_rail 11 = .ok (.iload_n 2, 1) := by decide +kernel
theorem dX11_rail_12 : decode cX11_rail 12 = .ok (.iconst 1, 1) := by decide +kernel
theorem dX11_rail_13 : decode cX11_rail 13 = .ok (.iconst 4, 1) := by decide +kernel
theorem dX11_rail_14 : decode cX11_rail 14 = .ok (.invokestatic 56, 3) := by decide +kernel
theorem dX11_rail_17 : decode cX11_rail 17 = .ok (.ifCond .ne 6, 3) := by decide +kernel
theorem dX11_rail_20 : decode cX11_rail 20 = .ok (.bipush (-2), 2) := by decide +kernel
theorem dX11_rail_22 : decode cX11_rail 22 = .ok (.ireturn, 1) := by decide +kernel
theorem dX11_rail_23 : decode cX11_rail 23 = .ok (.aload_n 0, 1) := by decide +kernel
theorem dX11_rail_24 : decode cX11_rail 24 = .ok (.getfield 10, 3) := by decide +kernel
theorem dX11_rail_27 : decode cX11_rail 27 = .ok (.iload_n 1, 1) := by decide +kernel
theorem dX11_rail_28 : decode cX11_rail 28 = .ok (.iload_n 2, 1) := by decide +kernel
theorem dX11_rail_29 : decode cX11_rail 29 = .ok (.invokevirtual 183, 3) := by decide +kernel
theorem dX11_rail_32 : decode cX11_rail 32 = .ok (.ifCond .ne 6, 3) := by decide +kernel
theorem dX11_rail_35 : decode cX11_rail 35 = .ok (.bipush (-47), 2) := by decide +kernel
theorem dX11_rail_37 : decode cX11_rail 37 = .ok (.ireturn, 1) := by decide +kernel
theorem dX11_rail_38 : decode cX11_rail 38 = .ok (.aload_n 0, 1) := by decide +kernel
theorem dX11_rail_39 : decode cX11_rail 39 = .ok (.getfield 19, 3) := by decide +kernel
theorem dX11_rail_42 : decode cX11_rail 42 = .ok (.invokevirtual 152, 3) := by decide +kernel
theorem dX11_rail_45 : decode cX11_rail 45 = .ok (.aload_n 0, 1) := by decide +kernel
theorem dX11_rail_46 : decode cX11_rail 46 = .ok (.getfield 10, 3) := by decide +kernel
theorem dX11_rail_49 : decode cX11_rail 49 = .ok (.getfield 187, 3) := by decide +kernel
theorem dX11_rail_52 : decode cX11_rail 52 = .ok (.iload_n 1, 1) := by decide +kernel
theorem dX11_rail_53 : decode cX11_rail 53 = .ok (.iaload, 1) := by decide +kernel
theorem dX11_rail_54 : decode cX11_rail 54 = .ok (.istore_n 3, 1) := by decide +kernel
theorem dX11_rail_55 : decode cX11_rail 55 = .ok (.aload_n 0, 1) := by decide +kernel
theorem dX11_rail_56 : decode cX11_rail 56 = .ok (.getfield 10, 3) := by decide +kernel
theorem dX11_rail_59 : decode cX11_rail 59 = .ok (.getfield 187, 3) := by decide +kernel
theorem dX11_rail_62 : decode cX11_rail 62 = .ok (.iload_n 1, 1) := by decide +kernel
theorem dX11_rail_63 : decode cX11_rail 63 = .ok (.iload_n 2, 1) := by decide +kernel
theorem dX11_rail_64 : decode cX11_rail 64 = .ok (.iastore, 1) := by decide +kernel
theorem dX11_rail_65 : decode cX11_rail 65 = .ok (.iload_n 3, 1) := by decide +kernel
theorem dX11_rail_66 : decode cX11_rail 66 = .ok (.ireturn, 1) := by decide +kernel
def M_X11_rail : y_M := (yX11_rail, cX11_rail, 4, (Option.some Jvm.ClassFile.FieldType.int))
theorem n_X11_rail : y_N0 M_X11_rail 2 := ⟨(c_3 155 (by decide +kernel) rfl), (c_1 1 (by decide +kernel) rfl), ⟨by decide +kernel, by decide +kernel⟩, by decide +kernel⟩
theorem l_BoxYard_183 : y_lnk "BoxYard" 183 M_X10_takesGap := Or.inl (c_3 156 (by decide +kernel) rfl)
theorem i_X10_takesGap : Cond.instanceMethod (M_X10_takesGap).1 ∈ y_tb := (c_3 157 (by decide +kernel) rfl)
theorem e_X10_takesGap : Cond.selects (M_X10_takesGap).1.cls (M_X10_takesGap).1 (M_X10_takesGap).1 ∈ y_tb := (c_3 158 (by decide +kernel) rfl)
theorem F_BoxYard_19 : y_F "BoxYard" 19 11 1 := ⟨_, _, _, rfl, by decide, Or.inl (c_2 72 (by decide +kernel) rfl)⟩
theorem l_BoxYard_152 : y_lnk "BoxYard" 152 M_X5_begin := Or.inl (c_3 44 (by decide +kernel) rfl)
theorem i_X5_begin : Cond.instanceMethod (M_X5_begin).1 ∈ y_tb := (c_3 45 (by decide +kernel) rfl)
theorem e_X5_begin : Cond.selects (M_X5_begin).1.cls (M_X5_begin).1 (M_X5_begin).1 ∈ y_tb := (c_3 46 (by decide +kernel) rfl)
theorem F_BoxYard_187 : y_F "BoxYard" 187 10 7 := ⟨_, _, _, rfl, by decide, Or.inr ⟨"BoxYard", (c_1 71 (by decide +kernel) rfl)⟩⟩
set_option maxRecDepth 100000 in
def f_X11_rail (p0 : Nat) (p1 : Int32) (p2 : Int32) (h : y_H) : Option (Int32 × y_H) :=
  y_cl (f_X11_isWithin p1 0 2 h) (fun r1 h2 =>
  if r1 = true then
    y_cl (f_X11_isWithin p2 1 4 h2) (fun r4 h5 =>
    if r4 = true then
      if y_K h5 p0 = 12 then
      if y_K h5 (y_P h5 p0 0) = 11 then
      y_cl (f_X10_takesGap (y_P h5 p0 0) p1 p2 h5) (fun r7 h8 =>
      if r7 = true then
        if y_K h8 p0 = 12 then
        if y_K h8 (y_P h8 p0 1) = 6 then
        y_cl (f_X5_begin (y_P h8 p0 1) h8) (fun _ h10 =>
        if y_K h10 p0 = 12 then
        if y_K h10 (y_P h10 p0 0) = 11 then
        if y_K h10 (y_P h10 (y_P h10 p0 0) 7) = 100 ∧ y_ix p1 (y_N h10 (y_P h10 (y_P h10 p0 0) 7)) = true then
        if y_K h10 p0 = 12 then
        if y_K h10 (y_P h10 p0 0) = 11 then
        if y_K h10 (y_P h10 (y_P h10 p0 0) 7) = 100 ∧ y_ix p1 (y_N h10 (y_P h10 (y_P h10 p0 0) 7)) = true then
        y_bd (s_I h10 (y_P h10 (y_P h10 p0 0) 7) (Int32.toNatClampNeg p1) p2) (fun h12 =>
        some (y_I h10 (y_P h10 (y_P h10 p0 0) 7) (Int32.toNatClampNeg p1), h12))
        else none
        else none
        else none
        else none
        else none
        else none)
        else none
        else none
      else
        some ((-47 : Int32), h8))
      else none
      else none
    else
      some ((-2 : Int32), h5))
  else
    some ((-1 : Int32), h2))
abbrev rm_X11_rail : Room := { frames := 3, cells := 0, slots := 0, locals := 68 }
set_option maxRecDepth 100000 in
set_option maxHeartbeats 4000000 in
theorem k_X11_rail {l : Launch} {G : y_G} {p0 : Nat} {p1 : Int32} {p2 : Int32} {h hz : y_H} {rz : Int32} (hf : f_X11_rail p0 p1 p2 h = some (rz, hz)) : y_S l G M_X11_rail rm_X11_rail [y_p p0, .int p1, .int p2] h (some (.int rz)) hz := by
  refine y_start (lv := [(0, y_p p0), (1, .int p1), (2, .int p2)]) (by decide) (by simp [lg_sl, y_p_cat, y_ci, y_cj, M_X11_rail]) (by simp [lv_args, y_p_cat, y_ci, y_cj]) (fun z ad0 => ?_)
  unfold f_X11_rail at hf
  refine y_iload_n (pc2 := 1) rfl dX11_rail_0 rfl ?_
  refine y_iconst (v := 0) (pc2 := 2) rfl dX11_rail_1 (by decide) ?_
  refine y_iconst (v := 2) (pc2 := 3) rfl dX11_rail_2 (by decide) ?_
  obtain ⟨r1, h2, c3, hf⟩ := y_clE hf
  refine y_callS (As := [.int p1, .int 0, .int 2]) (rm := rm_X11_isWithin) (cells := 0) (slots := 0) (pc2 := 6) rfl dX11_rail_3 n_X11_isWithin l_BoxYard_56 t_X11_isWithin rfl rfl (by decide) (by decide) (by decide) (k_X11_isWithin c3) ?_
  refine y_ifz_ne (tgt := 11) (pc2 := 9) rfl dX11_rail_6 (by decide) (fun c26 => ?_) (fun c26 => ?_)
  · replace hf := y_it c26 hf
    refine y_iload_n (pc2 := 12) rfl dX11_rail_11 rfl ?_
    refine y_iconst (v := 1) (pc2 := 13) rfl dX11_rail_12 (by decide) ?_
    refine y_iconst (v := 4) (pc2 := 14) rfl dX11_rail_13 (by decide) ?_
    obtain ⟨r4, h5, c6, hf⟩ := y_clE hf
    refine y_callS (As := [.int p2, .int 1, .int 4]) (rm := rm_X11_isWithin) (cells := 0) (slots := 0) (pc2 := 17) rfl dX11_rail_14 n_X11_isWithin l_BoxYard_56 t_X11_isWithin rfl rfl (by decide) (by decide) (by decide) (k_X11_isWithin c6) ?_
    refine y_ifz_ne (tgt := 23) (pc2 := 20) rfl dX11_rail_17 (by decide) (fun c25 => ?_) (fun c25 => ?_)
    · replace hf := y_it c25 hf
      refine y_aload_n (x := p0) (pc2 := 24) rfl dX11_rail_23 rfl ?_
      obtain ⟨g24, hf⟩ := y_g hf
      refine y_getP (pc2 := 27) rfl dX11_rail_24 F_BoxYard_10 (by decide) rfl g24 ?_
      refine y_iload_n (pc2 := 28) rfl dX11_rail_27 rfl ?_
      refine y_iload_n (pc2 := 29) rfl dX11_rail_28 rfl ?_
      obtain ⟨g23, hf⟩ := y_g hf
      obtain ⟨r7, h8, c9, hf⟩ := y_clE hf
      refine y_callV (As := [.int p1, .int p2]) (rm := rm_X10_takesGap) (cells := 0) (slots := 0) (pc2 := 32) rfl dX11_rail_29 n_X10_takesGap l_BoxYard_183 i_X10_takesGap e_X10_takesGap (ci := 10) rfl rfl (by decide) g23 rfl rfl (by decide) (by decide) (by decide) (k_X10_takesGap c9) ?_
      refine y_ifz_ne (tgt := 38) (pc2 := 35) rfl dX11_rail_32 (by decide) (fun c22 => ?_) (fun c22 => ?_)
      · replace hf := y_it c22 hf
        refine y_aload_n (x := p0) (pc2 := 39) rfl dX11_rail_38 rfl ?_
        obtain ⟨g21, hf⟩ := y_g hf
        refine y_getP (pc2 := 42) rfl dX11_rail_39 F_BoxYard_19 (by decide) rfl g21 ?_
        obtain ⟨g20, hf⟩ := y_g hf
        obtain ⟨r_, h10, c11, hf⟩ := y_clE hf
        refine y_callV (As := []) (rm := rm_X5_begin) (cells := 0) (slots := 0) (pc2 := 45) rfl dX11_rail_42 n_X5_begin l_BoxYard_152 i_X5_begin e_X5_begin (ci := 5) rfl rfl (by decide) g20 rfl rfl (by decide) (by decide) (by decide) (k_X5_begin c11) ?_
        refine y_aload_n (x := p0) (pc2 := 46) rfl dX11_rail_45 rfl ?_
        obtain ⟨g19, hf⟩ := y_g hf
        refine y_getP (pc2 := 49) rfl dX11_rail_46 F_BoxYard_10 (by decide) rfl g19 ?_
        obtain ⟨g18, hf⟩ := y_g hf
        refine y_getP (pc2 := 52) rfl dX11_rail_49 F_BoxYard_187 (by decide) rfl g18 ?_
        refine y_iload_n (pc2 := 53) rfl dX11_rail_52 rfl ?_
        obtain ⟨g17, hf⟩ := y_g hf
        refine y_iald (pc2 := 54) rfl dX11_rail_53 g17.1 (y_ix_in g17.2) ?_
        refine y_istore_n (lv' := [(3, .int (y_I h10 (y_P h10 (y_P h10 p0 0) 7) (Int32.toNatClampNeg p1))), (0, y_p p0), (1, .int p1), (2, .int p2)]) (pc2 := 55) rfl dX11_rail_54 (by decide) rfl ?_
        refine y_aload_n (x := p0) (pc2 := 56) rfl dX11_rail_55 rfl ?_
        obtain ⟨g16, hf⟩ := y_g hf
        refine y_getP (pc2 := 59) rfl dX11_rail_56 F_BoxYard_10 (by decide) rfl g16 ?_
        obtain ⟨g15, hf⟩ := y_g hf
        refine y_getP (pc2 := 62) rfl dX11_rail_59 F_BoxYard_187 (by decide) rfl g15 ?_
        refine y_iload_n (pc2 := 63) rfl dX11_rail_62 rfl ?_
        refine y_iload_n (pc2 := 64) rfl dX11_rail_63 rfl ?_
        obtain ⟨g14, hf⟩ := y_g hf
        obtain ⟨h12, e13, hf⟩ := y_bdE hf
        refine y_iast (x := p2) (pc2 := 65) rfl dX11_rail_64 g14.1 (y_ix_in g14.2) e13 ?_
        refine y_iload_n (pc2 := 66) rfl dX11_rail_65 rfl ?_
        exact y_iretF hf dX11_rail_66 rfl (by decide) (by decide)
      · replace hf := y_ie c22 hf
        refine y_bipush (v := (-47 : Int32)) (pc2 := 37) rfl dX11_rail_35 (by decide) ?_
        exact y_iretF hf dX11_rail_37 rfl (by decide) (by decide)
    · replace hf := y_ie c25 hf
      refine y_bipush (v := (-2 : Int32)) (pc2 := 22) rfl dX11_rail_20 (by decide) ?_
      exact y_iretF hf dX11_rail_22 rfl (by decide) (by decide)
  · replace hf := y_ie c26 hf
    refine y_iconst (v := (-1 : Int32)) (pc2 := 10) rfl dX11_rail_9 (by decide) ?_
    exact y_iretF hf dX11_rail_10 rfl (by decide) (by decide)
theorem dX11_wind_0 : decode cX11_wind 0 = .ok (.iload_n 1, 1) := by decide +kernel
theorem dX11_wind_1 : decode cX11_wind 1 = .ok (.iconst 0, 1) := by decide +kernel
theorem dX11_wind_2 : decode cX11_wind 2 = .ok (.bipush 60, 2) := by decide +kernel
theorem dX11_wind_4 : decode cX11_wind 4 = .ok (.invokestatic 56, 3) := by decide +kernel
theorem dX11_wind_7 : decode cX11_wind 7 = .ok (.ifCond .ne 6, 3) := by decide +kernel
theorem dX11_wind_10 : decode cX11_wind 10 = .ok (.bipush (-2), 2) := by decide +kernel
theorem dX11_wind_12 : decode cX11_wind 12 = .ok (.ireturn, 1) := by decide +kernel
theorem dX11_wind_13 : decode cX11_wind 13 = .ok (.aload_n 0, 1) := by decide +kernel
theorem dX11_wind_14 : decode cX11_wind 14 = .ok (.getfield 10, 3) := by decide +kernel
theorem dX11_wind_17 : decode cX11_wind 17 = .ok (.getfield 206, 3) := by decide +kernel
theorem dX11_wind_20 : decode cX11_wind 20 = .ok (.istore_n 2, 1) := by decide +kernel
theorem dX11_wind_21 : decode cX11_wind 21 = .ok (.aload_n 0, 1) := by decide +kernel
theorem dX11_wind_22 : decode cX11_wind 22 = .ok (.getfield 10, 3) := by decide +kernel
theorem dX11_wind_25 : decode cX11_wind 25 = .ok (.iload_n 1, 1) := by decide +kernel
theorem dX11_wind_26 : decode cX11_wind 26 = .ok (.putfield 206, 3) := by decide +kernel
theorem dX11_wind_29 : decode cX11_wind 29 = .ok (.iload_n 2, 1) := by decide +kernel
theorem dX11_wind_30 : decode cX11_wind 30 = .ok (.ireturn, 1) := by decide +kernel
def M_X11_wind : y_M := (yX11_wind, cX11_wind, 3, (Option.some Jvm.ClassFile.FieldType.int))
theorem n_X11_wind : y_N0 M_X11_wind 1 := ⟨(c_3 233 (by decide +kernel) rfl), (c_1 1 (by decide +kernel) rfl), ⟨by decide +kernel, by decide +kernel⟩, by decide +kernel⟩
theorem F_BoxYard_206 : y_F "BoxYard" 206 10 9 := ⟨_, _, _, rfl, by decide, Or.inr ⟨"BoxYard", (c_1 74 (by decide +kernel) rfl)⟩⟩
theorem Fp_BoxYard_206 {nm : String} : y_Fp "BoxYard" nm 206 10 9 := ⟨_, _, _, rfl, by decide, Or.inl ⟨rfl, Or.inr ⟨"BoxYard", (c_1 74 (by decide +kernel) rfl)⟩⟩⟩
set_option maxRecDepth 100000 in
def f_X11_wind (p0 : Nat) (p1 : Int32) (h : y_H) : Option (Int32 × y_H) :=
  y_cl (f_X11_isWithin p1 0 60 h) (fun r1 h2 =>
  if r1 = true then
    if y_K h2 p0 = 12 then
    if y_K h2 (y_P h2 p0 0) = 11 then
    if y_K h2 p0 = 12 then
    if y_K h2 (y_P h2 p0 0) = 11 then
    y_bd (s_I h2 (y_P h2 p0 0) 9 p1) (fun h4 =>
    some (y_I h2 (y_P h2 p0 0) 9, h4))
    else none
    else none
    else none
    else none
  else
    some ((-2 : Int32), h2))
abbrev rm_X11_wind : Room := { frames := 1, cells := 0, slots := 0, locals := 22 }
set_option maxRecDepth 100000 in
set_option maxHeartbeats 4000000 in
theorem k_X11_wind {l : Launch} {G : y_G} {p0 : Nat} {p1 : Int32} {h hz : y_H} {rz : Int32} (hf : f_X11_wind p0 p1 h = some (rz, hz)) : y_S l G M_X11_wind rm_X11_wind [y_p p0, .int p1] h (some (.int rz)) hz := by
  refine y_start (lv := [(0, y_p p0), (1, .int p1)]) (by decide) (by simp [lg_sl, y_p_cat, y_ci, y_cj, M_X11_wind]) (by simp [lv_args, y_p_cat, y_ci, y_cj]) (fun z ad0 => ?_)
  unfold f_X11_wind at hf
  refine y_iload_n (pc2 := 1) rfl dX11_wind_0 rfl ?_
  refine y_iconst (v := 0) (pc2 := 2) rfl dX11_wind_1 (by decide) ?_
  refine y_bipush (v := 60) (pc2 := 4) rfl dX11_wind_2 (by decide) ?_
  obtain ⟨r1, h2, c3, hf⟩ := y_clE hf
  refine y_callS (As := [.int p1, .int 0, .int 60]) (rm := rm_X11_isWithin) (cells := 0) (slots := 0) (pc2 := 7) rfl dX11_wind_4 n_X11_isWithin l_BoxYard_56 t_X11_isWithin rfl rfl (by decide) (by decide) (by decide) (k_X11_isWithin c3) ?_
  refine y_ifz_ne (tgt := 13) (pc2 := 10) rfl dX11_wind_7 (by decide) (fun c10 => ?_) (fun c10 => ?_)
  · replace hf := y_it c10 hf
    refine y_aload_n (x := p0) (pc2 := 14) rfl dX11_wind_13 rfl ?_
    obtain ⟨g9, hf⟩ := y_g hf
    refine y_getP (pc2 := 17) rfl dX11_wind_14 F_BoxYard_10 (by decide) rfl g9 ?_
    obtain ⟨g8, hf⟩ := y_g hf
    refine y_getI (pc2 := 20) rfl dX11_wind_17 F_BoxYard_206 (by decide) rfl g8 ?_
    refine y_istore_n (lv' := [(2, .int (y_I h2 (y_P h2 p0 0) 9)), (0, y_p p0), (1, .int p1)]) (pc2 := 21) rfl dX11_wind_20 (by decide) rfl ?_
    refine y_aload_n (x := p0) (pc2 := 22) rfl dX11_wind_21 rfl ?_
    obtain ⟨g7, hf⟩ := y_g hf
    refine y_getP (pc2 := 25) rfl dX11_wind_22 F_BoxYard_10 (by decide) rfl g7 ?_
    refine y_iload_n (pc2 := 26) rfl dX11_wind_25 rfl ?_
    obtain ⟨g6, hf⟩ := y_g hf
    obtain ⟨h4, e5, hf⟩ := y_bdE hf
    refine y_putI (x := p1) (pc2 := 29) rfl dX11_wind_26 Fp_BoxYard_206 (by decide) rfl g6 e5 ?_
    refine y_iload_n (pc2 := 30) rfl dX11_wind_29 rfl ?_
    exact y_iretF hf dX11_wind_30 rfl (by decide) (by decide)
  · replace hf := y_ie c10 hf
    refine y_bipush (v := (-2 : Int32)) (pc2 := 12) rfl dX11_wind_10 (by decide) ?_
    exact y_iretF hf dX11_wind_12 rfl (by decide) (by decide)
theorem dX11_firstBerth_0 : decode cX11_firstBerth 0 = .ok (.aload_n 1, 1) := by decide +kernel
theorem dX11_firstBerth_1 : decode cX11_firstBerth 1 = .ok (.getfield 474, 3) := by decide +kernel
theorem dX11_firstBerth_4 : decode cX11_firstBerth 4 = .ok (.iconst 1, 1) := by decide +kernel
theorem dX11_firstBerth_5 : decode cX11_firstBerth 5 = .ok (.if_icmp .eq 6, 3) := by decide +kernel
theorem dX11_firstBerth_8 : decode cX11_firstBerth 8 = .ok (.bipush (-65), 2) := by decide +kernel
theorem dX11_firstBerth_10 : decode cX11_firstBerth 10 = .ok (.ireturn, 1) := by decide +kernel
theorem dX11_firstBerth_11 : decode cX11_firstBerth 11 = .ok (.aload_n 0, 1) := by decide +kernel
theorem dX11_firstBerth_12 : decode cX11_firstBerth 12 = .ok (.getfield 10, 3) := by decide +kernel
theorem dX11_firstBerth_15 : decode cX11_firstBerth 15 = .ok (.iconst 0, 1) := by decide +kernel
theorem dX11_firstBerth_16 : decode cX11_firstBerth 16 = .ok (.invokevirtual 287, 3) := by decide +kernel
theorem dX11_firstBerth_19 : decode cX11_firstBerth 19 = .ok (.astore_n 2, 1) := by decide +kernel
theorem dX11_firstBerth_20 : decode cX11_firstBerth 20 = .ok (.aload_n 2, 1) := by decide +kernel
theorem dX11_firstBerth_21 : decode cX11_firstBerth 21 = .ok (.ifnonnull 8, 3) := by decide +kernel
theorem dX11_firstBerth_24 : decode cX11_firstBerth 24 = .ok (.bipush (-63), 2) := by decide +kernel
theorem dX11_firstBerth_26 : decode cX11_firstBerth 26 = .ok (.goto 7, 3) := by decide +kernel
theorem dX11_firstBerth_29 : decode cX11_firstBerth 29 = .ok (.aload_n 2, 1) := by decide +kernel
theorem dX11_firstBerth_30 : decode cX11_firstBerth 30 = .ok (.getfield 475, 3) := by decide +kernel
theorem dX11_firstBerth_33 : decode cX11_firstBerth 33 = .ok (.ireturn, 1) := by decide +kernel
def M_X11_firstBerth : y_M := (yX11_firstBerth, cX11_firstBerth, 3, (Option.some Jvm.ClassFile.FieldType.int))
theorem n_X11_firstBerth : y_N0 M_X11_firstBerth 1 := ⟨(c_4 27 (by decide +kernel) rfl), (c_1 1 (by decide +kernel) rfl), ⟨by decide +kernel, by decide +kernel⟩, by decide +kernel⟩
theorem F_BoxYard_474 : y_F "BoxYard" 474 3 1 := ⟨_, _, _, rfl, by decide, Or.inr ⟨"BoxYard", (c_3 187 (by decide +kernel) rfl)⟩⟩
theorem l_BoxYard_287 : y_lnk "BoxYard" 287 M_X10_shipAt := Or.inl (c_4 28 (by decide +kernel) rfl)
theorem F_BoxYard_475 : y_F "BoxYard" 475 7 11 := ⟨_, _, _, rfl, by decide, Or.inr ⟨"BoxYard", (c_5 60 (by decide +kernel) rfl)⟩⟩
set_option maxRecDepth 100000 in
def f_X11_firstBerth (p0 : Nat) (p1 : Nat) (h : y_H) : Option (Int32 × y_H) :=
  if y_K h p1 = 4 then
  if (y_I h p1 1) = 1 then
    if y_K h p0 = 12 then
    if y_K h (y_P h p0 0) = 11 then
    y_cl (f_X10_shipAt (y_P h p0 0) 0 h) (fun r1 h2 =>
    if r1 = 0 then
      some ((-63 : Int32), h2)
    else
      if y_K h2 r1 = 8 then
      some (y_I h2 r1 11, h2)
      else none)
    else none
    else none
  else
    some ((-65 : Int32), h)
  else none
abbrev rm_X11_firstBerth : Room := { frames := 2, cells := 0, slots := 0, locals := 43 }
set_option maxRecDepth 100000 in
set_option maxHeartbeats 4000000 in
theorem k_X11_firstBerth {l : Launch} {G : y_G} {p0 : Nat} {p1 : Nat} {h hz : y_H} {rz : Int32} (hf : f_X11_firstBerth p0 p1 h = some (rz, hz)) : y_S l G M_X11_firstBerth rm_X11_firstBerth [y_p p0, y_p p1] h (some (.int rz)) hz := by
  refine y_start (lv := [(0, y_p p0), (1, y_p p1)]) (by decide) (by simp [lg_sl, y_p_cat, y_ci, y_cj, M_X11_firstBerth]) (by simp [lv_args, y_p_cat, y_ci, y_cj]) (fun z ad0 => ?_)
  unfold f_X11_firstBerth at hf
  refine y_aload_n (x := p1) (pc2 := 1) rfl dX11_firstBerth_0 rfl ?_
  obtain ⟨g9, hf⟩ := y_g hf
  refine y_getI (pc2 := 4) rfl dX11_firstBerth_1 F_BoxYard_474 (by decide) rfl g9 ?_
  refine y_iconst (v := 1) (pc2 := 5) rfl dX11_firstBerth_4 (by decide) ?_
  refine y_icmp_eq (tgt := 11) (pc2 := 8) rfl dX11_firstBerth_5 (by decide) (fun c8 => ?_) (fun c8 => ?_)
  · replace hf := y_it c8 hf
    refine y_aload_n (x := p0) (pc2 := 12) rfl dX11_firstBerth_11 rfl ?_
    obtain ⟨g7, hf⟩ := y_g hf
    refine y_getP (pc2 := 15) rfl dX11_firstBerth_12 F_BoxYard_10 (by decide) rfl g7 ?_
    refine y_iconst (v := 0) (pc2 := 16) rfl dX11_firstBerth_15 (by decide) ?_
    obtain ⟨g6, hf⟩ := y_g hf
    obtain ⟨r1, h2, c3, hf⟩ := y_clE hf
    refine y_callV (As := [.int 0]) (rm := rm_X10_shipAt) (cells := 0) (slots := 0) (pc2 := 19) rfl dX11_firstBerth_16 n_X10_shipAt l_BoxYard_287 i_X10_shipAt e_X10_shipAt (ci := 10) rfl rfl (by decide) g6 rfl rfl (by decide) (by decide) (by decide) (k_X10_shipAt c3) ?_
    refine y_astore_n (lv' := [(2, y_p r1), (0, y_p p0), (1, y_p p1)]) (pc2 := 20) rfl dX11_firstBerth_19 (by decide) (by show y_st1 _ 2 _ = _; simp [y_st1, y_p_cat, y_ci, y_cj]) ?_
    refine y_aload_n (x := r1) (pc2 := 21) rfl dX11_firstBerth_20 rfl ?_
    refine y_ifnonnull (tgt := 29) (pc2 := 24) rfl dX11_firstBerth_21 (by decide) (fun c5 => ?_) (fun c5 => ?_)
    · replace hf := y_ie c5 hf
      refine y_aload_n (x := r1) (pc2 := 30) rfl dX11_firstBerth_29 rfl ?_
      obtain ⟨g4, hf⟩ := y_g hf
      refine y_getI (pc2 := 33) rfl dX11_firstBerth_30 F_BoxYard_475 (by decide) rfl g4 ?_
      exact y_iretF hf dX11_firstBerth_33 rfl (by decide) (by decide)
    · replace hf := y_it c5 hf
      refine y_bipush (v := (-63 : Int32)) (pc2 := 26) rfl dX11_firstBerth_24 (by decide) ?_
      refine y_goto (tgt := 33) dX11_firstBerth_26 (by decide) ?_
      exact y_iretF hf dX11_firstBerth_33 rfl (by decide) (by decide)
  · replace hf := y_ie c8 hf
    refine y_bipush (v := (-65 : Int32)) (pc2 := 10) rfl dX11_firstBerth_8 (by decide) ?_
    exact y_iretF hf dX11_firstBerth_10 rfl (by decide) (by decide)
theorem dX11_engine_0 : decode cX11_engine 0 = .ok (.aload_n 0, 1) := by decide +kernel
theorem dX11_engine_1 : decode cX11_engine 1 = .ok (.getfield 10, 3) := by decide +kernel
theorem dX11_engine_4 : decode cX11_engine 4 = .ok (.getfield 77, 3) := by decide +kernel
theorem dX11_engine_7 : decode cX11_engine 7 = .ok (.invokevirtual 81, 3) := by decide +kernel
theorem dX11_engine_10 : decode cX11_engine 10 = .ok (.aload_n 0, 1) := by decide +kernel
theorem dX11_engine_11 : decode cX11_engine 11 = .ok (.getfield 10, 3) := by decide +kernel
theorem dX11_engine_14 : decode cX11_engine 14 = .ok (.iload_n 1, 1) := by decide +kernel
theorem dX11_engine_15 : decode cX11_engine 15 = .ok (.invokevirtual 209, 3) := by decide +kernel
theorem dX11_engine_18 : decode cX11_engine 18 = .ok (.astore_n 3, 1) := by decide +kernel
theorem dX11_engine_19 : decode cX11_engine 19 = .ok (.aload_n 3, 1) := by decide +kernel
theorem dX11_engine_20 : decode cX11_engine 20 = .ok (.ifnonnull 5, 3) := by decide +kernel
theorem dX11_engine_23 : decode cX11_engine 23 = .ok (.iconst (-1), 1) := by decide +kernel
theorem dX11_engine_24 : decode cX11_engine 24 = .ok (.ireturn, 1) := by decide +kernel
theorem dX11_engine_25 : decode cX11_engine 25 = .ok (.iload_n 2, 1) := by decide +kernel
theorem dX11_engine_26 : decode cX11_engine 26 = .ok (.tableswitch 60 0 2 #[26, 38, 50], 26) := by decide +kernel
theorem dX11_engine_52 : decode cX11_engine 52 = .ok (.aload_n 3, 1) := by decide +kernel
theorem dX11_engine_53 : decode cX11_engine 53 = .ok (.aload_n 0, 1) := by decide +kernel
theorem dX11_engine_54 : decode cX11_engine 54 = .ok (.getfield 10, 3) := by decide +kernel
theorem dX11_engine_57 : decode cX11_engine 57 = .ok (.getfield 77, 3) := by decide +kernel
theorem dX11_engine_60 : decode cX11_engine 60 = .ok (.invokevirtual 213, 3) := by decide +kernel
theorem dX11_engine_63 : decode cX11_engine 63 = .ok (.ireturn, 1) := by decide +kernel
theorem dX11_engine_64 : decode cX11_engine 64 = .ok (.aload_n 3, 1) := by decide +kernel
theorem dX11_engine_65 : decode cX11_engine 65 = .ok (.aload_n 0, 1) := by decide +kernel
theorem dX11_engine_66 : decode cX11_engine 66 = .ok (.getfield 10, 3) := by decide +kernel
theorem dX11_engine_69 : decode cX11_engine 69 = .ok (.getfield 77, 3) := by decide +kernel
theorem dX11_engine_72 : decode cX11_engine 72 = .ok (.invokevirtual 216, 3) := by decide +kernel
theorem dX11_engine_75 : decode cX11_engine 75 = .ok (.ireturn, 1) := by decide +kernel
theorem dX11_engine_76 : decode cX11_engine 76 = .ok (.aload_n 0, 1) := by decide +kernel
theorem dX11_engine_77 : decode cX11_engine 77 = .ok (.aload_n 0, 1) := by decide +kernel
theorem dX11_engine_78 : decode cX11_engine 78 = .ok (.aload_n 3, 1) := by decide +kernel
theorem dX11_engine_79 : decode cX11_engine 79 = .ok (.invokevirtual 219, 3) := by decide +kernel
theorem dX11_engine_82 : decode cX11_engine 82 = .ok (.invokevirtual 102, 3) := by decide +kernel
theorem dX11_engine_85 : decode cX11_engine 85 = .ok (.ireturn, 1) := by decide +kernel
theorem dX11_engine_86 : decode cX11_engine 86 = .ok (.bipush (-2), 2) := by decide +kernel
theorem dX11_engine_88 : decode cX11_engine 88 = .ok (.ireturn, 1) := by decide +kernel
def M_X11_engine : y_M := (yX11_engine, cX11_engine, 4, (Option.some Jvm.ClassFile.FieldType.int))
theorem n_X11_engine : y_N0 M_X11_engine 2 := ⟨(c_3 237 (by decide +kernel) rfl), (c_1 1 (by decide +kernel) rfl), ⟨by decide +kernel, by decide +kernel⟩, by decide +kernel⟩
theorem l_BoxYard_209 : y_lnk "BoxYard" 209 M_X10_craneAt := Or.inl (c_3 238 (by decide +kernel) rfl)
theorem l_BoxYard_213 : y_lnk "BoxYard" 213 M_X3_strength := Or.inl (c_3 239 (by decide +kernel) rfl)
theorem l_BoxYard_216 : y_lnk "BoxYard" 216 M_X3_stop := Or.inl (c_4 12 (by decide +kernel) rfl)
theorem l_BoxYard_219 : y_lnk "BoxYard" 219 M_X11_firstBerth := Or.inl (c_4 24 (by decide +kernel) rfl)
theorem i_X11_firstBerth : Cond.instanceMethod (M_X11_firstBerth).1 ∈ y_tb := (c_4 26 (by decide +kernel) rfl)
theorem e_X11_firstBerth : Cond.selects (M_X11_firstBerth).1.cls (M_X11_firstBerth).1 (M_X11_firstBerth).1 ∈ y_tb := (m_s 11 (by decide +kernel) rfl)
set_option maxRecDepth 100000 in
def f_X11_engine (p0 : Nat) (p1 : Int32) (p2 : Int32) (h : y_H) : Option (Int32 × y_H) :=
  if y_K h p0 = 12 then
  if y_K h (y_P h p0 0) = 11 then
  if y_K h (y_P h (y_P h p0 0) 12) = 10 then
  y_cl (f_X9_begin (y_P h (y_P h p0 0) 12) h) (fun _ h1 =>
  if y_K h1 p0 = 12 then
  if y_K h1 (y_P h1 p0 0) = 11 then
  y_cl (f_X10_craneAt (y_P h1 p0 0) p1 h1) (fun r3 h4 =>
  if r3 = 0 then
    some ((-1 : Int32), h4)
  else
    if p2 = 0 then
      if y_K h4 p0 = 12 then
      if y_K h4 (y_P h4 p0 0) = 11 then
      if y_K h4 r3 = 4 then
      y_cl (f_X3_strength r3 (y_P h4 (y_P h4 p0 0) 12) h4) (fun r7 h8 =>
      some (r7, h8))
      else none
      else none
      else none
    else
    if p2 = 1 then
      if y_K h4 p0 = 12 then
      if y_K h4 (y_P h4 p0 0) = 11 then
      if y_K h4 r3 = 4 then
      y_cl (f_X3_stop r3 (y_P h4 (y_P h4 p0 0) 12) h4) (fun r14 h15 =>
      some (r14, h15))
      else none
      else none
      else none
    else
    if p2 = 2 then
      if y_K h4 p0 = 12 then
      y_cl (f_X11_firstBerth p0 r3 h4) (fun r21 h22 =>
      if y_K h22 p0 = 12 then
      y_cl (f_X11_counted p0 r21 h22) (fun r24 h25 =>
      some (r24, h25))
      else none)
      else none
    else
    some ((-2 : Int32), h4))
  else none
  else none)
  else none
  else none
  else none
abbrev rm_X11_engine : Room := { frames := 3, cells := 0, slots := 0, locals := 65 }
set_option maxRecDepth 100000 in
set_option maxHeartbeats 4000000 in
theorem k_X11_engine {l : Launch} {G : y_G} {p0 : Nat} {p1 : Int32} {p2 : Int32} {h hz : y_H} {rz : Int32} (hf : f_X11_engine p0 p1 p2 h = some (rz, hz)) : y_S l G M_X11_engine rm_X11_engine [y_p p0, .int p1, .int p2] h (some (.int rz)) hz := by
  refine y_start (lv := [(0, y_p p0), (1, .int p1), (2, .int p2)]) (by decide) (by simp [lg_sl, y_p_cat, y_ci, y_cj, M_X11_engine]) (by simp [lv_args, y_p_cat, y_ci, y_cj]) (fun z ad0 => ?_)
  unfold f_X11_engine at hf
  refine y_aload_n (x := p0) (pc2 := 1) rfl dX11_engine_0 rfl ?_
  obtain ⟨g34, hf⟩ := y_g hf
  refine y_getP (pc2 := 4) rfl dX11_engine_1 F_BoxYard_10 (by decide) rfl g34 ?_
  obtain ⟨g33, hf⟩ := y_g hf
  refine y_getP (pc2 := 7) rfl dX11_engine_4 F_BoxYard_77 (by decide) rfl g33 ?_
  obtain ⟨g32, hf⟩ := y_g hf
  obtain ⟨r_, h1, c2, hf⟩ := y_clE hf
  refine y_callV (As := []) (rm := rm_X9_begin) (cells := 0) (slots := 0) (pc2 := 10) rfl dX11_engine_7 n_X9_begin l_BoxYard_81 i_X9_begin e_X9_begin (ci := 9) rfl rfl (by decide) g32 rfl rfl (by decide) (by decide) (by decide) (k_X9_begin c2) ?_
  refine y_aload_n (x := p0) (pc2 := 11) rfl dX11_engine_10 rfl ?_
  obtain ⟨g31, hf⟩ := y_g hf
  refine y_getP (pc2 := 14) rfl dX11_engine_11 F_BoxYard_10 (by decide) rfl g31 ?_
  refine y_iload_n (pc2 := 15) rfl dX11_engine_14 rfl ?_
  obtain ⟨g30, hf⟩ := y_g hf
  obtain ⟨r3, h4, c5, hf⟩ := y_clE hf
  refine y_callV (As := [.int p1]) (rm := rm_X10_craneAt) (cells := 0) (slots := 0) (pc2 := 18) rfl dX11_engine_15 n_X10_craneAt l_BoxYard_209 i_X10_craneAt e_X10_craneAt (ci := 10) rfl rfl (by decide) g30 rfl rfl (by decide) (by decide) (by decide) (k_X10_craneAt c5) ?_
  refine y_astore_n (lv' := [(3, y_p r3), (0, y_p p0), (1, .int p1), (2, .int p2)]) (pc2 := 19) rfl dX11_engine_18 (by decide) rfl ?_
  refine y_aload_n (x := r3) (pc2 := 20) rfl dX11_engine_19 rfl ?_
  refine y_ifnonnull (tgt := 25) (pc2 := 23) rfl dX11_engine_20 (by decide) (fun c29 => ?_) (fun c29 => ?_)
  · replace hf := y_ie c29 hf
    refine y_iload_n (pc2 := 26) rfl dX11_engine_25 rfl ?_
    by_cases c6 : p2 = 0
    · replace hf := y_it c6 hf
      refine y_table (off := 26) (tgt := 52) dX11_engine_26 (by (rw [c6]) <;> decide) (by decide) ?_
      refine y_aload_n (x := r3) (pc2 := 53) rfl dX11_engine_52 rfl ?_
      refine y_aload_n (x := p0) (pc2 := 54) rfl dX11_engine_53 rfl ?_
      obtain ⟨g12, hf⟩ := y_g hf
      refine y_getP (pc2 := 57) rfl dX11_engine_54 F_BoxYard_10 (by decide) rfl g12 ?_
      obtain ⟨g11, hf⟩ := y_g hf
      refine y_getP (pc2 := 60) rfl dX11_engine_57 F_BoxYard_77 (by decide) rfl g11 ?_
      obtain ⟨g10, hf⟩ := y_g hf
      obtain ⟨r7, h8, c9, hf⟩ := y_clE hf
      refine y_callV (As := [y_p (y_P h4 (y_P h4 p0 0) 12)]) (rm := rm_X3_strength) (cells := 0) (slots := 0) (pc2 := 63) rfl dX11_engine_60 n_X3_strength l_BoxYard_213 i_X3_strength e_X3_strength (ci := 3) rfl rfl (by decide) g10 rfl rfl (by decide) (by decide) (by decide) (k_X3_strength c9) ?_
      exact y_iretF hf dX11_engine_63 rfl (by decide) (by decide)
    · replace hf := y_ie c6 hf
      by_cases c13 : p2 = 1
      · replace hf := y_it c13 hf
        refine y_table (off := 38) (tgt := 64) dX11_engine_26 (by (rw [c13]) <;> decide) (by decide) ?_
        refine y_aload_n (x := r3) (pc2 := 65) rfl dX11_engine_64 rfl ?_
        refine y_aload_n (x := p0) (pc2 := 66) rfl dX11_engine_65 rfl ?_
        obtain ⟨g19, hf⟩ := y_g hf
        refine y_getP (pc2 := 69) rfl dX11_engine_66 F_BoxYard_10 (by decide) rfl g19 ?_
        obtain ⟨g18, hf⟩ := y_g hf
        refine y_getP (pc2 := 72) rfl dX11_engine_69 F_BoxYard_77 (by decide) rfl g18 ?_
        obtain ⟨g17, hf⟩ := y_g hf
        obtain ⟨r14, h15, c16, hf⟩ := y_clE hf
        refine y_callV (As := [y_p (y_P h4 (y_P h4 p0 0) 12)]) (rm := rm_X3_stop) (cells := 0) (slots := 0) (pc2 := 75) rfl dX11_engine_72 n_X3_stop l_BoxYard_216 i_X3_stop e_X3_stop (ci := 3) rfl rfl (by decide) g17 rfl rfl (by decide) (by decide) (by decide) (k_X3_stop c16) ?_
        exact y_iretF hf dX11_engine_75 rfl (by decide) (by decide)
      · replace hf := y_ie c13 hf
        by_cases c20 : p2 = 2
        · replace hf := y_it c20 hf
          refine y_table (off := 50) (tgt := 76) dX11_engine_26 (by (rw [c20]) <;> decide) (by decide) ?_
          refine y_aload_n (x := p0) (pc2 := 77) rfl dX11_engine_76 rfl ?_
          refine y_aload_n (x := p0) (pc2 := 78) rfl dX11_engine_77 rfl ?_
          refine y_aload_n (x := r3) (pc2 := 79) rfl dX11_engine_78 rfl ?_
          obtain ⟨g28, hf⟩ := y_g hf
          obtain ⟨r21, h22, c23, hf⟩ := y_clE hf
          refine y_callV (As := [y_p r3]) (rm := rm_X11_firstBerth) (cells := 0) (slots := 0) (pc2 := 82) rfl dX11_engine_79 n_X11_firstBerth l_BoxYard_219 i_X11_firstBerth e_X11_firstBerth (ci := 11) rfl rfl (by decide) g28 rfl rfl (by decide) (by simp [y_ci, y_cj, y_p_cat]) (by decide) (k_X11_firstBerth c23) ?_
          obtain ⟨g27, hf⟩ := y_g hf
          obtain ⟨r24, h25, c26, hf⟩ := y_clE hf
          refine y_callV (As := [.int r21]) (rm := rm_X11_counted) (cells := 0) (slots := 0) (pc2 := 85) rfl dX11_engine_82 n_X11_counted l_BoxYard_102 i_X11_counted e_X11_counted (ci := 11) rfl rfl (by decide) g27 rfl rfl (by decide) (by decide) (by decide) (k_X11_counted c26) ?_
          exact y_iretF hf dX11_engine_85 rfl (by decide) (by decide)
        · replace hf := y_ie c20 hf
          refine y_table (off := 60) (tgt := 86) dX11_engine_26 ((if_pos (by have q0 := lv_neT c6 (a := 0) (by decide); have q1 := lv_neT c13 (a := 1) (by decide); have q2 := lv_neT c20 (a := 2) (by decide); omega))) (by decide) ?_
          refine y_bipush (v := (-2 : Int32)) (pc2 := 88) rfl dX11_engine_86 (by decide) ?_
          exact y_iretF hf dX11_engine_88 rfl (by decide) (by decide)
  · replace hf := y_it c29 hf
    refine y_iconst (v := (-1 : Int32)) (pc2 := 24) rfl dX11_engine_23 (by decide) ?_
    exact y_iretF hf dX11_engine_24 rfl (by decide) (by decide)
theorem dX11_look_0 : decode cX11_look 0 = .ok (.aload_n 0, 1) := by decide +kernel
theorem dX11_look_1 : decode cX11_look 1 = .ok (.getfield 10, 3) := by decide +kernel
theorem dX11_look_4 : decode cX11_look 4 = .ok (.iload_n 1, 1) := by decide +kernel
theorem dX11_look_5 : decode cX11_look 5 = .ok (.invokevirtual 209, 3) := by decide +kernel
theorem dX11_look_8 : decode cX11_look 8 = .ok (.astore_n 3, 1) := by decide +kernel
theorem dX11_look_9 : decode cX11_look 9 = .ok (.aload_n 3, 1) := by decide +kernel
theorem dX11_look_10 : decode cX11_look 10 = .ok (.ifnonnull 5, 3) := by decide +kernel
theorem dX11_look_13 : decode cX11_look 13 = .ok (.iconst (-1), 1) := by decide +kernel
theorem dX11_look_14 : decode cX11_look 14 = .ok (.ireturn, 1) := by decide +kernel
theorem dX11_look_15 : decode cX11_look 15 = .ok (.iload_n 2, 1) := by decide +kernel
theorem dX11_look_16 : decode cX11_look 16 = .ok (.tableswitch 78 0 5 #[40, 45, 55, 60, 65, 73], 40) := by decide +kernel
theorem dX11_look_56 : decode cX11_look 56 = .ok (.aload_n 3, 1) := by decide +kernel
theorem dX11_look_57 : decode cX11_look 57 = .ok (.getfield 223, 3) := by decide +kernel
theorem dX11_look_60 : decode cX11_look 60 = .ok (.ireturn, 1) := by decide +kernel
theorem dX11_look_61 : decode cX11_look 61 = .ok (.aload_n 3, 1) := by decide +kernel
theorem dX11_look_62 : decode cX11_look 62 = .ok (.getfield 226, 3) := by decide +kernel
theorem dX11_look_65 : decode cX11_look 65 = .ok (.bipush (-9), 2) := by decide +kernel
theorem dX11_look_67 : decode cX11_look 67 = .ok (.invokestatic 173, 3) := by decide +kernel
theorem dX11_look_70 : decode cX11_look 70 = .ok (.ireturn, 1) := by decide +kernel
theorem dX11_look_71 : decode cX11_look 71 = .ok (.aload_n 3, 1) := by decide +kernel
theorem dX11_look_72 : decode cX11_look 72 = .ok (.getfield 230, 3) := by decide +kernel
theorem dX11_look_75 : decode cX11_look 75 = .ok (.ireturn, 1) := by decide +kernel
theorem dX11_look_76 : decode cX11_look 76 = .ok (.aload_n 3, 1) := by decide +kernel
theorem dX11_look_77 : decode cX11_look 77 = .ok (.getfield 233, 3) := by decide +kernel
theorem dX11_look_80 : decode cX11_look 80 = .ok (.ireturn, 1) := by decide +kernel
theorem dX11_look_81 : decode cX11_look 81 = .ok (.aload_n 3, 1) := by decide +kernel
theorem dX11_look_82 : decode cX11_look 82 = .ok (.getfield 236, 3) := by decide +kernel
theorem dX11_look_85 : decode cX11_look 85 = .ok (.invokestatic 126, 3) := by decide +kernel
theorem dX11_look_88 : decode cX11_look 88 = .ok (.ireturn, 1) := by decide +kernel
theorem dX11_look_89 : decode cX11_look 89 = .ok (.aload_n 3, 1) := by decide +kernel
theorem dX11_look_90 : decode cX11_look 90 = .ok (.getfield 239, 3) := by decide +kernel
theorem dX11_look_93 : decode cX11_look 93 = .ok (.ireturn, 1) := by decide +kernel
theorem dX11_look_94 : decode cX11_look 94 = .ok (.bipush (-2), 2) := by decide +kernel
theorem dX11_look_96 : decode cX11_look 96 = .ok (.ireturn, 1) := by decide +kernel
def M_X11_look : y_M := (yX11_look, cX11_look, 4, (Option.some Jvm.ClassFile.FieldType.int))
theorem n_X11_look : y_N0 M_X11_look 2 := ⟨(c_4 35 (by decide +kernel) rfl), (c_1 1 (by decide +kernel) rfl), ⟨by decide +kernel, by decide +kernel⟩, by decide +kernel⟩
theorem F_BoxYard_223 : y_F "BoxYard" 223 3 3 := ⟨_, _, _, rfl, by decide, Or.inr ⟨"BoxYard", (c_3 193 (by decide +kernel) rfl)⟩⟩
theorem F_BoxYard_226 : y_F "BoxYard" 226 3 4 := ⟨_, _, _, rfl, by decide, Or.inr ⟨"BoxYard", (c_3 198 (by decide +kernel) rfl)⟩⟩
theorem F_BoxYard_230 : y_F "BoxYard" 230 3 5 := ⟨_, _, _, rfl, by decide, Or.inr ⟨"BoxYard", (c_3 203 (by decide +kernel) rfl)⟩⟩
theorem F_BoxYard_233 : y_F "BoxYard" 233 3 6 := ⟨_, _, _, rfl, by decide, Or.inr ⟨"BoxYard", (c_3 206 (by decide +kernel) rfl)⟩⟩
theorem F_BoxYard_236 : y_F "BoxYard" 236 3 7 := ⟨_, _, _, rfl, by decide, Or.inr ⟨"BoxYard", (c_3 208 (by decide +kernel) rfl)⟩⟩
theorem F_BoxYard_239 : y_F "BoxYard" 239 3 2 := ⟨_, _, _, rfl, by decide, Or.inr ⟨"BoxYard", (c_3 189 (by decide +kernel) rfl)⟩⟩
set_option maxRecDepth 100000 in
def f_X11_look (p0 : Nat) (p1 : Int32) (p2 : Int32) (h : y_H) : Option (Int32 × y_H) :=
  if y_K h p0 = 12 then
  if y_K h (y_P h p0 0) = 11 then
  y_cl (f_X10_craneAt (y_P h p0 0) p1 h) (fun r1 h2 =>
  if r1 = 0 then
    some ((-1 : Int32), h2)
  else
    if p2 = 0 then
      if y_K h2 r1 = 4 then
      some (y_I h2 r1 3, h2)
      else none
    else
    if p2 = 1 then
      if y_K h2 r1 = 4 then
      y_cl (f_X11_numberOf (y_P h2 r1 4) (-9 : Int32) h2) (fun r7 h8 =>
      some (r7, h8))
      else none
    else
    if p2 = 2 then
      if y_K h2 r1 = 4 then
      some (y_I h2 r1 5, h2)
      else none
    else
    if p2 = 3 then
      if y_K h2 r1 = 4 then
      some (y_I h2 r1 6, h2)
      else none
    else
    if p2 = 4 then
      if y_K h2 r1 = 4 then
      y_cl (f_X11_asBit (y_B h2 r1 7) h2) (fun r16 h17 =>
      some (r16, h17))
      else none
    else
    if p2 = 5 then
      if y_K h2 r1 = 4 then
      some (y_I h2 r1 2, h2)
      else none
    else
    some ((-2 : Int32), h2))
  else none
  else none
abbrev rm_X11_look : Room := { frames := 2, cells := 0, slots := 0, locals := 43 }
set_option maxRecDepth 100000 in
set_option maxHeartbeats 4000000 in
theorem k_X11_look {l : Launch} {G : y_G} {p0 : Nat} {p1 : Int32} {p2 : Int32} {h hz : y_H} {rz : Int32} (hf : f_X11_look p0 p1 p2 h = some (rz, hz)) : y_S l G M_X11_look rm_X11_look [y_p p0, .int p1, .int p2] h (some (.int rz)) hz := by
  refine y_start (lv := [(0, y_p p0), (1, .int p1), (2, .int p2)]) (by decide) (by simp [lg_sl, y_p_cat, y_ci, y_cj, M_X11_look]) (by simp [lv_args, y_p_cat, y_ci, y_cj]) (fun z ad0 => ?_)
  unfold f_X11_look at hf
  refine y_aload_n (x := p0) (pc2 := 1) rfl dX11_look_0 rfl ?_
  obtain ⟨g24, hf⟩ := y_g hf
  refine y_getP (pc2 := 4) rfl dX11_look_1 F_BoxYard_10 (by decide) rfl g24 ?_
  refine y_iload_n (pc2 := 5) rfl dX11_look_4 rfl ?_
  obtain ⟨g23, hf⟩ := y_g hf
  obtain ⟨r1, h2, c3, hf⟩ := y_clE hf
  refine y_callV (As := [.int p1]) (rm := rm_X10_craneAt) (cells := 0) (slots := 0) (pc2 := 8) rfl dX11_look_5 n_X10_craneAt l_BoxYard_209 i_X10_craneAt e_X10_craneAt (ci := 10) rfl rfl (by decide) g23 rfl rfl (by decide) (by decide) (by decide) (k_X10_craneAt c3) ?_
  refine y_astore_n (lv' := [(3, y_p r1), (0, y_p p0), (1, .int p1), (2, .int p2)]) (pc2 := 9) rfl dX11_look_8 (by decide) rfl ?_
  refine y_aload_n (x := r1) (pc2 := 10) rfl dX11_look_9 rfl ?_
  refine y_ifnonnull (tgt := 15) (pc2 := 13) rfl dX11_look_10 (by decide) (fun c22 => ?_) (fun c22 => ?_)
  · replace hf := y_ie c22 hf
    refine y_iload_n (pc2 := 16) rfl dX11_look_15 rfl ?_
    by_cases c4 : p2 = 0
    · replace hf := y_it c4 hf
      refine y_table (off := 40) (tgt := 56) dX11_look_16 (by (rw [c4]) <;> decide) (by decide) ?_
      refine y_aload_n (x := r1) (pc2 := 57) rfl dX11_look_56 rfl ?_
      obtain ⟨g5, hf⟩ := y_g hf
      refine y_getI (pc2 := 60) rfl dX11_look_57 F_BoxYard_223 (by decide) rfl g5 ?_
      exact y_iretF hf dX11_look_60 rfl (by decide) (by decide)
    · replace hf := y_ie c4 hf
      by_cases c6 : p2 = 1
      · replace hf := y_it c6 hf
        refine y_table (off := 45) (tgt := 61) dX11_look_16 (by (rw [c6]) <;> decide) (by decide) ?_
        refine y_aload_n (x := r1) (pc2 := 62) rfl dX11_look_61 rfl ?_
        obtain ⟨g10, hf⟩ := y_g hf
        refine y_getP (pc2 := 65) rfl dX11_look_62 F_BoxYard_226 (by decide) rfl g10 ?_
        refine y_bipush (v := (-9 : Int32)) (pc2 := 67) rfl dX11_look_65 (by decide) ?_
        obtain ⟨r7, h8, c9, hf⟩ := y_clE hf
        refine y_callS (As := [y_p (y_P h2 r1 4), .int (-9 : Int32)]) (rm := rm_X11_numberOf) (cells := 0) (slots := 0) (pc2 := 70) rfl dX11_look_67 n_X11_numberOf l_BoxYard_173 t_X11_numberOf rfl rfl (by decide) (by decide) (by decide) (k_X11_numberOf c9) ?_
        exact y_iretF hf dX11_look_70 rfl (by decide) (by decide)
      · replace hf := y_ie c6 hf
        by_cases c11 : p2 = 2
        · replace hf := y_it c11 hf
          refine y_table (off := 55) (tgt := 71) dX11_look_16 (by (rw [c11]) <;> decide) (by decide) ?_
          refine y_aload_n (x := r1) (pc2 := 72) rfl dX11_look_71 rfl ?_
          obtain ⟨g12, hf⟩ := y_g hf
          refine y_getI (pc2 := 75) rfl dX11_look_72 F_BoxYard_230 (by decide) rfl g12 ?_
          exact y_iretF hf dX11_look_75 rfl (by decide) (by decide)
        · replace hf := y_ie c11 hf
          by_cases c13 : p2 = 3
          · replace hf := y_it c13 hf
            refine y_table (off := 60) (tgt := 76) dX11_look_16 (by (rw [c13]) <;> decide) (by decide) ?_
            refine y_aload_n (x := r1) (pc2 := 77) rfl dX11_look_76 rfl ?_
            obtain ⟨g14, hf⟩ := y_g hf
            refine y_getI (pc2 := 80) rfl dX11_look_77 F_BoxYard_233 (by decide) rfl g14 ?_
            exact y_iretF hf dX11_look_80 rfl (by decide) (by decide)
          · replace hf := y_ie c13 hf
            by_cases c15 : p2 = 4
            · replace hf := y_it c15 hf
              refine y_table (off := 65) (tgt := 81) dX11_look_16 (by (rw [c15]) <;> decide) (by decide) ?_
              refine y_aload_n (x := r1) (pc2 := 82) rfl dX11_look_81 rfl ?_
              obtain ⟨g19, hf⟩ := y_g hf
              refine y_getZ (pc2 := 85) rfl dX11_look_82 F_BoxYard_236 (by decide) rfl g19 ?_
              obtain ⟨r16, h17, c18, hf⟩ := y_clE hf
              refine y_callS (As := [.int (y_z (y_B h2 r1 7))]) (rm := rm_X11_asBit) (cells := 0) (slots := 0) (pc2 := 88) rfl dX11_look_85 n_X11_asBit l_BoxYard_126 t_X11_asBit rfl rfl (by decide) (by decide) (by decide) (k_X11_asBit c18) ?_
              exact y_iretF hf dX11_look_88 rfl (by decide) (by decide)
            · replace hf := y_ie c15 hf
              by_cases c20 : p2 = 5
              · replace hf := y_it c20 hf
                refine y_table (off := 73) (tgt := 89) dX11_look_16 (by (rw [c20]) <;> decide) (by decide) ?_
                refine y_aload_n (x := r1) (pc2 := 90) rfl dX11_look_89 rfl ?_
                obtain ⟨g21, hf⟩ := y_g hf
                refine y_getI (pc2 := 93) rfl dX11_look_90 F_BoxYard_239 (by decide) rfl g21 ?_
                exact y_iretF hf dX11_look_93 rfl (by decide) (by decide)
              · replace hf := y_ie c20 hf
                refine y_table (off := 78) (tgt := 94) dX11_look_16 ((if_pos (by have q0 := lv_neT c4 (a := 0) (by decide); have q1 := lv_neT c6 (a := 1) (by decide); have q2 := lv_neT c11 (a := 2) (by decide); have q3 := lv_neT c13 (a := 3) (by decide); have q4 := lv_neT c15 (a := 4) (by decide); have q5 := lv_neT c20 (a := 5) (by decide); omega))) (by decide) ?_
                refine y_bipush (v := (-2 : Int32)) (pc2 := 96) rfl dX11_look_94 (by decide) ?_
                exact y_iretF hf dX11_look_96 rfl (by decide) (by decide)
  · replace hf := y_it c22 hf
    refine y_iconst (v := (-1 : Int32)) (pc2 := 14) rfl dX11_look_13 (by decide) ?_
    exact y_iretF hf dX11_look_14 rfl (by decide) (by decide)
theorem dX11_may_0 : decode cX11_may 0 = .ok (.aload_n 0, 1) := by decide +kernel
theorem dX11_may_1 : decode cX11_may 1 = .ok (.getfield 10, 3) := by decide +kernel
theorem dX11_may_4 : decode cX11_may 4 = .ok (.getfield 77, 3) := by decide +kernel
theorem dX11_may_7 : decode cX11_may 7 = .ok (.invokevirtual 81, 3) := by decide +kernel
theorem dX11_may_10 : decode cX11_may 10 = .ok (.aload_n 0, 1) := by decide +kernel
theorem dX11_may_11 : decode cX11_may 11 = .ok (.getfield 10, 3) := by decide +kernel
theorem dX11_may_14 : decode cX11_may 14 = .ok (.iload_n 1, 1) := by decide +kernel
theorem dX11_may_15 : decode cX11_may 15 = .ok (.invokevirtual 209, 3) := by decide +kernel
theorem dX11_may_18 : decode cX11_may 18 = .ok (.astore_n 3, 1) := by decide +kernel
theorem dX11_may_19 : decode cX11_may 19 = .ok (.aload_n 3, 1) := by decide +kernel
theorem dX11_may_20 : decode cX11_may 20 = .ok (.ifnonnull 5, 3) := by decide +kernel
theorem dX11_may_23 : decode cX11_may 23 = .ok (.iconst (-1), 1) := by decide +kernel
theorem dX11_may_24 : decode cX11_may 24 = .ok (.ireturn, 1) := by decide +kernel
theorem dX11_may_25 : decode cX11_may 25 = .ok (.aload_n 3, 1) := by decide +kernel
theorem dX11_may_26 : decode cX11_may 26 = .ok (.getfield 226, 3) := by decide +kernel
theorem dX11_may_29 : decode cX11_may 29 = .ok (.ifnonnull 6, 3) := by decide +kernel
theorem dX11_may_32 : decode cX11_may 32 = .ok (.bipush (-3), 2) := by decide +kernel
theorem dX11_may_34 : decode cX11_may 34 = .ok (.ireturn, 1) := by decide +kernel
theorem dX11_may_35 : decode cX11_may 35 = .ok (.aload_n 0, 1) := by decide +kernel
theorem dX11_may_36 : decode cX11_may 36 = .ok (.getfield 10, 3) := by decide +kernel
theorem dX11_may_39 : decode cX11_may 39 = .ok (.aload_n 3, 1) := by decide +kernel
theorem dX11_may_40 : decode cX11_may 40 = .ok (.aload_n 3, 1) := by decide +kernel
theorem dX11_may_41 : decode cX11_may 41 = .ok (.getfield 226, 3) := by decide +kernel
theorem dX11_may_44 : decode cX11_may 44 = .ok (.iload_n 2, 1) := by decide +kernel
theorem dX11_may_45 : decode cX11_may 45 = .ok (.invokevirtual 242, 3) := by decide +kernel
theorem dX11_may_48 : decode cX11_may 48 = .ok (.ireturn, 1) := by decide +kernel
def M_X11_may : y_M := (yX11_may, cX11_may, 4, (Option.some Jvm.ClassFile.FieldType.int))
theorem n_X11_may : y_N0 M_X11_may 2 := ⟨(c_4 39 (by decide +kernel) rfl), (c_1 1 (by decide +kernel) rfl), ⟨by decide +kernel, by decide +kernel⟩, by decide +kernel⟩
theorem l_BoxYard_242 : y_lnk "BoxYard" 242 M_X10_meetsSetting := Or.inl (c_4 40 (by decide +kernel) rfl)
theorem i_X10_meetsSetting : Cond.instanceMethod (M_X10_meetsSetting).1 ∈ y_tb := (c_4 41 (by decide +kernel) rfl)
theorem e_X10_meetsSetting : Cond.selects (M_X10_meetsSetting).1.cls (M_X10_meetsSetting).1 (M_X10_meetsSetting).1 ∈ y_tb := (c_4 42 (by decide +kernel) rfl)
set_option maxRecDepth 100000 in
def f_X11_may (p0 : Nat) (p1 : Int32) (p2 : Int32) (h : y_H) : Option (Int32 × y_H) :=
  if y_K h p0 = 12 then
  if y_K h (y_P h p0 0) = 11 then
  if y_K h (y_P h (y_P h p0 0) 12) = 10 then
  y_cl (f_X9_begin (y_P h (y_P h p0 0) 12) h) (fun _ h1 =>
  if y_K h1 p0 = 12 then
  if y_K h1 (y_P h1 p0 0) = 11 then
  y_cl (f_X10_craneAt (y_P h1 p0 0) p1 h1) (fun r3 h4 =>
  if r3 = 0 then
    some ((-1 : Int32), h4)
  else
    if y_K h4 r3 = 4 then
    if (y_P h4 r3 4) = 0 then
      some ((-3 : Int32), h4)
    else
      if y_K h4 p0 = 12 then
      if y_K h4 r3 = 4 then
      if y_K h4 (y_P h4 p0 0) = 11 then
      y_cl (f_X10_meetsSetting (y_P h4 p0 0) r3 (y_P h4 r3 4) p2 h4) (fun r6 h7 =>
      some (r6, h7))
      else none
      else none
      else none
    else none)
  else none
  else none)
  else none
  else none
  else none
abbrev rm_X11_may : Room := { frames := 6, cells := 0, slots := 0, locals := 142 }
set_option maxRecDepth 100000 in
set_option maxHeartbeats 4000000 in
theorem k_X11_may {l : Launch} {G : y_G} {p0 : Nat} {p1 : Int32} {p2 : Int32} {h hz : y_H} {rz : Int32} (hf : f_X11_may p0 p1 p2 h = some (rz, hz)) : y_S l G M_X11_may rm_X11_may [y_p p0, .int p1, .int p2] h (some (.int rz)) hz := by
  refine y_start (lv := [(0, y_p p0), (1, .int p1), (2, .int p2)]) (by decide) (by simp [lg_sl, y_p_cat, y_ci, y_cj, M_X11_may]) (by simp [lv_args, y_p_cat, y_ci, y_cj]) (fun z ad0 => ?_)
  unfold f_X11_may at hf
  refine y_aload_n (x := p0) (pc2 := 1) rfl dX11_may_0 rfl ?_
  obtain ⟨g19, hf⟩ := y_g hf
  refine y_getP (pc2 := 4) rfl dX11_may_1 F_BoxYard_10 (by decide) rfl g19 ?_
  obtain ⟨g18, hf⟩ := y_g hf
  refine y_getP (pc2 := 7) rfl dX11_may_4 F_BoxYard_77 (by decide) rfl g18 ?_
  obtain ⟨g17, hf⟩ := y_g hf
  obtain ⟨r_, h1, c2, hf⟩ := y_clE hf
  refine y_callV (As := []) (rm := rm_X9_begin) (cells := 0) (slots := 0) (pc2 := 10) rfl dX11_may_7 n_X9_begin l_BoxYard_81 i_X9_begin e_X9_begin (ci := 9) rfl rfl (by decide) g17 rfl rfl (by decide) (by decide) (by decide) (k_X9_begin c2) ?_
  refine y_aload_n (x := p0) (pc2 := 11) rfl dX11_may_10 rfl ?_
  obtain ⟨g16, hf⟩ := y_g hf
  refine y_getP (pc2 := 14) rfl dX11_may_11 F_BoxYard_10 (by decide) rfl g16 ?_
  refine y_iload_n (pc2 := 15) rfl dX11_may_14 rfl ?_
  obtain ⟨g15, hf⟩ := y_g hf
  obtain ⟨r3, h4, c5, hf⟩ := y_clE hf
  refine y_callV (As := [.int p1]) (rm := rm_X10_craneAt) (cells := 0) (slots := 0) (pc2 := 18) rfl dX11_may_15 n_X10_craneAt l_BoxYard_209 i_X10_craneAt e_X10_craneAt (ci := 10) rfl rfl (by decide) g15 rfl rfl (by decide) (by decide) (by decide) (k_X10_craneAt c5) ?_
  refine y_astore_n (lv' := [(3, y_p r3), (0, y_p p0), (1, .int p1), (2, .int p2)]) (pc2 := 19) rfl dX11_may_18 (by decide) rfl ?_
  refine y_aload_n (x := r3) (pc2 := 20) rfl dX11_may_19 rfl ?_
  refine y_ifnonnull (tgt := 25) (pc2 := 23) rfl dX11_may_20 (by decide) (fun c14 => ?_) (fun c14 => ?_)
  · replace hf := y_ie c14 hf
    refine y_aload_n (x := r3) (pc2 := 26) rfl dX11_may_25 rfl ?_
    obtain ⟨g13, hf⟩ := y_g hf
    refine y_getP (pc2 := 29) rfl dX11_may_26 F_BoxYard_226 (by decide) rfl g13 ?_
    refine y_ifnonnull (tgt := 35) (pc2 := 32) rfl dX11_may_29 (by decide) (fun c12 => ?_) (fun c12 => ?_)
    · replace hf := y_ie c12 hf
      refine y_aload_n (x := p0) (pc2 := 36) rfl dX11_may_35 rfl ?_
      obtain ⟨g11, hf⟩ := y_g hf
      refine y_getP (pc2 := 39) rfl dX11_may_36 F_BoxYard_10 (by decide) rfl g11 ?_
      refine y_aload_n (x := r3) (pc2 := 40) rfl dX11_may_39 rfl ?_
      refine y_aload_n (x := r3) (pc2 := 41) rfl dX11_may_40 rfl ?_
      obtain ⟨g10, hf⟩ := y_g hf
      refine y_getP (pc2 := 44) rfl dX11_may_41 F_BoxYard_226 (by decide) rfl g10 ?_
      refine y_iload_n (pc2 := 45) rfl dX11_may_44 rfl ?_
      obtain ⟨g9, hf⟩ := y_g hf
      obtain ⟨r6, h7, c8, hf⟩ := y_clE hf
      refine y_callV (As := [y_p r3, y_p (y_P h4 r3 4), .int p2]) (rm := rm_X10_meetsSetting) (cells := 0) (slots := 0) (pc2 := 48) rfl dX11_may_45 n_X10_meetsSetting l_BoxYard_242 i_X10_meetsSetting e_X10_meetsSetting (ci := 10) rfl rfl (by decide) g9 rfl rfl (by decide) (by decide) (by decide) (k_X10_meetsSetting c8) ?_
      exact y_iretF hf dX11_may_48 rfl (by decide) (by decide)
    · replace hf := y_it c12 hf
      refine y_bipush (v := (-3 : Int32)) (pc2 := 34) rfl dX11_may_32 (by decide) ?_
      exact y_iretF hf dX11_may_34 rfl (by decide) (by decide)
  · replace hf := y_it c14 hf
    refine y_iconst (v := (-1 : Int32)) (pc2 := 24) rfl dX11_may_23 (by decide) ?_
    exact y_iretF hf dX11_may_24 rfl (by decide) (by decide)
theorem dX11_refused_0 : decode cX11_refused 0 = .ok (.aload_n 0, 1) := by decide +kernel
theorem dX11_refused_1 : decode cX11_refused 1 = .ok (.iload_n 1, 1) := by decide +kernel
theorem dX11_refused_2 : decode cX11_refused 2 = .ok (.putfield 52, 3) := by decide +kernel
theorem dX11_refused_5 : decode cX11_refused 5 = .ok (.iload_n 1, 1) := by decide +kernel
theorem dX11_refused_6 : decode cX11_refused 6 = .ok (.ireturn, 1) := by decide +kernel
def M_X11_refused : y_M := (yX11_refused, cX11_refused, 2, (Option.some Jvm.ClassFile.FieldType.int))
theorem n_X11_refused : y_N0 M_X11_refused 1 := ⟨(c_4 114 (by decide +kernel) rfl), (c_1 1 (by decide +kernel) rfl), ⟨by decide +kernel, by decide +kernel⟩, by decide +kernel⟩
theorem Fp_BoxYard_52 {nm : String} : y_Fp "BoxYard" nm 52 11 6 := ⟨_, _, _, rfl, by decide, Or.inl ⟨rfl, Or.inl (c_2 77 (by decide +kernel) rfl)⟩⟩
set_option maxRecDepth 100000 in
def f_X11_refused (p0 : Nat) (p1 : Int32) (h : y_H) : Option (Int32 × y_H) :=
  if y_K h p0 = 12 then
  y_bd (s_I h p0 6 p1) (fun h1 =>
  some (p1, h1))
  else none
abbrev rm_X11_refused : Room := { frames := 0, cells := 0, slots := 0, locals := 0 }
set_option maxRecDepth 100000 in
set_option maxHeartbeats 4000000 in
theorem k_X11_refused {l : Launch} {G : y_G} {p0 : Nat} {p1 : Int32} {h hz : y_H} {rz : Int32} (hf : f_X11_refused p0 p1 h = some (rz, hz)) : y_S l G M_X11_refused rm_X11_refused [y_p p0, .int p1] h (some (.int rz)) hz := by
  refine y_start (lv := [(0, y_p p0), (1, .int p1)]) (by decide) (by simp [lg_sl, y_p_cat, y_ci, y_cj, M_X11_refused]) (by simp [lv_args, y_p_cat, y_ci, y_cj]) (fun z ad0 => ?_)
  unfold f_X11_refused at hf
  refine y_aload_n (x := p0) (pc2 := 1) rfl dX11_refused_0 rfl ?_
  refine y_iload_n (pc2 := 2) rfl dX11_refused_1 rfl ?_
  obtain ⟨g3, hf⟩ := y_g hf
  obtain ⟨h1, e2, hf⟩ := y_bdE hf
  refine y_putI (x := p1) (pc2 := 5) rfl dX11_refused_2 Fp_BoxYard_52 (by decide) rfl g3 e2 ?_
  refine y_iload_n (pc2 := 6) rfl dX11_refused_5 rfl ?_
  exact y_iretF hf dX11_refused_6 rfl (by decide) (by decide)
theorem dX11_ended_0 : decode cX11_ended 0 = .ok (.aload_n 1, 1) := by decide +kernel
theorem dX11_ended_1 : decode cX11_ended 1 = .ok (.iconst 1, 1) := by decide +kernel
theorem dX11_ended_2 : decode cX11_ended 2 = .ok (.putfield 236, 3) := by decide +kernel
theorem dX11_ended_5 : decode cX11_ended 5 = .ok (.iload_n 2, 1) := by decide +kernel
theorem dX11_ended_6 : decode cX11_ended 6 = .ok (.ifCond .ne 16, 3) := by decide +kernel
theorem dX11_ended_9 : decode cX11_ended 9 = .ok (.aload_n 0, 1) := by decide +kernel
theorem dX11_ended_10 : decode cX11_ended 10 = .ok (.iconst 0, 1) := by decide +kernel
theorem dX11_ended_11 : decode cX11_ended 11 = .ok (.putfield 52, 3) := by decide +kernel
theorem dX11_ended_14 : decode cX11_ended 14 = .ok (.aload_n 0, 1) := by decide +kernel
theorem dX11_ended_15 : decode cX11_ended 15 = .ok (.getfield 19, 3) := by decide +kernel
theorem dX11_ended_18 : decode cX11_ended 18 = .ok (.getfield 323, 3) := by decide +kernel
theorem dX11_ended_21 : decode cX11_ended 21 = .ok (.ireturn, 1) := by decide +kernel
theorem dX11_ended_22 : decode cX11_ended 22 = .ok (.aload_n 1, 1) := by decide +kernel
theorem dX11_ended_23 : decode cX11_ended 23 = .ok (.dup, 1) := by decide +kernel
theorem dX11_ended_24 : decode cX11_ended 24 = .ok (.getfield 233, 3) := by decide +kernel
theorem dX11_ended_27 : decode cX11_ended 27 = .ok (.iconst 1, 1) := by decide +kernel
theorem dX11_ended_28 : decode cX11_ended 28 = .ok (.iadd, 1) := by decide +kernel
theorem dX11_ended_29 : decode cX11_ended 29 = .ok (.putfield 233, 3) := by decide +kernel
theorem dX11_ended_32 : decode cX11_ended 32 = .ok (.aload_n 0, 1) := by decide +kernel
theorem dX11_ended_33 : decode cX11_ended 33 = .ok (.iload_n 2, 1) := by decide +kernel
theorem dX11_ended_34 : decode cX11_ended 34 = .ok (.putfield 52, 3) := by decide +kernel
theorem dX11_ended_37 : decode cX11_ended 37 = .ok (.aload_n 0, 1) := by decide +kernel
theorem dX11_ended_38 : decode cX11_ended 38 = .ok (.iload_n 2, 1) := by decide +kernel
theorem dX11_ended_39 : decode cX11_ended 39 = .ok (.invokevirtual 102, 3) := by decide +kernel
theorem dX11_ended_42 : decode cX11_ended 42 = .ok (.ireturn, 1) := by decide +kernel
def M_X11_ended : y_M := (yX11_ended, cX11_ended, 3, (Option.some Jvm.ClassFile.FieldType.int))
theorem n_X11_ended : y_N0 M_X11_ended 2 := ⟨(c_4 132 (by decide +kernel) rfl), (c_1 1 (by decide +kernel) rfl), ⟨by decide +kernel, by decide +kernel⟩, by decide +kernel⟩
theorem Fp_BoxYard_236 {nm : String} : y_Fp "BoxYard" nm 236 3 7 := ⟨_, _, _, rfl, by decide, Or.inl ⟨rfl, Or.inr ⟨"BoxYard", (c_3 208 (by decide +kernel) rfl)⟩⟩⟩
theorem Fp_BoxYard_233 {nm : String} : y_Fp "BoxYard" nm 233 3 6 := ⟨_, _, _, rfl, by decide, Or.inl ⟨rfl, Or.inr ⟨"BoxYard", (c_3 206 (by decide +kernel) rfl)⟩⟩⟩
theorem F_BoxYard_323 : y_F "BoxYard" 323 5 4 := ⟨_, _, _, rfl, by decide, Or.inr ⟨"BoxYard", (c_1 195 (by decide +kernel) rfl)⟩⟩
set_option maxRecDepth 100000 in
def f_X11_ended (p0 : Nat) (p1 : Nat) (p2 : Int32) (h : y_H) : Option (Int32 × y_H) :=
  if y_K h p1 = 4 then
  y_bd (s_B h p1 7 true) (fun h1 =>
  if p2 = 0 then
    if y_K h1 p0 = 12 then
    y_bd (s_I h1 p0 6 0) (fun h15 =>
    if y_K h15 p0 = 12 then
    if y_K h15 (y_P h15 p0 1) = 6 then
    some (y_I h15 (y_P h15 p0 1) 4, h15)
    else none
    else none)
    else none
  else
    if y_K h1 p1 = 4 then
    if y_K h1 p1 = 4 then
    y_bd (s_I h1 p1 6 ((y_I h1 p1 6) + 1)) (fun h4 =>
    if y_K h4 p0 = 12 then
    y_bd (s_I h4 p0 6 p2) (fun h7 =>
    if y_K h7 p0 = 12 then
    y_cl (f_X11_counted p0 p2 h7) (fun r10 h11 =>
    some (r10, h11))
    else none)
    else none)
    else none
    else none)
  else none
abbrev rm_X11_ended : Room := { frames := 1, cells := 0, slots := 0, locals := 22 }
set_option maxRecDepth 100000 in
set_option maxHeartbeats 4000000 in
theorem k_X11_ended {l : Launch} {G : y_G} {p0 : Nat} {p1 : Nat} {p2 : Int32} {h hz : y_H} {rz : Int32} (hf : f_X11_ended p0 p1 p2 h = some (rz, hz)) : y_S l G M_X11_ended rm_X11_ended [y_p p0, y_p p1, .int p2] h (some (.int rz)) hz := by
  refine y_start (lv := [(0, y_p p0), (1, y_p p1), (2, .int p2)]) (by decide) (by simp [lg_sl, y_p_cat, y_ci, y_cj, M_X11_ended]) (by simp [lv_args, y_p_cat, y_ci, y_cj]) (fun z ad0 => ?_)
  unfold f_X11_ended at hf
  refine y_aload_n (x := p1) (pc2 := 1) rfl dX11_ended_0 rfl ?_
  refine y_iconst (v := 1) (pc2 := 2) rfl dX11_ended_1 (by decide) ?_
  obtain ⟨g3, hf⟩ := y_g hf
  obtain ⟨h1, e2, hf⟩ := y_bdE hf
  refine y_putZ (x := true) (pc2 := 5) rfl dX11_ended_2 Fp_BoxYard_236 (by decide) rfl g3 e2 ?_
  refine y_iload_n (pc2 := 6) rfl dX11_ended_5 rfl ?_
  refine y_if_ne (tgt := 22) (pc2 := 9) rfl dX11_ended_6 (by decide) (fun c20 => ?_) (fun c20 => ?_)
  · replace hf := y_ie c20 hf
    refine y_aload_n (x := p1) (pc2 := 23) rfl dX11_ended_22 rfl ?_
    refine y_dup (pc2 := 24) rfl dX11_ended_23 (y_p_cat _) ?_
    obtain ⟨g14, hf⟩ := y_g hf
    refine y_getI (pc2 := 27) rfl dX11_ended_24 F_BoxYard_233 (by decide) rfl g14 ?_
    refine y_iconst (v := 1) (pc2 := 28) rfl dX11_ended_27 (by decide) ?_
    refine y_iadd (pc2 := 29) rfl dX11_ended_28 ?_
    obtain ⟨g6, hf⟩ := y_g hf
    obtain ⟨h4, e5, hf⟩ := y_bdE hf
    refine y_putI (x := (y_I h1 p1 6) + 1) (pc2 := 32) rfl dX11_ended_29 Fp_BoxYard_233 (by decide) rfl g6 e5 ?_
    refine y_aload_n (x := p0) (pc2 := 33) rfl dX11_ended_32 rfl ?_
    refine y_iload_n (pc2 := 34) rfl dX11_ended_33 rfl ?_
    obtain ⟨g9, hf⟩ := y_g hf
    obtain ⟨h7, e8, hf⟩ := y_bdE hf
    refine y_putI (x := p2) (pc2 := 37) rfl dX11_ended_34 Fp_BoxYard_52 (by decide) rfl g9 e8 ?_
    refine y_aload_n (x := p0) (pc2 := 38) rfl dX11_ended_37 rfl ?_
    refine y_iload_n (pc2 := 39) rfl dX11_ended_38 rfl ?_
    obtain ⟨g13, hf⟩ := y_g hf
    obtain ⟨r10, h11, c12, hf⟩ := y_clE hf
    refine y_callV (As := [.int p2]) (rm := rm_X11_counted) (cells := 0) (slots := 0) (pc2 := 42) rfl dX11_ended_39 n_X11_counted l_BoxYard_102 i_X11_counted e_X11_counted (ci := 11) rfl rfl (by decide) g13 rfl rfl (by decide) (by decide) (by decide) (k_X11_counted c12) ?_
    exact y_iretF hf dX11_ended_42 rfl (by decide) (by decide)
  · replace hf := y_it c20 hf
    refine y_aload_n (x := p0) (pc2 := 10) rfl dX11_ended_9 rfl ?_
    refine y_iconst (v := 0) (pc2 := 11) rfl dX11_ended_10 (by decide) ?_
    obtain ⟨g17, hf⟩ := y_g hf
    obtain ⟨h15, e16, hf⟩ := y_bdE hf
    refine y_putI (x := 0) (pc2 := 14) rfl dX11_ended_11 Fp_BoxYard_52 (by decide) rfl g17 e16 ?_
    refine y_aload_n (x := p0) (pc2 := 15) rfl dX11_ended_14 rfl ?_
    obtain ⟨g19, hf⟩ := y_g hf
    refine y_getP (pc2 := 18) rfl dX11_ended_15 F_BoxYard_19 (by decide) rfl g19 ?_
    obtain ⟨g18, hf⟩ := y_g hf
    refine y_getI (pc2 := 21) rfl dX11_ended_18 F_BoxYard_323 (by decide) rfl g18 ?_
    exact y_iretF hf dX11_ended_21 rfl (by decide) (by decide)
theorem dX11_limit_0 : decode cX11_limit 0 = .ok (.aload_n 0, 1) := by decide +kernel
theorem dX11_limit_1 : decode cX11_limit 1 = .ok (.getfield 10, 3) := by decide +kernel
theorem dX11_limit_4 : decode cX11_limit 4 = .ok (.iload_n 1, 1) := by decide +kernel
theorem dX11_limit_5 : decode cX11_limit 5 = .ok (.invokevirtual 287, 3) := by decide +kernel
theorem dX11_limit_8 : decode cX11_limit 8 = .ok (.astore 4, 2) := by decide +kernel
theorem dX11_limit_10 : decode cX11_limit 10 = .ok (.aload 4, 2) := by decide +kernel
theorem dX11_limit_12 : decode cX11_limit 12 = .ok (.ifnonnull 5, 3) := by decide +kernel
theorem dX11_limit_15 : decode cX11_limit 15 = .ok (.iconst (-1), 1) := by decide +kernel
theorem dX11_limit_16 : decode cX11_limit 16 = .ok (.ireturn, 1) := by decide +kernel
theorem dX11_limit_17 : decode cX11_limit 17 = .ok (.iload_n 2, 1) := by decide +kernel
theorem dX11_limit_18 : decode cX11_limit 18 = .ok (.iconst 0, 1) := by decide +kernel
theorem dX11_limit_19 : decode cX11_limit 19 = .ok (.iconst 2, 1) := by decide +kernel
theorem dX11_limit_20 : decode cX11_limit 20 = .ok (.invokestatic 56, 3) := by decide +kernel
theorem dX11_limit_23 : decode cX11_limit 23 = .ok (.ifCond .eq 14, 3) := by decide +kernel
theorem dX11_limit_26 : decode cX11_limit 26 = .ok (.iload_n 3, 1) := by decide +kernel
theorem dX11_limit_27 : decode cX11_limit 27 = .ok (.iconst 0, 1) := by decide +kernel
theorem dX11_limit_28 : decode cX11_limit 28 = .ok (.ldc_w 333, 3) := by decide +kernel
theorem dX11_limit_31 : decode cX11_limit 31 = .ok (.invokestatic 56, 3) := by decide +kernel
theorem dX11_limit_34 : decode cX11_limit 34 = .ok (.ifCond .ne 6, 3) := by decide +kernel
theorem dX11_limit_37 : decode cX11_limit 37 = .ok (.bipush (-2), 2) := by decide +kernel
theorem dX11_limit_39 : decode cX11_limit 39 = .ok (.ireturn, 1) := by decide +kernel
theorem dX11_limit_40 : decode cX11_limit 40 = .ok (.aload 4, 2) := by decide +kernel
theorem dX11_limit_42 : decode cX11_limit 42 = .ok (.getfield 334, 3) := by decide +kernel
theorem dX11_limit_45 : decode cX11_limit 45 = .ok (.iload_n 2, 1) := by decide +kernel
theorem dX11_limit_46 : decode cX11_limit 46 = .ok (.iaload, 1) := by decide +kernel
theorem dX11_limit_47 : decode cX11_limit 47 = .ok (.istore 5, 2) := by decide +kernel
theorem dX11_limit_49 : decode cX11_limit 49 = .ok (.aload 4, 2) := by decide +kernel
theorem dX11_limit_51 : decode cX11_limit 51 = .ok (.getfield 334, 3) := by decide +kernel
theorem dX11_limit_54 : decode cX11_limit 54 = .ok (.iload_n 2, 1) := by decide +kernel
theorem dX11_limit_55 : decode cX11_limit 55 = .ok (.iload_n 3, 1) := by decide +kernel
theorem dX11_limit_56 : decode cX11_limit 56 = .ok (.iastore, 1) := by decide +kernel
theorem dX11_limit_57 : decode cX11_limit 57 = .ok (.iload 5, 2) := by decide +kernel
theorem dX11_limit_59 : decode cX11_limit 59 = .ok (.ireturn, 1) := by decide +kernel
def M_X11_limit : y_M := (yX11_limit, cX11_limit, 6, (Option.some Jvm.ClassFile.FieldType.int))
theorem n_X11_limit : y_N0 M_X11_limit 3 := ⟨(c_5 107 (by decide +kernel) rfl), (c_1 1 (by decide +kernel) rfl), ⟨by decide +kernel, by decide +kernel⟩, by decide +kernel⟩
theorem k_BoxYard_333 : Cond.constant "BoxYard" 333 1000000 ∈ y_tb := (c_5 108 (by decide +kernel) rfl)
theorem F_BoxYard_334 : y_F "BoxYard" 334 7 5 := ⟨_, _, _, rfl, by decide, Or.inr ⟨"BoxYard", (c_5 51 (by decide +kernel) rfl)⟩⟩
set_option maxRecDepth 100000 in
def f_X11_limit (p0 : Nat) (p1 : Int32) (p2 : Int32) (p3 : Int32) (h : y_H) : Option (Int32 × y_H) :=
  if y_K h p0 = 12 then
  if y_K h (y_P h p0 0) = 11 then
  y_cl (f_X10_shipAt (y_P h p0 0) p1 h) (fun r1 h2 =>
  if r1 = 0 then
    some ((-1 : Int32), h2)
  else
    y_cl (f_X11_isWithin p2 0 2 h2) (fun r4 h5 =>
    y_jn (fun (h7 : y_H) => (
        some ((-2 : Int32), h7) : Option (Int32 × y_H))) (fun j37 =>
    if r4 = true then
      y_cl (f_X11_isWithin p3 0 1000000 h5) (fun r8 h9 =>
      if r8 = true then
        if y_K h9 r1 = 8 then
        if y_K h9 (y_P h9 r1 5) = 100 ∧ y_ix p2 (y_N h9 (y_P h9 r1 5)) = true then
        if y_K h9 r1 = 8 then
        if y_K h9 (y_P h9 r1 5) = 100 ∧ y_ix p2 (y_N h9 (y_P h9 r1 5)) = true then
        y_bd (s_I h9 (y_P h9 r1 5) (Int32.toNatClampNeg p2) p3) (fun h11 =>
        some (y_I h9 (y_P h9 r1 5) (Int32.toNatClampNeg p2), h11))
        else none
        else none
        else none
        else none
      else
        j37 h9)
    else
      j37 h5)))
  else none
  else none
abbrev rm_X11_limit : Room := { frames := 2, cells := 0, slots := 0, locals := 43 }
set_option maxRecDepth 100000 in
set_option maxHeartbeats 4000000 in
theorem k_X11_limit {l : Launch} {G : y_G} {p0 : Nat} {p1 : Int32} {p2 : Int32} {p3 : Int32} {h hz : y_H} {rz : Int32} (hf : f_X11_limit p0 p1 p2 p3 h = some (rz, hz)) : y_S l G M_X11_limit rm_X11_limit [y_p p0, .int p1, .int p2, .int p3] h (some (.int rz)) hz := by
  refine y_start (lv := [(0, y_p p0), (1, .int p1), (2, .int p2), (3, .int p3)]) (by decide) (by simp [lg_sl, y_p_cat, y_ci, y_cj, M_X11_limit]) (by simp [lv_args, y_p_cat, y_ci, y_cj]) (fun z ad0 => ?_)
  unfold f_X11_limit at hf
  refine y_aload_n (x := p0) (pc2 := 1) rfl dX11_limit_0 rfl ?_
  obtain ⟨g21, hf⟩ := y_g hf
  refine y_getP (pc2 := 4) rfl dX11_limit_1 F_BoxYard_10 (by decide) rfl g21 ?_
  refine y_iload_n (pc2 := 5) rfl dX11_limit_4 rfl ?_
  obtain ⟨g20, hf⟩ := y_g hf
  obtain ⟨r1, h2, c3, hf⟩ := y_clE hf
  refine y_callV (As := [.int p1]) (rm := rm_X10_shipAt) (cells := 0) (slots := 0) (pc2 := 8) rfl dX11_limit_5 n_X10_shipAt l_BoxYard_287 i_X10_shipAt e_X10_shipAt (ci := 10) rfl rfl (by decide) g20 rfl rfl (by decide) (by decide) (by decide) (k_X10_shipAt c3) ?_
  refine y_astore (lv' := [(4, y_p r1), (0, y_p p0), (1, .int p1), (2, .int p2), (3, .int p3)]) (pc2 := 10) rfl dX11_limit_8 (by decide) rfl ?_
  refine y_aload (x := r1) (pc2 := 12) rfl dX11_limit_10 rfl ?_
  refine y_ifnonnull (tgt := 17) (pc2 := 15) rfl dX11_limit_12 (by decide) (fun c19 => ?_) (fun c19 => ?_)
  · replace hf := y_ie c19 hf
    refine y_iload_n (pc2 := 18) rfl dX11_limit_17 rfl ?_
    refine y_iconst (v := 0) (pc2 := 19) rfl dX11_limit_18 (by decide) ?_
    refine y_iconst (v := 2) (pc2 := 20) rfl dX11_limit_19 (by decide) ?_
    obtain ⟨r4, h5, c6, hf⟩ := y_clE hf
    refine y_callS (As := [.int p2, .int 0, .int 2]) (rm := rm_X11_isWithin) (cells := 0) (slots := 0) (pc2 := 23) rfl dX11_limit_20 n_X11_isWithin l_BoxYard_56 t_X11_isWithin rfl rfl (by decide) (by decide) (by decide) (k_X11_isWithin c6) ?_
    refine y_jnE hf (fun j => ∀ (h7 : y_H), j h7 = some (rz, hz) → y_V l G z rm_X11_limit M_X11_limit ad0 h (some (.int rz)) hz 37 [] [] h7 0 0) (fun h7 hf => ?_) (fun j37 hj37 hf => ?_)
    · refine y_bipush (v := (-2 : Int32)) (pc2 := 39) rfl dX11_limit_37 (by decide) ?_
      exact y_iretF hf dX11_limit_39 rfl (by decide) (by decide)
    · refine y_ifz_eq (tgt := 37) (pc2 := 26) rfl dX11_limit_23 (by decide) (fun c18 => ?_) (fun c18 => ?_)
      · replace hf := y_ie c18 hf
        exact y_pk [] rfl (hj37 _ hf)
      · replace hf := y_it c18 hf
        refine y_iload_n (pc2 := 27) rfl dX11_limit_26 rfl ?_
        refine y_iconst (v := 0) (pc2 := 28) rfl dX11_limit_27 (by decide) ?_
        refine y_ldcw (v := 1000000) (pc2 := 31) rfl dX11_limit_28 k_BoxYard_333 ?_
        obtain ⟨r8, h9, c10, hf⟩ := y_clE hf
        refine y_callS (As := [.int p3, .int 0, .int 1000000]) (rm := rm_X11_isWithin) (cells := 0) (slots := 0) (pc2 := 34) rfl dX11_limit_31 n_X11_isWithin l_BoxYard_56 t_X11_isWithin rfl rfl (by decide) (by decide) (by decide) (k_X11_isWithin c10) ?_
        refine y_ifz_ne (tgt := 40) (pc2 := 37) rfl dX11_limit_34 (by decide) (fun c17 => ?_) (fun c17 => ?_)
        · replace hf := y_it c17 hf
          refine y_aload (x := r1) (pc2 := 42) rfl dX11_limit_40 rfl ?_
          obtain ⟨g16, hf⟩ := y_g hf
          refine y_getP (pc2 := 45) rfl dX11_limit_42 F_BoxYard_334 (by decide) rfl g16 ?_
          refine y_iload_n (pc2 := 46) rfl dX11_limit_45 rfl ?_
          obtain ⟨g15, hf⟩ := y_g hf
          refine y_iald (pc2 := 47) rfl dX11_limit_46 g15.1 (y_ix_in g15.2) ?_
          refine y_istore (lv' := [(5, .int (y_I h9 (y_P h9 r1 5) (Int32.toNatClampNeg p2))), (4, y_p r1), (0, y_p p0), (1, .int p1), (2, .int p2), (3, .int p3)]) (pc2 := 49) rfl dX11_limit_47 (by decide) (by show y_st1 _ 5 _ = _; simp [y_st1, y_p_cat, y_ci, y_cj]) ?_
          refine y_aload (x := r1) (pc2 := 51) rfl dX11_limit_49 rfl ?_
          obtain ⟨g14, hf⟩ := y_g hf
          refine y_getP (pc2 := 54) rfl dX11_limit_51 F_BoxYard_334 (by decide) rfl g14 ?_
          refine y_iload_n (pc2 := 55) rfl dX11_limit_54 rfl ?_
          refine y_iload_n (pc2 := 56) rfl dX11_limit_55 rfl ?_
          obtain ⟨g13, hf⟩ := y_g hf
          obtain ⟨h11, e12, hf⟩ := y_bdE hf
          refine y_iast (x := p3) (pc2 := 57) rfl dX11_limit_56 g13.1 (y_ix_in g13.2) e12 ?_
          refine y_iload (pc2 := 59) rfl dX11_limit_57 rfl ?_
          exact y_iretF hf dX11_limit_59 rfl (by decide) (by decide)
        · replace hf := y_ie c17 hf
          exact y_pk [] rfl (hj37 _ hf)
  · replace hf := y_it c19 hf
    refine y_iconst (v := (-1 : Int32)) (pc2 := 16) rfl dX11_limit_15 (by decide) ?_
    exact y_iretF hf dX11_limit_16 rfl (by decide) (by decide)
theorem dX11_route_0 : decode cX11_route 0 = .ok (.aload_n 0, 1) := by decide +kernel
theorem dX11_route_1 : decode cX11_route 1 = .ok (.getfield 10, 3) := by decide +kernel
theorem dX11_route_4 : decode cX11_route 4 = .ok (.iload_n 1, 1) := by decide +kernel
theorem dX11_route_5 : decode cX11_route 5 = .ok (.invokevirtual 287, 3) := by decide +kernel
theorem dX11_route_8 : decode cX11_route 8 = .ok (.astore_n 3, 1) := by decide +kernel
theorem dX11_route_9 : decode cX11_route 9 = .ok (.aload_n 3, 1) := by decide +kernel
theorem dX11_route_10 : decode cX11_route 10 = .ok (.ifnonnull 5, 3) := by decide +kernel
theorem dX11_route_13 : decode cX11_route 13 = .ok (.iconst (-1), 1) := by decide +kernel
theorem dX11_route_14 : decode cX11_route 14 = .ok (.ireturn, 1) := by decide +kernel
theorem dX11_route_15 : decode cX11_route 15 = .ok (.iload_n 2, 1) := by decide +kernel
theorem dX11_route_16 : decode cX11_route 16 = .ok (.iconst 0, 1) := by decide +kernel
theorem dX11_route_17 : decode cX11_route 17 = .ok (.bipush 7, 2) := by decide +kernel
theorem dX11_route_19 : decode cX11_route 19 = .ok (.invokestatic 56, 3) := by decide +kernel
theorem dX11_route_22 : decode cX11_route 22 = .ok (.ifCond .ne 6, 3) := by decide +kernel
theorem dX11_route_25 : decode cX11_route 25 = .ok (.bipush (-2), 2) := by decide +kernel
theorem dX11_route_27 : decode cX11_route 27 = .ok (.ireturn, 1) := by decide +kernel
theorem dX11_route_28 : decode cX11_route 28 = .ok (.aload_n 3, 1) := by decide +kernel
theorem dX11_route_29 : decode cX11_route 29 = .ok (.iload_n 2, 1) := by decide +kernel
theorem dX11_route_30 : decode cX11_route 30 = .ok (.invokevirtual 337, 3) := by decide +kernel
theorem dX11_route_33 : decode cX11_route 33 = .ok (.ifCond .lt 6, 3) := by decide +kernel
theorem dX11_route_36 : decode cX11_route 36 = .ok (.bipush (-3), 2) := by decide +kernel
theorem dX11_route_38 : decode cX11_route 38 = .ok (.ireturn, 1) := by decide +kernel
theorem dX11_route_39 : decode cX11_route 39 = .ok (.aload_n 3, 1) := by decide +kernel
theorem dX11_route_40 : decode cX11_route 40 = .ok (.iload_n 2, 1) := by decide +kernel
theorem dX11_route_41 : decode cX11_route 41 = .ok (.invokevirtual 340, 3) := by decide +kernel
theorem dX11_route_44 : decode cX11_route 44 = .ok (.ireturn, 1) := by decide +kernel
def M_X11_route : y_M := (yX11_route, cX11_route, 4, (Option.some Jvm.ClassFile.FieldType.int))
theorem n_X11_route : y_N0 M_X11_route 2 := ⟨(c_5 112 (by decide +kernel) rfl), (c_1 1 (by decide +kernel) rfl), ⟨by decide +kernel, by decide +kernel⟩, by decide +kernel⟩
theorem l_BoxYard_337 : y_lnk "BoxYard" 337 M_X7_indexOfPort := Or.inl (c_5 113 (by decide +kernel) rfl)
theorem l_BoxYard_340 : y_lnk "BoxYard" 340 M_X7_addPort := Or.inl (c_5 114 (by decide +kernel) rfl)
theorem i_X7_addPort : Cond.instanceMethod (M_X7_addPort).1 ∈ y_tb := (c_5 115 (by decide +kernel) rfl)
theorem e_X7_addPort : Cond.selects (M_X7_addPort).1.cls (M_X7_addPort).1 (M_X7_addPort).1 ∈ y_tb := (c_5 116 (by decide +kernel) rfl)
set_option maxRecDepth 100000 in
def f_X11_route (p0 : Nat) (p1 : Int32) (p2 : Int32) (h : y_H) : Option (Int32 × y_H) :=
  if y_K h p0 = 12 then
  if y_K h (y_P h p0 0) = 11 then
  y_cl (f_X10_shipAt (y_P h p0 0) p1 h) (fun r1 h2 =>
  if r1 = 0 then
    some ((-1 : Int32), h2)
  else
    y_cl (f_X11_isWithin p2 0 7 h2) (fun r4 h5 =>
    if r4 = true then
      if y_K h5 r1 = 8 then
      y_cl (f_X7_indexOfPort r1 p2 h5) (fun r7 h8 =>
      if r7 < 0 then
        if y_K h8 r1 = 8 then
        y_cl (f_X7_addPort r1 p2 h8) (fun r10 h11 =>
        some (r10, h11))
        else none
      else
        some ((-3 : Int32), h8))
      else none
    else
      some ((-2 : Int32), h5)))
  else none
  else none
abbrev rm_X11_route : Room := { frames := 2, cells := 0, slots := 0, locals := 43 }
set_option maxRecDepth 100000 in
set_option maxHeartbeats 4000000 in
theorem k_X11_route {l : Launch} {G : y_G} {p0 : Nat} {p1 : Int32} {p2 : Int32} {h hz : y_H} {rz : Int32} (hf : f_X11_route p0 p1 p2 h = some (rz, hz)) : y_S l G M_X11_route rm_X11_route [y_p p0, .int p1, .int p2] h (some (.int rz)) hz := by
  refine y_start (lv := [(0, y_p p0), (1, .int p1), (2, .int p2)]) (by decide) (by simp [lg_sl, y_p_cat, y_ci, y_cj, M_X11_route]) (by simp [lv_args, y_p_cat, y_ci, y_cj]) (fun z ad0 => ?_)
  unfold f_X11_route at hf
  refine y_aload_n (x := p0) (pc2 := 1) rfl dX11_route_0 rfl ?_
  obtain ⟨g19, hf⟩ := y_g hf
  refine y_getP (pc2 := 4) rfl dX11_route_1 F_BoxYard_10 (by decide) rfl g19 ?_
  refine y_iload_n (pc2 := 5) rfl dX11_route_4 rfl ?_
  obtain ⟨g18, hf⟩ := y_g hf
  obtain ⟨r1, h2, c3, hf⟩ := y_clE hf
  refine y_callV (As := [.int p1]) (rm := rm_X10_shipAt) (cells := 0) (slots := 0) (pc2 := 8) rfl dX11_route_5 n_X10_shipAt l_BoxYard_287 i_X10_shipAt e_X10_shipAt (ci := 10) rfl rfl (by decide) g18 rfl rfl (by decide) (by decide) (by decide) (k_X10_shipAt c3) ?_
  refine y_astore_n (lv' := [(3, y_p r1), (0, y_p p0), (1, .int p1), (2, .int p2)]) (pc2 := 9) rfl dX11_route_8 (by decide) rfl ?_
  refine y_aload_n (x := r1) (pc2 := 10) rfl dX11_route_9 rfl ?_
  refine y_ifnonnull (tgt := 15) (pc2 := 13) rfl dX11_route_10 (by decide) (fun c17 => ?_) (fun c17 => ?_)
  · replace hf := y_ie c17 hf
    refine y_iload_n (pc2 := 16) rfl dX11_route_15 rfl ?_
    refine y_iconst (v := 0) (pc2 := 17) rfl dX11_route_16 (by decide) ?_
    refine y_bipush (v := 7) (pc2 := 19) rfl dX11_route_17 (by decide) ?_
    obtain ⟨r4, h5, c6, hf⟩ := y_clE hf
    refine y_callS (As := [.int p2, .int 0, .int 7]) (rm := rm_X11_isWithin) (cells := 0) (slots := 0) (pc2 := 22) rfl dX11_route_19 n_X11_isWithin l_BoxYard_56 t_X11_isWithin rfl rfl (by decide) (by decide) (by decide) (k_X11_isWithin c6) ?_
    refine y_ifz_ne (tgt := 28) (pc2 := 25) rfl dX11_route_22 (by decide) (fun c16 => ?_) (fun c16 => ?_)
    · replace hf := y_it c16 hf
      refine y_aload_n (x := r1) (pc2 := 29) rfl dX11_route_28 rfl ?_
      refine y_iload_n (pc2 := 30) rfl dX11_route_29 rfl ?_
      obtain ⟨g15, hf⟩ := y_g hf
      obtain ⟨r7, h8, c9, hf⟩ := y_clE hf
      refine y_callV (As := [.int p2]) (rm := rm_X7_indexOfPort) (cells := 0) (slots := 0) (pc2 := 33) rfl dX11_route_30 n_X7_indexOfPort l_BoxYard_337 i_X7_indexOfPort e_X7_indexOfPort (ci := 7) rfl rfl (by decide) g15 rfl rfl (by decide) (by decide) (by decide) (k_X7_indexOfPort c9) ?_
      refine y_if_lt (tgt := 39) (pc2 := 36) rfl dX11_route_33 (by decide) (fun c14 => ?_) (fun c14 => ?_)
      · replace hf := y_it c14 hf
        refine y_aload_n (x := r1) (pc2 := 40) rfl dX11_route_39 rfl ?_
        refine y_iload_n (pc2 := 41) rfl dX11_route_40 rfl ?_
        obtain ⟨g13, hf⟩ := y_g hf
        obtain ⟨r10, h11, c12, hf⟩ := y_clE hf
        refine y_callV (As := [.int p2]) (rm := rm_X7_addPort) (cells := 0) (slots := 0) (pc2 := 44) rfl dX11_route_41 n_X7_addPort l_BoxYard_340 i_X7_addPort e_X7_addPort (ci := 7) rfl rfl (by decide) g13 rfl rfl (by decide) (by decide) (by decide) (k_X7_addPort c12) ?_
        exact y_iretF hf dX11_route_44 rfl (by decide) (by decide)
      · replace hf := y_ie c14 hf
        refine y_bipush (v := (-3 : Int32)) (pc2 := 38) rfl dX11_route_36 (by decide) ?_
        exact y_iretF hf dX11_route_38 rfl (by decide) (by decide)
    · replace hf := y_ie c16 hf
      refine y_bipush (v := (-2 : Int32)) (pc2 := 27) rfl dX11_route_25 (by decide) ?_
      exact y_iretF hf dX11_route_27 rfl (by decide) (by decide)
  · replace hf := y_it c17 hf
    refine y_iconst (v := (-1 : Int32)) (pc2 := 14) rfl dX11_route_13 (by decide) ?_
    exact y_iretF hf dX11_route_14 rfl (by decide) (by decide)
theorem dX11_isLinkNumber_0 : decode cX11_isLinkNumber 0 = .ok (.iload_n 0, 1) := by decide +kernel
theorem dX11_isLinkNumber_1 : decode cX11_isLinkNumber 1 = .ok (.bipush (-9), 2) := by decide +kernel
theorem dX11_isLinkNumber_3 : decode cX11_isLinkNumber 3 = .ok (.bipush 9, 2) := by decide +kernel
theorem dX11_isLinkNumber_5 : decode cX11_isLinkNumber 5 = .ok (.invokestatic 56, 3) := by decide +kernel
theorem dX11_isLinkNumber_8 : decode cX11_isLinkNumber 8 = .ok (.ireturn, 1) := by decide +kernel
def M_X11_isLinkNumber : y_M := (yX11_isLinkNumber, cX11_isLinkNumber, 1, (Option.some Jvm.ClassFile.FieldType.boolean))
theorem n_X11_isLinkNumber : y_N0 M_X11_isLinkNumber 1 := ⟨(c_5 124 (by decide +kernel) rfl), (c_1 1 (by decide +kernel) rfl), ⟨by decide +kernel, by decide +kernel⟩, by decide +kernel⟩
set_option maxRecDepth 100000 in
def f_X11_isLinkNumber (p0 : Int32) (h : y_H) : Option (Bool × y_H) :=
  y_cl (f_X11_isWithin p0 (-9 : Int32) 9 h) (fun r1 h2 =>
  some (r1, h2))
abbrev rm_X11_isLinkNumber : Room := { frames := 1, cells := 0, slots := 0, locals := 22 }
set_option maxRecDepth 100000 in
set_option maxHeartbeats 4000000 in
theorem k_X11_isLinkNumber {l : Launch} {G : y_G} {p0 : Int32} {h hz : y_H} {rz : Bool} (hf : f_X11_isLinkNumber p0 h = some (rz, hz)) : y_S l G M_X11_isLinkNumber rm_X11_isLinkNumber [.int p0] h (some (.int (y_z rz))) hz := by
  refine y_start (lv := [(0, .int p0)]) (by decide) (by simp [lg_sl, y_p_cat, y_ci, y_cj, M_X11_isLinkNumber]) (by simp [lv_args, y_p_cat, y_ci, y_cj]) (fun z ad0 => ?_)
  unfold f_X11_isLinkNumber at hf
  refine y_iload_n (pc2 := 1) rfl dX11_isLinkNumber_0 rfl ?_
  refine y_bipush (v := (-9 : Int32)) (pc2 := 3) rfl dX11_isLinkNumber_1 (by decide) ?_
  refine y_bipush (v := 9) (pc2 := 5) rfl dX11_isLinkNumber_3 (by decide) ?_
  obtain ⟨r1, h2, c3, hf⟩ := y_clE hf
  refine y_callS (As := [.int p0, .int (-9 : Int32), .int 9]) (rm := rm_X11_isWithin) (cells := 0) (slots := 0) (pc2 := 8) rfl dX11_isLinkNumber_5 n_X11_isWithin l_BoxYard_56 t_X11_isWithin rfl rfl (by decide) (by decide) (by decide) (k_X11_isWithin c3) ?_
  exact y_zretF hf dX11_isLinkNumber_8 rfl (by decide) (by decide)
theorem dX11_plan_0 : decode cX11_plan 0 = .ok (.aload_n 0, 1) := by decide +kernel
theorem dX11_plan_1 : decode cX11_plan 1 = .ok (.getfield 10, 3) := by decide +kernel
theorem dX11_plan_4 : decode cX11_plan 4 = .ok (.iload_n 1, 1) := by decide +kernel
theorem dX11_plan_5 : decode cX11_plan 5 = .ok (.invokevirtual 85, 3) := by decide +kernel
theorem dX11_plan_8 : decode cX11_plan 8 = .ok (.astore 6, 2) := by decide +kernel
theorem dX11_plan_10 : decode cX11_plan 10 = .ok (.aload 6, 2) := by decide +kernel
theorem dX11_plan_12 : decode cX11_plan 12 = .ok (.ifnull 20, 3) := by decide +kernel
theorem dX11_plan_15 : decode cX11_plan 15 = .ok (.iload_n 2, 1) := by decide +kernel
theorem dX11_plan_16 : decode cX11_plan 16 = .ok (.bipush (-9), 2) := by decide +kernel
theorem dX11_plan_18 : decode cX11_plan 18 = .ok (.if_icmp .eq 16, 3) := by decide +kernel
theorem dX11_plan_21 : decode cX11_plan 21 = .ok (.aload_n 0, 1) := by decide +kernel
theorem dX11_plan_22 : decode cX11_plan 22 = .ok (.getfield 10, 3) := by decide +kernel
theorem dX11_plan_25 : decode cX11_plan 25 = .ok (.iload_n 2, 1) := by decide +kernel
theorem dX11_plan_26 : decode cX11_plan 26 = .ok (.invokevirtual 287, 3) := by decide +kernel
theorem dX11_plan_29 : decode cX11_plan 29 = .ok (.ifnonnull 5, 3) := by decide +kernel
theorem dX11_plan_32 : decode cX11_plan 32 = .ok (.iconst (-1), 1) := by decide +kernel
theorem dX11_plan_33 : decode cX11_plan 33 = .ok (.ireturn, 1) := by decide +kernel
theorem dX11_plan_34 : decode cX11_plan 34 = .ok (.iload_n 2, 1) := by decide +kernel
theorem dX11_plan_35 : decode cX11_plan 35 = .ok (.bipush (-9), 2) := by decide +kernel
theorem dX11_plan_37 : decode cX11_plan 37 = .ok (.if_icmp .eq 29, 3) := by decide +kernel
theorem dX11_plan_40 : decode cX11_plan 40 = .ok (.iload_n 3, 1) := by decide +kernel
theorem dX11_plan_41 : decode cX11_plan 41 = .ok (.invokestatic 343, 3) := by decide +kernel
theorem dX11_plan_44 : decode cX11_plan 44 = .ok (.ifCond .eq 19, 3) := by decide +kernel
theorem dX11_plan_47 : decode cX11_plan 47 = .ok (.iload 4, 2) := by decide +kernel
theorem dX11_plan_49 : decode cX11_plan 49 = .ok (.invokestatic 343, 3) := by decide +kernel
theorem dX11_plan_52 : decode cX11_plan 52 = .ok (.ifCond .eq 11, 3) := by decide +kernel
theorem dX11_plan_55 : decode cX11_plan 55 = .ok (.iload 5, 2) := by decide +kernel
theorem dX11_plan_57 : decode cX11_plan 57 = .ok (.invokestatic 343, 3) := by decide +kernel
theorem dX11_plan_60 : decode cX11_plan 60 = .ok (.ifCond .ne 6, 3) := by decide +kernel
theorem dX11_plan_63 : decode cX11_plan 63 = .ok (.bipush (-2), 2) := by decide +kernel
theorem dX11_plan_65 : decode cX11_plan 65 = .ok (.ireturn, 1) := by decide +kernel
theorem dX11_plan_66 : decode cX11_plan 66 = .ok (.aload 6, 2) := by decide +kernel
theorem dX11_plan_68 : decode cX11_plan 68 = .ok (.getfield 106, 3) := by decide +kernel
theorem dX11_plan_71 : decode cX11_plan 71 = .ok (.iconst 3, 1) := by decide +kernel
theorem dX11_plan_72 : decode cX11_plan 72 = .ok (.if_icmp .ne 6, 3) := by decide +kernel
theorem dX11_plan_75 : decode cX11_plan 75 = .ok (.bipush (-3), 2) := by decide +kernel
theorem dX11_plan_77 : decode cX11_plan 77 = .ok (.ireturn, 1) := by decide +kernel
theorem dX11_plan_78 : decode cX11_plan 78 = .ok (.aload 6, 2) := by decide +kernel
theorem dX11_plan_80 : decode cX11_plan 80 = .ok (.iload_n 2, 1) := by decide +kernel
theorem dX11_plan_81 : decode cX11_plan 81 = .ok (.iload_n 3, 1) := by decide +kernel
theorem dX11_plan_82 : decode cX11_plan 82 = .ok (.iload 4, 2) := by decide +kernel
theorem dX11_plan_84 : decode cX11_plan 84 = .ok (.iload 5, 2) := by decide +kernel
theorem dX11_plan_86 : decode cX11_plan 86 = .ok (.invokevirtual 346, 3) := by decide +kernel
theorem dX11_plan_89 : decode cX11_plan 89 = .ok (.aload_n 0, 1) := by decide +kernel
theorem dX11_plan_90 : decode cX11_plan 90 = .ok (.getfield 10, 3) := by decide +kernel
theorem dX11_plan_93 : decode cX11_plan 93 = .ok (.aload 6, 2) := by decide +kernel
theorem dX11_plan_95 : decode cX11_plan 95 = .ok (.invokevirtual 349, 3) := by decide +kernel
theorem dX11_plan_98 : decode cX11_plan 98 = .ok (.iconst 1, 1) := by decide +kernel
theorem dX11_plan_99 : decode cX11_plan 99 = .ok (.ireturn, 1) := by decide +kernel
def M_X11_plan : y_M := (yX11_plan, cX11_plan, 7, (Option.some Jvm.ClassFile.FieldType.int))
theorem n_X11_plan : y_N0 M_X11_plan 5 := ⟨(c_5 121 (by decide +kernel) rfl), (c_1 1 (by decide +kernel) rfl), ⟨by decide +kernel, by decide +kernel⟩, by decide +kernel⟩
theorem l_BoxYard_346 : y_lnk "BoxYard" 346 M_X2_link := Or.inl (c_5 125 (by decide +kernel) rfl)
theorem l_BoxYard_349 : y_lnk "BoxYard" 349 M_X10_tellLink := Or.inl (c_5 126 (by decide +kernel) rfl)
theorem i_X10_tellLink : Cond.instanceMethod (M_X10_tellLink).1 ∈ y_tb := (c_5 127 (by decide +kernel) rfl)
theorem e_X10_tellLink : Cond.selects (M_X10_tellLink).1.cls (M_X10_tellLink).1 (M_X10_tellLink).1 ∈ y_tb := (c_5 128 (by decide +kernel) rfl)
theorem l_BoxYard_343 : y_lnk "BoxYard" 343 M_X11_isLinkNumber := Or.inl (c_5 122 (by decide +kernel) rfl)
theorem t_X11_isLinkNumber : Cond.static (M_X11_isLinkNumber).1 ∈ y_tb := (c_5 123 (by decide +kernel) rfl)
set_option maxRecDepth 100000 in
def f_X11_plan (p0 : Nat) (p1 : Int32) (p2 : Int32) (p3 : Int32) (p4 : Int32) (p5 : Int32) (h : y_H) : Option (Int32 × y_H) :=
  if y_K h p0 = 12 then
  if y_K h (y_P h p0 0) = 11 then
  y_cl (f_X10_boxAt (y_P h p0 0) p1 h) (fun r1 h2 =>
  y_jn (fun (h4 : y_H) => (
      some ((-1 : Int32), h4) : Option (Int32 × y_H))) (fun j32 =>
  if r1 = 0 then
    j32 h2
  else
    y_jn (fun (v0_34 : Nat) (v2_34 : Int32) (v3_34 : Int32) (v4_34 : Int32) (v5_34 : Int32) (v6_34 : Nat) (h5 : y_H) => (
        y_jn (fun (v0_66 : Nat) (v2_66 : Int32) (v3_66 : Int32) (v4_66 : Int32) (v5_66 : Int32) (v6_66 : Nat) (h6 : y_H) => (
            if y_K h6 v6_66 = 3 then
            if (y_I h6 v6_66 6) = 3 then
              some ((-3 : Int32), h6)
            else
              if y_K h6 v6_66 = 3 then
              y_cl (f_X2_link v6_66 v2_66 v3_66 v4_66 v5_66 h6) (fun _ h7 =>
              if y_K h7 v0_66 = 12 then
              if y_K h7 (y_P h7 v0_66 0) = 11 then
              y_cl (f_X10_tellLink (y_P h7 v0_66 0) v6_66 h7) (fun _ h9 =>
              some (1, h9))
              else none
              else none)
              else none
            else none : Option (Int32 × y_H))) (fun j66 =>
        if v2_34 = (-9 : Int32) then
          j66 v0_34 v2_34 v3_34 v4_34 v5_34 v6_34 h5
        else
          y_cl (f_X11_isLinkNumber v3_34 h5) (fun r16 h17 =>
          y_jn (fun (h19 : y_H) => (
              some ((-2 : Int32), h19) : Option (Int32 × y_H))) (fun j63 =>
          if r16 = true then
            y_cl (f_X11_isLinkNumber v4_34 h17) (fun r20 h21 =>
            if r20 = true then
              y_cl (f_X11_isLinkNumber v5_34 h21) (fun r23 h24 =>
              if r23 = true then
                j66 v0_34 v2_34 v3_34 v4_34 v5_34 v6_34 h24
              else
                j63 h24)
            else
              j63 h21)
          else
            j63 h17))) : Option (Int32 × y_H))) (fun j34 =>
    if p2 = (-9 : Int32) then
      j34 p0 p2 p3 p4 p5 r1 h2
    else
      if y_K h2 p0 = 12 then
      if y_K h2 (y_P h2 p0 0) = 11 then
      y_cl (f_X10_shipAt (y_P h2 p0 0) p2 h2) (fun r30 h31 =>
      if r30 = 0 then
        j32 h31
      else
        j34 p0 p2 p3 p4 p5 r1 h31)
      else none
      else none)))
  else none
  else none
abbrev rm_X11_plan : Room := { frames := 2, cells := 0, slots := 0, locals := 43 }
set_option maxRecDepth 100000 in
set_option maxHeartbeats 4000000 in
theorem k_X11_plan {l : Launch} {G : y_G} {p0 : Nat} {p1 : Int32} {p2 : Int32} {p3 : Int32} {p4 : Int32} {p5 : Int32} {h hz : y_H} {rz : Int32} (hf : f_X11_plan p0 p1 p2 p3 p4 p5 h = some (rz, hz)) : y_S l G M_X11_plan rm_X11_plan [y_p p0, .int p1, .int p2, .int p3, .int p4, .int p5] h (some (.int rz)) hz := by
  refine y_start (lv := [(0, y_p p0), (1, .int p1), (2, .int p2), (3, .int p3), (4, .int p4), (5, .int p5)]) (by decide) (by simp [lg_sl, y_p_cat, y_ci, y_cj, M_X11_plan]) (by simp [lv_args, y_p_cat, y_ci, y_cj]) (fun z ad0 => ?_)
  unfold f_X11_plan at hf
  refine y_aload_n (x := p0) (pc2 := 1) rfl dX11_plan_0 rfl ?_
  obtain ⟨g39, hf⟩ := y_g hf
  refine y_getP (pc2 := 4) rfl dX11_plan_1 F_BoxYard_10 (by decide) rfl g39 ?_
  refine y_iload_n (pc2 := 5) rfl dX11_plan_4 rfl ?_
  obtain ⟨g38, hf⟩ := y_g hf
  obtain ⟨r1, h2, c3, hf⟩ := y_clE hf
  refine y_callV (As := [.int p1]) (rm := rm_X10_boxAt) (cells := 0) (slots := 0) (pc2 := 8) rfl dX11_plan_5 n_X10_boxAt l_BoxYard_85 i_X10_boxAt e_X10_boxAt (ci := 10) rfl rfl (by decide) g38 rfl rfl (by decide) (by decide) (by decide) (k_X10_boxAt c3) ?_
  refine y_astore (lv' := [(6, y_p r1), (0, y_p p0), (1, .int p1), (2, .int p2), (3, .int p3), (4, .int p4), (5, .int p5)]) (pc2 := 10) rfl dX11_plan_8 (by decide) rfl ?_
  refine y_aload (x := r1) (pc2 := 12) rfl dX11_plan_10 rfl ?_
  refine y_jnE hf (fun j => ∀ (h4 : y_H), j h4 = some (rz, hz) → y_V l G z rm_X11_plan M_X11_plan ad0 h (some (.int rz)) hz 32 [] [] h4 0 0) (fun h4 hf => ?_) (fun j32 hj32 hf => ?_)
  · refine y_iconst (v := (-1 : Int32)) (pc2 := 33) rfl dX11_plan_32 (by decide) ?_
    exact y_iretF hf dX11_plan_33 rfl (by decide) (by decide)
  · refine y_ifnull (tgt := 32) (pc2 := 15) rfl dX11_plan_12 (by decide) (fun c37 => ?_) (fun c37 => ?_)
    · replace hf := y_it c37 hf
      exact y_pk [] rfl (hj32 _ hf)
    · replace hf := y_ie c37 hf
      refine y_iload_n (pc2 := 16) rfl dX11_plan_15 rfl ?_
      refine y_bipush (v := (-9 : Int32)) (pc2 := 18) rfl dX11_plan_16 (by decide) ?_
      refine y_jnE hf (fun j => ∀ (v0_34 : Nat) (v2_34 : Int32) (v3_34 : Int32) (v4_34 : Int32) (v5_34 : Int32) (v6_34 : Nat) (h5 : y_H), j v0_34 v2_34 v3_34 v4_34 v5_34 v6_34 h5 = some (rz, hz) → y_V l G z rm_X11_plan M_X11_plan ad0 h (some (.int rz)) hz 34 [(0, y_p v0_34), (2, .int v2_34), (3, .int v3_34), (4, .int v4_34), (5, .int v5_34), (6, y_p v6_34)] [] h5 0 0) (fun v0_34 v2_34 v3_34 v4_34 v5_34 v6_34 h5 hf => ?_) (fun j34 hj34 hf => ?_)
      · refine y_iload_n (pc2 := 35) rfl dX11_plan_34 rfl ?_
        refine y_bipush (v := (-9 : Int32)) (pc2 := 37) rfl dX11_plan_35 (by decide) ?_
        refine y_jnE hf (fun j => ∀ (v0_66 : Nat) (v2_66 : Int32) (v3_66 : Int32) (v4_66 : Int32) (v5_66 : Int32) (v6_66 : Nat) (h6 : y_H), j v0_66 v2_66 v3_66 v4_66 v5_66 v6_66 h6 = some (rz, hz) → y_V l G z rm_X11_plan M_X11_plan ad0 h (some (.int rz)) hz 66 [(0, y_p v0_66), (2, .int v2_66), (3, .int v3_66), (4, .int v4_66), (5, .int v5_66), (6, y_p v6_66)] [] h6 0 0) (fun v0_66 v2_66 v3_66 v4_66 v5_66 v6_66 h6 hf => ?_) (fun j66 hj66 hf => ?_)
        · refine y_aload (x := v6_66) (pc2 := 68) rfl dX11_plan_66 rfl ?_
          obtain ⟨g15, hf⟩ := y_g hf
          refine y_getI (pc2 := 71) rfl dX11_plan_68 F_BoxYard_106 (by decide) rfl g15 ?_
          refine y_iconst (v := 3) (pc2 := 72) rfl dX11_plan_71 (by decide) ?_
          refine y_icmp_ne (tgt := 78) (pc2 := 75) rfl dX11_plan_72 (by decide) (fun c14 => ?_) (fun c14 => ?_)
          · replace hf := y_ie c14 hf
            refine y_aload (x := v6_66) (pc2 := 80) rfl dX11_plan_78 rfl ?_
            refine y_iload_n (pc2 := 81) rfl dX11_plan_80 rfl ?_
            refine y_iload_n (pc2 := 82) rfl dX11_plan_81 rfl ?_
            refine y_iload (pc2 := 84) rfl dX11_plan_82 rfl ?_
            refine y_iload (pc2 := 86) rfl dX11_plan_84 rfl ?_
            obtain ⟨g13, hf⟩ := y_g hf
            obtain ⟨r_, h7, c8, hf⟩ := y_clE hf
            refine y_callV (As := [.int v2_66, .int v3_66, .int v4_66, .int v5_66]) (rm := rm_X2_link) (cells := 0) (slots := 0) (pc2 := 89) rfl dX11_plan_86 n_X2_link l_BoxYard_346 i_X2_link e_X2_link (ci := 2) rfl rfl (by decide) g13 rfl rfl (by decide) (by decide) (by decide) (k_X2_link c8) ?_
            refine y_aload_n (x := v0_66) (pc2 := 90) rfl dX11_plan_89 rfl ?_
            obtain ⟨g12, hf⟩ := y_g hf
            refine y_getP (pc2 := 93) rfl dX11_plan_90 F_BoxYard_10 (by decide) rfl g12 ?_
            refine y_aload (x := v6_66) (pc2 := 95) rfl dX11_plan_93 rfl ?_
            obtain ⟨g11, hf⟩ := y_g hf
            obtain ⟨r_, h9, c10, hf⟩ := y_clE hf
            refine y_callV (As := [y_p v6_66]) (rm := rm_X10_tellLink) (cells := 0) (slots := 0) (pc2 := 98) rfl dX11_plan_95 n_X10_tellLink l_BoxYard_349 i_X10_tellLink e_X10_tellLink (ci := 10) rfl rfl (by decide) g11 rfl rfl (by decide) (by decide) (by decide) (k_X10_tellLink c10) ?_
            refine y_iconst (v := 1) (pc2 := 99) rfl dX11_plan_98 (by decide) ?_
            exact y_iretF hf dX11_plan_99 rfl (by decide) (by decide)
          · replace hf := y_it c14 hf
            refine y_bipush (v := (-3 : Int32)) (pc2 := 77) rfl dX11_plan_75 (by decide) ?_
            exact y_iretF hf dX11_plan_77 rfl (by decide) (by decide)
        · refine y_icmp_eq (tgt := 66) (pc2 := 40) rfl dX11_plan_37 (by decide) (fun c29 => ?_) (fun c29 => ?_)
          · replace hf := y_it c29 hf
            exact y_pk [0, 1, 2, 3, 4, 5] rfl (hj66 _ _ _ _ _ _ _ hf)
          · replace hf := y_ie c29 hf
            refine y_iload_n (pc2 := 41) rfl dX11_plan_40 rfl ?_
            obtain ⟨r16, h17, c18, hf⟩ := y_clE hf
            refine y_callS (As := [.int v3_34]) (rm := rm_X11_isLinkNumber) (cells := 0) (slots := 0) (pc2 := 44) rfl dX11_plan_41 n_X11_isLinkNumber l_BoxYard_343 t_X11_isLinkNumber rfl rfl (by decide) (by decide) (by decide) (k_X11_isLinkNumber c18) ?_
            refine y_jnE hf (fun j => ∀ (h19 : y_H), j h19 = some (rz, hz) → y_V l G z rm_X11_plan M_X11_plan ad0 h (some (.int rz)) hz 63 [] [] h19 0 0) (fun h19 hf => ?_) (fun j63 hj63 hf => ?_)
            · refine y_bipush (v := (-2 : Int32)) (pc2 := 65) rfl dX11_plan_63 (by decide) ?_
              exact y_iretF hf dX11_plan_65 rfl (by decide) (by decide)
            · refine y_ifz_eq (tgt := 63) (pc2 := 47) rfl dX11_plan_44 (by decide) (fun c28 => ?_) (fun c28 => ?_)
              · replace hf := y_ie c28 hf
                exact y_pk [] rfl (hj63 _ hf)
              · replace hf := y_it c28 hf
                refine y_iload (pc2 := 49) rfl dX11_plan_47 rfl ?_
                obtain ⟨r20, h21, c22, hf⟩ := y_clE hf
                refine y_callS (As := [.int v4_34]) (rm := rm_X11_isLinkNumber) (cells := 0) (slots := 0) (pc2 := 52) rfl dX11_plan_49 n_X11_isLinkNumber l_BoxYard_343 t_X11_isLinkNumber rfl rfl (by decide) (by decide) (by decide) (k_X11_isLinkNumber c22) ?_
                refine y_ifz_eq (tgt := 63) (pc2 := 55) rfl dX11_plan_52 (by decide) (fun c27 => ?_) (fun c27 => ?_)
                · replace hf := y_ie c27 hf
                  exact y_pk [] rfl (hj63 _ hf)
                · replace hf := y_it c27 hf
                  refine y_iload (pc2 := 57) rfl dX11_plan_55 rfl ?_
                  obtain ⟨r23, h24, c25, hf⟩ := y_clE hf
                  refine y_callS (As := [.int v5_34]) (rm := rm_X11_isLinkNumber) (cells := 0) (slots := 0) (pc2 := 60) rfl dX11_plan_57 n_X11_isLinkNumber l_BoxYard_343 t_X11_isLinkNumber rfl rfl (by decide) (by decide) (by decide) (k_X11_isLinkNumber c25) ?_
                  refine y_ifz_ne (tgt := 66) (pc2 := 63) rfl dX11_plan_60 (by decide) (fun c26 => ?_) (fun c26 => ?_)
                  · replace hf := y_it c26 hf
                    exact y_pk [0, 1, 2, 3, 4, 5] rfl (hj66 _ _ _ _ _ _ _ hf)
                  · replace hf := y_ie c26 hf
                    exact y_pk [] rfl (hj63 _ hf)
      · refine y_icmp_eq (tgt := 34) (pc2 := 21) rfl dX11_plan_18 (by decide) (fun c36 => ?_) (fun c36 => ?_)
        · replace hf := y_it c36 hf
          exact y_pk [1, 3, 4, 5, 6, 0] rfl (hj34 _ _ _ _ _ _ _ hf)
        · replace hf := y_ie c36 hf
          refine y_aload_n (x := p0) (pc2 := 22) rfl dX11_plan_21 rfl ?_
          obtain ⟨g35, hf⟩ := y_g hf
          refine y_getP (pc2 := 25) rfl dX11_plan_22 F_BoxYard_10 (by decide) rfl g35 ?_
          refine y_iload_n (pc2 := 26) rfl dX11_plan_25 rfl ?_
          obtain ⟨g34, hf⟩ := y_g hf
          obtain ⟨r30, h31, c32, hf⟩ := y_clE hf
          refine y_callV (As := [.int p2]) (rm := rm_X10_shipAt) (cells := 0) (slots := 0) (pc2 := 29) rfl dX11_plan_26 n_X10_shipAt l_BoxYard_287 i_X10_shipAt e_X10_shipAt (ci := 10) rfl rfl (by decide) g34 rfl rfl (by decide) (by decide) (by decide) (k_X10_shipAt c32) ?_
          refine y_ifnonnull (tgt := 34) (pc2 := 32) rfl dX11_plan_29 (by decide) (fun c33 => ?_) (fun c33 => ?_)
          · replace hf := y_ie c33 hf
            exact y_pk [1, 3, 4, 5, 6, 0] rfl (hj34 _ _ _ _ _ _ _ hf)
          · replace hf := y_it c33 hf
            exact y_pk [] rfl (hj32 _ hf)
