theorem dX11_box_0 : decode cX11_box 0 = .ok (.iload_n 1, 1) := by decide +kernel
theorem dX11_box_1 : decode cX11_box 1 = .ok (.iconst 0, 1) := by decide +kernel
theorem dX11_box_2 : decode cX11_box 2 = .ok (.iconst 5, 1) := by decide +kernel
theorem dX11_box_3 : decode cX11_box 3 = .ok (.invokestatic 56, 3) := by decide +kernel
theorem dX11_box_6 : decode cX11_box 6 = .ok (.ifCond .eq 17, 3) := by decide +kernel
theorem dX11_box_9 : decode cX11_box 9 = .ok (.iload_n 2, 1) := by decide +kernel
theorem dX11_box_10 : decode cX11_box 10 = .ok (.invokestatic 60, 3) := by decide +kernel
theorem dX11_box_13 : decode cX11_box 13 = .ok (.ifCond .eq 10, 3) := by decide +kernel
theorem dX11_box_16 : decode cX11_box 16 = .ok (.iload_n 3, 1) := by decide +kernel
theorem dX11_box_17 : decode cX11_box 17 = .ok (.invokestatic 60, 3) := by decide +kernel
theorem dX11_box_20 : decode cX11_box 20 = .ok (.ifCond .ne 6, 3) := by decide +kernel
theorem dX11_box_23 : decode cX11_box 23 = .ok (.bipush (-2), 2) := by decide +kernel
theorem dX11_box_25 : decode cX11_box 25 = .ok (.ireturn, 1) := by decide +kernel
theorem dX11_box_26 : decode cX11_box 26 = .ok (.iload 4, 2) := by decide +kernel
theorem dX11_box_28 : decode cX11_box 28 = .ok (.iconst 0, 1) := by decide +kernel
theorem dX11_box_29 : decode cX11_box 29 = .ok (.iconst 4, 1) := by decide +kernel
theorem dX11_box_30 : decode cX11_box 30 = .ok (.invokestatic 56, 3) := by decide +kernel
theorem dX11_box_33 : decode cX11_box 33 = .ok (.ifCond .eq 14, 3) := by decide +kernel
theorem dX11_box_36 : decode cX11_box 36 = .ok (.iload 5, 2) := by decide +kernel
theorem dX11_box_38 : decode cX11_box 38 = .ok (.iconst 0, 1) := by decide +kernel
theorem dX11_box_39 : decode cX11_box 39 = .ok (.bipush 7, 2) := by decide +kernel
theorem dX11_box_41 : decode cX11_box 41 = .ok (.invokestatic 56, 3) := by decide +kernel
theorem dX11_box_44 : decode cX11_box 44 = .ok (.ifCond .ne 6, 3) := by decide +kernel
theorem dX11_box_47 : decode cX11_box 47 = .ok (.bipush (-2), 2) := by decide +kernel
theorem dX11_box_49 : decode cX11_box 49 = .ok (.ireturn, 1) := by decide +kernel
theorem dX11_box_50 : decode cX11_box 50 = .ok (.aload_n 0, 1) := by decide +kernel
theorem dX11_box_51 : decode cX11_box 51 = .ok (.getfield 10, 3) := by decide +kernel
theorem dX11_box_54 : decode cX11_box 54 = .ok (.invokevirtual 64, 3) := by decide +kernel
theorem dX11_box_57 : decode cX11_box 57 = .ok (.astore 6, 2) := by decide +kernel
theorem dX11_box_59 : decode cX11_box 59 = .ok (.aload 6, 2) := by decide +kernel
theorem dX11_box_61 : decode cX11_box 61 = .ok (.ifnonnull 6, 3) := by decide +kernel
theorem dX11_box_64 : decode cX11_box 64 = .ok (.bipush (-4), 2) := by decide +kernel
theorem dX11_box_66 : decode cX11_box 66 = .ok (.ireturn, 1) := by decide +kernel
theorem dX11_box_67 : decode cX11_box 67 = .ok (.aload 6, 2) := by decide +kernel
theorem dX11_box_69 : decode cX11_box 69 = .ok (.iload_n 1, 1) := by decide +kernel
theorem dX11_box_70 : decode cX11_box 70 = .ok (.iload_n 2, 1) := by decide +kernel
theorem dX11_box_71 : decode cX11_box 71 = .ok (.iload_n 3, 1) := by decide +kernel
theorem dX11_box_72 : decode cX11_box 72 = .ok (.iload 4, 2) := by decide +kernel
theorem dX11_box_74 : decode cX11_box 74 = .ok (.iload 5, 2) := by decide +kernel
theorem dX11_box_76 : decode cX11_box 76 = .ok (.invokevirtual 68, 3) := by decide +kernel
theorem dX11_box_79 : decode cX11_box 79 = .ok (.aload 6, 2) := by decide +kernel
theorem dX11_box_81 : decode cX11_box 81 = .ok (.getfield 74, 3) := by decide +kernel
theorem dX11_box_84 : decode cX11_box 84 = .ok (.ireturn, 1) := by decide +kernel
def M_X11_box : y_M := (yX11_box, cX11_box, 7, (Option.some Jvm.ClassFile.FieldType.int))
theorem n_X11_box : y_N0 M_X11_box 5 := ⟨(c_2 96 (by decide +kernel) rfl), (c_1 1 (by decide +kernel) rfl), ⟨by decide +kernel, by decide +kernel⟩, by decide +kernel⟩
theorem l_BoxYard_60 : y_lnk "BoxYard" 60 M_X11_isWeight := Or.inl (c_2 100 (by decide +kernel) rfl)
theorem t_X11_isWeight : Cond.static (M_X11_isWeight).1 ∈ y_tb := (c_2 101 (by decide +kernel) rfl)
theorem l_BoxYard_64 : y_lnk "BoxYard" 64 M_X10_nextBox := Or.inl (c_2 103 (by decide +kernel) rfl)
theorem i_X10_nextBox : Cond.instanceMethod (M_X10_nextBox).1 ∈ y_tb := (c_2 104 (by decide +kernel) rfl)
theorem e_X10_nextBox : Cond.selects (M_X10_nextBox).1.cls (M_X10_nextBox).1 (M_X10_nextBox).1 ∈ y_tb := (c_2 105 (by decide +kernel) rfl)
theorem l_BoxYard_68 : y_lnk "BoxYard" 68 M_X2_begin := Or.inl (c_2 194 (by decide +kernel) rfl)
theorem i_X2_begin : Cond.instanceMethod (M_X2_begin).1 ∈ y_tb := (c_2 195 (by decide +kernel) rfl)
theorem e_X2_begin : Cond.selects (M_X2_begin).1.cls (M_X2_begin).1 (M_X2_begin).1 ∈ y_tb := (c_2 196 (by decide +kernel) rfl)
set_option maxRecDepth 100000 in
def f_X11_box (p0 : Nat) (p1 : Int32) (p2 : Int32) (p3 : Int32) (p4 : Int32) (p5 : Int32) (c0 s0 : Nat) (h : y_H) : Option ((Int32 × Nat × Nat) × y_H) :=
  y_cl (f_X11_isWithin p1 0 5 h) (fun r1 h2 =>
  y_jn (fun (c23 : Nat) (s23 : Nat) (h4 : y_H) => (
      some (((-2 : Int32), c23, s23), h4) : Option ((Int32 × Nat × Nat) × y_H))) (fun j23 =>
  if r1 = true then
    y_cl (f_X11_isWeight p2 h2) (fun r5 h6 =>
    if r5 = true then
      y_cl (f_X11_isWeight p3 h6) (fun r8 h9 =>
      if r8 = true then
        y_cl (f_X11_isWithin p4 0 4 h9) (fun r11 h12 =>
        y_jn (fun (c47 : Nat) (s47 : Nat) (h14 : y_H) => (
            some (((-2 : Int32), c47, s47), h14) : Option ((Int32 × Nat × Nat) × y_H))) (fun j47 =>
        if r11 = true then
          y_cl (f_X11_isWithin p5 0 7 h12) (fun r15 h16 =>
          if r15 = true then
            if y_K h16 p0 = 12 then
            if y_K h16 (y_P h16 p0 0) = 11 then
            y_cl (f_X10_nextBox (y_P h16 p0 0) c0 s0 h16) (fun r18 h19 =>
            if r18.1 = 0 then
              some (((-4 : Int32), r18.2.1, r18.2.2), h19)
            else
              if y_K h19 r18.1 = 3 then
              y_cl (f_X2_begin r18.1 p1 p2 p3 p4 p5 h19) (fun _ h21 =>
              if y_K h21 r18.1 = 3 then
              some ((y_I h21 r18.1 0, r18.2.1, r18.2.2), h21)
              else none)
              else none)
            else none
            else none
          else
            j47 c0 s0 h16)
        else
          j47 c0 s0 h12))
      else
        j23 c0 s0 h9)
    else
      j23 c0 s0 h6)
  else
    j23 c0 s0 h2))
abbrev FF_X11_box : Nat := 3
abbrev LL_X11_box : Nat := 62
set_option maxRecDepth 100000 in
set_option maxHeartbeats 4000000 in
theorem k_X11_box {l : Launch} {G : y_G} {p0 : Nat} {p1 : Int32} {p2 : Int32} {p3 : Int32} {p4 : Int32} {p5 : Int32} {c0 s0 cz sz : Nat} {h hz : y_H} {rz : Int32} (hf : f_X11_box p0 p1 p2 p3 p4 p5 c0 s0 h = some ((rz, cz, sz), hz)) : (c0 ≤ cz ∧ s0 ≤ sz) ∧ y_S l G M_X11_box (y_Rm FF_X11_box LL_X11_box c0 s0 cz sz) [y_p p0, .int p1, .int p2, .int p3, .int p4, .int p5] h (some (.int rz)) hz := by
  refine y_Ustart (lv := [(0, y_p p0), (1, .int p1), (2, .int p2), (3, .int p3), (4, .int p4), (5, .int p5)]) (by decide) (by simp [lg_sl, y_p_cat, y_ci, y_cj, M_X11_box]) (by simp [lv_args, y_p_cat, y_ci, y_cj]) (fun z ad0 => ?_)
  unfold f_X11_box at hf
  refine y_lf (fun _ _ _ _ k => y_iload_n (pc2 := 1) rfl dX11_box_0 rfl k) ?_
  refine y_lf (fun _ _ _ _ k => y_iconst (v := 0) (pc2 := 2) rfl dX11_box_1 (by decide) k) ?_
  refine y_lf (fun _ _ _ _ k => y_iconst (v := 5) (pc2 := 3) rfl dX11_box_2 (by decide) k) ?_
  obtain ⟨r1, h2, c3, hf⟩ := y_clE hf
  refine y_UcS0 (As := [.int p1, .int 0, .int 5]) (rm := rm_X11_isWithin) (pc2 := 6) rfl dX11_box_3 n_X11_isWithin l_BoxYard_56 t_X11_isWithin rfl rfl (by decide) (by decide) rfl rfl (k_X11_isWithin c3) ?_
  refine y_jnE hf (fun j => ∀ (c23 : Nat) (s23 : Nat) (h4 : y_H), j c23 s23 h4 = some ((rz, cz, sz), hz) → y_U l G z FF_X11_box LL_X11_box (cz - c0) (sz - s0) c0 s0 cz sz M_X11_box ad0 h (some (.int rz)) hz 23 [] [] h4 c23 s23) (fun c23 s23 h4 hf => ?_) (fun j23 hj23 hf => ?_)
  · refine y_lf (fun _ _ _ _ k => y_bipush (v := (-2 : Int32)) (pc2 := 25) rfl dX11_box_23 (by decide) k) ?_
    exact y_iretU hf dX11_box_25 rfl
  · refine y_lf2 (Classical.em _).symm (fun _ _ k1 k2 => y_ifz_eq (tgt := 23) (pc2 := 9) rfl dX11_box_6 (by decide) k1 k2) (fun c32 => ?_) (fun c32 => ?_)
    · replace hf := y_ie c32 hf
      exact y_lf (fun _ _ _ _ k => y_pk [] rfl k) (hj23 _ _ _ hf)
    · replace hf := y_it c32 hf
      refine y_lf (fun _ _ _ _ k => y_iload_n (pc2 := 10) rfl dX11_box_9 rfl k) ?_
      obtain ⟨r5, h6, c7, hf⟩ := y_clE hf
      refine y_UcS0 (As := [.int p2]) (rm := rm_X11_isWeight) (pc2 := 13) rfl dX11_box_10 n_X11_isWeight l_BoxYard_60 t_X11_isWeight rfl rfl (by decide) (by decide) rfl rfl (k_X11_isWeight c7) ?_
      refine y_lf2 (Classical.em _).symm (fun _ _ k1 k2 => y_ifz_eq (tgt := 23) (pc2 := 16) rfl dX11_box_13 (by decide) k1 k2) (fun c31 => ?_) (fun c31 => ?_)
      · replace hf := y_ie c31 hf
        exact y_lf (fun _ _ _ _ k => y_pk [] rfl k) (hj23 _ _ _ hf)
      · replace hf := y_it c31 hf
        refine y_lf (fun _ _ _ _ k => y_iload_n (pc2 := 17) rfl dX11_box_16 rfl k) ?_
        obtain ⟨r8, h9, c10, hf⟩ := y_clE hf
        refine y_UcS0 (As := [.int p3]) (rm := rm_X11_isWeight) (pc2 := 20) rfl dX11_box_17 n_X11_isWeight l_BoxYard_60 t_X11_isWeight rfl rfl (by decide) (by decide) rfl rfl (k_X11_isWeight c10) ?_
        refine y_lf2 (Classical.em _) (fun _ _ k1 k2 => y_ifz_ne (tgt := 26) (pc2 := 23) rfl dX11_box_20 (by decide) k1 k2) (fun c30 => ?_) (fun c30 => ?_)
        · replace hf := y_it c30 hf
          refine y_lf (fun _ _ _ _ k => y_iload (pc2 := 28) rfl dX11_box_26 rfl k) ?_
          refine y_lf (fun _ _ _ _ k => y_iconst (v := 0) (pc2 := 29) rfl dX11_box_28 (by decide) k) ?_
          refine y_lf (fun _ _ _ _ k => y_iconst (v := 4) (pc2 := 30) rfl dX11_box_29 (by decide) k) ?_
          obtain ⟨r11, h12, c13, hf⟩ := y_clE hf
          refine y_UcS0 (As := [.int p4, .int 0, .int 4]) (rm := rm_X11_isWithin) (pc2 := 33) rfl dX11_box_30 n_X11_isWithin l_BoxYard_56 t_X11_isWithin rfl rfl (by decide) (by decide) rfl rfl (k_X11_isWithin c13) ?_
          refine y_jnE hf (fun j => ∀ (c47 : Nat) (s47 : Nat) (h14 : y_H), j c47 s47 h14 = some ((rz, cz, sz), hz) → y_U l G z FF_X11_box LL_X11_box (cz - c0) (sz - s0) c0 s0 cz sz M_X11_box ad0 h (some (.int rz)) hz 47 [] [] h14 c47 s47) (fun c47 s47 h14 hf => ?_) (fun j47 hj47 hf => ?_)
          · refine y_lf (fun _ _ _ _ k => y_bipush (v := (-2 : Int32)) (pc2 := 49) rfl dX11_box_47 (by decide) k) ?_
            exact y_iretU hf dX11_box_49 rfl
          · refine y_lf2 (Classical.em _).symm (fun _ _ k1 k2 => y_ifz_eq (tgt := 47) (pc2 := 36) rfl dX11_box_33 (by decide) k1 k2) (fun c29 => ?_) (fun c29 => ?_)
            · replace hf := y_ie c29 hf
              exact y_lf (fun _ _ _ _ k => y_pk [] rfl k) (hj47 _ _ _ hf)
            · replace hf := y_it c29 hf
              refine y_lf (fun _ _ _ _ k => y_iload (pc2 := 38) rfl dX11_box_36 rfl k) ?_
              refine y_lf (fun _ _ _ _ k => y_iconst (v := 0) (pc2 := 39) rfl dX11_box_38 (by decide) k) ?_
              refine y_lf (fun _ _ _ _ k => y_bipush (v := 7) (pc2 := 41) rfl dX11_box_39 (by decide) k) ?_
              obtain ⟨r15, h16, c17, hf⟩ := y_clE hf
              refine y_UcS0 (As := [.int p5, .int 0, .int 7]) (rm := rm_X11_isWithin) (pc2 := 44) rfl dX11_box_41 n_X11_isWithin l_BoxYard_56 t_X11_isWithin rfl rfl (by decide) (by decide) rfl rfl (k_X11_isWithin c17) ?_
              refine y_lf2 (Classical.em _) (fun _ _ k1 k2 => y_ifz_ne (tgt := 50) (pc2 := 47) rfl dX11_box_44 (by decide) k1 k2) (fun c28 => ?_) (fun c28 => ?_)
              · replace hf := y_it c28 hf
                refine y_lf (fun _ _ _ _ k => y_aload_n (x := p0) (pc2 := 51) rfl dX11_box_50 rfl k) ?_
                obtain ⟨g27, hf⟩ := y_g hf
                refine y_lf (fun _ _ _ _ k => y_getP (pc2 := 54) rfl dX11_box_51 F_BoxYard_10 (by decide) rfl g27 k) ?_
                obtain ⟨g26, hf⟩ := y_g hf
                obtain ⟨r18, h19, c20, hf⟩ := y_clE hf
                refine y_UcallV (As := []) (pc2 := 57) rfl dX11_box_54 n_X10_nextBox l_BoxYard_64 i_X10_nextBox e_X10_nextBox (ci := 10) rfl rfl (by decide) g26 rfl rfl (by decide) (by decide) (k_X10_nextBox c20) ?_
                refine y_lf (fun _ _ _ _ k => y_astore (lv' := [(6, y_p r18.1), (0, y_p p0), (1, .int p1), (2, .int p2), (3, .int p3), (4, .int p4), (5, .int p5)]) (pc2 := 59) rfl dX11_box_57 (by decide) rfl k) ?_
                refine y_lf (fun _ _ _ _ k => y_aload (x := r18.1) (pc2 := 61) rfl dX11_box_59 rfl k) ?_
                refine y_lf2 (Classical.em _).symm (fun _ _ k1 k2 => y_ifnonnull (tgt := 67) (pc2 := 64) rfl dX11_box_61 (by decide) k1 k2) (fun c25 => ?_) (fun c25 => ?_)
                · replace hf := y_ie c25 hf
                  refine y_lf (fun _ _ _ _ k => y_aload (x := r18.1) (pc2 := 69) rfl dX11_box_67 rfl k) ?_
                  refine y_lf (fun _ _ _ _ k => y_iload_n (pc2 := 70) rfl dX11_box_69 rfl k) ?_
                  refine y_lf (fun _ _ _ _ k => y_iload_n (pc2 := 71) rfl dX11_box_70 rfl k) ?_
                  refine y_lf (fun _ _ _ _ k => y_iload_n (pc2 := 72) rfl dX11_box_71 rfl k) ?_
                  refine y_lf (fun _ _ _ _ k => y_iload (pc2 := 74) rfl dX11_box_72 rfl k) ?_
                  refine y_lf (fun _ _ _ _ k => y_iload (pc2 := 76) rfl dX11_box_74 rfl k) ?_
                  obtain ⟨g24, hf⟩ := y_g hf
                  obtain ⟨r_, h21, c22, hf⟩ := y_clE hf
                  refine y_UcV0 (As := [.int p1, .int p2, .int p3, .int p4, .int p5]) (rm := rm_X2_begin) (pc2 := 79) rfl dX11_box_76 n_X2_begin l_BoxYard_68 i_X2_begin e_X2_begin (ci := 2) rfl rfl (by decide) g24 rfl rfl (by decide) (by decide) rfl rfl (k_X2_begin c22) ?_
                  refine y_lf (fun _ _ _ _ k => y_aload (x := r18.1) (pc2 := 81) rfl dX11_box_79 rfl k) ?_
                  obtain ⟨g23, hf⟩ := y_g hf
                  refine y_lf (fun _ _ _ _ k => y_getI (pc2 := 84) rfl dX11_box_81 F_BoxYard_74 (by decide) rfl g23 k) ?_
                  exact y_iretU hf dX11_box_84 rfl
                · replace hf := y_it c25 hf
                  refine y_lf (fun _ _ _ _ k => y_bipush (v := (-4 : Int32)) (pc2 := 66) rfl dX11_box_64 (by decide) k) ?_
                  exact y_iretU hf dX11_box_66 rfl
              · replace hf := y_ie c28 hf
                exact y_lf (fun _ _ _ _ k => y_pk [] rfl k) (hj47 _ _ _ hf)
        · replace hf := y_ie c30 hf
          exact y_lf (fun _ _ _ _ k => y_pk [] rfl k) (hj23 _ _ _ hf)
theorem dX11_bay_0 : decode cX11_bay 0 = .ok (.iload_n 1, 1) := by decide +kernel
theorem dX11_bay_1 : decode cX11_bay 1 = .ok (.iconst 0, 1) := by decide +kernel
theorem dX11_bay_2 : decode cX11_bay 2 = .ok (.bipush 9, 2) := by decide +kernel
theorem dX11_bay_4 : decode cX11_bay 4 = .ok (.invokestatic 56, 3) := by decide +kernel
theorem dX11_bay_7 : decode cX11_bay 7 = .ok (.ifCond .ne 5, 3) := by decide +kernel
theorem dX11_bay_10 : decode cX11_bay 10 = .ok (.iconst (-1), 1) := by decide +kernel
theorem dX11_bay_11 : decode cX11_bay 11 = .ok (.ireturn, 1) := by decide +kernel
theorem dX11_bay_12 : decode cX11_bay 12 = .ok (.iload_n 2, 1) := by decide +kernel
theorem dX11_bay_13 : decode cX11_bay 13 = .ok (.iconst 0, 1) := by decide +kernel
theorem dX11_bay_14 : decode cX11_bay 14 = .ok (.iconst 3, 1) := by decide +kernel
theorem dX11_bay_15 : decode cX11_bay 15 = .ok (.invokestatic 56, 3) := by decide +kernel
theorem dX11_bay_18 : decode cX11_bay 18 = .ok (.ifCond .eq 10, 3) := by decide +kernel
theorem dX11_bay_21 : decode cX11_bay 21 = .ok (.iload_n 3, 1) := by decide +kernel
theorem dX11_bay_22 : decode cX11_bay 22 = .ok (.invokestatic 143, 3) := by decide +kernel
theorem dX11_bay_25 : decode cX11_bay 25 = .ok (.ifCond .ne 6, 3) := by decide +kernel
theorem dX11_bay_28 : decode cX11_bay 28 = .ok (.bipush (-2), 2) := by decide +kernel
theorem dX11_bay_30 : decode cX11_bay 30 = .ok (.ireturn, 1) := by decide +kernel
theorem dX11_bay_31 : decode cX11_bay 31 = .ok (.aload_n 0, 1) := by decide +kernel
theorem dX11_bay_32 : decode cX11_bay 32 = .ok (.getfield 10, 3) := by decide +kernel
theorem dX11_bay_35 : decode cX11_bay 35 = .ok (.iload_n 1, 1) := by decide +kernel
theorem dX11_bay_36 : decode cX11_bay 36 = .ok (.invokevirtual 148, 3) := by decide +kernel
theorem dX11_bay_39 : decode cX11_bay 39 = .ok (.ifnull 6, 3) := by decide +kernel
theorem dX11_bay_42 : decode cX11_bay 42 = .ok (.bipush (-3), 2) := by decide +kernel
theorem dX11_bay_44 : decode cX11_bay 44 = .ok (.ireturn, 1) := by decide +kernel
theorem dX11_bay_45 : decode cX11_bay 45 = .ok (.aload_n 0, 1) := by decide +kernel
theorem dX11_bay_46 : decode cX11_bay 46 = .ok (.getfield 19, 3) := by decide +kernel
theorem dX11_bay_49 : decode cX11_bay 49 = .ok (.invokevirtual 152, 3) := by decide +kernel
theorem dX11_bay_52 : decode cX11_bay 52 = .ok (.aload_n 0, 1) := by decide +kernel
theorem dX11_bay_53 : decode cX11_bay 53 = .ok (.getfield 10, 3) := by decide +kernel
theorem dX11_bay_56 : decode cX11_bay 56 = .ok (.iload_n 1, 1) := by decide +kernel
theorem dX11_bay_57 : decode cX11_bay 57 = .ok (.iload_n 2, 1) := by decide +kernel
theorem dX11_bay_58 : decode cX11_bay 58 = .ok (.iload_n 3, 1) := by decide +kernel
theorem dX11_bay_59 : decode cX11_bay 59 = .ok (.invokevirtual 153, 3) := by decide +kernel
theorem dX11_bay_62 : decode cX11_bay 62 = .ok (.ireturn, 1) := by decide +kernel
def M_X11_bay : y_M := (yX11_bay, cX11_bay, 4, (Option.some Jvm.ClassFile.FieldType.int))
theorem n_X11_bay : y_N0 M_X11_bay 3 := ⟨(c_3 34 (by decide +kernel) rfl), (c_1 1 (by decide +kernel) rfl), ⟨by decide +kernel, by decide +kernel⟩, by decide +kernel⟩
theorem l_BoxYard_143 : y_lnk "BoxYard" 143 M_X1_areHeights := Or.inl (c_3 35 (by decide +kernel) rfl)
theorem t_X1_areHeights : Cond.static (M_X1_areHeights).1 ∈ y_tb := (c_3 36 (by decide +kernel) rfl)
theorem l_BoxYard_153 : y_lnk "BoxYard" 153 M_X10_layOut := Or.inl (c_3 48 (by decide +kernel) rfl)
theorem i_X10_layOut : Cond.instanceMethod (M_X10_layOut).1 ∈ y_tb := (c_3 49 (by decide +kernel) rfl)
theorem e_X10_layOut : Cond.selects (M_X10_layOut).1.cls (M_X10_layOut).1 (M_X10_layOut).1 ∈ y_tb := (c_3 50 (by decide +kernel) rfl)
set_option maxRecDepth 100000 in
def f_X11_bay (p0 : Nat) (p1 : Int32) (p2 : Int32) (p3 : Int32) (c0 s0 : Nat) (h : y_H) : Option ((Int32 × Nat × Nat) × y_H) :=
  y_cl (f_X11_isWithin p1 0 9 h) (fun r1 h2 =>
  if r1 = true then
    y_cl (f_X11_isWithin p2 0 3 h2) (fun r4 h5 =>
    y_jn (fun (c28 : Nat) (s28 : Nat) (h7 : y_H) => (
        some (((-2 : Int32), c28, s28), h7) : Option ((Int32 × Nat × Nat) × y_H))) (fun j28 =>
    if r4 = true then
      y_cl (f_X1_areHeights p3 h5) (fun r8 h9 =>
      if r8 = true then
        if y_K h9 p0 = 12 then
        if y_K h9 (y_P h9 p0 0) = 11 then
        y_cl (f_X10_bayAt (y_P h9 p0 0) p1 h9) (fun r11 h12 =>
        if r11 = 0 then
          if y_K h12 p0 = 12 then
          if y_K h12 (y_P h12 p0 1) = 6 then
          y_cl (f_X5_begin (y_P h12 p0 1) h12) (fun _ h14 =>
          if y_K h14 p0 = 12 then
          if y_K h14 (y_P h14 p0 0) = 11 then
          y_cl (f_X10_layOut (y_P h14 p0 0) p1 p2 p3 c0 s0 h14) (fun r16 h17 =>
          some ((r16.1, r16.2.1, r16.2.2), h17))
          else none
          else none)
          else none
          else none
        else
          some (((-3 : Int32), c0, s0), h12))
        else none
        else none
      else
        j28 c0 s0 h9)
    else
      j28 c0 s0 h5))
  else
    some (((-1 : Int32), c0, s0), h2))
abbrev FF_X11_bay : Nat := 3
abbrev LL_X11_bay : Nat := 65
set_option maxRecDepth 100000 in
set_option maxHeartbeats 4000000 in
theorem k_X11_bay {l : Launch} {G : y_G} {p0 : Nat} {p1 : Int32} {p2 : Int32} {p3 : Int32} {c0 s0 cz sz : Nat} {h hz : y_H} {rz : Int32} (hf : f_X11_bay p0 p1 p2 p3 c0 s0 h = some ((rz, cz, sz), hz)) : (c0 ≤ cz ∧ s0 ≤ sz) ∧ y_S l G M_X11_bay (y_Rm FF_X11_bay LL_X11_bay c0 s0 cz sz) [y_p p0, .int p1, .int p2, .int p3] h (some (.int rz)) hz := by
  refine y_Ustart (lv := [(0, y_p p0), (1, .int p1), (2, .int p2), (3, .int p3)]) (by decide) (by simp [lg_sl, y_p_cat, y_ci, y_cj, M_X11_bay]) (by simp [lv_args, y_p_cat, y_ci, y_cj]) (fun z ad0 => ?_)
  unfold f_X11_bay at hf
  refine y_lf (fun _ _ _ _ k => y_iload_n (pc2 := 1) rfl dX11_bay_0 rfl k) ?_
  refine y_lf (fun _ _ _ _ k => y_iconst (v := 0) (pc2 := 2) rfl dX11_bay_1 (by decide) k) ?_
  refine y_lf (fun _ _ _ _ k => y_bipush (v := 9) (pc2 := 4) rfl dX11_bay_2 (by decide) k) ?_
  obtain ⟨r1, h2, c3, hf⟩ := y_clE hf
  refine y_UcS0 (As := [.int p1, .int 0, .int 9]) (rm := rm_X11_isWithin) (pc2 := 7) rfl dX11_bay_4 n_X11_isWithin l_BoxYard_56 t_X11_isWithin rfl rfl (by decide) (by decide) rfl rfl (k_X11_isWithin c3) ?_
  refine y_lf2 (Classical.em _) (fun _ _ k1 k2 => y_ifz_ne (tgt := 12) (pc2 := 10) rfl dX11_bay_7 (by decide) k1 k2) (fun c28 => ?_) (fun c28 => ?_)
  · replace hf := y_it c28 hf
    refine y_lf (fun _ _ _ _ k => y_iload_n (pc2 := 13) rfl dX11_bay_12 rfl k) ?_
    refine y_lf (fun _ _ _ _ k => y_iconst (v := 0) (pc2 := 14) rfl dX11_bay_13 (by decide) k) ?_
    refine y_lf (fun _ _ _ _ k => y_iconst (v := 3) (pc2 := 15) rfl dX11_bay_14 (by decide) k) ?_
    obtain ⟨r4, h5, c6, hf⟩ := y_clE hf
    refine y_UcS0 (As := [.int p2, .int 0, .int 3]) (rm := rm_X11_isWithin) (pc2 := 18) rfl dX11_bay_15 n_X11_isWithin l_BoxYard_56 t_X11_isWithin rfl rfl (by decide) (by decide) rfl rfl (k_X11_isWithin c6) ?_
    refine y_jnE hf (fun j => ∀ (c28 : Nat) (s28 : Nat) (h7 : y_H), j c28 s28 h7 = some ((rz, cz, sz), hz) → y_U l G z FF_X11_bay LL_X11_bay (cz - c0) (sz - s0) c0 s0 cz sz M_X11_bay ad0 h (some (.int rz)) hz 28 [] [] h7 c28 s28) (fun c28 s28 h7 hf => ?_) (fun j28 hj28 hf => ?_)
    · refine y_lf (fun _ _ _ _ k => y_bipush (v := (-2 : Int32)) (pc2 := 30) rfl dX11_bay_28 (by decide) k) ?_
      exact y_iretU hf dX11_bay_30 rfl
    · refine y_lf2 (Classical.em _).symm (fun _ _ k1 k2 => y_ifz_eq (tgt := 28) (pc2 := 21) rfl dX11_bay_18 (by decide) k1 k2) (fun c27 => ?_) (fun c27 => ?_)
      · replace hf := y_ie c27 hf
        exact y_lf (fun _ _ _ _ k => y_pk [] rfl k) (hj28 _ _ _ hf)
      · replace hf := y_it c27 hf
        refine y_lf (fun _ _ _ _ k => y_iload_n (pc2 := 22) rfl dX11_bay_21 rfl k) ?_
        obtain ⟨r8, h9, c10, hf⟩ := y_clE hf
        refine y_UcS0 (As := [.int p3]) (rm := rm_X1_areHeights) (pc2 := 25) rfl dX11_bay_22 n_X1_areHeights l_BoxYard_143 t_X1_areHeights rfl rfl (by decide) (by decide) rfl rfl (k_X1_areHeights c10) ?_
        refine y_lf2 (Classical.em _) (fun _ _ k1 k2 => y_ifz_ne (tgt := 31) (pc2 := 28) rfl dX11_bay_25 (by decide) k1 k2) (fun c26 => ?_) (fun c26 => ?_)
        · replace hf := y_it c26 hf
          refine y_lf (fun _ _ _ _ k => y_aload_n (x := p0) (pc2 := 32) rfl dX11_bay_31 rfl k) ?_
          obtain ⟨g25, hf⟩ := y_g hf
          refine y_lf (fun _ _ _ _ k => y_getP (pc2 := 35) rfl dX11_bay_32 F_BoxYard_10 (by decide) rfl g25 k) ?_
          refine y_lf (fun _ _ _ _ k => y_iload_n (pc2 := 36) rfl dX11_bay_35 rfl k) ?_
          obtain ⟨g24, hf⟩ := y_g hf
          obtain ⟨r11, h12, c13, hf⟩ := y_clE hf
          refine y_UcV0 (As := [.int p1]) (rm := rm_X10_bayAt) (pc2 := 39) rfl dX11_bay_36 n_X10_bayAt l_BoxYard_148 i_X10_bayAt e_X10_bayAt (ci := 10) rfl rfl (by decide) g24 rfl rfl (by decide) (by decide) rfl rfl (k_X10_bayAt c13) ?_
          refine y_lf2 (Classical.em _) (fun _ _ k1 k2 => y_ifnull (tgt := 45) (pc2 := 42) rfl dX11_bay_39 (by decide) k1 k2) (fun c23 => ?_) (fun c23 => ?_)
          · replace hf := y_it c23 hf
            refine y_lf (fun _ _ _ _ k => y_aload_n (x := p0) (pc2 := 46) rfl dX11_bay_45 rfl k) ?_
            obtain ⟨g22, hf⟩ := y_g hf
            refine y_lf (fun _ _ _ _ k => y_getP (pc2 := 49) rfl dX11_bay_46 F_BoxYard_19 (by decide) rfl g22 k) ?_
            obtain ⟨g21, hf⟩ := y_g hf
            obtain ⟨r_, h14, c15, hf⟩ := y_clE hf
            refine y_UcV0 (As := []) (rm := rm_X5_begin) (pc2 := 52) rfl dX11_bay_49 n_X5_begin l_BoxYard_152 i_X5_begin e_X5_begin (ci := 5) rfl rfl (by decide) g21 rfl rfl (by decide) (by decide) rfl rfl (k_X5_begin c15) ?_
            refine y_lf (fun _ _ _ _ k => y_aload_n (x := p0) (pc2 := 53) rfl dX11_bay_52 rfl k) ?_
            obtain ⟨g20, hf⟩ := y_g hf
            refine y_lf (fun _ _ _ _ k => y_getP (pc2 := 56) rfl dX11_bay_53 F_BoxYard_10 (by decide) rfl g20 k) ?_
            refine y_lf (fun _ _ _ _ k => y_iload_n (pc2 := 57) rfl dX11_bay_56 rfl k) ?_
            refine y_lf (fun _ _ _ _ k => y_iload_n (pc2 := 58) rfl dX11_bay_57 rfl k) ?_
            refine y_lf (fun _ _ _ _ k => y_iload_n (pc2 := 59) rfl dX11_bay_58 rfl k) ?_
            obtain ⟨g19, hf⟩ := y_g hf
            obtain ⟨r16, h17, c18, hf⟩ := y_clE hf
            refine y_UcallV (As := [.int p1, .int p2, .int p3]) (pc2 := 62) rfl dX11_bay_59 n_X10_layOut l_BoxYard_153 i_X10_layOut e_X10_layOut (ci := 10) rfl rfl (by decide) g19 rfl rfl (by decide) (by decide) (k_X10_layOut c18) ?_
            exact y_iretU hf dX11_bay_62 rfl
          · replace hf := y_ie c23 hf
            refine y_lf (fun _ _ _ _ k => y_bipush (v := (-3 : Int32)) (pc2 := 44) rfl dX11_bay_42 (by decide) k) ?_
            exact y_iretU hf dX11_bay_44 rfl
        · replace hf := y_ie c26 hf
          exact y_lf (fun _ _ _ _ k => y_pk [] rfl k) (hj28 _ _ _ hf)
  · replace hf := y_ie c28 hf
    refine y_lf (fun _ _ _ _ k => y_iconst (v := (-1 : Int32)) (pc2 := 11) rfl dX11_bay_10 (by decide) k) ?_
    exact y_iretU hf dX11_bay_11 rfl
theorem dX11_crane_0 : decode cX11_crane 0 = .ok (.iload_n 1, 1) := by decide +kernel
theorem dX11_crane_1 : decode cX11_crane 1 = .ok (.iconst 0, 1) := by decide +kernel
theorem dX11_crane_2 : decode cX11_crane 2 = .ok (.iconst 4, 1) := by decide +kernel
theorem dX11_crane_3 : decode cX11_crane 3 = .ok (.invokestatic 56, 3) := by decide +kernel
theorem dX11_crane_6 : decode cX11_crane 6 = .ok (.ifCond .ne 6, 3) := by decide +kernel
theorem dX11_crane_9 : decode cX11_crane 9 = .ok (.bipush (-2), 2) := by decide +kernel
theorem dX11_crane_11 : decode cX11_crane 11 = .ok (.ireturn, 1) := by decide +kernel
theorem dX11_crane_12 : decode cX11_crane 12 = .ok (.iload_n 1, 1) := by decide +kernel
theorem dX11_crane_13 : decode cX11_crane 13 = .ok (.iconst 2, 1) := by decide +kernel
theorem dX11_crane_14 : decode cX11_crane 14 = .ok (.if_icmp .gt 7, 3) := by decide +kernel
theorem dX11_crane_17 : decode cX11_crane 17 = .ok (.iconst 1, 1) := by decide +kernel
theorem dX11_crane_18 : decode cX11_crane 18 = .ok (.goto 4, 3) := by decide +kernel
theorem dX11_crane_21 : decode cX11_crane 21 = .ok (.iconst 0, 1) := by decide +kernel
theorem dX11_crane_22 : decode cX11_crane 22 = .ok (.istore 4, 2) := by decide +kernel
theorem dX11_crane_24 : decode cX11_crane 24 = .ok (.iload 4, 2) := by decide +kernel
theorem dX11_crane_26 : decode cX11_crane 26 = .ok (.ifCond .eq 15, 3) := by decide +kernel
theorem dX11_crane_29 : decode cX11_crane 29 = .ok (.iload_n 2, 1) := by decide +kernel
theorem dX11_crane_30 : decode cX11_crane 30 = .ok (.iconst 0, 1) := by decide +kernel
theorem dX11_crane_31 : decode cX11_crane 31 = .ok (.iconst 2, 1) := by decide +kernel
theorem dX11_crane_32 : decode cX11_crane 32 = .ok (.invokestatic 56, 3) := by decide +kernel
theorem dX11_crane_35 : decode cX11_crane 35 = .ok (.ifCond .ne 14, 3) := by decide +kernel
theorem dX11_crane_38 : decode cX11_crane 38 = .ok (.goto 9, 3) := by decide +kernel
theorem dX11_crane_41 : decode cX11_crane 41 = .ok (.iload_n 2, 1) := by decide +kernel
theorem dX11_crane_42 : decode cX11_crane 42 = .ok (.bipush (-9), 2) := by decide +kernel
theorem dX11_crane_44 : decode cX11_crane 44 = .ok (.if_icmp .eq 5, 3) := by decide +kernel
theorem dX11_crane_47 : decode cX11_crane 47 = .ok (.iconst (-1), 1) := by decide +kernel
theorem dX11_crane_48 : decode cX11_crane 48 = .ok (.ireturn, 1) := by decide +kernel
theorem dX11_crane_49 : decode cX11_crane 49 = .ok (.iload_n 3, 1) := by decide +kernel
theorem dX11_crane_50 : decode cX11_crane 50 = .ok (.iconst 0, 1) := by decide +kernel
theorem dX11_crane_51 : decode cX11_crane 51 = .ok (.bipush 9, 2) := by decide +kernel
theorem dX11_crane_53 : decode cX11_crane 53 = .ok (.invokestatic 56, 3) := by decide +kernel
theorem dX11_crane_56 : decode cX11_crane 56 = .ok (.ifCond .ne 6, 3) := by decide +kernel
theorem dX11_crane_59 : decode cX11_crane 59 = .ok (.bipush (-2), 2) := by decide +kernel
theorem dX11_crane_61 : decode cX11_crane 61 = .ok (.ireturn, 1) := by decide +kernel
theorem dX11_crane_62 : decode cX11_crane 62 = .ok (.aload_n 0, 1) := by decide +kernel
theorem dX11_crane_63 : decode cX11_crane 63 = .ok (.getfield 10, 3) := by decide +kernel
theorem dX11_crane_66 : decode cX11_crane 66 = .ok (.getfield 192, 3) := by decide +kernel
theorem dX11_crane_69 : decode cX11_crane 69 = .ok (.bipush 12, 2) := by decide +kernel
theorem dX11_crane_71 : decode cX11_crane 71 = .ok (.if_icmp .lt 6, 3) := by decide +kernel
theorem dX11_crane_74 : decode cX11_crane 74 = .ok (.bipush (-4), 2) := by decide +kernel
theorem dX11_crane_76 : decode cX11_crane 76 = .ok (.ireturn, 1) := by decide +kernel
theorem dX11_crane_77 : decode cX11_crane 77 = .ok (.aload_n 0, 1) := by decide +kernel
theorem dX11_crane_78 : decode cX11_crane 78 = .ok (.getfield 10, 3) := by decide +kernel
theorem dX11_crane_81 : decode cX11_crane 81 = .ok (.iload_n 2, 1) := by decide +kernel
theorem dX11_crane_82 : decode cX11_crane 82 = .ok (.aload_n 0, 1) := by decide +kernel
theorem dX11_crane_83 : decode cX11_crane 83 = .ok (.getfield 10, 3) := by decide +kernel
theorem dX11_crane_86 : decode cX11_crane 86 = .ok (.getfield 192, 3) := by decide +kernel
theorem dX11_crane_89 : decode cX11_crane 89 = .ok (.iload_n 3, 1) := by decide +kernel
theorem dX11_crane_90 : decode cX11_crane 90 = .ok (.invokevirtual 195, 3) := by decide +kernel
theorem dX11_crane_93 : decode cX11_crane 93 = .ok (.ifCond .ne 6, 3) := by decide +kernel
theorem dX11_crane_96 : decode cX11_crane 96 = .ok (.bipush (-47), 2) := by decide +kernel
theorem dX11_crane_98 : decode cX11_crane 98 = .ok (.ireturn, 1) := by decide +kernel
theorem dX11_crane_99 : decode cX11_crane 99 = .ok (.aload_n 0, 1) := by decide +kernel
theorem dX11_crane_100 : decode cX11_crane 100 = .ok (.getfield 10, 3) := by decide +kernel
theorem dX11_crane_103 : decode cX11_crane 103 = .ok (.invokevirtual 198, 3) := by decide +kernel
theorem dX11_crane_106 : decode cX11_crane 106 = .ok (.astore 5, 2) := by decide +kernel
theorem dX11_crane_108 : decode cX11_crane 108 = .ok (.aload 5, 2) := by decide +kernel
theorem dX11_crane_110 : decode cX11_crane 110 = .ok (.ifnonnull 6, 3) := by decide +kernel
theorem dX11_crane_113 : decode cX11_crane 113 = .ok (.bipush (-4), 2) := by decide +kernel
theorem dX11_crane_115 : decode cX11_crane 115 = .ok (.ireturn, 1) := by decide +kernel
theorem dX11_crane_116 : decode cX11_crane 116 = .ok (.aload 5, 2) := by decide +kernel
theorem dX11_crane_118 : decode cX11_crane 118 = .ok (.iload_n 1, 1) := by decide +kernel
theorem dX11_crane_119 : decode cX11_crane 119 = .ok (.iload_n 2, 1) := by decide +kernel
theorem dX11_crane_120 : decode cX11_crane 120 = .ok (.iload_n 3, 1) := by decide +kernel
theorem dX11_crane_121 : decode cX11_crane 121 = .ok (.invokevirtual 202, 3) := by decide +kernel
theorem dX11_crane_124 : decode cX11_crane 124 = .ok (.aload_n 0, 1) := by decide +kernel
theorem dX11_crane_125 : decode cX11_crane 125 = .ok (.getfield 19, 3) := by decide +kernel
theorem dX11_crane_128 : decode cX11_crane 128 = .ok (.invokevirtual 152, 3) := by decide +kernel
theorem dX11_crane_131 : decode cX11_crane 131 = .ok (.aload 5, 2) := by decide +kernel
theorem dX11_crane_133 : decode cX11_crane 133 = .ok (.getfield 205, 3) := by decide +kernel
theorem dX11_crane_136 : decode cX11_crane 136 = .ok (.ireturn, 1) := by decide +kernel
def M_X11_crane : y_M := (yX11_crane, cX11_crane, 6, (Option.some Jvm.ClassFile.FieldType.int))
theorem n_X11_crane : y_N0 M_X11_crane 3 := ⟨(c_3 167 (by decide +kernel) rfl), (c_1 1 (by decide +kernel) rfl), ⟨by decide +kernel, by decide +kernel⟩, by decide +kernel⟩
theorem l_BoxYard_195 : y_lnk "BoxYard" 195 M_X10_hasRoomOnRail := Or.inl (c_3 168 (by decide +kernel) rfl)
theorem l_BoxYard_198 : y_lnk "BoxYard" 198 M_X10_nextCrane := Or.inl (c_3 172 (by decide +kernel) rfl)
theorem i_X10_nextCrane : Cond.instanceMethod (M_X10_nextCrane).1 ∈ y_tb := (c_3 173 (by decide +kernel) rfl)
theorem e_X10_nextCrane : Cond.selects (M_X10_nextCrane).1.cls (M_X10_nextCrane).1 (M_X10_nextCrane).1 ∈ y_tb := (c_3 174 (by decide +kernel) rfl)
theorem l_BoxYard_202 : y_lnk "BoxYard" 202 M_X3_begin := Or.inl (c_3 226 (by decide +kernel) rfl)
theorem i_X3_begin : Cond.instanceMethod (M_X3_begin).1 ∈ y_tb := (c_3 227 (by decide +kernel) rfl)
theorem e_X3_begin : Cond.selects (M_X3_begin).1.cls (M_X3_begin).1 (M_X3_begin).1 ∈ y_tb := (c_3 228 (by decide +kernel) rfl)
theorem F_BoxYard_205 : y_F "BoxYard" 205 3 0 := ⟨_, _, _, rfl, by decide, Or.inr ⟨"BoxYard", (c_3 182 (by decide +kernel) rfl)⟩⟩
set_option maxRecDepth 100000 in
def f_X11_crane (p0 : Nat) (p1 : Int32) (p2 : Int32) (p3 : Int32) (c0 s0 : Nat) (h : y_H) : Option ((Int32 × Nat × Nat) × y_H) :=
  y_cl (f_X11_isWithin p1 0 4 h) (fun r1 h2 =>
  if r1 = true then
    if 2 < p1 then
      y_jn (fun (v0_49 : Nat) (v1_49 : Int32) (v2_49 : Int32) (v3_49 : Int32) (c49 : Nat) (s49 : Nat) (h4 : y_H) => (
          y_cl (f_X11_isWithin v3_49 0 9 h4) (fun r5 h6 =>
          if r5 = true then
            if y_K h6 v0_49 = 12 then
            if y_K h6 (y_P h6 v0_49 0) = 11 then
            if (y_I h6 (y_P h6 v0_49 0) 4) < 12 then
              if y_K h6 v0_49 = 12 then
              if y_K h6 v0_49 = 12 then
              if y_K h6 (y_P h6 v0_49 0) = 11 then
              if y_K h6 (y_P h6 v0_49 0) = 11 then
              y_cl (f_X10_hasRoomOnRail (y_P h6 v0_49 0) v2_49 (y_I h6 (y_P h6 v0_49 0) 4) v3_49 h6) (fun r8 h9 =>
              if r8 = true then
                if y_K h9 v0_49 = 12 then
                if y_K h9 (y_P h9 v0_49 0) = 11 then
                y_cl (f_X10_nextCrane (y_P h9 v0_49 0) c49 s49 h9) (fun r11 h12 =>
                if r11.1 = 0 then
                  some (((-4 : Int32), r11.2.1, r11.2.2), h12)
                else
                  if y_K h12 r11.1 = 4 then
                  y_cl (f_X3_begin r11.1 v1_49 v2_49 v3_49 h12) (fun _ h14 =>
                  if y_K h14 v0_49 = 12 then
                  if y_K h14 (y_P h14 v0_49 1) = 6 then
                  y_cl (f_X5_begin (y_P h14 v0_49 1) h14) (fun _ h16 =>
                  if y_K h16 r11.1 = 4 then
                  some ((y_I h16 r11.1 0, r11.2.1, r11.2.2), h16)
                  else none)
                  else none
                  else none)
                  else none)
                else none
                else none
              else
                some (((-47 : Int32), c49, s49), h9))
              else none
              else none
              else none
              else none
            else
              some (((-4 : Int32), c49, s49), h6)
            else none
            else none
          else
            some (((-2 : Int32), c49, s49), h6)) : Option ((Int32 × Nat × Nat) × y_H))) (fun j49 =>
      y_jn (fun (c47 : Nat) (s47 : Nat) (h34 : y_H) => (
          some (((-1 : Int32), c47, s47), h34) : Option ((Int32 × Nat × Nat) × y_H))) (fun j47 =>
      if (0 : Int32) = 0 then
        if p2 = (-9 : Int32) then
          j49 p0 p1 p2 p3 c0 s0 h2
        else
          j47 c0 s0 h2
      else
        y_cl (f_X11_isWithin p2 0 2 h2) (fun r36 h37 =>
        if r36 = true then
          j49 p0 p1 p2 p3 c0 s0 h37
        else
          j47 c0 s0 h37)))
    else
      y_jn (fun (v0_49 : Nat) (v1_49 : Int32) (v2_49 : Int32) (v3_49 : Int32) (c49 : Nat) (s49 : Nat) (h41 : y_H) => (
          y_cl (f_X11_isWithin v3_49 0 9 h41) (fun r42 h43 =>
          if r42 = true then
            if y_K h43 v0_49 = 12 then
            if y_K h43 (y_P h43 v0_49 0) = 11 then
            if (y_I h43 (y_P h43 v0_49 0) 4) < 12 then
              if y_K h43 v0_49 = 12 then
              if y_K h43 v0_49 = 12 then
              if y_K h43 (y_P h43 v0_49 0) = 11 then
              if y_K h43 (y_P h43 v0_49 0) = 11 then
              y_cl (f_X10_hasRoomOnRail (y_P h43 v0_49 0) v2_49 (y_I h43 (y_P h43 v0_49 0) 4) v3_49 h43) (fun r45 h46 =>
              if r45 = true then
                if y_K h46 v0_49 = 12 then
                if y_K h46 (y_P h46 v0_49 0) = 11 then
                y_cl (f_X10_nextCrane (y_P h46 v0_49 0) c49 s49 h46) (fun r48 h49 =>
                if r48.1 = 0 then
                  some (((-4 : Int32), r48.2.1, r48.2.2), h49)
                else
                  if y_K h49 r48.1 = 4 then
                  y_cl (f_X3_begin r48.1 v1_49 v2_49 v3_49 h49) (fun _ h51 =>
                  if y_K h51 v0_49 = 12 then
                  if y_K h51 (y_P h51 v0_49 1) = 6 then
                  y_cl (f_X5_begin (y_P h51 v0_49 1) h51) (fun _ h53 =>
                  if y_K h53 r48.1 = 4 then
                  some ((y_I h53 r48.1 0, r48.2.1, r48.2.2), h53)
                  else none)
                  else none
                  else none)
                  else none)
                else none
                else none
              else
                some (((-47 : Int32), c49, s49), h46))
              else none
              else none
              else none
              else none
            else
              some (((-4 : Int32), c49, s49), h43)
            else none
            else none
          else
            some (((-2 : Int32), c49, s49), h43)) : Option ((Int32 × Nat × Nat) × y_H))) (fun j49 =>
      y_jn (fun (c47 : Nat) (s47 : Nat) (h71 : y_H) => (
          some (((-1 : Int32), c47, s47), h71) : Option ((Int32 × Nat × Nat) × y_H))) (fun j47 =>
      if (1 : Int32) = 0 then
        if p2 = (-9 : Int32) then
          j49 p0 p1 p2 p3 c0 s0 h2
        else
          j47 c0 s0 h2
      else
        y_cl (f_X11_isWithin p2 0 2 h2) (fun r73 h74 =>
        if r73 = true then
          j49 p0 p1 p2 p3 c0 s0 h74
        else
          j47 c0 s0 h74)))
  else
    some (((-2 : Int32), c0, s0), h2))
abbrev FF_X11_crane : Nat := 3
abbrev LL_X11_crane : Nat := 69
set_option maxRecDepth 100000 in
set_option maxHeartbeats 4000000 in
theorem k_X11_crane {l : Launch} {G : y_G} {p0 : Nat} {p1 : Int32} {p2 : Int32} {p3 : Int32} {c0 s0 cz sz : Nat} {h hz : y_H} {rz : Int32} (hf : f_X11_crane p0 p1 p2 p3 c0 s0 h = some ((rz, cz, sz), hz)) : (c0 ≤ cz ∧ s0 ≤ sz) ∧ y_S l G M_X11_crane (y_Rm FF_X11_crane LL_X11_crane c0 s0 cz sz) [y_p p0, .int p1, .int p2, .int p3] h (some (.int rz)) hz := by
  refine y_Ustart (lv := [(0, y_p p0), (1, .int p1), (2, .int p2), (3, .int p3)]) (by decide) (by simp [lg_sl, y_p_cat, y_ci, y_cj, M_X11_crane]) (by simp [lv_args, y_p_cat, y_ci, y_cj]) (fun z ad0 => ?_)
  unfold f_X11_crane at hf
  refine y_lf (fun _ _ _ _ k => y_iload_n (pc2 := 1) rfl dX11_crane_0 rfl k) ?_
  refine y_lf (fun _ _ _ _ k => y_iconst (v := 0) (pc2 := 2) rfl dX11_crane_1 (by decide) k) ?_
  refine y_lf (fun _ _ _ _ k => y_iconst (v := 4) (pc2 := 3) rfl dX11_crane_2 (by decide) k) ?_
  obtain ⟨r1, h2, c3, hf⟩ := y_clE hf
  refine y_UcS0 (As := [.int p1, .int 0, .int 4]) (rm := rm_X11_isWithin) (pc2 := 6) rfl dX11_crane_3 n_X11_isWithin l_BoxYard_56 t_X11_isWithin rfl rfl (by decide) (by decide) rfl rfl (k_X11_isWithin c3) ?_
  refine y_lf2 (Classical.em _) (fun _ _ k1 k2 => y_ifz_ne (tgt := 12) (pc2 := 9) rfl dX11_crane_6 (by decide) k1 k2) (fun c79 => ?_) (fun c79 => ?_)
  · replace hf := y_it c79 hf
    refine y_lf (fun _ _ _ _ k => y_iload_n (pc2 := 13) rfl dX11_crane_12 rfl k) ?_
    refine y_lf (fun _ _ _ _ k => y_iconst (v := 2) (pc2 := 14) rfl dX11_crane_13 (by decide) k) ?_
    refine y_lf2 (Classical.em _) (fun _ _ k1 k2 => y_icmp_gt (tgt := 21) (pc2 := 17) rfl dX11_crane_14 (by decide) k1 k2) (fun c78 => ?_) (fun c78 => ?_)
    · replace hf := y_it c78 hf
      refine y_lf (fun _ _ _ _ k => y_iconst (v := 0) (pc2 := 22) rfl dX11_crane_21 (by decide) k) ?_
      refine y_lf (fun _ _ _ _ k => y_istore (lv' := [(4, .int 0), (0, y_p p0), (1, .int p1), (2, .int p2), (3, .int p3)]) (pc2 := 24) rfl dX11_crane_22 (by decide) rfl k) ?_
      refine y_lf (fun _ _ _ _ k => y_iload (pc2 := 26) rfl dX11_crane_24 rfl k) ?_
      refine y_jnE hf (fun j => ∀ (v0_49 : Nat) (v1_49 : Int32) (v2_49 : Int32) (v3_49 : Int32) (c49 : Nat) (s49 : Nat) (h4 : y_H), j v0_49 v1_49 v2_49 v3_49 c49 s49 h4 = some ((rz, cz, sz), hz) → y_U l G z FF_X11_crane LL_X11_crane (cz - c0) (sz - s0) c0 s0 cz sz M_X11_crane ad0 h (some (.int rz)) hz 49 [(0, y_p v0_49), (1, .int v1_49), (2, .int v2_49), (3, .int v3_49)] [] h4 c49 s49) (fun v0_49 v1_49 v2_49 v3_49 c49 s49 h4 hf => ?_) (fun j49 hj49 hf => ?_)
      · refine y_lf (fun _ _ _ _ k => y_iload_n (pc2 := 50) rfl dX11_crane_49 rfl k) ?_
        refine y_lf (fun _ _ _ _ k => y_iconst (v := 0) (pc2 := 51) rfl dX11_crane_50 (by decide) k) ?_
        refine y_lf (fun _ _ _ _ k => y_bipush (v := 9) (pc2 := 53) rfl dX11_crane_51 (by decide) k) ?_
        obtain ⟨r5, h6, c7, hf⟩ := y_clE hf
        refine y_UcS0 (As := [.int v3_49, .int 0, .int 9]) (rm := rm_X11_isWithin) (pc2 := 56) rfl dX11_crane_53 n_X11_isWithin l_BoxYard_56 t_X11_isWithin rfl rfl (by decide) (by decide) rfl rfl (k_X11_isWithin c7) ?_
        refine y_lf2 (Classical.em _) (fun _ _ k1 k2 => y_ifz_ne (tgt := 62) (pc2 := 59) rfl dX11_crane_56 (by decide) k1 k2) (fun c33 => ?_) (fun c33 => ?_)
        · replace hf := y_it c33 hf
          refine y_lf (fun _ _ _ _ k => y_aload_n (x := v0_49) (pc2 := 63) rfl dX11_crane_62 rfl k) ?_
          obtain ⟨g32, hf⟩ := y_g hf
          refine y_lf (fun _ _ _ _ k => y_getP (pc2 := 66) rfl dX11_crane_63 F_BoxYard_10 (by decide) rfl g32 k) ?_
          obtain ⟨g31, hf⟩ := y_g hf
          refine y_lf (fun _ _ _ _ k => y_getI (pc2 := 69) rfl dX11_crane_66 F_BoxYard_192 (by decide) rfl g31 k) ?_
          refine y_lf (fun _ _ _ _ k => y_bipush (v := 12) (pc2 := 71) rfl dX11_crane_69 (by decide) k) ?_
          refine y_lf2 (Classical.em _) (fun _ _ k1 k2 => y_icmp_lt (tgt := 77) (pc2 := 74) rfl dX11_crane_71 (by decide) k1 k2) (fun c30 => ?_) (fun c30 => ?_)
          · replace hf := y_it c30 hf
            refine y_lf (fun _ _ _ _ k => y_aload_n (x := v0_49) (pc2 := 78) rfl dX11_crane_77 rfl k) ?_
            obtain ⟨g29, hf⟩ := y_g hf
            refine y_lf (fun _ _ _ _ k => y_getP (pc2 := 81) rfl dX11_crane_78 F_BoxYard_10 (by decide) rfl g29 k) ?_
            refine y_lf (fun _ _ _ _ k => y_iload_n (pc2 := 82) rfl dX11_crane_81 rfl k) ?_
            refine y_lf (fun _ _ _ _ k => y_aload_n (x := v0_49) (pc2 := 83) rfl dX11_crane_82 rfl k) ?_
            obtain ⟨g28, hf⟩ := y_g hf
            refine y_lf (fun _ _ _ _ k => y_getP (pc2 := 86) rfl dX11_crane_83 F_BoxYard_10 (by decide) rfl g28 k) ?_
            obtain ⟨g27, hf⟩ := y_g hf
            refine y_lf (fun _ _ _ _ k => y_getI (pc2 := 89) rfl dX11_crane_86 F_BoxYard_192 (by decide) rfl g27 k) ?_
            refine y_lf (fun _ _ _ _ k => y_iload_n (pc2 := 90) rfl dX11_crane_89 rfl k) ?_
            obtain ⟨g26, hf⟩ := y_g hf
            obtain ⟨r8, h9, c10, hf⟩ := y_clE hf
            refine y_UcV0 (As := [.int v2_49, .int (y_I h6 (y_P h6 v0_49 0) 4), .int v3_49]) (rm := rm_X10_hasRoomOnRail) (pc2 := 93) rfl dX11_crane_90 n_X10_hasRoomOnRail l_BoxYard_195 i_X10_hasRoomOnRail e_X10_hasRoomOnRail (ci := 10) rfl rfl (by decide) g26 rfl rfl (by decide) (by decide) rfl rfl (k_X10_hasRoomOnRail c10) ?_
            refine y_lf2 (Classical.em _) (fun _ _ k1 k2 => y_ifz_ne (tgt := 99) (pc2 := 96) rfl dX11_crane_93 (by decide) k1 k2) (fun c25 => ?_) (fun c25 => ?_)
            · replace hf := y_it c25 hf
              refine y_lf (fun _ _ _ _ k => y_aload_n (x := v0_49) (pc2 := 100) rfl dX11_crane_99 rfl k) ?_
              obtain ⟨g24, hf⟩ := y_g hf
              refine y_lf (fun _ _ _ _ k => y_getP (pc2 := 103) rfl dX11_crane_100 F_BoxYard_10 (by decide) rfl g24 k) ?_
              obtain ⟨g23, hf⟩ := y_g hf
              obtain ⟨r11, h12, c13, hf⟩ := y_clE hf
              refine y_UcallV (As := []) (pc2 := 106) rfl dX11_crane_103 n_X10_nextCrane l_BoxYard_198 i_X10_nextCrane e_X10_nextCrane (ci := 10) rfl rfl (by decide) g23 rfl rfl (by decide) (by decide) (k_X10_nextCrane c13) ?_
              refine y_lf (fun _ _ _ _ k => y_astore (lv' := [(5, y_p r11.1), (0, y_p v0_49), (1, .int v1_49), (2, .int v2_49), (3, .int v3_49)]) (pc2 := 108) rfl dX11_crane_106 (by decide) rfl k) ?_
              refine y_lf (fun _ _ _ _ k => y_aload (x := r11.1) (pc2 := 110) rfl dX11_crane_108 rfl k) ?_
              refine y_lf2 (Classical.em _).symm (fun _ _ k1 k2 => y_ifnonnull (tgt := 116) (pc2 := 113) rfl dX11_crane_110 (by decide) k1 k2) (fun c22 => ?_) (fun c22 => ?_)
              · replace hf := y_ie c22 hf
                refine y_lf (fun _ _ _ _ k => y_aload (x := r11.1) (pc2 := 118) rfl dX11_crane_116 rfl k) ?_
                refine y_lf (fun _ _ _ _ k => y_iload_n (pc2 := 119) rfl dX11_crane_118 rfl k) ?_
                refine y_lf (fun _ _ _ _ k => y_iload_n (pc2 := 120) rfl dX11_crane_119 rfl k) ?_
                refine y_lf (fun _ _ _ _ k => y_iload_n (pc2 := 121) rfl dX11_crane_120 rfl k) ?_
                obtain ⟨g21, hf⟩ := y_g hf
                obtain ⟨r_, h14, c15, hf⟩ := y_clE hf
                refine y_UcV0 (As := [.int v1_49, .int v2_49, .int v3_49]) (rm := rm_X3_begin) (pc2 := 124) rfl dX11_crane_121 n_X3_begin l_BoxYard_202 i_X3_begin e_X3_begin (ci := 3) rfl rfl (by decide) g21 rfl rfl (by decide) (by decide) rfl rfl (k_X3_begin c15) ?_
                refine y_lf (fun _ _ _ _ k => y_aload_n (x := v0_49) (pc2 := 125) rfl dX11_crane_124 rfl k) ?_
                obtain ⟨g20, hf⟩ := y_g hf
                refine y_lf (fun _ _ _ _ k => y_getP (pc2 := 128) rfl dX11_crane_125 F_BoxYard_19 (by decide) rfl g20 k) ?_
                obtain ⟨g19, hf⟩ := y_g hf
                obtain ⟨r_, h16, c17, hf⟩ := y_clE hf
                refine y_UcV0 (As := []) (rm := rm_X5_begin) (pc2 := 131) rfl dX11_crane_128 n_X5_begin l_BoxYard_152 i_X5_begin e_X5_begin (ci := 5) rfl rfl (by decide) g19 rfl rfl (by decide) (by decide) rfl rfl (k_X5_begin c17) ?_
                refine y_lf (fun _ _ _ _ k => y_aload (x := r11.1) (pc2 := 133) rfl dX11_crane_131 rfl k) ?_
                obtain ⟨g18, hf⟩ := y_g hf
                refine y_lf (fun _ _ _ _ k => y_getI (pc2 := 136) rfl dX11_crane_133 F_BoxYard_205 (by decide) rfl g18 k) ?_
                exact y_iretU hf dX11_crane_136 rfl
              · replace hf := y_it c22 hf
                refine y_lf (fun _ _ _ _ k => y_bipush (v := (-4 : Int32)) (pc2 := 115) rfl dX11_crane_113 (by decide) k) ?_
                exact y_iretU hf dX11_crane_115 rfl
            · replace hf := y_ie c25 hf
              refine y_lf (fun _ _ _ _ k => y_bipush (v := (-47 : Int32)) (pc2 := 98) rfl dX11_crane_96 (by decide) k) ?_
              exact y_iretU hf dX11_crane_98 rfl
          · replace hf := y_ie c30 hf
            refine y_lf (fun _ _ _ _ k => y_bipush (v := (-4 : Int32)) (pc2 := 76) rfl dX11_crane_74 (by decide) k) ?_
            exact y_iretU hf dX11_crane_76 rfl
        · replace hf := y_ie c33 hf
          refine y_lf (fun _ _ _ _ k => y_bipush (v := (-2 : Int32)) (pc2 := 61) rfl dX11_crane_59 (by decide) k) ?_
          exact y_iretU hf dX11_crane_61 rfl
      · refine y_jnE hf (fun j => ∀ (c47 : Nat) (s47 : Nat) (h34 : y_H), j c47 s47 h34 = some ((rz, cz, sz), hz) → y_U l G z FF_X11_crane LL_X11_crane (cz - c0) (sz - s0) c0 s0 cz sz M_X11_crane ad0 h (some (.int rz)) hz 47 [] [] h34 c47 s47) (fun c47 s47 h34 hf => ?_) (fun j47 hj47 hf => ?_)
        · refine y_lf (fun _ _ _ _ k => y_iconst (v := (-1 : Int32)) (pc2 := 48) rfl dX11_crane_47 (by decide) k) ?_
          exact y_iretU hf dX11_crane_48 rfl
        · refine y_lf2 (Classical.em _) (fun _ _ k1 k2 => y_if_eq (tgt := 41) (pc2 := 29) rfl dX11_crane_26 (by decide) k1 k2) (fun c40 => ?_) (fun c40 => ?_)
          · replace hf := y_it c40 hf
            refine y_lf (fun _ _ _ _ k => y_iload_n (pc2 := 42) rfl dX11_crane_41 rfl k) ?_
            refine y_lf (fun _ _ _ _ k => y_bipush (v := (-9 : Int32)) (pc2 := 44) rfl dX11_crane_42 (by decide) k) ?_
            refine y_lf2 (Classical.em _) (fun _ _ k1 k2 => y_icmp_eq (tgt := 49) (pc2 := 47) rfl dX11_crane_44 (by decide) k1 k2) (fun c35 => ?_) (fun c35 => ?_)
            · replace hf := y_it c35 hf
              exact y_lf (fun _ _ _ _ k => y_pk [1, 2, 3, 4] rfl k) (hj49 _ _ _ _ _ _ _ hf)
            · replace hf := y_ie c35 hf
              exact y_lf (fun _ _ _ _ k => y_pk [] rfl k) (hj47 _ _ _ hf)
          · replace hf := y_ie c40 hf
            refine y_lf (fun _ _ _ _ k => y_iload_n (pc2 := 30) rfl dX11_crane_29 rfl k) ?_
            refine y_lf (fun _ _ _ _ k => y_iconst (v := 0) (pc2 := 31) rfl dX11_crane_30 (by decide) k) ?_
            refine y_lf (fun _ _ _ _ k => y_iconst (v := 2) (pc2 := 32) rfl dX11_crane_31 (by decide) k) ?_
            obtain ⟨r36, h37, c38, hf⟩ := y_clE hf
            refine y_UcS0 (As := [.int p2, .int 0, .int 2]) (rm := rm_X11_isWithin) (pc2 := 35) rfl dX11_crane_32 n_X11_isWithin l_BoxYard_56 t_X11_isWithin rfl rfl (by decide) (by decide) rfl rfl (k_X11_isWithin c38) ?_
            refine y_lf2 (Classical.em _) (fun _ _ k1 k2 => y_ifz_ne (tgt := 49) (pc2 := 38) rfl dX11_crane_35 (by decide) k1 k2) (fun c39 => ?_) (fun c39 => ?_)
            · replace hf := y_it c39 hf
              exact y_lf (fun _ _ _ _ k => y_pk [1, 2, 3, 4] rfl k) (hj49 _ _ _ _ _ _ _ hf)
            · replace hf := y_ie c39 hf
              refine y_lf (fun _ _ _ _ k => y_goto (tgt := 47) dX11_crane_38 (by decide) k) ?_
              exact y_lf (fun _ _ _ _ k => y_pk [] rfl k) (hj47 _ _ _ hf)
    · replace hf := y_ie c78 hf
      refine y_lf (fun _ _ _ _ k => y_iconst (v := 1) (pc2 := 18) rfl dX11_crane_17 (by decide) k) ?_
      refine y_lf (fun _ _ _ _ k => y_goto (tgt := 22) dX11_crane_18 (by decide) k) ?_
      refine y_lf (fun _ _ _ _ k => y_istore (lv' := [(4, .int 1), (0, y_p p0), (1, .int p1), (2, .int p2), (3, .int p3)]) (pc2 := 24) rfl dX11_crane_22 (by decide) rfl k) ?_
      refine y_lf (fun _ _ _ _ k => y_iload (pc2 := 26) rfl dX11_crane_24 rfl k) ?_
      refine y_jnE hf (fun j => ∀ (v0_49 : Nat) (v1_49 : Int32) (v2_49 : Int32) (v3_49 : Int32) (c49 : Nat) (s49 : Nat) (h41 : y_H), j v0_49 v1_49 v2_49 v3_49 c49 s49 h41 = some ((rz, cz, sz), hz) → y_U l G z FF_X11_crane LL_X11_crane (cz - c0) (sz - s0) c0 s0 cz sz M_X11_crane ad0 h (some (.int rz)) hz 49 [(0, y_p v0_49), (1, .int v1_49), (2, .int v2_49), (3, .int v3_49)] [] h41 c49 s49) (fun v0_49 v1_49 v2_49 v3_49 c49 s49 h41 hf => ?_) (fun j49 hj49 hf => ?_)
      · refine y_lf (fun _ _ _ _ k => y_iload_n (pc2 := 50) rfl dX11_crane_49 rfl k) ?_
        refine y_lf (fun _ _ _ _ k => y_iconst (v := 0) (pc2 := 51) rfl dX11_crane_50 (by decide) k) ?_
        refine y_lf (fun _ _ _ _ k => y_bipush (v := 9) (pc2 := 53) rfl dX11_crane_51 (by decide) k) ?_
        obtain ⟨r42, h43, c44, hf⟩ := y_clE hf
        refine y_UcS0 (As := [.int v3_49, .int 0, .int 9]) (rm := rm_X11_isWithin) (pc2 := 56) rfl dX11_crane_53 n_X11_isWithin l_BoxYard_56 t_X11_isWithin rfl rfl (by decide) (by decide) rfl rfl (k_X11_isWithin c44) ?_
        refine y_lf2 (Classical.em _) (fun _ _ k1 k2 => y_ifz_ne (tgt := 62) (pc2 := 59) rfl dX11_crane_56 (by decide) k1 k2) (fun c70 => ?_) (fun c70 => ?_)
        · replace hf := y_it c70 hf
          refine y_lf (fun _ _ _ _ k => y_aload_n (x := v0_49) (pc2 := 63) rfl dX11_crane_62 rfl k) ?_
          obtain ⟨g69, hf⟩ := y_g hf
          refine y_lf (fun _ _ _ _ k => y_getP (pc2 := 66) rfl dX11_crane_63 F_BoxYard_10 (by decide) rfl g69 k) ?_
          obtain ⟨g68, hf⟩ := y_g hf
          refine y_lf (fun _ _ _ _ k => y_getI (pc2 := 69) rfl dX11_crane_66 F_BoxYard_192 (by decide) rfl g68 k) ?_
          refine y_lf (fun _ _ _ _ k => y_bipush (v := 12) (pc2 := 71) rfl dX11_crane_69 (by decide) k) ?_
          refine y_lf2 (Classical.em _) (fun _ _ k1 k2 => y_icmp_lt (tgt := 77) (pc2 := 74) rfl dX11_crane_71 (by decide) k1 k2) (fun c67 => ?_) (fun c67 => ?_)
          · replace hf := y_it c67 hf
            refine y_lf (fun _ _ _ _ k => y_aload_n (x := v0_49) (pc2 := 78) rfl dX11_crane_77 rfl k) ?_
            obtain ⟨g66, hf⟩ := y_g hf
            refine y_lf (fun _ _ _ _ k => y_getP (pc2 := 81) rfl dX11_crane_78 F_BoxYard_10 (by decide) rfl g66 k) ?_
            refine y_lf (fun _ _ _ _ k => y_iload_n (pc2 := 82) rfl dX11_crane_81 rfl k) ?_
            refine y_lf (fun _ _ _ _ k => y_aload_n (x := v0_49) (pc2 := 83) rfl dX11_crane_82 rfl k) ?_
            obtain ⟨g65, hf⟩ := y_g hf
            refine y_lf (fun _ _ _ _ k => y_getP (pc2 := 86) rfl dX11_crane_83 F_BoxYard_10 (by decide) rfl g65 k) ?_
            obtain ⟨g64, hf⟩ := y_g hf
            refine y_lf (fun _ _ _ _ k => y_getI (pc2 := 89) rfl dX11_crane_86 F_BoxYard_192 (by decide) rfl g64 k) ?_
            refine y_lf (fun _ _ _ _ k => y_iload_n (pc2 := 90) rfl dX11_crane_89 rfl k) ?_
            obtain ⟨g63, hf⟩ := y_g hf
            obtain ⟨r45, h46, c47, hf⟩ := y_clE hf
            refine y_UcV0 (As := [.int v2_49, .int (y_I h43 (y_P h43 v0_49 0) 4), .int v3_49]) (rm := rm_X10_hasRoomOnRail) (pc2 := 93) rfl dX11_crane_90 n_X10_hasRoomOnRail l_BoxYard_195 i_X10_hasRoomOnRail e_X10_hasRoomOnRail (ci := 10) rfl rfl (by decide) g63 rfl rfl (by decide) (by decide) rfl rfl (k_X10_hasRoomOnRail c47) ?_
            refine y_lf2 (Classical.em _) (fun _ _ k1 k2 => y_ifz_ne (tgt := 99) (pc2 := 96) rfl dX11_crane_93 (by decide) k1 k2) (fun c62 => ?_) (fun c62 => ?_)
            · replace hf := y_it c62 hf
              refine y_lf (fun _ _ _ _ k => y_aload_n (x := v0_49) (pc2 := 100) rfl dX11_crane_99 rfl k) ?_
              obtain ⟨g61, hf⟩ := y_g hf
              refine y_lf (fun _ _ _ _ k => y_getP (pc2 := 103) rfl dX11_crane_100 F_BoxYard_10 (by decide) rfl g61 k) ?_
              obtain ⟨g60, hf⟩ := y_g hf
              obtain ⟨r48, h49, c50, hf⟩ := y_clE hf
              refine y_UcallV (As := []) (pc2 := 106) rfl dX11_crane_103 n_X10_nextCrane l_BoxYard_198 i_X10_nextCrane e_X10_nextCrane (ci := 10) rfl rfl (by decide) g60 rfl rfl (by decide) (by decide) (k_X10_nextCrane c50) ?_
              refine y_lf (fun _ _ _ _ k => y_astore (lv' := [(5, y_p r48.1), (0, y_p v0_49), (1, .int v1_49), (2, .int v2_49), (3, .int v3_49)]) (pc2 := 108) rfl dX11_crane_106 (by decide) rfl k) ?_
              refine y_lf (fun _ _ _ _ k => y_aload (x := r48.1) (pc2 := 110) rfl dX11_crane_108 rfl k) ?_
              refine y_lf2 (Classical.em _).symm (fun _ _ k1 k2 => y_ifnonnull (tgt := 116) (pc2 := 113) rfl dX11_crane_110 (by decide) k1 k2) (fun c59 => ?_) (fun c59 => ?_)
              · replace hf := y_ie c59 hf
                refine y_lf (fun _ _ _ _ k => y_aload (x := r48.1) (pc2 := 118) rfl dX11_crane_116 rfl k) ?_
                refine y_lf (fun _ _ _ _ k => y_iload_n (pc2 := 119) rfl dX11_crane_118 rfl k) ?_
                refine y_lf (fun _ _ _ _ k => y_iload_n (pc2 := 120) rfl dX11_crane_119 rfl k) ?_
                refine y_lf (fun _ _ _ _ k => y_iload_n (pc2 := 121) rfl dX11_crane_120 rfl k) ?_
                obtain ⟨g58, hf⟩ := y_g hf
                obtain ⟨r_, h51, c52, hf⟩ := y_clE hf
                refine y_UcV0 (As := [.int v1_49, .int v2_49, .int v3_49]) (rm := rm_X3_begin) (pc2 := 124) rfl dX11_crane_121 n_X3_begin l_BoxYard_202 i_X3_begin e_X3_begin (ci := 3) rfl rfl (by decide) g58 rfl rfl (by decide) (by decide) rfl rfl (k_X3_begin c52) ?_
                refine y_lf (fun _ _ _ _ k => y_aload_n (x := v0_49) (pc2 := 125) rfl dX11_crane_124 rfl k) ?_
                obtain ⟨g57, hf⟩ := y_g hf
                refine y_lf (fun _ _ _ _ k => y_getP (pc2 := 128) rfl dX11_crane_125 F_BoxYard_19 (by decide) rfl g57 k) ?_
                obtain ⟨g56, hf⟩ := y_g hf
                obtain ⟨r_, h53, c54, hf⟩ := y_clE hf
                refine y_UcV0 (As := []) (rm := rm_X5_begin) (pc2 := 131) rfl dX11_crane_128 n_X5_begin l_BoxYard_152 i_X5_begin e_X5_begin (ci := 5) rfl rfl (by decide) g56 rfl rfl (by decide) (by decide) rfl rfl (k_X5_begin c54) ?_
                refine y_lf (fun _ _ _ _ k => y_aload (x := r48.1) (pc2 := 133) rfl dX11_crane_131 rfl k) ?_
                obtain ⟨g55, hf⟩ := y_g hf
                refine y_lf (fun _ _ _ _ k => y_getI (pc2 := 136) rfl dX11_crane_133 F_BoxYard_205 (by decide) rfl g55 k) ?_
                exact y_iretU hf dX11_crane_136 rfl
              · replace hf := y_it c59 hf
                refine y_lf (fun _ _ _ _ k => y_bipush (v := (-4 : Int32)) (pc2 := 115) rfl dX11_crane_113 (by decide) k) ?_
                exact y_iretU hf dX11_crane_115 rfl
            · replace hf := y_ie c62 hf
              refine y_lf (fun _ _ _ _ k => y_bipush (v := (-47 : Int32)) (pc2 := 98) rfl dX11_crane_96 (by decide) k) ?_
              exact y_iretU hf dX11_crane_98 rfl
          · replace hf := y_ie c67 hf
            refine y_lf (fun _ _ _ _ k => y_bipush (v := (-4 : Int32)) (pc2 := 76) rfl dX11_crane_74 (by decide) k) ?_
            exact y_iretU hf dX11_crane_76 rfl
        · replace hf := y_ie c70 hf
          refine y_lf (fun _ _ _ _ k => y_bipush (v := (-2 : Int32)) (pc2 := 61) rfl dX11_crane_59 (by decide) k) ?_
          exact y_iretU hf dX11_crane_61 rfl
      · refine y_jnE hf (fun j => ∀ (c47 : Nat) (s47 : Nat) (h71 : y_H), j c47 s47 h71 = some ((rz, cz, sz), hz) → y_U l G z FF_X11_crane LL_X11_crane (cz - c0) (sz - s0) c0 s0 cz sz M_X11_crane ad0 h (some (.int rz)) hz 47 [] [] h71 c47 s47) (fun c47 s47 h71 hf => ?_) (fun j47 hj47 hf => ?_)
        · refine y_lf (fun _ _ _ _ k => y_iconst (v := (-1 : Int32)) (pc2 := 48) rfl dX11_crane_47 (by decide) k) ?_
          exact y_iretU hf dX11_crane_48 rfl
        · refine y_lf2 (Classical.em _) (fun _ _ k1 k2 => y_if_eq (tgt := 41) (pc2 := 29) rfl dX11_crane_26 (by decide) k1 k2) (fun c77 => ?_) (fun c77 => ?_)
          · replace hf := y_it c77 hf
            refine y_lf (fun _ _ _ _ k => y_iload_n (pc2 := 42) rfl dX11_crane_41 rfl k) ?_
            refine y_lf (fun _ _ _ _ k => y_bipush (v := (-9 : Int32)) (pc2 := 44) rfl dX11_crane_42 (by decide) k) ?_
            refine y_lf2 (Classical.em _) (fun _ _ k1 k2 => y_icmp_eq (tgt := 49) (pc2 := 47) rfl dX11_crane_44 (by decide) k1 k2) (fun c72 => ?_) (fun c72 => ?_)
            · replace hf := y_it c72 hf
              exact y_lf (fun _ _ _ _ k => y_pk [1, 2, 3, 4] rfl k) (hj49 _ _ _ _ _ _ _ hf)
            · replace hf := y_ie c72 hf
              exact y_lf (fun _ _ _ _ k => y_pk [] rfl k) (hj47 _ _ _ hf)
          · replace hf := y_ie c77 hf
            refine y_lf (fun _ _ _ _ k => y_iload_n (pc2 := 30) rfl dX11_crane_29 rfl k) ?_
            refine y_lf (fun _ _ _ _ k => y_iconst (v := 0) (pc2 := 31) rfl dX11_crane_30 (by decide) k) ?_
            refine y_lf (fun _ _ _ _ k => y_iconst (v := 2) (pc2 := 32) rfl dX11_crane_31 (by decide) k) ?_
            obtain ⟨r73, h74, c75, hf⟩ := y_clE hf
            refine y_UcS0 (As := [.int p2, .int 0, .int 2]) (rm := rm_X11_isWithin) (pc2 := 35) rfl dX11_crane_32 n_X11_isWithin l_BoxYard_56 t_X11_isWithin rfl rfl (by decide) (by decide) rfl rfl (k_X11_isWithin c75) ?_
            refine y_lf2 (Classical.em _) (fun _ _ k1 k2 => y_ifz_ne (tgt := 49) (pc2 := 38) rfl dX11_crane_35 (by decide) k1 k2) (fun c76 => ?_) (fun c76 => ?_)
            · replace hf := y_it c76 hf
              exact y_lf (fun _ _ _ _ k => y_pk [1, 2, 3, 4] rfl k) (hj49 _ _ _ _ _ _ _ hf)
            · replace hf := y_ie c76 hf
              refine y_lf (fun _ _ _ _ k => y_goto (tgt := 47) dX11_crane_38 (by decide) k) ?_
              exact y_lf (fun _ _ _ _ k => y_pk [] rfl k) (hj47 _ _ _ hf)
  · replace hf := y_ie c79 hf
    refine y_lf (fun _ _ _ _ k => y_bipush (v := (-2 : Int32)) (pc2 := 11) rfl dX11_crane_9 (by decide) k) ?_
    exact y_iretU hf dX11_crane_11 rfl
theorem dX11_go_0 : decode cX11_go 0 = .ok (.aload_n 0, 1) := by decide +kernel
theorem dX11_go_1 : decode cX11_go 1 = .ok (.getfield 10, 3) := by decide +kernel
theorem dX11_go_4 : decode cX11_go 4 = .ok (.getfield 77, 3) := by decide +kernel
theorem dX11_go_7 : decode cX11_go 7 = .ok (.invokevirtual 81, 3) := by decide +kernel
theorem dX11_go_10 : decode cX11_go 10 = .ok (.aload_n 0, 1) := by decide +kernel
theorem dX11_go_11 : decode cX11_go 11 = .ok (.getfield 10, 3) := by decide +kernel
theorem dX11_go_14 : decode cX11_go 14 = .ok (.iload_n 1, 1) := by decide +kernel
theorem dX11_go_15 : decode cX11_go 15 = .ok (.invokevirtual 209, 3) := by decide +kernel
theorem dX11_go_18 : decode cX11_go 18 = .ok (.astore_n 3, 1) := by decide +kernel
theorem dX11_go_19 : decode cX11_go 19 = .ok (.aload_n 3, 1) := by decide +kernel
theorem dX11_go_20 : decode cX11_go 20 = .ok (.ifnonnull 9, 3) := by decide +kernel
theorem dX11_go_23 : decode cX11_go 23 = .ok (.aload_n 0, 1) := by decide +kernel
theorem dX11_go_24 : decode cX11_go 24 = .ok (.iconst (-1), 1) := by decide +kernel
theorem dX11_go_25 : decode cX11_go 25 = .ok (.invokevirtual 246, 3) := by decide +kernel
theorem dX11_go_28 : decode cX11_go 28 = .ok (.ireturn, 1) := by decide +kernel
theorem dX11_go_29 : decode cX11_go 29 = .ok (.iload_n 2, 1) := by decide +kernel
theorem dX11_go_30 : decode cX11_go 30 = .ok (.iconst 0, 1) := by decide +kernel
theorem dX11_go_31 : decode cX11_go 31 = .ok (.bipush 9, 2) := by decide +kernel
theorem dX11_go_33 : decode cX11_go 33 = .ok (.invokestatic 56, 3) := by decide +kernel
theorem dX11_go_36 : decode cX11_go 36 = .ok (.ifCond .ne 10, 3) := by decide +kernel
theorem dX11_go_39 : decode cX11_go 39 = .ok (.aload_n 0, 1) := by decide +kernel
theorem dX11_go_40 : decode cX11_go 40 = .ok (.bipush (-2), 2) := by decide +kernel
theorem dX11_go_42 : decode cX11_go 42 = .ok (.invokevirtual 246, 3) := by decide +kernel
theorem dX11_go_45 : decode cX11_go 45 = .ok (.ireturn, 1) := by decide +kernel
theorem dX11_go_46 : decode cX11_go 46 = .ok (.aload_n 3, 1) := by decide +kernel
theorem dX11_go_47 : decode cX11_go 47 = .ok (.iconst 0, 1) := by decide +kernel
theorem dX11_go_48 : decode cX11_go 48 = .ok (.putfield 236, 3) := by decide +kernel
theorem dX11_go_51 : decode cX11_go 51 = .ok (.aload_n 0, 1) := by decide +kernel
theorem dX11_go_52 : decode cX11_go 52 = .ok (.getfield 10, 3) := by decide +kernel
theorem dX11_go_55 : decode cX11_go 55 = .ok (.aload_n 3, 1) := by decide +kernel
theorem dX11_go_56 : decode cX11_go 56 = .ok (.iload_n 2, 1) := by decide +kernel
theorem dX11_go_57 : decode cX11_go 57 = .ok (.invokevirtual 249, 3) := by decide +kernel
theorem dX11_go_60 : decode cX11_go 60 = .ok (.istore 4, 2) := by decide +kernel
theorem dX11_go_62 : decode cX11_go 62 = .ok (.iload 4, 2) := by decide +kernel
theorem dX11_go_64 : decode cX11_go 64 = .ok (.ifCond .ne 18, 3) := by decide +kernel
theorem dX11_go_67 : decode cX11_go 67 = .ok (.aload_n 0, 1) := by decide +kernel
theorem dX11_go_68 : decode cX11_go 68 = .ok (.getfield 19, 3) := by decide +kernel
theorem dX11_go_71 : decode cX11_go 71 = .ok (.aconst_null, 1) := by decide +kernel
theorem dX11_go_72 : decode cX11_go 72 = .ok (.aload_n 3, 1) := by decide +kernel
theorem dX11_go_73 : decode cX11_go 73 = .ok (.aconst_null, 1) := by decide +kernel
theorem dX11_go_74 : decode cX11_go 74 = .ok (.invokevirtual 253, 3) := by decide +kernel
theorem dX11_go_77 : decode cX11_go 77 = .ok (.aload_n 3, 1) := by decide +kernel
theorem dX11_go_78 : decode cX11_go 78 = .ok (.iload_n 2, 1) := by decide +kernel
theorem dX11_go_79 : decode cX11_go 79 = .ok (.putfield 223, 3) := by decide +kernel
theorem dX11_go_82 : decode cX11_go 82 = .ok (.aload_n 0, 1) := by decide +kernel
theorem dX11_go_83 : decode cX11_go 83 = .ok (.aload_n 3, 1) := by decide +kernel
theorem dX11_go_84 : decode cX11_go 84 = .ok (.iload 4, 2) := by decide +kernel
theorem dX11_go_86 : decode cX11_go 86 = .ok (.invokevirtual 257, 3) := by decide +kernel
theorem dX11_go_89 : decode cX11_go 89 = .ok (.ireturn, 1) := by decide +kernel
def M_X11_go : y_M := (yX11_go, cX11_go, 5, (Option.some Jvm.ClassFile.FieldType.int))
theorem n_X11_go : y_N0 M_X11_go 2 := ⟨(c_4 110 (by decide +kernel) rfl), (c_1 1 (by decide +kernel) rfl), ⟨by decide +kernel, by decide +kernel⟩, by decide +kernel⟩
theorem l_BoxYard_249 : y_lnk "BoxYard" 249 M_X10_meetsGoing := Or.inl (c_4 115 (by decide +kernel) rfl)
theorem i_X10_meetsGoing : Cond.instanceMethod (M_X10_meetsGoing).1 ∈ y_tb := (c_4 116 (by decide +kernel) rfl)
theorem e_X10_meetsGoing : Cond.selects (M_X10_meetsGoing).1.cls (M_X10_meetsGoing).1 (M_X10_meetsGoing).1 ∈ y_tb := (c_4 117 (by decide +kernel) rfl)
theorem l_BoxYard_257 : y_lnk "BoxYard" 257 M_X11_ended := Or.inl (c_4 129 (by decide +kernel) rfl)
theorem i_X11_ended : Cond.instanceMethod (M_X11_ended).1 ∈ y_tb := (c_4 131 (by decide +kernel) rfl)
theorem e_X11_ended : Cond.selects (M_X11_ended).1.cls (M_X11_ended).1 (M_X11_ended).1 ∈ y_tb := (m_s 19 (by decide +kernel) rfl)
theorem l_BoxYard_253 : y_lnk "BoxYard" 253 M_X5_note := Or.inl (c_4 120 (by decide +kernel) rfl)
theorem i_X5_note : Cond.instanceMethod (M_X5_note).1 ∈ y_tb := (c_4 121 (by decide +kernel) rfl)
theorem e_X5_note : Cond.selects (M_X5_note).1.cls (M_X5_note).1 (M_X5_note).1 ∈ y_tb := (c_4 122 (by decide +kernel) rfl)
theorem Fp_BoxYard_223 {nm : String} : y_Fp "BoxYard" nm 223 3 3 := ⟨_, _, _, rfl, by decide, Or.inl ⟨rfl, Or.inr ⟨"BoxYard", (c_3 193 (by decide +kernel) rfl)⟩⟩⟩
theorem l_BoxYard_246 : y_lnk "BoxYard" 246 M_X11_refused := Or.inl (c_4 111 (by decide +kernel) rfl)
theorem i_X11_refused : Cond.instanceMethod (M_X11_refused).1 ∈ y_tb := (c_4 113 (by decide +kernel) rfl)
theorem e_X11_refused : Cond.selects (M_X11_refused).1.cls (M_X11_refused).1 (M_X11_refused).1 ∈ y_tb := (m_s 18 (by decide +kernel) rfl)
set_option maxRecDepth 100000 in
def f_X11_go (p0 : Nat) (p1 : Int32) (p2 : Int32) (c0 s0 : Nat) (h : y_H) : Option ((Int32 × Nat × Nat) × y_H) :=
  if y_K h p0 = 12 then
  if y_K h (y_P h p0 0) = 11 then
  if y_K h (y_P h (y_P h p0 0) 12) = 10 then
  y_cl (f_X9_begin (y_P h (y_P h p0 0) 12) h) (fun _ h1 =>
  if y_K h1 p0 = 12 then
  if y_K h1 (y_P h1 p0 0) = 11 then
  y_cl (f_X10_craneAt (y_P h1 p0 0) p1 h1) (fun r3 h4 =>
  if r3 = 0 then
    if y_K h4 p0 = 12 then
    y_cl (f_X11_refused p0 (-1 : Int32) h4) (fun r36 h37 =>
    some ((r36, c0, s0), h37))
    else none
  else
    y_cl (f_X11_isWithin p2 0 9 h4) (fun r6 h7 =>
    if r6 = true then
      if y_K h7 r3 = 4 then
      y_bd (s_B h7 r3 7 false) (fun h9 =>
      if y_K h9 p0 = 12 then
      if y_K h9 (y_P h9 p0 0) = 11 then
      y_cl (f_X10_meetsGoing (y_P h9 p0 0) r3 p2 h9) (fun r12 h13 =>
      y_jn (fun (v0_82 : Nat) (v3_82 : Nat) (v4_82 : Int32) (c82 : Nat) (s82 : Nat) (h15 : y_H) => (
          if y_K h15 v0_82 = 12 then
          y_cl (f_X11_ended v0_82 v3_82 v4_82 h15) (fun r16 h17 =>
          some ((r16, c82, s82), h17))
          else none : Option ((Int32 × Nat × Nat) × y_H))) (fun j82 =>
      if r12 = 0 then
        if y_K h13 p0 = 12 then
        if y_K h13 (y_P h13 p0 1) = 6 then
        y_cl (f_X5_note (y_P h13 p0 1) 0 r3 0 c0 s0 h13) (fun r22 h20 =>
        if y_K h20 r3 = 4 then
        y_bd (s_I h20 r3 3 p2) (fun h23 =>
        j82 p0 r3 r12 r22.2.1 r22.2.2 h23)
        else none)
        else none
        else none
      else
        j82 p0 r3 r12 c0 s0 h13))
      else none
      else none)
      else none
    else
      if y_K h7 p0 = 12 then
      y_cl (f_X11_refused p0 (-2 : Int32) h7) (fun r31 h32 =>
      some ((r31, c0, s0), h32))
      else none))
  else none
  else none)
  else none
  else none
  else none
abbrev FF_X11_go : Nat := 5
abbrev LL_X11_go : Nat := 106
set_option maxRecDepth 100000 in
set_option maxHeartbeats 4000000 in
theorem k_X11_go {l : Launch} {G : y_G} {p0 : Nat} {p1 : Int32} {p2 : Int32} {c0 s0 cz sz : Nat} {h hz : y_H} {rz : Int32} (hf : f_X11_go p0 p1 p2 c0 s0 h = some ((rz, cz, sz), hz)) : (c0 ≤ cz ∧ s0 ≤ sz) ∧ y_S l G M_X11_go (y_Rm FF_X11_go LL_X11_go c0 s0 cz sz) [y_p p0, .int p1, .int p2] h (some (.int rz)) hz := by
  refine y_Ustart (lv := [(0, y_p p0), (1, .int p1), (2, .int p2)]) (by decide) (by simp [lg_sl, y_p_cat, y_ci, y_cj, M_X11_go]) (by simp [lv_args, y_p_cat, y_ci, y_cj]) (fun z ad0 => ?_)
  unfold f_X11_go at hf
  refine y_lf (fun _ _ _ _ k => y_aload_n (x := p0) (pc2 := 1) rfl dX11_go_0 rfl k) ?_
  obtain ⟨g45, hf⟩ := y_g hf
  refine y_lf (fun _ _ _ _ k => y_getP (pc2 := 4) rfl dX11_go_1 F_BoxYard_10 (by decide) rfl g45 k) ?_
  obtain ⟨g44, hf⟩ := y_g hf
  refine y_lf (fun _ _ _ _ k => y_getP (pc2 := 7) rfl dX11_go_4 F_BoxYard_77 (by decide) rfl g44 k) ?_
  obtain ⟨g43, hf⟩ := y_g hf
  obtain ⟨r_, h1, c2, hf⟩ := y_clE hf
  refine y_UcV0 (As := []) (rm := rm_X9_begin) (pc2 := 10) rfl dX11_go_7 n_X9_begin l_BoxYard_81 i_X9_begin e_X9_begin (ci := 9) rfl rfl (by decide) g43 rfl rfl (by decide) (by decide) rfl rfl (k_X9_begin c2) ?_
  refine y_lf (fun _ _ _ _ k => y_aload_n (x := p0) (pc2 := 11) rfl dX11_go_10 rfl k) ?_
  obtain ⟨g42, hf⟩ := y_g hf
  refine y_lf (fun _ _ _ _ k => y_getP (pc2 := 14) rfl dX11_go_11 F_BoxYard_10 (by decide) rfl g42 k) ?_
  refine y_lf (fun _ _ _ _ k => y_iload_n (pc2 := 15) rfl dX11_go_14 rfl k) ?_
  obtain ⟨g41, hf⟩ := y_g hf
  obtain ⟨r3, h4, c5, hf⟩ := y_clE hf
  refine y_UcV0 (As := [.int p1]) (rm := rm_X10_craneAt) (pc2 := 18) rfl dX11_go_15 n_X10_craneAt l_BoxYard_209 i_X10_craneAt e_X10_craneAt (ci := 10) rfl rfl (by decide) g41 rfl rfl (by decide) (by decide) rfl rfl (k_X10_craneAt c5) ?_
  refine y_lf (fun _ _ _ _ k => y_astore_n (lv' := [(3, y_p r3), (0, y_p p0), (1, .int p1), (2, .int p2)]) (pc2 := 19) rfl dX11_go_18 (by decide) rfl k) ?_
  refine y_lf (fun _ _ _ _ k => y_aload_n (x := r3) (pc2 := 20) rfl dX11_go_19 rfl k) ?_
  refine y_lf2 (Classical.em _).symm (fun _ _ k1 k2 => y_ifnonnull (tgt := 29) (pc2 := 23) rfl dX11_go_20 (by decide) k1 k2) (fun c40 => ?_) (fun c40 => ?_)
  · replace hf := y_ie c40 hf
    refine y_lf (fun _ _ _ _ k => y_iload_n (pc2 := 30) rfl dX11_go_29 rfl k) ?_
    refine y_lf (fun _ _ _ _ k => y_iconst (v := 0) (pc2 := 31) rfl dX11_go_30 (by decide) k) ?_
    refine y_lf (fun _ _ _ _ k => y_bipush (v := 9) (pc2 := 33) rfl dX11_go_31 (by decide) k) ?_
    obtain ⟨r6, h7, c8, hf⟩ := y_clE hf
    refine y_UcS0 (As := [.int p2, .int 0, .int 9]) (rm := rm_X11_isWithin) (pc2 := 36) rfl dX11_go_33 n_X11_isWithin l_BoxYard_56 t_X11_isWithin rfl rfl (by decide) (by decide) rfl rfl (k_X11_isWithin c8) ?_
    refine y_lf2 (Classical.em _) (fun _ _ k1 k2 => y_ifz_ne (tgt := 46) (pc2 := 39) rfl dX11_go_36 (by decide) k1 k2) (fun c35 => ?_) (fun c35 => ?_)
    · replace hf := y_it c35 hf
      refine y_lf (fun _ _ _ _ k => y_aload_n (x := r3) (pc2 := 47) rfl dX11_go_46 rfl k) ?_
      refine y_lf (fun _ _ _ _ k => y_iconst (v := 0) (pc2 := 48) rfl dX11_go_47 (by decide) k) ?_
      obtain ⟨g11, hf⟩ := y_g hf
      obtain ⟨h9, e10, hf⟩ := y_bdE hf
      refine y_lf (fun _ _ _ _ k => y_putZ (x := false) (pc2 := 51) rfl dX11_go_48 Fp_BoxYard_236 (by decide) rfl g11 e10 k) ?_
      refine y_lf (fun _ _ _ _ k => y_aload_n (x := p0) (pc2 := 52) rfl dX11_go_51 rfl k) ?_
      obtain ⟨g30, hf⟩ := y_g hf
      refine y_lf (fun _ _ _ _ k => y_getP (pc2 := 55) rfl dX11_go_52 F_BoxYard_10 (by decide) rfl g30 k) ?_
      refine y_lf (fun _ _ _ _ k => y_aload_n (x := r3) (pc2 := 56) rfl dX11_go_55 rfl k) ?_
      refine y_lf (fun _ _ _ _ k => y_iload_n (pc2 := 57) rfl dX11_go_56 rfl k) ?_
      obtain ⟨g29, hf⟩ := y_g hf
      obtain ⟨r12, h13, c14, hf⟩ := y_clE hf
      refine y_UcV0 (As := [y_p r3, .int p2]) (rm := rm_X10_meetsGoing) (pc2 := 60) rfl dX11_go_57 n_X10_meetsGoing l_BoxYard_249 i_X10_meetsGoing e_X10_meetsGoing (ci := 10) rfl rfl (by decide) g29 rfl rfl (by decide) (by decide) rfl rfl (k_X10_meetsGoing c14) ?_
      refine y_lf (fun _ _ _ _ k => y_istore (lv' := [(4, .int r12), (3, y_p r3), (0, y_p p0), (1, .int p1), (2, .int p2)]) (pc2 := 62) rfl dX11_go_60 (by decide) (by show y_st1 _ 4 _ = _; simp [y_st1, y_p_cat, y_ci, y_cj]) k) ?_
      refine y_lf (fun _ _ _ _ k => y_iload (pc2 := 64) rfl dX11_go_62 rfl k) ?_
      refine y_jnE hf (fun j => ∀ (v0_82 : Nat) (v3_82 : Nat) (v4_82 : Int32) (c82 : Nat) (s82 : Nat) (h15 : y_H), j v0_82 v3_82 v4_82 c82 s82 h15 = some ((rz, cz, sz), hz) → y_U l G z FF_X11_go LL_X11_go (cz - c0) (sz - s0) c0 s0 cz sz M_X11_go ad0 h (some (.int rz)) hz 82 [(0, y_p v0_82), (3, y_p v3_82), (4, .int v4_82)] [] h15 c82 s82) (fun v0_82 v3_82 v4_82 c82 s82 h15 hf => ?_) (fun j82 hj82 hf => ?_)
      · refine y_lf (fun _ _ _ _ k => y_aload_n (x := v0_82) (pc2 := 83) rfl dX11_go_82 rfl k) ?_
        refine y_lf (fun _ _ _ _ k => y_aload_n (x := v3_82) (pc2 := 84) rfl dX11_go_83 rfl k) ?_
        refine y_lf (fun _ _ _ _ k => y_iload (pc2 := 86) rfl dX11_go_84 rfl k) ?_
        obtain ⟨g19, hf⟩ := y_g hf
        obtain ⟨r16, h17, c18, hf⟩ := y_clE hf
        refine y_UcV0 (As := [y_p v3_82, .int v4_82]) (rm := rm_X11_ended) (pc2 := 89) rfl dX11_go_86 n_X11_ended l_BoxYard_257 i_X11_ended e_X11_ended (ci := 11) rfl rfl (by decide) g19 rfl rfl (by decide) (by decide) rfl rfl (k_X11_ended c18) ?_
        exact y_iretU hf dX11_go_89 rfl
      · refine y_lf2 (Classical.em _).symm (fun _ _ k1 k2 => y_if_ne (tgt := 82) (pc2 := 67) rfl dX11_go_64 (by decide) k1 k2) (fun c28 => ?_) (fun c28 => ?_)
        · replace hf := y_ie c28 hf
          exact y_lf (fun _ _ _ _ k => y_pk [2, 1, 0] rfl k) (hj82 _ _ _ _ _ _ hf)
        · replace hf := y_it c28 hf
          refine y_lf (fun _ _ _ _ k => y_aload_n (x := p0) (pc2 := 68) rfl dX11_go_67 rfl k) ?_
          obtain ⟨g27, hf⟩ := y_g hf
          refine y_lf (fun _ _ _ _ k => y_getP (pc2 := 71) rfl dX11_go_68 F_BoxYard_19 (by decide) rfl g27 k) ?_
          refine y_lf (fun _ _ _ _ k => y_null (pc2 := 72) rfl dX11_go_71 k) ?_
          refine y_lf (fun _ _ _ _ k => y_aload_n (x := r3) (pc2 := 73) rfl dX11_go_72 rfl k) ?_
          refine y_lf (fun _ _ _ _ k => y_null (pc2 := 74) rfl dX11_go_73 k) ?_
          obtain ⟨g26, hf⟩ := y_g hf
          obtain ⟨r22, h20, c21, hf⟩ := y_clE hf
          refine y_UcallV (As := [y_p 0, y_p r3, y_p 0]) (pc2 := 77) rfl dX11_go_74 n_X5_note l_BoxYard_253 i_X5_note e_X5_note (ci := 5) rfl rfl (by decide) g26 rfl rfl (by decide) (by decide) (k_X5_note c21) ?_
          refine y_lf (fun _ _ _ _ k => y_aload_n (x := r3) (pc2 := 78) rfl dX11_go_77 rfl k) ?_
          refine y_lf (fun _ _ _ _ k => y_iload_n (pc2 := 79) rfl dX11_go_78 rfl k) ?_
          obtain ⟨g25, hf⟩ := y_g hf
          obtain ⟨h23, e24, hf⟩ := y_bdE hf
          refine y_lf (fun _ _ _ _ k => y_putI (x := p2) (pc2 := 82) rfl dX11_go_79 Fp_BoxYard_223 (by decide) rfl g25 e24 k) ?_
          exact y_lf (fun _ _ _ _ k => y_pk [2, 1, 0] rfl k) (hj82 _ _ _ _ _ _ hf)
    · replace hf := y_ie c35 hf
      refine y_lf (fun _ _ _ _ k => y_aload_n (x := p0) (pc2 := 40) rfl dX11_go_39 rfl k) ?_
      refine y_lf (fun _ _ _ _ k => y_bipush (v := (-2 : Int32)) (pc2 := 42) rfl dX11_go_40 (by decide) k) ?_
      obtain ⟨g34, hf⟩ := y_g hf
      obtain ⟨r31, h32, c33, hf⟩ := y_clE hf
      refine y_UcV0 (As := [.int (-2 : Int32)]) (rm := rm_X11_refused) (pc2 := 45) rfl dX11_go_42 n_X11_refused l_BoxYard_246 i_X11_refused e_X11_refused (ci := 11) rfl rfl (by decide) g34 rfl rfl (by decide) (by decide) rfl rfl (k_X11_refused c33) ?_
      exact y_iretU hf dX11_go_45 rfl
  · replace hf := y_it c40 hf
    refine y_lf (fun _ _ _ _ k => y_aload_n (x := p0) (pc2 := 24) rfl dX11_go_23 rfl k) ?_
    refine y_lf (fun _ _ _ _ k => y_iconst (v := (-1 : Int32)) (pc2 := 25) rfl dX11_go_24 (by decide) k) ?_
    obtain ⟨g39, hf⟩ := y_g hf
    obtain ⟨r36, h37, c38, hf⟩ := y_clE hf
    refine y_UcV0 (As := [.int (-1 : Int32)]) (rm := rm_X11_refused) (pc2 := 28) rfl dX11_go_25 n_X11_refused l_BoxYard_246 i_X11_refused e_X11_refused (ci := 11) rfl rfl (by decide) g39 rfl rfl (by decide) (by decide) rfl rfl (k_X11_refused c38) ?_
    exact y_iretU hf dX11_go_28 rfl
theorem dX11_take_0 : decode cX11_take 0 = .ok (.aload_n 0, 1) := by decide +kernel
theorem dX11_take_1 : decode cX11_take 1 = .ok (.getfield 10, 3) := by decide +kernel
theorem dX11_take_4 : decode cX11_take 4 = .ok (.getfield 77, 3) := by decide +kernel
theorem dX11_take_7 : decode cX11_take 7 = .ok (.invokevirtual 81, 3) := by decide +kernel
theorem dX11_take_10 : decode cX11_take 10 = .ok (.aload_n 0, 1) := by decide +kernel
theorem dX11_take_11 : decode cX11_take 11 = .ok (.getfield 10, 3) := by decide +kernel
theorem dX11_take_14 : decode cX11_take 14 = .ok (.iload_n 1, 1) := by decide +kernel
theorem dX11_take_15 : decode cX11_take 15 = .ok (.invokevirtual 209, 3) := by decide +kernel
theorem dX11_take_18 : decode cX11_take 18 = .ok (.astore_n 3, 1) := by decide +kernel
theorem dX11_take_19 : decode cX11_take 19 = .ok (.aload_n 0, 1) := by decide +kernel
theorem dX11_take_20 : decode cX11_take 20 = .ok (.getfield 10, 3) := by decide +kernel
theorem dX11_take_23 : decode cX11_take 23 = .ok (.iload_n 2, 1) := by decide +kernel
theorem dX11_take_24 : decode cX11_take 24 = .ok (.invokevirtual 85, 3) := by decide +kernel
theorem dX11_take_27 : decode cX11_take 27 = .ok (.astore 4, 2) := by decide +kernel
theorem dX11_take_29 : decode cX11_take 29 = .ok (.aload_n 3, 1) := by decide +kernel
theorem dX11_take_30 : decode cX11_take 30 = .ok (.ifnull 8, 3) := by decide +kernel
theorem dX11_take_33 : decode cX11_take 33 = .ok (.aload 4, 2) := by decide +kernel
theorem dX11_take_35 : decode cX11_take 35 = .ok (.ifnonnull 9, 3) := by decide +kernel
theorem dX11_take_38 : decode cX11_take 38 = .ok (.aload_n 0, 1) := by decide +kernel
theorem dX11_take_39 : decode cX11_take 39 = .ok (.iconst (-1), 1) := by decide +kernel
theorem dX11_take_40 : decode cX11_take 40 = .ok (.invokevirtual 246, 3) := by decide +kernel
theorem dX11_take_43 : decode cX11_take 43 = .ok (.ireturn, 1) := by decide +kernel
theorem dX11_take_44 : decode cX11_take 44 = .ok (.aload_n 3, 1) := by decide +kernel
theorem dX11_take_45 : decode cX11_take 45 = .ok (.getfield 226, 3) := by decide +kernel
theorem dX11_take_48 : decode cX11_take 48 = .ok (.ifnonnull 11, 3) := by decide +kernel
theorem dX11_take_51 : decode cX11_take 51 = .ok (.aload 4, 2) := by decide +kernel
theorem dX11_take_53 : decode cX11_take 53 = .ok (.getfield 106, 3) := by decide +kernel
theorem dX11_take_56 : decode cX11_take 56 = .ok (.ifCond .eq 10, 3) := by decide +kernel
theorem dX11_take_59 : decode cX11_take 59 = .ok (.aload_n 0, 1) := by decide +kernel
theorem dX11_take_60 : decode cX11_take 60 = .ok (.bipush (-3), 2) := by decide +kernel
theorem dX11_take_62 : decode cX11_take 62 = .ok (.invokevirtual 246, 3) := by decide +kernel
theorem dX11_take_65 : decode cX11_take 65 = .ok (.ireturn, 1) := by decide +kernel
theorem dX11_take_66 : decode cX11_take 66 = .ok (.aload_n 3, 1) := by decide +kernel
theorem dX11_take_67 : decode cX11_take 67 = .ok (.iconst 0, 1) := by decide +kernel
theorem dX11_take_68 : decode cX11_take 68 = .ok (.putfield 236, 3) := by decide +kernel
theorem dX11_take_71 : decode cX11_take 71 = .ok (.aload_n 0, 1) := by decide +kernel
theorem dX11_take_72 : decode cX11_take 72 = .ok (.getfield 10, 3) := by decide +kernel
theorem dX11_take_75 : decode cX11_take 75 = .ok (.aload_n 3, 1) := by decide +kernel
theorem dX11_take_76 : decode cX11_take 76 = .ok (.aload 4, 2) := by decide +kernel
theorem dX11_take_78 : decode cX11_take 78 = .ok (.invokevirtual 260, 3) := by decide +kernel
theorem dX11_take_81 : decode cX11_take 81 = .ok (.istore 5, 2) := by decide +kernel
theorem dX11_take_83 : decode cX11_take 83 = .ok (.iload 5, 2) := by decide +kernel
theorem dX11_take_85 : decode cX11_take 85 = .ok (.ifCond .ne 24, 3) := by decide +kernel
theorem dX11_take_88 : decode cX11_take 88 = .ok (.aload_n 0, 1) := by decide +kernel
theorem dX11_take_89 : decode cX11_take 89 = .ok (.getfield 19, 3) := by decide +kernel
theorem dX11_take_92 : decode cX11_take 92 = .ok (.aload 4, 2) := by decide +kernel
theorem dX11_take_94 : decode cX11_take 94 = .ok (.aload_n 3, 1) := by decide +kernel
theorem dX11_take_95 : decode cX11_take 95 = .ok (.aconst_null, 1) := by decide +kernel
theorem dX11_take_96 : decode cX11_take 96 = .ok (.invokevirtual 253, 3) := by decide +kernel
theorem dX11_take_99 : decode cX11_take 99 = .ok (.aload_n 0, 1) := by decide +kernel
theorem dX11_take_100 : decode cX11_take 100 = .ok (.getfield 10, 3) := by decide +kernel
theorem dX11_take_103 : decode cX11_take 103 = .ok (.aload_n 3, 1) := by decide +kernel
theorem dX11_take_104 : decode cX11_take 104 = .ok (.aload 4, 2) := by decide +kernel
theorem dX11_take_106 : decode cX11_take 106 = .ok (.invokevirtual 264, 3) := by decide +kernel
theorem dX11_take_109 : decode cX11_take 109 = .ok (.aload_n 0, 1) := by decide +kernel
theorem dX11_take_110 : decode cX11_take 110 = .ok (.aload_n 3, 1) := by decide +kernel
theorem dX11_take_111 : decode cX11_take 111 = .ok (.iload 5, 2) := by decide +kernel
theorem dX11_take_113 : decode cX11_take 113 = .ok (.invokevirtual 257, 3) := by decide +kernel
theorem dX11_take_116 : decode cX11_take 116 = .ok (.ireturn, 1) := by decide +kernel
def M_X11_take : y_M := (yX11_take, cX11_take, 6, (Option.some Jvm.ClassFile.FieldType.int))
theorem n_X11_take : y_N0 M_X11_take 2 := ⟨(c_4 136 (by decide +kernel) rfl), (c_1 1 (by decide +kernel) rfl), ⟨by decide +kernel, by decide +kernel⟩, by decide +kernel⟩
theorem l_BoxYard_260 : y_lnk "BoxYard" 260 M_X10_meetsTaking := Or.inl (c_4 137 (by decide +kernel) rfl)
theorem i_X10_meetsTaking : Cond.instanceMethod (M_X10_meetsTaking).1 ∈ y_tb := (c_4 138 (by decide +kernel) rfl)
theorem e_X10_meetsTaking : Cond.selects (M_X10_meetsTaking).1.cls (M_X10_meetsTaking).1 (M_X10_meetsTaking).1 ∈ y_tb := (c_4 139 (by decide +kernel) rfl)
theorem l_BoxYard_264 : y_lnk "BoxYard" 264 M_X10_hold := Or.inl (c_4 147 (by decide +kernel) rfl)
theorem i_X10_hold : Cond.instanceMethod (M_X10_hold).1 ∈ y_tb := (c_4 148 (by decide +kernel) rfl)
theorem e_X10_hold : Cond.selects (M_X10_hold).1.cls (M_X10_hold).1 (M_X10_hold).1 ∈ y_tb := (c_4 149 (by decide +kernel) rfl)
set_option maxRecDepth 100000 in
def f_X11_take (p0 : Nat) (p1 : Int32) (p2 : Int32) (c0 s0 : Nat) (h : y_H) : Option ((Int32 × Nat × Nat) × y_H) :=
  if y_K h p0 = 12 then
  if y_K h (y_P h p0 0) = 11 then
  if y_K h (y_P h (y_P h p0 0) 12) = 10 then
  y_cl (f_X9_begin (y_P h (y_P h p0 0) 12) h) (fun _ h1 =>
  if y_K h1 p0 = 12 then
  if y_K h1 (y_P h1 p0 0) = 11 then
  y_cl (f_X10_craneAt (y_P h1 p0 0) p1 h1) (fun r3 h4 =>
  if y_K h4 p0 = 12 then
  if y_K h4 (y_P h4 p0 0) = 11 then
  y_cl (f_X10_boxAt (y_P h4 p0 0) p2 h4) (fun r6 h7 =>
  y_jn (fun (v0_38 : Nat) (c38 : Nat) (s38 : Nat) (h9 : y_H) => (
      if y_K h9 v0_38 = 12 then
      y_cl (f_X11_refused v0_38 (-1 : Int32) h9) (fun r10 h11 =>
      some ((r10, c38, s38), h11))
      else none : Option ((Int32 × Nat × Nat) × y_H))) (fun j38 =>
  if r3 = 0 then
    j38 p0 c0 s0 h7
  else
    if r6 = 0 then
      j38 p0 c0 s0 h7
    else
      if y_K h7 r3 = 4 then
      y_jn (fun (v0_59 : Nat) (c59 : Nat) (s59 : Nat) (h14 : y_H) => (
          if y_K h14 v0_59 = 12 then
          y_cl (f_X11_refused v0_59 (-3 : Int32) h14) (fun r15 h16 =>
          some ((r15, c59, s59), h16))
          else none : Option ((Int32 × Nat × Nat) × y_H))) (fun j59 =>
      if (y_P h7 r3 4) = 0 then
        if y_K h7 r6 = 3 then
        if (y_I h7 r6 6) = 0 then
          if y_K h7 r3 = 4 then
          y_bd (s_B h7 r3 7 false) (fun h19 =>
          if y_K h19 p0 = 12 then
          if y_K h19 (y_P h19 p0 0) = 11 then
          y_cl (f_X10_meetsTaking (y_P h19 p0 0) r3 r6 h19) (fun r22 h23 =>
          y_jn (fun (v0_109 : Nat) (v3_109 : Nat) (v5_109 : Int32) (c109 : Nat) (s109 : Nat) (h25 : y_H) => (
              if y_K h25 v0_109 = 12 then
              y_cl (f_X11_ended v0_109 v3_109 v5_109 h25) (fun r26 h27 =>
              some ((r26, c109, s109), h27))
              else none : Option ((Int32 × Nat × Nat) × y_H))) (fun j109 =>
          if r22 = 0 then
            if y_K h23 p0 = 12 then
            if y_K h23 (y_P h23 p0 1) = 6 then
            y_cl (f_X5_note (y_P h23 p0 1) r6 r3 0 c0 s0 h23) (fun r32 h30 =>
            if y_K h30 p0 = 12 then
            if y_K h30 (y_P h30 p0 0) = 11 then
            y_cl (f_X10_hold (y_P h30 p0 0) r3 r6 h30) (fun _ h33 =>
            j109 p0 r3 r22 r32.2.1 r32.2.2 h33)
            else none
            else none)
            else none
            else none
          else
            j109 p0 r3 r22 c0 s0 h23))
          else none
          else none)
          else none
        else
          j59 p0 c0 s0 h7
        else none
      else
        j59 p0 c0 s0 h7)
      else none))
  else none
  else none)
  else none
  else none)
  else none
  else none
  else none
abbrev FF_X11_take : Nat := 6
abbrev LL_X11_take : Nat := 128
set_option maxRecDepth 100000 in
set_option maxHeartbeats 4000000 in
theorem k_X11_take {l : Launch} {G : y_G} {p0 : Nat} {p1 : Int32} {p2 : Int32} {c0 s0 cz sz : Nat} {h hz : y_H} {rz : Int32} (hf : f_X11_take p0 p1 p2 c0 s0 h = some ((rz, cz, sz), hz)) : (c0 ≤ cz ∧ s0 ≤ sz) ∧ y_S l G M_X11_take (y_Rm FF_X11_take LL_X11_take c0 s0 cz sz) [y_p p0, .int p1, .int p2] h (some (.int rz)) hz := by
  refine y_Ustart (lv := [(0, y_p p0), (1, .int p1), (2, .int p2)]) (by decide) (by simp [lg_sl, y_p_cat, y_ci, y_cj, M_X11_take]) (by simp [lv_args, y_p_cat, y_ci, y_cj]) (fun z ad0 => ?_)
  unfold f_X11_take at hf
  refine y_lf (fun _ _ _ _ k => y_aload_n (x := p0) (pc2 := 1) rfl dX11_take_0 rfl k) ?_
  obtain ⟨g54, hf⟩ := y_g hf
  refine y_lf (fun _ _ _ _ k => y_getP (pc2 := 4) rfl dX11_take_1 F_BoxYard_10 (by decide) rfl g54 k) ?_
  obtain ⟨g53, hf⟩ := y_g hf
  refine y_lf (fun _ _ _ _ k => y_getP (pc2 := 7) rfl dX11_take_4 F_BoxYard_77 (by decide) rfl g53 k) ?_
  obtain ⟨g52, hf⟩ := y_g hf
  obtain ⟨r_, h1, c2, hf⟩ := y_clE hf
  refine y_UcV0 (As := []) (rm := rm_X9_begin) (pc2 := 10) rfl dX11_take_7 n_X9_begin l_BoxYard_81 i_X9_begin e_X9_begin (ci := 9) rfl rfl (by decide) g52 rfl rfl (by decide) (by decide) rfl rfl (k_X9_begin c2) ?_
  refine y_lf (fun _ _ _ _ k => y_aload_n (x := p0) (pc2 := 11) rfl dX11_take_10 rfl k) ?_
  obtain ⟨g51, hf⟩ := y_g hf
  refine y_lf (fun _ _ _ _ k => y_getP (pc2 := 14) rfl dX11_take_11 F_BoxYard_10 (by decide) rfl g51 k) ?_
  refine y_lf (fun _ _ _ _ k => y_iload_n (pc2 := 15) rfl dX11_take_14 rfl k) ?_
  obtain ⟨g50, hf⟩ := y_g hf
  obtain ⟨r3, h4, c5, hf⟩ := y_clE hf
  refine y_UcV0 (As := [.int p1]) (rm := rm_X10_craneAt) (pc2 := 18) rfl dX11_take_15 n_X10_craneAt l_BoxYard_209 i_X10_craneAt e_X10_craneAt (ci := 10) rfl rfl (by decide) g50 rfl rfl (by decide) (by decide) rfl rfl (k_X10_craneAt c5) ?_
  refine y_lf (fun _ _ _ _ k => y_astore_n (lv' := [(3, y_p r3), (0, y_p p0), (1, .int p1), (2, .int p2)]) (pc2 := 19) rfl dX11_take_18 (by decide) rfl k) ?_
  refine y_lf (fun _ _ _ _ k => y_aload_n (x := p0) (pc2 := 20) rfl dX11_take_19 rfl k) ?_
  obtain ⟨g49, hf⟩ := y_g hf
  refine y_lf (fun _ _ _ _ k => y_getP (pc2 := 23) rfl dX11_take_20 F_BoxYard_10 (by decide) rfl g49 k) ?_
  refine y_lf (fun _ _ _ _ k => y_iload_n (pc2 := 24) rfl dX11_take_23 rfl k) ?_
  obtain ⟨g48, hf⟩ := y_g hf
  obtain ⟨r6, h7, c8, hf⟩ := y_clE hf
  refine y_UcV0 (As := [.int p2]) (rm := rm_X10_boxAt) (pc2 := 27) rfl dX11_take_24 n_X10_boxAt l_BoxYard_85 i_X10_boxAt e_X10_boxAt (ci := 10) rfl rfl (by decide) g48 rfl rfl (by decide) (by decide) rfl rfl (k_X10_boxAt c8) ?_
  refine y_lf (fun _ _ _ _ k => y_astore (lv' := [(4, y_p r6), (3, y_p r3), (0, y_p p0), (1, .int p1), (2, .int p2)]) (pc2 := 29) rfl dX11_take_27 (by decide) (by show y_st1 _ 4 _ = _; simp [y_st1, y_p_cat, y_ci, y_cj]) k) ?_
  refine y_lf (fun _ _ _ _ k => y_aload_n (x := r3) (pc2 := 30) rfl dX11_take_29 rfl k) ?_
  refine y_jnE hf (fun j => ∀ (v0_38 : Nat) (c38 : Nat) (s38 : Nat) (h9 : y_H), j v0_38 c38 s38 h9 = some ((rz, cz, sz), hz) → y_U l G z FF_X11_take LL_X11_take (cz - c0) (sz - s0) c0 s0 cz sz M_X11_take ad0 h (some (.int rz)) hz 38 [(0, y_p v0_38)] [] h9 c38 s38) (fun v0_38 c38 s38 h9 hf => ?_) (fun j38 hj38 hf => ?_)
  · refine y_lf (fun _ _ _ _ k => y_aload_n (x := v0_38) (pc2 := 39) rfl dX11_take_38 rfl k) ?_
    refine y_lf (fun _ _ _ _ k => y_iconst (v := (-1 : Int32)) (pc2 := 40) rfl dX11_take_39 (by decide) k) ?_
    obtain ⟨g13, hf⟩ := y_g hf
    obtain ⟨r10, h11, c12, hf⟩ := y_clE hf
    refine y_UcV0 (As := [.int (-1 : Int32)]) (rm := rm_X11_refused) (pc2 := 43) rfl dX11_take_40 n_X11_refused l_BoxYard_246 i_X11_refused e_X11_refused (ci := 11) rfl rfl (by decide) g13 rfl rfl (by decide) (by decide) rfl rfl (k_X11_refused c12) ?_
    exact y_iretU hf dX11_take_43 rfl
  · refine y_lf2 (Classical.em _) (fun _ _ k1 k2 => y_ifnull (tgt := 38) (pc2 := 33) rfl dX11_take_30 (by decide) k1 k2) (fun c47 => ?_) (fun c47 => ?_)
    · replace hf := y_it c47 hf
      exact y_lf (fun _ _ _ _ k => y_pk [2] rfl k) (hj38 _ _ _ _ hf)
    · replace hf := y_ie c47 hf
      refine y_lf (fun _ _ _ _ k => y_aload (x := r6) (pc2 := 35) rfl dX11_take_33 rfl k) ?_
      refine y_lf2 (Classical.em _).symm (fun _ _ k1 k2 => y_ifnonnull (tgt := 44) (pc2 := 38) rfl dX11_take_35 (by decide) k1 k2) (fun c46 => ?_) (fun c46 => ?_)
      · replace hf := y_ie c46 hf
        refine y_lf (fun _ _ _ _ k => y_aload_n (x := r3) (pc2 := 45) rfl dX11_take_44 rfl k) ?_
        obtain ⟨g45, hf⟩ := y_g hf
        refine y_lf (fun _ _ _ _ k => y_getP (pc2 := 48) rfl dX11_take_45 F_BoxYard_226 (by decide) rfl g45 k) ?_
        refine y_jnE hf (fun j => ∀ (v0_59 : Nat) (c59 : Nat) (s59 : Nat) (h14 : y_H), j v0_59 c59 s59 h14 = some ((rz, cz, sz), hz) → y_U l G z FF_X11_take LL_X11_take (cz - c0) (sz - s0) c0 s0 cz sz M_X11_take ad0 h (some (.int rz)) hz 59 [(0, y_p v0_59)] [] h14 c59 s59) (fun v0_59 c59 s59 h14 hf => ?_) (fun j59 hj59 hf => ?_)
        · refine y_lf (fun _ _ _ _ k => y_aload_n (x := v0_59) (pc2 := 60) rfl dX11_take_59 rfl k) ?_
          refine y_lf (fun _ _ _ _ k => y_bipush (v := (-3 : Int32)) (pc2 := 62) rfl dX11_take_60 (by decide) k) ?_
          obtain ⟨g18, hf⟩ := y_g hf
          obtain ⟨r15, h16, c17, hf⟩ := y_clE hf
          refine y_UcV0 (As := [.int (-3 : Int32)]) (rm := rm_X11_refused) (pc2 := 65) rfl dX11_take_62 n_X11_refused l_BoxYard_246 i_X11_refused e_X11_refused (ci := 11) rfl rfl (by decide) g18 rfl rfl (by decide) (by decide) rfl rfl (k_X11_refused c17) ?_
          exact y_iretU hf dX11_take_65 rfl
        · refine y_lf2 (Classical.em _).symm (fun _ _ k1 k2 => y_ifnonnull (tgt := 59) (pc2 := 51) rfl dX11_take_48 (by decide) k1 k2) (fun c44 => ?_) (fun c44 => ?_)
          · replace hf := y_ie c44 hf
            exact y_lf (fun _ _ _ _ k => y_pk [2] rfl k) (hj59 _ _ _ _ hf)
          · replace hf := y_it c44 hf
            refine y_lf (fun _ _ _ _ k => y_aload (x := r6) (pc2 := 53) rfl dX11_take_51 rfl k) ?_
            obtain ⟨g43, hf⟩ := y_g hf
            refine y_lf (fun _ _ _ _ k => y_getI (pc2 := 56) rfl dX11_take_53 F_BoxYard_106 (by decide) rfl g43 k) ?_
            refine y_lf2 (Classical.em _) (fun _ _ k1 k2 => y_if_eq (tgt := 66) (pc2 := 59) rfl dX11_take_56 (by decide) k1 k2) (fun c42 => ?_) (fun c42 => ?_)
            · replace hf := y_it c42 hf
              refine y_lf (fun _ _ _ _ k => y_aload_n (x := r3) (pc2 := 67) rfl dX11_take_66 rfl k) ?_
              refine y_lf (fun _ _ _ _ k => y_iconst (v := 0) (pc2 := 68) rfl dX11_take_67 (by decide) k) ?_
              obtain ⟨g21, hf⟩ := y_g hf
              obtain ⟨h19, e20, hf⟩ := y_bdE hf
              refine y_lf (fun _ _ _ _ k => y_putZ (x := false) (pc2 := 71) rfl dX11_take_68 Fp_BoxYard_236 (by decide) rfl g21 e20 k) ?_
              refine y_lf (fun _ _ _ _ k => y_aload_n (x := p0) (pc2 := 72) rfl dX11_take_71 rfl k) ?_
              obtain ⟨g41, hf⟩ := y_g hf
              refine y_lf (fun _ _ _ _ k => y_getP (pc2 := 75) rfl dX11_take_72 F_BoxYard_10 (by decide) rfl g41 k) ?_
              refine y_lf (fun _ _ _ _ k => y_aload_n (x := r3) (pc2 := 76) rfl dX11_take_75 rfl k) ?_
              refine y_lf (fun _ _ _ _ k => y_aload (x := r6) (pc2 := 78) rfl dX11_take_76 rfl k) ?_
              obtain ⟨g40, hf⟩ := y_g hf
              obtain ⟨r22, h23, c24, hf⟩ := y_clE hf
              refine y_UcV0 (As := [y_p r3, y_p r6]) (rm := rm_X10_meetsTaking) (pc2 := 81) rfl dX11_take_78 n_X10_meetsTaking l_BoxYard_260 i_X10_meetsTaking e_X10_meetsTaking (ci := 10) rfl rfl (by decide) g40 rfl rfl (by decide) (by decide) rfl rfl (k_X10_meetsTaking c24) ?_
              refine y_lf (fun _ _ _ _ k => y_istore (lv' := [(5, .int r22), (4, y_p r6), (3, y_p r3), (0, y_p p0), (1, .int p1), (2, .int p2)]) (pc2 := 83) rfl dX11_take_81 (by decide) (by show y_st1 _ 5 _ = _; simp [y_st1, y_p_cat, y_ci, y_cj]) k) ?_
              refine y_lf (fun _ _ _ _ k => y_iload (pc2 := 85) rfl dX11_take_83 rfl k) ?_
              refine y_jnE hf (fun j => ∀ (v0_109 : Nat) (v3_109 : Nat) (v5_109 : Int32) (c109 : Nat) (s109 : Nat) (h25 : y_H), j v0_109 v3_109 v5_109 c109 s109 h25 = some ((rz, cz, sz), hz) → y_U l G z FF_X11_take LL_X11_take (cz - c0) (sz - s0) c0 s0 cz sz M_X11_take ad0 h (some (.int rz)) hz 109 [(0, y_p v0_109), (3, y_p v3_109), (5, .int v5_109)] [] h25 c109 s109) (fun v0_109 v3_109 v5_109 c109 s109 h25 hf => ?_) (fun j109 hj109 hf => ?_)
              · refine y_lf (fun _ _ _ _ k => y_aload_n (x := v0_109) (pc2 := 110) rfl dX11_take_109 rfl k) ?_
                refine y_lf (fun _ _ _ _ k => y_aload_n (x := v3_109) (pc2 := 111) rfl dX11_take_110 rfl k) ?_
                refine y_lf (fun _ _ _ _ k => y_iload (pc2 := 113) rfl dX11_take_111 rfl k) ?_
                obtain ⟨g29, hf⟩ := y_g hf
                obtain ⟨r26, h27, c28, hf⟩ := y_clE hf
                refine y_UcV0 (As := [y_p v3_109, .int v5_109]) (rm := rm_X11_ended) (pc2 := 116) rfl dX11_take_113 n_X11_ended l_BoxYard_257 i_X11_ended e_X11_ended (ci := 11) rfl rfl (by decide) g29 rfl rfl (by decide) (by decide) rfl rfl (k_X11_ended c28) ?_
                exact y_iretU hf dX11_take_116 rfl
              · refine y_lf2 (Classical.em _).symm (fun _ _ k1 k2 => y_if_ne (tgt := 109) (pc2 := 88) rfl dX11_take_85 (by decide) k1 k2) (fun c39 => ?_) (fun c39 => ?_)
                · replace hf := y_ie c39 hf
                  exact y_lf (fun _ _ _ _ k => y_pk [3, 2, 0] rfl k) (hj109 _ _ _ _ _ _ hf)
                · replace hf := y_it c39 hf
                  refine y_lf (fun _ _ _ _ k => y_aload_n (x := p0) (pc2 := 89) rfl dX11_take_88 rfl k) ?_
                  obtain ⟨g38, hf⟩ := y_g hf
                  refine y_lf (fun _ _ _ _ k => y_getP (pc2 := 92) rfl dX11_take_89 F_BoxYard_19 (by decide) rfl g38 k) ?_
                  refine y_lf (fun _ _ _ _ k => y_aload (x := r6) (pc2 := 94) rfl dX11_take_92 rfl k) ?_
                  refine y_lf (fun _ _ _ _ k => y_aload_n (x := r3) (pc2 := 95) rfl dX11_take_94 rfl k) ?_
                  refine y_lf (fun _ _ _ _ k => y_null (pc2 := 96) rfl dX11_take_95 k) ?_
                  obtain ⟨g37, hf⟩ := y_g hf
                  obtain ⟨r32, h30, c31, hf⟩ := y_clE hf
                  refine y_UcallV (As := [y_p r6, y_p r3, y_p 0]) (pc2 := 99) rfl dX11_take_96 n_X5_note l_BoxYard_253 i_X5_note e_X5_note (ci := 5) rfl rfl (by decide) g37 rfl rfl (by decide) (by decide) (k_X5_note c31) ?_
                  refine y_lf (fun _ _ _ _ k => y_aload_n (x := p0) (pc2 := 100) rfl dX11_take_99 rfl k) ?_
                  obtain ⟨g36, hf⟩ := y_g hf
                  refine y_lf (fun _ _ _ _ k => y_getP (pc2 := 103) rfl dX11_take_100 F_BoxYard_10 (by decide) rfl g36 k) ?_
                  refine y_lf (fun _ _ _ _ k => y_aload_n (x := r3) (pc2 := 104) rfl dX11_take_103 rfl k) ?_
                  refine y_lf (fun _ _ _ _ k => y_aload (x := r6) (pc2 := 106) rfl dX11_take_104 rfl k) ?_
                  obtain ⟨g35, hf⟩ := y_g hf
                  obtain ⟨r_, h33, c34, hf⟩ := y_clE hf
                  refine y_UcV0 (As := [y_p r3, y_p r6]) (rm := rm_X10_hold) (pc2 := 109) rfl dX11_take_106 n_X10_hold l_BoxYard_264 i_X10_hold e_X10_hold (ci := 10) rfl rfl (by decide) g35 rfl rfl (by decide) (by decide) rfl rfl (k_X10_hold c34) ?_
                  exact y_lf (fun _ _ _ _ k => y_pk [3, 2, 0] rfl k) (hj109 _ _ _ _ _ _ hf)
            · replace hf := y_ie c42 hf
              exact y_lf (fun _ _ _ _ k => y_pk [2] rfl k) (hj59 _ _ _ _ hf)
      · replace hf := y_it c46 hf
        exact y_lf (fun _ _ _ _ k => y_pk [2] rfl k) (hj38 _ _ _ _ hf)
theorem dX11_lift_0 : decode cX11_lift 0 = .ok (.aload_n 0, 1) := by decide +kernel
theorem dX11_lift_1 : decode cX11_lift 1 = .ok (.getfield 10, 3) := by decide +kernel
theorem dX11_lift_4 : decode cX11_lift 4 = .ok (.getfield 77, 3) := by decide +kernel
theorem dX11_lift_7 : decode cX11_lift 7 = .ok (.invokevirtual 81, 3) := by decide +kernel
theorem dX11_lift_10 : decode cX11_lift 10 = .ok (.aload_n 0, 1) := by decide +kernel
theorem dX11_lift_11 : decode cX11_lift 11 = .ok (.getfield 10, 3) := by decide +kernel
theorem dX11_lift_14 : decode cX11_lift 14 = .ok (.iload_n 1, 1) := by decide +kernel
theorem dX11_lift_15 : decode cX11_lift 15 = .ok (.invokevirtual 209, 3) := by decide +kernel
theorem dX11_lift_18 : decode cX11_lift 18 = .ok (.astore_n 3, 1) := by decide +kernel
theorem dX11_lift_19 : decode cX11_lift 19 = .ok (.aload_n 3, 1) := by decide +kernel
theorem dX11_lift_20 : decode cX11_lift 20 = .ok (.ifnonnull 9, 3) := by decide +kernel
theorem dX11_lift_23 : decode cX11_lift 23 = .ok (.aload_n 0, 1) := by decide +kernel
theorem dX11_lift_24 : decode cX11_lift 24 = .ok (.iconst (-1), 1) := by decide +kernel
theorem dX11_lift_25 : decode cX11_lift 25 = .ok (.invokevirtual 246, 3) := by decide +kernel
theorem dX11_lift_28 : decode cX11_lift 28 = .ok (.ireturn, 1) := by decide +kernel
theorem dX11_lift_29 : decode cX11_lift 29 = .ok (.aload_n 3, 1) := by decide +kernel
theorem dX11_lift_30 : decode cX11_lift 30 = .ok (.getfield 226, 3) := by decide +kernel
theorem dX11_lift_33 : decode cX11_lift 33 = .ok (.ifnull 10, 3) := by decide +kernel
theorem dX11_lift_36 : decode cX11_lift 36 = .ok (.aload_n 0, 1) := by decide +kernel
theorem dX11_lift_37 : decode cX11_lift 37 = .ok (.bipush (-3), 2) := by decide +kernel
theorem dX11_lift_39 : decode cX11_lift 39 = .ok (.invokevirtual 246, 3) := by decide +kernel
theorem dX11_lift_42 : decode cX11_lift 42 = .ok (.ireturn, 1) := by decide +kernel
theorem dX11_lift_43 : decode cX11_lift 43 = .ok (.aload_n 3, 1) := by decide +kernel
theorem dX11_lift_44 : decode cX11_lift 44 = .ok (.iconst 0, 1) := by decide +kernel
theorem dX11_lift_45 : decode cX11_lift 45 = .ok (.putfield 236, 3) := by decide +kernel
theorem dX11_lift_48 : decode cX11_lift 48 = .ok (.aload_n 0, 1) := by decide +kernel
theorem dX11_lift_49 : decode cX11_lift 49 = .ok (.getfield 10, 3) := by decide +kernel
theorem dX11_lift_52 : decode cX11_lift 52 = .ok (.aload_n 3, 1) := by decide +kernel
theorem dX11_lift_53 : decode cX11_lift 53 = .ok (.iload_n 2, 1) := by decide +kernel
theorem dX11_lift_54 : decode cX11_lift 54 = .ok (.invokevirtual 268, 3) := by decide +kernel
theorem dX11_lift_57 : decode cX11_lift 57 = .ok (.istore 4, 2) := by decide +kernel
theorem dX11_lift_59 : decode cX11_lift 59 = .ok (.aload_n 0, 1) := by decide +kernel
theorem dX11_lift_60 : decode cX11_lift 60 = .ok (.getfield 10, 3) := by decide +kernel
theorem dX11_lift_63 : decode cX11_lift 63 = .ok (.aload_n 3, 1) := by decide +kernel
theorem dX11_lift_64 : decode cX11_lift 64 = .ok (.getfield 223, 3) := by decide +kernel
theorem dX11_lift_67 : decode cX11_lift 67 = .ok (.iload_n 2, 1) := by decide +kernel
theorem dX11_lift_68 : decode cX11_lift 68 = .ok (.invokevirtual 271, 3) := by decide +kernel
theorem dX11_lift_71 : decode cX11_lift 71 = .ok (.astore 5, 2) := by decide +kernel
theorem dX11_lift_73 : decode cX11_lift 73 = .ok (.iload 4, 2) := by decide +kernel
theorem dX11_lift_75 : decode cX11_lift 75 = .ok (.ifCond .ne 29, 3) := by decide +kernel
theorem dX11_lift_78 : decode cX11_lift 78 = .ok (.aload 5, 2) := by decide +kernel
theorem dX11_lift_80 : decode cX11_lift 80 = .ok (.ifnull 24, 3) := by decide +kernel
theorem dX11_lift_83 : decode cX11_lift 83 = .ok (.aload_n 0, 1) := by decide +kernel
theorem dX11_lift_84 : decode cX11_lift 84 = .ok (.getfield 19, 3) := by decide +kernel
theorem dX11_lift_87 : decode cX11_lift 87 = .ok (.aload 5, 2) := by decide +kernel
theorem dX11_lift_89 : decode cX11_lift 89 = .ok (.aload_n 3, 1) := by decide +kernel
theorem dX11_lift_90 : decode cX11_lift 90 = .ok (.aconst_null, 1) := by decide +kernel
theorem dX11_lift_91 : decode cX11_lift 91 = .ok (.invokevirtual 253, 3) := by decide +kernel
theorem dX11_lift_94 : decode cX11_lift 94 = .ok (.aload_n 0, 1) := by decide +kernel
theorem dX11_lift_95 : decode cX11_lift 95 = .ok (.getfield 10, 3) := by decide +kernel
theorem dX11_lift_98 : decode cX11_lift 98 = .ok (.aload_n 3, 1) := by decide +kernel
theorem dX11_lift_99 : decode cX11_lift 99 = .ok (.aload 5, 2) := by decide +kernel
theorem dX11_lift_101 : decode cX11_lift 101 = .ok (.invokevirtual 264, 3) := by decide +kernel
theorem dX11_lift_104 : decode cX11_lift 104 = .ok (.aload_n 0, 1) := by decide +kernel
theorem dX11_lift_105 : decode cX11_lift 105 = .ok (.aload_n 3, 1) := by decide +kernel
theorem dX11_lift_106 : decode cX11_lift 106 = .ok (.iload 4, 2) := by decide +kernel
theorem dX11_lift_108 : decode cX11_lift 108 = .ok (.invokevirtual 257, 3) := by decide +kernel
theorem dX11_lift_111 : decode cX11_lift 111 = .ok (.ireturn, 1) := by decide +kernel
def M_X11_lift : y_M := (yX11_lift, cX11_lift, 6, (Option.some Jvm.ClassFile.FieldType.int))
theorem n_X11_lift : y_N0 M_X11_lift 2 := ⟨(c_4 181 (by decide +kernel) rfl), (c_1 1 (by decide +kernel) rfl), ⟨by decide +kernel, by decide +kernel⟩, by decide +kernel⟩
theorem l_BoxYard_268 : y_lnk "BoxYard" 268 M_X10_meetsLifting := Or.inl (c_4 182 (by decide +kernel) rfl)
theorem i_X10_meetsLifting : Cond.instanceMethod (M_X10_meetsLifting).1 ∈ y_tb := (c_4 183 (by decide +kernel) rfl)
theorem e_X10_meetsLifting : Cond.selects (M_X10_meetsLifting).1.cls (M_X10_meetsLifting).1 (M_X10_meetsLifting).1 ∈ y_tb := (c_4 184 (by decide +kernel) rfl)
theorem l_BoxYard_271 : y_lnk "BoxYard" 271 M_X10_topAt := Or.inl (c_4 187 (by decide +kernel) rfl)
theorem i_X10_topAt : Cond.instanceMethod (M_X10_topAt).1 ∈ y_tb := (c_4 188 (by decide +kernel) rfl)
theorem e_X10_topAt : Cond.selects (M_X10_topAt).1.cls (M_X10_topAt).1 (M_X10_topAt).1 ∈ y_tb := (c_4 189 (by decide +kernel) rfl)
set_option maxRecDepth 100000 in
def f_X11_lift (p0 : Nat) (p1 : Int32) (p2 : Int32) (c0 s0 : Nat) (h : y_H) : Option ((Int32 × Nat × Nat) × y_H) :=
  if y_K h p0 = 12 then
  if y_K h (y_P h p0 0) = 11 then
  if y_K h (y_P h (y_P h p0 0) 12) = 10 then
  y_cl (f_X9_begin (y_P h (y_P h p0 0) 12) h) (fun _ h1 =>
  if y_K h1 p0 = 12 then
  if y_K h1 (y_P h1 p0 0) = 11 then
  y_cl (f_X10_craneAt (y_P h1 p0 0) p1 h1) (fun r3 h4 =>
  if r3 = 0 then
    if y_K h4 p0 = 12 then
    y_cl (f_X11_refused p0 (-1 : Int32) h4) (fun r42 h43 =>
    some ((r42, c0, s0), h43))
    else none
  else
    if y_K h4 r3 = 4 then
    if (y_P h4 r3 4) = 0 then
      if y_K h4 r3 = 4 then
      y_bd (s_B h4 r3 7 false) (fun h6 =>
      if y_K h6 p0 = 12 then
      if y_K h6 (y_P h6 p0 0) = 11 then
      y_cl (f_X10_meetsLifting (y_P h6 p0 0) r3 p2 h6) (fun r9 h10 =>
      if y_K h10 p0 = 12 then
      if y_K h10 r3 = 4 then
      if y_K h10 (y_P h10 p0 0) = 11 then
      y_cl (f_X10_topAt (y_P h10 p0 0) (y_I h10 r3 3) p2 h10) (fun r12 h13 =>
      y_jn (fun (v0_104 : Nat) (v3_104 : Nat) (v4_104 : Int32) (c104 : Nat) (s104 : Nat) (h15 : y_H) => (
          if y_K h15 v0_104 = 12 then
          y_cl (f_X11_ended v0_104 v3_104 v4_104 h15) (fun r16 h17 =>
          some ((r16, c104, s104), h17))
          else none : Option ((Int32 × Nat × Nat) × y_H))) (fun j104 =>
      if r9 = 0 then
        if r12 = 0 then
          j104 p0 r3 r9 c0 s0 h13
        else
          if y_K h13 p0 = 12 then
          if y_K h13 (y_P h13 p0 1) = 6 then
          y_cl (f_X5_note (y_P h13 p0 1) r12 r3 0 c0 s0 h13) (fun r22 h20 =>
          if y_K h20 p0 = 12 then
          if y_K h20 (y_P h20 p0 0) = 11 then
          y_cl (f_X10_hold (y_P h20 p0 0) r3 r12 h20) (fun _ h23 =>
          j104 p0 r3 r9 r22.2.1 r22.2.2 h23)
          else none
          else none)
          else none
          else none
      else
        j104 p0 r3 r9 c0 s0 h13))
      else none
      else none
      else none)
      else none
      else none)
      else none
    else
      if y_K h4 p0 = 12 then
      y_cl (f_X11_refused p0 (-3 : Int32) h4) (fun r36 h37 =>
      some ((r36, c0, s0), h37))
      else none
    else none)
  else none
  else none)
  else none
  else none
  else none
abbrev FF_X11_lift : Nat := 5
abbrev LL_X11_lift : Nat := 114
set_option maxRecDepth 100000 in
set_option maxHeartbeats 4000000 in
theorem k_X11_lift {l : Launch} {G : y_G} {p0 : Nat} {p1 : Int32} {p2 : Int32} {c0 s0 cz sz : Nat} {h hz : y_H} {rz : Int32} (hf : f_X11_lift p0 p1 p2 c0 s0 h = some ((rz, cz, sz), hz)) : (c0 ≤ cz ∧ s0 ≤ sz) ∧ y_S l G M_X11_lift (y_Rm FF_X11_lift LL_X11_lift c0 s0 cz sz) [y_p p0, .int p1, .int p2] h (some (.int rz)) hz := by
  refine y_Ustart (lv := [(0, y_p p0), (1, .int p1), (2, .int p2)]) (by decide) (by simp [lg_sl, y_p_cat, y_ci, y_cj, M_X11_lift]) (by simp [lv_args, y_p_cat, y_ci, y_cj]) (fun z ad0 => ?_)
  unfold f_X11_lift at hf
  refine y_lf (fun _ _ _ _ k => y_aload_n (x := p0) (pc2 := 1) rfl dX11_lift_0 rfl k) ?_
  obtain ⟨g51, hf⟩ := y_g hf
  refine y_lf (fun _ _ _ _ k => y_getP (pc2 := 4) rfl dX11_lift_1 F_BoxYard_10 (by decide) rfl g51 k) ?_
  obtain ⟨g50, hf⟩ := y_g hf
  refine y_lf (fun _ _ _ _ k => y_getP (pc2 := 7) rfl dX11_lift_4 F_BoxYard_77 (by decide) rfl g50 k) ?_
  obtain ⟨g49, hf⟩ := y_g hf
  obtain ⟨r_, h1, c2, hf⟩ := y_clE hf
  refine y_UcV0 (As := []) (rm := rm_X9_begin) (pc2 := 10) rfl dX11_lift_7 n_X9_begin l_BoxYard_81 i_X9_begin e_X9_begin (ci := 9) rfl rfl (by decide) g49 rfl rfl (by decide) (by decide) rfl rfl (k_X9_begin c2) ?_
  refine y_lf (fun _ _ _ _ k => y_aload_n (x := p0) (pc2 := 11) rfl dX11_lift_10 rfl k) ?_
  obtain ⟨g48, hf⟩ := y_g hf
  refine y_lf (fun _ _ _ _ k => y_getP (pc2 := 14) rfl dX11_lift_11 F_BoxYard_10 (by decide) rfl g48 k) ?_
  refine y_lf (fun _ _ _ _ k => y_iload_n (pc2 := 15) rfl dX11_lift_14 rfl k) ?_
  obtain ⟨g47, hf⟩ := y_g hf
  obtain ⟨r3, h4, c5, hf⟩ := y_clE hf
  refine y_UcV0 (As := [.int p1]) (rm := rm_X10_craneAt) (pc2 := 18) rfl dX11_lift_15 n_X10_craneAt l_BoxYard_209 i_X10_craneAt e_X10_craneAt (ci := 10) rfl rfl (by decide) g47 rfl rfl (by decide) (by decide) rfl rfl (k_X10_craneAt c5) ?_
  refine y_lf (fun _ _ _ _ k => y_astore_n (lv' := [(3, y_p r3), (0, y_p p0), (1, .int p1), (2, .int p2)]) (pc2 := 19) rfl dX11_lift_18 (by decide) rfl k) ?_
  refine y_lf (fun _ _ _ _ k => y_aload_n (x := r3) (pc2 := 20) rfl dX11_lift_19 rfl k) ?_
  refine y_lf2 (Classical.em _).symm (fun _ _ k1 k2 => y_ifnonnull (tgt := 29) (pc2 := 23) rfl dX11_lift_20 (by decide) k1 k2) (fun c46 => ?_) (fun c46 => ?_)
  · replace hf := y_ie c46 hf
    refine y_lf (fun _ _ _ _ k => y_aload_n (x := r3) (pc2 := 30) rfl dX11_lift_29 rfl k) ?_
    obtain ⟨g41, hf⟩ := y_g hf
    refine y_lf (fun _ _ _ _ k => y_getP (pc2 := 33) rfl dX11_lift_30 F_BoxYard_226 (by decide) rfl g41 k) ?_
    refine y_lf2 (Classical.em _) (fun _ _ k1 k2 => y_ifnull (tgt := 43) (pc2 := 36) rfl dX11_lift_33 (by decide) k1 k2) (fun c40 => ?_) (fun c40 => ?_)
    · replace hf := y_it c40 hf
      refine y_lf (fun _ _ _ _ k => y_aload_n (x := r3) (pc2 := 44) rfl dX11_lift_43 rfl k) ?_
      refine y_lf (fun _ _ _ _ k => y_iconst (v := 0) (pc2 := 45) rfl dX11_lift_44 (by decide) k) ?_
      obtain ⟨g8, hf⟩ := y_g hf
      obtain ⟨h6, e7, hf⟩ := y_bdE hf
      refine y_lf (fun _ _ _ _ k => y_putZ (x := false) (pc2 := 48) rfl dX11_lift_45 Fp_BoxYard_236 (by decide) rfl g8 e7 k) ?_
      refine y_lf (fun _ _ _ _ k => y_aload_n (x := p0) (pc2 := 49) rfl dX11_lift_48 rfl k) ?_
      obtain ⟨g35, hf⟩ := y_g hf
      refine y_lf (fun _ _ _ _ k => y_getP (pc2 := 52) rfl dX11_lift_49 F_BoxYard_10 (by decide) rfl g35 k) ?_
      refine y_lf (fun _ _ _ _ k => y_aload_n (x := r3) (pc2 := 53) rfl dX11_lift_52 rfl k) ?_
      refine y_lf (fun _ _ _ _ k => y_iload_n (pc2 := 54) rfl dX11_lift_53 rfl k) ?_
      obtain ⟨g34, hf⟩ := y_g hf
      obtain ⟨r9, h10, c11, hf⟩ := y_clE hf
      refine y_UcV0 (As := [y_p r3, .int p2]) (rm := rm_X10_meetsLifting) (pc2 := 57) rfl dX11_lift_54 n_X10_meetsLifting l_BoxYard_268 i_X10_meetsLifting e_X10_meetsLifting (ci := 10) rfl rfl (by decide) g34 rfl rfl (by decide) (by decide) rfl rfl (k_X10_meetsLifting c11) ?_
      refine y_lf (fun _ _ _ _ k => y_istore (lv' := [(4, .int r9), (3, y_p r3), (0, y_p p0), (1, .int p1), (2, .int p2)]) (pc2 := 59) rfl dX11_lift_57 (by decide) (by show y_st1 _ 4 _ = _; simp [y_st1, y_p_cat, y_ci, y_cj]) k) ?_
      refine y_lf (fun _ _ _ _ k => y_aload_n (x := p0) (pc2 := 60) rfl dX11_lift_59 rfl k) ?_
      obtain ⟨g33, hf⟩ := y_g hf
      refine y_lf (fun _ _ _ _ k => y_getP (pc2 := 63) rfl dX11_lift_60 F_BoxYard_10 (by decide) rfl g33 k) ?_
      refine y_lf (fun _ _ _ _ k => y_aload_n (x := r3) (pc2 := 64) rfl dX11_lift_63 rfl k) ?_
      obtain ⟨g32, hf⟩ := y_g hf
      refine y_lf (fun _ _ _ _ k => y_getI (pc2 := 67) rfl dX11_lift_64 F_BoxYard_223 (by decide) rfl g32 k) ?_
      refine y_lf (fun _ _ _ _ k => y_iload_n (pc2 := 68) rfl dX11_lift_67 rfl k) ?_
      obtain ⟨g31, hf⟩ := y_g hf
      obtain ⟨r12, h13, c14, hf⟩ := y_clE hf
      refine y_UcV0 (As := [.int (y_I h10 r3 3), .int p2]) (rm := rm_X10_topAt) (pc2 := 71) rfl dX11_lift_68 n_X10_topAt l_BoxYard_271 i_X10_topAt e_X10_topAt (ci := 10) rfl rfl (by decide) g31 rfl rfl (by decide) (by decide) rfl rfl (k_X10_topAt c14) ?_
      refine y_lf (fun _ _ _ _ k => y_astore (lv' := [(5, y_p r12), (4, .int r9), (3, y_p r3), (0, y_p p0), (1, .int p1), (2, .int p2)]) (pc2 := 73) rfl dX11_lift_71 (by decide) rfl k) ?_
      refine y_lf (fun _ _ _ _ k => y_iload (pc2 := 75) rfl dX11_lift_73 rfl k) ?_
      refine y_jnE hf (fun j => ∀ (v0_104 : Nat) (v3_104 : Nat) (v4_104 : Int32) (c104 : Nat) (s104 : Nat) (h15 : y_H), j v0_104 v3_104 v4_104 c104 s104 h15 = some ((rz, cz, sz), hz) → y_U l G z FF_X11_lift LL_X11_lift (cz - c0) (sz - s0) c0 s0 cz sz M_X11_lift ad0 h (some (.int rz)) hz 104 [(0, y_p v0_104), (3, y_p v3_104), (4, .int v4_104)] [] h15 c104 s104) (fun v0_104 v3_104 v4_104 c104 s104 h15 hf => ?_) (fun j104 hj104 hf => ?_)
      · refine y_lf (fun _ _ _ _ k => y_aload_n (x := v0_104) (pc2 := 105) rfl dX11_lift_104 rfl k) ?_
        refine y_lf (fun _ _ _ _ k => y_aload_n (x := v3_104) (pc2 := 106) rfl dX11_lift_105 rfl k) ?_
        refine y_lf (fun _ _ _ _ k => y_iload (pc2 := 108) rfl dX11_lift_106 rfl k) ?_
        obtain ⟨g19, hf⟩ := y_g hf
        obtain ⟨r16, h17, c18, hf⟩ := y_clE hf
        refine y_UcV0 (As := [y_p v3_104, .int v4_104]) (rm := rm_X11_ended) (pc2 := 111) rfl dX11_lift_108 n_X11_ended l_BoxYard_257 i_X11_ended e_X11_ended (ci := 11) rfl rfl (by decide) g19 rfl rfl (by decide) (by decide) rfl rfl (k_X11_ended c18) ?_
        exact y_iretU hf dX11_lift_111 rfl
      · refine y_lf2 (Classical.em _).symm (fun _ _ k1 k2 => y_if_ne (tgt := 104) (pc2 := 78) rfl dX11_lift_75 (by decide) k1 k2) (fun c30 => ?_) (fun c30 => ?_)
        · replace hf := y_ie c30 hf
          exact y_lf (fun _ _ _ _ k => y_pk [3, 2, 1] rfl k) (hj104 _ _ _ _ _ _ hf)
        · replace hf := y_it c30 hf
          refine y_lf (fun _ _ _ _ k => y_aload (x := r12) (pc2 := 80) rfl dX11_lift_78 rfl k) ?_
          refine y_lf2 (Classical.em _) (fun _ _ k1 k2 => y_ifnull (tgt := 104) (pc2 := 83) rfl dX11_lift_80 (by decide) k1 k2) (fun c29 => ?_) (fun c29 => ?_)
          · replace hf := y_it c29 hf
            exact y_lf (fun _ _ _ _ k => y_pk [3, 2, 1] rfl k) (hj104 _ _ _ _ _ _ hf)
          · replace hf := y_ie c29 hf
            refine y_lf (fun _ _ _ _ k => y_aload_n (x := p0) (pc2 := 84) rfl dX11_lift_83 rfl k) ?_
            obtain ⟨g28, hf⟩ := y_g hf
            refine y_lf (fun _ _ _ _ k => y_getP (pc2 := 87) rfl dX11_lift_84 F_BoxYard_19 (by decide) rfl g28 k) ?_
            refine y_lf (fun _ _ _ _ k => y_aload (x := r12) (pc2 := 89) rfl dX11_lift_87 rfl k) ?_
            refine y_lf (fun _ _ _ _ k => y_aload_n (x := r3) (pc2 := 90) rfl dX11_lift_89 rfl k) ?_
            refine y_lf (fun _ _ _ _ k => y_null (pc2 := 91) rfl dX11_lift_90 k) ?_
            obtain ⟨g27, hf⟩ := y_g hf
            obtain ⟨r22, h20, c21, hf⟩ := y_clE hf
            refine y_UcallV (As := [y_p r12, y_p r3, y_p 0]) (pc2 := 94) rfl dX11_lift_91 n_X5_note l_BoxYard_253 i_X5_note e_X5_note (ci := 5) rfl rfl (by decide) g27 rfl rfl (by decide) (by decide) (k_X5_note c21) ?_
            refine y_lf (fun _ _ _ _ k => y_aload_n (x := p0) (pc2 := 95) rfl dX11_lift_94 rfl k) ?_
            obtain ⟨g26, hf⟩ := y_g hf
            refine y_lf (fun _ _ _ _ k => y_getP (pc2 := 98) rfl dX11_lift_95 F_BoxYard_10 (by decide) rfl g26 k) ?_
            refine y_lf (fun _ _ _ _ k => y_aload_n (x := r3) (pc2 := 99) rfl dX11_lift_98 rfl k) ?_
            refine y_lf (fun _ _ _ _ k => y_aload (x := r12) (pc2 := 101) rfl dX11_lift_99 rfl k) ?_
            obtain ⟨g25, hf⟩ := y_g hf
            obtain ⟨r_, h23, c24, hf⟩ := y_clE hf
            refine y_UcV0 (As := [y_p r3, y_p r12]) (rm := rm_X10_hold) (pc2 := 104) rfl dX11_lift_101 n_X10_hold l_BoxYard_264 i_X10_hold e_X10_hold (ci := 10) rfl rfl (by decide) g25 rfl rfl (by decide) (by decide) rfl rfl (k_X10_hold c24) ?_
            exact y_lf (fun _ _ _ _ k => y_pk [3, 2, 1] rfl k) (hj104 _ _ _ _ _ _ hf)
    · replace hf := y_ie c40 hf
      refine y_lf (fun _ _ _ _ k => y_aload_n (x := p0) (pc2 := 37) rfl dX11_lift_36 rfl k) ?_
      refine y_lf (fun _ _ _ _ k => y_bipush (v := (-3 : Int32)) (pc2 := 39) rfl dX11_lift_37 (by decide) k) ?_
      obtain ⟨g39, hf⟩ := y_g hf
      obtain ⟨r36, h37, c38, hf⟩ := y_clE hf
      refine y_UcV0 (As := [.int (-3 : Int32)]) (rm := rm_X11_refused) (pc2 := 42) rfl dX11_lift_39 n_X11_refused l_BoxYard_246 i_X11_refused e_X11_refused (ci := 11) rfl rfl (by decide) g39 rfl rfl (by decide) (by decide) rfl rfl (k_X11_refused c38) ?_
      exact y_iretU hf dX11_lift_42 rfl
  · replace hf := y_it c46 hf
    refine y_lf (fun _ _ _ _ k => y_aload_n (x := p0) (pc2 := 24) rfl dX11_lift_23 rfl k) ?_
    refine y_lf (fun _ _ _ _ k => y_iconst (v := (-1 : Int32)) (pc2 := 25) rfl dX11_lift_24 (by decide) k) ?_
    obtain ⟨g45, hf⟩ := y_g hf
    obtain ⟨r42, h43, c44, hf⟩ := y_clE hf
    refine y_UcV0 (As := [.int (-1 : Int32)]) (rm := rm_X11_refused) (pc2 := 28) rfl dX11_lift_25 n_X11_refused l_BoxYard_246 i_X11_refused e_X11_refused (ci := 11) rfl rfl (by decide) g45 rfl rfl (by decide) (by decide) rfl rfl (k_X11_refused c44) ?_
    exact y_iretU hf dX11_lift_28 rfl
theorem dX11_set_0 : decode cX11_set 0 = .ok (.aload_n 0, 1) := by decide +kernel
theorem dX11_set_1 : decode cX11_set 1 = .ok (.getfield 10, 3) := by decide +kernel
theorem dX11_set_4 : decode cX11_set 4 = .ok (.getfield 77, 3) := by decide +kernel
theorem dX11_set_7 : decode cX11_set 7 = .ok (.invokevirtual 81, 3) := by decide +kernel
theorem dX11_set_10 : decode cX11_set 10 = .ok (.aload_n 0, 1) := by decide +kernel
theorem dX11_set_11 : decode cX11_set 11 = .ok (.getfield 10, 3) := by decide +kernel
theorem dX11_set_14 : decode cX11_set 14 = .ok (.iload_n 1, 1) := by decide +kernel
theorem dX11_set_15 : decode cX11_set 15 = .ok (.invokevirtual 209, 3) := by decide +kernel
theorem dX11_set_18 : decode cX11_set 18 = .ok (.astore_n 3, 1) := by decide +kernel
theorem dX11_set_19 : decode cX11_set 19 = .ok (.aload_n 3, 1) := by decide +kernel
theorem dX11_set_20 : decode cX11_set 20 = .ok (.ifnonnull 9, 3) := by decide +kernel
theorem dX11_set_23 : decode cX11_set 23 = .ok (.aload_n 0, 1) := by decide +kernel
theorem dX11_set_24 : decode cX11_set 24 = .ok (.iconst (-1), 1) := by decide +kernel
theorem dX11_set_25 : decode cX11_set 25 = .ok (.invokevirtual 246, 3) := by decide +kernel
theorem dX11_set_28 : decode cX11_set 28 = .ok (.ireturn, 1) := by decide +kernel
theorem dX11_set_29 : decode cX11_set 29 = .ok (.aload_n 3, 1) := by decide +kernel
theorem dX11_set_30 : decode cX11_set 30 = .ok (.getfield 226, 3) := by decide +kernel
theorem dX11_set_33 : decode cX11_set 33 = .ok (.astore 4, 2) := by decide +kernel
theorem dX11_set_35 : decode cX11_set 35 = .ok (.aload 4, 2) := by decide +kernel
theorem dX11_set_37 : decode cX11_set 37 = .ok (.ifnonnull 10, 3) := by decide +kernel
theorem dX11_set_40 : decode cX11_set 40 = .ok (.aload_n 0, 1) := by decide +kernel
theorem dX11_set_41 : decode cX11_set 41 = .ok (.bipush (-3), 2) := by decide +kernel
theorem dX11_set_43 : decode cX11_set 43 = .ok (.invokevirtual 246, 3) := by decide +kernel
theorem dX11_set_46 : decode cX11_set 46 = .ok (.ireturn, 1) := by decide +kernel
theorem dX11_set_47 : decode cX11_set 47 = .ok (.aload_n 3, 1) := by decide +kernel
theorem dX11_set_48 : decode cX11_set 48 = .ok (.iconst 0, 1) := by decide +kernel
theorem dX11_set_49 : decode cX11_set 49 = .ok (.putfield 236, 3) := by decide +kernel
theorem dX11_set_52 : decode cX11_set 52 = .ok (.aload_n 0, 1) := by decide +kernel
theorem dX11_set_53 : decode cX11_set 53 = .ok (.getfield 10, 3) := by decide +kernel
theorem dX11_set_56 : decode cX11_set 56 = .ok (.aload_n 3, 1) := by decide +kernel
theorem dX11_set_57 : decode cX11_set 57 = .ok (.aload 4, 2) := by decide +kernel
theorem dX11_set_59 : decode cX11_set 59 = .ok (.iload_n 2, 1) := by decide +kernel
theorem dX11_set_60 : decode cX11_set 60 = .ok (.invokevirtual 242, 3) := by decide +kernel
theorem dX11_set_63 : decode cX11_set 63 = .ok (.istore 5, 2) := by decide +kernel
theorem dX11_set_65 : decode cX11_set 65 = .ok (.aload_n 0, 1) := by decide +kernel
theorem dX11_set_66 : decode cX11_set 66 = .ok (.getfield 10, 3) := by decide +kernel
theorem dX11_set_69 : decode cX11_set 69 = .ok (.aload_n 3, 1) := by decide +kernel
theorem dX11_set_70 : decode cX11_set 70 = .ok (.getfield 223, 3) := by decide +kernel
theorem dX11_set_73 : decode cX11_set 73 = .ok (.invokevirtual 148, 3) := by decide +kernel
theorem dX11_set_76 : decode cX11_set 76 = .ok (.astore 6, 2) := by decide +kernel
theorem dX11_set_78 : decode cX11_set 78 = .ok (.iload 5, 2) := by decide +kernel
theorem dX11_set_80 : decode cX11_set 80 = .ok (.ifCond .ne 50, 3) := by decide +kernel
theorem dX11_set_83 : decode cX11_set 83 = .ok (.aload 6, 2) := by decide +kernel
theorem dX11_set_85 : decode cX11_set 85 = .ok (.ifnull 45, 3) := by decide +kernel
theorem dX11_set_88 : decode cX11_set 88 = .ok (.aload 6, 2) := by decide +kernel
theorem dX11_set_90 : decode cX11_set 90 = .ok (.iload_n 2, 1) := by decide +kernel
theorem dX11_set_91 : decode cX11_set 91 = .ok (.invokevirtual 157, 3) := by decide +kernel
theorem dX11_set_94 : decode cX11_set 94 = .ok (.ifCond .eq 36, 3) := by decide +kernel
theorem dX11_set_97 : decode cX11_set 97 = .ok (.aload_n 0, 1) := by decide +kernel
theorem dX11_set_98 : decode cX11_set 98 = .ok (.getfield 19, 3) := by decide +kernel
theorem dX11_set_101 : decode cX11_set 101 = .ok (.aload 4, 2) := by decide +kernel
theorem dX11_set_103 : decode cX11_set 103 = .ok (.aload_n 3, 1) := by decide +kernel
theorem dX11_set_104 : decode cX11_set 104 = .ok (.aconst_null, 1) := by decide +kernel
theorem dX11_set_105 : decode cX11_set 105 = .ok (.invokevirtual 253, 3) := by decide +kernel
theorem dX11_set_108 : decode cX11_set 108 = .ok (.aload_n 0, 1) := by decide +kernel
theorem dX11_set_109 : decode cX11_set 109 = .ok (.getfield 10, 3) := by decide +kernel
theorem dX11_set_112 : decode cX11_set 112 = .ok (.aload 4, 2) := by decide +kernel
theorem dX11_set_114 : decode cX11_set 114 = .ok (.iconst 1, 1) := by decide +kernel
theorem dX11_set_115 : decode cX11_set 115 = .ok (.aload_n 3, 1) := by decide +kernel
theorem dX11_set_116 : decode cX11_set 116 = .ok (.getfield 223, 3) := by decide +kernel
theorem dX11_set_119 : decode cX11_set 119 = .ok (.iload_n 2, 1) := by decide +kernel
theorem dX11_set_120 : decode cX11_set 120 = .ok (.aload 6, 2) := by decide +kernel
theorem dX11_set_122 : decode cX11_set 122 = .ok (.getfield 274, 3) := by decide +kernel
theorem dX11_set_125 : decode cX11_set 125 = .ok (.iload_n 2, 1) := by decide +kernel
theorem dX11_set_126 : decode cX11_set 126 = .ok (.iaload, 1) := by decide +kernel
theorem dX11_set_127 : decode cX11_set 127 = .ok (.invokevirtual 277, 3) := by decide +kernel
theorem dX11_set_130 : decode cX11_set 130 = .ok (.aload_n 0, 1) := by decide +kernel
theorem dX11_set_131 : decode cX11_set 131 = .ok (.aload_n 3, 1) := by decide +kernel
theorem dX11_set_132 : decode cX11_set 132 = .ok (.iload 5, 2) := by decide +kernel
theorem dX11_set_134 : decode cX11_set 134 = .ok (.invokevirtual 257, 3) := by decide +kernel
theorem dX11_set_137 : decode cX11_set 137 = .ok (.ireturn, 1) := by decide +kernel
def M_X11_set : y_M := (yX11_set, cX11_set, 7, (Option.some Jvm.ClassFile.FieldType.int))
theorem n_X11_set : y_N0 M_X11_set 2 := ⟨(c_4 194 (by decide +kernel) rfl), (c_1 1 (by decide +kernel) rfl), ⟨by decide +kernel, by decide +kernel⟩, by decide +kernel⟩
theorem F_BoxYard_274 : y_F "BoxYard" 274 1 3 := ⟨_, _, _, rfl, by decide, Or.inr ⟨"BoxYard", (c_3 71 (by decide +kernel) rfl)⟩⟩
theorem l_BoxYard_277 : y_lnk "BoxYard" 277 M_X10_bring := Or.inl (c_4 195 (by decide +kernel) rfl)
set_option maxRecDepth 100000 in
def f_X11_set (p0 : Nat) (p1 : Int32) (p2 : Int32) (c0 s0 : Nat) (h : y_H) : Option ((Int32 × Nat × Nat) × y_H) :=
  if y_K h p0 = 12 then
  if y_K h (y_P h p0 0) = 11 then
  if y_K h (y_P h (y_P h p0 0) 12) = 10 then
  y_cl (f_X9_begin (y_P h (y_P h p0 0) 12) h) (fun _ h1 =>
  if y_K h1 p0 = 12 then
  if y_K h1 (y_P h1 p0 0) = 11 then
  y_cl (f_X10_craneAt (y_P h1 p0 0) p1 h1) (fun r3 h4 =>
  if r3 = 0 then
    if y_K h4 p0 = 12 then
    y_cl (f_X11_refused p0 (-1 : Int32) h4) (fun r50 h51 =>
    some ((r50, c0, s0), h51))
    else none
  else
    if y_K h4 r3 = 4 then
    if (y_P h4 r3 4) = 0 then
      if y_K h4 p0 = 12 then
      y_cl (f_X11_refused p0 (-3 : Int32) h4) (fun r44 h45 =>
      some ((r44, c0, s0), h45))
      else none
    else
      if y_K h4 r3 = 4 then
      y_bd (s_B h4 r3 7 false) (fun h6 =>
      if y_K h6 p0 = 12 then
      if y_K h6 (y_P h6 p0 0) = 11 then
      y_cl (f_X10_meetsSetting (y_P h6 p0 0) r3 (y_P h4 r3 4) p2 h6) (fun r9 h10 =>
      if y_K h10 p0 = 12 then
      if y_K h10 r3 = 4 then
      if y_K h10 (y_P h10 p0 0) = 11 then
      y_cl (f_X10_bayAt (y_P h10 p0 0) (y_I h10 r3 3) h10) (fun r12 h13 =>
      y_jn (fun (v0_130 : Nat) (v3_130 : Nat) (v5_130 : Int32) (c130 : Nat) (s130 : Nat) (h15 : y_H) => (
          if y_K h15 v0_130 = 12 then
          y_cl (f_X11_ended v0_130 v3_130 v5_130 h15) (fun r16 h17 =>
          some ((r16, c130, s130), h17))
          else none : Option ((Int32 × Nat × Nat) × y_H))) (fun j130 =>
      if r9 = 0 then
        if r12 = 0 then
          j130 p0 r3 r9 c0 s0 h13
        else
          if y_K h13 r12 = 2 then
          y_cl (f_X1_hasStack r12 p2 h13) (fun r20 h21 =>
          if r20 = true then
            if y_K h21 p0 = 12 then
            if y_K h21 (y_P h21 p0 1) = 6 then
            y_cl (f_X5_note (y_P h21 p0 1) (y_P h4 r3 4) r3 0 c0 s0 h21) (fun r25 h23 =>
            if y_K h23 p0 = 12 then
            if y_K h23 r3 = 4 then
            if y_K h23 r12 = 2 then
            if y_K h23 (y_P h23 r12 3) = 100 ∧ y_ix p2 (y_N h23 (y_P h23 r12 3)) = true then
            if y_K h23 (y_P h23 p0 0) = 11 then
            y_cl (f_X10_bring (y_P h23 p0 0) (y_P h4 r3 4) 1 (y_I h23 r3 3) p2 (y_I h23 (y_P h23 r12 3) (Int32.toNatClampNeg p2)) h23) (fun _ h26 =>
            j130 p0 r3 r9 r25.2.1 r25.2.2 h26)
            else none
            else none
            else none
            else none
            else none)
            else none
            else none
          else
            j130 p0 r3 r9 c0 s0 h21)
          else none
      else
        j130 p0 r3 r9 c0 s0 h13))
      else none
      else none
      else none)
      else none
      else none)
      else none
    else none)
  else none
  else none)
  else none
  else none
  else none
abbrev FF_X11_set : Nat := 6
abbrev LL_X11_set : Nat := 142
set_option maxRecDepth 100000 in
set_option maxHeartbeats 4000000 in
theorem k_X11_set {l : Launch} {G : y_G} {p0 : Nat} {p1 : Int32} {p2 : Int32} {c0 s0 cz sz : Nat} {h hz : y_H} {rz : Int32} (hf : f_X11_set p0 p1 p2 c0 s0 h = some ((rz, cz, sz), hz)) : (c0 ≤ cz ∧ s0 ≤ sz) ∧ y_S l G M_X11_set (y_Rm FF_X11_set LL_X11_set c0 s0 cz sz) [y_p p0, .int p1, .int p2] h (some (.int rz)) hz := by
  refine y_Ustart (lv := [(0, y_p p0), (1, .int p1), (2, .int p2)]) (by decide) (by simp [lg_sl, y_p_cat, y_ci, y_cj, M_X11_set]) (by simp [lv_args, y_p_cat, y_ci, y_cj]) (fun z ad0 => ?_)
  unfold f_X11_set at hf
  refine y_lf (fun _ _ _ _ k => y_aload_n (x := p0) (pc2 := 1) rfl dX11_set_0 rfl k) ?_
  obtain ⟨g59, hf⟩ := y_g hf
  refine y_lf (fun _ _ _ _ k => y_getP (pc2 := 4) rfl dX11_set_1 F_BoxYard_10 (by decide) rfl g59 k) ?_
  obtain ⟨g58, hf⟩ := y_g hf
  refine y_lf (fun _ _ _ _ k => y_getP (pc2 := 7) rfl dX11_set_4 F_BoxYard_77 (by decide) rfl g58 k) ?_
  obtain ⟨g57, hf⟩ := y_g hf
  obtain ⟨r_, h1, c2, hf⟩ := y_clE hf
  refine y_UcV0 (As := []) (rm := rm_X9_begin) (pc2 := 10) rfl dX11_set_7 n_X9_begin l_BoxYard_81 i_X9_begin e_X9_begin (ci := 9) rfl rfl (by decide) g57 rfl rfl (by decide) (by decide) rfl rfl (k_X9_begin c2) ?_
  refine y_lf (fun _ _ _ _ k => y_aload_n (x := p0) (pc2 := 11) rfl dX11_set_10 rfl k) ?_
  obtain ⟨g56, hf⟩ := y_g hf
  refine y_lf (fun _ _ _ _ k => y_getP (pc2 := 14) rfl dX11_set_11 F_BoxYard_10 (by decide) rfl g56 k) ?_
  refine y_lf (fun _ _ _ _ k => y_iload_n (pc2 := 15) rfl dX11_set_14 rfl k) ?_
  obtain ⟨g55, hf⟩ := y_g hf
  obtain ⟨r3, h4, c5, hf⟩ := y_clE hf
  refine y_UcV0 (As := [.int p1]) (rm := rm_X10_craneAt) (pc2 := 18) rfl dX11_set_15 n_X10_craneAt l_BoxYard_209 i_X10_craneAt e_X10_craneAt (ci := 10) rfl rfl (by decide) g55 rfl rfl (by decide) (by decide) rfl rfl (k_X10_craneAt c5) ?_
  refine y_lf (fun _ _ _ _ k => y_astore_n (lv' := [(3, y_p r3), (0, y_p p0), (1, .int p1), (2, .int p2)]) (pc2 := 19) rfl dX11_set_18 (by decide) rfl k) ?_
  refine y_lf (fun _ _ _ _ k => y_aload_n (x := r3) (pc2 := 20) rfl dX11_set_19 rfl k) ?_
  refine y_lf2 (Classical.em _).symm (fun _ _ k1 k2 => y_ifnonnull (tgt := 29) (pc2 := 23) rfl dX11_set_20 (by decide) k1 k2) (fun c54 => ?_) (fun c54 => ?_)
  · replace hf := y_ie c54 hf
    refine y_lf (fun _ _ _ _ k => y_aload_n (x := r3) (pc2 := 30) rfl dX11_set_29 rfl k) ?_
    obtain ⟨g49, hf⟩ := y_g hf
    refine y_lf (fun _ _ _ _ k => y_getP (pc2 := 33) rfl dX11_set_30 F_BoxYard_226 (by decide) rfl g49 k) ?_
    refine y_lf (fun _ _ _ _ k => y_astore (lv' := [(4, y_p (y_P h4 r3 4)), (3, y_p r3), (0, y_p p0), (1, .int p1), (2, .int p2)]) (pc2 := 35) rfl dX11_set_33 (by decide) (by show y_st1 _ 4 _ = _; simp [y_st1, y_p_cat, y_ci, y_cj]) k) ?_
    refine y_lf (fun _ _ _ _ k => y_aload (x := y_P h4 r3 4) (pc2 := 37) rfl dX11_set_35 rfl k) ?_
    refine y_lf2 (Classical.em _).symm (fun _ _ k1 k2 => y_ifnonnull (tgt := 47) (pc2 := 40) rfl dX11_set_37 (by decide) k1 k2) (fun c48 => ?_) (fun c48 => ?_)
    · replace hf := y_ie c48 hf
      refine y_lf (fun _ _ _ _ k => y_aload_n (x := r3) (pc2 := 48) rfl dX11_set_47 rfl k) ?_
      refine y_lf (fun _ _ _ _ k => y_iconst (v := 0) (pc2 := 49) rfl dX11_set_48 (by decide) k) ?_
      obtain ⟨g8, hf⟩ := y_g hf
      obtain ⟨h6, e7, hf⟩ := y_bdE hf
      refine y_lf (fun _ _ _ _ k => y_putZ (x := false) (pc2 := 52) rfl dX11_set_49 Fp_BoxYard_236 (by decide) rfl g8 e7 k) ?_
      refine y_lf (fun _ _ _ _ k => y_aload_n (x := p0) (pc2 := 53) rfl dX11_set_52 rfl k) ?_
      obtain ⟨g43, hf⟩ := y_g hf
      refine y_lf (fun _ _ _ _ k => y_getP (pc2 := 56) rfl dX11_set_53 F_BoxYard_10 (by decide) rfl g43 k) ?_
      refine y_lf (fun _ _ _ _ k => y_aload_n (x := r3) (pc2 := 57) rfl dX11_set_56 rfl k) ?_
      refine y_lf (fun _ _ _ _ k => y_aload (x := y_P h4 r3 4) (pc2 := 59) rfl dX11_set_57 rfl k) ?_
      refine y_lf (fun _ _ _ _ k => y_iload_n (pc2 := 60) rfl dX11_set_59 rfl k) ?_
      obtain ⟨g42, hf⟩ := y_g hf
      obtain ⟨r9, h10, c11, hf⟩ := y_clE hf
      refine y_UcV0 (As := [y_p r3, y_p (y_P h4 r3 4), .int p2]) (rm := rm_X10_meetsSetting) (pc2 := 63) rfl dX11_set_60 n_X10_meetsSetting l_BoxYard_242 i_X10_meetsSetting e_X10_meetsSetting (ci := 10) rfl rfl (by decide) g42 rfl rfl (by decide) (by decide) rfl rfl (k_X10_meetsSetting c11) ?_
      refine y_lf (fun _ _ _ _ k => y_istore (lv' := [(5, .int r9), (4, y_p (y_P h4 r3 4)), (3, y_p r3), (0, y_p p0), (1, .int p1), (2, .int p2)]) (pc2 := 65) rfl dX11_set_63 (by decide) (by show y_st1 _ 5 _ = _; simp [y_st1, y_p_cat, y_ci, y_cj]) k) ?_
      refine y_lf (fun _ _ _ _ k => y_aload_n (x := p0) (pc2 := 66) rfl dX11_set_65 rfl k) ?_
      obtain ⟨g41, hf⟩ := y_g hf
      refine y_lf (fun _ _ _ _ k => y_getP (pc2 := 69) rfl dX11_set_66 F_BoxYard_10 (by decide) rfl g41 k) ?_
      refine y_lf (fun _ _ _ _ k => y_aload_n (x := r3) (pc2 := 70) rfl dX11_set_69 rfl k) ?_
      obtain ⟨g40, hf⟩ := y_g hf
      refine y_lf (fun _ _ _ _ k => y_getI (pc2 := 73) rfl dX11_set_70 F_BoxYard_223 (by decide) rfl g40 k) ?_
      obtain ⟨g39, hf⟩ := y_g hf
      obtain ⟨r12, h13, c14, hf⟩ := y_clE hf
      refine y_UcV0 (As := [.int (y_I h10 r3 3)]) (rm := rm_X10_bayAt) (pc2 := 76) rfl dX11_set_73 n_X10_bayAt l_BoxYard_148 i_X10_bayAt e_X10_bayAt (ci := 10) rfl rfl (by decide) g39 rfl rfl (by decide) (by decide) rfl rfl (k_X10_bayAt c14) ?_
      refine y_lf (fun _ _ _ _ k => y_astore (lv' := [(6, y_p r12), (5, .int r9), (4, y_p (y_P h4 r3 4)), (3, y_p r3), (0, y_p p0), (1, .int p1), (2, .int p2)]) (pc2 := 78) rfl dX11_set_76 (by decide) rfl k) ?_
      refine y_lf (fun _ _ _ _ k => y_iload (pc2 := 80) rfl dX11_set_78 rfl k) ?_
      refine y_jnE hf (fun j => ∀ (v0_130 : Nat) (v3_130 : Nat) (v5_130 : Int32) (c130 : Nat) (s130 : Nat) (h15 : y_H), j v0_130 v3_130 v5_130 c130 s130 h15 = some ((rz, cz, sz), hz) → y_U l G z FF_X11_set LL_X11_set (cz - c0) (sz - s0) c0 s0 cz sz M_X11_set ad0 h (some (.int rz)) hz 130 [(0, y_p v0_130), (3, y_p v3_130), (5, .int v5_130)] [] h15 c130 s130) (fun v0_130 v3_130 v5_130 c130 s130 h15 hf => ?_) (fun j130 hj130 hf => ?_)
      · refine y_lf (fun _ _ _ _ k => y_aload_n (x := v0_130) (pc2 := 131) rfl dX11_set_130 rfl k) ?_
        refine y_lf (fun _ _ _ _ k => y_aload_n (x := v3_130) (pc2 := 132) rfl dX11_set_131 rfl k) ?_
        refine y_lf (fun _ _ _ _ k => y_iload (pc2 := 134) rfl dX11_set_132 rfl k) ?_
        obtain ⟨g19, hf⟩ := y_g hf
        obtain ⟨r16, h17, c18, hf⟩ := y_clE hf
        refine y_UcV0 (As := [y_p v3_130, .int v5_130]) (rm := rm_X11_ended) (pc2 := 137) rfl dX11_set_134 n_X11_ended l_BoxYard_257 i_X11_ended e_X11_ended (ci := 11) rfl rfl (by decide) g19 rfl rfl (by decide) (by decide) rfl rfl (k_X11_ended c18) ?_
        exact y_iretU hf dX11_set_137 rfl
      · refine y_lf2 (Classical.em _).symm (fun _ _ k1 k2 => y_if_ne (tgt := 130) (pc2 := 83) rfl dX11_set_80 (by decide) k1 k2) (fun c38 => ?_) (fun c38 => ?_)
        · replace hf := y_ie c38 hf
          exact y_lf (fun _ _ _ _ k => y_pk [4, 3, 1] rfl k) (hj130 _ _ _ _ _ _ hf)
        · replace hf := y_it c38 hf
          refine y_lf (fun _ _ _ _ k => y_aload (x := r12) (pc2 := 85) rfl dX11_set_83 rfl k) ?_
          refine y_lf2 (Classical.em _) (fun _ _ k1 k2 => y_ifnull (tgt := 130) (pc2 := 88) rfl dX11_set_85 (by decide) k1 k2) (fun c37 => ?_) (fun c37 => ?_)
          · replace hf := y_it c37 hf
            exact y_lf (fun _ _ _ _ k => y_pk [4, 3, 1] rfl k) (hj130 _ _ _ _ _ _ hf)
          · replace hf := y_ie c37 hf
            refine y_lf (fun _ _ _ _ k => y_aload (x := r12) (pc2 := 90) rfl dX11_set_88 rfl k) ?_
            refine y_lf (fun _ _ _ _ k => y_iload_n (pc2 := 91) rfl dX11_set_90 rfl k) ?_
            obtain ⟨g36, hf⟩ := y_g hf
            obtain ⟨r20, h21, c22, hf⟩ := y_clE hf
            refine y_UcV0 (As := [.int p2]) (rm := rm_X1_hasStack) (pc2 := 94) rfl dX11_set_91 n_X1_hasStack l_BoxYard_157 i_X1_hasStack e_X1_hasStack (ci := 1) rfl rfl (by decide) g36 rfl rfl (by decide) (by decide) rfl rfl (k_X1_hasStack c22) ?_
            refine y_lf2 (Classical.em _).symm (fun _ _ k1 k2 => y_ifz_eq (tgt := 130) (pc2 := 97) rfl dX11_set_94 (by decide) k1 k2) (fun c35 => ?_) (fun c35 => ?_)
            · replace hf := y_ie c35 hf
              exact y_lf (fun _ _ _ _ k => y_pk [4, 3, 1] rfl k) (hj130 _ _ _ _ _ _ hf)
            · replace hf := y_it c35 hf
              refine y_lf (fun _ _ _ _ k => y_aload_n (x := p0) (pc2 := 98) rfl dX11_set_97 rfl k) ?_
              obtain ⟨g34, hf⟩ := y_g hf
              refine y_lf (fun _ _ _ _ k => y_getP (pc2 := 101) rfl dX11_set_98 F_BoxYard_19 (by decide) rfl g34 k) ?_
              refine y_lf (fun _ _ _ _ k => y_aload (x := y_P h4 r3 4) (pc2 := 103) rfl dX11_set_101 rfl k) ?_
              refine y_lf (fun _ _ _ _ k => y_aload_n (x := r3) (pc2 := 104) rfl dX11_set_103 rfl k) ?_
              refine y_lf (fun _ _ _ _ k => y_null (pc2 := 105) rfl dX11_set_104 k) ?_
              obtain ⟨g33, hf⟩ := y_g hf
              obtain ⟨r25, h23, c24, hf⟩ := y_clE hf
              refine y_UcallV (As := [y_p (y_P h4 r3 4), y_p r3, y_p 0]) (pc2 := 108) rfl dX11_set_105 n_X5_note l_BoxYard_253 i_X5_note e_X5_note (ci := 5) rfl rfl (by decide) g33 rfl rfl (by decide) (by decide) (k_X5_note c24) ?_
              refine y_lf (fun _ _ _ _ k => y_aload_n (x := p0) (pc2 := 109) rfl dX11_set_108 rfl k) ?_
              obtain ⟨g32, hf⟩ := y_g hf
              refine y_lf (fun _ _ _ _ k => y_getP (pc2 := 112) rfl dX11_set_109 F_BoxYard_10 (by decide) rfl g32 k) ?_
              refine y_lf (fun _ _ _ _ k => y_aload (x := y_P h4 r3 4) (pc2 := 114) rfl dX11_set_112 rfl k) ?_
              refine y_lf (fun _ _ _ _ k => y_iconst (v := 1) (pc2 := 115) rfl dX11_set_114 (by decide) k) ?_
              refine y_lf (fun _ _ _ _ k => y_aload_n (x := r3) (pc2 := 116) rfl dX11_set_115 rfl k) ?_
              obtain ⟨g31, hf⟩ := y_g hf
              refine y_lf (fun _ _ _ _ k => y_getI (pc2 := 119) rfl dX11_set_116 F_BoxYard_223 (by decide) rfl g31 k) ?_
              refine y_lf (fun _ _ _ _ k => y_iload_n (pc2 := 120) rfl dX11_set_119 rfl k) ?_
              refine y_lf (fun _ _ _ _ k => y_aload (x := r12) (pc2 := 122) rfl dX11_set_120 rfl k) ?_
              obtain ⟨g30, hf⟩ := y_g hf
              refine y_lf (fun _ _ _ _ k => y_getP (pc2 := 125) rfl dX11_set_122 F_BoxYard_274 (by decide) rfl g30 k) ?_
              refine y_lf (fun _ _ _ _ k => y_iload_n (pc2 := 126) rfl dX11_set_125 rfl k) ?_
              obtain ⟨g29, hf⟩ := y_g hf
              refine y_lf (fun _ _ _ _ k => y_iald (pc2 := 127) rfl dX11_set_126 g29.1 (y_ix_in g29.2) k) ?_
              obtain ⟨g28, hf⟩ := y_g hf
              obtain ⟨r_, h26, c27, hf⟩ := y_clE hf
              refine y_UcV0 (As := [y_p (y_P h4 r3 4), .int 1, .int (y_I h23 r3 3), .int p2, .int (y_I h23 (y_P h23 r12 3) (Int32.toNatClampNeg p2))]) (rm := rm_X10_bring) (pc2 := 130) rfl dX11_set_127 n_X10_bring l_BoxYard_277 i_X10_bring e_X10_bring (ci := 10) rfl rfl (by decide) g28 rfl rfl (by decide) (by decide) rfl rfl (k_X10_bring c27) ?_
              exact y_lf (fun _ _ _ _ k => y_pk [4, 3, 1] rfl k) (hj130 _ _ _ _ _ _ hf)
    · replace hf := y_it c48 hf
      refine y_lf (fun _ _ _ _ k => y_aload_n (x := p0) (pc2 := 41) rfl dX11_set_40 rfl k) ?_
      refine y_lf (fun _ _ _ _ k => y_bipush (v := (-3 : Int32)) (pc2 := 43) rfl dX11_set_41 (by decide) k) ?_
      obtain ⟨g47, hf⟩ := y_g hf
      obtain ⟨r44, h45, c46, hf⟩ := y_clE hf
      refine y_UcV0 (As := [.int (-3 : Int32)]) (rm := rm_X11_refused) (pc2 := 46) rfl dX11_set_43 n_X11_refused l_BoxYard_246 i_X11_refused e_X11_refused (ci := 11) rfl rfl (by decide) g47 rfl rfl (by decide) (by decide) rfl rfl (k_X11_refused c46) ?_
      exact y_iretU hf dX11_set_46 rfl
  · replace hf := y_it c54 hf
    refine y_lf (fun _ _ _ _ k => y_aload_n (x := p0) (pc2 := 24) rfl dX11_set_23 rfl k) ?_
    refine y_lf (fun _ _ _ _ k => y_iconst (v := (-1 : Int32)) (pc2 := 25) rfl dX11_set_24 (by decide) k) ?_
    obtain ⟨g53, hf⟩ := y_g hf
    obtain ⟨r50, h51, c52, hf⟩ := y_clE hf
    refine y_UcV0 (As := [.int (-1 : Int32)]) (rm := rm_X11_refused) (pc2 := 28) rfl dX11_set_25 n_X11_refused l_BoxYard_246 i_X11_refused e_X11_refused (ci := 11) rfl rfl (by decide) g53 rfl rfl (by decide) (by decide) rfl rfl (k_X11_refused c52) ?_
    exact y_iretU hf dX11_set_28 rfl
theorem dX11_drop_0 : decode cX11_drop 0 = .ok (.aload_n 0, 1) := by decide +kernel
theorem dX11_drop_1 : decode cX11_drop 1 = .ok (.getfield 10, 3) := by decide +kernel
theorem dX11_drop_4 : decode cX11_drop 4 = .ok (.getfield 77, 3) := by decide +kernel
theorem dX11_drop_7 : decode cX11_drop 7 = .ok (.invokevirtual 81, 3) := by decide +kernel
theorem dX11_drop_10 : decode cX11_drop 10 = .ok (.aload_n 0, 1) := by decide +kernel
theorem dX11_drop_11 : decode cX11_drop 11 = .ok (.getfield 10, 3) := by decide +kernel
theorem dX11_drop_14 : decode cX11_drop 14 = .ok (.iload_n 1, 1) := by decide +kernel
theorem dX11_drop_15 : decode cX11_drop 15 = .ok (.invokevirtual 209, 3) := by decide +kernel
theorem dX11_drop_18 : decode cX11_drop 18 = .ok (.astore_n 2, 1) := by decide +kernel
theorem dX11_drop_19 : decode cX11_drop 19 = .ok (.aload_n 2, 1) := by decide +kernel
theorem dX11_drop_20 : decode cX11_drop 20 = .ok (.ifnonnull 9, 3) := by decide +kernel
theorem dX11_drop_23 : decode cX11_drop 23 = .ok (.aload_n 0, 1) := by decide +kernel
theorem dX11_drop_24 : decode cX11_drop 24 = .ok (.iconst (-1), 1) := by decide +kernel
theorem dX11_drop_25 : decode cX11_drop 25 = .ok (.invokevirtual 246, 3) := by decide +kernel
theorem dX11_drop_28 : decode cX11_drop 28 = .ok (.ireturn, 1) := by decide +kernel
theorem dX11_drop_29 : decode cX11_drop 29 = .ok (.aload_n 2, 1) := by decide +kernel
theorem dX11_drop_30 : decode cX11_drop 30 = .ok (.getfield 226, 3) := by decide +kernel
theorem dX11_drop_33 : decode cX11_drop 33 = .ok (.astore_n 3, 1) := by decide +kernel
theorem dX11_drop_34 : decode cX11_drop 34 = .ok (.aload_n 3, 1) := by decide +kernel
theorem dX11_drop_35 : decode cX11_drop 35 = .ok (.ifnonnull 10, 3) := by decide +kernel
theorem dX11_drop_38 : decode cX11_drop 38 = .ok (.aload_n 0, 1) := by decide +kernel
theorem dX11_drop_39 : decode cX11_drop 39 = .ok (.bipush (-3), 2) := by decide +kernel
theorem dX11_drop_41 : decode cX11_drop 41 = .ok (.invokevirtual 246, 3) := by decide +kernel
theorem dX11_drop_44 : decode cX11_drop 44 = .ok (.ireturn, 1) := by decide +kernel
theorem dX11_drop_45 : decode cX11_drop 45 = .ok (.aload_n 2, 1) := by decide +kernel
theorem dX11_drop_46 : decode cX11_drop 46 = .ok (.iconst 0, 1) := by decide +kernel
theorem dX11_drop_47 : decode cX11_drop 47 = .ok (.putfield 236, 3) := by decide +kernel
theorem dX11_drop_50 : decode cX11_drop 50 = .ok (.aload_n 0, 1) := by decide +kernel
theorem dX11_drop_51 : decode cX11_drop 51 = .ok (.getfield 10, 3) := by decide +kernel
theorem dX11_drop_54 : decode cX11_drop 54 = .ok (.aload_n 2, 1) := by decide +kernel
theorem dX11_drop_55 : decode cX11_drop 55 = .ok (.invokevirtual 281, 3) := by decide +kernel
theorem dX11_drop_58 : decode cX11_drop 58 = .ok (.istore 4, 2) := by decide +kernel
theorem dX11_drop_60 : decode cX11_drop 60 = .ok (.iload 4, 2) := by decide +kernel
theorem dX11_drop_62 : decode cX11_drop 62 = .ok (.ifCond .ne 25, 3) := by decide +kernel
theorem dX11_drop_65 : decode cX11_drop 65 = .ok (.aload_n 0, 1) := by decide +kernel
theorem dX11_drop_66 : decode cX11_drop 66 = .ok (.getfield 19, 3) := by decide +kernel
theorem dX11_drop_69 : decode cX11_drop 69 = .ok (.aload_n 3, 1) := by decide +kernel
theorem dX11_drop_70 : decode cX11_drop 70 = .ok (.aload_n 2, 1) := by decide +kernel
theorem dX11_drop_71 : decode cX11_drop 71 = .ok (.aconst_null, 1) := by decide +kernel
theorem dX11_drop_72 : decode cX11_drop 72 = .ok (.invokevirtual 253, 3) := by decide +kernel
theorem dX11_drop_75 : decode cX11_drop 75 = .ok (.aload_n 0, 1) := by decide +kernel
theorem dX11_drop_76 : decode cX11_drop 76 = .ok (.getfield 10, 3) := by decide +kernel
theorem dX11_drop_79 : decode cX11_drop 79 = .ok (.aload_n 3, 1) := by decide +kernel
theorem dX11_drop_80 : decode cX11_drop 80 = .ok (.iconst 4, 1) := by decide +kernel
theorem dX11_drop_81 : decode cX11_drop 81 = .ok (.iconst 0, 1) := by decide +kernel
theorem dX11_drop_82 : decode cX11_drop 82 = .ok (.iconst 0, 1) := by decide +kernel
theorem dX11_drop_83 : decode cX11_drop 83 = .ok (.iconst 0, 1) := by decide +kernel
theorem dX11_drop_84 : decode cX11_drop 84 = .ok (.invokevirtual 277, 3) := by decide +kernel
theorem dX11_drop_87 : decode cX11_drop 87 = .ok (.aload_n 0, 1) := by decide +kernel
theorem dX11_drop_88 : decode cX11_drop 88 = .ok (.aload_n 2, 1) := by decide +kernel
theorem dX11_drop_89 : decode cX11_drop 89 = .ok (.iload 4, 2) := by decide +kernel
theorem dX11_drop_91 : decode cX11_drop 91 = .ok (.invokevirtual 257, 3) := by decide +kernel
theorem dX11_drop_94 : decode cX11_drop 94 = .ok (.ireturn, 1) := by decide +kernel
def M_X11_drop : y_M := (yX11_drop, cX11_drop, 5, (Option.some Jvm.ClassFile.FieldType.int))
theorem n_X11_drop : y_N0 M_X11_drop 1 := ⟨(c_4 199 (by decide +kernel) rfl), (c_1 1 (by decide +kernel) rfl), ⟨by decide +kernel, by decide +kernel⟩, by decide +kernel⟩
theorem l_BoxYard_281 : y_lnk "BoxYard" 281 M_X10_meetsDropping := Or.inl (c_4 200 (by decide +kernel) rfl)
set_option maxRecDepth 100000 in
def f_X11_drop (p0 : Nat) (p1 : Int32) (c0 s0 : Nat) (h : y_H) : Option ((Int32 × Nat × Nat) × y_H) :=
  if y_K h p0 = 12 then
  if y_K h (y_P h p0 0) = 11 then
  if y_K h (y_P h (y_P h p0 0) 12) = 10 then
  y_cl (f_X9_begin (y_P h (y_P h p0 0) 12) h) (fun _ h1 =>
  if y_K h1 p0 = 12 then
  if y_K h1 (y_P h1 p0 0) = 11 then
  y_cl (f_X10_craneAt (y_P h1 p0 0) p1 h1) (fun r3 h4 =>
  if r3 = 0 then
    if y_K h4 p0 = 12 then
    y_cl (f_X11_refused p0 (-1 : Int32) h4) (fun r35 h36 =>
    some ((r35, c0, s0), h36))
    else none
  else
    if y_K h4 r3 = 4 then
    if (y_P h4 r3 4) = 0 then
      if y_K h4 p0 = 12 then
      y_cl (f_X11_refused p0 (-3 : Int32) h4) (fun r29 h30 =>
      some ((r29, c0, s0), h30))
      else none
    else
      if y_K h4 r3 = 4 then
      y_bd (s_B h4 r3 7 false) (fun h6 =>
      if y_K h6 p0 = 12 then
      if y_K h6 (y_P h6 p0 0) = 11 then
      y_cl (f_X10_meetsDropping (y_P h6 p0 0) r3 h6) (fun r9 h10 =>
      y_jn (fun (v0_87 : Nat) (v2_87 : Nat) (v4_87 : Int32) (c87 : Nat) (s87 : Nat) (h12 : y_H) => (
          if y_K h12 v0_87 = 12 then
          y_cl (f_X11_ended v0_87 v2_87 v4_87 h12) (fun r13 h14 =>
          some ((r13, c87, s87), h14))
          else none : Option ((Int32 × Nat × Nat) × y_H))) (fun j87 =>
      if r9 = 0 then
        if y_K h10 p0 = 12 then
        if y_K h10 (y_P h10 p0 1) = 6 then
        y_cl (f_X5_note (y_P h10 p0 1) (y_P h4 r3 4) r3 0 c0 s0 h10) (fun r19 h17 =>
        if y_K h17 p0 = 12 then
        if y_K h17 (y_P h17 p0 0) = 11 then
        y_cl (f_X10_bring (y_P h17 p0 0) (y_P h4 r3 4) 4 0 0 0 h17) (fun _ h20 =>
        j87 p0 r3 r9 r19.2.1 r19.2.2 h20)
        else none
        else none)
        else none
        else none
      else
        j87 p0 r3 r9 c0 s0 h10))
      else none
      else none)
      else none
    else none)
  else none
  else none)
  else none
  else none
  else none
abbrev FF_X11_drop : Nat := 5
abbrev LL_X11_drop : Nat := 105
set_option maxRecDepth 100000 in
set_option maxHeartbeats 4000000 in
theorem k_X11_drop {l : Launch} {G : y_G} {p0 : Nat} {p1 : Int32} {c0 s0 cz sz : Nat} {h hz : y_H} {rz : Int32} (hf : f_X11_drop p0 p1 c0 s0 h = some ((rz, cz, sz), hz)) : (c0 ≤ cz ∧ s0 ≤ sz) ∧ y_S l G M_X11_drop (y_Rm FF_X11_drop LL_X11_drop c0 s0 cz sz) [y_p p0, .int p1] h (some (.int rz)) hz := by
  refine y_Ustart (lv := [(0, y_p p0), (1, .int p1)]) (by decide) (by simp [lg_sl, y_p_cat, y_ci, y_cj, M_X11_drop]) (by simp [lv_args, y_p_cat, y_ci, y_cj]) (fun z ad0 => ?_)
  unfold f_X11_drop at hf
  refine y_lf (fun _ _ _ _ k => y_aload_n (x := p0) (pc2 := 1) rfl dX11_drop_0 rfl k) ?_
  obtain ⟨g44, hf⟩ := y_g hf
  refine y_lf (fun _ _ _ _ k => y_getP (pc2 := 4) rfl dX11_drop_1 F_BoxYard_10 (by decide) rfl g44 k) ?_
  obtain ⟨g43, hf⟩ := y_g hf
  refine y_lf (fun _ _ _ _ k => y_getP (pc2 := 7) rfl dX11_drop_4 F_BoxYard_77 (by decide) rfl g43 k) ?_
  obtain ⟨g42, hf⟩ := y_g hf
  obtain ⟨r_, h1, c2, hf⟩ := y_clE hf
  refine y_UcV0 (As := []) (rm := rm_X9_begin) (pc2 := 10) rfl dX11_drop_7 n_X9_begin l_BoxYard_81 i_X9_begin e_X9_begin (ci := 9) rfl rfl (by decide) g42 rfl rfl (by decide) (by decide) rfl rfl (k_X9_begin c2) ?_
  refine y_lf (fun _ _ _ _ k => y_aload_n (x := p0) (pc2 := 11) rfl dX11_drop_10 rfl k) ?_
  obtain ⟨g41, hf⟩ := y_g hf
  refine y_lf (fun _ _ _ _ k => y_getP (pc2 := 14) rfl dX11_drop_11 F_BoxYard_10 (by decide) rfl g41 k) ?_
  refine y_lf (fun _ _ _ _ k => y_iload_n (pc2 := 15) rfl dX11_drop_14 rfl k) ?_
  obtain ⟨g40, hf⟩ := y_g hf
  obtain ⟨r3, h4, c5, hf⟩ := y_clE hf
  refine y_UcV0 (As := [.int p1]) (rm := rm_X10_craneAt) (pc2 := 18) rfl dX11_drop_15 n_X10_craneAt l_BoxYard_209 i_X10_craneAt e_X10_craneAt (ci := 10) rfl rfl (by decide) g40 rfl rfl (by decide) (by decide) rfl rfl (k_X10_craneAt c5) ?_
  refine y_lf (fun _ _ _ _ k => y_astore_n (lv' := [(2, y_p r3), (0, y_p p0), (1, .int p1)]) (pc2 := 19) rfl dX11_drop_18 (by decide) rfl k) ?_
  refine y_lf (fun _ _ _ _ k => y_aload_n (x := r3) (pc2 := 20) rfl dX11_drop_19 rfl k) ?_
  refine y_lf2 (Classical.em _).symm (fun _ _ k1 k2 => y_ifnonnull (tgt := 29) (pc2 := 23) rfl dX11_drop_20 (by decide) k1 k2) (fun c39 => ?_) (fun c39 => ?_)
  · replace hf := y_ie c39 hf
    refine y_lf (fun _ _ _ _ k => y_aload_n (x := r3) (pc2 := 30) rfl dX11_drop_29 rfl k) ?_
    obtain ⟨g34, hf⟩ := y_g hf
    refine y_lf (fun _ _ _ _ k => y_getP (pc2 := 33) rfl dX11_drop_30 F_BoxYard_226 (by decide) rfl g34 k) ?_
    refine y_lf (fun _ _ _ _ k => y_astore_n (lv' := [(3, y_p (y_P h4 r3 4)), (2, y_p r3), (0, y_p p0), (1, .int p1)]) (pc2 := 34) rfl dX11_drop_33 (by decide) (by show y_st1 _ 3 _ = _; simp [y_st1, y_p_cat, y_ci, y_cj]) k) ?_
    refine y_lf (fun _ _ _ _ k => y_aload_n (x := y_P h4 r3 4) (pc2 := 35) rfl dX11_drop_34 rfl k) ?_
    refine y_lf2 (Classical.em _).symm (fun _ _ k1 k2 => y_ifnonnull (tgt := 45) (pc2 := 38) rfl dX11_drop_35 (by decide) k1 k2) (fun c33 => ?_) (fun c33 => ?_)
    · replace hf := y_ie c33 hf
      refine y_lf (fun _ _ _ _ k => y_aload_n (x := r3) (pc2 := 46) rfl dX11_drop_45 rfl k) ?_
      refine y_lf (fun _ _ _ _ k => y_iconst (v := 0) (pc2 := 47) rfl dX11_drop_46 (by decide) k) ?_
      obtain ⟨g8, hf⟩ := y_g hf
      obtain ⟨h6, e7, hf⟩ := y_bdE hf
      refine y_lf (fun _ _ _ _ k => y_putZ (x := false) (pc2 := 50) rfl dX11_drop_47 Fp_BoxYard_236 (by decide) rfl g8 e7 k) ?_
      refine y_lf (fun _ _ _ _ k => y_aload_n (x := p0) (pc2 := 51) rfl dX11_drop_50 rfl k) ?_
      obtain ⟨g28, hf⟩ := y_g hf
      refine y_lf (fun _ _ _ _ k => y_getP (pc2 := 54) rfl dX11_drop_51 F_BoxYard_10 (by decide) rfl g28 k) ?_
      refine y_lf (fun _ _ _ _ k => y_aload_n (x := r3) (pc2 := 55) rfl dX11_drop_54 rfl k) ?_
      obtain ⟨g27, hf⟩ := y_g hf
      obtain ⟨r9, h10, c11, hf⟩ := y_clE hf
      refine y_UcV0 (As := [y_p r3]) (rm := rm_X10_meetsDropping) (pc2 := 58) rfl dX11_drop_55 n_X10_meetsDropping l_BoxYard_281 i_X10_meetsDropping e_X10_meetsDropping (ci := 10) rfl rfl (by decide) g27 rfl rfl (by decide) (by decide) rfl rfl (k_X10_meetsDropping c11) ?_
      refine y_lf (fun _ _ _ _ k => y_istore (lv' := [(4, .int r9), (3, y_p (y_P h4 r3 4)), (2, y_p r3), (0, y_p p0), (1, .int p1)]) (pc2 := 60) rfl dX11_drop_58 (by decide) (by show y_st1 _ 4 _ = _; simp [y_st1, y_p_cat, y_ci, y_cj]) k) ?_
      refine y_lf (fun _ _ _ _ k => y_iload (pc2 := 62) rfl dX11_drop_60 rfl k) ?_
      refine y_jnE hf (fun j => ∀ (v0_87 : Nat) (v2_87 : Nat) (v4_87 : Int32) (c87 : Nat) (s87 : Nat) (h12 : y_H), j v0_87 v2_87 v4_87 c87 s87 h12 = some ((rz, cz, sz), hz) → y_U l G z FF_X11_drop LL_X11_drop (cz - c0) (sz - s0) c0 s0 cz sz M_X11_drop ad0 h (some (.int rz)) hz 87 [(0, y_p v0_87), (2, y_p v2_87), (4, .int v4_87)] [] h12 c87 s87) (fun v0_87 v2_87 v4_87 c87 s87 h12 hf => ?_) (fun j87 hj87 hf => ?_)
      · refine y_lf (fun _ _ _ _ k => y_aload_n (x := v0_87) (pc2 := 88) rfl dX11_drop_87 rfl k) ?_
        refine y_lf (fun _ _ _ _ k => y_aload_n (x := v2_87) (pc2 := 89) rfl dX11_drop_88 rfl k) ?_
        refine y_lf (fun _ _ _ _ k => y_iload (pc2 := 91) rfl dX11_drop_89 rfl k) ?_
        obtain ⟨g16, hf⟩ := y_g hf
        obtain ⟨r13, h14, c15, hf⟩ := y_clE hf
        refine y_UcV0 (As := [y_p v2_87, .int v4_87]) (rm := rm_X11_ended) (pc2 := 94) rfl dX11_drop_91 n_X11_ended l_BoxYard_257 i_X11_ended e_X11_ended (ci := 11) rfl rfl (by decide) g16 rfl rfl (by decide) (by decide) rfl rfl (k_X11_ended c15) ?_
        exact y_iretU hf dX11_drop_94 rfl
      · refine y_lf2 (Classical.em _).symm (fun _ _ k1 k2 => y_if_ne (tgt := 87) (pc2 := 65) rfl dX11_drop_62 (by decide) k1 k2) (fun c26 => ?_) (fun c26 => ?_)
        · replace hf := y_ie c26 hf
          exact y_lf (fun _ _ _ _ k => y_pk [3, 2, 0] rfl k) (hj87 _ _ _ _ _ _ hf)
        · replace hf := y_it c26 hf
          refine y_lf (fun _ _ _ _ k => y_aload_n (x := p0) (pc2 := 66) rfl dX11_drop_65 rfl k) ?_
          obtain ⟨g25, hf⟩ := y_g hf
          refine y_lf (fun _ _ _ _ k => y_getP (pc2 := 69) rfl dX11_drop_66 F_BoxYard_19 (by decide) rfl g25 k) ?_
          refine y_lf (fun _ _ _ _ k => y_aload_n (x := y_P h4 r3 4) (pc2 := 70) rfl dX11_drop_69 rfl k) ?_
          refine y_lf (fun _ _ _ _ k => y_aload_n (x := r3) (pc2 := 71) rfl dX11_drop_70 rfl k) ?_
          refine y_lf (fun _ _ _ _ k => y_null (pc2 := 72) rfl dX11_drop_71 k) ?_
          obtain ⟨g24, hf⟩ := y_g hf
          obtain ⟨r19, h17, c18, hf⟩ := y_clE hf
          refine y_UcallV (As := [y_p (y_P h4 r3 4), y_p r3, y_p 0]) (pc2 := 75) rfl dX11_drop_72 n_X5_note l_BoxYard_253 i_X5_note e_X5_note (ci := 5) rfl rfl (by decide) g24 rfl rfl (by decide) (by decide) (k_X5_note c18) ?_
          refine y_lf (fun _ _ _ _ k => y_aload_n (x := p0) (pc2 := 76) rfl dX11_drop_75 rfl k) ?_
          obtain ⟨g23, hf⟩ := y_g hf
          refine y_lf (fun _ _ _ _ k => y_getP (pc2 := 79) rfl dX11_drop_76 F_BoxYard_10 (by decide) rfl g23 k) ?_
          refine y_lf (fun _ _ _ _ k => y_aload_n (x := y_P h4 r3 4) (pc2 := 80) rfl dX11_drop_79 rfl k) ?_
          refine y_lf (fun _ _ _ _ k => y_iconst (v := 4) (pc2 := 81) rfl dX11_drop_80 (by decide) k) ?_
          refine y_lf (fun _ _ _ _ k => y_iconst (v := 0) (pc2 := 82) rfl dX11_drop_81 (by decide) k) ?_
          refine y_lf (fun _ _ _ _ k => y_iconst (v := 0) (pc2 := 83) rfl dX11_drop_82 (by decide) k) ?_
          refine y_lf (fun _ _ _ _ k => y_iconst (v := 0) (pc2 := 84) rfl dX11_drop_83 (by decide) k) ?_
          obtain ⟨g22, hf⟩ := y_g hf
          obtain ⟨r_, h20, c21, hf⟩ := y_clE hf
          refine y_UcV0 (As := [y_p (y_P h4 r3 4), .int 4, .int 0, .int 0, .int 0]) (rm := rm_X10_bring) (pc2 := 87) rfl dX11_drop_84 n_X10_bring l_BoxYard_277 i_X10_bring e_X10_bring (ci := 10) rfl rfl (by decide) g22 rfl rfl (by decide) (by decide) rfl rfl (k_X10_bring c21) ?_
          exact y_lf (fun _ _ _ _ k => y_pk [3, 2, 0] rfl k) (hj87 _ _ _ _ _ _ hf)
    · replace hf := y_it c33 hf
      refine y_lf (fun _ _ _ _ k => y_aload_n (x := p0) (pc2 := 39) rfl dX11_drop_38 rfl k) ?_
      refine y_lf (fun _ _ _ _ k => y_bipush (v := (-3 : Int32)) (pc2 := 41) rfl dX11_drop_39 (by decide) k) ?_
      obtain ⟨g32, hf⟩ := y_g hf
      obtain ⟨r29, h30, c31, hf⟩ := y_clE hf
      refine y_UcV0 (As := [.int (-3 : Int32)]) (rm := rm_X11_refused) (pc2 := 44) rfl dX11_drop_41 n_X11_refused l_BoxYard_246 i_X11_refused e_X11_refused (ci := 11) rfl rfl (by decide) g32 rfl rfl (by decide) (by decide) rfl rfl (k_X11_refused c31) ?_
      exact y_iretU hf dX11_drop_44 rfl
  · replace hf := y_it c39 hf
    refine y_lf (fun _ _ _ _ k => y_aload_n (x := p0) (pc2 := 24) rfl dX11_drop_23 rfl k) ?_
    refine y_lf (fun _ _ _ _ k => y_iconst (v := (-1 : Int32)) (pc2 := 25) rfl dX11_drop_24 (by decide) k) ?_
    obtain ⟨g38, hf⟩ := y_g hf
    obtain ⟨r35, h36, c37, hf⟩ := y_clE hf
    refine y_UcV0 (As := [.int (-1 : Int32)]) (rm := rm_X11_refused) (pc2 := 28) rfl dX11_drop_25 n_X11_refused l_BoxYard_246 i_X11_refused e_X11_refused (ci := 11) rfl rfl (by decide) g38 rfl rfl (by decide) (by decide) rfl rfl (k_X11_refused c37) ?_
    exact y_iretU hf dX11_drop_28 rfl
theorem dX11_load_0 : decode cX11_load 0 = .ok (.aload_n 0, 1) := by decide +kernel
theorem dX11_load_1 : decode cX11_load 1 = .ok (.getfield 10, 3) := by decide +kernel
theorem dX11_load_4 : decode cX11_load 4 = .ok (.getfield 77, 3) := by decide +kernel
theorem dX11_load_7 : decode cX11_load 7 = .ok (.invokevirtual 81, 3) := by decide +kernel
theorem dX11_load_10 : decode cX11_load 10 = .ok (.aload_n 0, 1) := by decide +kernel
theorem dX11_load_11 : decode cX11_load 11 = .ok (.getfield 10, 3) := by decide +kernel
theorem dX11_load_14 : decode cX11_load 14 = .ok (.iload_n 1, 1) := by decide +kernel
theorem dX11_load_15 : decode cX11_load 15 = .ok (.invokevirtual 209, 3) := by decide +kernel
theorem dX11_load_18 : decode cX11_load 18 = .ok (.astore_n 2, 1) := by decide +kernel
theorem dX11_load_19 : decode cX11_load 19 = .ok (.aload_n 2, 1) := by decide +kernel
theorem dX11_load_20 : decode cX11_load 20 = .ok (.ifnonnull 9, 3) := by decide +kernel
theorem dX11_load_23 : decode cX11_load 23 = .ok (.aload_n 0, 1) := by decide +kernel
theorem dX11_load_24 : decode cX11_load 24 = .ok (.iconst (-1), 1) := by decide +kernel
theorem dX11_load_25 : decode cX11_load 25 = .ok (.invokevirtual 246, 3) := by decide +kernel
theorem dX11_load_28 : decode cX11_load 28 = .ok (.ireturn, 1) := by decide +kernel
theorem dX11_load_29 : decode cX11_load 29 = .ok (.aload_n 2, 1) := by decide +kernel
theorem dX11_load_30 : decode cX11_load 30 = .ok (.getfield 226, 3) := by decide +kernel
theorem dX11_load_33 : decode cX11_load 33 = .ok (.astore_n 3, 1) := by decide +kernel
theorem dX11_load_34 : decode cX11_load 34 = .ok (.aload_n 3, 1) := by decide +kernel
theorem dX11_load_35 : decode cX11_load 35 = .ok (.ifnonnull 10, 3) := by decide +kernel
theorem dX11_load_38 : decode cX11_load 38 = .ok (.aload_n 0, 1) := by decide +kernel
theorem dX11_load_39 : decode cX11_load 39 = .ok (.bipush (-3), 2) := by decide +kernel
theorem dX11_load_41 : decode cX11_load 41 = .ok (.invokevirtual 246, 3) := by decide +kernel
theorem dX11_load_44 : decode cX11_load 44 = .ok (.ireturn, 1) := by decide +kernel
theorem dX11_load_45 : decode cX11_load 45 = .ok (.aload_n 2, 1) := by decide +kernel
theorem dX11_load_46 : decode cX11_load 46 = .ok (.iconst 0, 1) := by decide +kernel
theorem dX11_load_47 : decode cX11_load 47 = .ok (.putfield 236, 3) := by decide +kernel
theorem dX11_load_50 : decode cX11_load 50 = .ok (.aload_n 0, 1) := by decide +kernel
theorem dX11_load_51 : decode cX11_load 51 = .ok (.getfield 10, 3) := by decide +kernel
theorem dX11_load_54 : decode cX11_load 54 = .ok (.aload_n 2, 1) := by decide +kernel
theorem dX11_load_55 : decode cX11_load 55 = .ok (.aload_n 3, 1) := by decide +kernel
theorem dX11_load_56 : decode cX11_load 56 = .ok (.invokevirtual 284, 3) := by decide +kernel
theorem dX11_load_59 : decode cX11_load 59 = .ok (.istore 4, 2) := by decide +kernel
theorem dX11_load_61 : decode cX11_load 61 = .ok (.aload_n 0, 1) := by decide +kernel
theorem dX11_load_62 : decode cX11_load 62 = .ok (.getfield 10, 3) := by decide +kernel
theorem dX11_load_65 : decode cX11_load 65 = .ok (.aload_n 3, 1) := by decide +kernel
theorem dX11_load_66 : decode cX11_load 66 = .ok (.getfield 134, 3) := by decide +kernel
theorem dX11_load_69 : decode cX11_load 69 = .ok (.invokevirtual 287, 3) := by decide +kernel
theorem dX11_load_72 : decode cX11_load 72 = .ok (.astore 5, 2) := by decide +kernel
theorem dX11_load_74 : decode cX11_load 74 = .ok (.iload 4, 2) := by decide +kernel
theorem dX11_load_76 : decode cX11_load 76 = .ok (.ifCond .ne 54, 3) := by decide +kernel
theorem dX11_load_79 : decode cX11_load 79 = .ok (.aload 5, 2) := by decide +kernel
theorem dX11_load_81 : decode cX11_load 81 = .ok (.ifnull 49, 3) := by decide +kernel
theorem dX11_load_84 : decode cX11_load 84 = .ok (.aload_n 0, 1) := by decide +kernel
theorem dX11_load_85 : decode cX11_load 85 = .ok (.getfield 19, 3) := by decide +kernel
theorem dX11_load_88 : decode cX11_load 88 = .ok (.aload_n 3, 1) := by decide +kernel
theorem dX11_load_89 : decode cX11_load 89 = .ok (.aload_n 2, 1) := by decide +kernel
theorem dX11_load_90 : decode cX11_load 90 = .ok (.aconst_null, 1) := by decide +kernel
theorem dX11_load_91 : decode cX11_load 91 = .ok (.invokevirtual 253, 3) := by decide +kernel
theorem dX11_load_94 : decode cX11_load 94 = .ok (.aload 5, 2) := by decide +kernel
theorem dX11_load_96 : decode cX11_load 96 = .ok (.aload_n 3, 1) := by decide +kernel
theorem dX11_load_97 : decode cX11_load 97 = .ok (.getfield 291, 3) := by decide +kernel
theorem dX11_load_100 : decode cX11_load 100 = .ok (.aload_n 3, 1) := by decide +kernel
theorem dX11_load_101 : decode cX11_load 101 = .ok (.getfield 294, 3) := by decide +kernel
theorem dX11_load_104 : decode cX11_load 104 = .ok (.aload_n 3, 1) := by decide +kernel
theorem dX11_load_105 : decode cX11_load 105 = .ok (.getfield 297, 3) := by decide +kernel
theorem dX11_load_108 : decode cX11_load 108 = .ok (.invokevirtual 300, 3) := by decide +kernel
theorem dX11_load_111 : decode cX11_load 111 = .ok (.istore 6, 2) := by decide +kernel
theorem dX11_load_113 : decode cX11_load 113 = .ok (.aload_n 0, 1) := by decide +kernel
theorem dX11_load_114 : decode cX11_load 114 = .ok (.getfield 10, 3) := by decide +kernel
theorem dX11_load_117 : decode cX11_load 117 = .ok (.aload_n 3, 1) := by decide +kernel
theorem dX11_load_118 : decode cX11_load 118 = .ok (.iconst 3, 1) := by decide +kernel
theorem dX11_load_119 : decode cX11_load 119 = .ok (.aload 5, 2) := by decide +kernel
theorem dX11_load_121 : decode cX11_load 121 = .ok (.getfield 305, 3) := by decide +kernel
theorem dX11_load_124 : decode cX11_load 124 = .ok (.iload 6, 2) := by decide +kernel
theorem dX11_load_126 : decode cX11_load 126 = .ok (.iconst 0, 1) := by decide +kernel
theorem dX11_load_127 : decode cX11_load 127 = .ok (.invokevirtual 277, 3) := by decide +kernel
theorem dX11_load_130 : decode cX11_load 130 = .ok (.aload_n 0, 1) := by decide +kernel
theorem dX11_load_131 : decode cX11_load 131 = .ok (.aload_n 2, 1) := by decide +kernel
theorem dX11_load_132 : decode cX11_load 132 = .ok (.iload 4, 2) := by decide +kernel
theorem dX11_load_134 : decode cX11_load 134 = .ok (.invokevirtual 257, 3) := by decide +kernel
theorem dX11_load_137 : decode cX11_load 137 = .ok (.ireturn, 1) := by decide +kernel
def M_X11_load : y_M := (yX11_load, cX11_load, 7, (Option.some Jvm.ClassFile.FieldType.int))
theorem n_X11_load : y_N0 M_X11_load 1 := ⟨(c_4 204 (by decide +kernel) rfl), (c_1 1 (by decide +kernel) rfl), ⟨by decide +kernel, by decide +kernel⟩, by decide +kernel⟩
theorem l_BoxYard_284 : y_lnk "BoxYard" 284 M_X10_meetsLoading := Or.inl (c_4 205 (by decide +kernel) rfl)
theorem i_X10_meetsLoading : Cond.instanceMethod (M_X10_meetsLoading).1 ∈ y_tb := (c_4 206 (by decide +kernel) rfl)
theorem e_X10_meetsLoading : Cond.selects (M_X10_meetsLoading).1.cls (M_X10_meetsLoading).1 (M_X10_meetsLoading).1 ∈ y_tb := (c_4 207 (by decide +kernel) rfl)
theorem F_BoxYard_291 : y_F "BoxYard" 291 2 12 := ⟨_, _, _, rfl, by decide, Or.inr ⟨"BoxYard", (c_2 156 (by decide +kernel) rfl)⟩⟩
theorem F_BoxYard_294 : y_F "BoxYard" 294 2 13 := ⟨_, _, _, rfl, by decide, Or.inr ⟨"BoxYard", (c_2 159 (by decide +kernel) rfl)⟩⟩
theorem F_BoxYard_297 : y_F "BoxYard" 297 2 14 := ⟨_, _, _, rfl, by decide, Or.inr ⟨"BoxYard", (c_2 162 (by decide +kernel) rfl)⟩⟩
theorem l_BoxYard_300 : y_lnk "BoxYard" 300 M_X7_placeNumber := Or.inl (c_5 1 (by decide +kernel) rfl)
theorem F_BoxYard_305 : y_F "BoxYard" 305 7 0 := ⟨_, _, _, rfl, by decide, Or.inr ⟨"BoxYard", (c_5 43 (by decide +kernel) rfl)⟩⟩
set_option maxRecDepth 100000 in
def f_X11_load (p0 : Nat) (p1 : Int32) (c0 s0 : Nat) (h : y_H) : Option ((Int32 × Nat × Nat) × y_H) :=
  if y_K h p0 = 12 then
  if y_K h (y_P h p0 0) = 11 then
  if y_K h (y_P h (y_P h p0 0) 12) = 10 then
  y_cl (f_X9_begin (y_P h (y_P h p0 0) 12) h) (fun _ h1 =>
  if y_K h1 p0 = 12 then
  if y_K h1 (y_P h1 p0 0) = 11 then
  y_cl (f_X10_craneAt (y_P h1 p0 0) p1 h1) (fun r3 h4 =>
  if r3 = 0 then
    if y_K h4 p0 = 12 then
    y_cl (f_X11_refused p0 (-1 : Int32) h4) (fun r50 h51 =>
    some ((r50, c0, s0), h51))
    else none
  else
    if y_K h4 r3 = 4 then
    if (y_P h4 r3 4) = 0 then
      if y_K h4 p0 = 12 then
      y_cl (f_X11_refused p0 (-3 : Int32) h4) (fun r44 h45 =>
      some ((r44, c0, s0), h45))
      else none
    else
      if y_K h4 r3 = 4 then
      y_bd (s_B h4 r3 7 false) (fun h6 =>
      if y_K h6 p0 = 12 then
      if y_K h6 (y_P h6 p0 0) = 11 then
      y_cl (f_X10_meetsLoading (y_P h6 p0 0) r3 (y_P h4 r3 4) h6) (fun r9 h10 =>
      if y_K h10 p0 = 12 then
      if y_K h10 (y_P h4 r3 4) = 3 then
      if y_K h10 (y_P h10 p0 0) = 11 then
      y_cl (f_X10_shipAt (y_P h10 p0 0) (y_I h10 (y_P h4 r3 4) 11) h10) (fun r12 h13 =>
      y_jn (fun (v0_130 : Nat) (v2_130 : Nat) (v4_130 : Int32) (c130 : Nat) (s130 : Nat) (h15 : y_H) => (
          if y_K h15 v0_130 = 12 then
          y_cl (f_X11_ended v0_130 v2_130 v4_130 h15) (fun r16 h17 =>
          some ((r16, c130, s130), h17))
          else none : Option ((Int32 × Nat × Nat) × y_H))) (fun j130 =>
      if r9 = 0 then
        if r12 = 0 then
          j130 p0 r3 r9 c0 s0 h13
        else
          if y_K h13 p0 = 12 then
          if y_K h13 (y_P h13 p0 1) = 6 then
          y_cl (f_X5_note (y_P h13 p0 1) (y_P h4 r3 4) r3 0 c0 s0 h13) (fun r22 h20 =>
          if y_K h20 (y_P h4 r3 4) = 3 then
          if y_K h20 (y_P h4 r3 4) = 3 then
          if y_K h20 (y_P h4 r3 4) = 3 then
          if y_K h20 r12 = 8 then
          y_cl (f_X7_placeNumber r12 (y_I h20 (y_P h4 r3 4) 12) (y_I h20 (y_P h4 r3 4) 13) (y_I h20 (y_P h4 r3 4) 14) h20) (fun r23 h24 =>
          if y_K h24 p0 = 12 then
          if y_K h24 r12 = 8 then
          if y_K h24 (y_P h24 p0 0) = 11 then
          y_cl (f_X10_bring (y_P h24 p0 0) (y_P h4 r3 4) 3 (y_I h24 r12 0) r23 0 h24) (fun _ h26 =>
          j130 p0 r3 r9 r22.2.1 r22.2.2 h26)
          else none
          else none
          else none)
          else none
          else none
          else none
          else none)
          else none
          else none
      else
        j130 p0 r3 r9 c0 s0 h13))
      else none
      else none
      else none)
      else none
      else none)
      else none
    else none)
  else none
  else none)
  else none
  else none
  else none
abbrev FF_X11_load : Nat := 5
abbrev LL_X11_load : Nat := 116
set_option maxRecDepth 100000 in
set_option maxHeartbeats 4000000 in
theorem k_X11_load {l : Launch} {G : y_G} {p0 : Nat} {p1 : Int32} {c0 s0 cz sz : Nat} {h hz : y_H} {rz : Int32} (hf : f_X11_load p0 p1 c0 s0 h = some ((rz, cz, sz), hz)) : (c0 ≤ cz ∧ s0 ≤ sz) ∧ y_S l G M_X11_load (y_Rm FF_X11_load LL_X11_load c0 s0 cz sz) [y_p p0, .int p1] h (some (.int rz)) hz := by
  refine y_Ustart (lv := [(0, y_p p0), (1, .int p1)]) (by decide) (by simp [lg_sl, y_p_cat, y_ci, y_cj, M_X11_load]) (by simp [lv_args, y_p_cat, y_ci, y_cj]) (fun z ad0 => ?_)
  unfold f_X11_load at hf
  refine y_lf (fun _ _ _ _ k => y_aload_n (x := p0) (pc2 := 1) rfl dX11_load_0 rfl k) ?_
  obtain ⟨g59, hf⟩ := y_g hf
  refine y_lf (fun _ _ _ _ k => y_getP (pc2 := 4) rfl dX11_load_1 F_BoxYard_10 (by decide) rfl g59 k) ?_
  obtain ⟨g58, hf⟩ := y_g hf
  refine y_lf (fun _ _ _ _ k => y_getP (pc2 := 7) rfl dX11_load_4 F_BoxYard_77 (by decide) rfl g58 k) ?_
  obtain ⟨g57, hf⟩ := y_g hf
  obtain ⟨r_, h1, c2, hf⟩ := y_clE hf
  refine y_UcV0 (As := []) (rm := rm_X9_begin) (pc2 := 10) rfl dX11_load_7 n_X9_begin l_BoxYard_81 i_X9_begin e_X9_begin (ci := 9) rfl rfl (by decide) g57 rfl rfl (by decide) (by decide) rfl rfl (k_X9_begin c2) ?_
  refine y_lf (fun _ _ _ _ k => y_aload_n (x := p0) (pc2 := 11) rfl dX11_load_10 rfl k) ?_
  obtain ⟨g56, hf⟩ := y_g hf
  refine y_lf (fun _ _ _ _ k => y_getP (pc2 := 14) rfl dX11_load_11 F_BoxYard_10 (by decide) rfl g56 k) ?_
  refine y_lf (fun _ _ _ _ k => y_iload_n (pc2 := 15) rfl dX11_load_14 rfl k) ?_
  obtain ⟨g55, hf⟩ := y_g hf
  obtain ⟨r3, h4, c5, hf⟩ := y_clE hf
  refine y_UcV0 (As := [.int p1]) (rm := rm_X10_craneAt) (pc2 := 18) rfl dX11_load_15 n_X10_craneAt l_BoxYard_209 i_X10_craneAt e_X10_craneAt (ci := 10) rfl rfl (by decide) g55 rfl rfl (by decide) (by decide) rfl rfl (k_X10_craneAt c5) ?_
  refine y_lf (fun _ _ _ _ k => y_astore_n (lv' := [(2, y_p r3), (0, y_p p0), (1, .int p1)]) (pc2 := 19) rfl dX11_load_18 (by decide) rfl k) ?_
  refine y_lf (fun _ _ _ _ k => y_aload_n (x := r3) (pc2 := 20) rfl dX11_load_19 rfl k) ?_
  refine y_lf2 (Classical.em _).symm (fun _ _ k1 k2 => y_ifnonnull (tgt := 29) (pc2 := 23) rfl dX11_load_20 (by decide) k1 k2) (fun c54 => ?_) (fun c54 => ?_)
  · replace hf := y_ie c54 hf
    refine y_lf (fun _ _ _ _ k => y_aload_n (x := r3) (pc2 := 30) rfl dX11_load_29 rfl k) ?_
    obtain ⟨g49, hf⟩ := y_g hf
    refine y_lf (fun _ _ _ _ k => y_getP (pc2 := 33) rfl dX11_load_30 F_BoxYard_226 (by decide) rfl g49 k) ?_
    refine y_lf (fun _ _ _ _ k => y_astore_n (lv' := [(3, y_p (y_P h4 r3 4)), (2, y_p r3), (0, y_p p0), (1, .int p1)]) (pc2 := 34) rfl dX11_load_33 (by decide) (by show y_st1 _ 3 _ = _; simp [y_st1, y_p_cat, y_ci, y_cj]) k) ?_
    refine y_lf (fun _ _ _ _ k => y_aload_n (x := y_P h4 r3 4) (pc2 := 35) rfl dX11_load_34 rfl k) ?_
    refine y_lf2 (Classical.em _).symm (fun _ _ k1 k2 => y_ifnonnull (tgt := 45) (pc2 := 38) rfl dX11_load_35 (by decide) k1 k2) (fun c48 => ?_) (fun c48 => ?_)
    · replace hf := y_ie c48 hf
      refine y_lf (fun _ _ _ _ k => y_aload_n (x := r3) (pc2 := 46) rfl dX11_load_45 rfl k) ?_
      refine y_lf (fun _ _ _ _ k => y_iconst (v := 0) (pc2 := 47) rfl dX11_load_46 (by decide) k) ?_
      obtain ⟨g8, hf⟩ := y_g hf
      obtain ⟨h6, e7, hf⟩ := y_bdE hf
      refine y_lf (fun _ _ _ _ k => y_putZ (x := false) (pc2 := 50) rfl dX11_load_47 Fp_BoxYard_236 (by decide) rfl g8 e7 k) ?_
      refine y_lf (fun _ _ _ _ k => y_aload_n (x := p0) (pc2 := 51) rfl dX11_load_50 rfl k) ?_
      obtain ⟨g43, hf⟩ := y_g hf
      refine y_lf (fun _ _ _ _ k => y_getP (pc2 := 54) rfl dX11_load_51 F_BoxYard_10 (by decide) rfl g43 k) ?_
      refine y_lf (fun _ _ _ _ k => y_aload_n (x := r3) (pc2 := 55) rfl dX11_load_54 rfl k) ?_
      refine y_lf (fun _ _ _ _ k => y_aload_n (x := y_P h4 r3 4) (pc2 := 56) rfl dX11_load_55 rfl k) ?_
      obtain ⟨g42, hf⟩ := y_g hf
      obtain ⟨r9, h10, c11, hf⟩ := y_clE hf
      refine y_UcV0 (As := [y_p r3, y_p (y_P h4 r3 4)]) (rm := rm_X10_meetsLoading) (pc2 := 59) rfl dX11_load_56 n_X10_meetsLoading l_BoxYard_284 i_X10_meetsLoading e_X10_meetsLoading (ci := 10) rfl rfl (by decide) g42 rfl rfl (by decide) (by decide) rfl rfl (k_X10_meetsLoading c11) ?_
      refine y_lf (fun _ _ _ _ k => y_istore (lv' := [(4, .int r9), (3, y_p (y_P h4 r3 4)), (2, y_p r3), (0, y_p p0), (1, .int p1)]) (pc2 := 61) rfl dX11_load_59 (by decide) (by show y_st1 _ 4 _ = _; simp [y_st1, y_p_cat, y_ci, y_cj]) k) ?_
      refine y_lf (fun _ _ _ _ k => y_aload_n (x := p0) (pc2 := 62) rfl dX11_load_61 rfl k) ?_
      obtain ⟨g41, hf⟩ := y_g hf
      refine y_lf (fun _ _ _ _ k => y_getP (pc2 := 65) rfl dX11_load_62 F_BoxYard_10 (by decide) rfl g41 k) ?_
      refine y_lf (fun _ _ _ _ k => y_aload_n (x := y_P h4 r3 4) (pc2 := 66) rfl dX11_load_65 rfl k) ?_
      obtain ⟨g40, hf⟩ := y_g hf
      refine y_lf (fun _ _ _ _ k => y_getI (pc2 := 69) rfl dX11_load_66 F_BoxYard_134 (by decide) rfl g40 k) ?_
      obtain ⟨g39, hf⟩ := y_g hf
      obtain ⟨r12, h13, c14, hf⟩ := y_clE hf
      refine y_UcV0 (As := [.int (y_I h10 (y_P h4 r3 4) 11)]) (rm := rm_X10_shipAt) (pc2 := 72) rfl dX11_load_69 n_X10_shipAt l_BoxYard_287 i_X10_shipAt e_X10_shipAt (ci := 10) rfl rfl (by decide) g39 rfl rfl (by decide) (by decide) rfl rfl (k_X10_shipAt c14) ?_
      refine y_lf (fun _ _ _ _ k => y_astore (lv' := [(5, y_p r12), (4, .int r9), (3, y_p (y_P h4 r3 4)), (2, y_p r3), (0, y_p p0), (1, .int p1)]) (pc2 := 74) rfl dX11_load_72 (by decide) rfl k) ?_
      refine y_lf (fun _ _ _ _ k => y_iload (pc2 := 76) rfl dX11_load_74 rfl k) ?_
      refine y_jnE hf (fun j => ∀ (v0_130 : Nat) (v2_130 : Nat) (v4_130 : Int32) (c130 : Nat) (s130 : Nat) (h15 : y_H), j v0_130 v2_130 v4_130 c130 s130 h15 = some ((rz, cz, sz), hz) → y_U l G z FF_X11_load LL_X11_load (cz - c0) (sz - s0) c0 s0 cz sz M_X11_load ad0 h (some (.int rz)) hz 130 [(0, y_p v0_130), (2, y_p v2_130), (4, .int v4_130)] [] h15 c130 s130) (fun v0_130 v2_130 v4_130 c130 s130 h15 hf => ?_) (fun j130 hj130 hf => ?_)
      · refine y_lf (fun _ _ _ _ k => y_aload_n (x := v0_130) (pc2 := 131) rfl dX11_load_130 rfl k) ?_
        refine y_lf (fun _ _ _ _ k => y_aload_n (x := v2_130) (pc2 := 132) rfl dX11_load_131 rfl k) ?_
        refine y_lf (fun _ _ _ _ k => y_iload (pc2 := 134) rfl dX11_load_132 rfl k) ?_
        obtain ⟨g19, hf⟩ := y_g hf
        obtain ⟨r16, h17, c18, hf⟩ := y_clE hf
        refine y_UcV0 (As := [y_p v2_130, .int v4_130]) (rm := rm_X11_ended) (pc2 := 137) rfl dX11_load_134 n_X11_ended l_BoxYard_257 i_X11_ended e_X11_ended (ci := 11) rfl rfl (by decide) g19 rfl rfl (by decide) (by decide) rfl rfl (k_X11_ended c18) ?_
        exact y_iretU hf dX11_load_137 rfl
      · refine y_lf2 (Classical.em _).symm (fun _ _ k1 k2 => y_if_ne (tgt := 130) (pc2 := 79) rfl dX11_load_76 (by decide) k1 k2) (fun c38 => ?_) (fun c38 => ?_)
        · replace hf := y_ie c38 hf
          exact y_lf (fun _ _ _ _ k => y_pk [4, 3, 1] rfl k) (hj130 _ _ _ _ _ _ hf)
        · replace hf := y_it c38 hf
          refine y_lf (fun _ _ _ _ k => y_aload (x := r12) (pc2 := 81) rfl dX11_load_79 rfl k) ?_
          refine y_lf2 (Classical.em _) (fun _ _ k1 k2 => y_ifnull (tgt := 130) (pc2 := 84) rfl dX11_load_81 (by decide) k1 k2) (fun c37 => ?_) (fun c37 => ?_)
          · replace hf := y_it c37 hf
            exact y_lf (fun _ _ _ _ k => y_pk [4, 3, 1] rfl k) (hj130 _ _ _ _ _ _ hf)
          · replace hf := y_ie c37 hf
            refine y_lf (fun _ _ _ _ k => y_aload_n (x := p0) (pc2 := 85) rfl dX11_load_84 rfl k) ?_
            obtain ⟨g36, hf⟩ := y_g hf
            refine y_lf (fun _ _ _ _ k => y_getP (pc2 := 88) rfl dX11_load_85 F_BoxYard_19 (by decide) rfl g36 k) ?_
            refine y_lf (fun _ _ _ _ k => y_aload_n (x := y_P h4 r3 4) (pc2 := 89) rfl dX11_load_88 rfl k) ?_
            refine y_lf (fun _ _ _ _ k => y_aload_n (x := r3) (pc2 := 90) rfl dX11_load_89 rfl k) ?_
            refine y_lf (fun _ _ _ _ k => y_null (pc2 := 91) rfl dX11_load_90 k) ?_
            obtain ⟨g35, hf⟩ := y_g hf
            obtain ⟨r22, h20, c21, hf⟩ := y_clE hf
            refine y_UcallV (As := [y_p (y_P h4 r3 4), y_p r3, y_p 0]) (pc2 := 94) rfl dX11_load_91 n_X5_note l_BoxYard_253 i_X5_note e_X5_note (ci := 5) rfl rfl (by decide) g35 rfl rfl (by decide) (by decide) (k_X5_note c21) ?_
            refine y_lf (fun _ _ _ _ k => y_aload (x := r12) (pc2 := 96) rfl dX11_load_94 rfl k) ?_
            refine y_lf (fun _ _ _ _ k => y_aload_n (x := y_P h4 r3 4) (pc2 := 97) rfl dX11_load_96 rfl k) ?_
            obtain ⟨g34, hf⟩ := y_g hf
            refine y_lf (fun _ _ _ _ k => y_getI (pc2 := 100) rfl dX11_load_97 F_BoxYard_291 (by decide) rfl g34 k) ?_
            refine y_lf (fun _ _ _ _ k => y_aload_n (x := y_P h4 r3 4) (pc2 := 101) rfl dX11_load_100 rfl k) ?_
            obtain ⟨g33, hf⟩ := y_g hf
            refine y_lf (fun _ _ _ _ k => y_getI (pc2 := 104) rfl dX11_load_101 F_BoxYard_294 (by decide) rfl g33 k) ?_
            refine y_lf (fun _ _ _ _ k => y_aload_n (x := y_P h4 r3 4) (pc2 := 105) rfl dX11_load_104 rfl k) ?_
            obtain ⟨g32, hf⟩ := y_g hf
            refine y_lf (fun _ _ _ _ k => y_getI (pc2 := 108) rfl dX11_load_105 F_BoxYard_297 (by decide) rfl g32 k) ?_
            obtain ⟨g31, hf⟩ := y_g hf
            obtain ⟨r23, h24, c25, hf⟩ := y_clE hf
            refine y_UcV0 (As := [.int (y_I h20 (y_P h4 r3 4) 12), .int (y_I h20 (y_P h4 r3 4) 13), .int (y_I h20 (y_P h4 r3 4) 14)]) (rm := rm_X7_placeNumber) (pc2 := 111) rfl dX11_load_108 n_X7_placeNumber l_BoxYard_300 i_X7_placeNumber e_X7_placeNumber (ci := 7) rfl rfl (by decide) g31 rfl rfl (by decide) (by decide) rfl rfl (k_X7_placeNumber c25) ?_
            refine y_lf (fun _ _ _ _ k => y_istore (lv' := [(6, .int r23), (5, y_p r12), (4, .int r9), (3, y_p (y_P h4 r3 4)), (2, y_p r3), (0, y_p p0), (1, .int p1)]) (pc2 := 113) rfl dX11_load_111 (by decide) (by show y_st1 _ 6 _ = _; simp [y_st1, y_p_cat, y_ci, y_cj]) k) ?_
            refine y_lf (fun _ _ _ _ k => y_aload_n (x := p0) (pc2 := 114) rfl dX11_load_113 rfl k) ?_
            obtain ⟨g30, hf⟩ := y_g hf
            refine y_lf (fun _ _ _ _ k => y_getP (pc2 := 117) rfl dX11_load_114 F_BoxYard_10 (by decide) rfl g30 k) ?_
            refine y_lf (fun _ _ _ _ k => y_aload_n (x := y_P h4 r3 4) (pc2 := 118) rfl dX11_load_117 rfl k) ?_
            refine y_lf (fun _ _ _ _ k => y_iconst (v := 3) (pc2 := 119) rfl dX11_load_118 (by decide) k) ?_
            refine y_lf (fun _ _ _ _ k => y_aload (x := r12) (pc2 := 121) rfl dX11_load_119 rfl k) ?_
            obtain ⟨g29, hf⟩ := y_g hf
            refine y_lf (fun _ _ _ _ k => y_getI (pc2 := 124) rfl dX11_load_121 F_BoxYard_305 (by decide) rfl g29 k) ?_
            refine y_lf (fun _ _ _ _ k => y_iload (pc2 := 126) rfl dX11_load_124 rfl k) ?_
            refine y_lf (fun _ _ _ _ k => y_iconst (v := 0) (pc2 := 127) rfl dX11_load_126 (by decide) k) ?_
            obtain ⟨g28, hf⟩ := y_g hf
            obtain ⟨r_, h26, c27, hf⟩ := y_clE hf
            refine y_UcV0 (As := [y_p (y_P h4 r3 4), .int 3, .int (y_I h24 r12 0), .int r23, .int 0]) (rm := rm_X10_bring) (pc2 := 130) rfl dX11_load_127 n_X10_bring l_BoxYard_277 i_X10_bring e_X10_bring (ci := 10) rfl rfl (by decide) g28 rfl rfl (by decide) (by decide) rfl rfl (k_X10_bring c27) ?_
            exact y_lf (fun _ _ _ _ k => y_pk [5, 4, 2] rfl k) (hj130 _ _ _ _ _ _ hf)
    · replace hf := y_it c48 hf
      refine y_lf (fun _ _ _ _ k => y_aload_n (x := p0) (pc2 := 39) rfl dX11_load_38 rfl k) ?_
      refine y_lf (fun _ _ _ _ k => y_bipush (v := (-3 : Int32)) (pc2 := 41) rfl dX11_load_39 (by decide) k) ?_
      obtain ⟨g47, hf⟩ := y_g hf
      obtain ⟨r44, h45, c46, hf⟩ := y_clE hf
      refine y_UcV0 (As := [.int (-3 : Int32)]) (rm := rm_X11_refused) (pc2 := 44) rfl dX11_load_41 n_X11_refused l_BoxYard_246 i_X11_refused e_X11_refused (ci := 11) rfl rfl (by decide) g47 rfl rfl (by decide) (by decide) rfl rfl (k_X11_refused c46) ?_
      exact y_iretU hf dX11_load_44 rfl
  · replace hf := y_it c54 hf
    refine y_lf (fun _ _ _ _ k => y_aload_n (x := p0) (pc2 := 24) rfl dX11_load_23 rfl k) ?_
    refine y_lf (fun _ _ _ _ k => y_iconst (v := (-1 : Int32)) (pc2 := 25) rfl dX11_load_24 (by decide) k) ?_
    obtain ⟨g53, hf⟩ := y_g hf
    obtain ⟨r50, h51, c52, hf⟩ := y_clE hf
    refine y_UcV0 (As := [.int (-1 : Int32)]) (rm := rm_X11_refused) (pc2 := 28) rfl dX11_load_25 n_X11_refused l_BoxYard_246 i_X11_refused e_X11_refused (ci := 11) rfl rfl (by decide) g53 rfl rfl (by decide) (by decide) rfl rfl (k_X11_refused c52) ?_
    exact y_iretU hf dX11_load_28 rfl
theorem dX11_fetch_0 : decode cX11_fetch 0 = .ok (.aload_n 0, 1) := by decide +kernel
theorem dX11_fetch_1 : decode cX11_fetch 1 = .ok (.getfield 10, 3) := by decide +kernel
theorem dX11_fetch_4 : decode cX11_fetch 4 = .ok (.getfield 77, 3) := by decide +kernel
theorem dX11_fetch_7 : decode cX11_fetch 7 = .ok (.invokevirtual 81, 3) := by decide +kernel
theorem dX11_fetch_10 : decode cX11_fetch 10 = .ok (.aload_n 0, 1) := by decide +kernel
theorem dX11_fetch_11 : decode cX11_fetch 11 = .ok (.getfield 10, 3) := by decide +kernel
theorem dX11_fetch_14 : decode cX11_fetch 14 = .ok (.iload_n 1, 1) := by decide +kernel
theorem dX11_fetch_15 : decode cX11_fetch 15 = .ok (.invokevirtual 209, 3) := by decide +kernel
theorem dX11_fetch_18 : decode cX11_fetch 18 = .ok (.astore 5, 2) := by decide +kernel
theorem dX11_fetch_20 : decode cX11_fetch 20 = .ok (.aload_n 0, 1) := by decide +kernel
theorem dX11_fetch_21 : decode cX11_fetch 21 = .ok (.getfield 10, 3) := by decide +kernel
theorem dX11_fetch_24 : decode cX11_fetch 24 = .ok (.iload_n 2, 1) := by decide +kernel
theorem dX11_fetch_25 : decode cX11_fetch 25 = .ok (.invokevirtual 287, 3) := by decide +kernel
theorem dX11_fetch_28 : decode cX11_fetch 28 = .ok (.astore 6, 2) := by decide +kernel
theorem dX11_fetch_30 : decode cX11_fetch 30 = .ok (.aload 5, 2) := by decide +kernel
theorem dX11_fetch_32 : decode cX11_fetch 32 = .ok (.ifnull 8, 3) := by decide +kernel
theorem dX11_fetch_35 : decode cX11_fetch 35 = .ok (.aload 6, 2) := by decide +kernel
theorem dX11_fetch_37 : decode cX11_fetch 37 = .ok (.ifnonnull 9, 3) := by decide +kernel
theorem dX11_fetch_40 : decode cX11_fetch 40 = .ok (.aload_n 0, 1) := by decide +kernel
theorem dX11_fetch_41 : decode cX11_fetch 41 = .ok (.iconst (-1), 1) := by decide +kernel
theorem dX11_fetch_42 : decode cX11_fetch 42 = .ok (.invokevirtual 246, 3) := by decide +kernel
theorem dX11_fetch_45 : decode cX11_fetch 45 = .ok (.ireturn, 1) := by decide +kernel
theorem dX11_fetch_46 : decode cX11_fetch 46 = .ok (.aload 5, 2) := by decide +kernel
theorem dX11_fetch_48 : decode cX11_fetch 48 = .ok (.getfield 226, 3) := by decide +kernel
theorem dX11_fetch_51 : decode cX11_fetch 51 = .ok (.ifnull 10, 3) := by decide +kernel
theorem dX11_fetch_54 : decode cX11_fetch 54 = .ok (.aload_n 0, 1) := by decide +kernel
theorem dX11_fetch_55 : decode cX11_fetch 55 = .ok (.bipush (-3), 2) := by decide +kernel
theorem dX11_fetch_57 : decode cX11_fetch 57 = .ok (.invokevirtual 246, 3) := by decide +kernel
theorem dX11_fetch_60 : decode cX11_fetch 60 = .ok (.ireturn, 1) := by decide +kernel
theorem dX11_fetch_61 : decode cX11_fetch 61 = .ok (.aload 5, 2) := by decide +kernel
theorem dX11_fetch_63 : decode cX11_fetch 63 = .ok (.iconst 0, 1) := by decide +kernel
theorem dX11_fetch_64 : decode cX11_fetch 64 = .ok (.putfield 236, 3) := by decide +kernel
theorem dX11_fetch_67 : decode cX11_fetch 67 = .ok (.aload_n 0, 1) := by decide +kernel
theorem dX11_fetch_68 : decode cX11_fetch 68 = .ok (.getfield 10, 3) := by decide +kernel
theorem dX11_fetch_71 : decode cX11_fetch 71 = .ok (.aload 5, 2) := by decide +kernel
theorem dX11_fetch_73 : decode cX11_fetch 73 = .ok (.aload 6, 2) := by decide +kernel
theorem dX11_fetch_75 : decode cX11_fetch 75 = .ok (.iload_n 3, 1) := by decide +kernel
theorem dX11_fetch_76 : decode cX11_fetch 76 = .ok (.iload 4, 2) := by decide +kernel
theorem dX11_fetch_78 : decode cX11_fetch 78 = .ok (.invokevirtual 306, 3) := by decide +kernel
theorem dX11_fetch_81 : decode cX11_fetch 81 = .ok (.istore 7, 2) := by decide +kernel
theorem dX11_fetch_83 : decode cX11_fetch 83 = .ok (.aload 6, 2) := by decide +kernel
theorem dX11_fetch_85 : decode cX11_fetch 85 = .ok (.iload_n 3, 1) := by decide +kernel
theorem dX11_fetch_86 : decode cX11_fetch 86 = .ok (.iload 4, 2) := by decide +kernel
theorem dX11_fetch_88 : decode cX11_fetch 88 = .ok (.invokevirtual 310, 3) := by decide +kernel
theorem dX11_fetch_91 : decode cX11_fetch 91 = .ok (.astore 8, 2) := by decide +kernel
theorem dX11_fetch_93 : decode cX11_fetch 93 = .ok (.iload 7, 2) := by decide +kernel
theorem dX11_fetch_95 : decode cX11_fetch 95 = .ok (.ifCond .ne 56, 3) := by decide +kernel
theorem dX11_fetch_98 : decode cX11_fetch 98 = .ok (.aload 8, 2) := by decide +kernel
theorem dX11_fetch_100 : decode cX11_fetch 100 = .ok (.ifnull 51, 3) := by decide +kernel
theorem dX11_fetch_103 : decode cX11_fetch 103 = .ok (.aload_n 0, 1) := by decide +kernel
theorem dX11_fetch_104 : decode cX11_fetch 104 = .ok (.getfield 19, 3) := by decide +kernel
theorem dX11_fetch_107 : decode cX11_fetch 107 = .ok (.aload 8, 2) := by decide +kernel
theorem dX11_fetch_109 : decode cX11_fetch 109 = .ok (.aload 5, 2) := by decide +kernel
theorem dX11_fetch_111 : decode cX11_fetch 111 = .ok (.aload 6, 2) := by decide +kernel
theorem dX11_fetch_113 : decode cX11_fetch 113 = .ok (.invokevirtual 253, 3) := by decide +kernel
theorem dX11_fetch_116 : decode cX11_fetch 116 = .ok (.aload 6, 2) := by decide +kernel
theorem dX11_fetch_118 : decode cX11_fetch 118 = .ok (.aload 8, 2) := by decide +kernel
theorem dX11_fetch_120 : decode cX11_fetch 120 = .ok (.getfield 140, 3) := by decide +kernel
theorem dX11_fetch_123 : decode cX11_fetch 123 = .ok (.invokevirtual 311, 3) := by decide +kernel
theorem dX11_fetch_126 : decode cX11_fetch 126 = .ok (.ifCond .eq 14, 3) := by decide +kernel
theorem dX11_fetch_129 : decode cX11_fetch 129 = .ok (.aload 6, 2) := by decide +kernel
theorem dX11_fetch_131 : decode cX11_fetch 131 = .ok (.dup, 1) := by decide +kernel
theorem dX11_fetch_132 : decode cX11_fetch 132 = .ok (.getfield 314, 3) := by decide +kernel
theorem dX11_fetch_135 : decode cX11_fetch 135 = .ok (.iconst 1, 1) := by decide +kernel
theorem dX11_fetch_136 : decode cX11_fetch 136 = .ok (.iadd, 1) := by decide +kernel
theorem dX11_fetch_137 : decode cX11_fetch 137 = .ok (.putfield 314, 3) := by decide +kernel
theorem dX11_fetch_140 : decode cX11_fetch 140 = .ok (.aload_n 0, 1) := by decide +kernel
theorem dX11_fetch_141 : decode cX11_fetch 141 = .ok (.getfield 10, 3) := by decide +kernel
theorem dX11_fetch_144 : decode cX11_fetch 144 = .ok (.aload 5, 2) := by decide +kernel
theorem dX11_fetch_146 : decode cX11_fetch 146 = .ok (.aload 8, 2) := by decide +kernel
theorem dX11_fetch_148 : decode cX11_fetch 148 = .ok (.invokevirtual 264, 3) := by decide +kernel
theorem dX11_fetch_151 : decode cX11_fetch 151 = .ok (.aload_n 0, 1) := by decide +kernel
theorem dX11_fetch_152 : decode cX11_fetch 152 = .ok (.aload 5, 2) := by decide +kernel
theorem dX11_fetch_154 : decode cX11_fetch 154 = .ok (.iload 7, 2) := by decide +kernel
theorem dX11_fetch_156 : decode cX11_fetch 156 = .ok (.invokevirtual 257, 3) := by decide +kernel
theorem dX11_fetch_159 : decode cX11_fetch 159 = .ok (.ireturn, 1) := by decide +kernel
def M_X11_fetch : y_M := (yX11_fetch, cX11_fetch, 9, (Option.some Jvm.ClassFile.FieldType.int))
theorem n_X11_fetch : y_N0 M_X11_fetch 4 := ⟨(c_5 5 (by decide +kernel) rfl), (c_1 1 (by decide +kernel) rfl), ⟨by decide +kernel, by decide +kernel⟩, by decide +kernel⟩
theorem l_BoxYard_306 : y_lnk "BoxYard" 306 M_X10_meetsFetching := Or.inl (c_5 6 (by decide +kernel) rfl)
theorem i_X10_meetsFetching : Cond.instanceMethod (M_X10_meetsFetching).1 ∈ y_tb := (c_5 7 (by decide +kernel) rfl)
theorem e_X10_meetsFetching : Cond.selects (M_X10_meetsFetching).1.cls (M_X10_meetsFetching).1 (M_X10_meetsFetching).1 ∈ y_tb := (c_5 8 (by decide +kernel) rfl)
theorem l_BoxYard_310 : y_lnk "BoxYard" 310 M_X7_topAt := Or.inl (c_5 15 (by decide +kernel) rfl)
theorem l_BoxYard_311 : y_lnk "BoxYard" 311 M_X7_isLaterPort := Or.inl (c_5 16 (by decide +kernel) rfl)
theorem i_X7_isLaterPort : Cond.instanceMethod (M_X7_isLaterPort).1 ∈ y_tb := (c_5 17 (by decide +kernel) rfl)
theorem e_X7_isLaterPort : Cond.selects (M_X7_isLaterPort).1.cls (M_X7_isLaterPort).1 (M_X7_isLaterPort).1 ∈ y_tb := (c_5 18 (by decide +kernel) rfl)
theorem Fp_BoxYard_314 {nm : String} : y_Fp "BoxYard" nm 314 7 13 := ⟨_, _, _, rfl, by decide, Or.inl ⟨rfl, Or.inr ⟨"BoxYard", (c_5 67 (by decide +kernel) rfl)⟩⟩⟩
set_option maxRecDepth 100000 in
def f_X11_fetch (p0 : Nat) (p1 : Int32) (p2 : Int32) (p3 : Int32) (p4 : Int32) (c0 s0 : Nat) (h : y_H) : Option ((Int32 × Nat × Nat) × y_H) :=
  if y_K h p0 = 12 then
  if y_K h (y_P h p0 0) = 11 then
  if y_K h (y_P h (y_P h p0 0) 12) = 10 then
  y_cl (f_X9_begin (y_P h (y_P h p0 0) 12) h) (fun _ h1 =>
  if y_K h1 p0 = 12 then
  if y_K h1 (y_P h1 p0 0) = 11 then
  y_cl (f_X10_craneAt (y_P h1 p0 0) p1 h1) (fun r3 h4 =>
  if y_K h4 p0 = 12 then
  if y_K h4 (y_P h4 p0 0) = 11 then
  y_cl (f_X10_shipAt (y_P h4 p0 0) p2 h4) (fun r6 h7 =>
  y_jn (fun (v0_40 : Nat) (c40 : Nat) (s40 : Nat) (h9 : y_H) => (
      if y_K h9 v0_40 = 12 then
      y_cl (f_X11_refused v0_40 (-1 : Int32) h9) (fun r10 h11 =>
      some ((r10, c40, s40), h11))
      else none : Option ((Int32 × Nat × Nat) × y_H))) (fun j40 =>
  if r3 = 0 then
    j40 p0 c0 s0 h7
  else
    if r6 = 0 then
      j40 p0 c0 s0 h7
    else
      if y_K h7 r3 = 4 then
      if (y_P h7 r3 4) = 0 then
        if y_K h7 r3 = 4 then
        y_bd (s_B h7 r3 7 false) (fun h14 =>
        if y_K h14 p0 = 12 then
        if y_K h14 (y_P h14 p0 0) = 11 then
        y_cl (f_X10_meetsFetching (y_P h14 p0 0) r3 r6 p3 p4 h14) (fun r17 h18 =>
        if y_K h18 r6 = 8 then
        y_cl (f_X7_topAt r6 p3 p4 h18) (fun r20 h21 =>
        y_jn (fun (v0_151 : Nat) (v5_151 : Nat) (v7_151 : Int32) (c151 : Nat) (s151 : Nat) (h23 : y_H) => (
            if y_K h23 v0_151 = 12 then
            y_cl (f_X11_ended v0_151 v5_151 v7_151 h23) (fun r24 h25 =>
            some ((r24, c151, s151), h25))
            else none : Option ((Int32 × Nat × Nat) × y_H))) (fun j151 =>
        if r17 = 0 then
          if r20 = 0 then
            j151 p0 r3 r17 c0 s0 h21
          else
            if y_K h21 p0 = 12 then
            if y_K h21 (y_P h21 p0 1) = 6 then
            y_cl (f_X5_note (y_P h21 p0 1) r20 r3 r6 c0 s0 h21) (fun r30 h28 =>
            if y_K h28 r20 = 3 then
            if y_K h28 r6 = 8 then
            y_cl (f_X7_isLaterPort r6 (y_I h28 r20 5) h28) (fun r31 h32 =>
            y_jn (fun (v0_140 : Nat) (v5_140 : Nat) (v7_140 : Int32) (v8_140 : Nat) (c140 : Nat) (s140 : Nat) (h34 : y_H) => (
                if y_K h34 v0_140 = 12 then
                if y_K h34 (y_P h34 v0_140 0) = 11 then
                y_cl (f_X10_hold (y_P h34 v0_140 0) v5_140 v8_140 h34) (fun _ h35 =>
                j151 v0_140 v5_140 v7_140 c140 s140 h35)
                else none
                else none : Option ((Int32 × Nat × Nat) × y_H))) (fun j140 =>
            if r31 = true then
              if y_K h32 r6 = 8 then
              if y_K h32 r6 = 8 then
              y_bd (s_I h32 r6 13 ((y_I h32 r6 13) + 1)) (fun h39 =>
              j140 p0 r3 r17 r20 r30.2.1 r30.2.2 h39)
              else none
              else none
            else
              j140 p0 r3 r17 r20 r30.2.1 r30.2.2 h32))
            else none
            else none)
            else none
            else none
        else
          j151 p0 r3 r17 c0 s0 h21))
        else none)
        else none
        else none)
        else none
      else
        if y_K h7 p0 = 12 then
        y_cl (f_X11_refused p0 (-3 : Int32) h7) (fun r53 h54 =>
        some ((r53, c0, s0), h54))
        else none
      else none))
  else none
  else none)
  else none
  else none)
  else none
  else none
  else none
abbrev FF_X11_fetch : Nat := 5
abbrev LL_X11_fetch : Nat := 114
set_option maxRecDepth 100000 in
set_option maxHeartbeats 4000000 in
theorem k_X11_fetch {l : Launch} {G : y_G} {p0 : Nat} {p1 : Int32} {p2 : Int32} {p3 : Int32} {p4 : Int32} {c0 s0 cz sz : Nat} {h hz : y_H} {rz : Int32} (hf : f_X11_fetch p0 p1 p2 p3 p4 c0 s0 h = some ((rz, cz, sz), hz)) : (c0 ≤ cz ∧ s0 ≤ sz) ∧ y_S l G M_X11_fetch (y_Rm FF_X11_fetch LL_X11_fetch c0 s0 cz sz) [y_p p0, .int p1, .int p2, .int p3, .int p4] h (some (.int rz)) hz := by
  refine y_Ustart (lv := [(0, y_p p0), (1, .int p1), (2, .int p2), (3, .int p3), (4, .int p4)]) (by decide) (by simp [lg_sl, y_p_cat, y_ci, y_cj, M_X11_fetch]) (by simp [lv_args, y_p_cat, y_ci, y_cj]) (fun z ad0 => ?_)
  unfold f_X11_fetch at hf
  refine y_lf (fun _ _ _ _ k => y_aload_n (x := p0) (pc2 := 1) rfl dX11_fetch_0 rfl k) ?_
  obtain ⟨g67, hf⟩ := y_g hf
  refine y_lf (fun _ _ _ _ k => y_getP (pc2 := 4) rfl dX11_fetch_1 F_BoxYard_10 (by decide) rfl g67 k) ?_
  obtain ⟨g66, hf⟩ := y_g hf
  refine y_lf (fun _ _ _ _ k => y_getP (pc2 := 7) rfl dX11_fetch_4 F_BoxYard_77 (by decide) rfl g66 k) ?_
  obtain ⟨g65, hf⟩ := y_g hf
  obtain ⟨r_, h1, c2, hf⟩ := y_clE hf
  refine y_UcV0 (As := []) (rm := rm_X9_begin) (pc2 := 10) rfl dX11_fetch_7 n_X9_begin l_BoxYard_81 i_X9_begin e_X9_begin (ci := 9) rfl rfl (by decide) g65 rfl rfl (by decide) (by decide) rfl rfl (k_X9_begin c2) ?_
  refine y_lf (fun _ _ _ _ k => y_aload_n (x := p0) (pc2 := 11) rfl dX11_fetch_10 rfl k) ?_
  obtain ⟨g64, hf⟩ := y_g hf
  refine y_lf (fun _ _ _ _ k => y_getP (pc2 := 14) rfl dX11_fetch_11 F_BoxYard_10 (by decide) rfl g64 k) ?_
  refine y_lf (fun _ _ _ _ k => y_iload_n (pc2 := 15) rfl dX11_fetch_14 rfl k) ?_
  obtain ⟨g63, hf⟩ := y_g hf
  obtain ⟨r3, h4, c5, hf⟩ := y_clE hf
  refine y_UcV0 (As := [.int p1]) (rm := rm_X10_craneAt) (pc2 := 18) rfl dX11_fetch_15 n_X10_craneAt l_BoxYard_209 i_X10_craneAt e_X10_craneAt (ci := 10) rfl rfl (by decide) g63 rfl rfl (by decide) (by decide) rfl rfl (k_X10_craneAt c5) ?_
  refine y_lf (fun _ _ _ _ k => y_astore (lv' := [(5, y_p r3), (0, y_p p0), (1, .int p1), (2, .int p2), (3, .int p3), (4, .int p4)]) (pc2 := 20) rfl dX11_fetch_18 (by decide) rfl k) ?_
  refine y_lf (fun _ _ _ _ k => y_aload_n (x := p0) (pc2 := 21) rfl dX11_fetch_20 rfl k) ?_
  obtain ⟨g62, hf⟩ := y_g hf
  refine y_lf (fun _ _ _ _ k => y_getP (pc2 := 24) rfl dX11_fetch_21 F_BoxYard_10 (by decide) rfl g62 k) ?_
  refine y_lf (fun _ _ _ _ k => y_iload_n (pc2 := 25) rfl dX11_fetch_24 rfl k) ?_
  obtain ⟨g61, hf⟩ := y_g hf
  obtain ⟨r6, h7, c8, hf⟩ := y_clE hf
  refine y_UcV0 (As := [.int p2]) (rm := rm_X10_shipAt) (pc2 := 28) rfl dX11_fetch_25 n_X10_shipAt l_BoxYard_287 i_X10_shipAt e_X10_shipAt (ci := 10) rfl rfl (by decide) g61 rfl rfl (by decide) (by decide) rfl rfl (k_X10_shipAt c8) ?_
  refine y_lf (fun _ _ _ _ k => y_astore (lv' := [(6, y_p r6), (5, y_p r3), (0, y_p p0), (1, .int p1), (2, .int p2), (3, .int p3), (4, .int p4)]) (pc2 := 30) rfl dX11_fetch_28 (by decide) (by show y_st1 _ 6 _ = _; simp [y_st1, y_p_cat, y_ci, y_cj]) k) ?_
  refine y_lf (fun _ _ _ _ k => y_aload (x := r3) (pc2 := 32) rfl dX11_fetch_30 rfl k) ?_
  refine y_jnE hf (fun j => ∀ (v0_40 : Nat) (c40 : Nat) (s40 : Nat) (h9 : y_H), j v0_40 c40 s40 h9 = some ((rz, cz, sz), hz) → y_U l G z FF_X11_fetch LL_X11_fetch (cz - c0) (sz - s0) c0 s0 cz sz M_X11_fetch ad0 h (some (.int rz)) hz 40 [(0, y_p v0_40)] [] h9 c40 s40) (fun v0_40 c40 s40 h9 hf => ?_) (fun j40 hj40 hf => ?_)
  · refine y_lf (fun _ _ _ _ k => y_aload_n (x := v0_40) (pc2 := 41) rfl dX11_fetch_40 rfl k) ?_
    refine y_lf (fun _ _ _ _ k => y_iconst (v := (-1 : Int32)) (pc2 := 42) rfl dX11_fetch_41 (by decide) k) ?_
    obtain ⟨g13, hf⟩ := y_g hf
    obtain ⟨r10, h11, c12, hf⟩ := y_clE hf
    refine y_UcV0 (As := [.int (-1 : Int32)]) (rm := rm_X11_refused) (pc2 := 45) rfl dX11_fetch_42 n_X11_refused l_BoxYard_246 i_X11_refused e_X11_refused (ci := 11) rfl rfl (by decide) g13 rfl rfl (by decide) (by decide) rfl rfl (k_X11_refused c12) ?_
    exact y_iretU hf dX11_fetch_45 rfl
  · refine y_lf2 (Classical.em _) (fun _ _ k1 k2 => y_ifnull (tgt := 40) (pc2 := 35) rfl dX11_fetch_32 (by decide) k1 k2) (fun c60 => ?_) (fun c60 => ?_)
    · replace hf := y_it c60 hf
      exact y_lf (fun _ _ _ _ k => y_pk [2] rfl k) (hj40 _ _ _ _ hf)
    · replace hf := y_ie c60 hf
      refine y_lf (fun _ _ _ _ k => y_aload (x := r6) (pc2 := 37) rfl dX11_fetch_35 rfl k) ?_
      refine y_lf2 (Classical.em _).symm (fun _ _ k1 k2 => y_ifnonnull (tgt := 46) (pc2 := 40) rfl dX11_fetch_37 (by decide) k1 k2) (fun c59 => ?_) (fun c59 => ?_)
      · replace hf := y_ie c59 hf
        refine y_lf (fun _ _ _ _ k => y_aload (x := r3) (pc2 := 48) rfl dX11_fetch_46 rfl k) ?_
        obtain ⟨g58, hf⟩ := y_g hf
        refine y_lf (fun _ _ _ _ k => y_getP (pc2 := 51) rfl dX11_fetch_48 F_BoxYard_226 (by decide) rfl g58 k) ?_
        refine y_lf2 (Classical.em _) (fun _ _ k1 k2 => y_ifnull (tgt := 61) (pc2 := 54) rfl dX11_fetch_51 (by decide) k1 k2) (fun c57 => ?_) (fun c57 => ?_)
        · replace hf := y_it c57 hf
          refine y_lf (fun _ _ _ _ k => y_aload (x := r3) (pc2 := 63) rfl dX11_fetch_61 rfl k) ?_
          refine y_lf (fun _ _ _ _ k => y_iconst (v := 0) (pc2 := 64) rfl dX11_fetch_63 (by decide) k) ?_
          obtain ⟨g16, hf⟩ := y_g hf
          obtain ⟨h14, e15, hf⟩ := y_bdE hf
          refine y_lf (fun _ _ _ _ k => y_putZ (x := false) (pc2 := 67) rfl dX11_fetch_64 Fp_BoxYard_236 (by decide) rfl g16 e15 k) ?_
          refine y_lf (fun _ _ _ _ k => y_aload_n (x := p0) (pc2 := 68) rfl dX11_fetch_67 rfl k) ?_
          obtain ⟨g52, hf⟩ := y_g hf
          refine y_lf (fun _ _ _ _ k => y_getP (pc2 := 71) rfl dX11_fetch_68 F_BoxYard_10 (by decide) rfl g52 k) ?_
          refine y_lf (fun _ _ _ _ k => y_aload (x := r3) (pc2 := 73) rfl dX11_fetch_71 rfl k) ?_
          refine y_lf (fun _ _ _ _ k => y_aload (x := r6) (pc2 := 75) rfl dX11_fetch_73 rfl k) ?_
          refine y_lf (fun _ _ _ _ k => y_iload_n (pc2 := 76) rfl dX11_fetch_75 rfl k) ?_
          refine y_lf (fun _ _ _ _ k => y_iload (pc2 := 78) rfl dX11_fetch_76 rfl k) ?_
          obtain ⟨g51, hf⟩ := y_g hf
          obtain ⟨r17, h18, c19, hf⟩ := y_clE hf
          refine y_UcV0 (As := [y_p r3, y_p r6, .int p3, .int p4]) (rm := rm_X10_meetsFetching) (pc2 := 81) rfl dX11_fetch_78 n_X10_meetsFetching l_BoxYard_306 i_X10_meetsFetching e_X10_meetsFetching (ci := 10) rfl rfl (by decide) g51 rfl rfl (by decide) (by decide) rfl rfl (k_X10_meetsFetching c19) ?_
          refine y_lf (fun _ _ _ _ k => y_istore (lv' := [(7, .int r17), (6, y_p r6), (5, y_p r3), (0, y_p p0), (1, .int p1), (2, .int p2), (3, .int p3), (4, .int p4)]) (pc2 := 83) rfl dX11_fetch_81 (by decide) (by show y_st1 _ 7 _ = _; simp [y_st1, y_p_cat, y_ci, y_cj]) k) ?_
          refine y_lf (fun _ _ _ _ k => y_aload (x := r6) (pc2 := 85) rfl dX11_fetch_83 rfl k) ?_
          refine y_lf (fun _ _ _ _ k => y_iload_n (pc2 := 86) rfl dX11_fetch_85 rfl k) ?_
          refine y_lf (fun _ _ _ _ k => y_iload (pc2 := 88) rfl dX11_fetch_86 rfl k) ?_
          obtain ⟨g50, hf⟩ := y_g hf
          obtain ⟨r20, h21, c22, hf⟩ := y_clE hf
          refine y_UcV0 (As := [.int p3, .int p4]) (rm := rm_X7_topAt) (pc2 := 91) rfl dX11_fetch_88 n_X7_topAt l_BoxYard_310 i_X7_topAt e_X7_topAt (ci := 7) rfl rfl (by decide) g50 rfl rfl (by decide) (by decide) rfl rfl (k_X7_topAt c22) ?_
          refine y_lf (fun _ _ _ _ k => y_astore (lv' := [(8, y_p r20), (7, .int r17), (6, y_p r6), (5, y_p r3), (0, y_p p0), (1, .int p1), (2, .int p2), (3, .int p3), (4, .int p4)]) (pc2 := 93) rfl dX11_fetch_91 (by decide) rfl k) ?_
          refine y_lf (fun _ _ _ _ k => y_iload (pc2 := 95) rfl dX11_fetch_93 rfl k) ?_
          refine y_jnE hf (fun j => ∀ (v0_151 : Nat) (v5_151 : Nat) (v7_151 : Int32) (c151 : Nat) (s151 : Nat) (h23 : y_H), j v0_151 v5_151 v7_151 c151 s151 h23 = some ((rz, cz, sz), hz) → y_U l G z FF_X11_fetch LL_X11_fetch (cz - c0) (sz - s0) c0 s0 cz sz M_X11_fetch ad0 h (some (.int rz)) hz 151 [(0, y_p v0_151), (5, y_p v5_151), (7, .int v7_151)] [] h23 c151 s151) (fun v0_151 v5_151 v7_151 c151 s151 h23 hf => ?_) (fun j151 hj151 hf => ?_)
          · refine y_lf (fun _ _ _ _ k => y_aload_n (x := v0_151) (pc2 := 152) rfl dX11_fetch_151 rfl k) ?_
            refine y_lf (fun _ _ _ _ k => y_aload (x := v5_151) (pc2 := 154) rfl dX11_fetch_152 rfl k) ?_
            refine y_lf (fun _ _ _ _ k => y_iload (pc2 := 156) rfl dX11_fetch_154 rfl k) ?_
            obtain ⟨g27, hf⟩ := y_g hf
            obtain ⟨r24, h25, c26, hf⟩ := y_clE hf
            refine y_UcV0 (As := [y_p v5_151, .int v7_151]) (rm := rm_X11_ended) (pc2 := 159) rfl dX11_fetch_156 n_X11_ended l_BoxYard_257 i_X11_ended e_X11_ended (ci := 11) rfl rfl (by decide) g27 rfl rfl (by decide) (by decide) rfl rfl (k_X11_ended c26) ?_
            exact y_iretU hf dX11_fetch_159 rfl
          · refine y_lf2 (Classical.em _).symm (fun _ _ k1 k2 => y_if_ne (tgt := 151) (pc2 := 98) rfl dX11_fetch_95 (by decide) k1 k2) (fun c49 => ?_) (fun c49 => ?_)
            · replace hf := y_ie c49 hf
              exact y_lf (fun _ _ _ _ k => y_pk [4, 3, 1] rfl k) (hj151 _ _ _ _ _ _ hf)
            · replace hf := y_it c49 hf
              refine y_lf (fun _ _ _ _ k => y_aload (x := r20) (pc2 := 100) rfl dX11_fetch_98 rfl k) ?_
              refine y_lf2 (Classical.em _) (fun _ _ k1 k2 => y_ifnull (tgt := 151) (pc2 := 103) rfl dX11_fetch_100 (by decide) k1 k2) (fun c48 => ?_) (fun c48 => ?_)
              · replace hf := y_it c48 hf
                exact y_lf (fun _ _ _ _ k => y_pk [4, 3, 1] rfl k) (hj151 _ _ _ _ _ _ hf)
              · replace hf := y_ie c48 hf
                refine y_lf (fun _ _ _ _ k => y_aload_n (x := p0) (pc2 := 104) rfl dX11_fetch_103 rfl k) ?_
                obtain ⟨g47, hf⟩ := y_g hf
                refine y_lf (fun _ _ _ _ k => y_getP (pc2 := 107) rfl dX11_fetch_104 F_BoxYard_19 (by decide) rfl g47 k) ?_
                refine y_lf (fun _ _ _ _ k => y_aload (x := r20) (pc2 := 109) rfl dX11_fetch_107 rfl k) ?_
                refine y_lf (fun _ _ _ _ k => y_aload (x := r3) (pc2 := 111) rfl dX11_fetch_109 rfl k) ?_
                refine y_lf (fun _ _ _ _ k => y_aload (x := r6) (pc2 := 113) rfl dX11_fetch_111 rfl k) ?_
                obtain ⟨g46, hf⟩ := y_g hf
                obtain ⟨r30, h28, c29, hf⟩ := y_clE hf
                refine y_UcallV (As := [y_p r20, y_p r3, y_p r6]) (pc2 := 116) rfl dX11_fetch_113 n_X5_note l_BoxYard_253 i_X5_note e_X5_note (ci := 5) rfl rfl (by decide) g46 rfl rfl (by decide) (by decide) (k_X5_note c29) ?_
                refine y_lf (fun _ _ _ _ k => y_aload (x := r6) (pc2 := 118) rfl dX11_fetch_116 rfl k) ?_
                refine y_lf (fun _ _ _ _ k => y_aload (x := r20) (pc2 := 120) rfl dX11_fetch_118 rfl k) ?_
                obtain ⟨g45, hf⟩ := y_g hf
                refine y_lf (fun _ _ _ _ k => y_getI (pc2 := 123) rfl dX11_fetch_120 F_BoxYard_140 (by decide) rfl g45 k) ?_
                obtain ⟨g44, hf⟩ := y_g hf
                obtain ⟨r31, h32, c33, hf⟩ := y_clE hf
                refine y_UcV0 (As := [.int (y_I h28 r20 5)]) (rm := rm_X7_isLaterPort) (pc2 := 126) rfl dX11_fetch_123 n_X7_isLaterPort l_BoxYard_311 i_X7_isLaterPort e_X7_isLaterPort (ci := 7) rfl rfl (by decide) g44 rfl rfl (by decide) (by decide) rfl rfl (k_X7_isLaterPort c33) ?_
                refine y_jnE hf (fun j => ∀ (v0_140 : Nat) (v5_140 : Nat) (v7_140 : Int32) (v8_140 : Nat) (c140 : Nat) (s140 : Nat) (h34 : y_H), j v0_140 v5_140 v7_140 v8_140 c140 s140 h34 = some ((rz, cz, sz), hz) → y_U l G z FF_X11_fetch LL_X11_fetch (cz - c0) (sz - s0) c0 s0 cz sz M_X11_fetch ad0 h (some (.int rz)) hz 140 [(0, y_p v0_140), (5, y_p v5_140), (7, .int v7_140), (8, y_p v8_140)] [] h34 c140 s140) (fun v0_140 v5_140 v7_140 v8_140 c140 s140 h34 hf => ?_) (fun j140 hj140 hf => ?_)
                · refine y_lf (fun _ _ _ _ k => y_aload_n (x := v0_140) (pc2 := 141) rfl dX11_fetch_140 rfl k) ?_
                  obtain ⟨g38, hf⟩ := y_g hf
                  refine y_lf (fun _ _ _ _ k => y_getP (pc2 := 144) rfl dX11_fetch_141 F_BoxYard_10 (by decide) rfl g38 k) ?_
                  refine y_lf (fun _ _ _ _ k => y_aload (x := v5_140) (pc2 := 146) rfl dX11_fetch_144 rfl k) ?_
                  refine y_lf (fun _ _ _ _ k => y_aload (x := v8_140) (pc2 := 148) rfl dX11_fetch_146 rfl k) ?_
                  obtain ⟨g37, hf⟩ := y_g hf
                  obtain ⟨r_, h35, c36, hf⟩ := y_clE hf
                  refine y_UcV0 (As := [y_p v5_140, y_p v8_140]) (rm := rm_X10_hold) (pc2 := 151) rfl dX11_fetch_148 n_X10_hold l_BoxYard_264 i_X10_hold e_X10_hold (ci := 10) rfl rfl (by decide) g37 rfl rfl (by decide) (by decide) rfl rfl (k_X10_hold c36) ?_
                  exact y_lf (fun _ _ _ _ k => y_pk [0, 1, 2] rfl k) (hj151 _ _ _ _ _ _ hf)
                · refine y_lf2 (Classical.em _).symm (fun _ _ k1 k2 => y_ifz_eq (tgt := 140) (pc2 := 129) rfl dX11_fetch_126 (by decide) k1 k2) (fun c43 => ?_) (fun c43 => ?_)
                  · replace hf := y_ie c43 hf
                    exact y_lf (fun _ _ _ _ k => y_pk [4, 3, 1, 0] rfl k) (hj140 _ _ _ _ _ _ _ hf)
                  · replace hf := y_it c43 hf
                    refine y_lf (fun _ _ _ _ k => y_aload (x := r6) (pc2 := 131) rfl dX11_fetch_129 rfl k) ?_
                    refine y_lf (fun _ _ _ _ k => y_dup (pc2 := 132) rfl dX11_fetch_131 (y_p_cat _) k) ?_
                    obtain ⟨g42, hf⟩ := y_g hf
                    refine y_lf (fun _ _ _ _ k => y_getI (pc2 := 135) rfl dX11_fetch_132 F_BoxYard_314 (by decide) rfl g42 k) ?_
                    refine y_lf (fun _ _ _ _ k => y_iconst (v := 1) (pc2 := 136) rfl dX11_fetch_135 (by decide) k) ?_
                    refine y_lf (fun _ _ _ _ k => y_iadd (pc2 := 137) rfl dX11_fetch_136 k) ?_
                    obtain ⟨g41, hf⟩ := y_g hf
                    obtain ⟨h39, e40, hf⟩ := y_bdE hf
                    refine y_lf (fun _ _ _ _ k => y_putI (x := (y_I h32 r6 13) + 1) (pc2 := 140) rfl dX11_fetch_137 Fp_BoxYard_314 (by decide) rfl g41 e40 k) ?_
                    exact y_lf (fun _ _ _ _ k => y_pk [4, 3, 1, 0] rfl k) (hj140 _ _ _ _ _ _ _ hf)
        · replace hf := y_ie c57 hf
          refine y_lf (fun _ _ _ _ k => y_aload_n (x := p0) (pc2 := 55) rfl dX11_fetch_54 rfl k) ?_
          refine y_lf (fun _ _ _ _ k => y_bipush (v := (-3 : Int32)) (pc2 := 57) rfl dX11_fetch_55 (by decide) k) ?_
          obtain ⟨g56, hf⟩ := y_g hf
          obtain ⟨r53, h54, c55, hf⟩ := y_clE hf
          refine y_UcV0 (As := [.int (-3 : Int32)]) (rm := rm_X11_refused) (pc2 := 60) rfl dX11_fetch_57 n_X11_refused l_BoxYard_246 i_X11_refused e_X11_refused (ci := 11) rfl rfl (by decide) g56 rfl rfl (by decide) (by decide) rfl rfl (k_X11_refused c55) ?_
          exact y_iretU hf dX11_fetch_60 rfl
      · replace hf := y_it c59 hf
        exact y_lf (fun _ _ _ _ k => y_pk [2] rfl k) (hj40 _ _ _ _ hf)
theorem dX11_serve_0 : decode cX11_serve 0 = .ok (.aload_n 0, 1) := by decide +kernel
theorem dX11_serve_1 : decode cX11_serve 1 = .ok (.getfield 10, 3) := by decide +kernel
theorem dX11_serve_4 : decode cX11_serve 4 = .ok (.getfield 77, 3) := by decide +kernel
theorem dX11_serve_7 : decode cX11_serve 7 = .ok (.invokevirtual 81, 3) := by decide +kernel
theorem dX11_serve_10 : decode cX11_serve 10 = .ok (.aload_n 0, 1) := by decide +kernel
theorem dX11_serve_11 : decode cX11_serve 11 = .ok (.getfield 10, 3) := by decide +kernel
theorem dX11_serve_14 : decode cX11_serve 14 = .ok (.iload_n 1, 1) := by decide +kernel
theorem dX11_serve_15 : decode cX11_serve 15 = .ok (.invokevirtual 287, 3) := by decide +kernel
theorem dX11_serve_18 : decode cX11_serve 18 = .ok (.astore_n 2, 1) := by decide +kernel
theorem dX11_serve_19 : decode cX11_serve 19 = .ok (.aload_n 2, 1) := by decide +kernel
theorem dX11_serve_20 : decode cX11_serve 20 = .ok (.ifnonnull 9, 3) := by decide +kernel
theorem dX11_serve_23 : decode cX11_serve 23 = .ok (.aload_n 0, 1) := by decide +kernel
theorem dX11_serve_24 : decode cX11_serve 24 = .ok (.iconst (-1), 1) := by decide +kernel
theorem dX11_serve_25 : decode cX11_serve 25 = .ok (.invokevirtual 246, 3) := by decide +kernel
theorem dX11_serve_28 : decode cX11_serve 28 = .ok (.ireturn, 1) := by decide +kernel
theorem dX11_serve_29 : decode cX11_serve 29 = .ok (.aload_n 2, 1) := by decide +kernel
theorem dX11_serve_30 : decode cX11_serve 30 = .ok (.getfield 317, 3) := by decide +kernel
theorem dX11_serve_33 : decode cX11_serve 33 = .ok (.iconst 1, 1) := by decide +kernel
theorem dX11_serve_34 : decode cX11_serve 34 = .ok (.iadd, 1) := by decide +kernel
theorem dX11_serve_35 : decode cX11_serve 35 = .ok (.aload_n 2, 1) := by decide +kernel
theorem dX11_serve_36 : decode cX11_serve 36 = .ok (.getfield 320, 3) := by decide +kernel
theorem dX11_serve_39 : decode cX11_serve 39 = .ok (.if_icmp .lt 10, 3) := by decide +kernel
theorem dX11_serve_42 : decode cX11_serve 42 = .ok (.aload_n 0, 1) := by decide +kernel
theorem dX11_serve_43 : decode cX11_serve 43 = .ok (.bipush (-3), 2) := by decide +kernel
theorem dX11_serve_45 : decode cX11_serve 45 = .ok (.invokevirtual 246, 3) := by decide +kernel
theorem dX11_serve_48 : decode cX11_serve 48 = .ok (.ireturn, 1) := by decide +kernel
theorem dX11_serve_49 : decode cX11_serve 49 = .ok (.aload_n 0, 1) := by decide +kernel
theorem dX11_serve_50 : decode cX11_serve 50 = .ok (.getfield 19, 3) := by decide +kernel
theorem dX11_serve_53 : decode cX11_serve 53 = .ok (.aconst_null, 1) := by decide +kernel
theorem dX11_serve_54 : decode cX11_serve 54 = .ok (.aconst_null, 1) := by decide +kernel
theorem dX11_serve_55 : decode cX11_serve 55 = .ok (.aload_n 2, 1) := by decide +kernel
theorem dX11_serve_56 : decode cX11_serve 56 = .ok (.invokevirtual 253, 3) := by decide +kernel
theorem dX11_serve_59 : decode cX11_serve 59 = .ok (.aload_n 2, 1) := by decide +kernel
theorem dX11_serve_60 : decode cX11_serve 60 = .ok (.dup, 1) := by decide +kernel
theorem dX11_serve_61 : decode cX11_serve 61 = .ok (.getfield 317, 3) := by decide +kernel
theorem dX11_serve_64 : decode cX11_serve 64 = .ok (.iconst 1, 1) := by decide +kernel
theorem dX11_serve_65 : decode cX11_serve 65 = .ok (.iadd, 1) := by decide +kernel
theorem dX11_serve_66 : decode cX11_serve 66 = .ok (.putfield 317, 3) := by decide +kernel
theorem dX11_serve_69 : decode cX11_serve 69 = .ok (.aload_n 0, 1) := by decide +kernel
theorem dX11_serve_70 : decode cX11_serve 70 = .ok (.iconst 0, 1) := by decide +kernel
theorem dX11_serve_71 : decode cX11_serve 71 = .ok (.putfield 52, 3) := by decide +kernel
theorem dX11_serve_74 : decode cX11_serve 74 = .ok (.aload_n 0, 1) := by decide +kernel
theorem dX11_serve_75 : decode cX11_serve 75 = .ok (.getfield 19, 3) := by decide +kernel
theorem dX11_serve_78 : decode cX11_serve 78 = .ok (.getfield 323, 3) := by decide +kernel
theorem dX11_serve_81 : decode cX11_serve 81 = .ok (.ireturn, 1) := by decide +kernel
def M_X11_serve : y_M := (yX11_serve, cX11_serve, 3, (Option.some Jvm.ClassFile.FieldType.int))
theorem n_X11_serve : y_N0 M_X11_serve 1 := ⟨(c_5 27 (by decide +kernel) rfl), (c_1 1 (by decide +kernel) rfl), ⟨by decide +kernel, by decide +kernel⟩, by decide +kernel⟩
theorem F_BoxYard_317 : y_F "BoxYard" 317 7 12 := ⟨_, _, _, rfl, by decide, Or.inr ⟨"BoxYard", (c_5 63 (by decide +kernel) rfl)⟩⟩
theorem F_BoxYard_320 : y_F "BoxYard" 320 7 7 := ⟨_, _, _, rfl, by decide, Or.inr ⟨"BoxYard", (c_5 54 (by decide +kernel) rfl)⟩⟩
theorem Fp_BoxYard_317 {nm : String} : y_Fp "BoxYard" nm 317 7 12 := ⟨_, _, _, rfl, by decide, Or.inl ⟨rfl, Or.inr ⟨"BoxYard", (c_5 63 (by decide +kernel) rfl)⟩⟩⟩
set_option maxRecDepth 100000 in
def f_X11_serve (p0 : Nat) (p1 : Int32) (c0 s0 : Nat) (h : y_H) : Option ((Int32 × Nat × Nat) × y_H) :=
  if y_K h p0 = 12 then
  if y_K h (y_P h p0 0) = 11 then
  if y_K h (y_P h (y_P h p0 0) 12) = 10 then
  y_cl (f_X9_begin (y_P h (y_P h p0 0) 12) h) (fun _ h1 =>
  if y_K h1 p0 = 12 then
  if y_K h1 (y_P h1 p0 0) = 11 then
  y_cl (f_X10_shipAt (y_P h1 p0 0) p1 h1) (fun r3 h4 =>
  if r3 = 0 then
    if y_K h4 p0 = 12 then
    y_cl (f_X11_refused p0 (-1 : Int32) h4) (fun r27 h28 =>
    some ((r27, c0, s0), h28))
    else none
  else
    if y_K h4 r3 = 8 then
    if y_K h4 r3 = 8 then
    if ((y_I h4 r3 12) + 1) < (y_I h4 r3 7) then
      if y_K h4 p0 = 12 then
      if y_K h4 (y_P h4 p0 1) = 6 then
      y_cl (f_X5_note (y_P h4 p0 1) 0 0 r3 c0 s0 h4) (fun r8 h6 =>
      if y_K h6 r3 = 8 then
      if y_K h6 r3 = 8 then
      y_bd (s_I h6 r3 12 ((y_I h6 r3 12) + 1)) (fun h9 =>
      if y_K h9 p0 = 12 then
      y_bd (s_I h9 p0 6 0) (fun h12 =>
      if y_K h12 p0 = 12 then
      if y_K h12 (y_P h12 p0 1) = 6 then
      some ((y_I h12 (y_P h12 p0 1) 4, r8.2.1, r8.2.2), h12)
      else none
      else none)
      else none)
      else none
      else none)
      else none
      else none
    else
      if y_K h4 p0 = 12 then
      y_cl (f_X11_refused p0 (-3 : Int32) h4) (fun r20 h21 =>
      some ((r20, c0, s0), h21))
      else none
    else none
    else none)
  else none
  else none)
  else none
  else none
  else none
abbrev FF_X11_serve : Nat := 3
abbrev LL_X11_serve : Nat := 69
set_option maxRecDepth 100000 in
set_option maxHeartbeats 4000000 in
theorem k_X11_serve {l : Launch} {G : y_G} {p0 : Nat} {p1 : Int32} {c0 s0 cz sz : Nat} {h hz : y_H} {rz : Int32} (hf : f_X11_serve p0 p1 c0 s0 h = some ((rz, cz, sz), hz)) : (c0 ≤ cz ∧ s0 ≤ sz) ∧ y_S l G M_X11_serve (y_Rm FF_X11_serve LL_X11_serve c0 s0 cz sz) [y_p p0, .int p1] h (some (.int rz)) hz := by
  refine y_Ustart (lv := [(0, y_p p0), (1, .int p1)]) (by decide) (by simp [lg_sl, y_p_cat, y_ci, y_cj, M_X11_serve]) (by simp [lv_args, y_p_cat, y_ci, y_cj]) (fun z ad0 => ?_)
  unfold f_X11_serve at hf
  refine y_lf (fun _ _ _ _ k => y_aload_n (x := p0) (pc2 := 1) rfl dX11_serve_0 rfl k) ?_
  obtain ⟨g36, hf⟩ := y_g hf
  refine y_lf (fun _ _ _ _ k => y_getP (pc2 := 4) rfl dX11_serve_1 F_BoxYard_10 (by decide) rfl g36 k) ?_
  obtain ⟨g35, hf⟩ := y_g hf
  refine y_lf (fun _ _ _ _ k => y_getP (pc2 := 7) rfl dX11_serve_4 F_BoxYard_77 (by decide) rfl g35 k) ?_
  obtain ⟨g34, hf⟩ := y_g hf
  obtain ⟨r_, h1, c2, hf⟩ := y_clE hf
  refine y_UcV0 (As := []) (rm := rm_X9_begin) (pc2 := 10) rfl dX11_serve_7 n_X9_begin l_BoxYard_81 i_X9_begin e_X9_begin (ci := 9) rfl rfl (by decide) g34 rfl rfl (by decide) (by decide) rfl rfl (k_X9_begin c2) ?_
  refine y_lf (fun _ _ _ _ k => y_aload_n (x := p0) (pc2 := 11) rfl dX11_serve_10 rfl k) ?_
  obtain ⟨g33, hf⟩ := y_g hf
  refine y_lf (fun _ _ _ _ k => y_getP (pc2 := 14) rfl dX11_serve_11 F_BoxYard_10 (by decide) rfl g33 k) ?_
  refine y_lf (fun _ _ _ _ k => y_iload_n (pc2 := 15) rfl dX11_serve_14 rfl k) ?_
  obtain ⟨g32, hf⟩ := y_g hf
  obtain ⟨r3, h4, c5, hf⟩ := y_clE hf
  refine y_UcV0 (As := [.int p1]) (rm := rm_X10_shipAt) (pc2 := 18) rfl dX11_serve_15 n_X10_shipAt l_BoxYard_287 i_X10_shipAt e_X10_shipAt (ci := 10) rfl rfl (by decide) g32 rfl rfl (by decide) (by decide) rfl rfl (k_X10_shipAt c5) ?_
  refine y_lf (fun _ _ _ _ k => y_astore_n (lv' := [(2, y_p r3), (0, y_p p0), (1, .int p1)]) (pc2 := 19) rfl dX11_serve_18 (by decide) rfl k) ?_
  refine y_lf (fun _ _ _ _ k => y_aload_n (x := r3) (pc2 := 20) rfl dX11_serve_19 rfl k) ?_
  refine y_lf2 (Classical.em _).symm (fun _ _ k1 k2 => y_ifnonnull (tgt := 29) (pc2 := 23) rfl dX11_serve_20 (by decide) k1 k2) (fun c31 => ?_) (fun c31 => ?_)
  · replace hf := y_ie c31 hf
    refine y_lf (fun _ _ _ _ k => y_aload_n (x := r3) (pc2 := 30) rfl dX11_serve_29 rfl k) ?_
    obtain ⟨g26, hf⟩ := y_g hf
    refine y_lf (fun _ _ _ _ k => y_getI (pc2 := 33) rfl dX11_serve_30 F_BoxYard_317 (by decide) rfl g26 k) ?_
    refine y_lf (fun _ _ _ _ k => y_iconst (v := 1) (pc2 := 34) rfl dX11_serve_33 (by decide) k) ?_
    refine y_lf (fun _ _ _ _ k => y_iadd (pc2 := 35) rfl dX11_serve_34 k) ?_
    refine y_lf (fun _ _ _ _ k => y_aload_n (x := r3) (pc2 := 36) rfl dX11_serve_35 rfl k) ?_
    obtain ⟨g25, hf⟩ := y_g hf
    refine y_lf (fun _ _ _ _ k => y_getI (pc2 := 39) rfl dX11_serve_36 F_BoxYard_320 (by decide) rfl g25 k) ?_
    refine y_lf2 (Classical.em _) (fun _ _ k1 k2 => y_icmp_lt (tgt := 49) (pc2 := 42) rfl dX11_serve_39 (by decide) k1 k2) (fun c24 => ?_) (fun c24 => ?_)
    · replace hf := y_it c24 hf
      refine y_lf (fun _ _ _ _ k => y_aload_n (x := p0) (pc2 := 50) rfl dX11_serve_49 rfl k) ?_
      obtain ⟨g19, hf⟩ := y_g hf
      refine y_lf (fun _ _ _ _ k => y_getP (pc2 := 53) rfl dX11_serve_50 F_BoxYard_19 (by decide) rfl g19 k) ?_
      refine y_lf (fun _ _ _ _ k => y_null (pc2 := 54) rfl dX11_serve_53 k) ?_
      refine y_lf (fun _ _ _ _ k => y_null (pc2 := 55) rfl dX11_serve_54 k) ?_
      refine y_lf (fun _ _ _ _ k => y_aload_n (x := r3) (pc2 := 56) rfl dX11_serve_55 rfl k) ?_
      obtain ⟨g18, hf⟩ := y_g hf
      obtain ⟨r8, h6, c7, hf⟩ := y_clE hf
      refine y_UcallV (As := [y_p 0, y_p 0, y_p r3]) (pc2 := 59) rfl dX11_serve_56 n_X5_note l_BoxYard_253 i_X5_note e_X5_note (ci := 5) rfl rfl (by decide) g18 rfl rfl (by decide) (by decide) (k_X5_note c7) ?_
      refine y_lf (fun _ _ _ _ k => y_aload_n (x := r3) (pc2 := 60) rfl dX11_serve_59 rfl k) ?_
      refine y_lf (fun _ _ _ _ k => y_dup (pc2 := 61) rfl dX11_serve_60 (y_p_cat _) k) ?_
      obtain ⟨g17, hf⟩ := y_g hf
      refine y_lf (fun _ _ _ _ k => y_getI (pc2 := 64) rfl dX11_serve_61 F_BoxYard_317 (by decide) rfl g17 k) ?_
      refine y_lf (fun _ _ _ _ k => y_iconst (v := 1) (pc2 := 65) rfl dX11_serve_64 (by decide) k) ?_
      refine y_lf (fun _ _ _ _ k => y_iadd (pc2 := 66) rfl dX11_serve_65 k) ?_
      obtain ⟨g11, hf⟩ := y_g hf
      obtain ⟨h9, e10, hf⟩ := y_bdE hf
      refine y_lf (fun _ _ _ _ k => y_putI (x := (y_I h6 r3 12) + 1) (pc2 := 69) rfl dX11_serve_66 Fp_BoxYard_317 (by decide) rfl g11 e10 k) ?_
      refine y_lf (fun _ _ _ _ k => y_aload_n (x := p0) (pc2 := 70) rfl dX11_serve_69 rfl k) ?_
      refine y_lf (fun _ _ _ _ k => y_iconst (v := 0) (pc2 := 71) rfl dX11_serve_70 (by decide) k) ?_
      obtain ⟨g14, hf⟩ := y_g hf
      obtain ⟨h12, e13, hf⟩ := y_bdE hf
      refine y_lf (fun _ _ _ _ k => y_putI (x := 0) (pc2 := 74) rfl dX11_serve_71 Fp_BoxYard_52 (by decide) rfl g14 e13 k) ?_
      refine y_lf (fun _ _ _ _ k => y_aload_n (x := p0) (pc2 := 75) rfl dX11_serve_74 rfl k) ?_
      obtain ⟨g16, hf⟩ := y_g hf
      refine y_lf (fun _ _ _ _ k => y_getP (pc2 := 78) rfl dX11_serve_75 F_BoxYard_19 (by decide) rfl g16 k) ?_
      obtain ⟨g15, hf⟩ := y_g hf
      refine y_lf (fun _ _ _ _ k => y_getI (pc2 := 81) rfl dX11_serve_78 F_BoxYard_323 (by decide) rfl g15 k) ?_
      exact y_iretU hf dX11_serve_81 rfl
    · replace hf := y_ie c24 hf
      refine y_lf (fun _ _ _ _ k => y_aload_n (x := p0) (pc2 := 43) rfl dX11_serve_42 rfl k) ?_
      refine y_lf (fun _ _ _ _ k => y_bipush (v := (-3 : Int32)) (pc2 := 45) rfl dX11_serve_43 (by decide) k) ?_
      obtain ⟨g23, hf⟩ := y_g hf
      obtain ⟨r20, h21, c22, hf⟩ := y_clE hf
      refine y_UcV0 (As := [.int (-3 : Int32)]) (rm := rm_X11_refused) (pc2 := 48) rfl dX11_serve_45 n_X11_refused l_BoxYard_246 i_X11_refused e_X11_refused (ci := 11) rfl rfl (by decide) g23 rfl rfl (by decide) (by decide) rfl rfl (k_X11_refused c22) ?_
      exact y_iretU hf dX11_serve_48 rfl
  · replace hf := y_it c31 hf
    refine y_lf (fun _ _ _ _ k => y_aload_n (x := p0) (pc2 := 24) rfl dX11_serve_23 rfl k) ?_
    refine y_lf (fun _ _ _ _ k => y_iconst (v := (-1 : Int32)) (pc2 := 25) rfl dX11_serve_24 (by decide) k) ?_
    obtain ⟨g30, hf⟩ := y_g hf
    obtain ⟨r27, h28, c29, hf⟩ := y_clE hf
    refine y_UcV0 (As := [.int (-1 : Int32)]) (rm := rm_X11_refused) (pc2 := 28) rfl dX11_serve_25 n_X11_refused l_BoxYard_246 i_X11_refused e_X11_refused (ci := 11) rfl rfl (by decide) g30 rfl rfl (by decide) (by decide) rfl rfl (k_X11_refused c29) ?_
    exact y_iretU hf dX11_serve_28 rfl
theorem dX11_ship_0 : decode cX11_ship 0 = .ok (.iload_n 1, 1) := by decide +kernel
theorem dX11_ship_1 : decode cX11_ship 1 = .ok (.iconst 1, 1) := by decide +kernel
theorem dX11_ship_2 : decode cX11_ship 2 = .ok (.bipush 6, 2) := by decide +kernel
theorem dX11_ship_4 : decode cX11_ship 4 = .ok (.invokestatic 56, 3) := by decide +kernel
theorem dX11_ship_7 : decode cX11_ship 7 = .ok (.ifCond .eq 25, 3) := by decide +kernel
theorem dX11_ship_10 : decode cX11_ship 10 = .ok (.iload_n 2, 1) := by decide +kernel
theorem dX11_ship_11 : decode cX11_ship 11 = .ok (.iconst 1, 1) := by decide +kernel
theorem dX11_ship_12 : decode cX11_ship 12 = .ok (.iconst 3, 1) := by decide +kernel
theorem dX11_ship_13 : decode cX11_ship 13 = .ok (.invokestatic 56, 3) := by decide +kernel
theorem dX11_ship_16 : decode cX11_ship 16 = .ok (.ifCond .eq 16, 3) := by decide +kernel
theorem dX11_ship_19 : decode cX11_ship 19 = .ok (.iload_n 3, 1) := by decide +kernel
theorem dX11_ship_20 : decode cX11_ship 20 = .ok (.iconst 1, 1) := by decide +kernel
theorem dX11_ship_21 : decode cX11_ship 21 = .ok (.iconst 3, 1) := by decide +kernel
theorem dX11_ship_22 : decode cX11_ship 22 = .ok (.invokestatic 56, 3) := by decide +kernel
theorem dX11_ship_25 : decode cX11_ship 25 = .ok (.ifCond .eq 7, 3) := by decide +kernel
theorem dX11_ship_28 : decode cX11_ship 28 = .ok (.iconst 1, 1) := by decide +kernel
theorem dX11_ship_29 : decode cX11_ship 29 = .ok (.goto 4, 3) := by decide +kernel
theorem dX11_ship_32 : decode cX11_ship 32 = .ok (.iconst 0, 1) := by decide +kernel
theorem dX11_ship_33 : decode cX11_ship 33 = .ok (.istore 5, 2) := by decide +kernel
theorem dX11_ship_35 : decode cX11_ship 35 = .ok (.iload 5, 2) := by decide +kernel
theorem dX11_ship_37 : decode cX11_ship 37 = .ok (.ifCond .eq 14, 3) := by decide +kernel
theorem dX11_ship_40 : decode cX11_ship 40 = .ok (.iload 4, 2) := by decide +kernel
theorem dX11_ship_42 : decode cX11_ship 42 = .ok (.iconst 0, 1) := by decide +kernel
theorem dX11_ship_43 : decode cX11_ship 43 = .ok (.bipush 9, 2) := by decide +kernel
theorem dX11_ship_45 : decode cX11_ship 45 = .ok (.invokestatic 56, 3) := by decide +kernel
theorem dX11_ship_48 : decode cX11_ship 48 = .ok (.ifCond .ne 6, 3) := by decide +kernel
theorem dX11_ship_51 : decode cX11_ship 51 = .ok (.bipush (-2), 2) := by decide +kernel
theorem dX11_ship_53 : decode cX11_ship 53 = .ok (.ireturn, 1) := by decide +kernel
theorem dX11_ship_54 : decode cX11_ship 54 = .ok (.aload_n 0, 1) := by decide +kernel
theorem dX11_ship_55 : decode cX11_ship 55 = .ok (.getfield 10, 3) := by decide +kernel
theorem dX11_ship_58 : decode cX11_ship 58 = .ok (.invokevirtual 326, 3) := by decide +kernel
theorem dX11_ship_61 : decode cX11_ship 61 = .ok (.astore 6, 2) := by decide +kernel
theorem dX11_ship_63 : decode cX11_ship 63 = .ok (.aload 6, 2) := by decide +kernel
theorem dX11_ship_65 : decode cX11_ship 65 = .ok (.ifnonnull 6, 3) := by decide +kernel
theorem dX11_ship_68 : decode cX11_ship 68 = .ok (.bipush (-4), 2) := by decide +kernel
theorem dX11_ship_70 : decode cX11_ship 70 = .ok (.ireturn, 1) := by decide +kernel
theorem dX11_ship_71 : decode cX11_ship 71 = .ok (.aload 6, 2) := by decide +kernel
theorem dX11_ship_73 : decode cX11_ship 73 = .ok (.iload_n 1, 1) := by decide +kernel
theorem dX11_ship_74 : decode cX11_ship 74 = .ok (.iload_n 2, 1) := by decide +kernel
theorem dX11_ship_75 : decode cX11_ship 75 = .ok (.iload_n 3, 1) := by decide +kernel
theorem dX11_ship_76 : decode cX11_ship 76 = .ok (.iload 4, 2) := by decide +kernel
theorem dX11_ship_78 : decode cX11_ship 78 = .ok (.invokevirtual 330, 3) := by decide +kernel
theorem dX11_ship_81 : decode cX11_ship 81 = .ok (.aload 6, 2) := by decide +kernel
theorem dX11_ship_83 : decode cX11_ship 83 = .ok (.getfield 305, 3) := by decide +kernel
theorem dX11_ship_86 : decode cX11_ship 86 = .ok (.ireturn, 1) := by decide +kernel
def M_X11_ship : y_M := (yX11_ship, cX11_ship, 7, (Option.some Jvm.ClassFile.FieldType.int))
theorem n_X11_ship : y_N0 M_X11_ship 4 := ⟨(c_5 31 (by decide +kernel) rfl), (c_1 1 (by decide +kernel) rfl), ⟨by decide +kernel, by decide +kernel⟩, by decide +kernel⟩
theorem l_BoxYard_326 : y_lnk "BoxYard" 326 M_X10_nextShip := Or.inl (c_5 32 (by decide +kernel) rfl)
theorem i_X10_nextShip : Cond.instanceMethod (M_X10_nextShip).1 ∈ y_tb := (c_5 33 (by decide +kernel) rfl)
theorem e_X10_nextShip : Cond.selects (M_X10_nextShip).1.cls (M_X10_nextShip).1 (M_X10_nextShip).1 ∈ y_tb := (c_5 34 (by decide +kernel) rfl)
theorem l_BoxYard_330 : y_lnk "BoxYard" 330 M_X7_begin := Or.inl (c_5 99 (by decide +kernel) rfl)
theorem i_X7_begin : Cond.instanceMethod (M_X7_begin).1 ∈ y_tb := (c_5 100 (by decide +kernel) rfl)
theorem e_X7_begin : Cond.selects (M_X7_begin).1.cls (M_X7_begin).1 (M_X7_begin).1 ∈ y_tb := (c_5 101 (by decide +kernel) rfl)
set_option maxRecDepth 100000 in
def f_X11_ship (p0 : Nat) (p1 : Int32) (p2 : Int32) (p3 : Int32) (p4 : Int32) (c0 s0 : Nat) (h : y_H) : Option ((Int32 × Nat × Nat) × y_H) :=
  y_cl (f_X11_isWithin p1 1 6 h) (fun r1 h2 =>
  y_jn (fun (v0_32 : Nat) (v1_32 : Int32) (v2_32 : Int32) (v3_32 : Int32) (v4_32 : Int32) (c32 : Nat) (s32 : Nat) (h4 : y_H) => (
      y_jn (fun (c51 : Nat) (s51 : Nat) (h5 : y_H) => (
          some (((-2 : Int32), c51, s51), h5) : Option ((Int32 × Nat × Nat) × y_H))) (fun j51 =>
      if (0 : Int32) = 0 then
        j51 c32 s32 h4
      else
        y_cl (f_X11_isWithin v4_32 0 9 h4) (fun r6 h7 =>
        if r6 = true then
          if y_K h7 v0_32 = 12 then
          if y_K h7 (y_P h7 v0_32 0) = 11 then
          y_cl (f_X10_nextShip (y_P h7 v0_32 0) c32 s32 h7) (fun r9 h10 =>
          if r9.1 = 0 then
            some (((-4 : Int32), r9.2.1, r9.2.2), h10)
          else
            if y_K h10 r9.1 = 8 then
            y_cl (f_X7_begin r9.1 v1_32 v2_32 v3_32 v4_32 h10) (fun _ h12 =>
            if y_K h12 r9.1 = 8 then
            some ((y_I h12 r9.1 0, r9.2.1, r9.2.2), h12)
            else none)
            else none)
          else none
          else none
        else
          j51 c32 s32 h7)) : Option ((Int32 × Nat × Nat) × y_H))) (fun j32 =>
  if r1 = true then
    y_cl (f_X11_isWithin p2 1 3 h2) (fun r21 h22 =>
    if r21 = true then
      y_cl (f_X11_isWithin p3 1 3 h22) (fun r24 h25 =>
      if r24 = true then
        y_jn (fun (c51 : Nat) (s51 : Nat) (h27 : y_H) => (
            some (((-2 : Int32), c51, s51), h27) : Option ((Int32 × Nat × Nat) × y_H))) (fun j51 =>
        if (1 : Int32) = 0 then
          j51 c0 s0 h25
        else
          y_cl (f_X11_isWithin p4 0 9 h25) (fun r28 h29 =>
          if r28 = true then
            if y_K h29 p0 = 12 then
            if y_K h29 (y_P h29 p0 0) = 11 then
            y_cl (f_X10_nextShip (y_P h29 p0 0) c0 s0 h29) (fun r31 h32 =>
            if r31.1 = 0 then
              some (((-4 : Int32), r31.2.1, r31.2.2), h32)
            else
              if y_K h32 r31.1 = 8 then
              y_cl (f_X7_begin r31.1 p1 p2 p3 p4 h32) (fun _ h34 =>
              if y_K h34 r31.1 = 8 then
              some ((y_I h34 r31.1 0, r31.2.1, r31.2.2), h34)
              else none)
              else none)
            else none
            else none
          else
            j51 c0 s0 h29))
      else
        j32 p0 p1 p2 p3 p4 c0 s0 h25)
    else
      j32 p0 p1 p2 p3 p4 c0 s0 h22)
  else
    j32 p0 p1 p2 p3 p4 c0 s0 h2))
abbrev FF_X11_ship : Nat := 3
abbrev LL_X11_ship : Nat := 62
set_option maxRecDepth 100000 in
set_option maxHeartbeats 4000000 in
theorem k_X11_ship {l : Launch} {G : y_G} {p0 : Nat} {p1 : Int32} {p2 : Int32} {p3 : Int32} {p4 : Int32} {c0 s0 cz sz : Nat} {h hz : y_H} {rz : Int32} (hf : f_X11_ship p0 p1 p2 p3 p4 c0 s0 h = some ((rz, cz, sz), hz)) : (c0 ≤ cz ∧ s0 ≤ sz) ∧ y_S l G M_X11_ship (y_Rm FF_X11_ship LL_X11_ship c0 s0 cz sz) [y_p p0, .int p1, .int p2, .int p3, .int p4] h (some (.int rz)) hz := by
  refine y_Ustart (lv := [(0, y_p p0), (1, .int p1), (2, .int p2), (3, .int p3), (4, .int p4)]) (by decide) (by simp [lg_sl, y_p_cat, y_ci, y_cj, M_X11_ship]) (by simp [lv_args, y_p_cat, y_ci, y_cj]) (fun z ad0 => ?_)
  unfold f_X11_ship at hf
  refine y_lf (fun _ _ _ _ k => y_iload_n (pc2 := 1) rfl dX11_ship_0 rfl k) ?_
  refine y_lf (fun _ _ _ _ k => y_iconst (v := 1) (pc2 := 2) rfl dX11_ship_1 (by decide) k) ?_
  refine y_lf (fun _ _ _ _ k => y_bipush (v := 6) (pc2 := 4) rfl dX11_ship_2 (by decide) k) ?_
  obtain ⟨r1, h2, c3, hf⟩ := y_clE hf
  refine y_UcS0 (As := [.int p1, .int 1, .int 6]) (rm := rm_X11_isWithin) (pc2 := 7) rfl dX11_ship_4 n_X11_isWithin l_BoxYard_56 t_X11_isWithin rfl rfl (by decide) (by decide) rfl rfl (k_X11_isWithin c3) ?_
  refine y_jnE hf (fun j => ∀ (v0_32 : Nat) (v1_32 : Int32) (v2_32 : Int32) (v3_32 : Int32) (v4_32 : Int32) (c32 : Nat) (s32 : Nat) (h4 : y_H), j v0_32 v1_32 v2_32 v3_32 v4_32 c32 s32 h4 = some ((rz, cz, sz), hz) → y_U l G z FF_X11_ship LL_X11_ship (cz - c0) (sz - s0) c0 s0 cz sz M_X11_ship ad0 h (some (.int rz)) hz 32 [(0, y_p v0_32), (1, .int v1_32), (2, .int v2_32), (3, .int v3_32), (4, .int v4_32)] [] h4 c32 s32) (fun v0_32 v1_32 v2_32 v3_32 v4_32 c32 s32 h4 hf => ?_) (fun j32 hj32 hf => ?_)
  · refine y_lf (fun _ _ _ _ k => y_iconst (v := 0) (pc2 := 33) rfl dX11_ship_32 (by decide) k) ?_
    refine y_lf (fun _ _ _ _ k => y_istore (lv' := [(5, .int 0), (0, y_p v0_32), (1, .int v1_32), (2, .int v2_32), (3, .int v3_32), (4, .int v4_32)]) (pc2 := 35) rfl dX11_ship_33 (by decide) rfl k) ?_
    refine y_lf (fun _ _ _ _ k => y_iload (pc2 := 37) rfl dX11_ship_35 rfl k) ?_
    refine y_jnE hf (fun j => ∀ (c51 : Nat) (s51 : Nat) (h5 : y_H), j c51 s51 h5 = some ((rz, cz, sz), hz) → y_U l G z FF_X11_ship LL_X11_ship (cz - c0) (sz - s0) c0 s0 cz sz M_X11_ship ad0 h (some (.int rz)) hz 51 [] [] h5 c51 s51) (fun c51 s51 h5 hf => ?_) (fun j51 hj51 hf => ?_)
    · refine y_lf (fun _ _ _ _ k => y_bipush (v := (-2 : Int32)) (pc2 := 53) rfl dX11_ship_51 (by decide) k) ?_
      exact y_iretU hf dX11_ship_53 rfl
    · refine y_lf2 (Classical.em _) (fun _ _ k1 k2 => y_if_eq (tgt := 51) (pc2 := 40) rfl dX11_ship_37 (by decide) k1 k2) (fun c20 => ?_) (fun c20 => ?_)
      · replace hf := y_it c20 hf
        exact y_lf (fun _ _ _ _ k => y_pk [] rfl k) (hj51 _ _ _ hf)
      · replace hf := y_ie c20 hf
        refine y_lf (fun _ _ _ _ k => y_iload (pc2 := 42) rfl dX11_ship_40 rfl k) ?_
        refine y_lf (fun _ _ _ _ k => y_iconst (v := 0) (pc2 := 43) rfl dX11_ship_42 (by decide) k) ?_
        refine y_lf (fun _ _ _ _ k => y_bipush (v := 9) (pc2 := 45) rfl dX11_ship_43 (by decide) k) ?_
        obtain ⟨r6, h7, c8, hf⟩ := y_clE hf
        refine y_UcS0 (As := [.int v4_32, .int 0, .int 9]) (rm := rm_X11_isWithin) (pc2 := 48) rfl dX11_ship_45 n_X11_isWithin l_BoxYard_56 t_X11_isWithin rfl rfl (by decide) (by decide) rfl rfl (k_X11_isWithin c8) ?_
        refine y_lf2 (Classical.em _) (fun _ _ k1 k2 => y_ifz_ne (tgt := 54) (pc2 := 51) rfl dX11_ship_48 (by decide) k1 k2) (fun c19 => ?_) (fun c19 => ?_)
        · replace hf := y_it c19 hf
          refine y_lf (fun _ _ _ _ k => y_aload_n (x := v0_32) (pc2 := 55) rfl dX11_ship_54 rfl k) ?_
          obtain ⟨g18, hf⟩ := y_g hf
          refine y_lf (fun _ _ _ _ k => y_getP (pc2 := 58) rfl dX11_ship_55 F_BoxYard_10 (by decide) rfl g18 k) ?_
          obtain ⟨g17, hf⟩ := y_g hf
          obtain ⟨r9, h10, c11, hf⟩ := y_clE hf
          refine y_UcallV (As := []) (pc2 := 61) rfl dX11_ship_58 n_X10_nextShip l_BoxYard_326 i_X10_nextShip e_X10_nextShip (ci := 10) rfl rfl (by decide) g17 rfl rfl (by decide) (by decide) (k_X10_nextShip c11) ?_
          refine y_lf (fun _ _ _ _ k => y_astore (lv' := [(6, y_p r9.1), (5, .int 0), (0, y_p v0_32), (1, .int v1_32), (2, .int v2_32), (3, .int v3_32), (4, .int v4_32)]) (pc2 := 63) rfl dX11_ship_61 (by decide) rfl k) ?_
          refine y_lf (fun _ _ _ _ k => y_aload (x := r9.1) (pc2 := 65) rfl dX11_ship_63 rfl k) ?_
          refine y_lf2 (Classical.em _).symm (fun _ _ k1 k2 => y_ifnonnull (tgt := 71) (pc2 := 68) rfl dX11_ship_65 (by decide) k1 k2) (fun c16 => ?_) (fun c16 => ?_)
          · replace hf := y_ie c16 hf
            refine y_lf (fun _ _ _ _ k => y_aload (x := r9.1) (pc2 := 73) rfl dX11_ship_71 rfl k) ?_
            refine y_lf (fun _ _ _ _ k => y_iload_n (pc2 := 74) rfl dX11_ship_73 rfl k) ?_
            refine y_lf (fun _ _ _ _ k => y_iload_n (pc2 := 75) rfl dX11_ship_74 rfl k) ?_
            refine y_lf (fun _ _ _ _ k => y_iload_n (pc2 := 76) rfl dX11_ship_75 rfl k) ?_
            refine y_lf (fun _ _ _ _ k => y_iload (pc2 := 78) rfl dX11_ship_76 rfl k) ?_
            obtain ⟨g15, hf⟩ := y_g hf
            obtain ⟨r_, h12, c13, hf⟩ := y_clE hf
            refine y_UcV0 (As := [.int v1_32, .int v2_32, .int v3_32, .int v4_32]) (rm := rm_X7_begin) (pc2 := 81) rfl dX11_ship_78 n_X7_begin l_BoxYard_330 i_X7_begin e_X7_begin (ci := 7) rfl rfl (by decide) g15 rfl rfl (by decide) (by decide) rfl rfl (k_X7_begin c13) ?_
            refine y_lf (fun _ _ _ _ k => y_aload (x := r9.1) (pc2 := 83) rfl dX11_ship_81 rfl k) ?_
            obtain ⟨g14, hf⟩ := y_g hf
            refine y_lf (fun _ _ _ _ k => y_getI (pc2 := 86) rfl dX11_ship_83 F_BoxYard_305 (by decide) rfl g14 k) ?_
            exact y_iretU hf dX11_ship_86 rfl
          · replace hf := y_it c16 hf
            refine y_lf (fun _ _ _ _ k => y_bipush (v := (-4 : Int32)) (pc2 := 70) rfl dX11_ship_68 (by decide) k) ?_
            exact y_iretU hf dX11_ship_70 rfl
        · replace hf := y_ie c19 hf
          exact y_lf (fun _ _ _ _ k => y_pk [] rfl k) (hj51 _ _ _ hf)
  · refine y_lf2 (Classical.em _).symm (fun _ _ k1 k2 => y_ifz_eq (tgt := 32) (pc2 := 10) rfl dX11_ship_7 (by decide) k1 k2) (fun c45 => ?_) (fun c45 => ?_)
    · replace hf := y_ie c45 hf
      exact y_lf (fun _ _ _ _ k => y_pk [0, 1, 2, 3, 4] rfl k) (hj32 _ _ _ _ _ _ _ _ hf)
    · replace hf := y_it c45 hf
      refine y_lf (fun _ _ _ _ k => y_iload_n (pc2 := 11) rfl dX11_ship_10 rfl k) ?_
      refine y_lf (fun _ _ _ _ k => y_iconst (v := 1) (pc2 := 12) rfl dX11_ship_11 (by decide) k) ?_
      refine y_lf (fun _ _ _ _ k => y_iconst (v := 3) (pc2 := 13) rfl dX11_ship_12 (by decide) k) ?_
      obtain ⟨r21, h22, c23, hf⟩ := y_clE hf
      refine y_UcS0 (As := [.int p2, .int 1, .int 3]) (rm := rm_X11_isWithin) (pc2 := 16) rfl dX11_ship_13 n_X11_isWithin l_BoxYard_56 t_X11_isWithin rfl rfl (by decide) (by decide) rfl rfl (k_X11_isWithin c23) ?_
      refine y_lf2 (Classical.em _).symm (fun _ _ k1 k2 => y_ifz_eq (tgt := 32) (pc2 := 19) rfl dX11_ship_16 (by decide) k1 k2) (fun c44 => ?_) (fun c44 => ?_)
      · replace hf := y_ie c44 hf
        exact y_lf (fun _ _ _ _ k => y_pk [0, 1, 2, 3, 4] rfl k) (hj32 _ _ _ _ _ _ _ _ hf)
      · replace hf := y_it c44 hf
        refine y_lf (fun _ _ _ _ k => y_iload_n (pc2 := 20) rfl dX11_ship_19 rfl k) ?_
        refine y_lf (fun _ _ _ _ k => y_iconst (v := 1) (pc2 := 21) rfl dX11_ship_20 (by decide) k) ?_
        refine y_lf (fun _ _ _ _ k => y_iconst (v := 3) (pc2 := 22) rfl dX11_ship_21 (by decide) k) ?_
        obtain ⟨r24, h25, c26, hf⟩ := y_clE hf
        refine y_UcS0 (As := [.int p3, .int 1, .int 3]) (rm := rm_X11_isWithin) (pc2 := 25) rfl dX11_ship_22 n_X11_isWithin l_BoxYard_56 t_X11_isWithin rfl rfl (by decide) (by decide) rfl rfl (k_X11_isWithin c26) ?_
        refine y_lf2 (Classical.em _).symm (fun _ _ k1 k2 => y_ifz_eq (tgt := 32) (pc2 := 28) rfl dX11_ship_25 (by decide) k1 k2) (fun c43 => ?_) (fun c43 => ?_)
        · replace hf := y_ie c43 hf
          exact y_lf (fun _ _ _ _ k => y_pk [0, 1, 2, 3, 4] rfl k) (hj32 _ _ _ _ _ _ _ _ hf)
        · replace hf := y_it c43 hf
          refine y_lf (fun _ _ _ _ k => y_iconst (v := 1) (pc2 := 29) rfl dX11_ship_28 (by decide) k) ?_
          refine y_lf (fun _ _ _ _ k => y_goto (tgt := 33) dX11_ship_29 (by decide) k) ?_
          refine y_lf (fun _ _ _ _ k => y_istore (lv' := [(5, .int 1), (0, y_p p0), (1, .int p1), (2, .int p2), (3, .int p3), (4, .int p4)]) (pc2 := 35) rfl dX11_ship_33 (by decide) rfl k) ?_
          refine y_lf (fun _ _ _ _ k => y_iload (pc2 := 37) rfl dX11_ship_35 rfl k) ?_
          refine y_jnE hf (fun j => ∀ (c51 : Nat) (s51 : Nat) (h27 : y_H), j c51 s51 h27 = some ((rz, cz, sz), hz) → y_U l G z FF_X11_ship LL_X11_ship (cz - c0) (sz - s0) c0 s0 cz sz M_X11_ship ad0 h (some (.int rz)) hz 51 [] [] h27 c51 s51) (fun c51 s51 h27 hf => ?_) (fun j51 hj51 hf => ?_)
          · refine y_lf (fun _ _ _ _ k => y_bipush (v := (-2 : Int32)) (pc2 := 53) rfl dX11_ship_51 (by decide) k) ?_
            exact y_iretU hf dX11_ship_53 rfl
          · refine y_lf2 (Classical.em _) (fun _ _ k1 k2 => y_if_eq (tgt := 51) (pc2 := 40) rfl dX11_ship_37 (by decide) k1 k2) (fun c42 => ?_) (fun c42 => ?_)
            · replace hf := y_it c42 hf
              exact y_lf (fun _ _ _ _ k => y_pk [] rfl k) (hj51 _ _ _ hf)
            · replace hf := y_ie c42 hf
              refine y_lf (fun _ _ _ _ k => y_iload (pc2 := 42) rfl dX11_ship_40 rfl k) ?_
              refine y_lf (fun _ _ _ _ k => y_iconst (v := 0) (pc2 := 43) rfl dX11_ship_42 (by decide) k) ?_
              refine y_lf (fun _ _ _ _ k => y_bipush (v := 9) (pc2 := 45) rfl dX11_ship_43 (by decide) k) ?_
              obtain ⟨r28, h29, c30, hf⟩ := y_clE hf
              refine y_UcS0 (As := [.int p4, .int 0, .int 9]) (rm := rm_X11_isWithin) (pc2 := 48) rfl dX11_ship_45 n_X11_isWithin l_BoxYard_56 t_X11_isWithin rfl rfl (by decide) (by decide) rfl rfl (k_X11_isWithin c30) ?_
              refine y_lf2 (Classical.em _) (fun _ _ k1 k2 => y_ifz_ne (tgt := 54) (pc2 := 51) rfl dX11_ship_48 (by decide) k1 k2) (fun c41 => ?_) (fun c41 => ?_)
              · replace hf := y_it c41 hf
                refine y_lf (fun _ _ _ _ k => y_aload_n (x := p0) (pc2 := 55) rfl dX11_ship_54 rfl k) ?_
                obtain ⟨g40, hf⟩ := y_g hf
                refine y_lf (fun _ _ _ _ k => y_getP (pc2 := 58) rfl dX11_ship_55 F_BoxYard_10 (by decide) rfl g40 k) ?_
                obtain ⟨g39, hf⟩ := y_g hf
                obtain ⟨r31, h32, c33, hf⟩ := y_clE hf
                refine y_UcallV (As := []) (pc2 := 61) rfl dX11_ship_58 n_X10_nextShip l_BoxYard_326 i_X10_nextShip e_X10_nextShip (ci := 10) rfl rfl (by decide) g39 rfl rfl (by decide) (by decide) (k_X10_nextShip c33) ?_
                refine y_lf (fun _ _ _ _ k => y_astore (lv' := [(6, y_p r31.1), (5, .int 1), (0, y_p p0), (1, .int p1), (2, .int p2), (3, .int p3), (4, .int p4)]) (pc2 := 63) rfl dX11_ship_61 (by decide) rfl k) ?_
                refine y_lf (fun _ _ _ _ k => y_aload (x := r31.1) (pc2 := 65) rfl dX11_ship_63 rfl k) ?_
                refine y_lf2 (Classical.em _).symm (fun _ _ k1 k2 => y_ifnonnull (tgt := 71) (pc2 := 68) rfl dX11_ship_65 (by decide) k1 k2) (fun c38 => ?_) (fun c38 => ?_)
                · replace hf := y_ie c38 hf
                  refine y_lf (fun _ _ _ _ k => y_aload (x := r31.1) (pc2 := 73) rfl dX11_ship_71 rfl k) ?_
                  refine y_lf (fun _ _ _ _ k => y_iload_n (pc2 := 74) rfl dX11_ship_73 rfl k) ?_
                  refine y_lf (fun _ _ _ _ k => y_iload_n (pc2 := 75) rfl dX11_ship_74 rfl k) ?_
                  refine y_lf (fun _ _ _ _ k => y_iload_n (pc2 := 76) rfl dX11_ship_75 rfl k) ?_
                  refine y_lf (fun _ _ _ _ k => y_iload (pc2 := 78) rfl dX11_ship_76 rfl k) ?_
                  obtain ⟨g37, hf⟩ := y_g hf
                  obtain ⟨r_, h34, c35, hf⟩ := y_clE hf
                  refine y_UcV0 (As := [.int p1, .int p2, .int p3, .int p4]) (rm := rm_X7_begin) (pc2 := 81) rfl dX11_ship_78 n_X7_begin l_BoxYard_330 i_X7_begin e_X7_begin (ci := 7) rfl rfl (by decide) g37 rfl rfl (by decide) (by decide) rfl rfl (k_X7_begin c35) ?_
                  refine y_lf (fun _ _ _ _ k => y_aload (x := r31.1) (pc2 := 83) rfl dX11_ship_81 rfl k) ?_
                  obtain ⟨g36, hf⟩ := y_g hf
                  refine y_lf (fun _ _ _ _ k => y_getI (pc2 := 86) rfl dX11_ship_83 F_BoxYard_305 (by decide) rfl g36 k) ?_
                  exact y_iretU hf dX11_ship_86 rfl
                · replace hf := y_it c38 hf
                  refine y_lf (fun _ _ _ _ k => y_bipush (v := (-4 : Int32)) (pc2 := 70) rfl dX11_ship_68 (by decide) k) ?_
                  exact y_iretU hf dX11_ship_70 rfl
              · replace hf := y_ie c41 hf
                exact y_lf (fun _ _ _ _ k => y_pk [] rfl k) (hj51 _ _ _ hf)
theorem dX11_least_0 : decode cX11_least 0 = .ok (.aload_n 0, 1) := by decide +kernel
theorem dX11_least_1 : decode cX11_least 1 = .ok (.getfield 10, 3) := by decide +kernel
theorem dX11_least_4 : decode cX11_least 4 = .ok (.iload_n 1, 1) := by decide +kernel
theorem dX11_least_5 : decode cX11_least 5 = .ok (.invokevirtual 148, 3) := by decide +kernel
theorem dX11_least_8 : decode cX11_least 8 = .ok (.astore_n 2, 1) := by decide +kernel
theorem dX11_least_9 : decode cX11_least 9 = .ok (.aload_n 2, 1) := by decide +kernel
theorem dX11_least_10 : decode cX11_least 10 = .ok (.ifnonnull 5, 3) := by decide +kernel
theorem dX11_least_13 : decode cX11_least 13 = .ok (.iconst (-1), 1) := by decide +kernel
theorem dX11_least_14 : decode cX11_least 14 = .ok (.ireturn, 1) := by decide +kernel
theorem dX11_least_15 : decode cX11_least 15 = .ok (.aload_n 2, 1) := by decide +kernel
theorem dX11_least_16 : decode cX11_least 16 = .ok (.getfield 380, 3) := by decide +kernel
theorem dX11_least_19 : decode cX11_least 19 = .ok (.iconst 4, 1) := by decide +kernel
theorem dX11_least_20 : decode cX11_least 20 = .ok (.if_icmp .gt 12, 3) := by decide +kernel
theorem dX11_least_23 : decode cX11_least 23 = .ok (.aload_n 2, 1) := by decide +kernel
theorem dX11_least_24 : decode cX11_least 24 = .ok (.invokevirtual 177, 3) := by decide +kernel
theorem dX11_least_27 : decode cX11_least 27 = .ok (.bipush 6, 2) := by decide +kernel
theorem dX11_least_29 : decode cX11_least 29 = .ok (.if_icmp .le 6, 3) := by decide +kernel
theorem dX11_least_32 : decode cX11_least 32 = .ok (.bipush (-2), 2) := by decide +kernel
theorem dX11_least_34 : decode cX11_least 34 = .ok (.ireturn, 1) := by decide +kernel
theorem dX11_least_35 : decode cX11_least 35 = .ok (.aload_n 0, 1) := by decide +kernel
theorem dX11_least_36 : decode cX11_least 36 = .ok (.getfield 26, 3) := by decide +kernel
theorem dX11_least_39 : decode cX11_least 39 = .ok (.aload_n 2, 1) := by decide +kernel
theorem dX11_least_40 : decode cX11_least 40 = .ok (.invokevirtual 383, 3) := by decide +kernel
theorem dX11_least_43 : decode cX11_least 43 = .ok (.ifCond .ne 6, 3) := by decide +kernel
theorem dX11_least_46 : decode cX11_least 46 = .ok (.bipush (-3), 2) := by decide +kernel
theorem dX11_least_48 : decode cX11_least 48 = .ok (.ireturn, 1) := by decide +kernel
theorem dX11_least_49 : decode cX11_least 49 = .ok (.aload_n 0, 1) := by decide +kernel
theorem dX11_least_50 : decode cX11_least 50 = .ok (.getfield 26, 3) := by decide +kernel
theorem dX11_least_53 : decode cX11_least 53 = .ok (.aload_n 2, 1) := by decide +kernel
theorem dX11_least_54 : decode cX11_least 54 = .ok (.invokevirtual 387, 3) := by decide +kernel
theorem dX11_least_57 : decode cX11_least 57 = .ok (.ireturn, 1) := by decide +kernel
def M_X11_least : y_M := (yX11_least, cX11_least, 3, (Option.some Jvm.ClassFile.FieldType.int))
theorem n_X11_least : y_N0 M_X11_least 1 := ⟨(c_5 188 (by decide +kernel) rfl), (c_1 1 (by decide +kernel) rfl), ⟨by decide +kernel, by decide +kernel⟩, by decide +kernel⟩
theorem F_BoxYard_380 : y_F "BoxYard" 380 1 7 := ⟨_, _, _, rfl, by decide, Or.inr ⟨"BoxYard", (c_3 82 (by decide +kernel) rfl)⟩⟩
theorem l_BoxYard_383 : y_lnk "BoxYard" 383 M_X4_hasOrderIn := Or.inl (c_5 189 (by decide +kernel) rfl)
theorem l_BoxYard_387 : y_lnk "BoxYard" 387 M_X4_searchIn := Or.inl (c_5 193 (by decide +kernel) rfl)
theorem i_X4_searchIn : Cond.instanceMethod (M_X4_searchIn).1 ∈ y_tb := (c_5 194 (by decide +kernel) rfl)
theorem e_X4_searchIn : Cond.selects (M_X4_searchIn).1.cls (M_X4_searchIn).1 (M_X4_searchIn).1 ∈ y_tb := (c_5 195 (by decide +kernel) rfl)
set_option maxRecDepth 100000 in
def f_X11_least (p0 : Nat) (p1 : Int32) (c0 s0 : Nat) (h : y_H) : Option ((Int32 × Nat × Nat) × y_H) :=
  if y_K h p0 = 12 then
  if y_K h (y_P h p0 0) = 11 then
  y_cl (f_X10_bayAt (y_P h p0 0) p1 h) (fun r1 h2 =>
  if r1 = 0 then
    some (((-1 : Int32), c0, s0), h2)
  else
    if y_K h2 r1 = 2 then
    y_jn (fun (c32 : Nat) (s32 : Nat) (h4 : y_H) => (
        some (((-2 : Int32), c32, s32), h4) : Option ((Int32 × Nat × Nat) × y_H))) (fun j32 =>
    if 4 < (y_I h2 r1 7) then
      j32 c0 s0 h2
    else
      if y_K h2 r1 = 2 then
      y_cl (f_X1_boxes r1 h2) (fun r5 h6 =>
      if r5 ≤ 6 then
        if y_K h6 p0 = 12 then
        if y_K h6 (y_P h6 p0 2) = 5 then
        y_cl (f_X4_hasOrderIn (y_P h6 p0 2) r1 h6) (fun r8 h9 =>
        if r8 = true then
          if y_K h9 p0 = 12 then
          if y_K h9 (y_P h9 p0 2) = 5 then
          y_cl (f_X4_searchIn (y_P h9 p0 2) r1 c0 s0 h9) (fun r11 h12 =>
          some ((r11.1, r11.2.1, r11.2.2), h12))
          else none
          else none
        else
          some (((-3 : Int32), c0, s0), h9))
        else none
        else none
      else
        j32 c0 s0 h6)
      else none)
    else none)
  else none
  else none
abbrev FF_X11_least : Nat := 7
abbrev LL_X11_least : Nat := 218
set_option maxRecDepth 100000 in
set_option maxHeartbeats 4000000 in
theorem k_X11_least {l : Launch} {G : y_G} {p0 : Nat} {p1 : Int32} {c0 s0 cz sz : Nat} {h hz : y_H} {rz : Int32} (hf : f_X11_least p0 p1 c0 s0 h = some ((rz, cz, sz), hz)) : (c0 ≤ cz ∧ s0 ≤ sz) ∧ y_S l G M_X11_least (y_Rm FF_X11_least LL_X11_least c0 s0 cz sz) [y_p p0, .int p1] h (some (.int rz)) hz := by
  refine y_Ustart (lv := [(0, y_p p0), (1, .int p1)]) (by decide) (by simp [lg_sl, y_p_cat, y_ci, y_cj, M_X11_least]) (by simp [lv_args, y_p_cat, y_ci, y_cj]) (fun z ad0 => ?_)
  unfold f_X11_least at hf
  refine y_lf (fun _ _ _ _ k => y_aload_n (x := p0) (pc2 := 1) rfl dX11_least_0 rfl k) ?_
  obtain ⟨g25, hf⟩ := y_g hf
  refine y_lf (fun _ _ _ _ k => y_getP (pc2 := 4) rfl dX11_least_1 F_BoxYard_10 (by decide) rfl g25 k) ?_
  refine y_lf (fun _ _ _ _ k => y_iload_n (pc2 := 5) rfl dX11_least_4 rfl k) ?_
  obtain ⟨g24, hf⟩ := y_g hf
  obtain ⟨r1, h2, c3, hf⟩ := y_clE hf
  refine y_UcV0 (As := [.int p1]) (rm := rm_X10_bayAt) (pc2 := 8) rfl dX11_least_5 n_X10_bayAt l_BoxYard_148 i_X10_bayAt e_X10_bayAt (ci := 10) rfl rfl (by decide) g24 rfl rfl (by decide) (by decide) rfl rfl (k_X10_bayAt c3) ?_
  refine y_lf (fun _ _ _ _ k => y_astore_n (lv' := [(2, y_p r1), (0, y_p p0), (1, .int p1)]) (pc2 := 9) rfl dX11_least_8 (by decide) rfl k) ?_
  refine y_lf (fun _ _ _ _ k => y_aload_n (x := r1) (pc2 := 10) rfl dX11_least_9 rfl k) ?_
  refine y_lf2 (Classical.em _).symm (fun _ _ k1 k2 => y_ifnonnull (tgt := 15) (pc2 := 13) rfl dX11_least_10 (by decide) k1 k2) (fun c23 => ?_) (fun c23 => ?_)
  · replace hf := y_ie c23 hf
    refine y_lf (fun _ _ _ _ k => y_aload_n (x := r1) (pc2 := 16) rfl dX11_least_15 rfl k) ?_
    obtain ⟨g22, hf⟩ := y_g hf
    refine y_lf (fun _ _ _ _ k => y_getI (pc2 := 19) rfl dX11_least_16 F_BoxYard_380 (by decide) rfl g22 k) ?_
    refine y_lf (fun _ _ _ _ k => y_iconst (v := 4) (pc2 := 20) rfl dX11_least_19 (by decide) k) ?_
    refine y_jnE hf (fun j => ∀ (c32 : Nat) (s32 : Nat) (h4 : y_H), j c32 s32 h4 = some ((rz, cz, sz), hz) → y_U l G z FF_X11_least LL_X11_least (cz - c0) (sz - s0) c0 s0 cz sz M_X11_least ad0 h (some (.int rz)) hz 32 [] [] h4 c32 s32) (fun c32 s32 h4 hf => ?_) (fun j32 hj32 hf => ?_)
    · refine y_lf (fun _ _ _ _ k => y_bipush (v := (-2 : Int32)) (pc2 := 34) rfl dX11_least_32 (by decide) k) ?_
      exact y_iretU hf dX11_least_34 rfl
    · refine y_lf2 (Classical.em _) (fun _ _ k1 k2 => y_icmp_gt (tgt := 32) (pc2 := 23) rfl dX11_least_20 (by decide) k1 k2) (fun c21 => ?_) (fun c21 => ?_)
      · replace hf := y_it c21 hf
        exact y_lf (fun _ _ _ _ k => y_pk [] rfl k) (hj32 _ _ _ hf)
      · replace hf := y_ie c21 hf
        refine y_lf (fun _ _ _ _ k => y_aload_n (x := r1) (pc2 := 24) rfl dX11_least_23 rfl k) ?_
        obtain ⟨g20, hf⟩ := y_g hf
        obtain ⟨r5, h6, c7, hf⟩ := y_clE hf
        refine y_UcV0 (As := []) (rm := rm_X1_boxes) (pc2 := 27) rfl dX11_least_24 n_X1_boxes l_BoxYard_177 i_X1_boxes e_X1_boxes (ci := 1) rfl rfl (by decide) g20 rfl rfl (by decide) (by decide) rfl rfl (k_X1_boxes c7) ?_
        refine y_lf (fun _ _ _ _ k => y_bipush (v := 6) (pc2 := 29) rfl dX11_least_27 (by decide) k) ?_
        refine y_lf2 (Classical.em _) (fun _ _ k1 k2 => y_icmp_le (tgt := 35) (pc2 := 32) rfl dX11_least_29 (by decide) k1 k2) (fun c19 => ?_) (fun c19 => ?_)
        · replace hf := y_it c19 hf
          refine y_lf (fun _ _ _ _ k => y_aload_n (x := p0) (pc2 := 36) rfl dX11_least_35 rfl k) ?_
          obtain ⟨g18, hf⟩ := y_g hf
          refine y_lf (fun _ _ _ _ k => y_getP (pc2 := 39) rfl dX11_least_36 F_BoxYard_26 (by decide) rfl g18 k) ?_
          refine y_lf (fun _ _ _ _ k => y_aload_n (x := r1) (pc2 := 40) rfl dX11_least_39 rfl k) ?_
          obtain ⟨g17, hf⟩ := y_g hf
          obtain ⟨r8, h9, c10, hf⟩ := y_clE hf
          refine y_UcV0 (As := [y_p r1]) (rm := rm_X4_hasOrderIn) (pc2 := 43) rfl dX11_least_40 n_X4_hasOrderIn l_BoxYard_383 i_X4_hasOrderIn e_X4_hasOrderIn (ci := 4) rfl rfl (by decide) g17 rfl rfl (by decide) (by decide) rfl rfl (k_X4_hasOrderIn c10) ?_
          refine y_lf2 (Classical.em _) (fun _ _ k1 k2 => y_ifz_ne (tgt := 49) (pc2 := 46) rfl dX11_least_43 (by decide) k1 k2) (fun c16 => ?_) (fun c16 => ?_)
          · replace hf := y_it c16 hf
            refine y_lf (fun _ _ _ _ k => y_aload_n (x := p0) (pc2 := 50) rfl dX11_least_49 rfl k) ?_
            obtain ⟨g15, hf⟩ := y_g hf
            refine y_lf (fun _ _ _ _ k => y_getP (pc2 := 53) rfl dX11_least_50 F_BoxYard_26 (by decide) rfl g15 k) ?_
            refine y_lf (fun _ _ _ _ k => y_aload_n (x := r1) (pc2 := 54) rfl dX11_least_53 rfl k) ?_
            obtain ⟨g14, hf⟩ := y_g hf
            obtain ⟨r11, h12, c13, hf⟩ := y_clE hf
            refine y_UcallV (As := [y_p r1]) (pc2 := 57) rfl dX11_least_54 n_X4_searchIn l_BoxYard_387 i_X4_searchIn e_X4_searchIn (ci := 4) rfl rfl (by decide) g14 rfl rfl (by decide) (by decide) (k_X4_searchIn c13) ?_
            exact y_iretU hf dX11_least_57 rfl
          · replace hf := y_ie c16 hf
            refine y_lf (fun _ _ _ _ k => y_bipush (v := (-3 : Int32)) (pc2 := 48) rfl dX11_least_46 (by decide) k) ?_
            exact y_iretU hf dX11_least_48 rfl
        · replace hf := y_ie c19 hf
          exact y_lf (fun _ _ _ _ k => y_pk [] rfl k) (hj32 _ _ _ hf)
  · replace hf := y_it c23 hf
    refine y_lf (fun _ _ _ _ k => y_iconst (v := (-1 : Int32)) (pc2 := 14) rfl dX11_least_13 (by decide) k) ?_
    exact y_iretU hf dX11_least_14 rfl
