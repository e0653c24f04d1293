theorem dX12_takesFrom_0 : decode cX12_takesFrom 0 = .ok (.aload_n 0, 1) := by decide +kernel
theorem dX12_takesFrom_1 : decode cX12_takesFrom 1 = .ok (.iload_n 1, 1) := by decide +kernel
theorem dX12_takesFrom_2 : decode cX12_takesFrom 2 = .ok (.invokevirtual 485, 3) := by decide +kernel
theorem dX12_takesFrom_5 : decode cX12_takesFrom 5 = .ok (.ifCond .eq 19, 3) := by decide +kernel
theorem dX12_takesFrom_8 : decode cX12_takesFrom 8 = .ok (.iload_n 2, 1) := by decide +kernel
theorem dX12_takesFrom_9 : decode cX12_takesFrom 9 = .ok (.iconst 0, 1) := by decide +kernel
theorem dX12_takesFrom_10 : decode cX12_takesFrom 10 = .ok (.aload_n 0, 1) := by decide +kernel
theorem dX12_takesFrom_11 : decode cX12_takesFrom 11 = .ok (.getfield 195, 3) := by decide +kernel
theorem dX12_takesFrom_14 : decode cX12_takesFrom 14 = .ok (.iload_n 1, 1) := by decide +kernel
theorem dX12_takesFrom_15 : decode cX12_takesFrom 15 = .ok (.iaload, 1) := by decide +kernel
theorem dX12_takesFrom_16 : decode cX12_takesFrom 16 = .ok (.iconst 1, 1) := by decide +kernel
theorem dX12_takesFrom_17 : decode cX12_takesFrom 17 = .ok (.isub, 1) := by decide +kernel
theorem dX12_takesFrom_18 : decode cX12_takesFrom 18 = .ok (.invokestatic 278, 3) := by decide +kernel
theorem dX12_takesFrom_21 : decode cX12_takesFrom 21 = .ok (.ifCond .ne 5, 3) := by decide +kernel
theorem dX12_takesFrom_24 : decode cX12_takesFrom 24 = .ok (.iconst 2, 1) := by decide +kernel
theorem dX12_takesFrom_25 : decode cX12_takesFrom 25 = .ok (.ireturn, 1) := by decide +kernel
theorem dX12_takesFrom_26 : decode cX12_takesFrom 26 = .ok (.aload_n 0, 1) := by decide +kernel
theorem dX12_takesFrom_27 : decode cX12_takesFrom 27 = .ok (.getfield 192, 3) := by decide +kernel
theorem dX12_takesFrom_30 : decode cX12_takesFrom 30 = .ok (.sipush 128, 3) := by decide +kernel
theorem dX12_takesFrom_33 : decode cX12_takesFrom 33 = .ok (.iload_n 1, 1) := by decide +kernel
theorem dX12_takesFrom_34 : decode cX12_takesFrom 34 = .ok (.imul, 1) := by decide +kernel
theorem dX12_takesFrom_35 : decode cX12_takesFrom 35 = .ok (.iload_n 2, 1) := by decide +kernel
theorem dX12_takesFrom_36 : decode cX12_takesFrom 36 = .ok (.iadd, 1) := by decide +kernel
theorem dX12_takesFrom_37 : decode cX12_takesFrom 37 = .ok (.iaload, 1) := by decide +kernel
theorem dX12_takesFrom_38 : decode cX12_takesFrom 38 = .ok (.istore_n 3, 1) := by decide +kernel
theorem dX12_takesFrom_39 : decode cX12_takesFrom 39 = .ok (.aload_n 0, 1) := by decide +kernel
theorem dX12_takesFrom_40 : decode cX12_takesFrom 40 = .ok (.iload_n 3, 1) := by decide +kernel
theorem dX12_takesFrom_41 : decode cX12_takesFrom 41 = .ok (.bipush (-9), 2) := by decide +kernel
theorem dX12_takesFrom_43 : decode cX12_takesFrom 43 = .ok (.if_icmp .ne 8, 3) := by decide +kernel
theorem dX12_takesFrom_46 : decode cX12_takesFrom 46 = .ok (.bipush (-9), 2) := by decide +kernel
theorem dX12_takesFrom_48 : decode cX12_takesFrom 48 = .ok (.goto 13, 3) := by decide +kernel
theorem dX12_takesFrom_51 : decode cX12_takesFrom 51 = .ok (.iload_n 1, 1) := by decide +kernel
theorem dX12_takesFrom_52 : decode cX12_takesFrom 52 = .ok (.iconst 3, 1) := by decide +kernel
theorem dX12_takesFrom_53 : decode cX12_takesFrom 53 = .ok (.if_icmp .ne 7, 3) := by decide +kernel
theorem dX12_takesFrom_56 : decode cX12_takesFrom 56 = .ok (.iconst 1, 1) := by decide +kernel
theorem dX12_takesFrom_57 : decode cX12_takesFrom 57 = .ok (.goto 4, 3) := by decide +kernel
theorem dX12_takesFrom_60 : decode cX12_takesFrom 60 = .ok (.iconst 0, 1) := by decide +kernel
theorem dX12_takesFrom_61 : decode cX12_takesFrom 61 = .ok (.iload_n 3, 1) := by decide +kernel
theorem dX12_takesFrom_62 : decode cX12_takesFrom 62 = .ok (.invokevirtual 491, 3) := by decide +kernel
theorem dX12_takesFrom_65 : decode cX12_takesFrom 65 = .ok (.iconst 0, 1) := by decide +kernel
theorem dX12_takesFrom_66 : decode cX12_takesFrom 66 = .ok (.ireturn, 1) := by decide +kernel
def M_X12_takesFrom : y_M := (yX12_takesFrom, cX12_takesFrom, 4, (Option.some Jvm.ClassFile.FieldType.int))
theorem n_X12_takesFrom : y_N0 M_X12_takesFrom 2 := ⟨(c_10 102 (by decide +kernel) rfl), (c_1 9 (by decide +kernel) rfl), ⟨by decide +kernel, by decide +kernel⟩, by decide +kernel⟩
theorem l_BoxYardModel_491 : y_lnk "BoxYardModel" 491 M_X12_leads := Or.inl (c_10 59 (by decide +kernel) rfl)
theorem i_X12_leads : Cond.instanceMethod (M_X12_leads).1 ∈ y_tb := (c_10 61 (by decide +kernel) rfl)
theorem e_X12_leads : Cond.selects (M_X12_leads).1.cls (M_X12_leads).1 (M_X12_leads).1 ∈ y_tb := (m_s 106 (by decide +kernel) rfl)
set_option maxRecDepth 100000 in
def f_X12_takesFrom (p0 : Nat) (p1 : Int32) (p2 : Int32) (h : y_H) : Option (Int32 × y_H) :=
  if y_K h p0 = 13 then
  y_cl (f_X12_isShelf p0 p1 h) (fun r1 h2 =>
  y_jn (fun (h4 : y_H) => (
      some (2, h4) : Option (Int32 × y_H))) (fun j24 =>
  if r1 = true then
    if y_K h2 p0 = 13 then
    if y_K h2 (y_P h2 p0 78) = 100 ∧ y_ix p1 (y_N h2 (y_P h2 p0 78)) = true then
    y_cl (f_X12_in p2 0 ((y_I h2 (y_P h2 p0 78) (Int32.toNatClampNeg p1)) - 1) h2) (fun r5 h6 =>
    if r5 = true then
      if y_K h6 p0 = 13 then
      if y_K h6 (y_P h6 p0 77) = 100 ∧ y_ix ((128 * p1) + p2) (y_N h6 (y_P h6 p0 77)) = true then
      if (y_I h6 (y_P h6 p0 77) (Int32.toNatClampNeg ((128 * p1) + p2))) = (-9 : Int32) then
        if y_K h6 p0 = 13 then
        y_cl (f_X12_leads p0 (-9 : Int32) (y_I h6 (y_P h6 p0 77) (Int32.toNatClampNeg ((128 * p1) + p2))) h6) (fun _ h15 =>
        some (0, h15))
        else none
      else
        if p1 = 3 then
          if y_K h6 p0 = 13 then
          y_cl (f_X12_leads p0 1 (y_I h6 (y_P h6 p0 77) (Int32.toNatClampNeg ((128 * p1) + p2))) h6) (fun _ h11 =>
          some (0, h11))
          else none
        else
          if y_K h6 p0 = 13 then
          y_cl (f_X12_leads p0 0 (y_I h6 (y_P h6 p0 77) (Int32.toNatClampNeg ((128 * p1) + p2))) h6) (fun _ h8 =>
          some (0, h8))
          else none
      else none
      else none
    else
      j24 h6)
    else none
    else none
  else
    j24 h2))
  else none
abbrev rm_X12_takesFrom : Room := { frames := 2, cells := 0, slots := 0, locals := 43 }
set_option maxRecDepth 100000 in
set_option maxHeartbeats 4000000 in
theorem k_X12_takesFrom {l : Launch} {G : y_G} {p0 : Nat} {p1 : Int32} {p2 : Int32} {h hz : y_H} {rz : Int32} (hf : f_X12_takesFrom p0 p1 p2 h = some (rz, hz)) : y_S l G M_X12_takesFrom rm_X12_takesFrom [y_p p0, .int p1, .int p2] h (some (.int rz)) hz := by
  refine y_start (lv := [(0, y_p p0), (1, .int p1), (2, .int p2)]) (by decide) (by simp [lg_sl, y_p_cat, y_ci, y_cj, M_X12_takesFrom]) (by simp [lv_args, y_p_cat, y_ci, y_cj]) (fun z ad0 => ?_)
  unfold f_X12_takesFrom at hf
  refine y_aload_n (x := p0) (pc2 := 1) rfl dX12_takesFrom_0 rfl ?_
  refine y_iload_n (pc2 := 2) rfl dX12_takesFrom_1 rfl ?_
  obtain ⟨g25, hf⟩ := y_g hf
  obtain ⟨r1, h2, c3, hf⟩ := y_clE hf
  refine y_callV (As := [.int p1]) (rm := rm_X12_isShelf) (cells := 0) (slots := 0) (pc2 := 5) rfl dX12_takesFrom_2 n_X12_isShelf l_BoxYardModel_485 i_X12_isShelf e_X12_isShelf (ci := 12) rfl rfl (by decide) g25 rfl rfl (by decide) (by decide) (by decide) (k_X12_isShelf c3) ?_
  refine y_jnE hf (fun j => ∀ (h4 : y_H), j h4 = some (rz, hz) → y_V l G z rm_X12_takesFrom M_X12_takesFrom ad0 h (some (.int rz)) hz 24 [] [] h4 0 0) (fun h4 hf => ?_) (fun j24 hj24 hf => ?_)
  · refine y_iconst (v := 2) (pc2 := 25) rfl dX12_takesFrom_24 (by decide) ?_
    exact y_iretF hf dX12_takesFrom_25 rfl (by decide) (by decide)
  · refine y_ifz_eq (tgt := 24) (pc2 := 8) rfl dX12_takesFrom_5 (by decide) (fun c24 => ?_) (fun c24 => ?_)
    · replace hf := y_ie c24 hf
      exact y_pk [] rfl (hj24 _ hf)
    · replace hf := y_it c24 hf
      refine y_iload_n (pc2 := 9) rfl dX12_takesFrom_8 rfl ?_
      refine y_iconst (v := 0) (pc2 := 10) rfl dX12_takesFrom_9 (by decide) ?_
      refine y_aload_n (x := p0) (pc2 := 11) rfl dX12_takesFrom_10 rfl ?_
      obtain ⟨g23, hf⟩ := y_g hf
      refine y_getP (pc2 := 14) rfl dX12_takesFrom_11 F_BoxYardModel_195 (by decide) rfl g23 ?_
      refine y_iload_n (pc2 := 15) rfl dX12_takesFrom_14 rfl ?_
      obtain ⟨g22, hf⟩ := y_g hf
      refine y_iald (pc2 := 16) rfl dX12_takesFrom_15 g22.1 (y_ix_in g22.2) ?_
      refine y_iconst (v := 1) (pc2 := 17) rfl dX12_takesFrom_16 (by decide) ?_
      refine y_isub (pc2 := 18) rfl dX12_takesFrom_17 ?_
      obtain ⟨r5, h6, c7, hf⟩ := y_clE hf
      refine y_callS (As := [.int p2, .int 0, .int ((y_I h2 (y_P h2 p0 78) (Int32.toNatClampNeg p1)) - 1)]) (rm := rm_X12_in) (cells := 0) (slots := 0) (pc2 := 21) rfl dX12_takesFrom_18 n_X12_in l_BoxYardModel_278 t_X12_in rfl rfl (by decide) (by decide) (by decide) (k_X12_in c7) ?_
      refine y_ifz_ne (tgt := 26) (pc2 := 24) rfl dX12_takesFrom_21 (by decide) (fun c21 => ?_) (fun c21 => ?_)
      · replace hf := y_it c21 hf
        refine y_aload_n (x := p0) (pc2 := 27) rfl dX12_takesFrom_26 rfl ?_
        obtain ⟨g20, hf⟩ := y_g hf
        refine y_getP (pc2 := 30) rfl dX12_takesFrom_27 F_BoxYardModel_192 (by decide) rfl g20 ?_
        refine y_sipush (v := 128) (pc2 := 33) rfl dX12_takesFrom_30 (by decide) ?_
        refine y_iload_n (pc2 := 34) rfl dX12_takesFrom_33 rfl ?_
        refine y_imul (pc2 := 35) rfl dX12_takesFrom_34 ?_
        refine y_iload_n (pc2 := 36) rfl dX12_takesFrom_35 rfl ?_
        refine y_iadd (pc2 := 37) rfl dX12_takesFrom_36 ?_
        obtain ⟨g19, hf⟩ := y_g hf
        refine y_iald (pc2 := 38) rfl dX12_takesFrom_37 g19.1 (y_ix_in g19.2) ?_
        refine y_istore_n (lv' := [(3, .int (y_I h6 (y_P h6 p0 77) (Int32.toNatClampNeg ((128 * p1) + p2)))), (0, y_p p0), (1, .int p1), (2, .int p2)]) (pc2 := 39) rfl dX12_takesFrom_38 (by decide) rfl ?_
        refine y_aload_n (x := p0) (pc2 := 40) rfl dX12_takesFrom_39 rfl ?_
        refine y_iload_n (pc2 := 41) rfl dX12_takesFrom_40 rfl ?_
        refine y_bipush (v := (-9 : Int32)) (pc2 := 43) rfl dX12_takesFrom_41 (by decide) ?_
        refine y_icmp_ne (tgt := 51) (pc2 := 46) rfl dX12_takesFrom_43 (by decide) (fun c18 => ?_) (fun c18 => ?_)
        · replace hf := y_ie c18 hf
          refine y_iload_n (pc2 := 52) rfl dX12_takesFrom_51 rfl ?_
          refine y_iconst (v := 3) (pc2 := 53) rfl dX12_takesFrom_52 (by decide) ?_
          refine y_icmp_ne (tgt := 60) (pc2 := 56) rfl dX12_takesFrom_53 (by decide) (fun c14 => ?_) (fun c14 => ?_)
          · replace hf := y_ie c14 hf
            refine y_iconst (v := 0) (pc2 := 61) rfl dX12_takesFrom_60 (by decide) ?_
            refine y_iload_n (pc2 := 62) rfl dX12_takesFrom_61 rfl ?_
            obtain ⟨g10, hf⟩ := y_g hf
            obtain ⟨r_, h8, c9, hf⟩ := y_clE hf
            refine y_callV (As := [.int 0, .int (y_I h6 (y_P h6 p0 77) (Int32.toNatClampNeg ((128 * p1) + p2)))]) (rm := rm_X12_leads) (cells := 0) (slots := 0) (pc2 := 65) rfl dX12_takesFrom_62 n_X12_leads l_BoxYardModel_491 i_X12_leads e_X12_leads (ci := 12) rfl rfl (by decide) g10 rfl rfl (by decide) (by decide) (by decide) (k_X12_leads c9) ?_
            refine y_iconst (v := 0) (pc2 := 66) rfl dX12_takesFrom_65 (by decide) ?_
            exact y_iretF hf dX12_takesFrom_66 rfl (by decide) (by decide)
          · replace hf := y_it c14 hf
            refine y_iconst (v := 1) (pc2 := 57) rfl dX12_takesFrom_56 (by decide) ?_
            refine y_goto (tgt := 61) dX12_takesFrom_57 (by decide) ?_
            refine y_iload_n (pc2 := 62) rfl dX12_takesFrom_61 rfl ?_
            obtain ⟨g13, hf⟩ := y_g hf
            obtain ⟨r_, h11, c12, hf⟩ := y_clE hf
            refine y_callV (As := [.int 1, .int (y_I h6 (y_P h6 p0 77) (Int32.toNatClampNeg ((128 * p1) + p2)))]) (rm := rm_X12_leads) (cells := 0) (slots := 0) (pc2 := 65) rfl dX12_takesFrom_62 n_X12_leads l_BoxYardModel_491 i_X12_leads e_X12_leads (ci := 12) rfl rfl (by decide) g13 rfl rfl (by decide) (by decide) (by decide) (k_X12_leads c12) ?_
            refine y_iconst (v := 0) (pc2 := 66) rfl dX12_takesFrom_65 (by decide) ?_
            exact y_iretF hf dX12_takesFrom_66 rfl (by decide) (by decide)
        · replace hf := y_it c18 hf
          refine y_bipush (v := (-9 : Int32)) (pc2 := 48) rfl dX12_takesFrom_46 (by decide) ?_
          refine y_goto (tgt := 61) dX12_takesFrom_48 (by decide) ?_
          refine y_iload_n (pc2 := 62) rfl dX12_takesFrom_61 rfl ?_
          obtain ⟨g17, hf⟩ := y_g hf
          obtain ⟨r_, h15, c16, hf⟩ := y_clE hf
          refine y_callV (As := [.int (-9 : Int32), .int (y_I h6 (y_P h6 p0 77) (Int32.toNatClampNeg ((128 * p1) + p2)))]) (rm := rm_X12_leads) (cells := 0) (slots := 0) (pc2 := 65) rfl dX12_takesFrom_62 n_X12_leads l_BoxYardModel_491 i_X12_leads e_X12_leads (ci := 12) rfl rfl (by decide) g17 rfl rfl (by decide) (by decide) (by decide) (k_X12_leads c16) ?_
          refine y_iconst (v := 0) (pc2 := 66) rfl dX12_takesFrom_65 (by decide) ?_
          exact y_iretF hf dX12_takesFrom_66 rfl (by decide) (by decide)
      · replace hf := y_ie c21 hf
        exact y_pk [] rfl (hj24 _ hf)
theorem dX12_makesShelf_0 : decode cX12_makesShelf 0 = .ok (.aload_n 0, 1) := by decide +kernel
theorem dX12_makesShelf_1 : decode cX12_makesShelf 1 = .ok (.iload_n 1, 1) := by decide +kernel
theorem dX12_makesShelf_2 : decode cX12_makesShelf 2 = .ok (.invokevirtual 485, 3) := by decide +kernel
theorem dX12_makesShelf_5 : decode cX12_makesShelf 5 = .ok (.ifCond .ne 5, 3) := by decide +kernel
theorem dX12_makesShelf_8 : decode cX12_makesShelf 8 = .ok (.iconst 2, 1) := by decide +kernel
theorem dX12_makesShelf_9 : decode cX12_makesShelf 9 = .ok (.ireturn, 1) := by decide +kernel
theorem dX12_makesShelf_10 : decode cX12_makesShelf 10 = .ok (.aload_n 0, 1) := by decide +kernel
theorem dX12_makesShelf_11 : decode cX12_makesShelf 11 = .ok (.getfield 274, 3) := by decide +kernel
theorem dX12_makesShelf_14 : decode cX12_makesShelf 14 = .ok (.l2i, 1) := by decide +kernel
theorem dX12_makesShelf_15 : decode cX12_makesShelf 15 = .ok (.i2b, 1) := by decide +kernel
theorem dX12_makesShelf_16 : decode cX12_makesShelf 16 = .ok (.istore_n 2, 1) := by decide +kernel
theorem dX12_makesShelf_17 : decode cX12_makesShelf 17 = .ok (.iload_n 2, 1) := by decide +kernel
theorem dX12_makesShelf_18 : decode cX12_makesShelf 18 = .ok (.ifCond .ge 6, 3) := by decide +kernel
theorem dX12_makesShelf_21 : decode cX12_makesShelf 21 = .ok (.bipush 7, 2) := by decide +kernel
theorem dX12_makesShelf_23 : decode cX12_makesShelf 23 = .ok (.ireturn, 1) := by decide +kernel
theorem dX12_makesShelf_24 : decode cX12_makesShelf 24 = .ok (.aload_n 0, 1) := by decide +kernel
theorem dX12_makesShelf_25 : decode cX12_makesShelf 25 = .ok (.getfield 195, 3) := by decide +kernel
theorem dX12_makesShelf_28 : decode cX12_makesShelf 28 = .ok (.iload_n 1, 1) := by decide +kernel
theorem dX12_makesShelf_29 : decode cX12_makesShelf 29 = .ok (.iload_n 2, 1) := by decide +kernel
theorem dX12_makesShelf_30 : decode cX12_makesShelf 30 = .ok (.iastore, 1) := by decide +kernel
theorem dX12_makesShelf_31 : decode cX12_makesShelf 31 = .ok (.iconst 0, 1) := by decide +kernel
theorem dX12_makesShelf_32 : decode cX12_makesShelf 32 = .ok (.istore_n 3, 1) := by decide +kernel
theorem dX12_makesShelf_33 : decode cX12_makesShelf 33 = .ok (.iload_n 3, 1) := by decide +kernel
theorem dX12_makesShelf_34 : decode cX12_makesShelf 34 = .ok (.iload_n 2, 1) := by decide +kernel
theorem dX12_makesShelf_35 : decode cX12_makesShelf 35 = .ok (.if_icmp .ge 23, 3) := by decide +kernel
theorem dX12_makesShelf_38 : decode cX12_makesShelf 38 = .ok (.aload_n 0, 1) := by decide +kernel
theorem dX12_makesShelf_39 : decode cX12_makesShelf 39 = .ok (.getfield 192, 3) := by decide +kernel
theorem dX12_makesShelf_42 : decode cX12_makesShelf 42 = .ok (.sipush 128, 3) := by decide +kernel
theorem dX12_makesShelf_45 : decode cX12_makesShelf 45 = .ok (.iload_n 1, 1) := by decide +kernel
theorem dX12_makesShelf_46 : decode cX12_makesShelf 46 = .ok (.imul, 1) := by decide +kernel
theorem dX12_makesShelf_47 : decode cX12_makesShelf 47 = .ok (.iload_n 3, 1) := by decide +kernel
theorem dX12_makesShelf_48 : decode cX12_makesShelf 48 = .ok (.iadd, 1) := by decide +kernel
theorem dX12_makesShelf_49 : decode cX12_makesShelf 49 = .ok (.bipush (-9), 2) := by decide +kernel
theorem dX12_makesShelf_51 : decode cX12_makesShelf 51 = .ok (.iastore, 1) := by decide +kernel
theorem dX12_makesShelf_52 : decode cX12_makesShelf 52 = .ok (.iinc 3 1, 3) := by decide +kernel
theorem dX12_makesShelf_55 : decode cX12_makesShelf 55 = .ok (.goto (-22), 3) := by decide +kernel
theorem dX12_makesShelf_58 : decode cX12_makesShelf 58 = .ok (.iconst 0, 1) := by decide +kernel
theorem dX12_makesShelf_59 : decode cX12_makesShelf 59 = .ok (.ireturn, 1) := by decide +kernel
def M_X12_makesShelf : y_M := (yX12_makesShelf, cX12_makesShelf, 4, (Option.some Jvm.ClassFile.FieldType.int))
theorem n_X12_makesShelf : y_N0 M_X12_makesShelf 1 := ⟨(c_10 106 (by decide +kernel) rfl), (c_1 9 (by decide +kernel) rfl), ⟨by decide +kernel, by decide +kernel⟩, by decide +kernel⟩
theorem F_BoxYardModel_274 : y_F "BoxYardModel" 274 12 80 := ⟨_, _, _, rfl, by decide, Or.inl (c_7 202 (by decide +kernel) rfl)⟩
set_option maxRecDepth 100000 in
def f_X12_makesShelf (p0 : Nat) (p1 : Int32) (h : y_H) : Option (Int32 × y_H) :=
  if y_K h p0 = 13 then
  y_cl (f_X12_isShelf p0 p1 h) (fun r1 h2 =>
  if r1 = true then
    if y_K h2 p0 = 13 then
    if 0 ≤ (Int8.toInt32 (Int32.toInt8 (Int64.toInt32 (y_L h2 p0 80)))) then
      if y_K h2 p0 = 13 then
      if y_K h2 (y_P h2 p0 78) = 100 ∧ y_ix p1 (y_N h2 (y_P h2 p0 78)) = true then
      y_bd (s_I h2 (y_P h2 p0 78) (Int32.toNatClampNeg p1) (Int8.toInt32 (Int32.toInt8 (Int64.toInt32 (y_L h2 p0 80))))) (fun h4 =>
      y_jl (fun (_ : Nat) (_ : Int32) (_ : Int32) (_ : Int32) (_ : y_H) => (none : Option (Int32 × y_H))) (fun j33 (v0_33 : Nat) (v1_33 : Int32) (v2_33 : Int32) (v3_33 : Int32) (h7 : y_H) =>
          if v2_33 ≤ v3_33 then
            some (0, h7)
          else
            if y_K h7 v0_33 = 13 then
            if y_K h7 (y_P h7 v0_33 77) = 100 ∧ y_ix ((128 * v1_33) + v3_33) (y_N h7 (y_P h7 v0_33 77)) = true then
            y_bd (s_I h7 (y_P h7 v0_33 77) (Int32.toNatClampNeg ((128 * v1_33) + v3_33)) (-9 : Int32)) (fun h8 =>
            j33 v0_33 v1_33 v2_33 (v3_33 + 1) h8)
            else none
            else none) (fun j33 =>
      j33 p0 p1 (Int8.toInt32 (Int32.toInt8 (Int64.toInt32 (y_L h2 p0 80)))) 0 h4))
      else none
      else none
    else
      some (7, h2)
    else none
  else
    some (2, h2))
  else none
abbrev rm_X12_makesShelf : Room := { frames := 2, cells := 0, slots := 0, locals := 43 }
set_option maxRecDepth 100000 in
set_option maxHeartbeats 4000000 in
theorem k_X12_makesShelf {l : Launch} {G : y_G} {p0 : Nat} {p1 : Int32} {h hz : y_H} {rz : Int32} (hf : f_X12_makesShelf p0 p1 h = some (rz, hz)) : y_S l G M_X12_makesShelf rm_X12_makesShelf [y_p p0, .int p1] h (some (.int rz)) hz := by
  refine y_start (lv := [(0, y_p p0), (1, .int p1)]) (by decide) (by simp [lg_sl, y_p_cat, y_ci, y_cj, M_X12_makesShelf]) (by simp [lv_args, y_p_cat, y_ci, y_cj]) (fun z ad0 => ?_)
  unfold f_X12_makesShelf at hf
  refine y_aload_n (x := p0) (pc2 := 1) rfl dX12_makesShelf_0 rfl ?_
  refine y_iload_n (pc2 := 2) rfl dX12_makesShelf_1 rfl ?_
  obtain ⟨g17, hf⟩ := y_g hf
  obtain ⟨r1, h2, c3, hf⟩ := y_clE hf
  refine y_callV (As := [.int p1]) (rm := rm_X12_isShelf) (cells := 0) (slots := 0) (pc2 := 5) rfl dX12_makesShelf_2 n_X12_isShelf l_BoxYardModel_485 i_X12_isShelf e_X12_isShelf (ci := 12) rfl rfl (by decide) g17 rfl rfl (by decide) (by decide) (by decide) (k_X12_isShelf c3) ?_
  refine y_ifz_ne (tgt := 10) (pc2 := 8) rfl dX12_makesShelf_5 (by decide) (fun c16 => ?_) (fun c16 => ?_)
  · replace hf := y_it c16 hf
    refine y_aload_n (x := p0) (pc2 := 11) rfl dX12_makesShelf_10 rfl ?_
    obtain ⟨g15, hf⟩ := y_g hf
    refine y_getL (pc2 := 14) rfl dX12_makesShelf_11 F_BoxYardModel_274 (by decide) rfl g15 ?_
    refine y_l2i (pc2 := 15) rfl dX12_makesShelf_14 ?_
    refine y_i2b (pc2 := 16) rfl dX12_makesShelf_15 ?_
    refine y_istore_n (lv' := [(2, .int (Int8.toInt32 (Int32.toInt8 (Int64.toInt32 (y_L h2 p0 80))))), (0, y_p p0), (1, .int p1)]) (pc2 := 17) rfl dX12_makesShelf_16 (by decide) rfl ?_
    refine y_iload_n (pc2 := 18) rfl dX12_makesShelf_17 rfl ?_
    refine y_if_ge (tgt := 24) (pc2 := 21) rfl dX12_makesShelf_18 (by decide) (fun c14 => ?_) (fun c14 => ?_)
    · replace hf := y_it c14 hf
      refine y_aload_n (x := p0) (pc2 := 25) rfl dX12_makesShelf_24 rfl ?_
      obtain ⟨g13, hf⟩ := y_g hf
      refine y_getP (pc2 := 28) rfl dX12_makesShelf_25 F_BoxYardModel_195 (by decide) rfl g13 ?_
      refine y_iload_n (pc2 := 29) rfl dX12_makesShelf_28 rfl ?_
      refine y_iload_n (pc2 := 30) rfl dX12_makesShelf_29 rfl ?_
      obtain ⟨g6, hf⟩ := y_g hf
      obtain ⟨h4, e5, hf⟩ := y_bdE hf
      refine y_iast (x := Int8.toInt32 (Int32.toInt8 (Int64.toInt32 (y_L h2 p0 80)))) (pc2 := 31) rfl dX12_makesShelf_30 g6.1 (y_ix_in g6.2) e5 ?_
      refine y_iconst (v := 0) (pc2 := 32) rfl dX12_makesShelf_31 (by decide) ?_
      refine y_jlE hf (fun j => ∀ (v0_33 : Nat) (v1_33 : Int32) (v2_33 : Int32) (v3_33 : Int32) (h7 : y_H), j v0_33 v1_33 v2_33 v3_33 h7 = some (rz, hz) → y_V l G z rm_X12_makesShelf M_X12_makesShelf ad0 h (some (.int rz)) hz 33 [(0, y_p v0_33), (1, .int v1_33), (2, .int v2_33), (3, .int v3_33)] [] h7 0 0) (fun _ _ _ _ _ hf => by cases hf) (fun j33 hj33 v0_33 v1_33 v2_33 v3_33 h7 hf => ?_) (fun j33 hj33 hf => ?_)
      · refine y_iload_n (pc2 := 34) rfl dX12_makesShelf_33 rfl ?_
        refine y_iload_n (pc2 := 35) rfl dX12_makesShelf_34 rfl ?_
        refine y_icmp_ge (tgt := 58) (pc2 := 38) rfl dX12_makesShelf_35 (by decide) (fun c12 => ?_) (fun c12 => ?_)
        · replace hf := y_it c12 hf
          refine y_iconst (v := 0) (pc2 := 59) rfl dX12_makesShelf_58 (by decide) ?_
          exact y_iretF hf dX12_makesShelf_59 rfl (by decide) (by decide)
        · replace hf := y_ie c12 hf
          refine y_aload_n (x := v0_33) (pc2 := 39) rfl dX12_makesShelf_38 rfl ?_
          obtain ⟨g11, hf⟩ := y_g hf
          refine y_getP (pc2 := 42) rfl dX12_makesShelf_39 F_BoxYardModel_192 (by decide) rfl g11 ?_
          refine y_sipush (v := 128) (pc2 := 45) rfl dX12_makesShelf_42 (by decide) ?_
          refine y_iload_n (pc2 := 46) rfl dX12_makesShelf_45 rfl ?_
          refine y_imul (pc2 := 47) rfl dX12_makesShelf_46 ?_
          refine y_iload_n (pc2 := 48) rfl dX12_makesShelf_47 rfl ?_
          refine y_iadd (pc2 := 49) rfl dX12_makesShelf_48 ?_
          refine y_bipush (v := (-9 : Int32)) (pc2 := 51) rfl dX12_makesShelf_49 (by decide) ?_
          obtain ⟨g10, hf⟩ := y_g hf
          obtain ⟨h8, e9, hf⟩ := y_bdE hf
          refine y_iast (x := (-9 : Int32)) (pc2 := 52) rfl dX12_makesShelf_51 g10.1 (y_ix_in g10.2) e9 ?_
          refine y_iinc (v := v3_33 + 1) (lv' := [(3, .int (v3_33 + 1)), (0, y_p v0_33), (1, .int v1_33), (2, .int v2_33)]) (pc2 := 55) rfl dX12_makesShelf_52 rfl rfl (by decide) rfl ?_
          refine y_goto (tgt := 33) dX12_makesShelf_55 (by decide) ?_
          exact y_pk [1, 2, 3, 0] rfl (hj33 _ _ _ _ _ hf)
      · refine y_istore_n (lv' := [(3, .int 0), (2, .int (Int8.toInt32 (Int32.toInt8 (Int64.toInt32 (y_L h2 p0 80))))), (0, y_p p0), (1, .int p1)]) (pc2 := 33) rfl dX12_makesShelf_32 (by decide) rfl ?_
        exact y_pk [2, 3, 1, 0] rfl (hj33 _ _ _ _ _ hf)
    · replace hf := y_ie c14 hf
      refine y_bipush (v := 7) (pc2 := 23) rfl dX12_makesShelf_21 (by decide) ?_
      exact y_iretF hf dX12_makesShelf_23 rfl (by decide) (by decide)
  · replace hf := y_ie c16 hf
    refine y_iconst (v := 2) (pc2 := 9) rfl dX12_makesShelf_8 (by decide) ?_
    exact y_iretF hf dX12_makesShelf_9 rfl (by decide) (by decide)
theorem dX12_looksAs_0 : decode cX12_looksAs 0 = .ok (.aload_n 0, 1) := by decide +kernel
theorem dX12_looksAs_1 : decode cX12_looksAs 1 = .ok (.getfield 198, 3) := by decide +kernel
theorem dX12_looksAs_4 : decode cX12_looksAs 4 = .ok (.bipush (-9), 2) := by decide +kernel
theorem dX12_looksAs_6 : decode cX12_looksAs 6 = .ok (.if_icmp .eq 13, 3) := by decide +kernel
theorem dX12_looksAs_9 : decode cX12_looksAs 9 = .ok (.iload_n 1, 1) := by decide +kernel
theorem dX12_looksAs_10 : decode cX12_looksAs 10 = .ok (.ifCond .lt 9, 3) := by decide +kernel
theorem dX12_looksAs_13 : decode cX12_looksAs 13 = .ok (.iload_n 1, 1) := by decide +kernel
theorem dX12_looksAs_14 : decode cX12_looksAs 14 = .ok (.bipush 7, 2) := by decide +kernel
theorem dX12_looksAs_16 : decode cX12_looksAs 16 = .ok (.if_icmp .le 5, 3) := by decide +kernel
theorem dX12_looksAs_19 : decode cX12_looksAs 19 = .ok (.iconst 0, 1) := by decide +kernel
theorem dX12_looksAs_20 : decode cX12_looksAs 20 = .ok (.ireturn, 1) := by decide +kernel
theorem dX12_looksAs_21 : decode cX12_looksAs 21 = .ok (.iload_n 1, 1) := by decide +kernel
theorem dX12_looksAs_22 : decode cX12_looksAs 22 = .ok (.bipush 7, 2) := by decide +kernel
theorem dX12_looksAs_24 : decode cX12_looksAs 24 = .ok (.if_icmp .ne 19, 3) := by decide +kernel
theorem dX12_looksAs_27 : decode cX12_looksAs 27 = .ok (.aload_n 0, 1) := by decide +kernel
theorem dX12_looksAs_28 : decode cX12_looksAs 28 = .ok (.getfield 198, 3) := by decide +kernel
theorem dX12_looksAs_31 : decode cX12_looksAs 31 = .ok (.iconst 1, 1) := by decide +kernel
theorem dX12_looksAs_32 : decode cX12_looksAs 32 = .ok (.if_icmp .ne 7, 3) := by decide +kernel
theorem dX12_looksAs_35 : decode cX12_looksAs 35 = .ok (.iconst 1, 1) := by decide +kernel
theorem dX12_looksAs_36 : decode cX12_looksAs 36 = .ok (.goto 37, 3) := by decide +kernel
theorem dX12_looksAs_39 : decode cX12_looksAs 39 = .ok (.iconst 0, 1) := by decide +kernel
theorem dX12_looksAs_40 : decode cX12_looksAs 40 = .ok (.goto 33, 3) := by decide +kernel
theorem dX12_looksAs_43 : decode cX12_looksAs 43 = .ok (.aload_n 0, 1) := by decide +kernel
theorem dX12_looksAs_44 : decode cX12_looksAs 44 = .ok (.getfield 198, 3) := by decide +kernel
theorem dX12_looksAs_47 : decode cX12_looksAs 47 = .ok (.ifCond .ne 25, 3) := by decide +kernel
theorem dX12_looksAs_50 : decode cX12_looksAs 50 = .ok (.iload_n 1, 1) := by decide +kernel
theorem dX12_looksAs_51 : decode cX12_looksAs 51 = .ok (.bipush 6, 2) := by decide +kernel
theorem dX12_looksAs_53 : decode cX12_looksAs 53 = .ok (.if_icmp .eq 15, 3) := by decide +kernel
theorem dX12_looksAs_56 : decode cX12_looksAs 56 = .ok (.aload_n 0, 1) := by decide +kernel
theorem dX12_looksAs_57 : decode cX12_looksAs 57 = .ok (.aload_n 0, 1) := by decide +kernel
theorem dX12_looksAs_58 : decode cX12_looksAs 58 = .ok (.getfield 201, 3) := by decide +kernel
theorem dX12_looksAs_61 : decode cX12_looksAs 61 = .ok (.iload_n 1, 1) := by decide +kernel
theorem dX12_looksAs_62 : decode cX12_looksAs 62 = .ok (.invokevirtual 488, 3) := by decide +kernel
theorem dX12_looksAs_65 : decode cX12_looksAs 65 = .ok (.ifCond .eq 7, 3) := by decide +kernel
theorem dX12_looksAs_68 : decode cX12_looksAs 68 = .ok (.iconst 1, 1) := by decide +kernel
theorem dX12_looksAs_69 : decode cX12_looksAs 69 = .ok (.goto 4, 3) := by decide +kernel
theorem dX12_looksAs_72 : decode cX12_looksAs 72 = .ok (.iconst 0, 1) := by decide +kernel
theorem dX12_looksAs_73 : decode cX12_looksAs 73 = .ok (.istore_n 2, 1) := by decide +kernel
theorem dX12_looksAs_74 : decode cX12_looksAs 74 = .ok (.iload_n 2, 1) := by decide +kernel
theorem dX12_looksAs_75 : decode cX12_looksAs 75 = .ok (.ifCond .eq 7, 3) := by decide +kernel
theorem dX12_looksAs_78 : decode cX12_looksAs 78 = .ok (.iconst 0, 1) := by decide +kernel
theorem dX12_looksAs_79 : decode cX12_looksAs 79 = .ok (.goto 4, 3) := by decide +kernel
theorem dX12_looksAs_82 : decode cX12_looksAs 82 = .ok (.iconst 5, 1) := by decide +kernel
theorem dX12_looksAs_83 : decode cX12_looksAs 83 = .ok (.ireturn, 1) := by decide +kernel
def M_X12_looksAs : y_M := (yX12_looksAs, cX12_looksAs, 3, (Option.some Jvm.ClassFile.FieldType.int))
theorem n_X12_looksAs : y_N0 M_X12_looksAs 1 := ⟨(c_10 110 (by decide +kernel) rfl), (c_1 9 (by decide +kernel) rfl), ⟨by decide +kernel, by decide +kernel⟩, by decide +kernel⟩
set_option maxRecDepth 100000 in
def f_X12_looksAs (p0 : Nat) (p1 : Int32) (h : y_H) : Option (Int32 × y_H) :=
  if y_K h p0 = 13 then
  y_jn (fun (h1 : y_H) => (
      some (0, h1) : Option (Int32 × y_H))) (fun j19 =>
  if (y_I h p0 81) = (-9 : Int32) then
    j19 h
  else
    if p1 < 0 then
      j19 h
    else
      if p1 ≤ 7 then
        if p1 = 7 then
          if y_K h p0 = 13 then
          if (y_I h p0 81) = 1 then
            if (1 : Int32) = 0 then
              some (5, h)
            else
              some (0, h)
          else
            if (0 : Int32) = 0 then
              some (5, h)
            else
              some (0, h)
          else none
        else
          if y_K h p0 = 13 then
          y_jn (fun (h2 : y_H) => (
              if (0 : Int32) = 0 then
                some (5, h2)
              else
                some (0, h2) : Option (Int32 × y_H))) (fun j72 =>
          if (y_I h p0 81) = 0 then
            y_jn (fun (h4 : y_H) => (
                if (1 : Int32) = 0 then
                  some (5, h4)
                else
                  some (0, h4) : Option (Int32 × y_H))) (fun j68 =>
            if p1 = 6 then
              j68 h
            else
              if y_K h p0 = 13 then
              if y_K h p0 = 13 then
              y_cl (f_X12_isKind p0 (y_I h p0 82) p1 h) (fun r6 h7 =>
              if r6 = true then
                j68 h7
              else
                j72 h7)
              else none
              else none)
          else
            j72 h)
          else none
      else
        j19 h)
  else none
abbrev rm_X12_looksAs : Room := { frames := 2, cells := 0, slots := 0, locals := 43 }
set_option maxRecDepth 100000 in
set_option maxHeartbeats 4000000 in
theorem k_X12_looksAs {l : Launch} {G : y_G} {p0 : Nat} {p1 : Int32} {h hz : y_H} {rz : Int32} (hf : f_X12_looksAs p0 p1 h = some (rz, hz)) : y_S l G M_X12_looksAs rm_X12_looksAs [y_p p0, .int p1] h (some (.int rz)) hz := by
  refine y_start (lv := [(0, y_p p0), (1, .int p1)]) (by decide) (by simp [lg_sl, y_p_cat, y_ci, y_cj, M_X12_looksAs]) (by simp [lv_args, y_p_cat, y_ci, y_cj]) (fun z ad0 => ?_)
  unfold f_X12_looksAs at hf
  refine y_aload_n (x := p0) (pc2 := 1) rfl dX12_looksAs_0 rfl ?_
  obtain ⟨g23, hf⟩ := y_g hf
  refine y_getI (pc2 := 4) rfl dX12_looksAs_1 F_BoxYardModel_198 (by decide) rfl g23 ?_
  refine y_bipush (v := (-9 : Int32)) (pc2 := 6) rfl dX12_looksAs_4 (by decide) ?_
  refine y_jnE hf (fun j => ∀ (h1 : y_H), j h1 = some (rz, hz) → y_V l G z rm_X12_looksAs M_X12_looksAs ad0 h (some (.int rz)) hz 19 [] [] h1 0 0) (fun h1 hf => ?_) (fun j19 hj19 hf => ?_)
  · refine y_iconst (v := 0) (pc2 := 20) rfl dX12_looksAs_19 (by decide) ?_
    exact y_iretF hf dX12_looksAs_20 rfl (by decide) (by decide)
  · refine y_icmp_eq (tgt := 19) (pc2 := 9) rfl dX12_looksAs_6 (by decide) (fun c22 => ?_) (fun c22 => ?_)
    · replace hf := y_it c22 hf
      exact y_pk [] rfl (hj19 _ hf)
    · replace hf := y_ie c22 hf
      refine y_iload_n (pc2 := 10) rfl dX12_looksAs_9 rfl ?_
      refine y_if_lt (tgt := 19) (pc2 := 13) rfl dX12_looksAs_10 (by decide) (fun c21 => ?_) (fun c21 => ?_)
      · replace hf := y_it c21 hf
        exact y_pk [] rfl (hj19 _ hf)
      · replace hf := y_ie c21 hf
        refine y_iload_n (pc2 := 14) rfl dX12_looksAs_13 rfl ?_
        refine y_bipush (v := 7) (pc2 := 16) rfl dX12_looksAs_14 (by decide) ?_
        refine y_icmp_le (tgt := 21) (pc2 := 19) rfl dX12_looksAs_16 (by decide) (fun c20 => ?_) (fun c20 => ?_)
        · replace hf := y_it c20 hf
          refine y_iload_n (pc2 := 22) rfl dX12_looksAs_21 rfl ?_
          refine y_bipush (v := 7) (pc2 := 24) rfl dX12_looksAs_22 (by decide) ?_
          refine y_icmp_ne (tgt := 43) (pc2 := 27) rfl dX12_looksAs_24 (by decide) (fun c19 => ?_) (fun c19 => ?_)
          · replace hf := y_ie c19 hf
            refine y_aload_n (x := p0) (pc2 := 44) rfl dX12_looksAs_43 rfl ?_
            obtain ⟨g14, hf⟩ := y_g hf
            refine y_getI (pc2 := 47) rfl dX12_looksAs_44 F_BoxYardModel_198 (by decide) rfl g14 ?_
            refine y_jnE hf (fun j => ∀ (h2 : y_H), j h2 = some (rz, hz) → y_V l G z rm_X12_looksAs M_X12_looksAs ad0 h (some (.int rz)) hz 72 [] [] h2 0 0) (fun h2 hf => ?_) (fun j72 hj72 hf => ?_)
            · refine y_iconst (v := 0) (pc2 := 73) rfl dX12_looksAs_72 (by decide) ?_
              refine y_istore_n (lv' := [(2, .int 0)]) (pc2 := 74) rfl dX12_looksAs_73 (by decide) rfl ?_
              refine y_iload_n (pc2 := 75) rfl dX12_looksAs_74 rfl ?_
              refine y_if_eq (tgt := 82) (pc2 := 78) rfl dX12_looksAs_75 (by decide) (fun c3 => ?_) (fun c3 => ?_)
              · replace hf := y_it c3 hf
                refine y_iconst (v := 5) (pc2 := 83) rfl dX12_looksAs_82 (by decide) ?_
                exact y_iretF hf dX12_looksAs_83 rfl (by decide) (by decide)
              · replace hf := y_ie c3 hf
                refine y_iconst (v := 0) (pc2 := 79) rfl dX12_looksAs_78 (by decide) ?_
                refine y_goto (tgt := 83) dX12_looksAs_79 (by decide) ?_
                exact y_iretF hf dX12_looksAs_83 rfl (by decide) (by decide)
            · refine y_if_ne (tgt := 72) (pc2 := 50) rfl dX12_looksAs_47 (by decide) (fun c13 => ?_) (fun c13 => ?_)
              · replace hf := y_ie c13 hf
                exact y_pk [] rfl (hj72 _ hf)
              · replace hf := y_it c13 hf
                refine y_iload_n (pc2 := 51) rfl dX12_looksAs_50 rfl ?_
                refine y_bipush (v := 6) (pc2 := 53) rfl dX12_looksAs_51 (by decide) ?_
                refine y_jnE hf (fun j => ∀ (h4 : y_H), j h4 = some (rz, hz) → y_V l G z rm_X12_looksAs M_X12_looksAs ad0 h (some (.int rz)) hz 68 [] [] h4 0 0) (fun h4 hf => ?_) (fun j68 hj68 hf => ?_)
                · refine y_iconst (v := 1) (pc2 := 69) rfl dX12_looksAs_68 (by decide) ?_
                  refine y_goto (tgt := 73) dX12_looksAs_69 (by decide) ?_
                  refine y_istore_n (lv' := [(2, .int 1)]) (pc2 := 74) rfl dX12_looksAs_73 (by decide) rfl ?_
                  refine y_iload_n (pc2 := 75) rfl dX12_looksAs_74 rfl ?_
                  refine y_if_eq (tgt := 82) (pc2 := 78) rfl dX12_looksAs_75 (by decide) (fun c5 => ?_) (fun c5 => ?_)
                  · replace hf := y_it c5 hf
                    refine y_iconst (v := 5) (pc2 := 83) rfl dX12_looksAs_82 (by decide) ?_
                    exact y_iretF hf dX12_looksAs_83 rfl (by decide) (by decide)
                  · replace hf := y_ie c5 hf
                    refine y_iconst (v := 0) (pc2 := 79) rfl dX12_looksAs_78 (by decide) ?_
                    refine y_goto (tgt := 83) dX12_looksAs_79 (by decide) ?_
                    exact y_iretF hf dX12_looksAs_83 rfl (by decide) (by decide)
                · refine y_icmp_eq (tgt := 68) (pc2 := 56) rfl dX12_looksAs_53 (by decide) (fun c12 => ?_) (fun c12 => ?_)
                  · replace hf := y_it c12 hf
                    exact y_pk [] rfl (hj68 _ hf)
                  · replace hf := y_ie c12 hf
                    refine y_aload_n (x := p0) (pc2 := 57) rfl dX12_looksAs_56 rfl ?_
                    refine y_aload_n (x := p0) (pc2 := 58) rfl dX12_looksAs_57 rfl ?_
                    obtain ⟨g11, hf⟩ := y_g hf
                    refine y_getI (pc2 := 61) rfl dX12_looksAs_58 F_BoxYardModel_201 (by decide) rfl g11 ?_
                    refine y_iload_n (pc2 := 62) rfl dX12_looksAs_61 rfl ?_
                    obtain ⟨g10, hf⟩ := y_g hf
                    obtain ⟨r6, h7, c8, hf⟩ := y_clE hf
                    refine y_callV (As := [.int (y_I h p0 82), .int p1]) (rm := rm_X12_isKind) (cells := 0) (slots := 0) (pc2 := 65) rfl dX12_looksAs_62 n_X12_isKind l_BoxYardModel_488 i_X12_isKind e_X12_isKind (ci := 12) rfl rfl (by decide) g10 rfl rfl (by decide) (by decide) (by decide) (k_X12_isKind c8) ?_
                    refine y_ifz_eq (tgt := 72) (pc2 := 68) rfl dX12_looksAs_65 (by decide) (fun c9 => ?_) (fun c9 => ?_)
                    · replace hf := y_ie c9 hf
                      exact y_pk [] rfl (hj72 _ hf)
                    · replace hf := y_it c9 hf
                      exact y_pk [] rfl (hj68 _ hf)
          · replace hf := y_it c19 hf
            refine y_aload_n (x := p0) (pc2 := 28) rfl dX12_looksAs_27 rfl ?_
            obtain ⟨g18, hf⟩ := y_g hf
            refine y_getI (pc2 := 31) rfl dX12_looksAs_28 F_BoxYardModel_198 (by decide) rfl g18 ?_
            refine y_iconst (v := 1) (pc2 := 32) rfl dX12_looksAs_31 (by decide) ?_
            refine y_icmp_ne (tgt := 39) (pc2 := 35) rfl dX12_looksAs_32 (by decide) (fun c17 => ?_) (fun c17 => ?_)
            · replace hf := y_ie c17 hf
              refine y_iconst (v := 0) (pc2 := 40) rfl dX12_looksAs_39 (by decide) ?_
              refine y_goto (tgt := 73) dX12_looksAs_40 (by decide) ?_
              refine y_istore_n (lv' := [(2, .int 0), (0, y_p p0), (1, .int p1)]) (pc2 := 74) rfl dX12_looksAs_73 (by decide) rfl ?_
              refine y_iload_n (pc2 := 75) rfl dX12_looksAs_74 rfl ?_
              refine y_if_eq (tgt := 82) (pc2 := 78) rfl dX12_looksAs_75 (by decide) (fun c15 => ?_) (fun c15 => ?_)
              · replace hf := y_it c15 hf
                refine y_iconst (v := 5) (pc2 := 83) rfl dX12_looksAs_82 (by decide) ?_
                exact y_iretF hf dX12_looksAs_83 rfl (by decide) (by decide)
              · replace hf := y_ie c15 hf
                refine y_iconst (v := 0) (pc2 := 79) rfl dX12_looksAs_78 (by decide) ?_
                refine y_goto (tgt := 83) dX12_looksAs_79 (by decide) ?_
                exact y_iretF hf dX12_looksAs_83 rfl (by decide) (by decide)
            · replace hf := y_it c17 hf
              refine y_iconst (v := 1) (pc2 := 36) rfl dX12_looksAs_35 (by decide) ?_
              refine y_goto (tgt := 73) dX12_looksAs_36 (by decide) ?_
              refine y_istore_n (lv' := [(2, .int 1), (0, y_p p0), (1, .int p1)]) (pc2 := 74) rfl dX12_looksAs_73 (by decide) rfl ?_
              refine y_iload_n (pc2 := 75) rfl dX12_looksAs_74 rfl ?_
              refine y_if_eq (tgt := 82) (pc2 := 78) rfl dX12_looksAs_75 (by decide) (fun c16 => ?_) (fun c16 => ?_)
              · replace hf := y_it c16 hf
                refine y_iconst (v := 5) (pc2 := 83) rfl dX12_looksAs_82 (by decide) ?_
                exact y_iretF hf dX12_looksAs_83 rfl (by decide) (by decide)
              · replace hf := y_ie c16 hf
                refine y_iconst (v := 0) (pc2 := 79) rfl dX12_looksAs_78 (by decide) ?_
                refine y_goto (tgt := 83) dX12_looksAs_79 (by decide) ?_
                exact y_iretF hf dX12_looksAs_83 rfl (by decide) (by decide)
        · replace hf := y_ie c20 hf
          exact y_pk [] rfl (hj19 _ hf)
theorem dX12_topOfBay_0 : decode cX12_topOfBay 0 = .ok (.aload_n 0, 1) := by decide +kernel
theorem dX12_topOfBay_1 : decode cX12_topOfBay 1 = .ok (.iconst 2, 1) := by decide +kernel
theorem dX12_topOfBay_2 : decode cX12_topOfBay 2 = .ok (.invokevirtual 494, 3) := by decide +kernel
theorem dX12_topOfBay_5 : decode cX12_topOfBay 5 = .ok (.istore_n 2, 1) := by decide +kernel
theorem dX12_topOfBay_6 : decode cX12_topOfBay 6 = .ok (.iload_n 2, 1) := by decide +kernel
theorem dX12_topOfBay_7 : decode cX12_topOfBay 7 = .ok (.ifCond .le 5, 3) := by decide +kernel
theorem dX12_topOfBay_10 : decode cX12_topOfBay 10 = .ok (.iload_n 2, 1) := by decide +kernel
theorem dX12_topOfBay_11 : decode cX12_topOfBay 11 = .ok (.ireturn, 1) := by decide +kernel
theorem dX12_topOfBay_12 : decode cX12_topOfBay 12 = .ok (.aload_n 0, 1) := by decide +kernel
theorem dX12_topOfBay_13 : decode cX12_topOfBay 13 = .ok (.aload_n 0, 1) := by decide +kernel
theorem dX12_topOfBay_14 : decode cX12_topOfBay 14 = .ok (.getfield 201, 3) := by decide +kernel
theorem dX12_topOfBay_17 : decode cX12_topOfBay 17 = .ok (.iload_n 1, 1) := by decide +kernel
theorem dX12_topOfBay_18 : decode cX12_topOfBay 18 = .ok (.invokevirtual 319, 3) := by decide +kernel
theorem dX12_topOfBay_21 : decode cX12_topOfBay 21 = .ok (.ifCond .ne 5, 3) := by decide +kernel
theorem dX12_topOfBay_24 : decode cX12_topOfBay 24 = .ok (.iconst 2, 1) := by decide +kernel
theorem dX12_topOfBay_25 : decode cX12_topOfBay 25 = .ok (.ireturn, 1) := by decide +kernel
theorem dX12_topOfBay_26 : decode cX12_topOfBay 26 = .ok (.bipush 6, 2) := by decide +kernel
theorem dX12_topOfBay_28 : decode cX12_topOfBay 28 = .ok (.aload_n 0, 1) := by decide +kernel
theorem dX12_topOfBay_29 : decode cX12_topOfBay 29 = .ok (.getfield 201, 3) := by decide +kernel
theorem dX12_topOfBay_32 : decode cX12_topOfBay 32 = .ok (.imul, 1) := by decide +kernel
theorem dX12_topOfBay_33 : decode cX12_topOfBay 33 = .ok (.iload_n 1, 1) := by decide +kernel
theorem dX12_topOfBay_34 : decode cX12_topOfBay 34 = .ok (.iadd, 1) := by decide +kernel
theorem dX12_topOfBay_35 : decode cX12_topOfBay 35 = .ok (.istore_n 3, 1) := by decide +kernel
theorem dX12_topOfBay_36 : decode cX12_topOfBay 36 = .ok (.aload_n 0, 1) := by decide +kernel
theorem dX12_topOfBay_37 : decode cX12_topOfBay 37 = .ok (.aload_n 0, 1) := by decide +kernel
theorem dX12_topOfBay_38 : decode cX12_topOfBay 38 = .ok (.getfield 71, 3) := by decide +kernel
theorem dX12_topOfBay_41 : decode cX12_topOfBay 41 = .ok (.iload_n 3, 1) := by decide +kernel
theorem dX12_topOfBay_42 : decode cX12_topOfBay 42 = .ok (.iaload, 1) := by decide +kernel
theorem dX12_topOfBay_43 : decode cX12_topOfBay 43 = .ok (.ifCond .le 7, 3) := by decide +kernel
theorem dX12_topOfBay_46 : decode cX12_topOfBay 46 = .ok (.iconst 0, 1) := by decide +kernel
theorem dX12_topOfBay_47 : decode cX12_topOfBay 47 = .ok (.goto 5, 3) := by decide +kernel
theorem dX12_topOfBay_50 : decode cX12_topOfBay 50 = .ok (.bipush (-9), 2) := by decide +kernel
theorem dX12_topOfBay_52 : decode cX12_topOfBay 52 = .ok (.aload_n 0, 1) := by decide +kernel
theorem dX12_topOfBay_53 : decode cX12_topOfBay 53 = .ok (.getfield 71, 3) := by decide +kernel
theorem dX12_topOfBay_56 : decode cX12_topOfBay 56 = .ok (.iload_n 3, 1) := by decide +kernel
theorem dX12_topOfBay_57 : decode cX12_topOfBay 57 = .ok (.iaload, 1) := by decide +kernel
theorem dX12_topOfBay_58 : decode cX12_topOfBay 58 = .ok (.ifCond .le 23, 3) := by decide +kernel
theorem dX12_topOfBay_61 : decode cX12_topOfBay 61 = .ok (.aload_n 0, 1) := by decide +kernel
theorem dX12_topOfBay_62 : decode cX12_topOfBay 62 = .ok (.getfield 74, 3) := by decide +kernel
theorem dX12_topOfBay_65 : decode cX12_topOfBay 65 = .ok (.iconst 5, 1) := by decide +kernel
theorem dX12_topOfBay_66 : decode cX12_topOfBay 66 = .ok (.iload_n 3, 1) := by decide +kernel
theorem dX12_topOfBay_67 : decode cX12_topOfBay 67 = .ok (.imul, 1) := by decide +kernel
theorem dX12_topOfBay_68 : decode cX12_topOfBay 68 = .ok (.aload_n 0, 1) := by decide +kernel
theorem dX12_topOfBay_69 : decode cX12_topOfBay 69 = .ok (.getfield 71, 3) := by decide +kernel
theorem dX12_topOfBay_72 : decode cX12_topOfBay 72 = .ok (.iload_n 3, 1) := by decide +kernel
theorem dX12_topOfBay_73 : decode cX12_topOfBay 73 = .ok (.iaload, 1) := by decide +kernel
theorem dX12_topOfBay_74 : decode cX12_topOfBay 74 = .ok (.iadd, 1) := by decide +kernel
theorem dX12_topOfBay_75 : decode cX12_topOfBay 75 = .ok (.iconst 1, 1) := by decide +kernel
theorem dX12_topOfBay_76 : decode cX12_topOfBay 76 = .ok (.isub, 1) := by decide +kernel
theorem dX12_topOfBay_77 : decode cX12_topOfBay 77 = .ok (.iaload, 1) := by decide +kernel
theorem dX12_topOfBay_78 : decode cX12_topOfBay 78 = .ok (.goto 5, 3) := by decide +kernel
theorem dX12_topOfBay_81 : decode cX12_topOfBay 81 = .ok (.bipush (-9), 2) := by decide +kernel
theorem dX12_topOfBay_83 : decode cX12_topOfBay 83 = .ok (.invokevirtual 491, 3) := by decide +kernel
theorem dX12_topOfBay_86 : decode cX12_topOfBay 86 = .ok (.iconst 0, 1) := by decide +kernel
theorem dX12_topOfBay_87 : decode cX12_topOfBay 87 = .ok (.ireturn, 1) := by decide +kernel
def M_X12_topOfBay : y_M := (yX12_topOfBay, cX12_topOfBay, 4, (Option.some Jvm.ClassFile.FieldType.int))
theorem n_X12_topOfBay : y_N0 M_X12_topOfBay 1 := ⟨(c_10 78 (by decide +kernel) rfl), (c_1 9 (by decide +kernel) rfl), ⟨by decide +kernel, by decide +kernel⟩, by decide +kernel⟩
theorem l_BoxYardModel_494 : y_lnk "BoxYardModel" 494 M_X12_as := Or.inl (c_10 79 (by decide +kernel) rfl)
theorem i_X12_as : Cond.instanceMethod (M_X12_as).1 ∈ y_tb := (c_10 81 (by decide +kernel) rfl)
theorem e_X12_as : Cond.selects (M_X12_as).1.cls (M_X12_as).1 (M_X12_as).1 ∈ y_tb := (m_s 111 (by decide +kernel) rfl)
set_option maxRecDepth 100000 in
def f_X12_topOfBay (p0 : Nat) (p1 : Int32) (h : y_H) : Option (Int32 × y_H) :=
  if y_K h p0 = 13 then
  y_cl (f_X12_as p0 2 h) (fun r1 h2 =>
  if r1 ≤ 0 then
    if y_K h2 p0 = 13 then
    if y_K h2 p0 = 13 then
    y_cl (f_X12_isStack p0 (y_I h2 p0 82) p1 h2) (fun r4 h5 =>
    if r4 = true then
      if y_K h5 p0 = 13 then
      if y_K h5 p0 = 13 then
      if y_K h5 (y_P h5 p0 22) = 100 ∧ y_ix ((6 * (y_I h5 p0 82)) + p1) (y_N h5 (y_P h5 p0 22)) = true then
      if (y_I h5 (y_P h5 p0 22) (Int32.toNatClampNeg ((6 * (y_I h5 p0 82)) + p1))) ≤ 0 then
        if y_K h5 p0 = 13 then
        if y_K h5 (y_P h5 p0 22) = 100 ∧ y_ix ((6 * (y_I h5 p0 82)) + p1) (y_N h5 (y_P h5 p0 22)) = true then
        if (y_I h5 (y_P h5 p0 22) (Int32.toNatClampNeg ((6 * (y_I h5 p0 82)) + p1))) ≤ 0 then
          if y_K h5 p0 = 13 then
          y_cl (f_X12_leads p0 (-9 : Int32) (-9 : Int32) h5) (fun _ h7 =>
          some (0, h7))
          else none
        else
          if y_K h5 p0 = 13 then
          if y_K h5 p0 = 13 then
          if y_K h5 (y_P h5 p0 22) = 100 ∧ y_ix ((6 * (y_I h5 p0 82)) + p1) (y_N h5 (y_P h5 p0 22)) = true then
          if y_K h5 (y_P h5 p0 23) = 100 ∧ y_ix (((5 * ((6 * (y_I h5 p0 82)) + p1)) + (y_I h5 (y_P h5 p0 22) (Int32.toNatClampNeg ((6 * (y_I h5 p0 82)) + p1)))) - 1) (y_N h5 (y_P h5 p0 23)) = true then
          if y_K h5 p0 = 13 then
          y_cl (f_X12_leads p0 (-9 : Int32) (y_I h5 (y_P h5 p0 23) (Int32.toNatClampNeg (((5 * ((6 * (y_I h5 p0 82)) + p1)) + (y_I h5 (y_P h5 p0 22) (Int32.toNatClampNeg ((6 * (y_I h5 p0 82)) + p1)))) - 1))) h5) (fun _ h10 =>
          some (0, h10))
          else none
          else none
          else none
          else none
          else none
        else none
        else none
      else
        if y_K h5 p0 = 13 then
        if y_K h5 (y_P h5 p0 22) = 100 ∧ y_ix ((6 * (y_I h5 p0 82)) + p1) (y_N h5 (y_P h5 p0 22)) = true then
        if (y_I h5 (y_P h5 p0 22) (Int32.toNatClampNeg ((6 * (y_I h5 p0 82)) + p1))) ≤ 0 then
          if y_K h5 p0 = 13 then
          y_cl (f_X12_leads p0 0 (-9 : Int32) h5) (fun _ h20 =>
          some (0, h20))
          else none
        else
          if y_K h5 p0 = 13 then
          if y_K h5 p0 = 13 then
          if y_K h5 (y_P h5 p0 22) = 100 ∧ y_ix ((6 * (y_I h5 p0 82)) + p1) (y_N h5 (y_P h5 p0 22)) = true then
          if y_K h5 (y_P h5 p0 23) = 100 ∧ y_ix (((5 * ((6 * (y_I h5 p0 82)) + p1)) + (y_I h5 (y_P h5 p0 22) (Int32.toNatClampNeg ((6 * (y_I h5 p0 82)) + p1)))) - 1) (y_N h5 (y_P h5 p0 23)) = true then
          if y_K h5 p0 = 13 then
          y_cl (f_X12_leads p0 0 (y_I h5 (y_P h5 p0 23) (Int32.toNatClampNeg (((5 * ((6 * (y_I h5 p0 82)) + p1)) + (y_I h5 (y_P h5 p0 22) (Int32.toNatClampNeg ((6 * (y_I h5 p0 82)) + p1)))) - 1))) h5) (fun _ h23 =>
          some (0, h23))
          else none
          else none
          else none
          else none
          else none
        else none
        else none
      else none
      else none
      else none
    else
      some (2, h5))
    else none
    else none
  else
    some (r1, h2))
  else none
abbrev rm_X12_topOfBay : Room := { frames := 3, cells := 0, slots := 0, locals := 65 }
set_option maxRecDepth 100000 in
set_option maxHeartbeats 4000000 in
theorem k_X12_topOfBay {l : Launch} {G : y_G} {p0 : Nat} {p1 : Int32} {h hz : y_H} {rz : Int32} (hf : f_X12_topOfBay p0 p1 h = some (rz, hz)) : y_S l G M_X12_topOfBay rm_X12_topOfBay [y_p p0, .int p1] h (some (.int rz)) hz := by
  refine y_start (lv := [(0, y_p p0), (1, .int p1)]) (by decide) (by simp [lg_sl, y_p_cat, y_ci, y_cj, M_X12_topOfBay]) (by simp [lv_args, y_p_cat, y_ci, y_cj]) (fun z ad0 => ?_)
  unfold f_X12_topOfBay at hf
  refine y_aload_n (x := p0) (pc2 := 1) rfl dX12_topOfBay_0 rfl ?_
  refine y_iconst (v := 2) (pc2 := 2) rfl dX12_topOfBay_1 (by decide) ?_
  obtain ⟨g41, hf⟩ := y_g hf
  obtain ⟨r1, h2, c3, hf⟩ := y_clE hf
  refine y_callV (As := [.int 2]) (rm := rm_X12_as) (cells := 0) (slots := 0) (pc2 := 5) rfl dX12_topOfBay_2 n_X12_as l_BoxYardModel_494 i_X12_as e_X12_as (ci := 12) rfl rfl (by decide) g41 rfl rfl (by decide) (by decide) (by decide) (k_X12_as c3) ?_
  refine y_istore_n (lv' := [(2, .int r1), (0, y_p p0), (1, .int p1)]) (pc2 := 6) rfl dX12_topOfBay_5 (by decide) rfl ?_
  refine y_iload_n (pc2 := 7) rfl dX12_topOfBay_6 rfl ?_
  refine y_if_le (tgt := 12) (pc2 := 10) rfl dX12_topOfBay_7 (by decide) (fun c40 => ?_) (fun c40 => ?_)
  · replace hf := y_it c40 hf
    refine y_aload_n (x := p0) (pc2 := 13) rfl dX12_topOfBay_12 rfl ?_
    refine y_aload_n (x := p0) (pc2 := 14) rfl dX12_topOfBay_13 rfl ?_
    obtain ⟨g39, hf⟩ := y_g hf
    refine y_getI (pc2 := 17) rfl dX12_topOfBay_14 F_BoxYardModel_201 (by decide) rfl g39 ?_
    refine y_iload_n (pc2 := 18) rfl dX12_topOfBay_17 rfl ?_
    obtain ⟨g38, hf⟩ := y_g hf
    obtain ⟨r4, h5, c6, hf⟩ := y_clE hf
    refine y_callV (As := [.int (y_I h2 p0 82), .int p1]) (rm := rm_X12_isStack) (cells := 0) (slots := 0) (pc2 := 21) rfl dX12_topOfBay_18 n_X12_isStack l_BoxYardModel_319 i_X12_isStack e_X12_isStack (ci := 12) rfl rfl (by decide) g38 rfl rfl (by decide) (by decide) (by decide) (k_X12_isStack c6) ?_
    refine y_ifz_ne (tgt := 26) (pc2 := 24) rfl dX12_topOfBay_21 (by decide) (fun c37 => ?_) (fun c37 => ?_)
    · replace hf := y_it c37 hf
      refine y_bipush (v := 6) (pc2 := 28) rfl dX12_topOfBay_26 (by decide) ?_
      refine y_aload_n (x := p0) (pc2 := 29) rfl dX12_topOfBay_28 rfl ?_
      obtain ⟨g36, hf⟩ := y_g hf
      refine y_getI (pc2 := 32) rfl dX12_topOfBay_29 F_BoxYardModel_201 (by decide) rfl g36 ?_
      refine y_imul (pc2 := 33) rfl dX12_topOfBay_32 ?_
      refine y_iload_n (pc2 := 34) rfl dX12_topOfBay_33 rfl ?_
      refine y_iadd (pc2 := 35) rfl dX12_topOfBay_34 ?_
      refine y_istore_n (lv' := [(3, .int ((6 * (y_I h5 p0 82)) + p1)), (2, .int r1), (0, y_p p0), (1, .int p1)]) (pc2 := 36) rfl dX12_topOfBay_35 (by decide) rfl ?_
      refine y_aload_n (x := p0) (pc2 := 37) rfl dX12_topOfBay_36 rfl ?_
      refine y_aload_n (x := p0) (pc2 := 38) rfl dX12_topOfBay_37 rfl ?_
      obtain ⟨g35, hf⟩ := y_g hf
      refine y_getP (pc2 := 41) rfl dX12_topOfBay_38 F_BoxYardModel_71 (by decide) rfl g35 ?_
      refine y_iload_n (pc2 := 42) rfl dX12_topOfBay_41 rfl ?_
      obtain ⟨g34, hf⟩ := y_g hf
      refine y_iald (pc2 := 43) rfl dX12_topOfBay_42 g34.1 (y_ix_in g34.2) ?_
      refine y_if_le (tgt := 50) (pc2 := 46) rfl dX12_topOfBay_43 (by decide) (fun c33 => ?_) (fun c33 => ?_)
      · replace hf := y_it c33 hf
        refine y_bipush (v := (-9 : Int32)) (pc2 := 52) rfl dX12_topOfBay_50 (by decide) ?_
        refine y_aload_n (x := p0) (pc2 := 53) rfl dX12_topOfBay_52 rfl ?_
        obtain ⟨g19, hf⟩ := y_g hf
        refine y_getP (pc2 := 56) rfl dX12_topOfBay_53 F_BoxYardModel_71 (by decide) rfl g19 ?_
        refine y_iload_n (pc2 := 57) rfl dX12_topOfBay_56 rfl ?_
        obtain ⟨g18, hf⟩ := y_g hf
        refine y_iald (pc2 := 58) rfl dX12_topOfBay_57 g18.1 (y_ix_in g18.2) ?_
        refine y_if_le (tgt := 81) (pc2 := 61) rfl dX12_topOfBay_58 (by decide) (fun c17 => ?_) (fun c17 => ?_)
        · replace hf := y_it c17 hf
          refine y_bipush (v := (-9 : Int32)) (pc2 := 83) rfl dX12_topOfBay_81 (by decide) ?_
          obtain ⟨g9, hf⟩ := y_g hf
          obtain ⟨r_, h7, c8, hf⟩ := y_clE hf
          refine y_callV (As := [.int (-9 : Int32), .int (-9 : Int32)]) (rm := rm_X12_leads) (cells := 0) (slots := 0) (pc2 := 86) rfl dX12_topOfBay_83 n_X12_leads l_BoxYardModel_491 i_X12_leads e_X12_leads (ci := 12) rfl rfl (by decide) g9 rfl rfl (by decide) (by decide) (by decide) (k_X12_leads c8) ?_
          refine y_iconst (v := 0) (pc2 := 87) rfl dX12_topOfBay_86 (by decide) ?_
          exact y_iretF hf dX12_topOfBay_87 rfl (by decide) (by decide)
        · replace hf := y_ie c17 hf
          refine y_aload_n (x := p0) (pc2 := 62) rfl dX12_topOfBay_61 rfl ?_
          obtain ⟨g16, hf⟩ := y_g hf
          refine y_getP (pc2 := 65) rfl dX12_topOfBay_62 F_BoxYardModel_74 (by decide) rfl g16 ?_
          refine y_iconst (v := 5) (pc2 := 66) rfl dX12_topOfBay_65 (by decide) ?_
          refine y_iload_n (pc2 := 67) rfl dX12_topOfBay_66 rfl ?_
          refine y_imul (pc2 := 68) rfl dX12_topOfBay_67 ?_
          refine y_aload_n (x := p0) (pc2 := 69) rfl dX12_topOfBay_68 rfl ?_
          obtain ⟨g15, hf⟩ := y_g hf
          refine y_getP (pc2 := 72) rfl dX12_topOfBay_69 F_BoxYardModel_71 (by decide) rfl g15 ?_
          refine y_iload_n (pc2 := 73) rfl dX12_topOfBay_72 rfl ?_
          obtain ⟨g14, hf⟩ := y_g hf
          refine y_iald (pc2 := 74) rfl dX12_topOfBay_73 g14.1 (y_ix_in g14.2) ?_
          refine y_iadd (pc2 := 75) rfl dX12_topOfBay_74 ?_
          refine y_iconst (v := 1) (pc2 := 76) rfl dX12_topOfBay_75 (by decide) ?_
          refine y_isub (pc2 := 77) rfl dX12_topOfBay_76 ?_
          obtain ⟨g13, hf⟩ := y_g hf
          refine y_iald (pc2 := 78) rfl dX12_topOfBay_77 g13.1 (y_ix_in g13.2) ?_
          refine y_goto (tgt := 83) dX12_topOfBay_78 (by decide) ?_
          obtain ⟨g12, hf⟩ := y_g hf
          obtain ⟨r_, h10, c11, hf⟩ := y_clE hf
          refine y_callV (As := [.int (-9 : Int32), .int (y_I h5 (y_P h5 p0 23) (Int32.toNatClampNeg (((5 * ((6 * (y_I h5 p0 82)) + p1)) + (y_I h5 (y_P h5 p0 22) (Int32.toNatClampNeg ((6 * (y_I h5 p0 82)) + p1)))) - 1)))]) (rm := rm_X12_leads) (cells := 0) (slots := 0) (pc2 := 86) rfl dX12_topOfBay_83 n_X12_leads l_BoxYardModel_491 i_X12_leads e_X12_leads (ci := 12) rfl rfl (by decide) g12 rfl rfl (by decide) (by decide) (by decide) (k_X12_leads c11) ?_
          refine y_iconst (v := 0) (pc2 := 87) rfl dX12_topOfBay_86 (by decide) ?_
          exact y_iretF hf dX12_topOfBay_87 rfl (by decide) (by decide)
      · replace hf := y_ie c33 hf
        refine y_iconst (v := 0) (pc2 := 47) rfl dX12_topOfBay_46 (by decide) ?_
        refine y_goto (tgt := 52) dX12_topOfBay_47 (by decide) ?_
        refine y_aload_n (x := p0) (pc2 := 53) rfl dX12_topOfBay_52 rfl ?_
        obtain ⟨g32, hf⟩ := y_g hf
        refine y_getP (pc2 := 56) rfl dX12_topOfBay_53 F_BoxYardModel_71 (by decide) rfl g32 ?_
        refine y_iload_n (pc2 := 57) rfl dX12_topOfBay_56 rfl ?_
        obtain ⟨g31, hf⟩ := y_g hf
        refine y_iald (pc2 := 58) rfl dX12_topOfBay_57 g31.1 (y_ix_in g31.2) ?_
        refine y_if_le (tgt := 81) (pc2 := 61) rfl dX12_topOfBay_58 (by decide) (fun c30 => ?_) (fun c30 => ?_)
        · replace hf := y_it c30 hf
          refine y_bipush (v := (-9 : Int32)) (pc2 := 83) rfl dX12_topOfBay_81 (by decide) ?_
          obtain ⟨g22, hf⟩ := y_g hf
          obtain ⟨r_, h20, c21, hf⟩ := y_clE hf
          refine y_callV (As := [.int 0, .int (-9 : Int32)]) (rm := rm_X12_leads) (cells := 0) (slots := 0) (pc2 := 86) rfl dX12_topOfBay_83 n_X12_leads l_BoxYardModel_491 i_X12_leads e_X12_leads (ci := 12) rfl rfl (by decide) g22 rfl rfl (by decide) (by decide) (by decide) (k_X12_leads c21) ?_
          refine y_iconst (v := 0) (pc2 := 87) rfl dX12_topOfBay_86 (by decide) ?_
          exact y_iretF hf dX12_topOfBay_87 rfl (by decide) (by decide)
        · replace hf := y_ie c30 hf
          refine y_aload_n (x := p0) (pc2 := 62) rfl dX12_topOfBay_61 rfl ?_
          obtain ⟨g29, hf⟩ := y_g hf
          refine y_getP (pc2 := 65) rfl dX12_topOfBay_62 F_BoxYardModel_74 (by decide) rfl g29 ?_
          refine y_iconst (v := 5) (pc2 := 66) rfl dX12_topOfBay_65 (by decide) ?_
          refine y_iload_n (pc2 := 67) rfl dX12_topOfBay_66 rfl ?_
          refine y_imul (pc2 := 68) rfl dX12_topOfBay_67 ?_
          refine y_aload_n (x := p0) (pc2 := 69) rfl dX12_topOfBay_68 rfl ?_
          obtain ⟨g28, hf⟩ := y_g hf
          refine y_getP (pc2 := 72) rfl dX12_topOfBay_69 F_BoxYardModel_71 (by decide) rfl g28 ?_
          refine y_iload_n (pc2 := 73) rfl dX12_topOfBay_72 rfl ?_
          obtain ⟨g27, hf⟩ := y_g hf
          refine y_iald (pc2 := 74) rfl dX12_topOfBay_73 g27.1 (y_ix_in g27.2) ?_
          refine y_iadd (pc2 := 75) rfl dX12_topOfBay_74 ?_
          refine y_iconst (v := 1) (pc2 := 76) rfl dX12_topOfBay_75 (by decide) ?_
          refine y_isub (pc2 := 77) rfl dX12_topOfBay_76 ?_
          obtain ⟨g26, hf⟩ := y_g hf
          refine y_iald (pc2 := 78) rfl dX12_topOfBay_77 g26.1 (y_ix_in g26.2) ?_
          refine y_goto (tgt := 83) dX12_topOfBay_78 (by decide) ?_
          obtain ⟨g25, hf⟩ := y_g hf
          obtain ⟨r_, h23, c24, hf⟩ := y_clE hf
          refine y_callV (As := [.int 0, .int (y_I h5 (y_P h5 p0 23) (Int32.toNatClampNeg (((5 * ((6 * (y_I h5 p0 82)) + p1)) + (y_I h5 (y_P h5 p0 22) (Int32.toNatClampNeg ((6 * (y_I h5 p0 82)) + p1)))) - 1)))]) (rm := rm_X12_leads) (cells := 0) (slots := 0) (pc2 := 86) rfl dX12_topOfBay_83 n_X12_leads l_BoxYardModel_491 i_X12_leads e_X12_leads (ci := 12) rfl rfl (by decide) g25 rfl rfl (by decide) (by decide) (by decide) (k_X12_leads c24) ?_
          refine y_iconst (v := 0) (pc2 := 87) rfl dX12_topOfBay_86 (by decide) ?_
          exact y_iretF hf dX12_topOfBay_87 rfl (by decide) (by decide)
    · replace hf := y_ie c37 hf
      refine y_iconst (v := 2) (pc2 := 25) rfl dX12_topOfBay_24 (by decide) ?_
      exact y_iretF hf dX12_topOfBay_25 rfl (by decide) (by decide)
  · replace hf := y_ie c40 hf
    refine y_iload_n (pc2 := 11) rfl dX12_topOfBay_10 rfl ?_
    exact y_iretF hf dX12_topOfBay_11 rfl (by decide) (by decide)
theorem dX12_does_0 : decode cX12_does 0 = .ok (.iconst 0, 1) := by decide +kernel
theorem dX12_does_1 : decode cX12_does 1 = .ok (.istore 4, 2) := by decide +kernel
theorem dX12_does_3 : decode cX12_does 3 = .ok (.iload_n 1, 1) := by decide +kernel
theorem dX12_does_4 : decode cX12_does 4 = .ok (.tableswitch 528 0 12 #[68, 89, 110, 131, 137, 180, 297, 305, 383, 450, 508, 515, 522], 68) := by decide +kernel
theorem dX12_does_72 : decode cX12_does 72 = .ok (.aload_n 0, 1) := by decide +kernel
theorem dX12_does_73 : decode cX12_does 73 = .ok (.aload_n 0, 1) := by decide +kernel
theorem dX12_does_74 : decode cX12_does 74 = .ok (.iload_n 2, 1) := by decide +kernel
theorem dX12_does_75 : decode cX12_does 75 = .ok (.invokevirtual 298, 3) := by decide +kernel
theorem dX12_does_78 : decode cX12_does 78 = .ok (.ifCond .eq 7, 3) := by decide +kernel
theorem dX12_does_81 : decode cX12_does 81 = .ok (.iconst 0, 1) := by decide +kernel
theorem dX12_does_82 : decode cX12_does 82 = .ok (.goto 5, 3) := by decide +kernel
theorem dX12_does_85 : decode cX12_does 85 = .ok (.bipush (-9), 2) := by decide +kernel
theorem dX12_does_87 : decode cX12_does 87 = .ok (.iload_n 2, 1) := by decide +kernel
theorem dX12_does_88 : decode cX12_does 88 = .ok (.invokevirtual 491, 3) := by decide +kernel
theorem dX12_does_91 : decode cX12_does 91 = .ok (.iconst 0, 1) := by decide +kernel
theorem dX12_does_92 : decode cX12_does 92 = .ok (.ireturn, 1) := by decide +kernel
theorem dX12_does_93 : decode cX12_does 93 = .ok (.aload_n 0, 1) := by decide +kernel
theorem dX12_does_94 : decode cX12_does 94 = .ok (.aload_n 0, 1) := by decide +kernel
theorem dX12_does_95 : decode cX12_does 95 = .ok (.iload_n 2, 1) := by decide +kernel
theorem dX12_does_96 : decode cX12_does 96 = .ok (.invokevirtual 329, 3) := by decide +kernel
theorem dX12_does_99 : decode cX12_does 99 = .ok (.ifCond .eq 7, 3) := by decide +kernel
theorem dX12_does_102 : decode cX12_does 102 = .ok (.iconst 1, 1) := by decide +kernel
theorem dX12_does_103 : decode cX12_does 103 = .ok (.goto 5, 3) := by decide +kernel
theorem dX12_does_106 : decode cX12_does 106 = .ok (.bipush (-9), 2) := by decide +kernel
theorem dX12_does_108 : decode cX12_does 108 = .ok (.iload_n 2, 1) := by decide +kernel
theorem dX12_does_109 : decode cX12_does 109 = .ok (.invokevirtual 491, 3) := by decide +kernel
theorem dX12_does_112 : decode cX12_does 112 = .ok (.iconst 0, 1) := by decide +kernel
theorem dX12_does_113 : decode cX12_does 113 = .ok (.ireturn, 1) := by decide +kernel
theorem dX12_does_114 : decode cX12_does 114 = .ok (.aload_n 0, 1) := by decide +kernel
theorem dX12_does_115 : decode cX12_does 115 = .ok (.aload_n 0, 1) := by decide +kernel
theorem dX12_does_116 : decode cX12_does 116 = .ok (.iload_n 2, 1) := by decide +kernel
theorem dX12_does_117 : decode cX12_does 117 = .ok (.invokevirtual 282, 3) := by decide +kernel
theorem dX12_does_120 : decode cX12_does 120 = .ok (.ifCond .eq 7, 3) := by decide +kernel
theorem dX12_does_123 : decode cX12_does 123 = .ok (.iconst 2, 1) := by decide +kernel
theorem dX12_does_124 : decode cX12_does 124 = .ok (.goto 5, 3) := by decide +kernel
theorem dX12_does_127 : decode cX12_does 127 = .ok (.bipush (-9), 2) := by decide +kernel
theorem dX12_does_129 : decode cX12_does 129 = .ok (.iload_n 2, 1) := by decide +kernel
theorem dX12_does_130 : decode cX12_does 130 = .ok (.invokevirtual 491, 3) := by decide +kernel
theorem dX12_does_133 : decode cX12_does 133 = .ok (.iconst 0, 1) := by decide +kernel
theorem dX12_does_134 : decode cX12_does 134 = .ok (.ireturn, 1) := by decide +kernel
theorem dX12_does_135 : decode cX12_does 135 = .ok (.aload_n 0, 1) := by decide +kernel
theorem dX12_does_136 : decode cX12_does 136 = .ok (.iload_n 2, 1) := by decide +kernel
theorem dX12_does_137 : decode cX12_does 137 = .ok (.invokevirtual 497, 3) := by decide +kernel
theorem dX12_does_140 : decode cX12_does 140 = .ok (.ireturn, 1) := by decide +kernel
theorem dX12_does_141 : decode cX12_does 141 = .ok (.aload_n 0, 1) := by decide +kernel
theorem dX12_does_142 : decode cX12_does 142 = .ok (.iconst 1, 1) := by decide +kernel
theorem dX12_does_143 : decode cX12_does 143 = .ok (.invokevirtual 494, 3) := by decide +kernel
theorem dX12_does_146 : decode cX12_does 146 = .ok (.istore 4, 2) := by decide +kernel
theorem dX12_does_148 : decode cX12_does 148 = .ok (.iload 4, 2) := by decide +kernel
theorem dX12_does_150 : decode cX12_does 150 = .ok (.ifCond .ne 31, 3) := by decide +kernel
theorem dX12_does_153 : decode cX12_does 153 = .ok (.aload_n 0, 1) := by decide +kernel
theorem dX12_does_154 : decode cX12_does 154 = .ok (.getfield 89, 3) := by decide +kernel
theorem dX12_does_157 : decode cX12_does 157 = .ok (.aload_n 0, 1) := by decide +kernel
theorem dX12_does_158 : decode cX12_does 158 = .ok (.getfield 201, 3) := by decide +kernel
theorem dX12_does_161 : decode cX12_does 161 = .ok (.iaload, 1) := by decide +kernel
theorem dX12_does_162 : decode cX12_does 162 = .ok (.istore 5, 2) := by decide +kernel
theorem dX12_does_164 : decode cX12_does 164 = .ok (.aload_n 0, 1) := by decide +kernel
theorem dX12_does_165 : decode cX12_does 165 = .ok (.iload 5, 2) := by decide +kernel
theorem dX12_does_167 : decode cX12_does 167 = .ok (.ifCond .ge 8, 3) := by decide +kernel
theorem dX12_does_170 : decode cX12_does 170 = .ok (.bipush (-9), 2) := by decide +kernel
theorem dX12_does_172 : decode cX12_does 172 = .ok (.goto 4, 3) := by decide +kernel
theorem dX12_does_175 : decode cX12_does 175 = .ok (.iconst 0, 1) := by decide +kernel
theorem dX12_does_176 : decode cX12_does 176 = .ok (.iload 5, 2) := by decide +kernel
theorem dX12_does_178 : decode cX12_does 178 = .ok (.invokevirtual 491, 3) := by decide +kernel
theorem dX12_does_181 : decode cX12_does 181 = .ok (.iload 4, 2) := by decide +kernel
theorem dX12_does_183 : decode cX12_does 183 = .ok (.ireturn, 1) := by decide +kernel
theorem dX12_does_184 : decode cX12_does 184 = .ok (.aload_n 0, 1) := by decide +kernel
theorem dX12_does_185 : decode cX12_does 185 = .ok (.iconst 0, 1) := by decide +kernel
theorem dX12_does_186 : decode cX12_does 186 = .ok (.invokevirtual 494, 3) := by decide +kernel
theorem dX12_does_189 : decode cX12_does 189 = .ok (.istore 4, 2) := by decide +kernel
theorem dX12_does_191 : decode cX12_does 191 = .ok (.iload 4, 2) := by decide +kernel
theorem dX12_does_193 : decode cX12_does 193 = .ok (.ifCond .ne 105, 3) := by decide +kernel
theorem dX12_does_196 : decode cX12_does 196 = .ok (.aload_n 0, 1) := by decide +kernel
theorem dX12_does_197 : decode cX12_does 197 = .ok (.getfield 29, 3) := by decide +kernel
theorem dX12_does_200 : decode cX12_does 200 = .ok (.aload_n 0, 1) := by decide +kernel
theorem dX12_does_201 : decode cX12_does 201 = .ok (.getfield 201, 3) := by decide +kernel
theorem dX12_does_204 : decode cX12_does 204 = .ok (.iaload, 1) := by decide +kernel
theorem dX12_does_205 : decode cX12_does 205 = .ok (.iconst 1, 1) := by decide +kernel
theorem dX12_does_206 : decode cX12_does 206 = .ok (.if_icmp .ne 19, 3) := by decide +kernel
theorem dX12_does_209 : decode cX12_does 209 = .ok (.aload_n 0, 1) := by decide +kernel
theorem dX12_does_210 : decode cX12_does 210 = .ok (.getfield 38, 3) := by decide +kernel
theorem dX12_does_213 : decode cX12_does 213 = .ok (.aload_n 0, 1) := by decide +kernel
theorem dX12_does_214 : decode cX12_does 214 = .ok (.getfield 201, 3) := by decide +kernel
theorem dX12_does_217 : decode cX12_does 217 = .ok (.iaload, 1) := by decide +kernel
theorem dX12_does_218 : decode cX12_does 218 = .ok (.ifCond .le 7, 3) := by decide +kernel
theorem dX12_does_221 : decode cX12_does 221 = .ok (.iconst 1, 1) := by decide +kernel
theorem dX12_does_222 : decode cX12_does 222 = .ok (.goto 4, 3) := by decide +kernel
theorem dX12_does_225 : decode cX12_does 225 = .ok (.iconst 0, 1) := by decide +kernel
theorem dX12_does_226 : decode cX12_does 226 = .ok (.istore 5, 2) := by decide +kernel
theorem dX12_does_228 : decode cX12_does 228 = .ok (.iload 5, 2) := by decide +kernel
theorem dX12_does_230 : decode cX12_does 230 = .ok (.ifCond .eq 47, 3) := by decide +kernel
theorem dX12_does_233 : decode cX12_does 233 = .ok (.aload_n 0, 1) := by decide +kernel
theorem dX12_does_234 : decode cX12_does 234 = .ok (.getfield 74, 3) := by decide +kernel
theorem dX12_does_237 : decode cX12_does 237 = .ok (.iconst 5, 1) := by decide +kernel
theorem dX12_does_238 : decode cX12_does 238 = .ok (.bipush 6, 2) := by decide +kernel
theorem dX12_does_240 : decode cX12_does 240 = .ok (.aload_n 0, 1) := by decide +kernel
theorem dX12_does_241 : decode cX12_does 241 = .ok (.getfield 32, 3) := by decide +kernel
theorem dX12_does_244 : decode cX12_does 244 = .ok (.aload_n 0, 1) := by decide +kernel
theorem dX12_does_245 : decode cX12_does 245 = .ok (.getfield 201, 3) := by decide +kernel
theorem dX12_does_248 : decode cX12_does 248 = .ok (.iaload, 1) := by decide +kernel
theorem dX12_does_249 : decode cX12_does 249 = .ok (.imul, 1) := by decide +kernel
theorem dX12_does_250 : decode cX12_does 250 = .ok (.aload_n 0, 1) := by decide +kernel
theorem dX12_does_251 : decode cX12_does 251 = .ok (.getfield 35, 3) := by decide +kernel
theorem dX12_does_254 : decode cX12_does 254 = .ok (.aload_n 0, 1) := by decide +kernel
theorem dX12_does_255 : decode cX12_does 255 = .ok (.getfield 201, 3) := by decide +kernel
theorem dX12_does_258 : decode cX12_does 258 = .ok (.iaload, 1) := by decide +kernel
theorem dX12_does_259 : decode cX12_does 259 = .ok (.iadd, 1) := by decide +kernel
theorem dX12_does_260 : decode cX12_does 260 = .ok (.imul, 1) := by decide +kernel
theorem dX12_does_261 : decode cX12_does 261 = .ok (.aload_n 0, 1) := by decide +kernel
theorem dX12_does_262 : decode cX12_does 262 = .ok (.getfield 38, 3) := by decide +kernel
theorem dX12_does_265 : decode cX12_does 265 = .ok (.aload_n 0, 1) := by decide +kernel
theorem dX12_does_266 : decode cX12_does 266 = .ok (.getfield 201, 3) := by decide +kernel
theorem dX12_does_269 : decode cX12_does 269 = .ok (.iaload, 1) := by decide +kernel
theorem dX12_does_270 : decode cX12_does 270 = .ok (.iadd, 1) := by decide +kernel
theorem dX12_does_271 : decode cX12_does 271 = .ok (.iconst 1, 1) := by decide +kernel
theorem dX12_does_272 : decode cX12_does 272 = .ok (.isub, 1) := by decide +kernel
theorem dX12_does_273 : decode cX12_does 273 = .ok (.iaload, 1) := by decide +kernel
theorem dX12_does_274 : decode cX12_does 274 = .ok (.goto 5, 3) := by decide +kernel
theorem dX12_does_277 : decode cX12_does 277 = .ok (.bipush (-9), 2) := by decide +kernel
theorem dX12_does_279 : decode cX12_does 279 = .ok (.istore 6, 2) := by decide +kernel
theorem dX12_does_281 : decode cX12_does 281 = .ok (.aload_n 0, 1) := by decide +kernel
theorem dX12_does_282 : decode cX12_does 282 = .ok (.iload 5, 2) := by decide +kernel
theorem dX12_does_284 : decode cX12_does 284 = .ok (.ifCond .eq 7, 3) := by decide +kernel
theorem dX12_does_287 : decode cX12_does 287 = .ok (.iconst 0, 1) := by decide +kernel
theorem dX12_does_288 : decode cX12_does 288 = .ok (.goto 5, 3) := by decide +kernel
theorem dX12_does_291 : decode cX12_does 291 = .ok (.bipush (-9), 2) := by decide +kernel
theorem dX12_does_293 : decode cX12_does 293 = .ok (.iload 6, 2) := by decide +kernel
theorem dX12_does_295 : decode cX12_does 295 = .ok (.invokevirtual 491, 3) := by decide +kernel
theorem dX12_does_298 : decode cX12_does 298 = .ok (.iload 4, 2) := by decide +kernel
theorem dX12_does_300 : decode cX12_does 300 = .ok (.ireturn, 1) := by decide +kernel
theorem dX12_does_301 : decode cX12_does 301 = .ok (.aload_n 0, 1) := by decide +kernel
theorem dX12_does_302 : decode cX12_does 302 = .ok (.iload_n 2, 1) := by decide +kernel
theorem dX12_does_303 : decode cX12_does 303 = .ok (.i2l, 1) := by decide +kernel
theorem dX12_does_304 : decode cX12_does 304 = .ok (.putfield 274, 3) := by decide +kernel
theorem dX12_does_307 : decode cX12_does 307 = .ok (.iconst 0, 1) := by decide +kernel
theorem dX12_does_308 : decode cX12_does 308 = .ok (.ireturn, 1) := by decide +kernel
theorem dX12_does_309 : decode cX12_does 309 = .ok (.aload_n 0, 1) := by decide +kernel
theorem dX12_does_310 : decode cX12_does 310 = .ok (.iconst 0, 1) := by decide +kernel
theorem dX12_does_311 : decode cX12_does 311 = .ok (.invokevirtual 494, 3) := by decide +kernel
theorem dX12_does_314 : decode cX12_does 314 = .ok (.istore 4, 2) := by decide +kernel
theorem dX12_does_316 : decode cX12_does 316 = .ok (.iload 4, 2) := by decide +kernel
theorem dX12_does_318 : decode cX12_does 318 = .ok (.ifCond .ne 25, 3) := by decide +kernel
theorem dX12_does_321 : decode cX12_does 321 = .ok (.iload_n 2, 1) := by decide +kernel
theorem dX12_does_322 : decode cX12_does 322 = .ok (.iconst 3, 1) := by decide +kernel
theorem dX12_does_323 : decode cX12_does 323 = .ok (.if_icmp .ne 20, 3) := by decide +kernel
theorem dX12_does_326 : decode cX12_does 326 = .ok (.aload_n 0, 1) := by decide +kernel
theorem dX12_does_327 : decode cX12_does 327 = .ok (.getfield 7, 3) := by decide +kernel
theorem dX12_does_330 : decode cX12_does 330 = .ok (.aload_n 0, 1) := by decide +kernel
theorem dX12_does_331 : decode cX12_does 331 = .ok (.getfield 201, 3) := by decide +kernel
theorem dX12_does_334 : decode cX12_does 334 = .ok (.iaload, 1) := by decide +kernel
theorem dX12_does_335 : decode cX12_does 335 = .ok (.iconst 1, 1) := by decide +kernel
theorem dX12_does_336 : decode cX12_does 336 = .ok (.if_icmp .eq 7, 3) := by decide +kernel
theorem dX12_does_339 : decode cX12_does 339 = .ok (.iconst 5, 1) := by decide +kernel
theorem dX12_does_340 : decode cX12_does 340 = .ok (.goto 5, 3) := by decide +kernel
theorem dX12_does_343 : decode cX12_does 343 = .ok (.iload 4, 2) := by decide +kernel
theorem dX12_does_345 : decode cX12_does 345 = .ok (.istore 4, 2) := by decide +kernel
theorem dX12_does_347 : decode cX12_does 347 = .ok (.iload 4, 2) := by decide +kernel
theorem dX12_does_349 : decode cX12_does 349 = .ok (.ifCond .ne 35, 3) := by decide +kernel
theorem dX12_does_352 : decode cX12_does 352 = .ok (.aload_n 0, 1) := by decide +kernel
theorem dX12_does_353 : decode cX12_does 353 = .ok (.dup, 1) := by decide +kernel
theorem dX12_does_354 : decode cX12_does 354 = .ok (.getfield 274, 3) := by decide +kernel
theorem dX12_does_357 : decode cX12_does 357 = .ok (.iload_n 2, 1) := by decide +kernel
theorem dX12_does_358 : decode cX12_does 358 = .ok (.iconst 3, 1) := by decide +kernel
theorem dX12_does_359 : decode cX12_does 359 = .ok (.if_icmp .ne 15, 3) := by decide +kernel
theorem dX12_does_362 : decode cX12_does 362 = .ok (.aload_n 0, 1) := by decide +kernel
theorem dX12_does_363 : decode cX12_does 363 = .ok (.aload_n 0, 1) := by decide +kernel
theorem dX12_does_364 : decode cX12_does 364 = .ok (.getfield 201, 3) := by decide +kernel
theorem dX12_does_367 : decode cX12_does 367 = .ok (.invokevirtual 313, 3) := by decide +kernel
theorem dX12_does_370 : decode cX12_does 370 = .ok (.i2l, 1) := by decide +kernel
theorem dX12_does_371 : decode cX12_does 371 = .ok (.goto 9, 3) := by decide +kernel
theorem dX12_does_374 : decode cX12_does 374 = .ok (.aload_n 0, 1) := by decide +kernel
theorem dX12_does_375 : decode cX12_does 375 = .ok (.iload_n 2, 1) := by decide +kernel
theorem dX12_does_376 : decode cX12_does 376 = .ok (.invokevirtual 500, 3) := by decide +kernel
theorem dX12_does_379 : decode cX12_does 379 = .ok (.i2l, 1) := by decide +kernel
theorem dX12_does_380 : decode cX12_does 380 = .ok (.ladd, 1) := by decide +kernel
theorem dX12_does_381 : decode cX12_does 381 = .ok (.putfield 274, 3) := by decide +kernel
theorem dX12_does_384 : decode cX12_does 384 = .ok (.iload 4, 2) := by decide +kernel
theorem dX12_does_386 : decode cX12_does 386 = .ok (.ireturn, 1) := by decide +kernel
theorem dX12_does_387 : decode cX12_does 387 = .ok (.aload_n 0, 1) := by decide +kernel
theorem dX12_does_388 : decode cX12_does 388 = .ok (.iconst 1, 1) := by decide +kernel
theorem dX12_does_389 : decode cX12_does 389 = .ok (.invokevirtual 494, 3) := by decide +kernel
theorem dX12_does_392 : decode cX12_does 392 = .ok (.istore 4, 2) := by decide +kernel
theorem dX12_does_394 : decode cX12_does 394 = .ok (.iload 4, 2) := by decide +kernel
theorem dX12_does_396 : decode cX12_does 396 = .ok (.ifCond .ne 55, 3) := by decide +kernel
theorem dX12_does_399 : decode cX12_does 399 = .ok (.aload_n 0, 1) := by decide +kernel
theorem dX12_does_400 : decode cX12_does 400 = .ok (.dup, 1) := by decide +kernel
theorem dX12_does_401 : decode cX12_does 401 = .ok (.getfield 274, 3) := by decide +kernel
theorem dX12_does_404 : decode cX12_does 404 = .ok (.iload_n 2, 1) := by decide +kernel
theorem dX12_does_405 : decode cX12_does 405 = .ok (.ifCond .ne 15, 3) := by decide +kernel
theorem dX12_does_408 : decode cX12_does 408 = .ok (.aload_n 0, 1) := by decide +kernel
theorem dX12_does_409 : decode cX12_does 409 = .ok (.aload_n 0, 1) := by decide +kernel
theorem dX12_does_410 : decode cX12_does 410 = .ok (.getfield 201, 3) := by decide +kernel
theorem dX12_does_413 : decode cX12_does 413 = .ok (.invokevirtual 332, 3) := by decide +kernel
theorem dX12_does_416 : decode cX12_does 416 = .ok (.i2l, 1) := by decide +kernel
theorem dX12_does_417 : decode cX12_does 417 = .ok (.goto 30, 3) := by decide +kernel
theorem dX12_does_420 : decode cX12_does 420 = .ok (.iload_n 2, 1) := by decide +kernel
theorem dX12_does_421 : decode cX12_does 421 = .ok (.iconst 1, 1) := by decide +kernel
theorem dX12_does_422 : decode cX12_does 422 = .ok (.if_icmp .ne 15, 3) := by decide +kernel
theorem dX12_does_425 : decode cX12_does 425 = .ok (.aload_n 0, 1) := by decide +kernel
theorem dX12_does_426 : decode cX12_does 426 = .ok (.aload_n 0, 1) := by decide +kernel
theorem dX12_does_427 : decode cX12_does 427 = .ok (.getfield 201, 3) := by decide +kernel
theorem dX12_does_430 : decode cX12_does 430 = .ok (.invokevirtual 335, 3) := by decide +kernel
theorem dX12_does_433 : decode cX12_does 433 = .ok (.i2l, 1) := by decide +kernel
theorem dX12_does_434 : decode cX12_does 434 = .ok (.goto 13, 3) := by decide +kernel
theorem dX12_does_437 : decode cX12_does 437 = .ok (.aload_n 0, 1) := by decide +kernel
theorem dX12_does_438 : decode cX12_does 438 = .ok (.getfield 86, 3) := by decide +kernel
theorem dX12_does_441 : decode cX12_does 441 = .ok (.aload_n 0, 1) := by decide +kernel
theorem dX12_does_442 : decode cX12_does 442 = .ok (.getfield 201, 3) := by decide +kernel
theorem dX12_does_445 : decode cX12_does 445 = .ok (.iaload, 1) := by decide +kernel
theorem dX12_does_446 : decode cX12_does 446 = .ok (.i2l, 1) := by decide +kernel
theorem dX12_does_447 : decode cX12_does 447 = .ok (.ladd, 1) := by decide +kernel
theorem dX12_does_448 : decode cX12_does 448 = .ok (.putfield 274, 3) := by decide +kernel
theorem dX12_does_451 : decode cX12_does 451 = .ok (.iload 4, 2) := by decide +kernel
theorem dX12_does_453 : decode cX12_does 453 = .ok (.ireturn, 1) := by decide +kernel
theorem dX12_does_454 : decode cX12_does 454 = .ok (.aload_n 0, 1) := by decide +kernel
theorem dX12_does_455 : decode cX12_does 455 = .ok (.iconst 2, 1) := by decide +kernel
theorem dX12_does_456 : decode cX12_does 456 = .ok (.invokevirtual 494, 3) := by decide +kernel
theorem dX12_does_459 : decode cX12_does 459 = .ok (.istore 4, 2) := by decide +kernel
theorem dX12_does_461 : decode cX12_does 461 = .ok (.iload 4, 2) := by decide +kernel
theorem dX12_does_463 : decode cX12_does 463 = .ok (.ifCond .ne 19, 3) := by decide +kernel
theorem dX12_does_466 : decode cX12_does 466 = .ok (.aload_n 0, 1) := by decide +kernel
theorem dX12_does_467 : decode cX12_does 467 = .ok (.aload_n 0, 1) := by decide +kernel
theorem dX12_does_468 : decode cX12_does 468 = .ok (.getfield 201, 3) := by decide +kernel
theorem dX12_does_471 : decode cX12_does 471 = .ok (.invokevirtual 323, 3) := by decide +kernel
theorem dX12_does_474 : decode cX12_does 474 = .ok (.ifCond .ne 8, 3) := by decide +kernel
theorem dX12_does_477 : decode cX12_does 477 = .ok (.bipush 6, 2) := by decide +kernel
theorem dX12_does_479 : decode cX12_does 479 = .ok (.goto 5, 3) := by decide +kernel
theorem dX12_does_482 : decode cX12_does 482 = .ok (.iload 4, 2) := by decide +kernel
theorem dX12_does_484 : decode cX12_does 484 = .ok (.istore 4, 2) := by decide +kernel
theorem dX12_does_486 : decode cX12_does 486 = .ok (.iload 4, 2) := by decide +kernel
theorem dX12_does_488 : decode cX12_does 488 = .ok (.ifCond .ne 21, 3) := by decide +kernel
theorem dX12_does_491 : decode cX12_does 491 = .ok (.aload_n 0, 1) := by decide +kernel
theorem dX12_does_492 : decode cX12_does 492 = .ok (.aload_n 0, 1) := by decide +kernel
theorem dX12_does_493 : decode cX12_does 493 = .ok (.getfield 274, 3) := by decide +kernel
theorem dX12_does_496 : decode cX12_does 496 = .ok (.aload_n 0, 1) := by decide +kernel
theorem dX12_does_497 : decode cX12_does 497 = .ok (.aload_n 0, 1) := by decide +kernel
theorem dX12_does_498 : decode cX12_does 498 = .ok (.getfield 201, 3) := by decide +kernel
theorem dX12_does_501 : decode cX12_does 501 = .ok (.invokevirtual 323, 3) := by decide +kernel
theorem dX12_does_504 : decode cX12_does 504 = .ok (.i2l, 1) := by decide +kernel
theorem dX12_does_505 : decode cX12_does 505 = .ok (.ldiv, 1) := by decide +kernel
theorem dX12_does_506 : decode cX12_does 506 = .ok (.putfield 274, 3) := by decide +kernel
theorem dX12_does_509 : decode cX12_does 509 = .ok (.iload 4, 2) := by decide +kernel
theorem dX12_does_511 : decode cX12_does 511 = .ok (.ireturn, 1) := by decide +kernel
theorem dX12_does_512 : decode cX12_does 512 = .ok (.aload_n 0, 1) := by decide +kernel
theorem dX12_does_513 : decode cX12_does 513 = .ok (.iload_n 2, 1) := by decide +kernel
theorem dX12_does_514 : decode cX12_does 514 = .ok (.iload_n 3, 1) := by decide +kernel
theorem dX12_does_515 : decode cX12_does 515 = .ok (.invokevirtual 503, 3) := by decide +kernel
theorem dX12_does_518 : decode cX12_does 518 = .ok (.ireturn, 1) := by decide +kernel
theorem dX12_does_519 : decode cX12_does 519 = .ok (.aload_n 0, 1) := by decide +kernel
theorem dX12_does_520 : decode cX12_does 520 = .ok (.iload_n 2, 1) := by decide +kernel
theorem dX12_does_521 : decode cX12_does 521 = .ok (.iload_n 3, 1) := by decide +kernel
theorem dX12_does_522 : decode cX12_does 522 = .ok (.invokevirtual 506, 3) := by decide +kernel
theorem dX12_does_525 : decode cX12_does 525 = .ok (.ireturn, 1) := by decide +kernel
theorem dX12_does_526 : decode cX12_does 526 = .ok (.aload_n 0, 1) := by decide +kernel
theorem dX12_does_527 : decode cX12_does 527 = .ok (.iload_n 2, 1) := by decide +kernel
theorem dX12_does_528 : decode cX12_does 528 = .ok (.invokevirtual 509, 3) := by decide +kernel
theorem dX12_does_531 : decode cX12_does 531 = .ok (.ireturn, 1) := by decide +kernel
theorem dX12_does_532 : decode cX12_does 532 = .ok (.aload_n 0, 1) := by decide +kernel
theorem dX12_does_533 : decode cX12_does 533 = .ok (.iload_n 2, 1) := by decide +kernel
theorem dX12_does_534 : decode cX12_does 534 = .ok (.invokevirtual 512, 3) := by decide +kernel
theorem dX12_does_537 : decode cX12_does 537 = .ok (.ireturn, 1) := by decide +kernel
def M_X12_does : y_M := (yX12_does, cX12_does, 7, (Option.some Jvm.ClassFile.FieldType.int))
theorem n_X12_does : y_N0 M_X12_does 3 := ⟨(c_10 74 (by decide +kernel) rfl), (c_1 9 (by decide +kernel) rfl), ⟨by decide +kernel, by decide +kernel⟩, by decide +kernel⟩
theorem l_BoxYardModel_497 : y_lnk "BoxYardModel" 497 M_X12_topOfBay := Or.inl (c_10 75 (by decide +kernel) rfl)
theorem i_X12_topOfBay : Cond.instanceMethod (M_X12_topOfBay).1 ∈ y_tb := (c_10 77 (by decide +kernel) rfl)
theorem e_X12_topOfBay : Cond.selects (M_X12_topOfBay).1.cls (M_X12_topOfBay).1 (M_X12_topOfBay).1 ∈ y_tb := (m_s 110 (by decide +kernel) rfl)
theorem l_BoxYardModel_500 : y_lnk "BoxYardModel" 500 M_X12_boxNumber := Or.inl (c_10 83 (by decide +kernel) rfl)
theorem i_X12_boxNumber : Cond.instanceMethod (M_X12_boxNumber).1 ∈ y_tb := (c_10 85 (by decide +kernel) rfl)
theorem e_X12_boxNumber : Cond.selects (M_X12_boxNumber).1.cls (M_X12_boxNumber).1 (M_X12_boxNumber).1 ∈ y_tb := (m_s 112 (by decide +kernel) rfl)
theorem l_BoxYardModel_503 : y_lnk "BoxYardModel" 503 M_X12_keepsOn := Or.inl (c_10 87 (by decide +kernel) rfl)
theorem i_X12_keepsOn : Cond.instanceMethod (M_X12_keepsOn).1 ∈ y_tb := (c_10 89 (by decide +kernel) rfl)
theorem e_X12_keepsOn : Cond.selects (M_X12_keepsOn).1.cls (M_X12_keepsOn).1 (M_X12_keepsOn).1 ∈ y_tb := (m_s 113 (by decide +kernel) rfl)
theorem l_BoxYardModel_506 : y_lnk "BoxYardModel" 506 M_X12_takesFrom := Or.inl (c_10 99 (by decide +kernel) rfl)
theorem i_X12_takesFrom : Cond.instanceMethod (M_X12_takesFrom).1 ∈ y_tb := (c_10 101 (by decide +kernel) rfl)
theorem e_X12_takesFrom : Cond.selects (M_X12_takesFrom).1.cls (M_X12_takesFrom).1 (M_X12_takesFrom).1 ∈ y_tb := (m_s 116 (by decide +kernel) rfl)
theorem l_BoxYardModel_509 : y_lnk "BoxYardModel" 509 M_X12_makesShelf := Or.inl (c_10 103 (by decide +kernel) rfl)
theorem i_X12_makesShelf : Cond.instanceMethod (M_X12_makesShelf).1 ∈ y_tb := (c_10 105 (by decide +kernel) rfl)
theorem e_X12_makesShelf : Cond.selects (M_X12_makesShelf).1.cls (M_X12_makesShelf).1 (M_X12_makesShelf).1 ∈ y_tb := (m_s 117 (by decide +kernel) rfl)
theorem l_BoxYardModel_512 : y_lnk "BoxYardModel" 512 M_X12_looksAs := Or.inl (c_10 107 (by decide +kernel) rfl)
theorem i_X12_looksAs : Cond.instanceMethod (M_X12_looksAs).1 ∈ y_tb := (c_10 109 (by decide +kernel) rfl)
theorem e_X12_looksAs : Cond.selects (M_X12_looksAs).1.cls (M_X12_looksAs).1 (M_X12_looksAs).1 ∈ y_tb := (m_s 118 (by decide +kernel) rfl)
set_option maxRecDepth 100000 in
def f_X12_does (p0 : Nat) (p1 : Int32) (p2 : Int32) (p3 : Int32) (h : y_H) : Option (Int32 × y_H) :=
  if p1 = 0 then
    if y_K h p0 = 13 then
    y_cl (f_X12_isBox p0 p2 h) (fun r2 h3 =>
    if r2 = true then
      if y_K h3 p0 = 13 then
      y_cl (f_X12_leads p0 0 p2 h3) (fun _ h8 =>
      some (0, h8))
      else none
    else
      if y_K h3 p0 = 13 then
      y_cl (f_X12_leads p0 (-9 : Int32) p2 h3) (fun _ h5 =>
      some (0, h5))
      else none)
    else none
  else
  if p1 = 1 then
    if y_K h p0 = 13 then
    y_cl (f_X12_isCrane p0 p2 h) (fun r14 h15 =>
    if r14 = true then
      if y_K h15 p0 = 13 then
      y_cl (f_X12_leads p0 1 p2 h15) (fun _ h20 =>
      some (0, h20))
      else none
    else
      if y_K h15 p0 = 13 then
      y_cl (f_X12_leads p0 (-9 : Int32) p2 h15) (fun _ h17 =>
      some (0, h17))
      else none)
    else none
  else
  if p1 = 2 then
    if y_K h p0 = 13 then
    y_cl (f_X12_isBay p0 p2 h) (fun r26 h27 =>
    if r26 = true then
      if y_K h27 p0 = 13 then
      y_cl (f_X12_leads p0 2 p2 h27) (fun _ h32 =>
      some (0, h32))
      else none
    else
      if y_K h27 p0 = 13 then
      y_cl (f_X12_leads p0 (-9 : Int32) p2 h27) (fun _ h29 =>
      some (0, h29))
      else none)
    else none
  else
  if p1 = 3 then
    if y_K h p0 = 13 then
    y_cl (f_X12_topOfBay p0 p2 h) (fun r38 h39 =>
    some (r38, h39))
    else none
  else
  if p1 = 4 then
    if y_K h p0 = 13 then
    y_cl (f_X12_as p0 1 h) (fun r43 h44 =>
    y_jn (fun (v4_181 : Int32) (h46 : y_H) => (
        some (v4_181, h46) : Option (Int32 × y_H))) (fun j181 =>
    if r43 = 0 then
      if y_K h44 p0 = 13 then
      if y_K h44 p0 = 13 then
      if y_K h44 (y_P h44 p0 29) = 100 ∧ y_ix (y_I h44 p0 82) (y_N h44 (y_P h44 p0 29)) = true then
      if 0 ≤ (y_I h44 (y_P h44 p0 29) (Int32.toNatClampNeg (y_I h44 p0 82))) then
        if y_K h44 p0 = 13 then
        y_cl (f_X12_leads p0 0 (y_I h44 (y_P h44 p0 29) (Int32.toNatClampNeg (y_I h44 p0 82))) h44) (fun _ h47 =>
        j181 r43 h47)
        else none
      else
        if y_K h44 p0 = 13 then
        y_cl (f_X12_leads p0 (-9 : Int32) (y_I h44 (y_P h44 p0 29) (Int32.toNatClampNeg (y_I h44 p0 82))) h44) (fun _ h50 =>
        j181 r43 h50)
        else none
      else none
      else none
      else none
    else
      j181 r43 h44))
    else none
  else
  if p1 = 5 then
    if y_K h p0 = 13 then
    y_cl (f_X12_as p0 0 h) (fun r60 h61 =>
    y_jn (fun (v4_298 : Int32) (h63 : y_H) => (
        some (v4_298, h63) : Option (Int32 × y_H))) (fun j298 =>
    if r60 = 0 then
      if y_K h61 p0 = 13 then
      if y_K h61 p0 = 13 then
      if y_K h61 (y_P h61 p0 7) = 100 ∧ y_ix (y_I h61 p0 82) (y_N h61 (y_P h61 p0 7)) = true then
      y_jn (fun (v0_225 : Nat) (v4_225 : Int32) (h64 : y_H) => (
          if (0 : Int32) = 0 then
            if (0 : Int32) = 0 then
              if y_K h64 v0_225 = 13 then
              y_cl (f_X12_leads v0_225 (-9 : Int32) (-9 : Int32) h64) (fun _ h65 =>
              j298 v4_225 h65)
              else none
            else
              if y_K h64 v0_225 = 13 then
              y_cl (f_X12_leads v0_225 0 (-9 : Int32) h64) (fun _ h68 =>
              j298 v4_225 h68)
              else none
          else
            if y_K h64 v0_225 = 13 then
            if y_K h64 v0_225 = 13 then
            if y_K h64 v0_225 = 13 then
            if y_K h64 (y_P h64 v0_225 8) = 100 ∧ y_ix (y_I h64 v0_225 82) (y_N h64 (y_P h64 v0_225 8)) = true then
            if y_K h64 v0_225 = 13 then
            if y_K h64 v0_225 = 13 then
            if y_K h64 (y_P h64 v0_225 9) = 100 ∧ y_ix (y_I h64 v0_225 82) (y_N h64 (y_P h64 v0_225 9)) = true then
            if y_K h64 v0_225 = 13 then
            if y_K h64 v0_225 = 13 then
            if y_K h64 (y_P h64 v0_225 10) = 100 ∧ y_ix (y_I h64 v0_225 82) (y_N h64 (y_P h64 v0_225 10)) = true then
            if y_K h64 (y_P h64 v0_225 23) = 100 ∧ y_ix (((5 * ((6 * (y_I h64 (y_P h64 v0_225 8) (Int32.toNatClampNeg (y_I h64 v0_225 82)))) + (y_I h64 (y_P h64 v0_225 9) (Int32.toNatClampNeg (y_I h64 v0_225 82))))) + (y_I h64 (y_P h64 v0_225 10) (Int32.toNatClampNeg (y_I h64 v0_225 82)))) - 1) (y_N h64 (y_P h64 v0_225 23)) = true then
            if (0 : Int32) = 0 then
              if y_K h64 v0_225 = 13 then
              y_cl (f_X12_leads v0_225 (-9 : Int32) (y_I h64 (y_P h64 v0_225 23) (Int32.toNatClampNeg (((5 * ((6 * (y_I h64 (y_P h64 v0_225 8) (Int32.toNatClampNeg (y_I h64 v0_225 82)))) + (y_I h64 (y_P h64 v0_225 9) (Int32.toNatClampNeg (y_I h64 v0_225 82))))) + (y_I h64 (y_P h64 v0_225 10) (Int32.toNatClampNeg (y_I h64 v0_225 82)))) - 1))) h64) (fun _ h72 =>
              j298 v4_225 h72)
              else none
            else
              if y_K h64 v0_225 = 13 then
              y_cl (f_X12_leads v0_225 0 (y_I h64 (y_P h64 v0_225 23) (Int32.toNatClampNeg (((5 * ((6 * (y_I h64 (y_P h64 v0_225 8) (Int32.toNatClampNeg (y_I h64 v0_225 82)))) + (y_I h64 (y_P h64 v0_225 9) (Int32.toNatClampNeg (y_I h64 v0_225 82))))) + (y_I h64 (y_P h64 v0_225 10) (Int32.toNatClampNeg (y_I h64 v0_225 82)))) - 1))) h64) (fun _ h75 =>
              j298 v4_225 h75)
              else none
            else none
            else none
            else none
            else none
            else none
            else none
            else none
            else none
            else none
            else none
            else none : Option (Int32 × y_H))) (fun j225 =>
      if (y_I h61 (y_P h61 p0 7) (Int32.toNatClampNeg (y_I h61 p0 82))) = 1 then
        if y_K h61 p0 = 13 then
        if y_K h61 p0 = 13 then
        if y_K h61 (y_P h61 p0 10) = 100 ∧ y_ix (y_I h61 p0 82) (y_N h61 (y_P h61 p0 10)) = true then
        if (y_I h61 (y_P h61 p0 10) (Int32.toNatClampNeg (y_I h61 p0 82))) ≤ 0 then
          j225 p0 r60 h61
        else
          if (1 : Int32) = 0 then
            if (1 : Int32) = 0 then
              if y_K h61 p0 = 13 then
              y_cl (f_X12_leads p0 (-9 : Int32) (-9 : Int32) h61) (fun _ h91 =>
              j298 r60 h91)
              else none
            else
              if y_K h61 p0 = 13 then
              y_cl (f_X12_leads p0 0 (-9 : Int32) h61) (fun _ h94 =>
              j298 r60 h94)
              else none
          else
            if y_K h61 p0 = 13 then
            if y_K h61 p0 = 13 then
            if y_K h61 p0 = 13 then
            if y_K h61 (y_P h61 p0 8) = 100 ∧ y_ix (y_I h61 p0 82) (y_N h61 (y_P h61 p0 8)) = true then
            if y_K h61 p0 = 13 then
            if y_K h61 p0 = 13 then
            if y_K h61 (y_P h61 p0 9) = 100 ∧ y_ix (y_I h61 p0 82) (y_N h61 (y_P h61 p0 9)) = true then
            if y_K h61 p0 = 13 then
            if y_K h61 p0 = 13 then
            if y_K h61 (y_P h61 p0 10) = 100 ∧ y_ix (y_I h61 p0 82) (y_N h61 (y_P h61 p0 10)) = true then
            if y_K h61 (y_P h61 p0 23) = 100 ∧ y_ix (((5 * ((6 * (y_I h61 (y_P h61 p0 8) (Int32.toNatClampNeg (y_I h61 p0 82)))) + (y_I h61 (y_P h61 p0 9) (Int32.toNatClampNeg (y_I h61 p0 82))))) + (y_I h61 (y_P h61 p0 10) (Int32.toNatClampNeg (y_I h61 p0 82)))) - 1) (y_N h61 (y_P h61 p0 23)) = true then
            if (1 : Int32) = 0 then
              if y_K h61 p0 = 13 then
              y_cl (f_X12_leads p0 (-9 : Int32) (y_I h61 (y_P h61 p0 23) (Int32.toNatClampNeg (((5 * ((6 * (y_I h61 (y_P h61 p0 8) (Int32.toNatClampNeg (y_I h61 p0 82)))) + (y_I h61 (y_P h61 p0 9) (Int32.toNatClampNeg (y_I h61 p0 82))))) + (y_I h61 (y_P h61 p0 10) (Int32.toNatClampNeg (y_I h61 p0 82)))) - 1))) h61) (fun _ h98 =>
              j298 r60 h98)
              else none
            else
              if y_K h61 p0 = 13 then
              y_cl (f_X12_leads p0 0 (y_I h61 (y_P h61 p0 23) (Int32.toNatClampNeg (((5 * ((6 * (y_I h61 (y_P h61 p0 8) (Int32.toNatClampNeg (y_I h61 p0 82)))) + (y_I h61 (y_P h61 p0 9) (Int32.toNatClampNeg (y_I h61 p0 82))))) + (y_I h61 (y_P h61 p0 10) (Int32.toNatClampNeg (y_I h61 p0 82)))) - 1))) h61) (fun _ h101 =>
              j298 r60 h101)
              else none
            else none
            else none
            else none
            else none
            else none
            else none
            else none
            else none
            else none
            else none
            else none
        else none
        else none
        else none
      else
        j225 p0 r60 h61)
      else none
      else none
      else none
    else
      j298 r60 h61))
    else none
  else
  if p1 = 6 then
    if y_K h p0 = 13 then
    y_bd (s_L h p0 80 (Int32.toInt64 p2)) (fun h128 =>
    some (0, h128))
    else none
  else
  if p1 = 7 then
    if y_K h p0 = 13 then
    y_cl (f_X12_as p0 0 h) (fun r132 h133 =>
    y_jn (fun (v0_343 : Nat) (v2_343 : Int32) (v4_343 : Int32) (h135 : y_H) => (
        y_jn (fun (v4_384 : Int32) (h136 : y_H) => (
            some (v4_384, h136) : Option (Int32 × y_H))) (fun j384 =>
        if v4_343 = 0 then
          if y_K h135 v0_343 = 13 then
          if v2_343 = 3 then
            if y_K h135 v0_343 = 13 then
            if y_K h135 v0_343 = 13 then
            y_cl (f_X12_watts v0_343 (y_I h135 v0_343 82) h135) (fun r144 h145 =>
            if y_K h145 v0_343 = 13 then
            y_bd (s_L h145 v0_343 80 ((y_L h135 v0_343 80) + (Int32.toInt64 r144))) (fun h147 =>
            j384 v4_343 h147)
            else none)
            else none
            else none
          else
            if y_K h135 v0_343 = 13 then
            y_cl (f_X12_boxNumber v0_343 v2_343 h135) (fun r137 h138 =>
            if y_K h138 v0_343 = 13 then
            y_bd (s_L h138 v0_343 80 ((y_L h135 v0_343 80) + (Int32.toInt64 r137))) (fun h140 =>
            j384 v4_343 h140)
            else none)
            else none
          else none
        else
          j384 v4_343 h135) : Option (Int32 × y_H))) (fun j343 =>
    if r132 = 0 then
      if p2 = 3 then
        if y_K h133 p0 = 13 then
        if y_K h133 p0 = 13 then
        if y_K h133 (y_P h133 p0 1) = 100 ∧ y_ix (y_I h133 p0 82) (y_N h133 (y_P h133 p0 1)) = true then
        if (y_I h133 (y_P h133 p0 1) (Int32.toNatClampNeg (y_I h133 p0 82))) = 1 then
          j343 p0 p2 r132 h133
        else
          y_jn (fun (v4_384 : Int32) (h155 : y_H) => (
              some (v4_384, h155) : Option (Int32 × y_H))) (fun j384 =>
          if (5 : Int32) = 0 then
            if y_K h133 p0 = 13 then
            if p2 = 3 then
              if y_K h133 p0 = 13 then
              if y_K h133 p0 = 13 then
              y_cl (f_X12_watts p0 (y_I h133 p0 82) h133) (fun r163 h164 =>
              if y_K h164 p0 = 13 then
              y_bd (s_L h164 p0 80 ((y_L h133 p0 80) + (Int32.toInt64 r163))) (fun h166 =>
              j384 5 h166)
              else none)
              else none
              else none
            else
              if y_K h133 p0 = 13 then
              y_cl (f_X12_boxNumber p0 p2 h133) (fun r156 h157 =>
              if y_K h157 p0 = 13 then
              y_bd (s_L h157 p0 80 ((y_L h133 p0 80) + (Int32.toInt64 r156))) (fun h159 =>
              j384 5 h159)
              else none)
              else none
            else none
          else
            j384 5 h133)
        else none
        else none
        else none
      else
        j343 p0 p2 r132 h133
    else
      j343 p0 p2 r132 h133))
    else none
  else
  if p1 = 8 then
    if y_K h p0 = 13 then
    y_cl (f_X12_as p0 1 h) (fun r182 h183 =>
    y_jn (fun (v4_451 : Int32) (h185 : y_H) => (
        some (v4_451, h185) : Option (Int32 × y_H))) (fun j451 =>
    if r182 = 0 then
      if y_K h183 p0 = 13 then
      if p2 = 0 then
        if y_K h183 p0 = 13 then
        if y_K h183 p0 = 13 then
        y_cl (f_X12_loadOf p0 (y_I h183 p0 82) h183) (fun r201 h202 =>
        if y_K h202 p0 = 13 then
        y_bd (s_L h202 p0 80 ((y_L h183 p0 80) + (Int32.toInt64 r201))) (fun h204 =>
        j451 r182 h204)
        else none)
        else none
        else none
      else
        if p2 = 1 then
          if y_K h183 p0 = 13 then
          if y_K h183 p0 = 13 then
          y_cl (f_X12_stop p0 (y_I h183 p0 82) h183) (fun r192 h193 =>
          if y_K h193 p0 = 13 then
          y_bd (s_L h193 p0 80 ((y_L h183 p0 80) + (Int32.toInt64 r192))) (fun h195 =>
          j451 r182 h195)
          else none)
          else none
          else none
        else
          if y_K h183 p0 = 13 then
          if y_K h183 p0 = 13 then
          if y_K h183 (y_P h183 p0 28) = 100 ∧ y_ix (y_I h183 p0 82) (y_N h183 (y_P h183 p0 28)) = true then
          if y_K h183 p0 = 13 then
          y_bd (s_L h183 p0 80 ((y_L h183 p0 80) + (Int32.toInt64 (y_I h183 (y_P h183 p0 28) (Int32.toNatClampNeg (y_I h183 p0 82)))))) (fun h186 =>
          j451 r182 h186)
          else none
          else none
          else none
          else none
      else none
    else
      j451 r182 h183))
    else none
  else
  if p1 = 9 then
    if y_K h p0 = 13 then
    y_cl (f_X12_as p0 2 h) (fun r214 h215 =>
    y_jn (fun (v0_482 : Nat) (v4_482 : Int32) (h217 : y_H) => (
        y_jn (fun (v4_509 : Int32) (h218 : y_H) => (
            some (v4_509, h218) : Option (Int32 × y_H))) (fun j509 =>
        if v4_482 = 0 then
          if y_K h217 v0_482 = 13 then
          if y_K h217 v0_482 = 13 then
          if y_K h217 v0_482 = 13 then
          y_cl (f_X12_boxesOf v0_482 (y_I h217 v0_482 82) h217) (fun r219 h220 =>
          if ¬ (Int32.toInt64 r219) = 0 then
          if y_K h220 v0_482 = 13 then
          y_bd (s_L h220 v0_482 80 ((y_L h217 v0_482 80) / (Int32.toInt64 r219))) (fun h222 =>
          j509 v4_482 h222)
          else none
          else none)
          else none
          else none
          else none
        else
          j509 v4_482 h217) : Option (Int32 × y_H))) (fun j482 =>
    if r214 = 0 then
      if y_K h215 p0 = 13 then
      if y_K h215 p0 = 13 then
      y_cl (f_X12_boxesOf p0 (y_I h215 p0 82) h215) (fun r230 h231 =>
      if r230 = 0 then
        y_jn (fun (v4_509 : Int32) (h233 : y_H) => (
            some (v4_509, h233) : Option (Int32 × y_H))) (fun j509 =>
        if (6 : Int32) = 0 then
          if y_K h231 p0 = 13 then
          if y_K h231 p0 = 13 then
          if y_K h231 p0 = 13 then
          y_cl (f_X12_boxesOf p0 (y_I h231 p0 82) h231) (fun r234 h235 =>
          if ¬ (Int32.toInt64 r234) = 0 then
          if y_K h235 p0 = 13 then
          y_bd (s_L h235 p0 80 ((y_L h231 p0 80) / (Int32.toInt64 r234))) (fun h237 =>
          j509 6 h237)
          else none
          else none)
          else none
          else none
          else none
        else
          j509 6 h231)
      else
        j482 p0 r214 h231)
      else none
      else none
    else
      j482 p0 r214 h215))
    else none
  else
  if p1 = 10 then
    if y_K h p0 = 13 then
    y_cl (f_X12_keepsOn p0 p2 p3 h) (fun r251 h252 =>
    some (r251, h252))
    else none
  else
  if p1 = 11 then
    if y_K h p0 = 13 then
    y_cl (f_X12_takesFrom p0 p2 p3 h) (fun r256 h257 =>
    some (r256, h257))
    else none
  else
  if p1 = 12 then
    if y_K h p0 = 13 then
    y_cl (f_X12_makesShelf p0 p2 h) (fun r261 h262 =>
    some (r261, h262))
    else none
  else
  if y_K h p0 = 13 then
  y_cl (f_X12_looksAs p0 p2 h) (fun r265 h266 =>
  some (r265, h266))
  else none
abbrev rm_X12_does : Room := { frames := 4, cells := 0, slots := 0, locals := 88 }
set_option maxRecDepth 100000 in
set_option maxHeartbeats 4000000 in
theorem k_X12_does {l : Launch} {G : y_G} {p0 : Nat} {p1 : Int32} {p2 : Int32} {p3 : Int32} {h hz : y_H} {rz : Int32} (hf : f_X12_does p0 p1 p2 p3 h = some (rz, hz)) : y_S l G M_X12_does rm_X12_does [y_p p0, .int p1, .int p2, .int p3] h (some (.int rz)) hz := by
  refine y_start (lv := [(0, y_p p0), (1, .int p1), (2, .int p2), (3, .int p3)]) (by decide) (by simp [lg_sl, y_p_cat, y_ci, y_cj, M_X12_does]) (by simp [lv_args, y_p_cat, y_ci, y_cj]) (fun z ad0 => ?_)
  unfold f_X12_does at hf
  refine y_iconst (v := 0) (pc2 := 1) rfl dX12_does_0 (by decide) ?_
  refine y_istore (lv' := [(4, .int 0), (0, y_p p0), (1, .int p1), (2, .int p2), (3, .int p3)]) (pc2 := 3) rfl dX12_does_1 (by decide) rfl ?_
  refine y_iload_n (pc2 := 4) rfl dX12_does_3 rfl ?_
  by_cases c1 : p1 = 0
  · replace hf := y_it c1 hf
    refine y_table (off := 68) (tgt := 72) dX12_does_4 (by (rw [c1]) <;> decide) (by decide) ?_
    refine y_aload_n (x := p0) (pc2 := 73) rfl dX12_does_72 rfl ?_
    refine y_aload_n (x := p0) (pc2 := 74) rfl dX12_does_73 rfl ?_
    refine y_iload_n (pc2 := 75) rfl dX12_does_74 rfl ?_
    obtain ⟨g12, hf⟩ := y_g hf
    obtain ⟨r2, h3, c4, hf⟩ := y_clE hf
    refine y_callV (As := [.int p2]) (rm := rm_X12_isBox) (cells := 0) (slots := 0) (pc2 := 78) rfl dX12_does_75 n_X12_isBox l_BoxYardModel_298 i_X12_isBox e_X12_isBox (ci := 12) rfl rfl (by decide) g12 rfl rfl (by decide) (by simp [y_ci, y_cj, y_p_cat]) (by decide) (k_X12_isBox c4) ?_
    refine y_ifz_eq (tgt := 85) (pc2 := 81) rfl dX12_does_78 (by decide) (fun c11 => ?_) (fun c11 => ?_)
    · replace hf := y_ie c11 hf
      refine y_bipush (v := (-9 : Int32)) (pc2 := 87) rfl dX12_does_85 (by decide) ?_
      refine y_iload_n (pc2 := 88) rfl dX12_does_87 rfl ?_
      obtain ⟨g7, hf⟩ := y_g hf
      obtain ⟨r_, h5, c6, hf⟩ := y_clE hf
      refine y_callV (As := [.int (-9 : Int32), .int p2]) (rm := rm_X12_leads) (cells := 0) (slots := 0) (pc2 := 91) rfl dX12_does_88 n_X12_leads l_BoxYardModel_491 i_X12_leads e_X12_leads (ci := 12) rfl rfl (by decide) g7 rfl rfl (by decide) (by decide) (by decide) (k_X12_leads c6) ?_
      refine y_iconst (v := 0) (pc2 := 92) rfl dX12_does_91 (by decide) ?_
      exact y_iretF hf dX12_does_92 rfl (by decide) (by decide)
    · replace hf := y_it c11 hf
      refine y_iconst (v := 0) (pc2 := 82) rfl dX12_does_81 (by decide) ?_
      refine y_goto (tgt := 87) dX12_does_82 (by decide) ?_
      refine y_iload_n (pc2 := 88) rfl dX12_does_87 rfl ?_
      obtain ⟨g10, hf⟩ := y_g hf
      obtain ⟨r_, h8, c9, hf⟩ := y_clE hf
      refine y_callV (As := [.int 0, .int p2]) (rm := rm_X12_leads) (cells := 0) (slots := 0) (pc2 := 91) rfl dX12_does_88 n_X12_leads l_BoxYardModel_491 i_X12_leads e_X12_leads (ci := 12) rfl rfl (by decide) g10 rfl rfl (by decide) (by decide) (by decide) (k_X12_leads c9) ?_
      refine y_iconst (v := 0) (pc2 := 92) rfl dX12_does_91 (by decide) ?_
      exact y_iretF hf dX12_does_92 rfl (by decide) (by decide)
  · replace hf := y_ie c1 hf
    by_cases c13 : p1 = 1
    · replace hf := y_it c13 hf
      refine y_table (off := 89) (tgt := 93) dX12_does_4 (by (rw [c13]) <;> decide) (by decide) ?_
      refine y_aload_n (x := p0) (pc2 := 94) rfl dX12_does_93 rfl ?_
      refine y_aload_n (x := p0) (pc2 := 95) rfl dX12_does_94 rfl ?_
      refine y_iload_n (pc2 := 96) rfl dX12_does_95 rfl ?_
      obtain ⟨g24, hf⟩ := y_g hf
      obtain ⟨r14, h15, c16, hf⟩ := y_clE hf
      refine y_callV (As := [.int p2]) (rm := rm_X12_isCrane) (cells := 0) (slots := 0) (pc2 := 99) rfl dX12_does_96 n_X12_isCrane l_BoxYardModel_329 i_X12_isCrane e_X12_isCrane (ci := 12) rfl rfl (by decide) g24 rfl rfl (by decide) (by simp [y_ci, y_cj, y_p_cat]) (by decide) (k_X12_isCrane c16) ?_
      refine y_ifz_eq (tgt := 106) (pc2 := 102) rfl dX12_does_99 (by decide) (fun c23 => ?_) (fun c23 => ?_)
      · replace hf := y_ie c23 hf
        refine y_bipush (v := (-9 : Int32)) (pc2 := 108) rfl dX12_does_106 (by decide) ?_
        refine y_iload_n (pc2 := 109) rfl dX12_does_108 rfl ?_
        obtain ⟨g19, hf⟩ := y_g hf
        obtain ⟨r_, h17, c18, hf⟩ := y_clE hf
        refine y_callV (As := [.int (-9 : Int32), .int p2]) (rm := rm_X12_leads) (cells := 0) (slots := 0) (pc2 := 112) rfl dX12_does_109 n_X12_leads l_BoxYardModel_491 i_X12_leads e_X12_leads (ci := 12) rfl rfl (by decide) g19 rfl rfl (by decide) (by decide) (by decide) (k_X12_leads c18) ?_
        refine y_iconst (v := 0) (pc2 := 113) rfl dX12_does_112 (by decide) ?_
        exact y_iretF hf dX12_does_113 rfl (by decide) (by decide)
      · replace hf := y_it c23 hf
        refine y_iconst (v := 1) (pc2 := 103) rfl dX12_does_102 (by decide) ?_
        refine y_goto (tgt := 108) dX12_does_103 (by decide) ?_
        refine y_iload_n (pc2 := 109) rfl dX12_does_108 rfl ?_
        obtain ⟨g22, hf⟩ := y_g hf
        obtain ⟨r_, h20, c21, hf⟩ := y_clE hf
        refine y_callV (As := [.int 1, .int p2]) (rm := rm_X12_leads) (cells := 0) (slots := 0) (pc2 := 112) rfl dX12_does_109 n_X12_leads l_BoxYardModel_491 i_X12_leads e_X12_leads (ci := 12) rfl rfl (by decide) g22 rfl rfl (by decide) (by decide) (by decide) (k_X12_leads c21) ?_
        refine y_iconst (v := 0) (pc2 := 113) rfl dX12_does_112 (by decide) ?_
        exact y_iretF hf dX12_does_113 rfl (by decide) (by decide)
    · replace hf := y_ie c13 hf
      by_cases c25 : p1 = 2
      · replace hf := y_it c25 hf
        refine y_table (off := 110) (tgt := 114) dX12_does_4 (by (rw [c25]) <;> decide) (by decide) ?_
        refine y_aload_n (x := p0) (pc2 := 115) rfl dX12_does_114 rfl ?_
        refine y_aload_n (x := p0) (pc2 := 116) rfl dX12_does_115 rfl ?_
        refine y_iload_n (pc2 := 117) rfl dX12_does_116 rfl ?_
        obtain ⟨g36, hf⟩ := y_g hf
        obtain ⟨r26, h27, c28, hf⟩ := y_clE hf
        refine y_callV (As := [.int p2]) (rm := rm_X12_isBay) (cells := 0) (slots := 0) (pc2 := 120) rfl dX12_does_117 n_X12_isBay l_BoxYardModel_282 i_X12_isBay e_X12_isBay (ci := 12) rfl rfl (by decide) g36 rfl rfl (by decide) (by simp [y_ci, y_cj, y_p_cat]) (by decide) (k_X12_isBay c28) ?_
        refine y_ifz_eq (tgt := 127) (pc2 := 123) rfl dX12_does_120 (by decide) (fun c35 => ?_) (fun c35 => ?_)
        · replace hf := y_ie c35 hf
          refine y_bipush (v := (-9 : Int32)) (pc2 := 129) rfl dX12_does_127 (by decide) ?_
          refine y_iload_n (pc2 := 130) rfl dX12_does_129 rfl ?_
          obtain ⟨g31, hf⟩ := y_g hf
          obtain ⟨r_, h29, c30, hf⟩ := y_clE hf
          refine y_callV (As := [.int (-9 : Int32), .int p2]) (rm := rm_X12_leads) (cells := 0) (slots := 0) (pc2 := 133) rfl dX12_does_130 n_X12_leads l_BoxYardModel_491 i_X12_leads e_X12_leads (ci := 12) rfl rfl (by decide) g31 rfl rfl (by decide) (by decide) (by decide) (k_X12_leads c30) ?_
          refine y_iconst (v := 0) (pc2 := 134) rfl dX12_does_133 (by decide) ?_
          exact y_iretF hf dX12_does_134 rfl (by decide) (by decide)
        · replace hf := y_it c35 hf
          refine y_iconst (v := 2) (pc2 := 124) rfl dX12_does_123 (by decide) ?_
          refine y_goto (tgt := 129) dX12_does_124 (by decide) ?_
          refine y_iload_n (pc2 := 130) rfl dX12_does_129 rfl ?_
          obtain ⟨g34, hf⟩ := y_g hf
          obtain ⟨r_, h32, c33, hf⟩ := y_clE hf
          refine y_callV (As := [.int 2, .int p2]) (rm := rm_X12_leads) (cells := 0) (slots := 0) (pc2 := 133) rfl dX12_does_130 n_X12_leads l_BoxYardModel_491 i_X12_leads e_X12_leads (ci := 12) rfl rfl (by decide) g34 rfl rfl (by decide) (by decide) (by decide) (k_X12_leads c33) ?_
          refine y_iconst (v := 0) (pc2 := 134) rfl dX12_does_133 (by decide) ?_
          exact y_iretF hf dX12_does_134 rfl (by decide) (by decide)
      · replace hf := y_ie c25 hf
        by_cases c37 : p1 = 3
        · replace hf := y_it c37 hf
          refine y_table (off := 131) (tgt := 135) dX12_does_4 (by (rw [c37]) <;> decide) (by decide) ?_
          refine y_aload_n (x := p0) (pc2 := 136) rfl dX12_does_135 rfl ?_
          refine y_iload_n (pc2 := 137) rfl dX12_does_136 rfl ?_
          obtain ⟨g41, hf⟩ := y_g hf
          obtain ⟨r38, h39, c40, hf⟩ := y_clE hf
          refine y_callV (As := [.int p2]) (rm := rm_X12_topOfBay) (cells := 0) (slots := 0) (pc2 := 140) rfl dX12_does_137 n_X12_topOfBay l_BoxYardModel_497 i_X12_topOfBay e_X12_topOfBay (ci := 12) rfl rfl (by decide) g41 rfl rfl (by decide) (by decide) (by decide) (k_X12_topOfBay c40) ?_
          exact y_iretF hf dX12_does_140 rfl (by decide) (by decide)
        · replace hf := y_ie c37 hf
          by_cases c42 : p1 = 4
          · replace hf := y_it c42 hf
            refine y_table (off := 137) (tgt := 141) dX12_does_4 (by (rw [c42]) <;> decide) (by decide) ?_
            refine y_aload_n (x := p0) (pc2 := 142) rfl dX12_does_141 rfl ?_
            refine y_iconst (v := 1) (pc2 := 143) rfl dX12_does_142 (by decide) ?_
            obtain ⟨g58, hf⟩ := y_g hf
            obtain ⟨r43, h44, c45, hf⟩ := y_clE hf
            refine y_callV (As := [.int 1]) (rm := rm_X12_as) (cells := 0) (slots := 0) (pc2 := 146) rfl dX12_does_143 n_X12_as l_BoxYardModel_494 i_X12_as e_X12_as (ci := 12) rfl rfl (by decide) g58 rfl rfl (by decide) (by decide) (by decide) (k_X12_as c45) ?_
            refine y_istore (lv' := [(4, .int r43), (0, y_p p0), (1, .int p1), (2, .int p2), (3, .int p3)]) (pc2 := 148) rfl dX12_does_146 (by decide) rfl ?_
            refine y_iload (pc2 := 150) rfl dX12_does_148 rfl ?_
            refine y_jnE hf (fun j => ∀ (v4_181 : Int32) (h46 : y_H), j v4_181 h46 = some (rz, hz) → y_V l G z rm_X12_does M_X12_does ad0 h (some (.int rz)) hz 181 [(4, .int v4_181)] [] h46 0 0) (fun v4_181 h46 hf => ?_) (fun j181 hj181 hf => ?_)
            · refine y_iload (pc2 := 183) rfl dX12_does_181 rfl ?_
              exact y_iretF hf dX12_does_183 rfl (by decide) (by decide)
            · refine y_if_ne (tgt := 181) (pc2 := 153) rfl dX12_does_150 (by decide) (fun c57 => ?_) (fun c57 => ?_)
              · replace hf := y_ie c57 hf
                exact y_pk [0] rfl (hj181 _ _ hf)
              · replace hf := y_it c57 hf
                refine y_aload_n (x := p0) (pc2 := 154) rfl dX12_does_153 rfl ?_
                obtain ⟨g56, hf⟩ := y_g hf
                refine y_getP (pc2 := 157) rfl dX12_does_154 F_BoxYardModel_89 (by decide) rfl g56 ?_
                refine y_aload_n (x := p0) (pc2 := 158) rfl dX12_does_157 rfl ?_
                obtain ⟨g55, hf⟩ := y_g hf
                refine y_getI (pc2 := 161) rfl dX12_does_158 F_BoxYardModel_201 (by decide) rfl g55 ?_
                obtain ⟨g54, hf⟩ := y_g hf
                refine y_iald (pc2 := 162) rfl dX12_does_161 g54.1 (y_ix_in g54.2) ?_
                refine y_istore (lv' := [(5, .int (y_I h44 (y_P h44 p0 29) (Int32.toNatClampNeg (y_I h44 p0 82)))), (4, .int r43), (0, y_p p0), (1, .int p1), (2, .int p2), (3, .int p3)]) (pc2 := 164) rfl dX12_does_162 (by decide) rfl ?_
                refine y_aload_n (x := p0) (pc2 := 165) rfl dX12_does_164 rfl ?_
                refine y_iload (pc2 := 167) rfl dX12_does_165 rfl ?_
                refine y_if_ge (tgt := 175) (pc2 := 170) rfl dX12_does_167 (by decide) (fun c53 => ?_) (fun c53 => ?_)
                · replace hf := y_it c53 hf
                  refine y_iconst (v := 0) (pc2 := 176) rfl dX12_does_175 (by decide) ?_
                  refine y_iload (pc2 := 178) rfl dX12_does_176 rfl ?_
                  obtain ⟨g49, hf⟩ := y_g hf
                  obtain ⟨r_, h47, c48, hf⟩ := y_clE hf
                  refine y_callV (As := [.int 0, .int (y_I h44 (y_P h44 p0 29) (Int32.toNatClampNeg (y_I h44 p0 82)))]) (rm := rm_X12_leads) (cells := 0) (slots := 0) (pc2 := 181) rfl dX12_does_178 n_X12_leads l_BoxYardModel_491 i_X12_leads e_X12_leads (ci := 12) rfl rfl (by decide) g49 rfl rfl (by decide) (by decide) (by decide) (k_X12_leads c48) ?_
                  exact y_pk [1] rfl (hj181 _ _ hf)
                · replace hf := y_ie c53 hf
                  refine y_bipush (v := (-9 : Int32)) (pc2 := 172) rfl dX12_does_170 (by decide) ?_
                  refine y_goto (tgt := 176) dX12_does_172 (by decide) ?_
                  refine y_iload (pc2 := 178) rfl dX12_does_176 rfl ?_
                  obtain ⟨g52, hf⟩ := y_g hf
                  obtain ⟨r_, h50, c51, hf⟩ := y_clE hf
                  refine y_callV (As := [.int (-9 : Int32), .int (y_I h44 (y_P h44 p0 29) (Int32.toNatClampNeg (y_I h44 p0 82)))]) (rm := rm_X12_leads) (cells := 0) (slots := 0) (pc2 := 181) rfl dX12_does_178 n_X12_leads l_BoxYardModel_491 i_X12_leads e_X12_leads (ci := 12) rfl rfl (by decide) g52 rfl rfl (by decide) (by decide) (by decide) (k_X12_leads c51) ?_
                  exact y_pk [1] rfl (hj181 _ _ hf)
          · replace hf := y_ie c42 hf
            by_cases c59 : p1 = 5
            · replace hf := y_it c59 hf
              refine y_table (off := 180) (tgt := 184) dX12_does_4 (by (rw [c59]) <;> decide) (by decide) ?_
              refine y_aload_n (x := p0) (pc2 := 185) rfl dX12_does_184 rfl ?_
              refine y_iconst (v := 0) (pc2 := 186) rfl dX12_does_185 (by decide) ?_
              obtain ⟨g126, hf⟩ := y_g hf
              obtain ⟨r60, h61, c62, hf⟩ := y_clE hf
              refine y_callV (As := [.int 0]) (rm := rm_X12_as) (cells := 0) (slots := 0) (pc2 := 189) rfl dX12_does_186 n_X12_as l_BoxYardModel_494 i_X12_as e_X12_as (ci := 12) rfl rfl (by decide) g126 rfl rfl (by decide) (by decide) (by decide) (k_X12_as c62) ?_
              refine y_istore (lv' := [(4, .int r60), (0, y_p p0), (1, .int p1), (2, .int p2), (3, .int p3)]) (pc2 := 191) rfl dX12_does_189 (by decide) rfl ?_
              refine y_iload (pc2 := 193) rfl dX12_does_191 rfl ?_
              refine y_jnE hf (fun j => ∀ (v4_298 : Int32) (h63 : y_H), j v4_298 h63 = some (rz, hz) → y_V l G z rm_X12_does M_X12_does ad0 h (some (.int rz)) hz 298 [(4, .int v4_298)] [] h63 0 0) (fun v4_298 h63 hf => ?_) (fun j298 hj298 hf => ?_)
              · refine y_iload (pc2 := 300) rfl dX12_does_298 rfl ?_
                exact y_iretF hf dX12_does_300 rfl (by decide) (by decide)
              · refine y_if_ne (tgt := 298) (pc2 := 196) rfl dX12_does_193 (by decide) (fun c125 => ?_) (fun c125 => ?_)
                · replace hf := y_ie c125 hf
                  exact y_pk [0] rfl (hj298 _ _ hf)
                · replace hf := y_it c125 hf
                  refine y_aload_n (x := p0) (pc2 := 197) rfl dX12_does_196 rfl ?_
                  obtain ⟨g124, hf⟩ := y_g hf
                  refine y_getP (pc2 := 200) rfl dX12_does_197 F_BoxYardModel_29 (by decide) rfl g124 ?_
                  refine y_aload_n (x := p0) (pc2 := 201) rfl dX12_does_200 rfl ?_
                  obtain ⟨g123, hf⟩ := y_g hf
                  refine y_getI (pc2 := 204) rfl dX12_does_201 F_BoxYardModel_201 (by decide) rfl g123 ?_
                  obtain ⟨g122, hf⟩ := y_g hf
                  refine y_iald (pc2 := 205) rfl dX12_does_204 g122.1 (y_ix_in g122.2) ?_
                  refine y_iconst (v := 1) (pc2 := 206) rfl dX12_does_205 (by decide) ?_
                  refine y_jnE hf (fun j => ∀ (v0_225 : Nat) (v4_225 : Int32) (h64 : y_H), j v0_225 v4_225 h64 = some (rz, hz) → y_V l G z rm_X12_does M_X12_does ad0 h (some (.int rz)) hz 225 [(0, y_p v0_225), (4, .int v4_225)] [] h64 0 0) (fun v0_225 v4_225 h64 hf => ?_) (fun j225 hj225 hf => ?_)
                  · refine y_iconst (v := 0) (pc2 := 226) rfl dX12_does_225 (by decide) ?_
                    refine y_istore (lv' := [(5, .int 0), (0, y_p v0_225), (4, .int v4_225)]) (pc2 := 228) rfl dX12_does_226 (by decide) rfl ?_
                    refine y_iload (pc2 := 230) rfl dX12_does_228 rfl ?_
                    refine y_if_eq (tgt := 277) (pc2 := 233) rfl dX12_does_230 (by decide) (fun c90 => ?_) (fun c90 => ?_)
                    · replace hf := y_it c90 hf
                      refine y_bipush (v := (-9 : Int32)) (pc2 := 279) rfl dX12_does_277 (by decide) ?_
                      refine y_istore (lv' := [(6, .int (-9 : Int32)), (5, .int 0), (0, y_p v0_225), (4, .int v4_225)]) (pc2 := 281) rfl dX12_does_279 (by decide) rfl ?_
                      refine y_aload_n (x := v0_225) (pc2 := 282) rfl dX12_does_281 rfl ?_
                      refine y_iload (pc2 := 284) rfl dX12_does_282 rfl ?_
                      refine y_if_eq (tgt := 291) (pc2 := 287) rfl dX12_does_284 (by decide) (fun c71 => ?_) (fun c71 => ?_)
                      · replace hf := y_it c71 hf
                        refine y_bipush (v := (-9 : Int32)) (pc2 := 293) rfl dX12_does_291 (by decide) ?_
                        refine y_iload (pc2 := 295) rfl dX12_does_293 rfl ?_
                        obtain ⟨g67, hf⟩ := y_g hf
                        obtain ⟨r_, h65, c66, hf⟩ := y_clE hf
                        refine y_callV (As := [.int (-9 : Int32), .int (-9 : Int32)]) (rm := rm_X12_leads) (cells := 0) (slots := 0) (pc2 := 298) rfl dX12_does_295 n_X12_leads l_BoxYardModel_491 i_X12_leads e_X12_leads (ci := 12) rfl rfl (by decide) g67 rfl rfl (by decide) (by decide) (by decide) (k_X12_leads c66) ?_
                        exact y_pk [3] rfl (hj298 _ _ hf)
                      · replace hf := y_ie c71 hf
                        refine y_iconst (v := 0) (pc2 := 288) rfl dX12_does_287 (by decide) ?_
                        refine y_goto (tgt := 293) dX12_does_288 (by decide) ?_
                        refine y_iload (pc2 := 295) rfl dX12_does_293 rfl ?_
                        obtain ⟨g70, hf⟩ := y_g hf
                        obtain ⟨r_, h68, c69, hf⟩ := y_clE hf
                        refine y_callV (As := [.int 0, .int (-9 : Int32)]) (rm := rm_X12_leads) (cells := 0) (slots := 0) (pc2 := 298) rfl dX12_does_295 n_X12_leads l_BoxYardModel_491 i_X12_leads e_X12_leads (ci := 12) rfl rfl (by decide) g70 rfl rfl (by decide) (by decide) (by decide) (k_X12_leads c69) ?_
                        exact y_pk [3] rfl (hj298 _ _ hf)
                    · replace hf := y_ie c90 hf
                      refine y_aload_n (x := v0_225) (pc2 := 234) rfl dX12_does_233 rfl ?_
                      obtain ⟨g89, hf⟩ := y_g hf
                      refine y_getP (pc2 := 237) rfl dX12_does_234 F_BoxYardModel_74 (by decide) rfl g89 ?_
                      refine y_iconst (v := 5) (pc2 := 238) rfl dX12_does_237 (by decide) ?_
                      refine y_bipush (v := 6) (pc2 := 240) rfl dX12_does_238 (by decide) ?_
                      refine y_aload_n (x := v0_225) (pc2 := 241) rfl dX12_does_240 rfl ?_
                      obtain ⟨g88, hf⟩ := y_g hf
                      refine y_getP (pc2 := 244) rfl dX12_does_241 F_BoxYardModel_32 (by decide) rfl g88 ?_
                      refine y_aload_n (x := v0_225) (pc2 := 245) rfl dX12_does_244 rfl ?_
                      obtain ⟨g87, hf⟩ := y_g hf
                      refine y_getI (pc2 := 248) rfl dX12_does_245 F_BoxYardModel_201 (by decide) rfl g87 ?_
                      obtain ⟨g86, hf⟩ := y_g hf
                      refine y_iald (pc2 := 249) rfl dX12_does_248 g86.1 (y_ix_in g86.2) ?_
                      refine y_imul (pc2 := 250) rfl dX12_does_249 ?_
                      refine y_aload_n (x := v0_225) (pc2 := 251) rfl dX12_does_250 rfl ?_
                      obtain ⟨g85, hf⟩ := y_g hf
                      refine y_getP (pc2 := 254) rfl dX12_does_251 F_BoxYardModel_35 (by decide) rfl g85 ?_
                      refine y_aload_n (x := v0_225) (pc2 := 255) rfl dX12_does_254 rfl ?_
                      obtain ⟨g84, hf⟩ := y_g hf
                      refine y_getI (pc2 := 258) rfl dX12_does_255 F_BoxYardModel_201 (by decide) rfl g84 ?_
                      obtain ⟨g83, hf⟩ := y_g hf
                      refine y_iald (pc2 := 259) rfl dX12_does_258 g83.1 (y_ix_in g83.2) ?_
                      refine y_iadd (pc2 := 260) rfl dX12_does_259 ?_
                      refine y_imul (pc2 := 261) rfl dX12_does_260 ?_
                      refine y_aload_n (x := v0_225) (pc2 := 262) rfl dX12_does_261 rfl ?_
                      obtain ⟨g82, hf⟩ := y_g hf
                      refine y_getP (pc2 := 265) rfl dX12_does_262 F_BoxYardModel_38 (by decide) rfl g82 ?_
                      refine y_aload_n (x := v0_225) (pc2 := 266) rfl dX12_does_265 rfl ?_
                      obtain ⟨g81, hf⟩ := y_g hf
                      refine y_getI (pc2 := 269) rfl dX12_does_266 F_BoxYardModel_201 (by decide) rfl g81 ?_
                      obtain ⟨g80, hf⟩ := y_g hf
                      refine y_iald (pc2 := 270) rfl dX12_does_269 g80.1 (y_ix_in g80.2) ?_
                      refine y_iadd (pc2 := 271) rfl dX12_does_270 ?_
                      refine y_iconst (v := 1) (pc2 := 272) rfl dX12_does_271 (by decide) ?_
                      refine y_isub (pc2 := 273) rfl dX12_does_272 ?_
                      obtain ⟨g79, hf⟩ := y_g hf
                      refine y_iald (pc2 := 274) rfl dX12_does_273 g79.1 (y_ix_in g79.2) ?_
                      refine y_goto (tgt := 279) dX12_does_274 (by decide) ?_
                      refine y_istore (lv' := [(6, .int (y_I h64 (y_P h64 v0_225 23) (Int32.toNatClampNeg (((5 * ((6 * (y_I h64 (y_P h64 v0_225 8) (Int32.toNatClampNeg (y_I h64 v0_225 82)))) + (y_I h64 (y_P h64 v0_225 9) (Int32.toNatClampNeg (y_I h64 v0_225 82))))) + (y_I h64 (y_P h64 v0_225 10) (Int32.toNatClampNeg (y_I h64 v0_225 82)))) - 1)))), (5, .int 0), (0, y_p v0_225), (4, .int v4_225)]) (pc2 := 281) rfl dX12_does_279 (by decide) rfl ?_
                      refine y_aload_n (x := v0_225) (pc2 := 282) rfl dX12_does_281 rfl ?_
                      refine y_iload (pc2 := 284) rfl dX12_does_282 rfl ?_
                      refine y_if_eq (tgt := 291) (pc2 := 287) rfl dX12_does_284 (by decide) (fun c78 => ?_) (fun c78 => ?_)
                      · replace hf := y_it c78 hf
                        refine y_bipush (v := (-9 : Int32)) (pc2 := 293) rfl dX12_does_291 (by decide) ?_
                        refine y_iload (pc2 := 295) rfl dX12_does_293 rfl ?_
                        obtain ⟨g74, hf⟩ := y_g hf
                        obtain ⟨r_, h72, c73, hf⟩ := y_clE hf
                        refine y_callV (As := [.int (-9 : Int32), .int (y_I h64 (y_P h64 v0_225 23) (Int32.toNatClampNeg (((5 * ((6 * (y_I h64 (y_P h64 v0_225 8) (Int32.toNatClampNeg (y_I h64 v0_225 82)))) + (y_I h64 (y_P h64 v0_225 9) (Int32.toNatClampNeg (y_I h64 v0_225 82))))) + (y_I h64 (y_P h64 v0_225 10) (Int32.toNatClampNeg (y_I h64 v0_225 82)))) - 1)))]) (rm := rm_X12_leads) (cells := 0) (slots := 0) (pc2 := 298) rfl dX12_does_295 n_X12_leads l_BoxYardModel_491 i_X12_leads e_X12_leads (ci := 12) rfl rfl (by decide) g74 rfl rfl (by decide) (by decide) (by decide) (k_X12_leads c73) ?_
                        exact y_pk [3] rfl (hj298 _ _ hf)
                      · replace hf := y_ie c78 hf
                        refine y_iconst (v := 0) (pc2 := 288) rfl dX12_does_287 (by decide) ?_
                        refine y_goto (tgt := 293) dX12_does_288 (by decide) ?_
                        refine y_iload (pc2 := 295) rfl dX12_does_293 rfl ?_
                        obtain ⟨g77, hf⟩ := y_g hf
                        obtain ⟨r_, h75, c76, hf⟩ := y_clE hf
                        refine y_callV (As := [.int 0, .int (y_I h64 (y_P h64 v0_225 23) (Int32.toNatClampNeg (((5 * ((6 * (y_I h64 (y_P h64 v0_225 8) (Int32.toNatClampNeg (y_I h64 v0_225 82)))) + (y_I h64 (y_P h64 v0_225 9) (Int32.toNatClampNeg (y_I h64 v0_225 82))))) + (y_I h64 (y_P h64 v0_225 10) (Int32.toNatClampNeg (y_I h64 v0_225 82)))) - 1)))]) (rm := rm_X12_leads) (cells := 0) (slots := 0) (pc2 := 298) rfl dX12_does_295 n_X12_leads l_BoxYardModel_491 i_X12_leads e_X12_leads (ci := 12) rfl rfl (by decide) g77 rfl rfl (by decide) (by decide) (by decide) (k_X12_leads c76) ?_
                        exact y_pk [3] rfl (hj298 _ _ hf)
                  · refine y_icmp_ne (tgt := 225) (pc2 := 209) rfl dX12_does_206 (by decide) (fun c121 => ?_) (fun c121 => ?_)
                    · replace hf := y_ie c121 hf
                      exact y_pk [1, 0] rfl (hj225 _ _ _ hf)
                    · replace hf := y_it c121 hf
                      refine y_aload_n (x := p0) (pc2 := 210) rfl dX12_does_209 rfl ?_
                      obtain ⟨g120, hf⟩ := y_g hf
                      refine y_getP (pc2 := 213) rfl dX12_does_210 F_BoxYardModel_38 (by decide) rfl g120 ?_
                      refine y_aload_n (x := p0) (pc2 := 214) rfl dX12_does_213 rfl ?_
                      obtain ⟨g119, hf⟩ := y_g hf
                      refine y_getI (pc2 := 217) rfl dX12_does_214 F_BoxYardModel_201 (by decide) rfl g119 ?_
                      obtain ⟨g118, hf⟩ := y_g hf
                      refine y_iald (pc2 := 218) rfl dX12_does_217 g118.1 (y_ix_in g118.2) ?_
                      refine y_if_le (tgt := 225) (pc2 := 221) rfl dX12_does_218 (by decide) (fun c117 => ?_) (fun c117 => ?_)
                      · replace hf := y_it c117 hf
                        exact y_pk [1, 0] rfl (hj225 _ _ _ hf)
                      · replace hf := y_ie c117 hf
                        refine y_iconst (v := 1) (pc2 := 222) rfl dX12_does_221 (by decide) ?_
                        refine y_goto (tgt := 226) dX12_does_222 (by decide) ?_
                        refine y_istore (lv' := [(5, .int 1), (4, .int r60), (0, y_p p0), (1, .int p1), (2, .int p2), (3, .int p3)]) (pc2 := 228) rfl dX12_does_226 (by decide) rfl ?_
                        refine y_iload (pc2 := 230) rfl dX12_does_228 rfl ?_
                        refine y_if_eq (tgt := 277) (pc2 := 233) rfl dX12_does_230 (by decide) (fun c116 => ?_) (fun c116 => ?_)
                        · replace hf := y_it c116 hf
                          refine y_bipush (v := (-9 : Int32)) (pc2 := 279) rfl dX12_does_277 (by decide) ?_
                          refine y_istore (lv' := [(6, .int (-9 : Int32)), (5, .int 1), (4, .int r60), (0, y_p p0), (1, .int p1), (2, .int p2), (3, .int p3)]) (pc2 := 281) rfl dX12_does_279 (by decide) rfl ?_
                          refine y_aload_n (x := p0) (pc2 := 282) rfl dX12_does_281 rfl ?_
                          refine y_iload (pc2 := 284) rfl dX12_does_282 rfl ?_
                          refine y_if_eq (tgt := 291) (pc2 := 287) rfl dX12_does_284 (by decide) (fun c97 => ?_) (fun c97 => ?_)
                          · replace hf := y_it c97 hf
                            refine y_bipush (v := (-9 : Int32)) (pc2 := 293) rfl dX12_does_291 (by decide) ?_
                            refine y_iload (pc2 := 295) rfl dX12_does_293 rfl ?_
                            obtain ⟨g93, hf⟩ := y_g hf
                            obtain ⟨r_, h91, c92, hf⟩ := y_clE hf
                            refine y_callV (As := [.int (-9 : Int32), .int (-9 : Int32)]) (rm := rm_X12_leads) (cells := 0) (slots := 0) (pc2 := 298) rfl dX12_does_295 n_X12_leads l_BoxYardModel_491 i_X12_leads e_X12_leads (ci := 12) rfl rfl (by decide) g93 rfl rfl (by decide) (by decide) (by decide) (k_X12_leads c92) ?_
                            exact y_pk [2] rfl (hj298 _ _ hf)
                          · replace hf := y_ie c97 hf
                            refine y_iconst (v := 0) (pc2 := 288) rfl dX12_does_287 (by decide) ?_
                            refine y_goto (tgt := 293) dX12_does_288 (by decide) ?_
                            refine y_iload (pc2 := 295) rfl dX12_does_293 rfl ?_
                            obtain ⟨g96, hf⟩ := y_g hf
                            obtain ⟨r_, h94, c95, hf⟩ := y_clE hf
                            refine y_callV (As := [.int 0, .int (-9 : Int32)]) (rm := rm_X12_leads) (cells := 0) (slots := 0) (pc2 := 298) rfl dX12_does_295 n_X12_leads l_BoxYardModel_491 i_X12_leads e_X12_leads (ci := 12) rfl rfl (by decide) g96 rfl rfl (by decide) (by decide) (by decide) (k_X12_leads c95) ?_
                            exact y_pk [2] rfl (hj298 _ _ hf)
                        · replace hf := y_ie c116 hf
                          refine y_aload_n (x := p0) (pc2 := 234) rfl dX12_does_233 rfl ?_
                          obtain ⟨g115, hf⟩ := y_g hf
                          refine y_getP (pc2 := 237) rfl dX12_does_234 F_BoxYardModel_74 (by decide) rfl g115 ?_
                          refine y_iconst (v := 5) (pc2 := 238) rfl dX12_does_237 (by decide) ?_
                          refine y_bipush (v := 6) (pc2 := 240) rfl dX12_does_238 (by decide) ?_
                          refine y_aload_n (x := p0) (pc2 := 241) rfl dX12_does_240 rfl ?_
                          obtain ⟨g114, hf⟩ := y_g hf
                          refine y_getP (pc2 := 244) rfl dX12_does_241 F_BoxYardModel_32 (by decide) rfl g114 ?_
                          refine y_aload_n (x := p0) (pc2 := 245) rfl dX12_does_244 rfl ?_
                          obtain ⟨g113, hf⟩ := y_g hf
                          refine y_getI (pc2 := 248) rfl dX12_does_245 F_BoxYardModel_201 (by decide) rfl g113 ?_
                          obtain ⟨g112, hf⟩ := y_g hf
                          refine y_iald (pc2 := 249) rfl dX12_does_248 g112.1 (y_ix_in g112.2) ?_
                          refine y_imul (pc2 := 250) rfl dX12_does_249 ?_
                          refine y_aload_n (x := p0) (pc2 := 251) rfl dX12_does_250 rfl ?_
                          obtain ⟨g111, hf⟩ := y_g hf
                          refine y_getP (pc2 := 254) rfl dX12_does_251 F_BoxYardModel_35 (by decide) rfl g111 ?_
                          refine y_aload_n (x := p0) (pc2 := 255) rfl dX12_does_254 rfl ?_
                          obtain ⟨g110, hf⟩ := y_g hf
                          refine y_getI (pc2 := 258) rfl dX12_does_255 F_BoxYardModel_201 (by decide) rfl g110 ?_
                          obtain ⟨g109, hf⟩ := y_g hf
                          refine y_iald (pc2 := 259) rfl dX12_does_258 g109.1 (y_ix_in g109.2) ?_
                          refine y_iadd (pc2 := 260) rfl dX12_does_259 ?_
                          refine y_imul (pc2 := 261) rfl dX12_does_260 ?_
                          refine y_aload_n (x := p0) (pc2 := 262) rfl dX12_does_261 rfl ?_
                          obtain ⟨g108, hf⟩ := y_g hf
                          refine y_getP (pc2 := 265) rfl dX12_does_262 F_BoxYardModel_38 (by decide) rfl g108 ?_
                          refine y_aload_n (x := p0) (pc2 := 266) rfl dX12_does_265 rfl ?_
                          obtain ⟨g107, hf⟩ := y_g hf
                          refine y_getI (pc2 := 269) rfl dX12_does_266 F_BoxYardModel_201 (by decide) rfl g107 ?_
                          obtain ⟨g106, hf⟩ := y_g hf
                          refine y_iald (pc2 := 270) rfl dX12_does_269 g106.1 (y_ix_in g106.2) ?_
                          refine y_iadd (pc2 := 271) rfl dX12_does_270 ?_
                          refine y_iconst (v := 1) (pc2 := 272) rfl dX12_does_271 (by decide) ?_
                          refine y_isub (pc2 := 273) rfl dX12_does_272 ?_
                          obtain ⟨g105, hf⟩ := y_g hf
                          refine y_iald (pc2 := 274) rfl dX12_does_273 g105.1 (y_ix_in g105.2) ?_
                          refine y_goto (tgt := 279) dX12_does_274 (by decide) ?_
                          refine y_istore (lv' := [(6, .int (y_I h61 (y_P h61 p0 23) (Int32.toNatClampNeg (((5 * ((6 * (y_I h61 (y_P h61 p0 8) (Int32.toNatClampNeg (y_I h61 p0 82)))) + (y_I h61 (y_P h61 p0 9) (Int32.toNatClampNeg (y_I h61 p0 82))))) + (y_I h61 (y_P h61 p0 10) (Int32.toNatClampNeg (y_I h61 p0 82)))) - 1)))), (5, .int 1), (4, .int r60), (0, y_p p0), (1, .int p1), (2, .int p2), (3, .int p3)]) (pc2 := 281) rfl dX12_does_279 (by decide) rfl ?_
                          refine y_aload_n (x := p0) (pc2 := 282) rfl dX12_does_281 rfl ?_
                          refine y_iload (pc2 := 284) rfl dX12_does_282 rfl ?_
                          refine y_if_eq (tgt := 291) (pc2 := 287) rfl dX12_does_284 (by decide) (fun c104 => ?_) (fun c104 => ?_)
                          · replace hf := y_it c104 hf
                            refine y_bipush (v := (-9 : Int32)) (pc2 := 293) rfl dX12_does_291 (by decide) ?_
                            refine y_iload (pc2 := 295) rfl dX12_does_293 rfl ?_
                            obtain ⟨g100, hf⟩ := y_g hf
                            obtain ⟨r_, h98, c99, hf⟩ := y_clE hf
                            refine y_callV (As := [.int (-9 : Int32), .int (y_I h61 (y_P h61 p0 23) (Int32.toNatClampNeg (((5 * ((6 * (y_I h61 (y_P h61 p0 8) (Int32.toNatClampNeg (y_I h61 p0 82)))) + (y_I h61 (y_P h61 p0 9) (Int32.toNatClampNeg (y_I h61 p0 82))))) + (y_I h61 (y_P h61 p0 10) (Int32.toNatClampNeg (y_I h61 p0 82)))) - 1)))]) (rm := rm_X12_leads) (cells := 0) (slots := 0) (pc2 := 298) rfl dX12_does_295 n_X12_leads l_BoxYardModel_491 i_X12_leads e_X12_leads (ci := 12) rfl rfl (by decide) g100 rfl rfl (by decide) (by decide) (by decide) (k_X12_leads c99) ?_
                            exact y_pk [2] rfl (hj298 _ _ hf)
                          · replace hf := y_ie c104 hf
                            refine y_iconst (v := 0) (pc2 := 288) rfl dX12_does_287 (by decide) ?_
                            refine y_goto (tgt := 293) dX12_does_288 (by decide) ?_
                            refine y_iload (pc2 := 295) rfl dX12_does_293 rfl ?_
                            obtain ⟨g103, hf⟩ := y_g hf
                            obtain ⟨r_, h101, c102, hf⟩ := y_clE hf
                            refine y_callV (As := [.int 0, .int (y_I h61 (y_P h61 p0 23) (Int32.toNatClampNeg (((5 * ((6 * (y_I h61 (y_P h61 p0 8) (Int32.toNatClampNeg (y_I h61 p0 82)))) + (y_I h61 (y_P h61 p0 9) (Int32.toNatClampNeg (y_I h61 p0 82))))) + (y_I h61 (y_P h61 p0 10) (Int32.toNatClampNeg (y_I h61 p0 82)))) - 1)))]) (rm := rm_X12_leads) (cells := 0) (slots := 0) (pc2 := 298) rfl dX12_does_295 n_X12_leads l_BoxYardModel_491 i_X12_leads e_X12_leads (ci := 12) rfl rfl (by decide) g103 rfl rfl (by decide) (by decide) (by decide) (k_X12_leads c102) ?_
                            exact y_pk [2] rfl (hj298 _ _ hf)
            · replace hf := y_ie c59 hf
              by_cases c127 : p1 = 6
              · replace hf := y_it c127 hf
                refine y_table (off := 297) (tgt := 301) dX12_does_4 (by (rw [c127]) <;> decide) (by decide) ?_
                refine y_aload_n (x := p0) (pc2 := 302) rfl dX12_does_301 rfl ?_
                refine y_iload_n (pc2 := 303) rfl dX12_does_302 rfl ?_
                refine y_i2l (pc2 := 304) rfl dX12_does_303 ?_
                obtain ⟨g130, hf⟩ := y_g hf
                obtain ⟨h128, e129, hf⟩ := y_bdE hf
                refine y_putL (x := Int32.toInt64 p2) (pc2 := 307) rfl dX12_does_304 Fp_BoxYardModel_274 (by decide) rfl g130 e129 ?_
                refine y_iconst (v := 0) (pc2 := 308) rfl dX12_does_307 (by decide) ?_
                exact y_iretF hf dX12_does_308 rfl (by decide) (by decide)
              · replace hf := y_ie c127 hf
                by_cases c131 : p1 = 7
                · replace hf := y_it c131 hf
                  refine y_table (off := 305) (tgt := 309) dX12_does_4 (by (rw [c131]) <;> decide) (by decide) ?_
                  refine y_aload_n (x := p0) (pc2 := 310) rfl dX12_does_309 rfl ?_
                  refine y_iconst (v := 0) (pc2 := 311) rfl dX12_does_310 (by decide) ?_
                  obtain ⟨g180, hf⟩ := y_g hf
                  obtain ⟨r132, h133, c134, hf⟩ := y_clE hf
                  refine y_callV (As := [.int 0]) (rm := rm_X12_as) (cells := 0) (slots := 0) (pc2 := 314) rfl dX12_does_311 n_X12_as l_BoxYardModel_494 i_X12_as e_X12_as (ci := 12) rfl rfl (by decide) g180 rfl rfl (by decide) (by decide) (by decide) (k_X12_as c134) ?_
                  refine y_istore (lv' := [(4, .int r132), (0, y_p p0), (1, .int p1), (2, .int p2), (3, .int p3)]) (pc2 := 316) rfl dX12_does_314 (by decide) rfl ?_
                  refine y_iload (pc2 := 318) rfl dX12_does_316 rfl ?_
                  refine y_jnE hf (fun j => ∀ (v0_343 : Nat) (v2_343 : Int32) (v4_343 : Int32) (h135 : y_H), j v0_343 v2_343 v4_343 h135 = some (rz, hz) → y_V l G z rm_X12_does M_X12_does ad0 h (some (.int rz)) hz 343 [(0, y_p v0_343), (2, .int v2_343), (4, .int v4_343)] [] h135 0 0) (fun v0_343 v2_343 v4_343 h135 hf => ?_) (fun j343 hj343 hf => ?_)
                  · refine y_iload (pc2 := 345) rfl dX12_does_343 rfl ?_
                    refine y_istore (lv' := [(4, .int v4_343), (0, y_p v0_343), (2, .int v2_343)]) (pc2 := 347) rfl dX12_does_345 (by decide) rfl ?_
                    refine y_iload (pc2 := 349) rfl dX12_does_347 rfl ?_
                    refine y_jnE hf (fun j => ∀ (v4_384 : Int32) (h136 : y_H), j v4_384 h136 = some (rz, hz) → y_V l G z rm_X12_does M_X12_does ad0 h (some (.int rz)) hz 384 [(4, .int v4_384)] [] h136 0 0) (fun v4_384 h136 hf => ?_) (fun j384 hj384 hf => ?_)
                    · refine y_iload (pc2 := 386) rfl dX12_does_384 rfl ?_
                      exact y_iretF hf dX12_does_386 rfl (by decide) (by decide)
                    · refine y_if_ne (tgt := 384) (pc2 := 352) rfl dX12_does_349 (by decide) (fun c154 => ?_) (fun c154 => ?_)
                      · replace hf := y_ie c154 hf
                        exact y_pk [0] rfl (hj384 _ _ hf)
                      · replace hf := y_it c154 hf
                        refine y_aload_n (x := v0_343) (pc2 := 353) rfl dX12_does_352 rfl ?_
                        refine y_dup (pc2 := 354) rfl dX12_does_353 (y_p_cat _) ?_
                        obtain ⟨g153, hf⟩ := y_g hf
                        refine y_getL (pc2 := 357) rfl dX12_does_354 F_BoxYardModel_274 (by decide) rfl g153 ?_
                        refine y_iload_n (pc2 := 358) rfl dX12_does_357 rfl ?_
                        refine y_iconst (v := 3) (pc2 := 359) rfl dX12_does_358 (by decide) ?_
                        refine y_icmp_ne (tgt := 374) (pc2 := 362) rfl dX12_does_359 (by decide) (fun c152 => ?_) (fun c152 => ?_)
                        · replace hf := y_ie c152 hf
                          refine y_aload_n (x := v0_343) (pc2 := 375) rfl dX12_does_374 rfl ?_
                          refine y_iload_n (pc2 := 376) rfl dX12_does_375 rfl ?_
                          obtain ⟨g143, hf⟩ := y_g hf
                          obtain ⟨r137, h138, c139, hf⟩ := y_clE hf
                          refine y_callV (As := [.int v2_343]) (rm := rm_X12_boxNumber) (cells := 0) (slots := 0) (pc2 := 379) rfl dX12_does_376 n_X12_boxNumber l_BoxYardModel_500 i_X12_boxNumber e_X12_boxNumber (ci := 12) rfl rfl (by decide) g143 rfl rfl (by decide) (by simp [y_ci, y_cj, y_p_cat]) (by decide) (k_X12_boxNumber c139) ?_
                          refine y_i2l (pc2 := 380) rfl dX12_does_379 ?_
                          refine y_ladd (pc2 := 381) rfl dX12_does_380 ?_
                          obtain ⟨g142, hf⟩ := y_g hf
                          obtain ⟨h140, e141, hf⟩ := y_bdE hf
                          refine y_putL (x := (y_L h135 v0_343 80) + (Int32.toInt64 r137)) (pc2 := 384) rfl dX12_does_381 Fp_BoxYardModel_274 (by decide) rfl g142 e141 ?_
                          exact y_pk [0] rfl (hj384 _ _ hf)
                        · replace hf := y_it c152 hf
                          refine y_aload_n (x := v0_343) (pc2 := 363) rfl dX12_does_362 rfl ?_
                          refine y_aload_n (x := v0_343) (pc2 := 364) rfl dX12_does_363 rfl ?_
                          obtain ⟨g151, hf⟩ := y_g hf
                          refine y_getI (pc2 := 367) rfl dX12_does_364 F_BoxYardModel_201 (by decide) rfl g151 ?_
                          obtain ⟨g150, hf⟩ := y_g hf
                          obtain ⟨r144, h145, c146, hf⟩ := y_clE hf
                          refine y_callV (As := [.int (y_I h135 v0_343 82)]) (rm := rm_X12_watts) (cells := 0) (slots := 0) (pc2 := 370) rfl dX12_does_367 n_X12_watts l_BoxYardModel_313 i_X12_watts e_X12_watts (ci := 12) rfl rfl (by decide) g150 rfl rfl (by decide) (by simp [y_ci, y_cj, y_p_cat]) (by decide) (k_X12_watts c146) ?_
                          refine y_i2l (pc2 := 371) rfl dX12_does_370 ?_
                          refine y_goto (tgt := 380) dX12_does_371 (by decide) ?_
                          refine y_ladd (pc2 := 381) rfl dX12_does_380 ?_
                          obtain ⟨g149, hf⟩ := y_g hf
                          obtain ⟨h147, e148, hf⟩ := y_bdE hf
                          refine y_putL (x := (y_L h135 v0_343 80) + (Int32.toInt64 r144)) (pc2 := 384) rfl dX12_does_381 Fp_BoxYardModel_274 (by decide) rfl g149 e148 ?_
                          exact y_pk [0] rfl (hj384 _ _ hf)
                  · refine y_if_ne (tgt := 343) (pc2 := 321) rfl dX12_does_318 (by decide) (fun c179 => ?_) (fun c179 => ?_)
                    · replace hf := y_ie c179 hf
                      exact y_pk [1, 3, 0] rfl (hj343 _ _ _ _ hf)
                    · replace hf := y_it c179 hf
                      refine y_iload_n (pc2 := 322) rfl dX12_does_321 rfl ?_
                      refine y_iconst (v := 3) (pc2 := 323) rfl dX12_does_322 (by decide) ?_
                      refine y_icmp_ne (tgt := 343) (pc2 := 326) rfl dX12_does_323 (by decide) (fun c178 => ?_) (fun c178 => ?_)
                      · replace hf := y_ie c178 hf
                        exact y_pk [1, 3, 0] rfl (hj343 _ _ _ _ hf)
                      · replace hf := y_it c178 hf
                        refine y_aload_n (x := p0) (pc2 := 327) rfl dX12_does_326 rfl ?_
                        obtain ⟨g177, hf⟩ := y_g hf
                        refine y_getP (pc2 := 330) rfl dX12_does_327 F_BoxYardModel_7 (by decide) rfl g177 ?_
                        refine y_aload_n (x := p0) (pc2 := 331) rfl dX12_does_330 rfl ?_
                        obtain ⟨g176, hf⟩ := y_g hf
                        refine y_getI (pc2 := 334) rfl dX12_does_331 F_BoxYardModel_201 (by decide) rfl g176 ?_
                        obtain ⟨g175, hf⟩ := y_g hf
                        refine y_iald (pc2 := 335) rfl dX12_does_334 g175.1 (y_ix_in g175.2) ?_
                        refine y_iconst (v := 1) (pc2 := 336) rfl dX12_does_335 (by decide) ?_
                        refine y_icmp_eq (tgt := 343) (pc2 := 339) rfl dX12_does_336 (by decide) (fun c174 => ?_) (fun c174 => ?_)
                        · replace hf := y_it c174 hf
                          exact y_pk [1, 3, 0] rfl (hj343 _ _ _ _ hf)
                        · replace hf := y_ie c174 hf
                          refine y_iconst (v := 5) (pc2 := 340) rfl dX12_does_339 (by decide) ?_
                          refine y_goto (tgt := 345) dX12_does_340 (by decide) ?_
                          refine y_istore (lv' := [(4, .int 5), (0, y_p p0), (1, .int p1), (2, .int p2), (3, .int p3)]) (pc2 := 347) rfl dX12_does_345 (by decide) rfl ?_
                          refine y_iload (pc2 := 349) rfl dX12_does_347 rfl ?_
                          refine y_jnE hf (fun j => ∀ (v4_384 : Int32) (h155 : y_H), j v4_384 h155 = some (rz, hz) → y_V l G z rm_X12_does M_X12_does ad0 h (some (.int rz)) hz 384 [(4, .int v4_384)] [] h155 0 0) (fun v4_384 h155 hf => ?_) (fun j384 hj384 hf => ?_)
                          · refine y_iload (pc2 := 386) rfl dX12_does_384 rfl ?_
                            exact y_iretF hf dX12_does_386 rfl (by decide) (by decide)
                          · refine y_if_ne (tgt := 384) (pc2 := 352) rfl dX12_does_349 (by decide) (fun c173 => ?_) (fun c173 => ?_)
                            · replace hf := y_ie c173 hf
                              exact y_pk [0] rfl (hj384 _ _ hf)
                            · replace hf := y_it c173 hf
                              refine y_aload_n (x := p0) (pc2 := 353) rfl dX12_does_352 rfl ?_
                              refine y_dup (pc2 := 354) rfl dX12_does_353 (y_p_cat _) ?_
                              obtain ⟨g172, hf⟩ := y_g hf
                              refine y_getL (pc2 := 357) rfl dX12_does_354 F_BoxYardModel_274 (by decide) rfl g172 ?_
                              refine y_iload_n (pc2 := 358) rfl dX12_does_357 rfl ?_
                              refine y_iconst (v := 3) (pc2 := 359) rfl dX12_does_358 (by decide) ?_
                              refine y_icmp_ne (tgt := 374) (pc2 := 362) rfl dX12_does_359 (by decide) (fun c171 => ?_) (fun c171 => ?_)
                              · replace hf := y_ie c171 hf
                                refine y_aload_n (x := p0) (pc2 := 375) rfl dX12_does_374 rfl ?_
                                refine y_iload_n (pc2 := 376) rfl dX12_does_375 rfl ?_
                                obtain ⟨g162, hf⟩ := y_g hf
                                obtain ⟨r156, h157, c158, hf⟩ := y_clE hf
                                refine y_callV (As := [.int p2]) (rm := rm_X12_boxNumber) (cells := 0) (slots := 0) (pc2 := 379) rfl dX12_does_376 n_X12_boxNumber l_BoxYardModel_500 i_X12_boxNumber e_X12_boxNumber (ci := 12) rfl rfl (by decide) g162 rfl rfl (by decide) (by simp [y_ci, y_cj, y_p_cat]) (by decide) (k_X12_boxNumber c158) ?_
                                refine y_i2l (pc2 := 380) rfl dX12_does_379 ?_
                                refine y_ladd (pc2 := 381) rfl dX12_does_380 ?_
                                obtain ⟨g161, hf⟩ := y_g hf
                                obtain ⟨h159, e160, hf⟩ := y_bdE hf
                                refine y_putL (x := (y_L h133 p0 80) + (Int32.toInt64 r156)) (pc2 := 384) rfl dX12_does_381 Fp_BoxYardModel_274 (by decide) rfl g161 e160 ?_
                                exact y_pk [0] rfl (hj384 _ _ hf)
                              · replace hf := y_it c171 hf
                                refine y_aload_n (x := p0) (pc2 := 363) rfl dX12_does_362 rfl ?_
                                refine y_aload_n (x := p0) (pc2 := 364) rfl dX12_does_363 rfl ?_
                                obtain ⟨g170, hf⟩ := y_g hf
                                refine y_getI (pc2 := 367) rfl dX12_does_364 F_BoxYardModel_201 (by decide) rfl g170 ?_
                                obtain ⟨g169, hf⟩ := y_g hf
                                obtain ⟨r163, h164, c165, hf⟩ := y_clE hf
                                refine y_callV (As := [.int (y_I h133 p0 82)]) (rm := rm_X12_watts) (cells := 0) (slots := 0) (pc2 := 370) rfl dX12_does_367 n_X12_watts l_BoxYardModel_313 i_X12_watts e_X12_watts (ci := 12) rfl rfl (by decide) g169 rfl rfl (by decide) (by simp [y_ci, y_cj, y_p_cat]) (by decide) (k_X12_watts c165) ?_
                                refine y_i2l (pc2 := 371) rfl dX12_does_370 ?_
                                refine y_goto (tgt := 380) dX12_does_371 (by decide) ?_
                                refine y_ladd (pc2 := 381) rfl dX12_does_380 ?_
                                obtain ⟨g168, hf⟩ := y_g hf
                                obtain ⟨h166, e167, hf⟩ := y_bdE hf
                                refine y_putL (x := (y_L h133 p0 80) + (Int32.toInt64 r163)) (pc2 := 384) rfl dX12_does_381 Fp_BoxYardModel_274 (by decide) rfl g168 e167 ?_
                                exact y_pk [0] rfl (hj384 _ _ hf)
                · replace hf := y_ie c131 hf
                  by_cases c181 : p1 = 8
                  · replace hf := y_it c181 hf
                    refine y_table (off := 383) (tgt := 387) dX12_does_4 (by (rw [c181]) <;> decide) (by decide) ?_
                    refine y_aload_n (x := p0) (pc2 := 388) rfl dX12_does_387 rfl ?_
                    refine y_iconst (v := 1) (pc2 := 389) rfl dX12_does_388 (by decide) ?_
                    obtain ⟨g212, hf⟩ := y_g hf
                    obtain ⟨r182, h183, c184, hf⟩ := y_clE hf
                    refine y_callV (As := [.int 1]) (rm := rm_X12_as) (cells := 0) (slots := 0) (pc2 := 392) rfl dX12_does_389 n_X12_as l_BoxYardModel_494 i_X12_as e_X12_as (ci := 12) rfl rfl (by decide) g212 rfl rfl (by decide) (by decide) (by decide) (k_X12_as c184) ?_
                    refine y_istore (lv' := [(4, .int r182), (0, y_p p0), (1, .int p1), (2, .int p2), (3, .int p3)]) (pc2 := 394) rfl dX12_does_392 (by decide) rfl ?_
                    refine y_iload (pc2 := 396) rfl dX12_does_394 rfl ?_
                    refine y_jnE hf (fun j => ∀ (v4_451 : Int32) (h185 : y_H), j v4_451 h185 = some (rz, hz) → y_V l G z rm_X12_does M_X12_does ad0 h (some (.int rz)) hz 451 [(4, .int v4_451)] [] h185 0 0) (fun v4_451 h185 hf => ?_) (fun j451 hj451 hf => ?_)
                    · refine y_iload (pc2 := 453) rfl dX12_does_451 rfl ?_
                      exact y_iretF hf dX12_does_453 rfl (by decide) (by decide)
                    · refine y_if_ne (tgt := 451) (pc2 := 399) rfl dX12_does_396 (by decide) (fun c211 => ?_) (fun c211 => ?_)
                      · replace hf := y_ie c211 hf
                        exact y_pk [0] rfl (hj451 _ _ hf)
                      · replace hf := y_it c211 hf
                        refine y_aload_n (x := p0) (pc2 := 400) rfl dX12_does_399 rfl ?_
                        refine y_dup (pc2 := 401) rfl dX12_does_400 (y_p_cat _) ?_
                        obtain ⟨g210, hf⟩ := y_g hf
                        refine y_getL (pc2 := 404) rfl dX12_does_401 F_BoxYardModel_274 (by decide) rfl g210 ?_
                        refine y_iload_n (pc2 := 405) rfl dX12_does_404 rfl ?_
                        refine y_if_ne (tgt := 420) (pc2 := 408) rfl dX12_does_405 (by decide) (fun c209 => ?_) (fun c209 => ?_)
                        · replace hf := y_ie c209 hf
                          refine y_iload_n (pc2 := 421) rfl dX12_does_420 rfl ?_
                          refine y_iconst (v := 1) (pc2 := 422) rfl dX12_does_421 (by decide) ?_
                          refine y_icmp_ne (tgt := 437) (pc2 := 425) rfl dX12_does_422 (by decide) (fun c200 => ?_) (fun c200 => ?_)
                          · replace hf := y_ie c200 hf
                            refine y_aload_n (x := p0) (pc2 := 438) rfl dX12_does_437 rfl ?_
                            obtain ⟨g191, hf⟩ := y_g hf
                            refine y_getP (pc2 := 441) rfl dX12_does_438 F_BoxYardModel_86 (by decide) rfl g191 ?_
                            refine y_aload_n (x := p0) (pc2 := 442) rfl dX12_does_441 rfl ?_
                            obtain ⟨g190, hf⟩ := y_g hf
                            refine y_getI (pc2 := 445) rfl dX12_does_442 F_BoxYardModel_201 (by decide) rfl g190 ?_
                            obtain ⟨g189, hf⟩ := y_g hf
                            refine y_iald (pc2 := 446) rfl dX12_does_445 g189.1 (y_ix_in g189.2) ?_
                            refine y_i2l (pc2 := 447) rfl dX12_does_446 ?_
                            refine y_ladd (pc2 := 448) rfl dX12_does_447 ?_
                            obtain ⟨g188, hf⟩ := y_g hf
                            obtain ⟨h186, e187, hf⟩ := y_bdE hf
                            refine y_putL (x := (y_L h183 p0 80) + (Int32.toInt64 (y_I h183 (y_P h183 p0 28) (Int32.toNatClampNeg (y_I h183 p0 82))))) (pc2 := 451) rfl dX12_does_448 Fp_BoxYardModel_274 (by decide) rfl g188 e187 ?_
                            exact y_pk [0] rfl (hj451 _ _ hf)
                          · replace hf := y_it c200 hf
                            refine y_aload_n (x := p0) (pc2 := 426) rfl dX12_does_425 rfl ?_
                            refine y_aload_n (x := p0) (pc2 := 427) rfl dX12_does_426 rfl ?_
                            obtain ⟨g199, hf⟩ := y_g hf
                            refine y_getI (pc2 := 430) rfl dX12_does_427 F_BoxYardModel_201 (by decide) rfl g199 ?_
                            obtain ⟨g198, hf⟩ := y_g hf
                            obtain ⟨r192, h193, c194, hf⟩ := y_clE hf
                            refine y_callV (As := [.int (y_I h183 p0 82)]) (rm := rm_X12_stop) (cells := 0) (slots := 0) (pc2 := 433) rfl dX12_does_430 n_X12_stop l_BoxYardModel_335 i_X12_stop e_X12_stop (ci := 12) rfl rfl (by decide) g198 rfl rfl (by decide) (by simp [y_ci, y_cj, y_p_cat]) (by decide) (k_X12_stop c194) ?_
                            refine y_i2l (pc2 := 434) rfl dX12_does_433 ?_
                            refine y_goto (tgt := 447) dX12_does_434 (by decide) ?_
                            refine y_ladd (pc2 := 448) rfl dX12_does_447 ?_
                            obtain ⟨g197, hf⟩ := y_g hf
                            obtain ⟨h195, e196, hf⟩ := y_bdE hf
                            refine y_putL (x := (y_L h183 p0 80) + (Int32.toInt64 r192)) (pc2 := 451) rfl dX12_does_448 Fp_BoxYardModel_274 (by decide) rfl g197 e196 ?_
                            exact y_pk [0] rfl (hj451 _ _ hf)
                        · replace hf := y_it c209 hf
                          refine y_aload_n (x := p0) (pc2 := 409) rfl dX12_does_408 rfl ?_
                          refine y_aload_n (x := p0) (pc2 := 410) rfl dX12_does_409 rfl ?_
                          obtain ⟨g208, hf⟩ := y_g hf
                          refine y_getI (pc2 := 413) rfl dX12_does_410 F_BoxYardModel_201 (by decide) rfl g208 ?_
                          obtain ⟨g207, hf⟩ := y_g hf
                          obtain ⟨r201, h202, c203, hf⟩ := y_clE hf
                          refine y_callV (As := [.int (y_I h183 p0 82)]) (rm := rm_X12_loadOf) (cells := 0) (slots := 0) (pc2 := 416) rfl dX12_does_413 n_X12_loadOf l_BoxYardModel_332 i_X12_loadOf e_X12_loadOf (ci := 12) rfl rfl (by decide) g207 rfl rfl (by decide) (by simp [y_ci, y_cj, y_p_cat]) (by decide) (k_X12_loadOf c203) ?_
                          refine y_i2l (pc2 := 417) rfl dX12_does_416 ?_
                          refine y_goto (tgt := 447) dX12_does_417 (by decide) ?_
                          refine y_ladd (pc2 := 448) rfl dX12_does_447 ?_
                          obtain ⟨g206, hf⟩ := y_g hf
                          obtain ⟨h204, e205, hf⟩ := y_bdE hf
                          refine y_putL (x := (y_L h183 p0 80) + (Int32.toInt64 r201)) (pc2 := 451) rfl dX12_does_448 Fp_BoxYardModel_274 (by decide) rfl g206 e205 ?_
                          exact y_pk [0] rfl (hj451 _ _ hf)
                  · replace hf := y_ie c181 hf
                    by_cases c213 : p1 = 9
                    · replace hf := y_it c213 hf
                      refine y_table (off := 450) (tgt := 454) dX12_does_4 (by (rw [c213]) <;> decide) (by decide) ?_
                      refine y_aload_n (x := p0) (pc2 := 455) rfl dX12_does_454 rfl ?_
                      refine y_iconst (v := 2) (pc2 := 456) rfl dX12_does_455 (by decide) ?_
                      obtain ⟨g249, hf⟩ := y_g hf
                      obtain ⟨r214, h215, c216, hf⟩ := y_clE hf
                      refine y_callV (As := [.int 2]) (rm := rm_X12_as) (cells := 0) (slots := 0) (pc2 := 459) rfl dX12_does_456 n_X12_as l_BoxYardModel_494 i_X12_as e_X12_as (ci := 12) rfl rfl (by decide) g249 rfl rfl (by decide) (by decide) (by decide) (k_X12_as c216) ?_
                      refine y_istore (lv' := [(4, .int r214), (0, y_p p0), (1, .int p1), (2, .int p2), (3, .int p3)]) (pc2 := 461) rfl dX12_does_459 (by decide) rfl ?_
                      refine y_iload (pc2 := 463) rfl dX12_does_461 rfl ?_
                      refine y_jnE hf (fun j => ∀ (v0_482 : Nat) (v4_482 : Int32) (h217 : y_H), j v0_482 v4_482 h217 = some (rz, hz) → y_V l G z rm_X12_does M_X12_does ad0 h (some (.int rz)) hz 482 [(0, y_p v0_482), (4, .int v4_482)] [] h217 0 0) (fun v0_482 v4_482 h217 hf => ?_) (fun j482 hj482 hf => ?_)
                      · refine y_iload (pc2 := 484) rfl dX12_does_482 rfl ?_
                        refine y_istore (lv' := [(4, .int v4_482), (0, y_p v0_482)]) (pc2 := 486) rfl dX12_does_484 (by decide) rfl ?_
                        refine y_iload (pc2 := 488) rfl dX12_does_486 rfl ?_
                        refine y_jnE hf (fun j => ∀ (v4_509 : Int32) (h218 : y_H), j v4_509 h218 = some (rz, hz) → y_V l G z rm_X12_does M_X12_does ad0 h (some (.int rz)) hz 509 [(4, .int v4_509)] [] h218 0 0) (fun v4_509 h218 hf => ?_) (fun j509 hj509 hf => ?_)
                        · refine y_iload (pc2 := 511) rfl dX12_does_509 rfl ?_
                          exact y_iretF hf dX12_does_511 rfl (by decide) (by decide)
                        · refine y_if_ne (tgt := 509) (pc2 := 491) rfl dX12_does_488 (by decide) (fun c229 => ?_) (fun c229 => ?_)
                          · replace hf := y_ie c229 hf
                            exact y_pk [0] rfl (hj509 _ _ hf)
                          · replace hf := y_it c229 hf
                            refine y_aload_n (x := v0_482) (pc2 := 492) rfl dX12_does_491 rfl ?_
                            refine y_aload_n (x := v0_482) (pc2 := 493) rfl dX12_does_492 rfl ?_
                            obtain ⟨g228, hf⟩ := y_g hf
                            refine y_getL (pc2 := 496) rfl dX12_does_493 F_BoxYardModel_274 (by decide) rfl g228 ?_
                            refine y_aload_n (x := v0_482) (pc2 := 497) rfl dX12_does_496 rfl ?_
                            refine y_aload_n (x := v0_482) (pc2 := 498) rfl dX12_does_497 rfl ?_
                            obtain ⟨g227, hf⟩ := y_g hf
                            refine y_getI (pc2 := 501) rfl dX12_does_498 F_BoxYardModel_201 (by decide) rfl g227 ?_
                            obtain ⟨g226, hf⟩ := y_g hf
                            obtain ⟨r219, h220, c221, hf⟩ := y_clE hf
                            refine y_callV (As := [.int (y_I h217 v0_482 82)]) (rm := rm_X12_boxesOf) (cells := 0) (slots := 0) (pc2 := 504) rfl dX12_does_501 n_X12_boxesOf l_BoxYardModel_323 i_X12_boxesOf e_X12_boxesOf (ci := 12) rfl rfl (by decide) g226 rfl rfl (by decide) (by simp [y_ci, y_cj, y_p_cat]) (by decide) (k_X12_boxesOf c221) ?_
                            refine y_i2l (pc2 := 505) rfl dX12_does_504 ?_
                            obtain ⟨g225, hf⟩ := y_g hf
                            refine y_ldiv (pc2 := 506) rfl dX12_does_505 g225 ?_
                            obtain ⟨g224, hf⟩ := y_g hf
                            obtain ⟨h222, e223, hf⟩ := y_bdE hf
                            refine y_putL (x := (y_L h217 v0_482 80) / (Int32.toInt64 r219)) (pc2 := 509) rfl dX12_does_506 Fp_BoxYardModel_274 (by decide) rfl g224 e223 ?_
                            exact y_pk [0] rfl (hj509 _ _ hf)
                      · refine y_if_ne (tgt := 482) (pc2 := 466) rfl dX12_does_463 (by decide) (fun c248 => ?_) (fun c248 => ?_)
                        · replace hf := y_ie c248 hf
                          exact y_pk [1, 0] rfl (hj482 _ _ _ hf)
                        · replace hf := y_it c248 hf
                          refine y_aload_n (x := p0) (pc2 := 467) rfl dX12_does_466 rfl ?_
                          refine y_aload_n (x := p0) (pc2 := 468) rfl dX12_does_467 rfl ?_
                          obtain ⟨g247, hf⟩ := y_g hf
                          refine y_getI (pc2 := 471) rfl dX12_does_468 F_BoxYardModel_201 (by decide) rfl g247 ?_
                          obtain ⟨g246, hf⟩ := y_g hf
                          obtain ⟨r230, h231, c232, hf⟩ := y_clE hf
                          refine y_callV (As := [.int (y_I h215 p0 82)]) (rm := rm_X12_boxesOf) (cells := 0) (slots := 0) (pc2 := 474) rfl dX12_does_471 n_X12_boxesOf l_BoxYardModel_323 i_X12_boxesOf e_X12_boxesOf (ci := 12) rfl rfl (by decide) g246 rfl rfl (by decide) (by decide) (by decide) (k_X12_boxesOf c232) ?_
                          refine y_if_ne (tgt := 482) (pc2 := 477) rfl dX12_does_474 (by decide) (fun c245 => ?_) (fun c245 => ?_)
                          · replace hf := y_ie c245 hf
                            exact y_pk [1, 0] rfl (hj482 _ _ _ hf)
                          · replace hf := y_it c245 hf
                            refine y_bipush (v := 6) (pc2 := 479) rfl dX12_does_477 (by decide) ?_
                            refine y_goto (tgt := 484) dX12_does_479 (by decide) ?_
                            refine y_istore (lv' := [(4, .int 6), (0, y_p p0), (1, .int p1), (2, .int p2), (3, .int p3)]) (pc2 := 486) rfl dX12_does_484 (by decide) rfl ?_
                            refine y_iload (pc2 := 488) rfl dX12_does_486 rfl ?_
                            refine y_jnE hf (fun j => ∀ (v4_509 : Int32) (h233 : y_H), j v4_509 h233 = some (rz, hz) → y_V l G z rm_X12_does M_X12_does ad0 h (some (.int rz)) hz 509 [(4, .int v4_509)] [] h233 0 0) (fun v4_509 h233 hf => ?_) (fun j509 hj509 hf => ?_)
                            · refine y_iload (pc2 := 511) rfl dX12_does_509 rfl ?_
                              exact y_iretF hf dX12_does_511 rfl (by decide) (by decide)
                            · refine y_if_ne (tgt := 509) (pc2 := 491) rfl dX12_does_488 (by decide) (fun c244 => ?_) (fun c244 => ?_)
                              · replace hf := y_ie c244 hf
                                exact y_pk [0] rfl (hj509 _ _ hf)
                              · replace hf := y_it c244 hf
                                refine y_aload_n (x := p0) (pc2 := 492) rfl dX12_does_491 rfl ?_
                                refine y_aload_n (x := p0) (pc2 := 493) rfl dX12_does_492 rfl ?_
                                obtain ⟨g243, hf⟩ := y_g hf
                                refine y_getL (pc2 := 496) rfl dX12_does_493 F_BoxYardModel_274 (by decide) rfl g243 ?_
                                refine y_aload_n (x := p0) (pc2 := 497) rfl dX12_does_496 rfl ?_
                                refine y_aload_n (x := p0) (pc2 := 498) rfl dX12_does_497 rfl ?_
                                obtain ⟨g242, hf⟩ := y_g hf
                                refine y_getI (pc2 := 501) rfl dX12_does_498 F_BoxYardModel_201 (by decide) rfl g242 ?_
                                obtain ⟨g241, hf⟩ := y_g hf
                                obtain ⟨r234, h235, c236, hf⟩ := y_clE hf
                                refine y_callV (As := [.int (y_I h231 p0 82)]) (rm := rm_X12_boxesOf) (cells := 0) (slots := 0) (pc2 := 504) rfl dX12_does_501 n_X12_boxesOf l_BoxYardModel_323 i_X12_boxesOf e_X12_boxesOf (ci := 12) rfl rfl (by decide) g241 rfl rfl (by decide) (by simp [y_ci, y_cj, y_p_cat]) (by decide) (k_X12_boxesOf c236) ?_
                                refine y_i2l (pc2 := 505) rfl dX12_does_504 ?_
                                obtain ⟨g240, hf⟩ := y_g hf
                                refine y_ldiv (pc2 := 506) rfl dX12_does_505 g240 ?_
                                obtain ⟨g239, hf⟩ := y_g hf
                                obtain ⟨h237, e238, hf⟩ := y_bdE hf
                                refine y_putL (x := (y_L h231 p0 80) / (Int32.toInt64 r234)) (pc2 := 509) rfl dX12_does_506 Fp_BoxYardModel_274 (by decide) rfl g239 e238 ?_
                                exact y_pk [0] rfl (hj509 _ _ hf)
                    · replace hf := y_ie c213 hf
                      by_cases c250 : p1 = 10
                      · replace hf := y_it c250 hf
                        refine y_table (off := 508) (tgt := 512) dX12_does_4 (by (rw [c250]) <;> decide) (by decide) ?_
                        refine y_aload_n (x := p0) (pc2 := 513) rfl dX12_does_512 rfl ?_
                        refine y_iload_n (pc2 := 514) rfl dX12_does_513 rfl ?_
                        refine y_iload_n (pc2 := 515) rfl dX12_does_514 rfl ?_
                        obtain ⟨g254, hf⟩ := y_g hf
                        obtain ⟨r251, h252, c253, hf⟩ := y_clE hf
                        refine y_callV (As := [.int p2, .int p3]) (rm := rm_X12_keepsOn) (cells := 0) (slots := 0) (pc2 := 518) rfl dX12_does_515 n_X12_keepsOn l_BoxYardModel_503 i_X12_keepsOn e_X12_keepsOn (ci := 12) rfl rfl (by decide) g254 rfl rfl (by decide) (by decide) (by decide) (k_X12_keepsOn c253) ?_
                        exact y_iretF hf dX12_does_518 rfl (by decide) (by decide)
                      · replace hf := y_ie c250 hf
                        by_cases c255 : p1 = 11
                        · replace hf := y_it c255 hf
                          refine y_table (off := 515) (tgt := 519) dX12_does_4 (by (rw [c255]) <;> decide) (by decide) ?_
                          refine y_aload_n (x := p0) (pc2 := 520) rfl dX12_does_519 rfl ?_
                          refine y_iload_n (pc2 := 521) rfl dX12_does_520 rfl ?_
                          refine y_iload_n (pc2 := 522) rfl dX12_does_521 rfl ?_
                          obtain ⟨g259, hf⟩ := y_g hf
                          obtain ⟨r256, h257, c258, hf⟩ := y_clE hf
                          refine y_callV (As := [.int p2, .int p3]) (rm := rm_X12_takesFrom) (cells := 0) (slots := 0) (pc2 := 525) rfl dX12_does_522 n_X12_takesFrom l_BoxYardModel_506 i_X12_takesFrom e_X12_takesFrom (ci := 12) rfl rfl (by decide) g259 rfl rfl (by decide) (by decide) (by decide) (k_X12_takesFrom c258) ?_
                          exact y_iretF hf dX12_does_525 rfl (by decide) (by decide)
                        · replace hf := y_ie c255 hf
                          by_cases c260 : p1 = 12
                          · replace hf := y_it c260 hf
                            refine y_table (off := 522) (tgt := 526) dX12_does_4 (by (rw [c260]) <;> decide) (by decide) ?_
                            refine y_aload_n (x := p0) (pc2 := 527) rfl dX12_does_526 rfl ?_
                            refine y_iload_n (pc2 := 528) rfl dX12_does_527 rfl ?_
                            obtain ⟨g264, hf⟩ := y_g hf
                            obtain ⟨r261, h262, c263, hf⟩ := y_clE hf
                            refine y_callV (As := [.int p2]) (rm := rm_X12_makesShelf) (cells := 0) (slots := 0) (pc2 := 531) rfl dX12_does_528 n_X12_makesShelf l_BoxYardModel_509 i_X12_makesShelf e_X12_makesShelf (ci := 12) rfl rfl (by decide) g264 rfl rfl (by decide) (by decide) (by decide) (k_X12_makesShelf c263) ?_
                            exact y_iretF hf dX12_does_531 rfl (by decide) (by decide)
                          · replace hf := y_ie c260 hf
                            refine y_table (off := 528) (tgt := 532) dX12_does_4 ((if_pos (by have q0 := lv_neT c1 (a := 0) (by decide); have q1 := lv_neT c13 (a := 1) (by decide); have q2 := lv_neT c25 (a := 2) (by decide); have q3 := lv_neT c37 (a := 3) (by decide); have q4 := lv_neT c42 (a := 4) (by decide); have q5 := lv_neT c59 (a := 5) (by decide); have q6 := lv_neT c127 (a := 6) (by decide); have q7 := lv_neT c131 (a := 7) (by decide); have q8 := lv_neT c181 (a := 8) (by decide); have q9 := lv_neT c213 (a := 9) (by decide); have q10 := lv_neT c250 (a := 10) (by decide); have q11 := lv_neT c255 (a := 11) (by decide); have q12 := lv_neT c260 (a := 12) (by decide); omega))) (by decide) ?_
                            refine y_aload_n (x := p0) (pc2 := 533) rfl dX12_does_532 rfl ?_
                            refine y_iload_n (pc2 := 534) rfl dX12_does_533 rfl ?_
                            obtain ⟨g268, hf⟩ := y_g hf
                            obtain ⟨r265, h266, c267, hf⟩ := y_clE hf
                            refine y_callV (As := [.int p2]) (rm := rm_X12_looksAs) (cells := 0) (slots := 0) (pc2 := 537) rfl dX12_does_534 n_X12_looksAs l_BoxYardModel_512 i_X12_looksAs e_X12_looksAs (ci := 12) rfl rfl (by decide) g268 rfl rfl (by decide) (by decide) (by decide) (k_X12_looksAs c267) ?_
                            exact y_iretF hf dX12_does_537 rfl (by decide) (by decide)
theorem dX12_second_0 : decode cX12_second 0 = .ok (.aload_n 0, 1) := by decide +kernel
theorem dX12_second_1 : decode cX12_second 1 = .ok (.getfield 210, 3) := by decide +kernel
theorem dX12_second_4 : decode cX12_second 4 = .ok (.iload_n 1, 1) := by decide +kernel
theorem dX12_second_5 : decode cX12_second 5 = .ok (.iconst 1, 1) := by decide +kernel
theorem dX12_second_6 : decode cX12_second 6 = .ok (.isub, 1) := by decide +kernel
theorem dX12_second_7 : decode cX12_second 7 = .ok (.iaload, 1) := by decide +kernel
theorem dX12_second_8 : decode cX12_second 8 = .ok (.istore_n 2, 1) := by decide +kernel
theorem dX12_second_9 : decode cX12_second 9 = .ok (.aload_n 0, 1) := by decide +kernel
theorem dX12_second_10 : decode cX12_second 10 = .ok (.getfield 213, 3) := by decide +kernel
theorem dX12_second_13 : decode cX12_second 13 = .ok (.iload_n 1, 1) := by decide +kernel
theorem dX12_second_14 : decode cX12_second 14 = .ok (.iaload, 1) := by decide +kernel
theorem dX12_second_15 : decode cX12_second 15 = .ok (.istore_n 3, 1) := by decide +kernel
theorem dX12_second_16 : decode cX12_second 16 = .ok (.aload_n 0, 1) := by decide +kernel
theorem dX12_second_17 : decode cX12_second 17 = .ok (.getfield 210, 3) := by decide +kernel
theorem dX12_second_20 : decode cX12_second 20 = .ok (.iload_n 1, 1) := by decide +kernel
theorem dX12_second_21 : decode cX12_second 21 = .ok (.iaload, 1) := by decide +kernel
theorem dX12_second_22 : decode cX12_second 22 = .ok (.istore 4, 2) := by decide +kernel
theorem dX12_second_24 : decode cX12_second 24 = .ok (.aload_n 0, 1) := by decide +kernel
theorem dX12_second_25 : decode cX12_second 25 = .ok (.getfield 207, 3) := by decide +kernel
theorem dX12_second_28 : decode cX12_second 28 = .ok (.iload_n 1, 1) := by decide +kernel
theorem dX12_second_29 : decode cX12_second 29 = .ok (.iconst 3, 1) := by decide +kernel
theorem dX12_second_30 : decode cX12_second 30 = .ok (.iastore, 1) := by decide +kernel
theorem dX12_second_31 : decode cX12_second 31 = .ok (.aload_n 0, 1) := by decide +kernel
theorem dX12_second_32 : decode cX12_second 32 = .ok (.getfield 210, 3) := by decide +kernel
theorem dX12_second_35 : decode cX12_second 35 = .ok (.iload_n 1, 1) := by decide +kernel
theorem dX12_second_36 : decode cX12_second 36 = .ok (.iload_n 3, 1) := by decide +kernel
theorem dX12_second_37 : decode cX12_second 37 = .ok (.ifCond .gt 8, 3) := by decide +kernel
theorem dX12_second_40 : decode cX12_second 40 = .ok (.iload 4, 2) := by decide +kernel
theorem dX12_second_42 : decode cX12_second 42 = .ok (.goto 19, 3) := by decide +kernel
theorem dX12_second_45 : decode cX12_second 45 = .ok (.iload_n 3, 1) := by decide +kernel
theorem dX12_second_46 : decode cX12_second 46 = .ok (.iload_n 2, 1) := by decide +kernel
theorem dX12_second_47 : decode cX12_second 47 = .ok (.iload 4, 2) := by decide +kernel
theorem dX12_second_49 : decode cX12_second 49 = .ok (.isub, 1) := by decide +kernel
theorem dX12_second_50 : decode cX12_second 50 = .ok (.if_icmp .le 7, 3) := by decide +kernel
theorem dX12_second_53 : decode cX12_second 53 = .ok (.iload_n 2, 1) := by decide +kernel
theorem dX12_second_54 : decode cX12_second 54 = .ok (.goto 7, 3) := by decide +kernel
theorem dX12_second_57 : decode cX12_second 57 = .ok (.iload 4, 2) := by decide +kernel
theorem dX12_second_59 : decode cX12_second 59 = .ok (.iload_n 3, 1) := by decide +kernel
theorem dX12_second_60 : decode cX12_second 60 = .ok (.iadd, 1) := by decide +kernel
theorem dX12_second_61 : decode cX12_second 61 = .ok (.iastore, 1) := by decide +kernel
theorem dX12_second_62 : decode cX12_second 62 = .ok (.return_, 1) := by decide +kernel
def M_X12_second : y_M := (yX12_second, cX12_second, 5, (Option.none : Option Jvm.ClassFile.FieldType))
theorem n_X12_second : y_N0 M_X12_second 1 := ⟨(c_10 118 (by decide +kernel) rfl), (c_1 9 (by decide +kernel) rfl), ⟨by decide +kernel, by decide +kernel⟩, by decide +kernel⟩
set_option maxRecDepth 100000 in
def f_X12_second (p0 : Nat) (p1 : Int32) (h : y_H) : Option (Unit × y_H) :=
  if y_K h p0 = 13 then
  if y_K h (y_P h p0 87) = 100 ∧ y_ix (p1 - 1) (y_N h (y_P h p0 87)) = true then
  if y_K h p0 = 13 then
  if y_K h (y_P h p0 88) = 100 ∧ y_ix p1 (y_N h (y_P h p0 88)) = true then
  if y_K h p0 = 13 then
  if y_K h (y_P h p0 87) = 100 ∧ y_ix p1 (y_N h (y_P h p0 87)) = true then
  if y_K h p0 = 13 then
  if y_K h (y_P h p0 86) = 100 ∧ y_ix p1 (y_N h (y_P h p0 86)) = true then
  y_bd (s_I h (y_P h p0 86) (Int32.toNatClampNeg p1) 3) (fun h1 =>
  if y_K h1 p0 = 13 then
  if 0 < (y_I h (y_P h p0 88) (Int32.toNatClampNeg p1)) then
    if (y_I h (y_P h p0 88) (Int32.toNatClampNeg p1)) ≤ ((y_I h (y_P h p0 87) (Int32.toNatClampNeg (p1 - 1))) - (y_I h (y_P h p0 87) (Int32.toNatClampNeg p1))) then
      if y_K h1 (y_P h1 p0 87) = 100 ∧ y_ix p1 (y_N h1 (y_P h1 p0 87)) = true then
      y_bd (s_I h1 (y_P h1 p0 87) (Int32.toNatClampNeg p1) ((y_I h (y_P h p0 87) (Int32.toNatClampNeg p1)) + (y_I h (y_P h p0 88) (Int32.toNatClampNeg p1)))) (fun h4 =>
      some ((), h4))
      else none
    else
      if y_K h1 (y_P h1 p0 87) = 100 ∧ y_ix p1 (y_N h1 (y_P h1 p0 87)) = true then
      y_bd (s_I h1 (y_P h1 p0 87) (Int32.toNatClampNeg p1) (y_I h (y_P h p0 87) (Int32.toNatClampNeg (p1 - 1)))) (fun h7 =>
      some ((), h7))
      else none
  else
    if y_K h1 (y_P h1 p0 87) = 100 ∧ y_ix p1 (y_N h1 (y_P h1 p0 87)) = true then
    y_bd (s_I h1 (y_P h1 p0 87) (Int32.toNatClampNeg p1) (y_I h (y_P h p0 87) (Int32.toNatClampNeg p1))) (fun h11 =>
    some ((), h11))
    else none
  else none)
  else none
  else none
  else none
  else none
  else none
  else none
  else none
  else none
abbrev rm_X12_second : Room := { frames := 0, cells := 0, slots := 0, locals := 0 }
set_option maxRecDepth 100000 in
set_option maxHeartbeats 4000000 in
theorem k_X12_second {l : Launch} {G : y_G} {p0 : Nat} {p1 : Int32} {h hz : y_H} {rz : Unit} (hf : f_X12_second p0 p1 h = some (rz, hz)) : y_S l G M_X12_second rm_X12_second [y_p p0, .int p1] h none hz := by
  refine y_start (lv := [(0, y_p p0), (1, .int p1)]) (by decide) (by simp [lg_sl, y_p_cat, y_ci, y_cj, M_X12_second]) (by simp [lv_args, y_p_cat, y_ci, y_cj]) (fun z ad0 => ?_)
  unfold f_X12_second at hf
  refine y_aload_n (x := p0) (pc2 := 1) rfl dX12_second_0 rfl ?_
  obtain ⟨g22, hf⟩ := y_g hf
  refine y_getP (pc2 := 4) rfl dX12_second_1 F_BoxYardModel_210 (by decide) rfl g22 ?_
  refine y_iload_n (pc2 := 5) rfl dX12_second_4 rfl ?_
  refine y_iconst (v := 1) (pc2 := 6) rfl dX12_second_5 (by decide) ?_
  refine y_isub (pc2 := 7) rfl dX12_second_6 ?_
  obtain ⟨g21, hf⟩ := y_g hf
  refine y_iald (pc2 := 8) rfl dX12_second_7 g21.1 (y_ix_in g21.2) ?_
  refine y_istore_n (lv' := [(2, .int (y_I h (y_P h p0 87) (Int32.toNatClampNeg (p1 - 1)))), (0, y_p p0), (1, .int p1)]) (pc2 := 9) rfl dX12_second_8 (by decide) rfl ?_
  refine y_aload_n (x := p0) (pc2 := 10) rfl dX12_second_9 rfl ?_
  obtain ⟨g20, hf⟩ := y_g hf
  refine y_getP (pc2 := 13) rfl dX12_second_10 F_BoxYardModel_213 (by decide) rfl g20 ?_
  refine y_iload_n (pc2 := 14) rfl dX12_second_13 rfl ?_
  obtain ⟨g19, hf⟩ := y_g hf
  refine y_iald (pc2 := 15) rfl dX12_second_14 g19.1 (y_ix_in g19.2) ?_
  refine y_istore_n (lv' := [(3, .int (y_I h (y_P h p0 88) (Int32.toNatClampNeg p1))), (2, .int (y_I h (y_P h p0 87) (Int32.toNatClampNeg (p1 - 1)))), (0, y_p p0), (1, .int p1)]) (pc2 := 16) rfl dX12_second_15 (by decide) rfl ?_
  refine y_aload_n (x := p0) (pc2 := 17) rfl dX12_second_16 rfl ?_
  obtain ⟨g18, hf⟩ := y_g hf
  refine y_getP (pc2 := 20) rfl dX12_second_17 F_BoxYardModel_210 (by decide) rfl g18 ?_
  refine y_iload_n (pc2 := 21) rfl dX12_second_20 rfl ?_
  obtain ⟨g17, hf⟩ := y_g hf
  refine y_iald (pc2 := 22) rfl dX12_second_21 g17.1 (y_ix_in g17.2) ?_
  refine y_istore (lv' := [(4, .int (y_I h (y_P h p0 87) (Int32.toNatClampNeg p1))), (3, .int (y_I h (y_P h p0 88) (Int32.toNatClampNeg p1))), (2, .int (y_I h (y_P h p0 87) (Int32.toNatClampNeg (p1 - 1)))), (0, y_p p0), (1, .int p1)]) (pc2 := 24) rfl dX12_second_22 (by decide) rfl ?_
  refine y_aload_n (x := p0) (pc2 := 25) rfl dX12_second_24 rfl ?_
  obtain ⟨g16, hf⟩ := y_g hf
  refine y_getP (pc2 := 28) rfl dX12_second_25 F_BoxYardModel_207 (by decide) rfl g16 ?_
  refine y_iload_n (pc2 := 29) rfl dX12_second_28 rfl ?_
  refine y_iconst (v := 3) (pc2 := 30) rfl dX12_second_29 (by decide) ?_
  obtain ⟨g3, hf⟩ := y_g hf
  obtain ⟨h1, e2, hf⟩ := y_bdE hf
  refine y_iast (x := 3) (pc2 := 31) rfl dX12_second_30 g3.1 (y_ix_in g3.2) e2 ?_
  refine y_aload_n (x := p0) (pc2 := 32) rfl dX12_second_31 rfl ?_
  obtain ⟨g15, hf⟩ := y_g hf
  refine y_getP (pc2 := 35) rfl dX12_second_32 F_BoxYardModel_210 (by decide) rfl g15 ?_
  refine y_iload_n (pc2 := 36) rfl dX12_second_35 rfl ?_
  refine y_iload_n (pc2 := 37) rfl dX12_second_36 rfl ?_
  refine y_if_gt (tgt := 45) (pc2 := 40) rfl dX12_second_37 (by decide) (fun c14 => ?_) (fun c14 => ?_)
  · replace hf := y_it c14 hf
    refine y_iload_n (pc2 := 46) rfl dX12_second_45 rfl ?_
    refine y_iload_n (pc2 := 47) rfl dX12_second_46 rfl ?_
    refine y_iload (pc2 := 49) rfl dX12_second_47 rfl ?_
    refine y_isub (pc2 := 50) rfl dX12_second_49 ?_
    refine y_icmp_le (tgt := 57) (pc2 := 53) rfl dX12_second_50 (by decide) (fun c10 => ?_) (fun c10 => ?_)
    · replace hf := y_it c10 hf
      refine y_iload (pc2 := 59) rfl dX12_second_57 rfl ?_
      refine y_iload_n (pc2 := 60) rfl dX12_second_59 rfl ?_
      refine y_iadd (pc2 := 61) rfl dX12_second_60 ?_
      obtain ⟨g6, hf⟩ := y_g hf
      obtain ⟨h4, e5, hf⟩ := y_bdE hf
      refine y_iast (x := (y_I h (y_P h p0 87) (Int32.toNatClampNeg p1)) + (y_I h (y_P h p0 88) (Int32.toNatClampNeg p1))) (pc2 := 62) rfl dX12_second_61 g6.1 (y_ix_in g6.2) e5 ?_
      exact y_vretF hf dX12_second_62 rfl (by decide) (by decide)
    · replace hf := y_ie c10 hf
      refine y_iload_n (pc2 := 54) rfl dX12_second_53 rfl ?_
      refine y_goto (tgt := 61) dX12_second_54 (by decide) ?_
      obtain ⟨g9, hf⟩ := y_g hf
      obtain ⟨h7, e8, hf⟩ := y_bdE hf
      refine y_iast (x := y_I h (y_P h p0 87) (Int32.toNatClampNeg (p1 - 1))) (pc2 := 62) rfl dX12_second_61 g9.1 (y_ix_in g9.2) e8 ?_
      exact y_vretF hf dX12_second_62 rfl (by decide) (by decide)
  · replace hf := y_ie c14 hf
    refine y_iload (pc2 := 42) rfl dX12_second_40 rfl ?_
    refine y_goto (tgt := 61) dX12_second_42 (by decide) ?_
    obtain ⟨g13, hf⟩ := y_g hf
    obtain ⟨h11, e12, hf⟩ := y_bdE hf
    refine y_iast (x := y_I h (y_P h p0 87) (Int32.toNatClampNeg p1)) (pc2 := 62) rfl dX12_second_61 g13.1 (y_ix_in g13.2) e12 ?_
    exact y_vretF hf dX12_second_62 rfl (by decide) (by decide)
theorem dX12_raise_0 : decode cX12_raise 0 = .ok (.iload_n 1, 1) := by decide +kernel
theorem dX12_raise_1 : decode cX12_raise 1 = .ok (.istore_n 3, 1) := by decide +kernel
theorem dX12_raise_2 : decode cX12_raise 2 = .ok (.iload_n 2, 1) := by decide +kernel
theorem dX12_raise_3 : decode cX12_raise 3 = .ok (.istore 4, 2) := by decide +kernel
theorem dX12_raise_5 : decode cX12_raise 5 = .ok (.aload_n 0, 1) := by decide +kernel
theorem dX12_raise_6 : decode cX12_raise 6 = .ok (.getfield 482, 3) := by decide +kernel
theorem dX12_raise_9 : decode cX12_raise 9 = .ok (.ifCond .le 134, 3) := by decide +kernel
theorem dX12_raise_12 : decode cX12_raise 12 = .ok (.aload_n 0, 1) := by decide +kernel
theorem dX12_raise_13 : decode cX12_raise 13 = .ok (.getfield 482, 3) := by decide +kernel
theorem dX12_raise_16 : decode cX12_raise 16 = .ok (.iconst 1, 1) := by decide +kernel
theorem dX12_raise_17 : decode cX12_raise 17 = .ok (.isub, 1) := by decide +kernel
theorem dX12_raise_18 : decode cX12_raise 18 = .ok (.istore 5, 2) := by decide +kernel
theorem dX12_raise_20 : decode cX12_raise 20 = .ok (.aload_n 0, 1) := by decide +kernel
theorem dX12_raise_21 : decode cX12_raise 21 = .ok (.getfield 207, 3) := by decide +kernel
theorem dX12_raise_24 : decode cX12_raise 24 = .ok (.iload 5, 2) := by decide +kernel
theorem dX12_raise_26 : decode cX12_raise 26 = .ok (.iaload, 1) := by decide +kernel
theorem dX12_raise_27 : decode cX12_raise 27 = .ok (.iconst 1, 1) := by decide +kernel
theorem dX12_raise_28 : decode cX12_raise 28 = .ok (.if_icmp .ne 55, 3) := by decide +kernel
theorem dX12_raise_31 : decode cX12_raise 31 = .ok (.aload_n 0, 1) := by decide +kernel
theorem dX12_raise_32 : decode cX12_raise 32 = .ok (.getfield 213, 3) := by decide +kernel
theorem dX12_raise_35 : decode cX12_raise 35 = .ok (.iload 5, 2) := by decide +kernel
theorem dX12_raise_37 : decode cX12_raise 37 = .ok (.iaload, 1) := by decide +kernel
theorem dX12_raise_38 : decode cX12_raise 38 = .ok (.istore 6, 2) := by decide +kernel
theorem dX12_raise_40 : decode cX12_raise 40 = .ok (.aload_n 0, 1) := by decide +kernel
theorem dX12_raise_41 : decode cX12_raise 41 = .ok (.aload_n 0, 1) := by decide +kernel
theorem dX12_raise_42 : decode cX12_raise 42 = .ok (.getfield 210, 3) := by decide +kernel
theorem dX12_raise_45 : decode cX12_raise 45 = .ok (.iload 5, 2) := by decide +kernel
theorem dX12_raise_47 : decode cX12_raise 47 = .ok (.iaload, 1) := by decide +kernel
theorem dX12_raise_48 : decode cX12_raise 48 = .ok (.putfield 515, 3) := by decide +kernel
theorem dX12_raise_51 : decode cX12_raise 51 = .ok (.aload_n 0, 1) := by decide +kernel
theorem dX12_raise_52 : decode cX12_raise 52 = .ok (.dup, 1) := by decide +kernel
theorem dX12_raise_53 : decode cX12_raise 53 = .ok (.getfield 482, 3) := by decide +kernel
theorem dX12_raise_56 : decode cX12_raise 56 = .ok (.iconst 1, 1) := by decide +kernel
theorem dX12_raise_57 : decode cX12_raise 57 = .ok (.isub, 1) := by decide +kernel
theorem dX12_raise_58 : decode cX12_raise 58 = .ok (.putfield 482, 3) := by decide +kernel
theorem dX12_raise_61 : decode cX12_raise 61 = .ok (.iload 6, 2) := by decide +kernel
theorem dX12_raise_63 : decode cX12_raise 63 = .ok (.ifCond .eq 9, 3) := by decide +kernel
theorem dX12_raise_66 : decode cX12_raise 66 = .ok (.iload 6, 2) := by decide +kernel
theorem dX12_raise_68 : decode cX12_raise 68 = .ok (.iload_n 3, 1) := by decide +kernel
theorem dX12_raise_69 : decode cX12_raise 69 = .ok (.if_icmp .ne 11, 3) := by decide +kernel
theorem dX12_raise_72 : decode cX12_raise 72 = .ok (.aload_n 0, 1) := by decide +kernel
theorem dX12_raise_73 : decode cX12_raise 73 = .ok (.iload_n 3, 1) := by decide +kernel
theorem dX12_raise_74 : decode cX12_raise 74 = .ok (.i2l, 1) := by decide +kernel
theorem dX12_raise_75 : decode cX12_raise 75 = .ok (.putfield 274, 3) := by decide +kernel
theorem dX12_raise_78 : decode cX12_raise 78 = .ok (.iconst 0, 1) := by decide +kernel
theorem dX12_raise_79 : decode cX12_raise 79 = .ok (.ireturn, 1) := by decide +kernel
theorem dX12_raise_80 : decode cX12_raise 80 = .ok (.goto 60, 3) := by decide +kernel
theorem dX12_raise_83 : decode cX12_raise 83 = .ok (.aload_n 0, 1) := by decide +kernel
theorem dX12_raise_84 : decode cX12_raise 84 = .ok (.getfield 207, 3) := by decide +kernel
theorem dX12_raise_87 : decode cX12_raise 87 = .ok (.iload 5, 2) := by decide +kernel
theorem dX12_raise_89 : decode cX12_raise 89 = .ok (.iaload, 1) := by decide +kernel
theorem dX12_raise_90 : decode cX12_raise 90 = .ok (.iconst 2, 1) := by decide +kernel
theorem dX12_raise_91 : decode cX12_raise 91 = .ok (.if_icmp .ne 39, 3) := by decide +kernel
theorem dX12_raise_94 : decode cX12_raise 94 = .ok (.aload_n 0, 1) := by decide +kernel
theorem dX12_raise_95 : decode cX12_raise 95 = .ok (.aload_n 0, 1) := by decide +kernel
theorem dX12_raise_96 : decode cX12_raise 96 = .ok (.getfield 210, 3) := by decide +kernel
theorem dX12_raise_99 : decode cX12_raise 99 = .ok (.iload 5, 2) := by decide +kernel
theorem dX12_raise_101 : decode cX12_raise 101 = .ok (.iaload, 1) := by decide +kernel
theorem dX12_raise_102 : decode cX12_raise 102 = .ok (.putfield 515, 3) := by decide +kernel
theorem dX12_raise_105 : decode cX12_raise 105 = .ok (.aload_n 0, 1) := by decide +kernel
theorem dX12_raise_106 : decode cX12_raise 106 = .ok (.iload 5, 2) := by decide +kernel
theorem dX12_raise_108 : decode cX12_raise 108 = .ok (.invokevirtual 518, 3) := by decide +kernel
theorem dX12_raise_111 : decode cX12_raise 111 = .ok (.aload_n 0, 1) := by decide +kernel
theorem dX12_raise_112 : decode cX12_raise 112 = .ok (.getfield 216, 3) := by decide +kernel
theorem dX12_raise_115 : decode cX12_raise 115 = .ok (.iload 5, 2) := by decide +kernel
theorem dX12_raise_117 : decode cX12_raise 117 = .ok (.iload_n 3, 1) := by decide +kernel
theorem dX12_raise_118 : decode cX12_raise 118 = .ok (.iastore, 1) := by decide +kernel
theorem dX12_raise_119 : decode cX12_raise 119 = .ok (.aload_n 0, 1) := by decide +kernel
theorem dX12_raise_120 : decode cX12_raise 120 = .ok (.getfield 219, 3) := by decide +kernel
theorem dX12_raise_123 : decode cX12_raise 123 = .ok (.iload 5, 2) := by decide +kernel
theorem dX12_raise_125 : decode cX12_raise 125 = .ok (.iload 4, 2) := by decide +kernel
theorem dX12_raise_127 : decode cX12_raise 127 = .ok (.iastore, 1) := by decide +kernel
theorem dX12_raise_128 : decode cX12_raise 128 = .ok (.iconst 0, 1) := by decide +kernel
theorem dX12_raise_129 : decode cX12_raise 129 = .ok (.ireturn, 1) := by decide +kernel
theorem dX12_raise_130 : decode cX12_raise 130 = .ok (.aload_n 0, 1) := by decide +kernel
theorem dX12_raise_131 : decode cX12_raise 131 = .ok (.dup, 1) := by decide +kernel
theorem dX12_raise_132 : decode cX12_raise 132 = .ok (.getfield 482, 3) := by decide +kernel
theorem dX12_raise_135 : decode cX12_raise 135 = .ok (.iconst 1, 1) := by decide +kernel
theorem dX12_raise_136 : decode cX12_raise 136 = .ok (.isub, 1) := by decide +kernel
theorem dX12_raise_137 : decode cX12_raise 137 = .ok (.putfield 482, 3) := by decide +kernel
theorem dX12_raise_140 : decode cX12_raise 140 = .ok (.goto (-135), 3) := by decide +kernel
theorem dX12_raise_143 : decode cX12_raise 143 = .ok (.aload_n 0, 1) := by decide +kernel
theorem dX12_raise_144 : decode cX12_raise 144 = .ok (.iload 4, 2) := by decide +kernel
theorem dX12_raise_146 : decode cX12_raise 146 = .ok (.putfield 204, 3) := by decide +kernel
theorem dX12_raise_149 : decode cX12_raise 149 = .ok (.iload_n 3, 1) := by decide +kernel
theorem dX12_raise_150 : decode cX12_raise 150 = .ok (.ireturn, 1) := by decide +kernel
def M_X12_raise : y_M := (yX12_raise, cX12_raise, 7, (Option.some Jvm.ClassFile.FieldType.int))
theorem n_X12_raise : y_N0 M_X12_raise 2 := ⟨(c_10 114 (by decide +kernel) rfl), (c_1 9 (by decide +kernel) rfl), ⟨by decide +kernel, by decide +kernel⟩, by decide +kernel⟩
theorem Fp_BoxYardModel_204 {nm : String} : y_Fp "BoxYardModel" nm 204 12 83 := ⟨_, _, _, rfl, by decide, Or.inl ⟨rfl, Or.inl (c_7 205 (by decide +kernel) rfl)⟩⟩
theorem Fp_BoxYardModel_515 {nm : String} : y_Fp "BoxYardModel" nm 515 12 91 := ⟨_, _, _, rfl, by decide, Or.inl ⟨rfl, Or.inl (c_7 213 (by decide +kernel) rfl)⟩⟩
theorem l_BoxYardModel_518 : y_lnk "BoxYardModel" 518 M_X12_second := Or.inl (c_10 115 (by decide +kernel) rfl)
theorem i_X12_second : Cond.instanceMethod (M_X12_second).1 ∈ y_tb := (c_10 117 (by decide +kernel) rfl)
theorem e_X12_second : Cond.selects (M_X12_second).1.cls (M_X12_second).1 (M_X12_second).1 ∈ y_tb := (m_s 120 (by decide +kernel) rfl)
theorem F_BoxYardModel_219 : y_F "BoxYardModel" 219 12 90 := ⟨_, _, _, rfl, by decide, Or.inl (c_7 212 (by decide +kernel) rfl)⟩
set_option maxRecDepth 100000 in
def f_X12_raise (p0 : Nat) (p1 : Int32) (p2 : Int32) (h : y_H) : Option (Int32 × y_H) :=
  y_jl (fun (_ : Nat) (_ : Int32) (_ : Int32) (_ : y_H) => (none : Option (Int32 × y_H))) (fun j5 (v0_5 : Nat) (v3_5 : Int32) (v4_5 : Int32) (h1 : y_H) =>
      if y_K h1 v0_5 = 13 then
      if (y_I h1 v0_5 85) ≤ 0 then
        if y_K h1 v0_5 = 13 then
        y_bd (s_I h1 v0_5 83 v4_5) (fun h2 =>
        some (v3_5, h2))
        else none
      else
        if y_K h1 v0_5 = 13 then
        if y_K h1 v0_5 = 13 then
        if y_K h1 (y_P h1 v0_5 86) = 100 ∧ y_ix ((y_I h1 v0_5 85) - 1) (y_N h1 (y_P h1 v0_5 86)) = true then
        y_jn (fun (v0_140 : Nat) (v3_140 : Int32) (v4_140 : Int32) (h5 : y_H) => (
            j5 v0_140 v3_140 v4_140 h5 : Option (Int32 × y_H))) (fun j140 =>
        if (y_I h1 (y_P h1 v0_5 86) (Int32.toNatClampNeg ((y_I h1 v0_5 85) - 1))) = 1 then
          if y_K h1 v0_5 = 13 then
          if y_K h1 (y_P h1 v0_5 88) = 100 ∧ y_ix ((y_I h1 v0_5 85) - 1) (y_N h1 (y_P h1 v0_5 88)) = true then
          if y_K h1 v0_5 = 13 then
          if y_K h1 (y_P h1 v0_5 87) = 100 ∧ y_ix ((y_I h1 v0_5 85) - 1) (y_N h1 (y_P h1 v0_5 87)) = true then
          if y_K h1 v0_5 = 13 then
          y_bd (s_I h1 v0_5 91 (y_I h1 (y_P h1 v0_5 87) (Int32.toNatClampNeg ((y_I h1 v0_5 85) - 1)))) (fun h29 =>
          if y_K h29 v0_5 = 13 then
          if y_K h29 v0_5 = 13 then
          y_bd (s_I h29 v0_5 85 ((y_I h29 v0_5 85) - 1)) (fun h32 =>
          y_jn (fun (v0_72 : Nat) (v3_72 : Int32) (h35 : y_H) => (
              if y_K h35 v0_72 = 13 then
              y_bd (s_L h35 v0_72 80 (Int32.toInt64 v3_72)) (fun h36 =>
              some (0, h36))
              else none : Option (Int32 × y_H))) (fun j72 =>
          if (y_I h1 (y_P h1 v0_5 88) (Int32.toNatClampNeg ((y_I h1 v0_5 85) - 1))) = 0 then
            j72 v0_5 v3_5 h32
          else
            if (y_I h1 (y_P h1 v0_5 88) (Int32.toNatClampNeg ((y_I h1 v0_5 85) - 1))) = v3_5 then
              j72 v0_5 v3_5 h32
            else
              j140 v0_5 v3_5 v4_5 h32))
          else none
          else none)
          else none
          else none
          else none
          else none
          else none
        else
          if y_K h1 v0_5 = 13 then
          if y_K h1 (y_P h1 v0_5 86) = 100 ∧ y_ix ((y_I h1 v0_5 85) - 1) (y_N h1 (y_P h1 v0_5 86)) = true then
          if (y_I h1 (y_P h1 v0_5 86) (Int32.toNatClampNeg ((y_I h1 v0_5 85) - 1))) = 2 then
            if y_K h1 v0_5 = 13 then
            if y_K h1 (y_P h1 v0_5 87) = 100 ∧ y_ix ((y_I h1 v0_5 85) - 1) (y_N h1 (y_P h1 v0_5 87)) = true then
            if y_K h1 v0_5 = 13 then
            y_bd (s_I h1 v0_5 91 (y_I h1 (y_P h1 v0_5 87) (Int32.toNatClampNeg ((y_I h1 v0_5 85) - 1)))) (fun h10 =>
            if y_K h10 v0_5 = 13 then
            y_cl (f_X12_second v0_5 ((y_I h1 v0_5 85) - 1) h10) (fun _ h13 =>
            if y_K h13 v0_5 = 13 then
            if y_K h13 (y_P h13 v0_5 89) = 100 ∧ y_ix ((y_I h1 v0_5 85) - 1) (y_N h13 (y_P h13 v0_5 89)) = true then
            y_bd (s_I h13 (y_P h13 v0_5 89) (Int32.toNatClampNeg ((y_I h1 v0_5 85) - 1)) v3_5) (fun h15 =>
            if y_K h15 v0_5 = 13 then
            if y_K h15 (y_P h15 v0_5 90) = 100 ∧ y_ix ((y_I h1 v0_5 85) - 1) (y_N h15 (y_P h15 v0_5 90)) = true then
            y_bd (s_I h15 (y_P h15 v0_5 90) (Int32.toNatClampNeg ((y_I h1 v0_5 85) - 1)) v4_5) (fun h18 =>
            some (0, h18))
            else none
            else none)
            else none
            else none)
            else none)
            else none
            else none
            else none
          else
            if y_K h1 v0_5 = 13 then
            if y_K h1 v0_5 = 13 then
            y_bd (s_I h1 v0_5 85 ((y_I h1 v0_5 85) - 1)) (fun h6 =>
            j140 v0_5 v3_5 v4_5 h6)
            else none
            else none
          else none
          else none)
        else none
        else none
        else none
      else none) (fun j5 =>
  j5 p0 p1 p2 h)
abbrev rm_X12_raise : Room := { frames := 1, cells := 0, slots := 0, locals := 24 }
set_option maxRecDepth 100000 in
set_option maxHeartbeats 4000000 in
theorem k_X12_raise {l : Launch} {G : y_G} {p0 : Nat} {p1 : Int32} {p2 : Int32} {h hz : y_H} {rz : Int32} (hf : f_X12_raise p0 p1 p2 h = some (rz, hz)) : y_S l G M_X12_raise rm_X12_raise [y_p p0, .int p1, .int p2] h (some (.int rz)) hz := by
  refine y_start (lv := [(0, y_p p0), (1, .int p1), (2, .int p2)]) (by decide) (by simp [lg_sl, y_p_cat, y_ci, y_cj, M_X12_raise]) (by simp [lv_args, y_p_cat, y_ci, y_cj]) (fun z ad0 => ?_)
  unfold f_X12_raise at hf
  refine y_iload_n (pc2 := 1) rfl dX12_raise_0 rfl ?_
  refine y_istore_n (lv' := [(3, .int p1), (0, y_p p0), (1, .int p1), (2, .int p2)]) (pc2 := 2) rfl dX12_raise_1 (by decide) rfl ?_
  refine y_iload_n (pc2 := 3) rfl dX12_raise_2 rfl ?_
  refine y_jlE hf (fun j => ∀ (v0_5 : Nat) (v3_5 : Int32) (v4_5 : Int32) (h1 : y_H), j v0_5 v3_5 v4_5 h1 = some (rz, hz) → y_V l G z rm_X12_raise M_X12_raise ad0 h (some (.int rz)) hz 5 [(0, y_p v0_5), (3, .int v3_5), (4, .int v4_5)] [] h1 0 0) (fun _ _ _ _ hf => by cases hf) (fun j5 hj5 v0_5 v3_5 v4_5 h1 hf => ?_) (fun j5 hj5 hf => ?_)
  · refine y_aload_n (x := v0_5) (pc2 := 6) rfl dX12_raise_5 rfl ?_
    obtain ⟨g51, hf⟩ := y_g hf
    refine y_getI (pc2 := 9) rfl dX12_raise_6 F_BoxYardModel_482 (by decide) rfl g51 ?_
    refine y_if_le (tgt := 143) (pc2 := 12) rfl dX12_raise_9 (by decide) (fun c50 => ?_) (fun c50 => ?_)
    · replace hf := y_it c50 hf
      refine y_aload_n (x := v0_5) (pc2 := 144) rfl dX12_raise_143 rfl ?_
      refine y_iload (pc2 := 146) rfl dX12_raise_144 rfl ?_
      obtain ⟨g4, hf⟩ := y_g hf
      obtain ⟨h2, e3, hf⟩ := y_bdE hf
      refine y_putI (x := v4_5) (pc2 := 149) rfl dX12_raise_146 Fp_BoxYardModel_204 (by decide) rfl g4 e3 ?_
      refine y_iload_n (pc2 := 150) rfl dX12_raise_149 rfl ?_
      exact y_iretF hf dX12_raise_150 rfl (by decide) (by decide)
    · replace hf := y_ie c50 hf
      refine y_aload_n (x := v0_5) (pc2 := 13) rfl dX12_raise_12 rfl ?_
      obtain ⟨g49, hf⟩ := y_g hf
      refine y_getI (pc2 := 16) rfl dX12_raise_13 F_BoxYardModel_482 (by decide) rfl g49 ?_
      refine y_iconst (v := 1) (pc2 := 17) rfl dX12_raise_16 (by decide) ?_
      refine y_isub (pc2 := 18) rfl dX12_raise_17 ?_
      refine y_istore (lv' := [(5, .int ((y_I h1 v0_5 85) - 1)), (0, y_p v0_5), (3, .int v3_5), (4, .int v4_5)]) (pc2 := 20) rfl dX12_raise_18 (by decide) rfl ?_
      refine y_aload_n (x := v0_5) (pc2 := 21) rfl dX12_raise_20 rfl ?_
      obtain ⟨g48, hf⟩ := y_g hf
      refine y_getP (pc2 := 24) rfl dX12_raise_21 F_BoxYardModel_207 (by decide) rfl g48 ?_
      refine y_iload (pc2 := 26) rfl dX12_raise_24 rfl ?_
      obtain ⟨g47, hf⟩ := y_g hf
      refine y_iald (pc2 := 27) rfl dX12_raise_26 g47.1 (y_ix_in g47.2) ?_
      refine y_iconst (v := 1) (pc2 := 28) rfl dX12_raise_27 (by decide) ?_
      refine y_jnE hf (fun j => ∀ (v0_140 : Nat) (v3_140 : Int32) (v4_140 : Int32) (h5 : y_H), j v0_140 v3_140 v4_140 h5 = some (rz, hz) → y_V l G z rm_X12_raise M_X12_raise ad0 h (some (.int rz)) hz 140 [(0, y_p v0_140), (3, .int v3_140), (4, .int v4_140)] [] h5 0 0) (fun v0_140 v3_140 v4_140 h5 hf => ?_) (fun j140 hj140 hf => ?_)
      · refine y_goto (tgt := 5) dX12_raise_140 (by decide) ?_
        exact y_pk [0, 1, 2] rfl (hj5 _ _ _ _ hf)
      · refine y_icmp_ne (tgt := 83) (pc2 := 31) rfl dX12_raise_28 (by decide) (fun c46 => ?_) (fun c46 => ?_)
        · replace hf := y_ie c46 hf
          refine y_aload_n (x := v0_5) (pc2 := 84) rfl dX12_raise_83 rfl ?_
          obtain ⟨g28, hf⟩ := y_g hf
          refine y_getP (pc2 := 87) rfl dX12_raise_84 F_BoxYardModel_207 (by decide) rfl g28 ?_
          refine y_iload (pc2 := 89) rfl dX12_raise_87 rfl ?_
          obtain ⟨g27, hf⟩ := y_g hf
          refine y_iald (pc2 := 90) rfl dX12_raise_89 g27.1 (y_ix_in g27.2) ?_
          refine y_iconst (v := 2) (pc2 := 91) rfl dX12_raise_90 (by decide) ?_
          refine y_icmp_ne (tgt := 130) (pc2 := 94) rfl dX12_raise_91 (by decide) (fun c26 => ?_) (fun c26 => ?_)
          · replace hf := y_ie c26 hf
            refine y_aload_n (x := v0_5) (pc2 := 131) rfl dX12_raise_130 rfl ?_
            refine y_dup (pc2 := 132) rfl dX12_raise_131 (y_p_cat _) ?_
            obtain ⟨g9, hf⟩ := y_g hf
            refine y_getI (pc2 := 135) rfl dX12_raise_132 F_BoxYardModel_482 (by decide) rfl g9 ?_
            refine y_iconst (v := 1) (pc2 := 136) rfl dX12_raise_135 (by decide) ?_
            refine y_isub (pc2 := 137) rfl dX12_raise_136 ?_
            obtain ⟨g8, hf⟩ := y_g hf
            obtain ⟨h6, e7, hf⟩ := y_bdE hf
            refine y_putI (x := (y_I h1 v0_5 85) - 1) (pc2 := 140) rfl dX12_raise_137 Fp_BoxYardModel_482 (by decide) rfl g8 e7 ?_
            exact y_pk [1, 2, 3] rfl (hj140 _ _ _ _ hf)
          · replace hf := y_it c26 hf
            refine y_aload_n (x := v0_5) (pc2 := 95) rfl dX12_raise_94 rfl ?_
            refine y_aload_n (x := v0_5) (pc2 := 96) rfl dX12_raise_95 rfl ?_
            obtain ⟨g25, hf⟩ := y_g hf
            refine y_getP (pc2 := 99) rfl dX12_raise_96 F_BoxYardModel_210 (by decide) rfl g25 ?_
            refine y_iload (pc2 := 101) rfl dX12_raise_99 rfl ?_
            obtain ⟨g24, hf⟩ := y_g hf
            refine y_iald (pc2 := 102) rfl dX12_raise_101 g24.1 (y_ix_in g24.2) ?_
            obtain ⟨g12, hf⟩ := y_g hf
            obtain ⟨h10, e11, hf⟩ := y_bdE hf
            refine y_putI (x := y_I h1 (y_P h1 v0_5 87) (Int32.toNatClampNeg ((y_I h1 v0_5 85) - 1))) (pc2 := 105) rfl dX12_raise_102 Fp_BoxYardModel_515 (by decide) rfl g12 e11 ?_
            refine y_aload_n (x := v0_5) (pc2 := 106) rfl dX12_raise_105 rfl ?_
            refine y_iload (pc2 := 108) rfl dX12_raise_106 rfl ?_
            obtain ⟨g23, hf⟩ := y_g hf
            obtain ⟨r_, h13, c14, hf⟩ := y_clE hf
            refine y_callV (As := [.int ((y_I h1 v0_5 85) - 1)]) (rm := rm_X12_second) (cells := 0) (slots := 0) (pc2 := 111) rfl dX12_raise_108 n_X12_second l_BoxYardModel_518 i_X12_second e_X12_second (ci := 12) rfl rfl (by decide) g23 rfl rfl (by decide) (by decide) (by decide) (k_X12_second c14) ?_
            refine y_aload_n (x := v0_5) (pc2 := 112) rfl dX12_raise_111 rfl ?_
            obtain ⟨g22, hf⟩ := y_g hf
            refine y_getP (pc2 := 115) rfl dX12_raise_112 F_BoxYardModel_216 (by decide) rfl g22 ?_
            refine y_iload (pc2 := 117) rfl dX12_raise_115 rfl ?_
            refine y_iload_n (pc2 := 118) rfl dX12_raise_117 rfl ?_
            obtain ⟨g17, hf⟩ := y_g hf
            obtain ⟨h15, e16, hf⟩ := y_bdE hf
            refine y_iast (x := v3_5) (pc2 := 119) rfl dX12_raise_118 g17.1 (y_ix_in g17.2) e16 ?_
            refine y_aload_n (x := v0_5) (pc2 := 120) rfl dX12_raise_119 rfl ?_
            obtain ⟨g21, hf⟩ := y_g hf
            refine y_getP (pc2 := 123) rfl dX12_raise_120 F_BoxYardModel_219 (by decide) rfl g21 ?_
            refine y_iload (pc2 := 125) rfl dX12_raise_123 rfl ?_
            refine y_iload (pc2 := 127) rfl dX12_raise_125 rfl ?_
            obtain ⟨g20, hf⟩ := y_g hf
            obtain ⟨h18, e19, hf⟩ := y_bdE hf
            refine y_iast (x := v4_5) (pc2 := 128) rfl dX12_raise_127 g20.1 (y_ix_in g20.2) e19 ?_
            refine y_iconst (v := 0) (pc2 := 129) rfl dX12_raise_128 (by decide) ?_
            exact y_iretF hf dX12_raise_129 rfl (by decide) (by decide)
        · replace hf := y_it c46 hf
          refine y_aload_n (x := v0_5) (pc2 := 32) rfl dX12_raise_31 rfl ?_
          obtain ⟨g45, hf⟩ := y_g hf
          refine y_getP (pc2 := 35) rfl dX12_raise_32 F_BoxYardModel_213 (by decide) rfl g45 ?_
          refine y_iload (pc2 := 37) rfl dX12_raise_35 rfl ?_
          obtain ⟨g44, hf⟩ := y_g hf
          refine y_iald (pc2 := 38) rfl dX12_raise_37 g44.1 (y_ix_in g44.2) ?_
          refine y_istore (lv' := [(6, .int (y_I h1 (y_P h1 v0_5 88) (Int32.toNatClampNeg ((y_I h1 v0_5 85) - 1)))), (5, .int ((y_I h1 v0_5 85) - 1)), (0, y_p v0_5), (3, .int v3_5), (4, .int v4_5)]) (pc2 := 40) rfl dX12_raise_38 (by decide) rfl ?_
          refine y_aload_n (x := v0_5) (pc2 := 41) rfl dX12_raise_40 rfl ?_
          refine y_aload_n (x := v0_5) (pc2 := 42) rfl dX12_raise_41 rfl ?_
          obtain ⟨g43, hf⟩ := y_g hf
          refine y_getP (pc2 := 45) rfl dX12_raise_42 F_BoxYardModel_210 (by decide) rfl g43 ?_
          refine y_iload (pc2 := 47) rfl dX12_raise_45 rfl ?_
          obtain ⟨g42, hf⟩ := y_g hf
          refine y_iald (pc2 := 48) rfl dX12_raise_47 g42.1 (y_ix_in g42.2) ?_
          obtain ⟨g31, hf⟩ := y_g hf
          obtain ⟨h29, e30, hf⟩ := y_bdE hf
          refine y_putI (x := y_I h1 (y_P h1 v0_5 87) (Int32.toNatClampNeg ((y_I h1 v0_5 85) - 1))) (pc2 := 51) rfl dX12_raise_48 Fp_BoxYardModel_515 (by decide) rfl g31 e30 ?_
          refine y_aload_n (x := v0_5) (pc2 := 52) rfl dX12_raise_51 rfl ?_
          refine y_dup (pc2 := 53) rfl dX12_raise_52 (y_p_cat _) ?_
          obtain ⟨g41, hf⟩ := y_g hf
          refine y_getI (pc2 := 56) rfl dX12_raise_53 F_BoxYardModel_482 (by decide) rfl g41 ?_
          refine y_iconst (v := 1) (pc2 := 57) rfl dX12_raise_56 (by decide) ?_
          refine y_isub (pc2 := 58) rfl dX12_raise_57 ?_
          obtain ⟨g34, hf⟩ := y_g hf
          obtain ⟨h32, e33, hf⟩ := y_bdE hf
          refine y_putI (x := (y_I h29 v0_5 85) - 1) (pc2 := 61) rfl dX12_raise_58 Fp_BoxYardModel_482 (by decide) rfl g34 e33 ?_
          refine y_iload (pc2 := 63) rfl dX12_raise_61 rfl ?_
          refine y_jnE hf (fun j => ∀ (v0_72 : Nat) (v3_72 : Int32) (h35 : y_H), j v0_72 v3_72 h35 = some (rz, hz) → y_V l G z rm_X12_raise M_X12_raise ad0 h (some (.int rz)) hz 72 [(0, y_p v0_72), (3, .int v3_72)] [] h35 0 0) (fun v0_72 v3_72 h35 hf => ?_) (fun j72 hj72 hf => ?_)
          · refine y_aload_n (x := v0_72) (pc2 := 73) rfl dX12_raise_72 rfl ?_
            refine y_iload_n (pc2 := 74) rfl dX12_raise_73 rfl ?_
            refine y_i2l (pc2 := 75) rfl dX12_raise_74 ?_
            obtain ⟨g38, hf⟩ := y_g hf
            obtain ⟨h36, e37, hf⟩ := y_bdE hf
            refine y_putL (x := Int32.toInt64 v3_72) (pc2 := 78) rfl dX12_raise_75 Fp_BoxYardModel_274 (by decide) rfl g38 e37 ?_
            refine y_iconst (v := 0) (pc2 := 79) rfl dX12_raise_78 (by decide) ?_
            exact y_iretF hf dX12_raise_79 rfl (by decide) (by decide)
          · refine y_if_eq (tgt := 72) (pc2 := 66) rfl dX12_raise_63 (by decide) (fun c40 => ?_) (fun c40 => ?_)
            · replace hf := y_it c40 hf
              exact y_pk [2, 3] rfl (hj72 _ _ _ hf)
            · replace hf := y_ie c40 hf
              refine y_iload (pc2 := 68) rfl dX12_raise_66 rfl ?_
              refine y_iload_n (pc2 := 69) rfl dX12_raise_68 rfl ?_
              refine y_icmp_ne (tgt := 80) (pc2 := 72) rfl dX12_raise_69 (by decide) (fun c39 => ?_) (fun c39 => ?_)
              · replace hf := y_ie c39 hf
                refine y_goto (tgt := 140) dX12_raise_80 (by decide) ?_
                exact y_pk [2, 3, 4] rfl (hj140 _ _ _ _ hf)
              · replace hf := y_it c39 hf
                exact y_pk [2, 3] rfl (hj72 _ _ _ hf)
  · refine y_istore (lv' := [(4, .int p2), (3, .int p1), (0, y_p p0), (1, .int p1), (2, .int p2)]) (pc2 := 5) rfl dX12_raise_3 (by decide) rfl ?_
    exact y_pk [2, 1, 0] rfl (hj5 _ _ _ _ hf)
