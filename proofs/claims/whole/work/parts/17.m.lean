theorem dX12_take_0 : decode cX12_take 0 = .ok (.aload_n 0, 1) := by decide +kernel
theorem dX12_take_1 : decode cX12_take 1 = .ok (.iconst 0, 1) := by decide +kernel
theorem dX12_take_2 : decode cX12_take 2 = .ok (.putfield 249, 3) := by decide +kernel
theorem dX12_take_5 : decode cX12_take 5 = .ok (.aload_n 0, 1) := by decide +kernel
theorem dX12_take_6 : decode cX12_take 6 = .ok (.iload_n 1, 1) := by decide +kernel
theorem dX12_take_7 : decode cX12_take 7 = .ok (.invokevirtual 329, 3) := by decide +kernel
theorem dX12_take_10 : decode cX12_take 10 = .ok (.ifCond .eq 11, 3) := by decide +kernel
theorem dX12_take_13 : decode cX12_take 13 = .ok (.aload_n 0, 1) := by decide +kernel
theorem dX12_take_14 : decode cX12_take 14 = .ok (.iload_n 2, 1) := by decide +kernel
theorem dX12_take_15 : decode cX12_take 15 = .ok (.invokevirtual 298, 3) := by decide +kernel
theorem dX12_take_18 : decode cX12_take 18 = .ok (.ifCond .ne 9, 3) := by decide +kernel
theorem dX12_take_21 : decode cX12_take 21 = .ok (.aload_n 0, 1) := by decide +kernel
theorem dX12_take_22 : decode cX12_take 22 = .ok (.iconst (-1), 1) := by decide +kernel
theorem dX12_take_23 : decode cX12_take 23 = .ok (.invokevirtual 345, 3) := by decide +kernel
theorem dX12_take_26 : decode cX12_take 26 = .ok (.ireturn, 1) := by decide +kernel
theorem dX12_take_27 : decode cX12_take 27 = .ok (.aload_n 0, 1) := by decide +kernel
theorem dX12_take_28 : decode cX12_take 28 = .ok (.getfield 89, 3) := by decide +kernel
theorem dX12_take_31 : decode cX12_take 31 = .ok (.iload_n 1, 1) := by decide +kernel
theorem dX12_take_32 : decode cX12_take 32 = .ok (.iaload, 1) := by decide +kernel
theorem dX12_take_33 : decode cX12_take 33 = .ok (.ifCond .ge 12, 3) := by decide +kernel
theorem dX12_take_36 : decode cX12_take 36 = .ok (.aload_n 0, 1) := by decide +kernel
theorem dX12_take_37 : decode cX12_take 37 = .ok (.getfield 29, 3) := by decide +kernel
theorem dX12_take_40 : decode cX12_take 40 = .ok (.iload_n 2, 1) := by decide +kernel
theorem dX12_take_41 : decode cX12_take 41 = .ok (.iaload, 1) := by decide +kernel
theorem dX12_take_42 : decode cX12_take 42 = .ok (.ifCond .eq 10, 3) := by decide +kernel
theorem dX12_take_45 : decode cX12_take 45 = .ok (.aload_n 0, 1) := by decide +kernel
theorem dX12_take_46 : decode cX12_take 46 = .ok (.bipush (-3), 2) := by decide +kernel
theorem dX12_take_48 : decode cX12_take 48 = .ok (.invokevirtual 345, 3) := by decide +kernel
theorem dX12_take_51 : decode cX12_take 51 = .ok (.ireturn, 1) := by decide +kernel
theorem dX12_take_52 : decode cX12_take 52 = .ok (.aload_n 0, 1) := by decide +kernel
theorem dX12_take_53 : decode cX12_take 53 = .ok (.iload_n 1, 1) := by decide +kernel
theorem dX12_take_54 : decode cX12_take 54 = .ok (.invokevirtual 348, 3) := by decide +kernel
theorem dX12_take_57 : decode cX12_take 57 = .ok (.ifCond .eq 11, 3) := by decide +kernel
theorem dX12_take_60 : decode cX12_take 60 = .ok (.aload_n 0, 1) := by decide +kernel
theorem dX12_take_61 : decode cX12_take 61 = .ok (.iload_n 1, 1) := by decide +kernel
theorem dX12_take_62 : decode cX12_take 62 = .ok (.bipush 6, 2) := by decide +kernel
theorem dX12_take_64 : decode cX12_take 64 = .ok (.invokevirtual 351, 3) := by decide +kernel
theorem dX12_take_67 : decode cX12_take 67 = .ok (.ireturn, 1) := by decide +kernel
theorem dX12_take_68 : decode cX12_take 68 = .ok (.aload_n 0, 1) := by decide +kernel
theorem dX12_take_69 : decode cX12_take 69 = .ok (.getfield 86, 3) := by decide +kernel
theorem dX12_take_72 : decode cX12_take 72 = .ok (.iload_n 1, 1) := by decide +kernel
theorem dX12_take_73 : decode cX12_take 73 = .ok (.iaload, 1) := by decide +kernel
theorem dX12_take_74 : decode cX12_take 74 = .ok (.ifCond .eq 11, 3) := by decide +kernel
theorem dX12_take_77 : decode cX12_take 77 = .ok (.aload_n 0, 1) := by decide +kernel
theorem dX12_take_78 : decode cX12_take 78 = .ok (.iload_n 1, 1) := by decide +kernel
theorem dX12_take_79 : decode cX12_take 79 = .ok (.bipush 10, 2) := by decide +kernel
theorem dX12_take_81 : decode cX12_take 81 = .ok (.invokevirtual 351, 3) := by decide +kernel
theorem dX12_take_84 : decode cX12_take 84 = .ok (.ireturn, 1) := by decide +kernel
theorem dX12_take_85 : decode cX12_take 85 = .ok (.aload_n 0, 1) := by decide +kernel
theorem dX12_take_86 : decode cX12_take 86 = .ok (.iload_n 2, 1) := by decide +kernel
theorem dX12_take_87 : decode cX12_take 87 = .ok (.invokevirtual 290, 3) := by decide +kernel
theorem dX12_take_90 : decode cX12_take 90 = .ok (.aload_n 0, 1) := by decide +kernel
theorem dX12_take_91 : decode cX12_take 91 = .ok (.iload_n 1, 1) := by decide +kernel
theorem dX12_take_92 : decode cX12_take 92 = .ok (.invokevirtual 332, 3) := by decide +kernel
theorem dX12_take_95 : decode cX12_take 95 = .ok (.if_icmp .le 11, 3) := by decide +kernel
theorem dX12_take_98 : decode cX12_take 98 = .ok (.aload_n 0, 1) := by decide +kernel
theorem dX12_take_99 : decode cX12_take 99 = .ok (.iload_n 1, 1) := by decide +kernel
theorem dX12_take_100 : decode cX12_take 100 = .ok (.bipush 9, 2) := by decide +kernel
theorem dX12_take_102 : decode cX12_take 102 = .ok (.invokevirtual 351, 3) := by decide +kernel
theorem dX12_take_105 : decode cX12_take 105 = .ok (.ireturn, 1) := by decide +kernel
theorem dX12_take_106 : decode cX12_take 106 = .ok (.aload_n 0, 1) := by decide +kernel
theorem dX12_take_107 : decode cX12_take 107 = .ok (.iload_n 1, 1) := by decide +kernel
theorem dX12_take_108 : decode cX12_take 108 = .ok (.iload_n 2, 1) := by decide +kernel
theorem dX12_take_109 : decode cX12_take 109 = .ok (.bipush (-9), 2) := by decide +kernel
theorem dX12_take_111 : decode cX12_take 111 = .ok (.invokevirtual 355, 3) := by decide +kernel
theorem dX12_take_114 : decode cX12_take 114 = .ok (.aload_n 0, 1) := by decide +kernel
theorem dX12_take_115 : decode cX12_take 115 = .ok (.iload_n 1, 1) := by decide +kernel
theorem dX12_take_116 : decode cX12_take 116 = .ok (.iload_n 2, 1) := by decide +kernel
theorem dX12_take_117 : decode cX12_take 117 = .ok (.invokevirtual 362, 3) := by decide +kernel
theorem dX12_take_120 : decode cX12_take 120 = .ok (.aload_n 0, 1) := by decide +kernel
theorem dX12_take_121 : decode cX12_take 121 = .ok (.invokevirtual 359, 3) := by decide +kernel
theorem dX12_take_124 : decode cX12_take 124 = .ok (.ireturn, 1) := by decide +kernel
def M_X12_take : y_M := (yX12_take, cX12_take, 3, (Option.some Jvm.ClassFile.FieldType.int))
theorem n_X12_take : y_N0 M_X12_take 2 := ⟨(c_9 82 (by decide +kernel) rfl), (c_1 9 (by decide +kernel) rfl), ⟨by decide +kernel, by decide +kernel⟩, by decide +kernel⟩
theorem l_BoxYardModel_362 : y_lnk "BoxYardModel" 362 M_X12_hang := Or.inl (c_9 83 (by decide +kernel) rfl)
theorem i_X12_hang : Cond.instanceMethod (M_X12_hang).1 ∈ y_tb := (c_9 85 (by decide +kernel) rfl)
theorem e_X12_hang : Cond.selects (M_X12_hang).1.cls (M_X12_hang).1 (M_X12_hang).1 ∈ y_tb := (m_s 80 (by decide +kernel) rfl)
set_option maxRecDepth 100000 in
def f_X12_take (p0 : Nat) (p1 : Int32) (p2 : Int32) (h : y_H) : Option (Int32 × y_H) :=
  if y_K h p0 = 13 then
  y_bd (s_I h p0 46 0) (fun h1 =>
  if y_K h1 p0 = 13 then
  y_cl (f_X12_isCrane p0 p1 h1) (fun r4 h5 =>
  y_jn (fun (v0_21 : Nat) (h7 : y_H) => (
      if y_K h7 v0_21 = 13 then
      y_cl (f_X12_refused v0_21 (-1 : Int32) h7) (fun r8 h9 =>
      some (r8, h9))
      else none : Option (Int32 × y_H))) (fun j21 =>
  if r4 = true then
    if y_K h5 p0 = 13 then
    y_cl (f_X12_isBox p0 p2 h5) (fun r12 h13 =>
    if r12 = true then
      if y_K h13 p0 = 13 then
      if y_K h13 (y_P h13 p0 29) = 100 ∧ y_ix p1 (y_N h13 (y_P h13 p0 29)) = true then
      y_jn (fun (v0_45 : Nat) (h15 : y_H) => (
          if y_K h15 v0_45 = 13 then
          y_cl (f_X12_refused v0_45 (-3 : Int32) h15) (fun r16 h17 =>
          some (r16, h17))
          else none : Option (Int32 × y_H))) (fun j45 =>
      if 0 ≤ (y_I h13 (y_P h13 p0 29) (Int32.toNatClampNeg p1)) then
        j45 p0 h13
      else
        if y_K h13 p0 = 13 then
        if y_K h13 (y_P h13 p0 7) = 100 ∧ y_ix p2 (y_N h13 (y_P h13 p0 7)) = true then
        if (y_I h13 (y_P h13 p0 7) (Int32.toNatClampNeg p2)) = 0 then
          if y_K h13 p0 = 13 then
          y_cl (f_X12_isWindy p0 p1 h13) (fun r20 h21 =>
          if r20 = true then
            if y_K h21 p0 = 13 then
            y_cl (f_X12_breaks p0 p1 6 h21) (fun r53 h54 =>
            some (r53, h54))
            else none
          else
            if y_K h21 p0 = 13 then
            if y_K h21 (y_P h21 p0 28) = 100 ∧ y_ix p1 (y_N h21 (y_P h21 p0 28)) = true then
            if (y_I h21 (y_P h21 p0 28) (Int32.toNatClampNeg p1)) = 0 then
              if y_K h21 p0 = 13 then
              y_cl (f_X12_known p0 p2 h21) (fun r23 h24 =>
              if y_K h24 p0 = 13 then
              y_cl (f_X12_loadOf p0 p1 h24) (fun r26 h27 =>
              if r23 ≤ r26 then
                if y_K h27 p0 = 13 then
                y_cl (f_X12_keep p0 p1 p2 (-9 : Int32) h27) (fun _ h29 =>
                if y_K h29 p0 = 13 then
                y_cl (f_X12_hang p0 p1 p2 h29) (fun _ h31 =>
                if y_K h31 p0 = 13 then
                y_cl (f_X12_done p0 h31) (fun r33 h34 =>
                some (r33, h34))
                else none)
                else none)
                else none
              else
                if y_K h27 p0 = 13 then
                y_cl (f_X12_breaks p0 p1 9 h27) (fun r39 h40 =>
                some (r39, h40))
                else none)
              else none)
              else none
            else
              if y_K h21 p0 = 13 then
              y_cl (f_X12_breaks p0 p1 10 h21) (fun r46 h47 =>
              some (r46, h47))
              else none
            else none
            else none)
          else none
        else
          j45 p0 h13
        else none
        else none)
      else none
      else none
    else
      j21 p0 h13)
    else none
  else
    j21 p0 h5))
  else none)
  else none
abbrev rm_X12_take : Room := { frames := 3, cells := 0, slots := 0, locals := 64 }
set_option maxRecDepth 100000 in
set_option maxHeartbeats 4000000 in
theorem k_X12_take {l : Launch} {G : y_G} {p0 : Nat} {p1 : Int32} {p2 : Int32} {h hz : y_H} {rz : Int32} (hf : f_X12_take p0 p1 p2 h = some (rz, hz)) : y_S l G M_X12_take rm_X12_take [y_p p0, .int p1, .int p2] h (some (.int rz)) hz := by
  refine y_start (lv := [(0, y_p p0), (1, .int p1), (2, .int p2)]) (by decide) (by simp [lg_sl, y_p_cat, y_ci, y_cj, M_X12_take]) (by simp [lv_args, y_p_cat, y_ci, y_cj]) (fun z ad0 => ?_)
  unfold f_X12_take at hf
  refine y_aload_n (x := p0) (pc2 := 1) rfl dX12_take_0 rfl ?_
  refine y_iconst (v := 0) (pc2 := 2) rfl dX12_take_1 (by decide) ?_
  obtain ⟨g3, hf⟩ := y_g hf
  obtain ⟨h1, e2, hf⟩ := y_bdE hf
  refine y_putI (x := 0) (pc2 := 5) rfl dX12_take_2 Fp_BoxYardModel_249 (by decide) rfl g3 e2 ?_
  refine y_aload_n (x := p0) (pc2 := 6) rfl dX12_take_5 rfl ?_
  refine y_iload_n (pc2 := 7) rfl dX12_take_6 rfl ?_
  obtain ⟨g68, hf⟩ := y_g hf
  obtain ⟨r4, h5, c6, hf⟩ := y_clE hf
  refine y_callV (As := [.int p1]) (rm := rm_X12_isCrane) (cells := 0) (slots := 0) (pc2 := 10) rfl dX12_take_7 n_X12_isCrane l_BoxYardModel_329 i_X12_isCrane e_X12_isCrane (ci := 12) rfl rfl (by decide) g68 rfl rfl (by decide) (by decide) (by decide) (k_X12_isCrane c6) ?_
  refine y_jnE hf (fun j => ∀ (v0_21 : Nat) (h7 : y_H), j v0_21 h7 = some (rz, hz) → y_V l G z rm_X12_take M_X12_take ad0 h (some (.int rz)) hz 21 [(0, y_p v0_21)] [] h7 0 0) (fun v0_21 h7 hf => ?_) (fun j21 hj21 hf => ?_)
  · refine y_aload_n (x := v0_21) (pc2 := 22) rfl dX12_take_21 rfl ?_
    refine y_iconst (v := (-1 : Int32)) (pc2 := 23) rfl dX12_take_22 (by decide) ?_
    obtain ⟨g11, hf⟩ := y_g hf
    obtain ⟨r8, h9, c10, hf⟩ := y_clE hf
    refine y_callV (As := [.int (-1 : Int32)]) (rm := rm_X12_refused) (cells := 0) (slots := 0) (pc2 := 26) rfl dX12_take_23 n_X12_refused l_BoxYardModel_345 i_X12_refused e_X12_refused (ci := 12) rfl rfl (by decide) g11 rfl rfl (by decide) (by decide) (by decide) (k_X12_refused c10) ?_
    exact y_iretF hf dX12_take_26 rfl (by decide) (by decide)
  · refine y_ifz_eq (tgt := 21) (pc2 := 13) rfl dX12_take_10 (by decide) (fun c67 => ?_) (fun c67 => ?_)
    · replace hf := y_ie c67 hf
      exact y_pk [0] rfl (hj21 _ _ hf)
    · replace hf := y_it c67 hf
      refine y_aload_n (x := p0) (pc2 := 14) rfl dX12_take_13 rfl ?_
      refine y_iload_n (pc2 := 15) rfl dX12_take_14 rfl ?_
      obtain ⟨g66, hf⟩ := y_g hf
      obtain ⟨r12, h13, c14, hf⟩ := y_clE hf
      refine y_callV (As := [.int p2]) (rm := rm_X12_isBox) (cells := 0) (slots := 0) (pc2 := 18) rfl dX12_take_15 n_X12_isBox l_BoxYardModel_298 i_X12_isBox e_X12_isBox (ci := 12) rfl rfl (by decide) g66 rfl rfl (by decide) (by decide) (by decide) (k_X12_isBox c14) ?_
      refine y_ifz_ne (tgt := 27) (pc2 := 21) rfl dX12_take_18 (by decide) (fun c65 => ?_) (fun c65 => ?_)
      · replace hf := y_it c65 hf
        refine y_aload_n (x := p0) (pc2 := 28) rfl dX12_take_27 rfl ?_
        obtain ⟨g64, hf⟩ := y_g hf
        refine y_getP (pc2 := 31) rfl dX12_take_28 F_BoxYardModel_89 (by decide) rfl g64 ?_
        refine y_iload_n (pc2 := 32) rfl dX12_take_31 rfl ?_
        obtain ⟨g63, hf⟩ := y_g hf
        refine y_iald (pc2 := 33) rfl dX12_take_32 g63.1 (y_ix_in g63.2) ?_
        refine y_jnE hf (fun j => ∀ (v0_45 : Nat) (h15 : y_H), j v0_45 h15 = some (rz, hz) → y_V l G z rm_X12_take M_X12_take ad0 h (some (.int rz)) hz 45 [(0, y_p v0_45)] [] h15 0 0) (fun v0_45 h15 hf => ?_) (fun j45 hj45 hf => ?_)
        · refine y_aload_n (x := v0_45) (pc2 := 46) rfl dX12_take_45 rfl ?_
          refine y_bipush (v := (-3 : Int32)) (pc2 := 48) rfl dX12_take_46 (by decide) ?_
          obtain ⟨g19, hf⟩ := y_g hf
          obtain ⟨r16, h17, c18, hf⟩ := y_clE hf
          refine y_callV (As := [.int (-3 : Int32)]) (rm := rm_X12_refused) (cells := 0) (slots := 0) (pc2 := 51) rfl dX12_take_48 n_X12_refused l_BoxYardModel_345 i_X12_refused e_X12_refused (ci := 12) rfl rfl (by decide) g19 rfl rfl (by decide) (by decide) (by decide) (k_X12_refused c18) ?_
          exact y_iretF hf dX12_take_51 rfl (by decide) (by decide)
        · refine y_if_ge (tgt := 45) (pc2 := 36) rfl dX12_take_33 (by decide) (fun c62 => ?_) (fun c62 => ?_)
          · replace hf := y_it c62 hf
            exact y_pk [0] rfl (hj45 _ _ hf)
          · replace hf := y_ie c62 hf
            refine y_aload_n (x := p0) (pc2 := 37) rfl dX12_take_36 rfl ?_
            obtain ⟨g61, hf⟩ := y_g hf
            refine y_getP (pc2 := 40) rfl dX12_take_37 F_BoxYardModel_29 (by decide) rfl g61 ?_
            refine y_iload_n (pc2 := 41) rfl dX12_take_40 rfl ?_
            obtain ⟨g60, hf⟩ := y_g hf
            refine y_iald (pc2 := 42) rfl dX12_take_41 g60.1 (y_ix_in g60.2) ?_
            refine y_if_eq (tgt := 52) (pc2 := 45) rfl dX12_take_42 (by decide) (fun c59 => ?_) (fun c59 => ?_)
            · replace hf := y_it c59 hf
              refine y_aload_n (x := p0) (pc2 := 53) rfl dX12_take_52 rfl ?_
              refine y_iload_n (pc2 := 54) rfl dX12_take_53 rfl ?_
              obtain ⟨g58, hf⟩ := y_g hf
              obtain ⟨r20, h21, c22, hf⟩ := y_clE hf
              refine y_callV (As := [.int p1]) (rm := rm_X12_isWindy) (cells := 0) (slots := 0) (pc2 := 57) rfl dX12_take_54 n_X12_isWindy l_BoxYardModel_348 i_X12_isWindy e_X12_isWindy (ci := 12) rfl rfl (by decide) g58 rfl rfl (by decide) (by decide) (by decide) (k_X12_isWindy c22) ?_
              refine y_ifz_eq (tgt := 68) (pc2 := 60) rfl dX12_take_57 (by decide) (fun c57 => ?_) (fun c57 => ?_)
              · replace hf := y_ie c57 hf
                refine y_aload_n (x := p0) (pc2 := 69) rfl dX12_take_68 rfl ?_
                obtain ⟨g52, hf⟩ := y_g hf
                refine y_getP (pc2 := 72) rfl dX12_take_69 F_BoxYardModel_86 (by decide) rfl g52 ?_
                refine y_iload_n (pc2 := 73) rfl dX12_take_72 rfl ?_
                obtain ⟨g51, hf⟩ := y_g hf
                refine y_iald (pc2 := 74) rfl dX12_take_73 g51.1 (y_ix_in g51.2) ?_
                refine y_if_eq (tgt := 85) (pc2 := 77) rfl dX12_take_74 (by decide) (fun c50 => ?_) (fun c50 => ?_)
                · replace hf := y_it c50 hf
                  refine y_aload_n (x := p0) (pc2 := 86) rfl dX12_take_85 rfl ?_
                  refine y_iload_n (pc2 := 87) rfl dX12_take_86 rfl ?_
                  obtain ⟨g45, hf⟩ := y_g hf
                  obtain ⟨r23, h24, c25, hf⟩ := y_clE hf
                  refine y_callV (As := [.int p2]) (rm := rm_X12_known) (cells := 0) (slots := 0) (pc2 := 90) rfl dX12_take_87 n_X12_known l_BoxYardModel_290 i_X12_known e_X12_known (ci := 12) rfl rfl (by decide) g45 rfl rfl (by decide) (by decide) (by decide) (k_X12_known c25) ?_
                  refine y_aload_n (x := p0) (pc2 := 91) rfl dX12_take_90 rfl ?_
                  refine y_iload_n (pc2 := 92) rfl dX12_take_91 rfl ?_
                  obtain ⟨g44, hf⟩ := y_g hf
                  obtain ⟨r26, h27, c28, hf⟩ := y_clE hf
                  refine y_callV (As := [.int p1]) (rm := rm_X12_loadOf) (cells := 0) (slots := 0) (pc2 := 95) rfl dX12_take_92 n_X12_loadOf l_BoxYardModel_332 i_X12_loadOf e_X12_loadOf (ci := 12) rfl rfl (by decide) g44 rfl rfl (by decide) (by simp [y_ci, y_cj, y_p_cat]) (by decide) (k_X12_loadOf c28) ?_
                  refine y_icmp_le (tgt := 106) (pc2 := 98) rfl dX12_take_95 (by decide) (fun c43 => ?_) (fun c43 => ?_)
                  · replace hf := y_it c43 hf
                    refine y_aload_n (x := p0) (pc2 := 107) rfl dX12_take_106 rfl ?_
                    refine y_iload_n (pc2 := 108) rfl dX12_take_107 rfl ?_
                    refine y_iload_n (pc2 := 109) rfl dX12_take_108 rfl ?_
                    refine y_bipush (v := (-9 : Int32)) (pc2 := 111) rfl dX12_take_109 (by decide) ?_
                    obtain ⟨g38, hf⟩ := y_g hf
                    obtain ⟨r_, h29, c30, hf⟩ := y_clE hf
                    refine y_callV (As := [.int p1, .int p2, .int (-9 : Int32)]) (rm := rm_X12_keep) (cells := 0) (slots := 0) (pc2 := 114) rfl dX12_take_111 n_X12_keep l_BoxYardModel_355 i_X12_keep e_X12_keep (ci := 12) rfl rfl (by decide) g38 rfl rfl (by decide) (by decide) (by decide) (k_X12_keep c30) ?_
                    refine y_aload_n (x := p0) (pc2 := 115) rfl dX12_take_114 rfl ?_
                    refine y_iload_n (pc2 := 116) rfl dX12_take_115 rfl ?_
                    refine y_iload_n (pc2 := 117) rfl dX12_take_116 rfl ?_
                    obtain ⟨g37, hf⟩ := y_g hf
                    obtain ⟨r_, h31, c32, hf⟩ := y_clE hf
                    refine y_callV (As := [.int p1, .int p2]) (rm := rm_X12_hang) (cells := 0) (slots := 0) (pc2 := 120) rfl dX12_take_117 n_X12_hang l_BoxYardModel_362 i_X12_hang e_X12_hang (ci := 12) rfl rfl (by decide) g37 rfl rfl (by decide) (by decide) (by decide) (k_X12_hang c32) ?_
                    refine y_aload_n (x := p0) (pc2 := 121) rfl dX12_take_120 rfl ?_
                    obtain ⟨g36, hf⟩ := y_g hf
                    obtain ⟨r33, h34, c35, hf⟩ := y_clE hf
                    refine y_callV (As := []) (rm := rm_X12_done) (cells := 0) (slots := 0) (pc2 := 124) rfl dX12_take_121 n_X12_done l_BoxYardModel_359 i_X12_done e_X12_done (ci := 12) rfl rfl (by decide) g36 rfl rfl (by decide) (by decide) (by decide) (k_X12_done c35) ?_
                    exact y_iretF hf dX12_take_124 rfl (by decide) (by decide)
                  · replace hf := y_ie c43 hf
                    refine y_aload_n (x := p0) (pc2 := 99) rfl dX12_take_98 rfl ?_
                    refine y_iload_n (pc2 := 100) rfl dX12_take_99 rfl ?_
                    refine y_bipush (v := 9) (pc2 := 102) rfl dX12_take_100 (by decide) ?_
                    obtain ⟨g42, hf⟩ := y_g hf
                    obtain ⟨r39, h40, c41, hf⟩ := y_clE hf
                    refine y_callV (As := [.int p1, .int 9]) (rm := rm_X12_breaks) (cells := 0) (slots := 0) (pc2 := 105) rfl dX12_take_102 n_X12_breaks l_BoxYardModel_351 i_X12_breaks e_X12_breaks (ci := 12) rfl rfl (by decide) g42 rfl rfl (by decide) (by decide) (by decide) (k_X12_breaks c41) ?_
                    exact y_iretF hf dX12_take_105 rfl (by decide) (by decide)
                · replace hf := y_ie c50 hf
                  refine y_aload_n (x := p0) (pc2 := 78) rfl dX12_take_77 rfl ?_
                  refine y_iload_n (pc2 := 79) rfl dX12_take_78 rfl ?_
                  refine y_bipush (v := 10) (pc2 := 81) rfl dX12_take_79 (by decide) ?_
                  obtain ⟨g49, hf⟩ := y_g hf
                  obtain ⟨r46, h47, c48, hf⟩ := y_clE hf
                  refine y_callV (As := [.int p1, .int 10]) (rm := rm_X12_breaks) (cells := 0) (slots := 0) (pc2 := 84) rfl dX12_take_81 n_X12_breaks l_BoxYardModel_351 i_X12_breaks e_X12_breaks (ci := 12) rfl rfl (by decide) g49 rfl rfl (by decide) (by decide) (by decide) (k_X12_breaks c48) ?_
                  exact y_iretF hf dX12_take_84 rfl (by decide) (by decide)
              · replace hf := y_it c57 hf
                refine y_aload_n (x := p0) (pc2 := 61) rfl dX12_take_60 rfl ?_
                refine y_iload_n (pc2 := 62) rfl dX12_take_61 rfl ?_
                refine y_bipush (v := 6) (pc2 := 64) rfl dX12_take_62 (by decide) ?_
                obtain ⟨g56, hf⟩ := y_g hf
                obtain ⟨r53, h54, c55, hf⟩ := y_clE hf
                refine y_callV (As := [.int p1, .int 6]) (rm := rm_X12_breaks) (cells := 0) (slots := 0) (pc2 := 67) rfl dX12_take_64 n_X12_breaks l_BoxYardModel_351 i_X12_breaks e_X12_breaks (ci := 12) rfl rfl (by decide) g56 rfl rfl (by decide) (by decide) (by decide) (k_X12_breaks c55) ?_
                exact y_iretF hf dX12_take_67 rfl (by decide) (by decide)
            · replace hf := y_ie c59 hf
              exact y_pk [0] rfl (hj45 _ _ hf)
      · replace hf := y_ie c65 hf
        exact y_pk [0] rfl (hj21 _ _ hf)
theorem dX12_lift_0 : decode cX12_lift 0 = .ok (.aload_n 0, 1) := by decide +kernel
theorem dX12_lift_1 : decode cX12_lift 1 = .ok (.iconst 0, 1) := by decide +kernel
theorem dX12_lift_2 : decode cX12_lift 2 = .ok (.putfield 249, 3) := by decide +kernel
theorem dX12_lift_5 : decode cX12_lift 5 = .ok (.aload_n 0, 1) := by decide +kernel
theorem dX12_lift_6 : decode cX12_lift 6 = .ok (.iload_n 1, 1) := by decide +kernel
theorem dX12_lift_7 : decode cX12_lift 7 = .ok (.invokevirtual 329, 3) := by decide +kernel
theorem dX12_lift_10 : decode cX12_lift 10 = .ok (.ifCond .ne 9, 3) := by decide +kernel
theorem dX12_lift_13 : decode cX12_lift 13 = .ok (.aload_n 0, 1) := by decide +kernel
theorem dX12_lift_14 : decode cX12_lift 14 = .ok (.iconst (-1), 1) := by decide +kernel
theorem dX12_lift_15 : decode cX12_lift 15 = .ok (.invokevirtual 345, 3) := by decide +kernel
theorem dX12_lift_18 : decode cX12_lift 18 = .ok (.ireturn, 1) := by decide +kernel
theorem dX12_lift_19 : decode cX12_lift 19 = .ok (.aload_n 0, 1) := by decide +kernel
theorem dX12_lift_20 : decode cX12_lift 20 = .ok (.getfield 89, 3) := by decide +kernel
theorem dX12_lift_23 : decode cX12_lift 23 = .ok (.iload_n 1, 1) := by decide +kernel
theorem dX12_lift_24 : decode cX12_lift 24 = .ok (.iaload, 1) := by decide +kernel
theorem dX12_lift_25 : decode cX12_lift 25 = .ok (.ifCond .lt 10, 3) := by decide +kernel
theorem dX12_lift_28 : decode cX12_lift 28 = .ok (.aload_n 0, 1) := by decide +kernel
theorem dX12_lift_29 : decode cX12_lift 29 = .ok (.bipush (-3), 2) := by decide +kernel
theorem dX12_lift_31 : decode cX12_lift 31 = .ok (.invokevirtual 345, 3) := by decide +kernel
theorem dX12_lift_34 : decode cX12_lift 34 = .ok (.ireturn, 1) := by decide +kernel
theorem dX12_lift_35 : decode cX12_lift 35 = .ok (.aload_n 0, 1) := by decide +kernel
theorem dX12_lift_36 : decode cX12_lift 36 = .ok (.iload_n 1, 1) := by decide +kernel
theorem dX12_lift_37 : decode cX12_lift 37 = .ok (.invokevirtual 348, 3) := by decide +kernel
theorem dX12_lift_40 : decode cX12_lift 40 = .ok (.ifCond .eq 11, 3) := by decide +kernel
theorem dX12_lift_43 : decode cX12_lift 43 = .ok (.aload_n 0, 1) := by decide +kernel
theorem dX12_lift_44 : decode cX12_lift 44 = .ok (.iload_n 1, 1) := by decide +kernel
theorem dX12_lift_45 : decode cX12_lift 45 = .ok (.bipush 6, 2) := by decide +kernel
theorem dX12_lift_47 : decode cX12_lift 47 = .ok (.invokevirtual 351, 3) := by decide +kernel
theorem dX12_lift_50 : decode cX12_lift 50 = .ok (.ireturn, 1) := by decide +kernel
theorem dX12_lift_51 : decode cX12_lift 51 = .ok (.aload_n 0, 1) := by decide +kernel
theorem dX12_lift_52 : decode cX12_lift 52 = .ok (.getfield 86, 3) := by decide +kernel
theorem dX12_lift_55 : decode cX12_lift 55 = .ok (.iload_n 1, 1) := by decide +kernel
theorem dX12_lift_56 : decode cX12_lift 56 = .ok (.iaload, 1) := by decide +kernel
theorem dX12_lift_57 : decode cX12_lift 57 = .ok (.istore_n 3, 1) := by decide +kernel
theorem dX12_lift_58 : decode cX12_lift 58 = .ok (.aload_n 0, 1) := by decide +kernel
theorem dX12_lift_59 : decode cX12_lift 59 = .ok (.getfield 56, 3) := by decide +kernel
theorem dX12_lift_62 : decode cX12_lift 62 = .ok (.iload_n 3, 1) := by decide +kernel
theorem dX12_lift_63 : decode cX12_lift 63 = .ok (.baload, 1) := by decide +kernel
theorem dX12_lift_64 : decode cX12_lift 64 = .ok (.ifCond .ne 10, 3) := by decide +kernel
theorem dX12_lift_67 : decode cX12_lift 67 = .ok (.aload_n 0, 1) := by decide +kernel
theorem dX12_lift_68 : decode cX12_lift 68 = .ok (.iload_n 1, 1) := by decide +kernel
theorem dX12_lift_69 : decode cX12_lift 69 = .ok (.iconst 1, 1) := by decide +kernel
theorem dX12_lift_70 : decode cX12_lift 70 = .ok (.invokevirtual 366, 3) := by decide +kernel
theorem dX12_lift_73 : decode cX12_lift 73 = .ok (.ireturn, 1) := by decide +kernel
theorem dX12_lift_74 : decode cX12_lift 74 = .ok (.aload_n 0, 1) := by decide +kernel
theorem dX12_lift_75 : decode cX12_lift 75 = .ok (.iload_n 3, 1) := by decide +kernel
theorem dX12_lift_76 : decode cX12_lift 76 = .ok (.iload_n 2, 1) := by decide +kernel
theorem dX12_lift_77 : decode cX12_lift 77 = .ok (.invokevirtual 319, 3) := by decide +kernel
theorem dX12_lift_80 : decode cX12_lift 80 = .ok (.ifCond .ne 10, 3) := by decide +kernel
theorem dX12_lift_83 : decode cX12_lift 83 = .ok (.aload_n 0, 1) := by decide +kernel
theorem dX12_lift_84 : decode cX12_lift 84 = .ok (.iload_n 1, 1) := by decide +kernel
theorem dX12_lift_85 : decode cX12_lift 85 = .ok (.iconst 2, 1) := by decide +kernel
theorem dX12_lift_86 : decode cX12_lift 86 = .ok (.invokevirtual 366, 3) := by decide +kernel
theorem dX12_lift_89 : decode cX12_lift 89 = .ok (.ireturn, 1) := by decide +kernel
theorem dX12_lift_90 : decode cX12_lift 90 = .ok (.bipush 6, 2) := by decide +kernel
theorem dX12_lift_92 : decode cX12_lift 92 = .ok (.iload_n 3, 1) := by decide +kernel
theorem dX12_lift_93 : decode cX12_lift 93 = .ok (.imul, 1) := by decide +kernel
theorem dX12_lift_94 : decode cX12_lift 94 = .ok (.iload_n 2, 1) := by decide +kernel
theorem dX12_lift_95 : decode cX12_lift 95 = .ok (.iadd, 1) := by decide +kernel
theorem dX12_lift_96 : decode cX12_lift 96 = .ok (.istore 4, 2) := by decide +kernel
theorem dX12_lift_98 : decode cX12_lift 98 = .ok (.aload_n 0, 1) := by decide +kernel
theorem dX12_lift_99 : decode cX12_lift 99 = .ok (.getfield 71, 3) := by decide +kernel
theorem dX12_lift_102 : decode cX12_lift 102 = .ok (.iload 4, 2) := by decide +kernel
theorem dX12_lift_104 : decode cX12_lift 104 = .ok (.iaload, 1) := by decide +kernel
theorem dX12_lift_105 : decode cX12_lift 105 = .ok (.ifCond .ne 10, 3) := by decide +kernel
theorem dX12_lift_108 : decode cX12_lift 108 = .ok (.aload_n 0, 1) := by decide +kernel
theorem dX12_lift_109 : decode cX12_lift 109 = .ok (.iload_n 1, 1) := by decide +kernel
theorem dX12_lift_110 : decode cX12_lift 110 = .ok (.iconst 3, 1) := by decide +kernel
theorem dX12_lift_111 : decode cX12_lift 111 = .ok (.invokevirtual 366, 3) := by decide +kernel
theorem dX12_lift_114 : decode cX12_lift 114 = .ok (.ireturn, 1) := by decide +kernel
theorem dX12_lift_115 : decode cX12_lift 115 = .ok (.aload_n 0, 1) := by decide +kernel
theorem dX12_lift_116 : decode cX12_lift 116 = .ok (.getfield 74, 3) := by decide +kernel
theorem dX12_lift_119 : decode cX12_lift 119 = .ok (.iconst 5, 1) := by decide +kernel
theorem dX12_lift_120 : decode cX12_lift 120 = .ok (.iload 4, 2) := by decide +kernel
theorem dX12_lift_122 : decode cX12_lift 122 = .ok (.imul, 1) := by decide +kernel
theorem dX12_lift_123 : decode cX12_lift 123 = .ok (.aload_n 0, 1) := by decide +kernel
theorem dX12_lift_124 : decode cX12_lift 124 = .ok (.getfield 71, 3) := by decide +kernel
theorem dX12_lift_127 : decode cX12_lift 127 = .ok (.iload 4, 2) := by decide +kernel
theorem dX12_lift_129 : decode cX12_lift 129 = .ok (.iaload, 1) := by decide +kernel
theorem dX12_lift_130 : decode cX12_lift 130 = .ok (.iadd, 1) := by decide +kernel
theorem dX12_lift_131 : decode cX12_lift 131 = .ok (.iconst 1, 1) := by decide +kernel
theorem dX12_lift_132 : decode cX12_lift 132 = .ok (.isub, 1) := by decide +kernel
theorem dX12_lift_133 : decode cX12_lift 133 = .ok (.iaload, 1) := by decide +kernel
theorem dX12_lift_134 : decode cX12_lift 134 = .ok (.istore 5, 2) := by decide +kernel
theorem dX12_lift_136 : decode cX12_lift 136 = .ok (.aload_n 0, 1) := by decide +kernel
theorem dX12_lift_137 : decode cX12_lift 137 = .ok (.iload_n 1, 1) := by decide +kernel
theorem dX12_lift_138 : decode cX12_lift 138 = .ok (.iload_n 2, 1) := by decide +kernel
theorem dX12_lift_139 : decode cX12_lift 139 = .ok (.aload_n 0, 1) := by decide +kernel
theorem dX12_lift_140 : decode cX12_lift 140 = .ok (.getfield 71, 3) := by decide +kernel
theorem dX12_lift_143 : decode cX12_lift 143 = .ok (.iload 4, 2) := by decide +kernel
theorem dX12_lift_145 : decode cX12_lift 145 = .ok (.iaload, 1) := by decide +kernel
theorem dX12_lift_146 : decode cX12_lift 146 = .ok (.iconst 1, 1) := by decide +kernel
theorem dX12_lift_147 : decode cX12_lift 147 = .ok (.isub, 1) := by decide +kernel
theorem dX12_lift_148 : decode cX12_lift 148 = .ok (.invokevirtual 369, 3) := by decide +kernel
theorem dX12_lift_151 : decode cX12_lift 151 = .ok (.ifCond .ne 11, 3) := by decide +kernel
theorem dX12_lift_154 : decode cX12_lift 154 = .ok (.aload_n 0, 1) := by decide +kernel
theorem dX12_lift_155 : decode cX12_lift 155 = .ok (.iload_n 1, 1) := by decide +kernel
theorem dX12_lift_156 : decode cX12_lift 156 = .ok (.bipush 8, 2) := by decide +kernel
theorem dX12_lift_158 : decode cX12_lift 158 = .ok (.invokevirtual 351, 3) := by decide +kernel
theorem dX12_lift_161 : decode cX12_lift 161 = .ok (.ireturn, 1) := by decide +kernel
theorem dX12_lift_162 : decode cX12_lift 162 = .ok (.aload_n 0, 1) := by decide +kernel
theorem dX12_lift_163 : decode cX12_lift 163 = .ok (.iload 5, 2) := by decide +kernel
theorem dX12_lift_165 : decode cX12_lift 165 = .ok (.invokevirtual 290, 3) := by decide +kernel
theorem dX12_lift_168 : decode cX12_lift 168 = .ok (.aload_n 0, 1) := by decide +kernel
theorem dX12_lift_169 : decode cX12_lift 169 = .ok (.iload_n 1, 1) := by decide +kernel
theorem dX12_lift_170 : decode cX12_lift 170 = .ok (.invokevirtual 332, 3) := by decide +kernel
theorem dX12_lift_173 : decode cX12_lift 173 = .ok (.if_icmp .le 11, 3) := by decide +kernel
theorem dX12_lift_176 : decode cX12_lift 176 = .ok (.aload_n 0, 1) := by decide +kernel
theorem dX12_lift_177 : decode cX12_lift 177 = .ok (.iload_n 1, 1) := by decide +kernel
theorem dX12_lift_178 : decode cX12_lift 178 = .ok (.bipush 9, 2) := by decide +kernel
theorem dX12_lift_180 : decode cX12_lift 180 = .ok (.invokevirtual 351, 3) := by decide +kernel
theorem dX12_lift_183 : decode cX12_lift 183 = .ok (.ireturn, 1) := by decide +kernel
theorem dX12_lift_184 : decode cX12_lift 184 = .ok (.aload_n 0, 1) := by decide +kernel
theorem dX12_lift_185 : decode cX12_lift 185 = .ok (.iload_n 1, 1) := by decide +kernel
theorem dX12_lift_186 : decode cX12_lift 186 = .ok (.iload 5, 2) := by decide +kernel
theorem dX12_lift_188 : decode cX12_lift 188 = .ok (.bipush (-9), 2) := by decide +kernel
theorem dX12_lift_190 : decode cX12_lift 190 = .ok (.invokevirtual 355, 3) := by decide +kernel
theorem dX12_lift_193 : decode cX12_lift 193 = .ok (.aload_n 0, 1) := by decide +kernel
theorem dX12_lift_194 : decode cX12_lift 194 = .ok (.getfield 71, 3) := by decide +kernel
theorem dX12_lift_197 : decode cX12_lift 197 = .ok (.iload 4, 2) := by decide +kernel
theorem dX12_lift_199 : decode cX12_lift 199 = .ok (.dup2, 1) := by decide +kernel
theorem dX12_lift_200 : decode cX12_lift 200 = .ok (.iaload, 1) := by decide +kernel
theorem dX12_lift_201 : decode cX12_lift 201 = .ok (.iconst 1, 1) := by decide +kernel
theorem dX12_lift_202 : decode cX12_lift 202 = .ok (.isub, 1) := by decide +kernel
theorem dX12_lift_203 : decode cX12_lift 203 = .ok (.iastore, 1) := by decide +kernel
theorem dX12_lift_204 : decode cX12_lift 204 = .ok (.aload_n 0, 1) := by decide +kernel
theorem dX12_lift_205 : decode cX12_lift 205 = .ok (.iload_n 1, 1) := by decide +kernel
theorem dX12_lift_206 : decode cX12_lift 206 = .ok (.iload 5, 2) := by decide +kernel
theorem dX12_lift_208 : decode cX12_lift 208 = .ok (.invokevirtual 362, 3) := by decide +kernel
theorem dX12_lift_211 : decode cX12_lift 211 = .ok (.aload_n 0, 1) := by decide +kernel
theorem dX12_lift_212 : decode cX12_lift 212 = .ok (.invokevirtual 359, 3) := by decide +kernel
theorem dX12_lift_215 : decode cX12_lift 215 = .ok (.ireturn, 1) := by decide +kernel
def M_X12_lift : y_M := (yX12_lift, cX12_lift, 6, (Option.some Jvm.ClassFile.FieldType.int))
theorem n_X12_lift : y_N0 M_X12_lift 2 := ⟨(c_9 90 (by decide +kernel) rfl), (c_1 9 (by decide +kernel) rfl), ⟨by decide +kernel, by decide +kernel⟩, by decide +kernel⟩
theorem l_BoxYardModel_369 : y_lnk "BoxYardModel" 369 M_X12_reaches := Or.inl (c_9 95 (by decide +kernel) rfl)
theorem i_X12_reaches : Cond.instanceMethod (M_X12_reaches).1 ∈ y_tb := (c_9 97 (by decide +kernel) rfl)
theorem e_X12_reaches : Cond.selects (M_X12_reaches).1.cls (M_X12_reaches).1 (M_X12_reaches).1 ∈ y_tb := (m_s 82 (by decide +kernel) rfl)
theorem l_BoxYardModel_366 : y_lnk "BoxYardModel" 366 M_X12_meets := Or.inl (c_9 91 (by decide +kernel) rfl)
theorem i_X12_meets : Cond.instanceMethod (M_X12_meets).1 ∈ y_tb := (c_9 93 (by decide +kernel) rfl)
theorem e_X12_meets : Cond.selects (M_X12_meets).1.cls (M_X12_meets).1 (M_X12_meets).1 ∈ y_tb := (m_s 81 (by decide +kernel) rfl)
set_option maxRecDepth 100000 in
def f_X12_lift (p0 : Nat) (p1 : Int32) (p2 : Int32) (h : y_H) : Option (Int32 × y_H) :=
  if y_K h p0 = 13 then
  y_bd (s_I h p0 46 0) (fun h1 =>
  if y_K h1 p0 = 13 then
  y_cl (f_X12_isCrane p0 p1 h1) (fun r4 h5 =>
  if r4 = true then
    if y_K h5 p0 = 13 then
    if y_K h5 (y_P h5 p0 29) = 100 ∧ y_ix p1 (y_N h5 (y_P h5 p0 29)) = true then
    if (y_I h5 (y_P h5 p0 29) (Int32.toNatClampNeg p1)) < 0 then
      if y_K h5 p0 = 13 then
      y_cl (f_X12_isWindy p0 p1 h5) (fun r7 h8 =>
      if r7 = true then
        if y_K h8 p0 = 13 then
        y_cl (f_X12_breaks p0 p1 6 h8) (fun r78 h79 =>
        some (r78, h79))
        else none
      else
        if y_K h8 p0 = 13 then
        if y_K h8 (y_P h8 p0 28) = 100 ∧ y_ix p1 (y_N h8 (y_P h8 p0 28)) = true then
        if y_K h8 p0 = 13 then
        if y_K h8 (y_P h8 p0 17) = 102 ∧ y_ix (y_I h8 (y_P h8 p0 28) (Int32.toNatClampNeg p1)) (y_N h8 (y_P h8 p0 17)) = true then
        if (y_B h8 (y_P h8 p0 17) (Int32.toNatClampNeg (y_I h8 (y_P h8 p0 28) (Int32.toNatClampNeg p1)))) = true then
          if y_K h8 p0 = 13 then
          y_cl (f_X12_isStack p0 (y_I h8 (y_P h8 p0 28) (Int32.toNatClampNeg p1)) p2 h8) (fun r10 h11 =>
          if r10 = true then
            if y_K h11 p0 = 13 then
            if y_K h11 (y_P h11 p0 22) = 100 ∧ y_ix ((6 * (y_I h8 (y_P h8 p0 28) (Int32.toNatClampNeg p1))) + p2) (y_N h11 (y_P h11 p0 22)) = true then
            if (y_I h11 (y_P h11 p0 22) (Int32.toNatClampNeg ((6 * (y_I h8 (y_P h8 p0 28) (Int32.toNatClampNeg p1))) + p2))) = 0 then
              if y_K h11 p0 = 13 then
              y_cl (f_X12_meets p0 p1 3 h11) (fun r56 h57 =>
              some (r56, h57))
              else none
            else
              if y_K h11 p0 = 13 then
              if y_K h11 p0 = 13 then
              if y_K h11 (y_P h11 p0 22) = 100 ∧ y_ix ((6 * (y_I h8 (y_P h8 p0 28) (Int32.toNatClampNeg p1))) + p2) (y_N h11 (y_P h11 p0 22)) = true then
              if y_K h11 (y_P h11 p0 23) = 100 ∧ y_ix (((5 * ((6 * (y_I h8 (y_P h8 p0 28) (Int32.toNatClampNeg p1))) + p2)) + (y_I h11 (y_P h11 p0 22) (Int32.toNatClampNeg ((6 * (y_I h8 (y_P h8 p0 28) (Int32.toNatClampNeg p1))) + p2)))) - 1) (y_N h11 (y_P h11 p0 23)) = true then
              if y_K h11 p0 = 13 then
              if y_K h11 (y_P h11 p0 22) = 100 ∧ y_ix ((6 * (y_I h8 (y_P h8 p0 28) (Int32.toNatClampNeg p1))) + p2) (y_N h11 (y_P h11 p0 22)) = true then
              if y_K h11 p0 = 13 then
              y_cl (f_X12_reaches p0 p1 p2 ((y_I h11 (y_P h11 p0 22) (Int32.toNatClampNeg ((6 * (y_I h8 (y_P h8 p0 28) (Int32.toNatClampNeg p1))) + p2))) - 1) h11) (fun r13 h14 =>
              if r13 = true then
                if y_K h14 p0 = 13 then
                y_cl (f_X12_known p0 (y_I h11 (y_P h11 p0 23) (Int32.toNatClampNeg (((5 * ((6 * (y_I h8 (y_P h8 p0 28) (Int32.toNatClampNeg p1))) + p2)) + (y_I h11 (y_P h11 p0 22) (Int32.toNatClampNeg ((6 * (y_I h8 (y_P h8 p0 28) (Int32.toNatClampNeg p1))) + p2)))) - 1))) h14) (fun r16 h17 =>
                if y_K h17 p0 = 13 then
                y_cl (f_X12_loadOf p0 p1 h17) (fun r19 h20 =>
                if r16 ≤ r19 then
                  if y_K h20 p0 = 13 then
                  y_cl (f_X12_keep p0 p1 (y_I h11 (y_P h11 p0 23) (Int32.toNatClampNeg (((5 * ((6 * (y_I h8 (y_P h8 p0 28) (Int32.toNatClampNeg p1))) + p2)) + (y_I h11 (y_P h11 p0 22) (Int32.toNatClampNeg ((6 * (y_I h8 (y_P h8 p0 28) (Int32.toNatClampNeg p1))) + p2)))) - 1))) (-9 : Int32) h20) (fun _ h22 =>
                  if y_K h22 p0 = 13 then
                  if y_K h22 (y_P h22 p0 22) = 100 ∧ y_ix ((6 * (y_I h8 (y_P h8 p0 28) (Int32.toNatClampNeg p1))) + p2) (y_N h22 (y_P h22 p0 22)) = true then
                  if y_K h22 (y_P h22 p0 22) = 100 ∧ y_ix ((6 * (y_I h8 (y_P h8 p0 28) (Int32.toNatClampNeg p1))) + p2) (y_N h22 (y_P h22 p0 22)) = true then
                  y_bd (s_I h22 (y_P h22 p0 22) (Int32.toNatClampNeg ((6 * (y_I h8 (y_P h8 p0 28) (Int32.toNatClampNeg p1))) + p2)) ((y_I h22 (y_P h22 p0 22) (Int32.toNatClampNeg ((6 * (y_I h8 (y_P h8 p0 28) (Int32.toNatClampNeg p1))) + p2))) - 1)) (fun h24 =>
                  if y_K h24 p0 = 13 then
                  y_cl (f_X12_hang p0 p1 (y_I h11 (y_P h11 p0 23) (Int32.toNatClampNeg (((5 * ((6 * (y_I h8 (y_P h8 p0 28) (Int32.toNatClampNeg p1))) + p2)) + (y_I h11 (y_P h11 p0 22) (Int32.toNatClampNeg ((6 * (y_I h8 (y_P h8 p0 28) (Int32.toNatClampNeg p1))) + p2)))) - 1))) h24) (fun _ h27 =>
                  if y_K h27 p0 = 13 then
                  y_cl (f_X12_done p0 h27) (fun r29 h30 =>
                  some (r29, h30))
                  else none)
                  else none)
                  else none
                  else none
                  else none)
                  else none
                else
                  if y_K h20 p0 = 13 then
                  y_cl (f_X12_breaks p0 p1 9 h20) (fun r37 h38 =>
                  some (r37, h38))
                  else none)
                else none)
                else none
              else
                if y_K h14 p0 = 13 then
                y_cl (f_X12_breaks p0 p1 8 h14) (fun r44 h45 =>
                some (r44, h45))
                else none)
              else none
              else none
              else none
              else none
              else none
              else none
              else none
            else none
            else none
          else
            if y_K h11 p0 = 13 then
            y_cl (f_X12_meets p0 p1 2 h11) (fun r63 h64 =>
            some (r63, h64))
            else none)
          else none
        else
          if y_K h8 p0 = 13 then
          y_cl (f_X12_meets p0 p1 1 h8) (fun r69 h70 =>
          some (r69, h70))
          else none
        else none
        else none
        else none
        else none)
      else none
    else
      if y_K h5 p0 = 13 then
      y_cl (f_X12_refused p0 (-3 : Int32) h5) (fun r84 h85 =>
      some (r84, h85))
      else none
    else none
    else none
  else
    if y_K h5 p0 = 13 then
    y_cl (f_X12_refused p0 (-1 : Int32) h5) (fun r91 h92 =>
    some (r91, h92))
    else none)
  else none)
  else none
abbrev rm_X12_lift : Room := { frames := 3, cells := 0, slots := 0, locals := 65 }
set_option maxRecDepth 100000 in
set_option maxHeartbeats 4000000 in
theorem k_X12_lift {l : Launch} {G : y_G} {p0 : Nat} {p1 : Int32} {p2 : Int32} {h hz : y_H} {rz : Int32} (hf : f_X12_lift p0 p1 p2 h = some (rz, hz)) : y_S l G M_X12_lift rm_X12_lift [y_p p0, .int p1, .int p2] h (some (.int rz)) hz := by
  refine y_start (lv := [(0, y_p p0), (1, .int p1), (2, .int p2)]) (by decide) (by simp [lg_sl, y_p_cat, y_ci, y_cj, M_X12_lift]) (by simp [lv_args, y_p_cat, y_ci, y_cj]) (fun z ad0 => ?_)
  unfold f_X12_lift at hf
  refine y_aload_n (x := p0) (pc2 := 1) rfl dX12_lift_0 rfl ?_
  refine y_iconst (v := 0) (pc2 := 2) rfl dX12_lift_1 (by decide) ?_
  obtain ⟨g3, hf⟩ := y_g hf
  obtain ⟨h1, e2, hf⟩ := y_bdE hf
  refine y_putI (x := 0) (pc2 := 5) rfl dX12_lift_2 Fp_BoxYardModel_249 (by decide) rfl g3 e2 ?_
  refine y_aload_n (x := p0) (pc2 := 6) rfl dX12_lift_5 rfl ?_
  refine y_iload_n (pc2 := 7) rfl dX12_lift_6 rfl ?_
  obtain ⟨g96, hf⟩ := y_g hf
  obtain ⟨r4, h5, c6, hf⟩ := y_clE hf
  refine y_callV (As := [.int p1]) (rm := rm_X12_isCrane) (cells := 0) (slots := 0) (pc2 := 10) rfl dX12_lift_7 n_X12_isCrane l_BoxYardModel_329 i_X12_isCrane e_X12_isCrane (ci := 12) rfl rfl (by decide) g96 rfl rfl (by decide) (by decide) (by decide) (k_X12_isCrane c6) ?_
  refine y_ifz_ne (tgt := 19) (pc2 := 13) rfl dX12_lift_10 (by decide) (fun c95 => ?_) (fun c95 => ?_)
  · replace hf := y_it c95 hf
    refine y_aload_n (x := p0) (pc2 := 20) rfl dX12_lift_19 rfl ?_
    obtain ⟨g90, hf⟩ := y_g hf
    refine y_getP (pc2 := 23) rfl dX12_lift_20 F_BoxYardModel_89 (by decide) rfl g90 ?_
    refine y_iload_n (pc2 := 24) rfl dX12_lift_23 rfl ?_
    obtain ⟨g89, hf⟩ := y_g hf
    refine y_iald (pc2 := 25) rfl dX12_lift_24 g89.1 (y_ix_in g89.2) ?_
    refine y_if_lt (tgt := 35) (pc2 := 28) rfl dX12_lift_25 (by decide) (fun c88 => ?_) (fun c88 => ?_)
    · replace hf := y_it c88 hf
      refine y_aload_n (x := p0) (pc2 := 36) rfl dX12_lift_35 rfl ?_
      refine y_iload_n (pc2 := 37) rfl dX12_lift_36 rfl ?_
      obtain ⟨g83, hf⟩ := y_g hf
      obtain ⟨r7, h8, c9, hf⟩ := y_clE hf
      refine y_callV (As := [.int p1]) (rm := rm_X12_isWindy) (cells := 0) (slots := 0) (pc2 := 40) rfl dX12_lift_37 n_X12_isWindy l_BoxYardModel_348 i_X12_isWindy e_X12_isWindy (ci := 12) rfl rfl (by decide) g83 rfl rfl (by decide) (by decide) (by decide) (k_X12_isWindy c9) ?_
      refine y_ifz_eq (tgt := 51) (pc2 := 43) rfl dX12_lift_40 (by decide) (fun c82 => ?_) (fun c82 => ?_)
      · replace hf := y_ie c82 hf
        refine y_aload_n (x := p0) (pc2 := 52) rfl dX12_lift_51 rfl ?_
        obtain ⟨g77, hf⟩ := y_g hf
        refine y_getP (pc2 := 55) rfl dX12_lift_52 F_BoxYardModel_86 (by decide) rfl g77 ?_
        refine y_iload_n (pc2 := 56) rfl dX12_lift_55 rfl ?_
        obtain ⟨g76, hf⟩ := y_g hf
        refine y_iald (pc2 := 57) rfl dX12_lift_56 g76.1 (y_ix_in g76.2) ?_
        refine y_istore_n (lv' := [(3, .int (y_I h8 (y_P h8 p0 28) (Int32.toNatClampNeg p1))), (0, y_p p0), (1, .int p1), (2, .int p2)]) (pc2 := 58) rfl dX12_lift_57 (by decide) rfl ?_
        refine y_aload_n (x := p0) (pc2 := 59) rfl dX12_lift_58 rfl ?_
        obtain ⟨g75, hf⟩ := y_g hf
        refine y_getP (pc2 := 62) rfl dX12_lift_59 F_BoxYardModel_56 (by decide) rfl g75 ?_
        refine y_iload_n (pc2 := 63) rfl dX12_lift_62 rfl ?_
        obtain ⟨g74, hf⟩ := y_g hf
        refine y_zald (pc2 := 64) rfl dX12_lift_63 g74.1 (y_ix_in g74.2) ?_
        refine y_ifz_ne (tgt := 74) (pc2 := 67) rfl dX12_lift_64 (by decide) (fun c73 => ?_) (fun c73 => ?_)
        · replace hf := y_it c73 hf
          refine y_aload_n (x := p0) (pc2 := 75) rfl dX12_lift_74 rfl ?_
          refine y_iload_n (pc2 := 76) rfl dX12_lift_75 rfl ?_
          refine y_iload_n (pc2 := 77) rfl dX12_lift_76 rfl ?_
          obtain ⟨g68, hf⟩ := y_g hf
          obtain ⟨r10, h11, c12, hf⟩ := y_clE hf
          refine y_callV (As := [.int (y_I h8 (y_P h8 p0 28) (Int32.toNatClampNeg p1)), .int p2]) (rm := rm_X12_isStack) (cells := 0) (slots := 0) (pc2 := 80) rfl dX12_lift_77 n_X12_isStack l_BoxYardModel_319 i_X12_isStack e_X12_isStack (ci := 12) rfl rfl (by decide) g68 rfl rfl (by decide) (by decide) (by decide) (k_X12_isStack c12) ?_
          refine y_ifz_ne (tgt := 90) (pc2 := 83) rfl dX12_lift_80 (by decide) (fun c67 => ?_) (fun c67 => ?_)
          · replace hf := y_it c67 hf
            refine y_bipush (v := 6) (pc2 := 92) rfl dX12_lift_90 (by decide) ?_
            refine y_iload_n (pc2 := 93) rfl dX12_lift_92 rfl ?_
            refine y_imul (pc2 := 94) rfl dX12_lift_93 ?_
            refine y_iload_n (pc2 := 95) rfl dX12_lift_94 rfl ?_
            refine y_iadd (pc2 := 96) rfl dX12_lift_95 ?_
            refine y_istore (lv' := [(4, .int ((6 * (y_I h8 (y_P h8 p0 28) (Int32.toNatClampNeg p1))) + p2)), (3, .int (y_I h8 (y_P h8 p0 28) (Int32.toNatClampNeg p1))), (0, y_p p0), (1, .int p1), (2, .int p2)]) (pc2 := 98) rfl dX12_lift_96 (by decide) rfl ?_
            refine y_aload_n (x := p0) (pc2 := 99) rfl dX12_lift_98 rfl ?_
            obtain ⟨g62, hf⟩ := y_g hf
            refine y_getP (pc2 := 102) rfl dX12_lift_99 F_BoxYardModel_71 (by decide) rfl g62 ?_
            refine y_iload (pc2 := 104) rfl dX12_lift_102 rfl ?_
            obtain ⟨g61, hf⟩ := y_g hf
            refine y_iald (pc2 := 105) rfl dX12_lift_104 g61.1 (y_ix_in g61.2) ?_
            refine y_if_ne (tgt := 115) (pc2 := 108) rfl dX12_lift_105 (by decide) (fun c60 => ?_) (fun c60 => ?_)
            · replace hf := y_ie c60 hf
              refine y_aload_n (x := p0) (pc2 := 116) rfl dX12_lift_115 rfl ?_
              obtain ⟨g55, hf⟩ := y_g hf
              refine y_getP (pc2 := 119) rfl dX12_lift_116 F_BoxYardModel_74 (by decide) rfl g55 ?_
              refine y_iconst (v := 5) (pc2 := 120) rfl dX12_lift_119 (by decide) ?_
              refine y_iload (pc2 := 122) rfl dX12_lift_120 rfl ?_
              refine y_imul (pc2 := 123) rfl dX12_lift_122 ?_
              refine y_aload_n (x := p0) (pc2 := 124) rfl dX12_lift_123 rfl ?_
              obtain ⟨g54, hf⟩ := y_g hf
              refine y_getP (pc2 := 127) rfl dX12_lift_124 F_BoxYardModel_71 (by decide) rfl g54 ?_
              refine y_iload (pc2 := 129) rfl dX12_lift_127 rfl ?_
              obtain ⟨g53, hf⟩ := y_g hf
              refine y_iald (pc2 := 130) rfl dX12_lift_129 g53.1 (y_ix_in g53.2) ?_
              refine y_iadd (pc2 := 131) rfl dX12_lift_130 ?_
              refine y_iconst (v := 1) (pc2 := 132) rfl dX12_lift_131 (by decide) ?_
              refine y_isub (pc2 := 133) rfl dX12_lift_132 ?_
              obtain ⟨g52, hf⟩ := y_g hf
              refine y_iald (pc2 := 134) rfl dX12_lift_133 g52.1 (y_ix_in g52.2) ?_
              refine y_istore (lv' := [(5, .int (y_I h11 (y_P h11 p0 23) (Int32.toNatClampNeg (((5 * ((6 * (y_I h8 (y_P h8 p0 28) (Int32.toNatClampNeg p1))) + p2)) + (y_I h11 (y_P h11 p0 22) (Int32.toNatClampNeg ((6 * (y_I h8 (y_P h8 p0 28) (Int32.toNatClampNeg p1))) + p2)))) - 1)))), (4, .int ((6 * (y_I h8 (y_P h8 p0 28) (Int32.toNatClampNeg p1))) + p2)), (3, .int (y_I h8 (y_P h8 p0 28) (Int32.toNatClampNeg p1))), (0, y_p p0), (1, .int p1), (2, .int p2)]) (pc2 := 136) rfl dX12_lift_134 (by decide) rfl ?_
              refine y_aload_n (x := p0) (pc2 := 137) rfl dX12_lift_136 rfl ?_
              refine y_iload_n (pc2 := 138) rfl dX12_lift_137 rfl ?_
              refine y_iload_n (pc2 := 139) rfl dX12_lift_138 rfl ?_
              refine y_aload_n (x := p0) (pc2 := 140) rfl dX12_lift_139 rfl ?_
              obtain ⟨g51, hf⟩ := y_g hf
              refine y_getP (pc2 := 143) rfl dX12_lift_140 F_BoxYardModel_71 (by decide) rfl g51 ?_
              refine y_iload (pc2 := 145) rfl dX12_lift_143 rfl ?_
              obtain ⟨g50, hf⟩ := y_g hf
              refine y_iald (pc2 := 146) rfl dX12_lift_145 g50.1 (y_ix_in g50.2) ?_
              refine y_iconst (v := 1) (pc2 := 147) rfl dX12_lift_146 (by decide) ?_
              refine y_isub (pc2 := 148) rfl dX12_lift_147 ?_
              obtain ⟨g49, hf⟩ := y_g hf
              obtain ⟨r13, h14, c15, hf⟩ := y_clE hf
              refine y_callV (As := [.int p1, .int p2, .int ((y_I h11 (y_P h11 p0 22) (Int32.toNatClampNeg ((6 * (y_I h8 (y_P h8 p0 28) (Int32.toNatClampNeg p1))) + p2))) - 1)]) (rm := rm_X12_reaches) (cells := 0) (slots := 0) (pc2 := 151) rfl dX12_lift_148 n_X12_reaches l_BoxYardModel_369 i_X12_reaches e_X12_reaches (ci := 12) rfl rfl (by decide) g49 rfl rfl (by decide) (by decide) (by decide) (k_X12_reaches c15) ?_
              refine y_ifz_ne (tgt := 162) (pc2 := 154) rfl dX12_lift_151 (by decide) (fun c48 => ?_) (fun c48 => ?_)
              · replace hf := y_it c48 hf
                refine y_aload_n (x := p0) (pc2 := 163) rfl dX12_lift_162 rfl ?_
                refine y_iload (pc2 := 165) rfl dX12_lift_163 rfl ?_
                obtain ⟨g43, hf⟩ := y_g hf
                obtain ⟨r16, h17, c18, hf⟩ := y_clE hf
                refine y_callV (As := [.int (y_I h11 (y_P h11 p0 23) (Int32.toNatClampNeg (((5 * ((6 * (y_I h8 (y_P h8 p0 28) (Int32.toNatClampNeg p1))) + p2)) + (y_I h11 (y_P h11 p0 22) (Int32.toNatClampNeg ((6 * (y_I h8 (y_P h8 p0 28) (Int32.toNatClampNeg p1))) + p2)))) - 1)))]) (rm := rm_X12_known) (cells := 0) (slots := 0) (pc2 := 168) rfl dX12_lift_165 n_X12_known l_BoxYardModel_290 i_X12_known e_X12_known (ci := 12) rfl rfl (by decide) g43 rfl rfl (by decide) (by decide) (by decide) (k_X12_known c18) ?_
                refine y_aload_n (x := p0) (pc2 := 169) rfl dX12_lift_168 rfl ?_
                refine y_iload_n (pc2 := 170) rfl dX12_lift_169 rfl ?_
                obtain ⟨g42, hf⟩ := y_g hf
                obtain ⟨r19, h20, c21, hf⟩ := y_clE hf
                refine y_callV (As := [.int p1]) (rm := rm_X12_loadOf) (cells := 0) (slots := 0) (pc2 := 173) rfl dX12_lift_170 n_X12_loadOf l_BoxYardModel_332 i_X12_loadOf e_X12_loadOf (ci := 12) rfl rfl (by decide) g42 rfl rfl (by decide) (by simp [y_ci, y_cj, y_p_cat]) (by decide) (k_X12_loadOf c21) ?_
                refine y_icmp_le (tgt := 184) (pc2 := 176) rfl dX12_lift_173 (by decide) (fun c41 => ?_) (fun c41 => ?_)
                · replace hf := y_it c41 hf
                  refine y_aload_n (x := p0) (pc2 := 185) rfl dX12_lift_184 rfl ?_
                  refine y_iload_n (pc2 := 186) rfl dX12_lift_185 rfl ?_
                  refine y_iload (pc2 := 188) rfl dX12_lift_186 rfl ?_
                  refine y_bipush (v := (-9 : Int32)) (pc2 := 190) rfl dX12_lift_188 (by decide) ?_
                  obtain ⟨g36, hf⟩ := y_g hf
                  obtain ⟨r_, h22, c23, hf⟩ := y_clE hf
                  refine y_callV (As := [.int p1, .int (y_I h11 (y_P h11 p0 23) (Int32.toNatClampNeg (((5 * ((6 * (y_I h8 (y_P h8 p0 28) (Int32.toNatClampNeg p1))) + p2)) + (y_I h11 (y_P h11 p0 22) (Int32.toNatClampNeg ((6 * (y_I h8 (y_P h8 p0 28) (Int32.toNatClampNeg p1))) + p2)))) - 1))), .int (-9 : Int32)]) (rm := rm_X12_keep) (cells := 0) (slots := 0) (pc2 := 193) rfl dX12_lift_190 n_X12_keep l_BoxYardModel_355 i_X12_keep e_X12_keep (ci := 12) rfl rfl (by decide) g36 rfl rfl (by decide) (by decide) (by decide) (k_X12_keep c23) ?_
                  refine y_aload_n (x := p0) (pc2 := 194) rfl dX12_lift_193 rfl ?_
                  obtain ⟨g35, hf⟩ := y_g hf
                  refine y_getP (pc2 := 197) rfl dX12_lift_194 F_BoxYardModel_71 (by decide) rfl g35 ?_
                  refine y_iload (pc2 := 199) rfl dX12_lift_197 rfl ?_
                  refine y_dup2 (pc2 := 200) rfl dX12_lift_199 rfl (y_p_cat _) ?_
                  obtain ⟨g34, hf⟩ := y_g hf
                  refine y_iald (pc2 := 201) rfl dX12_lift_200 g34.1 (y_ix_in g34.2) ?_
                  refine y_iconst (v := 1) (pc2 := 202) rfl dX12_lift_201 (by decide) ?_
                  refine y_isub (pc2 := 203) rfl dX12_lift_202 ?_
                  obtain ⟨g26, hf⟩ := y_g hf
                  obtain ⟨h24, e25, hf⟩ := y_bdE hf
                  refine y_iast (x := (y_I h22 (y_P h22 p0 22) (Int32.toNatClampNeg ((6 * (y_I h8 (y_P h8 p0 28) (Int32.toNatClampNeg p1))) + p2))) - 1) (pc2 := 204) rfl dX12_lift_203 g26.1 (y_ix_in g26.2) e25 ?_
                  refine y_aload_n (x := p0) (pc2 := 205) rfl dX12_lift_204 rfl ?_
                  refine y_iload_n (pc2 := 206) rfl dX12_lift_205 rfl ?_
                  refine y_iload (pc2 := 208) rfl dX12_lift_206 rfl ?_
                  obtain ⟨g33, hf⟩ := y_g hf
                  obtain ⟨r_, h27, c28, hf⟩ := y_clE hf
                  refine y_callV (As := [.int p1, .int (y_I h11 (y_P h11 p0 23) (Int32.toNatClampNeg (((5 * ((6 * (y_I h8 (y_P h8 p0 28) (Int32.toNatClampNeg p1))) + p2)) + (y_I h11 (y_P h11 p0 22) (Int32.toNatClampNeg ((6 * (y_I h8 (y_P h8 p0 28) (Int32.toNatClampNeg p1))) + p2)))) - 1)))]) (rm := rm_X12_hang) (cells := 0) (slots := 0) (pc2 := 211) rfl dX12_lift_208 n_X12_hang l_BoxYardModel_362 i_X12_hang e_X12_hang (ci := 12) rfl rfl (by decide) g33 rfl rfl (by decide) (by decide) (by decide) (k_X12_hang c28) ?_
                  refine y_aload_n (x := p0) (pc2 := 212) rfl dX12_lift_211 rfl ?_
                  obtain ⟨g32, hf⟩ := y_g hf
                  obtain ⟨r29, h30, c31, hf⟩ := y_clE hf
                  refine y_callV (As := []) (rm := rm_X12_done) (cells := 0) (slots := 0) (pc2 := 215) rfl dX12_lift_212 n_X12_done l_BoxYardModel_359 i_X12_done e_X12_done (ci := 12) rfl rfl (by decide) g32 rfl rfl (by decide) (by decide) (by decide) (k_X12_done c31) ?_
                  exact y_iretF hf dX12_lift_215 rfl (by decide) (by decide)
                · replace hf := y_ie c41 hf
                  refine y_aload_n (x := p0) (pc2 := 177) rfl dX12_lift_176 rfl ?_
                  refine y_iload_n (pc2 := 178) rfl dX12_lift_177 rfl ?_
                  refine y_bipush (v := 9) (pc2 := 180) rfl dX12_lift_178 (by decide) ?_
                  obtain ⟨g40, hf⟩ := y_g hf
                  obtain ⟨r37, h38, c39, hf⟩ := y_clE hf
                  refine y_callV (As := [.int p1, .int 9]) (rm := rm_X12_breaks) (cells := 0) (slots := 0) (pc2 := 183) rfl dX12_lift_180 n_X12_breaks l_BoxYardModel_351 i_X12_breaks e_X12_breaks (ci := 12) rfl rfl (by decide) g40 rfl rfl (by decide) (by decide) (by decide) (k_X12_breaks c39) ?_
                  exact y_iretF hf dX12_lift_183 rfl (by decide) (by decide)
              · replace hf := y_ie c48 hf
                refine y_aload_n (x := p0) (pc2 := 155) rfl dX12_lift_154 rfl ?_
                refine y_iload_n (pc2 := 156) rfl dX12_lift_155 rfl ?_
                refine y_bipush (v := 8) (pc2 := 158) rfl dX12_lift_156 (by decide) ?_
                obtain ⟨g47, hf⟩ := y_g hf
                obtain ⟨r44, h45, c46, hf⟩ := y_clE hf
                refine y_callV (As := [.int p1, .int 8]) (rm := rm_X12_breaks) (cells := 0) (slots := 0) (pc2 := 161) rfl dX12_lift_158 n_X12_breaks l_BoxYardModel_351 i_X12_breaks e_X12_breaks (ci := 12) rfl rfl (by decide) g47 rfl rfl (by decide) (by decide) (by decide) (k_X12_breaks c46) ?_
                exact y_iretF hf dX12_lift_161 rfl (by decide) (by decide)
            · replace hf := y_it c60 hf
              refine y_aload_n (x := p0) (pc2 := 109) rfl dX12_lift_108 rfl ?_
              refine y_iload_n (pc2 := 110) rfl dX12_lift_109 rfl ?_
              refine y_iconst (v := 3) (pc2 := 111) rfl dX12_lift_110 (by decide) ?_
              obtain ⟨g59, hf⟩ := y_g hf
              obtain ⟨r56, h57, c58, hf⟩ := y_clE hf
              refine y_callV (As := [.int p1, .int 3]) (rm := rm_X12_meets) (cells := 0) (slots := 0) (pc2 := 114) rfl dX12_lift_111 n_X12_meets l_BoxYardModel_366 i_X12_meets e_X12_meets (ci := 12) rfl rfl (by decide) g59 rfl rfl (by decide) (by decide) (by decide) (k_X12_meets c58) ?_
              exact y_iretF hf dX12_lift_114 rfl (by decide) (by decide)
          · replace hf := y_ie c67 hf
            refine y_aload_n (x := p0) (pc2 := 84) rfl dX12_lift_83 rfl ?_
            refine y_iload_n (pc2 := 85) rfl dX12_lift_84 rfl ?_
            refine y_iconst (v := 2) (pc2 := 86) rfl dX12_lift_85 (by decide) ?_
            obtain ⟨g66, hf⟩ := y_g hf
            obtain ⟨r63, h64, c65, hf⟩ := y_clE hf
            refine y_callV (As := [.int p1, .int 2]) (rm := rm_X12_meets) (cells := 0) (slots := 0) (pc2 := 89) rfl dX12_lift_86 n_X12_meets l_BoxYardModel_366 i_X12_meets e_X12_meets (ci := 12) rfl rfl (by decide) g66 rfl rfl (by decide) (by decide) (by decide) (k_X12_meets c65) ?_
            exact y_iretF hf dX12_lift_89 rfl (by decide) (by decide)
        · replace hf := y_ie c73 hf
          refine y_aload_n (x := p0) (pc2 := 68) rfl dX12_lift_67 rfl ?_
          refine y_iload_n (pc2 := 69) rfl dX12_lift_68 rfl ?_
          refine y_iconst (v := 1) (pc2 := 70) rfl dX12_lift_69 (by decide) ?_
          obtain ⟨g72, hf⟩ := y_g hf
          obtain ⟨r69, h70, c71, hf⟩ := y_clE hf
          refine y_callV (As := [.int p1, .int 1]) (rm := rm_X12_meets) (cells := 0) (slots := 0) (pc2 := 73) rfl dX12_lift_70 n_X12_meets l_BoxYardModel_366 i_X12_meets e_X12_meets (ci := 12) rfl rfl (by decide) g72 rfl rfl (by decide) (by decide) (by decide) (k_X12_meets c71) ?_
          exact y_iretF hf dX12_lift_73 rfl (by decide) (by decide)
      · replace hf := y_it c82 hf
        refine y_aload_n (x := p0) (pc2 := 44) rfl dX12_lift_43 rfl ?_
        refine y_iload_n (pc2 := 45) rfl dX12_lift_44 rfl ?_
        refine y_bipush (v := 6) (pc2 := 47) rfl dX12_lift_45 (by decide) ?_
        obtain ⟨g81, hf⟩ := y_g hf
        obtain ⟨r78, h79, c80, hf⟩ := y_clE hf
        refine y_callV (As := [.int p1, .int 6]) (rm := rm_X12_breaks) (cells := 0) (slots := 0) (pc2 := 50) rfl dX12_lift_47 n_X12_breaks l_BoxYardModel_351 i_X12_breaks e_X12_breaks (ci := 12) rfl rfl (by decide) g81 rfl rfl (by decide) (by decide) (by decide) (k_X12_breaks c80) ?_
        exact y_iretF hf dX12_lift_50 rfl (by decide) (by decide)
    · replace hf := y_ie c88 hf
      refine y_aload_n (x := p0) (pc2 := 29) rfl dX12_lift_28 rfl ?_
      refine y_bipush (v := (-3 : Int32)) (pc2 := 31) rfl dX12_lift_29 (by decide) ?_
      obtain ⟨g87, hf⟩ := y_g hf
      obtain ⟨r84, h85, c86, hf⟩ := y_clE hf
      refine y_callV (As := [.int (-3 : Int32)]) (rm := rm_X12_refused) (cells := 0) (slots := 0) (pc2 := 34) rfl dX12_lift_31 n_X12_refused l_BoxYardModel_345 i_X12_refused e_X12_refused (ci := 12) rfl rfl (by decide) g87 rfl rfl (by decide) (by decide) (by decide) (k_X12_refused c86) ?_
      exact y_iretF hf dX12_lift_34 rfl (by decide) (by decide)
  · replace hf := y_ie c95 hf
    refine y_aload_n (x := p0) (pc2 := 14) rfl dX12_lift_13 rfl ?_
    refine y_iconst (v := (-1 : Int32)) (pc2 := 15) rfl dX12_lift_14 (by decide) ?_
    obtain ⟨g94, hf⟩ := y_g hf
    obtain ⟨r91, h92, c93, hf⟩ := y_clE hf
    refine y_callV (As := [.int (-1 : Int32)]) (rm := rm_X12_refused) (cells := 0) (slots := 0) (pc2 := 18) rfl dX12_lift_15 n_X12_refused l_BoxYardModel_345 i_X12_refused e_X12_refused (ci := 12) rfl rfl (by decide) g94 rfl rfl (by decide) (by decide) (by decide) (k_X12_refused c93) ?_
    exact y_iretF hf dX12_lift_18 rfl (by decide) (by decide)
theorem dX12_isOpen_0 : decode cX12_isOpen 0 = .ok (.aload_n 0, 1) := by decide +kernel
theorem dX12_isOpen_1 : decode cX12_isOpen 1 = .ok (.getfield 7, 3) := by decide +kernel
theorem dX12_isOpen_4 : decode cX12_isOpen 4 = .ok (.iload_n 1, 1) := by decide +kernel
theorem dX12_isOpen_5 : decode cX12_isOpen 5 = .ok (.iaload, 1) := by decide +kernel
theorem dX12_isOpen_6 : decode cX12_isOpen 6 = .ok (.iconst 3, 1) := by decide +kernel
theorem dX12_isOpen_7 : decode cX12_isOpen 7 = .ok (.if_icmp .eq 13, 3) := by decide +kernel
theorem dX12_isOpen_10 : decode cX12_isOpen 10 = .ok (.aload_n 0, 1) := by decide +kernel
theorem dX12_isOpen_11 : decode cX12_isOpen 11 = .ok (.getfield 7, 3) := by decide +kernel
theorem dX12_isOpen_14 : decode cX12_isOpen 14 = .ok (.iload_n 1, 1) := by decide +kernel
theorem dX12_isOpen_15 : decode cX12_isOpen 15 = .ok (.iaload, 1) := by decide +kernel
theorem dX12_isOpen_16 : decode cX12_isOpen 16 = .ok (.iconst 4, 1) := by decide +kernel
theorem dX12_isOpen_17 : decode cX12_isOpen 17 = .ok (.if_icmp .ne 7, 3) := by decide +kernel
theorem dX12_isOpen_20 : decode cX12_isOpen 20 = .ok (.iconst 1, 1) := by decide +kernel
theorem dX12_isOpen_21 : decode cX12_isOpen 21 = .ok (.goto 4, 3) := by decide +kernel
theorem dX12_isOpen_24 : decode cX12_isOpen 24 = .ok (.iconst 0, 1) := by decide +kernel
theorem dX12_isOpen_25 : decode cX12_isOpen 25 = .ok (.ireturn, 1) := by decide +kernel
def M_X12_isOpen : y_M := (yX12_isOpen, cX12_isOpen, 2, (Option.some Jvm.ClassFile.FieldType.boolean))
theorem n_X12_isOpen : y_N0 M_X12_isOpen 1 := ⟨(c_9 114 (by decide +kernel) rfl), (c_1 9 (by decide +kernel) rfl), ⟨by decide +kernel, by decide +kernel⟩, by decide +kernel⟩
set_option maxRecDepth 100000 in
def f_X12_isOpen (p0 : Nat) (p1 : Int32) (h : y_H) : Option (Bool × y_H) :=
  if y_K h p0 = 13 then
  if y_K h (y_P h p0 1) = 100 ∧ y_ix p1 (y_N h (y_P h p0 1)) = true then
  y_jn (fun (h1 : y_H) => (
      some (true, h1) : Option (Bool × y_H))) (fun j20 =>
  if (y_I h (y_P h p0 1) (Int32.toNatClampNeg p1)) = 3 then
    j20 h
  else
    if y_K h p0 = 13 then
    if y_K h (y_P h p0 1) = 100 ∧ y_ix p1 (y_N h (y_P h p0 1)) = true then
    if (y_I h (y_P h p0 1) (Int32.toNatClampNeg p1)) = 4 then
      j20 h
    else
      some (false, h)
    else none
    else none)
  else none
  else none
abbrev rm_X12_isOpen : Room := { frames := 0, cells := 0, slots := 0, locals := 0 }
set_option maxRecDepth 100000 in
set_option maxHeartbeats 4000000 in
theorem k_X12_isOpen {l : Launch} {G : y_G} {p0 : Nat} {p1 : Int32} {h hz : y_H} {rz : Bool} (hf : f_X12_isOpen p0 p1 h = some (rz, hz)) : y_S l G M_X12_isOpen rm_X12_isOpen [y_p p0, .int p1] h (some (.int (y_z rz))) hz := by
  refine y_start (lv := [(0, y_p p0), (1, .int p1)]) (by decide) (by simp [lg_sl, y_p_cat, y_ci, y_cj, M_X12_isOpen]) (by simp [lv_args, y_p_cat, y_ci, y_cj]) (fun z ad0 => ?_)
  unfold f_X12_isOpen at hf
  refine y_aload_n (x := p0) (pc2 := 1) rfl dX12_isOpen_0 rfl ?_
  obtain ⟨g7, hf⟩ := y_g hf
  refine y_getP (pc2 := 4) rfl dX12_isOpen_1 F_BoxYardModel_7 (by decide) rfl g7 ?_
  refine y_iload_n (pc2 := 5) rfl dX12_isOpen_4 rfl ?_
  obtain ⟨g6, hf⟩ := y_g hf
  refine y_iald (pc2 := 6) rfl dX12_isOpen_5 g6.1 (y_ix_in g6.2) ?_
  refine y_iconst (v := 3) (pc2 := 7) rfl dX12_isOpen_6 (by decide) ?_
  refine y_jnE hf (fun j => ∀ (h1 : y_H), j h1 = some (rz, hz) → y_V l G z rm_X12_isOpen M_X12_isOpen ad0 h (some (.int (y_z rz))) hz 20 [] [] h1 0 0) (fun h1 hf => ?_) (fun j20 hj20 hf => ?_)
  · refine y_iconst (v := 1) (pc2 := 21) rfl dX12_isOpen_20 (by decide) ?_
    refine y_goto (tgt := 25) dX12_isOpen_21 (by decide) ?_
    exact y_zretF (x := true) hf dX12_isOpen_25 rfl (by decide) (by decide)
  · refine y_icmp_eq (tgt := 20) (pc2 := 10) rfl dX12_isOpen_7 (by decide) (fun c5 => ?_) (fun c5 => ?_)
    · replace hf := y_it c5 hf
      exact y_pk [] rfl (hj20 _ hf)
    · replace hf := y_ie c5 hf
      refine y_aload_n (x := p0) (pc2 := 11) rfl dX12_isOpen_10 rfl ?_
      obtain ⟨g4, hf⟩ := y_g hf
      refine y_getP (pc2 := 14) rfl dX12_isOpen_11 F_BoxYardModel_7 (by decide) rfl g4 ?_
      refine y_iload_n (pc2 := 15) rfl dX12_isOpen_14 rfl ?_
      obtain ⟨g3, hf⟩ := y_g hf
      refine y_iald (pc2 := 16) rfl dX12_isOpen_15 g3.1 (y_ix_in g3.2) ?_
      refine y_iconst (v := 4) (pc2 := 17) rfl dX12_isOpen_16 (by decide) ?_
      refine y_icmp_ne (tgt := 24) (pc2 := 20) rfl dX12_isOpen_17 (by decide) (fun c2 => ?_) (fun c2 => ?_)
      · replace hf := y_ie c2 hf
        refine y_iconst (v := 0) (pc2 := 25) rfl dX12_isOpen_24 (by decide) ?_
        exact y_zretF (x := false) hf dX12_isOpen_25 rfl (by decide) (by decide)
      · replace hf := y_it c2 hf
        exact y_pk [] rfl (hj20 _ hf)
theorem dX12_goesInto_0 : decode cX12_goesInto 0 = .ok (.iload_n 0, 1) := by decide +kernel
theorem dX12_goesInto_1 : decode cX12_goesInto 1 = .ok (.ifCond .eq 38, 3) := by decide +kernel
theorem dX12_goesInto_4 : decode cX12_goesInto 4 = .ok (.iload_n 0, 1) := by decide +kernel
theorem dX12_goesInto_5 : decode cX12_goesInto 5 = .ok (.iconst 1, 1) := by decide +kernel
theorem dX12_goesInto_6 : decode cX12_goesInto 6 = .ok (.if_icmp .ne 8, 3) := by decide +kernel
theorem dX12_goesInto_9 : decode cX12_goesInto 9 = .ok (.iload_n 1, 1) := by decide +kernel
theorem dX12_goesInto_10 : decode cX12_goesInto 10 = .ok (.iconst 1, 1) := by decide +kernel
theorem dX12_goesInto_11 : decode cX12_goesInto 11 = .ok (.if_icmp .eq 28, 3) := by decide +kernel
theorem dX12_goesInto_14 : decode cX12_goesInto 14 = .ok (.iload_n 0, 1) := by decide +kernel
theorem dX12_goesInto_15 : decode cX12_goesInto 15 = .ok (.iconst 2, 1) := by decide +kernel
theorem dX12_goesInto_16 : decode cX12_goesInto 16 = .ok (.if_icmp .ne 8, 3) := by decide +kernel
theorem dX12_goesInto_19 : decode cX12_goesInto 19 = .ok (.iload_n 1, 1) := by decide +kernel
theorem dX12_goesInto_20 : decode cX12_goesInto 20 = .ok (.iconst 5, 1) := by decide +kernel
theorem dX12_goesInto_21 : decode cX12_goesInto 21 = .ok (.if_icmp .eq 18, 3) := by decide +kernel
theorem dX12_goesInto_24 : decode cX12_goesInto 24 = .ok (.iload_n 0, 1) := by decide +kernel
theorem dX12_goesInto_25 : decode cX12_goesInto 25 = .ok (.iconst 3, 1) := by decide +kernel
theorem dX12_goesInto_26 : decode cX12_goesInto 26 = .ok (.if_icmp .ne 17, 3) := by decide +kernel
theorem dX12_goesInto_29 : decode cX12_goesInto 29 = .ok (.iload_n 1, 1) := by decide +kernel
theorem dX12_goesInto_30 : decode cX12_goesInto 30 = .ok (.iconst 3, 1) := by decide +kernel
theorem dX12_goesInto_31 : decode cX12_goesInto 31 = .ok (.if_icmp .eq 12, 3) := by decide +kernel
theorem dX12_goesInto_34 : decode cX12_goesInto 34 = .ok (.iload_n 1, 1) := by decide +kernel
theorem dX12_goesInto_35 : decode cX12_goesInto 35 = .ok (.iconst 4, 1) := by decide +kernel
theorem dX12_goesInto_36 : decode cX12_goesInto 36 = .ok (.if_icmp .eq 7, 3) := by decide +kernel
theorem dX12_goesInto_39 : decode cX12_goesInto 39 = .ok (.iconst 1, 1) := by decide +kernel
theorem dX12_goesInto_40 : decode cX12_goesInto 40 = .ok (.goto 4, 3) := by decide +kernel
theorem dX12_goesInto_43 : decode cX12_goesInto 43 = .ok (.iconst 0, 1) := by decide +kernel
theorem dX12_goesInto_44 : decode cX12_goesInto 44 = .ok (.ireturn, 1) := by decide +kernel
def M_X12_goesInto : y_M := (yX12_goesInto, cX12_goesInto, 2, (Option.some Jvm.ClassFile.FieldType.boolean))
theorem n_X12_goesInto : y_N0 M_X12_goesInto 2 := ⟨(c_9 117 (by decide +kernel) rfl), (c_1 9 (by decide +kernel) rfl), ⟨by decide +kernel, by decide +kernel⟩, by decide +kernel⟩
set_option maxRecDepth 100000 in
def f_X12_goesInto (p0 : Int32) (p1 : Int32) (h : y_H) : Option (Bool × y_H) :=
  y_jn (fun (h1 : y_H) => (
      some (true, h1) : Option (Bool × y_H))) (fun j39 =>
  if p0 = 0 then
    j39 h
  else
    y_jn (fun (v0_14 : Int32) (v1_14 : Int32) (h2 : y_H) => (
        y_jn (fun (v0_24 : Int32) (v1_24 : Int32) (h3 : y_H) => (
            y_jn (fun (h4 : y_H) => (
                some (false, h4) : Option (Bool × y_H))) (fun j43 =>
            if v0_24 = 3 then
              if v1_24 = 3 then
                j43 h3
              else
                if v1_24 = 4 then
                  j43 h3
                else
                  j39 h3
            else
              j43 h3) : Option (Bool × y_H))) (fun j24 =>
        if v0_14 = 2 then
          if v1_14 = 5 then
            j39 h2
          else
            j24 v0_14 v1_14 h2
        else
          j24 v0_14 v1_14 h2) : Option (Bool × y_H))) (fun j14 =>
    if p0 = 1 then
      if p1 = 1 then
        j39 h
      else
        j14 p0 p1 h
    else
      j14 p0 p1 h))
abbrev rm_X12_goesInto : Room := { frames := 0, cells := 0, slots := 0, locals := 0 }
set_option maxRecDepth 100000 in
set_option maxHeartbeats 4000000 in
theorem k_X12_goesInto {l : Launch} {G : y_G} {p0 : Int32} {p1 : Int32} {h hz : y_H} {rz : Bool} (hf : f_X12_goesInto p0 p1 h = some (rz, hz)) : y_S l G M_X12_goesInto rm_X12_goesInto [.int p0, .int p1] h (some (.int (y_z rz))) hz := by
  refine y_start (lv := [(0, .int p0), (1, .int p1)]) (by decide) (by simp [lg_sl, y_p_cat, y_ci, y_cj, M_X12_goesInto]) (by simp [lv_args, y_p_cat, y_ci, y_cj]) (fun z ad0 => ?_)
  unfold f_X12_goesInto at hf
  refine y_iload_n (pc2 := 1) rfl dX12_goesInto_0 rfl ?_
  refine y_jnE hf (fun j => ∀ (h1 : y_H), j h1 = some (rz, hz) → y_V l G z rm_X12_goesInto M_X12_goesInto ad0 h (some (.int (y_z rz))) hz 39 [] [] h1 0 0) (fun h1 hf => ?_) (fun j39 hj39 hf => ?_)
  · refine y_iconst (v := 1) (pc2 := 40) rfl dX12_goesInto_39 (by decide) ?_
    refine y_goto (tgt := 44) dX12_goesInto_40 (by decide) ?_
    exact y_zretF (x := true) hf dX12_goesInto_44 rfl (by decide) (by decide)
  · refine y_if_eq (tgt := 39) (pc2 := 4) rfl dX12_goesInto_1 (by decide) (fun c12 => ?_) (fun c12 => ?_)
    · replace hf := y_it c12 hf
      exact y_pk [] rfl (hj39 _ hf)
    · replace hf := y_ie c12 hf
      refine y_iload_n (pc2 := 5) rfl dX12_goesInto_4 rfl ?_
      refine y_iconst (v := 1) (pc2 := 6) rfl dX12_goesInto_5 (by decide) ?_
      refine y_jnE hf (fun j => ∀ (v0_14 : Int32) (v1_14 : Int32) (h2 : y_H), j v0_14 v1_14 h2 = some (rz, hz) → y_V l G z rm_X12_goesInto M_X12_goesInto ad0 h (some (.int (y_z rz))) hz 14 [(0, .int v0_14), (1, .int v1_14)] [] h2 0 0) (fun v0_14 v1_14 h2 hf => ?_) (fun j14 hj14 hf => ?_)
      · refine y_iload_n (pc2 := 15) rfl dX12_goesInto_14 rfl ?_
        refine y_iconst (v := 2) (pc2 := 16) rfl dX12_goesInto_15 (by decide) ?_
        refine y_jnE hf (fun j => ∀ (v0_24 : Int32) (v1_24 : Int32) (h3 : y_H), j v0_24 v1_24 h3 = some (rz, hz) → y_V l G z rm_X12_goesInto M_X12_goesInto ad0 h (some (.int (y_z rz))) hz 24 [(0, .int v0_24), (1, .int v1_24)] [] h3 0 0) (fun v0_24 v1_24 h3 hf => ?_) (fun j24 hj24 hf => ?_)
        · refine y_iload_n (pc2 := 25) rfl dX12_goesInto_24 rfl ?_
          refine y_iconst (v := 3) (pc2 := 26) rfl dX12_goesInto_25 (by decide) ?_
          refine y_jnE hf (fun j => ∀ (h4 : y_H), j h4 = some (rz, hz) → y_V l G z rm_X12_goesInto M_X12_goesInto ad0 h (some (.int (y_z rz))) hz 43 [] [] h4 0 0) (fun h4 hf => ?_) (fun j43 hj43 hf => ?_)
          · refine y_iconst (v := 0) (pc2 := 44) rfl dX12_goesInto_43 (by decide) ?_
            exact y_zretF (x := false) hf dX12_goesInto_44 rfl (by decide) (by decide)
          · refine y_icmp_ne (tgt := 43) (pc2 := 29) rfl dX12_goesInto_26 (by decide) (fun c7 => ?_) (fun c7 => ?_)
            · replace hf := y_ie c7 hf
              exact y_pk [] rfl (hj43 _ hf)
            · replace hf := y_it c7 hf
              refine y_iload_n (pc2 := 30) rfl dX12_goesInto_29 rfl ?_
              refine y_iconst (v := 3) (pc2 := 31) rfl dX12_goesInto_30 (by decide) ?_
              refine y_icmp_eq (tgt := 43) (pc2 := 34) rfl dX12_goesInto_31 (by decide) (fun c6 => ?_) (fun c6 => ?_)
              · replace hf := y_it c6 hf
                exact y_pk [] rfl (hj43 _ hf)
              · replace hf := y_ie c6 hf
                refine y_iload_n (pc2 := 35) rfl dX12_goesInto_34 rfl ?_
                refine y_iconst (v := 4) (pc2 := 36) rfl dX12_goesInto_35 (by decide) ?_
                refine y_icmp_eq (tgt := 43) (pc2 := 39) rfl dX12_goesInto_36 (by decide) (fun c5 => ?_) (fun c5 => ?_)
                · replace hf := y_it c5 hf
                  exact y_pk [] rfl (hj43 _ hf)
                · replace hf := y_ie c5 hf
                  exact y_pk [] rfl (hj39 _ hf)
        · refine y_icmp_ne (tgt := 24) (pc2 := 19) rfl dX12_goesInto_16 (by decide) (fun c9 => ?_) (fun c9 => ?_)
          · replace hf := y_ie c9 hf
            exact y_pk [0, 1] rfl (hj24 _ _ _ hf)
          · replace hf := y_it c9 hf
            refine y_iload_n (pc2 := 20) rfl dX12_goesInto_19 rfl ?_
            refine y_iconst (v := 5) (pc2 := 21) rfl dX12_goesInto_20 (by decide) ?_
            refine y_icmp_eq (tgt := 39) (pc2 := 24) rfl dX12_goesInto_21 (by decide) (fun c8 => ?_) (fun c8 => ?_)
            · replace hf := y_it c8 hf
              exact y_pk [] rfl (hj39 _ hf)
            · replace hf := y_ie c8 hf
              exact y_pk [0, 1] rfl (hj24 _ _ _ hf)
      · refine y_icmp_ne (tgt := 14) (pc2 := 9) rfl dX12_goesInto_6 (by decide) (fun c11 => ?_) (fun c11 => ?_)
        · replace hf := y_ie c11 hf
          exact y_pk [0, 1] rfl (hj14 _ _ _ hf)
        · replace hf := y_it c11 hf
          refine y_iload_n (pc2 := 10) rfl dX12_goesInto_9 rfl ?_
          refine y_iconst (v := 1) (pc2 := 11) rfl dX12_goesInto_10 (by decide) ?_
          refine y_icmp_eq (tgt := 39) (pc2 := 14) rfl dX12_goesInto_11 (by decide) (fun c10 => ?_) (fun c10 => ?_)
          · replace hf := y_it c10 hf
            exact y_pk [] rfl (hj39 _ hf)
          · replace hf := y_ie c10 hf
            exact y_pk [0, 1] rfl (hj14 _ _ _ hf)
theorem dX12_ruleOf_0 : decode cX12_ruleOf 0 = .ok (.bipush 6, 2) := by decide +kernel
theorem dX12_ruleOf_2 : decode cX12_ruleOf 2 = .ok (.iload_n 1, 1) := by decide +kernel
theorem dX12_ruleOf_3 : decode cX12_ruleOf 3 = .ok (.imul, 1) := by decide +kernel
theorem dX12_ruleOf_4 : decode cX12_ruleOf 4 = .ok (.iload_n 2, 1) := by decide +kernel
theorem dX12_ruleOf_5 : decode cX12_ruleOf 5 = .ok (.iadd, 1) := by decide +kernel
theorem dX12_ruleOf_6 : decode cX12_ruleOf 6 = .ok (.istore 4, 2) := by decide +kernel
theorem dX12_ruleOf_8 : decode cX12_ruleOf 8 = .ok (.aload_n 0, 1) := by decide +kernel
theorem dX12_ruleOf_9 : decode cX12_ruleOf 9 = .ok (.getfield 71, 3) := by decide +kernel
theorem dX12_ruleOf_12 : decode cX12_ruleOf 12 = .ok (.iload 4, 2) := by decide +kernel
theorem dX12_ruleOf_14 : decode cX12_ruleOf 14 = .ok (.iaload, 1) := by decide +kernel
theorem dX12_ruleOf_15 : decode cX12_ruleOf 15 = .ok (.istore 5, 2) := by decide +kernel
theorem dX12_ruleOf_17 : decode cX12_ruleOf 17 = .ok (.iload 5, 2) := by decide +kernel
theorem dX12_ruleOf_19 : decode cX12_ruleOf 19 = .ok (.ifCond .le 20, 3) := by decide +kernel
theorem dX12_ruleOf_22 : decode cX12_ruleOf 22 = .ok (.aload_n 0, 1) := by decide +kernel
theorem dX12_ruleOf_23 : decode cX12_ruleOf 23 = .ok (.getfield 74, 3) := by decide +kernel
theorem dX12_ruleOf_26 : decode cX12_ruleOf 26 = .ok (.iconst 5, 1) := by decide +kernel
theorem dX12_ruleOf_27 : decode cX12_ruleOf 27 = .ok (.iload 4, 2) := by decide +kernel
theorem dX12_ruleOf_29 : decode cX12_ruleOf 29 = .ok (.imul, 1) := by decide +kernel
theorem dX12_ruleOf_30 : decode cX12_ruleOf 30 = .ok (.iload 5, 2) := by decide +kernel
theorem dX12_ruleOf_32 : decode cX12_ruleOf 32 = .ok (.iadd, 1) := by decide +kernel
theorem dX12_ruleOf_33 : decode cX12_ruleOf 33 = .ok (.iconst 1, 1) := by decide +kernel
theorem dX12_ruleOf_34 : decode cX12_ruleOf 34 = .ok (.isub, 1) := by decide +kernel
theorem dX12_ruleOf_35 : decode cX12_ruleOf 35 = .ok (.iaload, 1) := by decide +kernel
theorem dX12_ruleOf_36 : decode cX12_ruleOf 36 = .ok (.goto 4, 3) := by decide +kernel
theorem dX12_ruleOf_39 : decode cX12_ruleOf 39 = .ok (.iconst (-1), 1) := by decide +kernel
theorem dX12_ruleOf_40 : decode cX12_ruleOf 40 = .ok (.istore 6, 2) := by decide +kernel
theorem dX12_ruleOf_42 : decode cX12_ruleOf 42 = .ok (.iload 6, 2) := by decide +kernel
theorem dX12_ruleOf_44 : decode cX12_ruleOf 44 = .ok (.ifCond .lt 35, 3) := by decide +kernel
theorem dX12_ruleOf_47 : decode cX12_ruleOf 47 = .ok (.aload_n 0, 1) := by decide +kernel
theorem dX12_ruleOf_48 : decode cX12_ruleOf 48 = .ok (.iload 6, 2) := by decide +kernel
theorem dX12_ruleOf_50 : decode cX12_ruleOf 50 = .ok (.invokevirtual 372, 3) := by decide +kernel
theorem dX12_ruleOf_53 : decode cX12_ruleOf 53 = .ok (.ifCond .ne 24, 3) := by decide +kernel
theorem dX12_ruleOf_56 : decode cX12_ruleOf 56 = .ok (.aload_n 0, 1) := by decide +kernel
theorem dX12_ruleOf_57 : decode cX12_ruleOf 57 = .ok (.getfield 7, 3) := by decide +kernel
theorem dX12_ruleOf_60 : decode cX12_ruleOf 60 = .ok (.iload 6, 2) := by decide +kernel
theorem dX12_ruleOf_62 : decode cX12_ruleOf 62 = .ok (.iaload, 1) := by decide +kernel
theorem dX12_ruleOf_63 : decode cX12_ruleOf 63 = .ok (.iconst 5, 1) := by decide +kernel
theorem dX12_ruleOf_64 : decode cX12_ruleOf 64 = .ok (.if_icmp .ne 15, 3) := by decide +kernel
theorem dX12_ruleOf_67 : decode cX12_ruleOf 67 = .ok (.aload_n 0, 1) := by decide +kernel
theorem dX12_ruleOf_68 : decode cX12_ruleOf 68 = .ok (.getfield 7, 3) := by decide +kernel
theorem dX12_ruleOf_71 : decode cX12_ruleOf 71 = .ok (.iload_n 3, 1) := by decide +kernel
theorem dX12_ruleOf_72 : decode cX12_ruleOf 72 = .ok (.iaload, 1) := by decide +kernel
theorem dX12_ruleOf_73 : decode cX12_ruleOf 73 = .ok (.iconst 5, 1) := by decide +kernel
theorem dX12_ruleOf_74 : decode cX12_ruleOf 74 = .ok (.if_icmp .eq 5, 3) := by decide +kernel
theorem dX12_ruleOf_77 : decode cX12_ruleOf 77 = .ok (.iconst 1, 1) := by decide +kernel
theorem dX12_ruleOf_78 : decode cX12_ruleOf 78 = .ok (.ireturn, 1) := by decide +kernel
theorem dX12_ruleOf_79 : decode cX12_ruleOf 79 = .ok (.iconst 0, 1) := by decide +kernel
theorem dX12_ruleOf_80 : decode cX12_ruleOf 80 = .ok (.istore 7, 2) := by decide +kernel
theorem dX12_ruleOf_82 : decode cX12_ruleOf 82 = .ok (.iload 7, 2) := by decide +kernel
theorem dX12_ruleOf_84 : decode cX12_ruleOf 84 = .ok (.iload 5, 2) := by decide +kernel
theorem dX12_ruleOf_86 : decode cX12_ruleOf 86 = .ok (.if_icmp .ge 79, 3) := by decide +kernel
theorem dX12_ruleOf_89 : decode cX12_ruleOf 89 = .ok (.aload_n 0, 1) := by decide +kernel
theorem dX12_ruleOf_90 : decode cX12_ruleOf 90 = .ok (.iload_n 3, 1) := by decide +kernel
theorem dX12_ruleOf_91 : decode cX12_ruleOf 91 = .ok (.invokevirtual 290, 3) := by decide +kernel
theorem dX12_ruleOf_94 : decode cX12_ruleOf 94 = .ok (.istore 8, 2) := by decide +kernel
theorem dX12_ruleOf_96 : decode cX12_ruleOf 96 = .ok (.iload 7, 2) := by decide +kernel
theorem dX12_ruleOf_98 : decode cX12_ruleOf 98 = .ok (.iconst 1, 1) := by decide +kernel
theorem dX12_ruleOf_99 : decode cX12_ruleOf 99 = .ok (.iadd, 1) := by decide +kernel
theorem dX12_ruleOf_100 : decode cX12_ruleOf 100 = .ok (.istore 9, 2) := by decide +kernel
theorem dX12_ruleOf_102 : decode cX12_ruleOf 102 = .ok (.iload 9, 2) := by decide +kernel
theorem dX12_ruleOf_104 : decode cX12_ruleOf 104 = .ok (.iload 5, 2) := by decide +kernel
theorem dX12_ruleOf_106 : decode cX12_ruleOf 106 = .ok (.if_icmp .ge 30, 3) := by decide +kernel
theorem dX12_ruleOf_109 : decode cX12_ruleOf 109 = .ok (.iload 8, 2) := by decide +kernel
theorem dX12_ruleOf_111 : decode cX12_ruleOf 111 = .ok (.aload_n 0, 1) := by decide +kernel
theorem dX12_ruleOf_112 : decode cX12_ruleOf 112 = .ok (.aload_n 0, 1) := by decide +kernel
theorem dX12_ruleOf_113 : decode cX12_ruleOf 113 = .ok (.getfield 74, 3) := by decide +kernel
theorem dX12_ruleOf_116 : decode cX12_ruleOf 116 = .ok (.iconst 5, 1) := by decide +kernel
theorem dX12_ruleOf_117 : decode cX12_ruleOf 117 = .ok (.iload 4, 2) := by decide +kernel
theorem dX12_ruleOf_119 : decode cX12_ruleOf 119 = .ok (.imul, 1) := by decide +kernel
theorem dX12_ruleOf_120 : decode cX12_ruleOf 120 = .ok (.iload 9, 2) := by decide +kernel
theorem dX12_ruleOf_122 : decode cX12_ruleOf 122 = .ok (.iadd, 1) := by decide +kernel
theorem dX12_ruleOf_123 : decode cX12_ruleOf 123 = .ok (.iaload, 1) := by decide +kernel
theorem dX12_ruleOf_124 : decode cX12_ruleOf 124 = .ok (.invokevirtual 290, 3) := by decide +kernel
theorem dX12_ruleOf_127 : decode cX12_ruleOf 127 = .ok (.iadd, 1) := by decide +kernel
theorem dX12_ruleOf_128 : decode cX12_ruleOf 128 = .ok (.istore 8, 2) := by decide +kernel
theorem dX12_ruleOf_130 : decode cX12_ruleOf 130 = .ok (.iinc 9 1, 3) := by decide +kernel
theorem dX12_ruleOf_133 : decode cX12_ruleOf 133 = .ok (.goto (-31), 3) := by decide +kernel
theorem dX12_ruleOf_136 : decode cX12_ruleOf 136 = .ok (.iload 8, 2) := by decide +kernel
theorem dX12_ruleOf_138 : decode cX12_ruleOf 138 = .ok (.aload_n 0, 1) := by decide +kernel
theorem dX12_ruleOf_139 : decode cX12_ruleOf 139 = .ok (.aload_n 0, 1) := by decide +kernel
theorem dX12_ruleOf_140 : decode cX12_ruleOf 140 = .ok (.getfield 74, 3) := by decide +kernel
theorem dX12_ruleOf_143 : decode cX12_ruleOf 143 = .ok (.iconst 5, 1) := by decide +kernel
theorem dX12_ruleOf_144 : decode cX12_ruleOf 144 = .ok (.iload 4, 2) := by decide +kernel
theorem dX12_ruleOf_146 : decode cX12_ruleOf 146 = .ok (.imul, 1) := by decide +kernel
theorem dX12_ruleOf_147 : decode cX12_ruleOf 147 = .ok (.iload 7, 2) := by decide +kernel
theorem dX12_ruleOf_149 : decode cX12_ruleOf 149 = .ok (.iadd, 1) := by decide +kernel
theorem dX12_ruleOf_150 : decode cX12_ruleOf 150 = .ok (.iaload, 1) := by decide +kernel
theorem dX12_ruleOf_151 : decode cX12_ruleOf 151 = .ok (.invokevirtual 304, 3) := by decide +kernel
theorem dX12_ruleOf_154 : decode cX12_ruleOf 154 = .ok (.if_icmp .le 5, 3) := by decide +kernel
theorem dX12_ruleOf_157 : decode cX12_ruleOf 157 = .ok (.iconst 2, 1) := by decide +kernel
theorem dX12_ruleOf_158 : decode cX12_ruleOf 158 = .ok (.ireturn, 1) := by decide +kernel
theorem dX12_ruleOf_159 : decode cX12_ruleOf 159 = .ok (.iinc 7 1, 3) := by decide +kernel
theorem dX12_ruleOf_162 : decode cX12_ruleOf 162 = .ok (.goto (-80), 3) := by decide +kernel
theorem dX12_ruleOf_165 : decode cX12_ruleOf 165 = .ok (.aload_n 0, 1) := by decide +kernel
theorem dX12_ruleOf_166 : decode cX12_ruleOf 166 = .ok (.getfield 7, 3) := by decide +kernel
theorem dX12_ruleOf_169 : decode cX12_ruleOf 169 = .ok (.iload_n 3, 1) := by decide +kernel
theorem dX12_ruleOf_170 : decode cX12_ruleOf 170 = .ok (.iaload, 1) := by decide +kernel
theorem dX12_ruleOf_171 : decode cX12_ruleOf 171 = .ok (.iconst 1, 1) := by decide +kernel
theorem dX12_ruleOf_172 : decode cX12_ruleOf 172 = .ok (.if_icmp .ne 17, 3) := by decide +kernel
theorem dX12_ruleOf_175 : decode cX12_ruleOf 175 = .ok (.iload 5, 2) := by decide +kernel
theorem dX12_ruleOf_177 : decode cX12_ruleOf 177 = .ok (.aload_n 0, 1) := by decide +kernel
theorem dX12_ruleOf_178 : decode cX12_ruleOf 178 = .ok (.getfield 68, 3) := by decide +kernel
theorem dX12_ruleOf_181 : decode cX12_ruleOf 181 = .ok (.iload 4, 2) := by decide +kernel
theorem dX12_ruleOf_183 : decode cX12_ruleOf 183 = .ok (.iaload, 1) := by decide +kernel
theorem dX12_ruleOf_184 : decode cX12_ruleOf 184 = .ok (.if_icmp .lt 5, 3) := by decide +kernel
theorem dX12_ruleOf_187 : decode cX12_ruleOf 187 = .ok (.iconst 3, 1) := by decide +kernel
theorem dX12_ruleOf_188 : decode cX12_ruleOf 188 = .ok (.ireturn, 1) := by decide +kernel
theorem dX12_ruleOf_189 : decode cX12_ruleOf 189 = .ok (.iconst 0, 1) := by decide +kernel
theorem dX12_ruleOf_190 : decode cX12_ruleOf 190 = .ok (.istore 7, 2) := by decide +kernel
theorem dX12_ruleOf_192 : decode cX12_ruleOf 192 = .ok (.iload 7, 2) := by decide +kernel
theorem dX12_ruleOf_194 : decode cX12_ruleOf 194 = .ok (.aload_n 0, 1) := by decide +kernel
theorem dX12_ruleOf_195 : decode cX12_ruleOf 195 = .ok (.getfield 234, 3) := by decide +kernel
theorem dX12_ruleOf_198 : decode cX12_ruleOf 198 = .ok (.if_icmp .ge 112, 3) := by decide +kernel
theorem dX12_ruleOf_201 : decode cX12_ruleOf 201 = .ok (.aload_n 0, 1) := by decide +kernel
theorem dX12_ruleOf_202 : decode cX12_ruleOf 202 = .ok (.getfield 29, 3) := by decide +kernel
theorem dX12_ruleOf_205 : decode cX12_ruleOf 205 = .ok (.iload 7, 2) := by decide +kernel
theorem dX12_ruleOf_207 : decode cX12_ruleOf 207 = .ok (.iaload, 1) := by decide +kernel
theorem dX12_ruleOf_208 : decode cX12_ruleOf 208 = .ok (.iconst 1, 1) := by decide +kernel
theorem dX12_ruleOf_209 : decode cX12_ruleOf 209 = .ok (.if_icmp .ne 95, 3) := by decide +kernel
theorem dX12_ruleOf_212 : decode cX12_ruleOf 212 = .ok (.aload_n 0, 1) := by decide +kernel
theorem dX12_ruleOf_213 : decode cX12_ruleOf 213 = .ok (.getfield 32, 3) := by decide +kernel
theorem dX12_ruleOf_216 : decode cX12_ruleOf 216 = .ok (.iload 7, 2) := by decide +kernel
theorem dX12_ruleOf_218 : decode cX12_ruleOf 218 = .ok (.iaload, 1) := by decide +kernel
theorem dX12_ruleOf_219 : decode cX12_ruleOf 219 = .ok (.iload_n 1, 1) := by decide +kernel
theorem dX12_ruleOf_220 : decode cX12_ruleOf 220 = .ok (.if_icmp .ne 84, 3) := by decide +kernel
theorem dX12_ruleOf_223 : decode cX12_ruleOf 223 = .ok (.aload_n 0, 1) := by decide +kernel
theorem dX12_ruleOf_224 : decode cX12_ruleOf 224 = .ok (.getfield 19, 3) := by decide +kernel
theorem dX12_ruleOf_227 : decode cX12_ruleOf 227 = .ok (.iload 7, 2) := by decide +kernel
theorem dX12_ruleOf_229 : decode cX12_ruleOf 229 = .ok (.iaload, 1) := by decide +kernel
theorem dX12_ruleOf_230 : decode cX12_ruleOf 230 = .ok (.ifCond .le 74, 3) := by decide +kernel
theorem dX12_ruleOf_233 : decode cX12_ruleOf 233 = .ok (.aload_n 0, 1) := by decide +kernel
theorem dX12_ruleOf_234 : decode cX12_ruleOf 234 = .ok (.getfield 19, 3) := by decide +kernel
theorem dX12_ruleOf_237 : decode cX12_ruleOf 237 = .ok (.iload_n 3, 1) := by decide +kernel
theorem dX12_ruleOf_238 : decode cX12_ruleOf 238 = .ok (.iaload, 1) := by decide +kernel
theorem dX12_ruleOf_239 : decode cX12_ruleOf 239 = .ok (.ifCond .le 65, 3) := by decide +kernel
theorem dX12_ruleOf_242 : decode cX12_ruleOf 242 = .ok (.aload_n 0, 1) := by decide +kernel
theorem dX12_ruleOf_243 : decode cX12_ruleOf 243 = .ok (.getfield 35, 3) := by decide +kernel
theorem dX12_ruleOf_246 : decode cX12_ruleOf 246 = .ok (.iload 7, 2) := by decide +kernel
theorem dX12_ruleOf_248 : decode cX12_ruleOf 248 = .ok (.iaload, 1) := by decide +kernel
theorem dX12_ruleOf_249 : decode cX12_ruleOf 249 = .ok (.iload_n 2, 1) := by decide +kernel
theorem dX12_ruleOf_250 : decode cX12_ruleOf 250 = .ok (.if_icmp .le 15, 3) := by decide +kernel
theorem dX12_ruleOf_253 : decode cX12_ruleOf 253 = .ok (.aload_n 0, 1) := by decide +kernel
theorem dX12_ruleOf_254 : decode cX12_ruleOf 254 = .ok (.getfield 35, 3) := by decide +kernel
theorem dX12_ruleOf_257 : decode cX12_ruleOf 257 = .ok (.iload 7, 2) := by decide +kernel
theorem dX12_ruleOf_259 : decode cX12_ruleOf 259 = .ok (.iaload, 1) := by decide +kernel
theorem dX12_ruleOf_260 : decode cX12_ruleOf 260 = .ok (.iload_n 2, 1) := by decide +kernel
theorem dX12_ruleOf_261 : decode cX12_ruleOf 261 = .ok (.isub, 1) := by decide +kernel
theorem dX12_ruleOf_262 : decode cX12_ruleOf 262 = .ok (.goto 12, 3) := by decide +kernel
theorem dX12_ruleOf_265 : decode cX12_ruleOf 265 = .ok (.iload_n 2, 1) := by decide +kernel
theorem dX12_ruleOf_266 : decode cX12_ruleOf 266 = .ok (.aload_n 0, 1) := by decide +kernel
theorem dX12_ruleOf_267 : decode cX12_ruleOf 267 = .ok (.getfield 35, 3) := by decide +kernel
theorem dX12_ruleOf_270 : decode cX12_ruleOf 270 = .ok (.iload 7, 2) := by decide +kernel
theorem dX12_ruleOf_272 : decode cX12_ruleOf 272 = .ok (.iaload, 1) := by decide +kernel
theorem dX12_ruleOf_273 : decode cX12_ruleOf 273 = .ok (.isub, 1) := by decide +kernel
theorem dX12_ruleOf_274 : decode cX12_ruleOf 274 = .ok (.istore 8, 2) := by decide +kernel
theorem dX12_ruleOf_276 : decode cX12_ruleOf 276 = .ok (.iload 8, 2) := by decide +kernel
theorem dX12_ruleOf_278 : decode cX12_ruleOf 278 = .ok (.aload_n 0, 1) := by decide +kernel
theorem dX12_ruleOf_279 : decode cX12_ruleOf 279 = .ok (.getfield 77, 3) := by decide +kernel
theorem dX12_ruleOf_282 : decode cX12_ruleOf 282 = .ok (.iconst 5, 1) := by decide +kernel
theorem dX12_ruleOf_283 : decode cX12_ruleOf 283 = .ok (.aload_n 0, 1) := by decide +kernel
theorem dX12_ruleOf_284 : decode cX12_ruleOf 284 = .ok (.getfield 19, 3) := by decide +kernel
theorem dX12_ruleOf_287 : decode cX12_ruleOf 287 = .ok (.iload 7, 2) := by decide +kernel
theorem dX12_ruleOf_289 : decode cX12_ruleOf 289 = .ok (.iaload, 1) := by decide +kernel
theorem dX12_ruleOf_290 : decode cX12_ruleOf 290 = .ok (.imul, 1) := by decide +kernel
theorem dX12_ruleOf_291 : decode cX12_ruleOf 291 = .ok (.aload_n 0, 1) := by decide +kernel
theorem dX12_ruleOf_292 : decode cX12_ruleOf 292 = .ok (.getfield 19, 3) := by decide +kernel
theorem dX12_ruleOf_295 : decode cX12_ruleOf 295 = .ok (.iload_n 3, 1) := by decide +kernel
theorem dX12_ruleOf_296 : decode cX12_ruleOf 296 = .ok (.iaload, 1) := by decide +kernel
theorem dX12_ruleOf_297 : decode cX12_ruleOf 297 = .ok (.iadd, 1) := by decide +kernel
theorem dX12_ruleOf_298 : decode cX12_ruleOf 298 = .ok (.iaload, 1) := by decide +kernel
theorem dX12_ruleOf_299 : decode cX12_ruleOf 299 = .ok (.if_icmp .ge 5, 3) := by decide +kernel
theorem dX12_ruleOf_302 : decode cX12_ruleOf 302 = .ok (.iconst 4, 1) := by decide +kernel
theorem dX12_ruleOf_303 : decode cX12_ruleOf 303 = .ok (.ireturn, 1) := by decide +kernel
theorem dX12_ruleOf_304 : decode cX12_ruleOf 304 = .ok (.iinc 7 1, 3) := by decide +kernel
theorem dX12_ruleOf_307 : decode cX12_ruleOf 307 = .ok (.goto (-115), 3) := by decide +kernel
theorem dX12_ruleOf_310 : decode cX12_ruleOf 310 = .ok (.iconst 0, 1) := by decide +kernel
theorem dX12_ruleOf_311 : decode cX12_ruleOf 311 = .ok (.istore 7, 2) := by decide +kernel
theorem dX12_ruleOf_313 : decode cX12_ruleOf 313 = .ok (.iconst 0, 1) := by decide +kernel
theorem dX12_ruleOf_314 : decode cX12_ruleOf 314 = .ok (.istore 8, 2) := by decide +kernel
theorem dX12_ruleOf_316 : decode cX12_ruleOf 316 = .ok (.iload 8, 2) := by decide +kernel
theorem dX12_ruleOf_318 : decode cX12_ruleOf 318 = .ok (.iload 5, 2) := by decide +kernel
theorem dX12_ruleOf_320 : decode cX12_ruleOf 320 = .ok (.if_icmp .ge 30, 3) := by decide +kernel
theorem dX12_ruleOf_323 : decode cX12_ruleOf 323 = .ok (.iload 7, 2) := by decide +kernel
theorem dX12_ruleOf_325 : decode cX12_ruleOf 325 = .ok (.aload_n 0, 1) := by decide +kernel
theorem dX12_ruleOf_326 : decode cX12_ruleOf 326 = .ok (.aload_n 0, 1) := by decide +kernel
theorem dX12_ruleOf_327 : decode cX12_ruleOf 327 = .ok (.getfield 74, 3) := by decide +kernel
theorem dX12_ruleOf_330 : decode cX12_ruleOf 330 = .ok (.iconst 5, 1) := by decide +kernel
theorem dX12_ruleOf_331 : decode cX12_ruleOf 331 = .ok (.iload 4, 2) := by decide +kernel
theorem dX12_ruleOf_333 : decode cX12_ruleOf 333 = .ok (.imul, 1) := by decide +kernel
theorem dX12_ruleOf_334 : decode cX12_ruleOf 334 = .ok (.iload 8, 2) := by decide +kernel
theorem dX12_ruleOf_336 : decode cX12_ruleOf 336 = .ok (.iadd, 1) := by decide +kernel
theorem dX12_ruleOf_337 : decode cX12_ruleOf 337 = .ok (.iaload, 1) := by decide +kernel
theorem dX12_ruleOf_338 : decode cX12_ruleOf 338 = .ok (.invokevirtual 307, 3) := by decide +kernel
theorem dX12_ruleOf_341 : decode cX12_ruleOf 341 = .ok (.iadd, 1) := by decide +kernel
theorem dX12_ruleOf_342 : decode cX12_ruleOf 342 = .ok (.istore 7, 2) := by decide +kernel
theorem dX12_ruleOf_344 : decode cX12_ruleOf 344 = .ok (.iinc 8 1, 3) := by decide +kernel
theorem dX12_ruleOf_347 : decode cX12_ruleOf 347 = .ok (.goto (-31), 3) := by decide +kernel
theorem dX12_ruleOf_350 : decode cX12_ruleOf 350 = .ok (.iload 7, 2) := by decide +kernel
theorem dX12_ruleOf_352 : decode cX12_ruleOf 352 = .ok (.aload_n 0, 1) := by decide +kernel
theorem dX12_ruleOf_353 : decode cX12_ruleOf 353 = .ok (.iload_n 3, 1) := by decide +kernel
theorem dX12_ruleOf_354 : decode cX12_ruleOf 354 = .ok (.invokevirtual 307, 3) := by decide +kernel
theorem dX12_ruleOf_357 : decode cX12_ruleOf 357 = .ok (.iadd, 1) := by decide +kernel
theorem dX12_ruleOf_358 : decode cX12_ruleOf 358 = .ok (.istore 7, 2) := by decide +kernel
theorem dX12_ruleOf_360 : decode cX12_ruleOf 360 = .ok (.iload 7, 2) := by decide +kernel
theorem dX12_ruleOf_362 : decode cX12_ruleOf 362 = .ok (.iconst 2, 1) := by decide +kernel
theorem dX12_ruleOf_363 : decode cX12_ruleOf 363 = .ok (.aload_n 0, 1) := by decide +kernel
theorem dX12_ruleOf_364 : decode cX12_ruleOf 364 = .ok (.getfield 65, 3) := by decide +kernel
theorem dX12_ruleOf_367 : decode cX12_ruleOf 367 = .ok (.iload 4, 2) := by decide +kernel
theorem dX12_ruleOf_369 : decode cX12_ruleOf 369 = .ok (.iaload, 1) := by decide +kernel
theorem dX12_ruleOf_370 : decode cX12_ruleOf 370 = .ok (.imul, 1) := by decide +kernel
theorem dX12_ruleOf_371 : decode cX12_ruleOf 371 = .ok (.iconst 1, 1) := by decide +kernel
theorem dX12_ruleOf_372 : decode cX12_ruleOf 372 = .ok (.iadd, 1) := by decide +kernel
theorem dX12_ruleOf_373 : decode cX12_ruleOf 373 = .ok (.if_icmp .le 7, 3) := by decide +kernel
theorem dX12_ruleOf_376 : decode cX12_ruleOf 376 = .ok (.iconst 5, 1) := by decide +kernel
theorem dX12_ruleOf_377 : decode cX12_ruleOf 377 = .ok (.goto 4, 3) := by decide +kernel
theorem dX12_ruleOf_380 : decode cX12_ruleOf 380 = .ok (.iconst 0, 1) := by decide +kernel
theorem dX12_ruleOf_381 : decode cX12_ruleOf 381 = .ok (.ireturn, 1) := by decide +kernel
def M_X12_ruleOf : y_M := (yX12_ruleOf, cX12_ruleOf, 10, (Option.some Jvm.ClassFile.FieldType.int))
theorem n_X12_ruleOf : y_N0 M_X12_ruleOf 3 := ⟨(c_9 110 (by decide +kernel) rfl), (c_1 9 (by decide +kernel) rfl), ⟨by decide +kernel, by decide +kernel⟩, by decide +kernel⟩
theorem l_BoxYardModel_372 : y_lnk "BoxYardModel" 372 M_X12_isOpen := Or.inl (c_9 111 (by decide +kernel) rfl)
theorem i_X12_isOpen : Cond.instanceMethod (M_X12_isOpen).1 ∈ y_tb := (c_9 113 (by decide +kernel) rfl)
theorem e_X12_isOpen : Cond.selects (M_X12_isOpen).1.cls (M_X12_isOpen).1 (M_X12_isOpen).1 ∈ y_tb := (m_s 85 (by decide +kernel) rfl)
set_option maxRecDepth 100000 in
def f_X12_ruleOf (p0 : Nat) (p1 : Int32) (p2 : Int32) (p3 : Int32) (h : y_H) : Option (Int32 × y_H) :=
  if y_K h p0 = 13 then
  if y_K h (y_P h p0 22) = 100 ∧ y_ix ((6 * p1) + p2) (y_N h (y_P h p0 22)) = true then
  if (y_I h (y_P h p0 22) (Int32.toNatClampNeg ((6 * p1) + p2))) ≤ 0 then
    y_jn (fun (v0_79 : Nat) (v1_79 : Int32) (v2_79 : Int32) (v3_79 : Int32) (v4_79 : Int32) (v5_79 : Int32) (h1 : y_H) => (
        y_jl (fun (_ : Nat) (_ : Int32) (_ : Int32) (_ : Int32) (_ : Int32) (_ : Int32) (_ : Int32) (_ : y_H) => (none : Option (Int32 × y_H))) (fun j82 (v0_82 : Nat) (v1_82 : Int32) (v2_82 : Int32) (v3_82 : Int32) (v4_82 : Int32) (v5_82 : Int32) (v7_82 : Int32) (h2 : y_H) =>
            if v5_82 ≤ v7_82 then
              if y_K h2 v0_82 = 13 then
              if y_K h2 (y_P h2 v0_82 1) = 100 ∧ y_ix v3_82 (y_N h2 (y_P h2 v0_82 1)) = true then
              y_jn (fun (v0_189 : Nat) (v1_189 : Int32) (v2_189 : Int32) (v3_189 : Int32) (v4_189 : Int32) (v5_189 : Int32) (h3 : y_H) => (
                  y_jl (fun (_ : Nat) (_ : Int32) (_ : Int32) (_ : Int32) (_ : Int32) (_ : Int32) (_ : Int32) (_ : y_H) => (none : Option (Int32 × y_H))) (fun j192 (v0_192 : Nat) (v1_192 : Int32) (v2_192 : Int32) (v3_192 : Int32) (v4_192 : Int32) (v5_192 : Int32) (v7_192 : Int32) (h4 : y_H) =>
                      if y_K h4 v0_192 = 13 then
                      if (y_I h4 v0_192 0) ≤ v7_192 then
                        y_jl (fun (_ : Nat) (_ : Int32) (_ : Int32) (_ : Int32) (_ : Int32) (_ : Int32) (_ : y_H) => (none : Option (Int32 × y_H))) (fun j316 (v0_316 : Nat) (v3_316 : Int32) (v4_316 : Int32) (v5_316 : Int32) (v7_316 : Int32) (v8_316 : Int32) (h5 : y_H) =>
                            if v5_316 ≤ v8_316 then
                              if y_K h5 v0_316 = 13 then
                              y_cl (f_X12_tall v0_316 v3_316 h5) (fun r6 h7 =>
                              if y_K h7 v0_316 = 13 then
                              if y_K h7 (y_P h7 v0_316 20) = 100 ∧ y_ix v4_316 (y_N h7 (y_P h7 v0_316 20)) = true then
                              if (v7_316 + r6) ≤ ((2 * (y_I h7 (y_P h7 v0_316 20) (Int32.toNatClampNeg v4_316))) + 1) then
                                some (0, h7)
                              else
                                some (5, h7)
                              else none
                              else none)
                              else none
                            else
                              if y_K h5 v0_316 = 13 then
                              if y_K h5 (y_P h5 v0_316 23) = 100 ∧ y_ix ((5 * v4_316) + v8_316) (y_N h5 (y_P h5 v0_316 23)) = true then
                              if y_K h5 v0_316 = 13 then
                              y_cl (f_X12_tall v0_316 (y_I h5 (y_P h5 v0_316 23) (Int32.toNatClampNeg ((5 * v4_316) + v8_316))) h5) (fun r13 h14 =>
                              j316 v0_316 v3_316 v4_316 v5_316 (v7_316 + r13) (v8_316 + 1) h14)
                              else none
                              else none
                              else none) (fun j316 =>
                        j316 v0_192 v3_192 v4_192 v5_192 0 0 h4)
                      else
                        if y_K h4 v0_192 = 13 then
                        if y_K h4 (y_P h4 v0_192 7) = 100 ∧ y_ix v7_192 (y_N h4 (y_P h4 v0_192 7)) = true then
                        y_jn (fun (v0_304 : Nat) (v1_304 : Int32) (v2_304 : Int32) (v3_304 : Int32) (v4_304 : Int32) (v5_304 : Int32) (v7_304 : Int32) (h20 : y_H) => (
                            j192 v0_304 v1_304 v2_304 v3_304 v4_304 v5_304 (v7_304 + 1) h20 : Option (Int32 × y_H))) (fun j304 =>
                        if (y_I h4 (y_P h4 v0_192 7) (Int32.toNatClampNeg v7_192)) = 1 then
                          if y_K h4 v0_192 = 13 then
                          if y_K h4 (y_P h4 v0_192 8) = 100 ∧ y_ix v7_192 (y_N h4 (y_P h4 v0_192 8)) = true then
                          if (y_I h4 (y_P h4 v0_192 8) (Int32.toNatClampNeg v7_192)) = v1_192 then
                            if y_K h4 v0_192 = 13 then
                            if y_K h4 (y_P h4 v0_192 4) = 100 ∧ y_ix v7_192 (y_N h4 (y_P h4 v0_192 4)) = true then
                            if (y_I h4 (y_P h4 v0_192 4) (Int32.toNatClampNeg v7_192)) ≤ 0 then
                              j304 v0_192 v1_192 v2_192 v3_192 v4_192 v5_192 v7_192 h4
                            else
                              if y_K h4 v0_192 = 13 then
                              if y_K h4 (y_P h4 v0_192 4) = 100 ∧ y_ix v3_192 (y_N h4 (y_P h4 v0_192 4)) = true then
                              if (y_I h4 (y_P h4 v0_192 4) (Int32.toNatClampNeg v3_192)) ≤ 0 then
                                j304 v0_192 v1_192 v2_192 v3_192 v4_192 v5_192 v7_192 h4
                              else
                                if y_K h4 v0_192 = 13 then
                                if y_K h4 (y_P h4 v0_192 9) = 100 ∧ y_ix v7_192 (y_N h4 (y_P h4 v0_192 9)) = true then
                                if (y_I h4 (y_P h4 v0_192 9) (Int32.toNatClampNeg v7_192)) ≤ v2_192 then
                                  if y_K h4 v0_192 = 13 then
                                  if y_K h4 (y_P h4 v0_192 9) = 100 ∧ y_ix v7_192 (y_N h4 (y_P h4 v0_192 9)) = true then
                                  if y_K h4 v0_192 = 13 then
                                  if y_K h4 v0_192 = 13 then
                                  if y_K h4 (y_P h4 v0_192 4) = 100 ∧ y_ix v7_192 (y_N h4 (y_P h4 v0_192 4)) = true then
                                  if y_K h4 v0_192 = 13 then
                                  if y_K h4 (y_P h4 v0_192 4) = 100 ∧ y_ix v3_192 (y_N h4 (y_P h4 v0_192 4)) = true then
                                  if y_K h4 (y_P h4 v0_192 24) = 100 ∧ y_ix ((5 * (y_I h4 (y_P h4 v0_192 4) (Int32.toNatClampNeg v7_192))) + (y_I h4 (y_P h4 v0_192 4) (Int32.toNatClampNeg v3_192))) (y_N h4 (y_P h4 v0_192 24)) = true then
                                  if (y_I h4 (y_P h4 v0_192 24) (Int32.toNatClampNeg ((5 * (y_I h4 (y_P h4 v0_192 4) (Int32.toNatClampNeg v7_192))) + (y_I h4 (y_P h4 v0_192 4) (Int32.toNatClampNeg v3_192))))) ≤ (v2_192 - (y_I h4 (y_P h4 v0_192 9) (Int32.toNatClampNeg v7_192))) then
                                    j304 v0_192 v1_192 v2_192 v3_192 v4_192 v5_192 v7_192 h4
                                  else
                                    some (4, h4)
                                  else none
                                  else none
                                  else none
                                  else none
                                  else none
                                  else none
                                  else none
                                  else none
                                else
                                  if y_K h4 v0_192 = 13 then
                                  if y_K h4 (y_P h4 v0_192 9) = 100 ∧ y_ix v7_192 (y_N h4 (y_P h4 v0_192 9)) = true then
                                  if y_K h4 v0_192 = 13 then
                                  if y_K h4 v0_192 = 13 then
                                  if y_K h4 (y_P h4 v0_192 4) = 100 ∧ y_ix v7_192 (y_N h4 (y_P h4 v0_192 4)) = true then
                                  if y_K h4 v0_192 = 13 then
                                  if y_K h4 (y_P h4 v0_192 4) = 100 ∧ y_ix v3_192 (y_N h4 (y_P h4 v0_192 4)) = true then
                                  if y_K h4 (y_P h4 v0_192 24) = 100 ∧ y_ix ((5 * (y_I h4 (y_P h4 v0_192 4) (Int32.toNatClampNeg v7_192))) + (y_I h4 (y_P h4 v0_192 4) (Int32.toNatClampNeg v3_192))) (y_N h4 (y_P h4 v0_192 24)) = true then
                                  if (y_I h4 (y_P h4 v0_192 24) (Int32.toNatClampNeg ((5 * (y_I h4 (y_P h4 v0_192 4) (Int32.toNatClampNeg v7_192))) + (y_I h4 (y_P h4 v0_192 4) (Int32.toNatClampNeg v3_192))))) ≤ ((y_I h4 (y_P h4 v0_192 9) (Int32.toNatClampNeg v7_192)) - v2_192) then
                                    j304 v0_192 v1_192 v2_192 v3_192 v4_192 v5_192 v7_192 h4
                                  else
                                    some (4, h4)
                                  else none
                                  else none
                                  else none
                                  else none
                                  else none
                                  else none
                                  else none
                                  else none
                                else none
                                else none
                              else none
                              else none
                            else none
                            else none
                          else
                            j304 v0_192 v1_192 v2_192 v3_192 v4_192 v5_192 v7_192 h4
                          else none
                          else none
                        else
                          j304 v0_192 v1_192 v2_192 v3_192 v4_192 v5_192 v7_192 h4)
                        else none
                        else none
                      else none) (fun j192 =>
                  j192 v0_189 v1_189 v2_189 v3_189 v4_189 v5_189 0 h3) : Option (Int32 × y_H))) (fun j189 =>
              if (y_I h2 (y_P h2 v0_82 1) (Int32.toNatClampNeg v3_82)) = 1 then
                if y_K h2 v0_82 = 13 then
                if y_K h2 (y_P h2 v0_82 21) = 100 ∧ y_ix v4_82 (y_N h2 (y_P h2 v0_82 21)) = true then
                if v5_82 < (y_I h2 (y_P h2 v0_82 21) (Int32.toNatClampNeg v4_82)) then
                  j189 v0_82 v1_82 v2_82 v3_82 v4_82 v5_82 h2
                else
                  some (3, h2)
                else none
                else none
              else
                j189 v0_82 v1_82 v2_82 v3_82 v4_82 v5_82 h2)
              else none
              else none
            else
              if y_K h2 v0_82 = 13 then
              y_cl (f_X12_known v0_82 v3_82 h2) (fun r62 h63 =>
              y_jl (fun (_ : Nat) (_ : Int32) (_ : Int32) (_ : Int32) (_ : Int32) (_ : Int32) (_ : Int32) (_ : Int32) (_ : Int32) (_ : y_H) => (none : Option (Int32 × y_H))) (fun j102 (v0_102 : Nat) (v1_102 : Int32) (v2_102 : Int32) (v3_102 : Int32) (v4_102 : Int32) (v5_102 : Int32) (v7_102 : Int32) (v8_102 : Int32) (v9_102 : Int32) (h65 : y_H) =>
                  if v5_102 ≤ v9_102 then
                    if y_K h65 v0_102 = 13 then
                    if y_K h65 (y_P h65 v0_102 23) = 100 ∧ y_ix ((5 * v4_102) + v7_102) (y_N h65 (y_P h65 v0_102 23)) = true then
                    if y_K h65 v0_102 = 13 then
                    y_cl (f_X12_bears v0_102 (y_I h65 (y_P h65 v0_102 23) (Int32.toNatClampNeg ((5 * v4_102) + v7_102))) h65) (fun r66 h67 =>
                    if v8_102 ≤ r66 then
                      j82 v0_102 v1_102 v2_102 v3_102 v4_102 v5_102 (v7_102 + 1) h67
                    else
                      some (2, h67))
                    else none
                    else none
                    else none
                  else
                    if y_K h65 v0_102 = 13 then
                    if y_K h65 (y_P h65 v0_102 23) = 100 ∧ y_ix ((5 * v4_102) + v9_102) (y_N h65 (y_P h65 v0_102 23)) = true then
                    if y_K h65 v0_102 = 13 then
                    y_cl (f_X12_known v0_102 (y_I h65 (y_P h65 v0_102 23) (Int32.toNatClampNeg ((5 * v4_102) + v9_102))) h65) (fun r73 h74 =>
                    j102 v0_102 v1_102 v2_102 v3_102 v4_102 v5_102 v7_102 (v8_102 + r73) (v9_102 + 1) h74)
                    else none
                    else none
                    else none) (fun j102 =>
              j102 v0_82 v1_82 v2_82 v3_82 v4_82 v5_82 v7_82 r62 (v7_82 + 1) h63))
              else none) (fun j82 =>
        j82 v0_79 v1_79 v2_79 v3_79 v4_79 v5_79 0 h1) : Option (Int32 × y_H))) (fun j79 =>
    if (-1 : Int32) < 0 then
      j79 p0 p1 p2 p3 ((6 * p1) + p2) (y_I h (y_P h p0 22) (Int32.toNatClampNeg ((6 * p1) + p2))) h
    else
      if y_K h p0 = 13 then
      y_cl (f_X12_isOpen p0 (-1 : Int32) h) (fun r82 h83 =>
      y_jn (fun (h85 : y_H) => (
          some (1, h85) : Option (Int32 × y_H))) (fun j77 =>
      if r82 = true then
        j77 h83
      else
        if y_K h83 p0 = 13 then
        if y_K h83 (y_P h83 p0 1) = 100 ∧ y_ix (-1 : Int32) (y_N h83 (y_P h83 p0 1)) = true then
        if (y_I h83 (y_P h83 p0 1) (Int32.toNatClampNeg (-1 : Int32))) = 5 then
          if y_K h83 p0 = 13 then
          if y_K h83 (y_P h83 p0 1) = 100 ∧ y_ix p3 (y_N h83 (y_P h83 p0 1)) = true then
          if (y_I h83 (y_P h83 p0 1) (Int32.toNatClampNeg p3)) = 5 then
            j79 p0 p1 p2 p3 ((6 * p1) + p2) (y_I h (y_P h p0 22) (Int32.toNatClampNeg ((6 * p1) + p2))) h83
          else
            j77 h83
          else none
          else none
        else
          j79 p0 p1 p2 p3 ((6 * p1) + p2) (y_I h (y_P h p0 22) (Int32.toNatClampNeg ((6 * p1) + p2))) h83
        else none
        else none))
      else none)
  else
    if y_K h p0 = 13 then
    if y_K h (y_P h p0 23) = 100 ∧ y_ix (((5 * ((6 * p1) + p2)) + (y_I h (y_P h p0 22) (Int32.toNatClampNeg ((6 * p1) + p2)))) - 1) (y_N h (y_P h p0 23)) = true then
    y_jn (fun (v0_79 : Nat) (v1_79 : Int32) (v2_79 : Int32) (v3_79 : Int32) (v4_79 : Int32) (v5_79 : Int32) (h95 : y_H) => (
        y_jl (fun (_ : Nat) (_ : Int32) (_ : Int32) (_ : Int32) (_ : Int32) (_ : Int32) (_ : Int32) (_ : y_H) => (none : Option (Int32 × y_H))) (fun j82 (v0_82 : Nat) (v1_82 : Int32) (v2_82 : Int32) (v3_82 : Int32) (v4_82 : Int32) (v5_82 : Int32) (v7_82 : Int32) (h96 : y_H) =>
            if v5_82 ≤ v7_82 then
              if y_K h96 v0_82 = 13 then
              if y_K h96 (y_P h96 v0_82 1) = 100 ∧ y_ix v3_82 (y_N h96 (y_P h96 v0_82 1)) = true then
              y_jn (fun (v0_189 : Nat) (v1_189 : Int32) (v2_189 : Int32) (v3_189 : Int32) (v4_189 : Int32) (v5_189 : Int32) (h97 : y_H) => (
                  y_jl (fun (_ : Nat) (_ : Int32) (_ : Int32) (_ : Int32) (_ : Int32) (_ : Int32) (_ : Int32) (_ : y_H) => (none : Option (Int32 × y_H))) (fun j192 (v0_192 : Nat) (v1_192 : Int32) (v2_192 : Int32) (v3_192 : Int32) (v4_192 : Int32) (v5_192 : Int32) (v7_192 : Int32) (h98 : y_H) =>
                      if y_K h98 v0_192 = 13 then
                      if (y_I h98 v0_192 0) ≤ v7_192 then
                        y_jl (fun (_ : Nat) (_ : Int32) (_ : Int32) (_ : Int32) (_ : Int32) (_ : Int32) (_ : y_H) => (none : Option (Int32 × y_H))) (fun j316 (v0_316 : Nat) (v3_316 : Int32) (v4_316 : Int32) (v5_316 : Int32) (v7_316 : Int32) (v8_316 : Int32) (h99 : y_H) =>
                            if v5_316 ≤ v8_316 then
                              if y_K h99 v0_316 = 13 then
                              y_cl (f_X12_tall v0_316 v3_316 h99) (fun r100 h101 =>
                              if y_K h101 v0_316 = 13 then
                              if y_K h101 (y_P h101 v0_316 20) = 100 ∧ y_ix v4_316 (y_N h101 (y_P h101 v0_316 20)) = true then
                              if (v7_316 + r100) ≤ ((2 * (y_I h101 (y_P h101 v0_316 20) (Int32.toNatClampNeg v4_316))) + 1) then
                                some (0, h101)
                              else
                                some (5, h101)
                              else none
                              else none)
                              else none
                            else
                              if y_K h99 v0_316 = 13 then
                              if y_K h99 (y_P h99 v0_316 23) = 100 ∧ y_ix ((5 * v4_316) + v8_316) (y_N h99 (y_P h99 v0_316 23)) = true then
                              if y_K h99 v0_316 = 13 then
                              y_cl (f_X12_tall v0_316 (y_I h99 (y_P h99 v0_316 23) (Int32.toNatClampNeg ((5 * v4_316) + v8_316))) h99) (fun r107 h108 =>
                              j316 v0_316 v3_316 v4_316 v5_316 (v7_316 + r107) (v8_316 + 1) h108)
                              else none
                              else none
                              else none) (fun j316 =>
                        j316 v0_192 v3_192 v4_192 v5_192 0 0 h98)
                      else
                        if y_K h98 v0_192 = 13 then
                        if y_K h98 (y_P h98 v0_192 7) = 100 ∧ y_ix v7_192 (y_N h98 (y_P h98 v0_192 7)) = true then
                        y_jn (fun (v0_304 : Nat) (v1_304 : Int32) (v2_304 : Int32) (v3_304 : Int32) (v4_304 : Int32) (v5_304 : Int32) (v7_304 : Int32) (h114 : y_H) => (
                            j192 v0_304 v1_304 v2_304 v3_304 v4_304 v5_304 (v7_304 + 1) h114 : Option (Int32 × y_H))) (fun j304 =>
                        if (y_I h98 (y_P h98 v0_192 7) (Int32.toNatClampNeg v7_192)) = 1 then
                          if y_K h98 v0_192 = 13 then
                          if y_K h98 (y_P h98 v0_192 8) = 100 ∧ y_ix v7_192 (y_N h98 (y_P h98 v0_192 8)) = true then
                          if (y_I h98 (y_P h98 v0_192 8) (Int32.toNatClampNeg v7_192)) = v1_192 then
                            if y_K h98 v0_192 = 13 then
                            if y_K h98 (y_P h98 v0_192 4) = 100 ∧ y_ix v7_192 (y_N h98 (y_P h98 v0_192 4)) = true then
                            if (y_I h98 (y_P h98 v0_192 4) (Int32.toNatClampNeg v7_192)) ≤ 0 then
                              j304 v0_192 v1_192 v2_192 v3_192 v4_192 v5_192 v7_192 h98
                            else
                              if y_K h98 v0_192 = 13 then
                              if y_K h98 (y_P h98 v0_192 4) = 100 ∧ y_ix v3_192 (y_N h98 (y_P h98 v0_192 4)) = true then
                              if (y_I h98 (y_P h98 v0_192 4) (Int32.toNatClampNeg v3_192)) ≤ 0 then
                                j304 v0_192 v1_192 v2_192 v3_192 v4_192 v5_192 v7_192 h98
                              else
                                if y_K h98 v0_192 = 13 then
                                if y_K h98 (y_P h98 v0_192 9) = 100 ∧ y_ix v7_192 (y_N h98 (y_P h98 v0_192 9)) = true then
                                if (y_I h98 (y_P h98 v0_192 9) (Int32.toNatClampNeg v7_192)) ≤ v2_192 then
                                  if y_K h98 v0_192 = 13 then
                                  if y_K h98 (y_P h98 v0_192 9) = 100 ∧ y_ix v7_192 (y_N h98 (y_P h98 v0_192 9)) = true then
                                  if y_K h98 v0_192 = 13 then
                                  if y_K h98 v0_192 = 13 then
                                  if y_K h98 (y_P h98 v0_192 4) = 100 ∧ y_ix v7_192 (y_N h98 (y_P h98 v0_192 4)) = true then
                                  if y_K h98 v0_192 = 13 then
                                  if y_K h98 (y_P h98 v0_192 4) = 100 ∧ y_ix v3_192 (y_N h98 (y_P h98 v0_192 4)) = true then
                                  if y_K h98 (y_P h98 v0_192 24) = 100 ∧ y_ix ((5 * (y_I h98 (y_P h98 v0_192 4) (Int32.toNatClampNeg v7_192))) + (y_I h98 (y_P h98 v0_192 4) (Int32.toNatClampNeg v3_192))) (y_N h98 (y_P h98 v0_192 24)) = true then
                                  if (y_I h98 (y_P h98 v0_192 24) (Int32.toNatClampNeg ((5 * (y_I h98 (y_P h98 v0_192 4) (Int32.toNatClampNeg v7_192))) + (y_I h98 (y_P h98 v0_192 4) (Int32.toNatClampNeg v3_192))))) ≤ (v2_192 - (y_I h98 (y_P h98 v0_192 9) (Int32.toNatClampNeg v7_192))) then
                                    j304 v0_192 v1_192 v2_192 v3_192 v4_192 v5_192 v7_192 h98
                                  else
                                    some (4, h98)
                                  else none
                                  else none
                                  else none
                                  else none
                                  else none
                                  else none
                                  else none
                                  else none
                                else
                                  if y_K h98 v0_192 = 13 then
                                  if y_K h98 (y_P h98 v0_192 9) = 100 ∧ y_ix v7_192 (y_N h98 (y_P h98 v0_192 9)) = true then
                                  if y_K h98 v0_192 = 13 then
                                  if y_K h98 v0_192 = 13 then
                                  if y_K h98 (y_P h98 v0_192 4) = 100 ∧ y_ix v7_192 (y_N h98 (y_P h98 v0_192 4)) = true then
                                  if y_K h98 v0_192 = 13 then
                                  if y_K h98 (y_P h98 v0_192 4) = 100 ∧ y_ix v3_192 (y_N h98 (y_P h98 v0_192 4)) = true then
                                  if y_K h98 (y_P h98 v0_192 24) = 100 ∧ y_ix ((5 * (y_I h98 (y_P h98 v0_192 4) (Int32.toNatClampNeg v7_192))) + (y_I h98 (y_P h98 v0_192 4) (Int32.toNatClampNeg v3_192))) (y_N h98 (y_P h98 v0_192 24)) = true then
                                  if (y_I h98 (y_P h98 v0_192 24) (Int32.toNatClampNeg ((5 * (y_I h98 (y_P h98 v0_192 4) (Int32.toNatClampNeg v7_192))) + (y_I h98 (y_P h98 v0_192 4) (Int32.toNatClampNeg v3_192))))) ≤ ((y_I h98 (y_P h98 v0_192 9) (Int32.toNatClampNeg v7_192)) - v2_192) then
                                    j304 v0_192 v1_192 v2_192 v3_192 v4_192 v5_192 v7_192 h98
                                  else
                                    some (4, h98)
                                  else none
                                  else none
                                  else none
                                  else none
                                  else none
                                  else none
                                  else none
                                  else none
                                else none
                                else none
                              else none
                              else none
                            else none
                            else none
                          else
                            j304 v0_192 v1_192 v2_192 v3_192 v4_192 v5_192 v7_192 h98
                          else none
                          else none
                        else
                          j304 v0_192 v1_192 v2_192 v3_192 v4_192 v5_192 v7_192 h98)
                        else none
                        else none
                      else none) (fun j192 =>
                  j192 v0_189 v1_189 v2_189 v3_189 v4_189 v5_189 0 h97) : Option (Int32 × y_H))) (fun j189 =>
              if (y_I h96 (y_P h96 v0_82 1) (Int32.toNatClampNeg v3_82)) = 1 then
                if y_K h96 v0_82 = 13 then
                if y_K h96 (y_P h96 v0_82 21) = 100 ∧ y_ix v4_82 (y_N h96 (y_P h96 v0_82 21)) = true then
                if v5_82 < (y_I h96 (y_P h96 v0_82 21) (Int32.toNatClampNeg v4_82)) then
                  j189 v0_82 v1_82 v2_82 v3_82 v4_82 v5_82 h96
                else
                  some (3, h96)
                else none
                else none
              else
                j189 v0_82 v1_82 v2_82 v3_82 v4_82 v5_82 h96)
              else none
              else none
            else
              if y_K h96 v0_82 = 13 then
              y_cl (f_X12_known v0_82 v3_82 h96) (fun r156 h157 =>
              y_jl (fun (_ : Nat) (_ : Int32) (_ : Int32) (_ : Int32) (_ : Int32) (_ : Int32) (_ : Int32) (_ : Int32) (_ : Int32) (_ : y_H) => (none : Option (Int32 × y_H))) (fun j102 (v0_102 : Nat) (v1_102 : Int32) (v2_102 : Int32) (v3_102 : Int32) (v4_102 : Int32) (v5_102 : Int32) (v7_102 : Int32) (v8_102 : Int32) (v9_102 : Int32) (h159 : y_H) =>
                  if v5_102 ≤ v9_102 then
                    if y_K h159 v0_102 = 13 then
                    if y_K h159 (y_P h159 v0_102 23) = 100 ∧ y_ix ((5 * v4_102) + v7_102) (y_N h159 (y_P h159 v0_102 23)) = true then
                    if y_K h159 v0_102 = 13 then
                    y_cl (f_X12_bears v0_102 (y_I h159 (y_P h159 v0_102 23) (Int32.toNatClampNeg ((5 * v4_102) + v7_102))) h159) (fun r160 h161 =>
                    if v8_102 ≤ r160 then
                      j82 v0_102 v1_102 v2_102 v3_102 v4_102 v5_102 (v7_102 + 1) h161
                    else
                      some (2, h161))
                    else none
                    else none
                    else none
                  else
                    if y_K h159 v0_102 = 13 then
                    if y_K h159 (y_P h159 v0_102 23) = 100 ∧ y_ix ((5 * v4_102) + v9_102) (y_N h159 (y_P h159 v0_102 23)) = true then
                    if y_K h159 v0_102 = 13 then
                    y_cl (f_X12_known v0_102 (y_I h159 (y_P h159 v0_102 23) (Int32.toNatClampNeg ((5 * v4_102) + v9_102))) h159) (fun r167 h168 =>
                    j102 v0_102 v1_102 v2_102 v3_102 v4_102 v5_102 v7_102 (v8_102 + r167) (v9_102 + 1) h168)
                    else none
                    else none
                    else none) (fun j102 =>
              j102 v0_82 v1_82 v2_82 v3_82 v4_82 v5_82 v7_82 r156 (v7_82 + 1) h157))
              else none) (fun j82 =>
        j82 v0_79 v1_79 v2_79 v3_79 v4_79 v5_79 0 h95) : Option (Int32 × y_H))) (fun j79 =>
    if (y_I h (y_P h p0 23) (Int32.toNatClampNeg (((5 * ((6 * p1) + p2)) + (y_I h (y_P h p0 22) (Int32.toNatClampNeg ((6 * p1) + p2)))) - 1))) < 0 then
      j79 p0 p1 p2 p3 ((6 * p1) + p2) (y_I h (y_P h p0 22) (Int32.toNatClampNeg ((6 * p1) + p2))) h
    else
      if y_K h p0 = 13 then
      y_cl (f_X12_isOpen p0 (y_I h (y_P h p0 23) (Int32.toNatClampNeg (((5 * ((6 * p1) + p2)) + (y_I h (y_P h p0 22) (Int32.toNatClampNeg ((6 * p1) + p2)))) - 1))) h) (fun r176 h177 =>
      y_jn (fun (h179 : y_H) => (
          some (1, h179) : Option (Int32 × y_H))) (fun j77 =>
      if r176 = true then
        j77 h177
      else
        if y_K h177 p0 = 13 then
        if y_K h177 (y_P h177 p0 1) = 100 ∧ y_ix (y_I h (y_P h p0 23) (Int32.toNatClampNeg (((5 * ((6 * p1) + p2)) + (y_I h (y_P h p0 22) (Int32.toNatClampNeg ((6 * p1) + p2)))) - 1))) (y_N h177 (y_P h177 p0 1)) = true then
        if (y_I h177 (y_P h177 p0 1) (Int32.toNatClampNeg (y_I h (y_P h p0 23) (Int32.toNatClampNeg (((5 * ((6 * p1) + p2)) + (y_I h (y_P h p0 22) (Int32.toNatClampNeg ((6 * p1) + p2)))) - 1))))) = 5 then
          if y_K h177 p0 = 13 then
          if y_K h177 (y_P h177 p0 1) = 100 ∧ y_ix p3 (y_N h177 (y_P h177 p0 1)) = true then
          if (y_I h177 (y_P h177 p0 1) (Int32.toNatClampNeg p3)) = 5 then
            j79 p0 p1 p2 p3 ((6 * p1) + p2) (y_I h (y_P h p0 22) (Int32.toNatClampNeg ((6 * p1) + p2))) h177
          else
            j77 h177
          else none
          else none
        else
          j79 p0 p1 p2 p3 ((6 * p1) + p2) (y_I h (y_P h p0 22) (Int32.toNatClampNeg ((6 * p1) + p2))) h177
        else none
        else none))
      else none)
    else none
    else none
  else none
  else none
abbrev rm_X12_ruleOf : Room := { frames := 2, cells := 0, slots := 0, locals := 43 }
set_option maxRecDepth 100000 in
set_option maxHeartbeats 4000000 in
theorem k_X12_ruleOf {l : Launch} {G : y_G} {p0 : Nat} {p1 : Int32} {p2 : Int32} {p3 : Int32} {h hz : y_H} {rz : Int32} (hf : f_X12_ruleOf p0 p1 p2 p3 h = some (rz, hz)) : y_S l G M_X12_ruleOf rm_X12_ruleOf [y_p p0, .int p1, .int p2, .int p3] h (some (.int rz)) hz := by
  refine y_start (lv := [(0, y_p p0), (1, .int p1), (2, .int p2), (3, .int p3)]) (by decide) (by simp [lg_sl, y_p_cat, y_ci, y_cj, M_X12_ruleOf]) (by simp [lv_args, y_p_cat, y_ci, y_cj]) (fun z ad0 => ?_)
  unfold f_X12_ruleOf at hf
  refine y_bipush (v := 6) (pc2 := 2) rfl dX12_ruleOf_0 (by decide) ?_
  refine y_iload_n (pc2 := 3) rfl dX12_ruleOf_2 rfl ?_
  refine y_imul (pc2 := 4) rfl dX12_ruleOf_3 ?_
  refine y_iload_n (pc2 := 5) rfl dX12_ruleOf_4 rfl ?_
  refine y_iadd (pc2 := 6) rfl dX12_ruleOf_5 ?_
  refine y_istore (lv' := [(4, .int ((6 * p1) + p2)), (0, y_p p0), (1, .int p1), (2, .int p2), (3, .int p3)]) (pc2 := 8) rfl dX12_ruleOf_6 (by decide) rfl ?_
  refine y_aload_n (x := p0) (pc2 := 9) rfl dX12_ruleOf_8 rfl ?_
  obtain ⟨g193, hf⟩ := y_g hf
  refine y_getP (pc2 := 12) rfl dX12_ruleOf_9 F_BoxYardModel_71 (by decide) rfl g193 ?_
  refine y_iload (pc2 := 14) rfl dX12_ruleOf_12 rfl ?_
  obtain ⟨g192, hf⟩ := y_g hf
  refine y_iald (pc2 := 15) rfl dX12_ruleOf_14 g192.1 (y_ix_in g192.2) ?_
  refine y_istore (lv' := [(5, .int (y_I h (y_P h p0 22) (Int32.toNatClampNeg ((6 * p1) + p2)))), (4, .int ((6 * p1) + p2)), (0, y_p p0), (1, .int p1), (2, .int p2), (3, .int p3)]) (pc2 := 17) rfl dX12_ruleOf_15 (by decide) rfl ?_
  refine y_iload (pc2 := 19) rfl dX12_ruleOf_17 rfl ?_
  refine y_if_le (tgt := 39) (pc2 := 22) rfl dX12_ruleOf_19 (by decide) (fun c191 => ?_) (fun c191 => ?_)
  · replace hf := y_it c191 hf
    refine y_iconst (v := (-1 : Int32)) (pc2 := 40) rfl dX12_ruleOf_39 (by decide) ?_
    refine y_istore (lv' := [(6, .int (-1 : Int32)), (5, .int (y_I h (y_P h p0 22) (Int32.toNatClampNeg ((6 * p1) + p2)))), (4, .int ((6 * p1) + p2)), (0, y_p p0), (1, .int p1), (2, .int p2), (3, .int p3)]) (pc2 := 42) rfl dX12_ruleOf_40 (by decide) rfl ?_
    refine y_iload (pc2 := 44) rfl dX12_ruleOf_42 rfl ?_
    refine y_jnE hf (fun j => ∀ (v0_79 : Nat) (v1_79 : Int32) (v2_79 : Int32) (v3_79 : Int32) (v4_79 : Int32) (v5_79 : Int32) (h1 : y_H), j v0_79 v1_79 v2_79 v3_79 v4_79 v5_79 h1 = some (rz, hz) → y_V l G z rm_X12_ruleOf M_X12_ruleOf ad0 h (some (.int rz)) hz 79 [(0, y_p v0_79), (1, .int v1_79), (2, .int v2_79), (3, .int v3_79), (4, .int v4_79), (5, .int v5_79)] [] h1 0 0) (fun v0_79 v1_79 v2_79 v3_79 v4_79 v5_79 h1 hf => ?_) (fun j79 hj79 hf => ?_)
    · refine y_iconst (v := 0) (pc2 := 80) rfl dX12_ruleOf_79 (by decide) ?_
      refine y_jlE hf (fun j => ∀ (v0_82 : Nat) (v1_82 : Int32) (v2_82 : Int32) (v3_82 : Int32) (v4_82 : Int32) (v5_82 : Int32) (v7_82 : Int32) (h2 : y_H), j v0_82 v1_82 v2_82 v3_82 v4_82 v5_82 v7_82 h2 = some (rz, hz) → y_V l G z rm_X12_ruleOf M_X12_ruleOf ad0 h (some (.int rz)) hz 82 [(0, y_p v0_82), (1, .int v1_82), (2, .int v2_82), (3, .int v3_82), (4, .int v4_82), (5, .int v5_82), (7, .int v7_82)] [] h2 0 0) (fun _ _ _ _ _ _ _ _ hf => by cases hf) (fun j82 hj82 v0_82 v1_82 v2_82 v3_82 v4_82 v5_82 v7_82 h2 hf => ?_) (fun j82 hj82 hf => ?_)
      · refine y_iload (pc2 := 84) rfl dX12_ruleOf_82 rfl ?_
        refine y_iload (pc2 := 86) rfl dX12_ruleOf_84 rfl ?_
        refine y_icmp_ge (tgt := 165) (pc2 := 89) rfl dX12_ruleOf_86 (by decide) (fun c81 => ?_) (fun c81 => ?_)
        · replace hf := y_it c81 hf
          refine y_aload_n (x := v0_82) (pc2 := 166) rfl dX12_ruleOf_165 rfl ?_
          obtain ⟨g61, hf⟩ := y_g hf
          refine y_getP (pc2 := 169) rfl dX12_ruleOf_166 F_BoxYardModel_7 (by decide) rfl g61 ?_
          refine y_iload_n (pc2 := 170) rfl dX12_ruleOf_169 rfl ?_
          obtain ⟨g60, hf⟩ := y_g hf
          refine y_iald (pc2 := 171) rfl dX12_ruleOf_170 g60.1 (y_ix_in g60.2) ?_
          refine y_iconst (v := 1) (pc2 := 172) rfl dX12_ruleOf_171 (by decide) ?_
          refine y_jnE hf (fun j => ∀ (v0_189 : Nat) (v1_189 : Int32) (v2_189 : Int32) (v3_189 : Int32) (v4_189 : Int32) (v5_189 : Int32) (h3 : y_H), j v0_189 v1_189 v2_189 v3_189 v4_189 v5_189 h3 = some (rz, hz) → y_V l G z rm_X12_ruleOf M_X12_ruleOf ad0 h (some (.int rz)) hz 189 [(0, y_p v0_189), (1, .int v1_189), (2, .int v2_189), (3, .int v3_189), (4, .int v4_189), (5, .int v5_189)] [] h3 0 0) (fun v0_189 v1_189 v2_189 v3_189 v4_189 v5_189 h3 hf => ?_) (fun j189 hj189 hf => ?_)
          · refine y_iconst (v := 0) (pc2 := 190) rfl dX12_ruleOf_189 (by decide) ?_
            refine y_jlE hf (fun j => ∀ (v0_192 : Nat) (v1_192 : Int32) (v2_192 : Int32) (v3_192 : Int32) (v4_192 : Int32) (v5_192 : Int32) (v7_192 : Int32) (h4 : y_H), j v0_192 v1_192 v2_192 v3_192 v4_192 v5_192 v7_192 h4 = some (rz, hz) → y_V l G z rm_X12_ruleOf M_X12_ruleOf ad0 h (some (.int rz)) hz 192 [(0, y_p v0_192), (1, .int v1_192), (2, .int v2_192), (3, .int v3_192), (4, .int v4_192), (5, .int v5_192), (7, .int v7_192)] [] h4 0 0) (fun _ _ _ _ _ _ _ _ hf => by cases hf) (fun j192 hj192 v0_192 v1_192 v2_192 v3_192 v4_192 v5_192 v7_192 h4 hf => ?_) (fun j192 hj192 hf => ?_)
            · refine y_iload (pc2 := 194) rfl dX12_ruleOf_192 rfl ?_
              refine y_aload_n (x := v0_192) (pc2 := 195) rfl dX12_ruleOf_194 rfl ?_
              obtain ⟨g55, hf⟩ := y_g hf
              refine y_getI (pc2 := 198) rfl dX12_ruleOf_195 F_BoxYardModel_234 (by decide) rfl g55 ?_
              refine y_icmp_ge (tgt := 310) (pc2 := 201) rfl dX12_ruleOf_198 (by decide) (fun c54 => ?_) (fun c54 => ?_)
              · replace hf := y_it c54 hf
                refine y_iconst (v := 0) (pc2 := 311) rfl dX12_ruleOf_310 (by decide) ?_
                refine y_istore (lv' := [(7, .int 0), (0, y_p v0_192), (1, .int v1_192), (2, .int v2_192), (3, .int v3_192), (4, .int v4_192), (5, .int v5_192)]) (pc2 := 313) rfl dX12_ruleOf_311 (by decide) rfl ?_
                refine y_iconst (v := 0) (pc2 := 314) rfl dX12_ruleOf_313 (by decide) ?_
                refine y_jlE hf (fun j => ∀ (v0_316 : Nat) (v3_316 : Int32) (v4_316 : Int32) (v5_316 : Int32) (v7_316 : Int32) (v8_316 : Int32) (h5 : y_H), j v0_316 v3_316 v4_316 v5_316 v7_316 v8_316 h5 = some (rz, hz) → y_V l G z rm_X12_ruleOf M_X12_ruleOf ad0 h (some (.int rz)) hz 316 [(0, y_p v0_316), (3, .int v3_316), (4, .int v4_316), (5, .int v5_316), (7, .int v7_316), (8, .int v8_316)] [] h5 0 0) (fun _ _ _ _ _ _ _ hf => by cases hf) (fun j316 hj316 v0_316 v3_316 v4_316 v5_316 v7_316 v8_316 h5 hf => ?_) (fun j316 hj316 hf => ?_)
                · refine y_iload (pc2 := 318) rfl dX12_ruleOf_316 rfl ?_
                  refine y_iload (pc2 := 320) rfl dX12_ruleOf_318 rfl ?_
                  refine y_icmp_ge (tgt := 350) (pc2 := 323) rfl dX12_ruleOf_320 (by decide) (fun c19 => ?_) (fun c19 => ?_)
                  · replace hf := y_it c19 hf
                    refine y_iload (pc2 := 352) rfl dX12_ruleOf_350 rfl ?_
                    refine y_aload_n (x := v0_316) (pc2 := 353) rfl dX12_ruleOf_352 rfl ?_
                    refine y_iload_n (pc2 := 354) rfl dX12_ruleOf_353 rfl ?_
                    obtain ⟨g12, hf⟩ := y_g hf
                    obtain ⟨r6, h7, c8, hf⟩ := y_clE hf
                    refine y_callV (As := [.int v3_316]) (rm := rm_X12_tall) (cells := 0) (slots := 0) (pc2 := 357) rfl dX12_ruleOf_354 n_X12_tall l_BoxYardModel_307 i_X12_tall e_X12_tall (ci := 12) rfl rfl (by decide) g12 rfl rfl (by decide) (by simp [y_ci, y_cj, y_p_cat]) (by decide) (k_X12_tall c8) ?_
                    refine y_iadd (pc2 := 358) rfl dX12_ruleOf_357 ?_
                    refine y_istore (lv' := [(7, .int (v7_316 + r6)), (0, y_p v0_316), (3, .int v3_316), (4, .int v4_316), (5, .int v5_316), (8, .int v8_316)]) (pc2 := 360) rfl dX12_ruleOf_358 (by decide) rfl ?_
                    refine y_iload (pc2 := 362) rfl dX12_ruleOf_360 rfl ?_
                    refine y_iconst (v := 2) (pc2 := 363) rfl dX12_ruleOf_362 (by decide) ?_
                    refine y_aload_n (x := v0_316) (pc2 := 364) rfl dX12_ruleOf_363 rfl ?_
                    obtain ⟨g11, hf⟩ := y_g hf
                    refine y_getP (pc2 := 367) rfl dX12_ruleOf_364 F_BoxYardModel_65 (by decide) rfl g11 ?_
                    refine y_iload (pc2 := 369) rfl dX12_ruleOf_367 rfl ?_
                    obtain ⟨g10, hf⟩ := y_g hf
                    refine y_iald (pc2 := 370) rfl dX12_ruleOf_369 g10.1 (y_ix_in g10.2) ?_
                    refine y_imul (pc2 := 371) rfl dX12_ruleOf_370 ?_
                    refine y_iconst (v := 1) (pc2 := 372) rfl dX12_ruleOf_371 (by decide) ?_
                    refine y_iadd (pc2 := 373) rfl dX12_ruleOf_372 ?_
                    refine y_icmp_le (tgt := 380) (pc2 := 376) rfl dX12_ruleOf_373 (by decide) (fun c9 => ?_) (fun c9 => ?_)
                    · replace hf := y_it c9 hf
                      refine y_iconst (v := 0) (pc2 := 381) rfl dX12_ruleOf_380 (by decide) ?_
                      exact y_iretF hf dX12_ruleOf_381 rfl (by decide) (by decide)
                    · replace hf := y_ie c9 hf
                      refine y_iconst (v := 5) (pc2 := 377) rfl dX12_ruleOf_376 (by decide) ?_
                      refine y_goto (tgt := 381) dX12_ruleOf_377 (by decide) ?_
                      exact y_iretF hf dX12_ruleOf_381 rfl (by decide) (by decide)
                  · replace hf := y_ie c19 hf
                    refine y_iload (pc2 := 325) rfl dX12_ruleOf_323 rfl ?_
                    refine y_aload_n (x := v0_316) (pc2 := 326) rfl dX12_ruleOf_325 rfl ?_
                    refine y_aload_n (x := v0_316) (pc2 := 327) rfl dX12_ruleOf_326 rfl ?_
                    obtain ⟨g18, hf⟩ := y_g hf
                    refine y_getP (pc2 := 330) rfl dX12_ruleOf_327 F_BoxYardModel_74 (by decide) rfl g18 ?_
                    refine y_iconst (v := 5) (pc2 := 331) rfl dX12_ruleOf_330 (by decide) ?_
                    refine y_iload (pc2 := 333) rfl dX12_ruleOf_331 rfl ?_
                    refine y_imul (pc2 := 334) rfl dX12_ruleOf_333 ?_
                    refine y_iload (pc2 := 336) rfl dX12_ruleOf_334 rfl ?_
                    refine y_iadd (pc2 := 337) rfl dX12_ruleOf_336 ?_
                    obtain ⟨g17, hf⟩ := y_g hf
                    refine y_iald (pc2 := 338) rfl dX12_ruleOf_337 g17.1 (y_ix_in g17.2) ?_
                    obtain ⟨g16, hf⟩ := y_g hf
                    obtain ⟨r13, h14, c15, hf⟩ := y_clE hf
                    refine y_callV (As := [.int (y_I h5 (y_P h5 v0_316 23) (Int32.toNatClampNeg ((5 * v4_316) + v8_316)))]) (rm := rm_X12_tall) (cells := 0) (slots := 0) (pc2 := 341) rfl dX12_ruleOf_338 n_X12_tall l_BoxYardModel_307 i_X12_tall e_X12_tall (ci := 12) rfl rfl (by decide) g16 rfl rfl (by decide) (by simp [y_ci, y_cj, y_p_cat]) (by decide) (k_X12_tall c15) ?_
                    refine y_iadd (pc2 := 342) rfl dX12_ruleOf_341 ?_
                    refine y_istore (lv' := [(7, .int (v7_316 + r13)), (0, y_p v0_316), (3, .int v3_316), (4, .int v4_316), (5, .int v5_316), (8, .int v8_316)]) (pc2 := 344) rfl dX12_ruleOf_342 (by decide) rfl ?_
                    refine y_iinc (v := v8_316 + 1) (lv' := [(8, .int (v8_316 + 1)), (7, .int (v7_316 + r13)), (0, y_p v0_316), (3, .int v3_316), (4, .int v4_316), (5, .int v5_316)]) (pc2 := 347) rfl dX12_ruleOf_344 rfl rfl (by decide) rfl ?_
                    refine y_goto (tgt := 316) dX12_ruleOf_347 (by decide) ?_
                    exact y_pk [2, 3, 4, 5, 1, 0] rfl (hj316 _ _ _ _ _ _ _ hf)
                · refine y_istore (lv' := [(8, .int 0), (7, .int 0), (0, y_p v0_192), (1, .int v1_192), (2, .int v2_192), (3, .int v3_192), (4, .int v4_192), (5, .int v5_192)]) (pc2 := 316) rfl dX12_ruleOf_314 (by decide) rfl ?_
                  exact y_pk [2, 5, 6, 7, 1, 0] rfl (hj316 _ _ _ _ _ _ _ hf)
              · replace hf := y_ie c54 hf
                refine y_aload_n (x := v0_192) (pc2 := 202) rfl dX12_ruleOf_201 rfl ?_
                obtain ⟨g53, hf⟩ := y_g hf
                refine y_getP (pc2 := 205) rfl dX12_ruleOf_202 F_BoxYardModel_29 (by decide) rfl g53 ?_
                refine y_iload (pc2 := 207) rfl dX12_ruleOf_205 rfl ?_
                obtain ⟨g52, hf⟩ := y_g hf
                refine y_iald (pc2 := 208) rfl dX12_ruleOf_207 g52.1 (y_ix_in g52.2) ?_
                refine y_iconst (v := 1) (pc2 := 209) rfl dX12_ruleOf_208 (by decide) ?_
                refine y_jnE hf (fun j => ∀ (v0_304 : Nat) (v1_304 : Int32) (v2_304 : Int32) (v3_304 : Int32) (v4_304 : Int32) (v5_304 : Int32) (v7_304 : Int32) (h20 : y_H), j v0_304 v1_304 v2_304 v3_304 v4_304 v5_304 v7_304 h20 = some (rz, hz) → y_V l G z rm_X12_ruleOf M_X12_ruleOf ad0 h (some (.int rz)) hz 304 [(0, y_p v0_304), (1, .int v1_304), (2, .int v2_304), (3, .int v3_304), (4, .int v4_304), (5, .int v5_304), (7, .int v7_304)] [] h20 0 0) (fun v0_304 v1_304 v2_304 v3_304 v4_304 v5_304 v7_304 h20 hf => ?_) (fun j304 hj304 hf => ?_)
                · refine y_iinc (v := v7_304 + 1) (lv' := [(7, .int (v7_304 + 1)), (0, y_p v0_304), (1, .int v1_304), (2, .int v2_304), (3, .int v3_304), (4, .int v4_304), (5, .int v5_304)]) (pc2 := 307) rfl dX12_ruleOf_304 rfl rfl (by decide) rfl ?_
                  refine y_goto (tgt := 192) dX12_ruleOf_307 (by decide) ?_
                  exact y_pk [1, 2, 3, 4, 5, 6, 0] rfl (hj192 _ _ _ _ _ _ _ _ hf)
                · refine y_icmp_ne (tgt := 304) (pc2 := 212) rfl dX12_ruleOf_209 (by decide) (fun c51 => ?_) (fun c51 => ?_)
                  · replace hf := y_ie c51 hf
                    exact y_pk [0, 1, 2, 3, 4, 5, 6] rfl (hj304 _ _ _ _ _ _ _ _ hf)
                  · replace hf := y_it c51 hf
                    refine y_aload_n (x := v0_192) (pc2 := 213) rfl dX12_ruleOf_212 rfl ?_
                    obtain ⟨g50, hf⟩ := y_g hf
                    refine y_getP (pc2 := 216) rfl dX12_ruleOf_213 F_BoxYardModel_32 (by decide) rfl g50 ?_
                    refine y_iload (pc2 := 218) rfl dX12_ruleOf_216 rfl ?_
                    obtain ⟨g49, hf⟩ := y_g hf
                    refine y_iald (pc2 := 219) rfl dX12_ruleOf_218 g49.1 (y_ix_in g49.2) ?_
                    refine y_iload_n (pc2 := 220) rfl dX12_ruleOf_219 rfl ?_
                    refine y_icmp_ne (tgt := 304) (pc2 := 223) rfl dX12_ruleOf_220 (by decide) (fun c48 => ?_) (fun c48 => ?_)
                    · replace hf := y_ie c48 hf
                      exact y_pk [0, 1, 2, 3, 4, 5, 6] rfl (hj304 _ _ _ _ _ _ _ _ hf)
                    · replace hf := y_it c48 hf
                      refine y_aload_n (x := v0_192) (pc2 := 224) rfl dX12_ruleOf_223 rfl ?_
                      obtain ⟨g47, hf⟩ := y_g hf
                      refine y_getP (pc2 := 227) rfl dX12_ruleOf_224 F_BoxYardModel_19 (by decide) rfl g47 ?_
                      refine y_iload (pc2 := 229) rfl dX12_ruleOf_227 rfl ?_
                      obtain ⟨g46, hf⟩ := y_g hf
                      refine y_iald (pc2 := 230) rfl dX12_ruleOf_229 g46.1 (y_ix_in g46.2) ?_
                      refine y_if_le (tgt := 304) (pc2 := 233) rfl dX12_ruleOf_230 (by decide) (fun c45 => ?_) (fun c45 => ?_)
                      · replace hf := y_it c45 hf
                        exact y_pk [0, 1, 2, 3, 4, 5, 6] rfl (hj304 _ _ _ _ _ _ _ _ hf)
                      · replace hf := y_ie c45 hf
                        refine y_aload_n (x := v0_192) (pc2 := 234) rfl dX12_ruleOf_233 rfl ?_
                        obtain ⟨g44, hf⟩ := y_g hf
                        refine y_getP (pc2 := 237) rfl dX12_ruleOf_234 F_BoxYardModel_19 (by decide) rfl g44 ?_
                        refine y_iload_n (pc2 := 238) rfl dX12_ruleOf_237 rfl ?_
                        obtain ⟨g43, hf⟩ := y_g hf
                        refine y_iald (pc2 := 239) rfl dX12_ruleOf_238 g43.1 (y_ix_in g43.2) ?_
                        refine y_if_le (tgt := 304) (pc2 := 242) rfl dX12_ruleOf_239 (by decide) (fun c42 => ?_) (fun c42 => ?_)
                        · replace hf := y_it c42 hf
                          exact y_pk [0, 1, 2, 3, 4, 5, 6] rfl (hj304 _ _ _ _ _ _ _ _ hf)
                        · replace hf := y_ie c42 hf
                          refine y_aload_n (x := v0_192) (pc2 := 243) rfl dX12_ruleOf_242 rfl ?_
                          obtain ⟨g41, hf⟩ := y_g hf
                          refine y_getP (pc2 := 246) rfl dX12_ruleOf_243 F_BoxYardModel_35 (by decide) rfl g41 ?_
                          refine y_iload (pc2 := 248) rfl dX12_ruleOf_246 rfl ?_
                          obtain ⟨g40, hf⟩ := y_g hf
                          refine y_iald (pc2 := 249) rfl dX12_ruleOf_248 g40.1 (y_ix_in g40.2) ?_
                          refine y_iload_n (pc2 := 250) rfl dX12_ruleOf_249 rfl ?_
                          refine y_icmp_le (tgt := 265) (pc2 := 253) rfl dX12_ruleOf_250 (by decide) (fun c39 => ?_) (fun c39 => ?_)
                          · replace hf := y_it c39 hf
                            refine y_iload_n (pc2 := 266) rfl dX12_ruleOf_265 rfl ?_
                            refine y_aload_n (x := v0_192) (pc2 := 267) rfl dX12_ruleOf_266 rfl ?_
                            obtain ⟨g29, hf⟩ := y_g hf
                            refine y_getP (pc2 := 270) rfl dX12_ruleOf_267 F_BoxYardModel_35 (by decide) rfl g29 ?_
                            refine y_iload (pc2 := 272) rfl dX12_ruleOf_270 rfl ?_
                            obtain ⟨g28, hf⟩ := y_g hf
                            refine y_iald (pc2 := 273) rfl dX12_ruleOf_272 g28.1 (y_ix_in g28.2) ?_
                            refine y_isub (pc2 := 274) rfl dX12_ruleOf_273 ?_
                            refine y_istore (lv' := [(8, .int (v2_192 - (y_I h4 (y_P h4 v0_192 9) (Int32.toNatClampNeg v7_192)))), (0, y_p v0_192), (1, .int v1_192), (2, .int v2_192), (3, .int v3_192), (4, .int v4_192), (5, .int v5_192), (7, .int v7_192)]) (pc2 := 276) rfl dX12_ruleOf_274 (by decide) rfl ?_
                            refine y_iload (pc2 := 278) rfl dX12_ruleOf_276 rfl ?_
                            refine y_aload_n (x := v0_192) (pc2 := 279) rfl dX12_ruleOf_278 rfl ?_
                            obtain ⟨g27, hf⟩ := y_g hf
                            refine y_getP (pc2 := 282) rfl dX12_ruleOf_279 F_BoxYardModel_77 (by decide) rfl g27 ?_
                            refine y_iconst (v := 5) (pc2 := 283) rfl dX12_ruleOf_282 (by decide) ?_
                            refine y_aload_n (x := v0_192) (pc2 := 284) rfl dX12_ruleOf_283 rfl ?_
                            obtain ⟨g26, hf⟩ := y_g hf
                            refine y_getP (pc2 := 287) rfl dX12_ruleOf_284 F_BoxYardModel_19 (by decide) rfl g26 ?_
                            refine y_iload (pc2 := 289) rfl dX12_ruleOf_287 rfl ?_
                            obtain ⟨g25, hf⟩ := y_g hf
                            refine y_iald (pc2 := 290) rfl dX12_ruleOf_289 g25.1 (y_ix_in g25.2) ?_
                            refine y_imul (pc2 := 291) rfl dX12_ruleOf_290 ?_
                            refine y_aload_n (x := v0_192) (pc2 := 292) rfl dX12_ruleOf_291 rfl ?_
                            obtain ⟨g24, hf⟩ := y_g hf
                            refine y_getP (pc2 := 295) rfl dX12_ruleOf_292 F_BoxYardModel_19 (by decide) rfl g24 ?_
                            refine y_iload_n (pc2 := 296) rfl dX12_ruleOf_295 rfl ?_
                            obtain ⟨g23, hf⟩ := y_g hf
                            refine y_iald (pc2 := 297) rfl dX12_ruleOf_296 g23.1 (y_ix_in g23.2) ?_
                            refine y_iadd (pc2 := 298) rfl dX12_ruleOf_297 ?_
                            obtain ⟨g22, hf⟩ := y_g hf
                            refine y_iald (pc2 := 299) rfl dX12_ruleOf_298 g22.1 (y_ix_in g22.2) ?_
                            refine y_icmp_ge (tgt := 304) (pc2 := 302) rfl dX12_ruleOf_299 (by decide) (fun c21 => ?_) (fun c21 => ?_)
                            · replace hf := y_it c21 hf
                              exact y_pk [1, 2, 3, 4, 5, 6, 7] rfl (hj304 _ _ _ _ _ _ _ _ hf)
                            · replace hf := y_ie c21 hf
                              refine y_iconst (v := 4) (pc2 := 303) rfl dX12_ruleOf_302 (by decide) ?_
                              exact y_iretF hf dX12_ruleOf_303 rfl (by decide) (by decide)
                          · replace hf := y_ie c39 hf
                            refine y_aload_n (x := v0_192) (pc2 := 254) rfl dX12_ruleOf_253 rfl ?_
                            obtain ⟨g38, hf⟩ := y_g hf
                            refine y_getP (pc2 := 257) rfl dX12_ruleOf_254 F_BoxYardModel_35 (by decide) rfl g38 ?_
                            refine y_iload (pc2 := 259) rfl dX12_ruleOf_257 rfl ?_
                            obtain ⟨g37, hf⟩ := y_g hf
                            refine y_iald (pc2 := 260) rfl dX12_ruleOf_259 g37.1 (y_ix_in g37.2) ?_
                            refine y_iload_n (pc2 := 261) rfl dX12_ruleOf_260 rfl ?_
                            refine y_isub (pc2 := 262) rfl dX12_ruleOf_261 ?_
                            refine y_goto (tgt := 274) dX12_ruleOf_262 (by decide) ?_
                            refine y_istore (lv' := [(8, .int ((y_I h4 (y_P h4 v0_192 9) (Int32.toNatClampNeg v7_192)) - v2_192)), (0, y_p v0_192), (1, .int v1_192), (2, .int v2_192), (3, .int v3_192), (4, .int v4_192), (5, .int v5_192), (7, .int v7_192)]) (pc2 := 276) rfl dX12_ruleOf_274 (by decide) rfl ?_
                            refine y_iload (pc2 := 278) rfl dX12_ruleOf_276 rfl ?_
                            refine y_aload_n (x := v0_192) (pc2 := 279) rfl dX12_ruleOf_278 rfl ?_
                            obtain ⟨g36, hf⟩ := y_g hf
                            refine y_getP (pc2 := 282) rfl dX12_ruleOf_279 F_BoxYardModel_77 (by decide) rfl g36 ?_
                            refine y_iconst (v := 5) (pc2 := 283) rfl dX12_ruleOf_282 (by decide) ?_
                            refine y_aload_n (x := v0_192) (pc2 := 284) rfl dX12_ruleOf_283 rfl ?_
                            obtain ⟨g35, hf⟩ := y_g hf
                            refine y_getP (pc2 := 287) rfl dX12_ruleOf_284 F_BoxYardModel_19 (by decide) rfl g35 ?_
                            refine y_iload (pc2 := 289) rfl dX12_ruleOf_287 rfl ?_
                            obtain ⟨g34, hf⟩ := y_g hf
                            refine y_iald (pc2 := 290) rfl dX12_ruleOf_289 g34.1 (y_ix_in g34.2) ?_
                            refine y_imul (pc2 := 291) rfl dX12_ruleOf_290 ?_
                            refine y_aload_n (x := v0_192) (pc2 := 292) rfl dX12_ruleOf_291 rfl ?_
                            obtain ⟨g33, hf⟩ := y_g hf
                            refine y_getP (pc2 := 295) rfl dX12_ruleOf_292 F_BoxYardModel_19 (by decide) rfl g33 ?_
                            refine y_iload_n (pc2 := 296) rfl dX12_ruleOf_295 rfl ?_
                            obtain ⟨g32, hf⟩ := y_g hf
                            refine y_iald (pc2 := 297) rfl dX12_ruleOf_296 g32.1 (y_ix_in g32.2) ?_
                            refine y_iadd (pc2 := 298) rfl dX12_ruleOf_297 ?_
                            obtain ⟨g31, hf⟩ := y_g hf
                            refine y_iald (pc2 := 299) rfl dX12_ruleOf_298 g31.1 (y_ix_in g31.2) ?_
                            refine y_icmp_ge (tgt := 304) (pc2 := 302) rfl dX12_ruleOf_299 (by decide) (fun c30 => ?_) (fun c30 => ?_)
                            · replace hf := y_it c30 hf
                              exact y_pk [1, 2, 3, 4, 5, 6, 7] rfl (hj304 _ _ _ _ _ _ _ _ hf)
                            · replace hf := y_ie c30 hf
                              refine y_iconst (v := 4) (pc2 := 303) rfl dX12_ruleOf_302 (by decide) ?_
                              exact y_iretF hf dX12_ruleOf_303 rfl (by decide) (by decide)
            · refine y_istore (lv' := [(7, .int 0), (0, y_p v0_189), (1, .int v1_189), (2, .int v2_189), (3, .int v3_189), (4, .int v4_189), (5, .int v5_189)]) (pc2 := 192) rfl dX12_ruleOf_190 (by decide) rfl ?_
              exact y_pk [1, 2, 3, 4, 5, 6, 0] rfl (hj192 _ _ _ _ _ _ _ _ hf)
          · refine y_icmp_ne (tgt := 189) (pc2 := 175) rfl dX12_ruleOf_172 (by decide) (fun c59 => ?_) (fun c59 => ?_)
            · replace hf := y_ie c59 hf
              exact y_pk [0, 1, 2, 3, 4, 5] rfl (hj189 _ _ _ _ _ _ _ hf)
            · replace hf := y_it c59 hf
              refine y_iload (pc2 := 177) rfl dX12_ruleOf_175 rfl ?_
              refine y_aload_n (x := v0_82) (pc2 := 178) rfl dX12_ruleOf_177 rfl ?_
              obtain ⟨g58, hf⟩ := y_g hf
              refine y_getP (pc2 := 181) rfl dX12_ruleOf_178 F_BoxYardModel_68 (by decide) rfl g58 ?_
              refine y_iload (pc2 := 183) rfl dX12_ruleOf_181 rfl ?_
              obtain ⟨g57, hf⟩ := y_g hf
              refine y_iald (pc2 := 184) rfl dX12_ruleOf_183 g57.1 (y_ix_in g57.2) ?_
              refine y_icmp_lt (tgt := 189) (pc2 := 187) rfl dX12_ruleOf_184 (by decide) (fun c56 => ?_) (fun c56 => ?_)
              · replace hf := y_it c56 hf
                exact y_pk [0, 1, 2, 3, 4, 5] rfl (hj189 _ _ _ _ _ _ _ hf)
              · replace hf := y_ie c56 hf
                refine y_iconst (v := 3) (pc2 := 188) rfl dX12_ruleOf_187 (by decide) ?_
                exact y_iretF hf dX12_ruleOf_188 rfl (by decide) (by decide)
        · replace hf := y_ie c81 hf
          refine y_aload_n (x := v0_82) (pc2 := 90) rfl dX12_ruleOf_89 rfl ?_
          refine y_iload_n (pc2 := 91) rfl dX12_ruleOf_90 rfl ?_
          obtain ⟨g80, hf⟩ := y_g hf
          obtain ⟨r62, h63, c64, hf⟩ := y_clE hf
          refine y_callV (As := [.int v3_82]) (rm := rm_X12_known) (cells := 0) (slots := 0) (pc2 := 94) rfl dX12_ruleOf_91 n_X12_known l_BoxYardModel_290 i_X12_known e_X12_known (ci := 12) rfl rfl (by decide) g80 rfl rfl (by decide) (by decide) (by decide) (k_X12_known c64) ?_
          refine y_istore (lv' := [(8, .int r62), (0, y_p v0_82), (1, .int v1_82), (2, .int v2_82), (3, .int v3_82), (4, .int v4_82), (5, .int v5_82), (7, .int v7_82)]) (pc2 := 96) rfl dX12_ruleOf_94 (by decide) rfl ?_
          refine y_iload (pc2 := 98) rfl dX12_ruleOf_96 rfl ?_
          refine y_iconst (v := 1) (pc2 := 99) rfl dX12_ruleOf_98 (by decide) ?_
          refine y_iadd (pc2 := 100) rfl dX12_ruleOf_99 ?_
          refine y_jlE hf (fun j => ∀ (v0_102 : Nat) (v1_102 : Int32) (v2_102 : Int32) (v3_102 : Int32) (v4_102 : Int32) (v5_102 : Int32) (v7_102 : Int32) (v8_102 : Int32) (v9_102 : Int32) (h65 : y_H), j v0_102 v1_102 v2_102 v3_102 v4_102 v5_102 v7_102 v8_102 v9_102 h65 = some (rz, hz) → y_V l G z rm_X12_ruleOf M_X12_ruleOf ad0 h (some (.int rz)) hz 102 [(0, y_p v0_102), (1, .int v1_102), (2, .int v2_102), (3, .int v3_102), (4, .int v4_102), (5, .int v5_102), (7, .int v7_102), (8, .int v8_102), (9, .int v9_102)] [] h65 0 0) (fun _ _ _ _ _ _ _ _ _ _ hf => by cases hf) (fun j102 hj102 v0_102 v1_102 v2_102 v3_102 v4_102 v5_102 v7_102 v8_102 v9_102 h65 hf => ?_) (fun j102 hj102 hf => ?_)
          · refine y_iload (pc2 := 104) rfl dX12_ruleOf_102 rfl ?_
            refine y_iload (pc2 := 106) rfl dX12_ruleOf_104 rfl ?_
            refine y_icmp_ge (tgt := 136) (pc2 := 109) rfl dX12_ruleOf_106 (by decide) (fun c79 => ?_) (fun c79 => ?_)
            · replace hf := y_it c79 hf
              refine y_iload (pc2 := 138) rfl dX12_ruleOf_136 rfl ?_
              refine y_aload_n (x := v0_102) (pc2 := 139) rfl dX12_ruleOf_138 rfl ?_
              refine y_aload_n (x := v0_102) (pc2 := 140) rfl dX12_ruleOf_139 rfl ?_
              obtain ⟨g72, hf⟩ := y_g hf
              refine y_getP (pc2 := 143) rfl dX12_ruleOf_140 F_BoxYardModel_74 (by decide) rfl g72 ?_
              refine y_iconst (v := 5) (pc2 := 144) rfl dX12_ruleOf_143 (by decide) ?_
              refine y_iload (pc2 := 146) rfl dX12_ruleOf_144 rfl ?_
              refine y_imul (pc2 := 147) rfl dX12_ruleOf_146 ?_
              refine y_iload (pc2 := 149) rfl dX12_ruleOf_147 rfl ?_
              refine y_iadd (pc2 := 150) rfl dX12_ruleOf_149 ?_
              obtain ⟨g71, hf⟩ := y_g hf
              refine y_iald (pc2 := 151) rfl dX12_ruleOf_150 g71.1 (y_ix_in g71.2) ?_
              obtain ⟨g70, hf⟩ := y_g hf
              obtain ⟨r66, h67, c68, hf⟩ := y_clE hf
              refine y_callV (As := [.int (y_I h65 (y_P h65 v0_102 23) (Int32.toNatClampNeg ((5 * v4_102) + v7_102)))]) (rm := rm_X12_bears) (cells := 0) (slots := 0) (pc2 := 154) rfl dX12_ruleOf_151 n_X12_bears l_BoxYardModel_304 i_X12_bears e_X12_bears (ci := 12) rfl rfl (by decide) g70 rfl rfl (by decide) (by simp [y_ci, y_cj, y_p_cat]) (by decide) (k_X12_bears c68) ?_
              refine y_icmp_le (tgt := 159) (pc2 := 157) rfl dX12_ruleOf_154 (by decide) (fun c69 => ?_) (fun c69 => ?_)
              · replace hf := y_it c69 hf
                refine y_iinc (v := v7_102 + 1) (lv' := [(7, .int (v7_102 + 1)), (0, y_p v0_102), (1, .int v1_102), (2, .int v2_102), (3, .int v3_102), (4, .int v4_102), (5, .int v5_102), (8, .int v8_102), (9, .int v9_102)]) (pc2 := 162) rfl dX12_ruleOf_159 rfl rfl (by decide) rfl ?_
                refine y_goto (tgt := 82) dX12_ruleOf_162 (by decide) ?_
                exact y_pk [1, 2, 3, 4, 5, 6, 0] rfl (hj82 _ _ _ _ _ _ _ _ hf)
              · replace hf := y_ie c69 hf
                refine y_iconst (v := 2) (pc2 := 158) rfl dX12_ruleOf_157 (by decide) ?_
                exact y_iretF hf dX12_ruleOf_158 rfl (by decide) (by decide)
            · replace hf := y_ie c79 hf
              refine y_iload (pc2 := 111) rfl dX12_ruleOf_109 rfl ?_
              refine y_aload_n (x := v0_102) (pc2 := 112) rfl dX12_ruleOf_111 rfl ?_
              refine y_aload_n (x := v0_102) (pc2 := 113) rfl dX12_ruleOf_112 rfl ?_
              obtain ⟨g78, hf⟩ := y_g hf
              refine y_getP (pc2 := 116) rfl dX12_ruleOf_113 F_BoxYardModel_74 (by decide) rfl g78 ?_
              refine y_iconst (v := 5) (pc2 := 117) rfl dX12_ruleOf_116 (by decide) ?_
              refine y_iload (pc2 := 119) rfl dX12_ruleOf_117 rfl ?_
              refine y_imul (pc2 := 120) rfl dX12_ruleOf_119 ?_
              refine y_iload (pc2 := 122) rfl dX12_ruleOf_120 rfl ?_
              refine y_iadd (pc2 := 123) rfl dX12_ruleOf_122 ?_
              obtain ⟨g77, hf⟩ := y_g hf
              refine y_iald (pc2 := 124) rfl dX12_ruleOf_123 g77.1 (y_ix_in g77.2) ?_
              obtain ⟨g76, hf⟩ := y_g hf
              obtain ⟨r73, h74, c75, hf⟩ := y_clE hf
              refine y_callV (As := [.int (y_I h65 (y_P h65 v0_102 23) (Int32.toNatClampNeg ((5 * v4_102) + v9_102)))]) (rm := rm_X12_known) (cells := 0) (slots := 0) (pc2 := 127) rfl dX12_ruleOf_124 n_X12_known l_BoxYardModel_290 i_X12_known e_X12_known (ci := 12) rfl rfl (by decide) g76 rfl rfl (by decide) (by simp [y_ci, y_cj, y_p_cat]) (by decide) (k_X12_known c75) ?_
              refine y_iadd (pc2 := 128) rfl dX12_ruleOf_127 ?_
              refine y_istore (lv' := [(8, .int (v8_102 + r73)), (0, y_p v0_102), (1, .int v1_102), (2, .int v2_102), (3, .int v3_102), (4, .int v4_102), (5, .int v5_102), (7, .int v7_102), (9, .int v9_102)]) (pc2 := 130) rfl dX12_ruleOf_128 (by decide) rfl ?_
              refine y_iinc (v := v9_102 + 1) (lv' := [(9, .int (v9_102 + 1)), (8, .int (v8_102 + r73)), (0, y_p v0_102), (1, .int v1_102), (2, .int v2_102), (3, .int v3_102), (4, .int v4_102), (5, .int v5_102), (7, .int v7_102)]) (pc2 := 133) rfl dX12_ruleOf_130 rfl rfl (by decide) rfl ?_
              refine y_goto (tgt := 102) dX12_ruleOf_133 (by decide) ?_
              exact y_pk [2, 3, 4, 5, 6, 7, 8, 1, 0] rfl (hj102 _ _ _ _ _ _ _ _ _ _ hf)
          · refine y_istore (lv' := [(9, .int (v7_82 + 1)), (8, .int r62), (0, y_p v0_82), (1, .int v1_82), (2, .int v2_82), (3, .int v3_82), (4, .int v4_82), (5, .int v5_82), (7, .int v7_82)]) (pc2 := 102) rfl dX12_ruleOf_100 (by decide) rfl ?_
            exact y_pk [2, 3, 4, 5, 6, 7, 8, 1, 0] rfl (hj102 _ _ _ _ _ _ _ _ _ _ hf)
      · refine y_istore (lv' := [(7, .int 0), (0, y_p v0_79), (1, .int v1_79), (2, .int v2_79), (3, .int v3_79), (4, .int v4_79), (5, .int v5_79)]) (pc2 := 82) rfl dX12_ruleOf_80 (by decide) rfl ?_
        exact y_pk [1, 2, 3, 4, 5, 6, 0] rfl (hj82 _ _ _ _ _ _ _ _ hf)
    · refine y_if_lt (tgt := 79) (pc2 := 47) rfl dX12_ruleOf_44 (by decide) (fun c94 => ?_) (fun c94 => ?_)
      · replace hf := y_it c94 hf
        exact y_pk [3, 4, 5, 6, 2, 1] rfl (hj79 _ _ _ _ _ _ _ hf)
      · replace hf := y_ie c94 hf
        refine y_aload_n (x := p0) (pc2 := 48) rfl dX12_ruleOf_47 rfl ?_
        refine y_iload (pc2 := 50) rfl dX12_ruleOf_48 rfl ?_
        obtain ⟨g93, hf⟩ := y_g hf
        obtain ⟨r82, h83, c84, hf⟩ := y_clE hf
        refine y_callV (As := [.int (-1 : Int32)]) (rm := rm_X12_isOpen) (cells := 0) (slots := 0) (pc2 := 53) rfl dX12_ruleOf_50 n_X12_isOpen l_BoxYardModel_372 i_X12_isOpen e_X12_isOpen (ci := 12) rfl rfl (by decide) g93 rfl rfl (by decide) (by decide) (by decide) (k_X12_isOpen c84) ?_
        refine y_jnE hf (fun j => ∀ (h85 : y_H), j h85 = some (rz, hz) → y_V l G z rm_X12_ruleOf M_X12_ruleOf ad0 h (some (.int rz)) hz 77 [] [] h85 0 0) (fun h85 hf => ?_) (fun j77 hj77 hf => ?_)
        · refine y_iconst (v := 1) (pc2 := 78) rfl dX12_ruleOf_77 (by decide) ?_
          exact y_iretF hf dX12_ruleOf_78 rfl (by decide) (by decide)
        · refine y_ifz_ne (tgt := 77) (pc2 := 56) rfl dX12_ruleOf_53 (by decide) (fun c92 => ?_) (fun c92 => ?_)
          · replace hf := y_it c92 hf
            exact y_pk [] rfl (hj77 _ hf)
          · replace hf := y_ie c92 hf
            refine y_aload_n (x := p0) (pc2 := 57) rfl dX12_ruleOf_56 rfl ?_
            obtain ⟨g91, hf⟩ := y_g hf
            refine y_getP (pc2 := 60) rfl dX12_ruleOf_57 F_BoxYardModel_7 (by decide) rfl g91 ?_
            refine y_iload (pc2 := 62) rfl dX12_ruleOf_60 rfl ?_
            obtain ⟨g90, hf⟩ := y_g hf
            refine y_iald (pc2 := 63) rfl dX12_ruleOf_62 g90.1 (y_ix_in g90.2) ?_
            refine y_iconst (v := 5) (pc2 := 64) rfl dX12_ruleOf_63 (by decide) ?_
            refine y_icmp_ne (tgt := 79) (pc2 := 67) rfl dX12_ruleOf_64 (by decide) (fun c89 => ?_) (fun c89 => ?_)
            · replace hf := y_ie c89 hf
              exact y_pk [3, 4, 5, 6, 2, 1] rfl (hj79 _ _ _ _ _ _ _ hf)
            · replace hf := y_it c89 hf
              refine y_aload_n (x := p0) (pc2 := 68) rfl dX12_ruleOf_67 rfl ?_
              obtain ⟨g88, hf⟩ := y_g hf
              refine y_getP (pc2 := 71) rfl dX12_ruleOf_68 F_BoxYardModel_7 (by decide) rfl g88 ?_
              refine y_iload_n (pc2 := 72) rfl dX12_ruleOf_71 rfl ?_
              obtain ⟨g87, hf⟩ := y_g hf
              refine y_iald (pc2 := 73) rfl dX12_ruleOf_72 g87.1 (y_ix_in g87.2) ?_
              refine y_iconst (v := 5) (pc2 := 74) rfl dX12_ruleOf_73 (by decide) ?_
              refine y_icmp_eq (tgt := 79) (pc2 := 77) rfl dX12_ruleOf_74 (by decide) (fun c86 => ?_) (fun c86 => ?_)
              · replace hf := y_it c86 hf
                exact y_pk [3, 4, 5, 6, 2, 1] rfl (hj79 _ _ _ _ _ _ _ hf)
              · replace hf := y_ie c86 hf
                exact y_pk [] rfl (hj77 _ hf)
  · replace hf := y_ie c191 hf
    refine y_aload_n (x := p0) (pc2 := 23) rfl dX12_ruleOf_22 rfl ?_
    obtain ⟨g190, hf⟩ := y_g hf
    refine y_getP (pc2 := 26) rfl dX12_ruleOf_23 F_BoxYardModel_74 (by decide) rfl g190 ?_
    refine y_iconst (v := 5) (pc2 := 27) rfl dX12_ruleOf_26 (by decide) ?_
    refine y_iload (pc2 := 29) rfl dX12_ruleOf_27 rfl ?_
    refine y_imul (pc2 := 30) rfl dX12_ruleOf_29 ?_
    refine y_iload (pc2 := 32) rfl dX12_ruleOf_30 rfl ?_
    refine y_iadd (pc2 := 33) rfl dX12_ruleOf_32 ?_
    refine y_iconst (v := 1) (pc2 := 34) rfl dX12_ruleOf_33 (by decide) ?_
    refine y_isub (pc2 := 35) rfl dX12_ruleOf_34 ?_
    obtain ⟨g189, hf⟩ := y_g hf
    refine y_iald (pc2 := 36) rfl dX12_ruleOf_35 g189.1 (y_ix_in g189.2) ?_
    refine y_goto (tgt := 40) dX12_ruleOf_36 (by decide) ?_
    refine y_istore (lv' := [(6, .int (y_I h (y_P h p0 23) (Int32.toNatClampNeg (((5 * ((6 * p1) + p2)) + (y_I h (y_P h p0 22) (Int32.toNatClampNeg ((6 * p1) + p2)))) - 1)))), (5, .int (y_I h (y_P h p0 22) (Int32.toNatClampNeg ((6 * p1) + p2)))), (4, .int ((6 * p1) + p2)), (0, y_p p0), (1, .int p1), (2, .int p2), (3, .int p3)]) (pc2 := 42) rfl dX12_ruleOf_40 (by decide) rfl ?_
    refine y_iload (pc2 := 44) rfl dX12_ruleOf_42 rfl ?_
    refine y_jnE hf (fun j => ∀ (v0_79 : Nat) (v1_79 : Int32) (v2_79 : Int32) (v3_79 : Int32) (v4_79 : Int32) (v5_79 : Int32) (h95 : y_H), j v0_79 v1_79 v2_79 v3_79 v4_79 v5_79 h95 = some (rz, hz) → y_V l G z rm_X12_ruleOf M_X12_ruleOf ad0 h (some (.int rz)) hz 79 [(0, y_p v0_79), (1, .int v1_79), (2, .int v2_79), (3, .int v3_79), (4, .int v4_79), (5, .int v5_79)] [] h95 0 0) (fun v0_79 v1_79 v2_79 v3_79 v4_79 v5_79 h95 hf => ?_) (fun j79 hj79 hf => ?_)
    · refine y_iconst (v := 0) (pc2 := 80) rfl dX12_ruleOf_79 (by decide) ?_
      refine y_jlE hf (fun j => ∀ (v0_82 : Nat) (v1_82 : Int32) (v2_82 : Int32) (v3_82 : Int32) (v4_82 : Int32) (v5_82 : Int32) (v7_82 : Int32) (h96 : y_H), j v0_82 v1_82 v2_82 v3_82 v4_82 v5_82 v7_82 h96 = some (rz, hz) → y_V l G z rm_X12_ruleOf M_X12_ruleOf ad0 h (some (.int rz)) hz 82 [(0, y_p v0_82), (1, .int v1_82), (2, .int v2_82), (3, .int v3_82), (4, .int v4_82), (5, .int v5_82), (7, .int v7_82)] [] h96 0 0) (fun _ _ _ _ _ _ _ _ hf => by cases hf) (fun j82 hj82 v0_82 v1_82 v2_82 v3_82 v4_82 v5_82 v7_82 h96 hf => ?_) (fun j82 hj82 hf => ?_)
      · refine y_iload (pc2 := 84) rfl dX12_ruleOf_82 rfl ?_
        refine y_iload (pc2 := 86) rfl dX12_ruleOf_84 rfl ?_
        refine y_icmp_ge (tgt := 165) (pc2 := 89) rfl dX12_ruleOf_86 (by decide) (fun c175 => ?_) (fun c175 => ?_)
        · replace hf := y_it c175 hf
          refine y_aload_n (x := v0_82) (pc2 := 166) rfl dX12_ruleOf_165 rfl ?_
          obtain ⟨g155, hf⟩ := y_g hf
          refine y_getP (pc2 := 169) rfl dX12_ruleOf_166 F_BoxYardModel_7 (by decide) rfl g155 ?_
          refine y_iload_n (pc2 := 170) rfl dX12_ruleOf_169 rfl ?_
          obtain ⟨g154, hf⟩ := y_g hf
          refine y_iald (pc2 := 171) rfl dX12_ruleOf_170 g154.1 (y_ix_in g154.2) ?_
          refine y_iconst (v := 1) (pc2 := 172) rfl dX12_ruleOf_171 (by decide) ?_
          refine y_jnE hf (fun j => ∀ (v0_189 : Nat) (v1_189 : Int32) (v2_189 : Int32) (v3_189 : Int32) (v4_189 : Int32) (v5_189 : Int32) (h97 : y_H), j v0_189 v1_189 v2_189 v3_189 v4_189 v5_189 h97 = some (rz, hz) → y_V l G z rm_X12_ruleOf M_X12_ruleOf ad0 h (some (.int rz)) hz 189 [(0, y_p v0_189), (1, .int v1_189), (2, .int v2_189), (3, .int v3_189), (4, .int v4_189), (5, .int v5_189)] [] h97 0 0) (fun v0_189 v1_189 v2_189 v3_189 v4_189 v5_189 h97 hf => ?_) (fun j189 hj189 hf => ?_)
          · refine y_iconst (v := 0) (pc2 := 190) rfl dX12_ruleOf_189 (by decide) ?_
            refine y_jlE hf (fun j => ∀ (v0_192 : Nat) (v1_192 : Int32) (v2_192 : Int32) (v3_192 : Int32) (v4_192 : Int32) (v5_192 : Int32) (v7_192 : Int32) (h98 : y_H), j v0_192 v1_192 v2_192 v3_192 v4_192 v5_192 v7_192 h98 = some (rz, hz) → y_V l G z rm_X12_ruleOf M_X12_ruleOf ad0 h (some (.int rz)) hz 192 [(0, y_p v0_192), (1, .int v1_192), (2, .int v2_192), (3, .int v3_192), (4, .int v4_192), (5, .int v5_192), (7, .int v7_192)] [] h98 0 0) (fun _ _ _ _ _ _ _ _ hf => by cases hf) (fun j192 hj192 v0_192 v1_192 v2_192 v3_192 v4_192 v5_192 v7_192 h98 hf => ?_) (fun j192 hj192 hf => ?_)
            · refine y_iload (pc2 := 194) rfl dX12_ruleOf_192 rfl ?_
              refine y_aload_n (x := v0_192) (pc2 := 195) rfl dX12_ruleOf_194 rfl ?_
              obtain ⟨g149, hf⟩ := y_g hf
              refine y_getI (pc2 := 198) rfl dX12_ruleOf_195 F_BoxYardModel_234 (by decide) rfl g149 ?_
              refine y_icmp_ge (tgt := 310) (pc2 := 201) rfl dX12_ruleOf_198 (by decide) (fun c148 => ?_) (fun c148 => ?_)
              · replace hf := y_it c148 hf
                refine y_iconst (v := 0) (pc2 := 311) rfl dX12_ruleOf_310 (by decide) ?_
                refine y_istore (lv' := [(7, .int 0), (0, y_p v0_192), (1, .int v1_192), (2, .int v2_192), (3, .int v3_192), (4, .int v4_192), (5, .int v5_192)]) (pc2 := 313) rfl dX12_ruleOf_311 (by decide) rfl ?_
                refine y_iconst (v := 0) (pc2 := 314) rfl dX12_ruleOf_313 (by decide) ?_
                refine y_jlE hf (fun j => ∀ (v0_316 : Nat) (v3_316 : Int32) (v4_316 : Int32) (v5_316 : Int32) (v7_316 : Int32) (v8_316 : Int32) (h99 : y_H), j v0_316 v3_316 v4_316 v5_316 v7_316 v8_316 h99 = some (rz, hz) → y_V l G z rm_X12_ruleOf M_X12_ruleOf ad0 h (some (.int rz)) hz 316 [(0, y_p v0_316), (3, .int v3_316), (4, .int v4_316), (5, .int v5_316), (7, .int v7_316), (8, .int v8_316)] [] h99 0 0) (fun _ _ _ _ _ _ _ hf => by cases hf) (fun j316 hj316 v0_316 v3_316 v4_316 v5_316 v7_316 v8_316 h99 hf => ?_) (fun j316 hj316 hf => ?_)
                · refine y_iload (pc2 := 318) rfl dX12_ruleOf_316 rfl ?_
                  refine y_iload (pc2 := 320) rfl dX12_ruleOf_318 rfl ?_
                  refine y_icmp_ge (tgt := 350) (pc2 := 323) rfl dX12_ruleOf_320 (by decide) (fun c113 => ?_) (fun c113 => ?_)
                  · replace hf := y_it c113 hf
                    refine y_iload (pc2 := 352) rfl dX12_ruleOf_350 rfl ?_
                    refine y_aload_n (x := v0_316) (pc2 := 353) rfl dX12_ruleOf_352 rfl ?_
                    refine y_iload_n (pc2 := 354) rfl dX12_ruleOf_353 rfl ?_
                    obtain ⟨g106, hf⟩ := y_g hf
                    obtain ⟨r100, h101, c102, hf⟩ := y_clE hf
                    refine y_callV (As := [.int v3_316]) (rm := rm_X12_tall) (cells := 0) (slots := 0) (pc2 := 357) rfl dX12_ruleOf_354 n_X12_tall l_BoxYardModel_307 i_X12_tall e_X12_tall (ci := 12) rfl rfl (by decide) g106 rfl rfl (by decide) (by simp [y_ci, y_cj, y_p_cat]) (by decide) (k_X12_tall c102) ?_
                    refine y_iadd (pc2 := 358) rfl dX12_ruleOf_357 ?_
                    refine y_istore (lv' := [(7, .int (v7_316 + r100)), (0, y_p v0_316), (3, .int v3_316), (4, .int v4_316), (5, .int v5_316), (8, .int v8_316)]) (pc2 := 360) rfl dX12_ruleOf_358 (by decide) rfl ?_
                    refine y_iload (pc2 := 362) rfl dX12_ruleOf_360 rfl ?_
                    refine y_iconst (v := 2) (pc2 := 363) rfl dX12_ruleOf_362 (by decide) ?_
                    refine y_aload_n (x := v0_316) (pc2 := 364) rfl dX12_ruleOf_363 rfl ?_
                    obtain ⟨g105, hf⟩ := y_g hf
                    refine y_getP (pc2 := 367) rfl dX12_ruleOf_364 F_BoxYardModel_65 (by decide) rfl g105 ?_
                    refine y_iload (pc2 := 369) rfl dX12_ruleOf_367 rfl ?_
                    obtain ⟨g104, hf⟩ := y_g hf
                    refine y_iald (pc2 := 370) rfl dX12_ruleOf_369 g104.1 (y_ix_in g104.2) ?_
                    refine y_imul (pc2 := 371) rfl dX12_ruleOf_370 ?_
                    refine y_iconst (v := 1) (pc2 := 372) rfl dX12_ruleOf_371 (by decide) ?_
                    refine y_iadd (pc2 := 373) rfl dX12_ruleOf_372 ?_
                    refine y_icmp_le (tgt := 380) (pc2 := 376) rfl dX12_ruleOf_373 (by decide) (fun c103 => ?_) (fun c103 => ?_)
                    · replace hf := y_it c103 hf
                      refine y_iconst (v := 0) (pc2 := 381) rfl dX12_ruleOf_380 (by decide) ?_
                      exact y_iretF hf dX12_ruleOf_381 rfl (by decide) (by decide)
                    · replace hf := y_ie c103 hf
                      refine y_iconst (v := 5) (pc2 := 377) rfl dX12_ruleOf_376 (by decide) ?_
                      refine y_goto (tgt := 381) dX12_ruleOf_377 (by decide) ?_
                      exact y_iretF hf dX12_ruleOf_381 rfl (by decide) (by decide)
                  · replace hf := y_ie c113 hf
                    refine y_iload (pc2 := 325) rfl dX12_ruleOf_323 rfl ?_
                    refine y_aload_n (x := v0_316) (pc2 := 326) rfl dX12_ruleOf_325 rfl ?_
                    refine y_aload_n (x := v0_316) (pc2 := 327) rfl dX12_ruleOf_326 rfl ?_
                    obtain ⟨g112, hf⟩ := y_g hf
                    refine y_getP (pc2 := 330) rfl dX12_ruleOf_327 F_BoxYardModel_74 (by decide) rfl g112 ?_
                    refine y_iconst (v := 5) (pc2 := 331) rfl dX12_ruleOf_330 (by decide) ?_
                    refine y_iload (pc2 := 333) rfl dX12_ruleOf_331 rfl ?_
                    refine y_imul (pc2 := 334) rfl dX12_ruleOf_333 ?_
                    refine y_iload (pc2 := 336) rfl dX12_ruleOf_334 rfl ?_
                    refine y_iadd (pc2 := 337) rfl dX12_ruleOf_336 ?_
                    obtain ⟨g111, hf⟩ := y_g hf
                    refine y_iald (pc2 := 338) rfl dX12_ruleOf_337 g111.1 (y_ix_in g111.2) ?_
                    obtain ⟨g110, hf⟩ := y_g hf
                    obtain ⟨r107, h108, c109, hf⟩ := y_clE hf
                    refine y_callV (As := [.int (y_I h99 (y_P h99 v0_316 23) (Int32.toNatClampNeg ((5 * v4_316) + v8_316)))]) (rm := rm_X12_tall) (cells := 0) (slots := 0) (pc2 := 341) rfl dX12_ruleOf_338 n_X12_tall l_BoxYardModel_307 i_X12_tall e_X12_tall (ci := 12) rfl rfl (by decide) g110 rfl rfl (by decide) (by simp [y_ci, y_cj, y_p_cat]) (by decide) (k_X12_tall c109) ?_
                    refine y_iadd (pc2 := 342) rfl dX12_ruleOf_341 ?_
                    refine y_istore (lv' := [(7, .int (v7_316 + r107)), (0, y_p v0_316), (3, .int v3_316), (4, .int v4_316), (5, .int v5_316), (8, .int v8_316)]) (pc2 := 344) rfl dX12_ruleOf_342 (by decide) rfl ?_
                    refine y_iinc (v := v8_316 + 1) (lv' := [(8, .int (v8_316 + 1)), (7, .int (v7_316 + r107)), (0, y_p v0_316), (3, .int v3_316), (4, .int v4_316), (5, .int v5_316)]) (pc2 := 347) rfl dX12_ruleOf_344 rfl rfl (by decide) rfl ?_
                    refine y_goto (tgt := 316) dX12_ruleOf_347 (by decide) ?_
                    exact y_pk [2, 3, 4, 5, 1, 0] rfl (hj316 _ _ _ _ _ _ _ hf)
                · refine y_istore (lv' := [(8, .int 0), (7, .int 0), (0, y_p v0_192), (1, .int v1_192), (2, .int v2_192), (3, .int v3_192), (4, .int v4_192), (5, .int v5_192)]) (pc2 := 316) rfl dX12_ruleOf_314 (by decide) rfl ?_
                  exact y_pk [2, 5, 6, 7, 1, 0] rfl (hj316 _ _ _ _ _ _ _ hf)
              · replace hf := y_ie c148 hf
                refine y_aload_n (x := v0_192) (pc2 := 202) rfl dX12_ruleOf_201 rfl ?_
                obtain ⟨g147, hf⟩ := y_g hf
                refine y_getP (pc2 := 205) rfl dX12_ruleOf_202 F_BoxYardModel_29 (by decide) rfl g147 ?_
                refine y_iload (pc2 := 207) rfl dX12_ruleOf_205 rfl ?_
                obtain ⟨g146, hf⟩ := y_g hf
                refine y_iald (pc2 := 208) rfl dX12_ruleOf_207 g146.1 (y_ix_in g146.2) ?_
                refine y_iconst (v := 1) (pc2 := 209) rfl dX12_ruleOf_208 (by decide) ?_
                refine y_jnE hf (fun j => ∀ (v0_304 : Nat) (v1_304 : Int32) (v2_304 : Int32) (v3_304 : Int32) (v4_304 : Int32) (v5_304 : Int32) (v7_304 : Int32) (h114 : y_H), j v0_304 v1_304 v2_304 v3_304 v4_304 v5_304 v7_304 h114 = some (rz, hz) → y_V l G z rm_X12_ruleOf M_X12_ruleOf ad0 h (some (.int rz)) hz 304 [(0, y_p v0_304), (1, .int v1_304), (2, .int v2_304), (3, .int v3_304), (4, .int v4_304), (5, .int v5_304), (7, .int v7_304)] [] h114 0 0) (fun v0_304 v1_304 v2_304 v3_304 v4_304 v5_304 v7_304 h114 hf => ?_) (fun j304 hj304 hf => ?_)
                · refine y_iinc (v := v7_304 + 1) (lv' := [(7, .int (v7_304 + 1)), (0, y_p v0_304), (1, .int v1_304), (2, .int v2_304), (3, .int v3_304), (4, .int v4_304), (5, .int v5_304)]) (pc2 := 307) rfl dX12_ruleOf_304 rfl rfl (by decide) rfl ?_
                  refine y_goto (tgt := 192) dX12_ruleOf_307 (by decide) ?_
                  exact y_pk [1, 2, 3, 4, 5, 6, 0] rfl (hj192 _ _ _ _ _ _ _ _ hf)
                · refine y_icmp_ne (tgt := 304) (pc2 := 212) rfl dX12_ruleOf_209 (by decide) (fun c145 => ?_) (fun c145 => ?_)
                  · replace hf := y_ie c145 hf
                    exact y_pk [0, 1, 2, 3, 4, 5, 6] rfl (hj304 _ _ _ _ _ _ _ _ hf)
                  · replace hf := y_it c145 hf
                    refine y_aload_n (x := v0_192) (pc2 := 213) rfl dX12_ruleOf_212 rfl ?_
                    obtain ⟨g144, hf⟩ := y_g hf
                    refine y_getP (pc2 := 216) rfl dX12_ruleOf_213 F_BoxYardModel_32 (by decide) rfl g144 ?_
                    refine y_iload (pc2 := 218) rfl dX12_ruleOf_216 rfl ?_
                    obtain ⟨g143, hf⟩ := y_g hf
                    refine y_iald (pc2 := 219) rfl dX12_ruleOf_218 g143.1 (y_ix_in g143.2) ?_
                    refine y_iload_n (pc2 := 220) rfl dX12_ruleOf_219 rfl ?_
                    refine y_icmp_ne (tgt := 304) (pc2 := 223) rfl dX12_ruleOf_220 (by decide) (fun c142 => ?_) (fun c142 => ?_)
                    · replace hf := y_ie c142 hf
                      exact y_pk [0, 1, 2, 3, 4, 5, 6] rfl (hj304 _ _ _ _ _ _ _ _ hf)
                    · replace hf := y_it c142 hf
                      refine y_aload_n (x := v0_192) (pc2 := 224) rfl dX12_ruleOf_223 rfl ?_
                      obtain ⟨g141, hf⟩ := y_g hf
                      refine y_getP (pc2 := 227) rfl dX12_ruleOf_224 F_BoxYardModel_19 (by decide) rfl g141 ?_
                      refine y_iload (pc2 := 229) rfl dX12_ruleOf_227 rfl ?_
                      obtain ⟨g140, hf⟩ := y_g hf
                      refine y_iald (pc2 := 230) rfl dX12_ruleOf_229 g140.1 (y_ix_in g140.2) ?_
                      refine y_if_le (tgt := 304) (pc2 := 233) rfl dX12_ruleOf_230 (by decide) (fun c139 => ?_) (fun c139 => ?_)
                      · replace hf := y_it c139 hf
                        exact y_pk [0, 1, 2, 3, 4, 5, 6] rfl (hj304 _ _ _ _ _ _ _ _ hf)
                      · replace hf := y_ie c139 hf
                        refine y_aload_n (x := v0_192) (pc2 := 234) rfl dX12_ruleOf_233 rfl ?_
                        obtain ⟨g138, hf⟩ := y_g hf
                        refine y_getP (pc2 := 237) rfl dX12_ruleOf_234 F_BoxYardModel_19 (by decide) rfl g138 ?_
                        refine y_iload_n (pc2 := 238) rfl dX12_ruleOf_237 rfl ?_
                        obtain ⟨g137, hf⟩ := y_g hf
                        refine y_iald (pc2 := 239) rfl dX12_ruleOf_238 g137.1 (y_ix_in g137.2) ?_
                        refine y_if_le (tgt := 304) (pc2 := 242) rfl dX12_ruleOf_239 (by decide) (fun c136 => ?_) (fun c136 => ?_)
                        · replace hf := y_it c136 hf
                          exact y_pk [0, 1, 2, 3, 4, 5, 6] rfl (hj304 _ _ _ _ _ _ _ _ hf)
                        · replace hf := y_ie c136 hf
                          refine y_aload_n (x := v0_192) (pc2 := 243) rfl dX12_ruleOf_242 rfl ?_
                          obtain ⟨g135, hf⟩ := y_g hf
                          refine y_getP (pc2 := 246) rfl dX12_ruleOf_243 F_BoxYardModel_35 (by decide) rfl g135 ?_
                          refine y_iload (pc2 := 248) rfl dX12_ruleOf_246 rfl ?_
                          obtain ⟨g134, hf⟩ := y_g hf
                          refine y_iald (pc2 := 249) rfl dX12_ruleOf_248 g134.1 (y_ix_in g134.2) ?_
                          refine y_iload_n (pc2 := 250) rfl dX12_ruleOf_249 rfl ?_
                          refine y_icmp_le (tgt := 265) (pc2 := 253) rfl dX12_ruleOf_250 (by decide) (fun c133 => ?_) (fun c133 => ?_)
                          · replace hf := y_it c133 hf
                            refine y_iload_n (pc2 := 266) rfl dX12_ruleOf_265 rfl ?_
                            refine y_aload_n (x := v0_192) (pc2 := 267) rfl dX12_ruleOf_266 rfl ?_
                            obtain ⟨g123, hf⟩ := y_g hf
                            refine y_getP (pc2 := 270) rfl dX12_ruleOf_267 F_BoxYardModel_35 (by decide) rfl g123 ?_
                            refine y_iload (pc2 := 272) rfl dX12_ruleOf_270 rfl ?_
                            obtain ⟨g122, hf⟩ := y_g hf
                            refine y_iald (pc2 := 273) rfl dX12_ruleOf_272 g122.1 (y_ix_in g122.2) ?_
                            refine y_isub (pc2 := 274) rfl dX12_ruleOf_273 ?_
                            refine y_istore (lv' := [(8, .int (v2_192 - (y_I h98 (y_P h98 v0_192 9) (Int32.toNatClampNeg v7_192)))), (0, y_p v0_192), (1, .int v1_192), (2, .int v2_192), (3, .int v3_192), (4, .int v4_192), (5, .int v5_192), (7, .int v7_192)]) (pc2 := 276) rfl dX12_ruleOf_274 (by decide) rfl ?_
                            refine y_iload (pc2 := 278) rfl dX12_ruleOf_276 rfl ?_
                            refine y_aload_n (x := v0_192) (pc2 := 279) rfl dX12_ruleOf_278 rfl ?_
                            obtain ⟨g121, hf⟩ := y_g hf
                            refine y_getP (pc2 := 282) rfl dX12_ruleOf_279 F_BoxYardModel_77 (by decide) rfl g121 ?_
                            refine y_iconst (v := 5) (pc2 := 283) rfl dX12_ruleOf_282 (by decide) ?_
                            refine y_aload_n (x := v0_192) (pc2 := 284) rfl dX12_ruleOf_283 rfl ?_
                            obtain ⟨g120, hf⟩ := y_g hf
                            refine y_getP (pc2 := 287) rfl dX12_ruleOf_284 F_BoxYardModel_19 (by decide) rfl g120 ?_
                            refine y_iload (pc2 := 289) rfl dX12_ruleOf_287 rfl ?_
                            obtain ⟨g119, hf⟩ := y_g hf
                            refine y_iald (pc2 := 290) rfl dX12_ruleOf_289 g119.1 (y_ix_in g119.2) ?_
                            refine y_imul (pc2 := 291) rfl dX12_ruleOf_290 ?_
                            refine y_aload_n (x := v0_192) (pc2 := 292) rfl dX12_ruleOf_291 rfl ?_
                            obtain ⟨g118, hf⟩ := y_g hf
                            refine y_getP (pc2 := 295) rfl dX12_ruleOf_292 F_BoxYardModel_19 (by decide) rfl g118 ?_
                            refine y_iload_n (pc2 := 296) rfl dX12_ruleOf_295 rfl ?_
                            obtain ⟨g117, hf⟩ := y_g hf
                            refine y_iald (pc2 := 297) rfl dX12_ruleOf_296 g117.1 (y_ix_in g117.2) ?_
                            refine y_iadd (pc2 := 298) rfl dX12_ruleOf_297 ?_
                            obtain ⟨g116, hf⟩ := y_g hf
                            refine y_iald (pc2 := 299) rfl dX12_ruleOf_298 g116.1 (y_ix_in g116.2) ?_
                            refine y_icmp_ge (tgt := 304) (pc2 := 302) rfl dX12_ruleOf_299 (by decide) (fun c115 => ?_) (fun c115 => ?_)
                            · replace hf := y_it c115 hf
                              exact y_pk [1, 2, 3, 4, 5, 6, 7] rfl (hj304 _ _ _ _ _ _ _ _ hf)
                            · replace hf := y_ie c115 hf
                              refine y_iconst (v := 4) (pc2 := 303) rfl dX12_ruleOf_302 (by decide) ?_
                              exact y_iretF hf dX12_ruleOf_303 rfl (by decide) (by decide)
                          · replace hf := y_ie c133 hf
                            refine y_aload_n (x := v0_192) (pc2 := 254) rfl dX12_ruleOf_253 rfl ?_
                            obtain ⟨g132, hf⟩ := y_g hf
                            refine y_getP (pc2 := 257) rfl dX12_ruleOf_254 F_BoxYardModel_35 (by decide) rfl g132 ?_
                            refine y_iload (pc2 := 259) rfl dX12_ruleOf_257 rfl ?_
                            obtain ⟨g131, hf⟩ := y_g hf
                            refine y_iald (pc2 := 260) rfl dX12_ruleOf_259 g131.1 (y_ix_in g131.2) ?_
                            refine y_iload_n (pc2 := 261) rfl dX12_ruleOf_260 rfl ?_
                            refine y_isub (pc2 := 262) rfl dX12_ruleOf_261 ?_
                            refine y_goto (tgt := 274) dX12_ruleOf_262 (by decide) ?_
                            refine y_istore (lv' := [(8, .int ((y_I h98 (y_P h98 v0_192 9) (Int32.toNatClampNeg v7_192)) - v2_192)), (0, y_p v0_192), (1, .int v1_192), (2, .int v2_192), (3, .int v3_192), (4, .int v4_192), (5, .int v5_192), (7, .int v7_192)]) (pc2 := 276) rfl dX12_ruleOf_274 (by decide) rfl ?_
                            refine y_iload (pc2 := 278) rfl dX12_ruleOf_276 rfl ?_
                            refine y_aload_n (x := v0_192) (pc2 := 279) rfl dX12_ruleOf_278 rfl ?_
                            obtain ⟨g130, hf⟩ := y_g hf
                            refine y_getP (pc2 := 282) rfl dX12_ruleOf_279 F_BoxYardModel_77 (by decide) rfl g130 ?_
                            refine y_iconst (v := 5) (pc2 := 283) rfl dX12_ruleOf_282 (by decide) ?_
                            refine y_aload_n (x := v0_192) (pc2 := 284) rfl dX12_ruleOf_283 rfl ?_
                            obtain ⟨g129, hf⟩ := y_g hf
                            refine y_getP (pc2 := 287) rfl dX12_ruleOf_284 F_BoxYardModel_19 (by decide) rfl g129 ?_
                            refine y_iload (pc2 := 289) rfl dX12_ruleOf_287 rfl ?_
                            obtain ⟨g128, hf⟩ := y_g hf
                            refine y_iald (pc2 := 290) rfl dX12_ruleOf_289 g128.1 (y_ix_in g128.2) ?_
                            refine y_imul (pc2 := 291) rfl dX12_ruleOf_290 ?_
                            refine y_aload_n (x := v0_192) (pc2 := 292) rfl dX12_ruleOf_291 rfl ?_
                            obtain ⟨g127, hf⟩ := y_g hf
                            refine y_getP (pc2 := 295) rfl dX12_ruleOf_292 F_BoxYardModel_19 (by decide) rfl g127 ?_
                            refine y_iload_n (pc2 := 296) rfl dX12_ruleOf_295 rfl ?_
                            obtain ⟨g126, hf⟩ := y_g hf
                            refine y_iald (pc2 := 297) rfl dX12_ruleOf_296 g126.1 (y_ix_in g126.2) ?_
                            refine y_iadd (pc2 := 298) rfl dX12_ruleOf_297 ?_
                            obtain ⟨g125, hf⟩ := y_g hf
                            refine y_iald (pc2 := 299) rfl dX12_ruleOf_298 g125.1 (y_ix_in g125.2) ?_
                            refine y_icmp_ge (tgt := 304) (pc2 := 302) rfl dX12_ruleOf_299 (by decide) (fun c124 => ?_) (fun c124 => ?_)
                            · replace hf := y_it c124 hf
                              exact y_pk [1, 2, 3, 4, 5, 6, 7] rfl (hj304 _ _ _ _ _ _ _ _ hf)
                            · replace hf := y_ie c124 hf
                              refine y_iconst (v := 4) (pc2 := 303) rfl dX12_ruleOf_302 (by decide) ?_
                              exact y_iretF hf dX12_ruleOf_303 rfl (by decide) (by decide)
            · refine y_istore (lv' := [(7, .int 0), (0, y_p v0_189), (1, .int v1_189), (2, .int v2_189), (3, .int v3_189), (4, .int v4_189), (5, .int v5_189)]) (pc2 := 192) rfl dX12_ruleOf_190 (by decide) rfl ?_
              exact y_pk [1, 2, 3, 4, 5, 6, 0] rfl (hj192 _ _ _ _ _ _ _ _ hf)
          · refine y_icmp_ne (tgt := 189) (pc2 := 175) rfl dX12_ruleOf_172 (by decide) (fun c153 => ?_) (fun c153 => ?_)
            · replace hf := y_ie c153 hf
              exact y_pk [0, 1, 2, 3, 4, 5] rfl (hj189 _ _ _ _ _ _ _ hf)
            · replace hf := y_it c153 hf
              refine y_iload (pc2 := 177) rfl dX12_ruleOf_175 rfl ?_
              refine y_aload_n (x := v0_82) (pc2 := 178) rfl dX12_ruleOf_177 rfl ?_
              obtain ⟨g152, hf⟩ := y_g hf
              refine y_getP (pc2 := 181) rfl dX12_ruleOf_178 F_BoxYardModel_68 (by decide) rfl g152 ?_
              refine y_iload (pc2 := 183) rfl dX12_ruleOf_181 rfl ?_
              obtain ⟨g151, hf⟩ := y_g hf
              refine y_iald (pc2 := 184) rfl dX12_ruleOf_183 g151.1 (y_ix_in g151.2) ?_
              refine y_icmp_lt (tgt := 189) (pc2 := 187) rfl dX12_ruleOf_184 (by decide) (fun c150 => ?_) (fun c150 => ?_)
              · replace hf := y_it c150 hf
                exact y_pk [0, 1, 2, 3, 4, 5] rfl (hj189 _ _ _ _ _ _ _ hf)
              · replace hf := y_ie c150 hf
                refine y_iconst (v := 3) (pc2 := 188) rfl dX12_ruleOf_187 (by decide) ?_
                exact y_iretF hf dX12_ruleOf_188 rfl (by decide) (by decide)
        · replace hf := y_ie c175 hf
          refine y_aload_n (x := v0_82) (pc2 := 90) rfl dX12_ruleOf_89 rfl ?_
          refine y_iload_n (pc2 := 91) rfl dX12_ruleOf_90 rfl ?_
          obtain ⟨g174, hf⟩ := y_g hf
          obtain ⟨r156, h157, c158, hf⟩ := y_clE hf
          refine y_callV (As := [.int v3_82]) (rm := rm_X12_known) (cells := 0) (slots := 0) (pc2 := 94) rfl dX12_ruleOf_91 n_X12_known l_BoxYardModel_290 i_X12_known e_X12_known (ci := 12) rfl rfl (by decide) g174 rfl rfl (by decide) (by decide) (by decide) (k_X12_known c158) ?_
          refine y_istore (lv' := [(8, .int r156), (0, y_p v0_82), (1, .int v1_82), (2, .int v2_82), (3, .int v3_82), (4, .int v4_82), (5, .int v5_82), (7, .int v7_82)]) (pc2 := 96) rfl dX12_ruleOf_94 (by decide) rfl ?_
          refine y_iload (pc2 := 98) rfl dX12_ruleOf_96 rfl ?_
          refine y_iconst (v := 1) (pc2 := 99) rfl dX12_ruleOf_98 (by decide) ?_
          refine y_iadd (pc2 := 100) rfl dX12_ruleOf_99 ?_
          refine y_jlE hf (fun j => ∀ (v0_102 : Nat) (v1_102 : Int32) (v2_102 : Int32) (v3_102 : Int32) (v4_102 : Int32) (v5_102 : Int32) (v7_102 : Int32) (v8_102 : Int32) (v9_102 : Int32) (h159 : y_H), j v0_102 v1_102 v2_102 v3_102 v4_102 v5_102 v7_102 v8_102 v9_102 h159 = some (rz, hz) → y_V l G z rm_X12_ruleOf M_X12_ruleOf ad0 h (some (.int rz)) hz 102 [(0, y_p v0_102), (1, .int v1_102), (2, .int v2_102), (3, .int v3_102), (4, .int v4_102), (5, .int v5_102), (7, .int v7_102), (8, .int v8_102), (9, .int v9_102)] [] h159 0 0) (fun _ _ _ _ _ _ _ _ _ _ hf => by cases hf) (fun j102 hj102 v0_102 v1_102 v2_102 v3_102 v4_102 v5_102 v7_102 v8_102 v9_102 h159 hf => ?_) (fun j102 hj102 hf => ?_)
          · refine y_iload (pc2 := 104) rfl dX12_ruleOf_102 rfl ?_
            refine y_iload (pc2 := 106) rfl dX12_ruleOf_104 rfl ?_
            refine y_icmp_ge (tgt := 136) (pc2 := 109) rfl dX12_ruleOf_106 (by decide) (fun c173 => ?_) (fun c173 => ?_)
            · replace hf := y_it c173 hf
              refine y_iload (pc2 := 138) rfl dX12_ruleOf_136 rfl ?_
              refine y_aload_n (x := v0_102) (pc2 := 139) rfl dX12_ruleOf_138 rfl ?_
              refine y_aload_n (x := v0_102) (pc2 := 140) rfl dX12_ruleOf_139 rfl ?_
              obtain ⟨g166, hf⟩ := y_g hf
              refine y_getP (pc2 := 143) rfl dX12_ruleOf_140 F_BoxYardModel_74 (by decide) rfl g166 ?_
              refine y_iconst (v := 5) (pc2 := 144) rfl dX12_ruleOf_143 (by decide) ?_
              refine y_iload (pc2 := 146) rfl dX12_ruleOf_144 rfl ?_
              refine y_imul (pc2 := 147) rfl dX12_ruleOf_146 ?_
              refine y_iload (pc2 := 149) rfl dX12_ruleOf_147 rfl ?_
              refine y_iadd (pc2 := 150) rfl dX12_ruleOf_149 ?_
              obtain ⟨g165, hf⟩ := y_g hf
              refine y_iald (pc2 := 151) rfl dX12_ruleOf_150 g165.1 (y_ix_in g165.2) ?_
              obtain ⟨g164, hf⟩ := y_g hf
              obtain ⟨r160, h161, c162, hf⟩ := y_clE hf
              refine y_callV (As := [.int (y_I h159 (y_P h159 v0_102 23) (Int32.toNatClampNeg ((5 * v4_102) + v7_102)))]) (rm := rm_X12_bears) (cells := 0) (slots := 0) (pc2 := 154) rfl dX12_ruleOf_151 n_X12_bears l_BoxYardModel_304 i_X12_bears e_X12_bears (ci := 12) rfl rfl (by decide) g164 rfl rfl (by decide) (by simp [y_ci, y_cj, y_p_cat]) (by decide) (k_X12_bears c162) ?_
              refine y_icmp_le (tgt := 159) (pc2 := 157) rfl dX12_ruleOf_154 (by decide) (fun c163 => ?_) (fun c163 => ?_)
              · replace hf := y_it c163 hf
                refine y_iinc (v := v7_102 + 1) (lv' := [(7, .int (v7_102 + 1)), (0, y_p v0_102), (1, .int v1_102), (2, .int v2_102), (3, .int v3_102), (4, .int v4_102), (5, .int v5_102), (8, .int v8_102), (9, .int v9_102)]) (pc2 := 162) rfl dX12_ruleOf_159 rfl rfl (by decide) rfl ?_
                refine y_goto (tgt := 82) dX12_ruleOf_162 (by decide) ?_
                exact y_pk [1, 2, 3, 4, 5, 6, 0] rfl (hj82 _ _ _ _ _ _ _ _ hf)
              · replace hf := y_ie c163 hf
                refine y_iconst (v := 2) (pc2 := 158) rfl dX12_ruleOf_157 (by decide) ?_
                exact y_iretF hf dX12_ruleOf_158 rfl (by decide) (by decide)
            · replace hf := y_ie c173 hf
              refine y_iload (pc2 := 111) rfl dX12_ruleOf_109 rfl ?_
              refine y_aload_n (x := v0_102) (pc2 := 112) rfl dX12_ruleOf_111 rfl ?_
              refine y_aload_n (x := v0_102) (pc2 := 113) rfl dX12_ruleOf_112 rfl ?_
              obtain ⟨g172, hf⟩ := y_g hf
              refine y_getP (pc2 := 116) rfl dX12_ruleOf_113 F_BoxYardModel_74 (by decide) rfl g172 ?_
              refine y_iconst (v := 5) (pc2 := 117) rfl dX12_ruleOf_116 (by decide) ?_
              refine y_iload (pc2 := 119) rfl dX12_ruleOf_117 rfl ?_
              refine y_imul (pc2 := 120) rfl dX12_ruleOf_119 ?_
              refine y_iload (pc2 := 122) rfl dX12_ruleOf_120 rfl ?_
              refine y_iadd (pc2 := 123) rfl dX12_ruleOf_122 ?_
              obtain ⟨g171, hf⟩ := y_g hf
              refine y_iald (pc2 := 124) rfl dX12_ruleOf_123 g171.1 (y_ix_in g171.2) ?_
              obtain ⟨g170, hf⟩ := y_g hf
              obtain ⟨r167, h168, c169, hf⟩ := y_clE hf
              refine y_callV (As := [.int (y_I h159 (y_P h159 v0_102 23) (Int32.toNatClampNeg ((5 * v4_102) + v9_102)))]) (rm := rm_X12_known) (cells := 0) (slots := 0) (pc2 := 127) rfl dX12_ruleOf_124 n_X12_known l_BoxYardModel_290 i_X12_known e_X12_known (ci := 12) rfl rfl (by decide) g170 rfl rfl (by decide) (by simp [y_ci, y_cj, y_p_cat]) (by decide) (k_X12_known c169) ?_
              refine y_iadd (pc2 := 128) rfl dX12_ruleOf_127 ?_
              refine y_istore (lv' := [(8, .int (v8_102 + r167)), (0, y_p v0_102), (1, .int v1_102), (2, .int v2_102), (3, .int v3_102), (4, .int v4_102), (5, .int v5_102), (7, .int v7_102), (9, .int v9_102)]) (pc2 := 130) rfl dX12_ruleOf_128 (by decide) rfl ?_
              refine y_iinc (v := v9_102 + 1) (lv' := [(9, .int (v9_102 + 1)), (8, .int (v8_102 + r167)), (0, y_p v0_102), (1, .int v1_102), (2, .int v2_102), (3, .int v3_102), (4, .int v4_102), (5, .int v5_102), (7, .int v7_102)]) (pc2 := 133) rfl dX12_ruleOf_130 rfl rfl (by decide) rfl ?_
              refine y_goto (tgt := 102) dX12_ruleOf_133 (by decide) ?_
              exact y_pk [2, 3, 4, 5, 6, 7, 8, 1, 0] rfl (hj102 _ _ _ _ _ _ _ _ _ _ hf)
          · refine y_istore (lv' := [(9, .int (v7_82 + 1)), (8, .int r156), (0, y_p v0_82), (1, .int v1_82), (2, .int v2_82), (3, .int v3_82), (4, .int v4_82), (5, .int v5_82), (7, .int v7_82)]) (pc2 := 102) rfl dX12_ruleOf_100 (by decide) rfl ?_
            exact y_pk [2, 3, 4, 5, 6, 7, 8, 1, 0] rfl (hj102 _ _ _ _ _ _ _ _ _ _ hf)
      · refine y_istore (lv' := [(7, .int 0), (0, y_p v0_79), (1, .int v1_79), (2, .int v2_79), (3, .int v3_79), (4, .int v4_79), (5, .int v5_79)]) (pc2 := 82) rfl dX12_ruleOf_80 (by decide) rfl ?_
        exact y_pk [1, 2, 3, 4, 5, 6, 0] rfl (hj82 _ _ _ _ _ _ _ _ hf)
    · refine y_if_lt (tgt := 79) (pc2 := 47) rfl dX12_ruleOf_44 (by decide) (fun c188 => ?_) (fun c188 => ?_)
      · replace hf := y_it c188 hf
        exact y_pk [3, 4, 5, 6, 2, 1] rfl (hj79 _ _ _ _ _ _ _ hf)
      · replace hf := y_ie c188 hf
        refine y_aload_n (x := p0) (pc2 := 48) rfl dX12_ruleOf_47 rfl ?_
        refine y_iload (pc2 := 50) rfl dX12_ruleOf_48 rfl ?_
        obtain ⟨g187, hf⟩ := y_g hf
        obtain ⟨r176, h177, c178, hf⟩ := y_clE hf
        refine y_callV (As := [.int (y_I h (y_P h p0 23) (Int32.toNatClampNeg (((5 * ((6 * p1) + p2)) + (y_I h (y_P h p0 22) (Int32.toNatClampNeg ((6 * p1) + p2)))) - 1)))]) (rm := rm_X12_isOpen) (cells := 0) (slots := 0) (pc2 := 53) rfl dX12_ruleOf_50 n_X12_isOpen l_BoxYardModel_372 i_X12_isOpen e_X12_isOpen (ci := 12) rfl rfl (by decide) g187 rfl rfl (by decide) (by decide) (by decide) (k_X12_isOpen c178) ?_
        refine y_jnE hf (fun j => ∀ (h179 : y_H), j h179 = some (rz, hz) → y_V l G z rm_X12_ruleOf M_X12_ruleOf ad0 h (some (.int rz)) hz 77 [] [] h179 0 0) (fun h179 hf => ?_) (fun j77 hj77 hf => ?_)
        · refine y_iconst (v := 1) (pc2 := 78) rfl dX12_ruleOf_77 (by decide) ?_
          exact y_iretF hf dX12_ruleOf_78 rfl (by decide) (by decide)
        · refine y_ifz_ne (tgt := 77) (pc2 := 56) rfl dX12_ruleOf_53 (by decide) (fun c186 => ?_) (fun c186 => ?_)
          · replace hf := y_it c186 hf
            exact y_pk [] rfl (hj77 _ hf)
          · replace hf := y_ie c186 hf
            refine y_aload_n (x := p0) (pc2 := 57) rfl dX12_ruleOf_56 rfl ?_
            obtain ⟨g185, hf⟩ := y_g hf
            refine y_getP (pc2 := 60) rfl dX12_ruleOf_57 F_BoxYardModel_7 (by decide) rfl g185 ?_
            refine y_iload (pc2 := 62) rfl dX12_ruleOf_60 rfl ?_
            obtain ⟨g184, hf⟩ := y_g hf
            refine y_iald (pc2 := 63) rfl dX12_ruleOf_62 g184.1 (y_ix_in g184.2) ?_
            refine y_iconst (v := 5) (pc2 := 64) rfl dX12_ruleOf_63 (by decide) ?_
            refine y_icmp_ne (tgt := 79) (pc2 := 67) rfl dX12_ruleOf_64 (by decide) (fun c183 => ?_) (fun c183 => ?_)
            · replace hf := y_ie c183 hf
              exact y_pk [3, 4, 5, 6, 2, 1] rfl (hj79 _ _ _ _ _ _ _ hf)
            · replace hf := y_it c183 hf
              refine y_aload_n (x := p0) (pc2 := 68) rfl dX12_ruleOf_67 rfl ?_
              obtain ⟨g182, hf⟩ := y_g hf
              refine y_getP (pc2 := 71) rfl dX12_ruleOf_68 F_BoxYardModel_7 (by decide) rfl g182 ?_
              refine y_iload_n (pc2 := 72) rfl dX12_ruleOf_71 rfl ?_
              obtain ⟨g181, hf⟩ := y_g hf
              refine y_iald (pc2 := 73) rfl dX12_ruleOf_72 g181.1 (y_ix_in g181.2) ?_
              refine y_iconst (v := 5) (pc2 := 74) rfl dX12_ruleOf_73 (by decide) ?_
              refine y_icmp_eq (tgt := 79) (pc2 := 77) rfl dX12_ruleOf_74 (by decide) (fun c180 => ?_) (fun c180 => ?_)
              · replace hf := y_it c180 hf
                exact y_pk [3, 4, 5, 6, 2, 1] rfl (hj79 _ _ _ _ _ _ _ hf)
              · replace hf := y_ie c180 hf
                exact y_pk [] rfl (hj77 _ hf)
theorem dX12_judged_0 : decode cX12_judged 0 = .ok (.aload_n 0, 1) := by decide +kernel
theorem dX12_judged_1 : decode cX12_judged 1 = .ok (.iload_n 1, 1) := by decide +kernel
theorem dX12_judged_2 : decode cX12_judged 2 = .ok (.invokevirtual 348, 3) := by decide +kernel
theorem dX12_judged_5 : decode cX12_judged 5 = .ok (.ifCond .eq 6, 3) := by decide +kernel
theorem dX12_judged_8 : decode cX12_judged 8 = .ok (.bipush 6, 2) := by decide +kernel
theorem dX12_judged_10 : decode cX12_judged 10 = .ok (.ireturn, 1) := by decide +kernel
theorem dX12_judged_11 : decode cX12_judged 11 = .ok (.aload_n 0, 1) := by decide +kernel
theorem dX12_judged_12 : decode cX12_judged 12 = .ok (.getfield 86, 3) := by decide +kernel
theorem dX12_judged_15 : decode cX12_judged 15 = .ok (.iload_n 1, 1) := by decide +kernel
theorem dX12_judged_16 : decode cX12_judged 16 = .ok (.iaload, 1) := by decide +kernel
theorem dX12_judged_17 : decode cX12_judged 17 = .ok (.istore_n 3, 1) := by decide +kernel
theorem dX12_judged_18 : decode cX12_judged 18 = .ok (.aload_n 0, 1) := by decide +kernel
theorem dX12_judged_19 : decode cX12_judged 19 = .ok (.getfield 56, 3) := by decide +kernel
theorem dX12_judged_22 : decode cX12_judged 22 = .ok (.iload_n 3, 1) := by decide +kernel
theorem dX12_judged_23 : decode cX12_judged 23 = .ok (.baload, 1) := by decide +kernel
theorem dX12_judged_24 : decode cX12_judged 24 = .ok (.ifCond .ne 6, 3) := by decide +kernel
theorem dX12_judged_27 : decode cX12_judged 27 = .ok (.bipush 61, 2) := by decide +kernel
theorem dX12_judged_29 : decode cX12_judged 29 = .ok (.ireturn, 1) := by decide +kernel
theorem dX12_judged_30 : decode cX12_judged 30 = .ok (.aload_n 0, 1) := by decide +kernel
theorem dX12_judged_31 : decode cX12_judged 31 = .ok (.iload_n 3, 1) := by decide +kernel
theorem dX12_judged_32 : decode cX12_judged 32 = .ok (.iload_n 2, 1) := by decide +kernel
theorem dX12_judged_33 : decode cX12_judged 33 = .ok (.invokevirtual 319, 3) := by decide +kernel
theorem dX12_judged_36 : decode cX12_judged 36 = .ok (.ifCond .eq 28, 3) := by decide +kernel
theorem dX12_judged_39 : decode cX12_judged 39 = .ok (.aload_n 0, 1) := by decide +kernel
theorem dX12_judged_40 : decode cX12_judged 40 = .ok (.getfield 71, 3) := by decide +kernel
theorem dX12_judged_43 : decode cX12_judged 43 = .ok (.bipush 6, 2) := by decide +kernel
theorem dX12_judged_45 : decode cX12_judged 45 = .ok (.iload_n 3, 1) := by decide +kernel
theorem dX12_judged_46 : decode cX12_judged 46 = .ok (.imul, 1) := by decide +kernel
theorem dX12_judged_47 : decode cX12_judged 47 = .ok (.iload_n 2, 1) := by decide +kernel
theorem dX12_judged_48 : decode cX12_judged 48 = .ok (.iadd, 1) := by decide +kernel
theorem dX12_judged_49 : decode cX12_judged 49 = .ok (.iaload, 1) := by decide +kernel
theorem dX12_judged_50 : decode cX12_judged 50 = .ok (.aload_n 0, 1) := by decide +kernel
theorem dX12_judged_51 : decode cX12_judged 51 = .ok (.getfield 65, 3) := by decide +kernel
theorem dX12_judged_54 : decode cX12_judged 54 = .ok (.bipush 6, 2) := by decide +kernel
theorem dX12_judged_56 : decode cX12_judged 56 = .ok (.iload_n 3, 1) := by decide +kernel
theorem dX12_judged_57 : decode cX12_judged 57 = .ok (.imul, 1) := by decide +kernel
theorem dX12_judged_58 : decode cX12_judged 58 = .ok (.iload_n 2, 1) := by decide +kernel
theorem dX12_judged_59 : decode cX12_judged 59 = .ok (.iadd, 1) := by decide +kernel
theorem dX12_judged_60 : decode cX12_judged 60 = .ok (.iaload, 1) := by decide +kernel
theorem dX12_judged_61 : decode cX12_judged 61 = .ok (.if_icmp .ne 6, 3) := by decide +kernel
theorem dX12_judged_64 : decode cX12_judged 64 = .ok (.bipush 62, 2) := by decide +kernel
theorem dX12_judged_66 : decode cX12_judged 66 = .ok (.ireturn, 1) := by decide +kernel
theorem dX12_judged_67 : decode cX12_judged 67 = .ok (.aload_n 0, 1) := by decide +kernel
theorem dX12_judged_68 : decode cX12_judged 68 = .ok (.iload_n 1, 1) := by decide +kernel
theorem dX12_judged_69 : decode cX12_judged 69 = .ok (.iload_n 2, 1) := by decide +kernel
theorem dX12_judged_70 : decode cX12_judged 70 = .ok (.aload_n 0, 1) := by decide +kernel
theorem dX12_judged_71 : decode cX12_judged 71 = .ok (.getfield 71, 3) := by decide +kernel
theorem dX12_judged_74 : decode cX12_judged 74 = .ok (.bipush 6, 2) := by decide +kernel
theorem dX12_judged_76 : decode cX12_judged 76 = .ok (.iload_n 3, 1) := by decide +kernel
theorem dX12_judged_77 : decode cX12_judged 77 = .ok (.imul, 1) := by decide +kernel
theorem dX12_judged_78 : decode cX12_judged 78 = .ok (.iload_n 2, 1) := by decide +kernel
theorem dX12_judged_79 : decode cX12_judged 79 = .ok (.iadd, 1) := by decide +kernel
theorem dX12_judged_80 : decode cX12_judged 80 = .ok (.iaload, 1) := by decide +kernel
theorem dX12_judged_81 : decode cX12_judged 81 = .ok (.invokevirtual 369, 3) := by decide +kernel
theorem dX12_judged_84 : decode cX12_judged 84 = .ok (.ifCond .ne 6, 3) := by decide +kernel
theorem dX12_judged_87 : decode cX12_judged 87 = .ok (.bipush 8, 2) := by decide +kernel
theorem dX12_judged_89 : decode cX12_judged 89 = .ok (.ireturn, 1) := by decide +kernel
theorem dX12_judged_90 : decode cX12_judged 90 = .ok (.aload_n 0, 1) := by decide +kernel
theorem dX12_judged_91 : decode cX12_judged 91 = .ok (.iload_n 3, 1) := by decide +kernel
theorem dX12_judged_92 : decode cX12_judged 92 = .ok (.iload_n 2, 1) := by decide +kernel
theorem dX12_judged_93 : decode cX12_judged 93 = .ok (.aload_n 0, 1) := by decide +kernel
theorem dX12_judged_94 : decode cX12_judged 94 = .ok (.getfield 89, 3) := by decide +kernel
theorem dX12_judged_97 : decode cX12_judged 97 = .ok (.iload_n 1, 1) := by decide +kernel
theorem dX12_judged_98 : decode cX12_judged 98 = .ok (.iaload, 1) := by decide +kernel
theorem dX12_judged_99 : decode cX12_judged 99 = .ok (.invokevirtual 375, 3) := by decide +kernel
theorem dX12_judged_102 : decode cX12_judged 102 = .ok (.istore 4, 2) := by decide +kernel
theorem dX12_judged_104 : decode cX12_judged 104 = .ok (.iload 4, 2) := by decide +kernel
theorem dX12_judged_106 : decode cX12_judged 106 = .ok (.ifCond .le 8, 3) := by decide +kernel
theorem dX12_judged_109 : decode cX12_judged 109 = .ok (.iload 4, 2) := by decide +kernel
theorem dX12_judged_111 : decode cX12_judged 111 = .ok (.goto 32, 3) := by decide +kernel
theorem dX12_judged_114 : decode cX12_judged 114 = .ok (.aload_n 0, 1) := by decide +kernel
theorem dX12_judged_115 : decode cX12_judged 115 = .ok (.getfield 59, 3) := by decide +kernel
theorem dX12_judged_118 : decode cX12_judged 118 = .ok (.iload_n 3, 1) := by decide +kernel
theorem dX12_judged_119 : decode cX12_judged 119 = .ok (.iaload, 1) := by decide +kernel
theorem dX12_judged_120 : decode cX12_judged 120 = .ok (.aload_n 0, 1) := by decide +kernel
theorem dX12_judged_121 : decode cX12_judged 121 = .ok (.getfield 7, 3) := by decide +kernel
theorem dX12_judged_124 : decode cX12_judged 124 = .ok (.aload_n 0, 1) := by decide +kernel
theorem dX12_judged_125 : decode cX12_judged 125 = .ok (.getfield 89, 3) := by decide +kernel
theorem dX12_judged_128 : decode cX12_judged 128 = .ok (.iload_n 1, 1) := by decide +kernel
theorem dX12_judged_129 : decode cX12_judged 129 = .ok (.iaload, 1) := by decide +kernel
theorem dX12_judged_130 : decode cX12_judged 130 = .ok (.iaload, 1) := by decide +kernel
theorem dX12_judged_131 : decode cX12_judged 131 = .ok (.invokestatic 379, 3) := by decide +kernel
theorem dX12_judged_134 : decode cX12_judged 134 = .ok (.ifCond .eq 7, 3) := by decide +kernel
theorem dX12_judged_137 : decode cX12_judged 137 = .ok (.iconst 0, 1) := by decide +kernel
theorem dX12_judged_138 : decode cX12_judged 138 = .ok (.goto 5, 3) := by decide +kernel
theorem dX12_judged_141 : decode cX12_judged 141 = .ok (.bipush 64, 2) := by decide +kernel
theorem dX12_judged_143 : decode cX12_judged 143 = .ok (.ireturn, 1) := by decide +kernel
def M_X12_judged : y_M := (yX12_judged, cX12_judged, 5, (Option.some Jvm.ClassFile.FieldType.int))
theorem n_X12_judged : y_N0 M_X12_judged 2 := ⟨(c_9 106 (by decide +kernel) rfl), (c_1 9 (by decide +kernel) rfl), ⟨by decide +kernel, by decide +kernel⟩, by decide +kernel⟩
theorem l_BoxYardModel_375 : y_lnk "BoxYardModel" 375 M_X12_ruleOf := Or.inl (c_9 107 (by decide +kernel) rfl)
theorem i_X12_ruleOf : Cond.instanceMethod (M_X12_ruleOf).1 ∈ y_tb := (c_9 109 (by decide +kernel) rfl)
theorem e_X12_ruleOf : Cond.selects (M_X12_ruleOf).1.cls (M_X12_ruleOf).1 (M_X12_ruleOf).1 ∈ y_tb := (m_s 84 (by decide +kernel) rfl)
theorem l_BoxYardModel_379 : y_lnk "BoxYardModel" 379 M_X12_goesInto := Or.inl (c_9 115 (by decide +kernel) rfl)
theorem t_X12_goesInto : Cond.static (M_X12_goesInto).1 ∈ y_tb := (c_9 116 (by decide +kernel) rfl)
set_option maxRecDepth 100000 in
def f_X12_judged (p0 : Nat) (p1 : Int32) (p2 : Int32) (h : y_H) : Option (Int32 × y_H) :=
  if y_K h p0 = 13 then
  y_cl (f_X12_isWindy p0 p1 h) (fun r1 h2 =>
  if r1 = true then
    some (6, h2)
  else
    if y_K h2 p0 = 13 then
    if y_K h2 (y_P h2 p0 28) = 100 ∧ y_ix p1 (y_N h2 (y_P h2 p0 28)) = true then
    if y_K h2 p0 = 13 then
    if y_K h2 (y_P h2 p0 17) = 102 ∧ y_ix (y_I h2 (y_P h2 p0 28) (Int32.toNatClampNeg p1)) (y_N h2 (y_P h2 p0 17)) = true then
    if (y_B h2 (y_P h2 p0 17) (Int32.toNatClampNeg (y_I h2 (y_P h2 p0 28) (Int32.toNatClampNeg p1)))) = true then
      if y_K h2 p0 = 13 then
      y_cl (f_X12_isStack p0 (y_I h2 (y_P h2 p0 28) (Int32.toNatClampNeg p1)) p2 h2) (fun r4 h5 =>
      y_jn (fun (h7 : y_H) => (
          some (62, h7) : Option (Int32 × y_H))) (fun j64 =>
      if r4 = true then
        if y_K h5 p0 = 13 then
        if y_K h5 (y_P h5 p0 22) = 100 ∧ y_ix ((6 * (y_I h2 (y_P h2 p0 28) (Int32.toNatClampNeg p1))) + p2) (y_N h5 (y_P h5 p0 22)) = true then
        if y_K h5 p0 = 13 then
        if y_K h5 (y_P h5 p0 20) = 100 ∧ y_ix ((6 * (y_I h2 (y_P h2 p0 28) (Int32.toNatClampNeg p1))) + p2) (y_N h5 (y_P h5 p0 20)) = true then
        if (y_I h5 (y_P h5 p0 22) (Int32.toNatClampNeg ((6 * (y_I h2 (y_P h2 p0 28) (Int32.toNatClampNeg p1))) + p2))) = (y_I h5 (y_P h5 p0 20) (Int32.toNatClampNeg ((6 * (y_I h2 (y_P h2 p0 28) (Int32.toNatClampNeg p1))) + p2))) then
          j64 h5
        else
          if y_K h5 p0 = 13 then
          if y_K h5 (y_P h5 p0 22) = 100 ∧ y_ix ((6 * (y_I h2 (y_P h2 p0 28) (Int32.toNatClampNeg p1))) + p2) (y_N h5 (y_P h5 p0 22)) = true then
          if y_K h5 p0 = 13 then
          y_cl (f_X12_reaches p0 p1 p2 (y_I h5 (y_P h5 p0 22) (Int32.toNatClampNeg ((6 * (y_I h2 (y_P h2 p0 28) (Int32.toNatClampNeg p1))) + p2))) h5) (fun r8 h9 =>
          if r8 = true then
            if y_K h9 p0 = 13 then
            if y_K h9 (y_P h9 p0 29) = 100 ∧ y_ix p1 (y_N h9 (y_P h9 p0 29)) = true then
            if y_K h9 p0 = 13 then
            y_cl (f_X12_ruleOf p0 (y_I h2 (y_P h2 p0 28) (Int32.toNatClampNeg p1)) p2 (y_I h9 (y_P h9 p0 29) (Int32.toNatClampNeg p1)) h9) (fun r11 h12 =>
            if r11 ≤ 0 then
              if y_K h12 p0 = 13 then
              if y_K h12 (y_P h12 p0 18) = 100 ∧ y_ix (y_I h2 (y_P h2 p0 28) (Int32.toNatClampNeg p1)) (y_N h12 (y_P h12 p0 18)) = true then
              if y_K h12 p0 = 13 then
              if y_K h12 p0 = 13 then
              if y_K h12 (y_P h12 p0 29) = 100 ∧ y_ix p1 (y_N h12 (y_P h12 p0 29)) = true then
              if y_K h12 (y_P h12 p0 1) = 100 ∧ y_ix (y_I h12 (y_P h12 p0 29) (Int32.toNatClampNeg p1)) (y_N h12 (y_P h12 p0 1)) = true then
              y_cl (f_X12_goesInto (y_I h12 (y_P h12 p0 18) (Int32.toNatClampNeg (y_I h2 (y_P h2 p0 28) (Int32.toNatClampNeg p1)))) (y_I h12 (y_P h12 p0 1) (Int32.toNatClampNeg (y_I h12 (y_P h12 p0 29) (Int32.toNatClampNeg p1)))) h12) (fun r14 h15 =>
              if r14 = true then
                some (0, h15)
              else
                some (64, h15))
              else none
              else none
              else none
              else none
              else none
              else none
            else
              some (r11, h12))
            else none
            else none
            else none
          else
            some (8, h9))
          else none
          else none
          else none
        else none
        else none
        else none
        else none
      else
        j64 h5))
      else none
    else
      some (61, h2)
    else none
    else none
    else none
    else none)
  else none
abbrev rm_X12_judged : Room := { frames := 3, cells := 0, slots := 0, locals := 72 }
set_option maxRecDepth 100000 in
set_option maxHeartbeats 4000000 in
theorem k_X12_judged {l : Launch} {G : y_G} {p0 : Nat} {p1 : Int32} {p2 : Int32} {h hz : y_H} {rz : Int32} (hf : f_X12_judged p0 p1 p2 h = some (rz, hz)) : y_S l G M_X12_judged rm_X12_judged [y_p p0, .int p1, .int p2] h (some (.int rz)) hz := by
  refine y_start (lv := [(0, y_p p0), (1, .int p1), (2, .int p2)]) (by decide) (by simp [lg_sl, y_p_cat, y_ci, y_cj, M_X12_judged]) (by simp [lv_args, y_p_cat, y_ci, y_cj]) (fun z ad0 => ?_)
  unfold f_X12_judged at hf
  refine y_aload_n (x := p0) (pc2 := 1) rfl dX12_judged_0 rfl ?_
  refine y_iload_n (pc2 := 2) rfl dX12_judged_1 rfl ?_
  obtain ⟨g45, hf⟩ := y_g hf
  obtain ⟨r1, h2, c3, hf⟩ := y_clE hf
  refine y_callV (As := [.int p1]) (rm := rm_X12_isWindy) (cells := 0) (slots := 0) (pc2 := 5) rfl dX12_judged_2 n_X12_isWindy l_BoxYardModel_348 i_X12_isWindy e_X12_isWindy (ci := 12) rfl rfl (by decide) g45 rfl rfl (by decide) (by decide) (by decide) (k_X12_isWindy c3) ?_
  refine y_ifz_eq (tgt := 11) (pc2 := 8) rfl dX12_judged_5 (by decide) (fun c44 => ?_) (fun c44 => ?_)
  · replace hf := y_ie c44 hf
    refine y_aload_n (x := p0) (pc2 := 12) rfl dX12_judged_11 rfl ?_
    obtain ⟨g43, hf⟩ := y_g hf
    refine y_getP (pc2 := 15) rfl dX12_judged_12 F_BoxYardModel_86 (by decide) rfl g43 ?_
    refine y_iload_n (pc2 := 16) rfl dX12_judged_15 rfl ?_
    obtain ⟨g42, hf⟩ := y_g hf
    refine y_iald (pc2 := 17) rfl dX12_judged_16 g42.1 (y_ix_in g42.2) ?_
    refine y_istore_n (lv' := [(3, .int (y_I h2 (y_P h2 p0 28) (Int32.toNatClampNeg p1))), (0, y_p p0), (1, .int p1), (2, .int p2)]) (pc2 := 18) rfl dX12_judged_17 (by decide) rfl ?_
    refine y_aload_n (x := p0) (pc2 := 19) rfl dX12_judged_18 rfl ?_
    obtain ⟨g41, hf⟩ := y_g hf
    refine y_getP (pc2 := 22) rfl dX12_judged_19 F_BoxYardModel_56 (by decide) rfl g41 ?_
    refine y_iload_n (pc2 := 23) rfl dX12_judged_22 rfl ?_
    obtain ⟨g40, hf⟩ := y_g hf
    refine y_zald (pc2 := 24) rfl dX12_judged_23 g40.1 (y_ix_in g40.2) ?_
    refine y_ifz_ne (tgt := 30) (pc2 := 27) rfl dX12_judged_24 (by decide) (fun c39 => ?_) (fun c39 => ?_)
    · replace hf := y_it c39 hf
      refine y_aload_n (x := p0) (pc2 := 31) rfl dX12_judged_30 rfl ?_
      refine y_iload_n (pc2 := 32) rfl dX12_judged_31 rfl ?_
      refine y_iload_n (pc2 := 33) rfl dX12_judged_32 rfl ?_
      obtain ⟨g38, hf⟩ := y_g hf
      obtain ⟨r4, h5, c6, hf⟩ := y_clE hf
      refine y_callV (As := [.int (y_I h2 (y_P h2 p0 28) (Int32.toNatClampNeg p1)), .int p2]) (rm := rm_X12_isStack) (cells := 0) (slots := 0) (pc2 := 36) rfl dX12_judged_33 n_X12_isStack l_BoxYardModel_319 i_X12_isStack e_X12_isStack (ci := 12) rfl rfl (by decide) g38 rfl rfl (by decide) (by decide) (by decide) (k_X12_isStack c6) ?_
      refine y_jnE hf (fun j => ∀ (h7 : y_H), j h7 = some (rz, hz) → y_V l G z rm_X12_judged M_X12_judged ad0 h (some (.int rz)) hz 64 [] [] h7 0 0) (fun h7 hf => ?_) (fun j64 hj64 hf => ?_)
      · refine y_bipush (v := 62) (pc2 := 66) rfl dX12_judged_64 (by decide) ?_
        exact y_iretF hf dX12_judged_66 rfl (by decide) (by decide)
      · refine y_ifz_eq (tgt := 64) (pc2 := 39) rfl dX12_judged_36 (by decide) (fun c37 => ?_) (fun c37 => ?_)
        · replace hf := y_ie c37 hf
          exact y_pk [] rfl (hj64 _ hf)
        · replace hf := y_it c37 hf
          refine y_aload_n (x := p0) (pc2 := 40) rfl dX12_judged_39 rfl ?_
          obtain ⟨g36, hf⟩ := y_g hf
          refine y_getP (pc2 := 43) rfl dX12_judged_40 F_BoxYardModel_71 (by decide) rfl g36 ?_
          refine y_bipush (v := 6) (pc2 := 45) rfl dX12_judged_43 (by decide) ?_
          refine y_iload_n (pc2 := 46) rfl dX12_judged_45 rfl ?_
          refine y_imul (pc2 := 47) rfl dX12_judged_46 ?_
          refine y_iload_n (pc2 := 48) rfl dX12_judged_47 rfl ?_
          refine y_iadd (pc2 := 49) rfl dX12_judged_48 ?_
          obtain ⟨g35, hf⟩ := y_g hf
          refine y_iald (pc2 := 50) rfl dX12_judged_49 g35.1 (y_ix_in g35.2) ?_
          refine y_aload_n (x := p0) (pc2 := 51) rfl dX12_judged_50 rfl ?_
          obtain ⟨g34, hf⟩ := y_g hf
          refine y_getP (pc2 := 54) rfl dX12_judged_51 F_BoxYardModel_65 (by decide) rfl g34 ?_
          refine y_bipush (v := 6) (pc2 := 56) rfl dX12_judged_54 (by decide) ?_
          refine y_iload_n (pc2 := 57) rfl dX12_judged_56 rfl ?_
          refine y_imul (pc2 := 58) rfl dX12_judged_57 ?_
          refine y_iload_n (pc2 := 59) rfl dX12_judged_58 rfl ?_
          refine y_iadd (pc2 := 60) rfl dX12_judged_59 ?_
          obtain ⟨g33, hf⟩ := y_g hf
          refine y_iald (pc2 := 61) rfl dX12_judged_60 g33.1 (y_ix_in g33.2) ?_
          refine y_icmp_ne (tgt := 67) (pc2 := 64) rfl dX12_judged_61 (by decide) (fun c32 => ?_) (fun c32 => ?_)
          · replace hf := y_ie c32 hf
            refine y_aload_n (x := p0) (pc2 := 68) rfl dX12_judged_67 rfl ?_
            refine y_iload_n (pc2 := 69) rfl dX12_judged_68 rfl ?_
            refine y_iload_n (pc2 := 70) rfl dX12_judged_69 rfl ?_
            refine y_aload_n (x := p0) (pc2 := 71) rfl dX12_judged_70 rfl ?_
            obtain ⟨g31, hf⟩ := y_g hf
            refine y_getP (pc2 := 74) rfl dX12_judged_71 F_BoxYardModel_71 (by decide) rfl g31 ?_
            refine y_bipush (v := 6) (pc2 := 76) rfl dX12_judged_74 (by decide) ?_
            refine y_iload_n (pc2 := 77) rfl dX12_judged_76 rfl ?_
            refine y_imul (pc2 := 78) rfl dX12_judged_77 ?_
            refine y_iload_n (pc2 := 79) rfl dX12_judged_78 rfl ?_
            refine y_iadd (pc2 := 80) rfl dX12_judged_79 ?_
            obtain ⟨g30, hf⟩ := y_g hf
            refine y_iald (pc2 := 81) rfl dX12_judged_80 g30.1 (y_ix_in g30.2) ?_
            obtain ⟨g29, hf⟩ := y_g hf
            obtain ⟨r8, h9, c10, hf⟩ := y_clE hf
            refine y_callV (As := [.int p1, .int p2, .int (y_I h5 (y_P h5 p0 22) (Int32.toNatClampNeg ((6 * (y_I h2 (y_P h2 p0 28) (Int32.toNatClampNeg p1))) + p2)))]) (rm := rm_X12_reaches) (cells := 0) (slots := 0) (pc2 := 84) rfl dX12_judged_81 n_X12_reaches l_BoxYardModel_369 i_X12_reaches e_X12_reaches (ci := 12) rfl rfl (by decide) g29 rfl rfl (by decide) (by decide) (by decide) (k_X12_reaches c10) ?_
            refine y_ifz_ne (tgt := 90) (pc2 := 87) rfl dX12_judged_84 (by decide) (fun c28 => ?_) (fun c28 => ?_)
            · replace hf := y_it c28 hf
              refine y_aload_n (x := p0) (pc2 := 91) rfl dX12_judged_90 rfl ?_
              refine y_iload_n (pc2 := 92) rfl dX12_judged_91 rfl ?_
              refine y_iload_n (pc2 := 93) rfl dX12_judged_92 rfl ?_
              refine y_aload_n (x := p0) (pc2 := 94) rfl dX12_judged_93 rfl ?_
              obtain ⟨g27, hf⟩ := y_g hf
              refine y_getP (pc2 := 97) rfl dX12_judged_94 F_BoxYardModel_89 (by decide) rfl g27 ?_
              refine y_iload_n (pc2 := 98) rfl dX12_judged_97 rfl ?_
              obtain ⟨g26, hf⟩ := y_g hf
              refine y_iald (pc2 := 99) rfl dX12_judged_98 g26.1 (y_ix_in g26.2) ?_
              obtain ⟨g25, hf⟩ := y_g hf
              obtain ⟨r11, h12, c13, hf⟩ := y_clE hf
              refine y_callV (As := [.int (y_I h2 (y_P h2 p0 28) (Int32.toNatClampNeg p1)), .int p2, .int (y_I h9 (y_P h9 p0 29) (Int32.toNatClampNeg p1))]) (rm := rm_X12_ruleOf) (cells := 0) (slots := 0) (pc2 := 102) rfl dX12_judged_99 n_X12_ruleOf l_BoxYardModel_375 i_X12_ruleOf e_X12_ruleOf (ci := 12) rfl rfl (by decide) g25 rfl rfl (by decide) (by decide) (by decide) (k_X12_ruleOf c13) ?_
              refine y_istore (lv' := [(4, .int r11), (3, .int (y_I h2 (y_P h2 p0 28) (Int32.toNatClampNeg p1))), (0, y_p p0), (1, .int p1), (2, .int p2)]) (pc2 := 104) rfl dX12_judged_102 (by decide) rfl ?_
              refine y_iload (pc2 := 106) rfl dX12_judged_104 rfl ?_
              refine y_if_le (tgt := 114) (pc2 := 109) rfl dX12_judged_106 (by decide) (fun c24 => ?_) (fun c24 => ?_)
              · replace hf := y_it c24 hf
                refine y_aload_n (x := p0) (pc2 := 115) rfl dX12_judged_114 rfl ?_
                obtain ⟨g23, hf⟩ := y_g hf
                refine y_getP (pc2 := 118) rfl dX12_judged_115 F_BoxYardModel_59 (by decide) rfl g23 ?_
                refine y_iload_n (pc2 := 119) rfl dX12_judged_118 rfl ?_
                obtain ⟨g22, hf⟩ := y_g hf
                refine y_iald (pc2 := 120) rfl dX12_judged_119 g22.1 (y_ix_in g22.2) ?_
                refine y_aload_n (x := p0) (pc2 := 121) rfl dX12_judged_120 rfl ?_
                obtain ⟨g21, hf⟩ := y_g hf
                refine y_getP (pc2 := 124) rfl dX12_judged_121 F_BoxYardModel_7 (by decide) rfl g21 ?_
                refine y_aload_n (x := p0) (pc2 := 125) rfl dX12_judged_124 rfl ?_
                obtain ⟨g20, hf⟩ := y_g hf
                refine y_getP (pc2 := 128) rfl dX12_judged_125 F_BoxYardModel_89 (by decide) rfl g20 ?_
                refine y_iload_n (pc2 := 129) rfl dX12_judged_128 rfl ?_
                obtain ⟨g19, hf⟩ := y_g hf
                refine y_iald (pc2 := 130) rfl dX12_judged_129 g19.1 (y_ix_in g19.2) ?_
                obtain ⟨g18, hf⟩ := y_g hf
                refine y_iald (pc2 := 131) rfl dX12_judged_130 g18.1 (y_ix_in g18.2) ?_
                obtain ⟨r14, h15, c16, hf⟩ := y_clE hf
                refine y_callS (As := [.int (y_I h12 (y_P h12 p0 18) (Int32.toNatClampNeg (y_I h2 (y_P h2 p0 28) (Int32.toNatClampNeg p1)))), .int (y_I h12 (y_P h12 p0 1) (Int32.toNatClampNeg (y_I h12 (y_P h12 p0 29) (Int32.toNatClampNeg p1))))]) (rm := rm_X12_goesInto) (cells := 0) (slots := 0) (pc2 := 134) rfl dX12_judged_131 n_X12_goesInto l_BoxYardModel_379 t_X12_goesInto rfl rfl (by decide) (by decide) (by decide) (k_X12_goesInto c16) ?_
                refine y_ifz_eq (tgt := 141) (pc2 := 137) rfl dX12_judged_134 (by decide) (fun c17 => ?_) (fun c17 => ?_)
                · replace hf := y_ie c17 hf
                  refine y_bipush (v := 64) (pc2 := 143) rfl dX12_judged_141 (by decide) ?_
                  exact y_iretF hf dX12_judged_143 rfl (by decide) (by decide)
                · replace hf := y_it c17 hf
                  refine y_iconst (v := 0) (pc2 := 138) rfl dX12_judged_137 (by decide) ?_
                  refine y_goto (tgt := 143) dX12_judged_138 (by decide) ?_
                  exact y_iretF hf dX12_judged_143 rfl (by decide) (by decide)
              · replace hf := y_ie c24 hf
                refine y_iload (pc2 := 111) rfl dX12_judged_109 rfl ?_
                refine y_goto (tgt := 143) dX12_judged_111 (by decide) ?_
                exact y_iretF hf dX12_judged_143 rfl (by decide) (by decide)
            · replace hf := y_ie c28 hf
              refine y_bipush (v := 8) (pc2 := 89) rfl dX12_judged_87 (by decide) ?_
              exact y_iretF hf dX12_judged_89 rfl (by decide) (by decide)
          · replace hf := y_it c32 hf
            exact y_pk [] rfl (hj64 _ hf)
    · replace hf := y_ie c39 hf
      refine y_bipush (v := 61) (pc2 := 29) rfl dX12_judged_27 (by decide) ?_
      exact y_iretF hf dX12_judged_29 rfl (by decide) (by decide)
  · replace hf := y_it c44 hf
    refine y_bipush (v := 6) (pc2 := 10) rfl dX12_judged_8 (by decide) ?_
    exact y_iretF hf dX12_judged_10 rfl (by decide) (by decide)
theorem dX12_may_0 : decode cX12_may 0 = .ok (.aload_n 0, 1) := by decide +kernel
theorem dX12_may_1 : decode cX12_may 1 = .ok (.iconst 0, 1) := by decide +kernel
theorem dX12_may_2 : decode cX12_may 2 = .ok (.putfield 249, 3) := by decide +kernel
theorem dX12_may_5 : decode cX12_may 5 = .ok (.aload_n 0, 1) := by decide +kernel
theorem dX12_may_6 : decode cX12_may 6 = .ok (.iload_n 1, 1) := by decide +kernel
theorem dX12_may_7 : decode cX12_may 7 = .ok (.invokevirtual 329, 3) := by decide +kernel
theorem dX12_may_10 : decode cX12_may 10 = .ok (.ifCond .ne 5, 3) := by decide +kernel
theorem dX12_may_13 : decode cX12_may 13 = .ok (.iconst (-1), 1) := by decide +kernel
theorem dX12_may_14 : decode cX12_may 14 = .ok (.ireturn, 1) := by decide +kernel
theorem dX12_may_15 : decode cX12_may 15 = .ok (.aload_n 0, 1) := by decide +kernel
theorem dX12_may_16 : decode cX12_may 16 = .ok (.getfield 89, 3) := by decide +kernel
theorem dX12_may_19 : decode cX12_may 19 = .ok (.iload_n 1, 1) := by decide +kernel
theorem dX12_may_20 : decode cX12_may 20 = .ok (.iaload, 1) := by decide +kernel
theorem dX12_may_21 : decode cX12_may 21 = .ok (.ifCond .ge 6, 3) := by decide +kernel
theorem dX12_may_24 : decode cX12_may 24 = .ok (.bipush (-3), 2) := by decide +kernel
theorem dX12_may_26 : decode cX12_may 26 = .ok (.ireturn, 1) := by decide +kernel
theorem dX12_may_27 : decode cX12_may 27 = .ok (.aload_n 0, 1) := by decide +kernel
theorem dX12_may_28 : decode cX12_may 28 = .ok (.iload_n 1, 1) := by decide +kernel
theorem dX12_may_29 : decode cX12_may 29 = .ok (.iload_n 2, 1) := by decide +kernel
theorem dX12_may_30 : decode cX12_may 30 = .ok (.invokevirtual 382, 3) := by decide +kernel
theorem dX12_may_33 : decode cX12_may 33 = .ok (.istore_n 3, 1) := by decide +kernel
theorem dX12_may_34 : decode cX12_may 34 = .ok (.iload_n 3, 1) := by decide +kernel
theorem dX12_may_35 : decode cX12_may 35 = .ok (.ifCond .ne 7, 3) := by decide +kernel
theorem dX12_may_38 : decode cX12_may 38 = .ok (.iconst 0, 1) := by decide +kernel
theorem dX12_may_39 : decode cX12_may 39 = .ok (.goto 18, 3) := by decide +kernel
theorem dX12_may_42 : decode cX12_may 42 = .ok (.iload_n 3, 1) := by decide +kernel
theorem dX12_may_43 : decode cX12_may 43 = .ok (.bipush 60, 2) := by decide +kernel
theorem dX12_may_45 : decode cX12_may 45 = .ok (.if_icmp .le 8, 3) := by decide +kernel
theorem dX12_may_48 : decode cX12_may 48 = .ok (.iload_n 3, 1) := by decide +kernel
theorem dX12_may_49 : decode cX12_may 49 = .ok (.ineg, 1) := by decide +kernel
theorem dX12_may_50 : decode cX12_may 50 = .ok (.goto 7, 3) := by decide +kernel
theorem dX12_may_53 : decode cX12_may 53 = .ok (.bipush (-40), 2) := by decide +kernel
theorem dX12_may_55 : decode cX12_may 55 = .ok (.iload_n 3, 1) := by decide +kernel
theorem dX12_may_56 : decode cX12_may 56 = .ok (.isub, 1) := by decide +kernel
theorem dX12_may_57 : decode cX12_may 57 = .ok (.ireturn, 1) := by decide +kernel
def M_X12_may : y_M := (yX12_may, cX12_may, 4, (Option.some Jvm.ClassFile.FieldType.int))
theorem n_X12_may : y_N0 M_X12_may 2 := ⟨(c_9 102 (by decide +kernel) rfl), (c_1 9 (by decide +kernel) rfl), ⟨by decide +kernel, by decide +kernel⟩, by decide +kernel⟩
theorem l_BoxYardModel_382 : y_lnk "BoxYardModel" 382 M_X12_judged := Or.inl (c_9 103 (by decide +kernel) rfl)
theorem i_X12_judged : Cond.instanceMethod (M_X12_judged).1 ∈ y_tb := (c_9 105 (by decide +kernel) rfl)
theorem e_X12_judged : Cond.selects (M_X12_judged).1.cls (M_X12_judged).1 (M_X12_judged).1 ∈ y_tb := (m_s 83 (by decide +kernel) rfl)
set_option maxRecDepth 100000 in
def f_X12_may (p0 : Nat) (p1 : Int32) (p2 : Int32) (h : y_H) : Option (Int32 × y_H) :=
  if y_K h p0 = 13 then
  y_bd (s_I h p0 46 0) (fun h1 =>
  if y_K h1 p0 = 13 then
  y_cl (f_X12_isCrane p0 p1 h1) (fun r4 h5 =>
  if r4 = true then
    if y_K h5 p0 = 13 then
    if y_K h5 (y_P h5 p0 29) = 100 ∧ y_ix p1 (y_N h5 (y_P h5 p0 29)) = true then
    if 0 ≤ (y_I h5 (y_P h5 p0 29) (Int32.toNatClampNeg p1)) then
      if y_K h5 p0 = 13 then
      y_cl (f_X12_judged p0 p1 p2 h5) (fun r7 h8 =>
      if r7 = 0 then
        some (0, h8)
      else
        if r7 ≤ 60 then
          some ((-40 : Int32) - r7, h8)
        else
          some (-r7, h8))
      else none
    else
      some ((-3 : Int32), h5)
    else none
    else none
  else
    some ((-1 : Int32), h5))
  else none)
  else none
abbrev rm_X12_may : Room := { frames := 4, cells := 0, slots := 0, locals := 96 }
set_option maxRecDepth 100000 in
set_option maxHeartbeats 4000000 in
theorem k_X12_may {l : Launch} {G : y_G} {p0 : Nat} {p1 : Int32} {p2 : Int32} {h hz : y_H} {rz : Int32} (hf : f_X12_may p0 p1 p2 h = some (rz, hz)) : y_S l G M_X12_may rm_X12_may [y_p p0, .int p1, .int p2] h (some (.int rz)) hz := by
  refine y_start (lv := [(0, y_p p0), (1, .int p1), (2, .int p2)]) (by decide) (by simp [lg_sl, y_p_cat, y_ci, y_cj, M_X12_may]) (by simp [lv_args, y_p_cat, y_ci, y_cj]) (fun z ad0 => ?_)
  unfold f_X12_may at hf
  refine y_aload_n (x := p0) (pc2 := 1) rfl dX12_may_0 rfl ?_
  refine y_iconst (v := 0) (pc2 := 2) rfl dX12_may_1 (by decide) ?_
  obtain ⟨g3, hf⟩ := y_g hf
  obtain ⟨h1, e2, hf⟩ := y_bdE hf
  refine y_putI (x := 0) (pc2 := 5) rfl dX12_may_2 Fp_BoxYardModel_249 (by decide) rfl g3 e2 ?_
  refine y_aload_n (x := p0) (pc2 := 6) rfl dX12_may_5 rfl ?_
  refine y_iload_n (pc2 := 7) rfl dX12_may_6 rfl ?_
  obtain ⟨g17, hf⟩ := y_g hf
  obtain ⟨r4, h5, c6, hf⟩ := y_clE hf
  refine y_callV (As := [.int p1]) (rm := rm_X12_isCrane) (cells := 0) (slots := 0) (pc2 := 10) rfl dX12_may_7 n_X12_isCrane l_BoxYardModel_329 i_X12_isCrane e_X12_isCrane (ci := 12) rfl rfl (by decide) g17 rfl rfl (by decide) (by decide) (by decide) (k_X12_isCrane c6) ?_
  refine y_ifz_ne (tgt := 15) (pc2 := 13) rfl dX12_may_10 (by decide) (fun c16 => ?_) (fun c16 => ?_)
  · replace hf := y_it c16 hf
    refine y_aload_n (x := p0) (pc2 := 16) rfl dX12_may_15 rfl ?_
    obtain ⟨g15, hf⟩ := y_g hf
    refine y_getP (pc2 := 19) rfl dX12_may_16 F_BoxYardModel_89 (by decide) rfl g15 ?_
    refine y_iload_n (pc2 := 20) rfl dX12_may_19 rfl ?_
    obtain ⟨g14, hf⟩ := y_g hf
    refine y_iald (pc2 := 21) rfl dX12_may_20 g14.1 (y_ix_in g14.2) ?_
    refine y_if_ge (tgt := 27) (pc2 := 24) rfl dX12_may_21 (by decide) (fun c13 => ?_) (fun c13 => ?_)
    · replace hf := y_it c13 hf
      refine y_aload_n (x := p0) (pc2 := 28) rfl dX12_may_27 rfl ?_
      refine y_iload_n (pc2 := 29) rfl dX12_may_28 rfl ?_
      refine y_iload_n (pc2 := 30) rfl dX12_may_29 rfl ?_
      obtain ⟨g12, hf⟩ := y_g hf
      obtain ⟨r7, h8, c9, hf⟩ := y_clE hf
      refine y_callV (As := [.int p1, .int p2]) (rm := rm_X12_judged) (cells := 0) (slots := 0) (pc2 := 33) rfl dX12_may_30 n_X12_judged l_BoxYardModel_382 i_X12_judged e_X12_judged (ci := 12) rfl rfl (by decide) g12 rfl rfl (by decide) (by decide) (by decide) (k_X12_judged c9) ?_
      refine y_istore_n (lv' := [(3, .int r7), (0, y_p p0), (1, .int p1), (2, .int p2)]) (pc2 := 34) rfl dX12_may_33 (by decide) rfl ?_
      refine y_iload_n (pc2 := 35) rfl dX12_may_34 rfl ?_
      refine y_if_ne (tgt := 42) (pc2 := 38) rfl dX12_may_35 (by decide) (fun c11 => ?_) (fun c11 => ?_)
      · replace hf := y_ie c11 hf
        refine y_iload_n (pc2 := 43) rfl dX12_may_42 rfl ?_
        refine y_bipush (v := 60) (pc2 := 45) rfl dX12_may_43 (by decide) ?_
        refine y_icmp_le (tgt := 53) (pc2 := 48) rfl dX12_may_45 (by decide) (fun c10 => ?_) (fun c10 => ?_)
        · replace hf := y_it c10 hf
          refine y_bipush (v := (-40 : Int32)) (pc2 := 55) rfl dX12_may_53 (by decide) ?_
          refine y_iload_n (pc2 := 56) rfl dX12_may_55 rfl ?_
          refine y_isub (pc2 := 57) rfl dX12_may_56 ?_
          exact y_iretF hf dX12_may_57 rfl (by decide) (by decide)
        · replace hf := y_ie c10 hf
          refine y_iload_n (pc2 := 49) rfl dX12_may_48 rfl ?_
          refine y_ineg (pc2 := 50) rfl dX12_may_49 ?_
          refine y_goto (tgt := 57) dX12_may_50 (by decide) ?_
          exact y_iretF hf dX12_may_57 rfl (by decide) (by decide)
      · replace hf := y_it c11 hf
        refine y_iconst (v := 0) (pc2 := 39) rfl dX12_may_38 (by decide) ?_
        refine y_goto (tgt := 57) dX12_may_39 (by decide) ?_
        exact y_iretF hf dX12_may_57 rfl (by decide) (by decide)
    · replace hf := y_ie c13 hf
      refine y_bipush (v := (-3 : Int32)) (pc2 := 26) rfl dX12_may_24 (by decide) ?_
      exact y_iretF hf dX12_may_26 rfl (by decide) (by decide)
  · replace hf := y_ie c16 hf
    refine y_iconst (v := (-1 : Int32)) (pc2 := 14) rfl dX12_may_13 (by decide) ?_
    exact y_iretF hf dX12_may_14 rfl (by decide) (by decide)
theorem dX12_setOn_0 : decode cX12_setOn 0 = .ok (.bipush 6, 2) := by decide +kernel
theorem dX12_setOn_2 : decode cX12_setOn 2 = .ok (.iload_n 1, 1) := by decide +kernel
theorem dX12_setOn_3 : decode cX12_setOn 3 = .ok (.imul, 1) := by decide +kernel
theorem dX12_setOn_4 : decode cX12_setOn 4 = .ok (.iload_n 2, 1) := by decide +kernel
theorem dX12_setOn_5 : decode cX12_setOn 5 = .ok (.iadd, 1) := by decide +kernel
theorem dX12_setOn_6 : decode cX12_setOn 6 = .ok (.istore 4, 2) := by decide +kernel
theorem dX12_setOn_8 : decode cX12_setOn 8 = .ok (.aload_n 0, 1) := by decide +kernel
theorem dX12_setOn_9 : decode cX12_setOn 9 = .ok (.getfield 74, 3) := by decide +kernel
theorem dX12_setOn_12 : decode cX12_setOn 12 = .ok (.iconst 5, 1) := by decide +kernel
theorem dX12_setOn_13 : decode cX12_setOn 13 = .ok (.iload 4, 2) := by decide +kernel
theorem dX12_setOn_15 : decode cX12_setOn 15 = .ok (.imul, 1) := by decide +kernel
theorem dX12_setOn_16 : decode cX12_setOn 16 = .ok (.aload_n 0, 1) := by decide +kernel
theorem dX12_setOn_17 : decode cX12_setOn 17 = .ok (.getfield 71, 3) := by decide +kernel
theorem dX12_setOn_20 : decode cX12_setOn 20 = .ok (.iload 4, 2) := by decide +kernel
theorem dX12_setOn_22 : decode cX12_setOn 22 = .ok (.iaload, 1) := by decide +kernel
theorem dX12_setOn_23 : decode cX12_setOn 23 = .ok (.iadd, 1) := by decide +kernel
theorem dX12_setOn_24 : decode cX12_setOn 24 = .ok (.iload_n 3, 1) := by decide +kernel
theorem dX12_setOn_25 : decode cX12_setOn 25 = .ok (.iastore, 1) := by decide +kernel
theorem dX12_setOn_26 : decode cX12_setOn 26 = .ok (.aload_n 0, 1) := by decide +kernel
theorem dX12_setOn_27 : decode cX12_setOn 27 = .ok (.iload_n 3, 1) := by decide +kernel
theorem dX12_setOn_28 : decode cX12_setOn 28 = .ok (.iconst 1, 1) := by decide +kernel
theorem dX12_setOn_29 : decode cX12_setOn 29 = .ok (.iload_n 1, 1) := by decide +kernel
theorem dX12_setOn_30 : decode cX12_setOn 30 = .ok (.iload_n 2, 1) := by decide +kernel
theorem dX12_setOn_31 : decode cX12_setOn 31 = .ok (.aload_n 0, 1) := by decide +kernel
theorem dX12_setOn_32 : decode cX12_setOn 32 = .ok (.getfield 71, 3) := by decide +kernel
theorem dX12_setOn_35 : decode cX12_setOn 35 = .ok (.iload 4, 2) := by decide +kernel
theorem dX12_setOn_37 : decode cX12_setOn 37 = .ok (.iaload, 1) := by decide +kernel
theorem dX12_setOn_38 : decode cX12_setOn 38 = .ok (.invokevirtual 294, 3) := by decide +kernel
theorem dX12_setOn_41 : decode cX12_setOn 41 = .ok (.aload_n 0, 1) := by decide +kernel
theorem dX12_setOn_42 : decode cX12_setOn 42 = .ok (.getfield 71, 3) := by decide +kernel
theorem dX12_setOn_45 : decode cX12_setOn 45 = .ok (.iload 4, 2) := by decide +kernel
theorem dX12_setOn_47 : decode cX12_setOn 47 = .ok (.dup2, 1) := by decide +kernel
theorem dX12_setOn_48 : decode cX12_setOn 48 = .ok (.iaload, 1) := by decide +kernel
theorem dX12_setOn_49 : decode cX12_setOn 49 = .ok (.iconst 1, 1) := by decide +kernel
theorem dX12_setOn_50 : decode cX12_setOn 50 = .ok (.iadd, 1) := by decide +kernel
theorem dX12_setOn_51 : decode cX12_setOn 51 = .ok (.iastore, 1) := by decide +kernel
theorem dX12_setOn_52 : decode cX12_setOn 52 = .ok (.return_, 1) := by decide +kernel
def M_X12_setOn : y_M := (yX12_setOn, cX12_setOn, 5, (Option.none : Option Jvm.ClassFile.FieldType))
theorem n_X12_setOn : y_N0 M_X12_setOn 3 := ⟨(c_9 125 (by decide +kernel) rfl), (c_1 9 (by decide +kernel) rfl), ⟨by decide +kernel, by decide +kernel⟩, by decide +kernel⟩
set_option maxRecDepth 100000 in
def f_X12_setOn (p0 : Nat) (p1 : Int32) (p2 : Int32) (p3 : Int32) (h : y_H) : Option (Unit × y_H) :=
  if y_K h p0 = 13 then
  if y_K h p0 = 13 then
  if y_K h (y_P h p0 22) = 100 ∧ y_ix ((6 * p1) + p2) (y_N h (y_P h p0 22)) = true then
  if y_K h (y_P h p0 23) = 100 ∧ y_ix ((5 * ((6 * p1) + p2)) + (y_I h (y_P h p0 22) (Int32.toNatClampNeg ((6 * p1) + p2)))) (y_N h (y_P h p0 23)) = true then
  y_bd (s_I h (y_P h p0 23) (Int32.toNatClampNeg ((5 * ((6 * p1) + p2)) + (y_I h (y_P h p0 22) (Int32.toNatClampNeg ((6 * p1) + p2))))) p3) (fun h1 =>
  if y_K h1 p0 = 13 then
  if y_K h1 (y_P h1 p0 22) = 100 ∧ y_ix ((6 * p1) + p2) (y_N h1 (y_P h1 p0 22)) = true then
  if y_K h1 p0 = 13 then
  y_cl (f_X12_put p0 p3 1 p1 p2 (y_I h1 (y_P h1 p0 22) (Int32.toNatClampNeg ((6 * p1) + p2))) h1) (fun _ h4 =>
  if y_K h4 p0 = 13 then
  if y_K h4 (y_P h4 p0 22) = 100 ∧ y_ix ((6 * p1) + p2) (y_N h4 (y_P h4 p0 22)) = true then
  if y_K h4 (y_P h4 p0 22) = 100 ∧ y_ix ((6 * p1) + p2) (y_N h4 (y_P h4 p0 22)) = true then
  y_bd (s_I h4 (y_P h4 p0 22) (Int32.toNatClampNeg ((6 * p1) + p2)) ((y_I h4 (y_P h4 p0 22) (Int32.toNatClampNeg ((6 * p1) + p2))) + 1)) (fun h6 =>
  some ((), h6))
  else none
  else none
  else none)
  else none
  else none
  else none)
  else none
  else none
  else none
  else none
abbrev rm_X12_setOn : Room := { frames := 1, cells := 0, slots := 0, locals := 25 }
set_option maxRecDepth 100000 in
set_option maxHeartbeats 4000000 in
theorem k_X12_setOn {l : Launch} {G : y_G} {p0 : Nat} {p1 : Int32} {p2 : Int32} {p3 : Int32} {h hz : y_H} {rz : Unit} (hf : f_X12_setOn p0 p1 p2 p3 h = some (rz, hz)) : y_S l G M_X12_setOn rm_X12_setOn [y_p p0, .int p1, .int p2, .int p3] h none hz := by
  refine y_start (lv := [(0, y_p p0), (1, .int p1), (2, .int p2), (3, .int p3)]) (by decide) (by simp [lg_sl, y_p_cat, y_ci, y_cj, M_X12_setOn]) (by simp [lv_args, y_p_cat, y_ci, y_cj]) (fun z ad0 => ?_)
  unfold f_X12_setOn at hf
  refine y_bipush (v := 6) (pc2 := 2) rfl dX12_setOn_0 (by decide) ?_
  refine y_iload_n (pc2 := 3) rfl dX12_setOn_2 rfl ?_
  refine y_imul (pc2 := 4) rfl dX12_setOn_3 ?_
  refine y_iload_n (pc2 := 5) rfl dX12_setOn_4 rfl ?_
  refine y_iadd (pc2 := 6) rfl dX12_setOn_5 ?_
  refine y_istore (lv' := [(4, .int ((6 * p1) + p2)), (0, y_p p0), (1, .int p1), (2, .int p2), (3, .int p3)]) (pc2 := 8) rfl dX12_setOn_6 (by decide) rfl ?_
  refine y_aload_n (x := p0) (pc2 := 9) rfl dX12_setOn_8 rfl ?_
  obtain ⟨g16, hf⟩ := y_g hf
  refine y_getP (pc2 := 12) rfl dX12_setOn_9 F_BoxYardModel_74 (by decide) rfl g16 ?_
  refine y_iconst (v := 5) (pc2 := 13) rfl dX12_setOn_12 (by decide) ?_
  refine y_iload (pc2 := 15) rfl dX12_setOn_13 rfl ?_
  refine y_imul (pc2 := 16) rfl dX12_setOn_15 ?_
  refine y_aload_n (x := p0) (pc2 := 17) rfl dX12_setOn_16 rfl ?_
  obtain ⟨g15, hf⟩ := y_g hf
  refine y_getP (pc2 := 20) rfl dX12_setOn_17 F_BoxYardModel_71 (by decide) rfl g15 ?_
  refine y_iload (pc2 := 22) rfl dX12_setOn_20 rfl ?_
  obtain ⟨g14, hf⟩ := y_g hf
  refine y_iald (pc2 := 23) rfl dX12_setOn_22 g14.1 (y_ix_in g14.2) ?_
  refine y_iadd (pc2 := 24) rfl dX12_setOn_23 ?_
  refine y_iload_n (pc2 := 25) rfl dX12_setOn_24 rfl ?_
  obtain ⟨g3, hf⟩ := y_g hf
  obtain ⟨h1, e2, hf⟩ := y_bdE hf
  refine y_iast (x := p3) (pc2 := 26) rfl dX12_setOn_25 g3.1 (y_ix_in g3.2) e2 ?_
  refine y_aload_n (x := p0) (pc2 := 27) rfl dX12_setOn_26 rfl ?_
  refine y_iload_n (pc2 := 28) rfl dX12_setOn_27 rfl ?_
  refine y_iconst (v := 1) (pc2 := 29) rfl dX12_setOn_28 (by decide) ?_
  refine y_iload_n (pc2 := 30) rfl dX12_setOn_29 rfl ?_
  refine y_iload_n (pc2 := 31) rfl dX12_setOn_30 rfl ?_
  refine y_aload_n (x := p0) (pc2 := 32) rfl dX12_setOn_31 rfl ?_
  obtain ⟨g13, hf⟩ := y_g hf
  refine y_getP (pc2 := 35) rfl dX12_setOn_32 F_BoxYardModel_71 (by decide) rfl g13 ?_
  refine y_iload (pc2 := 37) rfl dX12_setOn_35 rfl ?_
  obtain ⟨g12, hf⟩ := y_g hf
  refine y_iald (pc2 := 38) rfl dX12_setOn_37 g12.1 (y_ix_in g12.2) ?_
  obtain ⟨g11, hf⟩ := y_g hf
  obtain ⟨r_, h4, c5, hf⟩ := y_clE hf
  refine y_callV (As := [.int p3, .int 1, .int p1, .int p2, .int (y_I h1 (y_P h1 p0 22) (Int32.toNatClampNeg ((6 * p1) + p2)))]) (rm := rm_X12_put) (cells := 0) (slots := 0) (pc2 := 41) rfl dX12_setOn_38 n_X12_put l_BoxYardModel_294 i_X12_put e_X12_put (ci := 12) rfl rfl (by decide) g11 rfl rfl (by decide) (by decide) (by decide) (k_X12_put c5) ?_
  refine y_aload_n (x := p0) (pc2 := 42) rfl dX12_setOn_41 rfl ?_
  obtain ⟨g10, hf⟩ := y_g hf
  refine y_getP (pc2 := 45) rfl dX12_setOn_42 F_BoxYardModel_71 (by decide) rfl g10 ?_
  refine y_iload (pc2 := 47) rfl dX12_setOn_45 rfl ?_
  refine y_dup2 (pc2 := 48) rfl dX12_setOn_47 rfl (y_p_cat _) ?_
  obtain ⟨g9, hf⟩ := y_g hf
  refine y_iald (pc2 := 49) rfl dX12_setOn_48 g9.1 (y_ix_in g9.2) ?_
  refine y_iconst (v := 1) (pc2 := 50) rfl dX12_setOn_49 (by decide) ?_
  refine y_iadd (pc2 := 51) rfl dX12_setOn_50 ?_
  obtain ⟨g8, hf⟩ := y_g hf
  obtain ⟨h6, e7, hf⟩ := y_bdE hf
  refine y_iast (x := (y_I h4 (y_P h4 p0 22) (Int32.toNatClampNeg ((6 * p1) + p2))) + 1) (pc2 := 52) rfl dX12_setOn_51 g8.1 (y_ix_in g8.2) e7 ?_
  exact y_vretF hf dX12_setOn_52 rfl (by decide) (by decide)
theorem dX12_set_0 : decode cX12_set 0 = .ok (.aload_n 0, 1) := by decide +kernel
theorem dX12_set_1 : decode cX12_set 1 = .ok (.iconst 0, 1) := by decide +kernel
theorem dX12_set_2 : decode cX12_set 2 = .ok (.putfield 249, 3) := by decide +kernel
theorem dX12_set_5 : decode cX12_set 5 = .ok (.aload_n 0, 1) := by decide +kernel
theorem dX12_set_6 : decode cX12_set 6 = .ok (.iload_n 1, 1) := by decide +kernel
theorem dX12_set_7 : decode cX12_set 7 = .ok (.invokevirtual 329, 3) := by decide +kernel
theorem dX12_set_10 : decode cX12_set 10 = .ok (.ifCond .ne 9, 3) := by decide +kernel
theorem dX12_set_13 : decode cX12_set 13 = .ok (.aload_n 0, 1) := by decide +kernel
theorem dX12_set_14 : decode cX12_set 14 = .ok (.iconst (-1), 1) := by decide +kernel
theorem dX12_set_15 : decode cX12_set 15 = .ok (.invokevirtual 345, 3) := by decide +kernel
theorem dX12_set_18 : decode cX12_set 18 = .ok (.ireturn, 1) := by decide +kernel
theorem dX12_set_19 : decode cX12_set 19 = .ok (.aload_n 0, 1) := by decide +kernel
theorem dX12_set_20 : decode cX12_set 20 = .ok (.getfield 89, 3) := by decide +kernel
theorem dX12_set_23 : decode cX12_set 23 = .ok (.iload_n 1, 1) := by decide +kernel
theorem dX12_set_24 : decode cX12_set 24 = .ok (.iaload, 1) := by decide +kernel
theorem dX12_set_25 : decode cX12_set 25 = .ok (.ifCond .ge 10, 3) := by decide +kernel
theorem dX12_set_28 : decode cX12_set 28 = .ok (.aload_n 0, 1) := by decide +kernel
theorem dX12_set_29 : decode cX12_set 29 = .ok (.bipush (-3), 2) := by decide +kernel
theorem dX12_set_31 : decode cX12_set 31 = .ok (.invokevirtual 345, 3) := by decide +kernel
theorem dX12_set_34 : decode cX12_set 34 = .ok (.ireturn, 1) := by decide +kernel
theorem dX12_set_35 : decode cX12_set 35 = .ok (.aload_n 0, 1) := by decide +kernel
theorem dX12_set_36 : decode cX12_set 36 = .ok (.iload_n 1, 1) := by decide +kernel
theorem dX12_set_37 : decode cX12_set 37 = .ok (.iload_n 2, 1) := by decide +kernel
theorem dX12_set_38 : decode cX12_set 38 = .ok (.invokevirtual 382, 3) := by decide +kernel
theorem dX12_set_41 : decode cX12_set 41 = .ok (.istore_n 3, 1) := by decide +kernel
theorem dX12_set_42 : decode cX12_set 42 = .ok (.iload_n 3, 1) := by decide +kernel
theorem dX12_set_43 : decode cX12_set 43 = .ok (.bipush 60, 2) := by decide +kernel
theorem dX12_set_45 : decode cX12_set 45 = .ok (.if_icmp .le 13, 3) := by decide +kernel
theorem dX12_set_48 : decode cX12_set 48 = .ok (.aload_n 0, 1) := by decide +kernel
theorem dX12_set_49 : decode cX12_set 49 = .ok (.iload_n 1, 1) := by decide +kernel
theorem dX12_set_50 : decode cX12_set 50 = .ok (.iload_n 3, 1) := by decide +kernel
theorem dX12_set_51 : decode cX12_set 51 = .ok (.bipush 60, 2) := by decide +kernel
theorem dX12_set_53 : decode cX12_set 53 = .ok (.isub, 1) := by decide +kernel
theorem dX12_set_54 : decode cX12_set 54 = .ok (.invokevirtual 366, 3) := by decide +kernel
theorem dX12_set_57 : decode cX12_set 57 = .ok (.ireturn, 1) := by decide +kernel
theorem dX12_set_58 : decode cX12_set 58 = .ok (.iload_n 3, 1) := by decide +kernel
theorem dX12_set_59 : decode cX12_set 59 = .ok (.ifCond .le 10, 3) := by decide +kernel
theorem dX12_set_62 : decode cX12_set 62 = .ok (.aload_n 0, 1) := by decide +kernel
theorem dX12_set_63 : decode cX12_set 63 = .ok (.iload_n 1, 1) := by decide +kernel
theorem dX12_set_64 : decode cX12_set 64 = .ok (.iload_n 3, 1) := by decide +kernel
theorem dX12_set_65 : decode cX12_set 65 = .ok (.invokevirtual 351, 3) := by decide +kernel
theorem dX12_set_68 : decode cX12_set 68 = .ok (.ireturn, 1) := by decide +kernel
theorem dX12_set_69 : decode cX12_set 69 = .ok (.aload_n 0, 1) := by decide +kernel
theorem dX12_set_70 : decode cX12_set 70 = .ok (.iload_n 1, 1) := by decide +kernel
theorem dX12_set_71 : decode cX12_set 71 = .ok (.aload_n 0, 1) := by decide +kernel
theorem dX12_set_72 : decode cX12_set 72 = .ok (.getfield 89, 3) := by decide +kernel
theorem dX12_set_75 : decode cX12_set 75 = .ok (.iload_n 1, 1) := by decide +kernel
theorem dX12_set_76 : decode cX12_set 76 = .ok (.iaload, 1) := by decide +kernel
theorem dX12_set_77 : decode cX12_set 77 = .ok (.bipush (-9), 2) := by decide +kernel
theorem dX12_set_79 : decode cX12_set 79 = .ok (.invokevirtual 355, 3) := by decide +kernel
theorem dX12_set_82 : decode cX12_set 82 = .ok (.aload_n 0, 1) := by decide +kernel
theorem dX12_set_83 : decode cX12_set 83 = .ok (.aload_n 0, 1) := by decide +kernel
theorem dX12_set_84 : decode cX12_set 84 = .ok (.getfield 86, 3) := by decide +kernel
theorem dX12_set_87 : decode cX12_set 87 = .ok (.iload_n 1, 1) := by decide +kernel
theorem dX12_set_88 : decode cX12_set 88 = .ok (.iaload, 1) := by decide +kernel
theorem dX12_set_89 : decode cX12_set 89 = .ok (.iload_n 2, 1) := by decide +kernel
theorem dX12_set_90 : decode cX12_set 90 = .ok (.aload_n 0, 1) := by decide +kernel
theorem dX12_set_91 : decode cX12_set 91 = .ok (.getfield 89, 3) := by decide +kernel
theorem dX12_set_94 : decode cX12_set 94 = .ok (.iload_n 1, 1) := by decide +kernel
theorem dX12_set_95 : decode cX12_set 95 = .ok (.iaload, 1) := by decide +kernel
theorem dX12_set_96 : decode cX12_set 96 = .ok (.invokevirtual 385, 3) := by decide +kernel
theorem dX12_set_99 : decode cX12_set 99 = .ok (.aload_n 0, 1) := by decide +kernel
theorem dX12_set_100 : decode cX12_set 100 = .ok (.getfield 89, 3) := by decide +kernel
theorem dX12_set_103 : decode cX12_set 103 = .ok (.iload_n 1, 1) := by decide +kernel
theorem dX12_set_104 : decode cX12_set 104 = .ok (.iconst (-1), 1) := by decide +kernel
theorem dX12_set_105 : decode cX12_set 105 = .ok (.iastore, 1) := by decide +kernel
theorem dX12_set_106 : decode cX12_set 106 = .ok (.aload_n 0, 1) := by decide +kernel
theorem dX12_set_107 : decode cX12_set 107 = .ok (.invokevirtual 359, 3) := by decide +kernel
theorem dX12_set_110 : decode cX12_set 110 = .ok (.ireturn, 1) := by decide +kernel
def M_X12_set : y_M := (yX12_set, cX12_set, 4, (Option.some Jvm.ClassFile.FieldType.int))
theorem n_X12_set : y_N0 M_X12_set 2 := ⟨(c_9 121 (by decide +kernel) rfl), (c_1 9 (by decide +kernel) rfl), ⟨by decide +kernel, by decide +kernel⟩, by decide +kernel⟩
theorem l_BoxYardModel_385 : y_lnk "BoxYardModel" 385 M_X12_setOn := Or.inl (c_9 122 (by decide +kernel) rfl)
theorem i_X12_setOn : Cond.instanceMethod (M_X12_setOn).1 ∈ y_tb := (c_9 124 (by decide +kernel) rfl)
theorem e_X12_setOn : Cond.selects (M_X12_setOn).1.cls (M_X12_setOn).1 (M_X12_setOn).1 ∈ y_tb := (m_s 86 (by decide +kernel) rfl)
set_option maxRecDepth 100000 in
def f_X12_set (p0 : Nat) (p1 : Int32) (p2 : Int32) (h : y_H) : Option (Int32 × y_H) :=
  if y_K h p0 = 13 then
  y_bd (s_I h p0 46 0) (fun h1 =>
  if y_K h1 p0 = 13 then
  y_cl (f_X12_isCrane p0 p1 h1) (fun r4 h5 =>
  if r4 = true then
    if y_K h5 p0 = 13 then
    if y_K h5 (y_P h5 p0 29) = 100 ∧ y_ix p1 (y_N h5 (y_P h5 p0 29)) = true then
    if 0 ≤ (y_I h5 (y_P h5 p0 29) (Int32.toNatClampNeg p1)) then
      if y_K h5 p0 = 13 then
      y_cl (f_X12_judged p0 p1 p2 h5) (fun r7 h8 =>
      if r7 ≤ 60 then
        if r7 ≤ 0 then
          if y_K h8 p0 = 13 then
          if y_K h8 (y_P h8 p0 29) = 100 ∧ y_ix p1 (y_N h8 (y_P h8 p0 29)) = true then
          if y_K h8 p0 = 13 then
          y_cl (f_X12_keep p0 p1 (y_I h8 (y_P h8 p0 29) (Int32.toNatClampNeg p1)) (-9 : Int32) h8) (fun _ h10 =>
          if y_K h10 p0 = 13 then
          if y_K h10 (y_P h10 p0 28) = 100 ∧ y_ix p1 (y_N h10 (y_P h10 p0 28)) = true then
          if y_K h10 p0 = 13 then
          if y_K h10 (y_P h10 p0 29) = 100 ∧ y_ix p1 (y_N h10 (y_P h10 p0 29)) = true then
          if y_K h10 p0 = 13 then
          y_cl (f_X12_setOn p0 (y_I h10 (y_P h10 p0 28) (Int32.toNatClampNeg p1)) p2 (y_I h10 (y_P h10 p0 29) (Int32.toNatClampNeg p1)) h10) (fun _ h12 =>
          if y_K h12 p0 = 13 then
          if y_K h12 (y_P h12 p0 29) = 100 ∧ y_ix p1 (y_N h12 (y_P h12 p0 29)) = true then
          y_bd (s_I h12 (y_P h12 p0 29) (Int32.toNatClampNeg p1) (-1 : Int32)) (fun h14 =>
          if y_K h14 p0 = 13 then
          y_cl (f_X12_done p0 h14) (fun r17 h18 =>
          some (r17, h18))
          else none)
          else none
          else none)
          else none
          else none
          else none
          else none
          else none)
          else none
          else none
          else none
        else
          if y_K h8 p0 = 13 then
          y_cl (f_X12_breaks p0 p1 r7 h8) (fun r30 h31 =>
          some (r30, h31))
          else none
      else
        if y_K h8 p0 = 13 then
        y_cl (f_X12_meets p0 p1 (r7 - 60) h8) (fun r35 h36 =>
        some (r35, h36))
        else none)
      else none
    else
      if y_K h5 p0 = 13 then
      y_cl (f_X12_refused p0 (-3 : Int32) h5) (fun r41 h42 =>
      some (r41, h42))
      else none
    else none
    else none
  else
    if y_K h5 p0 = 13 then
    y_cl (f_X12_refused p0 (-1 : Int32) h5) (fun r48 h49 =>
    some (r48, h49))
    else none)
  else none)
  else none
abbrev rm_X12_set : Room := { frames := 4, cells := 0, slots := 0, locals := 96 }
set_option maxRecDepth 100000 in
set_option maxHeartbeats 4000000 in
theorem k_X12_set {l : Launch} {G : y_G} {p0 : Nat} {p1 : Int32} {p2 : Int32} {h hz : y_H} {rz : Int32} (hf : f_X12_set p0 p1 p2 h = some (rz, hz)) : y_S l G M_X12_set rm_X12_set [y_p p0, .int p1, .int p2] h (some (.int rz)) hz := by
  refine y_start (lv := [(0, y_p p0), (1, .int p1), (2, .int p2)]) (by decide) (by simp [lg_sl, y_p_cat, y_ci, y_cj, M_X12_set]) (by simp [lv_args, y_p_cat, y_ci, y_cj]) (fun z ad0 => ?_)
  unfold f_X12_set at hf
  refine y_aload_n (x := p0) (pc2 := 1) rfl dX12_set_0 rfl ?_
  refine y_iconst (v := 0) (pc2 := 2) rfl dX12_set_1 (by decide) ?_
  obtain ⟨g3, hf⟩ := y_g hf
  obtain ⟨h1, e2, hf⟩ := y_bdE hf
  refine y_putI (x := 0) (pc2 := 5) rfl dX12_set_2 Fp_BoxYardModel_249 (by decide) rfl g3 e2 ?_
  refine y_aload_n (x := p0) (pc2 := 6) rfl dX12_set_5 rfl ?_
  refine y_iload_n (pc2 := 7) rfl dX12_set_6 rfl ?_
  obtain ⟨g53, hf⟩ := y_g hf
  obtain ⟨r4, h5, c6, hf⟩ := y_clE hf
  refine y_callV (As := [.int p1]) (rm := rm_X12_isCrane) (cells := 0) (slots := 0) (pc2 := 10) rfl dX12_set_7 n_X12_isCrane l_BoxYardModel_329 i_X12_isCrane e_X12_isCrane (ci := 12) rfl rfl (by decide) g53 rfl rfl (by decide) (by decide) (by decide) (k_X12_isCrane c6) ?_
  refine y_ifz_ne (tgt := 19) (pc2 := 13) rfl dX12_set_10 (by decide) (fun c52 => ?_) (fun c52 => ?_)
  · replace hf := y_it c52 hf
    refine y_aload_n (x := p0) (pc2 := 20) rfl dX12_set_19 rfl ?_
    obtain ⟨g47, hf⟩ := y_g hf
    refine y_getP (pc2 := 23) rfl dX12_set_20 F_BoxYardModel_89 (by decide) rfl g47 ?_
    refine y_iload_n (pc2 := 24) rfl dX12_set_23 rfl ?_
    obtain ⟨g46, hf⟩ := y_g hf
    refine y_iald (pc2 := 25) rfl dX12_set_24 g46.1 (y_ix_in g46.2) ?_
    refine y_if_ge (tgt := 35) (pc2 := 28) rfl dX12_set_25 (by decide) (fun c45 => ?_) (fun c45 => ?_)
    · replace hf := y_it c45 hf
      refine y_aload_n (x := p0) (pc2 := 36) rfl dX12_set_35 rfl ?_
      refine y_iload_n (pc2 := 37) rfl dX12_set_36 rfl ?_
      refine y_iload_n (pc2 := 38) rfl dX12_set_37 rfl ?_
      obtain ⟨g40, hf⟩ := y_g hf
      obtain ⟨r7, h8, c9, hf⟩ := y_clE hf
      refine y_callV (As := [.int p1, .int p2]) (rm := rm_X12_judged) (cells := 0) (slots := 0) (pc2 := 41) rfl dX12_set_38 n_X12_judged l_BoxYardModel_382 i_X12_judged e_X12_judged (ci := 12) rfl rfl (by decide) g40 rfl rfl (by decide) (by decide) (by decide) (k_X12_judged c9) ?_
      refine y_istore_n (lv' := [(3, .int r7), (0, y_p p0), (1, .int p1), (2, .int p2)]) (pc2 := 42) rfl dX12_set_41 (by decide) rfl ?_
      refine y_iload_n (pc2 := 43) rfl dX12_set_42 rfl ?_
      refine y_bipush (v := 60) (pc2 := 45) rfl dX12_set_43 (by decide) ?_
      refine y_icmp_le (tgt := 58) (pc2 := 48) rfl dX12_set_45 (by decide) (fun c39 => ?_) (fun c39 => ?_)
      · replace hf := y_it c39 hf
        refine y_iload_n (pc2 := 59) rfl dX12_set_58 rfl ?_
        refine y_if_le (tgt := 69) (pc2 := 62) rfl dX12_set_59 (by decide) (fun c34 => ?_) (fun c34 => ?_)
        · replace hf := y_it c34 hf
          refine y_aload_n (x := p0) (pc2 := 70) rfl dX12_set_69 rfl ?_
          refine y_iload_n (pc2 := 71) rfl dX12_set_70 rfl ?_
          refine y_aload_n (x := p0) (pc2 := 72) rfl dX12_set_71 rfl ?_
          obtain ⟨g29, hf⟩ := y_g hf
          refine y_getP (pc2 := 75) rfl dX12_set_72 F_BoxYardModel_89 (by decide) rfl g29 ?_
          refine y_iload_n (pc2 := 76) rfl dX12_set_75 rfl ?_
          obtain ⟨g28, hf⟩ := y_g hf
          refine y_iald (pc2 := 77) rfl dX12_set_76 g28.1 (y_ix_in g28.2) ?_
          refine y_bipush (v := (-9 : Int32)) (pc2 := 79) rfl dX12_set_77 (by decide) ?_
          obtain ⟨g27, hf⟩ := y_g hf
          obtain ⟨r_, h10, c11, hf⟩ := y_clE hf
          refine y_callV (As := [.int p1, .int (y_I h8 (y_P h8 p0 29) (Int32.toNatClampNeg p1)), .int (-9 : Int32)]) (rm := rm_X12_keep) (cells := 0) (slots := 0) (pc2 := 82) rfl dX12_set_79 n_X12_keep l_BoxYardModel_355 i_X12_keep e_X12_keep (ci := 12) rfl rfl (by decide) g27 rfl rfl (by decide) (by decide) (by decide) (k_X12_keep c11) ?_
          refine y_aload_n (x := p0) (pc2 := 83) rfl dX12_set_82 rfl ?_
          refine y_aload_n (x := p0) (pc2 := 84) rfl dX12_set_83 rfl ?_
          obtain ⟨g26, hf⟩ := y_g hf
          refine y_getP (pc2 := 87) rfl dX12_set_84 F_BoxYardModel_86 (by decide) rfl g26 ?_
          refine y_iload_n (pc2 := 88) rfl dX12_set_87 rfl ?_
          obtain ⟨g25, hf⟩ := y_g hf
          refine y_iald (pc2 := 89) rfl dX12_set_88 g25.1 (y_ix_in g25.2) ?_
          refine y_iload_n (pc2 := 90) rfl dX12_set_89 rfl ?_
          refine y_aload_n (x := p0) (pc2 := 91) rfl dX12_set_90 rfl ?_
          obtain ⟨g24, hf⟩ := y_g hf
          refine y_getP (pc2 := 94) rfl dX12_set_91 F_BoxYardModel_89 (by decide) rfl g24 ?_
          refine y_iload_n (pc2 := 95) rfl dX12_set_94 rfl ?_
          obtain ⟨g23, hf⟩ := y_g hf
          refine y_iald (pc2 := 96) rfl dX12_set_95 g23.1 (y_ix_in g23.2) ?_
          obtain ⟨g22, hf⟩ := y_g hf
          obtain ⟨r_, h12, c13, hf⟩ := y_clE hf
          refine y_callV (As := [.int (y_I h10 (y_P h10 p0 28) (Int32.toNatClampNeg p1)), .int p2, .int (y_I h10 (y_P h10 p0 29) (Int32.toNatClampNeg p1))]) (rm := rm_X12_setOn) (cells := 0) (slots := 0) (pc2 := 99) rfl dX12_set_96 n_X12_setOn l_BoxYardModel_385 i_X12_setOn e_X12_setOn (ci := 12) rfl rfl (by decide) g22 rfl rfl (by decide) (by decide) (by decide) (k_X12_setOn c13) ?_
          refine y_aload_n (x := p0) (pc2 := 100) rfl dX12_set_99 rfl ?_
          obtain ⟨g21, hf⟩ := y_g hf
          refine y_getP (pc2 := 103) rfl dX12_set_100 F_BoxYardModel_89 (by decide) rfl g21 ?_
          refine y_iload_n (pc2 := 104) rfl dX12_set_103 rfl ?_
          refine y_iconst (v := (-1 : Int32)) (pc2 := 105) rfl dX12_set_104 (by decide) ?_
          obtain ⟨g16, hf⟩ := y_g hf
          obtain ⟨h14, e15, hf⟩ := y_bdE hf
          refine y_iast (x := (-1 : Int32)) (pc2 := 106) rfl dX12_set_105 g16.1 (y_ix_in g16.2) e15 ?_
          refine y_aload_n (x := p0) (pc2 := 107) rfl dX12_set_106 rfl ?_
          obtain ⟨g20, hf⟩ := y_g hf
          obtain ⟨r17, h18, c19, hf⟩ := y_clE hf
          refine y_callV (As := []) (rm := rm_X12_done) (cells := 0) (slots := 0) (pc2 := 110) rfl dX12_set_107 n_X12_done l_BoxYardModel_359 i_X12_done e_X12_done (ci := 12) rfl rfl (by decide) g20 rfl rfl (by decide) (by decide) (by decide) (k_X12_done c19) ?_
          exact y_iretF hf dX12_set_110 rfl (by decide) (by decide)
        · replace hf := y_ie c34 hf
          refine y_aload_n (x := p0) (pc2 := 63) rfl dX12_set_62 rfl ?_
          refine y_iload_n (pc2 := 64) rfl dX12_set_63 rfl ?_
          refine y_iload_n (pc2 := 65) rfl dX12_set_64 rfl ?_
          obtain ⟨g33, hf⟩ := y_g hf
          obtain ⟨r30, h31, c32, hf⟩ := y_clE hf
          refine y_callV (As := [.int p1, .int r7]) (rm := rm_X12_breaks) (cells := 0) (slots := 0) (pc2 := 68) rfl dX12_set_65 n_X12_breaks l_BoxYardModel_351 i_X12_breaks e_X12_breaks (ci := 12) rfl rfl (by decide) g33 rfl rfl (by decide) (by decide) (by decide) (k_X12_breaks c32) ?_
          exact y_iretF hf dX12_set_68 rfl (by decide) (by decide)
      · replace hf := y_ie c39 hf
        refine y_aload_n (x := p0) (pc2 := 49) rfl dX12_set_48 rfl ?_
        refine y_iload_n (pc2 := 50) rfl dX12_set_49 rfl ?_
        refine y_iload_n (pc2 := 51) rfl dX12_set_50 rfl ?_
        refine y_bipush (v := 60) (pc2 := 53) rfl dX12_set_51 (by decide) ?_
        refine y_isub (pc2 := 54) rfl dX12_set_53 ?_
        obtain ⟨g38, hf⟩ := y_g hf
        obtain ⟨r35, h36, c37, hf⟩ := y_clE hf
        refine y_callV (As := [.int p1, .int (r7 - 60)]) (rm := rm_X12_meets) (cells := 0) (slots := 0) (pc2 := 57) rfl dX12_set_54 n_X12_meets l_BoxYardModel_366 i_X12_meets e_X12_meets (ci := 12) rfl rfl (by decide) g38 rfl rfl (by decide) (by decide) (by decide) (k_X12_meets c37) ?_
        exact y_iretF hf dX12_set_57 rfl (by decide) (by decide)
    · replace hf := y_ie c45 hf
      refine y_aload_n (x := p0) (pc2 := 29) rfl dX12_set_28 rfl ?_
      refine y_bipush (v := (-3 : Int32)) (pc2 := 31) rfl dX12_set_29 (by decide) ?_
      obtain ⟨g44, hf⟩ := y_g hf
      obtain ⟨r41, h42, c43, hf⟩ := y_clE hf
      refine y_callV (As := [.int (-3 : Int32)]) (rm := rm_X12_refused) (cells := 0) (slots := 0) (pc2 := 34) rfl dX12_set_31 n_X12_refused l_BoxYardModel_345 i_X12_refused e_X12_refused (ci := 12) rfl rfl (by decide) g44 rfl rfl (by decide) (by decide) (by decide) (k_X12_refused c43) ?_
      exact y_iretF hf dX12_set_34 rfl (by decide) (by decide)
  · replace hf := y_ie c52 hf
    refine y_aload_n (x := p0) (pc2 := 14) rfl dX12_set_13 rfl ?_
    refine y_iconst (v := (-1 : Int32)) (pc2 := 15) rfl dX12_set_14 (by decide) ?_
    obtain ⟨g51, hf⟩ := y_g hf
    obtain ⟨r48, h49, c50, hf⟩ := y_clE hf
    refine y_callV (As := [.int (-1 : Int32)]) (rm := rm_X12_refused) (cells := 0) (slots := 0) (pc2 := 18) rfl dX12_set_15 n_X12_refused l_BoxYardModel_345 i_X12_refused e_X12_refused (ci := 12) rfl rfl (by decide) g51 rfl rfl (by decide) (by decide) (by decide) (k_X12_refused c50) ?_
    exact y_iretF hf dX12_set_18 rfl (by decide) (by decide)
