theorem dX4_copy_0 : decode cX4_copy 0 = .ok (.iconst 0, 1) := by decide +kernel
theorem dX4_copy_1 : decode cX4_copy 1 = .ok (.istore_n 2, 1) := by decide +kernel
theorem dX4_copy_2 : decode cX4_copy 2 = .ok (.iload_n 2, 1) := by decide +kernel
theorem dX4_copy_3 : decode cX4_copy 3 = .ok (.bipush 6, 2) := by decide +kernel
theorem dX4_copy_5 : decode cX4_copy 5 = .ok (.if_icmp .ge 21, 3) := by decide +kernel
theorem dX4_copy_8 : decode cX4_copy 8 = .ok (.aload_n 0, 1) := by decide +kernel
theorem dX4_copy_9 : decode cX4_copy 9 = .ok (.getfield 29, 3) := by decide +kernel
theorem dX4_copy_12 : decode cX4_copy 12 = .ok (.iload_n 2, 1) := by decide +kernel
theorem dX4_copy_13 : decode cX4_copy 13 = .ok (.aload_n 1, 1) := by decide +kernel
theorem dX4_copy_14 : decode cX4_copy 14 = .ok (.getfield 86, 3) := by decide +kernel
theorem dX4_copy_17 : decode cX4_copy 17 = .ok (.iload_n 2, 1) := by decide +kernel
theorem dX4_copy_18 : decode cX4_copy 18 = .ok (.iaload, 1) := by decide +kernel
theorem dX4_copy_19 : decode cX4_copy 19 = .ok (.iastore, 1) := by decide +kernel
theorem dX4_copy_20 : decode cX4_copy 20 = .ok (.iinc 2 1, 3) := by decide +kernel
theorem dX4_copy_23 : decode cX4_copy 23 = .ok (.goto (-21), 3) := by decide +kernel
theorem dX4_copy_26 : decode cX4_copy 26 = .ok (.iconst 0, 1) := by decide +kernel
theorem dX4_copy_27 : decode cX4_copy 27 = .ok (.istore_n 2, 1) := by decide +kernel
theorem dX4_copy_28 : decode cX4_copy 28 = .ok (.iload_n 2, 1) := by decide +kernel
theorem dX4_copy_29 : decode cX4_copy 29 = .ok (.aload_n 0, 1) := by decide +kernel
theorem dX4_copy_30 : decode cX4_copy 30 = .ok (.getfield 26, 3) := by decide +kernel
theorem dX4_copy_33 : decode cX4_copy 33 = .ok (.arraylength, 1) := by decide +kernel
theorem dX4_copy_34 : decode cX4_copy 34 = .ok (.if_icmp .ge 21, 3) := by decide +kernel
theorem dX4_copy_37 : decode cX4_copy 37 = .ok (.aload_n 0, 1) := by decide +kernel
theorem dX4_copy_38 : decode cX4_copy 38 = .ok (.getfield 26, 3) := by decide +kernel
theorem dX4_copy_41 : decode cX4_copy 41 = .ok (.iload_n 2, 1) := by decide +kernel
theorem dX4_copy_42 : decode cX4_copy 42 = .ok (.aload_n 1, 1) := by decide +kernel
theorem dX4_copy_43 : decode cX4_copy 43 = .ok (.getfield 87, 3) := by decide +kernel
theorem dX4_copy_46 : decode cX4_copy 46 = .ok (.iload_n 2, 1) := by decide +kernel
theorem dX4_copy_47 : decode cX4_copy 47 = .ok (.aaload, 1) := by decide +kernel
theorem dX4_copy_48 : decode cX4_copy 48 = .ok (.aastore, 1) := by decide +kernel
theorem dX4_copy_49 : decode cX4_copy 49 = .ok (.iinc 2 1, 3) := by decide +kernel
theorem dX4_copy_52 : decode cX4_copy 52 = .ok (.goto (-24), 3) := by decide +kernel
theorem dX4_copy_55 : decode cX4_copy 55 = .ok (.return_, 1) := by decide +kernel
def M_X4_copy : y_M := (yX4_copy, cX4_copy, 3, (Option.none : Option Jvm.ClassFile.FieldType))
theorem n_X4_copy : y_N0 M_X4_copy 1 := ⟨(c_6 98 (by decide +kernel) rfl), (c_1 7 (by decide +kernel) rfl), ⟨by decide +kernel, by decide +kernel⟩, by decide +kernel⟩
theorem F_BoxYard_Digging_26 : y_F "BoxYard$Digging" 26 4 8 := ⟨_, _, _, rfl, by decide, Or.inl (c_1 228 (by decide +kernel) rfl)⟩
theorem F_BoxYard_Digging_87 : y_F "BoxYard$Digging" 87 1 4 := ⟨_, _, _, rfl, by decide, Or.inr ⟨"BoxYard", (c_3 74 (by decide +kernel) rfl)⟩⟩
theorem F_BoxYard_Digging_29 : y_F "BoxYard$Digging" 29 4 9 := ⟨_, _, _, rfl, by decide, Or.inl (c_1 229 (by decide +kernel) rfl)⟩
theorem F_BoxYard_Digging_86 : y_F "BoxYard$Digging" 86 1 3 := ⟨_, _, _, rfl, by decide, Or.inr ⟨"BoxYard", (c_3 70 (by decide +kernel) rfl)⟩⟩
set_option maxRecDepth 100000 in
def f_X4_copy (p0 : Nat) (p1 : Nat) (h : y_H) : Option (Unit × y_H) :=
  y_jl (fun (_ : Nat) (_ : Nat) (_ : Int32) (_ : y_H) => (none : Option (Unit × y_H))) (fun j2 (v0_2 : Nat) (v1_2 : Nat) (v2_2 : Int32) (h1 : y_H) =>
      if 6 ≤ v2_2 then
        y_jl (fun (_ : Nat) (_ : Nat) (_ : Int32) (_ : y_H) => (none : Option (Unit × y_H))) (fun j28 (v0_28 : Nat) (v1_28 : Nat) (v2_28 : Int32) (h2 : y_H) =>
            if y_K h2 v0_28 = 5 then
            if y_K h2 (y_P h2 v0_28 8) = 103 then
            if (nI (y_N h2 (y_P h2 v0_28 8))) ≤ v2_28 then
              some ((), h2)
            else
              if y_K h2 v0_28 = 5 then
              if y_K h2 v1_28 = 2 then
              if y_K h2 (y_P h2 v1_28 4) = 103 ∧ y_ix v2_28 (y_N h2 (y_P h2 v1_28 4)) = true then
              if y_K h2 (y_P h2 v0_28 8) = 103 ∧ y_ix v2_28 (y_N h2 (y_P h2 v0_28 8)) = true ∧ ((y_P h2 (y_P h2 v1_28 4) (Int32.toNatClampNeg v2_28)) = 0 ∨ y_K h2 (y_P h2 (y_P h2 v1_28 4) (Int32.toNatClampNeg v2_28)) = 3) then
              y_bd (s_P h2 (y_P h2 v0_28 8) (Int32.toNatClampNeg v2_28) (y_P h2 (y_P h2 v1_28 4) (Int32.toNatClampNeg v2_28))) (fun h3 =>
              j28 v0_28 v1_28 (v2_28 + 1) h3)
              else none
              else none
              else none
              else none
            else none
            else none) (fun j28 =>
        j28 v0_2 v1_2 0 h1)
      else
        if y_K h1 v0_2 = 5 then
        if y_K h1 v1_2 = 2 then
        if y_K h1 (y_P h1 v1_2 3) = 100 ∧ y_ix v2_2 (y_N h1 (y_P h1 v1_2 3)) = true then
        if y_K h1 (y_P h1 v0_2 9) = 100 ∧ y_ix v2_2 (y_N h1 (y_P h1 v0_2 9)) = true then
        y_bd (s_I h1 (y_P h1 v0_2 9) (Int32.toNatClampNeg v2_2) (y_I h1 (y_P h1 v1_2 3) (Int32.toNatClampNeg v2_2))) (fun h12 =>
        j2 v0_2 v1_2 (v2_2 + 1) h12)
        else none
        else none
        else none
        else none) (fun j2 =>
  j2 p0 p1 0 h)
abbrev rm_X4_copy : Room := { frames := 0, cells := 0, slots := 0, locals := 0 }
set_option maxRecDepth 100000 in
set_option maxHeartbeats 4000000 in
theorem k_X4_copy {l : Launch} {G : y_G} {p0 : Nat} {p1 : Nat} {h hz : y_H} {rz : Unit} (hf : f_X4_copy p0 p1 h = some (rz, hz)) : y_S l G M_X4_copy rm_X4_copy [y_p p0, y_p p1] h none hz := by
  refine y_start (lv := [(0, y_p p0), (1, y_p p1)]) (by decide) (by simp [lg_sl, y_p_cat, y_ci, y_cj, M_X4_copy]) (by simp [lv_args, y_p_cat, y_ci, y_cj]) (fun z ad0 => ?_)
  unfold f_X4_copy at hf
  refine y_iconst (v := 0) (pc2 := 1) rfl dX4_copy_0 (by decide) ?_
  refine y_jlE hf (fun j => ∀ (v0_2 : Nat) (v1_2 : Nat) (v2_2 : Int32) (h1 : y_H), j v0_2 v1_2 v2_2 h1 = some (rz, hz) → y_V l G z rm_X4_copy M_X4_copy ad0 h none hz 2 [(0, y_p v0_2), (1, y_p v1_2), (2, .int v2_2)] [] h1 0 0) (fun _ _ _ _ hf => by cases hf) (fun j2 hj2 v0_2 v1_2 v2_2 h1 hf => ?_) (fun j2 hj2 hf => ?_)
  · refine y_iload_n (pc2 := 3) rfl dX4_copy_2 rfl ?_
    refine y_bipush (v := 6) (pc2 := 5) rfl dX4_copy_3 (by decide) ?_
    refine y_icmp_ge (tgt := 26) (pc2 := 8) rfl dX4_copy_5 (by decide) (fun c18 => ?_) (fun c18 => ?_)
    · replace hf := y_it c18 hf
      refine y_iconst (v := 0) (pc2 := 27) rfl dX4_copy_26 (by decide) ?_
      refine y_jlE hf (fun j => ∀ (v0_28 : Nat) (v1_28 : Nat) (v2_28 : Int32) (h2 : y_H), j v0_28 v1_28 v2_28 h2 = some (rz, hz) → y_V l G z rm_X4_copy M_X4_copy ad0 h none hz 28 [(0, y_p v0_28), (1, y_p v1_28), (2, .int v2_28)] [] h2 0 0) (fun _ _ _ _ hf => by cases hf) (fun j28 hj28 v0_28 v1_28 v2_28 h2 hf => ?_) (fun j28 hj28 hf => ?_)
      · refine y_iload_n (pc2 := 29) rfl dX4_copy_28 rfl ?_
        refine y_aload_n (x := v0_28) (pc2 := 30) rfl dX4_copy_29 rfl ?_
        obtain ⟨g11, hf⟩ := y_g hf
        refine y_getP (pc2 := 33) rfl dX4_copy_30 F_BoxYard_Digging_26 (by decide) rfl g11 ?_
        obtain ⟨g10, hf⟩ := y_g hf
        refine y_alen (t := 3) (pc2 := 34) rfl dX4_copy_33 (by decide) g10 ?_
        refine y_icmp_ge (tgt := 55) (pc2 := 37) rfl dX4_copy_34 (by decide) (fun c9 => ?_) (fun c9 => ?_)
        · replace hf := y_it c9 hf
          exact y_vretF hf dX4_copy_55 rfl (by decide) (by decide)
        · replace hf := y_ie c9 hf
          refine y_aload_n (x := v0_28) (pc2 := 38) rfl dX4_copy_37 rfl ?_
          obtain ⟨g8, hf⟩ := y_g hf
          refine y_getP (pc2 := 41) rfl dX4_copy_38 F_BoxYard_Digging_26 (by decide) rfl g8 ?_
          refine y_iload_n (pc2 := 42) rfl dX4_copy_41 rfl ?_
          refine y_aload_n (x := v1_28) (pc2 := 43) rfl dX4_copy_42 rfl ?_
          obtain ⟨g7, hf⟩ := y_g hf
          refine y_getP (pc2 := 46) rfl dX4_copy_43 F_BoxYard_Digging_87 (by decide) rfl g7 ?_
          refine y_iload_n (pc2 := 47) rfl dX4_copy_46 rfl ?_
          obtain ⟨g6, hf⟩ := y_g hf
          refine y_aald (t := 3) (pc2 := 48) rfl dX4_copy_47 (by decide) rfl g6.1 (y_ix_in g6.2) ?_
          obtain ⟨g5, hf⟩ := y_g hf
          obtain ⟨h3, e4, hf⟩ := y_bdE hf
          refine y_aast (t := 3) (ci := 2) (x := y_P h2 (y_P h2 v1_28 4) (Int32.toNatClampNeg v2_28)) (pc2 := 49) rfl dX4_copy_48 (by decide) rfl (by decide) rfl g5.1 (y_ix_in g5.2.1) g5.2.2 e4 ?_
          refine y_iinc (v := v2_28 + 1) (lv' := [(2, .int (v2_28 + 1)), (0, y_p v0_28), (1, y_p v1_28)]) (pc2 := 52) rfl dX4_copy_49 rfl rfl (by decide) (by simp [y_st1, y_p_cat, y_ci, y_cj]) ?_
          refine y_goto (tgt := 28) dX4_copy_52 (by decide) ?_
          exact y_pk [1, 2, 0] rfl (hj28 _ _ _ _ hf)
      · refine y_istore_n (lv' := [(2, .int 0), (0, y_p v0_2), (1, y_p v1_2)]) (pc2 := 28) rfl dX4_copy_27 (by decide) (by show y_st1 _ 2 _ = _; simp [y_st1, y_p_cat, y_ci, y_cj]) ?_
        exact y_pk [1, 2, 0] rfl (hj28 _ _ _ _ hf)
    · replace hf := y_ie c18 hf
      refine y_aload_n (x := v0_2) (pc2 := 9) rfl dX4_copy_8 rfl ?_
      obtain ⟨g17, hf⟩ := y_g hf
      refine y_getP (pc2 := 12) rfl dX4_copy_9 F_BoxYard_Digging_29 (by decide) rfl g17 ?_
      refine y_iload_n (pc2 := 13) rfl dX4_copy_12 rfl ?_
      refine y_aload_n (x := v1_2) (pc2 := 14) rfl dX4_copy_13 rfl ?_
      obtain ⟨g16, hf⟩ := y_g hf
      refine y_getP (pc2 := 17) rfl dX4_copy_14 F_BoxYard_Digging_86 (by decide) rfl g16 ?_
      refine y_iload_n (pc2 := 18) rfl dX4_copy_17 rfl ?_
      obtain ⟨g15, hf⟩ := y_g hf
      refine y_iald (pc2 := 19) rfl dX4_copy_18 g15.1 (y_ix_in g15.2) ?_
      obtain ⟨g14, hf⟩ := y_g hf
      obtain ⟨h12, e13, hf⟩ := y_bdE hf
      refine y_iast (x := y_I h1 (y_P h1 v1_2 3) (Int32.toNatClampNeg v2_2)) (pc2 := 20) rfl dX4_copy_19 g14.1 (y_ix_in g14.2) e13 ?_
      refine y_iinc (v := v2_2 + 1) (lv' := [(2, .int (v2_2 + 1)), (0, y_p v0_2), (1, y_p v1_2)]) (pc2 := 23) rfl dX4_copy_20 rfl rfl (by decide) (by simp [y_st1, y_p_cat, y_ci, y_cj]) ?_
      refine y_goto (tgt := 2) dX4_copy_23 (by decide) ?_
      exact y_pk [1, 2, 0] rfl (hj2 _ _ _ _ hf)
  · refine y_istore_n (lv' := [(2, .int 0), (0, y_p p0), (1, y_p p1)]) (pc2 := 2) rfl dX4_copy_1 (by decide) (by show y_st1 _ 2 _ = _; simp [y_st1, y_p_cat, y_ci, y_cj]) ?_
    exact y_pk [1, 2, 0] rfl (hj2 _ _ _ _ hf)
theorem dX4_topOf_0 : decode cX4_topOf 0 = .ok (.aload_n 1, 1) := by decide +kernel
theorem dX4_topOf_1 : decode cX4_topOf 1 = .ok (.iload_n 2, 1) := by decide +kernel
theorem dX4_topOf_2 : decode cX4_topOf 2 = .ok (.invokevirtual 88, 3) := by decide +kernel
theorem dX4_topOf_5 : decode cX4_topOf 5 = .ok (.ifCond .eq 13, 3) := by decide +kernel
theorem dX4_topOf_8 : decode cX4_topOf 8 = .ok (.aload_n 0, 1) := by decide +kernel
theorem dX4_topOf_9 : decode cX4_topOf 9 = .ok (.getfield 29, 3) := by decide +kernel
theorem dX4_topOf_12 : decode cX4_topOf 12 = .ok (.iload_n 2, 1) := by decide +kernel
theorem dX4_topOf_13 : decode cX4_topOf 13 = .ok (.iaload, 1) := by decide +kernel
theorem dX4_topOf_14 : decode cX4_topOf 14 = .ok (.iconst 1, 1) := by decide +kernel
theorem dX4_topOf_15 : decode cX4_topOf 15 = .ok (.if_icmp .ge 5, 3) := by decide +kernel
theorem dX4_topOf_18 : decode cX4_topOf 18 = .ok (.aconst_null, 1) := by decide +kernel
theorem dX4_topOf_19 : decode cX4_topOf 19 = .ok (.areturn, 1) := by decide +kernel
theorem dX4_topOf_20 : decode cX4_topOf 20 = .ok (.aload_n 0, 1) := by decide +kernel
theorem dX4_topOf_21 : decode cX4_topOf 21 = .ok (.getfield 26, 3) := by decide +kernel
theorem dX4_topOf_24 : decode cX4_topOf 24 = .ok (.iload_n 2, 1) := by decide +kernel
theorem dX4_topOf_25 : decode cX4_topOf 25 = .ok (.iconst 5, 1) := by decide +kernel
theorem dX4_topOf_26 : decode cX4_topOf 26 = .ok (.imul, 1) := by decide +kernel
theorem dX4_topOf_27 : decode cX4_topOf 27 = .ok (.aload_n 0, 1) := by decide +kernel
theorem dX4_topOf_28 : decode cX4_topOf 28 = .ok (.getfield 29, 3) := by decide +kernel
theorem dX4_topOf_31 : decode cX4_topOf 31 = .ok (.iload_n 2, 1) := by decide +kernel
theorem dX4_topOf_32 : decode cX4_topOf 32 = .ok (.iaload, 1) := by decide +kernel
theorem dX4_topOf_33 : decode cX4_topOf 33 = .ok (.iadd, 1) := by decide +kernel
theorem dX4_topOf_34 : decode cX4_topOf 34 = .ok (.iconst 1, 1) := by decide +kernel
theorem dX4_topOf_35 : decode cX4_topOf 35 = .ok (.isub, 1) := by decide +kernel
theorem dX4_topOf_36 : decode cX4_topOf 36 = .ok (.aaload, 1) := by decide +kernel
theorem dX4_topOf_37 : decode cX4_topOf 37 = .ok (.areturn, 1) := by decide +kernel
def M_X4_topOf : y_M := (yX4_topOf, cX4_topOf, 3, (Option.some (Jvm.ClassFile.FieldType.object "BoxYard$Box")))
theorem n_X4_topOf : y_N0 M_X4_topOf 2 := ⟨(c_6 102 (by decide +kernel) rfl), (c_1 7 (by decide +kernel) rfl), ⟨by decide +kernel, by decide +kernel⟩, by decide +kernel⟩
theorem l_BoxYard_Digging_88 : y_lnk "BoxYard$Digging" 88 M_X1_hasStack := Or.inl (c_6 103 (by decide +kernel) rfl)
set_option maxRecDepth 100000 in
def f_X4_topOf (p0 : Nat) (p1 : Nat) (p2 : Int32) (h : y_H) : Option (Nat × y_H) :=
  if y_K h p1 = 2 then
  y_cl (f_X1_hasStack p1 p2 h) (fun r1 h2 =>
  y_jn (fun (h4 : y_H) => (
      some (0, h4) : Option (Nat × y_H))) (fun j18 =>
  if r1 = true then
    if y_K h2 p0 = 5 then
    if y_K h2 (y_P h2 p0 9) = 100 ∧ y_ix p2 (y_N h2 (y_P h2 p0 9)) = true then
    if 1 ≤ (y_I h2 (y_P h2 p0 9) (Int32.toNatClampNeg p2)) then
      if y_K h2 p0 = 5 then
      if y_K h2 p0 = 5 then
      if y_K h2 (y_P h2 p0 9) = 100 ∧ y_ix p2 (y_N h2 (y_P h2 p0 9)) = true then
      if y_K h2 (y_P h2 p0 8) = 103 ∧ y_ix (((p2 * 5) + (y_I h2 (y_P h2 p0 9) (Int32.toNatClampNeg p2))) - 1) (y_N h2 (y_P h2 p0 8)) = true then
      some (y_P h2 (y_P h2 p0 8) (Int32.toNatClampNeg (((p2 * 5) + (y_I h2 (y_P h2 p0 9) (Int32.toNatClampNeg p2))) - 1)), h2)
      else none
      else none
      else none
      else none
    else
      j18 h2
    else none
    else none
  else
    j18 h2))
  else none
abbrev rm_X4_topOf : Room := { frames := 1, cells := 0, slots := 0, locals := 21 }
set_option maxRecDepth 100000 in
set_option maxHeartbeats 4000000 in
theorem k_X4_topOf {l : Launch} {G : y_G} {p0 : Nat} {p1 : Nat} {p2 : Int32} {h hz : y_H} {rz : Nat} (hf : f_X4_topOf p0 p1 p2 h = some (rz, hz)) : y_S l G M_X4_topOf rm_X4_topOf [y_p p0, y_p p1, .int p2] h (some (y_p rz)) hz := by
  refine y_start (lv := [(0, y_p p0), (1, y_p p1), (2, .int p2)]) (by decide) (by simp [lg_sl, y_p_cat, y_ci, y_cj, M_X4_topOf]) (by simp [lv_args, y_p_cat, y_ci, y_cj]) (fun z ad0 => ?_)
  unfold f_X4_topOf at hf
  refine y_aload_n (x := p1) (pc2 := 1) rfl dX4_topOf_0 rfl ?_
  refine y_iload_n (pc2 := 2) rfl dX4_topOf_1 rfl ?_
  obtain ⟨g13, hf⟩ := y_g hf
  obtain ⟨r1, h2, c3, hf⟩ := y_clE hf
  refine y_callV (As := [.int p2]) (rm := rm_X1_hasStack) (cells := 0) (slots := 0) (pc2 := 5) rfl dX4_topOf_2 n_X1_hasStack l_BoxYard_Digging_88 i_X1_hasStack e_X1_hasStack (ci := 1) rfl rfl (by decide) g13 rfl rfl (by decide) (by decide) (by decide) (k_X1_hasStack c3) ?_
  refine y_jnE hf (fun j => ∀ (h4 : y_H), j h4 = some (rz, hz) → y_V l G z rm_X4_topOf M_X4_topOf ad0 h (some (y_p rz)) hz 18 [] [] h4 0 0) (fun h4 hf => ?_) (fun j18 hj18 hf => ?_)
  · refine y_null (pc2 := 19) rfl dX4_topOf_18 ?_
    exact y_aretF hf dX4_topOf_19 rfl (Or.inl ⟨_, rfl⟩) (by decide) (by decide)
  · refine y_ifz_eq (tgt := 18) (pc2 := 8) rfl dX4_topOf_5 (by decide) (fun c12 => ?_) (fun c12 => ?_)
    · replace hf := y_ie c12 hf
      exact y_pk [] rfl (hj18 _ hf)
    · replace hf := y_it c12 hf
      refine y_aload_n (x := p0) (pc2 := 9) rfl dX4_topOf_8 rfl ?_
      obtain ⟨g11, hf⟩ := y_g hf
      refine y_getP (pc2 := 12) rfl dX4_topOf_9 F_BoxYard_Digging_29 (by decide) rfl g11 ?_
      refine y_iload_n (pc2 := 13) rfl dX4_topOf_12 rfl ?_
      obtain ⟨g10, hf⟩ := y_g hf
      refine y_iald (pc2 := 14) rfl dX4_topOf_13 g10.1 (y_ix_in g10.2) ?_
      refine y_iconst (v := 1) (pc2 := 15) rfl dX4_topOf_14 (by decide) ?_
      refine y_icmp_ge (tgt := 20) (pc2 := 18) rfl dX4_topOf_15 (by decide) (fun c9 => ?_) (fun c9 => ?_)
      · replace hf := y_it c9 hf
        refine y_aload_n (x := p0) (pc2 := 21) rfl dX4_topOf_20 rfl ?_
        obtain ⟨g8, hf⟩ := y_g hf
        refine y_getP (pc2 := 24) rfl dX4_topOf_21 F_BoxYard_Digging_26 (by decide) rfl g8 ?_
        refine y_iload_n (pc2 := 25) rfl dX4_topOf_24 rfl ?_
        refine y_iconst (v := 5) (pc2 := 26) rfl dX4_topOf_25 (by decide) ?_
        refine y_imul (pc2 := 27) rfl dX4_topOf_26 ?_
        refine y_aload_n (x := p0) (pc2 := 28) rfl dX4_topOf_27 rfl ?_
        obtain ⟨g7, hf⟩ := y_g hf
        refine y_getP (pc2 := 31) rfl dX4_topOf_28 F_BoxYard_Digging_29 (by decide) rfl g7 ?_
        refine y_iload_n (pc2 := 32) rfl dX4_topOf_31 rfl ?_
        obtain ⟨g6, hf⟩ := y_g hf
        refine y_iald (pc2 := 33) rfl dX4_topOf_32 g6.1 (y_ix_in g6.2) ?_
        refine y_iadd (pc2 := 34) rfl dX4_topOf_33 ?_
        refine y_iconst (v := 1) (pc2 := 35) rfl dX4_topOf_34 (by decide) ?_
        refine y_isub (pc2 := 36) rfl dX4_topOf_35 ?_
        obtain ⟨g5, hf⟩ := y_g hf
        refine y_aald (t := 3) (pc2 := 37) rfl dX4_topOf_36 (by decide) rfl g5.1 (y_ix_in g5.2) ?_
        exact y_aretF hf dX4_topOf_37 rfl (Or.inl ⟨_, rfl⟩) (by decide) (by decide)
      · replace hf := y_ie c9 hf
        exact y_pk [] rfl (hj18 _ hf)
theorem dX4_putOn_0 : decode cX4_putOn 0 = .ok (.iload 4, 2) := by decide +kernel
theorem dX4_putOn_2 : decode cX4_putOn 2 = .ok (.iload_n 3, 1) := by decide +kernel
theorem dX4_putOn_3 : decode cX4_putOn 3 = .ok (.if_icmp .eq 29, 3) := by decide +kernel
theorem dX4_putOn_6 : decode cX4_putOn 6 = .ok (.aload_n 1, 1) := by decide +kernel
theorem dX4_putOn_7 : decode cX4_putOn 7 = .ok (.iload 4, 2) := by decide +kernel
theorem dX4_putOn_9 : decode cX4_putOn 9 = .ok (.invokevirtual 88, 3) := by decide +kernel
theorem dX4_putOn_12 : decode cX4_putOn 12 = .ok (.ifCond .eq 20, 3) := by decide +kernel
theorem dX4_putOn_15 : decode cX4_putOn 15 = .ok (.aload_n 0, 1) := by decide +kernel
theorem dX4_putOn_16 : decode cX4_putOn 16 = .ok (.getfield 29, 3) := by decide +kernel
theorem dX4_putOn_19 : decode cX4_putOn 19 = .ok (.iload 4, 2) := by decide +kernel
theorem dX4_putOn_21 : decode cX4_putOn 21 = .ok (.iaload, 1) := by decide +kernel
theorem dX4_putOn_22 : decode cX4_putOn 22 = .ok (.aload_n 1, 1) := by decide +kernel
theorem dX4_putOn_23 : decode cX4_putOn 23 = .ok (.getfield 92, 3) := by decide +kernel
theorem dX4_putOn_26 : decode cX4_putOn 26 = .ok (.iload 4, 2) := by decide +kernel
theorem dX4_putOn_28 : decode cX4_putOn 28 = .ok (.iaload, 1) := by decide +kernel
theorem dX4_putOn_29 : decode cX4_putOn 29 = .ok (.if_icmp .lt 5, 3) := by decide +kernel
theorem dX4_putOn_32 : decode cX4_putOn 32 = .ok (.iconst 0, 1) := by decide +kernel
theorem dX4_putOn_33 : decode cX4_putOn 33 = .ok (.ireturn, 1) := by decide +kernel
theorem dX4_putOn_34 : decode cX4_putOn 34 = .ok (.aload_n 0, 1) := by decide +kernel
theorem dX4_putOn_35 : decode cX4_putOn 35 = .ok (.getfield 26, 3) := by decide +kernel
theorem dX4_putOn_38 : decode cX4_putOn 38 = .ok (.iload 4, 2) := by decide +kernel
theorem dX4_putOn_40 : decode cX4_putOn 40 = .ok (.iconst 5, 1) := by decide +kernel
theorem dX4_putOn_41 : decode cX4_putOn 41 = .ok (.imul, 1) := by decide +kernel
theorem dX4_putOn_42 : decode cX4_putOn 42 = .ok (.aload_n 0, 1) := by decide +kernel
theorem dX4_putOn_43 : decode cX4_putOn 43 = .ok (.getfield 29, 3) := by decide +kernel
theorem dX4_putOn_46 : decode cX4_putOn 46 = .ok (.iload 4, 2) := by decide +kernel
theorem dX4_putOn_48 : decode cX4_putOn 48 = .ok (.iaload, 1) := by decide +kernel
theorem dX4_putOn_49 : decode cX4_putOn 49 = .ok (.iadd, 1) := by decide +kernel
theorem dX4_putOn_50 : decode cX4_putOn 50 = .ok (.aload_n 2, 1) := by decide +kernel
theorem dX4_putOn_51 : decode cX4_putOn 51 = .ok (.aastore, 1) := by decide +kernel
theorem dX4_putOn_52 : decode cX4_putOn 52 = .ok (.aload_n 0, 1) := by decide +kernel
theorem dX4_putOn_53 : decode cX4_putOn 53 = .ok (.getfield 29, 3) := by decide +kernel
theorem dX4_putOn_56 : decode cX4_putOn 56 = .ok (.iload 4, 2) := by decide +kernel
theorem dX4_putOn_58 : decode cX4_putOn 58 = .ok (.dup2, 1) := by decide +kernel
theorem dX4_putOn_59 : decode cX4_putOn 59 = .ok (.iaload, 1) := by decide +kernel
theorem dX4_putOn_60 : decode cX4_putOn 60 = .ok (.iconst 1, 1) := by decide +kernel
theorem dX4_putOn_61 : decode cX4_putOn 61 = .ok (.iadd, 1) := by decide +kernel
theorem dX4_putOn_62 : decode cX4_putOn 62 = .ok (.iastore, 1) := by decide +kernel
theorem dX4_putOn_63 : decode cX4_putOn 63 = .ok (.iconst 1, 1) := by decide +kernel
theorem dX4_putOn_64 : decode cX4_putOn 64 = .ok (.ireturn, 1) := by decide +kernel
def M_X4_putOn : y_M := (yX4_putOn, cX4_putOn, 5, (Option.some Jvm.ClassFile.FieldType.boolean))
theorem n_X4_putOn : y_N0 M_X4_putOn 4 := ⟨(c_6 107 (by decide +kernel) rfl), (c_1 7 (by decide +kernel) rfl), ⟨by decide +kernel, by decide +kernel⟩, by decide +kernel⟩
theorem F_BoxYard_Digging_92 : y_F "BoxYard$Digging" 92 1 1 := ⟨_, _, _, rfl, by decide, Or.inr ⟨"BoxYard", (c_3 63 (by decide +kernel) rfl)⟩⟩
set_option maxRecDepth 100000 in
def f_X4_putOn (p0 : Nat) (p1 : Nat) (p2 : Nat) (p3 : Int32) (p4 : Int32) (h : y_H) : Option (Bool × y_H) :=
  y_jn (fun (h1 : y_H) => (
      some (false, h1) : Option (Bool × y_H))) (fun j32 =>
  if p4 = p3 then
    j32 h
  else
    if y_K h p1 = 2 then
    y_cl (f_X1_hasStack p1 p4 h) (fun r2 h3 =>
    if r2 = true then
      if y_K h3 p0 = 5 then
      if y_K h3 (y_P h3 p0 9) = 100 ∧ y_ix p4 (y_N h3 (y_P h3 p0 9)) = true then
      if y_K h3 p1 = 2 then
      if y_K h3 (y_P h3 p1 1) = 100 ∧ y_ix p4 (y_N h3 (y_P h3 p1 1)) = true then
      if (y_I h3 (y_P h3 p0 9) (Int32.toNatClampNeg p4)) < (y_I h3 (y_P h3 p1 1) (Int32.toNatClampNeg p4)) then
        if y_K h3 p0 = 5 then
        if y_K h3 p0 = 5 then
        if y_K h3 (y_P h3 p0 9) = 100 ∧ y_ix p4 (y_N h3 (y_P h3 p0 9)) = true then
        if y_K h3 (y_P h3 p0 8) = 103 ∧ y_ix ((p4 * 5) + (y_I h3 (y_P h3 p0 9) (Int32.toNatClampNeg p4))) (y_N h3 (y_P h3 p0 8)) = true ∧ (p2 = 0 ∨ y_K h3 p2 = 3) then
        y_bd (s_P h3 (y_P h3 p0 8) (Int32.toNatClampNeg ((p4 * 5) + (y_I h3 (y_P h3 p0 9) (Int32.toNatClampNeg p4)))) p2) (fun h5 =>
        if y_K h5 p0 = 5 then
        if y_K h5 (y_P h5 p0 9) = 100 ∧ y_ix p4 (y_N h5 (y_P h5 p0 9)) = true then
        if y_K h5 (y_P h5 p0 9) = 100 ∧ y_ix p4 (y_N h5 (y_P h5 p0 9)) = true then
        y_bd (s_I h5 (y_P h5 p0 9) (Int32.toNatClampNeg p4) ((y_I h5 (y_P h5 p0 9) (Int32.toNatClampNeg p4)) + 1)) (fun h8 =>
        some (true, h8))
        else none
        else none
        else none)
        else none
        else none
        else none
        else none
      else
        j32 h3
      else none
      else none
      else none
      else none
    else
      j32 h3)
    else none)
abbrev rm_X4_putOn : Room := { frames := 1, cells := 0, slots := 0, locals := 21 }
set_option maxRecDepth 100000 in
set_option maxHeartbeats 4000000 in
theorem k_X4_putOn {l : Launch} {G : y_G} {p0 : Nat} {p1 : Nat} {p2 : Nat} {p3 : Int32} {p4 : Int32} {h hz : y_H} {rz : Bool} (hf : f_X4_putOn p0 p1 p2 p3 p4 h = some (rz, hz)) : y_S l G M_X4_putOn rm_X4_putOn [y_p p0, y_p p1, y_p p2, .int p3, .int p4] h (some (.int (y_z rz))) hz := by
  refine y_start (lv := [(0, y_p p0), (1, y_p p1), (2, y_p p2), (3, .int p3), (4, .int p4)]) (by decide) (by simp [lg_sl, y_p_cat, y_ci, y_cj, M_X4_putOn]) (by simp [lv_args, y_p_cat, y_ci, y_cj]) (fun z ad0 => ?_)
  unfold f_X4_putOn at hf
  refine y_iload (pc2 := 2) rfl dX4_putOn_0 rfl ?_
  refine y_iload_n (pc2 := 3) rfl dX4_putOn_2 rfl ?_
  refine y_jnE hf (fun j => ∀ (h1 : y_H), j h1 = some (rz, hz) → y_V l G z rm_X4_putOn M_X4_putOn ad0 h (some (.int (y_z rz))) hz 32 [] [] h1 0 0) (fun h1 hf => ?_) (fun j32 hj32 hf => ?_)
  · refine y_iconst (v := 0) (pc2 := 33) rfl dX4_putOn_32 (by decide) ?_
    exact y_zretF (x := false) hf dX4_putOn_33 rfl (by decide) (by decide)
  · refine y_icmp_eq (tgt := 32) (pc2 := 6) rfl dX4_putOn_3 (by decide) (fun c23 => ?_) (fun c23 => ?_)
    · replace hf := y_it c23 hf
      exact y_pk [] rfl (hj32 _ hf)
    · replace hf := y_ie c23 hf
      refine y_aload_n (x := p1) (pc2 := 7) rfl dX4_putOn_6 rfl ?_
      refine y_iload (pc2 := 9) rfl dX4_putOn_7 rfl ?_
      obtain ⟨g22, hf⟩ := y_g hf
      obtain ⟨r2, h3, c4, hf⟩ := y_clE hf
      refine y_callV (As := [.int p4]) (rm := rm_X1_hasStack) (cells := 0) (slots := 0) (pc2 := 12) rfl dX4_putOn_9 n_X1_hasStack l_BoxYard_Digging_88 i_X1_hasStack e_X1_hasStack (ci := 1) rfl rfl (by decide) g22 rfl rfl (by decide) (by decide) (by decide) (k_X1_hasStack c4) ?_
      refine y_ifz_eq (tgt := 32) (pc2 := 15) rfl dX4_putOn_12 (by decide) (fun c21 => ?_) (fun c21 => ?_)
      · replace hf := y_ie c21 hf
        exact y_pk [] rfl (hj32 _ hf)
      · replace hf := y_it c21 hf
        refine y_aload_n (x := p0) (pc2 := 16) rfl dX4_putOn_15 rfl ?_
        obtain ⟨g20, hf⟩ := y_g hf
        refine y_getP (pc2 := 19) rfl dX4_putOn_16 F_BoxYard_Digging_29 (by decide) rfl g20 ?_
        refine y_iload (pc2 := 21) rfl dX4_putOn_19 rfl ?_
        obtain ⟨g19, hf⟩ := y_g hf
        refine y_iald (pc2 := 22) rfl dX4_putOn_21 g19.1 (y_ix_in g19.2) ?_
        refine y_aload_n (x := p1) (pc2 := 23) rfl dX4_putOn_22 rfl ?_
        obtain ⟨g18, hf⟩ := y_g hf
        refine y_getP (pc2 := 26) rfl dX4_putOn_23 F_BoxYard_Digging_92 (by decide) rfl g18 ?_
        refine y_iload (pc2 := 28) rfl dX4_putOn_26 rfl ?_
        obtain ⟨g17, hf⟩ := y_g hf
        refine y_iald (pc2 := 29) rfl dX4_putOn_28 g17.1 (y_ix_in g17.2) ?_
        refine y_icmp_lt (tgt := 34) (pc2 := 32) rfl dX4_putOn_29 (by decide) (fun c16 => ?_) (fun c16 => ?_)
        · replace hf := y_it c16 hf
          refine y_aload_n (x := p0) (pc2 := 35) rfl dX4_putOn_34 rfl ?_
          obtain ⟨g15, hf⟩ := y_g hf
          refine y_getP (pc2 := 38) rfl dX4_putOn_35 F_BoxYard_Digging_26 (by decide) rfl g15 ?_
          refine y_iload (pc2 := 40) rfl dX4_putOn_38 rfl ?_
          refine y_iconst (v := 5) (pc2 := 41) rfl dX4_putOn_40 (by decide) ?_
          refine y_imul (pc2 := 42) rfl dX4_putOn_41 ?_
          refine y_aload_n (x := p0) (pc2 := 43) rfl dX4_putOn_42 rfl ?_
          obtain ⟨g14, hf⟩ := y_g hf
          refine y_getP (pc2 := 46) rfl dX4_putOn_43 F_BoxYard_Digging_29 (by decide) rfl g14 ?_
          refine y_iload (pc2 := 48) rfl dX4_putOn_46 rfl ?_
          obtain ⟨g13, hf⟩ := y_g hf
          refine y_iald (pc2 := 49) rfl dX4_putOn_48 g13.1 (y_ix_in g13.2) ?_
          refine y_iadd (pc2 := 50) rfl dX4_putOn_49 ?_
          refine y_aload_n (x := p2) (pc2 := 51) rfl dX4_putOn_50 rfl ?_
          obtain ⟨g7, hf⟩ := y_g hf
          obtain ⟨h5, e6, hf⟩ := y_bdE hf
          refine y_aast (t := 3) (ci := 2) (x := p2) (pc2 := 52) rfl dX4_putOn_51 (by decide) rfl (by decide) rfl g7.1 (y_ix_in g7.2.1) g7.2.2 e6 ?_
          refine y_aload_n (x := p0) (pc2 := 53) rfl dX4_putOn_52 rfl ?_
          obtain ⟨g12, hf⟩ := y_g hf
          refine y_getP (pc2 := 56) rfl dX4_putOn_53 F_BoxYard_Digging_29 (by decide) rfl g12 ?_
          refine y_iload (pc2 := 58) rfl dX4_putOn_56 rfl ?_
          refine y_dup2 (pc2 := 59) rfl dX4_putOn_58 rfl (y_p_cat _) ?_
          obtain ⟨g11, hf⟩ := y_g hf
          refine y_iald (pc2 := 60) rfl dX4_putOn_59 g11.1 (y_ix_in g11.2) ?_
          refine y_iconst (v := 1) (pc2 := 61) rfl dX4_putOn_60 (by decide) ?_
          refine y_iadd (pc2 := 62) rfl dX4_putOn_61 ?_
          obtain ⟨g10, hf⟩ := y_g hf
          obtain ⟨h8, e9, hf⟩ := y_bdE hf
          refine y_iast (x := (y_I h5 (y_P h5 p0 9) (Int32.toNatClampNeg p4)) + 1) (pc2 := 63) rfl dX4_putOn_62 g10.1 (y_ix_in g10.2) e9 ?_
          refine y_iconst (v := 1) (pc2 := 64) rfl dX4_putOn_63 (by decide) ?_
          exact y_zretF (x := true) hf dX4_putOn_64 rfl (by decide) (by decide)
        · replace hf := y_ie c16 hf
          exact y_pk [] rfl (hj32 _ hf)
theorem dX4_rowHolds_0 : decode cX4_rowHolds 0 = .ok (.aload_n 0, 1) := by decide +kernel
theorem dX4_rowHolds_1 : decode cX4_rowHolds 1 = .ok (.aload_n 1, 1) := by decide +kernel
theorem dX4_rowHolds_2 : decode cX4_rowHolds 2 = .ok (.invokevirtual 70, 3) := by decide +kernel
theorem dX4_rowHolds_5 : decode cX4_rowHolds 5 = .ok (.ifCond .ne 5, 3) := by decide +kernel
theorem dX4_rowHolds_8 : decode cX4_rowHolds 8 = .ok (.iconst 0, 1) := by decide +kernel
theorem dX4_rowHolds_9 : decode cX4_rowHolds 9 = .ok (.ireturn, 1) := by decide +kernel
theorem dX4_rowHolds_10 : decode cX4_rowHolds 10 = .ok (.aload_n 0, 1) := by decide +kernel
theorem dX4_rowHolds_11 : decode cX4_rowHolds 11 = .ok (.aload_n 1, 1) := by decide +kernel
theorem dX4_rowHolds_12 : decode cX4_rowHolds 12 = .ok (.invokevirtual 74, 3) := by decide +kernel
theorem dX4_rowHolds_15 : decode cX4_rowHolds 15 = .ok (.iconst 0, 1) := by decide +kernel
theorem dX4_rowHolds_16 : decode cX4_rowHolds 16 = .ok (.istore_n 2, 1) := by decide +kernel
theorem dX4_rowHolds_17 : decode cX4_rowHolds 17 = .ok (.iconst 0, 1) := by decide +kernel
theorem dX4_rowHolds_18 : decode cX4_rowHolds 18 = .ok (.istore_n 3, 1) := by decide +kernel
theorem dX4_rowHolds_19 : decode cX4_rowHolds 19 = .ok (.iload_n 3, 1) := by decide +kernel
theorem dX4_rowHolds_20 : decode cX4_rowHolds 20 = .ok (.aload_n 0, 1) := by decide +kernel
theorem dX4_rowHolds_21 : decode cX4_rowHolds 21 = .ok (.getfield 36, 3) := by decide +kernel
theorem dX4_rowHolds_24 : decode cX4_rowHolds 24 = .ok (.if_icmp .ge 110, 3) := by decide +kernel
theorem dX4_rowHolds_27 : decode cX4_rowHolds 27 = .ok (.iload_n 2, 1) := by decide +kernel
theorem dX4_rowHolds_28 : decode cX4_rowHolds 28 = .ok (.aload_n 0, 1) := by decide +kernel
theorem dX4_rowHolds_29 : decode cX4_rowHolds 29 = .ok (.getfield 32, 3) := by decide +kernel
theorem dX4_rowHolds_32 : decode cX4_rowHolds 32 = .ok (.if_icmp .ge 17, 3) := by decide +kernel
theorem dX4_rowHolds_35 : decode cX4_rowHolds 35 = .ok (.aload_n 0, 1) := by decide +kernel
theorem dX4_rowHolds_36 : decode cX4_rowHolds 36 = .ok (.aload_n 1, 1) := by decide +kernel
theorem dX4_rowHolds_37 : decode cX4_rowHolds 37 = .ok (.aload_n 0, 1) := by decide +kernel
theorem dX4_rowHolds_38 : decode cX4_rowHolds 38 = .ok (.getfield 17, 3) := by decide +kernel
theorem dX4_rowHolds_41 : decode cX4_rowHolds 41 = .ok (.iload_n 3, 1) := by decide +kernel
theorem dX4_rowHolds_42 : decode cX4_rowHolds 42 = .ok (.iaload, 1) := by decide +kernel
theorem dX4_rowHolds_43 : decode cX4_rowHolds 43 = .ok (.invokevirtual 78, 3) := by decide +kernel
theorem dX4_rowHolds_46 : decode cX4_rowHolds 46 = .ok (.goto 4, 3) := by decide +kernel
theorem dX4_rowHolds_49 : decode cX4_rowHolds 49 = .ok (.aconst_null, 1) := by decide +kernel
theorem dX4_rowHolds_50 : decode cX4_rowHolds 50 = .ok (.astore 4, 2) := by decide +kernel
theorem dX4_rowHolds_52 : decode cX4_rowHolds 52 = .ok (.aload 4, 2) := by decide +kernel
theorem dX4_rowHolds_54 : decode cX4_rowHolds 54 = .ok (.ifnonnull 5, 3) := by decide +kernel
theorem dX4_rowHolds_57 : decode cX4_rowHolds 57 = .ok (.iconst 0, 1) := by decide +kernel
theorem dX4_rowHolds_58 : decode cX4_rowHolds 58 = .ok (.ireturn, 1) := by decide +kernel
theorem dX4_rowHolds_59 : decode cX4_rowHolds 59 = .ok (.aload_n 0, 1) := by decide +kernel
theorem dX4_rowHolds_60 : decode cX4_rowHolds 60 = .ok (.getfield 29, 3) := by decide +kernel
theorem dX4_rowHolds_63 : decode cX4_rowHolds 63 = .ok (.aload_n 0, 1) := by decide +kernel
theorem dX4_rowHolds_64 : decode cX4_rowHolds 64 = .ok (.getfield 17, 3) := by decide +kernel
theorem dX4_rowHolds_67 : decode cX4_rowHolds 67 = .ok (.iload_n 3, 1) := by decide +kernel
theorem dX4_rowHolds_68 : decode cX4_rowHolds 68 = .ok (.iaload, 1) := by decide +kernel
theorem dX4_rowHolds_69 : decode cX4_rowHolds 69 = .ok (.dup2, 1) := by decide +kernel
theorem dX4_rowHolds_70 : decode cX4_rowHolds 70 = .ok (.iaload, 1) := by decide +kernel
theorem dX4_rowHolds_71 : decode cX4_rowHolds 71 = .ok (.iconst 1, 1) := by decide +kernel
theorem dX4_rowHolds_72 : decode cX4_rowHolds 72 = .ok (.isub, 1) := by decide +kernel
theorem dX4_rowHolds_73 : decode cX4_rowHolds 73 = .ok (.iastore, 1) := by decide +kernel
theorem dX4_rowHolds_74 : decode cX4_rowHolds 74 = .ok (.aload_n 0, 1) := by decide +kernel
theorem dX4_rowHolds_75 : decode cX4_rowHolds 75 = .ok (.getfield 21, 3) := by decide +kernel
theorem dX4_rowHolds_78 : decode cX4_rowHolds 78 = .ok (.iload_n 3, 1) := by decide +kernel
theorem dX4_rowHolds_79 : decode cX4_rowHolds 79 = .ok (.iaload, 1) := by decide +kernel
theorem dX4_rowHolds_80 : decode cX4_rowHolds 80 = .ok (.bipush (-9), 2) := by decide +kernel
theorem dX4_rowHolds_82 : decode cX4_rowHolds 82 = .ok (.if_icmp .ne 22, 3) := by decide +kernel
theorem dX4_rowHolds_85 : decode cX4_rowHolds 85 = .ok (.aload 4, 2) := by decide +kernel
theorem dX4_rowHolds_87 : decode cX4_rowHolds 87 = .ok (.aload_n 0, 1) := by decide +kernel
theorem dX4_rowHolds_88 : decode cX4_rowHolds 88 = .ok (.getfield 13, 3) := by decide +kernel
theorem dX4_rowHolds_91 : decode cX4_rowHolds 91 = .ok (.iload_n 2, 1) := by decide +kernel
theorem dX4_rowHolds_92 : decode cX4_rowHolds 92 = .ok (.aaload, 1) := by decide +kernel
theorem dX4_rowHolds_93 : decode cX4_rowHolds 93 = .ok (.if_acmp .eq 5, 3) := by decide +kernel
theorem dX4_rowHolds_96 : decode cX4_rowHolds 96 = .ok (.iconst 0, 1) := by decide +kernel
theorem dX4_rowHolds_97 : decode cX4_rowHolds 97 = .ok (.ireturn, 1) := by decide +kernel
theorem dX4_rowHolds_98 : decode cX4_rowHolds 98 = .ok (.iinc 2 1, 3) := by decide +kernel
theorem dX4_rowHolds_101 : decode cX4_rowHolds 101 = .ok (.goto 27, 3) := by decide +kernel
theorem dX4_rowHolds_104 : decode cX4_rowHolds 104 = .ok (.aload_n 0, 1) := by decide +kernel
theorem dX4_rowHolds_105 : decode cX4_rowHolds 105 = .ok (.aload_n 1, 1) := by decide +kernel
theorem dX4_rowHolds_106 : decode cX4_rowHolds 106 = .ok (.aload 4, 2) := by decide +kernel
theorem dX4_rowHolds_108 : decode cX4_rowHolds 108 = .ok (.aload_n 0, 1) := by decide +kernel
theorem dX4_rowHolds_109 : decode cX4_rowHolds 109 = .ok (.getfield 17, 3) := by decide +kernel
theorem dX4_rowHolds_112 : decode cX4_rowHolds 112 = .ok (.iload_n 3, 1) := by decide +kernel
theorem dX4_rowHolds_113 : decode cX4_rowHolds 113 = .ok (.iaload, 1) := by decide +kernel
theorem dX4_rowHolds_114 : decode cX4_rowHolds 114 = .ok (.aload_n 0, 1) := by decide +kernel
theorem dX4_rowHolds_115 : decode cX4_rowHolds 115 = .ok (.getfield 21, 3) := by decide +kernel
theorem dX4_rowHolds_118 : decode cX4_rowHolds 118 = .ok (.iload_n 3, 1) := by decide +kernel
theorem dX4_rowHolds_119 : decode cX4_rowHolds 119 = .ok (.iaload, 1) := by decide +kernel
theorem dX4_rowHolds_120 : decode cX4_rowHolds 120 = .ok (.invokevirtual 82, 3) := by decide +kernel
theorem dX4_rowHolds_123 : decode cX4_rowHolds 123 = .ok (.ifCond .ne 5, 3) := by decide +kernel
theorem dX4_rowHolds_126 : decode cX4_rowHolds 126 = .ok (.iconst 0, 1) := by decide +kernel
theorem dX4_rowHolds_127 : decode cX4_rowHolds 127 = .ok (.ireturn, 1) := by decide +kernel
theorem dX4_rowHolds_128 : decode cX4_rowHolds 128 = .ok (.iinc 3 1, 3) := by decide +kernel
theorem dX4_rowHolds_131 : decode cX4_rowHolds 131 = .ok (.goto (-112), 3) := by decide +kernel
theorem dX4_rowHolds_134 : decode cX4_rowHolds 134 = .ok (.iload_n 2, 1) := by decide +kernel
theorem dX4_rowHolds_135 : decode cX4_rowHolds 135 = .ok (.aload_n 0, 1) := by decide +kernel
theorem dX4_rowHolds_136 : decode cX4_rowHolds 136 = .ok (.getfield 32, 3) := by decide +kernel
theorem dX4_rowHolds_139 : decode cX4_rowHolds 139 = .ok (.if_icmp .ne 7, 3) := by decide +kernel
theorem dX4_rowHolds_142 : decode cX4_rowHolds 142 = .ok (.iconst 1, 1) := by decide +kernel
theorem dX4_rowHolds_143 : decode cX4_rowHolds 143 = .ok (.goto 4, 3) := by decide +kernel
theorem dX4_rowHolds_146 : decode cX4_rowHolds 146 = .ok (.iconst 0, 1) := by decide +kernel
theorem dX4_rowHolds_147 : decode cX4_rowHolds 147 = .ok (.ireturn, 1) := by decide +kernel
def M_X4_rowHolds : y_M := (yX4_rowHolds, cX4_rowHolds, 5, (Option.some Jvm.ClassFile.FieldType.boolean))
theorem n_X4_rowHolds : y_N0 M_X4_rowHolds 1 := ⟨(c_6 93 (by decide +kernel) rfl), (c_1 7 (by decide +kernel) rfl), ⟨by decide +kernel, by decide +kernel⟩, by decide +kernel⟩
theorem l_BoxYard_Digging_70 : y_lnk "BoxYard$Digging" 70 M_X4_hasOrderIn := Or.inl (c_6 94 (by decide +kernel) rfl)
theorem i_X4_hasOrderIn : Cond.instanceMethod (M_X4_hasOrderIn).1 ∈ y_tb := (c_5 190 (by decide +kernel) rfl)
theorem e_X4_hasOrderIn : Cond.selects (M_X4_hasOrderIn).1.cls (M_X4_hasOrderIn).1 (M_X4_hasOrderIn).1 ∈ y_tb := (c_5 191 (by decide +kernel) rfl)
theorem l_BoxYard_Digging_74 : y_lnk "BoxYard$Digging" 74 M_X4_copy := Or.inl (c_6 95 (by decide +kernel) rfl)
theorem i_X4_copy : Cond.instanceMethod (M_X4_copy).1 ∈ y_tb := (c_6 97 (by decide +kernel) rfl)
theorem e_X4_copy : Cond.selects (M_X4_copy).1.cls (M_X4_copy).1 (M_X4_copy).1 ∈ y_tb := (m_s 31 (by decide +kernel) rfl)
theorem F_BoxYard_Digging_36 : y_F "BoxYard$Digging" 36 4 4 := ⟨_, _, _, rfl, by decide, Or.inl (c_1 222 (by decide +kernel) rfl)⟩
theorem F_BoxYard_Digging_17 : y_F "BoxYard$Digging" 17 4 2 := ⟨_, _, _, rfl, by decide, Or.inl (c_1 218 (by decide +kernel) rfl)⟩
theorem F_BoxYard_Digging_21 : y_F "BoxYard$Digging" 21 4 3 := ⟨_, _, _, rfl, by decide, Or.inl (c_1 220 (by decide +kernel) rfl)⟩
theorem l_BoxYard_Digging_82 : y_lnk "BoxYard$Digging" 82 M_X4_putOn := Or.inl (c_6 104 (by decide +kernel) rfl)
theorem i_X4_putOn : Cond.instanceMethod (M_X4_putOn).1 ∈ y_tb := (c_6 106 (by decide +kernel) rfl)
theorem e_X4_putOn : Cond.selects (M_X4_putOn).1.cls (M_X4_putOn).1 (M_X4_putOn).1 ∈ y_tb := (m_s 33 (by decide +kernel) rfl)
theorem l_BoxYard_Digging_78 : y_lnk "BoxYard$Digging" 78 M_X4_topOf := Or.inl (c_6 99 (by decide +kernel) rfl)
theorem i_X4_topOf : Cond.instanceMethod (M_X4_topOf).1 ∈ y_tb := (c_6 101 (by decide +kernel) rfl)
theorem e_X4_topOf : Cond.selects (M_X4_topOf).1.cls (M_X4_topOf).1 (M_X4_topOf).1 ∈ y_tb := (m_s 32 (by decide +kernel) rfl)
set_option maxRecDepth 100000 in
def f_X4_rowHolds (p0 : Nat) (p1 : Nat) (h : y_H) : Option (Bool × y_H) :=
  if y_K h p0 = 5 then
  y_cl (f_X4_hasOrderIn p0 p1 h) (fun r1 h2 =>
  if r1 = true then
    if y_K h2 p0 = 5 then
    y_cl (f_X4_copy p0 p1 h2) (fun _ h4 =>
    y_jl (fun (_ : Nat) (_ : Nat) (_ : Int32) (_ : Int32) (_ : y_H) => (none : Option (Bool × y_H))) (fun j19 (v0_19 : Nat) (v1_19 : Nat) (v2_19 : Int32) (v3_19 : Int32) (h6 : y_H) =>
        if y_K h6 v0_19 = 5 then
        if (y_I h6 v0_19 4) ≤ v3_19 then
          if y_K h6 v0_19 = 5 then
          if v2_19 = (y_I h6 v0_19 1) then
            some (true, h6)
          else
            some (false, h6)
          else none
        else
          if y_K h6 v0_19 = 5 then
          if (y_I h6 v0_19 1) ≤ v2_19 then
            if 0 = 0 then
              some (false, h6)
            else
              if y_K h6 v0_19 = 5 then
              if y_K h6 v0_19 = 5 then
              if y_K h6 (y_P h6 v0_19 2) = 100 ∧ y_ix v3_19 (y_N h6 (y_P h6 v0_19 2)) = true then
              if y_K h6 (y_P h6 v0_19 9) = 100 ∧ y_ix (y_I h6 (y_P h6 v0_19 2) (Int32.toNatClampNeg v3_19)) (y_N h6 (y_P h6 v0_19 9)) = true then
              if y_K h6 (y_P h6 v0_19 9) = 100 ∧ y_ix (y_I h6 (y_P h6 v0_19 2) (Int32.toNatClampNeg v3_19)) (y_N h6 (y_P h6 v0_19 9)) = true then
              y_bd (s_I h6 (y_P h6 v0_19 9) (Int32.toNatClampNeg (y_I h6 (y_P h6 v0_19 2) (Int32.toNatClampNeg v3_19))) ((y_I h6 (y_P h6 v0_19 9) (Int32.toNatClampNeg (y_I h6 (y_P h6 v0_19 2) (Int32.toNatClampNeg v3_19)))) - 1)) (fun h9 =>
              if y_K h9 v0_19 = 5 then
              if y_K h9 (y_P h9 v0_19 3) = 100 ∧ y_ix v3_19 (y_N h9 (y_P h9 v0_19 3)) = true then
              y_jn (fun (v0_128 : Nat) (v1_128 : Nat) (v2_128 : Int32) (v3_128 : Int32) (h12 : y_H) => (
                  j19 v0_128 v1_128 v2_128 (v3_128 + 1) h12 : Option (Bool × y_H))) (fun j128 =>
              if (y_I h9 (y_P h9 v0_19 3) (Int32.toNatClampNeg v3_19)) = (-9 : Int32) then
                if y_K h9 v0_19 = 5 then
                if y_K h9 (y_P h9 v0_19 0) = 103 ∧ y_ix v2_19 (y_N h9 (y_P h9 v0_19 0)) = true then
                if 0 = (y_P h9 (y_P h9 v0_19 0) (Int32.toNatClampNeg v2_19)) then
                  j128 v0_19 v1_19 (v2_19 + 1) v3_19 h9
                else
                  some (false, h9)
                else none
                else none
              else
                if y_K h9 v0_19 = 5 then
                if y_K h9 (y_P h9 v0_19 2) = 100 ∧ y_ix v3_19 (y_N h9 (y_P h9 v0_19 2)) = true then
                if y_K h9 v0_19 = 5 then
                if y_K h9 (y_P h9 v0_19 3) = 100 ∧ y_ix v3_19 (y_N h9 (y_P h9 v0_19 3)) = true then
                if y_K h9 v0_19 = 5 then
                y_cl (f_X4_putOn v0_19 v1_19 0 (y_I h9 (y_P h9 v0_19 2) (Int32.toNatClampNeg v3_19)) (y_I h9 (y_P h9 v0_19 3) (Int32.toNatClampNeg v3_19)) h9) (fun r13 h14 =>
                if r13 = true then
                  j128 v0_19 v1_19 v2_19 v3_19 h14
                else
                  some (false, h14))
                else none
                else none
                else none
                else none
                else none)
              else none
              else none)
              else none
              else none
              else none
              else none
              else none
          else
            if y_K h6 v0_19 = 5 then
            if y_K h6 (y_P h6 v0_19 2) = 100 ∧ y_ix v3_19 (y_N h6 (y_P h6 v0_19 2)) = true then
            if y_K h6 v0_19 = 5 then
            y_cl (f_X4_topOf v0_19 v1_19 (y_I h6 (y_P h6 v0_19 2) (Int32.toNatClampNeg v3_19)) h6) (fun r33 h34 =>
            if r33 = 0 then
              some (false, h34)
            else
              if y_K h34 v0_19 = 5 then
              if y_K h34 v0_19 = 5 then
              if y_K h34 (y_P h34 v0_19 2) = 100 ∧ y_ix v3_19 (y_N h34 (y_P h34 v0_19 2)) = true then
              if y_K h34 (y_P h34 v0_19 9) = 100 ∧ y_ix (y_I h34 (y_P h34 v0_19 2) (Int32.toNatClampNeg v3_19)) (y_N h34 (y_P h34 v0_19 9)) = true then
              if y_K h34 (y_P h34 v0_19 9) = 100 ∧ y_ix (y_I h34 (y_P h34 v0_19 2) (Int32.toNatClampNeg v3_19)) (y_N h34 (y_P h34 v0_19 9)) = true then
              y_bd (s_I h34 (y_P h34 v0_19 9) (Int32.toNatClampNeg (y_I h34 (y_P h34 v0_19 2) (Int32.toNatClampNeg v3_19))) ((y_I h34 (y_P h34 v0_19 9) (Int32.toNatClampNeg (y_I h34 (y_P h34 v0_19 2) (Int32.toNatClampNeg v3_19)))) - 1)) (fun h36 =>
              if y_K h36 v0_19 = 5 then
              if y_K h36 (y_P h36 v0_19 3) = 100 ∧ y_ix v3_19 (y_N h36 (y_P h36 v0_19 3)) = true then
              y_jn (fun (v0_128 : Nat) (v1_128 : Nat) (v2_128 : Int32) (v3_128 : Int32) (h39 : y_H) => (
                  j19 v0_128 v1_128 v2_128 (v3_128 + 1) h39 : Option (Bool × y_H))) (fun j128 =>
              if (y_I h36 (y_P h36 v0_19 3) (Int32.toNatClampNeg v3_19)) = (-9 : Int32) then
                if y_K h36 v0_19 = 5 then
                if y_K h36 (y_P h36 v0_19 0) = 103 ∧ y_ix v2_19 (y_N h36 (y_P h36 v0_19 0)) = true then
                if r33 = (y_P h36 (y_P h36 v0_19 0) (Int32.toNatClampNeg v2_19)) then
                  j128 v0_19 v1_19 (v2_19 + 1) v3_19 h36
                else
                  some (false, h36)
                else none
                else none
              else
                if y_K h36 v0_19 = 5 then
                if y_K h36 (y_P h36 v0_19 2) = 100 ∧ y_ix v3_19 (y_N h36 (y_P h36 v0_19 2)) = true then
                if y_K h36 v0_19 = 5 then
                if y_K h36 (y_P h36 v0_19 3) = 100 ∧ y_ix v3_19 (y_N h36 (y_P h36 v0_19 3)) = true then
                if y_K h36 v0_19 = 5 then
                y_cl (f_X4_putOn v0_19 v1_19 r33 (y_I h36 (y_P h36 v0_19 2) (Int32.toNatClampNeg v3_19)) (y_I h36 (y_P h36 v0_19 3) (Int32.toNatClampNeg v3_19)) h36) (fun r40 h41 =>
                if r40 = true then
                  j128 v0_19 v1_19 v2_19 v3_19 h41
                else
                  some (false, h41))
                else none
                else none
                else none
                else none
                else none)
              else none
              else none)
              else none
              else none
              else none
              else none
              else none)
            else none
            else none
            else none
          else none
        else none) (fun j19 =>
    j19 p0 p1 0 0 h4))
    else none
  else
    some (false, h2))
  else none
abbrev rm_X4_rowHolds : Room := { frames := 2, cells := 0, slots := 0, locals := 45 }
set_option maxRecDepth 100000 in
set_option maxHeartbeats 4000000 in
theorem k_X4_rowHolds {l : Launch} {G : y_G} {p0 : Nat} {p1 : Nat} {h hz : y_H} {rz : Bool} (hf : f_X4_rowHolds p0 p1 h = some (rz, hz)) : y_S l G M_X4_rowHolds rm_X4_rowHolds [y_p p0, y_p p1] h (some (.int (y_z rz))) hz := by
  refine y_start (lv := [(0, y_p p0), (1, y_p p1)]) (by decide) (by simp [lg_sl, y_p_cat, y_ci, y_cj, M_X4_rowHolds]) (by simp [lv_args, y_p_cat, y_ci, y_cj]) (fun z ad0 => ?_)
  unfold f_X4_rowHolds at hf
  refine y_aload_n (x := p0) (pc2 := 1) rfl dX4_rowHolds_0 rfl ?_
  refine y_aload_n (x := p1) (pc2 := 2) rfl dX4_rowHolds_1 rfl ?_
  obtain ⟨g69, hf⟩ := y_g hf
  obtain ⟨r1, h2, c3, hf⟩ := y_clE hf
  refine y_callV (As := [y_p p1]) (rm := rm_X4_hasOrderIn) (cells := 0) (slots := 0) (pc2 := 5) rfl dX4_rowHolds_2 n_X4_hasOrderIn l_BoxYard_Digging_70 i_X4_hasOrderIn e_X4_hasOrderIn (ci := 4) rfl rfl (by decide) g69 rfl rfl (by decide) (by decide) (by decide) (k_X4_hasOrderIn c3) ?_
  refine y_ifz_ne (tgt := 10) (pc2 := 8) rfl dX4_rowHolds_5 (by decide) (fun c68 => ?_) (fun c68 => ?_)
  · replace hf := y_it c68 hf
    refine y_aload_n (x := p0) (pc2 := 11) rfl dX4_rowHolds_10 rfl ?_
    refine y_aload_n (x := p1) (pc2 := 12) rfl dX4_rowHolds_11 rfl ?_
    obtain ⟨g67, hf⟩ := y_g hf
    obtain ⟨r_, h4, c5, hf⟩ := y_clE hf
    refine y_callV (As := [y_p p1]) (rm := rm_X4_copy) (cells := 0) (slots := 0) (pc2 := 15) rfl dX4_rowHolds_12 n_X4_copy l_BoxYard_Digging_74 i_X4_copy e_X4_copy (ci := 4) rfl rfl (by decide) g67 rfl rfl (by decide) (by decide) (by decide) (k_X4_copy c5) ?_
    refine y_iconst (v := 0) (pc2 := 16) rfl dX4_rowHolds_15 (by decide) ?_
    refine y_istore_n (lv' := [(2, .int 0), (0, y_p p0), (1, y_p p1)]) (pc2 := 17) rfl dX4_rowHolds_16 (by decide) (by show y_st1 _ 2 _ = _; simp [y_st1, y_p_cat, y_ci, y_cj]) ?_
    refine y_iconst (v := 0) (pc2 := 18) rfl dX4_rowHolds_17 (by decide) ?_
    refine y_jlE hf (fun j => ∀ (v0_19 : Nat) (v1_19 : Nat) (v2_19 : Int32) (v3_19 : Int32) (h6 : y_H), j v0_19 v1_19 v2_19 v3_19 h6 = some (rz, hz) → y_V l G z rm_X4_rowHolds M_X4_rowHolds ad0 h (some (.int (y_z rz))) hz 19 [(0, y_p v0_19), (1, y_p v1_19), (2, .int v2_19), (3, .int v3_19)] [] h6 0 0) (fun _ _ _ _ _ hf => by cases hf) (fun j19 hj19 v0_19 v1_19 v2_19 v3_19 h6 hf => ?_) (fun j19 hj19 hf => ?_)
    · refine y_iload_n (pc2 := 20) rfl dX4_rowHolds_19 rfl ?_
      refine y_aload_n (x := v0_19) (pc2 := 21) rfl dX4_rowHolds_20 rfl ?_
      obtain ⟨g66, hf⟩ := y_g hf
      refine y_getI (pc2 := 24) rfl dX4_rowHolds_21 F_BoxYard_Digging_36 (by decide) rfl g66 ?_
      refine y_icmp_ge (tgt := 134) (pc2 := 27) rfl dX4_rowHolds_24 (by decide) (fun c65 => ?_) (fun c65 => ?_)
      · replace hf := y_it c65 hf
        refine y_iload_n (pc2 := 135) rfl dX4_rowHolds_134 rfl ?_
        refine y_aload_n (x := v0_19) (pc2 := 136) rfl dX4_rowHolds_135 rfl ?_
        obtain ⟨g8, hf⟩ := y_g hf
        refine y_getI (pc2 := 139) rfl dX4_rowHolds_136 F_BoxYard_Digging_32 (by decide) rfl g8 ?_
        refine y_icmp_ne (tgt := 146) (pc2 := 142) rfl dX4_rowHolds_139 (by decide) (fun c7 => ?_) (fun c7 => ?_)
        · replace hf := y_ie c7 hf
          refine y_iconst (v := 0) (pc2 := 147) rfl dX4_rowHolds_146 (by decide) ?_
          exact y_zretF (x := false) hf dX4_rowHolds_147 rfl (by decide) (by decide)
        · replace hf := y_it c7 hf
          refine y_iconst (v := 1) (pc2 := 143) rfl dX4_rowHolds_142 (by decide) ?_
          refine y_goto (tgt := 147) dX4_rowHolds_143 (by decide) ?_
          exact y_zretF (x := true) hf dX4_rowHolds_147 rfl (by decide) (by decide)
      · replace hf := y_ie c65 hf
        refine y_iload_n (pc2 := 28) rfl dX4_rowHolds_27 rfl ?_
        refine y_aload_n (x := v0_19) (pc2 := 29) rfl dX4_rowHolds_28 rfl ?_
        obtain ⟨g64, hf⟩ := y_g hf
        refine y_getI (pc2 := 32) rfl dX4_rowHolds_29 F_BoxYard_Digging_32 (by decide) rfl g64 ?_
        refine y_icmp_ge (tgt := 49) (pc2 := 35) rfl dX4_rowHolds_32 (by decide) (fun c63 => ?_) (fun c63 => ?_)
        · replace hf := y_it c63 hf
          refine y_null (pc2 := 50) rfl dX4_rowHolds_49 ?_
          refine y_astore (lv' := [(4, y_p 0), (0, y_p v0_19), (1, y_p v1_19), (2, .int v2_19), (3, .int v3_19)]) (pc2 := 52) rfl dX4_rowHolds_50 (by decide) rfl ?_
          refine y_aload (x := 0) (pc2 := 54) rfl dX4_rowHolds_52 rfl ?_
          refine y_ifnonnull (tgt := 59) (pc2 := 57) rfl dX4_rowHolds_54 (by decide) (fun c32 => ?_) (fun c32 => ?_)
          · replace hf := y_ie c32 hf
            refine y_aload_n (x := v0_19) (pc2 := 60) rfl dX4_rowHolds_59 rfl ?_
            obtain ⟨g31, hf⟩ := y_g hf
            refine y_getP (pc2 := 63) rfl dX4_rowHolds_60 F_BoxYard_Digging_29 (by decide) rfl g31 ?_
            refine y_aload_n (x := v0_19) (pc2 := 64) rfl dX4_rowHolds_63 rfl ?_
            obtain ⟨g30, hf⟩ := y_g hf
            refine y_getP (pc2 := 67) rfl dX4_rowHolds_64 F_BoxYard_Digging_17 (by decide) rfl g30 ?_
            refine y_iload_n (pc2 := 68) rfl dX4_rowHolds_67 rfl ?_
            obtain ⟨g29, hf⟩ := y_g hf
            refine y_iald (pc2 := 69) rfl dX4_rowHolds_68 g29.1 (y_ix_in g29.2) ?_
            refine y_dup2 (pc2 := 70) rfl dX4_rowHolds_69 rfl (y_p_cat _) ?_
            obtain ⟨g28, hf⟩ := y_g hf
            refine y_iald (pc2 := 71) rfl dX4_rowHolds_70 g28.1 (y_ix_in g28.2) ?_
            refine y_iconst (v := 1) (pc2 := 72) rfl dX4_rowHolds_71 (by decide) ?_
            refine y_isub (pc2 := 73) rfl dX4_rowHolds_72 ?_
            obtain ⟨g11, hf⟩ := y_g hf
            obtain ⟨h9, e10, hf⟩ := y_bdE hf
            refine y_iast (x := (y_I h6 (y_P h6 v0_19 9) (Int32.toNatClampNeg (y_I h6 (y_P h6 v0_19 2) (Int32.toNatClampNeg v3_19)))) - 1) (pc2 := 74) rfl dX4_rowHolds_73 g11.1 (y_ix_in g11.2) e10 ?_
            refine y_aload_n (x := v0_19) (pc2 := 75) rfl dX4_rowHolds_74 rfl ?_
            obtain ⟨g27, hf⟩ := y_g hf
            refine y_getP (pc2 := 78) rfl dX4_rowHolds_75 F_BoxYard_Digging_21 (by decide) rfl g27 ?_
            refine y_iload_n (pc2 := 79) rfl dX4_rowHolds_78 rfl ?_
            obtain ⟨g26, hf⟩ := y_g hf
            refine y_iald (pc2 := 80) rfl dX4_rowHolds_79 g26.1 (y_ix_in g26.2) ?_
            refine y_bipush (v := (-9 : Int32)) (pc2 := 82) rfl dX4_rowHolds_80 (by decide) ?_
            refine y_jnE hf (fun j => ∀ (v0_128 : Nat) (v1_128 : Nat) (v2_128 : Int32) (v3_128 : Int32) (h12 : y_H), j v0_128 v1_128 v2_128 v3_128 h12 = some (rz, hz) → y_V l G z rm_X4_rowHolds M_X4_rowHolds ad0 h (some (.int (y_z rz))) hz 128 [(0, y_p v0_128), (1, y_p v1_128), (2, .int v2_128), (3, .int v3_128)] [] h12 0 0) (fun v0_128 v1_128 v2_128 v3_128 h12 hf => ?_) (fun j128 hj128 hf => ?_)
            · refine y_iinc (v := v3_128 + 1) (lv' := [(3, .int (v3_128 + 1)), (0, y_p v0_128), (1, y_p v1_128), (2, .int v2_128)]) (pc2 := 131) rfl dX4_rowHolds_128 rfl rfl (by decide) rfl ?_
              refine y_goto (tgt := 19) dX4_rowHolds_131 (by decide) ?_
              exact y_pk [1, 2, 3, 0] rfl (hj19 _ _ _ _ _ hf)
            · refine y_icmp_ne (tgt := 104) (pc2 := 85) rfl dX4_rowHolds_82 (by decide) (fun c25 => ?_) (fun c25 => ?_)
              · replace hf := y_ie c25 hf
                refine y_aload_n (x := v0_19) (pc2 := 105) rfl dX4_rowHolds_104 rfl ?_
                refine y_aload_n (x := v1_19) (pc2 := 106) rfl dX4_rowHolds_105 rfl ?_
                refine y_aload (x := 0) (pc2 := 108) rfl dX4_rowHolds_106 rfl ?_
                refine y_aload_n (x := v0_19) (pc2 := 109) rfl dX4_rowHolds_108 rfl ?_
                obtain ⟨g21, hf⟩ := y_g hf
                refine y_getP (pc2 := 112) rfl dX4_rowHolds_109 F_BoxYard_Digging_17 (by decide) rfl g21 ?_
                refine y_iload_n (pc2 := 113) rfl dX4_rowHolds_112 rfl ?_
                obtain ⟨g20, hf⟩ := y_g hf
                refine y_iald (pc2 := 114) rfl dX4_rowHolds_113 g20.1 (y_ix_in g20.2) ?_
                refine y_aload_n (x := v0_19) (pc2 := 115) rfl dX4_rowHolds_114 rfl ?_
                obtain ⟨g19, hf⟩ := y_g hf
                refine y_getP (pc2 := 118) rfl dX4_rowHolds_115 F_BoxYard_Digging_21 (by decide) rfl g19 ?_
                refine y_iload_n (pc2 := 119) rfl dX4_rowHolds_118 rfl ?_
                obtain ⟨g18, hf⟩ := y_g hf
                refine y_iald (pc2 := 120) rfl dX4_rowHolds_119 g18.1 (y_ix_in g18.2) ?_
                obtain ⟨g17, hf⟩ := y_g hf
                obtain ⟨r13, h14, c15, hf⟩ := y_clE hf
                refine y_callV (As := [y_p v1_19, y_p 0, .int (y_I h9 (y_P h9 v0_19 2) (Int32.toNatClampNeg v3_19)), .int (y_I h9 (y_P h9 v0_19 3) (Int32.toNatClampNeg v3_19))]) (rm := rm_X4_putOn) (cells := 0) (slots := 0) (pc2 := 123) rfl dX4_rowHolds_120 n_X4_putOn l_BoxYard_Digging_82 i_X4_putOn e_X4_putOn (ci := 4) rfl rfl (by decide) g17 rfl rfl (by decide) (by decide) (by decide) (k_X4_putOn c15) ?_
                refine y_ifz_ne (tgt := 128) (pc2 := 126) rfl dX4_rowHolds_123 (by decide) (fun c16 => ?_) (fun c16 => ?_)
                · replace hf := y_it c16 hf
                  exact y_pk [1, 2, 3, 4] rfl (hj128 _ _ _ _ _ hf)
                · replace hf := y_ie c16 hf
                  refine y_iconst (v := 0) (pc2 := 127) rfl dX4_rowHolds_126 (by decide) ?_
                  exact y_zretF (x := false) hf dX4_rowHolds_127 rfl (by decide) (by decide)
              · replace hf := y_it c25 hf
                refine y_aload (x := 0) (pc2 := 87) rfl dX4_rowHolds_85 rfl ?_
                refine y_aload_n (x := v0_19) (pc2 := 88) rfl dX4_rowHolds_87 rfl ?_
                obtain ⟨g24, hf⟩ := y_g hf
                refine y_getP (pc2 := 91) rfl dX4_rowHolds_88 F_BoxYard_Digging_13 (by decide) rfl g24 ?_
                refine y_iload_n (pc2 := 92) rfl dX4_rowHolds_91 rfl ?_
                obtain ⟨g23, hf⟩ := y_g hf
                refine y_aald (t := 3) (pc2 := 93) rfl dX4_rowHolds_92 (by decide) rfl g23.1 (y_ix_in g23.2) ?_
                refine y_acmp_eq (tgt := 98) (pc2 := 96) rfl dX4_rowHolds_93 (by decide) (fun c22 => ?_) (fun c22 => ?_)
                · replace hf := y_it c22 hf
                  refine y_iinc (v := v2_19 + 1) (lv' := [(2, .int (v2_19 + 1)), (4, y_p 0), (0, y_p v0_19), (1, y_p v1_19), (3, .int v3_19)]) (pc2 := 101) rfl dX4_rowHolds_98 rfl rfl (by decide) (by simp [y_st1, y_p_cat, y_ci, y_cj]) ?_
                  refine y_goto (tgt := 128) dX4_rowHolds_101 (by decide) ?_
                  exact y_pk [2, 3, 0, 4] rfl (hj128 _ _ _ _ _ hf)
                · replace hf := y_ie c22 hf
                  refine y_iconst (v := 0) (pc2 := 97) rfl dX4_rowHolds_96 (by decide) ?_
                  exact y_zretF (x := false) hf dX4_rowHolds_97 rfl (by decide) (by decide)
          · replace hf := y_it c32 hf
            refine y_iconst (v := 0) (pc2 := 58) rfl dX4_rowHolds_57 (by decide) ?_
            exact y_zretF (x := false) hf dX4_rowHolds_58 rfl (by decide) (by decide)
        · replace hf := y_ie c63 hf
          refine y_aload_n (x := v0_19) (pc2 := 36) rfl dX4_rowHolds_35 rfl ?_
          refine y_aload_n (x := v1_19) (pc2 := 37) rfl dX4_rowHolds_36 rfl ?_
          refine y_aload_n (x := v0_19) (pc2 := 38) rfl dX4_rowHolds_37 rfl ?_
          obtain ⟨g62, hf⟩ := y_g hf
          refine y_getP (pc2 := 41) rfl dX4_rowHolds_38 F_BoxYard_Digging_17 (by decide) rfl g62 ?_
          refine y_iload_n (pc2 := 42) rfl dX4_rowHolds_41 rfl ?_
          obtain ⟨g61, hf⟩ := y_g hf
          refine y_iald (pc2 := 43) rfl dX4_rowHolds_42 g61.1 (y_ix_in g61.2) ?_
          obtain ⟨g60, hf⟩ := y_g hf
          obtain ⟨r33, h34, c35, hf⟩ := y_clE hf
          refine y_callV (As := [y_p v1_19, .int (y_I h6 (y_P h6 v0_19 2) (Int32.toNatClampNeg v3_19))]) (rm := rm_X4_topOf) (cells := 0) (slots := 0) (pc2 := 46) rfl dX4_rowHolds_43 n_X4_topOf l_BoxYard_Digging_78 i_X4_topOf e_X4_topOf (ci := 4) rfl rfl (by decide) g60 rfl rfl (by decide) (by decide) (by decide) (k_X4_topOf c35) ?_
          refine y_goto (tgt := 50) dX4_rowHolds_46 (by decide) ?_
          refine y_astore (lv' := [(4, y_p r33), (0, y_p v0_19), (1, y_p v1_19), (2, .int v2_19), (3, .int v3_19)]) (pc2 := 52) rfl dX4_rowHolds_50 (by decide) rfl ?_
          refine y_aload (x := r33) (pc2 := 54) rfl dX4_rowHolds_52 rfl ?_
          refine y_ifnonnull (tgt := 59) (pc2 := 57) rfl dX4_rowHolds_54 (by decide) (fun c59 => ?_) (fun c59 => ?_)
          · replace hf := y_ie c59 hf
            refine y_aload_n (x := v0_19) (pc2 := 60) rfl dX4_rowHolds_59 rfl ?_
            obtain ⟨g58, hf⟩ := y_g hf
            refine y_getP (pc2 := 63) rfl dX4_rowHolds_60 F_BoxYard_Digging_29 (by decide) rfl g58 ?_
            refine y_aload_n (x := v0_19) (pc2 := 64) rfl dX4_rowHolds_63 rfl ?_
            obtain ⟨g57, hf⟩ := y_g hf
            refine y_getP (pc2 := 67) rfl dX4_rowHolds_64 F_BoxYard_Digging_17 (by decide) rfl g57 ?_
            refine y_iload_n (pc2 := 68) rfl dX4_rowHolds_67 rfl ?_
            obtain ⟨g56, hf⟩ := y_g hf
            refine y_iald (pc2 := 69) rfl dX4_rowHolds_68 g56.1 (y_ix_in g56.2) ?_
            refine y_dup2 (pc2 := 70) rfl dX4_rowHolds_69 rfl (y_p_cat _) ?_
            obtain ⟨g55, hf⟩ := y_g hf
            refine y_iald (pc2 := 71) rfl dX4_rowHolds_70 g55.1 (y_ix_in g55.2) ?_
            refine y_iconst (v := 1) (pc2 := 72) rfl dX4_rowHolds_71 (by decide) ?_
            refine y_isub (pc2 := 73) rfl dX4_rowHolds_72 ?_
            obtain ⟨g38, hf⟩ := y_g hf
            obtain ⟨h36, e37, hf⟩ := y_bdE hf
            refine y_iast (x := (y_I h34 (y_P h34 v0_19 9) (Int32.toNatClampNeg (y_I h34 (y_P h34 v0_19 2) (Int32.toNatClampNeg v3_19)))) - 1) (pc2 := 74) rfl dX4_rowHolds_73 g38.1 (y_ix_in g38.2) e37 ?_
            refine y_aload_n (x := v0_19) (pc2 := 75) rfl dX4_rowHolds_74 rfl ?_
            obtain ⟨g54, hf⟩ := y_g hf
            refine y_getP (pc2 := 78) rfl dX4_rowHolds_75 F_BoxYard_Digging_21 (by decide) rfl g54 ?_
            refine y_iload_n (pc2 := 79) rfl dX4_rowHolds_78 rfl ?_
            obtain ⟨g53, hf⟩ := y_g hf
            refine y_iald (pc2 := 80) rfl dX4_rowHolds_79 g53.1 (y_ix_in g53.2) ?_
            refine y_bipush (v := (-9 : Int32)) (pc2 := 82) rfl dX4_rowHolds_80 (by decide) ?_
            refine y_jnE hf (fun j => ∀ (v0_128 : Nat) (v1_128 : Nat) (v2_128 : Int32) (v3_128 : Int32) (h39 : y_H), j v0_128 v1_128 v2_128 v3_128 h39 = some (rz, hz) → y_V l G z rm_X4_rowHolds M_X4_rowHolds ad0 h (some (.int (y_z rz))) hz 128 [(0, y_p v0_128), (1, y_p v1_128), (2, .int v2_128), (3, .int v3_128)] [] h39 0 0) (fun v0_128 v1_128 v2_128 v3_128 h39 hf => ?_) (fun j128 hj128 hf => ?_)
            · refine y_iinc (v := v3_128 + 1) (lv' := [(3, .int (v3_128 + 1)), (0, y_p v0_128), (1, y_p v1_128), (2, .int v2_128)]) (pc2 := 131) rfl dX4_rowHolds_128 rfl rfl (by decide) rfl ?_
              refine y_goto (tgt := 19) dX4_rowHolds_131 (by decide) ?_
              exact y_pk [1, 2, 3, 0] rfl (hj19 _ _ _ _ _ hf)
            · refine y_icmp_ne (tgt := 104) (pc2 := 85) rfl dX4_rowHolds_82 (by decide) (fun c52 => ?_) (fun c52 => ?_)
              · replace hf := y_ie c52 hf
                refine y_aload_n (x := v0_19) (pc2 := 105) rfl dX4_rowHolds_104 rfl ?_
                refine y_aload_n (x := v1_19) (pc2 := 106) rfl dX4_rowHolds_105 rfl ?_
                refine y_aload (x := r33) (pc2 := 108) rfl dX4_rowHolds_106 rfl ?_
                refine y_aload_n (x := v0_19) (pc2 := 109) rfl dX4_rowHolds_108 rfl ?_
                obtain ⟨g48, hf⟩ := y_g hf
                refine y_getP (pc2 := 112) rfl dX4_rowHolds_109 F_BoxYard_Digging_17 (by decide) rfl g48 ?_
                refine y_iload_n (pc2 := 113) rfl dX4_rowHolds_112 rfl ?_
                obtain ⟨g47, hf⟩ := y_g hf
                refine y_iald (pc2 := 114) rfl dX4_rowHolds_113 g47.1 (y_ix_in g47.2) ?_
                refine y_aload_n (x := v0_19) (pc2 := 115) rfl dX4_rowHolds_114 rfl ?_
                obtain ⟨g46, hf⟩ := y_g hf
                refine y_getP (pc2 := 118) rfl dX4_rowHolds_115 F_BoxYard_Digging_21 (by decide) rfl g46 ?_
                refine y_iload_n (pc2 := 119) rfl dX4_rowHolds_118 rfl ?_
                obtain ⟨g45, hf⟩ := y_g hf
                refine y_iald (pc2 := 120) rfl dX4_rowHolds_119 g45.1 (y_ix_in g45.2) ?_
                obtain ⟨g44, hf⟩ := y_g hf
                obtain ⟨r40, h41, c42, hf⟩ := y_clE hf
                refine y_callV (As := [y_p v1_19, y_p r33, .int (y_I h36 (y_P h36 v0_19 2) (Int32.toNatClampNeg v3_19)), .int (y_I h36 (y_P h36 v0_19 3) (Int32.toNatClampNeg v3_19))]) (rm := rm_X4_putOn) (cells := 0) (slots := 0) (pc2 := 123) rfl dX4_rowHolds_120 n_X4_putOn l_BoxYard_Digging_82 i_X4_putOn e_X4_putOn (ci := 4) rfl rfl (by decide) g44 rfl rfl (by decide) (by decide) (by decide) (k_X4_putOn c42) ?_
                refine y_ifz_ne (tgt := 128) (pc2 := 126) rfl dX4_rowHolds_123 (by decide) (fun c43 => ?_) (fun c43 => ?_)
                · replace hf := y_it c43 hf
                  exact y_pk [1, 2, 3, 4] rfl (hj128 _ _ _ _ _ hf)
                · replace hf := y_ie c43 hf
                  refine y_iconst (v := 0) (pc2 := 127) rfl dX4_rowHolds_126 (by decide) ?_
                  exact y_zretF (x := false) hf dX4_rowHolds_127 rfl (by decide) (by decide)
              · replace hf := y_it c52 hf
                refine y_aload (x := r33) (pc2 := 87) rfl dX4_rowHolds_85 rfl ?_
                refine y_aload_n (x := v0_19) (pc2 := 88) rfl dX4_rowHolds_87 rfl ?_
                obtain ⟨g51, hf⟩ := y_g hf
                refine y_getP (pc2 := 91) rfl dX4_rowHolds_88 F_BoxYard_Digging_13 (by decide) rfl g51 ?_
                refine y_iload_n (pc2 := 92) rfl dX4_rowHolds_91 rfl ?_
                obtain ⟨g50, hf⟩ := y_g hf
                refine y_aald (t := 3) (pc2 := 93) rfl dX4_rowHolds_92 (by decide) rfl g50.1 (y_ix_in g50.2) ?_
                refine y_acmp_eq (tgt := 98) (pc2 := 96) rfl dX4_rowHolds_93 (by decide) (fun c49 => ?_) (fun c49 => ?_)
                · replace hf := y_it c49 hf
                  refine y_iinc (v := v2_19 + 1) (lv' := [(2, .int (v2_19 + 1)), (4, y_p r33), (0, y_p v0_19), (1, y_p v1_19), (3, .int v3_19)]) (pc2 := 101) rfl dX4_rowHolds_98 rfl rfl (by decide) (by simp [y_st1, y_p_cat, y_ci, y_cj]) ?_
                  refine y_goto (tgt := 128) dX4_rowHolds_101 (by decide) ?_
                  exact y_pk [2, 3, 0, 4] rfl (hj128 _ _ _ _ _ hf)
                · replace hf := y_ie c49 hf
                  refine y_iconst (v := 0) (pc2 := 97) rfl dX4_rowHolds_96 (by decide) ?_
                  exact y_zretF (x := false) hf dX4_rowHolds_97 rfl (by decide) (by decide)
          · replace hf := y_it c59 hf
            refine y_iconst (v := 0) (pc2 := 58) rfl dX4_rowHolds_57 (by decide) ?_
            exact y_zretF (x := false) hf dX4_rowHolds_58 rfl (by decide) (by decide)
    · refine y_istore_n (lv' := [(3, .int 0), (2, .int 0), (0, y_p p0), (1, y_p p1)]) (pc2 := 19) rfl dX4_rowHolds_18 (by decide) rfl ?_
      exact y_pk [2, 3, 1, 0] rfl (hj19 _ _ _ _ _ hf)
  · replace hf := y_ie c68 hf
    refine y_iconst (v := 0) (pc2 := 9) rfl dX4_rowHolds_8 (by decide) ?_
    exact y_zretF (x := false) hf dX4_rowHolds_9 rfl (by decide) (by decide)
theorem dX5_begin_0 : decode cX5_begin 0 = .ok (.aload_n 0, 1) := by decide +kernel
theorem dX5_begin_1 : decode cX5_begin 1 = .ok (.iconst 0, 1) := by decide +kernel
theorem dX5_begin_2 : decode cX5_begin 2 = .ok (.putfield 20, 3) := by decide +kernel
theorem dX5_begin_5 : decode cX5_begin 5 = .ok (.aload_n 0, 1) := by decide +kernel
theorem dX5_begin_6 : decode cX5_begin 6 = .ok (.iconst 0, 1) := by decide +kernel
theorem dX5_begin_7 : decode cX5_begin 7 = .ok (.putfield 24, 3) := by decide +kernel
theorem dX5_begin_10 : decode cX5_begin 10 = .ok (.return_, 1) := by decide +kernel
def M_X5_begin : y_M := (yX5_begin, cX5_begin, 1, (Option.none : Option Jvm.ClassFile.FieldType))
theorem n_X5_begin : y_N0 M_X5_begin 0 := ⟨(c_3 47 (by decide +kernel) rfl), (c_1 5 (by decide +kernel) rfl), ⟨by decide +kernel, by decide +kernel⟩, by decide +kernel⟩
theorem Fp_BoxYard_Journal_20 {nm : String} : y_Fp "BoxYard$Journal" nm 20 5 2 := ⟨_, _, _, rfl, by decide, Or.inl ⟨rfl, Or.inl (c_1 191 (by decide +kernel) rfl)⟩⟩
theorem Fp_BoxYard_Journal_24 {nm : String} : y_Fp "BoxYard$Journal" nm 24 5 3 := ⟨_, _, _, rfl, by decide, Or.inl ⟨rfl, Or.inl (c_1 192 (by decide +kernel) rfl)⟩⟩
set_option maxRecDepth 100000 in
def f_X5_begin (p0 : Nat) (h : y_H) : Option (Unit × y_H) :=
  if y_K h p0 = 6 then
  y_bd (s_I h p0 2 0) (fun h1 =>
  if y_K h1 p0 = 6 then
  y_bd (s_I h1 p0 3 0) (fun h4 =>
  some ((), h4))
  else none)
  else none
abbrev rm_X5_begin : Room := { frames := 0, cells := 0, slots := 0, locals := 0 }
set_option maxRecDepth 100000 in
set_option maxHeartbeats 4000000 in
theorem k_X5_begin {l : Launch} {G : y_G} {p0 : Nat} {h hz : y_H} {rz : Unit} (hf : f_X5_begin p0 h = some (rz, hz)) : y_S l G M_X5_begin rm_X5_begin [y_p p0] h none hz := by
  refine y_start (lv := [(0, y_p p0)]) (by decide) (by simp [lg_sl, y_p_cat, y_ci, y_cj, M_X5_begin]) (by simp [lv_args, y_p_cat, y_ci, y_cj]) (fun z ad0 => ?_)
  unfold f_X5_begin at hf
  refine y_aload_n (x := p0) (pc2 := 1) rfl dX5_begin_0 rfl ?_
  refine y_iconst (v := 0) (pc2 := 2) rfl dX5_begin_1 (by decide) ?_
  obtain ⟨g3, hf⟩ := y_g hf
  obtain ⟨h1, e2, hf⟩ := y_bdE hf
  refine y_putI (x := 0) (pc2 := 5) rfl dX5_begin_2 Fp_BoxYard_Journal_20 (by decide) rfl g3 e2 ?_
  refine y_aload_n (x := p0) (pc2 := 6) rfl dX5_begin_5 rfl ?_
  refine y_iconst (v := 0) (pc2 := 7) rfl dX5_begin_6 (by decide) ?_
  obtain ⟨g6, hf⟩ := y_g hf
  obtain ⟨h4, e5, hf⟩ := y_bdE hf
  refine y_putI (x := 0) (pc2 := 10) rfl dX5_begin_7 Fp_BoxYard_Journal_24 (by decide) rfl g6 e5 ?_
  exact y_vretF hf dX5_begin_10 rfl (by decide) (by decide)
theorem dX5_takeLatest_0 : decode cX5_takeLatest 0 = .ok (.aload_n 0, 1) := by decide +kernel
theorem dX5_takeLatest_1 : decode cX5_takeLatest 1 = .ok (.getfield 24, 3) := by decide +kernel
theorem dX5_takeLatest_4 : decode cX5_takeLatest 4 = .ok (.ifCond .ne 5, 3) := by decide +kernel
theorem dX5_takeLatest_7 : decode cX5_takeLatest 7 = .ok (.aconst_null, 1) := by decide +kernel
theorem dX5_takeLatest_8 : decode cX5_takeLatest 8 = .ok (.areturn, 1) := by decide +kernel
theorem dX5_takeLatest_9 : decode cX5_takeLatest 9 = .ok (.aload_n 0, 1) := by decide +kernel
theorem dX5_takeLatest_10 : decode cX5_takeLatest 10 = .ok (.dup, 1) := by decide +kernel
theorem dX5_takeLatest_11 : decode cX5_takeLatest 11 = .ok (.getfield 24, 3) := by decide +kernel
theorem dX5_takeLatest_14 : decode cX5_takeLatest 14 = .ok (.iconst 1, 1) := by decide +kernel
theorem dX5_takeLatest_15 : decode cX5_takeLatest 15 = .ok (.isub, 1) := by decide +kernel
theorem dX5_takeLatest_16 : decode cX5_takeLatest 16 = .ok (.putfield 24, 3) := by decide +kernel
theorem dX5_takeLatest_19 : decode cX5_takeLatest 19 = .ok (.aload_n 0, 1) := by decide +kernel
theorem dX5_takeLatest_20 : decode cX5_takeLatest 20 = .ok (.getfield 11, 3) := by decide +kernel
theorem dX5_takeLatest_23 : decode cX5_takeLatest 23 = .ok (.aload_n 0, 1) := by decide +kernel
theorem dX5_takeLatest_24 : decode cX5_takeLatest 24 = .ok (.getfield 20, 3) := by decide +kernel
theorem dX5_takeLatest_27 : decode cX5_takeLatest 27 = .ok (.aload_n 0, 1) := by decide +kernel
theorem dX5_takeLatest_28 : decode cX5_takeLatest 28 = .ok (.getfield 24, 3) := by decide +kernel
theorem dX5_takeLatest_31 : decode cX5_takeLatest 31 = .ok (.iadd, 1) := by decide +kernel
theorem dX5_takeLatest_32 : decode cX5_takeLatest 32 = .ok (.bipush 60, 2) := by decide +kernel
theorem dX5_takeLatest_34 : decode cX5_takeLatest 34 = .ok (.irem, 1) := by decide +kernel
theorem dX5_takeLatest_35 : decode cX5_takeLatest 35 = .ok (.aaload, 1) := by decide +kernel
theorem dX5_takeLatest_36 : decode cX5_takeLatest 36 = .ok (.areturn, 1) := by decide +kernel
def M_X5_takeLatest : y_M := (yX5_takeLatest, cX5_takeLatest, 1, (Option.some (Jvm.ClassFile.FieldType.object "BoxYard$Act")))
theorem n_X5_takeLatest : y_N0 M_X5_takeLatest 0 := ⟨(c_7 44 (by decide +kernel) rfl), (c_1 5 (by decide +kernel) rfl), ⟨by decide +kernel, by decide +kernel⟩, by decide +kernel⟩
theorem F_BoxYard_Journal_24 : y_F "BoxYard$Journal" 24 5 3 := ⟨_, _, _, rfl, by decide, Or.inl (c_1 192 (by decide +kernel) rfl)⟩
theorem F_BoxYard_Journal_11 : y_F "BoxYard$Journal" 11 5 0 := ⟨_, _, _, rfl, by decide, Or.inl (c_1 189 (by decide +kernel) rfl)⟩
theorem F_BoxYard_Journal_20 : y_F "BoxYard$Journal" 20 5 2 := ⟨_, _, _, rfl, by decide, Or.inl (c_1 191 (by decide +kernel) rfl)⟩
set_option maxRecDepth 100000 in
def f_X5_takeLatest (p0 : Nat) (h : y_H) : Option (Nat × y_H) :=
  if y_K h p0 = 6 then
  if (y_I h p0 3) = 0 then
    some (0, h)
  else
    if y_K h p0 = 6 then
    if y_K h p0 = 6 then
    y_bd (s_I h p0 3 ((y_I h p0 3) - 1)) (fun h1 =>
    if y_K h1 p0 = 6 then
    if y_K h1 p0 = 6 then
    if y_K h1 p0 = 6 then
    if y_K h1 (y_P h1 p0 0) = 107 ∧ y_ix (y_rem ((y_I h1 p0 2) + (y_I h1 p0 3)) 60) (y_N h1 (y_P h1 p0 0)) = true then
    some (y_P h1 (y_P h1 p0 0) (Int32.toNatClampNeg (y_rem ((y_I h1 p0 2) + (y_I h1 p0 3)) 60)), h1)
    else none
    else none
    else none
    else none)
    else none
    else none
  else none
abbrev rm_X5_takeLatest : Room := { frames := 0, cells := 0, slots := 0, locals := 0 }
set_option maxRecDepth 100000 in
set_option maxHeartbeats 4000000 in
theorem k_X5_takeLatest {l : Launch} {G : y_G} {p0 : Nat} {h hz : y_H} {rz : Nat} (hf : f_X5_takeLatest p0 h = some (rz, hz)) : y_S l G M_X5_takeLatest rm_X5_takeLatest [y_p p0] h (some (y_p rz)) hz := by
  refine y_start (lv := [(0, y_p p0)]) (by decide) (by simp [lg_sl, y_p_cat, y_ci, y_cj, M_X5_takeLatest]) (by simp [lv_args, y_p_cat, y_ci, y_cj]) (fun z ad0 => ?_)
  unfold f_X5_takeLatest at hf
  refine y_aload_n (x := p0) (pc2 := 1) rfl dX5_takeLatest_0 rfl ?_
  obtain ⟨g10, hf⟩ := y_g hf
  refine y_getI (pc2 := 4) rfl dX5_takeLatest_1 F_BoxYard_Journal_24 (by decide) rfl g10 ?_
  refine y_if_ne (tgt := 9) (pc2 := 7) rfl dX5_takeLatest_4 (by decide) (fun c9 => ?_) (fun c9 => ?_)
  · replace hf := y_ie c9 hf
    refine y_aload_n (x := p0) (pc2 := 10) rfl dX5_takeLatest_9 rfl ?_
    refine y_dup (pc2 := 11) rfl dX5_takeLatest_10 (y_p_cat _) ?_
    obtain ⟨g8, hf⟩ := y_g hf
    refine y_getI (pc2 := 14) rfl dX5_takeLatest_11 F_BoxYard_Journal_24 (by decide) rfl g8 ?_
    refine y_iconst (v := 1) (pc2 := 15) rfl dX5_takeLatest_14 (by decide) ?_
    refine y_isub (pc2 := 16) rfl dX5_takeLatest_15 ?_
    obtain ⟨g3, hf⟩ := y_g hf
    obtain ⟨h1, e2, hf⟩ := y_bdE hf
    refine y_putI (x := (y_I h p0 3) - 1) (pc2 := 19) rfl dX5_takeLatest_16 Fp_BoxYard_Journal_24 (by decide) rfl g3 e2 ?_
    refine y_aload_n (x := p0) (pc2 := 20) rfl dX5_takeLatest_19 rfl ?_
    obtain ⟨g7, hf⟩ := y_g hf
    refine y_getP (pc2 := 23) rfl dX5_takeLatest_20 F_BoxYard_Journal_11 (by decide) rfl g7 ?_
    refine y_aload_n (x := p0) (pc2 := 24) rfl dX5_takeLatest_23 rfl ?_
    obtain ⟨g6, hf⟩ := y_g hf
    refine y_getI (pc2 := 27) rfl dX5_takeLatest_24 F_BoxYard_Journal_20 (by decide) rfl g6 ?_
    refine y_aload_n (x := p0) (pc2 := 28) rfl dX5_takeLatest_27 rfl ?_
    obtain ⟨g5, hf⟩ := y_g hf
    refine y_getI (pc2 := 31) rfl dX5_takeLatest_28 F_BoxYard_Journal_24 (by decide) rfl g5 ?_
    refine y_iadd (pc2 := 32) rfl dX5_takeLatest_31 ?_
    refine y_bipush (v := 60) (pc2 := 34) rfl dX5_takeLatest_32 (by decide) ?_
    refine y_rm (pc2 := 35) rfl dX5_takeLatest_34 (by decide) ?_
    obtain ⟨g4, hf⟩ := y_g hf
    refine y_aald (t := 7) (pc2 := 36) rfl dX5_takeLatest_35 (by decide) rfl g4.1 (y_ix_in g4.2) ?_
    exact y_aretF hf dX5_takeLatest_36 rfl (Or.inl ⟨_, rfl⟩) (by decide) (by decide)
  · replace hf := y_it c9 hf
    refine y_null (pc2 := 8) rfl dX5_takeLatest_7 ?_
    exact y_aretF hf dX5_takeLatest_8 rfl (Or.inl ⟨_, rfl⟩) (by decide) (by decide)
theorem dX10_boxAt_0 : decode cX10_boxAt 0 = .ok (.iload_n 1, 1) := by decide +kernel
theorem dX10_boxAt_1 : decode cX10_boxAt 1 = .ok (.iconst 0, 1) := by decide +kernel
theorem dX10_boxAt_2 : decode cX10_boxAt 2 = .ok (.aload_n 0, 1) := by decide +kernel
theorem dX10_boxAt_3 : decode cX10_boxAt 3 = .ok (.getfield 58, 3) := by decide +kernel
theorem dX10_boxAt_6 : decode cX10_boxAt 6 = .ok (.iconst 1, 1) := by decide +kernel
theorem dX10_boxAt_7 : decode cX10_boxAt 7 = .ok (.isub, 1) := by decide +kernel
theorem dX10_boxAt_8 : decode cX10_boxAt 8 = .ok (.invokestatic 86, 3) := by decide +kernel
theorem dX10_boxAt_11 : decode cX10_boxAt 11 = .ok (.ifCond .eq 12, 3) := by decide +kernel
theorem dX10_boxAt_14 : decode cX10_boxAt 14 = .ok (.aload_n 0, 1) := by decide +kernel
theorem dX10_boxAt_15 : decode cX10_boxAt 15 = .ok (.getfield 13, 3) := by decide +kernel
theorem dX10_boxAt_18 : decode cX10_boxAt 18 = .ok (.iload_n 1, 1) := by decide +kernel
theorem dX10_boxAt_19 : decode cX10_boxAt 19 = .ok (.aaload, 1) := by decide +kernel
theorem dX10_boxAt_20 : decode cX10_boxAt 20 = .ok (.goto 4, 3) := by decide +kernel
theorem dX10_boxAt_23 : decode cX10_boxAt 23 = .ok (.aconst_null, 1) := by decide +kernel
theorem dX10_boxAt_24 : decode cX10_boxAt 24 = .ok (.areturn, 1) := by decide +kernel
def M_X10_boxAt : y_M := (yX10_boxAt, cX10_boxAt, 2, (Option.some (Jvm.ClassFile.FieldType.object "BoxYard$Box")))
theorem n_X10_boxAt : y_N0 M_X10_boxAt 1 := ⟨(c_2 217 (by decide +kernel) rfl), (c_1 2 (by decide +kernel) rfl), ⟨by decide +kernel, by decide +kernel⟩, by decide +kernel⟩
theorem F_BoxYard_Yard_58 : y_F "BoxYard$Yard" 58 10 1 := ⟨_, _, _, rfl, by decide, Or.inl (c_1 58 (by decide +kernel) rfl)⟩
theorem l_BoxYard_Yard_86 : y_lnk "BoxYard$Yard" 86 M_X11_isWithin := Or.inr ⟨"BoxYard", (c_2 218 (by decide +kernel) rfl)⟩
theorem F_BoxYard_Yard_13 : y_F "BoxYard$Yard" 13 10 0 := ⟨_, _, _, rfl, by decide, Or.inl (c_1 57 (by decide +kernel) rfl)⟩
set_option maxRecDepth 100000 in
def f_X10_boxAt (p0 : Nat) (p1 : Int32) (h : y_H) : Option (Nat × y_H) :=
  if y_K h p0 = 11 then
  y_cl (f_X11_isWithin p1 0 ((y_I h p0 1) - 1) h) (fun r1 h2 =>
  if r1 = true then
    if y_K h2 p0 = 11 then
    if y_K h2 (y_P h2 p0 0) = 103 ∧ y_ix p1 (y_N h2 (y_P h2 p0 0)) = true then
    some (y_P h2 (y_P h2 p0 0) (Int32.toNatClampNeg p1), h2)
    else none
    else none
  else
    some (0, h2))
  else none
abbrev rm_X10_boxAt : Room := { frames := 1, cells := 0, slots := 0, locals := 22 }
set_option maxRecDepth 100000 in
set_option maxHeartbeats 4000000 in
theorem k_X10_boxAt {l : Launch} {G : y_G} {p0 : Nat} {p1 : Int32} {h hz : y_H} {rz : Nat} (hf : f_X10_boxAt p0 p1 h = some (rz, hz)) : y_S l G M_X10_boxAt rm_X10_boxAt [y_p p0, .int p1] h (some (y_p rz)) hz := by
  refine y_start (lv := [(0, y_p p0), (1, .int p1)]) (by decide) (by simp [lg_sl, y_p_cat, y_ci, y_cj, M_X10_boxAt]) (by simp [lv_args, y_p_cat, y_ci, y_cj]) (fun z ad0 => ?_)
  unfold f_X10_boxAt at hf
  refine y_iload_n (pc2 := 1) rfl dX10_boxAt_0 rfl ?_
  refine y_iconst (v := 0) (pc2 := 2) rfl dX10_boxAt_1 (by decide) ?_
  refine y_aload_n (x := p0) (pc2 := 3) rfl dX10_boxAt_2 rfl ?_
  obtain ⟨g7, hf⟩ := y_g hf
  refine y_getI (pc2 := 6) rfl dX10_boxAt_3 F_BoxYard_Yard_58 (by decide) rfl g7 ?_
  refine y_iconst (v := 1) (pc2 := 7) rfl dX10_boxAt_6 (by decide) ?_
  refine y_isub (pc2 := 8) rfl dX10_boxAt_7 ?_
  obtain ⟨r1, h2, c3, hf⟩ := y_clE hf
  refine y_callS (As := [.int p1, .int 0, .int ((y_I h p0 1) - 1)]) (rm := rm_X11_isWithin) (cells := 0) (slots := 0) (pc2 := 11) rfl dX10_boxAt_8 n_X11_isWithin l_BoxYard_Yard_86 t_X11_isWithin rfl rfl (by decide) (by decide) (by decide) (k_X11_isWithin c3) ?_
  refine y_ifz_eq (tgt := 23) (pc2 := 14) rfl dX10_boxAt_11 (by decide) (fun c6 => ?_) (fun c6 => ?_)
  · replace hf := y_ie c6 hf
    refine y_null (pc2 := 24) rfl dX10_boxAt_23 ?_
    exact y_aretF hf dX10_boxAt_24 rfl (Or.inl ⟨_, rfl⟩) (by decide) (by decide)
  · replace hf := y_it c6 hf
    refine y_aload_n (x := p0) (pc2 := 15) rfl dX10_boxAt_14 rfl ?_
    obtain ⟨g5, hf⟩ := y_g hf
    refine y_getP (pc2 := 18) rfl dX10_boxAt_15 F_BoxYard_Yard_13 (by decide) rfl g5 ?_
    refine y_iload_n (pc2 := 19) rfl dX10_boxAt_18 rfl ?_
    obtain ⟨g4, hf⟩ := y_g hf
    refine y_aald (t := 3) (pc2 := 20) rfl dX10_boxAt_19 (by decide) rfl g4.1 (y_ix_in g4.2) ?_
    refine y_goto (tgt := 24) dX10_boxAt_20 (by decide) ?_
    exact y_aretF hf dX10_boxAt_24 rfl (Or.inl ⟨_, rfl⟩) (by decide) (by decide)
theorem dX5_fromEnd_0 : decode cX5_fromEnd 0 = .ok (.iload_n 1, 1) := by decide +kernel
theorem dX5_fromEnd_1 : decode cX5_fromEnd 1 = .ok (.iconst 1, 1) := by decide +kernel
theorem dX5_fromEnd_2 : decode cX5_fromEnd 2 = .ok (.aload_n 0, 1) := by decide +kernel
theorem dX5_fromEnd_3 : decode cX5_fromEnd 3 = .ok (.getfield 24, 3) := by decide +kernel
theorem dX5_fromEnd_6 : decode cX5_fromEnd 6 = .ok (.invokestatic 132, 3) := by decide +kernel
theorem dX5_fromEnd_9 : decode cX5_fromEnd 9 = .ok (.ifCond .eq 25, 3) := by decide +kernel
theorem dX5_fromEnd_12 : decode cX5_fromEnd 12 = .ok (.aload_n 0, 1) := by decide +kernel
theorem dX5_fromEnd_13 : decode cX5_fromEnd 13 = .ok (.getfield 11, 3) := by decide +kernel
theorem dX5_fromEnd_16 : decode cX5_fromEnd 16 = .ok (.aload_n 0, 1) := by decide +kernel
theorem dX5_fromEnd_17 : decode cX5_fromEnd 17 = .ok (.getfield 20, 3) := by decide +kernel
theorem dX5_fromEnd_20 : decode cX5_fromEnd 20 = .ok (.aload_n 0, 1) := by decide +kernel
theorem dX5_fromEnd_21 : decode cX5_fromEnd 21 = .ok (.getfield 24, 3) := by decide +kernel
theorem dX5_fromEnd_24 : decode cX5_fromEnd 24 = .ok (.iadd, 1) := by decide +kernel
theorem dX5_fromEnd_25 : decode cX5_fromEnd 25 = .ok (.iload_n 1, 1) := by decide +kernel
theorem dX5_fromEnd_26 : decode cX5_fromEnd 26 = .ok (.isub, 1) := by decide +kernel
theorem dX5_fromEnd_27 : decode cX5_fromEnd 27 = .ok (.bipush 60, 2) := by decide +kernel
theorem dX5_fromEnd_29 : decode cX5_fromEnd 29 = .ok (.irem, 1) := by decide +kernel
theorem dX5_fromEnd_30 : decode cX5_fromEnd 30 = .ok (.aaload, 1) := by decide +kernel
theorem dX5_fromEnd_31 : decode cX5_fromEnd 31 = .ok (.goto 4, 3) := by decide +kernel
theorem dX5_fromEnd_34 : decode cX5_fromEnd 34 = .ok (.aconst_null, 1) := by decide +kernel
theorem dX5_fromEnd_35 : decode cX5_fromEnd 35 = .ok (.areturn, 1) := by decide +kernel
def M_X5_fromEnd : y_M := (yX5_fromEnd, cX5_fromEnd, 2, (Option.some (Jvm.ClassFile.FieldType.object "BoxYard$Act")))
theorem n_X5_fromEnd : y_N0 M_X5_fromEnd 1 := ⟨(c_7 67 (by decide +kernel) rfl), (c_1 5 (by decide +kernel) rfl), ⟨by decide +kernel, by decide +kernel⟩, by decide +kernel⟩
theorem l_BoxYard_Journal_132 : y_lnk "BoxYard$Journal" 132 M_X11_isWithin := Or.inr ⟨"BoxYard", (c_7 68 (by decide +kernel) rfl)⟩
set_option maxRecDepth 100000 in
def f_X5_fromEnd (p0 : Nat) (p1 : Int32) (h : y_H) : Option (Nat × y_H) :=
  if y_K h p0 = 6 then
  y_cl (f_X11_isWithin p1 1 (y_I h p0 3) h) (fun r1 h2 =>
  if r1 = true then
    if y_K h2 p0 = 6 then
    if y_K h2 p0 = 6 then
    if y_K h2 p0 = 6 then
    if y_K h2 (y_P h2 p0 0) = 107 ∧ y_ix (y_rem (((y_I h2 p0 2) + (y_I h2 p0 3)) - p1) 60) (y_N h2 (y_P h2 p0 0)) = true then
    some (y_P h2 (y_P h2 p0 0) (Int32.toNatClampNeg (y_rem (((y_I h2 p0 2) + (y_I h2 p0 3)) - p1) 60)), h2)
    else none
    else none
    else none
    else none
  else
    some (0, h2))
  else none
abbrev rm_X5_fromEnd : Room := { frames := 1, cells := 0, slots := 0, locals := 22 }
set_option maxRecDepth 100000 in
set_option maxHeartbeats 4000000 in
theorem k_X5_fromEnd {l : Launch} {G : y_G} {p0 : Nat} {p1 : Int32} {h hz : y_H} {rz : Nat} (hf : f_X5_fromEnd p0 p1 h = some (rz, hz)) : y_S l G M_X5_fromEnd rm_X5_fromEnd [y_p p0, .int p1] h (some (y_p rz)) hz := by
  refine y_start (lv := [(0, y_p p0), (1, .int p1)]) (by decide) (by simp [lg_sl, y_p_cat, y_ci, y_cj, M_X5_fromEnd]) (by simp [lv_args, y_p_cat, y_ci, y_cj]) (fun z ad0 => ?_)
  unfold f_X5_fromEnd at hf
  refine y_iload_n (pc2 := 1) rfl dX5_fromEnd_0 rfl ?_
  refine y_iconst (v := 1) (pc2 := 2) rfl dX5_fromEnd_1 (by decide) ?_
  refine y_aload_n (x := p0) (pc2 := 3) rfl dX5_fromEnd_2 rfl ?_
  obtain ⟨g9, hf⟩ := y_g hf
  refine y_getI (pc2 := 6) rfl dX5_fromEnd_3 F_BoxYard_Journal_24 (by decide) rfl g9 ?_
  obtain ⟨r1, h2, c3, hf⟩ := y_clE hf
  refine y_callS (As := [.int p1, .int 1, .int (y_I h p0 3)]) (rm := rm_X11_isWithin) (cells := 0) (slots := 0) (pc2 := 9) rfl dX5_fromEnd_6 n_X11_isWithin l_BoxYard_Journal_132 t_X11_isWithin rfl rfl (by decide) (by decide) (by decide) (k_X11_isWithin c3) ?_
  refine y_ifz_eq (tgt := 34) (pc2 := 12) rfl dX5_fromEnd_9 (by decide) (fun c8 => ?_) (fun c8 => ?_)
  · replace hf := y_ie c8 hf
    refine y_null (pc2 := 35) rfl dX5_fromEnd_34 ?_
    exact y_aretF hf dX5_fromEnd_35 rfl (Or.inl ⟨_, rfl⟩) (by decide) (by decide)
  · replace hf := y_it c8 hf
    refine y_aload_n (x := p0) (pc2 := 13) rfl dX5_fromEnd_12 rfl ?_
    obtain ⟨g7, hf⟩ := y_g hf
    refine y_getP (pc2 := 16) rfl dX5_fromEnd_13 F_BoxYard_Journal_11 (by decide) rfl g7 ?_
    refine y_aload_n (x := p0) (pc2 := 17) rfl dX5_fromEnd_16 rfl ?_
    obtain ⟨g6, hf⟩ := y_g hf
    refine y_getI (pc2 := 20) rfl dX5_fromEnd_17 F_BoxYard_Journal_20 (by decide) rfl g6 ?_
    refine y_aload_n (x := p0) (pc2 := 21) rfl dX5_fromEnd_20 rfl ?_
    obtain ⟨g5, hf⟩ := y_g hf
    refine y_getI (pc2 := 24) rfl dX5_fromEnd_21 F_BoxYard_Journal_24 (by decide) rfl g5 ?_
    refine y_iadd (pc2 := 25) rfl dX5_fromEnd_24 ?_
    refine y_iload_n (pc2 := 26) rfl dX5_fromEnd_25 rfl ?_
    refine y_isub (pc2 := 27) rfl dX5_fromEnd_26 ?_
    refine y_bipush (v := 60) (pc2 := 29) rfl dX5_fromEnd_27 (by decide) ?_
    refine y_rm (pc2 := 30) rfl dX5_fromEnd_29 (by decide) ?_
    obtain ⟨g4, hf⟩ := y_g hf
    refine y_aald (t := 7) (pc2 := 31) rfl dX5_fromEnd_30 (by decide) rfl g4.1 (y_ix_in g4.2) ?_
    refine y_goto (tgt := 35) dX5_fromEnd_31 (by decide) ?_
    exact y_aretF hf dX5_fromEnd_35 rfl (Or.inl ⟨_, rfl⟩) (by decide) (by decide)
theorem dX5_firstOfBox_0 : decode cX5_firstOfBox 0 = .ok (.iload_n 2, 1) := by decide +kernel
theorem dX5_firstOfBox_1 : decode cX5_firstOfBox 1 = .ok (.istore_n 3, 1) := by decide +kernel
theorem dX5_firstOfBox_2 : decode cX5_firstOfBox 2 = .ok (.iload_n 3, 1) := by decide +kernel
theorem dX5_firstOfBox_3 : decode cX5_firstOfBox 3 = .ok (.iconst 1, 1) := by decide +kernel
theorem dX5_firstOfBox_4 : decode cX5_firstOfBox 4 = .ok (.if_icmp .lt 33, 3) := by decide +kernel
theorem dX5_firstOfBox_7 : decode cX5_firstOfBox 7 = .ok (.aload_n 0, 1) := by decide +kernel
theorem dX5_firstOfBox_8 : decode cX5_firstOfBox 8 = .ok (.iload_n 3, 1) := by decide +kernel
theorem dX5_firstOfBox_9 : decode cX5_firstOfBox 9 = .ok (.invokevirtual 120, 3) := by decide +kernel
theorem dX5_firstOfBox_12 : decode cX5_firstOfBox 12 = .ok (.astore 4, 2) := by decide +kernel
theorem dX5_firstOfBox_14 : decode cX5_firstOfBox 14 = .ok (.aload 4, 2) := by decide +kernel
theorem dX5_firstOfBox_16 : decode cX5_firstOfBox 16 = .ok (.ifnull 15, 3) := by decide +kernel
theorem dX5_firstOfBox_19 : decode cX5_firstOfBox 19 = .ok (.aload 4, 2) := by decide +kernel
theorem dX5_firstOfBox_21 : decode cX5_firstOfBox 21 = .ok (.getfield 49, 3) := by decide +kernel
theorem dX5_firstOfBox_24 : decode cX5_firstOfBox 24 = .ok (.aload_n 1, 1) := by decide +kernel
theorem dX5_firstOfBox_25 : decode cX5_firstOfBox 25 = .ok (.if_acmp .ne 6, 3) := by decide +kernel
theorem dX5_firstOfBox_28 : decode cX5_firstOfBox 28 = .ok (.aload 4, 2) := by decide +kernel
theorem dX5_firstOfBox_30 : decode cX5_firstOfBox 30 = .ok (.areturn, 1) := by decide +kernel
theorem dX5_firstOfBox_31 : decode cX5_firstOfBox 31 = .ok (.iinc 3 (-1), 3) := by decide +kernel
theorem dX5_firstOfBox_34 : decode cX5_firstOfBox 34 = .ok (.goto (-32), 3) := by decide +kernel
theorem dX5_firstOfBox_37 : decode cX5_firstOfBox 37 = .ok (.aload_n 0, 1) := by decide +kernel
theorem dX5_firstOfBox_38 : decode cX5_firstOfBox 38 = .ok (.getfield 16, 3) := by decide +kernel
theorem dX5_firstOfBox_41 : decode cX5_firstOfBox 41 = .ok (.iconst 0, 1) := by decide +kernel
theorem dX5_firstOfBox_42 : decode cX5_firstOfBox 42 = .ok (.aload_n 1, 1) := by decide +kernel
theorem dX5_firstOfBox_43 : decode cX5_firstOfBox 43 = .ok (.aconst_null, 1) := by decide +kernel
theorem dX5_firstOfBox_44 : decode cX5_firstOfBox 44 = .ok (.aconst_null, 1) := by decide +kernel
theorem dX5_firstOfBox_45 : decode cX5_firstOfBox 45 = .ok (.invokevirtual 30, 3) := by decide +kernel
theorem dX5_firstOfBox_48 : decode cX5_firstOfBox 48 = .ok (.aload_n 0, 1) := by decide +kernel
theorem dX5_firstOfBox_49 : decode cX5_firstOfBox 49 = .ok (.getfield 16, 3) := by decide +kernel
theorem dX5_firstOfBox_52 : decode cX5_firstOfBox 52 = .ok (.areturn, 1) := by decide +kernel
def M_X5_firstOfBox : y_M := (yX5_firstOfBox, cX5_firstOfBox, 5, (Option.some (Jvm.ClassFile.FieldType.object "BoxYard$Act")))
theorem n_X5_firstOfBox : y_N0 M_X5_firstOfBox 2 := ⟨(c_7 63 (by decide +kernel) rfl), (c_1 5 (by decide +kernel) rfl), ⟨by decide +kernel, by decide +kernel⟩, by decide +kernel⟩
theorem F_BoxYard_Journal_16 : y_F "BoxYard$Journal" 16 5 1 := ⟨_, _, _, rfl, by decide, Or.inl (c_1 190 (by decide +kernel) rfl)⟩
theorem l_BoxYard_Journal_30 : y_lnk "BoxYard$Journal" 30 M_X0_begin := Or.inl (c_4 124 (by decide +kernel) rfl)
theorem i_X0_begin : Cond.instanceMethod (M_X0_begin).1 ∈ y_tb := (c_4 125 (by decide +kernel) rfl)
theorem e_X0_begin : Cond.selects (M_X0_begin).1.cls (M_X0_begin).1 (M_X0_begin).1 ∈ y_tb := (c_4 126 (by decide +kernel) rfl)
theorem l_BoxYard_Journal_120 : y_lnk "BoxYard$Journal" 120 M_X5_fromEnd := Or.inl (c_7 64 (by decide +kernel) rfl)
theorem i_X5_fromEnd : Cond.instanceMethod (M_X5_fromEnd).1 ∈ y_tb := (c_7 66 (by decide +kernel) rfl)
theorem e_X5_fromEnd : Cond.selects (M_X5_fromEnd).1.cls (M_X5_fromEnd).1 (M_X5_fromEnd).1 ∈ y_tb := (m_s 53 (by decide +kernel) rfl)
theorem F_BoxYard_Journal_49 : y_F "BoxYard$Journal" 49 0 1 := ⟨_, _, _, rfl, by decide, Or.inr ⟨"BoxYard", (c_1 123 (by decide +kernel) rfl)⟩⟩
set_option maxRecDepth 100000 in
def f_X5_firstOfBox (p0 : Nat) (p1 : Nat) (p2 : Int32) (h : y_H) : Option (Nat × y_H) :=
  y_jl (fun (_ : Nat) (_ : Nat) (_ : Int32) (_ : y_H) => (none : Option (Nat × y_H))) (fun j2 (v0_2 : Nat) (v1_2 : Nat) (v3_2 : Int32) (h1 : y_H) =>
      if v3_2 < 1 then
        if y_K h1 v0_2 = 6 then
        if y_K h1 (y_P h1 v0_2 1) = 1 then
        y_cl (f_X0_begin (y_P h1 v0_2 1) 0 v1_2 0 0 h1) (fun _ h2 =>
        if y_K h2 v0_2 = 6 then
        some (y_P h2 v0_2 1, h2)
        else none)
        else none
        else none
      else
        if y_K h1 v0_2 = 6 then
        y_cl (f_X5_fromEnd v0_2 v3_2 h1) (fun r7 h8 =>
        y_jn (fun (v0_31 : Nat) (v1_31 : Nat) (v3_31 : Int32) (h10 : y_H) => (
            j2 v0_31 v1_31 (v3_31 + (-1 : Int32)) h10 : Option (Nat × y_H))) (fun j31 =>
        if r7 = 0 then
          j31 v0_2 v1_2 v3_2 h8
        else
          if y_K h8 r7 = 1 then
          if (y_P h8 r7 1) = v1_2 then
            some (r7, h8)
          else
            j31 v0_2 v1_2 v3_2 h8
          else none))
        else none) (fun j2 =>
  j2 p0 p1 p2 h)
abbrev rm_X5_firstOfBox : Room := { frames := 2, cells := 0, slots := 0, locals := 45 }
set_option maxRecDepth 100000 in
set_option maxHeartbeats 4000000 in
theorem k_X5_firstOfBox {l : Launch} {G : y_G} {p0 : Nat} {p1 : Nat} {p2 : Int32} {h hz : y_H} {rz : Nat} (hf : f_X5_firstOfBox p0 p1 p2 h = some (rz, hz)) : y_S l G M_X5_firstOfBox rm_X5_firstOfBox [y_p p0, y_p p1, .int p2] h (some (y_p rz)) hz := by
  refine y_start (lv := [(0, y_p p0), (1, y_p p1), (2, .int p2)]) (by decide) (by simp [lg_sl, y_p_cat, y_ci, y_cj, M_X5_firstOfBox]) (by simp [lv_args, y_p_cat, y_ci, y_cj]) (fun z ad0 => ?_)
  unfold f_X5_firstOfBox at hf
  refine y_iload_n (pc2 := 1) rfl dX5_firstOfBox_0 rfl ?_
  refine y_jlE hf (fun j => ∀ (v0_2 : Nat) (v1_2 : Nat) (v3_2 : Int32) (h1 : y_H), j v0_2 v1_2 v3_2 h1 = some (rz, hz) → y_V l G z rm_X5_firstOfBox M_X5_firstOfBox ad0 h (some (y_p rz)) hz 2 [(0, y_p v0_2), (1, y_p v1_2), (3, .int v3_2)] [] h1 0 0) (fun _ _ _ _ hf => by cases hf) (fun j2 hj2 v0_2 v1_2 v3_2 h1 hf => ?_) (fun j2 hj2 hf => ?_)
  · refine y_iload_n (pc2 := 3) rfl dX5_firstOfBox_2 rfl ?_
    refine y_iconst (v := 1) (pc2 := 4) rfl dX5_firstOfBox_3 (by decide) ?_
    refine y_icmp_lt (tgt := 37) (pc2 := 7) rfl dX5_firstOfBox_4 (by decide) (fun c15 => ?_) (fun c15 => ?_)
    · replace hf := y_it c15 hf
      refine y_aload_n (x := v0_2) (pc2 := 38) rfl dX5_firstOfBox_37 rfl ?_
      obtain ⟨g6, hf⟩ := y_g hf
      refine y_getP (pc2 := 41) rfl dX5_firstOfBox_38 F_BoxYard_Journal_16 (by decide) rfl g6 ?_
      refine y_iconst (v := 0) (pc2 := 42) rfl dX5_firstOfBox_41 (by decide) ?_
      refine y_aload_n (x := v1_2) (pc2 := 43) rfl dX5_firstOfBox_42 rfl ?_
      refine y_null (pc2 := 44) rfl dX5_firstOfBox_43 ?_
      refine y_null (pc2 := 45) rfl dX5_firstOfBox_44 ?_
      obtain ⟨g5, hf⟩ := y_g hf
      obtain ⟨r_, h2, c3, hf⟩ := y_clE hf
      refine y_callV (As := [.int 0, y_p v1_2, y_p 0, y_p 0]) (rm := rm_X0_begin) (cells := 0) (slots := 0) (pc2 := 48) rfl dX5_firstOfBox_45 n_X0_begin l_BoxYard_Journal_30 i_X0_begin e_X0_begin (ci := 0) rfl rfl (by decide) g5 rfl rfl (by decide) (by decide) (by decide) (k_X0_begin c3) ?_
      refine y_aload_n (x := v0_2) (pc2 := 49) rfl dX5_firstOfBox_48 rfl ?_
      obtain ⟨g4, hf⟩ := y_g hf
      refine y_getP (pc2 := 52) rfl dX5_firstOfBox_49 F_BoxYard_Journal_16 (by decide) rfl g4 ?_
      exact y_aretF hf dX5_firstOfBox_52 rfl (Or.inl ⟨_, rfl⟩) (by decide) (by decide)
    · replace hf := y_ie c15 hf
      refine y_aload_n (x := v0_2) (pc2 := 8) rfl dX5_firstOfBox_7 rfl ?_
      refine y_iload_n (pc2 := 9) rfl dX5_firstOfBox_8 rfl ?_
      obtain ⟨g14, hf⟩ := y_g hf
      obtain ⟨r7, h8, c9, hf⟩ := y_clE hf
      refine y_callV (As := [.int v3_2]) (rm := rm_X5_fromEnd) (cells := 0) (slots := 0) (pc2 := 12) rfl dX5_firstOfBox_9 n_X5_fromEnd l_BoxYard_Journal_120 i_X5_fromEnd e_X5_fromEnd (ci := 5) rfl rfl (by decide) g14 rfl rfl (by decide) (by decide) (by decide) (k_X5_fromEnd c9) ?_
      refine y_astore (lv' := [(4, y_p r7), (0, y_p v0_2), (1, y_p v1_2), (3, .int v3_2)]) (pc2 := 14) rfl dX5_firstOfBox_12 (by decide) rfl ?_
      refine y_aload (x := r7) (pc2 := 16) rfl dX5_firstOfBox_14 rfl ?_
      refine y_jnE hf (fun j => ∀ (v0_31 : Nat) (v1_31 : Nat) (v3_31 : Int32) (h10 : y_H), j v0_31 v1_31 v3_31 h10 = some (rz, hz) → y_V l G z rm_X5_firstOfBox M_X5_firstOfBox ad0 h (some (y_p rz)) hz 31 [(0, y_p v0_31), (1, y_p v1_31), (3, .int v3_31)] [] h10 0 0) (fun v0_31 v1_31 v3_31 h10 hf => ?_) (fun j31 hj31 hf => ?_)
      · refine y_iinc (v := v3_31 + (-1 : Int32)) (lv' := [(3, .int (v3_31 + (-1 : Int32))), (0, y_p v0_31), (1, y_p v1_31)]) (pc2 := 34) rfl dX5_firstOfBox_31 rfl rfl (by decide) rfl ?_
        refine y_goto (tgt := 2) dX5_firstOfBox_34 (by decide) ?_
        exact y_pk [1, 2, 0] rfl (hj2 _ _ _ _ hf)
      · refine y_ifnull (tgt := 31) (pc2 := 19) rfl dX5_firstOfBox_16 (by decide) (fun c13 => ?_) (fun c13 => ?_)
        · replace hf := y_it c13 hf
          exact y_pk [1, 2, 3] rfl (hj31 _ _ _ _ hf)
        · replace hf := y_ie c13 hf
          refine y_aload (x := r7) (pc2 := 21) rfl dX5_firstOfBox_19 rfl ?_
          obtain ⟨g12, hf⟩ := y_g hf
          refine y_getP (pc2 := 24) rfl dX5_firstOfBox_21 F_BoxYard_Journal_49 (by decide) rfl g12 ?_
          refine y_aload_n (x := v1_2) (pc2 := 25) rfl dX5_firstOfBox_24 rfl ?_
          refine y_acmp_ne (tgt := 31) (pc2 := 28) rfl dX5_firstOfBox_25 (by decide) (fun c11 => ?_) (fun c11 => ?_)
          · replace hf := y_ie c11 hf
            exact y_pk [1, 2, 3] rfl (hj31 _ _ _ _ hf)
          · replace hf := y_it c11 hf
            refine y_aload (x := r7) (pc2 := 30) rfl dX5_firstOfBox_28 rfl ?_
            exact y_aretF hf dX5_firstOfBox_30 rfl (Or.inl ⟨_, rfl⟩) (by decide) (by decide)
  · refine y_istore_n (lv' := [(3, .int p2), (0, y_p p0), (1, y_p p1), (2, .int p2)]) (pc2 := 2) rfl dX5_firstOfBox_1 (by decide) rfl ?_
    exact y_pk [1, 2, 0] rfl (hj2 _ _ _ _ hf)
theorem dX5_mixed_0 : decode cX5_mixed 0 = .ok (.lload_n 0, 1) := by decide +kernel
theorem dX5_mixed_1 : decode cX5_mixed 1 = .ok (.iload_n 2, 1) := by decide +kernel
theorem dX5_mixed_2 : decode cX5_mixed 2 = .ok (.i2l, 1) := by decide +kernel
theorem dX5_mixed_3 : decode cX5_mixed 3 = .ok (.lxor, 1) := by decide +kernel
theorem dX5_mixed_4 : decode cX5_mixed 4 = .ok (.ldc2_w 118, 3) := by decide +kernel
theorem dX5_mixed_7 : decode cX5_mixed 7 = .ok (.lmul, 1) := by decide +kernel
theorem dX5_mixed_8 : decode cX5_mixed 8 = .ok (.lstore_n 3, 1) := by decide +kernel
theorem dX5_mixed_9 : decode cX5_mixed 9 = .ok (.lload_n 3, 1) := by decide +kernel
theorem dX5_mixed_10 : decode cX5_mixed 10 = .ok (.lload_n 3, 1) := by decide +kernel
theorem dX5_mixed_11 : decode cX5_mixed 11 = .ok (.bipush 29, 2) := by decide +kernel
theorem dX5_mixed_13 : decode cX5_mixed 13 = .ok (.lushr, 1) := by decide +kernel
theorem dX5_mixed_14 : decode cX5_mixed 14 = .ok (.lxor, 1) := by decide +kernel
theorem dX5_mixed_15 : decode cX5_mixed 15 = .ok (.lreturn, 1) := by decide +kernel
def M_X5_mixed : y_M := (yX5_mixed, cX5_mixed, 5, (Option.some Jvm.ClassFile.FieldType.long))
theorem n_X5_mixed : y_N0 M_X5_mixed 2 := ⟨(c_7 71 (by decide +kernel) rfl), (c_1 5 (by decide +kernel) rfl), ⟨by decide +kernel, by decide +kernel⟩, by decide +kernel⟩
theorem k_BoxYard_Journal_118 : Cond.constantLong "BoxYard$Journal" 118 (-7046029254386353131) ∈ y_tb := (c_7 72 (by decide +kernel) rfl)
set_option maxRecDepth 100000 in
def f_X5_mixed (p0 : Int64) (p2 : Int32) (h : y_H) : Option (Int64 × y_H) :=
  some (((p0 ^^^ (Int32.toInt64 p2)) * (-7046029254386353131 : Int64)) ^^^ (y_lush ((p0 ^^^ (Int32.toInt64 p2)) * (-7046029254386353131 : Int64)) 29), h)
abbrev rm_X5_mixed : Room := { frames := 0, cells := 0, slots := 0, locals := 0 }
set_option maxRecDepth 100000 in
set_option maxHeartbeats 4000000 in
theorem k_X5_mixed {l : Launch} {G : y_G} {p0 : Int64} {p2 : Int32} {h hz : y_H} {rz : Int64} (hf : f_X5_mixed p0 p2 h = some (rz, hz)) : y_S l G M_X5_mixed rm_X5_mixed [.long p0, .int p2] h (some (.long rz)) hz := by
  refine y_start (lv := [(0, .long p0), (2, .int p2)]) (by decide) (by simp [lg_sl, y_p_cat, y_ci, y_cj, M_X5_mixed]) (by simp [lv_args, y_p_cat, y_ci, y_cj]) (fun z ad0 => ?_)
  unfold f_X5_mixed at hf
  refine y_lload_n (pc2 := 1) rfl dX5_mixed_0 rfl ?_
  refine y_iload_n (pc2 := 2) rfl dX5_mixed_1 rfl ?_
  refine y_i2l (pc2 := 3) rfl dX5_mixed_2 ?_
  refine y_lxor (pc2 := 4) rfl dX5_mixed_3 ?_
  refine y_ldc2 (v := (-7046029254386353131 : Int64)) (pc2 := 7) rfl dX5_mixed_4 k_BoxYard_Journal_118 ?_
  refine y_lmul (pc2 := 8) rfl dX5_mixed_7 ?_
  refine y_lstore_n (lv' := [(3, .long ((p0 ^^^ (Int32.toInt64 p2)) * (-7046029254386353131 : Int64))), (0, .long p0), (2, .int p2)]) (pc2 := 9) rfl dX5_mixed_8 (by decide) rfl ?_
  refine y_lload_n (pc2 := 10) rfl dX5_mixed_9 rfl ?_
  refine y_lload_n (pc2 := 11) rfl dX5_mixed_10 rfl ?_
  refine y_bipush (v := 29) (pc2 := 13) rfl dX5_mixed_11 (by decide) ?_
  refine y_lus (pc2 := 14) rfl dX5_mixed_13 ?_
  refine y_lxor (pc2 := 15) rfl dX5_mixed_14 ?_
  exact y_lretF hf dX5_mixed_15 rfl (by decide) (by decide)
theorem dX10_craneAt_0 : decode cX10_craneAt 0 = .ok (.iload_n 1, 1) := by decide +kernel
theorem dX10_craneAt_1 : decode cX10_craneAt 1 = .ok (.iconst 0, 1) := by decide +kernel
theorem dX10_craneAt_2 : decode cX10_craneAt 2 = .ok (.aload_n 0, 1) := by decide +kernel
theorem dX10_craneAt_3 : decode cX10_craneAt 3 = .ok (.getfield 62, 3) := by decide +kernel
theorem dX10_craneAt_6 : decode cX10_craneAt 6 = .ok (.iconst 1, 1) := by decide +kernel
theorem dX10_craneAt_7 : decode cX10_craneAt 7 = .ok (.isub, 1) := by decide +kernel
theorem dX10_craneAt_8 : decode cX10_craneAt 8 = .ok (.invokestatic 86, 3) := by decide +kernel
theorem dX10_craneAt_11 : decode cX10_craneAt 11 = .ok (.ifCond .eq 12, 3) := by decide +kernel
theorem dX10_craneAt_14 : decode cX10_craneAt 14 = .ok (.aload_n 0, 1) := by decide +kernel
theorem dX10_craneAt_15 : decode cX10_craneAt 15 = .ok (.getfield 25, 3) := by decide +kernel
theorem dX10_craneAt_18 : decode cX10_craneAt 18 = .ok (.iload_n 1, 1) := by decide +kernel
theorem dX10_craneAt_19 : decode cX10_craneAt 19 = .ok (.aaload, 1) := by decide +kernel
theorem dX10_craneAt_20 : decode cX10_craneAt 20 = .ok (.goto 4, 3) := by decide +kernel
theorem dX10_craneAt_23 : decode cX10_craneAt 23 = .ok (.aconst_null, 1) := by decide +kernel
theorem dX10_craneAt_24 : decode cX10_craneAt 24 = .ok (.areturn, 1) := by decide +kernel
def M_X10_craneAt : y_M := (yX10_craneAt, cX10_craneAt, 2, (Option.some (Jvm.ClassFile.FieldType.object "BoxYard$Crane")))
theorem n_X10_craneAt : y_N0 M_X10_craneAt 1 := ⟨(c_3 163 (by decide +kernel) rfl), (c_1 2 (by decide +kernel) rfl), ⟨by decide +kernel, by decide +kernel⟩, by decide +kernel⟩
theorem F_BoxYard_Yard_62 : y_F "BoxYard$Yard" 62 10 4 := ⟨_, _, _, rfl, by decide, Or.inl (c_1 63 (by decide +kernel) rfl)⟩
theorem F_BoxYard_Yard_25 : y_F "BoxYard$Yard" 25 10 3 := ⟨_, _, _, rfl, by decide, Or.inl (c_1 62 (by decide +kernel) rfl)⟩
set_option maxRecDepth 100000 in
def f_X10_craneAt (p0 : Nat) (p1 : Int32) (h : y_H) : Option (Nat × y_H) :=
  if y_K h p0 = 11 then
  y_cl (f_X11_isWithin p1 0 ((y_I h p0 4) - 1) h) (fun r1 h2 =>
  if r1 = true then
    if y_K h2 p0 = 11 then
    if y_K h2 (y_P h2 p0 3) = 105 ∧ y_ix p1 (y_N h2 (y_P h2 p0 3)) = true then
    some (y_P h2 (y_P h2 p0 3) (Int32.toNatClampNeg p1), h2)
    else none
    else none
  else
    some (0, h2))
  else none
abbrev rm_X10_craneAt : Room := { frames := 1, cells := 0, slots := 0, locals := 22 }
set_option maxRecDepth 100000 in
set_option maxHeartbeats 4000000 in
theorem k_X10_craneAt {l : Launch} {G : y_G} {p0 : Nat} {p1 : Int32} {h hz : y_H} {rz : Nat} (hf : f_X10_craneAt p0 p1 h = some (rz, hz)) : y_S l G M_X10_craneAt rm_X10_craneAt [y_p p0, .int p1] h (some (y_p rz)) hz := by
  refine y_start (lv := [(0, y_p p0), (1, .int p1)]) (by decide) (by simp [lg_sl, y_p_cat, y_ci, y_cj, M_X10_craneAt]) (by simp [lv_args, y_p_cat, y_ci, y_cj]) (fun z ad0 => ?_)
  unfold f_X10_craneAt at hf
  refine y_iload_n (pc2 := 1) rfl dX10_craneAt_0 rfl ?_
  refine y_iconst (v := 0) (pc2 := 2) rfl dX10_craneAt_1 (by decide) ?_
  refine y_aload_n (x := p0) (pc2 := 3) rfl dX10_craneAt_2 rfl ?_
  obtain ⟨g7, hf⟩ := y_g hf
  refine y_getI (pc2 := 6) rfl dX10_craneAt_3 F_BoxYard_Yard_62 (by decide) rfl g7 ?_
  refine y_iconst (v := 1) (pc2 := 7) rfl dX10_craneAt_6 (by decide) ?_
  refine y_isub (pc2 := 8) rfl dX10_craneAt_7 ?_
  obtain ⟨r1, h2, c3, hf⟩ := y_clE hf
  refine y_callS (As := [.int p1, .int 0, .int ((y_I h p0 4) - 1)]) (rm := rm_X11_isWithin) (cells := 0) (slots := 0) (pc2 := 11) rfl dX10_craneAt_8 n_X11_isWithin l_BoxYard_Yard_86 t_X11_isWithin rfl rfl (by decide) (by decide) (by decide) (k_X11_isWithin c3) ?_
  refine y_ifz_eq (tgt := 23) (pc2 := 14) rfl dX10_craneAt_11 (by decide) (fun c6 => ?_) (fun c6 => ?_)
  · replace hf := y_ie c6 hf
    refine y_null (pc2 := 24) rfl dX10_craneAt_23 ?_
    exact y_aretF hf dX10_craneAt_24 rfl (Or.inl ⟨_, rfl⟩) (by decide) (by decide)
  · replace hf := y_it c6 hf
    refine y_aload_n (x := p0) (pc2 := 15) rfl dX10_craneAt_14 rfl ?_
    obtain ⟨g5, hf⟩ := y_g hf
    refine y_getP (pc2 := 18) rfl dX10_craneAt_15 F_BoxYard_Yard_25 (by decide) rfl g5 ?_
    refine y_iload_n (pc2 := 19) rfl dX10_craneAt_18 rfl ?_
    obtain ⟨g4, hf⟩ := y_g hf
    refine y_aald (t := 5) (pc2 := 20) rfl dX10_craneAt_19 (by decide) rfl g4.1 (y_ix_in g4.2) ?_
    refine y_goto (tgt := 24) dX10_craneAt_20 (by decide) ?_
    exact y_aretF hf dX10_craneAt_24 rfl (Or.inl ⟨_, rfl⟩) (by decide) (by decide)
theorem dX5_firstOfCrane_0 : decode cX5_firstOfCrane 0 = .ok (.iload_n 2, 1) := by decide +kernel
theorem dX5_firstOfCrane_1 : decode cX5_firstOfCrane 1 = .ok (.istore_n 3, 1) := by decide +kernel
theorem dX5_firstOfCrane_2 : decode cX5_firstOfCrane 2 = .ok (.iload_n 3, 1) := by decide +kernel
theorem dX5_firstOfCrane_3 : decode cX5_firstOfCrane 3 = .ok (.iconst 1, 1) := by decide +kernel
theorem dX5_firstOfCrane_4 : decode cX5_firstOfCrane 4 = .ok (.if_icmp .lt 33, 3) := by decide +kernel
theorem dX5_firstOfCrane_7 : decode cX5_firstOfCrane 7 = .ok (.aload_n 0, 1) := by decide +kernel
theorem dX5_firstOfCrane_8 : decode cX5_firstOfCrane 8 = .ok (.iload_n 3, 1) := by decide +kernel
theorem dX5_firstOfCrane_9 : decode cX5_firstOfCrane 9 = .ok (.invokevirtual 120, 3) := by decide +kernel
theorem dX5_firstOfCrane_12 : decode cX5_firstOfCrane 12 = .ok (.astore 4, 2) := by decide +kernel
theorem dX5_firstOfCrane_14 : decode cX5_firstOfCrane 14 = .ok (.aload 4, 2) := by decide +kernel
theorem dX5_firstOfCrane_16 : decode cX5_firstOfCrane 16 = .ok (.ifnull 15, 3) := by decide +kernel
theorem dX5_firstOfCrane_19 : decode cX5_firstOfCrane 19 = .ok (.aload 4, 2) := by decide +kernel
theorem dX5_firstOfCrane_21 : decode cX5_firstOfCrane 21 = .ok (.getfield 124, 3) := by decide +kernel
theorem dX5_firstOfCrane_24 : decode cX5_firstOfCrane 24 = .ok (.aload_n 1, 1) := by decide +kernel
theorem dX5_firstOfCrane_25 : decode cX5_firstOfCrane 25 = .ok (.if_acmp .ne 6, 3) := by decide +kernel
theorem dX5_firstOfCrane_28 : decode cX5_firstOfCrane 28 = .ok (.aload 4, 2) := by decide +kernel
theorem dX5_firstOfCrane_30 : decode cX5_firstOfCrane 30 = .ok (.areturn, 1) := by decide +kernel
theorem dX5_firstOfCrane_31 : decode cX5_firstOfCrane 31 = .ok (.iinc 3 (-1), 3) := by decide +kernel
theorem dX5_firstOfCrane_34 : decode cX5_firstOfCrane 34 = .ok (.goto (-32), 3) := by decide +kernel
theorem dX5_firstOfCrane_37 : decode cX5_firstOfCrane 37 = .ok (.aload_n 0, 1) := by decide +kernel
theorem dX5_firstOfCrane_38 : decode cX5_firstOfCrane 38 = .ok (.getfield 16, 3) := by decide +kernel
theorem dX5_firstOfCrane_41 : decode cX5_firstOfCrane 41 = .ok (.iconst 0, 1) := by decide +kernel
theorem dX5_firstOfCrane_42 : decode cX5_firstOfCrane 42 = .ok (.aconst_null, 1) := by decide +kernel
theorem dX5_firstOfCrane_43 : decode cX5_firstOfCrane 43 = .ok (.aload_n 1, 1) := by decide +kernel
theorem dX5_firstOfCrane_44 : decode cX5_firstOfCrane 44 = .ok (.aconst_null, 1) := by decide +kernel
theorem dX5_firstOfCrane_45 : decode cX5_firstOfCrane 45 = .ok (.invokevirtual 30, 3) := by decide +kernel
theorem dX5_firstOfCrane_48 : decode cX5_firstOfCrane 48 = .ok (.aload_n 0, 1) := by decide +kernel
theorem dX5_firstOfCrane_49 : decode cX5_firstOfCrane 49 = .ok (.getfield 16, 3) := by decide +kernel
theorem dX5_firstOfCrane_52 : decode cX5_firstOfCrane 52 = .ok (.areturn, 1) := by decide +kernel
def M_X5_firstOfCrane : y_M := (yX5_firstOfCrane, cX5_firstOfCrane, 5, (Option.some (Jvm.ClassFile.FieldType.object "BoxYard$Act")))
theorem n_X5_firstOfCrane : y_N0 M_X5_firstOfCrane 2 := ⟨(c_7 77 (by decide +kernel) rfl), (c_1 5 (by decide +kernel) rfl), ⟨by decide +kernel, by decide +kernel⟩, by decide +kernel⟩
theorem F_BoxYard_Journal_124 : y_F "BoxYard$Journal" 124 0 7 := ⟨_, _, _, rfl, by decide, Or.inr ⟨"BoxYard", (c_1 141 (by decide +kernel) rfl)⟩⟩
set_option maxRecDepth 100000 in
def f_X5_firstOfCrane (p0 : Nat) (p1 : Nat) (p2 : Int32) (h : y_H) : Option (Nat × y_H) :=
  y_jl (fun (_ : Nat) (_ : Nat) (_ : Int32) (_ : y_H) => (none : Option (Nat × y_H))) (fun j2 (v0_2 : Nat) (v1_2 : Nat) (v3_2 : Int32) (h1 : y_H) =>
      if v3_2 < 1 then
        if y_K h1 v0_2 = 6 then
        if y_K h1 (y_P h1 v0_2 1) = 1 then
        y_cl (f_X0_begin (y_P h1 v0_2 1) 0 0 v1_2 0 h1) (fun _ h2 =>
        if y_K h2 v0_2 = 6 then
        some (y_P h2 v0_2 1, h2)
        else none)
        else none
        else none
      else
        if y_K h1 v0_2 = 6 then
        y_cl (f_X5_fromEnd v0_2 v3_2 h1) (fun r7 h8 =>
        y_jn (fun (v0_31 : Nat) (v1_31 : Nat) (v3_31 : Int32) (h10 : y_H) => (
            j2 v0_31 v1_31 (v3_31 + (-1 : Int32)) h10 : Option (Nat × y_H))) (fun j31 =>
        if r7 = 0 then
          j31 v0_2 v1_2 v3_2 h8
        else
          if y_K h8 r7 = 1 then
          if (y_P h8 r7 7) = v1_2 then
            some (r7, h8)
          else
            j31 v0_2 v1_2 v3_2 h8
          else none))
        else none) (fun j2 =>
  j2 p0 p1 p2 h)
abbrev rm_X5_firstOfCrane : Room := { frames := 2, cells := 0, slots := 0, locals := 45 }
set_option maxRecDepth 100000 in
set_option maxHeartbeats 4000000 in
theorem k_X5_firstOfCrane {l : Launch} {G : y_G} {p0 : Nat} {p1 : Nat} {p2 : Int32} {h hz : y_H} {rz : Nat} (hf : f_X5_firstOfCrane p0 p1 p2 h = some (rz, hz)) : y_S l G M_X5_firstOfCrane rm_X5_firstOfCrane [y_p p0, y_p p1, .int p2] h (some (y_p rz)) hz := by
  refine y_start (lv := [(0, y_p p0), (1, y_p p1), (2, .int p2)]) (by decide) (by simp [lg_sl, y_p_cat, y_ci, y_cj, M_X5_firstOfCrane]) (by simp [lv_args, y_p_cat, y_ci, y_cj]) (fun z ad0 => ?_)
  unfold f_X5_firstOfCrane at hf
  refine y_iload_n (pc2 := 1) rfl dX5_firstOfCrane_0 rfl ?_
  refine y_jlE hf (fun j => ∀ (v0_2 : Nat) (v1_2 : Nat) (v3_2 : Int32) (h1 : y_H), j v0_2 v1_2 v3_2 h1 = some (rz, hz) → y_V l G z rm_X5_firstOfCrane M_X5_firstOfCrane ad0 h (some (y_p rz)) hz 2 [(0, y_p v0_2), (1, y_p v1_2), (3, .int v3_2)] [] h1 0 0) (fun _ _ _ _ hf => by cases hf) (fun j2 hj2 v0_2 v1_2 v3_2 h1 hf => ?_) (fun j2 hj2 hf => ?_)
  · refine y_iload_n (pc2 := 3) rfl dX5_firstOfCrane_2 rfl ?_
    refine y_iconst (v := 1) (pc2 := 4) rfl dX5_firstOfCrane_3 (by decide) ?_
    refine y_icmp_lt (tgt := 37) (pc2 := 7) rfl dX5_firstOfCrane_4 (by decide) (fun c15 => ?_) (fun c15 => ?_)
    · replace hf := y_it c15 hf
      refine y_aload_n (x := v0_2) (pc2 := 38) rfl dX5_firstOfCrane_37 rfl ?_
      obtain ⟨g6, hf⟩ := y_g hf
      refine y_getP (pc2 := 41) rfl dX5_firstOfCrane_38 F_BoxYard_Journal_16 (by decide) rfl g6 ?_
      refine y_iconst (v := 0) (pc2 := 42) rfl dX5_firstOfCrane_41 (by decide) ?_
      refine y_null (pc2 := 43) rfl dX5_firstOfCrane_42 ?_
      refine y_aload_n (x := v1_2) (pc2 := 44) rfl dX5_firstOfCrane_43 rfl ?_
      refine y_null (pc2 := 45) rfl dX5_firstOfCrane_44 ?_
      obtain ⟨g5, hf⟩ := y_g hf
      obtain ⟨r_, h2, c3, hf⟩ := y_clE hf
      refine y_callV (As := [.int 0, y_p 0, y_p v1_2, y_p 0]) (rm := rm_X0_begin) (cells := 0) (slots := 0) (pc2 := 48) rfl dX5_firstOfCrane_45 n_X0_begin l_BoxYard_Journal_30 i_X0_begin e_X0_begin (ci := 0) rfl rfl (by decide) g5 rfl rfl (by decide) (by decide) (by decide) (k_X0_begin c3) ?_
      refine y_aload_n (x := v0_2) (pc2 := 49) rfl dX5_firstOfCrane_48 rfl ?_
      obtain ⟨g4, hf⟩ := y_g hf
      refine y_getP (pc2 := 52) rfl dX5_firstOfCrane_49 F_BoxYard_Journal_16 (by decide) rfl g4 ?_
      exact y_aretF hf dX5_firstOfCrane_52 rfl (Or.inl ⟨_, rfl⟩) (by decide) (by decide)
    · replace hf := y_ie c15 hf
      refine y_aload_n (x := v0_2) (pc2 := 8) rfl dX5_firstOfCrane_7 rfl ?_
      refine y_iload_n (pc2 := 9) rfl dX5_firstOfCrane_8 rfl ?_
      obtain ⟨g14, hf⟩ := y_g hf
      obtain ⟨r7, h8, c9, hf⟩ := y_clE hf
      refine y_callV (As := [.int v3_2]) (rm := rm_X5_fromEnd) (cells := 0) (slots := 0) (pc2 := 12) rfl dX5_firstOfCrane_9 n_X5_fromEnd l_BoxYard_Journal_120 i_X5_fromEnd e_X5_fromEnd (ci := 5) rfl rfl (by decide) g14 rfl rfl (by decide) (by decide) (by decide) (k_X5_fromEnd c9) ?_
      refine y_astore (lv' := [(4, y_p r7), (0, y_p v0_2), (1, y_p v1_2), (3, .int v3_2)]) (pc2 := 14) rfl dX5_firstOfCrane_12 (by decide) rfl ?_
      refine y_aload (x := r7) (pc2 := 16) rfl dX5_firstOfCrane_14 rfl ?_
      refine y_jnE hf (fun j => ∀ (v0_31 : Nat) (v1_31 : Nat) (v3_31 : Int32) (h10 : y_H), j v0_31 v1_31 v3_31 h10 = some (rz, hz) → y_V l G z rm_X5_firstOfCrane M_X5_firstOfCrane ad0 h (some (y_p rz)) hz 31 [(0, y_p v0_31), (1, y_p v1_31), (3, .int v3_31)] [] h10 0 0) (fun v0_31 v1_31 v3_31 h10 hf => ?_) (fun j31 hj31 hf => ?_)
      · refine y_iinc (v := v3_31 + (-1 : Int32)) (lv' := [(3, .int (v3_31 + (-1 : Int32))), (0, y_p v0_31), (1, y_p v1_31)]) (pc2 := 34) rfl dX5_firstOfCrane_31 rfl rfl (by decide) rfl ?_
        refine y_goto (tgt := 2) dX5_firstOfCrane_34 (by decide) ?_
        exact y_pk [1, 2, 0] rfl (hj2 _ _ _ _ hf)
      · refine y_ifnull (tgt := 31) (pc2 := 19) rfl dX5_firstOfCrane_16 (by decide) (fun c13 => ?_) (fun c13 => ?_)
        · replace hf := y_it c13 hf
          exact y_pk [1, 2, 3] rfl (hj31 _ _ _ _ hf)
        · replace hf := y_ie c13 hf
          refine y_aload (x := r7) (pc2 := 21) rfl dX5_firstOfCrane_19 rfl ?_
          obtain ⟨g12, hf⟩ := y_g hf
          refine y_getP (pc2 := 24) rfl dX5_firstOfCrane_21 F_BoxYard_Journal_124 (by decide) rfl g12 ?_
          refine y_aload_n (x := v1_2) (pc2 := 25) rfl dX5_firstOfCrane_24 rfl ?_
          refine y_acmp_ne (tgt := 31) (pc2 := 28) rfl dX5_firstOfCrane_25 (by decide) (fun c11 => ?_) (fun c11 => ?_)
          · replace hf := y_ie c11 hf
            exact y_pk [1, 2, 3] rfl (hj31 _ _ _ _ hf)
          · replace hf := y_it c11 hf
            refine y_aload (x := r7) (pc2 := 30) rfl dX5_firstOfCrane_28 rfl ?_
            exact y_aretF hf dX5_firstOfCrane_30 rfl (Or.inl ⟨_, rfl⟩) (by decide) (by decide)
  · refine y_istore_n (lv' := [(3, .int p2), (0, y_p p0), (1, y_p p1), (2, .int p2)]) (pc2 := 2) rfl dX5_firstOfCrane_1 (by decide) rfl ?_
    exact y_pk [1, 2, 0] rfl (hj2 _ _ _ _ hf)
theorem dX10_shipAt_0 : decode cX10_shipAt 0 = .ok (.iload_n 1, 1) := by decide +kernel
theorem dX10_shipAt_1 : decode cX10_shipAt 1 = .ok (.iconst 0, 1) := by decide +kernel
theorem dX10_shipAt_2 : decode cX10_shipAt 2 = .ok (.aload_n 0, 1) := by decide +kernel
theorem dX10_shipAt_3 : decode cX10_shipAt 3 = .ok (.getfield 65, 3) := by decide +kernel
theorem dX10_shipAt_6 : decode cX10_shipAt 6 = .ok (.iconst 1, 1) := by decide +kernel
theorem dX10_shipAt_7 : decode cX10_shipAt 7 = .ok (.isub, 1) := by decide +kernel
theorem dX10_shipAt_8 : decode cX10_shipAt 8 = .ok (.invokestatic 86, 3) := by decide +kernel
theorem dX10_shipAt_11 : decode cX10_shipAt 11 = .ok (.ifCond .eq 12, 3) := by decide +kernel
theorem dX10_shipAt_14 : decode cX10_shipAt 14 = .ok (.aload_n 0, 1) := by decide +kernel
theorem dX10_shipAt_15 : decode cX10_shipAt 15 = .ok (.getfield 31, 3) := by decide +kernel
theorem dX10_shipAt_18 : decode cX10_shipAt 18 = .ok (.iload_n 1, 1) := by decide +kernel
theorem dX10_shipAt_19 : decode cX10_shipAt 19 = .ok (.aaload, 1) := by decide +kernel
theorem dX10_shipAt_20 : decode cX10_shipAt 20 = .ok (.goto 4, 3) := by decide +kernel
theorem dX10_shipAt_23 : decode cX10_shipAt 23 = .ok (.aconst_null, 1) := by decide +kernel
theorem dX10_shipAt_24 : decode cX10_shipAt 24 = .ok (.areturn, 1) := by decide +kernel
def M_X10_shipAt : y_M := (yX10_shipAt, cX10_shipAt, 2, (Option.some (Jvm.ClassFile.FieldType.object "BoxYard$Ship")))
theorem n_X10_shipAt : y_N0 M_X10_shipAt 1 := ⟨(c_4 31 (by decide +kernel) rfl), (c_1 2 (by decide +kernel) rfl), ⟨by decide +kernel, by decide +kernel⟩, by decide +kernel⟩
theorem F_BoxYard_Yard_65 : y_F "BoxYard$Yard" 65 10 6 := ⟨_, _, _, rfl, by decide, Or.inl (c_1 67 (by decide +kernel) rfl)⟩
theorem F_BoxYard_Yard_31 : y_F "BoxYard$Yard" 31 10 5 := ⟨_, _, _, rfl, by decide, Or.inl (c_1 66 (by decide +kernel) rfl)⟩
set_option maxRecDepth 100000 in
def f_X10_shipAt (p0 : Nat) (p1 : Int32) (h : y_H) : Option (Nat × y_H) :=
  if y_K h p0 = 11 then
  y_cl (f_X11_isWithin p1 0 ((y_I h p0 6) - 1) h) (fun r1 h2 =>
  if r1 = true then
    if y_K h2 p0 = 11 then
    if y_K h2 (y_P h2 p0 5) = 106 ∧ y_ix p1 (y_N h2 (y_P h2 p0 5)) = true then
    some (y_P h2 (y_P h2 p0 5) (Int32.toNatClampNeg p1), h2)
    else none
    else none
  else
    some (0, h2))
  else none
abbrev rm_X10_shipAt : Room := { frames := 1, cells := 0, slots := 0, locals := 22 }
set_option maxRecDepth 100000 in
set_option maxHeartbeats 4000000 in
theorem k_X10_shipAt {l : Launch} {G : y_G} {p0 : Nat} {p1 : Int32} {h hz : y_H} {rz : Nat} (hf : f_X10_shipAt p0 p1 h = some (rz, hz)) : y_S l G M_X10_shipAt rm_X10_shipAt [y_p p0, .int p1] h (some (y_p rz)) hz := by
  refine y_start (lv := [(0, y_p p0), (1, .int p1)]) (by decide) (by simp [lg_sl, y_p_cat, y_ci, y_cj, M_X10_shipAt]) (by simp [lv_args, y_p_cat, y_ci, y_cj]) (fun z ad0 => ?_)
  unfold f_X10_shipAt at hf
  refine y_iload_n (pc2 := 1) rfl dX10_shipAt_0 rfl ?_
  refine y_iconst (v := 0) (pc2 := 2) rfl dX10_shipAt_1 (by decide) ?_
  refine y_aload_n (x := p0) (pc2 := 3) rfl dX10_shipAt_2 rfl ?_
  obtain ⟨g7, hf⟩ := y_g hf
  refine y_getI (pc2 := 6) rfl dX10_shipAt_3 F_BoxYard_Yard_65 (by decide) rfl g7 ?_
  refine y_iconst (v := 1) (pc2 := 7) rfl dX10_shipAt_6 (by decide) ?_
  refine y_isub (pc2 := 8) rfl dX10_shipAt_7 ?_
  obtain ⟨r1, h2, c3, hf⟩ := y_clE hf
  refine y_callS (As := [.int p1, .int 0, .int ((y_I h p0 6) - 1)]) (rm := rm_X11_isWithin) (cells := 0) (slots := 0) (pc2 := 11) rfl dX10_shipAt_8 n_X11_isWithin l_BoxYard_Yard_86 t_X11_isWithin rfl rfl (by decide) (by decide) (by decide) (k_X11_isWithin c3) ?_
  refine y_ifz_eq (tgt := 23) (pc2 := 14) rfl dX10_shipAt_11 (by decide) (fun c6 => ?_) (fun c6 => ?_)
  · replace hf := y_ie c6 hf
    refine y_null (pc2 := 24) rfl dX10_shipAt_23 ?_
    exact y_aretF hf dX10_shipAt_24 rfl (Or.inl ⟨_, rfl⟩) (by decide) (by decide)
  · replace hf := y_it c6 hf
    refine y_aload_n (x := p0) (pc2 := 15) rfl dX10_shipAt_14 rfl ?_
    obtain ⟨g5, hf⟩ := y_g hf
    refine y_getP (pc2 := 18) rfl dX10_shipAt_15 F_BoxYard_Yard_31 (by decide) rfl g5 ?_
    refine y_iload_n (pc2 := 19) rfl dX10_shipAt_18 rfl ?_
    obtain ⟨g4, hf⟩ := y_g hf
    refine y_aald (t := 6) (pc2 := 20) rfl dX10_shipAt_19 (by decide) rfl g4.1 (y_ix_in g4.2) ?_
    refine y_goto (tgt := 24) dX10_shipAt_20 (by decide) ?_
    exact y_aretF hf dX10_shipAt_24 rfl (Or.inl ⟨_, rfl⟩) (by decide) (by decide)
theorem dX5_firstOfShip_0 : decode cX5_firstOfShip 0 = .ok (.iload_n 2, 1) := by decide +kernel
theorem dX5_firstOfShip_1 : decode cX5_firstOfShip 1 = .ok (.istore_n 3, 1) := by decide +kernel
theorem dX5_firstOfShip_2 : decode cX5_firstOfShip 2 = .ok (.iload_n 3, 1) := by decide +kernel
theorem dX5_firstOfShip_3 : decode cX5_firstOfShip 3 = .ok (.iconst 1, 1) := by decide +kernel
theorem dX5_firstOfShip_4 : decode cX5_firstOfShip 4 = .ok (.if_icmp .lt 33, 3) := by decide +kernel
theorem dX5_firstOfShip_7 : decode cX5_firstOfShip 7 = .ok (.aload_n 0, 1) := by decide +kernel
theorem dX5_firstOfShip_8 : decode cX5_firstOfShip 8 = .ok (.iload_n 3, 1) := by decide +kernel
theorem dX5_firstOfShip_9 : decode cX5_firstOfShip 9 = .ok (.invokevirtual 120, 3) := by decide +kernel
theorem dX5_firstOfShip_12 : decode cX5_firstOfShip 12 = .ok (.astore 4, 2) := by decide +kernel
theorem dX5_firstOfShip_14 : decode cX5_firstOfShip 14 = .ok (.aload 4, 2) := by decide +kernel
theorem dX5_firstOfShip_16 : decode cX5_firstOfShip 16 = .ok (.ifnull 15, 3) := by decide +kernel
theorem dX5_firstOfShip_19 : decode cX5_firstOfShip 19 = .ok (.aload 4, 2) := by decide +kernel
theorem dX5_firstOfShip_21 : decode cX5_firstOfShip 21 = .ok (.getfield 128, 3) := by decide +kernel
theorem dX5_firstOfShip_24 : decode cX5_firstOfShip 24 = .ok (.aload_n 1, 1) := by decide +kernel
theorem dX5_firstOfShip_25 : decode cX5_firstOfShip 25 = .ok (.if_acmp .ne 6, 3) := by decide +kernel
theorem dX5_firstOfShip_28 : decode cX5_firstOfShip 28 = .ok (.aload 4, 2) := by decide +kernel
theorem dX5_firstOfShip_30 : decode cX5_firstOfShip 30 = .ok (.areturn, 1) := by decide +kernel
theorem dX5_firstOfShip_31 : decode cX5_firstOfShip 31 = .ok (.iinc 3 (-1), 3) := by decide +kernel
theorem dX5_firstOfShip_34 : decode cX5_firstOfShip 34 = .ok (.goto (-32), 3) := by decide +kernel
theorem dX5_firstOfShip_37 : decode cX5_firstOfShip 37 = .ok (.aload_n 0, 1) := by decide +kernel
theorem dX5_firstOfShip_38 : decode cX5_firstOfShip 38 = .ok (.getfield 16, 3) := by decide +kernel
theorem dX5_firstOfShip_41 : decode cX5_firstOfShip 41 = .ok (.iconst 0, 1) := by decide +kernel
theorem dX5_firstOfShip_42 : decode cX5_firstOfShip 42 = .ok (.aconst_null, 1) := by decide +kernel
theorem dX5_firstOfShip_43 : decode cX5_firstOfShip 43 = .ok (.aconst_null, 1) := by decide +kernel
theorem dX5_firstOfShip_44 : decode cX5_firstOfShip 44 = .ok (.aload_n 1, 1) := by decide +kernel
theorem dX5_firstOfShip_45 : decode cX5_firstOfShip 45 = .ok (.invokevirtual 30, 3) := by decide +kernel
theorem dX5_firstOfShip_48 : decode cX5_firstOfShip 48 = .ok (.aload_n 0, 1) := by decide +kernel
theorem dX5_firstOfShip_49 : decode cX5_firstOfShip 49 = .ok (.getfield 16, 3) := by decide +kernel
theorem dX5_firstOfShip_52 : decode cX5_firstOfShip 52 = .ok (.areturn, 1) := by decide +kernel
def M_X5_firstOfShip : y_M := (yX5_firstOfShip, cX5_firstOfShip, 5, (Option.some (Jvm.ClassFile.FieldType.object "BoxYard$Act")))
theorem n_X5_firstOfShip : y_N0 M_X5_firstOfShip 2 := ⟨(c_7 82 (by decide +kernel) rfl), (c_1 5 (by decide +kernel) rfl), ⟨by decide +kernel, by decide +kernel⟩, by decide +kernel⟩
theorem F_BoxYard_Journal_128 : y_F "BoxYard$Journal" 128 0 11 := ⟨_, _, _, rfl, by decide, Or.inr ⟨"BoxYard", (c_1 152 (by decide +kernel) rfl)⟩⟩
set_option maxRecDepth 100000 in
def f_X5_firstOfShip (p0 : Nat) (p1 : Nat) (p2 : Int32) (h : y_H) : Option (Nat × y_H) :=
  y_jl (fun (_ : Nat) (_ : Nat) (_ : Int32) (_ : y_H) => (none : Option (Nat × y_H))) (fun j2 (v0_2 : Nat) (v1_2 : Nat) (v3_2 : Int32) (h1 : y_H) =>
      if v3_2 < 1 then
        if y_K h1 v0_2 = 6 then
        if y_K h1 (y_P h1 v0_2 1) = 1 then
        y_cl (f_X0_begin (y_P h1 v0_2 1) 0 0 0 v1_2 h1) (fun _ h2 =>
        if y_K h2 v0_2 = 6 then
        some (y_P h2 v0_2 1, h2)
        else none)
        else none
        else none
      else
        if y_K h1 v0_2 = 6 then
        y_cl (f_X5_fromEnd v0_2 v3_2 h1) (fun r7 h8 =>
        y_jn (fun (v0_31 : Nat) (v1_31 : Nat) (v3_31 : Int32) (h10 : y_H) => (
            j2 v0_31 v1_31 (v3_31 + (-1 : Int32)) h10 : Option (Nat × y_H))) (fun j31 =>
        if r7 = 0 then
          j31 v0_2 v1_2 v3_2 h8
        else
          if y_K h8 r7 = 1 then
          if (y_P h8 r7 11) = v1_2 then
            some (r7, h8)
          else
            j31 v0_2 v1_2 v3_2 h8
          else none))
        else none) (fun j2 =>
  j2 p0 p1 p2 h)
abbrev rm_X5_firstOfShip : Room := { frames := 2, cells := 0, slots := 0, locals := 45 }
set_option maxRecDepth 100000 in
set_option maxHeartbeats 4000000 in
theorem k_X5_firstOfShip {l : Launch} {G : y_G} {p0 : Nat} {p1 : Nat} {p2 : Int32} {h hz : y_H} {rz : Nat} (hf : f_X5_firstOfShip p0 p1 p2 h = some (rz, hz)) : y_S l G M_X5_firstOfShip rm_X5_firstOfShip [y_p p0, y_p p1, .int p2] h (some (y_p rz)) hz := by
  refine y_start (lv := [(0, y_p p0), (1, y_p p1), (2, .int p2)]) (by decide) (by simp [lg_sl, y_p_cat, y_ci, y_cj, M_X5_firstOfShip]) (by simp [lv_args, y_p_cat, y_ci, y_cj]) (fun z ad0 => ?_)
  unfold f_X5_firstOfShip at hf
  refine y_iload_n (pc2 := 1) rfl dX5_firstOfShip_0 rfl ?_
  refine y_jlE hf (fun j => ∀ (v0_2 : Nat) (v1_2 : Nat) (v3_2 : Int32) (h1 : y_H), j v0_2 v1_2 v3_2 h1 = some (rz, hz) → y_V l G z rm_X5_firstOfShip M_X5_firstOfShip ad0 h (some (y_p rz)) hz 2 [(0, y_p v0_2), (1, y_p v1_2), (3, .int v3_2)] [] h1 0 0) (fun _ _ _ _ hf => by cases hf) (fun j2 hj2 v0_2 v1_2 v3_2 h1 hf => ?_) (fun j2 hj2 hf => ?_)
  · refine y_iload_n (pc2 := 3) rfl dX5_firstOfShip_2 rfl ?_
    refine y_iconst (v := 1) (pc2 := 4) rfl dX5_firstOfShip_3 (by decide) ?_
    refine y_icmp_lt (tgt := 37) (pc2 := 7) rfl dX5_firstOfShip_4 (by decide) (fun c15 => ?_) (fun c15 => ?_)
    · replace hf := y_it c15 hf
      refine y_aload_n (x := v0_2) (pc2 := 38) rfl dX5_firstOfShip_37 rfl ?_
      obtain ⟨g6, hf⟩ := y_g hf
      refine y_getP (pc2 := 41) rfl dX5_firstOfShip_38 F_BoxYard_Journal_16 (by decide) rfl g6 ?_
      refine y_iconst (v := 0) (pc2 := 42) rfl dX5_firstOfShip_41 (by decide) ?_
      refine y_null (pc2 := 43) rfl dX5_firstOfShip_42 ?_
      refine y_null (pc2 := 44) rfl dX5_firstOfShip_43 ?_
      refine y_aload_n (x := v1_2) (pc2 := 45) rfl dX5_firstOfShip_44 rfl ?_
      obtain ⟨g5, hf⟩ := y_g hf
      obtain ⟨r_, h2, c3, hf⟩ := y_clE hf
      refine y_callV (As := [.int 0, y_p 0, y_p 0, y_p v1_2]) (rm := rm_X0_begin) (cells := 0) (slots := 0) (pc2 := 48) rfl dX5_firstOfShip_45 n_X0_begin l_BoxYard_Journal_30 i_X0_begin e_X0_begin (ci := 0) rfl rfl (by decide) g5 rfl rfl (by decide) (by decide) (by decide) (k_X0_begin c3) ?_
      refine y_aload_n (x := v0_2) (pc2 := 49) rfl dX5_firstOfShip_48 rfl ?_
      obtain ⟨g4, hf⟩ := y_g hf
      refine y_getP (pc2 := 52) rfl dX5_firstOfShip_49 F_BoxYard_Journal_16 (by decide) rfl g4 ?_
      exact y_aretF hf dX5_firstOfShip_52 rfl (Or.inl ⟨_, rfl⟩) (by decide) (by decide)
    · replace hf := y_ie c15 hf
      refine y_aload_n (x := v0_2) (pc2 := 8) rfl dX5_firstOfShip_7 rfl ?_
      refine y_iload_n (pc2 := 9) rfl dX5_firstOfShip_8 rfl ?_
      obtain ⟨g14, hf⟩ := y_g hf
      obtain ⟨r7, h8, c9, hf⟩ := y_clE hf
      refine y_callV (As := [.int v3_2]) (rm := rm_X5_fromEnd) (cells := 0) (slots := 0) (pc2 := 12) rfl dX5_firstOfShip_9 n_X5_fromEnd l_BoxYard_Journal_120 i_X5_fromEnd e_X5_fromEnd (ci := 5) rfl rfl (by decide) g14 rfl rfl (by decide) (by decide) (by decide) (k_X5_fromEnd c9) ?_
      refine y_astore (lv' := [(4, y_p r7), (0, y_p v0_2), (1, y_p v1_2), (3, .int v3_2)]) (pc2 := 14) rfl dX5_firstOfShip_12 (by decide) rfl ?_
      refine y_aload (x := r7) (pc2 := 16) rfl dX5_firstOfShip_14 rfl ?_
      refine y_jnE hf (fun j => ∀ (v0_31 : Nat) (v1_31 : Nat) (v3_31 : Int32) (h10 : y_H), j v0_31 v1_31 v3_31 h10 = some (rz, hz) → y_V l G z rm_X5_firstOfShip M_X5_firstOfShip ad0 h (some (y_p rz)) hz 31 [(0, y_p v0_31), (1, y_p v1_31), (3, .int v3_31)] [] h10 0 0) (fun v0_31 v1_31 v3_31 h10 hf => ?_) (fun j31 hj31 hf => ?_)
      · refine y_iinc (v := v3_31 + (-1 : Int32)) (lv' := [(3, .int (v3_31 + (-1 : Int32))), (0, y_p v0_31), (1, y_p v1_31)]) (pc2 := 34) rfl dX5_firstOfShip_31 rfl rfl (by decide) rfl ?_
        refine y_goto (tgt := 2) dX5_firstOfShip_34 (by decide) ?_
        exact y_pk [1, 2, 0] rfl (hj2 _ _ _ _ hf)
      · refine y_ifnull (tgt := 31) (pc2 := 19) rfl dX5_firstOfShip_16 (by decide) (fun c13 => ?_) (fun c13 => ?_)
        · replace hf := y_it c13 hf
          exact y_pk [1, 2, 3] rfl (hj31 _ _ _ _ hf)
        · replace hf := y_ie c13 hf
          refine y_aload (x := r7) (pc2 := 21) rfl dX5_firstOfShip_19 rfl ?_
          obtain ⟨g12, hf⟩ := y_g hf
          refine y_getP (pc2 := 24) rfl dX5_firstOfShip_21 F_BoxYard_Journal_128 (by decide) rfl g12 ?_
          refine y_aload_n (x := v1_2) (pc2 := 25) rfl dX5_firstOfShip_24 rfl ?_
          refine y_acmp_ne (tgt := 31) (pc2 := 28) rfl dX5_firstOfShip_25 (by decide) (fun c11 => ?_) (fun c11 => ?_)
          · replace hf := y_ie c11 hf
            exact y_pk [1, 2, 3] rfl (hj31 _ _ _ _ hf)
          · replace hf := y_it c11 hf
            refine y_aload (x := r7) (pc2 := 30) rfl dX5_firstOfShip_28 rfl ?_
            exact y_aretF hf dX5_firstOfShip_30 rfl (Or.inl ⟨_, rfl⟩) (by decide) (by decide)
  · refine y_istore_n (lv' := [(3, .int p2), (0, y_p p0), (1, y_p p1), (2, .int p2)]) (pc2 := 2) rfl dX5_firstOfShip_1 (by decide) rfl ?_
    exact y_pk [1, 2, 0] rfl (hj2 _ _ _ _ hf)
theorem dX5_digestBefore_0 : decode cX5_digestBefore 0 = .ok (.ldc2_w 34, 3) := by decide +kernel
theorem dX5_digestBefore_3 : decode cX5_digestBefore 3 = .ok (.lstore_n 3, 1) := by decide +kernel
theorem dX5_digestBefore_4 : decode cX5_digestBefore 4 = .ok (.iconst 0, 1) := by decide +kernel
theorem dX5_digestBefore_5 : decode cX5_digestBefore 5 = .ok (.istore 5, 2) := by decide +kernel
theorem dX5_digestBefore_7 : decode cX5_digestBefore 7 = .ok (.iload 5, 2) := by decide +kernel
theorem dX5_digestBefore_9 : decode cX5_digestBefore 9 = .ok (.aload_n 1, 1) := by decide +kernel
theorem dX5_digestBefore_10 : decode cX5_digestBefore 10 = .ok (.getfield 36, 3) := by decide +kernel
theorem dX5_digestBefore_13 : decode cX5_digestBefore 13 = .ok (.if_icmp .ge 107, 3) := by decide +kernel
theorem dX5_digestBefore_16 : decode cX5_digestBefore 16 = .ok (.aload_n 0, 1) := by decide +kernel
theorem dX5_digestBefore_17 : decode cX5_digestBefore 17 = .ok (.aload_n 1, 1) := by decide +kernel
theorem dX5_digestBefore_18 : decode cX5_digestBefore 18 = .ok (.iload 5, 2) := by decide +kernel
theorem dX5_digestBefore_20 : decode cX5_digestBefore 20 = .ok (.invokevirtual 41, 3) := by decide +kernel
theorem dX5_digestBefore_23 : decode cX5_digestBefore 23 = .ok (.iload_n 2, 1) := by decide +kernel
theorem dX5_digestBefore_24 : decode cX5_digestBefore 24 = .ok (.invokevirtual 45, 3) := by decide +kernel
theorem dX5_digestBefore_27 : decode cX5_digestBefore 27 = .ok (.astore 6, 2) := by decide +kernel
theorem dX5_digestBefore_29 : decode cX5_digestBefore 29 = .ok (.aload 6, 2) := by decide +kernel
theorem dX5_digestBefore_31 : decode cX5_digestBefore 31 = .ok (.ifnull 83, 3) := by decide +kernel
theorem dX5_digestBefore_34 : decode cX5_digestBefore 34 = .ok (.aload 6, 2) := by decide +kernel
theorem dX5_digestBefore_36 : decode cX5_digestBefore 36 = .ok (.getfield 49, 3) := by decide +kernel
theorem dX5_digestBefore_39 : decode cX5_digestBefore 39 = .ok (.ifnull 75, 3) := by decide +kernel
theorem dX5_digestBefore_42 : decode cX5_digestBefore 42 = .ok (.lload_n 3, 1) := by decide +kernel
theorem dX5_digestBefore_43 : decode cX5_digestBefore 43 = .ok (.aload 6, 2) := by decide +kernel
theorem dX5_digestBefore_45 : decode cX5_digestBefore 45 = .ok (.getfield 53, 3) := by decide +kernel
theorem dX5_digestBefore_48 : decode cX5_digestBefore 48 = .ok (.invokestatic 56, 3) := by decide +kernel
theorem dX5_digestBefore_51 : decode cX5_digestBefore 51 = .ok (.lstore_n 3, 1) := by decide +kernel
theorem dX5_digestBefore_52 : decode cX5_digestBefore 52 = .ok (.lload_n 3, 1) := by decide +kernel
theorem dX5_digestBefore_53 : decode cX5_digestBefore 53 = .ok (.aload 6, 2) := by decide +kernel
theorem dX5_digestBefore_55 : decode cX5_digestBefore 55 = .ok (.getfield 60, 3) := by decide +kernel
theorem dX5_digestBefore_58 : decode cX5_digestBefore 58 = .ok (.invokestatic 56, 3) := by decide +kernel
theorem dX5_digestBefore_61 : decode cX5_digestBefore 61 = .ok (.lstore_n 3, 1) := by decide +kernel
theorem dX5_digestBefore_62 : decode cX5_digestBefore 62 = .ok (.lload_n 3, 1) := by decide +kernel
theorem dX5_digestBefore_63 : decode cX5_digestBefore 63 = .ok (.aload 6, 2) := by decide +kernel
theorem dX5_digestBefore_65 : decode cX5_digestBefore 65 = .ok (.getfield 63, 3) := by decide +kernel
theorem dX5_digestBefore_68 : decode cX5_digestBefore 68 = .ok (.invokestatic 56, 3) := by decide +kernel
theorem dX5_digestBefore_71 : decode cX5_digestBefore 71 = .ok (.lstore_n 3, 1) := by decide +kernel
theorem dX5_digestBefore_72 : decode cX5_digestBefore 72 = .ok (.lload_n 3, 1) := by decide +kernel
theorem dX5_digestBefore_73 : decode cX5_digestBefore 73 = .ok (.aload 6, 2) := by decide +kernel
theorem dX5_digestBefore_75 : decode cX5_digestBefore 75 = .ok (.getfield 66, 3) := by decide +kernel
theorem dX5_digestBefore_78 : decode cX5_digestBefore 78 = .ok (.invokestatic 56, 3) := by decide +kernel
theorem dX5_digestBefore_81 : decode cX5_digestBefore 81 = .ok (.lstore_n 3, 1) := by decide +kernel
theorem dX5_digestBefore_82 : decode cX5_digestBefore 82 = .ok (.lload_n 3, 1) := by decide +kernel
theorem dX5_digestBefore_83 : decode cX5_digestBefore 83 = .ok (.aload 6, 2) := by decide +kernel
theorem dX5_digestBefore_85 : decode cX5_digestBefore 85 = .ok (.getfield 69, 3) := by decide +kernel
theorem dX5_digestBefore_88 : decode cX5_digestBefore 88 = .ok (.ifCond .eq 14, 3) := by decide +kernel
theorem dX5_digestBefore_91 : decode cX5_digestBefore 91 = .ok (.aload 6, 2) := by decide +kernel
theorem dX5_digestBefore_93 : decode cX5_digestBefore 93 = .ok (.getfield 49, 3) := by decide +kernel
theorem dX5_digestBefore_96 : decode cX5_digestBefore 96 = .ok (.getfield 73, 3) := by decide +kernel
theorem dX5_digestBefore_99 : decode cX5_digestBefore 99 = .ok (.goto 11, 3) := by decide +kernel
theorem dX5_digestBefore_102 : decode cX5_digestBefore 102 = .ok (.aload 6, 2) := by decide +kernel
theorem dX5_digestBefore_104 : decode cX5_digestBefore 104 = .ok (.getfield 49, 3) := by decide +kernel
theorem dX5_digestBefore_107 : decode cX5_digestBefore 107 = .ok (.getfield 78, 3) := by decide +kernel
theorem dX5_digestBefore_110 : decode cX5_digestBefore 110 = .ok (.invokestatic 56, 3) := by decide +kernel
theorem dX5_digestBefore_113 : decode cX5_digestBefore 113 = .ok (.lstore_n 3, 1) := by decide +kernel
theorem dX5_digestBefore_114 : decode cX5_digestBefore 114 = .ok (.iinc 5 1, 3) := by decide +kernel
theorem dX5_digestBefore_117 : decode cX5_digestBefore 117 = .ok (.goto (-110), 3) := by decide +kernel
theorem dX5_digestBefore_120 : decode cX5_digestBefore 120 = .ok (.iconst 0, 1) := by decide +kernel
theorem dX5_digestBefore_121 : decode cX5_digestBefore 121 = .ok (.istore 5, 2) := by decide +kernel
theorem dX5_digestBefore_123 : decode cX5_digestBefore 123 = .ok (.iload 5, 2) := by decide +kernel
theorem dX5_digestBefore_125 : decode cX5_digestBefore 125 = .ok (.aload_n 1, 1) := by decide +kernel
theorem dX5_digestBefore_126 : decode cX5_digestBefore 126 = .ok (.getfield 81, 3) := by decide +kernel
theorem dX5_digestBefore_129 : decode cX5_digestBefore 129 = .ok (.if_icmp .ge 52, 3) := by decide +kernel
theorem dX5_digestBefore_132 : decode cX5_digestBefore 132 = .ok (.aload_n 0, 1) := by decide +kernel
theorem dX5_digestBefore_133 : decode cX5_digestBefore 133 = .ok (.aload_n 1, 1) := by decide +kernel
theorem dX5_digestBefore_134 : decode cX5_digestBefore 134 = .ok (.iload 5, 2) := by decide +kernel
theorem dX5_digestBefore_136 : decode cX5_digestBefore 136 = .ok (.invokevirtual 84, 3) := by decide +kernel
theorem dX5_digestBefore_139 : decode cX5_digestBefore 139 = .ok (.iload_n 2, 1) := by decide +kernel
theorem dX5_digestBefore_140 : decode cX5_digestBefore 140 = .ok (.invokevirtual 88, 3) := by decide +kernel
theorem dX5_digestBefore_143 : decode cX5_digestBefore 143 = .ok (.astore 6, 2) := by decide +kernel
theorem dX5_digestBefore_145 : decode cX5_digestBefore 145 = .ok (.lload_n 3, 1) := by decide +kernel
theorem dX5_digestBefore_146 : decode cX5_digestBefore 146 = .ok (.aload 6, 2) := by decide +kernel
theorem dX5_digestBefore_148 : decode cX5_digestBefore 148 = .ok (.getfield 92, 3) := by decide +kernel
theorem dX5_digestBefore_151 : decode cX5_digestBefore 151 = .ok (.invokestatic 56, 3) := by decide +kernel
theorem dX5_digestBefore_154 : decode cX5_digestBefore 154 = .ok (.lstore_n 3, 1) := by decide +kernel
theorem dX5_digestBefore_155 : decode cX5_digestBefore 155 = .ok (.lload_n 3, 1) := by decide +kernel
theorem dX5_digestBefore_156 : decode cX5_digestBefore 156 = .ok (.aload 6, 2) := by decide +kernel
theorem dX5_digestBefore_158 : decode cX5_digestBefore 158 = .ok (.getfield 95, 3) := by decide +kernel
theorem dX5_digestBefore_161 : decode cX5_digestBefore 161 = .ok (.invokestatic 56, 3) := by decide +kernel
theorem dX5_digestBefore_164 : decode cX5_digestBefore 164 = .ok (.lstore_n 3, 1) := by decide +kernel
theorem dX5_digestBefore_165 : decode cX5_digestBefore 165 = .ok (.lload_n 3, 1) := by decide +kernel
theorem dX5_digestBefore_166 : decode cX5_digestBefore 166 = .ok (.aload 6, 2) := by decide +kernel
theorem dX5_digestBefore_168 : decode cX5_digestBefore 168 = .ok (.getfield 98, 3) := by decide +kernel
theorem dX5_digestBefore_171 : decode cX5_digestBefore 171 = .ok (.invokestatic 56, 3) := by decide +kernel
theorem dX5_digestBefore_174 : decode cX5_digestBefore 174 = .ok (.lstore_n 3, 1) := by decide +kernel
theorem dX5_digestBefore_175 : decode cX5_digestBefore 175 = .ok (.iinc 5 1, 3) := by decide +kernel
theorem dX5_digestBefore_178 : decode cX5_digestBefore 178 = .ok (.goto (-55), 3) := by decide +kernel
theorem dX5_digestBefore_181 : decode cX5_digestBefore 181 = .ok (.iconst 0, 1) := by decide +kernel
theorem dX5_digestBefore_182 : decode cX5_digestBefore 182 = .ok (.istore 5, 2) := by decide +kernel
theorem dX5_digestBefore_184 : decode cX5_digestBefore 184 = .ok (.iload 5, 2) := by decide +kernel
theorem dX5_digestBefore_186 : decode cX5_digestBefore 186 = .ok (.aload_n 1, 1) := by decide +kernel
theorem dX5_digestBefore_187 : decode cX5_digestBefore 187 = .ok (.getfield 101, 3) := by decide +kernel
theorem dX5_digestBefore_190 : decode cX5_digestBefore 190 = .ok (.if_icmp .ge 42, 3) := by decide +kernel
theorem dX5_digestBefore_193 : decode cX5_digestBefore 193 = .ok (.aload_n 0, 1) := by decide +kernel
theorem dX5_digestBefore_194 : decode cX5_digestBefore 194 = .ok (.aload_n 1, 1) := by decide +kernel
theorem dX5_digestBefore_195 : decode cX5_digestBefore 195 = .ok (.iload 5, 2) := by decide +kernel
theorem dX5_digestBefore_197 : decode cX5_digestBefore 197 = .ok (.invokevirtual 104, 3) := by decide +kernel
theorem dX5_digestBefore_200 : decode cX5_digestBefore 200 = .ok (.iload_n 2, 1) := by decide +kernel
theorem dX5_digestBefore_201 : decode cX5_digestBefore 201 = .ok (.invokevirtual 108, 3) := by decide +kernel
theorem dX5_digestBefore_204 : decode cX5_digestBefore 204 = .ok (.astore 6, 2) := by decide +kernel
theorem dX5_digestBefore_206 : decode cX5_digestBefore 206 = .ok (.lload_n 3, 1) := by decide +kernel
theorem dX5_digestBefore_207 : decode cX5_digestBefore 207 = .ok (.aload 6, 2) := by decide +kernel
theorem dX5_digestBefore_209 : decode cX5_digestBefore 209 = .ok (.getfield 112, 3) := by decide +kernel
theorem dX5_digestBefore_212 : decode cX5_digestBefore 212 = .ok (.invokestatic 56, 3) := by decide +kernel
theorem dX5_digestBefore_215 : decode cX5_digestBefore 215 = .ok (.lstore_n 3, 1) := by decide +kernel
theorem dX5_digestBefore_216 : decode cX5_digestBefore 216 = .ok (.lload_n 3, 1) := by decide +kernel
theorem dX5_digestBefore_217 : decode cX5_digestBefore 217 = .ok (.aload 6, 2) := by decide +kernel
theorem dX5_digestBefore_219 : decode cX5_digestBefore 219 = .ok (.getfield 115, 3) := by decide +kernel
theorem dX5_digestBefore_222 : decode cX5_digestBefore 222 = .ok (.invokestatic 56, 3) := by decide +kernel
theorem dX5_digestBefore_225 : decode cX5_digestBefore 225 = .ok (.lstore_n 3, 1) := by decide +kernel
theorem dX5_digestBefore_226 : decode cX5_digestBefore 226 = .ok (.iinc 5 1, 3) := by decide +kernel
theorem dX5_digestBefore_229 : decode cX5_digestBefore 229 = .ok (.goto (-45), 3) := by decide +kernel
theorem dX5_digestBefore_232 : decode cX5_digestBefore 232 = .ok (.lload_n 3, 1) := by decide +kernel
theorem dX5_digestBefore_233 : decode cX5_digestBefore 233 = .ok (.lreturn, 1) := by decide +kernel
def M_X5_digestBefore : y_M := (yX5_digestBefore, cX5_digestBefore, 7, (Option.some Jvm.ClassFile.FieldType.long))
theorem n_X5_digestBefore : y_N0 M_X5_digestBefore 2 := ⟨(c_7 57 (by decide +kernel) rfl), (c_1 5 (by decide +kernel) rfl), ⟨by decide +kernel, by decide +kernel⟩, by decide +kernel⟩
theorem k_BoxYard_Journal_34 : Cond.constantLong "BoxYard$Journal" 34 17 ∈ y_tb := (c_7 58 (by decide +kernel) rfl)
theorem F_BoxYard_Journal_36 : y_F "BoxYard$Journal" 36 10 1 := ⟨_, _, _, rfl, by decide, Or.inr ⟨"BoxYard", (c_1 59 (by decide +kernel) rfl)⟩⟩
theorem F_BoxYard_Journal_81 : y_F "BoxYard$Journal" 81 10 4 := ⟨_, _, _, rfl, by decide, Or.inr ⟨"BoxYard", (c_1 64 (by decide +kernel) rfl)⟩⟩
theorem F_BoxYard_Journal_101 : y_F "BoxYard$Journal" 101 10 6 := ⟨_, _, _, rfl, by decide, Or.inr ⟨"BoxYard", (c_1 68 (by decide +kernel) rfl)⟩⟩
theorem l_BoxYard_Journal_104 : y_lnk "BoxYard$Journal" 104 M_X10_shipAt := Or.inl (c_7 78 (by decide +kernel) rfl)
theorem i_X10_shipAt : Cond.instanceMethod (M_X10_shipAt).1 ∈ y_tb := (c_4 29 (by decide +kernel) rfl)
theorem e_X10_shipAt : Cond.selects (M_X10_shipAt).1.cls (M_X10_shipAt).1 (M_X10_shipAt).1 ∈ y_tb := (c_4 30 (by decide +kernel) rfl)
theorem l_BoxYard_Journal_108 : y_lnk "BoxYard$Journal" 108 M_X5_firstOfShip := Or.inl (c_7 79 (by decide +kernel) rfl)
theorem i_X5_firstOfShip : Cond.instanceMethod (M_X5_firstOfShip).1 ∈ y_tb := (c_7 81 (by decide +kernel) rfl)
theorem e_X5_firstOfShip : Cond.selects (M_X5_firstOfShip).1.cls (M_X5_firstOfShip).1 (M_X5_firstOfShip).1 ∈ y_tb := (m_s 55 (by decide +kernel) rfl)
theorem F_BoxYard_Journal_112 : y_F "BoxYard$Journal" 112 0 12 := ⟨_, _, _, rfl, by decide, Or.inr ⟨"BoxYard", (c_1 155 (by decide +kernel) rfl)⟩⟩
theorem l_BoxYard_Journal_56 : y_lnk "BoxYard$Journal" 56 M_X5_mixed := Or.inl (c_7 69 (by decide +kernel) rfl)
theorem t_X5_mixed : Cond.static (M_X5_mixed).1 ∈ y_tb := (c_7 70 (by decide +kernel) rfl)
theorem F_BoxYard_Journal_115 : y_F "BoxYard$Journal" 115 0 13 := ⟨_, _, _, rfl, by decide, Or.inr ⟨"BoxYard", (c_1 158 (by decide +kernel) rfl)⟩⟩
theorem l_BoxYard_Journal_84 : y_lnk "BoxYard$Journal" 84 M_X10_craneAt := Or.inl (c_7 73 (by decide +kernel) rfl)
theorem i_X10_craneAt : Cond.instanceMethod (M_X10_craneAt).1 ∈ y_tb := (c_3 161 (by decide +kernel) rfl)
theorem e_X10_craneAt : Cond.selects (M_X10_craneAt).1.cls (M_X10_craneAt).1 (M_X10_craneAt).1 ∈ y_tb := (c_3 162 (by decide +kernel) rfl)
theorem l_BoxYard_Journal_88 : y_lnk "BoxYard$Journal" 88 M_X5_firstOfCrane := Or.inl (c_7 74 (by decide +kernel) rfl)
theorem i_X5_firstOfCrane : Cond.instanceMethod (M_X5_firstOfCrane).1 ∈ y_tb := (c_7 76 (by decide +kernel) rfl)
theorem e_X5_firstOfCrane : Cond.selects (M_X5_firstOfCrane).1.cls (M_X5_firstOfCrane).1 (M_X5_firstOfCrane).1 ∈ y_tb := (m_s 54 (by decide +kernel) rfl)
theorem F_BoxYard_Journal_92 : y_F "BoxYard$Journal" 92 0 8 := ⟨_, _, _, rfl, by decide, Or.inr ⟨"BoxYard", (c_1 144 (by decide +kernel) rfl)⟩⟩
theorem F_BoxYard_Journal_95 : y_F "BoxYard$Journal" 95 0 9 := ⟨_, _, _, rfl, by decide, Or.inr ⟨"BoxYard", (c_1 147 (by decide +kernel) rfl)⟩⟩
theorem F_BoxYard_Journal_98 : y_F "BoxYard$Journal" 98 0 10 := ⟨_, _, _, rfl, by decide, Or.inr ⟨"BoxYard", (c_1 149 (by decide +kernel) rfl)⟩⟩
theorem l_BoxYard_Journal_41 : y_lnk "BoxYard$Journal" 41 M_X10_boxAt := Or.inl (c_7 59 (by decide +kernel) rfl)
theorem i_X10_boxAt : Cond.instanceMethod (M_X10_boxAt).1 ∈ y_tb := (c_2 215 (by decide +kernel) rfl)
theorem e_X10_boxAt : Cond.selects (M_X10_boxAt).1.cls (M_X10_boxAt).1 (M_X10_boxAt).1 ∈ y_tb := (c_2 216 (by decide +kernel) rfl)
theorem l_BoxYard_Journal_45 : y_lnk "BoxYard$Journal" 45 M_X5_firstOfBox := Or.inl (c_7 60 (by decide +kernel) rfl)
theorem i_X5_firstOfBox : Cond.instanceMethod (M_X5_firstOfBox).1 ∈ y_tb := (c_7 62 (by decide +kernel) rfl)
theorem e_X5_firstOfBox : Cond.selects (M_X5_firstOfBox).1.cls (M_X5_firstOfBox).1 (M_X5_firstOfBox).1 ∈ y_tb := (m_s 52 (by decide +kernel) rfl)
theorem F_BoxYard_Journal_53 : y_F "BoxYard$Journal" 53 0 2 := ⟨_, _, _, rfl, by decide, Or.inr ⟨"BoxYard", (c_1 126 (by decide +kernel) rfl)⟩⟩
theorem F_BoxYard_Journal_60 : y_F "BoxYard$Journal" 60 0 3 := ⟨_, _, _, rfl, by decide, Or.inr ⟨"BoxYard", (c_1 129 (by decide +kernel) rfl)⟩⟩
theorem F_BoxYard_Journal_63 : y_F "BoxYard$Journal" 63 0 4 := ⟨_, _, _, rfl, by decide, Or.inr ⟨"BoxYard", (c_1 132 (by decide +kernel) rfl)⟩⟩
theorem F_BoxYard_Journal_66 : y_F "BoxYard$Journal" 66 0 5 := ⟨_, _, _, rfl, by decide, Or.inr ⟨"BoxYard", (c_1 135 (by decide +kernel) rfl)⟩⟩
theorem F_BoxYard_Journal_69 : y_F "BoxYard$Journal" 69 0 6 := ⟨_, _, _, rfl, by decide, Or.inr ⟨"BoxYard", (c_1 138 (by decide +kernel) rfl)⟩⟩
theorem F_BoxYard_Journal_78 : y_F "BoxYard$Journal" 78 2 2 := ⟨_, _, _, rfl, by decide, Or.inr ⟨"BoxYard", (c_2 118 (by decide +kernel) rfl)⟩⟩
theorem F_BoxYard_Journal_73 : y_F "BoxYard$Journal" 73 2 3 := ⟨_, _, _, rfl, by decide, Or.inr ⟨"BoxYard", (c_2 120 (by decide +kernel) rfl)⟩⟩
set_option maxRecDepth 100000 in
def f_X5_digestBefore (p0 : Nat) (p1 : Nat) (p2 : Int32) (h : y_H) : Option (Int64 × y_H) :=
  y_jl (fun (_ : Nat) (_ : Nat) (_ : Int32) (_ : Int64) (_ : Int32) (_ : y_H) => (none : Option (Int64 × y_H))) (fun j7 (v0_7 : Nat) (v1_7 : Nat) (v2_7 : Int32) (v3_7 : Int64) (v5_7 : Int32) (h1 : y_H) =>
      if y_K h1 v1_7 = 11 then
      if (y_I h1 v1_7 1) ≤ v5_7 then
        y_jl (fun (_ : Nat) (_ : Nat) (_ : Int32) (_ : Int64) (_ : Int32) (_ : y_H) => (none : Option (Int64 × y_H))) (fun j123 (v0_123 : Nat) (v1_123 : Nat) (v2_123 : Int32) (v3_123 : Int64) (v5_123 : Int32) (h2 : y_H) =>
            if y_K h2 v1_123 = 11 then
            if (y_I h2 v1_123 4) ≤ v5_123 then
              y_jl (fun (_ : Nat) (_ : Nat) (_ : Int32) (_ : Int64) (_ : Int32) (_ : y_H) => (none : Option (Int64 × y_H))) (fun j184 (v0_184 : Nat) (v1_184 : Nat) (v2_184 : Int32) (v3_184 : Int64) (v5_184 : Int32) (h3 : y_H) =>
                  if y_K h3 v1_184 = 11 then
                  if (y_I h3 v1_184 6) ≤ v5_184 then
                    some (v3_184, h3)
                  else
                    if y_K h3 v1_184 = 11 then
                    y_cl (f_X10_shipAt v1_184 v5_184 h3) (fun r4 h5 =>
                    if y_K h5 v0_184 = 6 then
                    y_cl (f_X5_firstOfShip v0_184 r4 v2_184 h5) (fun r7 h8 =>
                    if y_K h8 r7 = 1 then
                    y_cl (f_X5_mixed v3_184 (y_I h8 r7 12) h8) (fun r10 h11 =>
                    if y_K h11 r7 = 1 then
                    y_cl (f_X5_mixed r10 (y_I h11 r7 13) h11) (fun r13 h14 =>
                    j184 v0_184 v1_184 v2_184 r13 (v5_184 + 1) h14)
                    else none)
                    else none)
                    else none)
                    else none
                  else none) (fun j184 =>
              j184 v0_123 v1_123 v2_123 v3_123 0 h2)
            else
              if y_K h2 v1_123 = 11 then
              y_cl (f_X10_craneAt v1_123 v5_123 h2) (fun r22 h23 =>
              if y_K h23 v0_123 = 6 then
              y_cl (f_X5_firstOfCrane v0_123 r22 v2_123 h23) (fun r25 h26 =>
              if y_K h26 r25 = 1 then
              y_cl (f_X5_mixed v3_123 (y_I h26 r25 8) h26) (fun r28 h29 =>
              if y_K h29 r25 = 1 then
              y_cl (f_X5_mixed r28 (y_I h29 r25 9) h29) (fun r31 h32 =>
              if y_K h32 r25 = 1 then
              y_cl (f_X5_mixed r31 (y_I h32 r25 10) h32) (fun r34 h35 =>
              j123 v0_123 v1_123 v2_123 r34 (v5_123 + 1) h35)
              else none)
              else none)
              else none)
              else none)
              else none
            else none) (fun j123 =>
        j123 v0_7 v1_7 v2_7 v3_7 0 h1)
      else
        if y_K h1 v1_7 = 11 then
        y_cl (f_X10_boxAt v1_7 v5_7 h1) (fun r44 h45 =>
        if y_K h45 v0_7 = 6 then
        y_cl (f_X5_firstOfBox v0_7 r44 v2_7 h45) (fun r47 h48 =>
        y_jn (fun (v0_114 : Nat) (v1_114 : Nat) (v2_114 : Int32) (v3_114 : Int64) (v5_114 : Int32) (h50 : y_H) => (
            j7 v0_114 v1_114 v2_114 v3_114 (v5_114 + 1) h50 : Option (Int64 × y_H))) (fun j114 =>
        if r47 = 0 then
          j114 v0_7 v1_7 v2_7 v3_7 v5_7 h48
        else
          if y_K h48 r47 = 1 then
          if (y_P h48 r47 1) = 0 then
            j114 v0_7 v1_7 v2_7 v3_7 v5_7 h48
          else
            if y_K h48 r47 = 1 then
            y_cl (f_X5_mixed v3_7 (y_I h48 r47 2) h48) (fun r51 h52 =>
            if y_K h52 r47 = 1 then
            y_cl (f_X5_mixed r51 (y_I h52 r47 3) h52) (fun r54 h55 =>
            if y_K h55 r47 = 1 then
            y_cl (f_X5_mixed r54 (y_I h55 r47 4) h55) (fun r57 h58 =>
            if y_K h58 r47 = 1 then
            y_cl (f_X5_mixed r57 (y_I h58 r47 5) h58) (fun r60 h61 =>
            if y_K h61 r47 = 1 then
            if (y_B h61 r47 6) = true then
              if y_K h61 r47 = 1 then
              if y_K h61 (y_P h61 r47 1) = 3 then
              y_cl (f_X5_mixed r60 (y_I h61 (y_P h61 r47 1) 3) h61) (fun r68 h69 =>
              j114 v0_7 v1_7 v2_7 r68 v5_7 h69)
              else none
              else none
            else
              if y_K h61 r47 = 1 then
              if y_K h61 (y_P h61 r47 1) = 3 then
              y_cl (f_X5_mixed r60 (y_I h61 (y_P h61 r47 1) 2) h61) (fun r63 h64 =>
              j114 v0_7 v1_7 v2_7 r63 v5_7 h64)
              else none
              else none
            else none)
            else none)
            else none)
            else none)
            else none
          else none))
        else none)
        else none
      else none) (fun j7 =>
  j7 p0 p1 p2 17 0 h)
abbrev rm_X5_digestBefore : Room := { frames := 3, cells := 0, slots := 0, locals := 69 }
set_option maxRecDepth 100000 in
set_option maxHeartbeats 4000000 in
theorem k_X5_digestBefore {l : Launch} {G : y_G} {p0 : Nat} {p1 : Nat} {p2 : Int32} {h hz : y_H} {rz : Int64} (hf : f_X5_digestBefore p0 p1 p2 h = some (rz, hz)) : y_S l G M_X5_digestBefore rm_X5_digestBefore [y_p p0, y_p p1, .int p2] h (some (.long rz)) hz := by
  refine y_start (lv := [(0, y_p p0), (1, y_p p1), (2, .int p2)]) (by decide) (by simp [lg_sl, y_p_cat, y_ci, y_cj, M_X5_digestBefore]) (by simp [lv_args, y_p_cat, y_ci, y_cj]) (fun z ad0 => ?_)
  unfold f_X5_digestBefore at hf
  refine y_ldc2 (v := 17) (pc2 := 3) rfl dX5_digestBefore_0 k_BoxYard_Journal_34 ?_
  refine y_lstore_n (lv' := [(3, .long 17), (0, y_p p0), (1, y_p p1), (2, .int p2)]) (pc2 := 4) rfl dX5_digestBefore_3 (by decide) rfl ?_
  refine y_iconst (v := 0) (pc2 := 5) rfl dX5_digestBefore_4 (by decide) ?_
  refine y_jlE hf (fun j => ∀ (v0_7 : Nat) (v1_7 : Nat) (v2_7 : Int32) (v3_7 : Int64) (v5_7 : Int32) (h1 : y_H), j v0_7 v1_7 v2_7 v3_7 v5_7 h1 = some (rz, hz) → y_V l G z rm_X5_digestBefore M_X5_digestBefore ad0 h (some (.long rz)) hz 7 [(0, y_p v0_7), (1, y_p v1_7), (2, .int v2_7), (3, .long v3_7), (5, .int v5_7)] [] h1 0 0) (fun _ _ _ _ _ _ hf => by cases hf) (fun j7 hj7 v0_7 v1_7 v2_7 v3_7 v5_7 h1 hf => ?_) (fun j7 hj7 hf => ?_)
  · refine y_iload (pc2 := 9) rfl dX5_digestBefore_7 rfl ?_
    refine y_aload_n (x := v1_7) (pc2 := 10) rfl dX5_digestBefore_9 rfl ?_
    obtain ⟨g85, hf⟩ := y_g hf
    refine y_getI (pc2 := 13) rfl dX5_digestBefore_10 F_BoxYard_Journal_36 (by decide) rfl g85 ?_
    refine y_icmp_ge (tgt := 120) (pc2 := 16) rfl dX5_digestBefore_13 (by decide) (fun c84 => ?_) (fun c84 => ?_)
    · replace hf := y_it c84 hf
      refine y_iconst (v := 0) (pc2 := 121) rfl dX5_digestBefore_120 (by decide) ?_
      refine y_jlE hf (fun j => ∀ (v0_123 : Nat) (v1_123 : Nat) (v2_123 : Int32) (v3_123 : Int64) (v5_123 : Int32) (h2 : y_H), j v0_123 v1_123 v2_123 v3_123 v5_123 h2 = some (rz, hz) → y_V l G z rm_X5_digestBefore M_X5_digestBefore ad0 h (some (.long rz)) hz 123 [(0, y_p v0_123), (1, y_p v1_123), (2, .int v2_123), (3, .long v3_123), (5, .int v5_123)] [] h2 0 0) (fun _ _ _ _ _ _ hf => by cases hf) (fun j123 hj123 v0_123 v1_123 v2_123 v3_123 v5_123 h2 hf => ?_) (fun j123 hj123 hf => ?_)
      · refine y_iload (pc2 := 125) rfl dX5_digestBefore_123 rfl ?_
        refine y_aload_n (x := v1_123) (pc2 := 126) rfl dX5_digestBefore_125 rfl ?_
        obtain ⟨g43, hf⟩ := y_g hf
        refine y_getI (pc2 := 129) rfl dX5_digestBefore_126 F_BoxYard_Journal_81 (by decide) rfl g43 ?_
        refine y_icmp_ge (tgt := 181) (pc2 := 132) rfl dX5_digestBefore_129 (by decide) (fun c42 => ?_) (fun c42 => ?_)
        · replace hf := y_it c42 hf
          refine y_iconst (v := 0) (pc2 := 182) rfl dX5_digestBefore_181 (by decide) ?_
          refine y_jlE hf (fun j => ∀ (v0_184 : Nat) (v1_184 : Nat) (v2_184 : Int32) (v3_184 : Int64) (v5_184 : Int32) (h3 : y_H), j v0_184 v1_184 v2_184 v3_184 v5_184 h3 = some (rz, hz) → y_V l G z rm_X5_digestBefore M_X5_digestBefore ad0 h (some (.long rz)) hz 184 [(0, y_p v0_184), (1, y_p v1_184), (2, .int v2_184), (3, .long v3_184), (5, .int v5_184)] [] h3 0 0) (fun _ _ _ _ _ _ hf => by cases hf) (fun j184 hj184 v0_184 v1_184 v2_184 v3_184 v5_184 h3 hf => ?_) (fun j184 hj184 hf => ?_)
          · refine y_iload (pc2 := 186) rfl dX5_digestBefore_184 rfl ?_
            refine y_aload_n (x := v1_184) (pc2 := 187) rfl dX5_digestBefore_186 rfl ?_
            obtain ⟨g21, hf⟩ := y_g hf
            refine y_getI (pc2 := 190) rfl dX5_digestBefore_187 F_BoxYard_Journal_101 (by decide) rfl g21 ?_
            refine y_icmp_ge (tgt := 232) (pc2 := 193) rfl dX5_digestBefore_190 (by decide) (fun c20 => ?_) (fun c20 => ?_)
            · replace hf := y_it c20 hf
              refine y_lload_n (pc2 := 233) rfl dX5_digestBefore_232 rfl ?_
              exact y_lretF hf dX5_digestBefore_233 rfl (by decide) (by decide)
            · replace hf := y_ie c20 hf
              refine y_aload_n (x := v0_184) (pc2 := 194) rfl dX5_digestBefore_193 rfl ?_
              refine y_aload_n (x := v1_184) (pc2 := 195) rfl dX5_digestBefore_194 rfl ?_
              refine y_iload (pc2 := 197) rfl dX5_digestBefore_195 rfl ?_
              obtain ⟨g19, hf⟩ := y_g hf
              obtain ⟨r4, h5, c6, hf⟩ := y_clE hf
              refine y_callV (As := [.int v5_184]) (rm := rm_X10_shipAt) (cells := 0) (slots := 0) (pc2 := 200) rfl dX5_digestBefore_197 n_X10_shipAt l_BoxYard_Journal_104 i_X10_shipAt e_X10_shipAt (ci := 10) rfl rfl (by decide) g19 rfl rfl (by decide) (by simp [y_ci, y_cj, y_p_cat]) (by decide) (k_X10_shipAt c6) ?_
              refine y_iload_n (pc2 := 201) rfl dX5_digestBefore_200 rfl ?_
              obtain ⟨g18, hf⟩ := y_g hf
              obtain ⟨r7, h8, c9, hf⟩ := y_clE hf
              refine y_callV (As := [y_p r4, .int v2_184]) (rm := rm_X5_firstOfShip) (cells := 0) (slots := 0) (pc2 := 204) rfl dX5_digestBefore_201 n_X5_firstOfShip l_BoxYard_Journal_108 i_X5_firstOfShip e_X5_firstOfShip (ci := 5) rfl rfl (by decide) g18 rfl rfl (by decide) (by decide) (by decide) (k_X5_firstOfShip c9) ?_
              refine y_astore (lv' := [(6, y_p r7), (0, y_p v0_184), (1, y_p v1_184), (2, .int v2_184), (3, .long v3_184), (5, .int v5_184)]) (pc2 := 206) rfl dX5_digestBefore_204 (by decide) rfl ?_
              refine y_lload_n (pc2 := 207) rfl dX5_digestBefore_206 rfl ?_
              refine y_aload (x := r7) (pc2 := 209) rfl dX5_digestBefore_207 rfl ?_
              obtain ⟨g17, hf⟩ := y_g hf
              refine y_getI (pc2 := 212) rfl dX5_digestBefore_209 F_BoxYard_Journal_112 (by decide) rfl g17 ?_
              obtain ⟨r10, h11, c12, hf⟩ := y_clE hf
              refine y_callS (As := [.long v3_184, .int (y_I h8 r7 12)]) (rm := rm_X5_mixed) (cells := 0) (slots := 0) (pc2 := 215) rfl dX5_digestBefore_212 n_X5_mixed l_BoxYard_Journal_56 t_X5_mixed rfl rfl (by decide) (by decide) (by decide) (k_X5_mixed c12) ?_
              refine y_lstore_n (lv' := [(3, .long r10), (6, y_p r7), (0, y_p v0_184), (1, y_p v1_184), (2, .int v2_184), (5, .int v5_184)]) (pc2 := 216) rfl dX5_digestBefore_215 (by decide) rfl ?_
              refine y_lload_n (pc2 := 217) rfl dX5_digestBefore_216 rfl ?_
              refine y_aload (x := r7) (pc2 := 219) rfl dX5_digestBefore_217 rfl ?_
              obtain ⟨g16, hf⟩ := y_g hf
              refine y_getI (pc2 := 222) rfl dX5_digestBefore_219 F_BoxYard_Journal_115 (by decide) rfl g16 ?_
              obtain ⟨r13, h14, c15, hf⟩ := y_clE hf
              refine y_callS (As := [.long r10, .int (y_I h11 r7 13)]) (rm := rm_X5_mixed) (cells := 0) (slots := 0) (pc2 := 225) rfl dX5_digestBefore_222 n_X5_mixed l_BoxYard_Journal_56 t_X5_mixed rfl rfl (by decide) (by decide) (by decide) (k_X5_mixed c15) ?_
              refine y_lstore_n (lv' := [(3, .long r13), (6, y_p r7), (0, y_p v0_184), (1, y_p v1_184), (2, .int v2_184), (5, .int v5_184)]) (pc2 := 226) rfl dX5_digestBefore_225 (by decide) rfl ?_
              refine y_iinc (v := v5_184 + 1) (lv' := [(5, .int (v5_184 + 1)), (3, .long r13), (6, y_p r7), (0, y_p v0_184), (1, y_p v1_184), (2, .int v2_184)]) (pc2 := 229) rfl dX5_digestBefore_226 rfl rfl (by decide) rfl ?_
              refine y_goto (tgt := 184) dX5_digestBefore_229 (by decide) ?_
              exact y_pk [3, 4, 5, 1, 0] rfl (hj184 _ _ _ _ _ _ hf)
          · refine y_istore (lv' := [(5, .int 0), (0, y_p v0_123), (1, y_p v1_123), (2, .int v2_123), (3, .long v3_123)]) (pc2 := 184) rfl dX5_digestBefore_182 (by decide) rfl ?_
            exact y_pk [1, 2, 3, 4, 0] rfl (hj184 _ _ _ _ _ _ hf)
        · replace hf := y_ie c42 hf
          refine y_aload_n (x := v0_123) (pc2 := 133) rfl dX5_digestBefore_132 rfl ?_
          refine y_aload_n (x := v1_123) (pc2 := 134) rfl dX5_digestBefore_133 rfl ?_
          refine y_iload (pc2 := 136) rfl dX5_digestBefore_134 rfl ?_
          obtain ⟨g41, hf⟩ := y_g hf
          obtain ⟨r22, h23, c24, hf⟩ := y_clE hf
          refine y_callV (As := [.int v5_123]) (rm := rm_X10_craneAt) (cells := 0) (slots := 0) (pc2 := 139) rfl dX5_digestBefore_136 n_X10_craneAt l_BoxYard_Journal_84 i_X10_craneAt e_X10_craneAt (ci := 10) rfl rfl (by decide) g41 rfl rfl (by decide) (by simp [y_ci, y_cj, y_p_cat]) (by decide) (k_X10_craneAt c24) ?_
          refine y_iload_n (pc2 := 140) rfl dX5_digestBefore_139 rfl ?_
          obtain ⟨g40, hf⟩ := y_g hf
          obtain ⟨r25, h26, c27, hf⟩ := y_clE hf
          refine y_callV (As := [y_p r22, .int v2_123]) (rm := rm_X5_firstOfCrane) (cells := 0) (slots := 0) (pc2 := 143) rfl dX5_digestBefore_140 n_X5_firstOfCrane l_BoxYard_Journal_88 i_X5_firstOfCrane e_X5_firstOfCrane (ci := 5) rfl rfl (by decide) g40 rfl rfl (by decide) (by decide) (by decide) (k_X5_firstOfCrane c27) ?_
          refine y_astore (lv' := [(6, y_p r25), (0, y_p v0_123), (1, y_p v1_123), (2, .int v2_123), (3, .long v3_123), (5, .int v5_123)]) (pc2 := 145) rfl dX5_digestBefore_143 (by decide) rfl ?_
          refine y_lload_n (pc2 := 146) rfl dX5_digestBefore_145 rfl ?_
          refine y_aload (x := r25) (pc2 := 148) rfl dX5_digestBefore_146 rfl ?_
          obtain ⟨g39, hf⟩ := y_g hf
          refine y_getI (pc2 := 151) rfl dX5_digestBefore_148 F_BoxYard_Journal_92 (by decide) rfl g39 ?_
          obtain ⟨r28, h29, c30, hf⟩ := y_clE hf
          refine y_callS (As := [.long v3_123, .int (y_I h26 r25 8)]) (rm := rm_X5_mixed) (cells := 0) (slots := 0) (pc2 := 154) rfl dX5_digestBefore_151 n_X5_mixed l_BoxYard_Journal_56 t_X5_mixed rfl rfl (by decide) (by decide) (by decide) (k_X5_mixed c30) ?_
          refine y_lstore_n (lv' := [(3, .long r28), (6, y_p r25), (0, y_p v0_123), (1, y_p v1_123), (2, .int v2_123), (5, .int v5_123)]) (pc2 := 155) rfl dX5_digestBefore_154 (by decide) rfl ?_
          refine y_lload_n (pc2 := 156) rfl dX5_digestBefore_155 rfl ?_
          refine y_aload (x := r25) (pc2 := 158) rfl dX5_digestBefore_156 rfl ?_
          obtain ⟨g38, hf⟩ := y_g hf
          refine y_getI (pc2 := 161) rfl dX5_digestBefore_158 F_BoxYard_Journal_95 (by decide) rfl g38 ?_
          obtain ⟨r31, h32, c33, hf⟩ := y_clE hf
          refine y_callS (As := [.long r28, .int (y_I h29 r25 9)]) (rm := rm_X5_mixed) (cells := 0) (slots := 0) (pc2 := 164) rfl dX5_digestBefore_161 n_X5_mixed l_BoxYard_Journal_56 t_X5_mixed rfl rfl (by decide) (by decide) (by decide) (k_X5_mixed c33) ?_
          refine y_lstore_n (lv' := [(3, .long r31), (6, y_p r25), (0, y_p v0_123), (1, y_p v1_123), (2, .int v2_123), (5, .int v5_123)]) (pc2 := 165) rfl dX5_digestBefore_164 (by decide) rfl ?_
          refine y_lload_n (pc2 := 166) rfl dX5_digestBefore_165 rfl ?_
          refine y_aload (x := r25) (pc2 := 168) rfl dX5_digestBefore_166 rfl ?_
          obtain ⟨g37, hf⟩ := y_g hf
          refine y_getI (pc2 := 171) rfl dX5_digestBefore_168 F_BoxYard_Journal_98 (by decide) rfl g37 ?_
          obtain ⟨r34, h35, c36, hf⟩ := y_clE hf
          refine y_callS (As := [.long r31, .int (y_I h32 r25 10)]) (rm := rm_X5_mixed) (cells := 0) (slots := 0) (pc2 := 174) rfl dX5_digestBefore_171 n_X5_mixed l_BoxYard_Journal_56 t_X5_mixed rfl rfl (by decide) (by decide) (by decide) (k_X5_mixed c36) ?_
          refine y_lstore_n (lv' := [(3, .long r34), (6, y_p r25), (0, y_p v0_123), (1, y_p v1_123), (2, .int v2_123), (5, .int v5_123)]) (pc2 := 175) rfl dX5_digestBefore_174 (by decide) rfl ?_
          refine y_iinc (v := v5_123 + 1) (lv' := [(5, .int (v5_123 + 1)), (3, .long r34), (6, y_p r25), (0, y_p v0_123), (1, y_p v1_123), (2, .int v2_123)]) (pc2 := 178) rfl dX5_digestBefore_175 rfl rfl (by decide) rfl ?_
          refine y_goto (tgt := 123) dX5_digestBefore_178 (by decide) ?_
          exact y_pk [3, 4, 5, 1, 0] rfl (hj123 _ _ _ _ _ _ hf)
      · refine y_istore (lv' := [(5, .int 0), (0, y_p v0_7), (1, y_p v1_7), (2, .int v2_7), (3, .long v3_7)]) (pc2 := 123) rfl dX5_digestBefore_121 (by decide) rfl ?_
        exact y_pk [1, 2, 3, 4, 0] rfl (hj123 _ _ _ _ _ _ hf)
    · replace hf := y_ie c84 hf
      refine y_aload_n (x := v0_7) (pc2 := 17) rfl dX5_digestBefore_16 rfl ?_
      refine y_aload_n (x := v1_7) (pc2 := 18) rfl dX5_digestBefore_17 rfl ?_
      refine y_iload (pc2 := 20) rfl dX5_digestBefore_18 rfl ?_
      obtain ⟨g83, hf⟩ := y_g hf
      obtain ⟨r44, h45, c46, hf⟩ := y_clE hf
      refine y_callV (As := [.int v5_7]) (rm := rm_X10_boxAt) (cells := 0) (slots := 0) (pc2 := 23) rfl dX5_digestBefore_20 n_X10_boxAt l_BoxYard_Journal_41 i_X10_boxAt e_X10_boxAt (ci := 10) rfl rfl (by decide) g83 rfl rfl (by decide) (by simp [y_ci, y_cj, y_p_cat]) (by decide) (k_X10_boxAt c46) ?_
      refine y_iload_n (pc2 := 24) rfl dX5_digestBefore_23 rfl ?_
      obtain ⟨g82, hf⟩ := y_g hf
      obtain ⟨r47, h48, c49, hf⟩ := y_clE hf
      refine y_callV (As := [y_p r44, .int v2_7]) (rm := rm_X5_firstOfBox) (cells := 0) (slots := 0) (pc2 := 27) rfl dX5_digestBefore_24 n_X5_firstOfBox l_BoxYard_Journal_45 i_X5_firstOfBox e_X5_firstOfBox (ci := 5) rfl rfl (by decide) g82 rfl rfl (by decide) (by decide) (by decide) (k_X5_firstOfBox c49) ?_
      refine y_astore (lv' := [(6, y_p r47), (0, y_p v0_7), (1, y_p v1_7), (2, .int v2_7), (3, .long v3_7), (5, .int v5_7)]) (pc2 := 29) rfl dX5_digestBefore_27 (by decide) rfl ?_
      refine y_aload (x := r47) (pc2 := 31) rfl dX5_digestBefore_29 rfl ?_
      refine y_jnE hf (fun j => ∀ (v0_114 : Nat) (v1_114 : Nat) (v2_114 : Int32) (v3_114 : Int64) (v5_114 : Int32) (h50 : y_H), j v0_114 v1_114 v2_114 v3_114 v5_114 h50 = some (rz, hz) → y_V l G z rm_X5_digestBefore M_X5_digestBefore ad0 h (some (.long rz)) hz 114 [(0, y_p v0_114), (1, y_p v1_114), (2, .int v2_114), (3, .long v3_114), (5, .int v5_114)] [] h50 0 0) (fun v0_114 v1_114 v2_114 v3_114 v5_114 h50 hf => ?_) (fun j114 hj114 hf => ?_)
      · refine y_iinc (v := v5_114 + 1) (lv' := [(5, .int (v5_114 + 1)), (0, y_p v0_114), (1, y_p v1_114), (2, .int v2_114), (3, .long v3_114)]) (pc2 := 117) rfl dX5_digestBefore_114 rfl rfl (by decide) rfl ?_
        refine y_goto (tgt := 7) dX5_digestBefore_117 (by decide) ?_
        exact y_pk [1, 2, 3, 4, 0] rfl (hj7 _ _ _ _ _ _ hf)
      · refine y_ifnull (tgt := 114) (pc2 := 34) rfl dX5_digestBefore_31 (by decide) (fun c81 => ?_) (fun c81 => ?_)
        · replace hf := y_it c81 hf
          exact y_pk [1, 2, 3, 4, 5] rfl (hj114 _ _ _ _ _ _ hf)
        · replace hf := y_ie c81 hf
          refine y_aload (x := r47) (pc2 := 36) rfl dX5_digestBefore_34 rfl ?_
          obtain ⟨g80, hf⟩ := y_g hf
          refine y_getP (pc2 := 39) rfl dX5_digestBefore_36 F_BoxYard_Journal_49 (by decide) rfl g80 ?_
          refine y_ifnull (tgt := 114) (pc2 := 42) rfl dX5_digestBefore_39 (by decide) (fun c79 => ?_) (fun c79 => ?_)
          · replace hf := y_it c79 hf
            exact y_pk [1, 2, 3, 4, 5] rfl (hj114 _ _ _ _ _ _ hf)
          · replace hf := y_ie c79 hf
            refine y_lload_n (pc2 := 43) rfl dX5_digestBefore_42 rfl ?_
            refine y_aload (x := r47) (pc2 := 45) rfl dX5_digestBefore_43 rfl ?_
            obtain ⟨g78, hf⟩ := y_g hf
            refine y_getI (pc2 := 48) rfl dX5_digestBefore_45 F_BoxYard_Journal_53 (by decide) rfl g78 ?_
            obtain ⟨r51, h52, c53, hf⟩ := y_clE hf
            refine y_callS (As := [.long v3_7, .int (y_I h48 r47 2)]) (rm := rm_X5_mixed) (cells := 0) (slots := 0) (pc2 := 51) rfl dX5_digestBefore_48 n_X5_mixed l_BoxYard_Journal_56 t_X5_mixed rfl rfl (by decide) (by decide) (by decide) (k_X5_mixed c53) ?_
            refine y_lstore_n (lv' := [(3, .long r51), (6, y_p r47), (0, y_p v0_7), (1, y_p v1_7), (2, .int v2_7), (5, .int v5_7)]) (pc2 := 52) rfl dX5_digestBefore_51 (by decide) rfl ?_
            refine y_lload_n (pc2 := 53) rfl dX5_digestBefore_52 rfl ?_
            refine y_aload (x := r47) (pc2 := 55) rfl dX5_digestBefore_53 rfl ?_
            obtain ⟨g77, hf⟩ := y_g hf
            refine y_getI (pc2 := 58) rfl dX5_digestBefore_55 F_BoxYard_Journal_60 (by decide) rfl g77 ?_
            obtain ⟨r54, h55, c56, hf⟩ := y_clE hf
            refine y_callS (As := [.long r51, .int (y_I h52 r47 3)]) (rm := rm_X5_mixed) (cells := 0) (slots := 0) (pc2 := 61) rfl dX5_digestBefore_58 n_X5_mixed l_BoxYard_Journal_56 t_X5_mixed rfl rfl (by decide) (by decide) (by decide) (k_X5_mixed c56) ?_
            refine y_lstore_n (lv' := [(3, .long r54), (6, y_p r47), (0, y_p v0_7), (1, y_p v1_7), (2, .int v2_7), (5, .int v5_7)]) (pc2 := 62) rfl dX5_digestBefore_61 (by decide) rfl ?_
            refine y_lload_n (pc2 := 63) rfl dX5_digestBefore_62 rfl ?_
            refine y_aload (x := r47) (pc2 := 65) rfl dX5_digestBefore_63 rfl ?_
            obtain ⟨g76, hf⟩ := y_g hf
            refine y_getI (pc2 := 68) rfl dX5_digestBefore_65 F_BoxYard_Journal_63 (by decide) rfl g76 ?_
            obtain ⟨r57, h58, c59, hf⟩ := y_clE hf
            refine y_callS (As := [.long r54, .int (y_I h55 r47 4)]) (rm := rm_X5_mixed) (cells := 0) (slots := 0) (pc2 := 71) rfl dX5_digestBefore_68 n_X5_mixed l_BoxYard_Journal_56 t_X5_mixed rfl rfl (by decide) (by decide) (by decide) (k_X5_mixed c59) ?_
            refine y_lstore_n (lv' := [(3, .long r57), (6, y_p r47), (0, y_p v0_7), (1, y_p v1_7), (2, .int v2_7), (5, .int v5_7)]) (pc2 := 72) rfl dX5_digestBefore_71 (by decide) rfl ?_
            refine y_lload_n (pc2 := 73) rfl dX5_digestBefore_72 rfl ?_
            refine y_aload (x := r47) (pc2 := 75) rfl dX5_digestBefore_73 rfl ?_
            obtain ⟨g75, hf⟩ := y_g hf
            refine y_getI (pc2 := 78) rfl dX5_digestBefore_75 F_BoxYard_Journal_66 (by decide) rfl g75 ?_
            obtain ⟨r60, h61, c62, hf⟩ := y_clE hf
            refine y_callS (As := [.long r57, .int (y_I h58 r47 5)]) (rm := rm_X5_mixed) (cells := 0) (slots := 0) (pc2 := 81) rfl dX5_digestBefore_78 n_X5_mixed l_BoxYard_Journal_56 t_X5_mixed rfl rfl (by decide) (by decide) (by decide) (k_X5_mixed c62) ?_
            refine y_lstore_n (lv' := [(3, .long r60), (6, y_p r47), (0, y_p v0_7), (1, y_p v1_7), (2, .int v2_7), (5, .int v5_7)]) (pc2 := 82) rfl dX5_digestBefore_81 (by decide) rfl ?_
            refine y_lload_n (pc2 := 83) rfl dX5_digestBefore_82 rfl ?_
            refine y_aload (x := r47) (pc2 := 85) rfl dX5_digestBefore_83 rfl ?_
            obtain ⟨g74, hf⟩ := y_g hf
            refine y_getZ (pc2 := 88) rfl dX5_digestBefore_85 F_BoxYard_Journal_69 (by decide) rfl g74 ?_
            refine y_ifz_eq (tgt := 102) (pc2 := 91) rfl dX5_digestBefore_88 (by decide) (fun c73 => ?_) (fun c73 => ?_)
            · replace hf := y_ie c73 hf
              refine y_aload (x := r47) (pc2 := 104) rfl dX5_digestBefore_102 rfl ?_
              obtain ⟨g67, hf⟩ := y_g hf
              refine y_getP (pc2 := 107) rfl dX5_digestBefore_104 F_BoxYard_Journal_49 (by decide) rfl g67 ?_
              obtain ⟨g66, hf⟩ := y_g hf
              refine y_getI (pc2 := 110) rfl dX5_digestBefore_107 F_BoxYard_Journal_78 (by decide) rfl g66 ?_
              obtain ⟨r63, h64, c65, hf⟩ := y_clE hf
              refine y_callS (As := [.long r60, .int (y_I h61 (y_P h61 r47 1) 2)]) (rm := rm_X5_mixed) (cells := 0) (slots := 0) (pc2 := 113) rfl dX5_digestBefore_110 n_X5_mixed l_BoxYard_Journal_56 t_X5_mixed rfl rfl (by decide) (by decide) (by decide) (k_X5_mixed c65) ?_
              refine y_lstore_n (lv' := [(3, .long r63), (6, y_p r47), (0, y_p v0_7), (1, y_p v1_7), (2, .int v2_7), (5, .int v5_7)]) (pc2 := 114) rfl dX5_digestBefore_113 (by decide) rfl ?_
              exact y_pk [2, 3, 4, 0, 5] rfl (hj114 _ _ _ _ _ _ hf)
            · replace hf := y_it c73 hf
              refine y_aload (x := r47) (pc2 := 93) rfl dX5_digestBefore_91 rfl ?_
              obtain ⟨g72, hf⟩ := y_g hf
              refine y_getP (pc2 := 96) rfl dX5_digestBefore_93 F_BoxYard_Journal_49 (by decide) rfl g72 ?_
              obtain ⟨g71, hf⟩ := y_g hf
              refine y_getI (pc2 := 99) rfl dX5_digestBefore_96 F_BoxYard_Journal_73 (by decide) rfl g71 ?_
              refine y_goto (tgt := 110) dX5_digestBefore_99 (by decide) ?_
              obtain ⟨r68, h69, c70, hf⟩ := y_clE hf
              refine y_callS (As := [.long r60, .int (y_I h61 (y_P h61 r47 1) 3)]) (rm := rm_X5_mixed) (cells := 0) (slots := 0) (pc2 := 113) rfl dX5_digestBefore_110 n_X5_mixed l_BoxYard_Journal_56 t_X5_mixed rfl rfl (by decide) (by decide) (by decide) (k_X5_mixed c70) ?_
              refine y_lstore_n (lv' := [(3, .long r68), (6, y_p r47), (0, y_p v0_7), (1, y_p v1_7), (2, .int v2_7), (5, .int v5_7)]) (pc2 := 114) rfl dX5_digestBefore_113 (by decide) rfl ?_
              exact y_pk [2, 3, 4, 0, 5] rfl (hj114 _ _ _ _ _ _ hf)
  · refine y_istore (lv' := [(5, .int 0), (3, .long 17), (0, y_p p0), (1, y_p p1), (2, .int p2)]) (pc2 := 7) rfl dX5_digestBefore_5 (by decide) rfl ?_
    exact y_pk [2, 3, 4, 1, 0] rfl (hj7 _ _ _ _ _ _ hf)
theorem dX7_begin_0 : decode cX7_begin 0 = .ok (.aload_n 0, 1) := by decide +kernel
theorem dX7_begin_1 : decode cX7_begin 1 = .ok (.iload_n 1, 1) := by decide +kernel
theorem dX7_begin_2 : decode cX7_begin 2 = .ok (.putfield 35, 3) := by decide +kernel
theorem dX7_begin_5 : decode cX7_begin 5 = .ok (.aload_n 0, 1) := by decide +kernel
theorem dX7_begin_6 : decode cX7_begin 6 = .ok (.iload_n 2, 1) := by decide +kernel
theorem dX7_begin_7 : decode cX7_begin 7 = .ok (.putfield 38, 3) := by decide +kernel
theorem dX7_begin_10 : decode cX7_begin 10 = .ok (.aload_n 0, 1) := by decide +kernel
theorem dX7_begin_11 : decode cX7_begin 11 = .ok (.iload_n 3, 1) := by decide +kernel
theorem dX7_begin_12 : decode cX7_begin 12 = .ok (.putfield 41, 3) := by decide +kernel
theorem dX7_begin_15 : decode cX7_begin 15 = .ok (.aload_n 0, 1) := by decide +kernel
theorem dX7_begin_16 : decode cX7_begin 16 = .ok (.iload 4, 2) := by decide +kernel
theorem dX7_begin_18 : decode cX7_begin 18 = .ok (.putfield 44, 3) := by decide +kernel
theorem dX7_begin_21 : decode cX7_begin 21 = .ok (.aload_n 0, 1) := by decide +kernel
theorem dX7_begin_22 : decode cX7_begin 22 = .ok (.iconst 0, 1) := by decide +kernel
theorem dX7_begin_23 : decode cX7_begin 23 = .ok (.putfield 47, 3) := by decide +kernel
theorem dX7_begin_26 : decode cX7_begin 26 = .ok (.aload_n 0, 1) := by decide +kernel
theorem dX7_begin_27 : decode cX7_begin 27 = .ok (.iconst 0, 1) := by decide +kernel
theorem dX7_begin_28 : decode cX7_begin 28 = .ok (.putfield 50, 3) := by decide +kernel
theorem dX7_begin_31 : decode cX7_begin 31 = .ok (.aload_n 0, 1) := by decide +kernel
theorem dX7_begin_32 : decode cX7_begin 32 = .ok (.iconst 0, 1) := by decide +kernel
theorem dX7_begin_33 : decode cX7_begin 33 = .ok (.putfield 53, 3) := by decide +kernel
theorem dX7_begin_36 : decode cX7_begin 36 = .ok (.aload_n 0, 1) := by decide +kernel
theorem dX7_begin_37 : decode cX7_begin 37 = .ok (.getfield 25, 3) := by decide +kernel
theorem dX7_begin_40 : decode cX7_begin 40 = .ok (.ldc 56, 2) := by decide +kernel
theorem dX7_begin_42 : decode cX7_begin 42 = .ok (.invokestatic 57, 3) := by decide +kernel
theorem dX7_begin_45 : decode cX7_begin 45 = .ok (.iconst 0, 1) := by decide +kernel
theorem dX7_begin_46 : decode cX7_begin 46 = .ok (.istore 5, 2) := by decide +kernel
theorem dX7_begin_48 : decode cX7_begin 48 = .ok (.iload 5, 2) := by decide +kernel
theorem dX7_begin_50 : decode cX7_begin 50 = .ok (.bipush 54, 2) := by decide +kernel
theorem dX7_begin_52 : decode cX7_begin 52 = .ok (.if_icmp .ge 17, 3) := by decide +kernel
theorem dX7_begin_55 : decode cX7_begin 55 = .ok (.aload_n 0, 1) := by decide +kernel
theorem dX7_begin_56 : decode cX7_begin 56 = .ok (.getfield 13, 3) := by decide +kernel
theorem dX7_begin_59 : decode cX7_begin 59 = .ok (.iload 5, 2) := by decide +kernel
theorem dX7_begin_61 : decode cX7_begin 61 = .ok (.aconst_null, 1) := by decide +kernel
theorem dX7_begin_62 : decode cX7_begin 62 = .ok (.aastore, 1) := by decide +kernel
theorem dX7_begin_63 : decode cX7_begin 63 = .ok (.iinc 5 1, 3) := by decide +kernel
theorem dX7_begin_66 : decode cX7_begin 66 = .ok (.goto (-18), 3) := by decide +kernel
theorem dX7_begin_69 : decode cX7_begin 69 = .ok (.return_, 1) := by decide +kernel
def M_X7_begin : y_M := (yX7_begin, cX7_begin, 6, (Option.none : Option Jvm.ClassFile.FieldType))
theorem n_X7_begin : y_N0 M_X7_begin 4 := ⟨(c_5 102 (by decide +kernel) rfl), (c_1 14 (by decide +kernel) rfl), ⟨by decide +kernel, by decide +kernel⟩, by decide +kernel⟩
theorem Fp_BoxYard_Ship_35 {nm : String} : y_Fp "BoxYard$Ship" nm 35 7 8 := ⟨_, _, _, rfl, by decide, Or.inl ⟨rfl, Or.inl (c_5 55 (by decide +kernel) rfl)⟩⟩
theorem Fp_BoxYard_Ship_38 {nm : String} : y_Fp "BoxYard$Ship" nm 38 7 9 := ⟨_, _, _, rfl, by decide, Or.inl ⟨rfl, Or.inl (c_5 56 (by decide +kernel) rfl)⟩⟩
theorem Fp_BoxYard_Ship_41 {nm : String} : y_Fp "BoxYard$Ship" nm 41 7 10 := ⟨_, _, _, rfl, by decide, Or.inl ⟨rfl, Or.inl (c_5 57 (by decide +kernel) rfl)⟩⟩
theorem Fp_BoxYard_Ship_44 {nm : String} : y_Fp "BoxYard$Ship" nm 44 7 11 := ⟨_, _, _, rfl, by decide, Or.inl ⟨rfl, Or.inl (c_5 58 (by decide +kernel) rfl)⟩⟩
theorem Fp_BoxYard_Ship_47 {nm : String} : y_Fp "BoxYard$Ship" nm 47 7 7 := ⟨_, _, _, rfl, by decide, Or.inl ⟨rfl, Or.inl (c_5 53 (by decide +kernel) rfl)⟩⟩
theorem Fp_BoxYard_Ship_50 {nm : String} : y_Fp "BoxYard$Ship" nm 50 7 12 := ⟨_, _, _, rfl, by decide, Or.inl ⟨rfl, Or.inl (c_5 61 (by decide +kernel) rfl)⟩⟩
theorem Fp_BoxYard_Ship_53 {nm : String} : y_Fp "BoxYard$Ship" nm 53 7 13 := ⟨_, _, _, rfl, by decide, Or.inl ⟨rfl, Or.inl (c_5 65 (by decide +kernel) rfl)⟩⟩
theorem F_BoxYard_Ship_25 : y_F "BoxYard$Ship" 25 7 5 := ⟨_, _, _, rfl, by decide, Or.inl (c_5 50 (by decide +kernel) rfl)⟩
theorem k_BoxYard_Ship_56 : Cond.constant "BoxYard$Ship" 56 1000000 ∈ y_tb := (c_5 103 (by decide +kernel) rfl)
theorem l_BoxYard_Ship_57 : y_lnk "BoxYard$Ship" 57 M_J7_fill_53178 := Or.inl (c_4 213 (by decide +kernel) rfl)
theorem t_J7_fill_53178 : Cond.static (M_J7_fill_53178).1 ∈ y_tb := (c_1 55 (by decide +kernel) rfl)
theorem F_BoxYard_Ship_13 : y_F "BoxYard$Ship" 13 7 1 := ⟨_, _, _, rfl, by decide, Or.inl (c_5 44 (by decide +kernel) rfl)⟩
set_option maxRecDepth 100000 in
def f_X7_begin (p0 : Nat) (p1 : Int32) (p2 : Int32) (p3 : Int32) (p4 : Int32) (h : y_H) : Option (Unit × y_H) :=
  if y_K h p0 = 8 then
  y_bd (s_I h p0 8 p1) (fun h1 =>
  if y_K h1 p0 = 8 then
  y_bd (s_I h1 p0 9 p2) (fun h4 =>
  if y_K h4 p0 = 8 then
  y_bd (s_I h4 p0 10 p3) (fun h7 =>
  if y_K h7 p0 = 8 then
  y_bd (s_I h7 p0 11 p4) (fun h10 =>
  if y_K h10 p0 = 8 then
  y_bd (s_I h10 p0 7 0) (fun h13 =>
  if y_K h13 p0 = 8 then
  y_bd (s_I h13 p0 12 0) (fun h16 =>
  if y_K h16 p0 = 8 then
  y_bd (s_I h16 p0 13 0) (fun h19 =>
  if y_K h19 p0 = 8 then
  y_cl (f_J7_fill_53178 (y_P h19 p0 5) 1000000 h19) (fun _ h22 =>
  y_jl (fun (_ : Nat) (_ : Int32) (_ : y_H) => (none : Option (Unit × y_H))) (fun j48 (v0_48 : Nat) (v5_48 : Int32) (h24 : y_H) =>
      if 54 ≤ v5_48 then
        some ((), h24)
      else
        if y_K h24 v0_48 = 8 then
        if y_K h24 (y_P h24 v0_48 1) = 103 ∧ y_ix v5_48 (y_N h24 (y_P h24 v0_48 1)) = true ∧ (0 = 0 ∨ y_K h24 0 = 3) then
        y_bd (s_P h24 (y_P h24 v0_48 1) (Int32.toNatClampNeg v5_48) 0) (fun h25 =>
        j48 v0_48 (v5_48 + 1) h25)
        else none
        else none) (fun j48 =>
  j48 p0 0 h22))
  else none)
  else none)
  else none)
  else none)
  else none)
  else none)
  else none)
  else none
abbrev rm_X7_begin : Room := { frames := 1, cells := 0, slots := 0, locals := 23 }
set_option maxRecDepth 100000 in
set_option maxHeartbeats 4000000 in
theorem k_X7_begin {l : Launch} {G : y_G} {p0 : Nat} {p1 : Int32} {p2 : Int32} {p3 : Int32} {p4 : Int32} {h hz : y_H} {rz : Unit} (hf : f_X7_begin p0 p1 p2 p3 p4 h = some (rz, hz)) : y_S l G M_X7_begin rm_X7_begin [y_p p0, .int p1, .int p2, .int p3, .int p4] h none hz := by
  refine y_start (lv := [(0, y_p p0), (1, .int p1), (2, .int p2), (3, .int p3), (4, .int p4)]) (by decide) (by simp [lg_sl, y_p_cat, y_ci, y_cj, M_X7_begin]) (by simp [lv_args, y_p_cat, y_ci, y_cj]) (fun z ad0 => ?_)
  unfold f_X7_begin at hf
  refine y_aload_n (x := p0) (pc2 := 1) rfl dX7_begin_0 rfl ?_
  refine y_iload_n (pc2 := 2) rfl dX7_begin_1 rfl ?_
  obtain ⟨g3, hf⟩ := y_g hf
  obtain ⟨h1, e2, hf⟩ := y_bdE hf
  refine y_putI (x := p1) (pc2 := 5) rfl dX7_begin_2 Fp_BoxYard_Ship_35 (by decide) rfl g3 e2 ?_
  refine y_aload_n (x := p0) (pc2 := 6) rfl dX7_begin_5 rfl ?_
  refine y_iload_n (pc2 := 7) rfl dX7_begin_6 rfl ?_
  obtain ⟨g6, hf⟩ := y_g hf
  obtain ⟨h4, e5, hf⟩ := y_bdE hf
  refine y_putI (x := p2) (pc2 := 10) rfl dX7_begin_7 Fp_BoxYard_Ship_38 (by decide) rfl g6 e5 ?_
  refine y_aload_n (x := p0) (pc2 := 11) rfl dX7_begin_10 rfl ?_
  refine y_iload_n (pc2 := 12) rfl dX7_begin_11 rfl ?_
  obtain ⟨g9, hf⟩ := y_g hf
  obtain ⟨h7, e8, hf⟩ := y_bdE hf
  refine y_putI (x := p3) (pc2 := 15) rfl dX7_begin_12 Fp_BoxYard_Ship_41 (by decide) rfl g9 e8 ?_
  refine y_aload_n (x := p0) (pc2 := 16) rfl dX7_begin_15 rfl ?_
  refine y_iload (pc2 := 18) rfl dX7_begin_16 rfl ?_
  obtain ⟨g12, hf⟩ := y_g hf
  obtain ⟨h10, e11, hf⟩ := y_bdE hf
  refine y_putI (x := p4) (pc2 := 21) rfl dX7_begin_18 Fp_BoxYard_Ship_44 (by decide) rfl g12 e11 ?_
  refine y_aload_n (x := p0) (pc2 := 22) rfl dX7_begin_21 rfl ?_
  refine y_iconst (v := 0) (pc2 := 23) rfl dX7_begin_22 (by decide) ?_
  obtain ⟨g15, hf⟩ := y_g hf
  obtain ⟨h13, e14, hf⟩ := y_bdE hf
  refine y_putI (x := 0) (pc2 := 26) rfl dX7_begin_23 Fp_BoxYard_Ship_47 (by decide) rfl g15 e14 ?_
  refine y_aload_n (x := p0) (pc2 := 27) rfl dX7_begin_26 rfl ?_
  refine y_iconst (v := 0) (pc2 := 28) rfl dX7_begin_27 (by decide) ?_
  obtain ⟨g18, hf⟩ := y_g hf
  obtain ⟨h16, e17, hf⟩ := y_bdE hf
  refine y_putI (x := 0) (pc2 := 31) rfl dX7_begin_28 Fp_BoxYard_Ship_50 (by decide) rfl g18 e17 ?_
  refine y_aload_n (x := p0) (pc2 := 32) rfl dX7_begin_31 rfl ?_
  refine y_iconst (v := 0) (pc2 := 33) rfl dX7_begin_32 (by decide) ?_
  obtain ⟨g21, hf⟩ := y_g hf
  obtain ⟨h19, e20, hf⟩ := y_bdE hf
  refine y_putI (x := 0) (pc2 := 36) rfl dX7_begin_33 Fp_BoxYard_Ship_53 (by decide) rfl g21 e20 ?_
  refine y_aload_n (x := p0) (pc2 := 37) rfl dX7_begin_36 rfl ?_
  obtain ⟨g30, hf⟩ := y_g hf
  refine y_getP (pc2 := 40) rfl dX7_begin_37 F_BoxYard_Ship_25 (by decide) rfl g30 ?_
  refine y_ldc (v := 1000000) (pc2 := 42) rfl dX7_begin_40 k_BoxYard_Ship_56 ?_
  obtain ⟨r_, h22, c23, hf⟩ := y_clE hf
  refine y_callS (As := [y_p (y_P h19 p0 5), .int 1000000]) (rm := rm_J7_fill_53178) (cells := 0) (slots := 0) (pc2 := 45) rfl dX7_begin_42 n_J7_fill_53178 l_BoxYard_Ship_57 t_J7_fill_53178 rfl rfl (by decide) (by decide) (by decide) (k_J7_fill_53178 c23) ?_
  refine y_iconst (v := 0) (pc2 := 46) rfl dX7_begin_45 (by decide) ?_
  refine y_jlE hf (fun j => ∀ (v0_48 : Nat) (v5_48 : Int32) (h24 : y_H), j v0_48 v5_48 h24 = some (rz, hz) → y_V l G z rm_X7_begin M_X7_begin ad0 h none hz 48 [(0, y_p v0_48), (5, .int v5_48)] [] h24 0 0) (fun _ _ _ hf => by cases hf) (fun j48 hj48 v0_48 v5_48 h24 hf => ?_) (fun j48 hj48 hf => ?_)
  · refine y_iload (pc2 := 50) rfl dX7_begin_48 rfl ?_
    refine y_bipush (v := 54) (pc2 := 52) rfl dX7_begin_50 (by decide) ?_
    refine y_icmp_ge (tgt := 69) (pc2 := 55) rfl dX7_begin_52 (by decide) (fun c29 => ?_) (fun c29 => ?_)
    · replace hf := y_it c29 hf
      exact y_vretF hf dX7_begin_69 rfl (by decide) (by decide)
    · replace hf := y_ie c29 hf
      refine y_aload_n (x := v0_48) (pc2 := 56) rfl dX7_begin_55 rfl ?_
      obtain ⟨g28, hf⟩ := y_g hf
      refine y_getP (pc2 := 59) rfl dX7_begin_56 F_BoxYard_Ship_13 (by decide) rfl g28 ?_
      refine y_iload (pc2 := 61) rfl dX7_begin_59 rfl ?_
      refine y_null (pc2 := 62) rfl dX7_begin_61 ?_
      obtain ⟨g27, hf⟩ := y_g hf
      obtain ⟨h25, e26, hf⟩ := y_bdE hf
      refine y_aast (t := 3) (ci := 2) (x := 0) (pc2 := 63) rfl dX7_begin_62 (by decide) rfl (by decide) rfl g27.1 (y_ix_in g27.2.1) g27.2.2 e26 ?_
      refine y_iinc (v := v5_48 + 1) (lv' := [(5, .int (v5_48 + 1)), (0, y_p v0_48)]) (pc2 := 66) rfl dX7_begin_63 rfl rfl (by decide) rfl ?_
      refine y_goto (tgt := 48) dX7_begin_66 (by decide) ?_
      exact y_pk [1, 0] rfl (hj48 _ _ _ hf)
  · refine y_istore (lv' := [(5, .int 0), (0, y_p p0), (1, .int p1), (2, .int p2), (3, .int p3), (4, .int p4)]) (pc2 := 48) rfl dX7_begin_46 (by decide) rfl ?_
    exact y_pk [1, 0] rfl (hj48 _ _ _ hf)
theorem dX7_hasColumn_0 : decode cX7_hasColumn 0 = .ok (.iload_n 1, 1) := by decide +kernel
theorem dX7_hasColumn_1 : decode cX7_hasColumn 1 = .ok (.iconst 0, 1) := by decide +kernel
theorem dX7_hasColumn_2 : decode cX7_hasColumn 2 = .ok (.aload_n 0, 1) := by decide +kernel
theorem dX7_hasColumn_3 : decode cX7_hasColumn 3 = .ok (.getfield 35, 3) := by decide +kernel
theorem dX7_hasColumn_6 : decode cX7_hasColumn 6 = .ok (.iconst 1, 1) := by decide +kernel
theorem dX7_hasColumn_7 : decode cX7_hasColumn 7 = .ok (.isub, 1) := by decide +kernel
theorem dX7_hasColumn_8 : decode cX7_hasColumn 8 = .ok (.invokestatic 63, 3) := by decide +kernel
theorem dX7_hasColumn_11 : decode cX7_hasColumn 11 = .ok (.ifCond .eq 21, 3) := by decide +kernel
theorem dX7_hasColumn_14 : decode cX7_hasColumn 14 = .ok (.iload_n 2, 1) := by decide +kernel
theorem dX7_hasColumn_15 : decode cX7_hasColumn 15 = .ok (.iconst 0, 1) := by decide +kernel
theorem dX7_hasColumn_16 : decode cX7_hasColumn 16 = .ok (.aload_n 0, 1) := by decide +kernel
theorem dX7_hasColumn_17 : decode cX7_hasColumn 17 = .ok (.getfield 38, 3) := by decide +kernel
theorem dX7_hasColumn_20 : decode cX7_hasColumn 20 = .ok (.iconst 1, 1) := by decide +kernel
theorem dX7_hasColumn_21 : decode cX7_hasColumn 21 = .ok (.isub, 1) := by decide +kernel
theorem dX7_hasColumn_22 : decode cX7_hasColumn 22 = .ok (.invokestatic 63, 3) := by decide +kernel
theorem dX7_hasColumn_25 : decode cX7_hasColumn 25 = .ok (.ifCond .eq 7, 3) := by decide +kernel
theorem dX7_hasColumn_28 : decode cX7_hasColumn 28 = .ok (.iconst 1, 1) := by decide +kernel
theorem dX7_hasColumn_29 : decode cX7_hasColumn 29 = .ok (.goto 4, 3) := by decide +kernel
theorem dX7_hasColumn_32 : decode cX7_hasColumn 32 = .ok (.iconst 0, 1) := by decide +kernel
theorem dX7_hasColumn_33 : decode cX7_hasColumn 33 = .ok (.ireturn, 1) := by decide +kernel
def M_X7_hasColumn : y_M := (yX7_hasColumn, cX7_hasColumn, 3, (Option.some Jvm.ClassFile.FieldType.boolean))
theorem n_X7_hasColumn : y_N0 M_X7_hasColumn 2 := ⟨(c_4 239 (by decide +kernel) rfl), (c_1 14 (by decide +kernel) rfl), ⟨by decide +kernel, by decide +kernel⟩, by decide +kernel⟩
theorem F_BoxYard_Ship_35 : y_F "BoxYard$Ship" 35 7 8 := ⟨_, _, _, rfl, by decide, Or.inl (c_5 55 (by decide +kernel) rfl)⟩
theorem l_BoxYard_Ship_63 : y_lnk "BoxYard$Ship" 63 M_X11_isWithin := Or.inr ⟨"BoxYard", (c_4 168 (by decide +kernel) rfl)⟩
theorem F_BoxYard_Ship_38 : y_F "BoxYard$Ship" 38 7 9 := ⟨_, _, _, rfl, by decide, Or.inl (c_5 56 (by decide +kernel) rfl)⟩
set_option maxRecDepth 100000 in
def f_X7_hasColumn (p0 : Nat) (p1 : Int32) (p2 : Int32) (h : y_H) : Option (Bool × y_H) :=
  if y_K h p0 = 8 then
  y_cl (f_X11_isWithin p1 0 ((y_I h p0 8) - 1) h) (fun r1 h2 =>
  y_jn (fun (h4 : y_H) => (
      some (false, h4) : Option (Bool × y_H))) (fun j32 =>
  if r1 = true then
    if y_K h2 p0 = 8 then
    y_cl (f_X11_isWithin p2 0 ((y_I h2 p0 9) - 1) h2) (fun r5 h6 =>
    if r5 = true then
      some (true, h6)
    else
      j32 h6)
    else none
  else
    j32 h2))
  else none
abbrev rm_X7_hasColumn : Room := { frames := 1, cells := 0, slots := 0, locals := 22 }
set_option maxRecDepth 100000 in
set_option maxHeartbeats 4000000 in
theorem k_X7_hasColumn {l : Launch} {G : y_G} {p0 : Nat} {p1 : Int32} {p2 : Int32} {h hz : y_H} {rz : Bool} (hf : f_X7_hasColumn p0 p1 p2 h = some (rz, hz)) : y_S l G M_X7_hasColumn rm_X7_hasColumn [y_p p0, .int p1, .int p2] h (some (.int (y_z rz))) hz := by
  refine y_start (lv := [(0, y_p p0), (1, .int p1), (2, .int p2)]) (by decide) (by simp [lg_sl, y_p_cat, y_ci, y_cj, M_X7_hasColumn]) (by simp [lv_args, y_p_cat, y_ci, y_cj]) (fun z ad0 => ?_)
  unfold f_X7_hasColumn at hf
  refine y_iload_n (pc2 := 1) rfl dX7_hasColumn_0 rfl ?_
  refine y_iconst (v := 0) (pc2 := 2) rfl dX7_hasColumn_1 (by decide) ?_
  refine y_aload_n (x := p0) (pc2 := 3) rfl dX7_hasColumn_2 rfl ?_
  obtain ⟨g11, hf⟩ := y_g hf
  refine y_getI (pc2 := 6) rfl dX7_hasColumn_3 F_BoxYard_Ship_35 (by decide) rfl g11 ?_
  refine y_iconst (v := 1) (pc2 := 7) rfl dX7_hasColumn_6 (by decide) ?_
  refine y_isub (pc2 := 8) rfl dX7_hasColumn_7 ?_
  obtain ⟨r1, h2, c3, hf⟩ := y_clE hf
  refine y_callS (As := [.int p1, .int 0, .int ((y_I h p0 8) - 1)]) (rm := rm_X11_isWithin) (cells := 0) (slots := 0) (pc2 := 11) rfl dX7_hasColumn_8 n_X11_isWithin l_BoxYard_Ship_63 t_X11_isWithin rfl rfl (by decide) (by decide) (by decide) (k_X11_isWithin c3) ?_
  refine y_jnE hf (fun j => ∀ (h4 : y_H), j h4 = some (rz, hz) → y_V l G z rm_X7_hasColumn M_X7_hasColumn ad0 h (some (.int (y_z rz))) hz 32 [] [] h4 0 0) (fun h4 hf => ?_) (fun j32 hj32 hf => ?_)
  · refine y_iconst (v := 0) (pc2 := 33) rfl dX7_hasColumn_32 (by decide) ?_
    exact y_zretF (x := false) hf dX7_hasColumn_33 rfl (by decide) (by decide)
  · refine y_ifz_eq (tgt := 32) (pc2 := 14) rfl dX7_hasColumn_11 (by decide) (fun c10 => ?_) (fun c10 => ?_)
    · replace hf := y_ie c10 hf
      exact y_pk [] rfl (hj32 _ hf)
    · replace hf := y_it c10 hf
      refine y_iload_n (pc2 := 15) rfl dX7_hasColumn_14 rfl ?_
      refine y_iconst (v := 0) (pc2 := 16) rfl dX7_hasColumn_15 (by decide) ?_
      refine y_aload_n (x := p0) (pc2 := 17) rfl dX7_hasColumn_16 rfl ?_
      obtain ⟨g9, hf⟩ := y_g hf
      refine y_getI (pc2 := 20) rfl dX7_hasColumn_17 F_BoxYard_Ship_38 (by decide) rfl g9 ?_
      refine y_iconst (v := 1) (pc2 := 21) rfl dX7_hasColumn_20 (by decide) ?_
      refine y_isub (pc2 := 22) rfl dX7_hasColumn_21 ?_
      obtain ⟨r5, h6, c7, hf⟩ := y_clE hf
      refine y_callS (As := [.int p2, .int 0, .int ((y_I h2 p0 9) - 1)]) (rm := rm_X11_isWithin) (cells := 0) (slots := 0) (pc2 := 25) rfl dX7_hasColumn_22 n_X11_isWithin l_BoxYard_Ship_63 t_X11_isWithin rfl rfl (by decide) (by decide) (by decide) (k_X11_isWithin c7) ?_
      refine y_ifz_eq (tgt := 32) (pc2 := 28) rfl dX7_hasColumn_25 (by decide) (fun c8 => ?_) (fun c8 => ?_)
      · replace hf := y_ie c8 hf
        exact y_pk [] rfl (hj32 _ hf)
      · replace hf := y_it c8 hf
        refine y_iconst (v := 1) (pc2 := 29) rfl dX7_hasColumn_28 (by decide) ?_
        refine y_goto (tgt := 33) dX7_hasColumn_29 (by decide) ?_
        exact y_zretF (x := true) hf dX7_hasColumn_33 rfl (by decide) (by decide)
theorem dX7_hasCell_0 : decode cX7_hasCell 0 = .ok (.aload_n 0, 1) := by decide +kernel
theorem dX7_hasCell_1 : decode cX7_hasCell 1 = .ok (.iload_n 1, 1) := by decide +kernel
theorem dX7_hasCell_2 : decode cX7_hasCell 2 = .ok (.iload_n 2, 1) := by decide +kernel
theorem dX7_hasCell_3 : decode cX7_hasCell 3 = .ok (.invokevirtual 67, 3) := by decide +kernel
theorem dX7_hasCell_6 : decode cX7_hasCell 6 = .ok (.ifCond .eq 21, 3) := by decide +kernel
theorem dX7_hasCell_9 : decode cX7_hasCell 9 = .ok (.iload_n 3, 1) := by decide +kernel
theorem dX7_hasCell_10 : decode cX7_hasCell 10 = .ok (.iconst 0, 1) := by decide +kernel
theorem dX7_hasCell_11 : decode cX7_hasCell 11 = .ok (.aload_n 0, 1) := by decide +kernel
theorem dX7_hasCell_12 : decode cX7_hasCell 12 = .ok (.getfield 41, 3) := by decide +kernel
theorem dX7_hasCell_15 : decode cX7_hasCell 15 = .ok (.iconst 1, 1) := by decide +kernel
theorem dX7_hasCell_16 : decode cX7_hasCell 16 = .ok (.isub, 1) := by decide +kernel
theorem dX7_hasCell_17 : decode cX7_hasCell 17 = .ok (.invokestatic 63, 3) := by decide +kernel
theorem dX7_hasCell_20 : decode cX7_hasCell 20 = .ok (.ifCond .eq 7, 3) := by decide +kernel
theorem dX7_hasCell_23 : decode cX7_hasCell 23 = .ok (.iconst 1, 1) := by decide +kernel
theorem dX7_hasCell_24 : decode cX7_hasCell 24 = .ok (.goto 4, 3) := by decide +kernel
theorem dX7_hasCell_27 : decode cX7_hasCell 27 = .ok (.iconst 0, 1) := by decide +kernel
theorem dX7_hasCell_28 : decode cX7_hasCell 28 = .ok (.ireturn, 1) := by decide +kernel
def M_X7_hasCell : y_M := (yX7_hasCell, cX7_hasCell, 4, (Option.some Jvm.ClassFile.FieldType.boolean))
theorem n_X7_hasCell : y_N0 M_X7_hasCell 3 := ⟨(c_4 235 (by decide +kernel) rfl), (c_1 14 (by decide +kernel) rfl), ⟨by decide +kernel, by decide +kernel⟩, by decide +kernel⟩
theorem l_BoxYard_Ship_67 : y_lnk "BoxYard$Ship" 67 M_X7_hasColumn := Or.inl (c_4 236 (by decide +kernel) rfl)
theorem i_X7_hasColumn : Cond.instanceMethod (M_X7_hasColumn).1 ∈ y_tb := (c_4 237 (by decide +kernel) rfl)
theorem e_X7_hasColumn : Cond.selects (M_X7_hasColumn).1.cls (M_X7_hasColumn).1 (M_X7_hasColumn).1 ∈ y_tb := (c_4 238 (by decide +kernel) rfl)
theorem F_BoxYard_Ship_41 : y_F "BoxYard$Ship" 41 7 10 := ⟨_, _, _, rfl, by decide, Or.inl (c_5 57 (by decide +kernel) rfl)⟩
set_option maxRecDepth 100000 in
def f_X7_hasCell (p0 : Nat) (p1 : Int32) (p2 : Int32) (p3 : Int32) (h : y_H) : Option (Bool × y_H) :=
  if y_K h p0 = 8 then
  y_cl (f_X7_hasColumn p0 p1 p2 h) (fun r1 h2 =>
  y_jn (fun (h4 : y_H) => (
      some (false, h4) : Option (Bool × y_H))) (fun j27 =>
  if r1 = true then
    if y_K h2 p0 = 8 then
    y_cl (f_X11_isWithin p3 0 ((y_I h2 p0 10) - 1) h2) (fun r5 h6 =>
    if r5 = true then
      some (true, h6)
    else
      j27 h6)
    else none
  else
    j27 h2))
  else none
abbrev rm_X7_hasCell : Room := { frames := 2, cells := 0, slots := 0, locals := 44 }
set_option maxRecDepth 100000 in
set_option maxHeartbeats 4000000 in
theorem k_X7_hasCell {l : Launch} {G : y_G} {p0 : Nat} {p1 : Int32} {p2 : Int32} {p3 : Int32} {h hz : y_H} {rz : Bool} (hf : f_X7_hasCell p0 p1 p2 p3 h = some (rz, hz)) : y_S l G M_X7_hasCell rm_X7_hasCell [y_p p0, .int p1, .int p2, .int p3] h (some (.int (y_z rz))) hz := by
  refine y_start (lv := [(0, y_p p0), (1, .int p1), (2, .int p2), (3, .int p3)]) (by decide) (by simp [lg_sl, y_p_cat, y_ci, y_cj, M_X7_hasCell]) (by simp [lv_args, y_p_cat, y_ci, y_cj]) (fun z ad0 => ?_)
  unfold f_X7_hasCell at hf
  refine y_aload_n (x := p0) (pc2 := 1) rfl dX7_hasCell_0 rfl ?_
  refine y_iload_n (pc2 := 2) rfl dX7_hasCell_1 rfl ?_
  refine y_iload_n (pc2 := 3) rfl dX7_hasCell_2 rfl ?_
  obtain ⟨g11, hf⟩ := y_g hf
  obtain ⟨r1, h2, c3, hf⟩ := y_clE hf
  refine y_callV (As := [.int p1, .int p2]) (rm := rm_X7_hasColumn) (cells := 0) (slots := 0) (pc2 := 6) rfl dX7_hasCell_3 n_X7_hasColumn l_BoxYard_Ship_67 i_X7_hasColumn e_X7_hasColumn (ci := 7) rfl rfl (by decide) g11 rfl rfl (by decide) (by decide) (by decide) (k_X7_hasColumn c3) ?_
  refine y_jnE hf (fun j => ∀ (h4 : y_H), j h4 = some (rz, hz) → y_V l G z rm_X7_hasCell M_X7_hasCell ad0 h (some (.int (y_z rz))) hz 27 [] [] h4 0 0) (fun h4 hf => ?_) (fun j27 hj27 hf => ?_)
  · refine y_iconst (v := 0) (pc2 := 28) rfl dX7_hasCell_27 (by decide) ?_
    exact y_zretF (x := false) hf dX7_hasCell_28 rfl (by decide) (by decide)
  · refine y_ifz_eq (tgt := 27) (pc2 := 9) rfl dX7_hasCell_6 (by decide) (fun c10 => ?_) (fun c10 => ?_)
    · replace hf := y_ie c10 hf
      exact y_pk [] rfl (hj27 _ hf)
    · replace hf := y_it c10 hf
      refine y_iload_n (pc2 := 10) rfl dX7_hasCell_9 rfl ?_
      refine y_iconst (v := 0) (pc2 := 11) rfl dX7_hasCell_10 (by decide) ?_
      refine y_aload_n (x := p0) (pc2 := 12) rfl dX7_hasCell_11 rfl ?_
      obtain ⟨g9, hf⟩ := y_g hf
      refine y_getI (pc2 := 15) rfl dX7_hasCell_12 F_BoxYard_Ship_41 (by decide) rfl g9 ?_
      refine y_iconst (v := 1) (pc2 := 16) rfl dX7_hasCell_15 (by decide) ?_
      refine y_isub (pc2 := 17) rfl dX7_hasCell_16 ?_
      obtain ⟨r5, h6, c7, hf⟩ := y_clE hf
      refine y_callS (As := [.int p3, .int 0, .int ((y_I h2 p0 10) - 1)]) (rm := rm_X11_isWithin) (cells := 0) (slots := 0) (pc2 := 20) rfl dX7_hasCell_17 n_X11_isWithin l_BoxYard_Ship_63 t_X11_isWithin rfl rfl (by decide) (by decide) (by decide) (k_X11_isWithin c7) ?_
      refine y_ifz_eq (tgt := 27) (pc2 := 23) rfl dX7_hasCell_20 (by decide) (fun c8 => ?_) (fun c8 => ?_)
      · replace hf := y_ie c8 hf
        exact y_pk [] rfl (hj27 _ hf)
      · replace hf := y_it c8 hf
        refine y_iconst (v := 1) (pc2 := 24) rfl dX7_hasCell_23 (by decide) ?_
        refine y_goto (tgt := 28) dX7_hasCell_24 (by decide) ?_
        exact y_zretF (x := true) hf dX7_hasCell_28 rfl (by decide) (by decide)
theorem dX7_placeNumber_0 : decode cX7_placeNumber 0 = .ok (.iload_n 1, 1) := by decide +kernel
theorem dX7_placeNumber_1 : decode cX7_placeNumber 1 = .ok (.aload_n 0, 1) := by decide +kernel
theorem dX7_placeNumber_2 : decode cX7_placeNumber 2 = .ok (.getfield 35, 3) := by decide +kernel
theorem dX7_placeNumber_5 : decode cX7_placeNumber 5 = .ok (.iload_n 2, 1) := by decide +kernel
theorem dX7_placeNumber_6 : decode cX7_placeNumber 6 = .ok (.aload_n 0, 1) := by decide +kernel
theorem dX7_placeNumber_7 : decode cX7_placeNumber 7 = .ok (.getfield 38, 3) := by decide +kernel
theorem dX7_placeNumber_10 : decode cX7_placeNumber 10 = .ok (.iload_n 3, 1) := by decide +kernel
theorem dX7_placeNumber_11 : decode cX7_placeNumber 11 = .ok (.imul, 1) := by decide +kernel
theorem dX7_placeNumber_12 : decode cX7_placeNumber 12 = .ok (.iadd, 1) := by decide +kernel
theorem dX7_placeNumber_13 : decode cX7_placeNumber 13 = .ok (.imul, 1) := by decide +kernel
theorem dX7_placeNumber_14 : decode cX7_placeNumber 14 = .ok (.iadd, 1) := by decide +kernel
theorem dX7_placeNumber_15 : decode cX7_placeNumber 15 = .ok (.ireturn, 1) := by decide +kernel
def M_X7_placeNumber : y_M := (yX7_placeNumber, cX7_placeNumber, 4, (Option.some Jvm.ClassFile.FieldType.int))
theorem n_X7_placeNumber : y_N0 M_X7_placeNumber 3 := ⟨(c_4 217 (by decide +kernel) rfl), (c_1 14 (by decide +kernel) rfl), ⟨by decide +kernel, by decide +kernel⟩, by decide +kernel⟩
set_option maxRecDepth 100000 in
def f_X7_placeNumber (p0 : Nat) (p1 : Int32) (p2 : Int32) (p3 : Int32) (h : y_H) : Option (Int32 × y_H) :=
  if y_K h p0 = 8 then
  if y_K h p0 = 8 then
  some (p1 + ((y_I h p0 8) * (p2 + ((y_I h p0 9) * p3))), h)
  else none
  else none
abbrev rm_X7_placeNumber : Room := { frames := 0, cells := 0, slots := 0, locals := 0 }
set_option maxRecDepth 100000 in
set_option maxHeartbeats 4000000 in
theorem k_X7_placeNumber {l : Launch} {G : y_G} {p0 : Nat} {p1 : Int32} {p2 : Int32} {p3 : Int32} {h hz : y_H} {rz : Int32} (hf : f_X7_placeNumber p0 p1 p2 p3 h = some (rz, hz)) : y_S l G M_X7_placeNumber rm_X7_placeNumber [y_p p0, .int p1, .int p2, .int p3] h (some (.int rz)) hz := by
  refine y_start (lv := [(0, y_p p0), (1, .int p1), (2, .int p2), (3, .int p3)]) (by decide) (by simp [lg_sl, y_p_cat, y_ci, y_cj, M_X7_placeNumber]) (by simp [lv_args, y_p_cat, y_ci, y_cj]) (fun z ad0 => ?_)
  unfold f_X7_placeNumber at hf
  refine y_iload_n (pc2 := 1) rfl dX7_placeNumber_0 rfl ?_
  refine y_aload_n (x := p0) (pc2 := 2) rfl dX7_placeNumber_1 rfl ?_
  obtain ⟨g2, hf⟩ := y_g hf
  refine y_getI (pc2 := 5) rfl dX7_placeNumber_2 F_BoxYard_Ship_35 (by decide) rfl g2 ?_
  refine y_iload_n (pc2 := 6) rfl dX7_placeNumber_5 rfl ?_
  refine y_aload_n (x := p0) (pc2 := 7) rfl dX7_placeNumber_6 rfl ?_
  obtain ⟨g1, hf⟩ := y_g hf
  refine y_getI (pc2 := 10) rfl dX7_placeNumber_7 F_BoxYard_Ship_38 (by decide) rfl g1 ?_
  refine y_iload_n (pc2 := 11) rfl dX7_placeNumber_10 rfl ?_
  refine y_imul (pc2 := 12) rfl dX7_placeNumber_11 ?_
  refine y_iadd (pc2 := 13) rfl dX7_placeNumber_12 ?_
  refine y_imul (pc2 := 14) rfl dX7_placeNumber_13 ?_
  refine y_iadd (pc2 := 15) rfl dX7_placeNumber_14 ?_
  exact y_iretF hf dX7_placeNumber_15 rfl (by decide) (by decide)
theorem dX7_topAt_0 : decode cX7_topAt 0 = .ok (.aload_n 0, 1) := by decide +kernel
theorem dX7_topAt_1 : decode cX7_topAt 1 = .ok (.iload_n 1, 1) := by decide +kernel
theorem dX7_topAt_2 : decode cX7_topAt 2 = .ok (.iload_n 2, 1) := by decide +kernel
theorem dX7_topAt_3 : decode cX7_topAt 3 = .ok (.invokevirtual 67, 3) := by decide +kernel
theorem dX7_topAt_6 : decode cX7_topAt 6 = .ok (.ifCond .ne 5, 3) := by decide +kernel
theorem dX7_topAt_9 : decode cX7_topAt 9 = .ok (.aconst_null, 1) := by decide +kernel
theorem dX7_topAt_10 : decode cX7_topAt 10 = .ok (.areturn, 1) := by decide +kernel
theorem dX7_topAt_11 : decode cX7_topAt 11 = .ok (.aload_n 0, 1) := by decide +kernel
theorem dX7_topAt_12 : decode cX7_topAt 12 = .ok (.getfield 41, 3) := by decide +kernel
theorem dX7_topAt_15 : decode cX7_topAt 15 = .ok (.iconst 1, 1) := by decide +kernel
theorem dX7_topAt_16 : decode cX7_topAt 16 = .ok (.isub, 1) := by decide +kernel
theorem dX7_topAt_17 : decode cX7_topAt 17 = .ok (.istore_n 3, 1) := by decide +kernel
theorem dX7_topAt_18 : decode cX7_topAt 18 = .ok (.iload_n 3, 1) := by decide +kernel
theorem dX7_topAt_19 : decode cX7_topAt 19 = .ok (.ifCond .lt 31, 3) := by decide +kernel
theorem dX7_topAt_22 : decode cX7_topAt 22 = .ok (.aload_n 0, 1) := by decide +kernel
theorem dX7_topAt_23 : decode cX7_topAt 23 = .ok (.getfield 13, 3) := by decide +kernel
theorem dX7_topAt_26 : decode cX7_topAt 26 = .ok (.aload_n 0, 1) := by decide +kernel
theorem dX7_topAt_27 : decode cX7_topAt 27 = .ok (.iload_n 1, 1) := by decide +kernel
theorem dX7_topAt_28 : decode cX7_topAt 28 = .ok (.iload_n 2, 1) := by decide +kernel
theorem dX7_topAt_29 : decode cX7_topAt 29 = .ok (.iload_n 3, 1) := by decide +kernel
theorem dX7_topAt_30 : decode cX7_topAt 30 = .ok (.invokevirtual 71, 3) := by decide +kernel
theorem dX7_topAt_33 : decode cX7_topAt 33 = .ok (.aaload, 1) := by decide +kernel
theorem dX7_topAt_34 : decode cX7_topAt 34 = .ok (.astore 4, 2) := by decide +kernel
theorem dX7_topAt_36 : decode cX7_topAt 36 = .ok (.aload 4, 2) := by decide +kernel
theorem dX7_topAt_38 : decode cX7_topAt 38 = .ok (.ifnull 6, 3) := by decide +kernel
theorem dX7_topAt_41 : decode cX7_topAt 41 = .ok (.aload 4, 2) := by decide +kernel
theorem dX7_topAt_43 : decode cX7_topAt 43 = .ok (.areturn, 1) := by decide +kernel
theorem dX7_topAt_44 : decode cX7_topAt 44 = .ok (.iinc 3 (-1), 3) := by decide +kernel
theorem dX7_topAt_47 : decode cX7_topAt 47 = .ok (.goto (-29), 3) := by decide +kernel
theorem dX7_topAt_50 : decode cX7_topAt 50 = .ok (.aconst_null, 1) := by decide +kernel
theorem dX7_topAt_51 : decode cX7_topAt 51 = .ok (.areturn, 1) := by decide +kernel
def M_X7_topAt : y_M := (yX7_topAt, cX7_topAt, 5, (Option.some (Jvm.ClassFile.FieldType.object "BoxYard$Box")))
theorem n_X7_topAt : y_N0 M_X7_topAt 2 := ⟨(c_5 14 (by decide +kernel) rfl), (c_1 14 (by decide +kernel) rfl), ⟨by decide +kernel, by decide +kernel⟩, by decide +kernel⟩
theorem l_BoxYard_Ship_71 : y_lnk "BoxYard$Ship" 71 M_X7_placeNumber := Or.inl (c_4 214 (by decide +kernel) rfl)
theorem i_X7_placeNumber : Cond.instanceMethod (M_X7_placeNumber).1 ∈ y_tb := (c_4 215 (by decide +kernel) rfl)
theorem e_X7_placeNumber : Cond.selects (M_X7_placeNumber).1.cls (M_X7_placeNumber).1 (M_X7_placeNumber).1 ∈ y_tb := (c_4 216 (by decide +kernel) rfl)
set_option maxRecDepth 100000 in
def f_X7_topAt (p0 : Nat) (p1 : Int32) (p2 : Int32) (h : y_H) : Option (Nat × y_H) :=
  if y_K h p0 = 8 then
  y_cl (f_X7_hasColumn p0 p1 p2 h) (fun r1 h2 =>
  if r1 = true then
    if y_K h2 p0 = 8 then
    y_jl (fun (_ : Nat) (_ : Int32) (_ : Int32) (_ : Int32) (_ : y_H) => (none : Option (Nat × y_H))) (fun j18 (v0_18 : Nat) (v1_18 : Int32) (v2_18 : Int32) (v3_18 : Int32) (h4 : y_H) =>
        if v3_18 < 0 then
          some (0, h4)
        else
          if y_K h4 v0_18 = 8 then
          if y_K h4 v0_18 = 8 then
          y_cl (f_X7_placeNumber v0_18 v1_18 v2_18 v3_18 h4) (fun r5 h6 =>
          if y_K h6 (y_P h4 v0_18 1) = 103 ∧ y_ix r5 (y_N h6 (y_P h4 v0_18 1)) = true then
          if (y_P h6 (y_P h4 v0_18 1) (Int32.toNatClampNeg r5)) = 0 then
            j18 v0_18 v1_18 v2_18 (v3_18 + (-1 : Int32)) h6
          else
            some (y_P h6 (y_P h4 v0_18 1) (Int32.toNatClampNeg r5), h6)
          else none)
          else none
          else none) (fun j18 =>
    j18 p0 p1 p2 ((y_I h2 p0 10) - 1) h2)
    else none
  else
    some (0, h2))
  else none
abbrev rm_X7_topAt : Room := { frames := 2, cells := 0, slots := 0, locals := 44 }
set_option maxRecDepth 100000 in
set_option maxHeartbeats 4000000 in
theorem k_X7_topAt {l : Launch} {G : y_G} {p0 : Nat} {p1 : Int32} {p2 : Int32} {h hz : y_H} {rz : Nat} (hf : f_X7_topAt p0 p1 p2 h = some (rz, hz)) : y_S l G M_X7_topAt rm_X7_topAt [y_p p0, .int p1, .int p2] h (some (y_p rz)) hz := by
  refine y_start (lv := [(0, y_p p0), (1, .int p1), (2, .int p2)]) (by decide) (by simp [lg_sl, y_p_cat, y_ci, y_cj, M_X7_topAt]) (by simp [lv_args, y_p_cat, y_ci, y_cj]) (fun z ad0 => ?_)
  unfold f_X7_topAt at hf
  refine y_aload_n (x := p0) (pc2 := 1) rfl dX7_topAt_0 rfl ?_
  refine y_iload_n (pc2 := 2) rfl dX7_topAt_1 rfl ?_
  refine y_iload_n (pc2 := 3) rfl dX7_topAt_2 rfl ?_
  obtain ⟨g15, hf⟩ := y_g hf
  obtain ⟨r1, h2, c3, hf⟩ := y_clE hf
  refine y_callV (As := [.int p1, .int p2]) (rm := rm_X7_hasColumn) (cells := 0) (slots := 0) (pc2 := 6) rfl dX7_topAt_3 n_X7_hasColumn l_BoxYard_Ship_67 i_X7_hasColumn e_X7_hasColumn (ci := 7) rfl rfl (by decide) g15 rfl rfl (by decide) (by decide) (by decide) (k_X7_hasColumn c3) ?_
  refine y_ifz_ne (tgt := 11) (pc2 := 9) rfl dX7_topAt_6 (by decide) (fun c14 => ?_) (fun c14 => ?_)
  · replace hf := y_it c14 hf
    refine y_aload_n (x := p0) (pc2 := 12) rfl dX7_topAt_11 rfl ?_
    obtain ⟨g13, hf⟩ := y_g hf
    refine y_getI (pc2 := 15) rfl dX7_topAt_12 F_BoxYard_Ship_41 (by decide) rfl g13 ?_
    refine y_iconst (v := 1) (pc2 := 16) rfl dX7_topAt_15 (by decide) ?_
    refine y_isub (pc2 := 17) rfl dX7_topAt_16 ?_
    refine y_jlE hf (fun j => ∀ (v0_18 : Nat) (v1_18 : Int32) (v2_18 : Int32) (v3_18 : Int32) (h4 : y_H), j v0_18 v1_18 v2_18 v3_18 h4 = some (rz, hz) → y_V l G z rm_X7_topAt M_X7_topAt ad0 h (some (y_p rz)) hz 18 [(0, y_p v0_18), (1, .int v1_18), (2, .int v2_18), (3, .int v3_18)] [] h4 0 0) (fun _ _ _ _ _ hf => by cases hf) (fun j18 hj18 v0_18 v1_18 v2_18 v3_18 h4 hf => ?_) (fun j18 hj18 hf => ?_)
    · refine y_iload_n (pc2 := 19) rfl dX7_topAt_18 rfl ?_
      refine y_if_lt (tgt := 50) (pc2 := 22) rfl dX7_topAt_19 (by decide) (fun c12 => ?_) (fun c12 => ?_)
      · replace hf := y_it c12 hf
        refine y_null (pc2 := 51) rfl dX7_topAt_50 ?_
        exact y_aretF hf dX7_topAt_51 rfl (Or.inl ⟨_, rfl⟩) (by decide) (by decide)
      · replace hf := y_ie c12 hf
        refine y_aload_n (x := v0_18) (pc2 := 23) rfl dX7_topAt_22 rfl ?_
        obtain ⟨g11, hf⟩ := y_g hf
        refine y_getP (pc2 := 26) rfl dX7_topAt_23 F_BoxYard_Ship_13 (by decide) rfl g11 ?_
        refine y_aload_n (x := v0_18) (pc2 := 27) rfl dX7_topAt_26 rfl ?_
        refine y_iload_n (pc2 := 28) rfl dX7_topAt_27 rfl ?_
        refine y_iload_n (pc2 := 29) rfl dX7_topAt_28 rfl ?_
        refine y_iload_n (pc2 := 30) rfl dX7_topAt_29 rfl ?_
        obtain ⟨g10, hf⟩ := y_g hf
        obtain ⟨r5, h6, c7, hf⟩ := y_clE hf
        refine y_callV (As := [.int v1_18, .int v2_18, .int v3_18]) (rm := rm_X7_placeNumber) (cells := 0) (slots := 0) (pc2 := 33) rfl dX7_topAt_30 n_X7_placeNumber l_BoxYard_Ship_71 i_X7_placeNumber e_X7_placeNumber (ci := 7) rfl rfl (by decide) g10 rfl rfl (by decide) (by simp [y_ci, y_cj, y_p_cat]) (by decide) (k_X7_placeNumber c7) ?_
        obtain ⟨g9, hf⟩ := y_g hf
        refine y_aald (t := 3) (pc2 := 34) rfl dX7_topAt_33 (by decide) rfl g9.1 (y_ix_in g9.2) ?_
        refine y_astore (lv' := [(4, y_p (y_P h6 (y_P h4 v0_18 1) (Int32.toNatClampNeg r5))), (0, y_p v0_18), (1, .int v1_18), (2, .int v2_18), (3, .int v3_18)]) (pc2 := 36) rfl dX7_topAt_34 (by decide) rfl ?_
        refine y_aload (x := y_P h6 (y_P h4 v0_18 1) (Int32.toNatClampNeg r5)) (pc2 := 38) rfl dX7_topAt_36 rfl ?_
        refine y_ifnull (tgt := 44) (pc2 := 41) rfl dX7_topAt_38 (by decide) (fun c8 => ?_) (fun c8 => ?_)
        · replace hf := y_it c8 hf
          refine y_iinc (v := v3_18 + (-1 : Int32)) (lv' := [(3, .int (v3_18 + (-1 : Int32))), (4, y_p (y_P h6 (y_P h4 v0_18 1) (Int32.toNatClampNeg r5))), (0, y_p v0_18), (1, .int v1_18), (2, .int v2_18)]) (pc2 := 47) rfl dX7_topAt_44 rfl rfl (by decide) rfl ?_
          refine y_goto (tgt := 18) dX7_topAt_47 (by decide) ?_
          exact y_pk [2, 3, 4, 0] rfl (hj18 _ _ _ _ _ hf)
        · replace hf := y_ie c8 hf
          refine y_aload (x := y_P h6 (y_P h4 v0_18 1) (Int32.toNatClampNeg r5)) (pc2 := 43) rfl dX7_topAt_41 rfl ?_
          exact y_aretF hf dX7_topAt_43 rfl (Or.inl ⟨_, rfl⟩) (by decide) (by decide)
    · refine y_istore_n (lv' := [(3, .int ((y_I h2 p0 10) - 1)), (0, y_p p0), (1, .int p1), (2, .int p2)]) (pc2 := 18) rfl dX7_topAt_17 (by decide) rfl ?_
      exact y_pk [1, 2, 3, 0] rfl (hj18 _ _ _ _ _ hf)
  · replace hf := y_ie c14 hf
    refine y_null (pc2 := 10) rfl dX7_topAt_9 ?_
    exact y_aretF hf dX7_topAt_10 rfl (Or.inl ⟨_, rfl⟩) (by decide) (by decide)
theorem dX7_putIn_0 : decode cX7_putIn 0 = .ok (.iload_n 2, 1) := by decide +kernel
theorem dX7_putIn_1 : decode cX7_putIn 1 = .ok (.iconst 0, 1) := by decide +kernel
theorem dX7_putIn_2 : decode cX7_putIn 2 = .ok (.bipush 53, 2) := by decide +kernel
theorem dX7_putIn_4 : decode cX7_putIn 4 = .ok (.invokestatic 63, 3) := by decide +kernel
theorem dX7_putIn_7 : decode cX7_putIn 7 = .ok (.ifCond .eq 10, 3) := by decide +kernel
theorem dX7_putIn_10 : decode cX7_putIn 10 = .ok (.aload_n 0, 1) := by decide +kernel
theorem dX7_putIn_11 : decode cX7_putIn 11 = .ok (.getfield 13, 3) := by decide +kernel
theorem dX7_putIn_14 : decode cX7_putIn 14 = .ok (.iload_n 2, 1) := by decide +kernel
theorem dX7_putIn_15 : decode cX7_putIn 15 = .ok (.aload_n 1, 1) := by decide +kernel
theorem dX7_putIn_16 : decode cX7_putIn 16 = .ok (.aastore, 1) := by decide +kernel
theorem dX7_putIn_17 : decode cX7_putIn 17 = .ok (.return_, 1) := by decide +kernel
def M_X7_putIn : y_M := (yX7_putIn, cX7_putIn, 3, (Option.none : Option Jvm.ClassFile.FieldType))
theorem n_X7_putIn : y_N0 M_X7_putIn 2 := ⟨(c_4 167 (by decide +kernel) rfl), (c_1 14 (by decide +kernel) rfl), ⟨by decide +kernel, by decide +kernel⟩, by decide +kernel⟩
set_option maxRecDepth 100000 in
def f_X7_putIn (p0 : Nat) (p1 : Nat) (p2 : Int32) (h : y_H) : Option (Unit × y_H) :=
  y_cl (f_X11_isWithin p2 0 53 h) (fun r1 h2 =>
  y_jn (fun (h4 : y_H) => (
      some ((), h4) : Option (Unit × y_H))) (fun j17 =>
  if r1 = true then
    if y_K h2 p0 = 8 then
    if y_K h2 (y_P h2 p0 1) = 103 ∧ y_ix p2 (y_N h2 (y_P h2 p0 1)) = true ∧ (p1 = 0 ∨ y_K h2 p1 = 3) then
    y_bd (s_P h2 (y_P h2 p0 1) (Int32.toNatClampNeg p2) p1) (fun h5 =>
    j17 h5)
    else none
    else none
  else
    j17 h2))
abbrev rm_X7_putIn : Room := { frames := 1, cells := 0, slots := 0, locals := 22 }
set_option maxRecDepth 100000 in
set_option maxHeartbeats 4000000 in
theorem k_X7_putIn {l : Launch} {G : y_G} {p0 : Nat} {p1 : Nat} {p2 : Int32} {h hz : y_H} {rz : Unit} (hf : f_X7_putIn p0 p1 p2 h = some (rz, hz)) : y_S l G M_X7_putIn rm_X7_putIn [y_p p0, y_p p1, .int p2] h none hz := by
  refine y_start (lv := [(0, y_p p0), (1, y_p p1), (2, .int p2)]) (by decide) (by simp [lg_sl, y_p_cat, y_ci, y_cj, M_X7_putIn]) (by simp [lv_args, y_p_cat, y_ci, y_cj]) (fun z ad0 => ?_)
  unfold f_X7_putIn at hf
  refine y_iload_n (pc2 := 1) rfl dX7_putIn_0 rfl ?_
  refine y_iconst (v := 0) (pc2 := 2) rfl dX7_putIn_1 (by decide) ?_
  refine y_bipush (v := 53) (pc2 := 4) rfl dX7_putIn_2 (by decide) ?_
  obtain ⟨r1, h2, c3, hf⟩ := y_clE hf
  refine y_callS (As := [.int p2, .int 0, .int 53]) (rm := rm_X11_isWithin) (cells := 0) (slots := 0) (pc2 := 7) rfl dX7_putIn_4 n_X11_isWithin l_BoxYard_Ship_63 t_X11_isWithin rfl rfl (by decide) (by decide) (by decide) (k_X11_isWithin c3) ?_
  refine y_jnE hf (fun j => ∀ (h4 : y_H), j h4 = some (rz, hz) → y_V l G z rm_X7_putIn M_X7_putIn ad0 h none hz 17 [] [] h4 0 0) (fun h4 hf => ?_) (fun j17 hj17 hf => ?_)
  · exact y_vretF hf dX7_putIn_17 rfl (by decide) (by decide)
  · refine y_ifz_eq (tgt := 17) (pc2 := 10) rfl dX7_putIn_7 (by decide) (fun c9 => ?_) (fun c9 => ?_)
    · replace hf := y_ie c9 hf
      exact y_pk [] rfl (hj17 _ hf)
    · replace hf := y_it c9 hf
      refine y_aload_n (x := p0) (pc2 := 11) rfl dX7_putIn_10 rfl ?_
      obtain ⟨g8, hf⟩ := y_g hf
      refine y_getP (pc2 := 14) rfl dX7_putIn_11 F_BoxYard_Ship_13 (by decide) rfl g8 ?_
      refine y_iload_n (pc2 := 15) rfl dX7_putIn_14 rfl ?_
      refine y_aload_n (x := p1) (pc2 := 16) rfl dX7_putIn_15 rfl ?_
      obtain ⟨g7, hf⟩ := y_g hf
      obtain ⟨h5, e6, hf⟩ := y_bdE hf
      refine y_aast (t := 3) (ci := 2) (x := p1) (pc2 := 17) rfl dX7_putIn_16 (by decide) rfl (by decide) rfl g7.1 (y_ix_in g7.2.1) g7.2.2 e6 ?_
      exact y_pk [] rfl (hj17 _ hf)
theorem dX7_factor_0 : decode cX7_factor 0 = .ok (.iload_n 1, 1) := by decide +kernel
theorem dX7_factor_1 : decode cX7_factor 1 = .ok (.tableswitch 52 0 2 #[27, 38, 49], 27) := by decide +kernel
theorem dX7_factor_28 : decode cX7_factor 28 = .ok (.iconst 2, 1) := by decide +kernel
theorem dX7_factor_29 : decode cX7_factor 29 = .ok (.iload_n 2, 1) := by decide +kernel
theorem dX7_factor_30 : decode cX7_factor 30 = .ok (.imul, 1) := by decide +kernel
theorem dX7_factor_31 : decode cX7_factor 31 = .ok (.iconst 1, 1) := by decide +kernel
theorem dX7_factor_32 : decode cX7_factor 32 = .ok (.iadd, 1) := by decide +kernel
theorem dX7_factor_33 : decode cX7_factor 33 = .ok (.aload_n 0, 1) := by decide +kernel
theorem dX7_factor_34 : decode cX7_factor 34 = .ok (.getfield 35, 3) := by decide +kernel
theorem dX7_factor_37 : decode cX7_factor 37 = .ok (.isub, 1) := by decide +kernel
theorem dX7_factor_38 : decode cX7_factor 38 = .ok (.ireturn, 1) := by decide +kernel
theorem dX7_factor_39 : decode cX7_factor 39 = .ok (.iconst 2, 1) := by decide +kernel
theorem dX7_factor_40 : decode cX7_factor 40 = .ok (.iload_n 3, 1) := by decide +kernel
theorem dX7_factor_41 : decode cX7_factor 41 = .ok (.imul, 1) := by decide +kernel
theorem dX7_factor_42 : decode cX7_factor 42 = .ok (.iconst 1, 1) := by decide +kernel
theorem dX7_factor_43 : decode cX7_factor 43 = .ok (.iadd, 1) := by decide +kernel
theorem dX7_factor_44 : decode cX7_factor 44 = .ok (.aload_n 0, 1) := by decide +kernel
theorem dX7_factor_45 : decode cX7_factor 45 = .ok (.getfield 38, 3) := by decide +kernel
theorem dX7_factor_48 : decode cX7_factor 48 = .ok (.isub, 1) := by decide +kernel
theorem dX7_factor_49 : decode cX7_factor 49 = .ok (.ireturn, 1) := by decide +kernel
theorem dX7_factor_50 : decode cX7_factor 50 = .ok (.iload 4, 2) := by decide +kernel
theorem dX7_factor_52 : decode cX7_factor 52 = .ok (.ireturn, 1) := by decide +kernel
theorem dX7_factor_53 : decode cX7_factor 53 = .ok (.iconst 1, 1) := by decide +kernel
theorem dX7_factor_54 : decode cX7_factor 54 = .ok (.ireturn, 1) := by decide +kernel
def M_X7_factor : y_M := (yX7_factor, cX7_factor, 5, (Option.some Jvm.ClassFile.FieldType.int))
theorem n_X7_factor : y_N0 M_X7_factor 4 := ⟨(c_4 227 (by decide +kernel) rfl), (c_1 14 (by decide +kernel) rfl), ⟨by decide +kernel, by decide +kernel⟩, by decide +kernel⟩
set_option maxRecDepth 100000 in
def f_X7_factor (p0 : Nat) (p1 : Int32) (p2 : Int32) (p3 : Int32) (p4 : Int32) (h : y_H) : Option (Int32 × y_H) :=
  if p1 = 0 then
    if y_K h p0 = 8 then
    some (((2 * p2) + 1) - (y_I h p0 8), h)
    else none
  else
  if p1 = 1 then
    if y_K h p0 = 8 then
    some (((2 * p3) + 1) - (y_I h p0 9), h)
    else none
  else
  if p1 = 2 then
    some (p4, h)
  else
  some (1, h)
abbrev rm_X7_factor : Room := { frames := 0, cells := 0, slots := 0, locals := 0 }
set_option maxRecDepth 100000 in
set_option maxHeartbeats 4000000 in
theorem k_X7_factor {l : Launch} {G : y_G} {p0 : Nat} {p1 : Int32} {p2 : Int32} {p3 : Int32} {p4 : Int32} {h hz : y_H} {rz : Int32} (hf : f_X7_factor p0 p1 p2 p3 p4 h = some (rz, hz)) : y_S l G M_X7_factor rm_X7_factor [y_p p0, .int p1, .int p2, .int p3, .int p4] h (some (.int rz)) hz := by
  refine y_start (lv := [(0, y_p p0), (1, .int p1), (2, .int p2), (3, .int p3), (4, .int p4)]) (by decide) (by simp [lg_sl, y_p_cat, y_ci, y_cj, M_X7_factor]) (by simp [lv_args, y_p_cat, y_ci, y_cj]) (fun z ad0 => ?_)
  unfold f_X7_factor at hf
  refine y_iload_n (pc2 := 1) rfl dX7_factor_0 rfl ?_
  by_cases c1 : p1 = 0
  · replace hf := y_it c1 hf
    refine y_table (off := 27) (tgt := 28) dX7_factor_1 (by (rw [c1]) <;> decide) (by decide) ?_
    refine y_iconst (v := 2) (pc2 := 29) rfl dX7_factor_28 (by decide) ?_
    refine y_iload_n (pc2 := 30) rfl dX7_factor_29 rfl ?_
    refine y_imul (pc2 := 31) rfl dX7_factor_30 ?_
    refine y_iconst (v := 1) (pc2 := 32) rfl dX7_factor_31 (by decide) ?_
    refine y_iadd (pc2 := 33) rfl dX7_factor_32 ?_
    refine y_aload_n (x := p0) (pc2 := 34) rfl dX7_factor_33 rfl ?_
    obtain ⟨g2, hf⟩ := y_g hf
    refine y_getI (pc2 := 37) rfl dX7_factor_34 F_BoxYard_Ship_35 (by decide) rfl g2 ?_
    refine y_isub (pc2 := 38) rfl dX7_factor_37 ?_
    exact y_iretF hf dX7_factor_38 rfl (by decide) (by decide)
  · replace hf := y_ie c1 hf
    by_cases c3 : p1 = 1
    · replace hf := y_it c3 hf
      refine y_table (off := 38) (tgt := 39) dX7_factor_1 (by (rw [c3]) <;> decide) (by decide) ?_
      refine y_iconst (v := 2) (pc2 := 40) rfl dX7_factor_39 (by decide) ?_
      refine y_iload_n (pc2 := 41) rfl dX7_factor_40 rfl ?_
      refine y_imul (pc2 := 42) rfl dX7_factor_41 ?_
      refine y_iconst (v := 1) (pc2 := 43) rfl dX7_factor_42 (by decide) ?_
      refine y_iadd (pc2 := 44) rfl dX7_factor_43 ?_
      refine y_aload_n (x := p0) (pc2 := 45) rfl dX7_factor_44 rfl ?_
      obtain ⟨g4, hf⟩ := y_g hf
      refine y_getI (pc2 := 48) rfl dX7_factor_45 F_BoxYard_Ship_38 (by decide) rfl g4 ?_
      refine y_isub (pc2 := 49) rfl dX7_factor_48 ?_
      exact y_iretF hf dX7_factor_49 rfl (by decide) (by decide)
    · replace hf := y_ie c3 hf
      by_cases c5 : p1 = 2
      · replace hf := y_it c5 hf
        refine y_table (off := 49) (tgt := 50) dX7_factor_1 (by (rw [c5]) <;> decide) (by decide) ?_
        refine y_iload (pc2 := 52) rfl dX7_factor_50 rfl ?_
        exact y_iretF hf dX7_factor_52 rfl (by decide) (by decide)
      · replace hf := y_ie c5 hf
        refine y_table (off := 52) (tgt := 53) dX7_factor_1 ((if_pos (by have q0 := lv_neT c1 (a := 0) (by decide); have q1 := lv_neT c3 (a := 1) (by decide); have q2 := lv_neT c5 (a := 2) (by decide); omega))) (by decide) ?_
        refine y_iconst (v := 1) (pc2 := 54) rfl dX7_factor_53 (by decide) ?_
        exact y_iretF hf dX7_factor_54 rfl (by decide) (by decide)
theorem dX7_include_0 : decode cX7_include 0 = .ok (.aload_n 0, 1) := by decide +kernel
theorem dX7_include_1 : decode cX7_include 1 = .ok (.getfield 17, 3) := by decide +kernel
theorem dX7_include_4 : decode cX7_include 4 = .ok (.aload_n 0, 1) := by decide +kernel
theorem dX7_include_5 : decode cX7_include 5 = .ok (.iload_n 2, 1) := by decide +kernel
theorem dX7_include_6 : decode cX7_include 6 = .ok (.iload_n 3, 1) := by decide +kernel
theorem dX7_include_7 : decode cX7_include 7 = .ok (.iload 4, 2) := by decide +kernel
theorem dX7_include_9 : decode cX7_include 9 = .ok (.invokevirtual 71, 3) := by decide +kernel
theorem dX7_include_12 : decode cX7_include 12 = .ok (.iconst 1, 1) := by decide +kernel
theorem dX7_include_13 : decode cX7_include 13 = .ok (.bastore, 1) := by decide +kernel
theorem dX7_include_14 : decode cX7_include 14 = .ok (.iconst 0, 1) := by decide +kernel
theorem dX7_include_15 : decode cX7_include 15 = .ok (.istore 5, 2) := by decide +kernel
theorem dX7_include_17 : decode cX7_include 17 = .ok (.iload 5, 2) := by decide +kernel
theorem dX7_include_19 : decode cX7_include 19 = .ok (.iconst 3, 1) := by decide +kernel
theorem dX7_include_20 : decode cX7_include 20 = .ok (.if_icmp .gt 34, 3) := by decide +kernel
theorem dX7_include_23 : decode cX7_include 23 = .ok (.aload_n 0, 1) := by decide +kernel
theorem dX7_include_24 : decode cX7_include 24 = .ok (.getfield 21, 3) := by decide +kernel
theorem dX7_include_27 : decode cX7_include 27 = .ok (.iload 5, 2) := by decide +kernel
theorem dX7_include_29 : decode cX7_include 29 = .ok (.dup2, 1) := by decide +kernel
theorem dX7_include_30 : decode cX7_include 30 = .ok (.iaload, 1) := by decide +kernel
theorem dX7_include_31 : decode cX7_include 31 = .ok (.aload_n 1, 1) := by decide +kernel
theorem dX7_include_32 : decode cX7_include 32 = .ok (.invokevirtual 82, 3) := by decide +kernel
theorem dX7_include_35 : decode cX7_include 35 = .ok (.aload_n 0, 1) := by decide +kernel
theorem dX7_include_36 : decode cX7_include 36 = .ok (.iload 5, 2) := by decide +kernel
theorem dX7_include_38 : decode cX7_include 38 = .ok (.iload_n 2, 1) := by decide +kernel
theorem dX7_include_39 : decode cX7_include 39 = .ok (.iload_n 3, 1) := by decide +kernel
theorem dX7_include_40 : decode cX7_include 40 = .ok (.iload 4, 2) := by decide +kernel
theorem dX7_include_42 : decode cX7_include 42 = .ok (.invokevirtual 86, 3) := by decide +kernel
theorem dX7_include_45 : decode cX7_include 45 = .ok (.imul, 1) := by decide +kernel
theorem dX7_include_46 : decode cX7_include 46 = .ok (.iadd, 1) := by decide +kernel
theorem dX7_include_47 : decode cX7_include 47 = .ok (.iastore, 1) := by decide +kernel
theorem dX7_include_48 : decode cX7_include 48 = .ok (.iinc 5 1, 3) := by decide +kernel
theorem dX7_include_51 : decode cX7_include 51 = .ok (.goto (-34), 3) := by decide +kernel
theorem dX7_include_54 : decode cX7_include 54 = .ok (.aload_n 0, 1) := by decide +kernel
theorem dX7_include_55 : decode cX7_include 55 = .ok (.dup, 1) := by decide +kernel
theorem dX7_include_56 : decode cX7_include 56 = .ok (.getfield 75, 3) := by decide +kernel
theorem dX7_include_59 : decode cX7_include 59 = .ok (.iconst 1, 1) := by decide +kernel
theorem dX7_include_60 : decode cX7_include 60 = .ok (.iadd, 1) := by decide +kernel
theorem dX7_include_61 : decode cX7_include 61 = .ok (.putfield 75, 3) := by decide +kernel
theorem dX7_include_64 : decode cX7_include 64 = .ok (.return_, 1) := by decide +kernel
def M_X7_include : y_M := (yX7_include, cX7_include, 6, (Option.none : Option Jvm.ClassFile.FieldType))
theorem n_X7_include : y_N0 M_X7_include 4 := ⟨(c_4 221 (by decide +kernel) rfl), (c_1 14 (by decide +kernel) rfl), ⟨by decide +kernel, by decide +kernel⟩, by decide +kernel⟩
theorem F_BoxYard_Ship_17 : y_F "BoxYard$Ship" 17 7 2 := ⟨_, _, _, rfl, by decide, Or.inl (c_5 45 (by decide +kernel) rfl)⟩
theorem F_BoxYard_Ship_75 : y_F "BoxYard$Ship" 75 7 4 := ⟨_, _, _, rfl, by decide, Or.inl (c_5 48 (by decide +kernel) rfl)⟩
theorem Fp_BoxYard_Ship_75 {nm : String} : y_Fp "BoxYard$Ship" nm 75 7 4 := ⟨_, _, _, rfl, by decide, Or.inl ⟨rfl, Or.inl (c_5 48 (by decide +kernel) rfl)⟩⟩
theorem F_BoxYard_Ship_21 : y_F "BoxYard$Ship" 21 7 3 := ⟨_, _, _, rfl, by decide, Or.inl (c_5 46 (by decide +kernel) rfl)⟩
theorem l_BoxYard_Ship_82 : y_lnk "BoxYard$Ship" 82 M_X2_known := Or.inl (c_4 222 (by decide +kernel) rfl)
theorem l_BoxYard_Ship_86 : y_lnk "BoxYard$Ship" 86 M_X7_factor := Or.inl (c_4 223 (by decide +kernel) rfl)
theorem i_X7_factor : Cond.instanceMethod (M_X7_factor).1 ∈ y_tb := (c_4 225 (by decide +kernel) rfl)
theorem e_X7_factor : Cond.selects (M_X7_factor).1.cls (M_X7_factor).1 (M_X7_factor).1 ∈ y_tb := (m_s 22 (by decide +kernel) rfl)
set_option maxRecDepth 100000 in
def f_X7_include (p0 : Nat) (p1 : Nat) (p2 : Int32) (p3 : Int32) (p4 : Int32) (h : y_H) : Option (Unit × y_H) :=
  if y_K h p0 = 8 then
  if y_K h p0 = 8 then
  y_cl (f_X7_placeNumber p0 p2 p3 p4 h) (fun r1 h2 =>
  if y_K h2 (y_P h p0 2) = 102 ∧ y_ix r1 (y_N h2 (y_P h p0 2)) = true then
  y_bd (s_B h2 (y_P h p0 2) (Int32.toNatClampNeg r1) true) (fun h4 =>
  y_jl (fun (_ : Nat) (_ : Nat) (_ : Int32) (_ : Int32) (_ : Int32) (_ : Int32) (_ : y_H) => (none : Option (Unit × y_H))) (fun j17 (v0_17 : Nat) (v1_17 : Nat) (v2_17 : Int32) (v3_17 : Int32) (v4_17 : Int32) (v5_17 : Int32) (h7 : y_H) =>
      if 3 < v5_17 then
        if y_K h7 v0_17 = 8 then
        if y_K h7 v0_17 = 8 then
        y_bd (s_I h7 v0_17 4 ((y_I h7 v0_17 4) + 1)) (fun h8 =>
        some ((), h8))
        else none
        else none
      else
        if y_K h7 v0_17 = 8 then
        if y_K h7 (y_P h7 v0_17 3) = 100 ∧ y_ix v5_17 (y_N h7 (y_P h7 v0_17 3)) = true then
        if y_K h7 v1_17 = 3 then
        y_cl (f_X2_known v1_17 h7) (fun r12 h13 =>
        if y_K h13 v0_17 = 8 then
        y_cl (f_X7_factor v0_17 v5_17 v2_17 v3_17 v4_17 h13) (fun r15 h16 =>
        if y_K h16 (y_P h7 v0_17 3) = 100 ∧ y_ix v5_17 (y_N h16 (y_P h7 v0_17 3)) = true then
        y_bd (s_I h16 (y_P h7 v0_17 3) (Int32.toNatClampNeg v5_17) ((y_I h7 (y_P h7 v0_17 3) (Int32.toNatClampNeg v5_17)) + (r12 * r15))) (fun h18 =>
        j17 v0_17 v1_17 v2_17 v3_17 v4_17 (v5_17 + 1) h18)
        else none)
        else none)
        else none
        else none
        else none) (fun j17 =>
  j17 p0 p1 p2 p3 p4 0 h4))
  else none)
  else none
  else none
abbrev rm_X7_include : Room := { frames := 1, cells := 0, slots := 0, locals := 24 }
set_option maxRecDepth 100000 in
set_option maxHeartbeats 4000000 in
theorem k_X7_include {l : Launch} {G : y_G} {p0 : Nat} {p1 : Nat} {p2 : Int32} {p3 : Int32} {p4 : Int32} {h hz : y_H} {rz : Unit} (hf : f_X7_include p0 p1 p2 p3 p4 h = some (rz, hz)) : y_S l G M_X7_include rm_X7_include [y_p p0, y_p p1, .int p2, .int p3, .int p4] h none hz := by
  refine y_start (lv := [(0, y_p p0), (1, y_p p1), (2, .int p2), (3, .int p3), (4, .int p4)]) (by decide) (by simp [lg_sl, y_p_cat, y_ci, y_cj, M_X7_include]) (by simp [lv_args, y_p_cat, y_ci, y_cj]) (fun z ad0 => ?_)
  unfold f_X7_include at hf
  refine y_aload_n (x := p0) (pc2 := 1) rfl dX7_include_0 rfl ?_
  obtain ⟨g27, hf⟩ := y_g hf
  refine y_getP (pc2 := 4) rfl dX7_include_1 F_BoxYard_Ship_17 (by decide) rfl g27 ?_
  refine y_aload_n (x := p0) (pc2 := 5) rfl dX7_include_4 rfl ?_
  refine y_iload_n (pc2 := 6) rfl dX7_include_5 rfl ?_
  refine y_iload_n (pc2 := 7) rfl dX7_include_6 rfl ?_
  refine y_iload (pc2 := 9) rfl dX7_include_7 rfl ?_
  obtain ⟨g26, hf⟩ := y_g hf
  obtain ⟨r1, h2, c3, hf⟩ := y_clE hf
  refine y_callV (As := [.int p2, .int p3, .int p4]) (rm := rm_X7_placeNumber) (cells := 0) (slots := 0) (pc2 := 12) rfl dX7_include_9 n_X7_placeNumber l_BoxYard_Ship_71 i_X7_placeNumber e_X7_placeNumber (ci := 7) rfl rfl (by decide) g26 rfl rfl (by decide) (by simp [y_ci, y_cj, y_p_cat]) (by decide) (k_X7_placeNumber c3) ?_
  refine y_iconst (v := 1) (pc2 := 13) rfl dX7_include_12 (by decide) ?_
  obtain ⟨g6, hf⟩ := y_g hf
  obtain ⟨h4, e5, hf⟩ := y_bdE hf
  refine y_zast (x := true) (pc2 := 14) rfl dX7_include_13 g6.1 (y_ix_in g6.2) e5 ?_
  refine y_iconst (v := 0) (pc2 := 15) rfl dX7_include_14 (by decide) ?_
  refine y_jlE hf (fun j => ∀ (v0_17 : Nat) (v1_17 : Nat) (v2_17 : Int32) (v3_17 : Int32) (v4_17 : Int32) (v5_17 : Int32) (h7 : y_H), j v0_17 v1_17 v2_17 v3_17 v4_17 v5_17 h7 = some (rz, hz) → y_V l G z rm_X7_include M_X7_include ad0 h none hz 17 [(0, y_p v0_17), (1, y_p v1_17), (2, .int v2_17), (3, .int v3_17), (4, .int v4_17), (5, .int v5_17)] [] h7 0 0) (fun _ _ _ _ _ _ _ hf => by cases hf) (fun j17 hj17 v0_17 v1_17 v2_17 v3_17 v4_17 v5_17 h7 hf => ?_) (fun j17 hj17 hf => ?_)
  · refine y_iload (pc2 := 19) rfl dX7_include_17 rfl ?_
    refine y_iconst (v := 3) (pc2 := 20) rfl dX7_include_19 (by decide) ?_
    refine y_icmp_gt (tgt := 54) (pc2 := 23) rfl dX7_include_20 (by decide) (fun c25 => ?_) (fun c25 => ?_)
    · replace hf := y_it c25 hf
      refine y_aload_n (x := v0_17) (pc2 := 55) rfl dX7_include_54 rfl ?_
      refine y_dup (pc2 := 56) rfl dX7_include_55 (y_p_cat _) ?_
      obtain ⟨g11, hf⟩ := y_g hf
      refine y_getI (pc2 := 59) rfl dX7_include_56 F_BoxYard_Ship_75 (by decide) rfl g11 ?_
      refine y_iconst (v := 1) (pc2 := 60) rfl dX7_include_59 (by decide) ?_
      refine y_iadd (pc2 := 61) rfl dX7_include_60 ?_
      obtain ⟨g10, hf⟩ := y_g hf
      obtain ⟨h8, e9, hf⟩ := y_bdE hf
      refine y_putI (x := (y_I h7 v0_17 4) + 1) (pc2 := 64) rfl dX7_include_61 Fp_BoxYard_Ship_75 (by decide) rfl g10 e9 ?_
      exact y_vretF hf dX7_include_64 rfl (by decide) (by decide)
    · replace hf := y_ie c25 hf
      refine y_aload_n (x := v0_17) (pc2 := 24) rfl dX7_include_23 rfl ?_
      obtain ⟨g24, hf⟩ := y_g hf
      refine y_getP (pc2 := 27) rfl dX7_include_24 F_BoxYard_Ship_21 (by decide) rfl g24 ?_
      refine y_iload (pc2 := 29) rfl dX7_include_27 rfl ?_
      refine y_dup2 (pc2 := 30) rfl dX7_include_29 rfl (y_p_cat _) ?_
      obtain ⟨g23, hf⟩ := y_g hf
      refine y_iald (pc2 := 31) rfl dX7_include_30 g23.1 (y_ix_in g23.2) ?_
      refine y_aload_n (x := v1_17) (pc2 := 32) rfl dX7_include_31 rfl ?_
      obtain ⟨g22, hf⟩ := y_g hf
      obtain ⟨r12, h13, c14, hf⟩ := y_clE hf
      refine y_callV (As := []) (rm := rm_X2_known) (cells := 0) (slots := 0) (pc2 := 35) rfl dX7_include_32 n_X2_known l_BoxYard_Ship_82 i_X2_known e_X2_known (ci := 2) rfl rfl (by decide) g22 rfl rfl (by decide) (by simp [y_ci, y_cj, y_p_cat]) (by decide) (k_X2_known c14) ?_
      refine y_aload_n (x := v0_17) (pc2 := 36) rfl dX7_include_35 rfl ?_
      refine y_iload (pc2 := 38) rfl dX7_include_36 rfl ?_
      refine y_iload_n (pc2 := 39) rfl dX7_include_38 rfl ?_
      refine y_iload_n (pc2 := 40) rfl dX7_include_39 rfl ?_
      refine y_iload (pc2 := 42) rfl dX7_include_40 rfl ?_
      obtain ⟨g21, hf⟩ := y_g hf
      obtain ⟨r15, h16, c17, hf⟩ := y_clE hf
      refine y_callV (As := [.int v5_17, .int v2_17, .int v3_17, .int v4_17]) (rm := rm_X7_factor) (cells := 0) (slots := 0) (pc2 := 45) rfl dX7_include_42 n_X7_factor l_BoxYard_Ship_86 i_X7_factor e_X7_factor (ci := 7) rfl rfl (by decide) g21 rfl rfl (by decide) (by simp [y_ci, y_cj, y_p_cat]) (by decide) (k_X7_factor c17) ?_
      refine y_imul (pc2 := 46) rfl dX7_include_45 ?_
      refine y_iadd (pc2 := 47) rfl dX7_include_46 ?_
      obtain ⟨g20, hf⟩ := y_g hf
      obtain ⟨h18, e19, hf⟩ := y_bdE hf
      refine y_iast (x := (y_I h7 (y_P h7 v0_17 3) (Int32.toNatClampNeg v5_17)) + (r12 * r15)) (pc2 := 48) rfl dX7_include_47 g20.1 (y_ix_in g20.2) e19 ?_
      refine y_iinc (v := v5_17 + 1) (lv' := [(5, .int (v5_17 + 1)), (0, y_p v0_17), (1, y_p v1_17), (2, .int v2_17), (3, .int v3_17), (4, .int v4_17)]) (pc2 := 51) rfl dX7_include_48 rfl rfl (by decide) rfl ?_
      refine y_goto (tgt := 17) dX7_include_51 (by decide) ?_
      exact y_pk [1, 2, 3, 4, 5, 0] rfl (hj17 _ _ _ _ _ _ _ hf)
  · refine y_istore (lv' := [(5, .int 0), (0, y_p p0), (1, y_p p1), (2, .int p2), (3, .int p3), (4, .int p4)]) (pc2 := 17) rfl dX7_include_15 (by decide) rfl ?_
    exact y_pk [1, 2, 3, 4, 5, 0] rfl (hj17 _ _ _ _ _ _ _ hf)
theorem dX7_survey_0 : decode cX7_survey 0 = .ok (.aload_n 0, 1) := by decide +kernel
theorem dX7_survey_1 : decode cX7_survey 1 = .ok (.getfield 21, 3) := by decide +kernel
theorem dX7_survey_4 : decode cX7_survey 4 = .ok (.iconst 0, 1) := by decide +kernel
theorem dX7_survey_5 : decode cX7_survey 5 = .ok (.invokestatic 57, 3) := by decide +kernel
theorem dX7_survey_8 : decode cX7_survey 8 = .ok (.aload_n 0, 1) := by decide +kernel
theorem dX7_survey_9 : decode cX7_survey 9 = .ok (.iconst 0, 1) := by decide +kernel
theorem dX7_survey_10 : decode cX7_survey 10 = .ok (.putfield 75, 3) := by decide +kernel
theorem dX7_survey_13 : decode cX7_survey 13 = .ok (.iconst 0, 1) := by decide +kernel
theorem dX7_survey_14 : decode cX7_survey 14 = .ok (.istore_n 1, 1) := by decide +kernel
theorem dX7_survey_15 : decode cX7_survey 15 = .ok (.iload_n 1, 1) := by decide +kernel
theorem dX7_survey_16 : decode cX7_survey 16 = .ok (.aload_n 0, 1) := by decide +kernel
theorem dX7_survey_17 : decode cX7_survey 17 = .ok (.getfield 41, 3) := by decide +kernel
theorem dX7_survey_20 : decode cX7_survey 20 = .ok (.if_icmp .ge 82, 3) := by decide +kernel
theorem dX7_survey_23 : decode cX7_survey 23 = .ok (.iconst 0, 1) := by decide +kernel
theorem dX7_survey_24 : decode cX7_survey 24 = .ok (.istore_n 2, 1) := by decide +kernel
theorem dX7_survey_25 : decode cX7_survey 25 = .ok (.iload_n 2, 1) := by decide +kernel
theorem dX7_survey_26 : decode cX7_survey 26 = .ok (.aload_n 0, 1) := by decide +kernel
theorem dX7_survey_27 : decode cX7_survey 27 = .ok (.getfield 38, 3) := by decide +kernel
theorem dX7_survey_30 : decode cX7_survey 30 = .ok (.if_icmp .ge 66, 3) := by decide +kernel
theorem dX7_survey_33 : decode cX7_survey 33 = .ok (.iconst 0, 1) := by decide +kernel
theorem dX7_survey_34 : decode cX7_survey 34 = .ok (.istore_n 3, 1) := by decide +kernel
theorem dX7_survey_35 : decode cX7_survey 35 = .ok (.iload_n 3, 1) := by decide +kernel
theorem dX7_survey_36 : decode cX7_survey 36 = .ok (.aload_n 0, 1) := by decide +kernel
theorem dX7_survey_37 : decode cX7_survey 37 = .ok (.getfield 35, 3) := by decide +kernel
theorem dX7_survey_40 : decode cX7_survey 40 = .ok (.if_icmp .ge 50, 3) := by decide +kernel
theorem dX7_survey_43 : decode cX7_survey 43 = .ok (.aload_n 0, 1) := by decide +kernel
theorem dX7_survey_44 : decode cX7_survey 44 = .ok (.getfield 13, 3) := by decide +kernel
theorem dX7_survey_47 : decode cX7_survey 47 = .ok (.aload_n 0, 1) := by decide +kernel
theorem dX7_survey_48 : decode cX7_survey 48 = .ok (.iload_n 3, 1) := by decide +kernel
theorem dX7_survey_49 : decode cX7_survey 49 = .ok (.iload_n 2, 1) := by decide +kernel
theorem dX7_survey_50 : decode cX7_survey 50 = .ok (.iload_n 1, 1) := by decide +kernel
theorem dX7_survey_51 : decode cX7_survey 51 = .ok (.invokevirtual 71, 3) := by decide +kernel
theorem dX7_survey_54 : decode cX7_survey 54 = .ok (.aaload, 1) := by decide +kernel
theorem dX7_survey_55 : decode cX7_survey 55 = .ok (.astore 4, 2) := by decide +kernel
theorem dX7_survey_57 : decode cX7_survey 57 = .ok (.aload_n 0, 1) := by decide +kernel
theorem dX7_survey_58 : decode cX7_survey 58 = .ok (.getfield 17, 3) := by decide +kernel
theorem dX7_survey_61 : decode cX7_survey 61 = .ok (.aload_n 0, 1) := by decide +kernel
theorem dX7_survey_62 : decode cX7_survey 62 = .ok (.iload_n 3, 1) := by decide +kernel
theorem dX7_survey_63 : decode cX7_survey 63 = .ok (.iload_n 2, 1) := by decide +kernel
theorem dX7_survey_64 : decode cX7_survey 64 = .ok (.iload_n 1, 1) := by decide +kernel
theorem dX7_survey_65 : decode cX7_survey 65 = .ok (.invokevirtual 71, 3) := by decide +kernel
theorem dX7_survey_68 : decode cX7_survey 68 = .ok (.iconst 0, 1) := by decide +kernel
theorem dX7_survey_69 : decode cX7_survey 69 = .ok (.bastore, 1) := by decide +kernel
theorem dX7_survey_70 : decode cX7_survey 70 = .ok (.aload 4, 2) := by decide +kernel
theorem dX7_survey_72 : decode cX7_survey 72 = .ok (.ifnull 12, 3) := by decide +kernel
theorem dX7_survey_75 : decode cX7_survey 75 = .ok (.aload_n 0, 1) := by decide +kernel
theorem dX7_survey_76 : decode cX7_survey 76 = .ok (.aload 4, 2) := by decide +kernel
theorem dX7_survey_78 : decode cX7_survey 78 = .ok (.iload_n 3, 1) := by decide +kernel
theorem dX7_survey_79 : decode cX7_survey 79 = .ok (.iload_n 2, 1) := by decide +kernel
theorem dX7_survey_80 : decode cX7_survey 80 = .ok (.iload_n 1, 1) := by decide +kernel
theorem dX7_survey_81 : decode cX7_survey 81 = .ok (.invokevirtual 78, 3) := by decide +kernel
theorem dX7_survey_84 : decode cX7_survey 84 = .ok (.iinc 3 1, 3) := by decide +kernel
theorem dX7_survey_87 : decode cX7_survey 87 = .ok (.goto (-52), 3) := by decide +kernel
theorem dX7_survey_90 : decode cX7_survey 90 = .ok (.iinc 2 1, 3) := by decide +kernel
theorem dX7_survey_93 : decode cX7_survey 93 = .ok (.goto (-68), 3) := by decide +kernel
theorem dX7_survey_96 : decode cX7_survey 96 = .ok (.iinc 1 1, 3) := by decide +kernel
theorem dX7_survey_99 : decode cX7_survey 99 = .ok (.goto (-84), 3) := by decide +kernel
theorem dX7_survey_102 : decode cX7_survey 102 = .ok (.return_, 1) := by decide +kernel
def M_X7_survey : y_M := (yX7_survey, cX7_survey, 5, (Option.none : Option Jvm.ClassFile.FieldType))
theorem n_X7_survey : y_N0 M_X7_survey 0 := ⟨(c_4 212 (by decide +kernel) rfl), (c_1 14 (by decide +kernel) rfl), ⟨by decide +kernel, by decide +kernel⟩, by decide +kernel⟩
theorem l_BoxYard_Ship_78 : y_lnk "BoxYard$Ship" 78 M_X7_include := Or.inl (c_4 218 (by decide +kernel) rfl)
theorem i_X7_include : Cond.instanceMethod (M_X7_include).1 ∈ y_tb := (c_4 219 (by decide +kernel) rfl)
theorem e_X7_include : Cond.selects (M_X7_include).1.cls (M_X7_include).1 (M_X7_include).1 ∈ y_tb := (c_4 220 (by decide +kernel) rfl)
set_option maxRecDepth 100000 in
def f_X7_survey (p0 : Nat) (h : y_H) : Option (Unit × y_H) :=
  if y_K h p0 = 8 then
  y_cl (f_J7_fill_53178 (y_P h p0 3) 0 h) (fun _ h1 =>
  if y_K h1 p0 = 8 then
  y_bd (s_I h1 p0 4 0) (fun h3 =>
  y_jl (fun (_ : Nat) (_ : Int32) (_ : y_H) => (none : Option (Unit × y_H))) (fun j15 (v0_15 : Nat) (v1_15 : Int32) (h6 : y_H) =>
      if y_K h6 v0_15 = 8 then
      if (y_I h6 v0_15 10) ≤ v1_15 then
        some ((), h6)
      else
        y_jl (fun (_ : Nat) (_ : Int32) (_ : Int32) (_ : y_H) => (none : Option (Unit × y_H))) (fun j25 (v0_25 : Nat) (v1_25 : Int32) (v2_25 : Int32) (h7 : y_H) =>
            if y_K h7 v0_25 = 8 then
            if (y_I h7 v0_25 9) ≤ v2_25 then
              j15 v0_25 (v1_25 + 1) h7
            else
              y_jl (fun (_ : Nat) (_ : Int32) (_ : Int32) (_ : Int32) (_ : y_H) => (none : Option (Unit × y_H))) (fun j35 (v0_35 : Nat) (v1_35 : Int32) (v2_35 : Int32) (v3_35 : Int32) (h8 : y_H) =>
                  if y_K h8 v0_35 = 8 then
                  if (y_I h8 v0_35 8) ≤ v3_35 then
                    j25 v0_35 v1_35 (v2_35 + 1) h8
                  else
                    if y_K h8 v0_35 = 8 then
                    if y_K h8 v0_35 = 8 then
                    y_cl (f_X7_placeNumber v0_35 v3_35 v2_35 v1_35 h8) (fun r9 h10 =>
                    if y_K h10 (y_P h8 v0_35 1) = 103 ∧ y_ix r9 (y_N h10 (y_P h8 v0_35 1)) = true then
                    if y_K h10 v0_35 = 8 then
                    if y_K h10 v0_35 = 8 then
                    y_cl (f_X7_placeNumber v0_35 v3_35 v2_35 v1_35 h10) (fun r12 h13 =>
                    if y_K h13 (y_P h10 v0_35 2) = 102 ∧ y_ix r12 (y_N h13 (y_P h10 v0_35 2)) = true then
                    y_bd (s_B h13 (y_P h10 v0_35 2) (Int32.toNatClampNeg r12) false) (fun h15 =>
                    y_jn (fun (v0_84 : Nat) (v1_84 : Int32) (v2_84 : Int32) (v3_84 : Int32) (h18 : y_H) => (
                        j35 v0_84 v1_84 v2_84 (v3_84 + 1) h18 : Option (Unit × y_H))) (fun j84 =>
                    if (y_P h10 (y_P h8 v0_35 1) (Int32.toNatClampNeg r9)) = 0 then
                      j84 v0_35 v1_35 v2_35 v3_35 h15
                    else
                      if y_K h15 v0_35 = 8 then
                      y_cl (f_X7_include v0_35 (y_P h10 (y_P h8 v0_35 1) (Int32.toNatClampNeg r9)) v3_35 v2_35 v1_35 h15) (fun _ h19 =>
                      j84 v0_35 v1_35 v2_35 v3_35 h19)
                      else none))
                    else none)
                    else none
                    else none
                    else none)
                    else none
                    else none
                  else none) (fun j35 =>
              j35 v0_25 v1_25 v2_25 0 h7)
            else none) (fun j25 =>
        j25 v0_15 v1_15 0 h6)
      else none) (fun j15 =>
  j15 p0 0 h3))
  else none)
  else none
abbrev rm_X7_survey : Room := { frames := 2, cells := 0, slots := 0, locals := 49 }
set_option maxRecDepth 100000 in
set_option maxHeartbeats 4000000 in
theorem k_X7_survey {l : Launch} {G : y_G} {p0 : Nat} {h hz : y_H} {rz : Unit} (hf : f_X7_survey p0 h = some (rz, hz)) : y_S l G M_X7_survey rm_X7_survey [y_p p0] h none hz := by
  refine y_start (lv := [(0, y_p p0)]) (by decide) (by simp [lg_sl, y_p_cat, y_ci, y_cj, M_X7_survey]) (by simp [lv_args, y_p_cat, y_ci, y_cj]) (fun z ad0 => ?_)
  unfold f_X7_survey at hf
  refine y_aload_n (x := p0) (pc2 := 1) rfl dX7_survey_0 rfl ?_
  obtain ⟨g34, hf⟩ := y_g hf
  refine y_getP (pc2 := 4) rfl dX7_survey_1 F_BoxYard_Ship_21 (by decide) rfl g34 ?_
  refine y_iconst (v := 0) (pc2 := 5) rfl dX7_survey_4 (by decide) ?_
  obtain ⟨r_, h1, c2, hf⟩ := y_clE hf
  refine y_callS (As := [y_p (y_P h p0 3), .int 0]) (rm := rm_J7_fill_53178) (cells := 0) (slots := 0) (pc2 := 8) rfl dX7_survey_5 n_J7_fill_53178 l_BoxYard_Ship_57 t_J7_fill_53178 rfl rfl (by decide) (by decide) (by decide) (k_J7_fill_53178 c2) ?_
  refine y_aload_n (x := p0) (pc2 := 9) rfl dX7_survey_8 rfl ?_
  refine y_iconst (v := 0) (pc2 := 10) rfl dX7_survey_9 (by decide) ?_
  obtain ⟨g5, hf⟩ := y_g hf
  obtain ⟨h3, e4, hf⟩ := y_bdE hf
  refine y_putI (x := 0) (pc2 := 13) rfl dX7_survey_10 Fp_BoxYard_Ship_75 (by decide) rfl g5 e4 ?_
  refine y_iconst (v := 0) (pc2 := 14) rfl dX7_survey_13 (by decide) ?_
  refine y_jlE hf (fun j => ∀ (v0_15 : Nat) (v1_15 : Int32) (h6 : y_H), j v0_15 v1_15 h6 = some (rz, hz) → y_V l G z rm_X7_survey M_X7_survey ad0 h none hz 15 [(0, y_p v0_15), (1, .int v1_15)] [] h6 0 0) (fun _ _ _ hf => by cases hf) (fun j15 hj15 v0_15 v1_15 h6 hf => ?_) (fun j15 hj15 hf => ?_)
  · refine y_iload_n (pc2 := 16) rfl dX7_survey_15 rfl ?_
    refine y_aload_n (x := v0_15) (pc2 := 17) rfl dX7_survey_16 rfl ?_
    obtain ⟨g33, hf⟩ := y_g hf
    refine y_getI (pc2 := 20) rfl dX7_survey_17 F_BoxYard_Ship_41 (by decide) rfl g33 ?_
    refine y_icmp_ge (tgt := 102) (pc2 := 23) rfl dX7_survey_20 (by decide) (fun c32 => ?_) (fun c32 => ?_)
    · replace hf := y_it c32 hf
      exact y_vretF hf dX7_survey_102 rfl (by decide) (by decide)
    · replace hf := y_ie c32 hf
      refine y_iconst (v := 0) (pc2 := 24) rfl dX7_survey_23 (by decide) ?_
      refine y_jlE hf (fun j => ∀ (v0_25 : Nat) (v1_25 : Int32) (v2_25 : Int32) (h7 : y_H), j v0_25 v1_25 v2_25 h7 = some (rz, hz) → y_V l G z rm_X7_survey M_X7_survey ad0 h none hz 25 [(0, y_p v0_25), (1, .int v1_25), (2, .int v2_25)] [] h7 0 0) (fun _ _ _ _ hf => by cases hf) (fun j25 hj25 v0_25 v1_25 v2_25 h7 hf => ?_) (fun j25 hj25 hf => ?_)
      · refine y_iload_n (pc2 := 26) rfl dX7_survey_25 rfl ?_
        refine y_aload_n (x := v0_25) (pc2 := 27) rfl dX7_survey_26 rfl ?_
        obtain ⟨g31, hf⟩ := y_g hf
        refine y_getI (pc2 := 30) rfl dX7_survey_27 F_BoxYard_Ship_38 (by decide) rfl g31 ?_
        refine y_icmp_ge (tgt := 96) (pc2 := 33) rfl dX7_survey_30 (by decide) (fun c30 => ?_) (fun c30 => ?_)
        · replace hf := y_it c30 hf
          refine y_iinc (v := v1_25 + 1) (lv' := [(1, .int (v1_25 + 1)), (0, y_p v0_25), (2, .int v2_25)]) (pc2 := 99) rfl dX7_survey_96 rfl rfl (by decide) (by simp [y_st1, y_p_cat, y_ci, y_cj]) ?_
          refine y_goto (tgt := 15) dX7_survey_99 (by decide) ?_
          exact y_pk [1, 0] rfl (hj15 _ _ _ hf)
        · replace hf := y_ie c30 hf
          refine y_iconst (v := 0) (pc2 := 34) rfl dX7_survey_33 (by decide) ?_
          refine y_jlE hf (fun j => ∀ (v0_35 : Nat) (v1_35 : Int32) (v2_35 : Int32) (v3_35 : Int32) (h8 : y_H), j v0_35 v1_35 v2_35 v3_35 h8 = some (rz, hz) → y_V l G z rm_X7_survey M_X7_survey ad0 h none hz 35 [(0, y_p v0_35), (1, .int v1_35), (2, .int v2_35), (3, .int v3_35)] [] h8 0 0) (fun _ _ _ _ _ hf => by cases hf) (fun j35 hj35 v0_35 v1_35 v2_35 v3_35 h8 hf => ?_) (fun j35 hj35 hf => ?_)
          · refine y_iload_n (pc2 := 36) rfl dX7_survey_35 rfl ?_
            refine y_aload_n (x := v0_35) (pc2 := 37) rfl dX7_survey_36 rfl ?_
            obtain ⟨g29, hf⟩ := y_g hf
            refine y_getI (pc2 := 40) rfl dX7_survey_37 F_BoxYard_Ship_35 (by decide) rfl g29 ?_
            refine y_icmp_ge (tgt := 90) (pc2 := 43) rfl dX7_survey_40 (by decide) (fun c28 => ?_) (fun c28 => ?_)
            · replace hf := y_it c28 hf
              refine y_iinc (v := v2_35 + 1) (lv' := [(2, .int (v2_35 + 1)), (0, y_p v0_35), (1, .int v1_35), (3, .int v3_35)]) (pc2 := 93) rfl dX7_survey_90 rfl rfl (by decide) rfl ?_
              refine y_goto (tgt := 25) dX7_survey_93 (by decide) ?_
              exact y_pk [1, 2, 0] rfl (hj25 _ _ _ _ hf)
            · replace hf := y_ie c28 hf
              refine y_aload_n (x := v0_35) (pc2 := 44) rfl dX7_survey_43 rfl ?_
              obtain ⟨g27, hf⟩ := y_g hf
              refine y_getP (pc2 := 47) rfl dX7_survey_44 F_BoxYard_Ship_13 (by decide) rfl g27 ?_
              refine y_aload_n (x := v0_35) (pc2 := 48) rfl dX7_survey_47 rfl ?_
              refine y_iload_n (pc2 := 49) rfl dX7_survey_48 rfl ?_
              refine y_iload_n (pc2 := 50) rfl dX7_survey_49 rfl ?_
              refine y_iload_n (pc2 := 51) rfl dX7_survey_50 rfl ?_
              obtain ⟨g26, hf⟩ := y_g hf
              obtain ⟨r9, h10, c11, hf⟩ := y_clE hf
              refine y_callV (As := [.int v3_35, .int v2_35, .int v1_35]) (rm := rm_X7_placeNumber) (cells := 0) (slots := 0) (pc2 := 54) rfl dX7_survey_51 n_X7_placeNumber l_BoxYard_Ship_71 i_X7_placeNumber e_X7_placeNumber (ci := 7) rfl rfl (by decide) g26 rfl rfl (by decide) (by simp [y_ci, y_cj, y_p_cat]) (by decide) (k_X7_placeNumber c11) ?_
              obtain ⟨g25, hf⟩ := y_g hf
              refine y_aald (t := 3) (pc2 := 55) rfl dX7_survey_54 (by decide) rfl g25.1 (y_ix_in g25.2) ?_
              refine y_astore (lv' := [(4, y_p (y_P h10 (y_P h8 v0_35 1) (Int32.toNatClampNeg r9))), (0, y_p v0_35), (1, .int v1_35), (2, .int v2_35), (3, .int v3_35)]) (pc2 := 57) rfl dX7_survey_55 (by decide) rfl ?_
              refine y_aload_n (x := v0_35) (pc2 := 58) rfl dX7_survey_57 rfl ?_
              obtain ⟨g24, hf⟩ := y_g hf
              refine y_getP (pc2 := 61) rfl dX7_survey_58 F_BoxYard_Ship_17 (by decide) rfl g24 ?_
              refine y_aload_n (x := v0_35) (pc2 := 62) rfl dX7_survey_61 rfl ?_
              refine y_iload_n (pc2 := 63) rfl dX7_survey_62 rfl ?_
              refine y_iload_n (pc2 := 64) rfl dX7_survey_63 rfl ?_
              refine y_iload_n (pc2 := 65) rfl dX7_survey_64 rfl ?_
              obtain ⟨g23, hf⟩ := y_g hf
              obtain ⟨r12, h13, c14, hf⟩ := y_clE hf
              refine y_callV (As := [.int v3_35, .int v2_35, .int v1_35]) (rm := rm_X7_placeNumber) (cells := 0) (slots := 0) (pc2 := 68) rfl dX7_survey_65 n_X7_placeNumber l_BoxYard_Ship_71 i_X7_placeNumber e_X7_placeNumber (ci := 7) rfl rfl (by decide) g23 rfl rfl (by decide) (by simp [y_ci, y_cj, y_p_cat]) (by decide) (k_X7_placeNumber c14) ?_
              refine y_iconst (v := 0) (pc2 := 69) rfl dX7_survey_68 (by decide) ?_
              obtain ⟨g17, hf⟩ := y_g hf
              obtain ⟨h15, e16, hf⟩ := y_bdE hf
              refine y_zast (x := false) (pc2 := 70) rfl dX7_survey_69 g17.1 (y_ix_in g17.2) e16 ?_
              refine y_aload (x := y_P h10 (y_P h8 v0_35 1) (Int32.toNatClampNeg r9)) (pc2 := 72) rfl dX7_survey_70 rfl ?_
              refine y_jnE hf (fun j => ∀ (v0_84 : Nat) (v1_84 : Int32) (v2_84 : Int32) (v3_84 : Int32) (h18 : y_H), j v0_84 v1_84 v2_84 v3_84 h18 = some (rz, hz) → y_V l G z rm_X7_survey M_X7_survey ad0 h none hz 84 [(0, y_p v0_84), (1, .int v1_84), (2, .int v2_84), (3, .int v3_84)] [] h18 0 0) (fun v0_84 v1_84 v2_84 v3_84 h18 hf => ?_) (fun j84 hj84 hf => ?_)
              · refine y_iinc (v := v3_84 + 1) (lv' := [(3, .int (v3_84 + 1)), (0, y_p v0_84), (1, .int v1_84), (2, .int v2_84)]) (pc2 := 87) rfl dX7_survey_84 rfl rfl (by decide) rfl ?_
                refine y_goto (tgt := 35) dX7_survey_87 (by decide) ?_
                exact y_pk [1, 2, 3, 0] rfl (hj35 _ _ _ _ _ hf)
              · refine y_ifnull (tgt := 84) (pc2 := 75) rfl dX7_survey_72 (by decide) (fun c22 => ?_) (fun c22 => ?_)
                · replace hf := y_it c22 hf
                  exact y_pk [1, 2, 3, 4] rfl (hj84 _ _ _ _ _ hf)
                · replace hf := y_ie c22 hf
                  refine y_aload_n (x := v0_35) (pc2 := 76) rfl dX7_survey_75 rfl ?_
                  refine y_aload (x := y_P h10 (y_P h8 v0_35 1) (Int32.toNatClampNeg r9)) (pc2 := 78) rfl dX7_survey_76 rfl ?_
                  refine y_iload_n (pc2 := 79) rfl dX7_survey_78 rfl ?_
                  refine y_iload_n (pc2 := 80) rfl dX7_survey_79 rfl ?_
                  refine y_iload_n (pc2 := 81) rfl dX7_survey_80 rfl ?_
                  obtain ⟨g21, hf⟩ := y_g hf
                  obtain ⟨r_, h19, c20, hf⟩ := y_clE hf
                  refine y_callV (As := [y_p (y_P h10 (y_P h8 v0_35 1) (Int32.toNatClampNeg r9)), .int v3_35, .int v2_35, .int v1_35]) (rm := rm_X7_include) (cells := 0) (slots := 0) (pc2 := 84) rfl dX7_survey_81 n_X7_include l_BoxYard_Ship_78 i_X7_include e_X7_include (ci := 7) rfl rfl (by decide) g21 rfl rfl (by decide) (by decide) (by decide) (k_X7_include c20) ?_
                  exact y_pk [1, 2, 3, 4] rfl (hj84 _ _ _ _ _ hf)
          · refine y_istore_n (lv' := [(3, .int 0), (0, y_p v0_25), (1, .int v1_25), (2, .int v2_25)]) (pc2 := 35) rfl dX7_survey_34 (by decide) rfl ?_
            exact y_pk [1, 2, 3, 0] rfl (hj35 _ _ _ _ _ hf)
      · refine y_istore_n (lv' := [(2, .int 0), (0, y_p v0_15), (1, .int v1_15)]) (pc2 := 25) rfl dX7_survey_24 (by decide) rfl ?_
        exact y_pk [1, 2, 0] rfl (hj25 _ _ _ _ hf)
  · refine y_istore_n (lv' := [(1, .int 0), (0, y_p p0)]) (pc2 := 15) rfl dX7_survey_14 (by decide) (by show y_st1 _ 1 _ = _; simp [y_st1, y_p_cat, y_ci, y_cj]) ?_
    exact y_pk [1, 0] rfl (hj15 _ _ _ hf)
