theorem dX2_watts_0 : decode cX2_watts 0 = .ok (.aload_n 0, 1) := by decide +kernel
theorem dX2_watts_1 : decode cX2_watts 1 = .ok (.getfield 15, 3) := by decide +kernel
theorem dX2_watts_4 : decode cX2_watts 4 = .ok (.iconst 1, 1) := by decide +kernel
theorem dX2_watts_5 : decode cX2_watts 5 = .ok (.if_icmp .eq 6, 3) := by decide +kernel
theorem dX2_watts_8 : decode cX2_watts 8 = .ok (.bipush (-65), 2) := by decide +kernel
theorem dX2_watts_10 : decode cX2_watts 10 = .ok (.ireturn, 1) := by decide +kernel
theorem dX2_watts_11 : decode cX2_watts 11 = .ok (.aload_n 1, 1) := by decide +kernel
theorem dX2_watts_12 : decode cX2_watts 12 = .ok (.bipush 32, 2) := by decide +kernel
theorem dX2_watts_14 : decode cX2_watts 14 = .ok (.invokevirtual 65, 3) := by decide +kernel
theorem dX2_watts_17 : decode cX2_watts 17 = .ok (.iconst 4, 1) := by decide +kernel
theorem dX2_watts_18 : decode cX2_watts 18 = .ok (.aload_n 0, 1) := by decide +kernel
theorem dX2_watts_19 : decode cX2_watts 19 = .ok (.invokevirtual 81, 3) := by decide +kernel
theorem dX2_watts_22 : decode cX2_watts 22 = .ok (.bipush 100, 2) := by decide +kernel
theorem dX2_watts_24 : decode cX2_watts 24 = .ok (.idiv, 1) := by decide +kernel
theorem dX2_watts_25 : decode cX2_watts 25 = .ok (.iadd, 1) := by decide +kernel
theorem dX2_watts_26 : decode cX2_watts 26 = .ok (.ireturn, 1) := by decide +kernel
def M_X2_watts : y_M := (yX2_watts, cX2_watts, 2, (Option.some Jvm.ClassFile.FieldType.int))
theorem n_X2_watts : y_N0 M_X2_watts 1 := ⟨(c_3 14 (by decide +kernel) rfl), (c_1 10 (by decide +kernel) rfl), ⟨by decide +kernel, by decide +kernel⟩, by decide +kernel⟩
set_option maxRecDepth 100000 in
def f_X2_watts (p0 : Nat) (p1 : Nat) (h : y_H) : Option (Int32 × y_H) :=
  if y_K h p0 = 3 then
  if (y_I h p0 1) = 1 then
    if y_K h p1 = 10 then
    y_cl (f_X9_mark p1 32 h) (fun _ h1 =>
    if y_K h1 p0 = 3 then
    y_cl (f_X2_known p0 h1) (fun r3 h4 =>
    some (4 + (r3 / 100), h4))
    else none)
    else none
  else
    some ((-65 : Int32), h)
  else none
abbrev rm_X2_watts : Room := { frames := 1, cells := 0, slots := 0, locals := 21 }
set_option maxRecDepth 100000 in
set_option maxHeartbeats 4000000 in
theorem k_X2_watts {l : Launch} {G : y_G} {p0 : Nat} {p1 : Nat} {h hz : y_H} {rz : Int32} (hf : f_X2_watts p0 p1 h = some (rz, hz)) : y_S l G M_X2_watts rm_X2_watts [y_p p0, y_p p1] h (some (.int rz)) hz := by
  refine y_start (lv := [(0, y_p p0), (1, y_p p1)]) (by decide) (by simp [lg_sl, y_p_cat, y_ci, y_cj, M_X2_watts]) (by simp [lv_args, y_p_cat, y_ci, y_cj]) (fun z ad0 => ?_)
  unfold f_X2_watts at hf
  refine y_aload_n (x := p0) (pc2 := 1) rfl dX2_watts_0 rfl ?_
  obtain ⟨g9, hf⟩ := y_g hf
  refine y_getI (pc2 := 4) rfl dX2_watts_1 F_BoxYard_Box_15 (by decide) rfl g9 ?_
  refine y_iconst (v := 1) (pc2 := 5) rfl dX2_watts_4 (by decide) ?_
  refine y_icmp_eq (tgt := 11) (pc2 := 8) rfl dX2_watts_5 (by decide) (fun c8 => ?_) (fun c8 => ?_)
  · replace hf := y_it c8 hf
    refine y_aload_n (x := p1) (pc2 := 12) rfl dX2_watts_11 rfl ?_
    refine y_bipush (v := 32) (pc2 := 14) rfl dX2_watts_12 (by decide) ?_
    obtain ⟨g7, hf⟩ := y_g hf
    obtain ⟨r_, h1, c2, hf⟩ := y_clE hf
    refine y_callV (As := [.int 32]) (rm := rm_X9_mark) (cells := 0) (slots := 0) (pc2 := 17) rfl dX2_watts_14 n_X9_mark l_BoxYard_Box_65 i_X9_mark e_X9_mark (ci := 9) rfl rfl (by decide) g7 rfl rfl (by decide) (by decide) (by decide) (k_X9_mark c2) ?_
    refine y_iconst (v := 4) (pc2 := 18) rfl dX2_watts_17 (by decide) ?_
    refine y_aload_n (x := p0) (pc2 := 19) rfl dX2_watts_18 rfl ?_
    obtain ⟨g6, hf⟩ := y_g hf
    obtain ⟨r3, h4, c5, hf⟩ := y_clE hf
    refine y_callV (As := []) (rm := rm_X2_known) (cells := 0) (slots := 0) (pc2 := 22) rfl dX2_watts_19 n_X2_known l_BoxYard_Box_81 i_X2_known e_X2_known (ci := 2) rfl rfl (by decide) g6 rfl rfl (by decide) (by simp [y_ci, y_cj, y_p_cat]) (by decide) (k_X2_known c5) ?_
    refine y_bipush (v := 100) (pc2 := 24) rfl dX2_watts_22 (by decide) ?_
    refine y_idiv (pc2 := 25) rfl dX2_watts_24 (by decide) ?_
    refine y_iadd (pc2 := 26) rfl dX2_watts_25 ?_
    exact y_iretF hf dX2_watts_26 rfl (by decide) (by decide)
  · replace hf := y_ie c8 hf
    refine y_bipush (v := (-65 : Int32)) (pc2 := 10) rfl dX2_watts_8 (by decide) ?_
    exact y_iretF hf dX2_watts_10 rfl (by decide) (by decide)
theorem dX3_begin_0 : decode cX3_begin 0 = .ok (.aload_n 0, 1) := by decide +kernel
theorem dX3_begin_1 : decode cX3_begin 1 = .ok (.iload_n 1, 1) := by decide +kernel
theorem dX3_begin_2 : decode cX3_begin 2 = .ok (.putfield 13, 3) := by decide +kernel
theorem dX3_begin_5 : decode cX3_begin 5 = .ok (.aload_n 0, 1) := by decide +kernel
theorem dX3_begin_6 : decode cX3_begin 6 = .ok (.iload_n 2, 1) := by decide +kernel
theorem dX3_begin_7 : decode cX3_begin 7 = .ok (.putfield 16, 3) := by decide +kernel
theorem dX3_begin_10 : decode cX3_begin 10 = .ok (.aload_n 0, 1) := by decide +kernel
theorem dX3_begin_11 : decode cX3_begin 11 = .ok (.iload_n 3, 1) := by decide +kernel
theorem dX3_begin_12 : decode cX3_begin 12 = .ok (.putfield 19, 3) := by decide +kernel
theorem dX3_begin_15 : decode cX3_begin 15 = .ok (.aload_n 0, 1) := by decide +kernel
theorem dX3_begin_16 : decode cX3_begin 16 = .ok (.aconst_null, 1) := by decide +kernel
theorem dX3_begin_17 : decode cX3_begin 17 = .ok (.putfield 22, 3) := by decide +kernel
theorem dX3_begin_20 : decode cX3_begin 20 = .ok (.aload_n 0, 1) := by decide +kernel
theorem dX3_begin_21 : decode cX3_begin 21 = .ok (.iconst 0, 1) := by decide +kernel
theorem dX3_begin_22 : decode cX3_begin 22 = .ok (.putfield 26, 3) := by decide +kernel
theorem dX3_begin_25 : decode cX3_begin 25 = .ok (.aload_n 0, 1) := by decide +kernel
theorem dX3_begin_26 : decode cX3_begin 26 = .ok (.iconst 0, 1) := by decide +kernel
theorem dX3_begin_27 : decode cX3_begin 27 = .ok (.putfield 29, 3) := by decide +kernel
theorem dX3_begin_30 : decode cX3_begin 30 = .ok (.aload_n 0, 1) := by decide +kernel
theorem dX3_begin_31 : decode cX3_begin 31 = .ok (.iconst 1, 1) := by decide +kernel
theorem dX3_begin_32 : decode cX3_begin 32 = .ok (.putfield 32, 3) := by decide +kernel
theorem dX3_begin_35 : decode cX3_begin 35 = .ok (.return_, 1) := by decide +kernel
def M_X3_begin : y_M := (yX3_begin, cX3_begin, 4, (Option.none : Option Jvm.ClassFile.FieldType))
theorem n_X3_begin : y_N0 M_X3_begin 3 := ⟨(c_3 229 (by decide +kernel) rfl), (c_1 12 (by decide +kernel) rfl), ⟨by decide +kernel, by decide +kernel⟩, by decide +kernel⟩
theorem Fp_BoxYard_Crane_13 {nm : String} : y_Fp "BoxYard$Crane" nm 13 3 1 := ⟨_, _, _, rfl, by decide, Or.inl ⟨rfl, Or.inl (c_3 185 (by decide +kernel) rfl)⟩⟩
theorem Fp_BoxYard_Crane_16 {nm : String} : y_Fp "BoxYard$Crane" nm 16 3 2 := ⟨_, _, _, rfl, by decide, Or.inl ⟨rfl, Or.inl (c_3 188 (by decide +kernel) rfl)⟩⟩
theorem Fp_BoxYard_Crane_19 {nm : String} : y_Fp "BoxYard$Crane" nm 19 3 3 := ⟨_, _, _, rfl, by decide, Or.inl ⟨rfl, Or.inl (c_3 191 (by decide +kernel) rfl)⟩⟩
theorem Fp_BoxYard_Crane_22 {nm : String} : y_Fp "BoxYard$Crane" nm 22 3 4 := ⟨_, _, _, rfl, by decide, Or.inl ⟨rfl, Or.inl (c_3 196 (by decide +kernel) rfl)⟩⟩
theorem Fp_BoxYard_Crane_26 {nm : String} : y_Fp "BoxYard$Crane" nm 26 3 5 := ⟨_, _, _, rfl, by decide, Or.inl ⟨rfl, Or.inl (c_3 201 (by decide +kernel) rfl)⟩⟩
theorem Fp_BoxYard_Crane_29 {nm : String} : y_Fp "BoxYard$Crane" nm 29 3 6 := ⟨_, _, _, rfl, by decide, Or.inl ⟨rfl, Or.inl (c_3 205 (by decide +kernel) rfl)⟩⟩
theorem Fp_BoxYard_Crane_32 {nm : String} : y_Fp "BoxYard$Crane" nm 32 3 7 := ⟨_, _, _, rfl, by decide, Or.inl ⟨rfl, Or.inl (c_3 207 (by decide +kernel) rfl)⟩⟩
set_option maxRecDepth 100000 in
def f_X3_begin (p0 : Nat) (p1 : Int32) (p2 : Int32) (p3 : Int32) (h : y_H) : Option (Unit × y_H) :=
  if y_K h p0 = 4 then
  y_bd (s_I h p0 1 p1) (fun h1 =>
  if y_K h1 p0 = 4 then
  y_bd (s_I h1 p0 2 p2) (fun h4 =>
  if y_K h4 p0 = 4 then
  y_bd (s_I h4 p0 3 p3) (fun h7 =>
  if y_K h7 p0 = 4 then
  y_bd (s_P h7 p0 4 0) (fun h10 =>
  if y_K h10 p0 = 4 then
  y_bd (s_I h10 p0 5 0) (fun h13 =>
  if y_K h13 p0 = 4 then
  y_bd (s_I h13 p0 6 0) (fun h16 =>
  if y_K h16 p0 = 4 then
  y_bd (s_B h16 p0 7 true) (fun h19 =>
  some ((), h19))
  else none)
  else none)
  else none)
  else none)
  else none)
  else none)
  else none
abbrev rm_X3_begin : Room := { frames := 0, cells := 0, slots := 0, locals := 0 }
set_option maxRecDepth 100000 in
set_option maxHeartbeats 4000000 in
theorem k_X3_begin {l : Launch} {G : y_G} {p0 : Nat} {p1 : Int32} {p2 : Int32} {p3 : Int32} {h hz : y_H} {rz : Unit} (hf : f_X3_begin p0 p1 p2 p3 h = some (rz, hz)) : y_S l G M_X3_begin rm_X3_begin [y_p p0, .int p1, .int p2, .int p3] h none hz := by
  refine y_start (lv := [(0, y_p p0), (1, .int p1), (2, .int p2), (3, .int p3)]) (by decide) (by simp [lg_sl, y_p_cat, y_ci, y_cj, M_X3_begin]) (by simp [lv_args, y_p_cat, y_ci, y_cj]) (fun z ad0 => ?_)
  unfold f_X3_begin at hf
  refine y_aload_n (x := p0) (pc2 := 1) rfl dX3_begin_0 rfl ?_
  refine y_iload_n (pc2 := 2) rfl dX3_begin_1 rfl ?_
  obtain ⟨g3, hf⟩ := y_g hf
  obtain ⟨h1, e2, hf⟩ := y_bdE hf
  refine y_putI (x := p1) (pc2 := 5) rfl dX3_begin_2 Fp_BoxYard_Crane_13 (by decide) rfl g3 e2 ?_
  refine y_aload_n (x := p0) (pc2 := 6) rfl dX3_begin_5 rfl ?_
  refine y_iload_n (pc2 := 7) rfl dX3_begin_6 rfl ?_
  obtain ⟨g6, hf⟩ := y_g hf
  obtain ⟨h4, e5, hf⟩ := y_bdE hf
  refine y_putI (x := p2) (pc2 := 10) rfl dX3_begin_7 Fp_BoxYard_Crane_16 (by decide) rfl g6 e5 ?_
  refine y_aload_n (x := p0) (pc2 := 11) rfl dX3_begin_10 rfl ?_
  refine y_iload_n (pc2 := 12) rfl dX3_begin_11 rfl ?_
  obtain ⟨g9, hf⟩ := y_g hf
  obtain ⟨h7, e8, hf⟩ := y_bdE hf
  refine y_putI (x := p3) (pc2 := 15) rfl dX3_begin_12 Fp_BoxYard_Crane_19 (by decide) rfl g9 e8 ?_
  refine y_aload_n (x := p0) (pc2 := 16) rfl dX3_begin_15 rfl ?_
  refine y_null (pc2 := 17) rfl dX3_begin_16 ?_
  obtain ⟨g12, hf⟩ := y_g hf
  obtain ⟨h10, e11, hf⟩ := y_bdE hf
  refine y_putP (x := 0) (pc2 := 20) rfl dX3_begin_17 Fp_BoxYard_Crane_22 (by decide) rfl g12 e11 ?_
  refine y_aload_n (x := p0) (pc2 := 21) rfl dX3_begin_20 rfl ?_
  refine y_iconst (v := 0) (pc2 := 22) rfl dX3_begin_21 (by decide) ?_
  obtain ⟨g15, hf⟩ := y_g hf
  obtain ⟨h13, e14, hf⟩ := y_bdE hf
  refine y_putI (x := 0) (pc2 := 25) rfl dX3_begin_22 Fp_BoxYard_Crane_26 (by decide) rfl g15 e14 ?_
  refine y_aload_n (x := p0) (pc2 := 26) rfl dX3_begin_25 rfl ?_
  refine y_iconst (v := 0) (pc2 := 27) rfl dX3_begin_26 (by decide) ?_
  obtain ⟨g18, hf⟩ := y_g hf
  obtain ⟨h16, e17, hf⟩ := y_bdE hf
  refine y_putI (x := 0) (pc2 := 30) rfl dX3_begin_27 Fp_BoxYard_Crane_29 (by decide) rfl g18 e17 ?_
  refine y_aload_n (x := p0) (pc2 := 31) rfl dX3_begin_30 rfl ?_
  refine y_iconst (v := 1) (pc2 := 32) rfl dX3_begin_31 (by decide) ?_
  obtain ⟨g21, hf⟩ := y_g hf
  obtain ⟨h19, e20, hf⟩ := y_bdE hf
  refine y_putZ (x := true) (pc2 := 35) rfl dX3_begin_32 Fp_BoxYard_Crane_32 (by decide) rfl g21 e20 ?_
  exact y_vretF hf dX3_begin_35 rfl (by decide) (by decide)
theorem dX3_gantryStrength_0 : decode cX3_gantryStrength 0 = .ok (.aload_n 1, 1) := by decide +kernel
theorem dX3_gantryStrength_1 : decode cX3_gantryStrength 1 = .ok (.bipush 41, 2) := by decide +kernel
theorem dX3_gantryStrength_3 : decode cX3_gantryStrength 3 = .ok (.invokevirtual 36, 3) := by decide +kernel
theorem dX3_gantryStrength_6 : decode cX3_gantryStrength 6 = .ok (.sipush 300, 3) := by decide +kernel
theorem dX3_gantryStrength_9 : decode cX3_gantryStrength 9 = .ok (.ireturn, 1) := by decide +kernel
def M_X3_gantryStrength : y_M := (yX3_gantryStrength, cX3_gantryStrength, 2, (Option.some Jvm.ClassFile.FieldType.int))
theorem n_X3_gantryStrength : y_N0 M_X3_gantryStrength 1 := ⟨(c_4 7 (by decide +kernel) rfl), (c_1 12 (by decide +kernel) rfl), ⟨by decide +kernel, by decide +kernel⟩, by decide +kernel⟩
theorem l_BoxYard_Crane_36 : y_lnk "BoxYard$Crane" 36 M_X9_mark := Or.inl (c_4 3 (by decide +kernel) rfl)
set_option maxRecDepth 100000 in
def f_X3_gantryStrength (p0 : Nat) (p1 : Nat) (h : y_H) : Option (Int32 × y_H) :=
  if y_K h p1 = 10 then
  y_cl (f_X9_mark p1 41 h) (fun _ h1 =>
  some (300, h1))
  else none
abbrev rm_X3_gantryStrength : Room := { frames := 1, cells := 0, slots := 0, locals := 21 }
set_option maxRecDepth 100000 in
set_option maxHeartbeats 4000000 in
theorem k_X3_gantryStrength {l : Launch} {G : y_G} {p0 : Nat} {p1 : Nat} {h hz : y_H} {rz : Int32} (hf : f_X3_gantryStrength p0 p1 h = some (rz, hz)) : y_S l G M_X3_gantryStrength rm_X3_gantryStrength [y_p p0, y_p p1] h (some (.int rz)) hz := by
  refine y_start (lv := [(0, y_p p0), (1, y_p p1)]) (by decide) (by simp [lg_sl, y_p_cat, y_ci, y_cj, M_X3_gantryStrength]) (by simp [lv_args, y_p_cat, y_ci, y_cj]) (fun z ad0 => ?_)
  unfold f_X3_gantryStrength at hf
  refine y_aload_n (x := p1) (pc2 := 1) rfl dX3_gantryStrength_0 rfl ?_
  refine y_bipush (v := 41) (pc2 := 3) rfl dX3_gantryStrength_1 (by decide) ?_
  obtain ⟨g3, hf⟩ := y_g hf
  obtain ⟨r_, h1, c2, hf⟩ := y_clE hf
  refine y_callV (As := [.int 41]) (rm := rm_X9_mark) (cells := 0) (slots := 0) (pc2 := 6) rfl dX3_gantryStrength_3 n_X9_mark l_BoxYard_Crane_36 i_X9_mark e_X9_mark (ci := 9) rfl rfl (by decide) g3 rfl rfl (by decide) (by decide) (by decide) (k_X9_mark c2) ?_
  refine y_sipush (v := 300) (pc2 := 9) rfl dX3_gantryStrength_6 (by decide) ?_
  exact y_iretF hf dX3_gantryStrength_9 rfl (by decide) (by decide)
theorem dX3_straddleStrength_0 : decode cX3_straddleStrength 0 = .ok (.aload_n 1, 1) := by decide +kernel
theorem dX3_straddleStrength_1 : decode cX3_straddleStrength 1 = .ok (.bipush 44, 2) := by decide +kernel
theorem dX3_straddleStrength_3 : decode cX3_straddleStrength 3 = .ok (.invokevirtual 36, 3) := by decide +kernel
theorem dX3_straddleStrength_6 : decode cX3_straddleStrength 6 = .ok (.sipush 200, 3) := by decide +kernel
theorem dX3_straddleStrength_9 : decode cX3_straddleStrength 9 = .ok (.ireturn, 1) := by decide +kernel
def M_X3_straddleStrength : y_M := (yX3_straddleStrength, cX3_straddleStrength, 2, (Option.some Jvm.ClassFile.FieldType.int))
theorem n_X3_straddleStrength : y_N0 M_X3_straddleStrength 1 := ⟨(c_4 11 (by decide +kernel) rfl), (c_1 12 (by decide +kernel) rfl), ⟨by decide +kernel, by decide +kernel⟩, by decide +kernel⟩
set_option maxRecDepth 100000 in
def f_X3_straddleStrength (p0 : Nat) (p1 : Nat) (h : y_H) : Option (Int32 × y_H) :=
  if y_K h p1 = 10 then
  y_cl (f_X9_mark p1 44 h) (fun _ h1 =>
  some (200, h1))
  else none
abbrev rm_X3_straddleStrength : Room := { frames := 1, cells := 0, slots := 0, locals := 21 }
set_option maxRecDepth 100000 in
set_option maxHeartbeats 4000000 in
theorem k_X3_straddleStrength {l : Launch} {G : y_G} {p0 : Nat} {p1 : Nat} {h hz : y_H} {rz : Int32} (hf : f_X3_straddleStrength p0 p1 h = some (rz, hz)) : y_S l G M_X3_straddleStrength rm_X3_straddleStrength [y_p p0, y_p p1] h (some (.int rz)) hz := by
  refine y_start (lv := [(0, y_p p0), (1, y_p p1)]) (by decide) (by simp [lg_sl, y_p_cat, y_ci, y_cj, M_X3_straddleStrength]) (by simp [lv_args, y_p_cat, y_ci, y_cj]) (fun z ad0 => ?_)
  unfold f_X3_straddleStrength at hf
  refine y_aload_n (x := p1) (pc2 := 1) rfl dX3_straddleStrength_0 rfl ?_
  refine y_bipush (v := 44) (pc2 := 3) rfl dX3_straddleStrength_1 (by decide) ?_
  obtain ⟨g3, hf⟩ := y_g hf
  obtain ⟨r_, h1, c2, hf⟩ := y_clE hf
  refine y_callV (As := [.int 44]) (rm := rm_X9_mark) (cells := 0) (slots := 0) (pc2 := 6) rfl dX3_straddleStrength_3 n_X9_mark l_BoxYard_Crane_36 i_X9_mark e_X9_mark (ci := 9) rfl rfl (by decide) g3 rfl rfl (by decide) (by decide) (by decide) (k_X9_mark c2) ?_
  refine y_sipush (v := 200) (pc2 := 9) rfl dX3_straddleStrength_6 (by decide) ?_
  exact y_iretF hf dX3_straddleStrength_9 rfl (by decide) (by decide)
theorem dX3_strength_0 : decode cX3_strength 0 = .ok (.aload_n 0, 1) := by decide +kernel
theorem dX3_strength_1 : decode cX3_strength 1 = .ok (.getfield 13, 3) := by decide +kernel
theorem dX3_strength_4 : decode cX3_strength 4 = .ok (.tableswitch 86 1 4 #[32, 47, 62, 68], 32) := by decide +kernel
theorem dX3_strength_36 : decode cX3_strength 36 = .ok (.aload_n 1, 1) := by decide +kernel
theorem dX3_strength_37 : decode cX3_strength 37 = .ok (.bipush 42, 2) := by decide +kernel
theorem dX3_strength_39 : decode cX3_strength 39 = .ok (.invokevirtual 36, 3) := by decide +kernel
theorem dX3_strength_42 : decode cX3_strength 42 = .ok (.aload_n 0, 1) := by decide +kernel
theorem dX3_strength_43 : decode cX3_strength 43 = .ok (.aload_n 1, 1) := by decide +kernel
theorem dX3_strength_44 : decode cX3_strength 44 = .ok (.invokevirtual 42, 3) := by decide +kernel
theorem dX3_strength_47 : decode cX3_strength 47 = .ok (.bipush 100, 2) := by decide +kernel
theorem dX3_strength_49 : decode cX3_strength 49 = .ok (.iadd, 1) := by decide +kernel
theorem dX3_strength_50 : decode cX3_strength 50 = .ok (.ireturn, 1) := by decide +kernel
theorem dX3_strength_51 : decode cX3_strength 51 = .ok (.aload_n 1, 1) := by decide +kernel
theorem dX3_strength_52 : decode cX3_strength 52 = .ok (.bipush 43, 2) := by decide +kernel
theorem dX3_strength_54 : decode cX3_strength 54 = .ok (.invokevirtual 36, 3) := by decide +kernel
theorem dX3_strength_57 : decode cX3_strength 57 = .ok (.aload_n 0, 1) := by decide +kernel
theorem dX3_strength_58 : decode cX3_strength 58 = .ok (.aload_n 1, 1) := by decide +kernel
theorem dX3_strength_59 : decode cX3_strength 59 = .ok (.invokevirtual 42, 3) := by decide +kernel
theorem dX3_strength_62 : decode cX3_strength 62 = .ok (.bipush 50, 2) := by decide +kernel
theorem dX3_strength_64 : decode cX3_strength 64 = .ok (.isub, 1) := by decide +kernel
theorem dX3_strength_65 : decode cX3_strength 65 = .ok (.ireturn, 1) := by decide +kernel
theorem dX3_strength_66 : decode cX3_strength 66 = .ok (.aload_n 0, 1) := by decide +kernel
theorem dX3_strength_67 : decode cX3_strength 67 = .ok (.aload_n 1, 1) := by decide +kernel
theorem dX3_strength_68 : decode cX3_strength 68 = .ok (.invokevirtual 46, 3) := by decide +kernel
theorem dX3_strength_71 : decode cX3_strength 71 = .ok (.ireturn, 1) := by decide +kernel
theorem dX3_strength_72 : decode cX3_strength 72 = .ok (.aload_n 1, 1) := by decide +kernel
theorem dX3_strength_73 : decode cX3_strength 73 = .ok (.bipush 45, 2) := by decide +kernel
theorem dX3_strength_75 : decode cX3_strength 75 = .ok (.invokevirtual 36, 3) := by decide +kernel
theorem dX3_strength_78 : decode cX3_strength 78 = .ok (.aload_n 0, 1) := by decide +kernel
theorem dX3_strength_79 : decode cX3_strength 79 = .ok (.aload_n 1, 1) := by decide +kernel
theorem dX3_strength_80 : decode cX3_strength 80 = .ok (.invokevirtual 46, 3) := by decide +kernel
theorem dX3_strength_83 : decode cX3_strength 83 = .ok (.iconst 2, 1) := by decide +kernel
theorem dX3_strength_84 : decode cX3_strength 84 = .ok (.idiv, 1) := by decide +kernel
theorem dX3_strength_85 : decode cX3_strength 85 = .ok (.sipush 150, 3) := by decide +kernel
theorem dX3_strength_88 : decode cX3_strength 88 = .ok (.iadd, 1) := by decide +kernel
theorem dX3_strength_89 : decode cX3_strength 89 = .ok (.ireturn, 1) := by decide +kernel
theorem dX3_strength_90 : decode cX3_strength 90 = .ok (.aload_n 0, 1) := by decide +kernel
theorem dX3_strength_91 : decode cX3_strength 91 = .ok (.aload_n 1, 1) := by decide +kernel
theorem dX3_strength_92 : decode cX3_strength 92 = .ok (.invokevirtual 42, 3) := by decide +kernel
theorem dX3_strength_95 : decode cX3_strength 95 = .ok (.ireturn, 1) := by decide +kernel
def M_X3_strength : y_M := (yX3_strength, cX3_strength, 2, (Option.some Jvm.ClassFile.FieldType.int))
theorem n_X3_strength : y_N0 M_X3_strength 1 := ⟨(c_4 2 (by decide +kernel) rfl), (c_1 12 (by decide +kernel) rfl), ⟨by decide +kernel, by decide +kernel⟩, by decide +kernel⟩
theorem F_BoxYard_Crane_13 : y_F "BoxYard$Crane" 13 3 1 := ⟨_, _, _, rfl, by decide, Or.inl (c_3 185 (by decide +kernel) rfl)⟩
theorem l_BoxYard_Crane_42 : y_lnk "BoxYard$Crane" 42 M_X3_gantryStrength := Or.inl (c_4 4 (by decide +kernel) rfl)
theorem i_X3_gantryStrength : Cond.instanceMethod (M_X3_gantryStrength).1 ∈ y_tb := (c_4 6 (by decide +kernel) rfl)
theorem e_X3_gantryStrength : Cond.selects (M_X3_gantryStrength).1.cls (M_X3_gantryStrength).1 (M_X3_gantryStrength).1 ∈ y_tb := (m_s 7 (by decide +kernel) rfl)
theorem l_BoxYard_Crane_46 : y_lnk "BoxYard$Crane" 46 M_X3_straddleStrength := Or.inl (c_4 8 (by decide +kernel) rfl)
theorem i_X3_straddleStrength : Cond.instanceMethod (M_X3_straddleStrength).1 ∈ y_tb := (c_4 10 (by decide +kernel) rfl)
theorem e_X3_straddleStrength : Cond.selects (M_X3_straddleStrength).1.cls (M_X3_straddleStrength).1 (M_X3_straddleStrength).1 ∈ y_tb := (m_s 8 (by decide +kernel) rfl)
set_option maxRecDepth 100000 in
def f_X3_strength (p0 : Nat) (p1 : Nat) (h : y_H) : Option (Int32 × y_H) :=
  if y_K h p0 = 4 then
  if (y_I h p0 1) = 1 then
    if y_K h p1 = 10 then
    y_cl (f_X9_mark p1 42 h) (fun _ h2 =>
    if y_K h2 p0 = 4 then
    y_cl (f_X3_gantryStrength p0 p1 h2) (fun r4 h5 =>
    some (r4 + 100, h5))
    else none)
    else none
  else
  if (y_I h p0 1) = 2 then
    if y_K h p1 = 10 then
    y_cl (f_X9_mark p1 43 h) (fun _ h10 =>
    if y_K h10 p0 = 4 then
    y_cl (f_X3_gantryStrength p0 p1 h10) (fun r12 h13 =>
    some (r12 - 50, h13))
    else none)
    else none
  else
  if (y_I h p0 1) = 3 then
    if y_K h p0 = 4 then
    y_cl (f_X3_straddleStrength p0 p1 h) (fun r18 h19 =>
    some (r18, h19))
    else none
  else
  if (y_I h p0 1) = 4 then
    if y_K h p1 = 10 then
    y_cl (f_X9_mark p1 45 h) (fun _ h23 =>
    if y_K h23 p0 = 4 then
    y_cl (f_X3_straddleStrength p0 p1 h23) (fun r25 h26 =>
    some ((r25 / 2) + 150, h26))
    else none)
    else none
  else
  if y_K h p0 = 4 then
  y_cl (f_X3_gantryStrength p0 p1 h) (fun r30 h31 =>
  some (r30, h31))
  else none
  else none
abbrev rm_X3_strength : Room := { frames := 2, cells := 0, slots := 0, locals := 42 }
set_option maxRecDepth 100000 in
set_option maxHeartbeats 4000000 in
theorem k_X3_strength {l : Launch} {G : y_G} {p0 : Nat} {p1 : Nat} {h hz : y_H} {rz : Int32} (hf : f_X3_strength p0 p1 h = some (rz, hz)) : y_S l G M_X3_strength rm_X3_strength [y_p p0, y_p p1] h (some (.int rz)) hz := by
  refine y_start (lv := [(0, y_p p0), (1, y_p p1)]) (by decide) (by simp [lg_sl, y_p_cat, y_ci, y_cj, M_X3_strength]) (by simp [lv_args, y_p_cat, y_ci, y_cj]) (fun z ad0 => ?_)
  unfold f_X3_strength at hf
  refine y_aload_n (x := p0) (pc2 := 1) rfl dX3_strength_0 rfl ?_
  obtain ⟨g34, hf⟩ := y_g hf
  refine y_getI (pc2 := 4) rfl dX3_strength_1 F_BoxYard_Crane_13 (by decide) rfl g34 ?_
  by_cases c1 : (y_I h p0 1) = 1
  · replace hf := y_it c1 hf
    refine y_table (off := 32) (tgt := 36) dX3_strength_4 (by (rw [c1]) <;> decide) (by decide) ?_
    refine y_aload_n (x := p1) (pc2 := 37) rfl dX3_strength_36 rfl ?_
    refine y_bipush (v := 42) (pc2 := 39) rfl dX3_strength_37 (by decide) ?_
    obtain ⟨g8, hf⟩ := y_g hf
    obtain ⟨r_, h2, c3, hf⟩ := y_clE hf
    refine y_callV (As := [.int 42]) (rm := rm_X9_mark) (cells := 0) (slots := 0) (pc2 := 42) rfl dX3_strength_39 n_X9_mark l_BoxYard_Crane_36 i_X9_mark e_X9_mark (ci := 9) rfl rfl (by decide) g8 rfl rfl (by decide) (by decide) (by decide) (k_X9_mark c3) ?_
    refine y_aload_n (x := p0) (pc2 := 43) rfl dX3_strength_42 rfl ?_
    refine y_aload_n (x := p1) (pc2 := 44) rfl dX3_strength_43 rfl ?_
    obtain ⟨g7, hf⟩ := y_g hf
    obtain ⟨r4, h5, c6, hf⟩ := y_clE hf
    refine y_callV (As := [y_p p1]) (rm := rm_X3_gantryStrength) (cells := 0) (slots := 0) (pc2 := 47) rfl dX3_strength_44 n_X3_gantryStrength l_BoxYard_Crane_42 i_X3_gantryStrength e_X3_gantryStrength (ci := 3) rfl rfl (by decide) g7 rfl rfl (by decide) (by decide) (by decide) (k_X3_gantryStrength c6) ?_
    refine y_bipush (v := 100) (pc2 := 49) rfl dX3_strength_47 (by decide) ?_
    refine y_iadd (pc2 := 50) rfl dX3_strength_49 ?_
    exact y_iretF hf dX3_strength_50 rfl (by decide) (by decide)
  · replace hf := y_ie c1 hf
    by_cases c9 : (y_I h p0 1) = 2
    · replace hf := y_it c9 hf
      refine y_table (off := 47) (tgt := 51) dX3_strength_4 (by (rw [c9]) <;> decide) (by decide) ?_
      refine y_aload_n (x := p1) (pc2 := 52) rfl dX3_strength_51 rfl ?_
      refine y_bipush (v := 43) (pc2 := 54) rfl dX3_strength_52 (by decide) ?_
      obtain ⟨g16, hf⟩ := y_g hf
      obtain ⟨r_, h10, c11, hf⟩ := y_clE hf
      refine y_callV (As := [.int 43]) (rm := rm_X9_mark) (cells := 0) (slots := 0) (pc2 := 57) rfl dX3_strength_54 n_X9_mark l_BoxYard_Crane_36 i_X9_mark e_X9_mark (ci := 9) rfl rfl (by decide) g16 rfl rfl (by decide) (by decide) (by decide) (k_X9_mark c11) ?_
      refine y_aload_n (x := p0) (pc2 := 58) rfl dX3_strength_57 rfl ?_
      refine y_aload_n (x := p1) (pc2 := 59) rfl dX3_strength_58 rfl ?_
      obtain ⟨g15, hf⟩ := y_g hf
      obtain ⟨r12, h13, c14, hf⟩ := y_clE hf
      refine y_callV (As := [y_p p1]) (rm := rm_X3_gantryStrength) (cells := 0) (slots := 0) (pc2 := 62) rfl dX3_strength_59 n_X3_gantryStrength l_BoxYard_Crane_42 i_X3_gantryStrength e_X3_gantryStrength (ci := 3) rfl rfl (by decide) g15 rfl rfl (by decide) (by decide) (by decide) (k_X3_gantryStrength c14) ?_
      refine y_bipush (v := 50) (pc2 := 64) rfl dX3_strength_62 (by decide) ?_
      refine y_isub (pc2 := 65) rfl dX3_strength_64 ?_
      exact y_iretF hf dX3_strength_65 rfl (by decide) (by decide)
    · replace hf := y_ie c9 hf
      by_cases c17 : (y_I h p0 1) = 3
      · replace hf := y_it c17 hf
        refine y_table (off := 62) (tgt := 66) dX3_strength_4 (by (rw [c17]) <;> decide) (by decide) ?_
        refine y_aload_n (x := p0) (pc2 := 67) rfl dX3_strength_66 rfl ?_
        refine y_aload_n (x := p1) (pc2 := 68) rfl dX3_strength_67 rfl ?_
        obtain ⟨g21, hf⟩ := y_g hf
        obtain ⟨r18, h19, c20, hf⟩ := y_clE hf
        refine y_callV (As := [y_p p1]) (rm := rm_X3_straddleStrength) (cells := 0) (slots := 0) (pc2 := 71) rfl dX3_strength_68 n_X3_straddleStrength l_BoxYard_Crane_46 i_X3_straddleStrength e_X3_straddleStrength (ci := 3) rfl rfl (by decide) g21 rfl rfl (by decide) (by decide) (by decide) (k_X3_straddleStrength c20) ?_
        exact y_iretF hf dX3_strength_71 rfl (by decide) (by decide)
      · replace hf := y_ie c17 hf
        by_cases c22 : (y_I h p0 1) = 4
        · replace hf := y_it c22 hf
          refine y_table (off := 68) (tgt := 72) dX3_strength_4 (by (rw [c22]) <;> decide) (by decide) ?_
          refine y_aload_n (x := p1) (pc2 := 73) rfl dX3_strength_72 rfl ?_
          refine y_bipush (v := 45) (pc2 := 75) rfl dX3_strength_73 (by decide) ?_
          obtain ⟨g29, hf⟩ := y_g hf
          obtain ⟨r_, h23, c24, hf⟩ := y_clE hf
          refine y_callV (As := [.int 45]) (rm := rm_X9_mark) (cells := 0) (slots := 0) (pc2 := 78) rfl dX3_strength_75 n_X9_mark l_BoxYard_Crane_36 i_X9_mark e_X9_mark (ci := 9) rfl rfl (by decide) g29 rfl rfl (by decide) (by decide) (by decide) (k_X9_mark c24) ?_
          refine y_aload_n (x := p0) (pc2 := 79) rfl dX3_strength_78 rfl ?_
          refine y_aload_n (x := p1) (pc2 := 80) rfl dX3_strength_79 rfl ?_
          obtain ⟨g28, hf⟩ := y_g hf
          obtain ⟨r25, h26, c27, hf⟩ := y_clE hf
          refine y_callV (As := [y_p p1]) (rm := rm_X3_straddleStrength) (cells := 0) (slots := 0) (pc2 := 83) rfl dX3_strength_80 n_X3_straddleStrength l_BoxYard_Crane_46 i_X3_straddleStrength e_X3_straddleStrength (ci := 3) rfl rfl (by decide) g28 rfl rfl (by decide) (by decide) (by decide) (k_X3_straddleStrength c27) ?_
          refine y_iconst (v := 2) (pc2 := 84) rfl dX3_strength_83 (by decide) ?_
          refine y_idiv (pc2 := 85) rfl dX3_strength_84 (by decide) ?_
          refine y_sipush (v := 150) (pc2 := 88) rfl dX3_strength_85 (by decide) ?_
          refine y_iadd (pc2 := 89) rfl dX3_strength_88 ?_
          exact y_iretF hf dX3_strength_89 rfl (by decide) (by decide)
        · replace hf := y_ie c22 hf
          refine y_table (off := 86) (tgt := 90) dX3_strength_4 ((if_pos (by have q0 := lv_neT c1 (a := 1) (by decide); have q1 := lv_neT c9 (a := 2) (by decide); have q2 := lv_neT c17 (a := 3) (by decide); have q3 := lv_neT c22 (a := 4) (by decide); omega))) (by decide) ?_
          refine y_aload_n (x := p0) (pc2 := 91) rfl dX3_strength_90 rfl ?_
          refine y_aload_n (x := p1) (pc2 := 92) rfl dX3_strength_91 rfl ?_
          obtain ⟨g33, hf⟩ := y_g hf
          obtain ⟨r30, h31, c32, hf⟩ := y_clE hf
          refine y_callV (As := [y_p p1]) (rm := rm_X3_gantryStrength) (cells := 0) (slots := 0) (pc2 := 95) rfl dX3_strength_92 n_X3_gantryStrength l_BoxYard_Crane_42 i_X3_gantryStrength e_X3_gantryStrength (ci := 3) rfl rfl (by decide) g33 rfl rfl (by decide) (by decide) (by decide) (k_X3_gantryStrength c32) ?_
          exact y_iretF hf dX3_strength_95 rfl (by decide) (by decide)
theorem dX3_gantryStop_0 : decode cX3_gantryStop 0 = .ok (.aload_n 1, 1) := by decide +kernel
theorem dX3_gantryStop_1 : decode cX3_gantryStop 1 = .ok (.bipush 51, 2) := by decide +kernel
theorem dX3_gantryStop_3 : decode cX3_gantryStop 3 = .ok (.invokevirtual 36, 3) := by decide +kernel
theorem dX3_gantryStop_6 : decode cX3_gantryStop 6 = .ok (.bipush 25, 2) := by decide +kernel
theorem dX3_gantryStop_8 : decode cX3_gantryStop 8 = .ok (.ireturn, 1) := by decide +kernel
def M_X3_gantryStop : y_M := (yX3_gantryStop, cX3_gantryStop, 2, (Option.some Jvm.ClassFile.FieldType.int))
theorem n_X3_gantryStop : y_N0 M_X3_gantryStop 1 := ⟨(c_4 19 (by decide +kernel) rfl), (c_1 12 (by decide +kernel) rfl), ⟨by decide +kernel, by decide +kernel⟩, by decide +kernel⟩
set_option maxRecDepth 100000 in
def f_X3_gantryStop (p0 : Nat) (p1 : Nat) (h : y_H) : Option (Int32 × y_H) :=
  if y_K h p1 = 10 then
  y_cl (f_X9_mark p1 51 h) (fun _ h1 =>
  some (25, h1))
  else none
abbrev rm_X3_gantryStop : Room := { frames := 1, cells := 0, slots := 0, locals := 21 }
set_option maxRecDepth 100000 in
set_option maxHeartbeats 4000000 in
theorem k_X3_gantryStop {l : Launch} {G : y_G} {p0 : Nat} {p1 : Nat} {h hz : y_H} {rz : Int32} (hf : f_X3_gantryStop p0 p1 h = some (rz, hz)) : y_S l G M_X3_gantryStop rm_X3_gantryStop [y_p p0, y_p p1] h (some (.int rz)) hz := by
  refine y_start (lv := [(0, y_p p0), (1, y_p p1)]) (by decide) (by simp [lg_sl, y_p_cat, y_ci, y_cj, M_X3_gantryStop]) (by simp [lv_args, y_p_cat, y_ci, y_cj]) (fun z ad0 => ?_)
  unfold f_X3_gantryStop at hf
  refine y_aload_n (x := p1) (pc2 := 1) rfl dX3_gantryStop_0 rfl ?_
  refine y_bipush (v := 51) (pc2 := 3) rfl dX3_gantryStop_1 (by decide) ?_
  obtain ⟨g3, hf⟩ := y_g hf
  obtain ⟨r_, h1, c2, hf⟩ := y_clE hf
  refine y_callV (As := [.int 51]) (rm := rm_X9_mark) (cells := 0) (slots := 0) (pc2 := 6) rfl dX3_gantryStop_3 n_X9_mark l_BoxYard_Crane_36 i_X9_mark e_X9_mark (ci := 9) rfl rfl (by decide) g3 rfl rfl (by decide) (by decide) (by decide) (k_X9_mark c2) ?_
  refine y_bipush (v := 25) (pc2 := 8) rfl dX3_gantryStop_6 (by decide) ?_
  exact y_iretF hf dX3_gantryStop_8 rfl (by decide) (by decide)
theorem dX3_craneStop_0 : decode cX3_craneStop 0 = .ok (.aload_n 1, 1) := by decide +kernel
theorem dX3_craneStop_1 : decode cX3_craneStop 1 = .ok (.bipush 50, 2) := by decide +kernel
theorem dX3_craneStop_3 : decode cX3_craneStop 3 = .ok (.invokevirtual 36, 3) := by decide +kernel
theorem dX3_craneStop_6 : decode cX3_craneStop 6 = .ok (.aload_n 1, 1) := by decide +kernel
theorem dX3_craneStop_7 : decode cX3_craneStop 7 = .ok (.bipush 57, 2) := by decide +kernel
theorem dX3_craneStop_9 : decode cX3_craneStop 9 = .ok (.invokevirtual 36, 3) := by decide +kernel
theorem dX3_craneStop_12 : decode cX3_craneStop 12 = .ok (.bipush 20, 2) := by decide +kernel
theorem dX3_craneStop_14 : decode cX3_craneStop 14 = .ok (.ireturn, 1) := by decide +kernel
def M_X3_craneStop : y_M := (yX3_craneStop, cX3_craneStop, 2, (Option.some Jvm.ClassFile.FieldType.int))
theorem n_X3_craneStop : y_N0 M_X3_craneStop 1 := ⟨(c_4 23 (by decide +kernel) rfl), (c_1 12 (by decide +kernel) rfl), ⟨by decide +kernel, by decide +kernel⟩, by decide +kernel⟩
set_option maxRecDepth 100000 in
def f_X3_craneStop (p0 : Nat) (p1 : Nat) (h : y_H) : Option (Int32 × y_H) :=
  if y_K h p1 = 10 then
  y_cl (f_X9_mark p1 50 h) (fun _ h1 =>
  if y_K h1 p1 = 10 then
  y_cl (f_X9_mark p1 57 h1) (fun _ h3 =>
  some (20, h3))
  else none)
  else none
abbrev rm_X3_craneStop : Room := { frames := 1, cells := 0, slots := 0, locals := 21 }
set_option maxRecDepth 100000 in
set_option maxHeartbeats 4000000 in
theorem k_X3_craneStop {l : Launch} {G : y_G} {p0 : Nat} {p1 : Nat} {h hz : y_H} {rz : Int32} (hf : f_X3_craneStop p0 p1 h = some (rz, hz)) : y_S l G M_X3_craneStop rm_X3_craneStop [y_p p0, y_p p1] h (some (.int rz)) hz := by
  refine y_start (lv := [(0, y_p p0), (1, y_p p1)]) (by decide) (by simp [lg_sl, y_p_cat, y_ci, y_cj, M_X3_craneStop]) (by simp [lv_args, y_p_cat, y_ci, y_cj]) (fun z ad0 => ?_)
  unfold f_X3_craneStop at hf
  refine y_aload_n (x := p1) (pc2 := 1) rfl dX3_craneStop_0 rfl ?_
  refine y_bipush (v := 50) (pc2 := 3) rfl dX3_craneStop_1 (by decide) ?_
  obtain ⟨g6, hf⟩ := y_g hf
  obtain ⟨r_, h1, c2, hf⟩ := y_clE hf
  refine y_callV (As := [.int 50]) (rm := rm_X9_mark) (cells := 0) (slots := 0) (pc2 := 6) rfl dX3_craneStop_3 n_X9_mark l_BoxYard_Crane_36 i_X9_mark e_X9_mark (ci := 9) rfl rfl (by decide) g6 rfl rfl (by decide) (by decide) (by decide) (k_X9_mark c2) ?_
  refine y_aload_n (x := p1) (pc2 := 7) rfl dX3_craneStop_6 rfl ?_
  refine y_bipush (v := 57) (pc2 := 9) rfl dX3_craneStop_7 (by decide) ?_
  obtain ⟨g5, hf⟩ := y_g hf
  obtain ⟨r_, h3, c4, hf⟩ := y_clE hf
  refine y_callV (As := [.int 57]) (rm := rm_X9_mark) (cells := 0) (slots := 0) (pc2 := 12) rfl dX3_craneStop_9 n_X9_mark l_BoxYard_Crane_36 i_X9_mark e_X9_mark (ci := 9) rfl rfl (by decide) g5 rfl rfl (by decide) (by decide) (by decide) (k_X9_mark c4) ?_
  refine y_bipush (v := 20) (pc2 := 14) rfl dX3_craneStop_12 (by decide) ?_
  exact y_iretF hf dX3_craneStop_14 rfl (by decide) (by decide)
theorem dX3_stop_0 : decode cX3_stop 0 = .ok (.aload_n 0, 1) := by decide +kernel
theorem dX3_stop_1 : decode cX3_stop 1 = .ok (.getfield 13, 3) := by decide +kernel
theorem dX3_stop_4 : decode cX3_stop 4 = .ok (.tableswitch 66 1 4 #[32, 66, 46, 52], 32) := by decide +kernel
theorem dX3_stop_36 : decode cX3_stop 36 = .ok (.aload_n 1, 1) := by decide +kernel
theorem dX3_stop_37 : decode cX3_stop 37 = .ok (.bipush 52, 2) := by decide +kernel
theorem dX3_stop_39 : decode cX3_stop 39 = .ok (.invokevirtual 36, 3) := by decide +kernel
theorem dX3_stop_42 : decode cX3_stop 42 = .ok (.aload_n 0, 1) := by decide +kernel
theorem dX3_stop_43 : decode cX3_stop 43 = .ok (.aload_n 1, 1) := by decide +kernel
theorem dX3_stop_44 : decode cX3_stop 44 = .ok (.invokevirtual 49, 3) := by decide +kernel
theorem dX3_stop_47 : decode cX3_stop 47 = .ok (.iconst 5, 1) := by decide +kernel
theorem dX3_stop_48 : decode cX3_stop 48 = .ok (.isub, 1) := by decide +kernel
theorem dX3_stop_49 : decode cX3_stop 49 = .ok (.ireturn, 1) := by decide +kernel
theorem dX3_stop_50 : decode cX3_stop 50 = .ok (.aload_n 0, 1) := by decide +kernel
theorem dX3_stop_51 : decode cX3_stop 51 = .ok (.aload_n 1, 1) := by decide +kernel
theorem dX3_stop_52 : decode cX3_stop 52 = .ok (.invokevirtual 52, 3) := by decide +kernel
theorem dX3_stop_55 : decode cX3_stop 55 = .ok (.ireturn, 1) := by decide +kernel
theorem dX3_stop_56 : decode cX3_stop 56 = .ok (.aload_n 1, 1) := by decide +kernel
theorem dX3_stop_57 : decode cX3_stop 57 = .ok (.bipush 55, 2) := by decide +kernel
theorem dX3_stop_59 : decode cX3_stop 59 = .ok (.invokevirtual 36, 3) := by decide +kernel
theorem dX3_stop_62 : decode cX3_stop 62 = .ok (.aload_n 0, 1) := by decide +kernel
theorem dX3_stop_63 : decode cX3_stop 63 = .ok (.aload_n 1, 1) := by decide +kernel
theorem dX3_stop_64 : decode cX3_stop 64 = .ok (.invokevirtual 52, 3) := by decide +kernel
theorem dX3_stop_67 : decode cX3_stop 67 = .ok (.iconst 2, 1) := by decide +kernel
theorem dX3_stop_68 : decode cX3_stop 68 = .ok (.iadd, 1) := by decide +kernel
theorem dX3_stop_69 : decode cX3_stop 69 = .ok (.ireturn, 1) := by decide +kernel
theorem dX3_stop_70 : decode cX3_stop 70 = .ok (.aload_n 0, 1) := by decide +kernel
theorem dX3_stop_71 : decode cX3_stop 71 = .ok (.aload_n 1, 1) := by decide +kernel
theorem dX3_stop_72 : decode cX3_stop 72 = .ok (.invokevirtual 49, 3) := by decide +kernel
theorem dX3_stop_75 : decode cX3_stop 75 = .ok (.ireturn, 1) := by decide +kernel
def M_X3_stop : y_M := (yX3_stop, cX3_stop, 2, (Option.some Jvm.ClassFile.FieldType.int))
theorem n_X3_stop : y_N0 M_X3_stop 1 := ⟨(c_4 15 (by decide +kernel) rfl), (c_1 12 (by decide +kernel) rfl), ⟨by decide +kernel, by decide +kernel⟩, by decide +kernel⟩
theorem l_BoxYard_Crane_49 : y_lnk "BoxYard$Crane" 49 M_X3_gantryStop := Or.inl (c_4 16 (by decide +kernel) rfl)
theorem i_X3_gantryStop : Cond.instanceMethod (M_X3_gantryStop).1 ∈ y_tb := (c_4 18 (by decide +kernel) rfl)
theorem e_X3_gantryStop : Cond.selects (M_X3_gantryStop).1.cls (M_X3_gantryStop).1 (M_X3_gantryStop).1 ∈ y_tb := (m_s 9 (by decide +kernel) rfl)
theorem l_BoxYard_Crane_52 : y_lnk "BoxYard$Crane" 52 M_X3_craneStop := Or.inl (c_4 20 (by decide +kernel) rfl)
theorem i_X3_craneStop : Cond.instanceMethod (M_X3_craneStop).1 ∈ y_tb := (c_4 22 (by decide +kernel) rfl)
theorem e_X3_craneStop : Cond.selects (M_X3_craneStop).1.cls (M_X3_craneStop).1 (M_X3_craneStop).1 ∈ y_tb := (m_s 10 (by decide +kernel) rfl)
set_option maxRecDepth 100000 in
def f_X3_stop (p0 : Nat) (p1 : Nat) (h : y_H) : Option (Int32 × y_H) :=
  if y_K h p0 = 4 then
  y_jn (fun (v0_70 : Nat) (v1_70 : Nat) (h1 : y_H) => (
      if y_K h1 v0_70 = 4 then
      y_cl (f_X3_gantryStop v0_70 v1_70 h1) (fun r2 h3 =>
      some (r2, h3))
      else none : Option (Int32 × y_H))) (fun j70 =>
  if (y_I h p0 1) = 1 then
    if y_K h p1 = 10 then
    y_cl (f_X9_mark p1 52 h) (fun _ h7 =>
    if y_K h7 p0 = 4 then
    y_cl (f_X3_gantryStop p0 p1 h7) (fun r9 h10 =>
    some (r9 - 5, h10))
    else none)
    else none
  else
  if (y_I h p0 1) = 2 then
    j70 p0 p1 h
  else
  if (y_I h p0 1) = 3 then
    if y_K h p0 = 4 then
    y_cl (f_X3_craneStop p0 p1 h) (fun r16 h17 =>
    some (r16, h17))
    else none
  else
  if (y_I h p0 1) = 4 then
    if y_K h p1 = 10 then
    y_cl (f_X9_mark p1 55 h) (fun _ h21 =>
    if y_K h21 p0 = 4 then
    y_cl (f_X3_craneStop p0 p1 h21) (fun r23 h24 =>
    some (r23 + 2, h24))
    else none)
    else none
  else
  j70 p0 p1 h)
  else none
abbrev rm_X3_stop : Room := { frames := 2, cells := 0, slots := 0, locals := 42 }
set_option maxRecDepth 100000 in
set_option maxHeartbeats 4000000 in
theorem k_X3_stop {l : Launch} {G : y_G} {p0 : Nat} {p1 : Nat} {h hz : y_H} {rz : Int32} (hf : f_X3_stop p0 p1 h = some (rz, hz)) : y_S l G M_X3_stop rm_X3_stop [y_p p0, y_p p1] h (some (.int rz)) hz := by
  refine y_start (lv := [(0, y_p p0), (1, y_p p1)]) (by decide) (by simp [lg_sl, y_p_cat, y_ci, y_cj, M_X3_stop]) (by simp [lv_args, y_p_cat, y_ci, y_cj]) (fun z ad0 => ?_)
  unfold f_X3_stop at hf
  refine y_aload_n (x := p0) (pc2 := 1) rfl dX3_stop_0 rfl ?_
  obtain ⟨g28, hf⟩ := y_g hf
  refine y_getI (pc2 := 4) rfl dX3_stop_1 F_BoxYard_Crane_13 (by decide) rfl g28 ?_
  refine y_jnE hf (fun j => ∀ (v0_70 : Nat) (v1_70 : Nat) (h1 : y_H), j v0_70 v1_70 h1 = some (rz, hz) → y_V l G z rm_X3_stop M_X3_stop ad0 h (some (.int rz)) hz 70 [(0, y_p v0_70), (1, y_p v1_70)] [] h1 0 0) (fun v0_70 v1_70 h1 hf => ?_) (fun j70 hj70 hf => ?_)
  · refine y_aload_n (x := v0_70) (pc2 := 71) rfl dX3_stop_70 rfl ?_
    refine y_aload_n (x := v1_70) (pc2 := 72) rfl dX3_stop_71 rfl ?_
    obtain ⟨g5, hf⟩ := y_g hf
    obtain ⟨r2, h3, c4, hf⟩ := y_clE hf
    refine y_callV (As := [y_p v1_70]) (rm := rm_X3_gantryStop) (cells := 0) (slots := 0) (pc2 := 75) rfl dX3_stop_72 n_X3_gantryStop l_BoxYard_Crane_49 i_X3_gantryStop e_X3_gantryStop (ci := 3) rfl rfl (by decide) g5 rfl rfl (by decide) (by decide) (by decide) (k_X3_gantryStop c4) ?_
    exact y_iretF hf dX3_stop_75 rfl (by decide) (by decide)
  · by_cases c6 : (y_I h p0 1) = 1
    · replace hf := y_it c6 hf
      refine y_table (off := 32) (tgt := 36) dX3_stop_4 (by (rw [c6]) <;> decide) (by decide) ?_
      refine y_aload_n (x := p1) (pc2 := 37) rfl dX3_stop_36 rfl ?_
      refine y_bipush (v := 52) (pc2 := 39) rfl dX3_stop_37 (by decide) ?_
      obtain ⟨g13, hf⟩ := y_g hf
      obtain ⟨r_, h7, c8, hf⟩ := y_clE hf
      refine y_callV (As := [.int 52]) (rm := rm_X9_mark) (cells := 0) (slots := 0) (pc2 := 42) rfl dX3_stop_39 n_X9_mark l_BoxYard_Crane_36 i_X9_mark e_X9_mark (ci := 9) rfl rfl (by decide) g13 rfl rfl (by decide) (by decide) (by decide) (k_X9_mark c8) ?_
      refine y_aload_n (x := p0) (pc2 := 43) rfl dX3_stop_42 rfl ?_
      refine y_aload_n (x := p1) (pc2 := 44) rfl dX3_stop_43 rfl ?_
      obtain ⟨g12, hf⟩ := y_g hf
      obtain ⟨r9, h10, c11, hf⟩ := y_clE hf
      refine y_callV (As := [y_p p1]) (rm := rm_X3_gantryStop) (cells := 0) (slots := 0) (pc2 := 47) rfl dX3_stop_44 n_X3_gantryStop l_BoxYard_Crane_49 i_X3_gantryStop e_X3_gantryStop (ci := 3) rfl rfl (by decide) g12 rfl rfl (by decide) (by decide) (by decide) (k_X3_gantryStop c11) ?_
      refine y_iconst (v := 5) (pc2 := 48) rfl dX3_stop_47 (by decide) ?_
      refine y_isub (pc2 := 49) rfl dX3_stop_48 ?_
      exact y_iretF hf dX3_stop_49 rfl (by decide) (by decide)
    · replace hf := y_ie c6 hf
      by_cases c14 : (y_I h p0 1) = 2
      · replace hf := y_it c14 hf
        refine y_table (off := 66) (tgt := 70) dX3_stop_4 (by (rw [c14]) <;> decide) (by decide) ?_
        exact y_pk [0, 1] rfl (hj70 _ _ _ hf)
      · replace hf := y_ie c14 hf
        by_cases c15 : (y_I h p0 1) = 3
        · replace hf := y_it c15 hf
          refine y_table (off := 46) (tgt := 50) dX3_stop_4 (by (rw [c15]) <;> decide) (by decide) ?_
          refine y_aload_n (x := p0) (pc2 := 51) rfl dX3_stop_50 rfl ?_
          refine y_aload_n (x := p1) (pc2 := 52) rfl dX3_stop_51 rfl ?_
          obtain ⟨g19, hf⟩ := y_g hf
          obtain ⟨r16, h17, c18, hf⟩ := y_clE hf
          refine y_callV (As := [y_p p1]) (rm := rm_X3_craneStop) (cells := 0) (slots := 0) (pc2 := 55) rfl dX3_stop_52 n_X3_craneStop l_BoxYard_Crane_52 i_X3_craneStop e_X3_craneStop (ci := 3) rfl rfl (by decide) g19 rfl rfl (by decide) (by decide) (by decide) (k_X3_craneStop c18) ?_
          exact y_iretF hf dX3_stop_55 rfl (by decide) (by decide)
        · replace hf := y_ie c15 hf
          by_cases c20 : (y_I h p0 1) = 4
          · replace hf := y_it c20 hf
            refine y_table (off := 52) (tgt := 56) dX3_stop_4 (by (rw [c20]) <;> decide) (by decide) ?_
            refine y_aload_n (x := p1) (pc2 := 57) rfl dX3_stop_56 rfl ?_
            refine y_bipush (v := 55) (pc2 := 59) rfl dX3_stop_57 (by decide) ?_
            obtain ⟨g27, hf⟩ := y_g hf
            obtain ⟨r_, h21, c22, hf⟩ := y_clE hf
            refine y_callV (As := [.int 55]) (rm := rm_X9_mark) (cells := 0) (slots := 0) (pc2 := 62) rfl dX3_stop_59 n_X9_mark l_BoxYard_Crane_36 i_X9_mark e_X9_mark (ci := 9) rfl rfl (by decide) g27 rfl rfl (by decide) (by decide) (by decide) (k_X9_mark c22) ?_
            refine y_aload_n (x := p0) (pc2 := 63) rfl dX3_stop_62 rfl ?_
            refine y_aload_n (x := p1) (pc2 := 64) rfl dX3_stop_63 rfl ?_
            obtain ⟨g26, hf⟩ := y_g hf
            obtain ⟨r23, h24, c25, hf⟩ := y_clE hf
            refine y_callV (As := [y_p p1]) (rm := rm_X3_craneStop) (cells := 0) (slots := 0) (pc2 := 67) rfl dX3_stop_64 n_X3_craneStop l_BoxYard_Crane_52 i_X3_craneStop e_X3_craneStop (ci := 3) rfl rfl (by decide) g26 rfl rfl (by decide) (by decide) (by decide) (k_X3_craneStop c25) ?_
            refine y_iconst (v := 2) (pc2 := 68) rfl dX3_stop_67 (by decide) ?_
            refine y_iadd (pc2 := 69) rfl dX3_stop_68 ?_
            exact y_iretF hf dX3_stop_69 rfl (by decide) (by decide)
          · replace hf := y_ie c20 hf
            refine y_table (off := 66) (tgt := 70) dX3_stop_4 ((if_pos (by have q0 := lv_neT c6 (a := 1) (by decide); have q1 := lv_neT c14 (a := 2) (by decide); have q2 := lv_neT c15 (a := 3) (by decide); have q3 := lv_neT c20 (a := 4) (by decide); omega))) (by decide) ?_
            exact y_pk [0, 1] rfl (hj70 _ _ _ hf)
theorem dX3_gantryReaches_0 : decode cX3_gantryReaches 0 = .ok (.aload_n 1, 1) := by decide +kernel
theorem dX3_gantryReaches_1 : decode cX3_gantryReaches 1 = .ok (.bipush 61, 2) := by decide +kernel
theorem dX3_gantryReaches_3 : decode cX3_gantryReaches 3 = .ok (.invokevirtual 36, 3) := by decide +kernel
theorem dX3_gantryReaches_6 : decode cX3_gantryReaches 6 = .ok (.iconst 1, 1) := by decide +kernel
theorem dX3_gantryReaches_7 : decode cX3_gantryReaches 7 = .ok (.ireturn, 1) := by decide +kernel
def M_X3_gantryReaches : y_M := (yX3_gantryReaches, cX3_gantryReaches, 2, (Option.some Jvm.ClassFile.FieldType.boolean))
theorem n_X3_gantryReaches : y_N0 M_X3_gantryReaches 1 := ⟨(c_4 58 (by decide +kernel) rfl), (c_1 12 (by decide +kernel) rfl), ⟨by decide +kernel, by decide +kernel⟩, by decide +kernel⟩
set_option maxRecDepth 100000 in
def f_X3_gantryReaches (p0 : Nat) (p1 : Nat) (h : y_H) : Option (Bool × y_H) :=
  if y_K h p1 = 10 then
  y_cl (f_X9_mark p1 61 h) (fun _ h1 =>
  some (true, h1))
  else none
abbrev rm_X3_gantryReaches : Room := { frames := 1, cells := 0, slots := 0, locals := 21 }
set_option maxRecDepth 100000 in
set_option maxHeartbeats 4000000 in
theorem k_X3_gantryReaches {l : Launch} {G : y_G} {p0 : Nat} {p1 : Nat} {h hz : y_H} {rz : Bool} (hf : f_X3_gantryReaches p0 p1 h = some (rz, hz)) : y_S l G M_X3_gantryReaches rm_X3_gantryReaches [y_p p0, y_p p1] h (some (.int (y_z rz))) hz := by
  refine y_start (lv := [(0, y_p p0), (1, y_p p1)]) (by decide) (by simp [lg_sl, y_p_cat, y_ci, y_cj, M_X3_gantryReaches]) (by simp [lv_args, y_p_cat, y_ci, y_cj]) (fun z ad0 => ?_)
  unfold f_X3_gantryReaches at hf
  refine y_aload_n (x := p1) (pc2 := 1) rfl dX3_gantryReaches_0 rfl ?_
  refine y_bipush (v := 61) (pc2 := 3) rfl dX3_gantryReaches_1 (by decide) ?_
  obtain ⟨g3, hf⟩ := y_g hf
  obtain ⟨r_, h1, c2, hf⟩ := y_clE hf
  refine y_callV (As := [.int 61]) (rm := rm_X9_mark) (cells := 0) (slots := 0) (pc2 := 6) rfl dX3_gantryReaches_3 n_X9_mark l_BoxYard_Crane_36 i_X9_mark e_X9_mark (ci := 9) rfl rfl (by decide) g3 rfl rfl (by decide) (by decide) (by decide) (k_X9_mark c2) ?_
  refine y_iconst (v := 1) (pc2 := 7) rfl dX3_gantryReaches_6 (by decide) ?_
  exact y_zretF (x := true) hf dX3_gantryReaches_7 rfl (by decide) (by decide)
theorem dX3_straddleReaches_0 : decode cX3_straddleReaches 0 = .ok (.aload_n 2, 1) := by decide +kernel
theorem dX3_straddleReaches_1 : decode cX3_straddleReaches 1 = .ok (.bipush 64, 2) := by decide +kernel
theorem dX3_straddleReaches_3 : decode cX3_straddleReaches 3 = .ok (.invokevirtual 36, 3) := by decide +kernel
theorem dX3_straddleReaches_6 : decode cX3_straddleReaches 6 = .ok (.iload_n 1, 1) := by decide +kernel
theorem dX3_straddleReaches_7 : decode cX3_straddleReaches 7 = .ok (.iconst 2, 1) := by decide +kernel
theorem dX3_straddleReaches_8 : decode cX3_straddleReaches 8 = .ok (.if_icmp .gt 7, 3) := by decide +kernel
theorem dX3_straddleReaches_11 : decode cX3_straddleReaches 11 = .ok (.iconst 1, 1) := by decide +kernel
theorem dX3_straddleReaches_12 : decode cX3_straddleReaches 12 = .ok (.goto 4, 3) := by decide +kernel
theorem dX3_straddleReaches_15 : decode cX3_straddleReaches 15 = .ok (.iconst 0, 1) := by decide +kernel
theorem dX3_straddleReaches_16 : decode cX3_straddleReaches 16 = .ok (.ireturn, 1) := by decide +kernel
def M_X3_straddleReaches : y_M := (yX3_straddleReaches, cX3_straddleReaches, 3, (Option.some Jvm.ClassFile.FieldType.boolean))
theorem n_X3_straddleReaches : y_N0 M_X3_straddleReaches 2 := ⟨(c_4 62 (by decide +kernel) rfl), (c_1 12 (by decide +kernel) rfl), ⟨by decide +kernel, by decide +kernel⟩, by decide +kernel⟩
set_option maxRecDepth 100000 in
def f_X3_straddleReaches (p0 : Nat) (p1 : Int32) (p2 : Nat) (h : y_H) : Option (Bool × y_H) :=
  if y_K h p2 = 10 then
  y_cl (f_X9_mark p2 64 h) (fun _ h1 =>
  if 2 < p1 then
    some (false, h1)
  else
    some (true, h1))
  else none
abbrev rm_X3_straddleReaches : Room := { frames := 1, cells := 0, slots := 0, locals := 21 }
set_option maxRecDepth 100000 in
set_option maxHeartbeats 4000000 in
theorem k_X3_straddleReaches {l : Launch} {G : y_G} {p0 : Nat} {p1 : Int32} {p2 : Nat} {h hz : y_H} {rz : Bool} (hf : f_X3_straddleReaches p0 p1 p2 h = some (rz, hz)) : y_S l G M_X3_straddleReaches rm_X3_straddleReaches [y_p p0, .int p1, y_p p2] h (some (.int (y_z rz))) hz := by
  refine y_start (lv := [(0, y_p p0), (1, .int p1), (2, y_p p2)]) (by decide) (by simp [lg_sl, y_p_cat, y_ci, y_cj, M_X3_straddleReaches]) (by simp [lv_args, y_p_cat, y_ci, y_cj]) (fun z ad0 => ?_)
  unfold f_X3_straddleReaches at hf
  refine y_aload_n (x := p2) (pc2 := 1) rfl dX3_straddleReaches_0 rfl ?_
  refine y_bipush (v := 64) (pc2 := 3) rfl dX3_straddleReaches_1 (by decide) ?_
  obtain ⟨g4, hf⟩ := y_g hf
  obtain ⟨r_, h1, c2, hf⟩ := y_clE hf
  refine y_callV (As := [.int 64]) (rm := rm_X9_mark) (cells := 0) (slots := 0) (pc2 := 6) rfl dX3_straddleReaches_3 n_X9_mark l_BoxYard_Crane_36 i_X9_mark e_X9_mark (ci := 9) rfl rfl (by decide) g4 rfl rfl (by decide) (by decide) (by decide) (k_X9_mark c2) ?_
  refine y_iload_n (pc2 := 7) rfl dX3_straddleReaches_6 rfl ?_
  refine y_iconst (v := 2) (pc2 := 8) rfl dX3_straddleReaches_7 (by decide) ?_
  refine y_icmp_gt (tgt := 15) (pc2 := 11) rfl dX3_straddleReaches_8 (by decide) (fun c3 => ?_) (fun c3 => ?_)
  · replace hf := y_it c3 hf
    refine y_iconst (v := 0) (pc2 := 16) rfl dX3_straddleReaches_15 (by decide) ?_
    exact y_zretF (x := false) hf dX3_straddleReaches_16 rfl (by decide) (by decide)
  · replace hf := y_ie c3 hf
    refine y_iconst (v := 1) (pc2 := 12) rfl dX3_straddleReaches_11 (by decide) ?_
    refine y_goto (tgt := 16) dX3_straddleReaches_12 (by decide) ?_
    exact y_zretF (x := true) hf dX3_straddleReaches_16 rfl (by decide) (by decide)
theorem dX3_reaches_0 : decode cX3_reaches 0 = .ok (.aload_n 0, 1) := by decide +kernel
theorem dX3_reaches_1 : decode cX3_reaches 1 = .ok (.getfield 13, 3) := by decide +kernel
theorem dX3_reaches_4 : decode cX3_reaches 4 = .ok (.tableswitch 114 1 4 #[32, 57, 82, 89], 32) := by decide +kernel
theorem dX3_reaches_36 : decode cX3_reaches 36 = .ok (.aload_n 3, 1) := by decide +kernel
theorem dX3_reaches_37 : decode cX3_reaches 37 = .ok (.bipush 62, 2) := by decide +kernel
theorem dX3_reaches_39 : decode cX3_reaches 39 = .ok (.invokevirtual 36, 3) := by decide +kernel
theorem dX3_reaches_42 : decode cX3_reaches 42 = .ok (.iload_n 1, 1) := by decide +kernel
theorem dX3_reaches_43 : decode cX3_reaches 43 = .ok (.iconst 1, 1) := by decide +kernel
theorem dX3_reaches_44 : decode cX3_reaches 44 = .ok (.if_icmp .gt 15, 3) := by decide +kernel
theorem dX3_reaches_47 : decode cX3_reaches 47 = .ok (.aload_n 0, 1) := by decide +kernel
theorem dX3_reaches_48 : decode cX3_reaches 48 = .ok (.aload_n 3, 1) := by decide +kernel
theorem dX3_reaches_49 : decode cX3_reaches 49 = .ok (.invokevirtual 55, 3) := by decide +kernel
theorem dX3_reaches_52 : decode cX3_reaches 52 = .ok (.ifCond .eq 7, 3) := by decide +kernel
theorem dX3_reaches_55 : decode cX3_reaches 55 = .ok (.iconst 1, 1) := by decide +kernel
theorem dX3_reaches_56 : decode cX3_reaches 56 = .ok (.goto 4, 3) := by decide +kernel
theorem dX3_reaches_59 : decode cX3_reaches 59 = .ok (.iconst 0, 1) := by decide +kernel
theorem dX3_reaches_60 : decode cX3_reaches 60 = .ok (.ireturn, 1) := by decide +kernel
theorem dX3_reaches_61 : decode cX3_reaches 61 = .ok (.aload_n 3, 1) := by decide +kernel
theorem dX3_reaches_62 : decode cX3_reaches 62 = .ok (.bipush 63, 2) := by decide +kernel
theorem dX3_reaches_64 : decode cX3_reaches 64 = .ok (.invokevirtual 36, 3) := by decide +kernel
theorem dX3_reaches_67 : decode cX3_reaches 67 = .ok (.iload_n 2, 1) := by decide +kernel
theorem dX3_reaches_68 : decode cX3_reaches 68 = .ok (.iconst 3, 1) := by decide +kernel
theorem dX3_reaches_69 : decode cX3_reaches 69 = .ok (.if_icmp .gt 15, 3) := by decide +kernel
theorem dX3_reaches_72 : decode cX3_reaches 72 = .ok (.aload_n 0, 1) := by decide +kernel
theorem dX3_reaches_73 : decode cX3_reaches 73 = .ok (.aload_n 3, 1) := by decide +kernel
theorem dX3_reaches_74 : decode cX3_reaches 74 = .ok (.invokevirtual 55, 3) := by decide +kernel
theorem dX3_reaches_77 : decode cX3_reaches 77 = .ok (.ifCond .eq 7, 3) := by decide +kernel
theorem dX3_reaches_80 : decode cX3_reaches 80 = .ok (.iconst 1, 1) := by decide +kernel
theorem dX3_reaches_81 : decode cX3_reaches 81 = .ok (.goto 4, 3) := by decide +kernel
theorem dX3_reaches_84 : decode cX3_reaches 84 = .ok (.iconst 0, 1) := by decide +kernel
theorem dX3_reaches_85 : decode cX3_reaches 85 = .ok (.ireturn, 1) := by decide +kernel
theorem dX3_reaches_86 : decode cX3_reaches 86 = .ok (.aload_n 0, 1) := by decide +kernel
theorem dX3_reaches_87 : decode cX3_reaches 87 = .ok (.iload_n 2, 1) := by decide +kernel
theorem dX3_reaches_88 : decode cX3_reaches 88 = .ok (.aload_n 3, 1) := by decide +kernel
theorem dX3_reaches_89 : decode cX3_reaches 89 = .ok (.invokevirtual 59, 3) := by decide +kernel
theorem dX3_reaches_92 : decode cX3_reaches 92 = .ok (.ireturn, 1) := by decide +kernel
theorem dX3_reaches_93 : decode cX3_reaches 93 = .ok (.aload_n 3, 1) := by decide +kernel
theorem dX3_reaches_94 : decode cX3_reaches 94 = .ok (.bipush 65, 2) := by decide +kernel
theorem dX3_reaches_96 : decode cX3_reaches 96 = .ok (.invokevirtual 36, 3) := by decide +kernel
theorem dX3_reaches_99 : decode cX3_reaches 99 = .ok (.iload_n 1, 1) := by decide +kernel
theorem dX3_reaches_100 : decode cX3_reaches 100 = .ok (.ifCond .eq 12, 3) := by decide +kernel
theorem dX3_reaches_103 : decode cX3_reaches 103 = .ok (.aload_n 0, 1) := by decide +kernel
theorem dX3_reaches_104 : decode cX3_reaches 104 = .ok (.iload_n 2, 1) := by decide +kernel
theorem dX3_reaches_105 : decode cX3_reaches 105 = .ok (.aload_n 3, 1) := by decide +kernel
theorem dX3_reaches_106 : decode cX3_reaches 106 = .ok (.invokevirtual 59, 3) := by decide +kernel
theorem dX3_reaches_109 : decode cX3_reaches 109 = .ok (.ifCond .eq 7, 3) := by decide +kernel
theorem dX3_reaches_112 : decode cX3_reaches 112 = .ok (.iconst 1, 1) := by decide +kernel
theorem dX3_reaches_113 : decode cX3_reaches 113 = .ok (.goto 4, 3) := by decide +kernel
theorem dX3_reaches_116 : decode cX3_reaches 116 = .ok (.iconst 0, 1) := by decide +kernel
theorem dX3_reaches_117 : decode cX3_reaches 117 = .ok (.ireturn, 1) := by decide +kernel
theorem dX3_reaches_118 : decode cX3_reaches 118 = .ok (.aload_n 0, 1) := by decide +kernel
theorem dX3_reaches_119 : decode cX3_reaches 119 = .ok (.aload_n 3, 1) := by decide +kernel
theorem dX3_reaches_120 : decode cX3_reaches 120 = .ok (.invokevirtual 55, 3) := by decide +kernel
theorem dX3_reaches_123 : decode cX3_reaches 123 = .ok (.ireturn, 1) := by decide +kernel
def M_X3_reaches : y_M := (yX3_reaches, cX3_reaches, 4, (Option.some Jvm.ClassFile.FieldType.boolean))
theorem n_X3_reaches : y_N0 M_X3_reaches 3 := ⟨(c_4 54 (by decide +kernel) rfl), (c_1 12 (by decide +kernel) rfl), ⟨by decide +kernel, by decide +kernel⟩, by decide +kernel⟩
theorem l_BoxYard_Crane_55 : y_lnk "BoxYard$Crane" 55 M_X3_gantryReaches := Or.inl (c_4 55 (by decide +kernel) rfl)
theorem i_X3_gantryReaches : Cond.instanceMethod (M_X3_gantryReaches).1 ∈ y_tb := (c_4 57 (by decide +kernel) rfl)
theorem e_X3_gantryReaches : Cond.selects (M_X3_gantryReaches).1.cls (M_X3_gantryReaches).1 (M_X3_gantryReaches).1 ∈ y_tb := (m_s 13 (by decide +kernel) rfl)
theorem l_BoxYard_Crane_59 : y_lnk "BoxYard$Crane" 59 M_X3_straddleReaches := Or.inl (c_4 59 (by decide +kernel) rfl)
theorem i_X3_straddleReaches : Cond.instanceMethod (M_X3_straddleReaches).1 ∈ y_tb := (c_4 61 (by decide +kernel) rfl)
theorem e_X3_straddleReaches : Cond.selects (M_X3_straddleReaches).1.cls (M_X3_straddleReaches).1 (M_X3_straddleReaches).1 ∈ y_tb := (m_s 14 (by decide +kernel) rfl)
set_option maxRecDepth 100000 in
def f_X3_reaches (p0 : Nat) (p1 : Int32) (p2 : Int32) (p3 : Nat) (h : y_H) : Option (Bool × y_H) :=
  if y_K h p0 = 4 then
  if (y_I h p0 1) = 1 then
    if y_K h p3 = 10 then
    y_cl (f_X9_mark p3 62 h) (fun _ h2 =>
    y_jn (fun (h4 : y_H) => (
        some (false, h4) : Option (Bool × y_H))) (fun j59 =>
    if 1 < p1 then
      j59 h2
    else
      if y_K h2 p0 = 4 then
      y_cl (f_X3_gantryReaches p0 p3 h2) (fun r5 h6 =>
      if r5 = true then
        some (true, h6)
      else
        j59 h6)
      else none))
    else none
  else
  if (y_I h p0 1) = 2 then
    if y_K h p3 = 10 then
    y_cl (f_X9_mark p3 63 h) (fun _ h13 =>
    y_jn (fun (h15 : y_H) => (
        some (false, h15) : Option (Bool × y_H))) (fun j84 =>
    if 3 < p2 then
      j84 h13
    else
      if y_K h13 p0 = 4 then
      y_cl (f_X3_gantryReaches p0 p3 h13) (fun r16 h17 =>
      if r16 = true then
        some (true, h17)
      else
        j84 h17)
      else none))
    else none
  else
  if (y_I h p0 1) = 3 then
    if y_K h p0 = 4 then
    y_cl (f_X3_straddleReaches p0 p2 p3 h) (fun r24 h25 =>
    some (r24, h25))
    else none
  else
  if (y_I h p0 1) = 4 then
    if y_K h p3 = 10 then
    y_cl (f_X9_mark p3 65 h) (fun _ h29 =>
    y_jn (fun (h31 : y_H) => (
        some (true, h31) : Option (Bool × y_H))) (fun j112 =>
    if p1 = 0 then
      j112 h29
    else
      if y_K h29 p0 = 4 then
      y_cl (f_X3_straddleReaches p0 p2 p3 h29) (fun r32 h33 =>
      if r32 = true then
        j112 h33
      else
        some (false, h33))
      else none))
    else none
  else
  if y_K h p0 = 4 then
  y_cl (f_X3_gantryReaches p0 p3 h) (fun r39 h40 =>
  some (r39, h40))
  else none
  else none
abbrev rm_X3_reaches : Room := { frames := 2, cells := 0, slots := 0, locals := 43 }
set_option maxRecDepth 100000 in
set_option maxHeartbeats 4000000 in
theorem k_X3_reaches {l : Launch} {G : y_G} {p0 : Nat} {p1 : Int32} {p2 : Int32} {p3 : Nat} {h hz : y_H} {rz : Bool} (hf : f_X3_reaches p0 p1 p2 p3 h = some (rz, hz)) : y_S l G M_X3_reaches rm_X3_reaches [y_p p0, .int p1, .int p2, y_p p3] h (some (.int (y_z rz))) hz := by
  refine y_start (lv := [(0, y_p p0), (1, .int p1), (2, .int p2), (3, y_p p3)]) (by decide) (by simp [lg_sl, y_p_cat, y_ci, y_cj, M_X3_reaches]) (by simp [lv_args, y_p_cat, y_ci, y_cj]) (fun z ad0 => ?_)
  unfold f_X3_reaches at hf
  refine y_aload_n (x := p0) (pc2 := 1) rfl dX3_reaches_0 rfl ?_
  obtain ⟨g43, hf⟩ := y_g hf
  refine y_getI (pc2 := 4) rfl dX3_reaches_1 F_BoxYard_Crane_13 (by decide) rfl g43 ?_
  by_cases c1 : (y_I h p0 1) = 1
  · replace hf := y_it c1 hf
    refine y_table (off := 32) (tgt := 36) dX3_reaches_4 (by (rw [c1]) <;> decide) (by decide) ?_
    refine y_aload_n (x := p3) (pc2 := 37) rfl dX3_reaches_36 rfl ?_
    refine y_bipush (v := 62) (pc2 := 39) rfl dX3_reaches_37 (by decide) ?_
    obtain ⟨g11, hf⟩ := y_g hf
    obtain ⟨r_, h2, c3, hf⟩ := y_clE hf
    refine y_callV (As := [.int 62]) (rm := rm_X9_mark) (cells := 0) (slots := 0) (pc2 := 42) rfl dX3_reaches_39 n_X9_mark l_BoxYard_Crane_36 i_X9_mark e_X9_mark (ci := 9) rfl rfl (by decide) g11 rfl rfl (by decide) (by decide) (by decide) (k_X9_mark c3) ?_
    refine y_iload_n (pc2 := 43) rfl dX3_reaches_42 rfl ?_
    refine y_iconst (v := 1) (pc2 := 44) rfl dX3_reaches_43 (by decide) ?_
    refine y_jnE hf (fun j => ∀ (h4 : y_H), j h4 = some (rz, hz) → y_V l G z rm_X3_reaches M_X3_reaches ad0 h (some (.int (y_z rz))) hz 59 [] [] h4 0 0) (fun h4 hf => ?_) (fun j59 hj59 hf => ?_)
    · refine y_iconst (v := 0) (pc2 := 60) rfl dX3_reaches_59 (by decide) ?_
      exact y_zretF (x := false) hf dX3_reaches_60 rfl (by decide) (by decide)
    · refine y_icmp_gt (tgt := 59) (pc2 := 47) rfl dX3_reaches_44 (by decide) (fun c10 => ?_) (fun c10 => ?_)
      · replace hf := y_it c10 hf
        exact y_pk [] rfl (hj59 _ hf)
      · replace hf := y_ie c10 hf
        refine y_aload_n (x := p0) (pc2 := 48) rfl dX3_reaches_47 rfl ?_
        refine y_aload_n (x := p3) (pc2 := 49) rfl dX3_reaches_48 rfl ?_
        obtain ⟨g9, hf⟩ := y_g hf
        obtain ⟨r5, h6, c7, hf⟩ := y_clE hf
        refine y_callV (As := [y_p p3]) (rm := rm_X3_gantryReaches) (cells := 0) (slots := 0) (pc2 := 52) rfl dX3_reaches_49 n_X3_gantryReaches l_BoxYard_Crane_55 i_X3_gantryReaches e_X3_gantryReaches (ci := 3) rfl rfl (by decide) g9 rfl rfl (by decide) (by decide) (by decide) (k_X3_gantryReaches c7) ?_
        refine y_ifz_eq (tgt := 59) (pc2 := 55) rfl dX3_reaches_52 (by decide) (fun c8 => ?_) (fun c8 => ?_)
        · replace hf := y_ie c8 hf
          exact y_pk [] rfl (hj59 _ hf)
        · replace hf := y_it c8 hf
          refine y_iconst (v := 1) (pc2 := 56) rfl dX3_reaches_55 (by decide) ?_
          refine y_goto (tgt := 60) dX3_reaches_56 (by decide) ?_
          exact y_zretF (x := true) hf dX3_reaches_60 rfl (by decide) (by decide)
  · replace hf := y_ie c1 hf
    by_cases c12 : (y_I h p0 1) = 2
    · replace hf := y_it c12 hf
      refine y_table (off := 57) (tgt := 61) dX3_reaches_4 (by (rw [c12]) <;> decide) (by decide) ?_
      refine y_aload_n (x := p3) (pc2 := 62) rfl dX3_reaches_61 rfl ?_
      refine y_bipush (v := 63) (pc2 := 64) rfl dX3_reaches_62 (by decide) ?_
      obtain ⟨g22, hf⟩ := y_g hf
      obtain ⟨r_, h13, c14, hf⟩ := y_clE hf
      refine y_callV (As := [.int 63]) (rm := rm_X9_mark) (cells := 0) (slots := 0) (pc2 := 67) rfl dX3_reaches_64 n_X9_mark l_BoxYard_Crane_36 i_X9_mark e_X9_mark (ci := 9) rfl rfl (by decide) g22 rfl rfl (by decide) (by decide) (by decide) (k_X9_mark c14) ?_
      refine y_iload_n (pc2 := 68) rfl dX3_reaches_67 rfl ?_
      refine y_iconst (v := 3) (pc2 := 69) rfl dX3_reaches_68 (by decide) ?_
      refine y_jnE hf (fun j => ∀ (h15 : y_H), j h15 = some (rz, hz) → y_V l G z rm_X3_reaches M_X3_reaches ad0 h (some (.int (y_z rz))) hz 84 [] [] h15 0 0) (fun h15 hf => ?_) (fun j84 hj84 hf => ?_)
      · refine y_iconst (v := 0) (pc2 := 85) rfl dX3_reaches_84 (by decide) ?_
        exact y_zretF (x := false) hf dX3_reaches_85 rfl (by decide) (by decide)
      · refine y_icmp_gt (tgt := 84) (pc2 := 72) rfl dX3_reaches_69 (by decide) (fun c21 => ?_) (fun c21 => ?_)
        · replace hf := y_it c21 hf
          exact y_pk [] rfl (hj84 _ hf)
        · replace hf := y_ie c21 hf
          refine y_aload_n (x := p0) (pc2 := 73) rfl dX3_reaches_72 rfl ?_
          refine y_aload_n (x := p3) (pc2 := 74) rfl dX3_reaches_73 rfl ?_
          obtain ⟨g20, hf⟩ := y_g hf
          obtain ⟨r16, h17, c18, hf⟩ := y_clE hf
          refine y_callV (As := [y_p p3]) (rm := rm_X3_gantryReaches) (cells := 0) (slots := 0) (pc2 := 77) rfl dX3_reaches_74 n_X3_gantryReaches l_BoxYard_Crane_55 i_X3_gantryReaches e_X3_gantryReaches (ci := 3) rfl rfl (by decide) g20 rfl rfl (by decide) (by decide) (by decide) (k_X3_gantryReaches c18) ?_
          refine y_ifz_eq (tgt := 84) (pc2 := 80) rfl dX3_reaches_77 (by decide) (fun c19 => ?_) (fun c19 => ?_)
          · replace hf := y_ie c19 hf
            exact y_pk [] rfl (hj84 _ hf)
          · replace hf := y_it c19 hf
            refine y_iconst (v := 1) (pc2 := 81) rfl dX3_reaches_80 (by decide) ?_
            refine y_goto (tgt := 85) dX3_reaches_81 (by decide) ?_
            exact y_zretF (x := true) hf dX3_reaches_85 rfl (by decide) (by decide)
    · replace hf := y_ie c12 hf
      by_cases c23 : (y_I h p0 1) = 3
      · replace hf := y_it c23 hf
        refine y_table (off := 82) (tgt := 86) dX3_reaches_4 (by (rw [c23]) <;> decide) (by decide) ?_
        refine y_aload_n (x := p0) (pc2 := 87) rfl dX3_reaches_86 rfl ?_
        refine y_iload_n (pc2 := 88) rfl dX3_reaches_87 rfl ?_
        refine y_aload_n (x := p3) (pc2 := 89) rfl dX3_reaches_88 rfl ?_
        obtain ⟨g27, hf⟩ := y_g hf
        obtain ⟨r24, h25, c26, hf⟩ := y_clE hf
        refine y_callV (As := [.int p2, y_p p3]) (rm := rm_X3_straddleReaches) (cells := 0) (slots := 0) (pc2 := 92) rfl dX3_reaches_89 n_X3_straddleReaches l_BoxYard_Crane_59 i_X3_straddleReaches e_X3_straddleReaches (ci := 3) rfl rfl (by decide) g27 rfl rfl (by decide) (by decide) (by decide) (k_X3_straddleReaches c26) ?_
        exact y_zretF hf dX3_reaches_92 rfl (by decide) (by decide)
      · replace hf := y_ie c23 hf
        by_cases c28 : (y_I h p0 1) = 4
        · replace hf := y_it c28 hf
          refine y_table (off := 89) (tgt := 93) dX3_reaches_4 (by (rw [c28]) <;> decide) (by decide) ?_
          refine y_aload_n (x := p3) (pc2 := 94) rfl dX3_reaches_93 rfl ?_
          refine y_bipush (v := 65) (pc2 := 96) rfl dX3_reaches_94 (by decide) ?_
          obtain ⟨g38, hf⟩ := y_g hf
          obtain ⟨r_, h29, c30, hf⟩ := y_clE hf
          refine y_callV (As := [.int 65]) (rm := rm_X9_mark) (cells := 0) (slots := 0) (pc2 := 99) rfl dX3_reaches_96 n_X9_mark l_BoxYard_Crane_36 i_X9_mark e_X9_mark (ci := 9) rfl rfl (by decide) g38 rfl rfl (by decide) (by decide) (by decide) (k_X9_mark c30) ?_
          refine y_iload_n (pc2 := 100) rfl dX3_reaches_99 rfl ?_
          refine y_jnE hf (fun j => ∀ (h31 : y_H), j h31 = some (rz, hz) → y_V l G z rm_X3_reaches M_X3_reaches ad0 h (some (.int (y_z rz))) hz 112 [] [] h31 0 0) (fun h31 hf => ?_) (fun j112 hj112 hf => ?_)
          · refine y_iconst (v := 1) (pc2 := 113) rfl dX3_reaches_112 (by decide) ?_
            refine y_goto (tgt := 117) dX3_reaches_113 (by decide) ?_
            exact y_zretF (x := true) hf dX3_reaches_117 rfl (by decide) (by decide)
          · refine y_if_eq (tgt := 112) (pc2 := 103) rfl dX3_reaches_100 (by decide) (fun c37 => ?_) (fun c37 => ?_)
            · replace hf := y_it c37 hf
              exact y_pk [] rfl (hj112 _ hf)
            · replace hf := y_ie c37 hf
              refine y_aload_n (x := p0) (pc2 := 104) rfl dX3_reaches_103 rfl ?_
              refine y_iload_n (pc2 := 105) rfl dX3_reaches_104 rfl ?_
              refine y_aload_n (x := p3) (pc2 := 106) rfl dX3_reaches_105 rfl ?_
              obtain ⟨g36, hf⟩ := y_g hf
              obtain ⟨r32, h33, c34, hf⟩ := y_clE hf
              refine y_callV (As := [.int p2, y_p p3]) (rm := rm_X3_straddleReaches) (cells := 0) (slots := 0) (pc2 := 109) rfl dX3_reaches_106 n_X3_straddleReaches l_BoxYard_Crane_59 i_X3_straddleReaches e_X3_straddleReaches (ci := 3) rfl rfl (by decide) g36 rfl rfl (by decide) (by decide) (by decide) (k_X3_straddleReaches c34) ?_
              refine y_ifz_eq (tgt := 116) (pc2 := 112) rfl dX3_reaches_109 (by decide) (fun c35 => ?_) (fun c35 => ?_)
              · replace hf := y_ie c35 hf
                refine y_iconst (v := 0) (pc2 := 117) rfl dX3_reaches_116 (by decide) ?_
                exact y_zretF (x := false) hf dX3_reaches_117 rfl (by decide) (by decide)
              · replace hf := y_it c35 hf
                exact y_pk [] rfl (hj112 _ hf)
        · replace hf := y_ie c28 hf
          refine y_table (off := 114) (tgt := 118) dX3_reaches_4 ((if_pos (by have q0 := lv_neT c1 (a := 1) (by decide); have q1 := lv_neT c12 (a := 2) (by decide); have q2 := lv_neT c23 (a := 3) (by decide); have q3 := lv_neT c28 (a := 4) (by decide); omega))) (by decide) ?_
          refine y_aload_n (x := p0) (pc2 := 119) rfl dX3_reaches_118 rfl ?_
          refine y_aload_n (x := p3) (pc2 := 120) rfl dX3_reaches_119 rfl ?_
          obtain ⟨g42, hf⟩ := y_g hf
          obtain ⟨r39, h40, c41, hf⟩ := y_clE hf
          refine y_callV (As := [y_p p3]) (rm := rm_X3_gantryReaches) (cells := 0) (slots := 0) (pc2 := 123) rfl dX3_reaches_120 n_X3_gantryReaches l_BoxYard_Crane_55 i_X3_gantryReaches e_X3_gantryReaches (ci := 3) rfl rfl (by decide) g42 rfl rfl (by decide) (by decide) (by decide) (k_X3_gantryReaches c41) ?_
          exact y_zretF hf dX3_reaches_123 rfl (by decide) (by decide)
theorem dX4_begin_0 : decode cX4_begin 0 = .ok (.aload_n 0, 1) := by decide +kernel
theorem dX4_begin_1 : decode cX4_begin 1 = .ok (.iconst 0, 1) := by decide +kernel
theorem dX4_begin_2 : decode cX4_begin 2 = .ok (.putfield 32, 3) := by decide +kernel
theorem dX4_begin_5 : decode cX4_begin 5 = .ok (.aload_n 0, 1) := by decide +kernel
theorem dX4_begin_6 : decode cX4_begin 6 = .ok (.iconst 0, 1) := by decide +kernel
theorem dX4_begin_7 : decode cX4_begin 7 = .ok (.putfield 36, 3) := by decide +kernel
theorem dX4_begin_10 : decode cX4_begin 10 = .ok (.aload_n 0, 1) := by decide +kernel
theorem dX4_begin_11 : decode cX4_begin 11 = .ok (.iconst 0, 1) := by decide +kernel
theorem dX4_begin_12 : decode cX4_begin 12 = .ok (.putfield 39, 3) := by decide +kernel
theorem dX4_begin_15 : decode cX4_begin 15 = .ok (.aload_n 0, 1) := by decide +kernel
theorem dX4_begin_16 : decode cX4_begin 16 = .ok (.aconst_null, 1) := by decide +kernel
theorem dX4_begin_17 : decode cX4_begin 17 = .ok (.putfield 42, 3) := by decide +kernel
theorem dX4_begin_20 : decode cX4_begin 20 = .ok (.return_, 1) := by decide +kernel
def M_X4_begin : y_M := (yX4_begin, cX4_begin, 1, (Option.none : Option Jvm.ClassFile.FieldType))
theorem n_X4_begin : y_N0 M_X4_begin 0 := ⟨(c_7 105 (by decide +kernel) rfl), (c_1 7 (by decide +kernel) rfl), ⟨by decide +kernel, by decide +kernel⟩, by decide +kernel⟩
theorem Fp_BoxYard_Digging_32 {nm : String} : y_Fp "BoxYard$Digging" nm 32 4 1 := ⟨_, _, _, rfl, by decide, Or.inl ⟨rfl, Or.inl (c_1 215 (by decide +kernel) rfl)⟩⟩
theorem Fp_BoxYard_Digging_36 {nm : String} : y_Fp "BoxYard$Digging" nm 36 4 4 := ⟨_, _, _, rfl, by decide, Or.inl ⟨rfl, Or.inl (c_1 222 (by decide +kernel) rfl)⟩⟩
theorem Fp_BoxYard_Digging_39 {nm : String} : y_Fp "BoxYard$Digging" nm 39 4 5 := ⟨_, _, _, rfl, by decide, Or.inl ⟨rfl, Or.inl (c_1 224 (by decide +kernel) rfl)⟩⟩
theorem Fp_BoxYard_Digging_42 {nm : String} : y_Fp "BoxYard$Digging" nm 42 4 6 := ⟨_, _, _, rfl, by decide, Or.inl ⟨rfl, Or.inl (c_1 225 (by decide +kernel) rfl)⟩⟩
set_option maxRecDepth 100000 in
def f_X4_begin (p0 : Nat) (h : y_H) : Option (Unit × y_H) :=
  if y_K h p0 = 5 then
  y_bd (s_I h p0 1 0) (fun h1 =>
  if y_K h1 p0 = 5 then
  y_bd (s_I h1 p0 4 0) (fun h4 =>
  if y_K h4 p0 = 5 then
  y_bd (s_I h4 p0 5 0) (fun h7 =>
  if y_K h7 p0 = 5 then
  y_bd (s_P h7 p0 6 0) (fun h10 =>
  some ((), h10))
  else none)
  else none)
  else none)
  else none
abbrev rm_X4_begin : Room := { frames := 0, cells := 0, slots := 0, locals := 0 }
set_option maxRecDepth 100000 in
set_option maxHeartbeats 4000000 in
theorem k_X4_begin {l : Launch} {G : y_G} {p0 : Nat} {h hz : y_H} {rz : Unit} (hf : f_X4_begin p0 h = some (rz, hz)) : y_S l G M_X4_begin rm_X4_begin [y_p p0] h none hz := by
  refine y_start (lv := [(0, y_p p0)]) (by decide) (by simp [lg_sl, y_p_cat, y_ci, y_cj, M_X4_begin]) (by simp [lv_args, y_p_cat, y_ci, y_cj]) (fun z ad0 => ?_)
  unfold f_X4_begin at hf
  refine y_aload_n (x := p0) (pc2 := 1) rfl dX4_begin_0 rfl ?_
  refine y_iconst (v := 0) (pc2 := 2) rfl dX4_begin_1 (by decide) ?_
  obtain ⟨g3, hf⟩ := y_g hf
  obtain ⟨h1, e2, hf⟩ := y_bdE hf
  refine y_putI (x := 0) (pc2 := 5) rfl dX4_begin_2 Fp_BoxYard_Digging_32 (by decide) rfl g3 e2 ?_
  refine y_aload_n (x := p0) (pc2 := 6) rfl dX4_begin_5 rfl ?_
  refine y_iconst (v := 0) (pc2 := 7) rfl dX4_begin_6 (by decide) ?_
  obtain ⟨g6, hf⟩ := y_g hf
  obtain ⟨h4, e5, hf⟩ := y_bdE hf
  refine y_putI (x := 0) (pc2 := 10) rfl dX4_begin_7 Fp_BoxYard_Digging_36 (by decide) rfl g6 e5 ?_
  refine y_aload_n (x := p0) (pc2 := 11) rfl dX4_begin_10 rfl ?_
  refine y_iconst (v := 0) (pc2 := 12) rfl dX4_begin_11 (by decide) ?_
  obtain ⟨g9, hf⟩ := y_g hf
  obtain ⟨h7, e8, hf⟩ := y_bdE hf
  refine y_putI (x := 0) (pc2 := 15) rfl dX4_begin_12 Fp_BoxYard_Digging_39 (by decide) rfl g9 e8 ?_
  refine y_aload_n (x := p0) (pc2 := 16) rfl dX4_begin_15 rfl ?_
  refine y_null (pc2 := 17) rfl dX4_begin_16 ?_
  obtain ⟨g12, hf⟩ := y_g hf
  obtain ⟨h10, e11, hf⟩ := y_bdE hf
  refine y_putP (x := 0) (pc2 := 20) rfl dX4_begin_17 Fp_BoxYard_Digging_42 (by decide) rfl g12 e11 ?_
  exact y_vretF hf dX4_begin_20 rfl (by decide) (by decide)
theorem dX4_rankOf_0 : decode cX4_rankOf 0 = .ok (.iconst 0, 1) := by decide +kernel
theorem dX4_rankOf_1 : decode cX4_rankOf 1 = .ok (.istore_n 2, 1) := by decide +kernel
theorem dX4_rankOf_2 : decode cX4_rankOf 2 = .ok (.iload_n 2, 1) := by decide +kernel
theorem dX4_rankOf_3 : decode cX4_rankOf 3 = .ok (.aload_n 0, 1) := by decide +kernel
theorem dX4_rankOf_4 : decode cX4_rankOf 4 = .ok (.getfield 32, 3) := by decide +kernel
theorem dX4_rankOf_7 : decode cX4_rankOf 7 = .ok (.if_icmp .ge 21, 3) := by decide +kernel
theorem dX4_rankOf_10 : decode cX4_rankOf 10 = .ok (.aload_n 0, 1) := by decide +kernel
theorem dX4_rankOf_11 : decode cX4_rankOf 11 = .ok (.getfield 13, 3) := by decide +kernel
theorem dX4_rankOf_14 : decode cX4_rankOf 14 = .ok (.iload_n 2, 1) := by decide +kernel
theorem dX4_rankOf_15 : decode cX4_rankOf 15 = .ok (.aaload, 1) := by decide +kernel
theorem dX4_rankOf_16 : decode cX4_rankOf 16 = .ok (.aload_n 1, 1) := by decide +kernel
theorem dX4_rankOf_17 : decode cX4_rankOf 17 = .ok (.if_acmp .ne 5, 3) := by decide +kernel
theorem dX4_rankOf_20 : decode cX4_rankOf 20 = .ok (.iload_n 2, 1) := by decide +kernel
theorem dX4_rankOf_21 : decode cX4_rankOf 21 = .ok (.ireturn, 1) := by decide +kernel
theorem dX4_rankOf_22 : decode cX4_rankOf 22 = .ok (.iinc 2 1, 3) := by decide +kernel
theorem dX4_rankOf_25 : decode cX4_rankOf 25 = .ok (.goto (-23), 3) := by decide +kernel
theorem dX4_rankOf_28 : decode cX4_rankOf 28 = .ok (.bipush (-9), 2) := by decide +kernel
theorem dX4_rankOf_30 : decode cX4_rankOf 30 = .ok (.ireturn, 1) := by decide +kernel
def M_X4_rankOf : y_M := (yX4_rankOf, cX4_rankOf, 3, (Option.some Jvm.ClassFile.FieldType.int))
theorem n_X4_rankOf : y_N0 M_X4_rankOf 1 := ⟨(c_5 172 (by decide +kernel) rfl), (c_1 7 (by decide +kernel) rfl), ⟨by decide +kernel, by decide +kernel⟩, by decide +kernel⟩
theorem F_BoxYard_Digging_32 : y_F "BoxYard$Digging" 32 4 1 := ⟨_, _, _, rfl, by decide, Or.inl (c_1 215 (by decide +kernel) rfl)⟩
theorem F_BoxYard_Digging_13 : y_F "BoxYard$Digging" 13 4 0 := ⟨_, _, _, rfl, by decide, Or.inl (c_1 214 (by decide +kernel) rfl)⟩
set_option maxRecDepth 100000 in
def f_X4_rankOf (p0 : Nat) (p1 : Nat) (h : y_H) : Option (Int32 × y_H) :=
  y_jl (fun (_ : Nat) (_ : Nat) (_ : Int32) (_ : y_H) => (none : Option (Int32 × y_H))) (fun j2 (v0_2 : Nat) (v1_2 : Nat) (v2_2 : Int32) (h1 : y_H) =>
      if y_K h1 v0_2 = 5 then
      if (y_I h1 v0_2 1) ≤ v2_2 then
        some ((-9 : Int32), h1)
      else
        if y_K h1 v0_2 = 5 then
        if y_K h1 (y_P h1 v0_2 0) = 103 ∧ y_ix v2_2 (y_N h1 (y_P h1 v0_2 0)) = true then
        if (y_P h1 (y_P h1 v0_2 0) (Int32.toNatClampNeg v2_2)) = v1_2 then
          some (v2_2, h1)
        else
          j2 v0_2 v1_2 (v2_2 + 1) h1
        else none
        else none
      else none) (fun j2 =>
  j2 p0 p1 0 h)
abbrev rm_X4_rankOf : Room := { frames := 0, cells := 0, slots := 0, locals := 0 }
set_option maxRecDepth 100000 in
set_option maxHeartbeats 4000000 in
theorem k_X4_rankOf {l : Launch} {G : y_G} {p0 : Nat} {p1 : Nat} {h hz : y_H} {rz : Int32} (hf : f_X4_rankOf p0 p1 h = some (rz, hz)) : y_S l G M_X4_rankOf rm_X4_rankOf [y_p p0, y_p p1] h (some (.int rz)) hz := by
  refine y_start (lv := [(0, y_p p0), (1, y_p p1)]) (by decide) (by simp [lg_sl, y_p_cat, y_ci, y_cj, M_X4_rankOf]) (by simp [lv_args, y_p_cat, y_ci, y_cj]) (fun z ad0 => ?_)
  unfold f_X4_rankOf at hf
  refine y_iconst (v := 0) (pc2 := 1) rfl dX4_rankOf_0 (by decide) ?_
  refine y_jlE hf (fun j => ∀ (v0_2 : Nat) (v1_2 : Nat) (v2_2 : Int32) (h1 : y_H), j v0_2 v1_2 v2_2 h1 = some (rz, hz) → y_V l G z rm_X4_rankOf M_X4_rankOf ad0 h (some (.int rz)) hz 2 [(0, y_p v0_2), (1, y_p v1_2), (2, .int v2_2)] [] h1 0 0) (fun _ _ _ _ hf => by cases hf) (fun j2 hj2 v0_2 v1_2 v2_2 h1 hf => ?_) (fun j2 hj2 hf => ?_)
  · refine y_iload_n (pc2 := 3) rfl dX4_rankOf_2 rfl ?_
    refine y_aload_n (x := v0_2) (pc2 := 4) rfl dX4_rankOf_3 rfl ?_
    obtain ⟨g6, hf⟩ := y_g hf
    refine y_getI (pc2 := 7) rfl dX4_rankOf_4 F_BoxYard_Digging_32 (by decide) rfl g6 ?_
    refine y_icmp_ge (tgt := 28) (pc2 := 10) rfl dX4_rankOf_7 (by decide) (fun c5 => ?_) (fun c5 => ?_)
    · replace hf := y_it c5 hf
      refine y_bipush (v := (-9 : Int32)) (pc2 := 30) rfl dX4_rankOf_28 (by decide) ?_
      exact y_iretF hf dX4_rankOf_30 rfl (by decide) (by decide)
    · replace hf := y_ie c5 hf
      refine y_aload_n (x := v0_2) (pc2 := 11) rfl dX4_rankOf_10 rfl ?_
      obtain ⟨g4, hf⟩ := y_g hf
      refine y_getP (pc2 := 14) rfl dX4_rankOf_11 F_BoxYard_Digging_13 (by decide) rfl g4 ?_
      refine y_iload_n (pc2 := 15) rfl dX4_rankOf_14 rfl ?_
      obtain ⟨g3, hf⟩ := y_g hf
      refine y_aald (t := 3) (pc2 := 16) rfl dX4_rankOf_15 (by decide) rfl g3.1 (y_ix_in g3.2) ?_
      refine y_aload_n (x := v1_2) (pc2 := 17) rfl dX4_rankOf_16 rfl ?_
      refine y_acmp_ne (tgt := 22) (pc2 := 20) rfl dX4_rankOf_17 (by decide) (fun c2 => ?_) (fun c2 => ?_)
      · replace hf := y_ie c2 hf
        refine y_iinc (v := v2_2 + 1) (lv' := [(2, .int (v2_2 + 1)), (0, y_p v0_2), (1, y_p v1_2)]) (pc2 := 25) rfl dX4_rankOf_22 rfl rfl (by decide) (by simp [y_st1, y_p_cat, y_ci, y_cj]) ?_
        refine y_goto (tgt := 2) dX4_rankOf_25 (by decide) ?_
        exact y_pk [1, 2, 0] rfl (hj2 _ _ _ _ hf)
      · replace hf := y_it c2 hf
        refine y_iload_n (pc2 := 21) rfl dX4_rankOf_20 rfl ?_
        exact y_iretF hf dX4_rankOf_21 rfl (by decide) (by decide)
  · refine y_istore_n (lv' := [(2, .int 0), (0, y_p p0), (1, y_p p1)]) (pc2 := 2) rfl dX4_rankOf_1 (by decide) (by show y_st1 _ 2 _ = _; simp [y_st1, y_p_cat, y_ci, y_cj]) ?_
    exact y_pk [1, 2, 0] rfl (hj2 _ _ _ _ hf)
theorem dX4_addWanted_0 : decode cX4_addWanted 0 = .ok (.aload_n 0, 1) := by decide +kernel
theorem dX4_addWanted_1 : decode cX4_addWanted 1 = .ok (.getfield 32, 3) := by decide +kernel
theorem dX4_addWanted_4 : decode cX4_addWanted 4 = .ok (.iconst 5, 1) := by decide +kernel
theorem dX4_addWanted_5 : decode cX4_addWanted 5 = .ok (.if_icmp .lt 6, 3) := by decide +kernel
theorem dX4_addWanted_8 : decode cX4_addWanted 8 = .ok (.bipush (-4), 2) := by decide +kernel
theorem dX4_addWanted_10 : decode cX4_addWanted 10 = .ok (.ireturn, 1) := by decide +kernel
theorem dX4_addWanted_11 : decode cX4_addWanted 11 = .ok (.aload_n 0, 1) := by decide +kernel
theorem dX4_addWanted_12 : decode cX4_addWanted 12 = .ok (.getfield 13, 3) := by decide +kernel
theorem dX4_addWanted_15 : decode cX4_addWanted 15 = .ok (.aload_n 0, 1) := by decide +kernel
theorem dX4_addWanted_16 : decode cX4_addWanted 16 = .ok (.getfield 32, 3) := by decide +kernel
theorem dX4_addWanted_19 : decode cX4_addWanted 19 = .ok (.aload_n 1, 1) := by decide +kernel
theorem dX4_addWanted_20 : decode cX4_addWanted 20 = .ok (.aastore, 1) := by decide +kernel
theorem dX4_addWanted_21 : decode cX4_addWanted 21 = .ok (.aload_n 0, 1) := by decide +kernel
theorem dX4_addWanted_22 : decode cX4_addWanted 22 = .ok (.dup, 1) := by decide +kernel
theorem dX4_addWanted_23 : decode cX4_addWanted 23 = .ok (.getfield 32, 3) := by decide +kernel
theorem dX4_addWanted_26 : decode cX4_addWanted 26 = .ok (.iconst 1, 1) := by decide +kernel
theorem dX4_addWanted_27 : decode cX4_addWanted 27 = .ok (.iadd, 1) := by decide +kernel
theorem dX4_addWanted_28 : decode cX4_addWanted 28 = .ok (.putfield 32, 3) := by decide +kernel
theorem dX4_addWanted_31 : decode cX4_addWanted 31 = .ok (.aload_n 0, 1) := by decide +kernel
theorem dX4_addWanted_32 : decode cX4_addWanted 32 = .ok (.getfield 32, 3) := by decide +kernel
theorem dX4_addWanted_35 : decode cX4_addWanted 35 = .ok (.ireturn, 1) := by decide +kernel
def M_X4_addWanted : y_M := (yX4_addWanted, cX4_addWanted, 2, (Option.some Jvm.ClassFile.FieldType.int))
theorem n_X4_addWanted : y_N0 M_X4_addWanted 1 := ⟨(c_5 176 (by decide +kernel) rfl), (c_1 7 (by decide +kernel) rfl), ⟨by decide +kernel, by decide +kernel⟩, by decide +kernel⟩
set_option maxRecDepth 100000 in
def f_X4_addWanted (p0 : Nat) (p1 : Nat) (h : y_H) : Option (Int32 × y_H) :=
  if y_K h p0 = 5 then
  if (y_I h p0 1) < 5 then
    if y_K h p0 = 5 then
    if y_K h p0 = 5 then
    if y_K h (y_P h p0 0) = 103 ∧ y_ix (y_I h p0 1) (y_N h (y_P h p0 0)) = true ∧ (p1 = 0 ∨ y_K h p1 = 3) then
    y_bd (s_P h (y_P h p0 0) (Int32.toNatClampNeg (y_I h p0 1)) p1) (fun h1 =>
    if y_K h1 p0 = 5 then
    if y_K h1 p0 = 5 then
    y_bd (s_I h1 p0 1 ((y_I h1 p0 1) + 1)) (fun h4 =>
    if y_K h4 p0 = 5 then
    some (y_I h4 p0 1, h4)
    else none)
    else none
    else none)
    else none
    else none
    else none
  else
    some ((-4 : Int32), h)
  else none
abbrev rm_X4_addWanted : Room := { frames := 0, cells := 0, slots := 0, locals := 0 }
set_option maxRecDepth 100000 in
set_option maxHeartbeats 4000000 in
theorem k_X4_addWanted {l : Launch} {G : y_G} {p0 : Nat} {p1 : Nat} {h hz : y_H} {rz : Int32} (hf : f_X4_addWanted p0 p1 h = some (rz, hz)) : y_S l G M_X4_addWanted rm_X4_addWanted [y_p p0, y_p p1] h (some (.int rz)) hz := by
  refine y_start (lv := [(0, y_p p0), (1, y_p p1)]) (by decide) (by simp [lg_sl, y_p_cat, y_ci, y_cj, M_X4_addWanted]) (by simp [lv_args, y_p_cat, y_ci, y_cj]) (fun z ad0 => ?_)
  unfold f_X4_addWanted at hf
  refine y_aload_n (x := p0) (pc2 := 1) rfl dX4_addWanted_0 rfl ?_
  obtain ⟨g12, hf⟩ := y_g hf
  refine y_getI (pc2 := 4) rfl dX4_addWanted_1 F_BoxYard_Digging_32 (by decide) rfl g12 ?_
  refine y_iconst (v := 5) (pc2 := 5) rfl dX4_addWanted_4 (by decide) ?_
  refine y_icmp_lt (tgt := 11) (pc2 := 8) rfl dX4_addWanted_5 (by decide) (fun c11 => ?_) (fun c11 => ?_)
  · replace hf := y_it c11 hf
    refine y_aload_n (x := p0) (pc2 := 12) rfl dX4_addWanted_11 rfl ?_
    obtain ⟨g10, hf⟩ := y_g hf
    refine y_getP (pc2 := 15) rfl dX4_addWanted_12 F_BoxYard_Digging_13 (by decide) rfl g10 ?_
    refine y_aload_n (x := p0) (pc2 := 16) rfl dX4_addWanted_15 rfl ?_
    obtain ⟨g9, hf⟩ := y_g hf
    refine y_getI (pc2 := 19) rfl dX4_addWanted_16 F_BoxYard_Digging_32 (by decide) rfl g9 ?_
    refine y_aload_n (x := p1) (pc2 := 20) rfl dX4_addWanted_19 rfl ?_
    obtain ⟨g3, hf⟩ := y_g hf
    obtain ⟨h1, e2, hf⟩ := y_bdE hf
    refine y_aast (t := 3) (ci := 2) (x := p1) (pc2 := 21) rfl dX4_addWanted_20 (by decide) rfl (by decide) rfl g3.1 (y_ix_in g3.2.1) g3.2.2 e2 ?_
    refine y_aload_n (x := p0) (pc2 := 22) rfl dX4_addWanted_21 rfl ?_
    refine y_dup (pc2 := 23) rfl dX4_addWanted_22 (y_p_cat _) ?_
    obtain ⟨g8, hf⟩ := y_g hf
    refine y_getI (pc2 := 26) rfl dX4_addWanted_23 F_BoxYard_Digging_32 (by decide) rfl g8 ?_
    refine y_iconst (v := 1) (pc2 := 27) rfl dX4_addWanted_26 (by decide) ?_
    refine y_iadd (pc2 := 28) rfl dX4_addWanted_27 ?_
    obtain ⟨g6, hf⟩ := y_g hf
    obtain ⟨h4, e5, hf⟩ := y_bdE hf
    refine y_putI (x := (y_I h1 p0 1) + 1) (pc2 := 31) rfl dX4_addWanted_28 Fp_BoxYard_Digging_32 (by decide) rfl g6 e5 ?_
    refine y_aload_n (x := p0) (pc2 := 32) rfl dX4_addWanted_31 rfl ?_
    obtain ⟨g7, hf⟩ := y_g hf
    refine y_getI (pc2 := 35) rfl dX4_addWanted_32 F_BoxYard_Digging_32 (by decide) rfl g7 ?_
    exact y_iretF hf dX4_addWanted_35 rfl (by decide) (by decide)
  · replace hf := y_ie c11 hf
    refine y_bipush (v := (-4 : Int32)) (pc2 := 10) rfl dX4_addWanted_8 (by decide) ?_
    exact y_iretF hf dX4_addWanted_10 rfl (by decide) (by decide)
theorem dX4_dropOrder_0 : decode cX4_dropOrder 0 = .ok (.aload_n 0, 1) := by decide +kernel
theorem dX4_dropOrder_1 : decode cX4_dropOrder 1 = .ok (.getfield 32, 3) := by decide +kernel
theorem dX4_dropOrder_4 : decode cX4_dropOrder 4 = .ok (.istore_n 1, 1) := by decide +kernel
theorem dX4_dropOrder_5 : decode cX4_dropOrder 5 = .ok (.aload_n 0, 1) := by decide +kernel
theorem dX4_dropOrder_6 : decode cX4_dropOrder 6 = .ok (.iconst 0, 1) := by decide +kernel
theorem dX4_dropOrder_7 : decode cX4_dropOrder 7 = .ok (.putfield 32, 3) := by decide +kernel
theorem dX4_dropOrder_10 : decode cX4_dropOrder 10 = .ok (.iload_n 1, 1) := by decide +kernel
theorem dX4_dropOrder_11 : decode cX4_dropOrder 11 = .ok (.ireturn, 1) := by decide +kernel
def M_X4_dropOrder : y_M := (yX4_dropOrder, cX4_dropOrder, 2, (Option.some Jvm.ClassFile.FieldType.int))
theorem n_X4_dropOrder : y_N0 M_X4_dropOrder 0 := ⟨(c_5 184 (by decide +kernel) rfl), (c_1 7 (by decide +kernel) rfl), ⟨by decide +kernel, by decide +kernel⟩, by decide +kernel⟩
set_option maxRecDepth 100000 in
def f_X4_dropOrder (p0 : Nat) (h : y_H) : Option (Int32 × y_H) :=
  if y_K h p0 = 5 then
  if y_K h p0 = 5 then
  y_bd (s_I h p0 1 0) (fun h1 =>
  some (y_I h p0 1, h1))
  else none
  else none
abbrev rm_X4_dropOrder : Room := { frames := 0, cells := 0, slots := 0, locals := 0 }
set_option maxRecDepth 100000 in
set_option maxHeartbeats 4000000 in
theorem k_X4_dropOrder {l : Launch} {G : y_G} {p0 : Nat} {h hz : y_H} {rz : Int32} (hf : f_X4_dropOrder p0 h = some (rz, hz)) : y_S l G M_X4_dropOrder rm_X4_dropOrder [y_p p0] h (some (.int rz)) hz := by
  refine y_start (lv := [(0, y_p p0)]) (by decide) (by simp [lg_sl, y_p_cat, y_ci, y_cj, M_X4_dropOrder]) (by simp [lv_args, y_p_cat, y_ci, y_cj]) (fun z ad0 => ?_)
  unfold f_X4_dropOrder at hf
  refine y_aload_n (x := p0) (pc2 := 1) rfl dX4_dropOrder_0 rfl ?_
  obtain ⟨g4, hf⟩ := y_g hf
  refine y_getI (pc2 := 4) rfl dX4_dropOrder_1 F_BoxYard_Digging_32 (by decide) rfl g4 ?_
  refine y_istore_n (lv' := [(1, .int (y_I h p0 1)), (0, y_p p0)]) (pc2 := 5) rfl dX4_dropOrder_4 (by decide) (by show y_st1 _ 1 _ = _; simp [y_st1, y_p_cat, y_ci, y_cj]) ?_
  refine y_aload_n (x := p0) (pc2 := 6) rfl dX4_dropOrder_5 rfl ?_
  refine y_iconst (v := 0) (pc2 := 7) rfl dX4_dropOrder_6 (by decide) ?_
  obtain ⟨g3, hf⟩ := y_g hf
  obtain ⟨h1, e2, hf⟩ := y_bdE hf
  refine y_putI (x := 0) (pc2 := 10) rfl dX4_dropOrder_7 Fp_BoxYard_Digging_32 (by decide) rfl g3 e2 ?_
  refine y_iload_n (pc2 := 11) rfl dX4_dropOrder_10 rfl ?_
  exact y_iretF hf dX4_dropOrder_11 rfl (by decide) (by decide)
theorem dX4_hasOrderIn_0 : decode cX4_hasOrderIn 0 = .ok (.iconst 0, 1) := by decide +kernel
theorem dX4_hasOrderIn_1 : decode cX4_hasOrderIn 1 = .ok (.istore_n 2, 1) := by decide +kernel
theorem dX4_hasOrderIn_2 : decode cX4_hasOrderIn 2 = .ok (.iload_n 2, 1) := by decide +kernel
theorem dX4_hasOrderIn_3 : decode cX4_hasOrderIn 3 = .ok (.aload_n 0, 1) := by decide +kernel
theorem dX4_hasOrderIn_4 : decode cX4_hasOrderIn 4 = .ok (.getfield 32, 3) := by decide +kernel
theorem dX4_hasOrderIn_7 : decode cX4_hasOrderIn 7 = .ok (.if_icmp .ge 41, 3) := by decide +kernel
theorem dX4_hasOrderIn_10 : decode cX4_hasOrderIn 10 = .ok (.aload_n 0, 1) := by decide +kernel
theorem dX4_hasOrderIn_11 : decode cX4_hasOrderIn 11 = .ok (.getfield 13, 3) := by decide +kernel
theorem dX4_hasOrderIn_14 : decode cX4_hasOrderIn 14 = .ok (.iload_n 2, 1) := by decide +kernel
theorem dX4_hasOrderIn_15 : decode cX4_hasOrderIn 15 = .ok (.aaload, 1) := by decide +kernel
theorem dX4_hasOrderIn_16 : decode cX4_hasOrderIn 16 = .ok (.astore_n 3, 1) := by decide +kernel
theorem dX4_hasOrderIn_17 : decode cX4_hasOrderIn 17 = .ok (.aload_n 3, 1) := by decide +kernel
theorem dX4_hasOrderIn_18 : decode cX4_hasOrderIn 18 = .ok (.ifnull 22, 3) := by decide +kernel
theorem dX4_hasOrderIn_21 : decode cX4_hasOrderIn 21 = .ok (.aload_n 3, 1) := by decide +kernel
theorem dX4_hasOrderIn_22 : decode cX4_hasOrderIn 22 = .ok (.getfield 46, 3) := by decide +kernel
theorem dX4_hasOrderIn_25 : decode cX4_hasOrderIn 25 = .ok (.iconst 1, 1) := by decide +kernel
theorem dX4_hasOrderIn_26 : decode cX4_hasOrderIn 26 = .ok (.if_icmp .ne 14, 3) := by decide +kernel
theorem dX4_hasOrderIn_29 : decode cX4_hasOrderIn 29 = .ok (.aload_n 3, 1) := by decide +kernel
theorem dX4_hasOrderIn_30 : decode cX4_hasOrderIn 30 = .ok (.getfield 49, 3) := by decide +kernel
theorem dX4_hasOrderIn_33 : decode cX4_hasOrderIn 33 = .ok (.aload_n 1, 1) := by decide +kernel
theorem dX4_hasOrderIn_34 : decode cX4_hasOrderIn 34 = .ok (.getfield 52, 3) := by decide +kernel
theorem dX4_hasOrderIn_37 : decode cX4_hasOrderIn 37 = .ok (.if_icmp .eq 5, 3) := by decide +kernel
theorem dX4_hasOrderIn_40 : decode cX4_hasOrderIn 40 = .ok (.iconst 0, 1) := by decide +kernel
theorem dX4_hasOrderIn_41 : decode cX4_hasOrderIn 41 = .ok (.ireturn, 1) := by decide +kernel
theorem dX4_hasOrderIn_42 : decode cX4_hasOrderIn 42 = .ok (.iinc 2 1, 3) := by decide +kernel
theorem dX4_hasOrderIn_45 : decode cX4_hasOrderIn 45 = .ok (.goto (-43), 3) := by decide +kernel
theorem dX4_hasOrderIn_48 : decode cX4_hasOrderIn 48 = .ok (.iconst 1, 1) := by decide +kernel
theorem dX4_hasOrderIn_49 : decode cX4_hasOrderIn 49 = .ok (.ireturn, 1) := by decide +kernel
def M_X4_hasOrderIn : y_M := (yX4_hasOrderIn, cX4_hasOrderIn, 4, (Option.some Jvm.ClassFile.FieldType.boolean))
theorem n_X4_hasOrderIn : y_N0 M_X4_hasOrderIn 1 := ⟨(c_5 192 (by decide +kernel) rfl), (c_1 7 (by decide +kernel) rfl), ⟨by decide +kernel, by decide +kernel⟩, by decide +kernel⟩
theorem F_BoxYard_Digging_46 : y_F "BoxYard$Digging" 46 2 6 := ⟨_, _, _, rfl, by decide, Or.inr ⟨"BoxYard", (c_2 128 (by decide +kernel) rfl)⟩⟩
theorem F_BoxYard_Digging_49 : y_F "BoxYard$Digging" 49 2 7 := ⟨_, _, _, rfl, by decide, Or.inr ⟨"BoxYard", (c_2 134 (by decide +kernel) rfl)⟩⟩
theorem F_BoxYard_Digging_52 : y_F "BoxYard$Digging" 52 1 0 := ⟨_, _, _, rfl, by decide, Or.inr ⟨"BoxYard", (c_3 59 (by decide +kernel) rfl)⟩⟩
set_option maxRecDepth 100000 in
def f_X4_hasOrderIn (p0 : Nat) (p1 : Nat) (h : y_H) : Option (Bool × y_H) :=
  y_jl (fun (_ : Nat) (_ : Nat) (_ : Int32) (_ : y_H) => (none : Option (Bool × y_H))) (fun j2 (v0_2 : Nat) (v1_2 : Nat) (v2_2 : Int32) (h1 : y_H) =>
      if y_K h1 v0_2 = 5 then
      if (y_I h1 v0_2 1) ≤ v2_2 then
        some (true, h1)
      else
        if y_K h1 v0_2 = 5 then
        if y_K h1 (y_P h1 v0_2 0) = 103 ∧ y_ix v2_2 (y_N h1 (y_P h1 v0_2 0)) = true then
        y_jn (fun (h2 : y_H) => (
            some (false, h2) : Option (Bool × y_H))) (fun j40 =>
        if (y_P h1 (y_P h1 v0_2 0) (Int32.toNatClampNeg v2_2)) = 0 then
          j40 h1
        else
          if y_K h1 (y_P h1 (y_P h1 v0_2 0) (Int32.toNatClampNeg v2_2)) = 3 then
          if (y_I h1 (y_P h1 (y_P h1 v0_2 0) (Int32.toNatClampNeg v2_2)) 6) = 1 then
            if y_K h1 (y_P h1 (y_P h1 v0_2 0) (Int32.toNatClampNeg v2_2)) = 3 then
            if y_K h1 v1_2 = 2 then
            if (y_I h1 (y_P h1 (y_P h1 v0_2 0) (Int32.toNatClampNeg v2_2)) 7) = (y_I h1 v1_2 0) then
              j2 v0_2 v1_2 (v2_2 + 1) h1
            else
              j40 h1
            else none
            else none
          else
            j40 h1
          else none)
        else none
        else none
      else none) (fun j2 =>
  j2 p0 p1 0 h)
abbrev rm_X4_hasOrderIn : Room := { frames := 0, cells := 0, slots := 0, locals := 0 }
set_option maxRecDepth 100000 in
set_option maxHeartbeats 4000000 in
theorem k_X4_hasOrderIn {l : Launch} {G : y_G} {p0 : Nat} {p1 : Nat} {h hz : y_H} {rz : Bool} (hf : f_X4_hasOrderIn p0 p1 h = some (rz, hz)) : y_S l G M_X4_hasOrderIn rm_X4_hasOrderIn [y_p p0, y_p p1] h (some (.int (y_z rz))) hz := by
  refine y_start (lv := [(0, y_p p0), (1, y_p p1)]) (by decide) (by simp [lg_sl, y_p_cat, y_ci, y_cj, M_X4_hasOrderIn]) (by simp [lv_args, y_p_cat, y_ci, y_cj]) (fun z ad0 => ?_)
  unfold f_X4_hasOrderIn at hf
  refine y_iconst (v := 0) (pc2 := 1) rfl dX4_hasOrderIn_0 (by decide) ?_
  refine y_jlE hf (fun j => ∀ (v0_2 : Nat) (v1_2 : Nat) (v2_2 : Int32) (h1 : y_H), j v0_2 v1_2 v2_2 h1 = some (rz, hz) → y_V l G z rm_X4_hasOrderIn M_X4_hasOrderIn ad0 h (some (.int (y_z rz))) hz 2 [(0, y_p v0_2), (1, y_p v1_2), (2, .int v2_2)] [] h1 0 0) (fun _ _ _ _ hf => by cases hf) (fun j2 hj2 v0_2 v1_2 v2_2 h1 hf => ?_) (fun j2 hj2 hf => ?_)
  · refine y_iload_n (pc2 := 3) rfl dX4_hasOrderIn_2 rfl ?_
    refine y_aload_n (x := v0_2) (pc2 := 4) rfl dX4_hasOrderIn_3 rfl ?_
    obtain ⟨g12, hf⟩ := y_g hf
    refine y_getI (pc2 := 7) rfl dX4_hasOrderIn_4 F_BoxYard_Digging_32 (by decide) rfl g12 ?_
    refine y_icmp_ge (tgt := 48) (pc2 := 10) rfl dX4_hasOrderIn_7 (by decide) (fun c11 => ?_) (fun c11 => ?_)
    · replace hf := y_it c11 hf
      refine y_iconst (v := 1) (pc2 := 49) rfl dX4_hasOrderIn_48 (by decide) ?_
      exact y_zretF (x := true) hf dX4_hasOrderIn_49 rfl (by decide) (by decide)
    · replace hf := y_ie c11 hf
      refine y_aload_n (x := v0_2) (pc2 := 11) rfl dX4_hasOrderIn_10 rfl ?_
      obtain ⟨g10, hf⟩ := y_g hf
      refine y_getP (pc2 := 14) rfl dX4_hasOrderIn_11 F_BoxYard_Digging_13 (by decide) rfl g10 ?_
      refine y_iload_n (pc2 := 15) rfl dX4_hasOrderIn_14 rfl ?_
      obtain ⟨g9, hf⟩ := y_g hf
      refine y_aald (t := 3) (pc2 := 16) rfl dX4_hasOrderIn_15 (by decide) rfl g9.1 (y_ix_in g9.2) ?_
      refine y_astore_n (lv' := [(3, y_p (y_P h1 (y_P h1 v0_2 0) (Int32.toNatClampNeg v2_2))), (0, y_p v0_2), (1, y_p v1_2), (2, .int v2_2)]) (pc2 := 17) rfl dX4_hasOrderIn_16 (by decide) rfl ?_
      refine y_aload_n (x := y_P h1 (y_P h1 v0_2 0) (Int32.toNatClampNeg v2_2)) (pc2 := 18) rfl dX4_hasOrderIn_17 rfl ?_
      refine y_jnE hf (fun j => ∀ (h2 : y_H), j h2 = some (rz, hz) → y_V l G z rm_X4_hasOrderIn M_X4_hasOrderIn ad0 h (some (.int (y_z rz))) hz 40 [] [] h2 0 0) (fun h2 hf => ?_) (fun j40 hj40 hf => ?_)
      · refine y_iconst (v := 0) (pc2 := 41) rfl dX4_hasOrderIn_40 (by decide) ?_
        exact y_zretF (x := false) hf dX4_hasOrderIn_41 rfl (by decide) (by decide)
      · refine y_ifnull (tgt := 40) (pc2 := 21) rfl dX4_hasOrderIn_18 (by decide) (fun c8 => ?_) (fun c8 => ?_)
        · replace hf := y_it c8 hf
          exact y_pk [] rfl (hj40 _ hf)
        · replace hf := y_ie c8 hf
          refine y_aload_n (x := y_P h1 (y_P h1 v0_2 0) (Int32.toNatClampNeg v2_2)) (pc2 := 22) rfl dX4_hasOrderIn_21 rfl ?_
          obtain ⟨g7, hf⟩ := y_g hf
          refine y_getI (pc2 := 25) rfl dX4_hasOrderIn_22 F_BoxYard_Digging_46 (by decide) rfl g7 ?_
          refine y_iconst (v := 1) (pc2 := 26) rfl dX4_hasOrderIn_25 (by decide) ?_
          refine y_icmp_ne (tgt := 40) (pc2 := 29) rfl dX4_hasOrderIn_26 (by decide) (fun c6 => ?_) (fun c6 => ?_)
          · replace hf := y_ie c6 hf
            exact y_pk [] rfl (hj40 _ hf)
          · replace hf := y_it c6 hf
            refine y_aload_n (x := y_P h1 (y_P h1 v0_2 0) (Int32.toNatClampNeg v2_2)) (pc2 := 30) rfl dX4_hasOrderIn_29 rfl ?_
            obtain ⟨g5, hf⟩ := y_g hf
            refine y_getI (pc2 := 33) rfl dX4_hasOrderIn_30 F_BoxYard_Digging_49 (by decide) rfl g5 ?_
            refine y_aload_n (x := v1_2) (pc2 := 34) rfl dX4_hasOrderIn_33 rfl ?_
            obtain ⟨g4, hf⟩ := y_g hf
            refine y_getI (pc2 := 37) rfl dX4_hasOrderIn_34 F_BoxYard_Digging_52 (by decide) rfl g4 ?_
            refine y_icmp_eq (tgt := 42) (pc2 := 40) rfl dX4_hasOrderIn_37 (by decide) (fun c3 => ?_) (fun c3 => ?_)
            · replace hf := y_it c3 hf
              refine y_iinc (v := v2_2 + 1) (lv' := [(2, .int (v2_2 + 1)), (3, y_p (y_P h1 (y_P h1 v0_2 0) (Int32.toNatClampNeg v2_2))), (0, y_p v0_2), (1, y_p v1_2)]) (pc2 := 45) rfl dX4_hasOrderIn_42 rfl rfl (by decide) (by simp [y_st1, y_p_cat, y_ci, y_cj]) ?_
              refine y_goto (tgt := 2) dX4_hasOrderIn_45 (by decide) ?_
              exact y_pk [2, 3, 0] rfl (hj2 _ _ _ _ hf)
            · replace hf := y_ie c3 hf
              exact y_pk [] rfl (hj40 _ hf)
  · refine y_istore_n (lv' := [(2, .int 0), (0, y_p p0), (1, y_p p1)]) (pc2 := 2) rfl dX4_hasOrderIn_1 (by decide) (by show y_st1 _ 2 _ = _; simp [y_st1, y_p_cat, y_ci, y_cj]) ?_
    exact y_pk [1, 2, 0] rfl (hj2 _ _ _ _ hf)
theorem dX6_startOf_0 : decode cX6_startOf 0 = .ok (.lconst 0, 1) := by decide +kernel
theorem dX6_startOf_1 : decode cX6_startOf 1 = .ok (.lstore_n 3, 1) := by decide +kernel
theorem dX6_startOf_2 : decode cX6_startOf 2 = .ok (.iconst 0, 1) := by decide +kernel
theorem dX6_startOf_3 : decode cX6_startOf 3 = .ok (.istore 5, 2) := by decide +kernel
theorem dX6_startOf_5 : decode cX6_startOf 5 = .ok (.iload 5, 2) := by decide +kernel
theorem dX6_startOf_7 : decode cX6_startOf 7 = .ok (.aload_n 0, 1) := by decide +kernel
theorem dX6_startOf_8 : decode cX6_startOf 8 = .ok (.getfield 42, 3) := by decide +kernel
theorem dX6_startOf_11 : decode cX6_startOf 11 = .ok (.if_icmp .ge 92, 3) := by decide +kernel
theorem dX6_startOf_14 : decode cX6_startOf 14 = .ok (.aload_n 0, 1) := by decide +kernel
theorem dX6_startOf_15 : decode cX6_startOf 15 = .ok (.getfield 11, 3) := by decide +kernel
theorem dX6_startOf_18 : decode cX6_startOf 18 = .ok (.iload 5, 2) := by decide +kernel
theorem dX6_startOf_20 : decode cX6_startOf 20 = .ok (.aload_n 1, 1) := by decide +kernel
theorem dX6_startOf_21 : decode cX6_startOf 21 = .ok (.getfield 66, 3) := by decide +kernel
theorem dX6_startOf_24 : decode cX6_startOf 24 = .ok (.iload 5, 2) := by decide +kernel
theorem dX6_startOf_26 : decode cX6_startOf 26 = .ok (.iaload, 1) := by decide +kernel
theorem dX6_startOf_27 : decode cX6_startOf 27 = .ok (.iastore, 1) := by decide +kernel
theorem dX6_startOf_28 : decode cX6_startOf 28 = .ok (.iconst 0, 1) := by decide +kernel
theorem dX6_startOf_29 : decode cX6_startOf 29 = .ok (.istore 6, 2) := by decide +kernel
theorem dX6_startOf_31 : decode cX6_startOf 31 = .ok (.iload 6, 2) := by decide +kernel
theorem dX6_startOf_33 : decode cX6_startOf 33 = .ok (.aload_n 1, 1) := by decide +kernel
theorem dX6_startOf_34 : decode cX6_startOf 34 = .ok (.getfield 67, 3) := by decide +kernel
theorem dX6_startOf_37 : decode cX6_startOf 37 = .ok (.iload 5, 2) := by decide +kernel
theorem dX6_startOf_39 : decode cX6_startOf 39 = .ok (.iaload, 1) := by decide +kernel
theorem dX6_startOf_40 : decode cX6_startOf 40 = .ok (.if_icmp .ge 57, 3) := by decide +kernel
theorem dX6_startOf_43 : decode cX6_startOf 43 = .ok (.aload_n 2, 1) := by decide +kernel
theorem dX6_startOf_44 : decode cX6_startOf 44 = .ok (.aload_n 1, 1) := by decide +kernel
theorem dX6_startOf_45 : decode cX6_startOf 45 = .ok (.iload 5, 2) := by decide +kernel
theorem dX6_startOf_47 : decode cX6_startOf 47 = .ok (.iload 6, 2) := by decide +kernel
theorem dX6_startOf_49 : decode cX6_startOf 49 = .ok (.invokevirtual 68, 3) := by decide +kernel
theorem dX6_startOf_52 : decode cX6_startOf 52 = .ok (.invokevirtual 72, 3) := by decide +kernel
theorem dX6_startOf_55 : decode cX6_startOf 55 = .ok (.istore 7, 2) := by decide +kernel
theorem dX6_startOf_57 : decode cX6_startOf 57 = .ok (.iload 7, 2) := by decide +kernel
theorem dX6_startOf_59 : decode cX6_startOf 59 = .ok (.ifCond .lt 11, 3) := by decide +kernel
theorem dX6_startOf_62 : decode cX6_startOf 62 = .ok (.iload 7, 2) := by decide +kernel
theorem dX6_startOf_64 : decode cX6_startOf 64 = .ok (.iconst 1, 1) := by decide +kernel
theorem dX6_startOf_65 : decode cX6_startOf 65 = .ok (.iadd, 1) := by decide +kernel
theorem dX6_startOf_66 : decode cX6_startOf 66 = .ok (.i2l, 1) := by decide +kernel
theorem dX6_startOf_67 : decode cX6_startOf 67 = .ok (.goto 6, 3) := by decide +kernel
theorem dX6_startOf_70 : decode cX6_startOf 70 = .ok (.ldc2_w 76, 3) := by decide +kernel
theorem dX6_startOf_73 : decode cX6_startOf 73 = .ok (.lstore 8, 2) := by decide +kernel
theorem dX6_startOf_75 : decode cX6_startOf 75 = .ok (.lload_n 3, 1) := by decide +kernel
theorem dX6_startOf_76 : decode cX6_startOf 76 = .ok (.lload 8, 2) := by decide +kernel
theorem dX6_startOf_78 : decode cX6_startOf 78 = .ok (.bipush 15, 2) := by decide +kernel
theorem dX6_startOf_80 : decode cX6_startOf 80 = .ok (.iload 5, 2) := by decide +kernel
theorem dX6_startOf_82 : decode cX6_startOf 82 = .ok (.imul, 1) := by decide +kernel
theorem dX6_startOf_83 : decode cX6_startOf 83 = .ok (.iconst 3, 1) := by decide +kernel
theorem dX6_startOf_84 : decode cX6_startOf 84 = .ok (.iload 6, 2) := by decide +kernel
theorem dX6_startOf_86 : decode cX6_startOf 86 = .ok (.imul, 1) := by decide +kernel
theorem dX6_startOf_87 : decode cX6_startOf 87 = .ok (.iadd, 1) := by decide +kernel
theorem dX6_startOf_88 : decode cX6_startOf 88 = .ok (.lshl, 1) := by decide +kernel
theorem dX6_startOf_89 : decode cX6_startOf 89 = .ok (.lor, 1) := by decide +kernel
theorem dX6_startOf_90 : decode cX6_startOf 90 = .ok (.lstore_n 3, 1) := by decide +kernel
theorem dX6_startOf_91 : decode cX6_startOf 91 = .ok (.iinc 6 1, 3) := by decide +kernel
theorem dX6_startOf_94 : decode cX6_startOf 94 = .ok (.goto (-63), 3) := by decide +kernel
theorem dX6_startOf_97 : decode cX6_startOf 97 = .ok (.iinc 5 1, 3) := by decide +kernel
theorem dX6_startOf_100 : decode cX6_startOf 100 = .ok (.goto (-95), 3) := by decide +kernel
theorem dX6_startOf_103 : decode cX6_startOf 103 = .ok (.lload_n 3, 1) := by decide +kernel
theorem dX6_startOf_104 : decode cX6_startOf 104 = .ok (.lreturn, 1) := by decide +kernel
def M_X6_startOf : y_M := (yX6_startOf, cX6_startOf, 10, (Option.some Jvm.ClassFile.FieldType.long))
theorem n_X6_startOf : y_N0 M_X6_startOf 2 := ⟨(c_6 5 (by decide +kernel) rfl), (c_1 15 (by decide +kernel) rfl), ⟨by decide +kernel, by decide +kernel⟩, by decide +kernel⟩
theorem F_BoxYard_Search_42 : y_F "BoxYard$Search" 42 6 2 := ⟨_, _, _, rfl, by decide, Or.inl (c_5 205 (by decide +kernel) rfl)⟩
theorem F_BoxYard_Search_11 : y_F "BoxYard$Search" 11 6 0 := ⟨_, _, _, rfl, by decide, Or.inl (c_5 203 (by decide +kernel) rfl)⟩
theorem F_BoxYard_Search_66 : y_F "BoxYard$Search" 66 1 1 := ⟨_, _, _, rfl, by decide, Or.inr ⟨"BoxYard", (c_3 61 (by decide +kernel) rfl)⟩⟩
theorem F_BoxYard_Search_67 : y_F "BoxYard$Search" 67 1 3 := ⟨_, _, _, rfl, by decide, Or.inr ⟨"BoxYard", (c_3 69 (by decide +kernel) rfl)⟩⟩
theorem l_BoxYard_Search_68 : y_lnk "BoxYard$Search" 68 M_X1_boxIn := Or.inl (c_6 6 (by decide +kernel) rfl)
theorem l_BoxYard_Search_72 : y_lnk "BoxYard$Search" 72 M_X4_rankOf := Or.inl (c_6 7 (by decide +kernel) rfl)
theorem i_X4_rankOf : Cond.instanceMethod (M_X4_rankOf).1 ∈ y_tb := (c_5 170 (by decide +kernel) rfl)
theorem e_X4_rankOf : Cond.selects (M_X4_rankOf).1.cls (M_X4_rankOf).1 (M_X4_rankOf).1 ∈ y_tb := (c_5 171 (by decide +kernel) rfl)
theorem k_BoxYard_Search_76 : Cond.constantLong "BoxYard$Search" 76 6 ∈ y_tb := (c_6 8 (by decide +kernel) rfl)
set_option maxRecDepth 100000 in
def f_X6_startOf (p0 : Nat) (p1 : Nat) (p2 : Nat) (h : y_H) : Option (Int64 × y_H) :=
  y_jl (fun (_ : Nat) (_ : Nat) (_ : Nat) (_ : Int64) (_ : Int32) (_ : y_H) => (none : Option (Int64 × y_H))) (fun j5 (v0_5 : Nat) (v1_5 : Nat) (v2_5 : Nat) (v3_5 : Int64) (v5_5 : Int32) (h1 : y_H) =>
      if y_K h1 v0_5 = 7 then
      if (y_I h1 v0_5 2) ≤ v5_5 then
        some (v3_5, h1)
      else
        if y_K h1 v0_5 = 7 then
        if y_K h1 v1_5 = 2 then
        if y_K h1 (y_P h1 v1_5 1) = 100 ∧ y_ix v5_5 (y_N h1 (y_P h1 v1_5 1)) = true then
        if y_K h1 (y_P h1 v0_5 0) = 100 ∧ y_ix v5_5 (y_N h1 (y_P h1 v0_5 0)) = true then
        y_bd (s_I h1 (y_P h1 v0_5 0) (Int32.toNatClampNeg v5_5) (y_I h1 (y_P h1 v1_5 1) (Int32.toNatClampNeg v5_5))) (fun h2 =>
        y_jl (fun (_ : Nat) (_ : Nat) (_ : Nat) (_ : Int64) (_ : Int32) (_ : Int32) (_ : y_H) => (none : Option (Int64 × y_H))) (fun j31 (v0_31 : Nat) (v1_31 : Nat) (v2_31 : Nat) (v3_31 : Int64) (v5_31 : Int32) (v6_31 : Int32) (h5 : y_H) =>
            if y_K h5 v1_31 = 2 then
            if y_K h5 (y_P h5 v1_31 3) = 100 ∧ y_ix v5_31 (y_N h5 (y_P h5 v1_31 3)) = true then
            if (y_I h5 (y_P h5 v1_31 3) (Int32.toNatClampNeg v5_31)) ≤ v6_31 then
              j5 v0_31 v1_31 v2_31 v3_31 (v5_31 + 1) h5
            else
              if y_K h5 v1_31 = 2 then
              y_cl (f_X1_boxIn v1_31 v5_31 v6_31 h5) (fun r6 h7 =>
              if y_K h7 v2_31 = 5 then
              y_cl (f_X4_rankOf v2_31 r6 h7) (fun r9 h10 =>
              if r9 < 0 then
                j31 v0_31 v1_31 v2_31 (v3_31 ||| (6 <<< (Int32.toInt64 ((15 * v5_31) + (3 * v6_31)) &&& 63))) v5_31 (v6_31 + 1) h10
              else
                j31 v0_31 v1_31 v2_31 (v3_31 ||| ((Int32.toInt64 (r9 + 1)) <<< (Int32.toInt64 ((15 * v5_31) + (3 * v6_31)) &&& 63))) v5_31 (v6_31 + 1) h10)
              else none)
              else none
            else none
            else none) (fun j31 =>
        j31 v0_5 v1_5 v2_5 v3_5 v5_5 0 h2))
        else none
        else none
        else none
        else none
      else none) (fun j5 =>
  j5 p0 p1 p2 0 0 h)
abbrev rm_X6_startOf : Room := { frames := 2, cells := 0, slots := 0, locals := 44 }
set_option maxRecDepth 100000 in
set_option maxHeartbeats 4000000 in
theorem k_X6_startOf {l : Launch} {G : y_G} {p0 : Nat} {p1 : Nat} {p2 : Nat} {h hz : y_H} {rz : Int64} (hf : f_X6_startOf p0 p1 p2 h = some (rz, hz)) : y_S l G M_X6_startOf rm_X6_startOf [y_p p0, y_p p1, y_p p2] h (some (.long rz)) hz := by
  refine y_start (lv := [(0, y_p p0), (1, y_p p1), (2, y_p p2)]) (by decide) (by simp [lg_sl, y_p_cat, y_ci, y_cj, M_X6_startOf]) (by simp [lv_args, y_p_cat, y_ci, y_cj]) (fun z ad0 => ?_)
  unfold f_X6_startOf at hf
  refine y_lconst (v := 0) (pc2 := 1) rfl dX6_startOf_0 rfl ?_
  refine y_lstore_n (lv' := [(3, .long 0), (0, y_p p0), (1, y_p p1), (2, y_p p2)]) (pc2 := 2) rfl dX6_startOf_1 (by decide) (by show y_st2 _ 3 _ = _; simp [y_st2, y_p_cat, y_ci, y_cj]) ?_
  refine y_iconst (v := 0) (pc2 := 3) rfl dX6_startOf_2 (by decide) ?_
  refine y_jlE hf (fun j => ∀ (v0_5 : Nat) (v1_5 : Nat) (v2_5 : Nat) (v3_5 : Int64) (v5_5 : Int32) (h1 : y_H), j v0_5 v1_5 v2_5 v3_5 v5_5 h1 = some (rz, hz) → y_V l G z rm_X6_startOf M_X6_startOf ad0 h (some (.long rz)) hz 5 [(0, y_p v0_5), (1, y_p v1_5), (2, y_p v2_5), (3, .long v3_5), (5, .int v5_5)] [] h1 0 0) (fun _ _ _ _ _ _ hf => by cases hf) (fun j5 hj5 v0_5 v1_5 v2_5 v3_5 v5_5 h1 hf => ?_) (fun j5 hj5 hf => ?_)
  · refine y_iload (pc2 := 7) rfl dX6_startOf_5 rfl ?_
    refine y_aload_n (x := v0_5) (pc2 := 8) rfl dX6_startOf_7 rfl ?_
    obtain ⟨g22, hf⟩ := y_g hf
    refine y_getI (pc2 := 11) rfl dX6_startOf_8 F_BoxYard_Search_42 (by decide) rfl g22 ?_
    refine y_icmp_ge (tgt := 103) (pc2 := 14) rfl dX6_startOf_11 (by decide) (fun c21 => ?_) (fun c21 => ?_)
    · replace hf := y_it c21 hf
      refine y_lload_n (pc2 := 104) rfl dX6_startOf_103 rfl ?_
      exact y_lretF hf dX6_startOf_104 rfl (by decide) (by decide)
    · replace hf := y_ie c21 hf
      refine y_aload_n (x := v0_5) (pc2 := 15) rfl dX6_startOf_14 rfl ?_
      obtain ⟨g20, hf⟩ := y_g hf
      refine y_getP (pc2 := 18) rfl dX6_startOf_15 F_BoxYard_Search_11 (by decide) rfl g20 ?_
      refine y_iload (pc2 := 20) rfl dX6_startOf_18 rfl ?_
      refine y_aload_n (x := v1_5) (pc2 := 21) rfl dX6_startOf_20 rfl ?_
      obtain ⟨g19, hf⟩ := y_g hf
      refine y_getP (pc2 := 24) rfl dX6_startOf_21 F_BoxYard_Search_66 (by decide) rfl g19 ?_
      refine y_iload (pc2 := 26) rfl dX6_startOf_24 rfl ?_
      obtain ⟨g18, hf⟩ := y_g hf
      refine y_iald (pc2 := 27) rfl dX6_startOf_26 g18.1 (y_ix_in g18.2) ?_
      obtain ⟨g4, hf⟩ := y_g hf
      obtain ⟨h2, e3, hf⟩ := y_bdE hf
      refine y_iast (x := y_I h1 (y_P h1 v1_5 1) (Int32.toNatClampNeg v5_5)) (pc2 := 28) rfl dX6_startOf_27 g4.1 (y_ix_in g4.2) e3 ?_
      refine y_iconst (v := 0) (pc2 := 29) rfl dX6_startOf_28 (by decide) ?_
      refine y_jlE hf (fun j => ∀ (v0_31 : Nat) (v1_31 : Nat) (v2_31 : Nat) (v3_31 : Int64) (v5_31 : Int32) (v6_31 : Int32) (h5 : y_H), j v0_31 v1_31 v2_31 v3_31 v5_31 v6_31 h5 = some (rz, hz) → y_V l G z rm_X6_startOf M_X6_startOf ad0 h (some (.long rz)) hz 31 [(0, y_p v0_31), (1, y_p v1_31), (2, y_p v2_31), (3, .long v3_31), (5, .int v5_31), (6, .int v6_31)] [] h5 0 0) (fun _ _ _ _ _ _ _ hf => by cases hf) (fun j31 hj31 v0_31 v1_31 v2_31 v3_31 v5_31 v6_31 h5 hf => ?_) (fun j31 hj31 hf => ?_)
      · refine y_iload (pc2 := 33) rfl dX6_startOf_31 rfl ?_
        refine y_aload_n (x := v1_31) (pc2 := 34) rfl dX6_startOf_33 rfl ?_
        obtain ⟨g17, hf⟩ := y_g hf
        refine y_getP (pc2 := 37) rfl dX6_startOf_34 F_BoxYard_Search_67 (by decide) rfl g17 ?_
        refine y_iload (pc2 := 39) rfl dX6_startOf_37 rfl ?_
        obtain ⟨g16, hf⟩ := y_g hf
        refine y_iald (pc2 := 40) rfl dX6_startOf_39 g16.1 (y_ix_in g16.2) ?_
        refine y_icmp_ge (tgt := 97) (pc2 := 43) rfl dX6_startOf_40 (by decide) (fun c15 => ?_) (fun c15 => ?_)
        · replace hf := y_it c15 hf
          refine y_iinc (v := v5_31 + 1) (lv' := [(5, .int (v5_31 + 1)), (0, y_p v0_31), (1, y_p v1_31), (2, y_p v2_31), (3, .long v3_31), (6, .int v6_31)]) (pc2 := 100) rfl dX6_startOf_97 rfl rfl (by decide) rfl ?_
          refine y_goto (tgt := 5) dX6_startOf_100 (by decide) ?_
          exact y_pk [1, 2, 3, 4, 0] rfl (hj5 _ _ _ _ _ _ hf)
        · replace hf := y_ie c15 hf
          refine y_aload_n (x := v2_31) (pc2 := 44) rfl dX6_startOf_43 rfl ?_
          refine y_aload_n (x := v1_31) (pc2 := 45) rfl dX6_startOf_44 rfl ?_
          refine y_iload (pc2 := 47) rfl dX6_startOf_45 rfl ?_
          refine y_iload (pc2 := 49) rfl dX6_startOf_47 rfl ?_
          obtain ⟨g14, hf⟩ := y_g hf
          obtain ⟨r6, h7, c8, hf⟩ := y_clE hf
          refine y_callV (As := [.int v5_31, .int v6_31]) (rm := rm_X1_boxIn) (cells := 0) (slots := 0) (pc2 := 52) rfl dX6_startOf_49 n_X1_boxIn l_BoxYard_Search_68 i_X1_boxIn e_X1_boxIn (ci := 1) rfl rfl (by decide) g14 rfl rfl (by decide) (by simp [y_ci, y_cj, y_p_cat]) (by decide) (k_X1_boxIn c8) ?_
          obtain ⟨g13, hf⟩ := y_g hf
          obtain ⟨r9, h10, c11, hf⟩ := y_clE hf
          refine y_callV (As := [y_p r6]) (rm := rm_X4_rankOf) (cells := 0) (slots := 0) (pc2 := 55) rfl dX6_startOf_52 n_X4_rankOf l_BoxYard_Search_72 i_X4_rankOf e_X4_rankOf (ci := 4) rfl rfl (by decide) g13 rfl rfl (by decide) (by decide) (by decide) (k_X4_rankOf c11) ?_
          refine y_istore (lv' := [(7, .int r9), (0, y_p v0_31), (1, y_p v1_31), (2, y_p v2_31), (3, .long v3_31), (5, .int v5_31), (6, .int v6_31)]) (pc2 := 57) rfl dX6_startOf_55 (by decide) rfl ?_
          refine y_iload (pc2 := 59) rfl dX6_startOf_57 rfl ?_
          refine y_if_lt (tgt := 70) (pc2 := 62) rfl dX6_startOf_59 (by decide) (fun c12 => ?_) (fun c12 => ?_)
          · replace hf := y_it c12 hf
            refine y_ldc2 (v := 6) (pc2 := 73) rfl dX6_startOf_70 k_BoxYard_Search_76 ?_
            refine y_lstore (lv' := [(8, .long 6), (7, .int r9), (0, y_p v0_31), (1, y_p v1_31), (2, y_p v2_31), (3, .long v3_31), (5, .int v5_31), (6, .int v6_31)]) (pc2 := 75) rfl dX6_startOf_73 (by decide) rfl ?_
            refine y_lload_n (pc2 := 76) rfl dX6_startOf_75 rfl ?_
            refine y_lload (pc2 := 78) rfl dX6_startOf_76 rfl ?_
            refine y_bipush (v := 15) (pc2 := 80) rfl dX6_startOf_78 (by decide) ?_
            refine y_iload (pc2 := 82) rfl dX6_startOf_80 rfl ?_
            refine y_imul (pc2 := 83) rfl dX6_startOf_82 ?_
            refine y_iconst (v := 3) (pc2 := 84) rfl dX6_startOf_83 (by decide) ?_
            refine y_iload (pc2 := 86) rfl dX6_startOf_84 rfl ?_
            refine y_imul (pc2 := 87) rfl dX6_startOf_86 ?_
            refine y_iadd (pc2 := 88) rfl dX6_startOf_87 ?_
            refine y_lshl (pc2 := 89) rfl dX6_startOf_88 ?_
            refine y_lor (pc2 := 90) rfl dX6_startOf_89 ?_
            refine y_lstore_n (lv' := [(3, .long (v3_31 ||| (6 <<< (Int32.toInt64 ((15 * v5_31) + (3 * v6_31)) &&& 63)))), (8, .long 6), (7, .int r9), (0, y_p v0_31), (1, y_p v1_31), (2, y_p v2_31), (5, .int v5_31), (6, .int v6_31)]) (pc2 := 91) rfl dX6_startOf_90 (by decide) (by show y_st2 _ 3 _ = _; simp [y_st2, y_p_cat, y_ci, y_cj]) ?_
            refine y_iinc (v := v6_31 + 1) (lv' := [(6, .int (v6_31 + 1)), (3, .long (v3_31 ||| (6 <<< (Int32.toInt64 ((15 * v5_31) + (3 * v6_31)) &&& 63)))), (8, .long 6), (7, .int r9), (0, y_p v0_31), (1, y_p v1_31), (2, y_p v2_31), (5, .int v5_31)]) (pc2 := 94) rfl dX6_startOf_91 rfl rfl (by decide) rfl ?_
            refine y_goto (tgt := 31) dX6_startOf_94 (by decide) ?_
            exact y_pk [4, 5, 6, 1, 7, 0] rfl (hj31 _ _ _ _ _ _ _ hf)
          · replace hf := y_ie c12 hf
            refine y_iload (pc2 := 64) rfl dX6_startOf_62 rfl ?_
            refine y_iconst (v := 1) (pc2 := 65) rfl dX6_startOf_64 (by decide) ?_
            refine y_iadd (pc2 := 66) rfl dX6_startOf_65 ?_
            refine y_i2l (pc2 := 67) rfl dX6_startOf_66 ?_
            refine y_goto (tgt := 73) dX6_startOf_67 (by decide) ?_
            refine y_lstore (lv' := [(8, .long (Int32.toInt64 (r9 + 1))), (7, .int r9), (0, y_p v0_31), (1, y_p v1_31), (2, y_p v2_31), (3, .long v3_31), (5, .int v5_31), (6, .int v6_31)]) (pc2 := 75) rfl dX6_startOf_73 (by decide) rfl ?_
            refine y_lload_n (pc2 := 76) rfl dX6_startOf_75 rfl ?_
            refine y_lload (pc2 := 78) rfl dX6_startOf_76 rfl ?_
            refine y_bipush (v := 15) (pc2 := 80) rfl dX6_startOf_78 (by decide) ?_
            refine y_iload (pc2 := 82) rfl dX6_startOf_80 rfl ?_
            refine y_imul (pc2 := 83) rfl dX6_startOf_82 ?_
            refine y_iconst (v := 3) (pc2 := 84) rfl dX6_startOf_83 (by decide) ?_
            refine y_iload (pc2 := 86) rfl dX6_startOf_84 rfl ?_
            refine y_imul (pc2 := 87) rfl dX6_startOf_86 ?_
            refine y_iadd (pc2 := 88) rfl dX6_startOf_87 ?_
            refine y_lshl (pc2 := 89) rfl dX6_startOf_88 ?_
            refine y_lor (pc2 := 90) rfl dX6_startOf_89 ?_
            refine y_lstore_n (lv' := [(3, .long (v3_31 ||| ((Int32.toInt64 (r9 + 1)) <<< (Int32.toInt64 ((15 * v5_31) + (3 * v6_31)) &&& 63)))), (8, .long (Int32.toInt64 (r9 + 1))), (7, .int r9), (0, y_p v0_31), (1, y_p v1_31), (2, y_p v2_31), (5, .int v5_31), (6, .int v6_31)]) (pc2 := 91) rfl dX6_startOf_90 (by decide) (by show y_st2 _ 3 _ = _; simp [y_st2, y_p_cat, y_ci, y_cj]) ?_
            refine y_iinc (v := v6_31 + 1) (lv' := [(6, .int (v6_31 + 1)), (3, .long (v3_31 ||| ((Int32.toInt64 (r9 + 1)) <<< (Int32.toInt64 ((15 * v5_31) + (3 * v6_31)) &&& 63)))), (8, .long (Int32.toInt64 (r9 + 1))), (7, .int r9), (0, y_p v0_31), (1, y_p v1_31), (2, y_p v2_31), (5, .int v5_31)]) (pc2 := 94) rfl dX6_startOf_91 rfl rfl (by decide) rfl ?_
            refine y_goto (tgt := 31) dX6_startOf_94 (by decide) ?_
            exact y_pk [4, 5, 6, 1, 7, 0] rfl (hj31 _ _ _ _ _ _ _ hf)
      · refine y_istore (lv' := [(6, .int 0), (0, y_p v0_5), (1, y_p v1_5), (2, y_p v2_5), (3, .long v3_5), (5, .int v5_5)]) (pc2 := 31) rfl dX6_startOf_29 (by decide) rfl ?_
        exact y_pk [1, 2, 3, 4, 5, 0] rfl (hj31 _ _ _ _ _ _ _ hf)
  · refine y_istore (lv' := [(5, .int 0), (3, .long 0), (0, y_p p0), (1, y_p p1), (2, y_p p2)]) (pc2 := 5) rfl dX6_startOf_3 (by decide) rfl ?_
    exact y_pk [2, 3, 4, 1, 0] rfl (hj5 _ _ _ _ _ _ hf)
theorem dX6_outOf_0 : decode cX6_outOf 0 = .ok (.lload_n 0, 1) := by decide +kernel
theorem dX6_outOf_1 : decode cX6_outOf 1 = .ok (.bipush 60, 2) := by decide +kernel
theorem dX6_outOf_3 : decode cX6_outOf 3 = .ok (.lushr, 1) := by decide +kernel
theorem dX6_outOf_4 : decode cX6_outOf 4 = .ok (.l2i, 1) := by decide +kernel
theorem dX6_outOf_5 : decode cX6_outOf 5 = .ok (.ireturn, 1) := by decide +kernel
def M_X6_outOf : y_M := (yX6_outOf, cX6_outOf, 2, (Option.some Jvm.ClassFile.FieldType.int))
theorem n_X6_outOf : y_N0 M_X6_outOf 1 := ⟨(c_6 17 (by decide +kernel) rfl), (c_1 15 (by decide +kernel) rfl), ⟨by decide +kernel, by decide +kernel⟩, by decide +kernel⟩
set_option maxRecDepth 100000 in
def f_X6_outOf (p0 : Int64) (h : y_H) : Option (Int32 × y_H) :=
  some (Int64.toInt32 (y_lush p0 60), h)
abbrev rm_X6_outOf : Room := { frames := 0, cells := 0, slots := 0, locals := 0 }
set_option maxRecDepth 100000 in
set_option maxHeartbeats 4000000 in
theorem k_X6_outOf {l : Launch} {G : y_G} {p0 : Int64} {h hz : y_H} {rz : Int32} (hf : f_X6_outOf p0 h = some (rz, hz)) : y_S l G M_X6_outOf rm_X6_outOf [.long p0] h (some (.int rz)) hz := by
  refine y_start (lv := [(0, .long p0)]) (by decide) (by simp [lg_sl, y_p_cat, y_ci, y_cj, M_X6_outOf]) (by simp [lv_args, y_p_cat, y_ci, y_cj]) (fun z ad0 => ?_)
  unfold f_X6_outOf at hf
  refine y_lload_n (pc2 := 1) rfl dX6_outOf_0 rfl ?_
  refine y_bipush (v := 60) (pc2 := 3) rfl dX6_outOf_1 (by decide) ?_
  refine y_lus (pc2 := 4) rfl dX6_outOf_3 ?_
  refine y_l2i (pc2 := 5) rfl dX6_outOf_4 ?_
  exact y_iretF hf dX6_outOf_5 rfl (by decide) (by decide)
theorem dX6_lowerBound_0 : decode cX6_lowerBound 0 = .ok (.aload_n 0, 1) := by decide +kernel
theorem dX6_lowerBound_1 : decode cX6_lowerBound 1 = .ok (.getfield 46, 3) := by decide +kernel
theorem dX6_lowerBound_4 : decode cX6_lowerBound 4 = .ok (.lload_n 1, 1) := by decide +kernel
theorem dX6_lowerBound_5 : decode cX6_lowerBound 5 = .ok (.invokestatic 112, 3) := by decide +kernel
theorem dX6_lowerBound_8 : decode cX6_lowerBound 8 = .ok (.isub, 1) := by decide +kernel
theorem dX6_lowerBound_9 : decode cX6_lowerBound 9 = .ok (.istore_n 3, 1) := by decide +kernel
theorem dX6_lowerBound_10 : decode cX6_lowerBound 10 = .ok (.iconst 0, 1) := by decide +kernel
theorem dX6_lowerBound_11 : decode cX6_lowerBound 11 = .ok (.istore 4, 2) := by decide +kernel
theorem dX6_lowerBound_13 : decode cX6_lowerBound 13 = .ok (.iload 4, 2) := by decide +kernel
theorem dX6_lowerBound_15 : decode cX6_lowerBound 15 = .ok (.aload_n 0, 1) := by decide +kernel
theorem dX6_lowerBound_16 : decode cX6_lowerBound 16 = .ok (.getfield 42, 3) := by decide +kernel
theorem dX6_lowerBound_19 : decode cX6_lowerBound 19 = .ok (.if_icmp .ge 84, 3) := by decide +kernel
theorem dX6_lowerBound_22 : decode cX6_lowerBound 22 = .ok (.lload_n 1, 1) := by decide +kernel
theorem dX6_lowerBound_23 : decode cX6_lowerBound 23 = .ok (.bipush 15, 2) := by decide +kernel
theorem dX6_lowerBound_25 : decode cX6_lowerBound 25 = .ok (.iload 4, 2) := by decide +kernel
theorem dX6_lowerBound_27 : decode cX6_lowerBound 27 = .ok (.imul, 1) := by decide +kernel
theorem dX6_lowerBound_28 : decode cX6_lowerBound 28 = .ok (.lushr, 1) := by decide +kernel
theorem dX6_lowerBound_29 : decode cX6_lowerBound 29 = .ok (.l2i, 1) := by decide +kernel
theorem dX6_lowerBound_30 : decode cX6_lowerBound 30 = .ok (.sipush 32767, 3) := by decide +kernel
theorem dX6_lowerBound_33 : decode cX6_lowerBound 33 = .ok (.iand, 1) := by decide +kernel
theorem dX6_lowerBound_34 : decode cX6_lowerBound 34 = .ok (.istore 5, 2) := by decide +kernel
theorem dX6_lowerBound_36 : decode cX6_lowerBound 36 = .ok (.bipush 6, 2) := by decide +kernel
theorem dX6_lowerBound_38 : decode cX6_lowerBound 38 = .ok (.istore 6, 2) := by decide +kernel
theorem dX6_lowerBound_40 : decode cX6_lowerBound 40 = .ok (.iconst 0, 1) := by decide +kernel
theorem dX6_lowerBound_41 : decode cX6_lowerBound 41 = .ok (.istore 7, 2) := by decide +kernel
theorem dX6_lowerBound_43 : decode cX6_lowerBound 43 = .ok (.iload 7, 2) := by decide +kernel
theorem dX6_lowerBound_45 : decode cX6_lowerBound 45 = .ok (.iconst 5, 1) := by decide +kernel
theorem dX6_lowerBound_46 : decode cX6_lowerBound 46 = .ok (.if_icmp .ge 51, 3) := by decide +kernel
theorem dX6_lowerBound_49 : decode cX6_lowerBound 49 = .ok (.iload 5, 2) := by decide +kernel
theorem dX6_lowerBound_51 : decode cX6_lowerBound 51 = .ok (.ifCond .eq 46, 3) := by decide +kernel
theorem dX6_lowerBound_54 : decode cX6_lowerBound 54 = .ok (.iload 5, 2) := by decide +kernel
theorem dX6_lowerBound_56 : decode cX6_lowerBound 56 = .ok (.bipush 7, 2) := by decide +kernel
theorem dX6_lowerBound_58 : decode cX6_lowerBound 58 = .ok (.iand, 1) := by decide +kernel
theorem dX6_lowerBound_59 : decode cX6_lowerBound 59 = .ok (.istore 8, 2) := by decide +kernel
theorem dX6_lowerBound_61 : decode cX6_lowerBound 61 = .ok (.iload_n 3, 1) := by decide +kernel
theorem dX6_lowerBound_62 : decode cX6_lowerBound 62 = .ok (.iload 8, 2) := by decide +kernel
theorem dX6_lowerBound_64 : decode cX6_lowerBound 64 = .ok (.iload 6, 2) := by decide +kernel
theorem dX6_lowerBound_66 : decode cX6_lowerBound 66 = .ok (.if_icmp .le 7, 3) := by decide +kernel
theorem dX6_lowerBound_69 : decode cX6_lowerBound 69 = .ok (.iconst 1, 1) := by decide +kernel
theorem dX6_lowerBound_70 : decode cX6_lowerBound 70 = .ok (.goto 4, 3) := by decide +kernel
theorem dX6_lowerBound_73 : decode cX6_lowerBound 73 = .ok (.iconst 0, 1) := by decide +kernel
theorem dX6_lowerBound_74 : decode cX6_lowerBound 74 = .ok (.iadd, 1) := by decide +kernel
theorem dX6_lowerBound_75 : decode cX6_lowerBound 75 = .ok (.istore_n 3, 1) := by decide +kernel
theorem dX6_lowerBound_76 : decode cX6_lowerBound 76 = .ok (.iload 6, 2) := by decide +kernel
theorem dX6_lowerBound_78 : decode cX6_lowerBound 78 = .ok (.iload 8, 2) := by decide +kernel
theorem dX6_lowerBound_80 : decode cX6_lowerBound 80 = .ok (.invokestatic 36, 3) := by decide +kernel
theorem dX6_lowerBound_83 : decode cX6_lowerBound 83 = .ok (.istore 6, 2) := by decide +kernel
theorem dX6_lowerBound_85 : decode cX6_lowerBound 85 = .ok (.iload 5, 2) := by decide +kernel
theorem dX6_lowerBound_87 : decode cX6_lowerBound 87 = .ok (.iconst 3, 1) := by decide +kernel
theorem dX6_lowerBound_88 : decode cX6_lowerBound 88 = .ok (.iushr, 1) := by decide +kernel
theorem dX6_lowerBound_89 : decode cX6_lowerBound 89 = .ok (.istore 5, 2) := by decide +kernel
theorem dX6_lowerBound_91 : decode cX6_lowerBound 91 = .ok (.iinc 7 1, 3) := by decide +kernel
theorem dX6_lowerBound_94 : decode cX6_lowerBound 94 = .ok (.goto (-51), 3) := by decide +kernel
theorem dX6_lowerBound_97 : decode cX6_lowerBound 97 = .ok (.iinc 4 1, 3) := by decide +kernel
theorem dX6_lowerBound_100 : decode cX6_lowerBound 100 = .ok (.goto (-87), 3) := by decide +kernel
theorem dX6_lowerBound_103 : decode cX6_lowerBound 103 = .ok (.iload_n 3, 1) := by decide +kernel
theorem dX6_lowerBound_104 : decode cX6_lowerBound 104 = .ok (.ireturn, 1) := by decide +kernel
def M_X6_lowerBound : y_M := (yX6_lowerBound, cX6_lowerBound, 9, (Option.some Jvm.ClassFile.FieldType.int))
theorem n_X6_lowerBound : y_N0 M_X6_lowerBound 1 := ⟨(c_6 14 (by decide +kernel) rfl), (c_1 15 (by decide +kernel) rfl), ⟨by decide +kernel, by decide +kernel⟩, by decide +kernel⟩
theorem F_BoxYard_Search_46 : y_F "BoxYard$Search" 46 6 3 := ⟨_, _, _, rfl, by decide, Or.inl (c_5 206 (by decide +kernel) rfl)⟩
theorem l_BoxYard_Search_112 : y_lnk "BoxYard$Search" 112 M_X6_outOf := Or.inl (c_6 15 (by decide +kernel) rfl)
theorem t_X6_outOf : Cond.static (M_X6_outOf).1 ∈ y_tb := (c_6 16 (by decide +kernel) rfl)
theorem l_BoxYard_Search_36 : Cond.methodLink "BoxYard$Search" 36 Lib.Math.min.name ∈ y_tb := (c_5 239 (by decide +kernel) rfl)
set_option maxRecDepth 100000 in
def f_X6_lowerBound (p0 : Nat) (p1 : Int64) (h : y_H) : Option (Int32 × y_H) :=
  if y_K h p0 = 7 then
  y_cl (f_X6_outOf p1 h) (fun r1 h2 =>
  y_jl (fun (_ : Nat) (_ : Int64) (_ : Int32) (_ : Int32) (_ : y_H) => (none : Option (Int32 × y_H))) (fun j13 (v0_13 : Nat) (v1_13 : Int64) (v3_13 : Int32) (v4_13 : Int32) (h4 : y_H) =>
      if y_K h4 v0_13 = 7 then
      if (y_I h4 v0_13 2) ≤ v4_13 then
        some (v3_13, h4)
      else
        y_jl (fun (_ : Nat) (_ : Int64) (_ : Int32) (_ : Int32) (_ : Int32) (_ : Int32) (_ : Int32) (_ : y_H) => (none : Option (Int32 × y_H))) (fun j43 (v0_43 : Nat) (v1_43 : Int64) (v3_43 : Int32) (v4_43 : Int32) (v5_43 : Int32) (v6_43 : Int32) (v7_43 : Int32) (h5 : y_H) =>
            y_jn (fun (v0_97 : Nat) (v1_97 : Int64) (v3_97 : Int32) (v4_97 : Int32) (h6 : y_H) => (
                j13 v0_97 v1_97 v3_97 (v4_97 + 1) h6 : Option (Int32 × y_H))) (fun j97 =>
            if 5 ≤ v7_43 then
              j97 v0_43 v1_43 v3_43 v4_43 h5
            else
              if v5_43 = 0 then
                j97 v0_43 v1_43 v3_43 v4_43 h5
              else
                if (v5_43 &&& 7) ≤ v6_43 then
                  j43 v0_43 v1_43 (v3_43 + 0) v4_43 (y_ush v5_43 3) (y_mn v6_43 (v5_43 &&& 7)) (v7_43 + 1) h5
                else
                  j43 v0_43 v1_43 (v3_43 + 1) v4_43 (y_ush v5_43 3) (y_mn v6_43 (v5_43 &&& 7)) (v7_43 + 1) h5)) (fun j43 =>
        j43 v0_13 v1_13 v3_13 v4_13 ((Int64.toInt32 (y_lush v1_13 (15 * v4_13))) &&& 32767) 6 0 h4)
      else none) (fun j13 =>
  j13 p0 p1 ((y_I h p0 3) - r1) 0 h2))
  else none
abbrev rm_X6_lowerBound : Room := { frames := 1, cells := 0, slots := 0, locals := 21 }
set_option maxRecDepth 100000 in
set_option maxHeartbeats 4000000 in
theorem k_X6_lowerBound {l : Launch} {G : y_G} {p0 : Nat} {p1 : Int64} {h hz : y_H} {rz : Int32} (hf : f_X6_lowerBound p0 p1 h = some (rz, hz)) : y_S l G M_X6_lowerBound rm_X6_lowerBound [y_p p0, .long p1] h (some (.int rz)) hz := by
  refine y_start (lv := [(0, y_p p0), (1, .long p1)]) (by decide) (by simp [lg_sl, y_p_cat, y_ci, y_cj, M_X6_lowerBound]) (by simp [lv_args, y_p_cat, y_ci, y_cj]) (fun z ad0 => ?_)
  unfold f_X6_lowerBound at hf
  refine y_aload_n (x := p0) (pc2 := 1) rfl dX6_lowerBound_0 rfl ?_
  obtain ⟨g12, hf⟩ := y_g hf
  refine y_getI (pc2 := 4) rfl dX6_lowerBound_1 F_BoxYard_Search_46 (by decide) rfl g12 ?_
  refine y_lload_n (pc2 := 5) rfl dX6_lowerBound_4 rfl ?_
  obtain ⟨r1, h2, c3, hf⟩ := y_clE hf
  refine y_callS (As := [.long p1]) (rm := rm_X6_outOf) (cells := 0) (slots := 0) (pc2 := 8) rfl dX6_lowerBound_5 n_X6_outOf l_BoxYard_Search_112 t_X6_outOf rfl rfl (by decide) (by simp [y_ci, y_cj, y_p_cat]) (by decide) (k_X6_outOf c3) ?_
  refine y_isub (pc2 := 9) rfl dX6_lowerBound_8 ?_
  refine y_istore_n (lv' := [(3, .int ((y_I h p0 3) - r1)), (0, y_p p0), (1, .long p1)]) (pc2 := 10) rfl dX6_lowerBound_9 (by decide) rfl ?_
  refine y_iconst (v := 0) (pc2 := 11) rfl dX6_lowerBound_10 (by decide) ?_
  refine y_jlE hf (fun j => ∀ (v0_13 : Nat) (v1_13 : Int64) (v3_13 : Int32) (v4_13 : Int32) (h4 : y_H), j v0_13 v1_13 v3_13 v4_13 h4 = some (rz, hz) → y_V l G z rm_X6_lowerBound M_X6_lowerBound ad0 h (some (.int rz)) hz 13 [(0, y_p v0_13), (1, .long v1_13), (3, .int v3_13), (4, .int v4_13)] [] h4 0 0) (fun _ _ _ _ _ hf => by cases hf) (fun j13 hj13 v0_13 v1_13 v3_13 v4_13 h4 hf => ?_) (fun j13 hj13 hf => ?_)
  · refine y_iload (pc2 := 15) rfl dX6_lowerBound_13 rfl ?_
    refine y_aload_n (x := v0_13) (pc2 := 16) rfl dX6_lowerBound_15 rfl ?_
    obtain ⟨g11, hf⟩ := y_g hf
    refine y_getI (pc2 := 19) rfl dX6_lowerBound_16 F_BoxYard_Search_42 (by decide) rfl g11 ?_
    refine y_icmp_ge (tgt := 103) (pc2 := 22) rfl dX6_lowerBound_19 (by decide) (fun c10 => ?_) (fun c10 => ?_)
    · replace hf := y_it c10 hf
      refine y_iload_n (pc2 := 104) rfl dX6_lowerBound_103 rfl ?_
      exact y_iretF hf dX6_lowerBound_104 rfl (by decide) (by decide)
    · replace hf := y_ie c10 hf
      refine y_lload_n (pc2 := 23) rfl dX6_lowerBound_22 rfl ?_
      refine y_bipush (v := 15) (pc2 := 25) rfl dX6_lowerBound_23 (by decide) ?_
      refine y_iload (pc2 := 27) rfl dX6_lowerBound_25 rfl ?_
      refine y_imul (pc2 := 28) rfl dX6_lowerBound_27 ?_
      refine y_lus (pc2 := 29) rfl dX6_lowerBound_28 ?_
      refine y_l2i (pc2 := 30) rfl dX6_lowerBound_29 ?_
      refine y_sipush (v := 32767) (pc2 := 33) rfl dX6_lowerBound_30 (by decide) ?_
      refine y_iand (pc2 := 34) rfl dX6_lowerBound_33 ?_
      refine y_istore (lv' := [(5, .int ((Int64.toInt32 (y_lush v1_13 (15 * v4_13))) &&& 32767)), (0, y_p v0_13), (1, .long v1_13), (3, .int v3_13), (4, .int v4_13)]) (pc2 := 36) rfl dX6_lowerBound_34 (by decide) rfl ?_
      refine y_bipush (v := 6) (pc2 := 38) rfl dX6_lowerBound_36 (by decide) ?_
      refine y_istore (lv' := [(6, .int 6), (5, .int ((Int64.toInt32 (y_lush v1_13 (15 * v4_13))) &&& 32767)), (0, y_p v0_13), (1, .long v1_13), (3, .int v3_13), (4, .int v4_13)]) (pc2 := 40) rfl dX6_lowerBound_38 (by decide) rfl ?_
      refine y_iconst (v := 0) (pc2 := 41) rfl dX6_lowerBound_40 (by decide) ?_
      refine y_jlE hf (fun j => ∀ (v0_43 : Nat) (v1_43 : Int64) (v3_43 : Int32) (v4_43 : Int32) (v5_43 : Int32) (v6_43 : Int32) (v7_43 : Int32) (h5 : y_H), j v0_43 v1_43 v3_43 v4_43 v5_43 v6_43 v7_43 h5 = some (rz, hz) → y_V l G z rm_X6_lowerBound M_X6_lowerBound ad0 h (some (.int rz)) hz 43 [(0, y_p v0_43), (1, .long v1_43), (3, .int v3_43), (4, .int v4_43), (5, .int v5_43), (6, .int v6_43), (7, .int v7_43)] [] h5 0 0) (fun _ _ _ _ _ _ _ _ hf => by cases hf) (fun j43 hj43 v0_43 v1_43 v3_43 v4_43 v5_43 v6_43 v7_43 h5 hf => ?_) (fun j43 hj43 hf => ?_)
      · refine y_iload (pc2 := 45) rfl dX6_lowerBound_43 rfl ?_
        refine y_iconst (v := 5) (pc2 := 46) rfl dX6_lowerBound_45 (by decide) ?_
        refine y_jnE hf (fun j => ∀ (v0_97 : Nat) (v1_97 : Int64) (v3_97 : Int32) (v4_97 : Int32) (h6 : y_H), j v0_97 v1_97 v3_97 v4_97 h6 = some (rz, hz) → y_V l G z rm_X6_lowerBound M_X6_lowerBound ad0 h (some (.int rz)) hz 97 [(0, y_p v0_97), (1, .long v1_97), (3, .int v3_97), (4, .int v4_97)] [] h6 0 0) (fun v0_97 v1_97 v3_97 v4_97 h6 hf => ?_) (fun j97 hj97 hf => ?_)
        · refine y_iinc (v := v4_97 + 1) (lv' := [(4, .int (v4_97 + 1)), (0, y_p v0_97), (1, .long v1_97), (3, .int v3_97)]) (pc2 := 100) rfl dX6_lowerBound_97 rfl rfl (by decide) rfl ?_
          refine y_goto (tgt := 13) dX6_lowerBound_100 (by decide) ?_
          exact y_pk [1, 2, 3, 0] rfl (hj13 _ _ _ _ _ hf)
        · refine y_icmp_ge (tgt := 97) (pc2 := 49) rfl dX6_lowerBound_46 (by decide) (fun c9 => ?_) (fun c9 => ?_)
          · replace hf := y_it c9 hf
            exact y_pk [0, 1, 2, 3] rfl (hj97 _ _ _ _ _ hf)
          · replace hf := y_ie c9 hf
            refine y_iload (pc2 := 51) rfl dX6_lowerBound_49 rfl ?_
            refine y_if_eq (tgt := 97) (pc2 := 54) rfl dX6_lowerBound_51 (by decide) (fun c8 => ?_) (fun c8 => ?_)
            · replace hf := y_it c8 hf
              exact y_pk [0, 1, 2, 3] rfl (hj97 _ _ _ _ _ hf)
            · replace hf := y_ie c8 hf
              refine y_iload (pc2 := 56) rfl dX6_lowerBound_54 rfl ?_
              refine y_bipush (v := 7) (pc2 := 58) rfl dX6_lowerBound_56 (by decide) ?_
              refine y_iand (pc2 := 59) rfl dX6_lowerBound_58 ?_
              refine y_istore (lv' := [(8, .int (v5_43 &&& 7)), (0, y_p v0_43), (1, .long v1_43), (3, .int v3_43), (4, .int v4_43), (5, .int v5_43), (6, .int v6_43), (7, .int v7_43)]) (pc2 := 61) rfl dX6_lowerBound_59 (by decide) rfl ?_
              refine y_iload_n (pc2 := 62) rfl dX6_lowerBound_61 rfl ?_
              refine y_iload (pc2 := 64) rfl dX6_lowerBound_62 rfl ?_
              refine y_iload (pc2 := 66) rfl dX6_lowerBound_64 rfl ?_
              refine y_icmp_le (tgt := 73) (pc2 := 69) rfl dX6_lowerBound_66 (by decide) (fun c7 => ?_) (fun c7 => ?_)
              · replace hf := y_it c7 hf
                refine y_iconst (v := 0) (pc2 := 74) rfl dX6_lowerBound_73 (by decide) ?_
                refine y_iadd (pc2 := 75) rfl dX6_lowerBound_74 ?_
                refine y_istore_n (lv' := [(3, .int (v3_43 + 0)), (8, .int (v5_43 &&& 7)), (0, y_p v0_43), (1, .long v1_43), (4, .int v4_43), (5, .int v5_43), (6, .int v6_43), (7, .int v7_43)]) (pc2 := 76) rfl dX6_lowerBound_75 (by decide) rfl ?_
                refine y_iload (pc2 := 78) rfl dX6_lowerBound_76 rfl ?_
                refine y_iload (pc2 := 80) rfl dX6_lowerBound_78 rfl ?_
                refine y_mmn (pc2 := 83) rfl dX6_lowerBound_80 l_BoxYard_Search_36 (by decide) (by decide) (by decide) (by decide) (by decide) ?_
                refine y_istore (lv' := [(6, .int (y_mn v6_43 (v5_43 &&& 7))), (3, .int (v3_43 + 0)), (8, .int (v5_43 &&& 7)), (0, y_p v0_43), (1, .long v1_43), (4, .int v4_43), (5, .int v5_43), (7, .int v7_43)]) (pc2 := 85) rfl dX6_lowerBound_83 (by decide) rfl ?_
                refine y_iload (pc2 := 87) rfl dX6_lowerBound_85 rfl ?_
                refine y_iconst (v := 3) (pc2 := 88) rfl dX6_lowerBound_87 (by decide) ?_
                refine y_us (pc2 := 89) rfl dX6_lowerBound_88 ?_
                refine y_istore (lv' := [(5, .int (y_ush v5_43 3)), (6, .int (y_mn v6_43 (v5_43 &&& 7))), (3, .int (v3_43 + 0)), (8, .int (v5_43 &&& 7)), (0, y_p v0_43), (1, .long v1_43), (4, .int v4_43), (7, .int v7_43)]) (pc2 := 91) rfl dX6_lowerBound_89 (by decide) rfl ?_
                refine y_iinc (v := v7_43 + 1) (lv' := [(7, .int (v7_43 + 1)), (5, .int (y_ush v5_43 3)), (6, .int (y_mn v6_43 (v5_43 &&& 7))), (3, .int (v3_43 + 0)), (8, .int (v5_43 &&& 7)), (0, y_p v0_43), (1, .long v1_43), (4, .int v4_43)]) (pc2 := 94) rfl dX6_lowerBound_91 rfl rfl (by decide) rfl ?_
                refine y_goto (tgt := 43) dX6_lowerBound_94 (by decide) ?_
                exact y_pk [5, 6, 3, 7, 1, 2, 0] rfl (hj43 _ _ _ _ _ _ _ _ hf)
              · replace hf := y_ie c7 hf
                refine y_iconst (v := 1) (pc2 := 70) rfl dX6_lowerBound_69 (by decide) ?_
                refine y_goto (tgt := 74) dX6_lowerBound_70 (by decide) ?_
                refine y_iadd (pc2 := 75) rfl dX6_lowerBound_74 ?_
                refine y_istore_n (lv' := [(3, .int (v3_43 + 1)), (8, .int (v5_43 &&& 7)), (0, y_p v0_43), (1, .long v1_43), (4, .int v4_43), (5, .int v5_43), (6, .int v6_43), (7, .int v7_43)]) (pc2 := 76) rfl dX6_lowerBound_75 (by decide) rfl ?_
                refine y_iload (pc2 := 78) rfl dX6_lowerBound_76 rfl ?_
                refine y_iload (pc2 := 80) rfl dX6_lowerBound_78 rfl ?_
                refine y_mmn (pc2 := 83) rfl dX6_lowerBound_80 l_BoxYard_Search_36 (by decide) (by decide) (by decide) (by decide) (by decide) ?_
                refine y_istore (lv' := [(6, .int (y_mn v6_43 (v5_43 &&& 7))), (3, .int (v3_43 + 1)), (8, .int (v5_43 &&& 7)), (0, y_p v0_43), (1, .long v1_43), (4, .int v4_43), (5, .int v5_43), (7, .int v7_43)]) (pc2 := 85) rfl dX6_lowerBound_83 (by decide) rfl ?_
                refine y_iload (pc2 := 87) rfl dX6_lowerBound_85 rfl ?_
                refine y_iconst (v := 3) (pc2 := 88) rfl dX6_lowerBound_87 (by decide) ?_
                refine y_us (pc2 := 89) rfl dX6_lowerBound_88 ?_
                refine y_istore (lv' := [(5, .int (y_ush v5_43 3)), (6, .int (y_mn v6_43 (v5_43 &&& 7))), (3, .int (v3_43 + 1)), (8, .int (v5_43 &&& 7)), (0, y_p v0_43), (1, .long v1_43), (4, .int v4_43), (7, .int v7_43)]) (pc2 := 91) rfl dX6_lowerBound_89 (by decide) rfl ?_
                refine y_iinc (v := v7_43 + 1) (lv' := [(7, .int (v7_43 + 1)), (5, .int (y_ush v5_43 3)), (6, .int (y_mn v6_43 (v5_43 &&& 7))), (3, .int (v3_43 + 1)), (8, .int (v5_43 &&& 7)), (0, y_p v0_43), (1, .long v1_43), (4, .int v4_43)]) (pc2 := 94) rfl dX6_lowerBound_91 rfl rfl (by decide) rfl ?_
                refine y_goto (tgt := 43) dX6_lowerBound_94 (by decide) ?_
                exact y_pk [5, 6, 3, 7, 1, 2, 0] rfl (hj43 _ _ _ _ _ _ _ _ hf)
      · refine y_istore (lv' := [(7, .int 0), (6, .int 6), (5, .int ((Int64.toInt32 (y_lush v1_13 (15 * v4_13))) &&& 32767)), (0, y_p v0_13), (1, .long v1_13), (3, .int v3_13), (4, .int v4_13)]) (pc2 := 43) rfl dX6_lowerBound_41 (by decide) rfl ?_
        exact y_pk [3, 4, 5, 6, 2, 1, 0] rfl (hj43 _ _ _ _ _ _ _ _ hf)
  · refine y_istore (lv' := [(4, .int 0), (3, .int ((y_I h p0 3) - r1)), (0, y_p p0), (1, .long p1)]) (pc2 := 13) rfl dX6_lowerBound_11 (by decide) rfl ?_
    exact y_pk [2, 3, 1, 0] rfl (hj13 _ _ _ _ _ hf)
theorem dJ7_fill_53178_0 : decode cJ7_fill_53178 0 = .ok (.iconst 0, 1) := by decide +kernel
theorem dJ7_fill_53178_1 : decode cJ7_fill_53178 1 = .ok (.istore_n 2, 1) := by decide +kernel
theorem dJ7_fill_53178_2 : decode cJ7_fill_53178 2 = .ok (.aload_n 0, 1) := by decide +kernel
theorem dJ7_fill_53178_3 : decode cJ7_fill_53178 3 = .ok (.arraylength, 1) := by decide +kernel
theorem dJ7_fill_53178_4 : decode cJ7_fill_53178 4 = .ok (.istore_n 3, 1) := by decide +kernel
theorem dJ7_fill_53178_5 : decode cJ7_fill_53178 5 = .ok (.iload_n 2, 1) := by decide +kernel
theorem dJ7_fill_53178_6 : decode cJ7_fill_53178 6 = .ok (.iload_n 3, 1) := by decide +kernel
theorem dJ7_fill_53178_7 : decode cJ7_fill_53178 7 = .ok (.if_icmp .ge 13, 3) := by decide +kernel
theorem dJ7_fill_53178_10 : decode cJ7_fill_53178 10 = .ok (.aload_n 0, 1) := by decide +kernel
theorem dJ7_fill_53178_11 : decode cJ7_fill_53178 11 = .ok (.iload_n 2, 1) := by decide +kernel
theorem dJ7_fill_53178_12 : decode cJ7_fill_53178 12 = .ok (.iload_n 1, 1) := by decide +kernel
theorem dJ7_fill_53178_13 : decode cJ7_fill_53178 13 = .ok (.iastore, 1) := by decide +kernel
theorem dJ7_fill_53178_14 : decode cJ7_fill_53178 14 = .ok (.iinc 2 1, 3) := by decide +kernel
theorem dJ7_fill_53178_17 : decode cJ7_fill_53178 17 = .ok (.goto (-12), 3) := by decide +kernel
theorem dJ7_fill_53178_20 : decode cJ7_fill_53178 20 = .ok (.return_, 1) := by decide +kernel
def M_J7_fill_53178 : y_M := (yJ7_fill_53178, cJ7_fill_53178, 4, (Option.none : Option Jvm.ClassFile.FieldType))
theorem n_J7_fill_53178 : y_N0 M_J7_fill_53178 2 := ⟨(c_1 56 (by decide +kernel) rfl), (c_1 4 (by decide +kernel) rfl), ⟨by decide +kernel, by decide +kernel⟩, by decide +kernel⟩
set_option maxRecDepth 100000 in
def f_J7_fill_53178 (p0 : Nat) (p1 : Int32) (h : y_H) : Option (Unit × y_H) :=
  if y_K h p0 = 100 then
  y_jl (fun (_ : Nat) (_ : Int32) (_ : Int32) (_ : Int32) (_ : y_H) => (none : Option (Unit × y_H))) (fun j5 (v0_5 : Nat) (v1_5 : Int32) (v2_5 : Int32) (v3_5 : Int32) (h1 : y_H) =>
      if v3_5 ≤ v2_5 then
        some ((), h1)
      else
        if y_K h1 v0_5 = 100 ∧ y_ix v2_5 (y_N h1 v0_5) = true then
        y_bd (s_I h1 v0_5 (Int32.toNatClampNeg v2_5) v1_5) (fun h2 =>
        j5 v0_5 v1_5 (v2_5 + 1) v3_5 h2)
        else none) (fun j5 =>
  j5 p0 p1 0 (nI (y_N h p0)) h)
  else none
abbrev rm_J7_fill_53178 : Room := { frames := 0, cells := 0, slots := 0, locals := 0 }
set_option maxRecDepth 100000 in
set_option maxHeartbeats 4000000 in
theorem k_J7_fill_53178 {l : Launch} {G : y_G} {p0 : Nat} {p1 : Int32} {h hz : y_H} {rz : Unit} (hf : f_J7_fill_53178 p0 p1 h = some (rz, hz)) : y_S l G M_J7_fill_53178 rm_J7_fill_53178 [y_p p0, .int p1] h none hz := by
  refine y_start (lv := [(0, y_p p0), (1, .int p1)]) (by decide) (by simp [lg_sl, y_p_cat, y_ci, y_cj, M_J7_fill_53178]) (by simp [lv_args, y_p_cat, y_ci, y_cj]) (fun z ad0 => ?_)
  unfold f_J7_fill_53178 at hf
  refine y_iconst (v := 0) (pc2 := 1) rfl dJ7_fill_53178_0 (by decide) ?_
  refine y_istore_n (lv' := [(2, .int 0), (0, y_p p0), (1, .int p1)]) (pc2 := 2) rfl dJ7_fill_53178_1 (by decide) rfl ?_
  refine y_aload_n (x := p0) (pc2 := 3) rfl dJ7_fill_53178_2 rfl ?_
  obtain ⟨g6, hf⟩ := y_g hf
  refine y_alen (t := 0) (pc2 := 4) rfl dJ7_fill_53178_3 (by decide) g6 ?_
  refine y_jlE hf (fun j => ∀ (v0_5 : Nat) (v1_5 : Int32) (v2_5 : Int32) (v3_5 : Int32) (h1 : y_H), j v0_5 v1_5 v2_5 v3_5 h1 = some (rz, hz) → y_V l G z rm_J7_fill_53178 M_J7_fill_53178 ad0 h none hz 5 [(0, y_p v0_5), (1, .int v1_5), (2, .int v2_5), (3, .int v3_5)] [] h1 0 0) (fun _ _ _ _ _ hf => by cases hf) (fun j5 hj5 v0_5 v1_5 v2_5 v3_5 h1 hf => ?_) (fun j5 hj5 hf => ?_)
  · refine y_iload_n (pc2 := 6) rfl dJ7_fill_53178_5 rfl ?_
    refine y_iload_n (pc2 := 7) rfl dJ7_fill_53178_6 rfl ?_
    refine y_icmp_ge (tgt := 20) (pc2 := 10) rfl dJ7_fill_53178_7 (by decide) (fun c5 => ?_) (fun c5 => ?_)
    · replace hf := y_it c5 hf
      exact y_vretF hf dJ7_fill_53178_20 rfl (by decide) (by decide)
    · replace hf := y_ie c5 hf
      refine y_aload_n (x := v0_5) (pc2 := 11) rfl dJ7_fill_53178_10 rfl ?_
      refine y_iload_n (pc2 := 12) rfl dJ7_fill_53178_11 rfl ?_
      refine y_iload_n (pc2 := 13) rfl dJ7_fill_53178_12 rfl ?_
      obtain ⟨g4, hf⟩ := y_g hf
      obtain ⟨h2, e3, hf⟩ := y_bdE hf
      refine y_iast (x := v1_5) (pc2 := 14) rfl dJ7_fill_53178_13 g4.1 (y_ix_in g4.2) e3 ?_
      refine y_iinc (v := v2_5 + 1) (lv' := [(2, .int (v2_5 + 1)), (0, y_p v0_5), (1, .int v1_5), (3, .int v3_5)]) (pc2 := 17) rfl dJ7_fill_53178_14 rfl rfl (by decide) rfl ?_
      refine y_goto (tgt := 5) dJ7_fill_53178_17 (by decide) ?_
      exact y_pk [1, 2, 0, 3] rfl (hj5 _ _ _ _ _ hf)
  · refine y_istore_n (lv' := [(3, .int (nI (y_N h p0))), (2, .int 0), (0, y_p p0), (1, .int p1)]) (pc2 := 5) rfl dJ7_fill_53178_4 (by decide) rfl ?_
    exact y_pk [2, 3, 1, 0] rfl (hj5 _ _ _ _ _ hf)
theorem dX6_slotOf_0 : decode cX6_slotOf 0 = .ok (.aload_n 0, 1) := by decide +kernel
theorem dX6_slotOf_1 : decode cX6_slotOf 1 = .ok (.getfield 27, 3) := by decide +kernel
theorem dX6_slotOf_4 : decode cX6_slotOf 4 = .ok (.arraylength, 1) := by decide +kernel
theorem dX6_slotOf_5 : decode cX6_slotOf 5 = .ok (.iconst 1, 1) := by decide +kernel
theorem dX6_slotOf_6 : decode cX6_slotOf 6 = .ok (.isub, 1) := by decide +kernel
theorem dX6_slotOf_7 : decode cX6_slotOf 7 = .ok (.istore_n 3, 1) := by decide +kernel
theorem dX6_slotOf_8 : decode cX6_slotOf 8 = .ok (.lload_n 1, 1) := by decide +kernel
theorem dX6_slotOf_9 : decode cX6_slotOf 9 = .ok (.ldc2_w 121, 3) := by decide +kernel
theorem dX6_slotOf_12 : decode cX6_slotOf 12 = .ok (.lmul, 1) := by decide +kernel
theorem dX6_slotOf_13 : decode cX6_slotOf 13 = .ok (.bipush 40, 2) := by decide +kernel
theorem dX6_slotOf_15 : decode cX6_slotOf 15 = .ok (.lushr, 1) := by decide +kernel
theorem dX6_slotOf_16 : decode cX6_slotOf 16 = .ok (.l2i, 1) := by decide +kernel
theorem dX6_slotOf_17 : decode cX6_slotOf 17 = .ok (.iload_n 3, 1) := by decide +kernel
theorem dX6_slotOf_18 : decode cX6_slotOf 18 = .ok (.iand, 1) := by decide +kernel
theorem dX6_slotOf_19 : decode cX6_slotOf 19 = .ok (.istore 4, 2) := by decide +kernel
theorem dX6_slotOf_21 : decode cX6_slotOf 21 = .ok (.iconst 0, 1) := by decide +kernel
theorem dX6_slotOf_22 : decode cX6_slotOf 22 = .ok (.istore 5, 2) := by decide +kernel
theorem dX6_slotOf_24 : decode cX6_slotOf 24 = .ok (.iload 5, 2) := by decide +kernel
theorem dX6_slotOf_26 : decode cX6_slotOf 26 = .ok (.iload_n 3, 1) := by decide +kernel
theorem dX6_slotOf_27 : decode cX6_slotOf 27 = .ok (.if_icmp .ge 48, 3) := by decide +kernel
theorem dX6_slotOf_30 : decode cX6_slotOf 30 = .ok (.aload_n 0, 1) := by decide +kernel
theorem dX6_slotOf_31 : decode cX6_slotOf 31 = .ok (.getfield 27, 3) := by decide +kernel
theorem dX6_slotOf_34 : decode cX6_slotOf 34 = .ok (.iload 4, 2) := by decide +kernel
theorem dX6_slotOf_36 : decode cX6_slotOf 36 = .ok (.iaload, 1) := by decide +kernel
theorem dX6_slotOf_37 : decode cX6_slotOf 37 = .ok (.istore 6, 2) := by decide +kernel
theorem dX6_slotOf_39 : decode cX6_slotOf 39 = .ok (.iload 6, 2) := by decide +kernel
theorem dX6_slotOf_41 : decode cX6_slotOf 41 = .ok (.ifCond .eq 17, 3) := by decide +kernel
theorem dX6_slotOf_44 : decode cX6_slotOf 44 = .ok (.aload_n 0, 1) := by decide +kernel
theorem dX6_slotOf_45 : decode cX6_slotOf 45 = .ok (.getfield 20, 3) := by decide +kernel
theorem dX6_slotOf_48 : decode cX6_slotOf 48 = .ok (.iload 6, 2) := by decide +kernel
theorem dX6_slotOf_50 : decode cX6_slotOf 50 = .ok (.iconst 1, 1) := by decide +kernel
theorem dX6_slotOf_51 : decode cX6_slotOf 51 = .ok (.isub, 1) := by decide +kernel
theorem dX6_slotOf_52 : decode cX6_slotOf 52 = .ok (.laload, 1) := by decide +kernel
theorem dX6_slotOf_53 : decode cX6_slotOf 53 = .ok (.lload_n 1, 1) := by decide +kernel
theorem dX6_slotOf_54 : decode cX6_slotOf 54 = .ok (.lcmp, 1) := by decide +kernel
theorem dX6_slotOf_55 : decode cX6_slotOf 55 = .ok (.ifCond .ne 6, 3) := by decide +kernel
theorem dX6_slotOf_58 : decode cX6_slotOf 58 = .ok (.iload 4, 2) := by decide +kernel
theorem dX6_slotOf_60 : decode cX6_slotOf 60 = .ok (.ireturn, 1) := by decide +kernel
theorem dX6_slotOf_61 : decode cX6_slotOf 61 = .ok (.iload 4, 2) := by decide +kernel
theorem dX6_slotOf_63 : decode cX6_slotOf 63 = .ok (.iconst 1, 1) := by decide +kernel
theorem dX6_slotOf_64 : decode cX6_slotOf 64 = .ok (.iadd, 1) := by decide +kernel
theorem dX6_slotOf_65 : decode cX6_slotOf 65 = .ok (.iload_n 3, 1) := by decide +kernel
theorem dX6_slotOf_66 : decode cX6_slotOf 66 = .ok (.iand, 1) := by decide +kernel
theorem dX6_slotOf_67 : decode cX6_slotOf 67 = .ok (.istore 4, 2) := by decide +kernel
theorem dX6_slotOf_69 : decode cX6_slotOf 69 = .ok (.iinc 5 1, 3) := by decide +kernel
theorem dX6_slotOf_72 : decode cX6_slotOf 72 = .ok (.goto (-48), 3) := by decide +kernel
theorem dX6_slotOf_75 : decode cX6_slotOf 75 = .ok (.iload 4, 2) := by decide +kernel
theorem dX6_slotOf_77 : decode cX6_slotOf 77 = .ok (.ireturn, 1) := by decide +kernel
def M_X6_slotOf : y_M := (yX6_slotOf, cX6_slotOf, 7, (Option.some Jvm.ClassFile.FieldType.int))
theorem n_X6_slotOf : y_N0 M_X6_slotOf 1 := ⟨(c_6 26 (by decide +kernel) rfl), (c_1 15 (by decide +kernel) rfl), ⟨by decide +kernel, by decide +kernel⟩, by decide +kernel⟩
theorem F_BoxYard_Search_27 : y_F "BoxYard$Search" 27 6 6 := ⟨_, _, _, rfl, by decide, Or.inl (c_5 209 (by decide +kernel) rfl)⟩
theorem k_BoxYard_Search_121 : Cond.constantLong "BoxYard$Search" 121 (-7046029254386353131) ∈ y_tb := (c_6 27 (by decide +kernel) rfl)
theorem F_BoxYard_Search_20 : y_F "BoxYard$Search" 20 6 4 := ⟨_, _, _, rfl, by decide, Or.inl (c_5 207 (by decide +kernel) rfl)⟩
set_option maxRecDepth 100000 in
def f_X6_slotOf (p0 : Nat) (p1 : Int64) (h : y_H) : Option (Int32 × y_H) :=
  if y_K h p0 = 7 then
  if y_K h (y_P h p0 6) = 100 then
  y_jl (fun (_ : Nat) (_ : Int64) (_ : Int32) (_ : Int32) (_ : Int32) (_ : y_H) => (none : Option (Int32 × y_H))) (fun j24 (v0_24 : Nat) (v1_24 : Int64) (v3_24 : Int32) (v4_24 : Int32) (v5_24 : Int32) (h1 : y_H) =>
      if v3_24 ≤ v5_24 then
        some (v4_24, h1)
      else
        if y_K h1 v0_24 = 7 then
        if y_K h1 (y_P h1 v0_24 6) = 100 ∧ y_ix v4_24 (y_N h1 (y_P h1 v0_24 6)) = true then
        y_jn (fun (v4_58 : Int32) (h2 : y_H) => (
            some (v4_58, h2) : Option (Int32 × y_H))) (fun j58 =>
        if (y_I h1 (y_P h1 v0_24 6) (Int32.toNatClampNeg v4_24)) = 0 then
          j58 v4_24 h1
        else
          if y_K h1 v0_24 = 7 then
          if y_K h1 (y_P h1 v0_24 4) = 101 ∧ y_ix ((y_I h1 (y_P h1 v0_24 6) (Int32.toNatClampNeg v4_24)) - 1) (y_N h1 (y_P h1 v0_24 4)) = true then
          if (lg_cmp (y_L h1 (y_P h1 v0_24 4) (Int32.toNatClampNeg ((y_I h1 (y_P h1 v0_24 6) (Int32.toNatClampNeg v4_24)) - 1))) v1_24) = 0 then
            j58 v4_24 h1
          else
            j24 v0_24 v1_24 v3_24 ((v4_24 + 1) &&& v3_24) (v5_24 + 1) h1
          else none
          else none)
        else none
        else none) (fun j24 =>
  j24 p0 p1 ((nI (y_N h (y_P h p0 6))) - 1) ((Int64.toInt32 (y_lush (p1 * (-7046029254386353131 : Int64)) 40)) &&& ((nI (y_N h (y_P h p0 6))) - 1)) 0 h)
  else none
  else none
abbrev rm_X6_slotOf : Room := { frames := 0, cells := 0, slots := 0, locals := 0 }
set_option maxRecDepth 100000 in
set_option maxHeartbeats 4000000 in
theorem k_X6_slotOf {l : Launch} {G : y_G} {p0 : Nat} {p1 : Int64} {h hz : y_H} {rz : Int32} (hf : f_X6_slotOf p0 p1 h = some (rz, hz)) : y_S l G M_X6_slotOf rm_X6_slotOf [y_p p0, .long p1] h (some (.int rz)) hz := by
  refine y_start (lv := [(0, y_p p0), (1, .long p1)]) (by decide) (by simp [lg_sl, y_p_cat, y_ci, y_cj, M_X6_slotOf]) (by simp [lv_args, y_p_cat, y_ci, y_cj]) (fun z ad0 => ?_)
  unfold f_X6_slotOf at hf
  refine y_aload_n (x := p0) (pc2 := 1) rfl dX6_slotOf_0 rfl ?_
  obtain ⟨g11, hf⟩ := y_g hf
  refine y_getP (pc2 := 4) rfl dX6_slotOf_1 F_BoxYard_Search_27 (by decide) rfl g11 ?_
  obtain ⟨g10, hf⟩ := y_g hf
  refine y_alen (t := 0) (pc2 := 5) rfl dX6_slotOf_4 (by decide) g10 ?_
  refine y_iconst (v := 1) (pc2 := 6) rfl dX6_slotOf_5 (by decide) ?_
  refine y_isub (pc2 := 7) rfl dX6_slotOf_6 ?_
  refine y_istore_n (lv' := [(3, .int ((nI (y_N h (y_P h p0 6))) - 1)), (0, y_p p0), (1, .long p1)]) (pc2 := 8) rfl dX6_slotOf_7 (by decide) rfl ?_
  refine y_lload_n (pc2 := 9) rfl dX6_slotOf_8 rfl ?_
  refine y_ldc2 (v := (-7046029254386353131 : Int64)) (pc2 := 12) rfl dX6_slotOf_9 k_BoxYard_Search_121 ?_
  refine y_lmul (pc2 := 13) rfl dX6_slotOf_12 ?_
  refine y_bipush (v := 40) (pc2 := 15) rfl dX6_slotOf_13 (by decide) ?_
  refine y_lus (pc2 := 16) rfl dX6_slotOf_15 ?_
  refine y_l2i (pc2 := 17) rfl dX6_slotOf_16 ?_
  refine y_iload_n (pc2 := 18) rfl dX6_slotOf_17 rfl ?_
  refine y_iand (pc2 := 19) rfl dX6_slotOf_18 ?_
  refine y_istore (lv' := [(4, .int ((Int64.toInt32 (y_lush (p1 * (-7046029254386353131 : Int64)) 40)) &&& ((nI (y_N h (y_P h p0 6))) - 1))), (3, .int ((nI (y_N h (y_P h p0 6))) - 1)), (0, y_p p0), (1, .long p1)]) (pc2 := 21) rfl dX6_slotOf_19 (by decide) rfl ?_
  refine y_iconst (v := 0) (pc2 := 22) rfl dX6_slotOf_21 (by decide) ?_
  refine y_jlE hf (fun j => ∀ (v0_24 : Nat) (v1_24 : Int64) (v3_24 : Int32) (v4_24 : Int32) (v5_24 : Int32) (h1 : y_H), j v0_24 v1_24 v3_24 v4_24 v5_24 h1 = some (rz, hz) → y_V l G z rm_X6_slotOf M_X6_slotOf ad0 h (some (.int rz)) hz 24 [(0, y_p v0_24), (1, .long v1_24), (3, .int v3_24), (4, .int v4_24), (5, .int v5_24)] [] h1 0 0) (fun _ _ _ _ _ _ hf => by cases hf) (fun j24 hj24 v0_24 v1_24 v3_24 v4_24 v5_24 h1 hf => ?_) (fun j24 hj24 hf => ?_)
  · refine y_iload (pc2 := 26) rfl dX6_slotOf_24 rfl ?_
    refine y_iload_n (pc2 := 27) rfl dX6_slotOf_26 rfl ?_
    refine y_icmp_ge (tgt := 75) (pc2 := 30) rfl dX6_slotOf_27 (by decide) (fun c9 => ?_) (fun c9 => ?_)
    · replace hf := y_it c9 hf
      refine y_iload (pc2 := 77) rfl dX6_slotOf_75 rfl ?_
      exact y_iretF hf dX6_slotOf_77 rfl (by decide) (by decide)
    · replace hf := y_ie c9 hf
      refine y_aload_n (x := v0_24) (pc2 := 31) rfl dX6_slotOf_30 rfl ?_
      obtain ⟨g8, hf⟩ := y_g hf
      refine y_getP (pc2 := 34) rfl dX6_slotOf_31 F_BoxYard_Search_27 (by decide) rfl g8 ?_
      refine y_iload (pc2 := 36) rfl dX6_slotOf_34 rfl ?_
      obtain ⟨g7, hf⟩ := y_g hf
      refine y_iald (pc2 := 37) rfl dX6_slotOf_36 g7.1 (y_ix_in g7.2) ?_
      refine y_istore (lv' := [(6, .int (y_I h1 (y_P h1 v0_24 6) (Int32.toNatClampNeg v4_24))), (0, y_p v0_24), (1, .long v1_24), (3, .int v3_24), (4, .int v4_24), (5, .int v5_24)]) (pc2 := 39) rfl dX6_slotOf_37 (by decide) rfl ?_
      refine y_iload (pc2 := 41) rfl dX6_slotOf_39 rfl ?_
      refine y_jnE hf (fun j => ∀ (v4_58 : Int32) (h2 : y_H), j v4_58 h2 = some (rz, hz) → y_V l G z rm_X6_slotOf M_X6_slotOf ad0 h (some (.int rz)) hz 58 [(4, .int v4_58)] [] h2 0 0) (fun v4_58 h2 hf => ?_) (fun j58 hj58 hf => ?_)
      · refine y_iload (pc2 := 60) rfl dX6_slotOf_58 rfl ?_
        exact y_iretF hf dX6_slotOf_60 rfl (by decide) (by decide)
      · refine y_if_eq (tgt := 58) (pc2 := 44) rfl dX6_slotOf_41 (by decide) (fun c6 => ?_) (fun c6 => ?_)
        · replace hf := y_it c6 hf
          exact y_pk [4] rfl (hj58 _ _ hf)
        · replace hf := y_ie c6 hf
          refine y_aload_n (x := v0_24) (pc2 := 45) rfl dX6_slotOf_44 rfl ?_
          obtain ⟨g5, hf⟩ := y_g hf
          refine y_getP (pc2 := 48) rfl dX6_slotOf_45 F_BoxYard_Search_20 (by decide) rfl g5 ?_
          refine y_iload (pc2 := 50) rfl dX6_slotOf_48 rfl ?_
          refine y_iconst (v := 1) (pc2 := 51) rfl dX6_slotOf_50 (by decide) ?_
          refine y_isub (pc2 := 52) rfl dX6_slotOf_51 ?_
          obtain ⟨g4, hf⟩ := y_g hf
          refine y_lald (pc2 := 53) rfl dX6_slotOf_52 g4.1 (y_ix_in g4.2) ?_
          refine y_lload_n (pc2 := 54) rfl dX6_slotOf_53 rfl ?_
          refine y_lcmp (pc2 := 55) rfl dX6_slotOf_54 ?_
          refine y_if_ne (tgt := 61) (pc2 := 58) rfl dX6_slotOf_55 (by decide) (fun c3 => ?_) (fun c3 => ?_)
          · replace hf := y_ie c3 hf
            refine y_iload (pc2 := 63) rfl dX6_slotOf_61 rfl ?_
            refine y_iconst (v := 1) (pc2 := 64) rfl dX6_slotOf_63 (by decide) ?_
            refine y_iadd (pc2 := 65) rfl dX6_slotOf_64 ?_
            refine y_iload_n (pc2 := 66) rfl dX6_slotOf_65 rfl ?_
            refine y_iand (pc2 := 67) rfl dX6_slotOf_66 ?_
            refine y_istore (lv' := [(4, .int ((v4_24 + 1) &&& v3_24)), (6, .int (y_I h1 (y_P h1 v0_24 6) (Int32.toNatClampNeg v4_24))), (0, y_p v0_24), (1, .long v1_24), (3, .int v3_24), (5, .int v5_24)]) (pc2 := 69) rfl dX6_slotOf_67 (by decide) rfl ?_
            refine y_iinc (v := v5_24 + 1) (lv' := [(5, .int (v5_24 + 1)), (4, .int ((v4_24 + 1) &&& v3_24)), (6, .int (y_I h1 (y_P h1 v0_24 6) (Int32.toNatClampNeg v4_24))), (0, y_p v0_24), (1, .long v1_24), (3, .int v3_24)]) (pc2 := 72) rfl dX6_slotOf_69 rfl rfl (by decide) rfl ?_
            refine y_goto (tgt := 24) dX6_slotOf_72 (by decide) ?_
            exact y_pk [3, 4, 5, 1, 0] rfl (hj24 _ _ _ _ _ _ hf)
          · replace hf := y_it c3 hf
            exact y_pk [4] rfl (hj58 _ _ hf)
  · refine y_istore (lv' := [(5, .int 0), (4, .int ((Int64.toInt32 (y_lush (p1 * (-7046029254386353131 : Int64)) 40)) &&& ((nI (y_N h (y_P h p0 6))) - 1))), (3, .int ((nI (y_N h (y_P h p0 6))) - 1)), (0, y_p p0), (1, .long p1)]) (pc2 := 24) rfl dX6_slotOf_22 (by decide) rfl ?_
    exact y_pk [3, 4, 2, 1, 0] rfl (hj24 _ _ _ _ _ _ hf)
theorem dX6_keep_0 : decode cX6_keep 0 = .ok (.aload_n 0, 1) := by decide +kernel
theorem dX6_keep_1 : decode cX6_keep 1 = .ok (.getfield 84, 3) := by decide +kernel
theorem dX6_keep_4 : decode cX6_keep 4 = .ok (.aload_n 0, 1) := by decide +kernel
theorem dX6_keep_5 : decode cX6_keep 5 = .ok (.getfield 20, 3) := by decide +kernel
theorem dX6_keep_8 : decode cX6_keep 8 = .ok (.arraylength, 1) := by decide +kernel
theorem dX6_keep_9 : decode cX6_keep 9 = .ok (.if_icmp .lt 5, 3) := by decide +kernel
theorem dX6_keep_12 : decode cX6_keep 12 = .ok (.iconst 0, 1) := by decide +kernel
theorem dX6_keep_13 : decode cX6_keep 13 = .ok (.ireturn, 1) := by decide +kernel
theorem dX6_keep_14 : decode cX6_keep 14 = .ok (.aload_n 0, 1) := by decide +kernel
theorem dX6_keep_15 : decode cX6_keep 15 = .ok (.getfield 20, 3) := by decide +kernel
theorem dX6_keep_18 : decode cX6_keep 18 = .ok (.aload_n 0, 1) := by decide +kernel
theorem dX6_keep_19 : decode cX6_keep 19 = .ok (.getfield 84, 3) := by decide +kernel
theorem dX6_keep_22 : decode cX6_keep 22 = .ok (.lload_n 1, 1) := by decide +kernel
theorem dX6_keep_23 : decode cX6_keep 23 = .ok (.lastore, 1) := by decide +kernel
theorem dX6_keep_24 : decode cX6_keep 24 = .ok (.aload_n 0, 1) := by decide +kernel
theorem dX6_keep_25 : decode cX6_keep 25 = .ok (.getfield 24, 3) := by decide +kernel
theorem dX6_keep_28 : decode cX6_keep 28 = .ok (.aload_n 0, 1) := by decide +kernel
theorem dX6_keep_29 : decode cX6_keep 29 = .ok (.getfield 84, 3) := by decide +kernel
theorem dX6_keep_32 : decode cX6_keep 32 = .ok (.iload_n 3, 1) := by decide +kernel
theorem dX6_keep_33 : decode cX6_keep 33 = .ok (.iastore, 1) := by decide +kernel
theorem dX6_keep_34 : decode cX6_keep 34 = .ok (.aload_n 0, 1) := by decide +kernel
theorem dX6_keep_35 : decode cX6_keep 35 = .ok (.dup, 1) := by decide +kernel
theorem dX6_keep_36 : decode cX6_keep 36 = .ok (.getfield 84, 3) := by decide +kernel
theorem dX6_keep_39 : decode cX6_keep 39 = .ok (.iconst 1, 1) := by decide +kernel
theorem dX6_keep_40 : decode cX6_keep 40 = .ok (.iadd, 1) := by decide +kernel
theorem dX6_keep_41 : decode cX6_keep 41 = .ok (.putfield 84, 3) := by decide +kernel
theorem dX6_keep_44 : decode cX6_keep 44 = .ok (.aload_n 0, 1) := by decide +kernel
theorem dX6_keep_45 : decode cX6_keep 45 = .ok (.getfield 27, 3) := by decide +kernel
theorem dX6_keep_48 : decode cX6_keep 48 = .ok (.iload 4, 2) := by decide +kernel
theorem dX6_keep_50 : decode cX6_keep 50 = .ok (.aload_n 0, 1) := by decide +kernel
theorem dX6_keep_51 : decode cX6_keep 51 = .ok (.getfield 84, 3) := by decide +kernel
theorem dX6_keep_54 : decode cX6_keep 54 = .ok (.iastore, 1) := by decide +kernel
theorem dX6_keep_55 : decode cX6_keep 55 = .ok (.iconst 1, 1) := by decide +kernel
theorem dX6_keep_56 : decode cX6_keep 56 = .ok (.ireturn, 1) := by decide +kernel
def M_X6_keep : y_M := (yX6_keep, cX6_keep, 5, (Option.some Jvm.ClassFile.FieldType.boolean))
theorem n_X6_keep : y_N0 M_X6_keep 3 := ⟨(c_6 31 (by decide +kernel) rfl), (c_1 15 (by decide +kernel) rfl), ⟨by decide +kernel, by decide +kernel⟩, by decide +kernel⟩
theorem F_BoxYard_Search_84 : y_F "BoxYard$Search" 84 6 7 := ⟨_, _, _, rfl, by decide, Or.inl (c_5 210 (by decide +kernel) rfl)⟩
theorem F_BoxYard_Search_24 : y_F "BoxYard$Search" 24 6 5 := ⟨_, _, _, rfl, by decide, Or.inl (c_5 208 (by decide +kernel) rfl)⟩
theorem Fp_BoxYard_Search_84 {nm : String} : y_Fp "BoxYard$Search" nm 84 6 7 := ⟨_, _, _, rfl, by decide, Or.inl ⟨rfl, Or.inl (c_5 210 (by decide +kernel) rfl)⟩⟩
set_option maxRecDepth 100000 in
def f_X6_keep (p0 : Nat) (p1 : Int64) (p3 : Int32) (p4 : Int32) (h : y_H) : Option (Bool × y_H) :=
  if y_K h p0 = 7 then
  if y_K h p0 = 7 then
  if y_K h (y_P h p0 4) = 101 then
  if (y_I h p0 7) < (nI (y_N h (y_P h p0 4))) then
    if y_K h p0 = 7 then
    if y_K h p0 = 7 then
    if y_K h (y_P h p0 4) = 101 ∧ y_ix (y_I h p0 7) (y_N h (y_P h p0 4)) = true then
    y_bd (s_L h (y_P h p0 4) (Int32.toNatClampNeg (y_I h p0 7)) p1) (fun h1 =>
    if y_K h1 p0 = 7 then
    if y_K h1 p0 = 7 then
    if y_K h1 (y_P h1 p0 5) = 100 ∧ y_ix (y_I h1 p0 7) (y_N h1 (y_P h1 p0 5)) = true then
    y_bd (s_I h1 (y_P h1 p0 5) (Int32.toNatClampNeg (y_I h1 p0 7)) p3) (fun h4 =>
    if y_K h4 p0 = 7 then
    if y_K h4 p0 = 7 then
    y_bd (s_I h4 p0 7 ((y_I h4 p0 7) + 1)) (fun h7 =>
    if y_K h7 p0 = 7 then
    if y_K h7 p0 = 7 then
    if y_K h7 (y_P h7 p0 6) = 100 ∧ y_ix p4 (y_N h7 (y_P h7 p0 6)) = true then
    y_bd (s_I h7 (y_P h7 p0 6) (Int32.toNatClampNeg p4) (y_I h7 p0 7)) (fun h10 =>
    some (true, h10))
    else none
    else none
    else none)
    else none
    else none)
    else none
    else none
    else none)
    else none
    else none
    else none
  else
    some (false, h)
  else none
  else none
  else none
abbrev rm_X6_keep : Room := { frames := 0, cells := 0, slots := 0, locals := 0 }
set_option maxRecDepth 100000 in
set_option maxHeartbeats 4000000 in
theorem k_X6_keep {l : Launch} {G : y_G} {p0 : Nat} {p1 : Int64} {p3 : Int32} {p4 : Int32} {h hz : y_H} {rz : Bool} (hf : f_X6_keep p0 p1 p3 p4 h = some (rz, hz)) : y_S l G M_X6_keep rm_X6_keep [y_p p0, .long p1, .int p3, .int p4] h (some (.int (y_z rz))) hz := by
  refine y_start (lv := [(0, y_p p0), (1, .long p1), (3, .int p3), (4, .int p4)]) (by decide) (by simp [lg_sl, y_p_cat, y_ci, y_cj, M_X6_keep]) (by simp [lv_args, y_p_cat, y_ci, y_cj]) (fun z ad0 => ?_)
  unfold f_X6_keep at hf
  refine y_aload_n (x := p0) (pc2 := 1) rfl dX6_keep_0 rfl ?_
  obtain ⟨g23, hf⟩ := y_g hf
  refine y_getI (pc2 := 4) rfl dX6_keep_1 F_BoxYard_Search_84 (by decide) rfl g23 ?_
  refine y_aload_n (x := p0) (pc2 := 5) rfl dX6_keep_4 rfl ?_
  obtain ⟨g22, hf⟩ := y_g hf
  refine y_getP (pc2 := 8) rfl dX6_keep_5 F_BoxYard_Search_20 (by decide) rfl g22 ?_
  obtain ⟨g21, hf⟩ := y_g hf
  refine y_alen (t := 1) (pc2 := 9) rfl dX6_keep_8 (by decide) g21 ?_
  refine y_icmp_lt (tgt := 14) (pc2 := 12) rfl dX6_keep_9 (by decide) (fun c20 => ?_) (fun c20 => ?_)
  · replace hf := y_it c20 hf
    refine y_aload_n (x := p0) (pc2 := 15) rfl dX6_keep_14 rfl ?_
    obtain ⟨g19, hf⟩ := y_g hf
    refine y_getP (pc2 := 18) rfl dX6_keep_15 F_BoxYard_Search_20 (by decide) rfl g19 ?_
    refine y_aload_n (x := p0) (pc2 := 19) rfl dX6_keep_18 rfl ?_
    obtain ⟨g18, hf⟩ := y_g hf
    refine y_getI (pc2 := 22) rfl dX6_keep_19 F_BoxYard_Search_84 (by decide) rfl g18 ?_
    refine y_lload_n (pc2 := 23) rfl dX6_keep_22 rfl ?_
    obtain ⟨g3, hf⟩ := y_g hf
    obtain ⟨h1, e2, hf⟩ := y_bdE hf
    refine y_last (x := p1) (pc2 := 24) rfl dX6_keep_23 g3.1 (y_ix_in g3.2) e2 ?_
    refine y_aload_n (x := p0) (pc2 := 25) rfl dX6_keep_24 rfl ?_
    obtain ⟨g17, hf⟩ := y_g hf
    refine y_getP (pc2 := 28) rfl dX6_keep_25 F_BoxYard_Search_24 (by decide) rfl g17 ?_
    refine y_aload_n (x := p0) (pc2 := 29) rfl dX6_keep_28 rfl ?_
    obtain ⟨g16, hf⟩ := y_g hf
    refine y_getI (pc2 := 32) rfl dX6_keep_29 F_BoxYard_Search_84 (by decide) rfl g16 ?_
    refine y_iload_n (pc2 := 33) rfl dX6_keep_32 rfl ?_
    obtain ⟨g6, hf⟩ := y_g hf
    obtain ⟨h4, e5, hf⟩ := y_bdE hf
    refine y_iast (x := p3) (pc2 := 34) rfl dX6_keep_33 g6.1 (y_ix_in g6.2) e5 ?_
    refine y_aload_n (x := p0) (pc2 := 35) rfl dX6_keep_34 rfl ?_
    refine y_dup (pc2 := 36) rfl dX6_keep_35 (y_p_cat _) ?_
    obtain ⟨g15, hf⟩ := y_g hf
    refine y_getI (pc2 := 39) rfl dX6_keep_36 F_BoxYard_Search_84 (by decide) rfl g15 ?_
    refine y_iconst (v := 1) (pc2 := 40) rfl dX6_keep_39 (by decide) ?_
    refine y_iadd (pc2 := 41) rfl dX6_keep_40 ?_
    obtain ⟨g9, hf⟩ := y_g hf
    obtain ⟨h7, e8, hf⟩ := y_bdE hf
    refine y_putI (x := (y_I h4 p0 7) + 1) (pc2 := 44) rfl dX6_keep_41 Fp_BoxYard_Search_84 (by decide) rfl g9 e8 ?_
    refine y_aload_n (x := p0) (pc2 := 45) rfl dX6_keep_44 rfl ?_
    obtain ⟨g14, hf⟩ := y_g hf
    refine y_getP (pc2 := 48) rfl dX6_keep_45 F_BoxYard_Search_27 (by decide) rfl g14 ?_
    refine y_iload (pc2 := 50) rfl dX6_keep_48 rfl ?_
    refine y_aload_n (x := p0) (pc2 := 51) rfl dX6_keep_50 rfl ?_
    obtain ⟨g13, hf⟩ := y_g hf
    refine y_getI (pc2 := 54) rfl dX6_keep_51 F_BoxYard_Search_84 (by decide) rfl g13 ?_
    obtain ⟨g12, hf⟩ := y_g hf
    obtain ⟨h10, e11, hf⟩ := y_bdE hf
    refine y_iast (x := y_I h7 p0 7) (pc2 := 55) rfl dX6_keep_54 g12.1 (y_ix_in g12.2) e11 ?_
    refine y_iconst (v := 1) (pc2 := 56) rfl dX6_keep_55 (by decide) ?_
    exact y_zretF (x := true) hf dX6_keep_56 rfl (by decide) (by decide)
  · replace hf := y_ie c20 hf
    refine y_iconst (v := 0) (pc2 := 13) rfl dX6_keep_12 (by decide) ?_
    exact y_zretF (x := false) hf dX6_keep_13 rfl (by decide) (by decide)
theorem dX6_filledOf_0 : decode cX6_filledOf 0 = .ok (.lload_n 0, 1) := by decide +kernel
theorem dX6_filledOf_1 : decode cX6_filledOf 1 = .ok (.bipush 15, 2) := by decide +kernel
theorem dX6_filledOf_3 : decode cX6_filledOf 3 = .ok (.iload_n 2, 1) := by decide +kernel
theorem dX6_filledOf_4 : decode cX6_filledOf 4 = .ok (.imul, 1) := by decide +kernel
theorem dX6_filledOf_5 : decode cX6_filledOf 5 = .ok (.lushr, 1) := by decide +kernel
theorem dX6_filledOf_6 : decode cX6_filledOf 6 = .ok (.l2i, 1) := by decide +kernel
theorem dX6_filledOf_7 : decode cX6_filledOf 7 = .ok (.sipush 32767, 3) := by decide +kernel
theorem dX6_filledOf_10 : decode cX6_filledOf 10 = .ok (.iand, 1) := by decide +kernel
theorem dX6_filledOf_11 : decode cX6_filledOf 11 = .ok (.istore_n 3, 1) := by decide +kernel
theorem dX6_filledOf_12 : decode cX6_filledOf 12 = .ok (.iconst 0, 1) := by decide +kernel
theorem dX6_filledOf_13 : decode cX6_filledOf 13 = .ok (.istore 4, 2) := by decide +kernel
theorem dX6_filledOf_15 : decode cX6_filledOf 15 = .ok (.iconst 0, 1) := by decide +kernel
theorem dX6_filledOf_16 : decode cX6_filledOf 16 = .ok (.istore 5, 2) := by decide +kernel
theorem dX6_filledOf_18 : decode cX6_filledOf 18 = .ok (.iload 5, 2) := by decide +kernel
theorem dX6_filledOf_20 : decode cX6_filledOf 20 = .ok (.iconst 5, 1) := by decide +kernel
theorem dX6_filledOf_21 : decode cX6_filledOf 21 = .ok (.if_icmp .ge 20, 3) := by decide +kernel
theorem dX6_filledOf_24 : decode cX6_filledOf 24 = .ok (.iload_n 3, 1) := by decide +kernel
theorem dX6_filledOf_25 : decode cX6_filledOf 25 = .ok (.ifCond .eq 16, 3) := by decide +kernel
theorem dX6_filledOf_28 : decode cX6_filledOf 28 = .ok (.iload_n 3, 1) := by decide +kernel
theorem dX6_filledOf_29 : decode cX6_filledOf 29 = .ok (.iconst 3, 1) := by decide +kernel
theorem dX6_filledOf_30 : decode cX6_filledOf 30 = .ok (.iushr, 1) := by decide +kernel
theorem dX6_filledOf_31 : decode cX6_filledOf 31 = .ok (.istore_n 3, 1) := by decide +kernel
theorem dX6_filledOf_32 : decode cX6_filledOf 32 = .ok (.iinc 4 1, 3) := by decide +kernel
theorem dX6_filledOf_35 : decode cX6_filledOf 35 = .ok (.iinc 5 1, 3) := by decide +kernel
theorem dX6_filledOf_38 : decode cX6_filledOf 38 = .ok (.goto (-20), 3) := by decide +kernel
theorem dX6_filledOf_41 : decode cX6_filledOf 41 = .ok (.iload 4, 2) := by decide +kernel
theorem dX6_filledOf_43 : decode cX6_filledOf 43 = .ok (.ireturn, 1) := by decide +kernel
def M_X6_filledOf : y_M := (yX6_filledOf, cX6_filledOf, 6, (Option.some Jvm.ClassFile.FieldType.int))
theorem n_X6_filledOf : y_N0 M_X6_filledOf 2 := ⟨(c_6 65 (by decide +kernel) rfl), (c_1 15 (by decide +kernel) rfl), ⟨by decide +kernel, by decide +kernel⟩, by decide +kernel⟩
set_option maxRecDepth 100000 in
def f_X6_filledOf (p0 : Int64) (p2 : Int32) (h : y_H) : Option (Int32 × y_H) :=
  y_jl (fun (_ : Int32) (_ : Int32) (_ : Int32) (_ : y_H) => (none : Option (Int32 × y_H))) (fun j18 (v3_18 : Int32) (v4_18 : Int32) (v5_18 : Int32) (h1 : y_H) =>
      y_jn (fun (v4_41 : Int32) (h2 : y_H) => (
          some (v4_41, h2) : Option (Int32 × y_H))) (fun j41 =>
      if 5 ≤ v5_18 then
        j41 v4_18 h1
      else
        if v3_18 = 0 then
          j41 v4_18 h1
        else
          j18 (y_ush v3_18 3) (v4_18 + 1) (v5_18 + 1) h1)) (fun j18 =>
  j18 ((Int64.toInt32 (y_lush p0 (15 * p2))) &&& 32767) 0 0 h)
abbrev rm_X6_filledOf : Room := { frames := 0, cells := 0, slots := 0, locals := 0 }
set_option maxRecDepth 100000 in
set_option maxHeartbeats 4000000 in
theorem k_X6_filledOf {l : Launch} {G : y_G} {p0 : Int64} {p2 : Int32} {h hz : y_H} {rz : Int32} (hf : f_X6_filledOf p0 p2 h = some (rz, hz)) : y_S l G M_X6_filledOf rm_X6_filledOf [.long p0, .int p2] h (some (.int rz)) hz := by
  refine y_start (lv := [(0, .long p0), (2, .int p2)]) (by decide) (by simp [lg_sl, y_p_cat, y_ci, y_cj, M_X6_filledOf]) (by simp [lv_args, y_p_cat, y_ci, y_cj]) (fun z ad0 => ?_)
  unfold f_X6_filledOf at hf
  refine y_lload_n (pc2 := 1) rfl dX6_filledOf_0 rfl ?_
  refine y_bipush (v := 15) (pc2 := 3) rfl dX6_filledOf_1 (by decide) ?_
  refine y_iload_n (pc2 := 4) rfl dX6_filledOf_3 rfl ?_
  refine y_imul (pc2 := 5) rfl dX6_filledOf_4 ?_
  refine y_lus (pc2 := 6) rfl dX6_filledOf_5 ?_
  refine y_l2i (pc2 := 7) rfl dX6_filledOf_6 ?_
  refine y_sipush (v := 32767) (pc2 := 10) rfl dX6_filledOf_7 (by decide) ?_
  refine y_iand (pc2 := 11) rfl dX6_filledOf_10 ?_
  refine y_istore_n (lv' := [(3, .int ((Int64.toInt32 (y_lush p0 (15 * p2))) &&& 32767)), (0, .long p0), (2, .int p2)]) (pc2 := 12) rfl dX6_filledOf_11 (by decide) rfl ?_
  refine y_iconst (v := 0) (pc2 := 13) rfl dX6_filledOf_12 (by decide) ?_
  refine y_istore (lv' := [(4, .int 0), (3, .int ((Int64.toInt32 (y_lush p0 (15 * p2))) &&& 32767)), (0, .long p0), (2, .int p2)]) (pc2 := 15) rfl dX6_filledOf_13 (by decide) rfl ?_
  refine y_iconst (v := 0) (pc2 := 16) rfl dX6_filledOf_15 (by decide) ?_
  refine y_jlE hf (fun j => ∀ (v3_18 : Int32) (v4_18 : Int32) (v5_18 : Int32) (h1 : y_H), j v3_18 v4_18 v5_18 h1 = some (rz, hz) → y_V l G z rm_X6_filledOf M_X6_filledOf ad0 h (some (.int rz)) hz 18 [(3, .int v3_18), (4, .int v4_18), (5, .int v5_18)] [] h1 0 0) (fun _ _ _ _ hf => by cases hf) (fun j18 hj18 v3_18 v4_18 v5_18 h1 hf => ?_) (fun j18 hj18 hf => ?_)
  · refine y_iload (pc2 := 20) rfl dX6_filledOf_18 rfl ?_
    refine y_iconst (v := 5) (pc2 := 21) rfl dX6_filledOf_20 (by decide) ?_
    refine y_jnE hf (fun j => ∀ (v4_41 : Int32) (h2 : y_H), j v4_41 h2 = some (rz, hz) → y_V l G z rm_X6_filledOf M_X6_filledOf ad0 h (some (.int rz)) hz 41 [(4, .int v4_41)] [] h2 0 0) (fun v4_41 h2 hf => ?_) (fun j41 hj41 hf => ?_)
    · refine y_iload (pc2 := 43) rfl dX6_filledOf_41 rfl ?_
      exact y_iretF hf dX6_filledOf_43 rfl (by decide) (by decide)
    · refine y_icmp_ge (tgt := 41) (pc2 := 24) rfl dX6_filledOf_21 (by decide) (fun c4 => ?_) (fun c4 => ?_)
      · replace hf := y_it c4 hf
        exact y_pk [1] rfl (hj41 _ _ hf)
      · replace hf := y_ie c4 hf
        refine y_iload_n (pc2 := 25) rfl dX6_filledOf_24 rfl ?_
        refine y_if_eq (tgt := 41) (pc2 := 28) rfl dX6_filledOf_25 (by decide) (fun c3 => ?_) (fun c3 => ?_)
        · replace hf := y_it c3 hf
          exact y_pk [1] rfl (hj41 _ _ hf)
        · replace hf := y_ie c3 hf
          refine y_iload_n (pc2 := 29) rfl dX6_filledOf_28 rfl ?_
          refine y_iconst (v := 3) (pc2 := 30) rfl dX6_filledOf_29 (by decide) ?_
          refine y_us (pc2 := 31) rfl dX6_filledOf_30 ?_
          refine y_istore_n (lv' := [(3, .int (y_ush v3_18 3)), (4, .int v4_18), (5, .int v5_18)]) (pc2 := 32) rfl dX6_filledOf_31 (by decide) rfl ?_
          refine y_iinc (v := v4_18 + 1) (lv' := [(4, .int (v4_18 + 1)), (3, .int (y_ush v3_18 3)), (5, .int v5_18)]) (pc2 := 35) rfl dX6_filledOf_32 rfl rfl (by decide) rfl ?_
          refine y_iinc (v := v5_18 + 1) (lv' := [(5, .int (v5_18 + 1)), (4, .int (v4_18 + 1)), (3, .int (y_ush v3_18 3))]) (pc2 := 38) rfl dX6_filledOf_35 rfl rfl (by decide) rfl ?_
          refine y_goto (tgt := 18) dX6_filledOf_38 (by decide) ?_
          exact y_pk [2, 1, 0] rfl (hj18 _ _ _ _ hf)
  · refine y_istore (lv' := [(5, .int 0), (4, .int 0), (3, .int ((Int64.toInt32 (y_lush p0 (15 * p2))) &&& 32767)), (0, .long p0), (2, .int p2)]) (pc2 := 18) rfl dX6_filledOf_16 (by decide) rfl ?_
    exact y_pk [2, 1, 0] rfl (hj18 _ _ _ _ hf)
theorem dX6_reach_0 : decode cX6_reach 0 = .ok (.aload_n 0, 1) := by decide +kernel
theorem dX6_reach_1 : decode cX6_reach 1 = .ok (.lload_n 1, 1) := by decide +kernel
theorem dX6_reach_2 : decode cX6_reach 2 = .ok (.invokevirtual 58, 3) := by decide +kernel
theorem dX6_reach_5 : decode cX6_reach 5 = .ok (.iload 4, 2) := by decide +kernel
theorem dX6_reach_7 : decode cX6_reach 7 = .ok (.if_icmp .le 9, 3) := by decide +kernel
theorem dX6_reach_10 : decode cX6_reach 10 = .ok (.aload_n 0, 1) := by decide +kernel
theorem dX6_reach_11 : decode cX6_reach 11 = .ok (.iconst 1, 1) := by decide +kernel
theorem dX6_reach_12 : decode cX6_reach 12 = .ok (.putfield 51, 3) := by decide +kernel
theorem dX6_reach_15 : decode cX6_reach 15 = .ok (.return_, 1) := by decide +kernel
theorem dX6_reach_16 : decode cX6_reach 16 = .ok (.aload_n 0, 1) := by decide +kernel
theorem dX6_reach_17 : decode cX6_reach 17 = .ok (.lload_n 1, 1) := by decide +kernel
theorem dX6_reach_18 : decode cX6_reach 18 = .ok (.invokevirtual 90, 3) := by decide +kernel
theorem dX6_reach_21 : decode cX6_reach 21 = .ok (.istore 5, 2) := by decide +kernel
theorem dX6_reach_23 : decode cX6_reach 23 = .ok (.aload_n 0, 1) := by decide +kernel
theorem dX6_reach_24 : decode cX6_reach 24 = .ok (.getfield 27, 3) := by decide +kernel
theorem dX6_reach_27 : decode cX6_reach 27 = .ok (.iload 5, 2) := by decide +kernel
theorem dX6_reach_29 : decode cX6_reach 29 = .ok (.iaload, 1) := by decide +kernel
theorem dX6_reach_30 : decode cX6_reach 30 = .ok (.ifCond .ne 35, 3) := by decide +kernel
theorem dX6_reach_33 : decode cX6_reach 33 = .ok (.aload_n 0, 1) := by decide +kernel
theorem dX6_reach_34 : decode cX6_reach 34 = .ok (.lload_n 1, 1) := by decide +kernel
theorem dX6_reach_35 : decode cX6_reach 35 = .ok (.iload_n 3, 1) := by decide +kernel
theorem dX6_reach_36 : decode cX6_reach 36 = .ok (.iload 5, 2) := by decide +kernel
theorem dX6_reach_38 : decode cX6_reach 38 = .ok (.invokevirtual 93, 3) := by decide +kernel
theorem dX6_reach_41 : decode cX6_reach 41 = .ok (.ifCond .eq 24, 3) := by decide +kernel
theorem dX6_reach_44 : decode cX6_reach 44 = .ok (.lload_n 1, 1) := by decide +kernel
theorem dX6_reach_45 : decode cX6_reach 45 = .ok (.invokestatic 112, 3) := by decide +kernel
theorem dX6_reach_48 : decode cX6_reach 48 = .ok (.aload_n 0, 1) := by decide +kernel
theorem dX6_reach_49 : decode cX6_reach 49 = .ok (.getfield 46, 3) := by decide +kernel
theorem dX6_reach_52 : decode cX6_reach 52 = .ok (.if_icmp .ne 13, 3) := by decide +kernel
theorem dX6_reach_55 : decode cX6_reach 55 = .ok (.aload_n 0, 1) := by decide +kernel
theorem dX6_reach_56 : decode cX6_reach 56 = .ok (.aload_n 0, 1) := by decide +kernel
theorem dX6_reach_57 : decode cX6_reach 57 = .ok (.getfield 84, 3) := by decide +kernel
theorem dX6_reach_60 : decode cX6_reach 60 = .ok (.iconst 1, 1) := by decide +kernel
theorem dX6_reach_61 : decode cX6_reach 61 = .ok (.isub, 1) := by decide +kernel
theorem dX6_reach_62 : decode cX6_reach 62 = .ok (.putfield 87, 3) := by decide +kernel
theorem dX6_reach_65 : decode cX6_reach 65 = .ok (.return_, 1) := by decide +kernel
def M_X6_reach : y_M := (yX6_reach, cX6_reach, 6, (Option.none : Option Jvm.ClassFile.FieldType))
theorem n_X6_reach : y_N0 M_X6_reach 3 := ⟨(c_6 72 (by decide +kernel) rfl), (c_1 15 (by decide +kernel) rfl), ⟨by decide +kernel, by decide +kernel⟩, by decide +kernel⟩
theorem l_BoxYard_Search_58 : y_lnk "BoxYard$Search" 58 M_X6_lowerBound := Or.inl (c_6 11 (by decide +kernel) rfl)
theorem i_X6_lowerBound : Cond.instanceMethod (M_X6_lowerBound).1 ∈ y_tb := (c_6 13 (by decide +kernel) rfl)
theorem e_X6_lowerBound : Cond.selects (M_X6_lowerBound).1.cls (M_X6_lowerBound).1 (M_X6_lowerBound).1 ∈ y_tb := (m_s 24 (by decide +kernel) rfl)
theorem l_BoxYard_Search_90 : y_lnk "BoxYard$Search" 90 M_X6_slotOf := Or.inl (c_6 23 (by decide +kernel) rfl)
theorem i_X6_slotOf : Cond.instanceMethod (M_X6_slotOf).1 ∈ y_tb := (c_6 25 (by decide +kernel) rfl)
theorem e_X6_slotOf : Cond.selects (M_X6_slotOf).1.cls (M_X6_slotOf).1 (M_X6_slotOf).1 ∈ y_tb := (m_s 26 (by decide +kernel) rfl)
theorem l_BoxYard_Search_93 : y_lnk "BoxYard$Search" 93 M_X6_keep := Or.inl (c_6 28 (by decide +kernel) rfl)
theorem i_X6_keep : Cond.instanceMethod (M_X6_keep).1 ∈ y_tb := (c_6 30 (by decide +kernel) rfl)
theorem e_X6_keep : Cond.selects (M_X6_keep).1.cls (M_X6_keep).1 (M_X6_keep).1 ∈ y_tb := (m_s 27 (by decide +kernel) rfl)
theorem Fp_BoxYard_Search_87 {nm : String} : y_Fp "BoxYard$Search" nm 87 6 8 := ⟨_, _, _, rfl, by decide, Or.inl ⟨rfl, Or.inl (c_5 211 (by decide +kernel) rfl)⟩⟩
theorem Fp_BoxYard_Search_51 {nm : String} : y_Fp "BoxYard$Search" nm 51 6 9 := ⟨_, _, _, rfl, by decide, Or.inl ⟨rfl, Or.inl (c_5 212 (by decide +kernel) rfl)⟩⟩
set_option maxRecDepth 100000 in
def f_X6_reach (p0 : Nat) (p1 : Int64) (p3 : Int32) (p4 : Int32) (h : y_H) : Option (Unit × y_H) :=
  if y_K h p0 = 7 then
  y_cl (f_X6_lowerBound p0 p1 h) (fun r1 h2 =>
  if r1 ≤ p4 then
    if y_K h2 p0 = 7 then
    y_cl (f_X6_slotOf p0 p1 h2) (fun r4 h5 =>
    if y_K h5 p0 = 7 then
    if y_K h5 (y_P h5 p0 6) = 100 ∧ y_ix r4 (y_N h5 (y_P h5 p0 6)) = true then
    y_jn (fun (h7 : y_H) => (
        some ((), h7) : Option (Unit × y_H))) (fun j65 =>
    if (y_I h5 (y_P h5 p0 6) (Int32.toNatClampNeg r4)) = 0 then
      if y_K h5 p0 = 7 then
      y_cl (f_X6_keep p0 p1 p3 r4 h5) (fun r8 h9 =>
      if r8 = true then
        y_cl (f_X6_outOf p1 h9) (fun r11 h12 =>
        if y_K h12 p0 = 7 then
        if r11 = (y_I h12 p0 3) then
          if y_K h12 p0 = 7 then
          if y_K h12 p0 = 7 then
          y_bd (s_I h12 p0 8 ((y_I h12 p0 7) - 1)) (fun h14 =>
          j65 h14)
          else none
          else none
        else
          j65 h12
        else none)
      else
        j65 h9)
      else none
    else
      j65 h5)
    else none
    else none)
    else none
  else
    if y_K h2 p0 = 7 then
    y_bd (s_B h2 p0 9 true) (fun h26 =>
    some ((), h26))
    else none)
  else none
abbrev rm_X6_reach : Room := { frames := 2, cells := 0, slots := 0, locals := 49 }
set_option maxRecDepth 100000 in
set_option maxHeartbeats 4000000 in
theorem k_X6_reach {l : Launch} {G : y_G} {p0 : Nat} {p1 : Int64} {p3 : Int32} {p4 : Int32} {h hz : y_H} {rz : Unit} (hf : f_X6_reach p0 p1 p3 p4 h = some (rz, hz)) : y_S l G M_X6_reach rm_X6_reach [y_p p0, .long p1, .int p3, .int p4] h none hz := by
  refine y_start (lv := [(0, y_p p0), (1, .long p1), (3, .int p3), (4, .int p4)]) (by decide) (by simp [lg_sl, y_p_cat, y_ci, y_cj, M_X6_reach]) (by simp [lv_args, y_p_cat, y_ci, y_cj]) (fun z ad0 => ?_)
  unfold f_X6_reach at hf
  refine y_aload_n (x := p0) (pc2 := 1) rfl dX6_reach_0 rfl ?_
  refine y_lload_n (pc2 := 2) rfl dX6_reach_1 rfl ?_
  obtain ⟨g30, hf⟩ := y_g hf
  obtain ⟨r1, h2, c3, hf⟩ := y_clE hf
  refine y_callV (As := [.long p1]) (rm := rm_X6_lowerBound) (cells := 0) (slots := 0) (pc2 := 5) rfl dX6_reach_2 n_X6_lowerBound l_BoxYard_Search_58 i_X6_lowerBound e_X6_lowerBound (ci := 6) rfl rfl (by decide) g30 rfl rfl (by decide) (by decide) (by decide) (k_X6_lowerBound c3) ?_
  refine y_iload (pc2 := 7) rfl dX6_reach_5 rfl ?_
  refine y_icmp_le (tgt := 16) (pc2 := 10) rfl dX6_reach_7 (by decide) (fun c29 => ?_) (fun c29 => ?_)
  · replace hf := y_it c29 hf
    refine y_aload_n (x := p0) (pc2 := 17) rfl dX6_reach_16 rfl ?_
    refine y_lload_n (pc2 := 18) rfl dX6_reach_17 rfl ?_
    obtain ⟨g25, hf⟩ := y_g hf
    obtain ⟨r4, h5, c6, hf⟩ := y_clE hf
    refine y_callV (As := [.long p1]) (rm := rm_X6_slotOf) (cells := 0) (slots := 0) (pc2 := 21) rfl dX6_reach_18 n_X6_slotOf l_BoxYard_Search_90 i_X6_slotOf e_X6_slotOf (ci := 6) rfl rfl (by decide) g25 rfl rfl (by decide) (by decide) (by decide) (k_X6_slotOf c6) ?_
    refine y_istore (lv' := [(5, .int r4), (0, y_p p0), (1, .long p1), (3, .int p3), (4, .int p4)]) (pc2 := 23) rfl dX6_reach_21 (by decide) rfl ?_
    refine y_aload_n (x := p0) (pc2 := 24) rfl dX6_reach_23 rfl ?_
    obtain ⟨g24, hf⟩ := y_g hf
    refine y_getP (pc2 := 27) rfl dX6_reach_24 F_BoxYard_Search_27 (by decide) rfl g24 ?_
    refine y_iload (pc2 := 29) rfl dX6_reach_27 rfl ?_
    obtain ⟨g23, hf⟩ := y_g hf
    refine y_iald (pc2 := 30) rfl dX6_reach_29 g23.1 (y_ix_in g23.2) ?_
    refine y_jnE hf (fun j => ∀ (h7 : y_H), j h7 = some (rz, hz) → y_V l G z rm_X6_reach M_X6_reach ad0 h none hz 65 [] [] h7 0 0) (fun h7 hf => ?_) (fun j65 hj65 hf => ?_)
    · exact y_vretF hf dX6_reach_65 rfl (by decide) (by decide)
    · refine y_if_ne (tgt := 65) (pc2 := 33) rfl dX6_reach_30 (by decide) (fun c22 => ?_) (fun c22 => ?_)
      · replace hf := y_ie c22 hf
        exact y_pk [] rfl (hj65 _ hf)
      · replace hf := y_it c22 hf
        refine y_aload_n (x := p0) (pc2 := 34) rfl dX6_reach_33 rfl ?_
        refine y_lload_n (pc2 := 35) rfl dX6_reach_34 rfl ?_
        refine y_iload_n (pc2 := 36) rfl dX6_reach_35 rfl ?_
        refine y_iload (pc2 := 38) rfl dX6_reach_36 rfl ?_
        obtain ⟨g21, hf⟩ := y_g hf
        obtain ⟨r8, h9, c10, hf⟩ := y_clE hf
        refine y_callV (As := [.long p1, .int p3, .int r4]) (rm := rm_X6_keep) (cells := 0) (slots := 0) (pc2 := 41) rfl dX6_reach_38 n_X6_keep l_BoxYard_Search_93 i_X6_keep e_X6_keep (ci := 6) rfl rfl (by decide) g21 rfl rfl (by decide) (by decide) (by decide) (k_X6_keep c10) ?_
        refine y_ifz_eq (tgt := 65) (pc2 := 44) rfl dX6_reach_41 (by decide) (fun c20 => ?_) (fun c20 => ?_)
        · replace hf := y_ie c20 hf
          exact y_pk [] rfl (hj65 _ hf)
        · replace hf := y_it c20 hf
          refine y_lload_n (pc2 := 45) rfl dX6_reach_44 rfl ?_
          obtain ⟨r11, h12, c13, hf⟩ := y_clE hf
          refine y_callS (As := [.long p1]) (rm := rm_X6_outOf) (cells := 0) (slots := 0) (pc2 := 48) rfl dX6_reach_45 n_X6_outOf l_BoxYard_Search_112 t_X6_outOf rfl rfl (by decide) (by decide) (by decide) (k_X6_outOf c13) ?_
          refine y_aload_n (x := p0) (pc2 := 49) rfl dX6_reach_48 rfl ?_
          obtain ⟨g19, hf⟩ := y_g hf
          refine y_getI (pc2 := 52) rfl dX6_reach_49 F_BoxYard_Search_46 (by decide) rfl g19 ?_
          refine y_icmp_ne (tgt := 65) (pc2 := 55) rfl dX6_reach_52 (by decide) (fun c18 => ?_) (fun c18 => ?_)
          · replace hf := y_ie c18 hf
            exact y_pk [] rfl (hj65 _ hf)
          · replace hf := y_it c18 hf
            refine y_aload_n (x := p0) (pc2 := 56) rfl dX6_reach_55 rfl ?_
            refine y_aload_n (x := p0) (pc2 := 57) rfl dX6_reach_56 rfl ?_
            obtain ⟨g17, hf⟩ := y_g hf
            refine y_getI (pc2 := 60) rfl dX6_reach_57 F_BoxYard_Search_84 (by decide) rfl g17 ?_
            refine y_iconst (v := 1) (pc2 := 61) rfl dX6_reach_60 (by decide) ?_
            refine y_isub (pc2 := 62) rfl dX6_reach_61 ?_
            obtain ⟨g16, hf⟩ := y_g hf
            obtain ⟨h14, e15, hf⟩ := y_bdE hf
            refine y_putI (x := (y_I h12 p0 7) - 1) (pc2 := 65) rfl dX6_reach_62 Fp_BoxYard_Search_87 (by decide) rfl g16 e15 ?_
            exact y_pk [] rfl (hj65 _ hf)
  · replace hf := y_ie c29 hf
    refine y_aload_n (x := p0) (pc2 := 11) rfl dX6_reach_10 rfl ?_
    refine y_iconst (v := 1) (pc2 := 12) rfl dX6_reach_11 (by decide) ?_
    obtain ⟨g28, hf⟩ := y_g hf
    obtain ⟨h26, e27, hf⟩ := y_bdE hf
    refine y_putZ (x := true) (pc2 := 15) rfl dX6_reach_12 Fp_BoxYard_Search_51 (by decide) rfl g28 e27 ?_
    exact y_vretF hf dX6_reach_15 rfl (by decide) (by decide)
theorem dX6_spread_0 : decode cX6_spread 0 = .ok (.aload_n 0, 1) := by decide +kernel
theorem dX6_spread_1 : decode cX6_spread 1 = .ok (.getfield 20, 3) := by decide +kernel
theorem dX6_spread_4 : decode cX6_spread 4 = .ok (.iload_n 1, 1) := by decide +kernel
theorem dX6_spread_5 : decode cX6_spread 5 = .ok (.laload, 1) := by decide +kernel
theorem dX6_spread_6 : decode cX6_spread 6 = .ok (.lstore_n 3, 1) := by decide +kernel
theorem dX6_spread_7 : decode cX6_spread 7 = .ok (.iconst 0, 1) := by decide +kernel
theorem dX6_spread_8 : decode cX6_spread 8 = .ok (.istore 5, 2) := by decide +kernel
theorem dX6_spread_10 : decode cX6_spread 10 = .ok (.iload 5, 2) := by decide +kernel
theorem dX6_spread_12 : decode cX6_spread 12 = .ok (.aload_n 0, 1) := by decide +kernel
theorem dX6_spread_13 : decode cX6_spread 13 = .ok (.getfield 42, 3) := by decide +kernel
theorem dX6_spread_16 : decode cX6_spread 16 = .ok (.if_icmp .ge 22, 3) := by decide +kernel
theorem dX6_spread_19 : decode cX6_spread 19 = .ok (.aload_n 0, 1) := by decide +kernel
theorem dX6_spread_20 : decode cX6_spread 20 = .ok (.getfield 17, 3) := by decide +kernel
theorem dX6_spread_23 : decode cX6_spread 23 = .ok (.iload 5, 2) := by decide +kernel
theorem dX6_spread_25 : decode cX6_spread 25 = .ok (.lload_n 3, 1) := by decide +kernel
theorem dX6_spread_26 : decode cX6_spread 26 = .ok (.iload 5, 2) := by decide +kernel
theorem dX6_spread_28 : decode cX6_spread 28 = .ok (.invokestatic 105, 3) := by decide +kernel
theorem dX6_spread_31 : decode cX6_spread 31 = .ok (.iastore, 1) := by decide +kernel
theorem dX6_spread_32 : decode cX6_spread 32 = .ok (.iinc 5 1, 3) := by decide +kernel
theorem dX6_spread_35 : decode cX6_spread 35 = .ok (.goto (-25), 3) := by decide +kernel
theorem dX6_spread_38 : decode cX6_spread 38 = .ok (.iconst 0, 1) := by decide +kernel
theorem dX6_spread_39 : decode cX6_spread 39 = .ok (.istore 5, 2) := by decide +kernel
theorem dX6_spread_41 : decode cX6_spread 41 = .ok (.iload 5, 2) := by decide +kernel
theorem dX6_spread_43 : decode cX6_spread 43 = .ok (.aload_n 0, 1) := by decide +kernel
theorem dX6_spread_44 : decode cX6_spread 44 = .ok (.getfield 42, 3) := by decide +kernel
theorem dX6_spread_47 : decode cX6_spread 47 = .ok (.if_icmp .ge 191, 3) := by decide +kernel
theorem dX6_spread_50 : decode cX6_spread 50 = .ok (.aload_n 0, 1) := by decide +kernel
theorem dX6_spread_51 : decode cX6_spread 51 = .ok (.getfield 87, 3) := by decide +kernel
theorem dX6_spread_54 : decode cX6_spread 54 = .ok (.ifCond .ge 184, 3) := by decide +kernel
theorem dX6_spread_57 : decode cX6_spread 57 = .ok (.aload_n 0, 1) := by decide +kernel
theorem dX6_spread_58 : decode cX6_spread 58 = .ok (.getfield 17, 3) := by decide +kernel
theorem dX6_spread_61 : decode cX6_spread 61 = .ok (.iload 5, 2) := by decide +kernel
theorem dX6_spread_63 : decode cX6_spread 63 = .ok (.iaload, 1) := by decide +kernel
theorem dX6_spread_64 : decode cX6_spread 64 = .ok (.ifCond .ne 6, 3) := by decide +kernel
theorem dX6_spread_67 : decode cX6_spread 67 = .ok (.goto 165, 3) := by decide +kernel
theorem dX6_spread_70 : decode cX6_spread 70 = .ok (.bipush 15, 2) := by decide +kernel
theorem dX6_spread_72 : decode cX6_spread 72 = .ok (.iload 5, 2) := by decide +kernel
theorem dX6_spread_74 : decode cX6_spread 74 = .ok (.imul, 1) := by decide +kernel
theorem dX6_spread_75 : decode cX6_spread 75 = .ok (.iconst 3, 1) := by decide +kernel
theorem dX6_spread_76 : decode cX6_spread 76 = .ok (.aload_n 0, 1) := by decide +kernel
theorem dX6_spread_77 : decode cX6_spread 77 = .ok (.getfield 17, 3) := by decide +kernel
theorem dX6_spread_80 : decode cX6_spread 80 = .ok (.iload 5, 2) := by decide +kernel
theorem dX6_spread_82 : decode cX6_spread 82 = .ok (.iaload, 1) := by decide +kernel
theorem dX6_spread_83 : decode cX6_spread 83 = .ok (.iconst 1, 1) := by decide +kernel
theorem dX6_spread_84 : decode cX6_spread 84 = .ok (.isub, 1) := by decide +kernel
theorem dX6_spread_85 : decode cX6_spread 85 = .ok (.imul, 1) := by decide +kernel
theorem dX6_spread_86 : decode cX6_spread 86 = .ok (.iadd, 1) := by decide +kernel
theorem dX6_spread_87 : decode cX6_spread 87 = .ok (.istore 6, 2) := by decide +kernel
theorem dX6_spread_89 : decode cX6_spread 89 = .ok (.lload_n 3, 1) := by decide +kernel
theorem dX6_spread_90 : decode cX6_spread 90 = .ok (.iload 6, 2) := by decide +kernel
theorem dX6_spread_92 : decode cX6_spread 92 = .ok (.lushr, 1) := by decide +kernel
theorem dX6_spread_93 : decode cX6_spread 93 = .ok (.ldc2_w 108, 3) := by decide +kernel
theorem dX6_spread_96 : decode cX6_spread 96 = .ok (.land, 1) := by decide +kernel
theorem dX6_spread_97 : decode cX6_spread 97 = .ok (.lstore 7, 2) := by decide +kernel
theorem dX6_spread_99 : decode cX6_spread 99 = .ok (.lload_n 3, 1) := by decide +kernel
theorem dX6_spread_100 : decode cX6_spread 100 = .ok (.lload 7, 2) := by decide +kernel
theorem dX6_spread_102 : decode cX6_spread 102 = .ok (.iload 6, 2) := by decide +kernel
theorem dX6_spread_104 : decode cX6_spread 104 = .ok (.lshl, 1) := by decide +kernel
theorem dX6_spread_105 : decode cX6_spread 105 = .ok (.ldc2_w 110, 3) := by decide +kernel
theorem dX6_spread_108 : decode cX6_spread 108 = .ok (.lxor, 1) := by decide +kernel
theorem dX6_spread_109 : decode cX6_spread 109 = .ok (.land, 1) := by decide +kernel
theorem dX6_spread_110 : decode cX6_spread 110 = .ok (.lstore 9, 2) := by decide +kernel
theorem dX6_spread_112 : decode cX6_spread 112 = .ok (.iload_n 1, 1) := by decide +kernel
theorem dX6_spread_113 : decode cX6_spread 113 = .ok (.bipush 64, 2) := by decide +kernel
theorem dX6_spread_115 : decode cX6_spread 115 = .ok (.imul, 1) := by decide +kernel
theorem dX6_spread_116 : decode cX6_spread 116 = .ok (.iload 5, 2) := by decide +kernel
theorem dX6_spread_118 : decode cX6_spread 118 = .ok (.bipush 8, 2) := by decide +kernel
theorem dX6_spread_120 : decode cX6_spread 120 = .ok (.imul, 1) := by decide +kernel
theorem dX6_spread_121 : decode cX6_spread 121 = .ok (.iadd, 1) := by decide +kernel
theorem dX6_spread_122 : decode cX6_spread 122 = .ok (.istore 11, 2) := by decide +kernel
theorem dX6_spread_124 : decode cX6_spread 124 = .ok (.lload 7, 2) := by decide +kernel
theorem dX6_spread_126 : decode cX6_spread 126 = .ok (.lload_n 3, 1) := by decide +kernel
theorem dX6_spread_127 : decode cX6_spread 127 = .ok (.invokestatic 112, 3) := by decide +kernel
theorem dX6_spread_130 : decode cX6_spread 130 = .ok (.iconst 1, 1) := by decide +kernel
theorem dX6_spread_131 : decode cX6_spread 131 = .ok (.iadd, 1) := by decide +kernel
theorem dX6_spread_132 : decode cX6_spread 132 = .ok (.i2l, 1) := by decide +kernel
theorem dX6_spread_133 : decode cX6_spread 133 = .ok (.lcmp, 1) := by decide +kernel
theorem dX6_spread_134 : decode cX6_spread 134 = .ok (.ifCond .ne 16, 3) := by decide +kernel
theorem dX6_spread_137 : decode cX6_spread 137 = .ok (.aload_n 0, 1) := by decide +kernel
theorem dX6_spread_138 : decode cX6_spread 138 = .ok (.lload 9, 2) := by decide +kernel
theorem dX6_spread_140 : decode cX6_spread 140 = .ok (.ldc2_w 115, 3) := by decide +kernel
theorem dX6_spread_143 : decode cX6_spread 143 = .ok (.ladd, 1) := by decide +kernel
theorem dX6_spread_144 : decode cX6_spread 144 = .ok (.iload 11, 2) := by decide +kernel
theorem dX6_spread_146 : decode cX6_spread 146 = .ok (.iload_n 2, 1) := by decide +kernel
theorem dX6_spread_147 : decode cX6_spread 147 = .ok (.invokevirtual 117, 3) := by decide +kernel
theorem dX6_spread_150 : decode cX6_spread 150 = .ok (.iconst 0, 1) := by decide +kernel
theorem dX6_spread_151 : decode cX6_spread 151 = .ok (.istore 12, 2) := by decide +kernel
theorem dX6_spread_153 : decode cX6_spread 153 = .ok (.iload 12, 2) := by decide +kernel
theorem dX6_spread_155 : decode cX6_spread 155 = .ok (.aload_n 0, 1) := by decide +kernel
theorem dX6_spread_156 : decode cX6_spread 156 = .ok (.getfield 42, 3) := by decide +kernel
theorem dX6_spread_159 : decode cX6_spread 159 = .ok (.if_icmp .ge 73, 3) := by decide +kernel
theorem dX6_spread_162 : decode cX6_spread 162 = .ok (.aload_n 0, 1) := by decide +kernel
theorem dX6_spread_163 : decode cX6_spread 163 = .ok (.getfield 87, 3) := by decide +kernel
theorem dX6_spread_166 : decode cX6_spread 166 = .ok (.ifCond .ge 66, 3) := by decide +kernel
theorem dX6_spread_169 : decode cX6_spread 169 = .ok (.iload 12, 2) := by decide +kernel
theorem dX6_spread_171 : decode cX6_spread 171 = .ok (.iload 5, 2) := by decide +kernel
theorem dX6_spread_173 : decode cX6_spread 173 = .ok (.if_icmp .eq 53, 3) := by decide +kernel
theorem dX6_spread_176 : decode cX6_spread 176 = .ok (.aload_n 0, 1) := by decide +kernel
theorem dX6_spread_177 : decode cX6_spread 177 = .ok (.getfield 17, 3) := by decide +kernel
theorem dX6_spread_180 : decode cX6_spread 180 = .ok (.iload 12, 2) := by decide +kernel
theorem dX6_spread_182 : decode cX6_spread 182 = .ok (.iaload, 1) := by decide +kernel
theorem dX6_spread_183 : decode cX6_spread 183 = .ok (.aload_n 0, 1) := by decide +kernel
theorem dX6_spread_184 : decode cX6_spread 184 = .ok (.getfield 11, 3) := by decide +kernel
theorem dX6_spread_187 : decode cX6_spread 187 = .ok (.iload 12, 2) := by decide +kernel
theorem dX6_spread_189 : decode cX6_spread 189 = .ok (.iaload, 1) := by decide +kernel
theorem dX6_spread_190 : decode cX6_spread 190 = .ok (.if_icmp .ge 36, 3) := by decide +kernel
theorem dX6_spread_193 : decode cX6_spread 193 = .ok (.aload_n 0, 1) := by decide +kernel
theorem dX6_spread_194 : decode cX6_spread 194 = .ok (.lload 9, 2) := by decide +kernel
theorem dX6_spread_196 : decode cX6_spread 196 = .ok (.lload 7, 2) := by decide +kernel
theorem dX6_spread_198 : decode cX6_spread 198 = .ok (.bipush 15, 2) := by decide +kernel
theorem dX6_spread_200 : decode cX6_spread 200 = .ok (.iload 12, 2) := by decide +kernel
theorem dX6_spread_202 : decode cX6_spread 202 = .ok (.imul, 1) := by decide +kernel
theorem dX6_spread_203 : decode cX6_spread 203 = .ok (.iconst 3, 1) := by decide +kernel
theorem dX6_spread_204 : decode cX6_spread 204 = .ok (.aload_n 0, 1) := by decide +kernel
theorem dX6_spread_205 : decode cX6_spread 205 = .ok (.getfield 17, 3) := by decide +kernel
theorem dX6_spread_208 : decode cX6_spread 208 = .ok (.iload 12, 2) := by decide +kernel
theorem dX6_spread_210 : decode cX6_spread 210 = .ok (.iaload, 1) := by decide +kernel
theorem dX6_spread_211 : decode cX6_spread 211 = .ok (.imul, 1) := by decide +kernel
theorem dX6_spread_212 : decode cX6_spread 212 = .ok (.iadd, 1) := by decide +kernel
theorem dX6_spread_213 : decode cX6_spread 213 = .ok (.lshl, 1) := by decide +kernel
theorem dX6_spread_214 : decode cX6_spread 214 = .ok (.lor, 1) := by decide +kernel
theorem dX6_spread_215 : decode cX6_spread 215 = .ok (.iload 11, 2) := by decide +kernel
theorem dX6_spread_217 : decode cX6_spread 217 = .ok (.iload 12, 2) := by decide +kernel
theorem dX6_spread_219 : decode cX6_spread 219 = .ok (.iadd, 1) := by decide +kernel
theorem dX6_spread_220 : decode cX6_spread 220 = .ok (.iconst 1, 1) := by decide +kernel
theorem dX6_spread_221 : decode cX6_spread 221 = .ok (.iadd, 1) := by decide +kernel
theorem dX6_spread_222 : decode cX6_spread 222 = .ok (.iload_n 2, 1) := by decide +kernel
theorem dX6_spread_223 : decode cX6_spread 223 = .ok (.invokevirtual 117, 3) := by decide +kernel
theorem dX6_spread_226 : decode cX6_spread 226 = .ok (.iinc 12 1, 3) := by decide +kernel
theorem dX6_spread_229 : decode cX6_spread 229 = .ok (.goto (-76), 3) := by decide +kernel
theorem dX6_spread_232 : decode cX6_spread 232 = .ok (.iinc 5 1, 3) := by decide +kernel
theorem dX6_spread_235 : decode cX6_spread 235 = .ok (.goto (-194), 3) := by decide +kernel
theorem dX6_spread_238 : decode cX6_spread 238 = .ok (.return_, 1) := by decide +kernel
def M_X6_spread : y_M := (yX6_spread, cX6_spread, 13, (Option.none : Option Jvm.ClassFile.FieldType))
theorem n_X6_spread : y_N0 M_X6_spread 2 := ⟨(c_6 62 (by decide +kernel) rfl), (c_1 15 (by decide +kernel) rfl), ⟨by decide +kernel, by decide +kernel⟩, by decide +kernel⟩
theorem F_BoxYard_Search_87 : y_F "BoxYard$Search" 87 6 8 := ⟨_, _, _, rfl, by decide, Or.inl (c_5 211 (by decide +kernel) rfl)⟩
theorem F_BoxYard_Search_17 : y_F "BoxYard$Search" 17 6 1 := ⟨_, _, _, rfl, by decide, Or.inl (c_5 204 (by decide +kernel) rfl)⟩
theorem k_BoxYard_Search_108 : Cond.constantLong "BoxYard$Search" 108 7 ∈ y_tb := (c_6 66 (by decide +kernel) rfl)
theorem k_BoxYard_Search_110 : Cond.constantLong "BoxYard$Search" 110 (-1) ∈ y_tb := (c_6 67 (by decide +kernel) rfl)
theorem l_BoxYard_Search_117 : y_lnk "BoxYard$Search" 117 M_X6_reach := Or.inl (c_6 69 (by decide +kernel) rfl)
theorem i_X6_reach : Cond.instanceMethod (M_X6_reach).1 ∈ y_tb := (c_6 71 (by decide +kernel) rfl)
theorem e_X6_reach : Cond.selects (M_X6_reach).1.cls (M_X6_reach).1 (M_X6_reach).1 ∈ y_tb := (m_s 30 (by decide +kernel) rfl)
theorem k_BoxYard_Search_115 : Cond.constantLong "BoxYard$Search" 115 1152921504606846976 ∈ y_tb := (c_6 68 (by decide +kernel) rfl)
theorem l_BoxYard_Search_105 : y_lnk "BoxYard$Search" 105 M_X6_filledOf := Or.inl (c_6 63 (by decide +kernel) rfl)
theorem t_X6_filledOf : Cond.static (M_X6_filledOf).1 ∈ y_tb := (c_6 64 (by decide +kernel) rfl)
set_option maxRecDepth 100000 in
def f_X6_spread (p0 : Nat) (p1 : Int32) (p2 : Int32) (h : y_H) : Option (Unit × y_H) :=
  if y_K h p0 = 7 then
  if y_K h (y_P h p0 4) = 101 ∧ y_ix p1 (y_N h (y_P h p0 4)) = true then
  y_jl (fun (_ : Nat) (_ : Int32) (_ : Int32) (_ : Int64) (_ : Int32) (_ : y_H) => (none : Option (Unit × y_H))) (fun j10 (v0_10 : Nat) (v1_10 : Int32) (v2_10 : Int32) (v3_10 : Int64) (v5_10 : Int32) (h1 : y_H) =>
      if y_K h1 v0_10 = 7 then
      if (y_I h1 v0_10 2) ≤ v5_10 then
        y_jl (fun (_ : Nat) (_ : Int32) (_ : Int32) (_ : Int64) (_ : Int32) (_ : y_H) => (none : Option (Unit × y_H))) (fun j41 (v0_41 : Nat) (v1_41 : Int32) (v2_41 : Int32) (v3_41 : Int64) (v5_41 : Int32) (h2 : y_H) =>
            if y_K h2 v0_41 = 7 then
            y_jn (fun (h3 : y_H) => (
                some ((), h3) : Option (Unit × y_H))) (fun j238 =>
            if (y_I h2 v0_41 2) ≤ v5_41 then
              j238 h2
            else
              if y_K h2 v0_41 = 7 then
              if 0 ≤ (y_I h2 v0_41 8) then
                j238 h2
              else
                if y_K h2 v0_41 = 7 then
                if y_K h2 (y_P h2 v0_41 1) = 100 ∧ y_ix v5_41 (y_N h2 (y_P h2 v0_41 1)) = true then
                y_jn (fun (v0_232 : Nat) (v1_232 : Int32) (v2_232 : Int32) (v3_232 : Int64) (v5_232 : Int32) (h4 : y_H) => (
                    j41 v0_232 v1_232 v2_232 v3_232 (v5_232 + 1) h4 : Option (Unit × y_H))) (fun j232 =>
                if (y_I h2 (y_P h2 v0_41 1) (Int32.toNatClampNeg v5_41)) = 0 then
                  j232 v0_41 v1_41 v2_41 v3_41 v5_41 h2
                else
                  if y_K h2 v0_41 = 7 then
                  if y_K h2 (y_P h2 v0_41 1) = 100 ∧ y_ix v5_41 (y_N h2 (y_P h2 v0_41 1)) = true then
                  y_cl (f_X6_outOf v3_41 h2) (fun r5 h6 =>
                  y_jn (fun (v0_150 : Nat) (v1_150 : Int32) (v2_150 : Int32) (v3_150 : Int64) (v5_150 : Int32) (v7_150 : Int64) (v9_150 : Int64) (v11_150 : Int32) (h8 : y_H) => (
                      y_jl (fun (_ : Nat) (_ : Int32) (_ : Int32) (_ : Int64) (_ : Int32) (_ : Int64) (_ : Int64) (_ : Int32) (_ : Int32) (_ : y_H) => (none : Option (Unit × y_H))) (fun j153 (v0_153 : Nat) (v1_153 : Int32) (v2_153 : Int32) (v3_153 : Int64) (v5_153 : Int32) (v7_153 : Int64) (v9_153 : Int64) (v11_153 : Int32) (v12_153 : Int32) (h9 : y_H) =>
                          if y_K h9 v0_153 = 7 then
                          if (y_I h9 v0_153 2) ≤ v12_153 then
                            j232 v0_153 v1_153 v2_153 v3_153 v5_153 h9
                          else
                            if y_K h9 v0_153 = 7 then
                            if 0 ≤ (y_I h9 v0_153 8) then
                              j232 v0_153 v1_153 v2_153 v3_153 v5_153 h9
                            else
                              y_jn (fun (v0_226 : Nat) (v1_226 : Int32) (v2_226 : Int32) (v3_226 : Int64) (v5_226 : Int32) (v7_226 : Int64) (v9_226 : Int64) (v11_226 : Int32) (v12_226 : Int32) (h10 : y_H) => (
                                  j153 v0_226 v1_226 v2_226 v3_226 v5_226 v7_226 v9_226 v11_226 (v12_226 + 1) h10 : Option (Unit × y_H))) (fun j226 =>
                              if v12_153 = v5_153 then
                                j226 v0_153 v1_153 v2_153 v3_153 v5_153 v7_153 v9_153 v11_153 v12_153 h9
                              else
                                if y_K h9 v0_153 = 7 then
                                if y_K h9 (y_P h9 v0_153 1) = 100 ∧ y_ix v12_153 (y_N h9 (y_P h9 v0_153 1)) = true then
                                if y_K h9 v0_153 = 7 then
                                if y_K h9 (y_P h9 v0_153 0) = 100 ∧ y_ix v12_153 (y_N h9 (y_P h9 v0_153 0)) = true then
                                if (y_I h9 (y_P h9 v0_153 0) (Int32.toNatClampNeg v12_153)) ≤ (y_I h9 (y_P h9 v0_153 1) (Int32.toNatClampNeg v12_153)) then
                                  j226 v0_153 v1_153 v2_153 v3_153 v5_153 v7_153 v9_153 v11_153 v12_153 h9
                                else
                                  if y_K h9 v0_153 = 7 then
                                  if y_K h9 (y_P h9 v0_153 1) = 100 ∧ y_ix v12_153 (y_N h9 (y_P h9 v0_153 1)) = true then
                                  if y_K h9 v0_153 = 7 then
                                  y_cl (f_X6_reach v0_153 (v9_153 ||| (v7_153 <<< (Int32.toInt64 ((15 * v12_153) + (3 * (y_I h9 (y_P h9 v0_153 1) (Int32.toNatClampNeg v12_153)))) &&& 63))) ((v11_153 + v12_153) + 1) v2_153 h9) (fun _ h11 =>
                                  j226 v0_153 v1_153 v2_153 v3_153 v5_153 v7_153 v9_153 v11_153 v12_153 h11)
                                  else none
                                  else none
                                  else none
                                else none
                                else none
                                else none
                                else none)
                            else none
                          else none) (fun j153 =>
                      j153 v0_150 v1_150 v2_150 v3_150 v5_150 v7_150 v9_150 v11_150 0 h8) : Option (Unit × y_H))) (fun j150 =>
                  if (lg_cmp ((y_lush v3_41 ((15 * v5_41) + (3 * ((y_I h2 (y_P h2 v0_41 1) (Int32.toNatClampNeg v5_41)) - 1)))) &&& 7) (Int32.toInt64 (r5 + 1))) = 0 then
                    if y_K h6 v0_41 = 7 then
                    y_cl (f_X6_reach v0_41 ((v3_41 &&& ((((y_lush v3_41 ((15 * v5_41) + (3 * ((y_I h2 (y_P h2 v0_41 1) (Int32.toNatClampNeg v5_41)) - 1)))) &&& 7) <<< (Int32.toInt64 ((15 * v5_41) + (3 * ((y_I h2 (y_P h2 v0_41 1) (Int32.toNatClampNeg v5_41)) - 1))) &&& 63)) ^^^ (-1 : Int64))) + 1152921504606846976) ((v1_41 * 64) + (v5_41 * 8)) v2_41 h6) (fun _ h26 =>
                    j150 v0_41 v1_41 v2_41 v3_41 v5_41 ((y_lush v3_41 ((15 * v5_41) + (3 * ((y_I h2 (y_P h2 v0_41 1) (Int32.toNatClampNeg v5_41)) - 1)))) &&& 7) (v3_41 &&& ((((y_lush v3_41 ((15 * v5_41) + (3 * ((y_I h2 (y_P h2 v0_41 1) (Int32.toNatClampNeg v5_41)) - 1)))) &&& 7) <<< (Int32.toInt64 ((15 * v5_41) + (3 * ((y_I h2 (y_P h2 v0_41 1) (Int32.toNatClampNeg v5_41)) - 1))) &&& 63)) ^^^ (-1 : Int64))) ((v1_41 * 64) + (v5_41 * 8)) h26)
                    else none
                  else
                    j150 v0_41 v1_41 v2_41 v3_41 v5_41 ((y_lush v3_41 ((15 * v5_41) + (3 * ((y_I h2 (y_P h2 v0_41 1) (Int32.toNatClampNeg v5_41)) - 1)))) &&& 7) (v3_41 &&& ((((y_lush v3_41 ((15 * v5_41) + (3 * ((y_I h2 (y_P h2 v0_41 1) (Int32.toNatClampNeg v5_41)) - 1)))) &&& 7) <<< (Int32.toInt64 ((15 * v5_41) + (3 * ((y_I h2 (y_P h2 v0_41 1) (Int32.toNatClampNeg v5_41)) - 1))) &&& 63)) ^^^ (-1 : Int64))) ((v1_41 * 64) + (v5_41 * 8)) h6))
                  else none
                  else none)
                else none
                else none
              else none)
            else none) (fun j41 =>
        j41 v0_10 v1_10 v2_10 v3_10 0 h1)
      else
        if y_K h1 v0_10 = 7 then
        y_cl (f_X6_filledOf v3_10 v5_10 h1) (fun r39 h40 =>
        if y_K h40 (y_P h1 v0_10 1) = 100 ∧ y_ix v5_10 (y_N h40 (y_P h1 v0_10 1)) = true then
        y_bd (s_I h40 (y_P h1 v0_10 1) (Int32.toNatClampNeg v5_10) r39) (fun h42 =>
        j10 v0_10 v1_10 v2_10 v3_10 (v5_10 + 1) h42)
        else none)
        else none
      else none) (fun j10 =>
  j10 p0 p1 p2 (y_L h (y_P h p0 4) (Int32.toNatClampNeg p1)) 0 h)
  else none
  else none
abbrev rm_X6_spread : Room := { frames := 3, cells := 0, slots := 0, locals := 74 }
set_option maxRecDepth 100000 in
set_option maxHeartbeats 4000000 in
theorem k_X6_spread {l : Launch} {G : y_G} {p0 : Nat} {p1 : Int32} {p2 : Int32} {h hz : y_H} {rz : Unit} (hf : f_X6_spread p0 p1 p2 h = some (rz, hz)) : y_S l G M_X6_spread rm_X6_spread [y_p p0, .int p1, .int p2] h none hz := by
  refine y_start (lv := [(0, y_p p0), (1, .int p1), (2, .int p2)]) (by decide) (by simp [lg_sl, y_p_cat, y_ci, y_cj, M_X6_spread]) (by simp [lv_args, y_p_cat, y_ci, y_cj]) (fun z ad0 => ?_)
  unfold f_X6_spread at hf
  refine y_aload_n (x := p0) (pc2 := 1) rfl dX6_spread_0 rfl ?_
  obtain ⟨g49, hf⟩ := y_g hf
  refine y_getP (pc2 := 4) rfl dX6_spread_1 F_BoxYard_Search_20 (by decide) rfl g49 ?_
  refine y_iload_n (pc2 := 5) rfl dX6_spread_4 rfl ?_
  obtain ⟨g48, hf⟩ := y_g hf
  refine y_lald (pc2 := 6) rfl dX6_spread_5 g48.1 (y_ix_in g48.2) ?_
  refine y_lstore_n (lv' := [(3, .long (y_L h (y_P h p0 4) (Int32.toNatClampNeg p1))), (0, y_p p0), (1, .int p1), (2, .int p2)]) (pc2 := 7) rfl dX6_spread_6 (by decide) rfl ?_
  refine y_iconst (v := 0) (pc2 := 8) rfl dX6_spread_7 (by decide) ?_
  refine y_jlE hf (fun j => ∀ (v0_10 : Nat) (v1_10 : Int32) (v2_10 : Int32) (v3_10 : Int64) (v5_10 : Int32) (h1 : y_H), j v0_10 v1_10 v2_10 v3_10 v5_10 h1 = some (rz, hz) → y_V l G z rm_X6_spread M_X6_spread ad0 h none hz 10 [(0, y_p v0_10), (1, .int v1_10), (2, .int v2_10), (3, .long v3_10), (5, .int v5_10)] [] h1 0 0) (fun _ _ _ _ _ _ hf => by cases hf) (fun j10 hj10 v0_10 v1_10 v2_10 v3_10 v5_10 h1 hf => ?_) (fun j10 hj10 hf => ?_)
  · refine y_iload (pc2 := 12) rfl dX6_spread_10 rfl ?_
    refine y_aload_n (x := v0_10) (pc2 := 13) rfl dX6_spread_12 rfl ?_
    obtain ⟨g47, hf⟩ := y_g hf
    refine y_getI (pc2 := 16) rfl dX6_spread_13 F_BoxYard_Search_42 (by decide) rfl g47 ?_
    refine y_icmp_ge (tgt := 38) (pc2 := 19) rfl dX6_spread_16 (by decide) (fun c46 => ?_) (fun c46 => ?_)
    · replace hf := y_it c46 hf
      refine y_iconst (v := 0) (pc2 := 39) rfl dX6_spread_38 (by decide) ?_
      refine y_jlE hf (fun j => ∀ (v0_41 : Nat) (v1_41 : Int32) (v2_41 : Int32) (v3_41 : Int64) (v5_41 : Int32) (h2 : y_H), j v0_41 v1_41 v2_41 v3_41 v5_41 h2 = some (rz, hz) → y_V l G z rm_X6_spread M_X6_spread ad0 h none hz 41 [(0, y_p v0_41), (1, .int v1_41), (2, .int v2_41), (3, .long v3_41), (5, .int v5_41)] [] h2 0 0) (fun _ _ _ _ _ _ hf => by cases hf) (fun j41 hj41 v0_41 v1_41 v2_41 v3_41 v5_41 h2 hf => ?_) (fun j41 hj41 hf => ?_)
      · refine y_iload (pc2 := 43) rfl dX6_spread_41 rfl ?_
        refine y_aload_n (x := v0_41) (pc2 := 44) rfl dX6_spread_43 rfl ?_
        obtain ⟨g38, hf⟩ := y_g hf
        refine y_getI (pc2 := 47) rfl dX6_spread_44 F_BoxYard_Search_42 (by decide) rfl g38 ?_
        refine y_jnE hf (fun j => ∀ (h3 : y_H), j h3 = some (rz, hz) → y_V l G z rm_X6_spread M_X6_spread ad0 h none hz 238 [] [] h3 0 0) (fun h3 hf => ?_) (fun j238 hj238 hf => ?_)
        · exact y_vretF hf dX6_spread_238 rfl (by decide) (by decide)
        · refine y_icmp_ge (tgt := 238) (pc2 := 50) rfl dX6_spread_47 (by decide) (fun c37 => ?_) (fun c37 => ?_)
          · replace hf := y_it c37 hf
            exact y_pk [] rfl (hj238 _ hf)
          · replace hf := y_ie c37 hf
            refine y_aload_n (x := v0_41) (pc2 := 51) rfl dX6_spread_50 rfl ?_
            obtain ⟨g36, hf⟩ := y_g hf
            refine y_getI (pc2 := 54) rfl dX6_spread_51 F_BoxYard_Search_87 (by decide) rfl g36 ?_
            refine y_if_ge (tgt := 238) (pc2 := 57) rfl dX6_spread_54 (by decide) (fun c35 => ?_) (fun c35 => ?_)
            · replace hf := y_it c35 hf
              exact y_pk [] rfl (hj238 _ hf)
            · replace hf := y_ie c35 hf
              refine y_aload_n (x := v0_41) (pc2 := 58) rfl dX6_spread_57 rfl ?_
              obtain ⟨g34, hf⟩ := y_g hf
              refine y_getP (pc2 := 61) rfl dX6_spread_58 F_BoxYard_Search_17 (by decide) rfl g34 ?_
              refine y_iload (pc2 := 63) rfl dX6_spread_61 rfl ?_
              obtain ⟨g33, hf⟩ := y_g hf
              refine y_iald (pc2 := 64) rfl dX6_spread_63 g33.1 (y_ix_in g33.2) ?_
              refine y_jnE hf (fun j => ∀ (v0_232 : Nat) (v1_232 : Int32) (v2_232 : Int32) (v3_232 : Int64) (v5_232 : Int32) (h4 : y_H), j v0_232 v1_232 v2_232 v3_232 v5_232 h4 = some (rz, hz) → y_V l G z rm_X6_spread M_X6_spread ad0 h none hz 232 [(0, y_p v0_232), (1, .int v1_232), (2, .int v2_232), (3, .long v3_232), (5, .int v5_232)] [] h4 0 0) (fun v0_232 v1_232 v2_232 v3_232 v5_232 h4 hf => ?_) (fun j232 hj232 hf => ?_)
              · refine y_iinc (v := v5_232 + 1) (lv' := [(5, .int (v5_232 + 1)), (0, y_p v0_232), (1, .int v1_232), (2, .int v2_232), (3, .long v3_232)]) (pc2 := 235) rfl dX6_spread_232 rfl rfl (by decide) rfl ?_
                refine y_goto (tgt := 41) dX6_spread_235 (by decide) ?_
                exact y_pk [1, 2, 3, 4, 0] rfl (hj41 _ _ _ _ _ _ hf)
              · refine y_if_ne (tgt := 70) (pc2 := 67) rfl dX6_spread_64 (by decide) (fun c32 => ?_) (fun c32 => ?_)
                · replace hf := y_ie c32 hf
                  refine y_bipush (v := 15) (pc2 := 72) rfl dX6_spread_70 (by decide) ?_
                  refine y_iload (pc2 := 74) rfl dX6_spread_72 rfl ?_
                  refine y_imul (pc2 := 75) rfl dX6_spread_74 ?_
                  refine y_iconst (v := 3) (pc2 := 76) rfl dX6_spread_75 (by decide) ?_
                  refine y_aload_n (x := v0_41) (pc2 := 77) rfl dX6_spread_76 rfl ?_
                  obtain ⟨g31, hf⟩ := y_g hf
                  refine y_getP (pc2 := 80) rfl dX6_spread_77 F_BoxYard_Search_17 (by decide) rfl g31 ?_
                  refine y_iload (pc2 := 82) rfl dX6_spread_80 rfl ?_
                  obtain ⟨g30, hf⟩ := y_g hf
                  refine y_iald (pc2 := 83) rfl dX6_spread_82 g30.1 (y_ix_in g30.2) ?_
                  refine y_iconst (v := 1) (pc2 := 84) rfl dX6_spread_83 (by decide) ?_
                  refine y_isub (pc2 := 85) rfl dX6_spread_84 ?_
                  refine y_imul (pc2 := 86) rfl dX6_spread_85 ?_
                  refine y_iadd (pc2 := 87) rfl dX6_spread_86 ?_
                  refine y_istore (lv' := [(6, .int ((15 * v5_41) + (3 * ((y_I h2 (y_P h2 v0_41 1) (Int32.toNatClampNeg v5_41)) - 1)))), (0, y_p v0_41), (1, .int v1_41), (2, .int v2_41), (3, .long v3_41), (5, .int v5_41)]) (pc2 := 89) rfl dX6_spread_87 (by decide) rfl ?_
                  refine y_lload_n (pc2 := 90) rfl dX6_spread_89 rfl ?_
                  refine y_iload (pc2 := 92) rfl dX6_spread_90 rfl ?_
                  refine y_lus (pc2 := 93) rfl dX6_spread_92 ?_
                  refine y_ldc2 (v := 7) (pc2 := 96) rfl dX6_spread_93 k_BoxYard_Search_108 ?_
                  refine y_land (pc2 := 97) rfl dX6_spread_96 ?_
                  refine y_lstore (lv' := [(7, .long ((y_lush v3_41 ((15 * v5_41) + (3 * ((y_I h2 (y_P h2 v0_41 1) (Int32.toNatClampNeg v5_41)) - 1)))) &&& 7)), (6, .int ((15 * v5_41) + (3 * ((y_I h2 (y_P h2 v0_41 1) (Int32.toNatClampNeg v5_41)) - 1)))), (0, y_p v0_41), (1, .int v1_41), (2, .int v2_41), (3, .long v3_41), (5, .int v5_41)]) (pc2 := 99) rfl dX6_spread_97 (by decide) rfl ?_
                  refine y_lload_n (pc2 := 100) rfl dX6_spread_99 rfl ?_
                  refine y_lload (pc2 := 102) rfl dX6_spread_100 rfl ?_
                  refine y_iload (pc2 := 104) rfl dX6_spread_102 rfl ?_
                  refine y_lshl (pc2 := 105) rfl dX6_spread_104 ?_
                  refine y_ldc2 (v := (-1 : Int64)) (pc2 := 108) rfl dX6_spread_105 k_BoxYard_Search_110 ?_
                  refine y_lxor (pc2 := 109) rfl dX6_spread_108 ?_
                  refine y_land (pc2 := 110) rfl dX6_spread_109 ?_
                  refine y_lstore (lv' := [(9, .long (v3_41 &&& ((((y_lush v3_41 ((15 * v5_41) + (3 * ((y_I h2 (y_P h2 v0_41 1) (Int32.toNatClampNeg v5_41)) - 1)))) &&& 7) <<< (Int32.toInt64 ((15 * v5_41) + (3 * ((y_I h2 (y_P h2 v0_41 1) (Int32.toNatClampNeg v5_41)) - 1))) &&& 63)) ^^^ (-1 : Int64)))), (7, .long ((y_lush v3_41 ((15 * v5_41) + (3 * ((y_I h2 (y_P h2 v0_41 1) (Int32.toNatClampNeg v5_41)) - 1)))) &&& 7)), (6, .int ((15 * v5_41) + (3 * ((y_I h2 (y_P h2 v0_41 1) (Int32.toNatClampNeg v5_41)) - 1)))), (0, y_p v0_41), (1, .int v1_41), (2, .int v2_41), (3, .long v3_41), (5, .int v5_41)]) (pc2 := 112) rfl dX6_spread_110 (by decide) rfl ?_
                  refine y_iload_n (pc2 := 113) rfl dX6_spread_112 rfl ?_
                  refine y_bipush (v := 64) (pc2 := 115) rfl dX6_spread_113 (by decide) ?_
                  refine y_imul (pc2 := 116) rfl dX6_spread_115 ?_
                  refine y_iload (pc2 := 118) rfl dX6_spread_116 rfl ?_
                  refine y_bipush (v := 8) (pc2 := 120) rfl dX6_spread_118 (by decide) ?_
                  refine y_imul (pc2 := 121) rfl dX6_spread_120 ?_
                  refine y_iadd (pc2 := 122) rfl dX6_spread_121 ?_
                  refine y_istore (lv' := [(11, .int ((v1_41 * 64) + (v5_41 * 8))), (9, .long (v3_41 &&& ((((y_lush v3_41 ((15 * v5_41) + (3 * ((y_I h2 (y_P h2 v0_41 1) (Int32.toNatClampNeg v5_41)) - 1)))) &&& 7) <<< (Int32.toInt64 ((15 * v5_41) + (3 * ((y_I h2 (y_P h2 v0_41 1) (Int32.toNatClampNeg v5_41)) - 1))) &&& 63)) ^^^ (-1 : Int64)))), (7, .long ((y_lush v3_41 ((15 * v5_41) + (3 * ((y_I h2 (y_P h2 v0_41 1) (Int32.toNatClampNeg v5_41)) - 1)))) &&& 7)), (6, .int ((15 * v5_41) + (3 * ((y_I h2 (y_P h2 v0_41 1) (Int32.toNatClampNeg v5_41)) - 1)))), (0, y_p v0_41), (1, .int v1_41), (2, .int v2_41), (3, .long v3_41), (5, .int v5_41)]) (pc2 := 124) rfl dX6_spread_122 (by decide) rfl ?_
                  refine y_lload (pc2 := 126) rfl dX6_spread_124 rfl ?_
                  refine y_lload_n (pc2 := 127) rfl dX6_spread_126 rfl ?_
                  obtain ⟨r5, h6, c7, hf⟩ := y_clE hf
                  refine y_callS (As := [.long v3_41]) (rm := rm_X6_outOf) (cells := 0) (slots := 0) (pc2 := 130) rfl dX6_spread_127 n_X6_outOf l_BoxYard_Search_112 t_X6_outOf rfl rfl (by decide) (by simp [y_ci, y_cj, y_p_cat]) (by decide) (k_X6_outOf c7) ?_
                  refine y_iconst (v := 1) (pc2 := 131) rfl dX6_spread_130 (by decide) ?_
                  refine y_iadd (pc2 := 132) rfl dX6_spread_131 ?_
                  refine y_i2l (pc2 := 133) rfl dX6_spread_132 ?_
                  refine y_lcmp (pc2 := 134) rfl dX6_spread_133 ?_
                  refine y_jnE hf (fun j => ∀ (v0_150 : Nat) (v1_150 : Int32) (v2_150 : Int32) (v3_150 : Int64) (v5_150 : Int32) (v7_150 : Int64) (v9_150 : Int64) (v11_150 : Int32) (h8 : y_H), j v0_150 v1_150 v2_150 v3_150 v5_150 v7_150 v9_150 v11_150 h8 = some (rz, hz) → y_V l G z rm_X6_spread M_X6_spread ad0 h none hz 150 [(0, y_p v0_150), (1, .int v1_150), (2, .int v2_150), (3, .long v3_150), (5, .int v5_150), (7, .long v7_150), (9, .long v9_150), (11, .int v11_150)] [] h8 0 0) (fun v0_150 v1_150 v2_150 v3_150 v5_150 v7_150 v9_150 v11_150 h8 hf => ?_) (fun j150 hj150 hf => ?_)
                  · refine y_iconst (v := 0) (pc2 := 151) rfl dX6_spread_150 (by decide) ?_
                    refine y_jlE hf (fun j => ∀ (v0_153 : Nat) (v1_153 : Int32) (v2_153 : Int32) (v3_153 : Int64) (v5_153 : Int32) (v7_153 : Int64) (v9_153 : Int64) (v11_153 : Int32) (v12_153 : Int32) (h9 : y_H), j v0_153 v1_153 v2_153 v3_153 v5_153 v7_153 v9_153 v11_153 v12_153 h9 = some (rz, hz) → y_V l G z rm_X6_spread M_X6_spread ad0 h none hz 153 [(0, y_p v0_153), (1, .int v1_153), (2, .int v2_153), (3, .long v3_153), (5, .int v5_153), (7, .long v7_153), (9, .long v9_153), (11, .int v11_153), (12, .int v12_153)] [] h9 0 0) (fun _ _ _ _ _ _ _ _ _ _ hf => by cases hf) (fun j153 hj153 v0_153 v1_153 v2_153 v3_153 v5_153 v7_153 v9_153 v11_153 v12_153 h9 hf => ?_) (fun j153 hj153 hf => ?_)
                    · refine y_iload (pc2 := 155) rfl dX6_spread_153 rfl ?_
                      refine y_aload_n (x := v0_153) (pc2 := 156) rfl dX6_spread_155 rfl ?_
                      obtain ⟨g25, hf⟩ := y_g hf
                      refine y_getI (pc2 := 159) rfl dX6_spread_156 F_BoxYard_Search_42 (by decide) rfl g25 ?_
                      refine y_icmp_ge (tgt := 232) (pc2 := 162) rfl dX6_spread_159 (by decide) (fun c24 => ?_) (fun c24 => ?_)
                      · replace hf := y_it c24 hf
                        exact y_pk [0, 1, 2, 3, 4] rfl (hj232 _ _ _ _ _ _ hf)
                      · replace hf := y_ie c24 hf
                        refine y_aload_n (x := v0_153) (pc2 := 163) rfl dX6_spread_162 rfl ?_
                        obtain ⟨g23, hf⟩ := y_g hf
                        refine y_getI (pc2 := 166) rfl dX6_spread_163 F_BoxYard_Search_87 (by decide) rfl g23 ?_
                        refine y_if_ge (tgt := 232) (pc2 := 169) rfl dX6_spread_166 (by decide) (fun c22 => ?_) (fun c22 => ?_)
                        · replace hf := y_it c22 hf
                          exact y_pk [0, 1, 2, 3, 4] rfl (hj232 _ _ _ _ _ _ hf)
                        · replace hf := y_ie c22 hf
                          refine y_iload (pc2 := 171) rfl dX6_spread_169 rfl ?_
                          refine y_iload (pc2 := 173) rfl dX6_spread_171 rfl ?_
                          refine y_jnE hf (fun j => ∀ (v0_226 : Nat) (v1_226 : Int32) (v2_226 : Int32) (v3_226 : Int64) (v5_226 : Int32) (v7_226 : Int64) (v9_226 : Int64) (v11_226 : Int32) (v12_226 : Int32) (h10 : y_H), j v0_226 v1_226 v2_226 v3_226 v5_226 v7_226 v9_226 v11_226 v12_226 h10 = some (rz, hz) → y_V l G z rm_X6_spread M_X6_spread ad0 h none hz 226 [(0, y_p v0_226), (1, .int v1_226), (2, .int v2_226), (3, .long v3_226), (5, .int v5_226), (7, .long v7_226), (9, .long v9_226), (11, .int v11_226), (12, .int v12_226)] [] h10 0 0) (fun v0_226 v1_226 v2_226 v3_226 v5_226 v7_226 v9_226 v11_226 v12_226 h10 hf => ?_) (fun j226 hj226 hf => ?_)
                          · refine y_iinc (v := v12_226 + 1) (lv' := [(12, .int (v12_226 + 1)), (0, y_p v0_226), (1, .int v1_226), (2, .int v2_226), (3, .long v3_226), (5, .int v5_226), (7, .long v7_226), (9, .long v9_226), (11, .int v11_226)]) (pc2 := 229) rfl dX6_spread_226 rfl rfl (by decide) rfl ?_
                            refine y_goto (tgt := 153) dX6_spread_229 (by decide) ?_
                            exact y_pk [1, 2, 3, 4, 5, 6, 7, 8, 0] rfl (hj153 _ _ _ _ _ _ _ _ _ _ hf)
                          · refine y_icmp_eq (tgt := 226) (pc2 := 176) rfl dX6_spread_173 (by decide) (fun c21 => ?_) (fun c21 => ?_)
                            · replace hf := y_it c21 hf
                              exact y_pk [0, 1, 2, 3, 4, 5, 6, 7, 8] rfl (hj226 _ _ _ _ _ _ _ _ _ _ hf)
                            · replace hf := y_ie c21 hf
                              refine y_aload_n (x := v0_153) (pc2 := 177) rfl dX6_spread_176 rfl ?_
                              obtain ⟨g20, hf⟩ := y_g hf
                              refine y_getP (pc2 := 180) rfl dX6_spread_177 F_BoxYard_Search_17 (by decide) rfl g20 ?_
                              refine y_iload (pc2 := 182) rfl dX6_spread_180 rfl ?_
                              obtain ⟨g19, hf⟩ := y_g hf
                              refine y_iald (pc2 := 183) rfl dX6_spread_182 g19.1 (y_ix_in g19.2) ?_
                              refine y_aload_n (x := v0_153) (pc2 := 184) rfl dX6_spread_183 rfl ?_
                              obtain ⟨g18, hf⟩ := y_g hf
                              refine y_getP (pc2 := 187) rfl dX6_spread_184 F_BoxYard_Search_11 (by decide) rfl g18 ?_
                              refine y_iload (pc2 := 189) rfl dX6_spread_187 rfl ?_
                              obtain ⟨g17, hf⟩ := y_g hf
                              refine y_iald (pc2 := 190) rfl dX6_spread_189 g17.1 (y_ix_in g17.2) ?_
                              refine y_icmp_ge (tgt := 226) (pc2 := 193) rfl dX6_spread_190 (by decide) (fun c16 => ?_) (fun c16 => ?_)
                              · replace hf := y_it c16 hf
                                exact y_pk [0, 1, 2, 3, 4, 5, 6, 7, 8] rfl (hj226 _ _ _ _ _ _ _ _ _ _ hf)
                              · replace hf := y_ie c16 hf
                                refine y_aload_n (x := v0_153) (pc2 := 194) rfl dX6_spread_193 rfl ?_
                                refine y_lload (pc2 := 196) rfl dX6_spread_194 rfl ?_
                                refine y_lload (pc2 := 198) rfl dX6_spread_196 rfl ?_
                                refine y_bipush (v := 15) (pc2 := 200) rfl dX6_spread_198 (by decide) ?_
                                refine y_iload (pc2 := 202) rfl dX6_spread_200 rfl ?_
                                refine y_imul (pc2 := 203) rfl dX6_spread_202 ?_
                                refine y_iconst (v := 3) (pc2 := 204) rfl dX6_spread_203 (by decide) ?_
                                refine y_aload_n (x := v0_153) (pc2 := 205) rfl dX6_spread_204 rfl ?_
                                obtain ⟨g15, hf⟩ := y_g hf
                                refine y_getP (pc2 := 208) rfl dX6_spread_205 F_BoxYard_Search_17 (by decide) rfl g15 ?_
                                refine y_iload (pc2 := 210) rfl dX6_spread_208 rfl ?_
                                obtain ⟨g14, hf⟩ := y_g hf
                                refine y_iald (pc2 := 211) rfl dX6_spread_210 g14.1 (y_ix_in g14.2) ?_
                                refine y_imul (pc2 := 212) rfl dX6_spread_211 ?_
                                refine y_iadd (pc2 := 213) rfl dX6_spread_212 ?_
                                refine y_lshl (pc2 := 214) rfl dX6_spread_213 ?_
                                refine y_lor (pc2 := 215) rfl dX6_spread_214 ?_
                                refine y_iload (pc2 := 217) rfl dX6_spread_215 rfl ?_
                                refine y_iload (pc2 := 219) rfl dX6_spread_217 rfl ?_
                                refine y_iadd (pc2 := 220) rfl dX6_spread_219 ?_
                                refine y_iconst (v := 1) (pc2 := 221) rfl dX6_spread_220 (by decide) ?_
                                refine y_iadd (pc2 := 222) rfl dX6_spread_221 ?_
                                refine y_iload_n (pc2 := 223) rfl dX6_spread_222 rfl ?_
                                obtain ⟨g13, hf⟩ := y_g hf
                                obtain ⟨r_, h11, c12, hf⟩ := y_clE hf
                                refine y_callV (As := [.long (v9_153 ||| (v7_153 <<< (Int32.toInt64 ((15 * v12_153) + (3 * (y_I h9 (y_P h9 v0_153 1) (Int32.toNatClampNeg v12_153)))) &&& 63))), .int ((v11_153 + v12_153) + 1), .int v2_153]) (rm := rm_X6_reach) (cells := 0) (slots := 0) (pc2 := 226) rfl dX6_spread_223 n_X6_reach l_BoxYard_Search_117 i_X6_reach e_X6_reach (ci := 6) rfl rfl (by decide) g13 rfl rfl (by decide) (by decide) (by decide) (k_X6_reach c12) ?_
                                exact y_pk [0, 1, 2, 3, 4, 5, 6, 7, 8] rfl (hj226 _ _ _ _ _ _ _ _ _ _ hf)
                    · refine y_istore (lv' := [(12, .int 0), (0, y_p v0_150), (1, .int v1_150), (2, .int v2_150), (3, .long v3_150), (5, .int v5_150), (7, .long v7_150), (9, .long v9_150), (11, .int v11_150)]) (pc2 := 153) rfl dX6_spread_151 (by decide) rfl ?_
                      exact y_pk [1, 2, 3, 4, 5, 6, 7, 8, 0] rfl (hj153 _ _ _ _ _ _ _ _ _ _ hf)
                  · refine y_if_ne (tgt := 150) (pc2 := 137) rfl dX6_spread_134 (by decide) (fun c29 => ?_) (fun c29 => ?_)
                    · replace hf := y_ie c29 hf
                      exact y_pk [4, 5, 6, 7, 8, 2, 1, 0] rfl (hj150 _ _ _ _ _ _ _ _ _ hf)
                    · replace hf := y_it c29 hf
                      refine y_aload_n (x := v0_41) (pc2 := 138) rfl dX6_spread_137 rfl ?_
                      refine y_lload (pc2 := 140) rfl dX6_spread_138 rfl ?_
                      refine y_ldc2 (v := 1152921504606846976) (pc2 := 143) rfl dX6_spread_140 k_BoxYard_Search_115 ?_
                      refine y_ladd (pc2 := 144) rfl dX6_spread_143 ?_
                      refine y_iload (pc2 := 146) rfl dX6_spread_144 rfl ?_
                      refine y_iload_n (pc2 := 147) rfl dX6_spread_146 rfl ?_
                      obtain ⟨g28, hf⟩ := y_g hf
                      obtain ⟨r_, h26, c27, hf⟩ := y_clE hf
                      refine y_callV (As := [.long ((v3_41 &&& ((((y_lush v3_41 ((15 * v5_41) + (3 * ((y_I h2 (y_P h2 v0_41 1) (Int32.toNatClampNeg v5_41)) - 1)))) &&& 7) <<< (Int32.toInt64 ((15 * v5_41) + (3 * ((y_I h2 (y_P h2 v0_41 1) (Int32.toNatClampNeg v5_41)) - 1))) &&& 63)) ^^^ (-1 : Int64))) + 1152921504606846976), .int ((v1_41 * 64) + (v5_41 * 8)), .int v2_41]) (rm := rm_X6_reach) (cells := 0) (slots := 0) (pc2 := 150) rfl dX6_spread_147 n_X6_reach l_BoxYard_Search_117 i_X6_reach e_X6_reach (ci := 6) rfl rfl (by decide) g28 rfl rfl (by decide) (by decide) (by decide) (k_X6_reach c27) ?_
                      exact y_pk [4, 5, 6, 7, 8, 2, 1, 0] rfl (hj150 _ _ _ _ _ _ _ _ _ hf)
                · replace hf := y_it c32 hf
                  refine y_goto (tgt := 232) dX6_spread_67 (by decide) ?_
                  exact y_pk [0, 1, 2, 3, 4] rfl (hj232 _ _ _ _ _ _ hf)
      · refine y_istore (lv' := [(5, .int 0), (0, y_p v0_10), (1, .int v1_10), (2, .int v2_10), (3, .long v3_10)]) (pc2 := 41) rfl dX6_spread_39 (by decide) rfl ?_
        exact y_pk [1, 2, 3, 4, 0] rfl (hj41 _ _ _ _ _ _ hf)
    · replace hf := y_ie c46 hf
      refine y_aload_n (x := v0_10) (pc2 := 20) rfl dX6_spread_19 rfl ?_
      obtain ⟨g45, hf⟩ := y_g hf
      refine y_getP (pc2 := 23) rfl dX6_spread_20 F_BoxYard_Search_17 (by decide) rfl g45 ?_
      refine y_iload (pc2 := 25) rfl dX6_spread_23 rfl ?_
      refine y_lload_n (pc2 := 26) rfl dX6_spread_25 rfl ?_
      refine y_iload (pc2 := 28) rfl dX6_spread_26 rfl ?_
      obtain ⟨r39, h40, c41, hf⟩ := y_clE hf
      refine y_callS (As := [.long v3_10, .int v5_10]) (rm := rm_X6_filledOf) (cells := 0) (slots := 0) (pc2 := 31) rfl dX6_spread_28 n_X6_filledOf l_BoxYard_Search_105 t_X6_filledOf rfl rfl (by decide) (by simp [y_ci, y_cj, y_p_cat]) (by decide) (k_X6_filledOf c41) ?_
      obtain ⟨g44, hf⟩ := y_g hf
      obtain ⟨h42, e43, hf⟩ := y_bdE hf
      refine y_iast (x := r39) (pc2 := 32) rfl dX6_spread_31 g44.1 (y_ix_in g44.2) e43 ?_
      refine y_iinc (v := v5_10 + 1) (lv' := [(5, .int (v5_10 + 1)), (0, y_p v0_10), (1, .int v1_10), (2, .int v2_10), (3, .long v3_10)]) (pc2 := 35) rfl dX6_spread_32 rfl rfl (by decide) rfl ?_
      refine y_goto (tgt := 10) dX6_spread_35 (by decide) ?_
      exact y_pk [1, 2, 3, 4, 0] rfl (hj10 _ _ _ _ _ _ hf)
  · refine y_istore (lv' := [(5, .int 0), (3, .long (y_L h (y_P h p0 4) (Int32.toNatClampNeg p1))), (0, y_p p0), (1, .int p1), (2, .int p2)]) (pc2 := 10) rfl dX6_spread_8 (by decide) rfl ?_
    exact y_pk [2, 3, 4, 1, 0] rfl (hj10 _ _ _ _ _ _ hf)
theorem dX6_writeRow_0 : decode cX6_writeRow 0 = .ok (.aload_n 0, 1) := by decide +kernel
theorem dX6_writeRow_1 : decode cX6_writeRow 1 = .ok (.getfield 87, 3) := by decide +kernel
theorem dX6_writeRow_4 : decode cX6_writeRow 4 = .ok (.istore 4, 2) := by decide +kernel
theorem dX6_writeRow_6 : decode cX6_writeRow 6 = .ok (.iload_n 3, 1) := by decide +kernel
theorem dX6_writeRow_7 : decode cX6_writeRow 7 = .ok (.iconst 1, 1) := by decide +kernel
theorem dX6_writeRow_8 : decode cX6_writeRow 8 = .ok (.isub, 1) := by decide +kernel
theorem dX6_writeRow_9 : decode cX6_writeRow 9 = .ok (.istore 5, 2) := by decide +kernel
theorem dX6_writeRow_11 : decode cX6_writeRow 11 = .ok (.iload 5, 2) := by decide +kernel
theorem dX6_writeRow_13 : decode cX6_writeRow 13 = .ok (.ifCond .lt 92, 3) := by decide +kernel
theorem dX6_writeRow_16 : decode cX6_writeRow 16 = .ok (.iload 4, 2) := by decide +kernel
theorem dX6_writeRow_18 : decode cX6_writeRow 18 = .ok (.iconst 0, 1) := by decide +kernel
theorem dX6_writeRow_19 : decode cX6_writeRow 19 = .ok (.aload_n 0, 1) := by decide +kernel
theorem dX6_writeRow_20 : decode cX6_writeRow 20 = .ok (.getfield 84, 3) := by decide +kernel
theorem dX6_writeRow_23 : decode cX6_writeRow 23 = .ok (.iconst 1, 1) := by decide +kernel
theorem dX6_writeRow_24 : decode cX6_writeRow 24 = .ok (.isub, 1) := by decide +kernel
theorem dX6_writeRow_25 : decode cX6_writeRow 25 = .ok (.invokestatic 130, 3) := by decide +kernel
theorem dX6_writeRow_28 : decode cX6_writeRow 28 = .ok (.ifCond .eq 17, 3) := by decide +kernel
theorem dX6_writeRow_31 : decode cX6_writeRow 31 = .ok (.iload 5, 2) := by decide +kernel
theorem dX6_writeRow_33 : decode cX6_writeRow 33 = .ok (.aload_n 1, 1) := by decide +kernel
theorem dX6_writeRow_34 : decode cX6_writeRow 34 = .ok (.arraylength, 1) := by decide +kernel
theorem dX6_writeRow_35 : decode cX6_writeRow 35 = .ok (.if_icmp .ge 10, 3) := by decide +kernel
theorem dX6_writeRow_38 : decode cX6_writeRow 38 = .ok (.iload 5, 2) := by decide +kernel
theorem dX6_writeRow_40 : decode cX6_writeRow 40 = .ok (.aload_n 2, 1) := by decide +kernel
theorem dX6_writeRow_41 : decode cX6_writeRow 41 = .ok (.arraylength, 1) := by decide +kernel
theorem dX6_writeRow_42 : decode cX6_writeRow 42 = .ok (.if_icmp .lt 4, 3) := by decide +kernel
theorem dX6_writeRow_45 : decode cX6_writeRow 45 = .ok (.return_, 1) := by decide +kernel
theorem dX6_writeRow_46 : decode cX6_writeRow 46 = .ok (.aload_n 0, 1) := by decide +kernel
theorem dX6_writeRow_47 : decode cX6_writeRow 47 = .ok (.getfield 24, 3) := by decide +kernel
theorem dX6_writeRow_50 : decode cX6_writeRow 50 = .ok (.iload 4, 2) := by decide +kernel
theorem dX6_writeRow_52 : decode cX6_writeRow 52 = .ok (.iaload, 1) := by decide +kernel
theorem dX6_writeRow_53 : decode cX6_writeRow 53 = .ok (.istore 6, 2) := by decide +kernel
theorem dX6_writeRow_55 : decode cX6_writeRow 55 = .ok (.iload 6, 2) := by decide +kernel
theorem dX6_writeRow_57 : decode cX6_writeRow 57 = .ok (.bipush 8, 2) := by decide +kernel
theorem dX6_writeRow_59 : decode cX6_writeRow 59 = .ok (.irem, 1) := by decide +kernel
theorem dX6_writeRow_60 : decode cX6_writeRow 60 = .ok (.istore 7, 2) := by decide +kernel
theorem dX6_writeRow_62 : decode cX6_writeRow 62 = .ok (.aload_n 1, 1) := by decide +kernel
theorem dX6_writeRow_63 : decode cX6_writeRow 63 = .ok (.iload 5, 2) := by decide +kernel
theorem dX6_writeRow_65 : decode cX6_writeRow 65 = .ok (.iload 6, 2) := by decide +kernel
theorem dX6_writeRow_67 : decode cX6_writeRow 67 = .ok (.bipush 8, 2) := by decide +kernel
theorem dX6_writeRow_69 : decode cX6_writeRow 69 = .ok (.idiv, 1) := by decide +kernel
theorem dX6_writeRow_70 : decode cX6_writeRow 70 = .ok (.bipush 8, 2) := by decide +kernel
theorem dX6_writeRow_72 : decode cX6_writeRow 72 = .ok (.irem, 1) := by decide +kernel
theorem dX6_writeRow_73 : decode cX6_writeRow 73 = .ok (.iastore, 1) := by decide +kernel
theorem dX6_writeRow_74 : decode cX6_writeRow 74 = .ok (.aload_n 2, 1) := by decide +kernel
theorem dX6_writeRow_75 : decode cX6_writeRow 75 = .ok (.iload 5, 2) := by decide +kernel
theorem dX6_writeRow_77 : decode cX6_writeRow 77 = .ok (.iload 7, 2) := by decide +kernel
theorem dX6_writeRow_79 : decode cX6_writeRow 79 = .ok (.ifCond .ne 8, 3) := by decide +kernel
theorem dX6_writeRow_82 : decode cX6_writeRow 82 = .ok (.bipush (-9), 2) := by decide +kernel
theorem dX6_writeRow_84 : decode cX6_writeRow 84 = .ok (.goto 7, 3) := by decide +kernel
theorem dX6_writeRow_87 : decode cX6_writeRow 87 = .ok (.iload 7, 2) := by decide +kernel
theorem dX6_writeRow_89 : decode cX6_writeRow 89 = .ok (.iconst 1, 1) := by decide +kernel
theorem dX6_writeRow_90 : decode cX6_writeRow 90 = .ok (.isub, 1) := by decide +kernel
theorem dX6_writeRow_91 : decode cX6_writeRow 91 = .ok (.iastore, 1) := by decide +kernel
theorem dX6_writeRow_92 : decode cX6_writeRow 92 = .ok (.iload 6, 2) := by decide +kernel
theorem dX6_writeRow_94 : decode cX6_writeRow 94 = .ok (.bipush 64, 2) := by decide +kernel
theorem dX6_writeRow_96 : decode cX6_writeRow 96 = .ok (.idiv, 1) := by decide +kernel
theorem dX6_writeRow_97 : decode cX6_writeRow 97 = .ok (.istore 4, 2) := by decide +kernel
theorem dX6_writeRow_99 : decode cX6_writeRow 99 = .ok (.iinc 5 (-1), 3) := by decide +kernel
theorem dX6_writeRow_102 : decode cX6_writeRow 102 = .ok (.goto (-91), 3) := by decide +kernel
theorem dX6_writeRow_105 : decode cX6_writeRow 105 = .ok (.return_, 1) := by decide +kernel
def M_X6_writeRow : y_M := (yX6_writeRow, cX6_writeRow, 8, (Option.none : Option Jvm.ClassFile.FieldType))
theorem n_X6_writeRow : y_N0 M_X6_writeRow 3 := ⟨(c_6 76 (by decide +kernel) rfl), (c_1 15 (by decide +kernel) rfl), ⟨by decide +kernel, by decide +kernel⟩, by decide +kernel⟩
theorem l_BoxYard_Search_130 : y_lnk "BoxYard$Search" 130 M_X11_isWithin := Or.inr ⟨"BoxYard", (c_6 77 (by decide +kernel) rfl)⟩
set_option maxRecDepth 100000 in
def f_X6_writeRow (p0 : Nat) (p1 : Nat) (p2 : Nat) (p3 : Int32) (h : y_H) : Option (Unit × y_H) :=
  if y_K h p0 = 7 then
  y_jl (fun (_ : Nat) (_ : Nat) (_ : Nat) (_ : Int32) (_ : Int32) (_ : y_H) => (none : Option (Unit × y_H))) (fun j11 (v0_11 : Nat) (v1_11 : Nat) (v2_11 : Nat) (v4_11 : Int32) (v5_11 : Int32) (h1 : y_H) =>
      if v5_11 < 0 then
        some ((), h1)
      else
        if y_K h1 v0_11 = 7 then
        y_cl (f_X11_isWithin v4_11 0 ((y_I h1 v0_11 7) - 1) h1) (fun r2 h3 =>
        y_jn (fun (h5 : y_H) => (
            some ((), h5) : Option (Unit × y_H))) (fun j45 =>
        if r2 = true then
          if y_K h3 v1_11 = 100 then
          if (nI (y_N h3 v1_11)) ≤ v5_11 then
            j45 h3
          else
            if y_K h3 v2_11 = 100 then
            if v5_11 < (nI (y_N h3 v2_11)) then
              if y_K h3 v0_11 = 7 then
              if y_K h3 (y_P h3 v0_11 5) = 100 ∧ y_ix v4_11 (y_N h3 (y_P h3 v0_11 5)) = true then
              if y_K h3 v1_11 = 100 ∧ y_ix v5_11 (y_N h3 v1_11) = true then
              y_bd (s_I h3 v1_11 (Int32.toNatClampNeg v5_11) (y_rem ((y_I h3 (y_P h3 v0_11 5) (Int32.toNatClampNeg v4_11)) / 8) 8)) (fun h6 =>
              if (y_rem (y_I h3 (y_P h3 v0_11 5) (Int32.toNatClampNeg v4_11)) 8) = 0 then
                if y_K h6 v2_11 = 100 ∧ y_ix v5_11 (y_N h6 v2_11) = true then
                y_bd (s_I h6 v2_11 (Int32.toNatClampNeg v5_11) (-9 : Int32)) (fun h12 =>
                j11 v0_11 v1_11 v2_11 ((y_I h3 (y_P h3 v0_11 5) (Int32.toNatClampNeg v4_11)) / 64) (v5_11 + (-1 : Int32)) h12)
                else none
              else
                if y_K h6 v2_11 = 100 ∧ y_ix v5_11 (y_N h6 v2_11) = true then
                y_bd (s_I h6 v2_11 (Int32.toNatClampNeg v5_11) ((y_rem (y_I h3 (y_P h3 v0_11 5) (Int32.toNatClampNeg v4_11)) 8) - 1)) (fun h9 =>
                j11 v0_11 v1_11 v2_11 ((y_I h3 (y_P h3 v0_11 5) (Int32.toNatClampNeg v4_11)) / 64) (v5_11 + (-1 : Int32)) h9)
                else none)
              else none
              else none
              else none
            else
              j45 h3
            else none
          else none
        else
          j45 h3))
        else none) (fun j11 =>
  j11 p0 p1 p2 (y_I h p0 8) (p3 - 1) h)
  else none
abbrev rm_X6_writeRow : Room := { frames := 1, cells := 0, slots := 0, locals := 22 }
set_option maxRecDepth 100000 in
set_option maxHeartbeats 4000000 in
theorem k_X6_writeRow {l : Launch} {G : y_G} {p0 : Nat} {p1 : Nat} {p2 : Nat} {p3 : Int32} {h hz : y_H} {rz : Unit} (hf : f_X6_writeRow p0 p1 p2 p3 h = some (rz, hz)) : y_S l G M_X6_writeRow rm_X6_writeRow [y_p p0, y_p p1, y_p p2, .int p3] h none hz := by
  refine y_start (lv := [(0, y_p p0), (1, y_p p1), (2, y_p p2), (3, .int p3)]) (by decide) (by simp [lg_sl, y_p_cat, y_ci, y_cj, M_X6_writeRow]) (by simp [lv_args, y_p_cat, y_ci, y_cj]) (fun z ad0 => ?_)
  unfold f_X6_writeRow at hf
  refine y_aload_n (x := p0) (pc2 := 1) rfl dX6_writeRow_0 rfl ?_
  obtain ⟨g25, hf⟩ := y_g hf
  refine y_getI (pc2 := 4) rfl dX6_writeRow_1 F_BoxYard_Search_87 (by decide) rfl g25 ?_
  refine y_istore (lv' := [(4, .int (y_I h p0 8)), (0, y_p p0), (1, y_p p1), (2, y_p p2), (3, .int p3)]) (pc2 := 6) rfl dX6_writeRow_4 (by decide) rfl ?_
  refine y_iload_n (pc2 := 7) rfl dX6_writeRow_6 rfl ?_
  refine y_iconst (v := 1) (pc2 := 8) rfl dX6_writeRow_7 (by decide) ?_
  refine y_isub (pc2 := 9) rfl dX6_writeRow_8 ?_
  refine y_jlE hf (fun j => ∀ (v0_11 : Nat) (v1_11 : Nat) (v2_11 : Nat) (v4_11 : Int32) (v5_11 : Int32) (h1 : y_H), j v0_11 v1_11 v2_11 v4_11 v5_11 h1 = some (rz, hz) → y_V l G z rm_X6_writeRow M_X6_writeRow ad0 h none hz 11 [(0, y_p v0_11), (1, y_p v1_11), (2, y_p v2_11), (4, .int v4_11), (5, .int v5_11)] [] h1 0 0) (fun _ _ _ _ _ _ hf => by cases hf) (fun j11 hj11 v0_11 v1_11 v2_11 v4_11 v5_11 h1 hf => ?_) (fun j11 hj11 hf => ?_)
  · refine y_iload (pc2 := 13) rfl dX6_writeRow_11 rfl ?_
    refine y_if_lt (tgt := 105) (pc2 := 16) rfl dX6_writeRow_13 (by decide) (fun c24 => ?_) (fun c24 => ?_)
    · replace hf := y_it c24 hf
      exact y_vretF hf dX6_writeRow_105 rfl (by decide) (by decide)
    · replace hf := y_ie c24 hf
      refine y_iload (pc2 := 18) rfl dX6_writeRow_16 rfl ?_
      refine y_iconst (v := 0) (pc2 := 19) rfl dX6_writeRow_18 (by decide) ?_
      refine y_aload_n (x := v0_11) (pc2 := 20) rfl dX6_writeRow_19 rfl ?_
      obtain ⟨g23, hf⟩ := y_g hf
      refine y_getI (pc2 := 23) rfl dX6_writeRow_20 F_BoxYard_Search_84 (by decide) rfl g23 ?_
      refine y_iconst (v := 1) (pc2 := 24) rfl dX6_writeRow_23 (by decide) ?_
      refine y_isub (pc2 := 25) rfl dX6_writeRow_24 ?_
      obtain ⟨r2, h3, c4, hf⟩ := y_clE hf
      refine y_callS (As := [.int v4_11, .int 0, .int ((y_I h1 v0_11 7) - 1)]) (rm := rm_X11_isWithin) (cells := 0) (slots := 0) (pc2 := 28) rfl dX6_writeRow_25 n_X11_isWithin l_BoxYard_Search_130 t_X11_isWithin rfl rfl (by decide) (by decide) (by decide) (k_X11_isWithin c4) ?_
      refine y_jnE hf (fun j => ∀ (h5 : y_H), j h5 = some (rz, hz) → y_V l G z rm_X6_writeRow M_X6_writeRow ad0 h none hz 45 [] [] h5 0 0) (fun h5 hf => ?_) (fun j45 hj45 hf => ?_)
      · exact y_vretF hf dX6_writeRow_45 rfl (by decide) (by decide)
      · refine y_ifz_eq (tgt := 45) (pc2 := 31) rfl dX6_writeRow_28 (by decide) (fun c22 => ?_) (fun c22 => ?_)
        · replace hf := y_ie c22 hf
          exact y_pk [] rfl (hj45 _ hf)
        · replace hf := y_it c22 hf
          refine y_iload (pc2 := 33) rfl dX6_writeRow_31 rfl ?_
          refine y_aload_n (x := v1_11) (pc2 := 34) rfl dX6_writeRow_33 rfl ?_
          obtain ⟨g21, hf⟩ := y_g hf
          refine y_alen (t := 0) (pc2 := 35) rfl dX6_writeRow_34 (by decide) g21 ?_
          refine y_icmp_ge (tgt := 45) (pc2 := 38) rfl dX6_writeRow_35 (by decide) (fun c20 => ?_) (fun c20 => ?_)
          · replace hf := y_it c20 hf
            exact y_pk [] rfl (hj45 _ hf)
          · replace hf := y_ie c20 hf
            refine y_iload (pc2 := 40) rfl dX6_writeRow_38 rfl ?_
            refine y_aload_n (x := v2_11) (pc2 := 41) rfl dX6_writeRow_40 rfl ?_
            obtain ⟨g19, hf⟩ := y_g hf
            refine y_alen (t := 0) (pc2 := 42) rfl dX6_writeRow_41 (by decide) g19 ?_
            refine y_icmp_lt (tgt := 46) (pc2 := 45) rfl dX6_writeRow_42 (by decide) (fun c18 => ?_) (fun c18 => ?_)
            · replace hf := y_it c18 hf
              refine y_aload_n (x := v0_11) (pc2 := 47) rfl dX6_writeRow_46 rfl ?_
              obtain ⟨g17, hf⟩ := y_g hf
              refine y_getP (pc2 := 50) rfl dX6_writeRow_47 F_BoxYard_Search_24 (by decide) rfl g17 ?_
              refine y_iload (pc2 := 52) rfl dX6_writeRow_50 rfl ?_
              obtain ⟨g16, hf⟩ := y_g hf
              refine y_iald (pc2 := 53) rfl dX6_writeRow_52 g16.1 (y_ix_in g16.2) ?_
              refine y_istore (lv' := [(6, .int (y_I h3 (y_P h3 v0_11 5) (Int32.toNatClampNeg v4_11))), (0, y_p v0_11), (1, y_p v1_11), (2, y_p v2_11), (4, .int v4_11), (5, .int v5_11)]) (pc2 := 55) rfl dX6_writeRow_53 (by decide) rfl ?_
              refine y_iload (pc2 := 57) rfl dX6_writeRow_55 rfl ?_
              refine y_bipush (v := 8) (pc2 := 59) rfl dX6_writeRow_57 (by decide) ?_
              refine y_rm (pc2 := 60) rfl dX6_writeRow_59 (by decide) ?_
              refine y_istore (lv' := [(7, .int (y_rem (y_I h3 (y_P h3 v0_11 5) (Int32.toNatClampNeg v4_11)) 8)), (6, .int (y_I h3 (y_P h3 v0_11 5) (Int32.toNatClampNeg v4_11))), (0, y_p v0_11), (1, y_p v1_11), (2, y_p v2_11), (4, .int v4_11), (5, .int v5_11)]) (pc2 := 62) rfl dX6_writeRow_60 (by decide) rfl ?_
              refine y_aload_n (x := v1_11) (pc2 := 63) rfl dX6_writeRow_62 rfl ?_
              refine y_iload (pc2 := 65) rfl dX6_writeRow_63 rfl ?_
              refine y_iload (pc2 := 67) rfl dX6_writeRow_65 rfl ?_
              refine y_bipush (v := 8) (pc2 := 69) rfl dX6_writeRow_67 (by decide) ?_
              refine y_idiv (pc2 := 70) rfl dX6_writeRow_69 (by decide) ?_
              refine y_bipush (v := 8) (pc2 := 72) rfl dX6_writeRow_70 (by decide) ?_
              refine y_rm (pc2 := 73) rfl dX6_writeRow_72 (by decide) ?_
              obtain ⟨g8, hf⟩ := y_g hf
              obtain ⟨h6, e7, hf⟩ := y_bdE hf
              refine y_iast (x := y_rem ((y_I h3 (y_P h3 v0_11 5) (Int32.toNatClampNeg v4_11)) / 8) 8) (pc2 := 74) rfl dX6_writeRow_73 g8.1 (y_ix_in g8.2) e7 ?_
              refine y_aload_n (x := v2_11) (pc2 := 75) rfl dX6_writeRow_74 rfl ?_
              refine y_iload (pc2 := 77) rfl dX6_writeRow_75 rfl ?_
              refine y_iload (pc2 := 79) rfl dX6_writeRow_77 rfl ?_
              refine y_if_ne (tgt := 87) (pc2 := 82) rfl dX6_writeRow_79 (by decide) (fun c15 => ?_) (fun c15 => ?_)
              · replace hf := y_ie c15 hf
                refine y_iload (pc2 := 89) rfl dX6_writeRow_87 rfl ?_
                refine y_iconst (v := 1) (pc2 := 90) rfl dX6_writeRow_89 (by decide) ?_
                refine y_isub (pc2 := 91) rfl dX6_writeRow_90 ?_
                obtain ⟨g11, hf⟩ := y_g hf
                obtain ⟨h9, e10, hf⟩ := y_bdE hf
                refine y_iast (x := (y_rem (y_I h3 (y_P h3 v0_11 5) (Int32.toNatClampNeg v4_11)) 8) - 1) (pc2 := 92) rfl dX6_writeRow_91 g11.1 (y_ix_in g11.2) e10 ?_
                refine y_iload (pc2 := 94) rfl dX6_writeRow_92 rfl ?_
                refine y_bipush (v := 64) (pc2 := 96) rfl dX6_writeRow_94 (by decide) ?_
                refine y_idiv (pc2 := 97) rfl dX6_writeRow_96 (by decide) ?_
                refine y_istore (lv' := [(4, .int ((y_I h3 (y_P h3 v0_11 5) (Int32.toNatClampNeg v4_11)) / 64)), (7, .int (y_rem (y_I h3 (y_P h3 v0_11 5) (Int32.toNatClampNeg v4_11)) 8)), (6, .int (y_I h3 (y_P h3 v0_11 5) (Int32.toNatClampNeg v4_11))), (0, y_p v0_11), (1, y_p v1_11), (2, y_p v2_11), (5, .int v5_11)]) (pc2 := 99) rfl dX6_writeRow_97 (by decide) rfl ?_
                refine y_iinc (v := v5_11 + (-1 : Int32)) (lv' := [(5, .int (v5_11 + (-1 : Int32))), (4, .int ((y_I h3 (y_P h3 v0_11 5) (Int32.toNatClampNeg v4_11)) / 64)), (7, .int (y_rem (y_I h3 (y_P h3 v0_11 5) (Int32.toNatClampNeg v4_11)) 8)), (6, .int (y_I h3 (y_P h3 v0_11 5) (Int32.toNatClampNeg v4_11))), (0, y_p v0_11), (1, y_p v1_11), (2, y_p v2_11)]) (pc2 := 102) rfl dX6_writeRow_99 rfl rfl (by decide) rfl ?_
                refine y_goto (tgt := 11) dX6_writeRow_102 (by decide) ?_
                exact y_pk [4, 5, 6, 1, 0] rfl (hj11 _ _ _ _ _ _ hf)
              · replace hf := y_it c15 hf
                refine y_bipush (v := (-9 : Int32)) (pc2 := 84) rfl dX6_writeRow_82 (by decide) ?_
                refine y_goto (tgt := 91) dX6_writeRow_84 (by decide) ?_
                obtain ⟨g14, hf⟩ := y_g hf
                obtain ⟨h12, e13, hf⟩ := y_bdE hf
                refine y_iast (x := (-9 : Int32)) (pc2 := 92) rfl dX6_writeRow_91 g14.1 (y_ix_in g14.2) e13 ?_
                refine y_iload (pc2 := 94) rfl dX6_writeRow_92 rfl ?_
                refine y_bipush (v := 64) (pc2 := 96) rfl dX6_writeRow_94 (by decide) ?_
                refine y_idiv (pc2 := 97) rfl dX6_writeRow_96 (by decide) ?_
                refine y_istore (lv' := [(4, .int ((y_I h3 (y_P h3 v0_11 5) (Int32.toNatClampNeg v4_11)) / 64)), (7, .int (y_rem (y_I h3 (y_P h3 v0_11 5) (Int32.toNatClampNeg v4_11)) 8)), (6, .int (y_I h3 (y_P h3 v0_11 5) (Int32.toNatClampNeg v4_11))), (0, y_p v0_11), (1, y_p v1_11), (2, y_p v2_11), (5, .int v5_11)]) (pc2 := 99) rfl dX6_writeRow_97 (by decide) rfl ?_
                refine y_iinc (v := v5_11 + (-1 : Int32)) (lv' := [(5, .int (v5_11 + (-1 : Int32))), (4, .int ((y_I h3 (y_P h3 v0_11 5) (Int32.toNatClampNeg v4_11)) / 64)), (7, .int (y_rem (y_I h3 (y_P h3 v0_11 5) (Int32.toNatClampNeg v4_11)) 8)), (6, .int (y_I h3 (y_P h3 v0_11 5) (Int32.toNatClampNeg v4_11))), (0, y_p v0_11), (1, y_p v1_11), (2, y_p v2_11)]) (pc2 := 102) rfl dX6_writeRow_99 rfl rfl (by decide) rfl ?_
                refine y_goto (tgt := 11) dX6_writeRow_102 (by decide) ?_
                exact y_pk [4, 5, 6, 1, 0] rfl (hj11 _ _ _ _ _ _ hf)
            · replace hf := y_ie c18 hf
              exact y_pk [] rfl (hj45 _ hf)
  · refine y_istore (lv' := [(5, .int (p3 - 1)), (4, .int (y_I h p0 8)), (0, y_p p0), (1, y_p p1), (2, y_p p2), (3, .int p3)]) (pc2 := 11) rfl dX6_writeRow_9 (by decide) rfl ?_
    exact y_pk [2, 3, 4, 1, 0] rfl (hj11 _ _ _ _ _ _ hf)
