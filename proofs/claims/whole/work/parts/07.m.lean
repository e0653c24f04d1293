theorem dX11_numberOf_0 : decode cX11_numberOf 0 = .ok (.aload_n 0, 1) := by decide +kernel
theorem dX11_numberOf_1 : decode cX11_numberOf 1 = .ok (.ifnonnull 7, 3) := by decide +kernel
theorem dX11_numberOf_4 : decode cX11_numberOf 4 = .ok (.iload_n 1, 1) := by decide +kernel
theorem dX11_numberOf_5 : decode cX11_numberOf 5 = .ok (.goto 7, 3) := by decide +kernel
theorem dX11_numberOf_8 : decode cX11_numberOf 8 = .ok (.aload_n 0, 1) := by decide +kernel
theorem dX11_numberOf_9 : decode cX11_numberOf 9 = .ok (.getfield 74, 3) := by decide +kernel
theorem dX11_numberOf_12 : decode cX11_numberOf 12 = .ok (.ireturn, 1) := by decide +kernel
def M_X11_numberOf : y_M := (yX11_numberOf, cX11_numberOf, 2, (Option.some Jvm.ClassFile.FieldType.int))
theorem n_X11_numberOf : y_N0 M_X11_numberOf 2 := ⟨(c_3 138 (by decide +kernel) rfl), (c_1 1 (by decide +kernel) rfl), ⟨by decide +kernel, by decide +kernel⟩, by decide +kernel⟩
theorem F_BoxYard_74 : y_F "BoxYard" 74 2 0 := ⟨_, _, _, rfl, by decide, Or.inr ⟨"BoxYard", (c_2 113 (by decide +kernel) rfl)⟩⟩
set_option maxRecDepth 100000 in
def f_X11_numberOf (p0 : Nat) (p1 : Int32) (h : y_H) : Option (Int32 × y_H) :=
  if p0 = 0 then
    some (p1, h)
  else
    if y_K h p0 = 3 then
    some (y_I h p0 0, h)
    else none
abbrev rm_X11_numberOf : Room := { frames := 0, cells := 0, slots := 0, locals := 0 }
set_option maxRecDepth 100000 in
set_option maxHeartbeats 4000000 in
theorem k_X11_numberOf {l : Launch} {G : y_G} {p0 : Nat} {p1 : Int32} {h hz : y_H} {rz : Int32} (hf : f_X11_numberOf p0 p1 h = some (rz, hz)) : y_S l G M_X11_numberOf rm_X11_numberOf [y_p p0, .int p1] h (some (.int rz)) hz := by
  refine y_start (lv := [(0, y_p p0), (1, .int p1)]) (by decide) (by simp [lg_sl, y_p_cat, y_ci, y_cj, M_X11_numberOf]) (by simp [lv_args, y_p_cat, y_ci, y_cj]) (fun z ad0 => ?_)
  unfold f_X11_numberOf at hf
  refine y_aload_n (x := p0) (pc2 := 1) rfl dX11_numberOf_0 rfl ?_
  refine y_ifnonnull (tgt := 8) (pc2 := 4) rfl dX11_numberOf_1 (by decide) (fun c2 => ?_) (fun c2 => ?_)
  · replace hf := y_ie c2 hf
    refine y_aload_n (x := p0) (pc2 := 9) rfl dX11_numberOf_8 rfl ?_
    obtain ⟨g1, hf⟩ := y_g hf
    refine y_getI (pc2 := 12) rfl dX11_numberOf_9 F_BoxYard_74 (by decide) rfl g1 ?_
    exact y_iretF hf dX11_numberOf_12 rfl (by decide) (by decide)
  · replace hf := y_it c2 hf
    refine y_iload_n (pc2 := 5) rfl dX11_numberOf_4 rfl ?_
    refine y_goto (tgt := 12) dX11_numberOf_5 (by decide) ?_
    exact y_iretF hf dX11_numberOf_12 rfl (by decide) (by decide)
theorem dX0_begin_0 : decode cX0_begin 0 = .ok (.aload_n 0, 1) := by decide +kernel
theorem dX0_begin_1 : decode cX0_begin 1 = .ok (.iload_n 1, 1) := by decide +kernel
theorem dX0_begin_2 : decode cX0_begin 2 = .ok (.putfield 7, 3) := by decide +kernel
theorem dX0_begin_5 : decode cX0_begin 5 = .ok (.aload_n 0, 1) := by decide +kernel
theorem dX0_begin_6 : decode cX0_begin 6 = .ok (.aload_n 2, 1) := by decide +kernel
theorem dX0_begin_7 : decode cX0_begin 7 = .ok (.putfield 13, 3) := by decide +kernel
theorem dX0_begin_10 : decode cX0_begin 10 = .ok (.aload_n 2, 1) := by decide +kernel
theorem dX0_begin_11 : decode cX0_begin 11 = .ok (.ifnull 43, 3) := by decide +kernel
theorem dX0_begin_14 : decode cX0_begin 14 = .ok (.aload_n 0, 1) := by decide +kernel
theorem dX0_begin_15 : decode cX0_begin 15 = .ok (.aload_n 2, 1) := by decide +kernel
theorem dX0_begin_16 : decode cX0_begin 16 = .ok (.getfield 17, 3) := by decide +kernel
theorem dX0_begin_19 : decode cX0_begin 19 = .ok (.putfield 22, 3) := by decide +kernel
theorem dX0_begin_22 : decode cX0_begin 22 = .ok (.aload_n 0, 1) := by decide +kernel
theorem dX0_begin_23 : decode cX0_begin 23 = .ok (.aload_n 2, 1) := by decide +kernel
theorem dX0_begin_24 : decode cX0_begin 24 = .ok (.getfield 23, 3) := by decide +kernel
theorem dX0_begin_27 : decode cX0_begin 27 = .ok (.putfield 26, 3) := by decide +kernel
theorem dX0_begin_30 : decode cX0_begin 30 = .ok (.aload_n 0, 1) := by decide +kernel
theorem dX0_begin_31 : decode cX0_begin 31 = .ok (.aload_n 2, 1) := by decide +kernel
theorem dX0_begin_32 : decode cX0_begin 32 = .ok (.getfield 27, 3) := by decide +kernel
theorem dX0_begin_35 : decode cX0_begin 35 = .ok (.putfield 30, 3) := by decide +kernel
theorem dX0_begin_38 : decode cX0_begin 38 = .ok (.aload_n 0, 1) := by decide +kernel
theorem dX0_begin_39 : decode cX0_begin 39 = .ok (.aload_n 2, 1) := by decide +kernel
theorem dX0_begin_40 : decode cX0_begin 40 = .ok (.getfield 31, 3) := by decide +kernel
theorem dX0_begin_43 : decode cX0_begin 43 = .ok (.putfield 34, 3) := by decide +kernel
theorem dX0_begin_46 : decode cX0_begin 46 = .ok (.aload_n 0, 1) := by decide +kernel
theorem dX0_begin_47 : decode cX0_begin 47 = .ok (.aload_n 2, 1) := by decide +kernel
theorem dX0_begin_48 : decode cX0_begin 48 = .ok (.getfield 35, 3) := by decide +kernel
theorem dX0_begin_51 : decode cX0_begin 51 = .ok (.putfield 39, 3) := by decide +kernel
theorem dX0_begin_54 : decode cX0_begin 54 = .ok (.aload_n 0, 1) := by decide +kernel
theorem dX0_begin_55 : decode cX0_begin 55 = .ok (.aload_n 3, 1) := by decide +kernel
theorem dX0_begin_56 : decode cX0_begin 56 = .ok (.putfield 40, 3) := by decide +kernel
theorem dX0_begin_59 : decode cX0_begin 59 = .ok (.aload_n 3, 1) := by decide +kernel
theorem dX0_begin_60 : decode cX0_begin 60 = .ok (.ifnull 31, 3) := by decide +kernel
theorem dX0_begin_63 : decode cX0_begin 63 = .ok (.aload_n 0, 1) := by decide +kernel
theorem dX0_begin_64 : decode cX0_begin 64 = .ok (.aload_n 3, 1) := by decide +kernel
theorem dX0_begin_65 : decode cX0_begin 65 = .ok (.getfield 44, 3) := by decide +kernel
theorem dX0_begin_68 : decode cX0_begin 68 = .ok (.putfield 49, 3) := by decide +kernel
theorem dX0_begin_71 : decode cX0_begin 71 = .ok (.aload_n 0, 1) := by decide +kernel
theorem dX0_begin_72 : decode cX0_begin 72 = .ok (.aload_n 3, 1) := by decide +kernel
theorem dX0_begin_73 : decode cX0_begin 73 = .ok (.getfield 50, 3) := by decide +kernel
theorem dX0_begin_76 : decode cX0_begin 76 = .ok (.iconst (-1), 1) := by decide +kernel
theorem dX0_begin_77 : decode cX0_begin 77 = .ok (.invokestatic 53, 3) := by decide +kernel
theorem dX0_begin_80 : decode cX0_begin 80 = .ok (.putfield 59, 3) := by decide +kernel
theorem dX0_begin_83 : decode cX0_begin 83 = .ok (.aload_n 0, 1) := by decide +kernel
theorem dX0_begin_84 : decode cX0_begin 84 = .ok (.aload_n 3, 1) := by decide +kernel
theorem dX0_begin_85 : decode cX0_begin 85 = .ok (.getfield 61, 3) := by decide +kernel
theorem dX0_begin_88 : decode cX0_begin 88 = .ok (.putfield 64, 3) := by decide +kernel
theorem dX0_begin_91 : decode cX0_begin 91 = .ok (.aload_n 0, 1) := by decide +kernel
theorem dX0_begin_92 : decode cX0_begin 92 = .ok (.aload 4, 2) := by decide +kernel
theorem dX0_begin_94 : decode cX0_begin 94 = .ok (.putfield 65, 3) := by decide +kernel
theorem dX0_begin_97 : decode cX0_begin 97 = .ok (.aload 4, 2) := by decide +kernel
theorem dX0_begin_99 : decode cX0_begin 99 = .ok (.ifnull 21, 3) := by decide +kernel
theorem dX0_begin_102 : decode cX0_begin 102 = .ok (.aload_n 0, 1) := by decide +kernel
theorem dX0_begin_103 : decode cX0_begin 103 = .ok (.aload 4, 2) := by decide +kernel
theorem dX0_begin_105 : decode cX0_begin 105 = .ok (.getfield 69, 3) := by decide +kernel
theorem dX0_begin_108 : decode cX0_begin 108 = .ok (.putfield 74, 3) := by decide +kernel
theorem dX0_begin_111 : decode cX0_begin 111 = .ok (.aload_n 0, 1) := by decide +kernel
theorem dX0_begin_112 : decode cX0_begin 112 = .ok (.aload 4, 2) := by decide +kernel
theorem dX0_begin_114 : decode cX0_begin 114 = .ok (.getfield 75, 3) := by decide +kernel
theorem dX0_begin_117 : decode cX0_begin 117 = .ok (.putfield 78, 3) := by decide +kernel
theorem dX0_begin_120 : decode cX0_begin 120 = .ok (.return_, 1) := by decide +kernel
def M_X0_begin : y_M := (yX0_begin, cX0_begin, 5, (Option.none : Option Jvm.ClassFile.FieldType))
theorem n_X0_begin : y_N0 M_X0_begin 4 := ⟨(c_4 127 (by decide +kernel) rfl), (c_1 6 (by decide +kernel) rfl), ⟨by decide +kernel, by decide +kernel⟩, by decide +kernel⟩
theorem Fp_BoxYard_Act_7 {nm : String} : y_Fp "BoxYard$Act" nm 7 0 0 := ⟨_, _, _, rfl, by decide, Or.inl ⟨rfl, Or.inl (c_1 120 (by decide +kernel) rfl)⟩⟩
theorem Fp_BoxYard_Act_13 {nm : String} : y_Fp "BoxYard$Act" nm 13 0 1 := ⟨_, _, _, rfl, by decide, Or.inl ⟨rfl, Or.inl (c_1 122 (by decide +kernel) rfl)⟩⟩
theorem Fp_BoxYard_Act_40 {nm : String} : y_Fp "BoxYard$Act" nm 40 0 7 := ⟨_, _, _, rfl, by decide, Or.inl ⟨rfl, Or.inl (c_1 140 (by decide +kernel) rfl)⟩⟩
theorem Fp_BoxYard_Act_65 {nm : String} : y_Fp "BoxYard$Act" nm 65 0 11 := ⟨_, _, _, rfl, by decide, Or.inl ⟨rfl, Or.inl (c_1 151 (by decide +kernel) rfl)⟩⟩
theorem F_BoxYard_Act_69 : y_F "BoxYard$Act" 69 7 12 := ⟨_, _, _, rfl, by decide, Or.inr ⟨"BoxYard", (c_5 62 (by decide +kernel) rfl)⟩⟩
theorem Fp_BoxYard_Act_74 {nm : String} : y_Fp "BoxYard$Act" nm 74 0 12 := ⟨_, _, _, rfl, by decide, Or.inl ⟨rfl, Or.inl (c_1 154 (by decide +kernel) rfl)⟩⟩
theorem F_BoxYard_Act_75 : y_F "BoxYard$Act" 75 7 13 := ⟨_, _, _, rfl, by decide, Or.inr ⟨"BoxYard", (c_5 66 (by decide +kernel) rfl)⟩⟩
theorem Fp_BoxYard_Act_78 {nm : String} : y_Fp "BoxYard$Act" nm 78 0 13 := ⟨_, _, _, rfl, by decide, Or.inl ⟨rfl, Or.inl (c_1 157 (by decide +kernel) rfl)⟩⟩
theorem F_BoxYard_Act_44 : y_F "BoxYard$Act" 44 3 3 := ⟨_, _, _, rfl, by decide, Or.inr ⟨"BoxYard", (c_3 192 (by decide +kernel) rfl)⟩⟩
theorem Fp_BoxYard_Act_49 {nm : String} : y_Fp "BoxYard$Act" nm 49 0 8 := ⟨_, _, _, rfl, by decide, Or.inl ⟨rfl, Or.inl (c_1 143 (by decide +kernel) rfl)⟩⟩
theorem F_BoxYard_Act_50 : y_F "BoxYard$Act" 50 3 4 := ⟨_, _, _, rfl, by decide, Or.inr ⟨"BoxYard", (c_3 197 (by decide +kernel) rfl)⟩⟩
theorem l_BoxYard_Act_53 : y_lnk "BoxYard$Act" 53 M_X11_numberOf := Or.inr ⟨"BoxYard", (c_4 128 (by decide +kernel) rfl)⟩
theorem t_X11_numberOf : Cond.static (M_X11_numberOf).1 ∈ y_tb := (c_3 137 (by decide +kernel) rfl)
theorem Fp_BoxYard_Act_59 {nm : String} : y_Fp "BoxYard$Act" nm 59 0 9 := ⟨_, _, _, rfl, by decide, Or.inl ⟨rfl, Or.inl (c_1 146 (by decide +kernel) rfl)⟩⟩
theorem F_BoxYard_Act_61 : y_F "BoxYard$Act" 61 3 5 := ⟨_, _, _, rfl, by decide, Or.inr ⟨"BoxYard", (c_3 202 (by decide +kernel) rfl)⟩⟩
theorem Fp_BoxYard_Act_64 {nm : String} : y_Fp "BoxYard$Act" nm 64 0 10 := ⟨_, _, _, rfl, by decide, Or.inl ⟨rfl, Or.inl (c_1 148 (by decide +kernel) rfl)⟩⟩
theorem F_BoxYard_Act_17 : y_F "BoxYard$Act" 17 2 6 := ⟨_, _, _, rfl, by decide, Or.inr ⟨"BoxYard", (c_2 125 (by decide +kernel) rfl)⟩⟩
theorem Fp_BoxYard_Act_22 {nm : String} : y_Fp "BoxYard$Act" nm 22 0 2 := ⟨_, _, _, rfl, by decide, Or.inl ⟨rfl, Or.inl (c_1 125 (by decide +kernel) rfl)⟩⟩
theorem F_BoxYard_Act_23 : y_F "BoxYard$Act" 23 2 7 := ⟨_, _, _, rfl, by decide, Or.inr ⟨"BoxYard", (c_2 131 (by decide +kernel) rfl)⟩⟩
theorem Fp_BoxYard_Act_26 {nm : String} : y_Fp "BoxYard$Act" nm 26 0 3 := ⟨_, _, _, rfl, by decide, Or.inl ⟨rfl, Or.inl (c_1 128 (by decide +kernel) rfl)⟩⟩
theorem F_BoxYard_Act_27 : y_F "BoxYard$Act" 27 2 8 := ⟨_, _, _, rfl, by decide, Or.inr ⟨"BoxYard", (c_2 137 (by decide +kernel) rfl)⟩⟩
theorem Fp_BoxYard_Act_30 {nm : String} : y_Fp "BoxYard$Act" nm 30 0 4 := ⟨_, _, _, rfl, by decide, Or.inl ⟨rfl, Or.inl (c_1 131 (by decide +kernel) rfl)⟩⟩
theorem F_BoxYard_Act_31 : y_F "BoxYard$Act" 31 2 9 := ⟨_, _, _, rfl, by decide, Or.inr ⟨"BoxYard", (c_2 142 (by decide +kernel) rfl)⟩⟩
theorem Fp_BoxYard_Act_34 {nm : String} : y_Fp "BoxYard$Act" nm 34 0 5 := ⟨_, _, _, rfl, by decide, Or.inl ⟨rfl, Or.inl (c_1 134 (by decide +kernel) rfl)⟩⟩
theorem F_BoxYard_Act_35 : y_F "BoxYard$Act" 35 2 10 := ⟨_, _, _, rfl, by decide, Or.inr ⟨"BoxYard", (c_2 148 (by decide +kernel) rfl)⟩⟩
theorem Fp_BoxYard_Act_39 {nm : String} : y_Fp "BoxYard$Act" nm 39 0 6 := ⟨_, _, _, rfl, by decide, Or.inl ⟨rfl, Or.inl (c_1 137 (by decide +kernel) rfl)⟩⟩
set_option maxRecDepth 100000 in
def f_X0_begin (p0 : Nat) (p1 : Int32) (p2 : Nat) (p3 : Nat) (p4 : Nat) (h : y_H) : Option (Unit × y_H) :=
  if y_K h p0 = 1 then
  y_bd (s_I h p0 0 p1) (fun h1 =>
  if y_K h1 p0 = 1 then
  y_bd (s_P h1 p0 1 p2) (fun h4 =>
  y_jn (fun (v0_54 : Nat) (v3_54 : Nat) (v4_54 : Nat) (h7 : y_H) => (
      if y_K h7 v0_54 = 1 then
      y_bd (s_P h7 v0_54 7 v3_54) (fun h8 =>
      y_jn (fun (v0_91 : Nat) (v4_91 : Nat) (h11 : y_H) => (
          if y_K h11 v0_91 = 1 then
          y_bd (s_P h11 v0_91 11 v4_91) (fun h12 =>
          y_jn (fun (h15 : y_H) => (
              some ((), h15) : Option (Unit × y_H))) (fun j120 =>
          if v4_91 = 0 then
            j120 h12
          else
            if y_K h12 v4_91 = 8 then
            if y_K h12 v0_91 = 1 then
            y_bd (s_I h12 v0_91 12 (y_I h12 v4_91 12)) (fun h16 =>
            if y_K h16 v4_91 = 8 then
            if y_K h16 v0_91 = 1 then
            y_bd (s_I h16 v0_91 13 (y_I h16 v4_91 13)) (fun h19 =>
            j120 h19)
            else none
            else none)
            else none
            else none))
          else none : Option (Unit × y_H))) (fun j91 =>
      if v3_54 = 0 then
        j91 v0_54 v4_54 h8
      else
        if y_K h8 v3_54 = 4 then
        if y_K h8 v0_54 = 1 then
        y_bd (s_I h8 v0_54 8 (y_I h8 v3_54 3)) (fun h25 =>
        if y_K h25 v3_54 = 4 then
        y_cl (f_X11_numberOf (y_P h25 v3_54 4) (-1 : Int32) h25) (fun r28 h29 =>
        if y_K h29 v0_54 = 1 then
        y_bd (s_I h29 v0_54 9 r28) (fun h31 =>
        if y_K h31 v3_54 = 4 then
        if y_K h31 v0_54 = 1 then
        y_bd (s_I h31 v0_54 10 (y_I h31 v3_54 5)) (fun h34 =>
        j91 v0_54 v4_54 h34)
        else none
        else none)
        else none)
        else none)
        else none
        else none))
      else none : Option (Unit × y_H))) (fun j54 =>
  if p2 = 0 then
    j54 p0 p3 p4 h4
  else
    if y_K h4 p2 = 3 then
    if y_K h4 p0 = 1 then
    y_bd (s_I h4 p0 2 (y_I h4 p2 6)) (fun h41 =>
    if y_K h41 p2 = 3 then
    if y_K h41 p0 = 1 then
    y_bd (s_I h41 p0 3 (y_I h41 p2 7)) (fun h44 =>
    if y_K h44 p2 = 3 then
    if y_K h44 p0 = 1 then
    y_bd (s_I h44 p0 4 (y_I h44 p2 8)) (fun h47 =>
    if y_K h47 p2 = 3 then
    if y_K h47 p0 = 1 then
    y_bd (s_I h47 p0 5 (y_I h47 p2 9)) (fun h50 =>
    if y_K h50 p2 = 3 then
    if y_K h50 p0 = 1 then
    y_bd (s_B h50 p0 6 (y_B h50 p2 10)) (fun h53 =>
    j54 p0 p3 p4 h53)
    else none
    else none)
    else none
    else none)
    else none
    else none)
    else none
    else none)
    else none
    else none))
  else none)
  else none
abbrev rm_X0_begin : Room := { frames := 1, cells := 0, slots := 0, locals := 21 }
set_option maxRecDepth 100000 in
set_option maxHeartbeats 4000000 in
theorem k_X0_begin {l : Launch} {G : y_G} {p0 : Nat} {p1 : Int32} {p2 : Nat} {p3 : Nat} {p4 : Nat} {h hz : y_H} {rz : Unit} (hf : f_X0_begin p0 p1 p2 p3 p4 h = some (rz, hz)) : y_S l G M_X0_begin rm_X0_begin [y_p p0, .int p1, y_p p2, y_p p3, y_p p4] h none hz := by
  refine y_start (lv := [(0, y_p p0), (1, .int p1), (2, y_p p2), (3, y_p p3), (4, y_p p4)]) (by decide) (by simp [lg_sl, y_p_cat, y_ci, y_cj, M_X0_begin]) (by simp [lv_args, y_p_cat, y_ci, y_cj]) (fun z ad0 => ?_)
  unfold f_X0_begin at hf
  refine y_aload_n (x := p0) (pc2 := 1) rfl dX0_begin_0 rfl ?_
  refine y_iload_n (pc2 := 2) rfl dX0_begin_1 rfl ?_
  obtain ⟨g3, hf⟩ := y_g hf
  obtain ⟨h1, e2, hf⟩ := y_bdE hf
  refine y_putI (x := p1) (pc2 := 5) rfl dX0_begin_2 Fp_BoxYard_Act_7 (by decide) rfl g3 e2 ?_
  refine y_aload_n (x := p0) (pc2 := 6) rfl dX0_begin_5 rfl ?_
  refine y_aload_n (x := p2) (pc2 := 7) rfl dX0_begin_6 rfl ?_
  obtain ⟨g6, hf⟩ := y_g hf
  obtain ⟨h4, e5, hf⟩ := y_bdE hf
  refine y_putP (x := p2) (pc2 := 10) rfl dX0_begin_7 Fp_BoxYard_Act_13 (by decide) rfl g6 e5 ?_
  refine y_aload_n (x := p2) (pc2 := 11) rfl dX0_begin_10 rfl ?_
  refine y_jnE hf (fun j => ∀ (v0_54 : Nat) (v3_54 : Nat) (v4_54 : Nat) (h7 : y_H), j v0_54 v3_54 v4_54 h7 = some (rz, hz) → y_V l G z rm_X0_begin M_X0_begin ad0 h none hz 54 [(0, y_p v0_54), (3, y_p v3_54), (4, y_p v4_54)] [] h7 0 0) (fun v0_54 v3_54 v4_54 h7 hf => ?_) (fun j54 hj54 hf => ?_)
  · refine y_aload_n (x := v0_54) (pc2 := 55) rfl dX0_begin_54 rfl ?_
    refine y_aload_n (x := v3_54) (pc2 := 56) rfl dX0_begin_55 rfl ?_
    obtain ⟨g10, hf⟩ := y_g hf
    obtain ⟨h8, e9, hf⟩ := y_bdE hf
    refine y_putP (x := v3_54) (pc2 := 59) rfl dX0_begin_56 Fp_BoxYard_Act_40 (by decide) rfl g10 e9 ?_
    refine y_aload_n (x := v3_54) (pc2 := 60) rfl dX0_begin_59 rfl ?_
    refine y_jnE hf (fun j => ∀ (v0_91 : Nat) (v4_91 : Nat) (h11 : y_H), j v0_91 v4_91 h11 = some (rz, hz) → y_V l G z rm_X0_begin M_X0_begin ad0 h none hz 91 [(0, y_p v0_91), (4, y_p v4_91)] [] h11 0 0) (fun v0_91 v4_91 h11 hf => ?_) (fun j91 hj91 hf => ?_)
    · refine y_aload_n (x := v0_91) (pc2 := 92) rfl dX0_begin_91 rfl ?_
      refine y_aload (x := v4_91) (pc2 := 94) rfl dX0_begin_92 rfl ?_
      obtain ⟨g14, hf⟩ := y_g hf
      obtain ⟨h12, e13, hf⟩ := y_bdE hf
      refine y_putP (x := v4_91) (pc2 := 97) rfl dX0_begin_94 Fp_BoxYard_Act_65 (by decide) rfl g14 e13 ?_
      refine y_aload (x := v4_91) (pc2 := 99) rfl dX0_begin_97 rfl ?_
      refine y_jnE hf (fun j => ∀ (h15 : y_H), j h15 = some (rz, hz) → y_V l G z rm_X0_begin M_X0_begin ad0 h none hz 120 [] [] h15 0 0) (fun h15 hf => ?_) (fun j120 hj120 hf => ?_)
      · exact y_vretF hf dX0_begin_120 rfl (by decide) (by decide)
      · refine y_ifnull (tgt := 120) (pc2 := 102) rfl dX0_begin_99 (by decide) (fun c24 => ?_) (fun c24 => ?_)
        · replace hf := y_it c24 hf
          exact y_pk [] rfl (hj120 _ hf)
        · replace hf := y_ie c24 hf
          refine y_aload_n (x := v0_91) (pc2 := 103) rfl dX0_begin_102 rfl ?_
          refine y_aload (x := v4_91) (pc2 := 105) rfl dX0_begin_103 rfl ?_
          obtain ⟨g23, hf⟩ := y_g hf
          refine y_getI (pc2 := 108) rfl dX0_begin_105 F_BoxYard_Act_69 (by decide) rfl g23 ?_
          obtain ⟨g18, hf⟩ := y_g hf
          obtain ⟨h16, e17, hf⟩ := y_bdE hf
          refine y_putI (x := y_I h12 v4_91 12) (pc2 := 111) rfl dX0_begin_108 Fp_BoxYard_Act_74 (by decide) rfl g18 e17 ?_
          refine y_aload_n (x := v0_91) (pc2 := 112) rfl dX0_begin_111 rfl ?_
          refine y_aload (x := v4_91) (pc2 := 114) rfl dX0_begin_112 rfl ?_
          obtain ⟨g22, hf⟩ := y_g hf
          refine y_getI (pc2 := 117) rfl dX0_begin_114 F_BoxYard_Act_75 (by decide) rfl g22 ?_
          obtain ⟨g21, hf⟩ := y_g hf
          obtain ⟨h19, e20, hf⟩ := y_bdE hf
          refine y_putI (x := y_I h16 v4_91 13) (pc2 := 120) rfl dX0_begin_117 Fp_BoxYard_Act_78 (by decide) rfl g21 e20 ?_
          exact y_pk [] rfl (hj120 _ hf)
    · refine y_ifnull (tgt := 91) (pc2 := 63) rfl dX0_begin_60 (by decide) (fun c40 => ?_) (fun c40 => ?_)
      · replace hf := y_it c40 hf
        exact y_pk [0, 2] rfl (hj91 _ _ _ hf)
      · replace hf := y_ie c40 hf
        refine y_aload_n (x := v0_54) (pc2 := 64) rfl dX0_begin_63 rfl ?_
        refine y_aload_n (x := v3_54) (pc2 := 65) rfl dX0_begin_64 rfl ?_
        obtain ⟨g39, hf⟩ := y_g hf
        refine y_getI (pc2 := 68) rfl dX0_begin_65 F_BoxYard_Act_44 (by decide) rfl g39 ?_
        obtain ⟨g27, hf⟩ := y_g hf
        obtain ⟨h25, e26, hf⟩ := y_bdE hf
        refine y_putI (x := y_I h8 v3_54 3) (pc2 := 71) rfl dX0_begin_68 Fp_BoxYard_Act_49 (by decide) rfl g27 e26 ?_
        refine y_aload_n (x := v0_54) (pc2 := 72) rfl dX0_begin_71 rfl ?_
        refine y_aload_n (x := v3_54) (pc2 := 73) rfl dX0_begin_72 rfl ?_
        obtain ⟨g38, hf⟩ := y_g hf
        refine y_getP (pc2 := 76) rfl dX0_begin_73 F_BoxYard_Act_50 (by decide) rfl g38 ?_
        refine y_iconst (v := (-1 : Int32)) (pc2 := 77) rfl dX0_begin_76 (by decide) ?_
        obtain ⟨r28, h29, c30, hf⟩ := y_clE hf
        refine y_callS (As := [y_p (y_P h25 v3_54 4), .int (-1 : Int32)]) (rm := rm_X11_numberOf) (cells := 0) (slots := 0) (pc2 := 80) rfl dX0_begin_77 n_X11_numberOf l_BoxYard_Act_53 t_X11_numberOf rfl rfl (by decide) (by simp [y_ci, y_cj, y_p_cat]) (by decide) (k_X11_numberOf c30) ?_
        obtain ⟨g33, hf⟩ := y_g hf
        obtain ⟨h31, e32, hf⟩ := y_bdE hf
        refine y_putI (x := r28) (pc2 := 83) rfl dX0_begin_80 Fp_BoxYard_Act_59 (by decide) rfl g33 e32 ?_
        refine y_aload_n (x := v0_54) (pc2 := 84) rfl dX0_begin_83 rfl ?_
        refine y_aload_n (x := v3_54) (pc2 := 85) rfl dX0_begin_84 rfl ?_
        obtain ⟨g37, hf⟩ := y_g hf
        refine y_getI (pc2 := 88) rfl dX0_begin_85 F_BoxYard_Act_61 (by decide) rfl g37 ?_
        obtain ⟨g36, hf⟩ := y_g hf
        obtain ⟨h34, e35, hf⟩ := y_bdE hf
        refine y_putI (x := y_I h31 v3_54 5) (pc2 := 91) rfl dX0_begin_88 Fp_BoxYard_Act_64 (by decide) rfl g36 e35 ?_
        exact y_pk [0, 2] rfl (hj91 _ _ _ hf)
  · refine y_ifnull (tgt := 54) (pc2 := 14) rfl dX0_begin_11 (by decide) (fun c61 => ?_) (fun c61 => ?_)
    · replace hf := y_it c61 hf
      exact y_pk [0, 3, 4] rfl (hj54 _ _ _ _ hf)
    · replace hf := y_ie c61 hf
      refine y_aload_n (x := p0) (pc2 := 15) rfl dX0_begin_14 rfl ?_
      refine y_aload_n (x := p2) (pc2 := 16) rfl dX0_begin_15 rfl ?_
      obtain ⟨g60, hf⟩ := y_g hf
      refine y_getI (pc2 := 19) rfl dX0_begin_16 F_BoxYard_Act_17 (by decide) rfl g60 ?_
      obtain ⟨g43, hf⟩ := y_g hf
      obtain ⟨h41, e42, hf⟩ := y_bdE hf
      refine y_putI (x := y_I h4 p2 6) (pc2 := 22) rfl dX0_begin_19 Fp_BoxYard_Act_22 (by decide) rfl g43 e42 ?_
      refine y_aload_n (x := p0) (pc2 := 23) rfl dX0_begin_22 rfl ?_
      refine y_aload_n (x := p2) (pc2 := 24) rfl dX0_begin_23 rfl ?_
      obtain ⟨g59, hf⟩ := y_g hf
      refine y_getI (pc2 := 27) rfl dX0_begin_24 F_BoxYard_Act_23 (by decide) rfl g59 ?_
      obtain ⟨g46, hf⟩ := y_g hf
      obtain ⟨h44, e45, hf⟩ := y_bdE hf
      refine y_putI (x := y_I h41 p2 7) (pc2 := 30) rfl dX0_begin_27 Fp_BoxYard_Act_26 (by decide) rfl g46 e45 ?_
      refine y_aload_n (x := p0) (pc2 := 31) rfl dX0_begin_30 rfl ?_
      refine y_aload_n (x := p2) (pc2 := 32) rfl dX0_begin_31 rfl ?_
      obtain ⟨g58, hf⟩ := y_g hf
      refine y_getI (pc2 := 35) rfl dX0_begin_32 F_BoxYard_Act_27 (by decide) rfl g58 ?_
      obtain ⟨g49, hf⟩ := y_g hf
      obtain ⟨h47, e48, hf⟩ := y_bdE hf
      refine y_putI (x := y_I h44 p2 8) (pc2 := 38) rfl dX0_begin_35 Fp_BoxYard_Act_30 (by decide) rfl g49 e48 ?_
      refine y_aload_n (x := p0) (pc2 := 39) rfl dX0_begin_38 rfl ?_
      refine y_aload_n (x := p2) (pc2 := 40) rfl dX0_begin_39 rfl ?_
      obtain ⟨g57, hf⟩ := y_g hf
      refine y_getI (pc2 := 43) rfl dX0_begin_40 F_BoxYard_Act_31 (by decide) rfl g57 ?_
      obtain ⟨g52, hf⟩ := y_g hf
      obtain ⟨h50, e51, hf⟩ := y_bdE hf
      refine y_putI (x := y_I h47 p2 9) (pc2 := 46) rfl dX0_begin_43 Fp_BoxYard_Act_34 (by decide) rfl g52 e51 ?_
      refine y_aload_n (x := p0) (pc2 := 47) rfl dX0_begin_46 rfl ?_
      refine y_aload_n (x := p2) (pc2 := 48) rfl dX0_begin_47 rfl ?_
      obtain ⟨g56, hf⟩ := y_g hf
      refine y_getZ (pc2 := 51) rfl dX0_begin_48 F_BoxYard_Act_35 (by decide) rfl g56 ?_
      obtain ⟨g55, hf⟩ := y_g hf
      obtain ⟨h53, e54, hf⟩ := y_bdE hf
      refine y_putZ (x := y_B h50 p2 10) (pc2 := 54) rfl dX0_begin_51 Fp_BoxYard_Act_39 (by decide) rfl g55 e54 ?_
      exact y_pk [0, 3, 4] rfl (hj54 _ _ _ _ hf)
theorem dX11_isWithin_0 : decode cX11_isWithin 0 = .ok (.iload_n 0, 1) := by decide +kernel
theorem dX11_isWithin_1 : decode cX11_isWithin 1 = .ok (.iload_n 1, 1) := by decide +kernel
theorem dX11_isWithin_2 : decode cX11_isWithin 2 = .ok (.if_icmp .lt 12, 3) := by decide +kernel
theorem dX11_isWithin_5 : decode cX11_isWithin 5 = .ok (.iload_n 0, 1) := by decide +kernel
theorem dX11_isWithin_6 : decode cX11_isWithin 6 = .ok (.iload_n 2, 1) := by decide +kernel
theorem dX11_isWithin_7 : decode cX11_isWithin 7 = .ok (.if_icmp .gt 7, 3) := by decide +kernel
theorem dX11_isWithin_10 : decode cX11_isWithin 10 = .ok (.iconst 1, 1) := by decide +kernel
theorem dX11_isWithin_11 : decode cX11_isWithin 11 = .ok (.goto 4, 3) := by decide +kernel
theorem dX11_isWithin_14 : decode cX11_isWithin 14 = .ok (.iconst 0, 1) := by decide +kernel
theorem dX11_isWithin_15 : decode cX11_isWithin 15 = .ok (.ireturn, 1) := by decide +kernel
def M_X11_isWithin : y_M := (yX11_isWithin, cX11_isWithin, 3, (Option.some Jvm.ClassFile.FieldType.boolean))
theorem n_X11_isWithin : y_N0 M_X11_isWithin 3 := ⟨(c_2 99 (by decide +kernel) rfl), (c_1 1 (by decide +kernel) rfl), ⟨by decide +kernel, by decide +kernel⟩, by decide +kernel⟩
set_option maxRecDepth 100000 in
def f_X11_isWithin (p0 : Int32) (p1 : Int32) (p2 : Int32) (h : y_H) : Option (Bool × y_H) :=
  y_jn (fun (h1 : y_H) => (
      some (false, h1) : Option (Bool × y_H))) (fun j14 =>
  if p0 < p1 then
    j14 h
  else
    if p2 < p0 then
      j14 h
    else
      some (true, h))
abbrev rm_X11_isWithin : Room := { frames := 0, cells := 0, slots := 0, locals := 0 }
set_option maxRecDepth 100000 in
set_option maxHeartbeats 4000000 in
theorem k_X11_isWithin {l : Launch} {G : y_G} {p0 : Int32} {p1 : Int32} {p2 : Int32} {h hz : y_H} {rz : Bool} (hf : f_X11_isWithin p0 p1 p2 h = some (rz, hz)) : y_S l G M_X11_isWithin rm_X11_isWithin [.int p0, .int p1, .int p2] h (some (.int (y_z rz))) hz := by
  refine y_start (lv := [(0, .int p0), (1, .int p1), (2, .int p2)]) (by decide) (by simp [lg_sl, y_p_cat, y_ci, y_cj, M_X11_isWithin]) (by simp [lv_args, y_p_cat, y_ci, y_cj]) (fun z ad0 => ?_)
  unfold f_X11_isWithin at hf
  refine y_iload_n (pc2 := 1) rfl dX11_isWithin_0 rfl ?_
  refine y_iload_n (pc2 := 2) rfl dX11_isWithin_1 rfl ?_
  refine y_jnE hf (fun j => ∀ (h1 : y_H), j h1 = some (rz, hz) → y_V l G z rm_X11_isWithin M_X11_isWithin ad0 h (some (.int (y_z rz))) hz 14 [] [] h1 0 0) (fun h1 hf => ?_) (fun j14 hj14 hf => ?_)
  · refine y_iconst (v := 0) (pc2 := 15) rfl dX11_isWithin_14 (by decide) ?_
    exact y_zretF (x := false) hf dX11_isWithin_15 rfl (by decide) (by decide)
  · refine y_icmp_lt (tgt := 14) (pc2 := 5) rfl dX11_isWithin_2 (by decide) (fun c3 => ?_) (fun c3 => ?_)
    · replace hf := y_it c3 hf
      exact y_pk [] rfl (hj14 _ hf)
    · replace hf := y_ie c3 hf
      refine y_iload_n (pc2 := 6) rfl dX11_isWithin_5 rfl ?_
      refine y_iload_n (pc2 := 7) rfl dX11_isWithin_6 rfl ?_
      refine y_icmp_gt (tgt := 14) (pc2 := 10) rfl dX11_isWithin_7 (by decide) (fun c2 => ?_) (fun c2 => ?_)
      · replace hf := y_it c2 hf
        exact y_pk [] rfl (hj14 _ hf)
      · replace hf := y_ie c2 hf
        refine y_iconst (v := 1) (pc2 := 11) rfl dX11_isWithin_10 (by decide) ?_
        refine y_goto (tgt := 15) dX11_isWithin_11 (by decide) ?_
        exact y_zretF (x := true) hf dX11_isWithin_15 rfl (by decide) (by decide)
theorem dX1_areHeights_0 : decode cX1_areHeights 0 = .ok (.iload_n 0, 1) := by decide +kernel
theorem dX1_areHeights_1 : decode cX1_areHeights 1 = .ok (.iconst 1, 1) := by decide +kernel
theorem dX1_areHeights_2 : decode cX1_areHeights 2 = .ok (.if_icmp .lt 9, 3) := by decide +kernel
theorem dX1_areHeights_5 : decode cX1_areHeights 5 = .ok (.iload_n 0, 1) := by decide +kernel
theorem dX1_areHeights_6 : decode cX1_areHeights 6 = .ok (.ldc 29, 2) := by decide +kernel
theorem dX1_areHeights_8 : decode cX1_areHeights 8 = .ok (.if_icmp .le 5, 3) := by decide +kernel
theorem dX1_areHeights_11 : decode cX1_areHeights 11 = .ok (.iconst 0, 1) := by decide +kernel
theorem dX1_areHeights_12 : decode cX1_areHeights 12 = .ok (.ireturn, 1) := by decide +kernel
theorem dX1_areHeights_13 : decode cX1_areHeights 13 = .ok (.iload_n 0, 1) := by decide +kernel
theorem dX1_areHeights_14 : decode cX1_areHeights 14 = .ok (.istore_n 1, 1) := by decide +kernel
theorem dX1_areHeights_15 : decode cX1_areHeights 15 = .ok (.iconst 0, 1) := by decide +kernel
theorem dX1_areHeights_16 : decode cX1_areHeights 16 = .ok (.istore_n 2, 1) := by decide +kernel
theorem dX1_areHeights_17 : decode cX1_areHeights 17 = .ok (.iload_n 2, 1) := by decide +kernel
theorem dX1_areHeights_18 : decode cX1_areHeights 18 = .ok (.bipush 6, 2) := by decide +kernel
theorem dX1_areHeights_20 : decode cX1_areHeights 20 = .ok (.if_icmp .ge 32, 3) := by decide +kernel
theorem dX1_areHeights_23 : decode cX1_areHeights 23 = .ok (.iload_n 1, 1) := by decide +kernel
theorem dX1_areHeights_24 : decode cX1_areHeights 24 = .ok (.ifCond .le 28, 3) := by decide +kernel
theorem dX1_areHeights_27 : decode cX1_areHeights 27 = .ok (.iload_n 1, 1) := by decide +kernel
theorem dX1_areHeights_28 : decode cX1_areHeights 28 = .ok (.bipush 10, 2) := by decide +kernel
theorem dX1_areHeights_30 : decode cX1_areHeights 30 = .ok (.irem, 1) := by decide +kernel
theorem dX1_areHeights_31 : decode cX1_areHeights 31 = .ok (.iconst 1, 1) := by decide +kernel
theorem dX1_areHeights_32 : decode cX1_areHeights 32 = .ok (.iconst 5, 1) := by decide +kernel
theorem dX1_areHeights_33 : decode cX1_areHeights 33 = .ok (.invokestatic 30, 3) := by decide +kernel
theorem dX1_areHeights_36 : decode cX1_areHeights 36 = .ok (.ifCond .ne 5, 3) := by decide +kernel
theorem dX1_areHeights_39 : decode cX1_areHeights 39 = .ok (.iconst 0, 1) := by decide +kernel
theorem dX1_areHeights_40 : decode cX1_areHeights 40 = .ok (.ireturn, 1) := by decide +kernel
theorem dX1_areHeights_41 : decode cX1_areHeights 41 = .ok (.iload_n 1, 1) := by decide +kernel
theorem dX1_areHeights_42 : decode cX1_areHeights 42 = .ok (.bipush 10, 2) := by decide +kernel
theorem dX1_areHeights_44 : decode cX1_areHeights 44 = .ok (.idiv, 1) := by decide +kernel
theorem dX1_areHeights_45 : decode cX1_areHeights 45 = .ok (.istore_n 1, 1) := by decide +kernel
theorem dX1_areHeights_46 : decode cX1_areHeights 46 = .ok (.iinc 2 1, 3) := by decide +kernel
theorem dX1_areHeights_49 : decode cX1_areHeights 49 = .ok (.goto (-32), 3) := by decide +kernel
theorem dX1_areHeights_52 : decode cX1_areHeights 52 = .ok (.iconst 1, 1) := by decide +kernel
theorem dX1_areHeights_53 : decode cX1_areHeights 53 = .ok (.ireturn, 1) := by decide +kernel
def M_X1_areHeights : y_M := (yX1_areHeights, cX1_areHeights, 3, (Option.some Jvm.ClassFile.FieldType.boolean))
theorem n_X1_areHeights : y_N0 M_X1_areHeights 1 := ⟨(c_3 37 (by decide +kernel) rfl), (c_1 11 (by decide +kernel) rfl), ⟨by decide +kernel, by decide +kernel⟩, by decide +kernel⟩
theorem k_BoxYard_Bay_29 : Cond.constant "BoxYard$Bay" 29 555555 ∈ y_tb := (c_3 38 (by decide +kernel) rfl)
theorem l_BoxYard_Bay_30 : y_lnk "BoxYard$Bay" 30 M_X11_isWithin := Or.inr ⟨"BoxYard", (c_3 39 (by decide +kernel) rfl)⟩
theorem t_X11_isWithin : Cond.static (M_X11_isWithin).1 ∈ y_tb := (c_2 98 (by decide +kernel) rfl)
set_option maxRecDepth 100000 in
def f_X1_areHeights (p0 : Int32) (h : y_H) : Option (Bool × y_H) :=
  y_jn (fun (h1 : y_H) => (
      some (false, h1) : Option (Bool × y_H))) (fun j11 =>
  if p0 < 1 then
    j11 h
  else
    if p0 ≤ 555555 then
      y_jl (fun (_ : Int32) (_ : Int32) (_ : y_H) => (none : Option (Bool × y_H))) (fun j17 (v1_17 : Int32) (v2_17 : Int32) (h2 : y_H) =>
          y_jn (fun (h3 : y_H) => (
              some (true, h3) : Option (Bool × y_H))) (fun j52 =>
          if 6 ≤ v2_17 then
            j52 h2
          else
            if v1_17 ≤ 0 then
              j52 h2
            else
              y_cl (f_X11_isWithin (y_rem v1_17 10) 1 5 h2) (fun r4 h5 =>
              if r4 = true then
                j17 (v1_17 / 10) (v2_17 + 1) h5
              else
                some (false, h5)))) (fun j17 =>
      j17 p0 0 h)
    else
      j11 h)
abbrev rm_X1_areHeights : Room := { frames := 1, cells := 0, slots := 0, locals := 22 }
set_option maxRecDepth 100000 in
set_option maxHeartbeats 4000000 in
theorem k_X1_areHeights {l : Launch} {G : y_G} {p0 : Int32} {h hz : y_H} {rz : Bool} (hf : f_X1_areHeights p0 h = some (rz, hz)) : y_S l G M_X1_areHeights rm_X1_areHeights [.int p0] h (some (.int (y_z rz))) hz := by
  refine y_start (lv := [(0, .int p0)]) (by decide) (by simp [lg_sl, y_p_cat, y_ci, y_cj, M_X1_areHeights]) (by simp [lv_args, y_p_cat, y_ci, y_cj]) (fun z ad0 => ?_)
  unfold f_X1_areHeights at hf
  refine y_iload_n (pc2 := 1) rfl dX1_areHeights_0 rfl ?_
  refine y_iconst (v := 1) (pc2 := 2) rfl dX1_areHeights_1 (by decide) ?_
  refine y_jnE hf (fun j => ∀ (h1 : y_H), j h1 = some (rz, hz) → y_V l G z rm_X1_areHeights M_X1_areHeights ad0 h (some (.int (y_z rz))) hz 11 [] [] h1 0 0) (fun h1 hf => ?_) (fun j11 hj11 hf => ?_)
  · refine y_iconst (v := 0) (pc2 := 12) rfl dX1_areHeights_11 (by decide) ?_
    exact y_zretF (x := false) hf dX1_areHeights_12 rfl (by decide) (by decide)
  · refine y_icmp_lt (tgt := 11) (pc2 := 5) rfl dX1_areHeights_2 (by decide) (fun c11 => ?_) (fun c11 => ?_)
    · replace hf := y_it c11 hf
      exact y_pk [] rfl (hj11 _ hf)
    · replace hf := y_ie c11 hf
      refine y_iload_n (pc2 := 6) rfl dX1_areHeights_5 rfl ?_
      refine y_ldc (v := 555555) (pc2 := 8) rfl dX1_areHeights_6 k_BoxYard_Bay_29 ?_
      refine y_icmp_le (tgt := 13) (pc2 := 11) rfl dX1_areHeights_8 (by decide) (fun c10 => ?_) (fun c10 => ?_)
      · replace hf := y_it c10 hf
        refine y_iload_n (pc2 := 14) rfl dX1_areHeights_13 rfl ?_
        refine y_istore_n (lv' := [(1, .int p0), (0, .int p0)]) (pc2 := 15) rfl dX1_areHeights_14 (by decide) rfl ?_
        refine y_iconst (v := 0) (pc2 := 16) rfl dX1_areHeights_15 (by decide) ?_
        refine y_jlE hf (fun j => ∀ (v1_17 : Int32) (v2_17 : Int32) (h2 : y_H), j v1_17 v2_17 h2 = some (rz, hz) → y_V l G z rm_X1_areHeights M_X1_areHeights ad0 h (some (.int (y_z rz))) hz 17 [(1, .int v1_17), (2, .int v2_17)] [] h2 0 0) (fun _ _ _ hf => by cases hf) (fun j17 hj17 v1_17 v2_17 h2 hf => ?_) (fun j17 hj17 hf => ?_)
        · refine y_iload_n (pc2 := 18) rfl dX1_areHeights_17 rfl ?_
          refine y_bipush (v := 6) (pc2 := 20) rfl dX1_areHeights_18 (by decide) ?_
          refine y_jnE hf (fun j => ∀ (h3 : y_H), j h3 = some (rz, hz) → y_V l G z rm_X1_areHeights M_X1_areHeights ad0 h (some (.int (y_z rz))) hz 52 [] [] h3 0 0) (fun h3 hf => ?_) (fun j52 hj52 hf => ?_)
          · refine y_iconst (v := 1) (pc2 := 53) rfl dX1_areHeights_52 (by decide) ?_
            exact y_zretF (x := true) hf dX1_areHeights_53 rfl (by decide) (by decide)
          · refine y_icmp_ge (tgt := 52) (pc2 := 23) rfl dX1_areHeights_20 (by decide) (fun c9 => ?_) (fun c9 => ?_)
            · replace hf := y_it c9 hf
              exact y_pk [] rfl (hj52 _ hf)
            · replace hf := y_ie c9 hf
              refine y_iload_n (pc2 := 24) rfl dX1_areHeights_23 rfl ?_
              refine y_if_le (tgt := 52) (pc2 := 27) rfl dX1_areHeights_24 (by decide) (fun c8 => ?_) (fun c8 => ?_)
              · replace hf := y_it c8 hf
                exact y_pk [] rfl (hj52 _ hf)
              · replace hf := y_ie c8 hf
                refine y_iload_n (pc2 := 28) rfl dX1_areHeights_27 rfl ?_
                refine y_bipush (v := 10) (pc2 := 30) rfl dX1_areHeights_28 (by decide) ?_
                refine y_rm (pc2 := 31) rfl dX1_areHeights_30 (by decide) ?_
                refine y_iconst (v := 1) (pc2 := 32) rfl dX1_areHeights_31 (by decide) ?_
                refine y_iconst (v := 5) (pc2 := 33) rfl dX1_areHeights_32 (by decide) ?_
                obtain ⟨r4, h5, c6, hf⟩ := y_clE hf
                refine y_callS (As := [.int (y_rem v1_17 10), .int 1, .int 5]) (rm := rm_X11_isWithin) (cells := 0) (slots := 0) (pc2 := 36) rfl dX1_areHeights_33 n_X11_isWithin l_BoxYard_Bay_30 t_X11_isWithin rfl rfl (by decide) (by decide) (by decide) (k_X11_isWithin c6) ?_
                refine y_ifz_ne (tgt := 41) (pc2 := 39) rfl dX1_areHeights_36 (by decide) (fun c7 => ?_) (fun c7 => ?_)
                · replace hf := y_it c7 hf
                  refine y_iload_n (pc2 := 42) rfl dX1_areHeights_41 rfl ?_
                  refine y_bipush (v := 10) (pc2 := 44) rfl dX1_areHeights_42 (by decide) ?_
                  refine y_idiv (pc2 := 45) rfl dX1_areHeights_44 (by decide) ?_
                  refine y_istore_n (lv' := [(1, .int (v1_17 / 10)), (2, .int v2_17)]) (pc2 := 46) rfl dX1_areHeights_45 (by decide) rfl ?_
                  refine y_iinc (v := v2_17 + 1) (lv' := [(2, .int (v2_17 + 1)), (1, .int (v1_17 / 10))]) (pc2 := 49) rfl dX1_areHeights_46 rfl rfl (by decide) rfl ?_
                  refine y_goto (tgt := 17) dX1_areHeights_49 (by decide) ?_
                  exact y_pk [1, 0] rfl (hj17 _ _ _ hf)
                · replace hf := y_ie c7 hf
                  refine y_iconst (v := 0) (pc2 := 40) rfl dX1_areHeights_39 (by decide) ?_
                  exact y_zretF (x := false) hf dX1_areHeights_40 rfl (by decide) (by decide)
        · refine y_istore_n (lv' := [(2, .int 0), (1, .int p0), (0, .int p0)]) (pc2 := 17) rfl dX1_areHeights_16 (by decide) rfl ?_
          exact y_pk [1, 0] rfl (hj17 _ _ _ hf)
      · replace hf := y_ie c10 hf
        exact y_pk [] rfl (hj11 _ hf)
theorem dX1_begin_0 : decode cX1_begin 0 = .ok (.aload_n 0, 1) := by decide +kernel
theorem dX1_begin_1 : decode cX1_begin 1 = .ok (.iconst 1, 1) := by decide +kernel
theorem dX1_begin_2 : decode cX1_begin 2 = .ok (.putfield 36, 3) := by decide +kernel
theorem dX1_begin_5 : decode cX1_begin 5 = .ok (.aload_n 0, 1) := by decide +kernel
theorem dX1_begin_6 : decode cX1_begin 6 = .ok (.iload_n 1, 1) := by decide +kernel
theorem dX1_begin_7 : decode cX1_begin 7 = .ok (.putfield 40, 3) := by decide +kernel
theorem dX1_begin_10 : decode cX1_begin 10 = .ok (.aload_n 0, 1) := by decide +kernel
theorem dX1_begin_11 : decode cX1_begin 11 = .ok (.iconst 0, 1) := by decide +kernel
theorem dX1_begin_12 : decode cX1_begin 12 = .ok (.putfield 43, 3) := by decide +kernel
theorem dX1_begin_15 : decode cX1_begin 15 = .ok (.iload_n 2, 1) := by decide +kernel
theorem dX1_begin_16 : decode cX1_begin 16 = .ok (.istore_n 3, 1) := by decide +kernel
theorem dX1_begin_17 : decode cX1_begin 17 = .ok (.iconst 0, 1) := by decide +kernel
theorem dX1_begin_18 : decode cX1_begin 18 = .ok (.istore 4, 2) := by decide +kernel
theorem dX1_begin_20 : decode cX1_begin 20 = .ok (.iload 4, 2) := by decide +kernel
theorem dX1_begin_22 : decode cX1_begin 22 = .ok (.bipush 6, 2) := by decide +kernel
theorem dX1_begin_24 : decode cX1_begin 24 = .ok (.if_icmp .ge 65, 3) := by decide +kernel
theorem dX1_begin_27 : decode cX1_begin 27 = .ok (.aload_n 0, 1) := by decide +kernel
theorem dX1_begin_28 : decode cX1_begin 28 = .ok (.getfield 9, 3) := by decide +kernel
theorem dX1_begin_31 : decode cX1_begin 31 = .ok (.iload 4, 2) := by decide +kernel
theorem dX1_begin_33 : decode cX1_begin 33 = .ok (.iload_n 3, 1) := by decide +kernel
theorem dX1_begin_34 : decode cX1_begin 34 = .ok (.bipush 10, 2) := by decide +kernel
theorem dX1_begin_36 : decode cX1_begin 36 = .ok (.irem, 1) := by decide +kernel
theorem dX1_begin_37 : decode cX1_begin 37 = .ok (.iastore, 1) := by decide +kernel
theorem dX1_begin_38 : decode cX1_begin 38 = .ok (.aload_n 0, 1) := by decide +kernel
theorem dX1_begin_39 : decode cX1_begin 39 = .ok (.getfield 13, 3) := by decide +kernel
theorem dX1_begin_42 : decode cX1_begin 42 = .ok (.iload 4, 2) := by decide +kernel
theorem dX1_begin_44 : decode cX1_begin 44 = .ok (.iconst 0, 1) := by decide +kernel
theorem dX1_begin_45 : decode cX1_begin 45 = .ok (.iastore, 1) := by decide +kernel
theorem dX1_begin_46 : decode cX1_begin 46 = .ok (.aload_n 0, 1) := by decide +kernel
theorem dX1_begin_47 : decode cX1_begin 47 = .ok (.getfield 16, 3) := by decide +kernel
theorem dX1_begin_50 : decode cX1_begin 50 = .ok (.iload 4, 2) := by decide +kernel
theorem dX1_begin_52 : decode cX1_begin 52 = .ok (.iconst 0, 1) := by decide +kernel
theorem dX1_begin_53 : decode cX1_begin 53 = .ok (.iastore, 1) := by decide +kernel
theorem dX1_begin_54 : decode cX1_begin 54 = .ok (.aload_n 0, 1) := by decide +kernel
theorem dX1_begin_55 : decode cX1_begin 55 = .ok (.dup, 1) := by decide +kernel
theorem dX1_begin_56 : decode cX1_begin 56 = .ok (.getfield 43, 3) := by decide +kernel
theorem dX1_begin_59 : decode cX1_begin 59 = .ok (.aload_n 0, 1) := by decide +kernel
theorem dX1_begin_60 : decode cX1_begin 60 = .ok (.getfield 9, 3) := by decide +kernel
theorem dX1_begin_63 : decode cX1_begin 63 = .ok (.iload 4, 2) := by decide +kernel
theorem dX1_begin_65 : decode cX1_begin 65 = .ok (.iaload, 1) := by decide +kernel
theorem dX1_begin_66 : decode cX1_begin 66 = .ok (.ifCond .le 7, 3) := by decide +kernel
theorem dX1_begin_69 : decode cX1_begin 69 = .ok (.iconst 1, 1) := by decide +kernel
theorem dX1_begin_70 : decode cX1_begin 70 = .ok (.goto 4, 3) := by decide +kernel
theorem dX1_begin_73 : decode cX1_begin 73 = .ok (.iconst 0, 1) := by decide +kernel
theorem dX1_begin_74 : decode cX1_begin 74 = .ok (.iadd, 1) := by decide +kernel
theorem dX1_begin_75 : decode cX1_begin 75 = .ok (.putfield 43, 3) := by decide +kernel
theorem dX1_begin_78 : decode cX1_begin 78 = .ok (.iload_n 3, 1) := by decide +kernel
theorem dX1_begin_79 : decode cX1_begin 79 = .ok (.bipush 10, 2) := by decide +kernel
theorem dX1_begin_81 : decode cX1_begin 81 = .ok (.idiv, 1) := by decide +kernel
theorem dX1_begin_82 : decode cX1_begin 82 = .ok (.istore_n 3, 1) := by decide +kernel
theorem dX1_begin_83 : decode cX1_begin 83 = .ok (.iinc 4 1, 3) := by decide +kernel
theorem dX1_begin_86 : decode cX1_begin 86 = .ok (.goto (-66), 3) := by decide +kernel
theorem dX1_begin_89 : decode cX1_begin 89 = .ok (.iconst 0, 1) := by decide +kernel
theorem dX1_begin_90 : decode cX1_begin 90 = .ok (.istore 4, 2) := by decide +kernel
theorem dX1_begin_92 : decode cX1_begin 92 = .ok (.iload 4, 2) := by decide +kernel
theorem dX1_begin_94 : decode cX1_begin 94 = .ok (.aload_n 0, 1) := by decide +kernel
theorem dX1_begin_95 : decode cX1_begin 95 = .ok (.getfield 21, 3) := by decide +kernel
theorem dX1_begin_98 : decode cX1_begin 98 = .ok (.arraylength, 1) := by decide +kernel
theorem dX1_begin_99 : decode cX1_begin 99 = .ok (.if_icmp .ge 17, 3) := by decide +kernel
theorem dX1_begin_102 : decode cX1_begin 102 = .ok (.aload_n 0, 1) := by decide +kernel
theorem dX1_begin_103 : decode cX1_begin 103 = .ok (.getfield 21, 3) := by decide +kernel
theorem dX1_begin_106 : decode cX1_begin 106 = .ok (.iload 4, 2) := by decide +kernel
theorem dX1_begin_108 : decode cX1_begin 108 = .ok (.aconst_null, 1) := by decide +kernel
theorem dX1_begin_109 : decode cX1_begin 109 = .ok (.aastore, 1) := by decide +kernel
theorem dX1_begin_110 : decode cX1_begin 110 = .ok (.iinc 4 1, 3) := by decide +kernel
theorem dX1_begin_113 : decode cX1_begin 113 = .ok (.goto (-21), 3) := by decide +kernel
theorem dX1_begin_116 : decode cX1_begin 116 = .ok (.return_, 1) := by decide +kernel
def M_X1_begin : y_M := (yX1_begin, cX1_begin, 5, (Option.none : Option Jvm.ClassFile.FieldType))
theorem n_X1_begin : y_N0 M_X1_begin 2 := ⟨(c_3 103 (by decide +kernel) rfl), (c_1 11 (by decide +kernel) rfl), ⟨by decide +kernel, by decide +kernel⟩, by decide +kernel⟩
theorem Fp_BoxYard_Bay_36 {nm : String} : y_Fp "BoxYard$Bay" nm 36 1 5 := ⟨_, _, _, rfl, by decide, Or.inl ⟨rfl, Or.inl (c_3 77 (by decide +kernel) rfl)⟩⟩
theorem Fp_BoxYard_Bay_40 {nm : String} : y_Fp "BoxYard$Bay" nm 40 1 6 := ⟨_, _, _, rfl, by decide, Or.inl ⟨rfl, Or.inl (c_3 78 (by decide +kernel) rfl)⟩⟩
theorem Fp_BoxYard_Bay_43 {nm : String} : y_Fp "BoxYard$Bay" nm 43 1 7 := ⟨_, _, _, rfl, by decide, Or.inl ⟨rfl, Or.inl (c_3 80 (by decide +kernel) rfl)⟩⟩
theorem F_BoxYard_Bay_21 : y_F "BoxYard$Bay" 21 1 4 := ⟨_, _, _, rfl, by decide, Or.inl (c_3 73 (by decide +kernel) rfl)⟩
theorem F_BoxYard_Bay_9 : y_F "BoxYard$Bay" 9 1 1 := ⟨_, _, _, rfl, by decide, Or.inl (c_3 60 (by decide +kernel) rfl)⟩
theorem F_BoxYard_Bay_13 : y_F "BoxYard$Bay" 13 1 2 := ⟨_, _, _, rfl, by decide, Or.inl (c_3 65 (by decide +kernel) rfl)⟩
theorem F_BoxYard_Bay_16 : y_F "BoxYard$Bay" 16 1 3 := ⟨_, _, _, rfl, by decide, Or.inl (c_3 68 (by decide +kernel) rfl)⟩
theorem F_BoxYard_Bay_43 : y_F "BoxYard$Bay" 43 1 7 := ⟨_, _, _, rfl, by decide, Or.inl (c_3 80 (by decide +kernel) rfl)⟩
set_option maxRecDepth 100000 in
def f_X1_begin (p0 : Nat) (p1 : Int32) (p2 : Int32) (h : y_H) : Option (Unit × y_H) :=
  if y_K h p0 = 2 then
  y_bd (s_B h p0 5 true) (fun h1 =>
  if y_K h1 p0 = 2 then
  y_bd (s_I h1 p0 6 p1) (fun h4 =>
  if y_K h4 p0 = 2 then
  y_bd (s_I h4 p0 7 0) (fun h7 =>
  y_jl (fun (_ : Nat) (_ : Int32) (_ : Int32) (_ : y_H) => (none : Option (Unit × y_H))) (fun j20 (v0_20 : Nat) (v3_20 : Int32) (v4_20 : Int32) (h10 : y_H) =>
      if 6 ≤ v4_20 then
        y_jl (fun (_ : Nat) (_ : Int32) (_ : y_H) => (none : Option (Unit × y_H))) (fun j92 (v0_92 : Nat) (v4_92 : Int32) (h11 : y_H) =>
            if y_K h11 v0_92 = 2 then
            if y_K h11 (y_P h11 v0_92 4) = 103 then
            if (nI (y_N h11 (y_P h11 v0_92 4))) ≤ v4_92 then
              some ((), h11)
            else
              if y_K h11 v0_92 = 2 then
              if y_K h11 (y_P h11 v0_92 4) = 103 ∧ y_ix v4_92 (y_N h11 (y_P h11 v0_92 4)) = true ∧ (0 = 0 ∨ y_K h11 0 = 3) then
              y_bd (s_P h11 (y_P h11 v0_92 4) (Int32.toNatClampNeg v4_92) 0) (fun h12 =>
              j92 v0_92 (v4_92 + 1) h12)
              else none
              else none
            else none
            else none) (fun j92 =>
        j92 v0_20 0 h10)
      else
        if y_K h10 v0_20 = 2 then
        if y_K h10 (y_P h10 v0_20 1) = 100 ∧ y_ix v4_20 (y_N h10 (y_P h10 v0_20 1)) = true then
        y_bd (s_I h10 (y_P h10 v0_20 1) (Int32.toNatClampNeg v4_20) (y_rem v3_20 10)) (fun h19 =>
        if y_K h19 v0_20 = 2 then
        if y_K h19 (y_P h19 v0_20 2) = 100 ∧ y_ix v4_20 (y_N h19 (y_P h19 v0_20 2)) = true then
        y_bd (s_I h19 (y_P h19 v0_20 2) (Int32.toNatClampNeg v4_20) 0) (fun h22 =>
        if y_K h22 v0_20 = 2 then
        if y_K h22 (y_P h22 v0_20 3) = 100 ∧ y_ix v4_20 (y_N h22 (y_P h22 v0_20 3)) = true then
        y_bd (s_I h22 (y_P h22 v0_20 3) (Int32.toNatClampNeg v4_20) 0) (fun h25 =>
        if y_K h25 v0_20 = 2 then
        if y_K h25 v0_20 = 2 then
        if y_K h25 (y_P h25 v0_20 1) = 100 ∧ y_ix v4_20 (y_N h25 (y_P h25 v0_20 1)) = true then
        if (y_I h25 (y_P h25 v0_20 1) (Int32.toNatClampNeg v4_20)) ≤ 0 then
          if y_K h25 v0_20 = 2 then
          y_bd (s_I h25 v0_20 7 ((y_I h25 v0_20 7) + 0)) (fun h28 =>
          j20 v0_20 (v3_20 / 10) (v4_20 + 1) h28)
          else none
        else
          if y_K h25 v0_20 = 2 then
          y_bd (s_I h25 v0_20 7 ((y_I h25 v0_20 7) + 1)) (fun h31 =>
          j20 v0_20 (v3_20 / 10) (v4_20 + 1) h31)
          else none
        else none
        else none
        else none)
        else none
        else none)
        else none
        else none)
        else none
        else none) (fun j20 =>
  j20 p0 p2 0 h7))
  else none)
  else none)
  else none
abbrev rm_X1_begin : Room := { frames := 0, cells := 0, slots := 0, locals := 0 }
set_option maxRecDepth 100000 in
set_option maxHeartbeats 4000000 in
theorem k_X1_begin {l : Launch} {G : y_G} {p0 : Nat} {p1 : Int32} {p2 : Int32} {h hz : y_H} {rz : Unit} (hf : f_X1_begin p0 p1 p2 h = some (rz, hz)) : y_S l G M_X1_begin rm_X1_begin [y_p p0, .int p1, .int p2] h none hz := by
  refine y_start (lv := [(0, y_p p0), (1, .int p1), (2, .int p2)]) (by decide) (by simp [lg_sl, y_p_cat, y_ci, y_cj, M_X1_begin]) (by simp [lv_args, y_p_cat, y_ci, y_cj]) (fun z ad0 => ?_)
  unfold f_X1_begin at hf
  refine y_aload_n (x := p0) (pc2 := 1) rfl dX1_begin_0 rfl ?_
  refine y_iconst (v := 1) (pc2 := 2) rfl dX1_begin_1 (by decide) ?_
  obtain ⟨g3, hf⟩ := y_g hf
  obtain ⟨h1, e2, hf⟩ := y_bdE hf
  refine y_putZ (x := true) (pc2 := 5) rfl dX1_begin_2 Fp_BoxYard_Bay_36 (by decide) rfl g3 e2 ?_
  refine y_aload_n (x := p0) (pc2 := 6) rfl dX1_begin_5 rfl ?_
  refine y_iload_n (pc2 := 7) rfl dX1_begin_6 rfl ?_
  obtain ⟨g6, hf⟩ := y_g hf
  obtain ⟨h4, e5, hf⟩ := y_bdE hf
  refine y_putI (x := p1) (pc2 := 10) rfl dX1_begin_7 Fp_BoxYard_Bay_40 (by decide) rfl g6 e5 ?_
  refine y_aload_n (x := p0) (pc2 := 11) rfl dX1_begin_10 rfl ?_
  refine y_iconst (v := 0) (pc2 := 12) rfl dX1_begin_11 (by decide) ?_
  obtain ⟨g9, hf⟩ := y_g hf
  obtain ⟨h7, e8, hf⟩ := y_bdE hf
  refine y_putI (x := 0) (pc2 := 15) rfl dX1_begin_12 Fp_BoxYard_Bay_43 (by decide) rfl g9 e8 ?_
  refine y_iload_n (pc2 := 16) rfl dX1_begin_15 rfl ?_
  refine y_istore_n (lv' := [(3, .int p2), (0, y_p p0), (1, .int p1), (2, .int p2)]) (pc2 := 17) rfl dX1_begin_16 (by decide) rfl ?_
  refine y_iconst (v := 0) (pc2 := 18) rfl dX1_begin_17 (by decide) ?_
  refine y_jlE hf (fun j => ∀ (v0_20 : Nat) (v3_20 : Int32) (v4_20 : Int32) (h10 : y_H), j v0_20 v3_20 v4_20 h10 = some (rz, hz) → y_V l G z rm_X1_begin M_X1_begin ad0 h none hz 20 [(0, y_p v0_20), (3, .int v3_20), (4, .int v4_20)] [] h10 0 0) (fun _ _ _ _ hf => by cases hf) (fun j20 hj20 v0_20 v3_20 v4_20 h10 hf => ?_) (fun j20 hj20 hf => ?_)
  · refine y_iload (pc2 := 22) rfl dX1_begin_20 rfl ?_
    refine y_bipush (v := 6) (pc2 := 24) rfl dX1_begin_22 (by decide) ?_
    refine y_icmp_ge (tgt := 89) (pc2 := 27) rfl dX1_begin_24 (by decide) (fun c41 => ?_) (fun c41 => ?_)
    · replace hf := y_it c41 hf
      refine y_iconst (v := 0) (pc2 := 90) rfl dX1_begin_89 (by decide) ?_
      refine y_jlE hf (fun j => ∀ (v0_92 : Nat) (v4_92 : Int32) (h11 : y_H), j v0_92 v4_92 h11 = some (rz, hz) → y_V l G z rm_X1_begin M_X1_begin ad0 h none hz 92 [(0, y_p v0_92), (4, .int v4_92)] [] h11 0 0) (fun _ _ _ hf => by cases hf) (fun j92 hj92 v0_92 v4_92 h11 hf => ?_) (fun j92 hj92 hf => ?_)
      · refine y_iload (pc2 := 94) rfl dX1_begin_92 rfl ?_
        refine y_aload_n (x := v0_92) (pc2 := 95) rfl dX1_begin_94 rfl ?_
        obtain ⟨g18, hf⟩ := y_g hf
        refine y_getP (pc2 := 98) rfl dX1_begin_95 F_BoxYard_Bay_21 (by decide) rfl g18 ?_
        obtain ⟨g17, hf⟩ := y_g hf
        refine y_alen (t := 3) (pc2 := 99) rfl dX1_begin_98 (by decide) g17 ?_
        refine y_icmp_ge (tgt := 116) (pc2 := 102) rfl dX1_begin_99 (by decide) (fun c16 => ?_) (fun c16 => ?_)
        · replace hf := y_it c16 hf
          exact y_vretF hf dX1_begin_116 rfl (by decide) (by decide)
        · replace hf := y_ie c16 hf
          refine y_aload_n (x := v0_92) (pc2 := 103) rfl dX1_begin_102 rfl ?_
          obtain ⟨g15, hf⟩ := y_g hf
          refine y_getP (pc2 := 106) rfl dX1_begin_103 F_BoxYard_Bay_21 (by decide) rfl g15 ?_
          refine y_iload (pc2 := 108) rfl dX1_begin_106 rfl ?_
          refine y_null (pc2 := 109) rfl dX1_begin_108 ?_
          obtain ⟨g14, hf⟩ := y_g hf
          obtain ⟨h12, e13, hf⟩ := y_bdE hf
          refine y_aast (t := 3) (ci := 2) (x := 0) (pc2 := 110) rfl dX1_begin_109 (by decide) rfl (by decide) rfl g14.1 (y_ix_in g14.2.1) g14.2.2 e13 ?_
          refine y_iinc (v := v4_92 + 1) (lv' := [(4, .int (v4_92 + 1)), (0, y_p v0_92)]) (pc2 := 113) rfl dX1_begin_110 rfl rfl (by decide) rfl ?_
          refine y_goto (tgt := 92) dX1_begin_113 (by decide) ?_
          exact y_pk [1, 0] rfl (hj92 _ _ _ hf)
      · refine y_istore (lv' := [(4, .int 0), (0, y_p v0_20), (3, .int v3_20)]) (pc2 := 92) rfl dX1_begin_90 (by decide) rfl ?_
        exact y_pk [1, 0] rfl (hj92 _ _ _ hf)
    · replace hf := y_ie c41 hf
      refine y_aload_n (x := v0_20) (pc2 := 28) rfl dX1_begin_27 rfl ?_
      obtain ⟨g40, hf⟩ := y_g hf
      refine y_getP (pc2 := 31) rfl dX1_begin_28 F_BoxYard_Bay_9 (by decide) rfl g40 ?_
      refine y_iload (pc2 := 33) rfl dX1_begin_31 rfl ?_
      refine y_iload_n (pc2 := 34) rfl dX1_begin_33 rfl ?_
      refine y_bipush (v := 10) (pc2 := 36) rfl dX1_begin_34 (by decide) ?_
      refine y_rm (pc2 := 37) rfl dX1_begin_36 (by decide) ?_
      obtain ⟨g21, hf⟩ := y_g hf
      obtain ⟨h19, e20, hf⟩ := y_bdE hf
      refine y_iast (x := y_rem v3_20 10) (pc2 := 38) rfl dX1_begin_37 g21.1 (y_ix_in g21.2) e20 ?_
      refine y_aload_n (x := v0_20) (pc2 := 39) rfl dX1_begin_38 rfl ?_
      obtain ⟨g39, hf⟩ := y_g hf
      refine y_getP (pc2 := 42) rfl dX1_begin_39 F_BoxYard_Bay_13 (by decide) rfl g39 ?_
      refine y_iload (pc2 := 44) rfl dX1_begin_42 rfl ?_
      refine y_iconst (v := 0) (pc2 := 45) rfl dX1_begin_44 (by decide) ?_
      obtain ⟨g24, hf⟩ := y_g hf
      obtain ⟨h22, e23, hf⟩ := y_bdE hf
      refine y_iast (x := 0) (pc2 := 46) rfl dX1_begin_45 g24.1 (y_ix_in g24.2) e23 ?_
      refine y_aload_n (x := v0_20) (pc2 := 47) rfl dX1_begin_46 rfl ?_
      obtain ⟨g38, hf⟩ := y_g hf
      refine y_getP (pc2 := 50) rfl dX1_begin_47 F_BoxYard_Bay_16 (by decide) rfl g38 ?_
      refine y_iload (pc2 := 52) rfl dX1_begin_50 rfl ?_
      refine y_iconst (v := 0) (pc2 := 53) rfl dX1_begin_52 (by decide) ?_
      obtain ⟨g27, hf⟩ := y_g hf
      obtain ⟨h25, e26, hf⟩ := y_bdE hf
      refine y_iast (x := 0) (pc2 := 54) rfl dX1_begin_53 g27.1 (y_ix_in g27.2) e26 ?_
      refine y_aload_n (x := v0_20) (pc2 := 55) rfl dX1_begin_54 rfl ?_
      refine y_dup (pc2 := 56) rfl dX1_begin_55 (y_p_cat _) ?_
      obtain ⟨g37, hf⟩ := y_g hf
      refine y_getI (pc2 := 59) rfl dX1_begin_56 F_BoxYard_Bay_43 (by decide) rfl g37 ?_
      refine y_aload_n (x := v0_20) (pc2 := 60) rfl dX1_begin_59 rfl ?_
      obtain ⟨g36, hf⟩ := y_g hf
      refine y_getP (pc2 := 63) rfl dX1_begin_60 F_BoxYard_Bay_9 (by decide) rfl g36 ?_
      refine y_iload (pc2 := 65) rfl dX1_begin_63 rfl ?_
      obtain ⟨g35, hf⟩ := y_g hf
      refine y_iald (pc2 := 66) rfl dX1_begin_65 g35.1 (y_ix_in g35.2) ?_
      refine y_if_le (tgt := 73) (pc2 := 69) rfl dX1_begin_66 (by decide) (fun c34 => ?_) (fun c34 => ?_)
      · replace hf := y_it c34 hf
        refine y_iconst (v := 0) (pc2 := 74) rfl dX1_begin_73 (by decide) ?_
        refine y_iadd (pc2 := 75) rfl dX1_begin_74 ?_
        obtain ⟨g30, hf⟩ := y_g hf
        obtain ⟨h28, e29, hf⟩ := y_bdE hf
        refine y_putI (x := (y_I h25 v0_20 7) + 0) (pc2 := 78) rfl dX1_begin_75 Fp_BoxYard_Bay_43 (by decide) rfl g30 e29 ?_
        refine y_iload_n (pc2 := 79) rfl dX1_begin_78 rfl ?_
        refine y_bipush (v := 10) (pc2 := 81) rfl dX1_begin_79 (by decide) ?_
        refine y_idiv (pc2 := 82) rfl dX1_begin_81 (by decide) ?_
        refine y_istore_n (lv' := [(3, .int (v3_20 / 10)), (0, y_p v0_20), (4, .int v4_20)]) (pc2 := 83) rfl dX1_begin_82 (by decide) rfl ?_
        refine y_iinc (v := v4_20 + 1) (lv' := [(4, .int (v4_20 + 1)), (3, .int (v3_20 / 10)), (0, y_p v0_20)]) (pc2 := 86) rfl dX1_begin_83 rfl rfl (by decide) rfl ?_
        refine y_goto (tgt := 20) dX1_begin_86 (by decide) ?_
        exact y_pk [2, 1, 0] rfl (hj20 _ _ _ _ hf)
      · replace hf := y_ie c34 hf
        refine y_iconst (v := 1) (pc2 := 70) rfl dX1_begin_69 (by decide) ?_
        refine y_goto (tgt := 74) dX1_begin_70 (by decide) ?_
        refine y_iadd (pc2 := 75) rfl dX1_begin_74 ?_
        obtain ⟨g33, hf⟩ := y_g hf
        obtain ⟨h31, e32, hf⟩ := y_bdE hf
        refine y_putI (x := (y_I h25 v0_20 7) + 1) (pc2 := 78) rfl dX1_begin_75 Fp_BoxYard_Bay_43 (by decide) rfl g33 e32 ?_
        refine y_iload_n (pc2 := 79) rfl dX1_begin_78 rfl ?_
        refine y_bipush (v := 10) (pc2 := 81) rfl dX1_begin_79 (by decide) ?_
        refine y_idiv (pc2 := 82) rfl dX1_begin_81 (by decide) ?_
        refine y_istore_n (lv' := [(3, .int (v3_20 / 10)), (0, y_p v0_20), (4, .int v4_20)]) (pc2 := 83) rfl dX1_begin_82 (by decide) rfl ?_
        refine y_iinc (v := v4_20 + 1) (lv' := [(4, .int (v4_20 + 1)), (3, .int (v3_20 / 10)), (0, y_p v0_20)]) (pc2 := 86) rfl dX1_begin_83 rfl rfl (by decide) rfl ?_
        refine y_goto (tgt := 20) dX1_begin_86 (by decide) ?_
        exact y_pk [2, 1, 0] rfl (hj20 _ _ _ _ hf)
  · refine y_istore (lv' := [(4, .int 0), (3, .int p2), (0, y_p p0), (1, .int p1), (2, .int p2)]) (pc2 := 20) rfl dX1_begin_18 (by decide) rfl ?_
    exact y_pk [2, 1, 0] rfl (hj20 _ _ _ _ hf)
theorem dX1_hasStack_0 : decode cX1_hasStack 0 = .ok (.iload_n 1, 1) := by decide +kernel
theorem dX1_hasStack_1 : decode cX1_hasStack 1 = .ok (.ifCond .lt 15, 3) := by decide +kernel
theorem dX1_hasStack_4 : decode cX1_hasStack 4 = .ok (.iload_n 1, 1) := by decide +kernel
theorem dX1_hasStack_5 : decode cX1_hasStack 5 = .ok (.aload_n 0, 1) := by decide +kernel
theorem dX1_hasStack_6 : decode cX1_hasStack 6 = .ok (.getfield 43, 3) := by decide +kernel
theorem dX1_hasStack_9 : decode cX1_hasStack 9 = .ok (.if_icmp .ge 7, 3) := by decide +kernel
theorem dX1_hasStack_12 : decode cX1_hasStack 12 = .ok (.iconst 1, 1) := by decide +kernel
theorem dX1_hasStack_13 : decode cX1_hasStack 13 = .ok (.goto 4, 3) := by decide +kernel
theorem dX1_hasStack_16 : decode cX1_hasStack 16 = .ok (.iconst 0, 1) := by decide +kernel
theorem dX1_hasStack_17 : decode cX1_hasStack 17 = .ok (.ireturn, 1) := by decide +kernel
def M_X1_hasStack : y_M := (yX1_hasStack, cX1_hasStack, 2, (Option.some Jvm.ClassFile.FieldType.boolean))
theorem n_X1_hasStack : y_N0 M_X1_hasStack 1 := ⟨(c_3 111 (by decide +kernel) rfl), (c_1 11 (by decide +kernel) rfl), ⟨by decide +kernel, by decide +kernel⟩, by decide +kernel⟩
set_option maxRecDepth 100000 in
def f_X1_hasStack (p0 : Nat) (p1 : Int32) (h : y_H) : Option (Bool × y_H) :=
  y_jn (fun (h1 : y_H) => (
      some (false, h1) : Option (Bool × y_H))) (fun j16 =>
  if p1 < 0 then
    j16 h
  else
    if y_K h p0 = 2 then
    if (y_I h p0 7) ≤ p1 then
      j16 h
    else
      some (true, h)
    else none)
abbrev rm_X1_hasStack : Room := { frames := 0, cells := 0, slots := 0, locals := 0 }
set_option maxRecDepth 100000 in
set_option maxHeartbeats 4000000 in
theorem k_X1_hasStack {l : Launch} {G : y_G} {p0 : Nat} {p1 : Int32} {h hz : y_H} {rz : Bool} (hf : f_X1_hasStack p0 p1 h = some (rz, hz)) : y_S l G M_X1_hasStack rm_X1_hasStack [y_p p0, .int p1] h (some (.int (y_z rz))) hz := by
  refine y_start (lv := [(0, y_p p0), (1, .int p1)]) (by decide) (by simp [lg_sl, y_p_cat, y_ci, y_cj, M_X1_hasStack]) (by simp [lv_args, y_p_cat, y_ci, y_cj]) (fun z ad0 => ?_)
  unfold f_X1_hasStack at hf
  refine y_iload_n (pc2 := 1) rfl dX1_hasStack_0 rfl ?_
  refine y_jnE hf (fun j => ∀ (h1 : y_H), j h1 = some (rz, hz) → y_V l G z rm_X1_hasStack M_X1_hasStack ad0 h (some (.int (y_z rz))) hz 16 [] [] h1 0 0) (fun h1 hf => ?_) (fun j16 hj16 hf => ?_)
  · refine y_iconst (v := 0) (pc2 := 17) rfl dX1_hasStack_16 (by decide) ?_
    exact y_zretF (x := false) hf dX1_hasStack_17 rfl (by decide) (by decide)
  · refine y_if_lt (tgt := 16) (pc2 := 4) rfl dX1_hasStack_1 (by decide) (fun c4 => ?_) (fun c4 => ?_)
    · replace hf := y_it c4 hf
      exact y_pk [] rfl (hj16 _ hf)
    · replace hf := y_ie c4 hf
      refine y_iload_n (pc2 := 5) rfl dX1_hasStack_4 rfl ?_
      refine y_aload_n (x := p0) (pc2 := 6) rfl dX1_hasStack_5 rfl ?_
      obtain ⟨g3, hf⟩ := y_g hf
      refine y_getI (pc2 := 9) rfl dX1_hasStack_6 F_BoxYard_Bay_43 (by decide) rfl g3 ?_
      refine y_icmp_ge (tgt := 16) (pc2 := 12) rfl dX1_hasStack_9 (by decide) (fun c2 => ?_) (fun c2 => ?_)
      · replace hf := y_it c2 hf
        exact y_pk [] rfl (hj16 _ hf)
      · replace hf := y_ie c2 hf
        refine y_iconst (v := 1) (pc2 := 13) rfl dX1_hasStack_12 (by decide) ?_
        refine y_goto (tgt := 17) dX1_hasStack_13 (by decide) ?_
        exact y_zretF (x := true) hf dX1_hasStack_17 rfl (by decide) (by decide)
theorem dX1_hasPlace_0 : decode cX1_hasPlace 0 = .ok (.iload_n 1, 1) := by decide +kernel
theorem dX1_hasPlace_1 : decode cX1_hasPlace 1 = .ok (.ifCond .lt 29, 3) := by decide +kernel
theorem dX1_hasPlace_4 : decode cX1_hasPlace 4 = .ok (.iload_n 1, 1) := by decide +kernel
theorem dX1_hasPlace_5 : decode cX1_hasPlace 5 = .ok (.aload_n 0, 1) := by decide +kernel
theorem dX1_hasPlace_6 : decode cX1_hasPlace 6 = .ok (.getfield 43, 3) := by decide +kernel
theorem dX1_hasPlace_9 : decode cX1_hasPlace 9 = .ok (.if_icmp .ge 21, 3) := by decide +kernel
theorem dX1_hasPlace_12 : decode cX1_hasPlace 12 = .ok (.iload_n 2, 1) := by decide +kernel
theorem dX1_hasPlace_13 : decode cX1_hasPlace 13 = .ok (.ifCond .lt 17, 3) := by decide +kernel
theorem dX1_hasPlace_16 : decode cX1_hasPlace 16 = .ok (.iload_n 2, 1) := by decide +kernel
theorem dX1_hasPlace_17 : decode cX1_hasPlace 17 = .ok (.aload_n 0, 1) := by decide +kernel
theorem dX1_hasPlace_18 : decode cX1_hasPlace 18 = .ok (.getfield 9, 3) := by decide +kernel
theorem dX1_hasPlace_21 : decode cX1_hasPlace 21 = .ok (.iload_n 1, 1) := by decide +kernel
theorem dX1_hasPlace_22 : decode cX1_hasPlace 22 = .ok (.iaload, 1) := by decide +kernel
theorem dX1_hasPlace_23 : decode cX1_hasPlace 23 = .ok (.if_icmp .ge 7, 3) := by decide +kernel
theorem dX1_hasPlace_26 : decode cX1_hasPlace 26 = .ok (.iconst 1, 1) := by decide +kernel
theorem dX1_hasPlace_27 : decode cX1_hasPlace 27 = .ok (.goto 4, 3) := by decide +kernel
theorem dX1_hasPlace_30 : decode cX1_hasPlace 30 = .ok (.iconst 0, 1) := by decide +kernel
theorem dX1_hasPlace_31 : decode cX1_hasPlace 31 = .ok (.ireturn, 1) := by decide +kernel
def M_X1_hasPlace : y_M := (yX1_hasPlace, cX1_hasPlace, 3, (Option.some Jvm.ClassFile.FieldType.boolean))
theorem n_X1_hasPlace : y_N0 M_X1_hasPlace 2 := ⟨(c_3 135 (by decide +kernel) rfl), (c_1 11 (by decide +kernel) rfl), ⟨by decide +kernel, by decide +kernel⟩, by decide +kernel⟩
set_option maxRecDepth 100000 in
def f_X1_hasPlace (p0 : Nat) (p1 : Int32) (p2 : Int32) (h : y_H) : Option (Bool × y_H) :=
  y_jn (fun (h1 : y_H) => (
      some (false, h1) : Option (Bool × y_H))) (fun j30 =>
  if p1 < 0 then
    j30 h
  else
    if y_K h p0 = 2 then
    if (y_I h p0 7) ≤ p1 then
      j30 h
    else
      if p2 < 0 then
        j30 h
      else
        if y_K h p0 = 2 then
        if y_K h (y_P h p0 1) = 100 ∧ y_ix p1 (y_N h (y_P h p0 1)) = true then
        if (y_I h (y_P h p0 1) (Int32.toNatClampNeg p1)) ≤ p2 then
          j30 h
        else
          some (true, h)
        else none
        else none
    else none)
abbrev rm_X1_hasPlace : Room := { frames := 0, cells := 0, slots := 0, locals := 0 }
set_option maxRecDepth 100000 in
set_option maxHeartbeats 4000000 in
theorem k_X1_hasPlace {l : Launch} {G : y_G} {p0 : Nat} {p1 : Int32} {p2 : Int32} {h hz : y_H} {rz : Bool} (hf : f_X1_hasPlace p0 p1 p2 h = some (rz, hz)) : y_S l G M_X1_hasPlace rm_X1_hasPlace [y_p p0, .int p1, .int p2] h (some (.int (y_z rz))) hz := by
  refine y_start (lv := [(0, y_p p0), (1, .int p1), (2, .int p2)]) (by decide) (by simp [lg_sl, y_p_cat, y_ci, y_cj, M_X1_hasPlace]) (by simp [lv_args, y_p_cat, y_ci, y_cj]) (fun z ad0 => ?_)
  unfold f_X1_hasPlace at hf
  refine y_iload_n (pc2 := 1) rfl dX1_hasPlace_0 rfl ?_
  refine y_jnE hf (fun j => ∀ (h1 : y_H), j h1 = some (rz, hz) → y_V l G z rm_X1_hasPlace M_X1_hasPlace ad0 h (some (.int (y_z rz))) hz 30 [] [] h1 0 0) (fun h1 hf => ?_) (fun j30 hj30 hf => ?_)
  · refine y_iconst (v := 0) (pc2 := 31) rfl dX1_hasPlace_30 (by decide) ?_
    exact y_zretF (x := false) hf dX1_hasPlace_31 rfl (by decide) (by decide)
  · refine y_if_lt (tgt := 30) (pc2 := 4) rfl dX1_hasPlace_1 (by decide) (fun c8 => ?_) (fun c8 => ?_)
    · replace hf := y_it c8 hf
      exact y_pk [] rfl (hj30 _ hf)
    · replace hf := y_ie c8 hf
      refine y_iload_n (pc2 := 5) rfl dX1_hasPlace_4 rfl ?_
      refine y_aload_n (x := p0) (pc2 := 6) rfl dX1_hasPlace_5 rfl ?_
      obtain ⟨g7, hf⟩ := y_g hf
      refine y_getI (pc2 := 9) rfl dX1_hasPlace_6 F_BoxYard_Bay_43 (by decide) rfl g7 ?_
      refine y_icmp_ge (tgt := 30) (pc2 := 12) rfl dX1_hasPlace_9 (by decide) (fun c6 => ?_) (fun c6 => ?_)
      · replace hf := y_it c6 hf
        exact y_pk [] rfl (hj30 _ hf)
      · replace hf := y_ie c6 hf
        refine y_iload_n (pc2 := 13) rfl dX1_hasPlace_12 rfl ?_
        refine y_if_lt (tgt := 30) (pc2 := 16) rfl dX1_hasPlace_13 (by decide) (fun c5 => ?_) (fun c5 => ?_)
        · replace hf := y_it c5 hf
          exact y_pk [] rfl (hj30 _ hf)
        · replace hf := y_ie c5 hf
          refine y_iload_n (pc2 := 17) rfl dX1_hasPlace_16 rfl ?_
          refine y_aload_n (x := p0) (pc2 := 18) rfl dX1_hasPlace_17 rfl ?_
          obtain ⟨g4, hf⟩ := y_g hf
          refine y_getP (pc2 := 21) rfl dX1_hasPlace_18 F_BoxYard_Bay_9 (by decide) rfl g4 ?_
          refine y_iload_n (pc2 := 22) rfl dX1_hasPlace_21 rfl ?_
          obtain ⟨g3, hf⟩ := y_g hf
          refine y_iald (pc2 := 23) rfl dX1_hasPlace_22 g3.1 (y_ix_in g3.2) ?_
          refine y_icmp_ge (tgt := 30) (pc2 := 26) rfl dX1_hasPlace_23 (by decide) (fun c2 => ?_) (fun c2 => ?_)
          · replace hf := y_it c2 hf
            exact y_pk [] rfl (hj30 _ hf)
          · replace hf := y_ie c2 hf
            refine y_iconst (v := 1) (pc2 := 27) rfl dX1_hasPlace_26 (by decide) ?_
            refine y_goto (tgt := 31) dX1_hasPlace_27 (by decide) ?_
            exact y_zretF (x := true) hf dX1_hasPlace_31 rfl (by decide) (by decide)
theorem dX1_boxIn_0 : decode cX1_boxIn 0 = .ok (.aload_n 0, 1) := by decide +kernel
theorem dX1_boxIn_1 : decode cX1_boxIn 1 = .ok (.iload_n 1, 1) := by decide +kernel
theorem dX1_boxIn_2 : decode cX1_boxIn 2 = .ok (.iload_n 2, 1) := by decide +kernel
theorem dX1_boxIn_3 : decode cX1_boxIn 3 = .ok (.invokevirtual 46, 3) := by decide +kernel
theorem dX1_boxIn_6 : decode cX1_boxIn 6 = .ok (.ifCond .eq 16, 3) := by decide +kernel
theorem dX1_boxIn_9 : decode cX1_boxIn 9 = .ok (.aload_n 0, 1) := by decide +kernel
theorem dX1_boxIn_10 : decode cX1_boxIn 10 = .ok (.getfield 21, 3) := by decide +kernel
theorem dX1_boxIn_13 : decode cX1_boxIn 13 = .ok (.iload_n 1, 1) := by decide +kernel
theorem dX1_boxIn_14 : decode cX1_boxIn 14 = .ok (.iconst 5, 1) := by decide +kernel
theorem dX1_boxIn_15 : decode cX1_boxIn 15 = .ok (.imul, 1) := by decide +kernel
theorem dX1_boxIn_16 : decode cX1_boxIn 16 = .ok (.iload_n 2, 1) := by decide +kernel
theorem dX1_boxIn_17 : decode cX1_boxIn 17 = .ok (.iadd, 1) := by decide +kernel
theorem dX1_boxIn_18 : decode cX1_boxIn 18 = .ok (.aaload, 1) := by decide +kernel
theorem dX1_boxIn_19 : decode cX1_boxIn 19 = .ok (.goto 4, 3) := by decide +kernel
theorem dX1_boxIn_22 : decode cX1_boxIn 22 = .ok (.aconst_null, 1) := by decide +kernel
theorem dX1_boxIn_23 : decode cX1_boxIn 23 = .ok (.areturn, 1) := by decide +kernel
def M_X1_boxIn : y_M := (yX1_boxIn, cX1_boxIn, 3, (Option.some (Jvm.ClassFile.FieldType.object "BoxYard$Box")))
theorem n_X1_boxIn : y_N0 M_X1_boxIn 2 := ⟨(c_3 131 (by decide +kernel) rfl), (c_1 11 (by decide +kernel) rfl), ⟨by decide +kernel, by decide +kernel⟩, by decide +kernel⟩
theorem l_BoxYard_Bay_46 : y_lnk "BoxYard$Bay" 46 M_X1_hasPlace := Or.inl (c_3 132 (by decide +kernel) rfl)
theorem i_X1_hasPlace : Cond.instanceMethod (M_X1_hasPlace).1 ∈ y_tb := (c_3 134 (by decide +kernel) rfl)
theorem e_X1_hasPlace : Cond.selects (M_X1_hasPlace).1.cls (M_X1_hasPlace).1 (M_X1_hasPlace).1 ∈ y_tb := (m_s 6 (by decide +kernel) rfl)
set_option maxRecDepth 100000 in
def f_X1_boxIn (p0 : Nat) (p1 : Int32) (p2 : Int32) (h : y_H) : Option (Nat × y_H) :=
  if y_K h p0 = 2 then
  y_cl (f_X1_hasPlace p0 p1 p2 h) (fun r1 h2 =>
  if r1 = true then
    if y_K h2 p0 = 2 then
    if y_K h2 (y_P h2 p0 4) = 103 ∧ y_ix ((p1 * 5) + p2) (y_N h2 (y_P h2 p0 4)) = true then
    some (y_P h2 (y_P h2 p0 4) (Int32.toNatClampNeg ((p1 * 5) + p2)), h2)
    else none
    else none
  else
    some (0, h2))
  else none
abbrev rm_X1_boxIn : Room := { frames := 1, cells := 0, slots := 0, locals := 22 }
set_option maxRecDepth 100000 in
set_option maxHeartbeats 4000000 in
theorem k_X1_boxIn {l : Launch} {G : y_G} {p0 : Nat} {p1 : Int32} {p2 : Int32} {h hz : y_H} {rz : Nat} (hf : f_X1_boxIn p0 p1 p2 h = some (rz, hz)) : y_S l G M_X1_boxIn rm_X1_boxIn [y_p p0, .int p1, .int p2] h (some (y_p rz)) hz := by
  refine y_start (lv := [(0, y_p p0), (1, .int p1), (2, .int p2)]) (by decide) (by simp [lg_sl, y_p_cat, y_ci, y_cj, M_X1_boxIn]) (by simp [lv_args, y_p_cat, y_ci, y_cj]) (fun z ad0 => ?_)
  unfold f_X1_boxIn at hf
  refine y_aload_n (x := p0) (pc2 := 1) rfl dX1_boxIn_0 rfl ?_
  refine y_iload_n (pc2 := 2) rfl dX1_boxIn_1 rfl ?_
  refine y_iload_n (pc2 := 3) rfl dX1_boxIn_2 rfl ?_
  obtain ⟨g7, hf⟩ := y_g hf
  obtain ⟨r1, h2, c3, hf⟩ := y_clE hf
  refine y_callV (As := [.int p1, .int p2]) (rm := rm_X1_hasPlace) (cells := 0) (slots := 0) (pc2 := 6) rfl dX1_boxIn_3 n_X1_hasPlace l_BoxYard_Bay_46 i_X1_hasPlace e_X1_hasPlace (ci := 1) rfl rfl (by decide) g7 rfl rfl (by decide) (by decide) (by decide) (k_X1_hasPlace c3) ?_
  refine y_ifz_eq (tgt := 22) (pc2 := 9) rfl dX1_boxIn_6 (by decide) (fun c6 => ?_) (fun c6 => ?_)
  · replace hf := y_ie c6 hf
    refine y_null (pc2 := 23) rfl dX1_boxIn_22 ?_
    exact y_aretF hf dX1_boxIn_23 rfl (Or.inl ⟨_, rfl⟩) (by decide) (by decide)
  · replace hf := y_it c6 hf
    refine y_aload_n (x := p0) (pc2 := 10) rfl dX1_boxIn_9 rfl ?_
    obtain ⟨g5, hf⟩ := y_g hf
    refine y_getP (pc2 := 13) rfl dX1_boxIn_10 F_BoxYard_Bay_21 (by decide) rfl g5 ?_
    refine y_iload_n (pc2 := 14) rfl dX1_boxIn_13 rfl ?_
    refine y_iconst (v := 5) (pc2 := 15) rfl dX1_boxIn_14 (by decide) ?_
    refine y_imul (pc2 := 16) rfl dX1_boxIn_15 ?_
    refine y_iload_n (pc2 := 17) rfl dX1_boxIn_16 rfl ?_
    refine y_iadd (pc2 := 18) rfl dX1_boxIn_17 ?_
    obtain ⟨g4, hf⟩ := y_g hf
    refine y_aald (t := 3) (pc2 := 19) rfl dX1_boxIn_18 (by decide) rfl g4.1 (y_ix_in g4.2) ?_
    refine y_goto (tgt := 23) dX1_boxIn_19 (by decide) ?_
    exact y_aretF hf dX1_boxIn_23 rfl (Or.inl ⟨_, rfl⟩) (by decide) (by decide)
theorem dX1_topOf_0 : decode cX1_topOf 0 = .ok (.aload_n 0, 1) := by decide +kernel
theorem dX1_topOf_1 : decode cX1_topOf 1 = .ok (.iload_n 1, 1) := by decide +kernel
theorem dX1_topOf_2 : decode cX1_topOf 2 = .ok (.invokevirtual 50, 3) := by decide +kernel
theorem dX1_topOf_5 : decode cX1_topOf 5 = .ok (.ifCond .eq 19, 3) := by decide +kernel
theorem dX1_topOf_8 : decode cX1_topOf 8 = .ok (.aload_n 0, 1) := by decide +kernel
theorem dX1_topOf_9 : decode cX1_topOf 9 = .ok (.iload_n 1, 1) := by decide +kernel
theorem dX1_topOf_10 : decode cX1_topOf 10 = .ok (.aload_n 0, 1) := by decide +kernel
theorem dX1_topOf_11 : decode cX1_topOf 11 = .ok (.getfield 16, 3) := by decide +kernel
theorem dX1_topOf_14 : decode cX1_topOf 14 = .ok (.iload_n 1, 1) := by decide +kernel
theorem dX1_topOf_15 : decode cX1_topOf 15 = .ok (.iaload, 1) := by decide +kernel
theorem dX1_topOf_16 : decode cX1_topOf 16 = .ok (.iconst 1, 1) := by decide +kernel
theorem dX1_topOf_17 : decode cX1_topOf 17 = .ok (.isub, 1) := by decide +kernel
theorem dX1_topOf_18 : decode cX1_topOf 18 = .ok (.invokevirtual 54, 3) := by decide +kernel
theorem dX1_topOf_21 : decode cX1_topOf 21 = .ok (.goto 4, 3) := by decide +kernel
theorem dX1_topOf_24 : decode cX1_topOf 24 = .ok (.aconst_null, 1) := by decide +kernel
theorem dX1_topOf_25 : decode cX1_topOf 25 = .ok (.areturn, 1) := by decide +kernel
def M_X1_topOf : y_M := (yX1_topOf, cX1_topOf, 2, (Option.some (Jvm.ClassFile.FieldType.object "BoxYard$Box")))
theorem n_X1_topOf : y_N0 M_X1_topOf 1 := ⟨(c_4 74 (by decide +kernel) rfl), (c_1 11 (by decide +kernel) rfl), ⟨by decide +kernel, by decide +kernel⟩, by decide +kernel⟩
theorem l_BoxYard_Bay_50 : y_lnk "BoxYard$Bay" 50 M_X1_hasStack := Or.inl (c_4 75 (by decide +kernel) rfl)
theorem i_X1_hasStack : Cond.instanceMethod (M_X1_hasStack).1 ∈ y_tb := (c_3 109 (by decide +kernel) rfl)
theorem e_X1_hasStack : Cond.selects (M_X1_hasStack).1.cls (M_X1_hasStack).1 (M_X1_hasStack).1 ∈ y_tb := (c_3 110 (by decide +kernel) rfl)
theorem l_BoxYard_Bay_54 : y_lnk "BoxYard$Bay" 54 M_X1_boxIn := Or.inl (c_4 76 (by decide +kernel) rfl)
theorem i_X1_boxIn : Cond.instanceMethod (M_X1_boxIn).1 ∈ y_tb := (c_3 129 (by decide +kernel) rfl)
theorem e_X1_boxIn : Cond.selects (M_X1_boxIn).1.cls (M_X1_boxIn).1 (M_X1_boxIn).1 ∈ y_tb := (c_3 130 (by decide +kernel) rfl)
set_option maxRecDepth 100000 in
def f_X1_topOf (p0 : Nat) (p1 : Int32) (h : y_H) : Option (Nat × y_H) :=
  if y_K h p0 = 2 then
  y_cl (f_X1_hasStack p0 p1 h) (fun r1 h2 =>
  if r1 = true then
    if y_K h2 p0 = 2 then
    if y_K h2 (y_P h2 p0 3) = 100 ∧ y_ix p1 (y_N h2 (y_P h2 p0 3)) = true then
    if y_K h2 p0 = 2 then
    y_cl (f_X1_boxIn p0 p1 ((y_I h2 (y_P h2 p0 3) (Int32.toNatClampNeg p1)) - 1) h2) (fun r4 h5 =>
    some (r4, h5))
    else none
    else none
    else none
  else
    some (0, h2))
  else none
abbrev rm_X1_topOf : Room := { frames := 2, cells := 0, slots := 0, locals := 44 }
set_option maxRecDepth 100000 in
set_option maxHeartbeats 4000000 in
theorem k_X1_topOf {l : Launch} {G : y_G} {p0 : Nat} {p1 : Int32} {h hz : y_H} {rz : Nat} (hf : f_X1_topOf p0 p1 h = some (rz, hz)) : y_S l G M_X1_topOf rm_X1_topOf [y_p p0, .int p1] h (some (y_p rz)) hz := by
  refine y_start (lv := [(0, y_p p0), (1, .int p1)]) (by decide) (by simp [lg_sl, y_p_cat, y_ci, y_cj, M_X1_topOf]) (by simp [lv_args, y_p_cat, y_ci, y_cj]) (fun z ad0 => ?_)
  unfold f_X1_topOf at hf
  refine y_aload_n (x := p0) (pc2 := 1) rfl dX1_topOf_0 rfl ?_
  refine y_iload_n (pc2 := 2) rfl dX1_topOf_1 rfl ?_
  obtain ⟨g11, hf⟩ := y_g hf
  obtain ⟨r1, h2, c3, hf⟩ := y_clE hf
  refine y_callV (As := [.int p1]) (rm := rm_X1_hasStack) (cells := 0) (slots := 0) (pc2 := 5) rfl dX1_topOf_2 n_X1_hasStack l_BoxYard_Bay_50 i_X1_hasStack e_X1_hasStack (ci := 1) rfl rfl (by decide) g11 rfl rfl (by decide) (by decide) (by decide) (k_X1_hasStack c3) ?_
  refine y_ifz_eq (tgt := 24) (pc2 := 8) rfl dX1_topOf_5 (by decide) (fun c10 => ?_) (fun c10 => ?_)
  · replace hf := y_ie c10 hf
    refine y_null (pc2 := 25) rfl dX1_topOf_24 ?_
    exact y_aretF hf dX1_topOf_25 rfl (Or.inl ⟨_, rfl⟩) (by decide) (by decide)
  · replace hf := y_it c10 hf
    refine y_aload_n (x := p0) (pc2 := 9) rfl dX1_topOf_8 rfl ?_
    refine y_iload_n (pc2 := 10) rfl dX1_topOf_9 rfl ?_
    refine y_aload_n (x := p0) (pc2 := 11) rfl dX1_topOf_10 rfl ?_
    obtain ⟨g9, hf⟩ := y_g hf
    refine y_getP (pc2 := 14) rfl dX1_topOf_11 F_BoxYard_Bay_16 (by decide) rfl g9 ?_
    refine y_iload_n (pc2 := 15) rfl dX1_topOf_14 rfl ?_
    obtain ⟨g8, hf⟩ := y_g hf
    refine y_iald (pc2 := 16) rfl dX1_topOf_15 g8.1 (y_ix_in g8.2) ?_
    refine y_iconst (v := 1) (pc2 := 17) rfl dX1_topOf_16 (by decide) ?_
    refine y_isub (pc2 := 18) rfl dX1_topOf_17 ?_
    obtain ⟨g7, hf⟩ := y_g hf
    obtain ⟨r4, h5, c6, hf⟩ := y_clE hf
    refine y_callV (As := [.int p1, .int ((y_I h2 (y_P h2 p0 3) (Int32.toNatClampNeg p1)) - 1)]) (rm := rm_X1_boxIn) (cells := 0) (slots := 0) (pc2 := 21) rfl dX1_topOf_18 n_X1_boxIn l_BoxYard_Bay_54 i_X1_boxIn e_X1_boxIn (ci := 1) rfl rfl (by decide) g7 rfl rfl (by decide) (by decide) (by decide) (k_X1_boxIn c6) ?_
    refine y_goto (tgt := 25) dX1_topOf_21 (by decide) ?_
    exact y_aretF hf dX1_topOf_25 rfl (Or.inl ⟨_, rfl⟩) (by decide) (by decide)
theorem dX1_putIn_0 : decode cX1_putIn 0 = .ok (.aload_n 0, 1) := by decide +kernel
theorem dX1_putIn_1 : decode cX1_putIn 1 = .ok (.iload_n 2, 1) := by decide +kernel
theorem dX1_putIn_2 : decode cX1_putIn 2 = .ok (.iload_n 3, 1) := by decide +kernel
theorem dX1_putIn_3 : decode cX1_putIn 3 = .ok (.invokevirtual 46, 3) := by decide +kernel
theorem dX1_putIn_6 : decode cX1_putIn 6 = .ok (.ifCond .eq 24, 3) := by decide +kernel
theorem dX1_putIn_9 : decode cX1_putIn 9 = .ok (.aload_n 0, 1) := by decide +kernel
theorem dX1_putIn_10 : decode cX1_putIn 10 = .ok (.getfield 21, 3) := by decide +kernel
theorem dX1_putIn_13 : decode cX1_putIn 13 = .ok (.iload_n 2, 1) := by decide +kernel
theorem dX1_putIn_14 : decode cX1_putIn 14 = .ok (.iconst 5, 1) := by decide +kernel
theorem dX1_putIn_15 : decode cX1_putIn 15 = .ok (.imul, 1) := by decide +kernel
theorem dX1_putIn_16 : decode cX1_putIn 16 = .ok (.iload_n 3, 1) := by decide +kernel
theorem dX1_putIn_17 : decode cX1_putIn 17 = .ok (.iadd, 1) := by decide +kernel
theorem dX1_putIn_18 : decode cX1_putIn 18 = .ok (.aload_n 1, 1) := by decide +kernel
theorem dX1_putIn_19 : decode cX1_putIn 19 = .ok (.aastore, 1) := by decide +kernel
theorem dX1_putIn_20 : decode cX1_putIn 20 = .ok (.aload_n 0, 1) := by decide +kernel
theorem dX1_putIn_21 : decode cX1_putIn 21 = .ok (.getfield 16, 3) := by decide +kernel
theorem dX1_putIn_24 : decode cX1_putIn 24 = .ok (.iload_n 2, 1) := by decide +kernel
theorem dX1_putIn_25 : decode cX1_putIn 25 = .ok (.dup2, 1) := by decide +kernel
theorem dX1_putIn_26 : decode cX1_putIn 26 = .ok (.iaload, 1) := by decide +kernel
theorem dX1_putIn_27 : decode cX1_putIn 27 = .ok (.iconst 1, 1) := by decide +kernel
theorem dX1_putIn_28 : decode cX1_putIn 28 = .ok (.iadd, 1) := by decide +kernel
theorem dX1_putIn_29 : decode cX1_putIn 29 = .ok (.iastore, 1) := by decide +kernel
theorem dX1_putIn_30 : decode cX1_putIn 30 = .ok (.return_, 1) := by decide +kernel
def M_X1_putIn : y_M := (yX1_putIn, cX1_putIn, 4, (Option.none : Option Jvm.ClassFile.FieldType))
theorem n_X1_putIn : y_N0 M_X1_putIn 3 := ⟨(c_4 177 (by decide +kernel) rfl), (c_1 11 (by decide +kernel) rfl), ⟨by decide +kernel, by decide +kernel⟩, by decide +kernel⟩
set_option maxRecDepth 100000 in
def f_X1_putIn (p0 : Nat) (p1 : Nat) (p2 : Int32) (p3 : Int32) (h : y_H) : Option (Unit × y_H) :=
  if y_K h p0 = 2 then
  y_cl (f_X1_hasPlace p0 p2 p3 h) (fun r1 h2 =>
  y_jn (fun (h4 : y_H) => (
      some ((), h4) : Option (Unit × y_H))) (fun j30 =>
  if r1 = true then
    if y_K h2 p0 = 2 then
    if y_K h2 (y_P h2 p0 4) = 103 ∧ y_ix ((p2 * 5) + p3) (y_N h2 (y_P h2 p0 4)) = true ∧ (p1 = 0 ∨ y_K h2 p1 = 3) then
    y_bd (s_P h2 (y_P h2 p0 4) (Int32.toNatClampNeg ((p2 * 5) + p3)) p1) (fun h5 =>
    if y_K h5 p0 = 2 then
    if y_K h5 (y_P h5 p0 3) = 100 ∧ y_ix p2 (y_N h5 (y_P h5 p0 3)) = true then
    if y_K h5 (y_P h5 p0 3) = 100 ∧ y_ix p2 (y_N h5 (y_P h5 p0 3)) = true then
    y_bd (s_I h5 (y_P h5 p0 3) (Int32.toNatClampNeg p2) ((y_I h5 (y_P h5 p0 3) (Int32.toNatClampNeg p2)) + 1)) (fun h8 =>
    j30 h8)
    else none
    else none
    else none)
    else none
    else none
  else
    j30 h2))
  else none
abbrev rm_X1_putIn : Room := { frames := 1, cells := 0, slots := 0, locals := 22 }
set_option maxRecDepth 100000 in
set_option maxHeartbeats 4000000 in
theorem k_X1_putIn {l : Launch} {G : y_G} {p0 : Nat} {p1 : Nat} {p2 : Int32} {p3 : Int32} {h hz : y_H} {rz : Unit} (hf : f_X1_putIn p0 p1 p2 p3 h = some (rz, hz)) : y_S l G M_X1_putIn rm_X1_putIn [y_p p0, y_p p1, .int p2, .int p3] h none hz := by
  refine y_start (lv := [(0, y_p p0), (1, y_p p1), (2, .int p2), (3, .int p3)]) (by decide) (by simp [lg_sl, y_p_cat, y_ci, y_cj, M_X1_putIn]) (by simp [lv_args, y_p_cat, y_ci, y_cj]) (fun z ad0 => ?_)
  unfold f_X1_putIn at hf
  refine y_aload_n (x := p0) (pc2 := 1) rfl dX1_putIn_0 rfl ?_
  refine y_iload_n (pc2 := 2) rfl dX1_putIn_1 rfl ?_
  refine y_iload_n (pc2 := 3) rfl dX1_putIn_2 rfl ?_
  obtain ⟨g15, hf⟩ := y_g hf
  obtain ⟨r1, h2, c3, hf⟩ := y_clE hf
  refine y_callV (As := [.int p2, .int p3]) (rm := rm_X1_hasPlace) (cells := 0) (slots := 0) (pc2 := 6) rfl dX1_putIn_3 n_X1_hasPlace l_BoxYard_Bay_46 i_X1_hasPlace e_X1_hasPlace (ci := 1) rfl rfl (by decide) g15 rfl rfl (by decide) (by decide) (by decide) (k_X1_hasPlace c3) ?_
  refine y_jnE hf (fun j => ∀ (h4 : y_H), j h4 = some (rz, hz) → y_V l G z rm_X1_putIn M_X1_putIn ad0 h none hz 30 [] [] h4 0 0) (fun h4 hf => ?_) (fun j30 hj30 hf => ?_)
  · exact y_vretF hf dX1_putIn_30 rfl (by decide) (by decide)
  · refine y_ifz_eq (tgt := 30) (pc2 := 9) rfl dX1_putIn_6 (by decide) (fun c14 => ?_) (fun c14 => ?_)
    · replace hf := y_ie c14 hf
      exact y_pk [] rfl (hj30 _ hf)
    · replace hf := y_it c14 hf
      refine y_aload_n (x := p0) (pc2 := 10) rfl dX1_putIn_9 rfl ?_
      obtain ⟨g13, hf⟩ := y_g hf
      refine y_getP (pc2 := 13) rfl dX1_putIn_10 F_BoxYard_Bay_21 (by decide) rfl g13 ?_
      refine y_iload_n (pc2 := 14) rfl dX1_putIn_13 rfl ?_
      refine y_iconst (v := 5) (pc2 := 15) rfl dX1_putIn_14 (by decide) ?_
      refine y_imul (pc2 := 16) rfl dX1_putIn_15 ?_
      refine y_iload_n (pc2 := 17) rfl dX1_putIn_16 rfl ?_
      refine y_iadd (pc2 := 18) rfl dX1_putIn_17 ?_
      refine y_aload_n (x := p1) (pc2 := 19) rfl dX1_putIn_18 rfl ?_
      obtain ⟨g7, hf⟩ := y_g hf
      obtain ⟨h5, e6, hf⟩ := y_bdE hf
      refine y_aast (t := 3) (ci := 2) (x := p1) (pc2 := 20) rfl dX1_putIn_19 (by decide) rfl (by decide) rfl g7.1 (y_ix_in g7.2.1) g7.2.2 e6 ?_
      refine y_aload_n (x := p0) (pc2 := 21) rfl dX1_putIn_20 rfl ?_
      obtain ⟨g12, hf⟩ := y_g hf
      refine y_getP (pc2 := 24) rfl dX1_putIn_21 F_BoxYard_Bay_16 (by decide) rfl g12 ?_
      refine y_iload_n (pc2 := 25) rfl dX1_putIn_24 rfl ?_
      refine y_dup2 (pc2 := 26) rfl dX1_putIn_25 rfl (y_p_cat _) ?_
      obtain ⟨g11, hf⟩ := y_g hf
      refine y_iald (pc2 := 27) rfl dX1_putIn_26 g11.1 (y_ix_in g11.2) ?_
      refine y_iconst (v := 1) (pc2 := 28) rfl dX1_putIn_27 (by decide) ?_
      refine y_iadd (pc2 := 29) rfl dX1_putIn_28 ?_
      obtain ⟨g10, hf⟩ := y_g hf
      obtain ⟨h8, e9, hf⟩ := y_bdE hf
      refine y_iast (x := (y_I h5 (y_P h5 p0 3) (Int32.toNatClampNeg p2)) + 1) (pc2 := 30) rfl dX1_putIn_29 g10.1 (y_ix_in g10.2) e9 ?_
      exact y_pk [] rfl (hj30 _ hf)
theorem dX1_takeOut_0 : decode cX1_takeOut 0 = .ok (.aload_n 0, 1) := by decide +kernel
theorem dX1_takeOut_1 : decode cX1_takeOut 1 = .ok (.iload_n 1, 1) := by decide +kernel
theorem dX1_takeOut_2 : decode cX1_takeOut 2 = .ok (.iload_n 2, 1) := by decide +kernel
theorem dX1_takeOut_3 : decode cX1_takeOut 3 = .ok (.invokevirtual 46, 3) := by decide +kernel
theorem dX1_takeOut_6 : decode cX1_takeOut 6 = .ok (.ifCond .eq 24, 3) := by decide +kernel
theorem dX1_takeOut_9 : decode cX1_takeOut 9 = .ok (.aload_n 0, 1) := by decide +kernel
theorem dX1_takeOut_10 : decode cX1_takeOut 10 = .ok (.getfield 21, 3) := by decide +kernel
theorem dX1_takeOut_13 : decode cX1_takeOut 13 = .ok (.iload_n 1, 1) := by decide +kernel
theorem dX1_takeOut_14 : decode cX1_takeOut 14 = .ok (.iconst 5, 1) := by decide +kernel
theorem dX1_takeOut_15 : decode cX1_takeOut 15 = .ok (.imul, 1) := by decide +kernel
theorem dX1_takeOut_16 : decode cX1_takeOut 16 = .ok (.iload_n 2, 1) := by decide +kernel
theorem dX1_takeOut_17 : decode cX1_takeOut 17 = .ok (.iadd, 1) := by decide +kernel
theorem dX1_takeOut_18 : decode cX1_takeOut 18 = .ok (.aconst_null, 1) := by decide +kernel
theorem dX1_takeOut_19 : decode cX1_takeOut 19 = .ok (.aastore, 1) := by decide +kernel
theorem dX1_takeOut_20 : decode cX1_takeOut 20 = .ok (.aload_n 0, 1) := by decide +kernel
theorem dX1_takeOut_21 : decode cX1_takeOut 21 = .ok (.getfield 16, 3) := by decide +kernel
theorem dX1_takeOut_24 : decode cX1_takeOut 24 = .ok (.iload_n 1, 1) := by decide +kernel
theorem dX1_takeOut_25 : decode cX1_takeOut 25 = .ok (.dup2, 1) := by decide +kernel
theorem dX1_takeOut_26 : decode cX1_takeOut 26 = .ok (.iaload, 1) := by decide +kernel
theorem dX1_takeOut_27 : decode cX1_takeOut 27 = .ok (.iconst 1, 1) := by decide +kernel
theorem dX1_takeOut_28 : decode cX1_takeOut 28 = .ok (.isub, 1) := by decide +kernel
theorem dX1_takeOut_29 : decode cX1_takeOut 29 = .ok (.iastore, 1) := by decide +kernel
theorem dX1_takeOut_30 : decode cX1_takeOut 30 = .ok (.return_, 1) := by decide +kernel
def M_X1_takeOut : y_M := (yX1_takeOut, cX1_takeOut, 3, (Option.none : Option Jvm.ClassFile.FieldType))
theorem n_X1_takeOut : y_N0 M_X1_takeOut 2 := ⟨(c_4 162 (by decide +kernel) rfl), (c_1 11 (by decide +kernel) rfl), ⟨by decide +kernel, by decide +kernel⟩, by decide +kernel⟩
set_option maxRecDepth 100000 in
def f_X1_takeOut (p0 : Nat) (p1 : Int32) (p2 : Int32) (h : y_H) : Option (Unit × y_H) :=
  if y_K h p0 = 2 then
  y_cl (f_X1_hasPlace p0 p1 p2 h) (fun r1 h2 =>
  y_jn (fun (h4 : y_H) => (
      some ((), h4) : Option (Unit × y_H))) (fun j30 =>
  if r1 = true then
    if y_K h2 p0 = 2 then
    if y_K h2 (y_P h2 p0 4) = 103 ∧ y_ix ((p1 * 5) + p2) (y_N h2 (y_P h2 p0 4)) = true ∧ (0 = 0 ∨ y_K h2 0 = 3) then
    y_bd (s_P h2 (y_P h2 p0 4) (Int32.toNatClampNeg ((p1 * 5) + p2)) 0) (fun h5 =>
    if y_K h5 p0 = 2 then
    if y_K h5 (y_P h5 p0 3) = 100 ∧ y_ix p1 (y_N h5 (y_P h5 p0 3)) = true then
    if y_K h5 (y_P h5 p0 3) = 100 ∧ y_ix p1 (y_N h5 (y_P h5 p0 3)) = true then
    y_bd (s_I h5 (y_P h5 p0 3) (Int32.toNatClampNeg p1) ((y_I h5 (y_P h5 p0 3) (Int32.toNatClampNeg p1)) - 1)) (fun h8 =>
    j30 h8)
    else none
    else none
    else none)
    else none
    else none
  else
    j30 h2))
  else none
abbrev rm_X1_takeOut : Room := { frames := 1, cells := 0, slots := 0, locals := 22 }
set_option maxRecDepth 100000 in
set_option maxHeartbeats 4000000 in
theorem k_X1_takeOut {l : Launch} {G : y_G} {p0 : Nat} {p1 : Int32} {p2 : Int32} {h hz : y_H} {rz : Unit} (hf : f_X1_takeOut p0 p1 p2 h = some (rz, hz)) : y_S l G M_X1_takeOut rm_X1_takeOut [y_p p0, .int p1, .int p2] h none hz := by
  refine y_start (lv := [(0, y_p p0), (1, .int p1), (2, .int p2)]) (by decide) (by simp [lg_sl, y_p_cat, y_ci, y_cj, M_X1_takeOut]) (by simp [lv_args, y_p_cat, y_ci, y_cj]) (fun z ad0 => ?_)
  unfold f_X1_takeOut at hf
  refine y_aload_n (x := p0) (pc2 := 1) rfl dX1_takeOut_0 rfl ?_
  refine y_iload_n (pc2 := 2) rfl dX1_takeOut_1 rfl ?_
  refine y_iload_n (pc2 := 3) rfl dX1_takeOut_2 rfl ?_
  obtain ⟨g15, hf⟩ := y_g hf
  obtain ⟨r1, h2, c3, hf⟩ := y_clE hf
  refine y_callV (As := [.int p1, .int p2]) (rm := rm_X1_hasPlace) (cells := 0) (slots := 0) (pc2 := 6) rfl dX1_takeOut_3 n_X1_hasPlace l_BoxYard_Bay_46 i_X1_hasPlace e_X1_hasPlace (ci := 1) rfl rfl (by decide) g15 rfl rfl (by decide) (by decide) (by decide) (k_X1_hasPlace c3) ?_
  refine y_jnE hf (fun j => ∀ (h4 : y_H), j h4 = some (rz, hz) → y_V l G z rm_X1_takeOut M_X1_takeOut ad0 h none hz 30 [] [] h4 0 0) (fun h4 hf => ?_) (fun j30 hj30 hf => ?_)
  · exact y_vretF hf dX1_takeOut_30 rfl (by decide) (by decide)
  · refine y_ifz_eq (tgt := 30) (pc2 := 9) rfl dX1_takeOut_6 (by decide) (fun c14 => ?_) (fun c14 => ?_)
    · replace hf := y_ie c14 hf
      exact y_pk [] rfl (hj30 _ hf)
    · replace hf := y_it c14 hf
      refine y_aload_n (x := p0) (pc2 := 10) rfl dX1_takeOut_9 rfl ?_
      obtain ⟨g13, hf⟩ := y_g hf
      refine y_getP (pc2 := 13) rfl dX1_takeOut_10 F_BoxYard_Bay_21 (by decide) rfl g13 ?_
      refine y_iload_n (pc2 := 14) rfl dX1_takeOut_13 rfl ?_
      refine y_iconst (v := 5) (pc2 := 15) rfl dX1_takeOut_14 (by decide) ?_
      refine y_imul (pc2 := 16) rfl dX1_takeOut_15 ?_
      refine y_iload_n (pc2 := 17) rfl dX1_takeOut_16 rfl ?_
      refine y_iadd (pc2 := 18) rfl dX1_takeOut_17 ?_
      refine y_null (pc2 := 19) rfl dX1_takeOut_18 ?_
      obtain ⟨g7, hf⟩ := y_g hf
      obtain ⟨h5, e6, hf⟩ := y_bdE hf
      refine y_aast (t := 3) (ci := 2) (x := 0) (pc2 := 20) rfl dX1_takeOut_19 (by decide) rfl (by decide) rfl g7.1 (y_ix_in g7.2.1) g7.2.2 e6 ?_
      refine y_aload_n (x := p0) (pc2 := 21) rfl dX1_takeOut_20 rfl ?_
      obtain ⟨g12, hf⟩ := y_g hf
      refine y_getP (pc2 := 24) rfl dX1_takeOut_21 F_BoxYard_Bay_16 (by decide) rfl g12 ?_
      refine y_iload_n (pc2 := 25) rfl dX1_takeOut_24 rfl ?_
      refine y_dup2 (pc2 := 26) rfl dX1_takeOut_25 rfl (y_p_cat _) ?_
      obtain ⟨g11, hf⟩ := y_g hf
      refine y_iald (pc2 := 27) rfl dX1_takeOut_26 g11.1 (y_ix_in g11.2) ?_
      refine y_iconst (v := 1) (pc2 := 28) rfl dX1_takeOut_27 (by decide) ?_
      refine y_isub (pc2 := 29) rfl dX1_takeOut_28 ?_
      obtain ⟨g10, hf⟩ := y_g hf
      obtain ⟨h8, e9, hf⟩ := y_bdE hf
      refine y_iast (x := (y_I h5 (y_P h5 p0 3) (Int32.toNatClampNeg p1)) - 1) (pc2 := 30) rfl dX1_takeOut_29 g10.1 (y_ix_in g10.2) e9 ?_
      exact y_pk [] rfl (hj30 _ hf)
theorem dX1_boxes_0 : decode cX1_boxes 0 = .ok (.iconst 0, 1) := by decide +kernel
theorem dX1_boxes_1 : decode cX1_boxes 1 = .ok (.istore_n 1, 1) := by decide +kernel
theorem dX1_boxes_2 : decode cX1_boxes 2 = .ok (.iconst 0, 1) := by decide +kernel
theorem dX1_boxes_3 : decode cX1_boxes 3 = .ok (.istore_n 2, 1) := by decide +kernel
theorem dX1_boxes_4 : decode cX1_boxes 4 = .ok (.iload_n 2, 1) := by decide +kernel
theorem dX1_boxes_5 : decode cX1_boxes 5 = .ok (.aload_n 0, 1) := by decide +kernel
theorem dX1_boxes_6 : decode cX1_boxes 6 = .ok (.getfield 43, 3) := by decide +kernel
theorem dX1_boxes_9 : decode cX1_boxes 9 = .ok (.if_icmp .ge 18, 3) := by decide +kernel
theorem dX1_boxes_12 : decode cX1_boxes 12 = .ok (.iload_n 1, 1) := by decide +kernel
theorem dX1_boxes_13 : decode cX1_boxes 13 = .ok (.aload_n 0, 1) := by decide +kernel
theorem dX1_boxes_14 : decode cX1_boxes 14 = .ok (.getfield 16, 3) := by decide +kernel
theorem dX1_boxes_17 : decode cX1_boxes 17 = .ok (.iload_n 2, 1) := by decide +kernel
theorem dX1_boxes_18 : decode cX1_boxes 18 = .ok (.iaload, 1) := by decide +kernel
theorem dX1_boxes_19 : decode cX1_boxes 19 = .ok (.iadd, 1) := by decide +kernel
theorem dX1_boxes_20 : decode cX1_boxes 20 = .ok (.istore_n 1, 1) := by decide +kernel
theorem dX1_boxes_21 : decode cX1_boxes 21 = .ok (.iinc 2 1, 3) := by decide +kernel
theorem dX1_boxes_24 : decode cX1_boxes 24 = .ok (.goto (-20), 3) := by decide +kernel
theorem dX1_boxes_27 : decode cX1_boxes 27 = .ok (.iload_n 1, 1) := by decide +kernel
theorem dX1_boxes_28 : decode cX1_boxes 28 = .ok (.ireturn, 1) := by decide +kernel
def M_X1_boxes : y_M := (yX1_boxes, cX1_boxes, 3, (Option.some Jvm.ClassFile.FieldType.int))
theorem n_X1_boxes : y_N0 M_X1_boxes 0 := ⟨(c_3 146 (by decide +kernel) rfl), (c_1 11 (by decide +kernel) rfl), ⟨by decide +kernel, by decide +kernel⟩, by decide +kernel⟩
set_option maxRecDepth 100000 in
def f_X1_boxes (p0 : Nat) (h : y_H) : Option (Int32 × y_H) :=
  y_jl (fun (_ : Nat) (_ : Int32) (_ : Int32) (_ : y_H) => (none : Option (Int32 × y_H))) (fun j4 (v0_4 : Nat) (v1_4 : Int32) (v2_4 : Int32) (h1 : y_H) =>
      if y_K h1 v0_4 = 2 then
      if (y_I h1 v0_4 7) ≤ v2_4 then
        some (v1_4, h1)
      else
        if y_K h1 v0_4 = 2 then
        if y_K h1 (y_P h1 v0_4 3) = 100 ∧ y_ix v2_4 (y_N h1 (y_P h1 v0_4 3)) = true then
        j4 v0_4 (v1_4 + (y_I h1 (y_P h1 v0_4 3) (Int32.toNatClampNeg v2_4))) (v2_4 + 1) h1
        else none
        else none
      else none) (fun j4 =>
  j4 p0 0 0 h)
abbrev rm_X1_boxes : Room := { frames := 0, cells := 0, slots := 0, locals := 0 }
set_option maxRecDepth 100000 in
set_option maxHeartbeats 4000000 in
theorem k_X1_boxes {l : Launch} {G : y_G} {p0 : Nat} {h hz : y_H} {rz : Int32} (hf : f_X1_boxes p0 h = some (rz, hz)) : y_S l G M_X1_boxes rm_X1_boxes [y_p p0] h (some (.int rz)) hz := by
  refine y_start (lv := [(0, y_p p0)]) (by decide) (by simp [lg_sl, y_p_cat, y_ci, y_cj, M_X1_boxes]) (by simp [lv_args, y_p_cat, y_ci, y_cj]) (fun z ad0 => ?_)
  unfold f_X1_boxes at hf
  refine y_iconst (v := 0) (pc2 := 1) rfl dX1_boxes_0 (by decide) ?_
  refine y_istore_n (lv' := [(1, .int 0), (0, y_p p0)]) (pc2 := 2) rfl dX1_boxes_1 (by decide) (by show y_st1 _ 1 _ = _; simp [y_st1, y_p_cat, y_ci, y_cj]) ?_
  refine y_iconst (v := 0) (pc2 := 3) rfl dX1_boxes_2 (by decide) ?_
  refine y_jlE hf (fun j => ∀ (v0_4 : Nat) (v1_4 : Int32) (v2_4 : Int32) (h1 : y_H), j v0_4 v1_4 v2_4 h1 = some (rz, hz) → y_V l G z rm_X1_boxes M_X1_boxes ad0 h (some (.int rz)) hz 4 [(0, y_p v0_4), (1, .int v1_4), (2, .int v2_4)] [] h1 0 0) (fun _ _ _ _ hf => by cases hf) (fun j4 hj4 v0_4 v1_4 v2_4 h1 hf => ?_) (fun j4 hj4 hf => ?_)
  · refine y_iload_n (pc2 := 5) rfl dX1_boxes_4 rfl ?_
    refine y_aload_n (x := v0_4) (pc2 := 6) rfl dX1_boxes_5 rfl ?_
    obtain ⟨g5, hf⟩ := y_g hf
    refine y_getI (pc2 := 9) rfl dX1_boxes_6 F_BoxYard_Bay_43 (by decide) rfl g5 ?_
    refine y_icmp_ge (tgt := 27) (pc2 := 12) rfl dX1_boxes_9 (by decide) (fun c4 => ?_) (fun c4 => ?_)
    · replace hf := y_it c4 hf
      refine y_iload_n (pc2 := 28) rfl dX1_boxes_27 rfl ?_
      exact y_iretF hf dX1_boxes_28 rfl (by decide) (by decide)
    · replace hf := y_ie c4 hf
      refine y_iload_n (pc2 := 13) rfl dX1_boxes_12 rfl ?_
      refine y_aload_n (x := v0_4) (pc2 := 14) rfl dX1_boxes_13 rfl ?_
      obtain ⟨g3, hf⟩ := y_g hf
      refine y_getP (pc2 := 17) rfl dX1_boxes_14 F_BoxYard_Bay_16 (by decide) rfl g3 ?_
      refine y_iload_n (pc2 := 18) rfl dX1_boxes_17 rfl ?_
      obtain ⟨g2, hf⟩ := y_g hf
      refine y_iald (pc2 := 19) rfl dX1_boxes_18 g2.1 (y_ix_in g2.2) ?_
      refine y_iadd (pc2 := 20) rfl dX1_boxes_19 ?_
      refine y_istore_n (lv' := [(1, .int (v1_4 + (y_I h1 (y_P h1 v0_4 3) (Int32.toNatClampNeg v2_4)))), (0, y_p v0_4), (2, .int v2_4)]) (pc2 := 21) rfl dX1_boxes_20 (by decide) (by show y_st1 _ 1 _ = _; simp [y_st1, y_p_cat, y_ci, y_cj]) ?_
      refine y_iinc (v := v2_4 + 1) (lv' := [(2, .int (v2_4 + 1)), (1, .int (v1_4 + (y_I h1 (y_P h1 v0_4 3) (Int32.toNatClampNeg v2_4)))), (0, y_p v0_4)]) (pc2 := 24) rfl dX1_boxes_21 rfl rfl (by decide) rfl ?_
      refine y_goto (tgt := 4) dX1_boxes_24 (by decide) ?_
      exact y_pk [2, 1, 0] rfl (hj4 _ _ _ _ hf)
  · refine y_istore_n (lv' := [(2, .int 0), (1, .int 0), (0, y_p p0)]) (pc2 := 4) rfl dX1_boxes_3 (by decide) rfl ?_
    exact y_pk [2, 1, 0] rfl (hj4 _ _ _ _ hf)
theorem dX2_known_0 : decode cX2_known 0 = .ok (.aload_n 0, 1) := by decide +kernel
theorem dX2_known_1 : decode cX2_known 1 = .ok (.getfield 30, 3) := by decide +kernel
theorem dX2_known_4 : decode cX2_known 4 = .ok (.ifCond .eq 10, 3) := by decide +kernel
theorem dX2_known_7 : decode cX2_known 7 = .ok (.aload_n 0, 1) := by decide +kernel
theorem dX2_known_8 : decode cX2_known 8 = .ok (.getfield 21, 3) := by decide +kernel
theorem dX2_known_11 : decode cX2_known 11 = .ok (.goto 7, 3) := by decide +kernel
theorem dX2_known_14 : decode cX2_known 14 = .ok (.aload_n 0, 1) := by decide +kernel
theorem dX2_known_15 : decode cX2_known 15 = .ok (.getfield 18, 3) := by decide +kernel
theorem dX2_known_18 : decode cX2_known 18 = .ok (.ireturn, 1) := by decide +kernel
def M_X2_known : y_M := (yX2_known, cX2_known, 1, (Option.some Jvm.ClassFile.FieldType.int))
theorem n_X2_known : y_N0 M_X2_known 0 := ⟨(c_3 10 (by decide +kernel) rfl), (c_1 10 (by decide +kernel) rfl), ⟨by decide +kernel, by decide +kernel⟩, by decide +kernel⟩
theorem F_BoxYard_Box_30 : y_F "BoxYard$Box" 30 2 10 := ⟨_, _, _, rfl, by decide, Or.inl (c_2 147 (by decide +kernel) rfl)⟩
theorem F_BoxYard_Box_18 : y_F "BoxYard$Box" 18 2 2 := ⟨_, _, _, rfl, by decide, Or.inl (c_2 117 (by decide +kernel) rfl)⟩
theorem F_BoxYard_Box_21 : y_F "BoxYard$Box" 21 2 3 := ⟨_, _, _, rfl, by decide, Or.inl (c_2 119 (by decide +kernel) rfl)⟩
set_option maxRecDepth 100000 in
def f_X2_known (p0 : Nat) (h : y_H) : Option (Int32 × y_H) :=
  if y_K h p0 = 3 then
  if (y_B h p0 10) = true then
    if y_K h p0 = 3 then
    some (y_I h p0 3, h)
    else none
  else
    if y_K h p0 = 3 then
    some (y_I h p0 2, h)
    else none
  else none
abbrev rm_X2_known : Room := { frames := 0, cells := 0, slots := 0, locals := 0 }
set_option maxRecDepth 100000 in
set_option maxHeartbeats 4000000 in
theorem k_X2_known {l : Launch} {G : y_G} {p0 : Nat} {h hz : y_H} {rz : Int32} (hf : f_X2_known p0 h = some (rz, hz)) : y_S l G M_X2_known rm_X2_known [y_p p0] h (some (.int rz)) hz := by
  refine y_start (lv := [(0, y_p p0)]) (by decide) (by simp [lg_sl, y_p_cat, y_ci, y_cj, M_X2_known]) (by simp [lv_args, y_p_cat, y_ci, y_cj]) (fun z ad0 => ?_)
  unfold f_X2_known at hf
  refine y_aload_n (x := p0) (pc2 := 1) rfl dX2_known_0 rfl ?_
  obtain ⟨g4, hf⟩ := y_g hf
  refine y_getZ (pc2 := 4) rfl dX2_known_1 F_BoxYard_Box_30 (by decide) rfl g4 ?_
  refine y_ifz_eq (tgt := 14) (pc2 := 7) rfl dX2_known_4 (by decide) (fun c3 => ?_) (fun c3 => ?_)
  · replace hf := y_ie c3 hf
    refine y_aload_n (x := p0) (pc2 := 15) rfl dX2_known_14 rfl ?_
    obtain ⟨g1, hf⟩ := y_g hf
    refine y_getI (pc2 := 18) rfl dX2_known_15 F_BoxYard_Box_18 (by decide) rfl g1 ?_
    exact y_iretF hf dX2_known_18 rfl (by decide) (by decide)
  · replace hf := y_it c3 hf
    refine y_aload_n (x := p0) (pc2 := 8) rfl dX2_known_7 rfl ?_
    obtain ⟨g2, hf⟩ := y_g hf
    refine y_getI (pc2 := 11) rfl dX2_known_8 F_BoxYard_Box_21 (by decide) rfl g2 ?_
    refine y_goto (tgt := 18) dX2_known_11 (by decide) ?_
    exact y_iretF hf dX2_known_18 rfl (by decide) (by decide)
theorem dX1_weight_0 : decode cX1_weight 0 = .ok (.iconst 0, 1) := by decide +kernel
theorem dX1_weight_1 : decode cX1_weight 1 = .ok (.istore_n 1, 1) := by decide +kernel
theorem dX1_weight_2 : decode cX1_weight 2 = .ok (.iconst 0, 1) := by decide +kernel
theorem dX1_weight_3 : decode cX1_weight 3 = .ok (.istore_n 2, 1) := by decide +kernel
theorem dX1_weight_4 : decode cX1_weight 4 = .ok (.iload_n 2, 1) := by decide +kernel
theorem dX1_weight_5 : decode cX1_weight 5 = .ok (.aload_n 0, 1) := by decide +kernel
theorem dX1_weight_6 : decode cX1_weight 6 = .ok (.getfield 21, 3) := by decide +kernel
theorem dX1_weight_9 : decode cX1_weight 9 = .ok (.arraylength, 1) := by decide +kernel
theorem dX1_weight_10 : decode cX1_weight 10 = .ok (.if_icmp .ge 30, 3) := by decide +kernel
theorem dX1_weight_13 : decode cX1_weight 13 = .ok (.aload_n 0, 1) := by decide +kernel
theorem dX1_weight_14 : decode cX1_weight 14 = .ok (.getfield 21, 3) := by decide +kernel
theorem dX1_weight_17 : decode cX1_weight 17 = .ok (.iload_n 2, 1) := by decide +kernel
theorem dX1_weight_18 : decode cX1_weight 18 = .ok (.aaload, 1) := by decide +kernel
theorem dX1_weight_19 : decode cX1_weight 19 = .ok (.ifnull 15, 3) := by decide +kernel
theorem dX1_weight_22 : decode cX1_weight 22 = .ok (.iload_n 1, 1) := by decide +kernel
theorem dX1_weight_23 : decode cX1_weight 23 = .ok (.aload_n 0, 1) := by decide +kernel
theorem dX1_weight_24 : decode cX1_weight 24 = .ok (.getfield 21, 3) := by decide +kernel
theorem dX1_weight_27 : decode cX1_weight 27 = .ok (.iload_n 2, 1) := by decide +kernel
theorem dX1_weight_28 : decode cX1_weight 28 = .ok (.aaload, 1) := by decide +kernel
theorem dX1_weight_29 : decode cX1_weight 29 = .ok (.invokevirtual 58, 3) := by decide +kernel
theorem dX1_weight_32 : decode cX1_weight 32 = .ok (.iadd, 1) := by decide +kernel
theorem dX1_weight_33 : decode cX1_weight 33 = .ok (.istore_n 1, 1) := by decide +kernel
theorem dX1_weight_34 : decode cX1_weight 34 = .ok (.iinc 2 1, 3) := by decide +kernel
theorem dX1_weight_37 : decode cX1_weight 37 = .ok (.goto (-33), 3) := by decide +kernel
theorem dX1_weight_40 : decode cX1_weight 40 = .ok (.iload_n 1, 1) := by decide +kernel
theorem dX1_weight_41 : decode cX1_weight 41 = .ok (.ireturn, 1) := by decide +kernel
def M_X1_weight : y_M := (yX1_weight, cX1_weight, 3, (Option.some Jvm.ClassFile.FieldType.int))
theorem n_X1_weight : y_N0 M_X1_weight 0 := ⟨(c_3 150 (by decide +kernel) rfl), (c_1 11 (by decide +kernel) rfl), ⟨by decide +kernel, by decide +kernel⟩, by decide +kernel⟩
theorem l_BoxYard_Bay_58 : y_lnk "BoxYard$Bay" 58 M_X2_known := Or.inl (c_3 151 (by decide +kernel) rfl)
theorem i_X2_known : Cond.instanceMethod (M_X2_known).1 ∈ y_tb := (c_3 8 (by decide +kernel) rfl)
theorem e_X2_known : Cond.selects (M_X2_known).1.cls (M_X2_known).1 (M_X2_known).1 ∈ y_tb := (c_3 9 (by decide +kernel) rfl)
set_option maxRecDepth 100000 in
def f_X1_weight (p0 : Nat) (h : y_H) : Option (Int32 × y_H) :=
  y_jl (fun (_ : Nat) (_ : Int32) (_ : Int32) (_ : y_H) => (none : Option (Int32 × y_H))) (fun j4 (v0_4 : Nat) (v1_4 : Int32) (v2_4 : Int32) (h1 : y_H) =>
      if y_K h1 v0_4 = 2 then
      if y_K h1 (y_P h1 v0_4 4) = 103 then
      if (nI (y_N h1 (y_P h1 v0_4 4))) ≤ v2_4 then
        some (v1_4, h1)
      else
        if y_K h1 v0_4 = 2 then
        if y_K h1 (y_P h1 v0_4 4) = 103 ∧ y_ix v2_4 (y_N h1 (y_P h1 v0_4 4)) = true then
        y_jn (fun (v0_34 : Nat) (v1_34 : Int32) (v2_34 : Int32) (h2 : y_H) => (
            j4 v0_34 v1_34 (v2_34 + 1) h2 : Option (Int32 × y_H))) (fun j34 =>
        if (y_P h1 (y_P h1 v0_4 4) (Int32.toNatClampNeg v2_4)) = 0 then
          j34 v0_4 v1_4 v2_4 h1
        else
          if y_K h1 v0_4 = 2 then
          if y_K h1 (y_P h1 v0_4 4) = 103 ∧ y_ix v2_4 (y_N h1 (y_P h1 v0_4 4)) = true then
          if y_K h1 (y_P h1 (y_P h1 v0_4 4) (Int32.toNatClampNeg v2_4)) = 3 then
          y_cl (f_X2_known (y_P h1 (y_P h1 v0_4 4) (Int32.toNatClampNeg v2_4)) h1) (fun r3 h4 =>
          j34 v0_4 (v1_4 + r3) v2_4 h4)
          else none
          else none
          else none)
        else none
        else none
      else none
      else none) (fun j4 =>
  j4 p0 0 0 h)
abbrev rm_X1_weight : Room := { frames := 1, cells := 0, slots := 0, locals := 20 }
set_option maxRecDepth 100000 in
set_option maxHeartbeats 4000000 in
theorem k_X1_weight {l : Launch} {G : y_G} {p0 : Nat} {h hz : y_H} {rz : Int32} (hf : f_X1_weight p0 h = some (rz, hz)) : y_S l G M_X1_weight rm_X1_weight [y_p p0] h (some (.int rz)) hz := by
  refine y_start (lv := [(0, y_p p0)]) (by decide) (by simp [lg_sl, y_p_cat, y_ci, y_cj, M_X1_weight]) (by simp [lv_args, y_p_cat, y_ci, y_cj]) (fun z ad0 => ?_)
  unfold f_X1_weight at hf
  refine y_iconst (v := 0) (pc2 := 1) rfl dX1_weight_0 (by decide) ?_
  refine y_istore_n (lv' := [(1, .int 0), (0, y_p p0)]) (pc2 := 2) rfl dX1_weight_1 (by decide) (by show y_st1 _ 1 _ = _; simp [y_st1, y_p_cat, y_ci, y_cj]) ?_
  refine y_iconst (v := 0) (pc2 := 3) rfl dX1_weight_2 (by decide) ?_
  refine y_jlE hf (fun j => ∀ (v0_4 : Nat) (v1_4 : Int32) (v2_4 : Int32) (h1 : y_H), j v0_4 v1_4 v2_4 h1 = some (rz, hz) → y_V l G z rm_X1_weight M_X1_weight ad0 h (some (.int rz)) hz 4 [(0, y_p v0_4), (1, .int v1_4), (2, .int v2_4)] [] h1 0 0) (fun _ _ _ _ hf => by cases hf) (fun j4 hj4 v0_4 v1_4 v2_4 h1 hf => ?_) (fun j4 hj4 hf => ?_)
  · refine y_iload_n (pc2 := 5) rfl dX1_weight_4 rfl ?_
    refine y_aload_n (x := v0_4) (pc2 := 6) rfl dX1_weight_5 rfl ?_
    obtain ⟨g14, hf⟩ := y_g hf
    refine y_getP (pc2 := 9) rfl dX1_weight_6 F_BoxYard_Bay_21 (by decide) rfl g14 ?_
    obtain ⟨g13, hf⟩ := y_g hf
    refine y_alen (t := 3) (pc2 := 10) rfl dX1_weight_9 (by decide) g13 ?_
    refine y_icmp_ge (tgt := 40) (pc2 := 13) rfl dX1_weight_10 (by decide) (fun c12 => ?_) (fun c12 => ?_)
    · replace hf := y_it c12 hf
      refine y_iload_n (pc2 := 41) rfl dX1_weight_40 rfl ?_
      exact y_iretF hf dX1_weight_41 rfl (by decide) (by decide)
    · replace hf := y_ie c12 hf
      refine y_aload_n (x := v0_4) (pc2 := 14) rfl dX1_weight_13 rfl ?_
      obtain ⟨g11, hf⟩ := y_g hf
      refine y_getP (pc2 := 17) rfl dX1_weight_14 F_BoxYard_Bay_21 (by decide) rfl g11 ?_
      refine y_iload_n (pc2 := 18) rfl dX1_weight_17 rfl ?_
      obtain ⟨g10, hf⟩ := y_g hf
      refine y_aald (t := 3) (pc2 := 19) rfl dX1_weight_18 (by decide) rfl g10.1 (y_ix_in g10.2) ?_
      refine y_jnE hf (fun j => ∀ (v0_34 : Nat) (v1_34 : Int32) (v2_34 : Int32) (h2 : y_H), j v0_34 v1_34 v2_34 h2 = some (rz, hz) → y_V l G z rm_X1_weight M_X1_weight ad0 h (some (.int rz)) hz 34 [(0, y_p v0_34), (1, .int v1_34), (2, .int v2_34)] [] h2 0 0) (fun v0_34 v1_34 v2_34 h2 hf => ?_) (fun j34 hj34 hf => ?_)
      · refine y_iinc (v := v2_34 + 1) (lv' := [(2, .int (v2_34 + 1)), (0, y_p v0_34), (1, .int v1_34)]) (pc2 := 37) rfl dX1_weight_34 rfl rfl (by decide) rfl ?_
        refine y_goto (tgt := 4) dX1_weight_37 (by decide) ?_
        exact y_pk [1, 2, 0] rfl (hj4 _ _ _ _ hf)
      · refine y_ifnull (tgt := 34) (pc2 := 22) rfl dX1_weight_19 (by decide) (fun c9 => ?_) (fun c9 => ?_)
        · replace hf := y_it c9 hf
          exact y_pk [0, 1, 2] rfl (hj34 _ _ _ _ hf)
        · replace hf := y_ie c9 hf
          refine y_iload_n (pc2 := 23) rfl dX1_weight_22 rfl ?_
          refine y_aload_n (x := v0_4) (pc2 := 24) rfl dX1_weight_23 rfl ?_
          obtain ⟨g8, hf⟩ := y_g hf
          refine y_getP (pc2 := 27) rfl dX1_weight_24 F_BoxYard_Bay_21 (by decide) rfl g8 ?_
          refine y_iload_n (pc2 := 28) rfl dX1_weight_27 rfl ?_
          obtain ⟨g7, hf⟩ := y_g hf
          refine y_aald (t := 3) (pc2 := 29) rfl dX1_weight_28 (by decide) rfl g7.1 (y_ix_in g7.2) ?_
          obtain ⟨g6, hf⟩ := y_g hf
          obtain ⟨r3, h4, c5, hf⟩ := y_clE hf
          refine y_callV (As := []) (rm := rm_X2_known) (cells := 0) (slots := 0) (pc2 := 32) rfl dX1_weight_29 n_X2_known l_BoxYard_Bay_58 i_X2_known e_X2_known (ci := 2) rfl rfl (by decide) g6 rfl rfl (by decide) (by simp [y_ci, y_cj, y_p_cat]) (by decide) (k_X2_known c5) ?_
          refine y_iadd (pc2 := 33) rfl dX1_weight_32 ?_
          refine y_istore_n (lv' := [(1, .int (v1_4 + r3)), (0, y_p v0_4), (2, .int v2_4)]) (pc2 := 34) rfl dX1_weight_33 (by decide) (by show y_st1 _ 1 _ = _; simp [y_st1, y_p_cat, y_ci, y_cj]) ?_
          exact y_pk [1, 0, 2] rfl (hj34 _ _ _ _ hf)
  · refine y_istore_n (lv' := [(2, .int 0), (1, .int 0), (0, y_p p0)]) (pc2 := 4) rfl dX1_weight_3 (by decide) rfl ?_
    exact y_pk [2, 1, 0] rfl (hj4 _ _ _ _ hf)
theorem dX2_isOf_0 : decode cX2_isOf 0 = .ok (.iload_n 1, 1) := by decide +kernel
theorem dX2_isOf_1 : decode cX2_isOf 1 = .ok (.ifCond .ne 40, 3) := by decide +kernel
theorem dX2_isOf_4 : decode cX2_isOf 4 = .ok (.aload_n 0, 1) := by decide +kernel
theorem dX2_isOf_5 : decode cX2_isOf 5 = .ok (.getfield 15, 3) := by decide +kernel
theorem dX2_isOf_8 : decode cX2_isOf 8 = .ok (.ifCond .eq 27, 3) := by decide +kernel
theorem dX2_isOf_11 : decode cX2_isOf 11 = .ok (.aload_n 0, 1) := by decide +kernel
theorem dX2_isOf_12 : decode cX2_isOf 12 = .ok (.getfield 15, 3) := by decide +kernel
theorem dX2_isOf_15 : decode cX2_isOf 15 = .ok (.iconst 1, 1) := by decide +kernel
theorem dX2_isOf_16 : decode cX2_isOf 16 = .ok (.if_icmp .eq 19, 3) := by decide +kernel
theorem dX2_isOf_19 : decode cX2_isOf 19 = .ok (.aload_n 0, 1) := by decide +kernel
theorem dX2_isOf_20 : decode cX2_isOf 20 = .ok (.getfield 15, 3) := by decide +kernel
theorem dX2_isOf_23 : decode cX2_isOf 23 = .ok (.iconst 2, 1) := by decide +kernel
theorem dX2_isOf_24 : decode cX2_isOf 24 = .ok (.if_icmp .eq 11, 3) := by decide +kernel
theorem dX2_isOf_27 : decode cX2_isOf 27 = .ok (.aload_n 0, 1) := by decide +kernel
theorem dX2_isOf_28 : decode cX2_isOf 28 = .ok (.getfield 15, 3) := by decide +kernel
theorem dX2_isOf_31 : decode cX2_isOf 31 = .ok (.iconst 5, 1) := by decide +kernel
theorem dX2_isOf_32 : decode cX2_isOf 32 = .ok (.if_icmp .ne 7, 3) := by decide +kernel
theorem dX2_isOf_35 : decode cX2_isOf 35 = .ok (.iconst 1, 1) := by decide +kernel
theorem dX2_isOf_36 : decode cX2_isOf 36 = .ok (.goto 4, 3) := by decide +kernel
theorem dX2_isOf_39 : decode cX2_isOf 39 = .ok (.iconst 0, 1) := by decide +kernel
theorem dX2_isOf_40 : decode cX2_isOf 40 = .ok (.ireturn, 1) := by decide +kernel
theorem dX2_isOf_41 : decode cX2_isOf 41 = .ok (.iload_n 1, 1) := by decide +kernel
theorem dX2_isOf_42 : decode cX2_isOf 42 = .ok (.iconst 3, 1) := by decide +kernel
theorem dX2_isOf_43 : decode cX2_isOf 43 = .ok (.if_icmp .ne 25, 3) := by decide +kernel
theorem dX2_isOf_46 : decode cX2_isOf 46 = .ok (.aload_n 0, 1) := by decide +kernel
theorem dX2_isOf_47 : decode cX2_isOf 47 = .ok (.getfield 15, 3) := by decide +kernel
theorem dX2_isOf_50 : decode cX2_isOf 50 = .ok (.iconst 3, 1) := by decide +kernel
theorem dX2_isOf_51 : decode cX2_isOf 51 = .ok (.if_icmp .eq 11, 3) := by decide +kernel
theorem dX2_isOf_54 : decode cX2_isOf 54 = .ok (.aload_n 0, 1) := by decide +kernel
theorem dX2_isOf_55 : decode cX2_isOf 55 = .ok (.getfield 15, 3) := by decide +kernel
theorem dX2_isOf_58 : decode cX2_isOf 58 = .ok (.iconst 4, 1) := by decide +kernel
theorem dX2_isOf_59 : decode cX2_isOf 59 = .ok (.if_icmp .ne 7, 3) := by decide +kernel
theorem dX2_isOf_62 : decode cX2_isOf 62 = .ok (.iconst 1, 1) := by decide +kernel
theorem dX2_isOf_63 : decode cX2_isOf 63 = .ok (.goto 4, 3) := by decide +kernel
theorem dX2_isOf_66 : decode cX2_isOf 66 = .ok (.iconst 0, 1) := by decide +kernel
theorem dX2_isOf_67 : decode cX2_isOf 67 = .ok (.ireturn, 1) := by decide +kernel
theorem dX2_isOf_68 : decode cX2_isOf 68 = .ok (.aload_n 0, 1) := by decide +kernel
theorem dX2_isOf_69 : decode cX2_isOf 69 = .ok (.getfield 15, 3) := by decide +kernel
theorem dX2_isOf_72 : decode cX2_isOf 72 = .ok (.iload_n 1, 1) := by decide +kernel
theorem dX2_isOf_73 : decode cX2_isOf 73 = .ok (.if_icmp .ne 7, 3) := by decide +kernel
theorem dX2_isOf_76 : decode cX2_isOf 76 = .ok (.iconst 1, 1) := by decide +kernel
theorem dX2_isOf_77 : decode cX2_isOf 77 = .ok (.goto 4, 3) := by decide +kernel
theorem dX2_isOf_80 : decode cX2_isOf 80 = .ok (.iconst 0, 1) := by decide +kernel
theorem dX2_isOf_81 : decode cX2_isOf 81 = .ok (.ireturn, 1) := by decide +kernel
def M_X2_isOf : y_M := (yX2_isOf, cX2_isOf, 2, (Option.some Jvm.ClassFile.FieldType.boolean))
theorem n_X2_isOf : y_N0 M_X2_isOf 1 := ⟨(c_4 80 (by decide +kernel) rfl), (c_1 10 (by decide +kernel) rfl), ⟨by decide +kernel, by decide +kernel⟩, by decide +kernel⟩
theorem F_BoxYard_Box_15 : y_F "BoxYard$Box" 15 2 1 := ⟨_, _, _, rfl, by decide, Or.inl (c_2 115 (by decide +kernel) rfl)⟩
set_option maxRecDepth 100000 in
def f_X2_isOf (p0 : Nat) (p1 : Int32) (h : y_H) : Option (Bool × y_H) :=
  if p1 = 0 then
    if y_K h p0 = 3 then
    y_jn (fun (h9 : y_H) => (
        some (true, h9) : Option (Bool × y_H))) (fun j35 =>
    if (y_I h p0 1) = 0 then
      j35 h
    else
      if y_K h p0 = 3 then
      if (y_I h p0 1) = 1 then
        j35 h
      else
        if y_K h p0 = 3 then
        if (y_I h p0 1) = 2 then
          j35 h
        else
          if y_K h p0 = 3 then
          if (y_I h p0 1) = 5 then
            j35 h
          else
            some (false, h)
          else none
        else none
      else none)
    else none
  else
    if p1 = 3 then
      if y_K h p0 = 3 then
      y_jn (fun (h3 : y_H) => (
          some (true, h3) : Option (Bool × y_H))) (fun j62 =>
      if (y_I h p0 1) = 3 then
        j62 h
      else
        if y_K h p0 = 3 then
        if (y_I h p0 1) = 4 then
          j62 h
        else
          some (false, h)
        else none)
      else none
    else
      if y_K h p0 = 3 then
      if (y_I h p0 1) = p1 then
        some (true, h)
      else
        some (false, h)
      else none
abbrev rm_X2_isOf : Room := { frames := 0, cells := 0, slots := 0, locals := 0 }
set_option maxRecDepth 100000 in
set_option maxHeartbeats 4000000 in
theorem k_X2_isOf {l : Launch} {G : y_G} {p0 : Nat} {p1 : Int32} {h hz : y_H} {rz : Bool} (hf : f_X2_isOf p0 p1 h = some (rz, hz)) : y_S l G M_X2_isOf rm_X2_isOf [y_p p0, .int p1] h (some (.int (y_z rz))) hz := by
  refine y_start (lv := [(0, y_p p0), (1, .int p1)]) (by decide) (by simp [lg_sl, y_p_cat, y_ci, y_cj, M_X2_isOf]) (by simp [lv_args, y_p_cat, y_ci, y_cj]) (fun z ad0 => ?_)
  unfold f_X2_isOf at hf
  refine y_iload_n (pc2 := 1) rfl dX2_isOf_0 rfl ?_
  refine y_if_ne (tgt := 41) (pc2 := 4) rfl dX2_isOf_1 (by decide) (fun c18 => ?_) (fun c18 => ?_)
  · replace hf := y_ie c18 hf
    refine y_iload_n (pc2 := 42) rfl dX2_isOf_41 rfl ?_
    refine y_iconst (v := 3) (pc2 := 43) rfl dX2_isOf_42 (by decide) ?_
    refine y_icmp_ne (tgt := 68) (pc2 := 46) rfl dX2_isOf_43 (by decide) (fun c8 => ?_) (fun c8 => ?_)
    · replace hf := y_ie c8 hf
      refine y_aload_n (x := p0) (pc2 := 69) rfl dX2_isOf_68 rfl ?_
      obtain ⟨g2, hf⟩ := y_g hf
      refine y_getI (pc2 := 72) rfl dX2_isOf_69 F_BoxYard_Box_15 (by decide) rfl g2 ?_
      refine y_iload_n (pc2 := 73) rfl dX2_isOf_72 rfl ?_
      refine y_icmp_ne (tgt := 80) (pc2 := 76) rfl dX2_isOf_73 (by decide) (fun c1 => ?_) (fun c1 => ?_)
      · replace hf := y_ie c1 hf
        refine y_iconst (v := 0) (pc2 := 81) rfl dX2_isOf_80 (by decide) ?_
        exact y_zretF (x := false) hf dX2_isOf_81 rfl (by decide) (by decide)
      · replace hf := y_it c1 hf
        refine y_iconst (v := 1) (pc2 := 77) rfl dX2_isOf_76 (by decide) ?_
        refine y_goto (tgt := 81) dX2_isOf_77 (by decide) ?_
        exact y_zretF (x := true) hf dX2_isOf_81 rfl (by decide) (by decide)
    · replace hf := y_it c8 hf
      refine y_aload_n (x := p0) (pc2 := 47) rfl dX2_isOf_46 rfl ?_
      obtain ⟨g7, hf⟩ := y_g hf
      refine y_getI (pc2 := 50) rfl dX2_isOf_47 F_BoxYard_Box_15 (by decide) rfl g7 ?_
      refine y_iconst (v := 3) (pc2 := 51) rfl dX2_isOf_50 (by decide) ?_
      refine y_jnE hf (fun j => ∀ (h3 : y_H), j h3 = some (rz, hz) → y_V l G z rm_X2_isOf M_X2_isOf ad0 h (some (.int (y_z rz))) hz 62 [] [] h3 0 0) (fun h3 hf => ?_) (fun j62 hj62 hf => ?_)
      · refine y_iconst (v := 1) (pc2 := 63) rfl dX2_isOf_62 (by decide) ?_
        refine y_goto (tgt := 67) dX2_isOf_63 (by decide) ?_
        exact y_zretF (x := true) hf dX2_isOf_67 rfl (by decide) (by decide)
      · refine y_icmp_eq (tgt := 62) (pc2 := 54) rfl dX2_isOf_51 (by decide) (fun c6 => ?_) (fun c6 => ?_)
        · replace hf := y_it c6 hf
          exact y_pk [] rfl (hj62 _ hf)
        · replace hf := y_ie c6 hf
          refine y_aload_n (x := p0) (pc2 := 55) rfl dX2_isOf_54 rfl ?_
          obtain ⟨g5, hf⟩ := y_g hf
          refine y_getI (pc2 := 58) rfl dX2_isOf_55 F_BoxYard_Box_15 (by decide) rfl g5 ?_
          refine y_iconst (v := 4) (pc2 := 59) rfl dX2_isOf_58 (by decide) ?_
          refine y_icmp_ne (tgt := 66) (pc2 := 62) rfl dX2_isOf_59 (by decide) (fun c4 => ?_) (fun c4 => ?_)
          · replace hf := y_ie c4 hf
            refine y_iconst (v := 0) (pc2 := 67) rfl dX2_isOf_66 (by decide) ?_
            exact y_zretF (x := false) hf dX2_isOf_67 rfl (by decide) (by decide)
          · replace hf := y_it c4 hf
            exact y_pk [] rfl (hj62 _ hf)
  · replace hf := y_it c18 hf
    refine y_aload_n (x := p0) (pc2 := 5) rfl dX2_isOf_4 rfl ?_
    obtain ⟨g17, hf⟩ := y_g hf
    refine y_getI (pc2 := 8) rfl dX2_isOf_5 F_BoxYard_Box_15 (by decide) rfl g17 ?_
    refine y_jnE hf (fun j => ∀ (h9 : y_H), j h9 = some (rz, hz) → y_V l G z rm_X2_isOf M_X2_isOf ad0 h (some (.int (y_z rz))) hz 35 [] [] h9 0 0) (fun h9 hf => ?_) (fun j35 hj35 hf => ?_)
    · refine y_iconst (v := 1) (pc2 := 36) rfl dX2_isOf_35 (by decide) ?_
      refine y_goto (tgt := 40) dX2_isOf_36 (by decide) ?_
      exact y_zretF (x := true) hf dX2_isOf_40 rfl (by decide) (by decide)
    · refine y_if_eq (tgt := 35) (pc2 := 11) rfl dX2_isOf_8 (by decide) (fun c16 => ?_) (fun c16 => ?_)
      · replace hf := y_it c16 hf
        exact y_pk [] rfl (hj35 _ hf)
      · replace hf := y_ie c16 hf
        refine y_aload_n (x := p0) (pc2 := 12) rfl dX2_isOf_11 rfl ?_
        obtain ⟨g15, hf⟩ := y_g hf
        refine y_getI (pc2 := 15) rfl dX2_isOf_12 F_BoxYard_Box_15 (by decide) rfl g15 ?_
        refine y_iconst (v := 1) (pc2 := 16) rfl dX2_isOf_15 (by decide) ?_
        refine y_icmp_eq (tgt := 35) (pc2 := 19) rfl dX2_isOf_16 (by decide) (fun c14 => ?_) (fun c14 => ?_)
        · replace hf := y_it c14 hf
          exact y_pk [] rfl (hj35 _ hf)
        · replace hf := y_ie c14 hf
          refine y_aload_n (x := p0) (pc2 := 20) rfl dX2_isOf_19 rfl ?_
          obtain ⟨g13, hf⟩ := y_g hf
          refine y_getI (pc2 := 23) rfl dX2_isOf_20 F_BoxYard_Box_15 (by decide) rfl g13 ?_
          refine y_iconst (v := 2) (pc2 := 24) rfl dX2_isOf_23 (by decide) ?_
          refine y_icmp_eq (tgt := 35) (pc2 := 27) rfl dX2_isOf_24 (by decide) (fun c12 => ?_) (fun c12 => ?_)
          · replace hf := y_it c12 hf
            exact y_pk [] rfl (hj35 _ hf)
          · replace hf := y_ie c12 hf
            refine y_aload_n (x := p0) (pc2 := 28) rfl dX2_isOf_27 rfl ?_
            obtain ⟨g11, hf⟩ := y_g hf
            refine y_getI (pc2 := 31) rfl dX2_isOf_28 F_BoxYard_Box_15 (by decide) rfl g11 ?_
            refine y_iconst (v := 5) (pc2 := 32) rfl dX2_isOf_31 (by decide) ?_
            refine y_icmp_ne (tgt := 39) (pc2 := 35) rfl dX2_isOf_32 (by decide) (fun c10 => ?_) (fun c10 => ?_)
            · replace hf := y_ie c10 hf
              refine y_iconst (v := 0) (pc2 := 40) rfl dX2_isOf_39 (by decide) ?_
              exact y_zretF (x := false) hf dX2_isOf_40 rfl (by decide) (by decide)
            · replace hf := y_it c10 hf
              exact y_pk [] rfl (hj35 _ hf)
theorem dX1_takesForm_0 : decode cX1_takesForm 0 = .ok (.aload_n 0, 1) := by decide +kernel
theorem dX1_takesForm_1 : decode cX1_takesForm 1 = .ok (.getfield 40, 3) := by decide +kernel
theorem dX1_takesForm_4 : decode cX1_takesForm 4 = .ok (.tableswitch 46 1 3 #[28, 34, 40], 28) := by decide +kernel
theorem dX1_takesForm_32 : decode cX1_takesForm 32 = .ok (.aload_n 1, 1) := by decide +kernel
theorem dX1_takesForm_33 : decode cX1_takesForm 33 = .ok (.iconst 1, 1) := by decide +kernel
theorem dX1_takesForm_34 : decode cX1_takesForm 34 = .ok (.invokevirtual 62, 3) := by decide +kernel
theorem dX1_takesForm_37 : decode cX1_takesForm 37 = .ok (.ireturn, 1) := by decide +kernel
theorem dX1_takesForm_38 : decode cX1_takesForm 38 = .ok (.aload_n 1, 1) := by decide +kernel
theorem dX1_takesForm_39 : decode cX1_takesForm 39 = .ok (.iconst 5, 1) := by decide +kernel
theorem dX1_takesForm_40 : decode cX1_takesForm 40 = .ok (.invokevirtual 62, 3) := by decide +kernel
theorem dX1_takesForm_43 : decode cX1_takesForm 43 = .ok (.ireturn, 1) := by decide +kernel
theorem dX1_takesForm_44 : decode cX1_takesForm 44 = .ok (.aload_n 1, 1) := by decide +kernel
theorem dX1_takesForm_45 : decode cX1_takesForm 45 = .ok (.iconst 0, 1) := by decide +kernel
theorem dX1_takesForm_46 : decode cX1_takesForm 46 = .ok (.invokevirtual 62, 3) := by decide +kernel
theorem dX1_takesForm_49 : decode cX1_takesForm 49 = .ok (.ireturn, 1) := by decide +kernel
theorem dX1_takesForm_50 : decode cX1_takesForm 50 = .ok (.iconst 1, 1) := by decide +kernel
theorem dX1_takesForm_51 : decode cX1_takesForm 51 = .ok (.ireturn, 1) := by decide +kernel
def M_X1_takesForm : y_M := (yX1_takesForm, cX1_takesForm, 2, (Option.some Jvm.ClassFile.FieldType.boolean))
theorem n_X1_takesForm : y_N0 M_X1_takesForm 1 := ⟨(c_4 106 (by decide +kernel) rfl), (c_1 11 (by decide +kernel) rfl), ⟨by decide +kernel, by decide +kernel⟩, by decide +kernel⟩
theorem F_BoxYard_Bay_40 : y_F "BoxYard$Bay" 40 1 6 := ⟨_, _, _, rfl, by decide, Or.inl (c_3 78 (by decide +kernel) rfl)⟩
theorem l_BoxYard_Bay_62 : y_lnk "BoxYard$Bay" 62 M_X2_isOf := Or.inl (c_4 77 (by decide +kernel) rfl)
theorem i_X2_isOf : Cond.instanceMethod (M_X2_isOf).1 ∈ y_tb := (c_4 78 (by decide +kernel) rfl)
theorem e_X2_isOf : Cond.selects (M_X2_isOf).1.cls (M_X2_isOf).1 (M_X2_isOf).1 ∈ y_tb := (c_4 79 (by decide +kernel) rfl)
set_option maxRecDepth 100000 in
def f_X1_takesForm (p0 : Nat) (p1 : Nat) (h : y_H) : Option (Bool × y_H) :=
  if y_K h p0 = 2 then
  if (y_I h p0 6) = 1 then
    if y_K h p1 = 3 then
    y_cl (f_X2_isOf p1 1 h) (fun r2 h3 =>
    some (r2, h3))
    else none
  else
  if (y_I h p0 6) = 2 then
    if y_K h p1 = 3 then
    y_cl (f_X2_isOf p1 5 h) (fun r7 h8 =>
    some (r7, h8))
    else none
  else
  if (y_I h p0 6) = 3 then
    if y_K h p1 = 3 then
    y_cl (f_X2_isOf p1 0 h) (fun r12 h13 =>
    some (r12, h13))
    else none
  else
  some (true, h)
  else none
abbrev rm_X1_takesForm : Room := { frames := 1, cells := 0, slots := 0, locals := 21 }
set_option maxRecDepth 100000 in
set_option maxHeartbeats 4000000 in
theorem k_X1_takesForm {l : Launch} {G : y_G} {p0 : Nat} {p1 : Nat} {h hz : y_H} {rz : Bool} (hf : f_X1_takesForm p0 p1 h = some (rz, hz)) : y_S l G M_X1_takesForm rm_X1_takesForm [y_p p0, y_p p1] h (some (.int (y_z rz))) hz := by
  refine y_start (lv := [(0, y_p p0), (1, y_p p1)]) (by decide) (by simp [lg_sl, y_p_cat, y_ci, y_cj, M_X1_takesForm]) (by simp [lv_args, y_p_cat, y_ci, y_cj]) (fun z ad0 => ?_)
  unfold f_X1_takesForm at hf
  refine y_aload_n (x := p0) (pc2 := 1) rfl dX1_takesForm_0 rfl ?_
  obtain ⟨g16, hf⟩ := y_g hf
  refine y_getI (pc2 := 4) rfl dX1_takesForm_1 F_BoxYard_Bay_40 (by decide) rfl g16 ?_
  by_cases c1 : (y_I h p0 6) = 1
  · replace hf := y_it c1 hf
    refine y_table (off := 28) (tgt := 32) dX1_takesForm_4 (by (rw [c1]) <;> decide) (by decide) ?_
    refine y_aload_n (x := p1) (pc2 := 33) rfl dX1_takesForm_32 rfl ?_
    refine y_iconst (v := 1) (pc2 := 34) rfl dX1_takesForm_33 (by decide) ?_
    obtain ⟨g5, hf⟩ := y_g hf
    obtain ⟨r2, h3, c4, hf⟩ := y_clE hf
    refine y_callV (As := [.int 1]) (rm := rm_X2_isOf) (cells := 0) (slots := 0) (pc2 := 37) rfl dX1_takesForm_34 n_X2_isOf l_BoxYard_Bay_62 i_X2_isOf e_X2_isOf (ci := 2) rfl rfl (by decide) g5 rfl rfl (by decide) (by decide) (by decide) (k_X2_isOf c4) ?_
    exact y_zretF hf dX1_takesForm_37 rfl (by decide) (by decide)
  · replace hf := y_ie c1 hf
    by_cases c6 : (y_I h p0 6) = 2
    · replace hf := y_it c6 hf
      refine y_table (off := 34) (tgt := 38) dX1_takesForm_4 (by (rw [c6]) <;> decide) (by decide) ?_
      refine y_aload_n (x := p1) (pc2 := 39) rfl dX1_takesForm_38 rfl ?_
      refine y_iconst (v := 5) (pc2 := 40) rfl dX1_takesForm_39 (by decide) ?_
      obtain ⟨g10, hf⟩ := y_g hf
      obtain ⟨r7, h8, c9, hf⟩ := y_clE hf
      refine y_callV (As := [.int 5]) (rm := rm_X2_isOf) (cells := 0) (slots := 0) (pc2 := 43) rfl dX1_takesForm_40 n_X2_isOf l_BoxYard_Bay_62 i_X2_isOf e_X2_isOf (ci := 2) rfl rfl (by decide) g10 rfl rfl (by decide) (by decide) (by decide) (k_X2_isOf c9) ?_
      exact y_zretF hf dX1_takesForm_43 rfl (by decide) (by decide)
    · replace hf := y_ie c6 hf
      by_cases c11 : (y_I h p0 6) = 3
      · replace hf := y_it c11 hf
        refine y_table (off := 40) (tgt := 44) dX1_takesForm_4 (by (rw [c11]) <;> decide) (by decide) ?_
        refine y_aload_n (x := p1) (pc2 := 45) rfl dX1_takesForm_44 rfl ?_
        refine y_iconst (v := 0) (pc2 := 46) rfl dX1_takesForm_45 (by decide) ?_
        obtain ⟨g15, hf⟩ := y_g hf
        obtain ⟨r12, h13, c14, hf⟩ := y_clE hf
        refine y_callV (As := [.int 0]) (rm := rm_X2_isOf) (cells := 0) (slots := 0) (pc2 := 49) rfl dX1_takesForm_46 n_X2_isOf l_BoxYard_Bay_62 i_X2_isOf e_X2_isOf (ci := 2) rfl rfl (by decide) g15 rfl rfl (by decide) (by decide) (by decide) (k_X2_isOf c14) ?_
        exact y_zretF hf dX1_takesForm_49 rfl (by decide) (by decide)
      · replace hf := y_ie c11 hf
        refine y_table (off := 46) (tgt := 50) dX1_takesForm_4 ((if_pos (by have q0 := lv_neT c1 (a := 1) (by decide); have q1 := lv_neT c6 (a := 2) (by decide); have q2 := lv_neT c11 (a := 3) (by decide); omega))) (by decide) ?_
        refine y_iconst (v := 1) (pc2 := 51) rfl dX1_takesForm_50 (by decide) ?_
        exact y_zretF (x := true) hf dX1_takesForm_51 rfl (by decide) (by decide)
theorem dX1_topRefuses_0 : decode cX1_topRefuses 0 = .ok (.aload_n 0, 1) := by decide +kernel
theorem dX1_topRefuses_1 : decode cX1_topRefuses 1 = .ok (.iload_n 2, 1) := by decide +kernel
theorem dX1_topRefuses_2 : decode cX1_topRefuses 2 = .ok (.invokevirtual 65, 3) := by decide +kernel
theorem dX1_topRefuses_5 : decode cX1_topRefuses 5 = .ok (.astore_n 3, 1) := by decide +kernel
theorem dX1_topRefuses_6 : decode cX1_topRefuses 6 = .ok (.aload_n 3, 1) := by decide +kernel
theorem dX1_topRefuses_7 : decode cX1_topRefuses 7 = .ok (.ifnonnull 5, 3) := by decide +kernel
theorem dX1_topRefuses_10 : decode cX1_topRefuses 10 = .ok (.iconst 0, 1) := by decide +kernel
theorem dX1_topRefuses_11 : decode cX1_topRefuses 11 = .ok (.ireturn, 1) := by decide +kernel
theorem dX1_topRefuses_12 : decode cX1_topRefuses 12 = .ok (.aload_n 3, 1) := by decide +kernel
theorem dX1_topRefuses_13 : decode cX1_topRefuses 13 = .ok (.iconst 3, 1) := by decide +kernel
theorem dX1_topRefuses_14 : decode cX1_topRefuses 14 = .ok (.invokevirtual 62, 3) := by decide +kernel
theorem dX1_topRefuses_17 : decode cX1_topRefuses 17 = .ok (.ifCond .ne 19, 3) := by decide +kernel
theorem dX1_topRefuses_20 : decode cX1_topRefuses 20 = .ok (.aload_n 3, 1) := by decide +kernel
theorem dX1_topRefuses_21 : decode cX1_topRefuses 21 = .ok (.iconst 5, 1) := by decide +kernel
theorem dX1_topRefuses_22 : decode cX1_topRefuses 22 = .ok (.invokevirtual 62, 3) := by decide +kernel
theorem dX1_topRefuses_25 : decode cX1_topRefuses 25 = .ok (.ifCond .eq 15, 3) := by decide +kernel
theorem dX1_topRefuses_28 : decode cX1_topRefuses 28 = .ok (.aload_n 1, 1) := by decide +kernel
theorem dX1_topRefuses_29 : decode cX1_topRefuses 29 = .ok (.iconst 5, 1) := by decide +kernel
theorem dX1_topRefuses_30 : decode cX1_topRefuses 30 = .ok (.invokevirtual 62, 3) := by decide +kernel
theorem dX1_topRefuses_33 : decode cX1_topRefuses 33 = .ok (.ifCond .ne 7, 3) := by decide +kernel
theorem dX1_topRefuses_36 : decode cX1_topRefuses 36 = .ok (.iconst 1, 1) := by decide +kernel
theorem dX1_topRefuses_37 : decode cX1_topRefuses 37 = .ok (.goto 4, 3) := by decide +kernel
theorem dX1_topRefuses_40 : decode cX1_topRefuses 40 = .ok (.iconst 0, 1) := by decide +kernel
theorem dX1_topRefuses_41 : decode cX1_topRefuses 41 = .ok (.ireturn, 1) := by decide +kernel
def M_X1_topRefuses : y_M := (yX1_topRefuses, cX1_topRefuses, 4, (Option.some Jvm.ClassFile.FieldType.boolean))
theorem n_X1_topRefuses : y_N0 M_X1_topRefuses 2 := ⟨(c_4 70 (by decide +kernel) rfl), (c_1 11 (by decide +kernel) rfl), ⟨by decide +kernel, by decide +kernel⟩, by decide +kernel⟩
theorem l_BoxYard_Bay_65 : y_lnk "BoxYard$Bay" 65 M_X1_topOf := Or.inl (c_4 71 (by decide +kernel) rfl)
theorem i_X1_topOf : Cond.instanceMethod (M_X1_topOf).1 ∈ y_tb := (c_4 72 (by decide +kernel) rfl)
theorem e_X1_topOf : Cond.selects (M_X1_topOf).1.cls (M_X1_topOf).1 (M_X1_topOf).1 ∈ y_tb := (c_4 73 (by decide +kernel) rfl)
set_option maxRecDepth 100000 in
def f_X1_topRefuses (p0 : Nat) (p1 : Nat) (p2 : Int32) (h : y_H) : Option (Bool × y_H) :=
  if y_K h p0 = 2 then
  y_cl (f_X1_topOf p0 p2 h) (fun r1 h2 =>
  if r1 = 0 then
    some (false, h2)
  else
    if y_K h2 r1 = 3 then
    y_cl (f_X2_isOf r1 3 h2) (fun r4 h5 =>
    y_jn (fun (h7 : y_H) => (
        some (true, h7) : Option (Bool × y_H))) (fun j36 =>
    if r4 = true then
      j36 h5
    else
      if y_K h5 r1 = 3 then
      y_cl (f_X2_isOf r1 5 h5) (fun r8 h9 =>
      y_jn (fun (h11 : y_H) => (
          some (false, h11) : Option (Bool × y_H))) (fun j40 =>
      if r8 = true then
        if y_K h9 p1 = 3 then
        y_cl (f_X2_isOf p1 5 h9) (fun r12 h13 =>
        if r12 = true then
          j40 h13
        else
          j36 h13)
        else none
      else
        j40 h9))
      else none))
    else none)
  else none
abbrev rm_X1_topRefuses : Room := { frames := 3, cells := 0, slots := 0, locals := 65 }
set_option maxRecDepth 100000 in
set_option maxHeartbeats 4000000 in
theorem k_X1_topRefuses {l : Launch} {G : y_G} {p0 : Nat} {p1 : Nat} {p2 : Int32} {h hz : y_H} {rz : Bool} (hf : f_X1_topRefuses p0 p1 p2 h = some (rz, hz)) : y_S l G M_X1_topRefuses rm_X1_topRefuses [y_p p0, y_p p1, .int p2] h (some (.int (y_z rz))) hz := by
  refine y_start (lv := [(0, y_p p0), (1, y_p p1), (2, .int p2)]) (by decide) (by simp [lg_sl, y_p_cat, y_ci, y_cj, M_X1_topRefuses]) (by simp [lv_args, y_p_cat, y_ci, y_cj]) (fun z ad0 => ?_)
  unfold f_X1_topRefuses at hf
  refine y_aload_n (x := p0) (pc2 := 1) rfl dX1_topRefuses_0 rfl ?_
  refine y_iload_n (pc2 := 2) rfl dX1_topRefuses_1 rfl ?_
  obtain ⟨g22, hf⟩ := y_g hf
  obtain ⟨r1, h2, c3, hf⟩ := y_clE hf
  refine y_callV (As := [.int p2]) (rm := rm_X1_topOf) (cells := 0) (slots := 0) (pc2 := 5) rfl dX1_topRefuses_2 n_X1_topOf l_BoxYard_Bay_65 i_X1_topOf e_X1_topOf (ci := 1) rfl rfl (by decide) g22 rfl rfl (by decide) (by decide) (by decide) (k_X1_topOf c3) ?_
  refine y_astore_n (lv' := [(3, y_p r1), (0, y_p p0), (1, y_p p1), (2, .int p2)]) (pc2 := 6) rfl dX1_topRefuses_5 (by decide) rfl ?_
  refine y_aload_n (x := r1) (pc2 := 7) rfl dX1_topRefuses_6 rfl ?_
  refine y_ifnonnull (tgt := 12) (pc2 := 10) rfl dX1_topRefuses_7 (by decide) (fun c21 => ?_) (fun c21 => ?_)
  · replace hf := y_ie c21 hf
    refine y_aload_n (x := r1) (pc2 := 13) rfl dX1_topRefuses_12 rfl ?_
    refine y_iconst (v := 3) (pc2 := 14) rfl dX1_topRefuses_13 (by decide) ?_
    obtain ⟨g20, hf⟩ := y_g hf
    obtain ⟨r4, h5, c6, hf⟩ := y_clE hf
    refine y_callV (As := [.int 3]) (rm := rm_X2_isOf) (cells := 0) (slots := 0) (pc2 := 17) rfl dX1_topRefuses_14 n_X2_isOf l_BoxYard_Bay_62 i_X2_isOf e_X2_isOf (ci := 2) rfl rfl (by decide) g20 rfl rfl (by decide) (by decide) (by decide) (k_X2_isOf c6) ?_
    refine y_jnE hf (fun j => ∀ (h7 : y_H), j h7 = some (rz, hz) → y_V l G z rm_X1_topRefuses M_X1_topRefuses ad0 h (some (.int (y_z rz))) hz 36 [] [] h7 0 0) (fun h7 hf => ?_) (fun j36 hj36 hf => ?_)
    · refine y_iconst (v := 1) (pc2 := 37) rfl dX1_topRefuses_36 (by decide) ?_
      refine y_goto (tgt := 41) dX1_topRefuses_37 (by decide) ?_
      exact y_zretF (x := true) hf dX1_topRefuses_41 rfl (by decide) (by decide)
    · refine y_ifz_ne (tgt := 36) (pc2 := 20) rfl dX1_topRefuses_17 (by decide) (fun c19 => ?_) (fun c19 => ?_)
      · replace hf := y_it c19 hf
        exact y_pk [] rfl (hj36 _ hf)
      · replace hf := y_ie c19 hf
        refine y_aload_n (x := r1) (pc2 := 21) rfl dX1_topRefuses_20 rfl ?_
        refine y_iconst (v := 5) (pc2 := 22) rfl dX1_topRefuses_21 (by decide) ?_
        obtain ⟨g18, hf⟩ := y_g hf
        obtain ⟨r8, h9, c10, hf⟩ := y_clE hf
        refine y_callV (As := [.int 5]) (rm := rm_X2_isOf) (cells := 0) (slots := 0) (pc2 := 25) rfl dX1_topRefuses_22 n_X2_isOf l_BoxYard_Bay_62 i_X2_isOf e_X2_isOf (ci := 2) rfl rfl (by decide) g18 rfl rfl (by decide) (by decide) (by decide) (k_X2_isOf c10) ?_
        refine y_jnE hf (fun j => ∀ (h11 : y_H), j h11 = some (rz, hz) → y_V l G z rm_X1_topRefuses M_X1_topRefuses ad0 h (some (.int (y_z rz))) hz 40 [] [] h11 0 0) (fun h11 hf => ?_) (fun j40 hj40 hf => ?_)
        · refine y_iconst (v := 0) (pc2 := 41) rfl dX1_topRefuses_40 (by decide) ?_
          exact y_zretF (x := false) hf dX1_topRefuses_41 rfl (by decide) (by decide)
        · refine y_ifz_eq (tgt := 40) (pc2 := 28) rfl dX1_topRefuses_25 (by decide) (fun c17 => ?_) (fun c17 => ?_)
          · replace hf := y_ie c17 hf
            exact y_pk [] rfl (hj40 _ hf)
          · replace hf := y_it c17 hf
            refine y_aload_n (x := p1) (pc2 := 29) rfl dX1_topRefuses_28 rfl ?_
            refine y_iconst (v := 5) (pc2 := 30) rfl dX1_topRefuses_29 (by decide) ?_
            obtain ⟨g16, hf⟩ := y_g hf
            obtain ⟨r12, h13, c14, hf⟩ := y_clE hf
            refine y_callV (As := [.int 5]) (rm := rm_X2_isOf) (cells := 0) (slots := 0) (pc2 := 33) rfl dX1_topRefuses_30 n_X2_isOf l_BoxYard_Bay_62 i_X2_isOf e_X2_isOf (ci := 2) rfl rfl (by decide) g16 rfl rfl (by decide) (by decide) (by decide) (k_X2_isOf c14) ?_
            refine y_ifz_ne (tgt := 40) (pc2 := 36) rfl dX1_topRefuses_33 (by decide) (fun c15 => ?_) (fun c15 => ?_)
            · replace hf := y_it c15 hf
              exact y_pk [] rfl (hj40 _ hf)
            · replace hf := y_ie c15 hf
              exact y_pk [] rfl (hj36 _ hf)
  · replace hf := y_it c21 hf
    refine y_iconst (v := 0) (pc2 := 11) rfl dX1_topRefuses_10 (by decide) ?_
    exact y_zretF (x := false) hf dX1_topRefuses_11 rfl (by decide) (by decide)
theorem dX1_weightOf_0 : decode cX1_weightOf 0 = .ok (.iconst 0, 1) := by decide +kernel
theorem dX1_weightOf_1 : decode cX1_weightOf 1 = .ok (.istore_n 2, 1) := by decide +kernel
theorem dX1_weightOf_2 : decode cX1_weightOf 2 = .ok (.iconst 0, 1) := by decide +kernel
theorem dX1_weightOf_3 : decode cX1_weightOf 3 = .ok (.istore_n 3, 1) := by decide +kernel
theorem dX1_weightOf_4 : decode cX1_weightOf 4 = .ok (.iload_n 3, 1) := by decide +kernel
theorem dX1_weightOf_5 : decode cX1_weightOf 5 = .ok (.iconst 5, 1) := by decide +kernel
theorem dX1_weightOf_6 : decode cX1_weightOf 6 = .ok (.if_icmp .ge 34, 3) := by decide +kernel
theorem dX1_weightOf_9 : decode cX1_weightOf 9 = .ok (.aload_n 0, 1) := by decide +kernel
theorem dX1_weightOf_10 : decode cX1_weightOf 10 = .ok (.iload_n 1, 1) := by decide +kernel
theorem dX1_weightOf_11 : decode cX1_weightOf 11 = .ok (.iload_n 3, 1) := by decide +kernel
theorem dX1_weightOf_12 : decode cX1_weightOf 12 = .ok (.invokevirtual 54, 3) := by decide +kernel
theorem dX1_weightOf_15 : decode cX1_weightOf 15 = .ok (.astore 4, 2) := by decide +kernel
theorem dX1_weightOf_17 : decode cX1_weightOf 17 = .ok (.iload_n 2, 1) := by decide +kernel
theorem dX1_weightOf_18 : decode cX1_weightOf 18 = .ok (.aload 4, 2) := by decide +kernel
theorem dX1_weightOf_20 : decode cX1_weightOf 20 = .ok (.ifnonnull 7, 3) := by decide +kernel
theorem dX1_weightOf_23 : decode cX1_weightOf 23 = .ok (.iconst 0, 1) := by decide +kernel
theorem dX1_weightOf_24 : decode cX1_weightOf 24 = .ok (.goto 8, 3) := by decide +kernel
theorem dX1_weightOf_27 : decode cX1_weightOf 27 = .ok (.aload 4, 2) := by decide +kernel
theorem dX1_weightOf_29 : decode cX1_weightOf 29 = .ok (.invokevirtual 58, 3) := by decide +kernel
theorem dX1_weightOf_32 : decode cX1_weightOf 32 = .ok (.iadd, 1) := by decide +kernel
theorem dX1_weightOf_33 : decode cX1_weightOf 33 = .ok (.istore_n 2, 1) := by decide +kernel
theorem dX1_weightOf_34 : decode cX1_weightOf 34 = .ok (.iinc 3 1, 3) := by decide +kernel
theorem dX1_weightOf_37 : decode cX1_weightOf 37 = .ok (.goto (-33), 3) := by decide +kernel
theorem dX1_weightOf_40 : decode cX1_weightOf 40 = .ok (.iload_n 2, 1) := by decide +kernel
theorem dX1_weightOf_41 : decode cX1_weightOf 41 = .ok (.ireturn, 1) := by decide +kernel
def M_X1_weightOf : y_M := (yX1_weightOf, cX1_weightOf, 5, (Option.some Jvm.ClassFile.FieldType.int))
theorem n_X1_weightOf : y_N0 M_X1_weightOf 1 := ⟨(c_4 88 (by decide +kernel) rfl), (c_1 11 (by decide +kernel) rfl), ⟨by decide +kernel, by decide +kernel⟩, by decide +kernel⟩
set_option maxRecDepth 100000 in
def f_X1_weightOf (p0 : Nat) (p1 : Int32) (h : y_H) : Option (Int32 × y_H) :=
  y_jl (fun (_ : Nat) (_ : Int32) (_ : Int32) (_ : Int32) (_ : y_H) => (none : Option (Int32 × y_H))) (fun j4 (v0_4 : Nat) (v1_4 : Int32) (v2_4 : Int32) (v3_4 : Int32) (h1 : y_H) =>
      if 5 ≤ v3_4 then
        some (v2_4, h1)
      else
        if y_K h1 v0_4 = 2 then
        y_cl (f_X1_boxIn v0_4 v1_4 v3_4 h1) (fun r2 h3 =>
        if r2 = 0 then
          j4 v0_4 v1_4 (v2_4 + 0) (v3_4 + 1) h3
        else
          if y_K h3 r2 = 3 then
          y_cl (f_X2_known r2 h3) (fun r5 h6 =>
          j4 v0_4 v1_4 (v2_4 + r5) (v3_4 + 1) h6)
          else none)
        else none) (fun j4 =>
  j4 p0 p1 0 0 h)
abbrev rm_X1_weightOf : Room := { frames := 2, cells := 0, slots := 0, locals := 44 }
set_option maxRecDepth 100000 in
set_option maxHeartbeats 4000000 in
theorem k_X1_weightOf {l : Launch} {G : y_G} {p0 : Nat} {p1 : Int32} {h hz : y_H} {rz : Int32} (hf : f_X1_weightOf p0 p1 h = some (rz, hz)) : y_S l G M_X1_weightOf rm_X1_weightOf [y_p p0, .int p1] h (some (.int rz)) hz := by
  refine y_start (lv := [(0, y_p p0), (1, .int p1)]) (by decide) (by simp [lg_sl, y_p_cat, y_ci, y_cj, M_X1_weightOf]) (by simp [lv_args, y_p_cat, y_ci, y_cj]) (fun z ad0 => ?_)
  unfold f_X1_weightOf at hf
  refine y_iconst (v := 0) (pc2 := 1) rfl dX1_weightOf_0 (by decide) ?_
  refine y_istore_n (lv' := [(2, .int 0), (0, y_p p0), (1, .int p1)]) (pc2 := 2) rfl dX1_weightOf_1 (by decide) rfl ?_
  refine y_iconst (v := 0) (pc2 := 3) rfl dX1_weightOf_2 (by decide) ?_
  refine y_jlE hf (fun j => ∀ (v0_4 : Nat) (v1_4 : Int32) (v2_4 : Int32) (v3_4 : Int32) (h1 : y_H), j v0_4 v1_4 v2_4 v3_4 h1 = some (rz, hz) → y_V l G z rm_X1_weightOf M_X1_weightOf ad0 h (some (.int rz)) hz 4 [(0, y_p v0_4), (1, .int v1_4), (2, .int v2_4), (3, .int v3_4)] [] h1 0 0) (fun _ _ _ _ _ hf => by cases hf) (fun j4 hj4 v0_4 v1_4 v2_4 v3_4 h1 hf => ?_) (fun j4 hj4 hf => ?_)
  · refine y_iload_n (pc2 := 5) rfl dX1_weightOf_4 rfl ?_
    refine y_iconst (v := 5) (pc2 := 6) rfl dX1_weightOf_5 (by decide) ?_
    refine y_icmp_ge (tgt := 40) (pc2 := 9) rfl dX1_weightOf_6 (by decide) (fun c11 => ?_) (fun c11 => ?_)
    · replace hf := y_it c11 hf
      refine y_iload_n (pc2 := 41) rfl dX1_weightOf_40 rfl ?_
      exact y_iretF hf dX1_weightOf_41 rfl (by decide) (by decide)
    · replace hf := y_ie c11 hf
      refine y_aload_n (x := v0_4) (pc2 := 10) rfl dX1_weightOf_9 rfl ?_
      refine y_iload_n (pc2 := 11) rfl dX1_weightOf_10 rfl ?_
      refine y_iload_n (pc2 := 12) rfl dX1_weightOf_11 rfl ?_
      obtain ⟨g10, hf⟩ := y_g hf
      obtain ⟨r2, h3, c4, hf⟩ := y_clE hf
      refine y_callV (As := [.int v1_4, .int v3_4]) (rm := rm_X1_boxIn) (cells := 0) (slots := 0) (pc2 := 15) rfl dX1_weightOf_12 n_X1_boxIn l_BoxYard_Bay_54 i_X1_boxIn e_X1_boxIn (ci := 1) rfl rfl (by decide) g10 rfl rfl (by decide) (by decide) (by decide) (k_X1_boxIn c4) ?_
      refine y_astore (lv' := [(4, y_p r2), (0, y_p v0_4), (1, .int v1_4), (2, .int v2_4), (3, .int v3_4)]) (pc2 := 17) rfl dX1_weightOf_15 (by decide) rfl ?_
      refine y_iload_n (pc2 := 18) rfl dX1_weightOf_17 rfl ?_
      refine y_aload (x := r2) (pc2 := 20) rfl dX1_weightOf_18 rfl ?_
      refine y_ifnonnull (tgt := 27) (pc2 := 23) rfl dX1_weightOf_20 (by decide) (fun c9 => ?_) (fun c9 => ?_)
      · replace hf := y_ie c9 hf
        refine y_aload (x := r2) (pc2 := 29) rfl dX1_weightOf_27 rfl ?_
        obtain ⟨g8, hf⟩ := y_g hf
        obtain ⟨r5, h6, c7, hf⟩ := y_clE hf
        refine y_callV (As := []) (rm := rm_X2_known) (cells := 0) (slots := 0) (pc2 := 32) rfl dX1_weightOf_29 n_X2_known l_BoxYard_Bay_58 i_X2_known e_X2_known (ci := 2) rfl rfl (by decide) g8 rfl rfl (by decide) (by simp [y_ci, y_cj, y_p_cat]) (by decide) (k_X2_known c7) ?_
        refine y_iadd (pc2 := 33) rfl dX1_weightOf_32 ?_
        refine y_istore_n (lv' := [(2, .int (v2_4 + r5)), (4, y_p r2), (0, y_p v0_4), (1, .int v1_4), (3, .int v3_4)]) (pc2 := 34) rfl dX1_weightOf_33 (by decide) rfl ?_
        refine y_iinc (v := v3_4 + 1) (lv' := [(3, .int (v3_4 + 1)), (2, .int (v2_4 + r5)), (4, y_p r2), (0, y_p v0_4), (1, .int v1_4)]) (pc2 := 37) rfl dX1_weightOf_34 rfl rfl (by decide) rfl ?_
        refine y_goto (tgt := 4) dX1_weightOf_37 (by decide) ?_
        exact y_pk [3, 4, 1, 0] rfl (hj4 _ _ _ _ _ hf)
      · replace hf := y_it c9 hf
        refine y_iconst (v := 0) (pc2 := 24) rfl dX1_weightOf_23 (by decide) ?_
        refine y_goto (tgt := 32) dX1_weightOf_24 (by decide) ?_
        refine y_iadd (pc2 := 33) rfl dX1_weightOf_32 ?_
        refine y_istore_n (lv' := [(2, .int (v2_4 + 0)), (4, y_p r2), (0, y_p v0_4), (1, .int v1_4), (3, .int v3_4)]) (pc2 := 34) rfl dX1_weightOf_33 (by decide) rfl ?_
        refine y_iinc (v := v3_4 + 1) (lv' := [(3, .int (v3_4 + 1)), (2, .int (v2_4 + 0)), (4, y_p r2), (0, y_p v0_4), (1, .int v1_4)]) (pc2 := 37) rfl dX1_weightOf_34 rfl rfl (by decide) rfl ?_
        refine y_goto (tgt := 4) dX1_weightOf_37 (by decide) ?_
        exact y_pk [3, 4, 1, 0] rfl (hj4 _ _ _ _ _ hf)
  · refine y_istore_n (lv' := [(3, .int 0), (2, .int 0), (0, y_p p0), (1, .int p1)]) (pc2 := 4) rfl dX1_weightOf_3 (by decide) rfl ?_
    exact y_pk [2, 3, 1, 0] rfl (hj4 _ _ _ _ _ hf)
theorem dX9_mark_0 : decode cX9_mark 0 = .ok (.aload_n 0, 1) := by decide +kernel
theorem dX9_mark_1 : decode cX9_mark 1 = .ok (.getfield 15, 3) := by decide +kernel
theorem dX9_mark_4 : decode cX9_mark 4 = .ok (.bipush 100, 2) := by decide +kernel
theorem dX9_mark_6 : decode cX9_mark 6 = .ok (.if_icmp .ge 23, 3) := by decide +kernel
theorem dX9_mark_9 : decode cX9_mark 9 = .ok (.aload_n 0, 1) := by decide +kernel
theorem dX9_mark_10 : decode cX9_mark 10 = .ok (.getfield 11, 3) := by decide +kernel
theorem dX9_mark_13 : decode cX9_mark 13 = .ok (.aload_n 0, 1) := by decide +kernel
theorem dX9_mark_14 : decode cX9_mark 14 = .ok (.getfield 15, 3) := by decide +kernel
theorem dX9_mark_17 : decode cX9_mark 17 = .ok (.iload_n 1, 1) := by decide +kernel
theorem dX9_mark_18 : decode cX9_mark 18 = .ok (.iastore, 1) := by decide +kernel
theorem dX9_mark_19 : decode cX9_mark 19 = .ok (.aload_n 0, 1) := by decide +kernel
theorem dX9_mark_20 : decode cX9_mark 20 = .ok (.dup, 1) := by decide +kernel
theorem dX9_mark_21 : decode cX9_mark 21 = .ok (.getfield 15, 3) := by decide +kernel
theorem dX9_mark_24 : decode cX9_mark 24 = .ok (.iconst 1, 1) := by decide +kernel
theorem dX9_mark_25 : decode cX9_mark 25 = .ok (.iadd, 1) := by decide +kernel
theorem dX9_mark_26 : decode cX9_mark 26 = .ok (.putfield 15, 3) := by decide +kernel
theorem dX9_mark_29 : decode cX9_mark 29 = .ok (.return_, 1) := by decide +kernel
def M_X9_mark : y_M := (yX9_mark, cX9_mark, 2, (Option.none : Option Jvm.ClassFile.FieldType))
theorem n_X9_mark : y_N0 M_X9_mark 1 := ⟨(c_2 226 (by decide +kernel) rfl), (c_1 3 (by decide +kernel) rfl), ⟨by decide +kernel, by decide +kernel⟩, by decide +kernel⟩
theorem F_BoxYard_Trace_15 : y_F "BoxYard$Trace" 15 9 1 := ⟨_, _, _, rfl, by decide, Or.inl (c_1 46 (by decide +kernel) rfl)⟩
theorem F_BoxYard_Trace_11 : y_F "BoxYard$Trace" 11 9 0 := ⟨_, _, _, rfl, by decide, Or.inl (c_1 45 (by decide +kernel) rfl)⟩
theorem Fp_BoxYard_Trace_15 {nm : String} : y_Fp "BoxYard$Trace" nm 15 9 1 := ⟨_, _, _, rfl, by decide, Or.inl ⟨rfl, Or.inl (c_1 46 (by decide +kernel) rfl)⟩⟩
set_option maxRecDepth 100000 in
def f_X9_mark (p0 : Nat) (p1 : Int32) (h : y_H) : Option (Unit × y_H) :=
  if y_K h p0 = 10 then
  y_jn (fun (h1 : y_H) => (
      some ((), h1) : Option (Unit × y_H))) (fun j29 =>
  if 100 ≤ (y_I h p0 1) then
    j29 h
  else
    if y_K h p0 = 10 then
    if y_K h p0 = 10 then
    if y_K h (y_P h p0 0) = 100 ∧ y_ix (y_I h p0 1) (y_N h (y_P h p0 0)) = true then
    y_bd (s_I h (y_P h p0 0) (Int32.toNatClampNeg (y_I h p0 1)) p1) (fun h2 =>
    if y_K h2 p0 = 10 then
    if y_K h2 p0 = 10 then
    y_bd (s_I h2 p0 1 ((y_I h2 p0 1) + 1)) (fun h5 =>
    j29 h5)
    else none
    else none)
    else none
    else none
    else none)
  else none
abbrev rm_X9_mark : Room := { frames := 0, cells := 0, slots := 0, locals := 0 }
set_option maxRecDepth 100000 in
set_option maxHeartbeats 4000000 in
theorem k_X9_mark {l : Launch} {G : y_G} {p0 : Nat} {p1 : Int32} {h hz : y_H} {rz : Unit} (hf : f_X9_mark p0 p1 h = some (rz, hz)) : y_S l G M_X9_mark rm_X9_mark [y_p p0, .int p1] h none hz := by
  refine y_start (lv := [(0, y_p p0), (1, .int p1)]) (by decide) (by simp [lg_sl, y_p_cat, y_ci, y_cj, M_X9_mark]) (by simp [lv_args, y_p_cat, y_ci, y_cj]) (fun z ad0 => ?_)
  unfold f_X9_mark at hf
  refine y_aload_n (x := p0) (pc2 := 1) rfl dX9_mark_0 rfl ?_
  obtain ⟨g12, hf⟩ := y_g hf
  refine y_getI (pc2 := 4) rfl dX9_mark_1 F_BoxYard_Trace_15 (by decide) rfl g12 ?_
  refine y_bipush (v := 100) (pc2 := 6) rfl dX9_mark_4 (by decide) ?_
  refine y_jnE hf (fun j => ∀ (h1 : y_H), j h1 = some (rz, hz) → y_V l G z rm_X9_mark M_X9_mark ad0 h none hz 29 [] [] h1 0 0) (fun h1 hf => ?_) (fun j29 hj29 hf => ?_)
  · exact y_vretF hf dX9_mark_29 rfl (by decide) (by decide)
  · refine y_icmp_ge (tgt := 29) (pc2 := 9) rfl dX9_mark_6 (by decide) (fun c11 => ?_) (fun c11 => ?_)
    · replace hf := y_it c11 hf
      exact y_pk [] rfl (hj29 _ hf)
    · replace hf := y_ie c11 hf
      refine y_aload_n (x := p0) (pc2 := 10) rfl dX9_mark_9 rfl ?_
      obtain ⟨g10, hf⟩ := y_g hf
      refine y_getP (pc2 := 13) rfl dX9_mark_10 F_BoxYard_Trace_11 (by decide) rfl g10 ?_
      refine y_aload_n (x := p0) (pc2 := 14) rfl dX9_mark_13 rfl ?_
      obtain ⟨g9, hf⟩ := y_g hf
      refine y_getI (pc2 := 17) rfl dX9_mark_14 F_BoxYard_Trace_15 (by decide) rfl g9 ?_
      refine y_iload_n (pc2 := 18) rfl dX9_mark_17 rfl ?_
      obtain ⟨g4, hf⟩ := y_g hf
      obtain ⟨h2, e3, hf⟩ := y_bdE hf
      refine y_iast (x := p1) (pc2 := 19) rfl dX9_mark_18 g4.1 (y_ix_in g4.2) e3 ?_
      refine y_aload_n (x := p0) (pc2 := 20) rfl dX9_mark_19 rfl ?_
      refine y_dup (pc2 := 21) rfl dX9_mark_20 (y_p_cat _) ?_
      obtain ⟨g8, hf⟩ := y_g hf
      refine y_getI (pc2 := 24) rfl dX9_mark_21 F_BoxYard_Trace_15 (by decide) rfl g8 ?_
      refine y_iconst (v := 1) (pc2 := 25) rfl dX9_mark_24 (by decide) ?_
      refine y_iadd (pc2 := 26) rfl dX9_mark_25 ?_
      obtain ⟨g7, hf⟩ := y_g hf
      obtain ⟨h5, e6, hf⟩ := y_bdE hf
      refine y_putI (x := (y_I h2 p0 1) + 1) (pc2 := 29) rfl dX9_mark_26 Fp_BoxYard_Trace_15 (by decide) rfl g7 e6 ?_
      exact y_pk [] rfl (hj29 _ hf)
theorem dX2_plainBears_0 : decode cX2_plainBears 0 = .ok (.aload_n 1, 1) := by decide +kernel
theorem dX2_plainBears_1 : decode cX2_plainBears 1 = .ok (.iconst 1, 1) := by decide +kernel
theorem dX2_plainBears_2 : decode cX2_plainBears 2 = .ok (.invokevirtual 65, 3) := by decide +kernel
theorem dX2_plainBears_5 : decode cX2_plainBears 5 = .ok (.sipush 900, 3) := by decide +kernel
theorem dX2_plainBears_8 : decode cX2_plainBears 8 = .ok (.ireturn, 1) := by decide +kernel
def M_X2_plainBears : y_M := (yX2_plainBears, cX2_plainBears, 2, (Option.some Jvm.ClassFile.FieldType.int))
theorem n_X2_plainBears : y_N0 M_X2_plainBears 1 := ⟨(c_2 230 (by decide +kernel) rfl), (c_1 10 (by decide +kernel) rfl), ⟨by decide +kernel, by decide +kernel⟩, by decide +kernel⟩
theorem l_BoxYard_Box_65 : y_lnk "BoxYard$Box" 65 M_X9_mark := Or.inl (c_2 223 (by decide +kernel) rfl)
theorem i_X9_mark : Cond.instanceMethod (M_X9_mark).1 ∈ y_tb := (c_2 224 (by decide +kernel) rfl)
theorem e_X9_mark : Cond.selects (M_X9_mark).1.cls (M_X9_mark).1 (M_X9_mark).1 ∈ y_tb := (c_2 225 (by decide +kernel) rfl)
set_option maxRecDepth 100000 in
def f_X2_plainBears (p0 : Nat) (p1 : Nat) (h : y_H) : Option (Int32 × y_H) :=
  if y_K h p1 = 10 then
  y_cl (f_X9_mark p1 1 h) (fun _ h1 =>
  some (900, h1))
  else none
abbrev rm_X2_plainBears : Room := { frames := 1, cells := 0, slots := 0, locals := 21 }
set_option maxRecDepth 100000 in
set_option maxHeartbeats 4000000 in
theorem k_X2_plainBears {l : Launch} {G : y_G} {p0 : Nat} {p1 : Nat} {h hz : y_H} {rz : Int32} (hf : f_X2_plainBears p0 p1 h = some (rz, hz)) : y_S l G M_X2_plainBears rm_X2_plainBears [y_p p0, y_p p1] h (some (.int rz)) hz := by
  refine y_start (lv := [(0, y_p p0), (1, y_p p1)]) (by decide) (by simp [lg_sl, y_p_cat, y_ci, y_cj, M_X2_plainBears]) (by simp [lv_args, y_p_cat, y_ci, y_cj]) (fun z ad0 => ?_)
  unfold f_X2_plainBears at hf
  refine y_aload_n (x := p1) (pc2 := 1) rfl dX2_plainBears_0 rfl ?_
  refine y_iconst (v := 1) (pc2 := 2) rfl dX2_plainBears_1 (by decide) ?_
  obtain ⟨g3, hf⟩ := y_g hf
  obtain ⟨r_, h1, c2, hf⟩ := y_clE hf
  refine y_callV (As := [.int 1]) (rm := rm_X9_mark) (cells := 0) (slots := 0) (pc2 := 5) rfl dX2_plainBears_2 n_X9_mark l_BoxYard_Box_65 i_X9_mark e_X9_mark (ci := 9) rfl rfl (by decide) g3 rfl rfl (by decide) (by decide) (by decide) (k_X9_mark c2) ?_
  refine y_sipush (v := 900) (pc2 := 8) rfl dX2_plainBears_5 (by decide) ?_
  exact y_iretF hf dX2_plainBears_8 rfl (by decide) (by decide)
theorem dX2_bears_0 : decode cX2_bears 0 = .ok (.aload_n 0, 1) := by decide +kernel
theorem dX2_bears_1 : decode cX2_bears 1 = .ok (.getfield 15, 3) := by decide +kernel
theorem dX2_bears_4 : decode cX2_bears 4 = .ok (.tableswitch 85 1 5 #[36, 51, 64, 64, 71], 36) := by decide +kernel
theorem dX2_bears_40 : decode cX2_bears 40 = .ok (.aload_n 1, 1) := by decide +kernel
theorem dX2_bears_41 : decode cX2_bears 41 = .ok (.iconst 2, 1) := by decide +kernel
theorem dX2_bears_42 : decode cX2_bears 42 = .ok (.invokevirtual 65, 3) := by decide +kernel
theorem dX2_bears_45 : decode cX2_bears 45 = .ok (.aload_n 0, 1) := by decide +kernel
theorem dX2_bears_46 : decode cX2_bears 46 = .ok (.aload_n 1, 1) := by decide +kernel
theorem dX2_bears_47 : decode cX2_bears 47 = .ok (.invokevirtual 71, 3) := by decide +kernel
theorem dX2_bears_50 : decode cX2_bears 50 = .ok (.sipush 300, 3) := by decide +kernel
theorem dX2_bears_53 : decode cX2_bears 53 = .ok (.isub, 1) := by decide +kernel
theorem dX2_bears_54 : decode cX2_bears 54 = .ok (.ireturn, 1) := by decide +kernel
theorem dX2_bears_55 : decode cX2_bears 55 = .ok (.aload_n 1, 1) := by decide +kernel
theorem dX2_bears_56 : decode cX2_bears 56 = .ok (.iconst 3, 1) := by decide +kernel
theorem dX2_bears_57 : decode cX2_bears 57 = .ok (.invokevirtual 65, 3) := by decide +kernel
theorem dX2_bears_60 : decode cX2_bears 60 = .ok (.aload_n 0, 1) := by decide +kernel
theorem dX2_bears_61 : decode cX2_bears 61 = .ok (.aload_n 1, 1) := by decide +kernel
theorem dX2_bears_62 : decode cX2_bears 62 = .ok (.invokevirtual 71, 3) := by decide +kernel
theorem dX2_bears_65 : decode cX2_bears 65 = .ok (.iconst 4, 1) := by decide +kernel
theorem dX2_bears_66 : decode cX2_bears 66 = .ok (.idiv, 1) := by decide +kernel
theorem dX2_bears_67 : decode cX2_bears 67 = .ok (.ireturn, 1) := by decide +kernel
theorem dX2_bears_68 : decode cX2_bears 68 = .ok (.aload_n 1, 1) := by decide +kernel
theorem dX2_bears_69 : decode cX2_bears 69 = .ok (.iconst 4, 1) := by decide +kernel
theorem dX2_bears_70 : decode cX2_bears 70 = .ok (.invokevirtual 65, 3) := by decide +kernel
theorem dX2_bears_73 : decode cX2_bears 73 = .ok (.iconst 0, 1) := by decide +kernel
theorem dX2_bears_74 : decode cX2_bears 74 = .ok (.ireturn, 1) := by decide +kernel
theorem dX2_bears_75 : decode cX2_bears 75 = .ok (.aload_n 1, 1) := by decide +kernel
theorem dX2_bears_76 : decode cX2_bears 76 = .ok (.bipush 6, 2) := by decide +kernel
theorem dX2_bears_78 : decode cX2_bears 78 = .ok (.invokevirtual 65, 3) := by decide +kernel
theorem dX2_bears_81 : decode cX2_bears 81 = .ok (.aload_n 0, 1) := by decide +kernel
theorem dX2_bears_82 : decode cX2_bears 82 = .ok (.aload_n 1, 1) := by decide +kernel
theorem dX2_bears_83 : decode cX2_bears 83 = .ok (.invokevirtual 71, 3) := by decide +kernel
theorem dX2_bears_86 : decode cX2_bears 86 = .ok (.iconst 3, 1) := by decide +kernel
theorem dX2_bears_87 : decode cX2_bears 87 = .ok (.idiv, 1) := by decide +kernel
theorem dX2_bears_88 : decode cX2_bears 88 = .ok (.ireturn, 1) := by decide +kernel
theorem dX2_bears_89 : decode cX2_bears 89 = .ok (.aload_n 0, 1) := by decide +kernel
theorem dX2_bears_90 : decode cX2_bears 90 = .ok (.aload_n 1, 1) := by decide +kernel
theorem dX2_bears_91 : decode cX2_bears 91 = .ok (.invokevirtual 71, 3) := by decide +kernel
theorem dX2_bears_94 : decode cX2_bears 94 = .ok (.ireturn, 1) := by decide +kernel
def M_X2_bears : y_M := (yX2_bears, cX2_bears, 2, (Option.some Jvm.ClassFile.FieldType.int))
theorem n_X2_bears : y_N0 M_X2_bears 1 := ⟨(c_2 222 (by decide +kernel) rfl), (c_1 10 (by decide +kernel) rfl), ⟨by decide +kernel, by decide +kernel⟩, by decide +kernel⟩
theorem l_BoxYard_Box_71 : y_lnk "BoxYard$Box" 71 M_X2_plainBears := Or.inl (c_2 227 (by decide +kernel) rfl)
theorem i_X2_plainBears : Cond.instanceMethod (M_X2_plainBears).1 ∈ y_tb := (c_2 229 (by decide +kernel) rfl)
theorem e_X2_plainBears : Cond.selects (M_X2_plainBears).1.cls (M_X2_plainBears).1 (M_X2_plainBears).1 ∈ y_tb := (m_s 1 (by decide +kernel) rfl)
set_option maxRecDepth 100000 in
def f_X2_bears (p0 : Nat) (p1 : Nat) (h : y_H) : Option (Int32 × y_H) :=
  if y_K h p0 = 3 then
  y_jn (fun (v1_68 : Nat) (h1 : y_H) => (
      if y_K h1 v1_68 = 10 then
      y_cl (f_X9_mark v1_68 4 h1) (fun _ h2 =>
      some (0, h2))
      else none : Option (Int32 × y_H))) (fun j68 =>
  if (y_I h p0 1) = 1 then
    if y_K h p1 = 10 then
    y_cl (f_X9_mark p1 2 h) (fun _ h6 =>
    if y_K h6 p0 = 3 then
    y_cl (f_X2_plainBears p0 p1 h6) (fun r8 h9 =>
    some (r8 - 300, h9))
    else none)
    else none
  else
  if (y_I h p0 1) = 2 then
    if y_K h p1 = 10 then
    y_cl (f_X9_mark p1 3 h) (fun _ h14 =>
    if y_K h14 p0 = 3 then
    y_cl (f_X2_plainBears p0 p1 h14) (fun r16 h17 =>
    some (r16 / 4, h17))
    else none)
    else none
  else
  if (y_I h p0 1) = 3 then
    j68 p1 h
  else
  if (y_I h p0 1) = 4 then
    j68 p1 h
  else
  if (y_I h p0 1) = 5 then
    if y_K h p1 = 10 then
    y_cl (f_X9_mark p1 6 h) (fun _ h24 =>
    if y_K h24 p0 = 3 then
    y_cl (f_X2_plainBears p0 p1 h24) (fun r26 h27 =>
    some (r26 / 3, h27))
    else none)
    else none
  else
  if y_K h p0 = 3 then
  y_cl (f_X2_plainBears p0 p1 h) (fun r31 h32 =>
  some (r31, h32))
  else none)
  else none
abbrev rm_X2_bears : Room := { frames := 2, cells := 0, slots := 0, locals := 42 }
set_option maxRecDepth 100000 in
set_option maxHeartbeats 4000000 in
theorem k_X2_bears {l : Launch} {G : y_G} {p0 : Nat} {p1 : Nat} {h hz : y_H} {rz : Int32} (hf : f_X2_bears p0 p1 h = some (rz, hz)) : y_S l G M_X2_bears rm_X2_bears [y_p p0, y_p p1] h (some (.int rz)) hz := by
  refine y_start (lv := [(0, y_p p0), (1, y_p p1)]) (by decide) (by simp [lg_sl, y_p_cat, y_ci, y_cj, M_X2_bears]) (by simp [lv_args, y_p_cat, y_ci, y_cj]) (fun z ad0 => ?_)
  unfold f_X2_bears at hf
  refine y_aload_n (x := p0) (pc2 := 1) rfl dX2_bears_0 rfl ?_
  obtain ⟨g35, hf⟩ := y_g hf
  refine y_getI (pc2 := 4) rfl dX2_bears_1 F_BoxYard_Box_15 (by decide) rfl g35 ?_
  refine y_jnE hf (fun j => ∀ (v1_68 : Nat) (h1 : y_H), j v1_68 h1 = some (rz, hz) → y_V l G z rm_X2_bears M_X2_bears ad0 h (some (.int rz)) hz 68 [(1, y_p v1_68)] [] h1 0 0) (fun v1_68 h1 hf => ?_) (fun j68 hj68 hf => ?_)
  · refine y_aload_n (x := v1_68) (pc2 := 69) rfl dX2_bears_68 rfl ?_
    refine y_iconst (v := 4) (pc2 := 70) rfl dX2_bears_69 (by decide) ?_
    obtain ⟨g4, hf⟩ := y_g hf
    obtain ⟨r_, h2, c3, hf⟩ := y_clE hf
    refine y_callV (As := [.int 4]) (rm := rm_X9_mark) (cells := 0) (slots := 0) (pc2 := 73) rfl dX2_bears_70 n_X9_mark l_BoxYard_Box_65 i_X9_mark e_X9_mark (ci := 9) rfl rfl (by decide) g4 rfl rfl (by decide) (by decide) (by decide) (k_X9_mark c3) ?_
    refine y_iconst (v := 0) (pc2 := 74) rfl dX2_bears_73 (by decide) ?_
    exact y_iretF hf dX2_bears_74 rfl (by decide) (by decide)
  · by_cases c5 : (y_I h p0 1) = 1
    · replace hf := y_it c5 hf
      refine y_table (off := 36) (tgt := 40) dX2_bears_4 (by (rw [c5]) <;> decide) (by decide) ?_
      refine y_aload_n (x := p1) (pc2 := 41) rfl dX2_bears_40 rfl ?_
      refine y_iconst (v := 2) (pc2 := 42) rfl dX2_bears_41 (by decide) ?_
      obtain ⟨g12, hf⟩ := y_g hf
      obtain ⟨r_, h6, c7, hf⟩ := y_clE hf
      refine y_callV (As := [.int 2]) (rm := rm_X9_mark) (cells := 0) (slots := 0) (pc2 := 45) rfl dX2_bears_42 n_X9_mark l_BoxYard_Box_65 i_X9_mark e_X9_mark (ci := 9) rfl rfl (by decide) g12 rfl rfl (by decide) (by decide) (by decide) (k_X9_mark c7) ?_
      refine y_aload_n (x := p0) (pc2 := 46) rfl dX2_bears_45 rfl ?_
      refine y_aload_n (x := p1) (pc2 := 47) rfl dX2_bears_46 rfl ?_
      obtain ⟨g11, hf⟩ := y_g hf
      obtain ⟨r8, h9, c10, hf⟩ := y_clE hf
      refine y_callV (As := [y_p p1]) (rm := rm_X2_plainBears) (cells := 0) (slots := 0) (pc2 := 50) rfl dX2_bears_47 n_X2_plainBears l_BoxYard_Box_71 i_X2_plainBears e_X2_plainBears (ci := 2) rfl rfl (by decide) g11 rfl rfl (by decide) (by decide) (by decide) (k_X2_plainBears c10) ?_
      refine y_sipush (v := 300) (pc2 := 53) rfl dX2_bears_50 (by decide) ?_
      refine y_isub (pc2 := 54) rfl dX2_bears_53 ?_
      exact y_iretF hf dX2_bears_54 rfl (by decide) (by decide)
    · replace hf := y_ie c5 hf
      by_cases c13 : (y_I h p0 1) = 2
      · replace hf := y_it c13 hf
        refine y_table (off := 51) (tgt := 55) dX2_bears_4 (by (rw [c13]) <;> decide) (by decide) ?_
        refine y_aload_n (x := p1) (pc2 := 56) rfl dX2_bears_55 rfl ?_
        refine y_iconst (v := 3) (pc2 := 57) rfl dX2_bears_56 (by decide) ?_
        obtain ⟨g20, hf⟩ := y_g hf
        obtain ⟨r_, h14, c15, hf⟩ := y_clE hf
        refine y_callV (As := [.int 3]) (rm := rm_X9_mark) (cells := 0) (slots := 0) (pc2 := 60) rfl dX2_bears_57 n_X9_mark l_BoxYard_Box_65 i_X9_mark e_X9_mark (ci := 9) rfl rfl (by decide) g20 rfl rfl (by decide) (by decide) (by decide) (k_X9_mark c15) ?_
        refine y_aload_n (x := p0) (pc2 := 61) rfl dX2_bears_60 rfl ?_
        refine y_aload_n (x := p1) (pc2 := 62) rfl dX2_bears_61 rfl ?_
        obtain ⟨g19, hf⟩ := y_g hf
        obtain ⟨r16, h17, c18, hf⟩ := y_clE hf
        refine y_callV (As := [y_p p1]) (rm := rm_X2_plainBears) (cells := 0) (slots := 0) (pc2 := 65) rfl dX2_bears_62 n_X2_plainBears l_BoxYard_Box_71 i_X2_plainBears e_X2_plainBears (ci := 2) rfl rfl (by decide) g19 rfl rfl (by decide) (by decide) (by decide) (k_X2_plainBears c18) ?_
        refine y_iconst (v := 4) (pc2 := 66) rfl dX2_bears_65 (by decide) ?_
        refine y_idiv (pc2 := 67) rfl dX2_bears_66 (by decide) ?_
        exact y_iretF hf dX2_bears_67 rfl (by decide) (by decide)
      · replace hf := y_ie c13 hf
        by_cases c21 : (y_I h p0 1) = 3
        · replace hf := y_it c21 hf
          refine y_table (off := 64) (tgt := 68) dX2_bears_4 (by (rw [c21]) <;> decide) (by decide) ?_
          exact y_pk [1] rfl (hj68 _ _ hf)
        · replace hf := y_ie c21 hf
          by_cases c22 : (y_I h p0 1) = 4
          · replace hf := y_it c22 hf
            refine y_table (off := 64) (tgt := 68) dX2_bears_4 (by (rw [c22]) <;> decide) (by decide) ?_
            exact y_pk [1] rfl (hj68 _ _ hf)
          · replace hf := y_ie c22 hf
            by_cases c23 : (y_I h p0 1) = 5
            · replace hf := y_it c23 hf
              refine y_table (off := 71) (tgt := 75) dX2_bears_4 (by (rw [c23]) <;> decide) (by decide) ?_
              refine y_aload_n (x := p1) (pc2 := 76) rfl dX2_bears_75 rfl ?_
              refine y_bipush (v := 6) (pc2 := 78) rfl dX2_bears_76 (by decide) ?_
              obtain ⟨g30, hf⟩ := y_g hf
              obtain ⟨r_, h24, c25, hf⟩ := y_clE hf
              refine y_callV (As := [.int 6]) (rm := rm_X9_mark) (cells := 0) (slots := 0) (pc2 := 81) rfl dX2_bears_78 n_X9_mark l_BoxYard_Box_65 i_X9_mark e_X9_mark (ci := 9) rfl rfl (by decide) g30 rfl rfl (by decide) (by decide) (by decide) (k_X9_mark c25) ?_
              refine y_aload_n (x := p0) (pc2 := 82) rfl dX2_bears_81 rfl ?_
              refine y_aload_n (x := p1) (pc2 := 83) rfl dX2_bears_82 rfl ?_
              obtain ⟨g29, hf⟩ := y_g hf
              obtain ⟨r26, h27, c28, hf⟩ := y_clE hf
              refine y_callV (As := [y_p p1]) (rm := rm_X2_plainBears) (cells := 0) (slots := 0) (pc2 := 86) rfl dX2_bears_83 n_X2_plainBears l_BoxYard_Box_71 i_X2_plainBears e_X2_plainBears (ci := 2) rfl rfl (by decide) g29 rfl rfl (by decide) (by decide) (by decide) (k_X2_plainBears c28) ?_
              refine y_iconst (v := 3) (pc2 := 87) rfl dX2_bears_86 (by decide) ?_
              refine y_idiv (pc2 := 88) rfl dX2_bears_87 (by decide) ?_
              exact y_iretF hf dX2_bears_88 rfl (by decide) (by decide)
            · replace hf := y_ie c23 hf
              refine y_table (off := 85) (tgt := 89) dX2_bears_4 ((if_pos (by have q0 := lv_neT c5 (a := 1) (by decide); have q1 := lv_neT c13 (a := 2) (by decide); have q2 := lv_neT c21 (a := 3) (by decide); have q3 := lv_neT c22 (a := 4) (by decide); have q4 := lv_neT c23 (a := 5) (by decide); omega))) (by decide) ?_
              refine y_aload_n (x := p0) (pc2 := 90) rfl dX2_bears_89 rfl ?_
              refine y_aload_n (x := p1) (pc2 := 91) rfl dX2_bears_90 rfl ?_
              obtain ⟨g34, hf⟩ := y_g hf
              obtain ⟨r31, h32, c33, hf⟩ := y_clE hf
              refine y_callV (As := [y_p p1]) (rm := rm_X2_plainBears) (cells := 0) (slots := 0) (pc2 := 94) rfl dX2_bears_91 n_X2_plainBears l_BoxYard_Box_71 i_X2_plainBears e_X2_plainBears (ci := 2) rfl rfl (by decide) g34 rfl rfl (by decide) (by decide) (by decide) (k_X2_plainBears c33) ?_
              exact y_iretF hf dX2_bears_94 rfl (by decide) (by decide)
theorem dX1_isTooHeavy_0 : decode cX1_isTooHeavy 0 = .ok (.aload_n 1, 1) := by decide +kernel
theorem dX1_isTooHeavy_1 : decode cX1_isTooHeavy 1 = .ok (.invokevirtual 58, 3) := by decide +kernel
theorem dX1_isTooHeavy_4 : decode cX1_isTooHeavy 4 = .ok (.aload_n 0, 1) := by decide +kernel
theorem dX1_isTooHeavy_5 : decode cX1_isTooHeavy 5 = .ok (.iload_n 2, 1) := by decide +kernel
theorem dX1_isTooHeavy_6 : decode cX1_isTooHeavy 6 = .ok (.invokevirtual 69, 3) := by decide +kernel
theorem dX1_isTooHeavy_9 : decode cX1_isTooHeavy 9 = .ok (.iadd, 1) := by decide +kernel
theorem dX1_isTooHeavy_10 : decode cX1_isTooHeavy 10 = .ok (.istore 4, 2) := by decide +kernel
theorem dX1_isTooHeavy_12 : decode cX1_isTooHeavy 12 = .ok (.iconst 0, 1) := by decide +kernel
theorem dX1_isTooHeavy_13 : decode cX1_isTooHeavy 13 = .ok (.istore 5, 2) := by decide +kernel
theorem dX1_isTooHeavy_15 : decode cX1_isTooHeavy 15 = .ok (.iload 5, 2) := by decide +kernel
theorem dX1_isTooHeavy_17 : decode cX1_isTooHeavy 17 = .ok (.iconst 5, 1) := by decide +kernel
theorem dX1_isTooHeavy_18 : decode cX1_isTooHeavy 18 = .ok (.if_icmp .ge 48, 3) := by decide +kernel
theorem dX1_isTooHeavy_21 : decode cX1_isTooHeavy 21 = .ok (.aload_n 0, 1) := by decide +kernel
theorem dX1_isTooHeavy_22 : decode cX1_isTooHeavy 22 = .ok (.iload_n 2, 1) := by decide +kernel
theorem dX1_isTooHeavy_23 : decode cX1_isTooHeavy 23 = .ok (.iload 5, 2) := by decide +kernel
theorem dX1_isTooHeavy_25 : decode cX1_isTooHeavy 25 = .ok (.invokevirtual 54, 3) := by decide +kernel
theorem dX1_isTooHeavy_28 : decode cX1_isTooHeavy 28 = .ok (.astore 6, 2) := by decide +kernel
theorem dX1_isTooHeavy_30 : decode cX1_isTooHeavy 30 = .ok (.aload 6, 2) := by decide +kernel
theorem dX1_isTooHeavy_32 : decode cX1_isTooHeavy 32 = .ok (.ifnonnull 5, 3) := by decide +kernel
theorem dX1_isTooHeavy_35 : decode cX1_isTooHeavy 35 = .ok (.iconst 0, 1) := by decide +kernel
theorem dX1_isTooHeavy_36 : decode cX1_isTooHeavy 36 = .ok (.ireturn, 1) := by decide +kernel
theorem dX1_isTooHeavy_37 : decode cX1_isTooHeavy 37 = .ok (.iload 4, 2) := by decide +kernel
theorem dX1_isTooHeavy_39 : decode cX1_isTooHeavy 39 = .ok (.aload 6, 2) := by decide +kernel
theorem dX1_isTooHeavy_41 : decode cX1_isTooHeavy 41 = .ok (.invokevirtual 58, 3) := by decide +kernel
theorem dX1_isTooHeavy_44 : decode cX1_isTooHeavy 44 = .ok (.isub, 1) := by decide +kernel
theorem dX1_isTooHeavy_45 : decode cX1_isTooHeavy 45 = .ok (.istore 4, 2) := by decide +kernel
theorem dX1_isTooHeavy_47 : decode cX1_isTooHeavy 47 = .ok (.iload 4, 2) := by decide +kernel
theorem dX1_isTooHeavy_49 : decode cX1_isTooHeavy 49 = .ok (.aload 6, 2) := by decide +kernel
theorem dX1_isTooHeavy_51 : decode cX1_isTooHeavy 51 = .ok (.aload_n 3, 1) := by decide +kernel
theorem dX1_isTooHeavy_52 : decode cX1_isTooHeavy 52 = .ok (.invokevirtual 73, 3) := by decide +kernel
theorem dX1_isTooHeavy_55 : decode cX1_isTooHeavy 55 = .ok (.if_icmp .le 5, 3) := by decide +kernel
theorem dX1_isTooHeavy_58 : decode cX1_isTooHeavy 58 = .ok (.iconst 1, 1) := by decide +kernel
theorem dX1_isTooHeavy_59 : decode cX1_isTooHeavy 59 = .ok (.ireturn, 1) := by decide +kernel
theorem dX1_isTooHeavy_60 : decode cX1_isTooHeavy 60 = .ok (.iinc 5 1, 3) := by decide +kernel
theorem dX1_isTooHeavy_63 : decode cX1_isTooHeavy 63 = .ok (.goto (-48), 3) := by decide +kernel
theorem dX1_isTooHeavy_66 : decode cX1_isTooHeavy 66 = .ok (.iconst 0, 1) := by decide +kernel
theorem dX1_isTooHeavy_67 : decode cX1_isTooHeavy 67 = .ok (.ireturn, 1) := by decide +kernel
def M_X1_isTooHeavy : y_M := (yX1_isTooHeavy, cX1_isTooHeavy, 7, (Option.some Jvm.ClassFile.FieldType.boolean))
theorem n_X1_isTooHeavy : y_N0 M_X1_isTooHeavy 3 := ⟨(c_4 84 (by decide +kernel) rfl), (c_1 11 (by decide +kernel) rfl), ⟨by decide +kernel, by decide +kernel⟩, by decide +kernel⟩
theorem l_BoxYard_Bay_69 : y_lnk "BoxYard$Bay" 69 M_X1_weightOf := Or.inl (c_4 85 (by decide +kernel) rfl)
theorem i_X1_weightOf : Cond.instanceMethod (M_X1_weightOf).1 ∈ y_tb := (c_4 87 (by decide +kernel) rfl)
theorem e_X1_weightOf : Cond.selects (M_X1_weightOf).1.cls (M_X1_weightOf).1 (M_X1_weightOf).1 ∈ y_tb := (m_s 16 (by decide +kernel) rfl)
theorem l_BoxYard_Bay_73 : y_lnk "BoxYard$Bay" 73 M_X2_bears := Or.inl (c_4 89 (by decide +kernel) rfl)
theorem i_X2_bears : Cond.instanceMethod (M_X2_bears).1 ∈ y_tb := (c_2 220 (by decide +kernel) rfl)
theorem e_X2_bears : Cond.selects (M_X2_bears).1.cls (M_X2_bears).1 (M_X2_bears).1 ∈ y_tb := (c_2 221 (by decide +kernel) rfl)
set_option maxRecDepth 100000 in
def f_X1_isTooHeavy (p0 : Nat) (p1 : Nat) (p2 : Int32) (p3 : Nat) (h : y_H) : Option (Bool × y_H) :=
  if y_K h p1 = 3 then
  y_cl (f_X2_known p1 h) (fun r1 h2 =>
  if y_K h2 p0 = 2 then
  y_cl (f_X1_weightOf p0 p2 h2) (fun r4 h5 =>
  y_jl (fun (_ : Nat) (_ : Int32) (_ : Nat) (_ : Int32) (_ : Int32) (_ : y_H) => (none : Option (Bool × y_H))) (fun j15 (v0_15 : Nat) (v2_15 : Int32) (v3_15 : Nat) (v4_15 : Int32) (v5_15 : Int32) (h7 : y_H) =>
      if 5 ≤ v5_15 then
        some (false, h7)
      else
        if y_K h7 v0_15 = 2 then
        y_cl (f_X1_boxIn v0_15 v2_15 v5_15 h7) (fun r8 h9 =>
        if r8 = 0 then
          some (false, h9)
        else
          if y_K h9 r8 = 3 then
          y_cl (f_X2_known r8 h9) (fun r11 h12 =>
          if y_K h12 r8 = 3 then
          y_cl (f_X2_bears r8 v3_15 h12) (fun r14 h15 =>
          if (v4_15 - r11) ≤ r14 then
            j15 v0_15 v2_15 v3_15 (v4_15 - r11) (v5_15 + 1) h15
          else
            some (true, h15))
          else none)
          else none)
        else none) (fun j15 =>
  j15 p0 p2 p3 (r1 + r4) 0 h5))
  else none)
  else none
abbrev rm_X1_isTooHeavy : Room := { frames := 3, cells := 0, slots := 0, locals := 68 }
set_option maxRecDepth 100000 in
set_option maxHeartbeats 4000000 in
theorem k_X1_isTooHeavy {l : Launch} {G : y_G} {p0 : Nat} {p1 : Nat} {p2 : Int32} {p3 : Nat} {h hz : y_H} {rz : Bool} (hf : f_X1_isTooHeavy p0 p1 p2 p3 h = some (rz, hz)) : y_S l G M_X1_isTooHeavy rm_X1_isTooHeavy [y_p p0, y_p p1, .int p2, y_p p3] h (some (.int (y_z rz))) hz := by
  refine y_start (lv := [(0, y_p p0), (1, y_p p1), (2, .int p2), (3, y_p p3)]) (by decide) (by simp [lg_sl, y_p_cat, y_ci, y_cj, M_X1_isTooHeavy]) (by simp [lv_args, y_p_cat, y_ci, y_cj]) (fun z ad0 => ?_)
  unfold f_X1_isTooHeavy at hf
  refine y_aload_n (x := p1) (pc2 := 1) rfl dX1_isTooHeavy_0 rfl ?_
  obtain ⟨g24, hf⟩ := y_g hf
  obtain ⟨r1, h2, c3, hf⟩ := y_clE hf
  refine y_callV (As := []) (rm := rm_X2_known) (cells := 0) (slots := 0) (pc2 := 4) rfl dX1_isTooHeavy_1 n_X2_known l_BoxYard_Bay_58 i_X2_known e_X2_known (ci := 2) rfl rfl (by decide) g24 rfl rfl (by decide) (by decide) (by decide) (k_X2_known c3) ?_
  refine y_aload_n (x := p0) (pc2 := 5) rfl dX1_isTooHeavy_4 rfl ?_
  refine y_iload_n (pc2 := 6) rfl dX1_isTooHeavy_5 rfl ?_
  obtain ⟨g23, hf⟩ := y_g hf
  obtain ⟨r4, h5, c6, hf⟩ := y_clE hf
  refine y_callV (As := [.int p2]) (rm := rm_X1_weightOf) (cells := 0) (slots := 0) (pc2 := 9) rfl dX1_isTooHeavy_6 n_X1_weightOf l_BoxYard_Bay_69 i_X1_weightOf e_X1_weightOf (ci := 1) rfl rfl (by decide) g23 rfl rfl (by decide) (by simp [y_ci, y_cj, y_p_cat]) (by decide) (k_X1_weightOf c6) ?_
  refine y_iadd (pc2 := 10) rfl dX1_isTooHeavy_9 ?_
  refine y_istore (lv' := [(4, .int (r1 + r4)), (0, y_p p0), (1, y_p p1), (2, .int p2), (3, y_p p3)]) (pc2 := 12) rfl dX1_isTooHeavy_10 (by decide) (by show y_st1 _ 4 _ = _; simp [y_st1, y_p_cat, y_ci, y_cj]) ?_
  refine y_iconst (v := 0) (pc2 := 13) rfl dX1_isTooHeavy_12 (by decide) ?_
  refine y_jlE hf (fun j => ∀ (v0_15 : Nat) (v2_15 : Int32) (v3_15 : Nat) (v4_15 : Int32) (v5_15 : Int32) (h7 : y_H), j v0_15 v2_15 v3_15 v4_15 v5_15 h7 = some (rz, hz) → y_V l G z rm_X1_isTooHeavy M_X1_isTooHeavy ad0 h (some (.int (y_z rz))) hz 15 [(0, y_p v0_15), (2, .int v2_15), (3, y_p v3_15), (4, .int v4_15), (5, .int v5_15)] [] h7 0 0) (fun _ _ _ _ _ _ hf => by cases hf) (fun j15 hj15 v0_15 v2_15 v3_15 v4_15 v5_15 h7 hf => ?_) (fun j15 hj15 hf => ?_)
  · refine y_iload (pc2 := 17) rfl dX1_isTooHeavy_15 rfl ?_
    refine y_iconst (v := 5) (pc2 := 18) rfl dX1_isTooHeavy_17 (by decide) ?_
    refine y_icmp_ge (tgt := 66) (pc2 := 21) rfl dX1_isTooHeavy_18 (by decide) (fun c22 => ?_) (fun c22 => ?_)
    · replace hf := y_it c22 hf
      refine y_iconst (v := 0) (pc2 := 67) rfl dX1_isTooHeavy_66 (by decide) ?_
      exact y_zretF (x := false) hf dX1_isTooHeavy_67 rfl (by decide) (by decide)
    · replace hf := y_ie c22 hf
      refine y_aload_n (x := v0_15) (pc2 := 22) rfl dX1_isTooHeavy_21 rfl ?_
      refine y_iload_n (pc2 := 23) rfl dX1_isTooHeavy_22 rfl ?_
      refine y_iload (pc2 := 25) rfl dX1_isTooHeavy_23 rfl ?_
      obtain ⟨g21, hf⟩ := y_g hf
      obtain ⟨r8, h9, c10, hf⟩ := y_clE hf
      refine y_callV (As := [.int v2_15, .int v5_15]) (rm := rm_X1_boxIn) (cells := 0) (slots := 0) (pc2 := 28) rfl dX1_isTooHeavy_25 n_X1_boxIn l_BoxYard_Bay_54 i_X1_boxIn e_X1_boxIn (ci := 1) rfl rfl (by decide) g21 rfl rfl (by decide) (by decide) (by decide) (k_X1_boxIn c10) ?_
      refine y_astore (lv' := [(6, y_p r8), (0, y_p v0_15), (2, .int v2_15), (3, y_p v3_15), (4, .int v4_15), (5, .int v5_15)]) (pc2 := 30) rfl dX1_isTooHeavy_28 (by decide) rfl ?_
      refine y_aload (x := r8) (pc2 := 32) rfl dX1_isTooHeavy_30 rfl ?_
      refine y_ifnonnull (tgt := 37) (pc2 := 35) rfl dX1_isTooHeavy_32 (by decide) (fun c20 => ?_) (fun c20 => ?_)
      · replace hf := y_ie c20 hf
        refine y_iload (pc2 := 39) rfl dX1_isTooHeavy_37 rfl ?_
        refine y_aload (x := r8) (pc2 := 41) rfl dX1_isTooHeavy_39 rfl ?_
        obtain ⟨g19, hf⟩ := y_g hf
        obtain ⟨r11, h12, c13, hf⟩ := y_clE hf
        refine y_callV (As := []) (rm := rm_X2_known) (cells := 0) (slots := 0) (pc2 := 44) rfl dX1_isTooHeavy_41 n_X2_known l_BoxYard_Bay_58 i_X2_known e_X2_known (ci := 2) rfl rfl (by decide) g19 rfl rfl (by decide) (by simp [y_ci, y_cj, y_p_cat]) (by decide) (k_X2_known c13) ?_
        refine y_isub (pc2 := 45) rfl dX1_isTooHeavy_44 ?_
        refine y_istore (lv' := [(4, .int (v4_15 - r11)), (6, y_p r8), (0, y_p v0_15), (2, .int v2_15), (3, y_p v3_15), (5, .int v5_15)]) (pc2 := 47) rfl dX1_isTooHeavy_45 (by decide) (by show y_st1 _ 4 _ = _; simp [y_st1, y_p_cat, y_ci, y_cj]) ?_
        refine y_iload (pc2 := 49) rfl dX1_isTooHeavy_47 rfl ?_
        refine y_aload (x := r8) (pc2 := 51) rfl dX1_isTooHeavy_49 rfl ?_
        refine y_aload_n (x := v3_15) (pc2 := 52) rfl dX1_isTooHeavy_51 rfl ?_
        obtain ⟨g18, hf⟩ := y_g hf
        obtain ⟨r14, h15, c16, hf⟩ := y_clE hf
        refine y_callV (As := [y_p v3_15]) (rm := rm_X2_bears) (cells := 0) (slots := 0) (pc2 := 55) rfl dX1_isTooHeavy_52 n_X2_bears l_BoxYard_Bay_73 i_X2_bears e_X2_bears (ci := 2) rfl rfl (by decide) g18 rfl rfl (by decide) (by simp [y_ci, y_cj, y_p_cat]) (by decide) (k_X2_bears c16) ?_
        refine y_icmp_le (tgt := 60) (pc2 := 58) rfl dX1_isTooHeavy_55 (by decide) (fun c17 => ?_) (fun c17 => ?_)
        · replace hf := y_it c17 hf
          refine y_iinc (v := v5_15 + 1) (lv' := [(5, .int (v5_15 + 1)), (4, .int (v4_15 - r11)), (6, y_p r8), (0, y_p v0_15), (2, .int v2_15), (3, y_p v3_15)]) (pc2 := 63) rfl dX1_isTooHeavy_60 rfl rfl (by decide) rfl ?_
          refine y_goto (tgt := 15) dX1_isTooHeavy_63 (by decide) ?_
          exact y_pk [3, 4, 5, 1, 0] rfl (hj15 _ _ _ _ _ _ hf)
        · replace hf := y_ie c17 hf
          refine y_iconst (v := 1) (pc2 := 59) rfl dX1_isTooHeavy_58 (by decide) ?_
          exact y_zretF (x := true) hf dX1_isTooHeavy_59 rfl (by decide) (by decide)
      · replace hf := y_it c20 hf
        refine y_iconst (v := 0) (pc2 := 36) rfl dX1_isTooHeavy_35 (by decide) ?_
        exact y_zretF (x := false) hf dX1_isTooHeavy_36 rfl (by decide) (by decide)
  · refine y_istore (lv' := [(5, .int 0), (4, .int (r1 + r4)), (0, y_p p0), (1, y_p p1), (2, .int p2), (3, y_p p3)]) (pc2 := 15) rfl dX1_isTooHeavy_13 (by decide) rfl ?_
    exact y_pk [2, 4, 5, 1, 0] rfl (hj15 _ _ _ _ _ _ hf)
theorem dX2_boxTall_0 : decode cX2_boxTall 0 = .ok (.aload_n 1, 1) := by decide +kernel
theorem dX2_boxTall_1 : decode cX2_boxTall 1 = .ok (.bipush 10, 2) := by decide +kernel
theorem dX2_boxTall_3 : decode cX2_boxTall 3 = .ok (.invokevirtual 65, 3) := by decide +kernel
theorem dX2_boxTall_6 : decode cX2_boxTall 6 = .ok (.aload_n 1, 1) := by decide +kernel
theorem dX2_boxTall_7 : decode cX2_boxTall 7 = .ok (.bipush 17, 2) := by decide +kernel
theorem dX2_boxTall_9 : decode cX2_boxTall 9 = .ok (.invokevirtual 65, 3) := by decide +kernel
theorem dX2_boxTall_12 : decode cX2_boxTall 12 = .ok (.iconst 2, 1) := by decide +kernel
theorem dX2_boxTall_13 : decode cX2_boxTall 13 = .ok (.ireturn, 1) := by decide +kernel
def M_X2_boxTall : y_M := (yX2_boxTall, cX2_boxTall, 2, (Option.some Jvm.ClassFile.FieldType.int))
theorem n_X2_boxTall : y_N0 M_X2_boxTall 1 := ⟨(c_2 238 (by decide +kernel) rfl), (c_1 10 (by decide +kernel) rfl), ⟨by decide +kernel, by decide +kernel⟩, by decide +kernel⟩
set_option maxRecDepth 100000 in
def f_X2_boxTall (p0 : Nat) (p1 : Nat) (h : y_H) : Option (Int32 × y_H) :=
  if y_K h p1 = 10 then
  y_cl (f_X9_mark p1 10 h) (fun _ h1 =>
  if y_K h1 p1 = 10 then
  y_cl (f_X9_mark p1 17 h1) (fun _ h3 =>
  some (2, h3))
  else none)
  else none
abbrev rm_X2_boxTall : Room := { frames := 1, cells := 0, slots := 0, locals := 21 }
set_option maxRecDepth 100000 in
set_option maxHeartbeats 4000000 in
theorem k_X2_boxTall {l : Launch} {G : y_G} {p0 : Nat} {p1 : Nat} {h hz : y_H} {rz : Int32} (hf : f_X2_boxTall p0 p1 h = some (rz, hz)) : y_S l G M_X2_boxTall rm_X2_boxTall [y_p p0, y_p p1] h (some (.int rz)) hz := by
  refine y_start (lv := [(0, y_p p0), (1, y_p p1)]) (by decide) (by simp [lg_sl, y_p_cat, y_ci, y_cj, M_X2_boxTall]) (by simp [lv_args, y_p_cat, y_ci, y_cj]) (fun z ad0 => ?_)
  unfold f_X2_boxTall at hf
  refine y_aload_n (x := p1) (pc2 := 1) rfl dX2_boxTall_0 rfl ?_
  refine y_bipush (v := 10) (pc2 := 3) rfl dX2_boxTall_1 (by decide) ?_
  obtain ⟨g6, hf⟩ := y_g hf
  obtain ⟨r_, h1, c2, hf⟩ := y_clE hf
  refine y_callV (As := [.int 10]) (rm := rm_X9_mark) (cells := 0) (slots := 0) (pc2 := 6) rfl dX2_boxTall_3 n_X9_mark l_BoxYard_Box_65 i_X9_mark e_X9_mark (ci := 9) rfl rfl (by decide) g6 rfl rfl (by decide) (by decide) (by decide) (k_X9_mark c2) ?_
  refine y_aload_n (x := p1) (pc2 := 7) rfl dX2_boxTall_6 rfl ?_
  refine y_bipush (v := 17) (pc2 := 9) rfl dX2_boxTall_7 (by decide) ?_
  obtain ⟨g5, hf⟩ := y_g hf
  obtain ⟨r_, h3, c4, hf⟩ := y_clE hf
  refine y_callV (As := [.int 17]) (rm := rm_X9_mark) (cells := 0) (slots := 0) (pc2 := 12) rfl dX2_boxTall_9 n_X9_mark l_BoxYard_Box_65 i_X9_mark e_X9_mark (ci := 9) rfl rfl (by decide) g5 rfl rfl (by decide) (by decide) (by decide) (k_X9_mark c4) ?_
  refine y_iconst (v := 2) (pc2 := 13) rfl dX2_boxTall_12 (by decide) ?_
  exact y_iretF hf dX2_boxTall_13 rfl (by decide) (by decide)
theorem dX2_tall_0 : decode cX2_tall 0 = .ok (.aload_n 0, 1) := by decide +kernel
theorem dX2_tall_1 : decode cX2_tall 1 = .ok (.getfield 15, 3) := by decide +kernel
theorem dX2_tall_4 : decode cX2_tall 4 = .ok (.lookupswitch 50 #[(4, 28), (5, 42)], 28) := by decide +kernel
theorem dX2_tall_32 : decode cX2_tall 32 = .ok (.aload_n 1, 1) := by decide +kernel
theorem dX2_tall_33 : decode cX2_tall 33 = .ok (.bipush 15, 2) := by decide +kernel
theorem dX2_tall_35 : decode cX2_tall 35 = .ok (.invokevirtual 65, 3) := by decide +kernel
theorem dX2_tall_38 : decode cX2_tall 38 = .ok (.aload_n 0, 1) := by decide +kernel
theorem dX2_tall_39 : decode cX2_tall 39 = .ok (.aload_n 1, 1) := by decide +kernel
theorem dX2_tall_40 : decode cX2_tall 40 = .ok (.invokevirtual 75, 3) := by decide +kernel
theorem dX2_tall_43 : decode cX2_tall 43 = .ok (.iconst 1, 1) := by decide +kernel
theorem dX2_tall_44 : decode cX2_tall 44 = .ok (.iadd, 1) := by decide +kernel
theorem dX2_tall_45 : decode cX2_tall 45 = .ok (.ireturn, 1) := by decide +kernel
theorem dX2_tall_46 : decode cX2_tall 46 = .ok (.aload_n 1, 1) := by decide +kernel
theorem dX2_tall_47 : decode cX2_tall 47 = .ok (.bipush 16, 2) := by decide +kernel
theorem dX2_tall_49 : decode cX2_tall 49 = .ok (.invokevirtual 65, 3) := by decide +kernel
theorem dX2_tall_52 : decode cX2_tall 52 = .ok (.iconst 1, 1) := by decide +kernel
theorem dX2_tall_53 : decode cX2_tall 53 = .ok (.ireturn, 1) := by decide +kernel
theorem dX2_tall_54 : decode cX2_tall 54 = .ok (.aload_n 0, 1) := by decide +kernel
theorem dX2_tall_55 : decode cX2_tall 55 = .ok (.aload_n 1, 1) := by decide +kernel
theorem dX2_tall_56 : decode cX2_tall 56 = .ok (.invokevirtual 75, 3) := by decide +kernel
theorem dX2_tall_59 : decode cX2_tall 59 = .ok (.ireturn, 1) := by decide +kernel
def M_X2_tall : y_M := (yX2_tall, cX2_tall, 2, (Option.some Jvm.ClassFile.FieldType.int))
theorem n_X2_tall : y_N0 M_X2_tall 1 := ⟨(c_2 234 (by decide +kernel) rfl), (c_1 10 (by decide +kernel) rfl), ⟨by decide +kernel, by decide +kernel⟩, by decide +kernel⟩
theorem l_BoxYard_Box_75 : y_lnk "BoxYard$Box" 75 M_X2_boxTall := Or.inl (c_2 235 (by decide +kernel) rfl)
theorem i_X2_boxTall : Cond.instanceMethod (M_X2_boxTall).1 ∈ y_tb := (c_2 237 (by decide +kernel) rfl)
theorem e_X2_boxTall : Cond.selects (M_X2_boxTall).1.cls (M_X2_boxTall).1 (M_X2_boxTall).1 ∈ y_tb := (m_s 2 (by decide +kernel) rfl)
set_option maxRecDepth 100000 in
def f_X2_tall (p0 : Nat) (p1 : Nat) (h : y_H) : Option (Int32 × y_H) :=
  if y_K h p0 = 3 then
  if (y_I h p0 1) = 4 then
    if y_K h p1 = 10 then
    y_cl (f_X9_mark p1 15 h) (fun _ h2 =>
    if y_K h2 p0 = 3 then
    y_cl (f_X2_boxTall p0 p1 h2) (fun r4 h5 =>
    some (r4 + 1, h5))
    else none)
    else none
  else
  if (y_I h p0 1) = 5 then
    if y_K h p1 = 10 then
    y_cl (f_X9_mark p1 16 h) (fun _ h10 =>
    some (1, h10))
    else none
  else
  if y_K h p0 = 3 then
  y_cl (f_X2_boxTall p0 p1 h) (fun r13 h14 =>
  some (r13, h14))
  else none
  else none
abbrev rm_X2_tall : Room := { frames := 2, cells := 0, slots := 0, locals := 42 }
set_option maxRecDepth 100000 in
set_option maxHeartbeats 4000000 in
theorem k_X2_tall {l : Launch} {G : y_G} {p0 : Nat} {p1 : Nat} {h hz : y_H} {rz : Int32} (hf : f_X2_tall p0 p1 h = some (rz, hz)) : y_S l G M_X2_tall rm_X2_tall [y_p p0, y_p p1] h (some (.int rz)) hz := by
  refine y_start (lv := [(0, y_p p0), (1, y_p p1)]) (by decide) (by simp [lg_sl, y_p_cat, y_ci, y_cj, M_X2_tall]) (by simp [lv_args, y_p_cat, y_ci, y_cj]) (fun z ad0 => ?_)
  unfold f_X2_tall at hf
  refine y_aload_n (x := p0) (pc2 := 1) rfl dX2_tall_0 rfl ?_
  obtain ⟨g17, hf⟩ := y_g hf
  refine y_getI (pc2 := 4) rfl dX2_tall_1 F_BoxYard_Box_15 (by decide) rfl g17 ?_
  by_cases c1 : (y_I h p0 1) = 4
  · replace hf := y_it c1 hf
    refine y_lookup (off := 28) (tgt := 32) dX2_tall_4 (by decide) (by (rw [c1]) <;> decide) (by decide) ?_
    refine y_aload_n (x := p1) (pc2 := 33) rfl dX2_tall_32 rfl ?_
    refine y_bipush (v := 15) (pc2 := 35) rfl dX2_tall_33 (by decide) ?_
    obtain ⟨g8, hf⟩ := y_g hf
    obtain ⟨r_, h2, c3, hf⟩ := y_clE hf
    refine y_callV (As := [.int 15]) (rm := rm_X9_mark) (cells := 0) (slots := 0) (pc2 := 38) rfl dX2_tall_35 n_X9_mark l_BoxYard_Box_65 i_X9_mark e_X9_mark (ci := 9) rfl rfl (by decide) g8 rfl rfl (by decide) (by decide) (by decide) (k_X9_mark c3) ?_
    refine y_aload_n (x := p0) (pc2 := 39) rfl dX2_tall_38 rfl ?_
    refine y_aload_n (x := p1) (pc2 := 40) rfl dX2_tall_39 rfl ?_
    obtain ⟨g7, hf⟩ := y_g hf
    obtain ⟨r4, h5, c6, hf⟩ := y_clE hf
    refine y_callV (As := [y_p p1]) (rm := rm_X2_boxTall) (cells := 0) (slots := 0) (pc2 := 43) rfl dX2_tall_40 n_X2_boxTall l_BoxYard_Box_75 i_X2_boxTall e_X2_boxTall (ci := 2) rfl rfl (by decide) g7 rfl rfl (by decide) (by decide) (by decide) (k_X2_boxTall c6) ?_
    refine y_iconst (v := 1) (pc2 := 44) rfl dX2_tall_43 (by decide) ?_
    refine y_iadd (pc2 := 45) rfl dX2_tall_44 ?_
    exact y_iretF hf dX2_tall_45 rfl (by decide) (by decide)
  · replace hf := y_ie c1 hf
    by_cases c9 : (y_I h p0 1) = 5
    · replace hf := y_it c9 hf
      refine y_lookup (off := 42) (tgt := 46) dX2_tall_4 (by decide) (by (rw [c9]) <;> decide) (by decide) ?_
      refine y_aload_n (x := p1) (pc2 := 47) rfl dX2_tall_46 rfl ?_
      refine y_bipush (v := 16) (pc2 := 49) rfl dX2_tall_47 (by decide) ?_
      obtain ⟨g12, hf⟩ := y_g hf
      obtain ⟨r_, h10, c11, hf⟩ := y_clE hf
      refine y_callV (As := [.int 16]) (rm := rm_X9_mark) (cells := 0) (slots := 0) (pc2 := 52) rfl dX2_tall_49 n_X9_mark l_BoxYard_Box_65 i_X9_mark e_X9_mark (ci := 9) rfl rfl (by decide) g12 rfl rfl (by decide) (by decide) (by decide) (k_X9_mark c11) ?_
      refine y_iconst (v := 1) (pc2 := 53) rfl dX2_tall_52 (by decide) ?_
      exact y_iretF hf dX2_tall_53 rfl (by decide) (by decide)
    · replace hf := y_ie c9 hf
      refine y_lookup (off := 50) (tgt := 54) dX2_tall_4 (by decide) (by (show Op.lookupswitch.offset [(4, 28), (5, 42)] _ _ = _); rw [lv_osw (a := 4) c1 (by decide), lv_osw (a := 5) c9 (by decide)] <;> rfl) (by decide) ?_
      refine y_aload_n (x := p0) (pc2 := 55) rfl dX2_tall_54 rfl ?_
      refine y_aload_n (x := p1) (pc2 := 56) rfl dX2_tall_55 rfl ?_
      obtain ⟨g16, hf⟩ := y_g hf
      obtain ⟨r13, h14, c15, hf⟩ := y_clE hf
      refine y_callV (As := [y_p p1]) (rm := rm_X2_boxTall) (cells := 0) (slots := 0) (pc2 := 59) rfl dX2_tall_56 n_X2_boxTall l_BoxYard_Box_75 i_X2_boxTall e_X2_boxTall (ci := 2) rfl rfl (by decide) g16 rfl rfl (by decide) (by decide) (by decide) (k_X2_boxTall c15) ?_
      exact y_iretF hf dX2_tall_59 rfl (by decide) (by decide)
theorem dX1_isTooTall_0 : decode cX1_isTooTall 0 = .ok (.iconst 0, 1) := by decide +kernel
theorem dX1_isTooTall_1 : decode cX1_isTooTall 1 = .ok (.istore 4, 2) := by decide +kernel
theorem dX1_isTooTall_3 : decode cX1_isTooTall 3 = .ok (.iconst 0, 1) := by decide +kernel
theorem dX1_isTooTall_4 : decode cX1_isTooTall 4 = .ok (.istore 5, 2) := by decide +kernel
theorem dX1_isTooTall_6 : decode cX1_isTooTall 6 = .ok (.iload 5, 2) := by decide +kernel
theorem dX1_isTooTall_8 : decode cX1_isTooTall 8 = .ok (.iconst 5, 1) := by decide +kernel
theorem dX1_isTooTall_9 : decode cX1_isTooTall 9 = .ok (.if_icmp .ge 38, 3) := by decide +kernel
theorem dX1_isTooTall_12 : decode cX1_isTooTall 12 = .ok (.aload_n 0, 1) := by decide +kernel
theorem dX1_isTooTall_13 : decode cX1_isTooTall 13 = .ok (.iload_n 2, 1) := by decide +kernel
theorem dX1_isTooTall_14 : decode cX1_isTooTall 14 = .ok (.iload 5, 2) := by decide +kernel
theorem dX1_isTooTall_16 : decode cX1_isTooTall 16 = .ok (.invokevirtual 54, 3) := by decide +kernel
theorem dX1_isTooTall_19 : decode cX1_isTooTall 19 = .ok (.astore 6, 2) := by decide +kernel
theorem dX1_isTooTall_21 : decode cX1_isTooTall 21 = .ok (.iload 4, 2) := by decide +kernel
theorem dX1_isTooTall_23 : decode cX1_isTooTall 23 = .ok (.aload 6, 2) := by decide +kernel
theorem dX1_isTooTall_25 : decode cX1_isTooTall 25 = .ok (.ifnonnull 7, 3) := by decide +kernel
theorem dX1_isTooTall_28 : decode cX1_isTooTall 28 = .ok (.iconst 0, 1) := by decide +kernel
theorem dX1_isTooTall_29 : decode cX1_isTooTall 29 = .ok (.goto 9, 3) := by decide +kernel
theorem dX1_isTooTall_32 : decode cX1_isTooTall 32 = .ok (.aload 6, 2) := by decide +kernel
theorem dX1_isTooTall_34 : decode cX1_isTooTall 34 = .ok (.aload_n 3, 1) := by decide +kernel
theorem dX1_isTooTall_35 : decode cX1_isTooTall 35 = .ok (.invokevirtual 77, 3) := by decide +kernel
theorem dX1_isTooTall_38 : decode cX1_isTooTall 38 = .ok (.iadd, 1) := by decide +kernel
theorem dX1_isTooTall_39 : decode cX1_isTooTall 39 = .ok (.istore 4, 2) := by decide +kernel
theorem dX1_isTooTall_41 : decode cX1_isTooTall 41 = .ok (.iinc 5 1, 3) := by decide +kernel
theorem dX1_isTooTall_44 : decode cX1_isTooTall 44 = .ok (.goto (-38), 3) := by decide +kernel
theorem dX1_isTooTall_47 : decode cX1_isTooTall 47 = .ok (.iload 4, 2) := by decide +kernel
theorem dX1_isTooTall_49 : decode cX1_isTooTall 49 = .ok (.aload_n 1, 1) := by decide +kernel
theorem dX1_isTooTall_50 : decode cX1_isTooTall 50 = .ok (.aload_n 3, 1) := by decide +kernel
theorem dX1_isTooTall_51 : decode cX1_isTooTall 51 = .ok (.invokevirtual 77, 3) := by decide +kernel
theorem dX1_isTooTall_54 : decode cX1_isTooTall 54 = .ok (.iadd, 1) := by decide +kernel
theorem dX1_isTooTall_55 : decode cX1_isTooTall 55 = .ok (.istore 4, 2) := by decide +kernel
theorem dX1_isTooTall_57 : decode cX1_isTooTall 57 = .ok (.aload_n 0, 1) := by decide +kernel
theorem dX1_isTooTall_58 : decode cX1_isTooTall 58 = .ok (.iload_n 2, 1) := by decide +kernel
theorem dX1_isTooTall_59 : decode cX1_isTooTall 59 = .ok (.invokevirtual 50, 3) := by decide +kernel
theorem dX1_isTooTall_62 : decode cX1_isTooTall 62 = .ok (.ifCond .eq 22, 3) := by decide +kernel
theorem dX1_isTooTall_65 : decode cX1_isTooTall 65 = .ok (.iload 4, 2) := by decide +kernel
theorem dX1_isTooTall_67 : decode cX1_isTooTall 67 = .ok (.iconst 2, 1) := by decide +kernel
theorem dX1_isTooTall_68 : decode cX1_isTooTall 68 = .ok (.aload_n 0, 1) := by decide +kernel
theorem dX1_isTooTall_69 : decode cX1_isTooTall 69 = .ok (.getfield 9, 3) := by decide +kernel
theorem dX1_isTooTall_72 : decode cX1_isTooTall 72 = .ok (.iload_n 2, 1) := by decide +kernel
theorem dX1_isTooTall_73 : decode cX1_isTooTall 73 = .ok (.iaload, 1) := by decide +kernel
theorem dX1_isTooTall_74 : decode cX1_isTooTall 74 = .ok (.imul, 1) := by decide +kernel
theorem dX1_isTooTall_75 : decode cX1_isTooTall 75 = .ok (.iconst 1, 1) := by decide +kernel
theorem dX1_isTooTall_76 : decode cX1_isTooTall 76 = .ok (.iadd, 1) := by decide +kernel
theorem dX1_isTooTall_77 : decode cX1_isTooTall 77 = .ok (.if_icmp .le 7, 3) := by decide +kernel
theorem dX1_isTooTall_80 : decode cX1_isTooTall 80 = .ok (.iconst 1, 1) := by decide +kernel
theorem dX1_isTooTall_81 : decode cX1_isTooTall 81 = .ok (.goto 4, 3) := by decide +kernel
theorem dX1_isTooTall_84 : decode cX1_isTooTall 84 = .ok (.iconst 0, 1) := by decide +kernel
theorem dX1_isTooTall_85 : decode cX1_isTooTall 85 = .ok (.ireturn, 1) := by decide +kernel
def M_X1_isTooTall : y_M := (yX1_isTooTall, cX1_isTooTall, 7, (Option.some Jvm.ClassFile.FieldType.boolean))
theorem n_X1_isTooTall : y_N0 M_X1_isTooTall 3 := ⟨(c_4 101 (by decide +kernel) rfl), (c_1 11 (by decide +kernel) rfl), ⟨by decide +kernel, by decide +kernel⟩, by decide +kernel⟩
theorem l_BoxYard_Bay_77 : y_lnk "BoxYard$Bay" 77 M_X2_tall := Or.inl (c_4 102 (by decide +kernel) rfl)
theorem i_X2_tall : Cond.instanceMethod (M_X2_tall).1 ∈ y_tb := (c_2 232 (by decide +kernel) rfl)
theorem e_X2_tall : Cond.selects (M_X2_tall).1.cls (M_X2_tall).1 (M_X2_tall).1 ∈ y_tb := (c_2 233 (by decide +kernel) rfl)
set_option maxRecDepth 100000 in
def f_X1_isTooTall (p0 : Nat) (p1 : Nat) (p2 : Int32) (p3 : Nat) (h : y_H) : Option (Bool × y_H) :=
  y_jl (fun (_ : Nat) (_ : Nat) (_ : Int32) (_ : Nat) (_ : Int32) (_ : Int32) (_ : y_H) => (none : Option (Bool × y_H))) (fun j6 (v0_6 : Nat) (v1_6 : Nat) (v2_6 : Int32) (v3_6 : Nat) (v4_6 : Int32) (v5_6 : Int32) (h1 : y_H) =>
      if 5 ≤ v5_6 then
        if y_K h1 v1_6 = 3 then
        y_cl (f_X2_tall v1_6 v3_6 h1) (fun r2 h3 =>
        if y_K h3 v0_6 = 2 then
        y_cl (f_X1_hasStack v0_6 v2_6 h3) (fun r5 h6 =>
        y_jn (fun (h8 : y_H) => (
            some (false, h8) : Option (Bool × y_H))) (fun j84 =>
        if r5 = true then
          if y_K h6 v0_6 = 2 then
          if y_K h6 (y_P h6 v0_6 1) = 100 ∧ y_ix v2_6 (y_N h6 (y_P h6 v0_6 1)) = true then
          if (v4_6 + r2) ≤ ((2 * (y_I h6 (y_P h6 v0_6 1) (Int32.toNatClampNeg v2_6))) + 1) then
            j84 h6
          else
            some (true, h6)
          else none
          else none
        else
          j84 h6))
        else none)
        else none
      else
        if y_K h1 v0_6 = 2 then
        y_cl (f_X1_boxIn v0_6 v2_6 v5_6 h1) (fun r15 h16 =>
        if r15 = 0 then
          j6 v0_6 v1_6 v2_6 v3_6 (v4_6 + 0) (v5_6 + 1) h16
        else
          if y_K h16 r15 = 3 then
          y_cl (f_X2_tall r15 v3_6 h16) (fun r18 h19 =>
          j6 v0_6 v1_6 v2_6 v3_6 (v4_6 + r18) (v5_6 + 1) h19)
          else none)
        else none) (fun j6 =>
  j6 p0 p1 p2 p3 0 0 h)
abbrev rm_X1_isTooTall : Room := { frames := 3, cells := 0, slots := 0, locals := 63 }
set_option maxRecDepth 100000 in
set_option maxHeartbeats 4000000 in
theorem k_X1_isTooTall {l : Launch} {G : y_G} {p0 : Nat} {p1 : Nat} {p2 : Int32} {p3 : Nat} {h hz : y_H} {rz : Bool} (hf : f_X1_isTooTall p0 p1 p2 p3 h = some (rz, hz)) : y_S l G M_X1_isTooTall rm_X1_isTooTall [y_p p0, y_p p1, .int p2, y_p p3] h (some (.int (y_z rz))) hz := by
  refine y_start (lv := [(0, y_p p0), (1, y_p p1), (2, .int p2), (3, y_p p3)]) (by decide) (by simp [lg_sl, y_p_cat, y_ci, y_cj, M_X1_isTooTall]) (by simp [lv_args, y_p_cat, y_ci, y_cj]) (fun z ad0 => ?_)
  unfold f_X1_isTooTall at hf
  refine y_iconst (v := 0) (pc2 := 1) rfl dX1_isTooTall_0 (by decide) ?_
  refine y_istore (lv' := [(4, .int 0), (0, y_p p0), (1, y_p p1), (2, .int p2), (3, y_p p3)]) (pc2 := 3) rfl dX1_isTooTall_1 (by decide) (by show y_st1 _ 4 _ = _; simp [y_st1, y_p_cat, y_ci, y_cj]) ?_
  refine y_iconst (v := 0) (pc2 := 4) rfl dX1_isTooTall_3 (by decide) ?_
  refine y_jlE hf (fun j => ∀ (v0_6 : Nat) (v1_6 : Nat) (v2_6 : Int32) (v3_6 : Nat) (v4_6 : Int32) (v5_6 : Int32) (h1 : y_H), j v0_6 v1_6 v2_6 v3_6 v4_6 v5_6 h1 = some (rz, hz) → y_V l G z rm_X1_isTooTall M_X1_isTooTall ad0 h (some (.int (y_z rz))) hz 6 [(0, y_p v0_6), (1, y_p v1_6), (2, .int v2_6), (3, y_p v3_6), (4, .int v4_6), (5, .int v5_6)] [] h1 0 0) (fun _ _ _ _ _ _ _ hf => by cases hf) (fun j6 hj6 v0_6 v1_6 v2_6 v3_6 v4_6 v5_6 h1 hf => ?_) (fun j6 hj6 hf => ?_)
  · refine y_iload (pc2 := 8) rfl dX1_isTooTall_6 rfl ?_
    refine y_iconst (v := 5) (pc2 := 9) rfl dX1_isTooTall_8 (by decide) ?_
    refine y_icmp_ge (tgt := 47) (pc2 := 12) rfl dX1_isTooTall_9 (by decide) (fun c24 => ?_) (fun c24 => ?_)
    · replace hf := y_it c24 hf
      refine y_iload (pc2 := 49) rfl dX1_isTooTall_47 rfl ?_
      refine y_aload_n (x := v1_6) (pc2 := 50) rfl dX1_isTooTall_49 rfl ?_
      refine y_aload_n (x := v3_6) (pc2 := 51) rfl dX1_isTooTall_50 rfl ?_
      obtain ⟨g14, hf⟩ := y_g hf
      obtain ⟨r2, h3, c4, hf⟩ := y_clE hf
      refine y_callV (As := [y_p v3_6]) (rm := rm_X2_tall) (cells := 0) (slots := 0) (pc2 := 54) rfl dX1_isTooTall_51 n_X2_tall l_BoxYard_Bay_77 i_X2_tall e_X2_tall (ci := 2) rfl rfl (by decide) g14 rfl rfl (by decide) (by simp [y_ci, y_cj, y_p_cat]) (by decide) (k_X2_tall c4) ?_
      refine y_iadd (pc2 := 55) rfl dX1_isTooTall_54 ?_
      refine y_istore (lv' := [(4, .int (v4_6 + r2)), (0, y_p v0_6), (1, y_p v1_6), (2, .int v2_6), (3, y_p v3_6), (5, .int v5_6)]) (pc2 := 57) rfl dX1_isTooTall_55 (by decide) (by show y_st1 _ 4 _ = _; simp [y_st1, y_p_cat, y_ci, y_cj]) ?_
      refine y_aload_n (x := v0_6) (pc2 := 58) rfl dX1_isTooTall_57 rfl ?_
      refine y_iload_n (pc2 := 59) rfl dX1_isTooTall_58 rfl ?_
      obtain ⟨g13, hf⟩ := y_g hf
      obtain ⟨r5, h6, c7, hf⟩ := y_clE hf
      refine y_callV (As := [.int v2_6]) (rm := rm_X1_hasStack) (cells := 0) (slots := 0) (pc2 := 62) rfl dX1_isTooTall_59 n_X1_hasStack l_BoxYard_Bay_50 i_X1_hasStack e_X1_hasStack (ci := 1) rfl rfl (by decide) g13 rfl rfl (by decide) (by decide) (by decide) (k_X1_hasStack c7) ?_
      refine y_jnE hf (fun j => ∀ (h8 : y_H), j h8 = some (rz, hz) → y_V l G z rm_X1_isTooTall M_X1_isTooTall ad0 h (some (.int (y_z rz))) hz 84 [] [] h8 0 0) (fun h8 hf => ?_) (fun j84 hj84 hf => ?_)
      · refine y_iconst (v := 0) (pc2 := 85) rfl dX1_isTooTall_84 (by decide) ?_
        exact y_zretF (x := false) hf dX1_isTooTall_85 rfl (by decide) (by decide)
      · refine y_ifz_eq (tgt := 84) (pc2 := 65) rfl dX1_isTooTall_62 (by decide) (fun c12 => ?_) (fun c12 => ?_)
        · replace hf := y_ie c12 hf
          exact y_pk [] rfl (hj84 _ hf)
        · replace hf := y_it c12 hf
          refine y_iload (pc2 := 67) rfl dX1_isTooTall_65 rfl ?_
          refine y_iconst (v := 2) (pc2 := 68) rfl dX1_isTooTall_67 (by decide) ?_
          refine y_aload_n (x := v0_6) (pc2 := 69) rfl dX1_isTooTall_68 rfl ?_
          obtain ⟨g11, hf⟩ := y_g hf
          refine y_getP (pc2 := 72) rfl dX1_isTooTall_69 F_BoxYard_Bay_9 (by decide) rfl g11 ?_
          refine y_iload_n (pc2 := 73) rfl dX1_isTooTall_72 rfl ?_
          obtain ⟨g10, hf⟩ := y_g hf
          refine y_iald (pc2 := 74) rfl dX1_isTooTall_73 g10.1 (y_ix_in g10.2) ?_
          refine y_imul (pc2 := 75) rfl dX1_isTooTall_74 ?_
          refine y_iconst (v := 1) (pc2 := 76) rfl dX1_isTooTall_75 (by decide) ?_
          refine y_iadd (pc2 := 77) rfl dX1_isTooTall_76 ?_
          refine y_icmp_le (tgt := 84) (pc2 := 80) rfl dX1_isTooTall_77 (by decide) (fun c9 => ?_) (fun c9 => ?_)
          · replace hf := y_it c9 hf
            exact y_pk [] rfl (hj84 _ hf)
          · replace hf := y_ie c9 hf
            refine y_iconst (v := 1) (pc2 := 81) rfl dX1_isTooTall_80 (by decide) ?_
            refine y_goto (tgt := 85) dX1_isTooTall_81 (by decide) ?_
            exact y_zretF (x := true) hf dX1_isTooTall_85 rfl (by decide) (by decide)
    · replace hf := y_ie c24 hf
      refine y_aload_n (x := v0_6) (pc2 := 13) rfl dX1_isTooTall_12 rfl ?_
      refine y_iload_n (pc2 := 14) rfl dX1_isTooTall_13 rfl ?_
      refine y_iload (pc2 := 16) rfl dX1_isTooTall_14 rfl ?_
      obtain ⟨g23, hf⟩ := y_g hf
      obtain ⟨r15, h16, c17, hf⟩ := y_clE hf
      refine y_callV (As := [.int v2_6, .int v5_6]) (rm := rm_X1_boxIn) (cells := 0) (slots := 0) (pc2 := 19) rfl dX1_isTooTall_16 n_X1_boxIn l_BoxYard_Bay_54 i_X1_boxIn e_X1_boxIn (ci := 1) rfl rfl (by decide) g23 rfl rfl (by decide) (by decide) (by decide) (k_X1_boxIn c17) ?_
      refine y_astore (lv' := [(6, y_p r15), (0, y_p v0_6), (1, y_p v1_6), (2, .int v2_6), (3, y_p v3_6), (4, .int v4_6), (5, .int v5_6)]) (pc2 := 21) rfl dX1_isTooTall_19 (by decide) rfl ?_
      refine y_iload (pc2 := 23) rfl dX1_isTooTall_21 rfl ?_
      refine y_aload (x := r15) (pc2 := 25) rfl dX1_isTooTall_23 rfl ?_
      refine y_ifnonnull (tgt := 32) (pc2 := 28) rfl dX1_isTooTall_25 (by decide) (fun c22 => ?_) (fun c22 => ?_)
      · replace hf := y_ie c22 hf
        refine y_aload (x := r15) (pc2 := 34) rfl dX1_isTooTall_32 rfl ?_
        refine y_aload_n (x := v3_6) (pc2 := 35) rfl dX1_isTooTall_34 rfl ?_
        obtain ⟨g21, hf⟩ := y_g hf
        obtain ⟨r18, h19, c20, hf⟩ := y_clE hf
        refine y_callV (As := [y_p v3_6]) (rm := rm_X2_tall) (cells := 0) (slots := 0) (pc2 := 38) rfl dX1_isTooTall_35 n_X2_tall l_BoxYard_Bay_77 i_X2_tall e_X2_tall (ci := 2) rfl rfl (by decide) g21 rfl rfl (by decide) (by simp [y_ci, y_cj, y_p_cat]) (by decide) (k_X2_tall c20) ?_
        refine y_iadd (pc2 := 39) rfl dX1_isTooTall_38 ?_
        refine y_istore (lv' := [(4, .int (v4_6 + r18)), (6, y_p r15), (0, y_p v0_6), (1, y_p v1_6), (2, .int v2_6), (3, y_p v3_6), (5, .int v5_6)]) (pc2 := 41) rfl dX1_isTooTall_39 (by decide) (by show y_st1 _ 4 _ = _; simp [y_st1, y_p_cat, y_ci, y_cj]) ?_
        refine y_iinc (v := v5_6 + 1) (lv' := [(5, .int (v5_6 + 1)), (4, .int (v4_6 + r18)), (6, y_p r15), (0, y_p v0_6), (1, y_p v1_6), (2, .int v2_6), (3, y_p v3_6)]) (pc2 := 44) rfl dX1_isTooTall_41 rfl rfl (by decide) rfl ?_
        refine y_goto (tgt := 6) dX1_isTooTall_44 (by decide) ?_
        exact y_pk [3, 4, 5, 6, 1, 0] rfl (hj6 _ _ _ _ _ _ _ hf)
      · replace hf := y_it c22 hf
        refine y_iconst (v := 0) (pc2 := 29) rfl dX1_isTooTall_28 (by decide) ?_
        refine y_goto (tgt := 38) dX1_isTooTall_29 (by decide) ?_
        refine y_iadd (pc2 := 39) rfl dX1_isTooTall_38 ?_
        refine y_istore (lv' := [(4, .int (v4_6 + 0)), (6, y_p r15), (0, y_p v0_6), (1, y_p v1_6), (2, .int v2_6), (3, y_p v3_6), (5, .int v5_6)]) (pc2 := 41) rfl dX1_isTooTall_39 (by decide) (by show y_st1 _ 4 _ = _; simp [y_st1, y_p_cat, y_ci, y_cj]) ?_
        refine y_iinc (v := v5_6 + 1) (lv' := [(5, .int (v5_6 + 1)), (4, .int (v4_6 + 0)), (6, y_p r15), (0, y_p v0_6), (1, y_p v1_6), (2, .int v2_6), (3, y_p v3_6)]) (pc2 := 44) rfl dX1_isTooTall_41 rfl rfl (by decide) rfl ?_
        refine y_goto (tgt := 6) dX1_isTooTall_44 (by decide) ?_
        exact y_pk [3, 4, 5, 6, 1, 0] rfl (hj6 _ _ _ _ _ _ _ hf)
  · refine y_istore (lv' := [(5, .int 0), (4, .int 0), (0, y_p p0), (1, y_p p1), (2, .int p2), (3, y_p p3)]) (pc2 := 6) rfl dX1_isTooTall_4 (by decide) rfl ?_
    exact y_pk [2, 3, 4, 5, 1, 0] rfl (hj6 _ _ _ _ _ _ _ hf)
theorem dX2_stand_0 : decode cX2_stand 0 = .ok (.aload_n 0, 1) := by decide +kernel
theorem dX2_stand_1 : decode cX2_stand 1 = .ok (.iload_n 1, 1) := by decide +kernel
theorem dX2_stand_2 : decode cX2_stand 2 = .ok (.putfield 41, 3) := by decide +kernel
theorem dX2_stand_5 : decode cX2_stand 5 = .ok (.aload_n 0, 1) := by decide +kernel
theorem dX2_stand_6 : decode cX2_stand 6 = .ok (.iload_n 2, 1) := by decide +kernel
theorem dX2_stand_7 : decode cX2_stand 7 = .ok (.putfield 44, 3) := by decide +kernel
theorem dX2_stand_10 : decode cX2_stand 10 = .ok (.aload_n 0, 1) := by decide +kernel
theorem dX2_stand_11 : decode cX2_stand 11 = .ok (.iload_n 3, 1) := by decide +kernel
theorem dX2_stand_12 : decode cX2_stand 12 = .ok (.putfield 47, 3) := by decide +kernel
theorem dX2_stand_15 : decode cX2_stand 15 = .ok (.aload_n 0, 1) := by decide +kernel
theorem dX2_stand_16 : decode cX2_stand 16 = .ok (.iload 4, 2) := by decide +kernel
theorem dX2_stand_18 : decode cX2_stand 18 = .ok (.putfield 50, 3) := by decide +kernel
theorem dX2_stand_21 : decode cX2_stand 21 = .ok (.return_, 1) := by decide +kernel
def M_X2_stand : y_M := (yX2_stand, cX2_stand, 5, (Option.none : Option Jvm.ClassFile.FieldType))
theorem n_X2_stand : y_N0 M_X2_stand 4 := ⟨(c_2 201 (by decide +kernel) rfl), (c_1 10 (by decide +kernel) rfl), ⟨by decide +kernel, by decide +kernel⟩, by decide +kernel⟩
theorem Fp_BoxYard_Box_41 {nm : String} : y_Fp "BoxYard$Box" nm 41 2 6 := ⟨_, _, _, rfl, by decide, Or.inl ⟨rfl, Or.inl (c_2 126 (by decide +kernel) rfl)⟩⟩
theorem Fp_BoxYard_Box_44 {nm : String} : y_Fp "BoxYard$Box" nm 44 2 7 := ⟨_, _, _, rfl, by decide, Or.inl ⟨rfl, Or.inl (c_2 132 (by decide +kernel) rfl)⟩⟩
theorem Fp_BoxYard_Box_47 {nm : String} : y_Fp "BoxYard$Box" nm 47 2 8 := ⟨_, _, _, rfl, by decide, Or.inl ⟨rfl, Or.inl (c_2 138 (by decide +kernel) rfl)⟩⟩
theorem Fp_BoxYard_Box_50 {nm : String} : y_Fp "BoxYard$Box" nm 50 2 9 := ⟨_, _, _, rfl, by decide, Or.inl ⟨rfl, Or.inl (c_2 143 (by decide +kernel) rfl)⟩⟩
set_option maxRecDepth 100000 in
def f_X2_stand (p0 : Nat) (p1 : Int32) (p2 : Int32) (p3 : Int32) (p4 : Int32) (h : y_H) : Option (Unit × y_H) :=
  if y_K h p0 = 3 then
  y_bd (s_I h p0 6 p1) (fun h1 =>
  if y_K h1 p0 = 3 then
  y_bd (s_I h1 p0 7 p2) (fun h4 =>
  if y_K h4 p0 = 3 then
  y_bd (s_I h4 p0 8 p3) (fun h7 =>
  if y_K h7 p0 = 3 then
  y_bd (s_I h7 p0 9 p4) (fun h10 =>
  some ((), h10))
  else none)
  else none)
  else none)
  else none
abbrev rm_X2_stand : Room := { frames := 0, cells := 0, slots := 0, locals := 0 }
set_option maxRecDepth 100000 in
set_option maxHeartbeats 4000000 in
theorem k_X2_stand {l : Launch} {G : y_G} {p0 : Nat} {p1 : Int32} {p2 : Int32} {p3 : Int32} {p4 : Int32} {h hz : y_H} {rz : Unit} (hf : f_X2_stand p0 p1 p2 p3 p4 h = some (rz, hz)) : y_S l G M_X2_stand rm_X2_stand [y_p p0, .int p1, .int p2, .int p3, .int p4] h none hz := by
  refine y_start (lv := [(0, y_p p0), (1, .int p1), (2, .int p2), (3, .int p3), (4, .int p4)]) (by decide) (by simp [lg_sl, y_p_cat, y_ci, y_cj, M_X2_stand]) (by simp [lv_args, y_p_cat, y_ci, y_cj]) (fun z ad0 => ?_)
  unfold f_X2_stand at hf
  refine y_aload_n (x := p0) (pc2 := 1) rfl dX2_stand_0 rfl ?_
  refine y_iload_n (pc2 := 2) rfl dX2_stand_1 rfl ?_
  obtain ⟨g3, hf⟩ := y_g hf
  obtain ⟨h1, e2, hf⟩ := y_bdE hf
  refine y_putI (x := p1) (pc2 := 5) rfl dX2_stand_2 Fp_BoxYard_Box_41 (by decide) rfl g3 e2 ?_
  refine y_aload_n (x := p0) (pc2 := 6) rfl dX2_stand_5 rfl ?_
  refine y_iload_n (pc2 := 7) rfl dX2_stand_6 rfl ?_
  obtain ⟨g6, hf⟩ := y_g hf
  obtain ⟨h4, e5, hf⟩ := y_bdE hf
  refine y_putI (x := p2) (pc2 := 10) rfl dX2_stand_7 Fp_BoxYard_Box_44 (by decide) rfl g6 e5 ?_
  refine y_aload_n (x := p0) (pc2 := 11) rfl dX2_stand_10 rfl ?_
  refine y_iload_n (pc2 := 12) rfl dX2_stand_11 rfl ?_
  obtain ⟨g9, hf⟩ := y_g hf
  obtain ⟨h7, e8, hf⟩ := y_bdE hf
  refine y_putI (x := p3) (pc2 := 15) rfl dX2_stand_12 Fp_BoxYard_Box_47 (by decide) rfl g9 e8 ?_
  refine y_aload_n (x := p0) (pc2 := 16) rfl dX2_stand_15 rfl ?_
  refine y_iload (pc2 := 18) rfl dX2_stand_16 rfl ?_
  obtain ⟨g12, hf⟩ := y_g hf
  obtain ⟨h10, e11, hf⟩ := y_bdE hf
  refine y_putI (x := p4) (pc2 := 21) rfl dX2_stand_18 Fp_BoxYard_Box_50 (by decide) rfl g12 e11 ?_
  exact y_vretF hf dX2_stand_21 rfl (by decide) (by decide)
theorem dX2_link_0 : decode cX2_link 0 = .ok (.aload_n 0, 1) := by decide +kernel
theorem dX2_link_1 : decode cX2_link 1 = .ok (.iload_n 1, 1) := by decide +kernel
theorem dX2_link_2 : decode cX2_link 2 = .ok (.putfield 53, 3) := by decide +kernel
theorem dX2_link_5 : decode cX2_link 5 = .ok (.aload_n 0, 1) := by decide +kernel
theorem dX2_link_6 : decode cX2_link 6 = .ok (.iload_n 2, 1) := by decide +kernel
theorem dX2_link_7 : decode cX2_link 7 = .ok (.putfield 56, 3) := by decide +kernel
theorem dX2_link_10 : decode cX2_link 10 = .ok (.aload_n 0, 1) := by decide +kernel
theorem dX2_link_11 : decode cX2_link 11 = .ok (.iload_n 3, 1) := by decide +kernel
theorem dX2_link_12 : decode cX2_link 12 = .ok (.putfield 59, 3) := by decide +kernel
theorem dX2_link_15 : decode cX2_link 15 = .ok (.aload_n 0, 1) := by decide +kernel
theorem dX2_link_16 : decode cX2_link 16 = .ok (.iload 4, 2) := by decide +kernel
theorem dX2_link_18 : decode cX2_link 18 = .ok (.putfield 62, 3) := by decide +kernel
theorem dX2_link_21 : decode cX2_link 21 = .ok (.return_, 1) := by decide +kernel
def M_X2_link : y_M := (yX2_link, cX2_link, 5, (Option.none : Option Jvm.ClassFile.FieldType))
theorem n_X2_link : y_N0 M_X2_link 4 := ⟨(c_2 205 (by decide +kernel) rfl), (c_1 10 (by decide +kernel) rfl), ⟨by decide +kernel, by decide +kernel⟩, by decide +kernel⟩
theorem Fp_BoxYard_Box_53 {nm : String} : y_Fp "BoxYard$Box" nm 53 2 11 := ⟨_, _, _, rfl, by decide, Or.inl ⟨rfl, Or.inl (c_2 151 (by decide +kernel) rfl)⟩⟩
theorem Fp_BoxYard_Box_56 {nm : String} : y_Fp "BoxYard$Box" nm 56 2 12 := ⟨_, _, _, rfl, by decide, Or.inl ⟨rfl, Or.inl (c_2 154 (by decide +kernel) rfl)⟩⟩
theorem Fp_BoxYard_Box_59 {nm : String} : y_Fp "BoxYard$Box" nm 59 2 13 := ⟨_, _, _, rfl, by decide, Or.inl ⟨rfl, Or.inl (c_2 157 (by decide +kernel) rfl)⟩⟩
theorem Fp_BoxYard_Box_62 {nm : String} : y_Fp "BoxYard$Box" nm 62 2 14 := ⟨_, _, _, rfl, by decide, Or.inl ⟨rfl, Or.inl (c_2 160 (by decide +kernel) rfl)⟩⟩
set_option maxRecDepth 100000 in
def f_X2_link (p0 : Nat) (p1 : Int32) (p2 : Int32) (p3 : Int32) (p4 : Int32) (h : y_H) : Option (Unit × y_H) :=
  if y_K h p0 = 3 then
  y_bd (s_I h p0 11 p1) (fun h1 =>
  if y_K h1 p0 = 3 then
  y_bd (s_I h1 p0 12 p2) (fun h4 =>
  if y_K h4 p0 = 3 then
  y_bd (s_I h4 p0 13 p3) (fun h7 =>
  if y_K h7 p0 = 3 then
  y_bd (s_I h7 p0 14 p4) (fun h10 =>
  some ((), h10))
  else none)
  else none)
  else none)
  else none
abbrev rm_X2_link : Room := { frames := 0, cells := 0, slots := 0, locals := 0 }
set_option maxRecDepth 100000 in
set_option maxHeartbeats 4000000 in
theorem k_X2_link {l : Launch} {G : y_G} {p0 : Nat} {p1 : Int32} {p2 : Int32} {p3 : Int32} {p4 : Int32} {h hz : y_H} {rz : Unit} (hf : f_X2_link p0 p1 p2 p3 p4 h = some (rz, hz)) : y_S l G M_X2_link rm_X2_link [y_p p0, .int p1, .int p2, .int p3, .int p4] h none hz := by
  refine y_start (lv := [(0, y_p p0), (1, .int p1), (2, .int p2), (3, .int p3), (4, .int p4)]) (by decide) (by simp [lg_sl, y_p_cat, y_ci, y_cj, M_X2_link]) (by simp [lv_args, y_p_cat, y_ci, y_cj]) (fun z ad0 => ?_)
  unfold f_X2_link at hf
  refine y_aload_n (x := p0) (pc2 := 1) rfl dX2_link_0 rfl ?_
  refine y_iload_n (pc2 := 2) rfl dX2_link_1 rfl ?_
  obtain ⟨g3, hf⟩ := y_g hf
  obtain ⟨h1, e2, hf⟩ := y_bdE hf
  refine y_putI (x := p1) (pc2 := 5) rfl dX2_link_2 Fp_BoxYard_Box_53 (by decide) rfl g3 e2 ?_
  refine y_aload_n (x := p0) (pc2 := 6) rfl dX2_link_5 rfl ?_
  refine y_iload_n (pc2 := 7) rfl dX2_link_6 rfl ?_
  obtain ⟨g6, hf⟩ := y_g hf
  obtain ⟨h4, e5, hf⟩ := y_bdE hf
  refine y_putI (x := p2) (pc2 := 10) rfl dX2_link_7 Fp_BoxYard_Box_56 (by decide) rfl g6 e5 ?_
  refine y_aload_n (x := p0) (pc2 := 11) rfl dX2_link_10 rfl ?_
  refine y_iload_n (pc2 := 12) rfl dX2_link_11 rfl ?_
  obtain ⟨g9, hf⟩ := y_g hf
  obtain ⟨h7, e8, hf⟩ := y_bdE hf
  refine y_putI (x := p3) (pc2 := 15) rfl dX2_link_12 Fp_BoxYard_Box_59 (by decide) rfl g9 e8 ?_
  refine y_aload_n (x := p0) (pc2 := 16) rfl dX2_link_15 rfl ?_
  refine y_iload (pc2 := 18) rfl dX2_link_16 rfl ?_
  obtain ⟨g12, hf⟩ := y_g hf
  obtain ⟨h10, e11, hf⟩ := y_bdE hf
  refine y_putI (x := p4) (pc2 := 21) rfl dX2_link_18 Fp_BoxYard_Box_62 (by decide) rfl g12 e11 ?_
  exact y_vretF hf dX2_link_21 rfl (by decide) (by decide)
theorem dX2_begin_0 : decode cX2_begin 0 = .ok (.aload_n 0, 1) := by decide +kernel
theorem dX2_begin_1 : decode cX2_begin 1 = .ok (.iload_n 1, 1) := by decide +kernel
theorem dX2_begin_2 : decode cX2_begin 2 = .ok (.putfield 15, 3) := by decide +kernel
theorem dX2_begin_5 : decode cX2_begin 5 = .ok (.aload_n 0, 1) := by decide +kernel
theorem dX2_begin_6 : decode cX2_begin 6 = .ok (.iload_n 2, 1) := by decide +kernel
theorem dX2_begin_7 : decode cX2_begin 7 = .ok (.putfield 18, 3) := by decide +kernel
theorem dX2_begin_10 : decode cX2_begin 10 = .ok (.aload_n 0, 1) := by decide +kernel
theorem dX2_begin_11 : decode cX2_begin 11 = .ok (.iload_n 3, 1) := by decide +kernel
theorem dX2_begin_12 : decode cX2_begin 12 = .ok (.putfield 21, 3) := by decide +kernel
theorem dX2_begin_15 : decode cX2_begin 15 = .ok (.aload_n 0, 1) := by decide +kernel
theorem dX2_begin_16 : decode cX2_begin 16 = .ok (.iload 4, 2) := by decide +kernel
theorem dX2_begin_18 : decode cX2_begin 18 = .ok (.putfield 24, 3) := by decide +kernel
theorem dX2_begin_21 : decode cX2_begin 21 = .ok (.aload_n 0, 1) := by decide +kernel
theorem dX2_begin_22 : decode cX2_begin 22 = .ok (.iload 5, 2) := by decide +kernel
theorem dX2_begin_24 : decode cX2_begin 24 = .ok (.putfield 27, 3) := by decide +kernel
theorem dX2_begin_27 : decode cX2_begin 27 = .ok (.aload_n 0, 1) := by decide +kernel
theorem dX2_begin_28 : decode cX2_begin 28 = .ok (.iconst 0, 1) := by decide +kernel
theorem dX2_begin_29 : decode cX2_begin 29 = .ok (.putfield 30, 3) := by decide +kernel
theorem dX2_begin_32 : decode cX2_begin 32 = .ok (.aload_n 0, 1) := by decide +kernel
theorem dX2_begin_33 : decode cX2_begin 33 = .ok (.iconst 0, 1) := by decide +kernel
theorem dX2_begin_34 : decode cX2_begin 34 = .ok (.iconst 0, 1) := by decide +kernel
theorem dX2_begin_35 : decode cX2_begin 35 = .ok (.iconst 0, 1) := by decide +kernel
theorem dX2_begin_36 : decode cX2_begin 36 = .ok (.iconst 0, 1) := by decide +kernel
theorem dX2_begin_37 : decode cX2_begin 37 = .ok (.invokevirtual 34, 3) := by decide +kernel
theorem dX2_begin_40 : decode cX2_begin 40 = .ok (.aload_n 0, 1) := by decide +kernel
theorem dX2_begin_41 : decode cX2_begin 41 = .ok (.bipush (-9), 2) := by decide +kernel
theorem dX2_begin_43 : decode cX2_begin 43 = .ok (.iconst 0, 1) := by decide +kernel
theorem dX2_begin_44 : decode cX2_begin 44 = .ok (.iconst 0, 1) := by decide +kernel
theorem dX2_begin_45 : decode cX2_begin 45 = .ok (.iconst 0, 1) := by decide +kernel
theorem dX2_begin_46 : decode cX2_begin 46 = .ok (.invokevirtual 38, 3) := by decide +kernel
theorem dX2_begin_49 : decode cX2_begin 49 = .ok (.return_, 1) := by decide +kernel
def M_X2_begin : y_M := (yX2_begin, cX2_begin, 6, (Option.none : Option Jvm.ClassFile.FieldType))
theorem n_X2_begin : y_N0 M_X2_begin 5 := ⟨(c_2 197 (by decide +kernel) rfl), (c_1 10 (by decide +kernel) rfl), ⟨by decide +kernel, by decide +kernel⟩, by decide +kernel⟩
theorem Fp_BoxYard_Box_15 {nm : String} : y_Fp "BoxYard$Box" nm 15 2 1 := ⟨_, _, _, rfl, by decide, Or.inl ⟨rfl, Or.inl (c_2 115 (by decide +kernel) rfl)⟩⟩
theorem Fp_BoxYard_Box_18 {nm : String} : y_Fp "BoxYard$Box" nm 18 2 2 := ⟨_, _, _, rfl, by decide, Or.inl ⟨rfl, Or.inl (c_2 117 (by decide +kernel) rfl)⟩⟩
theorem Fp_BoxYard_Box_21 {nm : String} : y_Fp "BoxYard$Box" nm 21 2 3 := ⟨_, _, _, rfl, by decide, Or.inl ⟨rfl, Or.inl (c_2 119 (by decide +kernel) rfl)⟩⟩
theorem Fp_BoxYard_Box_24 {nm : String} : y_Fp "BoxYard$Box" nm 24 2 4 := ⟨_, _, _, rfl, by decide, Or.inl ⟨rfl, Or.inl (c_2 121 (by decide +kernel) rfl)⟩⟩
theorem Fp_BoxYard_Box_27 {nm : String} : y_Fp "BoxYard$Box" nm 27 2 5 := ⟨_, _, _, rfl, by decide, Or.inl ⟨rfl, Or.inl (c_2 123 (by decide +kernel) rfl)⟩⟩
theorem Fp_BoxYard_Box_30 {nm : String} : y_Fp "BoxYard$Box" nm 30 2 10 := ⟨_, _, _, rfl, by decide, Or.inl ⟨rfl, Or.inl (c_2 147 (by decide +kernel) rfl)⟩⟩
theorem l_BoxYard_Box_34 : y_lnk "BoxYard$Box" 34 M_X2_stand := Or.inl (c_2 198 (by decide +kernel) rfl)
theorem i_X2_stand : Cond.instanceMethod (M_X2_stand).1 ∈ y_tb := (c_2 199 (by decide +kernel) rfl)
theorem e_X2_stand : Cond.selects (M_X2_stand).1.cls (M_X2_stand).1 (M_X2_stand).1 ∈ y_tb := (c_2 200 (by decide +kernel) rfl)
theorem l_BoxYard_Box_38 : y_lnk "BoxYard$Box" 38 M_X2_link := Or.inl (c_2 202 (by decide +kernel) rfl)
theorem i_X2_link : Cond.instanceMethod (M_X2_link).1 ∈ y_tb := (c_2 203 (by decide +kernel) rfl)
theorem e_X2_link : Cond.selects (M_X2_link).1.cls (M_X2_link).1 (M_X2_link).1 ∈ y_tb := (c_2 204 (by decide +kernel) rfl)
set_option maxRecDepth 100000 in
def f_X2_begin (p0 : Nat) (p1 : Int32) (p2 : Int32) (p3 : Int32) (p4 : Int32) (p5 : Int32) (h : y_H) : Option (Unit × y_H) :=
  if y_K h p0 = 3 then
  y_bd (s_I h p0 1 p1) (fun h1 =>
  if y_K h1 p0 = 3 then
  y_bd (s_I h1 p0 2 p2) (fun h4 =>
  if y_K h4 p0 = 3 then
  y_bd (s_I h4 p0 3 p3) (fun h7 =>
  if y_K h7 p0 = 3 then
  y_bd (s_I h7 p0 4 p4) (fun h10 =>
  if y_K h10 p0 = 3 then
  y_bd (s_I h10 p0 5 p5) (fun h13 =>
  if y_K h13 p0 = 3 then
  y_bd (s_B h13 p0 10 false) (fun h16 =>
  if y_K h16 p0 = 3 then
  y_cl (f_X2_stand p0 0 0 0 0 h16) (fun _ h19 =>
  if y_K h19 p0 = 3 then
  y_cl (f_X2_link p0 (-9 : Int32) 0 0 0 h19) (fun _ h21 =>
  some ((), h21))
  else none)
  else none)
  else none)
  else none)
  else none)
  else none)
  else none)
  else none
abbrev rm_X2_begin : Room := { frames := 1, cells := 0, slots := 0, locals := 24 }
set_option maxRecDepth 100000 in
set_option maxHeartbeats 4000000 in
theorem k_X2_begin {l : Launch} {G : y_G} {p0 : Nat} {p1 : Int32} {p2 : Int32} {p3 : Int32} {p4 : Int32} {p5 : Int32} {h hz : y_H} {rz : Unit} (hf : f_X2_begin p0 p1 p2 p3 p4 p5 h = some (rz, hz)) : y_S l G M_X2_begin rm_X2_begin [y_p p0, .int p1, .int p2, .int p3, .int p4, .int p5] h none hz := by
  refine y_start (lv := [(0, y_p p0), (1, .int p1), (2, .int p2), (3, .int p3), (4, .int p4), (5, .int p5)]) (by decide) (by simp [lg_sl, y_p_cat, y_ci, y_cj, M_X2_begin]) (by simp [lv_args, y_p_cat, y_ci, y_cj]) (fun z ad0 => ?_)
  unfold f_X2_begin at hf
  refine y_aload_n (x := p0) (pc2 := 1) rfl dX2_begin_0 rfl ?_
  refine y_iload_n (pc2 := 2) rfl dX2_begin_1 rfl ?_
  obtain ⟨g3, hf⟩ := y_g hf
  obtain ⟨h1, e2, hf⟩ := y_bdE hf
  refine y_putI (x := p1) (pc2 := 5) rfl dX2_begin_2 Fp_BoxYard_Box_15 (by decide) rfl g3 e2 ?_
  refine y_aload_n (x := p0) (pc2 := 6) rfl dX2_begin_5 rfl ?_
  refine y_iload_n (pc2 := 7) rfl dX2_begin_6 rfl ?_
  obtain ⟨g6, hf⟩ := y_g hf
  obtain ⟨h4, e5, hf⟩ := y_bdE hf
  refine y_putI (x := p2) (pc2 := 10) rfl dX2_begin_7 Fp_BoxYard_Box_18 (by decide) rfl g6 e5 ?_
  refine y_aload_n (x := p0) (pc2 := 11) rfl dX2_begin_10 rfl ?_
  refine y_iload_n (pc2 := 12) rfl dX2_begin_11 rfl ?_
  obtain ⟨g9, hf⟩ := y_g hf
  obtain ⟨h7, e8, hf⟩ := y_bdE hf
  refine y_putI (x := p3) (pc2 := 15) rfl dX2_begin_12 Fp_BoxYard_Box_21 (by decide) rfl g9 e8 ?_
  refine y_aload_n (x := p0) (pc2 := 16) rfl dX2_begin_15 rfl ?_
  refine y_iload (pc2 := 18) rfl dX2_begin_16 rfl ?_
  obtain ⟨g12, hf⟩ := y_g hf
  obtain ⟨h10, e11, hf⟩ := y_bdE hf
  refine y_putI (x := p4) (pc2 := 21) rfl dX2_begin_18 Fp_BoxYard_Box_24 (by decide) rfl g12 e11 ?_
  refine y_aload_n (x := p0) (pc2 := 22) rfl dX2_begin_21 rfl ?_
  refine y_iload (pc2 := 24) rfl dX2_begin_22 rfl ?_
  obtain ⟨g15, hf⟩ := y_g hf
  obtain ⟨h13, e14, hf⟩ := y_bdE hf
  refine y_putI (x := p5) (pc2 := 27) rfl dX2_begin_24 Fp_BoxYard_Box_27 (by decide) rfl g15 e14 ?_
  refine y_aload_n (x := p0) (pc2 := 28) rfl dX2_begin_27 rfl ?_
  refine y_iconst (v := 0) (pc2 := 29) rfl dX2_begin_28 (by decide) ?_
  obtain ⟨g18, hf⟩ := y_g hf
  obtain ⟨h16, e17, hf⟩ := y_bdE hf
  refine y_putZ (x := false) (pc2 := 32) rfl dX2_begin_29 Fp_BoxYard_Box_30 (by decide) rfl g18 e17 ?_
  refine y_aload_n (x := p0) (pc2 := 33) rfl dX2_begin_32 rfl ?_
  refine y_iconst (v := 0) (pc2 := 34) rfl dX2_begin_33 (by decide) ?_
  refine y_iconst (v := 0) (pc2 := 35) rfl dX2_begin_34 (by decide) ?_
  refine y_iconst (v := 0) (pc2 := 36) rfl dX2_begin_35 (by decide) ?_
  refine y_iconst (v := 0) (pc2 := 37) rfl dX2_begin_36 (by decide) ?_
  obtain ⟨g24, hf⟩ := y_g hf
  obtain ⟨r_, h19, c20, hf⟩ := y_clE hf
  refine y_callV (As := [.int 0, .int 0, .int 0, .int 0]) (rm := rm_X2_stand) (cells := 0) (slots := 0) (pc2 := 40) rfl dX2_begin_37 n_X2_stand l_BoxYard_Box_34 i_X2_stand e_X2_stand (ci := 2) rfl rfl (by decide) g24 rfl rfl (by decide) (by decide) (by decide) (k_X2_stand c20) ?_
  refine y_aload_n (x := p0) (pc2 := 41) rfl dX2_begin_40 rfl ?_
  refine y_bipush (v := (-9 : Int32)) (pc2 := 43) rfl dX2_begin_41 (by decide) ?_
  refine y_iconst (v := 0) (pc2 := 44) rfl dX2_begin_43 (by decide) ?_
  refine y_iconst (v := 0) (pc2 := 45) rfl dX2_begin_44 (by decide) ?_
  refine y_iconst (v := 0) (pc2 := 46) rfl dX2_begin_45 (by decide) ?_
  obtain ⟨g23, hf⟩ := y_g hf
  obtain ⟨r_, h21, c22, hf⟩ := y_clE hf
  refine y_callV (As := [.int (-9 : Int32), .int 0, .int 0, .int 0]) (rm := rm_X2_link) (cells := 0) (slots := 0) (pc2 := 49) rfl dX2_begin_46 n_X2_link l_BoxYard_Box_38 i_X2_link e_X2_link (ci := 2) rfl rfl (by decide) g23 rfl rfl (by decide) (by decide) (by decide) (k_X2_link c22) ?_
  exact y_vretF hf dX2_begin_49 rfl (by decide) (by decide)
theorem dX2_isWrong_0 : decode cX2_isWrong 0 = .ok (.aload_n 0, 1) := by decide +kernel
theorem dX2_isWrong_1 : decode cX2_isWrong 1 = .ok (.getfield 30, 3) := by decide +kernel
theorem dX2_isWrong_4 : decode cX2_isWrong 4 = .ok (.ifCond .eq 18, 3) := by decide +kernel
theorem dX2_isWrong_7 : decode cX2_isWrong 7 = .ok (.aload_n 0, 1) := by decide +kernel
theorem dX2_isWrong_8 : decode cX2_isWrong 8 = .ok (.getfield 18, 3) := by decide +kernel
theorem dX2_isWrong_11 : decode cX2_isWrong 11 = .ok (.aload_n 0, 1) := by decide +kernel
theorem dX2_isWrong_12 : decode cX2_isWrong 12 = .ok (.getfield 21, 3) := by decide +kernel
theorem dX2_isWrong_15 : decode cX2_isWrong 15 = .ok (.if_icmp .eq 7, 3) := by decide +kernel
theorem dX2_isWrong_18 : decode cX2_isWrong 18 = .ok (.iconst 1, 1) := by decide +kernel
theorem dX2_isWrong_19 : decode cX2_isWrong 19 = .ok (.goto 4, 3) := by decide +kernel
theorem dX2_isWrong_22 : decode cX2_isWrong 22 = .ok (.iconst 0, 1) := by decide +kernel
theorem dX2_isWrong_23 : decode cX2_isWrong 23 = .ok (.ireturn, 1) := by decide +kernel
def M_X2_isWrong : y_M := (yX2_isWrong, cX2_isWrong, 1, (Option.some Jvm.ClassFile.FieldType.boolean))
theorem n_X2_isWrong : y_N0 M_X2_isWrong 0 := ⟨(c_3 30 (by decide +kernel) rfl), (c_1 10 (by decide +kernel) rfl), ⟨by decide +kernel, by decide +kernel⟩, by decide +kernel⟩
set_option maxRecDepth 100000 in
def f_X2_isWrong (p0 : Nat) (h : y_H) : Option (Bool × y_H) :=
  if y_K h p0 = 3 then
  y_jn (fun (h1 : y_H) => (
      some (false, h1) : Option (Bool × y_H))) (fun j22 =>
  if (y_B h p0 10) = true then
    if y_K h p0 = 3 then
    if y_K h p0 = 3 then
    if (y_I h p0 2) = (y_I h p0 3) then
      j22 h
    else
      some (true, h)
    else none
    else none
  else
    j22 h)
  else none
abbrev rm_X2_isWrong : Room := { frames := 0, cells := 0, slots := 0, locals := 0 }
set_option maxRecDepth 100000 in
set_option maxHeartbeats 4000000 in
theorem k_X2_isWrong {l : Launch} {G : y_G} {p0 : Nat} {h hz : y_H} {rz : Bool} (hf : f_X2_isWrong p0 h = some (rz, hz)) : y_S l G M_X2_isWrong rm_X2_isWrong [y_p p0] h (some (.int (y_z rz))) hz := by
  refine y_start (lv := [(0, y_p p0)]) (by decide) (by simp [lg_sl, y_p_cat, y_ci, y_cj, M_X2_isWrong]) (by simp [lv_args, y_p_cat, y_ci, y_cj]) (fun z ad0 => ?_)
  unfold f_X2_isWrong at hf
  refine y_aload_n (x := p0) (pc2 := 1) rfl dX2_isWrong_0 rfl ?_
  obtain ⟨g6, hf⟩ := y_g hf
  refine y_getZ (pc2 := 4) rfl dX2_isWrong_1 F_BoxYard_Box_30 (by decide) rfl g6 ?_
  refine y_jnE hf (fun j => ∀ (h1 : y_H), j h1 = some (rz, hz) → y_V l G z rm_X2_isWrong M_X2_isWrong ad0 h (some (.int (y_z rz))) hz 22 [] [] h1 0 0) (fun h1 hf => ?_) (fun j22 hj22 hf => ?_)
  · refine y_iconst (v := 0) (pc2 := 23) rfl dX2_isWrong_22 (by decide) ?_
    exact y_zretF (x := false) hf dX2_isWrong_23 rfl (by decide) (by decide)
  · refine y_ifz_eq (tgt := 22) (pc2 := 7) rfl dX2_isWrong_4 (by decide) (fun c5 => ?_) (fun c5 => ?_)
    · replace hf := y_ie c5 hf
      exact y_pk [] rfl (hj22 _ hf)
    · replace hf := y_it c5 hf
      refine y_aload_n (x := p0) (pc2 := 8) rfl dX2_isWrong_7 rfl ?_
      obtain ⟨g4, hf⟩ := y_g hf
      refine y_getI (pc2 := 11) rfl dX2_isWrong_8 F_BoxYard_Box_18 (by decide) rfl g4 ?_
      refine y_aload_n (x := p0) (pc2 := 12) rfl dX2_isWrong_11 rfl ?_
      obtain ⟨g3, hf⟩ := y_g hf
      refine y_getI (pc2 := 15) rfl dX2_isWrong_12 F_BoxYard_Box_21 (by decide) rfl g3 ?_
      refine y_icmp_eq (tgt := 22) (pc2 := 18) rfl dX2_isWrong_15 (by decide) (fun c2 => ?_) (fun c2 => ?_)
      · replace hf := y_it c2 hf
        exact y_pk [] rfl (hj22 _ hf)
      · replace hf := y_ie c2 hf
        refine y_iconst (v := 1) (pc2 := 19) rfl dX2_isWrong_18 (by decide) ?_
        refine y_goto (tgt := 23) dX2_isWrong_19 (by decide) ?_
        exact y_zretF (x := true) hf dX2_isWrong_23 rfl (by decide) (by decide)
theorem dX2_isToComeTo_0 : decode cX2_isToComeTo 0 = .ok (.aload_n 0, 1) := by decide +kernel
theorem dX2_isToComeTo_1 : decode cX2_isToComeTo 1 = .ok (.getfield 41, 3) := by decide +kernel
theorem dX2_isToComeTo_4 : decode cX2_isToComeTo 4 = .ok (.iconst 3, 1) := by decide +kernel
theorem dX2_isToComeTo_5 : decode cX2_isToComeTo 5 = .ok (.if_icmp .ne 15, 3) := by decide +kernel
theorem dX2_isToComeTo_8 : decode cX2_isToComeTo 8 = .ok (.aload_n 0, 1) := by decide +kernel
theorem dX2_isToComeTo_9 : decode cX2_isToComeTo 9 = .ok (.getfield 44, 3) := by decide +kernel
theorem dX2_isToComeTo_12 : decode cX2_isToComeTo 12 = .ok (.iload_n 1, 1) := by decide +kernel
theorem dX2_isToComeTo_13 : decode cX2_isToComeTo 13 = .ok (.if_icmp .ne 7, 3) := by decide +kernel
theorem dX2_isToComeTo_16 : decode cX2_isToComeTo 16 = .ok (.iconst 1, 1) := by decide +kernel
theorem dX2_isToComeTo_17 : decode cX2_isToComeTo 17 = .ok (.goto 4, 3) := by decide +kernel
theorem dX2_isToComeTo_20 : decode cX2_isToComeTo 20 = .ok (.iconst 0, 1) := by decide +kernel
theorem dX2_isToComeTo_21 : decode cX2_isToComeTo 21 = .ok (.istore_n 2, 1) := by decide +kernel
theorem dX2_isToComeTo_22 : decode cX2_isToComeTo 22 = .ok (.aload_n 0, 1) := by decide +kernel
theorem dX2_isToComeTo_23 : decode cX2_isToComeTo 23 = .ok (.getfield 53, 3) := by decide +kernel
theorem dX2_isToComeTo_26 : decode cX2_isToComeTo 26 = .ok (.iload_n 1, 1) := by decide +kernel
theorem dX2_isToComeTo_27 : decode cX2_isToComeTo 27 = .ok (.if_icmp .ne 19, 3) := by decide +kernel
theorem dX2_isToComeTo_30 : decode cX2_isToComeTo 30 = .ok (.iload_n 2, 1) := by decide +kernel
theorem dX2_isToComeTo_31 : decode cX2_isToComeTo 31 = .ok (.ifCond .ne 15, 3) := by decide +kernel
theorem dX2_isToComeTo_34 : decode cX2_isToComeTo 34 = .ok (.aload_n 0, 1) := by decide +kernel
theorem dX2_isToComeTo_35 : decode cX2_isToComeTo 35 = .ok (.getfield 41, 3) := by decide +kernel
theorem dX2_isToComeTo_38 : decode cX2_isToComeTo 38 = .ok (.iconst 4, 1) := by decide +kernel
theorem dX2_isToComeTo_39 : decode cX2_isToComeTo 39 = .ok (.if_icmp .eq 7, 3) := by decide +kernel
theorem dX2_isToComeTo_42 : decode cX2_isToComeTo 42 = .ok (.iconst 1, 1) := by decide +kernel
theorem dX2_isToComeTo_43 : decode cX2_isToComeTo 43 = .ok (.goto 4, 3) := by decide +kernel
theorem dX2_isToComeTo_46 : decode cX2_isToComeTo 46 = .ok (.iconst 0, 1) := by decide +kernel
theorem dX2_isToComeTo_47 : decode cX2_isToComeTo 47 = .ok (.ireturn, 1) := by decide +kernel
def M_X2_isToComeTo : y_M := (yX2_isToComeTo, cX2_isToComeTo, 3, (Option.some Jvm.ClassFile.FieldType.boolean))
theorem n_X2_isToComeTo : y_N0 M_X2_isToComeTo 1 := ⟨(c_5 156 (by decide +kernel) rfl), (c_1 10 (by decide +kernel) rfl), ⟨by decide +kernel, by decide +kernel⟩, by decide +kernel⟩
theorem F_BoxYard_Box_41 : y_F "BoxYard$Box" 41 2 6 := ⟨_, _, _, rfl, by decide, Or.inl (c_2 126 (by decide +kernel) rfl)⟩
theorem F_BoxYard_Box_53 : y_F "BoxYard$Box" 53 2 11 := ⟨_, _, _, rfl, by decide, Or.inl (c_2 151 (by decide +kernel) rfl)⟩
theorem F_BoxYard_Box_44 : y_F "BoxYard$Box" 44 2 7 := ⟨_, _, _, rfl, by decide, Or.inl (c_2 132 (by decide +kernel) rfl)⟩
set_option maxRecDepth 100000 in
def f_X2_isToComeTo (p0 : Nat) (p1 : Int32) (h : y_H) : Option (Bool × y_H) :=
  if y_K h p0 = 3 then
  y_jn (fun (v0_20 : Nat) (v1_20 : Int32) (h1 : y_H) => (
      if y_K h1 v0_20 = 3 then
      y_jn (fun (h2 : y_H) => (
          some (false, h2) : Option (Bool × y_H))) (fun j46 =>
      if (y_I h1 v0_20 11) = v1_20 then
        if (0 : Int32) = 0 then
          if y_K h1 v0_20 = 3 then
          if (y_I h1 v0_20 6) = 4 then
            j46 h1
          else
            some (true, h1)
          else none
        else
          j46 h1
      else
        j46 h1)
      else none : Option (Bool × y_H))) (fun j20 =>
  if (y_I h p0 6) = 3 then
    if y_K h p0 = 3 then
    if (y_I h p0 7) = p1 then
      if y_K h p0 = 3 then
      y_jn (fun (h8 : y_H) => (
          some (false, h8) : Option (Bool × y_H))) (fun j46 =>
      if (y_I h p0 11) = p1 then
        if (1 : Int32) = 0 then
          if y_K h p0 = 3 then
          if (y_I h p0 6) = 4 then
            j46 h
          else
            some (true, h)
          else none
        else
          j46 h
      else
        j46 h)
      else none
    else
      j20 p0 p1 h
    else none
  else
    j20 p0 p1 h)
  else none
abbrev rm_X2_isToComeTo : Room := { frames := 0, cells := 0, slots := 0, locals := 0 }
set_option maxRecDepth 100000 in
set_option maxHeartbeats 4000000 in
theorem k_X2_isToComeTo {l : Launch} {G : y_G} {p0 : Nat} {p1 : Int32} {h hz : y_H} {rz : Bool} (hf : f_X2_isToComeTo p0 p1 h = some (rz, hz)) : y_S l G M_X2_isToComeTo rm_X2_isToComeTo [y_p p0, .int p1] h (some (.int (y_z rz))) hz := by
  refine y_start (lv := [(0, y_p p0), (1, .int p1)]) (by decide) (by simp [lg_sl, y_p_cat, y_ci, y_cj, M_X2_isToComeTo]) (by simp [lv_args, y_p_cat, y_ci, y_cj]) (fun z ad0 => ?_)
  unfold f_X2_isToComeTo at hf
  refine y_aload_n (x := p0) (pc2 := 1) rfl dX2_isToComeTo_0 rfl ?_
  obtain ⟨g17, hf⟩ := y_g hf
  refine y_getI (pc2 := 4) rfl dX2_isToComeTo_1 F_BoxYard_Box_41 (by decide) rfl g17 ?_
  refine y_iconst (v := 3) (pc2 := 5) rfl dX2_isToComeTo_4 (by decide) ?_
  refine y_jnE hf (fun j => ∀ (v0_20 : Nat) (v1_20 : Int32) (h1 : y_H), j v0_20 v1_20 h1 = some (rz, hz) → y_V l G z rm_X2_isToComeTo M_X2_isToComeTo ad0 h (some (.int (y_z rz))) hz 20 [(0, y_p v0_20), (1, .int v1_20)] [] h1 0 0) (fun v0_20 v1_20 h1 hf => ?_) (fun j20 hj20 hf => ?_)
  · refine y_iconst (v := 0) (pc2 := 21) rfl dX2_isToComeTo_20 (by decide) ?_
    refine y_istore_n (lv' := [(2, .int 0), (0, y_p v0_20), (1, .int v1_20)]) (pc2 := 22) rfl dX2_isToComeTo_21 (by decide) rfl ?_
    refine y_aload_n (x := v0_20) (pc2 := 23) rfl dX2_isToComeTo_22 rfl ?_
    obtain ⟨g7, hf⟩ := y_g hf
    refine y_getI (pc2 := 26) rfl dX2_isToComeTo_23 F_BoxYard_Box_53 (by decide) rfl g7 ?_
    refine y_iload_n (pc2 := 27) rfl dX2_isToComeTo_26 rfl ?_
    refine y_jnE hf (fun j => ∀ (h2 : y_H), j h2 = some (rz, hz) → y_V l G z rm_X2_isToComeTo M_X2_isToComeTo ad0 h (some (.int (y_z rz))) hz 46 [] [] h2 0 0) (fun h2 hf => ?_) (fun j46 hj46 hf => ?_)
    · refine y_iconst (v := 0) (pc2 := 47) rfl dX2_isToComeTo_46 (by decide) ?_
      exact y_zretF (x := false) hf dX2_isToComeTo_47 rfl (by decide) (by decide)
    · refine y_icmp_ne (tgt := 46) (pc2 := 30) rfl dX2_isToComeTo_27 (by decide) (fun c6 => ?_) (fun c6 => ?_)
      · replace hf := y_ie c6 hf
        exact y_pk [] rfl (hj46 _ hf)
      · replace hf := y_it c6 hf
        refine y_iload_n (pc2 := 31) rfl dX2_isToComeTo_30 rfl ?_
        refine y_if_ne (tgt := 46) (pc2 := 34) rfl dX2_isToComeTo_31 (by decide) (fun c5 => ?_) (fun c5 => ?_)
        · replace hf := y_ie c5 hf
          exact y_pk [] rfl (hj46 _ hf)
        · replace hf := y_it c5 hf
          refine y_aload_n (x := v0_20) (pc2 := 35) rfl dX2_isToComeTo_34 rfl ?_
          obtain ⟨g4, hf⟩ := y_g hf
          refine y_getI (pc2 := 38) rfl dX2_isToComeTo_35 F_BoxYard_Box_41 (by decide) rfl g4 ?_
          refine y_iconst (v := 4) (pc2 := 39) rfl dX2_isToComeTo_38 (by decide) ?_
          refine y_icmp_eq (tgt := 46) (pc2 := 42) rfl dX2_isToComeTo_39 (by decide) (fun c3 => ?_) (fun c3 => ?_)
          · replace hf := y_it c3 hf
            exact y_pk [] rfl (hj46 _ hf)
          · replace hf := y_ie c3 hf
            refine y_iconst (v := 1) (pc2 := 43) rfl dX2_isToComeTo_42 (by decide) ?_
            refine y_goto (tgt := 47) dX2_isToComeTo_43 (by decide) ?_
            exact y_zretF (x := true) hf dX2_isToComeTo_47 rfl (by decide) (by decide)
  · refine y_icmp_ne (tgt := 20) (pc2 := 8) rfl dX2_isToComeTo_5 (by decide) (fun c16 => ?_) (fun c16 => ?_)
    · replace hf := y_ie c16 hf
      exact y_pk [0, 1] rfl (hj20 _ _ _ hf)
    · replace hf := y_it c16 hf
      refine y_aload_n (x := p0) (pc2 := 9) rfl dX2_isToComeTo_8 rfl ?_
      obtain ⟨g15, hf⟩ := y_g hf
      refine y_getI (pc2 := 12) rfl dX2_isToComeTo_9 F_BoxYard_Box_44 (by decide) rfl g15 ?_
      refine y_iload_n (pc2 := 13) rfl dX2_isToComeTo_12 rfl ?_
      refine y_icmp_ne (tgt := 20) (pc2 := 16) rfl dX2_isToComeTo_13 (by decide) (fun c14 => ?_) (fun c14 => ?_)
      · replace hf := y_ie c14 hf
        exact y_pk [0, 1] rfl (hj20 _ _ _ hf)
      · replace hf := y_it c14 hf
        refine y_iconst (v := 1) (pc2 := 17) rfl dX2_isToComeTo_16 (by decide) ?_
        refine y_goto (tgt := 21) dX2_isToComeTo_17 (by decide) ?_
        refine y_istore_n (lv' := [(2, .int 1), (0, y_p p0), (1, .int p1)]) (pc2 := 22) rfl dX2_isToComeTo_21 (by decide) rfl ?_
        refine y_aload_n (x := p0) (pc2 := 23) rfl dX2_isToComeTo_22 rfl ?_
        obtain ⟨g13, hf⟩ := y_g hf
        refine y_getI (pc2 := 26) rfl dX2_isToComeTo_23 F_BoxYard_Box_53 (by decide) rfl g13 ?_
        refine y_iload_n (pc2 := 27) rfl dX2_isToComeTo_26 rfl ?_
        refine y_jnE hf (fun j => ∀ (h8 : y_H), j h8 = some (rz, hz) → y_V l G z rm_X2_isToComeTo M_X2_isToComeTo ad0 h (some (.int (y_z rz))) hz 46 [] [] h8 0 0) (fun h8 hf => ?_) (fun j46 hj46 hf => ?_)
        · refine y_iconst (v := 0) (pc2 := 47) rfl dX2_isToComeTo_46 (by decide) ?_
          exact y_zretF (x := false) hf dX2_isToComeTo_47 rfl (by decide) (by decide)
        · refine y_icmp_ne (tgt := 46) (pc2 := 30) rfl dX2_isToComeTo_27 (by decide) (fun c12 => ?_) (fun c12 => ?_)
          · replace hf := y_ie c12 hf
            exact y_pk [] rfl (hj46 _ hf)
          · replace hf := y_it c12 hf
            refine y_iload_n (pc2 := 31) rfl dX2_isToComeTo_30 rfl ?_
            refine y_if_ne (tgt := 46) (pc2 := 34) rfl dX2_isToComeTo_31 (by decide) (fun c11 => ?_) (fun c11 => ?_)
            · replace hf := y_ie c11 hf
              exact y_pk [] rfl (hj46 _ hf)
            · replace hf := y_it c11 hf
              refine y_aload_n (x := p0) (pc2 := 35) rfl dX2_isToComeTo_34 rfl ?_
              obtain ⟨g10, hf⟩ := y_g hf
              refine y_getI (pc2 := 38) rfl dX2_isToComeTo_35 F_BoxYard_Box_41 (by decide) rfl g10 ?_
              refine y_iconst (v := 4) (pc2 := 39) rfl dX2_isToComeTo_38 (by decide) ?_
              refine y_icmp_eq (tgt := 46) (pc2 := 42) rfl dX2_isToComeTo_39 (by decide) (fun c9 => ?_) (fun c9 => ?_)
              · replace hf := y_it c9 hf
                exact y_pk [] rfl (hj46 _ hf)
              · replace hf := y_ie c9 hf
                refine y_iconst (v := 1) (pc2 := 43) rfl dX2_isToComeTo_42 (by decide) ?_
                refine y_goto (tgt := 47) dX2_isToComeTo_43 (by decide) ?_
                exact y_zretF (x := true) hf dX2_isToComeTo_47 rfl (by decide) (by decide)
theorem dX2_boxFee_0 : decode cX2_boxFee 0 = .ok (.aload_n 1, 1) := by decide +kernel
theorem dX2_boxFee_1 : decode cX2_boxFee 1 = .ok (.bipush 20, 2) := by decide +kernel
theorem dX2_boxFee_3 : decode cX2_boxFee 3 = .ok (.invokevirtual 65, 3) := by decide +kernel
theorem dX2_boxFee_6 : decode cX2_boxFee 6 = .ok (.aload_n 0, 1) := by decide +kernel
theorem dX2_boxFee_7 : decode cX2_boxFee 7 = .ok (.invokevirtual 81, 3) := by decide +kernel
theorem dX2_boxFee_10 : decode cX2_boxFee 10 = .ok (.bipush 10, 2) := by decide +kernel
theorem dX2_boxFee_12 : decode cX2_boxFee 12 = .ok (.idiv, 1) := by decide +kernel
theorem dX2_boxFee_13 : decode cX2_boxFee 13 = .ok (.iconst 5, 1) := by decide +kernel
theorem dX2_boxFee_14 : decode cX2_boxFee 14 = .ok (.iadd, 1) := by decide +kernel
theorem dX2_boxFee_15 : decode cX2_boxFee 15 = .ok (.ireturn, 1) := by decide +kernel
def M_X2_boxFee : y_M := (yX2_boxFee, cX2_boxFee, 2, (Option.some Jvm.ClassFile.FieldType.int))
theorem n_X2_boxFee : y_N0 M_X2_boxFee 1 := ⟨(c_3 6 (by decide +kernel) rfl), (c_1 10 (by decide +kernel) rfl), ⟨by decide +kernel, by decide +kernel⟩, by decide +kernel⟩
theorem l_BoxYard_Box_81 : y_lnk "BoxYard$Box" 81 M_X2_known := Or.inl (c_3 7 (by decide +kernel) rfl)
set_option maxRecDepth 100000 in
def f_X2_boxFee (p0 : Nat) (p1 : Nat) (h : y_H) : Option (Int32 × y_H) :=
  if y_K h p1 = 10 then
  y_cl (f_X9_mark p1 20 h) (fun _ h1 =>
  if y_K h1 p0 = 3 then
  y_cl (f_X2_known p0 h1) (fun r3 h4 =>
  some ((r3 / 10) + 5, h4))
  else none)
  else none
abbrev rm_X2_boxFee : Room := { frames := 1, cells := 0, slots := 0, locals := 21 }
set_option maxRecDepth 100000 in
set_option maxHeartbeats 4000000 in
theorem k_X2_boxFee {l : Launch} {G : y_G} {p0 : Nat} {p1 : Nat} {h hz : y_H} {rz : Int32} (hf : f_X2_boxFee p0 p1 h = some (rz, hz)) : y_S l G M_X2_boxFee rm_X2_boxFee [y_p p0, y_p p1] h (some (.int rz)) hz := by
  refine y_start (lv := [(0, y_p p0), (1, y_p p1)]) (by decide) (by simp [lg_sl, y_p_cat, y_ci, y_cj, M_X2_boxFee]) (by simp [lv_args, y_p_cat, y_ci, y_cj]) (fun z ad0 => ?_)
  unfold f_X2_boxFee at hf
  refine y_aload_n (x := p1) (pc2 := 1) rfl dX2_boxFee_0 rfl ?_
  refine y_bipush (v := 20) (pc2 := 3) rfl dX2_boxFee_1 (by decide) ?_
  obtain ⟨g7, hf⟩ := y_g hf
  obtain ⟨r_, h1, c2, hf⟩ := y_clE hf
  refine y_callV (As := [.int 20]) (rm := rm_X9_mark) (cells := 0) (slots := 0) (pc2 := 6) rfl dX2_boxFee_3 n_X9_mark l_BoxYard_Box_65 i_X9_mark e_X9_mark (ci := 9) rfl rfl (by decide) g7 rfl rfl (by decide) (by decide) (by decide) (k_X9_mark c2) ?_
  refine y_aload_n (x := p0) (pc2 := 7) rfl dX2_boxFee_6 rfl ?_
  obtain ⟨g6, hf⟩ := y_g hf
  obtain ⟨r3, h4, c5, hf⟩ := y_clE hf
  refine y_callV (As := []) (rm := rm_X2_known) (cells := 0) (slots := 0) (pc2 := 10) rfl dX2_boxFee_7 n_X2_known l_BoxYard_Box_81 i_X2_known e_X2_known (ci := 2) rfl rfl (by decide) g6 rfl rfl (by decide) (by decide) (by decide) (k_X2_known c5) ?_
  refine y_bipush (v := 10) (pc2 := 12) rfl dX2_boxFee_10 (by decide) ?_
  refine y_idiv (pc2 := 13) rfl dX2_boxFee_12 (by decide) ?_
  refine y_iconst (v := 5) (pc2 := 14) rfl dX2_boxFee_13 (by decide) ?_
  refine y_iadd (pc2 := 15) rfl dX2_boxFee_14 ?_
  exact y_iretF hf dX2_boxFee_15 rfl (by decide) (by decide)
theorem dX2_fee_0 : decode cX2_fee 0 = .ok (.aload_n 0, 1) := by decide +kernel
theorem dX2_fee_1 : decode cX2_fee 1 = .ok (.getfield 15, 3) := by decide +kernel
theorem dX2_fee_4 : decode cX2_fee 4 = .ok (.tableswitch 122 1 5 #[36, 51, 71, 85, 108], 36) := by decide +kernel
theorem dX2_fee_40 : decode cX2_fee 40 = .ok (.aload_n 1, 1) := by decide +kernel
theorem dX2_fee_41 : decode cX2_fee 41 = .ok (.bipush 22, 2) := by decide +kernel
theorem dX2_fee_43 : decode cX2_fee 43 = .ok (.invokevirtual 65, 3) := by decide +kernel
theorem dX2_fee_46 : decode cX2_fee 46 = .ok (.aload_n 0, 1) := by decide +kernel
theorem dX2_fee_47 : decode cX2_fee 47 = .ok (.aload_n 1, 1) := by decide +kernel
theorem dX2_fee_48 : decode cX2_fee 48 = .ok (.invokevirtual 78, 3) := by decide +kernel
theorem dX2_fee_51 : decode cX2_fee 51 = .ok (.bipush 40, 2) := by decide +kernel
theorem dX2_fee_53 : decode cX2_fee 53 = .ok (.iadd, 1) := by decide +kernel
theorem dX2_fee_54 : decode cX2_fee 54 = .ok (.ireturn, 1) := by decide +kernel
theorem dX2_fee_55 : decode cX2_fee 55 = .ok (.aload_n 1, 1) := by decide +kernel
theorem dX2_fee_56 : decode cX2_fee 56 = .ok (.bipush 23, 2) := by decide +kernel
theorem dX2_fee_58 : decode cX2_fee 58 = .ok (.invokevirtual 65, 3) := by decide +kernel
theorem dX2_fee_61 : decode cX2_fee 61 = .ok (.aload_n 0, 1) := by decide +kernel
theorem dX2_fee_62 : decode cX2_fee 62 = .ok (.aload_n 1, 1) := by decide +kernel
theorem dX2_fee_63 : decode cX2_fee 63 = .ok (.invokevirtual 78, 3) := by decide +kernel
theorem dX2_fee_66 : decode cX2_fee 66 = .ok (.bipush 10, 2) := by decide +kernel
theorem dX2_fee_68 : decode cX2_fee 68 = .ok (.aload_n 0, 1) := by decide +kernel
theorem dX2_fee_69 : decode cX2_fee 69 = .ok (.getfield 24, 3) := by decide +kernel
theorem dX2_fee_72 : decode cX2_fee 72 = .ok (.imul, 1) := by decide +kernel
theorem dX2_fee_73 : decode cX2_fee 73 = .ok (.iadd, 1) := by decide +kernel
theorem dX2_fee_74 : decode cX2_fee 74 = .ok (.ireturn, 1) := by decide +kernel
theorem dX2_fee_75 : decode cX2_fee 75 = .ok (.aload_n 1, 1) := by decide +kernel
theorem dX2_fee_76 : decode cX2_fee 76 = .ok (.bipush 24, 2) := by decide +kernel
theorem dX2_fee_78 : decode cX2_fee 78 = .ok (.invokevirtual 65, 3) := by decide +kernel
theorem dX2_fee_81 : decode cX2_fee 81 = .ok (.iconst 2, 1) := by decide +kernel
theorem dX2_fee_82 : decode cX2_fee 82 = .ok (.aload_n 0, 1) := by decide +kernel
theorem dX2_fee_83 : decode cX2_fee 83 = .ok (.aload_n 1, 1) := by decide +kernel
theorem dX2_fee_84 : decode cX2_fee 84 = .ok (.invokevirtual 78, 3) := by decide +kernel
theorem dX2_fee_87 : decode cX2_fee 87 = .ok (.imul, 1) := by decide +kernel
theorem dX2_fee_88 : decode cX2_fee 88 = .ok (.ireturn, 1) := by decide +kernel
theorem dX2_fee_89 : decode cX2_fee 89 = .ok (.aload_n 1, 1) := by decide +kernel
theorem dX2_fee_90 : decode cX2_fee 90 = .ok (.bipush 25, 2) := by decide +kernel
theorem dX2_fee_92 : decode cX2_fee 92 = .ok (.invokevirtual 65, 3) := by decide +kernel
theorem dX2_fee_95 : decode cX2_fee 95 = .ok (.aload_n 1, 1) := by decide +kernel
theorem dX2_fee_96 : decode cX2_fee 96 = .ok (.bipush 24, 2) := by decide +kernel
theorem dX2_fee_98 : decode cX2_fee 98 = .ok (.invokevirtual 65, 3) := by decide +kernel
theorem dX2_fee_101 : decode cX2_fee 101 = .ok (.iconst 2, 1) := by decide +kernel
theorem dX2_fee_102 : decode cX2_fee 102 = .ok (.aload_n 0, 1) := by decide +kernel
theorem dX2_fee_103 : decode cX2_fee 103 = .ok (.aload_n 1, 1) := by decide +kernel
theorem dX2_fee_104 : decode cX2_fee 104 = .ok (.invokevirtual 78, 3) := by decide +kernel
theorem dX2_fee_107 : decode cX2_fee 107 = .ok (.imul, 1) := by decide +kernel
theorem dX2_fee_108 : decode cX2_fee 108 = .ok (.bipush 30, 2) := by decide +kernel
theorem dX2_fee_110 : decode cX2_fee 110 = .ok (.iadd, 1) := by decide +kernel
theorem dX2_fee_111 : decode cX2_fee 111 = .ok (.ireturn, 1) := by decide +kernel
theorem dX2_fee_112 : decode cX2_fee 112 = .ok (.aload_n 1, 1) := by decide +kernel
theorem dX2_fee_113 : decode cX2_fee 113 = .ok (.bipush 26, 2) := by decide +kernel
theorem dX2_fee_115 : decode cX2_fee 115 = .ok (.invokevirtual 65, 3) := by decide +kernel
theorem dX2_fee_118 : decode cX2_fee 118 = .ok (.aload_n 1, 1) := by decide +kernel
theorem dX2_fee_119 : decode cX2_fee 119 = .ok (.bipush 27, 2) := by decide +kernel
theorem dX2_fee_121 : decode cX2_fee 121 = .ok (.invokevirtual 65, 3) := by decide +kernel
theorem dX2_fee_124 : decode cX2_fee 124 = .ok (.iconst 3, 1) := by decide +kernel
theorem dX2_fee_125 : decode cX2_fee 125 = .ok (.ireturn, 1) := by decide +kernel
theorem dX2_fee_126 : decode cX2_fee 126 = .ok (.aload_n 0, 1) := by decide +kernel
theorem dX2_fee_127 : decode cX2_fee 127 = .ok (.aload_n 1, 1) := by decide +kernel
theorem dX2_fee_128 : decode cX2_fee 128 = .ok (.invokevirtual 78, 3) := by decide +kernel
theorem dX2_fee_131 : decode cX2_fee 131 = .ok (.ireturn, 1) := by decide +kernel
def M_X2_fee : y_M := (yX2_fee, cX2_fee, 2, (Option.some Jvm.ClassFile.FieldType.int))
theorem n_X2_fee : y_N0 M_X2_fee 1 := ⟨(c_3 2 (by decide +kernel) rfl), (c_1 10 (by decide +kernel) rfl), ⟨by decide +kernel, by decide +kernel⟩, by decide +kernel⟩
theorem l_BoxYard_Box_78 : y_lnk "BoxYard$Box" 78 M_X2_boxFee := Or.inl (c_3 3 (by decide +kernel) rfl)
theorem i_X2_boxFee : Cond.instanceMethod (M_X2_boxFee).1 ∈ y_tb := (c_3 5 (by decide +kernel) rfl)
theorem e_X2_boxFee : Cond.selects (M_X2_boxFee).1.cls (M_X2_boxFee).1 (M_X2_boxFee).1 ∈ y_tb := (m_s 3 (by decide +kernel) rfl)
theorem F_BoxYard_Box_24 : y_F "BoxYard$Box" 24 2 4 := ⟨_, _, _, rfl, by decide, Or.inl (c_2 121 (by decide +kernel) rfl)⟩
set_option maxRecDepth 100000 in
def f_X2_fee (p0 : Nat) (p1 : Nat) (h : y_H) : Option (Int32 × y_H) :=
  if y_K h p0 = 3 then
  if (y_I h p0 1) = 1 then
    if y_K h p1 = 10 then
    y_cl (f_X9_mark p1 22 h) (fun _ h2 =>
    if y_K h2 p0 = 3 then
    y_cl (f_X2_boxFee p0 p1 h2) (fun r4 h5 =>
    some (r4 + 40, h5))
    else none)
    else none
  else
  if (y_I h p0 1) = 2 then
    if y_K h p1 = 10 then
    y_cl (f_X9_mark p1 23 h) (fun _ h10 =>
    if y_K h10 p0 = 3 then
    y_cl (f_X2_boxFee p0 p1 h10) (fun r12 h13 =>
    if y_K h13 p0 = 3 then
    some (r12 + (10 * (y_I h13 p0 4)), h13)
    else none)
    else none)
    else none
  else
  if (y_I h p0 1) = 3 then
    if y_K h p1 = 10 then
    y_cl (f_X9_mark p1 24 h) (fun _ h19 =>
    if y_K h19 p0 = 3 then
    y_cl (f_X2_boxFee p0 p1 h19) (fun r21 h22 =>
    some (2 * r21, h22))
    else none)
    else none
  else
  if (y_I h p0 1) = 4 then
    if y_K h p1 = 10 then
    y_cl (f_X9_mark p1 25 h) (fun _ h27 =>
    if y_K h27 p1 = 10 then
    y_cl (f_X9_mark p1 24 h27) (fun _ h29 =>
    if y_K h29 p0 = 3 then
    y_cl (f_X2_boxFee p0 p1 h29) (fun r31 h32 =>
    some ((2 * r31) + 30, h32))
    else none)
    else none)
    else none
  else
  if (y_I h p0 1) = 5 then
    if y_K h p1 = 10 then
    y_cl (f_X9_mark p1 26 h) (fun _ h38 =>
    if y_K h38 p1 = 10 then
    y_cl (f_X9_mark p1 27 h38) (fun _ h40 =>
    some (3, h40))
    else none)
    else none
  else
  if y_K h p0 = 3 then
  y_cl (f_X2_boxFee p0 p1 h) (fun r44 h45 =>
  some (r44, h45))
  else none
  else none
abbrev rm_X2_fee : Room := { frames := 2, cells := 0, slots := 0, locals := 42 }
set_option maxRecDepth 100000 in
set_option maxHeartbeats 4000000 in
theorem k_X2_fee {l : Launch} {G : y_G} {p0 : Nat} {p1 : Nat} {h hz : y_H} {rz : Int32} (hf : f_X2_fee p0 p1 h = some (rz, hz)) : y_S l G M_X2_fee rm_X2_fee [y_p p0, y_p p1] h (some (.int rz)) hz := by
  refine y_start (lv := [(0, y_p p0), (1, y_p p1)]) (by decide) (by simp [lg_sl, y_p_cat, y_ci, y_cj, M_X2_fee]) (by simp [lv_args, y_p_cat, y_ci, y_cj]) (fun z ad0 => ?_)
  unfold f_X2_fee at hf
  refine y_aload_n (x := p0) (pc2 := 1) rfl dX2_fee_0 rfl ?_
  obtain ⟨g48, hf⟩ := y_g hf
  refine y_getI (pc2 := 4) rfl dX2_fee_1 F_BoxYard_Box_15 (by decide) rfl g48 ?_
  by_cases c1 : (y_I h p0 1) = 1
  · replace hf := y_it c1 hf
    refine y_table (off := 36) (tgt := 40) dX2_fee_4 (by (rw [c1]) <;> decide) (by decide) ?_
    refine y_aload_n (x := p1) (pc2 := 41) rfl dX2_fee_40 rfl ?_
    refine y_bipush (v := 22) (pc2 := 43) rfl dX2_fee_41 (by decide) ?_
    obtain ⟨g8, hf⟩ := y_g hf
    obtain ⟨r_, h2, c3, hf⟩ := y_clE hf
    refine y_callV (As := [.int 22]) (rm := rm_X9_mark) (cells := 0) (slots := 0) (pc2 := 46) rfl dX2_fee_43 n_X9_mark l_BoxYard_Box_65 i_X9_mark e_X9_mark (ci := 9) rfl rfl (by decide) g8 rfl rfl (by decide) (by decide) (by decide) (k_X9_mark c3) ?_
    refine y_aload_n (x := p0) (pc2 := 47) rfl dX2_fee_46 rfl ?_
    refine y_aload_n (x := p1) (pc2 := 48) rfl dX2_fee_47 rfl ?_
    obtain ⟨g7, hf⟩ := y_g hf
    obtain ⟨r4, h5, c6, hf⟩ := y_clE hf
    refine y_callV (As := [y_p p1]) (rm := rm_X2_boxFee) (cells := 0) (slots := 0) (pc2 := 51) rfl dX2_fee_48 n_X2_boxFee l_BoxYard_Box_78 i_X2_boxFee e_X2_boxFee (ci := 2) rfl rfl (by decide) g7 rfl rfl (by decide) (by decide) (by decide) (k_X2_boxFee c6) ?_
    refine y_bipush (v := 40) (pc2 := 53) rfl dX2_fee_51 (by decide) ?_
    refine y_iadd (pc2 := 54) rfl dX2_fee_53 ?_
    exact y_iretF hf dX2_fee_54 rfl (by decide) (by decide)
  · replace hf := y_ie c1 hf
    by_cases c9 : (y_I h p0 1) = 2
    · replace hf := y_it c9 hf
      refine y_table (off := 51) (tgt := 55) dX2_fee_4 (by (rw [c9]) <;> decide) (by decide) ?_
      refine y_aload_n (x := p1) (pc2 := 56) rfl dX2_fee_55 rfl ?_
      refine y_bipush (v := 23) (pc2 := 58) rfl dX2_fee_56 (by decide) ?_
      obtain ⟨g17, hf⟩ := y_g hf
      obtain ⟨r_, h10, c11, hf⟩ := y_clE hf
      refine y_callV (As := [.int 23]) (rm := rm_X9_mark) (cells := 0) (slots := 0) (pc2 := 61) rfl dX2_fee_58 n_X9_mark l_BoxYard_Box_65 i_X9_mark e_X9_mark (ci := 9) rfl rfl (by decide) g17 rfl rfl (by decide) (by decide) (by decide) (k_X9_mark c11) ?_
      refine y_aload_n (x := p0) (pc2 := 62) rfl dX2_fee_61 rfl ?_
      refine y_aload_n (x := p1) (pc2 := 63) rfl dX2_fee_62 rfl ?_
      obtain ⟨g16, hf⟩ := y_g hf
      obtain ⟨r12, h13, c14, hf⟩ := y_clE hf
      refine y_callV (As := [y_p p1]) (rm := rm_X2_boxFee) (cells := 0) (slots := 0) (pc2 := 66) rfl dX2_fee_63 n_X2_boxFee l_BoxYard_Box_78 i_X2_boxFee e_X2_boxFee (ci := 2) rfl rfl (by decide) g16 rfl rfl (by decide) (by decide) (by decide) (k_X2_boxFee c14) ?_
      refine y_bipush (v := 10) (pc2 := 68) rfl dX2_fee_66 (by decide) ?_
      refine y_aload_n (x := p0) (pc2 := 69) rfl dX2_fee_68 rfl ?_
      obtain ⟨g15, hf⟩ := y_g hf
      refine y_getI (pc2 := 72) rfl dX2_fee_69 F_BoxYard_Box_24 (by decide) rfl g15 ?_
      refine y_imul (pc2 := 73) rfl dX2_fee_72 ?_
      refine y_iadd (pc2 := 74) rfl dX2_fee_73 ?_
      exact y_iretF hf dX2_fee_74 rfl (by decide) (by decide)
    · replace hf := y_ie c9 hf
      by_cases c18 : (y_I h p0 1) = 3
      · replace hf := y_it c18 hf
        refine y_table (off := 71) (tgt := 75) dX2_fee_4 (by (rw [c18]) <;> decide) (by decide) ?_
        refine y_aload_n (x := p1) (pc2 := 76) rfl dX2_fee_75 rfl ?_
        refine y_bipush (v := 24) (pc2 := 78) rfl dX2_fee_76 (by decide) ?_
        obtain ⟨g25, hf⟩ := y_g hf
        obtain ⟨r_, h19, c20, hf⟩ := y_clE hf
        refine y_callV (As := [.int 24]) (rm := rm_X9_mark) (cells := 0) (slots := 0) (pc2 := 81) rfl dX2_fee_78 n_X9_mark l_BoxYard_Box_65 i_X9_mark e_X9_mark (ci := 9) rfl rfl (by decide) g25 rfl rfl (by decide) (by decide) (by decide) (k_X9_mark c20) ?_
        refine y_iconst (v := 2) (pc2 := 82) rfl dX2_fee_81 (by decide) ?_
        refine y_aload_n (x := p0) (pc2 := 83) rfl dX2_fee_82 rfl ?_
        refine y_aload_n (x := p1) (pc2 := 84) rfl dX2_fee_83 rfl ?_
        obtain ⟨g24, hf⟩ := y_g hf
        obtain ⟨r21, h22, c23, hf⟩ := y_clE hf
        refine y_callV (As := [y_p p1]) (rm := rm_X2_boxFee) (cells := 0) (slots := 0) (pc2 := 87) rfl dX2_fee_84 n_X2_boxFee l_BoxYard_Box_78 i_X2_boxFee e_X2_boxFee (ci := 2) rfl rfl (by decide) g24 rfl rfl (by decide) (by simp [y_ci, y_cj, y_p_cat]) (by decide) (k_X2_boxFee c23) ?_
        refine y_imul (pc2 := 88) rfl dX2_fee_87 ?_
        exact y_iretF hf dX2_fee_88 rfl (by decide) (by decide)
      · replace hf := y_ie c18 hf
        by_cases c26 : (y_I h p0 1) = 4
        · replace hf := y_it c26 hf
          refine y_table (off := 85) (tgt := 89) dX2_fee_4 (by (rw [c26]) <;> decide) (by decide) ?_
          refine y_aload_n (x := p1) (pc2 := 90) rfl dX2_fee_89 rfl ?_
          refine y_bipush (v := 25) (pc2 := 92) rfl dX2_fee_90 (by decide) ?_
          obtain ⟨g36, hf⟩ := y_g hf
          obtain ⟨r_, h27, c28, hf⟩ := y_clE hf
          refine y_callV (As := [.int 25]) (rm := rm_X9_mark) (cells := 0) (slots := 0) (pc2 := 95) rfl dX2_fee_92 n_X9_mark l_BoxYard_Box_65 i_X9_mark e_X9_mark (ci := 9) rfl rfl (by decide) g36 rfl rfl (by decide) (by decide) (by decide) (k_X9_mark c28) ?_
          refine y_aload_n (x := p1) (pc2 := 96) rfl dX2_fee_95 rfl ?_
          refine y_bipush (v := 24) (pc2 := 98) rfl dX2_fee_96 (by decide) ?_
          obtain ⟨g35, hf⟩ := y_g hf
          obtain ⟨r_, h29, c30, hf⟩ := y_clE hf
          refine y_callV (As := [.int 24]) (rm := rm_X9_mark) (cells := 0) (slots := 0) (pc2 := 101) rfl dX2_fee_98 n_X9_mark l_BoxYard_Box_65 i_X9_mark e_X9_mark (ci := 9) rfl rfl (by decide) g35 rfl rfl (by decide) (by decide) (by decide) (k_X9_mark c30) ?_
          refine y_iconst (v := 2) (pc2 := 102) rfl dX2_fee_101 (by decide) ?_
          refine y_aload_n (x := p0) (pc2 := 103) rfl dX2_fee_102 rfl ?_
          refine y_aload_n (x := p1) (pc2 := 104) rfl dX2_fee_103 rfl ?_
          obtain ⟨g34, hf⟩ := y_g hf
          obtain ⟨r31, h32, c33, hf⟩ := y_clE hf
          refine y_callV (As := [y_p p1]) (rm := rm_X2_boxFee) (cells := 0) (slots := 0) (pc2 := 107) rfl dX2_fee_104 n_X2_boxFee l_BoxYard_Box_78 i_X2_boxFee e_X2_boxFee (ci := 2) rfl rfl (by decide) g34 rfl rfl (by decide) (by simp [y_ci, y_cj, y_p_cat]) (by decide) (k_X2_boxFee c33) ?_
          refine y_imul (pc2 := 108) rfl dX2_fee_107 ?_
          refine y_bipush (v := 30) (pc2 := 110) rfl dX2_fee_108 (by decide) ?_
          refine y_iadd (pc2 := 111) rfl dX2_fee_110 ?_
          exact y_iretF hf dX2_fee_111 rfl (by decide) (by decide)
        · replace hf := y_ie c26 hf
          by_cases c37 : (y_I h p0 1) = 5
          · replace hf := y_it c37 hf
            refine y_table (off := 108) (tgt := 112) dX2_fee_4 (by (rw [c37]) <;> decide) (by decide) ?_
            refine y_aload_n (x := p1) (pc2 := 113) rfl dX2_fee_112 rfl ?_
            refine y_bipush (v := 26) (pc2 := 115) rfl dX2_fee_113 (by decide) ?_
            obtain ⟨g43, hf⟩ := y_g hf
            obtain ⟨r_, h38, c39, hf⟩ := y_clE hf
            refine y_callV (As := [.int 26]) (rm := rm_X9_mark) (cells := 0) (slots := 0) (pc2 := 118) rfl dX2_fee_115 n_X9_mark l_BoxYard_Box_65 i_X9_mark e_X9_mark (ci := 9) rfl rfl (by decide) g43 rfl rfl (by decide) (by decide) (by decide) (k_X9_mark c39) ?_
            refine y_aload_n (x := p1) (pc2 := 119) rfl dX2_fee_118 rfl ?_
            refine y_bipush (v := 27) (pc2 := 121) rfl dX2_fee_119 (by decide) ?_
            obtain ⟨g42, hf⟩ := y_g hf
            obtain ⟨r_, h40, c41, hf⟩ := y_clE hf
            refine y_callV (As := [.int 27]) (rm := rm_X9_mark) (cells := 0) (slots := 0) (pc2 := 124) rfl dX2_fee_121 n_X9_mark l_BoxYard_Box_65 i_X9_mark e_X9_mark (ci := 9) rfl rfl (by decide) g42 rfl rfl (by decide) (by decide) (by decide) (k_X9_mark c41) ?_
            refine y_iconst (v := 3) (pc2 := 125) rfl dX2_fee_124 (by decide) ?_
            exact y_iretF hf dX2_fee_125 rfl (by decide) (by decide)
          · replace hf := y_ie c37 hf
            refine y_table (off := 122) (tgt := 126) dX2_fee_4 ((if_pos (by have q0 := lv_neT c1 (a := 1) (by decide); have q1 := lv_neT c9 (a := 2) (by decide); have q2 := lv_neT c18 (a := 3) (by decide); have q3 := lv_neT c26 (a := 4) (by decide); have q4 := lv_neT c37 (a := 5) (by decide); omega))) (by decide) ?_
            refine y_aload_n (x := p0) (pc2 := 127) rfl dX2_fee_126 rfl ?_
            refine y_aload_n (x := p1) (pc2 := 128) rfl dX2_fee_127 rfl ?_
            obtain ⟨g47, hf⟩ := y_g hf
            obtain ⟨r44, h45, c46, hf⟩ := y_clE hf
            refine y_callV (As := [y_p p1]) (rm := rm_X2_boxFee) (cells := 0) (slots := 0) (pc2 := 131) rfl dX2_fee_128 n_X2_boxFee l_BoxYard_Box_78 i_X2_boxFee e_X2_boxFee (ci := 2) rfl rfl (by decide) g47 rfl rfl (by decide) (by decide) (by decide) (k_X2_boxFee c46) ?_
            exact y_iretF hf dX2_fee_131 rfl (by decide) (by decide)
