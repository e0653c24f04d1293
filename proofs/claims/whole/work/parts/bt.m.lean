theorem dX8_init_0 : decode cX8_init 0 = .ok (.aload_n 0, 1) := by decide +kernel
theorem dX8_init_1 : decode cX8_init 1 = .ok (.invokespecial 3, 3) := by decide +kernel
theorem dX8_init_4 : decode cX8_init 4 = .ok (.aload_n 0, 1) := by decide +kernel
theorem dX8_init_5 : decode cX8_init 5 = .ok (.bipush 60, 2) := by decide +kernel
theorem dX8_init_7 : decode cX8_init 7 = .ok (.newarray .int, 2) := by decide +kernel
theorem dX8_init_9 : decode cX8_init 9 = .ok (.putfield 11, 3) := by decide +kernel
theorem dX8_init_12 : decode cX8_init 12 = .ok (.aload_n 0, 1) := by decide +kernel
theorem dX8_init_13 : decode cX8_init 13 = .ok (.bipush 60, 2) := by decide +kernel
theorem dX8_init_15 : decode cX8_init 15 = .ok (.newarray .int, 2) := by decide +kernel
theorem dX8_init_17 : decode cX8_init 17 = .ok (.putfield 15, 3) := by decide +kernel
theorem dX8_init_20 : decode cX8_init 20 = .ok (.aload_n 0, 1) := by decide +kernel
theorem dX8_init_21 : decode cX8_init 21 = .ok (.bipush 60, 2) := by decide +kernel
theorem dX8_init_23 : decode cX8_init 23 = .ok (.newarray .int, 2) := by decide +kernel
theorem dX8_init_25 : decode cX8_init 25 = .ok (.putfield 18, 3) := by decide +kernel
theorem dX8_init_28 : decode cX8_init 28 = .ok (.aload_n 0, 1) := by decide +kernel
theorem dX8_init_29 : decode cX8_init 29 = .ok (.bipush 6, 2) := by decide +kernel
theorem dX8_init_31 : decode cX8_init 31 = .ok (.newarray .int, 2) := by decide +kernel
theorem dX8_init_33 : decode cX8_init 33 = .ok (.putfield 21, 3) := by decide +kernel
theorem dX8_init_36 : decode cX8_init 36 = .ok (.aload_n 0, 1) := by decide +kernel
theorem dX8_init_37 : decode cX8_init 37 = .ok (.bipush (-9), 2) := by decide +kernel
theorem dX8_init_39 : decode cX8_init 39 = .ok (.putfield 24, 3) := by decide +kernel
theorem dX8_init_42 : decode cX8_init 42 = .ok (.aload_n 0, 1) := by decide +kernel
theorem dX8_init_43 : decode cX8_init 43 = .ok (.bipush (-9), 2) := by decide +kernel
theorem dX8_init_45 : decode cX8_init 45 = .ok (.putfield 28, 3) := by decide +kernel
theorem dX8_init_48 : decode cX8_init 48 = .ok (.aload_n 0, 1) := by decide +kernel
theorem dX8_init_49 : decode cX8_init 49 = .ok (.bipush (-9), 2) := by decide +kernel
theorem dX8_init_51 : decode cX8_init 51 = .ok (.putfield 31, 3) := by decide +kernel
theorem dX8_init_54 : decode cX8_init 54 = .ok (.aload_n 0, 1) := by decide +kernel
theorem dX8_init_55 : decode cX8_init 55 = .ok (.iconst 4, 1) := by decide +kernel
theorem dX8_init_56 : decode cX8_init 56 = .ok (.iconst 3, 1) := by decide +kernel
theorem dX8_init_57 : decode cX8_init 57 = .ok (.multianewarray 34 2, 4) := by decide +kernel
theorem dX8_init_61 : decode cX8_init 61 = .ok (.putfield 36, 3) := by decide +kernel
theorem dX8_init_64 : decode cX8_init 64 = .ok (.aload_n 0, 1) := by decide +kernel
theorem dX8_init_65 : decode cX8_init 65 = .ok (.iconst 4, 1) := by decide +kernel
theorem dX8_init_66 : decode cX8_init 66 = .ok (.newarray .int, 2) := by decide +kernel
theorem dX8_init_68 : decode cX8_init 68 = .ok (.putfield 39, 3) := by decide +kernel
theorem dX8_init_71 : decode cX8_init 71 = .ok (.aload_n 0, 1) := by decide +kernel
theorem dX8_init_72 : decode cX8_init 72 = .ok (.aload_n 1, 1) := by decide +kernel
theorem dX8_init_73 : decode cX8_init 73 = .ok (.putfield 42, 3) := by decide +kernel
theorem dX8_init_76 : decode cX8_init 76 = .ok (.aload_n 0, 1) := by decide +kernel
theorem dX8_init_77 : decode cX8_init 77 = .ok (.invokevirtual 46, 3) := by decide +kernel
theorem dX8_init_80 : decode cX8_init 80 = .ok (.return_, 1) := by decide +kernel
def M_X8_init : y_M := (yX8_init, cX8_init, 2, (Option.none : Option Jvm.ClassFile.FieldType))
theorem n_X8_init : y_N0 M_X8_init 1 := ⟨(c_2 15 (by decide +kernel) rfl), (c_1 8 (by decide +kernel) rfl), ⟨by decide +kernel, by decide +kernel⟩, by decide +kernel⟩
theorem l_BoxYard_Tasks_3 : Cond.methodLink "BoxYard$Tasks" 3 Lib.objectInit ∈ y_tb := (c_2 16 (by decide +kernel) rfl)
theorem Fp_BoxYard_Tasks_11_i : y_Fp "BoxYard$Tasks" "<init>" 11 8 1 := ⟨_, _, _, rfl, by decide, Or.inr ⟨rfl, rfl, rfl, (c_2 25 (by decide +kernel) rfl)⟩⟩
theorem Fp_BoxYard_Tasks_15_i : y_Fp "BoxYard$Tasks" "<init>" 15 8 2 := ⟨_, _, _, rfl, by decide, Or.inr ⟨rfl, rfl, rfl, (c_2 26 (by decide +kernel) rfl)⟩⟩
theorem Fp_BoxYard_Tasks_18_i : y_Fp "BoxYard$Tasks" "<init>" 18 8 3 := ⟨_, _, _, rfl, by decide, Or.inr ⟨rfl, rfl, rfl, (c_2 27 (by decide +kernel) rfl)⟩⟩
theorem Fp_BoxYard_Tasks_21_i : y_Fp "BoxYard$Tasks" "<init>" 21 8 4 := ⟨_, _, _, rfl, by decide, Or.inr ⟨rfl, rfl, rfl, (c_2 28 (by decide +kernel) rfl)⟩⟩
theorem Fp_BoxYard_Tasks_24_i {nm : String} : y_Fp "BoxYard$Tasks" nm 24 8 7 := ⟨_, _, _, rfl, by decide, Or.inl ⟨rfl, Or.inl (c_2 32 (by decide +kernel) rfl)⟩⟩
theorem Fp_BoxYard_Tasks_28_i {nm : String} : y_Fp "BoxYard$Tasks" nm 28 8 8 := ⟨_, _, _, rfl, by decide, Or.inl ⟨rfl, Or.inl (c_2 33 (by decide +kernel) rfl)⟩⟩
theorem Fp_BoxYard_Tasks_31_i {nm : String} : y_Fp "BoxYard$Tasks" nm 31 8 11 := ⟨_, _, _, rfl, by decide, Or.inl ⟨rfl, Or.inl (c_2 37 (by decide +kernel) rfl)⟩⟩
theorem cl_BoxYard_Tasks_34 : Cond.classLink "BoxYard$Tasks" 34 "[[I" ∈ y_tb := (c_2 17 (by decide +kernel) rfl)
theorem Fp_BoxYard_Tasks_36_i : y_Fp "BoxYard$Tasks" "<init>" 36 8 12 := ⟨_, _, _, rfl, by decide, Or.inr ⟨rfl, rfl, rfl, (c_2 38 (by decide +kernel) rfl)⟩⟩
theorem Fp_BoxYard_Tasks_39_i : y_Fp "BoxYard$Tasks" "<init>" 39 8 13 := ⟨_, _, _, rfl, by decide, Or.inr ⟨rfl, rfl, rfl, (c_2 40 (by decide +kernel) rfl)⟩⟩
theorem Fp_BoxYard_Tasks_42_i : y_Fp "BoxYard$Tasks" "<init>" 42 8 0 := ⟨_, _, _, rfl, by decide, Or.inr ⟨rfl, rfl, rfl, (c_2 24 (by decide +kernel) rfl)⟩⟩
set_option maxRecDepth 100000 in
abbrev FF_X8_init : Nat := 2
abbrev LL_X8_init : Nat := 44
set_option maxRecDepth 100000 in
set_option maxHeartbeats 4000000 in
theorem k_X8_init {l : Launch} {G : y_G} {p0 : Nat} {p1 : Nat} {c0 s0 cz sz : Nat} {h hz : y_H} {rz : Unit} (hf : f_X8_init p0 p1 c0 s0 h = some ((rz, cz, sz), hz)) : (c0 ≤ cz ∧ s0 ≤ sz) ∧ y_S l G M_X8_init (y_Rm FF_X8_init LL_X8_init c0 s0 cz sz) [y_p p0, y_p p1] h none hz := by
  refine y_Ustart (lv := [(0, y_p p0), (1, y_p p1)]) (by decide) (by simp [lg_sl, y_p_cat, y_ci, y_cj, M_X8_init]) (by simp [lv_args, y_p_cat, y_ci, y_cj]) (fun z ad0 => ?_)
  unfold f_X8_init at hf
  refine y_lf (fun _ _ _ _ k => y_aload_n (x := p0) (pc2 := 1) rfl dX8_init_0 rfl k) ?_
  obtain ⟨g1, hf⟩ := y_g hf
  refine y_lf (fun _ _ _ _ k => y_oinit (pc2 := 4) rfl dX8_init_1 l_BoxYard_Tasks_3 (by rw [g1]; decide) (Nat.le_of_ble_eq_true rfl) (Nat.le_of_ble_eq_true rfl) (by decide) k) ?_
  refine y_lf (fun _ _ _ _ k => y_aload_n (x := p0) (pc2 := 5) rfl dX8_init_4 rfl k) ?_
  refine y_lf (fun _ _ _ _ k => y_bipush (v := 60) (pc2 := 7) rfl dX8_init_5 (by decide) k) ?_
  obtain ⟨g2, hf⟩ := y_g hf
  obtain ⟨h4, e3, hf⟩ := y_bdE hf
  refine y_Unewa (t := 0) (n := 39) (pc2 := 9) rfl dX8_init_7 (by decide) rfl rfl rfl ac_0 g2 e3 ?_
  obtain ⟨g7, hf⟩ := y_g hf
  obtain ⟨h5, e6, hf⟩ := y_bdE hf
  refine y_lf (fun _ _ _ _ k => y_putP (x := 39) (pc2 := 12) rfl dX8_init_9 Fp_BoxYard_Tasks_11_i (by decide) rfl g7 e6 k) ?_
  refine y_lf (fun _ _ _ _ k => y_aload_n (x := p0) (pc2 := 13) rfl dX8_init_12 rfl k) ?_
  refine y_lf (fun _ _ _ _ k => y_bipush (v := 60) (pc2 := 15) rfl dX8_init_13 (by decide) k) ?_
  obtain ⟨g8, hf⟩ := y_g hf
  obtain ⟨h10, e9, hf⟩ := y_bdE hf
  refine y_Unewa (t := 0) (n := 103) (pc2 := 17) rfl dX8_init_15 (by decide) rfl rfl rfl ac_0 g8 e9 ?_
  obtain ⟨g13, hf⟩ := y_g hf
  obtain ⟨h11, e12, hf⟩ := y_bdE hf
  refine y_lf (fun _ _ _ _ k => y_putP (x := 103) (pc2 := 20) rfl dX8_init_17 Fp_BoxYard_Tasks_15_i (by decide) rfl g13 e12 k) ?_
  refine y_lf (fun _ _ _ _ k => y_aload_n (x := p0) (pc2 := 21) rfl dX8_init_20 rfl k) ?_
  refine y_lf (fun _ _ _ _ k => y_bipush (v := 60) (pc2 := 23) rfl dX8_init_21 (by decide) k) ?_
  obtain ⟨g14, hf⟩ := y_g hf
  obtain ⟨h16, e15, hf⟩ := y_bdE hf
  refine y_Unewa (t := 0) (n := 167) (pc2 := 25) rfl dX8_init_23 (by decide) rfl rfl rfl ac_0 g14 e15 ?_
  obtain ⟨g19, hf⟩ := y_g hf
  obtain ⟨h17, e18, hf⟩ := y_bdE hf
  refine y_lf (fun _ _ _ _ k => y_putP (x := 167) (pc2 := 28) rfl dX8_init_25 Fp_BoxYard_Tasks_18_i (by decide) rfl g19 e18 k) ?_
  refine y_lf (fun _ _ _ _ k => y_aload_n (x := p0) (pc2 := 29) rfl dX8_init_28 rfl k) ?_
  refine y_lf (fun _ _ _ _ k => y_bipush (v := 6) (pc2 := 31) rfl dX8_init_29 (by decide) k) ?_
  obtain ⟨g20, hf⟩ := y_g hf
  obtain ⟨h22, e21, hf⟩ := y_bdE hf
  refine y_Unewa (t := 0) (n := 231) (pc2 := 33) rfl dX8_init_31 (by decide) rfl rfl rfl ac_0 g20 e21 ?_
  obtain ⟨g25, hf⟩ := y_g hf
  obtain ⟨h23, e24, hf⟩ := y_bdE hf
  refine y_lf (fun _ _ _ _ k => y_putP (x := 231) (pc2 := 36) rfl dX8_init_33 Fp_BoxYard_Tasks_21_i (by decide) rfl g25 e24 k) ?_
  refine y_lf (fun _ _ _ _ k => y_aload_n (x := p0) (pc2 := 37) rfl dX8_init_36 rfl k) ?_
  refine y_lf (fun _ _ _ _ k => y_bipush (v := (-9 : Int32)) (pc2 := 39) rfl dX8_init_37 (by decide) k) ?_
  obtain ⟨g28, hf⟩ := y_g hf
  obtain ⟨h26, e27, hf⟩ := y_bdE hf
  refine y_lf (fun _ _ _ _ k => y_putI (x := (-9 : Int32)) (pc2 := 42) rfl dX8_init_39 Fp_BoxYard_Tasks_24_i (by decide) rfl g28 e27 k) ?_
  refine y_lf (fun _ _ _ _ k => y_aload_n (x := p0) (pc2 := 43) rfl dX8_init_42 rfl k) ?_
  refine y_lf (fun _ _ _ _ k => y_bipush (v := (-9 : Int32)) (pc2 := 45) rfl dX8_init_43 (by decide) k) ?_
  obtain ⟨g31, hf⟩ := y_g hf
  obtain ⟨h29, e30, hf⟩ := y_bdE hf
  refine y_lf (fun _ _ _ _ k => y_putI (x := (-9 : Int32)) (pc2 := 48) rfl dX8_init_45 Fp_BoxYard_Tasks_28_i (by decide) rfl g31 e30 k) ?_
  refine y_lf (fun _ _ _ _ k => y_aload_n (x := p0) (pc2 := 49) rfl dX8_init_48 rfl k) ?_
  refine y_lf (fun _ _ _ _ k => y_bipush (v := (-9 : Int32)) (pc2 := 51) rfl dX8_init_49 (by decide) k) ?_
  obtain ⟨g34, hf⟩ := y_g hf
  obtain ⟨h32, e33, hf⟩ := y_bdE hf
  refine y_lf (fun _ _ _ _ k => y_putI (x := (-9 : Int32)) (pc2 := 54) rfl dX8_init_51 Fp_BoxYard_Tasks_31_i (by decide) rfl g34 e33 k) ?_
  refine y_lf (fun _ _ _ _ k => y_aload_n (x := p0) (pc2 := 55) rfl dX8_init_54 rfl k) ?_
  refine y_lf (fun _ _ _ _ k => y_iconst (v := 4) (pc2 := 56) rfl dX8_init_55 (by decide) k) ?_
  refine y_lf (fun _ _ _ _ k => y_iconst (v := 3) (pc2 := 57) rfl dX8_init_56 (by decide) k) ?_
  obtain ⟨g35, hf⟩ := y_g hf
  obtain ⟨h37, e36, hf⟩ := y_bdE hf
  refine y_Umna (n := 295) (pc2 := 61) rfl dX8_init_57 cl_BoxYard_Tasks_34 g35 e36 ?_
  obtain ⟨g40, hf⟩ := y_g hf
  obtain ⟨h38, e39, hf⟩ := y_bdE hf
  refine y_lf (fun _ _ _ _ k => y_putP (x := 295) (pc2 := 64) rfl dX8_init_61 Fp_BoxYard_Tasks_36_i (by decide) rfl g40 e39 k) ?_
  refine y_lf (fun _ _ _ _ k => y_aload_n (x := p0) (pc2 := 65) rfl dX8_init_64 rfl k) ?_
  refine y_lf (fun _ _ _ _ k => y_iconst (v := 4) (pc2 := 66) rfl dX8_init_65 (by decide) k) ?_
  obtain ⟨g41, hf⟩ := y_g hf
  obtain ⟨h43, e42, hf⟩ := y_bdE hf
  refine y_Unewa (t := 0) (n := 359) (pc2 := 68) rfl dX8_init_66 (by decide) rfl rfl rfl ac_0 g41 e42 ?_
  obtain ⟨g46, hf⟩ := y_g hf
  obtain ⟨h44, e45, hf⟩ := y_bdE hf
  refine y_lf (fun _ _ _ _ k => y_putP (x := 359) (pc2 := 71) rfl dX8_init_68 Fp_BoxYard_Tasks_39_i (by decide) rfl g46 e45 k) ?_
  refine y_lf (fun _ _ _ _ k => y_aload_n (x := p0) (pc2 := 72) rfl dX8_init_71 rfl k) ?_
  refine y_lf (fun _ _ _ _ k => y_aload_n (x := p1) (pc2 := 73) rfl dX8_init_72 rfl k) ?_
  obtain ⟨g49, hf⟩ := y_g hf
  obtain ⟨h47, e48, hf⟩ := y_bdE hf
  refine y_lf (fun _ _ _ _ k => y_putP (x := p1) (pc2 := 76) rfl dX8_init_73 Fp_BoxYard_Tasks_42_i (by decide) rfl g49 e48 k) ?_
  refine y_lf (fun _ _ _ _ k => y_aload_n (x := p0) (pc2 := 77) rfl dX8_init_76 rfl k) ?_
  obtain ⟨g52, hf⟩ := y_g hf
  obtain ⟨r_, h50, c51, hf⟩ := y_clE hf
  refine y_UcV0 (As := []) (rm := rm_X8_emptyShelves) (pc2 := 80) rfl dX8_init_77 n_X8_emptyShelves l_BoxYard_Tasks_46 i_X8_emptyShelves e_X8_emptyShelves (ci := 8) rfl rfl (by decide) g52 rfl rfl (by decide) (by decide) rfl rfl (k_X8_emptyShelves c51) ?_
  exact y_vretU hf dX8_init_80 rfl
theorem dX11_init_0 : decode cX11_init 0 = .ok (.aload_n 0, 1) := by decide +kernel
theorem dX11_init_1 : decode cX11_init 1 = .ok (.invokespecial 1, 3) := by decide +kernel
theorem dX11_init_4 : decode cX11_init 4 = .ok (.aload_n 0, 1) := by decide +kernel
theorem dX11_init_5 : decode cX11_init 5 = .ok (.new 7, 3) := by decide +kernel
theorem dX11_init_8 : decode cX11_init 8 = .ok (.dup, 1) := by decide +kernel
theorem dX11_init_9 : decode cX11_init 9 = .ok (.invokespecial 9, 3) := by decide +kernel
theorem dX11_init_12 : decode cX11_init 12 = .ok (.putfield 10, 3) := by decide +kernel
theorem dX11_init_15 : decode cX11_init 15 = .ok (.aload_n 0, 1) := by decide +kernel
theorem dX11_init_16 : decode cX11_init 16 = .ok (.new 16, 3) := by decide +kernel
theorem dX11_init_19 : decode cX11_init 19 = .ok (.dup, 1) := by decide +kernel
theorem dX11_init_20 : decode cX11_init 20 = .ok (.invokespecial 18, 3) := by decide +kernel
theorem dX11_init_23 : decode cX11_init 23 = .ok (.putfield 19, 3) := by decide +kernel
theorem dX11_init_26 : decode cX11_init 26 = .ok (.aload_n 0, 1) := by decide +kernel
theorem dX11_init_27 : decode cX11_init 27 = .ok (.new 23, 3) := by decide +kernel
theorem dX11_init_30 : decode cX11_init 30 = .ok (.dup, 1) := by decide +kernel
theorem dX11_init_31 : decode cX11_init 31 = .ok (.invokespecial 25, 3) := by decide +kernel
theorem dX11_init_34 : decode cX11_init 34 = .ok (.putfield 26, 3) := by decide +kernel
theorem dX11_init_37 : decode cX11_init 37 = .ok (.aload_n 0, 1) := by decide +kernel
theorem dX11_init_38 : decode cX11_init 38 = .ok (.new 30, 3) := by decide +kernel
theorem dX11_init_41 : decode cX11_init 41 = .ok (.dup, 1) := by decide +kernel
theorem dX11_init_42 : decode cX11_init 42 = .ok (.aload_n 0, 1) := by decide +kernel
theorem dX11_init_43 : decode cX11_init 43 = .ok (.getfield 10, 3) := by decide +kernel
theorem dX11_init_46 : decode cX11_init 46 = .ok (.invokespecial 32, 3) := by decide +kernel
theorem dX11_init_49 : decode cX11_init 49 = .ok (.putfield 35, 3) := by decide +kernel
theorem dX11_init_52 : decode cX11_init 52 = .ok (.aload_n 0, 1) := by decide +kernel
theorem dX11_init_53 : decode cX11_init 53 = .ok (.bipush 8, 2) := by decide +kernel
theorem dX11_init_55 : decode cX11_init 55 = .ok (.newarray .int, 2) := by decide +kernel
theorem dX11_init_57 : decode cX11_init 57 = .ok (.putfield 39, 3) := by decide +kernel
theorem dX11_init_60 : decode cX11_init 60 = .ok (.aload_n 0, 1) := by decide +kernel
theorem dX11_init_61 : decode cX11_init 61 = .ok (.iconst 3, 1) := by decide +kernel
theorem dX11_init_62 : decode cX11_init 62 = .ok (.newarray .int, 2) := by decide +kernel
theorem dX11_init_64 : decode cX11_init 64 = .ok (.putfield 43, 3) := by decide +kernel
theorem dX11_init_67 : decode cX11_init 67 = .ok (.aload_n 0, 1) := by decide +kernel
theorem dX11_init_68 : decode cX11_init 68 = .ok (.getfield 43, 3) := by decide +kernel
theorem dX11_init_71 : decode cX11_init 71 = .ok (.bipush (-9), 2) := by decide +kernel
theorem dX11_init_73 : decode cX11_init 73 = .ok (.invokestatic 46, 3) := by decide +kernel
theorem dX11_init_76 : decode cX11_init 76 = .ok (.aload_n 0, 1) := by decide +kernel
theorem dX11_init_77 : decode cX11_init 77 = .ok (.iconst 0, 1) := by decide +kernel
theorem dX11_init_78 : decode cX11_init 78 = .ok (.putfield 52, 3) := by decide +kernel
theorem dX11_init_81 : decode cX11_init 81 = .ok (.return_, 1) := by decide +kernel
def M_X11_init : y_M := (yX11_init, cX11_init, 1, (Option.none : Option Jvm.ClassFile.FieldType))
theorem n_X11_init : y_N0 M_X11_init 0 := ⟨(c_1 21 (by decide +kernel) rfl), (c_1 1 (by decide +kernel) rfl), ⟨by decide +kernel, by decide +kernel⟩, by decide +kernel⟩
theorem l_BoxYard_1 : Cond.methodLink "BoxYard" 1 Lib.objectInit ∈ y_tb := (c_1 22 (by decide +kernel) rfl)
theorem cl_BoxYard_7 : Cond.classLink "BoxYard" 7 "BoxYard$Yard" ∈ y_tb := (c_1 25 (by decide +kernel) rfl)
theorem in_c10 : Cond.instantiable "BoxYard$Yard" 13 ∈ y_tb := (c_1 26 (by decide +kernel) rfl)
theorem ii_c10 : Cond.initialized "BoxYard$Yard" ∈ y_tb := (c_1 2 (by decide +kernel) rfl)
theorem ok_c10 : ∀ k, k < 13 → y_okt (t_f 10 k) = true := by decide
theorem l_BoxYard_9 : y_lnk "BoxYard" 9 M_X10_init := Or.inl (c_1 27 (by decide +kernel) rfl)
theorem i_X10_init : Cond.instanceMethod (M_X10_init).1 ∈ y_tb := (c_1 28 (by decide +kernel) rfl)
theorem Fp_BoxYard_10_i : y_Fp "BoxYard" "<init>" 10 11 0 := ⟨_, _, _, rfl, by decide, Or.inr ⟨rfl, rfl, rfl, (c_2 71 (by decide +kernel) rfl)⟩⟩
theorem cl_BoxYard_16 : Cond.classLink "BoxYard" 16 "BoxYard$Journal" ∈ y_tb := (c_1 107 (by decide +kernel) rfl)
theorem in_c5 : Cond.instantiable "BoxYard$Journal" 5 ∈ y_tb := (c_1 108 (by decide +kernel) rfl)
theorem ii_c5 : Cond.initialized "BoxYard$Journal" ∈ y_tb := (c_1 5 (by decide +kernel) rfl)
theorem ok_c5 : ∀ k, k < 5 → y_okt (t_f 5 k) = true := by decide
theorem l_BoxYard_18 : y_lnk "BoxYard" 18 M_X5_init := Or.inr ⟨"BoxYard", (c_1 109 (by decide +kernel) rfl)⟩
theorem i_X5_init : Cond.instanceMethod (M_X5_init).1 ∈ y_tb := (c_1 110 (by decide +kernel) rfl)
theorem Fp_BoxYard_19_i : y_Fp "BoxYard" "<init>" 19 11 1 := ⟨_, _, _, rfl, by decide, Or.inr ⟨rfl, rfl, rfl, (c_2 72 (by decide +kernel) rfl)⟩⟩
theorem cl_BoxYard_23 : Cond.classLink "BoxYard" 23 "BoxYard$Digging" ∈ y_tb := (c_1 207 (by decide +kernel) rfl)
theorem in_c4 : Cond.instantiable "BoxYard$Digging" 10 ∈ y_tb := (c_1 208 (by decide +kernel) rfl)
theorem ii_c4 : Cond.initialized "BoxYard$Digging" ∈ y_tb := (c_1 7 (by decide +kernel) rfl)
theorem ok_c4 : ∀ k, k < 10 → y_okt (t_f 4 k) = true := by decide
theorem l_BoxYard_25 : y_lnk "BoxYard" 25 M_X4_init := Or.inr ⟨"BoxYard", (c_1 209 (by decide +kernel) rfl)⟩
theorem i_X4_init : Cond.instanceMethod (M_X4_init).1 ∈ y_tb := (c_1 210 (by decide +kernel) rfl)
theorem Fp_BoxYard_26_i : y_Fp "BoxYard" "<init>" 26 11 2 := ⟨_, _, _, rfl, by decide, Or.inr ⟨rfl, rfl, rfl, (c_2 73 (by decide +kernel) rfl)⟩⟩
theorem cl_BoxYard_30 : Cond.classLink "BoxYard" 30 "BoxYard$Tasks" ∈ y_tb := (c_2 11 (by decide +kernel) rfl)
theorem in_c8 : Cond.instantiable "BoxYard$Tasks" 14 ∈ y_tb := (c_2 12 (by decide +kernel) rfl)
theorem ii_c8 : Cond.initialized "BoxYard$Tasks" ∈ y_tb := (c_1 8 (by decide +kernel) rfl)
theorem ok_c8 : ∀ k, k < 14 → y_okt (t_f 8 k) = true := by decide
theorem l_BoxYard_32 : y_lnk "BoxYard" 32 M_X8_init := Or.inl (c_2 13 (by decide +kernel) rfl)
theorem i_X8_init : Cond.instanceMethod (M_X8_init).1 ∈ y_tb := (c_2 14 (by decide +kernel) rfl)
theorem Fp_BoxYard_35_i : y_Fp "BoxYard" "<init>" 35 11 3 := ⟨_, _, _, rfl, by decide, Or.inr ⟨rfl, rfl, rfl, (c_2 74 (by decide +kernel) rfl)⟩⟩
theorem Fp_BoxYard_39_i : y_Fp "BoxYard" "<init>" 39 11 4 := ⟨_, _, _, rfl, by decide, Or.inr ⟨rfl, rfl, rfl, (c_2 75 (by decide +kernel) rfl)⟩⟩
theorem Fp_BoxYard_43_i : y_Fp "BoxYard" "<init>" 43 11 5 := ⟨_, _, _, rfl, by decide, Or.inr ⟨rfl, rfl, rfl, (c_2 76 (by decide +kernel) rfl)⟩⟩
theorem Fp_BoxYard_52_i {nm : String} : y_Fp "BoxYard" nm 52 11 6 := ⟨_, _, _, rfl, by decide, Or.inl ⟨rfl, Or.inl (c_2 77 (by decide +kernel) rfl)⟩⟩
set_option maxRecDepth 100000 in
abbrev FF_X11_init : Nat := 3
abbrev LL_X11_init : Nat := 65
set_option maxRecDepth 100000 in
set_option maxHeartbeats 4000000 in
theorem k_X11_init {l : Launch} {G : y_G} {p0 : Nat} {c0 s0 cz sz : Nat} {h hz : y_H} {rz : Unit} (hf : f_X11_init p0 c0 s0 h = some ((rz, cz, sz), hz)) : (c0 ≤ cz ∧ s0 ≤ sz) ∧ y_S l G M_X11_init (y_Rm FF_X11_init LL_X11_init c0 s0 cz sz) [y_p p0] h none hz := by
  refine y_Ustart (lv := [(0, y_p p0)]) (by decide) (by simp [lg_sl, y_p_cat, y_ci, y_cj, M_X11_init]) (by simp [lv_args, y_p_cat, y_ci, y_cj]) (fun z ad0 => ?_)
  unfold f_X11_init at hf
  refine y_lf (fun _ _ _ _ k => y_aload_n (x := p0) (pc2 := 1) rfl dX11_init_0 rfl k) ?_
  obtain ⟨g1, hf⟩ := y_g hf
  refine y_lf (fun _ _ _ _ k => y_oinit (pc2 := 4) rfl dX11_init_1 l_BoxYard_1 (by rw [g1]; decide) (Nat.le_of_ble_eq_true rfl) (Nat.le_of_ble_eq_true rfl) (by decide) k) ?_
  refine y_lf (fun _ _ _ _ k => y_aload_n (x := p0) (pc2 := 5) rfl dX11_init_4 rfl k) ?_
  obtain ⟨g2, hf⟩ := y_g hf
  obtain ⟨h4, e3, hf⟩ := y_bdE hf
  refine y_Unew (n := 12) (pc2 := 8) rfl dX11_init_5 cl_BoxYard_7 in_c10 ii_c10 rfl (by decide) ok_c10 g2 e3 ?_
  refine y_lf (fun _ _ _ _ k => y_dup (pc2 := 9) rfl dX11_init_8 (y_p_cat _) k) ?_
  obtain ⟨g60, hf⟩ := y_g hf
  obtain ⟨r7, h5, c6, hf⟩ := y_clE hf
  refine y_UcallI (As := []) (pc2 := 12) rfl dX11_init_9 n_X10_init rfl rfl l_BoxYard_9 i_X10_init g60 rfl rfl (by decide) (by simp [y_ci, y_cj, y_p_cat]) (k_X10_init c6) ?_
  obtain ⟨g10, hf⟩ := y_g hf
  obtain ⟨h8, e9, hf⟩ := y_bdE hf
  refine y_lf (fun _ _ _ _ k => y_putP (x := 12) (pc2 := 15) rfl dX11_init_12 Fp_BoxYard_10_i (by decide) rfl g10 e9 k) ?_
  refine y_lf (fun _ _ _ _ k => y_aload_n (x := p0) (pc2 := 16) rfl dX11_init_15 rfl k) ?_
  obtain ⟨g11, hf⟩ := y_g hf
  obtain ⟨h13, e12, hf⟩ := y_bdE hf
  refine y_Unew (n := 13) (pc2 := 19) rfl dX11_init_16 cl_BoxYard_16 in_c5 ii_c5 rfl (by decide) ok_c5 g11 e12 ?_
  refine y_lf (fun _ _ _ _ k => y_dup (pc2 := 20) rfl dX11_init_19 (y_p_cat _) k) ?_
  obtain ⟨g59, hf⟩ := y_g hf
  obtain ⟨r16, h14, c15, hf⟩ := y_clE hf
  refine y_UcallI (As := []) (pc2 := 23) rfl dX11_init_20 n_X5_init rfl rfl l_BoxYard_18 i_X5_init g59 rfl rfl (by decide) (by simp [y_ci, y_cj, y_p_cat]) (k_X5_init c15) ?_
  obtain ⟨g19, hf⟩ := y_g hf
  obtain ⟨h17, e18, hf⟩ := y_bdE hf
  refine y_lf (fun _ _ _ _ k => y_putP (x := 13) (pc2 := 26) rfl dX11_init_23 Fp_BoxYard_19_i (by decide) rfl g19 e18 k) ?_
  refine y_lf (fun _ _ _ _ k => y_aload_n (x := p0) (pc2 := 27) rfl dX11_init_26 rfl k) ?_
  obtain ⟨g20, hf⟩ := y_g hf
  obtain ⟨h22, e21, hf⟩ := y_bdE hf
  refine y_Unew (n := 14) (pc2 := 30) rfl dX11_init_27 cl_BoxYard_23 in_c4 ii_c4 rfl (by decide) ok_c4 g20 e21 ?_
  refine y_lf (fun _ _ _ _ k => y_dup (pc2 := 31) rfl dX11_init_30 (y_p_cat _) k) ?_
  obtain ⟨g58, hf⟩ := y_g hf
  obtain ⟨r25, h23, c24, hf⟩ := y_clE hf
  refine y_UcallI (As := []) (pc2 := 34) rfl dX11_init_31 n_X4_init rfl rfl l_BoxYard_25 i_X4_init g58 rfl rfl (by decide) (by simp [y_ci, y_cj, y_p_cat]) (k_X4_init c24) ?_
  obtain ⟨g28, hf⟩ := y_g hf
  obtain ⟨h26, e27, hf⟩ := y_bdE hf
  refine y_lf (fun _ _ _ _ k => y_putP (x := 14) (pc2 := 37) rfl dX11_init_34 Fp_BoxYard_26_i (by decide) rfl g28 e27 k) ?_
  refine y_lf (fun _ _ _ _ k => y_aload_n (x := p0) (pc2 := 38) rfl dX11_init_37 rfl k) ?_
  obtain ⟨g29, hf⟩ := y_g hf
  obtain ⟨h31, e30, hf⟩ := y_bdE hf
  refine y_Unew (n := 15) (pc2 := 41) rfl dX11_init_38 cl_BoxYard_30 in_c8 ii_c8 rfl (by decide) ok_c8 g29 e30 ?_
  refine y_lf (fun _ _ _ _ k => y_dup (pc2 := 42) rfl dX11_init_41 (y_p_cat _) k) ?_
  refine y_lf (fun _ _ _ _ k => y_aload_n (x := p0) (pc2 := 43) rfl dX11_init_42 rfl k) ?_
  obtain ⟨g57, hf⟩ := y_g hf
  refine y_lf (fun _ _ _ _ k => y_getP (pc2 := 46) rfl dX11_init_43 F_BoxYard_10 (by decide) rfl g57 k) ?_
  obtain ⟨g56, hf⟩ := y_g hf
  obtain ⟨r34, h32, c33, hf⟩ := y_clE hf
  refine y_UcallI (As := [y_p (y_P h31 p0 0)]) (pc2 := 49) rfl dX11_init_46 n_X8_init rfl rfl l_BoxYard_32 i_X8_init g56 rfl rfl (by decide) (by simp [y_ci, y_cj, y_p_cat]) (k_X8_init c33) ?_
  obtain ⟨g37, hf⟩ := y_g hf
  obtain ⟨h35, e36, hf⟩ := y_bdE hf
  refine y_lf (fun _ _ _ _ k => y_putP (x := 15) (pc2 := 52) rfl dX11_init_49 Fp_BoxYard_35_i (by decide) rfl g37 e36 k) ?_
  refine y_lf (fun _ _ _ _ k => y_aload_n (x := p0) (pc2 := 53) rfl dX11_init_52 rfl k) ?_
  refine y_lf (fun _ _ _ _ k => y_bipush (v := 8) (pc2 := 55) rfl dX11_init_53 (by decide) k) ?_
  obtain ⟨g38, hf⟩ := y_g hf
  obtain ⟨h40, e39, hf⟩ := y_bdE hf
  refine y_Unewa (t := 0) (n := 36) (pc2 := 57) rfl dX11_init_55 (by decide) rfl rfl rfl ac_0 g38 e39 ?_
  obtain ⟨g43, hf⟩ := y_g hf
  obtain ⟨h41, e42, hf⟩ := y_bdE hf
  refine y_lf (fun _ _ _ _ k => y_putP (x := 36) (pc2 := 60) rfl dX11_init_57 Fp_BoxYard_39_i (by decide) rfl g43 e42 k) ?_
  refine y_lf (fun _ _ _ _ k => y_aload_n (x := p0) (pc2 := 61) rfl dX11_init_60 rfl k) ?_
  refine y_lf (fun _ _ _ _ k => y_iconst (v := 3) (pc2 := 62) rfl dX11_init_61 (by decide) k) ?_
  obtain ⟨g44, hf⟩ := y_g hf
  obtain ⟨h46, e45, hf⟩ := y_bdE hf
  refine y_Unewa (t := 0) (n := 100) (pc2 := 64) rfl dX11_init_62 (by decide) rfl rfl rfl ac_0 g44 e45 ?_
  obtain ⟨g49, hf⟩ := y_g hf
  obtain ⟨h47, e48, hf⟩ := y_bdE hf
  refine y_lf (fun _ _ _ _ k => y_putP (x := 100) (pc2 := 67) rfl dX11_init_64 Fp_BoxYard_43_i (by decide) rfl g49 e48 k) ?_
  refine y_lf (fun _ _ _ _ k => y_aload_n (x := p0) (pc2 := 68) rfl dX11_init_67 rfl k) ?_
  obtain ⟨g55, hf⟩ := y_g hf
  refine y_lf (fun _ _ _ _ k => y_getP (pc2 := 71) rfl dX11_init_68 F_BoxYard_43 (by decide) rfl g55 k) ?_
  refine y_lf (fun _ _ _ _ k => y_bipush (v := (-9 : Int32)) (pc2 := 73) rfl dX11_init_71 (by decide) k) ?_
  obtain ⟨r_, h50, c51, hf⟩ := y_clE hf
  refine y_UcS0 (As := [y_p (y_P h47 p0 5), .int (-9 : Int32)]) (rm := rm_J7_fill_53178) (pc2 := 76) rfl dX11_init_73 n_J7_fill_53178 l_BoxYard_46 t_J7_fill_53178 rfl rfl (by decide) (by decide) rfl rfl (k_J7_fill_53178 c51) ?_
  refine y_lf (fun _ _ _ _ k => y_aload_n (x := p0) (pc2 := 77) rfl dX11_init_76 rfl k) ?_
  refine y_lf (fun _ _ _ _ k => y_iconst (v := 0) (pc2 := 78) rfl dX11_init_77 (by decide) k) ?_
  obtain ⟨g54, hf⟩ := y_g hf
  obtain ⟨h52, e53, hf⟩ := y_bdE hf
  refine y_lf (fun _ _ _ _ k => y_putI (x := 0) (pc2 := 81) rfl dX11_init_78 Fp_BoxYard_52_i (by decide) rfl g54 e53 k) ?_
  exact y_vretU hf dX11_init_81 rfl
