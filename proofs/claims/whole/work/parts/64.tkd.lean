section TD
variable {h hN hL : y_H} {t e N C S A c n : Nat}
/-- the class's end of an act that hangs a box: hL is what leave leaves -/
theorem c_hangdone {x : Int32} (wN : Sh hN) (wL : Sh hL) (l : f_X10_leave 12 (64 * n + 20) hN = some ((), hL)) (Kb : y_K hL (64 * n + 20) = 3) (KcN : y_K hN (64 * c + 21) = 4) (en : y_I hN (64 * c + 21) 0 = nI c) (r : RCl hL C) (hc : c < C) (e13 : y_I hL 13 4 = x) : ∃ hM H1, f_X10_hold 12 (64 * c + 21) (64 * n + 20) hN = some ((), hM) ∧ Sh hM ∧ y_K hM (64 * c + 21) = 4 ∧ f_X11_ended 10 (64 * c + 21) 0 hM = some (x, H1) ∧ ag (fun a k => a = 64 * n + 20 ∧ 6 ≤ k ∧ k ≤ 10 ∨ a = 64 * c + 21 ∧ (k = 4 ∨ k = 5 ∨ k = 7) ∨ a = 10 ∧ k = 6) (fun _ => False) hL H1
    ∧ y_I H1 (64 * n + 20) 6 = 2 ∧ y_I H1 (64 * n + 20) 7 = nI c ∧ y_I H1 (64 * n + 20) 8 = 0 ∧ y_I H1 (64 * n + 20) 9 = 0 ∧ y_B H1 (64 * n + 20) 10 = true ∧ y_P H1 (64 * c + 21) 4 = 64 * n + 20 ∧ y_I H1 (64 * c + 21) 5 = y_I hL (64 * c + 21) 5 + 1 ∧ y_B H1 (64 * c + 21) 7 = true ∧ y_I H1 10 6 = 0 := by
  have KcL : y_K hL (64 * c + 21) = 4 := (r.2.2 c hc).2.1
  have gS : ag (fun a k => a = 64 * n + 20 ∧ 6 ≤ k ∧ k ≤ 9) (fun _ => False) hL (s_I (s_I (s_I (s_I hL (64 * n + 20) 6 2) (64 * n + 20) 7 (nI c)) (64 * n + 20) 8 0) (64 * n + 20) 9 0) := by ((repeat' (first | exact ag.refl _ _ _ | apply ag.sI | apply ag.sB | apply ag.sP | apply ag.sL | (apply ag.cm) | (apply ag.mm))) <;> (first | omega | (dsimp only; omega) | (intro k; dsimp only; omega)))
  have wS : Sh (s_I (s_I (s_I (s_I hL (64 * n + 20) 6 2) (64 * n + 20) 7 (nI c)) (64 * n + 20) 8 0) (64 * n + 20) 9 0) := wL
  have rS : RCl (s_I (s_I (s_I (s_I hL (64 * n + 20) 6 2) (64 * n + 20) 7 (nI c)) (64 * n + 20) 8 0) (64 * n + 20) 9 0) C := ⟨r.1, (gS.I (by omega)).trans r.2.1, fun d hd => by
    obtain ⟨x1, x2, x3, x4⟩ := r.2.2 d hd
    exact ⟨(gS.P (by omega)).trans x1, (gS.K fun q => q).trans x2, (gS.I (by omega)).trans (x3.trans (gS.I (by omega)).symm), (gS.I (by omega)).trans (x4.trans (gS.I (by omega)).symm)⟩⟩
  have a := c_arrive2 (h := s_I (s_I (s_I (s_I hL (64 * n + 20) 6 2) (64 * n + 20) 7 (nI c)) (64 * n + 20) 8 0) (64 * n + 20) 9 0) (p := 64 * n + 20) (c := c) wS Kb (by simp (disch := omega) only [e_KI, e_NI, e_BI, e_LI, e_PI, e_KB, e_NB, e_IB, e_LB, e_PB, e_KL, e_NL, e_IL, e_BL, e_PL, e_KP, e_NP, e_IP, e_BP, e_LP, e_IIs, e_BBs, e_LLs, e_PPs, e_IIn, e_BBn, e_LLn, e_PPn, e_IIk, e_BBk, e_LLk, e_PPk]) (by simp (disch := omega) only [e_KI, e_NI, e_BI, e_LI, e_PI, e_KB, e_NB, e_IB, e_LB, e_PB, e_KL, e_NL, e_IL, e_BL, e_PL, e_KP, e_NP, e_IP, e_BP, e_LP, e_IIs, e_BBs, e_LLs, e_PPs, e_IIn, e_BBn, e_LLn, e_PPn, e_IIk, e_BBk, e_LLk, e_PPk]) rS hc
  have b := c_bring wN wL l Kb a
  have hd := c_hold wN KcN en b (by simp only [e_KP, e_KI]; exact Kb) (by simp only [e_KP, e_KI]; exact KcL)
  have gM : ag (fun a k => a = 64 * n + 20 ∧ 6 ≤ k ∧ k ≤ 10 ∨ a = 64 * c + 21 ∧ (k = 4 ∨ k = 5)) (fun _ => False) hL (s_I (s_B (s_P (s_I (s_I (s_I (s_I hL (64 * n + 20) 6 2) (64 * n + 20) 7 (nI c)) (64 * n + 20) 8 0) (64 * n + 20) 9 0) (64 * c + 21) 4 (64 * n + 20)) (64 * n + 20) 10 true) (64 * c + 21) 5 (y_I (s_P (s_I (s_I (s_I (s_I hL (64 * n + 20) 6 2) (64 * n + 20) 7 (nI c)) (64 * n + 20) 8 0) (64 * n + 20) 9 0) (64 * c + 21) 4 (64 * n + 20)) (64 * c + 21) 5 + 1)) := by ((repeat' (first | exact ag.refl _ _ _ | apply ag.sI | apply ag.sB | apply ag.sP | apply ag.sL | (apply ag.cm) | (apply ag.mm))) <;> (first | omega | (dsimp only; omega) | (intro k; dsimp only; omega)))
  have v6 : y_I (s_I (s_B (s_P (s_I (s_I (s_I (s_I hL (64 * n + 20) 6 2) (64 * n + 20) 7 (nI c)) (64 * n + 20) 8 0) (64 * n + 20) 9 0) (64 * c + 21) 4 (64 * n + 20)) (64 * n + 20) 10 true) (64 * c + 21) 5 (y_I (s_P (s_I (s_I (s_I (s_I hL (64 * n + 20) 6 2) (64 * n + 20) 7 (nI c)) (64 * n + 20) 8 0) (64 * n + 20) 9 0) (64 * c + 21) 4 (64 * n + 20)) (64 * c + 21) 5 + 1)) (64 * c + 21) 5 = y_I hL (64 * c + 21) 5 + 1 := by
    simp (disch := omega) only [e_KI, e_NI, e_BI, e_LI, e_PI, e_KB, e_NB, e_IB, e_LB, e_PB, e_KL, e_NL, e_IL, e_BL, e_PL, e_KP, e_NP, e_IP, e_BP, e_LP, e_IIs, e_BBs, e_LLs, e_PPs, e_IIn, e_BBn, e_LLn, e_PPn, e_IIk, e_BBk, e_LLk, e_PPk]
  have vv : ∀ X, X = s_I (s_B (s_P (s_I (s_I (s_I (s_I hL (64 * n + 20) 6 2) (64 * n + 20) 7 (nI c)) (64 * n + 20) 8 0) (64 * n + 20) 9 0) (64 * c + 21) 4 (64 * n + 20)) (64 * n + 20) 10 true) (64 * c + 21) 5 (y_I (s_P (s_I (s_I (s_I (s_I hL (64 * n + 20) 6 2) (64 * n + 20) 7 (nI c)) (64 * n + 20) 8 0) (64 * n + 20) 9 0) (64 * c + 21) 4 (64 * n + 20)) (64 * c + 21) 5 + 1) → y_I X (64 * n + 20) 6 = 2 ∧ y_I X (64 * n + 20) 7 = nI c ∧ y_I X (64 * n + 20) 8 = 0 ∧ y_I X (64 * n + 20) 9 = 0 ∧ y_B X (64 * n + 20) 10 = true ∧ y_P X (64 * c + 21) 4 = 64 * n + 20 := fun X ex => by
    rw [ex]
    simp (disch := omega) only [e_KI, e_NI, e_BI, e_LI, e_PI, e_KB, e_NB, e_IB, e_LB, e_PB, e_KL, e_NL, e_IL, e_BL, e_PL, e_KP, e_NP, e_IP, e_BP, e_LP, e_IIs, e_BBs, e_LLs, e_PPs, e_IIn, e_BBn, e_LLn, e_PPn, e_IIk, e_BBk, e_LLk, e_PPk, and_self]
  have wM : Sh (s_I (s_B (s_P (s_I (s_I (s_I (s_I hL (64 * n + 20) 6 2) (64 * n + 20) 7 (nI c)) (64 * n + 20) 8 0) (64 * n + 20) 9 0) (64 * c + 21) 4 (64 * n + 20)) (64 * n + 20) 10 true) (64 * c + 21) 5 (y_I (s_P (s_I (s_I (s_I (s_I hL (64 * n + 20) 6 2) (64 * n + 20) 7 (nI c)) (64 * n + 20) 8 0) (64 * n + 20) 9 0) (64 * c + 21) 4 (64 * n + 20)) (64 * c + 21) 5 + 1)) := (Sh_ag gM (by intro a k q; (simp only [FSh] at q ⊢) <;> omega) (by intro a q; (simp only [GSh, not_false_eq_true] at q ⊢) <;> omega) wL)
  have vv := vv _ rfl
  generalize s_I (s_B (s_P (s_I (s_I (s_I (s_I hL (64 * n + 20) 6 2) (64 * n + 20) 7 (nI c)) (64 * n + 20) 8 0) (64 * n + 20) 9 0) (64 * c + 21) 4 (64 * n + 20)) (64 * n + 20) 10 true) (64 * c + 21) 5 (y_I (s_P (s_I (s_I (s_I (s_I hL (64 * n + 20) 6 2) (64 * n + 20) 7 (nI c)) (64 * n + 20) 8 0) (64 * n + 20) 9 0) (64 * c + 21) 4 (64 * n + 20)) (64 * c + 21) 5 + 1) = hM at hd gM v6 vv wM
  have KM : y_K hM (64 * c + 21) = 4 := (gM.K fun q => q).trans KcL
  have ez := c_end0 wM KM (show 64 * c + 21 ≠ 13 by omega)
  rw [gM.I (by omega), e13] at ez
  obtain ⟨u1, u2, u3, u4, u5, u6⟩ := vv
  refine ⟨hM, _, hd, wM, KM, ez, ?_, ?_, ?_, ?_, ?_, ?_, ?_, ?_, ?_, ?_⟩
  · exact ag.sI (ag.sB (gM.mono (fun a k q => by omega) (fun a q => q)) (by omega)) (by omega)
  all_goals simp (disch := omega) only [e_KI, e_NI, e_BI, e_LI, e_PI, e_KB, e_NB, e_IB, e_LB, e_PB, e_KL, e_NL, e_IL, e_BL, e_PL, e_KP, e_NP, e_IP, e_BP, e_LP, e_IIs, e_BBs, e_LLs, e_PPs, e_IIn, e_BBn, e_LLn, e_PPn, e_IIk, e_BBk, e_LLk, e_PPk]
  all_goals assumption
/-- the class's end of an act that puts a box: hA is what arrive leaves -/
theorem c_putdone {a1 x1 y1 z1 x : Int32} {hA : y_H} {P : Nat → Nat → Prop} (wN : Sh hN) (Kb : y_K hN (64 * n + 20) = 3) (e6 : y_I hN (64 * n + 20) 6 = 2) (e7 : y_I hN (64 * n + 20) 7 = nI c) (r : RCl hN C) (hc : c < C) (a : f_X10_arrive 12 (64 * n + 20) (s_I (s_I (s_I (s_I (s_P hN (64 * c + 21) 4 0) (64 * n + 20) 6 a1) (64 * n + 20) 7 x1) (64 * n + 20) 8 y1) (64 * n + 20) 9 z1) = some ((), hA)) (g : ag P (fun _ => False) (s_I (s_I (s_I (s_I (s_P hN (64 * c + 21) 4 0) (64 * n + 20) 6 a1) (64 * n + 20) 7 x1) (64 * n + 20) 8 y1) (64 * n + 20) 9 z1) hA) (cc : ∀ a k, P a k → a % 64 = 32 ∨ a % 64 = 33 ∨ a % 64 = 25) (e13 : y_I hN 13 4 = x) : ∃ H1, f_X10_bring 12 (64 * n + 20) a1 x1 y1 z1 hN = some ((), hA) ∧ Sh hA ∧ y_K hA (64 * c + 21) = 4 ∧ f_X11_ended 10 (64 * c + 21) 0 hA = some (x, H1) ∧ ag (fun a k => P a k ∨ a = 64 * n + 20 ∧ 6 ≤ k ∧ k ≤ 9 ∨ a = 64 * c + 21 ∧ (k = 4 ∨ k = 7) ∨ a = 10 ∧ k = 6) (fun _ => False) hN H1
    ∧ y_I H1 (64 * n + 20) 6 = a1 ∧ y_I H1 (64 * n + 20) 7 = x1 ∧ y_I H1 (64 * n + 20) 8 = y1 ∧ y_I H1 (64 * n + 20) 9 = z1 ∧ y_P H1 (64 * c + 21) 4 = 0 ∧ y_B H1 (64 * c + 21) 7 = true ∧ y_I H1 10 6 = 0 ∧ ag (fun a k => a = 64 * c + 21 ∧ k = 7 ∨ a = 10 ∧ k = 6) (fun _ => False) hA H1 := by
  have KcN : y_K hN (64 * c + 21) = 4 := (r.2.2 c hc).2.1
  have l := c_leave2 wN Kb e6 e7 r hc
  have gS : ag (fun a k => a = 64 * n + 20 ∧ 6 ≤ k ∧ k ≤ 9 ∨ a = 64 * c + 21 ∧ k = 4) (fun _ => False) hN (s_I (s_I (s_I (s_I (s_P hN (64 * c + 21) 4 0) (64 * n + 20) 6 a1) (64 * n + 20) 7 x1) (64 * n + 20) 8 y1) (64 * n + 20) 9 z1) := by ((repeat' (first | exact ag.refl _ _ _ | apply ag.sI | apply ag.sB | apply ag.sP | apply ag.sL | (apply ag.cm) | (apply ag.mm))) <;> (first | omega | (dsimp only; omega) | (intro k; dsimp only; omega)))
  have wL : Sh (s_P hN (64 * c + 21) 4 0) := Sh_sP (by omega) wN
  have b := c_bring wN wL l (by rw [e_KP]; exact Kb) a
  have vs : ∀ X, X = s_I (s_I (s_I (s_I (s_P hN (64 * c + 21) 4 0) (64 * n + 20) 6 a1) (64 * n + 20) 7 x1) (64 * n + 20) 8 y1) (64 * n + 20) 9 z1 → y_I X (64 * n + 20) 6 = a1 ∧ y_I X (64 * n + 20) 7 = x1 ∧ y_I X (64 * n + 20) 8 = y1 ∧ y_I X (64 * n + 20) 9 = z1 ∧ y_P X (64 * c + 21) 4 = 0 := fun X ex => by
    rw [ex]
    simp (disch := omega) only [e_KI, e_NI, e_BI, e_LI, e_PI, e_KB, e_NB, e_IB, e_LB, e_PB, e_KL, e_NL, e_IL, e_BL, e_PL, e_KP, e_NP, e_IP, e_BP, e_LP, e_IIs, e_BBs, e_LLs, e_PPs, e_IIn, e_BBn, e_LLn, e_PPn, e_IIk, e_BBk, e_LLk, e_PPk, and_self]
  have wS : Sh (s_I (s_I (s_I (s_I (s_P hN (64 * c + 21) 4 0) (64 * n + 20) 6 a1) (64 * n + 20) 7 x1) (64 * n + 20) 8 y1) (64 * n + 20) 9 z1) := wL
  have vs := vs _ rfl
  generalize s_I (s_I (s_I (s_I (s_P hN (64 * c + 21) 4 0) (64 * n + 20) 6 a1) (64 * n + 20) 7 x1) (64 * n + 20) 8 y1) (64 * n + 20) 9 z1 = hS at g gS vs wS
  have wA : Sh hA := Sh_ag g (fun a k q z => by
    have := cc a k q
    simp only [FSh] at z
    omega) (fun a q => q.elim) wS
  have KA : y_K hA (64 * c + 21) = 4 := (g.K fun q => q).trans ((gS.K fun q => q).trans KcN)
  have ez := c_end0 wA KA (show 64 * c + 21 ≠ 13 by omega)
  rw [g.I (fun q => by have := cc _ _ q; omega), gS.I (by omega), e13] at ez
  obtain ⟨u1, u2, u3, u4, u5⟩ := vs
  have gE : ag (fun a k => a = 64 * c + 21 ∧ k = 7 ∨ a = 10 ∧ k = 6) (fun _ => False) hA (s_I (s_B hA (64 * c + 21) 7 true) 10 6 0) := by ((repeat' (first | exact ag.refl _ _ _ | apply ag.sI | apply ag.sB | apply ag.sP | apply ag.sL | (apply ag.cm) | (apply ag.mm))) <;> (first | omega | (dsimp only; omega) | (intro k; dsimp only; omega)))
  refine ⟨_, b, wA, KA, ez, ?_, ?_, ?_, ?_, ?_, ?_, by simp (disch := omega) only [e_KI, e_NI, e_BI, e_LI, e_PI, e_KB, e_NB, e_IB, e_LB, e_PB, e_KL, e_NL, e_IL, e_BL, e_PL, e_KP, e_NP, e_IP, e_BP, e_LP, e_IIs, e_BBs, e_LLs, e_PPs, e_IIn, e_BBn, e_LLn, e_PPn, e_IIk, e_BBk, e_LLk, e_PPk], by simp (disch := omega) only [e_KI, e_NI, e_BI, e_LI, e_PI, e_KB, e_NB, e_IB, e_LB, e_PB, e_KL, e_NL, e_IL, e_BL, e_PL, e_KP, e_NP, e_IP, e_BP, e_LP, e_IIs, e_BBs, e_LLs, e_PPs, e_IIn, e_BBn, e_LLn, e_PPn, e_IIk, e_BBk, e_LLk, e_PPk], gE⟩
  · refine ((gS.mono (fun a k q => ?_) (fun a q => q)).trans (g.mono (fun a k q => Or.inl q) (fun a q => q))).trans (gE.mono (fun a k q => ?_) (fun a q => q))
    · exact Or.inr (by omega)
    · exact Or.inr (by omega)
  · rw [gE.I (by omega), g.I (fun q => by have := cc _ _ q; omega)]; exact u1
  · rw [gE.I (by omega), g.I (fun q => by have := cc _ _ q; omega)]; exact u2
  · rw [gE.I (by omega), g.I (fun q => by have := cc _ _ q; omega)]; exact u3
  · rw [gE.I (by omega), g.I (fun q => by have := cc _ _ q; omega)]; exact u4
  · rw [gE.P (by omega), g.P (fun q => by have := cc _ _ q; omega)]; exact u5
end TD
