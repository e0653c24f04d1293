/-! clear, whole -/
section CLS
variable {h : y_H} {t e N C S A : Nat}
def hcB (h : y_H) : y_H := s_L (s_B (s_I (s_P (s_I (s_I (s_I (s_I (s_I h 13 2 0) 13 3 0) 14 1 0) 14 4 0) 14 5 0) 14 6 0) 15 5 0) 15 6 false) 15 9 0
theorem hmB_ag (h : y_H) : ag (fun a k => a = 11 ∧ (k = 0 ∨ k = 16 ∨ k = 25 ∨ k = 33 ∨ k = 34 ∨ k = 46 ∨ k = 47 ∨ k = 50 ∨ k = 55 ∨ k = 57 ∨ k = 58 ∨ k = 59 ∨ k = 72 ∨ k = 79 ∨ k = 80 ∨ k = 52)) (fun _ => False) h (hmB h) := by
  unfold hmB
  refine ag.sI (ag.sL (ag.sB (ag.sI (ag.sI (ag.sI (ag.sI (ag.sI (ag.sI (ag.sI (ag.sI (ag.sI (ag.sI (ag.sI (ag.sI (ag.sI (ag.refl _ _ _) ?_) ?_) ?_) ?_) ?_) ?_) ?_) ?_) ?_) ?_) ?_) ?_) ?_) ?_) ?_) ?_
  all_goals (refine ⟨rfl, ?_⟩; decide)
set_option maxHeartbeats 4000000 in
theorem k_clear (R : Rel h t e) : Call (f_X11_clear 10 h) (f_X12_clear 11) t e := by
  obtain ⟨N, C, S, A, R9⟩ := id R
  obtain ⟨w, rT, rM, rB, rC, rS, rV, rL, rJ, rP, rH, rD, rQ, rK⟩ := id R9
  have hb : ∀ b, b < 10 → y_P h 99 b = 0 ∨ y_P h 99 b = 64 * b + 23 ∧ y_K h (64 * b + 23) = 2 := fun b hb => by
    have z := rV b hb
    unfold vx at z
    split at z
    · exact Or.inr ⟨z.1.1, z.1.2.1⟩
    · rcases z.1 with q | q
      · exact Or.inl q.1
      · exact Or.inr ⟨q.1.1, q.1.2.1⟩
  obtain ⟨r1, h1, e1, g1, ⟨a1, a2, a3, a4, a5, a6⟩, b1, b2, b3⟩ := wp_ex (c_ybegin w hb)
  have w1 : Sh h1 := (Sh_ag g1 (by intro a k q; (simp only [FSh] at q ⊢) <;> omega) (by intro a q; (simp only [GSh, not_false_eq_true] at q ⊢) <;> omega) w)
  have wB : Sh (hcB h1) := by
    unfold hcB
    exact Sh_sL (Sh_sB (Sh_sI (Sh_sP (by omega) (Sh_sI (Sh_sI (Sh_sI (Sh_sI (Sh_sI w1))))))))
  have gB : ag (fun a k => a = 13 ∧ (k = 2 ∨ k = 3) ∨ a = 14 ∧ (k = 1 ∨ k = 4 ∨ k = 5 ∨ k = 6) ∨ a = 15 ∧ (k = 5 ∨ k = 6 ∨ k = 9)) (fun _ => False) h1 (hcB h1) := by
    unfold hcB
    ((repeat' (first | exact ag.refl _ _ _ | apply ag.sI | apply ag.sB | apply ag.sP | apply ag.sL | (apply ag.cm) | (apply ag.mm))) <;> (first | omega | (dsimp only; omega) | (intro k; dsimp only; omega)))
  have hq0 : ∀ s, s < 4 → ∃ c, 3 ≤ c ∧ c ≤ 127 ∧ y_P h 295 s = 64 * (4 * c + s) + 47 ∧ y_K h (64 * (4 * c + s) + 47) = 100 ∧ y_N h (64 * (4 * c + s) + 47) = c ∧ ∀ m, c < m → y_K h (64 * (4 * m + s) + 47) = 0 := fun s hs => by
    obtain ⟨l, c, z1, z2, z3, z4, z5, z6, z7, z8, z9, z10⟩ := rK.2.2.2.2.2.2.2.2 s hs
    exact ⟨c, z2, z3, z6, z7, z8, z10⟩
  have hq : ∀ s, s < 4 → ∃ c, 3 ≤ c ∧ c ≤ 127 ∧ y_P (hcB h1) 295 s = 64 * (4 * c + s) + 47 ∧ y_K (hcB h1) (64 * (4 * c + s) + 47) = 100 ∧ y_N (hcB h1) (64 * (4 * c + s) + 47) = c := fun s hs => by
    obtain ⟨c, z1, z2, z3, z4, z5, -⟩ := hq0 s hs
    refine ⟨c, z1, z2, ?_, ?_, ?_⟩
    · rw [gB.P (by omega), g1.P (by omega)]; exact z3
    · rw [gB.K (fun q => q), g1.K (fun q => q)]; exact z4
    · rw [gB.N (fun q => q), g1.N (fun q => q)]; exact z5
  obtain ⟨r2, h2, e2, g2, b4⟩ := wp_ex (c_empty wB hq)
  have w2 : Sh h2 := (Sh_ag g2 (by intro a k q; (simp only [FSh] at q ⊢) <;> omega) (by intro a q; (simp only [GSh, not_false_eq_true] at q ⊢) <;> omega) wB)
  have K36 : y_K h2 36 = 100 ∧ y_N h2 36 = 8 ∧ y_K h2 100 = 100 ∧ y_N h2 100 = 3 := by
    simp only [w2.1, and_self]
  obtain ⟨r3, h3, e3, g3, b5⟩ := wp_ex (c_fill2 (h := h2) (p := 36) (n := 8) (v := 0) K36.1 K36.2.1 (by decide))
  have w3 : Sh h3 := (Sh_ag g3 (by intro a k q; (simp only [FSh] at q ⊢) <;> omega) (by intro a q; (simp only [GSh, not_false_eq_true] at q ⊢) <;> omega) w2)
  obtain ⟨r4, h4, e4, g4, b6⟩ := wp_ex (c_fill2 (h := h3) (p := 100) (n := 3) (v := -9) ((g3.K (fun q => q)).trans K36.2.2.1) ((g3.N (fun q => q)).trans K36.2.2.2) (by decide))
  have w4 : Sh h4 := (Sh_ag g4 (by intro a k q; (simp only [FSh] at q ⊢) <;> omega) (by intro a q; (simp only [GSh, not_false_eq_true] at q ⊢) <;> omega) w3)
  have w5 : Sh (s_I h4 10 6 0) := Sh_sI w4
  have ec : f_X11_clear 10 h = some (y_I h 12 1, s_I h4 10 6 0) := by
    have x2 : f_X5_begin 13 h1 = some ((), s_I (s_I h1 13 2 0) 13 3 0) := by
      unfold f_X5_begin
      (repeat (first | with_reducible apply ev_jn | ((with_reducible apply ev_bd); · first | (simp (disch := omega) only [w1.1, e_KI, e_NI, e_BI, e_LI, e_PI, e_KB, e_NB, e_IB, e_LB, e_PB, e_KL, e_NL, e_IL, e_BL, e_PL, e_KP, e_NP, e_IP, e_BP, e_LP, e_IIs, e_BBs, e_LLs, e_PPs, e_IIn, e_BBn, e_LLn, e_PPn, e_IIk, e_BBk, e_LLk, e_PPk, e_Ks, e_Ns, e_Is, e_Bs, e_Ls, e_Ps, e_Kn, e_Nn, e_In, e_Bn, e_Ln, e_Pn, if_true, if_false, and_self, or_true, true_or, not_false_eq_true, Bool.false_eq_true]; exact rfl) | exact rfl) | ((with_reducible apply ev_cl); · first | (simp (disch := omega) only [w1.1, e_KI, e_NI, e_BI, e_LI, e_PI, e_KB, e_NB, e_IB, e_LB, e_PB, e_KL, e_NL, e_IL, e_BL, e_PL, e_KP, e_NP, e_IP, e_BP, e_LP, e_IIs, e_BBs, e_LLs, e_PPs, e_IIn, e_BBn, e_LLn, e_PPn, e_IIk, e_BBk, e_LLk, e_PPk, e_Ks, e_Ns, e_Is, e_Bs, e_Ls, e_Ps, e_Kn, e_Nn, e_In, e_Bn, e_Ln, e_Pn, if_true, if_false, and_self, or_true, true_or, not_false_eq_true, Bool.false_eq_true]; exact rfl) | exact rfl) | ((with_reducible apply ev_g); · first | (simp (disch := omega) only [w1.1, e_KI, e_NI, e_BI, e_LI, e_PI, e_KB, e_NB, e_IB, e_LB, e_PB, e_KL, e_NL, e_IL, e_BL, e_PL, e_KP, e_NP, e_IP, e_BP, e_LP, e_IIs, e_BBs, e_LLs, e_PPs, e_IIn, e_BBn, e_LLn, e_PPn, e_IIk, e_BBk, e_LLk, e_PPk, e_Ks, e_Ns, e_Is, e_Bs, e_Ls, e_Ps, e_Kn, e_Nn, e_In, e_Bn, e_Ln, e_Pn, if_true, if_false, and_self, or_true, true_or, not_false_eq_true, Bool.false_eq_true]; done) | (simp (disch := omega) only [w1.1, e_KI, e_NI, e_BI, e_LI, e_PI, e_KB, e_NB, e_IB, e_LB, e_PB, e_KL, e_NL, e_IL, e_BL, e_PL, e_KP, e_NP, e_IP, e_BP, e_LP, e_IIs, e_BBs, e_LLs, e_PPs, e_IIn, e_BBn, e_LLn, e_PPn, e_IIk, e_BBk, e_LLk, e_PPk, e_Ks, e_Ns, e_Is, e_Bs, e_Ls, e_Ps, e_Kn, e_Nn, e_In, e_Bn, e_Ln, e_Pn, if_true, if_false, and_self, or_true, true_or, not_false_eq_true, Bool.false_eq_true]; decide) | decide) | ((with_reducible apply ev_t); · first | (simp (disch := omega) only [w1.1, e_KI, e_NI, e_BI, e_LI, e_PI, e_KB, e_NB, e_IB, e_LB, e_PB, e_KL, e_NL, e_IL, e_BL, e_PL, e_KP, e_NP, e_IP, e_BP, e_LP, e_IIs, e_BBs, e_LLs, e_PPs, e_IIn, e_BBn, e_LLn, e_PPn, e_IIk, e_BBk, e_LLk, e_PPk, e_Ks, e_Ns, e_Is, e_Bs, e_Ls, e_Ps, e_Kn, e_Nn, e_In, e_Bn, e_Ln, e_Pn, if_true, if_false, and_self, or_true, true_or, not_false_eq_true, Bool.false_eq_true]; done) | (simp (disch := omega) only [w1.1, e_KI, e_NI, e_BI, e_LI, e_PI, e_KB, e_NB, e_IB, e_LB, e_PB, e_KL, e_NL, e_IL, e_BL, e_PL, e_KP, e_NP, e_IP, e_BP, e_LP, e_IIs, e_BBs, e_LLs, e_PPs, e_IIn, e_BBn, e_LLn, e_PPn, e_IIk, e_BBk, e_LLk, e_PPk, e_Ks, e_Ns, e_Is, e_Bs, e_Ls, e_Ps, e_Kn, e_Nn, e_In, e_Bn, e_Ln, e_Pn, if_true, if_false, and_self, or_true, true_or, not_false_eq_true, Bool.false_eq_true]; decide) | decide) | ((with_reducible apply ev_f); · first | (simp (disch := omega) only [w1.1, e_KI, e_NI, e_BI, e_LI, e_PI, e_KB, e_NB, e_IB, e_LB, e_PB, e_KL, e_NL, e_IL, e_BL, e_PL, e_KP, e_NP, e_IP, e_BP, e_LP, e_IIs, e_BBs, e_LLs, e_PPs, e_IIn, e_BBn, e_LLn, e_PPn, e_IIk, e_BBk, e_LLk, e_PPk, e_Ks, e_Ns, e_Is, e_Bs, e_Ls, e_Ps, e_Kn, e_Nn, e_In, e_Bn, e_Ln, e_Pn, if_true, if_false, and_self, or_true, true_or, not_false_eq_true, Bool.false_eq_true]; done) | (simp (disch := omega) only [w1.1, e_KI, e_NI, e_BI, e_LI, e_PI, e_KB, e_NB, e_IB, e_LB, e_PB, e_KL, e_NL, e_IL, e_BL, e_PL, e_KP, e_NP, e_IP, e_BP, e_LP, e_IIs, e_BBs, e_LLs, e_PPs, e_IIn, e_BBn, e_LLn, e_PPn, e_IIk, e_BBk, e_LLk, e_PPk, e_Ks, e_Ns, e_Is, e_Bs, e_Ls, e_Ps, e_Kn, e_Nn, e_In, e_Bn, e_Ln, e_Pn, if_true, if_false, and_self, or_true, true_or, not_false_eq_true, Bool.false_eq_true]; decide) | decide) | ((with_reducible apply ev_s) <;> (first | (with_reducible rfl) | (simp (disch := omega) only [w1.1, e_KI, e_NI, e_BI, e_LI, e_PI, e_KB, e_NB, e_IB, e_LB, e_PB, e_KL, e_NL, e_IL, e_BL, e_PL, e_KP, e_NP, e_IP, e_BP, e_LP, e_IIs, e_BBs, e_LLs, e_PPs, e_IIn, e_BBn, e_LLn, e_PPn, e_IIk, e_BBk, e_LLk, e_PPk, e_Ks, e_Ns, e_Is, e_Bs, e_Ls, e_Ps, e_Kn, e_Nn, e_In, e_Bn, e_Ln, e_Pn, if_true, if_false, and_self, or_true, true_or, not_false_eq_true, Bool.false_eq_true]; done) | (simp (disch := omega) only [w1.1, e_KI, e_NI, e_BI, e_LI, e_PI, e_KB, e_NB, e_IB, e_LB, e_PB, e_KL, e_NL, e_IL, e_BL, e_PL, e_KP, e_NP, e_IP, e_BP, e_LP, e_IIs, e_BBs, e_LLs, e_PPs, e_IIn, e_BBn, e_LLn, e_PPn, e_IIk, e_BBk, e_LLk, e_PPk, e_Ks, e_Ns, e_Is, e_Bs, e_Ls, e_Ps, e_Kn, e_Nn, e_In, e_Bn, e_Ln, e_Pn, if_true, if_false, and_self, or_true, true_or, not_false_eq_true, Bool.false_eq_true]; rfl)))))
    have x3 : f_X4_begin 14 (s_I (s_I h1 13 2 0) 13 3 0) = some ((), s_P (s_I (s_I (s_I (s_I (s_I h1 13 2 0) 13 3 0) 14 1 0) 14 4 0) 14 5 0) 14 6 0) := by
      unfold f_X4_begin
      (repeat (first | with_reducible apply ev_jn | ((with_reducible apply ev_bd); · first | (simp (disch := omega) only [w1.1, e_KI, e_NI, e_BI, e_LI, e_PI, e_KB, e_NB, e_IB, e_LB, e_PB, e_KL, e_NL, e_IL, e_BL, e_PL, e_KP, e_NP, e_IP, e_BP, e_LP, e_IIs, e_BBs, e_LLs, e_PPs, e_IIn, e_BBn, e_LLn, e_PPn, e_IIk, e_BBk, e_LLk, e_PPk, e_Ks, e_Ns, e_Is, e_Bs, e_Ls, e_Ps, e_Kn, e_Nn, e_In, e_Bn, e_Ln, e_Pn, if_true, if_false, and_self, or_true, true_or, not_false_eq_true, Bool.false_eq_true]; exact rfl) | exact rfl) | ((with_reducible apply ev_cl); · first | (simp (disch := omega) only [w1.1, e_KI, e_NI, e_BI, e_LI, e_PI, e_KB, e_NB, e_IB, e_LB, e_PB, e_KL, e_NL, e_IL, e_BL, e_PL, e_KP, e_NP, e_IP, e_BP, e_LP, e_IIs, e_BBs, e_LLs, e_PPs, e_IIn, e_BBn, e_LLn, e_PPn, e_IIk, e_BBk, e_LLk, e_PPk, e_Ks, e_Ns, e_Is, e_Bs, e_Ls, e_Ps, e_Kn, e_Nn, e_In, e_Bn, e_Ln, e_Pn, if_true, if_false, and_self, or_true, true_or, not_false_eq_true, Bool.false_eq_true]; exact rfl) | exact rfl) | ((with_reducible apply ev_g); · first | (simp (disch := omega) only [w1.1, e_KI, e_NI, e_BI, e_LI, e_PI, e_KB, e_NB, e_IB, e_LB, e_PB, e_KL, e_NL, e_IL, e_BL, e_PL, e_KP, e_NP, e_IP, e_BP, e_LP, e_IIs, e_BBs, e_LLs, e_PPs, e_IIn, e_BBn, e_LLn, e_PPn, e_IIk, e_BBk, e_LLk, e_PPk, e_Ks, e_Ns, e_Is, e_Bs, e_Ls, e_Ps, e_Kn, e_Nn, e_In, e_Bn, e_Ln, e_Pn, if_true, if_false, and_self, or_true, true_or, not_false_eq_true, Bool.false_eq_true]; done) | (simp (disch := omega) only [w1.1, e_KI, e_NI, e_BI, e_LI, e_PI, e_KB, e_NB, e_IB, e_LB, e_PB, e_KL, e_NL, e_IL, e_BL, e_PL, e_KP, e_NP, e_IP, e_BP, e_LP, e_IIs, e_BBs, e_LLs, e_PPs, e_IIn, e_BBn, e_LLn, e_PPn, e_IIk, e_BBk, e_LLk, e_PPk, e_Ks, e_Ns, e_Is, e_Bs, e_Ls, e_Ps, e_Kn, e_Nn, e_In, e_Bn, e_Ln, e_Pn, if_true, if_false, and_self, or_true, true_or, not_false_eq_true, Bool.false_eq_true]; decide) | decide) | ((with_reducible apply ev_t); · first | (simp (disch := omega) only [w1.1, e_KI, e_NI, e_BI, e_LI, e_PI, e_KB, e_NB, e_IB, e_LB, e_PB, e_KL, e_NL, e_IL, e_BL, e_PL, e_KP, e_NP, e_IP, e_BP, e_LP, e_IIs, e_BBs, e_LLs, e_PPs, e_IIn, e_BBn, e_LLn, e_PPn, e_IIk, e_BBk, e_LLk, e_PPk, e_Ks, e_Ns, e_Is, e_Bs, e_Ls, e_Ps, e_Kn, e_Nn, e_In, e_Bn, e_Ln, e_Pn, if_true, if_false, and_self, or_true, true_or, not_false_eq_true, Bool.false_eq_true]; done) | (simp (disch := omega) only [w1.1, e_KI, e_NI, e_BI, e_LI, e_PI, e_KB, e_NB, e_IB, e_LB, e_PB, e_KL, e_NL, e_IL, e_BL, e_PL, e_KP, e_NP, e_IP, e_BP, e_LP, e_IIs, e_BBs, e_LLs, e_PPs, e_IIn, e_BBn, e_LLn, e_PPn, e_IIk, e_BBk, e_LLk, e_PPk, e_Ks, e_Ns, e_Is, e_Bs, e_Ls, e_Ps, e_Kn, e_Nn, e_In, e_Bn, e_Ln, e_Pn, if_true, if_false, and_self, or_true, true_or, not_false_eq_true, Bool.false_eq_true]; decide) | decide) | ((with_reducible apply ev_f); · first | (simp (disch := omega) only [w1.1, e_KI, e_NI, e_BI, e_LI, e_PI, e_KB, e_NB, e_IB, e_LB, e_PB, e_KL, e_NL, e_IL, e_BL, e_PL, e_KP, e_NP, e_IP, e_BP, e_LP, e_IIs, e_BBs, e_LLs, e_PPs, e_IIn, e_BBn, e_LLn, e_PPn, e_IIk, e_BBk, e_LLk, e_PPk, e_Ks, e_Ns, e_Is, e_Bs, e_Ls, e_Ps, e_Kn, e_Nn, e_In, e_Bn, e_Ln, e_Pn, if_true, if_false, and_self, or_true, true_or, not_false_eq_true, Bool.false_eq_true]; done) | (simp (disch := omega) only [w1.1, e_KI, e_NI, e_BI, e_LI, e_PI, e_KB, e_NB, e_IB, e_LB, e_PB, e_KL, e_NL, e_IL, e_BL, e_PL, e_KP, e_NP, e_IP, e_BP, e_LP, e_IIs, e_BBs, e_LLs, e_PPs, e_IIn, e_BBn, e_LLn, e_PPn, e_IIk, e_BBk, e_LLk, e_PPk, e_Ks, e_Ns, e_Is, e_Bs, e_Ls, e_Ps, e_Kn, e_Nn, e_In, e_Bn, e_Ln, e_Pn, if_true, if_false, and_self, or_true, true_or, not_false_eq_true, Bool.false_eq_true]; decide) | decide) | ((with_reducible apply ev_s) <;> (first | (with_reducible rfl) | (simp (disch := omega) only [w1.1, e_KI, e_NI, e_BI, e_LI, e_PI, e_KB, e_NB, e_IB, e_LB, e_PB, e_KL, e_NL, e_IL, e_BL, e_PL, e_KP, e_NP, e_IP, e_BP, e_LP, e_IIs, e_BBs, e_LLs, e_PPs, e_IIn, e_BBn, e_LLn, e_PPn, e_IIk, e_BBk, e_LLk, e_PPk, e_Ks, e_Ns, e_Is, e_Bs, e_Ls, e_Ps, e_Kn, e_Nn, e_In, e_Bn, e_Ln, e_Pn, if_true, if_false, and_self, or_true, true_or, not_false_eq_true, Bool.false_eq_true]; done) | (simp (disch := omega) only [w1.1, e_KI, e_NI, e_BI, e_LI, e_PI, e_KB, e_NB, e_IB, e_LB, e_PB, e_KL, e_NL, e_IL, e_BL, e_PL, e_KP, e_NP, e_IP, e_BP, e_LP, e_IIs, e_BBs, e_LLs, e_PPs, e_IIn, e_BBn, e_LLn, e_PPn, e_IIk, e_BBk, e_LLk, e_PPk, e_Ks, e_Ns, e_Is, e_Bs, e_Ls, e_Ps, e_Kn, e_Nn, e_In, e_Bn, e_Ln, e_Pn, if_true, if_false, and_self, or_true, true_or, not_false_eq_true, Bool.false_eq_true]; rfl)))))
    have x4 : f_X8_begin 15 (s_P (s_I (s_I (s_I (s_I (s_I h1 13 2 0) 13 3 0) 14 1 0) 14 4 0) 14 5 0) 14 6 0) = some ((), h2) := by
      unfold f_X8_begin
      unfold hcB at e2
      (repeat (first | with_reducible apply ev_jn | ((with_reducible apply ev_bd); · first | (simp (disch := omega) only [w1.1, e2, e_KI, e_NI, e_BI, e_LI, e_PI, e_KB, e_NB, e_IB, e_LB, e_PB, e_KL, e_NL, e_IL, e_BL, e_PL, e_KP, e_NP, e_IP, e_BP, e_LP, e_IIs, e_BBs, e_LLs, e_PPs, e_IIn, e_BBn, e_LLn, e_PPn, e_IIk, e_BBk, e_LLk, e_PPk, e_Ks, e_Ns, e_Is, e_Bs, e_Ls, e_Ps, e_Kn, e_Nn, e_In, e_Bn, e_Ln, e_Pn, if_true, if_false, and_self, or_true, true_or, not_false_eq_true, Bool.false_eq_true]; exact rfl) | exact rfl) | ((with_reducible apply ev_cl); · first | (simp (disch := omega) only [w1.1, e2, e_KI, e_NI, e_BI, e_LI, e_PI, e_KB, e_NB, e_IB, e_LB, e_PB, e_KL, e_NL, e_IL, e_BL, e_PL, e_KP, e_NP, e_IP, e_BP, e_LP, e_IIs, e_BBs, e_LLs, e_PPs, e_IIn, e_BBn, e_LLn, e_PPn, e_IIk, e_BBk, e_LLk, e_PPk, e_Ks, e_Ns, e_Is, e_Bs, e_Ls, e_Ps, e_Kn, e_Nn, e_In, e_Bn, e_Ln, e_Pn, if_true, if_false, and_self, or_true, true_or, not_false_eq_true, Bool.false_eq_true]; exact rfl) | exact rfl) | ((with_reducible apply ev_g); · first | (simp (disch := omega) only [w1.1, e2, e_KI, e_NI, e_BI, e_LI, e_PI, e_KB, e_NB, e_IB, e_LB, e_PB, e_KL, e_NL, e_IL, e_BL, e_PL, e_KP, e_NP, e_IP, e_BP, e_LP, e_IIs, e_BBs, e_LLs, e_PPs, e_IIn, e_BBn, e_LLn, e_PPn, e_IIk, e_BBk, e_LLk, e_PPk, e_Ks, e_Ns, e_Is, e_Bs, e_Ls, e_Ps, e_Kn, e_Nn, e_In, e_Bn, e_Ln, e_Pn, if_true, if_false, and_self, or_true, true_or, not_false_eq_true, Bool.false_eq_true]; done) | (simp (disch := omega) only [w1.1, e2, e_KI, e_NI, e_BI, e_LI, e_PI, e_KB, e_NB, e_IB, e_LB, e_PB, e_KL, e_NL, e_IL, e_BL, e_PL, e_KP, e_NP, e_IP, e_BP, e_LP, e_IIs, e_BBs, e_LLs, e_PPs, e_IIn, e_BBn, e_LLn, e_PPn, e_IIk, e_BBk, e_LLk, e_PPk, e_Ks, e_Ns, e_Is, e_Bs, e_Ls, e_Ps, e_Kn, e_Nn, e_In, e_Bn, e_Ln, e_Pn, if_true, if_false, and_self, or_true, true_or, not_false_eq_true, Bool.false_eq_true]; decide) | decide) | ((with_reducible apply ev_t); · first | (simp (disch := omega) only [w1.1, e2, e_KI, e_NI, e_BI, e_LI, e_PI, e_KB, e_NB, e_IB, e_LB, e_PB, e_KL, e_NL, e_IL, e_BL, e_PL, e_KP, e_NP, e_IP, e_BP, e_LP, e_IIs, e_BBs, e_LLs, e_PPs, e_IIn, e_BBn, e_LLn, e_PPn, e_IIk, e_BBk, e_LLk, e_PPk, e_Ks, e_Ns, e_Is, e_Bs, e_Ls, e_Ps, e_Kn, e_Nn, e_In, e_Bn, e_Ln, e_Pn, if_true, if_false, and_self, or_true, true_or, not_false_eq_true, Bool.false_eq_true]; done) | (simp (disch := omega) only [w1.1, e2, e_KI, e_NI, e_BI, e_LI, e_PI, e_KB, e_NB, e_IB, e_LB, e_PB, e_KL, e_NL, e_IL, e_BL, e_PL, e_KP, e_NP, e_IP, e_BP, e_LP, e_IIs, e_BBs, e_LLs, e_PPs, e_IIn, e_BBn, e_LLn, e_PPn, e_IIk, e_BBk, e_LLk, e_PPk, e_Ks, e_Ns, e_Is, e_Bs, e_Ls, e_Ps, e_Kn, e_Nn, e_In, e_Bn, e_Ln, e_Pn, if_true, if_false, and_self, or_true, true_or, not_false_eq_true, Bool.false_eq_true]; decide) | decide) | ((with_reducible apply ev_f); · first | (simp (disch := omega) only [w1.1, e2, e_KI, e_NI, e_BI, e_LI, e_PI, e_KB, e_NB, e_IB, e_LB, e_PB, e_KL, e_NL, e_IL, e_BL, e_PL, e_KP, e_NP, e_IP, e_BP, e_LP, e_IIs, e_BBs, e_LLs, e_PPs, e_IIn, e_BBn, e_LLn, e_PPn, e_IIk, e_BBk, e_LLk, e_PPk, e_Ks, e_Ns, e_Is, e_Bs, e_Ls, e_Ps, e_Kn, e_Nn, e_In, e_Bn, e_Ln, e_Pn, if_true, if_false, and_self, or_true, true_or, not_false_eq_true, Bool.false_eq_true]; done) | (simp (disch := omega) only [w1.1, e2, e_KI, e_NI, e_BI, e_LI, e_PI, e_KB, e_NB, e_IB, e_LB, e_PB, e_KL, e_NL, e_IL, e_BL, e_PL, e_KP, e_NP, e_IP, e_BP, e_LP, e_IIs, e_BBs, e_LLs, e_PPs, e_IIn, e_BBn, e_LLn, e_PPn, e_IIk, e_BBk, e_LLk, e_PPk, e_Ks, e_Ns, e_Is, e_Bs, e_Ls, e_Ps, e_Kn, e_Nn, e_In, e_Bn, e_Ln, e_Pn, if_true, if_false, and_self, or_true, true_or, not_false_eq_true, Bool.false_eq_true]; decide) | decide) | ((with_reducible apply ev_s) <;> (first | (with_reducible rfl) | (simp (disch := omega) only [w1.1, e2, e_KI, e_NI, e_BI, e_LI, e_PI, e_KB, e_NB, e_IB, e_LB, e_PB, e_KL, e_NL, e_IL, e_BL, e_PL, e_KP, e_NP, e_IP, e_BP, e_LP, e_IIs, e_BBs, e_LLs, e_PPs, e_IIn, e_BBn, e_LLn, e_PPn, e_IIk, e_BBk, e_LLk, e_PPk, e_Ks, e_Ns, e_Is, e_Bs, e_Ls, e_Ps, e_Kn, e_Nn, e_In, e_Bn, e_Ln, e_Pn, if_true, if_false, and_self, or_true, true_or, not_false_eq_true, Bool.false_eq_true]; done) | (simp (disch := omega) only [w1.1, e2, e_KI, e_NI, e_BI, e_LI, e_PI, e_KB, e_NB, e_IB, e_LB, e_PB, e_KL, e_NL, e_IL, e_BL, e_PL, e_KP, e_NP, e_IP, e_BP, e_LP, e_IIs, e_BBs, e_LLs, e_PPs, e_IIn, e_BBn, e_LLn, e_PPn, e_IIk, e_BBk, e_LLk, e_PPk, e_Ks, e_Ns, e_Is, e_Bs, e_Ls, e_Ps, e_Kn, e_Nn, e_In, e_Bn, e_Ln, e_Pn, if_true, if_false, and_self, or_true, true_or, not_false_eq_true, Bool.false_eq_true]; rfl)))))
    unfold f_X11_clear
    (repeat (first | with_reducible apply ev_jn | ((with_reducible apply ev_bd); · first | (simp (disch := omega) only [w.1, w1.1, w2.1, w3.1, w4.1, e1, x2, x3, x4, e3, e4, e_KI, e_NI, e_BI, e_LI, e_PI, e_KB, e_NB, e_IB, e_LB, e_PB, e_KL, e_NL, e_IL, e_BL, e_PL, e_KP, e_NP, e_IP, e_BP, e_LP, e_IIs, e_BBs, e_LLs, e_PPs, e_IIn, e_BBn, e_LLn, e_PPn, e_IIk, e_BBk, e_LLk, e_PPk, e_Ks, e_Ns, e_Is, e_Bs, e_Ls, e_Ps, e_Kn, e_Nn, e_In, e_Bn, e_Ln, e_Pn, if_true, if_false, and_self, or_true, true_or, not_false_eq_true, Bool.false_eq_true]; exact rfl) | exact rfl) | ((with_reducible apply ev_cl); · first | (simp (disch := omega) only [w.1, w1.1, w2.1, w3.1, w4.1, e1, x2, x3, x4, e3, e4, e_KI, e_NI, e_BI, e_LI, e_PI, e_KB, e_NB, e_IB, e_LB, e_PB, e_KL, e_NL, e_IL, e_BL, e_PL, e_KP, e_NP, e_IP, e_BP, e_LP, e_IIs, e_BBs, e_LLs, e_PPs, e_IIn, e_BBn, e_LLn, e_PPn, e_IIk, e_BBk, e_LLk, e_PPk, e_Ks, e_Ns, e_Is, e_Bs, e_Ls, e_Ps, e_Kn, e_Nn, e_In, e_Bn, e_Ln, e_Pn, if_true, if_false, and_self, or_true, true_or, not_false_eq_true, Bool.false_eq_true]; exact rfl) | exact rfl) | ((with_reducible apply ev_g); · first | (simp (disch := omega) only [w.1, w1.1, w2.1, w3.1, w4.1, e1, x2, x3, x4, e3, e4, e_KI, e_NI, e_BI, e_LI, e_PI, e_KB, e_NB, e_IB, e_LB, e_PB, e_KL, e_NL, e_IL, e_BL, e_PL, e_KP, e_NP, e_IP, e_BP, e_LP, e_IIs, e_BBs, e_LLs, e_PPs, e_IIn, e_BBn, e_LLn, e_PPn, e_IIk, e_BBk, e_LLk, e_PPk, e_Ks, e_Ns, e_Is, e_Bs, e_Ls, e_Ps, e_Kn, e_Nn, e_In, e_Bn, e_Ln, e_Pn, if_true, if_false, and_self, or_true, true_or, not_false_eq_true, Bool.false_eq_true]; done) | (simp (disch := omega) only [w.1, w1.1, w2.1, w3.1, w4.1, e1, x2, x3, x4, e3, e4, e_KI, e_NI, e_BI, e_LI, e_PI, e_KB, e_NB, e_IB, e_LB, e_PB, e_KL, e_NL, e_IL, e_BL, e_PL, e_KP, e_NP, e_IP, e_BP, e_LP, e_IIs, e_BBs, e_LLs, e_PPs, e_IIn, e_BBn, e_LLn, e_PPn, e_IIk, e_BBk, e_LLk, e_PPk, e_Ks, e_Ns, e_Is, e_Bs, e_Ls, e_Ps, e_Kn, e_Nn, e_In, e_Bn, e_Ln, e_Pn, if_true, if_false, and_self, or_true, true_or, not_false_eq_true, Bool.false_eq_true]; decide) | decide) | ((with_reducible apply ev_t); · first | (simp (disch := omega) only [w.1, w1.1, w2.1, w3.1, w4.1, e1, x2, x3, x4, e3, e4, e_KI, e_NI, e_BI, e_LI, e_PI, e_KB, e_NB, e_IB, e_LB, e_PB, e_KL, e_NL, e_IL, e_BL, e_PL, e_KP, e_NP, e_IP, e_BP, e_LP, e_IIs, e_BBs, e_LLs, e_PPs, e_IIn, e_BBn, e_LLn, e_PPn, e_IIk, e_BBk, e_LLk, e_PPk, e_Ks, e_Ns, e_Is, e_Bs, e_Ls, e_Ps, e_Kn, e_Nn, e_In, e_Bn, e_Ln, e_Pn, if_true, if_false, and_self, or_true, true_or, not_false_eq_true, Bool.false_eq_true]; done) | (simp (disch := omega) only [w.1, w1.1, w2.1, w3.1, w4.1, e1, x2, x3, x4, e3, e4, e_KI, e_NI, e_BI, e_LI, e_PI, e_KB, e_NB, e_IB, e_LB, e_PB, e_KL, e_NL, e_IL, e_BL, e_PL, e_KP, e_NP, e_IP, e_BP, e_LP, e_IIs, e_BBs, e_LLs, e_PPs, e_IIn, e_BBn, e_LLn, e_PPn, e_IIk, e_BBk, e_LLk, e_PPk, e_Ks, e_Ns, e_Is, e_Bs, e_Ls, e_Ps, e_Kn, e_Nn, e_In, e_Bn, e_Ln, e_Pn, if_true, if_false, and_self, or_true, true_or, not_false_eq_true, Bool.false_eq_true]; decide) | decide) | ((with_reducible apply ev_f); · first | (simp (disch := omega) only [w.1, w1.1, w2.1, w3.1, w4.1, e1, x2, x3, x4, e3, e4, e_KI, e_NI, e_BI, e_LI, e_PI, e_KB, e_NB, e_IB, e_LB, e_PB, e_KL, e_NL, e_IL, e_BL, e_PL, e_KP, e_NP, e_IP, e_BP, e_LP, e_IIs, e_BBs, e_LLs, e_PPs, e_IIn, e_BBn, e_LLn, e_PPn, e_IIk, e_BBk, e_LLk, e_PPk, e_Ks, e_Ns, e_Is, e_Bs, e_Ls, e_Ps, e_Kn, e_Nn, e_In, e_Bn, e_Ln, e_Pn, if_true, if_false, and_self, or_true, true_or, not_false_eq_true, Bool.false_eq_true]; done) | (simp (disch := omega) only [w.1, w1.1, w2.1, w3.1, w4.1, e1, x2, x3, x4, e3, e4, e_KI, e_NI, e_BI, e_LI, e_PI, e_KB, e_NB, e_IB, e_LB, e_PB, e_KL, e_NL, e_IL, e_BL, e_PL, e_KP, e_NP, e_IP, e_BP, e_LP, e_IIs, e_BBs, e_LLs, e_PPs, e_IIn, e_BBn, e_LLn, e_PPn, e_IIk, e_BBk, e_LLk, e_PPk, e_Ks, e_Ns, e_Is, e_Bs, e_Ls, e_Ps, e_Kn, e_Nn, e_In, e_Bn, e_Ln, e_Pn, if_true, if_false, and_self, or_true, true_or, not_false_eq_true, Bool.false_eq_true]; decide) | decide) | ((with_reducible apply ev_s) <;> (first | (with_reducible rfl) | (simp (disch := omega) only [w.1, w1.1, w2.1, w3.1, w4.1, e1, x2, x3, x4, e3, e4, e_KI, e_NI, e_BI, e_LI, e_PI, e_KB, e_NB, e_IB, e_LB, e_PB, e_KL, e_NL, e_IL, e_BL, e_PL, e_KP, e_NP, e_IP, e_BP, e_LP, e_IIs, e_BBs, e_LLs, e_PPs, e_IIn, e_BBn, e_LLn, e_PPn, e_IIk, e_BBk, e_LLk, e_PPk, e_Ks, e_Ns, e_Is, e_Bs, e_Ls, e_Ps, e_Kn, e_Nn, e_In, e_Bn, e_Ln, e_Pn, if_true, if_false, and_self, or_true, true_or, not_false_eq_true, Bool.false_eq_true]; done) | (simp (disch := omega) only [w.1, w1.1, w2.1, w3.1, w4.1, e1, x2, x3, x4, e3, e4, e_KI, e_NI, e_BI, e_LI, e_PI, e_KB, e_NB, e_IB, e_LB, e_PB, e_KL, e_NL, e_IL, e_BL, e_PL, e_KP, e_NP, e_IP, e_BP, e_LP, e_IIs, e_BBs, e_LLs, e_PPs, e_IIn, e_BBn, e_LLn, e_PPn, e_IIk, e_BBk, e_LLk, e_PPk, e_Ks, e_Ns, e_Is, e_Bs, e_Ls, e_Ps, e_Kn, e_Nn, e_In, e_Bn, e_Ln, e_Pn, if_true, if_false, and_self, or_true, true_or, not_false_eq_true, Bool.false_eq_true]; rfl)))))
  obtain ⟨r6, hf, e6, g6, c1, c2, c3, c4, c5, c6⟩ := wp_ex (m_begin w5)
  have em : f_X12_clear 11 (s_I h4 10 6 0) = some (y_I h 12 1, hf) := by
    have q0 : y_I (s_I h4 10 6 0) 11 0 = y_I h 12 1 := by
      rw [e_IIn (by omega), g4.I (by omega), g3.I (by omega), g2.I (by omega), gB.I (by omega), g1.I (by omega), rB.2.1]
      exact rB.2.2.1
    unfold f_X12_clear
    (repeat (first | with_reducible apply ev_jn | ((with_reducible apply ev_bd); · first | (simp (disch := omega) only [w5.2, e6, q0, e_KI, e_NI, e_BI, e_LI, e_PI, e_KB, e_NB, e_IB, e_LB, e_PB, e_KL, e_NL, e_IL, e_BL, e_PL, e_KP, e_NP, e_IP, e_BP, e_LP, e_IIs, e_BBs, e_LLs, e_PPs, e_IIn, e_BBn, e_LLn, e_PPn, e_IIk, e_BBk, e_LLk, e_PPk, e_Ks, e_Ns, e_Is, e_Bs, e_Ls, e_Ps, e_Kn, e_Nn, e_In, e_Bn, e_Ln, e_Pn, if_true, if_false, and_self, or_true, true_or, not_false_eq_true, Bool.false_eq_true]; exact rfl) | exact rfl) | ((with_reducible apply ev_cl); · first | (simp (disch := omega) only [w5.2, e6, q0, e_KI, e_NI, e_BI, e_LI, e_PI, e_KB, e_NB, e_IB, e_LB, e_PB, e_KL, e_NL, e_IL, e_BL, e_PL, e_KP, e_NP, e_IP, e_BP, e_LP, e_IIs, e_BBs, e_LLs, e_PPs, e_IIn, e_BBn, e_LLn, e_PPn, e_IIk, e_BBk, e_LLk, e_PPk, e_Ks, e_Ns, e_Is, e_Bs, e_Ls, e_Ps, e_Kn, e_Nn, e_In, e_Bn, e_Ln, e_Pn, if_true, if_false, and_self, or_true, true_or, not_false_eq_true, Bool.false_eq_true]; exact rfl) | exact rfl) | ((with_reducible apply ev_g); · first | (simp (disch := omega) only [w5.2, e6, q0, e_KI, e_NI, e_BI, e_LI, e_PI, e_KB, e_NB, e_IB, e_LB, e_PB, e_KL, e_NL, e_IL, e_BL, e_PL, e_KP, e_NP, e_IP, e_BP, e_LP, e_IIs, e_BBs, e_LLs, e_PPs, e_IIn, e_BBn, e_LLn, e_PPn, e_IIk, e_BBk, e_LLk, e_PPk, e_Ks, e_Ns, e_Is, e_Bs, e_Ls, e_Ps, e_Kn, e_Nn, e_In, e_Bn, e_Ln, e_Pn, if_true, if_false, and_self, or_true, true_or, not_false_eq_true, Bool.false_eq_true]; done) | (simp (disch := omega) only [w5.2, e6, q0, e_KI, e_NI, e_BI, e_LI, e_PI, e_KB, e_NB, e_IB, e_LB, e_PB, e_KL, e_NL, e_IL, e_BL, e_PL, e_KP, e_NP, e_IP, e_BP, e_LP, e_IIs, e_BBs, e_LLs, e_PPs, e_IIn, e_BBn, e_LLn, e_PPn, e_IIk, e_BBk, e_LLk, e_PPk, e_Ks, e_Ns, e_Is, e_Bs, e_Ls, e_Ps, e_Kn, e_Nn, e_In, e_Bn, e_Ln, e_Pn, if_true, if_false, and_self, or_true, true_or, not_false_eq_true, Bool.false_eq_true]; decide) | decide) | ((with_reducible apply ev_t); · first | (simp (disch := omega) only [w5.2, e6, q0, e_KI, e_NI, e_BI, e_LI, e_PI, e_KB, e_NB, e_IB, e_LB, e_PB, e_KL, e_NL, e_IL, e_BL, e_PL, e_KP, e_NP, e_IP, e_BP, e_LP, e_IIs, e_BBs, e_LLs, e_PPs, e_IIn, e_BBn, e_LLn, e_PPn, e_IIk, e_BBk, e_LLk, e_PPk, e_Ks, e_Ns, e_Is, e_Bs, e_Ls, e_Ps, e_Kn, e_Nn, e_In, e_Bn, e_Ln, e_Pn, if_true, if_false, and_self, or_true, true_or, not_false_eq_true, Bool.false_eq_true]; done) | (simp (disch := omega) only [w5.2, e6, q0, e_KI, e_NI, e_BI, e_LI, e_PI, e_KB, e_NB, e_IB, e_LB, e_PB, e_KL, e_NL, e_IL, e_BL, e_PL, e_KP, e_NP, e_IP, e_BP, e_LP, e_IIs, e_BBs, e_LLs, e_PPs, e_IIn, e_BBn, e_LLn, e_PPn, e_IIk, e_BBk, e_LLk, e_PPk, e_Ks, e_Ns, e_Is, e_Bs, e_Ls, e_Ps, e_Kn, e_Nn, e_In, e_Bn, e_Ln, e_Pn, if_true, if_false, and_self, or_true, true_or, not_false_eq_true, Bool.false_eq_true]; decide) | decide) | ((with_reducible apply ev_f); · first | (simp (disch := omega) only [w5.2, e6, q0, e_KI, e_NI, e_BI, e_LI, e_PI, e_KB, e_NB, e_IB, e_LB, e_PB, e_KL, e_NL, e_IL, e_BL, e_PL, e_KP, e_NP, e_IP, e_BP, e_LP, e_IIs, e_BBs, e_LLs, e_PPs, e_IIn, e_BBn, e_LLn, e_PPn, e_IIk, e_BBk, e_LLk, e_PPk, e_Ks, e_Ns, e_Is, e_Bs, e_Ls, e_Ps, e_Kn, e_Nn, e_In, e_Bn, e_Ln, e_Pn, if_true, if_false, and_self, or_true, true_or, not_false_eq_true, Bool.false_eq_true]; done) | (simp (disch := omega) only [w5.2, e6, q0, e_KI, e_NI, e_BI, e_LI, e_PI, e_KB, e_NB, e_IB, e_LB, e_PB, e_KL, e_NL, e_IL, e_BL, e_PL, e_KP, e_NP, e_IP, e_BP, e_LP, e_IIs, e_BBs, e_LLs, e_PPs, e_IIn, e_BBn, e_LLn, e_PPn, e_IIk, e_BBk, e_LLk, e_PPk, e_Ks, e_Ns, e_Is, e_Bs, e_Ls, e_Ps, e_Kn, e_Nn, e_In, e_Bn, e_Ln, e_Pn, if_true, if_false, and_self, or_true, true_or, not_false_eq_true, Bool.false_eq_true]; decide) | decide) | ((with_reducible apply ev_s) <;> (first | (with_reducible rfl) | (simp (disch := omega) only [w5.2, e6, q0, e_KI, e_NI, e_BI, e_LI, e_PI, e_KB, e_NB, e_IB, e_LB, e_PB, e_KL, e_NL, e_IL, e_BL, e_PL, e_KP, e_NP, e_IP, e_BP, e_LP, e_IIs, e_BBs, e_LLs, e_PPs, e_IIn, e_BBn, e_LLn, e_PPn, e_IIk, e_BBk, e_LLk, e_PPk, e_Ks, e_Ns, e_Is, e_Bs, e_Ls, e_Ps, e_Kn, e_Nn, e_In, e_Bn, e_Ln, e_Pn, if_true, if_false, and_self, or_true, true_or, not_false_eq_true, Bool.false_eq_true]; done) | (simp (disch := omega) only [w5.2, e6, q0, e_KI, e_NI, e_BI, e_LI, e_PI, e_KB, e_NB, e_IB, e_LB, e_PB, e_KL, e_NL, e_IL, e_BL, e_PL, e_KP, e_NP, e_IP, e_BP, e_LP, e_IIs, e_BBs, e_LLs, e_PPs, e_IIn, e_BBn, e_LLn, e_PPn, e_IIk, e_BBk, e_LLk, e_PPk, e_Ks, e_Ns, e_Is, e_Bs, e_Ls, e_Ps, e_Kn, e_Nn, e_In, e_Bn, e_Ln, e_Pn, if_true, if_false, and_self, or_true, true_or, not_false_eq_true, Bool.false_eq_true]; rfl)))))
  refine Call.wr (h1 := s_I h4 10 6 0) (h2 := hf) ec em ?_
  have g7 := hmB_ag (s_I h4 10 6 0)
  have G4 : ag (fun a k => a = 359 ∨ a % 64 = 47 ∨ a = 36 ∧ k < 8 ∨ a = 100 ∨ a = 10 ∧ k = 6) (fun _ => False) (hcB h1) (s_I h4 10 6 0) := ag.sI ((g2.mono (fun a k q => by omega) (fun a q => q)).trans ((g3.mono (fun a k q => by omega) (fun a q => q)).trans (g4.mono (fun a k q => by omega) (fun a q => q)))) (by omega)
  have G6 : ag (fun a k => a = 11 ∧ (k = 0 ∨ k = 16 ∨ k = 25 ∨ k = 33 ∨ k = 34 ∨ k = 46 ∨ k = 47 ∨ k = 50 ∨ k = 55 ∨ k = 57 ∨ k = 58 ∨ k = 59 ∨ k = 72 ∨ k = 79 ∨ k = 80 ∨ k = 52) ∨ a = 994 ∨ a = 1442 ∧ k < 25 ∨ a = 1250 ∨ a = 1314 ∨ a = 2658 ∧ k < 8 ∨ a = 1890 ∧ k < 3 ∨ a = 3746 ∨ a = 3682) (fun _ => False) (s_I h4 10 6 0) hf := (g7.mono (fun a k q => Or.inl q) (fun a q => q)).trans (g6.mono (fun a k q => Or.inr q) (fun a q => q))
  -- the values that were written
  have m1 : y_I hf 11 0 = 0 ∧ y_I hf 11 16 = 0 ∧ y_I hf 11 25 = 0 ∧ y_I hf 11 33 = 0 ∧ y_I hf 11 34 = 0 ∧ y_I hf 11 46 = 0 ∧ y_I hf 11 47 = 0 ∧ y_I hf 11 50 = 0 ∧ y_I hf 11 55 = 0 ∧ y_I hf 11 57 = 0 ∧ y_I hf 11 58 = 0 ∧ y_I hf 11 59 = -9 ∧ y_I hf 11 72 = 0 ∧ y_B hf 11 79 = false ∧ y_L hf 11 80 = 0 ∧ y_I hf 11 52 = -9 := by
    rw [g6.I (by omega), g6.I (by omega), g6.I (by omega), g6.I (by omega), g6.I (by omega), g6.I (by omega), g6.I (by omega), g6.I (by omega), g6.I (by omega), g6.I (by omega), g6.I (by omega), g6.I (by omega), g6.I (by omega), g6.B (by omega), g6.L (by omega), g6.I (by omega)]
    simp (disch := omega) only [hmB, e_KI, e_NI, e_BI, e_LI, e_PI, e_KB, e_NB, e_IB, e_LB, e_PB, e_KL, e_NL, e_IL, e_BL, e_PL, e_KP, e_NP, e_IP, e_BP, e_LP, e_IIs, e_BBs, e_LLs, e_PPs, e_IIn, e_BBn, e_LLn, e_PPn, e_IIk, e_BBk, e_LLk, e_PPk, and_self]
  obtain ⟨m1, m2, m3, m4, m5, m6, m7, m8, m9, m10, m11, m12, m13, m14, m15, m16⟩ := m1
  have hI : ∀ a k, ¬ (a = 11 ∧ (k = 0 ∨ k = 16 ∨ k = 25 ∨ k = 33 ∨ k = 34 ∨ k = 46 ∨ k = 47 ∨ k = 50 ∨ k = 55 ∨ k = 57 ∨ k = 58 ∨ k = 59 ∨ k = 72 ∨ k = 79 ∨ k = 80 ∨ k = 52) ∨ a = 994 ∨ a = 1442 ∧ k < 25 ∨ a = 1250 ∨ a = 1314 ∨ a = 2658 ∧ k < 8 ∨ a = 1890 ∧ k < 3 ∨ a = 3746 ∨ a = 3682) → y_I hf a k = y_I (s_I h4 10 6 0) a k := fun a k q => G6.I q
  have l1 : ∀ a k, a < 34 → a ≠ 11 → ¬ (a = 10 ∧ k = 6) → y_I hf a k = y_I (hcB h1) a k := fun a k q1 q2 q3 => by
    rw [hI a k (by omega), G4.I (by omega)]
  have v1 : y_I hf 13 2 = 0 ∧ y_I hf 13 3 = 0 ∧ y_I hf 14 1 = 0 ∧ y_I hf 14 4 = 0 ∧ y_I hf 14 5 = 0 ∧ y_I hf 15 5 = 0 := by
    rw [l1 _ _ (by omega) (by omega) (by omega), l1 _ _ (by omega) (by omega) (by omega), l1 _ _ (by omega) (by omega) (by omega), l1 _ _ (by omega) (by omega) (by omega), l1 _ _ (by omega) (by omega) (by omega), l1 _ _ (by omega) (by omega) (by omega)]
    simp (disch := omega) only [hcB, e_KI, e_NI, e_BI, e_LI, e_PI, e_KB, e_NB, e_IB, e_LB, e_PB, e_KL, e_NL, e_IL, e_BL, e_PL, e_KP, e_NP, e_IP, e_BP, e_LP, e_IIs, e_BBs, e_LLs, e_PPs, e_IIn, e_BBn, e_LLn, e_PPn, e_IIk, e_BBk, e_LLk, e_PPk, and_self]
  have v2 : y_P hf 14 6 = 0 ∧ y_B hf 15 6 = false ∧ y_L hf 15 9 = 0 := by
    rw [G6.P (by omega), G4.P (by omega), G6.B (by omega), G4.B (by omega), G6.L (by omega), G4.L (by omega)]
    simp (disch := omega) only [hcB, e_KI, e_NI, e_BI, e_LI, e_PI, e_KB, e_NB, e_IB, e_LB, e_PB, e_KL, e_NL, e_IL, e_BL, e_PL, e_KP, e_NP, e_IP, e_BP, e_LP, e_IIs, e_BBs, e_LLs, e_PPs, e_IIn, e_BBn, e_LLn, e_PPn, e_IIk, e_BBk, e_LLk, e_PPk, and_self]
  have v3 : ∀ a k, a = 12 ∨ a = 16 ∨ a = 291 ∨ a = 355 → y_I hf a k = y_I h1 a k := fun a k q => by
    rw [hI a k (by omega), G4.I (by omega), gB.I (by omega)]
  have v4 : ∀ k, k < 8 → y_I hf 36 k = 0 := fun k hk => by
    rw [hI _ _ (by omega), e_IIn (by omega), g4.I (by omega)]
    exact b5 k hk
  have v5 : ∀ k, k < 3 → y_I hf 100 k = -9 := fun k hk => by
    rw [hI _ _ (by omega), e_IIn (by omega)]
    exact b6 k hk
  have v6 : y_I hf 10 6 = 0 := by
    rw [hI _ _ (by omega)]
    exact e_IIs
  -- what stays
  have g9 : ag (fun a k => a = 12 ∧ (k = 1 ∨ k = 4 ∨ k = 6 ∨ k = 9 ∨ k = 11) ∨ a = 291 ∧ k < 3 ∨ a = 355 ∧ k < 25 ∨ a = 16 ∧ k = 1 ∨ a % 64 = 23 ∧ k = 5 ∨ a = 13 ∧ (k = 2 ∨ k = 3) ∨ a = 14 ∧ (k = 1 ∨ k = 4 ∨ k = 5 ∨ k = 6) ∨ a = 15 ∧ (k = 5 ∨ k = 6 ∨ k = 9)) (fun _ => False) h (hcB h1) := (g1.mono (fun a k q => by omega) (fun a q => q)).trans (gB.mono (fun a k q => by omega) (fun a q => q))
  have FK : ∀ a, y_K hf a = y_K h a := fun a => (G6.K (fun q => q)).trans ((G4.K (fun q => q)).trans (g9.K (fun q => q)))
  have FN : ∀ a, y_N hf a = y_N h a := fun a => (G6.N (fun q => q)).trans ((G4.N (fun q => q)).trans (g9.N (fun q => q)))
  have FI : ∀ a k, a % 64 ≠ 34 → a % 64 ≠ 47 → 17 ≤ a → a ≠ 291 → a ≠ 355 → a ≠ 359 → a ≠ 36 → a ≠ 100 → ¬ (a % 64 = 23 ∧ k = 5) → y_I hf a k = y_I h a k := fun a k _ _ _ _ _ _ _ _ _ => by
    rw [G6.I (by omega), G4.I (by omega), g9.I (by omega)]
  have FP : ∀ a k, a % 64 ≠ 34 → a % 64 ≠ 47 → 17 ≤ a → a ≠ 291 → a ≠ 355 → a ≠ 359 → a ≠ 36 → a ≠ 100 → ¬ (a % 64 = 23 ∧ k = 5) → y_P hf a k = y_P h a k := fun a k _ _ _ _ _ _ _ _ _ => by
    rw [G6.P (by omega), G4.P (by omega), g9.P (by omega)]
  have F14 : ∀ k, ¬ (k = 1 ∨ k = 4 ∨ k = 5 ∨ k = 6) → y_P hf 14 k = y_P h 14 k := fun k _ => by
    rw [G6.P (by omega), G4.P (by omega), g9.P (by omega)]
  have wf : Sh hf := (Sh_ag G6 (by intro a k q; (simp only [FSh] at q ⊢) <;> omega) (by intro a q; (simp only [GSh, not_false_eq_true] at q ⊢) <;> omega) w5)
  have rT2 : RT hf := by
    obtain ⟨z1, z2, k, z3, z4⟩ := rT
    have x1 : y_I hf 40 = y_I h 40 := funext fun k => FI _ _ (by omega) (by omega) (by omega) (by omega) (by omega) (by omega) (by omega) (by omega) (by omega)
    have x2 : y_I hf 2594 = y_I h 2594 := funext fun k => by
      rw [G6.I (by omega), G4.I (by omega), g9.I (by omega)]
    refine ⟨?_, ?_, 0, by omega, m6⟩
    · rw [x1, x2]
      exact z1
    · rw [v3 _ _ (by omega), m6]
      exact a6
  have rM2 : RM hf := by
    obtain ⟨z1, z2, z3, z4, ⟨z5, z5s⟩, z6, z7, z8⟩ := rM
    have n3 : y_N h 291 = 3 ∧ y_N h 355 = 25 := by simp only [w.1, and_self]
    refine ⟨v6.trans m7.symm, funext fun k => ?_, ?_, ?_, ⟨funext fun k => ?_, fun a b ha hb => ?_⟩, funext fun k => ?_, fun r hr => ?_, ?_⟩
    · by_cases hk : k < 8
      · rw [v4 k hk]
        exact (c4 k hk).symm
      · rw [G6.I (by omega), G4.I (by omega), g9.I (by omega), G6.I (by omega), G4.I (by omega), g9.I (by omega), z2]
    · rw [v3 _ _ (by omega), m4]
      exact a4
    · rw [G6.I (by omega), G4.I (by omega), g9.I (by omega), G6.I (by omega), G4.I (by omega), g9.I (by omega)]
      exact z4
    · by_cases hk : k < 25
      · rw [v3 _ _ (by omega), b2 k (by omega)]
        exact (c2 k hk).symm
      · rw [G6.I (by omega), G4.I (by omega), g9.I (by omega), G6.I (by omega), G4.I (by omega), g9.I (by omega), z5]
    · rw [c2 _ (by omega), c2 _ (by omega)]
    · by_cases hk : k < 3
      · rw [v3 _ _ (by omega), b1 k (by omega)]
        exact (c5 k hk).symm
      · rw [G6.I (by omega), G4.I (by omega), g9.I (by omega), G6.I (by omega), G4.I (by omega), g9.I (by omega), z6]
    · rw [c5 r hr]
      decide
    · rw [if_pos m16]
      exact v5
  have rB2 : RB hf 0 := by
    refine ⟨by omega, ?_, m1, fun n hn => absurd hn (by omega), fun n hn => ?_⟩
    · rw [v3 _ _ (by omega)]
      exact a1
    · rw [FP 35 _ (by omega) (by omega) (by omega) (by omega) (by omega) (by omega) (by omega) (by omega) (by omega), FK, FI (64 * n + 20) 0 (by omega) (by omega) (by omega) (by omega) (by omega) (by omega) (by omega) (by omega) (by omega)]
      exact rB.2.2.2.2 n hn
  have rC2 : RC hf 0 := by
    refine ⟨by omega, ?_, m3, fun n hn => absurd hn (by omega), fun n hn => ?_⟩
    · rw [v3 _ _ (by omega)]
      exact a2
    · rw [FP 163 _ (by omega) (by omega) (by omega) (by omega) (by omega) (by omega) (by omega) (by omega) (by omega), FK, FI (64 * n + 21) 0 (by omega) (by omega) (by omega) (by omega) (by omega) (by omega) (by omega) (by omega) (by omega)]
      exact rC.2.2.2.2 n hn
  have rS2 : RS hf 0 := by
    refine ⟨by omega, ?_, m5, fun n hn => absurd hn (by omega), fun s hs => ?_⟩
    · rw [v3 _ _ (by omega)]
      exact a3
    · have z := rS.2.2.2.2 s hs
      simp (disch := omega) only [sshape, snone, FK, FN, FI, FP] at z ⊢
      exact z
  have rV2 : RV hf := fun b hb9 => by
    have c1b := c1 b hb9
    have nb : ¬ (y_B hf 994 b = true) := by rw [c1b]; decide
    have z := rV b hb9
    have vs : (vshape hf b ↔ vshape h b) ∧ (vnone hf b ↔ vnone h b) := by
      simp (disch := omega) only [vshape, vnone, FK, FN, FI, FP, and_self]
    unfold vx
    rw [if_neg nb]
    refine ⟨?_, fun s hs => ⟨(c3 _ (by omega)).1, (c3 _ (by omega)).2⟩⟩
    have z2 : vnone h b ∨ vshape h b := by
      unfold vx at z
      split at z
      · exact Or.inr z.1
      · exact z.1.imp (fun q => q) (fun q => q.1)
    rcases z2 with q | q
    · exact Or.inl (vs.2.mpr q)
    · refine Or.inr ⟨vs.1.mpr q, ?_⟩
      have ne : y_P h 99 b ≠ 0 := by rw [q.1]; omega
      rw [G6.B (by omega), G4.B (by omega), gB.B (by omega)]
      exact b3 b hb9 ne
  have rL2 : RLn hf 0 0 (t + 1) := by
    refine ⟨fun n hn => absurd hn (by omega), ⟨0, by omega, m2, fun n hn => absurd hn (by omega)⟩, 0, fun _ => 0, by omega, ?_, fun i hi => absurd hi (by omega), fun i j _ hj => absurd hj (by omega), fun n hn => absurd hn (by omega)⟩
    rw [v3 _ _ (by omega)]
    exact a5
  have rJ2 : RJ hf 0 := by
    obtain ⟨-, -, -, o, -, -, -, z⟩ := rJ
    refine ⟨by omega, v1.2.1, m8, 0, by omega, v1.1, fun k hk => absurd hk (by omega), fun j hj => ?_⟩
    rw [FP 37 _ (by omega) (by omega) (by omega) (by omega) (by omega) (by omega) (by omega) (by omega) (by omega), FK]
    exact z j hj
  have rP2 : RP hf 0 0 0 := by
    refine ⟨fun b m s f t q1 q2 => ?_, fun n b s t hn => absurd hn (by omega), fun s k q1 => absurd q1 (by omega), fun n s k hn => absurd hn (by omega)⟩
    rw [c1 b q1] at q2
    exact absurd q2 (by decide)
  have rH2 : RH hf 0 0 0 0 := by
    refine ⟨fun r hr => ?_, fun r hr => absurd hr (by omega)⟩
    refine ⟨fun n hn => absurd hn (by omega), fun n c hn => absurd hn (by omega), fun c hc => absurd hc (by omega), fun n n' hn => absurd hn (by omega), fun n t hn => absurd hn (by omega), fun c hc => absurd hc (by omega), fun c d g _ hd => absurd hd (by omega), fun s hs => absurd hs (by omega)⟩
  have rD2 : RD hf 0 := by
    obtain ⟨-, -, -, L, c, z1, z2, z3, z4, z5, z6, z7⟩ := rD
    refine ⟨⟨0, fun _ => 0, by omega, v1.2.2.1, m9, fun i hi => absurd hi (by omega), fun i j hi => absurd hi (by omega)⟩, ⟨0, by omega, v1.2.2.2.2.1, m10⟩, Or.inl ⟨m12, v2.1⟩, 0, c, by omega, z2, z3, v1.2.2.2.1, m11, ?_, fun m hm => ?_⟩
    · refine z6.imp (fun q => ⟨q.1, ?_⟩) (fun q => ⟨q.1, ?_⟩)
      · obtain ⟨y1, y2, y3, y4, y5, y6, -⟩ := q.2
        exact ⟨(F14 2 (by omega)).trans y1, (F14 3 (by omega)).trans y2, (FK _).trans y3, (FK _).trans y4, (FN _).trans y5, (FN _).trans y6, fun i hi => absurd hi (by omega)⟩
      · obtain ⟨y1, y2, y3, y4, y5, y6, -⟩ := q.2
        exact ⟨(F14 2 (by omega)).trans y1, (F14 3 (by omega)).trans y2, (FK _).trans y3, (FK _).trans y4, (FN _).trans y5, (FN _).trans y6, fun i hi => absurd hi (by omega)⟩
    · rw [FK, FK]
      exact z7 m hm
  have rQ2 : RQ hf e := by
    have x1 : RQ (hcB h1) e := (RQ_ag g9 (by intro a k q; (simp only [FRQ] at q ⊢) <;> omega) (by intro a q; (simp only [GRQ, not_false_eq_true] at q ⊢) <;> omega) rQ)
    have x2 : RQ (s_I h4 10 6 0) e := (RQ_ag G4 (by intro a k q; (simp only [FRQ] at q ⊢) <;> omega) (by intro a q; (simp only [GRQ, not_false_eq_true] at q ⊢) <;> omega) x1)
    exact (RQ_ag G6 (by intro a k q; (simp only [FRQ] at q ⊢) <;> omega) (by intro a q; (simp only [GRQ, not_false_eq_true] at q ⊢) <;> omega) x2)
  have rK2 : RK hf 0 0 := by
    obtain ⟨-, z2, z3, z4, z5, -, -, -, z9⟩ := rK
    have x : ∀ a, a = 39 ∨ a = 103 ∨ a = 167 ∨ a = 3490 ∨ a = 3554 ∨ a = 3618 → y_I hf a = y_I h a := fun a q => funext fun k => by
      rw [G6.I (by omega), G4.I (by omega), g9.I (by omega)]
    refine ⟨⟨0, by omega, v1.2.2.2.2.2, m13, fun i hi => absurd hi (by omega)⟩, ?_, ?_, ?_, ?_, v2.2.1.trans m14.symm, v2.2.2.trans m15.symm, fun q => ?_, fun s hs => ?_⟩
    · rw [x _ (by omega), x _ (by omega)]
      exact z2
    · rw [x _ (by omega), x _ (by omega)]
      exact z3
    · rw [x _ (by omega), x _ (by omega)]
      exact z4
    · rw [x _ (by omega)]
      exact z5
    · rw [m14] at q
      exact absurd q (by decide)
    · obtain ⟨c, y1, y2, y3, y4, y5, y6⟩ := hq0 s hs
      obtain ⟨d1, d2⟩ := b4 s hs
      obtain ⟨d3, d4⟩ := c6 s hs
      have p5 : y_P (hcB h1) 295 s = 64 * (4 * c + s) + 47 := by
        rw [g9.P (by omega)]
        exact y3
      rw [p5] at d2
      refine ⟨3, c, y1, y1, y2, ?_, d3, ?_, (FK _).trans y4, (FN _).trans y5, fun i hi => ⟨?_, ?_⟩, fun m hm => (FK _).trans (y6 m hm)⟩
      · rw [hI _ _ (by omega), e_IIn (by omega), g4.I (by omega), g3.I (by omega)]
        exact d1
      · rw [FP 295 _ (by omega) (by omega) (by omega) (by omega) (by omega) (by omega) (by omega) (by omega) (by omega)]
        exact y3
      · rw [hI _ _ (by omega), e_IIn (by omega), g4.I (by omega), g3.I (by omega), d4 i hi]
        exact d2 i hi
      · exact Or.inl (d4 i hi)
  exact ⟨0, 0, 0, 0, wf, rT2, rM2, rB2, rC2, rS2, rV2, rL2, rJ2, rP2, rH2, rD2, rQ2, rK2⟩
end CLS
