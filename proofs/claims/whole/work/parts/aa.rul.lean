/-! run: the call -/
section RUL
variable {h H X G G2 : y_H} {N C S A t e c0 s0 tk k f w : Nat}
def cI9 (h : y_H) : y_H := s_I (s_I (s_I (s_I (s_L (s_B (s_I h 16 1 0) 15 6 true) 15 9 0) 15 10 0) 15 11 (-9)) 15 7 (-9)) 15 8 (-9)
def mI8 (H : y_H) : y_H := s_I (s_I (s_I (s_I (s_I (s_I (s_L (s_B (s_I H 11 46 0) 11 79 true) 11 80 0) 11 81 (-9)) 11 82 (-9)) 11 83 (-9)) 11 84 0) 11 85 0) 11 91 0
def mI9 (H : y_H) (k : Nat) : y_H := psh9 (mI8 H) 0 0 (nI k) 0
theorem cI9_ag : ag (fun a k => a = 16 ∧ k = 1 ∨ a = 15 ∧ 6 ≤ k ∧ k ≤ 11) (fun _ => False) h (cI9 h) := by
  unfold cI9
  exact ag.sI (ag.sI (ag.sI (ag.sI (ag.sL (ag.sB (ag.sI (ag.refl _ _ _) (by omega)) (by omega)) (by omega)) (by omega)) (by omega)) (by omega)) (by omega)
theorem mI9_ag : ag (fun a k => a = 11 ∧ (k = 46 ∨ 79 ≤ k ∧ k ≤ 85 ∨ k = 91) ∨ (a = 3810 ∨ a = 3874 ∨ a = 3938 ∨ a = 4002) ∧ k = 0) (fun _ => False) H (mI9 H k) := by
  unfold mI9 mI8 psh9
  exact ag.sI (ag.sI (ag.sI (ag.sI (ag.sI (ag.sI (ag.sI (ag.sI (ag.sI (ag.sI (ag.sI (ag.sL (ag.sB (ag.sI (ag.refl _ _ _) (by omega)) (by omega)) (by omega)) (by omega)) (by omega)) (by omega)) (by omega)) (by omega)) (by omega)) (by omega)) (by omega)) (by omega)) (by omega)) (by omega)
theorem RR0 (R : RelP h t e N C S A) (g : ag (fun a k => a = 36 ∨ PQ9 a k) QR9 h H) : RR h (cI9 h) (mI9 H k) N C := by
  obtain ⟨W, rT, rM, rB, rC, rS, rV, rL, rJ, rP, rH, rD, rQ, rK⟩ := id R
  refine ⟨⟨cI9_ag.mono (fun a k q => by unfold PR9; omega) (fun a q => q.elim), (g.mono (fun a k q => by simp only [PQ9, PR9] at q ⊢; omega) (fun a q => q)).trans (mI9_ag.mono (fun a k q => by unfold PR9; omega) (fun a q => q.elim))⟩, ⟨?_, ?_, 0, by omega, ?_⟩, ⟨?_, ?_, ?_⟩, ⟨?_, ?_⟩, ⟨?_, ?_, cI9_ag.mono (fun a k q => by unfold PQ9; omega) (fun a q => q.elim)⟩, fun s hs => ?_⟩
  · rw [cI9_ag.rI (fun k => by omega), mI9_ag.rI (fun k => by omega), g.rI (fun k => by unfold PQ9; omega)]
    exact rT.1
  · unfold cI9 mI9 mI8 psh9
    simp (disch := omega) only [e_KI, e_NI, e_BI, e_LI, e_PI, e_KB, e_NB, e_IB, e_LB, e_PB, e_KL, e_NL, e_IL, e_BL, e_PL, e_KP, e_NP, e_IP, e_BP, e_LP, e_IIs, e_BBs, e_LLs, e_PPs, e_IIn, e_BBn, e_LLn, e_PPn, e_IIk, e_BBk, e_LLk, e_PPk]
  · unfold mI9 mI8 psh9
    simp (disch := omega) only [e_KI, e_NI, e_BI, e_LI, e_PI, e_KB, e_NB, e_IB, e_LB, e_PB, e_KL, e_NL, e_IL, e_BL, e_PL, e_KP, e_NP, e_IP, e_BP, e_LP, e_IIs, e_BBs, e_LLs, e_PPs, e_IIn, e_BBn, e_LLn, e_PPn, e_IIk, e_BBk, e_LLk, e_PPk]
    rfl
  · unfold cI9 mI9 mI8 psh9
    simp (disch := omega) only [e_KI, e_NI, e_BI, e_LI, e_PI, e_KB, e_NB, e_IB, e_LB, e_PB, e_KL, e_NL, e_IL, e_BL, e_PL, e_KP, e_NP, e_IP, e_BP, e_LP, e_IIs, e_BBs, e_LLs, e_PPs, e_IIn, e_BBn, e_LLn, e_PPn, e_IIk, e_BBk, e_LLk, e_PPk]
  · unfold cI9 mI9 mI8 psh9
    simp (disch := omega) only [e_KI, e_NI, e_BI, e_LI, e_PI, e_KB, e_NB, e_IB, e_LB, e_PB, e_KL, e_NL, e_IL, e_BL, e_PL, e_KP, e_NP, e_IP, e_BP, e_LP, e_IIs, e_BBs, e_LLs, e_PPs, e_IIn, e_BBn, e_LLn, e_PPn, e_IIk, e_BBk, e_LLk, e_PPk]
  · unfold mI9 mI8 psh9
    simp (disch := omega) only [e_KI, e_NI, e_BI, e_LI, e_PI, e_KB, e_NB, e_IB, e_LB, e_PB, e_KL, e_NL, e_IL, e_BL, e_PL, e_KP, e_NP, e_IP, e_BP, e_LP, e_IIs, e_BBs, e_LLs, e_PPs, e_IIn, e_BBn, e_LLn, e_PPn, e_IIk, e_BBk, e_LLk, e_PPk]
    exact lkv_no
  · unfold cI9 mI9 mI8 psh9
    simp (disch := omega) only [e_KI, e_NI, e_BI, e_LI, e_PI, e_KB, e_NB, e_IB, e_LB, e_PB, e_KL, e_NL, e_IL, e_BL, e_PL, e_KP, e_NP, e_IP, e_BP, e_LP, e_IIs, e_BBs, e_LLs, e_PPs, e_IIn, e_BBn, e_LLn, e_PPn, e_IIk, e_BBk, e_LLk, e_PPk]
  · unfold cI9 mI9 mI8 psh9
    simp (disch := omega) only [e_KI, e_NI, e_BI, e_LI, e_PI, e_KB, e_NB, e_IB, e_LB, e_PB, e_KL, e_NL, e_IL, e_BL, e_PL, e_KP, e_NP, e_IP, e_BP, e_LP, e_IIs, e_BBs, e_LLs, e_PPs, e_IIn, e_BBn, e_LLn, e_PPn, e_IIk, e_BBk, e_LLk, e_PPk]
  · unfold cI9
    simp (disch := omega) only [e_KI, e_NI, e_BI, e_LI, e_PI, e_KB, e_NB, e_IB, e_LB, e_PB, e_KL, e_NL, e_IL, e_BL, e_PL, e_KP, e_NP, e_IP, e_BP, e_LP, e_IIs, e_BBs, e_LLs, e_PPs, e_IIn, e_BBn, e_LLn, e_PPn, e_IIk, e_BBk, e_LLk, e_PPk]
  · unfold cI9
    simp (disch := omega) only [e_KI, e_NI, e_BI, e_LI, e_PI, e_KB, e_NB, e_IB, e_LB, e_PB, e_KL, e_NL, e_IL, e_BL, e_PL, e_KP, e_NP, e_IP, e_BP, e_LP, e_IIs, e_BBs, e_LLs, e_PPs, e_IIn, e_BBn, e_LLn, e_PPn, e_IIk, e_BBk, e_LLk, e_PPk]
  · have z : sh2 h h N C s := rK.2.2.2.2.2.2.2.2 s hs
    exact sh2_cg (cI9_ag.rI (fun k => by omega)) ((mI9_ag.rI (fun k => by omega)).trans (g.rI (fun k => by unfold PQ9; omega))) (cI9_ag.rP (fun k => by omega)) (fun m => cI9_ag.K (fun z => z)) (fun m => cI9_ag.N (fun z => z)) (fun m => cI9_ag.rI (fun k => by omega)) ((mI9_ag.rI (fun k => by omega)).trans (g.rI (fun k => by unfold PQ9; omega))) z
theorem mI9_p : y_I (mI9 H k) 11 91 = nI 0 := by
  unfold mI9 mI8 psh9
  simp (disch := omega) only [e_KI, e_NI, e_BI, e_LI, e_PI, e_KB, e_NB, e_IB, e_LB, e_PB, e_KL, e_NL, e_IL, e_BL, e_PL, e_KP, e_NP, e_IP, e_BP, e_LP, e_IIs, e_BBs, e_LLs, e_PPs, e_IIn, e_BBn, e_LLn, e_PPn, e_IIk, e_BBk, e_LLk, e_PPk]
  rfl
/-- what the class does, and what the model then does over any end of it -/
theorem runs (R : RelP h t e N C S A) (ht : tk < 6) (hk : k ≤ 10) : ∃ met c1 s1 H1, f_X8_workOps 14 15 (nI (10 * tk)) (nI (10 * tk + k)) 0 c0 s0 (cI9 h) = some ((met, c1, s1), H1) ∧ c1 ≤ c0 + 10 ∧ s1 ≤ s0 + 1270 ∧ ag PQ9 QR9 h H1 ∧ ∀ H, ag (fun a k => a = 36 ∨ PQ9 a k) QR9 h H → Out h tk N C 0 (4 * k) k (mI9 H k) H1 met := by
  have hy : ∀ H, ag (fun a k => a = 36 ∨ PQ9 a k) QR9 h H → Cn h tk N C 0 k 0 13 (cI9 h) (mI9 H k) c0 s0 := fun H g => big R ht 10 0 k 0 13 (cI9 h) (mI9 H k) c0 s0 (by omega) ⟨⟨by omega, hk, by omega, by omega⟩, RR0 R g, psh9_d, mI9_p, psh9_e⟩
  obtain ⟨met, c1, s1, H1, k1, ⟨k2, k3⟩, O⟩ := hy h (ag.refl _ _ _)
  have er : f_X8_workOps 14 15 (nI (10 * tk)) (nI (10 * tk + k)) 0 c0 s0 (cI9 h) = some ((met, c1, s1), H1) := by
    show fb_X8_workOps (f_X8_workOps 13) 15 (nI (10 * tk)) (nI (10 * tk + k)) 0 c0 s0 (cI9 h) = some ((met, c1, s1), H1)
    unfold fb_X8_workOps y_jl
    rw [if_pos (by decide)]
    exact k1 0 y_fu (Nat.le_refl _) (by unfold y_fu; omega)
  refine ⟨met, c1, s1, H1, er, by omega, by omega, ?_, fun H g => ?_⟩
  · obtain ⟨G', r', -⟩ := O
    exact r'.2.2.2.2.1.2.2
  · obtain ⟨met', c1', s1', H1', k1', -, O'⟩ := hy H g
    have e9 := (k1 0 11 (Nat.le_refl _) (by omega)).symm.trans (k1' 0 11 (Nat.le_refl _) (by omega))
    have e10 := Prod.mk.inj (Option.some.inj e9)
    have e11 := Prod.mk.inj e10.1
    rw [e11.1, e10.2]
    exact O'
theorem s_pop0 {D pc en t : Nat} {j : Nat → Int32 → Int32 → y_H → Option (Int32 × y_H)} (w : Sh G) (hD : D < 12) (e1 : y_I G 11 85 = nI (D + 1)) (e2 : y_I G 11 91 = nI pc) (e3 : y_I G 3874 D = nI en) (le : en ≤ pc) (hp : pc < 100) (e4 : y_I G 3810 D = 0) : rBd j 11 (nI t) 0 G = j 11 (nI t) 0 (s_I G 11 85 (nI D)) := by
  have xD := i_ix hD (by decide)
  have cD := i_cl (show D < 2 ^ 31 by omega)
  have pd : nI (D + 1) - 1 = nI D := nI_pred _
  have n0 : ¬ nI (D + 1) ≤ (0 : Int32) := nI_ge (a := 0) (by omega) (by omega)
  have l1 : nI en ≤ nI pc := nI_le le (by omega)
  unfold rBd
  (repeat (first | with_reducible apply ev_jn | ((with_reducible apply ev_bd); · first | (simp (disch := omega) only [w.2, e1, n0, pd, xD, cD, e3, e2, l1, e4, e_KI, e_NI, e_BI, e_LI, e_PI, e_KB, e_NB, e_IB, e_LB, e_PB, e_KL, e_NL, e_IL, e_BL, e_PL, e_KP, e_NP, e_IP, e_BP, e_LP, e_IIs, e_BBs, e_LLs, e_PPs, e_IIn, e_BBn, e_LLn, e_PPn, e_IIk, e_BBk, e_LLk, e_PPk, e_Ks, e_Ns, e_Is, e_Bs, e_Ls, e_Ps, e_Kn, e_Nn, e_In, e_Bn, e_Ln, e_Pn, if_true, if_false, and_self, or_true, true_or, not_false_eq_true, Bool.false_eq_true]; exact rfl) | exact rfl) | ((with_reducible apply ev_cl); · first | (simp (disch := omega) only [w.2, e1, n0, pd, xD, cD, e3, e2, l1, e4, e_KI, e_NI, e_BI, e_LI, e_PI, e_KB, e_NB, e_IB, e_LB, e_PB, e_KL, e_NL, e_IL, e_BL, e_PL, e_KP, e_NP, e_IP, e_BP, e_LP, e_IIs, e_BBs, e_LLs, e_PPs, e_IIn, e_BBn, e_LLn, e_PPn, e_IIk, e_BBk, e_LLk, e_PPk, e_Ks, e_Ns, e_Is, e_Bs, e_Ls, e_Ps, e_Kn, e_Nn, e_In, e_Bn, e_Ln, e_Pn, if_true, if_false, and_self, or_true, true_or, not_false_eq_true, Bool.false_eq_true]; exact rfl) | exact rfl) | ((with_reducible apply ev_g); · first | (simp (disch := omega) only [w.2, e1, n0, pd, xD, cD, e3, e2, l1, e4, e_KI, e_NI, e_BI, e_LI, e_PI, e_KB, e_NB, e_IB, e_LB, e_PB, e_KL, e_NL, e_IL, e_BL, e_PL, e_KP, e_NP, e_IP, e_BP, e_LP, e_IIs, e_BBs, e_LLs, e_PPs, e_IIn, e_BBn, e_LLn, e_PPn, e_IIk, e_BBk, e_LLk, e_PPk, e_Ks, e_Ns, e_Is, e_Bs, e_Ls, e_Ps, e_Kn, e_Nn, e_In, e_Bn, e_Ln, e_Pn, if_true, if_false, and_self, or_true, true_or, not_false_eq_true, Bool.false_eq_true]; done) | (simp (disch := omega) only [w.2, e1, n0, pd, xD, cD, e3, e2, l1, e4, e_KI, e_NI, e_BI, e_LI, e_PI, e_KB, e_NB, e_IB, e_LB, e_PB, e_KL, e_NL, e_IL, e_BL, e_PL, e_KP, e_NP, e_IP, e_BP, e_LP, e_IIs, e_BBs, e_LLs, e_PPs, e_IIn, e_BBn, e_LLn, e_PPn, e_IIk, e_BBk, e_LLk, e_PPk, e_Ks, e_Ns, e_Is, e_Bs, e_Ls, e_Ps, e_Kn, e_Nn, e_In, e_Bn, e_Ln, e_Pn, if_true, if_false, and_self, or_true, true_or, not_false_eq_true, Bool.false_eq_true]; decide) | decide) | ((with_reducible apply ev_t); · first | (simp (disch := omega) only [w.2, e1, n0, pd, xD, cD, e3, e2, l1, e4, e_KI, e_NI, e_BI, e_LI, e_PI, e_KB, e_NB, e_IB, e_LB, e_PB, e_KL, e_NL, e_IL, e_BL, e_PL, e_KP, e_NP, e_IP, e_BP, e_LP, e_IIs, e_BBs, e_LLs, e_PPs, e_IIn, e_BBn, e_LLn, e_PPn, e_IIk, e_BBk, e_LLk, e_PPk, e_Ks, e_Ns, e_Is, e_Bs, e_Ls, e_Ps, e_Kn, e_Nn, e_In, e_Bn, e_Ln, e_Pn, if_true, if_false, and_self, or_true, true_or, not_false_eq_true, Bool.false_eq_true]; done) | (simp (disch := omega) only [w.2, e1, n0, pd, xD, cD, e3, e2, l1, e4, e_KI, e_NI, e_BI, e_LI, e_PI, e_KB, e_NB, e_IB, e_LB, e_PB, e_KL, e_NL, e_IL, e_BL, e_PL, e_KP, e_NP, e_IP, e_BP, e_LP, e_IIs, e_BBs, e_LLs, e_PPs, e_IIn, e_BBn, e_LLn, e_PPn, e_IIk, e_BBk, e_LLk, e_PPk, e_Ks, e_Ns, e_Is, e_Bs, e_Ls, e_Ps, e_Kn, e_Nn, e_In, e_Bn, e_Ln, e_Pn, if_true, if_false, and_self, or_true, true_or, not_false_eq_true, Bool.false_eq_true]; decide) | decide) | ((with_reducible apply ev_f); · first | (simp (disch := omega) only [w.2, e1, n0, pd, xD, cD, e3, e2, l1, e4, e_KI, e_NI, e_BI, e_LI, e_PI, e_KB, e_NB, e_IB, e_LB, e_PB, e_KL, e_NL, e_IL, e_BL, e_PL, e_KP, e_NP, e_IP, e_BP, e_LP, e_IIs, e_BBs, e_LLs, e_PPs, e_IIn, e_BBn, e_LLn, e_PPn, e_IIk, e_BBk, e_LLk, e_PPk, e_Ks, e_Ns, e_Is, e_Bs, e_Ls, e_Ps, e_Kn, e_Nn, e_In, e_Bn, e_Ln, e_Pn, if_true, if_false, and_self, or_true, true_or, not_false_eq_true, Bool.false_eq_true]; done) | (simp (disch := omega) only [w.2, e1, n0, pd, xD, cD, e3, e2, l1, e4, e_KI, e_NI, e_BI, e_LI, e_PI, e_KB, e_NB, e_IB, e_LB, e_PB, e_KL, e_NL, e_IL, e_BL, e_PL, e_KP, e_NP, e_IP, e_BP, e_LP, e_IIs, e_BBs, e_LLs, e_PPs, e_IIn, e_BBn, e_LLn, e_PPn, e_IIk, e_BBk, e_LLk, e_PPk, e_Ks, e_Ns, e_Is, e_Bs, e_Ls, e_Ps, e_Kn, e_Nn, e_In, e_Bn, e_Ln, e_Pn, if_true, if_false, and_self, or_true, true_or, not_false_eq_true, Bool.false_eq_true]; decide) | decide) | ((with_reducible apply ev_s) <;> (first | (with_reducible rfl) | (simp (disch := omega) only [w.2, e1, n0, pd, xD, cD, e3, e2, l1, e4, e_KI, e_NI, e_BI, e_LI, e_PI, e_KB, e_NB, e_IB, e_LB, e_PB, e_KL, e_NL, e_IL, e_BL, e_PL, e_KP, e_NP, e_IP, e_BP, e_LP, e_IIs, e_BBs, e_LLs, e_PPs, e_IIn, e_BBn, e_LLn, e_PPn, e_IIk, e_BBk, e_LLk, e_PPk, e_Ks, e_Ns, e_Is, e_Bs, e_Ls, e_Ps, e_Kn, e_Nn, e_In, e_Bn, e_Ln, e_Pn, if_true, if_false, and_self, or_true, true_or, not_false_eq_true, Bool.false_eq_true]; done) | (simp (disch := omega) only [w.2, e1, n0, pd, xD, cD, e3, e2, l1, e4, e_KI, e_NI, e_BI, e_LI, e_PI, e_KB, e_NB, e_IB, e_LB, e_PB, e_KL, e_NL, e_IL, e_BL, e_PL, e_KP, e_NP, e_IP, e_BP, e_LP, e_IIs, e_BBs, e_LLs, e_PPs, e_IIn, e_BBn, e_LLn, e_PPn, e_IIk, e_BBk, e_LLk, e_PPk, e_Ks, e_Ns, e_Is, e_Bs, e_Ls, e_Ps, e_Kn, e_Nn, e_In, e_Bn, e_Ln, e_Pn, if_true, if_false, and_self, or_true, true_or, not_false_eq_true, Bool.false_eq_true]; rfl)))))
  rfl
/-- the model's run, from its loop -/
theorem m_run {o : Int32 × y_H} (w : Sh H) (ht : tk < 6) (d : decide (0 ≤ nI tk ∧ nI tk ≤ y_I H 11 72 - 1) = true) (ek : y_I H 3426 tk = nI k) (E : Ev tk 1000 0 (mI9 H k) o) : f_X12_run 11 (nI tk) H = some o := by
  have xt := i_ix ht (by decide)
  have ct := i_cl (show tk < 2 ^ 31 by omega)
  have lw : Sh (s_L (s_B (s_I H 11 46 0) 11 79 true) 11 80 0) := Sh_sL (Sh_sB (Sh_sI w))
  have el := m_lead9 lw (-9)
  have w8 : Sh (mI8 H) := Sh_sI (Sh_sI (Sh_sI (Sh_sI (Sh_sI (Sh_sI lw)))))
  have d8 : y_I (mI8 H) 11 85 = nI 0 := by
    unfold mI8
    simp (disch := omega) only [e_KI, e_NI, e_BI, e_LI, e_PI, e_KB, e_NB, e_IB, e_LB, e_PB, e_KL, e_NL, e_IL, e_BL, e_PL, e_KP, e_NP, e_IP, e_BP, e_LP, e_IIs, e_BBs, e_LLs, e_PPs, e_IIn, e_BBn, e_LLn, e_PPn, e_IIk, e_BBk, e_LLk, e_PPk]
    rfl
  have ep := m_push w8 (D := 0) (by omega) d8 0 (nI k) 0
  have ej : y_lp mBt rBd y_fu 11 (nI tk) 0 (mI9 H k) = some o := E y_fu (by unfold y_fu; omega)
  have z0 : (0 : Int32) = nI 0 := rfl
  unfold mI9 at ej
  unfold mI8 at ep ej
  unfold f_X12_run
  (repeat (first | with_reducible apply ev_jn | ((with_reducible apply ev_bd); · first | (simp (disch := omega) only [w.2, m_in, d, el, xt, ct, ek, ep, e_KI, e_NI, e_BI, e_LI, e_PI, e_KB, e_NB, e_IB, e_LB, e_PB, e_KL, e_NL, e_IL, e_BL, e_PL, e_KP, e_NP, e_IP, e_BP, e_LP, e_IIs, e_BBs, e_LLs, e_PPs, e_IIn, e_BBn, e_LLn, e_PPn, e_IIk, e_BBk, e_LLk, e_PPk, e_Ks, e_Ns, e_Is, e_Bs, e_Ls, e_Ps, e_Kn, e_Nn, e_In, e_Bn, e_Ln, e_Pn, if_true, if_false, and_self, or_true, true_or, not_false_eq_true, Bool.false_eq_true]; exact rfl) | exact rfl) | ((with_reducible apply ev_cl); · first | (simp (disch := omega) only [w.2, m_in, d, el, xt, ct, ek, ep, e_KI, e_NI, e_BI, e_LI, e_PI, e_KB, e_NB, e_IB, e_LB, e_PB, e_KL, e_NL, e_IL, e_BL, e_PL, e_KP, e_NP, e_IP, e_BP, e_LP, e_IIs, e_BBs, e_LLs, e_PPs, e_IIn, e_BBn, e_LLn, e_PPn, e_IIk, e_BBk, e_LLk, e_PPk, e_Ks, e_Ns, e_Is, e_Bs, e_Ls, e_Ps, e_Kn, e_Nn, e_In, e_Bn, e_Ln, e_Pn, if_true, if_false, and_self, or_true, true_or, not_false_eq_true, Bool.false_eq_true]; exact rfl) | exact rfl) | ((with_reducible apply ev_g); · first | (simp (disch := omega) only [w.2, m_in, d, el, xt, ct, ek, ep, e_KI, e_NI, e_BI, e_LI, e_PI, e_KB, e_NB, e_IB, e_LB, e_PB, e_KL, e_NL, e_IL, e_BL, e_PL, e_KP, e_NP, e_IP, e_BP, e_LP, e_IIs, e_BBs, e_LLs, e_PPs, e_IIn, e_BBn, e_LLn, e_PPn, e_IIk, e_BBk, e_LLk, e_PPk, e_Ks, e_Ns, e_Is, e_Bs, e_Ls, e_Ps, e_Kn, e_Nn, e_In, e_Bn, e_Ln, e_Pn, if_true, if_false, and_self, or_true, true_or, not_false_eq_true, Bool.false_eq_true]; done) | (simp (disch := omega) only [w.2, m_in, d, el, xt, ct, ek, ep, e_KI, e_NI, e_BI, e_LI, e_PI, e_KB, e_NB, e_IB, e_LB, e_PB, e_KL, e_NL, e_IL, e_BL, e_PL, e_KP, e_NP, e_IP, e_BP, e_LP, e_IIs, e_BBs, e_LLs, e_PPs, e_IIn, e_BBn, e_LLn, e_PPn, e_IIk, e_BBk, e_LLk, e_PPk, e_Ks, e_Ns, e_Is, e_Bs, e_Ls, e_Ps, e_Kn, e_Nn, e_In, e_Bn, e_Ln, e_Pn, if_true, if_false, and_self, or_true, true_or, not_false_eq_true, Bool.false_eq_true]; decide) | decide) | ((with_reducible apply ev_t); · first | (simp (disch := omega) only [w.2, m_in, d, el, xt, ct, ek, ep, e_KI, e_NI, e_BI, e_LI, e_PI, e_KB, e_NB, e_IB, e_LB, e_PB, e_KL, e_NL, e_IL, e_BL, e_PL, e_KP, e_NP, e_IP, e_BP, e_LP, e_IIs, e_BBs, e_LLs, e_PPs, e_IIn, e_BBn, e_LLn, e_PPn, e_IIk, e_BBk, e_LLk, e_PPk, e_Ks, e_Ns, e_Is, e_Bs, e_Ls, e_Ps, e_Kn, e_Nn, e_In, e_Bn, e_Ln, e_Pn, if_true, if_false, and_self, or_true, true_or, not_false_eq_true, Bool.false_eq_true]; done) | (simp (disch := omega) only [w.2, m_in, d, el, xt, ct, ek, ep, e_KI, e_NI, e_BI, e_LI, e_PI, e_KB, e_NB, e_IB, e_LB, e_PB, e_KL, e_NL, e_IL, e_BL, e_PL, e_KP, e_NP, e_IP, e_BP, e_LP, e_IIs, e_BBs, e_LLs, e_PPs, e_IIn, e_BBn, e_LLn, e_PPn, e_IIk, e_BBk, e_LLk, e_PPk, e_Ks, e_Ns, e_Is, e_Bs, e_Ls, e_Ps, e_Kn, e_Nn, e_In, e_Bn, e_Ln, e_Pn, if_true, if_false, and_self, or_true, true_or, not_false_eq_true, Bool.false_eq_true]; decide) | decide) | ((with_reducible apply ev_f); · first | (simp (disch := omega) only [w.2, m_in, d, el, xt, ct, ek, ep, e_KI, e_NI, e_BI, e_LI, e_PI, e_KB, e_NB, e_IB, e_LB, e_PB, e_KL, e_NL, e_IL, e_BL, e_PL, e_KP, e_NP, e_IP, e_BP, e_LP, e_IIs, e_BBs, e_LLs, e_PPs, e_IIn, e_BBn, e_LLn, e_PPn, e_IIk, e_BBk, e_LLk, e_PPk, e_Ks, e_Ns, e_Is, e_Bs, e_Ls, e_Ps, e_Kn, e_Nn, e_In, e_Bn, e_Ln, e_Pn, if_true, if_false, and_self, or_true, true_or, not_false_eq_true, Bool.false_eq_true]; done) | (simp (disch := omega) only [w.2, m_in, d, el, xt, ct, ek, ep, e_KI, e_NI, e_BI, e_LI, e_PI, e_KB, e_NB, e_IB, e_LB, e_PB, e_KL, e_NL, e_IL, e_BL, e_PL, e_KP, e_NP, e_IP, e_BP, e_LP, e_IIs, e_BBs, e_LLs, e_PPs, e_IIn, e_BBn, e_LLn, e_PPn, e_IIk, e_BBk, e_LLk, e_PPk, e_Ks, e_Ns, e_Is, e_Bs, e_Ls, e_Ps, e_Kn, e_Nn, e_In, e_Bn, e_Ln, e_Pn, if_true, if_false, and_self, or_true, true_or, not_false_eq_true, Bool.false_eq_true]; decide) | decide) | ((with_reducible apply ev_s) <;> (first | (with_reducible rfl) | (simp (disch := omega) only [w.2, m_in, d, el, xt, ct, ek, ep, e_KI, e_NI, e_BI, e_LI, e_PI, e_KB, e_NB, e_IB, e_LB, e_PB, e_KL, e_NL, e_IL, e_BL, e_PL, e_KP, e_NP, e_IP, e_BP, e_LP, e_IIs, e_BBs, e_LLs, e_PPs, e_IIn, e_BBn, e_LLn, e_PPn, e_IIk, e_BBk, e_LLk, e_PPk, e_Ks, e_Ns, e_Is, e_Bs, e_Ls, e_Ps, e_Kn, e_Nn, e_In, e_Bn, e_Ln, e_Pn, if_true, if_false, and_self, or_true, true_or, not_false_eq_true, Bool.false_eq_true]; done) | (simp (disch := omega) only [w.2, m_in, d, el, xt, ct, ek, ep, e_KI, e_NI, e_BI, e_LI, e_PI, e_KB, e_NB, e_IB, e_LB, e_PB, e_KL, e_NL, e_IL, e_BL, e_PL, e_KP, e_NP, e_IP, e_BP, e_LP, e_IIs, e_BBs, e_LLs, e_PPs, e_IIn, e_BBn, e_LLn, e_PPn, e_IIk, e_BBk, e_LLk, e_PPk, e_Ks, e_Ns, e_Is, e_Bs, e_Ls, e_Ps, e_Kn, e_Nn, e_In, e_Bn, e_Ln, e_Pn, if_true, if_false, and_self, or_true, true_or, not_false_eq_true, Bool.false_eq_true]; rfl)))))
  exact ej
end RUL
