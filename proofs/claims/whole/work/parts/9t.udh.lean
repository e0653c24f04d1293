/-! undo: stacks, ships, and the call -/
section UH
variable {h T : y_H} {t e N C S A o n c : Nat}
theorem u_H3 {s0 k0 : Nat} (R : RelP h t e N C S A) (hA : 1 ≤ A) (ho9 : o < 60) (ho : y_I h 13 2 = nI o) (hn : n < N) (kb : y_I h 2722 (14 * (A - 1) + 5) = nI n) (hc : c < C) (kc : y_I h 2722 (14 * (A - 1) + 1) = nI c) (ha : y_I h 418 n = 2) (hp : y_I h 482 n = nI c) (k3 : y_I h 2722 (14 * (A - 1) + 3) = -1) (hs0 : s0 < S) (hk0 : k0 < 54) (k6 : y_I h 2722 (14 * (A - 1) + 6) = 3) (k7 : y_I h 2722 (14 * (A - 1) + 7) = nI s0) (k8 : y_I h 2722 (14 * (A - 1) + 8) = nI k0) (hho : y_I h 2210 (54 * s0 + k0) = -1) : Call (f_X11_undo 10 h) (f_X12_undo 11) t e := by
  obtain ⟨w, rT, rM, rB, rC, rS, rV, rL, rJ, rP, rH, rD, rQ, rK⟩ := id R
  obtain ⟨T, eT⟩ : ∃ T, T = s_I h 13 3 (nI (A - 1)) := ⟨_, rfl⟩
  obtain ⟨wT, gT, rCT⟩ := ud_T R eT
  obtain ⟨⟨x1, x2, x3, x4, x5, x6, x7, x8, x9, x10, x11, x12, x13, x14, x15⟩, -⟩ := rB.2.2.2.1 n hn
  obtain ⟨gX, f6, f7, f8, f9, f4⟩ := xH_g (T := T) (n := n) (c := c) (a := y_I h 2722 (14 * (A - 1) + 6)) (x := y_I h 2722 (14 * (A - 1) + 7)) (y := y_I h 2722 (14 * (A - 1) + 8)) (z := y_I h 2722 (14 * (A - 1) + 9))
  have KT : y_K T (64 * n + 20) = 3 := (gT.K fun q => q).trans x2
  have hN := rB.1
  have hC := rC.1
  have hS := rS.1
  have gTX := gT.trR gX
  have rSX : RS (xH T n c (y_I h 2722 (14 * (A - 1) + 6)) (y_I h 2722 (14 * (A - 1) + 7)) (y_I h 2722 (14 * (A - 1) + 8)) (y_I h 2722 (14 * (A - 1) + 9))) S := (RS_ag gTX (by intro a k q; (simp only [FRS] at q ⊢) <;> omega) (by intro a q; (simp only [GRS, not_false_eq_true] at q ⊢) <;> omega) rS)
  have wX : Sh (xH T n c (y_I h 2722 (14 * (A - 1) + 6)) (y_I h 2722 (14 * (A - 1) + 7)) (y_I h 2722 (14 * (A - 1) + 8)) (y_I h 2722 (14 * (A - 1) + 9))) := (Sh_ag gX (by intro a k q; (simp only [FSh] at q ⊢) <;> omega) (by intro a q; (simp only [GSh, not_false_eq_true] at q ⊢) <;> omega) wT)
  have ar := c_arrive3 (p := 64 * n + 20) (s := s0) (k := k0) (S := S) wX ((gX.K fun q => q).trans KT) (f6.trans k6) (f7.trans k7) (f8.trans k8) rSX.2.1 hS hs0 (rSX.2.2.2.1 s0 hs0).1.1 hk0
  have br := xH_b wT KT ((gT.I (by omega)).trans (x9.trans ha)) ((gT.I (by omega)).trans (x10.trans hp)) rCT hc ar
  clear ar rSX wX
  obtain ⟨X, eX⟩ : ∃ X, X = xH T n c (y_I h 2722 (14 * (A - 1) + 6)) (y_I h 2722 (14 * (A - 1) + 7)) (y_I h 2722 (14 * (A - 1) + 8)) (y_I h 2722 (14 * (A - 1) + 9)) := ⟨_, rfl⟩
  rw [← eX] at br gX f6 f7 f8 f9 f4 gTX
  clear eX
  have gY : ag (fun a k => a = 64 * s0 + 25 ∧ k = k0) (fun _ => False) X (s_P X (64 * s0 + 25) k0 (64 * n + 20)) := by ((repeat' (first | exact ag.refl _ _ _ | apply ag.sI | apply ag.sB | apply ag.sP | apply ag.sL | (apply ag.cm) | (apply ag.mm))) <;> (first | omega | (dsimp only; omega) | (intro k; dsimp only; omega)))
  have vY : y_P (s_P X (64 * s0 + 25) k0 (64 * n + 20)) (64 * s0 + 25) k0 = 64 * n + 20 := e_PPs
  generalize s_P X (64 * s0 + 25) k0 (64 * n + 20) = hB at br gY vY
  refine undo_box R hA ho9 ho hn kb eT br (gX.trR gY) (fun a k q => by omega) ⟨(gY.I (by omega)).trans f6, (gY.I (by omega)).trans f7, (gY.I (by omega)).trans f8, (gY.I (by omega)).trans f9⟩ (u_held R hc kc (by rw [k3, pB_1]) ((gY.P (by omega)).trans f4) (fun d hd => (gY.P (by omega)).trans ((gX.P (by omega)).trans (gT.P (by omega))))) (fun G wv wG gG kG => ?_)
  have g0 := (gTX.trR gY).trR gG
  have iG : ∀ a, a = 418 ∨ a = 482 ∨ a = 546 ∨ a = 610 → ∀ m, y_I G a m = y_I h a m := fun a ha m => g0.I (by simp only [PGc]; omega)
  refine ⟨_, _, Or.inl ⟨by rw [iG 418 (by omega), ha]; decide, by rw [iG 418 (by omega), ha]; decide, rfl⟩, Or.inr (Or.inr ⟨s0, k0, by omega, hk0, (kG _).trans k6, (kG _).trans k7, (kG _).trans k8, rfl⟩), ?_⟩
  simp only [kG]
  obtain ⟨E, eE⟩ : ∃ E, E = s_I (mP4 (s_I G 11 50 (nI (A - 1))) n (y_I h 2722 (14 * (A - 1) + 6)) (y_I h 2722 (14 * (A - 1) + 7)) (y_I h 2722 (14 * (A - 1) + 8)) (y_I h 2722 (14 * (A - 1) + 9)) wv) 2210 (54 * s0 + k0) (nI n) := ⟨_, rfl⟩
  have gE : ag (fun a k => a = 11 ∧ k = 50 ∨ (a = 418 ∨ a = 482 ∨ a = 546 ∨ a = 610 ∨ a = 354) ∧ k = n ∨ a = 2210 ∧ k = 54 * s0 + k0) (fun _ => False) G E := by
    rw [eE]
    unfold mP4
    ((repeat' (first | exact ag.refl _ _ _ | apply ag.sI | apply ag.sB | apply ag.sP | apply ag.sL | (apply ag.cm) | (apply ag.mm))) <;> (first | omega | (dsimp only; omega) | (intro k; dsimp only; omega)))
  have vv : y_I E 418 n = y_I h 2722 (14 * (A - 1) + 6) ∧ y_I E 482 n = y_I h 2722 (14 * (A - 1) + 7) ∧ y_I E 546 n = y_I h 2722 (14 * (A - 1) + 8) ∧ y_I E 2210 (54 * s0 + k0) = nI n := by
    rw [eE]
    unfold mP4
    refine ⟨?_, ?_, ?_, ?_⟩
    all_goals simp (disch := omega) only [e_KI, e_NI, e_BI, e_LI, e_PI, e_KB, e_NB, e_IB, e_LB, e_PB, e_KL, e_NL, e_IL, e_BL, e_PL, e_KP, e_NP, e_IP, e_BP, e_LP, e_IIs, e_BBs, e_LLs, e_PPs, e_IIn, e_BBn, e_LLn, e_PPn, e_IIk, e_BBk, e_LLk, e_PPk]
  rw [← eE]
  obtain ⟨v1, v2, v3, v4⟩ := vv
  have g := g0.trR gE
  refine ⟨fun s hs k hk => ?_, (RV_ag g (by intro a k q; (simp only [FRV, PGc] at q ⊢) <;> omega) (by intro a q; (simp only [GRV, PGc, not_false_eq_true] at q ⊢) <;> omega) rV), ?_⟩
  · by_cases q : s = s0 ∧ k = k0
    · rw [q.1, q.2, v4, pB_n (by omega), gE.P (by omega), gG.P (by simp only [PGc]; omega)]
      exact vY
    · rw [g.P (by simp only [PGc]; omega), g.I (by simp only [PGc]; omega)]
      exact (rS.2.2.2.1 s hs).1.2.2.2.2.2.2.2.2.2.2 k hk
  · exact RP_hi (s := s0) (k := k0) (n := n) (h := h) (by omega) hk0 hN hn (g.rB (fun k => by simp only [PGc]; omega)) (g.rI (fun k => by simp only [PGc]; omega)) (g.rI (fun k => by simp only [PGc]; omega)) (g.rI (fun k => by simp only [PGc]; omega)) (fun i hi => g.I (by simp only [PGc]; omega)) v4 hho (fun m hm => ⟨g.I (by simp only [PGc]; omega), g.I (by simp only [PGc]; omega), g.I (by simp only [PGc]; omega), g.I (by simp only [PGc]; omega)⟩) ⟨v1.trans k6, v2.trans k7, v3.trans k8⟩ (by rw [ha]; decide) hS rP
theorem u_P3 {s0 k0 : Nat} (R : RelP h t e N C S A) (hA : 1 ≤ A) (ho9 : o < 60) (ho : y_I h 13 2 = nI o) (hn : n < N) (kb : y_I h 2722 (14 * (A - 1) + 5) = nI n) (hc : c < C) (kc : y_I h 2722 (14 * (A - 1) + 1) = nI c) (k6 : y_I h 2722 (14 * (A - 1) + 6) = 2) (k7 : y_I h 2722 (14 * (A - 1) + 7) = nI c) (k8 : y_I h 2722 (14 * (A - 1) + 8) = 0) (k9 : y_I h 2722 (14 * (A - 1) + 9) = 0) (k3 : y_I h 2722 (14 * (A - 1) + 3) = nI n) (hs0 : s0 < S) (hk0 : k0 < 54) (ha : y_I h 418 n = 3) (hp1 : y_I h 482 n = nI s0) (hp2 : y_I h 546 n = nI k0) : Call (f_X11_undo 10 h) (f_X12_undo 11) t e := by
  obtain ⟨w, rT, rM, rB, rC, rS, rV, rL, rJ, rP, rH, rD, rQ, rK⟩ := id R
  obtain ⟨T, eT⟩ : ∃ T, T = s_I h 13 3 (nI (A - 1)) := ⟨_, rfl⟩
  obtain ⟨wT, gT, rCT⟩ := ud_T R eT
  obtain ⟨⟨x1, x2, x3, x4, x5, x6, x7, x8, x9, x10, x11, x12, x13, x14, x15⟩, -⟩ := rB.2.2.2.1 n hn
  have KT : y_K T (64 * n + 20) = 3 := (gT.K fun q => q).trans x2
  have hN := rB.1
  have hC := rC.1
  have hS := rS.1
  have rST : RS T S := (RS_ag gT (by intro a k q; (simp only [FRS] at q ⊢) <;> omega) (by intro a q; (simp only [GRS, not_false_eq_true] at q ⊢) <;> omega) rS)
  have l := c_leave3 (p := 64 * n + 20) (s := s0) (k := k0) (S := S) wT KT ((gT.I (by omega)).trans (x9.trans ha)) ((gT.I (by omega)).trans (x10.trans hp1)) ((gT.I (by omega)).trans (x11.trans hp2)) rST.2.1 hS hs0 (rST.2.2.2.1 s0 hs0).1.1 hk0
  have gY : ag (fun a k => a = 64 * s0 + 25 ∧ k = k0) (fun _ => False) T (s_P T (64 * s0 + 25) k0 0) := by ((repeat' (first | exact ag.refl _ _ _ | apply ag.sI | apply ag.sB | apply ag.sP | apply ag.sL | (apply ag.cm) | (apply ag.mm))) <;> (first | omega | (dsimp only; omega) | (intro k; dsimp only; omega)))
  have vY : y_P (s_P T (64 * s0 + 25) k0 0) (64 * s0 + 25) k0 = 0 := e_PPs
  generalize s_P T (64 * s0 + 25) k0 0 = hL at l gY vY
  have wL : Sh hL := (Sh_ag gY (by intro a k q; (simp only [FSh] at q ⊢) <;> omega) (by intro a q; (simp only [GSh, not_false_eq_true] at q ⊢) <;> omega) wT)
  have br := xP_b wT wL l gY (fun a k q => by omega) KT rCT hc
  obtain ⟨gX, f6, f7, f8, f9, f4⟩ := xP_g (hL := hL) (n := n) (c := c)
  generalize xP hL n c = hB at br gX f6 f7 f8 f9 f4
  refine undo_box R hA ho9 ho hn kb eT (by rw [k6, k7, k8, k9]; exact br) (gY.trR gX) (fun a k q => by omega) (by rw [k6, k7, k8, k9]; exact ⟨f6, f7, f8, f9⟩) (u_held R hc kc (by rw [k3, pB_n (by omega)]) f4 (fun d hd => (gX.P (by omega)).trans ((gY.P (by omega)).trans (gT.P (by omega))))) (fun G wv wG gG kG => ?_)
  have g0 := ((gT.trR gY).trR gX).trR gG
  have iG : ∀ a, a = 418 ∨ a = 482 ∨ a = 546 ∨ a = 610 → ∀ m, y_I G a m = y_I h a m := fun a ha m => g0.I (by simp only [PGc]; omega)
  refine ⟨_, _, Or.inr (Or.inr ⟨s0, k0, by omega, hk0, (iG 418 (by omega) n).trans ha, (iG 482 (by omega) n).trans hp1, (iG 546 (by omega) n).trans hp2, rfl⟩), Or.inl ⟨by rw [kG, k6]; decide, by rw [kG, k6]; decide, rfl⟩, ?_⟩
  simp only [kG]
  obtain ⟨E, eE⟩ : ∃ E, E = mP4 (s_I (s_I G 11 50 (nI (A - 1))) 2210 (54 * s0 + k0) (-1)) n (y_I h 2722 (14 * (A - 1) + 6)) (y_I h 2722 (14 * (A - 1) + 7)) (y_I h 2722 (14 * (A - 1) + 8)) (y_I h 2722 (14 * (A - 1) + 9)) wv := ⟨_, rfl⟩
  have gE : ag (fun a k => a = 11 ∧ k = 50 ∨ (a = 418 ∨ a = 482 ∨ a = 546 ∨ a = 610 ∨ a = 354) ∧ k = n ∨ a = 2210 ∧ k = 54 * s0 + k0) (fun _ => False) G E := by
    rw [eE]
    unfold mP4
    ((repeat' (first | exact ag.refl _ _ _ | apply ag.sI | apply ag.sB | apply ag.sP | apply ag.sL | (apply ag.cm) | (apply ag.mm))) <;> (first | omega | (dsimp only; omega) | (intro k; dsimp only; omega)))
  have vv : y_I E 418 n = y_I h 2722 (14 * (A - 1) + 6) ∧ y_I E 2210 (54 * s0 + k0) = -1 := by
    rw [eE]
    unfold mP4
    refine ⟨?_, ?_⟩
    all_goals simp (disch := omega) only [e_KI, e_NI, e_BI, e_LI, e_PI, e_KB, e_NB, e_IB, e_LB, e_PB, e_KL, e_NL, e_IL, e_BL, e_PL, e_KP, e_NP, e_IP, e_BP, e_LP, e_IIs, e_BBs, e_LLs, e_PPs, e_IIn, e_BBn, e_LLn, e_PPn, e_IIk, e_BBk, e_LLk, e_PPk]
  rw [← eE]
  obtain ⟨v1, v4⟩ := vv
  have g := g0.trR gE
  refine ⟨fun s hs k hk => ?_, (RV_ag g (by intro a k q; (simp only [FRV, PGc] at q ⊢) <;> omega) (by intro a q; (simp only [GRV, PGc, not_false_eq_true] at q ⊢) <;> omega) rV), ?_⟩
  · by_cases q : s = s0 ∧ k = k0
    · rw [q.1, q.2, v4, pB_1, gE.P (by omega), gG.P (by simp only [PGc]; omega), gX.P (by omega)]
      exact vY
    · rw [g.P (by simp only [PGc]; omega), g.I (by simp only [PGc]; omega)]
      exact (rS.2.2.2.1 s hs).1.2.2.2.2.2.2.2.2.2.2 k hk
  · exact RP_ho (s := s0) (k := k0) (n := n) (h := h) (by omega) hk0 hN hn (g.rB (fun k => by simp only [PGc]; omega)) (g.rI (fun k => by simp only [PGc]; omega)) (g.rI (fun k => by simp only [PGc]; omega)) (g.rI (fun k => by simp only [PGc]; omega)) (fun i hi => g.I (by simp only [PGc]; omega)) v4 (fun m hm => ⟨g.I (by simp only [PGc]; omega), g.I (by simp only [PGc]; omega), g.I (by simp only [PGc]; omega), g.I (by simp only [PGc]; omega)⟩) ⟨ha, hp1, hp2⟩ (by rw [v1, k6]; decide) hS hs0 rP
/-- a stack, as the class has it -/
theorem u_stk {b m s H f : Nat} (rV : RV h) (q : stq h b m s H f) : vshape h b ∧ y_B h (64 * b + 23) 5 = true ∧ y_I h (64 * b + 23) 7 = nI m ∧ s < m ∧ m ≤ 6 ∧ y_I h (64 * b + 30) s = nI H ∧ ∃ F, F ≤ H ∧ y_I h (64 * b + 31) s = y_I h 1250 (6 * b + s) ∧ y_I h 1314 (6 * b + s) = nI F ∧ y_I h (64 * b + 32) s = nI F ∧ (∀ t, t < 5 → y_P h (64 * b + 33) (5 * s + t) = if t < F then pB (y_I h 1378 (5 * (6 * b + s) + t)) else 0) := by
  obtain ⟨q1, q2, q3, q4, q5, q6, q7, q8⟩ := q
  have v := rV b q1
  unfold vx at v
  rw [if_pos q2] at v
  obtain ⟨v1, v2, -, -, m', m1, m6, em, em2, hst⟩ := v
  rw [q3, i_eq (by omega)] at em
  have st := hst s (by omega)
  unfold stk at st
  rw [if_pos (by omega)] at st
  obtain ⟨H', F, h1, h5, hF, eH, eH2, ep, eF, eF2, ec⟩ := st
  rw [q6, i_eq (by omega)] at eH
  rw [← em] at em2
  rw [← eH] at eH2
  exact ⟨v1, v2, em2, q4, q5, eH2, F, by omega, ep, eF, eF2, ec⟩
/-- what an undone move of a box in a stack writes of the bays -/
theorem u_cc {b s f n c a k : Nat} (q : (a = 13 ∧ k = 3 ∨ (a = 64 * n + 20 ∧ 6 ≤ k ∧ k ≤ 10 ∨ a = 64 * c + 21 ∧ k = 4) ∨ (a = 64 * b + 33 ∧ k = 5 * s + f ∨ a = 64 * b + 32 ∧ k = s) ∨ PGc a k ∨ a = 11 ∧ k = 50 ∨ (a = 418 ∨ a = 482 ∨ a = 546 ∨ a = 610 ∨ a = 354) ∨ a = 1378 ∧ k = 5 * (6 * b + s) + f ∨ a = 1314 ∧ k = 6 * b + s)) (hf : f < 5) (z : FRV a k) : a = 64 * b + 33 ∧ 5 * s ≤ k ∧ k < 5 * s + 5 ∨ a = 64 * b + 32 ∧ k = s ∨ a = 1314 ∧ k = 6 * b + s ∨ a = 1378 ∧ 5 * (6 * b + s) ≤ k ∧ k < 5 * (6 * b + s) + 5 := by
  rcases q with q | (q | q) | (q | q) | (⟨q, -⟩ | ⟨q, -⟩) | q | q | q | q
  · simp only [FRV] at z; omega
  · simp only [FRV] at z; omega
  · simp only [FRV] at z; omega
  · exact Or.inl ⟨q.1, by omega, by omega⟩
  · exact Or.inr (Or.inl q)
  · simp only [FRV] at z; omega
  · simp only [FRV] at z; omega
  · simp only [FRV] at z; omega
  · simp only [FRV] at z; omega
  · exact Or.inr (Or.inr (Or.inr ⟨q.1, by omega, by omega⟩))
  · exact Or.inr (Or.inr (Or.inl q))
theorem u_H1 {b m s H f : Nat} (R : RelP h t e N C S A) (hA : 1 ≤ A) (ho9 : o < 60) (ho : y_I h 13 2 = nI o) (hn : n < N) (kb : y_I h 2722 (14 * (A - 1) + 5) = nI n) (hc : c < C) (kc : y_I h 2722 (14 * (A - 1) + 1) = nI c) (ha : y_I h 418 n = 2) (hp : y_I h 482 n = nI c) (k3 : y_I h 2722 (14 * (A - 1) + 3) = -1) (sq : stq h b m s H f) (k6 : y_I h 2722 (14 * (A - 1) + 6) = 1) (k7 : y_I h 2722 (14 * (A - 1) + 7) = nI b) (k8 : y_I h 2722 (14 * (A - 1) + 8) = nI s) (k9 : y_I h 2722 (14 * (A - 1) + 9) = nI f) (hf : y_I h 1314 (6 * b + s) = nI f) : Call (f_X11_undo 10 h) (f_X12_undo 11) t e := by
  obtain ⟨w, rT, rM, rB, rC, rS, rV, rL, rJ, rP, rH, rD, rQ, rK⟩ := id R
  obtain ⟨T, eT⟩ : ∃ T, T = s_I h 13 3 (nI (A - 1)) := ⟨_, rfl⟩
  obtain ⟨wT, gT, rCT⟩ := ud_T R eT
  obtain ⟨⟨x1, x2, x3, x4, x5, x6, x7, x8, x9, x10, x11, x12, x13, x14, x15⟩, -⟩ := rB.2.2.2.1 n hn
  obtain ⟨gX, f6, f7, f8, f9, f4⟩ := xH_g (T := T) (n := n) (c := c) (a := y_I h 2722 (14 * (A - 1) + 6)) (x := y_I h 2722 (14 * (A - 1) + 7)) (y := y_I h 2722 (14 * (A - 1) + 8)) (z := y_I h 2722 (14 * (A - 1) + 9))
  have KT : y_K T (64 * n + 20) = 3 := (gT.K fun q => q).trans x2
  have hN := rB.1
  have hC := rC.1
  have gTX := gT.trR gX
  obtain ⟨q1, q2, q3, q4, q5, q6, q7, q8⟩ := id sq
  obtain ⟨u1, u2, u3, -, -, u6, F, hF, u7, u8, u9, u10⟩ := u_stk rV sq
  rw [hf, i_eq (by omega)] at u8
  rw [← u8] at u9 u10 hF
  have wX : Sh (xH T n c (y_I h 2722 (14 * (A - 1) + 6)) (y_I h 2722 (14 * (A - 1) + 7)) (y_I h 2722 (14 * (A - 1) + 8)) (y_I h 2722 (14 * (A - 1) + 9))) := (Sh_ag gX (by intro a k q; (simp only [FSh] at q ⊢) <;> omega) (by intro a q; (simp only [GSh, not_false_eq_true] at q ⊢) <;> omega) wT)
  have vX : vshape (xH T n c (y_I h 2722 (14 * (A - 1) + 6)) (y_I h 2722 (14 * (A - 1) + 7)) (y_I h 2722 (14 * (A - 1) + 8)) (y_I h 2722 (14 * (A - 1) + 9))) b := by
    unfold vshape at u1 ⊢
    simp (disch := first | omega | exact fun q => q.elim (fun z => z) (fun z => z)) only [gTX.aI, gTX.aP, gTX.aK _ (fun q => q), gTX.aN _ (fun q => q)]
    exact u1
  have ar := c_arrive1 (p := 64 * n + 20) (b := b) (s := s) (t := f) (m := m) (H := H) wX ((gX.K fun q => q).trans KT) (f6.trans k6) (f7.trans k7) (f8.trans k8) (f9.trans k9) q1 vX ((gTX.B (by omega)).trans u2) ((gTX.I (by omega)).trans u3) q4 q5 q8 ((gTX.I (by omega)).trans u6) q7
  rw [gTX.I (a := 64 * b + 32) (k := s) (by omega), u9, nI_1] at ar
  have br := xH_b wT KT ((gT.I (by omega)).trans (x9.trans ha)) ((gT.I (by omega)).trans (x10.trans hp)) rCT hc ar
  clear ar vX wX
  obtain ⟨X, eX⟩ : ∃ X, X = xH T n c (y_I h 2722 (14 * (A - 1) + 6)) (y_I h 2722 (14 * (A - 1) + 7)) (y_I h 2722 (14 * (A - 1) + 8)) (y_I h 2722 (14 * (A - 1) + 9)) := ⟨_, rfl⟩
  rw [← eX] at br gX f6 f7 f8 f9 f4 gTX
  clear eX
  have gY : ag (fun a k => a = 64 * b + 33 ∧ k = 5 * s + f ∨ a = 64 * b + 32 ∧ k = s) (fun _ => False) X (s_I (s_P X (64 * b + 33) (5 * s + f) (64 * n + 20)) (64 * b + 32) s (nI (f + 1))) := by ((repeat' (first | exact ag.refl _ _ _ | apply ag.sI | apply ag.sB | apply ag.sP | apply ag.sL | (apply ag.cm) | (apply ag.mm))) <;> (first | omega | (dsimp only; omega) | (intro k; dsimp only; omega)))
  have vY : y_P (s_I (s_P X (64 * b + 33) (5 * s + f) (64 * n + 20)) (64 * b + 32) s (nI (f + 1))) (64 * b + 33) (5 * s + f) = 64 * n + 20 ∧ y_I (s_I (s_P X (64 * b + 33) (5 * s + f) (64 * n + 20)) (64 * b + 32) s (nI (f + 1))) (64 * b + 32) s = nI (f + 1) := by
    simp (disch := omega) only [e_KI, e_NI, e_BI, e_LI, e_PI, e_KB, e_NB, e_IB, e_LB, e_PB, e_KL, e_NL, e_IL, e_BL, e_PL, e_KP, e_NP, e_IP, e_BP, e_LP, e_IIs, e_BBs, e_LLs, e_PPs, e_IIn, e_BBn, e_LLn, e_PPn, e_IIk, e_BBk, e_LLk, e_PPk, and_self]
  generalize s_I (s_P X (64 * b + 33) (5 * s + f) (64 * n + 20)) (64 * b + 32) s (nI (f + 1)) = hB at br gY vY
  refine undo_box R hA ho9 ho hn kb eT br (gX.trR gY) (fun a k q => by omega) ⟨(gY.I (by omega)).trans f6, (gY.I (by omega)).trans f7, (gY.I (by omega)).trans f8, (gY.I (by omega)).trans f9⟩ (u_held R hc kc (by rw [k3, pB_1]) ((gY.P (by omega)).trans f4) (fun d hd => (gY.P (by omega)).trans ((gX.P (by omega)).trans (gT.P (by omega))))) (fun G wv wG gG kG => ?_)
  have g0 := (gTX.trR gY).trR gG
  have iG : ∀ a, a = 418 ∨ a = 482 ∨ a = 546 ∨ a = 610 ∨ a = 1314 → ∀ m, y_I G a m = y_I h a m := fun a ha m => g0.I (by simp only [PGc]; omega)
  refine ⟨_, _, Or.inl ⟨by rw [iG 418 (by omega), ha]; decide, by rw [iG 418 (by omega), ha]; decide, rfl⟩, Or.inr (Or.inl ⟨b, s, f, q1, by omega, by omega, (kG _).trans k6, (kG _).trans k7, (kG _).trans k8, by rw [e_IIn (by omega), iG 1314 (by omega)]; exact hf, rfl⟩), ?_⟩
  simp only [kG]
  obtain ⟨E, eE⟩ : ∃ E, E = s_I (s_I (mP4 (s_I G 11 50 (nI (A - 1))) n (y_I h 2722 (14 * (A - 1) + 6)) (y_I h 2722 (14 * (A - 1) + 7)) (y_I h 2722 (14 * (A - 1) + 8)) (y_I h 2722 (14 * (A - 1) + 9)) wv) 1378 (5 * (6 * b + s) + f) (nI n)) 1314 (6 * b + s) (nI (f + 1)) := ⟨_, rfl⟩
  have gE : ag (fun a k => a = 11 ∧ k = 50 ∨ (a = 418 ∨ a = 482 ∨ a = 546 ∨ a = 610 ∨ a = 354) ∧ k = n ∨ a = 1378 ∧ k = 5 * (6 * b + s) + f ∨ a = 1314 ∧ k = 6 * b + s) (fun _ => False) G E := by
    rw [eE]
    unfold mP4
    ((repeat' (first | exact ag.refl _ _ _ | apply ag.sI | apply ag.sB | apply ag.sP | apply ag.sL | (apply ag.cm) | (apply ag.mm))) <;> (first | omega | (dsimp only; omega) | (intro k; dsimp only; omega)))
  have vv : y_I E 418 n = y_I h 2722 (14 * (A - 1) + 6) ∧ y_I E 482 n = y_I h 2722 (14 * (A - 1) + 7) ∧ y_I E 546 n = y_I h 2722 (14 * (A - 1) + 8) ∧ y_I E 610 n = y_I h 2722 (14 * (A - 1) + 9) ∧ y_I E 1378 (5 * (6 * b + s) + f) = nI n ∧ y_I E 1314 (6 * b + s) = nI (f + 1) := by
    rw [eE]
    unfold mP4
    refine ⟨?_, ?_, ?_, ?_, ?_, ?_⟩
    all_goals simp (disch := omega) only [e_KI, e_NI, e_BI, e_LI, e_PI, e_KB, e_NB, e_IB, e_LB, e_PB, e_KL, e_NL, e_IL, e_BL, e_PL, e_KP, e_NP, e_IP, e_BP, e_LP, e_IIs, e_BBs, e_LLs, e_PPs, e_IIn, e_BBn, e_LLn, e_PPn, e_IIk, e_BBk, e_LLk, e_PPk]
  rw [← eE]
  obtain ⟨v1, v2, v3, v4, v5, v6⟩ := vv
  clear eE
  have g := g0.trR gE
  refine ⟨u_cells rS (fun s hs k hk => g.P (by simp only [PGc]; omega)) (fun i => g.I (by simp only [PGc]; omega)), ?_, ?_⟩
  · refine RV_mv (b := b) (s := s) g (fun a k q z => u_cc (n := n) (c := c) (f := f) (by
      rcases q with (((q | q) | q) | (q | q)) | q
      · exact Or.inl q
      · exact Or.inr (Or.inl (q.imp (fun q => ⟨q.1, q.2.1, by omega⟩) id))
      · exact Or.inr (Or.inr (Or.inl q))
      · exact Or.inr (Or.inl (Or.inl ⟨q.1, by omega, by omega⟩))
      · exact Or.inr (Or.inr (Or.inr (Or.inl q)))
      · rcases q with q | q | q | q
        · exact Or.inr (Or.inr (Or.inr (Or.inr (Or.inl q))))
        · exact Or.inr (Or.inr (Or.inr (Or.inr (Or.inr (Or.inl q.1)))))
        · exact Or.inr (Or.inr (Or.inr (Or.inr (Or.inr (Or.inr (Or.inl q))))))
        · exact Or.inr (Or.inr (Or.inr (Or.inr (Or.inr (Or.inr (Or.inr q))))))) (by omega) z) (fun a q => q.elim) q1 (by omega) q2 (fun m' em hm' => ?_) rV
    rw [q3, i_eq (by omega)] at em
    rw [← em]
    unfold stk
    rw [if_pos q4]
    refine ⟨H, f + 1, by omega, q8, by omega, ?_, ?_, ?_, v6, ?_, fun t ht => ?_⟩
    · rw [g.I (by simp only [PGc]; omega)]; exact q6
    · rw [g.I (by simp only [PGc]; omega)]; exact u6
    · rw [g.I (a := 64 * b + 31) (by simp only [PGc]; omega), g.I (a := 1250) (by simp only [PGc]; omega)]; exact u7
    · rw [gE.I (by omega), gG.I (by simp only [PGc]; omega)]; exact vY.2
    · by_cases et : t = f
      · rw [et, if_pos (by omega), v5, pB_n (by omega), gE.P (by omega), gG.P (by simp only [PGc]; omega)]
        exact vY.1
      · rw [g.P (by simp only [PGc]; omega), g.I (by simp only [PGc]; omega), u10 t ht]
        by_cases lt : t < f
        · rw [if_pos lt, if_pos (by omega)]
        · rw [if_neg lt, if_neg (by omega)]
  · exact RP_si (b := b) (s := s) (f := f) (n := n) (h := h) q1 (by omega) (by omega) hN hn (g.rB (fun k => by simp only [PGc]; omega)) (g.rI (fun k => by simp only [PGc]; omega)) (fun i hi => g.I (by simp only [PGc]; omega)) v6 hf (fun i hi => g.I (by simp only [PGc]; omega)) v5 (g.rI (fun k => by simp only [PGc]; omega)) (fun m hm => ⟨g.I (by simp only [PGc]; omega), g.I (by simp only [PGc]; omega), g.I (by simp only [PGc]; omega), g.I (by simp only [PGc]; omega)⟩) ⟨v1.trans k6, v2.trans k7, v3.trans k8, v4.trans k9⟩ (by rw [ha]; decide) rP
theorem u_P1 {b m s H f : Nat} (R : RelP h t e N C S A) (hA : 1 ≤ A) (ho9 : o < 60) (ho : y_I h 13 2 = nI o) (hn : n < N) (kb : y_I h 2722 (14 * (A - 1) + 5) = nI n) (hc : c < C) (kc : y_I h 2722 (14 * (A - 1) + 1) = nI c) (k6 : y_I h 2722 (14 * (A - 1) + 6) = 2) (k7 : y_I h 2722 (14 * (A - 1) + 7) = nI c) (k8 : y_I h 2722 (14 * (A - 1) + 8) = 0) (k9 : y_I h 2722 (14 * (A - 1) + 9) = 0) (k3 : y_I h 2722 (14 * (A - 1) + 3) = nI n) (sq : stq h b m s H f) (ha : y_I h 418 n = 1) (hp1 : y_I h 482 n = nI b) (hp2 : y_I h 546 n = nI s) (hp3 : y_I h 610 n = nI f) (hf : y_I h 1314 (6 * b + s) = nI (f + 1)) : Call (f_X11_undo 10 h) (f_X12_undo 11) t e := by
  obtain ⟨w, rT, rM, rB, rC, rS, rV, rL, rJ, rP, rH, rD, rQ, rK⟩ := id R
  obtain ⟨T, eT⟩ : ∃ T, T = s_I h 13 3 (nI (A - 1)) := ⟨_, rfl⟩
  obtain ⟨wT, gT, rCT⟩ := ud_T R eT
  obtain ⟨⟨x1, x2, x3, x4, x5, x6, x7, x8, x9, x10, x11, x12, x13, x14, x15⟩, -⟩ := rB.2.2.2.1 n hn
  have KT : y_K T (64 * n + 20) = 3 := (gT.K fun q => q).trans x2
  have hN := rB.1
  have hC := rC.1
  obtain ⟨q1, q2, q3, q4, q5, q6, q7, q8⟩ := id sq
  obtain ⟨u1, u2, u3, -, -, u6, F, hF, u7, u8, u9, u10⟩ := u_stk rV sq
  rw [hf, i_eq (by omega)] at u8
  rw [← u8] at u9 u10 hF
  have vT : vshape T b := by
    unfold vshape at u1 ⊢
    simp (disch := first | omega | exact fun q => q) only [gT.aI, gT.aP, gT.aK _ (fun q => q), gT.aN _ (fun q => q)]
    exact u1
  have l := c_leave1 (p := 64 * n + 20) (b := b) (s := s) (t := f) (m := m) (H := H) wT KT ((gT.I (by omega)).trans (x9.trans ha)) ((gT.I (by omega)).trans (x10.trans hp1)) ((gT.I (by omega)).trans (x11.trans hp2)) ((gT.I (by omega)).trans (x12.trans hp3)) q1 vT ((gT.B (by omega)).trans u2) ((gT.I (by omega)).trans u3) q4 q5 q8 ((gT.I (by omega)).trans u6) q7
  rw [gT.I (a := 64 * b + 32) (k := s) (by omega), u9, nI_pred] at l
  have gY : ag (fun a k => a = 64 * b + 33 ∧ k = 5 * s + f ∨ a = 64 * b + 32 ∧ k = s) (fun _ => False) T (s_I (s_P T (64 * b + 33) (5 * s + f) 0) (64 * b + 32) s (nI f)) := by ((repeat' (first | exact ag.refl _ _ _ | apply ag.sI | apply ag.sB | apply ag.sP | apply ag.sL | (apply ag.cm) | (apply ag.mm))) <;> (first | omega | (dsimp only; omega) | (intro k; dsimp only; omega)))
  have vY : y_P (s_I (s_P T (64 * b + 33) (5 * s + f) 0) (64 * b + 32) s (nI f)) (64 * b + 33) (5 * s + f) = 0 ∧ y_I (s_I (s_P T (64 * b + 33) (5 * s + f) 0) (64 * b + 32) s (nI f)) (64 * b + 32) s = nI f := by
    simp (disch := omega) only [e_KI, e_NI, e_BI, e_LI, e_PI, e_KB, e_NB, e_IB, e_LB, e_PB, e_KL, e_NL, e_IL, e_BL, e_PL, e_KP, e_NP, e_IP, e_BP, e_LP, e_IIs, e_BBs, e_LLs, e_PPs, e_IIn, e_BBn, e_LLn, e_PPn, e_IIk, e_BBk, e_LLk, e_PPk, and_self]
  generalize s_I (s_P T (64 * b + 33) (5 * s + f) 0) (64 * b + 32) s (nI f) = hL at l gY vY
  have wL : Sh hL := (Sh_ag gY (by intro a k q; (simp only [FSh] at q ⊢) <;> omega) (by intro a q; (simp only [GSh, not_false_eq_true] at q ⊢) <;> omega) wT)
  have br := xP_b wT wL l gY (fun a k q => by omega) KT rCT hc
  obtain ⟨gX, f6, f7, f8, f9, f4⟩ := xP_g (hL := hL) (n := n) (c := c)
  generalize xP hL n c = hB at br gX f6 f7 f8 f9 f4
  refine undo_box R hA ho9 ho hn kb eT (by rw [k6, k7, k8, k9]; exact br) (gY.trR gX) (fun a k q => by omega) (by rw [k6, k7, k8, k9]; exact ⟨f6, f7, f8, f9⟩) (u_held R hc kc (by rw [k3, pB_n (by omega)]) f4 (fun d hd => (gX.P (by omega)).trans ((gY.P (by omega)).trans (gT.P (by omega))))) (fun G wv wG gG kG => ?_)
  have g0 := ((gT.trR gY).trR gX).trR gG
  have iG : ∀ a, a = 418 ∨ a = 482 ∨ a = 546 ∨ a = 610 ∨ a = 1314 → ∀ m, y_I G a m = y_I h a m := fun a ha m => g0.I (by simp only [PGc]; omega)
  refine ⟨_, _, Or.inr (Or.inl ⟨b, s, f, q1, by omega, by omega, (iG 418 (by omega) n).trans ha, (iG 482 (by omega) n).trans hp1, (iG 546 (by omega) n).trans hp2, (iG 1314 (by omega) _).trans hf, rfl⟩), Or.inl ⟨by rw [kG, k6]; decide, by rw [kG, k6]; decide, rfl⟩, ?_⟩
  simp only [kG]
  obtain ⟨E, eE⟩ : ∃ E, E = mP4 (s_I (s_I G 11 50 (nI (A - 1))) 1314 (6 * b + s) (nI f)) n (y_I h 2722 (14 * (A - 1) + 6)) (y_I h 2722 (14 * (A - 1) + 7)) (y_I h 2722 (14 * (A - 1) + 8)) (y_I h 2722 (14 * (A - 1) + 9)) wv := ⟨_, rfl⟩
  have gE : ag (fun a k => a = 11 ∧ k = 50 ∨ (a = 418 ∨ a = 482 ∨ a = 546 ∨ a = 610 ∨ a = 354) ∧ k = n ∨ a = 1314 ∧ k = 6 * b + s) (fun _ => False) G E := by
    rw [eE]
    unfold mP4
    ((repeat' (first | exact ag.refl _ _ _ | apply ag.sI | apply ag.sB | apply ag.sP | apply ag.sL | (apply ag.cm) | (apply ag.mm))) <;> (first | omega | (dsimp only; omega) | (intro k; dsimp only; omega)))
  have vv : y_I E 418 n = y_I h 2722 (14 * (A - 1) + 6) ∧ y_I E 1314 (6 * b + s) = nI f := by
    rw [eE]
    unfold mP4
    refine ⟨?_, ?_⟩
    all_goals simp (disch := omega) only [e_KI, e_NI, e_BI, e_LI, e_PI, e_KB, e_NB, e_IB, e_LB, e_PB, e_KL, e_NL, e_IL, e_BL, e_PL, e_KP, e_NP, e_IP, e_BP, e_LP, e_IIs, e_BBs, e_LLs, e_PPs, e_IIn, e_BBn, e_LLn, e_PPn, e_IIk, e_BBk, e_LLk, e_PPk]
  rw [← eE]
  obtain ⟨v1, v6⟩ := vv
  clear eE
  have g := g0.trR gE
  refine ⟨u_cells rS (fun s hs k hk => g.P (by simp only [PGc]; omega)) (fun i => g.I (by simp only [PGc]; omega)), ?_, ?_⟩
  · refine RV_mv (b := b) (s := s) g (fun a k q z => u_cc (n := n) (c := c) (f := f) (by
      rcases q with (((q | q) | q) | (q | q)) | q
      · exact Or.inl q
      · exact Or.inr (Or.inr (Or.inl q))
      · exact Or.inr (Or.inl (q.imp (fun q => ⟨q.1, q.2.1, by omega⟩) id))
      · exact Or.inr (Or.inl (Or.inl ⟨q.1, by omega, by omega⟩))
      · exact Or.inr (Or.inr (Or.inr (Or.inl q)))
      · rcases q with q | q | q
        · exact Or.inr (Or.inr (Or.inr (Or.inr (Or.inl q))))
        · exact Or.inr (Or.inr (Or.inr (Or.inr (Or.inr (Or.inl q.1)))))
        · exact Or.inr (Or.inr (Or.inr (Or.inr (Or.inr (Or.inr (Or.inr q))))))) (by omega) z) (fun a q => q.elim) q1 (by omega) q2 (fun m' em hm' => ?_) rV
    rw [q3, i_eq (by omega)] at em
    rw [← em]
    unfold stk
    rw [if_pos q4]
    refine ⟨H, f, by omega, q8, by omega, ?_, ?_, ?_, v6, ?_, fun t ht => ?_⟩
    · rw [g.I (by simp only [PGc]; omega)]; exact q6
    · rw [g.I (by simp only [PGc]; omega)]; exact u6
    · rw [g.I (a := 64 * b + 31) (by simp only [PGc]; omega), g.I (a := 1250) (by simp only [PGc]; omega)]; exact u7
    · rw [gE.I (by omega), gG.I (by simp only [PGc]; omega), gX.I (by omega)]; exact vY.2
    · by_cases et : t = f
      · rw [et, if_neg (by omega), gE.P (by omega), gG.P (by simp only [PGc]; omega), gX.P (by omega)]
        exact vY.1
      · rw [g.P (by simp only [PGc]; omega), g.I (by simp only [PGc]; omega), u10 t ht]
        by_cases lt : t < f
        · rw [if_pos lt, if_pos (by omega)]
        · rw [if_neg lt, if_neg (by omega)]
  · exact RP_so (b := b) (s := s) (f := f) (n := n) (h := h) (m0 := m) q1 (by omega) (by omega) hN hn (g.rB (fun k => by simp only [PGc]; omega)) (g.rI (fun k => by simp only [PGc]; omega)) (fun i hi => g.I (by simp only [PGc]; omega)) v6 hf (g.rI (fun k => by simp only [PGc]; omega)) (g.rI (fun k => by simp only [PGc]; omega)) (fun m hm => ⟨g.I (by simp only [PGc]; omega), g.I (by simp only [PGc]; omega), g.I (by simp only [PGc]; omega), g.I (by simp only [PGc]; omega)⟩) ⟨ha, hp1, hp2, hp3⟩ (by rw [v1, k6]; decide) ⟨q3, q4, q5, q2⟩ rP
theorem k_undo (R : Rel h t e) : Call (f_X11_undo 10 h) (f_X12_undo 11) t e := by
  obtain ⟨N, C, S, A, R9⟩ := id R
  obtain ⟨w, rT, rM, rB, rC, rS, rV, rL, rJ, rP, rH, rD, rQ, rK⟩ := id R9
  obtain ⟨j1, j2, j3, o, j4, j5, j6, j7⟩ := id rJ
  have hN := rB.1
  have hC := rC.1
  by_cases hA : A = 0
  · rw [hA] at j2 j3
    have j2 : y_I h 13 3 = 0 := j2
    have j3 : y_I h 11 50 = 0 := j3
    have e1 : f_X5_takeLatest 13 h = some (0, h) := by
      unfold f_X5_takeLatest
      (repeat (first | with_reducible apply ev_jn | ((with_reducible apply ev_bd); · first | (simp (disch := omega) only [w.1, j2, e_KI, e_NI, e_BI, e_LI, e_PI, e_KB, e_NB, e_IB, e_LB, e_PB, e_KL, e_NL, e_IL, e_BL, e_PL, e_KP, e_NP, e_IP, e_BP, e_LP, e_IIs, e_BBs, e_LLs, e_PPs, e_IIn, e_BBn, e_LLn, e_PPn, e_IIk, e_BBk, e_LLk, e_PPk, e_Ks, e_Ns, e_Is, e_Bs, e_Ls, e_Ps, e_Kn, e_Nn, e_In, e_Bn, e_Ln, e_Pn, if_true, if_false, and_self, or_true, true_or, not_false_eq_true, Bool.false_eq_true]; exact rfl) | exact rfl) | ((with_reducible apply ev_cl); · first | (simp (disch := omega) only [w.1, j2, e_KI, e_NI, e_BI, e_LI, e_PI, e_KB, e_NB, e_IB, e_LB, e_PB, e_KL, e_NL, e_IL, e_BL, e_PL, e_KP, e_NP, e_IP, e_BP, e_LP, e_IIs, e_BBs, e_LLs, e_PPs, e_IIn, e_BBn, e_LLn, e_PPn, e_IIk, e_BBk, e_LLk, e_PPk, e_Ks, e_Ns, e_Is, e_Bs, e_Ls, e_Ps, e_Kn, e_Nn, e_In, e_Bn, e_Ln, e_Pn, if_true, if_false, and_self, or_true, true_or, not_false_eq_true, Bool.false_eq_true]; exact rfl) | exact rfl) | ((with_reducible apply ev_g); · first | (simp (disch := omega) only [w.1, j2, e_KI, e_NI, e_BI, e_LI, e_PI, e_KB, e_NB, e_IB, e_LB, e_PB, e_KL, e_NL, e_IL, e_BL, e_PL, e_KP, e_NP, e_IP, e_BP, e_LP, e_IIs, e_BBs, e_LLs, e_PPs, e_IIn, e_BBn, e_LLn, e_PPn, e_IIk, e_BBk, e_LLk, e_PPk, e_Ks, e_Ns, e_Is, e_Bs, e_Ls, e_Ps, e_Kn, e_Nn, e_In, e_Bn, e_Ln, e_Pn, if_true, if_false, and_self, or_true, true_or, not_false_eq_true, Bool.false_eq_true]; done) | (simp (disch := omega) only [w.1, j2, e_KI, e_NI, e_BI, e_LI, e_PI, e_KB, e_NB, e_IB, e_LB, e_PB, e_KL, e_NL, e_IL, e_BL, e_PL, e_KP, e_NP, e_IP, e_BP, e_LP, e_IIs, e_BBs, e_LLs, e_PPs, e_IIn, e_BBn, e_LLn, e_PPn, e_IIk, e_BBk, e_LLk, e_PPk, e_Ks, e_Ns, e_Is, e_Bs, e_Ls, e_Ps, e_Kn, e_Nn, e_In, e_Bn, e_Ln, e_Pn, if_true, if_false, and_self, or_true, true_or, not_false_eq_true, Bool.false_eq_true]; decide) | decide) | ((with_reducible apply ev_t); · first | (simp (disch := omega) only [w.1, j2, e_KI, e_NI, e_BI, e_LI, e_PI, e_KB, e_NB, e_IB, e_LB, e_PB, e_KL, e_NL, e_IL, e_BL, e_PL, e_KP, e_NP, e_IP, e_BP, e_LP, e_IIs, e_BBs, e_LLs, e_PPs, e_IIn, e_BBn, e_LLn, e_PPn, e_IIk, e_BBk, e_LLk, e_PPk, e_Ks, e_Ns, e_Is, e_Bs, e_Ls, e_Ps, e_Kn, e_Nn, e_In, e_Bn, e_Ln, e_Pn, if_true, if_false, and_self, or_true, true_or, not_false_eq_true, Bool.false_eq_true]; done) | (simp (disch := omega) only [w.1, j2, e_KI, e_NI, e_BI, e_LI, e_PI, e_KB, e_NB, e_IB, e_LB, e_PB, e_KL, e_NL, e_IL, e_BL, e_PL, e_KP, e_NP, e_IP, e_BP, e_LP, e_IIs, e_BBs, e_LLs, e_PPs, e_IIn, e_BBn, e_LLn, e_PPn, e_IIk, e_BBk, e_LLk, e_PPk, e_Ks, e_Ns, e_Is, e_Bs, e_Ls, e_Ps, e_Kn, e_Nn, e_In, e_Bn, e_Ln, e_Pn, if_true, if_false, and_self, or_true, true_or, not_false_eq_true, Bool.false_eq_true]; decide) | decide) | ((with_reducible apply ev_f); · first | (simp (disch := omega) only [w.1, j2, e_KI, e_NI, e_BI, e_LI, e_PI, e_KB, e_NB, e_IB, e_LB, e_PB, e_KL, e_NL, e_IL, e_BL, e_PL, e_KP, e_NP, e_IP, e_BP, e_LP, e_IIs, e_BBs, e_LLs, e_PPs, e_IIn, e_BBn, e_LLn, e_PPn, e_IIk, e_BBk, e_LLk, e_PPk, e_Ks, e_Ns, e_Is, e_Bs, e_Ls, e_Ps, e_Kn, e_Nn, e_In, e_Bn, e_Ln, e_Pn, if_true, if_false, and_self, or_true, true_or, not_false_eq_true, Bool.false_eq_true]; done) | (simp (disch := omega) only [w.1, j2, e_KI, e_NI, e_BI, e_LI, e_PI, e_KB, e_NB, e_IB, e_LB, e_PB, e_KL, e_NL, e_IL, e_BL, e_PL, e_KP, e_NP, e_IP, e_BP, e_LP, e_IIs, e_BBs, e_LLs, e_PPs, e_IIn, e_BBn, e_LLn, e_PPn, e_IIk, e_BBk, e_LLk, e_PPk, e_Ks, e_Ns, e_Is, e_Bs, e_Ls, e_Ps, e_Kn, e_Nn, e_In, e_Bn, e_Ln, e_Pn, if_true, if_false, and_self, or_true, true_or, not_false_eq_true, Bool.false_eq_true]; decide) | decide) | ((with_reducible apply ev_s) <;> (first | (with_reducible rfl) | (simp (disch := omega) only [w.1, j2, e_KI, e_NI, e_BI, e_LI, e_PI, e_KB, e_NB, e_IB, e_LB, e_PB, e_KL, e_NL, e_IL, e_BL, e_PL, e_KP, e_NP, e_IP, e_BP, e_LP, e_IIs, e_BBs, e_LLs, e_PPs, e_IIn, e_BBn, e_LLn, e_PPn, e_IIk, e_BBk, e_LLk, e_PPk, e_Ks, e_Ns, e_Is, e_Bs, e_Ls, e_Ps, e_Kn, e_Nn, e_In, e_Bn, e_Ln, e_Pn, if_true, if_false, and_self, or_true, true_or, not_false_eq_true, Bool.false_eq_true]; done) | (simp (disch := omega) only [w.1, j2, e_KI, e_NI, e_BI, e_LI, e_PI, e_KB, e_NB, e_IB, e_LB, e_PB, e_KL, e_NL, e_IL, e_BL, e_PL, e_KP, e_NP, e_IP, e_BP, e_LP, e_IIs, e_BBs, e_LLs, e_PPs, e_IIn, e_BBn, e_LLn, e_PPn, e_IIk, e_BBk, e_LLk, e_PPk, e_Ks, e_Ns, e_Is, e_Bs, e_Ls, e_Ps, e_Kn, e_Nn, e_In, e_Bn, e_Ln, e_Pn, if_true, if_false, and_self, or_true, true_or, not_false_eq_true, Bool.false_eq_true]; rfl)))))
    refine Call.ro R (r := -3) (by unfold f_X11_undo; (repeat (first | with_reducible apply ev_jn | ((with_reducible apply ev_bd); · first | (simp (disch := omega) only [w.1, e1, e_KI, e_NI, e_BI, e_LI, e_PI, e_KB, e_NB, e_IB, e_LB, e_PB, e_KL, e_NL, e_IL, e_BL, e_PL, e_KP, e_NP, e_IP, e_BP, e_LP, e_IIs, e_BBs, e_LLs, e_PPs, e_IIn, e_BBn, e_LLn, e_PPn, e_IIk, e_BBk, e_LLk, e_PPk, e_Ks, e_Ns, e_Is, e_Bs, e_Ls, e_Ps, e_Kn, e_Nn, e_In, e_Bn, e_Ln, e_Pn, if_true, if_false, and_self, or_true, true_or, not_false_eq_true, Bool.false_eq_true]; exact rfl) | exact rfl) | ((with_reducible apply ev_cl); · first | (simp (disch := omega) only [w.1, e1, e_KI, e_NI, e_BI, e_LI, e_PI, e_KB, e_NB, e_IB, e_LB, e_PB, e_KL, e_NL, e_IL, e_BL, e_PL, e_KP, e_NP, e_IP, e_BP, e_LP, e_IIs, e_BBs, e_LLs, e_PPs, e_IIn, e_BBn, e_LLn, e_PPn, e_IIk, e_BBk, e_LLk, e_PPk, e_Ks, e_Ns, e_Is, e_Bs, e_Ls, e_Ps, e_Kn, e_Nn, e_In, e_Bn, e_Ln, e_Pn, if_true, if_false, and_self, or_true, true_or, not_false_eq_true, Bool.false_eq_true]; exact rfl) | exact rfl) | ((with_reducible apply ev_g); · first | (simp (disch := omega) only [w.1, e1, e_KI, e_NI, e_BI, e_LI, e_PI, e_KB, e_NB, e_IB, e_LB, e_PB, e_KL, e_NL, e_IL, e_BL, e_PL, e_KP, e_NP, e_IP, e_BP, e_LP, e_IIs, e_BBs, e_LLs, e_PPs, e_IIn, e_BBn, e_LLn, e_PPn, e_IIk, e_BBk, e_LLk, e_PPk, e_Ks, e_Ns, e_Is, e_Bs, e_Ls, e_Ps, e_Kn, e_Nn, e_In, e_Bn, e_Ln, e_Pn, if_true, if_false, and_self, or_true, true_or, not_false_eq_true, Bool.false_eq_true]; done) | (simp (disch := omega) only [w.1, e1, e_KI, e_NI, e_BI, e_LI, e_PI, e_KB, e_NB, e_IB, e_LB, e_PB, e_KL, e_NL, e_IL, e_BL, e_PL, e_KP, e_NP, e_IP, e_BP, e_LP, e_IIs, e_BBs, e_LLs, e_PPs, e_IIn, e_BBn, e_LLn, e_PPn, e_IIk, e_BBk, e_LLk, e_PPk, e_Ks, e_Ns, e_Is, e_Bs, e_Ls, e_Ps, e_Kn, e_Nn, e_In, e_Bn, e_Ln, e_Pn, if_true, if_false, and_self, or_true, true_or, not_false_eq_true, Bool.false_eq_true]; decide) | decide) | ((with_reducible apply ev_t); · first | (simp (disch := omega) only [w.1, e1, e_KI, e_NI, e_BI, e_LI, e_PI, e_KB, e_NB, e_IB, e_LB, e_PB, e_KL, e_NL, e_IL, e_BL, e_PL, e_KP, e_NP, e_IP, e_BP, e_LP, e_IIs, e_BBs, e_LLs, e_PPs, e_IIn, e_BBn, e_LLn, e_PPn, e_IIk, e_BBk, e_LLk, e_PPk, e_Ks, e_Ns, e_Is, e_Bs, e_Ls, e_Ps, e_Kn, e_Nn, e_In, e_Bn, e_Ln, e_Pn, if_true, if_false, and_self, or_true, true_or, not_false_eq_true, Bool.false_eq_true]; done) | (simp (disch := omega) only [w.1, e1, e_KI, e_NI, e_BI, e_LI, e_PI, e_KB, e_NB, e_IB, e_LB, e_PB, e_KL, e_NL, e_IL, e_BL, e_PL, e_KP, e_NP, e_IP, e_BP, e_LP, e_IIs, e_BBs, e_LLs, e_PPs, e_IIn, e_BBn, e_LLn, e_PPn, e_IIk, e_BBk, e_LLk, e_PPk, e_Ks, e_Ns, e_Is, e_Bs, e_Ls, e_Ps, e_Kn, e_Nn, e_In, e_Bn, e_Ln, e_Pn, if_true, if_false, and_self, or_true, true_or, not_false_eq_true, Bool.false_eq_true]; decide) | decide) | ((with_reducible apply ev_f); · first | (simp (disch := omega) only [w.1, e1, e_KI, e_NI, e_BI, e_LI, e_PI, e_KB, e_NB, e_IB, e_LB, e_PB, e_KL, e_NL, e_IL, e_BL, e_PL, e_KP, e_NP, e_IP, e_BP, e_LP, e_IIs, e_BBs, e_LLs, e_PPs, e_IIn, e_BBn, e_LLn, e_PPn, e_IIk, e_BBk, e_LLk, e_PPk, e_Ks, e_Ns, e_Is, e_Bs, e_Ls, e_Ps, e_Kn, e_Nn, e_In, e_Bn, e_Ln, e_Pn, if_true, if_false, and_self, or_true, true_or, not_false_eq_true, Bool.false_eq_true]; done) | (simp (disch := omega) only [w.1, e1, e_KI, e_NI, e_BI, e_LI, e_PI, e_KB, e_NB, e_IB, e_LB, e_PB, e_KL, e_NL, e_IL, e_BL, e_PL, e_KP, e_NP, e_IP, e_BP, e_LP, e_IIs, e_BBs, e_LLs, e_PPs, e_IIn, e_BBn, e_LLn, e_PPn, e_IIk, e_BBk, e_LLk, e_PPk, e_Ks, e_Ns, e_Is, e_Bs, e_Ls, e_Ps, e_Kn, e_Nn, e_In, e_Bn, e_Ln, e_Pn, if_true, if_false, and_self, or_true, true_or, not_false_eq_true, Bool.false_eq_true]; decide) | decide) | ((with_reducible apply ev_s) <;> (first | (with_reducible rfl) | (simp (disch := omega) only [w.1, e1, e_KI, e_NI, e_BI, e_LI, e_PI, e_KB, e_NB, e_IB, e_LB, e_PB, e_KL, e_NL, e_IL, e_BL, e_PL, e_KP, e_NP, e_IP, e_BP, e_LP, e_IIs, e_BBs, e_LLs, e_PPs, e_IIn, e_BBn, e_LLn, e_PPn, e_IIk, e_BBk, e_LLk, e_PPk, e_Ks, e_Ns, e_Is, e_Bs, e_Ls, e_Ps, e_Kn, e_Nn, e_In, e_Bn, e_Ln, e_Pn, if_true, if_false, and_self, or_true, true_or, not_false_eq_true, Bool.false_eq_true]; done) | (simp (disch := omega) only [w.1, e1, e_KI, e_NI, e_BI, e_LI, e_PI, e_KB, e_NB, e_IB, e_LB, e_PB, e_KL, e_NL, e_IL, e_BL, e_PL, e_KP, e_NP, e_IP, e_BP, e_LP, e_IIs, e_BBs, e_LLs, e_PPs, e_IIn, e_BBn, e_LLn, e_PPn, e_IIk, e_BBk, e_LLk, e_PPk, e_Ks, e_Ns, e_Is, e_Bs, e_Ls, e_Ps, e_Kn, e_Nn, e_In, e_Bn, e_Ln, e_Pn, if_true, if_false, and_self, or_true, true_or, not_false_eq_true, Bool.false_eq_true]; rfl)))))) (by unfold f_X12_undo; (repeat (first | with_reducible apply ev_jn | ((with_reducible apply ev_bd); · first | (simp (disch := omega) only [w.2, j3, e_KI, e_NI, e_BI, e_LI, e_PI, e_KB, e_NB, e_IB, e_LB, e_PB, e_KL, e_NL, e_IL, e_BL, e_PL, e_KP, e_NP, e_IP, e_BP, e_LP, e_IIs, e_BBs, e_LLs, e_PPs, e_IIn, e_BBn, e_LLn, e_PPn, e_IIk, e_BBk, e_LLk, e_PPk, e_Ks, e_Ns, e_Is, e_Bs, e_Ls, e_Ps, e_Kn, e_Nn, e_In, e_Bn, e_Ln, e_Pn, if_true, if_false, and_self, or_true, true_or, not_false_eq_true, Bool.false_eq_true]; exact rfl) | exact rfl) | ((with_reducible apply ev_cl); · first | (simp (disch := omega) only [w.2, j3, e_KI, e_NI, e_BI, e_LI, e_PI, e_KB, e_NB, e_IB, e_LB, e_PB, e_KL, e_NL, e_IL, e_BL, e_PL, e_KP, e_NP, e_IP, e_BP, e_LP, e_IIs, e_BBs, e_LLs, e_PPs, e_IIn, e_BBn, e_LLn, e_PPn, e_IIk, e_BBk, e_LLk, e_PPk, e_Ks, e_Ns, e_Is, e_Bs, e_Ls, e_Ps, e_Kn, e_Nn, e_In, e_Bn, e_Ln, e_Pn, if_true, if_false, and_self, or_true, true_or, not_false_eq_true, Bool.false_eq_true]; exact rfl) | exact rfl) | ((with_reducible apply ev_g); · first | (simp (disch := omega) only [w.2, j3, e_KI, e_NI, e_BI, e_LI, e_PI, e_KB, e_NB, e_IB, e_LB, e_PB, e_KL, e_NL, e_IL, e_BL, e_PL, e_KP, e_NP, e_IP, e_BP, e_LP, e_IIs, e_BBs, e_LLs, e_PPs, e_IIn, e_BBn, e_LLn, e_PPn, e_IIk, e_BBk, e_LLk, e_PPk, e_Ks, e_Ns, e_Is, e_Bs, e_Ls, e_Ps, e_Kn, e_Nn, e_In, e_Bn, e_Ln, e_Pn, if_true, if_false, and_self, or_true, true_or, not_false_eq_true, Bool.false_eq_true]; done) | (simp (disch := omega) only [w.2, j3, e_KI, e_NI, e_BI, e_LI, e_PI, e_KB, e_NB, e_IB, e_LB, e_PB, e_KL, e_NL, e_IL, e_BL, e_PL, e_KP, e_NP, e_IP, e_BP, e_LP, e_IIs, e_BBs, e_LLs, e_PPs, e_IIn, e_BBn, e_LLn, e_PPn, e_IIk, e_BBk, e_LLk, e_PPk, e_Ks, e_Ns, e_Is, e_Bs, e_Ls, e_Ps, e_Kn, e_Nn, e_In, e_Bn, e_Ln, e_Pn, if_true, if_false, and_self, or_true, true_or, not_false_eq_true, Bool.false_eq_true]; decide) | decide) | ((with_reducible apply ev_t); · first | (simp (disch := omega) only [w.2, j3, e_KI, e_NI, e_BI, e_LI, e_PI, e_KB, e_NB, e_IB, e_LB, e_PB, e_KL, e_NL, e_IL, e_BL, e_PL, e_KP, e_NP, e_IP, e_BP, e_LP, e_IIs, e_BBs, e_LLs, e_PPs, e_IIn, e_BBn, e_LLn, e_PPn, e_IIk, e_BBk, e_LLk, e_PPk, e_Ks, e_Ns, e_Is, e_Bs, e_Ls, e_Ps, e_Kn, e_Nn, e_In, e_Bn, e_Ln, e_Pn, if_true, if_false, and_self, or_true, true_or, not_false_eq_true, Bool.false_eq_true]; done) | (simp (disch := omega) only [w.2, j3, e_KI, e_NI, e_BI, e_LI, e_PI, e_KB, e_NB, e_IB, e_LB, e_PB, e_KL, e_NL, e_IL, e_BL, e_PL, e_KP, e_NP, e_IP, e_BP, e_LP, e_IIs, e_BBs, e_LLs, e_PPs, e_IIn, e_BBn, e_LLn, e_PPn, e_IIk, e_BBk, e_LLk, e_PPk, e_Ks, e_Ns, e_Is, e_Bs, e_Ls, e_Ps, e_Kn, e_Nn, e_In, e_Bn, e_Ln, e_Pn, if_true, if_false, and_self, or_true, true_or, not_false_eq_true, Bool.false_eq_true]; decide) | decide) | ((with_reducible apply ev_f); · first | (simp (disch := omega) only [w.2, j3, e_KI, e_NI, e_BI, e_LI, e_PI, e_KB, e_NB, e_IB, e_LB, e_PB, e_KL, e_NL, e_IL, e_BL, e_PL, e_KP, e_NP, e_IP, e_BP, e_LP, e_IIs, e_BBs, e_LLs, e_PPs, e_IIn, e_BBn, e_LLn, e_PPn, e_IIk, e_BBk, e_LLk, e_PPk, e_Ks, e_Ns, e_Is, e_Bs, e_Ls, e_Ps, e_Kn, e_Nn, e_In, e_Bn, e_Ln, e_Pn, if_true, if_false, and_self, or_true, true_or, not_false_eq_true, Bool.false_eq_true]; done) | (simp (disch := omega) only [w.2, j3, e_KI, e_NI, e_BI, e_LI, e_PI, e_KB, e_NB, e_IB, e_LB, e_PB, e_KL, e_NL, e_IL, e_BL, e_PL, e_KP, e_NP, e_IP, e_BP, e_LP, e_IIs, e_BBs, e_LLs, e_PPs, e_IIn, e_BBn, e_LLn, e_PPn, e_IIk, e_BBk, e_LLk, e_PPk, e_Ks, e_Ns, e_Is, e_Bs, e_Ls, e_Ps, e_Kn, e_Nn, e_In, e_Bn, e_Ln, e_Pn, if_true, if_false, and_self, or_true, true_or, not_false_eq_true, Bool.false_eq_true]; decide) | decide) | ((with_reducible apply ev_s) <;> (first | (with_reducible rfl) | (simp (disch := omega) only [w.2, j3, e_KI, e_NI, e_BI, e_LI, e_PI, e_KB, e_NB, e_IB, e_LB, e_PB, e_KL, e_NL, e_IL, e_BL, e_PL, e_KP, e_NP, e_IP, e_BP, e_LP, e_IIs, e_BBs, e_LLs, e_PPs, e_IIn, e_BBn, e_LLn, e_PPn, e_IIk, e_BBk, e_LLk, e_PPk, e_Ks, e_Ns, e_Is, e_Bs, e_Ls, e_Ps, e_Kn, e_Nn, e_In, e_Bn, e_Ln, e_Pn, if_true, if_false, and_self, or_true, true_or, not_false_eq_true, Bool.false_eq_true]; done) | (simp (disch := omega) only [w.2, j3, e_KI, e_NI, e_BI, e_LI, e_PI, e_KB, e_NB, e_IB, e_LB, e_PB, e_KL, e_NL, e_IL, e_BL, e_PL, e_KP, e_NP, e_IP, e_BP, e_LP, e_IIs, e_BBs, e_LLs, e_PPs, e_IIn, e_BBn, e_LLn, e_PPn, e_IIk, e_BBk, e_LLk, e_PPk, e_Ks, e_Ns, e_Is, e_Bs, e_Ls, e_Ps, e_Kn, e_Nn, e_In, e_Bn, e_Ln, e_Pn, if_true, if_false, and_self, or_true, true_or, not_false_eq_true, Bool.false_eq_true]; rfl))))))
  have hA : 1 ≤ A := by omega
  obtain ⟨a1, a2, a3, a4, a5, a6⟩ := rH.2 0 (by omega) o j4 j5
  have a1 : on (y_I h 2722 (14 * (A - 1) + 5)) N := a1
  have a2 : on (y_I h 2722 (14 * (A - 1) + 1)) C := a2
  rcases a1 with kb | ⟨n, hn, kb⟩
  · obtain ⟨T, eT⟩ : ∃ T, T = s_I h 13 3 (nI (A - 1)) := ⟨_, rfl⟩
    obtain ⟨wT, gT, rCT⟩ := ud_T R9 eT
    obtain ⟨n1, n2, n3, n4, n5, n6, n7, n8, n9⟩ := j6 (A - 1) (by omega)
    rw [kb, pB_9] at n4
    have b0 : ∀ f cur m, m < N → oB h A 1 f cur m = cur m := fun f cur m hm => oB0 (by
      rw [kb, eq_comm, i_ne9 (by omega)]
      exact fun z => z)
    refine undo_end (Y := T) R9 hA j4 j5 (fun m => y_B h 354 m) eT (Or.inl ⟨(gT.P (by omega)).trans n4, rfl⟩) (ag.refl _ _ _) (fun m hm => ?_) (fun c hc => ?_) (fun G wG gG => ?_)
    · obtain ⟨⟨x1, x2, x3, x4, x5, x6, x7, x8, x9, x10, x11, x12, x13, x14, x15⟩, -⟩ := rB.2.2.2.1 m hm
      rw [b0 _ _ m hm, b0 _ _ m hm, b0 _ _ m hm, b0 _ _ m hm]
      refine ⟨?_, ?_, ?_, ?_, ?_⟩
      · rw [gT.I (by omega)]; exact x9
      · rw [gT.I (by omega)]; exact x10
      · rw [gT.I (by omega)]; exact x11
      · rw [gT.I (by omega)]; exact x12
      · rw [gT.B (by omega)]; exact x13
    · have z : oC h A 1 3 (y_I h 1698) c = y_I h 1698 c := by
        by_cases q : y_I h 2722 (14 * (A - 1) + 1) = nI c
        · exact a5 c hc q kb
        · exact oC0 q
      rw [z, gT.P (by omega)]
      exact (rC.2.2.2.1 c hc).1.2.2.2.2.2.2.1
    · have gE : ag (fun a k => a = 11 ∧ k = 50) (fun _ => False) G (s_I G 11 50 (nI (A - 1))) := by ((repeat' (first | exact ag.refl _ _ _ | apply ag.sI | apply ag.sB | apply ag.sP | apply ag.sL | (apply ag.cm) | (apply ag.mm))) <;> (first | omega | (dsimp only; omega) | (intro k; dsimp only; omega)))
      have g0 := gT.trR gG
      have g := g0.trR gE
      have kG : ∀ x, y_I G 2722 x = y_I h 2722 x := fun x => g0.I (by simp only [PGc]; omega)
      refine ⟨G, s_I G 11 50 (nI (A - 1)), Or.inl ⟨(kG _).trans kb, rfl⟩, gE.mono (fun a k q => Or.inl q) (fun a q => q), fun m hm => ?_, e_IIs, u_cells rS (fun s hs k hk => g.P (by simp only [PGc]; omega)) (fun i => g.I (by simp only [PGc]; omega)), (RV_ag g (by intro a k q; (simp only [FRV, PGc] at q ⊢) <;> omega) (by intro a q; (simp only [GRV, PGc, not_false_eq_true] at q ⊢) <;> omega) rV), (RP_ag g (by intro a k q; (simp only [FRP, PGc] at q ⊢) <;> omega) (by intro a q; (simp only [GRP, PGc, not_false_eq_true] at q ⊢) <;> omega) rP)⟩
      rw [b0 _ _ m hm, b0 _ _ m hm, b0 _ _ m hm, b0 _ _ m hm]
      exact ⟨g.I (by simp only [PGc]; omega), g.I (by simp only [PGc]; omega), g.I (by simp only [PGc]; omega), g.I (by simp only [PGc]; omega), g.B (by simp only [PGc]; omega)⟩
  obtain ⟨c, hc, kc, z⟩ := u_ctx R9 hA hn kb
  rcases z with ⟨ha, hp, k3, z⟩ | ⟨k6, k7, k8, k9, k3, z⟩
  · rcases z with ⟨k6, -⟩ | ⟨b, m, s, H, f, sq, k6, k7, k8, k9, hf⟩ | ⟨s, k, hs, hk, k6, k7, k8, -, hho⟩
    · exact u_H0 R9 hA j4 j5 hn kb hc kc ha hp k3 k6
    · exact u_H1 R9 hA j4 j5 hn kb hc kc ha hp k3 sq k6 k7 k8 k9 hf
    · exact u_H3 R9 hA j4 j5 hn kb hc kc ha hp k3 hs hk k6 k7 k8 hho
  · rcases z with ha | ⟨b, m, s, H, f, sq, ha, hp1, hp2, hp3, hf⟩ | ⟨s, k, hs, hk, ha, hp1, hp2, -⟩
    · exact u_P0 R9 hA j4 j5 hn kb hc kc k6 k7 k8 k9 k3 ha
    · exact u_P1 R9 hA j4 j5 hn kb hc kc k6 k7 k8 k9 k3 sq ha hp1 hp2 hp3 hf
    · exact u_P3 R9 hA j4 j5 hn kb hc kc k6 k7 k8 k9 k3 hs hk ha hp1 hp2
end UH
