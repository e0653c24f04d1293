/-! undo: the six cases of a box -/
section UG
variable {h T : y_H} {t e N C S A o n c : Nat}
theorem u_held (R : RelP h t e N C S A) (hc : c < C) (kc : y_I h 2722 (14 * (A - 1) + 1) = nI c) {hB : y_H} {x : Nat} (k3 : pB (y_I h 2722 (14 * (A - 1) + 3)) = x) (e1 : y_P hB (64 * c + 21) 4 = x) (e2 : ∀ d, d ≠ c → y_P hB (64 * d + 21) 4 = y_P h (64 * d + 21) 4) : ∀ d, d < C → y_P hB (64 * d + 21) 4 = pB (oC h A 1 3 (y_I h 1698) d) := fun d hd => by
  obtain ⟨w, rT, rM, rB, rC, rS, rV, rL, rJ, rP, rH, rD, rQ, rK⟩ := id R
  have hC := rC.1
  by_cases q : d = c
  · rw [q, oC1 kc, k3]
    exact e1
  · rw [oC0 (by rw [kc, i_eq (by omega)]; exact fun z => q z.symm), e2 d q]
    exact (rC.2.2.2.1 d hd).1.2.2.2.2.2.2.1
theorem ud_T (R : RelP h t e N C S A) (eT : T = s_I h 13 3 (nI (A - 1))) : Sh T ∧ ag (fun a k => a = 13 ∧ k = 3) (fun _ => False) h T ∧ RCl T C := by
  obtain ⟨w, rT, rM, rB, rC, rS, rV, rL, rJ, rP, rH, rD, rQ, rK⟩ := id R
  have gT : ag (fun a k => a = 13 ∧ k = 3) (fun _ => False) h T := by
    rw [eT]
    ((repeat' (first | exact ag.refl _ _ _ | apply ag.sI | apply ag.sB | apply ag.sP | apply ag.sL | (apply ag.cm) | (apply ag.mm))) <;> (first | omega | (dsimp only; omega) | (intro k; dsimp only; omega)))
  refine ⟨(Sh_ag gT (by intro a k q; (simp only [FSh] at q ⊢) <;> omega) (by intro a q; (simp only [GSh, not_false_eq_true] at q ⊢) <;> omega) w), gT, rC.1, (gT.I (by omega)).trans rC.2.1, fun d hd => ?_⟩
  obtain ⟨z1, z2, z3, z4⟩ := rC.l.2.2 d hd
  exact ⟨(gT.P (by omega)).trans z1, (gT.K fun q => q).trans z2, (gT.I (by omega)).trans (z3.trans (gT.I (by omega)).symm), (gT.I (by omega)).trans (z4.trans (gT.I (by omega)).symm)⟩
/-- the heap before arrive, of a box that hung -/
def xH (T : y_H) (n c : Nat) (a x y z : Int32) : y_H := s_I (s_I (s_I (s_I (s_P T (64 * c + 21) 4 0) (64 * n + 20) 6 a) (64 * n + 20) 7 x) (64 * n + 20) 8 y) (64 * n + 20) 9 z
theorem xH_g {a x y z : Int32} : ag (fun a k => a = 64 * n + 20 ∧ 6 ≤ k ∧ k ≤ 9 ∨ a = 64 * c + 21 ∧ k = 4) (fun _ => False) T (xH T n c a x y z) ∧ y_I (xH T n c a x y z) (64 * n + 20) 6 = a ∧ y_I (xH T n c a x y z) (64 * n + 20) 7 = x ∧ y_I (xH T n c a x y z) (64 * n + 20) 8 = y ∧ y_I (xH T n c a x y z) (64 * n + 20) 9 = z ∧ y_P (xH T n c a x y z) (64 * c + 21) 4 = 0 := by
  unfold xH
  refine ⟨by ((repeat' (first | exact ag.refl _ _ _ | apply ag.sI | apply ag.sB | apply ag.sP | apply ag.sL | (apply ag.cm) | (apply ag.mm))) <;> (first | omega | (dsimp only; omega) | (intro k; dsimp only; omega))), ?_, ?_, ?_, ?_, ?_⟩
  all_goals simp (disch := omega) only [e_KI, e_NI, e_BI, e_LI, e_PI, e_KB, e_NB, e_IB, e_LB, e_PB, e_KL, e_NL, e_IL, e_BL, e_PL, e_KP, e_NP, e_IP, e_BP, e_LP, e_IIs, e_BBs, e_LLs, e_PPs, e_IIn, e_BBn, e_LLn, e_PPn, e_IIk, e_BBk, e_LLk, e_PPk]
theorem xH_b {a x y z : Int32} {hB : y_H} (wT : Sh T) (K : y_K T (64 * n + 20) = 3) (e6 : y_I T (64 * n + 20) 6 = 2) (e7 : y_I T (64 * n + 20) 7 = nI c) (r : RCl T C) (hc : c < C) (ar : f_X10_arrive 12 (64 * n + 20) (xH T n c a x y z) = some ((), hB)) : f_X10_bring 12 (64 * n + 20) a x y z T = some ((), hB) := by
  have l := c_leave2 wT K e6 e7 r hc
  have wL : Sh (s_P T (64 * c + 21) 4 0) := Sh_sP (by omega) wT
  exact c_bring wT wL l (by rw [e_KP]; exact K) ar
/-- the heap after arrive, of a box that will hang; hL is what leave leaves -/
def xP (hL : y_H) (n c : Nat) : y_H := s_P (s_I (s_I (s_I (s_I hL (64 * n + 20) 6 2) (64 * n + 20) 7 (nI c)) (64 * n + 20) 8 0) (64 * n + 20) 9 0) (64 * c + 21) 4 (64 * n + 20)
theorem xP_g {hL : y_H} : ag (fun a k => a = 64 * n + 20 ∧ 6 ≤ k ∧ k ≤ 9 ∨ a = 64 * c + 21 ∧ k = 4) (fun _ => False) hL (xP hL n c) ∧ y_I (xP hL n c) (64 * n + 20) 6 = 2 ∧ y_I (xP hL n c) (64 * n + 20) 7 = nI c ∧ y_I (xP hL n c) (64 * n + 20) 8 = 0 ∧ y_I (xP hL n c) (64 * n + 20) 9 = 0 ∧ y_P (xP hL n c) (64 * c + 21) 4 = 64 * n + 20 := by
  unfold xP
  refine ⟨by ((repeat' (first | exact ag.refl _ _ _ | apply ag.sI | apply ag.sB | apply ag.sP | apply ag.sL | (apply ag.cm) | (apply ag.mm))) <;> (first | omega | (dsimp only; omega) | (intro k; dsimp only; omega))), ?_, ?_, ?_, ?_, ?_⟩
  all_goals simp (disch := omega) only [e_KI, e_NI, e_BI, e_LI, e_PI, e_KB, e_NB, e_IB, e_LB, e_PB, e_KL, e_NL, e_IL, e_BL, e_PL, e_KP, e_NP, e_IP, e_BP, e_LP, e_IIs, e_BBs, e_LLs, e_PPs, e_IIn, e_BBn, e_LLn, e_PPn, e_IIk, e_BBk, e_LLk, e_PPk]
theorem xP_b {hL : y_H} {P : Nat → Nat → Prop} (wT : Sh T) (wL : Sh hL) (l : f_X10_leave 12 (64 * n + 20) T = some ((), hL)) (g : ag P (fun _ => False) T hL) (q : ∀ a k, P a k → a % 64 = 25 ∨ a % 64 = 32 ∨ a % 64 = 33) (K : y_K T (64 * n + 20) = 3) (r : RCl T C) (hc : c < C) : f_X10_bring 12 (64 * n + 20) 2 (nI c) 0 0 T = some ((), xP hL n c) := by
  have KL : y_K hL (64 * n + 20) = 3 := (g.K fun q => q).trans K
  have gS : ag (fun a k => a = 64 * n + 20 ∧ 6 ≤ k ∧ k ≤ 9) (fun _ => False) hL (s_I (s_I (s_I (s_I hL (64 * n + 20) 6 2) (64 * n + 20) 7 (nI c)) (64 * n + 20) 8 0) (64 * n + 20) 9 0) := by ((repeat' (first | exact ag.refl _ _ _ | apply ag.sI | apply ag.sB | apply ag.sP | apply ag.sL | (apply ag.cm) | (apply ag.mm))) <;> (first | omega | (dsimp only; omega) | (intro k; dsimp only; omega)))
  have wS : Sh (s_I (s_I (s_I (s_I hL (64 * n + 20) 6 2) (64 * n + 20) 7 (nI c)) (64 * n + 20) 8 0) (64 * n + 20) 9 0) := wL
  have nq : ∀ a k, ¬ (a % 64 = 25 ∨ a % 64 = 32 ∨ a % 64 = 33) → ¬ P a k := fun a k z y => z (q a k y)
  have rS : RCl (s_I (s_I (s_I (s_I hL (64 * n + 20) 6 2) (64 * n + 20) 7 (nI c)) (64 * n + 20) 8 0) (64 * n + 20) 9 0) C := ⟨r.1, (gS.I (by omega)).trans ((g.I (nq _ _ (by omega))).trans r.2.1), fun d hd => by
    obtain ⟨x1, x2, x3, x4⟩ := r.2.2 d hd
    refine ⟨(gS.P (by omega)).trans ((g.P (nq _ _ (by omega))).trans x1), (gS.K fun q => q).trans ((g.K fun q => q).trans x2), ?_, ?_⟩
    · rw [gS.I (a := 64 * d + 21) (by omega), g.I (a := 64 * d + 21) (nq _ _ (by omega)), x3, gS.I (by omega), g.I (nq _ _ (by omega))]
    · rw [gS.I (a := 64 * d + 21) (by omega), g.I (a := 64 * d + 21) (nq _ _ (by omega)), x4, gS.I (by omega), g.I (nq _ _ (by omega))]⟩
  have a := c_arrive2 (h := s_I (s_I (s_I (s_I hL (64 * n + 20) 6 2) (64 * n + 20) 7 (nI c)) (64 * n + 20) 8 0) (64 * n + 20) 9 0) (p := 64 * n + 20) (c := c) wS KL (by simp (disch := omega) only [e_KI, e_NI, e_BI, e_LI, e_PI, e_KB, e_NB, e_IB, e_LB, e_PB, e_KL, e_NL, e_IL, e_BL, e_PL, e_KP, e_NP, e_IP, e_BP, e_LP, e_IIs, e_BBs, e_LLs, e_PPs, e_IIn, e_BBn, e_LLn, e_PPn, e_IIk, e_BBk, e_LLk, e_PPk]) (by simp (disch := omega) only [e_KI, e_NI, e_BI, e_LI, e_PI, e_KB, e_NB, e_IB, e_LB, e_PB, e_KL, e_NL, e_IL, e_BL, e_PL, e_KP, e_NP, e_IP, e_BP, e_LP, e_IIs, e_BBs, e_LLs, e_PPs, e_IIn, e_BBn, e_LLn, e_PPn, e_IIk, e_BBk, e_LLk, e_PPk]) rS hc
  exact c_bring wT wL l KL a
theorem u_cells {E : y_H} (rS : RS h S) (e1 : ∀ s, s < S → ∀ k, k < 54 → y_P E (64 * s + 25) k = y_P h (64 * s + 25) k) (e2 : ∀ i, y_I E 2210 i = y_I h 2210 i) : ∀ s, s < S → ∀ k, k < 54 → y_P E (64 * s + 25) k = pB (y_I E 2210 (54 * s + k)) := fun s hs k hk => by
  rw [e1 s hs k hk, e2]
  exact (rS.2.2.2.1 s hs).1.2.2.2.2.2.2.2.2.2.2 k hk
theorem u_H0 (R : RelP h t e N C S A) (hA : 1 ≤ A) (ho9 : o < 60) (ho : y_I h 13 2 = nI o) (hn : n < N) (kb : y_I h 2722 (14 * (A - 1) + 5) = nI n) (hc : c < C) (kc : y_I h 2722 (14 * (A - 1) + 1) = nI c) (ha : y_I h 418 n = 2) (hp : y_I h 482 n = nI c) (k3 : y_I h 2722 (14 * (A - 1) + 3) = -1) (k6 : y_I h 2722 (14 * (A - 1) + 6) = 0 ∨ y_I h 2722 (14 * (A - 1) + 6) = 4) : Call (f_X11_undo 10 h) (f_X12_undo 11) t e := by
  obtain ⟨w, rT, rM, rB, rC, rS, rV, rL, rJ, rP, rH, rD, rQ, rK⟩ := id R
  obtain ⟨T, eT⟩ : ∃ T, T = s_I h 13 3 (nI (A - 1)) := ⟨_, rfl⟩
  obtain ⟨wT, gT, rCT⟩ := ud_T R eT
  obtain ⟨⟨x1, x2, x3, x4, x5, x6, x7, x8, x9, x10, x11, x12, x13, x14, x15⟩, -⟩ := rB.2.2.2.1 n hn
  obtain ⟨gX, f6, f7, f8, f9, f4⟩ := xH_g (T := T) (n := n) (c := c) (a := y_I h 2722 (14 * (A - 1) + 6)) (x := y_I h 2722 (14 * (A - 1) + 7)) (y := y_I h 2722 (14 * (A - 1) + 8)) (z := y_I h 2722 (14 * (A - 1) + 9))
  have KT : y_K T (64 * n + 20) = 3 := (gT.K fun q => q).trans x2
  have ar := c_arrive0 (h := xH T n c (y_I h 2722 (14 * (A - 1) + 6)) (y_I h 2722 (14 * (A - 1) + 7)) (y_I h 2722 (14 * (A - 1) + 8)) (y_I h 2722 (14 * (A - 1) + 9))) (p := 64 * n + 20) ((gX.K fun q => q).trans KT) (by rw [f6]; exact k6)
  have br := xH_b wT KT ((gT.I (by omega)).trans (x9.trans ha)) ((gT.I (by omega)).trans (x10.trans hp)) rCT hc ar
  have hN := rB.1
  have hC := rC.1
  have n13 : y_I h 2722 (14 * (A - 1) + 6) ≠ 1 ∧ y_I h 2722 (14 * (A - 1) + 6) ≠ 3 := by
    rcases k6 with z | z <;> rw [z] <;> decide
  refine undo_box R hA ho9 ho hn kb eT br gX (fun a k q => by omega) ⟨f6, f7, f8, f9⟩ (u_held R hc kc (by rw [k3, pB_1]) f4 (fun d hd => (gX.P (by omega)).trans (gT.P (by omega)))) (fun G wv wG gG kG => ?_)
  have g0 := (gT.trR gX).trR gG
  have iG : ∀ a, a = 418 ∨ a = 482 ∨ a = 546 ∨ a = 610 → ∀ m, y_I G a m = y_I h a m := fun a ha m => g0.I (by simp only [PGc]; omega)
  refine ⟨_, _, Or.inl ⟨by rw [iG 418 (by omega), ha]; decide, by rw [iG 418 (by omega), ha]; decide, rfl⟩, Or.inl ⟨by rw [kG]; exact n13.1, by rw [kG]; exact n13.2, rfl⟩, ?_⟩
  simp only [kG]
  obtain ⟨E, eE⟩ : ∃ E, E = mP4 (s_I G 11 50 (nI (A - 1))) n (y_I h 2722 (14 * (A - 1) + 6)) (y_I h 2722 (14 * (A - 1) + 7)) (y_I h 2722 (14 * (A - 1) + 8)) (y_I h 2722 (14 * (A - 1) + 9)) wv := ⟨_, rfl⟩
  have gE : ag (fun a k => a = 11 ∧ k = 50 ∨ (a = 418 ∨ a = 482 ∨ a = 546 ∨ a = 610 ∨ a = 354) ∧ k = n) (fun _ => False) G E := by
    rw [eE]
    unfold mP4
    ((repeat' (first | exact ag.refl _ _ _ | apply ag.sI | apply ag.sB | apply ag.sP | apply ag.sL | (apply ag.cm) | (apply ag.mm))) <;> (first | omega | (dsimp only; omega) | (intro k; dsimp only; omega)))
  have v1 : y_I E 418 n = y_I h 2722 (14 * (A - 1) + 6) := by
    rw [eE]
    unfold mP4
    simp (disch := omega) only [e_KI, e_NI, e_BI, e_LI, e_PI, e_KB, e_NB, e_IB, e_LB, e_PB, e_KL, e_NL, e_IL, e_BL, e_PL, e_KP, e_NP, e_IP, e_BP, e_LP, e_IIs, e_BBs, e_LLs, e_PPs, e_IIn, e_BBn, e_LLn, e_PPn, e_IIk, e_BBk, e_LLk, e_PPk]
  rw [← eE]
  have g := g0.trR gE
  refine ⟨u_cells rS (fun s hs k hk => g.P (by simp only [PGc]; omega)) (fun i => g.I (by simp only [PGc]; omega)), (RV_ag g (by intro a k q; (simp only [FRV, PGc] at q ⊢) <;> omega) (by intro a q; (simp only [GRV, PGc, not_false_eq_true] at q ⊢) <;> omega) rV), ?_⟩
  refine RP_no (n := n) (h := h) (g.rB (fun k => by simp only [PGc]; omega)) (g.rI (fun k => by simp only [PGc]; omega)) (g.rI (fun k => by simp only [PGc]; omega)) (g.rI (fun k => by simp only [PGc]; omega)) (g.rI (fun k => by simp only [PGc]; omega)) (fun m hm => ⟨g.I (by simp only [PGc]; omega), g.I (by simp only [PGc]; omega), g.I (by simp only [PGc]; omega), g.I (by simp only [PGc]; omega)⟩) ?_ rP
  rw [v1, ha]
  exact ⟨by decide, by decide, n13.1, n13.2⟩
theorem u_P0 (R : RelP h t e N C S A) (hA : 1 ≤ A) (ho9 : o < 60) (ho : y_I h 13 2 = nI o) (hn : n < N) (kb : y_I h 2722 (14 * (A - 1) + 5) = nI n) (hc : c < C) (kc : y_I h 2722 (14 * (A - 1) + 1) = nI c) (k6 : y_I h 2722 (14 * (A - 1) + 6) = 2) (k7 : y_I h 2722 (14 * (A - 1) + 7) = nI c) (k8 : y_I h 2722 (14 * (A - 1) + 8) = 0) (k9 : y_I h 2722 (14 * (A - 1) + 9) = 0) (k3 : y_I h 2722 (14 * (A - 1) + 3) = nI n) (ha : y_I h 418 n = 0 ∨ y_I h 418 n = 4) : Call (f_X11_undo 10 h) (f_X12_undo 11) t e := by
  obtain ⟨w, rT, rM, rB, rC, rS, rV, rL, rJ, rP, rH, rD, rQ, rK⟩ := id R
  obtain ⟨T, eT⟩ : ∃ T, T = s_I h 13 3 (nI (A - 1)) := ⟨_, rfl⟩
  obtain ⟨wT, gT, rCT⟩ := ud_T R eT
  obtain ⟨⟨x1, x2, x3, x4, x5, x6, x7, x8, x9, x10, x11, x12, x13, x14, x15⟩, -⟩ := rB.2.2.2.1 n hn
  obtain ⟨gX, f6, f7, f8, f9, f4⟩ := xP_g (hL := T) (n := n) (c := c)
  have KT : y_K T (64 * n + 20) = 3 := (gT.K fun q => q).trans x2
  have hN := rB.1
  have hC := rC.1
  have l := c_leave0 (h := T) (p := 64 * n + 20) KT (by rw [gT.I (by omega), x9]; exact ha)
  have br := xP_b (P := fun _ _ => False) wT wT l (ag.refl _ _ _) (fun a k q => q.elim) KT rCT hc
  have n13 : y_I h 418 n ≠ 1 ∧ y_I h 418 n ≠ 3 := by
    rcases ha with z | z <;> rw [z] <;> decide
  refine undo_box R hA ho9 ho hn kb eT (by rw [k6, k7, k8, k9]; exact br) gX (fun a k q => by omega) (by rw [k6, k7, k8, k9]; exact ⟨f6, f7, f8, f9⟩) (u_held R hc kc (by rw [k3, pB_n (by omega)]) f4 (fun d hd => (gX.P (by omega)).trans (gT.P (by omega)))) (fun G wv wG gG kG => ?_)
  have g0 := (gT.trR gX).trR gG
  have iG : ∀ a, a = 418 ∨ a = 482 ∨ a = 546 ∨ a = 610 → ∀ m, y_I G a m = y_I h a m := fun a ha m => g0.I (by simp only [PGc]; omega)
  refine ⟨_, _, Or.inl ⟨by rw [iG 418 (by omega)]; exact n13.1, by rw [iG 418 (by omega)]; exact n13.2, rfl⟩, Or.inl ⟨by rw [kG, k6]; decide, by rw [kG, k6]; decide, rfl⟩, ?_⟩
  simp only [kG]
  obtain ⟨E, eE⟩ : ∃ E, E = mP4 (s_I G 11 50 (nI (A - 1))) n (y_I h 2722 (14 * (A - 1) + 6)) (y_I h 2722 (14 * (A - 1) + 7)) (y_I h 2722 (14 * (A - 1) + 8)) (y_I h 2722 (14 * (A - 1) + 9)) wv := ⟨_, rfl⟩
  have gE : ag (fun a k => a = 11 ∧ k = 50 ∨ (a = 418 ∨ a = 482 ∨ a = 546 ∨ a = 610 ∨ a = 354) ∧ k = n) (fun _ => False) G E := by
    rw [eE]
    unfold mP4
    ((repeat' (first | exact ag.refl _ _ _ | apply ag.sI | apply ag.sB | apply ag.sP | apply ag.sL | (apply ag.cm) | (apply ag.mm))) <;> (first | omega | (dsimp only; omega) | (intro k; dsimp only; omega)))
  have v1 : y_I E 418 n = y_I h 2722 (14 * (A - 1) + 6) := by
    rw [eE]
    unfold mP4
    simp (disch := omega) only [e_KI, e_NI, e_BI, e_LI, e_PI, e_KB, e_NB, e_IB, e_LB, e_PB, e_KL, e_NL, e_IL, e_BL, e_PL, e_KP, e_NP, e_IP, e_BP, e_LP, e_IIs, e_BBs, e_LLs, e_PPs, e_IIn, e_BBn, e_LLn, e_PPn, e_IIk, e_BBk, e_LLk, e_PPk]
  rw [← eE]
  have g := g0.trR gE
  refine ⟨u_cells rS (fun s hs k hk => g.P (by simp only [PGc]; omega)) (fun i => g.I (by simp only [PGc]; omega)), (RV_ag g (by intro a k q; (simp only [FRV, PGc] at q ⊢) <;> omega) (by intro a q; (simp only [GRV, PGc, not_false_eq_true] at q ⊢) <;> omega) rV), ?_⟩
  refine RP_no (n := n) (h := h) (g.rB (fun k => by simp only [PGc]; omega)) (g.rI (fun k => by simp only [PGc]; omega)) (g.rI (fun k => by simp only [PGc]; omega)) (g.rI (fun k => by simp only [PGc]; omega)) (g.rI (fun k => by simp only [PGc]; omega)) (fun m hm => ⟨g.I (by simp only [PGc]; omega), g.I (by simp only [PGc]; omega), g.I (by simp only [PGc]; omega), g.I (by simp only [PGc]; omega)⟩) ?_ rP
  rw [v1, k6]
  exact ⟨n13.1, n13.2, by decide, by decide⟩
end UG
