/-! back: the model, and the call -/
section BM
variable {h X G : y_H} {t e N C S A n c s r o : Nat}
theorem vB_n {q i : Nat} (z : ∀ n, n < N → ¬ y_I h 2722 (14 * (A - (q + 1)) + 5) = nI n) (hi : i < 5 * N) : vBk h A (q + 1) i = vBk h A q i := by
  have k := z (i / 5) (by omega)
  unfold vBk oB oW
  rw [ovN (key := fun k => y_I h 2722 (14 * k + 5)) k, ovN (key := fun k => y_I h 2722 (14 * k + 5)) k, ovN (key := fun k => y_I h 2722 (14 * k + 5)) k, ovN (key := fun k => y_I h 2722 (14 * k + 5)) k, ovN (key := fun k => y_I h 2722 (14 * k + 5)) k]
theorem vB_o {q i : Nat} (z : ¬ y_I h 2722 (14 * (A - (q + 1)) + 5) = nI (i / 5)) : vBk h A (q + 1) i = vBk h A q i := by
  unfold vBk oB oW
  rw [ovN (key := fun k => y_I h 2722 (14 * k + 5)) z, ovN (key := fun k => y_I h 2722 (14 * k + 5)) z, ovN (key := fun k => y_I h 2722 (14 * k + 5)) z, ovN (key := fun k => y_I h 2722 (14 * k + 5)) z, ovN (key := fun k => y_I h 2722 (14 * k + 5)) z]
theorem vC_o {q i : Nat} (z : ¬ y_I h 2722 (14 * (A - (q + 1)) + 1) = nI (i / 3)) : vCk h A (q + 1) i = vCk h A q i := by
  unfold vCk oC
  rw [ovN (key := fun k => y_I h 2722 (14 * k + 1)) z, ovN (key := fun k => y_I h 2722 (14 * k + 1)) z, ovN (key := fun k => y_I h 2722 (14 * k + 1)) z]
theorem vS_o {q i : Nat} (z : ¬ y_I h 2722 (14 * (A - (q + 1)) + 11) = nI (i / 2)) : vSk h A (q + 1) i = vSk h A q i := by
  unfold vSk oS
  rw [ovN (key := fun k => y_I h 2722 (14 * k + 11)) z, ovN (key := fun k => y_I h 2722 (14 * k + 11)) z]
theorem vB_i {q k x : Nat} (z : y_I h 2722 (14 * (A - (q + 1)) + 5) = nI n) (hx : x < 4) : vBk h A (q + 1) (5 * n + x) = y_I h 2722 (14 * (A - (q + 1)) + 6 + x) := by
  obtain ⟨v0, v1, v2, v3, -⟩ := vB0 (h := h) (A := A) (r := q + 1) n
  have : x = 0 ∨ x = 1 ∨ x = 2 ∨ x = 3 := by omega
  rcases this with rfl | rfl | rfl | rfl
  · exact v0.trans (oB_S z)
  · exact v1.trans (oB_S z)
  · exact v2.trans (oB_S z)
  · exact v3.trans (oB_S z)
theorem vB_w {q : Nat} (z : y_I h 2722 (14 * (A - (q + 1)) + 5) = nI n) : vBk h A (q + 1) (5 * n + 4) = if y_I h 2722 (14 * (A - (q + 1)) + 10) = 1 then y_I h 162 n else y_I h 98 n := by
  refine (vB0 (h := h) (A := A) (r := q + 1) n).2.2.2.2.trans ?_
  unfold oW
  exact if_pos z
theorem vC_i {q x : Nat} (z : y_I h 2722 (14 * (A - (q + 1)) + 1) = nI c) (hx : x < 3) : vCk h A (q + 1) (3 * c + x) = y_I h 2722 (14 * (A - (q + 1)) + 2 + x) := by
  obtain ⟨v0, v1, v2⟩ := vC0 (h := h) (A := A) (r := q + 1) c
  have : x = 0 ∨ x = 1 ∨ x = 2 := by omega
  rcases this with rfl | rfl | rfl
  · exact v0.trans (oC_S z)
  · exact v1.trans (oC_S z)
  · exact v2.trans (oC_S z)
theorem vS_i {q x : Nat} (z : y_I h 2722 (14 * (A - (q + 1)) + 11) = nI s) (hx : x < 2) : vSk h A (q + 1) (2 * s + x) = y_I h 2722 (14 * (A - (q + 1)) + 12 + x) := by
  obtain ⟨v0, v1⟩ := vS0 (h := h) (A := A) (r := q + 1) s
  have : x = 0 ∨ x = 1 := by omega
  rcases this with rfl | rfl
  · exact v0.trans (oS_S z)
  · exact v1.trans (oS_S z)
theorem m_back (W : Sh h) (hN : N ≤ 80) (hC : C ≤ 12) (hS : S ≤ 3) (hA : A ≤ 60) (eN : y_I h 11 0 = nI N) (eC : y_I h 11 25 = nI C) (eS : y_I h 11 34 = nI S) (eA : y_I h 11 50 = nI A) (hon : ∀ k, k < A → on (y_I h 2722 (14 * k + 5)) N ∧ on (y_I h 2722 (14 * k + 1)) C ∧ on (y_I h 2722 (14 * k + 11)) S) (hr : r ≤ A) : wp (f_X12_back 11 (nI r) h) fun d h' => d = Dg h N C S A r ∧ ag (fun a _ => a = 4130 ∨ a = 4194 ∨ a = 4258) (fun _ => False) h h' := by
  suffices Hs : ∀ Q : Int64 → y_H → Prop, (∀ h', ag (fun a _ => a = 4130 ∨ a = 4194 ∨ a = 4258) (fun _ => False) h h' → Q (Dg h N C S A r) h') → wp (f_X12_back 11 (nI r) h) Q from Hs _ (fun _ q => ⟨rfl, q⟩)
  intro Q hQ
  have r0 : (nI r < 0) = False := i_n0 (by omega)
  have rA : nI r ≤ nI A := nI_le hr (by omega)
  unfold f_X12_back
  (repeat (first | with_reducible apply wp_jn | ((with_reducible apply wp_be); · first | (simp (disch := omega) only [r0, W.2, eA, rA, e_KI, e_NI, e_BI, e_LI, e_PI, e_KB, e_NB, e_IB, e_LB, e_PB, e_KL, e_NL, e_IL, e_BL, e_PL, e_KP, e_NP, e_IP, e_BP, e_LP, e_IIs, e_BBs, e_LLs, e_PPs, e_IIn, e_BBn, e_LLn, e_PPn, e_IIk, e_BBk, e_LLk, e_PPk, e_Ks, e_Ns, e_Is, e_Bs, e_Ls, e_Ps, e_Kn, e_Nn, e_In, e_Bn, e_Ln, e_Pn, if_true, if_false, and_self, or_true, true_or, not_false_eq_true, Bool.false_eq_true]; exact rfl) | exact rfl) | ((with_reducible apply wp_ce); · first | (simp (disch := omega) only [r0, W.2, eA, rA, e_KI, e_NI, e_BI, e_LI, e_PI, e_KB, e_NB, e_IB, e_LB, e_PB, e_KL, e_NL, e_IL, e_BL, e_PL, e_KP, e_NP, e_IP, e_BP, e_LP, e_IIs, e_BBs, e_LLs, e_PPs, e_IIn, e_BBn, e_LLn, e_PPn, e_IIk, e_BBk, e_LLk, e_PPk, e_Ks, e_Ns, e_Is, e_Bs, e_Ls, e_Ps, e_Kn, e_Nn, e_In, e_Bn, e_Ln, e_Pn, if_true, if_false, and_self, or_true, true_or, not_false_eq_true, Bool.false_eq_true]; exact rfl) | exact rfl) | ((with_reducible apply wp_g); · first | (simp (disch := omega) only [r0, W.2, eA, rA, e_KI, e_NI, e_BI, e_LI, e_PI, e_KB, e_NB, e_IB, e_LB, e_PB, e_KL, e_NL, e_IL, e_BL, e_PL, e_KP, e_NP, e_IP, e_BP, e_LP, e_IIs, e_BBs, e_LLs, e_PPs, e_IIn, e_BBn, e_LLn, e_PPn, e_IIk, e_BBk, e_LLk, e_PPk, e_Ks, e_Ns, e_Is, e_Bs, e_Ls, e_Ps, e_Kn, e_Nn, e_In, e_Bn, e_Ln, e_Pn, if_true, if_false, and_self, or_true, true_or, not_false_eq_true, Bool.false_eq_true]; done) | (simp (disch := omega) only [r0, W.2, eA, rA, e_KI, e_NI, e_BI, e_LI, e_PI, e_KB, e_NB, e_IB, e_LB, e_PB, e_KL, e_NL, e_IL, e_BL, e_PL, e_KP, e_NP, e_IP, e_BP, e_LP, e_IIs, e_BBs, e_LLs, e_PPs, e_IIn, e_BBn, e_LLn, e_PPn, e_IIk, e_BBk, e_LLk, e_PPk, e_Ks, e_Ns, e_Is, e_Bs, e_Ls, e_Ps, e_Kn, e_Nn, e_In, e_Bn, e_Ln, e_Pn, if_true, if_false, and_self, or_true, true_or, not_false_eq_true, Bool.false_eq_true]; decide) | decide) | ((with_reducible apply wp_pos); · first | (simp (disch := omega) only [r0, W.2, eA, rA, e_KI, e_NI, e_BI, e_LI, e_PI, e_KB, e_NB, e_IB, e_LB, e_PB, e_KL, e_NL, e_IL, e_BL, e_PL, e_KP, e_NP, e_IP, e_BP, e_LP, e_IIs, e_BBs, e_LLs, e_PPs, e_IIn, e_BBn, e_LLn, e_PPn, e_IIk, e_BBk, e_LLk, e_PPk, e_Ks, e_Ns, e_Is, e_Bs, e_Ls, e_Ps, e_Kn, e_Nn, e_In, e_Bn, e_Ln, e_Pn, if_true, if_false, and_self, or_true, true_or, not_false_eq_true, Bool.false_eq_true]; done) | (simp (disch := omega) only [r0, W.2, eA, rA, e_KI, e_NI, e_BI, e_LI, e_PI, e_KB, e_NB, e_IB, e_LB, e_PB, e_KL, e_NL, e_IL, e_BL, e_PL, e_KP, e_NP, e_IP, e_BP, e_LP, e_IIs, e_BBs, e_LLs, e_PPs, e_IIn, e_BBn, e_LLn, e_PPn, e_IIk, e_BBk, e_LLk, e_PPk, e_Ks, e_Ns, e_Is, e_Bs, e_Ls, e_Ps, e_Kn, e_Nn, e_In, e_Bn, e_Ln, e_Pn, if_true, if_false, and_self, or_true, true_or, not_false_eq_true, Bool.false_eq_true]; decide) | decide) | ((with_reducible apply wp_neg); · first | (simp (disch := omega) only [r0, W.2, eA, rA, e_KI, e_NI, e_BI, e_LI, e_PI, e_KB, e_NB, e_IB, e_LB, e_PB, e_KL, e_NL, e_IL, e_BL, e_PL, e_KP, e_NP, e_IP, e_BP, e_LP, e_IIs, e_BBs, e_LLs, e_PPs, e_IIn, e_BBn, e_LLn, e_PPn, e_IIk, e_BBk, e_LLk, e_PPk, e_Ks, e_Ns, e_Is, e_Bs, e_Ls, e_Ps, e_Kn, e_Nn, e_In, e_Bn, e_Ln, e_Pn, if_true, if_false, and_self, or_true, true_or, not_false_eq_true, Bool.false_eq_true]; done) | (simp (disch := omega) only [r0, W.2, eA, rA, e_KI, e_NI, e_BI, e_LI, e_PI, e_KB, e_NB, e_IB, e_LB, e_PB, e_KL, e_NL, e_IL, e_BL, e_PL, e_KP, e_NP, e_IP, e_BP, e_LP, e_IIs, e_BBs, e_LLs, e_PPs, e_IIn, e_BBn, e_LLn, e_PPn, e_IIk, e_BBk, e_LLk, e_PPk, e_Ks, e_Ns, e_Is, e_Bs, e_Ls, e_Ps, e_Kn, e_Nn, e_In, e_Bn, e_Ln, e_Pn, if_true, if_false, and_self, or_true, true_or, not_false_eq_true, Bool.false_eq_true]; decide) | decide)))
  -- the rows begin with what is
  refine wp_jl (fun m j => ∀ n G, n ≤ N → N - n < m → ag (fun a _ => a = 4130) (fun _ => False) h G → (∀ i, i < 5 * n → y_I G 4130 i = vBk h A 0 i) → wp (j 11 (nI r) (nI n) G) Q) (fun n _ _ z => absurd z (by omega)) (fun m j IH n G hn hm g l => ?_) (fun j IH => IH 0 h (by omega) (by unfold y_fu; omega) (ag.refl _ _ _) (fun i hi => absurd hi (by omega)))
  have w : Sh G := (Sh_ag g (by intro a k q; (simp only [FSh] at q ⊢) <;> omega) (by intro a q; (simp only [GSh, not_false_eq_true] at q ⊢) <;> omega) W)
  have e0 : y_I G 11 0 = nI N := (g.I (by omega)).trans eN
  by_cases en : n = N
  rotate_left
  · have q : ¬ nI N ≤ nI n := nI_ge (by omega) (by omega)
    have xn := i_ix (show n < 80 by omega) (by decide)
    have cn := i_cl (show n < 2 ^ 31 by omega)
    have x0 := i_ix (show 5 * n < 400 by omega) (by decide)
    have c0 := i_cl (show 5 * n < 2 ^ 31 by omega)
    have a1 : nI (5 * n) + 1 = nI (5 * n + 1) := i_add _ 1
    have a2 : nI (5 * n) + 2 = nI (5 * n + 2) := i_add _ 2
    have a3 : nI (5 * n) + 3 = nI (5 * n + 3) := i_add _ 3
    have a4 : nI (5 * n) + 4 = nI (5 * n + 4) := i_add _ 4
    have x1 := i_ix (show 5 * n + 1 < 400 by omega) (by decide)
    have c1 := i_cl (show 5 * n + 1 < 2 ^ 31 by omega)
    have x2 := i_ix (show 5 * n + 2 < 400 by omega) (by decide)
    have c2 := i_cl (show 5 * n + 2 < 2 ^ 31 by omega)
    have x3 := i_ix (show 5 * n + 3 < 400 by omega) (by decide)
    have c3 := i_cl (show 5 * n + 3 < 2 ^ 31 by omega)
    have x4 := i_ix (show 5 * n + 4 < 400 by omega) (by decide)
    have c4 := i_cl (show 5 * n + 4 < 2 ^ 31 by omega)
    have f1 : ∀ a k, a ≠ 4130 → y_I G a k = y_I h a k := fun a k z => g.I (by omega)
    have w4 : Sh (s_I (s_I (s_I (s_I G 4130 (5 * n) (y_I h 418 n)) 4130 (5 * n + 1) (y_I h 482 n)) 4130 (5 * n + 2) (y_I h 546 n)) 4130 (5 * n + 3) (y_I h 610 n)) := w
    have ek := m_known (h := s_I (s_I (s_I (s_I G 4130 (5 * n) (y_I h 418 n)) 4130 (5 * n + 1) (y_I h 482 n)) 4130 (5 * n + 2) (y_I h 546 n)) 4130 (5 * n + 3) (y_I h 610 n)) (n := n) w4 (by omega)
    have ek2 : kn (s_I (s_I (s_I (s_I G 4130 (5 * n) (y_I h 418 n)) 4130 (5 * n + 1) (y_I h 482 n)) 4130 (5 * n + 2) (y_I h 546 n)) 4130 (5 * n + 3) (y_I h 610 n)) n = kn h n := by
      unfold kn
      simp (disch := omega) only [e_KI, e_NI, e_BI, e_LI, e_PI, e_KB, e_NB, e_IB, e_LB, e_PB, e_KL, e_NL, e_IL, e_BL, e_PL, e_KP, e_NP, e_IP, e_BP, e_LP, e_IIs, e_BBs, e_LLs, e_PPs, e_IIn, e_BBn, e_LLn, e_PPn, e_IIk, e_BBk, e_LLk, e_PPk]
      rw [g.B (by omega), f1 _ _ (by omega), f1 _ _ (by omega)]
    rw [ek2] at ek
    obtain ⟨v0, v1, v2, v3, v4⟩ := vB0 (h := h) (A := A) (r := 0) n
    have ee : ∀ a k, a ≠ 4130 → y_I (s_I G 4130 (5 * n) (y_I h 418 n)) a k = y_I h a k := fun a k z => by rw [e_IIn z]; exact f1 a k z
    have ee2 : ∀ a k, a ≠ 4130 → y_I (s_I (s_I G 4130 (5 * n) (y_I h 418 n)) 4130 (5 * n + 1) (y_I h 482 n)) a k = y_I h a k := fun a k z => by rw [e_IIn z, e_IIn z]; exact f1 a k z
    have ee3 : ∀ a k, a ≠ 4130 → y_I (s_I (s_I (s_I G 4130 (5 * n) (y_I h 418 n)) 4130 (5 * n + 1) (y_I h 482 n)) 4130 (5 * n + 2) (y_I h 546 n)) a k = y_I h a k := fun a k z => by rw [e_IIn z, e_IIn z, e_IIn z]; exact f1 a k z
    have h1' := f1 418 n (by decide)
    have h2' := ee 482 n (by decide)
    have h3' := ee2 546 n (by decide)
    have h4' := ee3 610 n (by decide)
    (repeat (first | with_reducible apply wp_jn | ((with_reducible apply wp_be); · first | (simp (disch := omega) only [w.2, e0, q, xn, cn, i_m5, x0, c0, h1', h2', h3', h4', a1, x1, c1, a2, x2, c2, a3, x3, c3, ek, a4, x4, c4, e_KI, e_NI, e_BI, e_LI, e_PI, e_KB, e_NB, e_IB, e_LB, e_PB, e_KL, e_NL, e_IL, e_BL, e_PL, e_KP, e_NP, e_IP, e_BP, e_LP, e_IIs, e_BBs, e_LLs, e_PPs, e_IIn, e_BBn, e_LLn, e_PPn, e_IIk, e_BBk, e_LLk, e_PPk, e_Ks, e_Ns, e_Is, e_Bs, e_Ls, e_Ps, e_Kn, e_Nn, e_In, e_Bn, e_Ln, e_Pn, if_true, if_false, and_self, or_true, true_or, not_false_eq_true, Bool.false_eq_true]; exact rfl) | exact rfl) | ((with_reducible apply wp_ce); · first | (simp (disch := omega) only [w.2, e0, q, xn, cn, i_m5, x0, c0, h1', h2', h3', h4', a1, x1, c1, a2, x2, c2, a3, x3, c3, ek, a4, x4, c4, e_KI, e_NI, e_BI, e_LI, e_PI, e_KB, e_NB, e_IB, e_LB, e_PB, e_KL, e_NL, e_IL, e_BL, e_PL, e_KP, e_NP, e_IP, e_BP, e_LP, e_IIs, e_BBs, e_LLs, e_PPs, e_IIn, e_BBn, e_LLn, e_PPn, e_IIk, e_BBk, e_LLk, e_PPk, e_Ks, e_Ns, e_Is, e_Bs, e_Ls, e_Ps, e_Kn, e_Nn, e_In, e_Bn, e_Ln, e_Pn, if_true, if_false, and_self, or_true, true_or, not_false_eq_true, Bool.false_eq_true]; exact rfl) | exact rfl) | ((with_reducible apply wp_g); · first | (simp (disch := omega) only [w.2, e0, q, xn, cn, i_m5, x0, c0, h1', h2', h3', h4', a1, x1, c1, a2, x2, c2, a3, x3, c3, ek, a4, x4, c4, e_KI, e_NI, e_BI, e_LI, e_PI, e_KB, e_NB, e_IB, e_LB, e_PB, e_KL, e_NL, e_IL, e_BL, e_PL, e_KP, e_NP, e_IP, e_BP, e_LP, e_IIs, e_BBs, e_LLs, e_PPs, e_IIn, e_BBn, e_LLn, e_PPn, e_IIk, e_BBk, e_LLk, e_PPk, e_Ks, e_Ns, e_Is, e_Bs, e_Ls, e_Ps, e_Kn, e_Nn, e_In, e_Bn, e_Ln, e_Pn, if_true, if_false, and_self, or_true, true_or, not_false_eq_true, Bool.false_eq_true]; done) | (simp (disch := omega) only [w.2, e0, q, xn, cn, i_m5, x0, c0, h1', h2', h3', h4', a1, x1, c1, a2, x2, c2, a3, x3, c3, ek, a4, x4, c4, e_KI, e_NI, e_BI, e_LI, e_PI, e_KB, e_NB, e_IB, e_LB, e_PB, e_KL, e_NL, e_IL, e_BL, e_PL, e_KP, e_NP, e_IP, e_BP, e_LP, e_IIs, e_BBs, e_LLs, e_PPs, e_IIn, e_BBn, e_LLn, e_PPn, e_IIk, e_BBk, e_LLk, e_PPk, e_Ks, e_Ns, e_Is, e_Bs, e_Ls, e_Ps, e_Kn, e_Nn, e_In, e_Bn, e_Ln, e_Pn, if_true, if_false, and_self, or_true, true_or, not_false_eq_true, Bool.false_eq_true]; decide) | decide) | ((with_reducible apply wp_pos); · first | (simp (disch := omega) only [w.2, e0, q, xn, cn, i_m5, x0, c0, h1', h2', h3', h4', a1, x1, c1, a2, x2, c2, a3, x3, c3, ek, a4, x4, c4, e_KI, e_NI, e_BI, e_LI, e_PI, e_KB, e_NB, e_IB, e_LB, e_PB, e_KL, e_NL, e_IL, e_BL, e_PL, e_KP, e_NP, e_IP, e_BP, e_LP, e_IIs, e_BBs, e_LLs, e_PPs, e_IIn, e_BBn, e_LLn, e_PPn, e_IIk, e_BBk, e_LLk, e_PPk, e_Ks, e_Ns, e_Is, e_Bs, e_Ls, e_Ps, e_Kn, e_Nn, e_In, e_Bn, e_Ln, e_Pn, if_true, if_false, and_self, or_true, true_or, not_false_eq_true, Bool.false_eq_true]; done) | (simp (disch := omega) only [w.2, e0, q, xn, cn, i_m5, x0, c0, h1', h2', h3', h4', a1, x1, c1, a2, x2, c2, a3, x3, c3, ek, a4, x4, c4, e_KI, e_NI, e_BI, e_LI, e_PI, e_KB, e_NB, e_IB, e_LB, e_PB, e_KL, e_NL, e_IL, e_BL, e_PL, e_KP, e_NP, e_IP, e_BP, e_LP, e_IIs, e_BBs, e_LLs, e_PPs, e_IIn, e_BBn, e_LLn, e_PPn, e_IIk, e_BBk, e_LLk, e_PPk, e_Ks, e_Ns, e_Is, e_Bs, e_Ls, e_Ps, e_Kn, e_Nn, e_In, e_Bn, e_Ln, e_Pn, if_true, if_false, and_self, or_true, true_or, not_false_eq_true, Bool.false_eq_true]; decide) | decide) | ((with_reducible apply wp_neg); · first | (simp (disch := omega) only [w.2, e0, q, xn, cn, i_m5, x0, c0, h1', h2', h3', h4', a1, x1, c1, a2, x2, c2, a3, x3, c3, ek, a4, x4, c4, e_KI, e_NI, e_BI, e_LI, e_PI, e_KB, e_NB, e_IB, e_LB, e_PB, e_KL, e_NL, e_IL, e_BL, e_PL, e_KP, e_NP, e_IP, e_BP, e_LP, e_IIs, e_BBs, e_LLs, e_PPs, e_IIn, e_BBn, e_LLn, e_PPn, e_IIk, e_BBk, e_LLk, e_PPk, e_Ks, e_Ns, e_Is, e_Bs, e_Ls, e_Ps, e_Kn, e_Nn, e_In, e_Bn, e_Ln, e_Pn, if_true, if_false, and_self, or_true, true_or, not_false_eq_true, Bool.false_eq_true]; done) | (simp (disch := omega) only [w.2, e0, q, xn, cn, i_m5, x0, c0, h1', h2', h3', h4', a1, x1, c1, a2, x2, c2, a3, x3, c3, ek, a4, x4, c4, e_KI, e_NI, e_BI, e_LI, e_PI, e_KB, e_NB, e_IB, e_LB, e_PB, e_KL, e_NL, e_IL, e_BL, e_PL, e_KP, e_NP, e_IP, e_BP, e_LP, e_IIs, e_BBs, e_LLs, e_PPs, e_IIn, e_BBn, e_LLn, e_PPn, e_IIk, e_BBk, e_LLk, e_PPk, e_Ks, e_Ns, e_Is, e_Bs, e_Ls, e_Ps, e_Kn, e_Nn, e_In, e_Bn, e_Ln, e_Pn, if_true, if_false, and_self, or_true, true_or, not_false_eq_true, Bool.false_eq_true]; decide) | decide)))
    rw [nI_1]
    refine IH (n + 1) _ (by omega) (by omega) (((((g.sI rfl).sI rfl).sI rfl).sI rfl).sI rfl) (fun i hi => ?_)
    by_cases i4 : i = 5 * n + 4
    · rw [i4, e_IIs]; exact v4.symm
    rw [e_IIk i4]
    by_cases i3 : i = 5 * n + 3
    · rw [i3, e_IIs]; exact v3.symm
    rw [e_IIk i3]
    by_cases i2 : i = 5 * n + 2
    · rw [i2, e_IIs]; exact v2.symm
    rw [e_IIk i2]
    by_cases i1 : i = 5 * n + 1
    · rw [i1, e_IIs]; exact v1.symm
    rw [e_IIk i1]
    by_cases i0 : i = 5 * n
    · rw [i0, e_IIs]; exact v0.symm
    rw [e_IIk i0]
    exact l i (by omega)
  subst en
  have q : nI n ≤ nI n := nI_le (Nat.le_refl _) (by omega)
  (repeat (first | with_reducible apply wp_jn | ((with_reducible apply wp_be); · first | (simp (disch := omega) only [w.2, e0, q, e_KI, e_NI, e_BI, e_LI, e_PI, e_KB, e_NB, e_IB, e_LB, e_PB, e_KL, e_NL, e_IL, e_BL, e_PL, e_KP, e_NP, e_IP, e_BP, e_LP, e_IIs, e_BBs, e_LLs, e_PPs, e_IIn, e_BBn, e_LLn, e_PPn, e_IIk, e_BBk, e_LLk, e_PPk, e_Ks, e_Ns, e_Is, e_Bs, e_Ls, e_Ps, e_Kn, e_Nn, e_In, e_Bn, e_Ln, e_Pn, if_true, if_false, and_self, or_true, true_or, not_false_eq_true, Bool.false_eq_true]; exact rfl) | exact rfl) | ((with_reducible apply wp_ce); · first | (simp (disch := omega) only [w.2, e0, q, e_KI, e_NI, e_BI, e_LI, e_PI, e_KB, e_NB, e_IB, e_LB, e_PB, e_KL, e_NL, e_IL, e_BL, e_PL, e_KP, e_NP, e_IP, e_BP, e_LP, e_IIs, e_BBs, e_LLs, e_PPs, e_IIn, e_BBn, e_LLn, e_PPn, e_IIk, e_BBk, e_LLk, e_PPk, e_Ks, e_Ns, e_Is, e_Bs, e_Ls, e_Ps, e_Kn, e_Nn, e_In, e_Bn, e_Ln, e_Pn, if_true, if_false, and_self, or_true, true_or, not_false_eq_true, Bool.false_eq_true]; exact rfl) | exact rfl) | ((with_reducible apply wp_g); · first | (simp (disch := omega) only [w.2, e0, q, e_KI, e_NI, e_BI, e_LI, e_PI, e_KB, e_NB, e_IB, e_LB, e_PB, e_KL, e_NL, e_IL, e_BL, e_PL, e_KP, e_NP, e_IP, e_BP, e_LP, e_IIs, e_BBs, e_LLs, e_PPs, e_IIn, e_BBn, e_LLn, e_PPn, e_IIk, e_BBk, e_LLk, e_PPk, e_Ks, e_Ns, e_Is, e_Bs, e_Ls, e_Ps, e_Kn, e_Nn, e_In, e_Bn, e_Ln, e_Pn, if_true, if_false, and_self, or_true, true_or, not_false_eq_true, Bool.false_eq_true]; done) | (simp (disch := omega) only [w.2, e0, q, e_KI, e_NI, e_BI, e_LI, e_PI, e_KB, e_NB, e_IB, e_LB, e_PB, e_KL, e_NL, e_IL, e_BL, e_PL, e_KP, e_NP, e_IP, e_BP, e_LP, e_IIs, e_BBs, e_LLs, e_PPs, e_IIn, e_BBn, e_LLn, e_PPn, e_IIk, e_BBk, e_LLk, e_PPk, e_Ks, e_Ns, e_Is, e_Bs, e_Ls, e_Ps, e_Kn, e_Nn, e_In, e_Bn, e_Ln, e_Pn, if_true, if_false, and_self, or_true, true_or, not_false_eq_true, Bool.false_eq_true]; decide) | decide) | ((with_reducible apply wp_pos); · first | (simp (disch := omega) only [w.2, e0, q, e_KI, e_NI, e_BI, e_LI, e_PI, e_KB, e_NB, e_IB, e_LB, e_PB, e_KL, e_NL, e_IL, e_BL, e_PL, e_KP, e_NP, e_IP, e_BP, e_LP, e_IIs, e_BBs, e_LLs, e_PPs, e_IIn, e_BBn, e_LLn, e_PPn, e_IIk, e_BBk, e_LLk, e_PPk, e_Ks, e_Ns, e_Is, e_Bs, e_Ls, e_Ps, e_Kn, e_Nn, e_In, e_Bn, e_Ln, e_Pn, if_true, if_false, and_self, or_true, true_or, not_false_eq_true, Bool.false_eq_true]; done) | (simp (disch := omega) only [w.2, e0, q, e_KI, e_NI, e_BI, e_LI, e_PI, e_KB, e_NB, e_IB, e_LB, e_PB, e_KL, e_NL, e_IL, e_BL, e_PL, e_KP, e_NP, e_IP, e_BP, e_LP, e_IIs, e_BBs, e_LLs, e_PPs, e_IIn, e_BBn, e_LLn, e_PPn, e_IIk, e_BBk, e_LLk, e_PPk, e_Ks, e_Ns, e_Is, e_Bs, e_Ls, e_Ps, e_Kn, e_Nn, e_In, e_Bn, e_Ln, e_Pn, if_true, if_false, and_self, or_true, true_or, not_false_eq_true, Bool.false_eq_true]; decide) | decide) | ((with_reducible apply wp_neg); · first | (simp (disch := omega) only [w.2, e0, q, e_KI, e_NI, e_BI, e_LI, e_PI, e_KB, e_NB, e_IB, e_LB, e_PB, e_KL, e_NL, e_IL, e_BL, e_PL, e_KP, e_NP, e_IP, e_BP, e_LP, e_IIs, e_BBs, e_LLs, e_PPs, e_IIn, e_BBn, e_LLn, e_PPn, e_IIk, e_BBk, e_LLk, e_PPk, e_Ks, e_Ns, e_Is, e_Bs, e_Ls, e_Ps, e_Kn, e_Nn, e_In, e_Bn, e_Ln, e_Pn, if_true, if_false, and_self, or_true, true_or, not_false_eq_true, Bool.false_eq_true]; done) | (simp (disch := omega) only [w.2, e0, q, e_KI, e_NI, e_BI, e_LI, e_PI, e_KB, e_NB, e_IB, e_LB, e_PB, e_KL, e_NL, e_IL, e_BL, e_PL, e_KP, e_NP, e_IP, e_BP, e_LP, e_IIs, e_BBs, e_LLs, e_PPs, e_IIn, e_BBn, e_LLn, e_PPn, e_IIk, e_BBk, e_LLk, e_PPk, e_Ks, e_Ns, e_Is, e_Bs, e_Ls, e_Ps, e_Kn, e_Nn, e_In, e_Bn, e_Ln, e_Pn, if_true, if_false, and_self, or_true, true_or, not_false_eq_true, Bool.false_eq_true]; decide) | decide)))
  clear IH
  refine wp_jl (fun m j => ∀ c G, c ≤ C → C - c < m → ag (fun a _ => a = 4130 ∨ a = 4194) (fun _ => False) h G → (∀ i, i < 5 * n → y_I G 4130 i = vBk h A 0 i) → (∀ i, i < 3 * c → y_I G 4194 i = vCk h A 0 i) → wp (j 11 (nI r) (nI c) G) Q) (fun n _ _ z => absurd z (by omega)) (fun m j IH c G hc hm g l lc => ?_) (fun j IH => IH 0 G (by omega) (by unfold y_fu; omega) (g.mono (fun a k q => Or.inl q) (fun a q => q)) l (fun i hi => absurd hi (by omega)))
  have w : Sh G := (Sh_ag g (by intro a k q; (simp only [FSh] at q ⊢) <;> omega) (by intro a q; (simp only [GSh, not_false_eq_true] at q ⊢) <;> omega) W)
  have e25 : y_I G 11 25 = nI C := (g.I (by omega)).trans eC
  by_cases en : c = C
  rotate_left
  · have q : ¬ nI C ≤ nI c := nI_ge (by omega) (by omega)
    have xn := i_ix (show c < 12 by omega) (by decide)
    have cn := i_cl (show c < 2 ^ 31 by omega)
    have x0 := i_ix (show 3 * c < 36 by omega) (by decide)
    have c0 := i_cl (show 3 * c < 2 ^ 31 by omega)
    have a1 : nI (3 * c) + 1 = nI (3 * c + 1) := i_add _ 1
    have a2 : nI (3 * c) + 2 = nI (3 * c + 2) := i_add _ 2
    have x1 := i_ix (show 3 * c + 1 < 36 by omega) (by decide)
    have c1 := i_cl (show 3 * c + 1 < 2 ^ 31 by omega)
    have x2 := i_ix (show 3 * c + 2 < 36 by omega) (by decide)
    have c2 := i_cl (show 3 * c + 2 < 2 ^ 31 by omega)
    have f1 : ∀ a k, a ≠ 4130 ∧ a ≠ 4194 → y_I G a k = y_I h a k := fun a k z => g.I (by omega)
    have ee : ∀ a k, a ≠ 4130 ∧ a ≠ 4194 → y_I (s_I G 4194 (3 * c) (y_I h 1634 c)) a k = y_I h a k := fun a k z => by rw [e_IIn z.2]; exact f1 a k z
    have ee2 : ∀ a k, a ≠ 4130 ∧ a ≠ 4194 → y_I (s_I (s_I G 4194 (3 * c) (y_I h 1634 c)) 4194 (3 * c + 1) (y_I h 1698 c)) a k = y_I h a k := fun a k z => by rw [e_IIn z.2, e_IIn z.2]; exact f1 a k z
    obtain ⟨v0, v1, v2⟩ := vC0 (h := h) (A := A) (r := 0) c
    have h1' := f1 1634 c (by decide)
    have h2' := ee 1698 c (by decide)
    have h3' := ee2 1762 c (by decide)
    (repeat (first | with_reducible apply wp_jn | ((with_reducible apply wp_be); · first | (simp (disch := omega) only [w.2, e25, q, xn, cn, i_m3, x0, c0, h1', h2', h3', a1, x1, c1, a2, x2, c2, e_KI, e_NI, e_BI, e_LI, e_PI, e_KB, e_NB, e_IB, e_LB, e_PB, e_KL, e_NL, e_IL, e_BL, e_PL, e_KP, e_NP, e_IP, e_BP, e_LP, e_IIs, e_BBs, e_LLs, e_PPs, e_IIn, e_BBn, e_LLn, e_PPn, e_IIk, e_BBk, e_LLk, e_PPk, e_Ks, e_Ns, e_Is, e_Bs, e_Ls, e_Ps, e_Kn, e_Nn, e_In, e_Bn, e_Ln, e_Pn, if_true, if_false, and_self, or_true, true_or, not_false_eq_true, Bool.false_eq_true]; exact rfl) | exact rfl) | ((with_reducible apply wp_ce); · first | (simp (disch := omega) only [w.2, e25, q, xn, cn, i_m3, x0, c0, h1', h2', h3', a1, x1, c1, a2, x2, c2, e_KI, e_NI, e_BI, e_LI, e_PI, e_KB, e_NB, e_IB, e_LB, e_PB, e_KL, e_NL, e_IL, e_BL, e_PL, e_KP, e_NP, e_IP, e_BP, e_LP, e_IIs, e_BBs, e_LLs, e_PPs, e_IIn, e_BBn, e_LLn, e_PPn, e_IIk, e_BBk, e_LLk, e_PPk, e_Ks, e_Ns, e_Is, e_Bs, e_Ls, e_Ps, e_Kn, e_Nn, e_In, e_Bn, e_Ln, e_Pn, if_true, if_false, and_self, or_true, true_or, not_false_eq_true, Bool.false_eq_true]; exact rfl) | exact rfl) | ((with_reducible apply wp_g); · first | (simp (disch := omega) only [w.2, e25, q, xn, cn, i_m3, x0, c0, h1', h2', h3', a1, x1, c1, a2, x2, c2, e_KI, e_NI, e_BI, e_LI, e_PI, e_KB, e_NB, e_IB, e_LB, e_PB, e_KL, e_NL, e_IL, e_BL, e_PL, e_KP, e_NP, e_IP, e_BP, e_LP, e_IIs, e_BBs, e_LLs, e_PPs, e_IIn, e_BBn, e_LLn, e_PPn, e_IIk, e_BBk, e_LLk, e_PPk, e_Ks, e_Ns, e_Is, e_Bs, e_Ls, e_Ps, e_Kn, e_Nn, e_In, e_Bn, e_Ln, e_Pn, if_true, if_false, and_self, or_true, true_or, not_false_eq_true, Bool.false_eq_true]; done) | (simp (disch := omega) only [w.2, e25, q, xn, cn, i_m3, x0, c0, h1', h2', h3', a1, x1, c1, a2, x2, c2, e_KI, e_NI, e_BI, e_LI, e_PI, e_KB, e_NB, e_IB, e_LB, e_PB, e_KL, e_NL, e_IL, e_BL, e_PL, e_KP, e_NP, e_IP, e_BP, e_LP, e_IIs, e_BBs, e_LLs, e_PPs, e_IIn, e_BBn, e_LLn, e_PPn, e_IIk, e_BBk, e_LLk, e_PPk, e_Ks, e_Ns, e_Is, e_Bs, e_Ls, e_Ps, e_Kn, e_Nn, e_In, e_Bn, e_Ln, e_Pn, if_true, if_false, and_self, or_true, true_or, not_false_eq_true, Bool.false_eq_true]; decide) | decide) | ((with_reducible apply wp_pos); · first | (simp (disch := omega) only [w.2, e25, q, xn, cn, i_m3, x0, c0, h1', h2', h3', a1, x1, c1, a2, x2, c2, e_KI, e_NI, e_BI, e_LI, e_PI, e_KB, e_NB, e_IB, e_LB, e_PB, e_KL, e_NL, e_IL, e_BL, e_PL, e_KP, e_NP, e_IP, e_BP, e_LP, e_IIs, e_BBs, e_LLs, e_PPs, e_IIn, e_BBn, e_LLn, e_PPn, e_IIk, e_BBk, e_LLk, e_PPk, e_Ks, e_Ns, e_Is, e_Bs, e_Ls, e_Ps, e_Kn, e_Nn, e_In, e_Bn, e_Ln, e_Pn, if_true, if_false, and_self, or_true, true_or, not_false_eq_true, Bool.false_eq_true]; done) | (simp (disch := omega) only [w.2, e25, q, xn, cn, i_m3, x0, c0, h1', h2', h3', a1, x1, c1, a2, x2, c2, e_KI, e_NI, e_BI, e_LI, e_PI, e_KB, e_NB, e_IB, e_LB, e_PB, e_KL, e_NL, e_IL, e_BL, e_PL, e_KP, e_NP, e_IP, e_BP, e_LP, e_IIs, e_BBs, e_LLs, e_PPs, e_IIn, e_BBn, e_LLn, e_PPn, e_IIk, e_BBk, e_LLk, e_PPk, e_Ks, e_Ns, e_Is, e_Bs, e_Ls, e_Ps, e_Kn, e_Nn, e_In, e_Bn, e_Ln, e_Pn, if_true, if_false, and_self, or_true, true_or, not_false_eq_true, Bool.false_eq_true]; decide) | decide) | ((with_reducible apply wp_neg); · first | (simp (disch := omega) only [w.2, e25, q, xn, cn, i_m3, x0, c0, h1', h2', h3', a1, x1, c1, a2, x2, c2, e_KI, e_NI, e_BI, e_LI, e_PI, e_KB, e_NB, e_IB, e_LB, e_PB, e_KL, e_NL, e_IL, e_BL, e_PL, e_KP, e_NP, e_IP, e_BP, e_LP, e_IIs, e_BBs, e_LLs, e_PPs, e_IIn, e_BBn, e_LLn, e_PPn, e_IIk, e_BBk, e_LLk, e_PPk, e_Ks, e_Ns, e_Is, e_Bs, e_Ls, e_Ps, e_Kn, e_Nn, e_In, e_Bn, e_Ln, e_Pn, if_true, if_false, and_self, or_true, true_or, not_false_eq_true, Bool.false_eq_true]; done) | (simp (disch := omega) only [w.2, e25, q, xn, cn, i_m3, x0, c0, h1', h2', h3', a1, x1, c1, a2, x2, c2, e_KI, e_NI, e_BI, e_LI, e_PI, e_KB, e_NB, e_IB, e_LB, e_PB, e_KL, e_NL, e_IL, e_BL, e_PL, e_KP, e_NP, e_IP, e_BP, e_LP, e_IIs, e_BBs, e_LLs, e_PPs, e_IIn, e_BBn, e_LLn, e_PPn, e_IIk, e_BBk, e_LLk, e_PPk, e_Ks, e_Ns, e_Is, e_Bs, e_Ls, e_Ps, e_Kn, e_Nn, e_In, e_Bn, e_Ln, e_Pn, if_true, if_false, and_self, or_true, true_or, not_false_eq_true, Bool.false_eq_true]; decide) | decide)))
    rw [nI_1]
    refine IH (c + 1) _ (by omega) (by omega) (((g.sI (Or.inr rfl)).sI (Or.inr rfl)).sI (Or.inr rfl)) (fun i hi => ?_) (fun i hi => ?_)
    · rw [e_IIn (by omega), e_IIn (by omega), e_IIn (by omega)]
      exact l i hi
    by_cases i2 : i = 3 * c + 2
    · rw [i2, e_IIs]; exact v2.symm
    rw [e_IIk i2]
    by_cases i1 : i = 3 * c + 1
    · rw [i1, e_IIs]; exact v1.symm
    rw [e_IIk i1]
    by_cases i0 : i = 3 * c
    · rw [i0, e_IIs]; exact v0.symm
    rw [e_IIk i0]
    exact lc i (by omega)
  subst en
  have q : nI c ≤ nI c := nI_le (Nat.le_refl _) (by omega)
  (repeat (first | with_reducible apply wp_jn | ((with_reducible apply wp_be); · first | (simp (disch := omega) only [w.2, e25, q, e_KI, e_NI, e_BI, e_LI, e_PI, e_KB, e_NB, e_IB, e_LB, e_PB, e_KL, e_NL, e_IL, e_BL, e_PL, e_KP, e_NP, e_IP, e_BP, e_LP, e_IIs, e_BBs, e_LLs, e_PPs, e_IIn, e_BBn, e_LLn, e_PPn, e_IIk, e_BBk, e_LLk, e_PPk, e_Ks, e_Ns, e_Is, e_Bs, e_Ls, e_Ps, e_Kn, e_Nn, e_In, e_Bn, e_Ln, e_Pn, if_true, if_false, and_self, or_true, true_or, not_false_eq_true, Bool.false_eq_true]; exact rfl) | exact rfl) | ((with_reducible apply wp_ce); · first | (simp (disch := omega) only [w.2, e25, q, e_KI, e_NI, e_BI, e_LI, e_PI, e_KB, e_NB, e_IB, e_LB, e_PB, e_KL, e_NL, e_IL, e_BL, e_PL, e_KP, e_NP, e_IP, e_BP, e_LP, e_IIs, e_BBs, e_LLs, e_PPs, e_IIn, e_BBn, e_LLn, e_PPn, e_IIk, e_BBk, e_LLk, e_PPk, e_Ks, e_Ns, e_Is, e_Bs, e_Ls, e_Ps, e_Kn, e_Nn, e_In, e_Bn, e_Ln, e_Pn, if_true, if_false, and_self, or_true, true_or, not_false_eq_true, Bool.false_eq_true]; exact rfl) | exact rfl) | ((with_reducible apply wp_g); · first | (simp (disch := omega) only [w.2, e25, q, e_KI, e_NI, e_BI, e_LI, e_PI, e_KB, e_NB, e_IB, e_LB, e_PB, e_KL, e_NL, e_IL, e_BL, e_PL, e_KP, e_NP, e_IP, e_BP, e_LP, e_IIs, e_BBs, e_LLs, e_PPs, e_IIn, e_BBn, e_LLn, e_PPn, e_IIk, e_BBk, e_LLk, e_PPk, e_Ks, e_Ns, e_Is, e_Bs, e_Ls, e_Ps, e_Kn, e_Nn, e_In, e_Bn, e_Ln, e_Pn, if_true, if_false, and_self, or_true, true_or, not_false_eq_true, Bool.false_eq_true]; done) | (simp (disch := omega) only [w.2, e25, q, e_KI, e_NI, e_BI, e_LI, e_PI, e_KB, e_NB, e_IB, e_LB, e_PB, e_KL, e_NL, e_IL, e_BL, e_PL, e_KP, e_NP, e_IP, e_BP, e_LP, e_IIs, e_BBs, e_LLs, e_PPs, e_IIn, e_BBn, e_LLn, e_PPn, e_IIk, e_BBk, e_LLk, e_PPk, e_Ks, e_Ns, e_Is, e_Bs, e_Ls, e_Ps, e_Kn, e_Nn, e_In, e_Bn, e_Ln, e_Pn, if_true, if_false, and_self, or_true, true_or, not_false_eq_true, Bool.false_eq_true]; decide) | decide) | ((with_reducible apply wp_pos); · first | (simp (disch := omega) only [w.2, e25, q, e_KI, e_NI, e_BI, e_LI, e_PI, e_KB, e_NB, e_IB, e_LB, e_PB, e_KL, e_NL, e_IL, e_BL, e_PL, e_KP, e_NP, e_IP, e_BP, e_LP, e_IIs, e_BBs, e_LLs, e_PPs, e_IIn, e_BBn, e_LLn, e_PPn, e_IIk, e_BBk, e_LLk, e_PPk, e_Ks, e_Ns, e_Is, e_Bs, e_Ls, e_Ps, e_Kn, e_Nn, e_In, e_Bn, e_Ln, e_Pn, if_true, if_false, and_self, or_true, true_or, not_false_eq_true, Bool.false_eq_true]; done) | (simp (disch := omega) only [w.2, e25, q, e_KI, e_NI, e_BI, e_LI, e_PI, e_KB, e_NB, e_IB, e_LB, e_PB, e_KL, e_NL, e_IL, e_BL, e_PL, e_KP, e_NP, e_IP, e_BP, e_LP, e_IIs, e_BBs, e_LLs, e_PPs, e_IIn, e_BBn, e_LLn, e_PPn, e_IIk, e_BBk, e_LLk, e_PPk, e_Ks, e_Ns, e_Is, e_Bs, e_Ls, e_Ps, e_Kn, e_Nn, e_In, e_Bn, e_Ln, e_Pn, if_true, if_false, and_self, or_true, true_or, not_false_eq_true, Bool.false_eq_true]; decide) | decide) | ((with_reducible apply wp_neg); · first | (simp (disch := omega) only [w.2, e25, q, e_KI, e_NI, e_BI, e_LI, e_PI, e_KB, e_NB, e_IB, e_LB, e_PB, e_KL, e_NL, e_IL, e_BL, e_PL, e_KP, e_NP, e_IP, e_BP, e_LP, e_IIs, e_BBs, e_LLs, e_PPs, e_IIn, e_BBn, e_LLn, e_PPn, e_IIk, e_BBk, e_LLk, e_PPk, e_Ks, e_Ns, e_Is, e_Bs, e_Ls, e_Ps, e_Kn, e_Nn, e_In, e_Bn, e_Ln, e_Pn, if_true, if_false, and_self, or_true, true_or, not_false_eq_true, Bool.false_eq_true]; done) | (simp (disch := omega) only [w.2, e25, q, e_KI, e_NI, e_BI, e_LI, e_PI, e_KB, e_NB, e_IB, e_LB, e_PB, e_KL, e_NL, e_IL, e_BL, e_PL, e_KP, e_NP, e_IP, e_BP, e_LP, e_IIs, e_BBs, e_LLs, e_PPs, e_IIn, e_BBn, e_LLn, e_PPn, e_IIk, e_BBk, e_LLk, e_PPk, e_Ks, e_Ns, e_Is, e_Bs, e_Ls, e_Ps, e_Kn, e_Nn, e_In, e_Bn, e_Ln, e_Pn, if_true, if_false, and_self, or_true, true_or, not_false_eq_true, Bool.false_eq_true]; decide) | decide)))
  clear IH
  refine wp_jl (fun m j => ∀ s G, s ≤ S → S - s < m → ag (fun a _ => a = 4130 ∨ a = 4194 ∨ a = 4258) (fun _ => False) h G → (∀ i, i < 5 * n → y_I G 4130 i = vBk h A 0 i) → (∀ i, i < 3 * c → y_I G 4194 i = vCk h A 0 i) → (∀ i, i < 2 * s → y_I G 4258 i = vSk h A 0 i) → wp (j 11 (nI r) (nI s) G) Q) (fun n _ _ z => absurd z (by omega)) (fun m j IH s G hs hm g l lc ls => ?_) (fun j IH => IH 0 G (by omega) (by unfold y_fu; omega) (g.mono (fun a k q => by omega) (fun a q => q)) l lc (fun i hi => absurd hi (by omega)))
  have w : Sh G := (Sh_ag g (by intro a k q; (simp only [FSh] at q ⊢) <;> omega) (by intro a q; (simp only [GSh, not_false_eq_true] at q ⊢) <;> omega) W)
  have e34 : y_I G 11 34 = nI S := (g.I (by omega)).trans eS
  by_cases en : s = S
  rotate_left
  · have q : ¬ nI S ≤ nI s := nI_ge (by omega) (by omega)
    have xn := i_ix (show s < 3 by omega) (by decide)
    have cn := i_cl (show s < 2 ^ 31 by omega)
    have x0 := i_ix (show 2 * s < 6 by omega) (by decide)
    have c0 := i_cl (show 2 * s < 2 ^ 31 by omega)
    have a1 : nI (2 * s) + 1 = nI (2 * s + 1) := i_add _ 1
    have x1 := i_ix (show 2 * s + 1 < 6 by omega) (by decide)
    have c1 := i_cl (show 2 * s + 1 < 2 ^ 31 by omega)
    have f1 : ∀ a k, a ≠ 4130 ∧ a ≠ 4194 ∧ a ≠ 4258 → y_I G a k = y_I h a k := fun a k z => g.I (by omega)
    have ee : ∀ a k, a ≠ 4130 ∧ a ≠ 4194 ∧ a ≠ 4258 → y_I (s_I G 4258 (2 * s) (y_I h 2466 s)) a k = y_I h a k := fun a k z => by rw [e_IIn z.2.2]; exact f1 a k z
    obtain ⟨v0, v1⟩ := vS0 (h := h) (A := A) (r := 0) s
    have h1' := f1 2466 s (by decide)
    have h2' := ee 2530 s (by decide)
    (repeat (first | with_reducible apply wp_jn | ((with_reducible apply wp_be); · first | (simp (disch := omega) only [w.2, e34, q, xn, cn, i_m2, x0, c0, h1', h2', a1, x1, c1, e_KI, e_NI, e_BI, e_LI, e_PI, e_KB, e_NB, e_IB, e_LB, e_PB, e_KL, e_NL, e_IL, e_BL, e_PL, e_KP, e_NP, e_IP, e_BP, e_LP, e_IIs, e_BBs, e_LLs, e_PPs, e_IIn, e_BBn, e_LLn, e_PPn, e_IIk, e_BBk, e_LLk, e_PPk, e_Ks, e_Ns, e_Is, e_Bs, e_Ls, e_Ps, e_Kn, e_Nn, e_In, e_Bn, e_Ln, e_Pn, if_true, if_false, and_self, or_true, true_or, not_false_eq_true, Bool.false_eq_true]; exact rfl) | exact rfl) | ((with_reducible apply wp_ce); · first | (simp (disch := omega) only [w.2, e34, q, xn, cn, i_m2, x0, c0, h1', h2', a1, x1, c1, e_KI, e_NI, e_BI, e_LI, e_PI, e_KB, e_NB, e_IB, e_LB, e_PB, e_KL, e_NL, e_IL, e_BL, e_PL, e_KP, e_NP, e_IP, e_BP, e_LP, e_IIs, e_BBs, e_LLs, e_PPs, e_IIn, e_BBn, e_LLn, e_PPn, e_IIk, e_BBk, e_LLk, e_PPk, e_Ks, e_Ns, e_Is, e_Bs, e_Ls, e_Ps, e_Kn, e_Nn, e_In, e_Bn, e_Ln, e_Pn, if_true, if_false, and_self, or_true, true_or, not_false_eq_true, Bool.false_eq_true]; exact rfl) | exact rfl) | ((with_reducible apply wp_g); · first | (simp (disch := omega) only [w.2, e34, q, xn, cn, i_m2, x0, c0, h1', h2', a1, x1, c1, e_KI, e_NI, e_BI, e_LI, e_PI, e_KB, e_NB, e_IB, e_LB, e_PB, e_KL, e_NL, e_IL, e_BL, e_PL, e_KP, e_NP, e_IP, e_BP, e_LP, e_IIs, e_BBs, e_LLs, e_PPs, e_IIn, e_BBn, e_LLn, e_PPn, e_IIk, e_BBk, e_LLk, e_PPk, e_Ks, e_Ns, e_Is, e_Bs, e_Ls, e_Ps, e_Kn, e_Nn, e_In, e_Bn, e_Ln, e_Pn, if_true, if_false, and_self, or_true, true_or, not_false_eq_true, Bool.false_eq_true]; done) | (simp (disch := omega) only [w.2, e34, q, xn, cn, i_m2, x0, c0, h1', h2', a1, x1, c1, e_KI, e_NI, e_BI, e_LI, e_PI, e_KB, e_NB, e_IB, e_LB, e_PB, e_KL, e_NL, e_IL, e_BL, e_PL, e_KP, e_NP, e_IP, e_BP, e_LP, e_IIs, e_BBs, e_LLs, e_PPs, e_IIn, e_BBn, e_LLn, e_PPn, e_IIk, e_BBk, e_LLk, e_PPk, e_Ks, e_Ns, e_Is, e_Bs, e_Ls, e_Ps, e_Kn, e_Nn, e_In, e_Bn, e_Ln, e_Pn, if_true, if_false, and_self, or_true, true_or, not_false_eq_true, Bool.false_eq_true]; decide) | decide) | ((with_reducible apply wp_pos); · first | (simp (disch := omega) only [w.2, e34, q, xn, cn, i_m2, x0, c0, h1', h2', a1, x1, c1, e_KI, e_NI, e_BI, e_LI, e_PI, e_KB, e_NB, e_IB, e_LB, e_PB, e_KL, e_NL, e_IL, e_BL, e_PL, e_KP, e_NP, e_IP, e_BP, e_LP, e_IIs, e_BBs, e_LLs, e_PPs, e_IIn, e_BBn, e_LLn, e_PPn, e_IIk, e_BBk, e_LLk, e_PPk, e_Ks, e_Ns, e_Is, e_Bs, e_Ls, e_Ps, e_Kn, e_Nn, e_In, e_Bn, e_Ln, e_Pn, if_true, if_false, and_self, or_true, true_or, not_false_eq_true, Bool.false_eq_true]; done) | (simp (disch := omega) only [w.2, e34, q, xn, cn, i_m2, x0, c0, h1', h2', a1, x1, c1, e_KI, e_NI, e_BI, e_LI, e_PI, e_KB, e_NB, e_IB, e_LB, e_PB, e_KL, e_NL, e_IL, e_BL, e_PL, e_KP, e_NP, e_IP, e_BP, e_LP, e_IIs, e_BBs, e_LLs, e_PPs, e_IIn, e_BBn, e_LLn, e_PPn, e_IIk, e_BBk, e_LLk, e_PPk, e_Ks, e_Ns, e_Is, e_Bs, e_Ls, e_Ps, e_Kn, e_Nn, e_In, e_Bn, e_Ln, e_Pn, if_true, if_false, and_self, or_true, true_or, not_false_eq_true, Bool.false_eq_true]; decide) | decide) | ((with_reducible apply wp_neg); · first | (simp (disch := omega) only [w.2, e34, q, xn, cn, i_m2, x0, c0, h1', h2', a1, x1, c1, e_KI, e_NI, e_BI, e_LI, e_PI, e_KB, e_NB, e_IB, e_LB, e_PB, e_KL, e_NL, e_IL, e_BL, e_PL, e_KP, e_NP, e_IP, e_BP, e_LP, e_IIs, e_BBs, e_LLs, e_PPs, e_IIn, e_BBn, e_LLn, e_PPn, e_IIk, e_BBk, e_LLk, e_PPk, e_Ks, e_Ns, e_Is, e_Bs, e_Ls, e_Ps, e_Kn, e_Nn, e_In, e_Bn, e_Ln, e_Pn, if_true, if_false, and_self, or_true, true_or, not_false_eq_true, Bool.false_eq_true]; done) | (simp (disch := omega) only [w.2, e34, q, xn, cn, i_m2, x0, c0, h1', h2', a1, x1, c1, e_KI, e_NI, e_BI, e_LI, e_PI, e_KB, e_NB, e_IB, e_LB, e_PB, e_KL, e_NL, e_IL, e_BL, e_PL, e_KP, e_NP, e_IP, e_BP, e_LP, e_IIs, e_BBs, e_LLs, e_PPs, e_IIn, e_BBn, e_LLn, e_PPn, e_IIk, e_BBk, e_LLk, e_PPk, e_Ks, e_Ns, e_Is, e_Bs, e_Ls, e_Ps, e_Kn, e_Nn, e_In, e_Bn, e_Ln, e_Pn, if_true, if_false, and_self, or_true, true_or, not_false_eq_true, Bool.false_eq_true]; decide) | decide)))
    rw [nI_1]
    refine IH (s + 1) _ (by omega) (by omega) ((g.sI (by omega)).sI (by omega)) (fun i hi => ?_) (fun i hi => ?_) (fun i hi => ?_)
    · rw [e_IIn (by omega), e_IIn (by omega)]
      exact l i hi
    · rw [e_IIn (by omega), e_IIn (by omega)]
      exact lc i hi
    by_cases i1 : i = 2 * s + 1
    · rw [i1, e_IIs]; exact v1.symm
    rw [e_IIk i1]
    by_cases i0 : i = 2 * s
    · rw [i0, e_IIs]; exact v0.symm
    rw [e_IIk i0]
    exact ls i (by omega)
  subst en
  have q : nI s ≤ nI s := nI_le (Nat.le_refl _) (by omega)
  have e50 : y_I G 11 50 = nI A := (g.I (by omega)).trans eA
  (repeat (first | with_reducible apply wp_jn | ((with_reducible apply wp_be); · first | (simp (disch := omega) only [w.2, e34, q, e50, e_KI, e_NI, e_BI, e_LI, e_PI, e_KB, e_NB, e_IB, e_LB, e_PB, e_KL, e_NL, e_IL, e_BL, e_PL, e_KP, e_NP, e_IP, e_BP, e_LP, e_IIs, e_BBs, e_LLs, e_PPs, e_IIn, e_BBn, e_LLn, e_PPn, e_IIk, e_BBk, e_LLk, e_PPk, e_Ks, e_Ns, e_Is, e_Bs, e_Ls, e_Ps, e_Kn, e_Nn, e_In, e_Bn, e_Ln, e_Pn, if_true, if_false, and_self, or_true, true_or, not_false_eq_true, Bool.false_eq_true]; exact rfl) | exact rfl) | ((with_reducible apply wp_ce); · first | (simp (disch := omega) only [w.2, e34, q, e50, e_KI, e_NI, e_BI, e_LI, e_PI, e_KB, e_NB, e_IB, e_LB, e_PB, e_KL, e_NL, e_IL, e_BL, e_PL, e_KP, e_NP, e_IP, e_BP, e_LP, e_IIs, e_BBs, e_LLs, e_PPs, e_IIn, e_BBn, e_LLn, e_PPn, e_IIk, e_BBk, e_LLk, e_PPk, e_Ks, e_Ns, e_Is, e_Bs, e_Ls, e_Ps, e_Kn, e_Nn, e_In, e_Bn, e_Ln, e_Pn, if_true, if_false, and_self, or_true, true_or, not_false_eq_true, Bool.false_eq_true]; exact rfl) | exact rfl) | ((with_reducible apply wp_g); · first | (simp (disch := omega) only [w.2, e34, q, e50, e_KI, e_NI, e_BI, e_LI, e_PI, e_KB, e_NB, e_IB, e_LB, e_PB, e_KL, e_NL, e_IL, e_BL, e_PL, e_KP, e_NP, e_IP, e_BP, e_LP, e_IIs, e_BBs, e_LLs, e_PPs, e_IIn, e_BBn, e_LLn, e_PPn, e_IIk, e_BBk, e_LLk, e_PPk, e_Ks, e_Ns, e_Is, e_Bs, e_Ls, e_Ps, e_Kn, e_Nn, e_In, e_Bn, e_Ln, e_Pn, if_true, if_false, and_self, or_true, true_or, not_false_eq_true, Bool.false_eq_true]; done) | (simp (disch := omega) only [w.2, e34, q, e50, e_KI, e_NI, e_BI, e_LI, e_PI, e_KB, e_NB, e_IB, e_LB, e_PB, e_KL, e_NL, e_IL, e_BL, e_PL, e_KP, e_NP, e_IP, e_BP, e_LP, e_IIs, e_BBs, e_LLs, e_PPs, e_IIn, e_BBn, e_LLn, e_PPn, e_IIk, e_BBk, e_LLk, e_PPk, e_Ks, e_Ns, e_Is, e_Bs, e_Ls, e_Ps, e_Kn, e_Nn, e_In, e_Bn, e_Ln, e_Pn, if_true, if_false, and_self, or_true, true_or, not_false_eq_true, Bool.false_eq_true]; decide) | decide) | ((with_reducible apply wp_pos); · first | (simp (disch := omega) only [w.2, e34, q, e50, e_KI, e_NI, e_BI, e_LI, e_PI, e_KB, e_NB, e_IB, e_LB, e_PB, e_KL, e_NL, e_IL, e_BL, e_PL, e_KP, e_NP, e_IP, e_BP, e_LP, e_IIs, e_BBs, e_LLs, e_PPs, e_IIn, e_BBn, e_LLn, e_PPn, e_IIk, e_BBk, e_LLk, e_PPk, e_Ks, e_Ns, e_Is, e_Bs, e_Ls, e_Ps, e_Kn, e_Nn, e_In, e_Bn, e_Ln, e_Pn, if_true, if_false, and_self, or_true, true_or, not_false_eq_true, Bool.false_eq_true]; done) | (simp (disch := omega) only [w.2, e34, q, e50, e_KI, e_NI, e_BI, e_LI, e_PI, e_KB, e_NB, e_IB, e_LB, e_PB, e_KL, e_NL, e_IL, e_BL, e_PL, e_KP, e_NP, e_IP, e_BP, e_LP, e_IIs, e_BBs, e_LLs, e_PPs, e_IIn, e_BBn, e_LLn, e_PPn, e_IIk, e_BBk, e_LLk, e_PPk, e_Ks, e_Ns, e_Is, e_Bs, e_Ls, e_Ps, e_Kn, e_Nn, e_In, e_Bn, e_Ln, e_Pn, if_true, if_false, and_self, or_true, true_or, not_false_eq_true, Bool.false_eq_true]; decide) | decide) | ((with_reducible apply wp_neg); · first | (simp (disch := omega) only [w.2, e34, q, e50, e_KI, e_NI, e_BI, e_LI, e_PI, e_KB, e_NB, e_IB, e_LB, e_PB, e_KL, e_NL, e_IL, e_BL, e_PL, e_KP, e_NP, e_IP, e_BP, e_LP, e_IIs, e_BBs, e_LLs, e_PPs, e_IIn, e_BBn, e_LLn, e_PPn, e_IIk, e_BBk, e_LLk, e_PPk, e_Ks, e_Ns, e_Is, e_Bs, e_Ls, e_Ps, e_Kn, e_Nn, e_In, e_Bn, e_Ln, e_Pn, if_true, if_false, and_self, or_true, true_or, not_false_eq_true, Bool.false_eq_true]; done) | (simp (disch := omega) only [w.2, e34, q, e50, e_KI, e_NI, e_BI, e_LI, e_PI, e_KB, e_NB, e_IB, e_LB, e_PB, e_KL, e_NL, e_IL, e_BL, e_PL, e_KP, e_NP, e_IP, e_BP, e_LP, e_IIs, e_BBs, e_LLs, e_PPs, e_IIn, e_BBn, e_LLn, e_PPn, e_IIk, e_BBk, e_LLk, e_PPk, e_Ks, e_Ns, e_Is, e_Bs, e_Ls, e_Ps, e_Kn, e_Nn, e_In, e_Bn, e_Ln, e_Pn, if_true, if_false, and_self, or_true, true_or, not_false_eq_true, Bool.false_eq_true]; decide) | decide)))
  clear IH
  -- the acts, one after the other
  refine wp_jl (fun m j => ∀ q G, q ≤ r → r - q < m → ag (fun a _ => a = 4130 ∨ a = 4194 ∨ a = 4258) (fun _ => False) h G → (∀ i, i < 5 * n → y_I G 4130 i = vBk h A q i) → (∀ i, i < 3 * c → y_I G 4194 i = vCk h A q i) → (∀ i, i < 2 * s → y_I G 4258 i = vSk h A q i) → wp (j 11 (nI r) (nI (A - q) - 1) G) Q) (fun n _ _ z => absurd z (by omega)) (fun m j IH q9 G hq hm g l lc ls => ?_) (fun j IH => by rw [e50]; exact IH 0 G (by omega) (by unfold y_fu; omega) g l lc ls)
  have w : Sh G := (Sh_ag g (by intro a k q; (simp only [FSh] at q ⊢) <;> omega) (by intro a q; (simp only [GSh, not_false_eq_true] at q ⊢) <;> omega) W)
  have e50 : y_I G 11 50 = nI A := (g.I (by omega)).trans eA
  have eAr : nI A - nI r = nI (A - r) := i_sub hr
  by_cases eq : q9 = r
  · subst eq
    have q1 : nI (A - q9) - 1 < nI (A - q9) := by
      cases hz : A - q9 with
      | zero => decide
      | succ x =>
        rw [nI_pred]
        exact (nI_ltI (by omega) (by omega)).mpr (by omega)
    (repeat (first | with_reducible apply wp_jn | ((with_reducible apply wp_be); · first | (simp (disch := omega) only [w.2, e50, eAr, q1, e_KI, e_NI, e_BI, e_LI, e_PI, e_KB, e_NB, e_IB, e_LB, e_PB, e_KL, e_NL, e_IL, e_BL, e_PL, e_KP, e_NP, e_IP, e_BP, e_LP, e_IIs, e_BBs, e_LLs, e_PPs, e_IIn, e_BBn, e_LLn, e_PPn, e_IIk, e_BBk, e_LLk, e_PPk, e_Ks, e_Ns, e_Is, e_Bs, e_Ls, e_Ps, e_Kn, e_Nn, e_In, e_Bn, e_Ln, e_Pn, if_true, if_false, and_self, or_true, true_or, not_false_eq_true, Bool.false_eq_true]; exact rfl) | exact rfl) | ((with_reducible apply wp_ce); · first | (simp (disch := omega) only [w.2, e50, eAr, q1, e_KI, e_NI, e_BI, e_LI, e_PI, e_KB, e_NB, e_IB, e_LB, e_PB, e_KL, e_NL, e_IL, e_BL, e_PL, e_KP, e_NP, e_IP, e_BP, e_LP, e_IIs, e_BBs, e_LLs, e_PPs, e_IIn, e_BBn, e_LLn, e_PPn, e_IIk, e_BBk, e_LLk, e_PPk, e_Ks, e_Ns, e_Is, e_Bs, e_Ls, e_Ps, e_Kn, e_Nn, e_In, e_Bn, e_Ln, e_Pn, if_true, if_false, and_self, or_true, true_or, not_false_eq_true, Bool.false_eq_true]; exact rfl) | exact rfl) | ((with_reducible apply wp_g); · first | (simp (disch := omega) only [w.2, e50, eAr, q1, e_KI, e_NI, e_BI, e_LI, e_PI, e_KB, e_NB, e_IB, e_LB, e_PB, e_KL, e_NL, e_IL, e_BL, e_PL, e_KP, e_NP, e_IP, e_BP, e_LP, e_IIs, e_BBs, e_LLs, e_PPs, e_IIn, e_BBn, e_LLn, e_PPn, e_IIk, e_BBk, e_LLk, e_PPk, e_Ks, e_Ns, e_Is, e_Bs, e_Ls, e_Ps, e_Kn, e_Nn, e_In, e_Bn, e_Ln, e_Pn, if_true, if_false, and_self, or_true, true_or, not_false_eq_true, Bool.false_eq_true]; done) | (simp (disch := omega) only [w.2, e50, eAr, q1, e_KI, e_NI, e_BI, e_LI, e_PI, e_KB, e_NB, e_IB, e_LB, e_PB, e_KL, e_NL, e_IL, e_BL, e_PL, e_KP, e_NP, e_IP, e_BP, e_LP, e_IIs, e_BBs, e_LLs, e_PPs, e_IIn, e_BBn, e_LLn, e_PPn, e_IIk, e_BBk, e_LLk, e_PPk, e_Ks, e_Ns, e_Is, e_Bs, e_Ls, e_Ps, e_Kn, e_Nn, e_In, e_Bn, e_Ln, e_Pn, if_true, if_false, and_self, or_true, true_or, not_false_eq_true, Bool.false_eq_true]; decide) | decide) | ((with_reducible apply wp_pos); · first | (simp (disch := omega) only [w.2, e50, eAr, q1, e_KI, e_NI, e_BI, e_LI, e_PI, e_KB, e_NB, e_IB, e_LB, e_PB, e_KL, e_NL, e_IL, e_BL, e_PL, e_KP, e_NP, e_IP, e_BP, e_LP, e_IIs, e_BBs, e_LLs, e_PPs, e_IIn, e_BBn, e_LLn, e_PPn, e_IIk, e_BBk, e_LLk, e_PPk, e_Ks, e_Ns, e_Is, e_Bs, e_Ls, e_Ps, e_Kn, e_Nn, e_In, e_Bn, e_Ln, e_Pn, if_true, if_false, and_self, or_true, true_or, not_false_eq_true, Bool.false_eq_true]; done) | (simp (disch := omega) only [w.2, e50, eAr, q1, e_KI, e_NI, e_BI, e_LI, e_PI, e_KB, e_NB, e_IB, e_LB, e_PB, e_KL, e_NL, e_IL, e_BL, e_PL, e_KP, e_NP, e_IP, e_BP, e_LP, e_IIs, e_BBs, e_LLs, e_PPs, e_IIn, e_BBn, e_LLn, e_PPn, e_IIk, e_BBk, e_LLk, e_PPk, e_Ks, e_Ns, e_Is, e_Bs, e_Ls, e_Ps, e_Kn, e_Nn, e_In, e_Bn, e_Ln, e_Pn, if_true, if_false, and_self, or_true, true_or, not_false_eq_true, Bool.false_eq_true]; decide) | decide) | ((with_reducible apply wp_neg); · first | (simp (disch := omega) only [w.2, e50, eAr, q1, e_KI, e_NI, e_BI, e_LI, e_PI, e_KB, e_NB, e_IB, e_LB, e_PB, e_KL, e_NL, e_IL, e_BL, e_PL, e_KP, e_NP, e_IP, e_BP, e_LP, e_IIs, e_BBs, e_LLs, e_PPs, e_IIn, e_BBn, e_LLn, e_PPn, e_IIk, e_BBk, e_LLk, e_PPk, e_Ks, e_Ns, e_Is, e_Bs, e_Ls, e_Ps, e_Kn, e_Nn, e_In, e_Bn, e_Ln, e_Pn, if_true, if_false, and_self, or_true, true_or, not_false_eq_true, Bool.false_eq_true]; done) | (simp (disch := omega) only [w.2, e50, eAr, q1, e_KI, e_NI, e_BI, e_LI, e_PI, e_KB, e_NB, e_IB, e_LB, e_PB, e_KL, e_NL, e_IL, e_BL, e_PL, e_KP, e_NP, e_IP, e_BP, e_LP, e_IIs, e_BBs, e_LLs, e_PPs, e_IIn, e_BBn, e_LLn, e_PPn, e_IIk, e_BBk, e_LLk, e_PPk, e_Ks, e_Ns, e_Is, e_Bs, e_Ls, e_Ps, e_Kn, e_Nn, e_In, e_Bn, e_Ln, e_Pn, if_true, if_false, and_self, or_true, true_or, not_false_eq_true, Bool.false_eq_true]; decide) | decide)))
    clear IH
    have e0 : y_I G 11 0 = nI n := (g.I (by omega)).trans eN
    have e25 : y_I G 11 25 = nI c := (g.I (by omega)).trans eC
    have e34 : y_I G 11 34 = nI s := (g.I (by omega)).trans eS
    refine wp_jl (fun m j => ∀ i, i ≤ 5 * n → 5 * n - i < m → wp (j 11 (fo (vBk h A q9) 17 i) (nI i) G) Q) (fun i _ z => absurd z (by omega)) (fun m j IH i hi hm => ?_) (fun j IH => IH 0 (by omega) (by unfold y_fu; omega))
    by_cases e5 : i = 5 * n
    rotate_left
    · have q2 : ¬ nI (5 * n) ≤ nI i := nI_ge (by omega) (by omega)
      have xi := i_ix (show i < 400 by omega) (by decide)
      have ci := i_cl (show i < 2 ^ 31 by omega)
      simp only [w.2, e0, i_m5, q2, if_true, if_false, xi, ci, and_self, l i (by omega), m_mixed, e_cl, nI_1]
      exact IH (i + 1) (by omega) (by omega)
    subst e5
    have q2 : nI (5 * n) ≤ nI (5 * n) := nI_le (Nat.le_refl _) (by omega)
    simp only [w.2, e0, i_m5, q2, if_true]
    clear IH
    refine wp_jl (fun m j => ∀ i, i ≤ 3 * c → 3 * c - i < m → wp (j 11 (fo (vCk h A q9) (fo (vBk h A q9) 17 (5 * n)) i) (nI i) G) Q) (fun i _ z => absurd z (by omega)) (fun m j IH i hi hm => ?_) (fun j IH => IH 0 (by omega) (by unfold y_fu; omega))
    by_cases e5 : i = 3 * c
    rotate_left
    · have q2 : ¬ nI (3 * c) ≤ nI i := nI_ge (by omega) (by omega)
      have xi := i_ix (show i < 36 by omega) (by decide)
      have ci := i_cl (show i < 2 ^ 31 by omega)
      simp only [w.2, e25, i_m3, q2, if_true, if_false, xi, ci, and_self, lc i (by omega), m_mixed, e_cl, nI_1]
      exact IH (i + 1) (by omega) (by omega)
    subst e5
    have q2 : nI (3 * c) ≤ nI (3 * c) := nI_le (Nat.le_refl _) (by omega)
    simp only [w.2, e25, i_m3, q2, if_true]
    clear IH
    refine wp_jl (fun m j => ∀ i, i ≤ 2 * s → 2 * s - i < m → wp (j 11 (fo (vSk h A q9) (fo (vCk h A q9) (fo (vBk h A q9) 17 (5 * n)) (3 * c)) i) (nI i) G) Q) (fun i _ z => absurd z (by omega)) (fun m j IH i hi hm => ?_) (fun j IH => IH 0 (by omega) (by unfold y_fu; omega))
    by_cases e5 : i = 2 * s
    rotate_left
    · have q2 : ¬ nI (2 * s) ≤ nI i := nI_ge (by omega) (by omega)
      have xi := i_ix (show i < 6 by omega) (by decide)
      have ci := i_cl (show i < 2 ^ 31 by omega)
      simp only [w.2, e34, i_m2, q2, if_true, if_false, xi, ci, and_self, ls i (by omega), m_mixed, e_cl, nI_1]
      exact IH (i + 1) (by omega) (by omega)
    subst e5
    have q2 : nI (2 * s) ≤ nI (2 * s) := nI_le (Nat.le_refl _) (by omega)
    simp only [w.2, e34, i_m2, q2, if_true, wp_some]
    exact hQ G g
  -- one act more
  obtain ⟨k, ek⟩ : ∃ k, A - (q9 + 1) = k := ⟨_, rfl⟩
  have ek1 : A - q9 = k + 1 := by omega
  have hk : k < A := by omega
  obtain ⟨onB, onC, onS⟩ := hon k hk
  rw [ek1, nI_pred]
  have q1 : ¬ nI k < nI (A - r) := nI_nlt (by omega) (by omega)
  have e14 : (14 : Int32) * nI k = nI (14 * k) := i_m14 k
  have ad : ∀ x y : Nat, nI (14 * k + x) + nI y = nI (14 * k + x + y) := fun x y => i_add _ _
  have kx : ∀ x, x < 14 → y_ix (nI (14 * k + x)) 854 = true := fun x hx => i_ix (by omega) (by decide)
  have kc : ∀ x, x < 14 → (nI (14 * k + x)).toNatClampNeg = 14 * k + x := fun x hx => i_cl (by omega)
  have k5 : nI (14 * k) + 5 = nI (14 * k + 5) := i_add _ 5
  have k6 : nI (14 * k) + 6 = nI (14 * k + 6) := i_add _ 6
  have k10 : nI (14 * k) + 10 = nI (14 * k + 10) := i_add _ 10
  have k1 : nI (14 * k) + 1 = nI (14 * k + 1) := i_add _ 1
  have k2 : nI (14 * k) + 2 = nI (14 * k + 2) := i_add _ 2
  have k11 : nI (14 * k) + 11 = nI (14 * k + 11) := i_add _ 11
  have k12 : nI (14 * k) + 12 = nI (14 * k + 12) := i_add _ 12
  have gk : ∀ G', ag (fun a _ => a = 4130 ∨ a = 4194 ∨ a = 4258) (fun _ => False) h G' → ∀ x, y_I G' 2722 x = y_I h 2722 x := fun G' g' x => g'.I (by omega)
  have kx5 := kx 5 (by omega)
  have kc5 := kc 5 (by omega)
  have e51 : y_P G 11 51 = 2722 := by simp only [w.2]
  (repeat (first | with_reducible apply wp_jn | ((with_reducible apply wp_be); · first | (simp (disch := omega) only [w.2, e50, eAr, q1, e14, k5, kx5, kc5, e_KI, e_NI, e_BI, e_LI, e_PI, e_KB, e_NB, e_IB, e_LB, e_PB, e_KL, e_NL, e_IL, e_BL, e_PL, e_KP, e_NP, e_IP, e_BP, e_LP, e_IIs, e_BBs, e_LLs, e_PPs, e_IIn, e_BBn, e_LLn, e_PPn, e_IIk, e_BBk, e_LLk, e_PPk, e_Ks, e_Ns, e_Is, e_Bs, e_Ls, e_Ps, e_Kn, e_Nn, e_In, e_Bn, e_Ln, e_Pn, if_true, if_false, and_self, or_true, true_or, not_false_eq_true, Bool.false_eq_true]; exact rfl) | exact rfl) | ((with_reducible apply wp_ce); · first | (simp (disch := omega) only [w.2, e50, eAr, q1, e14, k5, kx5, kc5, e_KI, e_NI, e_BI, e_LI, e_PI, e_KB, e_NB, e_IB, e_LB, e_PB, e_KL, e_NL, e_IL, e_BL, e_PL, e_KP, e_NP, e_IP, e_BP, e_LP, e_IIs, e_BBs, e_LLs, e_PPs, e_IIn, e_BBn, e_LLn, e_PPn, e_IIk, e_BBk, e_LLk, e_PPk, e_Ks, e_Ns, e_Is, e_Bs, e_Ls, e_Ps, e_Kn, e_Nn, e_In, e_Bn, e_Ln, e_Pn, if_true, if_false, and_self, or_true, true_or, not_false_eq_true, Bool.false_eq_true]; exact rfl) | exact rfl) | ((with_reducible apply wp_g); · first | (simp (disch := omega) only [w.2, e50, eAr, q1, e14, k5, kx5, kc5, e_KI, e_NI, e_BI, e_LI, e_PI, e_KB, e_NB, e_IB, e_LB, e_PB, e_KL, e_NL, e_IL, e_BL, e_PL, e_KP, e_NP, e_IP, e_BP, e_LP, e_IIs, e_BBs, e_LLs, e_PPs, e_IIn, e_BBn, e_LLn, e_PPn, e_IIk, e_BBk, e_LLk, e_PPk, e_Ks, e_Ns, e_Is, e_Bs, e_Ls, e_Ps, e_Kn, e_Nn, e_In, e_Bn, e_Ln, e_Pn, if_true, if_false, and_self, or_true, true_or, not_false_eq_true, Bool.false_eq_true]; done) | (simp (disch := omega) only [w.2, e50, eAr, q1, e14, k5, kx5, kc5, e_KI, e_NI, e_BI, e_LI, e_PI, e_KB, e_NB, e_IB, e_LB, e_PB, e_KL, e_NL, e_IL, e_BL, e_PL, e_KP, e_NP, e_IP, e_BP, e_LP, e_IIs, e_BBs, e_LLs, e_PPs, e_IIn, e_BBn, e_LLn, e_PPn, e_IIk, e_BBk, e_LLk, e_PPk, e_Ks, e_Ns, e_Is, e_Bs, e_Ls, e_Ps, e_Kn, e_Nn, e_In, e_Bn, e_Ln, e_Pn, if_true, if_false, and_self, or_true, true_or, not_false_eq_true, Bool.false_eq_true]; decide) | decide) | ((with_reducible apply wp_pos); · first | (simp (disch := omega) only [w.2, e50, eAr, q1, e14, k5, kx5, kc5, e_KI, e_NI, e_BI, e_LI, e_PI, e_KB, e_NB, e_IB, e_LB, e_PB, e_KL, e_NL, e_IL, e_BL, e_PL, e_KP, e_NP, e_IP, e_BP, e_LP, e_IIs, e_BBs, e_LLs, e_PPs, e_IIn, e_BBn, e_LLn, e_PPn, e_IIk, e_BBk, e_LLk, e_PPk, e_Ks, e_Ns, e_Is, e_Bs, e_Ls, e_Ps, e_Kn, e_Nn, e_In, e_Bn, e_Ln, e_Pn, if_true, if_false, and_self, or_true, true_or, not_false_eq_true, Bool.false_eq_true]; done) | (simp (disch := omega) only [w.2, e50, eAr, q1, e14, k5, kx5, kc5, e_KI, e_NI, e_BI, e_LI, e_PI, e_KB, e_NB, e_IB, e_LB, e_PB, e_KL, e_NL, e_IL, e_BL, e_PL, e_KP, e_NP, e_IP, e_BP, e_LP, e_IIs, e_BBs, e_LLs, e_PPs, e_IIn, e_BBn, e_LLn, e_PPn, e_IIk, e_BBk, e_LLk, e_PPk, e_Ks, e_Ns, e_Is, e_Bs, e_Ls, e_Ps, e_Kn, e_Nn, e_In, e_Bn, e_Ln, e_Pn, if_true, if_false, and_self, or_true, true_or, not_false_eq_true, Bool.false_eq_true]; decide) | decide) | ((with_reducible apply wp_neg); · first | (simp (disch := omega) only [w.2, e50, eAr, q1, e14, k5, kx5, kc5, e_KI, e_NI, e_BI, e_LI, e_PI, e_KB, e_NB, e_IB, e_LB, e_PB, e_KL, e_NL, e_IL, e_BL, e_PL, e_KP, e_NP, e_IP, e_BP, e_LP, e_IIs, e_BBs, e_LLs, e_PPs, e_IIn, e_BBn, e_LLn, e_PPn, e_IIk, e_BBk, e_LLk, e_PPk, e_Ks, e_Ns, e_Is, e_Bs, e_Ls, e_Ps, e_Kn, e_Nn, e_In, e_Bn, e_Ln, e_Pn, if_true, if_false, and_self, or_true, true_or, not_false_eq_true, Bool.false_eq_true]; done) | (simp (disch := omega) only [w.2, e50, eAr, q1, e14, k5, kx5, kc5, e_KI, e_NI, e_BI, e_LI, e_PI, e_KB, e_NB, e_IB, e_LB, e_PB, e_KL, e_NL, e_IL, e_BL, e_PL, e_KP, e_NP, e_IP, e_BP, e_LP, e_IIs, e_BBs, e_LLs, e_PPs, e_IIn, e_BBn, e_LLn, e_PPn, e_IIk, e_BBk, e_LLk, e_PPk, e_Ks, e_Ns, e_Is, e_Bs, e_Ls, e_Ps, e_Kn, e_Nn, e_In, e_Bn, e_Ln, e_Pn, if_true, if_false, and_self, or_true, true_or, not_false_eq_true, Bool.false_eq_true]; decide) | decide)))
  refine wp_jl (fun m2 j2 => ∀ x G2, x ≤ 4 → 4 - x < m2 → (y_I h 2722 (14 * k + 5) < 0 → x = 0) → ag (fun a _ => a = 4130 ∨ a = 4194 ∨ a = 4258) (fun _ => False) h G2 → (∀ i, i < 5 * n → y_I G2 4130 i = if y_I h 2722 (14 * k + 5) = nI (i / 5) ∧ i % 5 < x then y_I h 2722 (14 * k + 6 + i % 5) else vBk h A q9 i) → (∀ i, i < 3 * c → y_I G2 4194 i = vCk h A q9 i) → (∀ i, i < 2 * s → y_I G2 4258 i = vSk h A q9 i) → wp (j2 11 (nI r) (nI k) (nI (14 * k)) (y_I h 2722 (14 * k + 5)) (nI x) G2) Q) (fun x _ _ z => absurd z (by omega)) (fun m2 j2 IH2 x G2 hx hm2 hneg g2 l2 lc2 ls2 => ?_) (fun j2 IH2 => by rw [e14, k5, e51, kc5, gk G g]; exact IH2 0 G (by omega) (by unfold y_fu; omega) (fun _ => rfl) g (fun i hi => by rw [if_neg (by omega)]; exact l i hi) lc ls)
  have w2 : Sh G2 := (Sh_ag g2 (by intro a k q; (simp only [FSh] at q ⊢) <;> omega) (by intro a q; (simp only [GSh, not_false_eq_true] at q ⊢) <;> omega) W)
  -- behind the box
  refine wp_jc (fun j3 Q3 => (y_I h 2722 (14 * k + 5) < 0 ∨ x = 4) → wp (j3 11 (nI r) (nI k) (nI (14 * k)) (y_I h 2722 (14 * k + 5)) G2) Q3) (fun hx4 => ?_) (fun j3 hj3 => ?_)
  rotate_left
  · -- one number more of the box
    by_cases ex : x = 4
    · have q4 : (4 : Int32) ≤ nI x := by rw [ex]; decide
      simp only [q4, if_true]
      exact hj3 (Or.inr ex)
    · have q4 : ¬ (4 : Int32) ≤ nI x := nI_ge (a := x) (b := 4) (by omega) (by decide)
      rcases onB with ob | ⟨nb, hnb, ob⟩
      · have ng : y_I h 2722 (14 * k + 5) < 0 := by rw [ob]; decide
        simp only [q4, if_false, ng, if_true]
        exact hj3 (Or.inl ng)
      · have ng : ¬ y_I h 2722 (14 * k + 5) < 0 := by rw [ob, i_n0 (by omega)]; exact fun q => q
        have e6x : nI (14 * k + 6) + nI x = nI (14 * k + (6 + x)) := by rw [i_add, Nat.add_assoc]
        have e5x : (5 : Int32) * nI nb + nI x = nI (5 * nb + x) := by rw [i_m5, i_add]
        have xb := i_ix (show 5 * nb + x < 400 by omega) (by decide)
        have cb := i_cl (show 5 * nb + x < 2 ^ 31 by omega)
        rw [ob] at ng l2 IH2 ⊢
        have IHx := IH2 (x + 1) (s_I G2 4130 (5 * nb + x) (y_I h 2722 (14 * k + (6 + x)))) (by omega) (by omega) (fun z => absurd z ng) (g2.sI (Or.inl rfl)) (fun i hi => ?_) (fun i hi => ?_) (fun i hi => ?_)
        · simp only [q4, if_false, ng, w2.2, if_true, k6, e6x, kx (6 + x) (by omega), kc (6 + x) (by omega), and_self, e5x, xb, cb, gk G2 g2, e_bd, nI_1]
          exact IHx
        · by_cases ei : i = 5 * nb + x
          · rw [ei, e_IIs, if_pos ⟨by rw [show (5 * nb + x) / 5 = nb by omega], by omega⟩, show (5 * nb + x) % 5 = x by omega, Nat.add_assoc]
          · rw [e_IIk ei, l2 i hi]
            by_cases c1 : nI nb = nI (i / 5) ∧ i % 5 < x
            · rw [if_pos c1, if_pos ⟨c1.1, by omega⟩]
            · rw [if_neg c1, if_neg (fun z => c1 ⟨z.1, by
                have z1 := z.1
                rw [i_eq (by omega)] at z1
                omega⟩)]
        · rw [e_IIn (by omega)]
          exact lc2 i hi
        · rw [e_IIn (by omega)]
          exact ls2 i hi
  -- the box's weight, then crane and ship
  refine wp_jc (fun j4 Q4 => ∀ G4, ag (fun a _ => a = 4130 ∨ a = 4194 ∨ a = 4258) (fun _ => False) h G4 → (∀ i, i < 5 * n → y_I G4 4130 i = vBk h A (q9 + 1) i) → (∀ i, i < 3 * c → y_I G4 4194 i = vCk h A q9 i) → (∀ i, i < 2 * s → y_I G4 4258 i = vSk h A q9 i) → wp (j4 11 (nI r) (nI k) (nI (14 * k)) G4) Q4) (fun G4 g4 l4 lc4 ls4 => ?_) (fun j4 hj4 => ?_)
  rotate_left
  · rcases onB with ob | ⟨nb, hnb, ob⟩
    · have ng : y_I h 2722 (14 * k + 5) < 0 := by rw [ob]; decide
      simp only [ng, if_true]
      refine hj4 G2 g2 (fun i hi => ?_) lc2 ls2
      rw [l2 i hi, if_neg (fun z => by rw [hneg ng] at z; omega)]
      refine (vB_o ?_).symm
      rw [ek, ob, eq_comm, i_ne9 (by omega)]
      exact fun q => q
    · have ng : ¬ y_I h 2722 (14 * k + 5) < 0 := by rw [ob, i_n0 (by omega)]; exact fun q => q
      have hx4' : x = 4 := hx4.resolve_left ng
      have xn := i_ix (show nb < 80 by omega) (by decide)
      have cn := i_cl (show nb < 2 ^ 31 by omega)
      have e54 : (5 : Int32) * nI nb + 4 = nI (5 * nb + 4) := by rw [i_m5]; exact i_add _ 4
      have xb := i_ix (show 5 * nb + 4 < 400 by omega) (by decide)
      have cb := i_cl (show 5 * nb + 4 < 2 ^ 31 by omega)
      have z5 : y_I h 2722 (14 * (A - (q9 + 1)) + 5) = nI nb := by rw [ek]; exact ob
      have fin : ∀ v, v = (if y_I h 2722 (14 * k + 10) = 1 then y_I h 162 nb else y_I h 98 nb) → wp (j4 11 (nI r) (nI k) (nI (14 * k)) (s_I G2 4130 (5 * nb + 4) v)) Q := fun v hv => by
        refine hj4 _ (g2.sI (Or.inl rfl)) (fun i hi => ?_) (fun i hi => by rw [e_IIn (by omega)]; exact lc2 i hi) (fun i hi => by rw [e_IIn (by omega)]; exact ls2 i hi)
        by_cases ei : i = 5 * nb + 4
        · rw [ei, e_IIs, hv]
          have := vB_w (h := h) (A := A) (q := q9) z5
          rw [ek] at this
          exact this.symm
        · rw [e_IIk ei, l2 i hi, hx4', ob]
          by_cases c1 : nI nb = nI (i / 5)
          · have c2 := c1
            rw [i_eq (by omega)] at c2
            rw [if_pos ⟨c1, by omega⟩]
            have z := vB_i (h := h) (A := A) (q := q9) (k := k) (x := i % 5) z5 (by omega)
            rw [ek, show 5 * nb + i % 5 = i by omega] at z
            exact z.symm
          · rw [if_neg (fun z => c1 z.1)]
            refine (vB_o ?_).symm
            rw [z5]
            exact c1
      rw [ob] at ng ⊢
      have f3 : y_I G2 162 nb = y_I h 162 nb := g2.I (by omega)
      have f2 : y_I G2 98 nb = y_I h 98 nb := g2.I (by omega)
      by_cases w10 : y_I h 2722 (14 * k + 10) = 1
      · have z := fin (y_I h 162 nb) (by rw [if_pos w10])
        simp only [ng, if_false, w2.2, if_true, k10, kx 10 (by omega), kc 10 (by omega), and_self, gk G2 g2, w10, xn, cn, e54, xb, cb, f3, e_bd]
        exact z
      · have z := fin (y_I h 98 nb) (by rw [if_neg w10])
        simp only [ng, if_false, w2.2, if_true, k10, kx 10 (by omega), kc 10 (by omega), and_self, gk G2 g2, w10, xn, cn, e54, xb, cb, f2, e_bd]
        exact z
  clear IH2
  refine wp_jl (fun m2 j2 => ∀ x G2, x ≤ 3 → 3 - x < m2 → (y_I h 2722 (14 * k + 1) < 0 → x = 0) → ag (fun a _ => a = 4130 ∨ a = 4194 ∨ a = 4258) (fun _ => False) h G2 → (∀ i, i < 5 * n → y_I G2 4130 i = vBk h A (q9 + 1) i) → (∀ i, i < 3 * c → y_I G2 4194 i = if y_I h 2722 (14 * k + 1) = nI (i / 3) ∧ i % 3 < x then y_I h 2722 (14 * k + 2 + i % 3) else vCk h A q9 i) → (∀ i, i < 2 * s → y_I G2 4258 i = vSk h A q9 i) → wp (j2 11 (nI r) (nI k) (nI (14 * k)) (nI x) G2) Q) (fun x _ _ z => absurd z (by omega)) (fun m2 j2 IH2 x G2 hx hm2 hneg g2 l2 lc2 ls2 => ?_) (fun j2 IH2 => IH2 0 G4 (by omega) (by unfold y_fu; omega) (fun _ => rfl) g4 l4 (fun i hi => by rw [if_neg (by omega)]; exact lc4 i hi) ls4)
  have w2 : Sh G2 := (Sh_ag g2 (by intro a k q; (simp only [FSh] at q ⊢) <;> omega) (by intro a q; (simp only [GSh, not_false_eq_true] at q ⊢) <;> omega) W)
  refine wp_jc (fun j3 Q3 => (y_I h 2722 (14 * k + 1) < 0 ∨ x = 3) → wp (j3 11 (nI r) (nI k) (nI (14 * k)) G2) Q3) (fun hx4 => ?_) (fun j3 hj3 => ?_)
  rotate_left
  · by_cases ex : x = 3
    · have q4 : (3 : Int32) ≤ nI x := by rw [ex]; decide
      simp only [q4, if_true]
      exact hj3 (Or.inr ex)
    · have q4 : ¬ (3 : Int32) ≤ nI x := nI_ge (a := x) (b := 3) (by omega) (by decide)
      rcases onC with ob | ⟨nb, hnb, ob⟩
      · have ng : y_I h 2722 (14 * k + 1) < 0 := by rw [ob]; decide
        simp only [q4, if_false, w2.2, if_true, k1, kx 1 (by omega), kc 1 (by omega), and_self, gk G2 g2, ng]
        exact hj3 (Or.inl ng)
      · have ng : ¬ nI nb < 0 := by rw [i_n0 (by omega)]; exact fun q => q
        have e6x : nI (14 * k + 2) + nI x = nI (14 * k + (2 + x)) := by rw [i_add, Nat.add_assoc]
        have e5x : (3 : Int32) * nI nb + nI x = nI (3 * nb + x) := by rw [i_m3, i_add]
        have xb := i_ix (show 3 * nb + x < 36 by omega) (by decide)
        have cb := i_cl (show 3 * nb + x < 2 ^ 31 by omega)
        rw [ob] at lc2 IH2
        have IHx := IH2 (x + 1) (s_I G2 4194 (3 * nb + x) (y_I h 2722 (14 * k + (2 + x)))) (by omega) (by omega) (fun z => absurd z ng) (g2.sI (Or.inr (Or.inl rfl))) (fun i hi => ?_) (fun i hi => ?_) (fun i hi => ?_)
        · simp only [q4, if_false, w2.2, if_true, k1, kx 1 (by omega), kc 1 (by omega), and_self, gk G2 g2, ob, ng, k2, e6x, kx (2 + x) (by omega), kc (2 + x) (by omega), e5x, xb, cb, e_bd, nI_1]
          exact IHx
        · rw [e_IIn (by omega)]
          exact l2 i hi
        · by_cases ei : i = 3 * nb + x
          · rw [ei, e_IIs, if_pos ⟨by rw [show (3 * nb + x) / 3 = nb by omega], by omega⟩, show (3 * nb + x) % 3 = x by omega, Nat.add_assoc]
          · rw [e_IIk ei, lc2 i hi]
            by_cases c1 : nI nb = nI (i / 3) ∧ i % 3 < x
            · rw [if_pos c1, if_pos ⟨c1.1, by omega⟩]
            · rw [if_neg c1, if_neg (fun z => c1 ⟨z.1, by
                have z1 := z.1
                rw [i_eq (by omega)] at z1
                omega⟩)]
        · rw [e_IIn (by omega)]
          exact ls2 i hi
  have lc3 : ∀ i, i < 3 * c → y_I G2 4194 i = vCk h A (q9 + 1) i := fun i hi => by
    rw [lc2 i hi]
    rcases onC with ob | ⟨nb, hnb, ob⟩
    · have ng : y_I h 2722 (14 * k + 1) < 0 := by rw [ob]; decide
      rw [if_neg (fun z => by rw [hneg ng] at z; omega)]
      refine (vC_o ?_).symm
      rw [ek, ob, eq_comm, i_ne9 (by omega)]
      exact fun q => q
    · have ng : ¬ y_I h 2722 (14 * k + 1) < 0 := by rw [ob, i_n0 (by omega)]; exact fun q => q
      have hx4' : x = 3 := hx4.resolve_left ng
      have z5 : y_I h 2722 (14 * (A - (q9 + 1)) + 1) = nI nb := by rw [ek]; exact ob
      rw [hx4', ob]
      by_cases c1 : nI nb = nI (i / 3)
      · have c2 := c1
        rw [i_eq (by omega)] at c2
        rw [if_pos ⟨c1, by omega⟩]
        have z := vC_i (h := h) (A := A) (q := q9) (x := i % 3) z5 (by omega)
        rw [ek, show 3 * nb + i % 3 = i by omega] at z
        exact z.symm
      · rw [if_neg (fun z => c1 z.1)]
        refine (vC_o ?_).symm
        rw [z5]
        exact c1
  clear IH2
  refine wp_jl (fun m2 j2 => ∀ x G5, x ≤ 2 → 2 - x < m2 → (y_I h 2722 (14 * k + 11) < 0 → x = 0) → ag (fun a _ => a = 4130 ∨ a = 4194 ∨ a = 4258) (fun _ => False) h G5 → (∀ i, i < 5 * n → y_I G5 4130 i = vBk h A (q9 + 1) i) → (∀ i, i < 3 * c → y_I G5 4194 i = vCk h A (q9 + 1) i) → (∀ i, i < 2 * s → y_I G5 4258 i = if y_I h 2722 (14 * k + 11) = nI (i / 2) ∧ i % 2 < x then y_I h 2722 (14 * k + 12 + i % 2) else vSk h A q9 i) → wp (j2 11 (nI r) (nI k) (nI (14 * k)) (nI x) G5) Q) (fun x _ _ z => absurd z (by omega)) (fun m2 j2 IH2 x G5 hx hm2 hneg g5 l5 lc5 ls5 => ?_) (fun j2 IH2 => IH2 0 G2 (by omega) (by unfold y_fu; omega) (fun _ => rfl) g2 l2 lc3 (fun i hi => by rw [if_neg (by omega)]; exact ls2 i hi))
  have w5 : Sh G5 := (Sh_ag g5 (by intro a k q; (simp only [FSh] at q ⊢) <;> omega) (by intro a q; (simp only [GSh, not_false_eq_true] at q ⊢) <;> omega) W)
  refine wp_jc (fun j3 Q3 => (y_I h 2722 (14 * k + 11) < 0 ∨ x = 2) → wp (j3 11 (nI r) (nI k) G5) Q3) (fun hx4 => ?_) (fun j3 hj3 => ?_)
  rotate_left
  · by_cases ex : x = 2
    · have q4 : (2 : Int32) ≤ nI x := by rw [ex]; decide
      simp only [q4, if_true]
      exact hj3 (Or.inr ex)
    · have q4 : ¬ (2 : Int32) ≤ nI x := nI_ge (a := x) (b := 2) (by omega) (by decide)
      rcases onS with ob | ⟨nb, hnb, ob⟩
      · have ng : y_I h 2722 (14 * k + 11) < 0 := by rw [ob]; decide
        simp only [q4, if_false, w5.2, if_true, k11, kx 11 (by omega), kc 11 (by omega), and_self, gk G5 g5, ng]
        exact hj3 (Or.inl ng)
      · have ng : ¬ nI nb < 0 := by rw [i_n0 (by omega)]; exact fun q => q
        have e6x : nI (14 * k + 12) + nI x = nI (14 * k + (12 + x)) := by rw [i_add, Nat.add_assoc]
        have e5x : (2 : Int32) * nI nb + nI x = nI (2 * nb + x) := by rw [i_m2, i_add]
        have xb := i_ix (show 2 * nb + x < 6 by omega) (by decide)
        have cb := i_cl (show 2 * nb + x < 2 ^ 31 by omega)
        rw [ob] at ls5 IH2
        have IHx := IH2 (x + 1) (s_I G5 4258 (2 * nb + x) (y_I h 2722 (14 * k + (12 + x)))) (by omega) (by omega) (fun z => absurd z ng) (g5.sI (Or.inr (Or.inr rfl))) (fun i hi => ?_) (fun i hi => ?_) (fun i hi => ?_)
        · simp only [q4, if_false, w5.2, if_true, k11, kx 11 (by omega), kc 11 (by omega), and_self, gk G5 g5, ob, ng, k12, e6x, kx (12 + x) (by omega), kc (12 + x) (by omega), e5x, xb, cb, e_bd, nI_1]
          exact IHx
        · rw [e_IIn (by omega)]
          exact l5 i hi
        · rw [e_IIn (by omega)]
          exact lc5 i hi
        · by_cases ei : i = 2 * nb + x
          · rw [ei, e_IIs, if_pos ⟨by rw [show (2 * nb + x) / 2 = nb by omega], by omega⟩, show (2 * nb + x) % 2 = x by omega, Nat.add_assoc]
          · rw [e_IIk ei, ls5 i hi]
            by_cases c1 : nI nb = nI (i / 2) ∧ i % 2 < x
            · rw [if_pos c1, if_pos ⟨c1.1, by omega⟩]
            · rw [if_neg c1, if_neg (fun z => c1 ⟨z.1, by
                have z1 := z.1
                rw [i_eq (by omega)] at z1
                omega⟩)]
  have dec : nI k + (-1) = nI (A - (q9 + 1)) - 1 := by rw [i_dec, ek]
  rw [dec]
  refine IH (q9 + 1) G5 (by omega) (by omega) g5 l5 lc5 (fun i hi => ?_)
  rw [ls5 i hi]
  rcases onS with ob | ⟨nb, hnb, ob⟩
  · have ng : y_I h 2722 (14 * k + 11) < 0 := by rw [ob]; decide
    rw [if_neg (fun z => by rw [hneg ng] at z; omega)]
    refine (vS_o ?_).symm
    rw [ek, ob, eq_comm, i_ne9 (by omega)]
    exact fun q => q
  · have ng : ¬ y_I h 2722 (14 * k + 11) < 0 := by rw [ob, i_n0 (by omega)]; exact fun q => q
    have hx4' : x = 2 := hx4.resolve_left ng
    have z5 : y_I h 2722 (14 * (A - (q9 + 1)) + 11) = nI nb := by rw [ek]; exact ob
    rw [hx4', ob]
    by_cases c1 : nI nb = nI (i / 2)
    · have c2 := c1
      rw [i_eq (by omega)] at c2
      rw [if_pos ⟨c1, by omega⟩]
      have z := vS_i (h := h) (A := A) (q := q9) (x := i % 2) z5 (by omega)
      rw [ek, show 2 * nb + i % 2 = i by omega] at z
      exact z.symm
    · rw [if_neg (fun z => c1 z.1)]
      refine (vS_o ?_).symm
      rw [z5]
      exact c1
theorem k_back (R : Rel h t e) (i : Int32) : Call (f_X11_back 10 i h) (f_X12_back 11 i) t e := by
  obtain ⟨N, C, S, A, R9⟩ := id R
  obtain ⟨W, rT, rM, rB, rC, rS, rV, rL, rJ, rP, rH, rD, rQ, rK⟩ := id R9
  obtain ⟨j1, j2, j3, o, ho, eo, hja, -⟩ := id rJ
  rcases i_rng (lo := 0) (hi := nI A) 0 A rfl rfl ⟨by decide, by omega⟩ i with ⟨r, -, hr, rfl, d1⟩ | ⟨d1, hno⟩
  rotate_left
  · refine Call.ro R (r := -1) (by unfold f_X11_back; (repeat (first | with_reducible apply ev_jn | ((with_reducible apply ev_bd); · first | (simp (disch := omega) only [W.1, j2, c_isWithin, d1, e_KI, e_NI, e_BI, e_LI, e_PI, e_KB, e_NB, e_IB, e_LB, e_PB, e_KL, e_NL, e_IL, e_BL, e_PL, e_KP, e_NP, e_IP, e_BP, e_LP, e_IIs, e_BBs, e_LLs, e_PPs, e_IIn, e_BBn, e_LLn, e_PPn, e_IIk, e_BBk, e_LLk, e_PPk, e_Ks, e_Ns, e_Is, e_Bs, e_Ls, e_Ps, e_Kn, e_Nn, e_In, e_Bn, e_Ln, e_Pn, if_true, if_false, and_self, or_true, true_or, not_false_eq_true, Bool.false_eq_true]; exact rfl) | exact rfl) | ((with_reducible apply ev_cl); · first | (simp (disch := omega) only [W.1, j2, c_isWithin, d1, e_KI, e_NI, e_BI, e_LI, e_PI, e_KB, e_NB, e_IB, e_LB, e_PB, e_KL, e_NL, e_IL, e_BL, e_PL, e_KP, e_NP, e_IP, e_BP, e_LP, e_IIs, e_BBs, e_LLs, e_PPs, e_IIn, e_BBn, e_LLn, e_PPn, e_IIk, e_BBk, e_LLk, e_PPk, e_Ks, e_Ns, e_Is, e_Bs, e_Ls, e_Ps, e_Kn, e_Nn, e_In, e_Bn, e_Ln, e_Pn, if_true, if_false, and_self, or_true, true_or, not_false_eq_true, Bool.false_eq_true]; exact rfl) | exact rfl) | ((with_reducible apply ev_g); · first | (simp (disch := omega) only [W.1, j2, c_isWithin, d1, e_KI, e_NI, e_BI, e_LI, e_PI, e_KB, e_NB, e_IB, e_LB, e_PB, e_KL, e_NL, e_IL, e_BL, e_PL, e_KP, e_NP, e_IP, e_BP, e_LP, e_IIs, e_BBs, e_LLs, e_PPs, e_IIn, e_BBn, e_LLn, e_PPn, e_IIk, e_BBk, e_LLk, e_PPk, e_Ks, e_Ns, e_Is, e_Bs, e_Ls, e_Ps, e_Kn, e_Nn, e_In, e_Bn, e_Ln, e_Pn, if_true, if_false, and_self, or_true, true_or, not_false_eq_true, Bool.false_eq_true]; done) | (simp (disch := omega) only [W.1, j2, c_isWithin, d1, e_KI, e_NI, e_BI, e_LI, e_PI, e_KB, e_NB, e_IB, e_LB, e_PB, e_KL, e_NL, e_IL, e_BL, e_PL, e_KP, e_NP, e_IP, e_BP, e_LP, e_IIs, e_BBs, e_LLs, e_PPs, e_IIn, e_BBn, e_LLn, e_PPn, e_IIk, e_BBk, e_LLk, e_PPk, e_Ks, e_Ns, e_Is, e_Bs, e_Ls, e_Ps, e_Kn, e_Nn, e_In, e_Bn, e_Ln, e_Pn, if_true, if_false, and_self, or_true, true_or, not_false_eq_true, Bool.false_eq_true]; decide) | decide) | ((with_reducible apply ev_t); · first | (simp (disch := omega) only [W.1, j2, c_isWithin, d1, e_KI, e_NI, e_BI, e_LI, e_PI, e_KB, e_NB, e_IB, e_LB, e_PB, e_KL, e_NL, e_IL, e_BL, e_PL, e_KP, e_NP, e_IP, e_BP, e_LP, e_IIs, e_BBs, e_LLs, e_PPs, e_IIn, e_BBn, e_LLn, e_PPn, e_IIk, e_BBk, e_LLk, e_PPk, e_Ks, e_Ns, e_Is, e_Bs, e_Ls, e_Ps, e_Kn, e_Nn, e_In, e_Bn, e_Ln, e_Pn, if_true, if_false, and_self, or_true, true_or, not_false_eq_true, Bool.false_eq_true]; done) | (simp (disch := omega) only [W.1, j2, c_isWithin, d1, e_KI, e_NI, e_BI, e_LI, e_PI, e_KB, e_NB, e_IB, e_LB, e_PB, e_KL, e_NL, e_IL, e_BL, e_PL, e_KP, e_NP, e_IP, e_BP, e_LP, e_IIs, e_BBs, e_LLs, e_PPs, e_IIn, e_BBn, e_LLn, e_PPn, e_IIk, e_BBk, e_LLk, e_PPk, e_Ks, e_Ns, e_Is, e_Bs, e_Ls, e_Ps, e_Kn, e_Nn, e_In, e_Bn, e_Ln, e_Pn, if_true, if_false, and_self, or_true, true_or, not_false_eq_true, Bool.false_eq_true]; decide) | decide) | ((with_reducible apply ev_f); · first | (simp (disch := omega) only [W.1, j2, c_isWithin, d1, e_KI, e_NI, e_BI, e_LI, e_PI, e_KB, e_NB, e_IB, e_LB, e_PB, e_KL, e_NL, e_IL, e_BL, e_PL, e_KP, e_NP, e_IP, e_BP, e_LP, e_IIs, e_BBs, e_LLs, e_PPs, e_IIn, e_BBn, e_LLn, e_PPn, e_IIk, e_BBk, e_LLk, e_PPk, e_Ks, e_Ns, e_Is, e_Bs, e_Ls, e_Ps, e_Kn, e_Nn, e_In, e_Bn, e_Ln, e_Pn, if_true, if_false, and_self, or_true, true_or, not_false_eq_true, Bool.false_eq_true]; done) | (simp (disch := omega) only [W.1, j2, c_isWithin, d1, e_KI, e_NI, e_BI, e_LI, e_PI, e_KB, e_NB, e_IB, e_LB, e_PB, e_KL, e_NL, e_IL, e_BL, e_PL, e_KP, e_NP, e_IP, e_BP, e_LP, e_IIs, e_BBs, e_LLs, e_PPs, e_IIn, e_BBn, e_LLn, e_PPn, e_IIk, e_BBk, e_LLk, e_PPk, e_Ks, e_Ns, e_Is, e_Bs, e_Ls, e_Ps, e_Kn, e_Nn, e_In, e_Bn, e_Ln, e_Pn, if_true, if_false, and_self, or_true, true_or, not_false_eq_true, Bool.false_eq_true]; decide) | decide) | ((with_reducible apply ev_s) <;> (first | (with_reducible rfl) | (simp (disch := omega) only [W.1, j2, c_isWithin, d1, e_KI, e_NI, e_BI, e_LI, e_PI, e_KB, e_NB, e_IB, e_LB, e_PB, e_KL, e_NL, e_IL, e_BL, e_PL, e_KP, e_NP, e_IP, e_BP, e_LP, e_IIs, e_BBs, e_LLs, e_PPs, e_IIn, e_BBn, e_LLn, e_PPn, e_IIk, e_BBk, e_LLk, e_PPk, e_Ks, e_Ns, e_Is, e_Bs, e_Ls, e_Ps, e_Kn, e_Nn, e_In, e_Bn, e_Ln, e_Pn, if_true, if_false, and_self, or_true, true_or, not_false_eq_true, Bool.false_eq_true]; done) | (simp (disch := omega) only [W.1, j2, c_isWithin, d1, e_KI, e_NI, e_BI, e_LI, e_PI, e_KB, e_NB, e_IB, e_LB, e_PB, e_KL, e_NL, e_IL, e_BL, e_PL, e_KP, e_NP, e_IP, e_BP, e_LP, e_IIs, e_BBs, e_LLs, e_PPs, e_IIn, e_BBn, e_LLn, e_PPn, e_IIk, e_BBk, e_LLk, e_PPk, e_Ks, e_Ns, e_Is, e_Bs, e_Ls, e_Ps, e_Kn, e_Nn, e_In, e_Bn, e_Ln, e_Pn, if_true, if_false, and_self, or_true, true_or, not_false_eq_true, Bool.false_eq_true]; rfl)))))) ?_
    by_cases n0 : i < 0
    · unfold f_X12_back
      (repeat (first | with_reducible apply ev_jn | ((with_reducible apply ev_bd); · first | (simp (disch := omega) only [n0, e_KI, e_NI, e_BI, e_LI, e_PI, e_KB, e_NB, e_IB, e_LB, e_PB, e_KL, e_NL, e_IL, e_BL, e_PL, e_KP, e_NP, e_IP, e_BP, e_LP, e_IIs, e_BBs, e_LLs, e_PPs, e_IIn, e_BBn, e_LLn, e_PPn, e_IIk, e_BBk, e_LLk, e_PPk, e_Ks, e_Ns, e_Is, e_Bs, e_Ls, e_Ps, e_Kn, e_Nn, e_In, e_Bn, e_Ln, e_Pn, if_true, if_false, and_self, or_true, true_or, not_false_eq_true, Bool.false_eq_true]; exact rfl) | exact rfl) | ((with_reducible apply ev_cl); · first | (simp (disch := omega) only [n0, e_KI, e_NI, e_BI, e_LI, e_PI, e_KB, e_NB, e_IB, e_LB, e_PB, e_KL, e_NL, e_IL, e_BL, e_PL, e_KP, e_NP, e_IP, e_BP, e_LP, e_IIs, e_BBs, e_LLs, e_PPs, e_IIn, e_BBn, e_LLn, e_PPn, e_IIk, e_BBk, e_LLk, e_PPk, e_Ks, e_Ns, e_Is, e_Bs, e_Ls, e_Ps, e_Kn, e_Nn, e_In, e_Bn, e_Ln, e_Pn, if_true, if_false, and_self, or_true, true_or, not_false_eq_true, Bool.false_eq_true]; exact rfl) | exact rfl) | ((with_reducible apply ev_g); · first | (simp (disch := omega) only [n0, e_KI, e_NI, e_BI, e_LI, e_PI, e_KB, e_NB, e_IB, e_LB, e_PB, e_KL, e_NL, e_IL, e_BL, e_PL, e_KP, e_NP, e_IP, e_BP, e_LP, e_IIs, e_BBs, e_LLs, e_PPs, e_IIn, e_BBn, e_LLn, e_PPn, e_IIk, e_BBk, e_LLk, e_PPk, e_Ks, e_Ns, e_Is, e_Bs, e_Ls, e_Ps, e_Kn, e_Nn, e_In, e_Bn, e_Ln, e_Pn, if_true, if_false, and_self, or_true, true_or, not_false_eq_true, Bool.false_eq_true]; done) | (simp (disch := omega) only [n0, e_KI, e_NI, e_BI, e_LI, e_PI, e_KB, e_NB, e_IB, e_LB, e_PB, e_KL, e_NL, e_IL, e_BL, e_PL, e_KP, e_NP, e_IP, e_BP, e_LP, e_IIs, e_BBs, e_LLs, e_PPs, e_IIn, e_BBn, e_LLn, e_PPn, e_IIk, e_BBk, e_LLk, e_PPk, e_Ks, e_Ns, e_Is, e_Bs, e_Ls, e_Ps, e_Kn, e_Nn, e_In, e_Bn, e_Ln, e_Pn, if_true, if_false, and_self, or_true, true_or, not_false_eq_true, Bool.false_eq_true]; decide) | decide) | ((with_reducible apply ev_t); · first | (simp (disch := omega) only [n0, e_KI, e_NI, e_BI, e_LI, e_PI, e_KB, e_NB, e_IB, e_LB, e_PB, e_KL, e_NL, e_IL, e_BL, e_PL, e_KP, e_NP, e_IP, e_BP, e_LP, e_IIs, e_BBs, e_LLs, e_PPs, e_IIn, e_BBn, e_LLn, e_PPn, e_IIk, e_BBk, e_LLk, e_PPk, e_Ks, e_Ns, e_Is, e_Bs, e_Ls, e_Ps, e_Kn, e_Nn, e_In, e_Bn, e_Ln, e_Pn, if_true, if_false, and_self, or_true, true_or, not_false_eq_true, Bool.false_eq_true]; done) | (simp (disch := omega) only [n0, e_KI, e_NI, e_BI, e_LI, e_PI, e_KB, e_NB, e_IB, e_LB, e_PB, e_KL, e_NL, e_IL, e_BL, e_PL, e_KP, e_NP, e_IP, e_BP, e_LP, e_IIs, e_BBs, e_LLs, e_PPs, e_IIn, e_BBn, e_LLn, e_PPn, e_IIk, e_BBk, e_LLk, e_PPk, e_Ks, e_Ns, e_Is, e_Bs, e_Ls, e_Ps, e_Kn, e_Nn, e_In, e_Bn, e_Ln, e_Pn, if_true, if_false, and_self, or_true, true_or, not_false_eq_true, Bool.false_eq_true]; decide) | decide) | ((with_reducible apply ev_f); · first | (simp (disch := omega) only [n0, e_KI, e_NI, e_BI, e_LI, e_PI, e_KB, e_NB, e_IB, e_LB, e_PB, e_KL, e_NL, e_IL, e_BL, e_PL, e_KP, e_NP, e_IP, e_BP, e_LP, e_IIs, e_BBs, e_LLs, e_PPs, e_IIn, e_BBn, e_LLn, e_PPn, e_IIk, e_BBk, e_LLk, e_PPk, e_Ks, e_Ns, e_Is, e_Bs, e_Ls, e_Ps, e_Kn, e_Nn, e_In, e_Bn, e_Ln, e_Pn, if_true, if_false, and_self, or_true, true_or, not_false_eq_true, Bool.false_eq_true]; done) | (simp (disch := omega) only [n0, e_KI, e_NI, e_BI, e_LI, e_PI, e_KB, e_NB, e_IB, e_LB, e_PB, e_KL, e_NL, e_IL, e_BL, e_PL, e_KP, e_NP, e_IP, e_BP, e_LP, e_IIs, e_BBs, e_LLs, e_PPs, e_IIn, e_BBn, e_LLn, e_PPn, e_IIk, e_BBk, e_LLk, e_PPk, e_Ks, e_Ns, e_Is, e_Bs, e_Ls, e_Ps, e_Kn, e_Nn, e_In, e_Bn, e_Ln, e_Pn, if_true, if_false, and_self, or_true, true_or, not_false_eq_true, Bool.false_eq_true]; decide) | decide) | ((with_reducible apply ev_s) <;> (first | (with_reducible rfl) | (simp (disch := omega) only [n0, e_KI, e_NI, e_BI, e_LI, e_PI, e_KB, e_NB, e_IB, e_LB, e_PB, e_KL, e_NL, e_IL, e_BL, e_PL, e_KP, e_NP, e_IP, e_BP, e_LP, e_IIs, e_BBs, e_LLs, e_PPs, e_IIn, e_BBn, e_LLn, e_PPn, e_IIk, e_BBk, e_LLk, e_PPk, e_Ks, e_Ns, e_Is, e_Bs, e_Ls, e_Ps, e_Kn, e_Nn, e_In, e_Bn, e_Ln, e_Pn, if_true, if_false, and_self, or_true, true_or, not_false_eq_true, Bool.false_eq_true]; done) | (simp (disch := omega) only [n0, e_KI, e_NI, e_BI, e_LI, e_PI, e_KB, e_NB, e_IB, e_LB, e_PB, e_KL, e_NL, e_IL, e_BL, e_PL, e_KP, e_NP, e_IP, e_BP, e_LP, e_IIs, e_BBs, e_LLs, e_PPs, e_IIn, e_BBn, e_LLn, e_PPn, e_IIk, e_BBk, e_LLk, e_PPk, e_Ks, e_Ns, e_Is, e_Bs, e_Ls, e_Ps, e_Kn, e_Nn, e_In, e_Bn, e_Ln, e_Pn, if_true, if_false, and_self, or_true, true_or, not_false_eq_true, Bool.false_eq_true]; rfl)))))
    · obtain ⟨j, hj, rfl⟩ := nI_of n0
      have nle : ¬ nI j ≤ nI A := fun z => by
        have := (nI_leI (by omega) (by omega)).mp z
        exact hno j (by omega) this rfl
      unfold f_X12_back
      (repeat (first | with_reducible apply ev_jn | ((with_reducible apply ev_bd); · first | (simp (disch := omega) only [n0, W.2, j3, nle, e_KI, e_NI, e_BI, e_LI, e_PI, e_KB, e_NB, e_IB, e_LB, e_PB, e_KL, e_NL, e_IL, e_BL, e_PL, e_KP, e_NP, e_IP, e_BP, e_LP, e_IIs, e_BBs, e_LLs, e_PPs, e_IIn, e_BBn, e_LLn, e_PPn, e_IIk, e_BBk, e_LLk, e_PPk, e_Ks, e_Ns, e_Is, e_Bs, e_Ls, e_Ps, e_Kn, e_Nn, e_In, e_Bn, e_Ln, e_Pn, if_true, if_false, and_self, or_true, true_or, not_false_eq_true, Bool.false_eq_true]; exact rfl) | exact rfl) | ((with_reducible apply ev_cl); · first | (simp (disch := omega) only [n0, W.2, j3, nle, e_KI, e_NI, e_BI, e_LI, e_PI, e_KB, e_NB, e_IB, e_LB, e_PB, e_KL, e_NL, e_IL, e_BL, e_PL, e_KP, e_NP, e_IP, e_BP, e_LP, e_IIs, e_BBs, e_LLs, e_PPs, e_IIn, e_BBn, e_LLn, e_PPn, e_IIk, e_BBk, e_LLk, e_PPk, e_Ks, e_Ns, e_Is, e_Bs, e_Ls, e_Ps, e_Kn, e_Nn, e_In, e_Bn, e_Ln, e_Pn, if_true, if_false, and_self, or_true, true_or, not_false_eq_true, Bool.false_eq_true]; exact rfl) | exact rfl) | ((with_reducible apply ev_g); · first | (simp (disch := omega) only [n0, W.2, j3, nle, e_KI, e_NI, e_BI, e_LI, e_PI, e_KB, e_NB, e_IB, e_LB, e_PB, e_KL, e_NL, e_IL, e_BL, e_PL, e_KP, e_NP, e_IP, e_BP, e_LP, e_IIs, e_BBs, e_LLs, e_PPs, e_IIn, e_BBn, e_LLn, e_PPn, e_IIk, e_BBk, e_LLk, e_PPk, e_Ks, e_Ns, e_Is, e_Bs, e_Ls, e_Ps, e_Kn, e_Nn, e_In, e_Bn, e_Ln, e_Pn, if_true, if_false, and_self, or_true, true_or, not_false_eq_true, Bool.false_eq_true]; done) | (simp (disch := omega) only [n0, W.2, j3, nle, e_KI, e_NI, e_BI, e_LI, e_PI, e_KB, e_NB, e_IB, e_LB, e_PB, e_KL, e_NL, e_IL, e_BL, e_PL, e_KP, e_NP, e_IP, e_BP, e_LP, e_IIs, e_BBs, e_LLs, e_PPs, e_IIn, e_BBn, e_LLn, e_PPn, e_IIk, e_BBk, e_LLk, e_PPk, e_Ks, e_Ns, e_Is, e_Bs, e_Ls, e_Ps, e_Kn, e_Nn, e_In, e_Bn, e_Ln, e_Pn, if_true, if_false, and_self, or_true, true_or, not_false_eq_true, Bool.false_eq_true]; decide) | decide) | ((with_reducible apply ev_t); · first | (simp (disch := omega) only [n0, W.2, j3, nle, e_KI, e_NI, e_BI, e_LI, e_PI, e_KB, e_NB, e_IB, e_LB, e_PB, e_KL, e_NL, e_IL, e_BL, e_PL, e_KP, e_NP, e_IP, e_BP, e_LP, e_IIs, e_BBs, e_LLs, e_PPs, e_IIn, e_BBn, e_LLn, e_PPn, e_IIk, e_BBk, e_LLk, e_PPk, e_Ks, e_Ns, e_Is, e_Bs, e_Ls, e_Ps, e_Kn, e_Nn, e_In, e_Bn, e_Ln, e_Pn, if_true, if_false, and_self, or_true, true_or, not_false_eq_true, Bool.false_eq_true]; done) | (simp (disch := omega) only [n0, W.2, j3, nle, e_KI, e_NI, e_BI, e_LI, e_PI, e_KB, e_NB, e_IB, e_LB, e_PB, e_KL, e_NL, e_IL, e_BL, e_PL, e_KP, e_NP, e_IP, e_BP, e_LP, e_IIs, e_BBs, e_LLs, e_PPs, e_IIn, e_BBn, e_LLn, e_PPn, e_IIk, e_BBk, e_LLk, e_PPk, e_Ks, e_Ns, e_Is, e_Bs, e_Ls, e_Ps, e_Kn, e_Nn, e_In, e_Bn, e_Ln, e_Pn, if_true, if_false, and_self, or_true, true_or, not_false_eq_true, Bool.false_eq_true]; decide) | decide) | ((with_reducible apply ev_f); · first | (simp (disch := omega) only [n0, W.2, j3, nle, e_KI, e_NI, e_BI, e_LI, e_PI, e_KB, e_NB, e_IB, e_LB, e_PB, e_KL, e_NL, e_IL, e_BL, e_PL, e_KP, e_NP, e_IP, e_BP, e_LP, e_IIs, e_BBs, e_LLs, e_PPs, e_IIn, e_BBn, e_LLn, e_PPn, e_IIk, e_BBk, e_LLk, e_PPk, e_Ks, e_Ns, e_Is, e_Bs, e_Ls, e_Ps, e_Kn, e_Nn, e_In, e_Bn, e_Ln, e_Pn, if_true, if_false, and_self, or_true, true_or, not_false_eq_true, Bool.false_eq_true]; done) | (simp (disch := omega) only [n0, W.2, j3, nle, e_KI, e_NI, e_BI, e_LI, e_PI, e_KB, e_NB, e_IB, e_LB, e_PB, e_KL, e_NL, e_IL, e_BL, e_PL, e_KP, e_NP, e_IP, e_BP, e_LP, e_IIs, e_BBs, e_LLs, e_PPs, e_IIn, e_BBn, e_LLn, e_PPn, e_IIk, e_BBk, e_LLk, e_PPk, e_Ks, e_Ns, e_Is, e_Bs, e_Ls, e_Ps, e_Kn, e_Nn, e_In, e_Bn, e_Ln, e_Pn, if_true, if_false, and_self, or_true, true_or, not_false_eq_true, Bool.false_eq_true]; decide) | decide) | ((with_reducible apply ev_s) <;> (first | (with_reducible rfl) | (simp (disch := omega) only [n0, W.2, j3, nle, e_KI, e_NI, e_BI, e_LI, e_PI, e_KB, e_NB, e_IB, e_LB, e_PB, e_KL, e_NL, e_IL, e_BL, e_PL, e_KP, e_NP, e_IP, e_BP, e_LP, e_IIs, e_BBs, e_LLs, e_PPs, e_IIn, e_BBn, e_LLn, e_PPn, e_IIk, e_BBk, e_LLk, e_PPk, e_Ks, e_Ns, e_Is, e_Bs, e_Ls, e_Ps, e_Kn, e_Nn, e_In, e_Bn, e_Ln, e_Pn, if_true, if_false, and_self, or_true, true_or, not_false_eq_true, Bool.false_eq_true]; done) | (simp (disch := omega) only [n0, W.2, j3, nle, e_KI, e_NI, e_BI, e_LI, e_PI, e_KB, e_NB, e_IB, e_LB, e_PB, e_KL, e_NL, e_IL, e_BL, e_PL, e_KP, e_NP, e_IP, e_BP, e_LP, e_IIs, e_BBs, e_LLs, e_PPs, e_IIn, e_BBn, e_LLn, e_PPn, e_IIk, e_BBk, e_LLk, e_PPk, e_Ks, e_Ns, e_Is, e_Bs, e_Ls, e_Ps, e_Kn, e_Nn, e_In, e_Bn, e_Ln, e_Pn, if_true, if_false, and_self, or_true, true_or, not_false_eq_true, Bool.false_eq_true]; rfl)))))
  obtain ⟨d, h1, ec, rfl, g1⟩ := wp_ex (c_digest R9 hr)
  have R1 : RelP h1 t e N C S A := by
    obtain ⟨w, rT, rM, rB, rC, rS, rV, rL, rJ, rP, rH, rD, rQ, rK⟩ := id R9
    exact ⟨(Sh_ag g1 (by intro a k q; (simp only [FSh] at q ⊢) <;> omega) (by intro a q; (simp only [GSh, not_false_eq_true] at q ⊢) <;> omega) w), (RT_ag g1 (by intro a k q; (simp only [FRT] at q ⊢) <;> omega) (by intro a q; (simp only [GRT, not_false_eq_true] at q ⊢) <;> omega) rT), (RM_ag g1 (by intro a k q; (simp only [FRM] at q ⊢) <;> omega) (by intro a q; (simp only [GRM, not_false_eq_true] at q ⊢) <;> omega) rM), (RB_ag g1 (by intro a k q; (simp only [FRB] at q ⊢) <;> omega) (by intro a q; (simp only [GRB, not_false_eq_true] at q ⊢) <;> omega) rB), (RC_ag g1 (by intro a k q; (simp only [FRC] at q ⊢) <;> omega) (by intro a q; (simp only [GRC, not_false_eq_true] at q ⊢) <;> omega) rC), (RS_ag g1 (by intro a k q; (simp only [FRS] at q ⊢) <;> omega) (by intro a q; (simp only [GRS, not_false_eq_true] at q ⊢) <;> omega) rS), (RV_ag g1 (by intro a k q; (simp only [FRV] at q ⊢) <;> omega) (by intro a q; (simp only [GRV, not_false_eq_true] at q ⊢) <;> omega) rV), (RLn_ag g1 (by intro a k q; (simp only [FRLn] at q ⊢) <;> omega) (by intro a q; (simp only [GRLn, not_false_eq_true] at q ⊢) <;> omega) rL), (RJ_ag g1 (by intro a k q; (simp only [FRJ] at q ⊢) <;> omega) (by intro a q; (simp only [GRJ, not_false_eq_true] at q ⊢) <;> omega) rJ), (RP_ag g1 (by intro a k q; (simp only [FRP] at q ⊢) <;> omega) (by intro a q; (simp only [GRP, not_false_eq_true] at q ⊢) <;> omega) rP), (RH_ag g1 (by intro a k q; (simp only [FRH] at q ⊢) <;> omega) (by intro a q; (simp only [GRH, not_false_eq_true] at q ⊢) <;> omega) rH), (RD_ag g1 (by intro a k q; (simp only [FRD] at q ⊢) <;> omega) (by intro a q; (simp only [GRD, not_false_eq_true] at q ⊢) <;> omega) rD), (RQ_ag g1 (by intro a k q; (simp only [FRQ] at q ⊢) <;> omega) (by intro a q; (simp only [GRQ, not_false_eq_true] at q ⊢) <;> omega) rQ), (RK_ag g1 (by intro a k q; (simp only [FRK] at q ⊢) <;> omega) (by intro a q; (simp only [GRK, not_false_eq_true] at q ⊢) <;> omega) rK)⟩
  obtain ⟨w1, rT1, rM1, rB1, rC1, rS1, rV1, rL1, rJ1, rP1, rH1, rD1, rQ1, rK1⟩ := id R1
  obtain ⟨d2, h2, em, rfl, g2⟩ := wp_ex (m_back (h := h1) (r := r) w1 rB1.1 rC1.1 rS1.1 j1 rB1.2.2.1 rC1.2.2.1 rS1.2.2.1 rJ1.2.2.1 (fun k hk => by
    have eo1 : y_I h1 13 2 = nI o := (g1.I (by omega)).trans eo
    have z := rH1.2 (A - (k + 1)) (by omega) o ho eo1
    obtain ⟨z1, z2, z3, -⟩ := z
    rw [show A - (A - (k + 1) + 1) = k by omega] at z1 z2 z3
    exact ⟨z1, z2, z3⟩) hr)
  have eD : Dg h1 N C S A r = Dg h N C S A r := by
    have f := fun a (z : a ≠ 18) => g1.rI (a := a) (fun k => z)
    have fB := fun a (z : a ≠ 18) => g1.rB (a := a) (fun k => z)
    have k9 : ∀ n, kn h1 n = kn h n := fun n => by
      unfold kn
      rw [fB 354 (by decide), f 162 (by decide), f 98 (by decide)]
    have e1 : vBk h1 A r = vBk h A r := funext fun i => by
      unfold vBk oB oW
      simp only [f 2722 (by decide), f 418 (by decide), f 482 (by decide), f 546 (by decide), f 610 (by decide), f 162 (by decide), f 98 (by decide), k9]
    have e2 : vCk h1 A r = vCk h A r := funext fun i => by
      unfold vCk oC
      simp only [f 2722 (by decide), f 1634 (by decide), f 1698 (by decide), f 1762 (by decide)]
    have e3 : vSk h1 A r = vSk h A r := funext fun i => by
      unfold vSk oS
      simp only [f 2722 (by decide), f 2466 (by decide), f 2530 (by decide)]
    unfold Dg
    rw [e1, e2, e3]
  rw [eD] at em
  refine Call.wr (h1 := h1) (h2 := h2) (r := Dg h N C S A r) (by unfold f_X11_back; (repeat (first | with_reducible apply ev_jn | ((with_reducible apply ev_bd); · first | (simp (disch := omega) only [W.1, j2, c_isWithin, d1, ec, e_KI, e_NI, e_BI, e_LI, e_PI, e_KB, e_NB, e_IB, e_LB, e_PB, e_KL, e_NL, e_IL, e_BL, e_PL, e_KP, e_NP, e_IP, e_BP, e_LP, e_IIs, e_BBs, e_LLs, e_PPs, e_IIn, e_BBn, e_LLn, e_PPn, e_IIk, e_BBk, e_LLk, e_PPk, e_Ks, e_Ns, e_Is, e_Bs, e_Ls, e_Ps, e_Kn, e_Nn, e_In, e_Bn, e_Ln, e_Pn, if_true, if_false, and_self, or_true, true_or, not_false_eq_true, Bool.false_eq_true]; exact rfl) | exact rfl) | ((with_reducible apply ev_cl); · first | (simp (disch := omega) only [W.1, j2, c_isWithin, d1, ec, e_KI, e_NI, e_BI, e_LI, e_PI, e_KB, e_NB, e_IB, e_LB, e_PB, e_KL, e_NL, e_IL, e_BL, e_PL, e_KP, e_NP, e_IP, e_BP, e_LP, e_IIs, e_BBs, e_LLs, e_PPs, e_IIn, e_BBn, e_LLn, e_PPn, e_IIk, e_BBk, e_LLk, e_PPk, e_Ks, e_Ns, e_Is, e_Bs, e_Ls, e_Ps, e_Kn, e_Nn, e_In, e_Bn, e_Ln, e_Pn, if_true, if_false, and_self, or_true, true_or, not_false_eq_true, Bool.false_eq_true]; exact rfl) | exact rfl) | ((with_reducible apply ev_g); · first | (simp (disch := omega) only [W.1, j2, c_isWithin, d1, ec, e_KI, e_NI, e_BI, e_LI, e_PI, e_KB, e_NB, e_IB, e_LB, e_PB, e_KL, e_NL, e_IL, e_BL, e_PL, e_KP, e_NP, e_IP, e_BP, e_LP, e_IIs, e_BBs, e_LLs, e_PPs, e_IIn, e_BBn, e_LLn, e_PPn, e_IIk, e_BBk, e_LLk, e_PPk, e_Ks, e_Ns, e_Is, e_Bs, e_Ls, e_Ps, e_Kn, e_Nn, e_In, e_Bn, e_Ln, e_Pn, if_true, if_false, and_self, or_true, true_or, not_false_eq_true, Bool.false_eq_true]; done) | (simp (disch := omega) only [W.1, j2, c_isWithin, d1, ec, e_KI, e_NI, e_BI, e_LI, e_PI, e_KB, e_NB, e_IB, e_LB, e_PB, e_KL, e_NL, e_IL, e_BL, e_PL, e_KP, e_NP, e_IP, e_BP, e_LP, e_IIs, e_BBs, e_LLs, e_PPs, e_IIn, e_BBn, e_LLn, e_PPn, e_IIk, e_BBk, e_LLk, e_PPk, e_Ks, e_Ns, e_Is, e_Bs, e_Ls, e_Ps, e_Kn, e_Nn, e_In, e_Bn, e_Ln, e_Pn, if_true, if_false, and_self, or_true, true_or, not_false_eq_true, Bool.false_eq_true]; decide) | decide) | ((with_reducible apply ev_t); · first | (simp (disch := omega) only [W.1, j2, c_isWithin, d1, ec, e_KI, e_NI, e_BI, e_LI, e_PI, e_KB, e_NB, e_IB, e_LB, e_PB, e_KL, e_NL, e_IL, e_BL, e_PL, e_KP, e_NP, e_IP, e_BP, e_LP, e_IIs, e_BBs, e_LLs, e_PPs, e_IIn, e_BBn, e_LLn, e_PPn, e_IIk, e_BBk, e_LLk, e_PPk, e_Ks, e_Ns, e_Is, e_Bs, e_Ls, e_Ps, e_Kn, e_Nn, e_In, e_Bn, e_Ln, e_Pn, if_true, if_false, and_self, or_true, true_or, not_false_eq_true, Bool.false_eq_true]; done) | (simp (disch := omega) only [W.1, j2, c_isWithin, d1, ec, e_KI, e_NI, e_BI, e_LI, e_PI, e_KB, e_NB, e_IB, e_LB, e_PB, e_KL, e_NL, e_IL, e_BL, e_PL, e_KP, e_NP, e_IP, e_BP, e_LP, e_IIs, e_BBs, e_LLs, e_PPs, e_IIn, e_BBn, e_LLn, e_PPn, e_IIk, e_BBk, e_LLk, e_PPk, e_Ks, e_Ns, e_Is, e_Bs, e_Ls, e_Ps, e_Kn, e_Nn, e_In, e_Bn, e_Ln, e_Pn, if_true, if_false, and_self, or_true, true_or, not_false_eq_true, Bool.false_eq_true]; decide) | decide) | ((with_reducible apply ev_f); · first | (simp (disch := omega) only [W.1, j2, c_isWithin, d1, ec, e_KI, e_NI, e_BI, e_LI, e_PI, e_KB, e_NB, e_IB, e_LB, e_PB, e_KL, e_NL, e_IL, e_BL, e_PL, e_KP, e_NP, e_IP, e_BP, e_LP, e_IIs, e_BBs, e_LLs, e_PPs, e_IIn, e_BBn, e_LLn, e_PPn, e_IIk, e_BBk, e_LLk, e_PPk, e_Ks, e_Ns, e_Is, e_Bs, e_Ls, e_Ps, e_Kn, e_Nn, e_In, e_Bn, e_Ln, e_Pn, if_true, if_false, and_self, or_true, true_or, not_false_eq_true, Bool.false_eq_true]; done) | (simp (disch := omega) only [W.1, j2, c_isWithin, d1, ec, e_KI, e_NI, e_BI, e_LI, e_PI, e_KB, e_NB, e_IB, e_LB, e_PB, e_KL, e_NL, e_IL, e_BL, e_PL, e_KP, e_NP, e_IP, e_BP, e_LP, e_IIs, e_BBs, e_LLs, e_PPs, e_IIn, e_BBn, e_LLn, e_PPn, e_IIk, e_BBk, e_LLk, e_PPk, e_Ks, e_Ns, e_Is, e_Bs, e_Ls, e_Ps, e_Kn, e_Nn, e_In, e_Bn, e_Ln, e_Pn, if_true, if_false, and_self, or_true, true_or, not_false_eq_true, Bool.false_eq_true]; decide) | decide) | ((with_reducible apply ev_s) <;> (first | (with_reducible rfl) | (simp (disch := omega) only [W.1, j2, c_isWithin, d1, ec, e_KI, e_NI, e_BI, e_LI, e_PI, e_KB, e_NB, e_IB, e_LB, e_PB, e_KL, e_NL, e_IL, e_BL, e_PL, e_KP, e_NP, e_IP, e_BP, e_LP, e_IIs, e_BBs, e_LLs, e_PPs, e_IIn, e_BBn, e_LLn, e_PPn, e_IIk, e_BBk, e_LLk, e_PPk, e_Ks, e_Ns, e_Is, e_Bs, e_Ls, e_Ps, e_Kn, e_Nn, e_In, e_Bn, e_Ln, e_Pn, if_true, if_false, and_self, or_true, true_or, not_false_eq_true, Bool.false_eq_true]; done) | (simp (disch := omega) only [W.1, j2, c_isWithin, d1, ec, e_KI, e_NI, e_BI, e_LI, e_PI, e_KB, e_NB, e_IB, e_LB, e_PB, e_KL, e_NL, e_IL, e_BL, e_PL, e_KP, e_NP, e_IP, e_BP, e_LP, e_IIs, e_BBs, e_LLs, e_PPs, e_IIn, e_BBn, e_LLn, e_PPn, e_IIk, e_BBk, e_LLk, e_PPk, e_Ks, e_Ns, e_Is, e_Bs, e_Ls, e_Ps, e_Kn, e_Nn, e_In, e_Bn, e_Ln, e_Pn, if_true, if_false, and_self, or_true, true_or, not_false_eq_true, Bool.false_eq_true]; rfl)))))) em ?_
  obtain ⟨w, rT, rM, rB, rC, rS, rV, rL, rJ, rP, rH, rD, rQ, rK⟩ := id R1
  exact RelP.rel (N := N) (C := C) (S := S) (A := A) ⟨(Sh_ag g2 (by intro a k q; (simp only [FSh] at q ⊢) <;> omega) (by intro a q; (simp only [GSh, not_false_eq_true] at q ⊢) <;> omega) w), (RT_ag g2 (by intro a k q; (simp only [FRT] at q ⊢) <;> omega) (by intro a q; (simp only [GRT, not_false_eq_true] at q ⊢) <;> omega) rT), (RM_ag g2 (by intro a k q; (simp only [FRM] at q ⊢) <;> omega) (by intro a q; (simp only [GRM, not_false_eq_true] at q ⊢) <;> omega) rM), (RB_ag g2 (by intro a k q; (simp only [FRB] at q ⊢) <;> omega) (by intro a q; (simp only [GRB, not_false_eq_true] at q ⊢) <;> omega) rB), (RC_ag g2 (by intro a k q; (simp only [FRC] at q ⊢) <;> omega) (by intro a q; (simp only [GRC, not_false_eq_true] at q ⊢) <;> omega) rC), (RS_ag g2 (by intro a k q; (simp only [FRS] at q ⊢) <;> omega) (by intro a q; (simp only [GRS, not_false_eq_true] at q ⊢) <;> omega) rS), (RV_ag g2 (by intro a k q; (simp only [FRV] at q ⊢) <;> omega) (by intro a q; (simp only [GRV, not_false_eq_true] at q ⊢) <;> omega) rV), (RLn_ag g2 (by intro a k q; (simp only [FRLn] at q ⊢) <;> omega) (by intro a q; (simp only [GRLn, not_false_eq_true] at q ⊢) <;> omega) rL), (RJ_ag g2 (by intro a k q; (simp only [FRJ] at q ⊢) <;> omega) (by intro a q; (simp only [GRJ, not_false_eq_true] at q ⊢) <;> omega) rJ), (RP_ag g2 (by intro a k q; (simp only [FRP] at q ⊢) <;> omega) (by intro a q; (simp only [GRP, not_false_eq_true] at q ⊢) <;> omega) rP), (RH_ag g2 (by intro a k q; (simp only [FRH] at q ⊢) <;> omega) (by intro a q; (simp only [GRH, not_false_eq_true] at q ⊢) <;> omega) rH), (RD_ag g2 (by intro a k q; (simp only [FRD] at q ⊢) <;> omega) (by intro a q; (simp only [GRD, not_false_eq_true] at q ⊢) <;> omega) rD), (RQ_ag g2 (by intro a k q; (simp only [FRQ] at q ⊢) <;> omega) (by intro a q; (simp only [GRQ, not_false_eq_true] at q ⊢) <;> omega) rQ), (RK_ag g2 (by intro a k q; (simp only [FRK] at q ⊢) <;> omega) (by intro a q; (simp only [GRK, not_false_eq_true] at q ⊢) <;> omega) rK)⟩
end BM
