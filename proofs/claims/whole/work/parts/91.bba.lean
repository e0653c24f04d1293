/-! bay: the class lays it out -/
section BA
variable {h : y_H} {t e N C S A b m : Nat}
def hvC (h : y_H) (b : Nat) (f : Int32) : y_H := s_I (s_I (s_B h (64 * b + 23) 5 true) (64 * b + 23) 6 f) (64 * b + 23) 7 0
theorem c_vbegin (v : vshape h b) (f : Int32) (hm2 : m < 2 ^ 31) (hv : vd 6 m = true) : wp (f_X1_begin (64 * b + 23) f (nI m) h) fun _ h' => ag (fun a k => a = 64 * b + 23 ∧ (k = 5 ∨ k = 6 ∨ k = 7) ∨ a = 64 * b + 30 ∨ a = 64 * b + 31 ∨ a = 64 * b + 32 ∨ a = 64 * b + 33) (fun _ => False) h h' ∧ y_B h' (64 * b + 23) 5 = true ∧ y_I h' (64 * b + 23) 6 = f ∧ y_I h' (64 * b + 23) 7 = nI (nd 6 m) ∧ (∀ s, s < 6 → y_I h' (64 * b + 30) s = nI (m / 10 ^ s % 10) ∧ y_I h' (64 * b + 31) s = 0 ∧ y_I h' (64 * b + 32) s = 0) ∧ ∀ k, k < 30 → y_P h' (64 * b + 33) k = 0 := by
  suffices H : ∀ Q : Unit → y_H → Prop, (∀ r h', (ag (fun a k => a = 64 * b + 23 ∧ (k = 5 ∨ k = 6 ∨ k = 7) ∨ a = 64 * b + 30 ∨ a = 64 * b + 31 ∨ a = 64 * b + 32 ∨ a = 64 * b + 33) (fun _ => False) h h' ∧ y_B h' (64 * b + 23) 5 = true ∧ y_I h' (64 * b + 23) 6 = f ∧ y_I h' (64 * b + 23) 7 = nI (nd 6 m) ∧ (∀ s, s < 6 → y_I h' (64 * b + 30) s = nI (m / 10 ^ s % 10) ∧ y_I h' (64 * b + 31) s = 0 ∧ y_I h' (64 * b + 32) s = 0) ∧ ∀ k, k < 30 → y_P h' (64 * b + 33) k = 0) → Q r h') → wp (f_X1_begin (64 * b + 23) f (nI m) h) Q from H _ (fun _ _ q => q)
  intro Q hQ
  obtain ⟨D1, D2, D3, D4⟩ := vd_dg 6 m hv
  obtain ⟨v1, v2, v3, v4, v5, v6, v7, v8, v9, v10, v11, v12, v13, v14, v15⟩ := v
  have g0 : ag (fun a k => a = 64 * b + 23 ∧ (k = 5 ∨ k = 6 ∨ k = 7) ∨ a = 64 * b + 30 ∨ a = 64 * b + 31 ∨ a = 64 * b + 32 ∨ a = 64 * b + 33) (fun _ => False) h (hvC h b f) := by
    unfold hvC
    ((repeat' (first | exact ag.refl _ _ _ | apply ag.sI | apply ag.sB | apply ag.sP | apply ag.sL | (apply ag.cm) | (apply ag.mm))) <;> (first | omega | (dsimp only; omega) | (intro k; dsimp only; omega)))
  have V0 : y_B (hvC h b f) (64 * b + 23) 5 = true ∧ y_I (hvC h b f) (64 * b + 23) 6 = f ∧ y_I (hvC h b f) (64 * b + 23) 7 = 0 := by
    simp (disch := omega) only [hvC, e_KI, e_NI, e_BI, e_LI, e_PI, e_KB, e_NB, e_IB, e_LB, e_PB, e_KL, e_NL, e_IL, e_BL, e_PL, e_KP, e_NP, e_IP, e_BP, e_LP, e_IIs, e_BBs, e_LLs, e_PPs, e_IIn, e_BBn, e_LLn, e_PPn, e_IIk, e_BBk, e_LLk, e_PPk, and_self]
  unfold f_X1_begin
  simp only [v2, e_KB, e_KI, if_true, e_bd]
  refine wp_jl (fun n j => ∀ (i : Nat) (h2 : y_H), i ≤ 6 → 6 - i < n → ag (fun a k => a = 64 * b + 23 ∧ k = 7 ∨ a = 64 * b + 30 ∨ a = 64 * b + 31 ∨ a = 64 * b + 32) (fun _ => False) (hvC h b f) h2 → y_I h2 (64 * b + 23) 7 = nI (if i ≤ nd 6 m then i else nd 6 m) → (∀ s, s < i → y_I h2 (64 * b + 30) s = nI (m / 10 ^ s % 10) ∧ y_I h2 (64 * b + 31) s = 0 ∧ y_I h2 (64 * b + 32) s = 0) → wp (j (64 * b + 23) (nI (m / 10 ^ i)) (nI i) h2) Q) (fun _ _ _ z => absurd z (by omega)) (fun n j IH i h2 z1 z2 z3 z4 z5 => ?_) (fun j IH => ?_)
  rotate_left
  · have z := IH 0 (hvC h b f) (by omega) (by unfold y_fu; omega) (ag.refl _ _ _) (by rw [if_pos (Nat.zero_le _)]; exact V0.2.2) (fun i hi => absurd hi (by omega))
    rw [Nat.pow_zero, Nat.div_one] at z
    exact z
  have gA := g0.trans (z3.mono (fun a k q => by omega) (fun a q => q))
  have k2 : y_K h2 (64 * b + 23) = 2 := (gA.K (fun q => q)).trans v2
  have p1 : y_P h2 (64 * b + 23) 1 = 64 * b + 30 := (gA.P (by omega)).trans v4
  have p2 : y_P h2 (64 * b + 23) 2 = 64 * b + 31 := (gA.P (by omega)).trans v5
  have p3 : y_P h2 (64 * b + 23) 3 = 64 * b + 32 := (gA.P (by omega)).trans v6
  have p4 : y_P h2 (64 * b + 23) 4 = 64 * b + 33 := (gA.P (by omega)).trans v7
  have ka : y_K h2 (64 * b + 30) = 100 := (gA.K (fun q => q)).trans v8
  have na : y_N h2 (64 * b + 30) = 6 := (gA.N (fun q => q)).trans v9
  have kb : y_K h2 (64 * b + 31) = 100 := (gA.K (fun q => q)).trans v10
  have nb : y_N h2 (64 * b + 31) = 6 := (gA.N (fun q => q)).trans v11
  have kc : y_K h2 (64 * b + 32) = 100 := (gA.K (fun q => q)).trans v12
  have nc : y_N h2 (64 * b + 32) = 6 := (gA.N (fun q => q)).trans v13
  by_cases e6 : i = 6
  · subst e6
    have q : (6 : Int32) ≤ nI 6 := by decide
    have en : (if 6 ≤ nd 6 m then 6 else nd 6 m) = nd 6 m := by split <;> omega
    rw [en] at z4
    simp only [q, if_true]
    refine wp_jl (fun n j => ∀ (k : Nat) (h3 : y_H), k ≤ 30 → 30 - k < n → ag (fun a k => a = 64 * b + 33) (fun _ => False) h2 h3 → (∀ s, s < k → y_P h3 (64 * b + 33) s = 0) → wp (j (64 * b + 23) (nI k) h3) Q) (fun _ _ _ z => absurd z (by omega)) (fun n j IH2 k h3 y1 y2 y3 y4 => ?_) (fun j IH2 => ?_)
    rotate_left
    · exact IH2 0 h2 (by omega) (by unfold y_fu; omega) (ag.refl _ _ _) (fun i hi => absurd hi (by omega))
    have k3 : y_K h3 (64 * b + 23) = 2 := (y3.K (fun q => q)).trans k2
    have p5 : y_P h3 (64 * b + 23) 4 = 64 * b + 33 := (y3.P (by omega)).trans p4
    have kd : y_K h3 (64 * b + 33) = 103 := (y3.K (fun q => q)).trans ((gA.K (fun q => q)).trans v14)
    have nd' : y_N h3 (64 * b + 33) = 30 := (y3.N (fun q => q)).trans ((gA.N (fun q => q)).trans v15)
    by_cases e3 : k = 30
    · subst e3
      have q : nI 30 ≤ nI 30 := by decide
      simp only [k3, p5, kd, nd', q, if_true, wp_some]
      refine hQ _ _ ⟨gA.trans (y3.mono (fun a k q => by omega) (fun a q => q)), ?_, ?_, ?_, fun s hs => ?_, y4⟩
      · exact (y3.B (by omega)).trans ((z3.B (by omega)).trans V0.1)
      · exact (y3.I (by omega)).trans ((z3.I (by omega)).trans V0.2.1)
      · exact (y3.I (by omega)).trans z4
      · rw [y3.I (by omega), y3.I (by omega), y3.I (by omega)]
        exact z5 s hs
    · have q : ¬ nI 30 ≤ nI k := nI_ge (by omega) (by omega)
      have hx := i_ix (show k < 30 by omega) (by decide)
      have hcl := i_cl (show k < 2 ^ 31 by omega)
      simp only [k3, p5, kd, nd', q, hx, hcl, true_or, and_self, if_true, if_false, e_bd, nI_1]
      refine IH2 (k + 1) _ (by omega) (by omega) (y3.sP rfl) (fun s hs => ?_)
      by_cases es : s = k
      · subst es
        exact e_PPs
      · rw [e_PPk es]
        exact y4 s (by omega)
  have q : ¬ (6 : Int32) ≤ nI i := nI_ge (a := i) (b := 6) (by omega) (by decide)
  have hms : m / 10 ^ i < 2 ^ 31 := Nat.lt_of_le_of_lt (Nat.div_le_self _ _) hm2
  have hx := i_ix (show i < 6 by omega) (by decide)
  have hcl := i_cl (show i < 2 ^ 31 by omega)
  have ed : m / 10 ^ i / 10 = m / 10 ^ (i + 1) := by rw [Nat.div_div_eq_div_mul, Nat.pow_succ]
  have rv : y_I (s_I (s_I (s_I h2 (64 * b + 30) i (nI (m / 10 ^ i % 10))) (64 * b + 31) i 0) (64 * b + 32) i 0) (64 * b + 30) i = nI (m / 10 ^ i % 10) := by
    simp (disch := omega) only [e_KI, e_NI, e_BI, e_LI, e_PI, e_KB, e_NB, e_IB, e_LB, e_PB, e_KL, e_NL, e_IL, e_BL, e_PL, e_KP, e_NP, e_IP, e_BP, e_LP, e_IIs, e_BBs, e_LLs, e_PPs, e_IIn, e_BBn, e_LLn, e_PPn, e_IIk, e_BBk, e_LLk, e_PPk]
  have rw7 : y_I (s_I (s_I (s_I h2 (64 * b + 30) i (nI (m / 10 ^ i % 10))) (64 * b + 31) i 0) (64 * b + 32) i 0) (64 * b + 23) 7 = nI (if i ≤ nd 6 m then i else nd 6 m) := by
    simp (disch := omega) only [e_KI, e_NI, e_BI, e_LI, e_PI, e_KB, e_NB, e_IB, e_LB, e_PB, e_KL, e_NL, e_IL, e_BL, e_PL, e_KP, e_NP, e_IP, e_BP, e_LP, e_IIs, e_BBs, e_LLs, e_PPs, e_IIn, e_BBn, e_LLn, e_PPn, e_IIk, e_BBk, e_LLk, e_PPk]
    exact z4
  have g3 : ∀ x, ag (fun a k => a = 64 * b + 23 ∧ k = 7 ∨ a = 64 * b + 30 ∨ a = 64 * b + 31 ∨ a = 64 * b + 32) (fun _ => False) (hvC h b f) (s_I (s_I (s_I (s_I h2 (64 * b + 30) i (nI (m / 10 ^ i % 10))) (64 * b + 31) i 0) (64 * b + 32) i 0) (64 * b + 23) 7 x) := fun x => (((z3.sI (by omega)).sI (by omega)).sI (by omega)).sI (by omega)
  have l3 : ∀ x, ∀ s, s < i + 1 → y_I (s_I (s_I (s_I (s_I h2 (64 * b + 30) i (nI (m / 10 ^ i % 10))) (64 * b + 31) i 0) (64 * b + 32) i 0) (64 * b + 23) 7 x) (64 * b + 30) s = nI (m / 10 ^ s % 10) ∧ y_I (s_I (s_I (s_I (s_I h2 (64 * b + 30) i (nI (m / 10 ^ i % 10))) (64 * b + 31) i 0) (64 * b + 32) i 0) (64 * b + 23) 7 x) (64 * b + 31) s = 0 ∧ y_I (s_I (s_I (s_I (s_I h2 (64 * b + 30) i (nI (m / 10 ^ i % 10))) (64 * b + 31) i 0) (64 * b + 32) i 0) (64 * b + 23) 7 x) (64 * b + 32) s = 0 := fun x s hs => by
    by_cases es : s = i
    · subst es
      simp (disch := omega) only [e_KI, e_NI, e_BI, e_LI, e_PI, e_KB, e_NB, e_IB, e_LB, e_PB, e_KL, e_NL, e_IL, e_BL, e_PL, e_KP, e_NP, e_IP, e_BP, e_LP, e_IIs, e_BBs, e_LLs, e_PPs, e_IIn, e_BBn, e_LLn, e_PPn, e_IIk, e_BBk, e_LLk, e_PPk, and_self]
    · simp (disch := omega) only [e_KI, e_NI, e_BI, e_LI, e_PI, e_KB, e_NB, e_IB, e_LB, e_PB, e_KL, e_NL, e_IL, e_BL, e_PL, e_KP, e_NP, e_IP, e_BP, e_LP, e_IIs, e_BBs, e_LLs, e_PPs, e_IIn, e_BBn, e_LLn, e_PPn, e_IIk, e_BBk, e_LLk, e_PPk]
      exact z5 s (by omega)
  simp only [q, if_false, k2, p1, p2, p3, ka, na, kb, nb, kc, nc, hx, hcl, e_KI, e_NI, e_PI, and_self, if_true, e_bd, i_r10' hms, rv, rw7, i_d10 hms, ed]
  by_cases ei : i < nd 6 m
  · obtain ⟨d1, d2⟩ := D2 i ei
    have q5 : ¬ nI (m / 10 ^ i % 10) ≤ 0 := fun z => absurd ((nI_leI (a := m / 10 ^ i % 10) (b := 0) (by omega) (by decide)).mp z) (by omega)
    have e1 : (if i ≤ nd 6 m then i else nd 6 m) = i := if_pos (by omega)
    have e2 : (if i + 1 ≤ nd 6 m then i + 1 else nd 6 m) = i + 1 := if_pos (by omega)
    simp only [q5, if_false, e1, nI_1]
    exact IH (i + 1) _ (by omega) (by omega) (g3 _) (by rw [e2]; exact e_IIs) (l3 _)
  · have d1 := D3 i (by omega)
    have q5 : nI (m / 10 ^ i % 10) ≤ 0 := by rw [d1]; decide
    have e1 : (if i ≤ nd 6 m then i else nd 6 m) = nd 6 m := by split <;> omega
    have e2 : (if i + 1 ≤ nd 6 m then i + 1 else nd 6 m) = nd 6 m := by split <;> omega
    have e3 : nI (nd 6 m) + 0 = nI (nd 6 m) := i_add _ 0
    simp only [q5, if_true, e1, e3, nI_1]
    exact IH (i + 1) _ (by omega) (by omega) (g3 _) (by rw [e2]; exact e_IIs) (l3 _)
def hvN (h : y_H) (b : Nat) (v : Int32) : y_H := s_I (s_P (s_new (s_P (s_new (s_P (s_new (s_P (s_new h (64 * b + 30) 100 6) (64 * b + 23) 1 (64 * b + 30)) (64 * b + 31) 100 6) (64 * b + 23) 2 (64 * b + 31)) (64 * b + 32) 100 6) (64 * b + 23) 3 (64 * b + 32)) (64 * b + 33) 103 30) (64 * b + 23) 4 (64 * b + 33)) (64 * b + 23) 0 v
theorem c_vinit {c0 s0 : Nat} (v : Int32) (k0 : y_K h (64 * b + 23) = 2) (k1 : y_K h (64 * b + 30) = 0) (k2 : y_K h (64 * b + 31) = 0) (k3 : y_K h (64 * b + 32) = 0) (k4 : y_K h (64 * b + 33) = 0) : f_X1_init (64 * b + 23) v c0 s0 h = some (((), c0 + 4, s0 + 48), hvN h b v) := by
  have a1 : 64 * b + 23 + 7 = 64 * b + 30 := rfl
  have a2 : 64 * b + 23 + 8 = 64 * b + 31 := rfl
  have a3 : 64 * b + 23 + 9 = 64 * b + 32 := rfl
  have a4 : 64 * b + 23 + 10 = 64 * b + 33 := rfl
  have b1 : (10 ≤ 64 * b + 30) = True := eq_true (by omega)
  have b2 : (10 ≤ 64 * b + 31) = True := eq_true (by omega)
  have b3 : (10 ≤ 64 * b + 32) = True := eq_true (by omega)
  have b4 : (10 ≤ 64 * b + 33) = True := eq_true (by omega)
  have n1 : ((6 : Int32) < 0) = False := eq_false (by decide)
  have n2 : ((30 : Int32) < 0) = False := eq_false (by decide)
  have c1 : Int32.toNatClampNeg (6 : Int32) = 6 := by decide
  have c2 : Int32.toNatClampNeg (30 : Int32) = 30 := by decide
  have m1 : (6 * componentBytes (t_ay 0) ≤ 536870912) = True := eq_true (by decide)
  have m2 : (30 * 4 ≤ 536870912) = True := eq_true (by decide)
  unfold f_X1_init hvN
  rw [a1, a2, a3, a4]
  (repeat (first | with_reducible apply ev_jn | ((with_reducible apply ev_bd); · first | (simp (disch := omega) only [k0, k1, k2, k3, k4, b1, b2, b3, b4, n1, n2, c1, c2, m1, m2, e_KI, e_NI, e_BI, e_LI, e_PI, e_KB, e_NB, e_IB, e_LB, e_PB, e_KL, e_NL, e_IL, e_BL, e_PL, e_KP, e_NP, e_IP, e_BP, e_LP, e_IIs, e_BBs, e_LLs, e_PPs, e_IIn, e_BBn, e_LLn, e_PPn, e_IIk, e_BBk, e_LLk, e_PPk, e_Ks, e_Ns, e_Is, e_Bs, e_Ls, e_Ps, e_Kn, e_Nn, e_In, e_Bn, e_Ln, e_Pn, if_true, if_false, and_self, or_true, true_or, not_false_eq_true, Bool.false_eq_true]; exact rfl) | exact rfl) | ((with_reducible apply ev_cl); · first | (simp (disch := omega) only [k0, k1, k2, k3, k4, b1, b2, b3, b4, n1, n2, c1, c2, m1, m2, e_KI, e_NI, e_BI, e_LI, e_PI, e_KB, e_NB, e_IB, e_LB, e_PB, e_KL, e_NL, e_IL, e_BL, e_PL, e_KP, e_NP, e_IP, e_BP, e_LP, e_IIs, e_BBs, e_LLs, e_PPs, e_IIn, e_BBn, e_LLn, e_PPn, e_IIk, e_BBk, e_LLk, e_PPk, e_Ks, e_Ns, e_Is, e_Bs, e_Ls, e_Ps, e_Kn, e_Nn, e_In, e_Bn, e_Ln, e_Pn, if_true, if_false, and_self, or_true, true_or, not_false_eq_true, Bool.false_eq_true]; exact rfl) | exact rfl) | ((with_reducible apply ev_g); · first | (simp (disch := omega) only [k0, k1, k2, k3, k4, b1, b2, b3, b4, n1, n2, c1, c2, m1, m2, e_KI, e_NI, e_BI, e_LI, e_PI, e_KB, e_NB, e_IB, e_LB, e_PB, e_KL, e_NL, e_IL, e_BL, e_PL, e_KP, e_NP, e_IP, e_BP, e_LP, e_IIs, e_BBs, e_LLs, e_PPs, e_IIn, e_BBn, e_LLn, e_PPn, e_IIk, e_BBk, e_LLk, e_PPk, e_Ks, e_Ns, e_Is, e_Bs, e_Ls, e_Ps, e_Kn, e_Nn, e_In, e_Bn, e_Ln, e_Pn, if_true, if_false, and_self, or_true, true_or, not_false_eq_true, Bool.false_eq_true]; done) | (simp (disch := omega) only [k0, k1, k2, k3, k4, b1, b2, b3, b4, n1, n2, c1, c2, m1, m2, e_KI, e_NI, e_BI, e_LI, e_PI, e_KB, e_NB, e_IB, e_LB, e_PB, e_KL, e_NL, e_IL, e_BL, e_PL, e_KP, e_NP, e_IP, e_BP, e_LP, e_IIs, e_BBs, e_LLs, e_PPs, e_IIn, e_BBn, e_LLn, e_PPn, e_IIk, e_BBk, e_LLk, e_PPk, e_Ks, e_Ns, e_Is, e_Bs, e_Ls, e_Ps, e_Kn, e_Nn, e_In, e_Bn, e_Ln, e_Pn, if_true, if_false, and_self, or_true, true_or, not_false_eq_true, Bool.false_eq_true]; decide) | decide) | ((with_reducible apply ev_t); · first | (simp (disch := omega) only [k0, k1, k2, k3, k4, b1, b2, b3, b4, n1, n2, c1, c2, m1, m2, e_KI, e_NI, e_BI, e_LI, e_PI, e_KB, e_NB, e_IB, e_LB, e_PB, e_KL, e_NL, e_IL, e_BL, e_PL, e_KP, e_NP, e_IP, e_BP, e_LP, e_IIs, e_BBs, e_LLs, e_PPs, e_IIn, e_BBn, e_LLn, e_PPn, e_IIk, e_BBk, e_LLk, e_PPk, e_Ks, e_Ns, e_Is, e_Bs, e_Ls, e_Ps, e_Kn, e_Nn, e_In, e_Bn, e_Ln, e_Pn, if_true, if_false, and_self, or_true, true_or, not_false_eq_true, Bool.false_eq_true]; done) | (simp (disch := omega) only [k0, k1, k2, k3, k4, b1, b2, b3, b4, n1, n2, c1, c2, m1, m2, e_KI, e_NI, e_BI, e_LI, e_PI, e_KB, e_NB, e_IB, e_LB, e_PB, e_KL, e_NL, e_IL, e_BL, e_PL, e_KP, e_NP, e_IP, e_BP, e_LP, e_IIs, e_BBs, e_LLs, e_PPs, e_IIn, e_BBn, e_LLn, e_PPn, e_IIk, e_BBk, e_LLk, e_PPk, e_Ks, e_Ns, e_Is, e_Bs, e_Ls, e_Ps, e_Kn, e_Nn, e_In, e_Bn, e_Ln, e_Pn, if_true, if_false, and_self, or_true, true_or, not_false_eq_true, Bool.false_eq_true]; decide) | decide) | ((with_reducible apply ev_f); · first | (simp (disch := omega) only [k0, k1, k2, k3, k4, b1, b2, b3, b4, n1, n2, c1, c2, m1, m2, e_KI, e_NI, e_BI, e_LI, e_PI, e_KB, e_NB, e_IB, e_LB, e_PB, e_KL, e_NL, e_IL, e_BL, e_PL, e_KP, e_NP, e_IP, e_BP, e_LP, e_IIs, e_BBs, e_LLs, e_PPs, e_IIn, e_BBn, e_LLn, e_PPn, e_IIk, e_BBk, e_LLk, e_PPk, e_Ks, e_Ns, e_Is, e_Bs, e_Ls, e_Ps, e_Kn, e_Nn, e_In, e_Bn, e_Ln, e_Pn, if_true, if_false, and_self, or_true, true_or, not_false_eq_true, Bool.false_eq_true]; done) | (simp (disch := omega) only [k0, k1, k2, k3, k4, b1, b2, b3, b4, n1, n2, c1, c2, m1, m2, e_KI, e_NI, e_BI, e_LI, e_PI, e_KB, e_NB, e_IB, e_LB, e_PB, e_KL, e_NL, e_IL, e_BL, e_PL, e_KP, e_NP, e_IP, e_BP, e_LP, e_IIs, e_BBs, e_LLs, e_PPs, e_IIn, e_BBn, e_LLn, e_PPn, e_IIk, e_BBk, e_LLk, e_PPk, e_Ks, e_Ns, e_Is, e_Bs, e_Ls, e_Ps, e_Kn, e_Nn, e_In, e_Bn, e_Ln, e_Pn, if_true, if_false, and_self, or_true, true_or, not_false_eq_true, Bool.false_eq_true]; decide) | decide) | ((with_reducible apply ev_s) <;> (first | (with_reducible rfl) | (simp (disch := omega) only [k0, k1, k2, k3, k4, b1, b2, b3, b4, n1, n2, c1, c2, m1, m2, e_KI, e_NI, e_BI, e_LI, e_PI, e_KB, e_NB, e_IB, e_LB, e_PB, e_KL, e_NL, e_IL, e_BL, e_PL, e_KP, e_NP, e_IP, e_BP, e_LP, e_IIs, e_BBs, e_LLs, e_PPs, e_IIn, e_BBn, e_LLn, e_PPn, e_IIk, e_BBk, e_LLk, e_PPk, e_Ks, e_Ns, e_Is, e_Bs, e_Ls, e_Ps, e_Kn, e_Nn, e_In, e_Bn, e_Ln, e_Pn, if_true, if_false, and_self, or_true, true_or, not_false_eq_true, Bool.false_eq_true]; done) | (simp (disch := omega) only [k0, k1, k2, k3, k4, b1, b2, b3, b4, n1, n2, c1, c2, m1, m2, e_KI, e_NI, e_BI, e_LI, e_PI, e_KB, e_NB, e_IB, e_LB, e_PB, e_KL, e_NL, e_IL, e_BL, e_PL, e_KP, e_NP, e_IP, e_BP, e_LP, e_IIs, e_BBs, e_LLs, e_PPs, e_IIn, e_BBn, e_LLn, e_PPn, e_IIk, e_BBk, e_LLk, e_PPk, e_Ks, e_Ns, e_Is, e_Bs, e_Ls, e_Ps, e_Kn, e_Nn, e_In, e_Bn, e_Ln, e_Pn, if_true, if_false, and_self, or_true, true_or, not_false_eq_true, Bool.false_eq_true]; rfl)))))
theorem c_bayOut {c0 s0 : Nat} (w : Sh h) (hb : b < 10) (hv : vnone h b ∨ vshape h b ∧ y_B h (64 * b + 23) 5 = false) : ∃ hm c1 s1, c1 ≤ c0 + 5 ∧ s1 ≤ s0 + 56 ∧ Sh hm ∧ vshape hm b ∧ ag (fun a k => a = 64 * b + 23 ∨ a = 64 * b + 30 ∨ a = 64 * b + 31 ∨ a = 64 * b + 32 ∨ a = 64 * b + 33 ∨ a = 99 ∧ k = b) (fun a => a = 64 * b + 23 ∨ a = 64 * b + 30 ∨ a = 64 * b + 31 ∨ a = 64 * b + 32 ∨ a = 64 * b + 33) h hm ∧ ∀ f p3 h5, f_X1_begin (64 * b + 23) f p3 hm = some ((), h5) → Sh h5 → y_P h5 99 b = 64 * b + 23 → y_K h5 (64 * b + 23) = 2 → f_X10_layOut 12 (nI b) f p3 c0 s0 h = some ((y_I h5 (64 * b + 23) 7, c1, s1), h5) := by
  have hx := i_ix hb (by decide)
  have hcl := i_cl (show b < 2 ^ 31 by omega)
  have d1 : decide (0 ≤ nI b ∧ nI b ≤ 9) = true := i_dt (x := 0) (y := b) (z := 9) rfl rfl rfl (by omega)
  rcases hv with q | ⟨q, -⟩
  · obtain ⟨q1, q2, q3, q4, q5, q6⟩ := q
    have ei := c_vinit (c0 := c0 + 1) (s0 := s0 + 8) (h := s_new h (64 * b + 23) 2 8) (b := b) (nI b) e_Ks (by rw [e_Kn (by omega)]; exact q3) (by rw [e_Kn (by omega)]; exact q4) (by rw [e_Kn (by omega)]; exact q5) (by rw [e_Kn (by omega)]; exact q6)
    generalize hz : hvN (s_new h (64 * b + 23) 2 8) b (nI b) = hn at ei
    have g : ag (fun a _ => a = 64 * b + 23 ∨ a = 64 * b + 30 ∨ a = 64 * b + 31 ∨ a = 64 * b + 32 ∨ a = 64 * b + 33) (fun a => a = 64 * b + 23 ∨ a = 64 * b + 30 ∨ a = 64 * b + 31 ∨ a = 64 * b + 32 ∨ a = 64 * b + 33) h hn := by
      rw [← hz]
      unfold hvN
      refine ag.sI (ag.sP (ag.new (ag.sP (ag.new (ag.sP (ag.new (ag.sP (ag.new (ag.new (ag.refl _ _ _) (fun k => ?_) ?_) (fun k => ?_) ?_) ?_) (fun k => ?_) ?_) ?_) (fun k => ?_) ?_) ?_) (fun k => ?_) ?_) ?_) ?_
      all_goals (first | omega | (dsimp only; omega))
    have sh : vshape (s_P hn 99 b (64 * b + 23)) b := by
      rw [← hz]
      simp (disch := omega) only [hvN, vshape, e_KI, e_NI, e_BI, e_LI, e_PI, e_KB, e_NB, e_IB, e_LB, e_PB, e_KL, e_NL, e_IL, e_BL, e_PL, e_KP, e_NP, e_IP, e_BP, e_LP, e_IIs, e_BBs, e_LLs, e_PPs, e_IIn, e_BBn, e_LLn, e_PPn, e_IIk, e_BBk, e_LLk, e_PPk, e_Ks, e_Ns, e_Is, e_Bs, e_Ls, e_Ps, e_Kn, e_Nn, e_In, e_Bn, e_Ln, e_Pn, and_self]
    have gf : ag (fun a k => a = 64 * b + 23 ∨ a = 64 * b + 30 ∨ a = 64 * b + 31 ∨ a = 64 * b + 32 ∨ a = 64 * b + 33 ∨ a = 99 ∧ k = b) (fun a => a = 64 * b + 23 ∨ a = 64 * b + 30 ∨ a = 64 * b + 31 ∨ a = 64 * b + 32 ∨ a = 64 * b + 33) h (s_P hn 99 b (64 * b + 23)) := ag.sP (g.mono (fun _ _ q => by omega) (fun _ q => q)) (by omega)
    have wn : Sh hn := (Sh_ag g (by intro a k q; (simp only [FSh] at q ⊢) <;> omega) (by intro a q; (simp only [GSh, not_false_eq_true] at q ⊢) <;> omega) w)
    have wf : Sh (s_P hn 99 b (64 * b + 23)) := (Sh_ag gf (by intro a k q; (simp only [FSh] at q ⊢) <;> omega) (by intro a q; (simp only [GSh, not_false_eq_true] at q ⊢) <;> omega) w)
    have kn : y_K hn (64 * b + 23) = 2 := by
      rw [← hz]
      simp (disch := omega) only [hvN, e_KI, e_NI, e_BI, e_LI, e_PI, e_KB, e_NB, e_IB, e_LB, e_PB, e_KL, e_NL, e_IL, e_BL, e_PL, e_KP, e_NP, e_IP, e_BP, e_LP, e_IIs, e_BBs, e_LLs, e_PPs, e_IIn, e_BBn, e_LLn, e_PPn, e_IIk, e_BBk, e_LLk, e_PPk, e_Ks, e_Ns, e_Is, e_Bs, e_Ls, e_Ps, e_Kn, e_Nn, e_In, e_Bn, e_Ln, e_Pn]
    refine ⟨s_P hn 99 b (64 * b + 23), c0 + 5, s0 + 56, by omega, by omega, wf, sh, gf, fun f p3 h5 e5 w5 x1 x2 => ?_⟩
    have h10 : (10 ≤ 64 * b + 23) = True := eq_true (by omega)
    have hne : ¬ 64 * b + 23 = 0 := by omega
    unfold f_X10_layOut
    (repeat (first | with_reducible apply ev_jn | ((with_reducible apply ev_bd); · first | (simp (disch := omega) only [w.1, wn.1, w5.1, c_isWithin, d1, hx, hcl, q1, q2, h10, ei, kn, e5, x1, x2, e_KI, e_NI, e_BI, e_LI, e_PI, e_KB, e_NB, e_IB, e_LB, e_PB, e_KL, e_NL, e_IL, e_BL, e_PL, e_KP, e_NP, e_IP, e_BP, e_LP, e_IIs, e_BBs, e_LLs, e_PPs, e_IIn, e_BBn, e_LLn, e_PPn, e_IIk, e_BBk, e_LLk, e_PPk, e_Ks, e_Ns, e_Is, e_Bs, e_Ls, e_Ps, e_Kn, e_Nn, e_In, e_Bn, e_Ln, e_Pn, if_true, if_false, and_self, or_true, true_or, not_false_eq_true, Bool.false_eq_true]; exact rfl) | exact rfl) | ((with_reducible apply ev_cl); · first | (simp (disch := omega) only [w.1, wn.1, w5.1, c_isWithin, d1, hx, hcl, q1, q2, h10, ei, kn, e5, x1, x2, e_KI, e_NI, e_BI, e_LI, e_PI, e_KB, e_NB, e_IB, e_LB, e_PB, e_KL, e_NL, e_IL, e_BL, e_PL, e_KP, e_NP, e_IP, e_BP, e_LP, e_IIs, e_BBs, e_LLs, e_PPs, e_IIn, e_BBn, e_LLn, e_PPn, e_IIk, e_BBk, e_LLk, e_PPk, e_Ks, e_Ns, e_Is, e_Bs, e_Ls, e_Ps, e_Kn, e_Nn, e_In, e_Bn, e_Ln, e_Pn, if_true, if_false, and_self, or_true, true_or, not_false_eq_true, Bool.false_eq_true]; exact rfl) | exact rfl) | ((with_reducible apply ev_g); · first | (simp (disch := omega) only [w.1, wn.1, w5.1, c_isWithin, d1, hx, hcl, q1, q2, h10, ei, kn, e5, x1, x2, e_KI, e_NI, e_BI, e_LI, e_PI, e_KB, e_NB, e_IB, e_LB, e_PB, e_KL, e_NL, e_IL, e_BL, e_PL, e_KP, e_NP, e_IP, e_BP, e_LP, e_IIs, e_BBs, e_LLs, e_PPs, e_IIn, e_BBn, e_LLn, e_PPn, e_IIk, e_BBk, e_LLk, e_PPk, e_Ks, e_Ns, e_Is, e_Bs, e_Ls, e_Ps, e_Kn, e_Nn, e_In, e_Bn, e_Ln, e_Pn, if_true, if_false, and_self, or_true, true_or, not_false_eq_true, Bool.false_eq_true]; done) | (simp (disch := omega) only [w.1, wn.1, w5.1, c_isWithin, d1, hx, hcl, q1, q2, h10, ei, kn, e5, x1, x2, e_KI, e_NI, e_BI, e_LI, e_PI, e_KB, e_NB, e_IB, e_LB, e_PB, e_KL, e_NL, e_IL, e_BL, e_PL, e_KP, e_NP, e_IP, e_BP, e_LP, e_IIs, e_BBs, e_LLs, e_PPs, e_IIn, e_BBn, e_LLn, e_PPn, e_IIk, e_BBk, e_LLk, e_PPk, e_Ks, e_Ns, e_Is, e_Bs, e_Ls, e_Ps, e_Kn, e_Nn, e_In, e_Bn, e_Ln, e_Pn, if_true, if_false, and_self, or_true, true_or, not_false_eq_true, Bool.false_eq_true]; decide) | decide) | ((with_reducible apply ev_t); · first | (simp (disch := omega) only [w.1, wn.1, w5.1, c_isWithin, d1, hx, hcl, q1, q2, h10, ei, kn, e5, x1, x2, e_KI, e_NI, e_BI, e_LI, e_PI, e_KB, e_NB, e_IB, e_LB, e_PB, e_KL, e_NL, e_IL, e_BL, e_PL, e_KP, e_NP, e_IP, e_BP, e_LP, e_IIs, e_BBs, e_LLs, e_PPs, e_IIn, e_BBn, e_LLn, e_PPn, e_IIk, e_BBk, e_LLk, e_PPk, e_Ks, e_Ns, e_Is, e_Bs, e_Ls, e_Ps, e_Kn, e_Nn, e_In, e_Bn, e_Ln, e_Pn, if_true, if_false, and_self, or_true, true_or, not_false_eq_true, Bool.false_eq_true]; done) | (simp (disch := omega) only [w.1, wn.1, w5.1, c_isWithin, d1, hx, hcl, q1, q2, h10, ei, kn, e5, x1, x2, e_KI, e_NI, e_BI, e_LI, e_PI, e_KB, e_NB, e_IB, e_LB, e_PB, e_KL, e_NL, e_IL, e_BL, e_PL, e_KP, e_NP, e_IP, e_BP, e_LP, e_IIs, e_BBs, e_LLs, e_PPs, e_IIn, e_BBn, e_LLn, e_PPn, e_IIk, e_BBk, e_LLk, e_PPk, e_Ks, e_Ns, e_Is, e_Bs, e_Ls, e_Ps, e_Kn, e_Nn, e_In, e_Bn, e_Ln, e_Pn, if_true, if_false, and_self, or_true, true_or, not_false_eq_true, Bool.false_eq_true]; decide) | decide) | ((with_reducible apply ev_f); · first | (simp (disch := omega) only [w.1, wn.1, w5.1, c_isWithin, d1, hx, hcl, q1, q2, h10, ei, kn, e5, x1, x2, e_KI, e_NI, e_BI, e_LI, e_PI, e_KB, e_NB, e_IB, e_LB, e_PB, e_KL, e_NL, e_IL, e_BL, e_PL, e_KP, e_NP, e_IP, e_BP, e_LP, e_IIs, e_BBs, e_LLs, e_PPs, e_IIn, e_BBn, e_LLn, e_PPn, e_IIk, e_BBk, e_LLk, e_PPk, e_Ks, e_Ns, e_Is, e_Bs, e_Ls, e_Ps, e_Kn, e_Nn, e_In, e_Bn, e_Ln, e_Pn, if_true, if_false, and_self, or_true, true_or, not_false_eq_true, Bool.false_eq_true]; done) | (simp (disch := omega) only [w.1, wn.1, w5.1, c_isWithin, d1, hx, hcl, q1, q2, h10, ei, kn, e5, x1, x2, e_KI, e_NI, e_BI, e_LI, e_PI, e_KB, e_NB, e_IB, e_LB, e_PB, e_KL, e_NL, e_IL, e_BL, e_PL, e_KP, e_NP, e_IP, e_BP, e_LP, e_IIs, e_BBs, e_LLs, e_PPs, e_IIn, e_BBn, e_LLn, e_PPn, e_IIk, e_BBk, e_LLk, e_PPk, e_Ks, e_Ns, e_Is, e_Bs, e_Ls, e_Ps, e_Kn, e_Nn, e_In, e_Bn, e_Ln, e_Pn, if_true, if_false, and_self, or_true, true_or, not_false_eq_true, Bool.false_eq_true]; decide) | decide) | ((with_reducible apply ev_s) <;> (first | (with_reducible rfl) | (simp (disch := omega) only [w.1, wn.1, w5.1, c_isWithin, d1, hx, hcl, q1, q2, h10, ei, kn, e5, x1, x2, e_KI, e_NI, e_BI, e_LI, e_PI, e_KB, e_NB, e_IB, e_LB, e_PB, e_KL, e_NL, e_IL, e_BL, e_PL, e_KP, e_NP, e_IP, e_BP, e_LP, e_IIs, e_BBs, e_LLs, e_PPs, e_IIn, e_BBn, e_LLn, e_PPn, e_IIk, e_BBk, e_LLk, e_PPk, e_Ks, e_Ns, e_Is, e_Bs, e_Ls, e_Ps, e_Kn, e_Nn, e_In, e_Bn, e_Ln, e_Pn, if_true, if_false, and_self, or_true, true_or, not_false_eq_true, Bool.false_eq_true]; done) | (simp (disch := omega) only [w.1, wn.1, w5.1, c_isWithin, d1, hx, hcl, q1, q2, h10, ei, kn, e5, x1, x2, e_KI, e_NI, e_BI, e_LI, e_PI, e_KB, e_NB, e_IB, e_LB, e_PB, e_KL, e_NL, e_IL, e_BL, e_PL, e_KP, e_NP, e_IP, e_BP, e_LP, e_IIs, e_BBs, e_LLs, e_PPs, e_IIn, e_BBn, e_LLn, e_PPn, e_IIk, e_BBk, e_LLk, e_PPk, e_Ks, e_Ns, e_Is, e_Bs, e_Ls, e_Ps, e_Kn, e_Nn, e_In, e_Bn, e_Ln, e_Pn, if_true, if_false, and_self, or_true, true_or, not_false_eq_true, Bool.false_eq_true]; rfl)))))
  · refine ⟨h, c0, s0, by omega, by omega, w, q, ag.refl _ _ _, fun f p3 h5 e5 w5 x1 x2 => ?_⟩
    have hne : ¬ 64 * b + 23 = 0 := by omega
    have q1 := q.1
    have q2 := q.2.1
    unfold f_X10_layOut
    (repeat (first | with_reducible apply ev_jn | ((with_reducible apply ev_bd); · first | (simp (disch := omega) only [w.1, w5.1, c_isWithin, d1, hx, hcl, q1, q2, hne, e5, x1, x2, e_KI, e_NI, e_BI, e_LI, e_PI, e_KB, e_NB, e_IB, e_LB, e_PB, e_KL, e_NL, e_IL, e_BL, e_PL, e_KP, e_NP, e_IP, e_BP, e_LP, e_IIs, e_BBs, e_LLs, e_PPs, e_IIn, e_BBn, e_LLn, e_PPn, e_IIk, e_BBk, e_LLk, e_PPk, e_Ks, e_Ns, e_Is, e_Bs, e_Ls, e_Ps, e_Kn, e_Nn, e_In, e_Bn, e_Ln, e_Pn, if_true, if_false, and_self, or_true, true_or, not_false_eq_true, Bool.false_eq_true]; exact rfl) | exact rfl) | ((with_reducible apply ev_cl); · first | (simp (disch := omega) only [w.1, w5.1, c_isWithin, d1, hx, hcl, q1, q2, hne, e5, x1, x2, e_KI, e_NI, e_BI, e_LI, e_PI, e_KB, e_NB, e_IB, e_LB, e_PB, e_KL, e_NL, e_IL, e_BL, e_PL, e_KP, e_NP, e_IP, e_BP, e_LP, e_IIs, e_BBs, e_LLs, e_PPs, e_IIn, e_BBn, e_LLn, e_PPn, e_IIk, e_BBk, e_LLk, e_PPk, e_Ks, e_Ns, e_Is, e_Bs, e_Ls, e_Ps, e_Kn, e_Nn, e_In, e_Bn, e_Ln, e_Pn, if_true, if_false, and_self, or_true, true_or, not_false_eq_true, Bool.false_eq_true]; exact rfl) | exact rfl) | ((with_reducible apply ev_g); · first | (simp (disch := omega) only [w.1, w5.1, c_isWithin, d1, hx, hcl, q1, q2, hne, e5, x1, x2, e_KI, e_NI, e_BI, e_LI, e_PI, e_KB, e_NB, e_IB, e_LB, e_PB, e_KL, e_NL, e_IL, e_BL, e_PL, e_KP, e_NP, e_IP, e_BP, e_LP, e_IIs, e_BBs, e_LLs, e_PPs, e_IIn, e_BBn, e_LLn, e_PPn, e_IIk, e_BBk, e_LLk, e_PPk, e_Ks, e_Ns, e_Is, e_Bs, e_Ls, e_Ps, e_Kn, e_Nn, e_In, e_Bn, e_Ln, e_Pn, if_true, if_false, and_self, or_true, true_or, not_false_eq_true, Bool.false_eq_true]; done) | (simp (disch := omega) only [w.1, w5.1, c_isWithin, d1, hx, hcl, q1, q2, hne, e5, x1, x2, e_KI, e_NI, e_BI, e_LI, e_PI, e_KB, e_NB, e_IB, e_LB, e_PB, e_KL, e_NL, e_IL, e_BL, e_PL, e_KP, e_NP, e_IP, e_BP, e_LP, e_IIs, e_BBs, e_LLs, e_PPs, e_IIn, e_BBn, e_LLn, e_PPn, e_IIk, e_BBk, e_LLk, e_PPk, e_Ks, e_Ns, e_Is, e_Bs, e_Ls, e_Ps, e_Kn, e_Nn, e_In, e_Bn, e_Ln, e_Pn, if_true, if_false, and_self, or_true, true_or, not_false_eq_true, Bool.false_eq_true]; decide) | decide) | ((with_reducible apply ev_t); · first | (simp (disch := omega) only [w.1, w5.1, c_isWithin, d1, hx, hcl, q1, q2, hne, e5, x1, x2, e_KI, e_NI, e_BI, e_LI, e_PI, e_KB, e_NB, e_IB, e_LB, e_PB, e_KL, e_NL, e_IL, e_BL, e_PL, e_KP, e_NP, e_IP, e_BP, e_LP, e_IIs, e_BBs, e_LLs, e_PPs, e_IIn, e_BBn, e_LLn, e_PPn, e_IIk, e_BBk, e_LLk, e_PPk, e_Ks, e_Ns, e_Is, e_Bs, e_Ls, e_Ps, e_Kn, e_Nn, e_In, e_Bn, e_Ln, e_Pn, if_true, if_false, and_self, or_true, true_or, not_false_eq_true, Bool.false_eq_true]; done) | (simp (disch := omega) only [w.1, w5.1, c_isWithin, d1, hx, hcl, q1, q2, hne, e5, x1, x2, e_KI, e_NI, e_BI, e_LI, e_PI, e_KB, e_NB, e_IB, e_LB, e_PB, e_KL, e_NL, e_IL, e_BL, e_PL, e_KP, e_NP, e_IP, e_BP, e_LP, e_IIs, e_BBs, e_LLs, e_PPs, e_IIn, e_BBn, e_LLn, e_PPn, e_IIk, e_BBk, e_LLk, e_PPk, e_Ks, e_Ns, e_Is, e_Bs, e_Ls, e_Ps, e_Kn, e_Nn, e_In, e_Bn, e_Ln, e_Pn, if_true, if_false, and_self, or_true, true_or, not_false_eq_true, Bool.false_eq_true]; decide) | decide) | ((with_reducible apply ev_f); · first | (simp (disch := omega) only [w.1, w5.1, c_isWithin, d1, hx, hcl, q1, q2, hne, e5, x1, x2, e_KI, e_NI, e_BI, e_LI, e_PI, e_KB, e_NB, e_IB, e_LB, e_PB, e_KL, e_NL, e_IL, e_BL, e_PL, e_KP, e_NP, e_IP, e_BP, e_LP, e_IIs, e_BBs, e_LLs, e_PPs, e_IIn, e_BBn, e_LLn, e_PPn, e_IIk, e_BBk, e_LLk, e_PPk, e_Ks, e_Ns, e_Is, e_Bs, e_Ls, e_Ps, e_Kn, e_Nn, e_In, e_Bn, e_Ln, e_Pn, if_true, if_false, and_self, or_true, true_or, not_false_eq_true, Bool.false_eq_true]; done) | (simp (disch := omega) only [w.1, w5.1, c_isWithin, d1, hx, hcl, q1, q2, hne, e5, x1, x2, e_KI, e_NI, e_BI, e_LI, e_PI, e_KB, e_NB, e_IB, e_LB, e_PB, e_KL, e_NL, e_IL, e_BL, e_PL, e_KP, e_NP, e_IP, e_BP, e_LP, e_IIs, e_BBs, e_LLs, e_PPs, e_IIn, e_BBn, e_LLn, e_PPn, e_IIk, e_BBk, e_LLk, e_PPk, e_Ks, e_Ns, e_Is, e_Bs, e_Ls, e_Ps, e_Kn, e_Nn, e_In, e_Bn, e_Ln, e_Pn, if_true, if_false, and_self, or_true, true_or, not_false_eq_true, Bool.false_eq_true]; decide) | decide) | ((with_reducible apply ev_s) <;> (first | (with_reducible rfl) | (simp (disch := omega) only [w.1, w5.1, c_isWithin, d1, hx, hcl, q1, q2, hne, e5, x1, x2, e_KI, e_NI, e_BI, e_LI, e_PI, e_KB, e_NB, e_IB, e_LB, e_PB, e_KL, e_NL, e_IL, e_BL, e_PL, e_KP, e_NP, e_IP, e_BP, e_LP, e_IIs, e_BBs, e_LLs, e_PPs, e_IIn, e_BBn, e_LLn, e_PPn, e_IIk, e_BBk, e_LLk, e_PPk, e_Ks, e_Ns, e_Is, e_Bs, e_Ls, e_Ps, e_Kn, e_Nn, e_In, e_Bn, e_Ln, e_Pn, if_true, if_false, and_self, or_true, true_or, not_false_eq_true, Bool.false_eq_true]; done) | (simp (disch := omega) only [w.1, w5.1, c_isWithin, d1, hx, hcl, q1, q2, hne, e5, x1, x2, e_KI, e_NI, e_BI, e_LI, e_PI, e_KB, e_NB, e_IB, e_LB, e_PB, e_KL, e_NL, e_IL, e_BL, e_PL, e_KP, e_NP, e_IP, e_BP, e_LP, e_IIs, e_BBs, e_LLs, e_PPs, e_IIn, e_BBn, e_LLn, e_PPn, e_IIk, e_BBk, e_LLk, e_PPk, e_Ks, e_Ns, e_Is, e_Bs, e_Ls, e_Ps, e_Kn, e_Nn, e_In, e_Bn, e_Ln, e_Pn, if_true, if_false, and_self, or_true, true_or, not_false_eq_true, Bool.false_eq_true]; rfl)))))
end BA
