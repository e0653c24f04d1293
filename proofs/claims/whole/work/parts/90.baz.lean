/-! bay: the model's part -/
section BZ
variable {h : y_H} {t e N C S A b m : Nat}
theorem m_bay0 {p1 p2 p3 : Int32} (d1 : decide (0 ≤ p1 ∧ p1 ≤ 9) = true) (hc : decide (0 ≤ p2 ∧ p2 ≤ 3) = false ∨ p3 ≤ 0) : f_X12_bay 11 p1 p2 p3 h = some (-2, h) := by
  suffices H : wp (f_X12_bay 11 p1 p2 p3 h) fun r h' => r = -2 ∧ h' = h by
    obtain ⟨r, h', e1, rfl, rfl⟩ := wp_ex H
    exact e1
  unfold f_X12_bay
  have n0 : ¬ (1 : Int32) = 0 := by decide
  rcases hc with hc | hc
  · simp only [m_in, d1, hc, e_cl, e_jn, if_true, Bool.false_eq_true, if_false]
    refine wp_jl (fun n j => ∀ (i v5 : Int32), (v5 ≤ 0 ∧ 0 < n ∨ ∃ m' k, v5 = nI m' ∧ 1 ≤ m' ∧ m' < 2 ^ 31 ∧ m' < 10 ^ k ∧ k < n) → wp (j 11 p1 p2 p3 i v5 0 h) fun r h' => r = -2 ∧ h' = h) (fun i v5 z => ?_) (fun n j IH i v5 z => ?_) (fun j IH => ?_)
    · rcases z with z | ⟨_, _, _, _, _, _, z⟩
      · exact absurd z.2 (by omega)
      · exact absurd z (by omega)
    · rcases z with ⟨z, -⟩ | ⟨m', k, rfl, z1, z2, z3, z4⟩
      · simp only [z, if_true, wp_some, and_self]
      · have q2 : ¬ nI m' ≤ 0 := fun z => absurd ((nI_leI (a := m') (b := 0) (by omega) (by decide)).mp z) (by omega)
        simp only [q2, if_false, if_true, i_d10 z2]
        refine IH _ _ ?_
        obtain ⟨k', rfl⟩ : ∃ k', k = k' + 1 := by
          cases k with
          | zero => exact absurd z3 (by simp only [Nat.pow_zero]; omega)
          | succ k' => exact ⟨k', rfl⟩
        have : 10 ^ (k' + 1) = 10 * 10 ^ k' := by rw [Nat.pow_succ, Nat.mul_comm]
        by_cases e0 : m' / 10 = 0
        · rw [e0]
          exact Or.inl ⟨by decide, by omega⟩
        · exact Or.inr ⟨m' / 10, k', rfl, by omega, by omega, by omega, by omega⟩
    · refine IH 0 p3 ?_
      rcases i_sg p3 with z | ⟨m', z1, z2, rfl⟩
      · exact Or.inl ⟨z.1, by unfold y_fu; omega⟩
      · exact Or.inr ⟨m', 10, rfl, z1, z2, by omega, by unfold y_fu; omega⟩
  · cases d2 : decide (0 ≤ p2 ∧ p2 ≤ 3)
    · simp only [m_in, d1, d2, e_cl, e_jn, hc, if_true, Bool.false_eq_true, if_false]
      refine wp_jl (fun n j => 0 < n → wp (j 11 p1 p2 p3 0 p3 0 h) fun r h' => r = -2 ∧ h' = h) (fun z => absurd z (by omega)) (fun n j IH z => ?_) (fun j IH => IH (by unfold y_fu; omega))
      simp only [hc, if_true, wp_some, and_self]
    · simp only [m_in, d1, d2, e_cl, e_jn, hc, if_true]
      refine wp_jl (fun n j => 0 < n → wp (j 11 p1 p2 p3 0 p3 0 h) fun r h' => r = -2 ∧ h' = h) (fun z => absurd z (by omega)) (fun n j IH z => ?_) (fun j IH => IH (by unfold y_fu; omega))
      simp only [hc, if_true, wp_some, and_self]
theorem m_bay2 {p1 p2 : Int32} (d1 : decide (0 ≤ p1 ∧ p1 ≤ 9) = true) (d2 : decide (0 ≤ p2 ∧ p2 ≤ 3) = true) (hm : 1 ≤ m) (hm2 : m < 2 ^ 31) (hv : vd 6 m = false) : f_X12_bay 11 p1 p2 (nI m) h = some (-2, h) := by
  suffices H : wp (f_X12_bay 11 p1 p2 (nI m) h) fun r h' => r = -2 ∧ h' = h by
    obtain ⟨r, h', e1, rfl, rfl⟩ := wp_ex H
    exact e1
  have n0 : ¬ (1 : Int32) = 0 := by decide
  have q0 : ¬ nI m ≤ 0 := fun z => absurd ((nI_leI (a := m) (b := 0) (by omega) (by decide)).mp z) (by omega)
  unfold f_X12_bay
  simp only [m_in, d1, d2, q0, e_cl, e_jn, if_true, if_false]
  refine wp_jl (fun n j => ∀ (i m' k : Nat) (g : Int32), m' < 2 ^ 31 → m' < 10 ^ k → k < n → (g = 0 ∨ g = 1 ∧ i ≤ 6 ∧ vd (6 - i) m' = false) → wp (j 11 p1 p2 (nI m) (nI i) (nI m') g h) fun r h' => r = -2 ∧ h' = h) (fun _ _ _ _ _ _ z => absurd z (by omega)) (fun n j IH i m' k g z1 z2 z3 z4 => ?_) (fun j IH => ?_)
  rotate_left
  · exact IH 0 m 10 1 hm2 (by omega) (by unfold y_fu; omega) (Or.inr ⟨rfl, by omega, hv⟩)
  by_cases e0 : m' = 0
  · subst e0
    have q2 : nI 0 ≤ 0 := by decide
    rcases z4 with z4 | ⟨-, -, z4⟩
    · subst z4
      simp only [q2, if_true, wp_some, and_self]
    · rw [vd_0] at z4
      exact absurd z4 (by decide)
  · have q2 : ¬ nI m' ≤ 0 := fun z => absurd ((nI_leI (a := m') (b := 0) (by omega) (by decide)).mp z) (by omega)
    obtain ⟨k', rfl⟩ : ∃ k', k = k' + 1 := by
      cases k with
      | zero => exact absurd z2 (by simp only [Nat.pow_zero]; omega)
      | succ k' => exact ⟨k', rfl⟩
    have : 10 ^ (k' + 1) = 10 * 10 ^ k' := by rw [Nat.pow_succ, Nat.mul_comm]
    have nx0 := IH (i + 1) (m' / 10) k' 0 (by omega) (by omega) (by omega) (Or.inl rfl)
    rcases z4 with z4 | ⟨z4, z5, z6⟩
    · subst z4
      simp only [q2, if_true, if_false, i_d10 z1, nI_1]
      exact nx0
    · subst z4
      by_cases e6 : i = 6
      · subst e6
        have q : (6 : Int32) ≤ nI 6 := by decide
        simp only [q2, n0, q, if_true, if_false, i_d10 z1, nI_1]
        exact nx0
      · have q : ¬ (6 : Int32) ≤ nI i := nI_ge (a := i) (b := 6) (by omega) (by decide)
        obtain ⟨f, ef⟩ : ∃ f, 6 - i = f + 1 := ⟨5 - i, by omega⟩
        have ef2 : 6 - (i + 1) = f := by omega
        rw [ef, vd_p e0] at z6
        simp only [q2, n0, q, if_false, e_cl, i_r10' z1, i_w15 (show m' % 10 < 2 ^ 31 by omega), i_d10 z1, nI_1]
        cases hd : decide (1 ≤ m' % 10 ∧ m' % 10 ≤ 5) with
        | false =>
          simp only [Bool.false_eq_true, if_false]
          exact nx0
        | true =>
          rw [hd, Bool.true_and] at z6
          simp only [if_true]
          exact IH (i + 1) (m' / 10) k' 1 (by omega) (by omega) (by omega) (Or.inr ⟨rfl, by omega, by rw [ef2]; exact z6⟩)
def hvM (h : y_H) (b D : Nat) (f : Int32) : y_H := s_I (s_I (s_B h 994 b true) 1058 b f) 1122 b (nI D)
theorem m_bay1 {p2 : Int32} (w : Sh h) (hb : b < 10) (d2 : decide (0 ≤ p2 ∧ p2 ≤ 3) = true) (hm : 1 ≤ m) (hm2 : m < 2 ^ 31) (hv : vd 6 m = true) : wp (f_X12_bay 11 (nI b) p2 (nI m) h) fun r h' => if y_B h 994 b = true then r = -3 ∧ h' = h else r = nI (nd 6 m) ∧ ag (fun a k => (a = 994 ∨ a = 1058 ∨ a = 1122) ∧ k = b ∨ a = 1186 ∧ 6 * b ≤ k ∧ k < 6 * b + 6 ∨ a = 11 ∧ k = 50) (fun _ => False) h h' ∧ y_B h' 994 b = true ∧ y_I h' 1058 b = p2 ∧ y_I h' 1122 b = nI (nd 6 m) ∧ (∀ s, s < nd 6 m → y_I h' 1186 (6 * b + s) = nI (m / 10 ^ s % 10)) ∧ y_I h' 11 50 = 0 := by
  suffices H : ∀ Q : Int32 → y_H → Prop, (∀ r h', (if y_B h 994 b = true then r = -3 ∧ h' = h else r = nI (nd 6 m) ∧ ag (fun a k => (a = 994 ∨ a = 1058 ∨ a = 1122) ∧ k = b ∨ a = 1186 ∧ 6 * b ≤ k ∧ k < 6 * b + 6 ∨ a = 11 ∧ k = 50) (fun _ => False) h h' ∧ y_B h' 994 b = true ∧ y_I h' 1058 b = p2 ∧ y_I h' 1122 b = nI (nd 6 m) ∧ (∀ s, s < nd 6 m → y_I h' 1186 (6 * b + s) = nI (m / 10 ^ s % 10)) ∧ y_I h' 11 50 = 0) → Q r h') → wp (f_X12_bay 11 (nI b) p2 (nI m) h) Q from H _ (fun _ _ q => q)
  intro Q hQ
  have n0 : ¬ (1 : Int32) = 0 := by decide
  have d1 : decide (0 ≤ nI b ∧ nI b ≤ 9) = true := i_dt (x := 0) (y := b) (z := 9) rfl rfl rfl (by omega)
  have q0 : ¬ nI m ≤ 0 := fun z => absurd ((nI_leI (a := m) (b := 0) (by omega) (by decide)).mp z) (by omega)
  obtain ⟨D1, D2, D3, D4⟩ := vd_dg 6 m hv
  have xb := i_ix hb (by decide)
  have cb := i_cl (show b < 2 ^ 31 by omega)
  unfold f_X12_bay
  simp only [m_in, d1, d2, q0, e_cl, e_jn, if_true, if_false]
  refine wp_jl (fun n j => ∀ (i m' : Nat), i ≤ 6 → 6 - i < n → m' < 2 ^ 31 → vd (6 - i) m' = true → i + nd (6 - i) m' = nd 6 m → wp (j 11 (nI b) p2 (nI m) (nI i) (nI m') 1 h) Q) (fun _ _ _ z => absurd z (by omega)) (fun n j IH i m' z1 z2 z3 z4 z5 => ?_) (fun j IH => ?_)
  rotate_left
  · exact IH 0 m (by omega) (by unfold y_fu; omega) hm2 hv (by simp only [Nat.zero_add, Nat.sub_zero])
  by_cases e0 : m' = 0
  rotate_left
  · have q2 : ¬ nI m' ≤ 0 := fun z => absurd ((nI_leI (a := m') (b := 0) (by omega) (by decide)).mp z) (by omega)
    by_cases e6 : i = 6
    · subst e6
      exact absurd (of_decide_eq_true z4) e0
    · have q : ¬ (6 : Int32) ≤ nI i := nI_ge (a := i) (b := 6) (by omega) (by decide)
      obtain ⟨f, ef⟩ : ∃ f, 6 - i = f + 1 := ⟨5 - i, by omega⟩
      have ef2 : 6 - (i + 1) = f := by omega
      rw [ef] at z4 z5
      rw [vd_p e0, Bool.and_eq_true] at z4
      rw [nd, if_neg e0] at z5
      simp only [q2, n0, q, if_false, e_cl, i_r10' z3, i_w15 (show m' % 10 < 2 ^ 31 by omega), i_d10 z3, nI_1, z4.1, if_true]
      exact IH (i + 1) (m' / 10) (by omega) (by omega) (by omega) (by rw [ef2]; exact z4.2) (by rw [ef2]; omega)
  subst e0
  have en : i = nd 6 m := by
    have : nd (6 - i) 0 = 0 := by cases 6 - i <;> rfl
    omega
  subst en
  have q2 : nI 0 ≤ 0 := by decide
  by_cases hl : y_B h 994 b = true
  · simp only [q2, if_true, n0, if_false, w.2, xb, cb, hl, and_self, wp_some]
    refine hQ _ _ ?_
    rw [if_pos hl]
    exact ⟨rfl, rfl⟩
  (repeat (first | with_reducible apply wp_jn | ((with_reducible apply wp_be); · first | (simp (disch := omega) only [w.2, q2, n0, xb, cb, hl, e_KI, e_NI, e_BI, e_LI, e_PI, e_KB, e_NB, e_IB, e_LB, e_PB, e_KL, e_NL, e_IL, e_BL, e_PL, e_KP, e_NP, e_IP, e_BP, e_LP, e_IIs, e_BBs, e_LLs, e_PPs, e_IIn, e_BBn, e_LLn, e_PPn, e_IIk, e_BBk, e_LLk, e_PPk, e_Ks, e_Ns, e_Is, e_Bs, e_Ls, e_Ps, e_Kn, e_Nn, e_In, e_Bn, e_Ln, e_Pn, if_true, if_false, and_self, or_true, true_or, not_false_eq_true, Bool.false_eq_true]; exact rfl) | exact rfl) | ((with_reducible apply wp_ce); · first | (simp (disch := omega) only [w.2, q2, n0, xb, cb, hl, e_KI, e_NI, e_BI, e_LI, e_PI, e_KB, e_NB, e_IB, e_LB, e_PB, e_KL, e_NL, e_IL, e_BL, e_PL, e_KP, e_NP, e_IP, e_BP, e_LP, e_IIs, e_BBs, e_LLs, e_PPs, e_IIn, e_BBn, e_LLn, e_PPn, e_IIk, e_BBk, e_LLk, e_PPk, e_Ks, e_Ns, e_Is, e_Bs, e_Ls, e_Ps, e_Kn, e_Nn, e_In, e_Bn, e_Ln, e_Pn, if_true, if_false, and_self, or_true, true_or, not_false_eq_true, Bool.false_eq_true]; exact rfl) | exact rfl) | ((with_reducible apply wp_g); · first | (simp (disch := omega) only [w.2, q2, n0, xb, cb, hl, e_KI, e_NI, e_BI, e_LI, e_PI, e_KB, e_NB, e_IB, e_LB, e_PB, e_KL, e_NL, e_IL, e_BL, e_PL, e_KP, e_NP, e_IP, e_BP, e_LP, e_IIs, e_BBs, e_LLs, e_PPs, e_IIn, e_BBn, e_LLn, e_PPn, e_IIk, e_BBk, e_LLk, e_PPk, e_Ks, e_Ns, e_Is, e_Bs, e_Ls, e_Ps, e_Kn, e_Nn, e_In, e_Bn, e_Ln, e_Pn, if_true, if_false, and_self, or_true, true_or, not_false_eq_true, Bool.false_eq_true]; done) | (simp (disch := omega) only [w.2, q2, n0, xb, cb, hl, e_KI, e_NI, e_BI, e_LI, e_PI, e_KB, e_NB, e_IB, e_LB, e_PB, e_KL, e_NL, e_IL, e_BL, e_PL, e_KP, e_NP, e_IP, e_BP, e_LP, e_IIs, e_BBs, e_LLs, e_PPs, e_IIn, e_BBn, e_LLn, e_PPn, e_IIk, e_BBk, e_LLk, e_PPk, e_Ks, e_Ns, e_Is, e_Bs, e_Ls, e_Ps, e_Kn, e_Nn, e_In, e_Bn, e_Ln, e_Pn, if_true, if_false, and_self, or_true, true_or, not_false_eq_true, Bool.false_eq_true]; decide) | decide) | ((with_reducible apply wp_pos); · first | (simp (disch := omega) only [w.2, q2, n0, xb, cb, hl, e_KI, e_NI, e_BI, e_LI, e_PI, e_KB, e_NB, e_IB, e_LB, e_PB, e_KL, e_NL, e_IL, e_BL, e_PL, e_KP, e_NP, e_IP, e_BP, e_LP, e_IIs, e_BBs, e_LLs, e_PPs, e_IIn, e_BBn, e_LLn, e_PPn, e_IIk, e_BBk, e_LLk, e_PPk, e_Ks, e_Ns, e_Is, e_Bs, e_Ls, e_Ps, e_Kn, e_Nn, e_In, e_Bn, e_Ln, e_Pn, if_true, if_false, and_self, or_true, true_or, not_false_eq_true, Bool.false_eq_true]; done) | (simp (disch := omega) only [w.2, q2, n0, xb, cb, hl, e_KI, e_NI, e_BI, e_LI, e_PI, e_KB, e_NB, e_IB, e_LB, e_PB, e_KL, e_NL, e_IL, e_BL, e_PL, e_KP, e_NP, e_IP, e_BP, e_LP, e_IIs, e_BBs, e_LLs, e_PPs, e_IIn, e_BBn, e_LLn, e_PPn, e_IIk, e_BBk, e_LLk, e_PPk, e_Ks, e_Ns, e_Is, e_Bs, e_Ls, e_Ps, e_Kn, e_Nn, e_In, e_Bn, e_Ln, e_Pn, if_true, if_false, and_self, or_true, true_or, not_false_eq_true, Bool.false_eq_true]; decide) | decide) | ((with_reducible apply wp_neg); · first | (simp (disch := omega) only [w.2, q2, n0, xb, cb, hl, e_KI, e_NI, e_BI, e_LI, e_PI, e_KB, e_NB, e_IB, e_LB, e_PB, e_KL, e_NL, e_IL, e_BL, e_PL, e_KP, e_NP, e_IP, e_BP, e_LP, e_IIs, e_BBs, e_LLs, e_PPs, e_IIn, e_BBn, e_LLn, e_PPn, e_IIk, e_BBk, e_LLk, e_PPk, e_Ks, e_Ns, e_Is, e_Bs, e_Ls, e_Ps, e_Kn, e_Nn, e_In, e_Bn, e_Ln, e_Pn, if_true, if_false, and_self, or_true, true_or, not_false_eq_true, Bool.false_eq_true]; done) | (simp (disch := omega) only [w.2, q2, n0, xb, cb, hl, e_KI, e_NI, e_BI, e_LI, e_PI, e_KB, e_NB, e_IB, e_LB, e_PB, e_KL, e_NL, e_IL, e_BL, e_PL, e_KP, e_NP, e_IP, e_BP, e_LP, e_IIs, e_BBs, e_LLs, e_PPs, e_IIn, e_BBn, e_LLn, e_PPn, e_IIk, e_BBk, e_LLk, e_PPk, e_Ks, e_Ns, e_Is, e_Bs, e_Ls, e_Ps, e_Kn, e_Nn, e_In, e_Bn, e_Ln, e_Pn, if_true, if_false, and_self, or_true, true_or, not_false_eq_true, Bool.false_eq_true]; decide) | decide)))
  have g0 : ag (fun a k => (a = 994 ∨ a = 1058 ∨ a = 1122) ∧ k = b ∨ a = 1186 ∧ 6 * b ≤ k ∧ k < 6 * b + 6 ∨ a = 11 ∧ k = 50) (fun _ => False) h (hvM h b (nd 6 m) p2) := by
    unfold hvM
    ((repeat' (first | exact ag.refl _ _ _ | apply ag.sI | apply ag.sB | apply ag.sP | apply ag.sL | (apply ag.cm) | (apply ag.mm))) <;> (first | omega | (dsimp only; omega) | (intro k; dsimp only; omega)))
  have wM : Sh (hvM h b (nd 6 m) p2) := by
    unfold hvM
    exact Sh_sI (Sh_sI (Sh_sB w))
  have vM : y_B (hvM h b (nd 6 m) p2) 994 b = true ∧ y_I (hvM h b (nd 6 m) p2) 1058 b = p2 ∧ y_I (hvM h b (nd 6 m) p2) 1122 b = nI (nd 6 m) := by
    simp (disch := omega) only [hvM, e_KI, e_NI, e_BI, e_LI, e_PI, e_KB, e_NB, e_IB, e_LB, e_PB, e_KL, e_NL, e_IL, e_BL, e_PL, e_KP, e_NP, e_IP, e_BP, e_LP, e_IIs, e_BBs, e_LLs, e_PPs, e_IIn, e_BBn, e_LLn, e_PPn, e_IIk, e_BBk, e_LLk, e_PPk, and_self]
  refine wp_jl (fun n j => ∀ (s : Nat) (h2 : y_H), s ≤ nd 6 m → nd 6 m - s < n → ag (fun a k => a = 1186 ∧ 6 * b ≤ k ∧ k < 6 * b + 6) (fun _ => False) (hvM h b (nd 6 m) p2) h2 → (∀ i, i < s → y_I h2 1186 (6 * b + i) = nI (m / 10 ^ i % 10)) → wp (j 11 (nI b) (nI (nd 6 m)) (nI (m / 10 ^ s)) (nI s) h2) Q) (fun _ _ _ z => absurd z (by omega)) (fun n j IH2 s h2 y1 y2 y3 y4 => ?_) (fun j IH2 => ?_)
  rotate_left
  · have z := IH2 0 (hvM h b (nd 6 m) p2) (by omega) (by unfold y_fu; omega) (ag.refl _ _ _) (fun i hi => absurd hi (by omega))
    rw [Nat.pow_zero, Nat.div_one] at z
    exact z
  have w2 : Sh h2 := (Sh_ag y3 (by intro a k q; (simp only [FSh] at q ⊢) <;> omega) (by intro a q; (simp only [GSh, not_false_eq_true] at q ⊢) <;> omega) wM)
  by_cases es : s = nd 6 m
  · subst es
    have q : nI (nd 6 m) ≤ nI (nd 6 m) := nI_le (Nat.le_refl _) (by omega)
    simp only [q, if_true, w2.2, e_bd, wp_some]
    refine hQ _ _ ?_
    rw [if_neg hl]
    have g1 := g0.trans (y3.mono (fun a k q => Or.inr (Or.inl q)) (fun a q => q))
    refine ⟨rfl, g1.sI (by omega), ?_, ?_, ?_, fun i hi => ?_, e_IIs⟩
    · exact (y3.B (by omega)).trans vM.1
    · rw [e_IIn (by omega), y3.I (by omega)]
      exact vM.2.1
    · rw [e_IIn (by omega), y3.I (by omega)]
      exact vM.2.2
    · rw [e_IIn (by omega)]
      exact y4 i hi
  · have q : ¬ nI (nd 6 m) ≤ nI s := nI_ge (by omega) (by omega)
    have hms : m / 10 ^ s < 2 ^ 31 := Nat.lt_of_le_of_lt (Nat.div_le_self _ _) hm2
    have ix := i_ix (show 6 * b + s < 60 by omega) (by decide)
    have ic := i_cl (show 6 * b + s < 2 ^ 31 by omega)
    have ed : m / 10 ^ s / 10 = m / 10 ^ (s + 1) := by rw [Nat.div_div_eq_div_mul, Nat.pow_succ]
    simp only [q, if_false, w2.2, i_m6, i_add, ix, ic, and_self, if_true, e_bd, i_r10' hms, i_d10 hms, nI_1, ed]
    refine IH2 (s + 1) _ (by omega) (by omega) (y3.sI ⟨rfl, by omega, by omega⟩) (fun i hi => ?_)
    by_cases ei : i = s
    · subst ei
      exact e_IIs
    · rw [e_IIk (by omega)]
      exact y4 i (by omega)
end BZ
