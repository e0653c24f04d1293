/-! clear: the yard begins -/
section CLR
variable {h : y_H} {t e N C S A : Nat}
def hyC (h : y_H) : y_H := s_I (s_I (s_I (s_I (s_I h 12 1 0) 12 4 0) 12 6 0) 12 9 0) 12 11 0
theorem c_ybegin (w : Sh h) (hb : ∀ b, b < 10 → y_P h 99 b = 0 ∨ y_P h 99 b = 64 * b + 23 ∧ y_K h (64 * b + 23) = 2) : wp (f_X10_begin 12 h) fun _ h' => ag (fun a k => a = 12 ∧ (k = 1 ∨ k = 4 ∨ k = 6 ∨ k = 9 ∨ k = 11) ∨ a = 291 ∧ k < 3 ∨ a = 355 ∧ k < 25 ∨ a = 16 ∧ k = 1 ∨ a % 64 = 23 ∧ k = 5) (fun _ => False) h h' ∧ (y_I h' 12 1 = 0 ∧ y_I h' 12 4 = 0 ∧ y_I h' 12 6 = 0 ∧ y_I h' 12 9 = 0 ∧ y_I h' 12 11 = 0 ∧ y_I h' 16 1 = 0) ∧ (∀ k, k < y_N h 291 → y_I h' 291 k = 1) ∧ (∀ k, k < y_N h 355 → y_I h' 355 k = 0) ∧ ∀ b, b < 10 → y_P h 99 b ≠ 0 → y_B h' (64 * b + 23) 5 = false := by
  have K2 : y_K h 99 = 104 ∧ y_N h 99 = 10 ∧ y_P h 12 2 = 99 ∧ y_K h 12 = 11 ∧ y_P h 12 7 = 291 ∧ y_K h 291 = 100 ∧ y_P h 12 8 = 355 ∧ y_K h 355 = 100 ∧ y_P h 12 12 = 16 ∧ y_K h 16 = 10 ∧ y_N h 291 = 3 ∧ y_N h 355 = 25 := by
    simp only [w.1, true_and, and_true]
  obtain ⟨k99, n99, p2, k12, p7, k291, p8, k355, p12, k16, n7, n8⟩ := K2
  have g0 : ag (fun a k => a = 12 ∧ (k = 1 ∨ k = 4 ∨ k = 6 ∨ k = 9 ∨ k = 11) ∨ a = 291 ∧ k < 3 ∨ a = 355 ∧ k < 25 ∨ a = 16 ∧ k = 1 ∨ a % 64 = 23 ∧ k = 5) (fun _ => False) h (hyC h) := by
    unfold hyC
    ((repeat' (first | exact ag.refl _ _ _ | apply ag.sI | apply ag.sB | apply ag.sP | apply ag.sL | (apply ag.cm) | (apply ag.mm))) <;> (first | omega | (dsimp only; omega) | (intro k; dsimp only; omega)))
  have v0 : y_I (hyC h) 12 1 = 0 ∧ y_I (hyC h) 12 4 = 0 ∧ y_I (hyC h) 12 6 = 0 ∧ y_I (hyC h) 12 9 = 0 ∧ y_I (hyC h) 12 11 = 0 := by
    simp (disch := omega) only [hyC, e_KI, e_NI, e_BI, e_LI, e_PI, e_KB, e_NB, e_IB, e_LB, e_PB, e_KL, e_NL, e_IL, e_BL, e_PL, e_KP, e_NP, e_IP, e_BP, e_LP, e_IIs, e_BBs, e_LLs, e_PPs, e_IIn, e_BBn, e_LLn, e_PPn, e_IIk, e_BBk, e_LLk, e_PPk, and_self]
  have ef1 := c_fill2 (h := hyC h) (p := 291) (n := y_N h 291) (v := 1) k291 rfl (by omega)
  unfold f_X10_begin
  simp only [k12, e_KI, e_PI, p7, if_true, e_bd]
  refine wp_call ef1 (fun _ h1 q => ?_)
  obtain ⟨g1, l1⟩ := q
  have k1 : y_K h1 12 = 11 := (g1.K (fun q => q)).trans k12
  have q1 : y_P h1 12 8 = 355 := (g1.P (by omega)).trans p8
  have ef2 := c_fill2 (h := h1) (p := 355) (n := y_N h 355) (v := 0) ((g1.K (fun q => q)).trans k355) (g1.N (fun q => q)) (by omega)
  simp only [k1, q1, if_true]
  refine wp_call ef2 (fun _ h2 q => ?_)
  obtain ⟨g2, l2⟩ := q
  have k2 : y_K h2 12 = 11 := (g2.K (fun q => q)).trans k1
  have q2 : y_P h2 12 12 = 16 := (g2.P (by omega)).trans ((g1.P (by omega)).trans p12)
  have k6 : y_K h2 16 = 10 := (g2.K (fun q => q)).trans ((g1.K (fun q => q)).trans k16)
  have et : f_X9_begin 16 h2 = some ((), s_I h2 16 1 0) := by simp only [f_X9_begin, k6, if_true, and_self, e_cl, e_bd, e_jn]
  simp only [k2, q2, k6, et, e_cl, if_true]
  have gA : ag (fun a k => a = 12 ∧ (k = 1 ∨ k = 4 ∨ k = 6 ∨ k = 9 ∨ k = 11) ∨ a = 291 ∧ k < 3 ∨ a = 355 ∧ k < 25 ∨ a = 16 ∧ k = 1 ∨ a % 64 = 23 ∧ k = 5) (fun _ => False) h (s_I h2 16 1 0) := ag.sI (g0.trans ((g1.mono (fun a k q => Or.inr (Or.inl (by omega))) (fun a q => q)).trans (g2.mono (fun a k q => Or.inr (Or.inr (Or.inl (by omega)))) (fun a q => q)))) (Or.inr (Or.inr (Or.inr (Or.inl ⟨rfl, rfl⟩))))
  have vA : ∀ k, y_I (s_I h2 16 1 0) 12 k = y_I (hyC h) 12 k := fun k => by
    rw [e_IIn (by omega), g2.I (by omega), g1.I (by omega)]
  have lA : ∀ k, k < y_N h 291 → y_I (s_I h2 16 1 0) 291 k = 1 := fun k hk => by
    rw [e_IIn (by omega), g2.I (by omega)]
    exact l1 k hk
  have lB : ∀ k, k < y_N h 355 → y_I (s_I h2 16 1 0) 355 k = 0 := fun k hk => by
    rw [e_IIn (by omega)]
    exact l2 k hk
  have wA : y_I (s_I h2 16 1 0) 16 1 = 0 := e_IIs
  generalize s_I h2 16 1 0 = h3 at gA vA lA lB wA
  refine wp_jl (fun m j => ∀ i h4, i ≤ 10 → 10 - i < m → ag (fun a k => a % 64 = 23 ∧ k = 5) (fun _ => False) h3 h4 → (∀ b, b < i → y_P h 99 b ≠ 0 → y_B h4 (64 * b + 23) 5 = false) → wp (j 12 (nI i) h4) fun _ h' => ag (fun a k => a = 12 ∧ (k = 1 ∨ k = 4 ∨ k = 6 ∨ k = 9 ∨ k = 11) ∨ a = 291 ∧ k < 3 ∨ a = 355 ∧ k < 25 ∨ a = 16 ∧ k = 1 ∨ a % 64 = 23 ∧ k = 5) (fun _ => False) h h' ∧ (y_I h' 12 1 = 0 ∧ y_I h' 12 4 = 0 ∧ y_I h' 12 6 = 0 ∧ y_I h' 12 9 = 0 ∧ y_I h' 12 11 = 0 ∧ y_I h' 16 1 = 0) ∧ (∀ k, k < y_N h 291 → y_I h' 291 k = 1) ∧ (∀ k, k < y_N h 355 → y_I h' 355 k = 0) ∧ ∀ b, b < 10 → y_P h 99 b ≠ 0 → y_B h' (64 * b + 23) 5 = false) (fun i _ _ hm => absurd hm (by omega)) (fun m j IH i h4 hi hm g l => ?_) (fun j IH => ?_)
  · have k4 : y_K h4 12 = 11 := (g.K (fun q => q)).trans ((gA.K (fun q => q)).trans k12)
    have p4 : y_P h4 12 2 = 99 := (g.P (by omega)).trans ((gA.P (by omega)).trans p2)
    have k9 : y_K h4 99 = 104 := (g.K (fun q => q)).trans ((gA.K (fun q => q)).trans k99)
    have n9 : y_N h4 99 = 10 := (g.N (fun q => q)).trans ((gA.N (fun q => q)).trans n99)
    by_cases e9 : i = 10
    · subst e9
      have q : (10 : Int32) ≤ nI 10 := by decide
      simp only [q, if_true, wp_some]
      refine ⟨gA.trans (g.mono (fun a k q => Or.inr (Or.inr (Or.inr (Or.inr q)))) (fun a q => q)), ?_, fun k hk => (g.I (by omega)).trans (lA k hk), fun k hk => (g.I (by omega)).trans (lB k hk), l⟩
      rw [g.I (by omega), g.I (by omega), g.I (by omega), g.I (by omega), g.I (by omega), g.I (by omega), vA, vA, vA, vA, vA, wA]
      exact ⟨v0.1, v0.2.1, v0.2.2.1, v0.2.2.2.1, v0.2.2.2.2, rfl⟩
    · have q : ¬ (10 : Int32) ≤ nI i := nI_ge (a := i) (b := 10) (by omega) (by decide)
      have ix := i_ix (show i < 10 by omega) (by decide)
      have ic := i_cl (show i < 2 ^ 31 by omega)
      have pi : y_P h4 99 i = y_P h 99 i := (g.P (by omega)).trans (gA.P (by omega))
      rcases hb i (by omega) with z | ⟨z, z2⟩
      · rw [z] at pi
        simp only [q, k4, p4, k9, n9, ix, ic, pi, e_jn, if_true, if_false, and_self, nI_1]
        refine IH (i + 1) h4 (by omega) (by omega) g (fun b hb9 nz => ?_)
        by_cases eb : b = i
        · subst eb
          exact absurd z nz
        · exact l b (by omega) nz
      · rw [z] at pi
        have ne : ¬ 64 * i + 23 = 0 := by omega
        have kb : y_K h4 (64 * i + 23) = 2 := (g.K (fun q => q)).trans ((gA.K (fun q => q)).trans z2)
        simp only [q, k4, p4, k9, n9, ix, ic, pi, ne, kb, e_jn, e_bd, if_true, if_false, and_self, nI_1]
        refine IH (i + 1) _ (by omega) (by omega) (g.sB ⟨by omega, rfl⟩) (fun b hb9 nz => ?_)
        by_cases eb : b = i
        · subst eb
          simp only [e_KI, e_NI, e_BI, e_LI, e_PI, e_KB, e_NB, e_IB, e_LB, e_PB, e_KL, e_NL, e_IL, e_BL, e_PL, e_KP, e_NP, e_IP, e_BP, e_LP, e_IIs, e_BBs, e_LLs, e_PPs, e_IIn, e_BBn, e_LLn, e_PPn, e_IIk, e_BBk, e_LLk, e_PPk]
        · rw [e_BBn (by omega)]
          exact l b (by omega) nz
  · exact IH 0 h3 (by omega) (by unfold y_fu; omega) (ag.refl _ _ _) (fun b hb9 => absurd hb9 (by omega))
/-- the shelves, emptied -/
theorem c_empty (w : Sh h) (hq : ∀ s, s < 4 → ∃ c, 3 ≤ c ∧ c ≤ 127 ∧ y_P h 295 s = 64 * (4 * c + s) + 47 ∧ y_K h (64 * (4 * c + s) + 47) = 100 ∧ y_N h (64 * (4 * c + s) + 47) = c) : wp (f_X8_emptyShelves 15 h) fun _ h' => ag (fun a _ => a = 359 ∨ a % 64 = 47) (fun _ => False) h h' ∧ ∀ r, r < 4 → y_I h' 359 r = 3 ∧ ∀ i, i < 3 → y_I h' (y_P h 295 r) i = -9 := by
  have K2 : y_K h 15 = 9 ∧ y_P h 15 12 = 295 ∧ y_P h 15 13 = 359 ∧ y_K h 295 = 108 ∧ y_N h 295 = 4 ∧ y_K h 359 = 100 ∧ y_N h 359 = 4 := by
    simp only [w.1, and_self]
  obtain ⟨k15, p12, p13, k295, n295, kL, nL⟩ := K2
  unfold f_X8_emptyShelves
  refine wp_jl (fun m j => ∀ s h1, s ≤ 4 → 4 - s < m → ag (fun a _ => a = 359 ∨ a % 64 = 47) (fun _ => False) h h1 → (∀ r, r < s → y_I h1 359 r = 3 ∧ ∀ i, i < 3 → y_I h1 (y_P h 295 r) i = -9) → wp (j 15 (nI s) h1) fun _ h' => ag (fun a _ => a = 359 ∨ a % 64 = 47) (fun _ => False) h h' ∧ ∀ r, r < 4 → y_I h' 359 r = 3 ∧ ∀ i, i < 3 → y_I h' (y_P h 295 r) i = -9) (fun s _ _ hm => absurd hm (by omega)) (fun m j IH s h1 hs hm g l => ?_) (fun j IH => ?_)
  · by_cases e4 : s = 4
    · subst e4
      have q : (4 : Int32) ≤ nI 4 := by decide
      simp only [q, if_true, wp_some]
      exact ⟨g, l⟩
    · have q : ¬ (4 : Int32) ≤ nI s := nI_ge (a := s) (b := 4) (by omega) (by decide)
      have ix := i_ix (show s < 4 by omega) (by decide)
      have ic := i_cl (show s < 2 ^ 31 by omega)
      obtain ⟨c, c1, c2, c3, c4, c5⟩ := hq s (by omega)
      have k1 : y_K h1 15 = 9 := (g.K (fun q => q)).trans k15
      have a1 : y_P h1 15 13 = 359 := (g.P (by omega)).trans p13
      have a2 : y_P h1 15 12 = 295 := (g.P (by omega)).trans p12
      have a3 : y_P h1 295 s = 64 * (4 * c + s) + 47 := (g.P (by omega)).trans c3
      have b1 : y_K h1 359 = 100 := (g.K (fun q => q)).trans kL
      have b2 : y_N h1 359 = 4 := (g.N (fun q => q)).trans nL
      have b3 : y_K h1 295 = 108 := (g.K (fun q => q)).trans k295
      have b4 : y_N h1 295 = 4 := (g.N (fun q => q)).trans n295
      have ef := c_fill (h := s_I h1 359 s 3) (p := 64 * (4 * c + s) + 47) (n := c) (v := -9) ((g.K (fun q => q)).trans c4) ((g.N (fun q => q)).trans c5) (by omega)
      simp only [q, k1, a1, a2, a3, b1, b2, b3, b4, ix, ic, e_KI, e_NI, e_PI, e_bd, if_true, if_false, and_self, nI_1]
      refine wp_call ef (fun _ h2 z => ?_)
      obtain ⟨g2, l2⟩ := z
      refine IH (s + 1) h2 (by omega) (by omega) ((g.sI (Or.inl rfl)).trans (g2.mono (fun a k q => Or.inr (by omega)) (fun a q => q))) (fun r hr => ?_)
      by_cases er : r = s
      · subst er
        refine ⟨(g2.I (by omega)).trans e_IIs, fun i hi => ?_⟩
        rw [c3]
        exact l2 i (by omega)
      · obtain ⟨z1, z2⟩ := l r (by omega)
        obtain ⟨c', d1, d2, d3, -⟩ := hq r (by omega)
        refine ⟨?_, fun i hi => ?_⟩
        · rw [g2.I (by omega), e_IIk er]
          exact z1
        · have z3 := z2 i hi
          rw [d3] at z3 ⊢
          rw [g2.I (by omega), e_IIn (by omega)]
          exact z3
  · exact IH 0 h (by omega) (by unfold y_fu; omega) (ag.refl _ _ _) (fun r hr => absurd hr (by omega))
end CLR
/-! clear: the model begins -/
section CLM
variable {h : y_H}
def hmB (h : y_H) : y_H := s_I (s_L (s_B (s_I (s_I (s_I (s_I (s_I (s_I (s_I (s_I (s_I (s_I (s_I (s_I (s_I h 11 0 0) 11 16 0) 11 25 0) 11 33 0) 11 34 0) 11 46 0) 11 47 0) 11 50 0) 11 55 0) 11 57 0) 11 58 0) 11 59 (-9)) 11 72 0) 11 79 false) 11 80 0) 11 52 (-9)
theorem m_begin (w : Sh h) : wp (f_X12_begin 11 h) fun _ h' => ag (fun a k => a = 994 ∨ a = 1442 ∧ k < 25 ∨ a = 1250 ∨ a = 1314 ∨ a = 2658 ∧ k < 8 ∨ a = 1890 ∧ k < 3 ∨ a = 3746 ∨ a = 3682) (fun _ => False) (hmB h) h' ∧ (∀ k, k < 10 → y_B h' 994 k = false) ∧ (∀ k, k < 25 → y_I h' 1442 k = 0) ∧ (∀ k, k < 60 → y_I h' 1250 k = 0 ∧ y_I h' 1314 k = 0) ∧ (∀ k, k < 8 → y_I h' 2658 k = 0) ∧ (∀ k, k < 3 → y_I h' 1890 k = 1) ∧ (∀ r, r < 4 → y_I h' 3746 r = 3 ∧ ∀ i, i < 3 → y_I h' 3682 (128 * r + i) = -9) := by
  suffices H : ∀ Q : Unit → y_H → Prop, (∀ h', ag (fun a k => a = 994 ∨ a = 1442 ∧ k < 25 ∨ a = 1250 ∨ a = 1314 ∨ a = 2658 ∧ k < 8 ∨ a = 1890 ∧ k < 3 ∨ a = 3746 ∨ a = 3682) (fun _ => False) (hmB h) h' ∧ (∀ k, k < 10 → y_B h' 994 k = false) ∧ (∀ k, k < 25 → y_I h' 1442 k = 0) ∧ (∀ k, k < 60 → y_I h' 1250 k = 0 ∧ y_I h' 1314 k = 0) ∧ (∀ k, k < 8 → y_I h' 2658 k = 0) ∧ (∀ k, k < 3 → y_I h' 1890 k = 1) ∧ (∀ r, r < 4 → y_I h' 3746 r = 3 ∧ ∀ i, i < 3 → y_I h' 3682 (128 * r + i) = -9) → Q () h') → wp (f_X12_begin 11 h) Q from H _ (fun _ q => q)
  intro Q hQ
  have wB : Sh (hmB h) := by
    unfold hmB
    exact Sh_sI (Sh_sL (Sh_sB (Sh_sI (Sh_sI (Sh_sI (Sh_sI (Sh_sI (Sh_sI (Sh_sI (Sh_sI (Sh_sI (Sh_sI (Sh_sI (Sh_sI (Sh_sI w)))))))))))))))
  unfold f_X12_begin
  (repeat (first | with_reducible apply wp_jn | ((with_reducible apply wp_be); · first | (simp (disch := omega) only [w.2, e_KI, e_NI, e_BI, e_LI, e_PI, e_KB, e_NB, e_IB, e_LB, e_PB, e_KL, e_NL, e_IL, e_BL, e_PL, e_KP, e_NP, e_IP, e_BP, e_LP, e_IIs, e_BBs, e_LLs, e_PPs, e_IIn, e_BBn, e_LLn, e_PPn, e_IIk, e_BBk, e_LLk, e_PPk, e_Ks, e_Ns, e_Is, e_Bs, e_Ls, e_Ps, e_Kn, e_Nn, e_In, e_Bn, e_Ln, e_Pn, if_true, if_false, and_self, or_true, true_or, not_false_eq_true, Bool.false_eq_true]; exact rfl) | exact rfl) | ((with_reducible apply wp_ce); · first | (simp (disch := omega) only [w.2, e_KI, e_NI, e_BI, e_LI, e_PI, e_KB, e_NB, e_IB, e_LB, e_PB, e_KL, e_NL, e_IL, e_BL, e_PL, e_KP, e_NP, e_IP, e_BP, e_LP, e_IIs, e_BBs, e_LLs, e_PPs, e_IIn, e_BBn, e_LLn, e_PPn, e_IIk, e_BBk, e_LLk, e_PPk, e_Ks, e_Ns, e_Is, e_Bs, e_Ls, e_Ps, e_Kn, e_Nn, e_In, e_Bn, e_Ln, e_Pn, if_true, if_false, and_self, or_true, true_or, not_false_eq_true, Bool.false_eq_true]; exact rfl) | exact rfl) | ((with_reducible apply wp_g); · first | (simp (disch := omega) only [w.2, e_KI, e_NI, e_BI, e_LI, e_PI, e_KB, e_NB, e_IB, e_LB, e_PB, e_KL, e_NL, e_IL, e_BL, e_PL, e_KP, e_NP, e_IP, e_BP, e_LP, e_IIs, e_BBs, e_LLs, e_PPs, e_IIn, e_BBn, e_LLn, e_PPn, e_IIk, e_BBk, e_LLk, e_PPk, e_Ks, e_Ns, e_Is, e_Bs, e_Ls, e_Ps, e_Kn, e_Nn, e_In, e_Bn, e_Ln, e_Pn, if_true, if_false, and_self, or_true, true_or, not_false_eq_true, Bool.false_eq_true]; done) | (simp (disch := omega) only [w.2, e_KI, e_NI, e_BI, e_LI, e_PI, e_KB, e_NB, e_IB, e_LB, e_PB, e_KL, e_NL, e_IL, e_BL, e_PL, e_KP, e_NP, e_IP, e_BP, e_LP, e_IIs, e_BBs, e_LLs, e_PPs, e_IIn, e_BBn, e_LLn, e_PPn, e_IIk, e_BBk, e_LLk, e_PPk, e_Ks, e_Ns, e_Is, e_Bs, e_Ls, e_Ps, e_Kn, e_Nn, e_In, e_Bn, e_Ln, e_Pn, if_true, if_false, and_self, or_true, true_or, not_false_eq_true, Bool.false_eq_true]; decide) | decide) | ((with_reducible apply wp_pos); · first | (simp (disch := omega) only [w.2, e_KI, e_NI, e_BI, e_LI, e_PI, e_KB, e_NB, e_IB, e_LB, e_PB, e_KL, e_NL, e_IL, e_BL, e_PL, e_KP, e_NP, e_IP, e_BP, e_LP, e_IIs, e_BBs, e_LLs, e_PPs, e_IIn, e_BBn, e_LLn, e_PPn, e_IIk, e_BBk, e_LLk, e_PPk, e_Ks, e_Ns, e_Is, e_Bs, e_Ls, e_Ps, e_Kn, e_Nn, e_In, e_Bn, e_Ln, e_Pn, if_true, if_false, and_self, or_true, true_or, not_false_eq_true, Bool.false_eq_true]; done) | (simp (disch := omega) only [w.2, e_KI, e_NI, e_BI, e_LI, e_PI, e_KB, e_NB, e_IB, e_LB, e_PB, e_KL, e_NL, e_IL, e_BL, e_PL, e_KP, e_NP, e_IP, e_BP, e_LP, e_IIs, e_BBs, e_LLs, e_PPs, e_IIn, e_BBn, e_LLn, e_PPn, e_IIk, e_BBk, e_LLk, e_PPk, e_Ks, e_Ns, e_Is, e_Bs, e_Ls, e_Ps, e_Kn, e_Nn, e_In, e_Bn, e_Ln, e_Pn, if_true, if_false, and_self, or_true, true_or, not_false_eq_true, Bool.false_eq_true]; decide) | decide) | ((with_reducible apply wp_neg); · first | (simp (disch := omega) only [w.2, e_KI, e_NI, e_BI, e_LI, e_PI, e_KB, e_NB, e_IB, e_LB, e_PB, e_KL, e_NL, e_IL, e_BL, e_PL, e_KP, e_NP, e_IP, e_BP, e_LP, e_IIs, e_BBs, e_LLs, e_PPs, e_IIn, e_BBn, e_LLn, e_PPn, e_IIk, e_BBk, e_LLk, e_PPk, e_Ks, e_Ns, e_Is, e_Bs, e_Ls, e_Ps, e_Kn, e_Nn, e_In, e_Bn, e_Ln, e_Pn, if_true, if_false, and_self, or_true, true_or, not_false_eq_true, Bool.false_eq_true]; done) | (simp (disch := omega) only [w.2, e_KI, e_NI, e_BI, e_LI, e_PI, e_KB, e_NB, e_IB, e_LB, e_PB, e_KL, e_NL, e_IL, e_BL, e_PL, e_KP, e_NP, e_IP, e_BP, e_LP, e_IIs, e_BBs, e_LLs, e_PPs, e_IIn, e_BBn, e_LLn, e_PPn, e_IIk, e_BBk, e_LLk, e_PPk, e_Ks, e_Ns, e_Is, e_Bs, e_Ls, e_Ps, e_Kn, e_Nn, e_In, e_Bn, e_Ln, e_Pn, if_true, if_false, and_self, or_true, true_or, not_false_eq_true, Bool.false_eq_true]; decide) | decide)))
  refine wp_jl (fun m j => ∀ i h2, i ≤ 10 → 10 - i < m → ag (fun a k => a = 994 ∨ a = 1442 ∧ k < 25 ∨ a = 1250 ∨ a = 1314 ∨ a = 2658 ∧ k < 8 ∨ a = 1890 ∧ k < 3 ∨ a = 3746 ∨ a = 3682) (fun _ => False) (hmB h) h2 → (∀ k, k < i → y_B h2 994 k = false) → wp (j 11 (nI i) h2) Q) (fun i _ _ hm => absurd hm (by omega)) (fun m j IH i h3 hi hm g  l0 => ?_) (fun j IH => ?_)
  rotate_left
  · exact IH 0 _ (by omega) (by unfold y_fu; omega) (ag.refl _ _ _) (fun k hk => absurd hk (by omega))
  have w2 : Sh h3 := (Sh_ag g (by intro a k q; (simp only [FSh] at q ⊢) <;> omega) (by intro a q; (simp only [GSh, not_false_eq_true] at q ⊢) <;> omega) wB)
  by_cases e9 : i = 10
  rotate_left
  · have q : ¬ (10 : Int32) ≤ nI i := nI_ge (a := i) (b := 10) (by omega) (by decide)
    have ix := i_ix (show i < 10 by omega) (by decide)
    have ic := i_cl (show i < 2 ^ 31 by omega)
    simp only [w2.2, q, ix, ic, e_KI, e_NI, e_PI, e_KB, e_NB, e_PB, e_bd, if_true, if_false, and_self, nI_1]
    refine IH (i + 1) _ (by omega) (by omega) (g.sB (by omega)) (fun k hk => ?_)
    by_cases ek : k = i
    · subst ek
      simp (disch := omega) only [e_KI, e_NI, e_BI, e_LI, e_PI, e_KB, e_NB, e_IB, e_LB, e_PB, e_KL, e_NL, e_IL, e_BL, e_PL, e_KP, e_NP, e_IP, e_BP, e_LP, e_IIs, e_BBs, e_LLs, e_PPs, e_IIn, e_BBn, e_LLn, e_PPn, e_IIk, e_BBk, e_LLk, e_PPk, and_self]
    · simp (disch := omega) only [e_KI, e_NI, e_BI, e_LI, e_PI, e_KB, e_NB, e_IB, e_LB, e_PB, e_KL, e_NL, e_IL, e_BL, e_PL, e_KP, e_NP, e_IP, e_BP, e_LP, e_IIs, e_BBs, e_LLs, e_PPs, e_IIn, e_BBn, e_LLn, e_PPn, e_IIk, e_BBk, e_LLk, e_PPk]
      exact l0 k (by omega)
  subst e9
  have q : (10 : Int32) ≤ nI 10 := by decide
  simp only [q, if_true]
  clear q IH hm hi
  refine wp_jl (fun m j => ∀ i h2, i ≤ 25 → 25 - i < m → ag (fun a k => a = 994 ∨ a = 1442 ∧ k < 25 ∨ a = 1250 ∨ a = 1314 ∨ a = 2658 ∧ k < 8 ∨ a = 1890 ∧ k < 3 ∨ a = 3746 ∨ a = 3682) (fun _ => False) (hmB h) h2 → (∀ k, k < 10 → y_B h2 994 k = false) → (∀ k, k < i → y_I h2 1442 k = 0) → wp (j 11 (nI i) h2) Q) (fun i _ _ hm => absurd hm (by omega)) (fun m j IH i h4 hi hm g l0 l1 => ?_) (fun j IH => ?_)
  rotate_left
  · exact IH 0 h3 (by omega) (by unfold y_fu; omega) g l0 (fun k hk => absurd hk (by omega))
  have w2 : Sh h4 := (Sh_ag g (by intro a k q; (simp only [FSh] at q ⊢) <;> omega) (by intro a q; (simp only [GSh, not_false_eq_true] at q ⊢) <;> omega) wB)
  by_cases e9 : i = 25
  rotate_left
  · have q : ¬ (25 : Int32) ≤ nI i := nI_ge (a := i) (b := 25) (by omega) (by decide)
    have ix := i_ix (show i < 25 by omega) (by decide)
    have ic := i_cl (show i < 2 ^ 31 by omega)
    simp only [w2.2, q, ix, ic, e_KI, e_NI, e_PI, e_KB, e_NB, e_PB, e_bd, if_true, if_false, and_self, nI_1]
    refine IH (i + 1) _ (by omega) (by omega) (g.sI (by omega)) (by simp (disch := omega) only [e_KI, e_NI, e_BI, e_LI, e_PI, e_KB, e_NB, e_IB, e_LB, e_PB, e_KL, e_NL, e_IL, e_BL, e_PL, e_KP, e_NP, e_IP, e_BP, e_LP, e_IIs, e_BBs, e_LLs, e_PPs, e_IIn, e_BBn, e_LLn, e_PPn, e_IIk, e_BBk, e_LLk, e_PPk]; exact l0) (fun k hk => ?_)
    by_cases ek : k = i
    · subst ek
      simp (disch := omega) only [e_KI, e_NI, e_BI, e_LI, e_PI, e_KB, e_NB, e_IB, e_LB, e_PB, e_KL, e_NL, e_IL, e_BL, e_PL, e_KP, e_NP, e_IP, e_BP, e_LP, e_IIs, e_BBs, e_LLs, e_PPs, e_IIn, e_BBn, e_LLn, e_PPn, e_IIk, e_BBk, e_LLk, e_PPk, and_self]
    · simp (disch := omega) only [e_KI, e_NI, e_BI, e_LI, e_PI, e_KB, e_NB, e_IB, e_LB, e_PB, e_KL, e_NL, e_IL, e_BL, e_PL, e_KP, e_NP, e_IP, e_BP, e_LP, e_IIs, e_BBs, e_LLs, e_PPs, e_IIn, e_BBn, e_LLn, e_PPn, e_IIk, e_BBk, e_LLk, e_PPk]
      exact l1 k (by omega)
  subst e9
  have q : (25 : Int32) ≤ nI 25 := by decide
  simp only [q, if_true]
  clear q IH hm hi
  refine wp_jl (fun m j => ∀ i h2, i ≤ 60 → 60 - i < m → ag (fun a k => a = 994 ∨ a = 1442 ∧ k < 25 ∨ a = 1250 ∨ a = 1314 ∨ a = 2658 ∧ k < 8 ∨ a = 1890 ∧ k < 3 ∨ a = 3746 ∨ a = 3682) (fun _ => False) (hmB h) h2 → (∀ k, k < 10 → y_B h2 994 k = false) → (∀ k, k < 25 → y_I h2 1442 k = 0) → (∀ k, k < i → y_I h2 1250 k = 0 ∧ y_I h2 1314 k = 0) → wp (j 11 (nI i) h2) Q) (fun i _ _ hm => absurd hm (by omega)) (fun m j IH i h5 hi hm g l0 l1 l2 => ?_) (fun j IH => ?_)
  rotate_left
  · exact IH 0 h4 (by omega) (by unfold y_fu; omega) g l0 l1 (fun k hk => absurd hk (by omega))
  have w2 : Sh h5 := (Sh_ag g (by intro a k q; (simp only [FSh] at q ⊢) <;> omega) (by intro a q; (simp only [GSh, not_false_eq_true] at q ⊢) <;> omega) wB)
  by_cases e9 : i = 60
  rotate_left
  · have q : ¬ (60 : Int32) ≤ nI i := nI_ge (a := i) (b := 60) (by omega) (by decide)
    have ix := i_ix (show i < 60 by omega) (by decide)
    have ic := i_cl (show i < 2 ^ 31 by omega)
    simp only [w2.2, q, ix, ic, e_KI, e_NI, e_PI, e_KB, e_NB, e_PB, e_bd, if_true, if_false, and_self, nI_1]
    refine IH (i + 1) _ (by omega) (by omega) ((g.sI (by omega)).sI (by omega)) (by simp (disch := omega) only [e_KI, e_NI, e_BI, e_LI, e_PI, e_KB, e_NB, e_IB, e_LB, e_PB, e_KL, e_NL, e_IL, e_BL, e_PL, e_KP, e_NP, e_IP, e_BP, e_LP, e_IIs, e_BBs, e_LLs, e_PPs, e_IIn, e_BBn, e_LLn, e_PPn, e_IIk, e_BBk, e_LLk, e_PPk]; exact l0) (by simp (disch := omega) only [e_KI, e_NI, e_BI, e_LI, e_PI, e_KB, e_NB, e_IB, e_LB, e_PB, e_KL, e_NL, e_IL, e_BL, e_PL, e_KP, e_NP, e_IP, e_BP, e_LP, e_IIs, e_BBs, e_LLs, e_PPs, e_IIn, e_BBn, e_LLn, e_PPn, e_IIk, e_BBk, e_LLk, e_PPk]; exact l1) (fun k hk => ?_)
    by_cases ek : k = i
    · subst ek
      simp (disch := omega) only [e_KI, e_NI, e_BI, e_LI, e_PI, e_KB, e_NB, e_IB, e_LB, e_PB, e_KL, e_NL, e_IL, e_BL, e_PL, e_KP, e_NP, e_IP, e_BP, e_LP, e_IIs, e_BBs, e_LLs, e_PPs, e_IIn, e_BBn, e_LLn, e_PPn, e_IIk, e_BBk, e_LLk, e_PPk, and_self]
    · simp (disch := omega) only [e_KI, e_NI, e_BI, e_LI, e_PI, e_KB, e_NB, e_IB, e_LB, e_PB, e_KL, e_NL, e_IL, e_BL, e_PL, e_KP, e_NP, e_IP, e_BP, e_LP, e_IIs, e_BBs, e_LLs, e_PPs, e_IIn, e_BBn, e_LLn, e_PPn, e_IIk, e_BBk, e_LLk, e_PPk]
      exact l2 k (by omega)
  subst e9
  have q : (60 : Int32) ≤ nI 60 := by decide
  simp only [q, if_true]
  clear q IH hm hi
  refine wp_jl (fun m j => ∀ i h2, i ≤ 8 → 8 - i < m → ag (fun a k => a = 994 ∨ a = 1442 ∧ k < 25 ∨ a = 1250 ∨ a = 1314 ∨ a = 2658 ∧ k < 8 ∨ a = 1890 ∧ k < 3 ∨ a = 3746 ∨ a = 3682) (fun _ => False) (hmB h) h2 → (∀ k, k < 10 → y_B h2 994 k = false) → (∀ k, k < 25 → y_I h2 1442 k = 0) → (∀ k, k < 60 → y_I h2 1250 k = 0 ∧ y_I h2 1314 k = 0) → (∀ k, k < i → y_I h2 2658 k = 0) → wp (j 11 (nI i) h2) Q) (fun i _ _ hm => absurd hm (by omega)) (fun m j IH i h6 hi hm g l0 l1 l2 l3 => ?_) (fun j IH => ?_)
  rotate_left
  · exact IH 0 h5 (by omega) (by unfold y_fu; omega) g l0 l1 l2 (fun k hk => absurd hk (by omega))
  have w2 : Sh h6 := (Sh_ag g (by intro a k q; (simp only [FSh] at q ⊢) <;> omega) (by intro a q; (simp only [GSh, not_false_eq_true] at q ⊢) <;> omega) wB)
  by_cases e9 : i = 8
  rotate_left
  · have q : ¬ (8 : Int32) ≤ nI i := nI_ge (a := i) (b := 8) (by omega) (by decide)
    have ix := i_ix (show i < 8 by omega) (by decide)
    have ic := i_cl (show i < 2 ^ 31 by omega)
    simp only [w2.2, q, ix, ic, e_KI, e_NI, e_PI, e_KB, e_NB, e_PB, e_bd, if_true, if_false, and_self, nI_1]
    refine IH (i + 1) _ (by omega) (by omega) (g.sI (by omega)) (by simp (disch := omega) only [e_KI, e_NI, e_BI, e_LI, e_PI, e_KB, e_NB, e_IB, e_LB, e_PB, e_KL, e_NL, e_IL, e_BL, e_PL, e_KP, e_NP, e_IP, e_BP, e_LP, e_IIs, e_BBs, e_LLs, e_PPs, e_IIn, e_BBn, e_LLn, e_PPn, e_IIk, e_BBk, e_LLk, e_PPk]; exact l0) (by simp (disch := omega) only [e_KI, e_NI, e_BI, e_LI, e_PI, e_KB, e_NB, e_IB, e_LB, e_PB, e_KL, e_NL, e_IL, e_BL, e_PL, e_KP, e_NP, e_IP, e_BP, e_LP, e_IIs, e_BBs, e_LLs, e_PPs, e_IIn, e_BBn, e_LLn, e_PPn, e_IIk, e_BBk, e_LLk, e_PPk]; exact l1) (by simp (disch := omega) only [e_KI, e_NI, e_BI, e_LI, e_PI, e_KB, e_NB, e_IB, e_LB, e_PB, e_KL, e_NL, e_IL, e_BL, e_PL, e_KP, e_NP, e_IP, e_BP, e_LP, e_IIs, e_BBs, e_LLs, e_PPs, e_IIn, e_BBn, e_LLn, e_PPn, e_IIk, e_BBk, e_LLk, e_PPk]; exact l2) (fun k hk => ?_)
    by_cases ek : k = i
    · subst ek
      simp (disch := omega) only [e_KI, e_NI, e_BI, e_LI, e_PI, e_KB, e_NB, e_IB, e_LB, e_PB, e_KL, e_NL, e_IL, e_BL, e_PL, e_KP, e_NP, e_IP, e_BP, e_LP, e_IIs, e_BBs, e_LLs, e_PPs, e_IIn, e_BBn, e_LLn, e_PPn, e_IIk, e_BBk, e_LLk, e_PPk, and_self]
    · simp (disch := omega) only [e_KI, e_NI, e_BI, e_LI, e_PI, e_KB, e_NB, e_IB, e_LB, e_PB, e_KL, e_NL, e_IL, e_BL, e_PL, e_KP, e_NP, e_IP, e_BP, e_LP, e_IIs, e_BBs, e_LLs, e_PPs, e_IIn, e_BBn, e_LLn, e_PPn, e_IIk, e_BBk, e_LLk, e_PPk]
      exact l3 k (by omega)
  subst e9
  have q : (8 : Int32) ≤ nI 8 := by decide
  simp only [q, if_true]
  clear q IH hm hi
  refine wp_jl (fun m j => ∀ i h2, i ≤ 3 → 3 - i < m → ag (fun a k => a = 994 ∨ a = 1442 ∧ k < 25 ∨ a = 1250 ∨ a = 1314 ∨ a = 2658 ∧ k < 8 ∨ a = 1890 ∧ k < 3 ∨ a = 3746 ∨ a = 3682) (fun _ => False) (hmB h) h2 → (∀ k, k < 10 → y_B h2 994 k = false) → (∀ k, k < 25 → y_I h2 1442 k = 0) → (∀ k, k < 60 → y_I h2 1250 k = 0 ∧ y_I h2 1314 k = 0) → (∀ k, k < 8 → y_I h2 2658 k = 0) → (∀ k, k < i → y_I h2 1890 k = 1) → wp (j 11 (nI i) h2) Q) (fun i _ _ hm => absurd hm (by omega)) (fun m j IH i h7 hi hm g l0 l1 l2 l3 l4 => ?_) (fun j IH => ?_)
  rotate_left
  · exact IH 0 h6 (by omega) (by unfold y_fu; omega) g l0 l1 l2 l3 (fun k hk => absurd hk (by omega))
  have w2 : Sh h7 := (Sh_ag g (by intro a k q; (simp only [FSh] at q ⊢) <;> omega) (by intro a q; (simp only [GSh, not_false_eq_true] at q ⊢) <;> omega) wB)
  by_cases e9 : i = 3
  rotate_left
  · have q : ¬ (3 : Int32) ≤ nI i := nI_ge (a := i) (b := 3) (by omega) (by decide)
    have ix := i_ix (show i < 3 by omega) (by decide)
    have ic := i_cl (show i < 2 ^ 31 by omega)
    simp only [w2.2, q, ix, ic, e_KI, e_NI, e_PI, e_KB, e_NB, e_PB, e_bd, if_true, if_false, and_self, nI_1]
    refine IH (i + 1) _ (by omega) (by omega) (g.sI (by omega)) (by simp (disch := omega) only [e_KI, e_NI, e_BI, e_LI, e_PI, e_KB, e_NB, e_IB, e_LB, e_PB, e_KL, e_NL, e_IL, e_BL, e_PL, e_KP, e_NP, e_IP, e_BP, e_LP, e_IIs, e_BBs, e_LLs, e_PPs, e_IIn, e_BBn, e_LLn, e_PPn, e_IIk, e_BBk, e_LLk, e_PPk]; exact l0) (by simp (disch := omega) only [e_KI, e_NI, e_BI, e_LI, e_PI, e_KB, e_NB, e_IB, e_LB, e_PB, e_KL, e_NL, e_IL, e_BL, e_PL, e_KP, e_NP, e_IP, e_BP, e_LP, e_IIs, e_BBs, e_LLs, e_PPs, e_IIn, e_BBn, e_LLn, e_PPn, e_IIk, e_BBk, e_LLk, e_PPk]; exact l1) (by simp (disch := omega) only [e_KI, e_NI, e_BI, e_LI, e_PI, e_KB, e_NB, e_IB, e_LB, e_PB, e_KL, e_NL, e_IL, e_BL, e_PL, e_KP, e_NP, e_IP, e_BP, e_LP, e_IIs, e_BBs, e_LLs, e_PPs, e_IIn, e_BBn, e_LLn, e_PPn, e_IIk, e_BBk, e_LLk, e_PPk]; exact l2) (by simp (disch := omega) only [e_KI, e_NI, e_BI, e_LI, e_PI, e_KB, e_NB, e_IB, e_LB, e_PB, e_KL, e_NL, e_IL, e_BL, e_PL, e_KP, e_NP, e_IP, e_BP, e_LP, e_IIs, e_BBs, e_LLs, e_PPs, e_IIn, e_BBn, e_LLn, e_PPn, e_IIk, e_BBk, e_LLk, e_PPk]; exact l3) (fun k hk => ?_)
    by_cases ek : k = i
    · subst ek
      simp (disch := omega) only [e_KI, e_NI, e_BI, e_LI, e_PI, e_KB, e_NB, e_IB, e_LB, e_PB, e_KL, e_NL, e_IL, e_BL, e_PL, e_KP, e_NP, e_IP, e_BP, e_LP, e_IIs, e_BBs, e_LLs, e_PPs, e_IIn, e_BBn, e_LLn, e_PPn, e_IIk, e_BBk, e_LLk, e_PPk, and_self]
    · simp (disch := omega) only [e_KI, e_NI, e_BI, e_LI, e_PI, e_KB, e_NB, e_IB, e_LB, e_PB, e_KL, e_NL, e_IL, e_BL, e_PL, e_KP, e_NP, e_IP, e_BP, e_LP, e_IIs, e_BBs, e_LLs, e_PPs, e_IIn, e_BBn, e_LLn, e_PPn, e_IIk, e_BBk, e_LLk, e_PPk]
      exact l4 k (by omega)
  subst e9
  have q : (3 : Int32) ≤ nI 3 := by decide
  simp only [q, if_true]
  clear q IH hm hi
  refine wp_jl (fun m j => ∀ s h2, s ≤ 4 → 4 - s < m → ag (fun a k => a = 994 ∨ a = 1442 ∧ k < 25 ∨ a = 1250 ∨ a = 1314 ∨ a = 2658 ∧ k < 8 ∨ a = 1890 ∧ k < 3 ∨ a = 3746 ∨ a = 3682) (fun _ => False) (hmB h) h2 → (∀ k, k < 10 → y_B h2 994 k = false) → (∀ k, k < 25 → y_I h2 1442 k = 0) → (∀ k, k < 60 → y_I h2 1250 k = 0 ∧ y_I h2 1314 k = 0) → (∀ k, k < 8 → y_I h2 2658 k = 0) → (∀ k, k < 3 → y_I h2 1890 k = 1) → (∀ r, r < s → y_I h2 3746 r = 3 ∧ ∀ i, i < 3 → y_I h2 3682 (128 * r + i) = -9) → wp (j 11 (nI s) h2) Q) (fun i _ _ hm => absurd hm (by omega)) (fun m j IH s h8 hi hm g l0 l1 l2 l3 l4 l5 => ?_) (fun j IH => ?_)
  rotate_left
  · exact IH 0 h7 (by omega) (by unfold y_fu; omega) g l0 l1 l2 l3 l4 (fun k hk => absurd hk (by omega))
  have w2 : Sh h8 := (Sh_ag g (by intro a k q; (simp only [FSh] at q ⊢) <;> omega) (by intro a q; (simp only [GSh, not_false_eq_true] at q ⊢) <;> omega) wB)
  by_cases e9 : s = 4
  · subst e9
    have q : (4 : Int32) ≤ nI 4 := by decide
    simp only [q, if_true, wp_some]
    exact hQ _ ⟨g, l0, l1, l2, l3, l4, l5⟩
  have q : ¬ (4 : Int32) ≤ nI s := nI_ge (a := s) (b := 4) (by omega) (by decide)
  have ix := i_ix (show s < 4 by omega) (by decide)
  have ic := i_cl (show s < 2 ^ 31 by omega)
  simp only [w2.2, q, ix, ic, e_bd, if_true, if_false, and_self]
  refine wp_jl (fun m j => ∀ i h2, i ≤ 3 → 3 - i < m → ag (fun a k => a = 3682 ∧ 128 * s ≤ k ∧ k < 128 * s + 3) (fun _ => False) (s_I h8 3746 s 3) h2 → (∀ k, k < i → y_I h2 3682 (128 * s + k) = -9) → wp (j 11 (nI s) (nI i) h2) Q) (fun i _ _ hm => absurd hm (by omega)) (fun m j IH2 i h9 hi hm g9 l9 => ?_) (fun j IH2 => ?_)
  rotate_left
  · exact IH2 0 _ (by omega) (by unfold y_fu; omega) (ag.refl _ _ _) (fun k hk => absurd hk (by omega))
  have w8 : Sh (s_I h8 3746 s 3) := w2
  have w9 : Sh h9 := (Sh_ag g9 (by intro a k q; (simp only [FSh] at q ⊢) <;> omega) (by intro a q; (simp only [GSh, not_false_eq_true] at q ⊢) <;> omega) w8)
  by_cases e8 : i = 3
  · subst e8
    have q : (3 : Int32) ≤ nI 3 := by decide
    simp only [q, if_true, nI_1]
    have fI : ∀ a k, a ≠ 3746 → a ≠ 3682 → y_I h9 a k = y_I h8 a k := fun a k n1 n2 => by
      rw [g9.I (by omega), e_IIn n1]
    have fB : ∀ a k, a ≠ 3682 → y_B h9 a k = y_B h8 a k := fun a k n2 => g9.B (by omega)
    refine IH (s + 1) h9 (by omega) (by omega) ((g.sI (by omega)).trans (g9.mono (fun a k q => by omega) (fun a q => q))) (fun k hk => (fB _ _ (by omega)).trans (l0 k hk)) (fun k hk => (fI _ _ (by omega) (by omega)).trans (l1 k hk)) (fun k hk => ⟨(fI _ _ (by omega) (by omega)).trans (l2 k hk).1, (fI _ _ (by omega) (by omega)).trans (l2 k hk).2⟩) (fun k hk => (fI _ _ (by omega) (by omega)).trans (l3 k hk)) (fun k hk => (fI _ _ (by omega) (by omega)).trans (l4 k hk)) (fun r hr => ?_)
    by_cases er : r = s
    · subst er
      exact ⟨(g9.I (by omega)).trans e_IIs, l9⟩
    · obtain ⟨z1, z2⟩ := l5 r (by omega)
      refine ⟨?_, fun i hi => ?_⟩
      · rw [g9.I (by omega), e_IIk er]
        exact z1
      · rw [g9.I (by omega), e_IIn (by omega)]
        exact z2 i hi
  have q : ¬ (3 : Int32) ≤ nI i := nI_ge (a := i) (b := 3) (by omega) (by decide)
  have ix := i_ix (show 128 * s + i < 512 by omega) (by decide)
  have ic := i_cl (show 128 * s + i < 2 ^ 31 by omega)
  simp only [w9.2, q, i_m128, i_add, ix, ic, e_bd, if_true, if_false, and_self, nI_1]
  refine IH2 (i + 1) _ (by omega) (by omega) (g9.sI ⟨rfl, by omega, by omega⟩) (fun k hk => ?_)
  by_cases ek : k = i
  · subst ek
    exact e_IIs
  · rw [e_IIk (by omega)]
    exact l9 k (by omega)
end CLM
