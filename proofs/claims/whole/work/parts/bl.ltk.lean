/-! least: the class's search, when it is made -/
section LTK
variable {X X2 h : y_H} {e a b c M p c0 s0 F T cp : Nat}
def PL9 (u k : Nat) : Prop := 41 ≤ u % 64 ∧ u % 64 ≤ 46 ∨ u = 17 ∨ u = 102 ∨ u = 166 ∨ u = 14 ∧ 2 ≤ k ∧ k ≤ 7
def QL9 (u : Nat) : Prop := 41 ≤ u % 64 ∧ u % 64 ≤ 46 ∨ u = 17
theorem ag.p9L (g : ag PS9 QS9 X X2) : ag PL9 QL9 X X2 := g.mono (fun u k z => by unfold PS9 at z; unfold PL9; omega) (fun u z => by unfold QS9 at z; unfold QL9; omega)
def rwc (X : y_H) (F T c : Nat) : Prop := y_P X 14 2 = F ∧ y_P X 14 3 = T ∧ y_K X F = 100 ∧ y_K X T = 100 ∧ y_N X F = c ∧ y_N X T = c
/-- the class's rows -/
def RWC (X : y_H) (F T c : Nat) : Prop := 16 ≤ c ∧ c ≤ 4000 ∧ (c = 16 ∧ F = 102 ∧ T = 166 ∨ 16 < c ∧ F = 64 * c + 45 ∧ T = 64 * c + 46) ∧ rwc X F T c ∧ ∀ m, c < m → y_K X (64 * m + 45) = 0 ∧ y_K X (64 * m + 46) = 0
/-- a search with its tables -/
def SRC (X : y_H) (p a b c M : Nat) : Prop := y_P X 14 7 = 17 ∧ CSh X a b c M ∧ abc a b c ∧ Cp X p a b c M ∧ p ≤ 11
theorem RQ_to (r : RQ X e) : (e = 0 ∧ y_P X 14 7 = 0 ∧ y_K X 17 = 0 ∧ y_K X 41 = 0 ∧ y_K X 105 = 0 ∧ y_K X 169 = 0 ∧ y_K X 233 = 0 ∧ y_K X 297 = 0 ∧ ∀ m, y_K X (64 * m + 42) = 0 ∧ y_K X (64 * m + 43) = 0 ∧ y_K X (64 * m + 44) = 0) ∨ ∃ p a b c, SRC X p a b c e := by
  rcases r with r | ⟨r1, r2, r3, r4, r5, r6, r7, r8, i, hi, ei, q, fr⟩
  · exact Or.inl r
  · refine Or.inr ?_
    have p0 : 0 < 2 ^ i := Nat.pow_pos (by decide)
    have e2 : 128 * 2 ^ i = 2 * e := by omega
    rw [← ei, e2] at q fr
    have ne : y_N X 17 = y_N X 17 := rfl
    rcases q with ⟨i0, q1, q2, q3, q4, q5, q6, q7, q8, q9⟩ | ⟨i0, q1, q2, q3, q4, q5, q6, q7, q8, q9⟩
    · rw [← ei] at q5 q7
      rw [e2] at q9
      exact ⟨i, 169, 233, 297, r1, ⟨r2, ⟨r3, r4, r5⟩, ⟨r6, r7, r8⟩, ⟨q1, q4, q5⟩, ⟨q2, q6, q7⟩, ⟨q3, q8, q9⟩, by omega, by omega, by omega⟩, by unfold abc; omega, ⟨ei, Or.inl ⟨i0, rfl, rfl, rfl⟩, fr⟩, hi⟩
    · rw [← ei] at q5 q7
      rw [e2] at q9
      exact ⟨i, _, _, _, r1, ⟨r2, ⟨r3, r4, r5⟩, ⟨r6, r7, r8⟩, ⟨q1, q4, q5⟩, ⟨q2, q6, q7⟩, ⟨q3, q8, q9⟩, by omega, by omega, by omega⟩, by unfold abc; omega, ⟨ei, Or.inr ⟨i0, rfl, rfl, rfl⟩, fr⟩, hi⟩
theorem RQ_of (s : SRC X p a b c M) : RQ X M := by
  obtain ⟨r1, ⟨r2, ⟨r3, r4, r5⟩, ⟨r6, r7, r8⟩, ⟨q1, q4, q5⟩, ⟨q2, q6, q7⟩, ⟨q3, q8, q9⟩, -⟩, -, ⟨ei, q, fr⟩, hi⟩ := s
  have e2 : 2 * M = 128 * 2 ^ p := by omega
  rw [e2, ei] at fr
  rw [e2] at q q9
  rw [ei] at q q5 q7
  refine Or.inr ⟨r1, r2, r3, r4, r5, r6, r7, r8, p, hi, ei, ?_, fr⟩
  rcases q with ⟨i0, z1, z2, z3⟩ | ⟨i0, z1, z2, z3⟩
  · rw [z1] at q1 q4 q5
    rw [z2] at q2 q6 q7
    rw [z3] at q3 q8 q9
    exact Or.inl ⟨i0, q1, q2, q3, q4, q5, q6, q7, q8, q9⟩
  · rw [z1] at q1 q4 q5
    rw [z2] at q2 q6 q7
    rw [z3] at q3 q8 q9
    exact Or.inr ⟨i0, q1, q2, q3, q4, q5, q6, q7, q8, q9⟩
/-- rows and single cells of the order are no part of the search -/
theorem SRC.mv (s : SRC X p a b c M) (g : ag (fun u k => 45 ≤ u % 64 ∧ u % 64 ≤ 46 ∨ u = 102 ∨ u = 166 ∨ u = 14 ∧ k ≠ 7) (fun u => 45 ≤ u % 64 ∧ u % 64 ≤ 46) X X2) : SRC X2 p a b c M := by
  obtain ⟨r1, r2, r3, r4, r5⟩ := s
  have ab := r3
  unfold abc at ab
  obtain ⟨k7, ⟨p0, k0, n0⟩, ⟨p1, k1, n1⟩, ⟨q1, q4, q5⟩, ⟨q2, q6, q7⟩, ⟨q3, q8, q9⟩, z⟩ := r2
  have P : ∀ k, y_P X2 17 k = y_P X 17 k := fun k => g.P (by omega)
  refine ⟨(g.P (by omega)).trans r1, ⟨(g.K (by omega)).trans k7, ⟨(P 0).trans p0, (g.K (by omega)).trans k0, (g.N (by omega)).trans n0⟩, ⟨(P 1).trans p1, (g.K (by omega)).trans k1, (g.N (by omega)).trans n1⟩, ⟨(P 4).trans q1, (g.K (by omega)).trans q4, (g.N (by omega)).trans q5⟩, ⟨(P 5).trans q2, (g.K (by omega)).trans q6, (g.N (by omega)).trans q7⟩, ⟨(P 6).trans q3, (g.K (by omega)).trans q8, (g.N (by omega)).trans q9⟩, z⟩, r3, ⟨r4.1, r4.2.1, fun m hm => ?_⟩, r5⟩
  obtain ⟨z1, z2, z3⟩ := r4.2.2 m hm
  exact ⟨(g.K (by omega)).trans z1, (g.K (by omega)).trans z2, fun h => (g.K (by omega)).trans (z3 h)⟩
theorem RWC.mv (s : RWC X F T cp) (g : ag (fun u k => 41 ≤ u % 64 ∧ u % 64 ≤ 44 ∨ u = 17 ∨ u = 14 ∧ k ≠ 2 ∧ k ≠ 3) (fun u => 41 ≤ u % 64 ∧ u % 64 ≤ 44 ∨ u = 17) X X2) : RWC X2 F T cp := by
  obtain ⟨h1, h2, h3, ⟨r1, r2, r3, r4, r5, r6⟩, h5⟩ := s
  refine ⟨h1, h2, h3, ⟨(g.P (by omega)).trans r1, (g.P (by omega)).trans r2, (g.K (by omega)).trans r3, (g.K (by omega)).trans r4, (g.N (by omega)).trans r5, (g.N (by omega)).trans r6⟩, fun m hm => ?_⟩
  obtain ⟨z1, z2⟩ := h5 m hm
  exact ⟨(g.K (by omega)).trans z1, (g.K (by omega)).trans z2⟩
def iniX (X : y_H) : y_H := s_P (s_new (s_P (s_new (s_P (s_new (s_P (s_new (s_P (s_new X 41 100 4) 17 0 41) 105 100 4) 17 1 105) 169 101 64) 17 4 169) 233 100 64) 17 5 233) 297 100 128) 17 6 297
theorem c_init (k7 : y_K X 17 = 7) (z1 : y_K X 41 = 0) (z2 : y_K X 105 = 0) (z3 : y_K X 169 = 0) (z4 : y_K X 233 = 0) (z5 : y_K X 297 = 0) : f_X6_init 17 c0 s0 X = some (((), c0 + 1 + 1 + 1 + 1 + 1, s0 + 4 + 4 + 64 + 64 + 128), iniX X) := by
  have m1 : (4 * componentBytes (t_ay 0) ≤ 536870912) = True := eq_true (by decide)
  have m2 : (64 * componentBytes (t_ay 1) ≤ 536870912) = True := eq_true (by decide)
  have m3 : (64 * componentBytes (t_ay 0) ≤ 536870912) = True := eq_true (by decide)
  have m4 : (128 * componentBytes (t_ay 0) ≤ 536870912) = True := eq_true (by decide)
  have t1 : Int32.toNatClampNeg (4 : Int32) = 4 := by decide
  have t2 : Int32.toNatClampNeg (64 : Int32) = 64 := by decide
  have t3 : Int32.toNatClampNeg (128 : Int32) = 128 := by decide
  have g1 : ¬ (4 : Int32) < 0 := by decide
  have g2 : ¬ (64 : Int32) < 0 := by decide
  have g3 : ¬ (128 : Int32) < 0 := by decide
  have o1 : (10 ≤ 41) = True := eq_true (by decide)
  have o2 : (10 ≤ 105) = True := eq_true (by decide)
  have o3 : (10 ≤ 169) = True := eq_true (by decide)
  have o4 : (10 ≤ 233) = True := eq_true (by decide)
  have o5 : (10 ≤ 297) = True := eq_true (by decide)
  unfold f_X6_init iniX
  (repeat (first | with_reducible apply ev_jn | ((with_reducible apply ev_bd); · first | (simp (disch := omega) only [t1, t2, t3, m1, m2, m3, m4, g1, g2, g3, o1, o2, o3, o4, o5, k7, z1, z2, z3, z4, z5, e_KI, e_NI, e_BI, e_LI, e_PI, e_KB, e_NB, e_IB, e_LB, e_PB, e_KL, e_NL, e_IL, e_BL, e_PL, e_KP, e_NP, e_IP, e_BP, e_LP, e_IIs, e_BBs, e_LLs, e_PPs, e_IIn, e_BBn, e_LLn, e_PPn, e_IIk, e_BBk, e_LLk, e_PPk, e_Ks, e_Ns, e_Is, e_Bs, e_Ls, e_Ps, e_Kn, e_Nn, e_In, e_Bn, e_Ln, e_Pn, if_true, if_false, and_self, or_true, true_or, not_false_eq_true, Bool.false_eq_true]; exact rfl) | exact rfl) | ((with_reducible apply ev_cl); · first | (simp (disch := omega) only [t1, t2, t3, m1, m2, m3, m4, g1, g2, g3, o1, o2, o3, o4, o5, k7, z1, z2, z3, z4, z5, e_KI, e_NI, e_BI, e_LI, e_PI, e_KB, e_NB, e_IB, e_LB, e_PB, e_KL, e_NL, e_IL, e_BL, e_PL, e_KP, e_NP, e_IP, e_BP, e_LP, e_IIs, e_BBs, e_LLs, e_PPs, e_IIn, e_BBn, e_LLn, e_PPn, e_IIk, e_BBk, e_LLk, e_PPk, e_Ks, e_Ns, e_Is, e_Bs, e_Ls, e_Ps, e_Kn, e_Nn, e_In, e_Bn, e_Ln, e_Pn, if_true, if_false, and_self, or_true, true_or, not_false_eq_true, Bool.false_eq_true]; exact rfl) | exact rfl) | ((with_reducible apply ev_g); · first | (simp (disch := omega) only [t1, t2, t3, m1, m2, m3, m4, g1, g2, g3, o1, o2, o3, o4, o5, k7, z1, z2, z3, z4, z5, e_KI, e_NI, e_BI, e_LI, e_PI, e_KB, e_NB, e_IB, e_LB, e_PB, e_KL, e_NL, e_IL, e_BL, e_PL, e_KP, e_NP, e_IP, e_BP, e_LP, e_IIs, e_BBs, e_LLs, e_PPs, e_IIn, e_BBn, e_LLn, e_PPn, e_IIk, e_BBk, e_LLk, e_PPk, e_Ks, e_Ns, e_Is, e_Bs, e_Ls, e_Ps, e_Kn, e_Nn, e_In, e_Bn, e_Ln, e_Pn, if_true, if_false, and_self, or_true, true_or, not_false_eq_true, Bool.false_eq_true]; done) | (simp (disch := omega) only [t1, t2, t3, m1, m2, m3, m4, g1, g2, g3, o1, o2, o3, o4, o5, k7, z1, z2, z3, z4, z5, e_KI, e_NI, e_BI, e_LI, e_PI, e_KB, e_NB, e_IB, e_LB, e_PB, e_KL, e_NL, e_IL, e_BL, e_PL, e_KP, e_NP, e_IP, e_BP, e_LP, e_IIs, e_BBs, e_LLs, e_PPs, e_IIn, e_BBn, e_LLn, e_PPn, e_IIk, e_BBk, e_LLk, e_PPk, e_Ks, e_Ns, e_Is, e_Bs, e_Ls, e_Ps, e_Kn, e_Nn, e_In, e_Bn, e_Ln, e_Pn, if_true, if_false, and_self, or_true, true_or, not_false_eq_true, Bool.false_eq_true]; decide) | decide) | ((with_reducible apply ev_t); · first | (simp (disch := omega) only [t1, t2, t3, m1, m2, m3, m4, g1, g2, g3, o1, o2, o3, o4, o5, k7, z1, z2, z3, z4, z5, e_KI, e_NI, e_BI, e_LI, e_PI, e_KB, e_NB, e_IB, e_LB, e_PB, e_KL, e_NL, e_IL, e_BL, e_PL, e_KP, e_NP, e_IP, e_BP, e_LP, e_IIs, e_BBs, e_LLs, e_PPs, e_IIn, e_BBn, e_LLn, e_PPn, e_IIk, e_BBk, e_LLk, e_PPk, e_Ks, e_Ns, e_Is, e_Bs, e_Ls, e_Ps, e_Kn, e_Nn, e_In, e_Bn, e_Ln, e_Pn, if_true, if_false, and_self, or_true, true_or, not_false_eq_true, Bool.false_eq_true]; done) | (simp (disch := omega) only [t1, t2, t3, m1, m2, m3, m4, g1, g2, g3, o1, o2, o3, o4, o5, k7, z1, z2, z3, z4, z5, e_KI, e_NI, e_BI, e_LI, e_PI, e_KB, e_NB, e_IB, e_LB, e_PB, e_KL, e_NL, e_IL, e_BL, e_PL, e_KP, e_NP, e_IP, e_BP, e_LP, e_IIs, e_BBs, e_LLs, e_PPs, e_IIn, e_BBn, e_LLn, e_PPn, e_IIk, e_BBk, e_LLk, e_PPk, e_Ks, e_Ns, e_Is, e_Bs, e_Ls, e_Ps, e_Kn, e_Nn, e_In, e_Bn, e_Ln, e_Pn, if_true, if_false, and_self, or_true, true_or, not_false_eq_true, Bool.false_eq_true]; decide) | decide) | ((with_reducible apply ev_f); · first | (simp (disch := omega) only [t1, t2, t3, m1, m2, m3, m4, g1, g2, g3, o1, o2, o3, o4, o5, k7, z1, z2, z3, z4, z5, e_KI, e_NI, e_BI, e_LI, e_PI, e_KB, e_NB, e_IB, e_LB, e_PB, e_KL, e_NL, e_IL, e_BL, e_PL, e_KP, e_NP, e_IP, e_BP, e_LP, e_IIs, e_BBs, e_LLs, e_PPs, e_IIn, e_BBn, e_LLn, e_PPn, e_IIk, e_BBk, e_LLk, e_PPk, e_Ks, e_Ns, e_Is, e_Bs, e_Ls, e_Ps, e_Kn, e_Nn, e_In, e_Bn, e_Ln, e_Pn, if_true, if_false, and_self, or_true, true_or, not_false_eq_true, Bool.false_eq_true]; done) | (simp (disch := omega) only [t1, t2, t3, m1, m2, m3, m4, g1, g2, g3, o1, o2, o3, o4, o5, k7, z1, z2, z3, z4, z5, e_KI, e_NI, e_BI, e_LI, e_PI, e_KB, e_NB, e_IB, e_LB, e_PB, e_KL, e_NL, e_IL, e_BL, e_PL, e_KP, e_NP, e_IP, e_BP, e_LP, e_IIs, e_BBs, e_LLs, e_PPs, e_IIn, e_BBn, e_LLn, e_PPn, e_IIk, e_BBk, e_LLk, e_PPk, e_Ks, e_Ns, e_Is, e_Bs, e_Ls, e_Ps, e_Kn, e_Nn, e_In, e_Bn, e_Ln, e_Pn, if_true, if_false, and_self, or_true, true_or, not_false_eq_true, Bool.false_eq_true]; decide) | decide) | ((with_reducible apply ev_s) <;> (first | (with_reducible rfl) | (simp (disch := omega) only [t1, t2, t3, m1, m2, m3, m4, g1, g2, g3, o1, o2, o3, o4, o5, k7, z1, z2, z3, z4, z5, e_KI, e_NI, e_BI, e_LI, e_PI, e_KB, e_NB, e_IB, e_LB, e_PB, e_KL, e_NL, e_IL, e_BL, e_PL, e_KP, e_NP, e_IP, e_BP, e_LP, e_IIs, e_BBs, e_LLs, e_PPs, e_IIn, e_BBn, e_LLn, e_PPn, e_IIk, e_BBk, e_LLk, e_PPk, e_Ks, e_Ns, e_Is, e_Bs, e_Ls, e_Ps, e_Kn, e_Nn, e_In, e_Bn, e_Ln, e_Pn, if_true, if_false, and_self, or_true, true_or, not_false_eq_true, Bool.false_eq_true]; done) | (simp (disch := omega) only [t1, t2, t3, m1, m2, m3, m4, g1, g2, g3, o1, o2, o3, o4, o5, k7, z1, z2, z3, z4, z5, e_KI, e_NI, e_BI, e_LI, e_PI, e_KB, e_NB, e_IB, e_LB, e_PB, e_KL, e_NL, e_IL, e_BL, e_PL, e_KP, e_NP, e_IP, e_BP, e_LP, e_IIs, e_BBs, e_LLs, e_PPs, e_IIn, e_BBn, e_LLn, e_PPn, e_IIk, e_BBk, e_LLk, e_PPk, e_Ks, e_Ns, e_Is, e_Bs, e_Ls, e_Ps, e_Kn, e_Nn, e_In, e_Bn, e_Ln, e_Pn, if_true, if_false, and_self, or_true, true_or, not_false_eq_true, Bool.false_eq_true]; rfl)))))
theorem ini_SRC (k7 : y_K X 17 = 7) (fr : ∀ m, y_K X (64 * m + 42) = 0 ∧ y_K X (64 * m + 43) = 0 ∧ y_K X (64 * m + 44) = 0) : SRC (s_P (iniX X) 14 7 17) 0 169 233 297 64 := by
  unfold iniX
  refine ⟨?_, ⟨?_, ⟨?_, ?_, ?_⟩, ⟨?_, ?_, ?_⟩, ⟨?_, ?_, ?_⟩, ⟨?_, ?_, ?_⟩, ⟨?_, ?_, ?_⟩, by omega, by omega, by omega⟩, by unfold abc; omega, ⟨rfl, Or.inl ⟨rfl, rfl, rfl, rfl⟩, fun m hm => ?_⟩, by omega⟩
  all_goals (try (simp (disch := omega) only [e_KI, e_NI, e_BI, e_LI, e_PI, e_KB, e_NB, e_IB, e_LB, e_PB, e_KL, e_NL, e_IL, e_BL, e_PL, e_KP, e_NP, e_IP, e_BP, e_LP, e_IIs, e_BBs, e_LLs, e_PPs, e_IIn, e_BBn, e_LLn, e_PPn, e_IIk, e_BBk, e_LLk, e_PPk, e_Ks, e_Ns, e_Is, e_Bs, e_Ls, e_Ps, e_Kn, e_Nn, e_In, e_Bn, e_Ln, e_Pn]))
  · exact k7
  · exact ⟨(fr m).1, (fr m).2.1, fun _ => (fr m).2.2⟩
theorem ini_ag : ag (fun u _ => u % 64 = 41 ∨ u = 17) (fun u => u % 64 = 41) X (iniX X) := by
  unfold iniX
  exact ag.sP (ag.new (ag.sP (ag.new (ag.sP (ag.new (ag.sP (ag.new (ag.sP (ag.new (ag.refl _ _ _) (fun k => by omega) (by omega)) (by omega)) (fun k => by omega) (by omega)) (by omega)) (fun k => by omega) (by omega)) (by omega)) (fun k => by omega) (by omega)) (by omega)) (fun k => by omega) (by omega)) (by omega)
end LTK
