/-! undo: the end, for whatever the box did -/
section UE
variable {h T Y : y_H} {t e N C S A o : Nat}
def mUB (G L E : y_H) (N k : Nat) : Prop := (y_I G 2722 (14 * k + 5) = -9 ∧ E = s_I G 11 50 (nI k)) ∨ ∃ n wv, n < N ∧ y_I G 2722 (14 * k + 5) = nI n ∧ (y_I G 2722 (14 * k + 10) = 1 ∧ wv = true ∨ ¬ y_I G 2722 (14 * k + 10) = 1 ∧ wv = false)
      ∧ ((y_I G 418 n ≠ 1 ∧ y_I G 418 n ≠ 3 ∧ L = s_I G 11 50 (nI k)) ∨ (∃ b s f, b < 10 ∧ s < 6 ∧ f < 5 ∧ y_I G 418 n = 1 ∧ y_I G 482 n = nI b ∧ y_I G 546 n = nI s ∧ y_I G 1314 (6 * b + s) = nI (f + 1) ∧ L = s_I (s_I G 11 50 (nI k)) 1314 (6 * b + s) (nI f)) ∨ ∃ s i, s < 3 ∧ i < 54 ∧ y_I G 418 n = 3 ∧ y_I G 482 n = nI s ∧ y_I G 546 n = nI i ∧ L = s_I (s_I G 11 50 (nI k)) 2210 (54 * s + i) (-1))
      ∧ ((y_I G 2722 (14 * k + 6) ≠ 1 ∧ y_I G 2722 (14 * k + 6) ≠ 3 ∧ E = mP4 L n (y_I G 2722 (14 * k + 6)) (y_I G 2722 (14 * k + 7)) (y_I G 2722 (14 * k + 8)) (y_I G 2722 (14 * k + 9)) wv) ∨ (∃ b s f, b < 10 ∧ s < 6 ∧ f < 5 ∧ y_I G 2722 (14 * k + 6) = 1 ∧ y_I G 2722 (14 * k + 7) = nI b ∧ y_I G 2722 (14 * k + 8) = nI s ∧ y_I L 1314 (6 * b + s) = nI f ∧ E = s_I (s_I (mP4 L n (y_I G 2722 (14 * k + 6)) (y_I G 2722 (14 * k + 7)) (y_I G 2722 (14 * k + 8)) (y_I G 2722 (14 * k + 9)) wv) 1378 (5 * (6 * b + s) + f) (nI n)) 1314 (6 * b + s) (nI (f + 1))) ∨ ∃ s i, s < 3 ∧ i < 54 ∧ y_I G 2722 (14 * k + 6) = 3 ∧ y_I G 2722 (14 * k + 7) = nI s ∧ y_I G 2722 (14 * k + 8) = nI i ∧ E = s_I (mP4 L n (y_I G 2722 (14 * k + 6)) (y_I G 2722 (14 * k + 7)) (y_I G 2722 (14 * k + 8)) (y_I G 2722 (14 * k + 9)) wv) 2210 (54 * s + i) (nI n))
def PYc (a k : Nat) : Prop := a % 64 = 20 ∧ 6 ≤ k ∧ k ≤ 10 ∨ a % 64 = 21 ∧ k = 4 ∨ a % 64 = 25 ∨ a % 64 = 32 ∨ a % 64 = 33
def PGc (a k : Nat) : Prop := a % 64 = 21 ∧ (k = 3 ∨ k = 5) ∨ a % 64 = 22 ∧ (k = 12 ∨ k = 13)
def PEm (a k : Nat) : Prop := a = 11 ∧ k = 50 ∨ a = 418 ∨ a = 482 ∨ a = 546 ∨ a = 610 ∨ a = 354 ∨ a = 1314 ∨ a = 1378 ∨ a = 2210
def PFm (a k : Nat) : Prop := a = 1634 ∨ a = 1698 ∨ a = 1762 ∨ a = 2466 ∨ a = 2530
theorem uC_I {X : y_H} {pc a k : Nat} {pl li : Int32} : y_I (uC X pc pl li) a k = if pc = 0 then y_I X a k else if a = pc ∧ k = 5 then li else if a = pc ∧ k = 3 then pl else y_I X a k := by
  unfold uC
  by_cases q : pc = 0
  · rw [if_pos q, if_pos q]
  · rw [if_neg q, if_neg q]
    rfl
theorem uS_I {X : y_H} {ps a k : Nat} {l d : Int32} : y_I (uS X ps l d) a k = if ps = 0 then y_I X a k else if a = ps ∧ k = 13 then d else if a = ps ∧ k = 12 then l else y_I X a k := by
  unfold uS
  by_cases q : ps = 0
  · rw [if_pos q, if_pos q]
  · rw [if_neg q, if_neg q]
    rfl
theorem ag_uC {X : y_H} {pc : Nat} {pl li : Int32} (q : pc ≠ 0 → pc % 64 = 21) : ag PGc (fun _ => False) X (uC X pc pl li) := by
  unfold uC
  by_cases z : pc = 0
  · rw [if_pos z]; exact ag.refl _ _ _
  · rw [if_neg z]
    exact ag.sI (ag.sI (ag.refl _ _ _) (Or.inl ⟨q z, Or.inl rfl⟩)) (Or.inl ⟨q z, Or.inr rfl⟩)
theorem ag_uS {X : y_H} {ps : Nat} {l d : Int32} (q : ps ≠ 0 → ps % 64 = 22) : ag PGc (fun _ => False) X (uS X ps l d) := by
  unfold uS
  by_cases z : ps = 0
  · rw [if_pos z]; exact ag.refl _ _ _
  · rw [if_neg z]
    exact ag.sI (ag.sI (ag.refl _ _ _) (Or.inr ⟨q z, Or.inl rfl⟩)) (Or.inr ⟨q z, Or.inr rfl⟩)
theorem ag_mCr {X : y_H} {kc pl hd li : Int32} : ag PFm (fun _ => False) X (mCr X kc pl hd li) := by
  unfold mCr
  by_cases z : kc < 0
  · rw [if_pos z]; exact ag.refl _ _ _
  · rw [if_neg z]
    exact ag.sI (ag.sI (ag.sI (ag.refl _ _ _) (Or.inl rfl)) (Or.inr (Or.inl rfl))) (Or.inr (Or.inr (Or.inl rfl)))
theorem ag_mSh {X : y_H} {ks l d : Int32} : ag PFm (fun _ => False) X (mSh X ks l d) := by
  unfold mSh
  by_cases z : ks < 0
  · rw [if_pos z]; exact ag.refl _ _ _
  · rw [if_neg z]
    exact ag.sI (ag.sI (ag.refl _ _ _) (Or.inr (Or.inr (Or.inr (Or.inl rfl))))) (Or.inr (Or.inr (Or.inr (Or.inr rfl))))
theorem mCr_v {X : y_H} {kc pl hd li : Int32} {C c : Nat} (o9 : on kc C) (hC : C ≤ 12) (hc : c < C) : y_I (mCr X kc pl hd li) 1634 c = (if kc = nI c then pl else y_I X 1634 c) ∧ y_I (mCr X kc pl hd li) 1698 c = (if kc = nI c then hd else y_I X 1698 c) ∧ y_I (mCr X kc pl hd li) 1762 c = (if kc = nI c then li else y_I X 1762 c) := by
  rcases o9 with z | ⟨d, hd9, z⟩
  · have n0 : kc < 0 := by rw [z]; decide
    have ne : ¬ kc = nI c := by rw [z, eq_comm, i_ne9 (by omega)]; exact fun q => q
    simp only [mCr, if_pos n0, if_neg ne, and_self]
  · have n0 : ¬ nI d < 0 := by rw [i_n0 (by omega)]; exact fun q => q
    rw [z]
    simp only [mCr, if_neg n0, i_cl (show d < 2 ^ 31 by omega), i_eq (show d < 2 ^ 31 ∧ c < 2 ^ 31 by omega)]
    by_cases ec : d = c
    · rw [if_pos ec, if_pos ec, if_pos ec, ec]
      simp (disch := omega) only [e_KI, e_NI, e_BI, e_LI, e_PI, e_KB, e_NB, e_IB, e_LB, e_PB, e_KL, e_NL, e_IL, e_BL, e_PL, e_KP, e_NP, e_IP, e_BP, e_LP, e_IIs, e_BBs, e_LLs, e_PPs, e_IIn, e_BBn, e_LLn, e_PPn, e_IIk, e_BBk, e_LLk, e_PPk, and_self]
    · rw [if_neg ec, if_neg ec, if_neg ec]
      have ec' : c ≠ d := fun q => ec q.symm
      simp (disch := omega) only [e_KI, e_NI, e_BI, e_LI, e_PI, e_KB, e_NB, e_IB, e_LB, e_PB, e_KL, e_NL, e_IL, e_BL, e_PL, e_KP, e_NP, e_IP, e_BP, e_LP, e_IIs, e_BBs, e_LLs, e_PPs, e_IIn, e_BBn, e_LLn, e_PPn, e_IIk, e_BBk, e_LLk, e_PPk, e_IIk ec', and_self]
theorem mSh_v {X : y_H} {ks l d : Int32} {S s : Nat} (o9 : on ks S) (hS : S ≤ 3) (hs : s < S) : y_I (mSh X ks l d) 2466 s = (if ks = nI s then l else y_I X 2466 s) ∧ y_I (mSh X ks l d) 2530 s = (if ks = nI s then d else y_I X 2530 s) := by
  rcases o9 with z | ⟨c, hd9, z⟩
  · have n0 : ks < 0 := by rw [z]; decide
    have ne : ¬ ks = nI s := by rw [z, eq_comm, i_ne9 (by omega)]; exact fun q => q
    simp only [mSh, if_pos n0, if_neg ne, and_self]
  · have n0 : ¬ nI c < 0 := by rw [i_n0 (by omega)]; exact fun q => q
    rw [z]
    simp only [mSh, if_neg n0, i_cl (show c < 2 ^ 31 by omega), i_eq (show c < 2 ^ 31 ∧ s < 2 ^ 31 by omega)]
    by_cases ec : c = s
    · rw [if_pos ec, if_pos ec, ec]
      simp (disch := omega) only [e_KI, e_NI, e_BI, e_LI, e_PI, e_KB, e_NB, e_IB, e_LB, e_PB, e_KL, e_NL, e_IL, e_BL, e_PL, e_KP, e_NP, e_IP, e_BP, e_LP, e_IIs, e_BBs, e_LLs, e_PPs, e_IIn, e_BBn, e_LLn, e_PPn, e_IIk, e_BBk, e_LLk, e_PPk, and_self]
    · rw [if_neg ec, if_neg ec]
      have ec' : s ≠ c := fun q => ec q.symm
      simp (disch := omega) only [e_KI, e_NI, e_BI, e_LI, e_PI, e_KB, e_NB, e_IB, e_LB, e_PB, e_KL, e_NL, e_IL, e_BL, e_PL, e_KP, e_NP, e_IP, e_BP, e_LP, e_IIs, e_BBs, e_LLs, e_PPs, e_IIn, e_BBn, e_LLn, e_PPn, e_IIk, e_BBk, e_LLk, e_PPk, e_IIk ec', and_self]
theorem c_take (w : Sh h) (rJ : RJ h A) (hA : 1 ≤ A) (ho9 : o < 60) (ho : y_I h 13 2 = nI o) : f_X5_takeLatest 13 h = some (64 * ((o + (A - 1)) % 60) + 24, s_I h 13 3 (nI (A - 1))) := by
  obtain ⟨j1, j2, j3, o', j4, j5, j6, j7⟩ := rJ
  rw [ho, i_eq (by omega)] at j5
  have ej := (j6 (A - 1) (by omega)).1
  rw [← j5] at ej
  have n0 : ¬ nI A = 0 := nI_ne0 (by omega) (by omega)
  have ep : nI A - 1 = nI (A - 1) := by
    obtain ⟨a, rfl⟩ : ∃ a, A = a + 1 := ⟨A - 1, by omega⟩
    rw [nI_pred]
    rfl
  have er : y_rem (nI o + nI (A - 1)) 60 = nI ((o + (A - 1)) % 60) := by rw [i_add, i_r60 (by omega)]
  have hj : (o + (A - 1)) % 60 < 60 := by omega
  generalize (o + (A - 1)) % 60 = j at *
  have xj := i_ix hj (by decide)
  have cj := i_cl (show j < 2 ^ 31 by omega)
  unfold f_X5_takeLatest
  (repeat (first | with_reducible apply ev_jn | ((with_reducible apply ev_bd); · first | (simp (disch := omega) only [w.1, j2, n0, ep, ho, er, xj, cj, ej, e_KI, e_NI, e_BI, e_LI, e_PI, e_KB, e_NB, e_IB, e_LB, e_PB, e_KL, e_NL, e_IL, e_BL, e_PL, e_KP, e_NP, e_IP, e_BP, e_LP, e_IIs, e_BBs, e_LLs, e_PPs, e_IIn, e_BBn, e_LLn, e_PPn, e_IIk, e_BBk, e_LLk, e_PPk, e_Ks, e_Ns, e_Is, e_Bs, e_Ls, e_Ps, e_Kn, e_Nn, e_In, e_Bn, e_Ln, e_Pn, if_true, if_false, and_self, or_true, true_or, not_false_eq_true, Bool.false_eq_true]; exact rfl) | exact rfl) | ((with_reducible apply ev_cl); · first | (simp (disch := omega) only [w.1, j2, n0, ep, ho, er, xj, cj, ej, e_KI, e_NI, e_BI, e_LI, e_PI, e_KB, e_NB, e_IB, e_LB, e_PB, e_KL, e_NL, e_IL, e_BL, e_PL, e_KP, e_NP, e_IP, e_BP, e_LP, e_IIs, e_BBs, e_LLs, e_PPs, e_IIn, e_BBn, e_LLn, e_PPn, e_IIk, e_BBk, e_LLk, e_PPk, e_Ks, e_Ns, e_Is, e_Bs, e_Ls, e_Ps, e_Kn, e_Nn, e_In, e_Bn, e_Ln, e_Pn, if_true, if_false, and_self, or_true, true_or, not_false_eq_true, Bool.false_eq_true]; exact rfl) | exact rfl) | ((with_reducible apply ev_g); · first | (simp (disch := omega) only [w.1, j2, n0, ep, ho, er, xj, cj, ej, e_KI, e_NI, e_BI, e_LI, e_PI, e_KB, e_NB, e_IB, e_LB, e_PB, e_KL, e_NL, e_IL, e_BL, e_PL, e_KP, e_NP, e_IP, e_BP, e_LP, e_IIs, e_BBs, e_LLs, e_PPs, e_IIn, e_BBn, e_LLn, e_PPn, e_IIk, e_BBk, e_LLk, e_PPk, e_Ks, e_Ns, e_Is, e_Bs, e_Ls, e_Ps, e_Kn, e_Nn, e_In, e_Bn, e_Ln, e_Pn, if_true, if_false, and_self, or_true, true_or, not_false_eq_true, Bool.false_eq_true]; done) | (simp (disch := omega) only [w.1, j2, n0, ep, ho, er, xj, cj, ej, e_KI, e_NI, e_BI, e_LI, e_PI, e_KB, e_NB, e_IB, e_LB, e_PB, e_KL, e_NL, e_IL, e_BL, e_PL, e_KP, e_NP, e_IP, e_BP, e_LP, e_IIs, e_BBs, e_LLs, e_PPs, e_IIn, e_BBn, e_LLn, e_PPn, e_IIk, e_BBk, e_LLk, e_PPk, e_Ks, e_Ns, e_Is, e_Bs, e_Ls, e_Ps, e_Kn, e_Nn, e_In, e_Bn, e_Ln, e_Pn, if_true, if_false, and_self, or_true, true_or, not_false_eq_true, Bool.false_eq_true]; decide) | decide) | ((with_reducible apply ev_t); · first | (simp (disch := omega) only [w.1, j2, n0, ep, ho, er, xj, cj, ej, e_KI, e_NI, e_BI, e_LI, e_PI, e_KB, e_NB, e_IB, e_LB, e_PB, e_KL, e_NL, e_IL, e_BL, e_PL, e_KP, e_NP, e_IP, e_BP, e_LP, e_IIs, e_BBs, e_LLs, e_PPs, e_IIn, e_BBn, e_LLn, e_PPn, e_IIk, e_BBk, e_LLk, e_PPk, e_Ks, e_Ns, e_Is, e_Bs, e_Ls, e_Ps, e_Kn, e_Nn, e_In, e_Bn, e_Ln, e_Pn, if_true, if_false, and_self, or_true, true_or, not_false_eq_true, Bool.false_eq_true]; done) | (simp (disch := omega) only [w.1, j2, n0, ep, ho, er, xj, cj, ej, e_KI, e_NI, e_BI, e_LI, e_PI, e_KB, e_NB, e_IB, e_LB, e_PB, e_KL, e_NL, e_IL, e_BL, e_PL, e_KP, e_NP, e_IP, e_BP, e_LP, e_IIs, e_BBs, e_LLs, e_PPs, e_IIn, e_BBn, e_LLn, e_PPn, e_IIk, e_BBk, e_LLk, e_PPk, e_Ks, e_Ns, e_Is, e_Bs, e_Ls, e_Ps, e_Kn, e_Nn, e_In, e_Bn, e_Ln, e_Pn, if_true, if_false, and_self, or_true, true_or, not_false_eq_true, Bool.false_eq_true]; decide) | decide) | ((with_reducible apply ev_f); · first | (simp (disch := omega) only [w.1, j2, n0, ep, ho, er, xj, cj, ej, e_KI, e_NI, e_BI, e_LI, e_PI, e_KB, e_NB, e_IB, e_LB, e_PB, e_KL, e_NL, e_IL, e_BL, e_PL, e_KP, e_NP, e_IP, e_BP, e_LP, e_IIs, e_BBs, e_LLs, e_PPs, e_IIn, e_BBn, e_LLn, e_PPn, e_IIk, e_BBk, e_LLk, e_PPk, e_Ks, e_Ns, e_Is, e_Bs, e_Ls, e_Ps, e_Kn, e_Nn, e_In, e_Bn, e_Ln, e_Pn, if_true, if_false, and_self, or_true, true_or, not_false_eq_true, Bool.false_eq_true]; done) | (simp (disch := omega) only [w.1, j2, n0, ep, ho, er, xj, cj, ej, e_KI, e_NI, e_BI, e_LI, e_PI, e_KB, e_NB, e_IB, e_LB, e_PB, e_KL, e_NL, e_IL, e_BL, e_PL, e_KP, e_NP, e_IP, e_BP, e_LP, e_IIs, e_BBs, e_LLs, e_PPs, e_IIn, e_BBn, e_LLn, e_PPn, e_IIk, e_BBk, e_LLk, e_PPk, e_Ks, e_Ns, e_Is, e_Bs, e_Ls, e_Ps, e_Kn, e_Nn, e_In, e_Bn, e_Ln, e_Pn, if_true, if_false, and_self, or_true, true_or, not_false_eq_true, Bool.false_eq_true]; decide) | decide) | ((with_reducible apply ev_s) <;> (first | (with_reducible rfl) | (simp (disch := omega) only [w.1, j2, n0, ep, ho, er, xj, cj, ej, e_KI, e_NI, e_BI, e_LI, e_PI, e_KB, e_NB, e_IB, e_LB, e_PB, e_KL, e_NL, e_IL, e_BL, e_PL, e_KP, e_NP, e_IP, e_BP, e_LP, e_IIs, e_BBs, e_LLs, e_PPs, e_IIn, e_BBn, e_LLn, e_PPn, e_IIk, e_BBk, e_LLk, e_PPk, e_Ks, e_Ns, e_Is, e_Bs, e_Ls, e_Ps, e_Kn, e_Nn, e_In, e_Bn, e_Ln, e_Pn, if_true, if_false, and_self, or_true, true_or, not_false_eq_true, Bool.false_eq_true]; done) | (simp (disch := omega) only [w.1, j2, n0, ep, ho, er, xj, cj, ej, e_KI, e_NI, e_BI, e_LI, e_PI, e_KB, e_NB, e_IB, e_LB, e_PB, e_KL, e_NL, e_IL, e_BL, e_PL, e_KP, e_NP, e_IP, e_BP, e_LP, e_IIs, e_BBs, e_LLs, e_PPs, e_IIn, e_BBn, e_LLn, e_PPn, e_IIk, e_BBk, e_LLk, e_PPk, e_Ks, e_Ns, e_Is, e_Bs, e_Ls, e_Ps, e_Kn, e_Nn, e_In, e_Bn, e_Ln, e_Pn, if_true, if_false, and_self, or_true, true_or, not_false_eq_true, Bool.false_eq_true]; rfl)))))
theorem PU_T {a k : Nat} (q : a = 13 ∧ k = 3) : PU a k := Or.inl q
theorem PU_Y {a k : Nat} (q : PYc a k) : PU a k := by
  rcases q with q | q | q | q | q
  · simp only [PU, q, true_and, and_self, true_or, or_true]
  · simp only [PU, q.1, q.2, true_and, and_self, true_or, or_true]
  all_goals simp only [PU, q, true_or, or_true]
theorem PU_G {a k : Nat} (q : PGc a k) : PU a k := by
  rcases q with ⟨q, z | z⟩ | ⟨q, z | z⟩
  all_goals simp only [PU, q, z, true_and, and_self, true_or, or_true]
theorem PU_E {a k : Nat} (q : PEm a k) : PU a k := by
  rcases q with q | q | q | q | q | q | q | q | q
  · simp only [PU, q.1, q.2, true_and, and_self, true_or, or_true]
  all_goals simp only [PU, q, true_or, or_true]
theorem PU_F {a k : Nat} (q : PFm a k) : PU a k := by
  rcases q with q | q | q | q | q
  all_goals simp only [PU, q, true_or, or_true]
theorem u_cls {pc ps j : Nat} (rC : RC h C) (rS : RS h S) (yI : ∀ a k, ¬ (a = 13 ∧ k = 3) → ¬ PYc a k → y_I Y a k = y_I h a k) (epc : pc = pC (y_I h 2722 (14 * (A - 1) + 1))) (c9 : pc ≠ 0 → ∃ c, c < C ∧ y_I h 2722 (14 * (A - 1) + 1) = nI c ∧ pc = 64 * c + 21) (s9 : ps ≠ 0 → ∃ s, s < S ∧ y_I h 2722 (14 * (A - 1) + 11) = nI s ∧ ps = 64 * s + 22)
    (n7 : ¬ y_I h 2722 (14 * (A - 1) + 1) < 0 → y_I h (64 * j + 24) 8 = y_I h 2722 (14 * (A - 1) + 2) ∧ y_I h (64 * j + 24) 9 = y_I h 2722 (14 * (A - 1) + 3) ∧ y_I h (64 * j + 24) 10 = y_I h 2722 (14 * (A - 1) + 4)) (n9 : ps ≠ 0 → y_I h (64 * j + 24) 12 = y_I h 2722 (14 * (A - 1) + 12) ∧ y_I h (64 * j + 24) 13 = y_I h 2722 (14 * (A - 1) + 13)) (a6' : ∀ s, s < S → y_I h 2722 (14 * (A - 1) + 11) = nI s → ps = 0 → oS h A 1 12 (y_I h 2466) s = y_I h 2466 s ∧ oS h A 1 13 (y_I h 2530) s = y_I h 2530 s) :
    (∀ c, c < C → y_I (uS (uC Y pc (y_I h (64 * j + 24) 8) (y_I h (64 * j + 24) 10)) ps (y_I h (64 * j + 24) 12) (y_I h (64 * j + 24) 13)) (64 * c + 21) 3 = oC h A 1 2 (y_I h 1634) c ∧ y_I (uS (uC Y pc (y_I h (64 * j + 24) 8) (y_I h (64 * j + 24) 10)) ps (y_I h (64 * j + 24) 12) (y_I h (64 * j + 24) 13)) (64 * c + 21) 5 = oC h A 1 4 (y_I h 1762) c) ∧ ∀ s, s < S → y_I (uS (uC Y pc (y_I h (64 * j + 24) 8) (y_I h (64 * j + 24) 10)) ps (y_I h (64 * j + 24) 12) (y_I h (64 * j + 24) 13)) (64 * s + 22) 12 = oS h A 1 12 (y_I h 2466) s ∧ y_I (uS (uC Y pc (y_I h (64 * j + 24) 8) (y_I h (64 * j + 24) 10)) ps (y_I h (64 * j + 24) 12) (y_I h (64 * j + 24) 13)) (64 * s + 22) 13 = oS h A 1 13 (y_I h 2530) s := by
  have hC := rC.1
  have hS := rS.1
  have cv : ∀ c, c < C → y_I (uS (uC Y pc (y_I h (64 * j + 24) 8) (y_I h (64 * j + 24) 10)) ps (y_I h (64 * j + 24) 12) (y_I h (64 * j + 24) 13)) (64 * c + 21) 3 = oC h A 1 2 (y_I h 1634) c ∧ y_I (uS (uC Y pc (y_I h (64 * j + 24) 8) (y_I h (64 * j + 24) 10)) ps (y_I h (64 * j + 24) 12) (y_I h (64 * j + 24) 13)) (64 * c + 21) 5 = oC h A 1 4 (y_I h 1762) c := fun c hc => by
    have b1 : y_I Y (64 * c + 21) 3 = y_I h 1634 c := (yI _ _ (by omega) (by simp only [PYc]; omega)).trans ((rC.2.2.2.1 c hc).1.2.2.2.2.2.1)
    have b2 : y_I Y (64 * c + 21) 5 = y_I h 1762 c := (yI _ _ (by omega) (by simp only [PYc]; omega)).trans ((rC.2.2.2.1 c hc).1.2.2.2.2.2.2.2.1)
    have u0 : ∀ k, k < 12 → y_I (uS (uC Y pc (y_I h (64 * j + 24) 8) (y_I h (64 * j + 24) 10)) ps (y_I h (64 * j + 24) 12) (y_I h (64 * j + 24) 13)) (64 * c + 21) k = y_I (uC Y pc (y_I h (64 * j + 24) 8) (y_I h (64 * j + 24) 10)) (64 * c + 21) k := fun k hk => by
      rw [uS_I, if_neg (c := _ ∧ _) (by omega), if_neg (c := _ ∧ _) (by omega), ite_self]
    rw [u0 3 (by omega), u0 5 (by omega), uC_I, uC_I]
    by_cases q : y_I h 2722 (14 * (A - 1) + 1) = nI c
    · have e2 : pc = 64 * c + 21 := by rw [epc, q, pC_n (by omega)]
      have nn : ¬ y_I h 2722 (14 * (A - 1) + 1) < 0 := by rw [q, i_n0 (by omega)]; exact fun z => z
      obtain ⟨m1, m2, m3⟩ := n7 nn
      rw [oC1 q, oC1 q, if_neg (by omega), if_neg (by omega), if_pos ⟨e2.symm, rfl⟩, if_neg (by omega), if_pos ⟨e2.symm, rfl⟩]
      exact ⟨m1, m3⟩
    · rw [oC0 q, oC0 q]
      by_cases z : pc = 0
      · rw [if_pos z, if_pos z]
        exact ⟨b1, b2⟩
      · obtain ⟨d, hd, y1, y2⟩ := c9 z
        have ne : ¬ 64 * c + 21 = pc := fun y => q (by rw [y1, show d = c by omega])
        rw [if_neg z, if_neg z, if_neg (fun y => ne y.1), if_neg (fun y => ne y.1), if_neg (fun y => ne y.1), if_neg (fun y => ne y.1)]
        exact ⟨b1, b2⟩
  have sv9 : ∀ s, s < S → y_I (uS (uC Y pc (y_I h (64 * j + 24) 8) (y_I h (64 * j + 24) 10)) ps (y_I h (64 * j + 24) 12) (y_I h (64 * j + 24) 13)) (64 * s + 22) 12 = oS h A 1 12 (y_I h 2466) s ∧ y_I (uS (uC Y pc (y_I h (64 * j + 24) 8) (y_I h (64 * j + 24) 10)) ps (y_I h (64 * j + 24) 12) (y_I h (64 * j + 24) 13)) (64 * s + 22) 13 = oS h A 1 13 (y_I h 2530) s := fun s hs => by
    have b1 : y_I Y (64 * s + 22) 12 = y_I h 2466 s := (yI _ _ (by omega) (by simp only [PYc]; omega)).trans ((rS.2.2.2.1 s hs).1.2.2.2.2.2.2.1)
    have b2 : y_I Y (64 * s + 22) 13 = y_I h 2530 s := (yI _ _ (by omega) (by simp only [PYc]; omega)).trans ((rS.2.2.2.1 s hs).1.2.2.2.2.2.2.2.1)
    have u0 : ∀ k, 12 ≤ k → y_I (uC Y pc (y_I h (64 * j + 24) 8) (y_I h (64 * j + 24) 10)) (64 * s + 22) k = y_I Y (64 * s + 22) k := fun k hk => by
      rw [uC_I, if_neg (c := _ ∧ _) (by omega), if_neg (c := _ ∧ _) (by omega), ite_self]
    rw [uS_I, uS_I, u0 12 (by omega), u0 13 (by omega)]
    by_cases q : y_I h 2722 (14 * (A - 1) + 11) = nI s
    · by_cases z : ps = 0
      · obtain ⟨x1, x2⟩ := a6' s hs q z
        rw [x1, x2, if_pos z, if_pos z]
        exact ⟨b1, b2⟩
      · obtain ⟨s', hs', y1, y2⟩ := s9 z
        rw [q, i_eq (by omega)] at y1
        have e2 : 64 * s + 22 = ps := by omega
        obtain ⟨m1, m2⟩ := n9 z
        rw [oS1 q, oS1 q, if_neg z, if_neg z, if_neg (by omega), if_pos ⟨e2, rfl⟩, if_pos ⟨e2, rfl⟩]
        exact ⟨m1, m2⟩
    · rw [oS0 q, oS0 q]
      by_cases z : ps = 0
      · rw [if_pos z, if_pos z]
        exact ⟨b1, b2⟩
      · obtain ⟨d, hd, y1, y2⟩ := s9 z
        have ne : ¬ 64 * s + 22 = ps := fun y => q (by rw [y1, show d = s by omega])
        rw [if_neg z, if_neg z, if_neg (fun y => ne y.1), if_neg (fun y => ne y.1), if_neg (fun y => ne y.1), if_neg (fun y => ne y.1)]
        exact ⟨b1, b2⟩
  exact ⟨cv, sv9⟩
theorem u_mod {E : y_H} (hC : C ≤ 12) (hS : S ≤ 3) (a2 : on (y_I h 2722 (14 * (A - 1) + 1)) C) (a3 : on (y_I h 2722 (14 * (A - 1) + 11)) S) (oT : ∀ a k, ¬ (a = 13 ∧ k = 3) → ¬ PYc a k → ¬ PGc a k → ¬ PEm a k → y_I E a k = y_I h a k) :
    (∀ c, c < C → y_I (mSh (mCr E (y_I h 2722 (14 * (A - 1) + 1)) (y_I h 2722 (14 * (A - 1) + 2)) (y_I h 2722 (14 * (A - 1) + 3)) (y_I h 2722 (14 * (A - 1) + 4))) (y_I h 2722 (14 * (A - 1) + 11)) (y_I h 2722 (14 * (A - 1) + 12)) (y_I h 2722 (14 * (A - 1) + 13))) 1634 c = oC h A 1 2 (y_I h 1634) c ∧ y_I (mSh (mCr E (y_I h 2722 (14 * (A - 1) + 1)) (y_I h 2722 (14 * (A - 1) + 2)) (y_I h 2722 (14 * (A - 1) + 3)) (y_I h 2722 (14 * (A - 1) + 4))) (y_I h 2722 (14 * (A - 1) + 11)) (y_I h 2722 (14 * (A - 1) + 12)) (y_I h 2722 (14 * (A - 1) + 13))) 1698 c = oC h A 1 3 (y_I h 1698) c ∧ y_I (mSh (mCr E (y_I h 2722 (14 * (A - 1) + 1)) (y_I h 2722 (14 * (A - 1) + 2)) (y_I h 2722 (14 * (A - 1) + 3)) (y_I h 2722 (14 * (A - 1) + 4))) (y_I h 2722 (14 * (A - 1) + 11)) (y_I h 2722 (14 * (A - 1) + 12)) (y_I h 2722 (14 * (A - 1) + 13))) 1762 c = oC h A 1 4 (y_I h 1762) c) ∧ ∀ s, s < S → y_I (mSh (mCr E (y_I h 2722 (14 * (A - 1) + 1)) (y_I h 2722 (14 * (A - 1) + 2)) (y_I h 2722 (14 * (A - 1) + 3)) (y_I h 2722 (14 * (A - 1) + 4))) (y_I h 2722 (14 * (A - 1) + 11)) (y_I h 2722 (14 * (A - 1) + 12)) (y_I h 2722 (14 * (A - 1) + 13))) 2466 s = oS h A 1 12 (y_I h 2466) s ∧ y_I (mSh (mCr E (y_I h 2722 (14 * (A - 1) + 1)) (y_I h 2722 (14 * (A - 1) + 2)) (y_I h 2722 (14 * (A - 1) + 3)) (y_I h 2722 (14 * (A - 1) + 4))) (y_I h 2722 (14 * (A - 1) + 11)) (y_I h 2722 (14 * (A - 1) + 12)) (y_I h 2722 (14 * (A - 1) + 13))) 2530 s = oS h A 1 13 (y_I h 2530) s := by
  have mC : ∀ c, c < C → y_I (mSh (mCr E (y_I h 2722 (14 * (A - 1) + 1)) (y_I h 2722 (14 * (A - 1) + 2)) (y_I h 2722 (14 * (A - 1) + 3)) (y_I h 2722 (14 * (A - 1) + 4))) (y_I h 2722 (14 * (A - 1) + 11)) (y_I h 2722 (14 * (A - 1) + 12)) (y_I h 2722 (14 * (A - 1) + 13))) 1634 c = oC h A 1 2 (y_I h 1634) c ∧ y_I (mSh (mCr E (y_I h 2722 (14 * (A - 1) + 1)) (y_I h 2722 (14 * (A - 1) + 2)) (y_I h 2722 (14 * (A - 1) + 3)) (y_I h 2722 (14 * (A - 1) + 4))) (y_I h 2722 (14 * (A - 1) + 11)) (y_I h 2722 (14 * (A - 1) + 12)) (y_I h 2722 (14 * (A - 1) + 13))) 1698 c = oC h A 1 3 (y_I h 1698) c ∧ y_I (mSh (mCr E (y_I h 2722 (14 * (A - 1) + 1)) (y_I h 2722 (14 * (A - 1) + 2)) (y_I h 2722 (14 * (A - 1) + 3)) (y_I h 2722 (14 * (A - 1) + 4))) (y_I h 2722 (14 * (A - 1) + 11)) (y_I h 2722 (14 * (A - 1) + 12)) (y_I h 2722 (14 * (A - 1) + 13))) 1762 c = oC h A 1 4 (y_I h 1762) c := fun c hc => by
    have z0 : ∀ X a, a = 1634 ∨ a = 1698 ∨ a = 1762 → y_I (mSh X (y_I h 2722 (14 * (A - 1) + 11)) (y_I h 2722 (14 * (A - 1) + 12)) (y_I h 2722 (14 * (A - 1) + 13))) a c = y_I X a c := fun X a ha => by
      unfold mSh
      split
      · rfl
      · rw [e_IIn (by omega), e_IIn (by omega)]
    rw [z0 _ 1634 (by omega), z0 _ 1698 (by omega), z0 _ 1762 (by omega)]
    obtain ⟨x1, x2, x3⟩ := mCr_v (X := E) (pl := y_I h 2722 (14 * (A - 1) + 2)) (hd := y_I h 2722 (14 * (A - 1) + 3)) (li := y_I h 2722 (14 * (A - 1) + 4)) a2 hC hc
    rw [x1, x2, x3]
    refine ⟨?_, ?_, ?_⟩
    · rw [oT 1634 c (by omega) (by simp only [PYc]; omega) (by simp only [PGc]; omega) (by simp only [PEm]; omega)]; exact rfl
    · rw [oT 1698 c (by omega) (by simp only [PYc]; omega) (by simp only [PGc]; omega) (by simp only [PEm]; omega)]; exact rfl
    · rw [oT 1762 c (by omega) (by simp only [PYc]; omega) (by simp only [PGc]; omega) (by simp only [PEm]; omega)]; exact rfl
  have mS : ∀ s, s < S → y_I (mSh (mCr E (y_I h 2722 (14 * (A - 1) + 1)) (y_I h 2722 (14 * (A - 1) + 2)) (y_I h 2722 (14 * (A - 1) + 3)) (y_I h 2722 (14 * (A - 1) + 4))) (y_I h 2722 (14 * (A - 1) + 11)) (y_I h 2722 (14 * (A - 1) + 12)) (y_I h 2722 (14 * (A - 1) + 13))) 2466 s = oS h A 1 12 (y_I h 2466) s ∧ y_I (mSh (mCr E (y_I h 2722 (14 * (A - 1) + 1)) (y_I h 2722 (14 * (A - 1) + 2)) (y_I h 2722 (14 * (A - 1) + 3)) (y_I h 2722 (14 * (A - 1) + 4))) (y_I h 2722 (14 * (A - 1) + 11)) (y_I h 2722 (14 * (A - 1) + 12)) (y_I h 2722 (14 * (A - 1) + 13))) 2530 s = oS h A 1 13 (y_I h 2530) s := fun s hs => by
    have z0 : ∀ a, a = 2466 ∨ a = 2530 → y_I (mCr E (y_I h 2722 (14 * (A - 1) + 1)) (y_I h 2722 (14 * (A - 1) + 2)) (y_I h 2722 (14 * (A - 1) + 3)) (y_I h 2722 (14 * (A - 1) + 4))) a s = y_I E a s := fun a ha => by
      unfold mCr
      split
      · rfl
      · rw [e_IIn (by omega), e_IIn (by omega), e_IIn (by omega)]
    obtain ⟨x1, x2⟩ := mSh_v (X := mCr E (y_I h 2722 (14 * (A - 1) + 1)) (y_I h 2722 (14 * (A - 1) + 2)) (y_I h 2722 (14 * (A - 1) + 3)) (y_I h 2722 (14 * (A - 1) + 4))) (l := y_I h 2722 (14 * (A - 1) + 12)) (d := y_I h 2722 (14 * (A - 1) + 13)) a3 hS hs
    rw [x1, x2, z0 2466 (by omega), z0 2530 (by omega)]
    refine ⟨?_, ?_⟩
    · rw [oT 2466 s (by omega) (by simp only [PYc]; omega) (by simp only [PGc]; omega) (by simp only [PEm]; omega)]; exact rfl
    · rw [oT 2530 s (by omega) (by simp only [PYc]; omega) (by simp only [PGc]; omega) (by simp only [PEm]; omega)]; exact rfl
  exact ⟨mC, mS⟩
theorem undo_end (R : RelP h t e N C S A) (hA : 1 ≤ A) (ho9 : o < 60) (ho : y_I h 13 2 = nI o) (wv : Nat → Bool) (eT : T = s_I h 13 3 (nI (A - 1)))
    (hb : (y_P T (64 * ((o + (A - 1)) % 60) + 24) 1 = 0 ∧ Y = T) ∨ ∃ pb hB, pb ≠ 0 ∧ y_P T (64 * ((o + (A - 1)) % 60) + 24) 1 = pb ∧ y_K T 12 = 11 ∧ f_X10_bring 12 pb (y_I T (64 * ((o + (A - 1)) % 60) + 24) 2) (y_I T (64 * ((o + (A - 1)) % 60) + 24) 3) (y_I T (64 * ((o + (A - 1)) % 60) + 24) 4) (y_I T (64 * ((o + (A - 1)) % 60) + 24) 5) T = some ((), hB) ∧ y_K hB (64 * ((o + (A - 1)) % 60) + 24) = 1 ∧ y_P hB (64 * ((o + (A - 1)) % 60) + 24) 1 = pb ∧ y_K hB pb = 3 ∧ Y = s_B hB pb 10 (y_B hB (64 * ((o + (A - 1)) % 60) + 24) 6))
    (gY : ag PYc (fun _ => False) T Y)
    (vY : ∀ n, n < N → y_I Y (64 * n + 20) 6 = oB h A 1 6 (y_I h 418) n ∧ y_I Y (64 * n + 20) 7 = oB h A 1 7 (y_I h 482) n ∧ y_I Y (64 * n + 20) 8 = oB h A 1 8 (y_I h 546) n ∧ y_I Y (64 * n + 20) 9 = oB h A 1 9 (y_I h 610) n ∧ y_B Y (64 * n + 20) 10 = wv n)
    (hY : ∀ c, c < C → y_P Y (64 * c + 21) 4 = pB (oC h A 1 3 (y_I h 1698) c))
    (mE : ∀ G, Sh G → ag PGc (fun _ => False) Y G → ∃ L E, mUB G L E N (A - 1) ∧ ag PEm (fun _ => False) G E ∧ (∀ n, n < N → y_I E 418 n = oB h A 1 6 (y_I h 418) n ∧ y_I E 482 n = oB h A 1 7 (y_I h 482) n ∧ y_I E 546 n = oB h A 1 8 (y_I h 546) n ∧ y_I E 610 n = oB h A 1 9 (y_I h 610) n ∧ y_B E 354 n = wv n) ∧ y_I E 11 50 = nI (A - 1) ∧ (∀ s, s < S → ∀ k, k < 54 → y_P E (64 * s + 25) k = pB (y_I E 2210 (54 * s + k))) ∧ RV E ∧ RP E N C S) :
    Call (f_X11_undo 10 h) (f_X12_undo 11) t e := by
  obtain ⟨w, rT, rM, rB, rC, rS, rV, rL, rJ, rP, rH, rD, rQ, rK⟩ := id R
  have et := c_take w rJ hA ho9 ho
  obtain ⟨j1, j2, j3, o', j4, j5, j6, j7⟩ := id rJ
  have eo : o' = o := by
    rw [ho, i_eq (by omega)] at j5
    exact j5.symm
  rw [eo] at j4 j5 j6
  clear eo
  obtain ⟨n1, n2, n3, n4, n5, n6, n7, n8, n9⟩ := j6 (A - 1) (by omega)
  obtain ⟨a1, a2, a3, a4, a5, a6⟩ := rH.2 0 (by omega) o j4 j5
  have a2 : on (y_I h 2722 (14 * (A - 1) + 1)) C := a2
  have a3 : on (y_I h 2722 (14 * (A - 1) + 11)) S := a3
  have hC := rC.1
  have hS := rS.1
  have hN := rB.1
  have gT : ag (fun a k => a = 13 ∧ k = 3) (fun _ => False) h T := by
    rw [eT]
    ((repeat' (first | exact ag.refl _ _ _ | apply ag.sI | apply ag.sB | apply ag.sP | apply ag.sL | (apply ag.cm) | (apply ag.mm))) <;> (first | omega | (dsimp only; omega) | (intro k; dsimp only; omega)))
  rw [← eT] at et
  have wT : Sh T := (Sh_ag gT (by intro a k q; (simp only [FSh] at q ⊢) <;> omega) (by intro a q; (simp only [GSh, not_false_eq_true] at q ⊢) <;> omega) w)
  have wY : Sh Y := (Sh_ag gY (by intro a k q; (simp only [FSh, PYc] at q ⊢) <;> omega) (by intro a q; (simp only [GSh, PYc, not_false_eq_true] at q ⊢) <;> omega) wT)
  have a6' : ∀ s, s < S → y_I h 2722 (14 * (A - 1) + 11) = nI s → y_P h (64 * ((o + (A - 1)) % 60) + 24) 11 = 0 → oS h A 1 12 (y_I h 2466) s = y_I h 2466 s ∧ oS h A 1 13 (y_I h 2530) s = y_I h 2530 s := a6
  clear a6
  generalize (o + (A - 1)) % 60 = j at *
  have yI : ∀ k, y_I Y (64 * j + 24) k = y_I h (64 * j + 24) k := fun k => (gY.I (by simp only [PYc]; omega)).trans (gT.I (by omega))
  have yP : ∀ k, y_P Y (64 * j + 24) k = y_P h (64 * j + 24) k := fun k => (gY.P (by simp only [PYc]; omega)).trans (gT.P (by omega))
  have KY : y_K Y (64 * j + 24) = 1 := (gY.K fun q => q).trans ((gT.K fun q => q).trans n2)
  have hpc : y_P Y (64 * j + 24) 7 = pC (y_I h 2722 (14 * (A - 1) + 1)) := (yP 7).trans n5
  have c9 : pC (y_I h 2722 (14 * (A - 1) + 1)) ≠ 0 → ∃ c, c < C ∧ y_I h 2722 (14 * (A - 1) + 1) = nI c ∧ pC (y_I h 2722 (14 * (A - 1) + 1)) = 64 * c + 21 := fun z => by
    rcases a2 with q | ⟨c, hc, q⟩
    · rw [q, pC_9] at z
      exact absurd rfl z
    · exact ⟨c, hc, q, by rw [q, pC_n (by omega)]⟩
  obtain ⟨ps, eps⟩ : ∃ ps, ps = y_P h (64 * j + 24) 11 := ⟨_, rfl⟩
  have hps : y_P Y (64 * j + 24) 11 = ps := (yP 11).trans eps.symm
  have s9 : ps ≠ 0 → ∃ s, s < S ∧ y_I h 2722 (14 * (A - 1) + 11) = nI s ∧ ps = 64 * s + 22 := fun z => by
    rcases a3 with q | ⟨s, hs, q⟩
    · rw [← eps, q, pS_9] at n8
      exact absurd (n8.elim id id) z
    · refine ⟨s, hs, q, ?_⟩
      rw [← eps, q, pS_n (by omega)] at n8
      rcases n8 with y | y
      · exact absurd y z
      · exact y
  have er := c_rest (X := T) (Y := Y) (p := 64 * j + 24) ((gT.K fun q => q).trans n2) hb KY hpc (fun z => by
    obtain ⟨c, hc, -, z2⟩ := c9 z
    rw [z2]
    exact ⟨(gY.K fun q => q).trans ((gT.K fun q => q).trans (rC.2.2.2.1 c hc).1.2.1), by omega⟩) hps (fun z => by
    obtain ⟨s, hs, -, z2⟩ := s9 z
    rw [z2]
    exact ⟨(gY.K fun q => q).trans ((gT.K fun q => q).trans (rS.2.2.2.1 s hs).1.1.2.1), by omega⟩)
  rw [yI, yI, yI, yI] at er
  obtain ⟨pc, epc⟩ : ∃ pc, pc = pC (y_I h 2722 (14 * (A - 1) + 1)) := ⟨_, rfl⟩
  rw [← epc] at c9 er
  have g1 : ag PGc (fun _ => False) Y (uC Y pc (y_I h (64 * j + 24) 8) (y_I h (64 * j + 24) 10)) := ag_uC (fun z => by
    obtain ⟨c, hc, -, z2⟩ := c9 z
    omega)
  have g2 := ag_uS (X := uC Y pc (y_I h (64 * j + 24) 8) (y_I h (64 * j + 24) 10)) (ps := ps) (l := y_I h (64 * j + 24) 12) (d := y_I h (64 * j + 24) 13) (fun z => by
    obtain ⟨s, hs, -, z2⟩ := s9 z
    omega)
  obtain ⟨cv, sv9⟩ := u_cls (Y := Y) (j := j) rC rS (fun a k q1 q2 => (gY.I q2).trans (gT.I q1)) epc c9 s9 n7 (fun z => n9 (by rw [← eps]; exact z)) (fun s hs q z => a6' s hs q (eps.symm.trans z))
  have gH := g1.trans g2
  generalize uS (uC Y pc (y_I h (64 * j + 24) 8) (y_I h (64 * j + 24) 10)) ps (y_I h (64 * j + 24) 12) (y_I h (64 * j + 24) 13) = H1 at er gH cv sv9
  clear g1 g2
  have wH : Sh H1 := (Sh_ag gH (by intro a k q; (simp only [FSh, PGc] at q ⊢) <;> omega) (by intro a q; (simp only [GSh, PGc, not_false_eq_true] at q ⊢) <;> omega) wY)
  obtain ⟨L, E, mub, gE, vE, eA, eC9, rVE, rPE⟩ := mE H1 wH gH
  have kH : ∀ x, y_I H1 2722 x = y_I h 2722 x := fun x => (gH.I (by simp only [PGc]; omega)).trans ((gY.I (by simp only [PYc]; omega)).trans (gT.I (by omega)))
  have aH : y_I H1 11 50 = nI (A - 1 + 1) := by
    rw [show A - 1 + 1 = A by omega]
    exact (gH.I (by simp only [PGc]; omega)).trans ((gY.I (by simp only [PYc]; omega)).trans ((gT.I (by omega)).trans j3))
  have mu := m_undo (G := H1) (L := L) (E := E) (N := N) (C := C) (S := S) (k := A - 1) wH (by omega) aH hC hN hS (by rw [kH]; exact a2) (by rw [kH]; exact a3) mub
  simp only [kH] at mu
  have g3 := ag_mCr (X := E) (kc := y_I h 2722 (14 * (A - 1) + 1)) (pl := y_I h 2722 (14 * (A - 1) + 2)) (hd := y_I h 2722 (14 * (A - 1) + 3)) (li := y_I h 2722 (14 * (A - 1) + 4))
  have g4 := ag_mSh (X := mCr E (y_I h 2722 (14 * (A - 1) + 1)) (y_I h 2722 (14 * (A - 1) + 2)) (y_I h 2722 (14 * (A - 1) + 3)) (y_I h 2722 (14 * (A - 1) + 4))) (ks := y_I h 2722 (14 * (A - 1) + 11)) (l := y_I h 2722 (14 * (A - 1) + 12)) (d := y_I h 2722 (14 * (A - 1) + 13))
  have oT : ∀ a k, ¬ (a = 13 ∧ k = 3) → ¬ PYc a k → ¬ PGc a k → ¬ PEm a k → y_I E a k = y_I h a k := fun a k q1 q2 q3 q4 => (gE.I q4).trans ((gH.I q3).trans ((gY.I q2).trans (gT.I q1)))
  obtain ⟨mC, mS⟩ := u_mod hC hS a2 a3 oT
  have gF := g3.trans g4
  generalize mSh (mCr E (y_I h 2722 (14 * (A - 1) + 1)) (y_I h 2722 (14 * (A - 1) + 2)) (y_I h 2722 (14 * (A - 1) + 3)) (y_I h 2722 (14 * (A - 1) + 4))) (y_I h 2722 (14 * (A - 1) + 11)) (y_I h 2722 (14 * (A - 1) + 12)) (y_I h 2722 (14 * (A - 1) + 13)) = hf at mu gF mC mS
  clear g3 g4
  have p0 : ¬ 64 * j + 24 = 0 := by omega
  have rH1 : y_I H1 (64 * j + 24) 0 = y_I h 2722 (14 * (A - 1)) := (gH.I (by simp only [PGc]; omega)).trans ((yI 0).trans n3)
  have KH : y_K H1 (64 * j + 24) = 1 := (gH.K fun q => q).trans KY
  refine Call.wr (r := y_I h 2722 (14 * (A - 1))) (h1 := H1) (h2 := hf) (by unfold f_X11_undo; (repeat (first | with_reducible apply ev_jn | ((with_reducible apply ev_bd); · first | (simp (disch := omega) only [w.1, wT.1, et, p0, er, KH, rH1, e_KI, e_NI, e_BI, e_LI, e_PI, e_KB, e_NB, e_IB, e_LB, e_PB, e_KL, e_NL, e_IL, e_BL, e_PL, e_KP, e_NP, e_IP, e_BP, e_LP, e_IIs, e_BBs, e_LLs, e_PPs, e_IIn, e_BBn, e_LLn, e_PPn, e_IIk, e_BBk, e_LLk, e_PPk, e_Ks, e_Ns, e_Is, e_Bs, e_Ls, e_Ps, e_Kn, e_Nn, e_In, e_Bn, e_Ln, e_Pn, if_true, if_false, and_self, or_true, true_or, not_false_eq_true, Bool.false_eq_true]; exact rfl) | exact rfl) | ((with_reducible apply ev_cl); · first | (simp (disch := omega) only [w.1, wT.1, et, p0, er, KH, rH1, e_KI, e_NI, e_BI, e_LI, e_PI, e_KB, e_NB, e_IB, e_LB, e_PB, e_KL, e_NL, e_IL, e_BL, e_PL, e_KP, e_NP, e_IP, e_BP, e_LP, e_IIs, e_BBs, e_LLs, e_PPs, e_IIn, e_BBn, e_LLn, e_PPn, e_IIk, e_BBk, e_LLk, e_PPk, e_Ks, e_Ns, e_Is, e_Bs, e_Ls, e_Ps, e_Kn, e_Nn, e_In, e_Bn, e_Ln, e_Pn, if_true, if_false, and_self, or_true, true_or, not_false_eq_true, Bool.false_eq_true]; exact rfl) | exact rfl) | ((with_reducible apply ev_g); · first | (simp (disch := omega) only [w.1, wT.1, et, p0, er, KH, rH1, e_KI, e_NI, e_BI, e_LI, e_PI, e_KB, e_NB, e_IB, e_LB, e_PB, e_KL, e_NL, e_IL, e_BL, e_PL, e_KP, e_NP, e_IP, e_BP, e_LP, e_IIs, e_BBs, e_LLs, e_PPs, e_IIn, e_BBn, e_LLn, e_PPn, e_IIk, e_BBk, e_LLk, e_PPk, e_Ks, e_Ns, e_Is, e_Bs, e_Ls, e_Ps, e_Kn, e_Nn, e_In, e_Bn, e_Ln, e_Pn, if_true, if_false, and_self, or_true, true_or, not_false_eq_true, Bool.false_eq_true]; done) | (simp (disch := omega) only [w.1, wT.1, et, p0, er, KH, rH1, e_KI, e_NI, e_BI, e_LI, e_PI, e_KB, e_NB, e_IB, e_LB, e_PB, e_KL, e_NL, e_IL, e_BL, e_PL, e_KP, e_NP, e_IP, e_BP, e_LP, e_IIs, e_BBs, e_LLs, e_PPs, e_IIn, e_BBn, e_LLn, e_PPn, e_IIk, e_BBk, e_LLk, e_PPk, e_Ks, e_Ns, e_Is, e_Bs, e_Ls, e_Ps, e_Kn, e_Nn, e_In, e_Bn, e_Ln, e_Pn, if_true, if_false, and_self, or_true, true_or, not_false_eq_true, Bool.false_eq_true]; decide) | decide) | ((with_reducible apply ev_t); · first | (simp (disch := omega) only [w.1, wT.1, et, p0, er, KH, rH1, e_KI, e_NI, e_BI, e_LI, e_PI, e_KB, e_NB, e_IB, e_LB, e_PB, e_KL, e_NL, e_IL, e_BL, e_PL, e_KP, e_NP, e_IP, e_BP, e_LP, e_IIs, e_BBs, e_LLs, e_PPs, e_IIn, e_BBn, e_LLn, e_PPn, e_IIk, e_BBk, e_LLk, e_PPk, e_Ks, e_Ns, e_Is, e_Bs, e_Ls, e_Ps, e_Kn, e_Nn, e_In, e_Bn, e_Ln, e_Pn, if_true, if_false, and_self, or_true, true_or, not_false_eq_true, Bool.false_eq_true]; done) | (simp (disch := omega) only [w.1, wT.1, et, p0, er, KH, rH1, e_KI, e_NI, e_BI, e_LI, e_PI, e_KB, e_NB, e_IB, e_LB, e_PB, e_KL, e_NL, e_IL, e_BL, e_PL, e_KP, e_NP, e_IP, e_BP, e_LP, e_IIs, e_BBs, e_LLs, e_PPs, e_IIn, e_BBn, e_LLn, e_PPn, e_IIk, e_BBk, e_LLk, e_PPk, e_Ks, e_Ns, e_Is, e_Bs, e_Ls, e_Ps, e_Kn, e_Nn, e_In, e_Bn, e_Ln, e_Pn, if_true, if_false, and_self, or_true, true_or, not_false_eq_true, Bool.false_eq_true]; decide) | decide) | ((with_reducible apply ev_f); · first | (simp (disch := omega) only [w.1, wT.1, et, p0, er, KH, rH1, e_KI, e_NI, e_BI, e_LI, e_PI, e_KB, e_NB, e_IB, e_LB, e_PB, e_KL, e_NL, e_IL, e_BL, e_PL, e_KP, e_NP, e_IP, e_BP, e_LP, e_IIs, e_BBs, e_LLs, e_PPs, e_IIn, e_BBn, e_LLn, e_PPn, e_IIk, e_BBk, e_LLk, e_PPk, e_Ks, e_Ns, e_Is, e_Bs, e_Ls, e_Ps, e_Kn, e_Nn, e_In, e_Bn, e_Ln, e_Pn, if_true, if_false, and_self, or_true, true_or, not_false_eq_true, Bool.false_eq_true]; done) | (simp (disch := omega) only [w.1, wT.1, et, p0, er, KH, rH1, e_KI, e_NI, e_BI, e_LI, e_PI, e_KB, e_NB, e_IB, e_LB, e_PB, e_KL, e_NL, e_IL, e_BL, e_PL, e_KP, e_NP, e_IP, e_BP, e_LP, e_IIs, e_BBs, e_LLs, e_PPs, e_IIn, e_BBn, e_LLn, e_PPn, e_IIk, e_BBk, e_LLk, e_PPk, e_Ks, e_Ns, e_Is, e_Bs, e_Ls, e_Ps, e_Kn, e_Nn, e_In, e_Bn, e_Ln, e_Pn, if_true, if_false, and_self, or_true, true_or, not_false_eq_true, Bool.false_eq_true]; decide) | decide) | ((with_reducible apply ev_s) <;> (first | (with_reducible rfl) | (simp (disch := omega) only [w.1, wT.1, et, p0, er, KH, rH1, e_KI, e_NI, e_BI, e_LI, e_PI, e_KB, e_NB, e_IB, e_LB, e_PB, e_KL, e_NL, e_IL, e_BL, e_PL, e_KP, e_NP, e_IP, e_BP, e_LP, e_IIs, e_BBs, e_LLs, e_PPs, e_IIn, e_BBn, e_LLn, e_PPn, e_IIk, e_BBk, e_LLk, e_PPk, e_Ks, e_Ns, e_Is, e_Bs, e_Ls, e_Ps, e_Kn, e_Nn, e_In, e_Bn, e_Ln, e_Pn, if_true, if_false, and_self, or_true, true_or, not_false_eq_true, Bool.false_eq_true]; done) | (simp (disch := omega) only [w.1, wT.1, et, p0, er, KH, rH1, e_KI, e_NI, e_BI, e_LI, e_PI, e_KB, e_NB, e_IB, e_LB, e_PB, e_KL, e_NL, e_IL, e_BL, e_PL, e_KP, e_NP, e_IP, e_BP, e_LP, e_IIs, e_BBs, e_LLs, e_PPs, e_IIn, e_BBn, e_LLn, e_PPn, e_IIk, e_BBk, e_LLk, e_PPk, e_Ks, e_Ns, e_Is, e_Bs, e_Ls, e_Ps, e_Kn, e_Nn, e_In, e_Bn, e_Ln, e_Pn, if_true, if_false, and_self, or_true, true_or, not_false_eq_true, Bool.false_eq_true]; rfl)))))) mu (RelP.rel (N := N) (C := C) (S := S) (A := A - 1) ?_)
  have g : ag PU (fun _ => False) h hf := ((((gT.mono (fun a k q => PU_T q) (fun a q => q)).trans (gY.mono (fun a k q => PU_Y q) (fun a q => q))).trans (gH.mono (fun a k q => PU_G q) (fun a q => q))).trans (gE.mono (fun a k q => PU_E q) (fun a q => q))).trans (gF.mono (fun a k q => PU_F q) (fun a q => q))
  have fE : ∀ a k, ¬ PFm a k → y_I hf a k = y_I E a k := fun a k q => gF.I q
  have eY : ∀ a k, ¬ PFm a k → ¬ PEm a k → ¬ PGc a k → y_I hf a k = y_I Y a k := fun a k q1 q2 q3 => (gF.I q1).trans ((gE.I q2).trans (gH.I q3))
  refine rel_undo R hA g ?_ ((fE 11 50 (by simp only [PFm]; omega)).trans eA) (fun n hn => ?_) (fun c hc => ?_) (fun s hs => ?_) (RV_ag gF (by intro a k q; (simp only [FRV, PFm] at q ⊢) <;> omega) (by intro a q; (simp only [GRV, PFm, not_false_eq_true] at q ⊢) <;> omega) rVE) (RP_ag gF (by intro a k q; (simp only [FRP, PFm] at q ⊢) <;> omega) (by intro a q; (simp only [GRP, PFm, not_false_eq_true] at q ⊢) <;> omega) rPE)
  · rw [eY 13 3 (by simp only [PFm]; omega) (by simp only [PEm]; omega) (by simp only [PGc]; omega), gY.I (by simp only [PYc]; omega), eT]
    exact e_IIs
  · obtain ⟨x1, x2, x3, x4, x5⟩ := vE n hn
    obtain ⟨y1, y2, y3, y4, y5⟩ := vY n hn
    have f1 := (fE 418 n (by simp only [PFm]; omega)).trans x1
    have f2 := (fE 482 n (by simp only [PFm]; omega)).trans x2
    have f3 := (fE 546 n (by simp only [PFm]; omega)).trans x3
    have f4 := (fE 610 n (by simp only [PFm]; omega)).trans x4
    refine ⟨⟨f1, f2, f3, f4⟩, ?_, ?_, ?_, ?_, ?_⟩
    · rw [f1, eY (64 * n + 20) 6 (by simp only [PFm]; omega) (by simp only [PEm]; omega) (by simp only [PGc]; omega)]; exact y1
    · rw [f2, eY (64 * n + 20) 7 (by simp only [PFm]; omega) (by simp only [PEm]; omega) (by simp only [PGc]; omega)]; exact y2
    · rw [f3, eY (64 * n + 20) 8 (by simp only [PFm]; omega) (by simp only [PEm]; omega) (by simp only [PGc]; omega)]; exact y3
    · rw [f4, eY (64 * n + 20) 9 (by simp only [PFm]; omega) (by simp only [PEm]; omega) (by simp only [PGc]; omega)]; exact y4
    · rw [gF.B (a := 64 * n + 20) (by simp only [PFm]; omega), gE.B (a := 64 * n + 20) (by simp only [PEm]; omega), gH.B (a := 64 * n + 20) (by simp only [PGc]; omega), y5, gF.B (by simp only [PFm]; omega), x5]
  · obtain ⟨x1, x2, x3⟩ := mC c hc
    obtain ⟨y1, y2⟩ := cv c hc
    refine ⟨⟨x1, x2⟩, ?_, ?_, ?_⟩
    · rw [x1, fE (64 * c + 21) 3 (by simp only [PFm]; omega), gE.I (by simp only [PEm]; omega)]; exact y1
    · rw [x2, gF.P (by simp only [PFm]; omega), gE.P (by simp only [PEm]; omega), gH.P (by simp only [PGc]; omega)]; exact hY c hc
    · rw [x3, fE (64 * c + 21) 5 (by simp only [PFm]; omega), gE.I (by simp only [PEm]; omega)]; exact y2
  · obtain ⟨x1, x2⟩ := mS s hs
    obtain ⟨y1, y2⟩ := sv9 s hs
    refine ⟨⟨x1, x2⟩, ?_, ?_, fun k hk => ?_⟩
    · rw [x1, fE (64 * s + 22) 12 (by simp only [PFm]; omega), gE.I (by simp only [PEm]; omega)]; exact y1
    · rw [x2, fE (64 * s + 22) 13 (by simp only [PFm]; omega), gE.I (by simp only [PEm]; omega)]; exact y2
    · rw [gF.P (by simp only [PFm]; omega), fE 2210 _ (by simp only [PFm]; omega)]
      exact eC9 s hs k hk
end UE
