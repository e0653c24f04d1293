/-! where a box may stand: what it is, and how the class finds it -/
section STA
variable {h X G : y_H} {t e N C S A b s m H f n k : Nat} {v : Nat → Nat}
def CX (h X : y_H) : Prop := Sh X ∧ TC X ∧ ag (fun a k => a = 16 ∧ k = 1 ∨ a = 40 ∨ a % 64 = 21 ∧ k = 7) (fun _ => False) h X
theorem CX.mks (c : CX h X) (l : List Int32) : CX h (cMks X l) := ⟨Sh_ck c.1, c.2.1.mks l, ag.cm c.2.2 (fun _ => Or.inr (Or.inl rfl)) (Or.inl ⟨rfl, rfl⟩)⟩
theorem CX.K (c : CX h X) (a : Nat) : y_K X a = y_K h a := c.2.2.K (fun q => q)
theorem CX.Nn (c : CX h X) (a : Nat) : y_N X a = y_N h a := c.2.2.N (fun q => q)
theorem CX.I (c : CX h X) {a k : Nat} (q : a ≠ 16 ∧ a ≠ 40 ∧ a % 64 ≠ 21) : y_I X a k = y_I h a k := c.2.2.I (by omega)
theorem CX.B (c : CX h X) {a k : Nat} (q : a ≠ 16 ∧ a ≠ 40 ∧ a % 64 ≠ 21) : y_B X a k = y_B h a k := c.2.2.B (by omega)
theorem CX.P (c : CX h X) {a k : Nat} (q : a ≠ 16 ∧ a ≠ 40 ∧ a % 64 ≠ 21) : y_P X a k = y_P h a k := c.2.2.P (by omega)
/-- the kind and the danger of a box, as numbers -/
def kd (h : y_H) (n : Nat) : Nat := (y_I h 34 n).toNatClampNeg
def dgr (h : y_H) (n : Nat) : Nat := (y_I h 226 n).toNatClampNeg
theorem kd_of (R : RelP h t e N C S A) (hn : n < N) : y_I h 34 n = nI (kd h n) ∧ kd h n ≤ 5 := by
  obtain ⟨⟨k, -, k2, k3⟩, -⟩ := (R.rB.2.2.2.1 n hn).2
  have : kd h n = k := by rw [kd, k3, i_cl (by omega)]
  rw [this]
  exact ⟨k3, k2⟩
theorem dgr_of (R : RelP h t e N C S A) (hn : n < N) : y_I h 226 n = nI (dgr h n) ∧ dgr h n ≤ 4 := by
  obtain ⟨-, -, -, ⟨k, -, k2, k3⟩, -⟩ := (R.rB.2.2.2.1 n hn).2
  have : dgr h n = k := by rw [dgr, k3, i_cl (by omega)]
  rw [this]
  exact ⟨k3, k2⟩
def pO0 (k : Nat) : Bool := match k with
  | 3 => false
  | 4 => false
  | _ => true
def pO1 (k : Nat) : Bool := match k with
  | 1 => true
  | _ => false
def pO3 (k : Nat) : Bool := match k with
  | 3 => true
  | 4 => true
  | _ => false
def pO5 (k : Nat) : Bool := match k with
  | 5 => true
  | _ => false
theorem c_isOf (hK : y_K X (64 * n + 20) = 3) (hk : k ≤ 5) (e : y_I X (64 * n + 20) 1 = nI k) : f_X2_isOf (64 * n + 20) 0 X = some (pO0 k, X) ∧ f_X2_isOf (64 * n + 20) 1 X = some (pO1 k, X) ∧ f_X2_isOf (64 * n + 20) 3 X = some (pO3 k, X) ∧ f_X2_isOf (64 * n + 20) 5 X = some (pO5 k, X) := by
  rcases kds5 hk e with ⟨rfl, e9⟩ | ⟨rfl, e9⟩ | ⟨rfl, e9⟩ | ⟨rfl, e9⟩ | ⟨rfl, e9⟩ | ⟨rfl, e9⟩ <;> (unfold pO0 pO1 pO3 pO5; refine ⟨?_, ?_, ?_, ?_⟩) <;> (unfold f_X2_isOf; (repeat (first | with_reducible apply ev_jn | ((with_reducible apply ev_bd); · first | (simp (disch := omega) only [hK, e9, e_KI, e_NI, e_BI, e_LI, e_PI, e_KB, e_NB, e_IB, e_LB, e_PB, e_KL, e_NL, e_IL, e_BL, e_PL, e_KP, e_NP, e_IP, e_BP, e_LP, e_IIs, e_BBs, e_LLs, e_PPs, e_IIn, e_BBn, e_LLn, e_PPn, e_IIk, e_BBk, e_LLk, e_PPk, e_Ks, e_Ns, e_Is, e_Bs, e_Ls, e_Ps, e_Kn, e_Nn, e_In, e_Bn, e_Ln, e_Pn, if_true, if_false, and_self, or_true, true_or, not_false_eq_true, Bool.false_eq_true]; exact rfl) | exact rfl) | ((with_reducible apply ev_cl); · first | (simp (disch := omega) only [hK, e9, e_KI, e_NI, e_BI, e_LI, e_PI, e_KB, e_NB, e_IB, e_LB, e_PB, e_KL, e_NL, e_IL, e_BL, e_PL, e_KP, e_NP, e_IP, e_BP, e_LP, e_IIs, e_BBs, e_LLs, e_PPs, e_IIn, e_BBn, e_LLn, e_PPn, e_IIk, e_BBk, e_LLk, e_PPk, e_Ks, e_Ns, e_Is, e_Bs, e_Ls, e_Ps, e_Kn, e_Nn, e_In, e_Bn, e_Ln, e_Pn, if_true, if_false, and_self, or_true, true_or, not_false_eq_true, Bool.false_eq_true]; exact rfl) | exact rfl) | ((with_reducible apply ev_g); · first | (simp (disch := omega) only [hK, e9, e_KI, e_NI, e_BI, e_LI, e_PI, e_KB, e_NB, e_IB, e_LB, e_PB, e_KL, e_NL, e_IL, e_BL, e_PL, e_KP, e_NP, e_IP, e_BP, e_LP, e_IIs, e_BBs, e_LLs, e_PPs, e_IIn, e_BBn, e_LLn, e_PPn, e_IIk, e_BBk, e_LLk, e_PPk, e_Ks, e_Ns, e_Is, e_Bs, e_Ls, e_Ps, e_Kn, e_Nn, e_In, e_Bn, e_Ln, e_Pn, if_true, if_false, and_self, or_true, true_or, not_false_eq_true, Bool.false_eq_true]; done) | (simp (disch := omega) only [hK, e9, e_KI, e_NI, e_BI, e_LI, e_PI, e_KB, e_NB, e_IB, e_LB, e_PB, e_KL, e_NL, e_IL, e_BL, e_PL, e_KP, e_NP, e_IP, e_BP, e_LP, e_IIs, e_BBs, e_LLs, e_PPs, e_IIn, e_BBn, e_LLn, e_PPn, e_IIk, e_BBk, e_LLk, e_PPk, e_Ks, e_Ns, e_Is, e_Bs, e_Ls, e_Ps, e_Kn, e_Nn, e_In, e_Bn, e_Ln, e_Pn, if_true, if_false, and_self, or_true, true_or, not_false_eq_true, Bool.false_eq_true]; decide) | decide) | ((with_reducible apply ev_t); · first | (simp (disch := omega) only [hK, e9, e_KI, e_NI, e_BI, e_LI, e_PI, e_KB, e_NB, e_IB, e_LB, e_PB, e_KL, e_NL, e_IL, e_BL, e_PL, e_KP, e_NP, e_IP, e_BP, e_LP, e_IIs, e_BBs, e_LLs, e_PPs, e_IIn, e_BBn, e_LLn, e_PPn, e_IIk, e_BBk, e_LLk, e_PPk, e_Ks, e_Ns, e_Is, e_Bs, e_Ls, e_Ps, e_Kn, e_Nn, e_In, e_Bn, e_Ln, e_Pn, if_true, if_false, and_self, or_true, true_or, not_false_eq_true, Bool.false_eq_true]; done) | (simp (disch := omega) only [hK, e9, e_KI, e_NI, e_BI, e_LI, e_PI, e_KB, e_NB, e_IB, e_LB, e_PB, e_KL, e_NL, e_IL, e_BL, e_PL, e_KP, e_NP, e_IP, e_BP, e_LP, e_IIs, e_BBs, e_LLs, e_PPs, e_IIn, e_BBn, e_LLn, e_PPn, e_IIk, e_BBk, e_LLk, e_PPk, e_Ks, e_Ns, e_Is, e_Bs, e_Ls, e_Ps, e_Kn, e_Nn, e_In, e_Bn, e_Ln, e_Pn, if_true, if_false, and_self, or_true, true_or, not_false_eq_true, Bool.false_eq_true]; decide) | decide) | ((with_reducible apply ev_f); · first | (simp (disch := omega) only [hK, e9, e_KI, e_NI, e_BI, e_LI, e_PI, e_KB, e_NB, e_IB, e_LB, e_PB, e_KL, e_NL, e_IL, e_BL, e_PL, e_KP, e_NP, e_IP, e_BP, e_LP, e_IIs, e_BBs, e_LLs, e_PPs, e_IIn, e_BBn, e_LLn, e_PPn, e_IIk, e_BBk, e_LLk, e_PPk, e_Ks, e_Ns, e_Is, e_Bs, e_Ls, e_Ps, e_Kn, e_Nn, e_In, e_Bn, e_Ln, e_Pn, if_true, if_false, and_self, or_true, true_or, not_false_eq_true, Bool.false_eq_true]; done) | (simp (disch := omega) only [hK, e9, e_KI, e_NI, e_BI, e_LI, e_PI, e_KB, e_NB, e_IB, e_LB, e_PB, e_KL, e_NL, e_IL, e_BL, e_PL, e_KP, e_NP, e_IP, e_BP, e_LP, e_IIs, e_BBs, e_LLs, e_PPs, e_IIn, e_BBn, e_LLn, e_PPn, e_IIk, e_BBk, e_LLk, e_PPk, e_Ks, e_Ns, e_Is, e_Bs, e_Ls, e_Ps, e_Kn, e_Nn, e_In, e_Bn, e_Ln, e_Pn, if_true, if_false, and_self, or_true, true_or, not_false_eq_true, Bool.false_eq_true]; decide) | decide) | ((with_reducible apply ev_s) <;> (first | (with_reducible rfl) | (simp (disch := omega) only [hK, e9, e_KI, e_NI, e_BI, e_LI, e_PI, e_KB, e_NB, e_IB, e_LB, e_PB, e_KL, e_NL, e_IL, e_BL, e_PL, e_KP, e_NP, e_IP, e_BP, e_LP, e_IIs, e_BBs, e_LLs, e_PPs, e_IIn, e_BBn, e_LLn, e_PPn, e_IIk, e_BBk, e_LLk, e_PPk, e_Ks, e_Ns, e_Is, e_Bs, e_Ls, e_Ps, e_Kn, e_Nn, e_In, e_Bn, e_Ln, e_Pn, if_true, if_false, and_self, or_true, true_or, not_false_eq_true, Bool.false_eq_true]; done) | (simp (disch := omega) only [hK, e9, e_KI, e_NI, e_BI, e_LI, e_PI, e_KB, e_NB, e_IB, e_LB, e_PB, e_KL, e_NL, e_IL, e_BL, e_PL, e_KP, e_NP, e_IP, e_BP, e_LP, e_IIs, e_BBs, e_LLs, e_PPs, e_IIn, e_BBn, e_LLn, e_PPn, e_IIk, e_BBk, e_LLk, e_PPk, e_Ks, e_Ns, e_Is, e_Bs, e_Ls, e_Ps, e_Kn, e_Nn, e_In, e_Bn, e_Ln, e_Pn, if_true, if_false, and_self, or_true, true_or, not_false_eq_true, Bool.false_eq_true]; rfl))))))
theorem c_isOfX (R : RelP h t e N C S A) (c : CX h X) (hn : n < N) : f_X2_isOf (64 * n + 20) 0 X = some (pO0 (kd h n), X) ∧ f_X2_isOf (64 * n + 20) 1 X = some (pO1 (kd h n), X) ∧ f_X2_isOf (64 * n + 20) 3 X = some (pO3 (kd h n), X) ∧ f_X2_isOf (64 * n + 20) 5 X = some (pO5 (kd h n), X) := by
  obtain ⟨q1, q2⟩ := kd_of R hn
  have b := (R.rB.2.2.2.1 n hn).1
  exact c_isOf ((c.K _).trans b.2.1) q2 ((c.I (by omega)).trans (b.2.2.2.1.trans q1))
theorem c_knownC (R : RelP h t e N C S A) (c : CX h X) (hn : n < N) : f_X2_known (64 * n + 20) X = some (kn h n, X) := by
  obtain ⟨b1, b2, b3, b4, b5, b6, b7, b8, b9, b10, b11, b12, b13, -⟩ := (R.rB.2.2.2.1 n hn).1
  have z := c_known (h := X) (n := n) ((c.K _).trans b2) (by rw [c.B (by omega), c.B (by omega)]; exact b13) (by rw [c.I (by omega), c.I (by omega)]; exact b6) (by rw [c.I (by omega), c.I (by omega)]; exact b5)
  rw [z]
  unfold kn
  rw [c.B (by omega), c.I (by omega), c.I (by omega)]
theorem c_bearsC (R : RelP h t e N C S A) (c : CX h X) (hn : n < N) : f_X2_bears (64 * n + 20) 16 X = some ((pBears (kd h n)).1, cMks X (pBears (kd h n)).2) := by
  obtain ⟨q1, q2⟩ := kd_of R hn
  have b := (R.rB.2.2.2.1 n hn).1
  exact c_bears c.1 c.2.1 ((c.K _).trans b.2.1) q2 ((c.I (by omega)).trans (b.2.2.2.1.trans q1))
theorem c_tallC (R : RelP h t e N C S A) (c : CX h X) (hn : n < N) : f_X2_tall (64 * n + 20) 16 X = some ((pTall (kd h n)).1, cMks X (pTall (kd h n)).2) := by
  obtain ⟨q1, q2⟩ := kd_of R hn
  have b := (R.rB.2.2.2.1 n hn).1
  exact c_tall c.1 c.2.1 ((c.K _).trans b.2.1) q2 ((c.I (by omega)).trans (b.2.2.2.1.trans q1))
/-- a stack: m stacks in the bay, this one of height H, with f boxes v -/
def SF (h : y_H) (N b s m H f : Nat) (v : Nat → Nat) : Prop := b < 10 ∧ y_B h 994 b = true ∧ vshape h b ∧ y_I h 1122 b = nI m ∧ y_I h (64 * b + 23) 7 = nI m ∧ s < m ∧ m ≤ 6 ∧ 1 ≤ H ∧ H ≤ 5 ∧ f ≤ H ∧ y_I h 1186 (6 * b + s) = nI H ∧ y_I h (64 * b + 30) s = nI H ∧ y_I h (64 * b + 31) s = y_I h 1250 (6 * b + s) ∧ y_I h 1314 (6 * b + s) = nI f ∧ y_I h (64 * b + 32) s = nI f ∧ (∀ t, t < 5 → y_P h (64 * b + 33) (5 * s + t) = if t < f then 64 * v t + 20 else 0) ∧ ∀ t, t < f → v t < N ∧ y_I h 1378 (5 * (6 * b + s) + t) = nI (v t) ∧ y_I h 418 (v t) = 1 ∧ y_I h 482 (v t) = nI b ∧ y_I h 546 (v t) = nI s ∧ y_I h 610 (v t) = nI t
theorem SF_of (R : RelP h t e N C S A) (hb : b < 10) (hl : y_B h 994 b = true) : ∃ m, 1 ≤ m ∧ m ≤ 6 ∧ y_I h 1122 b = nI m ∧ y_I h (64 * b + 23) 7 = nI m ∧ ∀ s, s < m → ∃ H f v, SF h N b s m H f v := by
  obtain ⟨w, rT, rM, rB, rC, rS, rV, rL, rJ, rP, rH, rD, rQ, rK⟩ := id R
  obtain ⟨v1, v2, v3, v4, m, v5, v6, v7, v8, v9⟩ := vx_on (rV b hb) hl
  refine ⟨m, v5, v6, v7, v8, fun s hs => ?_⟩
  obtain ⟨H, f, k1, k2, k3, k4, k5, k6, k7, k8, k9⟩ := stk_in (v9 s (by omega)) hs
  have key : ∀ t, t < f → (y_I h 1378 (5 * (6 * b + s) + t)).toNatClampNeg < N ∧ y_I h 1378 (5 * (6 * b + s) + t) = nI ((y_I h 1378 (5 * (6 * b + s) + t)).toNatClampNeg) ∧ y_I h 418 ((y_I h 1378 (5 * (6 * b + s) + t)).toNatClampNeg) = 1 ∧ y_I h 482 ((y_I h 1378 (5 * (6 * b + s) + t)).toNatClampNeg) = nI b ∧ y_I h 546 ((y_I h 1378 (5 * (6 * b + s) + t)).toNatClampNeg) = nI s ∧ y_I h 610 ((y_I h 1378 (5 * (6 * b + s) + t)).toNatClampNeg) = nI t := fun t ht => by
    obtain ⟨n, hn, z1, z2, z3, z4, z5⟩ := rP.1 b m s f t hb hl v7 hs v6 k7 (by omega) ht
    have hN := rB.1
    have ec : (y_I h 1378 (5 * (6 * b + s) + t)).toNatClampNeg = n := by rw [z1, i_cl (by omega)]
    rw [ec]
    exact ⟨hn, z1, z2, z3, z4, z5⟩
  refine ⟨H, f, fun t => (y_I h 1378 (5 * (6 * b + s) + t)).toNatClampNeg, hb, hl, v1, v7, v8, hs, v6, k1, k2, k3, k4, k5, k6, k7, k8, fun t ht => ?_, key⟩
  rw [k9 t ht]
  by_cases q : t < f
  · rw [if_pos q, if_pos q, (key t q).2.1, pB_n (by have := (key t q).1; have := rB.1; omega)]
  · rw [if_neg q, if_neg q]
theorem vshC (c : CX h X) (q : vshape h b) : vshape X b := by
  obtain ⟨o1, o2, o3, o4, o5, o6, o7, o8, o9, o10, o11, o12, o13, o14, o15⟩ := q
  refine ⟨(c.P (by omega)).trans o1, (c.K _).trans o2, (c.I (by omega)).trans o3, (c.P (by omega)).trans o4, (c.P (by omega)).trans o5, (c.P (by omega)).trans o6, (c.P (by omega)).trans o7, (c.K _).trans o8, (c.Nn _).trans o9, (c.K _).trans o10, (c.Nn _).trans o11, (c.K _).trans o12, (c.Nn _).trans o13, (c.K _).trans o14, (c.Nn _).trans o15⟩
theorem c_bi (F : SF h N b s m H f v) (c : CX h X) {i : Nat} (hi : i < 5) : f_X1_boxIn (64 * b + 23) (nI s) (nI i) X = some (if i < f then 64 * v i + 20 else 0, X) := by
  obtain ⟨f1, f2, f3, f4, f5, f6, f7, f8, f9, f10, f11, f12, f13, f14, f15, f16, f17⟩ := F
  have vs := vshC c f3
  have e2 : y_I X (64 * b + 23) 7 = nI m := (c.I (by omega)).trans f5
  have e3 : y_I X (64 * b + 30) s = nI H := (c.I (by omega)).trans f12
  by_cases q : i < H
  · rw [c_boxIn c.1 vs e2 f6 f7 f9 e3 q, c.P (by omega), f16 i hi]
  · have q1 : ¬ nI m ≤ nI s := nI_ge f6 (by omega)
    have q3 : nI H ≤ nI i := nI_le (by omega) (by omega)
    have hx := i_ix (show s < 6 by omega) (by decide)
    have hcl := i_cl (show s < 2 ^ 31 by omega)
    unfold vshape at vs
    have hpl : f_X1_hasPlace (64 * b + 23) (nI s) (nI i) X = some (false, X) := by
      unfold f_X1_hasPlace
      (repeat (first | with_reducible apply ev_jn | ((with_reducible apply ev_bd); · first | (simp (disch := omega) only [vs, e2, e3, q1, q3, hx, hcl, i_n0 (show s < 2 ^ 31 by omega), i_n0 (show i < 2 ^ 31 by omega), e_KI, e_NI, e_BI, e_LI, e_PI, e_KB, e_NB, e_IB, e_LB, e_PB, e_KL, e_NL, e_IL, e_BL, e_PL, e_KP, e_NP, e_IP, e_BP, e_LP, e_IIs, e_BBs, e_LLs, e_PPs, e_IIn, e_BBn, e_LLn, e_PPn, e_IIk, e_BBk, e_LLk, e_PPk, e_Ks, e_Ns, e_Is, e_Bs, e_Ls, e_Ps, e_Kn, e_Nn, e_In, e_Bn, e_Ln, e_Pn, if_true, if_false, and_self, or_true, true_or, not_false_eq_true, Bool.false_eq_true]; exact rfl) | exact rfl) | ((with_reducible apply ev_cl); · first | (simp (disch := omega) only [vs, e2, e3, q1, q3, hx, hcl, i_n0 (show s < 2 ^ 31 by omega), i_n0 (show i < 2 ^ 31 by omega), e_KI, e_NI, e_BI, e_LI, e_PI, e_KB, e_NB, e_IB, e_LB, e_PB, e_KL, e_NL, e_IL, e_BL, e_PL, e_KP, e_NP, e_IP, e_BP, e_LP, e_IIs, e_BBs, e_LLs, e_PPs, e_IIn, e_BBn, e_LLn, e_PPn, e_IIk, e_BBk, e_LLk, e_PPk, e_Ks, e_Ns, e_Is, e_Bs, e_Ls, e_Ps, e_Kn, e_Nn, e_In, e_Bn, e_Ln, e_Pn, if_true, if_false, and_self, or_true, true_or, not_false_eq_true, Bool.false_eq_true]; exact rfl) | exact rfl) | ((with_reducible apply ev_g); · first | (simp (disch := omega) only [vs, e2, e3, q1, q3, hx, hcl, i_n0 (show s < 2 ^ 31 by omega), i_n0 (show i < 2 ^ 31 by omega), e_KI, e_NI, e_BI, e_LI, e_PI, e_KB, e_NB, e_IB, e_LB, e_PB, e_KL, e_NL, e_IL, e_BL, e_PL, e_KP, e_NP, e_IP, e_BP, e_LP, e_IIs, e_BBs, e_LLs, e_PPs, e_IIn, e_BBn, e_LLn, e_PPn, e_IIk, e_BBk, e_LLk, e_PPk, e_Ks, e_Ns, e_Is, e_Bs, e_Ls, e_Ps, e_Kn, e_Nn, e_In, e_Bn, e_Ln, e_Pn, if_true, if_false, and_self, or_true, true_or, not_false_eq_true, Bool.false_eq_true]; done) | (simp (disch := omega) only [vs, e2, e3, q1, q3, hx, hcl, i_n0 (show s < 2 ^ 31 by omega), i_n0 (show i < 2 ^ 31 by omega), e_KI, e_NI, e_BI, e_LI, e_PI, e_KB, e_NB, e_IB, e_LB, e_PB, e_KL, e_NL, e_IL, e_BL, e_PL, e_KP, e_NP, e_IP, e_BP, e_LP, e_IIs, e_BBs, e_LLs, e_PPs, e_IIn, e_BBn, e_LLn, e_PPn, e_IIk, e_BBk, e_LLk, e_PPk, e_Ks, e_Ns, e_Is, e_Bs, e_Ls, e_Ps, e_Kn, e_Nn, e_In, e_Bn, e_Ln, e_Pn, if_true, if_false, and_self, or_true, true_or, not_false_eq_true, Bool.false_eq_true]; decide) | decide) | ((with_reducible apply ev_t); · first | (simp (disch := omega) only [vs, e2, e3, q1, q3, hx, hcl, i_n0 (show s < 2 ^ 31 by omega), i_n0 (show i < 2 ^ 31 by omega), e_KI, e_NI, e_BI, e_LI, e_PI, e_KB, e_NB, e_IB, e_LB, e_PB, e_KL, e_NL, e_IL, e_BL, e_PL, e_KP, e_NP, e_IP, e_BP, e_LP, e_IIs, e_BBs, e_LLs, e_PPs, e_IIn, e_BBn, e_LLn, e_PPn, e_IIk, e_BBk, e_LLk, e_PPk, e_Ks, e_Ns, e_Is, e_Bs, e_Ls, e_Ps, e_Kn, e_Nn, e_In, e_Bn, e_Ln, e_Pn, if_true, if_false, and_self, or_true, true_or, not_false_eq_true, Bool.false_eq_true]; done) | (simp (disch := omega) only [vs, e2, e3, q1, q3, hx, hcl, i_n0 (show s < 2 ^ 31 by omega), i_n0 (show i < 2 ^ 31 by omega), e_KI, e_NI, e_BI, e_LI, e_PI, e_KB, e_NB, e_IB, e_LB, e_PB, e_KL, e_NL, e_IL, e_BL, e_PL, e_KP, e_NP, e_IP, e_BP, e_LP, e_IIs, e_BBs, e_LLs, e_PPs, e_IIn, e_BBn, e_LLn, e_PPn, e_IIk, e_BBk, e_LLk, e_PPk, e_Ks, e_Ns, e_Is, e_Bs, e_Ls, e_Ps, e_Kn, e_Nn, e_In, e_Bn, e_Ln, e_Pn, if_true, if_false, and_self, or_true, true_or, not_false_eq_true, Bool.false_eq_true]; decide) | decide) | ((with_reducible apply ev_f); · first | (simp (disch := omega) only [vs, e2, e3, q1, q3, hx, hcl, i_n0 (show s < 2 ^ 31 by omega), i_n0 (show i < 2 ^ 31 by omega), e_KI, e_NI, e_BI, e_LI, e_PI, e_KB, e_NB, e_IB, e_LB, e_PB, e_KL, e_NL, e_IL, e_BL, e_PL, e_KP, e_NP, e_IP, e_BP, e_LP, e_IIs, e_BBs, e_LLs, e_PPs, e_IIn, e_BBn, e_LLn, e_PPn, e_IIk, e_BBk, e_LLk, e_PPk, e_Ks, e_Ns, e_Is, e_Bs, e_Ls, e_Ps, e_Kn, e_Nn, e_In, e_Bn, e_Ln, e_Pn, if_true, if_false, and_self, or_true, true_or, not_false_eq_true, Bool.false_eq_true]; done) | (simp (disch := omega) only [vs, e2, e3, q1, q3, hx, hcl, i_n0 (show s < 2 ^ 31 by omega), i_n0 (show i < 2 ^ 31 by omega), e_KI, e_NI, e_BI, e_LI, e_PI, e_KB, e_NB, e_IB, e_LB, e_PB, e_KL, e_NL, e_IL, e_BL, e_PL, e_KP, e_NP, e_IP, e_BP, e_LP, e_IIs, e_BBs, e_LLs, e_PPs, e_IIn, e_BBn, e_LLn, e_PPn, e_IIk, e_BBk, e_LLk, e_PPk, e_Ks, e_Ns, e_Is, e_Bs, e_Ls, e_Ps, e_Kn, e_Nn, e_In, e_Bn, e_Ln, e_Pn, if_true, if_false, and_self, or_true, true_or, not_false_eq_true, Bool.false_eq_true]; decide) | decide) | ((with_reducible apply ev_s) <;> (first | (with_reducible rfl) | (simp (disch := omega) only [vs, e2, e3, q1, q3, hx, hcl, i_n0 (show s < 2 ^ 31 by omega), i_n0 (show i < 2 ^ 31 by omega), e_KI, e_NI, e_BI, e_LI, e_PI, e_KB, e_NB, e_IB, e_LB, e_PB, e_KL, e_NL, e_IL, e_BL, e_PL, e_KP, e_NP, e_IP, e_BP, e_LP, e_IIs, e_BBs, e_LLs, e_PPs, e_IIn, e_BBn, e_LLn, e_PPn, e_IIk, e_BBk, e_LLk, e_PPk, e_Ks, e_Ns, e_Is, e_Bs, e_Ls, e_Ps, e_Kn, e_Nn, e_In, e_Bn, e_Ln, e_Pn, if_true, if_false, and_self, or_true, true_or, not_false_eq_true, Bool.false_eq_true]; done) | (simp (disch := omega) only [vs, e2, e3, q1, q3, hx, hcl, i_n0 (show s < 2 ^ 31 by omega), i_n0 (show i < 2 ^ 31 by omega), e_KI, e_NI, e_BI, e_LI, e_PI, e_KB, e_NB, e_IB, e_LB, e_PB, e_KL, e_NL, e_IL, e_BL, e_PL, e_KP, e_NP, e_IP, e_BP, e_LP, e_IIs, e_BBs, e_LLs, e_PPs, e_IIn, e_BBn, e_LLn, e_PPn, e_IIk, e_BBk, e_LLk, e_PPk, e_Ks, e_Ns, e_Is, e_Bs, e_Ls, e_Ps, e_Kn, e_Nn, e_In, e_Bn, e_Ln, e_Pn, if_true, if_false, and_self, or_true, true_or, not_false_eq_true, Bool.false_eq_true]; rfl)))))
    rw [if_neg (by omega)]
    unfold f_X1_boxIn
    (repeat (first | with_reducible apply ev_jn | ((with_reducible apply ev_bd); · first | (simp (disch := omega) only [vs, hpl, e_KI, e_NI, e_BI, e_LI, e_PI, e_KB, e_NB, e_IB, e_LB, e_PB, e_KL, e_NL, e_IL, e_BL, e_PL, e_KP, e_NP, e_IP, e_BP, e_LP, e_IIs, e_BBs, e_LLs, e_PPs, e_IIn, e_BBn, e_LLn, e_PPn, e_IIk, e_BBk, e_LLk, e_PPk, e_Ks, e_Ns, e_Is, e_Bs, e_Ls, e_Ps, e_Kn, e_Nn, e_In, e_Bn, e_Ln, e_Pn, if_true, if_false, and_self, or_true, true_or, not_false_eq_true, Bool.false_eq_true]; exact rfl) | exact rfl) | ((with_reducible apply ev_cl); · first | (simp (disch := omega) only [vs, hpl, e_KI, e_NI, e_BI, e_LI, e_PI, e_KB, e_NB, e_IB, e_LB, e_PB, e_KL, e_NL, e_IL, e_BL, e_PL, e_KP, e_NP, e_IP, e_BP, e_LP, e_IIs, e_BBs, e_LLs, e_PPs, e_IIn, e_BBn, e_LLn, e_PPn, e_IIk, e_BBk, e_LLk, e_PPk, e_Ks, e_Ns, e_Is, e_Bs, e_Ls, e_Ps, e_Kn, e_Nn, e_In, e_Bn, e_Ln, e_Pn, if_true, if_false, and_self, or_true, true_or, not_false_eq_true, Bool.false_eq_true]; exact rfl) | exact rfl) | ((with_reducible apply ev_g); · first | (simp (disch := omega) only [vs, hpl, e_KI, e_NI, e_BI, e_LI, e_PI, e_KB, e_NB, e_IB, e_LB, e_PB, e_KL, e_NL, e_IL, e_BL, e_PL, e_KP, e_NP, e_IP, e_BP, e_LP, e_IIs, e_BBs, e_LLs, e_PPs, e_IIn, e_BBn, e_LLn, e_PPn, e_IIk, e_BBk, e_LLk, e_PPk, e_Ks, e_Ns, e_Is, e_Bs, e_Ls, e_Ps, e_Kn, e_Nn, e_In, e_Bn, e_Ln, e_Pn, if_true, if_false, and_self, or_true, true_or, not_false_eq_true, Bool.false_eq_true]; done) | (simp (disch := omega) only [vs, hpl, e_KI, e_NI, e_BI, e_LI, e_PI, e_KB, e_NB, e_IB, e_LB, e_PB, e_KL, e_NL, e_IL, e_BL, e_PL, e_KP, e_NP, e_IP, e_BP, e_LP, e_IIs, e_BBs, e_LLs, e_PPs, e_IIn, e_BBn, e_LLn, e_PPn, e_IIk, e_BBk, e_LLk, e_PPk, e_Ks, e_Ns, e_Is, e_Bs, e_Ls, e_Ps, e_Kn, e_Nn, e_In, e_Bn, e_Ln, e_Pn, if_true, if_false, and_self, or_true, true_or, not_false_eq_true, Bool.false_eq_true]; decide) | decide) | ((with_reducible apply ev_t); · first | (simp (disch := omega) only [vs, hpl, e_KI, e_NI, e_BI, e_LI, e_PI, e_KB, e_NB, e_IB, e_LB, e_PB, e_KL, e_NL, e_IL, e_BL, e_PL, e_KP, e_NP, e_IP, e_BP, e_LP, e_IIs, e_BBs, e_LLs, e_PPs, e_IIn, e_BBn, e_LLn, e_PPn, e_IIk, e_BBk, e_LLk, e_PPk, e_Ks, e_Ns, e_Is, e_Bs, e_Ls, e_Ps, e_Kn, e_Nn, e_In, e_Bn, e_Ln, e_Pn, if_true, if_false, and_self, or_true, true_or, not_false_eq_true, Bool.false_eq_true]; done) | (simp (disch := omega) only [vs, hpl, e_KI, e_NI, e_BI, e_LI, e_PI, e_KB, e_NB, e_IB, e_LB, e_PB, e_KL, e_NL, e_IL, e_BL, e_PL, e_KP, e_NP, e_IP, e_BP, e_LP, e_IIs, e_BBs, e_LLs, e_PPs, e_IIn, e_BBn, e_LLn, e_PPn, e_IIk, e_BBk, e_LLk, e_PPk, e_Ks, e_Ns, e_Is, e_Bs, e_Ls, e_Ps, e_Kn, e_Nn, e_In, e_Bn, e_Ln, e_Pn, if_true, if_false, and_self, or_true, true_or, not_false_eq_true, Bool.false_eq_true]; decide) | decide) | ((with_reducible apply ev_f); · first | (simp (disch := omega) only [vs, hpl, e_KI, e_NI, e_BI, e_LI, e_PI, e_KB, e_NB, e_IB, e_LB, e_PB, e_KL, e_NL, e_IL, e_BL, e_PL, e_KP, e_NP, e_IP, e_BP, e_LP, e_IIs, e_BBs, e_LLs, e_PPs, e_IIn, e_BBn, e_LLn, e_PPn, e_IIk, e_BBk, e_LLk, e_PPk, e_Ks, e_Ns, e_Is, e_Bs, e_Ls, e_Ps, e_Kn, e_Nn, e_In, e_Bn, e_Ln, e_Pn, if_true, if_false, and_self, or_true, true_or, not_false_eq_true, Bool.false_eq_true]; done) | (simp (disch := omega) only [vs, hpl, e_KI, e_NI, e_BI, e_LI, e_PI, e_KB, e_NB, e_IB, e_LB, e_PB, e_KL, e_NL, e_IL, e_BL, e_PL, e_KP, e_NP, e_IP, e_BP, e_LP, e_IIs, e_BBs, e_LLs, e_PPs, e_IIn, e_BBn, e_LLn, e_PPn, e_IIk, e_BBk, e_LLk, e_PPk, e_Ks, e_Ns, e_Is, e_Bs, e_Ls, e_Ps, e_Kn, e_Nn, e_In, e_Bn, e_Ln, e_Pn, if_true, if_false, and_self, or_true, true_or, not_false_eq_true, Bool.false_eq_true]; decide) | decide) | ((with_reducible apply ev_s) <;> (first | (with_reducible rfl) | (simp (disch := omega) only [vs, hpl, e_KI, e_NI, e_BI, e_LI, e_PI, e_KB, e_NB, e_IB, e_LB, e_PB, e_KL, e_NL, e_IL, e_BL, e_PL, e_KP, e_NP, e_IP, e_BP, e_LP, e_IIs, e_BBs, e_LLs, e_PPs, e_IIn, e_BBn, e_LLn, e_PPn, e_IIk, e_BBk, e_LLk, e_PPk, e_Ks, e_Ns, e_Is, e_Bs, e_Ls, e_Ps, e_Kn, e_Nn, e_In, e_Bn, e_Ln, e_Pn, if_true, if_false, and_self, or_true, true_or, not_false_eq_true, Bool.false_eq_true]; done) | (simp (disch := omega) only [vs, hpl, e_KI, e_NI, e_BI, e_LI, e_PI, e_KB, e_NB, e_IB, e_LB, e_PB, e_KL, e_NL, e_IL, e_BL, e_PL, e_KP, e_NP, e_IP, e_BP, e_LP, e_IIs, e_BBs, e_LLs, e_PPs, e_IIn, e_BBn, e_LLn, e_PPn, e_IIk, e_BBk, e_LLk, e_PPk, e_Ks, e_Ns, e_Is, e_Bs, e_Ls, e_Ps, e_Kn, e_Nn, e_In, e_Bn, e_Ln, e_Pn, if_true, if_false, and_self, or_true, true_or, not_false_eq_true, Bool.false_eq_true]; rfl)))))
theorem c_hs (F : SF h N b s m H f v) (c : CX h X) : f_X1_hasStack (64 * b + 23) (nI s) X = some (true, X) := by
  obtain ⟨f1, f2, f3, f4, f5, f6, f7, f8, f9, f10, f11, f12, f13, f14, f15, f16, f17⟩ := F
  have vs := vshC c f3
  have e2 : y_I X (64 * b + 23) 7 = nI m := (c.I (by omega)).trans f5
  have q1 : ¬ nI m ≤ nI s := nI_ge f6 (by omega)
  unfold vshape at vs
  unfold f_X1_hasStack
  (repeat (first | with_reducible apply ev_jn | ((with_reducible apply ev_bd); · first | (simp (disch := omega) only [vs, e2, q1, i_n0 (show s < 2 ^ 31 by omega), e_KI, e_NI, e_BI, e_LI, e_PI, e_KB, e_NB, e_IB, e_LB, e_PB, e_KL, e_NL, e_IL, e_BL, e_PL, e_KP, e_NP, e_IP, e_BP, e_LP, e_IIs, e_BBs, e_LLs, e_PPs, e_IIn, e_BBn, e_LLn, e_PPn, e_IIk, e_BBk, e_LLk, e_PPk, e_Ks, e_Ns, e_Is, e_Bs, e_Ls, e_Ps, e_Kn, e_Nn, e_In, e_Bn, e_Ln, e_Pn, if_true, if_false, and_self, or_true, true_or, not_false_eq_true, Bool.false_eq_true]; exact rfl) | exact rfl) | ((with_reducible apply ev_cl); · first | (simp (disch := omega) only [vs, e2, q1, i_n0 (show s < 2 ^ 31 by omega), e_KI, e_NI, e_BI, e_LI, e_PI, e_KB, e_NB, e_IB, e_LB, e_PB, e_KL, e_NL, e_IL, e_BL, e_PL, e_KP, e_NP, e_IP, e_BP, e_LP, e_IIs, e_BBs, e_LLs, e_PPs, e_IIn, e_BBn, e_LLn, e_PPn, e_IIk, e_BBk, e_LLk, e_PPk, e_Ks, e_Ns, e_Is, e_Bs, e_Ls, e_Ps, e_Kn, e_Nn, e_In, e_Bn, e_Ln, e_Pn, if_true, if_false, and_self, or_true, true_or, not_false_eq_true, Bool.false_eq_true]; exact rfl) | exact rfl) | ((with_reducible apply ev_g); · first | (simp (disch := omega) only [vs, e2, q1, i_n0 (show s < 2 ^ 31 by omega), e_KI, e_NI, e_BI, e_LI, e_PI, e_KB, e_NB, e_IB, e_LB, e_PB, e_KL, e_NL, e_IL, e_BL, e_PL, e_KP, e_NP, e_IP, e_BP, e_LP, e_IIs, e_BBs, e_LLs, e_PPs, e_IIn, e_BBn, e_LLn, e_PPn, e_IIk, e_BBk, e_LLk, e_PPk, e_Ks, e_Ns, e_Is, e_Bs, e_Ls, e_Ps, e_Kn, e_Nn, e_In, e_Bn, e_Ln, e_Pn, if_true, if_false, and_self, or_true, true_or, not_false_eq_true, Bool.false_eq_true]; done) | (simp (disch := omega) only [vs, e2, q1, i_n0 (show s < 2 ^ 31 by omega), e_KI, e_NI, e_BI, e_LI, e_PI, e_KB, e_NB, e_IB, e_LB, e_PB, e_KL, e_NL, e_IL, e_BL, e_PL, e_KP, e_NP, e_IP, e_BP, e_LP, e_IIs, e_BBs, e_LLs, e_PPs, e_IIn, e_BBn, e_LLn, e_PPn, e_IIk, e_BBk, e_LLk, e_PPk, e_Ks, e_Ns, e_Is, e_Bs, e_Ls, e_Ps, e_Kn, e_Nn, e_In, e_Bn, e_Ln, e_Pn, if_true, if_false, and_self, or_true, true_or, not_false_eq_true, Bool.false_eq_true]; decide) | decide) | ((with_reducible apply ev_t); · first | (simp (disch := omega) only [vs, e2, q1, i_n0 (show s < 2 ^ 31 by omega), e_KI, e_NI, e_BI, e_LI, e_PI, e_KB, e_NB, e_IB, e_LB, e_PB, e_KL, e_NL, e_IL, e_BL, e_PL, e_KP, e_NP, e_IP, e_BP, e_LP, e_IIs, e_BBs, e_LLs, e_PPs, e_IIn, e_BBn, e_LLn, e_PPn, e_IIk, e_BBk, e_LLk, e_PPk, e_Ks, e_Ns, e_Is, e_Bs, e_Ls, e_Ps, e_Kn, e_Nn, e_In, e_Bn, e_Ln, e_Pn, if_true, if_false, and_self, or_true, true_or, not_false_eq_true, Bool.false_eq_true]; done) | (simp (disch := omega) only [vs, e2, q1, i_n0 (show s < 2 ^ 31 by omega), e_KI, e_NI, e_BI, e_LI, e_PI, e_KB, e_NB, e_IB, e_LB, e_PB, e_KL, e_NL, e_IL, e_BL, e_PL, e_KP, e_NP, e_IP, e_BP, e_LP, e_IIs, e_BBs, e_LLs, e_PPs, e_IIn, e_BBn, e_LLn, e_PPn, e_IIk, e_BBk, e_LLk, e_PPk, e_Ks, e_Ns, e_Is, e_Bs, e_Ls, e_Ps, e_Kn, e_Nn, e_In, e_Bn, e_Ln, e_Pn, if_true, if_false, and_self, or_true, true_or, not_false_eq_true, Bool.false_eq_true]; decide) | decide) | ((with_reducible apply ev_f); · first | (simp (disch := omega) only [vs, e2, q1, i_n0 (show s < 2 ^ 31 by omega), e_KI, e_NI, e_BI, e_LI, e_PI, e_KB, e_NB, e_IB, e_LB, e_PB, e_KL, e_NL, e_IL, e_BL, e_PL, e_KP, e_NP, e_IP, e_BP, e_LP, e_IIs, e_BBs, e_LLs, e_PPs, e_IIn, e_BBn, e_LLn, e_PPn, e_IIk, e_BBk, e_LLk, e_PPk, e_Ks, e_Ns, e_Is, e_Bs, e_Ls, e_Ps, e_Kn, e_Nn, e_In, e_Bn, e_Ln, e_Pn, if_true, if_false, and_self, or_true, true_or, not_false_eq_true, Bool.false_eq_true]; done) | (simp (disch := omega) only [vs, e2, q1, i_n0 (show s < 2 ^ 31 by omega), e_KI, e_NI, e_BI, e_LI, e_PI, e_KB, e_NB, e_IB, e_LB, e_PB, e_KL, e_NL, e_IL, e_BL, e_PL, e_KP, e_NP, e_IP, e_BP, e_LP, e_IIs, e_BBs, e_LLs, e_PPs, e_IIn, e_BBn, e_LLn, e_PPn, e_IIk, e_BBk, e_LLk, e_PPk, e_Ks, e_Ns, e_Is, e_Bs, e_Ls, e_Ps, e_Kn, e_Nn, e_In, e_Bn, e_Ln, e_Pn, if_true, if_false, and_self, or_true, true_or, not_false_eq_true, Bool.false_eq_true]; decide) | decide) | ((with_reducible apply ev_s) <;> (first | (with_reducible rfl) | (simp (disch := omega) only [vs, e2, q1, i_n0 (show s < 2 ^ 31 by omega), e_KI, e_NI, e_BI, e_LI, e_PI, e_KB, e_NB, e_IB, e_LB, e_PB, e_KL, e_NL, e_IL, e_BL, e_PL, e_KP, e_NP, e_IP, e_BP, e_LP, e_IIs, e_BBs, e_LLs, e_PPs, e_IIn, e_BBn, e_LLn, e_PPn, e_IIk, e_BBk, e_LLk, e_PPk, e_Ks, e_Ns, e_Is, e_Bs, e_Ls, e_Ps, e_Kn, e_Nn, e_In, e_Bn, e_Ln, e_Pn, if_true, if_false, and_self, or_true, true_or, not_false_eq_true, Bool.false_eq_true]; done) | (simp (disch := omega) only [vs, e2, q1, i_n0 (show s < 2 ^ 31 by omega), e_KI, e_NI, e_BI, e_LI, e_PI, e_KB, e_NB, e_IB, e_LB, e_PB, e_KL, e_NL, e_IL, e_BL, e_PL, e_KP, e_NP, e_IP, e_BP, e_LP, e_IIs, e_BBs, e_LLs, e_PPs, e_IIn, e_BBn, e_LLn, e_PPn, e_IIk, e_BBk, e_LLk, e_PPk, e_Ks, e_Ns, e_Is, e_Bs, e_Ls, e_Ps, e_Kn, e_Nn, e_In, e_Bn, e_Ln, e_Pn, if_true, if_false, and_self, or_true, true_or, not_false_eq_true, Bool.false_eq_true]; rfl)))))
/-- sums of weights: of the boxes from a on, r of them -/
def up (h : y_H) (v : Nat → Nat) (x : Int32) (a : Nat) : Nat → Int32
  | 0 => x
  | r + 1 => up h v x a r + kn h (v (a + r))
theorem up_x {x y : Int32} {a : Nat} : ∀ r, x + up h v y a r = up h v (x + y) a r
  | 0 => rfl
  | r + 1 => by rw [up, up, ← Int32.add_assoc, up_x r]
theorem up_f {x : Int32} {a : Nat} : ∀ r, up h v x a (r + 1) = up h v x (a + 1) r + kn h (v a)
  | 0 => rfl
  | r + 1 => by
    rw [up, up_f r, up, Int32.add_assoc, Int32.add_assoc, Int32.add_comm (kn h (v a)), show a + (r + 1) = a + 1 + r by omega]
theorem up_s {x : Int32} {a r : Nat} : up h v x a (r + 1) - kn h (v a) = up h v x (a + 1) r := by
  rw [up_f, Int32.add_sub_cancel]
/-- is one too heavy: r boxes from i on -/
def hvy (h : y_H) (v : Nat → Nat) (x : Int32) : Nat → Nat → Bool × List Int32
  | 0, _ => (false, [])
  | r + 1, i => if up h v x (i + 1) r ≤ (pBears (kd h (v i))).1 then ((hvy h v x r (i + 1)).1, (pBears (kd h (v i))).2 ++ (hvy h v x r (i + 1)).2) else (true, (pBears (kd h (v i))).2)
/-- how tall r boxes are -/
def tl (h : y_H) (v : Nat → Nat) : Nat → Int32 × List Int32
  | 0 => (0, [])
  | r + 1 => ((tl h v r).1 + (pTall (kd h (v r))).1, (tl h v r).2 ++ (pTall (kd h (v r))).2)
theorem c_weightOf (R : RelP h t e N C S A) (F : SF h N b s m H f v) (c : CX h X) : f_X1_weightOf (64 * b + 23) (nI s) X = some (up h v 0 0 f, X) := by
  suffices Hs : wp (f_X1_weightOf (64 * b + 23) (nI s) X) fun r h' => r = up h v 0 0 f ∧ h' = X by
    obtain ⟨r, h', e1, rfl, rfl⟩ := wp_ex Hs
    exact e1
  have hf5 : f ≤ 5 := Nat.le_trans F.2.2.2.2.2.2.2.2.2.1 F.2.2.2.2.2.2.2.2.1
  have k2 : y_K X (64 * b + 23) = 2 := (c.K _).trans F.2.2.1.2.1
  unfold f_X1_weightOf
  refine wp_jl (fun n j => ∀ i, i ≤ 5 → 5 - i < n → wp (j (64 * b + 23) (nI s) (up h v 0 0 (if i ≤ f then i else f)) (nI i) X) fun r h' => r = up h v 0 0 f ∧ h' = X) (fun i _ z => absurd z (by omega)) (fun n j IH i hi hn => ?_) (fun j IH => ?_)
  · by_cases e5 : i = 5
    · subst e5
      have q : (5 : Int32) ≤ nI 5 := by decide
      simp only [q, if_true, wp_some]
      refine ⟨?_, trivial⟩
      rw [show (if 5 ≤ f then 5 else f) = f by split <;> omega]
    · have q : ¬ (5 : Int32) ≤ nI i := nI_ge (a := i) (b := 5) (by omega) (by decide)
      have eb := c_bi F c (show i < 5 by omega)
      have IH' := IH (i + 1) (by omega) (by omega)
      by_cases hf : i < f
      · rw [if_pos hf] at eb
        have ne : ¬ 64 * v i + 20 = 0 := by omega
        have kv : y_K X (64 * v i + 20) = 3 := (c.K _).trans (R.rB.2.2.2.1 (v i) (F.2.2.2.2.2.2.2.2.2.2.2.2.2.2.2.2 i hf).1).1.2.1
        have ek := c_knownC R c (F.2.2.2.2.2.2.2.2.2.2.2.2.2.2.2.2 i hf).1
        rw [if_pos (show i + 1 ≤ f by omega), up, Nat.zero_add] at IH'
        simp only [q, if_false, k2, if_true, eb, e_cl, ne, kv, ek, nI_1]
        rw [if_pos (show i ≤ f by omega)]
        exact IH'
      · rw [if_neg hf] at eb
        rw [show (if i + 1 ≤ f then i + 1 else f) = f by split <;> omega] at IH'
        simp only [q, if_false, k2, if_true, eb, e_cl, nI_1, Int32.add_zero]
        rw [show (if i ≤ f then i else f) = f by split <;> omega]
        exact IH'
  · have z := IH 0 (by omega) (by unfold y_fu; omega)
    rw [if_pos (Nat.zero_le f)] at z
    exact z
theorem c_heavy (R : RelP h t e N C S A) (F : SF h N b s m H f v) (c : CX h X) (hn : n < N) : f_X1_isTooHeavy (64 * b + 23) (64 * n + 20) (nI s) 16 X = some ((hvy h v (kn h n) f 0).1, cMks X (hvy h v (kn h n) f 0).2) := by
  suffices Hs : wp (f_X1_isTooHeavy (64 * b + 23) (64 * n + 20) (nI s) 16 X) fun r h' => r = (hvy h v (kn h n) f 0).1 ∧ h' = cMks X (hvy h v (kn h n) f 0).2 by
    obtain ⟨r, h', e1, rfl, rfl⟩ := wp_ex Hs
    exact e1
  have hf5 : f ≤ 5 := Nat.le_trans F.2.2.2.2.2.2.2.2.2.1 F.2.2.2.2.2.2.2.2.1
  have k2 : y_K X (64 * b + 23) = 2 := (c.K _).trans F.2.2.1.2.1
  have k3 : y_K X (64 * n + 20) = 3 := (c.K _).trans (R.rB.2.2.2.1 n hn).1.2.1
  have e1 := c_knownC R c hn
  have e2 := c_weightOf R F c
  have e3 : kn h n + up h v 0 0 f = up h v (kn h n) 0 f := by rw [up_x, Int32.add_zero]
  unfold f_X1_isTooHeavy
  simp only [k2, k3, e1, e2, e_cl, if_true, e3]
  refine wp_jl (fun p j => ∀ i r l, i + r = f → 5 - i < p → (hvy h v (kn h n) r i).1 = (hvy h v (kn h n) f 0).1 → l ++ (hvy h v (kn h n) r i).2 = (hvy h v (kn h n) f 0).2 → wp (j (64 * b + 23) (nI s) 16 (up h v (kn h n) i r) (nI i) (cMks X l)) fun r h' => r = (hvy h v (kn h n) f 0).1 ∧ h' = cMks X (hvy h v (kn h n) f 0).2) (fun _ _ _ _ z => absurd z (by omega)) (fun p j IH i r l hi hp h1 h2 => ?_) (fun j IH => ?_)
  rotate_left
  · exact IH 0 f [] (by omega) (by unfold y_fu; omega) rfl rfl
  have cl := c.mks l
  by_cases e5 : i = 5
  · subst e5
    have r0 : r = 0 := by omega
    subst r0
    have q : (5 : Int32) ≤ nI 5 := by decide
    simp only [q, if_true, wp_some]
    simp only [hvy, List.append_nil] at h1 h2
    rw [← h1, h2]
    exact ⟨rfl, rfl⟩
  have q : ¬ (5 : Int32) ≤ nI i := nI_ge (a := i) (b := 5) (by omega) (by decide)
  have eb := c_bi F cl (show i < 5 by omega)
  cases r with
  | zero =>
    rw [if_neg (by omega)] at eb
    simp only [hvy, List.append_nil] at h1 h2
    simp only [q, if_false, e_Kc, k2, if_true, eb, e_cl, wp_some]
    rw [← h1, h2]
    exact ⟨rfl, rfl⟩
  | succ r =>
    rw [if_pos (by omega)] at eb
    have hvi := (F.2.2.2.2.2.2.2.2.2.2.2.2.2.2.2.2 i (by omega)).1
    have ne : ¬ 64 * v i + 20 = 0 := by omega
    have kv : y_K X (64 * v i + 20) = 3 := (c.K _).trans (R.rB.2.2.2.1 (v i) hvi).1.2.1
    have ek := c_knownC R cl hvi
    have er := c_bearsC R cl hvi
    rw [cMks_app] at er
    rw [hvy] at h1 h2
    simp only [q, if_false, e_Kc, k2, if_true, eb, e_cl, ne, kv, ek, er, up_s, nI_1]
    by_cases hu : up h v (kn h n) (i + 1) r ≤ (pBears (kd h (v i))).1
    · rw [if_pos hu] at h1 h2
      simp only [hu, if_true]
      exact IH (i + 1) r _ (by omega) (by omega) h1 (by rw [List.append_assoc]; exact h2)
    · rw [if_neg hu] at h1 h2
      simp only [hu, if_false, wp_some]
      rw [← h1, ← h2]
      exact ⟨rfl, rfl⟩
theorem c_tooTall (R : RelP h t e N C S A) (F : SF h N b s m H f v) (c : CX h X) (hn : n < N) : f_X1_isTooTall (64 * b + 23) (64 * n + 20) (nI s) 16 X = some (decide (¬ (tl h v f).1 + (pTall (kd h n)).1 ≤ 2 * nI H + 1), cMks X ((tl h v f).2 ++ (pTall (kd h n)).2)) := by
  suffices Hs : wp (f_X1_isTooTall (64 * b + 23) (64 * n + 20) (nI s) 16 X) fun r h' => r = decide (¬ (tl h v f).1 + (pTall (kd h n)).1 ≤ 2 * nI H + 1) ∧ h' = cMks X ((tl h v f).2 ++ (pTall (kd h n)).2) by
    obtain ⟨r, h', e1, rfl, rfl⟩ := wp_ex Hs
    exact e1
  have hf5 : f ≤ 5 := Nat.le_trans F.2.2.2.2.2.2.2.2.2.1 F.2.2.2.2.2.2.2.2.1
  have k2 : y_K X (64 * b + 23) = 2 := (c.K _).trans F.2.2.1.2.1
  have k3 : y_K X (64 * n + 20) = 3 := (c.K _).trans (R.rB.2.2.2.1 n hn).1.2.1
  unfold f_X1_isTooTall
  refine wp_jl (fun p j => ∀ i, i ≤ 5 → 5 - i < p → wp (j (64 * b + 23) (64 * n + 20) (nI s) 16 (tl h v (if i ≤ f then i else f)).1 (nI i) (cMks X (tl h v (if i ≤ f then i else f)).2)) fun r h' => r = decide (¬ (tl h v f).1 + (pTall (kd h n)).1 ≤ 2 * nI H + 1) ∧ h' = cMks X ((tl h v f).2 ++ (pTall (kd h n)).2)) (fun i _ z => absurd z (by omega)) (fun p j IH i hi hp => ?_) (fun j IH => ?_)
  rotate_left
  · have z := IH 0 (by omega) (by unfold y_fu; omega)
    rw [if_pos (Nat.zero_le f)] at z
    exact z
  have cl := c.mks (tl h v (if i ≤ f then i else f)).2
  by_cases e5 : i = 5
  · subst e5
    rw [show (if 5 ≤ f then 5 else f) = f by split <;> omega] at cl ⊢
    have q : (5 : Int32) ≤ nI 5 := by decide
    have et := c_tallC R cl hn
    rw [cMks_app] at et
    have c2 := c.mks ((tl h v f).2 ++ (pTall (kd h n)).2)
    have eh := c_hs F c2
    obtain ⟨f1, f2, f3, f4, f5, f6, f7, f8, f9, f10, f11, f12, f13, f14, f15, f16, f17⟩ := F
    have vs := vshC c2 f3
    unfold vshape at vs
    have e3 : y_I (cMks X ((tl h v f).2 ++ (pTall (kd h n)).2)) (64 * b + 30) s = nI H := (c2.I (by omega)).trans f12
    have hx := i_ix (show s < 6 by omega) (by decide)
    have hcl := i_cl (show s < 2 ^ 31 by omega)
    have k2' : y_K (cMks X (tl h v f).2) (64 * b + 23) = 2 := by rw [e_Kc]; exact k2
    have k3' : y_K (cMks X (tl h v f).2) (64 * n + 20) = 3 := by rw [e_Kc]; exact k3
    simp only [q, if_true, k2', k3', et, e_cl, e_jn, vs, eh, hx, hcl, and_self, e3]
    by_cases hu : (tl h v f).1 + (pTall (kd h n)).1 ≤ 2 * nI H + 1
    · simp only [hu, if_true, wp_some, not_true_eq_false, decide_false, and_self]
    · simp only [hu, if_false, wp_some, not_false_eq_true, decide_true, and_self]
  have q : ¬ (5 : Int32) ≤ nI i := nI_ge (a := i) (b := 5) (by omega) (by decide)
  have eb := c_bi F cl (show i < 5 by omega)
  have IH' := IH (i + 1) (by omega) (by omega)
  by_cases hf : i < f
  · rw [if_pos hf] at eb
    have hvi := (F.2.2.2.2.2.2.2.2.2.2.2.2.2.2.2.2 i hf).1
    have ne : ¬ 64 * v i + 20 = 0 := by omega
    rw [if_pos (show i ≤ f by omega)] at cl eb ⊢
    have kv : y_K (cMks X (tl h v i).2) (64 * v i + 20) = 3 := (cl.K _).trans (R.rB.2.2.2.1 (v i) hvi).1.2.1
    have k2' : y_K (cMks X (tl h v i).2) (64 * b + 23) = 2 := by rw [e_Kc]; exact k2
    have et := c_tallC R cl hvi
    rw [cMks_app] at et
    rw [if_pos (show i + 1 ≤ f by omega), tl] at IH'
    simp only [q, if_false, k2', if_true, eb, e_cl, ne, kv, et, nI_1]
    exact IH'
  · rw [if_neg hf] at eb
    rw [show (if i + 1 ≤ f then i + 1 else f) = f by split <;> omega] at IH'
    rw [show (if i ≤ f then i else f) = f by split <;> omega] at cl eb ⊢
    have k2' : y_K (cMks X (tl h v f).2) (64 * b + 23) = 2 := by rw [e_Kc]; exact k2
    simp only [q, if_false, k2', if_true, eb, e_cl, nI_1, Int32.add_zero]
    exact IH'
end STA
