/-! least: the model's states, one more -/
section LSM
variable {C D C0 : Cg} {G G0 G2 : y_H} {y : Sy} {s t d k n e N i j f g : Nat} {l : List Nat} {st : Nat → Cg} {row : Nat → Nat}
theorem BI.skips {σ : Type} {step : σ → Nat → Option σ} {p : Nat → σ → Prop} {s0 : σ} {st : Nat → σ} (B : BI step p s0 N st row i j) : ∀ b, j ≤ b → (∀ m, j ≤ m → m < b → step (st i) m = Option.none) → BI step p s0 N st row i b
  | 0, h, _ => by
    have : j = 0 := by omega
    rw [this] at B
    exact B
  | b + 1, h, q => by
    by_cases e : j = b + 1
    · rw [e] at B
      exact B
    · exact (BI.skips B b (by omega) (fun m h1 h2 => q m h1 (by omega))).skip (fun t hi w => by rw [q b (by omega) (by omega)] at w; cases w)
theorem tb7 (hd : d < 8) (j : Nat) (h : d.testBit j = true) : (7 : Nat).testBit j = true := by
  by_cases q : j < 3
  · rcases (show j = 0 ∨ j = 1 ∨ j = 2 by omega) with e | e | e <;> rw [e] <;> rfl
  · rw [tb0 hd q] at h
    cases h
theorem g_less (h : dkC C) (hs : s < 4) (hc : C s = d :: l) : lg (enc C) &&& ((7 <<< (Int32.toInt64 ((15 * nI s) + (3 * (nI (l.length + 1) - 1))) &&& 63)) ^^^ (-1 : Int64)) = lg (enc (upI C s l)) := by
  obtain ⟨h1, h2, h3⟩ := (show dk (d :: l) by rw [← hc]; exact h s).tl
  obtain ⟨q, r, hr, e1, e2⟩ := enc_dec h hs h1 h3 0 (by omega)
  have ec : enc C = enc (upI C s (d :: l)) := by rw [upI_id hc]
  have e1' := e1 d
  rw [Nat.zero_mul, Nat.add_zero] at e1' e2
  have sh : Int32.toInt64 ((15 * nI s) + (3 * (nI (l.length + 1) - 1))) &&& 63 = lg (15 * s + 3 * l.length) := by
    rw [nI_pred, i_m15, i_m3, i_add, lg_i (by omega), lg_63 (by omega)]
  rw [sh, show (7 : Int64) = lg 7 from rfl, lg_shl (by omega), ec, e1', e2]
  exact lg_clr (by omega) (by omega) (tb7 (by omega)) hr
theorem g_put (h : dkC C) (ht : t < 4) (h4 : (C t).length ≤ 4) (hd : d ≤ 7) : lg (enc C) ||| (Int32.toInt64 (nI d) <<< (Int32.toInt64 ((15 * nI t) + (3 * nI (C t).length)) &&& 63)) = lg (enc (upI C t (d :: C t))) := by
  obtain ⟨q, r, hr, e1, e2⟩ := enc_dec h ht (h t) h4 0 (by omega)
  rw [upI_id rfl, Nat.zero_mul, Nat.add_zero] at e2
  have e1' := e1 d
  rw [Nat.zero_mul, Nat.add_zero] at e1'
  have sh : Int32.toInt64 ((15 * nI t) + (3 * nI (C t).length)) &&& 63 = lg (15 * t + 3 * (C t).length) := by
    rw [i_m15, i_m3, i_add, lg_i (by omega), lg_63 (by omega)]
  rw [sh, lg_i (by omega), lg_shl (by omega), e1', e2]
  exact lg_put (by omega) hr
/-- well written: digits, and nothing behind the fourth -/
def wr (C : Cg) : Prop := dkC C ∧ ∀ s, 4 ≤ s → C s = []
theorem wr.tl (h : wr C) (hs : s < 4) (hc : C s = d :: l) : wr (upI C s l) := by
  obtain ⟨h1, -, -⟩ := (show dk (d :: l) by rw [← hc]; exact h.1 s).tl
  refine ⟨fun t => ?_, fun t ht => ?_⟩
  · by_cases q : t = s
    · rw [q, upI_s]; exact h1
    · rw [upI_n q]; exact h.1 t
  · rw [upI_n (by omega)]; exact h.2 t ht
theorem wr.ad (h : wr C) (ht : t < 4) (h4 : (C t).length ≤ 4) (hd : 1 ≤ d ∧ d ≤ 7) : wr (upI C t (d :: C t)) := by
  refine ⟨fun u => ?_, fun u hu => ?_⟩
  · by_cases q : u = t
    · rw [q, upI_s]
      refine ⟨by rw [List.length_cons]; omega, fun x hx => ?_⟩
      rcases List.mem_cons.mp hx with w | w
      · rw [w]; exact hd
      · exact (h.1 t).2 x w
    · rw [upI_n q]; exact h.1 u
  · rw [upI_n (by omega)]; exact h.2 u hu
def mvM (f g : Nat) : Nat := 8 * f + (if g = 0 then 7 else g - 1)
def MSt (G0 G : y_H) (N : Nat) (st : Nat → Cg) (row : Nat → Nat) : Prop := ag (fun a k => a = 2978 ∨ a = 3042 ∨ a = 3106 ∨ a = 3170 ∨ a = 11 ∧ k = 66) (fun _ => False) G0 G ∧ y_I G 11 66 = nI N ∧ (∀ k, k < N → y_L G 2978 k = lg (enc (st k)) ∧ wr (st k)) ∧ y_I G 3042 0 = -9 ∧ (∀ k, 0 < k → k < N → ∃ q f g, q < k ∧ y_I G 3042 k = nI q ∧ row k = 64 * row q + (8 * f + g) + 1 ∧ f < 4 ∧ g ≤ 4 ∧ y_I G 3106 k = nI (mvM f g)) ∧ HT (y_I G 3170) 131072 N (fun k => enc (st k)) mh
theorem MSt.w (M : MSt G0 G N st row) (w : Sh G0) : Sh G := by
  have g := M.1
  exact (Sh_ag g (by intro a k q; (simp only [FSh] at q ⊢) <;> omega) (by intro a q; (simp only [GSh, not_false_eq_true] at q ⊢) <;> omega) w)
/-- a state comes: it is new, or it is there -/
theorem m_come (w : Sh G0) (M : MSt G0 G N st row) (hN : N ≤ 65305) (hi : i < N) (hD : wr D) (hf : f < 4) (hg : g ≤ 4) : ∃ G2, f_X12_come 11 (lg (enc D)) (nI i) (nI (mvM f g)) G = some ((), G2) ∧ ((∃ k, k < N ∧ st k = D) ∧ G2 = G ∨ (∀ k, k < N → st k ≠ D) ∧ MSt G0 G2 (N + 1) (fun k => if k = N then D else st k) (fun k => if k = N then 64 * row i + (8 * f + g) + 1 else row k)) := by
  have W := M.w w
  obtain ⟨ga, m1, m2, m3, m4, m5⟩ := M
  have el : ∀ {C : Cg}, wr C → enc C < 2 ^ 63 := fun h => by have := enc_lt h.1; omega
  obtain ⟨q, es, hq, hz, hp⟩ := m_slot (e := enc D) W m5 (by omega) (fun k hk => ⟨(m2 k hk).1, el (m2 k hk).2⟩) (el hD)
  obtain ⟨x, hx⟩ : ∃ x, x = (mh (enc D) + q) % 131072 := ⟨_, rfl⟩
  have xl : x < 131072 := by rw [hx]; exact Nat.mod_lt _ (by decide)
  rw [← hx] at es
  have x1 := i_ix xl (by decide)
  have c1 := i_cl (show x < 2 ^ 31 by omega)
  rcases hz with z | ⟨k, hk, z1, z2⟩
  · rw [← hx] at z
    have nw := m5.has (by omega) (by decide) hq (by rw [← hx]; exact z) hp
    have xN := i_ix (show N < 66000 by omega) (by decide)
    have cN := i_cl (show N < 2 ^ 31 by omega)
    refine ⟨s_I (s_I (s_I (s_I (s_L G 2978 N (lg (enc D))) 3042 N (nI i)) 3106 N (nI (mvM f g))) 11 66 (nI (N + 1))) 3170 x (nI (N + 1)), ?_, Or.inr ⟨fun k hk w => nw k hk (by rw [w]), ?_⟩⟩
    · unfold f_X12_come
      (repeat (first | with_reducible apply ev_jn | ((with_reducible apply ev_bd); · first | (simp (disch := omega) only [W.2, es, x1, c1, z, m1, xN, cN, nI_1, e_KI, e_NI, e_BI, e_LI, e_PI, e_KB, e_NB, e_IB, e_LB, e_PB, e_KL, e_NL, e_IL, e_BL, e_PL, e_KP, e_NP, e_IP, e_BP, e_LP, e_IIs, e_BBs, e_LLs, e_PPs, e_IIn, e_BBn, e_LLn, e_PPn, e_IIk, e_BBk, e_LLk, e_PPk, e_Ks, e_Ns, e_Is, e_Bs, e_Ls, e_Ps, e_Kn, e_Nn, e_In, e_Bn, e_Ln, e_Pn, if_true, if_false, and_self, or_true, true_or, not_false_eq_true, Bool.false_eq_true]; exact rfl) | exact rfl) | ((with_reducible apply ev_cl); · first | (simp (disch := omega) only [W.2, es, x1, c1, z, m1, xN, cN, nI_1, e_KI, e_NI, e_BI, e_LI, e_PI, e_KB, e_NB, e_IB, e_LB, e_PB, e_KL, e_NL, e_IL, e_BL, e_PL, e_KP, e_NP, e_IP, e_BP, e_LP, e_IIs, e_BBs, e_LLs, e_PPs, e_IIn, e_BBn, e_LLn, e_PPn, e_IIk, e_BBk, e_LLk, e_PPk, e_Ks, e_Ns, e_Is, e_Bs, e_Ls, e_Ps, e_Kn, e_Nn, e_In, e_Bn, e_Ln, e_Pn, if_true, if_false, and_self, or_true, true_or, not_false_eq_true, Bool.false_eq_true]; exact rfl) | exact rfl) | ((with_reducible apply ev_g); · first | (simp (disch := omega) only [W.2, es, x1, c1, z, m1, xN, cN, nI_1, e_KI, e_NI, e_BI, e_LI, e_PI, e_KB, e_NB, e_IB, e_LB, e_PB, e_KL, e_NL, e_IL, e_BL, e_PL, e_KP, e_NP, e_IP, e_BP, e_LP, e_IIs, e_BBs, e_LLs, e_PPs, e_IIn, e_BBn, e_LLn, e_PPn, e_IIk, e_BBk, e_LLk, e_PPk, e_Ks, e_Ns, e_Is, e_Bs, e_Ls, e_Ps, e_Kn, e_Nn, e_In, e_Bn, e_Ln, e_Pn, if_true, if_false, and_self, or_true, true_or, not_false_eq_true, Bool.false_eq_true]; done) | (simp (disch := omega) only [W.2, es, x1, c1, z, m1, xN, cN, nI_1, e_KI, e_NI, e_BI, e_LI, e_PI, e_KB, e_NB, e_IB, e_LB, e_PB, e_KL, e_NL, e_IL, e_BL, e_PL, e_KP, e_NP, e_IP, e_BP, e_LP, e_IIs, e_BBs, e_LLs, e_PPs, e_IIn, e_BBn, e_LLn, e_PPn, e_IIk, e_BBk, e_LLk, e_PPk, e_Ks, e_Ns, e_Is, e_Bs, e_Ls, e_Ps, e_Kn, e_Nn, e_In, e_Bn, e_Ln, e_Pn, if_true, if_false, and_self, or_true, true_or, not_false_eq_true, Bool.false_eq_true]; decide) | decide) | ((with_reducible apply ev_t); · first | (simp (disch := omega) only [W.2, es, x1, c1, z, m1, xN, cN, nI_1, e_KI, e_NI, e_BI, e_LI, e_PI, e_KB, e_NB, e_IB, e_LB, e_PB, e_KL, e_NL, e_IL, e_BL, e_PL, e_KP, e_NP, e_IP, e_BP, e_LP, e_IIs, e_BBs, e_LLs, e_PPs, e_IIn, e_BBn, e_LLn, e_PPn, e_IIk, e_BBk, e_LLk, e_PPk, e_Ks, e_Ns, e_Is, e_Bs, e_Ls, e_Ps, e_Kn, e_Nn, e_In, e_Bn, e_Ln, e_Pn, if_true, if_false, and_self, or_true, true_or, not_false_eq_true, Bool.false_eq_true]; done) | (simp (disch := omega) only [W.2, es, x1, c1, z, m1, xN, cN, nI_1, e_KI, e_NI, e_BI, e_LI, e_PI, e_KB, e_NB, e_IB, e_LB, e_PB, e_KL, e_NL, e_IL, e_BL, e_PL, e_KP, e_NP, e_IP, e_BP, e_LP, e_IIs, e_BBs, e_LLs, e_PPs, e_IIn, e_BBn, e_LLn, e_PPn, e_IIk, e_BBk, e_LLk, e_PPk, e_Ks, e_Ns, e_Is, e_Bs, e_Ls, e_Ps, e_Kn, e_Nn, e_In, e_Bn, e_Ln, e_Pn, if_true, if_false, and_self, or_true, true_or, not_false_eq_true, Bool.false_eq_true]; decide) | decide) | ((with_reducible apply ev_f); · first | (simp (disch := omega) only [W.2, es, x1, c1, z, m1, xN, cN, nI_1, e_KI, e_NI, e_BI, e_LI, e_PI, e_KB, e_NB, e_IB, e_LB, e_PB, e_KL, e_NL, e_IL, e_BL, e_PL, e_KP, e_NP, e_IP, e_BP, e_LP, e_IIs, e_BBs, e_LLs, e_PPs, e_IIn, e_BBn, e_LLn, e_PPn, e_IIk, e_BBk, e_LLk, e_PPk, e_Ks, e_Ns, e_Is, e_Bs, e_Ls, e_Ps, e_Kn, e_Nn, e_In, e_Bn, e_Ln, e_Pn, if_true, if_false, and_self, or_true, true_or, not_false_eq_true, Bool.false_eq_true]; done) | (simp (disch := omega) only [W.2, es, x1, c1, z, m1, xN, cN, nI_1, e_KI, e_NI, e_BI, e_LI, e_PI, e_KB, e_NB, e_IB, e_LB, e_PB, e_KL, e_NL, e_IL, e_BL, e_PL, e_KP, e_NP, e_IP, e_BP, e_LP, e_IIs, e_BBs, e_LLs, e_PPs, e_IIn, e_BBn, e_LLn, e_PPn, e_IIk, e_BBk, e_LLk, e_PPk, e_Ks, e_Ns, e_Is, e_Bs, e_Ls, e_Ps, e_Kn, e_Nn, e_In, e_Bn, e_Ln, e_Pn, if_true, if_false, and_self, or_true, true_or, not_false_eq_true, Bool.false_eq_true]; decide) | decide) | ((with_reducible apply ev_s) <;> (first | (with_reducible rfl) | (simp (disch := omega) only [W.2, es, x1, c1, z, m1, xN, cN, nI_1, e_KI, e_NI, e_BI, e_LI, e_PI, e_KB, e_NB, e_IB, e_LB, e_PB, e_KL, e_NL, e_IL, e_BL, e_PL, e_KP, e_NP, e_IP, e_BP, e_LP, e_IIs, e_BBs, e_LLs, e_PPs, e_IIn, e_BBn, e_LLn, e_PPn, e_IIk, e_BBk, e_LLk, e_PPk, e_Ks, e_Ns, e_Is, e_Bs, e_Ls, e_Ps, e_Kn, e_Nn, e_In, e_Bn, e_Ln, e_Pn, if_true, if_false, and_self, or_true, true_or, not_false_eq_true, Bool.false_eq_true]; done) | (simp (disch := omega) only [W.2, es, x1, c1, z, m1, xN, cN, nI_1, e_KI, e_NI, e_BI, e_LI, e_PI, e_KB, e_NB, e_IB, e_LB, e_PB, e_KL, e_NL, e_IL, e_BL, e_PL, e_KP, e_NP, e_IP, e_BP, e_LP, e_IIs, e_BBs, e_LLs, e_PPs, e_IIn, e_BBn, e_LLn, e_PPn, e_IIk, e_BBk, e_LLk, e_PPk, e_Ks, e_Ns, e_Is, e_Bs, e_Ls, e_Ps, e_Kn, e_Nn, e_In, e_Bn, e_Ln, e_Pn, if_true, if_false, and_self, or_true, true_or, not_false_eq_true, Bool.false_eq_true]; rfl)))))
    · refine ⟨ag.sI (ag.sI (ag.sI (ag.sI (ag.sL ga (by omega)) (by omega)) (by omega)) (by omega)) (by omega), ?_, fun k hk => ?_, ?_, fun k h0 hk => ?_, ?_⟩
      · simp (disch := omega) only [e_KI, e_NI, e_BI, e_LI, e_PI, e_KB, e_NB, e_IB, e_LB, e_PB, e_KL, e_NL, e_IL, e_BL, e_PL, e_KP, e_NP, e_IP, e_BP, e_LP, e_IIs, e_BBs, e_LLs, e_PPs, e_IIn, e_BBn, e_LLn, e_PPn, e_IIk, e_BBk, e_LLk, e_PPk]
      · dsimp only
        by_cases e : k = N
        · rw [if_pos e, e]
          refine ⟨?_, hD⟩
          simp (disch := omega) only [e_KI, e_NI, e_BI, e_LI, e_PI, e_KB, e_NB, e_IB, e_LB, e_PB, e_KL, e_NL, e_IL, e_BL, e_PL, e_KP, e_NP, e_IP, e_BP, e_LP, e_IIs, e_BBs, e_LLs, e_PPs, e_IIn, e_BBn, e_LLn, e_PPn, e_IIk, e_BBk, e_LLk, e_PPk]
        · rw [if_neg e]
          have := m2 k (by omega)
          refine ⟨?_, this.2⟩
          simp (disch := omega) only [e_KI, e_NI, e_BI, e_LI, e_PI, e_KB, e_NB, e_IB, e_LB, e_PB, e_KL, e_NL, e_IL, e_BL, e_PL, e_KP, e_NP, e_IP, e_BP, e_LP, e_IIs, e_BBs, e_LLs, e_PPs, e_IIn, e_BBn, e_LLn, e_PPn, e_IIk, e_BBk, e_LLk, e_PPk]
          exact this.1
      · have : (0 : Nat) ≠ N := by omega
        simp (disch := omega) only [e_KI, e_NI, e_BI, e_LI, e_PI, e_KB, e_NB, e_IB, e_LB, e_PB, e_KL, e_NL, e_IL, e_BL, e_PL, e_KP, e_NP, e_IP, e_BP, e_LP, e_IIs, e_BBs, e_LLs, e_PPs, e_IIn, e_BBn, e_LLn, e_PPn, e_IIk, e_BBk, e_LLk, e_PPk]
        exact m3
      · by_cases e : k = N
        · subst e
          refine ⟨i, f, g, hi, ?_, ?_, hf, hg, ?_⟩
          · simp (disch := omega) only [e_KI, e_NI, e_BI, e_LI, e_PI, e_KB, e_NB, e_IB, e_LB, e_PB, e_KL, e_NL, e_IL, e_BL, e_PL, e_KP, e_NP, e_IP, e_BP, e_LP, e_IIs, e_BBs, e_LLs, e_PPs, e_IIn, e_BBn, e_LLn, e_PPn, e_IIk, e_BBk, e_LLk, e_PPk]
          · show (if k = k then _ else row k) = 64 * (if i = k then _ else row i) + _ + 1
            rw [if_pos rfl, if_neg (by omega)]
          · simp (disch := omega) only [e_KI, e_NI, e_BI, e_LI, e_PI, e_KB, e_NB, e_IB, e_LB, e_PB, e_KL, e_NL, e_IL, e_BL, e_PL, e_KP, e_NP, e_IP, e_BP, e_LP, e_IIs, e_BBs, e_LLs, e_PPs, e_IIn, e_BBn, e_LLn, e_PPn, e_IIk, e_BBk, e_LLk, e_PPk]
        · obtain ⟨q2, f2, g2, a1, a2, a3, a4, a5, a6⟩ := m4 k h0 (by omega)
          refine ⟨q2, f2, g2, a1, ?_, ?_, a4, a5, ?_⟩
          · simp (disch := omega) only [e_KI, e_NI, e_BI, e_LI, e_PI, e_KB, e_NB, e_IB, e_LB, e_PB, e_KL, e_NL, e_IL, e_BL, e_PL, e_KP, e_NP, e_IP, e_BP, e_LP, e_IIs, e_BBs, e_LLs, e_PPs, e_IIn, e_BBn, e_LLn, e_PPn, e_IIk, e_BBk, e_LLk, e_PPk]
            exact a2
          · show (if k = N then _ else row k) = 64 * (if q2 = N then _ else row q2) + _ + 1
            rw [if_neg e, if_neg (by omega)]
            exact a3
          · simp (disch := omega) only [e_KI, e_NI, e_BI, e_LI, e_PI, e_KB, e_NB, e_IB, e_LB, e_PB, e_KL, e_NL, e_IL, e_BL, e_PL, e_KP, e_NP, e_IP, e_BP, e_LP, e_IIs, e_BBs, e_LLs, e_PPs, e_IIn, e_BBn, e_LLn, e_PPn, e_IIk, e_BBk, e_LLk, e_PPk]
            exact a6
      · refine m5.ins (e := enc D) (i := q) (by omega) (by decide) hq (by rw [← hx]; exact z) hp ?_ (fun u hu => ?_) ?_ (fun k hk => ?_)
        · rw [← hx, e_IIs]
        · rw [← hx] at hu
          simp (disch := omega) only [e_KI, e_NI, e_BI, e_LI, e_PI, e_KB, e_NB, e_IB, e_LB, e_PB, e_KL, e_NL, e_IL, e_BL, e_PL, e_KP, e_NP, e_IP, e_BP, e_LP, e_IIs, e_BBs, e_LLs, e_PPs, e_IIn, e_BBn, e_LLn, e_PPn, e_IIk, e_BBk, e_LLk, e_PPk]
        · show enc (if N = N then D else st N) = enc D
          rw [if_pos rfl]
        · show enc (if k = N then D else st k) = enc (st k)
          rw [if_neg (by omega)]
  · rw [← hx] at z1
    have n0 : ¬ nI (k + 1) = 0 := nI_s0 (by omega)
    refine ⟨G, ?_, Or.inl ⟨⟨k, hk, ?_⟩, rfl⟩⟩
    · unfold f_X12_come
      (repeat (first | with_reducible apply ev_jn | ((with_reducible apply ev_bd); · first | (simp (disch := omega) only [W.2, es, x1, c1, z1, n0, e_KI, e_NI, e_BI, e_LI, e_PI, e_KB, e_NB, e_IB, e_LB, e_PB, e_KL, e_NL, e_IL, e_BL, e_PL, e_KP, e_NP, e_IP, e_BP, e_LP, e_IIs, e_BBs, e_LLs, e_PPs, e_IIn, e_BBn, e_LLn, e_PPn, e_IIk, e_BBk, e_LLk, e_PPk, e_Ks, e_Ns, e_Is, e_Bs, e_Ls, e_Ps, e_Kn, e_Nn, e_In, e_Bn, e_Ln, e_Pn, if_true, if_false, and_self, or_true, true_or, not_false_eq_true, Bool.false_eq_true]; exact rfl) | exact rfl) | ((with_reducible apply ev_cl); · first | (simp (disch := omega) only [W.2, es, x1, c1, z1, n0, e_KI, e_NI, e_BI, e_LI, e_PI, e_KB, e_NB, e_IB, e_LB, e_PB, e_KL, e_NL, e_IL, e_BL, e_PL, e_KP, e_NP, e_IP, e_BP, e_LP, e_IIs, e_BBs, e_LLs, e_PPs, e_IIn, e_BBn, e_LLn, e_PPn, e_IIk, e_BBk, e_LLk, e_PPk, e_Ks, e_Ns, e_Is, e_Bs, e_Ls, e_Ps, e_Kn, e_Nn, e_In, e_Bn, e_Ln, e_Pn, if_true, if_false, and_self, or_true, true_or, not_false_eq_true, Bool.false_eq_true]; exact rfl) | exact rfl) | ((with_reducible apply ev_g); · first | (simp (disch := omega) only [W.2, es, x1, c1, z1, n0, e_KI, e_NI, e_BI, e_LI, e_PI, e_KB, e_NB, e_IB, e_LB, e_PB, e_KL, e_NL, e_IL, e_BL, e_PL, e_KP, e_NP, e_IP, e_BP, e_LP, e_IIs, e_BBs, e_LLs, e_PPs, e_IIn, e_BBn, e_LLn, e_PPn, e_IIk, e_BBk, e_LLk, e_PPk, e_Ks, e_Ns, e_Is, e_Bs, e_Ls, e_Ps, e_Kn, e_Nn, e_In, e_Bn, e_Ln, e_Pn, if_true, if_false, and_self, or_true, true_or, not_false_eq_true, Bool.false_eq_true]; done) | (simp (disch := omega) only [W.2, es, x1, c1, z1, n0, e_KI, e_NI, e_BI, e_LI, e_PI, e_KB, e_NB, e_IB, e_LB, e_PB, e_KL, e_NL, e_IL, e_BL, e_PL, e_KP, e_NP, e_IP, e_BP, e_LP, e_IIs, e_BBs, e_LLs, e_PPs, e_IIn, e_BBn, e_LLn, e_PPn, e_IIk, e_BBk, e_LLk, e_PPk, e_Ks, e_Ns, e_Is, e_Bs, e_Ls, e_Ps, e_Kn, e_Nn, e_In, e_Bn, e_Ln, e_Pn, if_true, if_false, and_self, or_true, true_or, not_false_eq_true, Bool.false_eq_true]; decide) | decide) | ((with_reducible apply ev_t); · first | (simp (disch := omega) only [W.2, es, x1, c1, z1, n0, e_KI, e_NI, e_BI, e_LI, e_PI, e_KB, e_NB, e_IB, e_LB, e_PB, e_KL, e_NL, e_IL, e_BL, e_PL, e_KP, e_NP, e_IP, e_BP, e_LP, e_IIs, e_BBs, e_LLs, e_PPs, e_IIn, e_BBn, e_LLn, e_PPn, e_IIk, e_BBk, e_LLk, e_PPk, e_Ks, e_Ns, e_Is, e_Bs, e_Ls, e_Ps, e_Kn, e_Nn, e_In, e_Bn, e_Ln, e_Pn, if_true, if_false, and_self, or_true, true_or, not_false_eq_true, Bool.false_eq_true]; done) | (simp (disch := omega) only [W.2, es, x1, c1, z1, n0, e_KI, e_NI, e_BI, e_LI, e_PI, e_KB, e_NB, e_IB, e_LB, e_PB, e_KL, e_NL, e_IL, e_BL, e_PL, e_KP, e_NP, e_IP, e_BP, e_LP, e_IIs, e_BBs, e_LLs, e_PPs, e_IIn, e_BBn, e_LLn, e_PPn, e_IIk, e_BBk, e_LLk, e_PPk, e_Ks, e_Ns, e_Is, e_Bs, e_Ls, e_Ps, e_Kn, e_Nn, e_In, e_Bn, e_Ln, e_Pn, if_true, if_false, and_self, or_true, true_or, not_false_eq_true, Bool.false_eq_true]; decide) | decide) | ((with_reducible apply ev_f); · first | (simp (disch := omega) only [W.2, es, x1, c1, z1, n0, e_KI, e_NI, e_BI, e_LI, e_PI, e_KB, e_NB, e_IB, e_LB, e_PB, e_KL, e_NL, e_IL, e_BL, e_PL, e_KP, e_NP, e_IP, e_BP, e_LP, e_IIs, e_BBs, e_LLs, e_PPs, e_IIn, e_BBn, e_LLn, e_PPn, e_IIk, e_BBk, e_LLk, e_PPk, e_Ks, e_Ns, e_Is, e_Bs, e_Ls, e_Ps, e_Kn, e_Nn, e_In, e_Bn, e_Ln, e_Pn, if_true, if_false, and_self, or_true, true_or, not_false_eq_true, Bool.false_eq_true]; done) | (simp (disch := omega) only [W.2, es, x1, c1, z1, n0, e_KI, e_NI, e_BI, e_LI, e_PI, e_KB, e_NB, e_IB, e_LB, e_PB, e_KL, e_NL, e_IL, e_BL, e_PL, e_KP, e_NP, e_IP, e_BP, e_LP, e_IIs, e_BBs, e_LLs, e_PPs, e_IIn, e_BBn, e_LLn, e_PPn, e_IIk, e_BBk, e_LLk, e_PPk, e_Ks, e_Ns, e_Is, e_Bs, e_Ls, e_Ps, e_Kn, e_Nn, e_In, e_Bn, e_Ln, e_Pn, if_true, if_false, and_self, or_true, true_or, not_false_eq_true, Bool.false_eq_true]; decide) | decide) | ((with_reducible apply ev_s) <;> (first | (with_reducible rfl) | (simp (disch := omega) only [W.2, es, x1, c1, z1, n0, e_KI, e_NI, e_BI, e_LI, e_PI, e_KB, e_NB, e_IB, e_LB, e_PB, e_KL, e_NL, e_IL, e_BL, e_PL, e_KP, e_NP, e_IP, e_BP, e_LP, e_IIs, e_BBs, e_LLs, e_PPs, e_IIn, e_BBn, e_LLn, e_PPn, e_IIk, e_BBk, e_LLk, e_PPk, e_Ks, e_Ns, e_Is, e_Bs, e_Ls, e_Ps, e_Kn, e_Nn, e_In, e_Bn, e_Ln, e_Pn, if_true, if_false, and_self, or_true, true_or, not_false_eq_true, Bool.false_eq_true]; done) | (simp (disch := omega) only [W.2, es, x1, c1, z1, n0, e_KI, e_NI, e_BI, e_LI, e_PI, e_KB, e_NB, e_IB, e_LB, e_PB, e_KL, e_NL, e_IL, e_BL, e_PL, e_KP, e_NP, e_IP, e_BP, e_LP, e_IIs, e_BBs, e_LLs, e_PPs, e_IIn, e_BBn, e_LLn, e_PPn, e_IIk, e_BBk, e_LLk, e_PPk, e_Ks, e_Ns, e_Is, e_Bs, e_Ls, e_Ps, e_Kn, e_Nn, e_In, e_Bn, e_Ln, e_Pn, if_true, if_false, and_self, or_true, true_or, not_false_eq_true, Bool.false_eq_true]; rfl)))))
    · exact enc_inj (m2 k hk).2.1 hD.1 (m2 k hk).2.2 hD.2 z2
/-- both at once: the search and its rows -/
def MI (y : Sy) (C0 : Cg) (G0 G : y_H) (N : Nat) (st : Nat → Cg) (row : Nat → Nat) (i j : Nat) : Prop := BI y.step (fun _ _ => True) C0 N st row i j ∧ MSt G0 G N st row
theorem MI.come (O : OkS y) (r0 : RI y C0) (w : Sh G0) (I : MI y C0 G0 G N st row i (8 * f + g)) (hi : i < N) (hD : wr D) (hf : f < 4) (hg : g ≤ 4) (e : y.go (st i) f g = some D) : ∃ G2 N2 st2 row2, f_X12_come 11 (lg (enc D)) (nI i) (nI (mvM f g)) G = some ((), G2) ∧ MI y C0 G0 G2 N2 st2 row2 i (8 * f + g + 1) ∧ N ≤ N2 ∧ ∀ k, k < N → st2 k = st k ∧ row2 k = row k := by
  obtain ⟨B, M⟩ := I
  have hN := B.cnt O r0
  have es : y.step (st i) (8 * f + g) = some D := by
    unfold Sy.step
    rw [show (8 * f + g) / 8 = f by omega, show (8 * f + g) % 8 = g by omega]
    exact e
  obtain ⟨G2, e2, ⟨⟨k, hk, z⟩, rfl⟩ | ⟨nw, M2⟩⟩ := m_come w M hN hi hD hf hg
  · refine ⟨G2, N, st, row, e2, ⟨B.skip (fun t _ ht _ => ⟨k, hk, ?_⟩), M⟩, Nat.le_refl _, fun _ _ => ⟨rfl, rfl⟩⟩
    rw [z]
    exact Option.some.inj (es.symm.trans ht)
  · exact ⟨G2, N + 1, _, _, e2, ⟨B.add hi (by omega) es nw, M2⟩, by omega, fun k hk => ⟨if_neg (by omega), if_neg (by omega)⟩⟩
end LSM
