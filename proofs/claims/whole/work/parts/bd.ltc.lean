/-! least: the class reaches a state -/
section LTC
variable {C D C0 : Cg} {X X0 X2 : y_H} {y : Sy} {s t d k n e N i j f g a b c M β bd : Nat} {l : List Nat} {st : Nat → Cg} {row : Nat → Nat} {E : Nat → Nat}
def PS9 (u k : Nat) : Prop := 42 ≤ u % 64 ∧ u % 64 ≤ 44 ∨ u = 169 ∨ u = 233 ∨ u = 297 ∨ u = 105 ∨ u = 17 ∧ 4 ≤ k ∧ k ≤ 9
def QS9 (u : Nat) : Prop := 42 ≤ u % 64 ∧ u % 64 ≤ 44
def cE (y : Sy) (D : Cg) : Nat := cenc (y.cl.out D) D
def abc (a b c : Nat) : Prop := (a = 169 ∨ a % 64 = 42) ∧ (b = 233 ∨ b % 64 = 43) ∧ (c = 297 ∨ c % 64 = 44)
theorem cE_inj (h : wr C) (h2 : wr D) (e : cE y C = cE y D) : C = D := by
  have l1 := enc_lt h.1
  have l2 := enc_lt h2.1
  refine enc_inj h.1 h2.1 h.2 h2.2 ?_
  unfold cE cenc at e
  omega
def CSt (y : Sy) (X0 X : y_H) (a b c M N : Nat) (st : Nat → Cg) (row : Nat → Nat) : Prop := (CSh X a b c M ∧ abc a b c) ∧ ag PS9 (fun _ => False) X0 X ∧ y_I X 17 7 = nI N ∧ (∀ k, k < N → y_L X a k = lg (cE y (st k)) ∧ wr (st k) ∧ y.cl.out (st k) ≤ 5) ∧ (∀ k, 0 < k → k < N → ∃ q μ, q < k ∧ μ < 64 ∧ row k = 64 * row q + μ + 1 ∧ y_I X b k = nI (64 * q + μ)) ∧ HT (y_I X c) (2 * M) N (fun k => cE y (st k)) (ch (2 * M))
theorem CSh.wI {u v : Nat} {x : Int32} (S : CSh X a b c M) : CSh (s_I X u v x) a b c M := S
theorem CSh.wB {u v : Nat} {x : Bool} (S : CSh X a b c M) : CSh (s_B X u v x) a b c M := S
theorem CSh.wL {u v : Nat} {x : Int64} (S : CSh X a b c M) : CSh (s_L X u v x) a b c M := S
/-- other cells of the search are written -/
theorem CSt.fr {u v : Nat} {x : Int32} (S : CSt y X0 X a b c M N st row) (h : u = 105 ∨ u = 17 ∧ v = 8) : CSt y X0 (s_I X u v x) a b c M N st row := by
  obtain ⟨⟨s1, s2, s3, s4⟩, g, m1, m2, m3, m4⟩ := S
  have nb : ∀ k, y_I (s_I X u v x) b k = y_I X b k := fun k => e_IIc (by omega)
  have nc : y_I (s_I X u v x) c = y_I X c := funext fun k => e_IIc (by omega)
  refine ⟨⟨s1, s2, s3, s4⟩, ag.sI g (by unfold PS9; omega), ?_, m2, fun k h0 hk => ?_, by rw [nc]; exact m4⟩
  · rw [e_IIc (by omega)]; exact m1
  · obtain ⟨q, μ, a1, a2, a3, a4⟩ := m3 k h0 hk
    exact ⟨q, μ, a1, a2, a3, by rw [nb]; exact a4⟩
theorem CSt.fB {x : Bool} (S : CSt y X0 X a b c M N st row) : CSt y X0 (s_B X 17 9 x) a b c M N st row := by
  obtain ⟨⟨s1, s2⟩, g, m1, m2, m3, m4⟩ := S
  exact ⟨⟨s1, s2⟩, ag.sB g (by unfold PS9; omega), m1, m2, m3, m4⟩
/-- it is there, or it is kept -/
theorem c_have (S : CSt y X0 X a b c M N st row) (hβ : 2 * M = 2 ^ β) (hb : β ≤ 20) (hN : N < M) (hi : i < N) (hD : wr D) (hO : y.cl.out D ≤ 5) {μ : Nat} (hμ : μ < 64) : ∃ x, f_X6_slotOf 17 (lg (cE y D)) X = some (nI x, X) ∧ x < 2 * M ∧ (((∃ k, k < N ∧ st k = D) ∧ ¬ y_I X c x = 0) ∨ ((∀ k, k < N → st k ≠ D) ∧ y_I X c x = 0 ∧ ∃ X2, f_X6_keep 17 (lg (cE y D)) (nI (64 * i + μ)) (nI x) X = some (true, X2) ∧ CSt y X0 X2 a b c M (N + 1) (fun k => if k = N then D else st k) (fun k => if k = N then 64 * row i + μ + 1 else row k) ∧ (∀ k, k ≠ 7 → y_I X2 17 k = y_I X 17 k) ∧ y_B X2 = y_B X ∧ y_I X2 105 = y_I X 105)) := by
  have M20 : 2 * M ≤ 2 ^ 20 := by rw [hβ]; exact Nat.pow_le_pow_right (by decide) hb
  obtain ⟨⟨s1, s2, s3, s4⟩, ga, m1, m2, m3, m4⟩ := id S
  have el : ∀ {C : Cg}, wr C → y.cl.out C ≤ 5 → cE y C < 2 ^ 63 := fun h h2 => cenc_lt h.1 h2
  obtain ⟨q, es, hq, hz, hp⟩ := c_slot (e := cE y D) s1 hβ hb m4 (by omega) (by omega) (fun k hk => ⟨(m2 k hk).1, el (m2 k hk).2.1 (m2 k hk).2.2⟩) (el hD hO)
  obtain ⟨x, hx⟩ : ∃ x, x = (ch (2 * M) (cE y D) + q) % (2 * M) := ⟨_, rfl⟩
  have xl : x < 2 * M := by rw [hx]; exact Nat.mod_lt _ (by omega)
  rw [← hx] at es hz
  refine ⟨x, es, xl, ?_⟩
  rcases hz with z | ⟨k, hk, z1, z2⟩
  rotate_left
  · exact Or.inl ⟨⟨k, hk, cE_inj (m2 k hk).2.1 hD z2⟩, by rw [z1]; exact nI_s0 (by omega)⟩
  have nw := m4.has (by omega) (by omega) hq (by rw [← hx]; exact z) hp
  have bc := s1.2.2.2.2.2.2
  have ek := c_keep (e := cE y D) (v := nI (64 * i + μ)) s1 m1 hN (by omega) xl
  refine Or.inr ⟨fun k hk w => nw k hk (by rw [w]), z, _, ek, ?_, fun k hk => ?_, rfl, by rw [e_IIn (by omega), e_IIn (by omega), e_IIn (by omega), e_IL]⟩
  · refine ⟨⟨s1, s2, s3, s4⟩, ag.sI (ag.sI (ag.sI (ag.sL ga (by unfold PS9; omega)) (by unfold PS9; omega)) (by unfold PS9; omega)) (by unfold PS9; omega), ?_, fun k hk => ?_, fun k h0 hk => ?_, ?_⟩
    · rw [e_IIn (by omega), e_IIs]
    · dsimp only
      by_cases e : k = N
      · rw [if_pos e, e]
        refine ⟨?_, hD, hO⟩
        simp (disch := omega) only [e_KI, e_NI, e_BI, e_LI, e_PI, e_KB, e_NB, e_IB, e_LB, e_PB, e_KL, e_NL, e_IL, e_BL, e_PL, e_KP, e_NP, e_IP, e_BP, e_LP, e_IIs, e_BBs, e_LLs, e_PPs, e_IIn, e_BBn, e_LLn, e_PPn, e_IIk, e_BBk, e_LLk, e_PPk]
      · rw [if_neg e]
        have := m2 k (by omega)
        refine ⟨?_, this.2⟩
        simp (disch := omega) only [e_KI, e_NI, e_BI, e_LI, e_PI, e_KB, e_NB, e_IB, e_LB, e_PB, e_KL, e_NL, e_IL, e_BL, e_PL, e_KP, e_NP, e_IP, e_BP, e_LP, e_IIs, e_BBs, e_LLs, e_PPs, e_IIn, e_BBn, e_LLn, e_PPn, e_IIk, e_BBk, e_LLk, e_PPk]
        exact this.1
    · by_cases e : k = N
      · subst e
        refine ⟨i, μ, hi, hμ, ?_, ?_⟩
        · show (if k = k then _ else row k) = 64 * (if i = k then _ else row i) + _ + 1
          rw [if_pos rfl, if_neg (by omega)]
        · rw [e_IIn (by omega), e_IIn (by omega), e_IIs]
      · obtain ⟨q2, μ2, a1, a2, a3, a4⟩ := m3 k h0 (by omega)
        refine ⟨q2, μ2, a1, a2, ?_, ?_⟩
        · show (if k = N then _ else row k) = 64 * (if q2 = N then _ else row q2) + _ + 1
          rw [if_neg e, if_neg (by omega)]
          exact a3
        · rw [e_IIn (by omega), e_IIn (by omega), e_IIk e, e_IL]
          exact a4
    · refine m4.ins (e := cE y D) (i := q) (by omega) (by omega) hq (by rw [← hx]; exact z) hp ?_ (fun u hu => ?_) ?_ (fun k hk => ?_)
      · rw [← hx, e_IIs]
      · rw [← hx] at hu
        rw [e_IIk hu, e_IIn (by omega), e_IIn (by omega), e_IL]
      · show cE y (if N = N then D else st N) = cE y D
        rw [if_pos rfl]
      · show cE y (if k = N then D else st k) = cE y (st k)
        rw [if_neg (by omega)]
  · rw [e_IIn (by omega), e_IIk hk, e_IIn (by omega), e_IL]
/-- the class's search under way -/
def CI (y : Sy) (C0 : Cg) (bd : Nat) (X0 X : y_H) (a b c M N : Nat) (st : Nat → Cg) (row : Nat → Nat) (i j : Nat) : Prop := BI y.cl.step (fun e t => lbC y.cl t + ln e ≤ bd) (mpd y C0) N st row i j ∧ CSt y X0 X a b c M N st row ∧ (y_B X 17 9 = false → BI y.cl.step (fun _ _ => True) (mpd y C0) N st row i j) ∧ (∀ k, k < N → y.cl.out (st k) ≠ y.W) ∧ y_I X 17 8 = -9
/-- it has found its end -/
def CG (y : Sy) (C0 : Cg) (L : Nat) (X0 X : y_H) (a b c M : Nat) : Prop := ∃ N st row, CSt y X0 X a b c M (N + 1) st row ∧ y_I X 17 8 = nI N ∧ 0 < N ∧ (N ≤ 65305 ∧ N < M) ∧ row 0 = 0 ∧ MinG y.cl (mpd y C0) (row N) ∧ ln (row N) = L
theorem CI.reach {rest : Int32} (O : OkS y) (r0 : RI y C0) (I : CI y C0 bd X0 X a b c M N st row i (8 * f + g)) (hβ : 2 * M = 2 ^ β) (hb : β ≤ 20) (hi : i < N) (hN : N < M) (hf : f < 4) (hg : g ≤ 4) (hD : wr D) (hO : y.cl.out D ≤ y.W) (hDm : ∀ s, y.m ≤ s → D s = []) (e2 : y_I X0 17 2 = nI y.m) (e3 : y_I X0 17 3 = nI y.W) (hr : ∀ v, v < 1000 → ((nI v ≤ rest) = (v + ln (64 * row i + (8 * f + g) + 1) ≤ bd))) (e : y.cl.go (st i) f g = some D) : ∃ X2, f_X6_reach 17 (lg (cE y D)) (nI (64 * i + (8 * f + g))) rest X = some ((), X2) ∧ ((∃ N2 st2 row2, CI y C0 bd X0 X2 a b c M N2 st2 row2 i (8 * f + g + 1) ∧ N ≤ N2 ∧ N2 ≤ N + 1 ∧ y_I X2 105 = y_I X 105 ∧ (∀ k, k < N → st2 k = st k ∧ row2 k = row k) ∧ ∀ k, N ≤ k → k < N2 → 64 * row i + 1 ≤ row2 k) ∨ CG y C0 (ln (row i) + 1) X0 X2 a b c M) := by
  obtain ⟨B, S, T, ng, h8⟩ := I
  have hm := O.1
  have hW := O.2.1
  have s17 := S.1.1.1
  have es : y.cl.step (st i) (8 * f + g) = some D := by
    unfold Sy.step
    rw [show (8 * f + g) / 8 = f by omega, show (8 * f + g) % 8 = g by omega]
    exact e
  have f2 : y_I X 17 2 = nI y.m := (S.2.1.I (by unfold PS9; omega)).trans e2
  have f3 : y_I X 17 3 = nI y.W := (S.2.1.I (by unfold PS9; omega)).trans e3
  have lb := c_lb (X := X) s17 hD.1 hO hW f2 f3 hm
  have sl := sumC_lb (y := y) (D := D) rfl hDm hm
  rw [sl] at lb
  have lb1000 : lbC y.cl D < 1000 := by
    unfold lbC s4
    have c0 := cn6_le (D 0)
    have c1 := cn6_le (D 1)
    have c2 := cn6_le (D 2)
    have c3 := cn6_le (D 3)
    have d0 := (hD.1 0).1
    have d1 := (hD.1 1).1
    have d2 := (hD.1 2).1
    have d3 := (hD.1 3).1
    have : y.cl.W = y.W := rfl
    dsimp only
    omega
  have lb' : f_X6_lowerBound 17 (lg (cE y D)) X = some (nI (lbC y.cl D), X) := lb
  by_cases cut : lbC y.cl D + ln (64 * row i + (8 * f + g) + 1) ≤ bd
  rotate_left
  · have le : ¬ nI (lbC y.cl D) ≤ rest := by rw [hr _ lb1000]; exact cut
    refine ⟨s_B X 17 9 true, ?_, Or.inl ⟨N, st, row, ⟨B.skip (fun t _ ht hp => ?_), S.fB, fun q => ?_, ng, h8⟩, Nat.le_refl _, by omega, rfl, fun _ _ => ⟨rfl, rfl⟩, fun k h1 h2 => absurd h2 (by omega)⟩⟩
    · unfold f_X6_reach
      (repeat (first | with_reducible apply ev_jn | ((with_reducible apply ev_bd); · first | (simp (disch := omega) only [s17, lb', le, e_KI, e_NI, e_BI, e_LI, e_PI, e_KB, e_NB, e_IB, e_LB, e_PB, e_KL, e_NL, e_IL, e_BL, e_PL, e_KP, e_NP, e_IP, e_BP, e_LP, e_IIs, e_BBs, e_LLs, e_PPs, e_IIn, e_BBn, e_LLn, e_PPn, e_IIk, e_BBk, e_LLk, e_PPk, e_Ks, e_Ns, e_Is, e_Bs, e_Ls, e_Ps, e_Kn, e_Nn, e_In, e_Bn, e_Ln, e_Pn, if_true, if_false, and_self, or_true, true_or, not_false_eq_true, Bool.false_eq_true]; exact rfl) | exact rfl) | ((with_reducible apply ev_cl); · first | (simp (disch := omega) only [s17, lb', le, e_KI, e_NI, e_BI, e_LI, e_PI, e_KB, e_NB, e_IB, e_LB, e_PB, e_KL, e_NL, e_IL, e_BL, e_PL, e_KP, e_NP, e_IP, e_BP, e_LP, e_IIs, e_BBs, e_LLs, e_PPs, e_IIn, e_BBn, e_LLn, e_PPn, e_IIk, e_BBk, e_LLk, e_PPk, e_Ks, e_Ns, e_Is, e_Bs, e_Ls, e_Ps, e_Kn, e_Nn, e_In, e_Bn, e_Ln, e_Pn, if_true, if_false, and_self, or_true, true_or, not_false_eq_true, Bool.false_eq_true]; exact rfl) | exact rfl) | ((with_reducible apply ev_g); · first | (simp (disch := omega) only [s17, lb', le, e_KI, e_NI, e_BI, e_LI, e_PI, e_KB, e_NB, e_IB, e_LB, e_PB, e_KL, e_NL, e_IL, e_BL, e_PL, e_KP, e_NP, e_IP, e_BP, e_LP, e_IIs, e_BBs, e_LLs, e_PPs, e_IIn, e_BBn, e_LLn, e_PPn, e_IIk, e_BBk, e_LLk, e_PPk, e_Ks, e_Ns, e_Is, e_Bs, e_Ls, e_Ps, e_Kn, e_Nn, e_In, e_Bn, e_Ln, e_Pn, if_true, if_false, and_self, or_true, true_or, not_false_eq_true, Bool.false_eq_true]; done) | (simp (disch := omega) only [s17, lb', le, e_KI, e_NI, e_BI, e_LI, e_PI, e_KB, e_NB, e_IB, e_LB, e_PB, e_KL, e_NL, e_IL, e_BL, e_PL, e_KP, e_NP, e_IP, e_BP, e_LP, e_IIs, e_BBs, e_LLs, e_PPs, e_IIn, e_BBn, e_LLn, e_PPn, e_IIk, e_BBk, e_LLk, e_PPk, e_Ks, e_Ns, e_Is, e_Bs, e_Ls, e_Ps, e_Kn, e_Nn, e_In, e_Bn, e_Ln, e_Pn, if_true, if_false, and_self, or_true, true_or, not_false_eq_true, Bool.false_eq_true]; decide) | decide) | ((with_reducible apply ev_t); · first | (simp (disch := omega) only [s17, lb', le, e_KI, e_NI, e_BI, e_LI, e_PI, e_KB, e_NB, e_IB, e_LB, e_PB, e_KL, e_NL, e_IL, e_BL, e_PL, e_KP, e_NP, e_IP, e_BP, e_LP, e_IIs, e_BBs, e_LLs, e_PPs, e_IIn, e_BBn, e_LLn, e_PPn, e_IIk, e_BBk, e_LLk, e_PPk, e_Ks, e_Ns, e_Is, e_Bs, e_Ls, e_Ps, e_Kn, e_Nn, e_In, e_Bn, e_Ln, e_Pn, if_true, if_false, and_self, or_true, true_or, not_false_eq_true, Bool.false_eq_true]; done) | (simp (disch := omega) only [s17, lb', le, e_KI, e_NI, e_BI, e_LI, e_PI, e_KB, e_NB, e_IB, e_LB, e_PB, e_KL, e_NL, e_IL, e_BL, e_PL, e_KP, e_NP, e_IP, e_BP, e_LP, e_IIs, e_BBs, e_LLs, e_PPs, e_IIn, e_BBn, e_LLn, e_PPn, e_IIk, e_BBk, e_LLk, e_PPk, e_Ks, e_Ns, e_Is, e_Bs, e_Ls, e_Ps, e_Kn, e_Nn, e_In, e_Bn, e_Ln, e_Pn, if_true, if_false, and_self, or_true, true_or, not_false_eq_true, Bool.false_eq_true]; decide) | decide) | ((with_reducible apply ev_f); · first | (simp (disch := omega) only [s17, lb', le, e_KI, e_NI, e_BI, e_LI, e_PI, e_KB, e_NB, e_IB, e_LB, e_PB, e_KL, e_NL, e_IL, e_BL, e_PL, e_KP, e_NP, e_IP, e_BP, e_LP, e_IIs, e_BBs, e_LLs, e_PPs, e_IIn, e_BBn, e_LLn, e_PPn, e_IIk, e_BBk, e_LLk, e_PPk, e_Ks, e_Ns, e_Is, e_Bs, e_Ls, e_Ps, e_Kn, e_Nn, e_In, e_Bn, e_Ln, e_Pn, if_true, if_false, and_self, or_true, true_or, not_false_eq_true, Bool.false_eq_true]; done) | (simp (disch := omega) only [s17, lb', le, e_KI, e_NI, e_BI, e_LI, e_PI, e_KB, e_NB, e_IB, e_LB, e_PB, e_KL, e_NL, e_IL, e_BL, e_PL, e_KP, e_NP, e_IP, e_BP, e_LP, e_IIs, e_BBs, e_LLs, e_PPs, e_IIn, e_BBn, e_LLn, e_PPn, e_IIk, e_BBk, e_LLk, e_PPk, e_Ks, e_Ns, e_Is, e_Bs, e_Ls, e_Ps, e_Kn, e_Nn, e_In, e_Bn, e_Ln, e_Pn, if_true, if_false, and_self, or_true, true_or, not_false_eq_true, Bool.false_eq_true]; decide) | decide) | ((with_reducible apply ev_s) <;> (first | (with_reducible rfl) | (simp (disch := omega) only [s17, lb', le, e_KI, e_NI, e_BI, e_LI, e_PI, e_KB, e_NB, e_IB, e_LB, e_PB, e_KL, e_NL, e_IL, e_BL, e_PL, e_KP, e_NP, e_IP, e_BP, e_LP, e_IIs, e_BBs, e_LLs, e_PPs, e_IIn, e_BBn, e_LLn, e_PPn, e_IIk, e_BBk, e_LLk, e_PPk, e_Ks, e_Ns, e_Is, e_Bs, e_Ls, e_Ps, e_Kn, e_Nn, e_In, e_Bn, e_Ln, e_Pn, if_true, if_false, and_self, or_true, true_or, not_false_eq_true, Bool.false_eq_true]; done) | (simp (disch := omega) only [s17, lb', le, e_KI, e_NI, e_BI, e_LI, e_PI, e_KB, e_NB, e_IB, e_LB, e_PB, e_KL, e_NL, e_IL, e_BL, e_PL, e_KP, e_NP, e_IP, e_BP, e_LP, e_IIs, e_BBs, e_LLs, e_PPs, e_IIn, e_BBn, e_LLn, e_PPn, e_IIk, e_BBk, e_LLk, e_PPk, e_Ks, e_Ns, e_Is, e_Bs, e_Ls, e_Ps, e_Kn, e_Nn, e_In, e_Bn, e_Ln, e_Pn, if_true, if_false, and_self, or_true, true_or, not_false_eq_true, Bool.false_eq_true]; rfl)))))
    · rw [Option.some.inj (es.symm.trans ht)] at cut
      exact absurd hp cut
    · rw [e_BBs] at q
      cases q
  have le : nI (lbC y.cl D) ≤ rest := by rw [hr _ lb1000]; exact cut
  obtain ⟨x, e1, xl, h⟩ := c_have (i := i) (D := D) (μ := 8 * f + g) S hβ hb hN hi hD (by omega) (by omega)
  have M20 : 2 * M ≤ 2 ^ 20 := by rw [hβ]; exact Nat.pow_le_pow_right (by decide) hb
  obtain ⟨k7, -, -, ⟨p4, ka, na⟩, ⟨p5, kb, nb⟩, ⟨p6, kc, nc⟩, -⟩ := id S.1.1
  have xx := i_ix xl (by omega)
  have cx := i_cl (show x < 2 ^ 31 by omega)
  rcases h with ⟨⟨k, hk, ek⟩, nz⟩ | ⟨nw, z, X2, ekp, S2, k17, kB, k105⟩
  · refine ⟨X, ?_, Or.inl ⟨N, st, row, ⟨B.skip (fun t _ ht _ => ⟨k, hk, ?_⟩), S, fun q => (T q).skip (fun t _ ht _ => ⟨k, hk, ?_⟩), ng, h8⟩, Nat.le_refl _, by omega, rfl, fun _ _ => ⟨rfl, rfl⟩, fun k h1 h2 => absurd h2 (by omega)⟩⟩
    · unfold f_X6_reach
      (repeat (first | with_reducible apply ev_jn | ((with_reducible apply ev_bd); · first | (simp (disch := omega) only [k7, lb', le, e1, p6, kc, nc, xx, cx, nz, e_KI, e_NI, e_BI, e_LI, e_PI, e_KB, e_NB, e_IB, e_LB, e_PB, e_KL, e_NL, e_IL, e_BL, e_PL, e_KP, e_NP, e_IP, e_BP, e_LP, e_IIs, e_BBs, e_LLs, e_PPs, e_IIn, e_BBn, e_LLn, e_PPn, e_IIk, e_BBk, e_LLk, e_PPk, e_Ks, e_Ns, e_Is, e_Bs, e_Ls, e_Ps, e_Kn, e_Nn, e_In, e_Bn, e_Ln, e_Pn, if_true, if_false, and_self, or_true, true_or, not_false_eq_true, Bool.false_eq_true]; exact rfl) | exact rfl) | ((with_reducible apply ev_cl); · first | (simp (disch := omega) only [k7, lb', le, e1, p6, kc, nc, xx, cx, nz, e_KI, e_NI, e_BI, e_LI, e_PI, e_KB, e_NB, e_IB, e_LB, e_PB, e_KL, e_NL, e_IL, e_BL, e_PL, e_KP, e_NP, e_IP, e_BP, e_LP, e_IIs, e_BBs, e_LLs, e_PPs, e_IIn, e_BBn, e_LLn, e_PPn, e_IIk, e_BBk, e_LLk, e_PPk, e_Ks, e_Ns, e_Is, e_Bs, e_Ls, e_Ps, e_Kn, e_Nn, e_In, e_Bn, e_Ln, e_Pn, if_true, if_false, and_self, or_true, true_or, not_false_eq_true, Bool.false_eq_true]; exact rfl) | exact rfl) | ((with_reducible apply ev_g); · first | (simp (disch := omega) only [k7, lb', le, e1, p6, kc, nc, xx, cx, nz, e_KI, e_NI, e_BI, e_LI, e_PI, e_KB, e_NB, e_IB, e_LB, e_PB, e_KL, e_NL, e_IL, e_BL, e_PL, e_KP, e_NP, e_IP, e_BP, e_LP, e_IIs, e_BBs, e_LLs, e_PPs, e_IIn, e_BBn, e_LLn, e_PPn, e_IIk, e_BBk, e_LLk, e_PPk, e_Ks, e_Ns, e_Is, e_Bs, e_Ls, e_Ps, e_Kn, e_Nn, e_In, e_Bn, e_Ln, e_Pn, if_true, if_false, and_self, or_true, true_or, not_false_eq_true, Bool.false_eq_true]; done) | (simp (disch := omega) only [k7, lb', le, e1, p6, kc, nc, xx, cx, nz, e_KI, e_NI, e_BI, e_LI, e_PI, e_KB, e_NB, e_IB, e_LB, e_PB, e_KL, e_NL, e_IL, e_BL, e_PL, e_KP, e_NP, e_IP, e_BP, e_LP, e_IIs, e_BBs, e_LLs, e_PPs, e_IIn, e_BBn, e_LLn, e_PPn, e_IIk, e_BBk, e_LLk, e_PPk, e_Ks, e_Ns, e_Is, e_Bs, e_Ls, e_Ps, e_Kn, e_Nn, e_In, e_Bn, e_Ln, e_Pn, if_true, if_false, and_self, or_true, true_or, not_false_eq_true, Bool.false_eq_true]; decide) | decide) | ((with_reducible apply ev_t); · first | (simp (disch := omega) only [k7, lb', le, e1, p6, kc, nc, xx, cx, nz, e_KI, e_NI, e_BI, e_LI, e_PI, e_KB, e_NB, e_IB, e_LB, e_PB, e_KL, e_NL, e_IL, e_BL, e_PL, e_KP, e_NP, e_IP, e_BP, e_LP, e_IIs, e_BBs, e_LLs, e_PPs, e_IIn, e_BBn, e_LLn, e_PPn, e_IIk, e_BBk, e_LLk, e_PPk, e_Ks, e_Ns, e_Is, e_Bs, e_Ls, e_Ps, e_Kn, e_Nn, e_In, e_Bn, e_Ln, e_Pn, if_true, if_false, and_self, or_true, true_or, not_false_eq_true, Bool.false_eq_true]; done) | (simp (disch := omega) only [k7, lb', le, e1, p6, kc, nc, xx, cx, nz, e_KI, e_NI, e_BI, e_LI, e_PI, e_KB, e_NB, e_IB, e_LB, e_PB, e_KL, e_NL, e_IL, e_BL, e_PL, e_KP, e_NP, e_IP, e_BP, e_LP, e_IIs, e_BBs, e_LLs, e_PPs, e_IIn, e_BBn, e_LLn, e_PPn, e_IIk, e_BBk, e_LLk, e_PPk, e_Ks, e_Ns, e_Is, e_Bs, e_Ls, e_Ps, e_Kn, e_Nn, e_In, e_Bn, e_Ln, e_Pn, if_true, if_false, and_self, or_true, true_or, not_false_eq_true, Bool.false_eq_true]; decide) | decide) | ((with_reducible apply ev_f); · first | (simp (disch := omega) only [k7, lb', le, e1, p6, kc, nc, xx, cx, nz, e_KI, e_NI, e_BI, e_LI, e_PI, e_KB, e_NB, e_IB, e_LB, e_PB, e_KL, e_NL, e_IL, e_BL, e_PL, e_KP, e_NP, e_IP, e_BP, e_LP, e_IIs, e_BBs, e_LLs, e_PPs, e_IIn, e_BBn, e_LLn, e_PPn, e_IIk, e_BBk, e_LLk, e_PPk, e_Ks, e_Ns, e_Is, e_Bs, e_Ls, e_Ps, e_Kn, e_Nn, e_In, e_Bn, e_Ln, e_Pn, if_true, if_false, and_self, or_true, true_or, not_false_eq_true, Bool.false_eq_true]; done) | (simp (disch := omega) only [k7, lb', le, e1, p6, kc, nc, xx, cx, nz, e_KI, e_NI, e_BI, e_LI, e_PI, e_KB, e_NB, e_IB, e_LB, e_PB, e_KL, e_NL, e_IL, e_BL, e_PL, e_KP, e_NP, e_IP, e_BP, e_LP, e_IIs, e_BBs, e_LLs, e_PPs, e_IIn, e_BBn, e_LLn, e_PPn, e_IIk, e_BBk, e_LLk, e_PPk, e_Ks, e_Ns, e_Is, e_Bs, e_Ls, e_Ps, e_Kn, e_Nn, e_In, e_Bn, e_Ln, e_Pn, if_true, if_false, and_self, or_true, true_or, not_false_eq_true, Bool.false_eq_true]; decide) | decide) | ((with_reducible apply ev_s) <;> (first | (with_reducible rfl) | (simp (disch := omega) only [k7, lb', le, e1, p6, kc, nc, xx, cx, nz, e_KI, e_NI, e_BI, e_LI, e_PI, e_KB, e_NB, e_IB, e_LB, e_PB, e_KL, e_NL, e_IL, e_BL, e_PL, e_KP, e_NP, e_IP, e_BP, e_LP, e_IIs, e_BBs, e_LLs, e_PPs, e_IIn, e_BBn, e_LLn, e_PPn, e_IIk, e_BBk, e_LLk, e_PPk, e_Ks, e_Ns, e_Is, e_Bs, e_Ls, e_Ps, e_Kn, e_Nn, e_In, e_Bn, e_Ln, e_Pn, if_true, if_false, and_self, or_true, true_or, not_false_eq_true, Bool.false_eq_true]; done) | (simp (disch := omega) only [k7, lb', le, e1, p6, kc, nc, xx, cx, nz, e_KI, e_NI, e_BI, e_LI, e_PI, e_KB, e_NB, e_IB, e_LB, e_PB, e_KL, e_NL, e_IL, e_BL, e_PL, e_KP, e_NP, e_IP, e_BP, e_LP, e_IIs, e_BBs, e_LLs, e_PPs, e_IIn, e_BBn, e_LLn, e_PPn, e_IIk, e_BBk, e_LLk, e_PPk, e_Ks, e_Ns, e_Is, e_Bs, e_Ls, e_Ps, e_Kn, e_Nn, e_In, e_Bn, e_Ln, e_Pn, if_true, if_false, and_self, or_true, true_or, not_false_eq_true, Bool.false_eq_true]; rfl)))))
    · rw [ek]; exact Option.some.inj (es.symm.trans ht)
    · rw [ek]; exact Option.some.inj (es.symm.trans ht)
  · have w2 := S2.1.1.1
    have co := c_out (X := X2) (D := D) (x := y.cl.out D) hD.1 (by omega)
    have co' : f_X6_outOf (lg (cE y D)) X2 = some (nI (y.cl.out D), X2) := co
    have g3 : y_I X2 17 3 = nI y.W := (k17 3 (by omega)).trans f3
    have g7 : y_I X2 17 7 = nI (N + 1) := S2.2.2.1
    have g8 : y_I X2 17 8 = -9 := (k17 8 (by omega)).trans h8
    by_cases gl : y.cl.out D = y.W
    · have eg : (nI (y.cl.out D) = nI y.W) = True := eq_true (by rw [gl])
      have pn : nI (N + 1) - 1 = nI N := nI_pred N
      have mg := B.hit O r0 hi (by omega) es gl cut ng
      have cn := B.cntc O r0
      refine ⟨s_I X2 17 8 (nI N), ?_, Or.inr ⟨N, _, _, S2.fr (Or.inr ⟨rfl, rfl⟩), e_IIs, by omega, ⟨cn, hN⟩, ?_, ?_, ?_⟩⟩
      · unfold f_X6_reach
        (repeat (first | with_reducible apply ev_jn | ((with_reducible apply ev_bd); · first | (simp (disch := omega) only [k7, lb', le, e1, p6, kc, nc, xx, cx, z, ekp, co', w2, g3, eg, g7, pn, e_KI, e_NI, e_BI, e_LI, e_PI, e_KB, e_NB, e_IB, e_LB, e_PB, e_KL, e_NL, e_IL, e_BL, e_PL, e_KP, e_NP, e_IP, e_BP, e_LP, e_IIs, e_BBs, e_LLs, e_PPs, e_IIn, e_BBn, e_LLn, e_PPn, e_IIk, e_BBk, e_LLk, e_PPk, e_Ks, e_Ns, e_Is, e_Bs, e_Ls, e_Ps, e_Kn, e_Nn, e_In, e_Bn, e_Ln, e_Pn, if_true, if_false, and_self, or_true, true_or, not_false_eq_true, Bool.false_eq_true]; exact rfl) | exact rfl) | ((with_reducible apply ev_cl); · first | (simp (disch := omega) only [k7, lb', le, e1, p6, kc, nc, xx, cx, z, ekp, co', w2, g3, eg, g7, pn, e_KI, e_NI, e_BI, e_LI, e_PI, e_KB, e_NB, e_IB, e_LB, e_PB, e_KL, e_NL, e_IL, e_BL, e_PL, e_KP, e_NP, e_IP, e_BP, e_LP, e_IIs, e_BBs, e_LLs, e_PPs, e_IIn, e_BBn, e_LLn, e_PPn, e_IIk, e_BBk, e_LLk, e_PPk, e_Ks, e_Ns, e_Is, e_Bs, e_Ls, e_Ps, e_Kn, e_Nn, e_In, e_Bn, e_Ln, e_Pn, if_true, if_false, and_self, or_true, true_or, not_false_eq_true, Bool.false_eq_true]; exact rfl) | exact rfl) | ((with_reducible apply ev_g); · first | (simp (disch := omega) only [k7, lb', le, e1, p6, kc, nc, xx, cx, z, ekp, co', w2, g3, eg, g7, pn, e_KI, e_NI, e_BI, e_LI, e_PI, e_KB, e_NB, e_IB, e_LB, e_PB, e_KL, e_NL, e_IL, e_BL, e_PL, e_KP, e_NP, e_IP, e_BP, e_LP, e_IIs, e_BBs, e_LLs, e_PPs, e_IIn, e_BBn, e_LLn, e_PPn, e_IIk, e_BBk, e_LLk, e_PPk, e_Ks, e_Ns, e_Is, e_Bs, e_Ls, e_Ps, e_Kn, e_Nn, e_In, e_Bn, e_Ln, e_Pn, if_true, if_false, and_self, or_true, true_or, not_false_eq_true, Bool.false_eq_true]; done) | (simp (disch := omega) only [k7, lb', le, e1, p6, kc, nc, xx, cx, z, ekp, co', w2, g3, eg, g7, pn, e_KI, e_NI, e_BI, e_LI, e_PI, e_KB, e_NB, e_IB, e_LB, e_PB, e_KL, e_NL, e_IL, e_BL, e_PL, e_KP, e_NP, e_IP, e_BP, e_LP, e_IIs, e_BBs, e_LLs, e_PPs, e_IIn, e_BBn, e_LLn, e_PPn, e_IIk, e_BBk, e_LLk, e_PPk, e_Ks, e_Ns, e_Is, e_Bs, e_Ls, e_Ps, e_Kn, e_Nn, e_In, e_Bn, e_Ln, e_Pn, if_true, if_false, and_self, or_true, true_or, not_false_eq_true, Bool.false_eq_true]; decide) | decide) | ((with_reducible apply ev_t); · first | (simp (disch := omega) only [k7, lb', le, e1, p6, kc, nc, xx, cx, z, ekp, co', w2, g3, eg, g7, pn, e_KI, e_NI, e_BI, e_LI, e_PI, e_KB, e_NB, e_IB, e_LB, e_PB, e_KL, e_NL, e_IL, e_BL, e_PL, e_KP, e_NP, e_IP, e_BP, e_LP, e_IIs, e_BBs, e_LLs, e_PPs, e_IIn, e_BBn, e_LLn, e_PPn, e_IIk, e_BBk, e_LLk, e_PPk, e_Ks, e_Ns, e_Is, e_Bs, e_Ls, e_Ps, e_Kn, e_Nn, e_In, e_Bn, e_Ln, e_Pn, if_true, if_false, and_self, or_true, true_or, not_false_eq_true, Bool.false_eq_true]; done) | (simp (disch := omega) only [k7, lb', le, e1, p6, kc, nc, xx, cx, z, ekp, co', w2, g3, eg, g7, pn, e_KI, e_NI, e_BI, e_LI, e_PI, e_KB, e_NB, e_IB, e_LB, e_PB, e_KL, e_NL, e_IL, e_BL, e_PL, e_KP, e_NP, e_IP, e_BP, e_LP, e_IIs, e_BBs, e_LLs, e_PPs, e_IIn, e_BBn, e_LLn, e_PPn, e_IIk, e_BBk, e_LLk, e_PPk, e_Ks, e_Ns, e_Is, e_Bs, e_Ls, e_Ps, e_Kn, e_Nn, e_In, e_Bn, e_Ln, e_Pn, if_true, if_false, and_self, or_true, true_or, not_false_eq_true, Bool.false_eq_true]; decide) | decide) | ((with_reducible apply ev_f); · first | (simp (disch := omega) only [k7, lb', le, e1, p6, kc, nc, xx, cx, z, ekp, co', w2, g3, eg, g7, pn, e_KI, e_NI, e_BI, e_LI, e_PI, e_KB, e_NB, e_IB, e_LB, e_PB, e_KL, e_NL, e_IL, e_BL, e_PL, e_KP, e_NP, e_IP, e_BP, e_LP, e_IIs, e_BBs, e_LLs, e_PPs, e_IIn, e_BBn, e_LLn, e_PPn, e_IIk, e_BBk, e_LLk, e_PPk, e_Ks, e_Ns, e_Is, e_Bs, e_Ls, e_Ps, e_Kn, e_Nn, e_In, e_Bn, e_Ln, e_Pn, if_true, if_false, and_self, or_true, true_or, not_false_eq_true, Bool.false_eq_true]; done) | (simp (disch := omega) only [k7, lb', le, e1, p6, kc, nc, xx, cx, z, ekp, co', w2, g3, eg, g7, pn, e_KI, e_NI, e_BI, e_LI, e_PI, e_KB, e_NB, e_IB, e_LB, e_PB, e_KL, e_NL, e_IL, e_BL, e_PL, e_KP, e_NP, e_IP, e_BP, e_LP, e_IIs, e_BBs, e_LLs, e_PPs, e_IIn, e_BBn, e_LLn, e_PPn, e_IIk, e_BBk, e_LLk, e_PPk, e_Ks, e_Ns, e_Is, e_Bs, e_Ls, e_Ps, e_Kn, e_Nn, e_In, e_Bn, e_Ln, e_Pn, if_true, if_false, and_self, or_true, true_or, not_false_eq_true, Bool.false_eq_true]; decide) | decide) | ((with_reducible apply ev_s) <;> (first | (with_reducible rfl) | (simp (disch := omega) only [k7, lb', le, e1, p6, kc, nc, xx, cx, z, ekp, co', w2, g3, eg, g7, pn, e_KI, e_NI, e_BI, e_LI, e_PI, e_KB, e_NB, e_IB, e_LB, e_PB, e_KL, e_NL, e_IL, e_BL, e_PL, e_KP, e_NP, e_IP, e_BP, e_LP, e_IIs, e_BBs, e_LLs, e_PPs, e_IIn, e_BBn, e_LLn, e_PPn, e_IIk, e_BBk, e_LLk, e_PPk, e_Ks, e_Ns, e_Is, e_Bs, e_Ls, e_Ps, e_Kn, e_Nn, e_In, e_Bn, e_Ln, e_Pn, if_true, if_false, and_self, or_true, true_or, not_false_eq_true, Bool.false_eq_true]; done) | (simp (disch := omega) only [k7, lb', le, e1, p6, kc, nc, xx, cx, z, ekp, co', w2, g3, eg, g7, pn, e_KI, e_NI, e_BI, e_LI, e_PI, e_KB, e_NB, e_IB, e_LB, e_PB, e_KL, e_NL, e_IL, e_BL, e_PL, e_KP, e_NP, e_IP, e_BP, e_LP, e_IIs, e_BBs, e_LLs, e_PPs, e_IIn, e_BBn, e_LLn, e_PPn, e_IIk, e_BBk, e_LLk, e_PPk, e_Ks, e_Ns, e_Is, e_Bs, e_Ls, e_Ps, e_Kn, e_Nn, e_In, e_Bn, e_Ln, e_Pn, if_true, if_false, and_self, or_true, true_or, not_false_eq_true, Bool.false_eq_true]; rfl)))))
      · show (if 0 = N then _ else row 0) = 0
        rw [if_neg (by omega)]
        exact B.b0.2.2
      · show MinG y.cl (mpd y C0) (if N = N then _ else row N)
        rw [if_pos rfl]
        exact mg
      · show ln (if N = N then _ else row N) = _
        rw [if_pos rfl]
        exact ln_s (by omega)
    · have eg : ¬ nI (y.cl.out D) = nI y.W := by
        rw [i_eq (by omega)]
        exact gl
      refine ⟨X2, ?_, Or.inl ⟨N + 1, _, _, ⟨B.add hi (by omega) es nw, S2, fun q => BI.add (T (by rw [← kB]; exact q)) hi (by omega) es nw, fun k hk => ?_, g8⟩, by omega, by omega, k105, fun k hk => ⟨if_neg (by omega), if_neg (by omega)⟩, fun k h1 h2 => ?_⟩⟩
      · unfold f_X6_reach
        (repeat (first | with_reducible apply ev_jn | ((with_reducible apply ev_bd); · first | (simp (disch := omega) only [k7, lb', le, e1, p6, kc, nc, xx, cx, z, ekp, co', w2, g3, eg, e_KI, e_NI, e_BI, e_LI, e_PI, e_KB, e_NB, e_IB, e_LB, e_PB, e_KL, e_NL, e_IL, e_BL, e_PL, e_KP, e_NP, e_IP, e_BP, e_LP, e_IIs, e_BBs, e_LLs, e_PPs, e_IIn, e_BBn, e_LLn, e_PPn, e_IIk, e_BBk, e_LLk, e_PPk, e_Ks, e_Ns, e_Is, e_Bs, e_Ls, e_Ps, e_Kn, e_Nn, e_In, e_Bn, e_Ln, e_Pn, if_true, if_false, and_self, or_true, true_or, not_false_eq_true, Bool.false_eq_true]; exact rfl) | exact rfl) | ((with_reducible apply ev_cl); · first | (simp (disch := omega) only [k7, lb', le, e1, p6, kc, nc, xx, cx, z, ekp, co', w2, g3, eg, e_KI, e_NI, e_BI, e_LI, e_PI, e_KB, e_NB, e_IB, e_LB, e_PB, e_KL, e_NL, e_IL, e_BL, e_PL, e_KP, e_NP, e_IP, e_BP, e_LP, e_IIs, e_BBs, e_LLs, e_PPs, e_IIn, e_BBn, e_LLn, e_PPn, e_IIk, e_BBk, e_LLk, e_PPk, e_Ks, e_Ns, e_Is, e_Bs, e_Ls, e_Ps, e_Kn, e_Nn, e_In, e_Bn, e_Ln, e_Pn, if_true, if_false, and_self, or_true, true_or, not_false_eq_true, Bool.false_eq_true]; exact rfl) | exact rfl) | ((with_reducible apply ev_g); · first | (simp (disch := omega) only [k7, lb', le, e1, p6, kc, nc, xx, cx, z, ekp, co', w2, g3, eg, e_KI, e_NI, e_BI, e_LI, e_PI, e_KB, e_NB, e_IB, e_LB, e_PB, e_KL, e_NL, e_IL, e_BL, e_PL, e_KP, e_NP, e_IP, e_BP, e_LP, e_IIs, e_BBs, e_LLs, e_PPs, e_IIn, e_BBn, e_LLn, e_PPn, e_IIk, e_BBk, e_LLk, e_PPk, e_Ks, e_Ns, e_Is, e_Bs, e_Ls, e_Ps, e_Kn, e_Nn, e_In, e_Bn, e_Ln, e_Pn, if_true, if_false, and_self, or_true, true_or, not_false_eq_true, Bool.false_eq_true]; done) | (simp (disch := omega) only [k7, lb', le, e1, p6, kc, nc, xx, cx, z, ekp, co', w2, g3, eg, e_KI, e_NI, e_BI, e_LI, e_PI, e_KB, e_NB, e_IB, e_LB, e_PB, e_KL, e_NL, e_IL, e_BL, e_PL, e_KP, e_NP, e_IP, e_BP, e_LP, e_IIs, e_BBs, e_LLs, e_PPs, e_IIn, e_BBn, e_LLn, e_PPn, e_IIk, e_BBk, e_LLk, e_PPk, e_Ks, e_Ns, e_Is, e_Bs, e_Ls, e_Ps, e_Kn, e_Nn, e_In, e_Bn, e_Ln, e_Pn, if_true, if_false, and_self, or_true, true_or, not_false_eq_true, Bool.false_eq_true]; decide) | decide) | ((with_reducible apply ev_t); · first | (simp (disch := omega) only [k7, lb', le, e1, p6, kc, nc, xx, cx, z, ekp, co', w2, g3, eg, e_KI, e_NI, e_BI, e_LI, e_PI, e_KB, e_NB, e_IB, e_LB, e_PB, e_KL, e_NL, e_IL, e_BL, e_PL, e_KP, e_NP, e_IP, e_BP, e_LP, e_IIs, e_BBs, e_LLs, e_PPs, e_IIn, e_BBn, e_LLn, e_PPn, e_IIk, e_BBk, e_LLk, e_PPk, e_Ks, e_Ns, e_Is, e_Bs, e_Ls, e_Ps, e_Kn, e_Nn, e_In, e_Bn, e_Ln, e_Pn, if_true, if_false, and_self, or_true, true_or, not_false_eq_true, Bool.false_eq_true]; done) | (simp (disch := omega) only [k7, lb', le, e1, p6, kc, nc, xx, cx, z, ekp, co', w2, g3, eg, e_KI, e_NI, e_BI, e_LI, e_PI, e_KB, e_NB, e_IB, e_LB, e_PB, e_KL, e_NL, e_IL, e_BL, e_PL, e_KP, e_NP, e_IP, e_BP, e_LP, e_IIs, e_BBs, e_LLs, e_PPs, e_IIn, e_BBn, e_LLn, e_PPn, e_IIk, e_BBk, e_LLk, e_PPk, e_Ks, e_Ns, e_Is, e_Bs, e_Ls, e_Ps, e_Kn, e_Nn, e_In, e_Bn, e_Ln, e_Pn, if_true, if_false, and_self, or_true, true_or, not_false_eq_true, Bool.false_eq_true]; decide) | decide) | ((with_reducible apply ev_f); · first | (simp (disch := omega) only [k7, lb', le, e1, p6, kc, nc, xx, cx, z, ekp, co', w2, g3, eg, e_KI, e_NI, e_BI, e_LI, e_PI, e_KB, e_NB, e_IB, e_LB, e_PB, e_KL, e_NL, e_IL, e_BL, e_PL, e_KP, e_NP, e_IP, e_BP, e_LP, e_IIs, e_BBs, e_LLs, e_PPs, e_IIn, e_BBn, e_LLn, e_PPn, e_IIk, e_BBk, e_LLk, e_PPk, e_Ks, e_Ns, e_Is, e_Bs, e_Ls, e_Ps, e_Kn, e_Nn, e_In, e_Bn, e_Ln, e_Pn, if_true, if_false, and_self, or_true, true_or, not_false_eq_true, Bool.false_eq_true]; done) | (simp (disch := omega) only [k7, lb', le, e1, p6, kc, nc, xx, cx, z, ekp, co', w2, g3, eg, e_KI, e_NI, e_BI, e_LI, e_PI, e_KB, e_NB, e_IB, e_LB, e_PB, e_KL, e_NL, e_IL, e_BL, e_PL, e_KP, e_NP, e_IP, e_BP, e_LP, e_IIs, e_BBs, e_LLs, e_PPs, e_IIn, e_BBn, e_LLn, e_PPn, e_IIk, e_BBk, e_LLk, e_PPk, e_Ks, e_Ns, e_Is, e_Bs, e_Ls, e_Ps, e_Kn, e_Nn, e_In, e_Bn, e_Ln, e_Pn, if_true, if_false, and_self, or_true, true_or, not_false_eq_true, Bool.false_eq_true]; decide) | decide) | ((with_reducible apply ev_s) <;> (first | (with_reducible rfl) | (simp (disch := omega) only [k7, lb', le, e1, p6, kc, nc, xx, cx, z, ekp, co', w2, g3, eg, e_KI, e_NI, e_BI, e_LI, e_PI, e_KB, e_NB, e_IB, e_LB, e_PB, e_KL, e_NL, e_IL, e_BL, e_PL, e_KP, e_NP, e_IP, e_BP, e_LP, e_IIs, e_BBs, e_LLs, e_PPs, e_IIn, e_BBn, e_LLn, e_PPn, e_IIk, e_BBk, e_LLk, e_PPk, e_Ks, e_Ns, e_Is, e_Bs, e_Ls, e_Ps, e_Kn, e_Nn, e_In, e_Bn, e_Ln, e_Pn, if_true, if_false, and_self, or_true, true_or, not_false_eq_true, Bool.false_eq_true]; done) | (simp (disch := omega) only [k7, lb', le, e1, p6, kc, nc, xx, cx, z, ekp, co', w2, g3, eg, e_KI, e_NI, e_BI, e_LI, e_PI, e_KB, e_NB, e_IB, e_LB, e_PB, e_KL, e_NL, e_IL, e_BL, e_PL, e_KP, e_NP, e_IP, e_BP, e_LP, e_IIs, e_BBs, e_LLs, e_PPs, e_IIn, e_BBn, e_LLn, e_PPn, e_IIk, e_BBk, e_LLk, e_PPk, e_Ks, e_Ns, e_Is, e_Bs, e_Ls, e_Ps, e_Kn, e_Nn, e_In, e_Bn, e_Ln, e_Pn, if_true, if_false, and_self, or_true, true_or, not_false_eq_true, Bool.false_eq_true]; rfl)))))
      · try dsimp only
        by_cases e : k = N
        · rw [if_pos e]; exact gl
        · rw [if_neg e]; exact ng k (by omega)
      · show 64 * row i + 1 ≤ (if k = N then _ else row k)
        rw [if_pos (by omega)]
        omega
end LTC
