/-! least: the model reads a bay's number, and its table -/
section LSL
variable {C D : Cg} {G : y_H} {s t d k n e N : Nat} {l : List Nat}
theorem i_m15 (a : Nat) : (15 : Int32) * nI a = nI (15 * a) := i_mul 15 a
theorem i_and (a b : Nat) (hb : b ≤ 31) : nI a &&& nI (2 ^ b - 1) = nI (a % 2 ^ b) := by
  refine Int32.toBitVec_inj.mp ?_
  rw [Int32.toBitVec_and]
  show BitVec.ofNat 32 a &&& BitVec.ofNat 32 (2 ^ b - 1) = BitVec.ofNat 32 (a % 2 ^ b)
  rw [← BitVec.ofNat_and, Nat.and_two_pow_sub_one_eq_mod]
theorem lg_c (h1 : n < 2 ^ 63) (h2 : k < 2 ^ 63) : (lg_cmp (lg n) (lg k) = 0) = (n = k) := by
  rw [lgc0]
  exact propext ⟨fun z => lg_inj h1 h2 z, fun z => by rw [z]⟩
theorem m_tl (h : dkC C) (hs : s < 4) : f_X12_tallOf (lg (enc C)) (nI s) G = some (nI (C s).length, G) := by
  have el := enc_lt h
  have l5 := (h s).1
  suffices H : wp (f_X12_tallOf (lg (enc C)) (nI s) G) fun r G2 => r = nI (C s).length ∧ G2 = G by
    obtain ⟨r, G2, e1, e2, e3⟩ := H
    rw [e1, e2, e3]
  unfold f_X12_tallOf
  refine wp_jl (fun m j => ∀ t, t ≤ (C s).length → (C s).length - t < m → wp (j (lg (enc C)) (nI s) (nI t) G) fun r G2 => r = nI (C s).length ∧ G2 = G) (fun t _ hm => absurd hm (by omega)) (fun m j IH t ht hm => ?_) (fun j IH => ?_)
  rotate_left
  · exact IH 0 (by omega) (by unfold y_fu; omega)
  refine wp_jn ?_
  by_cases t5 : t = 5
  · have z : (5 : Int32) ≤ nI t := by rw [t5]; decide
    refine wp_pos z (wp_some.mpr ⟨?_, rfl⟩)
    rw [show t = (C s).length by omega]
  have z : ¬ (5 : Int32) ≤ nI t := nI_ge (b := 5) (by omega) (by omega)
  refine wp_neg z ?_
  have sh : Int32.toInt64 ((15 * nI s) + (3 * nI t)) &&& 63 = lg (15 * s + 3 * t) := by
    rw [i_m15, i_m3, i_add, lg_i (by omega), lg_63 (by omega)]
  have dv := enc_dg h hs (show t ≤ 4 by omega) 0 (by omega)
  rw [Nat.zero_mul, Nat.add_zero] at dv
  have ev : (lg (enc C) >>> (Int32.toInt64 ((15 * nI s) + (3 * nI t)) &&& 63)) &&& 7 = lg (dgt (C s) t) := by
    rw [sh, lg_shr (by omega) (by omega), lg_7, dv]
  rw [ev]
  have d7 : dgt (C s) t ≤ 7 := by
    by_cases q : t < (C s).length
    · exact (dgt_p _ t (h s) q).2
    · rw [dgt_0 _ t (by omega)]; omega
  by_cases te : t = (C s).length
  · refine wp_pos ?_ (wp_some.mpr ⟨by rw [te], rfl⟩)
    rw [show (0 : Int64) = lg 0 from rfl, lg_c (by omega) (by omega)]
    exact dgt_0 _ t (by omega)
  · have dp := dgt_p _ t (h s) (show t < (C s).length by omega)
    refine wp_neg ?_ ?_
    · rw [show (0 : Int64) = lg 0 from rfl, lg_c (by omega) (by omega)]
      omega
    · have := IH (t + 1) (by omega) (by omega)
      rw [← nI_1] at this
      exact this
theorem m_tp (h : dkC C) (hs : s < 4) (hc : C s = d :: l) : f_X12_topOf (lg (enc C)) (nI s) (nI (l.length + 1)) G = some (nI d, G) := by
  have el := enc_lt h
  obtain ⟨h1, h2, h3⟩ := (show dk (d :: l) by rw [← hc]; exact h s).tl
  have dv := enc_dg h hs h3 0 (by omega)
  rw [Nat.zero_mul, Nat.add_zero, hc] at dv
  have dd : dgt (d :: l) l.length = d := if_pos rfl
  rw [dd] at dv
  have sh : Int32.toInt64 ((15 * nI s) + (3 * (nI (l.length + 1) - 1))) &&& 63 = lg (15 * s + 3 * l.length) := by
    rw [nI_pred, i_m15, i_m3, i_add, lg_i (by omega), lg_63 (by omega)]
  unfold f_X12_topOf
  rw [sh, lg_shr (by omega) (by omega), lg_7, dv, lg_t32 (by omega)]
theorem m_out9 (w : Sh G) (h : dkC C) (hn : y_I G 11 68 = nI n) (ht : ttC C ≤ n) (hn6 : n ≤ 6) : f_X12_outOf 11 (lg (enc C)) G = some (nI (n - ttC C), G) := by
  suffices H : wp (f_X12_outOf 11 (lg (enc C)) G) fun r G2 => r = nI (n - ttC C) ∧ G2 = G by
    obtain ⟨r, G2, e1, e2, e3⟩ := H
    rw [e1, e2, e3]
  unfold f_X12_outOf
  refine wp_g (by simp only [w.2]) ?_
  rw [hn]
  have t0 := m_tl (G := G) h (show 0 < 4 by omega)
  have t1 := m_tl (G := G) h (show 1 < 4 by omega)
  have t2 := m_tl (G := G) h (show 2 < 4 by omega)
  have t3 := m_tl (G := G) h (show 3 < 4 by omega)
  unfold y_jl
  rw [show y_fu = 3999995 + 1 + 1 + 1 + 1 + 1 from rfl, y_lpS, y_lpS, y_lpS, y_lpS, y_lpS]
  have z4 : (4 : Int32) ≤ 3 + 1 := by decide
  have z0 : ¬ (4 : Int32) ≤ 0 := by decide
  have z1 : ¬ (4 : Int32) ≤ 0 + 1 := by decide
  have z2 : ¬ (4 : Int32) ≤ 0 + 1 + 1 := by decide
  have z3 : ¬ (4 : Int32) ≤ 0 + 1 + 1 + 1 := by decide
  have z4 : (4 : Int32) ≤ 0 + 1 + 1 + 1 + 1 := by decide
  refine wp_neg z0 (wp_ce t0 (wp_neg z1 (wp_ce t1 (wp_neg z2 (wp_ce t2 (wp_neg z3 (wp_ce t3 (wp_pos z4 (wp_some.mpr ⟨?_, rfl⟩)))))))))
  unfold ttC at ht ⊢
  rw [i_sub (by omega), i_sub (by omega), i_sub (by omega), i_sub (by omega)]
  congr 1
  omega
/-! its table -/
def mhv (e : Nat) : Int64 := (lg e ^^^ y_lush (lg e) 31) * (-7046029254386353131 : Int64)
def mh (e : Nat) : Nat := (mhv e).toBitVec.toNat / 2 ^ 47
theorem mh_lt (e : Nat) : mh e < 131072 := by
  unfold mh
  have := (mhv e).toBitVec.isLt
  omega
theorem m_slot {E : Nat → Nat} (w : Sh G) (H : HT (y_I G 3170) 131072 N E mh) (hN : N ≤ 66000) (hE : ∀ k, k < N → y_L G 2978 k = lg (E k) ∧ E k < 2 ^ 63) (he : e < 2 ^ 63) : ∃ i, f_X12_slotOf 11 (lg e) G = some (nI ((mh e + i) % 131072), G) ∧ i < 131072 ∧ (y_I G 3170 ((mh e + i) % 131072) = 0 ∨ ∃ k, k < N ∧ y_I G 3170 ((mh e + i) % 131072) = nI (k + 1) ∧ E k = e) ∧ ∀ j, j < i → ∃ k, k < N ∧ y_I G 3170 ((mh e + j) % 131072) = nI (k + 1) ∧ E k ≠ e := by
  obtain ⟨i, hi, hs, hp⟩ := H.stop (by omega) (by decide) e
  refine ⟨i, ?_, hi, hs, hp⟩
  suffices Q : wp (f_X12_slotOf 11 (lg e) G) fun r G2 => r = nI ((mh e + i) % 131072) ∧ G2 = G by
    obtain ⟨r, G2, e1, e2, e3⟩ := Q
    rw [e1, e2, e3]
  have hv : Int64.toInt32 (y_lush ((lg e ^^^ y_lush (lg e) 31) * (-7046029254386353131 : Int64)) 47) = nI ((mh e + 0) % 131072) := by
    have z : (lg e ^^^ y_lush (lg e) 31) * (-7046029254386353131 : Int64) = lg ((mhv e).toBitVec.toNat) := lg_of rfl
    rw [z, show (47 : Int32) = nI 47 from rfl, lg_ush ((mhv e).toBitVec.isLt) (by omega)]
    have := mh_lt e
    rw [lg_t32 (by show mh e < 2 ^ 31; omega), Nat.add_zero, Nat.mod_eq_of_lt this]
    rfl
  unfold f_X12_slotOf
  rw [hv]
  refine wp_jl (fun m j => ∀ q, q ≤ i → i - q < m → wp (j 11 (lg e) (nI ((mh e + q) % 131072)) G) fun r G2 => r = nI ((mh e + i) % 131072) ∧ G2 = G) (fun q _ hm => absurd hm (by omega)) (fun m j IH q hq hm => ?_) (fun j IH => ?_)
  rotate_left
  · exact IH 0 (by omega) (by unfold y_fu; omega)
  have lt : (mh e + q) % 131072 < 131072 := Nat.mod_lt _ (by decide)
  have x1 := i_ix lt (by decide)
  have c1 := i_cl (show (mh e + q) % 131072 < 2 ^ 31 by omega)
  have nx : (nI ((mh e + q) % 131072) + 1) &&& 131071 = nI ((mh e + (q + 1)) % 131072) := by
    rw [nI_1, show (131071 : Int32) = nI (2 ^ 17 - 1) from rfl, i_and _ _ (by decide), show (2 : Nat) ^ 17 = 131072 from rfl]
    congr 1
    omega
  by_cases eq : q = i
  · rcases hs with z | ⟨k, hk, z1, z2⟩
    · have v : y_I G 3170 ((mh e + q) % 131072) = 0 := by rw [eq]; exact z
      have le : (0 : Int32) ≤ 0 := by decide
      (repeat (first | with_reducible apply wp_jn | ((with_reducible apply wp_be); · first | (simp (disch := omega) only [w.2, x1, c1, v, le, e_KI, e_NI, e_BI, e_LI, e_PI, e_KB, e_NB, e_IB, e_LB, e_PB, e_KL, e_NL, e_IL, e_BL, e_PL, e_KP, e_NP, e_IP, e_BP, e_LP, e_IIs, e_BBs, e_LLs, e_PPs, e_IIn, e_BBn, e_LLn, e_PPn, e_IIk, e_BBk, e_LLk, e_PPk, e_Ks, e_Ns, e_Is, e_Bs, e_Ls, e_Ps, e_Kn, e_Nn, e_In, e_Bn, e_Ln, e_Pn, if_true, if_false, and_self, or_true, true_or, not_false_eq_true, Bool.false_eq_true]; exact rfl) | exact rfl) | ((with_reducible apply wp_ce); · first | (simp (disch := omega) only [w.2, x1, c1, v, le, e_KI, e_NI, e_BI, e_LI, e_PI, e_KB, e_NB, e_IB, e_LB, e_PB, e_KL, e_NL, e_IL, e_BL, e_PL, e_KP, e_NP, e_IP, e_BP, e_LP, e_IIs, e_BBs, e_LLs, e_PPs, e_IIn, e_BBn, e_LLn, e_PPn, e_IIk, e_BBk, e_LLk, e_PPk, e_Ks, e_Ns, e_Is, e_Bs, e_Ls, e_Ps, e_Kn, e_Nn, e_In, e_Bn, e_Ln, e_Pn, if_true, if_false, and_self, or_true, true_or, not_false_eq_true, Bool.false_eq_true]; exact rfl) | exact rfl) | ((with_reducible apply wp_g); · first | (simp (disch := omega) only [w.2, x1, c1, v, le, e_KI, e_NI, e_BI, e_LI, e_PI, e_KB, e_NB, e_IB, e_LB, e_PB, e_KL, e_NL, e_IL, e_BL, e_PL, e_KP, e_NP, e_IP, e_BP, e_LP, e_IIs, e_BBs, e_LLs, e_PPs, e_IIn, e_BBn, e_LLn, e_PPn, e_IIk, e_BBk, e_LLk, e_PPk, e_Ks, e_Ns, e_Is, e_Bs, e_Ls, e_Ps, e_Kn, e_Nn, e_In, e_Bn, e_Ln, e_Pn, if_true, if_false, and_self, or_true, true_or, not_false_eq_true, Bool.false_eq_true]; done) | (simp (disch := omega) only [w.2, x1, c1, v, le, e_KI, e_NI, e_BI, e_LI, e_PI, e_KB, e_NB, e_IB, e_LB, e_PB, e_KL, e_NL, e_IL, e_BL, e_PL, e_KP, e_NP, e_IP, e_BP, e_LP, e_IIs, e_BBs, e_LLs, e_PPs, e_IIn, e_BBn, e_LLn, e_PPn, e_IIk, e_BBk, e_LLk, e_PPk, e_Ks, e_Ns, e_Is, e_Bs, e_Ls, e_Ps, e_Kn, e_Nn, e_In, e_Bn, e_Ln, e_Pn, if_true, if_false, and_self, or_true, true_or, not_false_eq_true, Bool.false_eq_true]; decide) | decide) | ((with_reducible apply wp_pos); · first | (simp (disch := omega) only [w.2, x1, c1, v, le, e_KI, e_NI, e_BI, e_LI, e_PI, e_KB, e_NB, e_IB, e_LB, e_PB, e_KL, e_NL, e_IL, e_BL, e_PL, e_KP, e_NP, e_IP, e_BP, e_LP, e_IIs, e_BBs, e_LLs, e_PPs, e_IIn, e_BBn, e_LLn, e_PPn, e_IIk, e_BBk, e_LLk, e_PPk, e_Ks, e_Ns, e_Is, e_Bs, e_Ls, e_Ps, e_Kn, e_Nn, e_In, e_Bn, e_Ln, e_Pn, if_true, if_false, and_self, or_true, true_or, not_false_eq_true, Bool.false_eq_true]; done) | (simp (disch := omega) only [w.2, x1, c1, v, le, e_KI, e_NI, e_BI, e_LI, e_PI, e_KB, e_NB, e_IB, e_LB, e_PB, e_KL, e_NL, e_IL, e_BL, e_PL, e_KP, e_NP, e_IP, e_BP, e_LP, e_IIs, e_BBs, e_LLs, e_PPs, e_IIn, e_BBn, e_LLn, e_PPn, e_IIk, e_BBk, e_LLk, e_PPk, e_Ks, e_Ns, e_Is, e_Bs, e_Ls, e_Ps, e_Kn, e_Nn, e_In, e_Bn, e_Ln, e_Pn, if_true, if_false, and_self, or_true, true_or, not_false_eq_true, Bool.false_eq_true]; decide) | decide) | ((with_reducible apply wp_neg); · first | (simp (disch := omega) only [w.2, x1, c1, v, le, e_KI, e_NI, e_BI, e_LI, e_PI, e_KB, e_NB, e_IB, e_LB, e_PB, e_KL, e_NL, e_IL, e_BL, e_PL, e_KP, e_NP, e_IP, e_BP, e_LP, e_IIs, e_BBs, e_LLs, e_PPs, e_IIn, e_BBn, e_LLn, e_PPn, e_IIk, e_BBk, e_LLk, e_PPk, e_Ks, e_Ns, e_Is, e_Bs, e_Ls, e_Ps, e_Kn, e_Nn, e_In, e_Bn, e_Ln, e_Pn, if_true, if_false, and_self, or_true, true_or, not_false_eq_true, Bool.false_eq_true]; done) | (simp (disch := omega) only [w.2, x1, c1, v, le, e_KI, e_NI, e_BI, e_LI, e_PI, e_KB, e_NB, e_IB, e_LB, e_PB, e_KL, e_NL, e_IL, e_BL, e_PL, e_KP, e_NP, e_IP, e_BP, e_LP, e_IIs, e_BBs, e_LLs, e_PPs, e_IIn, e_BBn, e_LLn, e_PPn, e_IIk, e_BBk, e_LLk, e_PPk, e_Ks, e_Ns, e_Is, e_Bs, e_Ls, e_Ps, e_Kn, e_Nn, e_In, e_Bn, e_Ln, e_Pn, if_true, if_false, and_self, or_true, true_or, not_false_eq_true, Bool.false_eq_true]; decide) | decide)))
      exact wp_some.mpr ⟨by rw [eq], rfl⟩
    · have v : y_I G 3170 ((mh e + q) % 131072) = nI (k + 1) := by rw [eq]; exact z1
      have le : ¬ nI (k + 1) ≤ (0 : Int32) := nI_ge (a := 0) (by omega) (by omega)
      have pk : nI (k + 1) - 1 = nI k := nI_pred k
      have xk := i_ix (show k < 66000 by omega) (by decide)
      have ck := i_cl (show k < 2 ^ 31 by omega)
      have ek := (hE k hk).1
      have cm : (lg_cmp (lg (E k)) (lg e) = 0) = True := by
        rw [lg_c (hE k hk).2 he]
        exact eq_true z2
      (repeat (first | with_reducible apply wp_jn | ((with_reducible apply wp_be); · first | (simp (disch := omega) only [w.2, x1, c1, v, le, pk, xk, ck, ek, cm, e_KI, e_NI, e_BI, e_LI, e_PI, e_KB, e_NB, e_IB, e_LB, e_PB, e_KL, e_NL, e_IL, e_BL, e_PL, e_KP, e_NP, e_IP, e_BP, e_LP, e_IIs, e_BBs, e_LLs, e_PPs, e_IIn, e_BBn, e_LLn, e_PPn, e_IIk, e_BBk, e_LLk, e_PPk, e_Ks, e_Ns, e_Is, e_Bs, e_Ls, e_Ps, e_Kn, e_Nn, e_In, e_Bn, e_Ln, e_Pn, if_true, if_false, and_self, or_true, true_or, not_false_eq_true, Bool.false_eq_true]; exact rfl) | exact rfl) | ((with_reducible apply wp_ce); · first | (simp (disch := omega) only [w.2, x1, c1, v, le, pk, xk, ck, ek, cm, e_KI, e_NI, e_BI, e_LI, e_PI, e_KB, e_NB, e_IB, e_LB, e_PB, e_KL, e_NL, e_IL, e_BL, e_PL, e_KP, e_NP, e_IP, e_BP, e_LP, e_IIs, e_BBs, e_LLs, e_PPs, e_IIn, e_BBn, e_LLn, e_PPn, e_IIk, e_BBk, e_LLk, e_PPk, e_Ks, e_Ns, e_Is, e_Bs, e_Ls, e_Ps, e_Kn, e_Nn, e_In, e_Bn, e_Ln, e_Pn, if_true, if_false, and_self, or_true, true_or, not_false_eq_true, Bool.false_eq_true]; exact rfl) | exact rfl) | ((with_reducible apply wp_g); · first | (simp (disch := omega) only [w.2, x1, c1, v, le, pk, xk, ck, ek, cm, e_KI, e_NI, e_BI, e_LI, e_PI, e_KB, e_NB, e_IB, e_LB, e_PB, e_KL, e_NL, e_IL, e_BL, e_PL, e_KP, e_NP, e_IP, e_BP, e_LP, e_IIs, e_BBs, e_LLs, e_PPs, e_IIn, e_BBn, e_LLn, e_PPn, e_IIk, e_BBk, e_LLk, e_PPk, e_Ks, e_Ns, e_Is, e_Bs, e_Ls, e_Ps, e_Kn, e_Nn, e_In, e_Bn, e_Ln, e_Pn, if_true, if_false, and_self, or_true, true_or, not_false_eq_true, Bool.false_eq_true]; done) | (simp (disch := omega) only [w.2, x1, c1, v, le, pk, xk, ck, ek, cm, e_KI, e_NI, e_BI, e_LI, e_PI, e_KB, e_NB, e_IB, e_LB, e_PB, e_KL, e_NL, e_IL, e_BL, e_PL, e_KP, e_NP, e_IP, e_BP, e_LP, e_IIs, e_BBs, e_LLs, e_PPs, e_IIn, e_BBn, e_LLn, e_PPn, e_IIk, e_BBk, e_LLk, e_PPk, e_Ks, e_Ns, e_Is, e_Bs, e_Ls, e_Ps, e_Kn, e_Nn, e_In, e_Bn, e_Ln, e_Pn, if_true, if_false, and_self, or_true, true_or, not_false_eq_true, Bool.false_eq_true]; decide) | decide) | ((with_reducible apply wp_pos); · first | (simp (disch := omega) only [w.2, x1, c1, v, le, pk, xk, ck, ek, cm, e_KI, e_NI, e_BI, e_LI, e_PI, e_KB, e_NB, e_IB, e_LB, e_PB, e_KL, e_NL, e_IL, e_BL, e_PL, e_KP, e_NP, e_IP, e_BP, e_LP, e_IIs, e_BBs, e_LLs, e_PPs, e_IIn, e_BBn, e_LLn, e_PPn, e_IIk, e_BBk, e_LLk, e_PPk, e_Ks, e_Ns, e_Is, e_Bs, e_Ls, e_Ps, e_Kn, e_Nn, e_In, e_Bn, e_Ln, e_Pn, if_true, if_false, and_self, or_true, true_or, not_false_eq_true, Bool.false_eq_true]; done) | (simp (disch := omega) only [w.2, x1, c1, v, le, pk, xk, ck, ek, cm, e_KI, e_NI, e_BI, e_LI, e_PI, e_KB, e_NB, e_IB, e_LB, e_PB, e_KL, e_NL, e_IL, e_BL, e_PL, e_KP, e_NP, e_IP, e_BP, e_LP, e_IIs, e_BBs, e_LLs, e_PPs, e_IIn, e_BBn, e_LLn, e_PPn, e_IIk, e_BBk, e_LLk, e_PPk, e_Ks, e_Ns, e_Is, e_Bs, e_Ls, e_Ps, e_Kn, e_Nn, e_In, e_Bn, e_Ln, e_Pn, if_true, if_false, and_self, or_true, true_or, not_false_eq_true, Bool.false_eq_true]; decide) | decide) | ((with_reducible apply wp_neg); · first | (simp (disch := omega) only [w.2, x1, c1, v, le, pk, xk, ck, ek, cm, e_KI, e_NI, e_BI, e_LI, e_PI, e_KB, e_NB, e_IB, e_LB, e_PB, e_KL, e_NL, e_IL, e_BL, e_PL, e_KP, e_NP, e_IP, e_BP, e_LP, e_IIs, e_BBs, e_LLs, e_PPs, e_IIn, e_BBn, e_LLn, e_PPn, e_IIk, e_BBk, e_LLk, e_PPk, e_Ks, e_Ns, e_Is, e_Bs, e_Ls, e_Ps, e_Kn, e_Nn, e_In, e_Bn, e_Ln, e_Pn, if_true, if_false, and_self, or_true, true_or, not_false_eq_true, Bool.false_eq_true]; done) | (simp (disch := omega) only [w.2, x1, c1, v, le, pk, xk, ck, ek, cm, e_KI, e_NI, e_BI, e_LI, e_PI, e_KB, e_NB, e_IB, e_LB, e_PB, e_KL, e_NL, e_IL, e_BL, e_PL, e_KP, e_NP, e_IP, e_BP, e_LP, e_IIs, e_BBs, e_LLs, e_PPs, e_IIn, e_BBn, e_LLn, e_PPn, e_IIk, e_BBk, e_LLk, e_PPk, e_Ks, e_Ns, e_Is, e_Bs, e_Ls, e_Ps, e_Kn, e_Nn, e_In, e_Bn, e_Ln, e_Pn, if_true, if_false, and_self, or_true, true_or, not_false_eq_true, Bool.false_eq_true]; decide) | decide)))
      exact wp_some.mpr ⟨by rw [eq], rfl⟩
  · obtain ⟨k, hk, z1, z2⟩ := hp q (by omega)
    have v : y_I G 3170 ((mh e + q) % 131072) = nI (k + 1) := z1
    have le : ¬ nI (k + 1) ≤ (0 : Int32) := nI_ge (a := 0) (by omega) (by omega)
    have pk : nI (k + 1) - 1 = nI k := nI_pred k
    have xk := i_ix (show k < 66000 by omega) (by decide)
    have ck := i_cl (show k < 2 ^ 31 by omega)
    have ek := (hE k hk).1
    have cm : (lg_cmp (lg (E k)) (lg e) = 0) = False := by
      rw [lg_c (hE k hk).2 he]
      exact eq_false z2
    have ih := IH (q + 1) (by omega) (by omega)
    rw [← nx] at ih
    (repeat (first | with_reducible apply wp_jn | ((with_reducible apply wp_be); · first | (simp (disch := omega) only [w.2, x1, c1, v, le, pk, xk, ck, ek, cm, e_KI, e_NI, e_BI, e_LI, e_PI, e_KB, e_NB, e_IB, e_LB, e_PB, e_KL, e_NL, e_IL, e_BL, e_PL, e_KP, e_NP, e_IP, e_BP, e_LP, e_IIs, e_BBs, e_LLs, e_PPs, e_IIn, e_BBn, e_LLn, e_PPn, e_IIk, e_BBk, e_LLk, e_PPk, e_Ks, e_Ns, e_Is, e_Bs, e_Ls, e_Ps, e_Kn, e_Nn, e_In, e_Bn, e_Ln, e_Pn, if_true, if_false, and_self, or_true, true_or, not_false_eq_true, Bool.false_eq_true]; exact rfl) | exact rfl) | ((with_reducible apply wp_ce); · first | (simp (disch := omega) only [w.2, x1, c1, v, le, pk, xk, ck, ek, cm, e_KI, e_NI, e_BI, e_LI, e_PI, e_KB, e_NB, e_IB, e_LB, e_PB, e_KL, e_NL, e_IL, e_BL, e_PL, e_KP, e_NP, e_IP, e_BP, e_LP, e_IIs, e_BBs, e_LLs, e_PPs, e_IIn, e_BBn, e_LLn, e_PPn, e_IIk, e_BBk, e_LLk, e_PPk, e_Ks, e_Ns, e_Is, e_Bs, e_Ls, e_Ps, e_Kn, e_Nn, e_In, e_Bn, e_Ln, e_Pn, if_true, if_false, and_self, or_true, true_or, not_false_eq_true, Bool.false_eq_true]; exact rfl) | exact rfl) | ((with_reducible apply wp_g); · first | (simp (disch := omega) only [w.2, x1, c1, v, le, pk, xk, ck, ek, cm, e_KI, e_NI, e_BI, e_LI, e_PI, e_KB, e_NB, e_IB, e_LB, e_PB, e_KL, e_NL, e_IL, e_BL, e_PL, e_KP, e_NP, e_IP, e_BP, e_LP, e_IIs, e_BBs, e_LLs, e_PPs, e_IIn, e_BBn, e_LLn, e_PPn, e_IIk, e_BBk, e_LLk, e_PPk, e_Ks, e_Ns, e_Is, e_Bs, e_Ls, e_Ps, e_Kn, e_Nn, e_In, e_Bn, e_Ln, e_Pn, if_true, if_false, and_self, or_true, true_or, not_false_eq_true, Bool.false_eq_true]; done) | (simp (disch := omega) only [w.2, x1, c1, v, le, pk, xk, ck, ek, cm, e_KI, e_NI, e_BI, e_LI, e_PI, e_KB, e_NB, e_IB, e_LB, e_PB, e_KL, e_NL, e_IL, e_BL, e_PL, e_KP, e_NP, e_IP, e_BP, e_LP, e_IIs, e_BBs, e_LLs, e_PPs, e_IIn, e_BBn, e_LLn, e_PPn, e_IIk, e_BBk, e_LLk, e_PPk, e_Ks, e_Ns, e_Is, e_Bs, e_Ls, e_Ps, e_Kn, e_Nn, e_In, e_Bn, e_Ln, e_Pn, if_true, if_false, and_self, or_true, true_or, not_false_eq_true, Bool.false_eq_true]; decide) | decide) | ((with_reducible apply wp_pos); · first | (simp (disch := omega) only [w.2, x1, c1, v, le, pk, xk, ck, ek, cm, e_KI, e_NI, e_BI, e_LI, e_PI, e_KB, e_NB, e_IB, e_LB, e_PB, e_KL, e_NL, e_IL, e_BL, e_PL, e_KP, e_NP, e_IP, e_BP, e_LP, e_IIs, e_BBs, e_LLs, e_PPs, e_IIn, e_BBn, e_LLn, e_PPn, e_IIk, e_BBk, e_LLk, e_PPk, e_Ks, e_Ns, e_Is, e_Bs, e_Ls, e_Ps, e_Kn, e_Nn, e_In, e_Bn, e_Ln, e_Pn, if_true, if_false, and_self, or_true, true_or, not_false_eq_true, Bool.false_eq_true]; done) | (simp (disch := omega) only [w.2, x1, c1, v, le, pk, xk, ck, ek, cm, e_KI, e_NI, e_BI, e_LI, e_PI, e_KB, e_NB, e_IB, e_LB, e_PB, e_KL, e_NL, e_IL, e_BL, e_PL, e_KP, e_NP, e_IP, e_BP, e_LP, e_IIs, e_BBs, e_LLs, e_PPs, e_IIn, e_BBn, e_LLn, e_PPn, e_IIk, e_BBk, e_LLk, e_PPk, e_Ks, e_Ns, e_Is, e_Bs, e_Ls, e_Ps, e_Kn, e_Nn, e_In, e_Bn, e_Ln, e_Pn, if_true, if_false, and_self, or_true, true_or, not_false_eq_true, Bool.false_eq_true]; decide) | decide) | ((with_reducible apply wp_neg); · first | (simp (disch := omega) only [w.2, x1, c1, v, le, pk, xk, ck, ek, cm, e_KI, e_NI, e_BI, e_LI, e_PI, e_KB, e_NB, e_IB, e_LB, e_PB, e_KL, e_NL, e_IL, e_BL, e_PL, e_KP, e_NP, e_IP, e_BP, e_LP, e_IIs, e_BBs, e_LLs, e_PPs, e_IIn, e_BBn, e_LLn, e_PPn, e_IIk, e_BBk, e_LLk, e_PPk, e_Ks, e_Ns, e_Is, e_Bs, e_Ls, e_Ps, e_Kn, e_Nn, e_In, e_Bn, e_Ln, e_Pn, if_true, if_false, and_self, or_true, true_or, not_false_eq_true, Bool.false_eq_true]; done) | (simp (disch := omega) only [w.2, x1, c1, v, le, pk, xk, ck, ek, cm, e_KI, e_NI, e_BI, e_LI, e_PI, e_KB, e_NB, e_IB, e_LB, e_PB, e_KL, e_NL, e_IL, e_BL, e_PL, e_KP, e_NP, e_IP, e_BP, e_LP, e_IIs, e_BBs, e_LLs, e_PPs, e_IIn, e_BBn, e_LLn, e_PPn, e_IIk, e_BBk, e_LLk, e_PPk, e_Ks, e_Ns, e_Is, e_Bs, e_Ls, e_Ps, e_Kn, e_Nn, e_In, e_Bn, e_Ln, e_Pn, if_true, if_false, and_self, or_true, true_or, not_false_eq_true, Bool.false_eq_true]; decide) | decide)))
    exact ih
end LSL
