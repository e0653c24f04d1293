/-! CALLS: class, then model: the same answer, and side by side again -/
def Call {α : Type} (c : Option (α × y_H)) (m : y_H → Option (α × y_H)) (t e : Nat) : Prop := wp c fun r h1 => wp (m h1) fun r2 h2 => r = r2 ∧ Rel h2 (t + 1) e
theorem Rel.up {h : y_H} {t e : Nat} (R : Rel h t e) : Rel h (t + 1) e := by
  obtain ⟨N, C, S, A, a1, a2, a3, a4, a5, a6, a7, ⟨b1, ⟨T, b2, b3⟩, b4⟩, a9⟩ := R
  exact ⟨N, C, S, A, a1, a2, a3, a4, a5, a6, a7, ⟨b1, ⟨T, by omega, b3⟩, b4⟩, a9⟩
theorem Call.ro {α : Type} {h : y_H} {c : Option (α × y_H)} {m : y_H → Option (α × y_H)} {t e : Nat} (R : Rel h t e) {r : α} (h1 : c = some (r, h)) (h2 : m h = some (r, h)) : Call c m t e := ⟨r, h, h1, r, h, h2, rfl, R.up⟩
theorem Call.wr {α : Type} {h1 h2 : y_H} {c : Option (α × y_H)} {m : y_H → Option (α × y_H)} {t e : Nat} {r : α} (e1 : c = some (r, h1)) (e2 : m h1 = some (r, h2)) (R : Rel h2 (t + 1) e) : Call c m t e := ⟨r, h1, e1, r, h2, e2, rfl, R⟩
theorem Call.rx {α : Type} {h : y_H} {c : Option (α × y_H)} {m : y_H → Option (α × y_H)} {t e : Nat} (R : Rel h t e) (q : ∃ r, c = some (r, h) ∧ m h = some (r, h)) : Call c m t e := by
  obtain ⟨r, q1, q2⟩ := q
  exact Call.ro R q1 q2
section CA
variable {h : y_H} {t e : Nat}
theorem k_status (R : Rel h t e) : Call (f_X11_status 10 h) (f_X12_status 11) t e := by
  obtain ⟨N, C, S, A, w, rT, rM, -⟩ := id R
  exact Call.ro R (r := y_I h 10 6) (by simp only [f_X11_status, w.1, if_true, and_self, e_cl, e_bd, e_jn]) (by simp only [f_X12_status, w.2, rM.1, if_true, and_self, e_cl, e_bd, e_jn])
theorem k_found (R : Rel h t e) (i : Int32) : Call (f_X11_found 10 i h) (f_X12_found 11 i) t e := by
  obtain ⟨N, C, S, A, w, rT, rM, -⟩ := id R
  rcases i_rng (lo := 1) (hi := 7) 1 7 rfl rfl (by decide) i with ⟨n, h1, h7, rfl, hd⟩ | ⟨hd, -⟩
  · have hx := i_ix (show n < 8 by omega) (by decide)
    have hcl := i_cl (show n < 2 ^ 31 by omega)
    exact Call.ro R (r := y_I h 36 n) (by simp only [f_X11_found, c_isWithin, w.1, hd, hx, hcl, if_true, and_self, e_cl, e_bd, e_jn]) (by simp only [f_X12_found, m_in, w.2, hd, hx, hcl, rM.2.1, if_true, and_self, e_cl, e_bd, e_jn])
  · exact Call.ro R (r := -1) (by simp only [f_X11_found, c_isWithin, w.1, hd, if_true, and_self, e_cl, e_bd, e_jn, Bool.false_eq_true, if_false]) (by simp only [f_X12_found, m_in, w.2, hd, if_true, and_self, e_cl, e_bd, e_jn, Bool.false_eq_true, if_false])
theorem k_trace (R : Rel h t e) (i : Int32) : Call (f_X11_trace 10 i h) (f_X12_trace 11 i) t e := by
  obtain ⟨N, C, S, A, w, ⟨t1, t2, k, hk, t3⟩, rM, -⟩ := id R
  have t4 : y_I h 16 1 = nI k := t2.trans t3
  rcases i_cnt i k (by omega) with ⟨n, hn, rfl, hd⟩ | ⟨hd, -⟩
  · have hx := i_ix (show n < 100 by omega) (by decide)
    have hcl := i_cl (show n < 2 ^ 31 by omega)
    exact Call.ro R (r := y_I h 40 n) (by simp only [f_X11_trace, f_X9_markAt, c_isWithin, w.1, t4, hd, hx, hcl, if_true, and_self, e_cl, e_bd, e_jn]) (by simp only [f_X12_trace, m_in, w.2, t3, hd, hx, hcl, t1, if_true, and_self, e_cl, e_bd, e_jn])
  · exact Call.ro R (r := -9) (by simp only [f_X11_trace, f_X9_markAt, c_isWithin, w.1, t4, hd, if_true, and_self, e_cl, e_bd, e_jn, Bool.false_eq_true, if_false]) (by simp only [f_X12_trace, m_in, w.2, t3, hd, if_true, and_self, e_cl, e_bd, e_jn, Bool.false_eq_true, if_false])
theorem k_wind (R : Rel h t e) (n : Int32) : Call (f_X11_wind 10 n h) (f_X12_wind 11 n) t e := by
  obtain ⟨N, C, S, A, w, rT, rM, rB, rC, rS, rV, rL, rJ, rP, rH, rD, rQ, rK⟩ := id R
  rcases i_rng (lo := 0) (hi := 60) 0 60 rfl rfl (by decide) n with ⟨k, -, hk, rfl, hd⟩ | ⟨hd, -⟩
  · refine Call.wr (r := y_I h 12 9) (h1 := s_I h 12 9 (nI k)) (h2 := s_I (s_I h 12 9 (nI k)) 11 33 (nI k)) (by simp only [f_X11_wind, c_isWithin, w.1, hd, if_true, and_self, e_cl, e_bd, e_jn]) (by simp (disch := omega) only [f_X12_wind, m_in, w.2, hd, rM.2.2.1, if_true, and_self, e_cl, e_bd, e_jn, e_KI, e_NI, e_BI, e_LI, e_PI, e_KB, e_NB, e_IB, e_LB, e_PB, e_KL, e_NL, e_IL, e_BL, e_PL, e_KP, e_NP, e_IP, e_BP, e_LP, e_IIs, e_BBs, e_LLs, e_PPs, e_IIn, e_BBn, e_LLn, e_PPn, e_IIk, e_BBk, e_LLk, e_PPk]) (Rel.up ⟨N, C, S, A, (Sh_sI (Sh_sI w)), (RT_sI (by omega) (RT_sI (by omega) rT)), ?_, (RB_sI (by omega) (RB_sI (by omega) rB)), (RC_sI (by omega) (RC_sI (by omega) rC)), (RS_sI (by omega) (RS_sI (by omega) rS)), (RV_sI (by omega) (RV_sI (by omega) rV)), (RLn_sI (by omega) (RLn_sI (by omega) rL)), (RJ_sI (by omega) (RJ_sI (by omega) rJ)), (RP_sI (by omega) (RP_sI (by omega) rP)), (RH_sI (by omega) (RH_sI (by omega) rH)), (RD_sI (by omega) (RD_sI (by omega) rD)), (RQ_sI (RQ_sI rQ)), (RK_sI (by omega) (RK_sI (by omega) rK))⟩)
    simp (disch := omega) only [RM, e_KI, e_NI, e_BI, e_LI, e_PI, e_KB, e_NB, e_IB, e_LB, e_PB, e_KL, e_NL, e_IL, e_BL, e_PL, e_KP, e_NP, e_IP, e_BP, e_LP, e_IIs, e_BBs, e_LLs, e_PPs, e_IIn, e_BBn, e_LLn, e_PPn, e_IIk, e_BBk, e_LLk, e_PPk]
    obtain ⟨m1, m2, m3, m4⟩ := rM
    exact ⟨m1, m2, trivial, m4⟩
  · exact Call.ro R (r := -2) (by simp only [f_X11_wind, c_isWithin, hd, if_true, and_self, e_cl, e_bd, e_jn, Bool.false_eq_true, if_false]) (by simp only [f_X12_wind, m_in, hd, if_true, and_self, e_cl, e_bd, e_jn, Bool.false_eq_true, if_false])
theorem k_number (R : Rel h t e) : Call (f_X11_number 10 h) (f_X12_number 11) t e := by
  obtain ⟨N, C, S, A, w, rT, rM, rB, rC, rS, rV, rL, rJ, rP, rH, rD, rQ, rK⟩ := id R
  exact Call.ro R (r := y_L h 15 9) (by simp only [f_X11_number, w.1, if_true, and_self, e_cl, e_bd, e_jn]) (by simp only [f_X12_number, w.2, rK.2.2.2.2.2.2.1, if_true, and_self, e_cl, e_bd, e_jn])
theorem k_where (R : Rel h t e) (i q9 : Int32) : Call (f_X11_where 10 i q9 h) (f_X12_where 11 i q9) t e := by
  obtain ⟨N, C, S, A, w, rT, rM, rB, -⟩ := id R
  rcases c_boxAt w rB i with ⟨n, hn, rfl, e1, e2⟩ | ⟨-, e1, e2⟩
  · have hN := rB.1
    have hb := (rB.2.2.2.1 n hn).1
    have hx := i_ix (show n < 80 by omega) (by decide)
    have hcl := i_cl (show n < 2 ^ 31 by omega)
    have hne : ¬ 64 * n + 20 = 0 := by omega
    unfold bx at hb
    exact Call.rx R ⟨_, (by simp only [f_X11_where, f_X2_known, f_X2_isWrong, f_X11_asBit, w.1, e1, hb, hne, if_false, if_true, and_self, e_cl, e_bd, e_jn, e_ite]; exact rfl), (by simp only [f_X12_where, f_X12_known, f_X12_isWrong, w.2, e2, hx, hcl, if_true, and_self, e_cl, e_bd, e_jn, e_ite])⟩
  · exact Call.ro R (r := -1) (by simp only [f_X11_where, w.1, e1, if_true, and_self, e_cl, e_bd, e_jn]) (by simp only [f_X12_where, w.2, e2, if_true, and_self, e_cl, e_bd, e_jn, Bool.false_eq_true, if_false])
theorem held_cases {N C S A : Nat} (rH : RH h N C S A) {c : Nat} (hc : c < C) : y_I h 1698 c = -1 ∨ ∃ n, n < N ∧ y_I h 1698 c = nI n ∧ y_I h 418 n = 2 ∧ y_I h 482 n = nI c := (rH.1 0 (Nat.zero_le _)).2.2.1 c hc
theorem k_look (R : Rel h t e) (i q9 : Int32) : Call (f_X11_look 10 i q9 h) (f_X12_look 11 i q9) t e := by
  obtain ⟨N, C, S, A, w, rT, rM, rB, rC, rS, rV, rL, rJ, rP, rH, rD, rQ, rK⟩ := id R
  rcases c_craneAt w rC i with ⟨c, hc, rfl, e1, e2⟩ | ⟨-, e1, e2⟩
  · have hN := rC.1
    have hb := (rC.2.2.2.1 c hc).1
    have hx := i_ix (show c < 12 by omega) (by decide)
    have hcl := i_cl (show c < 2 ^ 31 by omega)
    have hne : ¬ 64 * c + 21 = 0 := by omega
    unfold cx at hb
    rcases held_cases rH hc with hh | ⟨n, hn, hh, -⟩
    · have q : ¬ (0 : Int32) ≤ -1 := by decide
      exact Call.rx R ⟨_, (by simp only [f_X11_look, f_X11_numberOf, f_X11_asBit, w.1, e1, hb, hh, pB_1, hne, if_false, if_true, and_self, e_cl, e_bd, e_jn, e_ite]; exact rfl), (by simp only [f_X12_look, w.2, e2, hx, hcl, hh, q, if_false, if_true, and_self, e_cl, e_bd, e_jn, e_ite])⟩
    · have hN := rB.1
      have hb2 := (rB.2.2.2.1 n hn).1
      have hne2 : ¬ 64 * n + 20 = 0 := by omega
      have q : (0 : Int32) ≤ nI n := nI_pos' (by omega)
      unfold bx at hb2
      exact Call.rx R ⟨_, (by simp only [f_X11_look, f_X11_numberOf, f_X11_asBit, w.1, e1, hb, hh, pB_n (show n < 2 ^ 31 by omega), hb2, hne, hne2, if_false, if_true, and_self, e_cl, e_bd, e_jn, e_ite]; exact rfl), (by simp only [f_X12_look, w.2, e2, hx, hcl, hh, q, if_true, and_self, e_cl, e_bd, e_jn, e_ite])⟩
  · exact Call.ro R (r := -1) (by simp only [f_X11_look, w.1, e1, if_true, and_self, e_cl, e_bd, e_jn]) (by simp only [f_X12_look, w.2, e2, if_true, and_self, e_cl, e_bd, e_jn, Bool.false_eq_true, if_false])
theorem k_ran (R : Rel h t e) (i : Int32) : Call (f_X11_ran 10 i h) (f_X12_ran 11 i) t e := by
  obtain ⟨N, C, S, A, w, rT, rM, rB, rC, rS, rV, rL, rJ, rP, rH, rD, rQ, rK⟩ := id R
  obtain ⟨k1, k2, k3, k4, k5, k6, k7, k8, k9⟩ := rK
  rcases i_rng (lo := 0) (hi := 3) 0 3 rfl rfl (by decide) i with ⟨n, -, hn, rfl, hd⟩ | ⟨hd, -⟩
  · cases hb : y_B h 11 79 with
    | true =>
      obtain ⟨q1, q2, q3, q4⟩ := k8 hb
      exact Call.rx R ⟨_, (by simp only [f_X11_ran, f_X8_told, c_isWithin, w.1, hd, k6, hb, q1, q2, q3, q4, if_true, and_self, e_cl, e_bd, e_jn, e_ite]; exact rfl), (by simp only [f_X12_ran, m_in, w.2, hd, hb, if_true, and_self, e_cl, e_bd, e_jn, e_ite])⟩
    | false => exact Call.ro R (r := -9) (by simp only [f_X11_ran, f_X8_told, c_isWithin, w.1, hd, k6, hb, if_true, and_self, e_cl, e_bd, e_jn, Bool.false_eq_true, if_false]) (by simp only [f_X12_ran, m_in, w.2, hd, hb, if_true, and_self, e_cl, e_bd, e_jn, Bool.false_eq_true, if_false])
  · exact Call.ro R (r := -2) (by simp only [f_X11_ran, c_isWithin, hd, if_true, and_self, e_cl, e_bd, e_jn, Bool.false_eq_true, if_false]) (by simp only [f_X12_ran, m_in, hd, if_true, and_self, e_cl, e_bd, e_jn, Bool.false_eq_true, if_false])
theorem k_broke (R : Rel h t e) (i : Int32) : Call (f_X11_broke 10 i h) (f_X12_broke 11 i) t e := by
  obtain ⟨N, C, S, A, w, rT, ⟨-, -, -, -, -, -, -, m8⟩, -⟩ := id R
  rcases i_rng (lo := 0) (hi := 2) 0 2 rfl rfl (by decide) i with ⟨n, -, hn, rfl, hd⟩ | ⟨hd, -⟩
  · have hx := i_ix (show n < 3 by omega) (by decide)
    have hcl := i_cl (show n < 2 ^ 31 by omega)
    by_cases hb : y_I h 11 52 = -9
    · rw [if_pos hb] at m8
      exact Call.ro R (r := -9) (by simp only [f_X11_broke, c_isWithin, w.1, hd, hx, hcl, m8 n (by omega), if_true, and_self, e_cl, e_bd, e_jn]) (by simp only [f_X12_broke, m_in, w.2, hd, hb, if_true, and_self, e_cl, e_bd, e_jn])
    · rw [if_neg hb] at m8
      have hn3 : n = 0 ∨ n = 1 ∨ n = 2 := by omega
      have z0 : nI 0 = 0 := rfl
      have z1 : nI 1 = 1 := rfl
      have n1 : ¬ (nI 1 = 0) := by decide
      have n2 : ¬ (nI 2 = 0) := by decide
      have n3 : ¬ (nI 2 = 1) := by decide
      refine Call.ro R (r := y_I h 100 n) (by simp only [f_X11_broke, c_isWithin, w.1, hd, hx, hcl, if_true, and_self, e_cl, e_bd, e_jn]) ?_
      rcases hn3 with rfl | rfl | rfl
      · simp only [f_X12_broke, m_in, w.2, hd, hb, m8.1, if_true, and_self, e_cl, e_bd, e_jn, if_false, if_pos z0]
      · simp only [f_X12_broke, m_in, w.2, hd, hb, m8.2.1, if_true, and_self, e_cl, e_bd, e_jn, if_false, if_pos z1, if_neg n1]
      · simp only [f_X12_broke, m_in, w.2, hd, hb, m8.2.2, if_true, and_self, e_cl, e_bd, e_jn, if_false, if_neg n2, if_neg n3]
  · exact Call.ro R (r := -2) (by simp only [f_X11_broke, c_isWithin, hd, if_true, and_self, e_cl, e_bd, e_jn, Bool.false_eq_true, if_false]) (by simp only [f_X12_broke, m_in, hd, if_true, and_self, e_cl, e_bd, e_jn, Bool.false_eq_true, if_false])
theorem k_row (R : Rel h t e) (i q9 : Int32) : Call (f_X11_row 10 i q9 h) (f_X12_row 11 i q9) t e := by
  obtain ⟨N, C, S, A, w, rT, rM, rB, rC, rS, rV, rL, rJ, rP, rH, ⟨d1, d2, d3, L, c, hL, h16, h40, d4, d5, d6, d7⟩, rQ, rK⟩ := id R
  rcases i_cnt i L (by omega) with ⟨n, hn, rfl, hd⟩ | ⟨hd, -⟩
  · have hx := i_ix (show n < c by omega) (show c < 2 ^ 31 by omega)
    have hx2 := i_ix (show n < 4000 by omega) (by decide)
    have hcl := i_cl (show n < 2 ^ 31 by omega)
    have d8 : ∃ F T, rws h F T L c := by
      rcases d6 with ⟨-, q⟩ | ⟨-, q⟩
      · exact ⟨_, _, q⟩
      · exact ⟨_, _, q⟩
    obtain ⟨F, T, q1, q2, q3, q4, q5, q6, q7⟩ := d8
    exact Call.rx R ⟨_, (by simp only [f_X11_row, c_isWithin, w.1, hd, d4, q1, q2, q3, q4, q5, q6, hx, hcl, (q7 n hn).1, (q7 n hn).2, if_true, and_self, e_cl, e_bd, e_jn, e_ite]; exact rfl), (by simp only [f_X12_row, m_in, w.2, hd, d5, hx2, hcl, if_true, and_self, e_cl, e_bd, e_jn, e_ite])⟩
  · exact Call.ro R (r := -1) (by simp only [f_X11_row, c_isWithin, w.1, d4, hd, if_true, and_self, e_cl, e_bd, e_jn, Bool.false_eq_true, if_false]) (by simp only [f_X12_row, m_in, w.2, d5, hd, if_true, and_self, e_cl, e_bd, e_jn, Bool.false_eq_true, if_false])
theorem k_shelf (R : Rel h t e) (i j : Int32) : Call (f_X11_shelf 10 i j h) (f_X12_shelf 11 i j) t e := by
  obtain ⟨N, C, S, A, w, rT, rM, rB, rC, rS, rV, rL, rJ, rP, rH, rD, rQ, rK⟩ := id R
  obtain ⟨k1, k2, k3, k4, k5, k6, k7, k8, k9⟩ := rK
  rcases i_rng (lo := 0) (hi := 3) 0 3 rfl rfl (by decide) i with ⟨s, -, hs, rfl, hd⟩ | ⟨hd, -⟩
  · obtain ⟨l, c, g1, g2, g3, g4, g5, g6, g7, g8, g9, -⟩ := k9 s (by omega)
    have hx := i_ix (show s < 4 by omega) (by decide)
    have hcl := i_cl (show s < 2 ^ 31 by omega)
    rcases i_cnt j l (by omega) with ⟨n, hn, rfl, hd2⟩ | ⟨hd2, -⟩
    · have hx2 := i_ix (show n < c by omega) (show c < 2 ^ 31 by omega)
      have hcl2 := i_cl (show n < 2 ^ 31 by omega)
      have z : (128 : Int32) = nI 128 := rfl
      have hx3 := i_ix (show 128 * s + n < 512 by omega) (by decide)
      have hcl3 := i_cl (show 128 * s + n < 2 ^ 31 by omega)
      exact Call.rx R ⟨_, (by simp only [f_X11_shelf, f_X8_hasPlace, c_isWithin, w.1, hd, hx, hcl, g4, hd2, g6, g7, g8, hx2, hcl2, (g9 n hn).1, if_true, and_self, e_cl, e_bd, e_jn]; exact rfl), (by simp only [f_X12_shelf, f_X12_isShelf, m_in, w.2, hd, hx, hcl, g5, hd2, z, i_mul, i_add, hx3, hcl3, if_true, and_self, e_cl, e_bd, e_jn])⟩
    · exact Call.ro R (r := -1) (by simp only [f_X11_shelf, f_X8_hasPlace, c_isWithin, w.1, hd, hx, hcl, g4, hd2, if_true, and_self, e_cl, e_bd, e_jn, Bool.false_eq_true, if_false]) (by simp only [f_X12_shelf, f_X12_isShelf, m_in, w.2, hd, hx, hcl, g5, hd2, if_true, and_self, e_cl, e_bd, e_jn, Bool.false_eq_true, if_false])
  · exact Call.ro R (r := -1) (by simp only [f_X11_shelf, f_X8_hasPlace, c_isWithin, w.1, hd, if_true, and_self, e_cl, e_bd, e_jn, Bool.false_eq_true, if_false]) (by simp only [f_X12_shelf, f_X12_isShelf, m_in, w.2, hd, if_true, and_self, e_cl, e_bd, e_jn, Bool.false_eq_true, if_false])
end CA
