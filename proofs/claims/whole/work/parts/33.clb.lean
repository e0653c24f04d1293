section CB
variable {h : y_H} {t e : Nat}
theorem k_forget (R : Rel h t e) : Call (f_X11_forget 10 h) (f_X12_forget 11) t e := by
  obtain ⟨N, C, S, A, w, rT, rM, rB, rC, rS, rV, rL, rJ, rP, rH, rD, rQ, rK⟩ := id R
  obtain ⟨⟨W, v, d1, d2, d3, d4, d5⟩, dd⟩ := id rD
  refine Call.wr (r := y_I h 14 1) (h1 := s_I h 14 1 0) (h2 := s_I (s_I h 14 1 0) 11 55 0) (by simp only [f_X11_forget, f_X4_dropOrder, w.1, if_true, and_self, e_cl, e_bd, e_jn]) (by simp (disch := omega) only [f_X12_forget, w.2, d2, d3, if_true, and_self, e_cl, e_bd, e_jn, e_KI, e_NI, e_BI, e_LI, e_PI, e_KB, e_NB, e_IB, e_LB, e_PB, e_KL, e_NL, e_IL, e_BL, e_PL, e_KP, e_NP, e_IP, e_BP, e_LP, e_IIs, e_BBs, e_LLs, e_PPs, e_IIn, e_BBn, e_LLn, e_PPn, e_IIk, e_BBk, e_LLk, e_PPk]) (Rel.up ⟨N, C, S, A, (Sh_sI (Sh_sI w)), (RT_sI (by omega) (RT_sI (by omega) rT)), (RM_sI (by omega) (RM_sI (by omega) rM)), (RB_sI (by omega) (RB_sI (by omega) rB)), (RC_sI (by omega) (RC_sI (by omega) rC)), (RS_sI (by omega) (RS_sI (by omega) rS)), (RV_sI (by omega) (RV_sI (by omega) rV)), (RLn_sI (by omega) (RLn_sI (by omega) rL)), (RJ_sI (by omega) (RJ_sI (by omega) rJ)), (RP_sI (by omega) (RP_sI (by omega) rP)), (RH_sI (by omega) (RH_sI (by omega) rH)), ?_, (RQ_sI (RQ_sI rQ)), (RK_sI (by omega) (RK_sI (by omega) rK))⟩)
  simp (disch := omega) only [RD, rws, e_KI, e_NI, e_BI, e_LI, e_PI, e_KB, e_NB, e_IB, e_LB, e_PB, e_KL, e_NL, e_IL, e_BL, e_PL, e_KP, e_NP, e_IP, e_BP, e_LP, e_IIs, e_BBs, e_LLs, e_PPs, e_IIn, e_BBn, e_LLn, e_PPn, e_IIk, e_BBk, e_LLk, e_PPk]
  exact ⟨⟨0, v, by omega, by simp only [nI_0], by simp only [nI_0], fun i hi => absurd hi (by omega), fun i j hi => absurd hi (by omega)⟩, dd⟩
theorem k_alter (R : Rel h t e) (i f g : Int32) : Call (f_X11_alter 10 i f g h) (f_X12_alter 11 i f g) t e := by
  obtain ⟨N, C, S, A, w, rT, rM, rB, rC, rS, rV, rL, rJ, rP, rH, rD, rQ, rK⟩ := id R
  obtain ⟨d1, d2, d3, L, c, hL, h16, h40, d4, d5, d6, d7⟩ := id rD
  rcases i_cnt i L (by omega) with ⟨n, hn, rfl, hd⟩ | ⟨hd, -⟩
  · have hx := i_ix (show n < c by omega) (show c < 2 ^ 31 by omega)
    have hx2 := i_ix (show n < 4000 by omega) (by decide)
    have hcl := i_cl (show n < 2 ^ 31 by omega)
    have key : ∀ F T, (F = 102 ∧ T = 166 ∨ F % 64 = 45 ∧ T % 64 = 46) → rws h F T L c → (∀ h2, rws h2 F T L c → (c = 16 ∧ rws h2 102 166 L c ∨ 16 < c ∧ rws h2 (64 * c + 45) (64 * c + 46) L c)) → Call (f_X11_alter 10 (nI n) f g h) (f_X12_alter 11 (nI n) f g) t e := by
      intro F T hFT hr hback
      obtain ⟨q1, q2, q3, q4, q5, q6, q7⟩ := hr
      refine Call.wr (r := 1) (h1 := s_I (s_I h F n f) T n g) (h2 := s_I (s_I (s_I (s_I h F n f) T n g) 2850 n f) 2914 n g) (by simp only [f_X11_alter, c_isWithin, w.1, hd, d4, q1, q2, q3, q4, q5, q6, hx, hcl, if_true, and_self, e_cl, e_bd, e_jn, e_KI, e_NI, e_BI, e_LI, e_PI, e_KB, e_NB, e_IB, e_LB, e_PB, e_KL, e_NL, e_IL, e_BL, e_PL, e_KP, e_NP, e_IP, e_BP, e_LP]) (by simp (disch := omega) only [f_X12_alter, m_in, w.2, hd, d5, hx2, hcl, if_true, and_self, e_cl, e_bd, e_jn, e_KI, e_NI, e_BI, e_LI, e_PI, e_KB, e_NB, e_IB, e_LB, e_PB, e_KL, e_NL, e_IL, e_BL, e_PL, e_KP, e_NP, e_IP, e_BP, e_LP, e_IIs, e_BBs, e_LLs, e_PPs, e_IIn, e_BBn, e_LLn, e_PPn, e_IIk, e_BBk, e_LLk, e_PPk]) (Rel.up ⟨N, C, S, A, (Sh_sI (Sh_sI (Sh_sI (Sh_sI w)))), (RT_sI (by omega) (RT_sI (by omega) (RT_sI (by omega) (RT_sI (by omega) rT)))), (RM_sI (by omega) (RM_sI (by omega) (RM_sI (by omega) (RM_sI (by omega) rM)))), (RB_sI (by omega) (RB_sI (by omega) (RB_sI (by omega) (RB_sI (by omega) rB)))), (RC_sI (by omega) (RC_sI (by omega) (RC_sI (by omega) (RC_sI (by omega) rC)))), (RS_sI (by omega) (RS_sI (by omega) (RS_sI (by omega) (RS_sI (by omega) rS)))), (RV_sI (by omega) (RV_sI (by omega) (RV_sI (by omega) (RV_sI (by omega) rV)))), (RLn_sI (by omega) (RLn_sI (by omega) (RLn_sI (by omega) (RLn_sI (by omega) rL)))), (RJ_sI (by omega) (RJ_sI (by omega) (RJ_sI (by omega) (RJ_sI (by omega) rJ)))), (RP_sI (by omega) (RP_sI (by omega) (RP_sI (by omega) (RP_sI (by omega) rP)))), (RH_sI (by omega) (RH_sI (by omega) (RH_sI (by omega) (RH_sI (by omega) rH)))), ?_, (RQ_sI (RQ_sI (RQ_sI (RQ_sI rQ)))), (RK_sI (by omega) (RK_sI (by omega) (RK_sI (by omega) (RK_sI (by omega) rK))))⟩)
      have hr2 : rws (s_I (s_I (s_I (s_I h F n f) T n g) 2850 n f) 2914 n g) F T L c := by
        simp only [rws, e_KI, e_NI, e_BI, e_LI, e_PI, e_KB, e_NB, e_IB, e_LB, e_PB, e_KL, e_NL, e_IL, e_BL, e_PL, e_KP, e_NP, e_IP, e_BP, e_LP]
        refine ⟨q1, q2, q3, q4, q5, q6, fun j hj => ?_⟩
        by_cases e : j = n
        · subst e
          simp (disch := omega) only [e_KI, e_NI, e_BI, e_LI, e_PI, e_KB, e_NB, e_IB, e_LB, e_PB, e_KL, e_NL, e_IL, e_BL, e_PL, e_KP, e_NP, e_IP, e_BP, e_LP, e_IIs, e_BBs, e_LLs, e_PPs, e_IIn, e_BBn, e_LLn, e_PPn, e_IIk, e_BBk, e_LLk, e_PPk]
          exact ⟨trivial, trivial⟩
        · simp (disch := omega) only [e_KI, e_NI, e_BI, e_LI, e_PI, e_KB, e_NB, e_IB, e_LB, e_PB, e_KL, e_NL, e_IL, e_BL, e_PL, e_KP, e_NP, e_IP, e_BP, e_LP, e_IIs, e_BBs, e_LLs, e_PPs, e_IIn, e_BBn, e_LLn, e_PPn, e_IIk, e_BBk, e_LLk, e_PPk]
          exact q7 j hj
      have hb := hback _ hr2
      simp (disch := omega) only [RD, e_KI, e_NI, e_BI, e_LI, e_PI, e_KB, e_NB, e_IB, e_LB, e_PB, e_KL, e_NL, e_IL, e_BL, e_PL, e_KP, e_NP, e_IP, e_BP, e_LP, e_IIs, e_BBs, e_LLs, e_PPs, e_IIn, e_BBn, e_LLn, e_PPn, e_IIk, e_BBk, e_LLk, e_PPk]
      exact ⟨d1, d2, d3, L, c, hL, h16, h40, d4, d5, hb, d7⟩
    rcases d6 with ⟨q0, q⟩ | ⟨q0, q⟩
    · exact key 102 166 (Or.inl ⟨rfl, rfl⟩) q (fun h2 z => Or.inl ⟨q0, z⟩)
    · exact key _ _ (Or.inr ⟨by omega, by omega⟩) q (fun h2 z => Or.inr ⟨q0, z⟩)
  · exact Call.ro R (r := -1) (by simp only [f_X11_alter, c_isWithin, w.1, d4, hd, if_true, and_self, e_cl, e_bd, e_jn, Bool.false_eq_true, if_false]) (by simp only [f_X12_alter, m_in, w.2, d5, hd, if_true, and_self, e_cl, e_bd, e_jn, Bool.false_eq_true, if_false])
theorem k_apart (R : Rel h t e) (i j n : Int32) : Call (f_X11_apart 10 i j n h) (f_X12_apart 11 i j n) t e := by
  obtain ⟨N, C, S, A, w, rT, rM, rB, rC, rS, rV, rL, rJ, rP, rH, rD, rQ, rK⟩ := id R
  obtain ⟨m1, m2, m3, m4, ⟨m5, m5s⟩, m6⟩ := id rM
  rcases i_rng (lo := 1) (hi := 4) 1 4 rfl rfl (by decide) i with ⟨a, ha, ha2, rfl, hd1⟩ | ⟨hd1, -⟩
  · rcases i_rng (lo := 1) (hi := 4) 1 4 rfl rfl (by decide) j with ⟨b, hb, hb2, rfl, hd2⟩ | ⟨hd2, -⟩
    · rcases i_rng (lo := 0) (hi := 6) 0 6 rfl rfl (by decide) n with ⟨k, -, hk, rfl, hd3⟩ | ⟨hd3, -⟩
      · have x1 := i_ix (show 5 * a + b < 25 by omega) (by decide)
        have x2 := i_ix (show 5 * b + a < 25 by omega) (by decide)
        have c1 := i_cl (show 5 * a + b < 2 ^ 31 by omega)
        have c2 := i_cl (show 5 * b + a < 2 ^ 31 by omega)
        have n10 : ¬ (1 : Int32) = 0 := by decide
        refine Call.wr (r := y_I h 355 (5 * a + b)) (h1 := s_I (s_I h 355 (5 * a + b) (nI k)) 355 (5 * b + a) (nI k)) (h2 := s_I (s_I (s_I (s_I h 355 (5 * a + b) (nI k)) 355 (5 * b + a) (nI k)) 1442 (5 * a + b) (nI k)) 1442 (5 * b + a) (nI k)) (by simp only [f_X11_apart, f_X10_tellApart, f_X10_apartOf, c_isWithin, w.1, hd1, hd2, hd3, i_r5, i_add, x1, x2, c1, c2, n10, if_false, if_true, and_self, e_cl, e_bd, e_jn, e_KI, e_NI, e_BI, e_LI, e_PI, e_KB, e_NB, e_IB, e_LB, e_PB, e_KL, e_NL, e_IL, e_BL, e_PL, e_KP, e_NP, e_IP, e_BP, e_LP]) (by simp (disch := omega) only [f_X12_apart, m_in, w.2, hd1, hd2, hd3, i_m5, i_add, x1, x2, c1, c2, m5, if_true, and_self, e_cl, e_bd, e_jn, e_KI, e_NI, e_BI, e_LI, e_PI, e_KB, e_NB, e_IB, e_LB, e_PB, e_KL, e_NL, e_IL, e_BL, e_PL, e_KP, e_NP, e_IP, e_BP, e_LP, e_IIs, e_BBs, e_LLs, e_PPs, e_IIn, e_BBn, e_LLn, e_PPn, e_IIk, e_BBk, e_LLk, e_PPk]) (Rel.up ⟨N, C, S, A, (Sh_sI (Sh_sI (Sh_sI (Sh_sI w)))), (RT_sI (by omega) (RT_sI (by omega) (RT_sI (by omega) (RT_sI (by omega) rT)))), ?_, (RB_sI (by omega) (RB_sI (by omega) (RB_sI (by omega) (RB_sI (by omega) rB)))), (RC_sI (by omega) (RC_sI (by omega) (RC_sI (by omega) (RC_sI (by omega) rC)))), (RS_sI (by omega) (RS_sI (by omega) (RS_sI (by omega) (RS_sI (by omega) rS)))), (RV_sI (by omega) (RV_sI (by omega) (RV_sI (by omega) (RV_sI (by omega) rV)))), (RLn_sI (by omega) (RLn_sI (by omega) (RLn_sI (by omega) (RLn_sI (by omega) rL)))), (RJ_sI (by omega) (RJ_sI (by omega) (RJ_sI (by omega) (RJ_sI (by omega) rJ)))), (RP_sI (by omega) (RP_sI (by omega) (RP_sI (by omega) (RP_sI (by omega) rP)))), (RH_sI (by omega) (RH_sI (by omega) (RH_sI (by omega) (RH_sI (by omega) rH)))), (RD_sI (by omega) (RD_sI (by omega) (RD_sI (by omega) (RD_sI (by omega) rD)))), (RQ_sI (RQ_sI (RQ_sI (RQ_sI rQ)))), (RK_sI (by omega) (RK_sI (by omega) (RK_sI (by omega) (RK_sI (by omega) rK))))⟩)
        have f1 : y_I (s_I (s_I (s_I (s_I h 355 (5 * a + b) (nI k)) 355 (5 * b + a) (nI k)) 1442 (5 * a + b) (nI k)) 1442 (5 * b + a) (nI k)) 355 = y_I (s_I (s_I (s_I (s_I h 355 (5 * a + b) (nI k)) 355 (5 * b + a) (nI k)) 1442 (5 * a + b) (nI k)) 1442 (5 * b + a) (nI k)) 1442 := by
          simp (disch := omega) only [e_IIn, e_IIf, m5]
        unfold RM
        rw [f1]
        have f2 : ∀ a' b', a' < 5 → b' < 5 → y_I (s_I (s_I (s_I (s_I h 355 (5 * a + b) (nI k)) 355 (5 * b + a) (nI k)) 1442 (5 * a + b) (nI k)) 1442 (5 * b + a) (nI k)) 1442 (5 * a' + b') = y_I (s_I (s_I (s_I (s_I h 355 (5 * a + b) (nI k)) 355 (5 * b + a) (nI k)) 1442 (5 * a + b) (nI k)) 1442 (5 * b + a) (nI k)) 1442 (5 * b' + a') := fun a' b' ha' hb' => by
          by_cases q : a' = a ∧ b' = b ∨ a' = b ∧ b' = a
          · have z : ∀ x, x = 5 * a + b ∨ x = 5 * b + a → y_I (s_I (s_I (s_I (s_I h 355 (5 * a + b) (nI k)) 355 (5 * b + a) (nI k)) 1442 (5 * a + b) (nI k)) 1442 (5 * b + a) (nI k)) 1442 x = nI k := fun x hx => by
              by_cases e1 : x = 5 * b + a
              · rw [e1, e_IIs]
              · rw [e_IIk e1, show x = 5 * a + b by omega, e_IIs]
            rw [z _ (by omega), z _ (by omega)]
          · have z : ∀ x, x ≠ 5 * a + b → x ≠ 5 * b + a → y_I (s_I (s_I (s_I (s_I h 355 (5 * a + b) (nI k)) 355 (5 * b + a) (nI k)) 1442 (5 * a + b) (nI k)) 1442 (5 * b + a) (nI k)) 1442 x = y_I h 1442 x := fun x h1 h2 => by
              rw [e_IIk h2, e_IIk h1, e_IIn (by omega), e_IIn (by omega)]
            rw [z _ (by omega) (by omega), z _ (by omega) (by omega)]
            exact m5s a' b' ha' hb'
        refine ⟨?_, ?_, ?_, ?_, ⟨rfl, f2⟩, ?_⟩
        all_goals simp (disch := omega) only [e_KI, e_NI, e_BI, e_LI, e_PI, e_KB, e_NB, e_IB, e_LB, e_PB, e_KL, e_NL, e_IL, e_BL, e_PL, e_KP, e_NP, e_IP, e_BP, e_LP, e_IIn]
        · exact m1
        · exact m2
        · exact m3
        · exact m4
        · exact m6
      · exact Call.ro R (r := -2) (by simp only [f_X11_apart, c_isWithin, hd1, hd2, hd3, if_true, and_self, e_cl, e_bd, e_jn, Bool.false_eq_true, if_false]) (by simp only [f_X12_apart, m_in, hd1, hd2, hd3, if_true, and_self, e_cl, e_bd, e_jn, Bool.false_eq_true, if_false])
    · exact Call.ro R (r := -2) (by simp only [f_X11_apart, c_isWithin, hd1, hd2, if_true, and_self, e_cl, e_bd, e_jn, Bool.false_eq_true, if_false]) (by simp only [f_X12_apart, m_in, hd1, hd2, if_true, and_self, e_cl, e_bd, e_jn, Bool.false_eq_true, if_false])
  · exact Call.ro R (r := -2) (by simp only [f_X11_apart, c_isWithin, hd1, if_true, and_self, e_cl, e_bd, e_jn, Bool.false_eq_true, if_false]) (by simp only [f_X12_apart, m_in, hd1, if_true, and_self, e_cl, e_bd, e_jn, Bool.false_eq_true, if_false])
theorem k_task (R : Rel h t e) : Call (f_X11_task 10 h) (f_X12_task 11) t e := by
  obtain ⟨N, C, S, A, w, rT, rM, rB, rC, rS, rV, rL, rJ, rP, rH, rD, rQ, rK⟩ := id R
  obtain ⟨⟨m, k1, k2, k3, k4⟩, kk⟩ := id rK
  by_cases hm : m = 6
  · subst hm
    have q1 : ¬ nI 6 < 6 := by decide
    have q2 : nI 6 = 6 := by decide
    exact Call.ro R (r := -4) (by simp only [f_X11_task, f_X8_nextTask, w.1, k2, q1, if_false, if_true, and_self, e_cl, e_bd, e_jn]) (by simp only [f_X12_task, w.2, k3, q2, if_true, and_self, e_cl, e_bd, e_jn])
  · have q1 : nI m < 6 := (nI_ltI (a := m) (b := 6) (by omega) (by decide)).mpr (by omega)
    have q2 : ¬ nI m = 6 := fun q => hm ((nI_eq (a := m) (b := 6) (by omega) (by decide)).mp q)
    have hx := i_ix (show m < 6 by omega) (by decide)
    have hcl := i_cl (show m < 2 ^ 31 by omega)
    refine Call.wr (r := nI m) (h1 := s_I (s_I h 231 m 0) 15 5 (nI (m + 1))) (h2 := s_I (s_I (s_I (s_I h 231 m 0) 15 5 (nI (m + 1))) 3426 m 0) 11 72 (nI (m + 1))) (by simp (disch := omega) only [f_X11_task, f_X8_nextTask, w.1, k2, q1, hx, hcl, nI_1, nI_pred, if_true, and_self, e_cl, e_bd, e_jn, e_KI, e_NI, e_BI, e_LI, e_PI, e_KB, e_NB, e_IB, e_LB, e_PB, e_KL, e_NL, e_IL, e_BL, e_PL, e_KP, e_NP, e_IP, e_BP, e_LP, e_IIs, e_BBs, e_LLs, e_PPs, e_IIn, e_BBn, e_LLn, e_PPn, e_IIk, e_BBk, e_LLk, e_PPk]) (by simp (disch := omega) only [f_X12_task, w.2, k3, q2, hx, hcl, nI_1, nI_pred, if_false, if_true, and_self, e_cl, e_bd, e_jn, e_KI, e_NI, e_BI, e_LI, e_PI, e_KB, e_NB, e_IB, e_LB, e_PB, e_KL, e_NL, e_IL, e_BL, e_PL, e_KP, e_NP, e_IP, e_BP, e_LP, e_IIs, e_BBs, e_LLs, e_PPs, e_IIn, e_BBn, e_LLn, e_PPn, e_IIk, e_BBk, e_LLk, e_PPk]) (Rel.up ⟨N, C, S, A, (Sh_sI (Sh_sI (Sh_sI (Sh_sI w)))), (RT_sI (by omega) (RT_sI (by omega) (RT_sI (by omega) (RT_sI (by omega) rT)))), (RM_sI (by omega) (RM_sI (by omega) (RM_sI (by omega) (RM_sI (by omega) rM)))), (RB_sI (by omega) (RB_sI (by omega) (RB_sI (by omega) (RB_sI (by omega) rB)))), (RC_sI (by omega) (RC_sI (by omega) (RC_sI (by omega) (RC_sI (by omega) rC)))), (RS_sI (by omega) (RS_sI (by omega) (RS_sI (by omega) (RS_sI (by omega) rS)))), (RV_sI (by omega) (RV_sI (by omega) (RV_sI (by omega) (RV_sI (by omega) rV)))), (RLn_sI (by omega) (RLn_sI (by omega) (RLn_sI (by omega) (RLn_sI (by omega) rL)))), (RJ_sI (by omega) (RJ_sI (by omega) (RJ_sI (by omega) (RJ_sI (by omega) rJ)))), (RP_sI (by omega) (RP_sI (by omega) (RP_sI (by omega) (RP_sI (by omega) rP)))), (RH_sI (by omega) (RH_sI (by omega) (RH_sI (by omega) (RH_sI (by omega) rH)))), (RD_sI (by omega) (RD_sI (by omega) (RD_sI (by omega) (RD_sI (by omega) rD)))), (RQ_sI (RQ_sI (RQ_sI (RQ_sI rQ)))), ?_⟩)
    simp (disch := omega) only [RK, shf, e_KI, e_NI, e_BI, e_LI, e_PI, e_KB, e_NB, e_IB, e_LB, e_PB, e_KL, e_NL, e_IL, e_BL, e_PL, e_KP, e_NP, e_IP, e_BP, e_LP, e_IIs, e_BBs, e_LLs, e_PPs, e_IIn, e_BBn, e_LLn, e_PPn, e_IIk, e_BBk, e_LLk, e_PPk]
    refine ⟨⟨m + 1, by omega, rfl, rfl, fun i hi => ?_⟩, kk⟩
    by_cases e : i = m
    · subst e
      exact ⟨0, by omega, by simp (disch := omega) only [e_KI, e_NI, e_BI, e_LI, e_PI, e_KB, e_NB, e_IB, e_LB, e_PB, e_KL, e_NL, e_IL, e_BL, e_PL, e_KP, e_NP, e_IP, e_BP, e_LP, e_IIs, e_BBs, e_LLs, e_PPs, e_IIn, e_BBn, e_LLn, e_PPn, e_IIk, e_BBk, e_LLk, e_PPk]; rfl, by simp (disch := omega) only [e_KI, e_NI, e_BI, e_LI, e_PI, e_KB, e_NB, e_IB, e_LB, e_PB, e_KL, e_NL, e_IL, e_BL, e_PL, e_KP, e_NP, e_IP, e_BP, e_LP, e_IIs, e_BBs, e_LLs, e_PPs, e_IIn, e_BBn, e_LLn, e_PPn, e_IIk, e_BBk, e_LLk, e_PPk]; rfl⟩
    · simp (disch := omega) only [e_KI, e_NI, e_BI, e_LI, e_PI, e_KB, e_NB, e_IB, e_LB, e_PB, e_KL, e_NL, e_IL, e_BL, e_PL, e_KP, e_NP, e_IP, e_BP, e_LP, e_IIs, e_BBs, e_LLs, e_PPs, e_IIn, e_BBn, e_LLn, e_PPn, e_IIk, e_BBk, e_LLk, e_PPk]
      exact k4 i (by omega)
end CB
