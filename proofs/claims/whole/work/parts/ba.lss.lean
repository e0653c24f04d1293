/-! least: the model's call, whole -/
section LSS
variable {C D C0 : Cg} {G G0 G2 : y_H} {s t d k n e N i j f g b m W q9 : Nat} {F Hh wn : Nat → Nat} {bv : Nat → Nat → Nat}
/-- the bay, as the model has it -/
def bayM (G : y_H) (b m W : Nat) (F Hh : Nat → Nat) (bv : Nat → Nat → Nat) (wn : Nat → Nat) : Prop := b < 10 ∧ y_B G 994 b = true ∧ y_I G 1122 b = nI m ∧ (∀ s, s < m → y_I G 1186 (6 * b + s) = nI (Hh s) ∧ y_I G 1314 (6 * b + s) = nI (F s) ∧ ∀ t, t < F s → y_I G 1378 (5 * (6 * b + s) + t) = nI (bv s t) ∧ bv s t < 80) ∧ y_I G 11 55 = nI W ∧ ∀ o, o < W → y_I G 2786 o = nI (wn o) ∧ wn o < 80
theorem Bc_wr2 (h4 : m ≤ 4) (hs : s < m) (ht : t ≤ F s) (hF : ∀ u, u < m → F u ≤ 5) (h6 : ofs F s + t ≤ 6) : wr (Bc F s t) := by
  have e : Bc F s t = Bc (fun u => if u < m then F u else 0) s t := by
    have o : ∀ u, u ≤ m → ofs F u = ofs (fun u => if u < m then F u else 0) u := fun u => by
      induction u with
      | zero => exact fun _ => rfl
      | succ u ih =>
        intro hu
        show ofs F u + F u = ofs _ u + (if u < m then F u else 0)
        rw [ih (by omega), if_pos (by omega)]
    funext u
    unfold Bc
    by_cases q : u < s
    · rw [if_pos q, if_pos q, o u (by omega), show (fun u => if u < m then F u else 0) u = F u from if_pos (by omega)]
    · rw [if_neg q, if_neg q, o s (by omega)]
  have o2 : ofs (fun u => if u < m then F u else 0) s = ofs F s := by
    have o : ∀ u, u ≤ m → ofs F u = ofs (fun u => if u < m then F u else 0) u := fun u => by
      induction u with
      | zero => exact fun _ => rfl
      | succ u ih =>
        intro hu
        show ofs F u + F u = ofs _ u + (if u < m then F u else 0)
        rw [ih (by omega), if_pos (by omega)]
    exact (o s (by omega)).symm
  rw [e]
  refine Bc_wr (by omega) (by rw [if_pos hs]; exact ht) (fun u _ => ?_) (by rw [o2]; exact h6) (fun z => by omega)
  by_cases q : u < m
  · rw [if_pos q]; exact hF u q
  · rw [if_neg q]; omega
theorem Bc_wr' (h4 : m ≤ 4) (hF : ∀ u, u < m → F u ≤ 5) (h6 : ofs F m ≤ 6) : wr (Bc F m 0) := by
  cases m with
  | zero =>
    refine ⟨fun u => ?_, fun u hu => ?_⟩
    · unfold Bc
      rw [if_neg (by omega)]
      split <;> exact ⟨Nat.zero_le _, fun x hx => by cases hx⟩
    · unfold Bc
      rw [if_neg (by omega), if_neg (by omega)]
  | succ m =>
    rw [← Bc_nx]
    exact Bc_wr2 (m := m + 1) h4 (by omega) (Nat.le_refl _) hF (by have : ofs F (m + 1) = ofs F m + F m := rfl; omega)
theorem m_least9 (w : Sh G) (k : okB m W F Hh bv wn) (bm : bayM G b m W F Hh bv wn) (ha : f_X12_hasAll 11 (nI b) G = some (true, G)) (hb : f_X12_boxesOf 11 (nI b) G = some (nI (ofs F m), G)) (hq : q9 < 40) (eq : y_I G 11 57 = nI q9) : wp (f_X12_least 11 (nI b) G) fun r G2 => ∃ Gm, ag (fun a k => a = 3170 ∨ a = 3234 ∨ a = 11 ∧ (k = 57 ∨ k = 66 ∨ k = 68)) (fun _ => False) G Gm ∧ y_I Gm 11 57 = nI (q9 + 1) ∧ mEnd (sysB m W F Hh bv wn) (Bc F m 0) b Gm r G2 := by
  obtain ⟨h4, h5, h6, kF, k1, k2, k3⟩ := id k
  obtain ⟨b10, lb, eS, eB, eW, ew⟩ := bm
  have O := sys_ok k
  have r0 := sys_ri k
  have xb := i_ix b10 (by decide)
  have cb := i_cl (show b < 2 ^ 31 by omega)
  have isb : f_X12_isBay 11 (nI b) G = some (true, G) := by
    have d9 : decide (0 ≤ nI b ∧ nI b ≤ 9) = true := i_dt (x := 0) (y := b) (z := 9) rfl rfl rfl (by omega)
    simp only [f_X12_isBay, m_in, w.2, d9, xb, cb, lb, if_true, and_self, e_cl, e_bd, e_jn]
  have l4 : ¬ (4 : Int32) < nI m := by
    rw [show (4 : Int32) = nI 4 from rfl, i_lt (by omega)]
    omega
  have l6 : nI (ofs F m) ≤ (6 : Int32) := nI_le (b := 6) (by omega) (by omega)
  have n40 : ¬ nI q9 = 40 := by
    rw [show (40 : Int32) = nI 40 from rfl, i_eq (by omega)]
    omega
  have F5 : ∀ u, u < m → F u ≤ 5 := fun u hu => by have := kF u hu; omega
  unfold f_X12_least
  refine wp_g (by simp only [w.2]) (wp_ce isb (wp_pos rfl (wp_g (by simp only [w.2]) (wp_g (by simp only [w.2, xb, and_self]) (wp_jn (wp_neg (by simp only [w.2, cb, eS, l4, not_false_eq_true]) (wp_g (by simp only [w.2]) (wp_ce hb (wp_pos l6 (wp_g (by simp only [w.2]) (wp_ce ha (wp_pos rfl (wp_g (by simp only [w.2]) (wp_neg (by rw [eq]; exact n40) (wp_g (by simp only [w.2]) (wp_g (by simp only [w.2]) (wp_be rfl ?_)))))))))))))))))
  -- the table is emptied
  refine wp_jl (fun mm j => ∀ x H, x ≤ 131072 → 131072 - x < mm → ag (fun a k => a = 3170 ∨ a = 11 ∧ k = 57) (fun _ => False) G H → y_I H 11 57 = nI (q9 + 1) → (∀ z, z < x → y_I H 3170 z = 0) → wp (j 11 (nI b) (nI x) H) fun r G2 => ∃ Gm, ag (fun a k => a = 3170 ∨ a = 3234 ∨ a = 11 ∧ (k = 57 ∨ k = 66 ∨ k = 68)) (fun _ => False) G Gm ∧ y_I Gm 11 57 = nI (q9 + 1) ∧ mEnd (sysB m W F Hh bv wn) (Bc F m 0) b Gm r G2) (fun x _ _ hm => absurd hm (by omega)) (fun mm j IH x H hx hm gH e57 tz => ?_) (fun j IH => ?_)
  rotate_left
  · exact IH 0 _ (by omega) (by unfold y_fu; omega) (ag.sI (ag.refl _ _ _) (by omega)) (by rw [e_IIs, eq, nI_1]) (fun z hz => by omega)
  have WH : Sh H := (Sh_ag gH (by intro a k q; (simp only [FSh] at q ⊢) <;> omega) (by intro a q; (simp only [GSh, not_false_eq_true] at q ⊢) <;> omega) w)
  by_cases xe : x = 131072
  rotate_left
  · have le : ¬ (131072 : Int32) ≤ nI x := nI_ge (b := 131072) (by omega) (by omega)
    have x1 := i_ix (show x < 131072 by omega) (by decide)
    have c1 := i_cl (show x < 2 ^ 31 by omega)
    have z := IH (x + 1) (s_I H 3170 x 0) (by omega) (by omega) (ag.sI gH (by omega)) (by rw [e_IIn (by omega)]; exact e57) (fun u hu => by
      by_cases e : u = x
      · rw [e, e_IIs]
      · rw [e_IIk e]
        exact tz u (by omega))
    rw [← nI_1] at z
    (repeat (first | with_reducible apply wp_jn | ((with_reducible apply wp_be); · first | (simp (disch := omega) only [le, WH.2, x1, c1, e_KI, e_NI, e_BI, e_LI, e_PI, e_KB, e_NB, e_IB, e_LB, e_PB, e_KL, e_NL, e_IL, e_BL, e_PL, e_KP, e_NP, e_IP, e_BP, e_LP, e_IIs, e_BBs, e_LLs, e_PPs, e_IIn, e_BBn, e_LLn, e_PPn, e_IIk, e_BBk, e_LLk, e_PPk, e_Ks, e_Ns, e_Is, e_Bs, e_Ls, e_Ps, e_Kn, e_Nn, e_In, e_Bn, e_Ln, e_Pn, if_true, if_false, and_self, or_true, true_or, not_false_eq_true, Bool.false_eq_true]; exact rfl) | exact rfl) | ((with_reducible apply wp_ce); · first | (simp (disch := omega) only [le, WH.2, x1, c1, e_KI, e_NI, e_BI, e_LI, e_PI, e_KB, e_NB, e_IB, e_LB, e_PB, e_KL, e_NL, e_IL, e_BL, e_PL, e_KP, e_NP, e_IP, e_BP, e_LP, e_IIs, e_BBs, e_LLs, e_PPs, e_IIn, e_BBn, e_LLn, e_PPn, e_IIk, e_BBk, e_LLk, e_PPk, e_Ks, e_Ns, e_Is, e_Bs, e_Ls, e_Ps, e_Kn, e_Nn, e_In, e_Bn, e_Ln, e_Pn, if_true, if_false, and_self, or_true, true_or, not_false_eq_true, Bool.false_eq_true]; exact rfl) | exact rfl) | ((with_reducible apply wp_g); · first | (simp (disch := omega) only [le, WH.2, x1, c1, e_KI, e_NI, e_BI, e_LI, e_PI, e_KB, e_NB, e_IB, e_LB, e_PB, e_KL, e_NL, e_IL, e_BL, e_PL, e_KP, e_NP, e_IP, e_BP, e_LP, e_IIs, e_BBs, e_LLs, e_PPs, e_IIn, e_BBn, e_LLn, e_PPn, e_IIk, e_BBk, e_LLk, e_PPk, e_Ks, e_Ns, e_Is, e_Bs, e_Ls, e_Ps, e_Kn, e_Nn, e_In, e_Bn, e_Ln, e_Pn, if_true, if_false, and_self, or_true, true_or, not_false_eq_true, Bool.false_eq_true]; done) | (simp (disch := omega) only [le, WH.2, x1, c1, e_KI, e_NI, e_BI, e_LI, e_PI, e_KB, e_NB, e_IB, e_LB, e_PB, e_KL, e_NL, e_IL, e_BL, e_PL, e_KP, e_NP, e_IP, e_BP, e_LP, e_IIs, e_BBs, e_LLs, e_PPs, e_IIn, e_BBn, e_LLn, e_PPn, e_IIk, e_BBk, e_LLk, e_PPk, e_Ks, e_Ns, e_Is, e_Bs, e_Ls, e_Ps, e_Kn, e_Nn, e_In, e_Bn, e_Ln, e_Pn, if_true, if_false, and_self, or_true, true_or, not_false_eq_true, Bool.false_eq_true]; decide) | decide) | ((with_reducible apply wp_pos); · first | (simp (disch := omega) only [le, WH.2, x1, c1, e_KI, e_NI, e_BI, e_LI, e_PI, e_KB, e_NB, e_IB, e_LB, e_PB, e_KL, e_NL, e_IL, e_BL, e_PL, e_KP, e_NP, e_IP, e_BP, e_LP, e_IIs, e_BBs, e_LLs, e_PPs, e_IIn, e_BBn, e_LLn, e_PPn, e_IIk, e_BBk, e_LLk, e_PPk, e_Ks, e_Ns, e_Is, e_Bs, e_Ls, e_Ps, e_Kn, e_Nn, e_In, e_Bn, e_Ln, e_Pn, if_true, if_false, and_self, or_true, true_or, not_false_eq_true, Bool.false_eq_true]; done) | (simp (disch := omega) only [le, WH.2, x1, c1, e_KI, e_NI, e_BI, e_LI, e_PI, e_KB, e_NB, e_IB, e_LB, e_PB, e_KL, e_NL, e_IL, e_BL, e_PL, e_KP, e_NP, e_IP, e_BP, e_LP, e_IIs, e_BBs, e_LLs, e_PPs, e_IIn, e_BBn, e_LLn, e_PPn, e_IIk, e_BBk, e_LLk, e_PPk, e_Ks, e_Ns, e_Is, e_Bs, e_Ls, e_Ps, e_Kn, e_Nn, e_In, e_Bn, e_Ln, e_Pn, if_true, if_false, and_self, or_true, true_or, not_false_eq_true, Bool.false_eq_true]; decide) | decide) | ((with_reducible apply wp_neg); · first | (simp (disch := omega) only [le, WH.2, x1, c1, e_KI, e_NI, e_BI, e_LI, e_PI, e_KB, e_NB, e_IB, e_LB, e_PB, e_KL, e_NL, e_IL, e_BL, e_PL, e_KP, e_NP, e_IP, e_BP, e_LP, e_IIs, e_BBs, e_LLs, e_PPs, e_IIn, e_BBn, e_LLn, e_PPn, e_IIk, e_BBk, e_LLk, e_PPk, e_Ks, e_Ns, e_Is, e_Bs, e_Ls, e_Ps, e_Kn, e_Nn, e_In, e_Bn, e_Ln, e_Pn, if_true, if_false, and_self, or_true, true_or, not_false_eq_true, Bool.false_eq_true]; done) | (simp (disch := omega) only [le, WH.2, x1, c1, e_KI, e_NI, e_BI, e_LI, e_PI, e_KB, e_NB, e_IB, e_LB, e_PB, e_KL, e_NL, e_IL, e_BL, e_PL, e_KP, e_NP, e_IP, e_BP, e_LP, e_IIs, e_BBs, e_LLs, e_PPs, e_IIn, e_BBn, e_LLn, e_PPn, e_IIk, e_BBk, e_LLk, e_PPk, e_Ks, e_Ns, e_Is, e_Bs, e_Ls, e_Ps, e_Kn, e_Nn, e_In, e_Bn, e_Ln, e_Pn, if_true, if_false, and_self, or_true, true_or, not_false_eq_true, Bool.false_eq_true]; decide) | decide)))
    exact z
  have le : (131072 : Int32) ≤ nI x := by rw [xe]; decide
  refine wp_pos le (wp_g (by simp only [WH.2]) (wp_be rfl ?_))
  -- the names
  refine wp_jl (fun mm j => ∀ s t H, (s < m ∧ t ≤ F s ∨ s = m ∧ t = 0) → 10 * (5 - s) + (6 - t) < mm → t = 0 → ag (fun a k => a = 3170 ∨ a = 3234 ∨ a = 11 ∧ (k = 57 ∨ k = 68)) (fun _ => False) G H → y_I H 11 57 = nI (q9 + 1) → (∀ z, z < 131072 → y_I H 3170 z = 0) → y_I H 11 68 = nI (ofs F s + t) → (∀ z, z < ofs F s + t → y_I H 3234 z = nI (nmx F bv z)) → wp (j 11 (nI b) (lg (enc (Bc F s t))) (nI s) H) fun r G2 => ∃ Gm, ag (fun a k => a = 3170 ∨ a = 3234 ∨ a = 11 ∧ (k = 57 ∨ k = 66 ∨ k = 68)) (fun _ => False) G Gm ∧ y_I Gm 11 57 = nI (q9 + 1) ∧ mEnd (sysB m W F Hh bv wn) (Bc F m 0) b Gm r G2) (fun s t _ _ hm => absurd hm (by omega)) (fun mm j IH2 s t H1 hst hm ht0 g1 f57 tz1 h68 nm => ?_) (fun j IH2 => ?_)
  rotate_left
  · have z := IH2 0 0 (s_I H 11 68 0) (by omega) (by unfold y_fu; omega) rfl (ag.sI (gH.mono (fun a k q => by omega) (fun a q => q)) (by omega)) (by rw [e_IIk (by omega)]; exact e57) (fun z hz => by rw [e_IIn (by omega)]; exact tz z (by omega)) e_IIs (fun z hz => by
      have : ofs F 0 = 0 := rfl
      omega)
    exact z
  subst ht0
  have W1 : Sh H1 := (Sh_ag g1 (by intro a k q; (simp only [FSh] at q ⊢) <;> omega) (by intro a q; (simp only [GSh, not_false_eq_true] at q ⊢) <;> omega) w)
  have eS1 : y_I H1 1122 b = nI m := (g1.I (by omega)).trans eS
  by_cases sm9 : s = m
  · have le : nI m ≤ nI s := nI_le (by omega) (by omega)
    have W2 : Sh (s_I H1 11 66 0) := Sh_sI W1
    have wB : wr (Bc F m 0) := Bc_wr' h4 F5 (by omega)
    obtain ⟨G3, ec, I3⟩ := m_come0 (y := sysB m W F Hh bv wn) (C0 := Bc F m 0) W2 e_IIs (fun x hx => by rw [e_IIn (by omega)]; exact tz1 x hx) wB
    have mb : MB (sysB m W F Hh bv wn) b (s_I H1 11 66 0) := by
      refine ⟨b10, ?_, ?_, ?_, fun t ht => ?_, fun x o h1 h2 ho => ?_⟩
      · rw [e_IIn (by omega)]; exact eS1
      · rw [e_IIk (by omega)]; exact (g1.I (by omega)).trans eW
      · rw [e_IIk (by omega), h68, sm9]; rfl
      · rw [e_IIn (by omega)]; exact (g1.I (by omega)).trans (eB t ht).1
      · have h2' : x ≤ ofs F m := h2
        have ho' : o < W := ho
        obtain ⟨s2, t2, a1, a2, a3⟩ := nm_ex m (show x - 1 < ofs F m by omega)
        have vb : nmx F bv (x - 1) < 80 := by
          rw [a3, nmx_of (by omega) a2]
          exact ((eB s2 a1).2.2 t2 a2).2
        rw [e_IIn (by omega), e_IIn (by omega), nm (x - 1) (by rw [sm9]; omega), (g1.I (by omega) : y_I H1 2786 o = y_I G 2786 o), (ew o ho').1, i_eq (by have := (ew o ho').2; omega)]
        exact propext (sys_rk k h1 ho').symm
    have se := m_search O r0 W2 mb I3
    refine wp_g (by simp only [W1.2]) (wp_g (by simp only [W1.2, xb, and_self]) (wp_pos (by simp only [W1.2, cb, eS1, le]) (wp_g (by simp only [W1.2]) (wp_be rfl (wp_g (by simp only [e_KI, W1.2]) (wp_ce (by rw [sm9]; exact ec) (wp_mono se (fun r G2 q => ⟨s_I H1 11 66 0, ag.sI (g1.mono (fun a k q => by omega) (fun a q => q)) (by omega), by rw [e_IIk (by omega)]; exact f57, q⟩))))))))
  · have hs : s < m := by omega
    have le : ¬ nI m ≤ nI s := nI_ge hs (by omega)
    refine wp_g (by simp only [W1.2]) (wp_g (by simp only [W1.2, xb, and_self]) (wp_neg (by simp only [W1.2, cb, eS1, le, not_false_eq_true]) ?_))
    have os : ofs F (s + 1) = ofs F s + F s := rfl
    have om := ofs_mono (F := F) (show s + 1 ≤ m by omega)
    refine wp_jl (fun mm j => ∀ t H, t ≤ F s → F s - t < mm → ag (fun a k => a = 3170 ∨ a = 3234 ∨ a = 11 ∧ (k = 57 ∨ k = 68)) (fun _ => False) G H → y_I H 11 57 = nI (q9 + 1) → (∀ z, z < 131072 → y_I H 3170 z = 0) → y_I H 11 68 = nI (ofs F s + t) → (∀ z, z < ofs F s + t → y_I H 3234 z = nI (nmx F bv z)) → wp (j 11 (nI b) (lg (enc (Bc F s t))) (nI s) (nI t) H) fun r G2 => ∃ Gm, ag (fun a k => a = 3170 ∨ a = 3234 ∨ a = 11 ∧ (k = 57 ∨ k = 66 ∨ k = 68)) (fun _ => False) G Gm ∧ y_I Gm 11 57 = nI (q9 + 1) ∧ mEnd (sysB m W F Hh bv wn) (Bc F m 0) b Gm r G2) (fun t _ _ hm => absurd hm (by omega)) (fun m2 j2 IH3 t H2 ht hm2 g2 f57 tz2 h68 nm => ?_) (fun j2 IH3 => ?_)
    rotate_left
    · exact IH3 0 H1 (by omega) (by have := F5 s hs; unfold y_fu; omega) g1 f57 tz1 h68 nm
    have W2 : Sh H2 := (Sh_ag g2 (by intro a k q; (simp only [FSh] at q ⊢) <;> omega) (by intro a q; (simp only [GSh, not_false_eq_true] at q ⊢) <;> omega) w)
    have ix6 : (6 : Int32) * nI b + nI s = nI (6 * b + s) := by rw [i_m6, i_add]
    have x6 := i_ix (show 6 * b + s < 60 by omega) (by decide)
    have c6 := i_cl (show 6 * b + s < 2 ^ 31 by omega)
    have ef : y_I H2 1314 (6 * b + s) = nI (F s) := (g2.I (by omega)).trans (eB s hs).2.1
    have f5 := F5 s hs
    by_cases te : t = F s
    · have le2 : nI (F s) ≤ nI t := nI_le (by omega) (by omega)
      have z := IH2 (s + 1) 0 H2 (by omega) (by omega) rfl g2 f57 tz2 (by rw [h68, te]; rfl) (fun z hz => nm z (by omega))
      rw [← Bc_nx, ← te, ← nI_1] at z
      refine wp_g (by simp only [W2.2]) (wp_g (by simp only [W2.2, ix6, x6, and_self]) (wp_pos (by simp only [W2.2, ix6, c6, ef, le2]) z))
    · have le2 : ¬ nI (F s) ≤ nI t := nI_ge (by omega) (by omega)
      have ix5 : (5 : Int32) * nI (6 * b + s) + nI t = nI (5 * (6 * b + s) + t) := by rw [i_m5, i_add]
      have x5 := i_ix (show 5 * (6 * b + s) + t < 300 by omega) (by decide)
      have c5 := i_cl (show 5 * (6 * b + s) + t < 2 ^ 31 by omega)
      obtain ⟨sv, vb⟩ := (eB s hs).2.2 t (by omega)
      have ev : y_I H2 1378 (5 * (6 * b + s) + t) = nI (bv s t) := (g2.I (by omega)).trans sv
      have xn := i_ix (show ofs F s + t < 6 by omega) (by decide)
      have cn := i_cl (show ofs F s + t < 2 ^ 31 by omega)
      have a1 : nI (ofs F s + t) + 1 = nI (ofs F s + t + 1) := nI_1 _
      have wB : wr (Bc F s t) := Bc_wr2 h4 hs (by omega) F5 (by omega)
      have bl : (Bc F s t s).length = t := by
        unfold Bc
        rw [if_neg (by omega), if_pos rfl, lst_len]
      have pt := g_put (C := Bc F s t) (t := s) (d := ofs F s + t + 1) wB.1 (by omega) (by rw [bl]; omega) (by omega)
      rw [Bc_up, bl] at pt
      have z := IH3 (t + 1) (s_I (s_I H2 3234 (ofs F s + t) (nI (bv s t))) 11 68 (nI (ofs F s + t + 1))) (by omega) (by omega) (ag.sI (ag.sI g2 (by omega)) (by omega)) (by rw [e_IIk (by omega), e_IIn (by omega)]; exact f57) (fun z hz => by rw [e_IIn (by omega), e_IIn (by omega)]; exact tz2 z hz) (by rw [e_IIs, Nat.add_assoc]) (fun z hz => by
        rw [e_IIn (by omega)]
        by_cases e : z = ofs F s + t
        · rw [e, e_IIs, nmx_of (by omega) (by omega)]
        · rw [e_IIk e]
          exact nm z (by omega))
      rw [← pt, ← nI_1 t] at z
      have v68 : y_I (s_I (s_I H2 3234 (ofs F s + t) (nI (bv s t))) 11 68 (nI (ofs F s + t + 1))) 11 68 = nI (ofs F s + t + 1) := e_IIs
      (repeat (first | with_reducible apply wp_jn | ((with_reducible apply wp_be); · first | (simp (disch := omega) only [W2.2, ix6, x6, c6, ef, le2, ix5, x5, c5, ev, h68, xn, cn, a1, e_KI, e_NI, e_BI, e_LI, e_PI, e_KB, e_NB, e_IB, e_LB, e_PB, e_KL, e_NL, e_IL, e_BL, e_PL, e_KP, e_NP, e_IP, e_BP, e_LP, e_IIs, e_BBs, e_LLs, e_PPs, e_IIn, e_BBn, e_LLn, e_PPn, e_IIk, e_BBk, e_LLk, e_PPk, e_Ks, e_Ns, e_Is, e_Bs, e_Ls, e_Ps, e_Kn, e_Nn, e_In, e_Bn, e_Ln, e_Pn, if_true, if_false, and_self, or_true, true_or, not_false_eq_true, Bool.false_eq_true]; exact rfl) | exact rfl) | ((with_reducible apply wp_ce); · first | (simp (disch := omega) only [W2.2, ix6, x6, c6, ef, le2, ix5, x5, c5, ev, h68, xn, cn, a1, e_KI, e_NI, e_BI, e_LI, e_PI, e_KB, e_NB, e_IB, e_LB, e_PB, e_KL, e_NL, e_IL, e_BL, e_PL, e_KP, e_NP, e_IP, e_BP, e_LP, e_IIs, e_BBs, e_LLs, e_PPs, e_IIn, e_BBn, e_LLn, e_PPn, e_IIk, e_BBk, e_LLk, e_PPk, e_Ks, e_Ns, e_Is, e_Bs, e_Ls, e_Ps, e_Kn, e_Nn, e_In, e_Bn, e_Ln, e_Pn, if_true, if_false, and_self, or_true, true_or, not_false_eq_true, Bool.false_eq_true]; exact rfl) | exact rfl) | ((with_reducible apply wp_g); · first | (simp (disch := omega) only [W2.2, ix6, x6, c6, ef, le2, ix5, x5, c5, ev, h68, xn, cn, a1, e_KI, e_NI, e_BI, e_LI, e_PI, e_KB, e_NB, e_IB, e_LB, e_PB, e_KL, e_NL, e_IL, e_BL, e_PL, e_KP, e_NP, e_IP, e_BP, e_LP, e_IIs, e_BBs, e_LLs, e_PPs, e_IIn, e_BBn, e_LLn, e_PPn, e_IIk, e_BBk, e_LLk, e_PPk, e_Ks, e_Ns, e_Is, e_Bs, e_Ls, e_Ps, e_Kn, e_Nn, e_In, e_Bn, e_Ln, e_Pn, if_true, if_false, and_self, or_true, true_or, not_false_eq_true, Bool.false_eq_true]; done) | (simp (disch := omega) only [W2.2, ix6, x6, c6, ef, le2, ix5, x5, c5, ev, h68, xn, cn, a1, e_KI, e_NI, e_BI, e_LI, e_PI, e_KB, e_NB, e_IB, e_LB, e_PB, e_KL, e_NL, e_IL, e_BL, e_PL, e_KP, e_NP, e_IP, e_BP, e_LP, e_IIs, e_BBs, e_LLs, e_PPs, e_IIn, e_BBn, e_LLn, e_PPn, e_IIk, e_BBk, e_LLk, e_PPk, e_Ks, e_Ns, e_Is, e_Bs, e_Ls, e_Ps, e_Kn, e_Nn, e_In, e_Bn, e_Ln, e_Pn, if_true, if_false, and_self, or_true, true_or, not_false_eq_true, Bool.false_eq_true]; decide) | decide) | ((with_reducible apply wp_pos); · first | (simp (disch := omega) only [W2.2, ix6, x6, c6, ef, le2, ix5, x5, c5, ev, h68, xn, cn, a1, e_KI, e_NI, e_BI, e_LI, e_PI, e_KB, e_NB, e_IB, e_LB, e_PB, e_KL, e_NL, e_IL, e_BL, e_PL, e_KP, e_NP, e_IP, e_BP, e_LP, e_IIs, e_BBs, e_LLs, e_PPs, e_IIn, e_BBn, e_LLn, e_PPn, e_IIk, e_BBk, e_LLk, e_PPk, e_Ks, e_Ns, e_Is, e_Bs, e_Ls, e_Ps, e_Kn, e_Nn, e_In, e_Bn, e_Ln, e_Pn, if_true, if_false, and_self, or_true, true_or, not_false_eq_true, Bool.false_eq_true]; done) | (simp (disch := omega) only [W2.2, ix6, x6, c6, ef, le2, ix5, x5, c5, ev, h68, xn, cn, a1, e_KI, e_NI, e_BI, e_LI, e_PI, e_KB, e_NB, e_IB, e_LB, e_PB, e_KL, e_NL, e_IL, e_BL, e_PL, e_KP, e_NP, e_IP, e_BP, e_LP, e_IIs, e_BBs, e_LLs, e_PPs, e_IIn, e_BBn, e_LLn, e_PPn, e_IIk, e_BBk, e_LLk, e_PPk, e_Ks, e_Ns, e_Is, e_Bs, e_Ls, e_Ps, e_Kn, e_Nn, e_In, e_Bn, e_Ln, e_Pn, if_true, if_false, and_self, or_true, true_or, not_false_eq_true, Bool.false_eq_true]; decide) | decide) | ((with_reducible apply wp_neg); · first | (simp (disch := omega) only [W2.2, ix6, x6, c6, ef, le2, ix5, x5, c5, ev, h68, xn, cn, a1, e_KI, e_NI, e_BI, e_LI, e_PI, e_KB, e_NB, e_IB, e_LB, e_PB, e_KL, e_NL, e_IL, e_BL, e_PL, e_KP, e_NP, e_IP, e_BP, e_LP, e_IIs, e_BBs, e_LLs, e_PPs, e_IIn, e_BBn, e_LLn, e_PPn, e_IIk, e_BBk, e_LLk, e_PPk, e_Ks, e_Ns, e_Is, e_Bs, e_Ls, e_Ps, e_Kn, e_Nn, e_In, e_Bn, e_Ln, e_Pn, if_true, if_false, and_self, or_true, true_or, not_false_eq_true, Bool.false_eq_true]; done) | (simp (disch := omega) only [W2.2, ix6, x6, c6, ef, le2, ix5, x5, c5, ev, h68, xn, cn, a1, e_KI, e_NI, e_BI, e_LI, e_PI, e_KB, e_NB, e_IB, e_LB, e_PB, e_KL, e_NL, e_IL, e_BL, e_PL, e_KP, e_NP, e_IP, e_BP, e_LP, e_IIs, e_BBs, e_LLs, e_PPs, e_IIn, e_BBn, e_LLn, e_PPn, e_IIk, e_BBk, e_LLk, e_PPk, e_Ks, e_Ns, e_Is, e_Bs, e_Ls, e_Ps, e_Kn, e_Nn, e_In, e_Bn, e_Ln, e_Pn, if_true, if_false, and_self, or_true, true_or, not_false_eq_true, Bool.false_eq_true]; decide) | decide)))
      rw [v68]
      exact z
end LSS
