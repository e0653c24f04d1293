/-! stable: the model, and the call -/
section SBD
variable {h G : y_H} {t e N C S A s u v w n : Nat} {f : Nat → Nat}
/-- one heap from another, but for the hold row and what broke -/
def sx2 (G Z : y_H) : Prop := y_K Z = y_K G ∧ y_N Z = y_N G ∧ y_B Z = y_B G ∧ y_L Z = y_L G ∧ y_P Z = y_P G ∧ ∀ a k, ¬ (a = 2210 ∨ a = 11 ∧ 52 ≤ k ∧ k ≤ 54) → y_I Z a k = y_I G a k
theorem sx2.sI {Z : y_H} {a k : Nat} {x : Int32} (g : sx2 G Z) (c : a = 2210 ∨ a = 11 ∧ 52 ≤ k ∧ k ≤ 54) : sx2 G (s_I Z a k x) := ⟨g.1, g.2.1, g.2.2.1, g.2.2.2.1, g.2.2.2.2.1, fun b i q => by
  rw [e_IIc (fun z => q (by rw [z.1, z.2]; exact c))]
  exact g.2.2.2.2.2 b i q⟩
theorem sx2.I {Z : y_H} (g : sx2 G Z) {a k : Nat} (q : ¬ (a = 2210 ∨ a = 11 ∧ 52 ≤ k ∧ k ≤ 54)) : y_I Z a k = y_I G a k := g.2.2.2.2.2 a k q
theorem sx2.wf {Z : y_H} (g : sx2 G Z) (W : Sh G) : Sh Z := by
  unfold Sh Wc Wm at W ⊢
  rw [g.1, g.2.1, g.2.2.2.2.1]
  exact W
def mbr (h Z : y_H) (s u v w L : Nat) (f : Nat → Nat) : Prop := (y_I Z 11 52 = -9 ∧ okv h s u v w f L) ∨ ∃ i, i < L ∧ come h s (f i) ∧ fjv h s u v w f i ≠ 0 ∧ okv h s u v w f i ∧ y_I Z 11 52 = nI (f i) ∧ y_I Z 11 53 = nI (ahd h s f i) ∧ y_I Z 11 54 = cA (fjv h s u v w f i)
theorem m_stable {L T : Nat} (R : RelP h t e N C S A) (mm : MM h G) (hs : s < S) (hu : 1 ≤ u ∧ u ≤ 6) (hv : 1 ≤ v ∧ v ≤ 3) (hw : 1 ≤ w ∧ w ≤ 3) (eu : y_I h 1954 s = nI u) (ev : y_I h 2018 s = nI v) (ew : y_I h 2082 s = nI w) (hL : L ≤ N) (hT : T < 2 ^ 31) (tn : ∀ n, n < N → y_I h 674 n ≠ -9 → ∃ a, 1 ≤ a ∧ a ≤ T ∧ y_I h 930 n = nI a) (hf : ∀ i, i < L → f i < N ∧ y_P h 419 i = 64 * f i + 20 ∧ y_I h 674 (f i) ≠ -9) (inc : ∀ i j, i < j → j < L → y_I h 930 (f i) < y_I h 930 (f j)) (all : ∀ n, n < N → y_I h 674 n ≠ -9 → ∃ i, i < L ∧ f i = n) : wp (f_X12_stable 11 (nI s) G) fun r Z => sx2 G Z ∧ (∀ x, y_I Z 2210 x = y_I h 2210 x) ∧ mbr h Z s u v w L f ∧ r = if y_I Z 11 52 = -9 then 1 else 0 := by
  obtain ⟨W0, rT, rM, rB, rC, rS, rV, rL, rJ, rP, rH, rD, rQ, rK⟩ := id R
  have hN := rB.1
  have hS := rS.1
  have W := mm.1
  have is := m_isShip (i := nI s) W ((mm.I (by omega)).trans rS.2.2.1)
  have ds : decide (0 ≤ nI s ∧ nI s ≤ nI S - 1) = true := by
    rcases i_cnt (nI s) S (by omega) with ⟨n, hn, -, d⟩ | ⟨-, z⟩
    · exact d
    · exact absurd rfl (z s hs)
  rw [ds] at is
  have sx0 : sx2 G (s_I G 11 52 (-9)) := sx2.sI ⟨rfl, rfl, rfl, rfl, rfl, fun a k _ => rfl⟩ (by omega)
  have v52 : y_I (s_I G 11 52 (-9)) 11 52 = -9 := e_IIs
  have r22 : ∀ x, y_I (s_I G 11 52 (-9)) 2210 x = y_I h 2210 x := fun x => by
    rw [e_IIn (by omega)]
    exact mm.I (by omega)
  obtain ⟨G0, eG0⟩ : ∃ G0, G0 = s_I G 11 52 (-9) := ⟨_, rfl⟩
  rw [← eG0] at sx0 v52 r22
  have fN : ∀ i, i < L → f i < N := fun i hi => (hf i hi).1
  have eS : ∀ {Z : y_H}, sx2 G Z → ∀ a, a % 64 = 34 → a ≠ 2594 → a ≠ 2210 → ∀ x, y_I Z a x = y_I h a x := fun g a q1 q2 q3 x => (g.I (by omega)).trans (mm.I (by omega))
  have eN : ∀ {Z : y_H}, sx2 G Z → y_I Z 11 0 = nI N := fun g => (g.I (by omega)).trans ((mm.I (by omega)).trans rB.2.2.1)
  have tp : ∀ j, j < L → (¬ y_I h 930 (f j) ≤ 0 ↔ 0 ≤ j) := fun j hj => ⟨fun _ => Nat.zero_le _, fun _ => by
    obtain ⟨a, a1, a2, a3⟩ := tn (f j) (fN j hj) (hf j hj).2.2
    rw [a3]
    exact nI_ge (a := 0) (by omega) (by omega)⟩
  have nx := m_next (h := h) (G := G0) (s := s) (τ := 0) (sx0.wf W) hN (eN sx0) (eS sx0 _ (by omega) (by omega) (by omega)) (eS sx0 _ (by omega) (by omega) (by omega)) (eS sx0 _ (by omega) (by omega) (by omega)) (eS sx0 _ (by omega) (by omega) (by omega))
  have W0' := sx0.wf W
  unfold f_X12_stable
  refine wp_g (by simp only [W.2]) (wp_ce is (wp_pos rfl (wp_g (by simp only [W.2]) (wp_be (a' := G0) eG0.symm (wp_g (by simp only [W0'.2]) (wp_call nx (fun r7 h8 q => ?_)))))))
  obtain ⟨rfl, q⟩ := q
  obtain ⟨k0, -, hk0, sk0, st0⟩ := nx_of fN inc all (by omega) (Nat.zero_le L) tp q
  obtain ⟨vk0, ak0, ok0⟩ := vh_skip (h := h) (s := s) (u := u) (v := v) (w := w) (f := f) k0 (Nat.zero_le _) sk0
  have ok0 := ok0 (fun j hj => absurd hj (by omega))
  clear nx q sk0 is ds
  refine wp_jl (fun m j => ∀ i v2 v3 Z, i ≤ L → sx2 G Z → (∀ x, y_I Z 2210 x = y_I (vh h s u v f i) 2210 x) → okv h s u v w f i → ((2 * (L - i) + 1 < m ∧ y_I Z 11 52 = -9 ∧ v2 = nI (ahd h s f i) ∧ (i < L ∧ come h s (f i) ∧ v3 = nI (f i) ∨ i = L ∧ v3 = -9)) ∨ (0 < m ∧ i < L ∧ come h s (f i) ∧ fjv h s u v w f i ≠ 0 ∧ v3 = nI (f i) ∧ y_I Z 11 52 = nI (f i) ∧ y_I Z 11 53 = nI (ahd h s f i) ∧ y_I Z 11 54 = cA (fjv h s u v w f i))) → wp (j 11 (nI s) v2 v3 Z) fun r Z => sx2 G Z ∧ (∀ x, y_I Z 2210 x = y_I h 2210 x) ∧ mbr h Z s u v w L f ∧ r = if y_I Z 11 52 = -9 then 1 else 0) (fun i v2 v3 Z _ _ _ _ z => by omega) (fun m j IH i v2 v3 Z hi g row o st => ?_) (fun j IH => ?_)
  rotate_left
  · refine IH k0 0 r7 h8 hk0 sx0 (fun x => by rw [r22, vk0]; rfl) ok0 (Or.inl ⟨by unfold y_fu; omega, v52, by rw [ak0]; rfl, st0⟩)
  have WZ := g.wf W
  have I := vh_inv (u := u) (v := v) (w := w) (f := f) rP hN hs hu hv hw fN i hi o
  refine wp_jc (fun j Q => mbr h Z s u v w L f → wp (j 11 (nI s) Z) Q) ?_ ?_
  · intro mb
    refine wp_jl (fun m j => ∀ k Z', k ≤ 54 → 54 - k < m → sx2 G Z' → (∀ x, y_I Z' 11 x = y_I Z 11 x) → (∀ x, y_I Z' 2210 x = if 54 * s ≤ x ∧ x < 54 * s + k then y_I h 2210 x else y_I Z 2210 x) → wp (j 11 (nI s) (nI k) Z') fun r Z => sx2 G Z ∧ (∀ x, y_I Z 2210 x = y_I h 2210 x) ∧ mbr h Z s u v w L f ∧ r = if y_I Z 11 52 = -9 then 1 else 0) (fun k Z' _ hm => absurd hm (by omega)) (fun m j IH2 k Z' hk hm g' r11 r2 => ?_) (fun j IH2 => ?_)
    rotate_left
    · exact IH2 0 Z (by omega) (by unfold y_fu; omega) g (fun _ => rfl) (fun x => by rw [if_neg (by omega)])
    have WZ' := g'.wf W
    by_cases e54 : k = 54
    · have le : (54 : Int32) ≤ nI k := by rw [e54]; decide
      have fin : sx2 G Z' ∧ (∀ x, y_I Z' 2210 x = y_I h 2210 x) ∧ mbr h Z' s u v w L f := by
        refine ⟨g', fun x => ?_, ?_⟩
        · rw [r2 x]
          by_cases q : 54 * s ≤ x ∧ x < 54 * s + k
          · rw [if_pos q]
          · rw [if_neg q, row x]
            exact I.1 _ _ (by omega)
        · unfold mbr at mb ⊢
          rw [r11, r11, r11]
          exact mb
      refine wp_pos le (wp_g (by simp only [WZ'.2]) (wp_ite (fun q => wp_some.mpr ⟨fin.1, fin.2.1, fin.2.2, ?_⟩) (fun q => wp_some.mpr ⟨fin.1, fin.2.1, fin.2.2, ?_⟩)))
      · rw [if_pos q]
      · rw [if_neg q]
    have le : ¬ (54 : Int32) ≤ nI k := nI_ge (b := 54) (by omega) (by omega)
    have em : (54 : Int32) * nI s + nI k = nI (54 * s + k) := by rw [i_m54, i_add]
    have xm := i_ix (show 54 * s + k < 162 by omega) (by decide)
    have cm := i_cl (show 54 * s + k < 2 ^ 31 by omega)
    have rv : y_I Z' 2210 (54 * s + k) = y_I (vh h s u v f i) 2210 (54 * s + k) := by
      rw [r2, if_neg (by omega), row]
    have a1 : nI k + 1 = nI (k + 1) := nI_1 k
    have step : ∀ x, x = y_I h 2210 (54 * s + k) → wp (j 11 (nI s) (nI (k + 1)) (s_I Z' 2210 (54 * s + k) x)) fun r Z => sx2 G Z ∧ (∀ x, y_I Z 2210 x = y_I h 2210 x) ∧ mbr h Z s u v w L f ∧ r = if y_I Z 11 52 = -9 then 1 else 0 := fun x ex => by
      refine IH2 (k + 1) _ (by omega) (by omega) (g'.sI (Or.inl rfl)) (fun y => by rw [e_IIn (by omega)]; exact r11 y) (fun y => ?_)
      by_cases ey : y = 54 * s + k
      · rw [ey, e_IIs, if_pos (by omega)]
        exact ex
      · rw [e_IIk ey, r2 y]
        by_cases q : 54 * s ≤ y ∧ y < 54 * s + k
        · rw [if_pos q, if_pos (by omega)]
        · rw [if_neg q, if_neg (by omega)]
    rw [a1.symm] at step
    rcases vinv_hh rP hs I k (by omega) with z | ⟨n, hn, z⟩
    · have v1 : y_I Z' 2210 (54 * s + k) = -1 := rv.trans z
      have hh : (-1 : Int32) = y_I h 2210 (54 * s + k) := by
        rcases I.2.2 k (by omega) with q | ⟨q, -⟩
        · exact z.symm.trans q
        · exact q.symm
      have z9 := step (-1) hh
      have ng : (-1 : Int32) < 0 := by decide
      (repeat (first | with_reducible apply wp_jn | ((with_reducible apply wp_be); · first | (simp (disch := omega) only [le, WZ'.2, em, xm, cm, v1, ng, e_KI, e_NI, e_BI, e_LI, e_PI, e_KB, e_NB, e_IB, e_LB, e_PB, e_KL, e_NL, e_IL, e_BL, e_PL, e_KP, e_NP, e_IP, e_BP, e_LP, e_IIs, e_BBs, e_LLs, e_PPs, e_IIn, e_BBn, e_LLn, e_PPn, e_IIk, e_BBk, e_LLk, e_PPk, e_Ks, e_Ns, e_Is, e_Bs, e_Ls, e_Ps, e_Kn, e_Nn, e_In, e_Bn, e_Ln, e_Pn, if_true, if_false, and_self, or_true, true_or, not_false_eq_true, Bool.false_eq_true]; exact rfl) | exact rfl) | ((with_reducible apply wp_ce); · first | (simp (disch := omega) only [le, WZ'.2, em, xm, cm, v1, ng, e_KI, e_NI, e_BI, e_LI, e_PI, e_KB, e_NB, e_IB, e_LB, e_PB, e_KL, e_NL, e_IL, e_BL, e_PL, e_KP, e_NP, e_IP, e_BP, e_LP, e_IIs, e_BBs, e_LLs, e_PPs, e_IIn, e_BBn, e_LLn, e_PPn, e_IIk, e_BBk, e_LLk, e_PPk, e_Ks, e_Ns, e_Is, e_Bs, e_Ls, e_Ps, e_Kn, e_Nn, e_In, e_Bn, e_Ln, e_Pn, if_true, if_false, and_self, or_true, true_or, not_false_eq_true, Bool.false_eq_true]; exact rfl) | exact rfl) | ((with_reducible apply wp_g); · first | (simp (disch := omega) only [le, WZ'.2, em, xm, cm, v1, ng, e_KI, e_NI, e_BI, e_LI, e_PI, e_KB, e_NB, e_IB, e_LB, e_PB, e_KL, e_NL, e_IL, e_BL, e_PL, e_KP, e_NP, e_IP, e_BP, e_LP, e_IIs, e_BBs, e_LLs, e_PPs, e_IIn, e_BBn, e_LLn, e_PPn, e_IIk, e_BBk, e_LLk, e_PPk, e_Ks, e_Ns, e_Is, e_Bs, e_Ls, e_Ps, e_Kn, e_Nn, e_In, e_Bn, e_Ln, e_Pn, if_true, if_false, and_self, or_true, true_or, not_false_eq_true, Bool.false_eq_true]; done) | (simp (disch := omega) only [le, WZ'.2, em, xm, cm, v1, ng, e_KI, e_NI, e_BI, e_LI, e_PI, e_KB, e_NB, e_IB, e_LB, e_PB, e_KL, e_NL, e_IL, e_BL, e_PL, e_KP, e_NP, e_IP, e_BP, e_LP, e_IIs, e_BBs, e_LLs, e_PPs, e_IIn, e_BBn, e_LLn, e_PPn, e_IIk, e_BBk, e_LLk, e_PPk, e_Ks, e_Ns, e_Is, e_Bs, e_Ls, e_Ps, e_Kn, e_Nn, e_In, e_Bn, e_Ln, e_Pn, if_true, if_false, and_self, or_true, true_or, not_false_eq_true, Bool.false_eq_true]; decide) | decide) | ((with_reducible apply wp_pos); · first | (simp (disch := omega) only [le, WZ'.2, em, xm, cm, v1, ng, e_KI, e_NI, e_BI, e_LI, e_PI, e_KB, e_NB, e_IB, e_LB, e_PB, e_KL, e_NL, e_IL, e_BL, e_PL, e_KP, e_NP, e_IP, e_BP, e_LP, e_IIs, e_BBs, e_LLs, e_PPs, e_IIn, e_BBn, e_LLn, e_PPn, e_IIk, e_BBk, e_LLk, e_PPk, e_Ks, e_Ns, e_Is, e_Bs, e_Ls, e_Ps, e_Kn, e_Nn, e_In, e_Bn, e_Ln, e_Pn, if_true, if_false, and_self, or_true, true_or, not_false_eq_true, Bool.false_eq_true]; done) | (simp (disch := omega) only [le, WZ'.2, em, xm, cm, v1, ng, e_KI, e_NI, e_BI, e_LI, e_PI, e_KB, e_NB, e_IB, e_LB, e_PB, e_KL, e_NL, e_IL, e_BL, e_PL, e_KP, e_NP, e_IP, e_BP, e_LP, e_IIs, e_BBs, e_LLs, e_PPs, e_IIn, e_BBn, e_LLn, e_PPn, e_IIk, e_BBk, e_LLk, e_PPk, e_Ks, e_Ns, e_Is, e_Bs, e_Ls, e_Ps, e_Kn, e_Nn, e_In, e_Bn, e_Ln, e_Pn, if_true, if_false, and_self, or_true, true_or, not_false_eq_true, Bool.false_eq_true]; decide) | decide) | ((with_reducible apply wp_neg); · first | (simp (disch := omega) only [le, WZ'.2, em, xm, cm, v1, ng, e_KI, e_NI, e_BI, e_LI, e_PI, e_KB, e_NB, e_IB, e_LB, e_PB, e_KL, e_NL, e_IL, e_BL, e_PL, e_KP, e_NP, e_IP, e_BP, e_LP, e_IIs, e_BBs, e_LLs, e_PPs, e_IIn, e_BBn, e_LLn, e_PPn, e_IIk, e_BBk, e_LLk, e_PPk, e_Ks, e_Ns, e_Is, e_Bs, e_Ls, e_Ps, e_Kn, e_Nn, e_In, e_Bn, e_Ln, e_Pn, if_true, if_false, and_self, or_true, true_or, not_false_eq_true, Bool.false_eq_true]; done) | (simp (disch := omega) only [le, WZ'.2, em, xm, cm, v1, ng, e_KI, e_NI, e_BI, e_LI, e_PI, e_KB, e_NB, e_IB, e_LB, e_PB, e_KL, e_NL, e_IL, e_BL, e_PL, e_KP, e_NP, e_IP, e_BP, e_LP, e_IIs, e_BBs, e_LLs, e_PPs, e_IIn, e_BBn, e_LLn, e_PPn, e_IIk, e_BBk, e_LLk, e_PPk, e_Ks, e_Ns, e_Is, e_Bs, e_Ls, e_Ps, e_Kn, e_Nn, e_In, e_Bn, e_Ln, e_Pn, if_true, if_false, and_self, or_true, true_or, not_false_eq_true, Bool.false_eq_true]; decide) | decide)))
      exact z9
    · have v1 : y_I Z' 2210 (54 * s + k) = nI n := rv.trans z
      have ng : ¬ nI n < 0 := nI_pos (by omega)
      have xn := i_ix (show n < 80 by omega) (by decide)
      have cn := i_cl (show n < 2 ^ 31 by omega)
      have at9 : y_I Z' 418 n = y_I h 418 n := eS g' _ (by omega) (by omega) (by omega) n
      have p19 : y_I Z' 482 n = y_I h 482 n := eS g' _ (by omega) (by omega) (by omega) n
      by_cases q : y_I h 418 n = 3 ∧ y_I h 482 n = nI s
      · have hh : nI n = y_I h 2210 (54 * s + k) := by
          rcases I.2.2 k (by omega) with y | ⟨y, m', hm', y1, y2⟩
          · exact z.symm.trans y
          · rw [z, i_eq (by omega)] at y1
            rw [← y1] at y2
            exact absurd q y2.2.2
        have z9 := step (nI n) hh
        (repeat (first | with_reducible apply wp_jn | ((with_reducible apply wp_be); · first | (simp (disch := omega) only [le, WZ'.2, em, xm, cm, v1, ng, xn, cn, at9, p19, q.1, q.2, e_KI, e_NI, e_BI, e_LI, e_PI, e_KB, e_NB, e_IB, e_LB, e_PB, e_KL, e_NL, e_IL, e_BL, e_PL, e_KP, e_NP, e_IP, e_BP, e_LP, e_IIs, e_BBs, e_LLs, e_PPs, e_IIn, e_BBn, e_LLn, e_PPn, e_IIk, e_BBk, e_LLk, e_PPk, e_Ks, e_Ns, e_Is, e_Bs, e_Ls, e_Ps, e_Kn, e_Nn, e_In, e_Bn, e_Ln, e_Pn, if_true, if_false, and_self, or_true, true_or, not_false_eq_true, Bool.false_eq_true]; exact rfl) | exact rfl) | ((with_reducible apply wp_ce); · first | (simp (disch := omega) only [le, WZ'.2, em, xm, cm, v1, ng, xn, cn, at9, p19, q.1, q.2, e_KI, e_NI, e_BI, e_LI, e_PI, e_KB, e_NB, e_IB, e_LB, e_PB, e_KL, e_NL, e_IL, e_BL, e_PL, e_KP, e_NP, e_IP, e_BP, e_LP, e_IIs, e_BBs, e_LLs, e_PPs, e_IIn, e_BBn, e_LLn, e_PPn, e_IIk, e_BBk, e_LLk, e_PPk, e_Ks, e_Ns, e_Is, e_Bs, e_Ls, e_Ps, e_Kn, e_Nn, e_In, e_Bn, e_Ln, e_Pn, if_true, if_false, and_self, or_true, true_or, not_false_eq_true, Bool.false_eq_true]; exact rfl) | exact rfl) | ((with_reducible apply wp_g); · first | (simp (disch := omega) only [le, WZ'.2, em, xm, cm, v1, ng, xn, cn, at9, p19, q.1, q.2, e_KI, e_NI, e_BI, e_LI, e_PI, e_KB, e_NB, e_IB, e_LB, e_PB, e_KL, e_NL, e_IL, e_BL, e_PL, e_KP, e_NP, e_IP, e_BP, e_LP, e_IIs, e_BBs, e_LLs, e_PPs, e_IIn, e_BBn, e_LLn, e_PPn, e_IIk, e_BBk, e_LLk, e_PPk, e_Ks, e_Ns, e_Is, e_Bs, e_Ls, e_Ps, e_Kn, e_Nn, e_In, e_Bn, e_Ln, e_Pn, if_true, if_false, and_self, or_true, true_or, not_false_eq_true, Bool.false_eq_true]; done) | (simp (disch := omega) only [le, WZ'.2, em, xm, cm, v1, ng, xn, cn, at9, p19, q.1, q.2, e_KI, e_NI, e_BI, e_LI, e_PI, e_KB, e_NB, e_IB, e_LB, e_PB, e_KL, e_NL, e_IL, e_BL, e_PL, e_KP, e_NP, e_IP, e_BP, e_LP, e_IIs, e_BBs, e_LLs, e_PPs, e_IIn, e_BBn, e_LLn, e_PPn, e_IIk, e_BBk, e_LLk, e_PPk, e_Ks, e_Ns, e_Is, e_Bs, e_Ls, e_Ps, e_Kn, e_Nn, e_In, e_Bn, e_Ln, e_Pn, if_true, if_false, and_self, or_true, true_or, not_false_eq_true, Bool.false_eq_true]; decide) | decide) | ((with_reducible apply wp_pos); · first | (simp (disch := omega) only [le, WZ'.2, em, xm, cm, v1, ng, xn, cn, at9, p19, q.1, q.2, e_KI, e_NI, e_BI, e_LI, e_PI, e_KB, e_NB, e_IB, e_LB, e_PB, e_KL, e_NL, e_IL, e_BL, e_PL, e_KP, e_NP, e_IP, e_BP, e_LP, e_IIs, e_BBs, e_LLs, e_PPs, e_IIn, e_BBn, e_LLn, e_PPn, e_IIk, e_BBk, e_LLk, e_PPk, e_Ks, e_Ns, e_Is, e_Bs, e_Ls, e_Ps, e_Kn, e_Nn, e_In, e_Bn, e_Ln, e_Pn, if_true, if_false, and_self, or_true, true_or, not_false_eq_true, Bool.false_eq_true]; done) | (simp (disch := omega) only [le, WZ'.2, em, xm, cm, v1, ng, xn, cn, at9, p19, q.1, q.2, e_KI, e_NI, e_BI, e_LI, e_PI, e_KB, e_NB, e_IB, e_LB, e_PB, e_KL, e_NL, e_IL, e_BL, e_PL, e_KP, e_NP, e_IP, e_BP, e_LP, e_IIs, e_BBs, e_LLs, e_PPs, e_IIn, e_BBn, e_LLn, e_PPn, e_IIk, e_BBk, e_LLk, e_PPk, e_Ks, e_Ns, e_Is, e_Bs, e_Ls, e_Ps, e_Kn, e_Nn, e_In, e_Bn, e_Ln, e_Pn, if_true, if_false, and_self, or_true, true_or, not_false_eq_true, Bool.false_eq_true]; decide) | decide) | ((with_reducible apply wp_neg); · first | (simp (disch := omega) only [le, WZ'.2, em, xm, cm, v1, ng, xn, cn, at9, p19, q.1, q.2, e_KI, e_NI, e_BI, e_LI, e_PI, e_KB, e_NB, e_IB, e_LB, e_PB, e_KL, e_NL, e_IL, e_BL, e_PL, e_KP, e_NP, e_IP, e_BP, e_LP, e_IIs, e_BBs, e_LLs, e_PPs, e_IIn, e_BBn, e_LLn, e_PPn, e_IIk, e_BBk, e_LLk, e_PPk, e_Ks, e_Ns, e_Is, e_Bs, e_Ls, e_Ps, e_Kn, e_Nn, e_In, e_Bn, e_Ln, e_Pn, if_true, if_false, and_self, or_true, true_or, not_false_eq_true, Bool.false_eq_true]; done) | (simp (disch := omega) only [le, WZ'.2, em, xm, cm, v1, ng, xn, cn, at9, p19, q.1, q.2, e_KI, e_NI, e_BI, e_LI, e_PI, e_KB, e_NB, e_IB, e_LB, e_PB, e_KL, e_NL, e_IL, e_BL, e_PL, e_KP, e_NP, e_IP, e_BP, e_LP, e_IIs, e_BBs, e_LLs, e_PPs, e_IIn, e_BBn, e_LLn, e_PPn, e_IIk, e_BBk, e_LLk, e_PPk, e_Ks, e_Ns, e_Is, e_Bs, e_Ls, e_Ps, e_Kn, e_Nn, e_In, e_Bn, e_Ln, e_Pn, if_true, if_false, and_self, or_true, true_or, not_false_eq_true, Bool.false_eq_true]; decide) | decide)))
        exact z9
      · have hh : (-1 : Int32) = y_I h 2210 (54 * s + k) := by
          rcases I.2.2 k (by omega) with y | ⟨y, -⟩
          · rw [z] at y
            rcases rP.2.2.1 s k hs (by omega) with y1 | ⟨m', hm', y1, y2, y3, -⟩
            · exact y1.symm
            · rw [← y, i_eq (by omega)] at y1
              rw [← y1] at y2 y3
              exact absurd ⟨y2, y3⟩ q
          · exact y.symm
        have z9 := step (-1) hh
        by_cases q3 : y_I h 418 n = 3
        · have q4 : ¬ y_I h 482 n = nI s := fun y => q ⟨q3, y⟩
          (repeat (first | with_reducible apply wp_jn | ((with_reducible apply wp_be); · first | (simp (disch := omega) only [le, WZ'.2, em, xm, cm, v1, ng, xn, cn, at9, p19, q3, q4, e_KI, e_NI, e_BI, e_LI, e_PI, e_KB, e_NB, e_IB, e_LB, e_PB, e_KL, e_NL, e_IL, e_BL, e_PL, e_KP, e_NP, e_IP, e_BP, e_LP, e_IIs, e_BBs, e_LLs, e_PPs, e_IIn, e_BBn, e_LLn, e_PPn, e_IIk, e_BBk, e_LLk, e_PPk, e_Ks, e_Ns, e_Is, e_Bs, e_Ls, e_Ps, e_Kn, e_Nn, e_In, e_Bn, e_Ln, e_Pn, if_true, if_false, and_self, or_true, true_or, not_false_eq_true, Bool.false_eq_true]; exact rfl) | exact rfl) | ((with_reducible apply wp_ce); · first | (simp (disch := omega) only [le, WZ'.2, em, xm, cm, v1, ng, xn, cn, at9, p19, q3, q4, e_KI, e_NI, e_BI, e_LI, e_PI, e_KB, e_NB, e_IB, e_LB, e_PB, e_KL, e_NL, e_IL, e_BL, e_PL, e_KP, e_NP, e_IP, e_BP, e_LP, e_IIs, e_BBs, e_LLs, e_PPs, e_IIn, e_BBn, e_LLn, e_PPn, e_IIk, e_BBk, e_LLk, e_PPk, e_Ks, e_Ns, e_Is, e_Bs, e_Ls, e_Ps, e_Kn, e_Nn, e_In, e_Bn, e_Ln, e_Pn, if_true, if_false, and_self, or_true, true_or, not_false_eq_true, Bool.false_eq_true]; exact rfl) | exact rfl) | ((with_reducible apply wp_g); · first | (simp (disch := omega) only [le, WZ'.2, em, xm, cm, v1, ng, xn, cn, at9, p19, q3, q4, e_KI, e_NI, e_BI, e_LI, e_PI, e_KB, e_NB, e_IB, e_LB, e_PB, e_KL, e_NL, e_IL, e_BL, e_PL, e_KP, e_NP, e_IP, e_BP, e_LP, e_IIs, e_BBs, e_LLs, e_PPs, e_IIn, e_BBn, e_LLn, e_PPn, e_IIk, e_BBk, e_LLk, e_PPk, e_Ks, e_Ns, e_Is, e_Bs, e_Ls, e_Ps, e_Kn, e_Nn, e_In, e_Bn, e_Ln, e_Pn, if_true, if_false, and_self, or_true, true_or, not_false_eq_true, Bool.false_eq_true]; done) | (simp (disch := omega) only [le, WZ'.2, em, xm, cm, v1, ng, xn, cn, at9, p19, q3, q4, e_KI, e_NI, e_BI, e_LI, e_PI, e_KB, e_NB, e_IB, e_LB, e_PB, e_KL, e_NL, e_IL, e_BL, e_PL, e_KP, e_NP, e_IP, e_BP, e_LP, e_IIs, e_BBs, e_LLs, e_PPs, e_IIn, e_BBn, e_LLn, e_PPn, e_IIk, e_BBk, e_LLk, e_PPk, e_Ks, e_Ns, e_Is, e_Bs, e_Ls, e_Ps, e_Kn, e_Nn, e_In, e_Bn, e_Ln, e_Pn, if_true, if_false, and_self, or_true, true_or, not_false_eq_true, Bool.false_eq_true]; decide) | decide) | ((with_reducible apply wp_pos); · first | (simp (disch := omega) only [le, WZ'.2, em, xm, cm, v1, ng, xn, cn, at9, p19, q3, q4, e_KI, e_NI, e_BI, e_LI, e_PI, e_KB, e_NB, e_IB, e_LB, e_PB, e_KL, e_NL, e_IL, e_BL, e_PL, e_KP, e_NP, e_IP, e_BP, e_LP, e_IIs, e_BBs, e_LLs, e_PPs, e_IIn, e_BBn, e_LLn, e_PPn, e_IIk, e_BBk, e_LLk, e_PPk, e_Ks, e_Ns, e_Is, e_Bs, e_Ls, e_Ps, e_Kn, e_Nn, e_In, e_Bn, e_Ln, e_Pn, if_true, if_false, and_self, or_true, true_or, not_false_eq_true, Bool.false_eq_true]; done) | (simp (disch := omega) only [le, WZ'.2, em, xm, cm, v1, ng, xn, cn, at9, p19, q3, q4, e_KI, e_NI, e_BI, e_LI, e_PI, e_KB, e_NB, e_IB, e_LB, e_PB, e_KL, e_NL, e_IL, e_BL, e_PL, e_KP, e_NP, e_IP, e_BP, e_LP, e_IIs, e_BBs, e_LLs, e_PPs, e_IIn, e_BBn, e_LLn, e_PPn, e_IIk, e_BBk, e_LLk, e_PPk, e_Ks, e_Ns, e_Is, e_Bs, e_Ls, e_Ps, e_Kn, e_Nn, e_In, e_Bn, e_Ln, e_Pn, if_true, if_false, and_self, or_true, true_or, not_false_eq_true, Bool.false_eq_true]; decide) | decide) | ((with_reducible apply wp_neg); · first | (simp (disch := omega) only [le, WZ'.2, em, xm, cm, v1, ng, xn, cn, at9, p19, q3, q4, e_KI, e_NI, e_BI, e_LI, e_PI, e_KB, e_NB, e_IB, e_LB, e_PB, e_KL, e_NL, e_IL, e_BL, e_PL, e_KP, e_NP, e_IP, e_BP, e_LP, e_IIs, e_BBs, e_LLs, e_PPs, e_IIn, e_BBn, e_LLn, e_PPn, e_IIk, e_BBk, e_LLk, e_PPk, e_Ks, e_Ns, e_Is, e_Bs, e_Ls, e_Ps, e_Kn, e_Nn, e_In, e_Bn, e_Ln, e_Pn, if_true, if_false, and_self, or_true, true_or, not_false_eq_true, Bool.false_eq_true]; done) | (simp (disch := omega) only [le, WZ'.2, em, xm, cm, v1, ng, xn, cn, at9, p19, q3, q4, e_KI, e_NI, e_BI, e_LI, e_PI, e_KB, e_NB, e_IB, e_LB, e_PB, e_KL, e_NL, e_IL, e_BL, e_PL, e_KP, e_NP, e_IP, e_BP, e_LP, e_IIs, e_BBs, e_LLs, e_PPs, e_IIn, e_BBn, e_LLn, e_PPn, e_IIk, e_BBk, e_LLk, e_PPk, e_Ks, e_Ns, e_Is, e_Bs, e_Ls, e_Ps, e_Kn, e_Nn, e_In, e_Bn, e_Ln, e_Pn, if_true, if_false, and_self, or_true, true_or, not_false_eq_true, Bool.false_eq_true]; decide) | decide)))
          exact z9
        · (repeat (first | with_reducible apply wp_jn | ((with_reducible apply wp_be); · first | (simp (disch := omega) only [le, WZ'.2, em, xm, cm, v1, ng, xn, cn, at9, q3, e_KI, e_NI, e_BI, e_LI, e_PI, e_KB, e_NB, e_IB, e_LB, e_PB, e_KL, e_NL, e_IL, e_BL, e_PL, e_KP, e_NP, e_IP, e_BP, e_LP, e_IIs, e_BBs, e_LLs, e_PPs, e_IIn, e_BBn, e_LLn, e_PPn, e_IIk, e_BBk, e_LLk, e_PPk, e_Ks, e_Ns, e_Is, e_Bs, e_Ls, e_Ps, e_Kn, e_Nn, e_In, e_Bn, e_Ln, e_Pn, if_true, if_false, and_self, or_true, true_or, not_false_eq_true, Bool.false_eq_true]; exact rfl) | exact rfl) | ((with_reducible apply wp_ce); · first | (simp (disch := omega) only [le, WZ'.2, em, xm, cm, v1, ng, xn, cn, at9, q3, e_KI, e_NI, e_BI, e_LI, e_PI, e_KB, e_NB, e_IB, e_LB, e_PB, e_KL, e_NL, e_IL, e_BL, e_PL, e_KP, e_NP, e_IP, e_BP, e_LP, e_IIs, e_BBs, e_LLs, e_PPs, e_IIn, e_BBn, e_LLn, e_PPn, e_IIk, e_BBk, e_LLk, e_PPk, e_Ks, e_Ns, e_Is, e_Bs, e_Ls, e_Ps, e_Kn, e_Nn, e_In, e_Bn, e_Ln, e_Pn, if_true, if_false, and_self, or_true, true_or, not_false_eq_true, Bool.false_eq_true]; exact rfl) | exact rfl) | ((with_reducible apply wp_g); · first | (simp (disch := omega) only [le, WZ'.2, em, xm, cm, v1, ng, xn, cn, at9, q3, e_KI, e_NI, e_BI, e_LI, e_PI, e_KB, e_NB, e_IB, e_LB, e_PB, e_KL, e_NL, e_IL, e_BL, e_PL, e_KP, e_NP, e_IP, e_BP, e_LP, e_IIs, e_BBs, e_LLs, e_PPs, e_IIn, e_BBn, e_LLn, e_PPn, e_IIk, e_BBk, e_LLk, e_PPk, e_Ks, e_Ns, e_Is, e_Bs, e_Ls, e_Ps, e_Kn, e_Nn, e_In, e_Bn, e_Ln, e_Pn, if_true, if_false, and_self, or_true, true_or, not_false_eq_true, Bool.false_eq_true]; done) | (simp (disch := omega) only [le, WZ'.2, em, xm, cm, v1, ng, xn, cn, at9, q3, e_KI, e_NI, e_BI, e_LI, e_PI, e_KB, e_NB, e_IB, e_LB, e_PB, e_KL, e_NL, e_IL, e_BL, e_PL, e_KP, e_NP, e_IP, e_BP, e_LP, e_IIs, e_BBs, e_LLs, e_PPs, e_IIn, e_BBn, e_LLn, e_PPn, e_IIk, e_BBk, e_LLk, e_PPk, e_Ks, e_Ns, e_Is, e_Bs, e_Ls, e_Ps, e_Kn, e_Nn, e_In, e_Bn, e_Ln, e_Pn, if_true, if_false, and_self, or_true, true_or, not_false_eq_true, Bool.false_eq_true]; decide) | decide) | ((with_reducible apply wp_pos); · first | (simp (disch := omega) only [le, WZ'.2, em, xm, cm, v1, ng, xn, cn, at9, q3, e_KI, e_NI, e_BI, e_LI, e_PI, e_KB, e_NB, e_IB, e_LB, e_PB, e_KL, e_NL, e_IL, e_BL, e_PL, e_KP, e_NP, e_IP, e_BP, e_LP, e_IIs, e_BBs, e_LLs, e_PPs, e_IIn, e_BBn, e_LLn, e_PPn, e_IIk, e_BBk, e_LLk, e_PPk, e_Ks, e_Ns, e_Is, e_Bs, e_Ls, e_Ps, e_Kn, e_Nn, e_In, e_Bn, e_Ln, e_Pn, if_true, if_false, and_self, or_true, true_or, not_false_eq_true, Bool.false_eq_true]; done) | (simp (disch := omega) only [le, WZ'.2, em, xm, cm, v1, ng, xn, cn, at9, q3, e_KI, e_NI, e_BI, e_LI, e_PI, e_KB, e_NB, e_IB, e_LB, e_PB, e_KL, e_NL, e_IL, e_BL, e_PL, e_KP, e_NP, e_IP, e_BP, e_LP, e_IIs, e_BBs, e_LLs, e_PPs, e_IIn, e_BBn, e_LLn, e_PPn, e_IIk, e_BBk, e_LLk, e_PPk, e_Ks, e_Ns, e_Is, e_Bs, e_Ls, e_Ps, e_Kn, e_Nn, e_In, e_Bn, e_Ln, e_Pn, if_true, if_false, and_self, or_true, true_or, not_false_eq_true, Bool.false_eq_true]; decide) | decide) | ((with_reducible apply wp_neg); · first | (simp (disch := omega) only [le, WZ'.2, em, xm, cm, v1, ng, xn, cn, at9, q3, e_KI, e_NI, e_BI, e_LI, e_PI, e_KB, e_NB, e_IB, e_LB, e_PB, e_KL, e_NL, e_IL, e_BL, e_PL, e_KP, e_NP, e_IP, e_BP, e_LP, e_IIs, e_BBs, e_LLs, e_PPs, e_IIn, e_BBn, e_LLn, e_PPn, e_IIk, e_BBk, e_LLk, e_PPk, e_Ks, e_Ns, e_Is, e_Bs, e_Ls, e_Ps, e_Kn, e_Nn, e_In, e_Bn, e_Ln, e_Pn, if_true, if_false, and_self, or_true, true_or, not_false_eq_true, Bool.false_eq_true]; done) | (simp (disch := omega) only [le, WZ'.2, em, xm, cm, v1, ng, xn, cn, at9, q3, e_KI, e_NI, e_BI, e_LI, e_PI, e_KB, e_NB, e_IB, e_LB, e_PB, e_KL, e_NL, e_IL, e_BL, e_PL, e_KP, e_NP, e_IP, e_BP, e_LP, e_IIs, e_BBs, e_LLs, e_PPs, e_IIn, e_BBn, e_LLn, e_PPn, e_IIk, e_BBk, e_LLk, e_PPk, e_Ks, e_Ns, e_Is, e_Bs, e_Ls, e_Ps, e_Kn, e_Nn, e_In, e_Bn, e_Ln, e_Pn, if_true, if_false, and_self, or_true, true_or, not_false_eq_true, Bool.false_eq_true]; decide) | decide)))
          exact z9
  · intro j2 hj2
    rcases st with ⟨hm, b9, ev2, st⟩ | ⟨hm, hi9, cq, fz, ev3, b1, b2, b3⟩
    rotate_left
    · have n9 : ¬ nI (f i) = -9 := by
        rw [i_ne9 (by have := fN i hi9; omega)]
        exact fun z => z
      have z := hj2 (Or.inr ⟨i, hi9, cq, fz, o, b1, b2, b3⟩)
      rw [ev3]
      (repeat (first | with_reducible apply wp_jn | ((with_reducible apply wp_be); · first | (simp (disch := omega) only [n9, WZ.2, b1, e_KI, e_NI, e_BI, e_LI, e_PI, e_KB, e_NB, e_IB, e_LB, e_PB, e_KL, e_NL, e_IL, e_BL, e_PL, e_KP, e_NP, e_IP, e_BP, e_LP, e_IIs, e_BBs, e_LLs, e_PPs, e_IIn, e_BBn, e_LLn, e_PPn, e_IIk, e_BBk, e_LLk, e_PPk, e_Ks, e_Ns, e_Is, e_Bs, e_Ls, e_Ps, e_Kn, e_Nn, e_In, e_Bn, e_Ln, e_Pn, if_true, if_false, and_self, or_true, true_or, not_false_eq_true, Bool.false_eq_true]; exact rfl) | exact rfl) | ((with_reducible apply wp_ce); · first | (simp (disch := omega) only [n9, WZ.2, b1, e_KI, e_NI, e_BI, e_LI, e_PI, e_KB, e_NB, e_IB, e_LB, e_PB, e_KL, e_NL, e_IL, e_BL, e_PL, e_KP, e_NP, e_IP, e_BP, e_LP, e_IIs, e_BBs, e_LLs, e_PPs, e_IIn, e_BBn, e_LLn, e_PPn, e_IIk, e_BBk, e_LLk, e_PPk, e_Ks, e_Ns, e_Is, e_Bs, e_Ls, e_Ps, e_Kn, e_Nn, e_In, e_Bn, e_Ln, e_Pn, if_true, if_false, and_self, or_true, true_or, not_false_eq_true, Bool.false_eq_true]; exact rfl) | exact rfl) | ((with_reducible apply wp_g); · first | (simp (disch := omega) only [n9, WZ.2, b1, e_KI, e_NI, e_BI, e_LI, e_PI, e_KB, e_NB, e_IB, e_LB, e_PB, e_KL, e_NL, e_IL, e_BL, e_PL, e_KP, e_NP, e_IP, e_BP, e_LP, e_IIs, e_BBs, e_LLs, e_PPs, e_IIn, e_BBn, e_LLn, e_PPn, e_IIk, e_BBk, e_LLk, e_PPk, e_Ks, e_Ns, e_Is, e_Bs, e_Ls, e_Ps, e_Kn, e_Nn, e_In, e_Bn, e_Ln, e_Pn, if_true, if_false, and_self, or_true, true_or, not_false_eq_true, Bool.false_eq_true]; done) | (simp (disch := omega) only [n9, WZ.2, b1, e_KI, e_NI, e_BI, e_LI, e_PI, e_KB, e_NB, e_IB, e_LB, e_PB, e_KL, e_NL, e_IL, e_BL, e_PL, e_KP, e_NP, e_IP, e_BP, e_LP, e_IIs, e_BBs, e_LLs, e_PPs, e_IIn, e_BBn, e_LLn, e_PPn, e_IIk, e_BBk, e_LLk, e_PPk, e_Ks, e_Ns, e_Is, e_Bs, e_Ls, e_Ps, e_Kn, e_Nn, e_In, e_Bn, e_Ln, e_Pn, if_true, if_false, and_self, or_true, true_or, not_false_eq_true, Bool.false_eq_true]; decide) | decide) | ((with_reducible apply wp_pos); · first | (simp (disch := omega) only [n9, WZ.2, b1, e_KI, e_NI, e_BI, e_LI, e_PI, e_KB, e_NB, e_IB, e_LB, e_PB, e_KL, e_NL, e_IL, e_BL, e_PL, e_KP, e_NP, e_IP, e_BP, e_LP, e_IIs, e_BBs, e_LLs, e_PPs, e_IIn, e_BBn, e_LLn, e_PPn, e_IIk, e_BBk, e_LLk, e_PPk, e_Ks, e_Ns, e_Is, e_Bs, e_Ls, e_Ps, e_Kn, e_Nn, e_In, e_Bn, e_Ln, e_Pn, if_true, if_false, and_self, or_true, true_or, not_false_eq_true, Bool.false_eq_true]; done) | (simp (disch := omega) only [n9, WZ.2, b1, e_KI, e_NI, e_BI, e_LI, e_PI, e_KB, e_NB, e_IB, e_LB, e_PB, e_KL, e_NL, e_IL, e_BL, e_PL, e_KP, e_NP, e_IP, e_BP, e_LP, e_IIs, e_BBs, e_LLs, e_PPs, e_IIn, e_BBn, e_LLn, e_PPn, e_IIk, e_BBk, e_LLk, e_PPk, e_Ks, e_Ns, e_Is, e_Bs, e_Ls, e_Ps, e_Kn, e_Nn, e_In, e_Bn, e_Ln, e_Pn, if_true, if_false, and_self, or_true, true_or, not_false_eq_true, Bool.false_eq_true]; decide) | decide) | ((with_reducible apply wp_neg); · first | (simp (disch := omega) only [n9, WZ.2, b1, e_KI, e_NI, e_BI, e_LI, e_PI, e_KB, e_NB, e_IB, e_LB, e_PB, e_KL, e_NL, e_IL, e_BL, e_PL, e_KP, e_NP, e_IP, e_BP, e_LP, e_IIs, e_BBs, e_LLs, e_PPs, e_IIn, e_BBn, e_LLn, e_PPn, e_IIk, e_BBk, e_LLk, e_PPk, e_Ks, e_Ns, e_Is, e_Bs, e_Ls, e_Ps, e_Kn, e_Nn, e_In, e_Bn, e_Ln, e_Pn, if_true, if_false, and_self, or_true, true_or, not_false_eq_true, Bool.false_eq_true]; done) | (simp (disch := omega) only [n9, WZ.2, b1, e_KI, e_NI, e_BI, e_LI, e_PI, e_KB, e_NB, e_IB, e_LB, e_PB, e_KL, e_NL, e_IL, e_BL, e_PL, e_KP, e_NP, e_IP, e_BP, e_LP, e_IIs, e_BBs, e_LLs, e_PPs, e_IIn, e_BBn, e_LLn, e_PPn, e_IIk, e_BBk, e_LLk, e_PPk, e_Ks, e_Ns, e_Is, e_Bs, e_Ls, e_Ps, e_Kn, e_Nn, e_In, e_Bn, e_Ln, e_Pn, if_true, if_false, and_self, or_true, true_or, not_false_eq_true, Bool.false_eq_true]; decide) | decide)))
      exact z
    rcases st with ⟨hi9, cq, ev3⟩ | ⟨ei, ev3⟩
    rotate_left
    · have z := hj2 (Or.inl ⟨b9, by rw [← ei]; exact o⟩)
      rw [ev3]
      refine wp_pos rfl ?_
      exact z
    have hfi := fN i hi9
    have n9 : ¬ nI (f i) = -9 := by
      rw [i_ne9 (by omega)]
      exact fun z => z
    have hh2 : ∀ k, k < 54 → y_I Z 2210 (54 * s + k) = -1 ∨ ∃ n, n < N ∧ y_I Z 2210 (54 * s + k) = nI n := fun k hk => by
      rw [row]
      exact vinv_hh rP hs I k hk
    have q2 : ∀ n, kn Z n = kn h n := fun n => kn_e (eS g _ (by omega) (by omega) (by omega)) (eS g _ (by omega) (by omega) (by omega)) (fun m => by rw [g.2.2.1]; exact mm.B (by omega)) n
    have fi := m_fits (G := Z) (s := s) (u := u) (v := v) (w := w) (N := N) (n := f i) WZ (by omega) hu hv hw ((eS g _ (by omega) (by omega) (by omega) s).trans eu) ((eS g _ (by omega) (by omega) (by omega) s).trans ev) ((eS g _ (by omega) (by omega) (by omega) s).trans ew) hN hh2 (by omega) ((eS g _ (by omega) (by omega) (by omega) _).trans cq.1)
    have fe : fj u v w (y_I Z 738 (f i)) (y_I Z 802 (f i)) (y_I Z 866 (f i)) (fun j => decide (¬ y_I Z 2210 (54 * s + j) < 0)) (fun d => tot Z s u v d (u * v * w)) (fun d => y_I Z 2274 (3 * s + d)) (kn Z (f i)) = fjv h s u v w f i := by
      unfold fjv
      rw [eS g 738 (by omega) (by omega) (by omega), eS g 802 (by omega) (by omega) (by omega), eS g 866 (by omega) (by omega) (by omega), q2]
      congr 1
      · funext j
        rw [row]
      · funext d
        exact tot_ag (funext row) (fun n => (q2 n).trans (vinv_kn I n).symm) _
      · funext d
        exact eS g 2274 (by omega) (by omega) (by omega) _
    rw [fe] at fi
    rw [ev3, ev2]
    by_cases fz : fjv h s u v w f i = 0
    · obtain ⟨f1, f2, f3⟩ := vh_free (L := L) rP hN hs hu hv hw I fz
      obtain ⟨x, y, z9, hx, hy, hz, el1, el2, el3, el4, lt, l54⟩ := lcel_lt hu hv hw f3
      have ln := m_linked (G := Z) (s := s) (n := f i) (u := u) (v := v) (x := x) (y := y) (z := z9) WZ (by omega) (by omega) ((eS g _ (by omega) (by omega) (by omega) s).trans eu) ((eS g _ (by omega) (by omega) (by omega) s).trans ev) ((eS g _ (by omega) (by omega) (by omega) _).trans cq.1) ((eS g _ (by omega) (by omega) (by omega) _).trans el1) ((eS g _ (by omega) (by omega) (by omega) _).trans el2) ((eS g _ (by omega) (by omega) (by omega) _).trans el3)
      rw [← el4] at ln
      have em : (54 : Int32) * nI s + nI (lcel h u v (f i)) = nI (54 * s + lcel h u v (f i)) := by rw [i_m54, i_add]
      have xm := i_ix (show 54 * s + lcel h u v (f i) < 162 by omega) (by decide)
      have cm := i_cl (show 54 * s + lcel h u v (f i) < 2 ^ 31 by omega)
      have g1 : sx2 G (s_I Z 2210 (54 * s + lcel h u v (f i)) (nI (f i))) := g.sI (Or.inl rfl)
      have row1 : ∀ x, y_I (s_I Z 2210 (54 * s + lcel h u v (f i)) (nI (f i))) 2210 x = y_I (vh h s u v f (i + 1)) 2210 x := fun x => by
        rw [show vh h s u v f (i + 1) = s_I (vh h s u v f i) 2210 (54 * s + lcel h u v (f i)) (nI (f i)) from if_pos cq, e_II, e_II, row]
      have b91 : y_I (s_I Z 2210 (54 * s + lcel h u v (f i)) (nI (f i))) 11 52 = -9 := by
        rw [e_IIn (by omega)]
        exact b9
      obtain ⟨Z1, eZ1⟩ : ∃ Z1, Z1 = s_I Z 2210 (54 * s + lcel h u v (f i)) (nI (f i)) := ⟨_, rfl⟩
      rw [← eZ1] at g1 row1 b91
      have WZ1 := g1.wf W
      have nx := m_next (h := h) (G := Z1) (s := s) (τ := y_I h 930 (f i)) WZ1 hN (eN g1) (eS g1 _ (by omega) (by omega) (by omega)) (eS g1 _ (by omega) (by omega) (by omega)) (eS g1 _ (by omega) (by omega) (by omega)) (eS g1 _ (by omega) (by omega) (by omega))
      obtain ⟨r48, Z2, enx, eZ2, q⟩ := wp_ex nx
      rw [eZ2] at enx
      obtain ⟨k, hk1, hk2, sk, stk9⟩ := nx_of fN inc all (by omega) (show i + 1 ≤ L by omega) (fun j hj => ⟨fun z => by
        refine Decidable.byContradiction fun y => z ?_
        by_cases ej : j = i
        · rw [ej]; exact Int32.le_refl _
        · exact Int32.le_of_lt (inc j i (by omega) hi9), fun y => Int32.not_le.mpr (inc i j (by omega) hj)⟩) q
      obtain ⟨vk, ak9, ok⟩ := vh_skip (h := h) (s := s) (u := u) (v := v) (w := w) (f := f) k hk1 sk
      have ok := ok (okv_s o (fun _ => fz))
      have as : ahd h s f (i + 1) = ahd h s f i + 1 := if_pos cq
      have z := IH k (nI (ahd h s f i + 1)) r48 Z1 hk2 g1 (fun x => by rw [row1, vk]) ok (Or.inl ⟨by omega, b91, by rw [ak9, as], stk9⟩)
      rw [← nI_1] at z
      have l0 : nI (fjv h s u v w f i) ≤ 0 := by rw [fz]; decide
      have xn := i_ix (show f i < 80 by omega) (by decide)
      have cn := i_cl (show f i < 2 ^ 31 by omega)
      have tn9 : y_I Z1 930 (f i) = y_I h 930 (f i) := eS g1 _ (by omega) (by omega) (by omega) _
      refine wp_neg n9 (wp_g (by simp only [WZ.2]) (wp_pos b9 (wp_g (by simp only [WZ.2]) (wp_ce fi (wp_jn (wp_pos l0 (wp_g (by simp only [WZ.2]) (wp_g (by simp only [WZ.2]) (wp_ce ln (wp_g (by simp only [WZ.2, em, xm, and_self]) (wp_be (a' := Z1) (by rw [em, cm, eZ1]; simp only [WZ.2]) (wp_g (by simp only [WZ1.2]) (wp_g (by simp only [WZ1.2, xn, and_self]) (wp_g (by simp only [WZ1.2]) (wp_ce (r := r48) (h := Z1) (by rw [cn]; simp only [WZ1.2, tn9]; exact enx) ?_)))))))))))))))
      exact z
    · have l0 : ¬ nI (fjv h s u v w f i) ≤ 0 := by
        have := fj_le (u := u) (v := v) (w := w) (lx := y_I h 738 (f i)) (ly := y_I h 802 (f i)) (lz := y_I h 866 (f i)) (tk := fun j => decide (¬ y_I (vh h s u v f i) 2210 (54 * s + j) < 0)) (T := fun d => tot (vh h s u v f i) s u v d (u * v * w)) (lim := fun d => y_I h 2274 (3 * s + d)) (q := kn h (f i))
        rcases this with z | z | z | z
        · exact absurd z fz
        · rw [show fjv h s u v w f i = 12 from z]; decide
        · rw [show fjv h s u v w f i = 13 from z]; decide
        · rw [show fjv h s u v w f i = 62 from z]; decide
      have cAe : cA (fjv h s u v w f i) = if nI (fjv h s u v w f i) = 62 then -62 else -40 - nI (fjv h s u v w f i) := by
        have := fj_le (u := u) (v := v) (w := w) (lx := y_I h 738 (f i)) (ly := y_I h 802 (f i)) (lz := y_I h 866 (f i)) (tk := fun j => decide (¬ y_I (vh h s u v f i) 2210 (54 * s + j) < 0)) (T := fun d => tot (vh h s u v f i) s u v d (u * v * w)) (lim := fun d => y_I h 2274 (3 * s + d)) (q := kn h (f i))
        rcases this with z | z | z | z
        · exact absurd z fz
        · rw [show fjv h s u v w f i = 12 from z]; decide
        · rw [show fjv h s u v w f i = 13 from z]; decide
        · rw [show fjv h s u v w f i = 62 from z]; decide
      have fin : ∀ x, x = cA (fjv h s u v w f i) → wp (j 11 (nI s) (nI (ahd h s f i)) (nI (f i)) (s_I (s_I (s_I Z 11 52 (nI (f i))) 11 53 (nI (ahd h s f i))) 11 54 x)) fun r Z => sx2 G Z ∧ (∀ x, y_I Z 2210 x = y_I h 2210 x) ∧ mbr h Z s u v w L f ∧ r = if y_I Z 11 52 = -9 then 1 else 0 := fun x ex => by
        refine IH i _ _ _ hi (((g.sI (by omega)).sI (by omega)).sI (by omega)) (fun y => by rw [e_IIn (by omega), e_IIn (by omega), e_IIn (by omega)]; exact row y) o (Or.inr ⟨by omega, hi9, cq, fz, rfl, ?_, ?_, ?_⟩)
        · simp (disch := omega) only [e_KI, e_NI, e_BI, e_LI, e_PI, e_KB, e_NB, e_IB, e_LB, e_PB, e_KL, e_NL, e_IL, e_BL, e_PL, e_KP, e_NP, e_IP, e_BP, e_LP, e_IIs, e_BBs, e_LLs, e_PPs, e_IIn, e_BBn, e_LLn, e_PPn, e_IIk, e_BBk, e_LLk, e_PPk]
        · simp (disch := omega) only [e_KI, e_NI, e_BI, e_LI, e_PI, e_KB, e_NB, e_IB, e_LB, e_PB, e_KL, e_NL, e_IL, e_BL, e_PL, e_KP, e_NP, e_IP, e_BP, e_LP, e_IIs, e_BBs, e_LLs, e_PPs, e_IIn, e_BBn, e_LLn, e_PPn, e_IIk, e_BBk, e_LLk, e_PPk]
        · rw [e_IIs]; exact ex
      by_cases q62 : nI (fjv h s u v w f i) = 62
      · rw [if_pos q62] at cAe
        have z := fin (-62) cAe.symm
        refine wp_neg n9 (wp_g (by simp only [WZ.2]) (wp_pos b9 (wp_g (by simp only [WZ.2]) (wp_ce fi (wp_jn (wp_neg l0 (wp_g (by simp only [WZ.2]) (wp_bd (wp_g (by simp only [e_KI, WZ.2]) (wp_bd (wp_pos q62 (wp_g (by simp only [e_KI, WZ.2]) (wp_bd ?_)))))))))))))
        exact z
      · rw [if_neg q62] at cAe
        have z := fin (-40 - nI (fjv h s u v w f i)) cAe.symm
        refine wp_neg n9 (wp_g (by simp only [WZ.2]) (wp_pos b9 (wp_g (by simp only [WZ.2]) (wp_ce fi (wp_jn (wp_neg l0 (wp_g (by simp only [WZ.2]) (wp_bd (wp_g (by simp only [e_KI, WZ.2]) (wp_bd (wp_neg q62 (wp_g (by simp only [e_KI, WZ.2]) (wp_bd ?_)))))))))))))
        exact z
end SBD
