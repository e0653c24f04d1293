/-! holds: the class -/
section HB
variable {h X G : y_H} {t e N C S A b m W L : Nat} {H w F B : Nat → Nat} {g : Nat}
theorem c_hasStk (K : y_K X (64 * b + 23) = 2) (e2 : y_I X (64 * b + 23) 7 = nI m) (hm : m ≤ 6) (i : Int32) : f_X1_hasStack (64 * b + 23) i X = some (decide (0 ≤ i ∧ i ≤ nI m - 1), X) := by
  rcases i_cnt i m (by omega) with ⟨s, hs, rfl, hd⟩ | ⟨hd, hne⟩
  · rw [hd]
    simp only [f_X1_hasStack, e2, K, i_n0 (show s < 2 ^ 31 by omega), i_le (show m < 2 ^ 31 ∧ s < 2 ^ 31 by omega), show ¬ m ≤ s by omega, if_true, and_self, e_cl, e_bd, e_jn, if_false]
  · rw [hd]
    simp only [f_X1_hasStack, e2, K, if_true, and_self, e_cl, e_bd, e_jn]
    by_cases h0 : i < 0
    · rw [if_pos h0]
    · rw [if_neg h0]
      obtain ⟨j, hj, rfl⟩ := nI_of h0
      have : ¬ j < m := fun q => hne j q rfl
      rw [if_pos ((nI_leI (by omega) hj).mpr (by omega))]
theorem c_copy (w9 : Sh h) (v : vshape h b) (hc : ∀ k, k < 30 → y_P h (64 * b + 33) k = 0 ∨ y_K h (y_P h (64 * b + 33) k) = 3) : wp (f_X4_copy 14 (64 * b + 23) h) fun _ h' => ag (fun a _ => a = 294 ∨ a = 230) (fun _ => False) h h' ∧ (∀ s, s < 6 → y_I h' 294 s = y_I h (64 * b + 32) s) ∧ ∀ k, k < 30 → y_P h' 230 k = y_P h (64 * b + 33) k := by
  suffices Hs : ∀ Q : Unit → y_H → Prop, (∀ h', ag (fun a _ => a = 294 ∨ a = 230) (fun _ => False) h h' ∧ (∀ s, s < 6 → y_I h' 294 s = y_I h (64 * b + 32) s) ∧ (∀ k, k < 30 → y_P h' 230 k = y_P h (64 * b + 33) k) → Q () h') → wp (f_X4_copy 14 (64 * b + 23) h) Q from Hs _ (fun _ q => q)
  intro Q hQ
  obtain ⟨v1, v2, v3, v4, v5, v6, v7, v8, v9, v10, v11, v12, v13, v14, v15⟩ := v
  unfold f_X4_copy
  refine wp_jl (fun p j => ∀ i X, i ≤ 6 → 6 - i < p → ag (fun a _ => a = 294) (fun _ => False) h X → (∀ s, s < i → y_I X 294 s = y_I h (64 * b + 32) s) → wp (j 14 (64 * b + 23) (nI i) X) Q) (fun i _ _ z => absurd z (by omega)) (fun p j IH i X hi hp gx l => ?_) (fun j IH => IH 0 h (by omega) (by unfold y_fu; omega) (ag.refl _ _ _) (fun s hs => absurd hs (by omega)))
  have wX : Sh X := (Sh_ag gx (by intro a k q; (simp only [FSh] at q ⊢) <;> omega) (by intro a q; (simp only [GSh, not_false_eq_true] at q ⊢) <;> omega) w9)
  have K2 : y_K X (64 * b + 23) = 2 := (gx.K fun q => q).trans v2
  by_cases e6 : i = 6
  · subst e6
    have q : (6 : Int32) ≤ nI 6 := by decide
    simp only [q, if_true]
    refine wp_jl (fun p j => ∀ k Y, k ≤ 30 → 30 - k < p → ag (fun a _ => a = 230) (fun _ => False) X Y → (∀ s, s < k → y_P Y 230 s = y_P h (64 * b + 33) s) → wp (j 14 (64 * b + 23) (nI k) Y) Q) (fun i _ _ z => absurd z (by omega)) (fun p j IH2 k Y hk hp2 gy ly => ?_) (fun j IH2 => IH2 0 X (by omega) (by unfold y_fu; omega) (ag.refl _ _ _) (fun s hs => absurd hs (by omega)))
    have wY : Sh Y := (Sh_ag gy (by intro a k q; (simp only [FSh] at q ⊢) <;> omega) (by intro a q; (simp only [GSh, not_false_eq_true] at q ⊢) <;> omega) wX)
    by_cases e3 : k = 30
    · subst e3
      have q : nI 30 ≤ nI 30 := by decide
      simp only [wY.1, q, if_true, wp_some]
      refine hQ _ ⟨(gx.mono (fun a k q => Or.inl q) (fun a q => q)).trans (gy.mono (fun a k q => Or.inr q) (fun a q => q)), fun s hs => ?_, ly⟩
      rw [gy.I (by omega)]
      exact l s hs
    · have q : ¬ nI 30 ≤ nI k := nI_ge (by omega) (by omega)
      have ix := i_ix (show k < 30 by omega) (by decide)
      have ic := i_cl (show k < 2 ^ 31 by omega)
      have k2 : y_K Y (64 * b + 23) = 2 := (gy.K fun q => q).trans K2
      have p4 : y_P Y (64 * b + 23) 4 = 64 * b + 33 := (gy.P (by omega)).trans ((gx.P (by omega)).trans v7)
      have k3 : y_K Y (64 * b + 33) = 103 := (gy.K fun q => q).trans ((gx.K fun q => q).trans v14)
      have n3 : y_N Y (64 * b + 33) = 30 := (gy.N fun q => q).trans ((gx.N fun q => q).trans v15)
      have ev : y_P Y (64 * b + 33) k = y_P h (64 * b + 33) k := (gy.P (by omega)).trans (gx.P (by omega))
      have ok : (y_P h (64 * b + 33) k = 0 ∨ y_K Y (y_P h (64 * b + 33) k) = 3) = True := eq_true (by
        rcases hc k (by omega) with z | z
        · exact Or.inl z
        · exact Or.inr ((gy.K fun q => q).trans ((gx.K fun q => q).trans z)))
      simp only [wY.1, q, if_true, if_false, k2, p4, k3, n3, ix, ic, ev, ok, and_self, e_bd, nI_1]
      refine IH2 (k + 1) _ (by omega) (by omega) (gy.sP rfl) (fun s hs => ?_)
      by_cases es : s = k
      · rw [es, e_PPs]
      · rw [e_PPk es]
        exact ly s (by omega)
  · have q : ¬ (6 : Int32) ≤ nI i := nI_ge (a := i) (b := 6) (by omega) (by decide)
    have ix := i_ix (show i < 6 by omega) (by decide)
    have ic := i_cl (show i < 2 ^ 31 by omega)
    have p3 : y_P X (64 * b + 23) 3 = 64 * b + 32 := (gx.P (by omega)).trans v6
    have k3 : y_K X (64 * b + 32) = 100 := (gx.K fun q => q).trans v12
    have n3 : y_N X (64 * b + 32) = 6 := (gx.N fun q => q).trans v13
    have ev : y_I X (64 * b + 32) i = y_I h (64 * b + 32) i := gx.I (by omega)
    simp only [wX.1, q, if_true, if_false, K2, p3, k3, n3, ix, ic, ev, and_self, e_bd, nI_1]
    refine IH (i + 1) _ (by omega) (by omega) (gx.sI rfl) (fun s hs => ?_)
    by_cases es : s = i
    · rw [es, e_IIs]
    · rw [e_IIk es]
      exact l s (by omega)
theorem c_hasOrder (W9 : Sh X) (hN : N ≤ 80) (hW : W ≤ 5) (eW : y_I X 14 1 = nI W) (eo : ∀ i, i < W → w i < N ∧ y_P X 38 i = 64 * w i + 20) (ek : ∀ n, n < N → y_K X (64 * n + 20) = 3) (K : y_K X (64 * b + 23) = 2) (en : y_I X (64 * b + 23) 0 = nI b) : ∃ r : Bool, f_X4_hasOrderIn 14 (64 * b + 23) X = some (r, X) ∧ (r = true ↔ ∀ i, i < W → y_I X (64 * w i + 20) 6 = 1 ∧ y_I X (64 * w i + 20) 7 = nI b) := by
  suffices Hs : wp (f_X4_hasOrderIn 14 (64 * b + 23) X) fun r h' => (r = true ↔ ∀ i, i < W → y_I X (64 * w i + 20) 6 = 1 ∧ y_I X (64 * w i + 20) 7 = nI b) ∧ h' = X by
    obtain ⟨r, h', e1, e2, rfl⟩ := wp_ex Hs
    exact ⟨r, e1, e2⟩
  unfold f_X4_hasOrderIn
  refine wp_jl (fun p j => ∀ i, i ≤ W → W - i < p → (∀ k, k < i → y_I X (64 * w k + 20) 6 = 1 ∧ y_I X (64 * w k + 20) 7 = nI b) → wp (j 14 (64 * b + 23) (nI i) X) fun r h' => (r = true ↔ ∀ i, i < W → y_I X (64 * w i + 20) 6 = 1 ∧ y_I X (64 * w i + 20) 7 = nI b) ∧ h' = X) (fun i _ z => absurd z (by omega)) (fun p j IH i hi hp l => ?_) (fun j IH => IH 0 (by omega) (by unfold y_fu; omega) (fun k hk => absurd hk (by omega)))
  by_cases e : i = W
  · subst e
    have q : nI i ≤ nI i := nI_le (Nat.le_refl _) (by omega)
    simp only [W9.1, eW, q, if_true, wp_some]
    exact ⟨⟨fun _ => l, fun _ => trivial⟩, trivial⟩
  · have q : ¬ nI W ≤ nI i := nI_ge (by omega) (by omega)
    have ix := i_ix (show i < 5 by omega) (by decide)
    have ic := i_cl (show i < 2 ^ 31 by omega)
    obtain ⟨o1, o2⟩ := eo i (by omega)
    have ne : ¬ 64 * w i + 20 = 0 := by omega
    have kk := ek (w i) o1
    by_cases c1 : y_I X (64 * w i + 20) 6 = 1
    rotate_left
    · simp only [W9.1, eW, q, if_true, if_false, ix, ic, and_self, e_jn, o2, ne, kk, c1, wp_some]
      exact ⟨⟨fun z => absurd z (by decide), fun z => absurd (z i (by omega)).1 c1⟩, trivial⟩
    by_cases c2 : y_I X (64 * w i + 20) 7 = nI b
    rotate_left
    · simp only [W9.1, eW, q, if_true, if_false, ix, ic, and_self, e_jn, o2, ne, kk, c1, K, en, c2, wp_some]
      exact ⟨⟨fun z => absurd z (by decide), fun z => absurd (z i (by omega)).2 c2⟩, trivial⟩
    simp only [W9.1, eW, q, if_true, if_false, ix, ic, and_self, e_jn, o2, ne, kk, c1, K, en, c2, nI_1]
    refine IH (i + 1) (by omega) (by omega) (fun k hk => ?_)
    by_cases ek9 : k = i
    · rw [ek9]; exact ⟨c1, c2⟩
    · exact l k (by omega)
/-- the walk of the row, in the class -/
theorem c_walk {fr to : Nat → Int32} {Fa Ta cp : Nat} (w9 : Sh h) (hN : N ≤ 80) (hm : m ≤ 6) (hH : ∀ s, s < m → H s ≤ 5) (hW : W ≤ 5) (eW : y_I h 14 1 = nI W) (eo : ∀ i, i < W → w i < N ∧ y_P h 38 i = 64 * w i + 20) (ek : ∀ n, n < N → y_K h (64 * n + 20) = 3) (v : vshape h b) (e2 : y_I h (64 * b + 23) 7 = nI m) (eH : ∀ s, s < m → y_I h (64 * b + 30) s = nI (H s)) (hL : L ≤ cp) (hcp : cp ≤ 4000) (eL : y_I h 14 4 = nI L) (eF : y_P h 14 2 = Fa) (eT : y_P h 14 3 = Ta) (kF : y_K h Fa = 100) (kT : y_K h Ta = 100) (nF : y_N h Fa = cp) (nT : y_N h Ta = cp) (hFa : Fa ≠ 294 ∧ Fa ≠ 230) (hTa : Ta ≠ 294 ∧ Ta ≠ 230) (er : ∀ i, i < L → y_I h Fa i = fr i ∧ y_I h Ta i = to i) (res : Bool) (F0 B0 : Nat → Nat) (I0 : hinv m H (fun n => n < N) F0 B0) (X0 : y_H) (g0 : ag (fun a _ => a = 294 ∨ a = 230) (fun _ => False) h X0) (c0 : ∀ s, s < m → y_I X0 294 s = nI (F0 s) ∧ ∀ t, t < F0 s → y_P X0 230 (5 * s + t) = 64 * B0 (5 * s + t) + 20) (hr : hrun m H w W fr to L 0 F0 B0 0 = res) (oT : f_X4_hasOrderIn 14 (64 * b + 23) h = some (true, h)) (cT : f_X4_copy 14 (64 * b + 23) h = some ((), X0)) : wp (f_X4_rowHolds 14 (64 * b + 23) h) fun r h' => r = res ∧ ag (fun a _ => a = 294 ∨ a = 230) (fun _ => False) h h' := by
  obtain ⟨v1, v2, v3, v4, v5, v6, v7, v8, v9, v10, v11, v12, v13, v14, v15⟩ := v
  unfold f_X4_rowHolds
  simp only [w9.1, oT, cT, e_cl, if_true]
  refine wp_jl (fun p j => ∀ r i F B g X, i + r = L → r < p → g ≤ W → hinv m H (fun n => n < N) F B → ag (fun a _ => a = 294 ∨ a = 230) (fun _ => False) h X → (∀ s, s < m → y_I X 294 s = nI (F s) ∧ ∀ t, t < F s → y_P X 230 (5 * s + t) = 64 * B (5 * s + t) + 20) → hrun m H w W fr to r i F B g = res → wp (j 14 (64 * b + 23) (nI g) (nI i) X) fun r h' => r = res ∧ ag (fun a _ => a = 294 ∨ a = 230) (fun _ => False) h h') (fun _ _ _ _ _ _ _ z => absurd z (by omega)) (fun p j IH r i F B g X hi hp hg I gx cc hz => ?_) (fun j IH => IH L 0 F0 B0 0 X0 (by omega) (by unfold y_fu; omega) (by omega) I0 g0 c0 hr)
  have wX : Sh X := (Sh_ag gx (by intro a k q; (simp only [FSh] at q ⊢) <;> omega) (by intro a q; (simp only [GSh, not_false_eq_true] at q ⊢) <;> omega) w9)
  have e4 : y_I X 14 4 = nI L := (gx.I (by omega)).trans eL
  have e1 : y_I X 14 1 = nI W := (gx.I (by omega)).trans eW
  cases r with
  | zero =>
    have ei : i = L := by omega
    subst ei
    have q : nI i ≤ nI i := nI_le (Nat.le_refl _) (by omega)
    by_cases eg : g = W
    · subst eg
      have hz : decide (g = g) = res := hz
      rw [decide_eq_true rfl] at hz
      simp only [wX.1, e4, e1, q, if_true, wp_some]
      exact ⟨hz, gx⟩
    · have hz : decide (g = W) = res := hz
      rw [decide_eq_false eg] at hz
      have ne : ¬ nI g = nI W := by rw [i_eq (by omega)]; exact eg
      simp only [wX.1, e4, e1, q, if_true, ne, if_false, wp_some]
      exact ⟨hz, gx⟩
  | succ r =>
    have q : ¬ nI L ≤ nI i := nI_ge (by omega) (by omega)
    rw [hrun] at hz
    by_cases eg : g < W
    rotate_left
    · rw [if_neg eg] at hz
      have q2 : nI W ≤ nI g := nI_le (by omega) (by omega)
      simp only [wX.1, e4, e1, q, if_true, if_false, q2, wp_some]
      exact ⟨hz, gx⟩
    rw [if_pos eg] at hz
    have q2 : ¬ nI W ≤ nI g := nI_ge (by omega) (by omega)
    have eF2 : y_P X 14 2 = Fa := (gx.P (by omega)).trans eF
    have eT2 : y_P X 14 3 = Ta := (gx.P (by omega)).trans eT
    have kF2 : y_K X Fa = 100 := (gx.K fun q => q).trans kF
    have kT2 : y_K X Ta = 100 := (gx.K fun q => q).trans kT
    have nF2 : y_N X Fa = cp := (gx.N fun q => q).trans nF
    have nT2 : y_N X Ta = cp := (gx.N fun q => q).trans nT
    have xi := i_ix (show i < cp by omega) (by omega)
    have ci := i_cl (show i < 2 ^ 31 by omega)
    have rF : y_I X Fa i = fr i := (gx.I (by omega)).trans (er i (by omega)).1
    have rT : y_I X Ta i = to i := (gx.I (by omega)).trans (er i (by omega)).2
    have K2 : y_K X (64 * b + 23) = 2 := (gx.K fun q => q).trans v2
    have hst1 := c_hasStk (X := X) (b := b) K2 ((gx.I (by omega)).trans e2) hm (fr i)
    -- the box on top
    have tops : ∀ p, ((decide (0 ≤ fr i ∧ fr i ≤ nI m - 1) = false ∧ p = 0) ∨ ∃ s, s < m ∧ fr i = nI s ∧ decide (0 ≤ fr i ∧ fr i ≤ nI m - 1) = true ∧ (F s = 0 ∧ p = 0 ∨ ∃ f, F s = f + 1 ∧ f < 5 ∧ p = 64 * B (5 * s + f) + 20)) → f_X4_topOf 14 (64 * b + 23) (fr i) X = some (p, X) := fun p hp => by
      rcases hp with ⟨d, rfl⟩ | ⟨s, hs, ea, d, ⟨f0, rfl⟩ | ⟨f, ef, hf, rfl⟩⟩
      · rw [d] at hst1
        unfold f_X4_topOf
        (repeat (first | with_reducible apply ev_jn | ((with_reducible apply ev_bd); · first | (simp (disch := omega) only [K2, hst1, e_KI, e_NI, e_BI, e_LI, e_PI, e_KB, e_NB, e_IB, e_LB, e_PB, e_KL, e_NL, e_IL, e_BL, e_PL, e_KP, e_NP, e_IP, e_BP, e_LP, e_IIs, e_BBs, e_LLs, e_PPs, e_IIn, e_BBn, e_LLn, e_PPn, e_IIk, e_BBk, e_LLk, e_PPk, e_Ks, e_Ns, e_Is, e_Bs, e_Ls, e_Ps, e_Kn, e_Nn, e_In, e_Bn, e_Ln, e_Pn, if_true, if_false, and_self, or_true, true_or, not_false_eq_true, Bool.false_eq_true]; exact rfl) | exact rfl) | ((with_reducible apply ev_cl); · first | (simp (disch := omega) only [K2, hst1, e_KI, e_NI, e_BI, e_LI, e_PI, e_KB, e_NB, e_IB, e_LB, e_PB, e_KL, e_NL, e_IL, e_BL, e_PL, e_KP, e_NP, e_IP, e_BP, e_LP, e_IIs, e_BBs, e_LLs, e_PPs, e_IIn, e_BBn, e_LLn, e_PPn, e_IIk, e_BBk, e_LLk, e_PPk, e_Ks, e_Ns, e_Is, e_Bs, e_Ls, e_Ps, e_Kn, e_Nn, e_In, e_Bn, e_Ln, e_Pn, if_true, if_false, and_self, or_true, true_or, not_false_eq_true, Bool.false_eq_true]; exact rfl) | exact rfl) | ((with_reducible apply ev_g); · first | (simp (disch := omega) only [K2, hst1, e_KI, e_NI, e_BI, e_LI, e_PI, e_KB, e_NB, e_IB, e_LB, e_PB, e_KL, e_NL, e_IL, e_BL, e_PL, e_KP, e_NP, e_IP, e_BP, e_LP, e_IIs, e_BBs, e_LLs, e_PPs, e_IIn, e_BBn, e_LLn, e_PPn, e_IIk, e_BBk, e_LLk, e_PPk, e_Ks, e_Ns, e_Is, e_Bs, e_Ls, e_Ps, e_Kn, e_Nn, e_In, e_Bn, e_Ln, e_Pn, if_true, if_false, and_self, or_true, true_or, not_false_eq_true, Bool.false_eq_true]; done) | (simp (disch := omega) only [K2, hst1, e_KI, e_NI, e_BI, e_LI, e_PI, e_KB, e_NB, e_IB, e_LB, e_PB, e_KL, e_NL, e_IL, e_BL, e_PL, e_KP, e_NP, e_IP, e_BP, e_LP, e_IIs, e_BBs, e_LLs, e_PPs, e_IIn, e_BBn, e_LLn, e_PPn, e_IIk, e_BBk, e_LLk, e_PPk, e_Ks, e_Ns, e_Is, e_Bs, e_Ls, e_Ps, e_Kn, e_Nn, e_In, e_Bn, e_Ln, e_Pn, if_true, if_false, and_self, or_true, true_or, not_false_eq_true, Bool.false_eq_true]; decide) | decide) | ((with_reducible apply ev_t); · first | (simp (disch := omega) only [K2, hst1, e_KI, e_NI, e_BI, e_LI, e_PI, e_KB, e_NB, e_IB, e_LB, e_PB, e_KL, e_NL, e_IL, e_BL, e_PL, e_KP, e_NP, e_IP, e_BP, e_LP, e_IIs, e_BBs, e_LLs, e_PPs, e_IIn, e_BBn, e_LLn, e_PPn, e_IIk, e_BBk, e_LLk, e_PPk, e_Ks, e_Ns, e_Is, e_Bs, e_Ls, e_Ps, e_Kn, e_Nn, e_In, e_Bn, e_Ln, e_Pn, if_true, if_false, and_self, or_true, true_or, not_false_eq_true, Bool.false_eq_true]; done) | (simp (disch := omega) only [K2, hst1, e_KI, e_NI, e_BI, e_LI, e_PI, e_KB, e_NB, e_IB, e_LB, e_PB, e_KL, e_NL, e_IL, e_BL, e_PL, e_KP, e_NP, e_IP, e_BP, e_LP, e_IIs, e_BBs, e_LLs, e_PPs, e_IIn, e_BBn, e_LLn, e_PPn, e_IIk, e_BBk, e_LLk, e_PPk, e_Ks, e_Ns, e_Is, e_Bs, e_Ls, e_Ps, e_Kn, e_Nn, e_In, e_Bn, e_Ln, e_Pn, if_true, if_false, and_self, or_true, true_or, not_false_eq_true, Bool.false_eq_true]; decide) | decide) | ((with_reducible apply ev_f); · first | (simp (disch := omega) only [K2, hst1, e_KI, e_NI, e_BI, e_LI, e_PI, e_KB, e_NB, e_IB, e_LB, e_PB, e_KL, e_NL, e_IL, e_BL, e_PL, e_KP, e_NP, e_IP, e_BP, e_LP, e_IIs, e_BBs, e_LLs, e_PPs, e_IIn, e_BBn, e_LLn, e_PPn, e_IIk, e_BBk, e_LLk, e_PPk, e_Ks, e_Ns, e_Is, e_Bs, e_Ls, e_Ps, e_Kn, e_Nn, e_In, e_Bn, e_Ln, e_Pn, if_true, if_false, and_self, or_true, true_or, not_false_eq_true, Bool.false_eq_true]; done) | (simp (disch := omega) only [K2, hst1, e_KI, e_NI, e_BI, e_LI, e_PI, e_KB, e_NB, e_IB, e_LB, e_PB, e_KL, e_NL, e_IL, e_BL, e_PL, e_KP, e_NP, e_IP, e_BP, e_LP, e_IIs, e_BBs, e_LLs, e_PPs, e_IIn, e_BBn, e_LLn, e_PPn, e_IIk, e_BBk, e_LLk, e_PPk, e_Ks, e_Ns, e_Is, e_Bs, e_Ls, e_Ps, e_Kn, e_Nn, e_In, e_Bn, e_Ln, e_Pn, if_true, if_false, and_self, or_true, true_or, not_false_eq_true, Bool.false_eq_true]; decide) | decide) | ((with_reducible apply ev_s) <;> (first | (with_reducible rfl) | (simp (disch := omega) only [K2, hst1, e_KI, e_NI, e_BI, e_LI, e_PI, e_KB, e_NB, e_IB, e_LB, e_PB, e_KL, e_NL, e_IL, e_BL, e_PL, e_KP, e_NP, e_IP, e_BP, e_LP, e_IIs, e_BBs, e_LLs, e_PPs, e_IIn, e_BBn, e_LLn, e_PPn, e_IIk, e_BBk, e_LLk, e_PPk, e_Ks, e_Ns, e_Is, e_Bs, e_Ls, e_Ps, e_Kn, e_Nn, e_In, e_Bn, e_Ln, e_Pn, if_true, if_false, and_self, or_true, true_or, not_false_eq_true, Bool.false_eq_true]; done) | (simp (disch := omega) only [K2, hst1, e_KI, e_NI, e_BI, e_LI, e_PI, e_KB, e_NB, e_IB, e_LB, e_PB, e_KL, e_NL, e_IL, e_BL, e_PL, e_KP, e_NP, e_IP, e_BP, e_LP, e_IIs, e_BBs, e_LLs, e_PPs, e_IIn, e_BBn, e_LLn, e_PPn, e_IIk, e_BBk, e_LLk, e_PPk, e_Ks, e_Ns, e_Is, e_Bs, e_Ls, e_Ps, e_Kn, e_Nn, e_In, e_Bn, e_Ln, e_Pn, if_true, if_false, and_self, or_true, true_or, not_false_eq_true, Bool.false_eq_true]; rfl)))))
      · rw [d, ea] at hst1
        rw [ea]
        have xs := i_ix (show s < 6 by omega) (by decide)
        have cs := i_cl (show s < 2 ^ 31 by omega)
        have ef : y_I X 294 s = nI 0 := by rw [(cc s hs).1, f0]
        have n0 : ¬ (1 : Int32) ≤ nI 0 := by decide
        unfold f_X4_topOf
        (repeat (first | with_reducible apply ev_jn | ((with_reducible apply ev_bd); · first | (simp (disch := omega) only [K2, hst1, wX.1, xs, cs, ef, n0, e_KI, e_NI, e_BI, e_LI, e_PI, e_KB, e_NB, e_IB, e_LB, e_PB, e_KL, e_NL, e_IL, e_BL, e_PL, e_KP, e_NP, e_IP, e_BP, e_LP, e_IIs, e_BBs, e_LLs, e_PPs, e_IIn, e_BBn, e_LLn, e_PPn, e_IIk, e_BBk, e_LLk, e_PPk, e_Ks, e_Ns, e_Is, e_Bs, e_Ls, e_Ps, e_Kn, e_Nn, e_In, e_Bn, e_Ln, e_Pn, if_true, if_false, and_self, or_true, true_or, not_false_eq_true, Bool.false_eq_true]; exact rfl) | exact rfl) | ((with_reducible apply ev_cl); · first | (simp (disch := omega) only [K2, hst1, wX.1, xs, cs, ef, n0, e_KI, e_NI, e_BI, e_LI, e_PI, e_KB, e_NB, e_IB, e_LB, e_PB, e_KL, e_NL, e_IL, e_BL, e_PL, e_KP, e_NP, e_IP, e_BP, e_LP, e_IIs, e_BBs, e_LLs, e_PPs, e_IIn, e_BBn, e_LLn, e_PPn, e_IIk, e_BBk, e_LLk, e_PPk, e_Ks, e_Ns, e_Is, e_Bs, e_Ls, e_Ps, e_Kn, e_Nn, e_In, e_Bn, e_Ln, e_Pn, if_true, if_false, and_self, or_true, true_or, not_false_eq_true, Bool.false_eq_true]; exact rfl) | exact rfl) | ((with_reducible apply ev_g); · first | (simp (disch := omega) only [K2, hst1, wX.1, xs, cs, ef, n0, e_KI, e_NI, e_BI, e_LI, e_PI, e_KB, e_NB, e_IB, e_LB, e_PB, e_KL, e_NL, e_IL, e_BL, e_PL, e_KP, e_NP, e_IP, e_BP, e_LP, e_IIs, e_BBs, e_LLs, e_PPs, e_IIn, e_BBn, e_LLn, e_PPn, e_IIk, e_BBk, e_LLk, e_PPk, e_Ks, e_Ns, e_Is, e_Bs, e_Ls, e_Ps, e_Kn, e_Nn, e_In, e_Bn, e_Ln, e_Pn, if_true, if_false, and_self, or_true, true_or, not_false_eq_true, Bool.false_eq_true]; done) | (simp (disch := omega) only [K2, hst1, wX.1, xs, cs, ef, n0, e_KI, e_NI, e_BI, e_LI, e_PI, e_KB, e_NB, e_IB, e_LB, e_PB, e_KL, e_NL, e_IL, e_BL, e_PL, e_KP, e_NP, e_IP, e_BP, e_LP, e_IIs, e_BBs, e_LLs, e_PPs, e_IIn, e_BBn, e_LLn, e_PPn, e_IIk, e_BBk, e_LLk, e_PPk, e_Ks, e_Ns, e_Is, e_Bs, e_Ls, e_Ps, e_Kn, e_Nn, e_In, e_Bn, e_Ln, e_Pn, if_true, if_false, and_self, or_true, true_or, not_false_eq_true, Bool.false_eq_true]; decide) | decide) | ((with_reducible apply ev_t); · first | (simp (disch := omega) only [K2, hst1, wX.1, xs, cs, ef, n0, e_KI, e_NI, e_BI, e_LI, e_PI, e_KB, e_NB, e_IB, e_LB, e_PB, e_KL, e_NL, e_IL, e_BL, e_PL, e_KP, e_NP, e_IP, e_BP, e_LP, e_IIs, e_BBs, e_LLs, e_PPs, e_IIn, e_BBn, e_LLn, e_PPn, e_IIk, e_BBk, e_LLk, e_PPk, e_Ks, e_Ns, e_Is, e_Bs, e_Ls, e_Ps, e_Kn, e_Nn, e_In, e_Bn, e_Ln, e_Pn, if_true, if_false, and_self, or_true, true_or, not_false_eq_true, Bool.false_eq_true]; done) | (simp (disch := omega) only [K2, hst1, wX.1, xs, cs, ef, n0, e_KI, e_NI, e_BI, e_LI, e_PI, e_KB, e_NB, e_IB, e_LB, e_PB, e_KL, e_NL, e_IL, e_BL, e_PL, e_KP, e_NP, e_IP, e_BP, e_LP, e_IIs, e_BBs, e_LLs, e_PPs, e_IIn, e_BBn, e_LLn, e_PPn, e_IIk, e_BBk, e_LLk, e_PPk, e_Ks, e_Ns, e_Is, e_Bs, e_Ls, e_Ps, e_Kn, e_Nn, e_In, e_Bn, e_Ln, e_Pn, if_true, if_false, and_self, or_true, true_or, not_false_eq_true, Bool.false_eq_true]; decide) | decide) | ((with_reducible apply ev_f); · first | (simp (disch := omega) only [K2, hst1, wX.1, xs, cs, ef, n0, e_KI, e_NI, e_BI, e_LI, e_PI, e_KB, e_NB, e_IB, e_LB, e_PB, e_KL, e_NL, e_IL, e_BL, e_PL, e_KP, e_NP, e_IP, e_BP, e_LP, e_IIs, e_BBs, e_LLs, e_PPs, e_IIn, e_BBn, e_LLn, e_PPn, e_IIk, e_BBk, e_LLk, e_PPk, e_Ks, e_Ns, e_Is, e_Bs, e_Ls, e_Ps, e_Kn, e_Nn, e_In, e_Bn, e_Ln, e_Pn, if_true, if_false, and_self, or_true, true_or, not_false_eq_true, Bool.false_eq_true]; done) | (simp (disch := omega) only [K2, hst1, wX.1, xs, cs, ef, n0, e_KI, e_NI, e_BI, e_LI, e_PI, e_KB, e_NB, e_IB, e_LB, e_PB, e_KL, e_NL, e_IL, e_BL, e_PL, e_KP, e_NP, e_IP, e_BP, e_LP, e_IIs, e_BBs, e_LLs, e_PPs, e_IIn, e_BBn, e_LLn, e_PPn, e_IIk, e_BBk, e_LLk, e_PPk, e_Ks, e_Ns, e_Is, e_Bs, e_Ls, e_Ps, e_Kn, e_Nn, e_In, e_Bn, e_Ln, e_Pn, if_true, if_false, and_self, or_true, true_or, not_false_eq_true, Bool.false_eq_true]; decide) | decide) | ((with_reducible apply ev_s) <;> (first | (with_reducible rfl) | (simp (disch := omega) only [K2, hst1, wX.1, xs, cs, ef, n0, e_KI, e_NI, e_BI, e_LI, e_PI, e_KB, e_NB, e_IB, e_LB, e_PB, e_KL, e_NL, e_IL, e_BL, e_PL, e_KP, e_NP, e_IP, e_BP, e_LP, e_IIs, e_BBs, e_LLs, e_PPs, e_IIn, e_BBn, e_LLn, e_PPn, e_IIk, e_BBk, e_LLk, e_PPk, e_Ks, e_Ns, e_Is, e_Bs, e_Ls, e_Ps, e_Kn, e_Nn, e_In, e_Bn, e_Ln, e_Pn, if_true, if_false, and_self, or_true, true_or, not_false_eq_true, Bool.false_eq_true]; done) | (simp (disch := omega) only [K2, hst1, wX.1, xs, cs, ef, n0, e_KI, e_NI, e_BI, e_LI, e_PI, e_KB, e_NB, e_IB, e_LB, e_PB, e_KL, e_NL, e_IL, e_BL, e_PL, e_KP, e_NP, e_IP, e_BP, e_LP, e_IIs, e_BBs, e_LLs, e_PPs, e_IIn, e_BBn, e_LLn, e_PPn, e_IIk, e_BBk, e_LLk, e_PPk, e_Ks, e_Ns, e_Is, e_Bs, e_Ls, e_Ps, e_Kn, e_Nn, e_In, e_Bn, e_Ln, e_Pn, if_true, if_false, and_self, or_true, true_or, not_false_eq_true, Bool.false_eq_true]; rfl)))))
      · rw [d, ea] at hst1
        rw [ea]
        have xs := i_ix (show s < 6 by omega) (by decide)
        have cs := i_cl (show s < 2 ^ 31 by omega)
        have ef' : y_I X 294 s = nI (f + 1) := by rw [(cc s hs).1, ef]
        have n1 : (1 : Int32) ≤ nI (f + 1) := nI_le (a := 1) (by omega) (by omega)
        have e5 : nI s * (5 : Int32) + nI (f + 1) - 1 = nI (5 * s + f) := by rw [i_r5, i_add, ← Nat.add_assoc, nI_pred]
        have x5 := i_ix (show 5 * s + f < 30 by omega) (by decide)
        have c5 := i_cl (show 5 * s + f < 2 ^ 31 by omega)
        have ep := (cc s hs).2 f (by omega)
        unfold f_X4_topOf
        (repeat (first | with_reducible apply ev_jn | ((with_reducible apply ev_bd); · first | (simp (disch := omega) only [K2, hst1, wX.1, xs, cs, ef', n1, e5, x5, c5, ep, e_KI, e_NI, e_BI, e_LI, e_PI, e_KB, e_NB, e_IB, e_LB, e_PB, e_KL, e_NL, e_IL, e_BL, e_PL, e_KP, e_NP, e_IP, e_BP, e_LP, e_IIs, e_BBs, e_LLs, e_PPs, e_IIn, e_BBn, e_LLn, e_PPn, e_IIk, e_BBk, e_LLk, e_PPk, e_Ks, e_Ns, e_Is, e_Bs, e_Ls, e_Ps, e_Kn, e_Nn, e_In, e_Bn, e_Ln, e_Pn, if_true, if_false, and_self, or_true, true_or, not_false_eq_true, Bool.false_eq_true]; exact rfl) | exact rfl) | ((with_reducible apply ev_cl); · first | (simp (disch := omega) only [K2, hst1, wX.1, xs, cs, ef', n1, e5, x5, c5, ep, e_KI, e_NI, e_BI, e_LI, e_PI, e_KB, e_NB, e_IB, e_LB, e_PB, e_KL, e_NL, e_IL, e_BL, e_PL, e_KP, e_NP, e_IP, e_BP, e_LP, e_IIs, e_BBs, e_LLs, e_PPs, e_IIn, e_BBn, e_LLn, e_PPn, e_IIk, e_BBk, e_LLk, e_PPk, e_Ks, e_Ns, e_Is, e_Bs, e_Ls, e_Ps, e_Kn, e_Nn, e_In, e_Bn, e_Ln, e_Pn, if_true, if_false, and_self, or_true, true_or, not_false_eq_true, Bool.false_eq_true]; exact rfl) | exact rfl) | ((with_reducible apply ev_g); · first | (simp (disch := omega) only [K2, hst1, wX.1, xs, cs, ef', n1, e5, x5, c5, ep, e_KI, e_NI, e_BI, e_LI, e_PI, e_KB, e_NB, e_IB, e_LB, e_PB, e_KL, e_NL, e_IL, e_BL, e_PL, e_KP, e_NP, e_IP, e_BP, e_LP, e_IIs, e_BBs, e_LLs, e_PPs, e_IIn, e_BBn, e_LLn, e_PPn, e_IIk, e_BBk, e_LLk, e_PPk, e_Ks, e_Ns, e_Is, e_Bs, e_Ls, e_Ps, e_Kn, e_Nn, e_In, e_Bn, e_Ln, e_Pn, if_true, if_false, and_self, or_true, true_or, not_false_eq_true, Bool.false_eq_true]; done) | (simp (disch := omega) only [K2, hst1, wX.1, xs, cs, ef', n1, e5, x5, c5, ep, e_KI, e_NI, e_BI, e_LI, e_PI, e_KB, e_NB, e_IB, e_LB, e_PB, e_KL, e_NL, e_IL, e_BL, e_PL, e_KP, e_NP, e_IP, e_BP, e_LP, e_IIs, e_BBs, e_LLs, e_PPs, e_IIn, e_BBn, e_LLn, e_PPn, e_IIk, e_BBk, e_LLk, e_PPk, e_Ks, e_Ns, e_Is, e_Bs, e_Ls, e_Ps, e_Kn, e_Nn, e_In, e_Bn, e_Ln, e_Pn, if_true, if_false, and_self, or_true, true_or, not_false_eq_true, Bool.false_eq_true]; decide) | decide) | ((with_reducible apply ev_t); · first | (simp (disch := omega) only [K2, hst1, wX.1, xs, cs, ef', n1, e5, x5, c5, ep, e_KI, e_NI, e_BI, e_LI, e_PI, e_KB, e_NB, e_IB, e_LB, e_PB, e_KL, e_NL, e_IL, e_BL, e_PL, e_KP, e_NP, e_IP, e_BP, e_LP, e_IIs, e_BBs, e_LLs, e_PPs, e_IIn, e_BBn, e_LLn, e_PPn, e_IIk, e_BBk, e_LLk, e_PPk, e_Ks, e_Ns, e_Is, e_Bs, e_Ls, e_Ps, e_Kn, e_Nn, e_In, e_Bn, e_Ln, e_Pn, if_true, if_false, and_self, or_true, true_or, not_false_eq_true, Bool.false_eq_true]; done) | (simp (disch := omega) only [K2, hst1, wX.1, xs, cs, ef', n1, e5, x5, c5, ep, e_KI, e_NI, e_BI, e_LI, e_PI, e_KB, e_NB, e_IB, e_LB, e_PB, e_KL, e_NL, e_IL, e_BL, e_PL, e_KP, e_NP, e_IP, e_BP, e_LP, e_IIs, e_BBs, e_LLs, e_PPs, e_IIn, e_BBn, e_LLn, e_PPn, e_IIk, e_BBk, e_LLk, e_PPk, e_Ks, e_Ns, e_Is, e_Bs, e_Ls, e_Ps, e_Kn, e_Nn, e_In, e_Bn, e_Ln, e_Pn, if_true, if_false, and_self, or_true, true_or, not_false_eq_true, Bool.false_eq_true]; decide) | decide) | ((with_reducible apply ev_f); · first | (simp (disch := omega) only [K2, hst1, wX.1, xs, cs, ef', n1, e5, x5, c5, ep, e_KI, e_NI, e_BI, e_LI, e_PI, e_KB, e_NB, e_IB, e_LB, e_PB, e_KL, e_NL, e_IL, e_BL, e_PL, e_KP, e_NP, e_IP, e_BP, e_LP, e_IIs, e_BBs, e_LLs, e_PPs, e_IIn, e_BBn, e_LLn, e_PPn, e_IIk, e_BBk, e_LLk, e_PPk, e_Ks, e_Ns, e_Is, e_Bs, e_Ls, e_Ps, e_Kn, e_Nn, e_In, e_Bn, e_Ln, e_Pn, if_true, if_false, and_self, or_true, true_or, not_false_eq_true, Bool.false_eq_true]; done) | (simp (disch := omega) only [K2, hst1, wX.1, xs, cs, ef', n1, e5, x5, c5, ep, e_KI, e_NI, e_BI, e_LI, e_PI, e_KB, e_NB, e_IB, e_LB, e_PB, e_KL, e_NL, e_IL, e_BL, e_PL, e_KP, e_NP, e_IP, e_BP, e_LP, e_IIs, e_BBs, e_LLs, e_PPs, e_IIn, e_BBn, e_LLn, e_PPn, e_IIk, e_BBk, e_LLk, e_PPk, e_Ks, e_Ns, e_Is, e_Bs, e_Ls, e_Ps, e_Kn, e_Nn, e_In, e_Bn, e_Ln, e_Pn, if_true, if_false, and_self, or_true, true_or, not_false_eq_true, Bool.false_eq_true]; decide) | decide) | ((with_reducible apply ev_s) <;> (first | (with_reducible rfl) | (simp (disch := omega) only [K2, hst1, wX.1, xs, cs, ef', n1, e5, x5, c5, ep, e_KI, e_NI, e_BI, e_LI, e_PI, e_KB, e_NB, e_IB, e_LB, e_PB, e_KL, e_NL, e_IL, e_BL, e_PL, e_KP, e_NP, e_IP, e_BP, e_LP, e_IIs, e_BBs, e_LLs, e_PPs, e_IIn, e_BBn, e_LLn, e_PPn, e_IIk, e_BBk, e_LLk, e_PPk, e_Ks, e_Ns, e_Is, e_Bs, e_Ls, e_Ps, e_Kn, e_Nn, e_In, e_Bn, e_Ln, e_Pn, if_true, if_false, and_self, or_true, true_or, not_false_eq_true, Bool.false_eq_true]; done) | (simp (disch := omega) only [K2, hst1, wX.1, xs, cs, ef', n1, e5, x5, c5, ep, e_KI, e_NI, e_BI, e_LI, e_PI, e_KB, e_NB, e_IB, e_LB, e_PB, e_KL, e_NL, e_IL, e_BL, e_PL, e_KP, e_NP, e_IP, e_BP, e_LP, e_IIs, e_BBs, e_LLs, e_PPs, e_IIn, e_BBn, e_LLn, e_PPn, e_IIk, e_BBk, e_LLk, e_PPk, e_Ks, e_Ns, e_Is, e_Bs, e_Ls, e_Ps, e_Kn, e_Nn, e_In, e_Bn, e_Ln, e_Pn, if_true, if_false, and_self, or_true, true_or, not_false_eq_true, Bool.false_eq_true]; rfl)))))
    rcases hst_cases (w := w) (W := W) (g := g) hm hH I (fr i) (to i) with ⟨d1, e⟩ | ⟨s, hs, ea, d1, ⟨f0, e⟩ | ⟨f, ef, hf5, pf, hrest⟩⟩
    · rw [e] at hz
      have tp := tops 0 (Or.inl ⟨d1, rfl⟩)
      simp only [wX.1, e4, e1, q, q2, if_true, if_false, eF2, kF2, nF2, xi, ci, rF, and_self, tp, e_cl, wp_some]
      exact ⟨hz, gx⟩
    · rw [e] at hz
      have tp := tops 0 (Or.inr ⟨s, hs, ea, d1, Or.inl ⟨f0, rfl⟩⟩)
      simp only [wX.1, e4, e1, q, q2, if_true, if_false, eF2, kF2, nF2, xi, ci, rF, and_self, tp, e_cl, wp_some]
      exact ⟨hz, gx⟩
    have tp := tops _ (Or.inr ⟨s, hs, ea, d1, Or.inr ⟨f, ef, hf5, rfl⟩⟩)
    rw [ea] at tp
    have ne : ¬ 64 * B (5 * s + f) + 20 = 0 := by omega
    have xs := i_ix (show s < 6 by omega) (by decide)
    have cs := i_cl (show s < 2 ^ 31 by omega)
    have ef' : y_I X 294 s = nI (f + 1) := by rw [(cc s hs).1, ef]
    -- one box less on s
    have gx1 : ag (fun a _ => a = 294 ∨ a = 230) (fun _ => False) h (s_I X 294 s (nI f)) := gx.sI (Or.inl rfl)
    have w1 : Sh (s_I X 294 s (nI f)) := Sh_sI wX
    have eP : ∀ a k, y_P (s_I X 294 s (nI f)) a k = y_P X a k := fun _ _ => rfl
    have rT1 : y_I (s_I X 294 s (nI f)) Ta i = to i := by rw [e_IIn (by omega)]; exact rT
    have rF1 : y_I (s_I X 294 s (nI f)) Fa i = nI s := by rw [e_IIn (by omega)]; exact rF.trans ea
    have x38g := i_ix (show g < 5 by omega) (by decide)
    have c38g := i_cl (show g < 2 ^ 31 by omega)
    obtain ⟨o1, o2⟩ := eo g eg
    have o3 : y_P X 38 g = 64 * w g + 20 := (gx.P (by omega)).trans o2
    rcases hrest with ⟨b9, ⟨nc, e⟩ | ⟨-, ew, e, I2⟩⟩ | ⟨b9, ⟨d2, e⟩ | ⟨q9, hq, eb, d2, ⟨eqs, e⟩ | ⟨nqs, ⟨nl, e⟩ | ⟨l, e, I2⟩⟩⟩⟩
    · rw [e] at hz
      have nw : ¬ 64 * B (5 * s + f) + 20 = 64 * w g + 20 := fun z => nc ⟨eg, by omega⟩
      have rT2 : y_I (s_I X 294 s (nI f)) Ta i = -9 := rT1.trans b9
      simp only [wX.1, e4, e1, q, q2, if_true, if_false, eF2, kF2, nF2, xi, ci, rF, ea, and_self, tp, e_cl, ne, xs, cs, ef', nI_pred, e_bd, w1.1, eP, e_KI, e_NI, eT2, kT2, nT2, rT2, e_jn, x38g, c38g, o3, nw, wp_some]
      exact ⟨hz, gx1⟩
    · rw [e] at hz
      have nw : (64 * B (5 * s + f) + 20 = 64 * w g + 20) = True := eq_true (by rw [ew])
      have rT2 : y_I (s_I X 294 s (nI f)) Ta i = -9 := rT1.trans b9
      simp only [wX.1, e4, e1, q, q2, if_true, if_false, eF2, kF2, nF2, xi, ci, rF, ea, and_self, tp, e_cl, ne, xs, cs, ef', nI_pred, e_bd, w1.1, eP, e_KI, e_NI, eT2, kT2, nT2, rT2, e_jn, x38g, c38g, o3, nw, nI_1]
      refine IH r (i + 1) _ _ (g + 1) _ (by omega) (by omega) (by omega) I2 gx1 (fun s' hs' => ?_) hz
      by_cases es : s' = s
      · rw [es, upN_s]
        exact ⟨e_IIs, fun t ht => (cc s hs).2 t (by omega)⟩
      · rw [upN_n es, e_IIk es]
        exact cc s' hs'
    · rw [e] at hz
      have K2' : y_K (s_I X 294 s (nI f)) (64 * b + 23) = 2 := K2
      have hst2 := c_hasStk (X := s_I X 294 s (nI f)) (b := b) K2' (by rw [e_IIn (by omega)]; exact (gx.I (by omega)).trans e2) hm (to i)
      rw [d2] at hst2
      have nab : ¬ to i = nI s := fun z => by
        rw [z] at d2
        rw [ea, d2] at d1
        exact absurd d1 (by decide)
      have ep : f_X4_putOn 14 (64 * b + 23) (64 * B (5 * s + f) + 20) (nI s) (to i) (s_I X 294 s (nI f)) = some (false, s_I X 294 s (nI f)) := by
        unfold f_X4_putOn
        (repeat (first | with_reducible apply ev_jn | ((with_reducible apply ev_bd); · first | (simp (disch := omega) only [nab, K2', hst2, e_KI, e_NI, e_BI, e_LI, e_PI, e_KB, e_NB, e_IB, e_LB, e_PB, e_KL, e_NL, e_IL, e_BL, e_PL, e_KP, e_NP, e_IP, e_BP, e_LP, e_IIs, e_BBs, e_LLs, e_PPs, e_IIn, e_BBn, e_LLn, e_PPn, e_IIk, e_BBk, e_LLk, e_PPk, e_Ks, e_Ns, e_Is, e_Bs, e_Ls, e_Ps, e_Kn, e_Nn, e_In, e_Bn, e_Ln, e_Pn, if_true, if_false, and_self, or_true, true_or, not_false_eq_true, Bool.false_eq_true]; exact rfl) | exact rfl) | ((with_reducible apply ev_cl); · first | (simp (disch := omega) only [nab, K2', hst2, e_KI, e_NI, e_BI, e_LI, e_PI, e_KB, e_NB, e_IB, e_LB, e_PB, e_KL, e_NL, e_IL, e_BL, e_PL, e_KP, e_NP, e_IP, e_BP, e_LP, e_IIs, e_BBs, e_LLs, e_PPs, e_IIn, e_BBn, e_LLn, e_PPn, e_IIk, e_BBk, e_LLk, e_PPk, e_Ks, e_Ns, e_Is, e_Bs, e_Ls, e_Ps, e_Kn, e_Nn, e_In, e_Bn, e_Ln, e_Pn, if_true, if_false, and_self, or_true, true_or, not_false_eq_true, Bool.false_eq_true]; exact rfl) | exact rfl) | ((with_reducible apply ev_g); · first | (simp (disch := omega) only [nab, K2', hst2, e_KI, e_NI, e_BI, e_LI, e_PI, e_KB, e_NB, e_IB, e_LB, e_PB, e_KL, e_NL, e_IL, e_BL, e_PL, e_KP, e_NP, e_IP, e_BP, e_LP, e_IIs, e_BBs, e_LLs, e_PPs, e_IIn, e_BBn, e_LLn, e_PPn, e_IIk, e_BBk, e_LLk, e_PPk, e_Ks, e_Ns, e_Is, e_Bs, e_Ls, e_Ps, e_Kn, e_Nn, e_In, e_Bn, e_Ln, e_Pn, if_true, if_false, and_self, or_true, true_or, not_false_eq_true, Bool.false_eq_true]; done) | (simp (disch := omega) only [nab, K2', hst2, e_KI, e_NI, e_BI, e_LI, e_PI, e_KB, e_NB, e_IB, e_LB, e_PB, e_KL, e_NL, e_IL, e_BL, e_PL, e_KP, e_NP, e_IP, e_BP, e_LP, e_IIs, e_BBs, e_LLs, e_PPs, e_IIn, e_BBn, e_LLn, e_PPn, e_IIk, e_BBk, e_LLk, e_PPk, e_Ks, e_Ns, e_Is, e_Bs, e_Ls, e_Ps, e_Kn, e_Nn, e_In, e_Bn, e_Ln, e_Pn, if_true, if_false, and_self, or_true, true_or, not_false_eq_true, Bool.false_eq_true]; decide) | decide) | ((with_reducible apply ev_t); · first | (simp (disch := omega) only [nab, K2', hst2, e_KI, e_NI, e_BI, e_LI, e_PI, e_KB, e_NB, e_IB, e_LB, e_PB, e_KL, e_NL, e_IL, e_BL, e_PL, e_KP, e_NP, e_IP, e_BP, e_LP, e_IIs, e_BBs, e_LLs, e_PPs, e_IIn, e_BBn, e_LLn, e_PPn, e_IIk, e_BBk, e_LLk, e_PPk, e_Ks, e_Ns, e_Is, e_Bs, e_Ls, e_Ps, e_Kn, e_Nn, e_In, e_Bn, e_Ln, e_Pn, if_true, if_false, and_self, or_true, true_or, not_false_eq_true, Bool.false_eq_true]; done) | (simp (disch := omega) only [nab, K2', hst2, e_KI, e_NI, e_BI, e_LI, e_PI, e_KB, e_NB, e_IB, e_LB, e_PB, e_KL, e_NL, e_IL, e_BL, e_PL, e_KP, e_NP, e_IP, e_BP, e_LP, e_IIs, e_BBs, e_LLs, e_PPs, e_IIn, e_BBn, e_LLn, e_PPn, e_IIk, e_BBk, e_LLk, e_PPk, e_Ks, e_Ns, e_Is, e_Bs, e_Ls, e_Ps, e_Kn, e_Nn, e_In, e_Bn, e_Ln, e_Pn, if_true, if_false, and_self, or_true, true_or, not_false_eq_true, Bool.false_eq_true]; decide) | decide) | ((with_reducible apply ev_f); · first | (simp (disch := omega) only [nab, K2', hst2, e_KI, e_NI, e_BI, e_LI, e_PI, e_KB, e_NB, e_IB, e_LB, e_PB, e_KL, e_NL, e_IL, e_BL, e_PL, e_KP, e_NP, e_IP, e_BP, e_LP, e_IIs, e_BBs, e_LLs, e_PPs, e_IIn, e_BBn, e_LLn, e_PPn, e_IIk, e_BBk, e_LLk, e_PPk, e_Ks, e_Ns, e_Is, e_Bs, e_Ls, e_Ps, e_Kn, e_Nn, e_In, e_Bn, e_Ln, e_Pn, if_true, if_false, and_self, or_true, true_or, not_false_eq_true, Bool.false_eq_true]; done) | (simp (disch := omega) only [nab, K2', hst2, e_KI, e_NI, e_BI, e_LI, e_PI, e_KB, e_NB, e_IB, e_LB, e_PB, e_KL, e_NL, e_IL, e_BL, e_PL, e_KP, e_NP, e_IP, e_BP, e_LP, e_IIs, e_BBs, e_LLs, e_PPs, e_IIn, e_BBn, e_LLn, e_PPn, e_IIk, e_BBk, e_LLk, e_PPk, e_Ks, e_Ns, e_Is, e_Bs, e_Ls, e_Ps, e_Kn, e_Nn, e_In, e_Bn, e_Ln, e_Pn, if_true, if_false, and_self, or_true, true_or, not_false_eq_true, Bool.false_eq_true]; decide) | decide) | ((with_reducible apply ev_s) <;> (first | (with_reducible rfl) | (simp (disch := omega) only [nab, K2', hst2, e_KI, e_NI, e_BI, e_LI, e_PI, e_KB, e_NB, e_IB, e_LB, e_PB, e_KL, e_NL, e_IL, e_BL, e_PL, e_KP, e_NP, e_IP, e_BP, e_LP, e_IIs, e_BBs, e_LLs, e_PPs, e_IIn, e_BBn, e_LLn, e_PPn, e_IIk, e_BBk, e_LLk, e_PPk, e_Ks, e_Ns, e_Is, e_Bs, e_Ls, e_Ps, e_Kn, e_Nn, e_In, e_Bn, e_Ln, e_Pn, if_true, if_false, and_self, or_true, true_or, not_false_eq_true, Bool.false_eq_true]; done) | (simp (disch := omega) only [nab, K2', hst2, e_KI, e_NI, e_BI, e_LI, e_PI, e_KB, e_NB, e_IB, e_LB, e_PB, e_KL, e_NL, e_IL, e_BL, e_PL, e_KP, e_NP, e_IP, e_BP, e_LP, e_IIs, e_BBs, e_LLs, e_PPs, e_IIn, e_BBn, e_LLn, e_PPn, e_IIk, e_BBk, e_LLk, e_PPk, e_Ks, e_Ns, e_Is, e_Bs, e_Ls, e_Ps, e_Kn, e_Nn, e_In, e_Bn, e_Ln, e_Pn, if_true, if_false, and_self, or_true, true_or, not_false_eq_true, Bool.false_eq_true]; rfl)))))
      simp only [wX.1, e4, e1, q, q2, if_true, if_false, eF2, kF2, nF2, xi, ci, rF, ea, and_self, tp, e_cl, ne, xs, cs, ef', nI_pred, e_bd, w1.1, eP, e_KI, e_NI, eT2, kT2, nT2, rT1, b9, rF1, e_jn, ep, wp_some, Bool.false_eq_true]
      exact ⟨hz, gx1⟩
    · rw [e] at hz
      have ep : f_X4_putOn 14 (64 * b + 23) (64 * B (5 * s + f) + 20) (nI s) (to i) (s_I X 294 s (nI f)) = some (false, s_I X 294 s (nI f)) := by
        rw [eb, eqs]
        unfold f_X4_putOn
        (repeat (first | with_reducible apply ev_jn | ((with_reducible apply ev_bd); · first | (simp (disch := omega) only [e_jn, e_KI, e_NI, e_BI, e_LI, e_PI, e_KB, e_NB, e_IB, e_LB, e_PB, e_KL, e_NL, e_IL, e_BL, e_PL, e_KP, e_NP, e_IP, e_BP, e_LP, e_IIs, e_BBs, e_LLs, e_PPs, e_IIn, e_BBn, e_LLn, e_PPn, e_IIk, e_BBk, e_LLk, e_PPk, e_Ks, e_Ns, e_Is, e_Bs, e_Ls, e_Ps, e_Kn, e_Nn, e_In, e_Bn, e_Ln, e_Pn, if_true, if_false, and_self, or_true, true_or, not_false_eq_true, Bool.false_eq_true]; exact rfl) | exact rfl) | ((with_reducible apply ev_cl); · first | (simp (disch := omega) only [e_jn, e_KI, e_NI, e_BI, e_LI, e_PI, e_KB, e_NB, e_IB, e_LB, e_PB, e_KL, e_NL, e_IL, e_BL, e_PL, e_KP, e_NP, e_IP, e_BP, e_LP, e_IIs, e_BBs, e_LLs, e_PPs, e_IIn, e_BBn, e_LLn, e_PPn, e_IIk, e_BBk, e_LLk, e_PPk, e_Ks, e_Ns, e_Is, e_Bs, e_Ls, e_Ps, e_Kn, e_Nn, e_In, e_Bn, e_Ln, e_Pn, if_true, if_false, and_self, or_true, true_or, not_false_eq_true, Bool.false_eq_true]; exact rfl) | exact rfl) | ((with_reducible apply ev_g); · first | (simp (disch := omega) only [e_jn, e_KI, e_NI, e_BI, e_LI, e_PI, e_KB, e_NB, e_IB, e_LB, e_PB, e_KL, e_NL, e_IL, e_BL, e_PL, e_KP, e_NP, e_IP, e_BP, e_LP, e_IIs, e_BBs, e_LLs, e_PPs, e_IIn, e_BBn, e_LLn, e_PPn, e_IIk, e_BBk, e_LLk, e_PPk, e_Ks, e_Ns, e_Is, e_Bs, e_Ls, e_Ps, e_Kn, e_Nn, e_In, e_Bn, e_Ln, e_Pn, if_true, if_false, and_self, or_true, true_or, not_false_eq_true, Bool.false_eq_true]; done) | (simp (disch := omega) only [e_jn, e_KI, e_NI, e_BI, e_LI, e_PI, e_KB, e_NB, e_IB, e_LB, e_PB, e_KL, e_NL, e_IL, e_BL, e_PL, e_KP, e_NP, e_IP, e_BP, e_LP, e_IIs, e_BBs, e_LLs, e_PPs, e_IIn, e_BBn, e_LLn, e_PPn, e_IIk, e_BBk, e_LLk, e_PPk, e_Ks, e_Ns, e_Is, e_Bs, e_Ls, e_Ps, e_Kn, e_Nn, e_In, e_Bn, e_Ln, e_Pn, if_true, if_false, and_self, or_true, true_or, not_false_eq_true, Bool.false_eq_true]; decide) | decide) | ((with_reducible apply ev_t); · first | (simp (disch := omega) only [e_jn, e_KI, e_NI, e_BI, e_LI, e_PI, e_KB, e_NB, e_IB, e_LB, e_PB, e_KL, e_NL, e_IL, e_BL, e_PL, e_KP, e_NP, e_IP, e_BP, e_LP, e_IIs, e_BBs, e_LLs, e_PPs, e_IIn, e_BBn, e_LLn, e_PPn, e_IIk, e_BBk, e_LLk, e_PPk, e_Ks, e_Ns, e_Is, e_Bs, e_Ls, e_Ps, e_Kn, e_Nn, e_In, e_Bn, e_Ln, e_Pn, if_true, if_false, and_self, or_true, true_or, not_false_eq_true, Bool.false_eq_true]; done) | (simp (disch := omega) only [e_jn, e_KI, e_NI, e_BI, e_LI, e_PI, e_KB, e_NB, e_IB, e_LB, e_PB, e_KL, e_NL, e_IL, e_BL, e_PL, e_KP, e_NP, e_IP, e_BP, e_LP, e_IIs, e_BBs, e_LLs, e_PPs, e_IIn, e_BBn, e_LLn, e_PPn, e_IIk, e_BBk, e_LLk, e_PPk, e_Ks, e_Ns, e_Is, e_Bs, e_Ls, e_Ps, e_Kn, e_Nn, e_In, e_Bn, e_Ln, e_Pn, if_true, if_false, and_self, or_true, true_or, not_false_eq_true, Bool.false_eq_true]; decide) | decide) | ((with_reducible apply ev_f); · first | (simp (disch := omega) only [e_jn, e_KI, e_NI, e_BI, e_LI, e_PI, e_KB, e_NB, e_IB, e_LB, e_PB, e_KL, e_NL, e_IL, e_BL, e_PL, e_KP, e_NP, e_IP, e_BP, e_LP, e_IIs, e_BBs, e_LLs, e_PPs, e_IIn, e_BBn, e_LLn, e_PPn, e_IIk, e_BBk, e_LLk, e_PPk, e_Ks, e_Ns, e_Is, e_Bs, e_Ls, e_Ps, e_Kn, e_Nn, e_In, e_Bn, e_Ln, e_Pn, if_true, if_false, and_self, or_true, true_or, not_false_eq_true, Bool.false_eq_true]; done) | (simp (disch := omega) only [e_jn, e_KI, e_NI, e_BI, e_LI, e_PI, e_KB, e_NB, e_IB, e_LB, e_PB, e_KL, e_NL, e_IL, e_BL, e_PL, e_KP, e_NP, e_IP, e_BP, e_LP, e_IIs, e_BBs, e_LLs, e_PPs, e_IIn, e_BBn, e_LLn, e_PPn, e_IIk, e_BBk, e_LLk, e_PPk, e_Ks, e_Ns, e_Is, e_Bs, e_Ls, e_Ps, e_Kn, e_Nn, e_In, e_Bn, e_Ln, e_Pn, if_true, if_false, and_self, or_true, true_or, not_false_eq_true, Bool.false_eq_true]; decide) | decide) | ((with_reducible apply ev_s) <;> (first | (with_reducible rfl) | (simp (disch := omega) only [e_jn, e_KI, e_NI, e_BI, e_LI, e_PI, e_KB, e_NB, e_IB, e_LB, e_PB, e_KL, e_NL, e_IL, e_BL, e_PL, e_KP, e_NP, e_IP, e_BP, e_LP, e_IIs, e_BBs, e_LLs, e_PPs, e_IIn, e_BBn, e_LLn, e_PPn, e_IIk, e_BBk, e_LLk, e_PPk, e_Ks, e_Ns, e_Is, e_Bs, e_Ls, e_Ps, e_Kn, e_Nn, e_In, e_Bn, e_Ln, e_Pn, if_true, if_false, and_self, or_true, true_or, not_false_eq_true, Bool.false_eq_true]; done) | (simp (disch := omega) only [e_jn, e_KI, e_NI, e_BI, e_LI, e_PI, e_KB, e_NB, e_IB, e_LB, e_PB, e_KL, e_NL, e_IL, e_BL, e_PL, e_KP, e_NP, e_IP, e_BP, e_LP, e_IIs, e_BBs, e_LLs, e_PPs, e_IIn, e_BBn, e_LLn, e_PPn, e_IIk, e_BBk, e_LLk, e_PPk, e_Ks, e_Ns, e_Is, e_Bs, e_Ls, e_Ps, e_Kn, e_Nn, e_In, e_Bn, e_Ln, e_Pn, if_true, if_false, and_self, or_true, true_or, not_false_eq_true, Bool.false_eq_true]; rfl)))))
      simp only [wX.1, e4, e1, q, q2, if_true, if_false, eF2, kF2, nF2, xi, ci, rF, ea, and_self, tp, e_cl, ne, xs, cs, ef', nI_pred, e_bd, w1.1, eP, e_KI, e_NI, eT2, kT2, nT2, rT1, b9, rF1, e_jn, ep, wp_some, Bool.false_eq_true]
      exact ⟨hz, gx1⟩
    · rw [e] at hz
      have K2' : y_K (s_I X 294 s (nI f)) (64 * b + 23) = 2 := K2
      have hst2 := c_hasStk (X := s_I X 294 s (nI f)) (b := b) K2' (by rw [e_IIn (by omega)]; exact (gx.I (by omega)).trans e2) hm (to i)
      rw [d2, eb] at hst2
      have nab : ¬ nI q9 = nI s := by rw [i_eq (by omega)]; exact nqs
      have xq := i_ix (show q9 < 6 by omega) (by decide)
      have cq := i_cl (show q9 < 2 ^ 31 by omega)
      have hHq := hH q9 hq
      have hIq := (I q9 hq).1
      have eq1 : y_I (s_I X 294 s (nI f)) 294 q9 = nI (F q9) := by rw [e_IIk nqs]; exact (cc q9 hq).1
      have eq2 : y_I (s_I X 294 s (nI f)) (64 * b + 30) q9 = nI (H q9) := by rw [e_IIn (by omega)]; exact (gx.I (by omega)).trans (eH q9 hq)
      have p1 : y_P X (64 * b + 23) 1 = 64 * b + 30 := (gx.P (by omega)).trans v4
      have k30 : y_K X (64 * b + 30) = 100 := (gx.K fun q => q).trans v8
      have n30 : y_N X (64 * b + 30) = 6 := (gx.N fun q => q).trans v9
      have nlt : ¬ nI (F q9) < nI (H q9) := by rw [i_lt (by omega)]; exact nl
      have ep : f_X4_putOn 14 (64 * b + 23) (64 * B (5 * s + f) + 20) (nI s) (to i) (s_I X 294 s (nI f)) = some (false, s_I X 294 s (nI f)) := by
        rw [eb]
        unfold f_X4_putOn
        (repeat (first | with_reducible apply ev_jn | ((with_reducible apply ev_bd); · first | (simp (disch := omega) only [nab, K2, K2', hst2, w1.1, wX.1, xq, cq, eP, p1, k30, n30, eq1, eq2, nlt, e_KI, e_NI, e_BI, e_LI, e_PI, e_KB, e_NB, e_IB, e_LB, e_PB, e_KL, e_NL, e_IL, e_BL, e_PL, e_KP, e_NP, e_IP, e_BP, e_LP, e_IIs, e_BBs, e_LLs, e_PPs, e_IIn, e_BBn, e_LLn, e_PPn, e_IIk, e_BBk, e_LLk, e_PPk, e_Ks, e_Ns, e_Is, e_Bs, e_Ls, e_Ps, e_Kn, e_Nn, e_In, e_Bn, e_Ln, e_Pn, if_true, if_false, and_self, or_true, true_or, not_false_eq_true, Bool.false_eq_true]; exact rfl) | exact rfl) | ((with_reducible apply ev_cl); · first | (simp (disch := omega) only [nab, K2, K2', hst2, w1.1, wX.1, xq, cq, eP, p1, k30, n30, eq1, eq2, nlt, e_KI, e_NI, e_BI, e_LI, e_PI, e_KB, e_NB, e_IB, e_LB, e_PB, e_KL, e_NL, e_IL, e_BL, e_PL, e_KP, e_NP, e_IP, e_BP, e_LP, e_IIs, e_BBs, e_LLs, e_PPs, e_IIn, e_BBn, e_LLn, e_PPn, e_IIk, e_BBk, e_LLk, e_PPk, e_Ks, e_Ns, e_Is, e_Bs, e_Ls, e_Ps, e_Kn, e_Nn, e_In, e_Bn, e_Ln, e_Pn, if_true, if_false, and_self, or_true, true_or, not_false_eq_true, Bool.false_eq_true]; exact rfl) | exact rfl) | ((with_reducible apply ev_g); · first | (simp (disch := omega) only [nab, K2, K2', hst2, w1.1, wX.1, xq, cq, eP, p1, k30, n30, eq1, eq2, nlt, e_KI, e_NI, e_BI, e_LI, e_PI, e_KB, e_NB, e_IB, e_LB, e_PB, e_KL, e_NL, e_IL, e_BL, e_PL, e_KP, e_NP, e_IP, e_BP, e_LP, e_IIs, e_BBs, e_LLs, e_PPs, e_IIn, e_BBn, e_LLn, e_PPn, e_IIk, e_BBk, e_LLk, e_PPk, e_Ks, e_Ns, e_Is, e_Bs, e_Ls, e_Ps, e_Kn, e_Nn, e_In, e_Bn, e_Ln, e_Pn, if_true, if_false, and_self, or_true, true_or, not_false_eq_true, Bool.false_eq_true]; done) | (simp (disch := omega) only [nab, K2, K2', hst2, w1.1, wX.1, xq, cq, eP, p1, k30, n30, eq1, eq2, nlt, e_KI, e_NI, e_BI, e_LI, e_PI, e_KB, e_NB, e_IB, e_LB, e_PB, e_KL, e_NL, e_IL, e_BL, e_PL, e_KP, e_NP, e_IP, e_BP, e_LP, e_IIs, e_BBs, e_LLs, e_PPs, e_IIn, e_BBn, e_LLn, e_PPn, e_IIk, e_BBk, e_LLk, e_PPk, e_Ks, e_Ns, e_Is, e_Bs, e_Ls, e_Ps, e_Kn, e_Nn, e_In, e_Bn, e_Ln, e_Pn, if_true, if_false, and_self, or_true, true_or, not_false_eq_true, Bool.false_eq_true]; decide) | decide) | ((with_reducible apply ev_t); · first | (simp (disch := omega) only [nab, K2, K2', hst2, w1.1, wX.1, xq, cq, eP, p1, k30, n30, eq1, eq2, nlt, e_KI, e_NI, e_BI, e_LI, e_PI, e_KB, e_NB, e_IB, e_LB, e_PB, e_KL, e_NL, e_IL, e_BL, e_PL, e_KP, e_NP, e_IP, e_BP, e_LP, e_IIs, e_BBs, e_LLs, e_PPs, e_IIn, e_BBn, e_LLn, e_PPn, e_IIk, e_BBk, e_LLk, e_PPk, e_Ks, e_Ns, e_Is, e_Bs, e_Ls, e_Ps, e_Kn, e_Nn, e_In, e_Bn, e_Ln, e_Pn, if_true, if_false, and_self, or_true, true_or, not_false_eq_true, Bool.false_eq_true]; done) | (simp (disch := omega) only [nab, K2, K2', hst2, w1.1, wX.1, xq, cq, eP, p1, k30, n30, eq1, eq2, nlt, e_KI, e_NI, e_BI, e_LI, e_PI, e_KB, e_NB, e_IB, e_LB, e_PB, e_KL, e_NL, e_IL, e_BL, e_PL, e_KP, e_NP, e_IP, e_BP, e_LP, e_IIs, e_BBs, e_LLs, e_PPs, e_IIn, e_BBn, e_LLn, e_PPn, e_IIk, e_BBk, e_LLk, e_PPk, e_Ks, e_Ns, e_Is, e_Bs, e_Ls, e_Ps, e_Kn, e_Nn, e_In, e_Bn, e_Ln, e_Pn, if_true, if_false, and_self, or_true, true_or, not_false_eq_true, Bool.false_eq_true]; decide) | decide) | ((with_reducible apply ev_f); · first | (simp (disch := omega) only [nab, K2, K2', hst2, w1.1, wX.1, xq, cq, eP, p1, k30, n30, eq1, eq2, nlt, e_KI, e_NI, e_BI, e_LI, e_PI, e_KB, e_NB, e_IB, e_LB, e_PB, e_KL, e_NL, e_IL, e_BL, e_PL, e_KP, e_NP, e_IP, e_BP, e_LP, e_IIs, e_BBs, e_LLs, e_PPs, e_IIn, e_BBn, e_LLn, e_PPn, e_IIk, e_BBk, e_LLk, e_PPk, e_Ks, e_Ns, e_Is, e_Bs, e_Ls, e_Ps, e_Kn, e_Nn, e_In, e_Bn, e_Ln, e_Pn, if_true, if_false, and_self, or_true, true_or, not_false_eq_true, Bool.false_eq_true]; done) | (simp (disch := omega) only [nab, K2, K2', hst2, w1.1, wX.1, xq, cq, eP, p1, k30, n30, eq1, eq2, nlt, e_KI, e_NI, e_BI, e_LI, e_PI, e_KB, e_NB, e_IB, e_LB, e_PB, e_KL, e_NL, e_IL, e_BL, e_PL, e_KP, e_NP, e_IP, e_BP, e_LP, e_IIs, e_BBs, e_LLs, e_PPs, e_IIn, e_BBn, e_LLn, e_PPn, e_IIk, e_BBk, e_LLk, e_PPk, e_Ks, e_Ns, e_Is, e_Bs, e_Ls, e_Ps, e_Kn, e_Nn, e_In, e_Bn, e_Ln, e_Pn, if_true, if_false, and_self, or_true, true_or, not_false_eq_true, Bool.false_eq_true]; decide) | decide) | ((with_reducible apply ev_s) <;> (first | (with_reducible rfl) | (simp (disch := omega) only [nab, K2, K2', hst2, w1.1, wX.1, xq, cq, eP, p1, k30, n30, eq1, eq2, nlt, e_KI, e_NI, e_BI, e_LI, e_PI, e_KB, e_NB, e_IB, e_LB, e_PB, e_KL, e_NL, e_IL, e_BL, e_PL, e_KP, e_NP, e_IP, e_BP, e_LP, e_IIs, e_BBs, e_LLs, e_PPs, e_IIn, e_BBn, e_LLn, e_PPn, e_IIk, e_BBk, e_LLk, e_PPk, e_Ks, e_Ns, e_Is, e_Bs, e_Ls, e_Ps, e_Kn, e_Nn, e_In, e_Bn, e_Ln, e_Pn, if_true, if_false, and_self, or_true, true_or, not_false_eq_true, Bool.false_eq_true]; done) | (simp (disch := omega) only [nab, K2, K2', hst2, w1.1, wX.1, xq, cq, eP, p1, k30, n30, eq1, eq2, nlt, e_KI, e_NI, e_BI, e_LI, e_PI, e_KB, e_NB, e_IB, e_LB, e_PB, e_KL, e_NL, e_IL, e_BL, e_PL, e_KP, e_NP, e_IP, e_BP, e_LP, e_IIs, e_BBs, e_LLs, e_PPs, e_IIn, e_BBn, e_LLn, e_PPn, e_IIk, e_BBk, e_LLk, e_PPk, e_Ks, e_Ns, e_Is, e_Bs, e_Ls, e_Ps, e_Kn, e_Nn, e_In, e_Bn, e_Ln, e_Pn, if_true, if_false, and_self, or_true, true_or, not_false_eq_true, Bool.false_eq_true]; rfl)))))
      simp only [wX.1, e4, e1, q, q2, if_true, if_false, eF2, kF2, nF2, xi, ci, rF, ea, and_self, tp, e_cl, ne, xs, cs, ef', nI_pred, e_bd, w1.1, eP, e_KI, e_NI, eT2, kT2, nT2, rT1, b9, rF1, e_jn, ep, wp_some, Bool.false_eq_true]
      exact ⟨hz, gx1⟩
    · rw [e] at hz
      have K2' : y_K (s_I X 294 s (nI f)) (64 * b + 23) = 2 := K2
      have hst2 := c_hasStk (X := s_I X 294 s (nI f)) (b := b) K2' (by rw [e_IIn (by omega)]; exact (gx.I (by omega)).trans e2) hm (to i)
      rw [d2, eb] at hst2
      have nab : ¬ nI q9 = nI s := by rw [i_eq (by omega)]; exact nqs
      have xq := i_ix (show q9 < 6 by omega) (by decide)
      have cq := i_cl (show q9 < 2 ^ 31 by omega)
      have hHq := hH q9 hq
      have eq1 : y_I (s_I X 294 s (nI f)) 294 q9 = nI (F q9) := by rw [e_IIk nqs]; exact (cc q9 hq).1
      have eq2 : y_I (s_I X 294 s (nI f)) (64 * b + 30) q9 = nI (H q9) := by rw [e_IIn (by omega)]; exact (gx.I (by omega)).trans (eH q9 hq)
      have p1 : y_P X (64 * b + 23) 1 = 64 * b + 30 := (gx.P (by omega)).trans v4
      have k30 : y_K X (64 * b + 30) = 100 := (gx.K fun q => q).trans v8
      have n30 : y_N X (64 * b + 30) = 6 := (gx.N fun q => q).trans v9
      have lt : nI (F q9) < nI (H q9) := by rw [i_lt (by omega)]; exact l
      have e5 : nI q9 * (5 : Int32) + nI (F q9) = nI (5 * q9 + F q9) := by rw [i_r5, i_add]
      have x5 := i_ix (show 5 * q9 + F q9 < 30 by omega) (by decide)
      have c5 := i_cl (show 5 * q9 + F q9 < 2 ^ 31 by omega)
      have kB : (64 * B (5 * s + f) + 20 = 0 ∨ y_K X (64 * B (5 * s + f) + 20) = 3) = True := eq_true (Or.inr ((gx.K fun q => q).trans (ek _ pf)))
      have ep : f_X4_putOn 14 (64 * b + 23) (64 * B (5 * s + f) + 20) (nI s) (to i) (s_I X 294 s (nI f)) = some (true, s_I (s_P (s_I X 294 s (nI f)) 230 (5 * q9 + F q9) (64 * B (5 * s + f) + 20)) 294 q9 (nI (F q9 + 1))) := by
        rw [eb]
        unfold f_X4_putOn
        (repeat (first | with_reducible apply ev_jn | ((with_reducible apply ev_bd); · first | (simp (disch := omega) only [nab, K2, K2', hst2, w1.1, wX.1, xq, cq, eP, p1, k30, n30, eq1, eq2, lt, e5, x5, c5, kB, nI_1, e_KI, e_NI, e_BI, e_LI, e_PI, e_KB, e_NB, e_IB, e_LB, e_PB, e_KL, e_NL, e_IL, e_BL, e_PL, e_KP, e_NP, e_IP, e_BP, e_LP, e_IIs, e_BBs, e_LLs, e_PPs, e_IIn, e_BBn, e_LLn, e_PPn, e_IIk, e_BBk, e_LLk, e_PPk, e_Ks, e_Ns, e_Is, e_Bs, e_Ls, e_Ps, e_Kn, e_Nn, e_In, e_Bn, e_Ln, e_Pn, if_true, if_false, and_self, or_true, true_or, not_false_eq_true, Bool.false_eq_true]; exact rfl) | exact rfl) | ((with_reducible apply ev_cl); · first | (simp (disch := omega) only [nab, K2, K2', hst2, w1.1, wX.1, xq, cq, eP, p1, k30, n30, eq1, eq2, lt, e5, x5, c5, kB, nI_1, e_KI, e_NI, e_BI, e_LI, e_PI, e_KB, e_NB, e_IB, e_LB, e_PB, e_KL, e_NL, e_IL, e_BL, e_PL, e_KP, e_NP, e_IP, e_BP, e_LP, e_IIs, e_BBs, e_LLs, e_PPs, e_IIn, e_BBn, e_LLn, e_PPn, e_IIk, e_BBk, e_LLk, e_PPk, e_Ks, e_Ns, e_Is, e_Bs, e_Ls, e_Ps, e_Kn, e_Nn, e_In, e_Bn, e_Ln, e_Pn, if_true, if_false, and_self, or_true, true_or, not_false_eq_true, Bool.false_eq_true]; exact rfl) | exact rfl) | ((with_reducible apply ev_g); · first | (simp (disch := omega) only [nab, K2, K2', hst2, w1.1, wX.1, xq, cq, eP, p1, k30, n30, eq1, eq2, lt, e5, x5, c5, kB, nI_1, e_KI, e_NI, e_BI, e_LI, e_PI, e_KB, e_NB, e_IB, e_LB, e_PB, e_KL, e_NL, e_IL, e_BL, e_PL, e_KP, e_NP, e_IP, e_BP, e_LP, e_IIs, e_BBs, e_LLs, e_PPs, e_IIn, e_BBn, e_LLn, e_PPn, e_IIk, e_BBk, e_LLk, e_PPk, e_Ks, e_Ns, e_Is, e_Bs, e_Ls, e_Ps, e_Kn, e_Nn, e_In, e_Bn, e_Ln, e_Pn, if_true, if_false, and_self, or_true, true_or, not_false_eq_true, Bool.false_eq_true]; done) | (simp (disch := omega) only [nab, K2, K2', hst2, w1.1, wX.1, xq, cq, eP, p1, k30, n30, eq1, eq2, lt, e5, x5, c5, kB, nI_1, e_KI, e_NI, e_BI, e_LI, e_PI, e_KB, e_NB, e_IB, e_LB, e_PB, e_KL, e_NL, e_IL, e_BL, e_PL, e_KP, e_NP, e_IP, e_BP, e_LP, e_IIs, e_BBs, e_LLs, e_PPs, e_IIn, e_BBn, e_LLn, e_PPn, e_IIk, e_BBk, e_LLk, e_PPk, e_Ks, e_Ns, e_Is, e_Bs, e_Ls, e_Ps, e_Kn, e_Nn, e_In, e_Bn, e_Ln, e_Pn, if_true, if_false, and_self, or_true, true_or, not_false_eq_true, Bool.false_eq_true]; decide) | decide) | ((with_reducible apply ev_t); · first | (simp (disch := omega) only [nab, K2, K2', hst2, w1.1, wX.1, xq, cq, eP, p1, k30, n30, eq1, eq2, lt, e5, x5, c5, kB, nI_1, e_KI, e_NI, e_BI, e_LI, e_PI, e_KB, e_NB, e_IB, e_LB, e_PB, e_KL, e_NL, e_IL, e_BL, e_PL, e_KP, e_NP, e_IP, e_BP, e_LP, e_IIs, e_BBs, e_LLs, e_PPs, e_IIn, e_BBn, e_LLn, e_PPn, e_IIk, e_BBk, e_LLk, e_PPk, e_Ks, e_Ns, e_Is, e_Bs, e_Ls, e_Ps, e_Kn, e_Nn, e_In, e_Bn, e_Ln, e_Pn, if_true, if_false, and_self, or_true, true_or, not_false_eq_true, Bool.false_eq_true]; done) | (simp (disch := omega) only [nab, K2, K2', hst2, w1.1, wX.1, xq, cq, eP, p1, k30, n30, eq1, eq2, lt, e5, x5, c5, kB, nI_1, e_KI, e_NI, e_BI, e_LI, e_PI, e_KB, e_NB, e_IB, e_LB, e_PB, e_KL, e_NL, e_IL, e_BL, e_PL, e_KP, e_NP, e_IP, e_BP, e_LP, e_IIs, e_BBs, e_LLs, e_PPs, e_IIn, e_BBn, e_LLn, e_PPn, e_IIk, e_BBk, e_LLk, e_PPk, e_Ks, e_Ns, e_Is, e_Bs, e_Ls, e_Ps, e_Kn, e_Nn, e_In, e_Bn, e_Ln, e_Pn, if_true, if_false, and_self, or_true, true_or, not_false_eq_true, Bool.false_eq_true]; decide) | decide) | ((with_reducible apply ev_f); · first | (simp (disch := omega) only [nab, K2, K2', hst2, w1.1, wX.1, xq, cq, eP, p1, k30, n30, eq1, eq2, lt, e5, x5, c5, kB, nI_1, e_KI, e_NI, e_BI, e_LI, e_PI, e_KB, e_NB, e_IB, e_LB, e_PB, e_KL, e_NL, e_IL, e_BL, e_PL, e_KP, e_NP, e_IP, e_BP, e_LP, e_IIs, e_BBs, e_LLs, e_PPs, e_IIn, e_BBn, e_LLn, e_PPn, e_IIk, e_BBk, e_LLk, e_PPk, e_Ks, e_Ns, e_Is, e_Bs, e_Ls, e_Ps, e_Kn, e_Nn, e_In, e_Bn, e_Ln, e_Pn, if_true, if_false, and_self, or_true, true_or, not_false_eq_true, Bool.false_eq_true]; done) | (simp (disch := omega) only [nab, K2, K2', hst2, w1.1, wX.1, xq, cq, eP, p1, k30, n30, eq1, eq2, lt, e5, x5, c5, kB, nI_1, e_KI, e_NI, e_BI, e_LI, e_PI, e_KB, e_NB, e_IB, e_LB, e_PB, e_KL, e_NL, e_IL, e_BL, e_PL, e_KP, e_NP, e_IP, e_BP, e_LP, e_IIs, e_BBs, e_LLs, e_PPs, e_IIn, e_BBn, e_LLn, e_PPn, e_IIk, e_BBk, e_LLk, e_PPk, e_Ks, e_Ns, e_Is, e_Bs, e_Ls, e_Ps, e_Kn, e_Nn, e_In, e_Bn, e_Ln, e_Pn, if_true, if_false, and_self, or_true, true_or, not_false_eq_true, Bool.false_eq_true]; decide) | decide) | ((with_reducible apply ev_s) <;> (first | (with_reducible rfl) | (simp (disch := omega) only [nab, K2, K2', hst2, w1.1, wX.1, xq, cq, eP, p1, k30, n30, eq1, eq2, lt, e5, x5, c5, kB, nI_1, e_KI, e_NI, e_BI, e_LI, e_PI, e_KB, e_NB, e_IB, e_LB, e_PB, e_KL, e_NL, e_IL, e_BL, e_PL, e_KP, e_NP, e_IP, e_BP, e_LP, e_IIs, e_BBs, e_LLs, e_PPs, e_IIn, e_BBn, e_LLn, e_PPn, e_IIk, e_BBk, e_LLk, e_PPk, e_Ks, e_Ns, e_Is, e_Bs, e_Ls, e_Ps, e_Kn, e_Nn, e_In, e_Bn, e_Ln, e_Pn, if_true, if_false, and_self, or_true, true_or, not_false_eq_true, Bool.false_eq_true]; done) | (simp (disch := omega) only [nab, K2, K2', hst2, w1.1, wX.1, xq, cq, eP, p1, k30, n30, eq1, eq2, lt, e5, x5, c5, kB, nI_1, e_KI, e_NI, e_BI, e_LI, e_PI, e_KB, e_NB, e_IB, e_LB, e_PB, e_KL, e_NL, e_IL, e_BL, e_PL, e_KP, e_NP, e_IP, e_BP, e_LP, e_IIs, e_BBs, e_LLs, e_PPs, e_IIn, e_BBn, e_LLn, e_PPn, e_IIk, e_BBk, e_LLk, e_PPk, e_Ks, e_Ns, e_Is, e_Bs, e_Ls, e_Ps, e_Kn, e_Nn, e_In, e_Bn, e_Ln, e_Pn, if_true, if_false, and_self, or_true, true_or, not_false_eq_true, Bool.false_eq_true]; rfl)))))
      simp only [wX.1, e4, e1, q, q2, if_true, if_false, eF2, kF2, nF2, xi, ci, rF, ea, and_self, tp, e_cl, ne, xs, cs, ef', nI_pred, e_bd, w1.1, eP, e_KI, e_NI, eT2, kT2, nT2, rT1, b9, rF1, e_jn, ep, nI_1]
      refine IH r (i + 1) _ _ g _ (by omega) (by omega) (by omega) I2 ((gx1.sP (Or.inr rfl)).sI (Or.inl rfl)) (fun s' hs' => ?_) hz
      have hHs' := hH s' hs'
      have hIs' := (I s' hs').1
      by_cases es : s' = s
      · rw [es, upN_s, e_IIk (by omega), e_IP, e_IIs]
        refine ⟨rfl, fun t ht => ?_⟩
        rw [upN_n (by omega), e_PI, e_PPk (by omega), e_PI]
        exact (cc s hs).2 t (by omega)
      · rw [upN_n es]
        by_cases e2' : s' = q9
        · rw [e2', upN_s, e_IIs]
          refine ⟨rfl, fun t ht => ?_⟩
          by_cases e3 : t = F q9
          · rw [e3, upN_s, e_PI, e_PPs]
          · rw [upN_n (by omega), e_PI, e_PPk (by omega), e_PI]
            exact (cc q9 hq).2 t (by omega)
        · rw [upN_n e2', e_IIk e2', e_IP, e_IIk es]
          refine ⟨(cc s' hs').1, fun t ht => ?_⟩
          rw [upN_n (by omega), e_PI, e_PPk (by omega), e_PI]
          exact (cc s' hs').2 t ht
end HB
