/-! ship -/
section SP
theorem wp_be {α β : Type} {a a' : α} {f : α → Option (β × y_H)} {Q : β → y_H → Prop} (ha : a = a') (w : wp (f a') Q) : wp (y_bd a f) Q := by
  subst ha
  exact w
theorem wp_ce {α β : Type} {o : Option (α × y_H)} {r : α} {h : y_H} {f : α → y_H → Option (β × y_H)} {Q : β → y_H → Prop} (ho : o = some (r, h)) (w : wp (f r h) Q) : wp (y_cl o f) Q := by
  subst ho
  exact w
variable {h : y_H} {t e N C S A : Nat}
theorem c_fill2 {p n : Nat} {v : Int32} (hK : y_K h p = 100) (hN : y_N h p = n) (hn : n < 1000) : wp (f_J7_fill_53178 p v h) fun _ h' => ag (fun a k => a = p ∧ k < n) (fun _ => False) h h' ∧ ∀ k, k < n → y_I h' p k = v := by
  unfold f_J7_fill_53178
  simp only [hK, if_true, hN]
  refine wp_jl (fun m j => ∀ i h1, i ≤ n → n - i < m → ag (fun a k => a = p ∧ k < n) (fun _ => False) h h1 → (∀ k, k < i → y_I h1 p k = v) → wp (j p v (nI i) (nI n) h1) fun _ h' => ag (fun a k => a = p ∧ k < n) (fun _ => False) h h' ∧ ∀ k, k < n → y_I h' p k = v) (fun i _ _ hm => absurd hm (by omega)) (fun m j IH i h1 hi hm g l => ?_) (fun j IH => ?_)
  · have k1 : y_K h1 p = 100 := (g.K (fun q => q)).trans hK
    have n1 : y_N h1 p = n := (g.N (fun q => q)).trans hN
    by_cases e : i = n
    · subst e
      have q : nI i ≤ nI i := nI_le (Nat.le_refl _) (by omega)
      simp only [q, if_true, wp_some]
      exact ⟨g, l⟩
    · have q : ¬ nI n ≤ nI i := nI_ge (by omega) (by omega)
      have hx := i_ix (show i < n by omega) (by omega)
      have hcl := i_cl (show i < 2 ^ 31 by omega)
      simp only [q, if_false, k1, n1, hx, hcl, and_self, if_true, e_bd, nI_1]
      refine IH (i + 1) _ (by omega) (by omega) (g.sI ⟨rfl, by omega⟩) (fun k hk => ?_)
      by_cases ek : k = i
      · subst ek
        exact e_IIs
      · rw [e_IIk ek]
        exact l k (by omega)
  · exact IH 0 h (by omega) (by unfold y_fu; omega) (ag.refl _ _ _) (fun k hk => absurd hk (by omega))
theorem c_fill {p n : Nat} {v : Int32} (hK : y_K h p = 100) (hN : y_N h p = n) (hn : n < 1000) : wp (f_J7_fill_53178 p v h) fun _ h' => ag (fun a _ => a = p) (fun _ => False) h h' ∧ ∀ k, k < n → y_I h' p k = v := wp_mono (c_fill2 hK hN hn) (fun _ _ q => ⟨q.1.mono (fun _ _ z => z.1) (fun _ z => z), q.2⟩)
def hsC (h : y_H) (p : Nat) (a b c d : Int32) : y_H := s_I (s_I (s_I (s_I (s_I (s_I (s_I h p 8 a) p 9 b) p 10 c) p 11 d) p 7 0) p 12 0) p 13 0
theorem c_sbegin (v : sshape h S) (a b c d : Int32) : wp (f_X7_begin (64 * S + 22) a b c d h) fun _ h' => ag (fun x _ => x = 64 * S + 28 ∨ x = 64 * S + 25) (fun _ => False) (hsC h (64 * S + 22) a b c d) h' ∧ (∀ k, k < 3 → y_I h' (64 * S + 28) k = 1000000) ∧ ∀ k, k < 54 → y_P h' (64 * S + 25) k = 0 := by
  unfold sshape at v
  obtain ⟨v1, v2, v3, v4, v5, v6, v7, v8, v9, v10, v11, v12, v13, v14, v15, v16, v17, v18⟩ := v
  have ef := c_fill (h := hsC h (64 * S + 22) a b c d) (p := 64 * S + 28) (n := 3) (v := 1000000) v15 v16 (by decide)
  unfold f_X7_begin
  simp only [v2, e_KI, e_PI, v7, if_true, e_bd]
  refine wp_call ef (fun _ h1 q => ?_)
  obtain ⟨g1, l1⟩ := q
  refine wp_jl (fun m j => ∀ i h2, i ≤ 54 → 54 - i < m → ag (fun x _ => x = 64 * S + 28 ∨ x = 64 * S + 25) (fun _ => False) (hsC h (64 * S + 22) a b c d) h2 → (∀ k, k < 3 → y_I h2 (64 * S + 28) k = 1000000) → (∀ k, k < i → y_P h2 (64 * S + 25) k = 0) → wp (j (64 * S + 22) (nI i) h2) fun _ h' => ag (fun x _ => x = 64 * S + 28 ∨ x = 64 * S + 25) (fun _ => False) (hsC h (64 * S + 22) a b c d) h' ∧ (∀ k, k < 3 → y_I h' (64 * S + 28) k = 1000000) ∧ ∀ k, k < 54 → y_P h' (64 * S + 25) k = 0) (fun i _ _ hm => absurd hm (by omega)) (fun m j IH i h2 hi hm g l l3 => ?_) (fun j IH => ?_)
  · have k1 : y_K h2 (64 * S + 22) = 8 := (g.K (fun q => q)).trans v2
    have k2 : y_K h2 (64 * S + 25) = 103 := (g.K (fun q => q)).trans v9
    have n2 : y_N h2 (64 * S + 25) = 54 := (g.N (fun q => q)).trans v10
    have p2 : y_P h2 (64 * S + 22) 1 = 64 * S + 25 := (g.P (by omega)).trans v4
    by_cases e : i = 54
    · subst e
      have q : (54 : Int32) ≤ nI 54 := by decide
      simp only [q, if_true, wp_some]
      exact ⟨g, l, l3⟩
    · have q : ¬ (54 : Int32) ≤ nI i := nI_ge (a := i) (b := 54) (by omega) (by decide)
      have hx := i_ix (show i < 54 by omega) (by omega)
      have hcl := i_cl (show i < 2 ^ 31 by omega)
      simp only [q, if_false, k1, k2, n2, p2, hx, hcl, true_or, and_self, if_true, e_bd, nI_1]
      refine IH (i + 1) _ (by omega) (by omega) (g.sP (Or.inr rfl)) l (fun k hk => ?_)
      by_cases ek : k = i
      · subst ek
        exact e_PPs
      · rw [e_PPk ek]
        exact l3 k (by omega)
  · exact IH 0 h1 (by omega) (by unfold y_fu; omega) (g1.mono (fun a k q => Or.inl q) (fun a q => q)) l1 (fun k hk => absurd hk (by omega))
def hsM (h : y_H) (S : Nat) (a b c d : Int32) : y_H := s_I (s_I (s_I (s_I (s_I (s_I (s_I h 1954 S a) 2018 S b) 2082 S c) 2146 S d) 2402 S 0) 2466 S 0) 2530 S 0
theorem m_ship {a b c d : Int32} (w : Sh h) (hS : S < 3) (e : y_I h 11 34 = nI S) (d1 : decide (1 ≤ a ∧ a ≤ 6) = true) (d2 : decide (1 ≤ b ∧ b ≤ 3) = true) (d3 : decide (1 ≤ c ∧ c ≤ 3) = true) (d4 : decide (0 ≤ d ∧ d ≤ 9) = true) : wp (f_X12_ship 11 a b c d h) fun r h' => r = nI S ∧ ag (fun x k => x = 2210 ∧ 54 * S ≤ k ∧ k < 54 * S + 54 ∨ x = 2274 ∧ 3 * S ≤ k ∧ k < 3 * S + 3 ∨ x = 11 ∧ k = 34) (fun _ => False) (hsM h S a b c d) h' ∧ y_I h' 11 34 = nI (S + 1) ∧ (∀ k, k < 54 → y_I h' 2210 (54 * S + k) = -1) ∧ ∀ k, k < 3 → y_I h' 2274 (3 * S + k) = 1000000 := by
  suffices H : ∀ Q : Int32 → y_H → Prop, (∀ r h', (r = nI S ∧ ag (fun x k => x = 2210 ∧ 54 * S ≤ k ∧ k < 54 * S + 54 ∨ x = 2274 ∧ 3 * S ≤ k ∧ k < 3 * S + 3 ∨ x = 11 ∧ k = 34) (fun _ => False) (hsM h S a b c d) h' ∧ y_I h' 11 34 = nI (S + 1) ∧ (∀ k, k < 54 → y_I h' 2210 (54 * S + k) = -1) ∧ ∀ k, k < 3 → y_I h' 2274 (3 * S + k) = 1000000) → Q r h') → wp (f_X12_ship 11 a b c d h) Q from H _ (fun _ _ q => q)
  intro Q hQ
  have xs := i_ix hS (by decide)
  have cs := i_cl (show S < 2 ^ 31 by omega)
  have q3 : ¬ nI S = 3 := fun z => absurd ((nI_eq (a := S) (b := 3) (by omega) (by decide)).mp z) (by omega)
  have wm : Sh (hsM h S a b c d) := w
  have em : y_I (hsM h S a b c d) 11 34 = nI S := by
    simp (disch := omega) only [hsM, e_KI, e_NI, e_BI, e_LI, e_PI, e_KB, e_NB, e_IB, e_LB, e_PB, e_KL, e_NL, e_IL, e_BL, e_PL, e_KP, e_NP, e_IP, e_BP, e_LP, e_IIs, e_BBs, e_LLs, e_PPs, e_IIn, e_BBn, e_LLn, e_PPn, e_IIk, e_BBk, e_LLk, e_PPk]
    exact e
  unfold f_X12_ship
  (repeat (first | with_reducible apply wp_jn | ((with_reducible apply wp_be); · first | (simp (disch := omega) only [m_in, d1, d2, d3, d4, w.2, e, q3, xs, cs, e_KI, e_NI, e_BI, e_LI, e_PI, e_KB, e_NB, e_IB, e_LB, e_PB, e_KL, e_NL, e_IL, e_BL, e_PL, e_KP, e_NP, e_IP, e_BP, e_LP, e_IIs, e_BBs, e_LLs, e_PPs, e_IIn, e_BBn, e_LLn, e_PPn, e_IIk, e_BBk, e_LLk, e_PPk, e_Ks, e_Ns, e_Is, e_Bs, e_Ls, e_Ps, e_Kn, e_Nn, e_In, e_Bn, e_Ln, e_Pn, if_true, if_false, and_self, or_true, true_or, not_false_eq_true, Bool.false_eq_true]; exact rfl) | exact rfl) | ((with_reducible apply wp_ce); · first | (simp (disch := omega) only [m_in, d1, d2, d3, d4, w.2, e, q3, xs, cs, e_KI, e_NI, e_BI, e_LI, e_PI, e_KB, e_NB, e_IB, e_LB, e_PB, e_KL, e_NL, e_IL, e_BL, e_PL, e_KP, e_NP, e_IP, e_BP, e_LP, e_IIs, e_BBs, e_LLs, e_PPs, e_IIn, e_BBn, e_LLn, e_PPn, e_IIk, e_BBk, e_LLk, e_PPk, e_Ks, e_Ns, e_Is, e_Bs, e_Ls, e_Ps, e_Kn, e_Nn, e_In, e_Bn, e_Ln, e_Pn, if_true, if_false, and_self, or_true, true_or, not_false_eq_true, Bool.false_eq_true]; exact rfl) | exact rfl) | ((with_reducible apply wp_g); · first | (simp (disch := omega) only [m_in, d1, d2, d3, d4, w.2, e, q3, xs, cs, e_KI, e_NI, e_BI, e_LI, e_PI, e_KB, e_NB, e_IB, e_LB, e_PB, e_KL, e_NL, e_IL, e_BL, e_PL, e_KP, e_NP, e_IP, e_BP, e_LP, e_IIs, e_BBs, e_LLs, e_PPs, e_IIn, e_BBn, e_LLn, e_PPn, e_IIk, e_BBk, e_LLk, e_PPk, e_Ks, e_Ns, e_Is, e_Bs, e_Ls, e_Ps, e_Kn, e_Nn, e_In, e_Bn, e_Ln, e_Pn, if_true, if_false, and_self, or_true, true_or, not_false_eq_true, Bool.false_eq_true]; done) | (simp (disch := omega) only [m_in, d1, d2, d3, d4, w.2, e, q3, xs, cs, e_KI, e_NI, e_BI, e_LI, e_PI, e_KB, e_NB, e_IB, e_LB, e_PB, e_KL, e_NL, e_IL, e_BL, e_PL, e_KP, e_NP, e_IP, e_BP, e_LP, e_IIs, e_BBs, e_LLs, e_PPs, e_IIn, e_BBn, e_LLn, e_PPn, e_IIk, e_BBk, e_LLk, e_PPk, e_Ks, e_Ns, e_Is, e_Bs, e_Ls, e_Ps, e_Kn, e_Nn, e_In, e_Bn, e_Ln, e_Pn, if_true, if_false, and_self, or_true, true_or, not_false_eq_true, Bool.false_eq_true]; decide) | decide) | ((with_reducible apply wp_pos); · first | (simp (disch := omega) only [m_in, d1, d2, d3, d4, w.2, e, q3, xs, cs, e_KI, e_NI, e_BI, e_LI, e_PI, e_KB, e_NB, e_IB, e_LB, e_PB, e_KL, e_NL, e_IL, e_BL, e_PL, e_KP, e_NP, e_IP, e_BP, e_LP, e_IIs, e_BBs, e_LLs, e_PPs, e_IIn, e_BBn, e_LLn, e_PPn, e_IIk, e_BBk, e_LLk, e_PPk, e_Ks, e_Ns, e_Is, e_Bs, e_Ls, e_Ps, e_Kn, e_Nn, e_In, e_Bn, e_Ln, e_Pn, if_true, if_false, and_self, or_true, true_or, not_false_eq_true, Bool.false_eq_true]; done) | (simp (disch := omega) only [m_in, d1, d2, d3, d4, w.2, e, q3, xs, cs, e_KI, e_NI, e_BI, e_LI, e_PI, e_KB, e_NB, e_IB, e_LB, e_PB, e_KL, e_NL, e_IL, e_BL, e_PL, e_KP, e_NP, e_IP, e_BP, e_LP, e_IIs, e_BBs, e_LLs, e_PPs, e_IIn, e_BBn, e_LLn, e_PPn, e_IIk, e_BBk, e_LLk, e_PPk, e_Ks, e_Ns, e_Is, e_Bs, e_Ls, e_Ps, e_Kn, e_Nn, e_In, e_Bn, e_Ln, e_Pn, if_true, if_false, and_self, or_true, true_or, not_false_eq_true, Bool.false_eq_true]; decide) | decide) | ((with_reducible apply wp_neg); · first | (simp (disch := omega) only [m_in, d1, d2, d3, d4, w.2, e, q3, xs, cs, e_KI, e_NI, e_BI, e_LI, e_PI, e_KB, e_NB, e_IB, e_LB, e_PB, e_KL, e_NL, e_IL, e_BL, e_PL, e_KP, e_NP, e_IP, e_BP, e_LP, e_IIs, e_BBs, e_LLs, e_PPs, e_IIn, e_BBn, e_LLn, e_PPn, e_IIk, e_BBk, e_LLk, e_PPk, e_Ks, e_Ns, e_Is, e_Bs, e_Ls, e_Ps, e_Kn, e_Nn, e_In, e_Bn, e_Ln, e_Pn, if_true, if_false, and_self, or_true, true_or, not_false_eq_true, Bool.false_eq_true]; done) | (simp (disch := omega) only [m_in, d1, d2, d3, d4, w.2, e, q3, xs, cs, e_KI, e_NI, e_BI, e_LI, e_PI, e_KB, e_NB, e_IB, e_LB, e_PB, e_KL, e_NL, e_IL, e_BL, e_PL, e_KP, e_NP, e_IP, e_BP, e_LP, e_IIs, e_BBs, e_LLs, e_PPs, e_IIn, e_BBn, e_LLn, e_PPn, e_IIk, e_BBk, e_LLk, e_PPk, e_Ks, e_Ns, e_Is, e_Bs, e_Ls, e_Ps, e_Kn, e_Nn, e_In, e_Bn, e_Ln, e_Pn, if_true, if_false, and_self, or_true, true_or, not_false_eq_true, Bool.false_eq_true]; decide) | decide)))
  refine wp_jl (fun m j => ∀ i h2, i ≤ 54 → 54 - i < m → ag (fun x k => x = 2210 ∧ 54 * S ≤ k ∧ k < 54 * S + 54) (fun _ => False) (hsM h S a b c d) h2 → (∀ k, k < i → y_I h2 2210 (54 * S + k) = -1) → wp (j 11 (nI i) h2) Q) (fun i _ _ hm => absurd hm (by omega)) (fun m j IH i h2 hi hm g l => ?_) (fun j IH => ?_)
  · have w2 : Sh h2 := (Sh_ag g (by intro a k q; (simp only [FSh] at q ⊢) <;> omega) (by intro a q; (simp only [GSh, not_false_eq_true] at q ⊢) <;> omega) wm)
    have e2 : y_I h2 11 34 = nI S := (g.I (by omega)).trans em
    by_cases e9 : i = 54
    · subst e9
      have q : (54 : Int32) ≤ nI 54 := by decide
      simp only [q, if_true]
      refine wp_jl (fun m j => ∀ i h3, i ≤ 3 → 3 - i < m → ag (fun x k => x = 2210 ∧ 54 * S ≤ k ∧ k < 54 * S + 54 ∨ x = 2274 ∧ 3 * S ≤ k ∧ k < 3 * S + 3) (fun _ => False) (hsM h S a b c d) h3 → (∀ k, k < 54 → y_I h3 2210 (54 * S + k) = -1) → (∀ k, k < i → y_I h3 2274 (3 * S + k) = 1000000) → wp (j 11 (nI i) h3) Q) (fun i _ _ hm => absurd hm (by omega)) (fun m j IH i h3 hi hm g3 l2 l3 => ?_) (fun j IH => ?_)
      · have w3 : Sh h3 := (Sh_ag g3 (by intro a k q; (simp only [FSh] at q ⊢) <;> omega) (by intro a q; (simp only [GSh, not_false_eq_true] at q ⊢) <;> omega) wm)
        have e3 : y_I h3 11 34 = nI S := (g3.I (by omega)).trans em
        by_cases e8 : i = 3
        · subst e8
          have q : (3 : Int32) ≤ nI 3 := by decide
          simp only [q, if_true, w3.2, e3, e_bd, e_KI, e_IIs, nI_1, nI_pred, wp_some]
          refine hQ _ _ ⟨rfl, ag.sI (g3.mono (fun a k q => by omega) (fun a q => q)) (Or.inr (Or.inr ⟨rfl, rfl⟩)), e_IIs, fun k hk => ?_, fun k hk => ?_⟩
          · rw [e_IIn (by decide)]
            exact l2 k hk
          · rw [e_IIn (by decide)]
            exact l3 k hk
        · have q : ¬ (3 : Int32) ≤ nI i := nI_ge (a := i) (b := 3) (by omega) (by decide)
          have hx := i_ix (show 3 * S + i < 9 by omega) (by omega)
          have hcl := i_cl (show 3 * S + i < 2 ^ 31 by omega)
          simp only [q, if_false, w3.2, e3, i_m3, i_add, hx, hcl, and_self, if_true, e_bd, nI_1]
          refine IH (i + 1) _ (by omega) (by omega) (g3.sI (Or.inr ⟨rfl, by omega, by omega⟩)) (fun k hk => ?_) (fun k hk => ?_)
          · rw [e_IIn (by decide)]
            exact l2 k hk
          · by_cases ek : k = i
            · subst ek
              exact e_IIs
            · rw [e_IIk (by omega)]
              exact l3 k (by omega)
      · exact IH 0 h2 (by omega) (by unfold y_fu; omega) (g.mono (fun a k q => Or.inl q) (fun a q => q)) l (fun k hk => absurd hk (by omega))
    · have q : ¬ (54 : Int32) ≤ nI i := nI_ge (a := i) (b := 54) (by omega) (by decide)
      have hx := i_ix (show 54 * S + i < 162 by omega) (by omega)
      have hcl := i_cl (show 54 * S + i < 2 ^ 31 by omega)
      simp only [q, if_false, w2.2, e2, i_m54, i_add, hx, hcl, and_self, if_true, e_bd, nI_1]
      refine IH (i + 1) _ (by omega) (by omega) (g.sI ⟨rfl, by omega, by omega⟩) (fun k hk => ?_)
      by_cases ek : k = i
      · subst ek
        exact e_IIs
      · rw [e_IIk (by omega)]
        exact l k (by omega)
  · exact IH 0 _ (by omega) (by unfold y_fu; omega) (ag.refl _ _ _) (fun k hk => absurd hk (by omega))
theorem RH_ship {o : Nat} (hS : S < 3) (ho8 : o < 60) (ho : y_I h 13 2 = nI o) (q : y_I h 2466 S = 0) (hp : y_I h 2402 S = 0) (rH : RH h N C S A) : RH h N C (S + 1) A := by
  have key : ∀ k, k < A → y_I h 2722 (14 * k + 11) ≠ nI S := fun k hk => on_ne (by omega) (Nat.le_refl _) (keysH rH ho8 ho hk).2.2
  refine ⟨fun r hr => VB_ship (St.refl h C S) ((ov_none key r hr).trans q) hp (rH.1 r hr), fun r hr o ho8 ho9 => ?_⟩
  obtain ⟨a1, a2, a3, a4, a5, a6⟩ := rH.2 r hr o ho8 ho9
  refine ⟨a1, a2, on_up (by omega) a3, a4, a5, fun s hs z => ?_⟩
  by_cases e : s = S
  · subst e
    exact absurd z (key _ (by omega))
  · exact a6 s (by omega) z
theorem RP_ship (hS : S < 3) (q : ∀ k, k < 54 → y_I h 2210 (54 * S + k) = -1) (V : ∀ n, n < N → okp h C S (y_I h 418 n) (y_I h 482 n) (y_I h 546 n) (y_I h 610 n)) (rP : RP h N C S) : RP h N C (S + 1) := by
  obtain ⟨p1, p2, p3, p4⟩ := rP
  refine ⟨p1, p2, fun s k g1 g2 => ?_, fun n s k hn z z1 z2 g1 g2 => ?_⟩
  · by_cases e : s = S
    · subst e
      exact Or.inl (q k g2)
    · exact p3 s k (by omega) g2
  · by_cases e : s = S
    · subst e
      exfalso
      rcases V n hn with ⟨o, -⟩ | ⟨b, m, s', H, t, -, -, -, -, -, -, -, -, o, -⟩ | ⟨c, hc, o, -⟩ | ⟨s', k, u, v, w, o1, -, -, -, -, -, -, -, o, o2, -⟩ | ⟨o, -⟩
      · rw [z] at o; exact absurd o (by decide)
      · rw [z] at o; exact absurd o (by decide)
      · rw [z] at o; exact absurd o (by decide)
      · rw [z1] at o2
        have := (nI_eq (a := s) (b := s') (by omega) (by omega)).mp o2
        omega
      · rw [z] at o; exact absurd o (by decide)
    · exact p4 n s k hn z z1 z2 (by omega) g2
theorem RLn_ship (rL : RLn h N S t) : RLn h N (S + 1) t := ⟨fun n hn => on_up (by omega) (rL.1 n hn), rL.2⟩
end SP
