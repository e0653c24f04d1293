/-! a new act: the class's note, the model's keep and done -/
theorem i_rem {a d : Nat} (ha : a < 2 ^ 31) (h0 : 0 < d) (hd : d < 2 ^ 31) : y_rem (nI a) (nI d) = nI (a % d) := pk_rem ha h0 hd
theorem i_r60 {a : Nat} (ha : a < 2 ^ 31) : y_rem (nI a) 60 = nI (a % 60) := i_rem (d := 60) ha (by decide) (by decide)
theorem wp_jc {α β : Type} {j : α} {f : α → Option (β × y_H)} {Q : β → y_H → Prop} (P : α → (β → y_H → Prop) → Prop) (hj : P j Q) (k : ∀ j, P j Q → wp (f j) Q) : wp (y_jn j f) Q := k j hj
section JW
variable {h : y_H} {A : Nat}
theorem c_abegin {p pb pc ps : Nat} (x : Int32) (hK : y_K h p = 1) (hb : pb ≠ 0 → y_K h pb = 3) (hc : pc ≠ 0 → y_K h pc = 4 ∧ (y_P h pc 4 ≠ 0 → y_K h (y_P h pc 4) = 3)) (hs : ps ≠ 0 → y_K h ps = 8) : wp (f_X0_begin p x pb pc ps h) fun _ h' => ag (fun a _ => a = p) (fun _ => False) h h' ∧ y_I h' p 0 = x ∧ y_P h' p 1 = pb ∧ y_P h' p 7 = pc ∧ y_P h' p 11 = ps
    ∧ (pb ≠ 0 → y_I h' p 2 = y_I h pb 6 ∧ y_I h' p 3 = y_I h pb 7 ∧ y_I h' p 4 = y_I h pb 8 ∧ y_I h' p 5 = y_I h pb 9 ∧ y_B h' p 6 = y_B h pb 10)
    ∧ (pc ≠ 0 → y_I h' p 8 = y_I h pc 3 ∧ y_I h' p 9 = (if y_P h pc 4 = 0 then -1 else y_I h (y_P h pc 4) 0) ∧ y_I h' p 10 = y_I h pc 5)
    ∧ (ps ≠ 0 → y_I h' p 12 = y_I h ps 12 ∧ y_I h' p 13 = y_I h ps 13) := by
  have hb2 : pb ≠ 0 → pb ≠ p := fun q e => by
    have z := hb q
    rw [e, hK] at z
    exact absurd z (by decide)
  have hc2 : pc ≠ 0 → pc ≠ p := fun q e => by
    have z := (hc q).1
    rw [e, hK] at z
    exact absurd z (by decide)
  have hs2 : ps ≠ 0 → ps ≠ p := fun q e => by
    have z := hs q
    rw [e, hK] at z
    exact absurd z (by decide)
  have hc1 : pc ≠ 0 → y_K h pc = 4 := fun q => (hc q).1
  have hd2 : pc ≠ 0 → y_P h pc 4 ≠ 0 → y_P h pc 4 ≠ p := fun q z e => by
    have z := (hc q).2 z
    rw [e, hK] at z
    exact absurd z (by decide)
  have hd1 : pc ≠ 0 → y_P h pc 4 ≠ 0 → y_K h (y_P h pc 4) = 3 := fun q z => (hc q).2 z
  unfold f_X0_begin
  refine wp_g hK (wp_bd (wp_g hK (wp_bd ?_)))
  refine wp_jc (fun j Q9 => ∀ h', ag (fun a _ => a = p) (fun _ => False) h h' → y_I h' p 0 = x → y_P h' p 1 = pb → (pb ≠ 0 → y_I h' p 2 = y_I h pb 6 ∧ y_I h' p 3 = y_I h pb 7 ∧ y_I h' p 4 = y_I h pb 8 ∧ y_I h' p 5 = y_I h pb 9 ∧ y_B h' p 6 = y_B h pb 10) → wp (j p pc ps h') Q9) (fun h1 g1 u0 u1 ub => ?_) (fun j hj => ?_)
  · have hK1 : y_K h1 p = 1 := (g1.K fun q => q).trans hK
    refine wp_g hK1 (wp_bd ?_)
    refine wp_jc (fun j Q9 => ∀ h', ag (fun a _ => a = p) (fun _ => False) h h' → y_I h' p 0 = x → y_P h' p 1 = pb → y_P h' p 7 = pc → (pb ≠ 0 → y_I h' p 2 = y_I h pb 6 ∧ y_I h' p 3 = y_I h pb 7 ∧ y_I h' p 4 = y_I h pb 8 ∧ y_I h' p 5 = y_I h pb 9 ∧ y_B h' p 6 = y_B h pb 10) → (pc ≠ 0 → y_I h' p 8 = y_I h pc 3 ∧ y_I h' p 9 = (if y_P h pc 4 = 0 then -1 else y_I h (y_P h pc 4) 0) ∧ y_I h' p 10 = y_I h pc 5) → wp (j p ps h') Q9) (fun h2 g2 v0 v1 v7 vb vc => ?_) (fun j hj => ?_)
    · have hK2 : y_K h2 p = 1 := (g2.K fun q => q).trans hK
      refine wp_g hK2 (wp_bd ?_)
      refine wp_jn ?_
      by_cases s0 : ps = 0
      · rw [if_pos s0, wp_some]
        refine ⟨ag.sP g2 rfl, v0, ?_, ?_, e_PPs, fun q => vb q, fun q => vc q, fun q => absurd s0 q⟩
        · rw [e_PPk (by omega)]
          exact v1
        · rw [e_PPk (by omega)]
          exact v7
      · have s2 := hs2 s0
        have ks : y_K h2 ps = 8 := (g2.K fun q => q).trans (hs s0)
        have i12 : y_I h2 ps 12 = y_I h ps 12 := g2.I s2
        have i13 : y_I h2 ps 13 = y_I h ps 13 := g2.I s2
        simp (disch := omega) only [if_neg s0, hK2, ks, i12, i13, e_bd, if_true, e_KI, e_NI, e_BI, e_LI, e_PI, e_KB, e_NB, e_IB, e_LB, e_PB, e_KL, e_NL, e_IL, e_BL, e_PL, e_KP, e_NP, e_IP, e_BP, e_LP, e_IIs, e_BBs, e_LLs, e_PPs, e_IIn, e_BBn, e_LLn, e_PPn, e_IIk, e_BBk, e_LLk, e_PPk, wp_some]
        refine ⟨ag.sI (ag.sI (ag.sP g2 rfl) rfl) rfl, v0, v1, v7, trivial, fun q => vb q, fun q => vc q, fun _ => ⟨trivial, trivial⟩⟩
    · by_cases c0 : pc = 0
      · rw [if_pos c0]
        refine hj _ (ag.sP g1 rfl) u0 ?_ e_PPs (fun q => ub q) (fun q => absurd c0 q)
        rw [e_PPk (by omega)]
        exact u1
      · have c2 := hc2 c0
        have kc : y_K h1 pc = 4 := (g1.K fun q => q).trans (hc1 c0)
        have i3 : y_I h1 pc 3 = y_I h pc 3 := g1.I c2
        have i5 : y_I h1 pc 5 = y_I h pc 5 := g1.I c2
        have p4 : y_P h1 pc 4 = y_P h pc 4 := g1.P c2
        have nu : ∀ h9, ag (fun a _ => a = p) (fun _ => False) h h9 → f_X11_numberOf (y_P h pc 4) (-1) h9 = some (if y_P h pc 4 = 0 then -1 else y_I h (y_P h pc 4) 0, h9) := fun h9 g9 => by
          by_cases d0 : y_P h pc 4 = 0
          · simp only [f_X11_numberOf, d0, if_true]
          · have k3 : y_K h9 (y_P h pc 4) = 3 := (g9.K fun q => q).trans (hd1 c0 d0)
            have i0 : y_I h9 (y_P h pc 4) 0 = y_I h (y_P h pc 4) 0 := g9.I (hd2 c0 d0)
            simp only [f_X11_numberOf, d0, if_false, k3, if_true, i0]
        have nu2 := nu (s_I (s_P h1 p 7 pc) p 8 (y_I h pc 3)) (ag.sI (ag.sP g1 rfl) rfl)
        simp (disch := omega) only [if_neg c0, hK1, kc, i3, i5, p4, e_bd, if_true, e_KI, e_NI, e_BI, e_LI, e_PI, e_KB, e_NB, e_IB, e_LB, e_PB, e_KL, e_NL, e_IL, e_BL, e_PL, e_KP, e_NP, e_IP, e_BP, e_LP, e_IIs, e_BBs, e_LLs, e_PPs, e_IIn, e_BBn, e_LLn, e_PPn, e_IIk, e_BBk, e_LLk, e_PPk, nu2, e_cl]
        refine hj _ (ag.sI (ag.sI (ag.sI (ag.sP g1 rfl) rfl) rfl) rfl) ?_ ?_ ?_ (fun q => ?_) (fun q => ⟨?_, ?_, ?_⟩)
        · simp (disch := omega) only [e_KI, e_NI, e_BI, e_LI, e_PI, e_KB, e_NB, e_IB, e_LB, e_PB, e_KL, e_NL, e_IL, e_BL, e_PL, e_KP, e_NP, e_IP, e_BP, e_LP, e_IIs, e_BBs, e_LLs, e_PPs, e_IIn, e_BBn, e_LLn, e_PPn, e_IIk, e_BBk, e_LLk, e_PPk]
          exact u0
        · simp (disch := omega) only [e_KI, e_NI, e_BI, e_LI, e_PI, e_KB, e_NB, e_IB, e_LB, e_PB, e_KL, e_NL, e_IL, e_BL, e_PL, e_KP, e_NP, e_IP, e_BP, e_LP, e_IIs, e_BBs, e_LLs, e_PPs, e_IIn, e_BBn, e_LLn, e_PPn, e_IIk, e_BBk, e_LLk, e_PPk]
          exact u1
        · simp (disch := omega) only [e_KI, e_NI, e_BI, e_LI, e_PI, e_KB, e_NB, e_IB, e_LB, e_PB, e_KL, e_NL, e_IL, e_BL, e_PL, e_KP, e_NP, e_IP, e_BP, e_LP, e_IIs, e_BBs, e_LLs, e_PPs, e_IIn, e_BBn, e_LLn, e_PPn, e_IIk, e_BBk, e_LLk, e_PPk]
        · simp (disch := omega) only [e_KI, e_NI, e_BI, e_LI, e_PI, e_KB, e_NB, e_IB, e_LB, e_PB, e_KL, e_NL, e_IL, e_BL, e_PL, e_KP, e_NP, e_IP, e_BP, e_LP, e_IIs, e_BBs, e_LLs, e_PPs, e_IIn, e_BBn, e_LLn, e_PPn, e_IIk, e_BBk, e_LLk, e_PPk]
          exact ub q
        · simp (disch := omega) only [e_KI, e_NI, e_BI, e_LI, e_PI, e_KB, e_NB, e_IB, e_LB, e_PB, e_KL, e_NL, e_IL, e_BL, e_PL, e_KP, e_NP, e_IP, e_BP, e_LP, e_IIs, e_BBs, e_LLs, e_PPs, e_IIn, e_BBn, e_LLn, e_PPn, e_IIk, e_BBk, e_LLk, e_PPk]
        · simp (disch := omega) only [e_KI, e_NI, e_BI, e_LI, e_PI, e_KB, e_NB, e_IB, e_LB, e_PB, e_KL, e_NL, e_IL, e_BL, e_PL, e_KP, e_NP, e_IP, e_BP, e_LP, e_IIs, e_BBs, e_LLs, e_PPs, e_IIn, e_BBn, e_LLn, e_PPn, e_IIk, e_BBk, e_LLk, e_PPk]
        · simp (disch := omega) only [e_KI, e_NI, e_BI, e_LI, e_PI, e_KB, e_NB, e_IB, e_LB, e_PB, e_KL, e_NL, e_IL, e_BL, e_PL, e_KP, e_NP, e_IP, e_BP, e_LP, e_IIs, e_BBs, e_LLs, e_PPs, e_IIn, e_BBn, e_LLn, e_PPn, e_IIk, e_BBk, e_LLk, e_PPk]
  · by_cases b0 : pb = 0
    · rw [if_pos b0]
      refine hj _ (ag.sP (ag.sI (ag.refl _ _ _) rfl) rfl) ?_ e_PPs (fun q => absurd b0 q)
      simp (disch := omega) only [e_KI, e_NI, e_BI, e_LI, e_PI, e_KB, e_NB, e_IB, e_LB, e_PB, e_KL, e_NL, e_IL, e_BL, e_PL, e_KP, e_NP, e_IP, e_BP, e_LP, e_IIs, e_BBs, e_LLs, e_PPs, e_IIn, e_BBn, e_LLn, e_PPn, e_IIk, e_BBk, e_LLk, e_PPk]
    · have b2 := hb2 b0
      have kb := hb b0
      simp (disch := omega) only [if_neg b0, hK, kb, e_bd, if_true, e_KI, e_NI, e_BI, e_LI, e_PI, e_KB, e_NB, e_IB, e_LB, e_PB, e_KL, e_NL, e_IL, e_BL, e_PL, e_KP, e_NP, e_IP, e_BP, e_LP, e_IIs, e_BBs, e_LLs, e_PPs, e_IIn, e_BBn, e_LLn, e_PPn, e_IIk, e_BBk, e_LLk, e_PPk]
      refine hj _ (ag.sB (ag.sI (ag.sI (ag.sI (ag.sI (ag.sP (ag.sI (ag.refl _ _ _) rfl) rfl) rfl) rfl) rfl) rfl) rfl) ?_ ?_ (fun q => ⟨?_, ?_, ?_, ?_, ?_⟩)
      all_goals simp (disch := omega) only [e_KI, e_NI, e_BI, e_LI, e_PI, e_KB, e_NB, e_IB, e_LB, e_PB, e_KL, e_NL, e_IL, e_BL, e_PL, e_KP, e_NP, e_IP, e_BP, e_LP, e_IIs, e_BBs, e_LLs, e_PPs, e_IIn, e_BBn, e_LLn, e_PPn, e_IIk, e_BBk, e_LLk, e_PPk]
/-- the class's note: act j of the ring becomes the new one -/
theorem c_note {pb pc ps o c0 s0 : Nat} (w : Sh h) (rJ : RJ h A) (ho9 : o < 60) (ho : y_I h 13 2 = nI o) (hb : pb ≠ 0 → y_K h pb = 3) (hc : pc ≠ 0 → y_K h pc = 4 ∧ (y_P h pc 4 ≠ 0 → y_K h (y_P h pc 4) = 3)) (hs : ps ≠ 0 → y_K h ps = 8) : ∃ hN c1 s1, f_X5_note 13 pb pc ps c0 s0 h = some (((), c1, s1), hN) ∧ c1 ≤ c0 + 1 ∧ s1 ≤ s0 + 14
    ∧ ag (fun a k => a = 13 ∧ (k = 2 ∨ k = 3 ∨ k = 4) ∨ a = 37 ∧ k = (o + A) % 60 ∨ a = 64 * ((o + A) % 60) + 24) (fun a => a = 64 * ((o + A) % 60) + 24) h hN
    ∧ y_P hN 37 ((o + A) % 60) = 64 * ((o + A) % 60) + 24 ∧ y_K hN (64 * ((o + A) % 60) + 24) = 1 ∧ y_I hN 13 4 = y_I h 13 4 + 1 ∧ y_I hN 13 2 = nI (if A = 60 then (o + 1) % 60 else o) ∧ y_I hN 13 3 = nI (if A = 60 then 60 else A + 1)
    ∧ y_I hN (64 * ((o + A) % 60) + 24) 0 = y_I h 13 4 + 1 ∧ y_P hN (64 * ((o + A) % 60) + 24) 1 = pb ∧ y_P hN (64 * ((o + A) % 60) + 24) 7 = pc ∧ y_P hN (64 * ((o + A) % 60) + 24) 11 = ps
    ∧ (pb ≠ 0 → y_I hN (64 * ((o + A) % 60) + 24) 2 = y_I h pb 6 ∧ y_I hN (64 * ((o + A) % 60) + 24) 3 = y_I h pb 7 ∧ y_I hN (64 * ((o + A) % 60) + 24) 4 = y_I h pb 8 ∧ y_I hN (64 * ((o + A) % 60) + 24) 5 = y_I h pb 9 ∧ y_B hN (64 * ((o + A) % 60) + 24) 6 = y_B h pb 10)
    ∧ (pc ≠ 0 → y_I hN (64 * ((o + A) % 60) + 24) 8 = y_I h pc 3 ∧ y_I hN (64 * ((o + A) % 60) + 24) 9 = (if y_P h pc 4 = 0 then -1 else y_I h (y_P h pc 4) 0) ∧ y_I hN (64 * ((o + A) % 60) + 24) 10 = y_I h pc 5)
    ∧ (ps ≠ 0 → y_I hN (64 * ((o + A) % 60) + 24) 12 = y_I h ps 12 ∧ y_I hN (64 * ((o + A) % 60) + 24) 13 = y_I h ps 13) := by
  obtain ⟨r1, r2, r3, o1, r4, r5, r6, r7⟩ := rJ
  have hj : (o + A) % 60 < 60 := by omega
  have er : y_rem (nI o + nI A) 60 = nI ((o + A) % 60) := by rw [i_add, i_r60 (by omega)]
  have e1 : y_rem (nI o + 1) 60 = nI ((o + 1) % 60) := by rw [nI_1, i_r60 (by omega)]
  generalize (o + A) % 60 = j at hj er
  have hx := i_ix hj (by decide)
  have hcl := i_cl (show j < 2 ^ 31 by omega)
  have kb : ∀ q, y_K h q = 3 → q ≠ 64 * j + 24 ∨ y_P h 37 j = 64 * j + 24 := fun q z => by
    rcases r7 j hj with ⟨z1, z2⟩ | ⟨z1, z2⟩
    · exact Or.inl fun e => by rw [e, z2] at z; exact absurd z (by decide)
    · exact Or.inr z1
  -- the slot's cell
  have key : ∃ hm c1 s1, c1 ≤ c0 + 1 ∧ s1 ≤ s0 + 14 ∧ ag (fun a k => a = 37 ∧ k = j ∨ a = 64 * j + 24) (fun a => a = 64 * j + 24) h hm ∧ y_P hm 37 j = 64 * j + 24 ∧ y_K hm (64 * j + 24) = 1 ∧ ((∃ z : y_P h 37 j = 0, hm = s_P (s_new h (64 * j + 24) 1 14) 37 j (64 * j + 24) ∧ c1 = c0 + 1 ∧ s1 = s0 + 14 ∧ y_K h (64 * j + 24) = 0) ∨ (y_P h 37 j = 64 * j + 24 ∧ y_K h (64 * j + 24) = 1 ∧ hm = h ∧ c1 = c0 ∧ s1 = s0)) := by
    rcases r7 j hj with ⟨z1, z2⟩ | ⟨z1, z2⟩
    · refine ⟨_, c0 + 1, s0 + 14, Nat.le_refl _, Nat.le_refl _, ?_, ?_, ?_, Or.inl ⟨z1, rfl, rfl, rfl, z2⟩⟩
      · refine ag.sP (ag.new (ag.refl _ _ _) (fun k => ?_) ?_) ?_
        · exact Or.inr rfl
        · exact rfl
        · exact Or.inl ⟨rfl, rfl⟩
      · simp only [e_PPs]
      · simp only [e_KP, e_Ks]
    · exact ⟨h, c0, s0, by omega, by omega, ag.refl _ _ _, z1, z2, Or.inr ⟨z1, z2, rfl, rfl, rfl⟩⟩
  obtain ⟨hm, c1, s1, k1, k2, k3, k4, k5, k6⟩ := key
  have wm : Sh hm := (Sh_ag k3 (by intro a k q; (simp only [FSh] at q ⊢) <;> omega) (by intro a q; (simp only [GSh, not_false_eq_true] at q ⊢) <;> omega) w)
  have m2 : y_I hm 13 2 = nI o := (k3.I (by first | omega | (dsimp only; omega))).trans ho
  have m3 : y_I hm 13 3 = nI A := (k3.I (by first | omega | (dsimp only; omega))).trans r2
  have m4 : y_I hm 13 4 = y_I h 13 4 := k3.I (by first | omega | (dsimp only; omega))
  have w13 : y_K h 13 = 6 := by simp only [w.1]
  have w37 : y_K h 37 = 107 := by simp only [w.1]
  have kne : ∀ q, y_K h q = 3 ∨ y_K h q = 4 ∨ y_K h q = 8 → q ≠ 64 * j + 24 ∧ q ≠ 37 ∧ q ≠ 13 := fun q z => by
    refine ⟨fun e => ?_, fun e => ?_, fun e => ?_⟩
    · rw [e] at z
      rcases k6 with ⟨-, -, -, -, z2⟩ | ⟨-, z2, -⟩
      · rw [z2] at z
        omega
      · rw [z2] at z
        omega
    · rw [e, w37] at z
      omega
    · rw [e, w13] at z
      omega
  have g2 : ag (fun a k => a = 13 ∧ k = 4 ∨ a = 37 ∧ k = j ∨ a = 64 * j + 24) (fun a => a = 64 * j + 24) h (s_I hm 13 4 (y_I h 13 4 + 1)) := ag.sI (k3.mono (fun a k q => by first | omega | (dsimp only at q ⊢; omega)) (fun a q => q)) (by first | omega | (dsimp only; omega))
  have gI : ∀ q k, q ≠ 64 * j + 24 ∧ q ≠ 37 ∧ q ≠ 13 → y_I (s_I hm 13 4 (y_I h 13 4 + 1)) q k = y_I h q k := fun q k z => g2.I (by first | omega | (dsimp only; omega))
  have gB : ∀ q k, q ≠ 64 * j + 24 ∧ q ≠ 37 ∧ q ≠ 13 → y_B (s_I hm 13 4 (y_I h 13 4 + 1)) q k = y_B h q k := fun q k z => g2.B (by first | omega | (dsimp only; omega))
  have gP : ∀ q k, q ≠ 64 * j + 24 ∧ q ≠ 37 ∧ q ≠ 13 → y_P (s_I hm 13 4 (y_I h 13 4 + 1)) q k = y_P h q k := fun q k z => g2.P (by first | omega | (dsimp only; omega))
  have gK : ∀ q, q ≠ 64 * j + 24 ∧ q ≠ 37 ∧ q ≠ 13 → y_K (s_I hm 13 4 (y_I h 13 4 + 1)) q = y_K h q := fun q z => g2.K (by first | omega | (dsimp only; omega))
  obtain ⟨u, h5, q0, g5, a0, a1, a7, a11, ab, ac, as⟩ := c_abegin (h := s_I hm 13 4 (y_I h 13 4 + 1)) (p := 64 * j + 24) (pb := pb) (pc := pc) (ps := ps) (y_I h 13 4 + 1) (by rw [e_KI]; exact k5) (fun z => by rw [gK _ (kne _ (Or.inl (hb z)))]; exact hb z) (fun z => by
    have z1 := kne _ (Or.inr (Or.inl (hc z).1))
    rw [gK _ z1, gP _ _ z1]
    refine ⟨(hc z).1, fun z2 => ?_⟩
    have z3 := (hc z).2 z2
    rw [gK _ (kne _ (Or.inl z3))]
    exact z3) (fun z => by rw [gK _ (kne _ (Or.inr (Or.inr (hs z))))]; exact hs z)
  cases u
  have w5 : Sh h5 := (Sh_ag g5 (by intro a k q; (simp only [FSh] at q ⊢) <;> omega) (by intro a q; (simp only [GSh, not_false_eq_true] at q ⊢) <;> omega) (Sh_sI wm))
  have n2 : y_I h5 13 2 = nI o := (g5.I (by first | omega | (dsimp only; omega))).trans ((e_IIk (by omega)).trans m2)
  have n3 : y_I h5 13 3 = nI A := (g5.I (by first | omega | (dsimp only; omega))).trans ((e_IIk (by omega)).trans m3)
  have n4 : y_I h5 13 4 = y_I h 13 4 + 1 := (g5.I (by first | omega | (dsimp only; omega))).trans e_IIs
  have hN : ∃ hN, f_X5_note 13 pb pc ps c0 s0 h = some (((), c1, s1), hN) ∧ ag (fun a k => a = 13 ∧ (k = 2 ∨ k = 3)) (fun _ => False) h5 hN ∧ y_I hN 13 2 = nI (if A = 60 then (o + 1) % 60 else o) ∧ y_I hN 13 3 = nI (if A = 60 then 60 else A + 1) := by
    have h10 : (10 ≤ 64 * j + 24) = True := eq_true (by omega)
    by_cases hA : A = 60
    · have q60 : (60 : Int32) ≤ nI A := (nI_leI (a := 60) (b := A) (by decide) (by omega)).mpr (by omega)
      rw [if_pos hA, if_pos hA]
      rcases k6 with ⟨z1, z2, rfl, rfl, z3⟩ | ⟨z1, z2, rfl, rfl, rfl⟩
      · have hme : s_P (s_new h (64 * j + 24) 1 14) 37 j (64 * j + 24) = hm := z2.symm
        refine ⟨s_I h5 13 2 (nI ((o + 1) % 60)), by unfold f_X5_note; (repeat (first | with_reducible apply ev_jn | ((with_reducible apply ev_bd); · first | (simp (disch := omega) only [w.1, wm.1, w5.1, ho, r2, er, hx, hcl, z1, z3, h10, f_X0_init, hme, m2, m3, m4, k4, k5, q0, n2, n3, q60, e1, e_KI, e_NI, e_BI, e_LI, e_PI, e_KB, e_NB, e_IB, e_LB, e_PB, e_KL, e_NL, e_IL, e_BL, e_PL, e_KP, e_NP, e_IP, e_BP, e_LP, e_IIs, e_BBs, e_LLs, e_PPs, e_IIn, e_BBn, e_LLn, e_PPn, e_IIk, e_BBk, e_LLk, e_PPk, e_Ks, e_Ns, e_Is, e_Bs, e_Ls, e_Ps, e_Kn, e_Nn, e_In, e_Bn, e_Ln, e_Pn, if_true, if_false, and_self, or_true, true_or, not_false_eq_true, Bool.false_eq_true]; exact rfl) | exact rfl) | ((with_reducible apply ev_cl); · first | (simp (disch := omega) only [w.1, wm.1, w5.1, ho, r2, er, hx, hcl, z1, z3, h10, f_X0_init, hme, m2, m3, m4, k4, k5, q0, n2, n3, q60, e1, e_KI, e_NI, e_BI, e_LI, e_PI, e_KB, e_NB, e_IB, e_LB, e_PB, e_KL, e_NL, e_IL, e_BL, e_PL, e_KP, e_NP, e_IP, e_BP, e_LP, e_IIs, e_BBs, e_LLs, e_PPs, e_IIn, e_BBn, e_LLn, e_PPn, e_IIk, e_BBk, e_LLk, e_PPk, e_Ks, e_Ns, e_Is, e_Bs, e_Ls, e_Ps, e_Kn, e_Nn, e_In, e_Bn, e_Ln, e_Pn, if_true, if_false, and_self, or_true, true_or, not_false_eq_true, Bool.false_eq_true]; exact rfl) | exact rfl) | ((with_reducible apply ev_g); · first | (simp (disch := omega) only [w.1, wm.1, w5.1, ho, r2, er, hx, hcl, z1, z3, h10, f_X0_init, hme, m2, m3, m4, k4, k5, q0, n2, n3, q60, e1, e_KI, e_NI, e_BI, e_LI, e_PI, e_KB, e_NB, e_IB, e_LB, e_PB, e_KL, e_NL, e_IL, e_BL, e_PL, e_KP, e_NP, e_IP, e_BP, e_LP, e_IIs, e_BBs, e_LLs, e_PPs, e_IIn, e_BBn, e_LLn, e_PPn, e_IIk, e_BBk, e_LLk, e_PPk, e_Ks, e_Ns, e_Is, e_Bs, e_Ls, e_Ps, e_Kn, e_Nn, e_In, e_Bn, e_Ln, e_Pn, if_true, if_false, and_self, or_true, true_or, not_false_eq_true, Bool.false_eq_true]; done) | (simp (disch := omega) only [w.1, wm.1, w5.1, ho, r2, er, hx, hcl, z1, z3, h10, f_X0_init, hme, m2, m3, m4, k4, k5, q0, n2, n3, q60, e1, e_KI, e_NI, e_BI, e_LI, e_PI, e_KB, e_NB, e_IB, e_LB, e_PB, e_KL, e_NL, e_IL, e_BL, e_PL, e_KP, e_NP, e_IP, e_BP, e_LP, e_IIs, e_BBs, e_LLs, e_PPs, e_IIn, e_BBn, e_LLn, e_PPn, e_IIk, e_BBk, e_LLk, e_PPk, e_Ks, e_Ns, e_Is, e_Bs, e_Ls, e_Ps, e_Kn, e_Nn, e_In, e_Bn, e_Ln, e_Pn, if_true, if_false, and_self, or_true, true_or, not_false_eq_true, Bool.false_eq_true]; decide) | decide) | ((with_reducible apply ev_t); · first | (simp (disch := omega) only [w.1, wm.1, w5.1, ho, r2, er, hx, hcl, z1, z3, h10, f_X0_init, hme, m2, m3, m4, k4, k5, q0, n2, n3, q60, e1, e_KI, e_NI, e_BI, e_LI, e_PI, e_KB, e_NB, e_IB, e_LB, e_PB, e_KL, e_NL, e_IL, e_BL, e_PL, e_KP, e_NP, e_IP, e_BP, e_LP, e_IIs, e_BBs, e_LLs, e_PPs, e_IIn, e_BBn, e_LLn, e_PPn, e_IIk, e_BBk, e_LLk, e_PPk, e_Ks, e_Ns, e_Is, e_Bs, e_Ls, e_Ps, e_Kn, e_Nn, e_In, e_Bn, e_Ln, e_Pn, if_true, if_false, and_self, or_true, true_or, not_false_eq_true, Bool.false_eq_true]; done) | (simp (disch := omega) only [w.1, wm.1, w5.1, ho, r2, er, hx, hcl, z1, z3, h10, f_X0_init, hme, m2, m3, m4, k4, k5, q0, n2, n3, q60, e1, e_KI, e_NI, e_BI, e_LI, e_PI, e_KB, e_NB, e_IB, e_LB, e_PB, e_KL, e_NL, e_IL, e_BL, e_PL, e_KP, e_NP, e_IP, e_BP, e_LP, e_IIs, e_BBs, e_LLs, e_PPs, e_IIn, e_BBn, e_LLn, e_PPn, e_IIk, e_BBk, e_LLk, e_PPk, e_Ks, e_Ns, e_Is, e_Bs, e_Ls, e_Ps, e_Kn, e_Nn, e_In, e_Bn, e_Ln, e_Pn, if_true, if_false, and_self, or_true, true_or, not_false_eq_true, Bool.false_eq_true]; decide) | decide) | ((with_reducible apply ev_f); · first | (simp (disch := omega) only [w.1, wm.1, w5.1, ho, r2, er, hx, hcl, z1, z3, h10, f_X0_init, hme, m2, m3, m4, k4, k5, q0, n2, n3, q60, e1, e_KI, e_NI, e_BI, e_LI, e_PI, e_KB, e_NB, e_IB, e_LB, e_PB, e_KL, e_NL, e_IL, e_BL, e_PL, e_KP, e_NP, e_IP, e_BP, e_LP, e_IIs, e_BBs, e_LLs, e_PPs, e_IIn, e_BBn, e_LLn, e_PPn, e_IIk, e_BBk, e_LLk, e_PPk, e_Ks, e_Ns, e_Is, e_Bs, e_Ls, e_Ps, e_Kn, e_Nn, e_In, e_Bn, e_Ln, e_Pn, if_true, if_false, and_self, or_true, true_or, not_false_eq_true, Bool.false_eq_true]; done) | (simp (disch := omega) only [w.1, wm.1, w5.1, ho, r2, er, hx, hcl, z1, z3, h10, f_X0_init, hme, m2, m3, m4, k4, k5, q0, n2, n3, q60, e1, e_KI, e_NI, e_BI, e_LI, e_PI, e_KB, e_NB, e_IB, e_LB, e_PB, e_KL, e_NL, e_IL, e_BL, e_PL, e_KP, e_NP, e_IP, e_BP, e_LP, e_IIs, e_BBs, e_LLs, e_PPs, e_IIn, e_BBn, e_LLn, e_PPn, e_IIk, e_BBk, e_LLk, e_PPk, e_Ks, e_Ns, e_Is, e_Bs, e_Ls, e_Ps, e_Kn, e_Nn, e_In, e_Bn, e_Ln, e_Pn, if_true, if_false, and_self, or_true, true_or, not_false_eq_true, Bool.false_eq_true]; decide) | decide) | ((with_reducible apply ev_s) <;> (first | (with_reducible rfl) | (simp (disch := omega) only [w.1, wm.1, w5.1, ho, r2, er, hx, hcl, z1, z3, h10, f_X0_init, hme, m2, m3, m4, k4, k5, q0, n2, n3, q60, e1, e_KI, e_NI, e_BI, e_LI, e_PI, e_KB, e_NB, e_IB, e_LB, e_PB, e_KL, e_NL, e_IL, e_BL, e_PL, e_KP, e_NP, e_IP, e_BP, e_LP, e_IIs, e_BBs, e_LLs, e_PPs, e_IIn, e_BBn, e_LLn, e_PPn, e_IIk, e_BBk, e_LLk, e_PPk, e_Ks, e_Ns, e_Is, e_Bs, e_Ls, e_Ps, e_Kn, e_Nn, e_In, e_Bn, e_Ln, e_Pn, if_true, if_false, and_self, or_true, true_or, not_false_eq_true, Bool.false_eq_true]; done) | (simp (disch := omega) only [w.1, wm.1, w5.1, ho, r2, er, hx, hcl, z1, z3, h10, f_X0_init, hme, m2, m3, m4, k4, k5, q0, n2, n3, q60, e1, e_KI, e_NI, e_BI, e_LI, e_PI, e_KB, e_NB, e_IB, e_LB, e_PB, e_KL, e_NL, e_IL, e_BL, e_PL, e_KP, e_NP, e_IP, e_BP, e_LP, e_IIs, e_BBs, e_LLs, e_PPs, e_IIn, e_BBn, e_LLn, e_PPn, e_IIk, e_BBk, e_LLk, e_PPk, e_Ks, e_Ns, e_Is, e_Bs, e_Ls, e_Ps, e_Kn, e_Nn, e_In, e_Bn, e_Ln, e_Pn, if_true, if_false, and_self, or_true, true_or, not_false_eq_true, Bool.false_eq_true]; rfl))))), by ((repeat' (first | exact ag.refl _ _ _ | apply ag.sI | apply ag.sB | apply ag.sP | apply ag.sL | (apply ag.cm) | (apply ag.mm))) <;> (first | omega | (dsimp only; omega) | (intro k; dsimp only; omega))), e_IIs, ?_⟩
        simp (disch := omega) only [e_KI, e_NI, e_BI, e_LI, e_PI, e_KB, e_NB, e_IB, e_LB, e_PB, e_KL, e_NL, e_IL, e_BL, e_PL, e_KP, e_NP, e_IP, e_BP, e_LP, e_IIs, e_BBs, e_LLs, e_PPs, e_IIn, e_BBn, e_LLn, e_PPn, e_IIk, e_BBk, e_LLk, e_PPk, n3, hA]
      · refine ⟨s_I h5 13 2 (nI ((o + 1) % 60)), by unfold f_X5_note; (repeat (first | with_reducible apply ev_jn | ((with_reducible apply ev_bd); · first | (simp (disch := omega) only [w.1, w5.1, ho, r2, er, hx, hcl, z1, z2, h10, q0, n2, n3, q60, e1, show ¬ 64 * j + 24 = 0 by omega, e_KI, e_NI, e_BI, e_LI, e_PI, e_KB, e_NB, e_IB, e_LB, e_PB, e_KL, e_NL, e_IL, e_BL, e_PL, e_KP, e_NP, e_IP, e_BP, e_LP, e_IIs, e_BBs, e_LLs, e_PPs, e_IIn, e_BBn, e_LLn, e_PPn, e_IIk, e_BBk, e_LLk, e_PPk, e_Ks, e_Ns, e_Is, e_Bs, e_Ls, e_Ps, e_Kn, e_Nn, e_In, e_Bn, e_Ln, e_Pn, if_true, if_false, and_self, or_true, true_or, not_false_eq_true, Bool.false_eq_true]; exact rfl) | exact rfl) | ((with_reducible apply ev_cl); · first | (simp (disch := omega) only [w.1, w5.1, ho, r2, er, hx, hcl, z1, z2, h10, q0, n2, n3, q60, e1, show ¬ 64 * j + 24 = 0 by omega, e_KI, e_NI, e_BI, e_LI, e_PI, e_KB, e_NB, e_IB, e_LB, e_PB, e_KL, e_NL, e_IL, e_BL, e_PL, e_KP, e_NP, e_IP, e_BP, e_LP, e_IIs, e_BBs, e_LLs, e_PPs, e_IIn, e_BBn, e_LLn, e_PPn, e_IIk, e_BBk, e_LLk, e_PPk, e_Ks, e_Ns, e_Is, e_Bs, e_Ls, e_Ps, e_Kn, e_Nn, e_In, e_Bn, e_Ln, e_Pn, if_true, if_false, and_self, or_true, true_or, not_false_eq_true, Bool.false_eq_true]; exact rfl) | exact rfl) | ((with_reducible apply ev_g); · first | (simp (disch := omega) only [w.1, w5.1, ho, r2, er, hx, hcl, z1, z2, h10, q0, n2, n3, q60, e1, show ¬ 64 * j + 24 = 0 by omega, e_KI, e_NI, e_BI, e_LI, e_PI, e_KB, e_NB, e_IB, e_LB, e_PB, e_KL, e_NL, e_IL, e_BL, e_PL, e_KP, e_NP, e_IP, e_BP, e_LP, e_IIs, e_BBs, e_LLs, e_PPs, e_IIn, e_BBn, e_LLn, e_PPn, e_IIk, e_BBk, e_LLk, e_PPk, e_Ks, e_Ns, e_Is, e_Bs, e_Ls, e_Ps, e_Kn, e_Nn, e_In, e_Bn, e_Ln, e_Pn, if_true, if_false, and_self, or_true, true_or, not_false_eq_true, Bool.false_eq_true]; done) | (simp (disch := omega) only [w.1, w5.1, ho, r2, er, hx, hcl, z1, z2, h10, q0, n2, n3, q60, e1, show ¬ 64 * j + 24 = 0 by omega, e_KI, e_NI, e_BI, e_LI, e_PI, e_KB, e_NB, e_IB, e_LB, e_PB, e_KL, e_NL, e_IL, e_BL, e_PL, e_KP, e_NP, e_IP, e_BP, e_LP, e_IIs, e_BBs, e_LLs, e_PPs, e_IIn, e_BBn, e_LLn, e_PPn, e_IIk, e_BBk, e_LLk, e_PPk, e_Ks, e_Ns, e_Is, e_Bs, e_Ls, e_Ps, e_Kn, e_Nn, e_In, e_Bn, e_Ln, e_Pn, if_true, if_false, and_self, or_true, true_or, not_false_eq_true, Bool.false_eq_true]; decide) | decide) | ((with_reducible apply ev_t); · first | (simp (disch := omega) only [w.1, w5.1, ho, r2, er, hx, hcl, z1, z2, h10, q0, n2, n3, q60, e1, show ¬ 64 * j + 24 = 0 by omega, e_KI, e_NI, e_BI, e_LI, e_PI, e_KB, e_NB, e_IB, e_LB, e_PB, e_KL, e_NL, e_IL, e_BL, e_PL, e_KP, e_NP, e_IP, e_BP, e_LP, e_IIs, e_BBs, e_LLs, e_PPs, e_IIn, e_BBn, e_LLn, e_PPn, e_IIk, e_BBk, e_LLk, e_PPk, e_Ks, e_Ns, e_Is, e_Bs, e_Ls, e_Ps, e_Kn, e_Nn, e_In, e_Bn, e_Ln, e_Pn, if_true, if_false, and_self, or_true, true_or, not_false_eq_true, Bool.false_eq_true]; done) | (simp (disch := omega) only [w.1, w5.1, ho, r2, er, hx, hcl, z1, z2, h10, q0, n2, n3, q60, e1, show ¬ 64 * j + 24 = 0 by omega, e_KI, e_NI, e_BI, e_LI, e_PI, e_KB, e_NB, e_IB, e_LB, e_PB, e_KL, e_NL, e_IL, e_BL, e_PL, e_KP, e_NP, e_IP, e_BP, e_LP, e_IIs, e_BBs, e_LLs, e_PPs, e_IIn, e_BBn, e_LLn, e_PPn, e_IIk, e_BBk, e_LLk, e_PPk, e_Ks, e_Ns, e_Is, e_Bs, e_Ls, e_Ps, e_Kn, e_Nn, e_In, e_Bn, e_Ln, e_Pn, if_true, if_false, and_self, or_true, true_or, not_false_eq_true, Bool.false_eq_true]; decide) | decide) | ((with_reducible apply ev_f); · first | (simp (disch := omega) only [w.1, w5.1, ho, r2, er, hx, hcl, z1, z2, h10, q0, n2, n3, q60, e1, show ¬ 64 * j + 24 = 0 by omega, e_KI, e_NI, e_BI, e_LI, e_PI, e_KB, e_NB, e_IB, e_LB, e_PB, e_KL, e_NL, e_IL, e_BL, e_PL, e_KP, e_NP, e_IP, e_BP, e_LP, e_IIs, e_BBs, e_LLs, e_PPs, e_IIn, e_BBn, e_LLn, e_PPn, e_IIk, e_BBk, e_LLk, e_PPk, e_Ks, e_Ns, e_Is, e_Bs, e_Ls, e_Ps, e_Kn, e_Nn, e_In, e_Bn, e_Ln, e_Pn, if_true, if_false, and_self, or_true, true_or, not_false_eq_true, Bool.false_eq_true]; done) | (simp (disch := omega) only [w.1, w5.1, ho, r2, er, hx, hcl, z1, z2, h10, q0, n2, n3, q60, e1, show ¬ 64 * j + 24 = 0 by omega, e_KI, e_NI, e_BI, e_LI, e_PI, e_KB, e_NB, e_IB, e_LB, e_PB, e_KL, e_NL, e_IL, e_BL, e_PL, e_KP, e_NP, e_IP, e_BP, e_LP, e_IIs, e_BBs, e_LLs, e_PPs, e_IIn, e_BBn, e_LLn, e_PPn, e_IIk, e_BBk, e_LLk, e_PPk, e_Ks, e_Ns, e_Is, e_Bs, e_Ls, e_Ps, e_Kn, e_Nn, e_In, e_Bn, e_Ln, e_Pn, if_true, if_false, and_self, or_true, true_or, not_false_eq_true, Bool.false_eq_true]; decide) | decide) | ((with_reducible apply ev_s) <;> (first | (with_reducible rfl) | (simp (disch := omega) only [w.1, w5.1, ho, r2, er, hx, hcl, z1, z2, h10, q0, n2, n3, q60, e1, show ¬ 64 * j + 24 = 0 by omega, e_KI, e_NI, e_BI, e_LI, e_PI, e_KB, e_NB, e_IB, e_LB, e_PB, e_KL, e_NL, e_IL, e_BL, e_PL, e_KP, e_NP, e_IP, e_BP, e_LP, e_IIs, e_BBs, e_LLs, e_PPs, e_IIn, e_BBn, e_LLn, e_PPn, e_IIk, e_BBk, e_LLk, e_PPk, e_Ks, e_Ns, e_Is, e_Bs, e_Ls, e_Ps, e_Kn, e_Nn, e_In, e_Bn, e_Ln, e_Pn, if_true, if_false, and_self, or_true, true_or, not_false_eq_true, Bool.false_eq_true]; done) | (simp (disch := omega) only [w.1, w5.1, ho, r2, er, hx, hcl, z1, z2, h10, q0, n2, n3, q60, e1, show ¬ 64 * j + 24 = 0 by omega, e_KI, e_NI, e_BI, e_LI, e_PI, e_KB, e_NB, e_IB, e_LB, e_PB, e_KL, e_NL, e_IL, e_BL, e_PL, e_KP, e_NP, e_IP, e_BP, e_LP, e_IIs, e_BBs, e_LLs, e_PPs, e_IIn, e_BBn, e_LLn, e_PPn, e_IIk, e_BBk, e_LLk, e_PPk, e_Ks, e_Ns, e_Is, e_Bs, e_Ls, e_Ps, e_Kn, e_Nn, e_In, e_Bn, e_Ln, e_Pn, if_true, if_false, and_self, or_true, true_or, not_false_eq_true, Bool.false_eq_true]; rfl))))), by ((repeat' (first | exact ag.refl _ _ _ | apply ag.sI | apply ag.sB | apply ag.sP | apply ag.sL | (apply ag.cm) | (apply ag.mm))) <;> (first | omega | (dsimp only; omega) | (intro k; dsimp only; omega))), e_IIs, ?_⟩
        simp (disch := omega) only [e_KI, e_NI, e_BI, e_LI, e_PI, e_KB, e_NB, e_IB, e_LB, e_PB, e_KL, e_NL, e_IL, e_BL, e_PL, e_KP, e_NP, e_IP, e_BP, e_LP, e_IIs, e_BBs, e_LLs, e_PPs, e_IIn, e_BBn, e_LLn, e_PPn, e_IIk, e_BBk, e_LLk, e_PPk, n3, hA]
    · have q60 : ¬ (60 : Int32) ≤ nI A := fun z => hA (by have := (nI_leI (a := 60) (b := A) (by decide) (by omega)).mp z; omega)
      rw [if_neg hA, if_neg hA]
      rcases k6 with ⟨z1, z2, rfl, rfl, z3⟩ | ⟨z1, z2, rfl, rfl, rfl⟩
      · have hme : s_P (s_new h (64 * j + 24) 1 14) 37 j (64 * j + 24) = hm := z2.symm
        refine ⟨s_I h5 13 3 (nI (A + 1)), by unfold f_X5_note; (repeat (first | with_reducible apply ev_jn | ((with_reducible apply ev_bd); · first | (simp (disch := omega) only [w.1, wm.1, w5.1, ho, r2, er, hx, hcl, z1, z3, h10, f_X0_init, hme, m2, m3, m4, k4, k5, q0, n2, n3, q60, nI_1, e_KI, e_NI, e_BI, e_LI, e_PI, e_KB, e_NB, e_IB, e_LB, e_PB, e_KL, e_NL, e_IL, e_BL, e_PL, e_KP, e_NP, e_IP, e_BP, e_LP, e_IIs, e_BBs, e_LLs, e_PPs, e_IIn, e_BBn, e_LLn, e_PPn, e_IIk, e_BBk, e_LLk, e_PPk, e_Ks, e_Ns, e_Is, e_Bs, e_Ls, e_Ps, e_Kn, e_Nn, e_In, e_Bn, e_Ln, e_Pn, if_true, if_false, and_self, or_true, true_or, not_false_eq_true, Bool.false_eq_true]; exact rfl) | exact rfl) | ((with_reducible apply ev_cl); · first | (simp (disch := omega) only [w.1, wm.1, w5.1, ho, r2, er, hx, hcl, z1, z3, h10, f_X0_init, hme, m2, m3, m4, k4, k5, q0, n2, n3, q60, nI_1, e_KI, e_NI, e_BI, e_LI, e_PI, e_KB, e_NB, e_IB, e_LB, e_PB, e_KL, e_NL, e_IL, e_BL, e_PL, e_KP, e_NP, e_IP, e_BP, e_LP, e_IIs, e_BBs, e_LLs, e_PPs, e_IIn, e_BBn, e_LLn, e_PPn, e_IIk, e_BBk, e_LLk, e_PPk, e_Ks, e_Ns, e_Is, e_Bs, e_Ls, e_Ps, e_Kn, e_Nn, e_In, e_Bn, e_Ln, e_Pn, if_true, if_false, and_self, or_true, true_or, not_false_eq_true, Bool.false_eq_true]; exact rfl) | exact rfl) | ((with_reducible apply ev_g); · first | (simp (disch := omega) only [w.1, wm.1, w5.1, ho, r2, er, hx, hcl, z1, z3, h10, f_X0_init, hme, m2, m3, m4, k4, k5, q0, n2, n3, q60, nI_1, e_KI, e_NI, e_BI, e_LI, e_PI, e_KB, e_NB, e_IB, e_LB, e_PB, e_KL, e_NL, e_IL, e_BL, e_PL, e_KP, e_NP, e_IP, e_BP, e_LP, e_IIs, e_BBs, e_LLs, e_PPs, e_IIn, e_BBn, e_LLn, e_PPn, e_IIk, e_BBk, e_LLk, e_PPk, e_Ks, e_Ns, e_Is, e_Bs, e_Ls, e_Ps, e_Kn, e_Nn, e_In, e_Bn, e_Ln, e_Pn, if_true, if_false, and_self, or_true, true_or, not_false_eq_true, Bool.false_eq_true]; done) | (simp (disch := omega) only [w.1, wm.1, w5.1, ho, r2, er, hx, hcl, z1, z3, h10, f_X0_init, hme, m2, m3, m4, k4, k5, q0, n2, n3, q60, nI_1, e_KI, e_NI, e_BI, e_LI, e_PI, e_KB, e_NB, e_IB, e_LB, e_PB, e_KL, e_NL, e_IL, e_BL, e_PL, e_KP, e_NP, e_IP, e_BP, e_LP, e_IIs, e_BBs, e_LLs, e_PPs, e_IIn, e_BBn, e_LLn, e_PPn, e_IIk, e_BBk, e_LLk, e_PPk, e_Ks, e_Ns, e_Is, e_Bs, e_Ls, e_Ps, e_Kn, e_Nn, e_In, e_Bn, e_Ln, e_Pn, if_true, if_false, and_self, or_true, true_or, not_false_eq_true, Bool.false_eq_true]; decide) | decide) | ((with_reducible apply ev_t); · first | (simp (disch := omega) only [w.1, wm.1, w5.1, ho, r2, er, hx, hcl, z1, z3, h10, f_X0_init, hme, m2, m3, m4, k4, k5, q0, n2, n3, q60, nI_1, e_KI, e_NI, e_BI, e_LI, e_PI, e_KB, e_NB, e_IB, e_LB, e_PB, e_KL, e_NL, e_IL, e_BL, e_PL, e_KP, e_NP, e_IP, e_BP, e_LP, e_IIs, e_BBs, e_LLs, e_PPs, e_IIn, e_BBn, e_LLn, e_PPn, e_IIk, e_BBk, e_LLk, e_PPk, e_Ks, e_Ns, e_Is, e_Bs, e_Ls, e_Ps, e_Kn, e_Nn, e_In, e_Bn, e_Ln, e_Pn, if_true, if_false, and_self, or_true, true_or, not_false_eq_true, Bool.false_eq_true]; done) | (simp (disch := omega) only [w.1, wm.1, w5.1, ho, r2, er, hx, hcl, z1, z3, h10, f_X0_init, hme, m2, m3, m4, k4, k5, q0, n2, n3, q60, nI_1, e_KI, e_NI, e_BI, e_LI, e_PI, e_KB, e_NB, e_IB, e_LB, e_PB, e_KL, e_NL, e_IL, e_BL, e_PL, e_KP, e_NP, e_IP, e_BP, e_LP, e_IIs, e_BBs, e_LLs, e_PPs, e_IIn, e_BBn, e_LLn, e_PPn, e_IIk, e_BBk, e_LLk, e_PPk, e_Ks, e_Ns, e_Is, e_Bs, e_Ls, e_Ps, e_Kn, e_Nn, e_In, e_Bn, e_Ln, e_Pn, if_true, if_false, and_self, or_true, true_or, not_false_eq_true, Bool.false_eq_true]; decide) | decide) | ((with_reducible apply ev_f); · first | (simp (disch := omega) only [w.1, wm.1, w5.1, ho, r2, er, hx, hcl, z1, z3, h10, f_X0_init, hme, m2, m3, m4, k4, k5, q0, n2, n3, q60, nI_1, e_KI, e_NI, e_BI, e_LI, e_PI, e_KB, e_NB, e_IB, e_LB, e_PB, e_KL, e_NL, e_IL, e_BL, e_PL, e_KP, e_NP, e_IP, e_BP, e_LP, e_IIs, e_BBs, e_LLs, e_PPs, e_IIn, e_BBn, e_LLn, e_PPn, e_IIk, e_BBk, e_LLk, e_PPk, e_Ks, e_Ns, e_Is, e_Bs, e_Ls, e_Ps, e_Kn, e_Nn, e_In, e_Bn, e_Ln, e_Pn, if_true, if_false, and_self, or_true, true_or, not_false_eq_true, Bool.false_eq_true]; done) | (simp (disch := omega) only [w.1, wm.1, w5.1, ho, r2, er, hx, hcl, z1, z3, h10, f_X0_init, hme, m2, m3, m4, k4, k5, q0, n2, n3, q60, nI_1, e_KI, e_NI, e_BI, e_LI, e_PI, e_KB, e_NB, e_IB, e_LB, e_PB, e_KL, e_NL, e_IL, e_BL, e_PL, e_KP, e_NP, e_IP, e_BP, e_LP, e_IIs, e_BBs, e_LLs, e_PPs, e_IIn, e_BBn, e_LLn, e_PPn, e_IIk, e_BBk, e_LLk, e_PPk, e_Ks, e_Ns, e_Is, e_Bs, e_Ls, e_Ps, e_Kn, e_Nn, e_In, e_Bn, e_Ln, e_Pn, if_true, if_false, and_self, or_true, true_or, not_false_eq_true, Bool.false_eq_true]; decide) | decide) | ((with_reducible apply ev_s) <;> (first | (with_reducible rfl) | (simp (disch := omega) only [w.1, wm.1, w5.1, ho, r2, er, hx, hcl, z1, z3, h10, f_X0_init, hme, m2, m3, m4, k4, k5, q0, n2, n3, q60, nI_1, e_KI, e_NI, e_BI, e_LI, e_PI, e_KB, e_NB, e_IB, e_LB, e_PB, e_KL, e_NL, e_IL, e_BL, e_PL, e_KP, e_NP, e_IP, e_BP, e_LP, e_IIs, e_BBs, e_LLs, e_PPs, e_IIn, e_BBn, e_LLn, e_PPn, e_IIk, e_BBk, e_LLk, e_PPk, e_Ks, e_Ns, e_Is, e_Bs, e_Ls, e_Ps, e_Kn, e_Nn, e_In, e_Bn, e_Ln, e_Pn, if_true, if_false, and_self, or_true, true_or, not_false_eq_true, Bool.false_eq_true]; done) | (simp (disch := omega) only [w.1, wm.1, w5.1, ho, r2, er, hx, hcl, z1, z3, h10, f_X0_init, hme, m2, m3, m4, k4, k5, q0, n2, n3, q60, nI_1, e_KI, e_NI, e_BI, e_LI, e_PI, e_KB, e_NB, e_IB, e_LB, e_PB, e_KL, e_NL, e_IL, e_BL, e_PL, e_KP, e_NP, e_IP, e_BP, e_LP, e_IIs, e_BBs, e_LLs, e_PPs, e_IIn, e_BBn, e_LLn, e_PPn, e_IIk, e_BBk, e_LLk, e_PPk, e_Ks, e_Ns, e_Is, e_Bs, e_Ls, e_Ps, e_Kn, e_Nn, e_In, e_Bn, e_Ln, e_Pn, if_true, if_false, and_self, or_true, true_or, not_false_eq_true, Bool.false_eq_true]; rfl))))), by ((repeat' (first | exact ag.refl _ _ _ | apply ag.sI | apply ag.sB | apply ag.sP | apply ag.sL | (apply ag.cm) | (apply ag.mm))) <;> (first | omega | (dsimp only; omega) | (intro k; dsimp only; omega))), ?_, e_IIs⟩
        simp (disch := omega) only [e_KI, e_NI, e_BI, e_LI, e_PI, e_KB, e_NB, e_IB, e_LB, e_PB, e_KL, e_NL, e_IL, e_BL, e_PL, e_KP, e_NP, e_IP, e_BP, e_LP, e_IIs, e_BBs, e_LLs, e_PPs, e_IIn, e_BBn, e_LLn, e_PPn, e_IIk, e_BBk, e_LLk, e_PPk, n2]
      · refine ⟨s_I h5 13 3 (nI (A + 1)), by unfold f_X5_note; (repeat (first | with_reducible apply ev_jn | ((with_reducible apply ev_bd); · first | (simp (disch := omega) only [w.1, w5.1, ho, r2, er, hx, hcl, z1, z2, h10, q0, n2, n3, q60, nI_1, show ¬ 64 * j + 24 = 0 by omega, e_KI, e_NI, e_BI, e_LI, e_PI, e_KB, e_NB, e_IB, e_LB, e_PB, e_KL, e_NL, e_IL, e_BL, e_PL, e_KP, e_NP, e_IP, e_BP, e_LP, e_IIs, e_BBs, e_LLs, e_PPs, e_IIn, e_BBn, e_LLn, e_PPn, e_IIk, e_BBk, e_LLk, e_PPk, e_Ks, e_Ns, e_Is, e_Bs, e_Ls, e_Ps, e_Kn, e_Nn, e_In, e_Bn, e_Ln, e_Pn, if_true, if_false, and_self, or_true, true_or, not_false_eq_true, Bool.false_eq_true]; exact rfl) | exact rfl) | ((with_reducible apply ev_cl); · first | (simp (disch := omega) only [w.1, w5.1, ho, r2, er, hx, hcl, z1, z2, h10, q0, n2, n3, q60, nI_1, show ¬ 64 * j + 24 = 0 by omega, e_KI, e_NI, e_BI, e_LI, e_PI, e_KB, e_NB, e_IB, e_LB, e_PB, e_KL, e_NL, e_IL, e_BL, e_PL, e_KP, e_NP, e_IP, e_BP, e_LP, e_IIs, e_BBs, e_LLs, e_PPs, e_IIn, e_BBn, e_LLn, e_PPn, e_IIk, e_BBk, e_LLk, e_PPk, e_Ks, e_Ns, e_Is, e_Bs, e_Ls, e_Ps, e_Kn, e_Nn, e_In, e_Bn, e_Ln, e_Pn, if_true, if_false, and_self, or_true, true_or, not_false_eq_true, Bool.false_eq_true]; exact rfl) | exact rfl) | ((with_reducible apply ev_g); · first | (simp (disch := omega) only [w.1, w5.1, ho, r2, er, hx, hcl, z1, z2, h10, q0, n2, n3, q60, nI_1, show ¬ 64 * j + 24 = 0 by omega, e_KI, e_NI, e_BI, e_LI, e_PI, e_KB, e_NB, e_IB, e_LB, e_PB, e_KL, e_NL, e_IL, e_BL, e_PL, e_KP, e_NP, e_IP, e_BP, e_LP, e_IIs, e_BBs, e_LLs, e_PPs, e_IIn, e_BBn, e_LLn, e_PPn, e_IIk, e_BBk, e_LLk, e_PPk, e_Ks, e_Ns, e_Is, e_Bs, e_Ls, e_Ps, e_Kn, e_Nn, e_In, e_Bn, e_Ln, e_Pn, if_true, if_false, and_self, or_true, true_or, not_false_eq_true, Bool.false_eq_true]; done) | (simp (disch := omega) only [w.1, w5.1, ho, r2, er, hx, hcl, z1, z2, h10, q0, n2, n3, q60, nI_1, show ¬ 64 * j + 24 = 0 by omega, e_KI, e_NI, e_BI, e_LI, e_PI, e_KB, e_NB, e_IB, e_LB, e_PB, e_KL, e_NL, e_IL, e_BL, e_PL, e_KP, e_NP, e_IP, e_BP, e_LP, e_IIs, e_BBs, e_LLs, e_PPs, e_IIn, e_BBn, e_LLn, e_PPn, e_IIk, e_BBk, e_LLk, e_PPk, e_Ks, e_Ns, e_Is, e_Bs, e_Ls, e_Ps, e_Kn, e_Nn, e_In, e_Bn, e_Ln, e_Pn, if_true, if_false, and_self, or_true, true_or, not_false_eq_true, Bool.false_eq_true]; decide) | decide) | ((with_reducible apply ev_t); · first | (simp (disch := omega) only [w.1, w5.1, ho, r2, er, hx, hcl, z1, z2, h10, q0, n2, n3, q60, nI_1, show ¬ 64 * j + 24 = 0 by omega, e_KI, e_NI, e_BI, e_LI, e_PI, e_KB, e_NB, e_IB, e_LB, e_PB, e_KL, e_NL, e_IL, e_BL, e_PL, e_KP, e_NP, e_IP, e_BP, e_LP, e_IIs, e_BBs, e_LLs, e_PPs, e_IIn, e_BBn, e_LLn, e_PPn, e_IIk, e_BBk, e_LLk, e_PPk, e_Ks, e_Ns, e_Is, e_Bs, e_Ls, e_Ps, e_Kn, e_Nn, e_In, e_Bn, e_Ln, e_Pn, if_true, if_false, and_self, or_true, true_or, not_false_eq_true, Bool.false_eq_true]; done) | (simp (disch := omega) only [w.1, w5.1, ho, r2, er, hx, hcl, z1, z2, h10, q0, n2, n3, q60, nI_1, show ¬ 64 * j + 24 = 0 by omega, e_KI, e_NI, e_BI, e_LI, e_PI, e_KB, e_NB, e_IB, e_LB, e_PB, e_KL, e_NL, e_IL, e_BL, e_PL, e_KP, e_NP, e_IP, e_BP, e_LP, e_IIs, e_BBs, e_LLs, e_PPs, e_IIn, e_BBn, e_LLn, e_PPn, e_IIk, e_BBk, e_LLk, e_PPk, e_Ks, e_Ns, e_Is, e_Bs, e_Ls, e_Ps, e_Kn, e_Nn, e_In, e_Bn, e_Ln, e_Pn, if_true, if_false, and_self, or_true, true_or, not_false_eq_true, Bool.false_eq_true]; decide) | decide) | ((with_reducible apply ev_f); · first | (simp (disch := omega) only [w.1, w5.1, ho, r2, er, hx, hcl, z1, z2, h10, q0, n2, n3, q60, nI_1, show ¬ 64 * j + 24 = 0 by omega, e_KI, e_NI, e_BI, e_LI, e_PI, e_KB, e_NB, e_IB, e_LB, e_PB, e_KL, e_NL, e_IL, e_BL, e_PL, e_KP, e_NP, e_IP, e_BP, e_LP, e_IIs, e_BBs, e_LLs, e_PPs, e_IIn, e_BBn, e_LLn, e_PPn, e_IIk, e_BBk, e_LLk, e_PPk, e_Ks, e_Ns, e_Is, e_Bs, e_Ls, e_Ps, e_Kn, e_Nn, e_In, e_Bn, e_Ln, e_Pn, if_true, if_false, and_self, or_true, true_or, not_false_eq_true, Bool.false_eq_true]; done) | (simp (disch := omega) only [w.1, w5.1, ho, r2, er, hx, hcl, z1, z2, h10, q0, n2, n3, q60, nI_1, show ¬ 64 * j + 24 = 0 by omega, e_KI, e_NI, e_BI, e_LI, e_PI, e_KB, e_NB, e_IB, e_LB, e_PB, e_KL, e_NL, e_IL, e_BL, e_PL, e_KP, e_NP, e_IP, e_BP, e_LP, e_IIs, e_BBs, e_LLs, e_PPs, e_IIn, e_BBn, e_LLn, e_PPn, e_IIk, e_BBk, e_LLk, e_PPk, e_Ks, e_Ns, e_Is, e_Bs, e_Ls, e_Ps, e_Kn, e_Nn, e_In, e_Bn, e_Ln, e_Pn, if_true, if_false, and_self, or_true, true_or, not_false_eq_true, Bool.false_eq_true]; decide) | decide) | ((with_reducible apply ev_s) <;> (first | (with_reducible rfl) | (simp (disch := omega) only [w.1, w5.1, ho, r2, er, hx, hcl, z1, z2, h10, q0, n2, n3, q60, nI_1, show ¬ 64 * j + 24 = 0 by omega, e_KI, e_NI, e_BI, e_LI, e_PI, e_KB, e_NB, e_IB, e_LB, e_PB, e_KL, e_NL, e_IL, e_BL, e_PL, e_KP, e_NP, e_IP, e_BP, e_LP, e_IIs, e_BBs, e_LLs, e_PPs, e_IIn, e_BBn, e_LLn, e_PPn, e_IIk, e_BBk, e_LLk, e_PPk, e_Ks, e_Ns, e_Is, e_Bs, e_Ls, e_Ps, e_Kn, e_Nn, e_In, e_Bn, e_Ln, e_Pn, if_true, if_false, and_self, or_true, true_or, not_false_eq_true, Bool.false_eq_true]; done) | (simp (disch := omega) only [w.1, w5.1, ho, r2, er, hx, hcl, z1, z2, h10, q0, n2, n3, q60, nI_1, show ¬ 64 * j + 24 = 0 by omega, e_KI, e_NI, e_BI, e_LI, e_PI, e_KB, e_NB, e_IB, e_LB, e_PB, e_KL, e_NL, e_IL, e_BL, e_PL, e_KP, e_NP, e_IP, e_BP, e_LP, e_IIs, e_BBs, e_LLs, e_PPs, e_IIn, e_BBn, e_LLn, e_PPn, e_IIk, e_BBk, e_LLk, e_PPk, e_Ks, e_Ns, e_Is, e_Bs, e_Ls, e_Ps, e_Kn, e_Nn, e_In, e_Bn, e_Ln, e_Pn, if_true, if_false, and_self, or_true, true_or, not_false_eq_true, Bool.false_eq_true]; rfl))))), by ((repeat' (first | exact ag.refl _ _ _ | apply ag.sI | apply ag.sB | apply ag.sP | apply ag.sL | (apply ag.cm) | (apply ag.mm))) <;> (first | omega | (dsimp only; omega) | (intro k; dsimp only; omega))), ?_, e_IIs⟩
        simp (disch := omega) only [e_KI, e_NI, e_BI, e_LI, e_PI, e_KB, e_NB, e_IB, e_LB, e_PB, e_KL, e_NL, e_IL, e_BL, e_PL, e_KP, e_NP, e_IP, e_BP, e_LP, e_IIs, e_BBs, e_LLs, e_PPs, e_IIn, e_BBn, e_LLn, e_PPn, e_IIk, e_BBk, e_LLk, e_PPk, n2]
  obtain ⟨hN, f1, f2, f3, f4⟩ := hN
  have fI : ∀ k, y_I hN (64 * j + 24) k = y_I h5 (64 * j + 24) k := fun k => f2.I (by first | omega | (dsimp only; omega))
  have fB : ∀ k, y_B hN (64 * j + 24) k = y_B h5 (64 * j + 24) k := fun k => f2.B (by first | omega | (dsimp only; omega))
  have fP : ∀ k, y_P hN (64 * j + 24) k = y_P h5 (64 * j + 24) k := fun k => f2.P (by first | omega | (dsimp only; omega))
  refine ⟨hN, c1, s1, f1, k1, k2, ?_, ?_, ?_, ?_, f3, f4, by rw [fI]; exact a0, by rw [fP]; exact a1, by rw [fP]; exact a7, by rw [fP]; exact a11, fun z => ?_, fun z => ?_, fun z => ?_⟩
  · exact ((g2.mono (fun a k q => by first | omega | (dsimp only at q ⊢; omega)) (fun a q => q)).trans (g5.mono (fun a k q => by first | omega | (dsimp only at q ⊢; omega)) (fun a q => q.elim))).trans (f2.mono (fun a k q => by first | omega | (dsimp only at q ⊢; omega)) (fun a q => q.elim))
  · rw [f2.P (by first | omega | (dsimp only; omega)), g5.P (by first | omega | (dsimp only; omega)), e_PI]
    exact k4
  · rw [f2.K (fun q => q), g5.K (fun q => q), e_KI]
    exact k5
  · rw [f2.I (by first | omega | (dsimp only; omega))]
    exact n4
  · obtain ⟨y1, y2, y3, y4, y5⟩ := ab z
    have z1 := kne _ (Or.inl (hb z))
    simp only [fI, fB, y1, y2, y3, y4, y5, gI _ _ z1, gB _ _ z1, and_self]
  · obtain ⟨y1, y2, y3⟩ := ac z
    have z1 := kne _ (Or.inr (Or.inl (hc z).1))
    simp only [fI, y1, y2, y3, gI _ _ z1, gP _ _ z1, true_and, and_true]
    by_cases z2 : y_P h pc 4 = 0
    · rw [if_pos z2, if_pos z2]
    · rw [if_neg z2, if_neg z2, gI _ _ (kne _ (Or.inl ((hc z).2 z2)))]
  · obtain ⟨y1, y2⟩ := as z
    have z1 := kne _ (Or.inr (Or.inr (hs z)))
    simp only [fI, y1, y2, gI _ _ z1, and_self]
/-- the model's room for one act more -/
theorem m_roomFor (w : Sh h) (hA : A ≤ 60) (e : y_I h 11 50 = nI A) : wp (f_X12_roomFor 11 h) fun r h' => ∃ A0 d, (A < 60 ∧ A0 = A ∧ d = 0 ∨ A = 60 ∧ A0 = 59 ∧ d = 1) ∧ r = nI (14 * A0) ∧ y_I h' 11 50 = nI A0 ∧ ag (fun a k => a = 2722 ∨ a = 11 ∧ k = 50) (fun _ => False) h h' ∧ ∀ k, k < 14 * A0 → y_I h' 2722 k = y_I h 2722 (k + 14 * d) := by
  suffices H : ∀ Q : Int32 → y_H → Prop, (∀ r h', (∃ A0 d, (A < 60 ∧ A0 = A ∧ d = 0 ∨ A = 60 ∧ A0 = 59 ∧ d = 1) ∧ r = nI (14 * A0) ∧ y_I h' 11 50 = nI A0 ∧ ag (fun a k => a = 2722 ∨ a = 11 ∧ k = 50) (fun _ => False) h h' ∧ ∀ k, k < 14 * A0 → y_I h' 2722 k = y_I h 2722 (k + 14 * d)) → Q r h') → wp (f_X12_roomFor 11 h) Q from H _ (fun _ _ q => q)
  intro Q hQ
  unfold f_X12_roomFor
  by_cases h60 : A = 60
  · have q : nI A = 60 := by rw [h60]; decide
    have z0 : (0 : Int32) = nI 0 := rfl
    simp only [w.2, e, q, if_true, e_jn]
    refine wp_jl (fun m j => ∀ i h3, i ≤ 826 → 826 - i < m → ag (fun a _ => a = 2722) (fun _ => False) h h3 → (∀ k, k < i → y_I h3 2722 k = y_I h 2722 (k + 14)) → (∀ k, i ≤ k → y_I h3 2722 k = y_I h 2722 k) → wp (j 11 (nI i) h3) Q) (fun i _ _ hm => absurd hm (by omega)) (fun m j IH i h3 hi hm g l1 l2 => ?_) (fun j IH => ?_)
    · have w3 : Sh h3 := (Sh_ag g (by intro a k q; (simp only [FSh] at q ⊢) <;> omega) (by intro a q; (simp only [GSh, not_false_eq_true] at q ⊢) <;> omega) w)
      have e3 : y_I h3 11 50 = 60 := (g.I (by first | omega | (dsimp only; omega))).trans (e.trans q)
      by_cases hi9 : i = 826
      · subst hi9
        have q2 : (826 : Int32) ≤ nI 826 := by decide
        have q3 : (60 : Int32) - 1 = nI 59 := by decide
        have q4 : (14 : Int32) * nI 59 = nI (14 * 59) := i_m14 59
        simp only [w3.2, q2, if_true, e_bd, e_KI, e_IIs, e3, q3, q4, wp_some]
        refine hQ _ _ ⟨59, 1, Or.inr ⟨h60, rfl, rfl⟩, rfl, e_IIs, ?_, fun k hk => ?_⟩
        · exact ag.sI (g.mono (fun a k q => Or.inl q) (fun a q => q)) (Or.inr ⟨rfl, rfl⟩)
        · rw [e_IIn (by omega)]
          exact l1 k (by omega)
      · have q2 : ¬ (826 : Int32) ≤ nI i := fun z => hi9 (by have := (nI_leI (a := 826) (b := i) (by decide) (by omega)).mp z; omega)
        have z14 : nI i + 14 = nI (i + 14) := nI_add i 14
        have x1 := i_ix (show i < 854 by omega) (by decide)
        have x2 := i_ix (show i + 14 < 854 by omega) (by decide)
        have c1 := i_cl (show i < 2 ^ 31 by omega)
        have c2 := i_cl (show i + 14 < 2 ^ 31 by omega)
        simp only [w3.2, q2, if_true, if_false, e_bd, z14, x1, x2, c1, c2, and_self, nI_1]
        refine IH (i + 1) _ (by omega) (by omega) (ag.sI g rfl) (fun k hk => ?_) (fun k hk => ?_)
        · by_cases ek : k = i
          · subst ek
            rw [e_IIs]
            exact l2 (k + 14) (by omega)
          · rw [e_IIk ek]
            exact l1 k (by omega)
        · rw [e_IIk (by omega)]
          exact l2 k (by omega)
    · exact IH 0 h (by omega) (by unfold y_fu; omega) (ag.refl _ _ _) (fun k hk => absurd hk (by omega)) (fun k _ => rfl)
  · have q : ¬ nI A = 60 := fun z => h60 ((nI_eq (a := A) (b := 60) (by omega) (by decide)).mp z)
    simp only [w.2, e, q, if_true, if_false, e_jn, i_m14, wp_some]
    exact hQ _ _ ⟨A, 0, Or.inl ⟨by omega, rfl, rfl⟩, rfl, e, ag.refl _ _ _, fun k _ => rfl⟩
end JW
