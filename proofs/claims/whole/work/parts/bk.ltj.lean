/-! least: the class writes its row -/
section LTJ
variable {C D C0 A : Cg} {X X0 X2 XX : y_H} {y : Sy} {s t d k n e N i j f g a b c M β bd x p c0 s0 v m W L Fa Ta cp : Nat} {l : List Nat} {F Hh wn : Nat → Nat} {bv : Nat → Nat → Nat}
theorem c_wrow (G : CG y C0 L X X a b c M) (hM : M ≤ 131072) (kF : y_K X Fa = 100 ∧ y_N X Fa = cp) (kT : y_K X Ta = 100 ∧ y_N X Ta = cp) (hL : L ≤ cp) (hcp : cp ≤ 4000) (hF : (Fa % 64 = 38 ∨ Fa % 64 = 45) ∧ (Ta % 64 = 38 ∨ Ta % 64 = 46) ∧ Fa ≠ Ta) : wp (f_X6_writeRow 17 Fa Ta (nI L) X) fun _ X2 => ag (fun u _ => u = Fa ∨ u = Ta) (fun _ => False) X X2 ∧ ∃ E, MinG y.cl (mpd y C0) E ∧ ln E = L ∧ RW E (y_I X2 Fa) (y_I X2 Ta) := by
  obtain ⟨N, st, row, S, e8, h0, h1, h2, h3, h4⟩ := G
  obtain ⟨⟨s1, ab⟩, -, m1, -, m3, -⟩ := S
  obtain ⟨k7, -, -, -, ⟨p5, kb, nb⟩, -⟩ := s1
  have bne : b ≠ Fa ∧ b ≠ Ta ∧ 17 ≠ Fa ∧ 17 ≠ Ta := by
    unfold abc at ab
    omega
  unfold f_X6_writeRow
  rw [e8]
  refine wp_g k7 ?_
  refine wp_jl (fun q j => ∀ n k X2, k ≤ N → ln (row k) = n → n ≤ L → n < q → ag (fun u _ => u = Fa ∨ u = Ta) (fun _ => False) X X2 → (∀ F2 T2, (∀ i, n ≤ i → F2 i = y_I X2 Fa i ∧ T2 i = y_I X2 Ta i) → RW (row k) F2 T2 → RW (row N) F2 T2) → wp (j 17 Fa Ta (nI k) (nI n - 1) X2) fun _ X2 => ag (fun u _ => u = Fa ∨ u = Ta) (fun _ => False) X X2 ∧ ∃ E, MinG y.cl (mpd y C0) E ∧ ln E = L ∧ RW E (y_I X2 Fa) (y_I X2 Ta)) (fun n _ _ _ _ _ hm => absurd hm (by omega)) (fun q j IH n k X2 hk hn hnL hq g R => ?_) (fun j IH => ?_)
  rotate_left
  · exact IH L N X (Nat.le_refl _) h4 (Nat.le_refl _) (by unfold y_fu; omega) (ag.refl _ _ _) (fun _ _ _ r => r)
  cases n with
  | zero =>
    have k0 : k = 0 := by
      by_cases z : k = 0
      · exact z
      · obtain ⟨q2, μ, z1, z2, z3, -⟩ := m3 k (by omega) (by omega)
        rw [z3, ln_s z2] at hn
        omega
    refine wp_pos (by decide) (wp_some.mpr ⟨g, row N, h3, h4, R _ _ (fun i _ => ⟨rfl, rfl⟩) ?_⟩)
    rw [k0, h2]
    exact RW_0
  | succ n =>
    have kp : k ≠ 0 := fun z => by
      rw [z, h2, ln_0] at hn
      omega
    obtain ⟨q2, μ, z1, z2, z3, z4⟩ := m3 k (by omega) (by omega)
    have hq2 : ln (row q2) = n := by
      rw [z3, ln_s z2] at hn
      omega
    have w7 : y_K X2 17 = 7 := (g.K (fun z => z)).trans k7
    have i7 : y_I X2 17 7 = nI (N + 1) := (g.I (by omega)).trans m1
    have p52 : y_P X2 17 5 = b := (g.P (by omega)).trans p5
    have kb2 : y_K X2 b = 100 := (g.K (fun z => z)).trans kb
    have nb2 : y_N X2 b = M := (g.N (fun z => z)).trans nb
    have kF2 : y_K X2 Fa = 100 := (g.K (fun z => z)).trans kF.1
    have nF2 : y_N X2 Fa = cp := (g.N (fun z => z)).trans kF.2
    have kT2 : y_K X2 Ta = 100 := (g.K (fun z => z)).trans kT.1
    have nT2 : y_N X2 Ta = cp := (g.N (fun z => z)).trans kT.2
    have st : y_I X2 b k = nI (64 * q2 + μ) := (g.I (by omega)).trans z4
    have xk := i_ix (show k < M by omega) (by omega)
    have ck := i_cl (show k < 2 ^ 31 by omega)
    have xn := i_ix (show n < cp by omega) (by omega)
    have cn := i_cl (show n < 2 ^ 31 by omega)
    have v5 : nI (n + 1) - 1 = nI n := nI_pred n
    have d9 : f_X11_isWithin (nI k) 0 (nI (N + 1) - 1) X2 = some (true, X2) := by
      rw [c_isWithin, nI_pred, i_dt (a := 0) (x := 0) (y := k) (z := N) rfl rfl rfl (by omega)]
    have dv : nI (64 * q2 + μ) / 8 = nI ((64 * q2 + μ) / 8) := i_div (d := 8) (by omega) (by decide) (by decide)
    have r1 : y_rem (nI ((64 * q2 + μ) / 8)) 8 = nI (μ / 8) := by
      rw [show (8 : Int32) = nI 8 from rfl, i_rem (by omega) (by decide) (by decide)]
      congr 1
      omega
    have r2 : y_rem (nI (64 * q2 + μ)) 8 = nI (μ % 8) := by
      rw [show (8 : Int32) = nI 8 from rfl, i_rem (by omega) (by decide) (by decide)]
      congr 1
      omega
    have d6 : nI (64 * q2 + μ) / 64 = nI q2 := by
      rw [show (64 : Int32) = nI 64 from rfl, i_div (by omega) (by decide) (by decide)]
      congr 1
      omega
    have nx : nI n + (-1 : Int32) = nI n - 1 := by
      rw [Int32.sub_eq_add_neg]
    rw [v5]
    refine wp_neg (nI_pos (by omega)) (wp_g w7 (wp_ce (by rw [i7]; exact d9) (wp_jn (wp_pos rfl (wp_g kF2 (wp_neg (by rw [nF2]; exact nI_ge (by omega) (by omega)) (wp_g kT2 (wp_pos (by rw [nT2, i_lt (by omega)]; omega) (wp_g w7 (wp_g (by rw [p52, kb2, nb2]; exact ⟨rfl, xk⟩) (wp_g (by rw [kF2, nF2]; exact ⟨rfl, xn⟩) (wp_bd ?_))))))))))))
    rw [p52, ck, st, cn, dv, r1, r2, d6, nx]
    -- what is written
    have fin : ∀ x, x = tO (μ % 8) → wp (j 17 Fa Ta (nI q2) (nI n - 1) (s_I (s_I X2 Fa n (nI (μ / 8))) Ta n x)) fun _ X2 => ag (fun u _ => u = Fa ∨ u = Ta) (fun _ => False) X X2 ∧ ∃ E, MinG y.cl (mpd y C0) E ∧ ln E = L ∧ RW E (y_I X2 Fa) (y_I X2 Ta) := fun x hx => by
      refine IH n q2 _ (by omega) hq2 (by omega) (by omega) (ag.sI (ag.sI g (by omega)) (by omega)) (fun F2 T2 hh r => R F2 T2 (fun i hi => ?_) ?_)
      · obtain ⟨u1, u2⟩ := hh i (by omega)
        rw [u1, u2, e_IIn (by omega), e_IIk (by omega), e_IIk (by omega), e_IIn (by omega)]
        exact ⟨rfl, rfl⟩
      · rw [z3]
        obtain ⟨u1, u2⟩ := hh n (Nat.le_refl _)
        rw [e_IIn (by omega), e_IIs] at u1
        rw [e_IIs, hx] at u2
        exact (RW_s z2).mpr ⟨by rw [hq2]; exact u1, by rw [hq2]; exact u2, r⟩
    by_cases m0 : μ % 8 = 0
    · refine wp_pos (by rw [m0]; rfl) (wp_g (by rw [e_KI, e_NI, kT2, nT2]; exact ⟨rfl, xn⟩) (wp_bd (fin _ ?_)))
      unfold tO
      rw [if_pos m0]
    · refine wp_neg (by rw [show (0 : Int32) = nI 0 from rfl, i_eq (by omega)]; exact m0) (wp_g (by rw [e_KI, e_NI, kT2, nT2]; exact ⟨rfl, xn⟩) (wp_bd (fin _ ?_)))
      unfold tO
      rw [if_neg m0, show (1 : Int32) = nI 1 from rfl, i_sub (by omega)]
end LTJ
