/-! least: the class's search -/
section LTL
variable {C D C0 A : Cg} {X X0 X2 XX : y_H} {y : Sy} {s t d k n e N i j f g a b c M β bd x p c0 s0 v m W L Fa Ta cp q : Nat} {l : List Nat} {F Hh wn : Nat → Nat} {bv : Nat → Nat → Nat} {st : Nat → Cg} {row : Nat → Nat}
theorem CSt.mv (S : CSt y X0 X a b c M N st row) (g : ag (fun u k => 45 ≤ u % 64 ∧ u % 64 ≤ 46 ∨ u = 102 ∨ u = 166 ∨ u = 14 ∧ k ≠ 7) (fun u => 45 ≤ u % 64 ∧ u % 64 ≤ 46) X X2) : CSt y X2 X2 a b c M N st row := by
  obtain ⟨⟨s1, ab⟩, -, m1, m2, m3, m4⟩ := S
  obtain ⟨k7, ⟨p0, k0, n0⟩, ⟨p1, k1, n1⟩, ⟨q1, q4, q5⟩, ⟨q2, q6, q7⟩, ⟨q3, q8, q9⟩, z⟩ := s1
  have ab' := ab
  unfold abc at ab'
  have P : ∀ k, y_P X2 17 k = y_P X 17 k := fun k => g.P (by omega)
  refine ⟨⟨⟨(g.K (by omega)).trans k7, ⟨(P 0).trans p0, (g.K (by omega)).trans k0, (g.N (by omega)).trans n0⟩, ⟨(P 1).trans p1, (g.K (by omega)).trans k1, (g.N (by omega)).trans n1⟩, ⟨(P 4).trans q1, (g.K (by omega)).trans q4, (g.N (by omega)).trans q5⟩, ⟨(P 5).trans q2, (g.K (by omega)).trans q6, (g.N (by omega)).trans q7⟩, ⟨(P 6).trans q3, (g.K (by omega)).trans q8, (g.N (by omega)).trans q9⟩, z⟩, ab⟩, ag.refl _ _ _, (g.I (by omega)).trans m1, fun k hk => ⟨(g.L (by omega)).trans (m2 k hk).1, (m2 k hk).2⟩, fun k h0 hk => ?_, ?_⟩
  · obtain ⟨w1, μ, w2, w3, w4, w5⟩ := m3 k h0 hk
    exact ⟨w1, μ, w2, w3, w4, (g.I (by omega)).trans w5⟩
  · have e : y_I X2 c = y_I X c := g.rI (fun k => by omega)
    rw [e]
    exact m4
theorem CG.mv (G : CG y C0 L X0 X a b c M) (g : ag (fun u k => 45 ≤ u % 64 ∧ u % 64 ≤ 46 ∨ u = 102 ∨ u = 166 ∨ u = 14 ∧ k ≠ 7) (fun u => 45 ≤ u % 64 ∧ u % 64 ≤ 46) X X2) : CG y C0 L X2 X2 a b c M := by
  obtain ⟨N, st, row, S, e8, r⟩ := G
  exact ⟨N, st, row, S.mv g, (g.I (by omega)).trans e8, r⟩
theorem Sh_L9 (g : ag PL9 QL9 X X2) (w : Sh X) : Sh X2 := (Sh_ag g (by intro a k q; (simp only [FSh, PL9, QL9] at q ⊢) <;> omega) (by intro a q; (simp only [GSh, PL9, QL9, not_false_eq_true] at q ⊢) <;> omega) w)
theorem BC.mvL (hb : b < 10) (g : ag PL9 QL9 X X2) (h : BC X b m W F Hh bv wn) : BC X2 b m W F Hh bv wn := by
  obtain ⟨w, v, h2, h3, h4, h5⟩ := h
  have I : ∀ {u k}, ¬ (41 ≤ u % 64 ∧ u % 64 ≤ 46 ∨ u = 17 ∨ u = 102 ∨ u = 166 ∨ u = 14 ∧ 2 ≤ k ∧ k ≤ 7) → y_I X2 u k = y_I X u k := fun z => g.I z
  have P : ∀ {u k}, ¬ (41 ≤ u % 64 ∧ u % 64 ≤ 46 ∨ u = 17 ∨ u = 102 ∨ u = 166 ∨ u = 14 ∧ 2 ≤ k ∧ k ≤ 7) → y_P X2 u k = y_P X u k := fun z => g.P z
  have K : ∀ {u}, ¬ (41 ≤ u % 64 ∧ u % 64 ≤ 46 ∨ u = 17) → y_K X2 u = y_K X u := fun z => g.K z
  have NN : ∀ {u}, ¬ (41 ≤ u % 64 ∧ u % 64 ≤ 46 ∨ u = 17) → y_N X2 u = y_N X u := fun z => g.N z
  refine ⟨Sh_L9 g w, ?_, ?_, fun s hs => ?_, ?_, fun o ho => ?_⟩
  · unfold vshape at v ⊢
    simp (disch := omega) only [I, P, K, NN]
    exact v
  · rw [I (by omega)]; exact h2
  · obtain ⟨q1, q2, q3⟩ := h3 s hs
    exact ⟨by rw [I (by omega)]; exact q1, by rw [I (by omega)]; exact q2, fun t ht => by rw [P (by omega)]; exact q3 t ht⟩
  · rw [I (by omega)]; exact h4
  · rw [P (by omega)]; exact h5 o ho
theorem c_wrow0 (k7 : y_K X 17 = 7) : f_X6_writeRow 17 Fa Ta 0 X = some ((), X) := by
  suffices H : wp (f_X6_writeRow 17 Fa Ta 0 X) fun r X2 => X2 = X by
    obtain ⟨r, X2, e1, e2⟩ := H
    rw [e1, e2]
  unfold f_X6_writeRow
  refine wp_g k7 (wp_jl (fun q j => 0 < q → wp (j 17 Fa Ta (y_I X 17 8) (0 - 1) X) fun r X2 => X2 = X) (fun hm => absurd hm (by omega)) (fun q j IH _ => ?_) (fun j IH => IH (by unfold y_fu; omega)))
  exact wp_pos (by decide) (wp_some.mpr rfl)
/-- what is so when a search is done -/
def LE9 (X : y_H) (y : Sy) (C0 : Cg) (b q e c0 s0 : Nat) (r : Int32 × Nat × Nat) (X2 : y_H) : Prop := ∃ p a b' c M F T cp, SRC X2 p a b' c M ∧ RWC X2 F T cp ∧ (e ≤ M ∧ r.2.1 ≤ c0 + 100 + (M - e) ∧ r.2.2 ≤ s0 + 4000 + 8 * (M - e)) ∧ ag PL9 QL9 X X2 ∧ y_I X2 14 5 = nI (q + 1) ∧ ((r.1 = -9 ∧ y_I X2 14 4 = 0 ∧ y_P X2 14 6 = y_P X 14 6 ∧ noway y C0) ∨ ∃ E, MinG y.cl (mpd y C0) E ∧ ln E ≤ cp ∧ r.1 = nI (ln E) ∧ y_I X2 14 4 = nI (ln E) ∧ y_P X2 14 6 = 64 * b + 23 ∧ RW E (y_I X2 F) (y_I X2 T))
theorem c_searchIn (k : okB m W F Hh bv wn) (B : BC X b m W F Hh bv wn) (hb : b < 10) (rq : RQ X e) (rw9 : RWC X Fa Ta cp) (q2 : y_K X 2 = 200 ∧ y_N X 2 = 5 ∧ y_I X 2 = h_sl) (hq : q < 40) (eq : y_I X 14 5 = nI q) : wp (f_X4_searchIn 14 (64 * b + 23) c0 s0 X) (LE9 X (sysB m W F Hh bv wn) (Bc F m 0) b q e c0 s0) := by
  have O := sys_ok k
  have r0 := sys_ri k
  have w := B.1
  have k14 : ∀ {X2}, ag PL9 QL9 X X2 → y_K X2 14 = 5 := fun g => by
    have := (Sh_L9 g w).1
    simp only [this]
  have kX := k14 (ag.refl PL9 QL9 X)
  obtain ⟨X1, eX1⟩ : ∃ X1, X1 = s_I (s_I X 14 5 (nI (q + 1))) 14 4 0 := ⟨_, rfl⟩
  have g1 : ag (fun u k => u = 14 ∧ (k = 4 ∨ k = 5)) (fun _ => False) X X1 := by
    rw [eX1]
    exact ag.sI (ag.sI (ag.refl _ _ _) (by omega)) (by omega)
  have gL1 : ag PL9 QL9 X X1 := g1.mono (fun u k z => by unfold PL9; omega) (fun _ z => z.elim)
  have i5 : y_I X1 14 5 = nI (q + 1) := by rw [eX1, e_IIk (by omega), e_IIs]
  have i4 : y_I X1 14 4 = 0 := by rw [eX1, e_IIs]
  have rw1 : RWC X1 Fa Ta cp := rw9.mv (g1.mono (fun u k z => by omega) (fun _ z => z.elim))
  have P1 : ∀ u k, y_P X1 u k = y_P X u k := fun u k => by rw [eX1, e_PI, e_PI]
  unfold f_X4_searchIn
  rw [eq]
  refine wp_g kX (wp_pos (by rw [show (40 : Int32) = nI 40 from rfl, i_lt (by omega)]; exact hq) (wp_g kX (wp_g kX (wp_bd (wp_g kX (wp_bd (wp_g kX ?_)))))))
  rw [nI_1, ← eX1]
  refine wp_jc (fun jj Q => ∀ X1 c1 s1 p a b' c M, ag PL9 QL9 X X1 → SRC X1 p a b' c M → RWC X1 Fa Ta cp → y_I X1 14 5 = nI (q + 1) → y_I X1 14 4 = 0 → y_P X1 14 6 = y_P X 14 6 → (e ≤ M ∧ c1 ≤ c0 + 6 ∧ s1 ≤ s0 + 280) → wp (jj 14 (64 * b + 23) c1 s1 X1) Q) (fun X1 c1 s1 p a b' c M g S R i5 i4 p6 hc => ?_) (fun j45 h45 => ?_)
  rotate_left
  · rcases RQ_to rq with ⟨e0, z7, z17, z41, z105, z169, z233, z297, fr⟩ | ⟨p, a, b', c, S⟩
    · have K1 : ∀ u, y_K X1 u = y_K X u := fun u => g1.K (fun z => z)
      obtain ⟨X3, eX3⟩ : ∃ X3, X3 = s_new X1 17 7 10 := ⟨_, rfl⟩
      have K3 : ∀ u, u ≠ 17 → y_K X3 u = y_K X u := fun u hu => by rw [eX3, e_Kn hu, K1]
      have k73 : y_K X3 17 = 7 := by rw [eX3, e_Ks]
      have ci := c_init (c0 := c0 + 1) (s0 := s0 + 10) k73 ((K3 _ (by omega)).trans z41) ((K3 _ (by omega)).trans z105) ((K3 _ (by omega)).trans z169) ((K3 _ (by omega)).trans z233) ((K3 _ (by omega)).trans z297)
      have S4 := ini_SRC k73 (fun m => ⟨(K3 _ (by omega)).trans (fr m).1, (K3 _ (by omega)).trans (fr m).2.1, (K3 _ (by omega)).trans (fr m).2.2⟩)
      have g4 : ag (fun u k => u % 64 = 41 ∨ u = 17 ∨ u = 14 ∧ k = 7) (fun u => u % 64 = 41 ∨ u = 17) X1 (s_P (iniX X3) 14 7 17) := by
        have ga : ag (fun u k => u % 64 = 41 ∨ u = 17 ∨ u = 14 ∧ k = 7) (fun u => u % 64 = 41 ∨ u = 17) X1 X3 := by
          rw [eX3]
          exact ag.new (ag.refl _ _ _) (fun k => by omega) (by omega)
        exact ag.sP (ga.trans ((ini_ag (X := X3)).mono (fun u k z => by omega) (fun u z => by omega))) (by omega)
      have k146 : y_K (iniX X3) 14 = 5 := by
        rw [(ini_ag (X := X3)).K (by omega), K3 14 (by omega)]
        exact kX
      refine wp_pos (by rw [P1]; exact z7) (wp_g ⟨by omega, (K1 17).trans z17⟩ (wp_bd ?_))
      rw [← eX3]
      refine wp_g k73 (wp_ce ci (wp_g k146 (wp_bd ?_)))
      exact h45 _ _ _ 0 169 233 297 64 (gL1.trans (g4.mono (fun u k z => by unfold PL9; omega) (fun u z => by unfold QL9; omega))) S4 (rw1.mv (g4.mono (fun u k z => by omega) (fun u z => by omega))) ((g4.I (by omega)).trans i5) ((g4.I (by omega)).trans i4) ((g4.P (by omega)).trans (P1 14 6)) ⟨by omega, by show c0 + 1 + 1 + 1 + 1 + 1 + 1 ≤ _; omega, by show s0 + 10 + 4 + 4 + 64 + 64 + 128 ≤ _; omega⟩
    · refine wp_neg (by rw [P1, S.1]; omega) (h45 X1 c0 s0 p a b' c e gL1 (S.mv (g1.mono (fun u k z => by omega) (fun _ z => z.elim))) rw1 i5 i4 (P1 14 6) ⟨by omega, by omega, by omega⟩)
  clear rw1 P1 gL1 g1 eX1 rw9 rq
  have k1 := k14 g
  have B1 := B.mvL hb g
  have b4 : y_I X1 14 1 = nI W := B1.2.2.2.2.1
  obtain ⟨hc16, hc4, hFT, ⟨rF, rT, kF, kT, nF, nT⟩, rfr⟩ := id R
  refine wp_g k1 ?_
  by_cases w0 : W = 0
  · have z : y_I X1 14 1 = 0 := by rw [b4, w0]; rfl
    refine wp_pos z (wp_pos (by decide) (wp_g k1 (wp_g (by rw [rF]; exact kF) (wp_jn (wp_pos (by rw [rF, nF]; exact nI_le (a := 0) (by omega) (by omega)) (wp_g k1 (wp_g k1 (wp_g k1 (wp_g (by rw [S.1]; exact S.2.1.1) (wp_ce (by rw [S.1]; exact c_wrow0 S.2.1.1) (wp_g k1 (wp_bd (wp_g k1 (wp_bd (wp_some.mpr ?_)))))))))))))))
    have g9 : ag (fun u k => u = 14 ∧ (k = 4 ∨ k = 6)) (fun _ => False) X1 (s_P (s_I X1 14 4 0) 14 6 (64 * b + 23)) := ag.sP (ag.sI (ag.refl _ _ _) (by omega)) (by omega)
    have o0 : (sysB m W F Hh bv wn).out (Bc F m 0) = 0 := by
      show ofs F m - ttC (Bc F m 0) = 0
      rw [(Bc_flt k.1).2, Nat.sub_self]
    refine ⟨p, a, b', c, M, Fa, Ta, cp, S.mv (g9.mono (fun u k z => by omega) (fun _ z => z.elim)), ?_, ⟨hc.1, by show c1 ≤ _; omega, by show s1 ≤ _; omega⟩, g.trans (g9.mono (fun u k z => by unfold PL9; omega) (fun _ z => z.elim)), (g9.I (by omega)).trans i5, Or.inr ⟨0, ⟨⟨_, Rn.nil, ?_⟩, fun _ _ _ _ => Nat.zero_le _⟩, ?_, rfl, ?_, ?_, RW_0⟩⟩
    · refine ⟨hc16, hc4, hFT, ⟨(g9.P (by omega)).trans rF, (g9.P (by omega)).trans rT, kF, kT, nF, nT⟩, rfr⟩
    · rw [cl_out, o0]
      show 0 = W
      omega
    · rw [ln_0]; omega
    · rw [e_IP, e_IIs]; rfl
    · rw [e_PPs]
  have z : ¬ y_I X1 14 1 = 0 := by
    rw [b4, show (0 : Int32) = nI 0 from rfl, i_eq (by have := k.2.1; omega)]
    exact w0
  have q21 : y_K X1 2 = 200 ∧ y_N X1 2 = 5 ∧ y_I X1 2 = h_sl := ⟨(g.K (by unfold QL9; omega)).trans q2.1, (g.N (by unfold QL9; omega)).trans q2.2.1, (g.rI (fun k => by unfold PL9; omega)).trans q2.2.2⟩
  refine wp_neg z (wp_g k1 (wp_g (by rw [S.1]; exact S.2.1.1) ?_))
  rw [S.1]
  refine wp_call (c_solve (c0 := c1) (s0 := s1) k B1 hb (by omega) S.2.1 S.2.2.1 S.2.2.2.1 S.2.2.2.2 q21) (fun r X2 qq => ?_)
  obtain ⟨XX, gX, a2, b2, c2, M2, p2, T2, ⟨S2, ab2⟩, J⟩ := qq
  have g12 : ag PS8 QS8 X1 X2 := (gX.mono (fun u k z => by unfold PS8; omega) (fun _ z => z.elim)).trans T2.2.2.2.2.2.p98
  have gL2 : ag PL9 QL9 X X2 := g.trans (g12.mono (fun u k z => by unfold PS8 at z; unfold PL9; omega) (fun u z => by unfold QS8 at z; unfold QL9; omega))
  have k2 := k14 gL2
  have i52 : y_I X2 14 5 = nI (q + 1) := (g12.I (by unfold PS8; omega)).trans i5
  have i42 : y_I X2 14 4 = 0 := (g12.I (by unfold PS8; omega)).trans i4
  have p62 : y_P X2 14 6 = y_P X 14 6 := (g12.P (by unfold PS8; omega)).trans p6
  have SR2 : SRC X2 p2 a2 b2 c2 M2 := ⟨(g12.P (by unfold PS8; omega)).trans S.1, S2, ab2, T2.1, T2.2.1⟩
  have R2 : RWC X2 Fa Ta cp := R.mv (g12.mono (fun u k z => by unfold PS8 at z; omega) (fun u z => by unfold QS8 at z; omega))
  have T3 := T2.2.2.1
  have T4 := T2.2.2.2.1
  have T5 := T2.2.2.2.2.1
  rcases J with ⟨L, eL, G⟩ | ⟨eL, nw⟩
  rotate_left
  · refine wp_neg (by rw [eL]; decide) (wp_some.mpr ⟨p2, a2, b2, c2, M2, Fa, Ta, cp, SR2, R2, ⟨by omega, ?_, ?_⟩, gL2, i52, Or.inl ⟨rfl, i42, p62, nw⟩⟩)
    · show r.2.1 ≤ _
      omega
    · show r.2.2 ≤ _
      omega
  have L36 : L ≤ 36 := by
    obtain ⟨N, st, row, -, -, -, -, -, mg, e9⟩ := G
    have := MinG.ln O r0 (mg.cl O)
    omega
  obtain ⟨-, -, hFT2, ⟨rF2, rT2, kF2, kT2, nF2, nT2⟩, rfr2⟩ := id R2
  refine wp_pos (by rw [eL]; exact nI_le (a := 0) (by omega) (by omega)) (wp_g k2 (wp_g (by rw [rF2]; exact kF2) ?_))
  rw [eL]
  refine wp_jc (fun jj Q => ∀ X3 F3 T3a cp3 c3 s3, ag PL9 QL9 X X3 → SRC X3 p2 a2 b2 c2 M2 → CG (sysB m W F Hh bv wn) (Bc F m 0) L X3 X3 a2 b2 c2 M2 → RWC X3 F3 T3a cp3 → L ≤ cp3 → y_I X3 14 5 = nI (q + 1) → c3 ≤ r.2.1 + 2 → s3 ≤ r.2.2 + 100 → wp (jj 14 (64 * b + 23) (nI L) c3 s3 X3) Q) (fun X3 F3 T3a cp3 c3 s3 g3 S3 G3 R3 hL i53 hc3 hs3 => ?_) (fun j96 h96 => ?_)
  rotate_left
  · rw [rF2, nF2]
    by_cases lc : L ≤ cp
    · exact wp_pos (nI_le lc (by omega)) (h96 X2 Fa Ta cp _ _ gL2 SR2 G R2 lc i52 (by omega) (by omega))
    have clL := i_cl (show L < 2 ^ 31 by omega)
    have mb : L * componentBytes (t_ay 0) ≤ 536870912 := by
      have : componentBytes (t_ay 0) = 4 := by decide
      rw [this]
      omega
    have gl : ¬ nI L < 0 := nI_pos (by omega)
    obtain ⟨f1, f2⟩ := rfr2 L (by omega)
    rw [clL]
    obtain ⟨X4, eX4⟩ : ∃ X4, X4 = s_P (s_new (s_P (s_new X2 (64 * L + 45) 100 L) 14 2 (64 * L + 45)) (64 * L + 46) 100 L) 14 3 (64 * L + 46) := ⟨_, rfl⟩
    have g4 : ag (fun u k => 45 ≤ u % 64 ∧ u % 64 ≤ 46 ∨ u = 14 ∧ (k = 2 ∨ k = 3)) (fun u => 45 ≤ u % 64 ∧ u % 64 ≤ 46) X2 X4 := by
      rw [eX4]
      exact ag.sP (ag.new (ag.sP (ag.new (ag.refl _ _ _) (fun k => by omega) (by omega)) (by omega)) (fun k => by omega) (by omega)) (by omega)
    have R4 : RWC X4 (64 * L + 45) (64 * L + 46) L := by
      refine ⟨by omega, by omega, Or.inr ⟨by omega, rfl, rfl⟩, ⟨?_, ?_, ?_, ?_, ?_, ?_⟩, fun m hm => ?_⟩
      · rw [eX4, e_PPk (by omega), e_Pn (by omega), e_PPs]
      · rw [eX4, e_PPs]
      · rw [eX4, e_KP, e_Kn (by omega), e_KP, e_Ks]
      · rw [eX4, e_KP, e_Ks]
      · rw [eX4, e_NP, e_Nn (by omega), e_NP, e_Ns]
      · rw [eX4, e_NP, e_Ns]
      · obtain ⟨z1, z2⟩ := rfr2 m (by omega)
        exact ⟨by rw [eX4, e_KP, e_Kn (by omega), e_KP, e_Kn (by omega)]; exact z1, by rw [eX4, e_KP, e_Kn (by omega), e_KP, e_Kn (by omega)]; exact z2⟩
    refine wp_neg (nI_ge (by omega) (by omega)) (wp_g ⟨by omega, f1, gl, mb⟩ (wp_bd (wp_g (by rw [e_Kn (by omega)]; exact k2) (wp_bd (wp_g ⟨by omega, by rw [e_KP, e_Kn (by omega)]; exact f2, gl, mb⟩ (wp_bd (wp_g (by rw [e_Kn (by omega), e_KP, e_Kn (by omega)]; exact k2) (wp_bd ?_))))))))
    rw [← eX4]
    exact h96 X4 _ _ L _ _ (gL2.trans (g4.mono (fun u k z => by unfold PL9; omega) (fun u z => by unfold QL9; omega))) (SR2.mv (g4.mono (fun u k z => by omega) (fun u z => z))) (G.mv (g4.mono (fun u k z => by omega) (fun u z => z))) R4 (Nat.le_refl _) ((g4.I (by omega)).trans i52) (by omega) (by omega)
  -- the row is written
  have k3 := k14 g3
  obtain ⟨hc163, hc43, hFT3, ⟨rF3, rT3, kF3, kT3, nF3, nT3⟩, rfr3⟩ := id R3
  have pw : 2 ^ p2 ≤ 2 ^ 11 := Nat.pow_le_pow_right (by decide) S3.2.2.2.2
  have MM := S3.2.2.2.1.1
  refine wp_g k3 (wp_g k3 (wp_g k3 (wp_g (by rw [S3.1]; exact S3.2.1.1) ?_)))
  rw [S3.1, rF3, rT3]
  refine wp_call (c_wrow G3 (by omega) ⟨kF3, nF3⟩ ⟨kT3, nT3⟩ hL hc43 (by omega)) (fun _ X5 qq => ?_)
  obtain ⟨g5, E, mE, lE, rE⟩ := qq
  have g5' : ag (fun u k => 45 ≤ u % 64 ∧ u % 64 ≤ 46 ∨ u = 102 ∨ u = 166 ∨ u = 14 ∧ k ≠ 7) (fun u => 45 ≤ u % 64 ∧ u % 64 ≤ 46) X3 X5 := g5.mono (fun u k z => by omega) (fun _ z => z.elim)
  have k5 : y_K X5 14 = 5 := (g5.K (fun z => z)).trans k3
  refine wp_g k5 (wp_bd (wp_g k5 (wp_bd (wp_some.mpr ?_))))
  have g9 : ag (fun u k => u = 14 ∧ (k = 4 ∨ k = 6)) (fun _ => False) X5 (s_P (s_I X5 14 4 (nI L)) 14 6 (64 * b + 23)) := ag.sP (ag.sI (ag.refl _ _ _) (by omega)) (by omega)
  refine ⟨p2, a2, b2, c2, M2, F3, T3a, cp3, (S3.mv g5').mv (g9.mono (fun u k z => by omega) (fun _ z => z.elim)), ?_, ⟨by omega, by show c3 ≤ _; omega, by show s3 ≤ _; omega⟩, (g3.trans (g5.mono (fun u k z => by unfold PL9; omega) (fun u z => z.elim))).trans (g9.mono (fun u k z => by unfold PL9; omega) (fun _ z => z.elim)), ?_, Or.inr ⟨E, mE, by omega, by rw [lE], ?_, ?_, ?_⟩⟩
  · have h14 : 14 ≠ F3 ∧ 14 ≠ T3a := by omega
    refine ⟨hc163, hc43, hFT3, ⟨(g9.P (by omega)).trans ((g5.P (by omega)).trans rF3), (g9.P (by omega)).trans ((g5.P (by omega)).trans rT3), (g5.K (fun z => z)).trans kF3, (g5.K (fun z => z)).trans kT3, (g5.N (fun z => z)).trans nF3, (g5.N (fun z => z)).trans nT3⟩, fun m hm => ⟨(g5.K (fun z => z)).trans (rfr3 m hm).1, (g5.K (fun z => z)).trans (rfr3 m hm).2⟩⟩
  · exact (g9.I (by omega)).trans ((g5.I (by omega)).trans i53)
  · rw [e_IP, e_IIs, lE]
  · rw [e_PPs]
  · have u1 : y_I (s_P (s_I X5 14 4 (nI L)) 14 6 (64 * b + 23)) F3 = y_I X5 F3 := g9.rI (fun k => by omega)
    have u2 : y_I (s_P (s_I X5 14 4 (nI L)) 14 6 (64 * b + 23)) T3a = y_I X5 T3a := g9.rI (fun k => by omega)
    rw [u1, u2]
    exact rE
end LTL
