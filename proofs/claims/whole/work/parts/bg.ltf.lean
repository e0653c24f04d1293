/-! least: the class's tables grow -/
section LTF
variable {C D C0 A : Cg} {X X0 X2 : y_H} {y : Sy} {s t d k n e N i j f g a b c M β bd x p c0 s0 : Nat} {l : List Nat} {st : Nat → Cg} {row : Nat → Nat} {E : Nat → Nat}
/-- which tables there are, and which are free -/
def Cp (X : y_H) (p a b c M : Nat) : Prop := M = 64 * 2 ^ p ∧ (p = 0 ∧ a = 169 ∧ b = 233 ∧ c = 297 ∨ 0 < p ∧ a = 64 * M + 42 ∧ b = 64 * M + 43 ∧ c = 64 * (2 * M) + 44) ∧ ∀ m, M < m → y_K X (64 * m + 42) = 0 ∧ y_K X (64 * m + 43) = 0 ∧ (2 * M < m → y_K X (64 * m + 44) = 0)
theorem Cp.K (h : Cp X p a b c M) (e : ∀ u, y_K X2 u = y_K X u) : Cp X2 p a b c M := by
  obtain ⟨h1, h2, h3⟩ := h
  refine ⟨h1, h2, fun m hm => ?_⟩
  simp only [e]
  exact h3 m hm
theorem e_KcL {h : y_H} {u v q r n : Nat} : y_K (s_cpL h u v q r n) = y_K h := rfl
theorem e_NcL {h : y_H} {u v q r n : Nat} : y_N (s_cpL h u v q r n) = y_N h := rfl
theorem e_IcL {h : y_H} {u v q r n : Nat} : y_I (s_cpL h u v q r n) = y_I h := rfl
theorem e_BcL {h : y_H} {u v q r n : Nat} : y_B (s_cpL h u v q r n) = y_B h := rfl
theorem e_PcL {h : y_H} {u v q r n : Nat} : y_P (s_cpL h u v q r n) = y_P h := rfl
theorem e_KcI {h : y_H} {u v q r n : Nat} : y_K (s_cpI h u v q r n) = y_K h := rfl
theorem e_NcI {h : y_H} {u v q r n : Nat} : y_N (s_cpI h u v q r n) = y_N h := rfl
theorem e_LcI {h : y_H} {u v q r n : Nat} : y_L (s_cpI h u v q r n) = y_L h := rfl
theorem e_BcI {h : y_H} {u v q r n : Nat} : y_B (s_cpI h u v q r n) = y_B h := rfl
theorem e_PcI {h : y_H} {u v q r n : Nat} : y_P (s_cpI h u v q r n) = y_P h := rfl
theorem e_LLcc {h : y_H} {u v n k : Nat} (hk : k < n) : y_L (s_cpL h u v 0 0 n) v k = y_L h u k := by
  show (if v = v then va_cpy (y_L h u) (y_L h v) 0 0 n k else _) = _
  rw [if_pos rfl]
  unfold va_cpy
  rw [if_pos (by omega), Nat.zero_add, Nat.sub_zero]
theorem e_LLo {h : y_H} {u v q r n w k : Nat} (hw : w ≠ v) : y_L (s_cpL h u v q r n) w k = y_L h w k := if_neg hw
theorem e_IIcc {h : y_H} {u v n k : Nat} (hk : k < n) : y_I (s_cpI h u v 0 0 n) v k = y_I h u k := by
  show (if v = v then va_cpy (y_I h u) (y_I h v) 0 0 n k else _) = _
  rw [if_pos rfl]
  unfold va_cpy
  rw [if_pos (by omega), Nat.zero_add, Nat.sub_zero]
theorem e_IIo {h : y_H} {u v q r n w k : Nat} (hw : w ≠ v) : y_I (s_cpI h u v q r n) w k = y_I h w k := if_neg hw
theorem ag.cpL {U : Nat → Nat → Prop} {V : Nat → Prop} {h h2 : y_H} {u v q r n : Nat} (g : ag U V h h2) (c : ∀ k, U v k) : ag U V h (s_cpL h2 u v q r n) := ⟨g.1, fun a k nn => ⟨g.I nn, g.B nn, (e_LLo (fun z => nn (by rw [z]; exact c k))).trans (g.L nn), g.P nn⟩⟩
theorem ag.cpI {U : Nat → Nat → Prop} {V : Nat → Prop} {h h2 : y_H} {u v q r n : Nat} (g : ag U V h h2) (c : ∀ k, U v k) : ag U V h (s_cpI h2 u v q r n) := ⟨g.1, fun a k nn => ⟨(e_IIo (fun z => nn (by rw [z]; exact c k))).trans (g.I nn), g.B nn, g.L nn, g.P nn⟩⟩
theorem y_mn2 (hM : M ≤ 65536) : y_mn (nI M) (nI (2 * M)) = nI M := by
  unfold y_mn
  by_cases q : nI (2 * M) < nI M
  · rw [i_lt (by omega)] at q
    omega
  · rw [if_neg q]
theorem c_cpL (ka : y_K X a = 101) (na : y_N X a = M) (h0 : 0 < M) (hM : M ≤ 65536) (hk : y_K X (64 * (2 * M) + 42) = 0) (ha : a ≠ 64 * (2 * M) + 42) : f_J7_copyOf_c38d5 a (nI (2 * M)) c0 s0 X = some ((64 * (2 * M) + 42, c0 + 1, s0 + 2 * M), s_cpL (s_new X (64 * (2 * M) + 42) 101 (2 * M)) a (64 * (2 * M) + 42) 0 0 M) := by
  have c2 := i_cl (show 2 * M < 2 ^ 31 by omega)
  have c1 := i_cl (show M < 2 ^ 31 by omega)
  have z0 : Int32.toNatClampNeg 0 = 0 := by decide
  have ne : ¬ nI (2 * M) = nI M := by
    rw [i_eq (by omega)]
    omega
  have g1 : ¬ nI (2 * M) < 0 := nI_pos (by omega)
  have g2 : ¬ nI M < 0 := nI_pos (by omega)
  have g3 : ¬ (0 : Int32) < 0 := by decide
  have mb : 2 * M * componentBytes (t_ay 1) ≤ 536870912 := by
    have : componentBytes (t_ay 1) = 8 := by decide
    rw [this]
    omega
  have ym := y_mn2 hM
  unfold f_J7_copyOf_c38d5
  rw [if_pos ka, na, if_neg ne, c2, if_pos ⟨by omega, hk, g1, mb⟩, e_bd, e_Kn ha, if_pos ka, e_Nn ha, na, ym, c1, z0, e_Ks, e_Ns, if_pos ⟨ka, rfl, g3, g3, g2, by omega, by omega⟩]
  rfl
theorem c_cpI (ka : y_K X a = 100) (na : y_N X a = M) (h0 : 0 < M) (hM : M ≤ 65536) (hk : y_K X (64 * (2 * M) + 43) = 0) (ha : a ≠ 64 * (2 * M) + 43) : f_J7_copyOf_59c91 a (nI (2 * M)) c0 s0 X = some ((64 * (2 * M) + 43, c0 + 1, s0 + 2 * M), s_cpI (s_new X (64 * (2 * M) + 43) 100 (2 * M)) a (64 * (2 * M) + 43) 0 0 M) := by
  have c2 := i_cl (show 2 * M < 2 ^ 31 by omega)
  have c1 := i_cl (show M < 2 ^ 31 by omega)
  have z0 : Int32.toNatClampNeg 0 = 0 := by decide
  have ne : ¬ nI (2 * M) = nI M := by
    rw [i_eq (by omega)]
    omega
  have g1 : ¬ nI (2 * M) < 0 := nI_pos (by omega)
  have g2 : ¬ nI M < 0 := nI_pos (by omega)
  have g3 : ¬ (0 : Int32) < 0 := by decide
  have mb : 2 * M * componentBytes (t_ay 0) ≤ 536870912 := by
    have : componentBytes (t_ay 0) = 4 := by decide
    rw [this]
    omega
  have ym := y_mn2 hM
  unfold f_J7_copyOf_59c91
  rw [if_pos ka, na, if_neg ne, c2, if_pos ⟨by omega, hk, g1, mb⟩, e_bd, e_Kn ha, if_pos ka, e_Nn ha, na, ym, c1, z0, e_Ks, e_Ns, if_pos ⟨ka, rfl, g3, g3, g2, by omega, by omega⟩]
  rfl
/-- the heap when the rows are made anew, the places not yet filled -/
def grX (X : y_H) (a b M : Nat) : y_H := s_P (s_new (s_P (s_cpI (s_new (s_P (s_cpL (s_new X (64 * (2 * M) + 42) 101 (2 * M)) a (64 * (2 * M) + 42) 0 0 M) 17 4 (64 * (2 * M) + 42)) (64 * (2 * M) + 43) 100 (2 * M)) b (64 * (2 * M) + 43) 0 0 M) 17 5 (64 * (2 * M) + 43)) (64 * (2 * (2 * M)) + 44) 100 (2 * (2 * M))) 17 6 (64 * (2 * (2 * M)) + 44)
theorem grX_ag : ag PS9 QS9 X (grX X a b M) := by
  have q : ∀ {u k}, 42 ≤ u % 64 ∧ u % 64 ≤ 44 → PS9 u k := fun h => Or.inl h
  unfold grX
  exact ag.sP (ag.new (ag.sP (ag.cpI (ag.new (ag.sP (ag.cpL (ag.new (ag.refl _ _ _) (fun k => q (by omega)) (by unfold QS9; omega)) (fun k => q (by omega))) (by unfold PS9; omega)) (fun k => q (by omega)) (by unfold QS9; omega)) (fun k => q (by omega))) (by unfold PS9; omega)) (fun k => q (by omega)) (by unfold QS9; omega)) (by unfold PS9; omega)
theorem c_grow (S : CSt y X0 X a b c M N st row) (P : Cp X p a b c M) (hp : p ≤ 9) (hN : N ≤ M) (nd : ∀ k l, k < l → l < N → st k ≠ st l) : ∃ X2, f_X6_grow 17 c0 s0 X = some (((), c0 + 3, s0 + 8 * M), X2) ∧ CSt y X2 X2 (64 * (2 * M) + 42) (64 * (2 * M) + 43) (64 * (2 * (2 * M)) + 44) (2 * M) N st row ∧ Cp X2 (p + 1) (64 * (2 * M) + 42) (64 * (2 * M) + 43) (64 * (2 * (2 * M)) + 44) (2 * M) ∧ (∀ k, y_I X2 17 k = y_I X 17 k) ∧ y_B X2 17 9 = y_B X 17 9 ∧ ag PS9 QS9 X X2 := by
  obtain ⟨⟨s1, s2⟩, ga, m1, m2, m3, m4⟩ := S
  obtain ⟨P1, P2, P3⟩ := P
  obtain ⟨k7, ⟨p0, k0, n0⟩, ⟨p1, k1, n1⟩, ⟨p4, ka, na⟩, ⟨p5, kb, nb⟩, ⟨p6, kc, nc⟩, -⟩ := s1
  have pw : 2 ^ p ≤ 2 ^ 9 := Nat.pow_le_pow_right (by decide) hp
  have pw0 : 0 < 2 ^ p := Nat.pow_pos (by decide)
  have M0 : 64 ≤ M := by omega
  have M1 : M ≤ 32768 := by omega
  have aN : a ≠ 64 * (2 * M) + 42 ∧ a ≠ 64 * (2 * M) + 43 ∧ a ≠ 64 * (2 * (2 * M)) + 44 := by omega
  have bN : b ≠ 64 * (2 * M) + 42 ∧ b ≠ 64 * (2 * M) + 43 ∧ b ≠ 64 * (2 * (2 * M)) + 44 := by omega
  obtain ⟨f1, f2, f3⟩ := P3 (2 * M) (by omega)
  have f4 := (P3 (2 * (2 * M)) (by omega)).2.2 (by omega)
  have e1 := c_cpL (c0 := c0) (s0 := s0) ka na (by omega) (by omega) f1 aN.1
  have d2 : (2 : Int32) * nI M = nI (2 * M) := i_mul 2 M
  have d4 : (2 : Int32) * nI (2 * M) = nI (2 * (2 * M)) := i_mul 2 (2 * M)
  have c4 := i_cl (show 2 * (2 * M) < 2 ^ 31 by omega)
  obtain ⟨Y, eY⟩ : ∃ Y, Y = s_P (s_cpL (s_new X (64 * (2 * M) + 42) 101 (2 * M)) a (64 * (2 * M) + 42) 0 0 M) 17 4 (64 * (2 * M) + 42) := ⟨_, rfl⟩
  have Yk : ∀ u, u ≠ 64 * (2 * M) + 42 → y_K Y u = y_K X u ∧ y_N Y u = y_N X u := fun u hu => by
    rw [eY, e_KP, e_NP, e_KcL, e_NcL, e_Kn hu, e_Nn hu]
    exact ⟨rfl, rfl⟩
  have Yp : y_P Y 17 5 = b := by
    rw [eY, e_PPk (by omega), e_PcL, e_Pn (by omega)]
    exact p5
  have e2 := c_cpI (X := Y) (c0 := c0 + 1) (s0 := s0 + 2 * M) ((Yk b bN.1).1.trans kb) ((Yk b bN.1).2.trans nb) (by omega) (by omega) ((Yk _ (by omega)).1.trans f2) bN.2.1
  obtain ⟨Z, eZ⟩ : ∃ Z, Z = s_P (s_cpI (s_new Y (64 * (2 * M) + 43) 100 (2 * M)) b (64 * (2 * M) + 43) 0 0 M) 17 5 (64 * (2 * M) + 43) := ⟨_, rfl⟩
  have Zk : ∀ u, u ≠ 64 * (2 * M) + 42 → u ≠ 64 * (2 * M) + 43 → y_K Z u = y_K X u := fun u h1 h2 => by
    rw [eZ, e_KP, e_KcI, e_Kn h2]
    exact (Yk u h1).1
  obtain ⟨W, eW⟩ : ∃ W, W = s_P (s_new Z (64 * (2 * (2 * M)) + 44) 100 (2 * (2 * M))) 17 6 (64 * (2 * (2 * M)) + 44) := ⟨_, rfl⟩
  have Wg : W = grX X a b M := by rw [eW, eZ, eY]; rfl
  have gW : ag PS9 QS9 X W := by rw [Wg]; exact grX_ag
  have Wk : ∀ u, u ≠ 64 * (2 * M) + 42 → u ≠ 64 * (2 * M) + 43 → u ≠ 64 * (2 * (2 * M)) + 44 → y_K W u = y_K X u := fun u h1 h2 h3 => by
    rw [eW, e_KP, e_Kn h3]
    exact Zk u h1 h2
  have w7 : y_K W 17 = 7 := (Wk 17 (by omega) (by omega) (by omega)).trans k7
  have WI : ∀ k, y_I W 17 k = y_I X 17 k := fun k => by
    rw [eW, e_IP, e_In (by omega), eZ, e_IP, e_IIo (by omega), e_In (by omega), eY, e_IP, e_IcL, e_In (by omega)]
  have WB : y_B W 17 9 = y_B X 17 9 := by
    rw [eW, e_BP, e_Bn (by omega), eZ, e_BP, e_BcI, e_Bn (by omega), eY, e_BP, e_BcL, e_Bn (by omega)]
  have WS : CSh W (64 * (2 * M) + 42) (64 * (2 * M) + 43) (64 * (2 * (2 * M)) + 44) (2 * M) := by
    have nn : ∀ u, u ≠ 64 * (2 * M) + 42 → u ≠ 64 * (2 * M) + 43 → u ≠ 64 * (2 * (2 * M)) + 44 → y_N W u = y_N X u := fun u h1 h2 h3 => by
      rw [eW, e_NP, e_Nn h3, eZ, e_NP, e_NcI, e_Nn h2]
      exact (Yk u h1).2
    have pp : ∀ k, k ≠ 4 → k ≠ 5 → k ≠ 6 → y_P W 17 k = y_P X 17 k := fun k h1 h2 h3 => by
      rw [eW, e_PPk h3, e_Pn (by omega), eZ, e_PPk h2, e_PcI, e_Pn (by omega), eY, e_PPk h1, e_PcL, e_Pn (by omega)]
    refine ⟨w7, ⟨(pp 0 (by omega) (by omega) (by omega)).trans p0, (Wk 41 (by omega) (by omega) (by omega)).trans k0, (nn 41 (by omega) (by omega) (by omega)).trans n0⟩, ⟨(pp 1 (by omega) (by omega) (by omega)).trans p1, (Wk 105 (by omega) (by omega) (by omega)).trans k1, (nn 105 (by omega) (by omega) (by omega)).trans n1⟩, ⟨?_, ?_, ?_⟩, ⟨?_, ?_, ?_⟩, ⟨?_, ?_, ?_⟩, by omega, by omega, by omega⟩
    · rw [eW, e_PPk (by omega), e_Pn (by omega), eZ, e_PPk (by omega), e_PcI, e_Pn (by omega), eY, e_PPs]
    · rw [eW, e_KP, e_Kn (by omega), eZ, e_KP, e_KcI, e_Kn (by omega), eY, e_KP, e_KcL, e_Ks]
    · rw [eW, e_NP, e_Nn (by omega), eZ, e_NP, e_NcI, e_Nn (by omega), eY, e_NP, e_NcL, e_Ns]
    · rw [eW, e_PPk (by omega), e_Pn (by omega), eZ, e_PPs]
    · rw [eW, e_KP, e_Kn (by omega), eZ, e_KP, e_KcI, e_Ks]
    · rw [eW, e_NP, e_Nn (by omega), eZ, e_NP, e_NcI, e_Ns]
    · rw [eW, e_PPs]
    · rw [eW, e_KP, e_Ks]
    · rw [eW, e_NP, e_Ns]
  have WL : ∀ k, k < N → y_L W (64 * (2 * M) + 42) k = lg (cE y (st k)) := fun k hk => by
    rw [eW, e_LP, e_Ln (by omega), eZ, e_LP, e_LcI, e_Ln (by omega), eY, e_LP, e_LLcc (by omega), e_Ln aN.1]
    exact (m2 k hk).1
  have Wb : ∀ k, k < N → y_I W (64 * (2 * M) + 43) k = y_I X b k := fun k hk => by
    rw [eW, e_IP, e_In (by omega), eZ, e_IP, e_IIcc (by omega), e_In bN.2.1, eY, e_IP, e_IcL, e_In bN.1]
  have Wc : ∀ k, y_I W (64 * (2 * (2 * M)) + 44) k = 0 := fun k => by
    rw [eW, e_IP, e_Is]
  have PW : Cp W (p + 1) (64 * (2 * M) + 42) (64 * (2 * M) + 43) (64 * (2 * (2 * M)) + 44) (2 * M) := by
    refine ⟨by rw [Nat.pow_succ]; omega, Or.inr ⟨by omega, rfl, rfl, rfl⟩, fun m hm => ?_⟩
    obtain ⟨q1, q2, q3⟩ := P3 m (by omega)
    refine ⟨?_, ?_, fun hm2 => ?_⟩
    · rw [Wk _ (by omega) (by omega) (by omega)]; exact q1
    · rw [Wk _ (by omega) (by omega) (by omega)]; exact q2
    · rw [Wk _ (by omega) (by omega) (by omega)]; exact q3 (by omega)
  have abc' : abc (64 * (2 * M) + 42) (64 * (2 * M) + 43) (64 * (2 * (2 * M)) + 44) := by
    unfold abc
    omega
  have hβ : 2 * (2 * M) = 2 ^ (p + 8) := by
    rw [show p + 8 = p + 2 + 6 by omega, Nat.pow_add, Nat.pow_add]
    omega
  suffices H : wp (f_X6_grow 17 c0 s0 X) fun r X2 => r = ((), c0 + 3, s0 + 8 * M) ∧ ag (fun u _ => u = 64 * (2 * (2 * M)) + 44) (fun _ => False) W X2 ∧ HT (y_I X2 (64 * (2 * (2 * M)) + 44)) (2 * (2 * M)) N (fun k => cE y (st k)) (ch (2 * (2 * M))) by
    obtain ⟨r, X2, q1, q2, q3, q4⟩ := H
    have KX : ∀ u, y_K X2 u = y_K W u := fun u => q3.K (fun z => z)
    have NX : ∀ u, y_N X2 u = y_N W u := fun u => q3.N (fun z => z)
    have PX : ∀ k, y_P X2 17 k = y_P W 17 k := fun k => q3.P (by omega)
    have IX : ∀ k, y_I X2 17 k = y_I X 17 k := fun k => (q3.I (by omega)).trans (WI k)
    refine ⟨X2, by rw [q1, q2], ⟨⟨?_, abc'⟩, ag.refl _ _ _, (IX 7).trans m1, fun k hk => ⟨?_, (m2 k hk).2⟩, fun k h0 hk => ?_, q4⟩, PW.K KX, IX, (q3.B (by omega)).trans WB, ?_⟩
    · unfold CSh at WS ⊢
      simp only [KX, NX, PX]
      exact WS
    · rw [q3.L (by omega)]
      exact WL k hk
    · obtain ⟨q, μ, z1, z2, z3, z4⟩ := m3 k h0 hk
      exact ⟨q, μ, z1, z2, z3, by rw [q3.I (by omega), Wb k hk]; exact z4⟩
    · exact gW.trans (q3.mono (fun u k z => by rw [z]; unfold PS9; omega) (fun _ z => z.elim))
  have g1 : ¬ nI (2 * (2 * M)) < 0 := nI_pos (by omega)
  have mb : 2 * (2 * M) * componentBytes (t_ay 0) ≤ 536870912 := by
    have : componentBytes (t_ay 0) = 4 := by decide
    rw [this]
    omega
  unfold f_X6_grow
  rw [p4, na, d2, d4, c4]
  refine wp_g k7 (wp_g ka (wp_g k7 (wp_ce e1 (wp_g (by rw [e_KcL, e_Kn (by omega)]; exact k7) (wp_bd ?_)))))
  dsimp only
  rw [← eY]
  refine wp_g ((Yk 17 (by omega)).1.trans k7) (wp_ce (by rw [Yp]; exact e2) (wp_g (by rw [e_KcI, e_Kn (by omega)]; exact (Yk 17 (by omega)).1.trans k7) (wp_bd ?_)))
  dsimp only
  rw [← eZ]
  refine wp_g ⟨by omega, (Zk _ (by omega) (by omega)).trans f4, g1, mb⟩ (wp_bd (wp_g (by rw [e_Kn (by omega)]; exact (Zk _ (by omega) (by omega)).trans k7) (wp_bd ?_)))
  rw [← eW]
  refine wp_jl (fun q j => ∀ k X, k ≤ N → N - k < q → ag (fun u _ => u = 64 * (2 * (2 * M)) + 44) (fun _ => False) W X → HT (y_I X (64 * (2 * (2 * M)) + 44)) (2 * (2 * M)) k (fun k => cE y (st k)) (ch (2 * (2 * M))) → wp (j 17 (nI k) (c0 + 3) (s0 + 8 * M) X) fun r X2 => r = ((), c0 + 3, s0 + 8 * M) ∧ ag (fun u _ => u = 64 * (2 * (2 * M)) + 44) (fun _ => False) W X2 ∧ HT (y_I X2 (64 * (2 * (2 * M)) + 44)) (2 * (2 * M)) N (fun k => cE y (st k)) (ch (2 * (2 * M)))) (fun k X _ hm => absurd hm (by omega)) (fun q j IH k X hk hq g T => ?_) (fun j IH => ?_)
  rotate_left
  · have z := IH 0 W (by omega) (by unfold y_fu; omega) (ag.refl _ _ _) (HT.emp fun x _ => Wc x)
    rw [show c0 + 3 = c0 + 1 + 1 + 1 by omega, show s0 + 8 * M = s0 + 2 * M + 2 * M + 2 * (2 * M) by omega] at z
    rw [show c0 + 3 = c0 + 1 + 1 + 1 by omega, show s0 + 8 * M = s0 + 2 * M + 2 * M + 2 * (2 * M) by omega]
    exact z
  have KX : ∀ u, y_K X u = y_K W u := fun u => g.K (fun z => z)
  have NX : ∀ u, y_N X u = y_N W u := fun u => g.N (fun z => z)
  have PX : ∀ k, y_P X 17 k = y_P W 17 k := fun k => g.P (by omega)
  have SX : CSh X (64 * (2 * M) + 42) (64 * (2 * M) + 43) (64 * (2 * (2 * M)) + 44) (2 * M) := by
    unfold CSh at WS ⊢
    simp only [KX, NX, PX]
    exact WS
  obtain ⟨x7, -, -, ⟨r4, ra, rna⟩, -, ⟨r6, rc, rnc⟩, -⟩ := id SX
  have i7 : y_I X 17 7 = nI N := ((g.I (by omega)).trans (WI 7)).trans m1
  refine wp_g x7 ?_
  by_cases ke : k = N
  · refine wp_pos (by rw [i7]; exact nI_le (by omega) (by omega)) (wp_some.mpr ⟨rfl, g, ?_⟩)
    rw [ke] at T
    exact T
  have xk := i_ix (show k < 2 * M by omega) (by omega)
  have ck := i_cl (show k < 2 ^ 31 by omega)
  have Lk : ∀ v, v < N → y_L X (64 * (2 * M) + 42) v = lg (cE y (st v)) := fun v hv => (g.L (by omega)).trans (WL v hv)
  have lt63 : ∀ v, v < N → cE y (st v) < 2 ^ 63 := fun v hv => cenc_lt (m2 v hv).2.1.1 (m2 v hv).2.2
  obtain ⟨v, es, hv, hz, hq2⟩ := c_slot (e := cE y (st k)) SX hβ (by omega) T (by omega) (by omega) (fun v hv => ⟨Lk v (by omega), lt63 v (by omega)⟩) (lt63 k (by omega))
  obtain ⟨x, hx⟩ : ∃ x, x = (ch (2 * (2 * M)) (cE y (st k)) + v) % (2 * (2 * M)) := ⟨_, rfl⟩
  have xl : x < 2 * (2 * M) := by rw [hx]; exact Nat.mod_lt _ (by omega)
  have hz0 : y_I X (64 * (2 * (2 * M)) + 44) ((ch (2 * (2 * M)) (cE y (st k)) + v) % (2 * (2 * M))) = 0 := by
    rcases hz with z | ⟨w, hw, -, z2⟩
    · exact z
    · exact absurd (cE_inj (m2 w (by omega)).2.1 (m2 k (by omega)).2.1 z2) (nd w k hw (by omega))
  rw [← hx] at es
  have xx := i_ix xl (by omega)
  have cx := i_cl (show x < 2 ^ 31 by omega)
  refine wp_neg (by rw [i7]; exact nI_ge (by omega) (by omega)) (wp_g x7 (wp_g x7 (wp_g (by rw [r4, ra, rna]; exact ⟨rfl, xk⟩) (wp_g x7 (wp_ce (h := X) (r := nI x) (by rw [r4, ck, Lk k (by omega)]; exact es) (wp_g (by rw [r6, rc, rnc]; exact ⟨rfl, xx⟩) (wp_bd ?_)))))))
  rw [r6, cx, nI_1]
  refine IH (k + 1) _ (by omega) (by omega) (ag.sI g rfl) ?_
  refine T.ins (e := cE y (st k)) (i := v) (by omega) (by omega) hv hz0 hq2 ?_ (fun u hu => ?_) rfl (fun _ _ => rfl)
  · rw [← hx, e_IIs]
  · rw [← hx] at hu
    rw [e_IIk hu]
end LTF
