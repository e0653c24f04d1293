/-! least: the class sweeps -/
section LTG
variable {C D C0 A : Cg} {X X0 X2 XX : y_H} {y : Sy} {s t d k n e N i j f g a b c M β bd x p c0 s0 v : Nat} {l : List Nat} {st : Nat → Cg} {row : Nat → Nat} {E : Nat → Nat}
theorem c_fillB {h : y_H} {p n : Nat} {v : Int32} (hK : y_K h p = 100) (hN : y_N h p = n) (hn : n ≤ 1048576) : wp (f_J7_fill_53178 p v h) fun _ h' => ag (fun a _ => a = p) (fun _ => False) h h' ∧ ∀ k, k < n → y_I h' p k = v := by
  unfold f_J7_fill_53178
  simp only [hK, if_true, hN]
  refine wp_jl (fun m j => ∀ i h1, i ≤ n → n - i < m → ag (fun a _ => a = p) (fun _ => False) h h1 → (∀ k, k < i → y_I h1 p k = v) → wp (j p v (nI i) (nI n) h1) fun _ h' => ag (fun a _ => a = p) (fun _ => False) h h' ∧ ∀ k, k < n → y_I h' p k = v) (fun i _ _ hm => absurd hm (by omega)) (fun m j IH i h1 hi hm g l => ?_) (fun j IH => ?_)
  · have k1 : y_K h1 p = 100 := (g.K (fun q => q)).trans hK
    have n1 : y_N h1 p = n := (g.N (fun q => q)).trans hN
    by_cases e : i = n
    · subst e
      have q : nI i ≤ nI i := nI_le (Nat.le_refl _) (by omega)
      simp only [q, if_true, wp_some]
      exact ⟨g, l⟩
    · have q : ¬ nI n ≤ nI i := nI_ge (by omega) (by omega)
      have hx := i_ix (show i < n by omega) (by omega)
      have hcl := i_cl (show i < 2 ^ 31 by omega)
      simp only [q, if_false, k1, n1, hx, hcl, and_self, if_true, e_bd, nI_1]
      refine IH (i + 1) _ (by omega) (by omega) (g.sI rfl) (fun k hk => ?_)
      by_cases ek : k = i
      · subst ek
        exact e_IIs
      · rw [e_IIk ek]
        exact l k (by omega)
  · exact IH 0 h (by omega) (by unfold y_fu; omega) (ag.refl _ _ _) (fun k hk => absurd hk (by omega))
theorem rest_le (hv : v < 1000) (hb : bd < 2 ^ 22) (hd : d < 2 ^ 20) : (nI v ≤ nI bd - nI d - 1) = (v + (d + 1) ≤ bd) := by
  have ti : ∀ n, n < 2 ^ 30 → (nI n).toInt = (n : Int) := fun n hn => Int32.toInt_ofNat_of_lt (by omega)
  have e : (nI bd - nI d - 1).toInt = (bd : Int) - d - 1 := by
    rw [show (1 : Int32) = nI 1 from rfl, Int32.toInt_sub, Int32.toInt_sub, ti bd (by omega), ti d (by omega), ti 1 (by omega)]
    have z : ∀ q : Int, -(2 ^ 31) ≤ q → q < 2 ^ 31 → q.bmod (2 ^ 32) = q := fun q h1 h2 => Int.bmod_eq_of_le (by omega) (by omega)
    rw [z ((bd : Int) - d) (by omega) (by omega), z _ (by omega) (by omega)]
    rfl
  refine propext ?_
  rw [Int32.le_iff_toInt_le, e, ti v (by omega)]
  omega
theorem lbC_1000 (O : OkS y) (hD : wr D) : lbC y.cl D < 1000 := by
  unfold lbC s4
  have hW := O.2.1
  have c0 := cn6_le (D 0)
  have c1 := cn6_le (D 1)
  have c2 := cn6_le (D 2)
  have c3 := cn6_le (D 3)
  have d0 := (hD.1 0).1
  have d1 := (hD.1 1).1
  have d2 := (hD.1 2).1
  have d3 := (hD.1 3).1
  have : y.cl.W = y.W := rfl
  dsimp only
  omega
theorem CSt.re (S : CSt y X0 X a b c M N st row) : CSt y X X a b c M N st row := ⟨S.1, ag.refl _ _ _, S.2.2⟩
theorem CI.re (I : CI y C0 bd X0 X a b c M N st row i j) : CI y C0 bd X X a b c M N st row i j := ⟨I.1, I.2.1.re, I.2.2⟩
theorem CG.re {L : Nat} (h : CG y C0 L X0 X a b c M) : CG y C0 L X X a b c M := by
  obtain ⟨N, st, row, S, q⟩ := h
  exact ⟨N, st, row, S.re, q⟩
/-- there is no way at all -/
def noway (y : Sy) (C0 : Cg) : Prop := ∀ e2 D2, Rn y.cl.step (mpd y C0) e2 D2 → y.cl.out D2 ≠ y.W
theorem CI.ln (I : CI y C0 bd X0 X a b c M N st row i j) : ∀ k, k < N → ln (row k) ≤ k := by
  intro k
  induction k using Nat.strongRecOn with
  | ind k ih =>
    intro hk
    by_cases z : k = 0
    · rw [z, I.1.b0.2.2]
      exact Nat.le_refl _
    · obtain ⟨q, μ, h1, h2, h3, -⟩ := I.2.1.2.2.2.2.1 k (by omega) hk
      rw [h3, ln_s h2]
      have := ih q h1 (by omega)
      omega
theorem CI.none (O : OkS y) (r0 : RI y C0) (I : CI y C0 bd X0 X a b c M N st row N 0) (h : y_B X 17 9 = false ∨ 70000 ≤ bd) : noway y C0 := by
  have B : BI y.cl.step (fun _ _ => True) (mpd y C0) N st row N 0 := by
    rcases h with h | h
    · exact I.2.2.1 h
    · have cn := I.1.cntc O r0
      refine ⟨I.1.b0, I.1.b1, I.1.b2, fun k hk hkn m t hm e _ => I.1.b3 k hk hkn m t hm e ?_, fun hN => absurd hN (by omega), fun hN => absurd hN (by omega)⟩
      obtain ⟨A, ra, eA⟩ := Rn.pm (dg_q O) (I.1.b1 k hk)
      have rA : RI y A := r0.rn O ra
      have e' : y.cl.go (mpd y A) (m / 8) (m % 8) = some t := by
        have : st k = mpd y A := eA
        rw [← this]
        exact e
      obtain ⟨A2, r2, d2, -⟩ := cl_go O rA e'
      have lb := lbC_1000 (D := t) O (by rw [d2]; exact (mpd_wr O r2).1)
      have l2 := I.ln k hk
      rw [ln_s hm]
      omega
  exact BI.none (y := y.cl) B (by omega) (Nat.le_refl _) I.2.2.2.1
/-- the first state -/
theorem c_first (S : CSh X a b c M) (ab : abc a b c) (hβ : 2 * M = 2 ^ β) (hb : β ≤ 20) (h0 : 0 < M) (h7 : y_I X 17 7 = 0) (T : ∀ x, x < 2 * M → y_I X c x = 0) (wD : wr D) (hO : y.cl.out D ≤ 5) : ∃ x X2, f_X6_slotOf 17 (lg (cE y D)) X = some (nI x, X) ∧ f_X6_keep 17 (lg (cE y D)) 0 (nI x) X = some (true, X2) ∧ CSt y X2 X2 a b c M 1 (fun _ => D) (fun _ => 0) ∧ (∀ k, k ≠ 7 → y_I X2 17 k = y_I X 17 k) ∧ y_B X2 = y_B X ∧ (∀ u, y_K X2 u = y_K X u) ∧ ag PS9 (fun _ => False) X X2 := by
  have M20 : 2 * M ≤ 2 ^ 20 := by rw [hβ]; exact Nat.pow_le_pow_right (by decide) hb
  have H : HT (y_I X c) (2 * M) 0 (fun _ => cE y D) (ch (2 * M)) := HT.emp T
  have el : cE y D < 2 ^ 63 := cenc_lt wD.1 hO
  obtain ⟨q, es, hq, hz, hp⟩ := c_slot (e := cE y D) S hβ hb H (by omega) h0 (fun k hk => absurd hk (by omega)) el
  obtain ⟨x, hx⟩ : ∃ x, x = (ch (2 * M) (cE y D) + q) % (2 * M) := ⟨_, rfl⟩
  have xl : x < 2 * M := by rw [hx]; exact Nat.mod_lt _ (by omega)
  have ek := c_keep (e := cE y D) (v := 0) (N := 0) S h7 h0 (by omega) xl
  have bc := S.2.2.2.2.2.2
  rw [← hx] at es
  have ab' := ab
  unfold abc at ab'
  have g0 : ag PS9 (fun _ => False) X (s_I (s_I (s_I (s_L X a 0 (lg (cE y D))) b 0 0) 17 7 (nI (0 + 1))) c x (nI (0 + 1))) := ag.sI (ag.sI (ag.sI (ag.sL (ag.refl _ _ _) (by unfold PS9; omega)) (by unfold PS9; omega)) (by unfold PS9; omega)) (by unfold PS9; omega)
  refine ⟨x, _, es, ek, ⟨⟨S, ab⟩, ag.refl _ _ _, ?_, fun k hk => ⟨?_, wD, hO⟩, fun k h1 h2 => absurd h2 (by omega), ?_⟩, fun k hk => ?_, rfl, fun u => rfl, g0⟩
  · rw [e_IIn (by omega), e_IIs]
  · rw [show k = 0 by omega]
    simp (disch := omega) only [e_KI, e_NI, e_BI, e_LI, e_PI, e_KB, e_NB, e_IB, e_LB, e_PB, e_KL, e_NL, e_IL, e_BL, e_PL, e_KP, e_NP, e_IP, e_BP, e_LP, e_IIs, e_BBs, e_LLs, e_PPs, e_IIn, e_BBn, e_LLn, e_PPn, e_IIk, e_BBk, e_LLk, e_PPk]
  · refine H.ins (e := cE y D) (i := q) (by omega) (by omega) hq ?_ hp ?_ (fun u hu => ?_) rfl (fun _ _ => rfl)
    · rw [← hx]; exact T x xl
    · rw [← hx, e_IIs]
    · rw [← hx] at hu
      rw [e_IIk hu, e_IIn (by omega), e_IIn (by omega), e_IL]
  · rw [e_IIn (by omega), e_IIk hk, e_IIn (by omega), e_IL]
/-- the tables of a search, and what was made for them since M0 -/
def TB (M0 c0 s0 : Nat) (XX X : y_H) (a b c M p c1 s1 : Nat) : Prop := Cp X p a b c M ∧ p ≤ 11 ∧ M0 ≤ M ∧ c1 ≤ c0 + (M - M0) ∧ s1 ≤ s0 + 8 * (M - M0) ∧ ag PS9 QS9 XX X
theorem TB.mv {M0 c1 s1 : Nat} (T : TB M0 c0 s0 XX X a b c M p c1 s1) (g : ag PS9 (fun _ => False) X X2) : TB M0 c0 s0 XX X2 a b c M p c1 s1 := ⟨T.1.K (fun u => g.K (fun z => z)), T.2.1, T.2.2.1, T.2.2.2.1, T.2.2.2.2.1, T.2.2.2.2.2.trans (g.mono (fun _ _ z => z) (fun _ z => z.elim))⟩
/-- the end of a sweep -/
def SE (y : Sy) (C0 : Cg) (bd : Nat) (M0 c0 s0 : Nat) (XX : y_H) (r : Int32 × Nat × Nat) (X : y_H) : Prop := ∃ a b c M p, TB M0 c0 s0 XX X a b c M p r.2.1 r.2.2 ∧ (CSh X a b c M ∧ abc a b c) ∧ ((∃ L, r.1 = nI L ∧ CG y C0 L X X a b c M) ∨ (r.1 = -9 ∧ (y_B X 17 9 = false ∨ 70000 ≤ bd → noway y C0)))
theorem c_sweep {M0 : Nat} (O : OkS y) (r0 : RI y C0) (hW0 : y.out C0 ≠ y.W) (hbd : bd < 2 ^ 22) (S : CSh XX a b c M0) (ab : abc a b c) (P : Cp XX p a b c M0) (hp : p ≤ 11) (e2 : y_I XX 17 2 = nI y.m) (e3 : y_I XX 17 3 = nI y.W) (e4 : ∀ s, s < y.m → y_I XX 41 s = nI (y.H s)) : wp (f_X6_sweep 17 (lg (cE y (mpd y C0))) (nI bd) c0 s0 XX) (SE y C0 bd M0 c0 s0 XX) := by
  have hm := O.1
  have hW := O.2.1
  obtain ⟨w0, z0⟩ := mpd_wr O r0
  have o0 : y.cl.out (mpd y C0) = y.out C0 := cl_out C0
  have oW := r0.1
  have pw : 2 ^ p ≤ 2 ^ 11 := Nat.pow_le_pow_right (by decide) hp
  have pw0 : 0 < 2 ^ p := Nat.pow_pos (by decide)
  have M00 := P.1
  have pow2 : ∀ {p M}, M = 64 * 2 ^ p → 2 * M = 2 ^ (p + 7) := fun {p M} e => by
    rw [Nat.pow_add, e]
    omega
  have hβ := pow2 P.1
  obtain ⟨k7, -, -, ⟨p4, ka, na⟩, -, ⟨p6, kc, nc⟩, bc, -, ⟨c17, c41, c105⟩⟩ := id S
  unfold f_X6_sweep
  refine wp_g k7 (wp_call (c_fillB (p := y_P XX 17 6) (v := 0) (n := 2 * M0) (by rw [p6]; exact kc) (by rw [p6]; exact nc) (by omega)) (fun _ X1 q => ?_))
  rw [p6] at q
  obtain ⟨g1, t1⟩ := q
  have ab' := ab
  unfold abc at ab'
  have k71 : y_K X1 17 = 7 := (g1.K (fun z => z)).trans k7
  obtain ⟨Y, eY⟩ : ∃ Y, Y = s_I (s_B (s_I X1 17 7 0) 17 9 false) 17 8 (-9) := ⟨_, rfl⟩
  have gY : ag PS9 (fun _ => False) XX Y := by
    rw [eY]
    exact ag.sI (ag.sB (ag.sI (g1.mono (fun u k z => by rw [z]; unfold PS9; omega) (fun _ z => z)) (by unfold PS9; omega)) (by unfold PS9; omega)) (by unfold PS9; omega)
  have SY : CSh Y a b c M0 := by
    have K : ∀ u, y_K Y u = y_K XX u := fun u => gY.K (fun z => z)
    have NN : ∀ u, y_N Y u = y_N XX u := fun u => gY.N (fun z => z)
    have PP : ∀ k, y_P Y 17 k = y_P XX 17 k := fun k => by
      rw [eY, e_PI, e_PB, e_PI]
      exact g1.P (by omega)
    unfold CSh at S ⊢
    simp only [K, NN, PP]
    exact S
  have y7 : y_I Y 17 7 = 0 := by rw [eY, e_IIk (by omega), e_IB, e_IIs]
  have y8 : y_I Y 17 8 = -9 := by rw [eY, e_IIs]
  have y9 : y_B Y 17 9 = false := by rw [eY, e_BI, e_BBs]
  have yc : ∀ x, x < 2 * M0 → y_I Y c x = 0 := fun x hx => by
    rw [eY, e_IIn (by omega), e_IB, e_IIn (by omega)]
    exact t1 x hx
  obtain ⟨x, X2, f1, f2, S2, i2, b2, kk2, g2⟩ := c_first (y := y) SY ab hβ (by omega) (by omega) y7 yc w0 (by omega)
  refine wp_g k71 (wp_bd (wp_g k71 (wp_bd (wp_g k71 (wp_bd ?_)))))
  rw [← eY]
  have kY : y_K Y 17 = 7 := SY.1
  have k72 : y_K X2 17 = 7 := (kk2 17).trans kY
  refine wp_g kY (wp_ce f1 (wp_g kY (wp_ce f2 (wp_g k72 ?_))))
  have I2 : CI y C0 bd X2 X2 a b c M0 1 (fun _ => mpd y C0) (fun _ => 0) 0 0 := ⟨BI.start, S2, fun _ => BI.start, fun k _ => by rw [o0]; exact hW0, (i2 8 (by omega)).trans y8⟩
  have gX2 : ag PS9 (fun _ => False) XX X2 := gY.trans g2
  have T2 : TB M0 c0 s0 XX X2 a b c M0 p c0 s0 := TB.mv ⟨P, hp, Nat.le_refl _, by omega, by omega, ag.refl _ _ _⟩ gX2
  have s7 : y_I X2 17 7 = nI 1 := S2.2.2.1
  rw [s7]
  refine wp_jl (fun q j => ∀ i d E X c1 s1, 65400 - i < q → i ≤ 65306 → ((∃ a b c M p N st row, CI y C0 bd X X a b c M N st row i 0 ∧ TB M0 c0 s0 XX X a b c M p c1 s1 ∧ N ≤ M ∧ (d + 1 ≤ E ∧ i ≤ E ∧ E ≤ N) ∧ (∀ k, i ≤ k → k < E → ln (row k) = d) ∧ ∀ k, E ≤ k → k < N → ln (row k) = d + 1) ∨ ∃ a b c M p, CG y C0 (d + 1) X X a b c M ∧ TB M0 c0 s0 XX X a b c M p c1 s1) → wp (j 17 (nI bd) (nI d) (nI E) (nI i) c1 s1 X) (SE y C0 bd M0 c0 s0 XX)) (fun i _ _ _ _ _ hm => absurd hm (by omega)) (fun q j IH i d E X c1 s1 hq hi J => ?_) (fun j IH => ?_)
  rotate_left
  · refine IH 0 0 1 X2 c0 s0 (by unfold y_fu; omega) (by omega) (Or.inl ⟨a, b, c, M0, p, 1, _, _, I2, T2, by omega, by omega, fun k h1 h2 => ln_0, fun k h1 h2 => by omega⟩)
  clear I2 T2 gX2 S2 SY gY g1 g2 f1 f2 t1 yc i2 b2 kk2 s7 y7 y8 y9 k72 kY k71 eY S P ab ab' k7 p4 ka na p6 kc nc bc c17 c41 c105 hp pw pw0 M00 hβ
  refine wp_jn (wp_neg (nI_ge (b := 1048576) (by omega) (by omega)) ?_)
  rcases J with ⟨a, b, c, M, p, N, st, row, I, T, nM, hE, l1, l2⟩ | ⟨a, b, c, M, p, G, T⟩
  rotate_left
  · obtain ⟨SX, -, g8⟩ := G.S
    have ab : abc a b c := by
      obtain ⟨_, _, _, z, -⟩ := G
      exact z.1.2
    have fin : wp (some ((nI d + 1, c1, s1), X)) (SE y C0 bd M0 c0 s0 XX) := wp_some.mpr ⟨a, b, c, M, p, T, ⟨SX, ab⟩, Or.inl ⟨d + 1, nI_1 d, G⟩⟩
    refine wp_g SX.1 ?_
    by_cases hh : y_I X 17 7 ≤ nI i
    · exact wp_pos hh (wp_g SX.1 (wp_pos g8 fin))
    · exact wp_neg hh (wp_g SX.1 (wp_pos g8 (wp_g SX.1 (wp_pos g8 fin))))
  obtain ⟨SX, ab⟩ := I.2.1.1
  have k7 := SX.1
  have s7 : y_I X 17 7 = nI N := I.2.1.2.2.1
  have s8 : ¬ (0 : Int32) ≤ y_I X 17 8 := by rw [I.2.2.2.2]; decide
  have cn := I.1.cntc O r0
  refine wp_g k7 ?_
  by_cases iN : i = N
  · refine wp_pos (by rw [s7]; exact nI_le (by omega) (by omega)) (wp_g k7 (wp_neg s8 (wp_some.mpr ⟨a, b, c, M, p, T, ⟨SX, ab⟩, Or.inr ⟨rfl, fun hh => ?_⟩⟩)))
    rw [iN] at I
    exact I.none O r0 hh
  refine wp_neg (by rw [s7]; exact nI_ge (by omega) (by omega)) (wp_g k7 (wp_neg s8 ?_))
  refine wp_jc (fun jj Q => ∀ d E, (d + 1 ≤ E ∧ i < E ∧ E ≤ N) → (∀ k, i ≤ k → k < E → ln (row k) = d) → (∀ k, E ≤ k → k < N → ln (row k) = d + 1) → wp (jj 17 (nI bd) (nI d) (nI E) (nI i) c1 s1 X) Q) (fun d E hE l1 l2 => ?_) (fun j87 h87 => ?_)
  rotate_left
  · by_cases ie : i = E
    · refine wp_pos (by rw [ie]) (wp_g k7 ?_)
      rw [nI_1, s7]
      exact h87 (d + 1) N (by omega) (fun k h1 h2 => l2 k (by omega) h2) (fun k h1 h2 => absurd h2 (by omega))
    · refine wp_neg (by rw [i_eq (by omega)]; exact ie) (h87 d E (by omega) l1 l2)
  have hd := l1 i (by omega) (by omega)
  refine wp_g k7 (wp_g k7 (wp_g (by rw [SX.2.2.2.1.1]; exact SX.2.2.2.1.2.1) ?_))
  refine wp_jc (fun jj Q => ∀ X a b c M p c1 s1, CI y C0 bd X X a b c M N st row i 0 → TB M0 c0 s0 XX X a b c M p c1 s1 → N + 13 ≤ M → wp (jj 17 (nI bd) (nI d) (nI E) (nI i) c1 s1 X) Q) (fun X a b c M p c1 s1 I T hN => ?_) (fun j106 h106 => ?_)
  · have gT := T.2.2.2.2.2
    have pp := T.2.1
    refine wp_g I.2.1.1.1.1 (wp_call (c_spread (rest := nI bd - nI d - 1) O r0 I (pow2 T.1.1) (by omega) (by omega) hN ((gT.I (by unfold PS9; omega)).trans e2) ((gT.I (by unfold PS9; omega)).trans e3) (fun s hs => (gT.I (by unfold PS9; omega)).trans (e4 s hs)) (fun v hv => by rw [hd]; exact rest_le hv hbd (by omega))) (fun _ X2 q => ?_))
    rw [nI_1]
    rcases q with ⟨N2, st2, row2, I2, hN2, q1, q2⟩ | q
    · have T2 := T.mv I2.2.1.2.1
      have e0 := q1 i (by omega)
      refine IH (i + 1) d E X2 c1 s1 (by omega) (by omega) (Or.inl ⟨a, b, c, M, p, N2, st2, row2, CI.re ⟨I2.1.next (by omega), I2.2.1, fun z => (I2.2.2.1 z).next (by omega), I2.2.2.2⟩, T2, by omega, by omega, fun k h1 h2 => ?_, fun k h1 h2 => ?_⟩)
      · rw [(q1 k (by omega)).2]
        exact l1 k (by omega) h2
      · by_cases kN : k < N
        · rw [(q1 k kN).2]
          exact l2 k h1 kN
        · have z1 := q2 k (by omega) h2
          have z2 := I2.1.b5 (by omega) k h2
          rw [e0.2] at z2
          have w1 := ln_mono (show 64 * row i + 0 + 1 ≤ row2 k by omega)
          have w2 := ln_mono (show row2 k ≤ 64 * row i + 63 + 1 by omega)
          rw [ln_s (m := 0) (by omega)] at w1
          rw [ln_s (m := 63) (by omega)] at w2
          omega
    · rw [hd] at q
      refine IH (i + 1) d E X2 c1 s1 (by omega) (by omega) (Or.inr ⟨a, b, c, M, p, q.re, T.mv q.S.2.1⟩)
  · rw [SX.2.2.2.1.1, SX.2.2.2.1.2.2, s7, show (13 : Int32) = nI 13 from rfl, i_add]
    have pw : 2 ^ p ≤ 2 ^ 11 := Nat.pow_le_pow_right (by decide) T.2.1
    have pw0 : 0 < 2 ^ p := Nat.pow_pos (by decide)
    have MM := T.1.1
    by_cases room : N + 13 ≤ M
    · exact wp_pos (nI_le room (by omega)) (h106 X a b c M p c1 s1 I T room)
    have p9 : p ≤ 9 := by
      by_cases z : p = 10
      · rw [z] at MM
        omega
      · by_cases z2 : p = 11
        · rw [z2] at MM
          omega
        · have := T.2.1
          omega
    obtain ⟨X2, eg, S2, P2, IX, BX, g⟩ := c_grow (c0 := c1) (s0 := s1) I.2.1 T.1 p9 nM (fun k l h1 h2 => (I.1.b2 k l h1 h2).2)
    refine wp_neg (nI_ge (by omega) (by omega)) (wp_g k7 (wp_ce eg (h106 X2 _ _ _ _ (p + 1) _ _ ⟨I.1, S2, fun z => I.2.2.1 (by rw [← BX]; exact z), I.2.2.2.1, (IX 8).trans I.2.2.2.2⟩ ⟨P2, by omega, by have := T.2.2.1; omega, ?_, ?_, T.2.2.2.2.2.trans g⟩ (by omega))))
    · have z1 := T.2.2.1
      have z2 := T.2.2.2.1
      show c1 + 3 ≤ _
      omega
    · have z1 := T.2.2.1
      have z2 := T.2.2.2.2.1
      show s1 + 8 * M ≤ _
      omega
end LTG
