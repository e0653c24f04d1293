/-! least: the class spreads a state, all of it -/
section LTE
variable {C D C0 A : Cg} {X X0 X2 : y_H} {y : Sy} {s t d k n e N i j f g a b c M β bd x B : Nat} {l : List Nat} {st : Nat → Cg} {row : Nat → Nat} {E : Nat → Nat}
def hT (C : Cg) (x f : Nat) : Prop := ∃ f' l', f' < f ∧ C f' = (x + 1) :: l'
theorem hT.up (h : hT C x f) : hT C x (f + 1) := by
  obtain ⟨f', l', w1, w2⟩ := h
  exact ⟨f', l', by omega, w2⟩
theorem CI.fr {u v : Nat} {x : Int32} (I : CI y C0 bd X0 X a b c M N st row i j) (h : u = 105) : CI y C0 bd X0 (s_I X u v x) a b c M N st row i j := by
  obtain ⟨B, S, T, ng, h8⟩ := I
  refine ⟨B, S.fr (Or.inl h), T, ng, ?_⟩
  rw [e_IIc (by omega)]; exact h8
theorem CI.skips (I : CI y C0 bd X0 X a b c M N st row i j) (q : Nat) (hj : j ≤ q) (h : ∀ m, j ≤ m → m < q → y.cl.step (st i) m = Option.none) : CI y C0 bd X0 X a b c M N st row i q := ⟨I.1.skips q hj h, I.2.1, fun z => (I.2.2.1 z).skips q hj h, I.2.2.2⟩
/-- the state i is being spread -/
def SI (y : Sy) (C0 : Cg) (bd : Nat) (X0 : y_H) (a b c M N : Nat) (st : Nat → Cg) (row : Nat → Nat) (i : Nat) (C : Cg) (j B : Nat) (X : y_H) : Prop := ∃ N' st' row', CI y C0 bd X0 X a b c M N' st' row' i j ∧ N ≤ N' ∧ N' ≤ B ∧ (∀ t, t < y.m → y_I X 105 t = nI (C t).length) ∧ (∀ k, k < N → st' k = st k ∧ row' k = row k) ∧ ∀ k, N ≤ k → k < N' → 64 * row i + 1 ≤ row' k
theorem CG.S {L : Nat} (h : CG y C0 L X0 X a b c M) : CSh X a b c M ∧ ag PS9 (fun _ => False) X0 X ∧ (0 : Int32) ≤ y_I X 17 8 := by
  obtain ⟨N, st, row, S, e, h0, h1, h2, h3, -⟩ := h
  exact ⟨S.1.1, S.2.1, by rw [e]; exact nI_le (a := 0) (by omega) (by omega)⟩
theorem SI.S (h : SI y C0 bd X0 a b c M N st row i C j B X) : CSh X a b c M ∧ ag PS9 (fun _ => False) X0 X ∧ ¬ (0 : Int32) ≤ y_I X 17 8 := by
  obtain ⟨N', st', row', I, -⟩ := h
  exact ⟨I.2.1.1.1, I.2.1.2.1, by rw [I.2.2.2.2]; decide⟩
theorem SI.le (h : SI y C0 bd X0 a b c M N st row i C j B X) {B2 : Nat} (hB : B ≤ B2) : SI y C0 bd X0 a b c M N st row i C j B2 X := by
  obtain ⟨N', st', row', I, h1, h2, h3⟩ := h
  exact ⟨N', st', row', I, h1, by omega, h3⟩
theorem SI.skips (h : SI y C0 bd X0 a b c M N st row i C j B X) (hi : i < N) (eC : C = st i) (q : Nat) (hj : j ≤ q) (hs : ∀ m, j ≤ m → m < q → y.cl.go C (m / 8) (m % 8) = Option.none) : SI y C0 bd X0 a b c M N st row i C q B X := by
  obtain ⟨N', st', row', I, h1, h2, h3, h4, h5⟩ := h
  refine ⟨N', st', row', I.skips q hj (fun m h1 h2 => stp_n ?_), h1, h2, h3, h4, h5⟩
  rw [(h4 i hi).1, ← eC]
  exact hs m h1 h2
theorem SI.reach {rest : Int32} (O : OkS y) (r0 : RI y C0) (h : SI y C0 bd X0 a b c M N st row i C (8 * f + g) B X) (hβ : 2 * M = 2 ^ β) (hb : β ≤ 20) (hi : i < N) (eC : C = st i) (hN : B < M) (hf : f < 4) (hg : g ≤ 4) (hD : wr D) (hO : y.cl.out D ≤ y.W) (hDm : ∀ s, y.m ≤ s → D s = []) (e2 : y_I X0 17 2 = nI y.m) (e3 : y_I X0 17 3 = nI y.W) (hr : ∀ v, v < 1000 → ((nI v ≤ rest) = (v + (ln (row i) + 1) ≤ bd))) (e : y.cl.go C f g = some D) : ∃ X2, f_X6_reach 17 (lg (cE y D)) (nI (64 * i + (8 * f + g))) rest X = some ((), X2) ∧ (SI y C0 bd X0 a b c M N st row i C (8 * f + g + 1) (B + 1) X2 ∨ CG y C0 (ln (row i) + 1) X0 X2 a b c M) := by
  obtain ⟨N', st', row', I, h1, h2, h3, h4, h5⟩ := h
  obtain ⟨z1, z2⟩ := h4 i hi
  obtain ⟨X2, ex, q⟩ := CI.reach (rest := rest) (D := D) O r0 I hβ hb (by omega) (by omega) hf hg hD hO hDm e2 e3 (fun v hv => by rw [ln_s (by omega), z2]; exact hr v hv) (by rw [z1, ← eC]; exact e)
  refine ⟨X2, ex, ?_⟩
  rw [z2] at q
  rcases q with ⟨N2, st2, row2, J, n1, n2, n3, n4, n5⟩ | q
  · refine Or.inl ⟨N2, st2, row2, J, by omega, by omega, fun t ht => by rw [n3]; exact h3 t ht, fun k hk => ?_, fun k k1 k2 => ?_⟩
    rotate_left
    · by_cases z : k < N'
      · rw [(n4 k z).2]
        exact h5 k k1 z
      · exact n5 k (by omega) k2
    have a1 := n4 k (by omega)
    have a2 := h4 k hk
    exact ⟨a1.1.trans a2.1, a1.2.trans a2.2⟩
  · exact Or.inr q
/-- what is so when it is spread -/
def SQ (y : Sy) (C0 : Cg) (bd : Nat) (X0 : y_H) (a b c M N : Nat) (st : Nat → Cg) (row : Nat → Nat) (i : Nat) (X2 : y_H) : Prop := (∃ N2 st2 row2, CI y C0 bd X0 X2 a b c M N2 st2 row2 i 64 ∧ (N ≤ N2 ∧ N2 ≤ N + 13) ∧ (∀ k, k < N → st2 k = st k ∧ row2 k = row k) ∧ ∀ k, N ≤ k → k < N2 → 64 * row i + 1 ≤ row2 k) ∨ CG y C0 (ln (row i) + 1) X0 X2 a b c M
theorem SI.Q (h : SI y C0 bd X0 a b c M N st row i C 64 B X) (hB : B ≤ N + 13) : SQ y C0 bd X0 a b c M N st row i X := by
  obtain ⟨N', st', row', I, h1, h2, h3, h4, h5⟩ := h
  exact Or.inl ⟨N', st', row', I, ⟨h1, by omega⟩, h4, h5⟩
theorem c_spread {rest : Int32} (O : OkS y) (r0 : RI y C0) (I : CI y C0 bd X0 X a b c M N st row i 0) (hβ : 2 * M = 2 ^ β) (hb : β ≤ 20) (hi : i < N) (hN : N + 13 ≤ M) (e2 : y_I X0 17 2 = nI y.m) (e3 : y_I X0 17 3 = nI y.W) (e4 : ∀ s, s < y.m → y_I X0 41 s = nI (y.H s)) (hr : ∀ v, v < 1000 → ((nI v ≤ rest) = (v + (ln (row i) + 1) ≤ bd))) : wp (f_X6_spread 17 (nI i) rest X) fun _ X2 => SQ y C0 bd X0 a b c M N st row i X2 := by
  have hm := O.1
  have hW := O.2.1
  have M20 : 2 * M ≤ 2 ^ 20 := by rw [hβ]; exact Nat.pow_le_pow_right (by decide) hb
  obtain ⟨A, ra, eA⟩ := Rn.pm (dg_q O) (I.1.b1 i hi)
  have rA : RI y A := r0.rn O ra
  obtain ⟨C, eC⟩ : ∃ C, C = st i := ⟨_, rfl⟩
  have cA : C = mpd y A := eC.trans eA
  obtain ⟨wC, zC⟩ := mpd_wr O rA
  rw [← cA] at wC zC
  obtain ⟨x, ex⟩ : ∃ x, x = y.cl.out C := ⟨_, rfl⟩
  have oA : x = y.out A := by rw [ex, cA]; exact cl_out A
  have xW : x < y.W := by
    have z1 := rA.1
    have z2 := I.2.2.2.1 i hi
    rw [← eC, ← ex] at z2
    omega
  have x5 : x ≤ 5 := by omega
  have es : y_L X a i = lg (cenc x C) := by
    have := (I.2.1.2.2.2.1 i hi).1
    rw [← eC] at this
    rw [this, ex]
    rfl
  have go : ∀ {f g D}, y.cl.go C f g = some D → wr D ∧ (∀ s, y.m ≤ s → D s = []) ∧ ((1 ≤ g ∧ y.cl.out D = x) ∨ (g = 0 ∧ y.cl.out D = x + 1)) := fun {f g D} e => by
    rw [cA] at e
    obtain ⟨A2, r2, d2, o2⟩ := cl_go O rA e
    obtain ⟨w2, z2⟩ := mpd_wr O r2
    rw [d2, cl_out, oA]
    exact ⟨w2, z2, o2⟩
  have S0 := I.2.1.1.1
  obtain ⟨k7, ⟨p0, k0, n0⟩, ⟨p1, k1, n1⟩, ⟨p4, ka, na⟩, -⟩ := id S0
  have xi := i_ix (show i < M by omega) (by omega)
  have ci := i_cl (show i < 2 ^ 31 by omega)
  have lo : y_L X (y_P X 17 4) (Int32.toNatClampNeg (nI i)) = lg (cenc x C) := by rw [p4, ci, es]
  unfold f_X6_spread
  refine wp_g k7 (wp_g (by simp only [p4, ka, na, xi, and_self]) ?_)
  rw [lo]
  refine wp_jl (fun q j => ∀ s X, s ≤ y.m → y.m - s < q → CI y C0 bd X0 X a b c M N st row i 0 → (∀ t, t < s → y_I X 105 t = nI (C t).length) → wp (j 17 (nI i) rest (lg (cenc x C)) (nI s) X) fun _ X2 => SQ y C0 bd X0 a b c M N st row i X2) (fun s X _ hm => absurd hm (by omega)) (fun q j IH s X hs hq I fl => ?_) (fun j IH => ?_)
  rotate_left
  · exact IH 0 X (by omega) (by unfold y_fu; omega) I (fun t ht => by omega)
  clear k7 p0 k0 n0 p1 k1 n1 p4 ka na lo es S0
  obtain ⟨k7, ⟨p0, k0, n0⟩, ⟨p1, k1, n1⟩, -⟩ := id I.2.1.1.1
  have i2 : y_I X 17 2 = nI y.m := (I.2.1.2.1.I (by unfold PS9; omega)).trans e2
  refine wp_g k7 ?_
  by_cases se : s = y.m
  rotate_left
  · have hs4 : s < 4 := by omega
    have xs := i_ix (show s < 4 by omega) (by decide)
    have cs := i_cl (show s < 2 ^ 31 by omega)
    have fo := c_fo (X := X) wC.1 x5 hs4
    refine wp_neg (by rw [i2]; exact nI_ge (by omega) (by omega)) (wp_g k7 (wp_ce fo (wp_g (by simp only [p1, k1, n1, xs, and_self]) (wp_bd ?_))))
    rw [p1, cs, nI_1]
    refine IH (s + 1) _ (by omega) (by omega) (I.fr rfl) (fun t ht => ?_)
    by_cases ts : t = s
    · rw [ts, e_IIs]
    · rw [e_IIk ts]
      exact fl t (by omega)
  refine wp_pos (by rw [i2]; exact nI_le (by omega) (by omega)) ?_
  have F0 : SI y C0 bd X0 a b c M N st row i C (8 * 0) (N + 3 * 0) X := ⟨N, st, row, I, Nat.le_refl _, by omega, fun t ht => fl t (by omega), fun _ _ => ⟨rfl, rfl⟩, fun k h1 h2 => absurd h2 (by omega)⟩
  clear fl IH k7 p0 k0 n0 p1 k1 n1 i2
  -- from
  refine wp_jl (fun q j => ∀ f X, f ≤ y.m → y.m - f < q → (SI y C0 bd X0 a b c M N st row i C (8 * f) (N + 3 * f) X ∨ (SI y C0 bd X0 a b c M N st row i C (8 * f) (N + 3 * f + 1) X ∧ hT C x f) ∨ CG y C0 (ln (row i) + 1) X0 X a b c M) → wp (j 17 (nI i) rest (lg (cenc x C)) (nI f) X) fun _ X2 => SQ y C0 bd X0 a b c M N st row i X2) (fun f X _ hm => absurd hm (by omega)) (fun q j IH f X hf hq J => ?_) (fun j IH => ?_)
  rotate_left
  · exact IH 0 X (by omega) (by unfold y_fu; omega) (Or.inl F0)
  clear F0 I
  have SX : CSh X a b c M ∧ ag PS9 (fun _ => False) X0 X := by
    rcases J with J | J | J
    · exact ⟨J.S.1, J.S.2.1⟩
    · exact ⟨J.1.S.1, J.1.S.2.1⟩
    · exact ⟨J.S.1, J.S.2.1⟩
  obtain ⟨⟨k7, ⟨p0, k0, n0⟩, ⟨p1, k1, n1⟩, -⟩, gX⟩ := id SX
  have i2 : y_I X 17 2 = nI y.m := (gX.I (by unfold PS9; omega)).trans e2
  refine wp_g k7 (wp_jn ?_)
  by_cases fe : f = y.m
  · refine wp_pos (by rw [i2]; exact nI_le (by omega) (by omega)) (wp_some.mpr ?_)
    have sk : ∀ {B : Nat}, B ≤ N + 13 → SI y C0 bd X0 a b c M N st row i C (8 * f) B X → SQ y C0 bd X0 a b c M N st row i X := fun hB J => (J.skips hi eC 64 (by omega) (fun m h1 h2 => go_no1 (y := y.cl) (show ¬ m / 8 < y.m by omega))).Q hB
    rcases J with J | J | J
    · exact sk (by omega) J
    · exact sk (by omega) J.1
    · exact Or.inr J
  refine wp_neg (by rw [i2]; exact nI_ge (by omega) (by omega)) (wp_g k7 ?_)
  rcases Classical.em (CG y C0 (ln (row i) + 1) X0 X a b c M) with jg | ng
  · exact wp_pos jg.S.2.2 (wp_some.mpr (Or.inr jg))
  have J : ∃ u, (u = 0 ∨ u = 1 ∧ hT C x f) ∧ SI y C0 bd X0 a b c M N st row i C (8 * f) (N + 3 * f + u) X := by
    rcases J with J | J | J
    · exact ⟨0, Or.inl rfl, J⟩
    · exact ⟨1, Or.inr ⟨rfl, J.2⟩, J.1⟩
    · exact absurd J ng
  obtain ⟨u, hu, J⟩ := J
  have hf4 : f < 4 := by omega
  have xf := i_ix (show f < 4 by omega) (by decide)
  have cf := i_cl (show f < 2 ^ 31 by omega)
  have fl : y_I X 105 f = nI (C f).length := by
    obtain ⟨_, _, _, -, -, -, z, -⟩ := J
    exact z f (by omega)
  refine wp_neg J.S.2.2 (wp_g k7 (wp_g (by simp only [p1, k1, n1, xf, and_self]) ?_))
  -- the next stack
  refine wp_jc (fun jj Q => ∀ X, (SI y C0 bd X0 a b c M N st row i C (8 * (f + 1)) (N + 3 * (f + 1)) X ∨ (SI y C0 bd X0 a b c M N st row i C (8 * (f + 1)) (N + 3 * (f + 1) + 1) X ∧ hT C x (f + 1)) ∨ CG y C0 (ln (row i) + 1) X0 X a b c M) → wp (jj 17 (nI i) rest (lg (cenc x C)) (nI f) X) Q) (fun X J => ?_) (fun j232 hj => ?_)
  · rw [nI_1]
    exact IH (f + 1) X (by omega) (by omega) J
  have nxt : ∀ {u X}, (u = 0 ∨ u = 1 ∧ hT C x (f + 1)) → SI y C0 bd X0 a b c M N st row i C (8 * (f + 1)) (N + 3 * (f + 1) + u) X → wp (j232 17 (nI i) rest (lg (cenc x C)) (nI f) X) fun _ X2 => SQ y C0 bd X0 a b c M N st row i X2 := fun {u X} hu J => by
    rcases hu with z | ⟨z, w⟩
    · rw [z] at J
      exact hj X (Or.inl J)
    · rw [z] at J
      exact hj X (Or.inr (Or.inl ⟨J, w⟩))
  cases hc : C f with
  | nil =>
    rw [hc] at fl
    refine wp_pos (by rw [p1, cf, fl]; rfl) (nxt (u := u) ?_ ((J.skips hi eC _ (by omega) (fun m h1 h2 => ?_)).le (by omega)))
    · rcases hu with z | ⟨z, w⟩
      · exact Or.inl z
      · exact Or.inr ⟨z, hT.up w⟩
    · rw [show m / 8 = f by omega]
      exact go_no2 (y := y.cl) hc
  | cons d l =>
    rw [hc, List.length_cons] at fl
    obtain ⟨d1, d2, d3⟩ := (show dk (d :: l) by rw [← hc]; exact wC.1 f).tl
    have dd : 1 ≤ d ∧ d ≤ 7 := d2
    have kt := k_top wC.1 x5 hf4 hc
    have kw := k_wo wC.1 x5 hf4 hc
    have co := c_out (X := X) wC.1 x5
    have cond : (lg_cmp (lg d) (Int32.toInt64 (nI x + 1)) = 0) = (d = x + 1) := by
      rw [nI_1, lg_i (by omega), lg_c (by omega) (by omega)]
    have em : nI i * 64 + nI f * 8 = nI (64 * i + 8 * f) := by
      rw [show (64 : Int32) = nI 64 from rfl, show (8 : Int32) = nI 8 from rfl, i_mul, i_mul, i_add]
      congr 1
      omega
    have wl := wC.tl hf4 hc
    refine wp_neg (by rw [p1, cf, fl]; exact nI_s0 (by omega)) (wp_g k7 (wp_g (by simp only [p1, k1, n1, xf, and_self]) (wp_ce co ?_)))
    simp only [p1, cf, fl, kt, kw, em]
    refine wp_jc (fun jj Q => ∀ X u, (u = 0 ∨ u = 1 ∧ hT C x (f + 1)) → (SI y C0 bd X0 a b c M N st row i C (8 * f + 1) (N + 3 * f + u) X ∨ CG y C0 (ln (row i) + 1) X0 X a b c M) → wp (jj 17 (nI i) rest (lg (cenc x C)) (nI f) (lg d) (lg (cenc x (upI C f l))) (nI (64 * i + 8 * f)) X) Q) (fun X u hu J => ?_) (fun j150 hj2 => ?_)
    · clear fl i2 gX k7 p0 k0 n0 p1 k1 n1 SX
      refine wp_jl (fun q j => ∀ t X, t ≤ y.m → y.m - t < q → (SI y C0 bd X0 a b c M N st row i C (8 * f + 1 + t) (N + 3 * f + u + (if f < t then t - 1 else t)) X ∨ CG y C0 (ln (row i) + 1) X0 X a b c M) → wp (j 17 (nI i) rest (lg (cenc x C)) (nI f) (lg d) (lg (cenc x (upI C f l))) (nI (64 * i + 8 * f)) (nI t) X) fun _ X2 => SQ y C0 bd X0 a b c M N st row i X2) (fun t X _ hm => absurd hm (by omega)) (fun q jt IH2 t X ht hq2 J => ?_) (fun jt IH2 => ?_)
      rotate_left
      · refine IH2 0 X (by omega) (by unfold y_fu; omega) ?_
        rw [if_neg (by omega)]
        exact J
      have SX : CSh X a b c M ∧ ag PS9 (fun _ => False) X0 X := by
        rcases J with J | J
        · exact ⟨J.S.1, J.S.2.1⟩
        · exact ⟨J.S.1, J.S.2.1⟩
      obtain ⟨⟨k7, ⟨p0, k0, n0⟩, ⟨p1, k1, n1⟩, -⟩, gX⟩ := id SX
      have i2 : y_I X 17 2 = nI y.m := (gX.I (by unfold PS9; omega)).trans e2
      refine wp_g k7 ?_
      by_cases te : t = y.m
      · refine wp_pos (by rw [i2]; exact nI_le (by omega) (by omega)) ?_
        rcases J with J | J
        · rw [if_pos (by omega)] at J
          refine nxt (u := u) hu ((J.skips hi eC _ (by omega) (fun m h1 h2 => ?_)).le (by omega))
          exact go_no3 (y := y.cl) (fun z => absurd (show m % 8 - 1 < y.m from z.1) (by omega)) (by omega)
        · exact hj X (Or.inr (Or.inr J))
      refine wp_neg (by rw [i2]; exact nI_ge (by omega) (by omega)) (wp_g k7 ?_)
      rcases J with J | J
      rotate_left
      · exact wp_pos J.S.2.2 (hj X (Or.inr (Or.inr J)))
      refine wp_neg J.S.2.2 (wp_jn ?_)
      have ht4 : t < 4 := by omega
      have go2 : ∀ X, (SI y C0 bd X0 a b c M N st row i C (8 * f + 1 + t + 1) (N + 3 * f + u + (if f < t + 1 then t + 1 - 1 else t + 1)) X ∨ CG y C0 (ln (row i) + 1) X0 X a b c M) → wp (jt 17 (nI i) rest (lg (cenc x C)) (nI f) (lg d) (lg (cenc x (upI C f l))) (nI (64 * i + 8 * f)) (nI t + 1) X) fun _ X2 => SQ y C0 bd X0 a b c M N st row i X2 := fun X J => by
        rw [nI_1]
        exact IH2 (t + 1) X (by omega) (by omega) J
      by_cases ts : t = f
      · refine wp_pos (by rw [ts]) (go2 X (Or.inl ((J.skips hi eC _ (by omega) (fun m h1 h2 => ?_)).le ?_)))
        · exact go_no3 (y := y.cl) (fun z => absurd z.2.1 (by omega)) (by omega)
        · rw [if_neg (by omega), if_pos (by omega)]
          omega
      have xt := i_ix (show t < 4 by omega) (by decide)
      have ct := i_cl (show t < 2 ^ 31 by omega)
      have flt : y_I X 105 t = nI (C t).length := by
        obtain ⟨_, _, _, -, -, -, z, -⟩ := J
        exact z t (by omega)
      have hH : y_I X 41 t = nI (y.H t) := (gX.I (by unfold PS9; omega)).trans (e4 t (by omega))
      have h5 := O.2.2.2.2.1 t (by omega)
      have lt5 := (wC.1 t).1
      refine wp_neg (by rw [i_eq (by omega)]; exact ts) (wp_g k7 (wp_g (by simp only [p1, k1, n1, xt, and_self]) (wp_g k7 (wp_g (by simp only [p0, k0, n0, xt, and_self]) ?_))))
      by_cases full : y.H t ≤ (C t).length
      · refine wp_pos (by rw [p0, p1, ct, hH, flt]; exact nI_le full (by omega)) (go2 X (Or.inl ((J.skips hi eC _ (by omega) (fun m h1 h2 => ?_)).le ?_)))
        · exact go_no3 (y := y.cl) (fun z => by
            have z2 : (C (m % 8 - 1)).length < y.H (m % 8 - 1) := z.2.2
            rw [show m % 8 - 1 = t by omega] at z2
            omega) (by omega)
        · split <;> split <;> omega
      have ut : upI C f l t = C t := upI_n ts
      have pt := k_put (C := upI C f l) (t := t) (d := d) wl.1 x5 ht4 (by rw [ut]; omega) dd.2
      rw [ut] at pt
      have ego := Sy.go_to (y := y.cl) (C := C) (f := f) (g := t) (show f < y.m by omega) hc (show t < y.m by omega) ts (show (C t).length < y.H t by omega)
      obtain ⟨wD, zD, oD⟩ := go ego
      have oD' : y.cl.out (upI (upI C f l) t (d :: C t)) = x := by
        rcases oD with z | z
        · exact z.2
        · omega
      have eD : cE y (upI (upI C f l) t (d :: C t)) = cenc x (upI (upI C f l) t (d :: C t)) := by
        unfold cE
        rw [oD']
      have J' : SI y C0 bd X0 a b c M N st row i C (8 * f + (t + 1)) (N + 3 * f + u + (if f < t then t - 1 else t)) X := by
        rw [show 8 * f + (t + 1) = 8 * f + 1 + t by omega]
        exact J
      have u1 : u ≤ 1 := by omega
      obtain ⟨X2, er, J2⟩ := J'.reach (rest := rest) O r0 hβ hb hi eC (by split <;> omega) hf4 (by omega) wD (by omega) zD e2 e3 hr ego
      rw [eD, ← pt] at er
      have em2 : (nI (64 * i + 8 * f) + nI t) + 1 = nI (64 * i + (8 * f + (t + 1))) := by
        rw [i_add, nI_1]
        congr 1
        omega
      refine wp_neg (by rw [p0, p1, ct, hH, flt]; exact nI_ge (by omega) (by omega)) (wp_g k7 (wp_g (by simp only [p1, k1, n1, xt, and_self]) (wp_g k7 (wp_ce (h := X2) (r := ()) (by rw [p1, ct, flt, em2]; exact er) (go2 X2 ?_)))))
      rcases J2 with J2 | J2
      · rw [show 8 * f + (t + 1) + 1 = 8 * f + 1 + t + 1 by omega] at J2
        refine Or.inl (J2.le ?_)
        split <;> split <;> omega
      · exact Or.inr J2
    · by_cases eq : d = x + 1
      · have u0 : u = 0 := by
          rcases hu with z | ⟨z, f', l', w1, w2⟩
          · exact z
          · rw [cA] at w2 hc
            have := top_one O rA hf4 (show f' < 4 by omega) hc w2 eq (by omega) dd.1
            omega
        rw [u0] at J
        have ego := Sy.go_out (y := y.cl) (C := C) (f := f) (show f < y.m by omega) hc (by rw [← ex]; exact xW) (by rw [← ex]; show d - 1 = x; omega)
        obtain ⟨wD, zD, oD⟩ := go ego
        have oD' : y.cl.out (upI C f l) = x + 1 := by
          rcases oD with z | z
          · omega
          · exact z.2
        have eD : cE y (upI C f l) = cenc (x + 1) (upI C f l) := by
          unfold cE
          rw [oD']
        obtain ⟨X2, er, J2⟩ := SI.reach (rest := rest) (f := f) (g := 0) O r0 J hβ hb hi eC (by omega) hf4 (by omega) wD (by omega) zD e2 e3 hr ego
        rw [eD, ← k_inc] at er
        refine wp_pos (by rw [cond]; exact eq) (wp_g k7 (wp_ce (h := X2) (r := ()) er (hj2 X2 1 (Or.inr ⟨rfl, f, l, by omega, by rw [hc, eq]⟩) J2)))
      · refine wp_neg (by rw [cond]; exact eq) (hj2 X u ?_ (Or.inl (J.skips hi eC _ (by omega) (fun m h1 h2 => ?_))))
        · rcases hu with z | ⟨z, w⟩
          · exact Or.inl z
          · exact Or.inr ⟨z, hT.up w⟩
        · rw [show m / 8 = f by omega, show m % 8 = 0 by omega]
          refine go_no4 (y := y.cl) hc (fun z => eq ?_)
          have z2 : d - 1 = y.cl.out C := z.2
          rw [← ex] at z2
          omega
end LTE
