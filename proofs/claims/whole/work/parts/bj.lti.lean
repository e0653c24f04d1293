/-! least: the class solves -/
section LTI
variable {C D C0 A : Cg} {X X0 X2 XX : y_H} {y : Sy} {s t d k n e N i j f g a b c M β bd x p c0 s0 v m W : Nat} {l : List Nat} {F Hh wn : Nat → Nat} {bv : Nat → Nat → Nat}
def h_sl (k : Nat) : Int32 := match k with
  | 0 => 0
  | 1 => 1
  | 2 => 3
  | 3 => 6
  | 4 => 1048576
  | _ => 0
theorem h_slN (k : Nat) : ∃ q, h_sl k = nI q ∧ q ≤ 1048576 ∧ (k = 4 → q = 1048576) := by
  match k with
  | 0 => exact ⟨0, rfl, by omega, fun z => by omega⟩
  | 1 => exact ⟨1, rfl, by omega, fun z => by omega⟩
  | 2 => exact ⟨3, rfl, by omega, fun z => by omega⟩
  | 3 => exact ⟨6, rfl, by omega, fun z => by omega⟩
  | 4 => exact ⟨1048576, rfl, by omega, fun z => rfl⟩
  | k + 5 => exact ⟨0, rfl, by omega, fun z => by omega⟩
theorem TB.tr {M0 M1 a1 b1 d1 p1 c1 s1 c2 s2 : Nat} (T : TB M0 c0 s0 XX X a b c M p c1 s1) (T2 : TB M c1 s1 X X2 a1 b1 d1 M1 p1 c2 s2) : TB M0 c0 s0 XX X2 a1 b1 d1 M1 p1 c2 s2 := by
  obtain ⟨h1, h2, h3, h4, h5, h6⟩ := T
  obtain ⟨k1, k2, k3, k4, k5, k6⟩ := T2
  exact ⟨k1, k2, by omega, by omega, by omega, h6.trans k6⟩
/-- the end of the search -/
def SVd (y : Sy) (C0 : Cg) (M0 c0 s0 : Nat) (XX : y_H) (r : Int32 × Nat × Nat) (X : y_H) : Prop := ∃ a b c M p, TB M0 c0 s0 XX X a b c M p r.2.1 r.2.2 ∧ (CSh X a b c M ∧ abc a b c) ∧ ((∃ L, r.1 = nI L ∧ CG y C0 L X X a b c M) ∨ (r.1 = -9 ∧ noway y C0))
/-- what a search needs to know -/
def SN (y : Sy) (X : y_H) : Prop := y_I X 17 2 = nI y.m ∧ y_I X 17 3 = nI y.W ∧ (∀ s, s < y.m → y_I X 41 s = nI (y.H s)) ∧ y_K X 2 = 200 ∧ y_N X 2 = 5 ∧ y_I X 2 = h_sl
theorem SN.mv (g : ag PS9 QS9 X X2) (h : SN y X) : SN y X2 := by
  obtain ⟨h1, h2, h3, h4, h5, h6⟩ := h
  exact ⟨(g.I (by unfold PS9; omega)).trans h1, (g.I (by unfold PS9; omega)).trans h2, fun s hs => (g.I (by unfold PS9; omega)).trans (h3 s hs), (g.K (by unfold QS9; omega)).trans h4, (g.N (by unfold QS9; omega)).trans h5, (g.rI (fun k => by unfold PS9; omega)).trans h6⟩
def sLp (p0 : Nat) (st : Int64) (c0 s0 : Nat) (h10 : y_H) : Option ((Int32 × Nat × Nat) × y_H) :=
  y_jl (fun (_ : Nat) (_ : Int64) (_ : Int32) (_ : Int32) (_ : Nat) (_ : Nat) (_ : y_H) => (none : Option ((Int32 × Nat × Nat) × y_H))) (fun j39 (v0_39 : Nat) (v3_39 : Int64) (v5_39 : Int32) (v6_39 : Int32) (c39 : Nat) (s39 : Nat) (h13 : y_H) =>
      if y_K h13 2 = 200 then
      if y_K h13 2 = 200 then
      y_jn (fun (v5_85 : Int32) (c85 : Nat) (s85 : Nat) (h15 : y_H) => (
          some ((v5_85, c85, s85), h15) : Option ((Int32 × Nat × Nat) × y_H))) (fun j85 =>
      if (nI (y_N h13 2)) ≤ v6_39 then
        j85 v5_39 c39 s39 h13
      else
        if y_K h13 v0_39 = 7 then
        if (y_B h13 v0_39 9) = true then
          if 0 ≤ v5_39 then
            j85 v5_39 c39 s39 h13
          else
            if y_K h13 v0_39 = 7 then
            y_cl (f_X6_lowerBound v0_39 v3_39 h13) (fun r16 h17 =>
            if y_K h17 2 = 200 then
            if y_K h17 2 = 200 ∧ y_ix v6_39 (y_N h17 2) = true then
            if y_K h17 v0_39 = 7 then
            y_cl (f_X6_sweep v0_39 v3_39 (r16 + (y_I h17 2 (Int32.toNatClampNeg v6_39))) c39 s39 h17) (fun r20 h21 =>
            j39 v0_39 v3_39 r20.1 (v6_39 + 1) r20.2.1 r20.2.2 h21)
            else none
            else none
            else none)
            else none
        else
          j85 v5_39 c39 s39 h13
        else none)
      else none
      else none) (fun j39 =>
  j39 p0 st (-9 : Int32) 0 c0 s0 h10)
theorem c_sLp {M0 : Nat} (O : OkS y) (r0 : RI y C0) (hW0 : y.out C0 ≠ y.W) (S : CSh XX a b c M0) (ab : abc a b c) (P : Cp XX p a b c M0) (hp : p ≤ 11) (sn : SN y XX) (h9 : y_B XX 17 9 = true) : wp (sLp 17 (lg (cE y (mpd y C0))) c0 s0 XX) (SVd y C0 M0 c0 s0 XX) := by
  have hm := O.1
  have hW := O.2.1
  obtain ⟨w0, z0⟩ := mpd_wr O r0
  have o0 : y.cl.out (mpd y C0) = y.out C0 := cl_out C0
  have oW := r0.1
  have lb1 := lbC_1000 O w0
  unfold sLp
  refine wp_jl (fun q j => ∀ k best X c1 s1, k ≤ 5 → 5 - k < q → (∃ a b c M p, TB M0 c0 s0 XX X a b c M p c1 s1 ∧ (CSh X a b c M ∧ abc a b c) ∧ ((∃ L, best = nI L ∧ L ≤ 100 ∧ CG y C0 L X X a b c M) ∨ (best = -9 ∧ (y_B X 17 9 = false ∨ k = 5 → noway y C0)))) → wp (j 17 (lg (cE y (mpd y C0))) best (nI k) c1 s1 X) (SVd y C0 M0 c0 s0 XX)) (fun k _ _ _ _ _ hm => absurd hm (by omega)) (fun q j IH k best X c1 s1 hk hq J => ?_) (fun j IH => ?_)
  rotate_left
  · exact IH 0 (-9) XX c0 s0 (by omega) (by unfold y_fu; omega) ⟨a, b, c, M0, p, ⟨P, hp, Nat.le_refl _, by omega, by omega, ag.refl _ _ _⟩, ⟨S, ab⟩, Or.inr ⟨rfl, fun z => by
      rcases z with z | z
      · rw [h9] at z; cases z
      · omega⟩⟩
  obtain ⟨a, b, c, M, p, T, ⟨SX, aX⟩, J⟩ := J
  obtain ⟨n1, n2, n3, n4, n5, n6⟩ := sn.mv T.2.2.2.2.2
  refine wp_g n4 (wp_g n4 (wp_jn ?_))
  rw [n5]
  by_cases k5 : k = 5
  · refine wp_pos (nI_le (by omega) (by omega)) (wp_some.mpr ⟨a, b, c, M, p, T, ⟨SX, aX⟩, ?_⟩)
    rcases J with ⟨L, j1, -, j2⟩ | ⟨j1, j2⟩
    · exact Or.inl ⟨L, j1, j2⟩
    · exact Or.inr ⟨j1, j2 (Or.inr k5)⟩
  refine wp_neg (nI_ge (by omega) (by omega)) (wp_g SX.1 ?_)
  by_cases cut : y_B X 17 9 = true
  rotate_left
  · refine wp_neg cut (wp_some.mpr ⟨a, b, c, M, p, T, ⟨SX, aX⟩, ?_⟩)
    rcases J with ⟨L, j1, -, j2⟩ | ⟨j1, j2⟩
    · exact Or.inl ⟨L, j1, j2⟩
    · refine Or.inr ⟨j1, j2 (Or.inl ?_)⟩
      cases hb : y_B X 17 9 with
      | false => rfl
      | true => exact absurd hb cut
  refine wp_pos cut ?_
  rcases J with ⟨L, j1, j3, j2⟩ | ⟨j1, j2⟩
  · exact wp_pos (by rw [j1]; exact nI_le (a := 0) (by omega) (by omega)) (wp_some.mpr ⟨a, b, c, M, p, T, ⟨SX, aX⟩, Or.inl ⟨L, j1, j2⟩⟩)
  refine wp_neg (by rw [j1]; decide) (wp_g SX.1 ?_)
  have lb := c_lb (X := X) SX.1 w0.1 (show y.cl.out (mpd y C0) ≤ y.W by omega) hW n1 n2 hm
  have sl := sumC_lb (y := y) (D := mpd y C0) rfl z0 hm
  rw [sl] at lb
  have xk := i_ix (show k < 5 by omega) (by decide)
  have ck := i_cl (show k < 2 ^ 31 by omega)
  obtain ⟨q9, e9, l9, f9⟩ := h_slN k
  refine wp_ce (h := X) (r := nI (lbC y.cl (mpd y C0))) lb (wp_g n4 (wp_g ⟨n4, by rw [n5]; exact xk⟩ (wp_g SX.1 ?_)))
  rw [n6, ck, e9, i_add]
  refine wp_call (c_sweep (c0 := c1) (s0 := s1) (bd := lbC y.cl (mpd y C0) + q9) O r0 hW0 (by omega) SX aX T.1 T.2.1 n1 n2 n3) (fun r X2 q => ?_)
  rw [nI_1]
  obtain ⟨a2, b2, c2, M2, p2, T2, S2, J2⟩ := q
  refine IH (k + 1) r.1 X2 r.2.1 r.2.2 (by omega) (by omega) ⟨a2, b2, c2, M2, p2, T.tr T2, S2, ?_⟩
  rcases J2 with ⟨L, z1, z2⟩ | ⟨z1, z2⟩
  · refine Or.inl ⟨L, z1, ?_, z2⟩
    obtain ⟨N, st, row, -, -, -, -, -, mg, eL⟩ := z2
    have := MinG.ln O r0 (mg.cl O)
    omega
  · refine Or.inr ⟨z1, fun hh => z2 ?_⟩
    rcases hh with hh | hh
    · exact Or.inl hh
    · have := f9 (by omega)
      exact Or.inr (by omega)
theorem solve_sLp (p0 p1 p2 c0 s0 : Nat) (h : y_H) : f_X6_solve p0 p1 p2 c0 s0 h = (if y_K h p1 = 2 then
  if y_K h p0 = 7 then
  y_bd (s_I h p0 2 (y_mn (y_I h p1 7) 4)) (fun h1 =>
  if y_K h1 p2 = 5 then
  if y_K h1 p0 = 7 then
  y_bd (s_I h1 p0 3 (y_I h1 p2 1)) (fun h4 =>
  if y_K h4 p0 = 7 then
  y_cl (f_X6_startOf p0 p1 p2 h4) (fun r7 h8 =>
  if y_K h8 p0 = 7 then
  y_bd (s_B h8 p0 9 true) (fun h10 => sLp p0 r7 c0 s0 h10)
  else none)
  else none)
  else none
  else none)
  else none
  else none) := rfl
theorem c_solve {M0 : Nat} (k : okB m W F Hh bv wn) (B : BC X i m W F Hh bv wn) (hi : i < 10) (hW1 : 1 ≤ W) (S : CSh X a b c M0) (ab : abc a b c) (P : Cp X p a b c M0) (hp : p ≤ 11) (q2 : y_K X 2 = 200 ∧ y_N X 2 = 5 ∧ y_I X 2 = h_sl) : wp (f_X6_solve 17 (64 * i + 23) 14 c0 s0 X) fun r X2 => ∃ XX, ag (fun u k => u = 41 ∨ u = 17 ∧ (k = 2 ∨ k = 3 ∨ k = 9)) (fun _ => False) X XX ∧ SVd (sysB m W F Hh bv wn) (Bc F m 0) M0 c0 s0 XX r X2 := by
  have O := sys_ok k
  have r0 := sys_ri k
  obtain ⟨h4, h5, h6, kF, k1, k2, k3⟩ := id k
  obtain ⟨w, v, b2, b3, b4, b5⟩ := id B
  obtain ⟨k7, ⟨p0, k0, n0⟩, -⟩ := id S
  have v' := v
  unfold vshape at v'
  have kd : y_K X 14 = 5 := by simp only [w.1]
  have ym : y_mn (nI m) 4 = nI m := by
    unfold y_mn
    by_cases q : (4 : Int32) < nI m
    · rw [show (4 : Int32) = nI 4 from rfl, i_lt (by omega)] at q
      omega
    · rw [if_neg q]
  rw [solve_sLp]
  refine wp_g v'.2.1 (wp_g k7 (wp_bd (wp_g kd (wp_g k7 (wp_bd (wp_g k7 ?_))))))
  rw [b2, ym, e_IIn (by omega), b4]
  obtain ⟨Y, eY⟩ : ∃ Y, Y = s_I (s_I X 17 2 (nI m)) 17 3 (nI W) := ⟨_, rfl⟩
  rw [← eY]
  have gY : ag (fun u k => u = 41 ∨ u = 17 ∧ (k = 2 ∨ k = 3 ∨ k = 9)) (fun _ => False) X Y := by
    rw [eY]
    exact ag.sI (ag.sI (ag.refl _ _ _) (by omega)) (by omega)
  have BY : BC Y i m W F Hh bv wn := B.mv (gY.mono (fun u k z => by unfold PS8; omega) (fun _ z => z.elim))
  have kY : ∀ u, y_K Y u = y_K X u := fun u => gY.K (fun z => z)
  have nY : ∀ u, y_N Y u = y_N X u := fun u => gY.N (fun z => z)
  have pY : ∀ u k, y_P Y u k = y_P X u k := fun u k => by rw [eY, e_PI, e_PI]
  have y2 : y_I Y 17 2 = nI m := by rw [eY, e_IIk (by omega), e_IIs]
  have y3 : y_I Y 17 3 = nI W := by rw [eY, e_IIs]
  refine wp_call (c_startOf k BY hi ((kY 17).trans k7) ⟨(pY 17 0).trans p0, (kY 41).trans k0, (nY 41).trans n0⟩ y2) (fun r Z q => ?_)
  obtain ⟨er, gZ, hZ⟩ := q
  have kZ : ∀ u, y_K Z u = y_K X u := fun u => (gZ.K (fun z => z)).trans (kY u)
  have nZ : ∀ u, y_N Z u = y_N X u := fun u => (gZ.N (fun z => z)).trans (nY u)
  have pZ : ∀ k, y_P Z 17 k = y_P X 17 k := fun k => (gZ.P (by omega)).trans (pY 17 k)
  refine wp_g ((kZ 17).trans k7) (wp_bd ?_)
  rw [er]
  have gX : ag (fun u k => u = 41 ∨ u = 17 ∧ (k = 2 ∨ k = 3 ∨ k = 9)) (fun _ => False) X (s_B Z 17 9 true) := ag.sB (gY.trans (gZ.mono (fun u k z => Or.inl z) (fun _ z => z))) (by omega)
  have SZ : CSh (s_B Z 17 9 true) a b c M0 := by
    refine CSh.wB ?_
    unfold CSh at S ⊢
    simp only [kZ, nZ, pZ]
    exact S
  have W0 : (sysB m W F Hh bv wn).out (Bc F m 0) ≠ (sysB m W F Hh bv wn).W := by
    have e : (sysB m W F Hh bv wn).out (Bc F m 0) = 0 := by
      show ofs F m - ttC (Bc F m 0) = 0
      rw [(Bc_flt h4).2, Nat.sub_self]
    rw [e]
    show 0 ≠ W
    omega
  refine wp_mono (c_sLp (c0 := c0) (s0 := s0) O r0 W0 SZ ab (P.K (fun u => kZ u)) hp ⟨?_, ?_, fun s hs => ?_, (kZ 2).trans q2.1, (nZ 2).trans q2.2.1, ?_⟩ e_BBs) (fun r X2 q => ⟨_, gX, q⟩)
  · rw [e_IB, gZ.I (by omega)]; exact y2
  · rw [e_IB, gZ.I (by omega)]; exact y3
  · rw [e_IB]; exact hZ s hs
  · exact (gX.rI (fun k => by omega)).trans q2.2.2
end LTI
