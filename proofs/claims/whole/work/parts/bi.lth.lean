/-! least: the class reads its bay -/
section LTH
variable {C D C0 A : Cg} {X X0 X2 XX : y_H} {y : Sy} {s t d k n e N i j f g a b c M β bd x p c0 s0 v m W : Nat} {l : List Nat} {F Hh wn : Nat → Nat} {bv : Nat → Nat → Nat}
def PS8 (u k : Nat) : Prop := 41 ≤ u % 64 ∧ u % 64 ≤ 44 ∨ u = 17
def QS8 (u : Nat) : Prop := 41 ≤ u % 64 ∧ u % 64 ≤ 44 ∨ u = 17
theorem ag.p98 (g : ag PS9 QS9 X X2) : ag PS8 QS8 X X2 := g.mono (fun u k z => by unfold PS9 at z; unfold PS8; omega) (fun u z => by unfold QS9 at z; unfold QS8; omega)
/-- the bay, as the class has it -/
def bayC (X : y_H) (b m W : Nat) (F Hh : Nat → Nat) (bv : Nat → Nat → Nat) (wn : Nat → Nat) : Prop := vshape X b ∧ y_I X (64 * b + 23) 7 = nI m ∧ (∀ s, s < m → y_I X (64 * b + 30) s = nI (Hh s) ∧ y_I X (64 * b + 32) s = nI (F s) ∧ ∀ t, t < F s → y_P X (64 * b + 33) (5 * s + t) = 64 * bv s t + 20) ∧ y_I X 14 1 = nI W ∧ ∀ o, o < W → y_P X 38 o = 64 * wn o + 20
def BC (X : y_H) (b m W : Nat) (F Hh : Nat → Nat) (bv : Nat → Nat → Nat) (wn : Nat → Nat) : Prop := Sh X ∧ bayC X b m W F Hh bv wn
theorem Sh_88 (g : ag PS8 QS8 X X2) (w : Sh X) : Sh X2 := (Sh_ag g (by intro a k q; (simp only [FSh, PS8, QS8] at q ⊢) <;> omega) (by intro a q; (simp only [GSh, PS8, QS8, not_false_eq_true] at q ⊢) <;> omega) w)
theorem BC.mv (g : ag PS8 QS8 X X2) (h : BC X b m W F Hh bv wn) : BC X2 b m W F Hh bv wn := by
  obtain ⟨w, v, h2, h3, h4, h5⟩ := h
  have no : ∀ {u k}, ¬ (41 ≤ u % 64 ∧ u % 64 ≤ 44 ∨ u = 17) → ¬ PS8 u k := fun z => z
  have nq : ∀ {u}, ¬ (41 ≤ u % 64 ∧ u % 64 ≤ 44 ∨ u = 17) → ¬ QS8 u := fun z => z
  have I : ∀ {u k}, ¬ (41 ≤ u % 64 ∧ u % 64 ≤ 44 ∨ u = 17) → y_I X2 u k = y_I X u k := fun z => g.I (no z)
  have P : ∀ {u k}, ¬ (41 ≤ u % 64 ∧ u % 64 ≤ 44 ∨ u = 17) → y_P X2 u k = y_P X u k := fun z => g.P (no z)
  have K : ∀ {u}, ¬ (41 ≤ u % 64 ∧ u % 64 ≤ 44 ∨ u = 17) → y_K X2 u = y_K X u := fun z => g.K (nq z)
  have NN : ∀ {u}, ¬ (41 ≤ u % 64 ∧ u % 64 ≤ 44 ∨ u = 17) → y_N X2 u = y_N X u := fun z => g.N (nq z)
  refine ⟨Sh_88 g w, ?_, ?_, fun s hs => ?_, ?_, fun o ho => ?_⟩
  · unfold vshape at v ⊢
    simp (disch := omega) only [I, P, K, NN]
    exact v
  · rw [I (by omega)]; exact h2
  · obtain ⟨q1, q2, q3⟩ := h3 s hs
    exact ⟨by rw [I (by omega)]; exact q1, by rw [I (by omega)]; exact q2, fun t ht => by rw [P (by omega)]; exact q3 t ht⟩
  · rw [I (by omega)]; exact h4
  · rw [P (by omega)]; exact h5 o ho
theorem mpd_dk (hW : y.W ≤ 5) (h : dkC C) : dkC (mpd y C) := fun s => by
  refine ⟨?_, fun v hv => ?_⟩
  · show ((C s).map (dg y)).length ≤ 5
    rw [List.length_map]
    exact (h s).1
  · obtain ⟨u, hu, eu⟩ := List.mem_map.mp hv
    rw [← eu]
    unfold dg
    split <;> omega
theorem mpd_up : mpd y (upI C s (d :: C s)) = upI (mpd y C) s (dg y d :: mpd y C s) := mpC_up (dg y) (d :: C s)
theorem cE_B (k : okB m W F Hh bv wn) : cE (sysB m W F Hh bv wn) (mpd (sysB m W F Hh bv wn) (Bc F m 0)) = cenc 0 (mpd (sysB m W F Hh bv wn) (Bc F m 0)) := by
  unfold cE
  rw [cl_out]
  have e : (sysB m W F Hh bv wn).out (Bc F m 0) = 0 := by
    show ofs F m - ttC (Bc F m 0) = 0
    rw [(Bc_flt k.1).2, Nat.sub_self]
  rw [e]
theorem Bc_00 : enc (mpd y (Bc F 0 0)) = 0 := by
  have e : mpd y (Bc F 0 0) = fun _ => [] := by
    funext u
    show (Bc F 0 0 u).map (dg y) = []
    unfold Bc
    rw [if_neg (by omega)]
    by_cases q : u = 0
    · rw [if_pos q]; rfl
    · rw [if_neg q]; rfl
  rw [e]
  rfl
theorem c_startOf (k : okB m W F Hh bv wn) (B : BC X b m W F Hh bv wn) (hb : b < 10) (k7 : y_K X 17 = 7) (p0 : y_P X 17 0 = 41 ∧ y_K X 41 = 100 ∧ y_N X 41 = 4) (e2 : y_I X 17 2 = nI m) : wp (f_X6_startOf 17 (64 * b + 23) 14 X) fun r X2 => r = lg (cE (sysB m W F Hh bv wn) (mpd (sysB m W F Hh bv wn) (Bc F m 0))) ∧ ag (fun u _ => u = 41) (fun _ => False) X X2 ∧ ∀ s, s < m → y_I X2 41 s = nI (Hh s) := by
  obtain ⟨h4, h5, h6, kF, k1, k2, k3⟩ := id k
  obtain ⟨y, ey⟩ : ∃ y, y = sysB m W F Hh bv wn := ⟨_, rfl⟩
  have yW : y.W = W := by rw [ey]; rfl
  rw [cE_B k, ← ey]
  unfold f_X6_startOf
  refine wp_jl (fun q j => ∀ s X2, s ≤ m → m - s < q → ag (fun u _ => u = 41) (fun _ => False) X X2 → (∀ u, u < s → y_I X2 41 u = nI (Hh u)) → wp (j 17 (64 * b + 23) 14 (lg (cenc 0 (mpd y (Bc F s 0)))) (nI s) X2) fun r X2 => r = lg (cenc 0 (mpd y (Bc F m 0))) ∧ ag (fun u _ => u = 41) (fun _ => False) X X2 ∧ ∀ s, s < m → y_I X2 41 s = nI (Hh s)) (fun s X2 _ hm => absurd hm (by omega)) (fun q j IH s X2 hs hq g hH => ?_) (fun j IH => ?_)
  rotate_left
  · have z := IH 0 X (by omega) (by unfold y_fu; omega) (ag.refl _ _ _) (fun u hu => by omega)
    have e0 : lg (cenc 0 (mpd y (Bc F 0 0))) = 0 := by
      unfold cenc
      rw [Bc_00]
      rfl
    rw [e0] at z
    exact z
  have k72 : y_K X2 17 = 7 := (g.K (fun z => z)).trans k7
  have e22 : y_I X2 17 2 = nI m := (g.I (by omega)).trans e2
  refine wp_g k72 ?_
  by_cases se : s = m
  · refine wp_pos (by rw [e22]; exact nI_le (by omega) (by omega)) (wp_some.mpr ⟨by rw [se], g, fun u hu => hH u (by omega)⟩)
  have hs4 : s < 4 := by omega
  have B2 : BC X2 b m W F Hh bv wn := B.mv (g.mono (fun u k z => by unfold PS8; omega) (fun _ z => z.elim))
  obtain ⟨w2, v2, b2, b3, b4, b5⟩ := id B2
  obtain ⟨q1, q2, q3⟩ := b3 s (by omega)
  have v2' := v2
  unfold vshape at v2'
  have xs6 := i_ix (show s < 6 by omega) (by decide)
  have xs4 := i_ix (show s < 4 by omega) (by decide)
  have cs := i_cl (show s < 2 ^ 31 by omega)
  have p02 : y_P X2 17 0 = 41 := (g.P (by omega)).trans p0.1
  have k41 : y_K X2 41 = 100 := (g.K (fun z => z)).trans p0.2.1
  have n41 : y_N X2 41 = 4 := (g.N (fun z => z)).trans p0.2.2
  refine wp_neg (by rw [e22]; exact nI_ge (by omega) (by omega)) (wp_g k72 (wp_g v2'.2.1 (wp_g (by simp only [v2', xs6, and_self]) (wp_g (by simp only [p02, k41, n41, xs4, and_self]) (wp_bd ?_)))))
  have hv : y_I X2 (y_P X2 (64 * b + 23) 1) (Int32.toNatClampNeg (nI s)) = nI (Hh s) := by simp only [v2', cs, q1]
  rw [p02, cs]
  simp only [v2', q1]
  obtain ⟨Y, eY⟩ : ∃ Y, Y = s_I X2 41 s (nI (Hh s)) := ⟨_, rfl⟩
  rw [← eY]
  have gY : ag (fun u _ => u = 41) (fun _ => False) X Y := by rw [eY]; exact ag.sI g rfl
  have HY : ∀ u, u < s + 1 → y_I Y 41 u = nI (Hh u) := fun u hu => by
    rw [eY]
    by_cases us : u = s
    · rw [us, e_IIs]
    · rw [e_IIk us]; exact hH u (by omega)
  obtain ⟨w3, v3, b23, b33, b43, b53⟩ := B.mv (gY.mono (fun u k z => by unfold PS8; omega) (fun _ z => z.elim))
  obtain ⟨r1, r2, r3⟩ := b33 s (by omega)
  have v3' := v3
  unfold vshape at v3'
  have kFs := kF s (by omega)
  have om := ofs_mono (F := F) (show s + 1 ≤ m by omega)
  have oe : ofs F (s + 1) = ofs F s + F s := rfl
  refine wp_jl (fun q j => ∀ t, t ≤ F s → F s - t < q → wp (j 17 (64 * b + 23) 14 (lg (cenc 0 (mpd y (Bc F s t)))) (nI s) (nI t) Y) fun r X2 => r = lg (cenc 0 (mpd y (Bc F m 0))) ∧ ag (fun u _ => u = 41) (fun _ => False) X X2 ∧ ∀ s, s < m → y_I X2 41 s = nI (Hh s)) (fun t _ hm => absurd hm (by omega)) (fun q j2 IH2 t ht hq2 => ?_) (fun j2 IH2 => ?_)
  rotate_left
  · exact IH2 0 (by omega) (by unfold y_fu; omega)
  refine wp_g v3'.2.1 (wp_g (by simp only [v3', xs6, and_self]) ?_)
  by_cases te : t = F s
  · refine wp_pos (by simp only [v3', cs, r2]; exact nI_le (by omega) (by omega)) ?_
    rw [te, Bc_nx, nI_1]
    exact IH (s + 1) Y (by omega) (by omega) gY HY
  have ih := IH2 (t + 1) (by omega) (by omega)
  rw [← nI_1 t] at ih
  have bi := c_boxIn w3 (p := t) v3 b23 (show s < m by omega) (by omega) kFs.2 r1 (by omega)
  rw [r3 t (by omega)] at bi
  refine wp_neg (by simp only [v3', cs, r2]; exact nI_ge (by omega) (by omega)) (wp_g v3'.2.1 (wp_ce bi (wp_g (by simp only [w3.1]) (wp_call (c_rankOf w3 h5 b43 b53 (bv s t)) (fun r Y2 q => ?_)))))
  obtain ⟨eY2, hr⟩ := q
  rw [eY2]
  have wB := Bc_wr2 (m := m) (F := F) (t := t) h4 (show s < m by omega) (by omega) (fun u hu => by have := kF u hu; omega) (by omega)
  have dB := mpd_dk (y := y) (by omega) wB.1
  have lB : (mpd y (Bc F s t) s).length = t := by
    show ((Bc F s t s).map (dg y)).length = t
    rw [List.length_map]
    unfold Bc
    rw [if_neg (by omega), if_pos rfl, lst_len]
  have up : upI (mpd y (Bc F s t)) s (dg y (ofs F s + t + 1) :: mpd y (Bc F s t) s) = mpd y (Bc F s (t + 1)) := by
    rw [← mpd_up, Bc_up]
  have put : ∀ d, d = dg y (ofs F s + t + 1) → lg (cenc 0 (mpd y (Bc F s t))) ||| (lg d <<< (Int32.toInt64 ((15 * nI s) + (3 * nI t)) &&& 63)) = lg (cenc 0 (mpd y (Bc F s (t + 1)))) := fun d hd => by
    have z := k_put (C := mpd y (Bc F s t)) (x := 0) (t := s) (d := d) dB (by omega) hs4 (by rw [lB]; omega) (by
      rw [hd]
      unfold dg
      split <;> omega)
    rw [lB, hd, up] at z
    rw [hd]
    exact z
  have nm : nmx F bv (ofs F s + t + 1 - 1) = bv s t := by rw [Nat.add_sub_cancel]; exact nmx_of hs4 (by omega)
  rcases hr with ⟨o, ho, eo, er⟩ | ⟨er, no⟩
  · have rk : y.rk (ofs F s + t + 1) = o := by
      rw [ey]
      exact (sys_rk k (by omega) ho).mpr (by rw [nm, eo])
    have ed : o + 1 = dg y (ofs F s + t + 1) := by
      unfold dg
      rw [rk, if_pos (by omega)]
    have e1 : Int32.toInt64 (r + 1) = lg (o + 1) := by rw [er, nI_1, lg_i (by omega)]
    rw [← put (o + 1) ed, ← e1] at ih
    refine wp_neg (by rw [er]; exact nI_pos (by omega)) ih
  · have rk : y.rk (ofs F s + t + 1) = W := by
      rw [ey]
      show rkw wn (nmx F bv (ofs F s + t + 1 - 1)) W W = W
      rw [nm]
      rcases rkw_c (w := wn) (v := bv s t) (W := W) W with ⟨z1, z2⟩ | ⟨z1, -⟩
      · exact absurd z2 (no _ z1)
      · exact z1
    have ed : 6 = dg y (ofs F s + t + 1) := by
      unfold dg
      rw [rk, yW, if_neg (by omega)]
    rw [← put 6 ed] at ih
    refine wp_pos (by rw [er]; decide) ih
end LTH
