/-! least: the call -/
section LTM
variable {h X X2 G G2 Gm : y_H} {t e N C S A b m W q L c0 s0 Fa Ta cp : Nat} {F Hh wn w9 : Nat → Nat} {bv : Nat → Nat → Nat}
theorem sm_ofs {f : Nat → Int32} : ∀ m, (∀ s, s < m → f s = nI (F s)) → sm f m = nI (ofs F m)
  | 0, _ => rfl
  | m + 1, z => by
    show sm f m + f m = _
    have a : sm f m = nI (ofs F m) := sm_ofs m (fun s hs => z s (by omega))
    have b : f m = nI (F m) := z m (by omega)
    rw [a, b]
    exact i_add _ _
theorem ofs_le5 : ∀ m, (∀ s, s < m → F s ≤ 5) → ofs F m ≤ 5 * m
  | 0, _ => Nat.le_refl _
  | m + 1, z => by
    have a := ofs_le5 m (fun s hs => z s (by omega))
    have b := z m (by omega)
    have c : ofs F (m + 1) = ofs F m + F m := rfl
    omega
/-- a bay, as numbers -/
def bayN (h : y_H) (N b m : Nat) (F Hh : Nat → Nat) (bv : Nat → Nat → Nat) : Prop := ∀ s, s < m → Hh s ≤ 5 ∧ F s ≤ Hh s ∧ y_I h 1186 (6 * b + s) = nI (Hh s) ∧ y_I h (64 * b + 30) s = nI (Hh s) ∧ y_I h 1314 (6 * b + s) = nI (F s) ∧ y_I h (64 * b + 32) s = nI (F s) ∧ ∀ t, t < F s → bv s t < N ∧ y_I h 1378 (5 * (6 * b + s) + t) = nI (bv s t) ∧ y_P h (64 * b + 33) (5 * s + t) = 64 * bv s t + 20 ∧ y_I h 418 (bv s t) = 1 ∧ y_I h 482 (bv s t) = nI b ∧ y_I h 546 (bv s t) = nI s ∧ y_I h 610 (bv s t) = nI t
theorem bay_N (R : RelP h t e N C S A) (hb : b < 10) (hl : y_B h 994 b = true) : ∃ m F Hh bv, 1 ≤ m ∧ m ≤ 6 ∧ y_I h 1122 b = nI m ∧ y_I h (64 * b + 23) 7 = nI m ∧ bayN h N b m F Hh bv := by
  obtain ⟨m, a1, a2, a3, a4, a5⟩ := SF_of R hb hl
  have hN := R.2.2.2.1.1
  refine ⟨m, fun s => (y_I h 1314 (6 * b + s)).toNatClampNeg, fun s => (y_I h 1186 (6 * b + s)).toNatClampNeg, fun s t => (y_I h 1378 (5 * (6 * b + s) + t)).toNatClampNeg, a1, a2, a3, a4, fun s hs => ?_⟩
  obtain ⟨H, f, v, f1, f2, f3, f4, f5, f6, f7, f8, f9, f10, f11, f12, f13, f14, f15, f16, f17⟩ := a5 s hs
  dsimp only
  rw [f11, f14, i_cl (by omega), i_cl (by omega)]
  refine ⟨f9, f10, rfl, f12, rfl, f15, fun t ht => ?_⟩
  obtain ⟨o1, o2, o3, o4, o6, o7⟩ := f17 t ht
  have o5 := f16 t (by omega)
  rw [if_pos ht] at o5
  rw [o2, i_cl (by omega)]
  exact ⟨o1, rfl, o5, o3, o4, o6, o7⟩
theorem okB_of (R : RelP h t e N C S A) (hb : b < 10) (hm : m ≤ 4) (hF : bayN h N b m F Hh bv) (ms : y_I h 1122 b = nI m) (h6 : ofs F m ≤ 6) (hW : W ≤ 5) (ew : ∀ o, o < W → wn o < N) (ei : ∀ o o2, o < W → o2 < W → wn o = wn o2 → o = o2) (al : ∀ o, o < W → y_I h 418 (wn o) = 1 ∧ y_I h 482 (wn o) = nI b) : okB m W F Hh bv wn := by
  obtain ⟨w, rT, rM, rB, rC, rS, rV, rL, rJ, rP, rH, rD, rQ, rK⟩ := id R
  have hN := rB.1
  have F5 : ∀ s, s < m → F s ≤ 5 := fun s hs => Nat.le_trans (hF s hs).2.1 (hF s hs).1
  refine ⟨hm, hW, h6, fun s hs => ⟨(hF s hs).2.1, (hF s hs).1⟩, fun s t s2 t2 hs ht hs2 ht2 e9 => ?_, ei, fun o ho => ?_⟩
  · obtain ⟨b1, b2, b3, b4, b5, b6, b7⟩ := (hF s hs).2.2.2.2.2.2 t ht
    obtain ⟨d1, d2, d3, d4, d5, d6, d7⟩ := (hF s2 hs2).2.2.2.2.2.2 t2 ht2
    have x1 := F5 s hs
    have x2 := F5 s2 hs2
    rw [← e9, b6] at d6
    rw [← e9, b7] at d7
    rw [i_eq (by omega)] at d6
    rw [i_eq (by omega)] at d7
    exact ⟨d6, d7⟩
  · obtain ⟨a1, a2⟩ := al o ho
    have v : okp h C S (y_I h 418 (wn o)) (y_I h 482 (wn o)) (y_I h 546 (wn o)) (y_I h 610 (wn o)) := (rH.1 0 (Nat.zero_le _)).1 (wn o) (ew o ho)
    have lN := ew o ho
    rcases v with ⟨z, -⟩ | ⟨b', m', s, H, t, z1, z2, z3, z4, z5, z6, z7, z8, -, y1, y2, y3⟩ | ⟨c, z1, z, -⟩ | ⟨s, k, u, v, x, z1, z2, z3, z4, z5, z6, z7, z8, z, -⟩ | ⟨z, -⟩
    · rw [a1] at z; exact absurd z (by decide)
    · rw [a2, i_eq (by omega)] at y1
      subst y1
      rw [ms, i_eq (by omega)] at z3
      subst z3
      obtain ⟨f, tf, f5, ef, es⟩ := rP.2.1 (wn o) b s t lN a1 a2 y2 y3 hb (by omega) (by omega)
      have x1 := F5 s z4
      rw [(hF s z4).2.2.2.2.1, i_eq (by omega)] at ef
      obtain ⟨b1, b2, -⟩ := (hF s z4).2.2.2.2.2.2 t (by omega)
      rw [b2, i_eq (by omega)] at es
      exact ⟨s, t, z4, by omega, es⟩
    · rw [a1] at z; exact absurd z (by decide)
    · rw [a1] at z; exact absurd z (by decide)
    · rw [a1] at z; exact absurd z (by decide)
def PLM9 (a k : Nat) : Prop := a = 2978 ∨ a = 3042 ∨ a = 3106 ∨ a = 3170 ∨ a = 3234 ∨ a = 2850 ∨ a = 2914 ∨ a = 11 ∧ (k = 57 ∨ k = 58 ∨ k = 59 ∨ k = 66 ∨ k = 68)
theorem rel_L9 (R : RelP h t e N C S A) (g : ag PL9 QL9 h X2) : Sh X2 ∧ RT X2 ∧ RM X2 ∧ RB X2 N ∧ RC X2 C ∧ RS X2 S ∧ RV X2 ∧ RLn X2 N S t ∧ RJ X2 A ∧ RP X2 N C S ∧ RH X2 N C S A ∧ True ∧ True ∧ RK X2 N C := by
  obtain ⟨w, rT, rM, rB, rC, rS, rV, rL, rJ, rP, rH, rD, rQ, rK⟩ := id R
  exact ⟨(Sh_ag g (by intro a k q; (simp only [FSh, PL9, QL9] at q ⊢) <;> omega) (by intro a q; (simp only [GSh, PL9, QL9, not_false_eq_true] at q ⊢) <;> omega) w), (RT_ag g (by intro a k q; (simp only [FRT, PL9, QL9] at q ⊢) <;> omega) (by intro a q; (simp only [GRT, PL9, QL9, not_false_eq_true] at q ⊢) <;> omega) rT), (RM_ag g (by intro a k q; (simp only [FRM, PL9, QL9] at q ⊢) <;> omega) (by intro a q; (simp only [GRM, PL9, QL9, not_false_eq_true] at q ⊢) <;> omega) rM), (RB_ag g (by intro a k q; (simp only [FRB, PL9, QL9] at q ⊢) <;> omega) (by intro a q; (simp only [GRB, PL9, QL9, not_false_eq_true] at q ⊢) <;> omega) rB), (RC_ag g (by intro a k q; (simp only [FRC, PL9, QL9] at q ⊢) <;> omega) (by intro a q; (simp only [GRC, PL9, QL9, not_false_eq_true] at q ⊢) <;> omega) rC), (RS_ag g (by intro a k q; (simp only [FRS, PL9, QL9] at q ⊢) <;> omega) (by intro a q; (simp only [GRS, PL9, QL9, not_false_eq_true] at q ⊢) <;> omega) rS), (RV_ag g (by intro a k q; (simp only [FRV, PL9, QL9] at q ⊢) <;> omega) (by intro a q; (simp only [GRV, PL9, QL9, not_false_eq_true] at q ⊢) <;> omega) rV), (RLn_ag g (by intro a k q; (simp only [FRLn, PL9, QL9] at q ⊢) <;> omega) (by intro a q; (simp only [GRLn, PL9, QL9, not_false_eq_true] at q ⊢) <;> omega) rL), (RJ_ag g (by intro a k q; (simp only [FRJ, PL9, QL9] at q ⊢) <;> omega) (by intro a q; (simp only [GRJ, PL9, QL9, not_false_eq_true] at q ⊢) <;> omega) rJ), (RP_ag g (by intro a k q; (simp only [FRP, PL9, QL9] at q ⊢) <;> omega) (by intro a q; (simp only [GRP, PL9, QL9, not_false_eq_true] at q ⊢) <;> omega) rP), (RH_ag g (by intro a k q; (simp only [FRH, PL9, QL9] at q ⊢) <;> omega) (by intro a q; (simp only [GRH, PL9, QL9, not_false_eq_true] at q ⊢) <;> omega) rH), trivial, trivial, (RK_ag g (by intro a k q; (simp only [FRK, PL9, QL9] at q ⊢) <;> omega) (by intro a q; (simp only [GRK, PL9, QL9, not_false_eq_true] at q ⊢) <;> omega) rK)⟩
theorem rel_M9 (R : Sh X2 ∧ RT X2 ∧ RM X2 ∧ RB X2 N ∧ RC X2 C ∧ RS X2 S ∧ RV X2 ∧ RLn X2 N S t ∧ RJ X2 A ∧ RP X2 N C S ∧ RH X2 N C S A ∧ True ∧ True ∧ RK X2 N C) (rD2 : RD G2 N) (rQ : RQ X2 e) (g : ag PLM9 (fun _ => False) X2 G2) : RelP G2 t e N C S A := by
  obtain ⟨w, rT, rM, rB, rC, rS, rV, rL, rJ, rP, rH, -, -, rK⟩ := id R
  exact ⟨(Sh_ag g (by intro a k q; (simp only [FSh, PLM9] at q ⊢) <;> omega) (by intro a q; (simp only [GSh, PLM9, not_false_eq_true] at q ⊢) <;> omega) w), (RT_ag g (by intro a k q; (simp only [FRT, PLM9] at q ⊢) <;> omega) (by intro a q; (simp only [GRT, PLM9, not_false_eq_true] at q ⊢) <;> omega) rT), (RM_ag g (by intro a k q; (simp only [FRM, PLM9] at q ⊢) <;> omega) (by intro a q; (simp only [GRM, PLM9, not_false_eq_true] at q ⊢) <;> omega) rM), (RB_ag g (by intro a k q; (simp only [FRB, PLM9] at q ⊢) <;> omega) (by intro a q; (simp only [GRB, PLM9, not_false_eq_true] at q ⊢) <;> omega) rB), (RC_ag g (by intro a k q; (simp only [FRC, PLM9] at q ⊢) <;> omega) (by intro a q; (simp only [GRC, PLM9, not_false_eq_true] at q ⊢) <;> omega) rC), (RS_ag g (by intro a k q; (simp only [FRS, PLM9] at q ⊢) <;> omega) (by intro a q; (simp only [GRS, PLM9, not_false_eq_true] at q ⊢) <;> omega) rS), (RV_ag g (by intro a k q; (simp only [FRV, PLM9] at q ⊢) <;> omega) (by intro a q; (simp only [GRV, PLM9, not_false_eq_true] at q ⊢) <;> omega) rV), (RLn_ag g (by intro a k q; (simp only [FRLn, PLM9] at q ⊢) <;> omega) (by intro a q; (simp only [GRLn, PLM9, not_false_eq_true] at q ⊢) <;> omega) rL), (RJ_ag g (by intro a k q; (simp only [FRJ, PLM9] at q ⊢) <;> omega) (by intro a q; (simp only [GRJ, PLM9, not_false_eq_true] at q ⊢) <;> omega) rJ), (RP_ag g (by intro a k q; (simp only [FRP, PLM9] at q ⊢) <;> omega) (by intro a q; (simp only [GRP, PLM9, not_false_eq_true] at q ⊢) <;> omega) rP), (RH_ag g (by intro a k q; (simp only [FRH, PLM9] at q ⊢) <;> omega) (by intro a q; (simp only [GRH, PLM9, not_false_eq_true] at q ⊢) <;> omega) rH), rD2, (RQ_ag g (by intro a k q; (simp only [FRQ, PLM9] at q ⊢) <;> omega) (by intro a q; (simp only [GRQ, PLM9, not_false_eq_true] at q ⊢) <;> omega) rQ), (RK_ag g (by intro a k q; (simp only [FRK, PLM9] at q ⊢) <;> omega) (by intro a q; (simp only [GRK, PLM9, not_false_eq_true] at q ⊢) <;> omega) rK)⟩
def RB9 (h : y_H) : Prop := y_I h 11 59 = -9 ∧ y_P h 14 6 = 0 ∨ ∃ b, b < 10 ∧ y_I h 11 59 = nI b ∧ y_P h 14 6 = 64 * b + 23 ∧ y_B h 994 b = true
theorem RD_re (R2 : RWC G Fa Ta cp) (hW : W ≤ 5) (w1 : y_I G 14 1 = nI W) (w2 : y_I G 11 55 = nI W) (w3 : ∀ i, i < W → wn i < N ∧ y_P G 38 i = 64 * wn i + 20 ∧ y_I G 2786 i = nI (wn i)) (w4 : ∀ i j, i < W → j < W → wn i = wn j → i = j) (hq : q < 40) (q1 : y_I G 14 5 = nI (q + 1)) (q2 : y_I G 11 57 = nI (q + 1)) (rb : RB9 G) (hL : L ≤ cp) (l1 : y_I G 14 4 = nI L) (l2 : y_I G 11 58 = nI L) (l3 : ∀ i, i < L → y_I G Fa i = y_I G 2850 i ∧ y_I G Ta i = y_I G 2914 i) : RD G N := by
  obtain ⟨h1, h2, h3, ⟨r1, r2, r3, r4, r5, r6⟩, h5⟩ := R2
  refine ⟨⟨W, wn, hW, w1, w2, w3, w4⟩, ⟨q + 1, by omega, q1, q2⟩, rb, L, cp, hL, h1, h2, l1, l2, ?_, h5⟩
  rcases h3 with ⟨z, rfl, rfl⟩ | ⟨z, rfl, rfl⟩
  · exact Or.inl ⟨z, r1, r2, r3, r4, r5, r6, l3⟩
  · exact Or.inr ⟨z, r1, r2, r3, r4, r5, r6, l3⟩
theorem RWC_M (R2 : RWC X2 Fa Ta cp) (g : ag PLM9 (fun _ => False) X2 G2) : RWC G2 Fa Ta cp := by
  obtain ⟨h1, h2, h3, ⟨r1, r2, r3, r4, r5, r6⟩, h5⟩ := R2
  have K : ∀ a, y_K G2 a = y_K X2 a := fun a => g.K (fun z => z)
  have N9 : ∀ a, y_N G2 a = y_N X2 a := fun a => g.N (fun z => z)
  refine ⟨h1, h2, h3, ⟨(g.P (by unfold PLM9; omega)).trans r1, (g.P (by unfold PLM9; omega)).trans r2, ?_, ?_, ?_, ?_⟩, fun m hm => ?_⟩
  · rw [K]; exact r3
  · rw [K]; exact r4
  · rw [N9]; exact r5
  · rw [N9]; exact r6
  · rw [K, K]; exact h5 m hm
def JC9 (h X2 : y_H) (m W : Nat) (F Hh : Nat → Nat) (bv : Nat → Nat → Nat) (wn : Nat → Nat) (Fa Ta cp b : Nat) (r1 : Int32) : Prop := (r1 = -9 ∧ y_I X2 14 4 = 0 ∧ y_P X2 14 6 = y_P h 14 6 ∧ noway (sysB m W F Hh bv wn) (Bc F m 0)) ∨ ∃ E, MinG (sysB m W F Hh bv wn).cl (mpd (sysB m W F Hh bv wn) (Bc F m 0)) E ∧ ln E ≤ cp ∧ r1 = nI (ln E) ∧ y_I X2 14 4 = nI (ln E) ∧ y_P X2 14 6 = 64 * b + 23 ∧ RW E (y_I X2 Fa) (y_I X2 Ta)
def JM9 (Gm G2 : y_H) (m W : Nat) (F Hh : Nat → Nat) (bv : Nat → Nat → Nat) (wn : Nat → Nat) (b : Nat) (r2 : Int32) : Prop := (r2 = -9 ∧ y_I G2 11 58 = 0 ∧ y_I G2 11 59 = y_I Gm 11 59 ∧ ∀ e2 D2, Rn (sysB m W F Hh bv wn).step (Bc F m 0) e2 D2 → (sysB m W F Hh bv wn).out D2 ≠ (sysB m W F Hh bv wn).W) ∨ ∃ E, MinG (sysB m W F Hh bv wn) (Bc F m 0) E ∧ r2 = nI (ln E) ∧ y_I G2 11 58 = nI (ln E) ∧ y_I G2 11 59 = nI b ∧ RW E (y_I G2 2850) (y_I G2 2914)
/-- the two searches end alike -/
theorem ends9 {r1 r2 : Int32} (k : okB m W F Hh bv wn) (R2 : RWC X2 Fa Ta cp) (gm : ag PLM9 (fun _ => False) X2 G2)
    (J : JC9 h X2 m W F Hh bv wn Fa Ta cp b r1)
    (J2 : JM9 Gm G2 m W F Hh bv wn b r2) (n59 : y_I Gm 11 59 = y_I h 11 59) :
    r1 = r2 ∧ ∃ L, L ≤ cp ∧ y_I G2 14 4 = nI L ∧ y_I G2 11 58 = nI L ∧ (∀ i, i < L → y_I G2 Fa i = y_I G2 2850 i ∧ y_I G2 Ta i = y_I G2 2914 i) ∧ (y_I G2 11 59 = y_I h 11 59 ∧ y_P G2 14 6 = y_P h 14 6 ∨ y_I G2 11 59 = nI b ∧ y_P G2 14 6 = 64 * b + 23) := by
  have O := sys_ok k
  have i4 : y_I G2 14 4 = y_I X2 14 4 := gm.I (by unfold PLM9; omega)
  have p6 : y_P G2 14 6 = y_P X2 14 6 := gm.P (by unfold PLM9; omega)
  rcases J with ⟨a1, a2, a3, nw⟩ | ⟨E, mE, lE, a1, a2, a3, rE⟩
  · rcases J2 with ⟨d1, d2, d3, -⟩ | ⟨E2, ⟨⟨D, rD, oD⟩, -⟩, -⟩
    · exact ⟨a1.trans d1.symm, 0, Nat.zero_le _, i4.trans a2, d2, fun i hi => absurd hi (by omega), Or.inl ⟨d3.trans n59, p6.trans a3⟩⟩
    · exact (nw E2 (mpd (sysB m W F Hh bv wn) D) (Rn.mp (dg_q O) rD) ((cl_out D).trans oD)).elim
  · have mE' := mE.cl O
    rcases J2 with ⟨d1, d2, d3, nw⟩ | ⟨E2, mE2, d1, d2, d3, rE2⟩
    · obtain ⟨⟨D, rD, oD⟩, -⟩ := mE'
      exact (nw E D rD oD).elim
    · have eE := mE'.one mE2
      subst eE
      have hFT := R2.2.2.1
      have c4 := R2.2.1
      have u1 : y_I G2 Fa = y_I X2 Fa := gm.rI (fun k => by unfold PLM9; omega)
      have u2 : y_I G2 Ta = y_I X2 Ta := gm.rI (fun k => by unfold PLM9; omega)
      refine ⟨a1.trans d1.symm, ln E, lE, i4.trans a2, d2, fun i hi => ?_, Or.inr ⟨d3, p6.trans a3⟩⟩
      rw [u1, u2]
      exact RW_eq E E (Nat.le_refl _) rE rE2 i hi
end LTM
