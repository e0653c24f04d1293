/-! undo: the latest act with a box, what it was and what is now -/
section UD
variable {h : y_H} {t e N C S A n : Nat}
theorem oB1 {f m : Nat} {cur : Nat → Int32} (q : y_I h 2722 (14 * (A - 1) + 5) = nI m) : oB h A 1 f cur m = y_I h 2722 (14 * (A - 1) + f) := if_pos q
theorem oB0 {f m : Nat} {cur : Nat → Int32} (q : ¬ y_I h 2722 (14 * (A - 1) + 5) = nI m) : oB h A 1 f cur m = cur m := if_neg q
theorem oC1 {f m : Nat} {cur : Nat → Int32} (q : y_I h 2722 (14 * (A - 1) + 1) = nI m) : oC h A 1 f cur m = y_I h 2722 (14 * (A - 1) + f) := if_pos q
theorem oC0 {f m : Nat} {cur : Nat → Int32} (q : ¬ y_I h 2722 (14 * (A - 1) + 1) = nI m) : oC h A 1 f cur m = cur m := if_neg q
theorem oS1 {f m : Nat} {cur : Nat → Int32} (q : y_I h 2722 (14 * (A - 1) + 11) = nI m) : oS h A 1 f cur m = y_I h 2722 (14 * (A - 1) + f) := if_pos q
theorem oS0 {f m : Nat} {cur : Nat → Int32} (q : ¬ y_I h 2722 (14 * (A - 1) + 11) = nI m) : oS h A 1 f cur m = cur m := if_neg q
theorem v54 {u v w k : Nat} (hu : u ≤ 6) (hv : v ≤ 3) (hw : w ≤ 3) (hk : k < u * v * w) : k < 54 := by
  have := Nat.mul_le_mul (Nat.mul_le_mul hu hv) hw
  omega
/-- a stack, all that is said of it -/
def stq (h : y_H) (b m s H f : Nat) : Prop := b < 10 ∧ y_B h 994 b = true ∧ y_I h 1122 b = nI m ∧ s < m ∧ m ≤ 6 ∧ y_I h 1186 (6 * b + s) = nI H ∧ f < H ∧ H ≤ 5
theorem u_ctx (R : RelP h t e N C S A) (hA : 1 ≤ A) (hn : n < N) (kb : y_I h 2722 (14 * (A - 1) + 5) = nI n) : ∃ c, c < C ∧ y_I h 2722 (14 * (A - 1) + 1) = nI c ∧ ((y_I h 418 n = 2 ∧ y_I h 482 n = nI c ∧ y_I h 2722 (14 * (A - 1) + 3) = -1 ∧ (
      ((y_I h 2722 (14 * (A - 1) + 6) = 0 ∨ y_I h 2722 (14 * (A - 1) + 6) = 4) ∧ y_I h 2722 (14 * (A - 1) + 7) = 0 ∧ y_I h 2722 (14 * (A - 1) + 8) = 0 ∧ y_I h 2722 (14 * (A - 1) + 9) = 0)
      ∨ (∃ b m s H f, stq h b m s H f ∧ y_I h 2722 (14 * (A - 1) + 6) = 1 ∧ y_I h 2722 (14 * (A - 1) + 7) = nI b ∧ y_I h 2722 (14 * (A - 1) + 8) = nI s ∧ y_I h 2722 (14 * (A - 1) + 9) = nI f ∧ y_I h 1314 (6 * b + s) = nI f)
      ∨ ∃ s k, s < S ∧ k < 54 ∧ y_I h 2722 (14 * (A - 1) + 6) = 3 ∧ y_I h 2722 (14 * (A - 1) + 7) = nI s ∧ y_I h 2722 (14 * (A - 1) + 8) = nI k ∧ y_I h 2722 (14 * (A - 1) + 9) = 0 ∧ y_I h 2210 (54 * s + k) = -1))
    ∨ (y_I h 2722 (14 * (A - 1) + 6) = 2 ∧ y_I h 2722 (14 * (A - 1) + 7) = nI c ∧ y_I h 2722 (14 * (A - 1) + 8) = 0 ∧ y_I h 2722 (14 * (A - 1) + 9) = 0 ∧ y_I h 2722 (14 * (A - 1) + 3) = nI n ∧ (
      (y_I h 418 n = 0 ∨ y_I h 418 n = 4)
      ∨ (∃ b m s H f, stq h b m s H f ∧ y_I h 418 n = 1 ∧ y_I h 482 n = nI b ∧ y_I h 546 n = nI s ∧ y_I h 610 n = nI f ∧ y_I h 1314 (6 * b + s) = nI (f + 1))
      ∨ ∃ s k, s < S ∧ k < 54 ∧ y_I h 418 n = 3 ∧ y_I h 482 n = nI s ∧ y_I h 546 n = nI k ∧ y_I h 2210 (54 * s + k) = nI n))) := by
  obtain ⟨w, rT, rM, rB, rC, rS, rV, rL, rJ, rP, rH, rD, rQ, rK⟩ := id R
  obtain ⟨j1, j2, j3, o, j4, j5, j6, j7⟩ := id rJ
  have V0 := rH.1 0 (Nat.zero_le _)
  have V1 := rH.1 1 hA
  obtain ⟨a1, a2, a3, a4, a5, a6⟩ := rH.2 0 (by omega) o j4 j5
  obtain ⟨c, hc, kc, epl, hx⟩ := a4 n hn kb
  have hN := rB.1
  have hC := rC.1
  have hS := rS.1
  refine ⟨c, hc, kc, ?_⟩
  obtain ⟨u1, u2, u3, u4, u5, u6, u7, u8⟩ := V0
  obtain ⟨v1, v2, v3, v4, v5, v6, v7, v8⟩ := V1
  obtain ⟨p1, p2, p3, p4⟩ := id rP
  have b1 : ∀ f cur, oB h A 1 f cur n = y_I h 2722 (14 * (A - 1) + f) := fun f cur => oB1 kb
  have b0 : ∀ f cur m, m < N → m ≠ n → oB h A 1 f cur m = cur m := fun f cur m hm ne => oB0 (by
    rw [kb, i_eq (by omega)]
    exact fun z => ne z.symm)
  have c1 : ∀ f cur, oC h A 1 f cur c = y_I h 2722 (14 * (A - 1) + f) := fun f cur => oC1 kc
  have vn := v1 n hn
  rw [b1, b1, b1, b1] at vn
  have un : okp h C S (y_I h 418 n) (y_I h 482 n) (y_I h 546 n) (y_I h 610 n) := u1 n hn
  rcases hx with ⟨q1, q2, q3⟩ | ⟨q1, q2, q3⟩
  · right
    have q1 : y_I h 2722 (14 * (A - 1) + 6) = 2 := (b1 6 (y_I h 418)).symm.trans q1
    have q2 : y_I h 2722 (14 * (A - 1) + 7) = nI c := (b1 7 (y_I h 482)).symm.trans q2
    have q3 : y_I h 418 n ≠ 2 := q3
    have hd := v2 n c hn hc ((b1 6 (y_I h 418)).trans q1) ((b1 7 (y_I h 482)).trans q2)
    rw [c1] at hd
    rcases vn with ⟨z, -⟩ | ⟨b, m, s, H, f, -, -, -, -, -, -, -, -, z, -⟩ | ⟨c', hc', z1, z2, z3, z4⟩ | ⟨s, k, u, v, w9, -, -, -, -, -, -, -, -, z, -⟩ | ⟨z, -⟩
    · rw [z] at q1; exact absurd q1 (by decide)
    · rw [z] at q1; exact absurd q1 (by decide)
    · refine ⟨q1, q2, z3, z4, hd, ?_⟩
      rcases un with ⟨z, -⟩ | ⟨b, m, s, H, f, y1, y2, y3, y4, y5, y6, y7, y8, y9, y10, y11, y12⟩ | ⟨c', -, z, -⟩ | ⟨s, k, u, v, w9, y1, y2, y3, y4, y5, y6, y7, y8, y9, y10, y11, y12⟩ | ⟨z, -⟩
      · exact Or.inl (Or.inl z)
      · refine Or.inr (Or.inl ⟨b, m, s, H, f, ⟨y1, y2, y3, y4, y5, y6, y7, y8⟩, y9, y10, y11, y12, ?_⟩)
        obtain ⟨F, f1, f2, f3, f4⟩ := p2 n b s f hn y9 y10 y11 y12 y1 (by omega) (by omega)
        rw [f3]
        by_cases eF : F = f + 1
        · rw [eF]
        exfalso
        obtain ⟨x, hx, x1, x2, x3, x4, x5⟩ := p1 b m s F (f + 1) y1 y2 y3 y4 y5 f3 f2 (by omega)
        have xn : x ≠ n := fun z => by
          rw [z, y12, i_eq (by omega)] at x5
          omega
        obtain ⟨n', hn', z1, z2, z3, z4⟩ := v5 x f hx (by rw [b0 _ _ x hx xn]; exact x2) (by rw [b0 _ _ x hx xn]; exact x5) (by omega)
        have nn : n' ≠ n := fun z => by
          rw [z, b1, q1] at z1
          exact absurd z1 (by decide)
        rw [b0 _ _ n' hn' nn] at z1
        rw [b0 _ _ n' hn' nn, b0 _ _ x hx xn] at z2
        rw [b0 _ _ n' hn' nn, b0 _ _ x hx xn] at z3
        rw [b0 _ _ n' hn' nn] at z4
        exact nn (u4 n' n hn' hn (z1.trans y9.symm) (Or.inl z1) (z2.trans (x3.trans y10.symm)) (z3.trans (x4.trans y11.symm)) (z4.trans y12.symm))
      · exact absurd z q3
      · have k54 := v54 y6 y7 y8 y5
        exact Or.inr (Or.inr ⟨s, k, y1, k54, y9, y10, y11, p4 n s k hn y9 y10 y11 y1 k54⟩)
      · exact Or.inl (Or.inr z)
    · rw [z] at q1; exact absurd q1 (by decide)
    · rw [z] at q1; exact absurd q1 (by decide)
  · left
    have q1 : y_I h 418 n = 2 := q1
    have q2 : y_I h 482 n = nI c := q2
    have q3 : y_I h 2722 (14 * (A - 1) + 6) ≠ 2 := fun z => q3 ((b1 6 (y_I h 418)).trans z)
    have hh : y_I h 1698 c = nI n := u2 n c hn hc q1 q2
    refine ⟨q1, q2, ?_, ?_⟩
    · rcases v3 c hc with z | ⟨m, hm, z1, z2, z3⟩
      · rw [c1] at z
        exact z
      · exfalso
        by_cases e : m = n
        · rw [e, b1] at z2
          exact q3 z2
        · rw [b0 _ _ m hm e] at z2
          rw [b0 _ _ m hm e] at z3
          have z4 : y_I h 1698 c = nI m := u2 m c hm hc z2 z3
          rw [hh, i_eq (by omega)] at z4
          exact e z4.symm
    rcases vn with ⟨z1, z2, z3, z4⟩ | ⟨b, m, s, H, f, y1, y2, y3, y4, y5, y6, y7, y8, y9, y10, y11, y12⟩ | ⟨c', -, z, -⟩ | ⟨s, k, u, v, w9, y1, y2, y3, y4, y5, y6, y7, y8, y9, y10, y11, y12⟩ | ⟨z1, z2, z3, z4⟩
    · exact Or.inl ⟨Or.inl z1, z2, z3, z4⟩
    · refine Or.inr (Or.inl ⟨b, m, s, H, f, ⟨y1, y2, y3, y4, y5, y6, y7, y8⟩, y9, y10, y11, y12, ?_⟩)
      have vb := rV b y1
      unfold vx at vb
      rw [if_pos y2] at vb
      obtain ⟨-, -, -, -, m', hm1, hm6, em, -, hst⟩ := vb
      rw [y3, i_eq (by omega)] at em
      have st := hst s (by omega)
      unfold stk at st
      rw [if_pos (by omega)] at st
      obtain ⟨H', F, -, hH5, hF, -, -, -, eF, -⟩ := st
      have F5 : F ≤ 5 := by omega
      rw [eF]
      by_cases e1 : F = f
      · rw [e1]
      exfalso
      by_cases e2 : f < F
      · obtain ⟨x, hx, x1, x2, x3, x4, x5⟩ := p1 b m s F f y1 y2 y3 y4 y5 eF F5 e2
        have xn : x ≠ n := fun z => by
          rw [z, q1] at x2
          exact absurd x2 (by decide)
        refine xn (v4 x n hx hn ?_ ?_ ?_ ?_ ?_)
        · rw [b0 _ _ x hx xn, b1]; exact x2.trans y9.symm
        · rw [b0 _ _ x hx xn]; exact Or.inl x2
        · rw [b0 _ _ x hx xn, b1]; exact x3.trans y10.symm
        · rw [b0 _ _ x hx xn, b1]; exact x4.trans y11.symm
        · rw [b0 _ _ x hx xn, b1]; exact x5.trans y12.symm
      · obtain ⟨g, eg⟩ : ∃ g, f = g + 1 := ⟨f - 1, by omega⟩
        obtain ⟨n', hn', z1, z2, z3, z4⟩ := v5 n g hn ((b1 _ _).trans y9) ((b1 _ _).trans (by rw [y12, eg])) (by omega)
        have nn : n' ≠ n := fun z => by
          rw [z, b1, y12, i_eq (by omega)] at z4
          omega
        rw [b0 _ _ n' hn' nn] at z1
        rw [b0 _ _ n' hn' nn, b1] at z2
        rw [b0 _ _ n' hn' nn, b1] at z3
        rw [b0 _ _ n' hn' nn] at z4
        obtain ⟨F', f1, f2, f3, f4⟩ := p2 n' b s g hn' z1 (z2.trans y10) (z3.trans y11) z4 y1 (by omega) (by omega)
        rw [eF, i_eq (by omega)] at f3
        omega
    · exact absurd z q3
    · have k54 := v54 y6 y7 y8 y5
      refine Or.inr (Or.inr ⟨s, k, y1, k54, y9, y10, y11, y12, ?_⟩)
      rcases p3 s k y1 k54 with z | ⟨x, hx, x1, x2, x3, x4⟩
      · exact z
      exfalso
      have xn : x ≠ n := fun z => by
        rw [z, q1] at x2
        exact absurd x2 (by decide)
      have x5 : okp h C S (y_I h 418 x) (y_I h 482 x) (y_I h 546 x) (y_I h 610 x) := u1 x hx
      have x6 : y_I h 610 x = 0 := by
        rcases x5 with ⟨z, -⟩ | ⟨b, m, s, H, f, -, -, -, -, -, -, -, -, z, -⟩ | ⟨c', -, z, -⟩ | ⟨s, k, u, v, w9, -, -, -, -, -, -, -, -, -, -, -, z⟩ | ⟨z, -⟩
        · rw [z] at x2; exact absurd x2 (by decide)
        · rw [z] at x2; exact absurd x2 (by decide)
        · rw [z] at x2; exact absurd x2 (by decide)
        · exact z
        · rw [z] at x2; exact absurd x2 (by decide)
      refine xn (v4 x n hx hn ?_ ?_ ?_ ?_ ?_)
      · rw [b0 _ _ x hx xn, b1]; exact x2.trans y9.symm
      · rw [b0 _ _ x hx xn]; exact Or.inr x2
      · rw [b0 _ _ x hx xn, b1]; exact x3.trans y10.symm
      · rw [b0 _ _ x hx xn, b1]; exact x4.trans y11.symm
      · rw [b0 _ _ x hx xn, b1]; exact x6.trans y12.symm
    · exact Or.inl ⟨Or.inr z1, z2, z3, z4⟩
end UD
