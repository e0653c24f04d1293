/-! back: the class's digest; what the rows hold -/
section BL
variable {h X G : y_H} {t e N C S A n c s r o : Nat}
theorem vB0 (n : Nat) : vBk h A r (5 * n) = oB h A r 6 (y_I h 418) n ∧ vBk h A r (5 * n + 1) = oB h A r 7 (y_I h 482) n ∧ vBk h A r (5 * n + 2) = oB h A r 8 (y_I h 546) n ∧ vBk h A r (5 * n + 3) = oB h A r 9 (y_I h 610) n ∧ vBk h A r (5 * n + 4) = oW h A r n := by
  unfold vBk
  refine ⟨?_, ?_, ?_, ?_, ?_⟩
  · rw [if_pos (by omega), show 5 * n / 5 = n by omega]
  · rw [if_neg (by omega), if_pos (by omega), show (5 * n + 1) / 5 = n by omega]
  · rw [if_neg (by omega), if_neg (by omega), if_pos (by omega), show (5 * n + 2) / 5 = n by omega]
  · rw [if_neg (by omega), if_neg (by omega), if_neg (by omega), if_pos (by omega), show (5 * n + 3) / 5 = n by omega]
  · rw [if_neg (by omega), if_neg (by omega), if_neg (by omega), if_neg (by omega), show (5 * n + 4) / 5 = n by omega]
theorem vC0 (n : Nat) : vCk h A r (3 * n) = oC h A r 2 (y_I h 1634) n ∧ vCk h A r (3 * n + 1) = oC h A r 3 (y_I h 1698) n ∧ vCk h A r (3 * n + 2) = oC h A r 4 (y_I h 1762) n := by
  unfold vCk
  refine ⟨?_, ?_, ?_⟩
  · rw [if_pos (by omega), show 3 * n / 3 = n by omega]
  · rw [if_neg (by omega), if_pos (by omega), show (3 * n + 1) / 3 = n by omega]
  · rw [if_neg (by omega), if_neg (by omega), show (3 * n + 2) / 3 = n by omega]
theorem vS0 (n : Nat) : vSk h A r (2 * n) = oS h A r 12 (y_I h 2466) n ∧ vSk h A r (2 * n + 1) = oS h A r 13 (y_I h 2530) n := by
  unfold vSk
  refine ⟨?_, ?_⟩
  · rw [if_pos (by omega), show 2 * n / 2 = n by omega]
  · rw [if_neg (by omega), show (2 * n + 1) / 2 = n by omega]
def Dg (h : y_H) (N C S A r : Nat) : Int64 := fo (vSk h A r) (fo (vCk h A r) (fo (vBk h A r) 17 (5 * N)) (3 * C)) (2 * S)
theorem c_digest (R : RelP h t e N C S A) (hr : r ≤ A) : wp (f_X5_digestBefore 13 12 (nI r) h) fun d h' => d = Dg h N C S A r ∧ ag (fun a _ => a = 18) (fun _ => False) h h' := by
  obtain ⟨W, rT, rM, rB, rC, rS, rV, rL, rJ, rP, rH, rD, rQ, rK⟩ := id R
  have hN := rB.1
  have hC := rC.1
  have hS := rS.1
  obtain ⟨j1, j2, j3, o, ho, eo, hja, -⟩ := id rJ
  suffices Hs : ∀ Q : Int64 → y_H → Prop, (∀ h', ag (fun a _ => a = 18) (fun _ => False) h h' → Q (Dg h N C S A r) h') → wp (f_X5_digestBefore 13 12 (nI r) h) Q from Hs _ (fun _ q => ⟨rfl, q⟩)
  intro Q hQ
  unfold f_X5_digestBefore
  refine wp_jl (fun m j => ∀ n X, n ≤ N → N - n < m → ag (fun a _ => a = 18) (fun _ => False) h X → wp (j 13 12 (nI r) (fo (vBk h A r) 17 (5 * n)) (nI n) X) Q) (fun n _ _ z => absurd z (by omega)) (fun m j IH n X hn hm g => ?_) (fun j IH => IH 0 h (by omega) (by unfold y_fu; omega) (ag.refl _ _ _))
  have w := Sh18 W g
  have e1 : y_I X 12 1 = nI N := (g.I (by omega)).trans rB.2.1
  by_cases en : n = N
  rotate_left
  · have q : ¬ nI N ≤ nI n := nI_ge (by omega) (by omega)
    have rBX : RB X N := (RB_ag g (by intro a k q; (simp only [FRB] at q ⊢) <;> omega) (by intro a q; (simp only [GRB, not_false_eq_true] at q ⊢) <;> omega) rB)
    have eb : f_X10_boxAt 12 (nI n) X = some (64 * n + 20, X) := by
      rcases c_boxAt w rBX (nI n) with ⟨n', hn', z, z2, -⟩ | ⟨z, -⟩
      · rw [i_eq (by omega)] at z
        rw [z]
        rw [z] at z2
        exact z2
      · exact absurd rfl (z n (by omega))
    obtain ⟨p, X', f1, f2, f3, f4, f5, f6, f7, f8, f9, f10⟩ := c_firstB (n := n) (r := r) R ho eo hja (by omega) hr g
    have w' := Sh18 W f2
    have ne : ¬ 64 * n + 20 = 0 := by omega
    obtain ⟨b1, b2, b3, b4, b5, b6, -⟩ := (rB.2.2.2.1 n (by omega)).1
    have k3 : y_K X' (64 * n + 20) = 3 := (f2.K fun q => q).trans b2
    have r3 : y_I X' (64 * n + 20) 3 = y_I h 162 n := (f2.I (by omega)).trans b6
    have r2 : y_I X' (64 * n + 20) 2 = y_I h 98 n := (f2.I (by omega)).trans b5
    obtain ⟨v0, v1, v2, v3, v4⟩ := vB0 (h := h) (A := A) (r := r) n
    have nx := IH (n + 1) X' (by omega) (by omega) f2
    rw [Nat.mul_succ, show fo (vBk h A r) 17 (5 * n + 5) = mx (mx (mx (mx (mx (fo (vBk h A r) 17 (5 * n)) (vBk h A r (5 * n))) (vBk h A r (5 * n + 1))) (vBk h A r (5 * n + 2))) (vBk h A r (5 * n + 3))) (vBk h A r (5 * n + 4)) from rfl, v0, v1, v2, v3, v4, ← f10] at nx
    cases hb : y_B X' p 6 with
    | true =>
      rw [hb, if_pos rfl] at nx
      simp only [w.1, e1, q, if_true, if_false, eb, e_cl, f1, e_jn, f3, f4, f5, ne, c_mixed, f6, f7, f8, f9, hb, k3, r3, nI_1]
      exact nx
    | false =>
      rw [hb, if_neg (by decide)] at nx
      simp only [w.1, e1, q, if_true, if_false, eb, e_cl, f1, e_jn, f3, f4, f5, ne, c_mixed, f6, f7, f8, f9, hb, k3, r2, nI_1, Bool.false_eq_true]
      exact nx
  subst en
  have q : nI n ≤ nI n := nI_le (Nat.le_refl _) (by omega)
  simp only [w.1, e1, q, if_true]
  refine wp_jl (fun m j => ∀ c X, c ≤ C → C - c < m → ag (fun a _ => a = 18) (fun _ => False) h X → wp (j 13 12 (nI r) (fo (vCk h A r) (fo (vBk h A r) 17 (5 * n)) (3 * c)) (nI c) X) Q) (fun n _ _ z => absurd z (by omega)) (fun m j IH2 c X hc hm2 g => ?_) (fun j IH2 => IH2 0 X (by omega) (by unfold y_fu; omega) g)
  have w := Sh18 W g
  have e4 : y_I X 12 4 = nI C := (g.I (by omega)).trans rC.2.1
  by_cases en : c = C
  rotate_left
  · have q : ¬ nI C ≤ nI c := nI_ge (by omega) (by omega)
    have eb := c_crane1 (c := c) w e4 hC (by omega) ((g.P (by omega)).trans (rC.2.2.2.1 c (by omega)).1.1)
    obtain ⟨p, X', f1, f2, f4, f6, f7, f8⟩ := c_firstC (c := c) (r := r) R ho eo hja (by omega) hr g
    have w' := Sh18 W f2
    obtain ⟨v0, v1, v2⟩ := vC0 (h := h) (A := A) (r := r) c
    have nx := IH2 (c + 1) X' (by omega) (by omega) f2
    rw [Nat.mul_succ, show ∀ d, fo (vCk h A r) d (3 * c + 3) = mx (mx (mx (fo (vCk h A r) d (3 * c)) (vCk h A r (3 * c))) (vCk h A r (3 * c + 1))) (vCk h A r (3 * c + 2)) from fun _ => rfl, v0, v1, v2] at nx
    simp only [w.1, e4, q, if_true, if_false, eb, e_cl, f1, f4, c_mixed, f6, f7, f8, nI_1]
    exact nx
  subst en
  have q : nI c ≤ nI c := nI_le (Nat.le_refl _) (by omega)
  simp only [w.1, e4, q, if_true]
  refine wp_jl (fun m j => ∀ s X, s ≤ S → S - s < m → ag (fun a _ => a = 18) (fun _ => False) h X → wp (j 13 12 (nI r) (fo (vSk h A r) (fo (vCk h A r) (fo (vBk h A r) 17 (5 * n)) (3 * c)) (2 * s)) (nI s) X) Q) (fun n _ _ z => absurd z (by omega)) (fun m j IH3 s X hs hm3 g => ?_) (fun j IH3 => IH3 0 X (by omega) (by unfold y_fu; omega) g)
  have w := Sh18 W g
  have e6 : y_I X 12 6 = nI S := (g.I (by omega)).trans rS.2.1
  by_cases en : s = S
  rotate_left
  · have q : ¬ nI S ≤ nI s := nI_ge (by omega) (by omega)
    have eb := c_ship1 (s := s) w e6 hS (by omega) ((g.P (by omega)).trans (rS.2.2.2.1 s (by omega)).1.1.1)
    obtain ⟨p, X', f1, f2, f4, f6, f7⟩ := c_firstS (s := s) (r := r) R ho eo hja (by omega) hr g
    obtain ⟨v0, v1⟩ := vS0 (h := h) (A := A) (r := r) s
    have nx := IH3 (s + 1) X' (by omega) (by omega) f2
    rw [Nat.mul_succ, show ∀ d, fo (vSk h A r) d (2 * s + 2) = mx (mx (fo (vSk h A r) d (2 * s)) (vSk h A r (2 * s))) (vSk h A r (2 * s + 1)) from fun _ => rfl, v0, v1] at nx
    simp only [w.1, e6, q, if_true, if_false, eb, e_cl, f1, f4, c_mixed, f6, f7, nI_1]
    exact nx
  subst en
  have q : nI s ≤ nI s := nI_le (Nat.le_refl _) (by omega)
  simp only [w.1, e6, q, if_true, wp_some]
  exact hQ _ g
end BL
