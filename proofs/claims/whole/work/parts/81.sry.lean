section SY
variable {h h0 h1 : y_H} {t e N C S A s u v w n : Nat}
theorem tot0 {d k : Nat} (z : y_I h 2210 (54 * s + k) = -1) : tot h s u v d (k + 1) = tot h s u v d k := by
  show (if y_I h 2210 (54 * s + k) < 0 then _ else _) = _
  rw [z, if_pos (by decide)]
theorem tot1 {d k : Nat} (hn : n < 80) (z : y_I h 2210 (54 * s + k) = nI n) : tot h s u v d (k + 1) = tot h s u v d k + kn h n * fc u v d k := by
  show (if y_I h 2210 (54 * s + k) < 0 then _ else _) = _
  have q : ¬ nI n < 0 := nI_nlt (b := 0) (Nat.zero_le _) (by omega)
  rw [z, if_neg q, i_cl (by omega), Int32.mul_comm (fc u v d k)]
def cnc (h : y_H) (s : Nat) : Nat → Int32
  | 0 => 0
  | k + 1 => if y_I h 2210 (54 * s + k) < 0 then cnc h s k else cnc h s k + 1
theorem cnc0 {k : Nat} (z : y_I h 2210 (54 * s + k) = -1) : cnc h s (k + 1) = cnc h s k := by
  show (if y_I h 2210 (54 * s + k) < 0 then _ else _) = _
  rw [z, if_pos (by decide)]
theorem cnc1 {k : Nat} (hn : n < 80) (z : y_I h 2210 (54 * s + k) = nI n) : cnc h s (k + 1) = cnc h s k + 1 := by
  show (if y_I h 2210 (54 * s + k) < 0 then _ else _) = _
  have q : ¬ nI n < 0 := nI_nlt (b := 0) (Nat.zero_le _) (by omega)
  rw [z, if_neg q]
theorem c_survey (V : sshape h s) (hu : 1 ≤ u ∧ u ≤ 6) (hv : 1 ≤ v ∧ v ≤ 3) (hw : 1 ≤ w ∧ w ≤ 3) (e8 : y_I h (64 * s + 22) 8 = nI u) (e9 : y_I h (64 * s + 22) 9 = nI v) (e10 : y_I h (64 * s + 22) 10 = nI w) (hN : N ≤ 80) (hb : ∀ n, n < N → bx h n) (hc : ∀ k, k < 54 → y_P h (64 * s + 25) k = pB (y_I h 2210 (54 * s + k))) (hh : ∀ k, k < 54 → y_I h 2210 (54 * s + k) = -1 ∨ ∃ n, n < N ∧ y_I h 2210 (54 * s + k) = nI n) : wp (f_X7_survey (64 * s + 22) h) fun _ h' => ag (fun a k => a = 64 * s + 27 ∨ a = 64 * s + 26 ∨ a = 64 * s + 22 ∧ k = 4) (fun _ => False) h h' ∧ (∀ d, d < 4 → y_I h' (64 * s + 27) d = tot h s u v d (u * v * w)) ∧ y_I h' (64 * s + 22) 4 = cnc h s (u * v * w) ∧ ∀ j, j < u * v * w → y_B h' (64 * s + 26) j = decide (¬ y_I h 2210 (54 * s + j) < 0) := by
  have V0 := V
  unfold sshape at V
  obtain ⟨v1, v2, v3, v4, v5, v6, v7, v8, v9, v10, v11, v12, v13, v14, v15, v16, v17, v18⟩ := V
  have uv : 1 ≤ u * v ∧ u * v ≤ 18 := ⟨Nat.mul_pos hu.1 hv.1, Nat.mul_le_mul hu.2 hv.2⟩
  have uvw : u * (v * w) ≤ 54 := by
    rw [← Nat.mul_assoc]
    exact Nat.mul_le_mul uv.2 hw.2
  have ef := c_fill (h := h) (p := 64 * s + 27) (n := 4) (v := 0) v13 v14 (by decide)
  unfold f_X7_survey
  simp only [v2, v6, if_true]
  refine wp_call ef (fun _ h1 q => ?_)
  obtain ⟨g1, l1⟩ := q
  have k1 : y_K h1 (64 * s + 22) = 8 := (g1.K (fun q => q)).trans v2
  simp only [k1, if_true, e_bd]
  refine wp_jq (fun m j Q9 => ∀ z h2, z ≤ w → w - z < m → ag (fun a k => a = 64 * s + 27 ∨ a = 64 * s + 26 ∨ a = 64 * s + 22 ∧ k = 4) (fun _ => False) h h2 → (∀ d, d < 4 → y_I h2 (64 * s + 27) d = tot h s u v d (u * (v * z))) ∧ y_I h2 (64 * s + 22) 4 = cnc h s (u * (v * z)) ∧ (∀ j, j < u * (v * z) → y_B h2 (64 * s + 26) j = decide (¬ y_I h 2210 (54 * s + j) < 0)) → wp (j (64 * s + 22) (nI z) h2) Q9) (fun z _ _ hm => absurd hm (by omega)) (fun m j IHz z h2 hz hm g l => ?_) (fun j IH => ?_)
  · have k2 : y_K h2 (64 * s + 22) = 8 := (g.K (fun q => q)).trans v2
    have f10 : y_I h2 (64 * s + 22) 10 = nI w := (g.I (by omega)).trans e10
    by_cases ez : z = w
    · subst ez
      have q : nI z ≤ nI z := nI_le (Nat.le_refl _) (by omega)
      simp only [k2, f10, q, if_true, wp_some]
      rw [Nat.mul_assoc]
      exact ⟨g, l⟩
    · have q : ¬ nI w ≤ nI z := nI_ge (by omega) (by omega)
      simp only [k2, f10, q, if_true, if_false]
      refine wp_jq (fun m j Q9 => ∀ y h2, y ≤ v → v - y < m → ag (fun a k => a = 64 * s + 27 ∨ a = 64 * s + 26 ∨ a = 64 * s + 22 ∧ k = 4) (fun _ => False) h h2 → (∀ d, d < 4 → y_I h2 (64 * s + 27) d = tot h s u v d (u * (y + v * z))) ∧ y_I h2 (64 * s + 22) 4 = cnc h s (u * (y + v * z)) ∧ (∀ j, j < u * (y + v * z) → y_B h2 (64 * s + 26) j = decide (¬ y_I h 2210 (54 * s + j) < 0)) → wp (j (64 * s + 22) (nI z) (nI y) h2) Q9) (fun y _ _ hm => absurd hm (by omega)) (fun m j IHy y h3 hy hm g3 l3 => ?_) (fun j IH => ?_)
      · have k3 : y_K h3 (64 * s + 22) = 8 := (g3.K (fun q => q)).trans v2
        have f9 : y_I h3 (64 * s + 22) 9 = nI v := (g3.I (by omega)).trans e9
        by_cases ey : y = v
        · subst ey
          have q : nI y ≤ nI y := nI_le (Nat.le_refl _) (by omega)
          simp only [k3, f9, q, if_true, nI_1]
          have ee : u * (y + y * z) = u * (y * (z + 1)) := by rw [Nat.mul_succ, Nat.add_comm y]
          rw [ee] at l3
          exact IHz (z + 1) h3 (by omega) (by omega) g3 l3
        · have q : ¬ nI v ≤ nI y := nI_ge (by omega) (by omega)
          simp only [k3, f9, q, if_true, if_false]
          refine wp_jq (fun m j Q9 => ∀ x h2, x ≤ u → u - x < m → ag (fun a k => a = 64 * s + 27 ∨ a = 64 * s + 26 ∨ a = 64 * s + 22 ∧ k = 4) (fun _ => False) h h2 → (∀ d, d < 4 → y_I h2 (64 * s + 27) d = tot h s u v d (x + u * (y + v * z))) ∧ y_I h2 (64 * s + 22) 4 = cnc h s (x + u * (y + v * z)) ∧ (∀ j, j < x + u * (y + v * z) → y_B h2 (64 * s + 26) j = decide (¬ y_I h 2210 (54 * s + j) < 0)) → wp (j (64 * s + 22) (nI z) (nI y) (nI x) h2) Q9) (fun x _ _ hm => absurd hm (by omega)) (fun m j IHx x h4 hx hm g4 l4 => ?_) (fun j IH => ?_)
          · have k4 : y_K h4 (64 * s + 22) = 8 := (g4.K (fun q => q)).trans v2
            have f8 : y_I h4 (64 * s + 22) 8 = nI u := (g4.I (by omega)).trans e8
            have f9 : y_I h4 (64 * s + 22) 9 = nI v := (g4.I (by omega)).trans e9
            by_cases ex : x = u
            · subst ex
              have q : nI x ≤ nI x := nI_le (Nat.le_refl _) (by omega)
              simp only [k4, f8, q, if_true, nI_1]
              have ee : x + x * (y + v * z) = x * (y + 1 + v * z) := by rw [Nat.add_right_comm y 1, Nat.mul_succ, Nat.add_comm x]
              rw [ee] at l4
              exact IHy (y + 1) h4 (by omega) (by omega) g4 l4
            · have q : ¬ nI u ≤ nI x := nI_ge (by omega) (by omega)
              have i4 : x + u * (y + v * z) < 54 := by
                have m1 : v * (z + 1) ≤ v * w := Nat.mul_le_mul_left v (by omega)
                rw [Nat.mul_succ] at m1
                have m2 : u * (y + v * z + 1) ≤ u * (v * w) := Nat.mul_le_mul_left u (by omega)
                rw [Nat.mul_succ] at m2
                omega
              generalize hi : x + u * (y + v * z) = i at i4 l4
              have ep : ∀ h5, y_K h5 (64 * s + 22) = 8 → y_I h5 (64 * s + 22) 8 = nI u → y_I h5 (64 * s + 22) 9 = nI v → f_X7_placeNumber (64 * s + 22) (nI x) (nI y) (nI z) h5 = some (nI i, h5) := fun h5 a1 a2 a3 => by
                simp only [f_X7_placeNumber, a1, a2, a3, i_mul, i_add, if_true, hi]
              have ep4 := ep h4 k4 f8 f9
              have ix := i_ix i4 (by decide)
              have ic := i_cl (show i < 2 ^ 31 by omega)
              have p1 : y_P h4 (64 * s + 22) 1 = 64 * s + 25 := (g4.P (by omega)).trans v4
              have p2 : y_P h4 (64 * s + 22) 2 = 64 * s + 26 := (g4.P (by omega)).trans v5
              have k5 : y_K h4 (64 * s + 25) = 103 := (g4.K (fun q => q)).trans v9
              have n5 : y_N h4 (64 * s + 25) = 54 := (g4.N (fun q => q)).trans v10
              have k6 : y_K h4 (64 * s + 26) = 102 := (g4.K (fun q => q)).trans v11
              have n6 : y_N h4 (64 * s + 26) = 54 := (g4.N (fun q => q)).trans v12
              have pc : y_P h4 (64 * s + 25) i = pB (y_I h 2210 (54 * s + i)) := (g4.P (by omega)).trans (hc i i4)
              have g5 : ag (fun a k => a = 64 * s + 27 ∨ a = 64 * s + 26 ∨ a = 64 * s + 22 ∧ k = 4) (fun _ => False) h (s_B h4 (64 * s + 26) i false) := g4.sB (Or.inr (Or.inl rfl))
              have nx : x + 1 + u * (y + v * z) = i + 1 := by omega
              rcases hh i i4 with zz | ⟨n, hn, zz⟩
              · rw [zz, pB_1] at pc
                simp only [k4, f8, q, p1, p2, k5, n5, k6, n6, ep4, ix, ic, pc, e_cl, e_jn, e_bd, if_true, if_false, and_self, nI_1]
                refine IHx (x + 1) _ (by omega) (by omega) g5 ?_
                rw [nx]
                refine ⟨fun d hd => by rw [tot0 zz]; exact l4.1 d hd, by rw [cnc0 zz]; exact l4.2.1, fun j hj => ?_⟩
                by_cases ej : j = i
                · rw [ej, e_BBs, zz]
                  decide
                · rw [e_BBk ej]
                  exact l4.2.2 j (by omega)
              · have pn : pB (nI n) = 64 * n + 20 := pB_n (by omega)
                rw [zz, pn] at pc
                have ne : ¬ 64 * n + 20 = 0 := by omega
                have k8 : y_K (s_B h4 (64 * s + 26) i false) (64 * s + 22) = 8 := k4
                have ei := c_include (h1 := s_B h4 (64 * s + 26) i false) (i := i) (z := z) V0 e8 e9 (hb n hn) g5 (show x < u by omega) (show y < v by omega) hi.symm i4
                simp only [k4, f8, q, p1, p2, k5, n5, k6, n6, ep4, ix, ic, pc, ne, k8, e_cl, e_jn, e_bd, if_true, if_false, and_self, nI_1]
                refine wp_call ei (fun _ h6 z6 => ?_)
                refine IHx (x + 1) _ (by omega) (by omega) z6.1 ?_
                rw [nx]
                refine ⟨fun d hd => ?_, ?_, fun j hj => ?_⟩
                · rw [tot1 (by omega) zz, z6.2.1 d hd, ← l4.1 d hd]
                  rfl
                · rw [cnc1 (by omega) zz, z6.2.2.1, ← l4.2.1]
                  rfl
                · rw [z6.2.2.2 j]
                  by_cases ej : j = i
                  · rw [if_pos ej, ej, zz, decide_eq_true (show ¬ nI n < 0 from nI_nlt (b := 0) (Nat.zero_le _) (by omega))]
                  · rw [if_neg ej, e_BBk ej]
                    exact l4.2.2 j (by omega)
          · exact IH 0 h3 (by omega) (by unfold y_fu; omega) g3 (by rw [Nat.zero_add]; exact l3)
      · exact IH 0 h2 (by omega) (by unfold y_fu; omega) g (by rw [Nat.zero_add]; exact l)
  · refine IH 0 _ (by omega) (by unfold y_fu; omega) (ag.sI (g1.mono (fun a k q => Or.inl q) (fun a q => q)) (Or.inr (Or.inr ⟨rfl, rfl⟩))) ⟨fun d hd => ?_, e_IIs, fun j hj => absurd hj (by rw [Nat.mul_zero, Nat.mul_zero]; omega)⟩
    rw [e_IIn (by omega)]
    exact l1 d hd
end SY
