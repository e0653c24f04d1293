/-! share -/
section SA
variable {h G : y_H} {t e N C S A b m n : Nat}
theorem c_boxes (v : vshape h b) (hm : m ≤ 6) (em : y_I h (64 * b + 23) 7 = nI m) : f_X1_boxes (64 * b + 23) h = some (sm (fun s => y_I h (64 * b + 32) s) m, h) := by
  unfold vshape at v
  suffices H : wp (f_X1_boxes (64 * b + 23) h) fun r h' => r = sm (fun s => y_I h (64 * b + 32) s) m ∧ h' = h by
    obtain ⟨r, h', e, rfl, rfl⟩ := wp_ex H
    exact e
  unfold f_X1_boxes
  refine wp_jl (fun m9 j => ∀ i, i ≤ m → m - i < m9 → wp (j (64 * b + 23) (sm (fun s => y_I h (64 * b + 32) s) i) (nI i) h) fun r h' => r = sm (fun s => y_I h (64 * b + 32) s) m ∧ h' = h) (fun i _ hm => absurd hm (by omega)) (fun m9 j IH i hi hm9 => ?_) (fun j IH => ?_)
  · by_cases e9 : i = m
    · subst e9
      have q : nI i ≤ nI i := nI_le (Nat.le_refl _) (by omega)
      simp only [v, em, q, if_true, wp_some, and_self]
    · have q : ¬ nI m ≤ nI i := nI_ge (by omega) (by omega)
      have ix := i_ix (show i < 6 by omega) (by decide)
      have ic := i_cl (show i < 2 ^ 31 by omega)
      simp only [v, em, q, ix, ic, if_true, if_false, and_self, nI_1]
      exact IH (i + 1) (by omega) (by omega)
  · exact IH 0 (by omega) (by unfold y_fu; omega)
theorem m_boxesOf (W : Sh h) (hb : b < 10) (hm : m ≤ 6) (em : y_I h 1122 b = nI m) : f_X12_boxesOf 11 (nI b) h = some (sm (fun s => y_I h 1314 (6 * b + s)) m, h) := by
  have xb := i_ix hb (by decide)
  have cb := i_cl (show b < 2 ^ 31 by omega)
  suffices H : wp (f_X12_boxesOf 11 (nI b) h) fun r h' => r = sm (fun s => y_I h 1314 (6 * b + s)) m ∧ h' = h by
    obtain ⟨r, h', e, rfl, rfl⟩ := wp_ex H
    exact e
  unfold f_X12_boxesOf
  refine wp_jl (fun m9 j => ∀ i, i ≤ m → m - i < m9 → wp (j 11 (nI b) (sm (fun s => y_I h 1314 (6 * b + s)) i) (nI i) h) fun r h' => r = sm (fun s => y_I h 1314 (6 * b + s)) m ∧ h' = h) (fun i _ hm => absurd hm (by omega)) (fun m9 j IH i hi hm9 => ?_) (fun j IH => ?_)
  · by_cases e9 : i = m
    · subst e9
      have q : nI i ≤ nI i := nI_le (Nat.le_refl _) (by omega)
      simp only [W.2, xb, cb, em, q, if_true, wp_some, and_self]
    · have q : ¬ nI m ≤ nI i := nI_ge (by omega) (by omega)
      have ix := i_ix (show 6 * b + i < 60 by omega) (by decide)
      have ic := i_cl (show 6 * b + i < 2 ^ 31 by omega)
      simp only [W.2, xb, cb, em, q, i_m6, i_add, ix, ic, if_true, if_false, and_self, nI_1]
      exact IH (i + 1) (by omega) (by omega)
  · exact IH 0 (by omega) (by unfold y_fu; omega)
/-- the box of a cell of a bay -/
def bc (h : y_H) (b c : Nat) : Nat := (y_P h (64 * b + 33) c - 20) / 64
theorem c_weight (v : vshape h b) (hc : ∀ c, c < 30 → y_P h (64 * b + 33) c = 0 ∨ ∃ n, bx h n ∧ y_P h (64 * b + 33) c = 64 * n + 20) : f_X1_weight (64 * b + 23) h = some (sm (fun c => if ¬ y_P h (64 * b + 33) c = 0 then kn h (bc h b c) else 0) 30, h) := by
  unfold vshape at v
  suffices H : wp (f_X1_weight (64 * b + 23) h) fun r h' => r = sm (fun c => if ¬ y_P h (64 * b + 33) c = 0 then kn h (bc h b c) else 0) 30 ∧ h' = h by
    obtain ⟨r, h', e, rfl, rfl⟩ := wp_ex H
    exact e
  unfold f_X1_weight
  refine wp_jl (fun m9 j => ∀ i, i ≤ 30 → 30 - i < m9 → wp (j (64 * b + 23) (sm (fun c => if ¬ y_P h (64 * b + 33) c = 0 then kn h (bc h b c) else 0) i) (nI i) h) fun r h' => r = sm (fun c => if ¬ y_P h (64 * b + 33) c = 0 then kn h (bc h b c) else 0) 30 ∧ h' = h) (fun i _ hm => absurd hm (by omega)) (fun m9 j IH i hi hm9 => ?_) (fun j IH => ?_)
  · by_cases e9 : i = 30
    · subst e9
      have q : nI 30 ≤ nI 30 := nI_le (Nat.le_refl _) (by omega)
      simp only [v, q, if_true, wp_some, and_self]
    · have q : ¬ nI 30 ≤ nI i := nI_ge (by omega) (by omega)
      have ix := i_ix (show i < 30 by omega) (by decide)
      have ic := i_cl (show i < 2 ^ 31 by omega)
      have IH1 := IH (i + 1) (by omega) (by omega)
      have es : sm (fun c => if ¬ y_P h (64 * b + 33) c = 0 then kn h (bc h b c) else 0) (i + 1) = sm (fun c => if ¬ y_P h (64 * b + 33) c = 0 then kn h (bc h b c) else 0) i + (if ¬ y_P h (64 * b + 33) i = 0 then kn h (bc h b i) else 0) := rfl
      rw [es] at IH1
      generalize sm (fun c => if ¬ y_P h (64 * b + 33) c = 0 then kn h (bc h b c) else 0) i = s9 at IH1
      rcases hc i (by omega) with z | ⟨n, hbx, z⟩
      · rw [if_neg (fun q => q z), Int32.add_zero] at IH1
        simp only [v, q, ix, ic, z, e_jn, if_true, if_false, and_self, nI_1]
        exact IH1
      · have ne : ¬ 64 * n + 20 = 0 := by omega
        have eb : bc h b i = n := by
          unfold bc
          rw [z]
          omega
        rw [if_pos (by rw [z]; exact ne), eb] at IH1
        have ek := c_known hbx.2.1 hbx.2.2.2.2.2.2.2.2.2.2.2.2.1 hbx.2.2.2.2.2.1 hbx.2.2.2.2.1
        simp only [v, q, ix, ic, z, ne, hbx.2.1, ek, e_cl, e_jn, if_true, if_false, and_self, nI_1]
        exact IH1
  · exact IH 0 (by omega) (by unfold y_fu; omega)
end SA
