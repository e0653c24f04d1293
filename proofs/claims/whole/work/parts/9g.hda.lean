/-! holds: the row, walked -/
section HA
variable {h X G : y_H} {t e N C S A b m W L : Nat} {H w F B F' B' : Nat → Nat} {g g' : Nat} {P : Nat → Prop}
def upN (f : Nat → Nat) (k x i : Nat) : Nat := if i = k then x else f i
theorem upN_s (f : Nat → Nat) (k x : Nat) : upN f k x k = x := if_pos rfl
theorem upN_n {f : Nat → Nat} {k x i : Nat} (q : i ≠ k) : upN f k x i = f i := if_neg q
def hst (m : Nat) (H w : Nat → Nat) (W : Nat) (F B : Nat → Nat) (g : Nat) (a b : Int32) : Option ((Nat → Nat) × (Nat → Nat) × Nat) :=
  if decide (0 ≤ a ∧ a ≤ nI m - 1) = false then none
  else if F a.toNatClampNeg = 0 then none
  else if b = -9 then (if g < W ∧ w g = B (5 * a.toNatClampNeg + (F a.toNatClampNeg - 1)) then some (upN F a.toNatClampNeg (F a.toNatClampNeg - 1), B, g + 1) else none)
  else if decide (0 ≤ b ∧ b ≤ nI m - 1) = false then none
  else if b.toNatClampNeg = a.toNatClampNeg then none
  else if F b.toNatClampNeg < H b.toNatClampNeg then some (upN (upN F b.toNatClampNeg (F b.toNatClampNeg + 1)) a.toNatClampNeg (F a.toNatClampNeg - 1), upN B (5 * b.toNatClampNeg + F b.toNatClampNeg) (B (5 * a.toNatClampNeg + (F a.toNatClampNeg - 1))), g)
  else none
def hrun (m : Nat) (H w : Nat → Nat) (W : Nat) (fr to : Nat → Int32) : Nat → Nat → (Nat → Nat) → (Nat → Nat) → Nat → Bool
  | 0, _, _, _, g => decide (g = W)
  | r + 1, i, F, B, g => if g < W then (match hst m H w W F B g (fr i) (to i) with
    | none => false
    | some (F', B', g') => hrun m H w W fr to r (i + 1) F' B' g') else false
/-- heights, and what is known of the boxes that stand -/
def hinv (m : Nat) (H : Nat → Nat) (P : Nat → Prop) (F B : Nat → Nat) : Prop := ∀ s, s < m → F s ≤ H s ∧ ∀ t, t < F s → P (B (5 * s + t))
/-- the ways on which a step ends -/
theorem hst_cases (hm : m ≤ 6) (hH : ∀ s, s < m → H s ≤ 5) (I : hinv m H P F B) (a b : Int32) :
    (decide (0 ≤ a ∧ a ≤ nI m - 1) = false ∧ hst m H w W F B g a b = none)
    ∨ ∃ s, s < m ∧ a = nI s ∧ decide (0 ≤ a ∧ a ≤ nI m - 1) = true ∧ ((F s = 0 ∧ hst m H w W F B g a b = none)
      ∨ ∃ f, F s = f + 1 ∧ f < 5 ∧ P (B (5 * s + f)) ∧ ((b = -9 ∧ ((¬ (g < W ∧ w g = B (5 * s + f)) ∧ hst m H w W F B g a b = none) ∨ (g < W ∧ w g = B (5 * s + f) ∧ hst m H w W F B g a b = some (upN F s f, B, g + 1) ∧ hinv m H P (upN F s f) B)))
        ∨ b ≠ -9 ∧ ((decide (0 ≤ b ∧ b ≤ nI m - 1) = false ∧ hst m H w W F B g a b = none) ∨ ∃ q, q < m ∧ b = nI q ∧ decide (0 ≤ b ∧ b ≤ nI m - 1) = true ∧ ((q = s ∧ hst m H w W F B g a b = none) ∨ q ≠ s ∧ ((¬ F q < H q ∧ hst m H w W F B g a b = none) ∨ (F q < H q ∧ hst m H w W F B g a b = some (upN (upN F q (F q + 1)) s f, upN B (5 * q + F q) (B (5 * s + f)), g) ∧ hinv m H P (upN (upN F q (F q + 1)) s f) (upN B (5 * q + F q) (B (5 * s + f))))))))) := by
  rcases i_cnt a m (by omega) with ⟨s, hs, rfl, d1⟩ | ⟨d1, -⟩
  rotate_left
  · refine Or.inl ⟨d1, ?_⟩
    unfold hst
    rw [if_pos d1]
  refine Or.inr ⟨s, hs, rfl, d1, ?_⟩
  have cs := i_cl (show s < 2 ^ 31 by omega)
  have n1 : ¬ decide (0 ≤ nI s ∧ nI s ≤ nI m - 1) = false := by rw [d1]; decide
  by_cases f0 : F s = 0
  · refine Or.inl ⟨f0, ?_⟩
    unfold hst
    rw [if_neg n1, cs, if_pos f0]
  obtain ⟨f, ef⟩ : ∃ f, F s = f + 1 := ⟨F s - 1, by omega⟩
  have hFs := (I s hs).1
  have hHs := hH s hs
  refine Or.inr ⟨f, ef, by omega, (I s hs).2 f (by omega), ?_⟩
  by_cases b9 : b = -9
  · refine Or.inl ⟨b9, ?_⟩
    by_cases c : g < W ∧ w g = B (5 * s + f)
    · refine Or.inr ⟨c.1, c.2, ?_, fun s' hs' => ?_⟩
      · unfold hst
        rw [if_neg n1, cs, if_neg f0, if_pos b9, ef, Nat.add_sub_cancel, if_pos c]
      · by_cases e : s' = s
        · rw [e, upN_s]
          exact ⟨by omega, fun t ht => (I s hs).2 t (by omega)⟩
        · rw [upN_n e]
          exact I s' hs'
    · refine Or.inl ⟨c, ?_⟩
      unfold hst
      rw [if_neg n1, cs, if_neg f0, if_pos b9, ef, Nat.add_sub_cancel, if_neg c]
  refine Or.inr ⟨b9, ?_⟩
  rcases i_cnt b m (by omega) with ⟨q, hq, rfl, d2⟩ | ⟨d2, -⟩
  rotate_left
  · refine Or.inl ⟨d2, ?_⟩
    unfold hst
    rw [if_neg n1, cs, if_neg f0, if_neg b9, if_pos d2]
  refine Or.inr ⟨q, hq, rfl, d2, ?_⟩
  have cq := i_cl (show q < 2 ^ 31 by omega)
  have n2 : ¬ decide (0 ≤ nI q ∧ nI q ≤ nI m - 1) = false := by rw [d2]; decide
  by_cases e : q = s
  · refine Or.inl ⟨e, ?_⟩
    unfold hst
    rw [if_neg n1, cs, if_neg f0, if_neg b9, if_neg n2, cq, if_pos e]
  refine Or.inr ⟨e, ?_⟩
  by_cases l : F q < H q
  · refine Or.inr ⟨l, ?_, fun s' hs' => ?_⟩
    · unfold hst
      rw [if_neg n1, cs, if_neg f0, if_neg b9, if_neg n2, cq, if_neg e, if_pos l, ef, Nat.add_sub_cancel]
    · have hHq := hH q hq
      by_cases e1 : s' = s
      · rw [e1, upN_s]
        refine ⟨by omega, fun t ht => ?_⟩
        rw [upN_n (by omega)]
        exact (I s hs).2 t (by omega)
      · rw [upN_n e1]
        by_cases e2 : s' = q
        · rw [e2, upN_s]
          refine ⟨by omega, fun t ht => ?_⟩
          by_cases e3 : t = F q
          · rw [e3, upN_s]
            exact (I s hs).2 f (by omega)
          · rw [upN_n (by omega)]
            exact (I q hq).2 t (by omega)
        · rw [upN_n e2]
          have hHs' := hH s' hs'
          have i1 := I s' hs'
          refine ⟨i1.1, fun t ht => ?_⟩
          rw [upN_n (by omega)]
          exact i1.2 t ht
  · refine Or.inl ⟨l, ?_⟩
    unfold hst
    rw [if_neg n1, cs, if_neg f0, if_neg b9, if_neg n2, cq, if_neg e, if_neg l]
/-- a row that works takes out what stood in the bay, and nothing else -/
theorem hrun_P {fr to : Nat → Int32} (hm : m ≤ 6) (hH : ∀ s, s < m → H s ≤ 5) : ∀ r i F B g, hinv m H P F B → (∀ j, j < g → P (w j)) → hrun m H w W fr to r i F B g = true → ∀ j, j < W → P (w j)
  | 0, _, F, B, g, _, q, z, j, hj => by
    have : g = W := of_decide_eq_true z
    exact q j (by omega)
  | r + 1, i, F, B, g, I, q, z, j, hj => by
    rw [hrun] at z
    by_cases l : g < W
    rotate_left
    · rw [if_neg l] at z
      exact absurd z (by decide)
    rw [if_pos l] at z
    rcases hst_cases (w := w) (W := W) (g := g) hm hH I (fr i) (to i) with ⟨-, e⟩ | ⟨s, -, -, -, ⟨-, e⟩ | ⟨f, -, -, pf, ⟨-, ⟨-, e⟩ | ⟨-, ew, e, I2⟩⟩ | ⟨-, ⟨-, e⟩ | ⟨q9, -, -, -, ⟨-, e⟩ | ⟨-, ⟨-, e⟩ | ⟨-, e, I2⟩⟩⟩⟩⟩⟩
    · rw [e] at z; exact absurd (show false = true from z) (by decide)
    · rw [e] at z; exact absurd (show false = true from z) (by decide)
    · rw [e] at z; exact absurd (show false = true from z) (by decide)
    · rw [e] at z
      refine hrun_P hm hH r (i + 1) _ _ (g + 1) I2 (fun j hj => ?_) z j hj
      by_cases ej : j = g
      · rw [ej, ew]; exact pf
      · exact q j (by omega)
    · rw [e] at z; exact absurd (show false = true from z) (by decide)
    · rw [e] at z; exact absurd (show false = true from z) (by decide)
    · rw [e] at z; exact absurd (show false = true from z) (by decide)
    · rw [e] at z
      exact hrun_P hm hH r (i + 1) _ _ g I2 q z j hj
end HA
