/-! stable: the boxes that are to come, one after another -/
section SBA
variable {h : y_H} {t e N C S A s u v w n : Nat} {f : Nat → Nat}
abbrev come (h : y_H) (s n : Nat) : Prop := y_I h 674 n = nI s ∧ ¬ y_I h 418 n = 4 ∧ ¬ (y_I h 418 n = 3 ∧ y_I h 482 n = nI s)
def lcel (h : y_H) (u v n : Nat) : Nat := cel9 u v (y_I h 738 n) (y_I h 802 n) (y_I h 866 n)
def vh (h : y_H) (s u v : Nat) (f : Nat → Nat) : Nat → y_H
  | 0 => h
  | i + 1 => if come h s (f i) then s_I (vh h s u v f i) 2210 (54 * s + lcel h u v (f i)) (nI (f i)) else vh h s u v f i
def ahd (h : y_H) (s : Nat) (f : Nat → Nat) : Nat → Nat
  | 0 => 0
  | i + 1 => if come h s (f i) then ahd h s f i + 1 else ahd h s f i
theorem ahd_le : ∀ i, ahd h s f i ≤ i
  | 0 => Nat.le_refl _
  | i + 1 => by
    have := ahd_le i
    unfold ahd
    split <;> omega
def fjv (h : y_H) (s u v w : Nat) (f : Nat → Nat) (i : Nat) : Nat := fj u v w (y_I h 738 (f i)) (y_I h 802 (f i)) (y_I h 866 (f i)) (fun j => decide (¬ y_I (vh h s u v f i) 2210 (54 * s + j) < 0)) (fun d => tot (vh h s u v f i) s u v d (u * v * w)) (fun d => y_I h 2274 (3 * s + d)) (kn h (f i))
def okv (h : y_H) (s u v w : Nat) (f : Nat → Nat) (i : Nat) : Prop := ∀ j, j < i → come h s (f j) → fjv h s u v w f j = 0
theorem okv_s {i : Nat} (o : okv h s u v w f i) (q : come h s (f i) → fjv h s u v w f i = 0) : okv h s u v w f (i + 1) := fun j hj z => by
  by_cases e : j = i
  · rw [e] at z ⊢
    exact q z
  · exact o j (by omega) z
theorem kn_e {G : y_H} (q1 : ∀ m, y_I G 162 m = y_I h 162 m) (q2 : ∀ m, y_I G 98 m = y_I h 98 m) (q3 : ∀ m, y_B G 354 m = y_B h 354 m) (m : Nat) : kn G m = kn h m := by
  unfold kn
  rw [q1, q2, q3]
theorem tot_w {G : y_H} {i d : Nat} (q : y_I G 2210 (54 * s + i) = -1) (hn : n < 80) : ∀ k, tot (s_I G 2210 (54 * s + i) (nI n)) s u v d k = tot G s u v d k + (if i < k then kn G n * fc u v d i else 0)
  | 0 => by
    rw [if_neg (by omega)]
    exact (Int32.add_zero _).symm
  | k + 1 => by
    have ih := tot_w (d := d) q hn k
    have ek : ∀ m, kn (s_I G 2210 (54 * s + i) (nI n)) m = kn G m := fun m => kn_e (fun m => e_IIc (by omega)) (fun m => e_IIc (by omega)) (fun m => rfl) m
    by_cases e : i = k
    · have z : y_I (s_I G 2210 (54 * s + i) (nI n)) 2210 (54 * s + k) = nI n := by
        rw [e]
        exact e_IIs
      rw [tot1 hn z, ih, if_neg (by omega), Int32.add_zero, if_pos (by omega), ek, ← e, tot0 q]
    · have z : y_I (s_I G 2210 (54 * s + i) (nI n)) 2210 (54 * s + k) = y_I G 2210 (54 * s + k) := e_IIc (by omega)
      have lt : ∀ x : Int32, (if i < k + 1 then x else 0) = if i < k then x else 0 := fun x => by
        by_cases a : i < k
        · rw [if_pos a, if_pos (by omega)]
        · rw [if_neg a, if_neg (by omega)]
      rw [lt]
      unfold tot
      rw [z, ih, ek]
      split
      · rfl
      · rw [Int32.add_assoc, Int32.add_comm (if i < k then kn G n * fc u v d i else 0), ← Int32.add_assoc]
/-- in the ship's cells -/
theorem lcel_lt (hu : 1 ≤ u ∧ u ≤ 6) (hv : 1 ≤ v ∧ v ≤ 3) (hw : 1 ≤ w ∧ w ≤ 3) (q : inC u v w (y_I h 738 n) (y_I h 802 n) (y_I h 866 n) = true) : ∃ x y z, x < u ∧ y < v ∧ z < w ∧ y_I h 738 n = nI x ∧ y_I h 802 n = nI y ∧ y_I h 866 n = nI z ∧ lcel h u v n = x + u * (y + v * z) ∧ lcel h u v n < u * v * w ∧ u * v * w ≤ 54 := by
  rcases inC_cases hu hv hw (y_I h 738 n) (y_I h 802 n) (y_I h 866 n) with ⟨x, y, z, hx, hy, hz, e1, e2, e3, -⟩ | z
  · have e : lcel h u v n = x + u * (y + v * z) := by
      unfold lcel cel9
      rw [e1, e2, e3, i_cl (by omega), i_cl (by omega), i_cl (by omega)]
    have c := cel_lt hu hv hw hx hy hz
    exact ⟨x, y, z, hx, hy, hz, e1, e2, e3, e, by rw [e]; exact c.1, c.2⟩
  · rw [q] at z
    exact absurd z (by decide)
def vinv (h V : y_H) (N s : Nat) : Prop := (∀ a k, ¬ (a = 2210 ∧ 54 * s ≤ k ∧ k < 54 * s + 54) → y_I V a k = y_I h a k) ∧ y_B V = y_B h ∧ ∀ k, k < 54 → y_I V 2210 (54 * s + k) = y_I h 2210 (54 * s + k) ∨ (y_I h 2210 (54 * s + k) = -1 ∧ ∃ n, n < N ∧ y_I V 2210 (54 * s + k) = nI n ∧ come h s n)
/-- the cell of the next one is free -/
theorem vh_free {i L : Nat} (rP : RP h N C S) (hN : N ≤ 80) (hs : s < S) (hu : 1 ≤ u ∧ u ≤ 6) (hv : 1 ≤ v ∧ v ≤ 3) (hw : 1 ≤ w ∧ w ≤ 3) (I : vinv h (vh h s u v f i) N s) (z : fjv h s u v w f i = 0) : y_I (vh h s u v f i) 2210 (54 * s + lcel h u v (f i)) = -1 ∧ y_I h 2210 (54 * s + lcel h u v (f i)) = -1 ∧ inC u v w (y_I h 738 (f i)) (y_I h 802 (f i)) (y_I h 866 (f i)) = true := by
  obtain ⟨z1, z2⟩ := fj_0 z
  obtain ⟨x, y, z9, hx, hy, hz, e1, e2, e3, e4, lt, l54⟩ := lcel_lt hu hv hw z1
  have z2 : decide (¬ y_I (vh h s u v f i) 2210 (54 * s + lcel h u v (f i)) < 0) = false := z2
  have z3 : y_I (vh h s u v f i) 2210 (54 * s + lcel h u v (f i)) < 0 := Decidable.byContradiction fun q => by
    have := decide_eq_false_iff_not.mp z2
    exact this q
  refine ⟨?_, ?_, z1⟩
  · rcases I.2.2 (lcel h u v (f i)) (by omega) with q | ⟨-, m, hm, q, -⟩
    · rcases rP.2.2.1 s (lcel h u v (f i)) hs (by omega) with y | ⟨m, hm, y, -⟩
      · exact q.trans y
      · rw [q, y, i_n0 (by omega)] at z3
        exact z3.elim
    · rw [q, i_n0 (by omega)] at z3
      exact z3.elim
  · rcases I.2.2 (lcel h u v (f i)) (by omega) with q | ⟨q, -⟩
    · rcases rP.2.2.1 s (lcel h u v (f i)) hs (by omega) with y | ⟨m, hm, y, -⟩
      · exact y
      · rw [q, y, i_n0 (by omega)] at z3
        exact z3.elim
    · exact q
theorem vh_inv {L : Nat} (rP : RP h N C S) (hN : N ≤ 80) (hs : s < S) (hu : 1 ≤ u ∧ u ≤ 6) (hv : 1 ≤ v ∧ v ≤ 3) (hw : 1 ≤ w ∧ w ≤ 3) (hf : ∀ i, i < L → f i < N) : ∀ i, i ≤ L → okv h s u v w f i → vinv h (vh h s u v f i) N s
  | 0, _, _ => ⟨fun _ _ _ => rfl, rfl, fun _ _ => Or.inl rfl⟩
  | i + 1, hi, o => by
    have I := vh_inv rP hN hs hu hv hw hf i (by omega) (fun j hj z => o j (by omega) z)
    unfold vh
    by_cases q : come h s (f i)
    · rw [if_pos q]
      obtain ⟨f1, f2, f3⟩ := vh_free (L := L) rP hN hs hu hv hw I (o i (by omega) q)
      obtain ⟨x, y, z9, hx, hy, hz, e1, e2, e3, e4, lt, l54⟩ := lcel_lt hu hv hw f3
      refine ⟨fun a k z => ?_, I.2.1, fun k hk => ?_⟩
      · rw [e_IIc (by omega)]
        exact I.1 a k z
      · by_cases ek : k = lcel h u v (f i)
        · rw [ek, e_IIs]
          exact Or.inr ⟨f2, f i, hf i (by omega), rfl, q⟩
        · rw [e_IIc (by omega)]
          exact I.2.2 k hk
    · rw [if_neg q]
      exact I
theorem vinv_kn {V : y_H} (I : vinv h V N s) (m : Nat) : kn V m = kn h m := kn_e (fun m => I.1 _ _ (by omega)) (fun m => I.1 _ _ (by omega)) (fun m => by rw [I.2.1]) m
theorem vinv_hh {V : y_H} (rP : RP h N C S) (hs : s < S) (I : vinv h V N s) : ∀ k, k < 54 → y_I V 2210 (54 * s + k) = -1 ∨ ∃ n, n < N ∧ y_I V 2210 (54 * s + k) = nI n := fun k hk => by
  rcases I.2.2 k hk with q | ⟨-, m, hm, q, -⟩
  · rw [q]
    rcases rP.2.2.1 s k hs hk with y | ⟨m, hm, y, -⟩
    · exact Or.inl y
    · exact Or.inr ⟨m, hm, y⟩
  · exact Or.inr ⟨m, hm, q⟩
end SBA
