/-! bay: the digits of a number -/
section BY
variable {h : y_H} {t e N C S A : Nat}
def vd : Nat → Nat → Bool
  | 0, m => decide (m = 0)
  | f + 1, m => decide (m = 0) || (decide (1 ≤ m % 10 ∧ m % 10 ≤ 5) && vd f (m / 10))
def nd : Nat → Nat → Nat
  | 0, _ => 0
  | f + 1, m => if m = 0 then 0 else nd f (m / 10) + 1
theorem vd_0 (f : Nat) : vd f 0 = true := by cases f <;> rfl
theorem vd_p {f m : Nat} (hm : m ≠ 0) : vd (f + 1) m = (decide (1 ≤ m % 10 ∧ m % 10 ≤ 5) && vd f (m / 10)) := by
  have : decide (m = 0) = false := decide_eq_false hm
  rw [vd, this, Bool.false_or]
theorem vd_le : ∀ f m, vd f m = true → 9 * m + 5 ≤ 5 * 10 ^ f
  | 0, m, q => by
    have : m = 0 := of_decide_eq_true q
    subst this
    decide
  | f + 1, m, q => by
    by_cases e : m = 0
    · subst e
      have := Nat.pow_pos (n := f + 1) (show 0 < 10 by decide)
      omega
    · rw [vd_p e, Bool.and_eq_true] at q
      have q1 := of_decide_eq_true q.1
      have q2 := vd_le f (m / 10) q.2
      have : 10 ^ (f + 1) = 10 * 10 ^ f := by rw [Nat.pow_succ, Nat.mul_comm]
      omega
theorem vd_dg : ∀ f m, vd f m = true → nd f m ≤ f ∧ (∀ i, i < nd f m → 1 ≤ m / 10 ^ i % 10 ∧ m / 10 ^ i % 10 ≤ 5) ∧ (∀ i, nd f m ≤ i → m / 10 ^ i = 0) ∧ (0 < m → 0 < nd f m)
  | 0, m, q => by
    have : m = 0 := of_decide_eq_true q
    subst this
    exact ⟨Nat.le_refl _, fun i hi => absurd hi (by simp only [nd]; omega), fun i _ => Nat.zero_div _, fun z => absurd z (by omega)⟩
  | f + 1, m, q => by
    by_cases e : m = 0
    · subst e
      have e0 : nd (f + 1) 0 = 0 := rfl
      rw [e0]
      exact ⟨by omega, fun i hi => absurd hi (by omega), fun i _ => Nat.zero_div _, fun z => absurd z (by omega)⟩
    · rw [vd_p e, Bool.and_eq_true] at q
      have q1 := of_decide_eq_true q.1
      obtain ⟨z1, z2, z3, z4⟩ := vd_dg f (m / 10) q.2
      have en : nd (f + 1) m = nd f (m / 10) + 1 := by rw [nd, if_neg e]
      have ed : ∀ i, m / 10 ^ (i + 1) = m / 10 / 10 ^ i := fun i => by
        rw [Nat.div_div_eq_div_mul, Nat.pow_succ, Nat.mul_comm]
      rw [en]
      refine ⟨by omega, fun i hi => ?_, fun i hi => ?_, fun _ => by omega⟩
      · cases i with
        | zero => rw [Nat.pow_zero, Nat.div_one]; exact q1
        | succ i => rw [ed]; exact z2 i (by omega)
      · cases i with
        | zero => exact absurd hi (by omega)
        | succ i => rw [ed]; exact z3 i (by omega)
theorem i_sg (p : Int32) : (p ≤ 0 ∧ p < 1) ∨ ∃ m, 1 ≤ m ∧ m < 2 ^ 31 ∧ p = nI m := by
  have h0 : (0 : Int32).toInt = 0 := by decide
  have h1 : (1 : Int32).toInt = 1 := by decide
  by_cases q : p ≤ 0
  · refine Or.inl ⟨q, ?_⟩
    have := Int32.le_iff_toInt_le.mp q
    rw [Int32.lt_iff_toInt_lt, h1]
    omega
  · refine Or.inr ⟨p.toInt.toNat, ?_, ?_, ?_⟩
    · rw [Int32.le_iff_toInt_le] at q
      omega
    · have := Int32.toInt_lt p
      omega
    · apply Int32.toInt_inj.mp
      rw [Int32.le_iff_toInt_le] at q
      have := Int32.toInt_lt p
      rw [nI_toInt (by omega)]
      omega
theorem i_d10 {a : Nat} (ha : a < 2 ^ 31) : nI a / 10 = nI (a / 10) := i_div (d := 10) ha (by decide) (by decide)
theorem i_r10' {a : Nat} (ha : a < 2 ^ 31) : y_rem (nI a) 10 = nI (a % 10) := i_rem (d := 10) ha (by decide) (by decide)
theorem i_w15 {a : Nat} (ha : a < 2 ^ 31) : decide ((1 : Int32) ≤ nI a ∧ nI a ≤ 5) = decide (1 ≤ a ∧ a ≤ 5) := by
  have q1 := nI_leI (a := 1) (b := a) (by decide) ha
  have q2 := nI_leI (a := a) (b := 5) ha (by decide)
  exact decide_eq_decide.mpr ⟨fun z => ⟨q1.mp z.1, q2.mp z.2⟩, fun z => ⟨q1.mpr z.1, q2.mpr z.2⟩⟩
theorem c_heights {m : Nat} (hm : 1 ≤ m) (hm2 : m < 2 ^ 31) : f_X1_areHeights (nI m) h = some (vd 6 m, h) := by
  have a1 : ¬ nI m < 1 := fun z => absurd ((nI_ltI (a := m) (b := 1) hm2 (by decide)).mp z) (by omega)
  suffices H : wp (f_X1_areHeights (nI m) h) fun r h' => r = vd 6 m ∧ h' = h by
    obtain ⟨r, h', e1, rfl, rfl⟩ := wp_ex H
    exact e1
  unfold f_X1_areHeights
  simp only [e_jn, a1, if_false]
  by_cases b : m ≤ 555555
  rotate_left
  · have b1 : ¬ nI m ≤ 555555 := fun z => absurd ((nI_leI (a := m) (b := 555555) hm2 (by decide)).mp z) b
    simp only [b1, if_false, wp_some]
    refine ⟨?_, trivial⟩
    cases q : vd 6 m with
    | false => rfl
    | true =>
      have := vd_le 6 m q
      omega
  have b1 : nI m ≤ 555555 := (nI_leI (a := m) (b := 555555) hm2 (by decide)).mpr b
  simp only [b1, if_true]
  refine wp_jl (fun n j => ∀ i m', i ≤ 6 → 6 - i < n → m' < 10 ^ (6 - i) → vd (6 - i) m' = vd 6 m → wp (j (nI m') (nI i) h) fun r h' => r = vd 6 m ∧ h' = h) (fun i _ _ z => absurd z (by omega)) (fun n j IH i m' hi hn hm' ev => ?_) (fun j IH => ?_)
  · have hb : m' < 1000000 := by
      have : 10 ^ (6 - i) ≤ 10 ^ 6 := Nat.pow_le_pow_right (by decide) (by omega)
      omega
    by_cases e6 : i = 6
    · subst e6
      have q : (6 : Int32) ≤ nI 6 := by decide
      have e0 : m' = 0 := by
        have : 10 ^ (6 - 6) = 1 := rfl
        omega
      subst e0
      simp only [q, if_true, wp_some]
      exact ⟨ev, trivial⟩
    · have q : ¬ (6 : Int32) ≤ nI i := nI_ge (a := i) (b := 6) (by omega) (by decide)
      by_cases e0 : m' = 0
      · subst e0
        have q2 : nI 0 ≤ 0 := by decide
        simp only [q, q2, if_true, if_false, wp_some]
        rw [vd_0] at ev
        exact ⟨ev, trivial⟩
      · have q2 : ¬ nI m' ≤ 0 := fun z => absurd ((nI_leI (a := m') (b := 0) (by omega) (by decide)).mp z) (by omega)
        obtain ⟨f, ef⟩ : ∃ f, 6 - i = f + 1 := ⟨5 - i, by omega⟩
        have ef2 : 6 - (i + 1) = f := by omega
        rw [ef] at ev hm'
        rw [vd_p e0] at ev
        simp only [q, q2, if_false, c_isWithin, e_cl, i_r10' (show m' < 2 ^ 31 by omega), i_w15 (show m' % 10 < 2 ^ 31 by omega)]
        cases hd : decide (1 ≤ m' % 10 ∧ m' % 10 ≤ 5) with
        | false =>
          rw [hd, Bool.false_and] at ev
          simp only [Bool.false_eq_true, if_false, wp_some]
          exact ⟨ev, trivial⟩
        | true =>
          rw [hd, Bool.true_and] at ev
          simp only [if_true, i_d10 (show m' < 2 ^ 31 by omega), nI_1]
          refine IH (i + 1) (m' / 10) (by omega) (by omega) ?_ ?_
          · rw [ef2]
            have : 10 ^ (f + 1) = 10 * 10 ^ f := by rw [Nat.pow_succ, Nat.mul_comm]
            omega
          · rw [ef2]
            exact ev
  · exact IH 0 m (by omega) (by unfold y_fu; omega) (by show m < 1000000; omega) rfl
theorem c_heights0 {p : Int32} (hp : p < 1) : f_X1_areHeights p h = some (false, h) := by
  simp only [f_X1_areHeights, e_jn, hp, if_true]
end BY
