theorem c_isWithin (a b c : Int32) (h : y_H) : f_X11_isWithin a b c h = some (decide (b ≤ a ∧ a ≤ c), h) := by
  simp only [f_X11_isWithin, e_jn]
  by_cases h1 : a < b
  · rw [if_pos h1, decide_eq_false (fun q => absurd q.1 (Int32.not_le.mpr h1))]
  · rw [if_neg h1]
    by_cases h2 : c < a
    · rw [if_pos h2, decide_eq_false (fun q => absurd q.2 (Int32.not_le.mpr h2))]
    · rw [if_neg h2, decide_eq_true ⟨Int32.not_lt.mp h1, Int32.not_lt.mp h2⟩]
theorem m_in (a b c : Int32) (h : y_H) : f_X12_in a b c h = some (decide (b ≤ a ∧ a ≤ c), h) := by
  simp only [f_X12_in, e_jn]
  by_cases h1 : a < b
  · rw [if_pos h1, decide_eq_false (fun q => absurd q.1 (Int32.not_le.mpr h1))]
  · rw [if_neg h1]
    by_cases h2 : c < a
    · rw [if_pos h2, decide_eq_false (fun q => absurd q.2 (Int32.not_le.mpr h2))]
    · rw [if_neg h2, decide_eq_true ⟨Int32.not_lt.mp h1, Int32.not_lt.mp h2⟩]
/-! numbers -/
theorem i_cl {n : Nat} (h : n < 2 ^ 31) : (nI n).toNatClampNeg = n := nI_clamp h
/-- below a count: which one it is, or none -/
theorem i_cnt (i : Int32) (N : Nat) (hN : N < 2 ^ 31) : (∃ n, n < N ∧ i = nI n ∧ decide (0 ≤ i ∧ i ≤ nI N - 1) = true) ∨ (decide (0 ≤ i ∧ i ≤ nI N - 1) = false ∧ ∀ n, n < N → i ≠ nI n) := by
  have h0 : (0 : Int32).toInt = 0 := by decide
  have h1 : (1 : Int32).toInt = 1 := by decide
  have hs : (nI N - 1).toInt = (N : Int) - 1 := by
    rw [Int32.toInt_sub, nI_toInt hN, h1, Int.bmod_eq_of_le (by omega) (by omega)]
  by_cases hc : 0 ≤ i ∧ i ≤ nI N - 1
  · refine Or.inl ?_
    have a1 := Int32.le_iff_toInt_le.mp hc.1
    have a2 := Int32.le_iff_toInt_le.mp hc.2
    rw [hs] at a2
    rw [h0] at a1
    refine ⟨i.toInt.toNat, by omega, ?_, decide_eq_true hc⟩
    apply Int32.toInt_inj.mp
    rw [nI_toInt (by omega)]
    omega
  · refine Or.inr ⟨decide_eq_false hc, ?_⟩
    rintro n hn rfl
    refine hc ⟨?_, ?_⟩
    · rw [Int32.le_iff_toInt_le, nI_toInt (by omega), h0]; omega
    · rw [Int32.le_iff_toInt_le, nI_toInt (by omega), hs]; omega
/-- between two literals -/
theorem i_rng {lo hi : Int32} (a b : Nat) (ha : lo = nI a) (hb : hi = nI b) (hab : a < 2 ^ 31 ∧ b < 2 ^ 31) (i : Int32) : (∃ n, a ≤ n ∧ n ≤ b ∧ i = nI n ∧ decide (lo ≤ i ∧ i ≤ hi) = true) ∨ (decide (lo ≤ i ∧ i ≤ hi) = false ∧ ∀ n, a ≤ n → n ≤ b → i ≠ nI n) := by
  subst ha hb
  by_cases hc : nI a ≤ i ∧ i ≤ nI b
  · refine Or.inl ?_
    have a1 := Int32.le_iff_toInt_le.mp hc.1
    have a2 := Int32.le_iff_toInt_le.mp hc.2
    rw [nI_toInt hab.1] at a1
    rw [nI_toInt hab.2] at a2
    refine ⟨i.toInt.toNat, by omega, by omega, ?_, decide_eq_true hc⟩
    apply Int32.toInt_inj.mp
    rw [nI_toInt (by omega)]
    omega
  · refine Or.inr ⟨decide_eq_false hc, ?_⟩
    rintro n h1 h2 rfl
    exact hc ⟨nI_le h1 (by omega), nI_le h2 (by omega)⟩
theorem i_dt {a b c : Int32} {x y z : Nat} (ha : a = nI x) (hb : b = nI y) (hc : c = nI z) (h : x ≤ y ∧ y ≤ z ∧ z < 2 ^ 31) : decide (a ≤ b ∧ b ≤ c) = true := by
  subst ha hb hc
  exact decide_eq_true ⟨nI_le h.1 (by omega), nI_le h.2.1 (by omega)⟩
theorem i_lt {a b : Nat} (h : a < 2 ^ 31 ∧ b < 2 ^ 31) : (nI a < nI b) = (a < b) := propext (nI_ltI h.1 h.2)
theorem i_le {a b : Nat} (h : a < 2 ^ 31 ∧ b < 2 ^ 31) : (nI a ≤ nI b) = (a ≤ b) := propext (nI_leI h.1 h.2)
theorem i_eq {a b : Nat} (h : a < 2 ^ 31 ∧ b < 2 ^ 31) : (nI a = nI b) = (a = b) := propext (nI_eq h.1 h.2)
theorem i_n0 {n : Nat} (h : n < 2 ^ 31) : (nI n < 0) = False := eq_false (nI_pos h)
theorem i_add (a b : Nat) : nI a + nI b = nI (a + b) := nI_add a b
theorem i_mul (a b : Nat) : nI a * nI b = nI (a * b) := (Int32.ofNat_mul a b).symm
theorem i_sub {a b : Nat} (h : b ≤ a) : nI a - nI b = nI (a - b) := by
  have : nI a = nI (a - b) + nI b := by rw [nI_add, Nat.sub_add_cancel h]
  rw [this, Int32.add_sub_cancel]
theorem i_m2 (a : Nat) : (2 : Int32) * nI a = nI (2 * a) := i_mul 2 a
theorem i_r2 (a : Nat) : nI a * (2 : Int32) = nI (2 * a) := (i_mul a 2).trans (by rw [Nat.mul_comm])
theorem i_m3 (a : Nat) : (3 : Int32) * nI a = nI (3 * a) := i_mul 3 a
theorem i_r3 (a : Nat) : nI a * (3 : Int32) = nI (3 * a) := (i_mul a 3).trans (by rw [Nat.mul_comm])
theorem i_m5 (a : Nat) : (5 : Int32) * nI a = nI (5 * a) := i_mul 5 a
theorem i_r5 (a : Nat) : nI a * (5 : Int32) = nI (5 * a) := (i_mul a 5).trans (by rw [Nat.mul_comm])
theorem i_m6 (a : Nat) : (6 : Int32) * nI a = nI (6 * a) := i_mul 6 a
theorem i_r6 (a : Nat) : nI a * (6 : Int32) = nI (6 * a) := (i_mul a 6).trans (by rw [Nat.mul_comm])
theorem i_m8 (a : Nat) : (8 : Int32) * nI a = nI (8 * a) := i_mul 8 a
theorem i_r8 (a : Nat) : nI a * (8 : Int32) = nI (8 * a) := (i_mul a 8).trans (by rw [Nat.mul_comm])
theorem i_m10 (a : Nat) : (10 : Int32) * nI a = nI (10 * a) := i_mul 10 a
theorem i_r10 (a : Nat) : nI a * (10 : Int32) = nI (10 * a) := (i_mul a 10).trans (by rw [Nat.mul_comm])
theorem i_m14 (a : Nat) : (14 : Int32) * nI a = nI (14 * a) := i_mul 14 a
theorem i_r14 (a : Nat) : nI a * (14 : Int32) = nI (14 * a) := (i_mul a 14).trans (by rw [Nat.mul_comm])
theorem i_m54 (a : Nat) : (54 : Int32) * nI a = nI (54 * a) := i_mul 54 a
theorem i_r54 (a : Nat) : nI a * (54 : Int32) = nI (54 * a) := (i_mul a 54).trans (by rw [Nat.mul_comm])
theorem i_m64 (a : Nat) : (64 : Int32) * nI a = nI (64 * a) := i_mul 64 a
theorem i_r64 (a : Nat) : nI a * (64 : Int32) = nI (64 * a) := (i_mul a 64).trans (by rw [Nat.mul_comm])
theorem i_m128 (a : Nat) : (128 : Int32) * nI a = nI (128 * a) := i_mul 128 a
theorem i_r128 (a : Nat) : nI a * (128 : Int32) = nI (128 * a) := (i_mul a 128).trans (by rw [Nat.mul_comm])
theorem i_ne9 {n : Nat} (h : n < 2 ^ 31) : (nI n = -9) = False := eq_false (fun e => by
  have := congrArg Int32.toInt e
  rw [nI_toInt h] at this
  have h9 : (-9 : Int32).toInt = -9 := by decide
  omega)
theorem i_ne1 {n : Nat} (h : n < 2 ^ 31) : (nI n = -1) = False := eq_false (fun e => by
  have := congrArg Int32.toInt e
  rw [nI_toInt h] at this
  have h9 : (-1 : Int32).toInt = -1 := by decide
  omega)
theorem pB_n {n : Nat} (h : n < 2 ^ 31) : pB (nI n) = 64 * n + 20 := by rw [pB, if_neg (nI_pos h), i_cl h]
theorem pB_1 : pB (-1) = 0 := if_pos (by decide)
theorem pB_9 : pB (-9) = 0 := if_pos (by decide)
theorem pC_n {n : Nat} (h : n < 2 ^ 31) : pC (nI n) = 64 * n + 21 := by rw [pC, if_neg (nI_pos h), i_cl h]
theorem pC_9 : pC (-9) = 0 := if_pos (by decide)
theorem pS_n {n : Nat} (h : n < 2 ^ 31) : pS (nI n) = 64 * n + 22 := by rw [pS, if_neg (nI_pos h), i_cl h]
theorem pS_9 : pS (-9) = 0 := if_pos (by decide)
/-! the yard's look-ups -/
section LK
variable {h : y_H} {N C S : Nat}
theorem c_boxAt (w : Sh h) (r : RB h N) (i : Int32) : (∃ n, n < N ∧ i = nI n ∧ f_X10_boxAt 12 i h = some (64 * n + 20, h) ∧ f_X12_isBox 11 i h = some (true, h)) ∨ ((∀ n, n < N → i ≠ nI n) ∧ f_X10_boxAt 12 i h = some (0, h) ∧ f_X12_isBox 11 i h = some (false, h)) := by
  obtain ⟨r1, r2, r3, r4, r5⟩ := r
  rcases i_cnt i N (by omega) with ⟨n, hn, rfl, hd⟩ | ⟨hd, hne⟩
  · refine Or.inl ⟨n, hn, rfl, ?_, ?_⟩
    · simp only [f_X10_boxAt, c_isWithin, w.1, r2, hd, i_ix (show n < 80 by omega) (by decide), i_cl (show n < 2 ^ 31 by omega), (r4 n hn).1.1, if_true, and_self, e_cl, e_bd, e_jn]
    · simp only [f_X12_isBox, m_in, w.2, r3, hd, if_true, and_self, e_cl, e_bd, e_jn]
  · refine Or.inr ⟨hne, ?_, ?_⟩
    · simp only [f_X10_boxAt, c_isWithin, w.1, r2, hd, if_true, and_self, e_cl, e_bd, e_jn, Bool.false_eq_true, if_false]
    · simp only [f_X12_isBox, m_in, w.2, r3, hd, if_true, and_self, e_cl, e_bd, e_jn]
theorem c_craneAt (w : Sh h) (r : RC h C) (i : Int32) : (∃ n, n < C ∧ i = nI n ∧ f_X10_craneAt 12 i h = some (64 * n + 21, h) ∧ f_X12_isCrane 11 i h = some (true, h)) ∨ ((∀ n, n < C → i ≠ nI n) ∧ f_X10_craneAt 12 i h = some (0, h) ∧ f_X12_isCrane 11 i h = some (false, h)) := by
  obtain ⟨r1, r2, r3, r4, r5⟩ := r
  rcases i_cnt i C (by omega) with ⟨n, hn, rfl, hd⟩ | ⟨hd, hne⟩
  · refine Or.inl ⟨n, hn, rfl, ?_, ?_⟩
    · simp only [f_X10_craneAt, c_isWithin, w.1, r2, hd, i_ix (show n < 12 by omega) (by decide), i_cl (show n < 2 ^ 31 by omega), (r4 n hn).1.1, if_true, and_self, e_cl, e_bd, e_jn]
    · simp only [f_X12_isCrane, m_in, w.2, r3, hd, if_true, and_self, e_cl, e_bd, e_jn]
  · refine Or.inr ⟨hne, ?_, ?_⟩
    · simp only [f_X10_craneAt, c_isWithin, w.1, r2, hd, if_true, and_self, e_cl, e_bd, e_jn, Bool.false_eq_true, if_false]
    · simp only [f_X12_isCrane, m_in, w.2, r3, hd, if_true, and_self, e_cl, e_bd, e_jn]
theorem c_shipAt (w : Sh h) (r : RS h S) (i : Int32) : (∃ n, n < S ∧ i = nI n ∧ f_X10_shipAt 12 i h = some (64 * n + 22, h) ∧ f_X12_isShip 11 i h = some (true, h)) ∨ ((∀ n, n < S → i ≠ nI n) ∧ f_X10_shipAt 12 i h = some (0, h) ∧ f_X12_isShip 11 i h = some (false, h)) := by
  obtain ⟨r1, r2, r3, r4, r5⟩ := r
  rcases i_cnt i S (by omega) with ⟨n, hn, rfl, hd⟩ | ⟨hd, hne⟩
  · refine Or.inl ⟨n, hn, rfl, ?_, ?_⟩
    · simp only [f_X10_shipAt, c_isWithin, w.1, r2, hd, i_ix (show n < 3 by omega) (by decide), i_cl (show n < 2 ^ 31 by omega), (r4 n hn).1.1.1, if_true, and_self, e_cl, e_bd, e_jn]
    · simp only [f_X12_isShip, m_in, w.2, r3, hd, if_true, and_self, e_cl, e_bd, e_jn]
  · refine Or.inr ⟨hne, ?_, ?_⟩
    · simp only [f_X10_shipAt, c_isWithin, w.1, r2, hd, if_true, and_self, e_cl, e_bd, e_jn, Bool.false_eq_true, if_false]
    · simp only [f_X12_isShip, m_in, w.2, r3, hd, if_true, and_self, e_cl, e_bd, e_jn]
theorem c_bayAt (w : Sh h) (r : RV h) (i : Int32) : (∃ b, b < 10 ∧ i = nI b ∧ y_B h 994 b = true ∧ vx h b ∧ f_X10_bayAt 12 i h = some (64 * b + 23, h) ∧ f_X12_isBay 11 i h = some (true, h)) ∨ ((∀ b, b < 10 → i = nI b → y_B h 994 b = false) ∧ f_X10_bayAt 12 i h = some (0, h) ∧ f_X12_isBay 11 i h = some (false, h)) := by
  rcases i_rng (lo := 0) (hi := 9) 0 9 rfl rfl (by decide) i with ⟨n, -, hn, rfl, hd⟩ | ⟨hd, hne⟩
  · have hv := r n (by omega)
    have hx := i_ix (show n < 10 by omega) (by decide)
    have hcl := i_cl (show n < 2 ^ 31 by omega)
    by_cases hl : y_B h 994 n = true
    · refine Or.inl ⟨n, by omega, rfl, hl, hv, ?_, ?_⟩
      · have hv2 := hv
        unfold vx at hv2
        rw [if_pos hl] at hv2
        obtain ⟨⟨v1, v2, -⟩, v3, -⟩ := hv2
        have hne0 : ¬ 64 * n + 23 = 0 := by omega
        simp only [f_X10_bayAt, c_isWithin, w.1, hd, hx, hcl, v1, v2, v3, hne0, if_true, and_self, e_cl, e_bd, e_jn, if_false]
      · simp only [f_X12_isBay, m_in, w.2, hd, hx, hcl, hl, if_true, and_self, e_cl, e_bd, e_jn]
    · have hl2 : y_B h 994 n = false := by simpa using hl
      refine Or.inr ⟨fun b hb e => ?_, ?_, ?_⟩
      · rw [i_eq (by omega)] at e
        rw [← e]; exact hl2
      · unfold vx at hv
        rw [if_neg hl] at hv
        rcases hv.1 with ⟨v1, -⟩ | ⟨⟨v1, v2, -⟩, v3⟩
        · simp only [f_X10_bayAt, c_isWithin, w.1, hd, hx, hcl, v1, if_true, and_self, e_cl, e_bd, e_jn]
        · have hne0 : ¬ 64 * n + 23 = 0 := by omega
          simp only [f_X10_bayAt, c_isWithin, w.1, hd, hx, hcl, v1, v2, v3, hne0, if_true, and_self, e_cl, e_bd, e_jn, if_false, Bool.false_eq_true]
      · simp only [f_X12_isBay, m_in, w.2, hd, hx, hcl, hl2, if_true, and_self, e_cl, e_bd, e_jn, Bool.false_eq_true, if_false]
  · refine Or.inr ⟨fun b hb e => absurd e (hne b (by omega) (by omega)), ?_, ?_⟩
    · simp only [f_X10_bayAt, c_isWithin, w.1, hd, if_true, and_self, e_cl, e_bd, e_jn, Bool.false_eq_true, if_false]
    · simp only [f_X12_isBay, m_in, w.2, hd, if_true, and_self, e_cl, e_bd, e_jn, Bool.false_eq_true, if_false]
theorem vx_on {b : Nat} (hv : vx h b) (hl : y_B h 994 b = true) : vshape h b ∧ y_B h (64 * b + 23) 5 = true ∧ y_I h (64 * b + 23) 6 = y_I h 1058 b ∧ rg (y_I h 1058 b) 0 3 ∧ ∃ m, 1 ≤ m ∧ m ≤ 6 ∧ y_I h 1122 b = nI m ∧ y_I h (64 * b + 23) 7 = nI m ∧ ∀ s, s < 6 → stk h b m s := by
  unfold vx at hv
  rwa [if_pos hl] at hv
theorem stk_in {b m s : Nat} (hs : stk h b m s) (hm : s < m) : ∃ H f, 1 ≤ H ∧ H ≤ 5 ∧ f ≤ H ∧ y_I h 1186 (6 * b + s) = nI H ∧ y_I h (64 * b + 30) s = nI H ∧ y_I h (64 * b + 31) s = y_I h 1250 (6 * b + s) ∧ y_I h 1314 (6 * b + s) = nI f ∧ y_I h (64 * b + 32) s = nI f ∧ (∀ t, t < 5 → y_P h (64 * b + 33) (5 * s + t) = if t < f then pB (y_I h 1378 (5 * (6 * b + s) + t)) else 0) := by
  unfold stk at hs
  rwa [if_pos hm] at hs
/-- a stack of a bay that is laid out -/
theorem c_stk (w : Sh h) (r : RV h) {b m : Nat} (hb : b < 10) (hl : y_B h 994 b = true) (hm : m ≤ 6) (e1 : y_I h 1122 b = nI m) (e2 : y_I h (64 * b + 23) 7 = nI m) (e3 : y_K h (64 * b + 23) = 2) (i : Int32) : (∃ s, s < m ∧ i = nI s ∧ f_X1_hasStack (64 * b + 23) i h = some (true, h) ∧ f_X12_isStack 11 (nI b) i h = some (true, h)) ∨ ((∀ s, s < m → i ≠ nI s) ∧ f_X1_hasStack (64 * b + 23) i h = some (false, h) ∧ f_X12_isStack 11 (nI b) i h = some (false, h)) := by
  have hq : f_X12_isBay 11 (nI b) h = some (true, h) := by
    rcases c_bayAt w r (nI b) with ⟨b', h1, h2, -, -, -, h3⟩ | ⟨h1, -⟩
    · exact h3
    · rw [h1 b hb rfl] at hl
      cases hl
  have hx := i_ix hb (by decide)
  have hcl := i_cl (show b < 2 ^ 31 by omega)
  rcases i_cnt i m (by omega) with ⟨s, hs, rfl, hd⟩ | ⟨hd, hne⟩
  · refine Or.inl ⟨s, hs, rfl, ?_, ?_⟩
    · simp only [f_X1_hasStack, e2, e3, i_n0 (show s < 2 ^ 31 by omega), i_le (show m < 2 ^ 31 ∧ s < 2 ^ 31 by omega), show ¬ m ≤ s by omega, if_true, and_self, e_cl, e_bd, e_jn, if_false]
    · simp only [f_X12_isStack, m_in, hq, w.2, hx, hcl, e1, hd, if_true, and_self, e_cl, e_bd, e_jn]
  · refine Or.inr ⟨hne, ?_, ?_⟩
    · simp only [f_X1_hasStack, e2, e3, if_true, and_self, e_cl, e_bd, e_jn]
      by_cases h0 : i < 0
      · rw [if_pos h0]
      · rw [if_neg h0]
        obtain ⟨j, hj, rfl⟩ := nI_of h0
        have : ¬ j < m := fun q => hne j q rfl
        rw [if_pos ((nI_leI (by omega) hj).mpr (by omega))]
    · simp only [f_X12_isStack, m_in, hq, w.2, hx, hcl, e1, hd, if_true, and_self, e_cl, e_bd, e_jn, Bool.false_eq_true, if_false]
end LK
