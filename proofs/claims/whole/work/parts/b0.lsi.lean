/-! least: longs as rows of bits -/
section LSI
variable {n k d : Nat}
abbrev lg (n : Nat) : Int64 := Int64.ofNat n
theorem lg_bv (n : Nat) : (lg n).toBitVec = BitVec.ofNat 64 n := rfl
theorem lg_ext {a b : Int64} (h : a.toBitVec = b.toBitVec) : a = b := Int64.toBitVec_inj.mp h
theorem lg_inj {m : Nat} (h1 : n < 2 ^ 63) (h2 : m < 2 ^ 63) (e : lg n = lg m) : n = m := by
  have z : (lg n).toBitVec.toNat = (lg m).toBitVec.toNat := by rw [e]
  rw [lg_bv, lg_bv, BitVec.toNat_ofNat, BitVec.toNat_ofNat, Nat.mod_eq_of_lt (by omega), Nat.mod_eq_of_lt (by omega)] at z
  exact z
theorem lg_of {x : Int64} {n : Nat} (h : x.toBitVec.toNat = n) : x = lg n := lg_ext (by
  rw [lg_bv]
  apply BitVec.eq_of_toNat_eq
  rw [BitVec.toNat_ofNat, h, Nat.mod_eq_of_lt]
  rw [← h]
  exact x.toBitVec.isLt)
theorem lg_nat (h : n < 2 ^ 64) : (lg n).toBitVec.toNat = n := by
  rw [lg_bv, BitVec.toNat_ofNat, Nat.mod_eq_of_lt h]
theorem lg_i (h : n < 2 ^ 31) : Int32.toInt64 (nI n) = lg n := by
  refine Int64.toInt.inj ?_
  rw [Int32.toInt_toInt64]
  have e1 : (nI n).toInt = (n : Int) := Int32.toInt_ofNat_of_lt h
  have e2 : (lg n).toInt = (n : Int) := Int64.toInt_ofNat_of_lt (by omega)
  rw [e1, e2]
theorem lg_and (a b : Nat) : lg a &&& lg b = lg (a &&& b) := lg_ext (by rw [Int64.toBitVec_and, lg_bv, lg_bv, lg_bv, BitVec.ofNat_and])
theorem lg_63 (h : k < 64) : lg k &&& 63 = lg k := by
  show lg k &&& lg 63 = lg k
  rw [lg_and, show (63 : Nat) = 2 ^ 6 - 1 from rfl, Nat.and_two_pow_sub_one_eq_mod, Nat.mod_eq_of_lt h]
theorem lg_7 (n : Nat) : lg n &&& 7 = lg (n % 8) := by
  show lg n &&& lg 7 = lg (n % 8)
  rw [lg_and, show (7 : Nat) = 2 ^ 3 - 1 from rfl, Nat.and_two_pow_sub_one_eq_mod]
theorem smod_64 : ∀ k : Fin 64, (BitVec.ofNat 64 k.val).smod 64 = BitVec.ofNat 64 k.val := by decide +kernel
theorem lg_shr (hn : n < 2 ^ 63) (hk : k < 64) : lg n >>> lg k = lg (n / 2 ^ k) := by
  refine lg_of ?_
  rw [Int64.toBitVec_shiftRight, lg_bv, lg_bv, smod_64 ⟨k, hk⟩]
  show ((BitVec.ofNat 64 n).sshiftRight (BitVec.ofNat 64 k).toNat).toNat = _
  have mb : (BitVec.ofNat 64 n).msb = false := by
    rw [BitVec.msb_eq_decide, BitVec.toNat_ofNat, Nat.mod_eq_of_lt (by omega)]
    exact decide_eq_false (by omega)
  rw [BitVec.sshiftRight_eq_of_msb_false mb, BitVec.toNat_ushiftRight, BitVec.toNat_ofNat, BitVec.toNat_ofNat, Nat.mod_eq_of_lt (by omega), Nat.mod_eq_of_lt (by omega), Nat.shiftRight_eq_div_pow]
theorem lg_shl (hk : k < 64) : lg d <<< lg k = lg (d * 2 ^ k) := by
  refine lg_ext ?_
  rw [Int64.toBitVec_shiftLeft, lg_bv, lg_bv, smod_64 ⟨k, hk⟩, lg_bv]
  apply BitVec.eq_of_toNat_eq
  show ((BitVec.ofNat 64 d) <<< (BitVec.ofNat 64 k).toNat).toNat = _
  rw [BitVec.toNat_shiftLeft, BitVec.toNat_ofNat, BitVec.toNat_ofNat, BitVec.toNat_ofNat, Nat.mod_eq_of_lt (show k < 2 ^ 64 by omega), Nat.shiftLeft_eq, Nat.mod_mul_mod]
theorem lg_ush (hn : n < 2 ^ 64) (hk : k < 64) : y_lush (lg n) (nI k) = lg (n / 2 ^ k) := by
  unfold y_lush
  rw [lg_i (by omega)]
  refine lg_of ?_
  show ((lg n).toUInt64 >>> ((lg k).toUInt64 &&& Int64.toUInt64 63)).toBitVec.toNat = _
  rw [UInt64.toBitVec_shiftRight]
  have e : (((lg k).toUInt64 &&& Int64.toUInt64 63).toBitVec % 64) = BitVec.ofNat 64 k := by
    have z : ((lg k).toUInt64 &&& Int64.toUInt64 63).toBitVec = BitVec.ofNat 64 k := by
      rw [UInt64.toBitVec_and]
      show BitVec.ofNat 64 k &&& BitVec.ofNat 64 63 = _
      rw [← BitVec.ofNat_and, show (63 : Nat) = 2 ^ 6 - 1 from rfl, Nat.and_two_pow_sub_one_eq_mod, Nat.mod_eq_of_lt hk]
    rw [z]
    apply BitVec.eq_of_toNat_eq
    rw [BitVec.toNat_umod, BitVec.toNat_ofNat, show ((64 : BitVec 64).toNat) = 64 from rfl]
    omega
  rw [e]
  show ((BitVec.ofNat 64 n) >>> (BitVec.ofNat 64 k).toNat).toNat = _
  rw [BitVec.toNat_ushiftRight, BitVec.toNat_ofNat, BitVec.toNat_ofNat, Nat.mod_eq_of_lt hn, Nat.mod_eq_of_lt (by omega), Nat.shiftRight_eq_div_pow]
/-! digits -/
theorem tb {q r : Nat} (hd : d < 8) (hr : r < 2 ^ k) (j : Nat) : (2 ^ k * (8 * q + d) + r).testBit j = if j < k then r.testBit j else if j - k < 3 then d.testBit (j - k) else q.testBit (j - k - 3) := by
  rw [Nat.testBit_two_pow_mul_add _ hr]
  by_cases h : j < k
  · rw [if_pos h, if_pos h]
  · rw [if_neg h, if_neg h, show 8 * q + d = 2 ^ 3 * q + d from rfl, Nat.testBit_two_pow_mul_add _ (show d < 2 ^ 3 by omega)]
theorem tb0 (hd : d < 8) {j : Nat} (h : ¬ j < 3) : d.testBit j = false := Nat.testBit_lt_two_pow (Nat.lt_of_lt_of_le hd (by
  show 2 ^ 3 ≤ 2 ^ j
  exact Nat.pow_le_pow_right (by decide) (by omega)))
theorem tbm (hd : d < 8) (j : Nat) : (d * 2 ^ k).testBit j = if j < k then false else if j - k < 3 then d.testBit (j - k) else false := by
  have z := tb (k := k) (q := 0) (r := 0) hd (Nat.two_pow_pos k) j
  rw [show 2 ^ k * (8 * 0 + d) + 0 = d * 2 ^ k by rw [Nat.mul_zero, Nat.zero_add, Nat.add_zero, Nat.mul_comm]] at z
  rw [z]
  simp only [Nat.zero_testBit]
/-- a digit is put where none is -/
theorem nat_put {q r : Nat} (hd : d < 8) (hr : r < 2 ^ k) : (2 ^ k * (8 * q) + r) ||| (d * 2 ^ k) = 2 ^ k * (8 * q + d) + r := by
  apply Nat.eq_of_testBit_eq
  intro j
  rw [Nat.testBit_or, tb hd hr, tbm hd]
  have z := tb (k := k) (q := q) (d := 0) (by omega) hr j
  rw [Nat.add_zero] at z
  rw [z]
  by_cases h : j < k
  · rw [if_pos h, if_pos h, if_pos h, Bool.or_false]
  · rw [if_neg h, if_neg h, if_neg h]
    by_cases h2 : j - k < 3
    · rw [if_pos h2, if_pos h2, if_pos h2, Nat.zero_testBit, Bool.false_or]
    · rw [if_neg h2, if_neg h2, if_neg h2, Bool.or_false]
theorem lg_or (a b : Nat) : lg a ||| lg b = lg (a ||| b) := lg_ext (by rw [Int64.toBitVec_or, lg_bv, lg_bv, lg_bv, BitVec.ofNat_or])
theorem lg_put {q r : Nat} (hd : d < 8) (hr : r < 2 ^ k) : lg (2 ^ k * (8 * q) + r) ||| lg (d * 2 ^ k) = lg (2 ^ k * (8 * q + d) + r) := by rw [lg_or, nat_put hd hr]
/-- a digit is taken away: x has all of its bits, and no other -/
theorem lg_clr {q r x : Nat} (hd : d < 8) (hx : x < 8) (hdx : ∀ j, d.testBit j = true → x.testBit j = true) (hr : r < 2 ^ k) : lg (2 ^ k * (8 * q + d) + r) &&& (lg (x * 2 ^ k) ^^^ (-1)) = lg (2 ^ k * (8 * q) + r) := by
  refine lg_ext ?_
  rw [Int64.toBitVec_and, Int64.toBitVec_xor, lg_bv, lg_bv, lg_bv]
  apply BitVec.eq_of_getLsbD_eq
  intro j hj
  have m1 : (-1 : Int64).toBitVec = BitVec.allOnes 64 := by decide
  rw [m1, BitVec.getLsbD_and, BitVec.getLsbD_xor, BitVec.getLsbD_ofNat, BitVec.getLsbD_ofNat, BitVec.getLsbD_ofNat, BitVec.getLsbD_allOnes, decide_eq_true hj, Bool.true_and, Bool.true_and, Bool.true_and, tb hd hr, tbm hx]
  have z := tb (k := k) (q := q) (d := 0) (by omega) hr j
  rw [Nat.add_zero] at z
  rw [z]
  by_cases h : j < k
  · rw [if_pos h, if_pos h, if_pos h]
    simp
  · rw [if_neg h, if_neg h, if_neg h]
    by_cases h2 : j - k < 3
    · rw [if_pos h2, if_pos h2, if_pos h2, Nat.zero_testBit]
      cases hb : d.testBit (j - k)
      · rfl
      · rw [hdx _ hb]
        rfl
    · rw [if_neg h2, if_neg h2, if_neg h2]
      simp
theorem lg_t32 (h : n < 2 ^ 31) : Int64.toInt32 (lg n) = nI n := by
  rw [← lg_i h, Int32.toInt32_toInt64]
theorem lgc0 (a b : Int64) : (lg_cmp a b = 0) = (a = b) := by
  unfold lg_cmp
  by_cases h : a = b
  · rw [h]
    simp
  · simp [h]
    split <;> decide
end LSI
