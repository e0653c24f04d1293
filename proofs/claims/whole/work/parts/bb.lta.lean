/-! least: the class reads a bay's number -/
section LTA
variable {C D : Cg} {X : y_H} {y : Sy} {s t d k n e N x m W v : Nat} {l : List Nat}
theorem lg_m32 (n : Nat) : (Int64.toInt32 (lg n)) &&& 32767 = nI (n % 32768) := by
  refine Int32.toBitVec_inj.mp ?_
  rw [Int32.toBitVec_and, Int64.toBitVec_toInt32]
  apply BitVec.eq_of_toNat_eq
  rw [BitVec.toNat_and, BitVec.signExtend_eq_setWidth_of_le _ (by decide), BitVec.toNat_setWidth]
  show (BitVec.ofNat 64 n).toNat % 2 ^ 32 &&& 32767 = (BitVec.ofNat 32 (n % 32768)).toNat
  rw [BitVec.toNat_ofNat, BitVec.toNat_ofNat, show (32767 : Nat) = 2 ^ 15 - 1 from rfl, Nat.and_two_pow_sub_one_eq_mod]
  omega
theorem i_ush3 (h : n < 2 ^ 31) : y_ush (nI n) 3 = nI (n / 8) := by
  unfold y_ush
  refine Int32.toBitVec_inj.mp ?_
  apply BitVec.eq_of_toNat_eq
  show ((nI n).toUInt32 >>> (Int32.toUInt32 3 &&& Int32.toUInt32 31)).toBitVec.toNat = _
  rw [UInt32.toBitVec_shiftRight]
  have e : ((Int32.toUInt32 3 &&& Int32.toUInt32 31).toBitVec % 32) = BitVec.ofNat 32 3 := by decide
  rw [e]
  show ((BitVec.ofNat 32 n) >>> (BitVec.ofNat 32 3).toNat).toNat = (BitVec.ofNat 32 (n / 8)).toNat
  rw [BitVec.toNat_ushiftRight, BitVec.toNat_ofNat, BitVec.toNat_ofNat, BitVec.toNat_ofNat, Nat.shiftRight_eq_div_pow, Nat.mod_eq_of_lt (show n < 2 ^ 32 by omega)]
  show n / 2 ^ 3 = _
  rw [Nat.mod_eq_of_lt (by omega)]
theorem i_a7 (n : Nat) : nI n &&& 7 = nI (n % 8) := i_and n 3 (by decide)
theorem vl_z (h : dk l) (ht : t ≤ 5) : (vl l / 8 ^ t = 0) = (l.length ≤ t) := by
  have z := vl_lt l h
  have p0 : 0 < 8 ^ t := Nat.pow_pos (by decide)
  refine propext ⟨fun q => ?_, fun q => ?_⟩
  · by_cases c : l.length ≤ t
    · exact c
    · have dp := dgt_p l t h (by omega)
      have := vl_dg l t h (by have := h.1; omega)
      rw [q] at this
      omega
  · have : 8 ^ l.length ≤ 8 ^ t := Nat.pow_le_pow_right (by decide) q
    exact Nat.div_eq_of_lt (by omega)
/-- a state of the class: its bay, and how many are out -/
def cenc (x : Nat) (D : Cg) : Nat := enc D + x * 2 ^ 60
theorem cenc_lt (h : dkC D) (hx : x ≤ 5) : cenc x D < 2 ^ 63 := by
  have := enc_lt h
  unfold cenc
  omega
theorem cenc_ln (h : dkC D) (hs : s < 4) : cenc x D / 2 ^ (15 * s) % 32768 = vl (D s) := by
  have z0 := vl_15 (h 0)
  have z1 := vl_15 (h 1)
  have z2 := vl_15 (h 2)
  have z3 := vl_15 (h 3)
  unfold cenc enc
  rcases c4 hs with e | e | e | e <;> subst e <;> simp only [Nat.reduceMul, Nat.reducePow] <;> omega
theorem c_lane (h : dkC D) (hx : x ≤ 5) (hs : s < 4) : (Int64.toInt32 (y_lush (lg (cenc x D)) (15 * nI s))) &&& 32767 = nI (vl (D s)) := by
  have cl := cenc_lt h hx
  rw [i_m15, lg_ush (by omega) (by omega), lg_m32, cenc_ln h hs]
theorem c_fo (h : dkC D) (hx : x ≤ 5) (hs : s < 4) : f_X6_filledOf (lg (cenc x D)) (nI s) X = some (nI (D s).length, X) := by
  have l5 := (h s).1
  have v15 := vl_15 (h s)
  suffices H : wp (f_X6_filledOf (lg (cenc x D)) (nI s) X) fun r X2 => r = nI (D s).length ∧ X2 = X by
    obtain ⟨r, X2, e1, e2, e3⟩ := H
    rw [e1, e2, e3]
  unfold f_X6_filledOf
  rw [c_lane h hx hs]
  refine wp_jl (fun m j => ∀ t, t ≤ (D s).length → (D s).length - t < m → wp (j (nI (vl (D s) / 8 ^ t)) (nI t) (nI t) X) fun r X2 => r = nI (D s).length ∧ X2 = X) (fun t _ hm => absurd hm (by omega)) (fun m j IH t ht hm => ?_) (fun j IH => ?_)
  rotate_left
  · have z := IH 0 (by omega) (by unfold y_fu; omega)
    rw [show vl (D s) / 8 ^ 0 = vl (D s) by rw [Nat.pow_zero, Nat.div_one]] at z
    exact z
  refine wp_jn ?_
  by_cases t5 : t = 5
  · refine wp_pos (by rw [t5]; decide) (wp_some.mpr ⟨?_, rfl⟩)
    rw [show t = (D s).length by omega]
  have n5 : ¬ (5 : Int32) ≤ nI t := nI_ge (b := 5) (by omega) (by omega)
  have vb : vl (D s) / 8 ^ t < 2 ^ 31 := Nat.lt_of_le_of_lt (Nat.div_le_self _ _) (by omega)
  have z0 : (nI (vl (D s) / 8 ^ t) = 0) = ((D s).length ≤ t) := by
    rw [show (0 : Int32) = nI 0 from rfl, i_eq (by omega), vl_z (h s) (by omega)]
  refine wp_neg n5 ?_
  by_cases te : t = (D s).length
  · refine wp_pos (by rw [z0]; omega) (wp_some.mpr ⟨by rw [te], rfl⟩)
  · refine wp_neg (by rw [z0]; omega) ?_
    have z := IH (t + 1) (by omega) (by omega)
    rw [Nat.pow_succ, ← Nat.div_div_eq_div_mul, ← i_ush3 vb, ← nI_1] at z
    exact z
theorem c_out (h : dkC D) (hx : x ≤ 5) : f_X6_outOf (lg (cenc x D)) X = some (nI x, X) := by
  have el := enc_lt h
  have cl := cenc_lt h hx
  unfold f_X6_outOf
  rw [show (60 : Int32) = nI 60 from rfl, lg_ush (by omega) (by omega)]
  have e : cenc x D / 2 ^ 60 = x := by
    unfold cenc
    omega
  rw [e, lg_t32 (by omega)]
/-! the lower bound: digits from below -/
def sfx (l : List Nat) (t : Nat) : List Nat := l.drop (l.length - t)
theorem sfx_0 (l : List Nat) : sfx l 0 = [] := by
  unfold sfx
  rw [Nat.sub_zero, List.drop_length]
theorem sfx_l (l : List Nat) : sfx l l.length = l := by
  unfold sfx
  rw [Nat.sub_self, List.drop_zero]
theorem sfx_s : ∀ (l : List Nat) (t : Nat), t < l.length → sfx l (t + 1) = dgt l t :: sfx l t
  | [], _, h => by cases h
  | d :: l, t, h => by
    rw [List.length_cons] at h
    unfold sfx
    rw [List.length_cons]
    show _ = (if t = l.length then d else dgt l t) :: _
    by_cases e : t = l.length
    · rw [if_pos e, e, Nat.sub_self, List.drop_zero, show l.length + 1 - l.length = 0 + 1 by omega, List.drop_succ_cons, List.drop_zero]
    · have ih := sfx_s l t (by omega)
      unfold sfx at ih
      rw [if_neg e, show l.length + 1 - (t + 1) = (l.length - (t + 1)) + 1 by omega, List.drop_succ_cons, ih, show l.length + 1 - t = (l.length - t) + 1 by omega, List.drop_succ_cons]
theorem cn6_le : ∀ l : List Nat, cn6 l ≤ l.length
  | [] => Nat.le_refl _
  | d :: l => by
    have := cn6_le l
    have := (cn6_c d l).2
    rw [List.length_cons]
    omega
def sumC (D : Cg) : Nat → Nat
  | 0 => 0
  | s + 1 => sumC D s + cn6 (D s)
theorem c_lb (w7 : y_K X 17 = 7) (h : dkC D) (hx : x ≤ W) (hW : W ≤ 5) (e2 : y_I X 17 2 = nI m) (e3 : y_I X 17 3 = nI W) (hm : m ≤ 4) : f_X6_lowerBound 17 (lg (cenc x D)) X = some (nI (W - x + sumC D m), X) := by
  suffices H : wp (f_X6_lowerBound 17 (lg (cenc x D)) X) fun r X2 => r = nI (W - x + sumC D m) ∧ X2 = X by
    obtain ⟨r, X2, e1, e2, e3⟩ := H
    rw [e1, e2, e3]
  unfold f_X6_lowerBound
  refine wp_g w7 (wp_ce (c_out h (by omega)) ?_)
  rw [e3, i_sub hx]
  have sb : ∀ s, s ≤ 4 → sumC D s ≤ 5 * s := fun s => by
    induction s with
    | zero => exact fun _ => Nat.le_refl _
    | succ s ih =>
      intro hs
      have := ih (by omega)
      have a1 := cn6_le (D s)
      have a2 := (h s).1
      show sumC D s + cn6 (D s) ≤ _
      omega
  refine wp_jl (fun q j => ∀ s, s ≤ m → m - s < q → wp (j 17 (lg (cenc x D)) (nI (W - x + sumC D s)) (nI s) X) fun r X2 => r = nI (W - x + sumC D m) ∧ X2 = X) (fun s _ hm => absurd hm (by omega)) (fun q j IH s hs hq => ?_) (fun j IH => ?_)
  rotate_left
  · exact IH 0 (by omega) (by unfold y_fu; omega)
  refine wp_g w7 ?_
  by_cases se : s = m
  · refine wp_pos (by rw [e2]; exact nI_le (by omega) (by omega)) (wp_some.mpr ⟨by rw [se], rfl⟩)
  refine wp_neg (by rw [e2]; exact nI_ge (by omega) (by omega)) ?_
  rw [c_lane h (by omega) (by omega)]
  have l5 := (h s).1
  have v15 := vl_15 (h s)
  have sbs := sb s (by omega)
  refine wp_jl (fun q j => ∀ t, t ≤ (D s).length → (D s).length - t < q → wp (j 17 (lg (cenc x D)) (nI (W - x + sumC D s + cn6 (sfx (D s) t))) (nI s) (nI (vl (D s) / 8 ^ t)) (nI (mn6 (sfx (D s) t))) (nI t) X) fun r X2 => r = nI (W - x + sumC D m) ∧ X2 = X) (fun t _ hm => absurd hm (by omega)) (fun q2 j2 IH2 t ht hq2 => ?_) (fun j2 IH2 => ?_)
  rotate_left
  · have z := IH2 0 (by omega) (by unfold y_fu; omega)
    rw [sfx_0, show vl (D s) / 8 ^ 0 = vl (D s) by rw [Nat.pow_zero, Nat.div_one]] at z
    exact z
  refine wp_jn ?_
  have done : t = (D s).length → wp (j 17 (lg (cenc x D)) (nI (W - x + sumC D s + cn6 (sfx (D s) t))) (nI s + 1) X) fun r X2 => r = nI (W - x + sumC D m) ∧ X2 = X := fun te => by
    rw [te, sfx_l, nI_1, Nat.add_assoc]
    exact IH (s + 1) (by omega) (by omega)
  by_cases t5 : t = 5
  · exact wp_pos (by rw [t5]; decide) (done (by omega))
  have n5 : ¬ (5 : Int32) ≤ nI t := nI_ge (b := 5) (by omega) (by omega)
  have vb : vl (D s) / 8 ^ t < 2 ^ 31 := Nat.lt_of_le_of_lt (Nat.div_le_self _ _) (by omega)
  have z0 : (nI (vl (D s) / 8 ^ t) = 0) = ((D s).length ≤ t) := by
    rw [show (0 : Int32) = nI 0 from rfl, i_eq (by omega), vl_z (h s) (by omega)]
  refine wp_neg n5 ?_
  by_cases te : t = (D s).length
  · exact wp_pos (by rw [z0]; omega) (done te)
  refine wp_neg (by rw [z0]; omega) ?_
  have dd : nI (vl (D s) / 8 ^ t) &&& 7 = nI (dgt (D s) t) := by rw [i_a7, vl_dg (D s) t (h s) (by omega)]
  have dp := dgt_p (D s) t (h s) (by omega)
  have mn : mn6 (sfx (D s) t) ≤ 6 := by
    have : ∀ l : List Nat, mn6 l ≤ 6 := fun l => by
      induction l with
      | nil => exact Nat.le_refl _
      | cons a l ih =>
        show min (mn6 l) a ≤ 6
        omega
    exact this _
  have ss := sfx_s (D s) t (by omega)
  have c1 : cn6 (sfx (D s) (t + 1)) = cn6 (sfx (D s) t) + if mn6 (sfx (D s) t) < dgt (D s) t then 1 else 0 := by rw [ss]; rfl
  have c2 : mn6 (sfx (D s) (t + 1)) = min (mn6 (sfx (D s) t)) (dgt (D s) t) := by rw [ss]; rfl
  have ym : y_mn (nI (mn6 (sfx (D s) t))) (nI (dgt (D s) t)) = nI (mn6 (sfx (D s) (t + 1))) := by
    rw [c2]
    unfold y_mn
    by_cases q : dgt (D s) t < mn6 (sfx (D s) t)
    · rw [if_pos (by rw [i_lt (by omega)]; exact q), Nat.min_eq_right (by omega)]
    · rw [if_neg (by rw [i_lt (by omega)]; exact q), Nat.min_eq_left (by omega)]
  have z := IH2 (t + 1) (by omega) (by omega)
  rw [Nat.pow_succ, ← Nat.div_div_eq_div_mul, ← i_ush3 vb, ← nI_1 t, ← ym, ← dd, c1] at z
  by_cases lt : mn6 (sfx (D s) t) < dgt (D s) t
  · rw [if_pos lt, ← Nat.add_assoc, ← nI_1] at z
    exact wp_neg (by rw [dd]; exact nI_ge lt (by omega)) z
  · rw [if_neg lt, Nat.add_zero] at z
    refine wp_pos (by rw [dd]; exact nI_le (by omega) (by omega)) ?_
    rw [Int32.add_zero]
    exact z
theorem sumC_lb (hx : y.cl.out D = x) (hD : ∀ s, y.m ≤ s → D s = []) (hm : y.m ≤ 4) : y.W - x + sumC D y.m = lbC y.cl D := by
  have z : ∀ s, y.m ≤ s → cn6 (D s) = 0 := fun s hs => by rw [hD s hs]; rfl
  unfold lbC s4
  rw [hx]
  show y.W - x + sumC D y.m = y.W - x + (cn6 (D 0) + cn6 (D 1) + cn6 (D 2) + cn6 (D 3))
  rcases (show y.m = 0 ∨ y.m = 1 ∨ y.m = 2 ∨ y.m = 3 ∨ y.m = 4 by omega) with e | e | e | e | e <;> rw [e] at z ⊢
  · show _ + 0 = _
    rw [z 0 (by omega), z 1 (by omega), z 2 (by omega), z 3 (by omega)]
  · show _ + (0 + cn6 (D 0)) = _
    rw [z 1 (by omega), z 2 (by omega), z 3 (by omega)]
    omega
  · show _ + (0 + cn6 (D 0) + cn6 (D 1)) = _
    rw [z 2 (by omega), z 3 (by omega)]
    omega
  · show _ + (0 + cn6 (D 0) + cn6 (D 1) + cn6 (D 2)) = _
    rw [z 3 (by omega)]
    omega
  · show _ + (0 + cn6 (D 0) + cn6 (D 1) + cn6 (D 2) + cn6 (D 3)) = _
    omega
end LTA
