/-! least: a bay as a number -/
section LSJ
variable {C D : Cg} {s t d k : Nat} {l : List Nat}
def vl : List Nat → Nat
  | [] => 0
  | d :: l => vl l + d * 8 ^ l.length
/-- five digits at the most, none of them 0 -/
def dk (l : List Nat) : Prop := l.length ≤ 5 ∧ ∀ x, x ∈ l → 1 ≤ x ∧ x ≤ 7
theorem dk.tl (h : dk (d :: l)) : dk l ∧ (1 ≤ d ∧ d ≤ 7) ∧ l.length ≤ 4 := ⟨⟨by have := h.1; rw [List.length_cons] at this; omega, fun x hx => h.2 x (List.mem_cons_of_mem _ hx)⟩, h.2 d List.mem_cons_self, by have := h.1; rw [List.length_cons] at this; omega⟩
theorem nn5 (h : t ≤ 4) : t = 0 ∨ t = 1 ∨ t = 2 ∨ t = 3 ∨ t = 4 := by omega
theorem vl_lt : ∀ l : List Nat, dk l → vl l < 8 ^ l.length
  | [], _ => Nat.zero_lt_one
  | d :: l, h => by
    obtain ⟨h1, h2, h3⟩ := h.tl
    have z := vl_lt l h1
    show vl l + d * 8 ^ l.length < 8 ^ (l.length + 1)
    rw [Nat.pow_succ]
    have : d * 8 ^ l.length ≤ 7 * 8 ^ l.length := Nat.mul_le_mul_right _ h2.2
    omega
theorem vl_15 (h : dk l) : vl l < 32768 := by
  have z := vl_lt l h
  have : 8 ^ l.length ≤ 8 ^ 5 := Nat.pow_le_pow_right (by decide) h.1
  omega
/-- the digit at a place, from below -/
def dgt : List Nat → Nat → Nat
  | [], _ => 0
  | d :: l, t => if t = l.length then d else dgt l t
theorem dgt_0 : ∀ (l : List Nat) (t : Nat), l.length ≤ t → dgt l t = 0
  | [], _, _ => rfl
  | d :: l, t, h => by
    rw [List.length_cons] at h
    show (if t = l.length then d else dgt l t) = 0
    rw [if_neg (by omega)]
    exact dgt_0 l t (by omega)
theorem dgt_p : ∀ (l : List Nat) (t : Nat), dk l → t < l.length → 1 ≤ dgt l t ∧ dgt l t ≤ 7
  | [], _, _, h => by cases h
  | d :: l, t, hd, h => by
    obtain ⟨h1, h2, h3⟩ := hd.tl
    rw [List.length_cons] at h
    show 1 ≤ (if t = l.length then d else dgt l t) ∧ (if t = l.length then d else dgt l t) ≤ 7
    by_cases e : t = l.length
    · rw [if_pos e]; exact h2
    · rw [if_neg e]; exact dgt_p l t h1 (by omega)
theorem vl_dg : ∀ (l : List Nat) (t : Nat), dk l → t ≤ 4 → vl l / 8 ^ t % 8 = dgt l t
  | [], t, _, _ => by
    show 0 / 8 ^ t % 8 = 0
    rw [Nat.zero_div]
  | d :: l, t, hd, ht => by
    obtain ⟨h1, h2, h3⟩ := hd.tl
    have ih := vl_dg l t h1 ht
    have vt := vl_lt l h1
    show (vl l + d * 8 ^ l.length) / 8 ^ t % 8 = (if t = l.length then d else dgt l t)
    by_cases e : t = l.length
    · rw [if_pos e, e, Nat.add_mul_div_right _ _ (Nat.pow_pos (by decide)), Nat.div_eq_of_lt vt]
      omega
    · rw [if_neg e, ← ih]
      generalize l.length = m at *
      rcases nn5 h3 with e1 | e1 | e1 | e1 | e1 <;> rw [e1] at vt e ⊢ <;> rcases nn5 ht with e2 | e2 | e2 | e2 | e2 <;> rw [e2] at e ⊢ <;> first | omega | (simp only [Nat.reducePow] at vt ⊢; omega)
/-- the whole -/
def enc (C : Cg) : Nat := vl (C 0) + 32768 * vl (C 1) + 1073741824 * vl (C 2) + 35184372088832 * vl (C 3)
def dkC (C : Cg) : Prop := ∀ s, dk (C s)
theorem enc_lt (h : dkC C) : enc C < 2 ^ 60 := by
  have z0 := vl_15 (h 0)
  have z1 := vl_15 (h 1)
  have z2 := vl_15 (h 2)
  have z3 := vl_15 (h 3)
  unfold enc
  omega
theorem enc_ln (h : dkC C) (hs : s < 4) : enc C / 2 ^ (15 * s) % 32768 = vl (C s) := by
  have z0 := vl_15 (h 0)
  have z1 := vl_15 (h 1)
  have z2 := vl_15 (h 2)
  have z3 := vl_15 (h 3)
  unfold enc
  rcases c4 hs with e | e | e | e <;> subst e <;> simp only [Nat.reduceMul, Nat.reducePow] <;> omega
theorem enc_dg (h : dkC C) (hs : s < 4) (ht : t ≤ 4) (x : Nat) (hx : x < 8) : (enc C + x * 2 ^ 60) / 2 ^ (15 * s + 3 * t) % 8 = dgt (C s) t := by
  rw [← vl_dg (C s) t (h s) ht]
  have z0 := vl_15 (h 0)
  have z1 := vl_15 (h 1)
  have z2 := vl_15 (h 2)
  have z3 := vl_15 (h 3)
  unfold enc
  rcases c4 hs with e | e | e | e <;> subst e <;> rcases nn5 ht with e2 | e2 | e2 | e2 | e2 <;> subst e2 <;> simp only [Nat.reduceMul, Nat.reduceAdd, Nat.reducePow] <;> omega
theorem upI_c (hs : s ≠ t) (x : List Nat) : upI C s x t = C t := upI_n (fun z => hs z.symm)
/-- where a digit is put, or taken away -/
theorem enc_dec (h : dkC C) (hs : s < 4) (hl : dk l) (h4 : l.length ≤ 4) (x : Nat) (hx : x < 8) : ∃ q r, r < 2 ^ (15 * s + 3 * l.length) ∧ (∀ d, enc (upI C s (d :: l)) + x * 2 ^ 60 = 2 ^ (15 * s + 3 * l.length) * (8 * q + d) + r) ∧ enc (upI C s l) + x * 2 ^ 60 = 2 ^ (15 * s + 3 * l.length) * (8 * q) + r := by
  have z0 := vl_15 (h 0)
  have z1 := vl_15 (h 1)
  have z2 := vl_15 (h 2)
  have z3 := vl_15 (h 3)
  have zl := vl_lt l hl
  have vc : ∀ d, vl (d :: l) = vl l + d * 8 ^ l.length := fun _ => rfl
  unfold enc
  rcases c4 hs with e | e | e | e <;> subst e
  · simp only [upI_s, upI_c (show (0 : Nat) ≠ 1 by omega), upI_c (show (0 : Nat) ≠ 2 by omega), upI_c (show (0 : Nat) ≠ 3 by omega), vc]
    generalize l.length = m at *
    refine ⟨(32768 * vl (C 1) + 1073741824 * vl (C 2) + 35184372088832 * vl (C 3) + x * 2 ^ 60) / 2 ^ (3 * m + 3), vl l, ?_, fun d => ?_, ?_⟩ <;> rcases nn5 h4 with e1 | e1 | e1 | e1 | e1 <;> rw [e1] at zl ⊢ <;> simp only [Nat.reduceMul, Nat.reduceAdd, Nat.reducePow] at zl ⊢ <;> omega
  · simp only [upI_s, upI_c (show (1 : Nat) ≠ 0 by omega), upI_c (show (1 : Nat) ≠ 2 by omega), upI_c (show (1 : Nat) ≠ 3 by omega), vc]
    generalize l.length = m at *
    refine ⟨(1073741824 * vl (C 2) + 35184372088832 * vl (C 3) + x * 2 ^ 60) / 2 ^ (15 + 3 * m + 3), vl (C 0) + 32768 * vl l, ?_, fun d => ?_, ?_⟩ <;> rcases nn5 h4 with e1 | e1 | e1 | e1 | e1 <;> rw [e1] at zl ⊢ <;> simp only [Nat.reduceMul, Nat.reduceAdd, Nat.reducePow] at zl ⊢ <;> omega
  · simp only [upI_s, upI_c (show (2 : Nat) ≠ 0 by omega), upI_c (show (2 : Nat) ≠ 1 by omega), upI_c (show (2 : Nat) ≠ 3 by omega), vc]
    generalize l.length = m at *
    refine ⟨(35184372088832 * vl (C 3) + x * 2 ^ 60) / 2 ^ (30 + 3 * m + 3), vl (C 0) + 32768 * vl (C 1) + 1073741824 * vl l, ?_, fun d => ?_, ?_⟩ <;> rcases nn5 h4 with e1 | e1 | e1 | e1 | e1 <;> rw [e1] at zl ⊢ <;> simp only [Nat.reduceMul, Nat.reduceAdd, Nat.reducePow] at zl ⊢ <;> omega
  · simp only [upI_s, upI_c (show (3 : Nat) ≠ 0 by omega), upI_c (show (3 : Nat) ≠ 1 by omega), upI_c (show (3 : Nat) ≠ 2 by omega), vc]
    generalize l.length = m at *
    refine ⟨(x * 2 ^ 60) / 2 ^ (45 + 3 * m + 3), vl (C 0) + 32768 * vl (C 1) + 1073741824 * vl (C 2) + 35184372088832 * vl l, ?_, fun d => ?_, ?_⟩ <;> rcases nn5 h4 with e1 | e1 | e1 | e1 | e1 <;> rw [e1] at zl ⊢ <;> simp only [Nat.reduceMul, Nat.reduceAdd, Nat.reducePow] at zl ⊢ <;> omega
/-- different bays, different numbers -/
theorem vl_inj : ∀ l l2 : List Nat, dk l → dk l2 → vl l = vl l2 → l = l2
  | [], [], _, _, _ => rfl
  | [], d :: l, _, h, e => by
    obtain ⟨h1, h2, h3⟩ := h.tl
    have e2 : 0 = vl l + d * 8 ^ l.length := e
    have : 1 * 8 ^ l.length ≤ d * 8 ^ l.length := Nat.mul_le_mul_right _ h2.1
    have : 0 < 8 ^ l.length := Nat.pow_pos (by decide)
    omega
  | d :: l, [], h, _, e => by
    obtain ⟨h1, h2, h3⟩ := h.tl
    have e2 : vl l + d * 8 ^ l.length = 0 := e
    have : 1 * 8 ^ l.length ≤ d * 8 ^ l.length := Nat.mul_le_mul_right _ h2.1
    have : 0 < 8 ^ l.length := Nat.pow_pos (by decide)
    omega
  | d :: l, d2 :: l2, h, h', e => by
    obtain ⟨h1, h2, h3⟩ := h.tl
    obtain ⟨g1, g2, g3⟩ := h'.tl
    have hll : l.length = l2.length := by
      have a1 : ∀ t, t ≤ 4 → dgt (d :: l) t = dgt (d2 :: l2) t := fun t ht => by rw [← vl_dg _ t h ht, ← vl_dg _ t h' ht, e]
      rcases Nat.lt_trichotomy l.length l2.length with q | q | q
      · have b1 := dgt_p (d2 :: l2) l2.length h' (by rw [List.length_cons]; omega)
        rw [← a1 _ g3, dgt_0 _ _ (by rw [List.length_cons]; omega)] at b1
        omega
      · exact q
      · have b1 := dgt_p (d :: l) l.length h (by rw [List.length_cons]; omega)
        rw [a1 _ h3, dgt_0 _ _ (by rw [List.length_cons]; omega)] at b1
        omega
    have e2 : d * 8 ^ l.length + vl l = d2 * 8 ^ l.length + vl l2 := by
      have : vl l + d * 8 ^ l.length = vl l2 + d2 * 8 ^ l2.length := e
      rw [← hll] at this
      omega
    have v2 := vl_lt l2 g1
    rw [← hll] at v2
    obtain ⟨z1, z2⟩ := dm_inj (vl_lt l h1) v2 e2
    rw [z1, vl_inj l l2 h1 g1 z2]
theorem enc_inj (h : dkC C) (h2 : dkC D) (hC : ∀ s, 4 ≤ s → C s = []) (hD : ∀ s, 4 ≤ s → D s = []) (e : enc C = enc D) : C = D := by
  funext s
  by_cases hs : s < 4
  · refine vl_inj _ _ (h s) (h2 s) ?_
    rw [← enc_ln h hs, ← enc_ln h2 hs, e]
  · rw [hC s (by omega), hD s (by omega)]
end LSJ
