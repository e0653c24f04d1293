/-! least: how many states there are -/
section LSG
variable {y : Sy} {C D : Cg} {k : Nat}
def fct : Nat → Nat
  | 0 => 1
  | n + 1 => (n + 1) * fct n
def pix : List Nat → List Nat → Nat
  | _, [] => 0
  | r, x :: l => r.idxOf x * fct l.length + pix (r.erase x) l
theorem pix_p {x : Nat} {l r : List Nat} (p : (x :: l).Perm r) : x ∈ r ∧ l.Perm (r.erase x) := List.cons_perm_iff_perm_erase.mp p
theorem pix_lt : ∀ (l r : List Nat), l.Perm r → pix r l < fct l.length
  | [], _, _ => Nat.zero_lt_one
  | x :: l, r, p => by
    obtain ⟨hx, p2⟩ := pix_p p
    have i1 := pix_lt l (r.erase x) p2
    have i2 : r.idxOf x < r.length := List.idxOf_lt_length_iff.mpr hx
    have i3 : r.length = l.length + 1 := by rw [← p.length_eq, List.length_cons]
    show r.idxOf x * fct l.length + pix (r.erase x) l < (l.length + 1) * fct l.length
    have i4 : (r.idxOf x + 1) * fct l.length ≤ (l.length + 1) * fct l.length := Nat.mul_le_mul_right _ (by omega)
    have i5 : (r.idxOf x + 1) * fct l.length = r.idxOf x * fct l.length + fct l.length := Nat.succ_mul _ _
    omega
theorem dm_inj {a b c d F : Nat} (h1 : b < F) (h2 : d < F) (h : a * F + b = c * F + d) : a = c ∧ b = d := by
  have e1 : (a * F + b) / F = a := by
    rw [Nat.mul_comm, Nat.mul_add_div (by omega), Nat.div_eq_of_lt h1]
    omega
  have e2 : (c * F + d) / F = c := by
    rw [Nat.mul_comm, Nat.mul_add_div (by omega), Nat.div_eq_of_lt h2]
    omega
  have e3 : a = c := by rw [← e1, h, e2]
  exact ⟨e3, by rw [e3] at h; omega⟩
theorem idx_inj {r : List Nat} {a b : Nat} (ha : a ∈ r) (hb : b ∈ r) (h : r.idxOf a = r.idxOf b) : a = b := by
  have i1 : r.idxOf a < r.length := List.idxOf_lt_length_iff.mpr ha
  have i2 : r.idxOf b < r.length := List.idxOf_lt_length_iff.mpr hb
  have e1 : r[r.idxOf a]'i1 = a := List.getElem_idxOf i1
  have e2 : r[r.idxOf b]'i2 = b := List.getElem_idxOf i2
  rw [← e1, ← e2]
  congr 1
theorem pix_inj : ∀ (l l2 r : List Nat), l.Perm r → l2.Perm r → pix r l = pix r l2 → l = l2
  | [], l2, r, p, p2, _ => by
    have := p.length_eq.trans p2.length_eq.symm
    exact (List.length_eq_zero_iff.mp this.symm).symm
  | x :: l, [], r, p, p2, _ => by
    have := p.length_eq.trans p2.length_eq.symm
    cases this
  | x :: l, x2 :: l2, r, p, p2, h => by
    have hl := p.length_eq.trans p2.length_eq.symm
    rw [List.length_cons, List.length_cons] at hl
    obtain ⟨hx, q⟩ := pix_p p
    obtain ⟨hx2, q2⟩ := pix_p p2
    have h' : r.idxOf x * fct l.length + pix (r.erase x) l = r.idxOf x2 * fct l.length + pix (r.erase x2) l2 := by
      have : r.idxOf x * fct l.length + pix (r.erase x) l = r.idxOf x2 * fct l2.length + pix (r.erase x2) l2 := h
      rw [this, show l2.length = l.length by omega]
    have b1 := pix_lt l _ q
    have b2 := pix_lt l2 _ q2
    rw [show l2.length = l.length by omega] at b2
    obtain ⟨z1, z2⟩ := dm_inj b1 b2 h'
    have ex := idx_inj hx hx2 z1
    subst ex
    rw [pix_inj l l2 _ q q2 z2]
/-! how the boxes share the stacks -/
def cpl (k : Nat) : List Nat := (List.range 1296).filter (fun v => decide (v % 6 + v / 6 % 6 + v / 36 % 6 + v / 216 = k))
def lnv (C : Cg) : Nat := (C 0).length + 6 * (C 1).length + 36 * (C 2).length + 216 * (C 3).length
theorem cpl_len : (cpl 0).length = 1 ∧ (cpl 1).length = 4 ∧ (cpl 2).length = 10 ∧ (cpl 3).length = 20 ∧ (cpl 4).length = 35 ∧ (cpl 5).length = 56 ∧ (cpl 6).length = 80 := by decide +kernel
theorem RI.l5 (O : OkS y) (r : RI y C) (s : Nat) : (C s).length ≤ 5 := by
  by_cases q : s < y.m
  · have z1 := r.2.2.1 s q
    have z2 := O.2.2.2.2.1 s q
    omega
  · rw [r.2.2.2 s (by omega)]
    exact Nat.zero_le _
theorem lnv_mem (O : OkS y) (r : RI y C) : lnv C ∈ cpl (ttC C) := by
  have z0 := r.l5 O 0
  have z1 := r.l5 O 1
  have z2 := r.l5 O 2
  have z3 := r.l5 O 3
  unfold cpl lnv ttC
  rw [List.mem_filter, List.mem_range]
  refine ⟨by omega, decide_eq_true ?_⟩
  omega
def ofk (k : Nat) : Nat := if k = 0 then 0 else if k = 1 then 1 else if k = 2 then 5 else if k = 3 then 25 else if k = 4 then 145 else if k = 5 then 985 else 7705
def cdC (y : Sy) (C : Cg) : Nat := ofk (ttC C) + ((cpl (ttC C)).idxOf (lnv C) * fct (ttC C) + pix (lab y (y.out C)) (flt C))
theorem cd_b (O : OkS y) (r : RI y C) : (cpl (ttC C)).idxOf (lnv C) < (cpl (ttC C)).length ∧ pix (lab y (y.out C)) (flt C) < fct (ttC C) ∧ ttC C ≤ 6 := by
  refine ⟨List.idxOf_lt_length_iff.mpr (lnv_mem O r), ?_, ?_⟩
  · have z := pix_lt (flt C) _ r.2.1
    rw [flt_len] at z
    exact z
  · have := r.tot O
    have := O.2.2.2.1
    omega
theorem cd_r (O : OkS y) (r : RI y C) : ∃ z, cdC y C = ofk (ttC C) + z ∧ ((ttC C = 0 ∧ z < 1) ∨ (ttC C = 1 ∧ z < 4) ∨ (ttC C = 2 ∧ z < 20) ∨ (ttC C = 3 ∧ z < 120) ∨ (ttC C = 4 ∧ z < 840) ∨ (ttC C = 5 ∧ z < 6720) ∨ (ttC C = 6 ∧ z < 57600)) := by
  obtain ⟨b1, b2, b3⟩ := cd_b O r
  obtain ⟨c0, c1, c2, c3, c4, c5, c6⟩ := cpl_len
  refine ⟨_, rfl, ?_⟩
  have key : ∀ a F p L : Nat, a < L → p < F → a * F + p < L * F := fun a F p L h1 h2 => by
    have : (a + 1) * F ≤ L * F := Nat.mul_le_mul_right _ (by omega)
    have e : (a + 1) * F = a * F + F := Nat.succ_mul _ _
    omega
  have kk := key _ _ _ _ b1 b2
  rcases (show ttC C = 0 ∨ ttC C = 1 ∨ ttC C = 2 ∨ ttC C = 3 ∨ ttC C = 4 ∨ ttC C = 5 ∨ ttC C = 6 by omega) with e | e | e | e | e | e | e <;> rw [e] at kk ⊢
  · rw [c0] at kk; exact Or.inl ⟨rfl, kk⟩
  · rw [c1] at kk; exact Or.inr (Or.inl ⟨rfl, kk⟩)
  · rw [c2] at kk; exact Or.inr (Or.inr (Or.inl ⟨rfl, kk⟩))
  · rw [c3] at kk; exact Or.inr (Or.inr (Or.inr (Or.inl ⟨rfl, kk⟩)))
  · rw [c4] at kk; exact Or.inr (Or.inr (Or.inr (Or.inr (Or.inl ⟨rfl, kk⟩))))
  · rw [c5] at kk; exact Or.inr (Or.inr (Or.inr (Or.inr (Or.inr (Or.inl ⟨rfl, kk⟩)))))
  · rw [c6] at kk; exact Or.inr (Or.inr (Or.inr (Or.inr (Or.inr (Or.inr ⟨rfl, kk⟩)))))
theorem cd_lt (O : OkS y) (r : RI y C) : cdC y C < 65305 := by
  obtain ⟨z, e, h⟩ := cd_r O r
  rw [e]
  unfold ofk
  rcases h with ⟨h, q⟩ | ⟨h, q⟩ | ⟨h, q⟩ | ⟨h, q⟩ | ⟨h, q⟩ | ⟨h, q⟩ | ⟨h, q⟩ <;> rw [h] <;> simp <;> omega
theorem cd_tt (O : OkS y) (r : RI y C) (r2 : RI y D) (h : cdC y C = cdC y D) : ttC C = ttC D := by
  obtain ⟨z, e, p⟩ := cd_r O r
  obtain ⟨z2, e2, p2⟩ := cd_r O r2
  rw [e, e2] at h
  unfold ofk at h
  rcases p with ⟨p, q⟩ | ⟨p, q⟩ | ⟨p, q⟩ | ⟨p, q⟩ | ⟨p, q⟩ | ⟨p, q⟩ | ⟨p, q⟩ <;> rcases p2 with ⟨p2, q2⟩ | ⟨p2, q2⟩ | ⟨p2, q2⟩ | ⟨p2, q2⟩ | ⟨p2, q2⟩ | ⟨p2, q2⟩ | ⟨p2, q2⟩ <;> rw [p, p2] at h ⊢ <;> simp at h <;> omega
theorem cd_inj (O : OkS y) (r : RI y C) (r2 : RI y D) (h : cdC y C = cdC y D) : C = D := by
  have ht := cd_tt O r r2 h
  obtain ⟨b1, b2, -⟩ := cd_b O r
  obtain ⟨b3, b4, -⟩ := cd_b O r2
  have ho : y.out C = y.out D := by
    unfold Sy.out
    rw [ht]
  have h' : (cpl (ttC C)).idxOf (lnv C) * fct (ttC C) + pix (lab y (y.out C)) (flt C) = (cpl (ttC C)).idxOf (lnv D) * fct (ttC C) + pix (lab y (y.out C)) (flt D) := by
    unfold cdC at h
    rw [← ht, ← ho] at h
    omega
  rw [← ht, ← ho] at b4
  obtain ⟨z1, z2⟩ := dm_inj b2 b4 h'
  have m2 := lnv_mem O r2
  rw [← ht] at m2
  have el := idx_inj (lnv_mem O r) m2 z1
  have p2 := r2.2.1
  rw [← ho] at p2
  have ef := pix_inj _ _ _ r.2.1 p2 z2
  have a0 := r.l5 O 0
  have a1 := r.l5 O 1
  have a2 := r.l5 O 2
  have a3 := r.l5 O 3
  have d0 := r2.l5 O 0
  have d1 := r2.l5 O 1
  have d2 := r2.l5 O 2
  have d3 := r2.l5 O 3
  unfold lnv at el
  unfold flt at ef
  obtain ⟨f1, f2⟩ := List.append_inj ef (by rw [List.length_append, List.length_append, List.length_append, List.length_append]; omega)
  obtain ⟨f3, f4⟩ := List.append_inj f1 (by rw [List.length_append, List.length_append]; omega)
  obtain ⟨f5, f6⟩ := List.append_inj f3 (by omega)
  have hm := O.1
  funext s
  by_cases hs : s < 4
  · rcases c4 hs with e | e | e | e <;> subst e
    · exact f5
    · exact f6
    · exact f4
    · exact f2
  · rw [r.2.2.2 s (by omega), r2.2.2.2 s (by omega)]
/-- so many states at the most -/
theorem cd_all (O : OkS y) {N : Nat} {st : Nat → Cg} (h : ∀ k, k < N → RI y (st k)) (nd : ∀ k l, k < l → l < N → st k ≠ st l) : N ≤ 65305 := by
  refine pg N 65305 (fun k => cdC y (st k)) (fun i hi => cd_lt O (h i hi)) (fun i j hi hj e => ?_)
  have z := cd_inj O (h i hi) (h j hj) e
  rcases Nat.lt_trichotomy i j with q | q | q
  · exact absurd z (nd i j q hj)
  · exact q
  · exact absurd z.symm (nd j i q hi)
end LSG
