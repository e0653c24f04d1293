/-! least: which boxes are there; the lower bound -/
section LSC
def flt (C : Cg) : List Nat := C 0 ++ C 1 ++ C 2 ++ C 3
variable {y : Sy} {C D C0 : Cg} {f g k e o d : Nat} {l : List Nat}
theorem c4 (hf : f < 4) : f = 0 ∨ f = 1 ∨ f = 2 ∨ f = 3 := by omega
theorem flt_len : (flt C).length = ttC C := by
  unfold flt ttC
  simp only [List.length_append]
theorem flt_up (hf : f < 4) (x : List Nat) (hx : C f = d :: x) : (flt C).Perm (d :: flt (upI C f x)) := by
  rcases c4 hf with e | e | e | e <;> subst e <;> unfold flt upI <;> rw [hx] <;> simp only [if_true, show ((1 : Nat) = 0) = False by simp, show ((2 : Nat) = 0) = False by simp, show ((3 : Nat) = 0) = False by simp, show ((0 : Nat) = 1) = False by simp, show ((2 : Nat) = 1) = False by simp, show ((3 : Nat) = 1) = False by simp, show ((0 : Nat) = 2) = False by simp, show ((1 : Nat) = 2) = False by simp, show ((3 : Nat) = 2) = False by simp, show ((0 : Nat) = 3) = False by simp, show ((1 : Nat) = 3) = False by simp, show ((2 : Nat) = 3) = False by simp, if_false]
  · exact List.Perm.refl _
  · simp only [List.append_assoc]
    exact List.perm_middle
  · rw [List.append_assoc (C 0 ++ C 1), List.append_assoc (C 0 ++ C 1)]
    exact List.perm_middle
  · exact List.perm_middle
theorem upI_upI (hne : g ≠ f) (x : List Nat) (hx : C f = d :: l) : upI (upI (upI C f l) g x) g (C g) = upI C f l := by
  funext s
  unfold upI
  by_cases q : s = g
  · rw [if_pos q, q, if_neg hne]
  · rw [if_neg q, if_neg q]
/-- a box more on a stack -/
theorem flt_add (hg : g < 4) : (flt (upI C g (d :: C g))).Perm (d :: flt C) := by
  have z := flt_up (C := upI C g (d :: C g)) (f := g) (d := d) hg (C g) (upI_s _ _ _)
  have z2 : upI (upI C g (d :: C g)) g (C g) = C := by
    funext s
    unfold upI
    by_cases q : s = g
    · rw [if_pos q, q]
    · rw [if_neg q, if_neg q]
  rw [z2] at z
  exact z
theorem flt_mv (hf : f < 4) (hg : g < 4) (ne : g ≠ f) (hx : C f = d :: l) : (flt (upI (upI C f l) g (d :: C g))).Perm (flt C) := by
  have z := flt_add (C := upI C f l) (g := g) (d := d) hg
  rw [upI_n ne] at z
  exact z.trans (flt_up hf l hx).symm
/-- the boxes that are there when o are out -/
def lab (y : Sy) (o : Nat) : List Nat := (List.range' 1 y.n).filter (fun x => decide (o ≤ y.rk x))
/-- the order is in the bay, each of it once -/
def OkS (y : Sy) : Prop := y.m ≤ 4 ∧ y.W ≤ 5 ∧ y.W ≤ y.n ∧ y.n ≤ 6 ∧ (∀ s, s < y.m → y.H s ≤ 5) ∧ (∀ o, o < y.W → ∃ x, 1 ≤ x ∧ x ≤ y.n ∧ y.rk x = o) ∧ (∀ x z, 1 ≤ x → x ≤ y.n → 1 ≤ z → z ≤ y.n → y.rk x = y.rk z → y.rk x < y.W → x = z)
theorem flt1 {L : List Nat} {x : Nat} {p q : Nat → Bool} (nd : L.Nodup) (hx : x ∈ L) (px : p x = true) (qx : q x = false) (h : ∀ z, z ∈ L → z ≠ x → p z = q z) : (L.filter p).Perm (x :: L.filter q) := by
  induction L with
  | nil => cases hx
  | cons a t ih =>
    have nd2 := List.nodup_cons.mp nd
    by_cases e : a = x
    · have z : t.filter p = t.filter q := List.filter_congr (fun b hb => h b (List.mem_cons_of_mem _ hb) (fun w => nd2.1 (by rw [e, ← w]; exact hb)))
      rw [List.filter_cons, List.filter_cons, e, px, qx, z]
      exact List.Perm.refl _
    · have hx2 : x ∈ t := by
        rcases List.mem_cons.mp hx with w | w
        · exact absurd w.symm e
        · exact w
      have i := ih nd2.2 hx2 (fun b hb w => h b (List.mem_cons_of_mem _ hb) w)
      have pa := h a (List.mem_cons_self) e
      rw [List.filter_cons, List.filter_cons, pa]
      cases hq : q a
      · exact i
      · exact (List.Perm.cons a i).trans (List.Perm.swap x a _)
theorem mem_rng {x n : Nat} : x ∈ List.range' 1 n ↔ 1 ≤ x ∧ x ≤ n := by
  rw [List.mem_range'_1]
  omega
theorem lab_mem {x : Nat} : x ∈ lab y o ↔ (1 ≤ x ∧ x ≤ y.n) ∧ o ≤ y.rk x := by
  unfold lab
  rw [List.mem_filter, mem_rng, decide_eq_true_iff]
theorem lab_step (O : OkS y) (ho : o < y.W) : ∃ x, y.rk x = o ∧ x ∈ lab y o ∧ (lab y o).Perm (x :: lab y (o + 1)) := by
  obtain ⟨-, -, -, -, -, o1, o2⟩ := O
  obtain ⟨x, hx1, hx2, hx3⟩ := o1 o ho
  refine ⟨x, hx3, lab_mem.mpr ⟨⟨hx1, hx2⟩, by omega⟩, ?_⟩
  unfold lab
  refine flt1 (List.nodup_range') (mem_rng.mpr ⟨hx1, hx2⟩) (decide_eq_true (by omega)) (decide_eq_false (by omega)) (fun z hz ne => ?_)
  obtain ⟨z1, z2⟩ := mem_rng.mp hz
  have nz : y.rk z ≠ o := fun w => ne (o2 z x z1 z2 hx1 hx2 (w.trans hx3.symm) (by omega))
  by_cases q : o ≤ y.rk z
  · rw [decide_eq_true q, decide_eq_true (show o + 1 ≤ y.rk z by omega)]
  · rw [decide_eq_false q, decide_eq_false (show ¬ o + 1 ≤ y.rk z by omega)]
theorem lab_len (O : OkS y) : ∀ o, o ≤ y.W → (lab y o).length = y.n - o
  | 0, _ => by
    unfold lab
    have z : (List.range' 1 y.n).filter (fun x => decide (0 ≤ y.rk x)) = List.range' 1 y.n := List.filter_eq_self.mpr (fun a _ => decide_eq_true (Nat.zero_le _))
    rw [z, List.length_range']
    omega
  | o + 1, h => by
    obtain ⟨x, -, -, p⟩ := lab_step O (show o < y.W by omega)
    have z := p.length_eq
    rw [lab_len O o (by omega), List.length_cons] at z
    have := O.2.2.1
    omega
/-- what holds of every state that a row leads to -/
def RI (y : Sy) (C : Cg) : Prop := y.out C ≤ y.W ∧ (flt C).Perm (lab y (y.out C)) ∧ (∀ s, s < y.m → (C s).length ≤ y.H s) ∧ ∀ s, y.m ≤ s → C s = []
theorem RI.tot (O : OkS y) (r : RI y C) : ttC C = y.n - y.out C := by
  rw [← flt_len, r.2.1.length_eq, lab_len O _ r.1]
theorem RI.go (O : OkS y) (r : RI y C) (q : y.go C f g = some D) : RI y D ∧ (D = D ∧ ((1 ≤ g ∧ y.out D = y.out C) ∨ (g = 0 ∧ y.out D = y.out C + 1))) := by
  obtain ⟨hf, d, l, hc, z⟩ := y.go_some q
  have hm := O.1
  have rt := r.tot O
  obtain ⟨r1, r2, r3, r4⟩ := id r
  have o3 := O.2.2.1
  rcases z with ⟨g0, h1, h2, rfl⟩ | ⟨g1, h1, h2, h3, rfl⟩
  · have p1 := flt_up (show f < 4 by omega) l hc
    have t1 : ttC C = ttC (upI C f l) + 1 := by
      have := p1.length_eq
      rw [flt_len, List.length_cons, flt_len] at this
      exact this
    have od : y.out (upI C f l) = y.out C + 1 := by
      unfold Sy.out at rt h1 r1 ⊢
      omega
    obtain ⟨x, hx1, hx2, p2⟩ := lab_step O h1
    have dm : d ∈ lab y (y.out C) := r2.mem_iff.mp (p1.mem_iff.mpr List.mem_cons_self)
    obtain ⟨⟨d1, d2⟩, -⟩ := lab_mem.mp dm
    obtain ⟨⟨x1, x2⟩, -⟩ := lab_mem.mp hx2
    have ed : d = x := O.2.2.2.2.2.2 d x d1 d2 x1 x2 (h2.trans hx1.symm) (by omega)
    rw [ed] at p1
    refine ⟨⟨by omega, ?_, fun s hs => ?_, fun s hs => ?_⟩, rfl, Or.inr ⟨g0, od⟩⟩
    · rw [od]
      exact List.Perm.cons_inv (p1.symm.trans (r2.trans p2))
    · by_cases e : s = f
      · rw [e, upI_s]
        have := r3 f hf
        rw [hc, List.length_cons] at this
        omega
      · rw [upI_n e]
        exact r3 s hs
    · rw [upI_n (by omega)]
      exact r4 s hs
  · have p1 := flt_mv (C := C) (f := f) (g := g - 1) (d := d) (l := l) (by omega) (by omega) h2 hc
    have t1 : ttC (upI (upI C f l) (g - 1) (d :: C (g - 1))) = ttC C := by
      have := p1.length_eq
      rw [flt_len, flt_len] at this
      exact this
    have od : y.out (upI (upI C f l) (g - 1) (d :: C (g - 1))) = y.out C := by
      unfold Sy.out
      rw [t1]
    refine ⟨⟨by omega, ?_, fun s hs => ?_, fun s hs => ?_⟩, rfl, Or.inl ⟨g1, od⟩⟩
    · rw [od]
      exact p1.trans r2
    · by_cases e : s = g - 1
      · rw [e, upI_s, List.length_cons]
        omega
      · rw [upI_n e]
        by_cases e2 : s = f
        · rw [e2, upI_s]
          have := r3 f hf
          rw [hc, List.length_cons] at this
          omega
        · rw [upI_n e2]
          exact r3 s hs
    · rw [upI_n (by omega), upI_n (by omega)]
      exact r4 s hs
theorem RI.rn (O : OkS y) (r : RI y C0) (a : Rn y.step C0 e C) : RI y C := a (fun _ C => RI y C) r (fun _ _ _ _ ih _ a2 => (RI.go O ih a2).1)
end LSC
