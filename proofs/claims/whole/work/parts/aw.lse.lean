/-! least: where there is a way there is a short one -/
section LSE
variable {y : Sy} {A B C D E C0 : Cg} {f g k e o d b s n : Nat} {l pre : List Nat}
def Pth (y : Sy) (C : Cg) (n : Nat) (D : Cg) : Prop := ∃ e, Rn y.step C e D ∧ ln e = n
theorem Pth.refl : Pth y C 0 C := ⟨0, Rn.nil, rfl⟩
theorem Pth.snoc (O : OkS y) (p : Pth y C n D) (q : y.go D f g = some E) : Pth y C (n + 1) E := by
  obtain ⟨e, r, h⟩ := p
  obtain ⟨hf, d, l, hc, z⟩ := y.go_some q
  have hm := O.1
  have hg : g ≤ 4 := by
    rcases z with ⟨z, -⟩ | ⟨-, z, -⟩ <;> omega
  have w : y.step D (8 * f + g) = some E := by
    unfold Sy.step
    rw [show (8 * f + g) / 8 = f by omega, show (8 * f + g) % 8 = g by omega]
    exact q
  exact ⟨64 * e + (8 * f + g) + 1, Rn.cons r (by omega) w, by rw [ln_s (by omega), h]⟩
theorem Pth.trans {n2 : Nat} (p : Pth y C n D) (p2 : Pth y D n2 E) : Pth y C (n + n2) E := by
  obtain ⟨e2, r2, h2⟩ := p2
  have z : Pth y C (n + ln e2) E := Rn.ind (P := fun e2 E => Pth y C (n + ln e2) E) (by rw [ln_0]; exact p) (fun e m s t _ ih hm w => by
    obtain ⟨e3, r3, h3⟩ := ih
    exact ⟨64 * e3 + m + 1, Rn.cons r3 hm w, by rw [ln_s hm, ln_s hm, h3]; omega⟩) r2
  rw [h2] at z
  exact z
/-- lifts alone -/
def LR (y : Sy) (C D : Cg) : Prop := ∀ P : Cg → Prop, P C → (∀ A B f g, P A → 1 ≤ g → y.go A f g = some B → P B) → P D
theorem LR.refl : LR y C C := fun _ a _ => a
theorem LR.snoc (r : LR y C D) (hg : 1 ≤ g) (q : y.go D f g = some E) : LR y C E := fun P a z => z D E f g (r P a z) hg q
theorem LR.trans (r : LR y C D) (r2 : LR y D E) : LR y C E := r2 (fun E => LR y C E) r (fun _ _ _ _ ih hg q => ih.snoc hg q)
theorem LR.pth (O : OkS y) (r : LR y C D) : ∃ n, Pth y C n D := r (fun D => ∃ n, Pth y C n D) ⟨0, Pth.refl⟩ (fun _ _ _ _ ih _ q => by
  obtain ⟨n, p⟩ := ih
  exact ⟨n + 1, p.snoc O q⟩)
theorem LR.ri (O : OkS y) (r0 : RI y C) (r : LR y C D) : RI y D ∧ y.out D = y.out C := r (fun D => RI y D ∧ y.out D = y.out C) ⟨r0, rfl⟩ (fun A B f g ih hg q => by
  obtain ⟨z1, -, z2⟩ := RI.go O ih.1 q
  refine ⟨z1, ?_⟩
  rcases z2 with ⟨-, w⟩ | ⟨w, -⟩
  · exact w.trans ih.2
  · omega)
theorem go_back (r : RI y A) (hg : 1 ≤ g) (q : y.go A f g = some B) : y.go B (g - 1) (f + 1) = some A := by
  obtain ⟨hf, d, l, hc, z⟩ := y.go_some q
  rcases z with ⟨z, -⟩ | ⟨-, h1, h2, h3, rfl⟩
  · omega
  have hl := r.2.2.1 f hf
  rw [hc, List.length_cons] at hl
  have e1 : upI (upI A f l) (g - 1) (d :: A (g - 1)) (g - 1) = d :: A (g - 1) := upI_s _ _ _
  have e2 : upI (upI A f l) (g - 1) (d :: A (g - 1)) f = l := by rw [upI_n (fun w => h2 w.symm), upI_s]
  rw [Sy.go_to h1 e1 hf (fun w => h2 w.symm) (by rw [e2]; omega), e2]
  congr 1
  funext s
  unfold upI
  by_cases q1 : s = f
  · rw [if_pos q1, q1, hc]
  · rw [if_neg q1]
    by_cases q2 : s = g - 1
    · rw [if_pos q2, q2]
    · rw [if_neg q2, if_neg q2, if_neg q1]
theorem LR.symm (O : OkS y) (r0 : RI y C) (r : LR y C D) : LR y D C := (r (fun D => LR y C D ∧ LR y D C) ⟨LR.refl, LR.refl⟩ (fun A B f g ih hg q => by
  have ra := (ih.1.ri O r0).1
  have w : LR y B A := LR.snoc LR.refl (by omega) (go_back ra hg q)
  exact ⟨ih.1.snoc hg q, w.trans ih.2⟩)).2
/-! a bay without a box -/
def er (b : Nat) (C : Cg) : Cg := fun s => (C s).filter (fun x => decide (x ≠ b))
theorem er_up (l : List Nat) : er b (upI C f l) = upI (er b C) f (l.filter (fun x => decide (x ≠ b))) := by
  funext s
  unfold er upI
  by_cases q : s = f
  · rw [if_pos q, if_pos q]
  · rw [if_neg q, if_neg q]
theorem upI_id (h : C f = l) : upI C f l = C := by
  funext s
  unfold upI
  by_cases q : s = f
  · rw [if_pos q, q, h]
  · rw [if_neg q]
theorem LR.wo (r : LR y C D) : LR y (er b C) (er b D) := r (fun D => LR y (er b C) (er b D)) LR.refl (fun A B f g ih hg q => by
  obtain ⟨hf, d, l, hc, z⟩ := y.go_some q
  rcases z with ⟨z, -⟩ | ⟨-, h1, h2, h3, rfl⟩
  · omega
  by_cases db : d = b
  · have z : er b (upI (upI A f l) (g - 1) (d :: A (g - 1))) = er b A := by
      have f1 : (d :: A (g - 1)).filter (fun x => decide (x ≠ b)) = (A (g - 1)).filter (fun x => decide (x ≠ b)) := by
        rw [List.filter_cons, if_neg (by rw [db]; simp)]
      have f2 : l.filter (fun x => decide (x ≠ b)) = er b A f := by
        unfold er
        rw [hc, List.filter_cons, if_neg (by rw [db]; simp)]
      rw [er_up, er_up, f1, f2, upI_id rfl]
      exact upI_id rfl
    rw [z]
    exact ih
  · have fd : ∀ x : List Nat, (d :: x).filter (fun x => decide (x ≠ b)) = d :: x.filter (fun x => decide (x ≠ b)) := fun x => by
      rw [List.filter_cons, if_pos (by simpa using db)]
    have c1 : er b A f = d :: l.filter (fun x => decide (x ≠ b)) := by
      unfold er
      rw [hc, fd]
    have c2 : (er b A (g - 1)).length < y.H (g - 1) := Nat.lt_of_le_of_lt (List.length_filter_le _ _) h3
    have w := Sy.go_to (y := y) hf c1 h1 h2 c2
    rw [show g - 1 + 1 = g by omega] at w
    refine ih.snoc hg (w.trans ?_)
    rw [er_up, er_up, fd]
    rfl)
end LSE
