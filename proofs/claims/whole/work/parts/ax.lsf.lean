/-! least: a box is dug out at once -/
section LSF
variable {y : Sy} {A B C D E C0 : Cg} {f g k e o d b s n : Nat} {l pre : List Nat}
theorem RI.nd (r : RI y C) : (flt C).Nodup := r.2.1.nodup_iff.mpr (List.Nodup.sublist List.filter_sublist List.nodup_range')
/-- a box stands once -/
theorem RI.one {t x : Nat} (r : RI y C) (hs : s < 4) (ht : t < 4) (h1 : x ∈ C s) (h2 : x ∈ C t) : s = t := by
  have nd := r.nd
  unfold flt at nd
  rw [List.nodup_append, List.nodup_append, List.nodup_append] at nd
  obtain ⟨⟨⟨-, -, d01⟩, -, d2⟩, -, d3⟩ := nd
  have z01 : ∀ x, x ∈ C 0 → x ∈ C 1 → False := fun x a b => d01 x a x b rfl
  have z02 : ∀ x, x ∈ C 0 → x ∈ C 2 → False := fun x a b => d2 x (List.mem_append_left _ a) x b rfl
  have z12 : ∀ x, x ∈ C 1 → x ∈ C 2 → False := fun x a b => d2 x (List.mem_append_right _ a) x b rfl
  have z03 : ∀ x, x ∈ C 0 → x ∈ C 3 → False := fun x a b => d3 x (List.mem_append_left _ (List.mem_append_left _ a)) x b rfl
  have z13 : ∀ x, x ∈ C 1 → x ∈ C 3 → False := fun x a b => d3 x (List.mem_append_left _ (List.mem_append_right _ a)) x b rfl
  have z23 : ∀ x, x ∈ C 2 → x ∈ C 3 → False := fun x a b => d3 x (List.mem_append_right _ a) x b rfl
  rcases c4 hs with e | e | e | e <;> subst e <;> rcases c4 ht with e | e | e | e <;> subst e <;> first | rfl | exact (z01 x h1 h2).elim | exact (z02 x h1 h2).elim | exact (z03 x h1 h2).elim | exact (z12 x h1 h2).elim | exact (z13 x h1 h2).elim | exact (z23 x h1 h2).elim | exact (z01 x h2 h1).elim | exact (z02 x h2 h1).elim | exact (z03 x h2 h1).elim | exact (z12 x h2 h1).elim | exact (z13 x h2 h1).elim | exact (z23 x h2 h1).elim
theorem RI.nds (r : RI y C) (hs : s < 4) : (C s).Nodup := by
  have nd := r.nd
  unfold flt at nd
  rw [List.nodup_append, List.nodup_append, List.nodup_append] at nd
  obtain ⟨⟨⟨n0, n1, -⟩, n2, -⟩, n3, -⟩ := nd
  rcases c4 hs with e | e | e | e <;> subst e
  · exact n0
  · exact n1
  · exact n2
  · exact n3
theorem mem_of_flt {x : Nat} (h : x ∈ flt C) : ∃ s, s < 4 ∧ x ∈ C s := by
  unfold flt at h
  rw [List.mem_append, List.mem_append, List.mem_append] at h
  rcases h with ((h | h) | h) | h
  · exact ⟨0, by omega, h⟩
  · exact ⟨1, by omega, h⟩
  · exact ⟨2, by omega, h⟩
  · exact ⟨3, by omega, h⟩
/-- the room of the others -/
def cap (y : Sy) (s : Nat) : Nat := s4 (fun t => if t < y.m ∧ t ≠ s then y.H t else 0)
theorem ttC_s4 : ttC C = s4 (fun t => (C t).length) := rfl
theorem cap_le (r : RI y C) (hs : s < 4) : ttC C ≤ (C s).length + cap y s := by
  have z : ∀ t, t < 4 → (if t = s then 0 else (C t).length) ≤ (if t < y.m ∧ t ≠ s then y.H t else 0) := fun t ht => by
    by_cases q : t = s
    · rw [if_pos q]; exact Nat.zero_le _
    · rw [if_neg q]
      by_cases c : t < y.m
      · rw [if_pos ⟨c, q⟩]
        exact r.2.2.1 t c
      · rw [r.2.2.2 t (by omega)]
        exact Nat.zero_le _
  have e1 := s4_up (F := fun t => (C t).length) (G := fun t => if t = s then 0 else (C t).length) (f := s) hs (fun t ht => if_neg ht)
  have z0 := z 0 (by omega)
  have z1 := z 1 (by omega)
  have z2 := z 2 (by omega)
  have z3 := z 3 (by omega)
  rw [ttC_s4]
  unfold cap
  unfold s4 at e1 ⊢
  simp only [if_true] at e1
  dsimp only
  omega
/-- with room left among the others, one of them has it -/
theorem cap_ex (r : RI y C) (hs : s < 4) (h : ttC C < (C s).length + cap y s) : ∃ t, t < y.m ∧ t ≠ s ∧ (C t).length < y.H t := by
  have hm : ∀ t, t < 4 → (∃ t, t < y.m ∧ t ≠ s ∧ (C t).length < y.H t) ∨ (if t < y.m ∧ t ≠ s then y.H t else 0) ≤ (if t = s then 0 else (C t).length) := fun t ht => by
    by_cases q : t = s
    · exact Or.inr (by rw [if_neg (fun w => w.2 q)]; exact Nat.zero_le _)
    · rw [if_neg q]
      by_cases c : t < y.m
      · rw [if_pos ⟨c, q⟩]
        by_cases w : (C t).length < y.H t
        · exact Or.inl ⟨t, c, q, w⟩
        · exact Or.inr (by omega)
      · exact Or.inr (by rw [if_neg (fun w => c w.1)]; exact Nat.zero_le _)
  have e1 := s4_up (F := fun t => (C t).length) (G := fun t => if t = s then 0 else (C t).length) (f := s) hs (fun t ht => if_neg ht)
  rcases hm 0 (by omega) with z | z0
  · exact z
  rcases hm 1 (by omega) with z | z1
  · exact z
  rcases hm 2 (by omega) with z | z2
  · exact z
  rcases hm 3 (by omega) with z | z3
  · exact z
  rw [ttC_s4] at h
  unfold cap at h
  unfold s4 at e1 h
  simp only [if_true] at e1
  dsimp only at h
  omega
/-- what is above a box goes to the others -/
theorem digs (O : OkS y) (hs : s < y.m) : ∀ (up : List Nat) (A : Cg), RI y A → A s = up ++ b :: pre → ttC A ≤ pre.length + 1 + cap y s → ∃ B, LR y A B ∧ Pth y A up.length B ∧ B s = b :: pre
  | [], A, _, h, _ => ⟨A, LR.refl, Pth.refl, h⟩
  | d :: up, A, r, h, c => by
    have hm := O.1
    have ls : (A s).length = up.length + 1 + (pre.length + 1) := by
      rw [h, List.cons_append, List.length_cons, List.length_append, List.length_cons]
      omega
    obtain ⟨t, ht, ne, lt⟩ := cap_ex r (show s < 4 by omega) (by omega)
    have w := Sy.go_to (y := y) (g := t) hs (show A s = d :: (up ++ b :: pre) by rw [h]; rfl) ht ne lt
    obtain ⟨r2, -, o2⟩ := RI.go O r w
    have st : upI (upI A s (up ++ b :: pre)) t (d :: A t) s = up ++ b :: pre := by rw [upI_n (fun z => ne z.symm), upI_s]
    have tt : ttC (upI (upI A s (up ++ b :: pre)) t (d :: A t)) = ttC A := by
      have p := flt_mv (C := A) (f := s) (g := t) (d := d) (l := up ++ b :: pre) (by omega) (by omega) ne (by rw [h]; rfl)
      rw [← flt_len, ← flt_len]
      exact p.length_eq
    obtain ⟨B, l1, p1, e1⟩ := digs O hs up _ r2 st (by omega)
    refine ⟨B, (LR.snoc LR.refl (by omega) w).trans l1, ?_, e1⟩
    have p0 : Pth y A (0 + 1) _ := Pth.refl.snoc O w
    have := p0.trans p1
    rw [show 0 + 1 + up.length = (d :: up).length by rw [List.length_cons]; omega] at this
    exact this
/-- there is room to dig it out, where there is a way at all -/
theorem room (O : OkS y) (r0 : RI y C) (hs : s < y.m) (ho : y.out C < y.W) (hb : y.rk b = y.out C) (hb2 : 1 ≤ b ∧ b ≤ y.n) (hc : ∃ up, C s = up ++ b :: pre) (w : Rn y.step C e D) (hd : y.out D = y.W) : ttC C ≤ pre.length + 1 + cap y s := by
  have hm := O.1
  have cl : ∀ A, RI y A → y.out A = y.out C → A s = b :: pre → ttC C ≤ pre.length + 1 + cap y s := fun A ra oa ea => by
    have t1 := ra.tot O
    have t2 := r0.tot O
    have t3 := cap_le ra (show s < 4 by omega)
    rw [ea, List.length_cons] at t3
    rw [oa] at t1
    omega
  have z : (y.out D = y.out C ∧ ∃ up, D s = up ++ b :: pre) ∨ ttC C ≤ pre.length + 1 + cap y s := by
    refine Rn.ind (P := fun e D => (y.out D = y.out C ∧ ∃ up, D s = up ++ b :: pre) ∨ ttC C ≤ pre.length + 1 + cap y s) (Or.inl ⟨rfl, hc⟩) (fun e m A B a ih hmm q => ?_) w
    rcases ih with ⟨oa, up, ea⟩ | ih
    rotate_left
    · exact Or.inr ih
    have ra := r0.rn O a
    obtain ⟨hf, d, l, hcf, z⟩ := y.go_some q
    have bin : b ∈ A s := by rw [ea]; exact List.mem_append_right _ List.mem_cons_self
    rcases z with ⟨g0, h1, h2, rfl⟩ | ⟨g1, h1, h2, h3, rfl⟩
    · have dm : d ∈ flt A := mem_flt (show m / 8 < 4 by omega) (by rw [hcf]; exact List.mem_cons_self)
      obtain ⟨⟨d1, d2⟩, -⟩ := lab_mem.mp (ra.2.1.mem_iff.mp dm)
      have ed : d = b := O.2.2.2.2.2.2 d b d1 d2 hb2.1 hb2.2 (by rw [h2, hb, oa]) (by omega)
      have ef : m / 8 = s := ra.one (show m / 8 < 4 by omega) (show s < 4 by omega) (by rw [hcf, ed]; exact List.mem_cons_self) bin
      rw [ef, ea, ed] at hcf
      cases up with
      | nil => exact Or.inr (cl A ra oa ea)
      | cons u up =>
        have z := ra.nds (show s < 4 by omega)
        rw [ea, List.cons_append] at z
        have hu : u = b := (List.cons.inj hcf).1
        rw [hu] at z
        exact absurd (List.mem_append_right _ List.mem_cons_self) (List.nodup_cons.mp z).1
    · have oB : y.out (upI (upI A (m / 8) l) (m % 8 - 1) (d :: A (m % 8 - 1))) = y.out C := by
        obtain ⟨-, -, w2⟩ := RI.go O ra q
        rcases w2 with ⟨-, w2⟩ | ⟨w2, -⟩
        · exact w2.trans oa
        · omega
      by_cases e1 : m / 8 = s
      · cases up with
        | nil => exact Or.inr (cl A ra oa ea)
        | cons u up =>
          refine Or.inl ⟨oB, up, ?_⟩
          rw [e1, ea, List.cons_append] at hcf
          rw [upI_n (by omega), e1, upI_s]
          exact (List.cons.inj hcf).2.symm
      · by_cases e2 : s = m % 8 - 1
        · refine Or.inl ⟨oB, d :: up, ?_⟩
          rw [← e2, upI_s, ea]
          rfl
        · refine Or.inl ⟨oB, up, ?_⟩
          rw [upI_n e2, upI_n (fun w => e1 w.symm)]
          exact ea
  rcases z with ⟨z, -⟩ | z
  · omega
  · exact z
/-- the first that goes out, on any way -/
theorem first_out (O : OkS y) (r0 : RI y C) (ho : y.out C < y.W) (w : Rn y.step C e D) (hd : y.out D = y.W) : ∃ A B f, LR y C A ∧ y.go A f 0 = some B ∧ ∃ e2, Rn y.step B e2 D := by
  have z : LR y C D ∨ ∃ A B f, LR y C A ∧ y.go A f 0 = some B ∧ ∃ e2, Rn y.step B e2 D := by
    refine Rn.ind (P := fun e D => LR y C D ∨ ∃ A B f, LR y C A ∧ y.go A f 0 = some B ∧ ∃ e2, Rn y.step B e2 D) (Or.inl LR.refl) (fun e m A B a ih hmm q => ?_) w
    rcases ih with ih | ⟨A1, B1, f1, i1, i2, e2, i3⟩
    · by_cases g0 : m % 8 = 0
      · refine Or.inr ⟨A, B, m / 8, ih, ?_, 0, Rn.nil⟩
        unfold Sy.step at q
        rw [g0] at q
        exact q
      · exact Or.inl (ih.snoc (by omega) q)
    · exact Or.inr ⟨A1, B1, f1, i1, i2, _, Rn.cons i3 hmm q⟩
  rcases z with z | z
  · have := (z.ri O r0).2
    omega
  · exact z
theorem er_out (O : OkS y) (r : RI y A) (hf : f < 4) (hc : A f = b :: l) : upI A f l = er b A := by
  have hm := O.1
  funext s
  unfold er
  by_cases q : s = f
  · rw [q, upI_s, hc, List.filter_cons, if_neg (by simp)]
    have nd := r.nds hf
    rw [hc] at nd
    exact (List.filter_eq_self.mpr (fun x hx => by
      have : x ≠ b := fun w => (List.nodup_cons.mp nd).1 (by rw [← w]; exact hx)
      simpa using this)).symm
  · rw [upI_n q]
    refine (List.filter_eq_self.mpr (fun x hx => ?_)).symm
    have : x ≠ b := fun w => by
      by_cases hs : s < 4
      · exact q (r.one (x := b) hs hf (by rw [← w]; exact hx) (by rw [hc]; exact List.mem_cons_self))
      · rw [r.2.2.2 s (by omega)] at hx
        cases hx
    simpa using this
/-- a short way, where there is one -/
theorem short (O : OkS y) : ∀ (j : Nat) (C : Cg), RI y C → y.W - y.out C ≤ j → (∃ e D, Rn y.step C e D ∧ y.out D = y.W) → ∃ n D, Pth y C n D ∧ y.out D = y.W ∧ n ≤ 6 * j
  | 0, C, r, h, _ => ⟨0, C, Pth.refl, by have := r.1; omega, by omega⟩
  | j + 1, C, r, h, hw => by
    have hm := O.1
    by_cases ho : y.out C = y.W
    · exact ⟨0, C, Pth.refl, ho, by omega⟩
    have ho2 : y.out C < y.W := by have := r.1; omega
    obtain ⟨e, D, w, hd⟩ := hw
    obtain ⟨b, hb, hbm, -⟩ := lab_step O ho2
    obtain ⟨⟨b1, b2⟩, -⟩ := lab_mem.mp hbm
    obtain ⟨s, hs4, hbs⟩ := mem_of_flt (r.2.1.mem_iff.mpr hbm)
    have hs : s < y.m := by
      by_cases q : s < y.m
      · exact q
      · rw [r.2.2.2 s (by omega)] at hbs
        cases hbs
    obtain ⟨up, pre, hc⟩ := List.append_of_mem hbs
    have hcap := room (pre := pre) O r hs ho2 hb ⟨b1, b2⟩ ⟨up, hc⟩ w hd
    obtain ⟨B, l1, p1, eB⟩ := digs O hs up C r hc hcap
    obtain ⟨rB, oB⟩ := l1.ri O r
    have gB := Sy.go_out (y := y) hs eB (by omega) (by rw [hb, oB])
    obtain ⟨rB', -, oB'⟩ := RI.go O rB gB
    have oB2 : y.out (upI B s pre) = y.out C + 1 := by
      rcases oB' with ⟨z, -⟩ | ⟨-, z⟩
      · omega
      · omega
    obtain ⟨A1, B1, f1, la, ga, e2, w2⟩ := first_out O r ho2 w hd
    obtain ⟨rA, oA⟩ := la.ri O r
    obtain ⟨hf1, d, l, hc1, z⟩ := y.go_some ga
    rcases z with ⟨-, z1, z2, z3⟩ | ⟨z, -⟩
    rotate_left
    · omega
    have dm : d ∈ flt A1 := mem_flt (show f1 < 4 by omega) (by rw [hc1]; exact List.mem_cons_self)
    obtain ⟨⟨d1, d2⟩, -⟩ := lab_mem.mp (rA.2.1.mem_iff.mp dm)
    have ed : d = b := O.2.2.2.2.2.2 d b d1 d2 b1 b2 (by rw [z2, hb, oA]) (by omega)
    rw [ed] at hc1
    have k1 := er_out O rA (show f1 < 4 by omega) hc1
    have k2 := er_out O rB hs4 eB
    have lB : LR y (upI B s pre) B1 := by
      rw [k2, z3, k1]
      exact LR.wo ((l1.symm O r).trans la)
    obtain ⟨n1, q1⟩ := lB.pth O
    obtain ⟨e3, q2, -⟩ := q1.trans ⟨e2, w2, rfl⟩
    obtain ⟨n2, D2, p2, hd2, hn2⟩ := short O j (upI B s pre) rB' (by omega) ⟨e3, D, q2, hd⟩
    have ul : up.length ≤ 4 := by
      have t1 := r.2.2.1 s hs
      have t2 := O.2.2.2.2.1 s hs
      rw [hc, List.length_append, List.length_cons] at t1
      omega
    exact ⟨up.length + 1 + n2, D2, (p1.snoc O gB).trans p2, hd2, by omega⟩
end LSF
