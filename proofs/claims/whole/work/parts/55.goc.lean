/-! go -/
section GC
variable {h h2 : y_H} {t e N C S A c p : Nat}
/-- the class's note at a heap that has h's cells -/
theorem WR_go {r g p c : Nat} {a : Nat → Nat} (W : WR h (nI r) a g C) (hc : c < C) (hrc : y_I h 1570 c = nI r) : WR h (nI r) (fun d => if d = c then p else a d) g C ↔ ∀ i, i < C → i ≠ c → y_I h 1570 i = nI r → (i < c → a i + g ≤ p) ∧ (c < i → p + g ≤ a i) := by
  constructor
  · intro z i hi hic hri
    refine ⟨fun q => ?_, fun q => ?_⟩
    · have := z i c q hc hri hrc
      simp only [hic, if_false, if_true] at this
      exact this
    · have := z c i q hi hrc hri
      simp only [hic, if_false, if_true] at this
      exact this
  · intro z x y hxy hy h3 h4
    by_cases ex : x = c
    · subst ex
      have := (z y hy (by omega) h4).2 hxy
      have ne : ¬ y = x := by omega
      simp only [ne, if_true, if_false]
      exact this
    · by_cases ey : y = c
      · subst ey
        have := (z x (by omega) ex h3).1 hxy
        simp only [ex, if_true, if_false]
        exact this
      · simp only [ex, ey, if_false]
        exact W x y hxy hy h3 h4
/-- whether a crane may go: class and model -/
theorem goRoom (R : RelP h t e N C S A) (hc : c < C) (hp : p ≤ 9) {l : List Int32} : ∃ b, f_X10_hasRoomOnRail 12 (y_I h 1570 c) (nI c) (nI p) (cMks (s_B (s_I h 16 1 0) (64 * c + 21) 7 false) l) = some (b, cMks (s_B (s_I h 16 1 0) (64 * c + 21) 7 false) l) ∧ (y_I h 1570 c = -9 → b = true)
    ∧ (∀ G, MM h G → y_I h 1570 c ≠ -9 → f_X12_isWell 11 (y_I h 1570 c) (s_I G 1634 c (nI p)) = some (b, s_I G 1634 c (nI p)))
    ∧ (b = true → ∀ x y g, x < y → y < C → y_I h 1570 x = nI g → y_I h 1570 y = nI g → g < 3 → y_I h 1890 g ≤ (if y = c then nI p else y_I h 1634 y) - (if x = c then nI p else y_I h 1634 x)) := by
  obtain ⟨w, rT, rM, rB, rC, rS, rV, rL, rJ, rP, rH, rD, rQ, rK⟩ := R
  have ha := plc rC
  have hC := rC.1
  have v7 : ∀ x y g, x < y → y < C → y_I h 1570 x = nI g → y_I h 1570 y = nI g → g < 3 → y_I h 1890 g ≤ y_I h 1634 y - y_I h 1634 x := (rH.1 0 (Nat.zero_le _)).2.2.2.2.2.2.1
  obtain ⟨⟨k, q⟩, -⟩ := (rC.2.2.2.1 c hc).2
  have q : (∃ r, r < 3 ∧ y_I h 1570 c = nI r) ∨ y_I h 1570 c = -9 := by
    rcases q with ⟨-, -, r, -, hr, z⟩ | ⟨-, -, -, z⟩
    · exact Or.inl ⟨r, by omega, z⟩
    · exact Or.inr z
  rcases q with ⟨r, hr, er⟩ | e9
  · obtain ⟨g, hg1, hg4, eg, eg2⟩ := gapN rM hr
    have wx : Sh (cMks (s_B (s_I h 16 1 0) (64 * c + 21) 7 false) l) := Sh_ck (Sh_sB (Sh_sI w))
    have gx : ag (fun a k => a = 16 ∧ k = 1 ∨ a = 40 ∨ a = 64 * c + 21 ∧ k = 7) (fun _ => False) h (cMks (s_B (s_I h 16 1 0) (64 * c + 21) 7 false) l) := by ((repeat' (first | exact ag.refl _ _ _ | apply ag.sI | apply ag.sB | apply ag.sP | apply ag.sL | (apply ag.cm) | (apply ag.mm))) <;> (first | omega | (dsimp only; omega) | (intro k; dsimp only; omega)))
    have rCx : RCl (cMks (s_B (s_I h 16 1 0) (64 * c + 21) 7 false) l) C := ⟨rC.1, (gx.I (by first | omega | (dsimp only; omega))).trans rC.2.1, fun d hd => by
      obtain ⟨x1, x2, x3, x4⟩ := rC.l.2.2 d hd
      exact ⟨(gx.P (by first | omega | (dsimp only; omega))).trans x1, (gx.K fun q => q).trans x2, (gx.I (by first | omega | (dsimp only; omega))).trans (x3.trans (gx.I (by first | omega | (dsimp only; omega))).symm), (gx.I (by first | omega | (dsimp only; omega))).trans (x4.trans (gx.I (by first | omega | (dsimp only; omega))).symm)⟩⟩
    have eR : ∀ d, y_I (cMks (s_B (s_I h 16 1 0) (64 * c + 21) 7 false) l) 1570 d = y_I h 1570 d := fun d => gx.I (by first | omega | (dsimp only; omega))
    obtain ⟨b, h9, q0, e9, q1⟩ := c_hasRoom (x := c) (p := p) (a := fun d => (y_I h 1634 d).toNatClampNeg) wx rCx hr ((gx.I (by first | omega | (dsimp only; omega))).trans eg2) hg4 (fun d hd => by
      rw [gx.I (a := 1634) (k := d) (by first | omega | (dsimp only; omega))]
      exact ha d hd) (by omega) hp
    rw [e9] at q0
    simp only [eR] at q1
    have W := WR_of rC rH hr eg hg4
    have q2 := WR_go (p := p) W hc er
    rw [er]
    refine ⟨b, q0, fun z => ?_, fun G m _ => ?_, fun z x y g' hxy hy z1 z2 hg' => ?_⟩
    · rw [i_ne9 (by omega)] at z
      exact z.elim
    · obtain ⟨b2, h3, q3, e3, q4⟩ := m_isWell (h := s_I G 1634 c (nI p)) (C := C) (r := r) (g := g) (a := fun d => if d = c then p else (y_I h 1634 d).toNatClampNeg) (Sh_sI m.1) hC (by rw [e_IIn (by omega), m.I (by omega)]; exact rC.2.2.1) hr (by rw [e_IIn (by omega), m.I (by omega)]; exact eg) hg4 (fun d hd => by
        by_cases ed : d = c
        · subst ed
          simp only [if_true, e_IIs]
          exact ⟨hp, trivial⟩
        · simp only [ed, if_false]
          rw [e_IIk ed, m.I (by omega)]
          exact ha d hd)
      rw [e3] at q3
      have eW : WR (s_I G 1634 c (nI p)) (nI r) (fun d => if d = c then p else (y_I h 1634 d).toNatClampNeg) g C ↔ WR h (nI r) (fun d => if d = c then p else (y_I h 1634 d).toNatClampNeg) g C := by
        have eG : ∀ d, y_I (s_I G 1634 c (nI p)) 1570 d = y_I h 1570 d := fun d => by rw [e_IIn (by omega), m.I (by omega)]
        simp only [WR, eG]
      have eb : b2 = b := Bool.eq_iff_iff.mpr ((q4.trans eW).trans (q2.trans q1.symm))
      rw [eb] at q3
      exact q3
    · by_cases eg' : g' = r
      · subst eg'
        have z3 := q2.mpr (q1.mp z) x y hxy hy z1 z2
        obtain ⟨u1, u2⟩ := ha x (by omega)
        obtain ⟨u3, u4⟩ := ha y hy
        have v1 : (if x = c then nI p else y_I h 1634 x) = nI (if x = c then p else (y_I h 1634 x).toNatClampNeg) := by
          split
          · rfl
          · exact u2
        have v2 : (if y = c then nI p else y_I h 1634 y) = nI (if y = c then p else (y_I h 1634 y).toNatClampNeg) := by
          split
          · rfl
          · exact u4
        have b1 : (if x = c then p else (y_I h 1634 x).toNatClampNeg) < 1000 := by split <;> omega
        have b2 : (if y = c then p else (y_I h 1634 y).toNatClampNeg) < 1000 := by split <;> omega
        rw [v1, v2, eg, i_gap ⟨b1, b2, by omega⟩]
        exact z3
      · have n1 : ¬ x = c := fun q => by
          rw [q, er, i_eq (by omega)] at z1
          exact eg' z1.symm
        have n2 : ¬ y = c := fun q => by
          rw [q, er, i_eq (by omega)] at z2
          exact eg' z2.symm
        rw [if_neg n1, if_neg n2]
        exact v7 x y g' hxy hy z1 z2 hg'
  · rw [e9]
    refine ⟨true, c_room9 _ _, fun _ => rfl, fun G m z => absurd rfl z, fun _ x y g' hxy hy z1 z2 hg' => ?_⟩
    have n1 : ¬ x = c := fun q => by
      rw [q, e9, eq_comm, i_ne9 (by omega)] at z1
      exact z1
    have n2 : ¬ y = c := fun q => by
      rw [q, e9, eq_comm, i_ne9 (by omega)] at z2
      exact z2
    rw [if_neg n1, if_neg n2]
    exact v7 x y g' hxy hy z1 z2 hg'
end GC
