/-! load: a survey in the ship's own rows -/
section LD
variable {h X G : y_H} {t e N C S A s u v w n c k : Nat} {l : List Int32}
abbrev SV (s a k : Nat) : Prop := a = 64 * s + 27 ∨ a = 64 * s + 26 ∨ a = 64 * s + 22 ∧ k = 4
def pat (s : Nat) (h X : y_H) : y_H := (y_K h, y_N h, fun a k => if SV s a k then y_I X a k else y_I h a k, fun a k => if SV s a k then y_B X a k else y_B h a k, fun a k => if SV s a k then y_L X a k else y_L h a k, fun a k => if SV s a k then y_P X a k else y_P h a k)
theorem pat_ag : ag (fun a k => a = 64 * s + 27 ∨ a = 64 * s + 26 ∨ a = 64 * s + 22 ∧ k = 4) (fun _ => False) h (pat s h X) := ⟨fun a _ => ⟨rfl, rfl⟩, fun a k q => ⟨if_neg q, if_neg q, if_neg q, if_neg q⟩⟩
theorem pat_vI {a k : Nat} (q : SV s a k) : y_I (pat s h X) a k = y_I X a k := if_pos q
theorem pat_vB {a k : Nat} (q : SV s a k) : y_B (pat s h X) a k = y_B X a k := if_pos q
theorem yH_ext {a b : y_H} (h1 : y_K a = y_K b) (h2 : y_N a = y_N b) (h3 : y_I a = y_I b) (h4 : y_B a = y_B b) (h5 : y_L a = y_L b) (h6 : y_P a = y_P b) : a = b := by
  obtain ⟨a1, a2, a3, a4, a5, a6⟩ := a
  obtain ⟨b1, b2, b3, b4, b5, b6⟩ := b
  simp only [y_K, y_N, y_I, y_B, y_L, y_P] at h1 h2 h3 h4 h5 h6
  subst h1 h2 h3 h4 h5 h6
  rfl
theorem pat_eq (g : ag (fun a k => a = 64 * s + 27 ∨ a = 64 * s + 26 ∨ a = 64 * s + 22 ∧ k = 4) (fun _ => False) h X) : pat s h X = X := by
  refine yH_ext (funext fun a => ?_) (funext fun a => ?_) (funext fun a => funext fun k => ?_) (funext fun a => funext fun k => ?_) (funext fun a => funext fun k => ?_) (funext fun a => funext fun k => ?_)
  · exact (g.1 a (fun q => q)).1.symm
  · exact (g.1 a (fun q => q)).2.symm
  all_goals
    by_cases q : SV s a k
    · exact if_pos q
    · refine (if_neg q).trans ?_
      obtain ⟨z1, z2, z3, z4⟩ := g.2 a k q
      first
        | exact z1.symm
        | exact z2.symm
        | exact z3.symm
        | exact z4.symm
theorem pat_sI {a k : Nat} {x : Int32} (q : ¬ SV s a k) : pat s (s_I h a k x) X = s_I (pat s h X) a k x := by
  refine yH_ext rfl rfl (funext fun b => funext fun j => ?_) rfl rfl rfl
  show (if SV s b j then y_I X b j else if b = a ∧ j = k then x else y_I h b j) = if b = a ∧ j = k then x else if SV s b j then y_I X b j else y_I h b j
  by_cases q1 : b = a ∧ j = k
  · rw [if_pos q1, if_pos q1, if_neg (by rw [q1.1, q1.2]; exact q)]
  · rw [if_neg q1, if_neg q1]
theorem pat_sB {a k : Nat} {x : Bool} (q : ¬ SV s a k) : pat s (s_B h a k x) X = s_B (pat s h X) a k x := by
  refine yH_ext rfl rfl rfl (funext fun b => funext fun j => ?_) rfl rfl
  show (if SV s b j then y_B X b j else if b = a ∧ j = k then x else y_B h b j) = if b = a ∧ j = k then x else if SV s b j then y_B X b j else y_B h b j
  by_cases q1 : b = a ∧ j = k
  · rw [if_pos q1, if_pos q1, if_neg (by rw [q1.1, q1.2]; exact q)]
  · rw [if_neg q1, if_neg q1]
theorem pat_cM : ∀ (l : List Int32) (h : y_H), pat s (cMks h l) X = cMks (pat s h X) l
  | [], _ => rfl
  | m :: l, h => by
    rw [cMks, cMks, pat_cM l]
    congr 1
    have e : y_I (pat s h X) 16 1 = y_I h 16 1 := (pat_ag (s := s) (h := h) (X := X)).I (by omega)
    unfold cMk
    rw [e]
    by_cases q : 100 ≤ y_I h 16 1
    · rw [if_pos q, if_pos q]
    · rw [if_neg q, if_neg q, pat_sI (by unfold SV; omega), pat_sI (by unfold SV; omega)]
theorem c_surveyX (R : RelP h t e N C S A) (cx : CX h X) (hs : s < S) : ∃ (u v w : Nat) (X1 : y_H), ((1 ≤ u ∧ u ≤ 6) ∧ (1 ≤ v ∧ v ≤ 3) ∧ (1 ≤ w ∧ w ≤ 3) ∧ y_I h 1954 s = nI u ∧ y_I h 2018 s = nI v ∧ y_I h 2082 s = nI w) ∧ f_X7_survey (64 * s + 22) X = some ((), X1) ∧ ag (fun a k => a = 64 * s + 27 ∨ a = 64 * s + 26 ∨ a = 64 * s + 22 ∧ k = 4) (fun _ => False) X X1 ∧ (∀ d, d < 4 → y_I X1 (64 * s + 27) d = tot h s u v d (u * v * w)) ∧ (∀ j, j < u * v * w → y_B X1 (64 * s + 26) j = decide (¬ y_I h 2210 (54 * s + j) < 0)) := by
  obtain ⟨W, rT, rM, rB, rC, rS, rV, rL, rJ, rP, rH, rD, rQ, rK⟩ := id R
  have hS := rS.1
  obtain ⟨⟨y0, y1, y2, y3, y4, y5, y6, y7, y8, y9, y10⟩, ⟨u, hu1, hu2, eu⟩, ⟨v, hv1, hv2, ev⟩, ⟨x, hw1, hw2, ew⟩, -⟩ := rS.2.2.2.1 s hs
  have q1 : y_I X 2210 = y_I h 2210 := funext fun k => cx.I (by omega)
  have q2 : ∀ n, kn X n = kn h n := fun n => by
    unfold kn
    rw [cx.B (by omega), cx.I (by omega), cx.I (by omega)]
  have hh : ∀ k, k < 54 → y_I X 2210 (54 * s + k) = -1 ∨ ∃ n, n < N ∧ y_I X 2210 (54 * s + k) = nI n := fun k hk => by
    rw [q1]
    rcases rP.2.2.1 s k hs hk with z | ⟨n, hn, z, -⟩
    · exact Or.inl z
    · exact Or.inr ⟨n, hn, z⟩
  have sh : sshape X s := by
    obtain ⟨o1, o2, o3, o4, o5, o6, o7, o8, o9, o10, o11, o12, o13, o14, o15, o16, o17, o18⟩ := y0
    exact ⟨(cx.P (by omega)).trans o1, (cx.K _).trans o2, (cx.I (by omega)).trans o3, (cx.P (by omega)).trans o4, (cx.P (by omega)).trans o5, (cx.P (by omega)).trans o6, (cx.P (by omega)).trans o7, (cx.P (by omega)).trans o8, (cx.K _).trans o9, (cx.Nn _).trans o10, (cx.K _).trans o11, (cx.Nn _).trans o12, (cx.K _).trans o13, (cx.Nn _).trans o14, (cx.K _).trans o15, (cx.Nn _).trans o16, (cx.K _).trans o17, (cx.Nn _).trans o18⟩
  have bX : ∀ n, n < N → bx X n := fun n hn => by
    have g := cx.2.2
    have rX : RB X N := (RB_ag g (by intro a k q; (simp only [FRB] at q ⊢) <;> omega) (by intro a q; (simp only [GRB, not_false_eq_true] at q ⊢) <;> omega) rB)
    exact (rX.2.2.2.1 n hn).1
  obtain ⟨r0, X1, es, g, l1, l2, l3⟩ := wp_ex (c_survey (h := X) (u := u) (v := v) (w := x) (N := N) sh ⟨hu1, hu2⟩ ⟨hv1, hv2⟩ ⟨hw1, hw2⟩ ((cx.I (by omega)).trans (y1.trans eu)) ((cx.I (by omega)).trans (y2.trans ev)) ((cx.I (by omega)).trans (y3.trans ew)) rB.1 bX (fun k hk => by rw [cx.P (by omega), q1]; exact y10 k hk) hh)
  refine ⟨u, v, x, X1, ⟨⟨hu1, hu2⟩, ⟨hv1, hv2⟩, ⟨hw1, hw2⟩, eu, ev, ew⟩, es, g, fun d hd => ?_, fun j hj => ?_⟩
  · rw [l1 d hd, tot_ag q1 q2]
  · rw [l3 j hj, q1]
/-- what fits says of box n and ship s, read in h -/
def fjH (h : y_H) (s u v w n : Nat) : Nat := fj u v w (y_I h 738 n) (y_I h 802 n) (y_I h 866 n) (fun j => decide (¬ y_I h 2210 (54 * s + j) < 0)) (fun d => tot h s u v d (u * v * w)) (fun d => y_I h 2274 (3 * s + d)) (kn h n)
theorem m_fitsM (R : RelP h t e N C S A) (mm : MM h G) (hs : s < S) (hn : n < N) (hu : 1 ≤ u ∧ u ≤ 6) (hv : 1 ≤ v ∧ v ≤ 3) (hw : 1 ≤ w ∧ w ≤ 3) (eu : y_I h 1954 s = nI u) (ev : y_I h 2018 s = nI v) (ew : y_I h 2082 s = nI w) (el : y_I h 674 n = nI s) : f_X12_fits 11 (nI n) G = some (nI (fjH h s u v w n), G) := by
  have hN := R.rB.1
  have hS := R.rS.1
  have q1 : y_I G 2210 = y_I h 2210 := funext fun k => mm.I (by omega)
  have q2 : ∀ n, kn G n = kn h n := fun n => by
    unfold kn
    rw [mm.B (by omega), mm.I (by omega), mm.I (by omega)]
  have q3 : y_I G 2274 = y_I h 2274 := funext fun k => mm.I (by omega)
  have hh : ∀ k, k < 54 → y_I G 2210 (54 * s + k) = -1 ∨ ∃ n, n < N ∧ y_I G 2210 (54 * s + k) = nI n := fun k hk => by
    rw [q1]
    rcases R.2.2.2.2.2.2.2.2.2.1.2.2.1 s k hs hk with z | ⟨n, hn, z, -⟩
    · exact Or.inl z
    · exact Or.inr ⟨n, hn, z⟩
  have z := m_fits (G := G) (s := s) (u := u) (v := v) (w := w) (N := N) (n := n) mm.1 (by omega) hu hv hw ((mm.I (by omega)).trans eu) ((mm.I (by omega)).trans ev) ((mm.I (by omega)).trans ew) hN hh (by omega) ((mm.I (by omega)).trans el)
  rw [z]
  have q4 : (fun d => tot G s u v d (u * v * w)) = (fun d => tot h s u v d (u * v * w)) := funext fun d => tot_ag q1 q2 _
  unfold fjH
  rw [q4, q1, q2, q3, mm.I (a := 738) (by omega), mm.I (a := 802) (by omega), mm.I (a := 866) (by omega)]
theorem fj_0 {lx ly lz : Int32} {tk : Nat → Bool} {T lim : Nat → Int32} {q : Int32} (z : fj u v w lx ly lz tk T lim q = 0) : inC u v w lx ly lz = true ∧ tk (cel9 u v lx ly lz) = false := by
  unfold fj at z
  by_cases a1 : inC u v w lx ly lz = false
  · rw [if_pos a1] at z
    exact absurd z (by decide)
  rw [if_neg a1] at z
  by_cases a2 : tk (cel9 u v lx ly lz) = true
  · rw [if_pos a2] at z
    exact absurd z (by decide)
  exact ⟨by simpa using a1, by simpa using a2⟩
theorem fj_le {lx ly lz : Int32} {tk : Nat → Bool} {T lim : Nat → Int32} {q : Int32} : fj u v w lx ly lz tk T lim q = 0 ∨ fj u v w lx ly lz tk T lim q = 12 ∨ fj u v w lx ly lz tk T lim q = 13 ∨ fj u v w lx ly lz tk T lim q = 62 := by
  unfold fj
  repeat' split
  all_goals simp
/-- the class, after its survey: what it says of box n -/
theorem c_meetsX (R : RelP h t e N C S A) (cx : CX h X) {X1 : y_H} (hs : s < S) (hn : n < N) (hu : 1 ≤ u ∧ u ≤ 6) (hv : 1 ≤ v ∧ v ≤ 3) (hw : 1 ≤ w ∧ w ≤ 3) (eu : y_I h 1954 s = nI u) (ev : y_I h 2018 s = nI v) (ew : y_I h 2082 s = nI w) (el : y_I h 674 n = nI s) (g : ag (fun a k => a = 64 * s + 27 ∨ a = 64 * s + 26 ∨ a = 64 * s + 22 ∧ k = 4) (fun _ => False) X X1) (l1 : ∀ d, d < 4 → y_I X1 (64 * s + 27) d = tot h s u v d (u * v * w)) (l2 : ∀ j, j < u * v * w → y_B X1 (64 * s + 26) j = decide (¬ y_I h 2210 (54 * s + j) < 0)) : f_X7_meetsAt (64 * s + 22) (64 * n + 20) (y_I X1 (64 * n + 20) 12) (y_I X1 (64 * n + 20) 13) (y_I X1 (64 * n + 20) 14) X1 = some (cA (fjH h s u v w n), X1) := by
  obtain ⟨W, rT, rM, rB, rC, rS, rV, rL, rJ, rP, rH, rD, rQ, rK⟩ := id R
  have hS := rS.1
  have hN := rB.1
  obtain ⟨⟨y0, y1, y2, y3, y4, y5, y6, y7, y8, y9, y10⟩, -⟩ := rS.2.2.2.1 s hs
  obtain ⟨⟨b1, b2, b3, b4, b5, b6, b7, b8, b9, b10, b11, b12, b13, b14, b15⟩, -⟩ := rB.2.2.2.1 n hn
  have fI : ∀ a k, a ≠ 16 ∧ a ≠ 40 ∧ a % 64 ≠ 21 → ¬ (a = 64 * s + 27 ∨ a = 64 * s + 26 ∨ a = 64 * s + 22 ∧ k = 4) → y_I X1 a k = y_I h a k := fun a k z1 z2 => (g.I z2).trans (cx.I z1)
  have fP : ∀ a k, a ≠ 16 ∧ a ≠ 40 ∧ a % 64 ≠ 21 → ¬ (a = 64 * s + 27 ∨ a = 64 * s + 26 ∨ a = 64 * s + 22 ∧ k = 4) → y_P X1 a k = y_P h a k := fun a k z1 z2 => (g.P z2).trans (cx.P z1)
  have fK : ∀ a, y_K X1 a = y_K h a := fun a => (g.K (fun q => q)).trans (cx.K a)
  have fN : ∀ a, y_N X1 a = y_N h a := fun a => (g.N (fun q => q)).trans (cx.Nn a)
  have sh : sshape X1 s := by
    obtain ⟨o1, o2, o3, o4, o5, o6, o7, o8, o9, o10, o11, o12, o13, o14, o15, o16, o17, o18⟩ := y0
    exact ⟨(fP _ _ (by omega) (by omega)).trans o1, (fK _).trans o2, (fI _ _ (by omega) (by omega)).trans o3, (fP _ _ (by omega) (by omega)).trans o4, (fP _ _ (by omega) (by omega)).trans o5, (fP _ _ (by omega) (by omega)).trans o6, (fP _ _ (by omega) (by omega)).trans o7, (fP _ _ (by omega) (by omega)).trans o8, (fK _).trans o9, (fN _).trans o10, (fK _).trans o11, (fN _).trans o12, (fK _).trans o13, (fN _).trans o14, (fK _).trans o15, (fN _).trans o16, (fK _).trans o17, (fN _).trans o18⟩
  have ek : f_X2_known (64 * n + 20) X1 = some (kn h n, X1) := by
    have g' := g
    have bX : bx X n := by
      have g := cx.2.2
      have rX : RB X N := (RB_ag g (by intro a k q; (simp only [FRB] at q ⊢) <;> omega) (by intro a q; (simp only [GRB, not_false_eq_true] at q ⊢) <;> omega) rB)
      exact (rX.2.2.2.1 n hn).1
    have z := c_kn (h0 := X) (n := n) g' bX
    have q2 : kn X n = kn h n := by
      unfold kn
      rw [cx.B (by omega), cx.I (by omega), cx.I (by omega)]
    rw [q2] at z
    exact z
  obtain ⟨o1, o2, o3⟩ := b15 (fun z => by rw [el, i_ne9 (by omega)] at z; exact z)
  rw [fI (64 * n + 20) 12 (by omega) (by omega), fI (64 * n + 20) 13 (by omega) (by omega), fI (64 * n + 20) 14 (by omega) (by omega), o1, o2, o3]
  exact c_meetsAt hu hv hw sh ((fI _ _ (by omega) (by omega)).trans (y1.trans eu)) ((fI _ _ (by omega) (by omega)).trans (y2.trans ev)) ((fI _ _ (by omega) (by omega)).trans (y3.trans ew)) l2 (fun d hd => l1 d (by omega)) (fun d hd => (fI _ _ (by omega) (by omega)).trans (y8 d hd).1) ((fK _).trans b2) ek _ _ _
end LD
