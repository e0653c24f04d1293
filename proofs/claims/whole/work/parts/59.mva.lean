/-! MOVES of a box n between a crane c and a place: the places -/
section MA
variable {h h2 : y_H} {N C S n c : Nat}
theorem VB_hang {a x y z pl hd sd a' x' y' z' hd' : Nat → Int32} (hn : n < N) (hN : N ≤ 80) (hc : c < C) (hC : C ≤ 12) (ee : ∀ m, m ≠ n → a' m = a m ∧ x' m = x m ∧ y' m = y m ∧ z' m = z m) (en : a' n = 2 ∧ x' n = nI c ∧ y' n = 0 ∧ z' n = 0)
    (eh : ∀ d, d ≠ c → hd' d = hd d) (ehc : hd' c = nI n) (h0 : hd c = -1) (hna : a n ≠ 2) (top : a n = 1 → ∀ m t, m < N → a m = 1 → x m = x n → y m = y n → z n = nI t → z m ≠ nI (t + 1)) (V : VB h N C S a x y z pl hd sd) : VB h N C S a' x' y' z' pl hd' sd := by
  obtain ⟨v1, v2, v3, v4, v5, v6, v7, v8⟩ := V
  have n13 : ¬ ((2 : Int32) = 1 ∨ (2 : Int32) = 3) := by decide
  refine ⟨fun m hm => ?_, fun m d hm hd9 q1 q2 => ?_, fun d hd9 => ?_, fun m m' hm hm' q1 q2 q3 q4 q5 => ?_, fun m t hm q1 q2 ht => ?_, v6, v7, v8⟩
  · by_cases e : m = n
    · rw [e, en.1, en.2.1, en.2.2.1, en.2.2.2]
      exact Or.inr (Or.inr (Or.inl ⟨c, hc, rfl, rfl, rfl, rfl⟩))
    · obtain ⟨e1, e2, e3, e4⟩ := ee m e
      rw [e1, e2, e3, e4]
      exact v1 m hm
  · by_cases e : m = n
    · rw [e, en.2.1, i_eq (by omega)] at q2
      rw [← q2, e]
      exact ehc
    · obtain ⟨e1, e2, e3, e4⟩ := ee m e
      rw [e1] at q1
      rw [e2] at q2
      have z1 := v2 m d hm hd9 q1 q2
      by_cases ed : d = c
      · rw [ed, h0, eq_comm, i_ne1 (by omega)] at z1
        exact z1.elim
      · rw [eh d ed]
        exact z1
  · by_cases ed : d = c
    · rw [ed]
      exact Or.inr ⟨n, hn, ehc, en.1, en.2.1⟩
    · rw [eh d ed]
      rcases v3 d hd9 with z1 | ⟨m, hm, z1, z2, z3⟩
      · exact Or.inl z1
      · have e : m ≠ n := fun e => hna (by rw [← e]; exact z2)
        obtain ⟨e1, e2, e3, e4⟩ := ee m e
        exact Or.inr ⟨m, hm, z1, by rw [e1]; exact z2, by rw [e2]; exact z3⟩
  · have e : m ≠ n := fun e => by
      rw [e, en.1] at q2
      exact n13 q2
    have e' : m' ≠ n := fun e => by
      rw [q1, e, en.1] at q2
      exact n13 q2
    obtain ⟨e1, e2, e3, e4⟩ := ee m e
    obtain ⟨f1, f2, f3, f4⟩ := ee m' e'
    rw [e1, f1] at q1
    rw [e1] at q2
    rw [e2, f2] at q3
    rw [e3, f3] at q4
    rw [e4, f4] at q5
    exact v4 m m' hm hm' q1 q2 q3 q4 q5
  · have e : m ≠ n := fun e => by
      rw [e, en.1] at q1
      exact absurd q1 (by decide)
    obtain ⟨e1, e2, e3, e4⟩ := ee m e
    rw [e1] at q1
    rw [e4] at q2
    obtain ⟨m', hm', z1, z2, z3, z4⟩ := v5 m t hm q1 q2 ht
    have e' : m' ≠ n := fun e => by
      rw [e] at z1 z2 z3 z4
      exact top z1 m t hm q1 z2.symm z3.symm z4 q2
    obtain ⟨f1, f2, f3, f4⟩ := ee m' e'
    exact ⟨m', hm', by rw [f1]; exact z1, by rw [f2, e2]; exact z2, by rw [f3, e3]; exact z3, by rw [f4]; exact z4⟩
theorem VB_put {a x y z pl hd sd a' x' y' z' hd' : Nat → Int32} {a1 x1 y1 z1 : Int32} (hn : n < N) (hN : N ≤ 80) (hc : c < C) (hC : C ≤ 12) (ee : ∀ m, m ≠ n → a' m = a m ∧ x' m = x m ∧ y' m = y m ∧ z' m = z m) (en : a' n = a1 ∧ x' n = x1 ∧ y' n = y1 ∧ z' n = z1)
    (eh : ∀ d, d ≠ c → hd' d = hd d) (ehc : hd' c = -1) (h0 : a n = 2 ∧ x n = nI c) (ok : okp h C S a1 x1 y1 z1) (na : a1 ≠ 2) (uq : a1 = 1 ∨ a1 = 3 → ∀ m, m < N → m ≠ n → a m = a1 → x m = x1 → y m = y1 → z m ≠ z1) (bl : a1 = 1 → ∀ t, t < 5 → z1 = nI (t + 1) → ∃ m, m < N ∧ m ≠ n ∧ a m = 1 ∧ x m = x1 ∧ y m = y1 ∧ z m = nI t) (V : VB h N C S a x y z pl hd sd) : VB h N C S a' x' y' z' pl hd' sd := by
  obtain ⟨v1, v2, v3, v4, v5, v6, v7, v8⟩ := V
  refine ⟨fun m hm => ?_, fun m d hm hd9 q1 q2 => ?_, fun d hd9 => ?_, fun m m' hm hm' q1 q2 q3 q4 q5 => ?_, fun m t hm q1 q2 ht => ?_, v6, v7, v8⟩
  · by_cases e : m = n
    · rw [e, en.1, en.2.1, en.2.2.1, en.2.2.2]
      exact ok
    · obtain ⟨e1, e2, e3, e4⟩ := ee m e
      rw [e1, e2, e3, e4]
      exact v1 m hm
  · have e : m ≠ n := fun e => by
      rw [e, en.1] at q1
      exact na q1
    obtain ⟨e1, e2, e3, e4⟩ := ee m e
    rw [e1] at q1
    rw [e2] at q2
    have z1 := v2 m d hm hd9 q1 q2
    by_cases ed : d = c
    · rw [ed, v2 n c hn hc h0.1 h0.2, i_eq (by omega)] at z1
      exact absurd z1.symm e
    · rw [eh d ed]
      exact z1
  · by_cases ed : d = c
    · rw [ed]
      exact Or.inl ehc
    · rw [eh d ed]
      rcases v3 d hd9 with z1 | ⟨m, hm, z1, z2, z3⟩
      · exact Or.inl z1
      · have e : m ≠ n := fun e => by
          rw [e, h0.2, i_eq (by omega)] at z3
          exact ed z3.symm
        obtain ⟨e1, e2, e3, e4⟩ := ee m e
        exact Or.inr ⟨m, hm, z1, by rw [e1]; exact z2, by rw [e2]; exact z3⟩
  · by_cases e : m = n
    · by_cases e' : m' = n
      · rw [e, e']
      · obtain ⟨f1, f2, f3, f4⟩ := ee m' e'
        rw [e, en.1] at q1 q2
        rw [e, en.2.1] at q3
        rw [e, en.2.2.1] at q4
        rw [e, en.2.2.2] at q5
        rw [f1] at q1
        rw [f2] at q3
        rw [f3] at q4
        rw [f4] at q5
        exact absurd q5.symm (uq q2 m' hm' e' q1.symm q3.symm q4.symm)
    · obtain ⟨e1, e2, e3, e4⟩ := ee m e
      rw [e1] at q1 q2
      rw [e2] at q3
      rw [e3] at q4
      rw [e4] at q5
      by_cases e' : m' = n
      · rw [e', en.1] at q1
        rw [e', en.2.1] at q3
        rw [e', en.2.2.1] at q4
        rw [e', en.2.2.2] at q5
        rw [q1] at q2
        exact absurd q5 (uq q2 m hm e q1 q3 q4)
      · obtain ⟨f1, f2, f3, f4⟩ := ee m' e'
        rw [f1] at q1
        rw [f2] at q3
        rw [f3] at q4
        rw [f4] at q5
        exact v4 m m' hm hm' q1 q2 q3 q4 q5
  · by_cases e : m = n
    · rw [e, en.1] at q1
      rw [e, en.2.2.2] at q2
      obtain ⟨m', hm', e', z1, z2, z3, z4⟩ := bl q1 t ht q2
      obtain ⟨f1, f2, f3, f4⟩ := ee m' e'
      exact ⟨m', hm', by rw [f1]; exact z1, by rw [f2, e, en.2.1]; exact z2, by rw [f3, e, en.2.2.1]; exact z3, by rw [f4]; exact z4⟩
    · obtain ⟨e1, e2, e3, e4⟩ := ee m e
      rw [e1] at q1
      rw [e4] at q2
      obtain ⟨m', hm', z1, z2, z3, z4⟩ := v5 m t hm q1 q2 ht
      have e' : m' ≠ n := fun e => by
        rw [e, h0.1] at z1
        exact absurd z1 (by decide)
      obtain ⟨f1, f2, f3, f4⟩ := ee m' e'
      exact ⟨m', hm', by rw [f1]; exact z1, by rw [f2, e2]; exact z2, by rw [f3, e3]; exact z3, by rw [f4]; exact z4⟩
/-! the rows of the stacks and holds -/
theorem RP_no (e1 : y_B h2 994 = y_B h 994) (e2 : y_I h2 1122 = y_I h 1122) (e3 : y_I h2 1314 = y_I h 1314) (e4 : y_I h2 1378 = y_I h 1378) (e5 : y_I h2 2210 = y_I h 2210) (ee : ∀ m, m ≠ n → y_I h2 418 m = y_I h 418 m ∧ y_I h2 482 m = y_I h 482 m ∧ y_I h2 546 m = y_I h 546 m ∧ y_I h2 610 m = y_I h 610 m) (q : y_I h 418 n ≠ 1 ∧ y_I h 418 n ≠ 3 ∧ y_I h2 418 n ≠ 1 ∧ y_I h2 418 n ≠ 3) (rP : RP h N C S) : RP h2 N C S := by
  obtain ⟨p1, p2, p3, p4⟩ := rP
  unfold RP
  rw [e1, e2, e3, e4, e5]
  refine ⟨fun b m s f t g1 g2 g3 g4 g5 g6 g7 g8 => ?_, fun m b s t hm z1 z2 z3 z4 => ?_, fun s k g1 g2 => ?_, fun m s k hm z1 z2 z3 => ?_⟩
  · obtain ⟨m', hm, z1, z2, z3⟩ := p1 b m s f t g1 g2 g3 g4 g5 g6 g7 g8
    have e : m' ≠ n := fun e => q.1 (by rw [← e]; exact z2)
    obtain ⟨b1, b2, b3, b4⟩ := ee m' e
    exact ⟨m', hm, z1, by rw [b1]; exact z2, by rw [b2, b3, b4]; exact z3⟩
  · have e : m ≠ n := fun e => q.2.2.1 (by rw [← e]; exact z1)
    obtain ⟨b1, b2, b3, b4⟩ := ee m e
    exact p2 m b s t hm (by rw [← b1]; exact z1) (by rw [← b2]; exact z2) (by rw [← b3]; exact z3) (by rw [← b4]; exact z4)
  · rcases p3 s k g1 g2 with z | ⟨m, hm, z1, z2, z3⟩
    · exact Or.inl z
    · have e : m ≠ n := fun e => q.2.1 (by rw [← e]; exact z2)
      obtain ⟨b1, b2, b3, b4⟩ := ee m e
      exact Or.inr ⟨m, hm, z1, by rw [b1]; exact z2, by rw [b2, b3]; exact z3⟩
  · have e : m ≠ n := fun e => q.2.2.2 (by rw [← e]; exact z1)
    obtain ⟨b1, b2, b3, b4⟩ := ee m e
    exact p4 m s k hm (by rw [← b1]; exact z1) (by rw [← b2]; exact z2) (by rw [← b3]; exact z3)
/-- the top of stack s of bay b goes -/
theorem RP_so {b s f m0 : Nat} (hb : b < 10) (hs : s < 6) (hf : f < 5) (hN : N ≤ 80) (hn : n < N) (e1 : y_B h2 994 = y_B h 994) (e2 : y_I h2 1122 = y_I h 1122) (e3 : ∀ i, i ≠ 6 * b + s → y_I h2 1314 i = y_I h 1314 i) (e3' : y_I h2 1314 (6 * b + s) = nI f) (e30 : y_I h 1314 (6 * b + s) = nI (f + 1)) (e4 : y_I h2 1378 = y_I h 1378) (e5 : y_I h2 2210 = y_I h 2210) (ee : ∀ m, m ≠ n → y_I h2 418 m = y_I h 418 m ∧ y_I h2 482 m = y_I h 482 m ∧ y_I h2 546 m = y_I h 546 m ∧ y_I h2 610 m = y_I h 610 m) (q : y_I h 418 n = 1 ∧ y_I h 482 n = nI b ∧ y_I h 546 n = nI s ∧ y_I h 610 n = nI f) (q2 : y_I h2 418 n ≠ 1 ∧ y_I h2 418 n ≠ 3)
    (hm0 : y_I h 1122 b = nI m0 ∧ s < m0 ∧ m0 ≤ 6 ∧ y_B h 994 b = true) (rP : RP h N C S) : RP h2 N C S := by
  obtain ⟨p1, p2, p3, p4⟩ := rP
  unfold RP
  rw [e1, e2, e4, e5]
  have hst : y_I h 1378 (5 * (6 * b + s) + f) = nI n := by
    obtain ⟨f', -, -, -, z⟩ := p2 n b s f hn q.1 q.2.1 q.2.2.1 q.2.2.2 hb hs hf
    exact z
  refine ⟨fun b' m s' f' t g1 g2 g3 g4 g5 g6 g7 g8 => ?_, fun m b' s' t hm z1 z2 z3 z4 hb' hs' ht => ?_, fun s k g1 g2 => ?_, fun m s k hm z1 z2 z3 => ?_⟩
  · have key : ∃ m', m' < N ∧ m' ≠ n ∧ y_I h 1378 (5 * (6 * b' + s') + t) = nI m' ∧ y_I h 418 m' = 1 ∧ y_I h 482 m' = nI b' ∧ y_I h 546 m' = nI s' ∧ y_I h 610 m' = nI t := by
      by_cases e : b' = b ∧ s' = s
      · obtain ⟨rfl, rfl⟩ := e
        rw [e3', i_eq (by omega)] at g6
        obtain ⟨m', hm, z1, z2, z3, z4, z5⟩ := p1 b' m s' (f + 1) t g1 g2 g3 g4 g5 e30 (by omega) (by omega)
        refine ⟨m', hm, fun e => ?_, z1, z2, z3, z4, z5⟩
        rw [e, q.2.2.2, i_eq (by omega)] at z5
        omega
      · rw [e3 _ (by omega)] at g6
        obtain ⟨m', hm, z1, z2, z3, z4, z5⟩ := p1 b' m s' f' t g1 g2 g3 g4 g5 g6 g7 g8
        refine ⟨m', hm, fun e9 => e ?_, z1, z2, z3, z4, z5⟩
        rw [e9, q.2.1, i_eq (by omega)] at z3
        rw [e9, q.2.2.1, i_eq (by omega)] at z4
        exact ⟨z3.symm, z4.symm⟩
    obtain ⟨m', hm, e, z1, z2, z3, z4, z5⟩ := key
    obtain ⟨b1, b2, b3, b4⟩ := ee m' e
    exact ⟨m', hm, z1, by rw [b1]; exact z2, by rw [b2]; exact z3, by rw [b3]; exact z4, by rw [b4]; exact z5⟩
  · have e : m ≠ n := fun e => q2.1 (by rw [← e]; exact z1)
    obtain ⟨b1, b2, b3, b4⟩ := ee m e
    rw [b1] at z1
    rw [b2] at z2
    rw [b3] at z3
    rw [b4] at z4
    obtain ⟨f', y1, y2, y3, y4⟩ := p2 m b' s' t hm z1 z2 z3 z4 hb' hs' ht
    by_cases e9 : b' = b ∧ s' = s
    · obtain ⟨rfl, rfl⟩ := e9
      rw [e30, i_eq (by omega)] at y3
      refine ⟨f, ?_, by omega, e3', y4⟩
      have : t ≠ f := fun et => by
        rw [et, hst, i_eq (by omega)] at y4
        exact e y4.symm
      omega
    · exact ⟨f', y1, y2, by rw [e3 _ (by omega)]; exact y3, y4⟩
  · rcases p3 s k g1 g2 with z | ⟨m, hm, z1, z2, z3⟩
    · exact Or.inl z
    · have e : m ≠ n := fun e => by
        rw [e, q.1] at z2
        exact absurd z2 (by decide)
      obtain ⟨b1, b2, b3, b4⟩ := ee m e
      exact Or.inr ⟨m, hm, z1, by rw [b1]; exact z2, by rw [b2, b3]; exact z3⟩
  · have e : m ≠ n := fun e => q2.2 (by rw [← e]; exact z1)
    obtain ⟨b1, b2, b3, b4⟩ := ee m e
    exact p4 m s k hm (by rw [← b1]; exact z1) (by rw [← b2]; exact z2) (by rw [← b3]; exact z3)
/-- n comes upon stack s of bay b -/
theorem RP_si {b s f : Nat} (hb : b < 10) (hs : s < 6) (hf : f < 5) (hN : N ≤ 80) (hn : n < N) (e1 : y_B h2 994 = y_B h 994) (e2 : y_I h2 1122 = y_I h 1122) (e3 : ∀ i, i ≠ 6 * b + s → y_I h2 1314 i = y_I h 1314 i) (e3' : y_I h2 1314 (6 * b + s) = nI (f + 1)) (e30 : y_I h 1314 (6 * b + s) = nI f) (e4 : ∀ i, i ≠ 5 * (6 * b + s) + f → y_I h2 1378 i = y_I h 1378 i) (e4' : y_I h2 1378 (5 * (6 * b + s) + f) = nI n) (e5 : y_I h2 2210 = y_I h 2210) (ee : ∀ m, m ≠ n → y_I h2 418 m = y_I h 418 m ∧ y_I h2 482 m = y_I h 482 m ∧ y_I h2 546 m = y_I h 546 m ∧ y_I h2 610 m = y_I h 610 m) (q : y_I h2 418 n = 1 ∧ y_I h2 482 n = nI b ∧ y_I h2 546 n = nI s ∧ y_I h2 610 n = nI f) (q2 : y_I h 418 n ≠ 1 ∧ y_I h 418 n ≠ 3) (rP : RP h N C S) : RP h2 N C S := by
  obtain ⟨p1, p2, p3, p4⟩ := rP
  unfold RP
  rw [e1, e2, e5]
  refine ⟨fun b' m s' f' t g1 g2 g3 g4 g5 g6 g7 g8 => ?_, fun m b' s' t hm z1 z2 z3 z4 hb' hs' ht => ?_, fun s k g1 g2 => ?_, fun m s k hm z1 z2 z3 => ?_⟩
  · by_cases e : b' = b ∧ s' = s ∧ t = f
    · obtain ⟨rfl, rfl, rfl⟩ := e
      exact ⟨n, hn, e4', q.1, q.2.1, q.2.2.1, q.2.2.2⟩
    · have key : ∃ m', m' < N ∧ y_I h 1378 (5 * (6 * b' + s') + t) = nI m' ∧ y_I h 418 m' = 1 ∧ y_I h 482 m' = nI b' ∧ y_I h 546 m' = nI s' ∧ y_I h 610 m' = nI t := by
        by_cases e9 : b' = b ∧ s' = s
        · obtain ⟨rfl, rfl⟩ := e9
          rw [e3', i_eq (by omega)] at g6
          exact p1 b' m s' f t g1 g2 g3 g4 g5 e30 (by omega) (by omega)
        · rw [e3 _ (by omega)] at g6
          exact p1 b' m s' f' t g1 g2 g3 g4 g5 g6 g7 g8
      obtain ⟨m', hm, z1, z2, z3, z4, z5⟩ := key
      have e9 : m' ≠ n := fun e => q2.1 (by rw [← e]; exact z2)
      obtain ⟨b1, b2, b3, b4⟩ := ee m' e9
      exact ⟨m', hm, by rw [e4 _ (by omega)]; exact z1, by rw [b1]; exact z2, by rw [b2]; exact z3, by rw [b3]; exact z4, by rw [b4]; exact z5⟩
  · by_cases e : m = n
    · rw [e, q.2.1, i_eq (by omega)] at z2
      rw [e, q.2.2.1, i_eq (by omega)] at z3
      rw [e, q.2.2.2, i_eq (by omega)] at z4
      rw [← z2, ← z3, ← z4, e]
      exact ⟨f + 1, by omega, by omega, e3', e4'⟩
    · obtain ⟨b1, b2, b3, b4⟩ := ee m e
      rw [b1] at z1
      rw [b2] at z2
      rw [b3] at z3
      rw [b4] at z4
      obtain ⟨f', y1, y2, y3, y4⟩ := p2 m b' s' t hm z1 z2 z3 z4 hb' hs' ht
      by_cases e9 : b' = b ∧ s' = s
      · obtain ⟨rfl, rfl⟩ := e9
        rw [e30, i_eq (by omega)] at y3
        exact ⟨f + 1, by omega, by omega, e3', by rw [e4 _ (by omega)]; exact y4⟩
      · exact ⟨f', y1, y2, by rw [e3 _ (by omega)]; exact y3, by rw [e4 _ (by omega)]; exact y4⟩
  · rcases p3 s k g1 g2 with z | ⟨m, hm, z1, z2, z3⟩
    · exact Or.inl z
    · have e : m ≠ n := fun e => q2.2 (by rw [← e]; exact z2)
      obtain ⟨b1, b2, b3, b4⟩ := ee m e
      exact Or.inr ⟨m, hm, z1, by rw [b1]; exact z2, by rw [b2, b3]; exact z3⟩
  · have e : m ≠ n := fun e => by
      rw [e, q.1] at z1
      exact absurd z1 (by decide)
    obtain ⟨b1, b2, b3, b4⟩ := ee m e
    exact p4 m s k hm (by rw [← b1]; exact z1) (by rw [← b2]; exact z2) (by rw [← b3]; exact z3)
/-- n goes from cell k of ship s -/
theorem RP_ho {s k : Nat} (hs : s < 3) (hk : k < 54) (hN : N ≤ 80) (hn : n < N) (e1 : y_B h2 994 = y_B h 994) (e2 : y_I h2 1122 = y_I h 1122) (e3 : y_I h2 1314 = y_I h 1314) (e4 : y_I h2 1378 = y_I h 1378) (e5 : ∀ i, i ≠ 54 * s + k → y_I h2 2210 i = y_I h 2210 i) (e5' : y_I h2 2210 (54 * s + k) = -1) (ee : ∀ m, m ≠ n → y_I h2 418 m = y_I h 418 m ∧ y_I h2 482 m = y_I h 482 m ∧ y_I h2 546 m = y_I h 546 m ∧ y_I h2 610 m = y_I h 610 m) (q : y_I h 418 n = 3 ∧ y_I h 482 n = nI s ∧ y_I h 546 n = nI k) (q2 : y_I h2 418 n ≠ 1 ∧ y_I h2 418 n ≠ 3) (hS : S ≤ 3) (hsS : s < S) (rP : RP h N C S) : RP h2 N C S := by
  obtain ⟨p1, p2, p3, p4⟩ := rP
  have hst := p4 n s k hn q.1 q.2.1 q.2.2 hsS hk
  unfold RP
  rw [e1, e2, e3, e4]
  refine ⟨fun b m s f t g1 g2 g3 g4 g5 g6 g7 g8 => ?_, fun m b s t hm z1 z2 z3 z4 => ?_, fun s' k' g1 g2 => ?_, fun m s' k' hm z1 z2 z3 g1 g2 => ?_⟩
  · obtain ⟨m', hm, z1, z2, z3⟩ := p1 b m s f t g1 g2 g3 g4 g5 g6 g7 g8
    have e : m' ≠ n := fun e => by
      rw [e, q.1] at z2
      exact absurd z2 (by decide)
    obtain ⟨b1, b2, b3, b4⟩ := ee m' e
    exact ⟨m', hm, z1, by rw [b1]; exact z2, by rw [b2, b3, b4]; exact z3⟩
  · have e : m ≠ n := fun e => q2.1 (by rw [← e]; exact z1)
    obtain ⟨b1, b2, b3, b4⟩ := ee m e
    exact p2 m b s t hm (by rw [← b1]; exact z1) (by rw [← b2]; exact z2) (by rw [← b3]; exact z3) (by rw [← b4]; exact z4)
  · by_cases e : s' = s ∧ k' = k
    · obtain ⟨rfl, rfl⟩ := e
      exact Or.inl e5'
    · rw [e5 _ (by omega)]
      rcases p3 s' k' g1 g2 with z | ⟨m, hm, z1, z2, z3, z4⟩
      · exact Or.inl z
      · have e9 : m ≠ n := fun e9 => e (by
          rw [e9, q.2.1, i_eq (by omega)] at z3
          rw [e9, q.2.2, i_eq (by omega)] at z4
          exact ⟨z3.symm, z4.symm⟩)
        obtain ⟨b1, b2, b3, b4⟩ := ee m e9
        exact Or.inr ⟨m, hm, z1, by rw [b1]; exact z2, by rw [b2]; exact z3, by rw [b3]; exact z4⟩
  · have e : m ≠ n := fun e => q2.2 (by rw [← e]; exact z1)
    obtain ⟨b1, b2, b3, b4⟩ := ee m e
    rw [b1] at z1
    rw [b2] at z2
    rw [b3] at z3
    have y := p4 m s' k' hm z1 z2 z3 g1 g2
    have : ¬ (s' = s ∧ k' = k) := fun e9 => by
      rw [e9.1, e9.2, hst, i_eq (by omega)] at y
      exact e y.symm
    rw [e5 _ (by omega)]
    exact y
/-- n comes to cell k of ship s -/
theorem RP_hi {s k : Nat} (hs : s < 3) (hk : k < 54) (hN : N ≤ 80) (hn : n < N) (e1 : y_B h2 994 = y_B h 994) (e2 : y_I h2 1122 = y_I h 1122) (e3 : y_I h2 1314 = y_I h 1314) (e4 : y_I h2 1378 = y_I h 1378) (e5 : ∀ i, i ≠ 54 * s + k → y_I h2 2210 i = y_I h 2210 i) (e5' : y_I h2 2210 (54 * s + k) = nI n) (e50 : y_I h 2210 (54 * s + k) = -1) (ee : ∀ m, m ≠ n → y_I h2 418 m = y_I h 418 m ∧ y_I h2 482 m = y_I h 482 m ∧ y_I h2 546 m = y_I h 546 m ∧ y_I h2 610 m = y_I h 610 m) (q : y_I h2 418 n = 3 ∧ y_I h2 482 n = nI s ∧ y_I h2 546 n = nI k) (q2 : y_I h 418 n ≠ 1 ∧ y_I h 418 n ≠ 3) (hS : S ≤ 3) (rP : RP h N C S) : RP h2 N C S := by
  obtain ⟨p1, p2, p3, p4⟩ := rP
  unfold RP
  rw [e1, e2, e3, e4]
  refine ⟨fun b m s f t g1 g2 g3 g4 g5 g6 g7 g8 => ?_, fun m b s t hm z1 z2 z3 z4 => ?_, fun s' k' g1 g2 => ?_, fun m s' k' hm z1 z2 z3 g1 g2 => ?_⟩
  · obtain ⟨m', hm, z1, z2, z3⟩ := p1 b m s f t g1 g2 g3 g4 g5 g6 g7 g8
    have e : m' ≠ n := fun e => q2.1 (by rw [← e]; exact z2)
    obtain ⟨b1, b2, b3, b4⟩ := ee m' e
    exact ⟨m', hm, z1, by rw [b1]; exact z2, by rw [b2, b3, b4]; exact z3⟩
  · have e : m ≠ n := fun e => by
      rw [e, q.1] at z1
      exact absurd z1 (by decide)
    obtain ⟨b1, b2, b3, b4⟩ := ee m e
    exact p2 m b s t hm (by rw [← b1]; exact z1) (by rw [← b2]; exact z2) (by rw [← b3]; exact z3) (by rw [← b4]; exact z4)
  · by_cases e : s' = s ∧ k' = k
    · obtain ⟨rfl, rfl⟩ := e
      exact Or.inr ⟨n, hn, e5', q.1, q.2.1, q.2.2⟩
    · rw [e5 _ (by omega)]
      rcases p3 s' k' g1 g2 with z | ⟨m, hm, z1, z2, z3⟩
      · exact Or.inl z
      · have e9 : m ≠ n := fun e9 => q2.2 (by rw [← e9]; exact z2)
        obtain ⟨b1, b2, b3, b4⟩ := ee m e9
        exact Or.inr ⟨m, hm, z1, by rw [b1]; exact z2, by rw [b2, b3]; exact z3⟩
  · by_cases e : m = n
    · rw [e, q.2.1, i_eq (by omega)] at z2
      rw [e, q.2.2, i_eq (by omega)] at z3
      rw [← z2, ← z3, e]
      exact e5'
    · obtain ⟨b1, b2, b3, b4⟩ := ee m e
      rw [b1] at z1
      rw [b2] at z2
      rw [b3] at z3
      have y := p4 m s' k' hm z1 z2 z3 g1 g2
      have : ¬ (s' = s ∧ k' = k) := fun e9 => by
        rw [e9.1, e9.2, e50, eq_comm, i_ne1 (by omega)] at y
        exact y
      rw [e5 _ (by omega)]
      exact y
end MA
