/-! what was: overlays, places -/
theorem ov_none {key val : Nat → Int32} {i cur : Int32} {A : Nat} (hk : ∀ k, k < A → key k ≠ i) : ∀ r, r ≤ A → ov key val i cur A r = cur
  | 0, _ => rfl
  | r + 1, h => by
    rw [ov, if_neg (hk _ (by omega))]
    exact ov_none hk r (by omega)
theorem ov_cong {key key' val val' : Nat → Int32} {i cur cur' : Int32} {A : Nat} (hc : cur' = cur) (hk : ∀ k, k < A → key' k = key k ∧ val' k = val k) : ∀ r, r ≤ A → ov key' val' i cur' A r = ov key val i cur A r
  | 0, _ => hc
  | r + 1, h => by
    rw [ov, ov, (hk (A - (r + 1)) (by omega)).1, (hk (A - (r + 1)) (by omega)).2, ov_cong hc hk r (by omega)]
/-- what the places rest on: it may grow -/
def St (h h2 : y_H) (C S : Nat) : Prop := (∀ b, b < 10 → y_B h 994 b = true → y_B h2 994 b = true ∧ y_I h2 1122 b = y_I h 1122 b ∧ ∀ s, s < 6 → y_I h2 1186 (6 * b + s) = y_I h 1186 (6 * b + s)) ∧ (∀ s, s < S → y_I h2 1954 s = y_I h 1954 s ∧ y_I h2 2018 s = y_I h 2018 s ∧ y_I h2 2082 s = y_I h 2082 s ∧ ∀ p, p ≤ 8 → y_I h 2402 s = nI p → ∃ p', p ≤ p' ∧ p' ≤ 8 ∧ y_I h2 2402 s = nI p') ∧ (∀ c, c < C → y_I h2 1570 c = y_I h 1570 c) ∧ ∀ g, g < 3 → y_I h2 1890 g = y_I h 1890 g
theorem St.refl (h : y_H) (C S : Nat) : St h h C S := ⟨fun b _ hl => ⟨hl, rfl, fun _ _ => rfl⟩, fun s _ => ⟨rfl, rfl, rfl, fun p h8 hp => ⟨p, Nat.le_refl _, h8, hp⟩⟩, fun _ _ => rfl, fun _ _ => rfl⟩
theorem okp_st {h h2 : y_H} {C S S' : Nat} {a x y z : Int32} (st : St h h2 C S) (hS : S ≤ S') (o : okp h C S a x y z) : okp h2 C S' a x y z := by
  rcases o with o | ⟨b, m, s, H, t, hb, hl, e1, hs, hm, e2, ht, q⟩ | o | ⟨s, k, u, v, w, hs, e1, e2, e3, hk, q⟩ | o
  · exact Or.inl o
  · obtain ⟨l1, l2, l3⟩ := st.1 b hb hl
    exact Or.inr (Or.inl ⟨b, m, s, H, t, hb, l1, by rw [l2]; exact e1, hs, hm, by rw [l3 s (by omega)]; exact e2, ht, q⟩)
  · exact Or.inr (Or.inr (Or.inl o))
  · obtain ⟨l1, l2, l3, -⟩ := st.2.1 s hs
    exact Or.inr (Or.inr (Or.inr (Or.inl ⟨s, k, u, v, w, by omega, by rw [l1]; exact e1, by rw [l2]; exact e2, by rw [l3]; exact e3, hk, q⟩)))
  · exact Or.inr (Or.inr (Or.inr (Or.inr o)))
theorem VB_st {h h2 : y_H} {N C S : Nat} {a x y z pl hd sd a' x' y' z' pl' hd' sd' : Nat → Int32} (st : St h h2 C S) (hb : ∀ n, n < N → a' n = a n ∧ x' n = x n ∧ y' n = y n ∧ z' n = z n) (hc : ∀ c, c < C → pl' c = pl c ∧ hd' c = hd c) (hs : ∀ s, s < S → sd' s = sd s) (V : VB h N C S a x y z pl hd sd) : VB h2 N C S a' x' y' z' pl' hd' sd' := by
  obtain ⟨v1, v2, v3, v4, v5, v6, v7, v8⟩ := V
  refine ⟨fun n hn => ?_, fun n c hn hc9 q1 q2 => ?_, fun c hc9 => ?_, fun n n' hn hn' => ?_, fun n t hn => ?_, fun c hc9 => ?_, fun c d g hcd hd9 q1 q2 hg => ?_, fun s hs9 => ?_⟩
  · obtain ⟨e1, e2, e3, e4⟩ := hb n hn
    rw [e1, e2, e3, e4]
    exact okp_st st (Nat.le_refl _) (v1 n hn)
  · obtain ⟨e1, e2, e3, e4⟩ := hb n hn
    rw [(hc c hc9).2]
    exact v2 n c hn hc9 (by rw [← e1]; exact q1) (by rw [← e2]; exact q2)
  · rw [(hc c hc9).2]
    rcases v3 c hc9 with q | ⟨n, hn, q1, q2, q3⟩
    · exact Or.inl q
    · obtain ⟨e1, e2, e3, e4⟩ := hb n hn
      exact Or.inr ⟨n, hn, q1, by rw [e1]; exact q2, by rw [e2]; exact q3⟩
  · obtain ⟨e1, e2, e3, e4⟩ := hb n hn
    obtain ⟨f1, f2, f3, f4⟩ := hb n' hn'
    rw [e1, e2, e3, e4, f1, f2, f3, f4]
    exact v4 n n' hn hn'
  · obtain ⟨e1, e2, e3, e4⟩ := hb n hn
    rw [e1, e4]
    intro q1 q2 q3
    obtain ⟨n', hn', g1, g2, g3, g4⟩ := v5 n t hn q1 q2 q3
    obtain ⟨f1, f2, f3, f4⟩ := hb n' hn'
    exact ⟨n', hn', by rw [f1]; exact g1, by rw [f2, e2]; exact g2, by rw [f3, e3]; exact g3, by rw [f4]; exact g4⟩
  · rw [(hc c hc9).1]
    exact v6 c hc9
  · rw [st.2.2.2 g hg, (hc c (by omega)).1, (hc d hd9).1]
    exact v7 c d g hcd hd9 (by rw [← st.2.2.1 c (by omega)]; exact q1) (by rw [← st.2.2.1 d hd9]; exact q2) hg
  · obtain ⟨k, p, q1, q2, q0, q3, q4⟩ := v8 s hs9
    obtain ⟨-, -, -, l4⟩ := st.2.1 s hs9
    obtain ⟨p', hp, hp8, l5⟩ := l4 p q0 q2
    exact ⟨k, p', by rw [hs s hs9]; exact q1, l5, hp8, q3, by omega⟩
/-- a new box, at the gate -/
theorem VB_box {h : y_H} {N C S : Nat} {a x y z pl hd sd : Nat → Int32} (q : a N = 0 ∧ x N = 0 ∧ y N = 0 ∧ z N = 0) (V : VB h N C S a x y z pl hd sd) : VB h (N + 1) C S a x y z pl hd sd := by
  obtain ⟨v1, v2, v3, v4, v5, v6, v7, v8⟩ := V
  have n02 : (0 : Int32) ≠ 2 := by decide
  have n01 : ¬ ((0 : Int32) = 1 ∨ (0 : Int32) = 3) := by decide
  have n0 : (0 : Int32) ≠ 1 := by decide
  have cs : ∀ n, n < N + 1 → n < N ∨ n = N := fun n hn => by omega
  refine ⟨fun n hn => ?_, fun n c hn hc9 q1 q2 => ?_, fun c hc9 => ?_, fun n n' hn hn' => ?_, fun n t hn => ?_, v6, v7, v8⟩
  · rcases cs n hn with hn | rfl
    · exact v1 n hn
    · rw [q.1, q.2.1, q.2.2.1, q.2.2.2]
      exact Or.inl ⟨rfl, rfl, rfl, rfl⟩
  · rcases cs n hn with hn | rfl
    · exact v2 n c hn hc9 q1 q2
    · rw [q.1] at q1
      exact absurd q1 n02
  · rcases v3 c hc9 with q9 | ⟨n, hn, q9⟩
    · exact Or.inl q9
    · exact Or.inr ⟨n, by omega, q9⟩
  · rcases cs n hn with hn | rfl
    · rcases cs n' hn' with hn' | rfl
      · exact v4 n n' hn hn'
      · intro e1 e2
        rw [e1, q.1] at e2
        exact absurd e2 n01
    · intro e1 e2
      rw [q.1] at e2
      exact absurd e2 n01
  · rcases cs n hn with hn | rfl
    · intro q1 q2 q3
      obtain ⟨n', hn', g⟩ := v5 n t hn q1 q2 q3
      exact ⟨n', by omega, g⟩
    · intro q1
      rw [q.1] at q1
      exact absurd q1 n0
/-- a new ship -/
theorem VB_ship {h h2 : y_H} {N C S : Nat} {a x y z pl hd sd : Nat → Int32} (st : St h h2 C S) (q : sd S = 0) (hp : y_I h2 2402 S = 0) (V : VB h N C S a x y z pl hd sd) : VB h2 N C (S + 1) a x y z pl hd sd := by
  obtain ⟨v1, v2, v3, v4, v5, v6, v7, v8⟩ := V
  refine ⟨fun n hn => okp_st st (by omega) (v1 n hn), v2, v3, v4, v5, v6, fun c d g hcd hd9 q1 q2 hg => ?_, fun s hs => ?_⟩
  · rw [st.2.2.2 g hg]
    exact v7 c d g hcd hd9 (by rw [← st.2.2.1 c (by omega)]; exact q1) (by rw [← st.2.2.1 d hd9]; exact q2) hg
  · by_cases e : s = S
    · subst e
      exact ⟨0, 0, by rw [q]; rfl, by rw [hp]; rfl, by omega, by omega, Or.inr rfl⟩
    · obtain ⟨k, p, q1, q2, q0, q3, q4⟩ := v8 s (by omega)
      obtain ⟨-, -, -, l4⟩ := st.2.1 s (by omega)
      obtain ⟨p', hp, hp8, l5⟩ := l4 p q0 q2
      exact ⟨k, p', q1, l5, hp8, q3, by omega⟩
