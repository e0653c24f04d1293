/-! least: tables with open places -/
section LSK
variable {T : Nat → Int32} {M N e i x : Nat} {E hs : Nat → Nat}
def HT (T : Nat → Int32) (M N : Nat) (E hs : Nat → Nat) : Prop := (∀ x, x < M → T x = 0 ∨ ∃ k, k < N ∧ T x = nI (k + 1)) ∧ (∀ k, k < N → ∃ i, i < M ∧ T ((hs (E k) + i) % M) = nI (k + 1) ∧ ∀ j, j < i → T ((hs (E k) + j) % M) ≠ 0) ∧ (∀ x z k, x < M → z < M → k < N → T x = nI (k + 1) → T z = nI (k + 1) → x = z)
theorem least_of {P : Nat → Prop} : ∀ n, (∃ i, i < n ∧ P i) → ∃ i, i < n ∧ P i ∧ ∀ j, j < i → ¬ P j
  | 0, h => by
    obtain ⟨i, hi, -⟩ := h
    omega
  | n + 1, h => by
    by_cases q : ∃ i, i < n ∧ P i
    · obtain ⟨i, hi, h1, h2⟩ := least_of n q
      exact ⟨i, by omega, h1, h2⟩
    · obtain ⟨i, hi, h1⟩ := h
      have : i = n := by
        by_cases z : i < n
        · exact absurd ⟨i, z, h1⟩ q
        · omega
      exact ⟨i, hi, h1, fun j hj hp => q ⟨j, by omega, hp⟩⟩
theorem nI_s0 {k : Nat} (h : k < 2 ^ 30) : nI (k + 1) ≠ 0 := by
  intro z
  rw [show (0 : Int32) = nI 0 from rfl, i_eq (by omega)] at z
  omega
theorem HT.stop (H : HT T M N E hs) (hN : N < M) (hM : M ≤ 2 ^ 30) (e : Nat) : ∃ i, i < M ∧ (T ((hs e + i) % M) = 0 ∨ ∃ k, k < N ∧ T ((hs e + i) % M) = nI (k + 1) ∧ E k = e) ∧ ∀ j, j < i → ∃ k, k < N ∧ T ((hs e + j) % M) = nI (k + 1) ∧ E k ≠ e := by
  obtain ⟨a1, a2, a3⟩ := H
  have ex : ∃ i, i < M ∧ (T ((hs e + i) % M) = 0 ∨ ∃ k, k < N ∧ T ((hs e + i) % M) = nI (k + 1) ∧ E k = e) := by
    refine Classical.byContradiction fun no => ?_
    have full : ∀ x, ∃ k, x < M → k < N ∧ T x = nI (k + 1) := fun x => by
      by_cases hx : x < M
      · have z : (hs e + (x + (M - hs e % M)) % M) % M = x := by
          have b1 : hs e % M < M := Nat.mod_lt _ (by omega)
          rw [Nat.add_mod, Nat.mod_mod, ← Nat.add_mod, show hs e + (x + (M - hs e % M)) = (hs e - hs e % M) + (x + M) by have := Nat.mod_le (hs e) M; omega]
          have b2 : hs e - hs e % M = M * (hs e / M) := by
            have := Nat.div_add_mod (hs e) M
            omega
          rw [b2, Nat.mul_add_mod, Nat.add_mod_right, Nat.mod_eq_of_lt hx]
        rcases a1 x hx with q | ⟨k, hk, q⟩
        · refine absurd ⟨(x + (M - hs e % M)) % M, Nat.mod_lt _ (by omega), Or.inl ?_⟩ no
          rw [z]
          exact q
        · exact ⟨k, fun _ => ⟨hk, q⟩⟩
      · exact ⟨0, fun q => absurd q hx⟩
    obtain ⟨F, hF⟩ := Classical.axiomOfChoice full
    have := pg M N F (fun x hx => (hF x hx).1) (fun x z hx hz q => a3 x z (F x) hx hz (hF x hx).1 (hF x hx).2 (by rw [q]; exact (hF z hz).2))
    omega
  obtain ⟨i, hi, h1, h2⟩ := least_of M ex
  refine ⟨i, hi, h1, fun j hj => ?_⟩
  have n1 := h2 j hj
  rcases a1 ((hs e + j) % M) (Nat.mod_lt _ (by omega)) with q | ⟨k, hk, q⟩
  · exact absurd (Or.inl q) n1
  · exact ⟨k, hk, q, fun w => n1 (Or.inr ⟨k, hk, q, w⟩)⟩
theorem HT.emp (h : ∀ x, x < M → T x = 0) : HT T M 0 E hs := ⟨fun x hx => Or.inl (h x hx), fun k hk => by omega, fun x z k _ _ hk => by omega⟩
/-- what is there is found -/
theorem HT.has (H : HT T M N E hs) (hN : N < M) (hM : M ≤ 2 ^ 30) (hi : i < M) (h0 : T ((hs e + i) % M) = 0) (hp : ∀ j, j < i → ∃ k, k < N ∧ T ((hs e + j) % M) = nI (k + 1) ∧ E k ≠ e) : ∀ k, k < N → E k ≠ e := fun k hk w => by
  obtain ⟨j, hj, h1, h2⟩ := H.2.1 k hk
  rw [w] at h1 h2
  rcases Nat.lt_trichotomy j i with q | q | q
  · obtain ⟨k2, hk2, z1, z2⟩ := hp j q
    rw [h1, i_eq (by omega)] at z1
    have : k = k2 := by omega
    rw [← this] at z2
    exact z2 w
  · rw [q, h0] at h1
    exact nI_s0 (by omega) h1.symm
  · exact h2 i q h0
theorem HT.ins {T2 : Nat → Int32} {E2 : Nat → Nat} (H : HT T M N E hs) (hN : N < M) (hM : M ≤ 2 ^ 30) (hi : i < M) (h0 : T ((hs e + i) % M) = 0) (hp : ∀ j, j < i → ∃ k, k < N ∧ T ((hs e + j) % M) = nI (k + 1) ∧ E k ≠ e) (t1 : T2 ((hs e + i) % M) = nI (N + 1)) (t2 : ∀ x, x ≠ (hs e + i) % M → T2 x = T x) (e1 : E2 N = e) (e2 : ∀ k, k < N → E2 k = E k) : HT T2 M (N + 1) E2 hs := by
  obtain ⟨a1, a2, a3⟩ := H
  have nz : ∀ x, T x ≠ 0 → T2 x = T x := fun x hx => t2 x (fun w => hx (by rw [w]; exact h0))
  refine ⟨fun x hx => ?_, fun k hk => ?_, fun x z k hx hz hk q1 q2 => ?_⟩
  · by_cases w : x = (hs e + i) % M
    · exact Or.inr ⟨N, by omega, by rw [w]; exact t1⟩
    · rw [t2 x w]
      rcases a1 x hx with q | ⟨k, hk, q⟩
      · exact Or.inl q
      · exact Or.inr ⟨k, by omega, q⟩
  · by_cases w : k = N
    · rw [w, e1]
      refine ⟨i, hi, t1, fun j hj => ?_⟩
      obtain ⟨k2, hk2, z1, -⟩ := hp j hj
      rw [nz _ (by rw [z1]; exact nI_s0 (by omega)), z1]
      exact nI_s0 (by omega)
    · rw [e2 k (by omega)]
      obtain ⟨j, hj, h1, h2⟩ := a2 k (by omega)
      refine ⟨j, hj, ?_, fun j2 hj2 => ?_⟩
      · rw [nz _ (by rw [h1]; exact nI_s0 (by omega)), h1]
      · rw [nz _ (h2 j2 hj2)]
        exact h2 j2 hj2
  · have cl : ∀ x, x < M → T2 x = nI (k + 1) → (x = (hs e + i) % M ∧ k = N) ∨ (x ≠ (hs e + i) % M ∧ k < N ∧ T x = nI (k + 1)) := fun x hx q => by
      by_cases w : x = (hs e + i) % M
      · rw [w, t1, i_eq (by omega)] at q
        exact Or.inl ⟨w, by omega⟩
      · rw [t2 x w] at q
        rcases a1 x hx with z | ⟨k2, hk2, z⟩
        · rw [z] at q
          exact absurd q.symm (nI_s0 (by omega))
        · rw [z, i_eq (by omega)] at q
          exact Or.inr ⟨w, by omega, by rw [z, i_eq (by omega)]; exact q⟩
    rcases cl x hx q1 with ⟨w1, w2⟩ | ⟨w1, w2, w3⟩
    · rcases cl z hz q2 with ⟨v1, v2⟩ | ⟨v1, v2, v3⟩
      · rw [w1, v1]
      · omega
    · rcases cl z hz q2 with ⟨v1, v2⟩ | ⟨v1, v2, v3⟩
      · omega
      · exact a3 x z k hx hz w2 w3 v3
end LSK
