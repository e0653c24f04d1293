section HU
variable {h h2 : y_H} {N C S A r f n : Nat} {cur cur' : Nat → Int32}
theorem oB_st (hk : y_I h2 2722 = y_I h 2722) (hc : cur' n = cur n) (hr : r ≤ A) : oB h2 A r f cur' n = oB h A r f cur n := by
  unfold oB
  rw [hk]
  exact ov_cong hc (fun k _ => ⟨rfl, rfl⟩) r hr
theorem oC_st (hk : y_I h2 2722 = y_I h 2722) (hc : cur' n = cur n) (hr : r ≤ A) : oC h2 A r f cur' n = oC h A r f cur n := by
  unfold oC
  rw [hk]
  exact ov_cong hc (fun k _ => ⟨rfl, rfl⟩) r hr
theorem oS_st (hk : y_I h2 2722 = y_I h 2722) (hc : cur' n = cur n) (hr : r ≤ A) : oS h2 A r f cur' n = oS h A r f cur n := by
  unfold oS
  rw [hk]
  exact ov_cong hc (fun k _ => ⟨rfl, rfl⟩) r hr
/-- the history, where what it speaks of is as it was -/
theorem RH_st (st : St h h2 C S) (hk : y_I h2 2722 = y_I h 2722) (ho : y_I h2 13 2 = y_I h 13 2) (hsh : ∀ j, y_P h2 (64 * j + 24) 11 = y_P h (64 * j + 24) 11) (hb : ∀ n, n < N → y_I h2 418 n = y_I h 418 n ∧ y_I h2 482 n = y_I h 482 n ∧ y_I h2 546 n = y_I h 546 n ∧ y_I h2 610 n = y_I h 610 n) (hc : ∀ c, c < C → y_I h2 1634 c = y_I h 1634 c ∧ y_I h2 1698 c = y_I h 1698 c) (hs : ∀ s, s < S → y_I h2 2466 s = y_I h 2466 s ∧ y_I h2 2530 s = y_I h 2530 s) (rH : RH h N C S A) : RH h2 N C S A := by
  refine ⟨fun r hr => VB_st st (fun n hn => ?_) (fun c hc9 => ?_) (fun s hs9 => ?_) (rH.1 r hr), fun r hr o ho8 ho9 => ?_⟩
  · obtain ⟨b1, b2, b3, b4⟩ := hb n hn
    exact ⟨oB_st hk b1 hr, oB_st hk b2 hr, oB_st hk b3 hr, oB_st hk b4 hr⟩
  · exact ⟨oC_st hk (hc c hc9).1 hr, oC_st hk (hc c hc9).2 hr⟩
  · exact oS_st hk (hs s hs9).1 hr
  · obtain ⟨a1, a2, a3, a4, a5, a6⟩ := rH.2 r hr o ho8 (by rw [← ho]; exact ho9)
    have hr1 : r + 1 ≤ A := hr
    have hr0 : r ≤ A := by omega
    unfold ak
    rw [hk]
    refine ⟨a1, a2, a3, fun n hn q => ?_, fun c hc9 q1 q2 => ?_, fun s hs9 q1 q2 => ?_⟩
    · obtain ⟨c, hc9, z1, z2, z3⟩ := a4 n hn q
      obtain ⟨b1, b2, b3, b4⟩ := hb n hn
      refine ⟨c, hc9, z1, ?_, ?_⟩
      · rw [oC_st hk (hc c hc9).1 hr1, oC_st hk (hc c hc9).1 hr0]
        exact z2
      · rw [oB_st hk b1 hr1, oB_st hk b2 hr1, oB_st hk b1 hr0, oB_st hk b2 hr0]
        exact z3
    · rw [oC_st hk (hc c hc9).2 hr1, oC_st hk (hc c hc9).2 hr0]
      exact a5 c hc9 q1 q2
    · rw [oS_st hk (hs s hs9).1 hr1, oS_st hk (hs s hs9).1 hr0, oS_st hk (hs s hs9).2 hr1, oS_st hk (hs s hs9).2 hr0]
      exact a6 s hs9 q1 (by rw [← hsh]; exact q2)
theorem keysH {o : Nat} (rH : RH h N C S A) (ho8 : o < 60) (ho : y_I h 13 2 = nI o) {k : Nat} (hk : k < A) : on (y_I h 2722 (14 * k + 5)) N ∧ on (y_I h 2722 (14 * k + 1)) C ∧ on (y_I h 2722 (14 * k + 11)) S := by
  obtain ⟨a1, a2, a3, -⟩ := rH.2 (A - 1 - k) (by omega) o ho8 ho
  rw [show A - (A - 1 - k + 1) = k by omega] at a1 a2 a3
  exact ⟨a1, a2, a3⟩
theorem on_ne {x : Int32} {n m : Nat} (hm : m < 2 ^ 31) (hnm : n ≤ m) (q : on x n) : x ≠ nI m := by
  rintro rfl
  rcases q with q | ⟨k, hk, q⟩
  · rw [i_ne9 hm] at q
    exact q
  · rw [i_eq ⟨hm, by omega⟩] at q
    omega
theorem on_up {x : Int32} {n m : Nat} (hnm : n ≤ m) (q : on x n) : on x m := by
  rcases q with q | ⟨k, hk, q⟩
  · exact Or.inl q
  · exact Or.inr ⟨k, by omega, q⟩
/-- a new box at the gate -/
theorem RH_box {o : Nat} (hN : N < 2 ^ 31) (ho8 : o < 60) (ho : y_I h 13 2 = nI o) (q : y_I h 418 N = 0 ∧ y_I h 482 N = 0 ∧ y_I h 546 N = 0 ∧ y_I h 610 N = 0) (rH : RH h N C S A) : RH h (N + 1) C S A := by
  have key : ∀ k, k < A → y_I h 2722 (14 * k + 5) ≠ nI N := fun k hk => on_ne hN (Nat.le_refl _) (keysH rH ho8 ho hk).1
  refine ⟨fun r hr => VB_box ⟨?_, ?_, ?_, ?_⟩ (rH.1 r hr), fun r hr o ho8 ho9 => ?_⟩
  · exact (ov_none key r hr).trans q.1
  · exact (ov_none key r hr).trans q.2.1
  · exact (ov_none key r hr).trans q.2.2.1
  · exact (ov_none key r hr).trans q.2.2.2
  · obtain ⟨a1, a2, a3, a4, a5, a6⟩ := rH.2 r hr o ho8 ho9
    refine ⟨on_up (by omega) a1, a2, a3, fun n hn z => ?_, a5, a6⟩
    by_cases e : n = N
    · subst e
      exact absurd z (key _ (by omega))
    · exact a4 n (by omega) z
theorem RP_box (q : y_I h 418 N = 0) (rP : RP h N C S) : RP h (N + 1) C S := by
  obtain ⟨p1, p2, p3, p4⟩ := rP
  have n1 : (0 : Int32) ≠ 1 := by decide
  have n3 : (0 : Int32) ≠ 3 := by decide
  refine ⟨fun b m s f t g1 g2 g3 g4 g5 g6 g7 g8 => ?_, fun n b s t hn z => ?_, fun s k g1 g2 => ?_, fun n s k hn z => ?_⟩
  · obtain ⟨n, hn, z⟩ := p1 b m s f t g1 g2 g3 g4 g5 g6 g7 g8
    exact ⟨n, by omega, z⟩
  · by_cases e : n = N
    · subst e
      rw [q] at z
      exact absurd z n1
    · exact p2 n b s t (by omega) z
  · rcases p3 s k g1 g2 with z | ⟨n, hn, z⟩
    · exact Or.inl z
    · exact Or.inr ⟨n, by omega, z⟩
  · by_cases e : n = N
    · subst e
      rw [q] at z
      exact absurd z n3
    · exact p4 n s k (by omega) z
theorem RD_up {N' : Nat} (hN : N ≤ N') (rD : RD h N) : RD h N' := by
  obtain ⟨⟨W, v, d1, d2, d3, d4, d5⟩, dd⟩ := rD
  exact ⟨⟨W, v, d1, d2, d3, fun i hi => ⟨by have := (d4 i hi).1; omega, (d4 i hi).2⟩, d5⟩, dd⟩
theorem RK_up {N' C' : Nat} (hN : N ≤ N') (hC : C ≤ C') (rK : RK h N C) : RK h N' C' := by
  obtain ⟨k1, k2, k3, k4, k5, k6, k7, k8, k9⟩ := rK
  refine ⟨k1, k2, k3, k4, k5, k6, k7, k8, fun s hs => ?_⟩
  obtain ⟨l, c, g1, g2, g3, g4, g5, g6, g7, g8, g9, g10⟩ := k9 s hs
  refine ⟨l, c, g1, g2, g3, g4, g5, g6, g7, g8, fun i hi => ⟨(g9 i hi).1, on_up ?_ (g9 i hi).2⟩, g10⟩
  split <;> assumption
end HU
