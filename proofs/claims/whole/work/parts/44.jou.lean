/-! THE JOURNAL: one act more -/
theorem ov_s (key val : Nat → Int32) (i cur : Int32) (A r : Nat) : ov key val i cur A (r + 1) = if key (A - (r + 1)) = i then val (A - (r + 1)) else ov key val i cur A r := rfl
theorem ov_more {key val key' val' : Nat → Int32} {i cur cur' : Int32} {A A' d : Nat} (hd : A' + d = A + 1) (hk : ∀ k, k + 1 < A' → key' k = key (k + d) ∧ val' k = val (k + d)) (hn : (if key' (A' - 1) = i then val' (A' - 1) else cur') = cur) : ∀ r, r + 1 ≤ A' → ov key' val' i cur' A' (r + 1) = ov key val i cur A r
  | 0, _ => hn
  | r + 1, h => by
    have e : A' - (r + 1 + 1) + d = A - (r + 1) := by omega
    have q := hk (A' - (r + 1 + 1)) (by omega)
    rw [e] at q
    rw [ov_s key' val', ov_s key val i cur A r, q.1, q.2, ov_more hd hk hn r (by omega)]
/-- the journal of h2 is that of h and one act more -/
def JN (h h2 : y_H) (A A' o o' d : Nat) : Prop := (A < 60 ∧ A' = A + 1 ∧ o' = o ∧ d = 0 ∨ A = 60 ∧ A' = 60 ∧ o' = (o + 1) % 60 ∧ d = 1) ∧ y_I h2 13 3 = nI A' ∧ y_I h2 11 50 = nI A' ∧ y_I h2 13 2 = nI o' ∧ (∀ k, k < 14 * (A' - 1) → y_I h2 2722 k = y_I h 2722 (k + 14 * d))
  ∧ (∀ j, j < 60 → j ≠ (o + A) % 60 → y_P h2 37 j = y_P h 37 j ∧ y_K h2 (64 * j + 24) = y_K h (64 * j + 24) ∧ ∀ k, y_I h2 (64 * j + 24) k = y_I h (64 * j + 24) k ∧ y_B h2 (64 * j + 24) k = y_B h (64 * j + 24) k ∧ y_P h2 (64 * j + 24) k = y_P h (64 * j + 24) k) ∧ ja h2 (A' - 1) ((o + A) % 60)
section JO
variable {h h2 : y_H} {N C S A A' o o' d : Nat}
theorem JN.k0 (J : JN h h2 A A' o o' d) {k : Nat} (hk : k + 1 < A') : y_I h2 2722 (14 * k) = y_I h 2722 (14 * (k + d)) := by
  have e := J.2.2.2.2.1 (14 * k) (by omega)
  rw [show 14 * k + 14 * d = 14 * (k + d) by omega] at e
  exact e
theorem JN.kf (J : JN h h2 A A' o o' d) {k : Nat} (hk : k + 1 < A') (f : Nat) (hf : f < 14) : y_I h2 2722 (14 * k + f) = y_I h 2722 (14 * (k + d) + f) := by
  have e := J.2.2.2.2.1 (14 * k + f) (by omega)
  rw [show 14 * k + f + 14 * d = 14 * (k + d) + f by omega] at e
  exact e
theorem RJ_act (J : JN h h2 A A' o o' d) (ho9 : o < 60) (ho : y_I h 13 2 = nI o) (rJ : RJ h A) : RJ h2 A' := by
  obtain ⟨j0, j1, j2, j3, j4, j5, j6⟩ := id J
  obtain ⟨r1, r2, r3, o1, r4, r5, r6, r7⟩ := rJ
  have eo : o1 = o := by
    rw [r5, i_eq (by omega)] at ho
    exact ho
  subst eo
  refine ⟨by omega, j1, j2, o', by omega, j3, fun k hk => ?_, fun j hj => ?_⟩
  · by_cases e : k = A' - 1
    · have e2 : (o' + k) % 60 = (o1 + A) % 60 := by omega
      rw [e2, e]
      exact j6
    · have e2 : (o' + k) % 60 = (o1 + (k + d)) % 60 := by omega
      have e3 : (o1 + (k + d)) % 60 ≠ (o1 + A) % 60 := by omega
      have z := r6 (k + d) (by omega)
      obtain ⟨q1, q2, q3⟩ := j5 ((o1 + (k + d)) % 60) (by omega) e3
      have qI := fun k => (q3 k).1
      have qB := fun k => (q3 k).2.1
      have qP := fun k => (q3 k).2.2
      have hk1 : k + 1 < A' := by omega
      rw [e2]
      simp only [ja, q1, q2, qI, qB, qP, J.k0 hk1, J.kf hk1 1 (by omega), J.kf hk1 2 (by omega), J.kf hk1 3 (by omega), J.kf hk1 4 (by omega), J.kf hk1 5 (by omega), J.kf hk1 6 (by omega), J.kf hk1 7 (by omega), J.kf hk1 8 (by omega), J.kf hk1 9 (by omega), J.kf hk1 10 (by omega), J.kf hk1 11 (by omega), J.kf hk1 12 (by omega), J.kf hk1 13 (by omega)]
      exact z
  · by_cases e : j = (o1 + A) % 60
    · rw [e]
      exact Or.inr ⟨j6.1, j6.2.1⟩
    · obtain ⟨q1, q2, -⟩ := j5 j hj e
      rw [q1, q2]
      exact r7 j hj
theorem RH_act (J : JN h h2 A A' o o' d) (ho9 : o < 60) (ho : y_I h 13 2 = nI o) (st : St h h2 C S)
    (hb : ∀ n, n < N → (if y_I h2 2722 (14 * (A' - 1) + 5) = nI n then y_I h2 2722 (14 * (A' - 1) + 6) else y_I h2 418 n) = y_I h 418 n ∧ (if y_I h2 2722 (14 * (A' - 1) + 5) = nI n then y_I h2 2722 (14 * (A' - 1) + 7) else y_I h2 482 n) = y_I h 482 n ∧ (if y_I h2 2722 (14 * (A' - 1) + 5) = nI n then y_I h2 2722 (14 * (A' - 1) + 8) else y_I h2 546 n) = y_I h 546 n ∧ (if y_I h2 2722 (14 * (A' - 1) + 5) = nI n then y_I h2 2722 (14 * (A' - 1) + 9) else y_I h2 610 n) = y_I h 610 n)
    (hc : ∀ c, c < C → (if y_I h2 2722 (14 * (A' - 1) + 1) = nI c then y_I h2 2722 (14 * (A' - 1) + 2) else y_I h2 1634 c) = y_I h 1634 c ∧ (if y_I h2 2722 (14 * (A' - 1) + 1) = nI c then y_I h2 2722 (14 * (A' - 1) + 3) else y_I h2 1698 c) = y_I h 1698 c)
    (hs : ∀ s, s < S → (if y_I h2 2722 (14 * (A' - 1) + 11) = nI s then y_I h2 2722 (14 * (A' - 1) + 12) else y_I h2 2466 s) = y_I h 2466 s ∧ (if y_I h2 2722 (14 * (A' - 1) + 11) = nI s then y_I h2 2722 (14 * (A' - 1) + 13) else y_I h2 2530 s) = y_I h 2530 s)
    (V : VB h2 N C S (y_I h2 418) (y_I h2 482) (y_I h2 546) (y_I h2 610) (y_I h2 1634) (y_I h2 1698) (y_I h2 2466))
    (K : on (y_I h2 2722 (14 * (A' - 1) + 5)) N ∧ on (y_I h2 2722 (14 * (A' - 1) + 1)) C ∧ on (y_I h2 2722 (14 * (A' - 1) + 11)) S
      ∧ (∀ n, n < N → y_I h2 2722 (14 * (A' - 1) + 5) = nI n → ∃ c, c < C ∧ y_I h2 2722 (14 * (A' - 1) + 1) = nI c ∧ y_I h 1634 c = y_I h2 1634 c ∧ (y_I h 418 n = 2 ∧ y_I h 482 n = nI c ∧ y_I h2 418 n ≠ 2 ∨ y_I h2 418 n = 2 ∧ y_I h2 482 n = nI c ∧ y_I h 418 n ≠ 2))
      ∧ (∀ c, c < C → y_I h2 2722 (14 * (A' - 1) + 1) = nI c → y_I h2 2722 (14 * (A' - 1) + 5) = -9 → y_I h 1698 c = y_I h2 1698 c)
      ∧ (∀ s, s < S → y_I h2 2722 (14 * (A' - 1) + 11) = nI s → y_P h2 (64 * ((o + A) % 60) + 24) 11 = 0 → y_I h 2466 s = y_I h2 2466 s ∧ y_I h 2530 s = y_I h2 2530 s))
    (rH : RH h N C S A) : RH h2 N C S A' := by
  obtain ⟨j0, j1, j2, j3, j4, j5, j6⟩ := id J
  have hd : A' + d = A + 1 := by omega
  have hA : 1 ≤ A' := by omega
  have kf := fun k (hk : k + 1 < A') f hf => J.kf hk f hf
  have mB : ∀ f (cur cur' : Nat → Int32) n, f < 14 → (if y_I h2 2722 (14 * (A' - 1) + 5) = nI n then y_I h2 2722 (14 * (A' - 1) + f) else cur' n) = cur n → ∀ r, r + 1 ≤ A' → oB h2 A' (r + 1) f cur' n = oB h A r f cur n := fun f cur cur' n hf q r hr => ov_more hd (fun k hk => ⟨kf k hk 5 (by omega), kf k hk f hf⟩) q r hr
  have mC : ∀ f (cur cur' : Nat → Int32) n, f < 14 → (if y_I h2 2722 (14 * (A' - 1) + 1) = nI n then y_I h2 2722 (14 * (A' - 1) + f) else cur' n) = cur n → ∀ r, r + 1 ≤ A' → oC h2 A' (r + 1) f cur' n = oC h A r f cur n := fun f cur cur' n hf q r hr => ov_more hd (fun k hk => ⟨kf k hk 1 (by omega), kf k hk f hf⟩) q r hr
  have mS : ∀ f (cur cur' : Nat → Int32) n, f < 14 → (if y_I h2 2722 (14 * (A' - 1) + 11) = nI n then y_I h2 2722 (14 * (A' - 1) + f) else cur' n) = cur n → ∀ r, r + 1 ≤ A' → oS h2 A' (r + 1) f cur' n = oS h A r f cur n := fun f cur cur' n hf q r hr => ov_more hd (fun k hk => ⟨kf k hk 11 (by omega), kf k hk f hf⟩) q r hr
  refine ⟨fun r hr => ?_, fun r hr o2 ho3 ho2 => ?_⟩
  · cases r with
    | zero => exact V
    | succ r =>
      refine VB_st st (fun n hn => ?_) (fun c hc9 => ?_) (fun s hs9 => ?_) (rH.1 r (by omega))
      · obtain ⟨b1, b2, b3, b4⟩ := hb n hn
        exact ⟨mB 6 _ _ n (by omega) b1 r hr, mB 7 _ _ n (by omega) b2 r hr, mB 8 _ _ n (by omega) b3 r hr, mB 9 _ _ n (by omega) b4 r hr⟩
      · exact ⟨mC 2 _ _ c (by omega) (hc c hc9).1 r hr, mC 3 _ _ c (by omega) (hc c hc9).2 r hr⟩
      · exact mS 12 _ _ s (by omega) (hs s hs9).1 r hr
  · have eo : o2 = o' := by
      rw [j3, i_eq (by omega)] at ho2
      exact ho2.symm
    subst eo
    cases r with
    | zero =>
      have es : (o2 + (A' - (0 + 1))) % 60 = (o + A) % 60 := by omega
      rw [es]
      obtain ⟨k1, k2, k3, k4, k5, k6⟩ := K
      refine ⟨k1, k2, k3, fun n hn z => ?_, fun c hc9 z1 z2 => ?_, fun s hs9 z1 z2 => ?_⟩
      · obtain ⟨c, hc9, g1, g2, g3⟩ := k4 n hn z
        refine ⟨c, hc9, g1, ?_, ?_⟩
        · rw [mC 2 _ _ c (by omega) (hc c hc9).1 0 (by omega)]
          exact g2
        · rw [mB 6 _ _ n (by omega) (hb n hn).1 0 (by omega), mB 7 _ _ n (by omega) (hb n hn).2.1 0 (by omega)]
          exact g3
      · rw [mC 3 _ _ c (by omega) (hc c hc9).2 0 (by omega)]
        exact k5 c hc9 z1 z2
      · rw [mS 12 _ _ s (by omega) (hs s hs9).1 0 (by omega), mS 13 _ _ s (by omega) (hs s hs9).2 0 (by omega)]
        exact k6 s hs9 z1 z2
    | succ r =>
      have hk1 : A' - (r + 1 + 1) + 1 < A' := by omega
      have ek : A' - (r + 1 + 1) + d = A - (r + 1) := by omega
      have es : (o2 + (A' - (r + 1 + 1))) % 60 = (o + (A - (r + 1))) % 60 := by omega
      have en : (o + (A - (r + 1))) % 60 ≠ (o + A) % 60 := by omega
      obtain ⟨a1, a2, a3, a4, a5, a6⟩ := rH.2 r (by omega) o ho9 ho
      have ap := ((j5 ((o + (A - (r + 1))) % 60) (by omega) en).2.2 11).2.2
      rw [es]
      unfold ak
      rw [kf _ hk1 5 (by omega), kf _ hk1 1 (by omega), kf _ hk1 11 (by omega), ek, ap]
      refine ⟨a1, a2, a3, fun n hn z => ?_, fun c hc9 z1 z2 => ?_, fun s hs9 z1 z2 => ?_⟩
      · obtain ⟨c, hc9, g1, g2, g3⟩ := a4 n hn z
        refine ⟨c, hc9, g1, ?_, ?_⟩
        · rw [mC 2 _ _ c (by omega) (hc c hc9).1 _ (by omega), mC 2 _ _ c (by omega) (hc c hc9).1 _ (by omega)]
          exact g2
        · rw [mB 6 _ _ n (by omega) (hb n hn).1 _ (by omega), mB 7 _ _ n (by omega) (hb n hn).2.1 _ (by omega), mB 6 _ _ n (by omega) (hb n hn).1 _ (by omega), mB 7 _ _ n (by omega) (hb n hn).2.1 _ (by omega)]
          exact g3
      · rw [mC 3 _ _ c (by omega) (hc c hc9).2 _ (by omega), mC 3 _ _ c (by omega) (hc c hc9).2 _ (by omega)]
        exact a5 c hc9 z1 z2
      · rw [mS 12 _ _ s (by omega) (hs s hs9).1 _ (by omega), mS 13 _ _ s (by omega) (hs s hs9).2 _ (by omega), mS 12 _ _ s (by omega) (hs s hs9).1 _ (by omega), mS 13 _ _ s (by omega) (hs s hs9).2 _ (by omega)]
        exact a6 s hs9 z1 z2
end JO
