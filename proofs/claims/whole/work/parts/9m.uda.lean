/-! undo: what the state before the latest act is -/
section UA
variable {h hf X : y_H} {t e N C S A n c s r : Nat} {P : Nat → Nat → Prop} {Q : Nat → Prop}
theorem ov_u {key val : Nat → Int32} {i cur : Int32} : ∀ r, r + 1 ≤ A → ov key val i (ov key val i cur A 1) (A - 1) r = ov key val i cur A (r + 1)
  | 0, _ => rfl
  | r + 1, hr => by
    have ih := ov_u (key := key) (val := val) (i := i) (cur := cur) r (by omega)
    show (if key (A - 1 - (r + 1)) = i then val (A - 1 - (r + 1)) else ov key val i (ov key val i cur A 1) (A - 1) r) = if key (A - (r + 1 + 1)) = i then val (A - (r + 1 + 1)) else ov key val i cur A (r + 1)
    rw [ih, show A - 1 - (r + 1) = A - (r + 1 + 1) by omega]
theorem RH_undo (hA : 1 ≤ A) (st : St h hf C S) (ek : y_I hf 2722 = y_I h 2722) (eo : y_I hf 13 2 = y_I h 13 2) (es : ∀ j, y_P hf (64 * j + 24) 11 = y_P h (64 * j + 24) 11) (hb : ∀ n, n < N → y_I hf 418 n = oB h A 1 6 (y_I h 418) n ∧ y_I hf 482 n = oB h A 1 7 (y_I h 482) n ∧ y_I hf 546 n = oB h A 1 8 (y_I h 546) n ∧ y_I hf 610 n = oB h A 1 9 (y_I h 610) n) (hc : ∀ c, c < C → y_I hf 1634 c = oC h A 1 2 (y_I h 1634) c ∧ y_I hf 1698 c = oC h A 1 3 (y_I h 1698) c) (hs : ∀ s, s < S → y_I hf 2466 s = oS h A 1 12 (y_I h 2466) s ∧ y_I hf 2530 s = oS h A 1 13 (y_I h 2530) s) (rH : RH h N C S A) : RH hf N C S (A - 1) := by
  have eB : ∀ f cur cur' n r, r + 1 ≤ A → cur' n = oB h A 1 f cur n → oB hf (A - 1) r f cur' n = oB h A (r + 1) f cur n := fun f cur cur' n r hr z => by
    unfold oB at z ⊢
    rw [ek, z]
    exact ov_u r hr
  have eC : ∀ f cur cur' n r, r + 1 ≤ A → cur' n = oC h A 1 f cur n → oC hf (A - 1) r f cur' n = oC h A (r + 1) f cur n := fun f cur cur' n r hr z => by
    unfold oC at z ⊢
    rw [ek, z]
    exact ov_u r hr
  have eS : ∀ f cur cur' n r, r + 1 ≤ A → cur' n = oS h A 1 f cur n → oS hf (A - 1) r f cur' n = oS h A (r + 1) f cur n := fun f cur cur' n r hr z => by
    unfold oS at z ⊢
    rw [ek, z]
    exact ov_u r hr
  refine ⟨fun r hr => ?_, fun r hr o ho9 ho => ?_⟩
  · exact VB_st st (fun n hn => ⟨eB _ _ _ n r (by omega) (hb n hn).1, eB _ _ _ n r (by omega) (hb n hn).2.1, eB _ _ _ n r (by omega) (hb n hn).2.2.1, eB _ _ _ n r (by omega) (hb n hn).2.2.2⟩) (fun c hc9 => ⟨eC _ _ _ c r (by omega) (hc c hc9).1, eC _ _ _ c r (by omega) (hc c hc9).2⟩) (fun s hs9 => eS _ _ _ s r (by omega) (hs s hs9).1) (rH.1 (r + 1) (by omega))
  · rw [eo] at ho
    obtain ⟨a1, a2, a3, a4, a5, a6⟩ := rH.2 (r + 1) (by omega) o ho9 ho
    have ei : A - 1 - (r + 1) = A - (r + 1 + 1) := by omega
    unfold ak
    rw [ei, ek]
    refine ⟨a1, a2, a3, fun n hn z => ?_, fun c hc9 z z2 => ?_, fun s hs9 z z2 => ?_⟩
    · obtain ⟨c, hc9, b1, b2, b3⟩ := a4 n hn z
      refine ⟨c, hc9, b1, ?_, ?_⟩
      · rw [eC _ _ _ c (r + 1) (by omega) (hc c hc9).1, eC _ _ _ c r (by omega) (hc c hc9).1]
        exact b2
      · rw [eB _ _ _ n (r + 1) (by omega) (hb n hn).1, eB _ _ _ n (r + 1) (by omega) (hb n hn).2.1, eB _ _ _ n r (by omega) (hb n hn).1, eB _ _ _ n r (by omega) (hb n hn).2.1]
        exact b3
    · rw [eC _ _ _ c (r + 1) (by omega) (hc c hc9).2, eC _ _ _ c r (by omega) (hc c hc9).2]
      exact a5 c hc9 z z2
    · rw [es] at z2
      rw [eS _ _ _ s (r + 1) (by omega) (hs s hs9).1, eS _ _ _ s r (by omega) (hs s hs9).1, eS _ _ _ s (r + 1) (by omega) (hs s hs9).2, eS _ _ _ s r (by omega) (hs s hs9).2]
      exact a6 s hs9 z z2
theorem RJ_undo (hA : 1 ≤ A) (e1 : y_I hf 13 3 = nI (A - 1)) (e2 : y_I hf 11 50 = nI (A - 1)) (eo : y_I hf 13 2 = y_I h 13 2) (ek : y_I hf 2722 = y_I h 2722) (ep : y_P hf 37 = y_P h 37) (eK : ∀ j, y_K hf (64 * j + 24) = y_K h (64 * j + 24)) (eI : ∀ j k, y_I hf (64 * j + 24) k = y_I h (64 * j + 24) k) (eB : ∀ j k, y_B hf (64 * j + 24) k = y_B h (64 * j + 24) k) (eP : ∀ j k, y_P hf (64 * j + 24) k = y_P h (64 * j + 24) k) (rJ : RJ h A) : RJ hf (A - 1) := by
  obtain ⟨j1, j2, j3, o, j4, j5, j6, j7⟩ := rJ
  refine ⟨by omega, e1, e2, o, j4, by rw [eo]; exact j5, fun k hk => ?_, fun j hj => ?_⟩
  · unfold ja
    rw [ep, eK, ek]
    simp only [eI, eB, eP]
    exact j6 k (by omega)
  · rw [ep, eK]
    exact j7 j hj
theorem RB_up (g : ag P Q h hf) (cc : ∀ a k, P a k → FRB a k → (a % 64 = 20 ∧ 6 ≤ k ∧ k ≤ 10 ∨ (a = 418 ∨ a = 482 ∨ a = 546 ∨ a = 610 ∨ a = 354))) (d : ∀ a, Q a → ¬ GRB a) (v : ∀ n, n < N → y_I hf (64 * n + 20) 6 = y_I hf 418 n ∧ y_I hf (64 * n + 20) 7 = y_I hf 482 n ∧ y_I hf (64 * n + 20) 8 = y_I hf 546 n ∧ y_I hf (64 * n + 20) 9 = y_I hf 610 n ∧ y_B hf (64 * n + 20) 10 = y_B hf 354 n) (rB : RB h N) : RB hf N := by
  have eI : ∀ a k, FRB a k → ¬ (a % 64 = 20 ∧ 6 ≤ k ∧ k ≤ 10 ∨ (a = 418 ∨ a = 482 ∨ a = 546 ∨ a = 610 ∨ a = 354)) → y_I hf a k = y_I h a k := fun a k q z => g.I fun p => z (cc a k p q)
  have eP : ∀ a k, FRB a k → ¬ (a % 64 = 20 ∧ 6 ≤ k ∧ k ≤ 10 ∨ (a = 418 ∨ a = 482 ∨ a = 546 ∨ a = 610 ∨ a = 354)) → y_P hf a k = y_P h a k := fun a k q z => g.P fun p => z (cc a k p q)
  have eK : ∀ a, GRB a → y_K hf a = y_K h a := fun a q => g.K fun z => d a z q
  simp only [FRB, GRB] at eI eP eK
  obtain ⟨b1, b2, b3, b4, b5⟩ := rB
  refine ⟨b1, (eI _ _ (by omega) (by omega)).trans b2, (eI _ _ (by omega) (by omega)).trans b3, fun m hm => ?_, fun m hm => ?_⟩
  · obtain ⟨⟨x1, x2, x3, x4, x5, x6, x7, x8, x9, x10, x11, x12, x13, x14, x15⟩, z⟩ := b4 m hm
    obtain ⟨v1, v2, v3, v4, v5⟩ := v m hm
    refine ⟨⟨?_, ?_, ?_, ?_, ?_, ?_, ?_, ?_, v1, v2, v3, v4, v5, ?_, ?_⟩, ?_⟩
    · rw [eP 35 m (by omega) (by omega)]; exact x1
    · rw [eK _ (by omega)]; exact x2
    · rw [eI _ 0 (by omega) (by omega)]; exact x3
    · rw [eI (64 * m + 20) 1 (by omega) (by omega), eI 34 m (by omega) (by omega)]; exact x4
    · rw [eI (64 * m + 20) 2 (by omega) (by omega), eI 98 m (by omega) (by omega)]; exact x5
    · rw [eI (64 * m + 20) 3 (by omega) (by omega), eI 162 m (by omega) (by omega)]; exact x6
    · rw [eI (64 * m + 20) 4 (by omega) (by omega), eI 226 m (by omega) (by omega)]; exact x7
    · rw [eI (64 * m + 20) 5 (by omega) (by omega), eI 290 m (by omega) (by omega)]; exact x8
    · rw [eI (64 * m + 20) 11 (by omega) (by omega), eI 674 m (by omega) (by omega)]; exact x14
    · rw [eI (64 * m + 20) 12 (by omega) (by omega), eI (64 * m + 20) 13 (by omega) (by omega), eI (64 * m + 20) 14 (by omega) (by omega), eI 674 m (by omega) (by omega), eI 738 m (by omega) (by omega), eI 802 m (by omega) (by omega), eI 866 m (by omega) (by omega)]
      exact x15
    · unfold bv at z ⊢
      rw [eI 34 m (by omega) (by omega), eI 98 m (by omega) (by omega), eI 162 m (by omega) (by omega), eI 226 m (by omega) (by omega), eI 290 m (by omega) (by omega)]
      exact z
  · rw [eP 35 m (by omega) (by omega), eK _ (by omega), eI _ 0 (by omega) (by omega)]
    exact b5 m hm
theorem RC_up (g : ag P Q h hf) (cc : ∀ a k, P a k → FRC a k → (a % 64 = 21 ∧ (k = 3 ∨ k = 4 ∨ k = 5) ∨ (a = 1634 ∨ a = 1698 ∨ a = 1762))) (d : ∀ a, Q a → ¬ GRC a) (v : ∀ c, c < C → y_I hf (64 * c + 21) 3 = y_I hf 1634 c ∧ rg (y_I hf 1634 c) 0 9 ∧ y_P hf (64 * c + 21) 4 = pB (y_I hf 1698 c) ∧ y_I hf (64 * c + 21) 5 = y_I hf 1762 c) (rC : RC h C) : RC hf C := by
  have eI : ∀ a k, FRC a k → ¬ (a % 64 = 21 ∧ (k = 3 ∨ k = 4 ∨ k = 5) ∨ (a = 1634 ∨ a = 1698 ∨ a = 1762)) → y_I hf a k = y_I h a k := fun a k q z => g.I fun p => z (cc a k p q)
  have eB : ∀ a k, FRC a k → ¬ (a % 64 = 21 ∧ (k = 3 ∨ k = 4 ∨ k = 5) ∨ (a = 1634 ∨ a = 1698 ∨ a = 1762)) → y_B hf a k = y_B h a k := fun a k q z => g.B fun p => z (cc a k p q)
  have eP : ∀ a k, FRC a k → ¬ (a % 64 = 21 ∧ (k = 3 ∨ k = 4 ∨ k = 5) ∨ (a = 1634 ∨ a = 1698 ∨ a = 1762)) → y_P hf a k = y_P h a k := fun a k q z => g.P fun p => z (cc a k p q)
  have eK : ∀ a, GRC a → y_K hf a = y_K h a := fun a q => g.K fun z => d a z q
  simp only [FRC, GRC] at eI eB eP eK
  obtain ⟨b1, b2, b3, b4, b5⟩ := rC
  refine ⟨b1, (eI _ _ (by omega) (by omega)).trans b2, (eI _ _ (by omega) (by omega)).trans b3, fun c hc => ?_, fun c hc => ?_⟩
  · obtain ⟨⟨x1, x2, x3, x4, x5, x6, x7, x8, x9, x10⟩, z⟩ := b4 c hc
    obtain ⟨v1, v2, v3, v4⟩ := v c hc
    refine ⟨⟨?_, ?_, ?_, ?_, ?_, v1, v3, v4, ?_, ?_⟩, ?_, v2⟩
    · rw [eP 163 c (by omega) (by omega)]; exact x1
    · rw [eK _ (by omega)]; exact x2
    · rw [eI _ 0 (by omega) (by omega)]; exact x3
    · rw [eI (64 * c + 21) 1 (by omega) (by omega), eI 1506 c (by omega) (by omega)]; exact x4
    · rw [eI (64 * c + 21) 2 (by omega) (by omega), eI 1570 c (by omega) (by omega)]; exact x5
    · rw [eI (64 * c + 21) 6 (by omega) (by omega), eI 1826 c (by omega) (by omega)]; exact x9
    · rw [eB (64 * c + 21) 7 (by omega) (by omega)]; exact x10
    · have z1 := z.1
      rw [eI 1506 c (by omega) (by omega), eI 1570 c (by omega) (by omega)]
      exact z1
  · rw [eP 163 c (by omega) (by omega), eK _ (by omega), eI _ 0 (by omega) (by omega)]
    exact b5 c hc
theorem RS_up (g : ag P Q h hf) (cc : ∀ a k, P a k → FRS a k → (a % 64 = 25 ∨ a = 2210 ∨ a % 64 = 22 ∧ (k = 12 ∨ k = 13) ∨ (a = 2466 ∨ a = 2530))) (d : ∀ a, Q a → ¬ GRS a) (v : ∀ s, s < S → y_I hf (64 * s + 22) 12 = y_I hf 2466 s ∧ y_I hf (64 * s + 22) 13 = y_I hf 2530 s ∧ ∀ k, k < 54 → y_P hf (64 * s + 25) k = pB (y_I hf 2210 (54 * s + k))) (rS : RS h S) : RS hf S := by
  have eI : ∀ a k, FRS a k → ¬ (a % 64 = 25 ∨ a = 2210 ∨ a % 64 = 22 ∧ (k = 12 ∨ k = 13) ∨ (a = 2466 ∨ a = 2530)) → y_I hf a k = y_I h a k := fun a k q z => g.I fun p => z (cc a k p q)
  have eP : ∀ a k, FRS a k → ¬ (a % 64 = 25 ∨ a = 2210 ∨ a % 64 = 22 ∧ (k = 12 ∨ k = 13) ∨ (a = 2466 ∨ a = 2530)) → y_P hf a k = y_P h a k := fun a k q z => g.P fun p => z (cc a k p q)
  have eK : ∀ a, GRS a → y_K hf a = y_K h a := fun a q => g.K fun z => d a z q
  have eN : ∀ a, GRS a → y_N hf a = y_N h a := fun a q => g.N fun z => d a z q
  simp only [FRS, GRS] at eI eP eK eN
  obtain ⟨s1, s2, s3, s4, s5⟩ := rS
  refine ⟨s1, (eI _ _ (by omega) (by omega)).trans s2, (eI _ _ (by omega) (by omega)).trans s3, fun s' hs' => ?_, fun s' hs' => ?_⟩
  · obtain ⟨⟨x1, x2, x3, x4, x5, x6, x7, x8, x9, x10, x11⟩, z⟩ := s4 s' hs'
    obtain ⟨v1, v2, v3⟩ := v s' hs'
    refine ⟨⟨?_, ?_, ?_, ?_, ?_, ?_, v1, v2, fun k hk => ?_, fun k hk => ?_, v3⟩, ?_⟩
    · unfold sshape at x1 ⊢
      simp (disch := omega) only [eI, eP, eK, eN]
      exact x1
    · rw [eI (64 * s' + 22) 8 (by omega) (by omega), eI 1954 s' (by omega) (by omega)]; exact x2
    · rw [eI (64 * s' + 22) 9 (by omega) (by omega), eI 2018 s' (by omega) (by omega)]; exact x3
    · rw [eI (64 * s' + 22) 10 (by omega) (by omega), eI 2082 s' (by omega) (by omega)]; exact x4
    · rw [eI (64 * s' + 22) 11 (by omega) (by omega), eI 2146 s' (by omega) (by omega)]; exact x5
    · rw [eI (64 * s' + 22) 7 (by omega) (by omega), eI 2402 s' (by omega) (by omega)]; exact x6
    · rw [eI (64 * s' + 28) k (by omega) (by omega), eI 2274 (3 * s' + k) (by omega) (by omega)]
      exact x9 k hk
    · rw [eI (64 * s' + 29) k (by omega) (by omega), eI 2338 (8 * s' + k) (by omega) (by omega), eI 2402 s' (by omega) (by omega)]
      exact x10 k hk
    · unfold sv at z ⊢
      simp (disch := omega) only [eI]
      exact z
  · simp (disch := omega) only [snone, sshape, eI, eP, eK, eN]
    exact s5 s' hs'
end UA
