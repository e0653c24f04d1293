/-! an act that moves box n between crane c and a place: side by side again -/
def PX (c n a k : Nat) : Prop := a = 16 ∨ a = 40 ∨ a = 10 ∨ a = 13 ∨ a = 37 ∨ a % 64 = 24 ∨ a = 2594 ∨ a = 2722 ∨ a % 64 = 32 ∨ a % 64 = 33 ∨ a % 64 = 25 ∨ a % 64 = 26 ∨ a % 64 = 27 ∨ a = 1314 ∨ a = 1378 ∨ a = 2210 ∨ a = 2466 ∨ a = 2530
  ∨ a = 11 ∧ 46 ≤ k ∧ k ≤ 50 ∧ k ≠ 48 ∨ a = 64 * c + 21 ∧ (3 ≤ k ∧ k ≤ 7 ∧ k ≠ 6) ∨ a = 64 * n + 20 ∧ 6 ≤ k ∧ k ≤ 10 ∨ (a = 418 ∨ a = 482 ∨ a = 546 ∨ a = 610 ∨ a = 354) ∧ k = n ∨ (a = 1634 ∨ a = 1698 ∨ a = 1762) ∧ k = c ∨ a % 64 = 22 ∧ (k = 4 ∨ k = 12 ∨ k = 13)
section TB
variable {h G hf : y_H} {t e N C S A A0 d o o' c n : Nat} {is ic ib : Int32}
theorem KQ.base (kq : KQ G hf A A0 d ic ib is) (m : MM h G) : KQ h hf A A0 d ic ib is := by
  obtain ⟨q1, q2, q3, q4, q5, q6, q7, q8, q9, q10⟩ := kq
  refine ⟨q1, q2, fun k hk => ?_, ?_, q5, q6, q7, fun c hc z => ?_, fun n hn z => ?_, fun s hs z => ?_⟩
  · rw [q3 k hk, m.I (by omega)]
  · rw [q4, m.I (by omega)]
  · obtain ⟨z1, z2, z3⟩ := q8 c hc z
    rw [m.I (by omega)] at z1 z2 z3
    exact ⟨z1, z2, z3⟩
  · obtain ⟨z1, z2, z3, z4, z5⟩ := q9 n hn z
    rw [m.I (by omega)] at z1 z2 z3 z4
    rw [m.B (by omega)] at z5
    exact ⟨z1, z2, z3, z4, z5⟩
  · obtain ⟨z1, z2⟩ := q10 s hs z
    rw [m.I (by omega)] at z1 z2
    exact ⟨z1, z2⟩
theorem RM_act (g : ag (PX c n) (fun a => a % 64 = 24) h hf) (v10 : y_I hf 10 6 = 0) (v47 : y_I hf 11 47 = 0) (v134 : y_I hf 13 4 = y_I h 11 49 + 1) (v49 : y_I hf 11 49 = y_I h 11 49 + 1) (rM : RM h) : RM hf := by
  obtain ⟨m1, m2, m3, m4, m5, m6, m7, m8⟩ := rM
  have r1 := g.rI (a := 36) (fun k q => by simp only [PX] at q; omega)
  have r2 := g.rI (a := 2658) (fun k q => by simp only [PX] at q; omega)
  have r3 := g.rI (a := 355) (fun k q => by simp only [PX] at q; omega)
  have r4 := g.rI (a := 1442) (fun k q => by simp only [PX] at q; omega)
  have r5 := g.rI (a := 291) (fun k q => by simp only [PX] at q; omega)
  have r6 := g.rI (a := 1890) (fun k q => by simp only [PX] at q; omega)
  have r7 := g.rI (a := 100) (fun k q => by simp only [PX] at q; omega)
  have i1 : y_I hf 12 9 = y_I h 12 9 := g.I (fun q => by simp only [PX] at q; omega)
  have i2 : y_I hf 11 33 = y_I h 11 33 := g.I (fun q => by simp only [PX] at q; omega)
  have i3 : y_I hf 11 52 = y_I h 11 52 := g.I (fun q => by simp only [PX] at q; omega)
  have i4 : y_I hf 11 53 = y_I h 11 53 := g.I (fun q => by simp only [PX] at q; omega)
  have i5 : y_I hf 11 54 = y_I h 11 54 := g.I (fun q => by simp only [PX] at q; omega)
  simp only [RM, r1, r2, r3, r4, r5, r6, r7, i1, i2, i3, i4, i5, v10, v47, v134, v49]
  exact ⟨trivial, m2, m3, trivial, m5, m6, m7, m8⟩
theorem rel_box (R : RelP h t e N C S A) (hc : c < C) (hn : n < N) (ho9 : o < 60) (ho : y_I h 13 2 = nI o) (wf : Sh hf) (g : ag (PX c n) (fun a => a % 64 = 24) h hf) (J : JN h hf A (A0 + 1) o o' d) (kq : KQ h hf A A0 d (nI c) (nI n) is)
    (rT : RT hf) (v10 : y_I hf 10 6 = 0) (v47 : y_I hf 11 47 = 0) (v134 : y_I hf 13 4 = y_I h 11 49 + 1) (v49 : y_I hf 11 49 = y_I h 11 49 + 1)
    (vB : y_I hf (64 * n + 20) 6 = y_I hf 418 n ∧ y_I hf (64 * n + 20) 7 = y_I hf 482 n ∧ y_I hf (64 * n + 20) 8 = y_I hf 546 n ∧ y_I hf (64 * n + 20) 9 = y_I hf 610 n ∧ y_B hf (64 * n + 20) 10 = y_B hf 354 n)
    (vC : y_I hf (64 * c + 21) 3 = y_I hf 1634 c ∧ y_I hf 1634 c = y_I h 1634 c ∧ y_P hf (64 * c + 21) 4 = pB (y_I hf 1698 c) ∧ y_I hf (64 * c + 21) 5 = y_I hf 1762 c ∧ y_B hf (64 * c + 21) 7 = true)
    (rS : RS hf S) (rV : RV hf) (rP : RP hf N C S) (V : VB hf N C S (y_I hf 418) (y_I hf 482) (y_I hf 546) (y_I hf 610) (y_I hf 1634) (y_I hf 1698) (y_I hf 2466))
    (K4 : y_I h 418 n = 2 ∧ y_I h 482 n = nI c ∧ y_I hf 418 n ≠ 2 ∨ y_I hf 418 n = 2 ∧ y_I hf 482 n = nI c ∧ y_I h 418 n ≠ 2) (ois : on is S) (hss : ∀ s, s < S → is ≠ nI s → y_I hf 2466 s = y_I h 2466 s ∧ y_I hf 2530 s = y_I h 2530 s)
    (shp : ∀ s, s < S → is = nI s → y_P hf (64 * ((o + A) % 60) + 24) 11 = 0 → y_I h 2466 s = y_I hf 2466 s ∧ y_I h 2530 s = y_I hf 2530 s) : RelP hf t e N C S (A0 + 1) := by
  obtain ⟨w, -, rM, rB, rC, -, -, rL, rJ, -, rH, rD, rQ, rK⟩ := R
  have hN := rB.1
  have hC := rC.1
  obtain ⟨kq1, kq2, kq3, kq4, kq5, kq6, kq7, kq8, kq9, kq10⟩ := id kq
  obtain ⟨kc2, kc3, kc4⟩ := kq8 c (by omega) rfl
  obtain ⟨kb6, kb7, kb8, kb9, kb10⟩ := kq9 n (by omega) rfl
  have eA : A0 + 1 - 1 = A0 := by omega
  have eI : ∀ a k, ¬ PX c n a k → y_I hf a k = y_I h a k := g.aI
  have st : St h hf C S := ⟨fun b hb hl => ⟨(g.B (fun q => by simp only [PX] at q; omega)).trans hl, g.I (fun q => by simp only [PX] at q; omega), fun s hs => g.I (fun q => by simp only [PX] at q; omega)⟩, fun s hs => ⟨g.I (fun q => by simp only [PX] at q; omega), g.I (fun q => by simp only [PX] at q; omega), g.I (fun q => by simp only [PX] at q; omega), fun q h8 hq => ⟨q, Nat.le_refl _, h8, (g.I (fun q => by simp only [PX] at q; omega)).trans hq⟩⟩, fun d hd => g.I (fun q => by simp only [PX] at q; omega), fun g' hg' => g.I (fun q => by simp only [PX] at q; omega)⟩
  have rgp : rg (y_I hf 1634 c) 0 9 := by
    rw [vC.2.1]
    exact (rC.2.2.2.1 c hc).2.2
  refine ⟨wf, rT, RM_act g v10 v47 v134 v49 rM, RB_mv g (fun a k q z => by simp only [PX] at q; simp only [FRB] at z; omega) (fun a q => by simp only [GRB]; omega) vB rB, RC_mv g (fun a k q z => by simp only [PX] at q; simp only [FRC] at z; omega) (fun a q => by simp only [GRC]; omega) ⟨vC.1, rgp, vC.2.2⟩ rC, rS, rV, (RLn_ag g (by intro a k q; (simp only [FRLn, PX] at q ⊢) <;> omega) (by intro a q; (simp only [GRLn, PX, not_false_eq_true] at q ⊢) <;> omega) rL), RJ_act J ho9 ho rJ, rP, ?_, (RD_ag g (by intro a k q; (simp only [FRD, PX] at q ⊢) <;> omega) (by intro a q; (simp only [GRD, PX, not_false_eq_true] at q ⊢) <;> omega) rD), (RQ_ag g (by intro a k q; (simp only [FRQ, PX] at q ⊢) <;> omega) (by intro a q; (simp only [GRQ, PX, not_false_eq_true] at q ⊢) <;> omega) rQ), (RK_ag g (by intro a k q; (simp only [FRK, PX] at q ⊢) <;> omega) (by intro a q; (simp only [GRK, PX, not_false_eq_true] at q ⊢) <;> omega) rK)⟩
  refine RH_act J ho9 ho st (fun m hm => ?_) (fun d hd => ?_) (fun s hs => ?_) V ?_ rH
  · rw [eA, kq6]
    by_cases em : m = n
    · rw [em, if_pos rfl, if_pos rfl, if_pos rfl, if_pos rfl]
      exact ⟨kb6, kb7, kb8, kb9⟩
    · have : ¬ nI n = nI m := by
        rw [i_eq (by omega)]
        omega
      rw [if_neg this, if_neg this, if_neg this, if_neg this]
      exact ⟨g.I (fun q => by simp only [PX] at q; omega), g.I (fun q => by simp only [PX] at q; omega), g.I (fun q => by simp only [PX] at q; omega), g.I (fun q => by simp only [PX] at q; omega)⟩
  · rw [eA, kq5]
    by_cases ed : d = c
    · rw [ed, if_pos rfl, if_pos rfl]
      exact ⟨kc2, kc3⟩
    · have : ¬ nI c = nI d := by
        rw [i_eq (by omega)]
        omega
      rw [if_neg this, if_neg this]
      exact ⟨g.I (fun q => by simp only [PX] at q; omega), g.I (fun q => by simp only [PX] at q; omega)⟩
  · rw [eA, kq7]
    by_cases es : is = nI s
    · rw [if_pos es, if_pos es]
      exact kq10 s (by have := rS.1; omega) es
    · rw [if_neg es, if_neg es]
      exact hss s hs es
  · rw [eA, kq5, kq6, kq7]
    refine ⟨Or.inr ⟨n, hn, rfl⟩, Or.inr ⟨c, hc, rfl⟩, ois, fun m hm z => ?_, fun d hd z1 z2 => ?_, shp⟩
    · rw [i_eq (by omega)] at z
      subst z
      exact ⟨c, hc, rfl, vC.2.1.symm, K4⟩
    · rw [i_ne9 (by omega)] at z2
      exact z2.elim
end TB
