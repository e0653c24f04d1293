/-! an act more in both journals -/
def NT (h hN : y_H) (A o pb pc ps : Nat) : Prop := y_P hN 37 ((o + A) % 60) = 64 * ((o + A) % 60) + 24 ∧ y_K hN (64 * ((o + A) % 60) + 24) = 1 ∧ y_I hN 13 4 = y_I h 13 4 + 1 ∧ y_I hN 13 2 = nI (if A = 60 then (o + 1) % 60 else o) ∧ y_I hN 13 3 = nI (if A = 60 then 60 else A + 1)
    ∧ y_I hN (64 * ((o + A) % 60) + 24) 0 = y_I h 13 4 + 1 ∧ y_P hN (64 * ((o + A) % 60) + 24) 1 = pb ∧ y_P hN (64 * ((o + A) % 60) + 24) 7 = pc ∧ y_P hN (64 * ((o + A) % 60) + 24) 11 = ps
    ∧ (pb ≠ 0 → y_I hN (64 * ((o + A) % 60) + 24) 2 = y_I h pb 6 ∧ y_I hN (64 * ((o + A) % 60) + 24) 3 = y_I h pb 7 ∧ y_I hN (64 * ((o + A) % 60) + 24) 4 = y_I h pb 8 ∧ y_I hN (64 * ((o + A) % 60) + 24) 5 = y_I h pb 9 ∧ y_B hN (64 * ((o + A) % 60) + 24) 6 = y_B h pb 10)
    ∧ (pc ≠ 0 → y_I hN (64 * ((o + A) % 60) + 24) 8 = y_I h pc 3 ∧ y_I hN (64 * ((o + A) % 60) + 24) 9 = (if y_P h pc 4 = 0 then -1 else y_I h (y_P h pc 4) 0) ∧ y_I hN (64 * ((o + A) % 60) + 24) 10 = y_I h pc 5)
    ∧ (ps ≠ 0 → y_I hN (64 * ((o + A) % 60) + 24) 12 = y_I h ps 12 ∧ y_I hN (64 * ((o + A) % 60) + 24) 13 = y_I h ps 13)
    ∧ ∀ j, j ≠ (o + A) % 60 → y_P hN 37 j = y_P h 37 j ∧ y_K hN (64 * j + 24) = y_K h (64 * j + 24) ∧ ∀ k, y_I hN (64 * j + 24) k = y_I h (64 * j + 24) k ∧ y_B hN (64 * j + 24) k = y_B h (64 * j + 24) k ∧ y_P hN (64 * j + 24) k = y_P h (64 * j + 24) k
section AC
variable {h hN hf hx hy hk hl : y_H} {t e N C S A A0 d o pb pc ps c0 s0 : Nat} {ic ib is : Int32} {P : Nat → Nat → Prop} {Q : Nat → Prop}
theorem c_noteN (w : Sh h) (rJ : RJ h A) (ho9 : o < 60) (ho : y_I h 13 2 = nI o) (hb : pb ≠ 0 → y_K h pb = 3) (hc : pc ≠ 0 → y_K h pc = 4 ∧ (y_P h pc 4 ≠ 0 → y_K h (y_P h pc 4) = 3)) (hs : ps ≠ 0 → y_K h ps = 8) : ∃ hN c1 s1, f_X5_note 13 pb pc ps c0 s0 h = some (((), c1, s1), hN) ∧ c1 ≤ c0 + 1 ∧ s1 ≤ s0 + 14
    ∧ ag (fun a k => a = 13 ∧ (k = 2 ∨ k = 3 ∨ k = 4) ∨ a = 37 ∨ a % 64 = 24) (fun a => a % 64 = 24) h hN ∧ NT h hN A o pb pc ps := by
  obtain ⟨hN, c1, s1, f1, f2, f3, f4, g1, g2, g3, g4, g5, g6, g7, g8, g9, g10, g11, g12⟩ := c_note (c0 := c0) (s0 := s0) w rJ ho9 ho hb hc hs
  refine ⟨hN, c1, s1, f1, f2, f3, f4.mono (fun a k q => by first | omega | (dsimp only at q ⊢; omega)) (fun a q => by first | omega | (dsimp only at q ⊢; omega)), g1, g2, g3, g4, g5, g6, g7, g8, g9, g10, g11, g12, fun j hj => ⟨f4.P (by first | omega | (dsimp only; omega)), f4.K (by first | omega | (dsimp only; omega)), fun k => ⟨f4.I (by first | omega | (dsimp only; omega)), f4.B (by first | omega | (dsimp only; omega)), f4.P (by first | omega | (dsimp only; omega))⟩⟩⟩
theorem NT.ag (n : NT h hN A o pb pc ps) (g : ag P Q hN hf) (c : ∀ a k, P a k → ¬ (a = 13 ∧ (k = 2 ∨ k = 3 ∨ k = 4) ∨ a = 37 ∨ a % 64 = 24)) (d : ∀ a, Q a → ¬ a % 64 = 24) : NT h hf A o pb pc ps := by
  have eI : ∀ a k, (a = 13 ∧ (k = 2 ∨ k = 3 ∨ k = 4) ∨ a = 37 ∨ a % 64 = 24) → y_I hf a k = y_I hN a k := fun a k q => g.I fun z => c a k z q
  have eB : ∀ a k, (a = 13 ∧ (k = 2 ∨ k = 3 ∨ k = 4) ∨ a = 37 ∨ a % 64 = 24) → y_B hf a k = y_B hN a k := fun a k q => g.B fun z => c a k z q
  have eP : ∀ a k, (a = 13 ∧ (k = 2 ∨ k = 3 ∨ k = 4) ∨ a = 37 ∨ a % 64 = 24) → y_P hf a k = y_P hN a k := fun a k q => g.P fun z => c a k z q
  have eK : ∀ a, a % 64 = 24 → y_K hf a = y_K hN a := fun a q => g.K fun z => d a z q
  unfold NT at n ⊢
  simp (disch := omega) only [eI, eB, eP, eK]
  exact n
/-- what the model keeps of the act, once it is done -/
def KQ (h hf : y_H) (A A0 d : Nat) (ic ib is : Int32) : Prop := (A < 60 ∧ A0 = A ∧ d = 0 ∨ A = 60 ∧ A0 = 59 ∧ d = 1) ∧ y_I hf 11 50 = nI (A0 + 1) ∧ (∀ k, k < 14 * A0 → y_I hf 2722 k = y_I h 2722 (k + 14 * d)) ∧ y_I hf 2722 (14 * A0) = y_I h 11 49 + 1 ∧ y_I hf 2722 (14 * A0 + 1) = ic ∧ y_I hf 2722 (14 * A0 + 5) = ib ∧ y_I hf 2722 (14 * A0 + 11) = is
  ∧ (∀ c, c < 12 → ic = nI c → y_I hf 2722 (14 * A0 + 2) = y_I h 1634 c ∧ y_I hf 2722 (14 * A0 + 3) = y_I h 1698 c ∧ y_I hf 2722 (14 * A0 + 4) = y_I h 1762 c)
  ∧ (∀ n, n < 80 → ib = nI n → y_I hf 2722 (14 * A0 + 6) = y_I h 418 n ∧ y_I hf 2722 (14 * A0 + 7) = y_I h 482 n ∧ y_I hf 2722 (14 * A0 + 8) = y_I h 546 n ∧ y_I hf 2722 (14 * A0 + 9) = y_I h 610 n ∧ y_I hf 2722 (14 * A0 + 10) = y_z (y_B h 354 n))
  ∧ (∀ s, s < 3 → is = nI s → y_I hf 2722 (14 * A0 + 12) = y_I h 2466 s ∧ y_I hf 2722 (14 * A0 + 13) = y_I h 2530 s)
theorem m_doneK (wl : Sh hl) (kp : KP h hk A ic ib is) (g : ag P (fun _ => False) hk hl) (c : ∀ a k, P a k → ¬ (a = 2722 ∨ a = 11)) : ∃ A0 d hf, f_X12_done 11 hl = some (y_I h 11 49 + 1, hf) ∧ ag (fun a k => a = 2722 ∨ a = 11 ∧ (k = 47 ∨ k = 49 ∨ k = 50)) (fun _ => False) hl hf ∧ y_I hf 11 49 = y_I h 11 49 + 1 ∧ y_I hf 11 47 = 0 ∧ KQ h hf A A0 d ic ib is := by
  obtain ⟨A0, d, k1, k2, k3, k4, k5, k6, k7, k8, k9, k10⟩ := kp
  have e50 : y_I hl 11 50 = nI A0 := (g.I fun q => c _ _ q (Or.inr rfl)).trans k2
  have e49 : y_I hl 11 49 = y_I h 11 49 := (g.I fun q => c _ _ q (Or.inr rfl)).trans (k3.I (by first | omega | (dsimp only; omega)))
  have f : ∀ k, y_I hl 2722 k = y_I hk 2722 k := fun k => g.I fun q => c _ _ q (Or.inl rfl)
  have q0 := m_done wl (B := A0) (by omega) e50
  rw [e49] at q0
  refine ⟨A0, d, _, q0, by ((repeat' (first | exact ag.refl _ _ _ | apply ag.sI | apply ag.sB | apply ag.sP | apply ag.sL | (apply ag.cm) | (apply ag.mm))) <;> (first | omega | (dsimp only; omega) | (intro k; dsimp only; omega))), by simp (disch := omega) only [e_KI, e_NI, e_BI, e_LI, e_PI, e_KB, e_NB, e_IB, e_LB, e_PB, e_KL, e_NL, e_IL, e_BL, e_PL, e_KP, e_NP, e_IP, e_BP, e_LP, e_IIs, e_BBs, e_LLs, e_PPs, e_IIn, e_BBn, e_LLn, e_PPn, e_IIk, e_BBk, e_LLk, e_PPk], by simp (disch := omega) only [e_KI, e_NI, e_BI, e_LI, e_PI, e_KB, e_NB, e_IB, e_LB, e_PB, e_KL, e_NL, e_IL, e_BL, e_PL, e_KP, e_NP, e_IP, e_BP, e_LP, e_IIs, e_BBs, e_LLs, e_PPs, e_IIn, e_BBn, e_LLn, e_PPn, e_IIk, e_BBk, e_LLk, e_PPk], k1, by simp (disch := omega) only [e_KI, e_NI, e_BI, e_LI, e_PI, e_KB, e_NB, e_IB, e_LB, e_PB, e_KL, e_NL, e_IL, e_BL, e_PL, e_KP, e_NP, e_IP, e_BP, e_LP, e_IIs, e_BBs, e_LLs, e_PPs, e_IIn, e_BBn, e_LLn, e_PPn, e_IIk, e_BBk, e_LLk, e_PPk], fun k hk => ?_, by simp (disch := omega) only [e_KI, e_NI, e_BI, e_LI, e_PI, e_KB, e_NB, e_IB, e_LB, e_PB, e_KL, e_NL, e_IL, e_BL, e_PL, e_KP, e_NP, e_IP, e_BP, e_LP, e_IIs, e_BBs, e_LLs, e_PPs, e_IIn, e_BBn, e_LLn, e_PPn, e_IIk, e_BBk, e_LLk, e_PPk], ?_, ?_, ?_, fun c hc z => ?_, fun n hn z => ?_, fun s hs z => ?_⟩
  · simp (disch := omega) only [e_KI, e_NI, e_BI, e_LI, e_PI, e_KB, e_NB, e_IB, e_LB, e_PB, e_KL, e_NL, e_IL, e_BL, e_PL, e_KP, e_NP, e_IP, e_BP, e_LP, e_IIs, e_BBs, e_LLs, e_PPs, e_IIn, e_BBn, e_LLn, e_PPn, e_IIk, e_BBk, e_LLk, e_PPk, f]
    exact k4 k hk
  · simp (disch := omega) only [e_KI, e_NI, e_BI, e_LI, e_PI, e_KB, e_NB, e_IB, e_LB, e_PB, e_KL, e_NL, e_IL, e_BL, e_PL, e_KP, e_NP, e_IP, e_BP, e_LP, e_IIs, e_BBs, e_LLs, e_PPs, e_IIn, e_BBn, e_LLn, e_PPn, e_IIk, e_BBk, e_LLk, e_PPk, f]
    exact k5
  · simp (disch := omega) only [e_KI, e_NI, e_BI, e_LI, e_PI, e_KB, e_NB, e_IB, e_LB, e_PB, e_KL, e_NL, e_IL, e_BL, e_PL, e_KP, e_NP, e_IP, e_BP, e_LP, e_IIs, e_BBs, e_LLs, e_PPs, e_IIn, e_BBn, e_LLn, e_PPn, e_IIk, e_BBk, e_LLk, e_PPk, f]
    exact k6
  · simp (disch := omega) only [e_KI, e_NI, e_BI, e_LI, e_PI, e_KB, e_NB, e_IB, e_LB, e_PB, e_KL, e_NL, e_IL, e_BL, e_PL, e_KP, e_NP, e_IP, e_BP, e_LP, e_IIs, e_BBs, e_LLs, e_PPs, e_IIn, e_BBn, e_LLn, e_PPn, e_IIk, e_BBk, e_LLk, e_PPk, f]
    exact k7
  · simp (disch := omega) only [e_KI, e_NI, e_BI, e_LI, e_PI, e_KB, e_NB, e_IB, e_LB, e_PB, e_KL, e_NL, e_IL, e_BL, e_PL, e_KP, e_NP, e_IP, e_BP, e_LP, e_IIs, e_BBs, e_LLs, e_PPs, e_IIn, e_BBn, e_LLn, e_PPn, e_IIk, e_BBk, e_LLk, e_PPk, f]
    exact k8 c hc z
  · simp (disch := omega) only [e_KI, e_NI, e_BI, e_LI, e_PI, e_KB, e_NB, e_IB, e_LB, e_PB, e_KL, e_NL, e_IL, e_BL, e_PL, e_KP, e_NP, e_IP, e_BP, e_LP, e_IIs, e_BBs, e_LLs, e_PPs, e_IIn, e_BBn, e_LLn, e_PPn, e_IIk, e_BBk, e_LLk, e_PPk, f]
    exact k9 n hn z
  · simp (disch := omega) only [e_KI, e_NI, e_BI, e_LI, e_PI, e_KB, e_NB, e_IB, e_LB, e_PB, e_KL, e_NL, e_IL, e_BL, e_PL, e_KP, e_NP, e_IP, e_BP, e_LP, e_IIs, e_BBs, e_LLs, e_PPs, e_IIn, e_BBn, e_LLn, e_PPn, e_IIk, e_BBk, e_LLk, e_PPk, f]
    exact k10 s hs z
theorem JN_of (R : RelP h t e N C S A) (ho9 : o < 60) (ho : y_I h 13 2 = nI o) (nt : NT hx hf A o pb pc ps) (kq : KQ hy hf A A0 d ic ib is)
    (gx : ag P (fun _ => False) h hx) (cx9 : ∀ a k, P a k → ¬ (a = 13 ∨ a = 37 ∨ a % 64 = 24 ∨ a % 64 = 20 ∨ a % 64 = 21 ∧ k ≠ 7 ∨ a % 64 = 22 ∧ (k = 12 ∨ k = 13)))
    (gy : ∀ a k, a = 11 ∧ k ≠ 46 ∨ a % 64 = 34 ∧ a ≠ 2594 → y_I hy a k = y_I h a k ∧ y_B hy a k = y_B h a k)
    (ob : pb = 0 ∧ ib = -9 ∨ ∃ n, n < N ∧ ib = nI n ∧ pb = 64 * n + 20) (oc : pc = 0 ∧ ic = -9 ∨ ∃ c, c < C ∧ ic = nI c ∧ pc = 64 * c + 21) (os : ps = 0 ∧ on is S ∨ ∃ s, s < S ∧ is = nI s ∧ ps = 64 * s + 22) :
    JN h hf A (A0 + 1) o (if A = 60 then (o + 1) % 60 else o) d := by
  obtain ⟨w, rT, rM, rB, rC, rS, rV, rL, rJ, rP, rH, rD, rQ, rK⟩ := R
  obtain ⟨n1, n2, n3, n4, n5, n6, n7, n8, n9, n10, n11, n12, n13⟩ := nt
  obtain ⟨q1, q2, q3, q4, q5, q6, q7, q8, q9, q10⟩ := kq
  have xI : ∀ a k, (a = 13 ∨ a = 37 ∨ a % 64 = 24 ∨ a % 64 = 20 ∨ a % 64 = 21 ∧ k ≠ 7 ∨ a % 64 = 22 ∧ (k = 12 ∨ k = 13)) → y_I hx a k = y_I h a k := fun a k q => gx.I fun z => cx9 a k z q
  have xB : ∀ a k, (a = 13 ∨ a = 37 ∨ a % 64 = 24 ∨ a % 64 = 20 ∨ a % 64 = 21 ∧ k ≠ 7 ∨ a % 64 = 22 ∧ (k = 12 ∨ k = 13)) → y_B hx a k = y_B h a k := fun a k q => gx.B fun z => cx9 a k z q
  have xP : ∀ a k, (a = 13 ∨ a = 37 ∨ a % 64 = 24 ∨ a % 64 = 20 ∨ a % 64 = 21 ∧ k ≠ 7 ∨ a % 64 = 22 ∧ (k = 12 ∨ k = 13)) → y_P hx a k = y_P h a k := fun a k q => gx.P fun z => cx9 a k z q
  have yI : ∀ a k, (a = 11 ∧ k ≠ 46 ∨ a % 64 = 34 ∧ a ≠ 2594) → y_I hy a k = y_I h a k := fun a k q => (gy a k q).1
  have yB : ∀ a k, (a = 11 ∧ k ≠ 46 ∨ a % 64 = 34 ∧ a ≠ 2594) → y_B hy a k = y_B h a k := fun a k q => (gy a k q).2
  refine ⟨?_, ?_, q2, n4, fun k hk => ?_, fun j hj hne => ?_, n1, n2, ?_, ?_, ?_, fun z => ?_, fun z => ?_, ?_, fun z => ?_⟩
  · split <;> omega
  · rw [n5]
    congr 1
    split <;> omega
  · rw [q3 k (by omega), yI _ _ (by omega)]
  · obtain ⟨z1, z2, z3⟩ := n13 j hne
    refine ⟨z1.trans (xP _ _ (by omega)), z2.trans (gx.K fun q => q), fun k => ?_⟩
    obtain ⟨y1, y2, y3⟩ := z3 k
    exact ⟨y1.trans (xI _ _ (by omega)), y2.trans (xB _ _ (by omega)), y3.trans (xP _ _ (by omega))⟩
  · show y_I hf _ 0 = y_I hf 2722 (14 * (A0 + 1 - 1))
    rw [n6, Nat.add_sub_cancel, q4, xI _ _ (by omega), yI _ _ (by omega), rM.2.2.2.1]
  · show y_P hf _ 1 = pB (y_I hf 2722 (14 * (A0 + 1 - 1) + 5))
    rw [n7, Nat.add_sub_cancel, q6]
    rcases ob with ⟨z1, z2⟩ | ⟨n, hn, z1, z2⟩
    · rw [z1, z2, pB_9]
    · rw [z1, z2, pB_n (by have := rB.1; omega)]
  · show y_P hf _ 7 = pC (y_I hf 2722 (14 * (A0 + 1 - 1) + 1))
    rw [n8, Nat.add_sub_cancel, q5]
    rcases oc with ⟨z1, z2⟩ | ⟨c, hc, z1, z2⟩
    · rw [z1, z2, pC_9]
    · rw [z1, z2, pC_n (by have := rC.1; omega)]
  · rw [Nat.add_sub_cancel] at z ⊢
    rw [q6] at z
    rcases ob with ⟨z1, z2⟩ | ⟨n, hn, z1, z2⟩
    · rw [z2] at z
      exact absurd (by decide) z
    · have hN := rB.1
      obtain ⟨b1, b2, b3, b4, b5, b6, b7, b8, b9, b10, b11, b12, b13, -⟩ := (rB.2.2.2.1 n hn).1
      obtain ⟨y1, y2, y3, y4, y5⟩ := n10 (by omega)
      obtain ⟨u1, u2, u3, u4, u5⟩ := q9 n (by omega) z1
      rw [y1, y2, y3, y4, y5, u1, u2, u3, u4, u5, z2]
      rw [xI _ _ (by omega), xI _ _ (by omega), xI _ _ (by omega), xI _ _ (by omega), xB _ _ (by omega), yI _ _ (by omega), yI _ _ (by omega), yI _ _ (by omega), yI _ _ (by omega), yB _ _ (by omega)]
      exact ⟨b9, b10, b11, b12, by rw [b13]⟩
  · rw [Nat.add_sub_cancel] at z ⊢
    rw [q5] at z
    rcases oc with ⟨z1, z2⟩ | ⟨c, hc, z1, z2⟩
    · rw [z2] at z
      exact absurd (by decide) z
    · have hC := rC.1
      have hN := rB.1
      obtain ⟨b1, b2, b3, b4, b5, b6, b7, b8, b9, b10⟩ := (rC.2.2.2.1 c hc).1
      obtain ⟨y1, y2, y3⟩ := n11 (by omega)
      obtain ⟨u1, u2, u3⟩ := q8 c (by omega) z1
      rw [y1, y2, y3, u1, u2, u3, z2]
      rw [xP (64 * c + 21) 4 (by omega), b7, xI (64 * c + 21) 3 (by omega), xI (64 * c + 21) 5 (by omega), yI 1634 c (by omega), yI 1698 c (by omega), yI 1762 c (by omega)]
      refine ⟨b6, ?_, b8⟩
      rcases held_cases rH hc with hh | ⟨n, hn, hh, -⟩
      · rw [hh, pB_1, if_pos rfl]
      · rw [hh, pB_n (by omega), if_neg (by omega), xI _ _ (by omega)]
        exact (rB.2.2.2.1 n hn).1.2.2.1
  · show y_P hf _ 11 = 0 ∨ y_P hf _ 11 = pS (y_I hf 2722 (14 * (A0 + 1 - 1) + 11))
    rw [n9, Nat.add_sub_cancel, q7]
    rcases os with ⟨z1, z2⟩ | ⟨s, hs, z1, z2⟩
    · exact Or.inl z1
    · rw [z1, z2, pS_n (by have := rS.1; omega)]
      exact Or.inr rfl
  · rw [Nat.add_sub_cancel]
    rw [n9] at z
    rcases os with ⟨z1, z2⟩ | ⟨s, hs, z1, z2⟩
    · exact absurd z1 z
    · have hS := rS.1
      obtain ⟨b0, b1, b2, b3, b4, b5, b6, b7, -⟩ := (rS.2.2.2.1 s hs).1
      obtain ⟨y1, y2⟩ := n12 z
      obtain ⟨u1, u2⟩ := q10 s (by omega) z1
      rw [y1, y2, u1, u2, z2, xI _ _ (by omega), xI _ _ (by omega), yI _ _ (by omega), yI _ _ (by omega)]
      exact ⟨b6, b7⟩
end AC
