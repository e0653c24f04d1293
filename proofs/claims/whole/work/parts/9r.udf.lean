/-! undo: a box comes back; the frame of the cases -/
section UF
variable {h T hB : y_H} {t e N C S A o n c : Nat}
def uL (G L : y_H) (n k : Nat) : Prop := ((y_I G 418 n ≠ 1 ∧ y_I G 418 n ≠ 3 ∧ L = s_I G 11 50 (nI k)) ∨ (∃ b s f, b < 10 ∧ s < 6 ∧ f < 5 ∧ y_I G 418 n = 1 ∧ y_I G 482 n = nI b ∧ y_I G 546 n = nI s ∧ y_I G 1314 (6 * b + s) = nI (f + 1) ∧ L = s_I (s_I G 11 50 (nI k)) 1314 (6 * b + s) (nI f)) ∨ ∃ s i, s < 3 ∧ i < 54 ∧ y_I G 418 n = 3 ∧ y_I G 482 n = nI s ∧ y_I G 546 n = nI i ∧ L = s_I (s_I G 11 50 (nI k)) 2210 (54 * s + i) (-1))
def uE (G L E : y_H) (n k : Nat) (wv : Bool) : Prop := ((y_I G 2722 (14 * k + 6) ≠ 1 ∧ y_I G 2722 (14 * k + 6) ≠ 3 ∧ E = mP4 L n (y_I G 2722 (14 * k + 6)) (y_I G 2722 (14 * k + 7)) (y_I G 2722 (14 * k + 8)) (y_I G 2722 (14 * k + 9)) wv) ∨ (∃ b s f, b < 10 ∧ s < 6 ∧ f < 5 ∧ y_I G 2722 (14 * k + 6) = 1 ∧ y_I G 2722 (14 * k + 7) = nI b ∧ y_I G 2722 (14 * k + 8) = nI s ∧ y_I L 1314 (6 * b + s) = nI f ∧ E = s_I (s_I (mP4 L n (y_I G 2722 (14 * k + 6)) (y_I G 2722 (14 * k + 7)) (y_I G 2722 (14 * k + 8)) (y_I G 2722 (14 * k + 9)) wv) 1378 (5 * (6 * b + s) + f) (nI n)) 1314 (6 * b + s) (nI (f + 1))) ∨ ∃ s i, s < 3 ∧ i < 54 ∧ y_I G 2722 (14 * k + 6) = 3 ∧ y_I G 2722 (14 * k + 7) = nI s ∧ y_I G 2722 (14 * k + 8) = nI i ∧ E = s_I (mP4 L n (y_I G 2722 (14 * k + 6)) (y_I G 2722 (14 * k + 7)) (y_I G 2722 (14 * k + 8)) (y_I G 2722 (14 * k + 9)) wv) 2210 (54 * s + i) (nI n))
theorem mUB_of {G L E : y_H} {N n k : Nat} {wv : Bool} (hn : n < N) (kb : y_I G 2722 (14 * k + 5) = nI n) (kw : y_I G 2722 (14 * k + 10) = y_z wv) (l : uL G L n k) (x : uE G L E n k wv) : mUB G L E N k := by
  refine Or.inr ⟨n, wv, hn, kb, ?_, l, x⟩
  cases wv
  · exact Or.inr ⟨by rw [kw]; decide, rfl⟩
  · exact Or.inl ⟨by rw [kw]; decide, rfl⟩
theorem ag_uL {G L : y_H} {n k : Nat} (l : uL G L n k) : ag (fun a i => a = 11 ∧ i = 50 ∨ a = 1314 ∨ a = 2210) (fun _ => False) G L ∧ y_I L 11 50 = nI k := by
  rcases l with ⟨-, -, e⟩ | ⟨b, s, f, -, -, -, -, -, -, -, e⟩ | ⟨s, i, -, -, -, -, -, e⟩
  · rw [e]
    exact ⟨by ((repeat' (first | exact ag.refl _ _ _ | apply ag.sI | apply ag.sB | apply ag.sP | apply ag.sL | (apply ag.cm) | (apply ag.mm))) <;> (first | omega | (dsimp only; omega) | (intro k; dsimp only; omega))), e_IIs⟩
  · rw [e]
    exact ⟨by ((repeat' (first | exact ag.refl _ _ _ | apply ag.sI | apply ag.sB | apply ag.sP | apply ag.sL | (apply ag.cm) | (apply ag.mm))) <;> (first | omega | (dsimp only; omega) | (intro k; dsimp only; omega))), by simp (disch := omega) only [e_KI, e_NI, e_BI, e_LI, e_PI, e_KB, e_NB, e_IB, e_LB, e_PB, e_KL, e_NL, e_IL, e_BL, e_PL, e_KP, e_NP, e_IP, e_BP, e_LP, e_IIs, e_BBs, e_LLs, e_PPs, e_IIn, e_BBn, e_LLn, e_PPn, e_IIk, e_BBk, e_LLk, e_PPk]⟩
  · rw [e]
    exact ⟨by ((repeat' (first | exact ag.refl _ _ _ | apply ag.sI | apply ag.sB | apply ag.sP | apply ag.sL | (apply ag.cm) | (apply ag.mm))) <;> (first | omega | (dsimp only; omega) | (intro k; dsimp only; omega))), by simp (disch := omega) only [e_KI, e_NI, e_BI, e_LI, e_PI, e_KB, e_NB, e_IB, e_LB, e_PB, e_KL, e_NL, e_IL, e_BL, e_PL, e_KP, e_NP, e_IP, e_BP, e_LP, e_IIs, e_BBs, e_LLs, e_PPs, e_IIn, e_BBn, e_LLn, e_PPn, e_IIk, e_BBk, e_LLk, e_PPk]⟩
theorem uE_v {G L E : y_H} {n k : Nat} {wv : Bool} (x : uE G L E n k wv) : ag (fun a i => (a = 418 ∨ a = 482 ∨ a = 546 ∨ a = 610 ∨ a = 354) ∧ i = n ∨ a = 1314 ∨ a = 1378 ∨ a = 2210) (fun _ => False) L E ∧ y_I E 418 n = y_I G 2722 (14 * k + 6) ∧ y_I E 482 n = y_I G 2722 (14 * k + 7) ∧ y_I E 546 n = y_I G 2722 (14 * k + 8) ∧ y_I E 610 n = y_I G 2722 (14 * k + 9) ∧ y_B E 354 n = wv := by
  have g : ag (fun a i => (a = 418 ∨ a = 482 ∨ a = 546 ∨ a = 610 ∨ a = 354) ∧ i = n ∨ a = 1314 ∨ a = 1378 ∨ a = 2210) (fun _ => False) L (mP4 L n (y_I G 2722 (14 * k + 6)) (y_I G 2722 (14 * k + 7)) (y_I G 2722 (14 * k + 8)) (y_I G 2722 (14 * k + 9)) wv) := by
    unfold mP4
    ((repeat' (first | exact ag.refl _ _ _ | apply ag.sI | apply ag.sB | apply ag.sP | apply ag.sL | (apply ag.cm) | (apply ag.mm))) <;> (first | omega | (dsimp only; omega) | (intro k; dsimp only; omega)))
  have v : y_I (mP4 L n (y_I G 2722 (14 * k + 6)) (y_I G 2722 (14 * k + 7)) (y_I G 2722 (14 * k + 8)) (y_I G 2722 (14 * k + 9)) wv) 418 n = y_I G 2722 (14 * k + 6) ∧ y_I (mP4 L n (y_I G 2722 (14 * k + 6)) (y_I G 2722 (14 * k + 7)) (y_I G 2722 (14 * k + 8)) (y_I G 2722 (14 * k + 9)) wv) 482 n = y_I G 2722 (14 * k + 7) ∧ y_I (mP4 L n (y_I G 2722 (14 * k + 6)) (y_I G 2722 (14 * k + 7)) (y_I G 2722 (14 * k + 8)) (y_I G 2722 (14 * k + 9)) wv) 546 n = y_I G 2722 (14 * k + 8) ∧ y_I (mP4 L n (y_I G 2722 (14 * k + 6)) (y_I G 2722 (14 * k + 7)) (y_I G 2722 (14 * k + 8)) (y_I G 2722 (14 * k + 9)) wv) 610 n = y_I G 2722 (14 * k + 9) ∧ y_B (mP4 L n (y_I G 2722 (14 * k + 6)) (y_I G 2722 (14 * k + 7)) (y_I G 2722 (14 * k + 8)) (y_I G 2722 (14 * k + 9)) wv) 354 n = wv := by
    unfold mP4
    simp (disch := omega) only [e_KI, e_NI, e_BI, e_LI, e_PI, e_KB, e_NB, e_IB, e_LB, e_PB, e_KL, e_NL, e_IL, e_BL, e_PL, e_KP, e_NP, e_IP, e_BP, e_LP, e_IIs, e_BBs, e_LLs, e_PPs, e_IIn, e_BBn, e_LLn, e_PPn, e_IIk, e_BBk, e_LLk, e_PPk, and_self]
  rcases x with ⟨-, -, e⟩ | ⟨b, s, f, -, -, -, -, -, -, -, e⟩ | ⟨s, i, -, -, -, -, -, e⟩
  · rw [e]
    exact ⟨g, v⟩
  · rw [e]
    refine ⟨ag.sI (ag.sI g (Or.inr (Or.inr (Or.inl rfl)))) (Or.inr (Or.inl rfl)), ?_⟩
    rw [e_IIn (by omega), e_IIn (by omega), e_IIn (by omega), e_IIn (by omega), e_IIn (by omega), e_IIn (by omega), e_IIn (by omega), e_IIn (by omega), e_BI, e_BI]
    exact v
  · rw [e]
    refine ⟨ag.sI g (Or.inr (Or.inr (Or.inr rfl))), ?_⟩
    rw [e_IIn (by omega), e_IIn (by omega), e_IIn (by omega), e_IIn (by omega), e_BI]
    exact v
theorem undo_box {PB : Nat → Nat → Prop} (R : RelP h t e N C S A) (hA : 1 ≤ A) (ho9 : o < 60) (ho : y_I h 13 2 = nI o) (hn : n < N) (kb : y_I h 2722 (14 * (A - 1) + 5) = nI n) (eT : T = s_I h 13 3 (nI (A - 1)))
    (br : f_X10_bring 12 (64 * n + 20) (y_I h 2722 (14 * (A - 1) + 6)) (y_I h 2722 (14 * (A - 1) + 7)) (y_I h 2722 (14 * (A - 1) + 8)) (y_I h 2722 (14 * (A - 1) + 9)) T = some ((), hB))
    (gB : ag PB (fun _ => False) T hB) (cB : ∀ a k, PB a k → a = 64 * n + 20 ∧ 6 ≤ k ∧ k ≤ 9 ∨ a % 64 = 21 ∧ k = 4 ∨ a % 64 = 25 ∨ a % 64 = 32 ∨ a % 64 = 33)
    (vB : y_I hB (64 * n + 20) 6 = y_I h 2722 (14 * (A - 1) + 6) ∧ y_I hB (64 * n + 20) 7 = y_I h 2722 (14 * (A - 1) + 7) ∧ y_I hB (64 * n + 20) 8 = y_I h 2722 (14 * (A - 1) + 8) ∧ y_I hB (64 * n + 20) 9 = y_I h 2722 (14 * (A - 1) + 9))
    (hd : ∀ d, d < C → y_P hB (64 * d + 21) 4 = pB (oC h A 1 3 (y_I h 1698) d))
    (mm : ∀ G (wv : Bool), Sh G → ag (fun a k => a = 64 * n + 20 ∧ k = 10 ∨ PGc a k) (fun _ => False) hB G → (∀ x, y_I G 2722 x = y_I h 2722 x) → ∃ L E, uL G L n (A - 1) ∧ uE G L E n (A - 1) wv ∧ (∀ s, s < S → ∀ k, k < 54 → y_P E (64 * s + 25) k = pB (y_I E 2210 (54 * s + k))) ∧ RV E ∧ RP E N C S) :
    Call (f_X11_undo 10 h) (f_X12_undo 11) t e := by
  obtain ⟨w, rT, rM, rB, rC, rS, rV, rL, rJ, rP, rH, rD, rQ, rK⟩ := id R
  obtain ⟨j1, j2, j3, o', j4, j5, j6, j7⟩ := id rJ
  have eo : o' = o := by
    rw [ho, i_eq (by omega)] at j5
    exact j5.symm
  rw [eo] at j4 j5 j6
  clear eo
  obtain ⟨n1, n2, n3, n4, n5, n6, n7, n8, n9⟩ := j6 (A - 1) (by omega)
  have hN := rB.1
  have nn : ¬ y_I h 2722 (14 * (A - 1) + 5) < 0 := by rw [kb, i_n0 (by omega)]; exact fun z => z
  obtain ⟨m1, m2, m3, m4, m5⟩ := n6 nn
  rw [kb, pB_n (by omega)] at n4
  have gT : ag (fun a k => a = 13 ∧ k = 3) (fun _ => False) h T := by
    rw [eT]
    ((repeat' (first | exact ag.refl _ _ _ | apply ag.sI | apply ag.sB | apply ag.sP | apply ag.sL | (apply ag.cm) | (apply ag.mm))) <;> (first | omega | (dsimp only; omega) | (intro k; dsimp only; omega)))
  have wT : Sh T := (Sh_ag gT (by intro a k q; (simp only [FSh] at q ⊢) <;> omega) (by intro a q; (simp only [GSh, not_false_eq_true] at q ⊢) <;> omega) w)
  have KB : y_K hB (64 * n + 20) = 3 := (gB.K fun q => q).trans ((gT.K fun q => q).trans (rB.2.2.2.1 n hn).1.2.1)
  have b0 : ∀ f cur m, m < N → m ≠ n → oB h A 1 f cur m = cur m := fun f cur m hm ne => oB0 (by
    rw [kb, i_eq (by omega)]
    exact fun z => ne z.symm)
  have hh : ∀ k, y_I T (64 * ((o + (A - 1)) % 60) + 24) k = y_I h (64 * ((o + (A - 1)) % 60) + 24) k := fun k => gT.I (by omega)
  refine undo_end (Y := s_B hB (64 * n + 20) 10 (y_B h (64 * ((o + (A - 1)) % 60) + 24) 6)) R hA ho9 ho (fun m => if m = n then y_B h (64 * ((o + (A - 1)) % 60) + 24) 6 else y_B h 354 m) eT (Or.inr ⟨64 * n + 20, hB, by omega, (gT.P (by omega)).trans n4, by simp only [wT.1], ?_, (gB.K fun q => q).trans ((gT.K fun q => q).trans n2), ?_, KB, ?_⟩) ?_ (fun m hm => ?_) (fun d hd9 => ?_) (fun G wG gG => ?_)
  · rw [hh, hh, hh, hh, m1, m2, m3, m4]
    exact br
  · rw [gB.P (fun q => by have := cB _ _ q; omega), gT.P (by omega)]
    exact n4
  · rw [gB.B (a := 64 * ((o + (A - 1)) % 60) + 24) (fun q => by have := cB _ _ q; omega), gT.B (by omega)]
  · refine ag.sB (gB.mono (fun a k q => ?_) (fun a q => q)) ?_
    · have := cB a k q
      simp only [PYc]
      omega
    · simp only [PYc]
      omega
  · by_cases em : m = n
    · rw [em, oB1 kb, oB1 kb, oB1 kb, oB1 kb, e_IB, if_pos rfl, e_BBs]
      exact ⟨vB.1, vB.2.1, vB.2.2.1, vB.2.2.2, rfl⟩
    · obtain ⟨⟨x1, x2, x3, x4, x5, x6, x7, x8, x9, x10, x11, x12, x13, x14, x15⟩, -⟩ := rB.2.2.2.1 m hm
      rw [b0 _ _ m hm em, b0 _ _ m hm em, b0 _ _ m hm em, b0 _ _ m hm em, if_neg em, e_IB, e_BBc (by omega)]
      have q : ∀ k, ¬ PB (64 * m + 20) k := fun k q => by
        have := cB _ _ q
        omega
      refine ⟨?_, ?_, ?_, ?_, ?_⟩
      · rw [gB.I (q _), gT.I (by omega)]; exact x9
      · rw [gB.I (q _), gT.I (by omega)]; exact x10
      · rw [gB.I (q _), gT.I (by omega)]; exact x11
      · rw [gB.I (q _), gT.I (by omega)]; exact x12
      · rw [gB.B (q _), gT.B (by omega)]; exact x13
  · rw [e_PB]
    exact hd d hd9
  · have gy : ag (fun a k => a = 64 * n + 20 ∧ k = 10) (fun _ => False) hB (s_B hB (64 * n + 20) 10 (y_B h (64 * ((o + (A - 1)) % 60) + 24) 6)) := by ((repeat' (first | exact ag.refl _ _ _ | apply ag.sI | apply ag.sB | apply ag.sP | apply ag.sL | (apply ag.cm) | (apply ag.mm))) <;> (first | omega | (dsimp only; omega) | (intro k; dsimp only; omega)))
    have gh := gy.trR gG
    have kG : ∀ x, y_I G 2722 x = y_I h 2722 x := fun x => by
      rw [gh.I (by simp only [PGc]; omega), gB.I (fun q => by have := cB _ _ q; omega), gT.I (by omega)]
    obtain ⟨L, E, q1, q2, q3, q4, q5⟩ := mm G (y_B h (64 * ((o + (A - 1)) % 60) + 24) 6) wG gh kG
    obtain ⟨gL, vL⟩ := ag_uL q1
    obtain ⟨gE, v1, v2, v3, v4, v5⟩ := uE_v q2
    rw [kG] at v1 v2 v3 v4
    refine ⟨L, E, mUB_of hn ((kG _).trans kb) ((kG _).trans m5) q1 q2, ?_, fun m hm => ?_, ?_, q3, q4, q5⟩
    · refine (gL.mono (fun a k q => ?_) (fun a q => q)).trans (gE.mono (fun a k q => ?_) (fun a q => q))
      · simp only [PEm]
        omega
      · simp only [PEm]
        omega
    · by_cases em : m = n
      · rw [em, oB1 kb, oB1 kb, oB1 kb, oB1 kb, if_pos rfl]
        exact ⟨v1, v2, v3, v4, v5⟩
      · rw [b0 _ _ m hm em, b0 _ _ m hm em, b0 _ _ m hm em, b0 _ _ m hm em, if_neg em]
        have iE : ∀ a, a = 418 ∨ a = 482 ∨ a = 546 ∨ a = 610 → y_I E a m = y_I h a m := fun a ha => by
          rw [gE.I (by omega), gL.I (by omega), gh.I (by simp only [PGc]; omega), gB.I (fun q => by have := cB _ _ q; omega), gT.I (by omega)]
        refine ⟨iE _ (by omega), iE _ (by omega), iE _ (by omega), iE _ (by omega), ?_⟩
        rw [gE.B (by omega), gL.B (by omega), gh.B (by simp only [PGc]; omega), gB.B (fun q => by have := cB _ _ q; omega), gT.B (by omega)]
    · rw [gE.I (by omega)]
      exact vL
end UF
