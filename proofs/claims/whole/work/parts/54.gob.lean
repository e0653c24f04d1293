/-! heaps that have the model's cells of h -/
def MM (h G : y_H) : Prop := Sh G ∧ ∀ a k, a = 11 ∧ k ≠ 46 ∨ a % 64 = 34 ∧ a ≠ 2594 → y_I G a k = y_I h a k ∧ y_B G a k = y_B h a k ∧ y_L G a k = y_L h a k
section GB
variable {h G : y_H} {t e N C S A c n k : Nat} {l : List Int32} {met : Int32} {P : Nat → Nat → Prop} {Q : Nat → Prop}
theorem MM.I (m : MM h G) {a k : Nat} (q : a = 11 ∧ k ≠ 46 ∨ a % 64 = 34 ∧ a ≠ 2594) : y_I G a k = y_I h a k := (m.2 a k q).1
theorem MM.B (m : MM h G) {a k : Nat} (q : a = 11 ∧ k ≠ 46 ∨ a % 64 = 34 ∧ a ≠ 2594) : y_B G a k = y_B h a k := (m.2 a k q).2.1
theorem MM.of (g : ag P Q h G) (w : Sh G) (c : ∀ a k, P a k → ¬ (a = 11 ∧ k ≠ 46 ∨ a % 64 = 34 ∧ a ≠ 2594)) : MM h G := ⟨w, fun a k q => by
  obtain ⟨x1, x2, x3, -⟩ := g.2 a k fun z => c a k z q
  exact ⟨x1, x2, x3⟩⟩
theorem MM.beg (m : MM h G) : MM h (s_I G 11 46 0) := ⟨Sh_sI m.1, fun a k q => by
  obtain ⟨x1, x2, x3⟩ := m.2 a k q
  exact ⟨(e_IIc (by omega)).trans x1, x2, x3⟩⟩
theorem MM.mks (m : MM h G) : MM h (mMks G l) := ⟨Sh_mk m.1, fun a k q => by
  obtain ⟨x1, x2, x3⟩ := m.2 a k q
  rw [e_Imk _ (by omega), e_Bm, e_Lm]
  exact ⟨x1, x2, x3⟩⟩
theorem TM.beg : TM (s_I G 11 46 0) := ⟨0, by omega, e_IIs⟩
theorem TC.beg {p : Nat} : TC (s_B (s_I h 16 1 0) p 7 false) := ⟨0, by omega, (by rw [e_IB, e_IIs]; rfl)⟩
theorem TC.beg0 : TC (s_I h 16 1 0) := ⟨0, by omega, e_IIs⟩
theorem c_ref {x : Int32} (w : Sh h) : f_X11_refused 10 x h = some (x, s_I h 10 6 x) := by
  simp only [f_X11_refused, w.1, if_true, and_self, e_cl, e_bd, e_jn]
theorem m_ref {x : Int32} (w : Sh h) : f_X12_refused 11 x h = some (x, s_I h 11 47 x) := by
  simp only [f_X12_refused, w.2, if_true, and_self, e_cl, e_bd, e_jn]
theorem cw (R : RelP h t e N C S A) (hc : c < C) (hk : k ≤ 4) (ek : y_I h (64 * c + 21) 1 = nI k) : f_X10_isTooWindy 12 (64 * c + 21) (s_B (s_I h 16 1 0) (64 * c + 21) 7 false) = some (decide (¬ y_I h 11 33 ≤ (pStop k).1), cMks (s_B (s_I h 16 1 0) (64 * c + 21) 7 false) (pStop k).2) := by
  obtain ⟨w, rT, rM, rB, rC, -⟩ := R
  have z := c_windy (h := s_B (s_I h 16 1 0) (64 * c + 21) 7 false) (n := c) w TC.beg (rC.2.2.2.1 c hc).1.2.1 hk (by simp (disch := omega) only [e_KI, e_NI, e_BI, e_LI, e_PI, e_KB, e_NB, e_IB, e_LB, e_PB, e_KL, e_NL, e_IL, e_BL, e_PL, e_KP, e_NP, e_IP, e_BP, e_LP, e_IIs, e_BBs, e_LLs, e_PPs, e_IIn, e_BBn, e_LLn, e_PPn, e_IIk, e_BBk, e_LLk, e_PPk]; exact ek)
  have e9 : y_I (s_B (s_I h 16 1 0) (64 * c + 21) 7 false) 12 9 = y_I h 11 33 := by
    simp (disch := omega) only [e_KI, e_NI, e_BI, e_LI, e_PI, e_KB, e_NB, e_IB, e_LB, e_PB, e_KL, e_NL, e_IL, e_BL, e_PL, e_KP, e_NP, e_IP, e_BP, e_LP, e_IIs, e_BBs, e_LLs, e_PPs, e_IIn, e_BBn, e_LLn, e_PPn, e_IIk, e_BBk, e_LLk, e_PPk]
    exact rM.2.2.1
  rw [e9] at z
  exact z
theorem mw (m : MM h G) (H : TM G) (hc : c < 12) (hk : k ≤ 4) (ek : y_I h 1506 c = nI k) : f_X12_isWindy 11 (nI c) G = some (decide (¬ y_I h 11 33 ≤ (pStop k).1), mMks G (pStop k).2) := by
  have z := m_windy (h := G) m.1 H hc hk ((m.I (by omega)).trans ek)
  rw [m.I (a := 11) (k := 33) (by omega)] at z
  exact z
theorem c_failR (R : RelP h t e N C S A) (hc : c < C) (hm : ¬ met = 0) (hr : (-60 : Int32) - met < 1) : f_X11_ended 10 (64 * c + 21) met (cMks (s_B (s_I h 16 1 0) (64 * c + 21) 7 false) l) = some (met, s_I (s_I (s_B (cMks (s_B (s_I h 16 1 0) (64 * c + 21) 7 false) l) (64 * c + 21) 7 true) (64 * c + 21) 6 (y_I h 1826 c + 1)) 10 6 met) := by
  obtain ⟨w, rT, rM, rB, rC, -⟩ := R
  obtain ⟨⟨x1, x2, x3, x4, x5, x6, x7, x8, x9, x10⟩, -⟩ := rC.2.2.2.1 c hc
  have z := c_endR (h := cMks (s_B (s_I h 16 1 0) (64 * c + 21) 7 false) l) (p := 64 * c + 21) (Sh_ck (Sh_sB (Sh_sI w))) (by rw [e_Kc]; exact x2) hm hr
  have e6 : y_I (cMks (s_B (s_I h 16 1 0) (64 * c + 21) 7 false) l) (64 * c + 21) 6 = y_I h 1826 c := by
    rw [e_Ic _ (by omega), e_IB, e_IIn (by omega)]
    exact x9
  rw [e6] at z
  exact z
theorem c_failF {f : Nat} (R : RelP h t e N C S A) (hc : c < C) (hm : met = -60 - nI f) (hf : 1 ≤ f ∧ f ≤ 7) : f_X11_ended 10 (64 * c + 21) met (cMks (s_B (s_I h 16 1 0) (64 * c + 21) 7 false) l) = some (met, s_I (s_I (s_I (s_B (cMks (s_B (s_I h 16 1 0) (64 * c + 21) 7 false) l) (64 * c + 21) 7 true) (64 * c + 21) 6 (y_I h 1826 c + 1)) 10 6 met) 36 f (y_I h 2658 f + 1)) := by
  obtain ⟨w, rT, rM, rB, rC, -⟩ := R
  obtain ⟨⟨x1, x2, x3, x4, x5, x6, x7, x8, x9, x10⟩, -⟩ := rC.2.2.2.1 c hc
  have z := c_endF (h := cMks (s_B (s_I h 16 1 0) (64 * c + 21) 7 false) l) (p := 64 * c + 21) (Sh_ck (Sh_sB (Sh_sI w))) (by rw [e_Kc]; exact x2) (by omega) hm hf
  have e6 : y_I (cMks (s_B (s_I h 16 1 0) (64 * c + 21) 7 false) l) (64 * c + 21) 6 = y_I h 1826 c := by
    rw [e_Ic _ (by omega), e_IB, e_IIn (by omega)]
    exact x9
  have e7 : y_I (cMks (s_B (s_I h 16 1 0) (64 * c + 21) 7 false) l) 36 f = y_I h 2658 f := by
    rw [e_Ic _ (by omega), e_IB, e_IIn (by omega), rM.2.1]
  rw [e6, e7] at z
  exact z
theorem m_failR {r : Int32} (m : MM h G) (hc : c < 12) (hm : -40 - r = met) : f_X12_breaks 11 (nI c) r G = some (met, s_I (s_I G 1826 c (y_I h 1826 c + 1)) 11 47 met) := by
  have z := m_breaks (h := G) (r := r) m.1 hc
  rw [m.I (by omega), hm] at z
  exact z
theorem m_failF {f : Nat} (m : MM h G) (hc : c < 12) (hf : f < 8) (hm : met = -60 - nI f) : f_X12_meets 11 (nI c) (nI f) G = some (met, s_I (s_I (s_I G 1826 c (y_I h 1826 c + 1)) 2658 f (y_I h 2658 f + 1)) 11 47 met) := by
  have z := m_meets (h := G) m.1 hc hf
  rw [m.I (by omega), m.I (by omega), ← hm] at z
  exact z
/-- what the class leaves when it fails -/
theorem MMR (R : RelP h t e N C S A) : MM h (s_I (s_I (s_B (cMks (s_B (s_I h 16 1 0) (64 * c + 21) 7 false) l) (64 * c + 21) 7 true) (64 * c + 21) 6 (y_I h 1826 c + 1)) 10 6 met) := by
  have g : ag (fun a k => a = 16 ∧ k = 1 ∨ a = 40 ∨ a = 64 * c + 21 ∨ a = 10 ∧ k = 6) (fun _ => False) h (s_I (s_I (s_B (cMks (s_B (s_I h 16 1 0) (64 * c + 21) 7 false) l) (64 * c + 21) 7 true) (64 * c + 21) 6 (y_I h 1826 c + 1)) 10 6 met) := by ((repeat' (first | exact ag.refl _ _ _ | apply ag.sI | apply ag.sB | apply ag.sP | apply ag.sL | (apply ag.cm) | (apply ag.mm))) <;> (first | omega | (dsimp only; omega) | (intro k; dsimp only; omega)))
  exact MM.of g (Sh_sI (Sh_sI (Sh_sB (Sh_ck (Sh_sB (Sh_sI R.1)))))) (fun a k q => by first | omega | (dsimp only at q; omega))
theorem MMF {f : Nat} (R : RelP h t e N C S A) : MM h (s_I (s_I (s_I (s_B (cMks (s_B (s_I h 16 1 0) (64 * c + 21) 7 false) l) (64 * c + 21) 7 true) (64 * c + 21) 6 (y_I h 1826 c + 1)) 10 6 met) 36 f (y_I h 2658 f + 1)) := by
  have g : ag (fun a k => a = 16 ∧ k = 1 ∨ a = 40 ∨ a = 64 * c + 21 ∨ a = 10 ∧ k = 6 ∨ a = 36) (fun _ => False) h (s_I (s_I (s_I (s_B (cMks (s_B (s_I h 16 1 0) (64 * c + 21) 7 false) l) (64 * c + 21) 7 true) (64 * c + 21) 6 (y_I h 1826 c + 1)) 10 6 met) 36 f (y_I h 2658 f + 1)) := by ((repeat' (first | exact ag.refl _ _ _ | apply ag.sI | apply ag.sB | apply ag.sP | apply ag.sL | (apply ag.cm) | (apply ag.mm))) <;> (first | omega | (dsimp only; omega) | (intro k; dsimp only; omega)))
  exact MM.of g (Sh_sI (Sh_sI (Sh_sI (Sh_sB (Sh_ck (Sh_sB (Sh_sI R.1))))))) (fun a k q => by first | omega | (dsimp only at q; omega))
theorem MM0 (R : RelP h t e N C S A) : MM h (s_I (s_I h 16 1 0) 10 6 met) := by
  have g : ag (fun a k => a = 16 ∧ k = 1 ∨ a = 10 ∧ k = 6) (fun _ => False) h (s_I (s_I h 16 1 0) 10 6 met) := by ((repeat' (first | exact ag.refl _ _ _ | apply ag.sI | apply ag.sB | apply ag.sP | apply ag.sL | (apply ag.cm) | (apply ag.mm))) <;> (first | omega | (dsimp only; omega) | (intro k; dsimp only; omega)))
  exact MM.of g (Sh_sI (Sh_sI R.1)) (fun a k q => by first | omega | (dsimp only at q; omega))
/-- a call that ends in a rule, a finding, a refusal -/
theorem CallM.rule {c0 s0 : Nat} {f : Option ((Int32 × Nat × Nat) × y_H)} {g : y_H → Option (Int32 × y_H)} (R : RelP h t e N C S A) (hc : c < C) (l : List Int32) (met : Int32) (e1 : f = some ((met, c0, s0), s_I (s_I (s_B (cMks (s_B (s_I h 16 1 0) (64 * c + 21) 7 false) l) (64 * c + 21) 7 true) (64 * c + 21) 6 (y_I h 1826 c + 1)) 10 6 met)) (e2 : ∀ G, MM h G → g G = some (met, s_I (s_I (mMks (s_I G 11 46 0) l) 1826 c (y_I h 1826 c + 1)) 11 47 met)) : CallM f g t e c0 s0 :=
  CallM.wr e1 (e2 _ (MMR R)) (rel_rule R hc l met).rel (by omega) (by omega)
theorem CallM.find {c0 s0 f9 : Nat} {f : Option ((Int32 × Nat × Nat) × y_H)} {g : y_H → Option (Int32 × y_H)} (R : RelP h t e N C S A) (hc : c < C) (l : List Int32) (met : Int32) (e1 : f = some ((met, c0, s0), s_I (s_I (s_I (s_B (cMks (s_B (s_I h 16 1 0) (64 * c + 21) 7 false) l) (64 * c + 21) 7 true) (64 * c + 21) 6 (y_I h 1826 c + 1)) 10 6 met) 36 f9 (y_I h 2658 f9 + 1))) (e2 : ∀ G, MM h G → g G = some (met, s_I (s_I (s_I (mMks (s_I G 11 46 0) l) 1826 c (y_I h 1826 c + 1)) 2658 f9 (y_I h 2658 f9 + 1)) 11 47 met)) : CallM f g t e c0 s0 :=
  CallM.wr e1 (e2 _ (MMF R)) (rel_find R hc l met).rel (by omega) (by omega)
theorem CallM.refu {c0 s0 : Nat} {f : Option ((Int32 × Nat × Nat) × y_H)} {g : y_H → Option (Int32 × y_H)} (R : RelP h t e N C S A) (met : Int32) (e1 : f = some ((met, c0, s0), s_I (s_I h 16 1 0) 10 6 met)) (e2 : ∀ G, MM h G → g G = some (met, s_I (s_I G 11 46 0) 11 47 met)) : CallM f g t e c0 s0 :=
  CallM.wr e1 (e2 _ (MM0 R)) (rel_refused R met).rel (by omega) (by omega)
end GB
