/-! run: both loops, side by side -/
def PM9 (a k : Nat) : Prop := a = 2594 ∨ a = 11 ∧ (k = 46 ∨ k = 80 ∨ k = 81 ∨ k = 82 ∨ k = 84 ∨ k = 85 ∨ k = 91) ∨ a = 3682 ∨ a = 3746 ∨ a = 3810 ∨ a = 3874 ∨ a = 3938 ∨ a = 4002 ∨ a = 4066
def frs (D : Nat) (G G2 : y_H) : Prop := ag PM9 (fun _ => False) G G2 ∧ ∀ i, i ≤ D → y_I G2 3810 i = y_I G 3810 i ∧ y_I G2 3874 i = y_I G 3874 i ∧ y_I G2 3938 i = y_I G 3938 i ∧ y_I G2 4002 i = y_I G 4002 i ∧ y_I G2 4066 i = y_I G 4066 i
def Out (h : y_H) (t N C D K en : Nat) (G X2 : y_H) (met : Int32) : Prop := ∃ G2, RR h X2 G2 N C ∧ frs D G G2 ∧ y_I G2 11 85 = nI (D + 1) ∧ ((met = 0 ∧ y_I G2 11 91 = nI en ∧ ∀ k o, Ev t k 0 G2 o → Ev t (k + K) 0 G o) ∨ ∃ f w, (1 ≤ f ∧ f ≤ 7) ∧ w < 10 ∧ met = nI (8 * (10 * t + w) + f) ∧ ∀ q k o, q ≤ D + 2 → EvR t q k f w G2 o → Ev t (k + K) 0 G o)
def Cn (h : y_H) (t N C at9 en dep d : Nat) (X G : y_H) (c0 s0 : Nat) : Prop := ∃ met c1 s1 X2, (∀ p m, p ≤ at9 → en - at9 < m → y_lp cBt (cBd (f_X8_workOps d)) m 15 (nI (10 * t + en)) (nI dep) (nI (10 * t + p)) (nI (10 * t + at9)) c0 s0 X = some ((met, c1, s1), X2)) ∧ (c1 ≤ c0 + (en - at9) ∧ s1 ≤ s0 + 127 * (en - at9)) ∧ Out h t N C dep (4 * (en - at9)) en G X2 met
def Hy (h : y_H) (t N C at9 en dep d : Nat) (X G : y_H) : Prop := (at9 ≤ en ∧ en ≤ 10 ∧ dep ≤ at9 ∧ d + dep = 13) ∧ RR h X G N C ∧ y_I G 11 85 = nI (dep + 1) ∧ y_I G 11 91 = nI at9 ∧ y_I G 3874 dep = nI en
def Bg (h : y_H) (t N C n : Nat) : Prop := ∀ at9 en dep d X G c0 s0, en - at9 ≤ n → Hy h t N C at9 en dep d X G → Cn h t N C at9 en dep d X G c0 s0
section RUJ
variable {h X X2 X3 G G2 G3 : y_H} {N C S A n t t9 e c0 s0 c1 s1 c2 s2 en at9 mid nx k f w dep d D : Nat} {a b met m1 m2 : Int32} {U : Nat → Nat → Prop}
theorem frs.refl : frs D G G := ⟨ag.refl _ _ _, fun _ _ => ⟨rfl, rfl, rfl, rfl, rfl⟩⟩
theorem frs.trans (a : frs D G G2) (b : frs D G2 G3) : frs D G G3 := ⟨ag.trans a.1 b.1, fun i hi => by
  obtain ⟨x1, x2, x3, x4, x5⟩ := a.2 i hi
  obtain ⟨y1, y2, y3, y4, y5⟩ := b.2 i hi
  exact ⟨y1.trans x1, y2.trans x2, y3.trans x3, y4.trans x4, y5.trans x5⟩⟩
theorem frs.le {D2 : Nat} (a : frs D G G2) (le : D2 ≤ D) : frs D2 G G2 := ⟨a.1, fun i hi => a.2 i (by omega)⟩
theorem frs.of (g : ag U (fun _ => False) G G2) (c : ∀ a k, U a k → PM9 a k ∧ ¬ ((a = 3810 ∨ a = 3874 ∨ a = 3938 ∨ a = 4002 ∨ a = 4066) ∧ k ≤ D)) : frs D G G2 := ⟨g.mono (fun a k q => (c a k q).1) (fun _ q => q), fun i hi => ⟨g.I (fun z => (c _ _ z).2 (by omega)), g.I (fun z => (c _ _ z).2 (by omega)), g.I (fun z => (c _ _ z).2 (by omega)), g.I (fun z => (c _ _ z).2 (by omega)), g.I (fun z => (c _ _ z).2 (by omega))⟩⟩
theorem frs.kp (g : kpG G G2) : frs D G G2 := frs.of g (fun a k q => by simp only [PK9, PM9] at q ⊢; omega)
theorem op1_ag : ag (fun a k => a = 11 ∧ (k = 84 ∨ k = 91)) (fun _ => False) G (op1 G at9) := by
  unfold op1
  exact ag.sI (ag.sI (ag.refl _ _ _) (by omega)) (by omega)
theorem psh9_ag {p1 p2 p3 : Int32} : ag (fun a k => a = 11 ∧ k = 85 ∨ (a = 3810 ∨ a = 3874 ∨ a = 3938 ∨ a = 4002) ∧ k = D) (fun _ => False) G (psh9 G D p1 p2 p3) := by
  unfold psh9
  exact ag.sI (ag.sI (ag.sI (ag.sI (ag.sI (ag.refl _ _ _) (by omega)) (by omega)) (by omega)) (by omega)) (by omega)
theorem sec9_ag : ag (fun a k => (a = 3810 ∨ a = 3874) ∧ k = D) (fun _ => False) G (sec9 G D nx) := by
  unfold sec9
  exact ag.sI (ag.sI (ag.refl _ _ _) (by omega)) (by omega)
theorem RR_fr' (r : RR h X G N C) (g : ag U (fun _ => False) G G2) (c : ∀ a k, U a k → FR9 a k) : RR h X G2 N C := RR_fr r (g.mono c (fun _ q => q))
theorem RR_op1 (r : RR h X G N C) (e2 : y_I G 11 91 = nI at9) : RR h (cop X) (op1 G at9) N C := by
  have z := RR_bg r
  rw [e2, nI_1] at z
  exact z
theorem Cn.pre (ht : t < 6) (he : en ≤ 10) (hn : at9 < nx ∧ nx ≤ en) (K : Cn h t N C nx en dep d X2 G2 c1 s1) (H : ∀ j p, p ≤ at9 → ∃ q, (q = nx ∨ q ≤ at9 ∧ nx = at9 + 1) ∧ cBd (f_X8_workOps d) j 15 (nI (10 * t + en)) (nI dep) (nI (10 * t + p)) (nI (10 * t + at9)) c0 s0 X = j 15 (nI (10 * t + en)) (nI dep) (nI (10 * t + q)) (nI (10 * t + (at9 + 1))) c1 s1 X2) (hc : c1 ≤ c0 + (nx - at9)) (hs : s1 ≤ s0 + 127 * (nx - at9)) (F : frs dep G G2) (E : ∀ k o, Ev t k 0 G2 o → Ev t (k + 4 * (nx - at9)) 0 G o) : Cn h t N C at9 en dep d X G c0 s0 := by
  obtain ⟨met, c2, s2, X4, k1, ⟨k2, k3⟩, G4, r4, F4, d4, O⟩ := K
  refine ⟨met, c2, s2, X4, fun p m hp hm => ?_, ⟨by omega, by omega⟩, G4, r4, F.trans F4, d4, ?_⟩
  · obtain ⟨m', rfl⟩ : ∃ m', m = m' + 1 := ⟨m - 1, by omega⟩
    show cBd (f_X8_workOps d) (y_lp cBt (cBd (f_X8_workOps d)) m') 15 (nI (10 * t + en)) (nI dep) (nI (10 * t + p)) (nI (10 * t + at9)) c0 s0 X = _
    obtain ⟨q, hq, e9⟩ := H (y_lp cBt (cBd (f_X8_workOps d)) m') p hp
    rw [e9]
    rcases hq with hq | ⟨hq, en1⟩
    · have z := c_go ht he hn.2 (fun m hm => k1 nx m (Nat.le_refl _) hm) (nx - (at9 + 1)) (by omega) m' (by omega)
      rw [show nx - (nx - (at9 + 1)) = at9 + 1 by omega] at z
      rw [hq]
      exact z
    · rw [← en1]
      exact k1 q m' (by omega) (by omega)
  · rcases O with ⟨o1, o2, o3⟩ | ⟨f, w, hf, hw, o1, o3⟩
    · exact Or.inl ⟨o1, o2, fun k o z => (E _ _ (o3 k o z)).mono (by omega)⟩
    · exact Or.inr ⟨f, w, hf, hw, o1, fun q k o hq z => (E _ _ (o3 q k o hq z)).mono (by omega)⟩
theorem Cn.stop (lt : at9 < en) (H : ∀ j p, p ≤ at9 → cBd (f_X8_workOps d) j 15 (nI (10 * t + en)) (nI dep) (nI (10 * t + p)) (nI (10 * t + at9)) c0 s0 X = some ((met, c1, s1), X2)) (hc : c1 ≤ c0 + (en - at9)) (hs : s1 ≤ s0 + 127 * (en - at9)) (r : RR h X2 G2 N C) (F : frs dep G G2) (d2 : y_I G2 11 85 = nI (dep + 1)) (hf : 1 ≤ f ∧ f ≤ 7) (hw : w < 10) (em : met = nI (8 * (10 * t + w) + f)) (E : ∀ q k o, q ≤ dep + 2 → EvR t q k f w G2 o → Ev t (k + 4 * (en - at9)) 0 G o) : Cn h t N C at9 en dep d X G c0 s0 := by
  refine ⟨met, c1, s1, X2, fun p m hp hm => ?_, ⟨hc, hs⟩, G2, r, F, d2, Or.inr ⟨f, w, hf, hw, em, E⟩⟩
  obtain ⟨m', rfl⟩ : ∃ m', m = m' + 1 := ⟨m - 1, by omega⟩
  exact H _ p hp
theorem rc_of {x y : Nat} {o : (Int32 × Nat × Nat) × y_H} (hd : dep + 1 ≤ 10) (hy : y - x ≤ 10) (K : ∀ p m, p ≤ x → y - x < m → y_lp cBt (cBd (f_X8_workOps d)) m 15 (nI (10 * t + y)) (nI (dep + 1)) (nI (10 * t + p)) (nI (10 * t + x)) c0 s0 X = some o) : f_X8_workOps (d + 1) 15 (nI (10 * t + x)) (nI (10 * t + y)) (nI (dep + 1)) c0 s0 X = some o := by
  have l1 : nI (dep + 1) ≤ (10 : Int32) := nI_le (b := 10) (by omega) (by omega)
  show fb_X8_workOps (f_X8_workOps d) 15 (nI (10 * t + x)) (nI (10 * t + y)) (nI (dep + 1)) c0 s0 X = some o
  unfold fb_X8_workOps y_jl
  rw [if_pos l1]
  exact K x y_fu (Nat.le_refl _) (by unfold y_fu; omega)
theorem big_op (R : RelP h t9 e N C S A) (ht : t < 6) (B : Bg h t N C n) (hn : en - at9 ≤ n + 1) (H : Hy h t N C at9 en dep d X G) (lt : at9 < en) (hk : k ≤ 13) (ek : y_I h 3490 (10 * t + at9) = nI k) : Cn h t N C at9 en dep d X G c0 s0 := by
  obtain ⟨W, rT, rM, rB, rC, rS, rV, rL, rJ, rP, rH, rD, rQ, rK⟩ := id R
  obtain ⟨⟨h1, h2, h3, h4⟩, r, e1, e2, e3⟩ := H
  obtain ⟨-, kk, ka, kb, -⟩ := rK
  have WX := RXs r.1.1 W
  have WG := RXs r.1.2 W
  have xk : y_I X 39 (10 * t + at9) = nI k := (r.1.1.I (by unfold PR9; omega)).trans ((congrFun kk _).trans ek)
  have xa : y_I X 103 (10 * t + at9) = y_I h 3554 (10 * t + at9) := (r.1.1.I (by unfold PR9; omega)).trans (congrFun ka _)
  have xb : y_I X 167 (10 * t + at9) = y_I h 3618 (10 * t + at9) := (r.1.1.I (by unfold PR9; omega)).trans (congrFun kb _)
  have gk : y_I G 3490 (10 * t + at9) = nI k := (r.1.2.I (by unfold PR9; omega)).trans ek
  have ga : y_I G 3554 (10 * t + at9) = y_I h 3554 (10 * t + at9) := r.1.2.I (by unfold PR9; omega)
  have gb : y_I G 3618 (10 * t + at9) = y_I h 3618 (10 * t + at9) := r.1.2.I (by unfold PR9; omega)
  obtain ⟨g, gi, X2, G2, c1, s1, ⟨hg, eg⟩, f1, f2, r2, kp, hc, hs⟩ := st_k (c0 := c0) (s0 := s0) R (RR_op1 r e2) hk (y_I h 3554 (10 * t + at9)) (y_I h 3618 (10 * t + at9))
  have W2 := RXs r2.1.2 W
  have d2 : y_I G2 11 85 = nI (dep + 1) := (ag.I kp (by unfold PK9; omega)).trans ((op1_I (by omega)).trans e1)
  have F : frs dep G G2 := (frs.of op1_ag (fun a k q => by unfold PM9; omega)).trans (frs.kp kp)
  rw [← xa, ← xb] at f1
  rw [← ga, ← gb] at f2
  by_cases g0 : g = 0
  · have eg0 : gi = 0 := by rw [eg, g0]; rfl
    rw [eg0] at f1 f2
    have p2 : y_I G2 11 91 = nI (at9 + 1) := by
      rw [ag.I kp (by unfold PK9; omega)]
      unfold op1
      rw [e_IIs]
    have n2 : y_I G2 3874 dep = nI en := (ag.I kp (by unfold PK9; omega)).trans ((op1_I (by omega)).trans e3)
    exact Cn.pre ht h2 (nx := at9 + 1) (by omega) (B (at9 + 1) en dep d X2 G2 c1 s1 (by omega) ⟨⟨by omega, h2, by omega, h4⟩, r2, d2, p2, n2⟩) (fun j p hp => ⟨p, Or.inr ⟨hp, rfl⟩, c_op0 hp WX ht lt h2 hk xk f1⟩) (by omega) (by omega) F (fun k2 o E => (Ev.step E (fun j => s_op0 WG ht (by omega) e1 e2 e3 lt h2 hk gk f2)).mono (by omega))
  · rw [eg] at f1 f2
    refine Cn.stop lt (fun j p hp => c_opf hp WX ht lt h2 hk xk (by omega) f1) (by omega) (by omega) r2 F d2 (f := g) (w := at9) (by omega) (by omega) rfl (fun q k2 o hq E => ?_)
    obtain ⟨rr, G3, E1, E2⟩ := E
    exact (Ev.step E2 (fun j => s_opf WG W2 ht (by omega) e1 e2 e3 lt h2 hk gk (by omega) f2 (E1.raise (by omega)))).mono (by omega)
end RUJ
