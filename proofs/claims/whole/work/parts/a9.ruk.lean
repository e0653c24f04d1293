/-! run: tries and lasts -/
section RUK
variable {h X X2 X3 G G2 G3 G4 : y_H} {N C S A n t t9 e c0 s0 c1 s1 c2 s2 en at9 mid nx k f w dep d D : Nat} {a b met m1 m2 : Int32}
theorem psh9_w {p1 p2 p3 : Int32} (w : Sh G) : Sh (psh9 G D p1 p2 p3) := Sh_sI (Sh_sI (Sh_sI (Sh_sI (Sh_sI w))))
theorem psh9_s {p1 p2 p3 : Int32} : y_I (psh9 G D p1 p2 p3) 3810 D = p1 := by
  unfold psh9
  rw [e_IIn (by omega), e_IIn (by omega), e_IIn (by omega), e_IIn (by omega), e_IIs]
theorem psh9_e {p1 p2 p3 : Int32} : y_I (psh9 G D p1 p2 p3) 3874 D = p2 := by
  unfold psh9
  rw [e_IIn (by omega), e_IIn (by omega), e_IIn (by omega), e_IIs]
theorem psh9_m {p1 p2 p3 : Int32} : y_I (psh9 G D p1 p2 p3) 3938 D = p3 := by
  unfold psh9
  rw [e_IIn (by omega), e_IIn (by omega), e_IIs]
theorem psh9_p {p1 p2 p3 : Int32} : y_I (psh9 G D p1 p2 p3) 4002 D = 0 := by
  unfold psh9
  rw [e_IIn (by omega), e_IIs]
theorem psh9_d {p1 p2 p3 : Int32} : y_I (psh9 G D p1 p2 p3) 11 85 = nI (D + 1) := by
  unfold psh9
  rw [e_IIs]
theorem RR_psh {p1 p2 p3 : Int32} (r : RR h X G N C) : RR h X (psh9 G D p1 p2 p3) N C := RR_fr' r psh9_ag (fun a k q => by unfold FR9; omega)
theorem dp_ag (G : y_H) (x : Int32) : ag (fun a k => a = 11 ∧ k = 85) (fun _ => False) G (s_I G 11 85 x) := ag.sI (ag.refl _ _ _) ⟨rfl, rfl⟩
theorem RR_dp {x : Int32} (r : RR h X G N C) : RR h X (s_I G 11 85 x) N C := RR_fr' r (dp_ag G x) (fun a k q => by unfold FR9; omega)
theorem dq_ag (G : y_H) (x y : Int32) : ag (fun a k => a = 11 ∧ (k = 85 ∨ k = 91)) (fun _ => False) G (s_I (s_I G 11 91 y) 11 85 x) := ag.sI (ag.sI (ag.refl _ _ _) ⟨rfl, Or.inr rfl⟩) ⟨rfl, Or.inl rfl⟩
theorem RR_dq {x y : Int32} (r : RR h X G N C) : RR h X (s_I (s_I G 11 91 y) 11 85 x) N C := RR_fr' r (dq_ag G x y) (fun a k q => by unfold FR9; omega)
theorem frs_psh {p1 p2 p3 : Int32} : frs dep G (psh9 (op1 G at9) (dep + 1) p1 p2 p3) := (frs.of op1_ag (fun a k q => by unfold PM9; omega)).trans (frs.of psh9_ag (fun a k q => by unfold PM9; omega))
theorem frs_dp {x : Int32} : frs D G (s_I G 11 85 x) := frs.of (dp_ag G x) (fun a k q => by unfold PM9; omega)
theorem frs_dq {x y : Int32} : frs D G (s_I (s_I G 11 91 y) 11 85 x) := frs.of (dq_ag G x y) (fun a k q => by unfold PM9; omega)
theorem big_try (R : RelP h t9 e N C S A) (ht : t < 6) (B : Bg h t N C n) (hn : en - at9 ≤ n + 1) (H : Hy h t N C at9 en dep d X G) (lt : at9 < en) (ek : y_I h 3490 (10 * t + at9) = 14) : Cn h t N C at9 en dep d X G c0 s0 := by
  obtain ⟨W, rT, rM, rB, rC, rS, rV, rL, rJ, rP, rH, rD, rQ, rK⟩ := id R
  obtain ⟨⟨h1, h2, h3, h4⟩, r, e1, e2, e3⟩ := H
  obtain ⟨-, kk, ka, kb, -⟩ := rK
  have WX := RXs r.1.1 W
  have WG := RXs r.1.2 W
  have xk : y_I X 39 (10 * t + at9) = 14 := (r.1.1.I (by unfold PR9; omega)).trans ((congrFun kk _).trans ek)
  have xa : y_I X 103 (10 * t + at9) = y_I h 3554 (10 * t + at9) := (r.1.1.I (by unfold PR9; omega)).trans (congrFun ka _)
  have xb : y_I X 167 (10 * t + at9) = y_I h 3618 (10 * t + at9) := (r.1.1.I (by unfold PR9; omega)).trans (congrFun kb _)
  have gk : y_I G 3490 (10 * t + at9) = 14 := (r.1.2.I (by unfold PR9; omega)).trans ek
  have ga : y_I G 3554 (10 * t + at9) = y_I h 3554 (10 * t + at9) := r.1.2.I (by unfold PR9; omega)
  have gb : y_I G 3618 (10 * t + at9) = y_I h 3618 (10 * t + at9) := r.1.2.I (by unfold PR9; omega)
  have st := fun j => s_try (j := j) WG ht (show dep < 11 by omega) e1 e2 e3 lt h2 gk
  rw [ga, gb] at st
  obtain ⟨a, ea⟩ : ∃ a, a = y_I h 3554 (10 * t + at9) := ⟨_, rfl⟩
  obtain ⟨b, eb⟩ : ∃ b, b = y_I h 3618 (10 * t + at9) := ⟨_, rfl⟩
  rw [← ea, ← eb] at st
  rw [← ea] at xa
  rw [← eb] at xb
  have bb := bh_b (a := a) (x := at9 + 1) (en := en) (by omega) h2
  obtain ⟨nx, enx⟩ : ∃ nx, nx = bh (at9 + 1) a en := ⟨_, rfl⟩
  rw [← enx] at st bb
  obtain ⟨G1, eG1⟩ : ∃ G1, G1 = psh9 (op1 G at9) (dep + 1) 1 (nI nx) b := ⟨_, rfl⟩
  rw [← eG1] at st
  obtain ⟨d', rfl⟩ : ∃ d', d = d' + 1 := ⟨d - 1, by omega⟩
  have r1 : RR h (cop X) G1 N C := by rw [eG1]; exact RR_psh (RR_op1 r e2)
  have F1 : frs dep G G1 := by rw [eG1]; exact frs_psh
  have p1 : y_I G1 11 91 = nI (at9 + 1) := by
    rw [eG1, psh9_ag.I (by omega)]
    unfold op1
    rw [e_IIs]
  obtain ⟨met, c1, s1, X2, k1, ⟨k2, k3⟩, G2, r2, F2, d2, O⟩ := B (at9 + 1) nx (dep + 1) d' (cop X) G1 c0 s0 (by omega) ⟨⟨bb.1, by omega, by omega, by omega⟩, r1, by rw [eG1, psh9_d], p1, by rw [eG1, psh9_e]⟩
  have er := rc_of (by omega) (by omega) k1
  have W2 := RXs r2.1.1 W
  have WG2 := RXs r2.1.2 W
  have ct := fun j (p : Nat) (hp : p ≤ at9) => c_try (j := j) (dep := dep) hp WX W2 ht lt h2 xk (by rw [xa]; exact enx) xb er
  obtain ⟨f1, f2, f3, f4, f5⟩ := F2.2 (dep + 1) (Nat.le_refl _)
  have s2 : y_I G2 3810 (dep + 1) = 1 := f1.trans (by rw [eG1, psh9_s])
  have n2 : y_I G2 3874 (dep + 1) = nI nx := f2.trans (by rw [eG1, psh9_e])
  have m2 : y_I G2 3938 (dep + 1) = b := f3.trans (by rw [eG1, psh9_m])
  have F3 : frs dep G G2 := F1.trans (F2.le (by omega))
  have endp : y_I G2 3874 dep = nI en := (F3.2 dep (Nat.le_refl _)).2.1.trans e3
  rcases O with ⟨o1, o2, o3⟩ | ⟨f, w, hf, hw, o1, o3⟩
  · have F4 : frs dep G (s_I G2 11 85 (nI (dep + 1))) := F3.trans frs_dp
    refine Cn.pre ht h2 (nx := nx) (by omega) (B nx en dep (d' + 1) X2 (s_I G2 11 85 (nI (dep + 1))) c1 s1 (by omega) ⟨⟨bb.2, h2, by omega, h4⟩, RR_dp r2, e_IIs, by rw [e_IIk (by omega)]; exact o2, by rw [e_IIn (by omega)]; exact endp⟩) (fun j p hp => ⟨nx, Or.inl rfl, (ct j p hp).1 o1⟩) (by omega) (by omega) F4 (fun k o E => ?_)
    have E1 := Ev.step E (fun j => s_pop (j := j) WG2 (show dep + 1 < 12 by omega) d2 o2 n2 (Nat.le_refl _) (by omega) s2)
    exact (Ev.step (o3 _ _ E1) st).mono (by omega)
  · by_cases hit : b = 0 ∨ b = nI f
    · have r3 : RR h (s_L X2 15 9 (Int32.toInt64 (nI f))) (s_L (s_I (s_I G2 11 91 (nI nx)) 11 85 (nI (dep + 1))) 11 80 (Int32.toInt64 (nI f))) N C := RR_n (RR_dq r2) _
      have F4 : frs dep G (s_L (s_I (s_I G2 11 91 (nI nx)) 11 85 (nI (dep + 1))) 11 80 (Int32.toInt64 (nI f))) := F3.trans ((frs_dq (x := nI (dep + 1)) (y := nI nx)).trans (frs.of (ag.sL (U := fun a k => a = 11 ∧ k = 80) (ag.refl _ _ _) ⟨rfl, rfl⟩) (fun a k q => by unfold PM9; omega)))
      refine Cn.pre ht h2 (nx := nx) (by omega) (B nx en dep (d' + 1) _ _ c1 s1 (by omega) ⟨⟨bb.2, h2, by omega, h4⟩, r3, by rw [e_IL, e_IIs], by rw [e_IL, e_IIk (by omega), e_IIs], by rw [e_IL, e_IIn (by omega), e_IIn (by omega)]; exact endp⟩) (fun j p hp => ⟨nx, Or.inl rfl, ((ct j p hp).2 f w hw hf o1).1 hit⟩) (by omega) (by omega) F4 (fun k o E => ?_)
      have E1 := o3 1 _ _ (by omega) ⟨0, _, EvQ.stop (fun j => q_hit (j := j) WG2 (show dep + 1 < 12 by omega) d2 n2 s2 m2 hit), E⟩
      exact (Ev.step E1 st).mono (by omega)
    · refine Cn.stop lt (fun j p hp => ((ct j p hp).2 f w hw hf o1).2 hit) (by omega) (by omega) (RR_dq (x := nI (dep + 1)) (y := nI nx) r2) (F3.trans frs_dq) e_IIs hf hw o1 (fun q k o hq E => ?_)
      obtain ⟨rr, G5, E1, E2⟩ := E
      have E3 := o3 (q + 1) k o (by omega) ⟨rr, G5, EvQ.step E1 (fun j => q_miss (j := j) WG2 (show dep + 1 < 12 by omega) d2 n2 s2 m2 hit), E2⟩
      exact (Ev.step E3 st).mono (by omega)
theorem sec9_w (w : Sh G) : Sh (sec9 G D nx) := Sh_sI (Sh_sI w)
theorem sec9_s : y_I (sec9 G D nx) 3810 D = 3 := by
  unfold sec9
  rw [e_IIn (by omega), e_IIs]
theorem sec9_e : y_I (sec9 G D nx) 3874 D = nI nx := by
  unfold sec9
  rw [e_IIs]
/-- a frame's second part, with what is pending -/
def snd9 (h : y_H) (t N C dep en mid nx K : Nat) (G X2 G3 : y_H) (m1 : Int32) : Prop := RR h X2 G3 N C ∧ frs dep G G3 ∧ (y_I G3 11 85 = nI (dep + 2) ∧ y_I G3 11 91 = nI mid ∧ y_I G3 3874 (dep + 1) = nI nx ∧ y_I G3 3810 (dep + 1) = 3) ∧ (∀ k o, Ev t k 0 G3 o → Ev t (k + K) 0 G o) ∧ ((m1 = 0 ∧ y_I G3 4002 (dep + 1) = 0) ∨ ∃ f w, (1 ≤ f ∧ f ≤ 7) ∧ w < 10 ∧ m1 = nI (8 * (10 * t + w) + f) ∧ y_I G3 4002 (dep + 1) = nI f ∧ y_I G3 4066 (dep + 1) = nI w)
theorem big_l1 (W : Sh h) (ht : t < 6) (hd : dep < 10) (hx : mid ≤ en) (he : en ≤ 10) {G1 : y_H} {K : Nat} (F1 : frs dep G G1) (e3 : y_I G 3874 dep = nI en) (s1 : y_I G1 3810 (dep + 1) = 2) (n1 : y_I G1 3874 (dep + 1) = nI mid) (b1 : y_I G1 3938 (dep + 1) = b) (p1 : y_I G1 4002 (dep + 1) = 0) (O : Out h t N C (dep + 1) K mid G1 X2 m1) (st : ∀ k o, Ev t k 0 G1 o → Ev t (k + 1) 0 G o) : ∃ G3, snd9 h t N C dep en mid (bh mid b en) (K + 2) G X2 G3 m1 := by
  obtain ⟨G2, r2, F2, d2, O⟩ := O
  obtain ⟨f1, f2, f3, f4, f5⟩ := F2.2 (dep + 1) (Nat.le_refl _)
  have WG2 := RXs r2.1.2 W
  have F3 : frs dep G G2 := F1.trans (F2.le (by omega))
  have endp : y_I G2 3874 dep = nI en := (F3.2 dep (Nat.le_refl _)).2.1.trans e3
  rcases O with ⟨o1, o2, o3⟩ | ⟨f, w, hf, hw, o1, o3⟩
  · refine ⟨sec9 G2 (dep + 1) (bh mid b en), RR_fr' r2 sec9_ag (fun a k q => by unfold FR9; omega), F3.trans (frs.of sec9_ag (fun a k q => by unfold PM9; omega)), ⟨?_, ?_, sec9_e, sec9_s⟩, fun k o E => ?_, Or.inl ⟨o1, ?_⟩⟩
    · rw [sec9_ag.I (by omega)]; exact d2
    · rw [sec9_ag.I (by omega)]; exact o2
    · have E1 := Ev.step E (fun j => s_sec (j := j) WG2 (show dep < 11 by omega) d2 o2 endp (f2.trans n1) (Nat.le_refl _) (by omega) (f1.trans s1) (f3.trans b1) hx he)
      exact (st _ _ (o3 _ _ E1)).mono (by omega)
    · rw [sec9_ag.I (by omega)]; exact f4.trans p1
  · have g4 : ag (fun a k => a = 11 ∧ k = 91 ∨ (a = 3810 ∨ a = 3874 ∨ a = 4002 ∨ a = 4066) ∧ k = dep + 1) (fun _ => False) G2 (s_I (s_I (sec9 (s_I G2 11 91 (nI mid)) (dep + 1) (bh mid b en)) 4002 (dep + 1) (nI f)) 4066 (dep + 1) (nI w)) := by
      unfold sec9
      exact ag.sI (ag.sI (ag.sI (ag.sI (ag.sI (ag.refl _ _ _) (by omega)) (by omega)) (by omega)) (by omega)) (by omega)
    refine ⟨_, RR_fr' r2 g4 (fun a k q => by unfold FR9; omega), F3.trans (frs.of g4 (fun a k q => by unfold PM9; omega)), ⟨?_, ?_, ?_, ?_⟩, fun k o E => ?_, Or.inr ⟨f, w, hf, hw, o1, ?_, e_IIs⟩⟩
    · rw [g4.I (by omega)]; exact d2
    · unfold sec9
      rw [e_IIn (by omega), e_IIn (by omega), e_IIn (by omega), e_IIn (by omega), e_IIs]
    · rw [e_IIn (by omega), e_IIn (by omega), sec9_e]
    · rw [e_IIn (by omega), e_IIn (by omega), sec9_s]
    · have E1 := o3 1 _ _ (by omega) ⟨0, _, EvQ.stop (fun j => q_sec (j := j) WG2 (show dep < 11 by omega) d2 endp (f2.trans n1) (f1.trans s1) (f3.trans b1) hx he), E⟩
      exact (st _ _ E1).mono (by omega)
    · rw [e_IIn (by omega), e_IIs]
theorem big_last (R : RelP h t9 e N C S A) (ht : t < 6) (B : Bg h t N C n) (hn : en - at9 ≤ n + 1) (H : Hy h t N C at9 en dep d X G) (lt : at9 < en) (ek : y_I h 3490 (10 * t + at9) = 15) : Cn h t N C at9 en dep d X G c0 s0 := by
  obtain ⟨W, rT, rM, rB, rC, rS, rV, rL, rJ, rP, rH, rD, rQ, rK⟩ := id R
  obtain ⟨⟨h1, h2, h3, h4⟩, r, e1, e2, e3⟩ := H
  obtain ⟨-, kk, ka, kb, -⟩ := rK
  have WX := RXs r.1.1 W
  have WG := RXs r.1.2 W
  have xk : y_I X 39 (10 * t + at9) = 15 := (r.1.1.I (by unfold PR9; omega)).trans ((congrFun kk _).trans ek)
  have xa : y_I X 103 (10 * t + at9) = y_I h 3554 (10 * t + at9) := (r.1.1.I (by unfold PR9; omega)).trans (congrFun ka _)
  have xb : y_I X 167 (10 * t + at9) = y_I h 3618 (10 * t + at9) := (r.1.1.I (by unfold PR9; omega)).trans (congrFun kb _)
  have gk : y_I G 3490 (10 * t + at9) = 15 := (r.1.2.I (by unfold PR9; omega)).trans ek
  have ga : y_I G 3554 (10 * t + at9) = y_I h 3554 (10 * t + at9) := r.1.2.I (by unfold PR9; omega)
  have gb : y_I G 3618 (10 * t + at9) = y_I h 3618 (10 * t + at9) := r.1.2.I (by unfold PR9; omega)
  have st := fun j => s_last (j := j) WG ht (show dep < 11 by omega) e1 e2 e3 lt h2 gk
  rw [ga, gb] at st
  obtain ⟨a, ea⟩ : ∃ a, a = y_I h 3554 (10 * t + at9) := ⟨_, rfl⟩
  obtain ⟨b, eb⟩ : ∃ b, b = y_I h 3618 (10 * t + at9) := ⟨_, rfl⟩
  rw [← ea, ← eb] at st
  rw [← ea] at xa
  rw [← eb] at xb
  have bb := bh_b (a := a) (x := at9 + 1) (en := en) (by omega) h2
  obtain ⟨mid, emid⟩ : ∃ mid, mid = bh (at9 + 1) a en := ⟨_, rfl⟩
  rw [← emid] at st bb
  have bc := bh_b (a := b) (x := mid) (en := en) bb.2 h2
  obtain ⟨nx, enx⟩ : ∃ nx, nx = bh mid b en := ⟨_, rfl⟩
  rw [← enx] at bc
  obtain ⟨G1, eG1⟩ : ∃ G1, G1 = psh9 (op1 G at9) (dep + 1) 2 (nI mid) b := ⟨_, rfl⟩
  rw [← eG1] at st
  obtain ⟨d', rfl⟩ : ∃ d', d = d' + 1 := ⟨d - 1, by omega⟩
  have r1 : RR h (cop X) G1 N C := by rw [eG1]; exact RR_psh (RR_op1 r e2)
  have F1 : frs dep G G1 := by rw [eG1]; exact frs_psh
  have p1 : y_I G1 11 91 = nI (at9 + 1) := by
    rw [eG1, psh9_ag.I (by omega)]
    unfold op1
    rw [e_IIs]
  obtain ⟨m1, c1, s1, X2, k1, ⟨k2, k3⟩, O⟩ := B (at9 + 1) mid (dep + 1) d' (cop X) G1 c0 s0 (by omega) ⟨⟨bb.1, by omega, by omega, by omega⟩, r1, by rw [eG1, psh9_d], p1, by rw [eG1, psh9_e]⟩
  have er := rc_of (by omega) (by omega) k1
  obtain ⟨G3, r3, F3, ⟨u1, u2, u3, u4⟩, E3, P⟩ := big_l1 W ht (show dep < 10 by omega) bb.2 h2 F1 e3 (by rw [eG1, psh9_s]) (by rw [eG1, psh9_e]) (by rw [eG1, psh9_m]) (by rw [eG1, psh9_p]) O (fun k o E => Ev.step E st)
  rw [← enx] at u3
  have W2 := RXs r3.1.1 W
  obtain ⟨m2, c2, s2, X3, v1, ⟨v2, v3⟩, G4, r4, F4, d4, O2⟩ := B mid nx (dep + 1) d' X2 G3 c1 s1 (by omega) ⟨⟨bc.1, by omega, by omega, by omega⟩, r3, u1, u2, u3⟩
  have er2 := rc_of (by omega) (by omega) v1
  have cl := fun j (p : Nat) (hp : p ≤ at9) => c_last (j := j) (dep := dep) hp WX W2 ht lt h2 xk (by rw [xa]; exact emid) (by rw [xb]; exact enx) er er2
  obtain ⟨f1, f2, f3, f4, f5⟩ := F4.2 (dep + 1) (Nat.le_refl _)
  have WG4 := RXs r4.1.2 W
  have sort4 : y_I G4 3810 (dep + 1) = 3 := f1.trans u4
  have end4 : y_I G4 3874 (dep + 1) = nI nx := f2.trans u3
  have F5 : frs dep G G4 := F3.trans (F4.le (by omega))
  have endp : y_I G4 3874 dep = nI en := (F5.2 dep (Nat.le_refl _)).2.1.trans e3
  have F6 : frs dep G (s_I G4 11 85 (nI (dep + 1))) := F5.trans frs_dp
  rcases O2 with ⟨o1, o2, o3⟩ | ⟨f, w, hf, hw, o1, o3⟩
  · rcases P with ⟨q1, q2⟩ | ⟨f, w, hf, hw, q1, q2, q3⟩
    · refine Cn.pre ht h2 (nx := nx) (by omega) (B nx en dep (d' + 1) X3 (s_I G4 11 85 (nI (dep + 1))) c2 s2 (by omega) ⟨⟨bc.2, h2, by omega, h4⟩, RR_dp r4, e_IIs, by rw [e_IIk (by omega)]; exact o2, by rw [e_IIn (by omega)]; exact endp⟩) (fun j p hp => ⟨nx, Or.inl rfl, (cl j p hp).1 q1 o1⟩) (by omega) (by omega) F6 (fun k o E => ?_)
      have E1 := Ev.step E (fun j => s_pop3 (j := j) WG4 (show dep + 1 < 12 by omega) d4 o2 end4 (Nat.le_refl _) (by omega) sort4 (f4.trans q2))
      exact (E3 _ _ (o3 _ _ E1)).mono (by omega)
    · refine Cn.stop lt (fun j p hp => (cl j p hp).2.1 o1 (by rw [q1]; exact met_n0 ht hw hf)) (by omega) (by omega) (RR_dp (x := nI (dep + 1)) r4) F6 e_IIs hf hw q1 (fun q k o hq E => ?_)
      obtain ⟨rr, G5, E1, E2⟩ := E
      have E4 := Ev.step E2 (fun j => s_pop4 (j := j) WG4 (show dep + 1 < 12 by omega) d4 o2 end4 (Nat.le_refl _) (by omega) sort4 (f4.trans q2) (f5.trans q3) hf (E1.raise (by omega)))
      exact (E3 _ _ (o3 _ _ E4)).mono (by omega)
  · refine Cn.stop lt (fun j p hp => (cl j p hp).2.2 (by rw [o1]; exact met_n0 ht hw hf)) (by omega) (by omega) (RR_dp (x := nI (dep + 1)) r4) F6 e_IIs hf hw o1 (fun q k o hq E => ?_)
    obtain ⟨rr, G5, E1, E2⟩ := E
    have E4 := o3 (q + 1) k o (by omega) ⟨rr, G5, EvQ.step E1 (fun j => q_pop (j := j) WG4 (show dep + 1 < 12 by omega) d4 (Or.inr sort4)), E2⟩
    exact (E3 _ _ E4).mono (by omega)
/-- the loops, side by side -/
theorem big (R : RelP h t9 e N C S A) (ht : t < 6) : ∀ n, Bg h t N C n
  | 0 => fun at9 en dep d X G c0 s0 hn H => by
    obtain ⟨⟨h1, h2, h3, h4⟩, r, e1, e2, e3⟩ := H
    have ea : at9 = en := by omega
    refine ⟨0, c0, s0, X, fun p m hp hm => ?_, ⟨by omega, by omega⟩, G, r, frs.refl, e1, Or.inl ⟨rfl, by rw [← ea]; exact e2, fun k o E => E.mono (by omega)⟩⟩
    obtain ⟨m', rfl⟩ : ∃ m', m = m' + 1 := ⟨m - 1, by omega⟩
    exact c_end (by omega) (by omega) ht
  | n + 1 => fun at9 en dep d X G c0 s0 hn H => by
    by_cases lt : at9 < en
    · obtain ⟨k, -, hk, ek⟩ := R.2.2.2.2.2.2.2.2.2.2.2.2.2.2.2.2.2.1 (10 * t + at9)
      by_cases k14 : k = 14
      · rw [k14] at ek
        exact big_try R ht (big R ht n) hn H lt ek
      · by_cases k15 : k = 15
        · rw [k15] at ek
          exact big_last R ht (big R ht n) hn H lt ek
        · exact big_op R ht (big R ht n) hn H lt (show k ≤ 13 by omega) ek
    · exact big R ht n at9 en dep d X G c0 s0 (by omega) H
end RUK
