/-! back: the class -/
section BK
variable {h X G : y_H} {t e N C S A n c s r o : Nat}
def mx (a : Int64) (x : Int32) : Int64 := ((a ^^^ (Int32.toInt64 x)) * (-7046029254386353131 : Int64)) ^^^ (y_lush ((a ^^^ (Int32.toInt64 x)) * (-7046029254386353131 : Int64)) 29)
def fo (f : Nat → Int32) (d : Int64) : Nat → Int64
  | 0 => d
  | i + 1 => mx (fo f d i) (f i)
def oW (h : y_H) (A r n : Nat) : Int32 := ov (fun k => y_I h 2722 (14 * k + 5)) (fun k => if y_I h 2722 (14 * k + 10) = 1 then y_I h 162 n else y_I h 98 n) (nI n) (kn h n) A r
def vBk (h : y_H) (A r i : Nat) : Int32 := if i % 5 = 0 then oB h A r 6 (y_I h 418) (i / 5) else if i % 5 = 1 then oB h A r 7 (y_I h 482) (i / 5) else if i % 5 = 2 then oB h A r 8 (y_I h 546) (i / 5) else if i % 5 = 3 then oB h A r 9 (y_I h 610) (i / 5) else oW h A r (i / 5)
def vCk (h : y_H) (A r i : Nat) : Int32 := if i % 3 = 0 then oC h A r 2 (y_I h 1634) (i / 3) else if i % 3 = 1 then oC h A r 3 (y_I h 1698) (i / 3) else oC h A r 4 (y_I h 1762) (i / 3)
def vSk (h : y_H) (A r i : Nat) : Int32 := if i % 2 = 0 then oS h A r 12 (y_I h 2466) (i / 2) else oS h A r 13 (y_I h 2530) (i / 2)
theorem c_mixed (a : Int64) (x : Int32) : f_X5_mixed a x X = some (mx a x, X) := rfl
theorem m_mixed (a : Int64) (x : Int32) : f_X12_mixed a (Int32.toInt64 x) X = some (mx a x, X) := rfl
theorem ovS {key val : Nat → Int32} {i cur : Int32} {q : Nat} (z : key (A - (q + 1)) = i) : ov key val i cur A (q + 1) = val (A - (q + 1)) := by rw [ov, if_pos z]
theorem ovN {key val : Nat → Int32} {i cur : Int32} {q : Nat} (z : ¬ key (A - (q + 1)) = i) : ov key val i cur A (q + 1) = ov key val i cur A q := by rw [ov, if_neg z]
theorem oB_S {f q : Nat} {cur : Nat → Int32} (z : y_I h 2722 (14 * (A - (q + 1)) + 5) = nI n) : oB h A (q + 1) f cur n = y_I h 2722 (14 * (A - (q + 1)) + f) := by
  unfold oB
  exact if_pos z
theorem oC_S {f q : Nat} {cur : Nat → Int32} (z : y_I h 2722 (14 * (A - (q + 1)) + 1) = nI c) : oC h A (q + 1) f cur c = y_I h 2722 (14 * (A - (q + 1)) + f) := by
  unfold oC
  exact if_pos z
theorem oS_S {f q : Nat} {cur : Nat → Int32} (z : y_I h 2722 (14 * (A - (q + 1)) + 11) = nI s) : oS h A (q + 1) f cur s = y_I h 2722 (14 * (A - (q + 1)) + f) := by
  unfold oS
  exact if_pos z
theorem c_fromEnd (w : Sh X) (ho : o < 60) (eo : y_I X 13 2 = nI o) (hA : A ≤ 60) (eA : y_I X 13 3 = nI A) {q : Nat} (hq : 1 ≤ q ∧ q ≤ A) (ep : y_P X 37 ((o + (A - q)) % 60) = 64 * ((o + (A - q)) % 60) + 24) : f_X5_fromEnd 13 (nI q) X = some (64 * ((o + (A - q)) % 60) + 24, X) := by
  have d1 : decide (1 ≤ nI q ∧ nI q ≤ nI A) = true := decide_eq_true ⟨nI_le (a := 1) hq.1 (by omega), nI_le hq.2 (by omega)⟩
  have e1 : y_rem (nI o + nI A - nI q) 60 = nI ((o + (A - q)) % 60) := by
    rw [i_add, i_sub (by omega), i_r60 (by omega), show o + A - q = o + (A - q) by omega]
  have ix := i_ix (show (o + (A - q)) % 60 < 60 by omega) (by decide)
  have ic := i_cl (show (o + (A - q)) % 60 < 2 ^ 31 by omega)
  unfold f_X5_fromEnd
  (repeat (first | with_reducible apply ev_jn | ((with_reducible apply ev_bd); · first | (simp (disch := omega) only [w.1, eA, eo, c_isWithin, d1, e1, ix, ic, ep, e_KI, e_NI, e_BI, e_LI, e_PI, e_KB, e_NB, e_IB, e_LB, e_PB, e_KL, e_NL, e_IL, e_BL, e_PL, e_KP, e_NP, e_IP, e_BP, e_LP, e_IIs, e_BBs, e_LLs, e_PPs, e_IIn, e_BBn, e_LLn, e_PPn, e_IIk, e_BBk, e_LLk, e_PPk, e_Ks, e_Ns, e_Is, e_Bs, e_Ls, e_Ps, e_Kn, e_Nn, e_In, e_Bn, e_Ln, e_Pn, if_true, if_false, and_self, or_true, true_or, not_false_eq_true, Bool.false_eq_true]; exact rfl) | exact rfl) | ((with_reducible apply ev_cl); · first | (simp (disch := omega) only [w.1, eA, eo, c_isWithin, d1, e1, ix, ic, ep, e_KI, e_NI, e_BI, e_LI, e_PI, e_KB, e_NB, e_IB, e_LB, e_PB, e_KL, e_NL, e_IL, e_BL, e_PL, e_KP, e_NP, e_IP, e_BP, e_LP, e_IIs, e_BBs, e_LLs, e_PPs, e_IIn, e_BBn, e_LLn, e_PPn, e_IIk, e_BBk, e_LLk, e_PPk, e_Ks, e_Ns, e_Is, e_Bs, e_Ls, e_Ps, e_Kn, e_Nn, e_In, e_Bn, e_Ln, e_Pn, if_true, if_false, and_self, or_true, true_or, not_false_eq_true, Bool.false_eq_true]; exact rfl) | exact rfl) | ((with_reducible apply ev_g); · first | (simp (disch := omega) only [w.1, eA, eo, c_isWithin, d1, e1, ix, ic, ep, e_KI, e_NI, e_BI, e_LI, e_PI, e_KB, e_NB, e_IB, e_LB, e_PB, e_KL, e_NL, e_IL, e_BL, e_PL, e_KP, e_NP, e_IP, e_BP, e_LP, e_IIs, e_BBs, e_LLs, e_PPs, e_IIn, e_BBn, e_LLn, e_PPn, e_IIk, e_BBk, e_LLk, e_PPk, e_Ks, e_Ns, e_Is, e_Bs, e_Ls, e_Ps, e_Kn, e_Nn, e_In, e_Bn, e_Ln, e_Pn, if_true, if_false, and_self, or_true, true_or, not_false_eq_true, Bool.false_eq_true]; done) | (simp (disch := omega) only [w.1, eA, eo, c_isWithin, d1, e1, ix, ic, ep, e_KI, e_NI, e_BI, e_LI, e_PI, e_KB, e_NB, e_IB, e_LB, e_PB, e_KL, e_NL, e_IL, e_BL, e_PL, e_KP, e_NP, e_IP, e_BP, e_LP, e_IIs, e_BBs, e_LLs, e_PPs, e_IIn, e_BBn, e_LLn, e_PPn, e_IIk, e_BBk, e_LLk, e_PPk, e_Ks, e_Ns, e_Is, e_Bs, e_Ls, e_Ps, e_Kn, e_Nn, e_In, e_Bn, e_Ln, e_Pn, if_true, if_false, and_self, or_true, true_or, not_false_eq_true, Bool.false_eq_true]; decide) | decide) | ((with_reducible apply ev_t); · first | (simp (disch := omega) only [w.1, eA, eo, c_isWithin, d1, e1, ix, ic, ep, e_KI, e_NI, e_BI, e_LI, e_PI, e_KB, e_NB, e_IB, e_LB, e_PB, e_KL, e_NL, e_IL, e_BL, e_PL, e_KP, e_NP, e_IP, e_BP, e_LP, e_IIs, e_BBs, e_LLs, e_PPs, e_IIn, e_BBn, e_LLn, e_PPn, e_IIk, e_BBk, e_LLk, e_PPk, e_Ks, e_Ns, e_Is, e_Bs, e_Ls, e_Ps, e_Kn, e_Nn, e_In, e_Bn, e_Ln, e_Pn, if_true, if_false, and_self, or_true, true_or, not_false_eq_true, Bool.false_eq_true]; done) | (simp (disch := omega) only [w.1, eA, eo, c_isWithin, d1, e1, ix, ic, ep, e_KI, e_NI, e_BI, e_LI, e_PI, e_KB, e_NB, e_IB, e_LB, e_PB, e_KL, e_NL, e_IL, e_BL, e_PL, e_KP, e_NP, e_IP, e_BP, e_LP, e_IIs, e_BBs, e_LLs, e_PPs, e_IIn, e_BBn, e_LLn, e_PPn, e_IIk, e_BBk, e_LLk, e_PPk, e_Ks, e_Ns, e_Is, e_Bs, e_Ls, e_Ps, e_Kn, e_Nn, e_In, e_Bn, e_Ln, e_Pn, if_true, if_false, and_self, or_true, true_or, not_false_eq_true, Bool.false_eq_true]; decide) | decide) | ((with_reducible apply ev_f); · first | (simp (disch := omega) only [w.1, eA, eo, c_isWithin, d1, e1, ix, ic, ep, e_KI, e_NI, e_BI, e_LI, e_PI, e_KB, e_NB, e_IB, e_LB, e_PB, e_KL, e_NL, e_IL, e_BL, e_PL, e_KP, e_NP, e_IP, e_BP, e_LP, e_IIs, e_BBs, e_LLs, e_PPs, e_IIn, e_BBn, e_LLn, e_PPn, e_IIk, e_BBk, e_LLk, e_PPk, e_Ks, e_Ns, e_Is, e_Bs, e_Ls, e_Ps, e_Kn, e_Nn, e_In, e_Bn, e_Ln, e_Pn, if_true, if_false, and_self, or_true, true_or, not_false_eq_true, Bool.false_eq_true]; done) | (simp (disch := omega) only [w.1, eA, eo, c_isWithin, d1, e1, ix, ic, ep, e_KI, e_NI, e_BI, e_LI, e_PI, e_KB, e_NB, e_IB, e_LB, e_PB, e_KL, e_NL, e_IL, e_BL, e_PL, e_KP, e_NP, e_IP, e_BP, e_LP, e_IIs, e_BBs, e_LLs, e_PPs, e_IIn, e_BBn, e_LLn, e_PPn, e_IIk, e_BBk, e_LLk, e_PPk, e_Ks, e_Ns, e_Is, e_Bs, e_Ls, e_Ps, e_Kn, e_Nn, e_In, e_Bn, e_Ln, e_Pn, if_true, if_false, and_self, or_true, true_or, not_false_eq_true, Bool.false_eq_true]; decide) | decide) | ((with_reducible apply ev_s) <;> (first | (with_reducible rfl) | (simp (disch := omega) only [w.1, eA, eo, c_isWithin, d1, e1, ix, ic, ep, e_KI, e_NI, e_BI, e_LI, e_PI, e_KB, e_NB, e_IB, e_LB, e_PB, e_KL, e_NL, e_IL, e_BL, e_PL, e_KP, e_NP, e_IP, e_BP, e_LP, e_IIs, e_BBs, e_LLs, e_PPs, e_IIn, e_BBn, e_LLn, e_PPn, e_IIk, e_BBk, e_LLk, e_PPk, e_Ks, e_Ns, e_Is, e_Bs, e_Ls, e_Ps, e_Kn, e_Nn, e_In, e_Bn, e_Ln, e_Pn, if_true, if_false, and_self, or_true, true_or, not_false_eq_true, Bool.false_eq_true]; done) | (simp (disch := omega) only [w.1, eA, eo, c_isWithin, d1, e1, ix, ic, ep, e_KI, e_NI, e_BI, e_LI, e_PI, e_KB, e_NB, e_IB, e_LB, e_PB, e_KL, e_NL, e_IL, e_BL, e_PL, e_KP, e_NP, e_IP, e_BP, e_LP, e_IIs, e_BBs, e_LLs, e_PPs, e_IIn, e_BBn, e_LLn, e_PPn, e_IIk, e_BBk, e_LLk, e_PPk, e_Ks, e_Ns, e_Is, e_Bs, e_Ls, e_Ps, e_Kn, e_Nn, e_In, e_Bn, e_Ln, e_Pn, if_true, if_false, and_self, or_true, true_or, not_false_eq_true, Bool.false_eq_true]; rfl)))))
theorem Sh18 (w : Sh h) (g : ag (fun a _ => a = 18) (fun _ => False) h X) : Sh X := (Sh_ag g (by intro a k q; (simp only [FSh] at q ⊢) <;> omega) (by intro a q; (simp only [GSh, not_false_eq_true] at q ⊢) <;> omega) w)
theorem c_firstB (R : RelP h t e N C S A) (ho : o < 60) (eo : y_I h 13 2 = nI o) (hja : ∀ k, k < A → ja h k ((o + k) % 60)) (hn : n < N) (hr : r ≤ A) (g : ag (fun a _ => a = 18) (fun _ => False) h X) : ∃ p X', f_X5_firstOfBox 13 (64 * n + 20) (nI r) X = some (p, X') ∧ ag (fun a _ => a = 18) (fun _ => False) h X' ∧ p ≠ 0 ∧ y_K X' p = 1 ∧ y_P X' p 1 = 64 * n + 20 ∧ y_I X' p 2 = oB h A r 6 (y_I h 418) n ∧ y_I X' p 3 = oB h A r 7 (y_I h 482) n ∧ y_I X' p 4 = oB h A r 8 (y_I h 546) n ∧ y_I X' p 5 = oB h A r 9 (y_I h 610) n ∧ (if y_B X' p 6 = true then y_I h 162 n else y_I h 98 n) = oW h A r n := by
  have hA := R.rJ.1
  have hN := R.rB.1
  obtain ⟨b1, b2, b3, b4, b5, b6, b7, b8, b9, b10, b11, b12, b13, -⟩ := (R.rB.2.2.2.1 n hn).1
  suffices Hs : wp (f_X5_firstOfBox 13 (64 * n + 20) (nI r) X) fun p X' => ag (fun a _ => a = 18) (fun _ => False) h X' ∧ p ≠ 0 ∧ y_K X' p = 1 ∧ y_P X' p 1 = 64 * n + 20 ∧ y_I X' p 2 = oB h A r 6 (y_I h 418) n ∧ y_I X' p 3 = oB h A r 7 (y_I h 482) n ∧ y_I X' p 4 = oB h A r 8 (y_I h 546) n ∧ y_I X' p 5 = oB h A r 9 (y_I h 610) n ∧ (if y_B X' p 6 = true then y_I h 162 n else y_I h 98 n) = oW h A r n by
    obtain ⟨p, X', e1, e2⟩ := wp_ex Hs
    exact ⟨p, X', e1, e2⟩
  unfold f_X5_firstOfBox
  refine wp_jl (fun m j => ∀ q, q ≤ r → q < m → oB h A r 6 (y_I h 418) n = oB h A q 6 (y_I h 418) n → oB h A r 7 (y_I h 482) n = oB h A q 7 (y_I h 482) n → oB h A r 8 (y_I h 546) n = oB h A q 8 (y_I h 546) n → oB h A r 9 (y_I h 610) n = oB h A q 9 (y_I h 610) n → oW h A r n = oW h A q n → wp (j 13 (64 * n + 20) (nI q) X) fun p X' => ag (fun a _ => a = 18) (fun _ => False) h X' ∧ p ≠ 0 ∧ y_K X' p = 1 ∧ y_P X' p 1 = 64 * n + 20 ∧ y_I X' p 2 = oB h A r 6 (y_I h 418) n ∧ y_I X' p 3 = oB h A r 7 (y_I h 482) n ∧ y_I X' p 4 = oB h A r 8 (y_I h 546) n ∧ y_I X' p 5 = oB h A r 9 (y_I h 610) n ∧ (if y_B X' p 6 = true then y_I h 162 n else y_I h 98 n) = oW h A r n) (fun q _ z => absurd z (by omega)) (fun m j IH q hq hm z6 z7 z8 z9 zw => ?_) (fun j IH => IH r (Nat.le_refl _) (by unfold y_fu; omega) rfl rfl rfl rfl rfl)
  have w := Sh18 R.1 g
  cases q with
  | zero =>
    have q1 : nI 0 < 1 := by decide
    have k3 : y_K X (64 * n + 20) = 3 := (g.K fun q => q).trans b2
    have ea := c_abegin (h := X) (p := 18) (pb := 64 * n + 20) (pc := 0) (ps := 0) 0 (by simp only [w.1]) (fun _ => k3) (fun z => absurd rfl z) (fun z => absurd rfl z)
    simp only [q1, if_true, w.1]
    refine wp_call ea (fun _ X' z => ?_)
    obtain ⟨g1, a0, a1, -, -, a2, -, -⟩ := z
    obtain ⟨a2, a3, a4, a5, a6⟩ := a2 (by omega)
    have gX := g.trans g1
    have w' := Sh18 R.1 gX
    simp only [w'.1, if_true, wp_some]
    refine ⟨gX, by decide, trivial, a1, ?_, ?_, ?_, ?_, ?_⟩
    · rw [a2, g.I (by omega), z6]; exact b9
    · rw [a3, g.I (by omega), z7]; exact b10
    · rw [a4, g.I (by omega), z8]; exact b11
    · rw [a5, g.I (by omega), z9]; exact b12
    · rw [a6, g.B (by omega), zw, b13]
      rfl
  | succ q =>
    have q1 : ¬ nI (q + 1) < 1 := fun z => absurd ((nI_ltI (a := q + 1) (b := 1) (by omega) (by decide)).mp z) (by omega)
    obtain ⟨y1, y2, y3, y4, y5, y6, -⟩ := hja (A - (q + 1)) (by omega)
    have fe := c_fromEnd (A := A) (q := q + 1) w ho ((g.I (by omega)).trans eo) hA ((g.I (by omega)).trans R.rJ.2.1) (by omega) ((g.P (by omega)).trans y1)
    have ne : ¬ 64 * ((o + (A - (q + 1))) % 60) + 24 = 0 := by omega
    have ky : y_K X (64 * ((o + (A - (q + 1))) % 60) + 24) = 1 := (g.K fun q => q).trans y2
    have kb : y_P X (64 * ((o + (A - (q + 1))) % 60) + 24) 1 = pB (y_I h 2722 (14 * (A - (q + 1)) + 5)) := (g.P (by omega)).trans y4
    have dec : nI (q + 1) + (-1) = nI q := by rw [i_dec, nI_pred]
    have hon := (R.rH.2 q (by omega) o ho eo).1
    by_cases hk : y_I h 2722 (14 * (A - (q + 1)) + 5) = nI n
    · rw [hk, pB_n (by omega)] at kb
      have nn : ¬ y_I h 2722 (14 * (A - (q + 1)) + 5) < 0 := by rw [hk, i_n0 (by omega)]; exact fun q => q
      obtain ⟨a2, a3, a4, a5, a6⟩ := y6 nn
      have sI : ∀ k, y_I X (64 * ((o + (A - (q + 1))) % 60) + 24) k = y_I h (64 * ((o + (A - (q + 1))) % 60) + 24) k := fun k => g.I (by omega)
      simp only [q1, if_false, w.1, if_true, fe, e_cl, e_jn, ne, ky, kb, wp_some]
      refine ⟨g, fun z => ne z, trivial, trivial, ?_, ?_, ?_, ?_, ?_⟩
      · rw [sI, a2, z6]; exact (oB_S hk).symm
      · rw [sI, a3, z7]; exact (oB_S hk).symm
      · rw [sI, a4, z8]; exact (oB_S hk).symm
      · rw [sI, a5, z9]; exact (oB_S hk).symm
      · rw [g.B (by omega), zw]
        refine Eq.trans ?_ (ovS (key := fun k => y_I h 2722 (14 * k + 5)) (val := fun k => if y_I h 2722 (14 * k + 10) = 1 then y_I h 162 n else y_I h 98 n) hk).symm
        rw [a6]
        cases y_B h (64 * ((o + (A - (q + 1))) % 60) + 24) 6 with
        | true => rw [if_pos rfl, if_pos (by decide)]
        | false => rw [if_neg (by decide), if_neg (by decide)]
    · have nk : ¬ pB (y_I h 2722 (14 * (A - (q + 1)) + 5)) = 64 * n + 20 := fun z => by
        rcases hon with o1 | ⟨n', hn', o1⟩
        · rw [o1, pB_9] at z
          omega
        · rw [o1, pB_n (by omega)] at z
          exact hk (by rw [o1, show n' = n by omega])
      simp only [q1, if_false, w.1, if_true, fe, e_cl, e_jn, ne, ky, kb, nk, dec]
      exact IH q (by omega) (by omega) (z6.trans (ovN (key := fun k => y_I h 2722 (14 * k + 5)) hk)) (z7.trans (ovN (key := fun k => y_I h 2722 (14 * k + 5)) hk)) (z8.trans (ovN (key := fun k => y_I h 2722 (14 * k + 5)) hk)) (z9.trans (ovN (key := fun k => y_I h 2722 (14 * k + 5)) hk)) (zw.trans (ovN (key := fun k => y_I h 2722 (14 * k + 5)) hk))
theorem c_firstC (R : RelP h t e N C S A) (ho : o < 60) (eo : y_I h 13 2 = nI o) (hja : ∀ k, k < A → ja h k ((o + k) % 60)) (hc : c < C) (hr : r ≤ A) (g : ag (fun a _ => a = 18) (fun _ => False) h X) : ∃ p X', f_X5_firstOfCrane 13 (64 * c + 21) (nI r) X = some (p, X') ∧ ag (fun a _ => a = 18) (fun _ => False) h X' ∧ y_K X' p = 1 ∧ y_I X' p 8 = oC h A r 2 (y_I h 1634) c ∧ y_I X' p 9 = oC h A r 3 (y_I h 1698) c ∧ y_I X' p 10 = oC h A r 4 (y_I h 1762) c := by
  have hA := R.rJ.1
  have hC := R.rC.1
  have hN := R.rB.1
  obtain ⟨b1, b2, b3, b4, b5, b6, b7, b8, b9, b10⟩ := (R.rC.2.2.2.1 c hc).1
  suffices Hs : wp (f_X5_firstOfCrane 13 (64 * c + 21) (nI r) X) fun p X' => ag (fun a _ => a = 18) (fun _ => False) h X' ∧ y_K X' p = 1 ∧ y_I X' p 8 = oC h A r 2 (y_I h 1634) c ∧ y_I X' p 9 = oC h A r 3 (y_I h 1698) c ∧ y_I X' p 10 = oC h A r 4 (y_I h 1762) c by
    obtain ⟨p, X', e1, e2⟩ := wp_ex Hs
    exact ⟨p, X', e1, e2⟩
  unfold f_X5_firstOfCrane
  refine wp_jl (fun m j => ∀ q, q ≤ r → q < m → oC h A r 2 (y_I h 1634) c = oC h A q 2 (y_I h 1634) c → oC h A r 3 (y_I h 1698) c = oC h A q 3 (y_I h 1698) c → oC h A r 4 (y_I h 1762) c = oC h A q 4 (y_I h 1762) c → wp (j 13 (64 * c + 21) (nI q) X) fun p X' => ag (fun a _ => a = 18) (fun _ => False) h X' ∧ y_K X' p = 1 ∧ y_I X' p 8 = oC h A r 2 (y_I h 1634) c ∧ y_I X' p 9 = oC h A r 3 (y_I h 1698) c ∧ y_I X' p 10 = oC h A r 4 (y_I h 1762) c) (fun q _ z => absurd z (by omega)) (fun m j IH q hq hm z2 z3 z4 => ?_) (fun j IH => IH r (Nat.le_refl _) (by unfold y_fu; omega) rfl rfl rfl)
  have w := Sh18 R.1 g
  cases q with
  | zero =>
    have q1 : nI 0 < 1 := by decide
    have k4 : y_K X (64 * c + 21) = 4 := (g.K fun q => q).trans b2
    have ph : y_P X (64 * c + 21) 4 = y_P h (64 * c + 21) 4 := g.P (by omega)
    have hld : (if y_P h (64 * c + 21) 4 = 0 then (-1 : Int32) else y_I h (y_P h (64 * c + 21) 4) 0) = y_I h 1698 c ∧ (y_P h (64 * c + 21) 4 ≠ 0 → y_K h (y_P h (64 * c + 21) 4) = 3 ∧ y_P h (64 * c + 21) 4 ≠ 18) := by
      rcases heldC R hc with ⟨hh, hp4, -, -⟩ | ⟨n, hn, hh, hp4, -⟩
      · rw [hp4, hh, if_pos rfl]
        exact ⟨rfl, fun z => absurd rfl z⟩
      · rw [hp4, hh, if_neg (by omega)]
        have bb := (R.rB.2.2.2.1 n hn).1
        exact ⟨bb.2.2.1, fun _ => ⟨bb.2.1, by omega⟩⟩
    have ea := c_abegin (h := X) (p := 18) (pb := 0) (pc := 64 * c + 21) (ps := 0) 0 (by simp only [w.1]) (fun z => absurd rfl z) (fun _ => ⟨k4, fun z => by rw [ph] at z ⊢; exact (g.K fun q => q).trans (hld.2 z).1⟩) (fun z => absurd rfl z)
    simp only [q1, if_true, w.1]
    refine wp_call ea (fun _ X' z => ?_)
    obtain ⟨g1, a0, a1, -, -, -, a2, -⟩ := z
    obtain ⟨a2, a3, a4⟩ := a2 (by omega)
    have gX := g.trans g1
    have w' := Sh18 R.1 gX
    simp only [w'.1, if_true, wp_some]
    refine ⟨gX, trivial, ?_, ?_, ?_⟩
    · rw [a2, g.I (by omega), z2]; exact b6
    · rw [a3, ph, z3]
      refine Eq.trans ?_ hld.1
      by_cases z : y_P h (64 * c + 21) 4 = 0
      · rw [if_pos z, if_pos z]
      · rw [if_neg z, if_neg z]
        exact g.I (hld.2 z).2
    · rw [a4, g.I (by omega), z4]; exact b8
  | succ q =>
    have q1 : ¬ nI (q + 1) < 1 := fun z => absurd ((nI_ltI (a := q + 1) (b := 1) (by omega) (by decide)).mp z) (by omega)
    obtain ⟨y1, y2, y3, y4, y5, y6, y7, -⟩ := hja (A - (q + 1)) (by omega)
    have fe := c_fromEnd (A := A) (q := q + 1) w ho ((g.I (by omega)).trans eo) hA ((g.I (by omega)).trans R.rJ.2.1) (by omega) ((g.P (by omega)).trans y1)
    have ne : ¬ 64 * ((o + (A - (q + 1))) % 60) + 24 = 0 := by omega
    have ky : y_K X (64 * ((o + (A - (q + 1))) % 60) + 24) = 1 := (g.K fun q => q).trans y2
    have kb : y_P X (64 * ((o + (A - (q + 1))) % 60) + 24) 7 = pC (y_I h 2722 (14 * (A - (q + 1)) + 1)) := (g.P (by omega)).trans y5
    have dec : nI (q + 1) + (-1) = nI q := by rw [i_dec, nI_pred]
    have hon := (R.rH.2 q (by omega) o ho eo).2.1
    by_cases hk : y_I h 2722 (14 * (A - (q + 1)) + 1) = nI c
    · rw [hk, pC_n (by omega)] at kb
      have nn : ¬ y_I h 2722 (14 * (A - (q + 1)) + 1) < 0 := by rw [hk, i_n0 (by omega)]; exact fun q => q
      obtain ⟨a2, a3, a4⟩ := y7 nn
      have sI : ∀ k, y_I X (64 * ((o + (A - (q + 1))) % 60) + 24) k = y_I h (64 * ((o + (A - (q + 1))) % 60) + 24) k := fun k => g.I (by omega)
      simp only [q1, if_false, w.1, if_true, fe, e_cl, e_jn, ne, ky, kb, wp_some]
      refine ⟨g, trivial, ?_, ?_, ?_⟩
      · rw [sI, a2, z2]; exact (oC_S hk).symm
      · rw [sI, a3, z3]; exact (oC_S hk).symm
      · rw [sI, a4, z4]; exact (oC_S hk).symm
    · have nk : ¬ pC (y_I h 2722 (14 * (A - (q + 1)) + 1)) = 64 * c + 21 := fun z => by
        rcases hon with o1 | ⟨n', hn', o1⟩
        · rw [o1, pC_9] at z
          omega
        · rw [o1, pC_n (by omega)] at z
          exact hk (by rw [o1, show n' = c by omega])
      simp only [q1, if_false, w.1, if_true, fe, e_cl, e_jn, ne, ky, kb, nk, dec]
      exact IH q (by omega) (by omega) (z2.trans (ovN (key := fun k => y_I h 2722 (14 * k + 1)) hk)) (z3.trans (ovN (key := fun k => y_I h 2722 (14 * k + 1)) hk)) (z4.trans (ovN (key := fun k => y_I h 2722 (14 * k + 1)) hk))
theorem c_firstS (R : RelP h t e N C S A) (ho : o < 60) (eo : y_I h 13 2 = nI o) (hja : ∀ k, k < A → ja h k ((o + k) % 60)) (hs : s < S) (hr : r ≤ A) (g : ag (fun a _ => a = 18) (fun _ => False) h X) : ∃ p X', f_X5_firstOfShip 13 (64 * s + 22) (nI r) X = some (p, X') ∧ ag (fun a _ => a = 18) (fun _ => False) h X' ∧ y_K X' p = 1 ∧ y_I X' p 12 = oS h A r 12 (y_I h 2466) s ∧ y_I X' p 13 = oS h A r 13 (y_I h 2530) s := by
  have hA := R.rJ.1
  have hS := R.rS.1
  obtain ⟨⟨b0, b1, b2, b3, b4, b5, b6, b7, -⟩, -⟩ := R.rS.2.2.2.1 s hs
  suffices Hs : wp (f_X5_firstOfShip 13 (64 * s + 22) (nI r) X) fun p X' => ag (fun a _ => a = 18) (fun _ => False) h X' ∧ y_K X' p = 1 ∧ y_I X' p 12 = oS h A r 12 (y_I h 2466) s ∧ y_I X' p 13 = oS h A r 13 (y_I h 2530) s by
    obtain ⟨p, X', e1, e2⟩ := wp_ex Hs
    exact ⟨p, X', e1, e2⟩
  unfold f_X5_firstOfShip
  refine wp_jl (fun m j => ∀ q, q ≤ r → q < m → oS h A r 12 (y_I h 2466) s = oS h A q 12 (y_I h 2466) s → oS h A r 13 (y_I h 2530) s = oS h A q 13 (y_I h 2530) s → wp (j 13 (64 * s + 22) (nI q) X) fun p X' => ag (fun a _ => a = 18) (fun _ => False) h X' ∧ y_K X' p = 1 ∧ y_I X' p 12 = oS h A r 12 (y_I h 2466) s ∧ y_I X' p 13 = oS h A r 13 (y_I h 2530) s) (fun q _ z => absurd z (by omega)) (fun m j IH q hq hm z2 z3 => ?_) (fun j IH => IH r (Nat.le_refl _) (by unfold y_fu; omega) rfl rfl)
  have w := Sh18 R.1 g
  cases q with
  | zero =>
    have q1 : nI 0 < 1 := by decide
    have k8 : y_K X (64 * s + 22) = 8 := (g.K fun q => q).trans b0.2.1
    have ea := c_abegin (h := X) (p := 18) (pb := 0) (pc := 0) (ps := 64 * s + 22) 0 (by simp only [w.1]) (fun z => absurd rfl z) (fun z => absurd rfl z) (fun _ => k8)
    simp only [q1, if_true, w.1]
    refine wp_call ea (fun _ X' z => ?_)
    obtain ⟨g1, a0, a1, -, -, -, -, a2⟩ := z
    obtain ⟨a2, a3⟩ := a2 (by omega)
    have gX := g.trans g1
    have w' := Sh18 R.1 gX
    simp only [w'.1, if_true, wp_some]
    refine ⟨gX, trivial, ?_, ?_⟩
    · rw [a2, g.I (by omega), z2]; exact b6
    · rw [a3, g.I (by omega), z3]; exact b7
  | succ q =>
    have q1 : ¬ nI (q + 1) < 1 := fun z => absurd ((nI_ltI (a := q + 1) (b := 1) (by omega) (by decide)).mp z) (by omega)
    obtain ⟨y1, y2, y3, y4, y5, y6, y7, y8, y9⟩ := hja (A - (q + 1)) (by omega)
    have fe := c_fromEnd (A := A) (q := q + 1) w ho ((g.I (by omega)).trans eo) hA ((g.I (by omega)).trans R.rJ.2.1) (by omega) ((g.P (by omega)).trans y1)
    have ne : ¬ 64 * ((o + (A - (q + 1))) % 60) + 24 = 0 := by omega
    have ky : y_K X (64 * ((o + (A - (q + 1))) % 60) + 24) = 1 := (g.K fun q => q).trans y2
    have kb : y_P X (64 * ((o + (A - (q + 1))) % 60) + 24) 11 = y_P h (64 * ((o + (A - (q + 1))) % 60) + 24) 11 := g.P (by omega)
    have dec : nI (q + 1) + (-1) = nI q := by rw [i_dec, nI_pred]
    obtain ⟨-, -, hon, -, -, hsame⟩ := R.rH.2 q (by omega) o ho eo
    by_cases hp : y_P h (64 * ((o + (A - (q + 1))) % 60) + 24) 11 = 64 * s + 22
    · have hk : y_I h 2722 (14 * (A - (q + 1)) + 11) = nI s := by
        rcases y8 with y8 | y8
        · rw [y8] at hp; omega
        · rcases hon with o1 | ⟨n', hn', o1⟩
          · rw [y8, o1, pS_9] at hp
            omega
          · rw [y8, o1, pS_n (by omega)] at hp
            rw [o1, show n' = s by omega]
      obtain ⟨a2, a3⟩ := y9 (by rw [hp]; omega)
      have sI : ∀ k, y_I X (64 * ((o + (A - (q + 1))) % 60) + 24) k = y_I h (64 * ((o + (A - (q + 1))) % 60) + 24) k := fun k => g.I (by omega)
      rw [hp] at kb
      simp only [q1, if_false, w.1, if_true, fe, e_cl, e_jn, ne, ky, kb, wp_some]
      refine ⟨g, trivial, ?_, ?_⟩
      · rw [sI, a2, z2]; exact (oS_S hk).symm
      · rw [sI, a3, z3]; exact (oS_S hk).symm
    · simp only [q1, if_false, w.1, if_true, fe, e_cl, e_jn, ne, ky, kb, hp, dec]
      by_cases hk : y_I h 2722 (14 * (A - (q + 1)) + 11) = nI s
      · have h0 : y_P h (64 * ((o + (A - (q + 1))) % 60) + 24) 11 = 0 := by
          rcases y8 with y8 | y8
          · exact y8
          · rw [hk, pS_n (by omega)] at y8
            exact absurd y8 hp
        obtain ⟨e1, e2⟩ := hsame s hs hk h0
        exact IH q (by omega) (by omega) (z2.trans e1) (z3.trans e2)
      · exact IH q (by omega) (by omega) (z2.trans (ovN (key := fun k => y_I h 2722 (14 * k + 11)) hk)) (z3.trans (ovN (key := fun k => y_I h 2722 (14 * k + 11)) hk))
end BK
