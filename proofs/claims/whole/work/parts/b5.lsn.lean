/-! least: the model spreads a state -/
section LSN
variable {C D C0 : Cg} {G G0 G2 : y_H} {y : Sy} {s t d k n e N i j f g b : Nat} {l : List Nat} {st : Nat → Cg} {row : Nat → Nat}
/-- what the model's search knows of its bay -/
def MB (y : Sy) (b : Nat) (G0 : y_H) : Prop := b < 10 ∧ y_I G0 1122 b = nI y.m ∧ y_I G0 11 55 = nI y.W ∧ y_I G0 11 68 = nI y.n ∧ (∀ t, t < y.m → y_I G0 1186 (6 * b + t) = nI (y.H t)) ∧ ∀ x o, 1 ≤ x → x ≤ y.n → o < y.W → ((y_I G0 3234 (x - 1) = y_I G0 2786 o) = (y.rk x = o))
theorem go_no1 (hf : ¬ f < y.m) : y.go C f g = none := by
  unfold Sy.go
  rw [if_neg hf]
theorem go_no2 (hc : C f = []) : y.go C f g = none := by
  unfold Sy.go
  by_cases hf : f < y.m
  · rw [if_pos hf, hc]
  · rw [if_neg hf]
theorem go_no3 (h : ¬ (g - 1 < y.m ∧ g - 1 ≠ f ∧ (C (g - 1)).length < y.H (g - 1))) (h0 : g ≠ 0) : y.go C f g = none := by
  unfold Sy.go
  by_cases hf : f < y.m
  · rw [if_pos hf]
    cases hc : C f with
    | nil => rfl
    | cons d l =>
      dsimp only
      rw [if_neg h0, if_neg h]
  · rw [if_neg hf]
theorem go_no4 (hc : C f = d :: l) (h : ¬ (y.out C < y.W ∧ y.rk d = y.out C)) : y.go C f 0 = none := by
  unfold Sy.go
  by_cases hf : f < y.m
  · rw [if_pos hf, hc]
    dsimp only
    rw [if_pos rfl, if_neg h]
  · rw [if_neg hf]
theorem stp_n {m : Nat} (h : y.go C (m / 8) (m % 8) = none) : y.step C m = none := h
theorem m_lifted (O : OkS y) (r0 : RI y C0) (w : Sh G0) (mb : MB y b G0) (I : MI y C0 G0 G N st row i 0) (hi : i < N) : ∃ G2 N2 st2 row2, f_X12_lifted 11 (nI b) (nI i) G = some ((), G2) ∧ MI y C0 G0 G2 N2 st2 row2 i 64 ∧ N ≤ N2 ∧ ∀ k, k < N → st2 k = st k ∧ row2 k = row k := by
  obtain ⟨hb, e1, e2, e3, e4, e5⟩ := mb
  have hm := O.1
  have hW := O.2.1
  have hn6 := O.2.2.2.1
  obtain ⟨C, eC⟩ : ∃ C, C = st i := ⟨_, rfl⟩
  have rC : RI y C := by rw [eC]; exact r0.rn O (I.1.b1 i hi)
  have wC : wr C := by rw [eC]; exact (I.2.2.2.1 i hi).2
  have tt := rC.tot O
  have ol := rC.1
  have WG := I.2.w w
  have hN := I.1.cnt O r0
  have xi := i_ix (show i < 66000 by omega) (by decide)
  have ci := i_cl (show i < 2 ^ 31 by omega)
  have xb := i_ix (show b < 10 by omega) (by decide)
  have cb := i_cl (show b < 2 ^ 31 by omega)
  -- what never changes
  have fx : ∀ {G N st row j}, MI y C0 G0 G N st row i j → Sh G ∧ y_I G 1122 b = nI y.m ∧ y_I G 11 55 = nI y.W ∧ (∀ t, t < y.m → y_I G 1186 (6 * b + t) = nI (y.H t)) ∧ (∀ k, y_I G 3234 k = y_I G0 3234 k) ∧ ∀ k, y_I G 2786 k = y_I G0 2786 k := fun J => ⟨J.2.w w, (J.2.1.I (by omega)).trans e1, (J.2.1.I (by omega)).trans e2, fun t ht => (J.2.1.I (by omega)).trans (e4 t ht), fun k => J.2.1.I (by omega), fun k => J.2.1.I (by omega)⟩
  have eo : f_X12_outOf 11 (lg (enc C)) G = some (nI (y.out C), G) := by
    have z := m_out9 (n := y.n) WG wC.1 ((I.2.1.I (by omega)).trans e3) (by omega) hn6
    exact z
  suffices H : wp (f_X12_lifted 11 (nI b) (nI i) G) fun _ G2 => ∃ N2 st2 row2, MI y C0 G0 G2 N2 st2 row2 i 64 ∧ N ≤ N2 ∧ ∀ k, k < N → st2 k = st k ∧ row2 k = row k by
    obtain ⟨r, G2, z1, N2, st2, row2, z2⟩ := H
    exact ⟨G2, N2, st2, row2, z1, z2⟩
  have es : y_L G 2978 i = lg (enc C) := by rw [eC]; exact (I.2.2.2.1 i hi).1
  unfold f_X12_lifted
  refine wp_g (by simp only [WG.2]) (wp_g (by simp only [WG.2, xi, and_self]) (wp_g (by simp only [WG.2]) (wp_ce (h := G) (r := nI (y.out C)) (by simp only [WG.2, ci, es, eo]) ?_)))
  have lo : y_L G (y_P G 11 62) (Int32.toNatClampNeg (nI i)) = lg (enc C) := by simp only [WG.2, ci, es]
  rw [lo]
  refine wp_jl (fun m j => ∀ s G N' st' row', s ≤ y.m → y.m - s < m → MI y C0 G0 G N' st' row' i (8 * s) → N ≤ N' → (∀ k, k < N → st' k = st k ∧ row' k = row k) → wp (j 11 (nI b) (nI i) (lg (enc C)) (nI (y.out C)) (nI s) G) fun _ G2 => ∃ N2 st2 row2, MI y C0 G0 G2 N2 st2 row2 i 64 ∧ N ≤ N2 ∧ ∀ k, k < N → st2 k = st k ∧ row2 k = row k) (fun s _ _ _ _ _ hm => absurd hm (by omega)) (fun m j IH s G N' st' row' hs hm J nn kk => ?_) (fun j IH => ?_)
  rotate_left
  · exact IH 0 G N st row (by omega) (by unfold y_fu; omega) I (Nat.le_refl _) (fun _ _ => ⟨rfl, rfl⟩)
  obtain ⟨WG, f1, f2, f3, f4, f5⟩ := fx J
  by_cases se : s = y.m
  · have le : nI y.m ≤ nI s := nI_le (by omega) (by omega)
    refine wp_g (by simp only [WG.2]) (wp_g (by simp only [WG.2, xb, and_self]) (wp_pos (by simp only [WG.2, cb, f1, le]) (wp_some.mpr ⟨N', st', row', ⟨J.1.skips 64 (by omega) (fun q h1 h2 => stp_n (go_no1 (by omega))), J.2⟩, nn, kk⟩)))
  have hs4 : s < 4 := by omega
  have le : ¬ nI y.m ≤ nI s := nI_ge (by omega) (by omega)
  have si : st' i = C := by rw [(kk i hi).1, eC]
  have tl := m_tl (G := G) wC.1 hs4
  refine wp_g (by simp only [WG.2]) (wp_g (by simp only [WG.2, xb, and_self]) (wp_neg (by simp only [WG.2, cb, f1, le, not_false_eq_true]) (wp_ce tl ?_)))
  -- the next stack
  have nxt : ∀ G N' st' row', MI y C0 G0 G N' st' row' i (8 * (s + 1)) → N ≤ N' → (∀ k, k < N → st' k = st k ∧ row' k = row k) → wp (j 11 (nI b) (nI i) (lg (enc C)) (nI (y.out C)) (nI s + 1) G) fun _ G2 => ∃ N2 st2 row2, MI y C0 G0 G2 N2 st2 row2 i 64 ∧ N ≤ N2 ∧ ∀ k, k < N → st2 k = st k ∧ row2 k = row k := fun G N' st' row' J nn kk => by
    rw [nI_1]
    exact IH (s + 1) G N' st' row' (by omega) (by omega) J nn kk
  refine wp_jn ?_
  cases hc : C s with
  | nil =>
    have z0 : nI ([] : List Nat).length ≤ (0 : Int32) := by decide
    refine wp_pos z0 (nxt G N' st' row' ⟨J.1.skips _ (by omega) (fun q h1 h2 => stp_n ?_), J.2⟩ nn kk)
    rw [si, show q / 8 = s by omega]
    exact go_no2 hc
  | cons d l =>
    obtain ⟨k1, k2, k3⟩ := (show dk (d :: l) by rw [← hc]; exact wC.1 s).tl
    have z0 : ¬ nI (d :: l).length ≤ (0 : Int32) := nI_ge (a := 0) (by rw [List.length_cons]; omega) (by rw [List.length_cons]; omega)
    have tp := m_tp (G := G) wC.1 hs4 hc
    have gl := g_less wC.1 hs4 hc
    have wl := wC.tl hs4 hc
    refine wp_neg z0 (wp_ce tp (wp_g (by simp only [WG.2]) ?_))
    rw [List.length_cons, gl]
    -- the others
    refine wp_jc (fun jj Q => ∀ G N' st' row', MI y C0 G0 G N' st' row' i (8 * s + 1) → N ≤ N' → (∀ k, k < N → st' k = st k ∧ row' k = row k) → wp (jj 11 (nI b) (nI i) (lg (enc C)) (nI (y.out C)) (nI s) (nI d) (lg (enc (upI C s l))) G) Q) ?_ ?_
    · intro G N' st' row' J nn kk
      refine wp_jl (fun m jj => ∀ t G N' st' row', t ≤ y.m → y.m - t < m → MI y C0 G0 G N' st' row' i (8 * s + 1 + t) → N ≤ N' → (∀ k, k < N → st' k = st k ∧ row' k = row k) → wp (jj 11 (nI b) (nI i) (lg (enc C)) (nI (y.out C)) (nI s) (nI d) (lg (enc (upI C s l))) (nI t) G) fun _ G2 => ∃ N2 st2 row2, MI y C0 G0 G2 N2 st2 row2 i 64 ∧ N ≤ N2 ∧ ∀ k, k < N → st2 k = st k ∧ row2 k = row k) (fun t _ _ _ _ _ hm => absurd hm (by omega)) (fun m jj IH2 t G N' st' row' ht hm2 J nn kk => ?_) (fun jj IH2 => ?_)
      rotate_left
      · exact IH2 0 G N' st' row' (by omega) (by unfold y_fu; omega) J nn kk
      obtain ⟨WG, f1, f2, f3, f4, f5⟩ := fx J
      have si : st' i = C := by rw [(kk i hi).1, eC]
      by_cases te : t = y.m
      · have le : nI y.m ≤ nI t := nI_le (by omega) (by omega)
        refine wp_g (by simp only [WG.2]) (wp_g (by simp only [WG.2, xb, and_self]) (wp_pos (by simp only [WG.2, cb, f1, le]) (nxt G N' st' row' ⟨J.1.skips _ (by omega) (fun q h1 h2 => stp_n ?_), J.2⟩ nn kk)))
        exact go_no3 (by omega) (by omega)
      have le : ¬ nI y.m ≤ nI t := nI_ge (by omega) (by omega)
      have ht4 : t < 4 := by omega
      have tl2 := m_tl (G := G) wC.1 ht4
      refine wp_g (by simp only [WG.2]) (wp_g (by simp only [WG.2, xb, and_self]) (wp_neg (by simp only [WG.2, cb, f1, le, not_false_eq_true]) (wp_ce tl2 (wp_jn ?_))))
      have go2 : ∀ G N' st' row', MI y C0 G0 G N' st' row' i (8 * s + 1 + t + 1) → N ≤ N' → (∀ k, k < N → st' k = st k ∧ row' k = row k) → wp (jj 11 (nI b) (nI i) (lg (enc C)) (nI (y.out C)) (nI s) (nI d) (lg (enc (upI C s l))) (nI t + 1) G) fun _ G2 => ∃ N2 st2 row2, MI y C0 G0 G2 N2 st2 row2 i 64 ∧ N ≤ N2 ∧ ∀ k, k < N → st2 k = st k ∧ row2 k = row k := fun G N' st' row' J nn kk => by
        rw [nI_1]
        exact IH2 (t + 1) G N' st' row' (by omega) (by omega) J nn kk
      by_cases ts : t = s
      · have es : nI t = nI s := by rw [ts]
        refine wp_pos es (go2 G N' st' row' ⟨J.1.skips _ (by omega) (fun q h1 h2 => stp_n ?_), J.2⟩ nn kk)
        exact go_no3 (by omega) (by omega)
      have es : ¬ nI t = nI s := by
        rw [i_eq (by omega)]
        exact ts
      have ix6 : (6 : Int32) * nI b + nI t = nI (6 * b + t) := by rw [i_m6, i_add]
      have x6 := i_ix (show 6 * b + t < 60 by omega) (by decide)
      have c6 := i_cl (show 6 * b + t < 2 ^ 31 by omega)
      have hH := f3 t (by omega)
      have h5 := O.2.2.2.2.1 t (by omega)
      have lt5 := (wC.1 t).1
      by_cases full : y.H t ≤ (C t).length
      · have lf : nI (y.H t) ≤ nI (C t).length := nI_le full (by omega)
        refine wp_neg es (wp_g (by simp only [WG.2]) (wp_g (by simp only [WG.2, ix6, x6, and_self]) (wp_pos (by simp only [WG.2, ix6, c6, hH, lf]) (go2 G N' st' row' ⟨J.1.skips _ (by omega) (fun q h1 h2 => stp_n ?_), J.2⟩ nn kk))))
        rw [si]
        have qt : q % 8 - 1 = t := by omega
        exact go_no3 (by rw [qt]; omega) (by omega)
      have lf : ¬ nI (y.H t) ≤ nI (C t).length := nI_ge (by omega) (by omega)
      have ct : upI C s l t = C t := upI_n ts
      have pt := g_put (C := upI C s l) (t := t) (d := d) wl.1 ht4 (by rw [ct]; omega) (by omega)
      rw [ct] at pt
      have wd := wl.ad (t := t) (d := d) ht4 (by rw [ct]; omega) k2
      rw [ct] at wd
      have ego := Sy.go_to (y := y) (C := C) (f := s) (g := t) (show s < y.m by omega) hc (by omega) ts (by omega)
      rw [← si] at ego
      have J' : MI y C0 G0 G N' st' row' i (8 * s + (t + 1)) := by
        rw [show 8 * s + (t + 1) = 8 * s + 1 + t by omega]
        exact J
      obtain ⟨G2, N2, st2, row2, ec, J2, n2, k9⟩ := MI.come (i := i) (f := s) (g := t + 1) O r0 w J' (by omega) wd hs4 (by omega) (by rw [si] at ego ⊢; exact ego)
      rw [show 8 * s + (t + 1) + 1 = 8 * s + 1 + t + 1 by omega] at J2
      have em : (8 : Int32) * nI s + nI t = nI (mvM s (t + 1)) := by
        rw [i_m8, i_add]
        unfold mvM
        rw [if_neg (by omega), Nat.add_sub_cancel]
      refine wp_neg es (wp_g (by simp only [WG.2]) (wp_g (by simp only [WG.2, ix6, x6, and_self]) (wp_neg (by simp only [WG.2, ix6, c6, hH, lf, not_false_eq_true]) (wp_g (by simp only [WG.2]) (wp_ce (h := G2) (r := ()) (by rw [em, pt]; exact ec) (go2 G2 N2 st2 row2 J2 (by omega) (fun k hk => ?_)))))))
      have a1 := k9 k (by omega)
      have a2 := kk k hk
      exact ⟨a1.1.trans a2.1, a1.2.trans a2.2⟩
    · intro jj hj
      by_cases ow : y.out C < y.W
      · have le2 : ¬ nI y.W ≤ nI (y.out C) := nI_ge ow (by omega)
        have dm : d ∈ flt C := mem_flt hs4 (by rw [hc]; exact List.mem_cons_self)
        obtain ⟨⟨d1, d2⟩, -⟩ := lab_mem.mp (rC.2.1.mem_iff.mp dm)
        have xd := i_ix (show d - 1 < 6 by omega) (by decide)
        have cd := i_cl (show d - 1 < 2 ^ 31 by omega)
        have pd : nI d - 1 = nI (d - 1) := by rw [show (1 : Int32) = nI 1 from rfl, i_sub d1]
        have xo := i_ix (show y.out C < 5 by omega) (by decide)
        have co := i_cl (show y.out C < 2 ^ 31 by omega)
        have cond : (y_I G 3234 (d - 1) = y_I G 2786 (y.out C)) = (y.rk d = y.out C) := by rw [f4, f5]; exact e5 d (y.out C) d1 d2 ow
        refine wp_neg (by simp only [WG.2, f2, le2, not_false_eq_true]) (wp_g (by simp only [WG.2]) (wp_g (by simp only [WG.2, pd, xd, and_self]) (wp_g (by simp only [WG.2]) (wp_g (by simp only [WG.2, xo, and_self]) ?_))))
        by_cases rd : y.rk d = y.out C
        · have ego := Sy.go_out (y := y) (C := C) (f := s) (show s < y.m by omega) hc ow rd
          rw [← si] at ego
          obtain ⟨G2, N2, st2, row2, ec, J2, n2, k9⟩ := MI.come (f := s) (g := 0) (D := upI C s l) O r0 w (by rw [Nat.add_zero]; exact J) (by omega) wl hs4 (by omega) (by rw [si] at ego ⊢; exact ego)
          have em : (8 : Int32) * nI s + 7 = nI (mvM s 0) := by
            rw [i_m8, show (7 : Int32) = nI 7 from rfl, i_add]
            rfl
          refine wp_pos (by simp only [WG.2, pd, cd, co, cond, rd]) (wp_g (by simp only [WG.2]) (wp_ce (h := G2) (r := ()) (by rw [em]; exact ec) (hj G2 N2 st2 row2 (by rw [Nat.add_zero] at J2; exact J2) (by omega) (fun k hk => ?_))))
          have a1 := k9 k (by omega)
          have a2 := kk k hk
          exact ⟨a1.1.trans a2.1, a1.2.trans a2.2⟩
        · refine wp_neg (by simp only [WG.2, pd, cd, co, cond, rd, not_false_eq_true]) (hj G N' st' row' ⟨J.1.skips _ (by omega) (fun q h1 h2 => stp_n ?_), J.2⟩ nn kk)
          rw [si, show q / 8 = s by omega, show q % 8 = 0 by omega]
          exact go_no4 hc (fun z => rd z.2)
      · have le2 : nI y.W ≤ nI (y.out C) := nI_le (by omega) (by omega)
        refine wp_pos (by simp only [WG.2, f2, le2]) (hj G N' st' row' ⟨J.1.skips _ (by omega) (fun q h1 h2 => stp_n ?_), J.2⟩ nn kk)
        rw [si, show q / 8 = s by omega, show q % 8 = 0 by omega]
        exact go_no4 hc (fun z => ow z.1)
end LSN
