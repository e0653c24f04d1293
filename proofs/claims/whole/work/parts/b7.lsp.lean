/-! least: the model's search to its end -/
def mSr (v0_97 : Nat) (v1_97 : Int32) (h22 : y_H) : Option (Int32 × y_H) :=
  y_jl (fun (_ : Nat) (_ : Int32) (_ : Int32) (_ : Int32) (_ : y_H) => (none : Option (Int32 × y_H))) (fun j216 (v0_216 : Nat) (v1_216 : Int32) (v4_216 : Int32) (v5_216 : Int32) (h24 : y_H) =>
                            if y_K h24 v0_216 = 13 then
                            y_jn (fun (v0_270 : Nat) (v1_270 : Int32) (v5_270 : Int32) (h25 : y_H) => (
                                if y_K h25 v0_270 = 13 then
                                y_bd (s_I h25 v0_270 58 0) (fun h26 =>
                                if v5_270 = (-9 : Int32) then
                                  some ((-9 : Int32), h26)
                                else
                                  if y_K h26 v0_270 = 13 then
                                  y_bd (s_I h26 v0_270 59 v1_270) (fun h29 =>
                                  y_jl (fun (_ : Nat) (_ : Int32) (_ : Int32) (_ : y_H) => (none : Option (Int32 × y_H))) (fun j294 (v0_294 : Nat) (v5_294 : Int32) (v6_294 : Int32) (h32 : y_H) =>
                                      if y_K h32 v0_294 = 13 then
                                      if y_K h32 (y_P h32 v0_294 63) = 100 ∧ y_ix v6_294 (y_N h32 (y_P h32 v0_294 63)) = true then
                                      if (y_I h32 (y_P h32 v0_294 63) (Int32.toNatClampNeg v6_294)) = (-9 : Int32) then
                                        if y_K h32 v0_294 = 13 then
                                        y_jl (fun (_ : Nat) (_ : Int32) (_ : Int32) (_ : y_H) => (none : Option (Int32 × y_H))) (fun j338 (v0_338 : Nat) (v6_338 : Int32) (v7_338 : Int32) (h33 : y_H) =>
                                            if y_K h33 v0_338 = 13 then
                                            if y_K h33 (y_P h33 v0_338 63) = 100 ∧ y_ix v7_338 (y_N h33 (y_P h33 v0_338 63)) = true then
                                            if (y_I h33 (y_P h33 v0_338 63) (Int32.toNatClampNeg v7_338)) = (-9 : Int32) then
                                              if y_K h33 v0_338 = 13 then
                                              some (y_I h33 v0_338 58, h33)
                                              else none
                                            else
                                              if y_K h33 v0_338 = 13 then
                                              if y_K h33 v0_338 = 13 then
                                              if y_K h33 (y_P h33 v0_338 64) = 100 ∧ y_ix v7_338 (y_N h33 (y_P h33 v0_338 64)) = true then
                                              if y_K h33 (y_P h33 v0_338 60) = 100 ∧ y_ix (v6_338 + (-1 : Int32)) (y_N h33 (y_P h33 v0_338 60)) = true then
                                              y_bd (s_I h33 (y_P h33 v0_338 60) (Int32.toNatClampNeg (v6_338 + (-1 : Int32))) ((y_I h33 (y_P h33 v0_338 64) (Int32.toNatClampNeg v7_338)) / 8)) (fun h35 =>
                                              if y_K h35 v0_338 = 13 then
                                              if y_K h35 v0_338 = 13 then
                                              if y_K h35 (y_P h35 v0_338 64) = 100 ∧ y_ix v7_338 (y_N h35 (y_P h35 v0_338 64)) = true then
                                              if (y_rem (y_I h35 (y_P h35 v0_338 64) (Int32.toNatClampNeg v7_338)) 8) = 7 then
                                                if y_K h35 (y_P h35 v0_338 61) = 100 ∧ y_ix (v6_338 + (-1 : Int32)) (y_N h35 (y_P h35 v0_338 61)) = true then
                                                y_bd (s_I h35 (y_P h35 v0_338 61) (Int32.toNatClampNeg (v6_338 + (-1 : Int32))) (-9 : Int32)) (fun h45 =>
                                                if y_K h45 v0_338 = 13 then
                                                if y_K h45 (y_P h45 v0_338 63) = 100 ∧ y_ix v7_338 (y_N h45 (y_P h45 v0_338 63)) = true then
                                                j338 v0_338 (v6_338 + (-1 : Int32)) (y_I h45 (y_P h45 v0_338 63) (Int32.toNatClampNeg v7_338)) h45
                                                else none
                                                else none)
                                                else none
                                              else
                                                if y_K h35 v0_338 = 13 then
                                                if y_K h35 (y_P h35 v0_338 64) = 100 ∧ y_ix v7_338 (y_N h35 (y_P h35 v0_338 64)) = true then
                                                if y_K h35 (y_P h35 v0_338 61) = 100 ∧ y_ix (v6_338 + (-1 : Int32)) (y_N h35 (y_P h35 v0_338 61)) = true then
                                                y_bd (s_I h35 (y_P h35 v0_338 61) (Int32.toNatClampNeg (v6_338 + (-1 : Int32))) (y_rem (y_I h35 (y_P h35 v0_338 64) (Int32.toNatClampNeg v7_338)) 8)) (fun h38 =>
                                                if y_K h38 v0_338 = 13 then
                                                if y_K h38 (y_P h38 v0_338 63) = 100 ∧ y_ix v7_338 (y_N h38 (y_P h38 v0_338 63)) = true then
                                                j338 v0_338 (v6_338 + (-1 : Int32)) (y_I h38 (y_P h38 v0_338 63) (Int32.toNatClampNeg v7_338)) h38
                                                else none
                                                else none)
                                                else none
                                                else none
                                                else none
                                              else none
                                              else none
                                              else none)
                                              else none
                                              else none
                                              else none
                                              else none
                                            else none
                                            else none) (fun j338 =>
                                        j338 v0_294 (y_I h32 v0_294 58) v5_294 h32)
                                        else none
                                      else
                                        if y_K h32 v0_294 = 13 then
                                        if y_K h32 v0_294 = 13 then
                                        y_bd (s_I h32 v0_294 58 ((y_I h32 v0_294 58) + 1)) (fun h61 =>
                                        if y_K h61 v0_294 = 13 then
                                        if y_K h61 (y_P h61 v0_294 63) = 100 ∧ y_ix v6_294 (y_N h61 (y_P h61 v0_294 63)) = true then
                                        j294 v0_294 v5_294 (y_I h61 (y_P h61 v0_294 63) (Int32.toNatClampNeg v6_294)) h61
                                        else none
                                        else none)
                                        else none
                                        else none
                                      else none
                                      else none) (fun j294 =>
                                  j294 v0_270 v5_270 v5_270 h29))
                                  else none)
                                else none : Option (Int32 × y_H))) (fun j270 =>
                            if (y_I h24 v0_216 66) ≤ v4_216 then
                              j270 v0_216 v1_216 v5_216 h24
                            else
                              if v5_216 = (-9 : Int32) then
                                if y_K h24 v0_216 = 13 then
                                if y_K h24 (y_P h24 v0_216 62) = 101 ∧ y_ix v4_216 (y_N h24 (y_P h24 v0_216 62)) = true then
                                if y_K h24 v0_216 = 13 then
                                y_cl (f_X12_outOf v0_216 (y_L h24 (y_P h24 v0_216 62) (Int32.toNatClampNeg v4_216)) h24) (fun r71 h72 =>
                                if y_K h72 v0_216 = 13 then
                                if r71 = (y_I h72 v0_216 55) then
                                  j216 v0_216 v1_216 v4_216 v4_216 h72
                                else
                                  if y_K h72 v0_216 = 13 then
                                  y_cl (f_X12_lifted v0_216 v1_216 v4_216 h72) (fun _ h74 =>
                                  j216 v0_216 v1_216 (v4_216 + 1) v5_216 h74)
                                  else none
                                else none)
                                else none
                                else none
                                else none
                              else
                                j270 v0_216 v1_216 v5_216 h24)
                            else none) (fun j216 =>
                        j216 v0_97 v1_97 0 (-9 : Int32) h22)
section LSP
variable {C D C0 : Cg} {G G0 G2 : y_H} {y : Sy} {s t d k n e N i j f g b : Nat} {l : List Nat} {st : Nat → Cg} {row : Nat → Nat}
/-- where the model's search ends -/
def mEnd (y : Sy) (C0 : Cg) (b : Nat) (G0 : y_H) (r : Int32) (G : y_H) : Prop := ag (fun a k => a = 2978 ∨ a = 3042 ∨ a = 3106 ∨ a = 3170 ∨ a = 2850 ∨ a = 2914 ∨ a = 11 ∧ (k = 66 ∨ k = 58 ∨ k = 59)) (fun _ => False) G0 G ∧ ((r = -9 ∧ y_I G 11 58 = 0 ∧ y_I G 11 59 = y_I G0 11 59 ∧ ∀ e2 D2, Rn y.step C0 e2 D2 → y.out D2 ≠ y.W) ∨ ∃ E, MinG y C0 E ∧ r = nI (ln E) ∧ y_I G 11 58 = nI (ln E) ∧ y_I G 11 59 = nI b ∧ RW E (y_I G 2850) (y_I G 2914))
theorem mvM_8 (hg : g ≤ 4) : mvM f g / 8 = f ∧ mvM f g % 8 = (if g = 0 then 7 else g - 1) := by
  unfold mvM
  split <;> omega
theorem i_mm1 (x : Nat) : nI (x + 1) + (-1 : Int32) = nI x := by
  rw [← nI_1, Int32.add_assoc, show (1 : Int32) + -1 = 0 by decide, Int32.add_zero]
theorem m_search (O : OkS y) (r0 : RI y C0) (w : Sh G0) (mb : MB y b G0) (I : MI y C0 G0 G 1 (fun _ => C0) (fun _ => 0) 0 0) : wp (mSr 11 (nI b) G) (mEnd y C0 b G0) := by
  have hW := O.2.1
  have hn6 := O.2.2.2.1
  have hb := mb.1
  unfold mSr
  refine wp_jl (fun m j => (∀ i G N st row, i ≤ N → 65306 + 2 - i < m → MI y C0 G0 G N st row i 0 → (∀ k, k < i → y.out (st k) ≠ y.W) → wp (j 11 (nI b) (nI i) (-9) G) (mEnd y C0 b G0)) ∧ (0 < m → ∀ i G N st row, i < N → MI y C0 G0 G N st row i 0 → (∀ k, k < i → y.out (st k) ≠ y.W) → y.out (st i) = y.W → wp (j 11 (nI b) (nI i) (nI i) G) (mEnd y C0 b G0))) ⟨fun i _ _ _ _ _ hm => absurd hm (by omega), fun hm => absurd hm (by omega)⟩ (fun m j IH => ?_) (fun j IH => ?_)
  rotate_left
  · exact IH.1 0 G 1 _ _ (by omega) (by unfold y_fu; omega) I (fun k hk => absurd hk (by omega))
  refine ⟨fun i G N st row hi hm J ng => ?_, fun _ i G N st row hi J ng gl => ?_⟩
  · have hN := J.1.cnt O r0
    have WG := J.2.w w
    have es := J.2.2.1
    refine wp_g (by simp only [WG.2]) (wp_jn ?_)
    by_cases iN : i = N
    · have le : nI N ≤ nI i := nI_le (by omega) (by omega)
      refine wp_pos (by simp only [es, le]) (wp_g (by simp only [WG.2]) (wp_be rfl (wp_pos rfl (wp_some.mpr ⟨ag.sI (J.2.1.mono (fun a k q => by omega) (fun a q => q)) (by omega), Or.inl ⟨rfl, e_IIs, ?_, J.1.none (by omega) (by omega) (fun k hk => ng k (by omega))⟩⟩))))
      rw [e_IIk (by omega)]
      exact J.2.1.I (by omega)
    · have iN2 : i < N := by omega
      have le : ¬ nI N ≤ nI i := nI_ge iN2 (by omega)
      have rC := r0.rn O (J.1.b1 i iN2)
      obtain ⟨el, wC⟩ := J.2.2.2.1 i iN2
      have tt := rC.tot O
      have ol := rC.1
      have xi := i_ix (show i < 66000 by omega) (by decide)
      have ci := i_cl (show i < 2 ^ 31 by omega)
      have eo : f_X12_outOf 11 (lg (enc (st i))) G = some (nI (y.out (st i)), G) := m_out9 (n := y.n) WG wC.1 ((J.2.1.I (by omega)).trans mb.2.2.2.1) (by omega) hn6
      have eW : y_I G 11 55 = nI y.W := (J.2.1.I (by omega)).trans mb.2.2.1
      refine wp_neg (by simp only [es, le, not_false_eq_true]) (wp_pos rfl (wp_g (by simp only [WG.2]) (wp_g (by simp only [WG.2, xi, and_self]) (wp_g (by simp only [WG.2]) (wp_ce (h := G) (r := nI (y.out (st i))) (by simp only [WG.2, ci, el, eo]) (wp_g (by simp only [WG.2]) ?_))))))
      by_cases gl : y.out (st i) = y.W
      · exact wp_pos (by rw [eW, gl]) (IH.2 (by omega) i G N st row iN2 J ng gl)
      · have ne : ¬ nI (y.out (st i)) = nI y.W := by
          rw [i_eq (by omega)]
          exact gl
        obtain ⟨G2, N2, st2, row2, ef, J2, n2, k2⟩ := m_lifted O r0 w mb J iN2
        refine wp_neg (by rw [eW]; exact ne) (wp_g (by simp only [WG.2]) (wp_ce ef ?_))
        rw [nI_1]
        refine IH.1 (i + 1) G2 N2 st2 row2 (by omega) (by omega) ⟨J2.1.next (by omega), J2.2⟩ (fun k hk => ?_)
        rw [(k2 k (by omega)).1]
        by_cases e : k = i
        · rw [e]; exact gl
        · exact ng k (by omega)
  · have hN := J.1.cnt O r0
    have WG := J.2.w w
    have es := J.2.2.1
    have le : ¬ nI N ≤ nI i := nI_ge hi (by omega)
    have n9 : ¬ nI i = -9 := by rw [i_ne9 (by omega)]; exact fun z => z
    have mg := J.1.found hi gl ng
    have lE := mg.ln O r0
    obtain ⟨ga, -, m2, m3, m4, -⟩ := id J.2
    have row0 := J.1.b0.2.2
    -- the parents
    have par : ∀ k, k < N → k = 0 ∨ ∃ q f g, q < k ∧ y_I G 3042 k = nI q ∧ ln (row k) = ln (row q) + 1 ∧ row k = 64 * row q + (8 * f + g) + 1 ∧ f < 4 ∧ g ≤ 4 ∧ y_I G 3106 k = nI (mvM f g) := fun k hk => by
      by_cases k0 : k = 0
      · exact Or.inl k0
      · obtain ⟨q, f, g, a1, a2, a3, a4, a5, a6⟩ := m4 k (by omega) hk
        exact Or.inr ⟨q, f, g, a1, a2, by rw [a3, ln_s (by omega)], a3, a4, a5, a6⟩
    refine wp_g (by simp only [WG.2]) (wp_jn (wp_neg (by simp only [es, le, not_false_eq_true]) (wp_neg n9 (wp_g (by simp only [WG.2]) (wp_be rfl (wp_neg n9 (wp_g (by simp only [e_KI, WG.2]) (wp_be rfl ?_))))))))
    have gB : ag (fun a k => a = 11 ∧ (k = 58 ∨ k = 59)) (fun _ => False) G (s_I (s_I G 11 58 0) 11 59 (nI b)) := ag.sI (ag.sI (ag.refl _ _ _) (by omega)) (by omega)
    refine wp_jl (fun m j => ∀ k H, k < N → k < m → ag (fun a k => a = 11 ∧ (k = 58 ∨ k = 59)) (fun _ => False) G H → y_I H 11 59 = nI b → ln (row k) ≤ ln (row i) → y_I H 11 58 = nI (ln (row i) - ln (row k)) → wp (j 11 (nI i) (nI k) H) (mEnd y C0 b G0)) (fun k _ _ hm => absurd hm (by omega)) (fun m j IH1 k H hk hm gH h59 lk h58 => ?_) (fun j IH1 => ?_)
    rotate_left
    · exact IH1 i _ hi (by unfold y_fu; omega) gB e_IIs (Nat.le_refl _) (by rw [e_IIk (by omega), e_IIs, Nat.sub_self]; rfl)
    have WH : Sh H := (Sh_ag gH (by intro a k q; (simp only [FSh] at q ⊢) <;> omega) (by intro a q; (simp only [GSh, not_false_eq_true] at q ⊢) <;> omega) WG)
    have xk := i_ix (show k < 66000 by omega) (by decide)
    have ck := i_cl (show k < 2 ^ 31 by omega)
    rcases par k hk with k0 | ⟨q, f, g, a1, a2, a3, a4, a5, a6, a7⟩
    rotate_left
    · have v : y_I H 3042 k = nI q := (gH.I (by omega)).trans a2
      have nq : ¬ nI q = -9 := by rw [i_ne9 (by omega)]; exact fun z => z
      refine wp_g (by simp only [WH.2]) (wp_g (by simp only [WH.2, xk, and_self]) (wp_neg (by simp only [WH.2, ck, v, nq, not_false_eq_true]) (wp_g (by simp only [WH.2]) (wp_g (by simp only [WH.2]) (wp_be rfl (wp_g (by simp only [e_KI, WH.2]) (wp_g (by simp only [e_KI, e_NI, e_PI, WH.2, xk, and_self]) ?_)))))))
      have v2 : y_I (s_I H 11 58 (y_I H 11 58 + 1)) (y_P (s_I H 11 58 (y_I H 11 58 + 1)) 11 63) (Int32.toNatClampNeg (nI k)) = nI q := by
        simp only [e_PI, WH.2, ck]
        rw [e_IIn (by omega)]
        exact v
      rw [v2]
      refine IH1 q _ (by omega) (by omega) (ag.sI gH (by omega)) (by rw [e_IIk (by omega)]; exact h59) (by omega) ?_
      rw [e_IIs, h58, nI_1]
      congr 1
      omega
    have v : y_I H 3042 k = -9 := by
      rw [k0]
      exact (gH.I (by omega)).trans m3
    have h58' : y_I H 11 58 = nI (ln (row i)) := by
      rw [h58, k0, row0, ln_0]
      rfl
    refine wp_g (by simp only [WH.2]) (wp_g (by simp only [WH.2, xk, and_self]) (wp_pos (by simp only [WH.2, ck, v]) (wp_g (by simp only [WH.2]) ?_)))
    rw [h58']
    refine wp_jl (fun m j => ∀ k Y, k < N → k < m → ag (fun a k => a = 2850 ∨ a = 2914) (fun _ => False) H Y → ln (row k) ≤ ln (row i) → (∀ F T : Nat → Int32, (∀ p, ln (row k) ≤ p → F p = y_I Y 2850 p ∧ T p = y_I Y 2914 p) → RW (row k) F T → RW (row i) F T) → wp (j 11 (nI (ln (row k))) (nI k) Y) (mEnd y C0 b G0)) (fun k _ _ hm => absurd hm (by omega)) (fun m j IH2 k Y hk hm gY lk S => ?_) (fun j IH2 => ?_)
    rotate_left
    · exact IH2 i H hi (by unfold y_fu; omega) (ag.refl _ _ _) (Nat.le_refl _) (fun F T _ r => r)
    have WY : Sh Y := (Sh_ag gY (by intro a k q; (simp only [FSh] at q ⊢) <;> omega) (by intro a q; (simp only [GSh, not_false_eq_true] at q ⊢) <;> omega) WH)
    have xk := i_ix (show k < 66000 by omega) (by decide)
    have ck := i_cl (show k < 2 ^ 31 by omega)
    have yp : y_I Y 3042 k = y_I G 3042 k := (gY.I (by omega)).trans (gH.I (by omega))
    have ym : y_I Y 3106 k = y_I G 3106 k := (gY.I (by omega)).trans (gH.I (by omega))
    rcases par k hk with k0 | ⟨q, f, g, a1, a2, a3, a4, a5, a6, a7⟩
    · have v : y_I Y 3042 k = -9 := by rw [yp, k0]; exact m3
      have f58 : y_I Y 11 58 = nI (ln (row i)) := (gY.I (by omega)).trans h58'
      refine wp_g (by simp only [WY.2]) (wp_g (by simp only [WY.2, xk, and_self]) (wp_pos (by simp only [WY.2, ck, v]) (wp_g (by simp only [WY.2]) (wp_some.mpr ⟨?_, Or.inr ⟨row i, mg, f58, f58, (gY.I (by omega)).trans h59, S _ _ (fun p _ => ⟨rfl, rfl⟩) ?_⟩⟩))))
      · exact (ga.mono (fun a k q => by omega) (fun a q => q)).trans ((gH.mono (fun a k q => by omega) (fun a q => q)).trans (gY.mono (fun a k q => by omega) (fun a q => q)))
      · rw [k0, row0]
        exact RW_0
    · rw [a2] at yp
      rw [a7] at ym
      have nq : ¬ nI q = -9 := by rw [i_ne9 (by omega)]; exact fun z => z
      obtain ⟨v8, v9⟩ := mvM_8 (f := f) (g := g) a6
      have mb64 : mvM f g < 64 := by unfold mvM; split <;> omega
      have dv : nI (mvM f g) / 8 = nI f := by rw [show (8 : Int32) = nI 8 from rfl, i_div (by omega) (by decide) (by decide), v8]
      have rm : y_rem (nI (mvM f g)) 8 = nI (if g = 0 then 7 else g - 1) := by rw [show (8 : Int32) = nI 8 from rfl, i_rem (by omega) (by decide) (by decide), v9]
      rw [a3]
      have pm : nI (ln (row q) + 1) + (-1 : Int32) = nI (ln (row q)) := i_mm1 _
      have xp := i_ix (show ln (row q) < 4000 by omega) (by decide)
      have cp := i_cl (show ln (row q) < 2 ^ 31 by omega)
      have fin : ∀ x, x = tO g → wp (j 11 (nI (ln (row q))) (nI q) (s_I (s_I Y 2850 (ln (row q)) (nI f)) 2914 (ln (row q)) x)) (mEnd y C0 b G0) := fun x ex => by
        refine IH2 q _ (by omega) (by omega) (ag.sI (ag.sI gY (by omega)) (by omega)) (by omega) (fun F T hFT r => ?_)
        refine S F T (fun p hp => ?_) ?_
        · have := hFT p (by omega)
          rw [e_IIn (by omega), e_IIk (by omega), e_IIk (by omega), e_IIn (by omega)] at this
          exact this
        · rw [a4, RW_s (by omega)]
          have := hFT (ln (row q)) (Nat.le_refl _)
          rw [e_IIn (by omega), e_IIs, e_IIs] at this
          refine ⟨?_, ?_, r⟩
          · rw [this.1, show (8 * f + g) / 8 = f by omega]
          · rw [this.2, ex, show (8 * f + g) % 8 = g by omega]
      by_cases g0 : g = 0
      · rw [if_pos g0] at rm
        have z := fin (-9) (by unfold tO; rw [if_pos g0])
        have e7 : nI 7 = 7 := rfl
        have v2 : y_I (s_I (s_I Y 2850 (ln (row q)) (nI f)) 2914 (ln (row q)) (-9)) (y_P (s_I (s_I Y 2850 (ln (row q)) (nI f)) 2914 (ln (row q)) (-9)) 11 63) (Int32.toNatClampNeg (nI k)) = nI q := by
          simp (disch := omega) only [e_KI, e_NI, e_BI, e_LI, e_PI, e_KB, e_NB, e_IB, e_LB, e_PB, e_KL, e_NL, e_IL, e_BL, e_PL, e_KP, e_NP, e_IP, e_BP, e_LP, e_IIs, e_BBs, e_LLs, e_PPs, e_IIn, e_BBn, e_LLn, e_PPn, e_IIk, e_BBk, e_LLk, e_PPk, WY.2, ck, yp]
        (repeat (first | with_reducible apply wp_jn | ((with_reducible apply wp_be); · first | (simp (disch := omega) only [WY.2, xk, ck, yp, nq, ym, pm, xp, cp, dv, rm, e7, e_KI, e_NI, e_BI, e_LI, e_PI, e_KB, e_NB, e_IB, e_LB, e_PB, e_KL, e_NL, e_IL, e_BL, e_PL, e_KP, e_NP, e_IP, e_BP, e_LP, e_IIs, e_BBs, e_LLs, e_PPs, e_IIn, e_BBn, e_LLn, e_PPn, e_IIk, e_BBk, e_LLk, e_PPk, e_Ks, e_Ns, e_Is, e_Bs, e_Ls, e_Ps, e_Kn, e_Nn, e_In, e_Bn, e_Ln, e_Pn, if_true, if_false, and_self, or_true, true_or, not_false_eq_true, Bool.false_eq_true]; exact rfl) | exact rfl) | ((with_reducible apply wp_ce); · first | (simp (disch := omega) only [WY.2, xk, ck, yp, nq, ym, pm, xp, cp, dv, rm, e7, e_KI, e_NI, e_BI, e_LI, e_PI, e_KB, e_NB, e_IB, e_LB, e_PB, e_KL, e_NL, e_IL, e_BL, e_PL, e_KP, e_NP, e_IP, e_BP, e_LP, e_IIs, e_BBs, e_LLs, e_PPs, e_IIn, e_BBn, e_LLn, e_PPn, e_IIk, e_BBk, e_LLk, e_PPk, e_Ks, e_Ns, e_Is, e_Bs, e_Ls, e_Ps, e_Kn, e_Nn, e_In, e_Bn, e_Ln, e_Pn, if_true, if_false, and_self, or_true, true_or, not_false_eq_true, Bool.false_eq_true]; exact rfl) | exact rfl) | ((with_reducible apply wp_g); · first | (simp (disch := omega) only [WY.2, xk, ck, yp, nq, ym, pm, xp, cp, dv, rm, e7, e_KI, e_NI, e_BI, e_LI, e_PI, e_KB, e_NB, e_IB, e_LB, e_PB, e_KL, e_NL, e_IL, e_BL, e_PL, e_KP, e_NP, e_IP, e_BP, e_LP, e_IIs, e_BBs, e_LLs, e_PPs, e_IIn, e_BBn, e_LLn, e_PPn, e_IIk, e_BBk, e_LLk, e_PPk, e_Ks, e_Ns, e_Is, e_Bs, e_Ls, e_Ps, e_Kn, e_Nn, e_In, e_Bn, e_Ln, e_Pn, if_true, if_false, and_self, or_true, true_or, not_false_eq_true, Bool.false_eq_true]; done) | (simp (disch := omega) only [WY.2, xk, ck, yp, nq, ym, pm, xp, cp, dv, rm, e7, e_KI, e_NI, e_BI, e_LI, e_PI, e_KB, e_NB, e_IB, e_LB, e_PB, e_KL, e_NL, e_IL, e_BL, e_PL, e_KP, e_NP, e_IP, e_BP, e_LP, e_IIs, e_BBs, e_LLs, e_PPs, e_IIn, e_BBn, e_LLn, e_PPn, e_IIk, e_BBk, e_LLk, e_PPk, e_Ks, e_Ns, e_Is, e_Bs, e_Ls, e_Ps, e_Kn, e_Nn, e_In, e_Bn, e_Ln, e_Pn, if_true, if_false, and_self, or_true, true_or, not_false_eq_true, Bool.false_eq_true]; decide) | decide) | ((with_reducible apply wp_pos); · first | (simp (disch := omega) only [WY.2, xk, ck, yp, nq, ym, pm, xp, cp, dv, rm, e7, e_KI, e_NI, e_BI, e_LI, e_PI, e_KB, e_NB, e_IB, e_LB, e_PB, e_KL, e_NL, e_IL, e_BL, e_PL, e_KP, e_NP, e_IP, e_BP, e_LP, e_IIs, e_BBs, e_LLs, e_PPs, e_IIn, e_BBn, e_LLn, e_PPn, e_IIk, e_BBk, e_LLk, e_PPk, e_Ks, e_Ns, e_Is, e_Bs, e_Ls, e_Ps, e_Kn, e_Nn, e_In, e_Bn, e_Ln, e_Pn, if_true, if_false, and_self, or_true, true_or, not_false_eq_true, Bool.false_eq_true]; done) | (simp (disch := omega) only [WY.2, xk, ck, yp, nq, ym, pm, xp, cp, dv, rm, e7, e_KI, e_NI, e_BI, e_LI, e_PI, e_KB, e_NB, e_IB, e_LB, e_PB, e_KL, e_NL, e_IL, e_BL, e_PL, e_KP, e_NP, e_IP, e_BP, e_LP, e_IIs, e_BBs, e_LLs, e_PPs, e_IIn, e_BBn, e_LLn, e_PPn, e_IIk, e_BBk, e_LLk, e_PPk, e_Ks, e_Ns, e_Is, e_Bs, e_Ls, e_Ps, e_Kn, e_Nn, e_In, e_Bn, e_Ln, e_Pn, if_true, if_false, and_self, or_true, true_or, not_false_eq_true, Bool.false_eq_true]; decide) | decide) | ((with_reducible apply wp_neg); · first | (simp (disch := omega) only [WY.2, xk, ck, yp, nq, ym, pm, xp, cp, dv, rm, e7, e_KI, e_NI, e_BI, e_LI, e_PI, e_KB, e_NB, e_IB, e_LB, e_PB, e_KL, e_NL, e_IL, e_BL, e_PL, e_KP, e_NP, e_IP, e_BP, e_LP, e_IIs, e_BBs, e_LLs, e_PPs, e_IIn, e_BBn, e_LLn, e_PPn, e_IIk, e_BBk, e_LLk, e_PPk, e_Ks, e_Ns, e_Is, e_Bs, e_Ls, e_Ps, e_Kn, e_Nn, e_In, e_Bn, e_Ln, e_Pn, if_true, if_false, and_self, or_true, true_or, not_false_eq_true, Bool.false_eq_true]; done) | (simp (disch := omega) only [WY.2, xk, ck, yp, nq, ym, pm, xp, cp, dv, rm, e7, e_KI, e_NI, e_BI, e_LI, e_PI, e_KB, e_NB, e_IB, e_LB, e_PB, e_KL, e_NL, e_IL, e_BL, e_PL, e_KP, e_NP, e_IP, e_BP, e_LP, e_IIs, e_BBs, e_LLs, e_PPs, e_IIn, e_BBn, e_LLn, e_PPn, e_IIk, e_BBk, e_LLk, e_PPk, e_Ks, e_Ns, e_Is, e_Bs, e_Ls, e_Ps, e_Kn, e_Nn, e_In, e_Bn, e_Ln, e_Pn, if_true, if_false, and_self, or_true, true_or, not_false_eq_true, Bool.false_eq_true]; decide) | decide)))
        rw [v2, pm]
        exact z
      · rw [if_neg g0] at rm
        have z := fin (nI (g - 1)) (by unfold tO; rw [if_neg g0])
        have e7 : ¬ nI (g - 1) = 7 := by
          rw [show (7 : Int32) = nI 7 from rfl, i_eq (by omega)]
          omega
        have v2 : y_I (s_I (s_I Y 2850 (ln (row q)) (nI f)) 2914 (ln (row q)) (nI (g - 1))) (y_P (s_I (s_I Y 2850 (ln (row q)) (nI f)) 2914 (ln (row q)) (nI (g - 1))) 11 63) (Int32.toNatClampNeg (nI k)) = nI q := by
          simp (disch := omega) only [e_KI, e_NI, e_BI, e_LI, e_PI, e_KB, e_NB, e_IB, e_LB, e_PB, e_KL, e_NL, e_IL, e_BL, e_PL, e_KP, e_NP, e_IP, e_BP, e_LP, e_IIs, e_BBs, e_LLs, e_PPs, e_IIn, e_BBn, e_LLn, e_PPn, e_IIk, e_BBk, e_LLk, e_PPk, WY.2, ck, yp]
        (repeat (first | with_reducible apply wp_jn | ((with_reducible apply wp_be); · first | (simp (disch := omega) only [WY.2, xk, ck, yp, nq, ym, pm, xp, cp, dv, rm, e7, e_KI, e_NI, e_BI, e_LI, e_PI, e_KB, e_NB, e_IB, e_LB, e_PB, e_KL, e_NL, e_IL, e_BL, e_PL, e_KP, e_NP, e_IP, e_BP, e_LP, e_IIs, e_BBs, e_LLs, e_PPs, e_IIn, e_BBn, e_LLn, e_PPn, e_IIk, e_BBk, e_LLk, e_PPk, e_Ks, e_Ns, e_Is, e_Bs, e_Ls, e_Ps, e_Kn, e_Nn, e_In, e_Bn, e_Ln, e_Pn, if_true, if_false, and_self, or_true, true_or, not_false_eq_true, Bool.false_eq_true]; exact rfl) | exact rfl) | ((with_reducible apply wp_ce); · first | (simp (disch := omega) only [WY.2, xk, ck, yp, nq, ym, pm, xp, cp, dv, rm, e7, e_KI, e_NI, e_BI, e_LI, e_PI, e_KB, e_NB, e_IB, e_LB, e_PB, e_KL, e_NL, e_IL, e_BL, e_PL, e_KP, e_NP, e_IP, e_BP, e_LP, e_IIs, e_BBs, e_LLs, e_PPs, e_IIn, e_BBn, e_LLn, e_PPn, e_IIk, e_BBk, e_LLk, e_PPk, e_Ks, e_Ns, e_Is, e_Bs, e_Ls, e_Ps, e_Kn, e_Nn, e_In, e_Bn, e_Ln, e_Pn, if_true, if_false, and_self, or_true, true_or, not_false_eq_true, Bool.false_eq_true]; exact rfl) | exact rfl) | ((with_reducible apply wp_g); · first | (simp (disch := omega) only [WY.2, xk, ck, yp, nq, ym, pm, xp, cp, dv, rm, e7, e_KI, e_NI, e_BI, e_LI, e_PI, e_KB, e_NB, e_IB, e_LB, e_PB, e_KL, e_NL, e_IL, e_BL, e_PL, e_KP, e_NP, e_IP, e_BP, e_LP, e_IIs, e_BBs, e_LLs, e_PPs, e_IIn, e_BBn, e_LLn, e_PPn, e_IIk, e_BBk, e_LLk, e_PPk, e_Ks, e_Ns, e_Is, e_Bs, e_Ls, e_Ps, e_Kn, e_Nn, e_In, e_Bn, e_Ln, e_Pn, if_true, if_false, and_self, or_true, true_or, not_false_eq_true, Bool.false_eq_true]; done) | (simp (disch := omega) only [WY.2, xk, ck, yp, nq, ym, pm, xp, cp, dv, rm, e7, e_KI, e_NI, e_BI, e_LI, e_PI, e_KB, e_NB, e_IB, e_LB, e_PB, e_KL, e_NL, e_IL, e_BL, e_PL, e_KP, e_NP, e_IP, e_BP, e_LP, e_IIs, e_BBs, e_LLs, e_PPs, e_IIn, e_BBn, e_LLn, e_PPn, e_IIk, e_BBk, e_LLk, e_PPk, e_Ks, e_Ns, e_Is, e_Bs, e_Ls, e_Ps, e_Kn, e_Nn, e_In, e_Bn, e_Ln, e_Pn, if_true, if_false, and_self, or_true, true_or, not_false_eq_true, Bool.false_eq_true]; decide) | decide) | ((with_reducible apply wp_pos); · first | (simp (disch := omega) only [WY.2, xk, ck, yp, nq, ym, pm, xp, cp, dv, rm, e7, e_KI, e_NI, e_BI, e_LI, e_PI, e_KB, e_NB, e_IB, e_LB, e_PB, e_KL, e_NL, e_IL, e_BL, e_PL, e_KP, e_NP, e_IP, e_BP, e_LP, e_IIs, e_BBs, e_LLs, e_PPs, e_IIn, e_BBn, e_LLn, e_PPn, e_IIk, e_BBk, e_LLk, e_PPk, e_Ks, e_Ns, e_Is, e_Bs, e_Ls, e_Ps, e_Kn, e_Nn, e_In, e_Bn, e_Ln, e_Pn, if_true, if_false, and_self, or_true, true_or, not_false_eq_true, Bool.false_eq_true]; done) | (simp (disch := omega) only [WY.2, xk, ck, yp, nq, ym, pm, xp, cp, dv, rm, e7, e_KI, e_NI, e_BI, e_LI, e_PI, e_KB, e_NB, e_IB, e_LB, e_PB, e_KL, e_NL, e_IL, e_BL, e_PL, e_KP, e_NP, e_IP, e_BP, e_LP, e_IIs, e_BBs, e_LLs, e_PPs, e_IIn, e_BBn, e_LLn, e_PPn, e_IIk, e_BBk, e_LLk, e_PPk, e_Ks, e_Ns, e_Is, e_Bs, e_Ls, e_Ps, e_Kn, e_Nn, e_In, e_Bn, e_Ln, e_Pn, if_true, if_false, and_self, or_true, true_or, not_false_eq_true, Bool.false_eq_true]; decide) | decide) | ((with_reducible apply wp_neg); · first | (simp (disch := omega) only [WY.2, xk, ck, yp, nq, ym, pm, xp, cp, dv, rm, e7, e_KI, e_NI, e_BI, e_LI, e_PI, e_KB, e_NB, e_IB, e_LB, e_PB, e_KL, e_NL, e_IL, e_BL, e_PL, e_KP, e_NP, e_IP, e_BP, e_LP, e_IIs, e_BBs, e_LLs, e_PPs, e_IIn, e_BBn, e_LLn, e_PPn, e_IIk, e_BBk, e_LLk, e_PPk, e_Ks, e_Ns, e_Is, e_Bs, e_Ls, e_Ps, e_Kn, e_Nn, e_In, e_Bn, e_Ln, e_Pn, if_true, if_false, and_self, or_true, true_or, not_false_eq_true, Bool.false_eq_true]; done) | (simp (disch := omega) only [WY.2, xk, ck, yp, nq, ym, pm, xp, cp, dv, rm, e7, e_KI, e_NI, e_BI, e_LI, e_PI, e_KB, e_NB, e_IB, e_LB, e_PB, e_KL, e_NL, e_IL, e_BL, e_PL, e_KP, e_NP, e_IP, e_BP, e_LP, e_IIs, e_BBs, e_LLs, e_PPs, e_IIn, e_BBn, e_LLn, e_PPn, e_IIk, e_BBk, e_LLk, e_PPk, e_Ks, e_Ns, e_Is, e_Bs, e_Ls, e_Ps, e_Kn, e_Nn, e_In, e_Bn, e_Ln, e_Pn, if_true, if_false, and_self, or_true, true_or, not_false_eq_true, Bool.false_eq_true]; decide) | decide)))
        rw [v2, pm]
        exact z
end LSP
