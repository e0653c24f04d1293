/-! where a box may stand: the model -/
def mS4 (v0_189 : Nat) (v1_189 : Int32) (v2_189 : Int32) (v3_189 : Int32) (v4_189 : Int32) (v5_189 : Int32) (h3 : y_H) : Option (Int32 × y_H) :=
  y_jl (fun (_ : Nat) (_ : Int32) (_ : Int32) (_ : Int32) (_ : Int32) (_ : Int32) (_ : Int32) (_ : y_H) => (none : Option (Int32 × y_H))) (fun j192 (v0_192 : Nat) (v1_192 : Int32) (v2_192 : Int32) (v3_192 : Int32) (v4_192 : Int32) (v5_192 : Int32) (v7_192 : Int32) (h4 : y_H) =>
      if y_K h4 v0_192 = 13 then
      if (y_I h4 v0_192 0) ≤ v7_192 then
        y_jl (fun (_ : Nat) (_ : Int32) (_ : Int32) (_ : Int32) (_ : Int32) (_ : Int32) (_ : y_H) => (none : Option (Int32 × y_H))) (fun j316 (v0_316 : Nat) (v3_316 : Int32) (v4_316 : Int32) (v5_316 : Int32) (v7_316 : Int32) (v8_316 : Int32) (h5 : y_H) =>
            if v5_316 ≤ v8_316 then
              if y_K h5 v0_316 = 13 then
              y_cl (f_X12_tall v0_316 v3_316 h5) (fun r6 h7 =>
              if y_K h7 v0_316 = 13 then
              if y_K h7 (y_P h7 v0_316 20) = 100 ∧ y_ix v4_316 (y_N h7 (y_P h7 v0_316 20)) = true then
              if (v7_316 + r6) ≤ ((2 * (y_I h7 (y_P h7 v0_316 20) (Int32.toNatClampNeg v4_316))) + 1) then
                some (0, h7)
              else
                some (5, h7)
              else none
              else none)
              else none
            else
              if y_K h5 v0_316 = 13 then
              if y_K h5 (y_P h5 v0_316 23) = 100 ∧ y_ix ((5 * v4_316) + v8_316) (y_N h5 (y_P h5 v0_316 23)) = true then
              if y_K h5 v0_316 = 13 then
              y_cl (f_X12_tall v0_316 (y_I h5 (y_P h5 v0_316 23) (Int32.toNatClampNeg ((5 * v4_316) + v8_316))) h5) (fun r13 h14 =>
              j316 v0_316 v3_316 v4_316 v5_316 (v7_316 + r13) (v8_316 + 1) h14)
              else none
              else none
              else none) (fun j316 =>
        j316 v0_192 v3_192 v4_192 v5_192 0 0 h4)
      else
        if y_K h4 v0_192 = 13 then
        if y_K h4 (y_P h4 v0_192 7) = 100 ∧ y_ix v7_192 (y_N h4 (y_P h4 v0_192 7)) = true then
        y_jn (fun (v0_304 : Nat) (v1_304 : Int32) (v2_304 : Int32) (v3_304 : Int32) (v4_304 : Int32) (v5_304 : Int32) (v7_304 : Int32) (h20 : y_H) => (
            j192 v0_304 v1_304 v2_304 v3_304 v4_304 v5_304 (v7_304 + 1) h20 : Option (Int32 × y_H))) (fun j304 =>
        if (y_I h4 (y_P h4 v0_192 7) (Int32.toNatClampNeg v7_192)) = 1 then
          if y_K h4 v0_192 = 13 then
          if y_K h4 (y_P h4 v0_192 8) = 100 ∧ y_ix v7_192 (y_N h4 (y_P h4 v0_192 8)) = true then
          if (y_I h4 (y_P h4 v0_192 8) (Int32.toNatClampNeg v7_192)) = v1_192 then
            if y_K h4 v0_192 = 13 then
            if y_K h4 (y_P h4 v0_192 4) = 100 ∧ y_ix v7_192 (y_N h4 (y_P h4 v0_192 4)) = true then
            if (y_I h4 (y_P h4 v0_192 4) (Int32.toNatClampNeg v7_192)) ≤ 0 then
              j304 v0_192 v1_192 v2_192 v3_192 v4_192 v5_192 v7_192 h4
            else
              if y_K h4 v0_192 = 13 then
              if y_K h4 (y_P h4 v0_192 4) = 100 ∧ y_ix v3_192 (y_N h4 (y_P h4 v0_192 4)) = true then
              if (y_I h4 (y_P h4 v0_192 4) (Int32.toNatClampNeg v3_192)) ≤ 0 then
                j304 v0_192 v1_192 v2_192 v3_192 v4_192 v5_192 v7_192 h4
              else
                if y_K h4 v0_192 = 13 then
                if y_K h4 (y_P h4 v0_192 9) = 100 ∧ y_ix v7_192 (y_N h4 (y_P h4 v0_192 9)) = true then
                if (y_I h4 (y_P h4 v0_192 9) (Int32.toNatClampNeg v7_192)) ≤ v2_192 then
                  if y_K h4 v0_192 = 13 then
                  if y_K h4 (y_P h4 v0_192 9) = 100 ∧ y_ix v7_192 (y_N h4 (y_P h4 v0_192 9)) = true then
                  if y_K h4 v0_192 = 13 then
                  if y_K h4 v0_192 = 13 then
                  if y_K h4 (y_P h4 v0_192 4) = 100 ∧ y_ix v7_192 (y_N h4 (y_P h4 v0_192 4)) = true then
                  if y_K h4 v0_192 = 13 then
                  if y_K h4 (y_P h4 v0_192 4) = 100 ∧ y_ix v3_192 (y_N h4 (y_P h4 v0_192 4)) = true then
                  if y_K h4 (y_P h4 v0_192 24) = 100 ∧ y_ix ((5 * (y_I h4 (y_P h4 v0_192 4) (Int32.toNatClampNeg v7_192))) + (y_I h4 (y_P h4 v0_192 4) (Int32.toNatClampNeg v3_192))) (y_N h4 (y_P h4 v0_192 24)) = true then
                  if (y_I h4 (y_P h4 v0_192 24) (Int32.toNatClampNeg ((5 * (y_I h4 (y_P h4 v0_192 4) (Int32.toNatClampNeg v7_192))) + (y_I h4 (y_P h4 v0_192 4) (Int32.toNatClampNeg v3_192))))) ≤ (v2_192 - (y_I h4 (y_P h4 v0_192 9) (Int32.toNatClampNeg v7_192))) then
                    j304 v0_192 v1_192 v2_192 v3_192 v4_192 v5_192 v7_192 h4
                  else
                    some (4, h4)
                  else none
                  else none
                  else none
                  else none
                  else none
                  else none
                  else none
                  else none
                else
                  if y_K h4 v0_192 = 13 then
                  if y_K h4 (y_P h4 v0_192 9) = 100 ∧ y_ix v7_192 (y_N h4 (y_P h4 v0_192 9)) = true then
                  if y_K h4 v0_192 = 13 then
                  if y_K h4 v0_192 = 13 then
                  if y_K h4 (y_P h4 v0_192 4) = 100 ∧ y_ix v7_192 (y_N h4 (y_P h4 v0_192 4)) = true then
                  if y_K h4 v0_192 = 13 then
                  if y_K h4 (y_P h4 v0_192 4) = 100 ∧ y_ix v3_192 (y_N h4 (y_P h4 v0_192 4)) = true then
                  if y_K h4 (y_P h4 v0_192 24) = 100 ∧ y_ix ((5 * (y_I h4 (y_P h4 v0_192 4) (Int32.toNatClampNeg v7_192))) + (y_I h4 (y_P h4 v0_192 4) (Int32.toNatClampNeg v3_192))) (y_N h4 (y_P h4 v0_192 24)) = true then
                  if (y_I h4 (y_P h4 v0_192 24) (Int32.toNatClampNeg ((5 * (y_I h4 (y_P h4 v0_192 4) (Int32.toNatClampNeg v7_192))) + (y_I h4 (y_P h4 v0_192 4) (Int32.toNatClampNeg v3_192))))) ≤ ((y_I h4 (y_P h4 v0_192 9) (Int32.toNatClampNeg v7_192)) - v2_192) then
                    j304 v0_192 v1_192 v2_192 v3_192 v4_192 v5_192 v7_192 h4
                  else
                    some (4, h4)
                  else none
                  else none
                  else none
                  else none
                  else none
                  else none
                  else none
                  else none
                else none
                else none
              else none
              else none
            else none
            else none
          else
            j304 v0_192 v1_192 v2_192 v3_192 v4_192 v5_192 v7_192 h4
          else none
          else none
        else
          j304 v0_192 v1_192 v2_192 v3_192 v4_192 v5_192 v7_192 h4)
        else none
        else none
      else none) (fun j192 =>
  j192 v0_189 v1_189 v2_189 v3_189 v4_189 v5_189 0 h3)
def mS2 (v0_79 : Nat) (v1_79 : Int32) (v2_79 : Int32) (v3_79 : Int32) (v4_79 : Int32) (v5_79 : Int32) (h1 : y_H) : Option (Int32 × y_H) :=
  y_jl (fun (_ : Nat) (_ : Int32) (_ : Int32) (_ : Int32) (_ : Int32) (_ : Int32) (_ : Int32) (_ : y_H) => (none : Option (Int32 × y_H))) (fun j82 (v0_82 : Nat) (v1_82 : Int32) (v2_82 : Int32) (v3_82 : Int32) (v4_82 : Int32) (v5_82 : Int32) (v7_82 : Int32) (h2 : y_H) =>
      if v5_82 ≤ v7_82 then
        if y_K h2 v0_82 = 13 then
        if y_K h2 (y_P h2 v0_82 1) = 100 ∧ y_ix v3_82 (y_N h2 (y_P h2 v0_82 1)) = true then
        y_jn (fun (v0_189 : Nat) (v1_189 : Int32) (v2_189 : Int32) (v3_189 : Int32) (v4_189 : Int32) (v5_189 : Int32) (h3 : y_H) => (mS4 v0_189 v1_189 v2_189 v3_189 v4_189 v5_189 h3 : Option (Int32 × y_H))) (fun j189 =>
        if (y_I h2 (y_P h2 v0_82 1) (Int32.toNatClampNeg v3_82)) = 1 then
          if y_K h2 v0_82 = 13 then
          if y_K h2 (y_P h2 v0_82 21) = 100 ∧ y_ix v4_82 (y_N h2 (y_P h2 v0_82 21)) = true then
          if v5_82 < (y_I h2 (y_P h2 v0_82 21) (Int32.toNatClampNeg v4_82)) then
            j189 v0_82 v1_82 v2_82 v3_82 v4_82 v5_82 h2
          else
            some (3, h2)
          else none
          else none
        else
          j189 v0_82 v1_82 v2_82 v3_82 v4_82 v5_82 h2)
        else none
        else none
      else
        if y_K h2 v0_82 = 13 then
        y_cl (f_X12_known v0_82 v3_82 h2) (fun r62 h63 =>
        y_jl (fun (_ : Nat) (_ : Int32) (_ : Int32) (_ : Int32) (_ : Int32) (_ : Int32) (_ : Int32) (_ : Int32) (_ : Int32) (_ : y_H) => (none : Option (Int32 × y_H))) (fun j102 (v0_102 : Nat) (v1_102 : Int32) (v2_102 : Int32) (v3_102 : Int32) (v4_102 : Int32) (v5_102 : Int32) (v7_102 : Int32) (v8_102 : Int32) (v9_102 : Int32) (h65 : y_H) =>
            if v5_102 ≤ v9_102 then
              if y_K h65 v0_102 = 13 then
              if y_K h65 (y_P h65 v0_102 23) = 100 ∧ y_ix ((5 * v4_102) + v7_102) (y_N h65 (y_P h65 v0_102 23)) = true then
              if y_K h65 v0_102 = 13 then
              y_cl (f_X12_bears v0_102 (y_I h65 (y_P h65 v0_102 23) (Int32.toNatClampNeg ((5 * v4_102) + v7_102))) h65) (fun r66 h67 =>
              if v8_102 ≤ r66 then
                j82 v0_102 v1_102 v2_102 v3_102 v4_102 v5_102 (v7_102 + 1) h67
              else
                some (2, h67))
              else none
              else none
              else none
            else
              if y_K h65 v0_102 = 13 then
              if y_K h65 (y_P h65 v0_102 23) = 100 ∧ y_ix ((5 * v4_102) + v9_102) (y_N h65 (y_P h65 v0_102 23)) = true then
              if y_K h65 v0_102 = 13 then
              y_cl (f_X12_known v0_102 (y_I h65 (y_P h65 v0_102 23) (Int32.toNatClampNeg ((5 * v4_102) + v9_102))) h65) (fun r73 h74 =>
              j102 v0_102 v1_102 v2_102 v3_102 v4_102 v5_102 v7_102 (v8_102 + r73) (v9_102 + 1) h74)
              else none
              else none
              else none) (fun j102 =>
        j102 v0_82 v1_82 v2_82 v3_82 v4_82 v5_82 v7_82 r62 (v7_82 + 1) h63))
        else none) (fun j82 =>
  j82 v0_79 v1_79 v2_79 v3_79 v4_79 v5_79 0 h1)
section STC
variable {h X G : y_H} {t e N C S A b s m H f n k : Nat} {v : Nat → Nat}
theorem ab_eq : ∀ q, q < 6 → ∀ s, s < 6 → (q ≤ s → y_ab (nI q - nI s) = nI s - nI q) ∧ (¬ q ≤ s → y_ab (nI q - nI s) = nI q - nI s) := by decide
theorem m_tallM (R : RelP h t e N C S A) (mm : MM h G) (T : TM G) (hn : n < N) : f_X12_tall 11 (nI n) G = some ((pTall (kd h n)).1, mMks G (pTall (kd h n)).2) := by
  obtain ⟨q1, q2⟩ := kd_of R hn
  have hN := R.rB.1
  exact m_tall mm.1 T (by omega) q2 ((mm.I (by omega)).trans q1)
theorem m_bearsM (R : RelP h t e N C S A) (mm : MM h G) (T : TM G) (hn : n < N) : f_X12_bears 11 (nI n) G = some ((pBears (kd h n)).1, mMks G (pBears (kd h n)).2) := by
  obtain ⟨q1, q2⟩ := kd_of R hn
  have hN := R.rB.1
  exact m_bears mm.1 T (by omega) q2 ((mm.I (by omega)).trans q1)
theorem m_S4 (R : RelP h t e N C S A) (F : SF h N b s m H f v) (mm : MM h G) (T : TM G) (hn : n < N) (Q : Int32 → y_H → Prop) (h1 : nearB h N b n s = true → Q 4 G) (h2 : nearB h N b n s = false → Q (if (tl h v f).1 + (pTall (kd h n)).1 ≤ 2 * nI H + 1 then 0 else 5) (mMks G ((tl h v f).2 ++ (pTall (kd h n)).2))) : wp (mS4 11 (nI b) (nI s) (nI n) (nI (6 * b + s)) (nI f) G) Q := by
  obtain ⟨f1, f2, f3, f4, f5, f6, f7, f8, f9, f10, f11, f12, f13, f14, f15, f16, f17⟩ := F
  have hN := R.rB.1
  obtain ⟨-, cl2⟩ := cel R f1 f2
  obtain ⟨d1, d2⟩ := dgr_of R hn
  have e0 : y_I G 11 0 = nI N := (mm.I (by omega)).trans R.rB.2.2.1
  have xn := i_ix (show n < 80 by omega) (by decide)
  have cn := i_cl (show n < 2 ^ 31 by omega)
  have en : y_I G 226 n = nI (dgr h n) := (mm.I (by omega)).trans d1
  have hsym := R.rM.2.2.2.2.1.2
  unfold mS4
  refine wp_jl (fun p j => ∀ i, i ≤ N → N - i < p → (∀ m, m < i → (decide (y_I h 418 m = 1) && decide (y_I h 482 m = nI b) && ckn h n s m) = false) → wp (j 11 (nI b) (nI s) (nI n) (nI (6 * b + s)) (nI f) (nI i) G) Q) (fun i _ z => absurd z (by omega)) (fun p j IH i hi hp hf => ?_) (fun j IH => IH 0 (by omega) (by unfold y_fu; omega) (fun k hk => absurd hk (by omega)))
  by_cases eN : i = N
  · subst eN
    have q : nI i ≤ nI i := nI_le (Nat.le_refl _) (by omega)
    have nb : nearB h i b n s = false := nr_f hf
    have h2 := h2 nb
    simp only [mm.1.2, e0, q, if_true]
    refine wp_jl (fun p j => ∀ r, r ≤ f → f - r < p → wp (j 11 (nI n) (nI (6 * b + s)) (nI f) (tl h v r).1 (nI r) (mMks G (tl h v r).2)) Q) (fun i _ z => absurd z (by omega)) (fun p j IH2 r hr hp2 => ?_) (fun j IH2 => IH2 0 (by omega) (by unfold y_fu; omega))
    have mr : MM h (mMks G (tl h v r).2) := mm.mks
    have Tr : TM (mMks G (tl h v r).2) := T.mks _
    by_cases er : r = f
    · subst er
      have q : nI r ≤ nI r := nI_le (Nat.le_refl _) (by omega)
      have et := m_tallM R mr Tr hn
      rw [mMks_app] at et
      have m2 : MM h (mMks G ((tl h v r).2 ++ (pTall (kd h n)).2)) := mm.mks
      have eh : y_I (mMks G ((tl h v r).2 ++ (pTall (kd h n)).2)) 1186 (6 * b + s) = nI H := (m2.I (by omega)).trans f11
      have x6 := i_ix (show 6 * b + s < 60 by omega) (by decide)
      have c6 := i_cl (show 6 * b + s < 2 ^ 31 by omega)
      by_cases hu : (tl h v r).1 + (pTall (kd h n)).1 ≤ 2 * nI H + 1
      · rw [if_pos hu] at h2
        simp only [mr.1.2, q, if_true, et, e_cl, m2.1.2, x6, c6, and_self, eh, hu, wp_some]
        exact h2
      · rw [if_neg hu] at h2
        simp only [mr.1.2, q, if_true, et, e_cl, m2.1.2, x6, c6, and_self, eh, hu, if_false, wp_some]
        exact h2
    · have q : ¬ nI f ≤ nI r := nI_ge (by omega) (by omega)
      obtain ⟨z1, z2, -⟩ := f17 r (by omega)
      have et := m_tallM R mr Tr z1
      rw [mMks_app] at et
      have es : y_I (mMks G (tl h v r).2) 1378 (5 * (6 * b + s) + r) = nI (v r) := (mr.I (by omega)).trans z2
      have x5 := i_ix (show 5 * (6 * b + s) + r < 300 by omega) (by decide)
      have c5 := i_cl (show 5 * (6 * b + s) + r < 2 ^ 31 by omega)
      have IH' := IH2 (r + 1) (by omega) (by omega)
      rw [tl] at IH'
      simp only [mr.1.2, q, if_true, if_false, i_m5, i_add, x5, c5, and_self, es, et, e_cl, nI_1]
      exact IH'
  · have q : ¬ nI N ≤ nI i := nI_ge (by omega) (by omega)
    have xi := i_ix (show i < 80 by omega) (by decide)
    have ci := i_cl (show i < 2 ^ 31 by omega)
    have ea : y_I G 418 i = y_I h 418 i := mm.I (by omega)
    have eb : y_I G 482 i = y_I h 482 i := mm.I (by omega)
    have step : (decide (y_I h 418 i = 1) && decide (y_I h 482 i = nI b) && ckn h n s i) = false → wp (j 11 (nI b) (nI s) (nI n) (nI (6 * b + s)) (nI f) (nI (i + 1)) G) Q := fun z => IH (i + 1) (by omega) (by omega) (fun m' hm' => by
      by_cases e : m' = i
      · subst e
        exact z
      · exact hf m' (by omega))
    by_cases z1 : y_I h 418 i = 1
    rotate_left
    · simp only [mm.1.2, e0, q, if_true, if_false, xi, ci, and_self, e_jn, ea, z1, nI_1]
      exact step (by rw [decide_eq_false z1, Bool.false_and, Bool.false_and])
    by_cases z2 : y_I h 482 i = nI b
    rotate_left
    · simp only [mm.1.2, e0, q, if_true, if_false, xi, ci, and_self, e_jn, ea, z1, eb, z2, nI_1]
      exact step (by rw [decide_eq_false z2, Bool.and_false, Bool.false_and])
    obtain ⟨-, r, hr, z3⟩ := cl2 i (by omega) z1 z2
    obtain ⟨g1, g2⟩ := dgr_of R (show i < N by omega)
    have ei : y_I G 226 i = nI (dgr h i) := (mm.I (by omega)).trans g1
    have e2 : y_I G 546 i = nI r := (mm.I (by omega)).trans z3
    have z4 : (nI (dgr h i) ≤ 0) = (dgr h i ≤ 0) := i_le (b := 0) (by omega)
    have z5 : (nI (dgr h n) ≤ 0) = (dgr h n ≤ 0) := i_le (b := 0) (by omega)
    by_cases q4 : dgr h i ≤ 0
    · simp only [mm.1.2, e0, q, if_true, if_false, xi, ci, and_self, e_jn, ea, z1, eb, z2, ei, z4, q4, nI_1]
      exact step (by rw [ckn, decide_eq_false (show ¬ 1 ≤ dgr h i by omega), Bool.and_false, Bool.false_and, Bool.and_false])
    by_cases q5 : dgr h n ≤ 0
    · simp only [mm.1.2, e0, q, if_true, if_false, xi, ci, xn, cn, and_self, e_jn, ea, z1, eb, z2, ei, z4, q4, en, z5, q5, nI_1]
      exact step (by rw [ckn, decide_eq_false (show ¬ 1 ≤ dgr h n by omega), Bool.false_and, Bool.false_and, Bool.and_false])
    have x5 := i_ix (show 5 * dgr h i + dgr h n < 25 by omega) (by decide)
    have c5 := i_cl (show 5 * dgr h i + dgr h n < 2 ^ 31 by omega)
    have ep : y_I G 1442 (5 * dgr h i + dgr h n) = y_I h 1442 (5 * dgr h n + dgr h i) := (mm.I (by omega)).trans (hsym _ _ (by omega) (by omega))
    have zs : (nI r ≤ nI s) = (r ≤ s) := i_le (by omega)
    obtain ⟨b1, b2⟩ := ab_eq r hr s (by omega)
    have fin : ∀ y, y_ab (nI r - nI s) = y → (y_I h 1442 (5 * dgr h n + dgr h i) ≤ y → wp (j 11 (nI b) (nI s) (nI n) (nI (6 * b + s)) (nI f) (nI (i + 1)) G) Q) ∧ (¬ y_I h 1442 (5 * dgr h n + dgr h i) ≤ y → Q 4 G) := fun y ey => by
      refine ⟨fun z => step ?_, fun z => h1 ?_⟩
      · rw [ckn, z3, ey, decide_eq_false (show ¬ ¬ y_I h 1442 (5 * dgr h n + dgr h i) ≤ y from fun q => q z), Bool.and_false, Bool.and_false]
      · refine nr_t (show i < N by omega) ?_
        rw [ckn, z3, ey, decide_eq_true z, decide_eq_true z1, decide_eq_true z2, decide_eq_true (show 1 ≤ dgr h n by omega), decide_eq_true (show 1 ≤ dgr h i by omega)]
        rfl
    by_cases qs : r ≤ s
    · obtain ⟨fa, fb⟩ := fin _ (b1 qs)
      by_cases qa : y_I h 1442 (5 * dgr h n + dgr h i) ≤ nI s - nI r
      · simp only [mm.1.2, e0, q, if_true, if_false, xi, ci, xn, cn, and_self, e_jn, ea, z1, eb, z2, ei, z4, q4, en, z5, q5, e2, zs, qs, i_m5, i_add, x5, c5, ep, qa, nI_1]
        exact fa qa
      · simp only [mm.1.2, e0, q, if_true, if_false, xi, ci, xn, cn, and_self, e_jn, ea, z1, eb, z2, ei, z4, q4, en, z5, q5, e2, zs, qs, i_m5, i_add, x5, c5, ep, qa, nI_1, wp_some]
        exact fb qa
    · obtain ⟨fa, fb⟩ := fin _ (b2 qs)
      by_cases qa : y_I h 1442 (5 * dgr h n + dgr h i) ≤ nI r - nI s
      · simp only [mm.1.2, e0, q, if_true, if_false, xi, ci, xn, cn, and_self, e_jn, ea, z1, eb, z2, ei, z4, q4, en, z5, q5, e2, zs, qs, i_m5, i_add, x5, c5, ep, qa, nI_1]
        exact fa qa
      · simp only [mm.1.2, e0, q, if_true, if_false, xi, ci, xn, cn, and_self, e_jn, ea, z1, eb, z2, ei, z4, q4, en, z5, q5, e2, zs, qs, i_m5, i_add, x5, c5, ep, qa, nI_1, wp_some]
        exact fb qa
theorem m_S2 (R : RelP h t e N C S A) (F : SF h N b s m H f v) (mm : MM h G) (T : TM G) (hn : n < N) {v4 v5 : Int32} (e4 : v4 = nI (6 * b + s)) (e5 : v5 = nI f) (Q : Int32 → y_H → Prop) (hQ : Q (nI (ruM h N b n s f H v).1) (mMks G (ruM h N b n s f H v).2)) : wp (mS2 11 (nI b) (nI s) (nI n) v4 v5 G) Q := by
  subst e4 e5
  have hN := R.rB.1
  obtain ⟨f1, f2, f3, f4, f5, f6, f7, f8, f9, f10, f11, f12, f13, f14, f15, f16, f17⟩ := id F
  obtain ⟨d1, d2⟩ := kd_of R hn
  have xn := i_ix (show n < 80 by omega) (by decide)
  have cn := i_cl (show n < 2 ^ 31 by omega)
  have x6 := i_ix (show 6 * b + s < 60 by omega) (by decide)
  have c6 := i_cl (show 6 * b + s < 2 ^ 31 by omega)
  unfold ruM at hQ
  unfold mS2
  refine wp_jl (fun p j => ∀ i r l, i + r = f → f - i < p → (hvy h v (kn h n) r i).1 = (hvy h v (kn h n) f 0).1 → l ++ (hvy h v (kn h n) r i).2 = (hvy h v (kn h n) f 0).2 → wp (j 11 (nI b) (nI s) (nI n) (nI (6 * b + s)) (nI f) (nI i) (mMks G l)) Q) (fun _ _ _ _ z => absurd z (by omega)) (fun p j IH i r l hi hp h1 h2 => ?_) (fun j IH => IH 0 f [] (by omega) (by unfold y_fu; omega) rfl rfl)
  have ml : MM h (mMks G l) := mm.mks
  have Tl : TM (mMks G l) := T.mks _
  cases r with
  | zero =>
    have ei : i = f := by omega
    subst ei
    simp only [hvy, List.append_nil] at h1 h2
    rw [← h1, if_neg (by decide), ← h2] at hQ
    have q : nI i ≤ nI i := nI_le (Nat.le_refl _) (by omega)
    have ek : y_I (mMks G l) 34 n = nI (kd h n) := (ml.I (by omega)).trans d1
    have ep : y_I (mMks G l) 1250 (6 * b + s) = y_I h 1250 (6 * b + s) := ml.I (by omega)
    have ek1 : (nI (kd h n) = 1) = (kd h n = 1) := i_eq (b := 1) (by omega)
    have k11 : (nI 1 = 1) = True := eq_true rfl
    have S4 : (¬ (pO1 (kd h n) = true ∧ ¬ nI i < y_I h 1250 (6 * b + s))) → wp (mS4 11 (nI b) (nI s) (nI n) (nI (6 * b + s)) (nI i) (mMks G l)) Q := fun z => by
      rw [if_neg z] at hQ
      refine m_S4 R F ml Tl hn Q (fun y => ?_) (fun y => ?_)
      · rw [if_pos y] at hQ
        exact hQ
      · rw [if_neg (by rw [y]; decide)] at hQ
        rw [mMks_app]
        by_cases hu : (tl h v i).1 + (pTall (kd h n)).1 ≤ 2 * nI H + 1
        · rw [if_pos hu] at hQ ⊢
          exact hQ
        · rw [if_neg hu] at hQ ⊢
          exact hQ
    by_cases k1 : kd h n = 1
    · have p1 : pO1 (kd h n) = true := by rw [k1]; rfl
      by_cases hp9 : nI i < y_I h 1250 (6 * b + s)
      · simp only [q, if_true, ml.1.2, xn, cn, x6, c6, and_self, e_jn, ek, ek1, k1, k11, ep, hp9]
        exact S4 (fun z => z.2 hp9)
      · rw [if_pos ⟨p1, hp9⟩] at hQ
        simp only [q, if_true, ml.1.2, xn, cn, x6, c6, and_self, e_jn, ek, ek1, k1, k11, ep, hp9, if_false, wp_some]
        exact hQ
    · simp only [q, if_true, ml.1.2, xn, cn, and_self, e_jn, ek, ek1, k1, if_false]
      refine S4 (fun z => k1 ?_)
      have z1 := z.1
      have : kd h n = 0 ∨ kd h n = 1 ∨ kd h n = 2 ∨ kd h n = 3 ∨ kd h n = 4 ∨ kd h n = 5 := by omega
      rcases this with y | y | y | y | y | y
      · rw [y] at z1; exact absurd z1 (by decide)
      · exact y
      · rw [y] at z1; exact absurd z1 (by decide)
      · rw [y] at z1; exact absurd z1 (by decide)
      · rw [y] at z1; exact absurd z1 (by decide)
      · rw [y] at z1; exact absurd z1 (by decide)
  | succ r =>
    have q : ¬ nI f ≤ nI i := nI_ge (by omega) (by omega)
    have ekn := m_knownX ml (show n < 80 by omega)
    simp only [q, if_false, ml.1.2, if_true, ekn, e_cl, nI_1]
    rw [hvy] at h1 h2
    refine wp_jl (fun p2 j2 => ∀ w, i + 1 + w ≤ f → f - (i + 1 + w) < p2 → wp (j2 11 (nI b) (nI s) (nI n) (nI (6 * b + s)) (nI f) (nI i) (up h v (kn h n) (i + 1) w) (nI (i + 1 + w)) (mMks G l)) Q) (fun _ _ z => absurd z (by omega)) (fun p2 j2 IH2 w hw hp2 => ?_) (fun j2 IH2 => IH2 0 (by omega) (by unfold y_fu; omega))
    by_cases ew : i + 1 + w = f
    · have ewr : w = r := by omega
      subst ewr
      have q2 : nI f ≤ nI (i + 1 + w) := by rw [ew]; exact nI_le (Nat.le_refl _) (by omega)
      obtain ⟨z1, z2, -⟩ := f17 i (by omega)
      have es : y_I (mMks G l) 1378 (5 * (6 * b + s) + i) = nI (v i) := (ml.I (by omega)).trans z2
      have x5 := i_ix (show 5 * (6 * b + s) + i < 300 by omega) (by decide)
      have c5 := i_cl (show 5 * (6 * b + s) + i < 2 ^ 31 by omega)
      have eb := m_bearsM R ml Tl z1
      rw [mMks_app] at eb
      simp only [q2, if_true, ml.1.2, i_m5, i_add, x5, c5, and_self, es, eb, e_cl, nI_1]
      by_cases hu : up h v (kn h n) (i + 1) w ≤ (pBears (kd h (v i))).1
      · rw [if_pos hu] at h1 h2
        simp only [hu, if_true]
        exact IH (i + 1) w _ (by omega) (by omega) h1 (by rw [List.append_assoc]; exact h2)
      · rw [if_neg hu] at h1 h2
        simp only [hu, if_false, wp_some]
        rw [← h1, if_pos rfl, ← h2] at hQ
        exact hQ
    · have q2 : ¬ nI f ≤ nI (i + 1 + w) := nI_ge (by omega) (by omega)
      obtain ⟨z1, z2, -⟩ := f17 (i + 1 + w) (by omega)
      have es : y_I (mMks G l) 1378 (5 * (6 * b + s) + (i + 1 + w)) = nI (v (i + 1 + w)) := (ml.I (by omega)).trans z2
      have x5 := i_ix (show 5 * (6 * b + s) + (i + 1 + w) < 300 by omega) (by decide)
      have c5 := i_cl (show 5 * (6 * b + s) + (i + 1 + w) < 2 ^ 31 by omega)
      have ek := m_knownX (n := v (i + 1 + w)) ml (by omega)
      have IH' := IH2 (w + 1) (by omega) (by omega)
      rw [up] at IH'
      simp only [q2, if_false, ml.1.2, if_true, i_m5, i_add, x5, c5, and_self, es, ek, e_cl, nI_1]
      exact IH'
theorem m_rule (R : RelP h t e N C S A) (F : SF h N b s m H f v) (mm : MM h G) (T : TM G) (hn : n < N) : f_X12_ruleOf 11 (nI b) (nI s) (nI n) G = some (nI (ruN h N b n s f H v).1, mMks G (ruN h N b n s f H v).2) := by
  suffices Hs : wp (f_X12_ruleOf 11 (nI b) (nI s) (nI n) G) fun r h' => r = nI (ruN h N b n s f H v).1 ∧ h' = mMks G (ruN h N b n s f H v).2 by
    obtain ⟨r, h', e1, rfl, rfl⟩ := wp_ex Hs
    exact e1
  have hN := R.rB.1
  obtain ⟨f1, f2, f3, f4, f5, f6, f7, f8, f9, f10, f11, f12, f13, f14, f15, f16, f17⟩ := id F
  have e6 : (6 : Int32) * nI b + nI s = nI (6 * b + s) := by rw [i_m6, i_add]
  have x6 := i_ix (show 6 * b + s < 60 by omega) (by decide)
  have c6 := i_cl (show 6 * b + s < 2 ^ 31 by omega)
  have ef : y_I G 1314 (6 * b + s) = nI f := (mm.I (by omega)).trans f14
  have p22 : y_P G 11 22 = 1314 := by simp only [mm.1.2]
  have ef2 : y_I G (y_P G 11 22) (Int32.toNatClampNeg (6 * nI b + nI s)) = nI f := by rw [p22, e6, c6]; exact ef
  unfold f_X12_ruleOf
  by_cases h0 : f = 0
  · have q0 : nI f ≤ 0 := by rw [h0]; decide
    have n1 : (-1 : Int32) < 0 := by decide
    have et : trf h f v n = false := by rw [trf, if_pos h0]
    (repeat (first | with_reducible apply wp_jn | ((with_reducible apply wp_be); · first | (simp (disch := omega) only [mm.1.2, e6, x6, c6, ef, q0, n1, e_KI, e_NI, e_BI, e_LI, e_PI, e_KB, e_NB, e_IB, e_LB, e_PB, e_KL, e_NL, e_IL, e_BL, e_PL, e_KP, e_NP, e_IP, e_BP, e_LP, e_IIs, e_BBs, e_LLs, e_PPs, e_IIn, e_BBn, e_LLn, e_PPn, e_IIk, e_BBk, e_LLk, e_PPk, e_Ks, e_Ns, e_Is, e_Bs, e_Ls, e_Ps, e_Kn, e_Nn, e_In, e_Bn, e_Ln, e_Pn, if_true, if_false, and_self, or_true, true_or, not_false_eq_true, Bool.false_eq_true]; exact rfl) | exact rfl) | ((with_reducible apply wp_ce); · first | (simp (disch := omega) only [mm.1.2, e6, x6, c6, ef, q0, n1, e_KI, e_NI, e_BI, e_LI, e_PI, e_KB, e_NB, e_IB, e_LB, e_PB, e_KL, e_NL, e_IL, e_BL, e_PL, e_KP, e_NP, e_IP, e_BP, e_LP, e_IIs, e_BBs, e_LLs, e_PPs, e_IIn, e_BBn, e_LLn, e_PPn, e_IIk, e_BBk, e_LLk, e_PPk, e_Ks, e_Ns, e_Is, e_Bs, e_Ls, e_Ps, e_Kn, e_Nn, e_In, e_Bn, e_Ln, e_Pn, if_true, if_false, and_self, or_true, true_or, not_false_eq_true, Bool.false_eq_true]; exact rfl) | exact rfl) | ((with_reducible apply wp_g); · first | (simp (disch := omega) only [mm.1.2, e6, x6, c6, ef, q0, n1, e_KI, e_NI, e_BI, e_LI, e_PI, e_KB, e_NB, e_IB, e_LB, e_PB, e_KL, e_NL, e_IL, e_BL, e_PL, e_KP, e_NP, e_IP, e_BP, e_LP, e_IIs, e_BBs, e_LLs, e_PPs, e_IIn, e_BBn, e_LLn, e_PPn, e_IIk, e_BBk, e_LLk, e_PPk, e_Ks, e_Ns, e_Is, e_Bs, e_Ls, e_Ps, e_Kn, e_Nn, e_In, e_Bn, e_Ln, e_Pn, if_true, if_false, and_self, or_true, true_or, not_false_eq_true, Bool.false_eq_true]; done) | (simp (disch := omega) only [mm.1.2, e6, x6, c6, ef, q0, n1, e_KI, e_NI, e_BI, e_LI, e_PI, e_KB, e_NB, e_IB, e_LB, e_PB, e_KL, e_NL, e_IL, e_BL, e_PL, e_KP, e_NP, e_IP, e_BP, e_LP, e_IIs, e_BBs, e_LLs, e_PPs, e_IIn, e_BBn, e_LLn, e_PPn, e_IIk, e_BBk, e_LLk, e_PPk, e_Ks, e_Ns, e_Is, e_Bs, e_Ls, e_Ps, e_Kn, e_Nn, e_In, e_Bn, e_Ln, e_Pn, if_true, if_false, and_self, or_true, true_or, not_false_eq_true, Bool.false_eq_true]; decide) | decide) | ((with_reducible apply wp_pos); · first | (simp (disch := omega) only [mm.1.2, e6, x6, c6, ef, q0, n1, e_KI, e_NI, e_BI, e_LI, e_PI, e_KB, e_NB, e_IB, e_LB, e_PB, e_KL, e_NL, e_IL, e_BL, e_PL, e_KP, e_NP, e_IP, e_BP, e_LP, e_IIs, e_BBs, e_LLs, e_PPs, e_IIn, e_BBn, e_LLn, e_PPn, e_IIk, e_BBk, e_LLk, e_PPk, e_Ks, e_Ns, e_Is, e_Bs, e_Ls, e_Ps, e_Kn, e_Nn, e_In, e_Bn, e_Ln, e_Pn, if_true, if_false, and_self, or_true, true_or, not_false_eq_true, Bool.false_eq_true]; done) | (simp (disch := omega) only [mm.1.2, e6, x6, c6, ef, q0, n1, e_KI, e_NI, e_BI, e_LI, e_PI, e_KB, e_NB, e_IB, e_LB, e_PB, e_KL, e_NL, e_IL, e_BL, e_PL, e_KP, e_NP, e_IP, e_BP, e_LP, e_IIs, e_BBs, e_LLs, e_PPs, e_IIn, e_BBn, e_LLn, e_PPn, e_IIk, e_BBk, e_LLk, e_PPk, e_Ks, e_Ns, e_Is, e_Bs, e_Ls, e_Ps, e_Kn, e_Nn, e_In, e_Bn, e_Ln, e_Pn, if_true, if_false, and_self, or_true, true_or, not_false_eq_true, Bool.false_eq_true]; decide) | decide) | ((with_reducible apply wp_neg); · first | (simp (disch := omega) only [mm.1.2, e6, x6, c6, ef, q0, n1, e_KI, e_NI, e_BI, e_LI, e_PI, e_KB, e_NB, e_IB, e_LB, e_PB, e_KL, e_NL, e_IL, e_BL, e_PL, e_KP, e_NP, e_IP, e_BP, e_LP, e_IIs, e_BBs, e_LLs, e_PPs, e_IIn, e_BBn, e_LLn, e_PPn, e_IIk, e_BBk, e_LLk, e_PPk, e_Ks, e_Ns, e_Is, e_Bs, e_Ls, e_Ps, e_Kn, e_Nn, e_In, e_Bn, e_Ln, e_Pn, if_true, if_false, and_self, or_true, true_or, not_false_eq_true, Bool.false_eq_true]; done) | (simp (disch := omega) only [mm.1.2, e6, x6, c6, ef, q0, n1, e_KI, e_NI, e_BI, e_LI, e_PI, e_KB, e_NB, e_IB, e_LB, e_PB, e_KL, e_NL, e_IL, e_BL, e_PL, e_KP, e_NP, e_IP, e_BP, e_LP, e_IIs, e_BBs, e_LLs, e_PPs, e_IIn, e_BBn, e_LLn, e_PPn, e_IIk, e_BBk, e_LLk, e_PPk, e_Ks, e_Ns, e_Is, e_Bs, e_Ls, e_Ps, e_Kn, e_Nn, e_In, e_Bn, e_Ln, e_Pn, if_true, if_false, and_self, or_true, true_or, not_false_eq_true, Bool.false_eq_true]; decide) | decide)))
    refine m_S2 R F mm T hn e6 ef2 _ ?_
    unfold ruN
    rw [if_neg (by rw [et]; decide)]
    exact ⟨rfl, rfl⟩
  · obtain ⟨f', rfl⟩ : ∃ f', f = f' + 1 := ⟨f - 1, by omega⟩
    have q0 : ¬ nI (f' + 1) ≤ 0 := fun z => absurd ((nI_leI (a := f' + 1) (b := 0) (by omega) (by decide)).mp z) (by omega)
    obtain ⟨z1, z2, -⟩ := f17 f' (by omega)
    have e5 : (5 : Int32) * nI (6 * b + s) + nI (f' + 1) - 1 = nI (5 * (6 * b + s) + f') := by rw [i_m5, i_add, ← Nat.add_assoc, nI_pred]
    have x5 := i_ix (show 5 * (6 * b + s) + f' < 300 by omega) (by decide)
    have c5 := i_cl (show 5 * (6 * b + s) + f' < 2 ^ 31 by omega)
    have es : y_I G 1378 (5 * (6 * b + s) + f') = nI (v f') := (mm.I (by omega)).trans z2
    obtain ⟨k1, k2⟩ := kd_of R z1
    obtain ⟨k3, k4⟩ := kd_of R hn
    have nn : (nI (v f') < 0) = False := i_n0 (by omega)
    have xv := i_ix (show v f' < 80 by omega) (by decide)
    have cv := i_cl (show v f' < 2 ^ 31 by omega)
    have xn := i_ix (show n < 80 by omega) (by decide)
    have cn := i_cl (show n < 2 ^ 31 by omega)
    have ek : y_I G 34 (v f') = nI (kd h (v f')) := (mm.I (by omega)).trans k1
    have en : y_I G 34 n = nI (kd h n) := (mm.I (by omega)).trans k3
    have io : f_X12_isOpen 11 (nI (v f')) G = some (pO3 (kd h (v f')), G) := by
      rcases kds5 k2 ek with ⟨e, e9⟩ | ⟨e, e9⟩ | ⟨e, e9⟩ | ⟨e, e9⟩ | ⟨e, e9⟩ | ⟨e, e9⟩ <;> rw [e] <;> (unfold pO3 f_X12_isOpen; (repeat (first | with_reducible apply ev_jn | ((with_reducible apply ev_bd); · first | (simp (disch := omega) only [mm.1.2, xv, cv, e9, e_KI, e_NI, e_BI, e_LI, e_PI, e_KB, e_NB, e_IB, e_LB, e_PB, e_KL, e_NL, e_IL, e_BL, e_PL, e_KP, e_NP, e_IP, e_BP, e_LP, e_IIs, e_BBs, e_LLs, e_PPs, e_IIn, e_BBn, e_LLn, e_PPn, e_IIk, e_BBk, e_LLk, e_PPk, e_Ks, e_Ns, e_Is, e_Bs, e_Ls, e_Ps, e_Kn, e_Nn, e_In, e_Bn, e_Ln, e_Pn, if_true, if_false, and_self, or_true, true_or, not_false_eq_true, Bool.false_eq_true]; exact rfl) | exact rfl) | ((with_reducible apply ev_cl); · first | (simp (disch := omega) only [mm.1.2, xv, cv, e9, e_KI, e_NI, e_BI, e_LI, e_PI, e_KB, e_NB, e_IB, e_LB, e_PB, e_KL, e_NL, e_IL, e_BL, e_PL, e_KP, e_NP, e_IP, e_BP, e_LP, e_IIs, e_BBs, e_LLs, e_PPs, e_IIn, e_BBn, e_LLn, e_PPn, e_IIk, e_BBk, e_LLk, e_PPk, e_Ks, e_Ns, e_Is, e_Bs, e_Ls, e_Ps, e_Kn, e_Nn, e_In, e_Bn, e_Ln, e_Pn, if_true, if_false, and_self, or_true, true_or, not_false_eq_true, Bool.false_eq_true]; exact rfl) | exact rfl) | ((with_reducible apply ev_g); · first | (simp (disch := omega) only [mm.1.2, xv, cv, e9, e_KI, e_NI, e_BI, e_LI, e_PI, e_KB, e_NB, e_IB, e_LB, e_PB, e_KL, e_NL, e_IL, e_BL, e_PL, e_KP, e_NP, e_IP, e_BP, e_LP, e_IIs, e_BBs, e_LLs, e_PPs, e_IIn, e_BBn, e_LLn, e_PPn, e_IIk, e_BBk, e_LLk, e_PPk, e_Ks, e_Ns, e_Is, e_Bs, e_Ls, e_Ps, e_Kn, e_Nn, e_In, e_Bn, e_Ln, e_Pn, if_true, if_false, and_self, or_true, true_or, not_false_eq_true, Bool.false_eq_true]; done) | (simp (disch := omega) only [mm.1.2, xv, cv, e9, e_KI, e_NI, e_BI, e_LI, e_PI, e_KB, e_NB, e_IB, e_LB, e_PB, e_KL, e_NL, e_IL, e_BL, e_PL, e_KP, e_NP, e_IP, e_BP, e_LP, e_IIs, e_BBs, e_LLs, e_PPs, e_IIn, e_BBn, e_LLn, e_PPn, e_IIk, e_BBk, e_LLk, e_PPk, e_Ks, e_Ns, e_Is, e_Bs, e_Ls, e_Ps, e_Kn, e_Nn, e_In, e_Bn, e_Ln, e_Pn, if_true, if_false, and_self, or_true, true_or, not_false_eq_true, Bool.false_eq_true]; decide) | decide) | ((with_reducible apply ev_t); · first | (simp (disch := omega) only [mm.1.2, xv, cv, e9, e_KI, e_NI, e_BI, e_LI, e_PI, e_KB, e_NB, e_IB, e_LB, e_PB, e_KL, e_NL, e_IL, e_BL, e_PL, e_KP, e_NP, e_IP, e_BP, e_LP, e_IIs, e_BBs, e_LLs, e_PPs, e_IIn, e_BBn, e_LLn, e_PPn, e_IIk, e_BBk, e_LLk, e_PPk, e_Ks, e_Ns, e_Is, e_Bs, e_Ls, e_Ps, e_Kn, e_Nn, e_In, e_Bn, e_Ln, e_Pn, if_true, if_false, and_self, or_true, true_or, not_false_eq_true, Bool.false_eq_true]; done) | (simp (disch := omega) only [mm.1.2, xv, cv, e9, e_KI, e_NI, e_BI, e_LI, e_PI, e_KB, e_NB, e_IB, e_LB, e_PB, e_KL, e_NL, e_IL, e_BL, e_PL, e_KP, e_NP, e_IP, e_BP, e_LP, e_IIs, e_BBs, e_LLs, e_PPs, e_IIn, e_BBn, e_LLn, e_PPn, e_IIk, e_BBk, e_LLk, e_PPk, e_Ks, e_Ns, e_Is, e_Bs, e_Ls, e_Ps, e_Kn, e_Nn, e_In, e_Bn, e_Ln, e_Pn, if_true, if_false, and_self, or_true, true_or, not_false_eq_true, Bool.false_eq_true]; decide) | decide) | ((with_reducible apply ev_f); · first | (simp (disch := omega) only [mm.1.2, xv, cv, e9, e_KI, e_NI, e_BI, e_LI, e_PI, e_KB, e_NB, e_IB, e_LB, e_PB, e_KL, e_NL, e_IL, e_BL, e_PL, e_KP, e_NP, e_IP, e_BP, e_LP, e_IIs, e_BBs, e_LLs, e_PPs, e_IIn, e_BBn, e_LLn, e_PPn, e_IIk, e_BBk, e_LLk, e_PPk, e_Ks, e_Ns, e_Is, e_Bs, e_Ls, e_Ps, e_Kn, e_Nn, e_In, e_Bn, e_Ln, e_Pn, if_true, if_false, and_self, or_true, true_or, not_false_eq_true, Bool.false_eq_true]; done) | (simp (disch := omega) only [mm.1.2, xv, cv, e9, e_KI, e_NI, e_BI, e_LI, e_PI, e_KB, e_NB, e_IB, e_LB, e_PB, e_KL, e_NL, e_IL, e_BL, e_PL, e_KP, e_NP, e_IP, e_BP, e_LP, e_IIs, e_BBs, e_LLs, e_PPs, e_IIn, e_BBn, e_LLn, e_PPn, e_IIk, e_BBk, e_LLk, e_PPk, e_Ks, e_Ns, e_Is, e_Bs, e_Ls, e_Ps, e_Kn, e_Nn, e_In, e_Bn, e_Ln, e_Pn, if_true, if_false, and_self, or_true, true_or, not_false_eq_true, Bool.false_eq_true]; decide) | decide) | ((with_reducible apply ev_s) <;> (first | (with_reducible rfl) | (simp (disch := omega) only [mm.1.2, xv, cv, e9, e_KI, e_NI, e_BI, e_LI, e_PI, e_KB, e_NB, e_IB, e_LB, e_PB, e_KL, e_NL, e_IL, e_BL, e_PL, e_KP, e_NP, e_IP, e_BP, e_LP, e_IIs, e_BBs, e_LLs, e_PPs, e_IIn, e_BBn, e_LLn, e_PPn, e_IIk, e_BBk, e_LLk, e_PPk, e_Ks, e_Ns, e_Is, e_Bs, e_Ls, e_Ps, e_Kn, e_Nn, e_In, e_Bn, e_Ln, e_Pn, if_true, if_false, and_self, or_true, true_or, not_false_eq_true, Bool.false_eq_true]; done) | (simp (disch := omega) only [mm.1.2, xv, cv, e9, e_KI, e_NI, e_BI, e_LI, e_PI, e_KB, e_NB, e_IB, e_LB, e_PB, e_KL, e_NL, e_IL, e_BL, e_PL, e_KP, e_NP, e_IP, e_BP, e_LP, e_IIs, e_BBs, e_LLs, e_PPs, e_IIn, e_BBn, e_LLn, e_PPn, e_IIk, e_BBk, e_LLk, e_PPk, e_Ks, e_Ns, e_Is, e_Bs, e_Ls, e_Ps, e_Kn, e_Nn, e_In, e_Bn, e_Ln, e_Pn, if_true, if_false, and_self, or_true, true_or, not_false_eq_true, Bool.false_eq_true]; rfl))))))
    have o5 : ∀ k, k ≤ 5 → ((nI k = 5) = (pO5 k = true)) := fun k hk => by
      have : k = 0 ∨ k = 1 ∨ k = 2 ∨ k = 3 ∨ k = 4 ∨ k = 5 := by omega
      rcases this with rfl | rfl | rfl | rfl | rfl | rfl <;> exact propext (by decide)
    have tr : trf h (f' + 1) v n = (pO3 (kd h (v f')) || (pO5 (kd h (v f')) && !pO5 (kd h n))) := by
      rw [trf, if_neg (by omega), Nat.add_sub_cancel]
    have ov := o5 _ k2
    have on := o5 _ k4
    have fin1 : trf h (f' + 1) v n = true → (1 : Int32) = nI (ruN h N b n s (f' + 1) H v).1 ∧ G = mMks G (ruN h N b n s (f' + 1) H v).2 := fun z => by
      unfold ruN
      rw [if_pos z]
      exact ⟨rfl, rfl⟩
    have fin2 : trf h (f' + 1) v n = false → wp (mS2 11 (nI b) (nI s) (nI n) (6 * nI b + nI s) (y_I G (y_P G 11 22) (Int32.toNatClampNeg (6 * nI b + nI s))) G) fun r h' => r = nI (ruN h N b n s (f' + 1) H v).1 ∧ h' = mMks G (ruN h N b n s (f' + 1) H v).2 := fun z => by
      refine m_S2 R F mm T hn e6 ef2 _ ?_
      unfold ruN
      rw [if_neg (by rw [z]; decide)]
      exact ⟨rfl, rfl⟩
    cases q3 : pO3 (kd h (v f')) with
    | true =>
      rw [q3] at io tr
      (repeat (first | with_reducible apply wp_jn | ((with_reducible apply wp_be); · first | (simp (disch := omega) only [mm.1.2, e6, x6, c6, ef, q0, e5, x5, c5, es, nn, io, e_KI, e_NI, e_BI, e_LI, e_PI, e_KB, e_NB, e_IB, e_LB, e_PB, e_KL, e_NL, e_IL, e_BL, e_PL, e_KP, e_NP, e_IP, e_BP, e_LP, e_IIs, e_BBs, e_LLs, e_PPs, e_IIn, e_BBn, e_LLn, e_PPn, e_IIk, e_BBk, e_LLk, e_PPk, e_Ks, e_Ns, e_Is, e_Bs, e_Ls, e_Ps, e_Kn, e_Nn, e_In, e_Bn, e_Ln, e_Pn, if_true, if_false, and_self, or_true, true_or, not_false_eq_true, Bool.false_eq_true]; exact rfl) | exact rfl) | ((with_reducible apply wp_ce); · first | (simp (disch := omega) only [mm.1.2, e6, x6, c6, ef, q0, e5, x5, c5, es, nn, io, e_KI, e_NI, e_BI, e_LI, e_PI, e_KB, e_NB, e_IB, e_LB, e_PB, e_KL, e_NL, e_IL, e_BL, e_PL, e_KP, e_NP, e_IP, e_BP, e_LP, e_IIs, e_BBs, e_LLs, e_PPs, e_IIn, e_BBn, e_LLn, e_PPn, e_IIk, e_BBk, e_LLk, e_PPk, e_Ks, e_Ns, e_Is, e_Bs, e_Ls, e_Ps, e_Kn, e_Nn, e_In, e_Bn, e_Ln, e_Pn, if_true, if_false, and_self, or_true, true_or, not_false_eq_true, Bool.false_eq_true]; exact rfl) | exact rfl) | ((with_reducible apply wp_g); · first | (simp (disch := omega) only [mm.1.2, e6, x6, c6, ef, q0, e5, x5, c5, es, nn, io, e_KI, e_NI, e_BI, e_LI, e_PI, e_KB, e_NB, e_IB, e_LB, e_PB, e_KL, e_NL, e_IL, e_BL, e_PL, e_KP, e_NP, e_IP, e_BP, e_LP, e_IIs, e_BBs, e_LLs, e_PPs, e_IIn, e_BBn, e_LLn, e_PPn, e_IIk, e_BBk, e_LLk, e_PPk, e_Ks, e_Ns, e_Is, e_Bs, e_Ls, e_Ps, e_Kn, e_Nn, e_In, e_Bn, e_Ln, e_Pn, if_true, if_false, and_self, or_true, true_or, not_false_eq_true, Bool.false_eq_true]; done) | (simp (disch := omega) only [mm.1.2, e6, x6, c6, ef, q0, e5, x5, c5, es, nn, io, e_KI, e_NI, e_BI, e_LI, e_PI, e_KB, e_NB, e_IB, e_LB, e_PB, e_KL, e_NL, e_IL, e_BL, e_PL, e_KP, e_NP, e_IP, e_BP, e_LP, e_IIs, e_BBs, e_LLs, e_PPs, e_IIn, e_BBn, e_LLn, e_PPn, e_IIk, e_BBk, e_LLk, e_PPk, e_Ks, e_Ns, e_Is, e_Bs, e_Ls, e_Ps, e_Kn, e_Nn, e_In, e_Bn, e_Ln, e_Pn, if_true, if_false, and_self, or_true, true_or, not_false_eq_true, Bool.false_eq_true]; decide) | decide) | ((with_reducible apply wp_pos); · first | (simp (disch := omega) only [mm.1.2, e6, x6, c6, ef, q0, e5, x5, c5, es, nn, io, e_KI, e_NI, e_BI, e_LI, e_PI, e_KB, e_NB, e_IB, e_LB, e_PB, e_KL, e_NL, e_IL, e_BL, e_PL, e_KP, e_NP, e_IP, e_BP, e_LP, e_IIs, e_BBs, e_LLs, e_PPs, e_IIn, e_BBn, e_LLn, e_PPn, e_IIk, e_BBk, e_LLk, e_PPk, e_Ks, e_Ns, e_Is, e_Bs, e_Ls, e_Ps, e_Kn, e_Nn, e_In, e_Bn, e_Ln, e_Pn, if_true, if_false, and_self, or_true, true_or, not_false_eq_true, Bool.false_eq_true]; done) | (simp (disch := omega) only [mm.1.2, e6, x6, c6, ef, q0, e5, x5, c5, es, nn, io, e_KI, e_NI, e_BI, e_LI, e_PI, e_KB, e_NB, e_IB, e_LB, e_PB, e_KL, e_NL, e_IL, e_BL, e_PL, e_KP, e_NP, e_IP, e_BP, e_LP, e_IIs, e_BBs, e_LLs, e_PPs, e_IIn, e_BBn, e_LLn, e_PPn, e_IIk, e_BBk, e_LLk, e_PPk, e_Ks, e_Ns, e_Is, e_Bs, e_Ls, e_Ps, e_Kn, e_Nn, e_In, e_Bn, e_Ln, e_Pn, if_true, if_false, and_self, or_true, true_or, not_false_eq_true, Bool.false_eq_true]; decide) | decide) | ((with_reducible apply wp_neg); · first | (simp (disch := omega) only [mm.1.2, e6, x6, c6, ef, q0, e5, x5, c5, es, nn, io, e_KI, e_NI, e_BI, e_LI, e_PI, e_KB, e_NB, e_IB, e_LB, e_PB, e_KL, e_NL, e_IL, e_BL, e_PL, e_KP, e_NP, e_IP, e_BP, e_LP, e_IIs, e_BBs, e_LLs, e_PPs, e_IIn, e_BBn, e_LLn, e_PPn, e_IIk, e_BBk, e_LLk, e_PPk, e_Ks, e_Ns, e_Is, e_Bs, e_Ls, e_Ps, e_Kn, e_Nn, e_In, e_Bn, e_Ln, e_Pn, if_true, if_false, and_self, or_true, true_or, not_false_eq_true, Bool.false_eq_true]; done) | (simp (disch := omega) only [mm.1.2, e6, x6, c6, ef, q0, e5, x5, c5, es, nn, io, e_KI, e_NI, e_BI, e_LI, e_PI, e_KB, e_NB, e_IB, e_LB, e_PB, e_KL, e_NL, e_IL, e_BL, e_PL, e_KP, e_NP, e_IP, e_BP, e_LP, e_IIs, e_BBs, e_LLs, e_PPs, e_IIn, e_BBn, e_LLn, e_PPn, e_IIk, e_BBk, e_LLk, e_PPk, e_Ks, e_Ns, e_Is, e_Bs, e_Ls, e_Ps, e_Kn, e_Nn, e_In, e_Bn, e_Ln, e_Pn, if_true, if_false, and_self, or_true, true_or, not_false_eq_true, Bool.false_eq_true]; decide) | decide)))
      exact wp_some.mpr (fin1 (by rw [tr]; rfl))
    | false =>
      rw [q3] at io tr
      cases q5 : pO5 (kd h (v f')) with
      | false =>
        rw [q5] at ov tr
        (repeat (first | with_reducible apply wp_jn | ((with_reducible apply wp_be); · first | (simp (disch := omega) only [mm.1.2, e6, x6, c6, ef, q0, e5, x5, c5, es, nn, io, xv, cv, ek, ov, e_KI, e_NI, e_BI, e_LI, e_PI, e_KB, e_NB, e_IB, e_LB, e_PB, e_KL, e_NL, e_IL, e_BL, e_PL, e_KP, e_NP, e_IP, e_BP, e_LP, e_IIs, e_BBs, e_LLs, e_PPs, e_IIn, e_BBn, e_LLn, e_PPn, e_IIk, e_BBk, e_LLk, e_PPk, e_Ks, e_Ns, e_Is, e_Bs, e_Ls, e_Ps, e_Kn, e_Nn, e_In, e_Bn, e_Ln, e_Pn, if_true, if_false, and_self, or_true, true_or, not_false_eq_true, Bool.false_eq_true]; exact rfl) | exact rfl) | ((with_reducible apply wp_ce); · first | (simp (disch := omega) only [mm.1.2, e6, x6, c6, ef, q0, e5, x5, c5, es, nn, io, xv, cv, ek, ov, e_KI, e_NI, e_BI, e_LI, e_PI, e_KB, e_NB, e_IB, e_LB, e_PB, e_KL, e_NL, e_IL, e_BL, e_PL, e_KP, e_NP, e_IP, e_BP, e_LP, e_IIs, e_BBs, e_LLs, e_PPs, e_IIn, e_BBn, e_LLn, e_PPn, e_IIk, e_BBk, e_LLk, e_PPk, e_Ks, e_Ns, e_Is, e_Bs, e_Ls, e_Ps, e_Kn, e_Nn, e_In, e_Bn, e_Ln, e_Pn, if_true, if_false, and_self, or_true, true_or, not_false_eq_true, Bool.false_eq_true]; exact rfl) | exact rfl) | ((with_reducible apply wp_g); · first | (simp (disch := omega) only [mm.1.2, e6, x6, c6, ef, q0, e5, x5, c5, es, nn, io, xv, cv, ek, ov, e_KI, e_NI, e_BI, e_LI, e_PI, e_KB, e_NB, e_IB, e_LB, e_PB, e_KL, e_NL, e_IL, e_BL, e_PL, e_KP, e_NP, e_IP, e_BP, e_LP, e_IIs, e_BBs, e_LLs, e_PPs, e_IIn, e_BBn, e_LLn, e_PPn, e_IIk, e_BBk, e_LLk, e_PPk, e_Ks, e_Ns, e_Is, e_Bs, e_Ls, e_Ps, e_Kn, e_Nn, e_In, e_Bn, e_Ln, e_Pn, if_true, if_false, and_self, or_true, true_or, not_false_eq_true, Bool.false_eq_true]; done) | (simp (disch := omega) only [mm.1.2, e6, x6, c6, ef, q0, e5, x5, c5, es, nn, io, xv, cv, ek, ov, e_KI, e_NI, e_BI, e_LI, e_PI, e_KB, e_NB, e_IB, e_LB, e_PB, e_KL, e_NL, e_IL, e_BL, e_PL, e_KP, e_NP, e_IP, e_BP, e_LP, e_IIs, e_BBs, e_LLs, e_PPs, e_IIn, e_BBn, e_LLn, e_PPn, e_IIk, e_BBk, e_LLk, e_PPk, e_Ks, e_Ns, e_Is, e_Bs, e_Ls, e_Ps, e_Kn, e_Nn, e_In, e_Bn, e_Ln, e_Pn, if_true, if_false, and_self, or_true, true_or, not_false_eq_true, Bool.false_eq_true]; decide) | decide) | ((with_reducible apply wp_pos); · first | (simp (disch := omega) only [mm.1.2, e6, x6, c6, ef, q0, e5, x5, c5, es, nn, io, xv, cv, ek, ov, e_KI, e_NI, e_BI, e_LI, e_PI, e_KB, e_NB, e_IB, e_LB, e_PB, e_KL, e_NL, e_IL, e_BL, e_PL, e_KP, e_NP, e_IP, e_BP, e_LP, e_IIs, e_BBs, e_LLs, e_PPs, e_IIn, e_BBn, e_LLn, e_PPn, e_IIk, e_BBk, e_LLk, e_PPk, e_Ks, e_Ns, e_Is, e_Bs, e_Ls, e_Ps, e_Kn, e_Nn, e_In, e_Bn, e_Ln, e_Pn, if_true, if_false, and_self, or_true, true_or, not_false_eq_true, Bool.false_eq_true]; done) | (simp (disch := omega) only [mm.1.2, e6, x6, c6, ef, q0, e5, x5, c5, es, nn, io, xv, cv, ek, ov, e_KI, e_NI, e_BI, e_LI, e_PI, e_KB, e_NB, e_IB, e_LB, e_PB, e_KL, e_NL, e_IL, e_BL, e_PL, e_KP, e_NP, e_IP, e_BP, e_LP, e_IIs, e_BBs, e_LLs, e_PPs, e_IIn, e_BBn, e_LLn, e_PPn, e_IIk, e_BBk, e_LLk, e_PPk, e_Ks, e_Ns, e_Is, e_Bs, e_Ls, e_Ps, e_Kn, e_Nn, e_In, e_Bn, e_Ln, e_Pn, if_true, if_false, and_self, or_true, true_or, not_false_eq_true, Bool.false_eq_true]; decide) | decide) | ((with_reducible apply wp_neg); · first | (simp (disch := omega) only [mm.1.2, e6, x6, c6, ef, q0, e5, x5, c5, es, nn, io, xv, cv, ek, ov, e_KI, e_NI, e_BI, e_LI, e_PI, e_KB, e_NB, e_IB, e_LB, e_PB, e_KL, e_NL, e_IL, e_BL, e_PL, e_KP, e_NP, e_IP, e_BP, e_LP, e_IIs, e_BBs, e_LLs, e_PPs, e_IIn, e_BBn, e_LLn, e_PPn, e_IIk, e_BBk, e_LLk, e_PPk, e_Ks, e_Ns, e_Is, e_Bs, e_Ls, e_Ps, e_Kn, e_Nn, e_In, e_Bn, e_Ln, e_Pn, if_true, if_false, and_self, or_true, true_or, not_false_eq_true, Bool.false_eq_true]; done) | (simp (disch := omega) only [mm.1.2, e6, x6, c6, ef, q0, e5, x5, c5, es, nn, io, xv, cv, ek, ov, e_KI, e_NI, e_BI, e_LI, e_PI, e_KB, e_NB, e_IB, e_LB, e_PB, e_KL, e_NL, e_IL, e_BL, e_PL, e_KP, e_NP, e_IP, e_BP, e_LP, e_IIs, e_BBs, e_LLs, e_PPs, e_IIn, e_BBn, e_LLn, e_PPn, e_IIk, e_BBk, e_LLk, e_PPk, e_Ks, e_Ns, e_Is, e_Bs, e_Ls, e_Ps, e_Kn, e_Nn, e_In, e_Bn, e_Ln, e_Pn, if_true, if_false, and_self, or_true, true_or, not_false_eq_true, Bool.false_eq_true]; decide) | decide)))
        exact fin2 (by rw [tr]; rfl)
      | true =>
        rw [q5] at ov tr
        cases qn : pO5 (kd h n) with
        | false =>
          rw [qn] at on tr
          (repeat (first | with_reducible apply wp_jn | ((with_reducible apply wp_be); · first | (simp (disch := omega) only [mm.1.2, e6, x6, c6, ef, q0, e5, x5, c5, es, nn, io, xv, cv, ek, ov, xn, cn, en, on, e_KI, e_NI, e_BI, e_LI, e_PI, e_KB, e_NB, e_IB, e_LB, e_PB, e_KL, e_NL, e_IL, e_BL, e_PL, e_KP, e_NP, e_IP, e_BP, e_LP, e_IIs, e_BBs, e_LLs, e_PPs, e_IIn, e_BBn, e_LLn, e_PPn, e_IIk, e_BBk, e_LLk, e_PPk, e_Ks, e_Ns, e_Is, e_Bs, e_Ls, e_Ps, e_Kn, e_Nn, e_In, e_Bn, e_Ln, e_Pn, if_true, if_false, and_self, or_true, true_or, not_false_eq_true, Bool.false_eq_true]; exact rfl) | exact rfl) | ((with_reducible apply wp_ce); · first | (simp (disch := omega) only [mm.1.2, e6, x6, c6, ef, q0, e5, x5, c5, es, nn, io, xv, cv, ek, ov, xn, cn, en, on, e_KI, e_NI, e_BI, e_LI, e_PI, e_KB, e_NB, e_IB, e_LB, e_PB, e_KL, e_NL, e_IL, e_BL, e_PL, e_KP, e_NP, e_IP, e_BP, e_LP, e_IIs, e_BBs, e_LLs, e_PPs, e_IIn, e_BBn, e_LLn, e_PPn, e_IIk, e_BBk, e_LLk, e_PPk, e_Ks, e_Ns, e_Is, e_Bs, e_Ls, e_Ps, e_Kn, e_Nn, e_In, e_Bn, e_Ln, e_Pn, if_true, if_false, and_self, or_true, true_or, not_false_eq_true, Bool.false_eq_true]; exact rfl) | exact rfl) | ((with_reducible apply wp_g); · first | (simp (disch := omega) only [mm.1.2, e6, x6, c6, ef, q0, e5, x5, c5, es, nn, io, xv, cv, ek, ov, xn, cn, en, on, e_KI, e_NI, e_BI, e_LI, e_PI, e_KB, e_NB, e_IB, e_LB, e_PB, e_KL, e_NL, e_IL, e_BL, e_PL, e_KP, e_NP, e_IP, e_BP, e_LP, e_IIs, e_BBs, e_LLs, e_PPs, e_IIn, e_BBn, e_LLn, e_PPn, e_IIk, e_BBk, e_LLk, e_PPk, e_Ks, e_Ns, e_Is, e_Bs, e_Ls, e_Ps, e_Kn, e_Nn, e_In, e_Bn, e_Ln, e_Pn, if_true, if_false, and_self, or_true, true_or, not_false_eq_true, Bool.false_eq_true]; done) | (simp (disch := omega) only [mm.1.2, e6, x6, c6, ef, q0, e5, x5, c5, es, nn, io, xv, cv, ek, ov, xn, cn, en, on, e_KI, e_NI, e_BI, e_LI, e_PI, e_KB, e_NB, e_IB, e_LB, e_PB, e_KL, e_NL, e_IL, e_BL, e_PL, e_KP, e_NP, e_IP, e_BP, e_LP, e_IIs, e_BBs, e_LLs, e_PPs, e_IIn, e_BBn, e_LLn, e_PPn, e_IIk, e_BBk, e_LLk, e_PPk, e_Ks, e_Ns, e_Is, e_Bs, e_Ls, e_Ps, e_Kn, e_Nn, e_In, e_Bn, e_Ln, e_Pn, if_true, if_false, and_self, or_true, true_or, not_false_eq_true, Bool.false_eq_true]; decide) | decide) | ((with_reducible apply wp_pos); · first | (simp (disch := omega) only [mm.1.2, e6, x6, c6, ef, q0, e5, x5, c5, es, nn, io, xv, cv, ek, ov, xn, cn, en, on, e_KI, e_NI, e_BI, e_LI, e_PI, e_KB, e_NB, e_IB, e_LB, e_PB, e_KL, e_NL, e_IL, e_BL, e_PL, e_KP, e_NP, e_IP, e_BP, e_LP, e_IIs, e_BBs, e_LLs, e_PPs, e_IIn, e_BBn, e_LLn, e_PPn, e_IIk, e_BBk, e_LLk, e_PPk, e_Ks, e_Ns, e_Is, e_Bs, e_Ls, e_Ps, e_Kn, e_Nn, e_In, e_Bn, e_Ln, e_Pn, if_true, if_false, and_self, or_true, true_or, not_false_eq_true, Bool.false_eq_true]; done) | (simp (disch := omega) only [mm.1.2, e6, x6, c6, ef, q0, e5, x5, c5, es, nn, io, xv, cv, ek, ov, xn, cn, en, on, e_KI, e_NI, e_BI, e_LI, e_PI, e_KB, e_NB, e_IB, e_LB, e_PB, e_KL, e_NL, e_IL, e_BL, e_PL, e_KP, e_NP, e_IP, e_BP, e_LP, e_IIs, e_BBs, e_LLs, e_PPs, e_IIn, e_BBn, e_LLn, e_PPn, e_IIk, e_BBk, e_LLk, e_PPk, e_Ks, e_Ns, e_Is, e_Bs, e_Ls, e_Ps, e_Kn, e_Nn, e_In, e_Bn, e_Ln, e_Pn, if_true, if_false, and_self, or_true, true_or, not_false_eq_true, Bool.false_eq_true]; decide) | decide) | ((with_reducible apply wp_neg); · first | (simp (disch := omega) only [mm.1.2, e6, x6, c6, ef, q0, e5, x5, c5, es, nn, io, xv, cv, ek, ov, xn, cn, en, on, e_KI, e_NI, e_BI, e_LI, e_PI, e_KB, e_NB, e_IB, e_LB, e_PB, e_KL, e_NL, e_IL, e_BL, e_PL, e_KP, e_NP, e_IP, e_BP, e_LP, e_IIs, e_BBs, e_LLs, e_PPs, e_IIn, e_BBn, e_LLn, e_PPn, e_IIk, e_BBk, e_LLk, e_PPk, e_Ks, e_Ns, e_Is, e_Bs, e_Ls, e_Ps, e_Kn, e_Nn, e_In, e_Bn, e_Ln, e_Pn, if_true, if_false, and_self, or_true, true_or, not_false_eq_true, Bool.false_eq_true]; done) | (simp (disch := omega) only [mm.1.2, e6, x6, c6, ef, q0, e5, x5, c5, es, nn, io, xv, cv, ek, ov, xn, cn, en, on, e_KI, e_NI, e_BI, e_LI, e_PI, e_KB, e_NB, e_IB, e_LB, e_PB, e_KL, e_NL, e_IL, e_BL, e_PL, e_KP, e_NP, e_IP, e_BP, e_LP, e_IIs, e_BBs, e_LLs, e_PPs, e_IIn, e_BBn, e_LLn, e_PPn, e_IIk, e_BBk, e_LLk, e_PPk, e_Ks, e_Ns, e_Is, e_Bs, e_Ls, e_Ps, e_Kn, e_Nn, e_In, e_Bn, e_Ln, e_Pn, if_true, if_false, and_self, or_true, true_or, not_false_eq_true, Bool.false_eq_true]; decide) | decide)))
          exact wp_some.mpr (fin1 (by rw [tr]; rfl))
        | true =>
          rw [qn] at on tr
          (repeat (first | with_reducible apply wp_jn | ((with_reducible apply wp_be); · first | (simp (disch := omega) only [mm.1.2, e6, x6, c6, ef, q0, e5, x5, c5, es, nn, io, xv, cv, ek, ov, xn, cn, en, on, e_KI, e_NI, e_BI, e_LI, e_PI, e_KB, e_NB, e_IB, e_LB, e_PB, e_KL, e_NL, e_IL, e_BL, e_PL, e_KP, e_NP, e_IP, e_BP, e_LP, e_IIs, e_BBs, e_LLs, e_PPs, e_IIn, e_BBn, e_LLn, e_PPn, e_IIk, e_BBk, e_LLk, e_PPk, e_Ks, e_Ns, e_Is, e_Bs, e_Ls, e_Ps, e_Kn, e_Nn, e_In, e_Bn, e_Ln, e_Pn, if_true, if_false, and_self, or_true, true_or, not_false_eq_true, Bool.false_eq_true]; exact rfl) | exact rfl) | ((with_reducible apply wp_ce); · first | (simp (disch := omega) only [mm.1.2, e6, x6, c6, ef, q0, e5, x5, c5, es, nn, io, xv, cv, ek, ov, xn, cn, en, on, e_KI, e_NI, e_BI, e_LI, e_PI, e_KB, e_NB, e_IB, e_LB, e_PB, e_KL, e_NL, e_IL, e_BL, e_PL, e_KP, e_NP, e_IP, e_BP, e_LP, e_IIs, e_BBs, e_LLs, e_PPs, e_IIn, e_BBn, e_LLn, e_PPn, e_IIk, e_BBk, e_LLk, e_PPk, e_Ks, e_Ns, e_Is, e_Bs, e_Ls, e_Ps, e_Kn, e_Nn, e_In, e_Bn, e_Ln, e_Pn, if_true, if_false, and_self, or_true, true_or, not_false_eq_true, Bool.false_eq_true]; exact rfl) | exact rfl) | ((with_reducible apply wp_g); · first | (simp (disch := omega) only [mm.1.2, e6, x6, c6, ef, q0, e5, x5, c5, es, nn, io, xv, cv, ek, ov, xn, cn, en, on, e_KI, e_NI, e_BI, e_LI, e_PI, e_KB, e_NB, e_IB, e_LB, e_PB, e_KL, e_NL, e_IL, e_BL, e_PL, e_KP, e_NP, e_IP, e_BP, e_LP, e_IIs, e_BBs, e_LLs, e_PPs, e_IIn, e_BBn, e_LLn, e_PPn, e_IIk, e_BBk, e_LLk, e_PPk, e_Ks, e_Ns, e_Is, e_Bs, e_Ls, e_Ps, e_Kn, e_Nn, e_In, e_Bn, e_Ln, e_Pn, if_true, if_false, and_self, or_true, true_or, not_false_eq_true, Bool.false_eq_true]; done) | (simp (disch := omega) only [mm.1.2, e6, x6, c6, ef, q0, e5, x5, c5, es, nn, io, xv, cv, ek, ov, xn, cn, en, on, e_KI, e_NI, e_BI, e_LI, e_PI, e_KB, e_NB, e_IB, e_LB, e_PB, e_KL, e_NL, e_IL, e_BL, e_PL, e_KP, e_NP, e_IP, e_BP, e_LP, e_IIs, e_BBs, e_LLs, e_PPs, e_IIn, e_BBn, e_LLn, e_PPn, e_IIk, e_BBk, e_LLk, e_PPk, e_Ks, e_Ns, e_Is, e_Bs, e_Ls, e_Ps, e_Kn, e_Nn, e_In, e_Bn, e_Ln, e_Pn, if_true, if_false, and_self, or_true, true_or, not_false_eq_true, Bool.false_eq_true]; decide) | decide) | ((with_reducible apply wp_pos); · first | (simp (disch := omega) only [mm.1.2, e6, x6, c6, ef, q0, e5, x5, c5, es, nn, io, xv, cv, ek, ov, xn, cn, en, on, e_KI, e_NI, e_BI, e_LI, e_PI, e_KB, e_NB, e_IB, e_LB, e_PB, e_KL, e_NL, e_IL, e_BL, e_PL, e_KP, e_NP, e_IP, e_BP, e_LP, e_IIs, e_BBs, e_LLs, e_PPs, e_IIn, e_BBn, e_LLn, e_PPn, e_IIk, e_BBk, e_LLk, e_PPk, e_Ks, e_Ns, e_Is, e_Bs, e_Ls, e_Ps, e_Kn, e_Nn, e_In, e_Bn, e_Ln, e_Pn, if_true, if_false, and_self, or_true, true_or, not_false_eq_true, Bool.false_eq_true]; done) | (simp (disch := omega) only [mm.1.2, e6, x6, c6, ef, q0, e5, x5, c5, es, nn, io, xv, cv, ek, ov, xn, cn, en, on, e_KI, e_NI, e_BI, e_LI, e_PI, e_KB, e_NB, e_IB, e_LB, e_PB, e_KL, e_NL, e_IL, e_BL, e_PL, e_KP, e_NP, e_IP, e_BP, e_LP, e_IIs, e_BBs, e_LLs, e_PPs, e_IIn, e_BBn, e_LLn, e_PPn, e_IIk, e_BBk, e_LLk, e_PPk, e_Ks, e_Ns, e_Is, e_Bs, e_Ls, e_Ps, e_Kn, e_Nn, e_In, e_Bn, e_Ln, e_Pn, if_true, if_false, and_self, or_true, true_or, not_false_eq_true, Bool.false_eq_true]; decide) | decide) | ((with_reducible apply wp_neg); · first | (simp (disch := omega) only [mm.1.2, e6, x6, c6, ef, q0, e5, x5, c5, es, nn, io, xv, cv, ek, ov, xn, cn, en, on, e_KI, e_NI, e_BI, e_LI, e_PI, e_KB, e_NB, e_IB, e_LB, e_PB, e_KL, e_NL, e_IL, e_BL, e_PL, e_KP, e_NP, e_IP, e_BP, e_LP, e_IIs, e_BBs, e_LLs, e_PPs, e_IIn, e_BBn, e_LLn, e_PPn, e_IIk, e_BBk, e_LLk, e_PPk, e_Ks, e_Ns, e_Is, e_Bs, e_Ls, e_Ps, e_Kn, e_Nn, e_In, e_Bn, e_Ln, e_Pn, if_true, if_false, and_self, or_true, true_or, not_false_eq_true, Bool.false_eq_true]; done) | (simp (disch := omega) only [mm.1.2, e6, x6, c6, ef, q0, e5, x5, c5, es, nn, io, xv, cv, ek, ov, xn, cn, en, on, e_KI, e_NI, e_BI, e_LI, e_PI, e_KB, e_NB, e_IB, e_LB, e_PB, e_KL, e_NL, e_IL, e_BL, e_PL, e_KP, e_NP, e_IP, e_BP, e_LP, e_IIs, e_BBs, e_LLs, e_PPs, e_IIn, e_BBn, e_LLn, e_PPn, e_IIk, e_BBk, e_LLk, e_PPk, e_Ks, e_Ns, e_Is, e_Bs, e_Ls, e_Ps, e_Kn, e_Nn, e_In, e_Bn, e_Ln, e_Pn, if_true, if_false, and_self, or_true, true_or, not_false_eq_true, Bool.false_eq_true]; decide) | decide)))
          exact fin2 (by rw [tr]; rfl)
end STC
