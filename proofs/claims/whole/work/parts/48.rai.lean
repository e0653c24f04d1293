/-! RAILS -/
theorem i_gap {a b g : Nat} (h : a < 1000 ∧ b < 1000 ∧ g < 1000) : (nI g ≤ nI b - nI a) = (a + g ≤ b) := by
  apply propext
  rw [Int32.le_iff_toInt_le, nI_toInt (by omega), pk_sub_toInt (by omega) (by omega)]
  omega
theorem i_gap10 {b g : Nat} (h : b < 900 ∧ g ≤ 4) : (nI g ≤ nI b - (-10)) = True := by
  apply eq_true
  have : nI b - (-10) = nI (b + 10) - nI 0 := by
    rw [nI_0, ← nI_add]
    simp [Int32.sub_eq_add_neg, nI]
  rw [this, i_gap (by omega)]
  omega
/-- those on a rail stand apart -/
def WR (h : y_H) (r : Int32) (a : Nat → Nat) (g C : Nat) : Prop := ∀ c d, c < d → d < C → y_I h 1570 c = r → y_I h 1570 d = r → a c + g ≤ a d
/-- of the cranes what the rails need -/
def RCl (h : y_H) (C : Nat) : Prop := C ≤ 12 ∧ y_I h 12 4 = nI C ∧ ∀ c, c < C → y_P h 163 c = 64 * c + 21 ∧ y_K h (64 * c + 21) = 4 ∧ y_I h (64 * c + 21) 2 = y_I h 1570 c ∧ y_I h (64 * c + 21) 3 = y_I h 1634 c
section RA
variable {h : y_H} {C : Nat}
theorem RC.l (r : RC h C) : RCl h C := ⟨r.1, r.2.1, fun c hc => by
  obtain ⟨⟨x1, x2, x3, x4, x5, x6, -⟩, -⟩ := r.2.2.2.1 c hc
  exact ⟨x1, x2, x5, x6⟩⟩
theorem c_crane1 {c : Nat} (w : Sh h) (e : y_I h 12 4 = nI C) (hC : C ≤ 12) (hc : c < C) (q : y_P h 163 c = 64 * c + 21) : f_X10_craneAt 12 (nI c) h = some (64 * c + 21, h) := by
  have hd : decide (0 ≤ nI c ∧ nI c ≤ nI C - 1) = true := by
    rcases i_cnt (nI c) C (by omega) with ⟨_, _, _, z⟩ | ⟨_, z⟩
    · exact z
    · exact absurd rfl (z c hc)
  simp only [f_X10_craneAt, c_isWithin, w.1, e, hd, i_ix (show c < 12 by omega) (by decide), i_cl (show c < 2 ^ 31 by omega), q, if_true, and_self, e_cl, e_bd, e_jn]
theorem m_isWell {r g : Nat} {a : Nat → Nat} (w : Sh h) (hC : C ≤ 12) (e : y_I h 11 25 = nI C) (hr : r < 3) (hg : y_I h 1890 r = nI g) (hg4 : g ≤ 4) (ha : ∀ c, c < C → a c ≤ 9 ∧ y_I h 1634 c = nI (a c)) : wp (f_X12_isWell 11 (nI r) h) fun b h' => h' = h ∧ (b = true ↔ WR h (nI r) a g C) := by
  unfold f_X12_isWell
  have xr := i_ix hr (by decide)
  have cr := i_cl (show r < 2 ^ 31 by omega)
  refine wp_jl (fun m j => ∀ i lst wl, i ≤ C → C - i < m → ((lst = -1 ∧ ∀ c, c < i → y_I h 1570 c ≠ nI r) ∨ ∃ c0, c0 < i ∧ lst = nI c0 ∧ y_I h 1570 c0 = nI r ∧ ∀ c, c0 < c → c < i → y_I h 1570 c ≠ nI r) → (wl = 0 ∧ ¬ WR h (nI r) a g i ∨ wl = 1 ∧ WR h (nI r) a g i) → wp (j 11 (nI r) lst wl (nI i) h) fun b h' => h' = h ∧ (b = true ↔ WR h (nI r) a g C)) (fun i _ _ _ hm => absurd hm (by omega)) (fun m j IH i lst wl hi hm hl hw => ?_) (fun j IH => ?_)
  · have n01 : ¬ (0 : Int32) = 1 := by decide
    have n10 : ¬ (1 : Int32) = 0 := by decide
    by_cases hiC : i = C
    · subst hiC
      have q : nI i ≤ nI i := nI_le (Nat.le_refl _) (by omega)
      rcases hw with ⟨rfl, hw⟩ | ⟨rfl, hw⟩
      · simp only [w.2, e, q, if_true, wp_some]
        exact ⟨trivial, fun z => (by cases z), fun z => absurd z hw⟩
      · simp only [w.2, e, q, n10, if_true, if_false, wp_some]
        exact ⟨trivial, fun _ => hw, fun _ => trivial⟩
    · have q : ¬ nI C ≤ nI i := nI_ge (by omega) (by omega)
      have x1 := i_ix (show i < 12 by omega) (by decide)
      have y1 := i_cl (show i < 2 ^ 31 by omega)
      obtain ⟨ai, pi⟩ := ha i (by omega)
      simp only [w.2, e, q, x1, y1, if_true, if_false, and_self, e_jn]
      have up : WR h (nI r) a g (i + 1) → WR h (nI r) a g i := fun z c d h1 h2 => z c d h1 (by omega)
      by_cases hri : y_I h 1570 i = nI r
      · simp only [hri, if_true]
        have hl2 : (∃ c0, c0 < i + 1 ∧ nI i = nI c0 ∧ y_I h 1570 c0 = nI r ∧ ∀ c, c0 < c → c < i + 1 → y_I h 1570 c ≠ nI r) := ⟨i, by omega, rfl, hri, fun c h1 h2 => absurd h1 (by omega)⟩
        rcases hw with ⟨rfl, hw⟩ | ⟨rfl, hw⟩
        · simp only [if_true, nI_1]
          exact IH (i + 1) _ _ (by omega) (by omega) (Or.inr hl2) (Or.inl ⟨rfl, fun z => hw (up z)⟩)
        · rcases hl with ⟨rfl, hl⟩ | ⟨c0, hc0, rfl, hrc, hl⟩
          · have m1 : (-1 : Int32) < 0 := by decide
            simp only [n10, m1, if_true, if_false, nI_1]
            refine IH (i + 1) _ _ (by omega) (by omega) (Or.inr hl2) (Or.inr ⟨rfl, fun c d h1 h2 h3 h4 => ?_⟩)
            by_cases ed : d = i
            · subst ed
              exact absurd h3 (hl c h1)
            · exact hw c d h1 (by omega) h3 h4
          · obtain ⟨ac, pc⟩ := ha c0 (by omega)
            have x2 := i_ix (show c0 < 12 by omega) (by decide)
            have y2 := i_cl (show c0 < 2 ^ 31 by omega)
            have m1 : ¬ nI c0 < 0 := nI_pos (by omega)
            by_cases hlt : a i < a c0 + g
            · simp only [n10, m1, if_true, if_false, nI_1, x1, x2, y1, y2, xr, cr, pi, pc, hg, i_add, and_self, i_lt (show a i < 2 ^ 31 ∧ a c0 + g < 2 ^ 31 by omega), hlt]
              exact IH (i + 1) _ _ (by omega) (by omega) (Or.inr hl2) (Or.inl ⟨rfl, fun z => by
                have := z c0 i hc0 (by omega) hrc hri
                omega⟩)
            · simp only [n10, m1, if_true, if_false, nI_1, x1, x2, y1, y2, xr, cr, pi, pc, hg, i_add, and_self, i_lt (show a i < 2 ^ 31 ∧ a c0 + g < 2 ^ 31 by omega), hlt]
              refine IH (i + 1) _ _ (by omega) (by omega) (Or.inr hl2) (Or.inr ⟨rfl, fun c d h1 h2 h3 h4 => ?_⟩)
              by_cases ed : d = i
              · subst ed
                by_cases ec : c = c0
                · rw [ec]
                  omega
                · by_cases hcc : c < c0
                  · have := hw c c0 hcc hc0 h3 hrc
                    omega
                  · exact absurd h3 (hl c (by omega) h1)
              · exact hw c d h1 (by omega) h3 h4
      · simp only [hri, if_false, nI_1]
        refine IH (i + 1) _ _ (by omega) (by omega) ?_ ?_
        · rcases hl with ⟨rfl, hl⟩ | ⟨c0, hc0, rfl, hrc, hl⟩
          · refine Or.inl ⟨rfl, fun c hc => ?_⟩
            by_cases ec : c = i
            · rw [ec]
              exact hri
            · exact hl c (by omega)
          · refine Or.inr ⟨c0, by omega, rfl, hrc, fun c h1 h2 => ?_⟩
            by_cases ec : c = i
            · rw [ec]
              exact hri
            · exact hl c h1 (by omega)
        · have down : WR h (nI r) a g i → WR h (nI r) a g (i + 1) := fun z c d h1 h2 h3 h4 => by
            by_cases ed : d = i
            · subst ed
              exact absurd h4 hri
            · exact z c d h1 (by omega) h3 h4
          rcases hw with ⟨rfl, hw⟩ | ⟨rfl, hw⟩
          · exact Or.inl ⟨rfl, fun z => hw (up z)⟩
          · exact Or.inr ⟨rfl, down hw⟩
  · exact IH 0 _ _ (by omega) (by unfold y_fu; omega) (Or.inl ⟨rfl, fun c hc => absurd hc (by omega)⟩) (Or.inr ⟨rfl, fun c d _ h2 => absurd h2 (by omega)⟩)
theorem c_hasRoom {r g x p : Nat} {a : Nat → Nat} (w : Sh h) (rC : RCl h C) (hr : r < 3) (hg : y_I h 291 r = nI g) (hg4 : g ≤ 4) (ha : ∀ c, c < C → a c ≤ 9 ∧ y_I h 1634 c = nI (a c)) (hx : x ≤ 12) (hp : p ≤ 9) : wp (f_X10_hasRoomOnRail 12 (nI r) (nI x) (nI p) h) fun b h' => h' = h ∧ (b = true ↔ ∀ i, i < C → i ≠ x → y_I h 1570 i = nI r → (i < x → a i + g ≤ p) ∧ (x < i → p + g ≤ a i)) := by
  unfold f_X10_hasRoomOnRail
  have xr := i_ix hr (by decide)
  have cr := i_cl (show r < 2 ^ 31 by omega)
  have dr : decide (0 ≤ nI r ∧ nI r ≤ 2) = true := i_dt (x := 0) (y := r) (z := 2) rfl rfl rfl (by omega)
  obtain ⟨c1, c2, c4⟩ := id rC
  simp only [c_isWithin, dr, e_cl, if_true]
  refine wp_jl (fun m j => ∀ i, i ≤ C → C - i < m → (∀ k, k < i → k ≠ x → y_I h 1570 k = nI r → (k < x → a k + g ≤ p) ∧ (x < k → p + g ≤ a k)) → wp (j 12 (nI r) (nI x) (nI p) (nI i) h) fun b h' => h' = h ∧ (b = true ↔ ∀ i, i < C → i ≠ x → y_I h 1570 i = nI r → (i < x → a i + g ≤ p) ∧ (x < i → p + g ≤ a i))) (fun i _ hm => absurd hm (by omega)) (fun m j IH i hi hm hw => ?_) (fun j IH => ?_)
  · by_cases hiC : i = C
    · subst hiC
      have q : nI i ≤ nI i := nI_le (Nat.le_refl _) (by omega)
      simp only [w.1, c2, q, if_true, wp_some]
      exact ⟨trivial, fun _ => hw, fun _ => trivial⟩
    · have q : ¬ nI C ≤ nI i := nI_ge (by omega) (by omega)
      obtain ⟨ai, pi⟩ := ha i (by omega)
      obtain ⟨x1, x2, x5, x6⟩ := c4 i (by omega)
      have e1 : f_X10_craneAt 12 (nI i) h = some (64 * i + 21, h) := c_crane1 w c2 c1 (by omega) x1
      have hne : ¬ 64 * i + 21 = 0 := by omega
      have step : (i ≠ x → y_I h 1570 i = nI r → (i < x → a i + g ≤ p) ∧ (x < i → p + g ≤ a i)) → (∀ k, k < i + 1 → k ≠ x → y_I h 1570 k = nI r → (k < x → a k + g ≤ p) ∧ (x < k → p + g ≤ a k)) := fun z k hk => by
        by_cases ek : k = i
        · rw [ek]; exact z
        · exact hw k (by omega)
      simp only [w.1, c2, q, e1, hne, x2, x5, e_cl, e_jn, if_true, if_false]
      by_cases hri : y_I h 1570 i = nI r
      · by_cases hix : i = x
        · have q2 : nI i = nI x := by rw [hix]
          simp only [hri, if_pos q2, if_true, nI_1]
          exact IH (i + 1) (by omega) (by omega) (step fun z => absurd hix z)
        · have q2 : ¬ nI i = nI x := by rw [i_eq (by omega)]; exact hix
          by_cases hlt : x ≤ i
          · have q3 : nI x ≤ nI i := nI_le hlt (by omega)
            simp only [hri, q2, q3, x2, x6, pi, hg, xr, cr, if_true, if_false, and_self, i_gap (show p < 1000 ∧ a i < 1000 ∧ g < 1000 by omega)]
            by_cases hz : p + g ≤ a i
            · rw [if_pos hz, nI_1]
              exact IH (i + 1) (by omega) (by omega) (step fun _ _ => ⟨fun z => absurd z (by omega), fun _ => hz⟩)
            · rw [if_neg hz, wp_some]
              exact ⟨rfl, fun z => (by cases z), fun z => absurd ((z i (by omega) hix hri).2 (by omega)) hz⟩
          · have q3 : ¬ nI x ≤ nI i := nI_ge (by omega) (by omega)
            simp only [hri, q2, q3, x2, x6, pi, hg, xr, cr, if_true, if_false, and_self, i_gap (show a i < 1000 ∧ p < 1000 ∧ g < 1000 by omega)]
            by_cases hz : a i + g ≤ p
            · rw [if_pos hz, nI_1]
              exact IH (i + 1) (by omega) (by omega) (step fun _ _ => ⟨fun _ => hz, fun z => absurd z (by omega)⟩)
            · rw [if_neg hz, wp_some]
              exact ⟨rfl, fun z => (by cases z), fun z => absurd ((z i (by omega) hix hri).1 (by omega)) hz⟩
      · simp only [hri, if_false, nI_1]
        exact IH (i + 1) (by omega) (by omega) (step fun _ z => absurd z hri)
  · exact IH 0 (by omega) (by unfold y_fu; omega) (fun k hk => absurd hk (by omega))
theorem c_room9 (x p : Int32) : f_X10_hasRoomOnRail 12 (-9) x p h = some (true, h) := by
  have dr : decide ((0 : Int32) ≤ -9 ∧ (-9 : Int32) ≤ 2) = false := by decide
  simp only [f_X10_hasRoomOnRail, c_isWithin, dr, e_cl, Bool.false_eq_true, if_false]
theorem c_takesGap {r g : Nat} {a : Nat → Nat} (w : Sh h) (rC : RC h C) (hg4 : g ≤ 4) (ha : ∀ c, c < C → a c ≤ 9 ∧ y_I h 1634 c = nI (a c)) : wp (f_X10_takesGap 12 (nI r) (nI g) h) fun b h' => h' = h ∧ (b = true ↔ WR h (nI r) a g C) := by
  unfold f_X10_takesGap
  obtain ⟨c1, c2, c3, c4, c5⟩ := id rC
  refine wp_jl (fun m j => ∀ i lst, i ≤ C → C - i < m → ((lst = -10 ∧ ∀ c, c < i → y_I h 1570 c ≠ nI r) ∨ ∃ c0, c0 < i ∧ lst = nI (a c0) ∧ y_I h 1570 c0 = nI r ∧ ∀ c, c0 < c → c < i → y_I h 1570 c ≠ nI r) → WR h (nI r) a g i → wp (j 12 (nI r) (nI g) lst (nI i) h) fun b h' => h' = h ∧ (b = true ↔ WR h (nI r) a g C)) (fun i _ _ hm => absurd hm (by omega)) (fun m j IH i lst hi hm hl hw => ?_) (fun j IH => ?_)
  · by_cases hiC : i = C
    · subst hiC
      have q : nI i ≤ nI i := nI_le (Nat.le_refl _) (by omega)
      simp only [w.1, c2, q, if_true, wp_some]
      exact ⟨trivial, fun _ => hw, fun _ => trivial⟩
    · have q : ¬ nI C ≤ nI i := nI_ge (by omega) (by omega)
      obtain ⟨ai, pi⟩ := ha i (by omega)
      obtain ⟨⟨x1, x2, x3, x4, x5, x6, x7, x8, x9, x10⟩, -⟩ := c4 i (by omega)
      have e1 : f_X10_craneAt 12 (nI i) h = some (64 * i + 21, h) := by
        rcases c_craneAt w rC (nI i) with ⟨n, hn, en, z, -⟩ | ⟨z, -⟩
        · rw [i_eq (by omega)] at en
          subst en
          exact z
        · exact absurd rfl (z i (by omega))
      have hne : ¬ 64 * i + 21 = 0 := by omega
      simp only [w.1, c2, q, e1, hne, x2, x5, e_cl, e_jn, if_true, if_false]
      by_cases hri : y_I h 1570 i = nI r
      · have hl2 : (∃ c0, c0 < i + 1 ∧ nI (a i) = nI (a c0) ∧ y_I h 1570 c0 = nI r ∧ ∀ c, c0 < c → c < i + 1 → y_I h 1570 c ≠ nI r) := ⟨i, by omega, rfl, hri, fun c h1 h2 => absurd h1 (by omega)⟩
        rcases hl with ⟨rfl, hl⟩ | ⟨c0, hc0, rfl, hrc, hl⟩
        · simp only [hri, x2, x6, pi, i_gap10 (show a i < 900 ∧ g ≤ 4 by omega), if_true, nI_1]
          refine IH (i + 1) _ (by omega) (by omega) (Or.inr hl2) (fun c d h1 h2 h3 h4 => ?_)
          by_cases ed : d = i
          · subst ed
            exact absurd h3 (hl c h1)
          · exact hw c d h1 (by omega) h3 h4
        · obtain ⟨ac, pc⟩ := ha c0 (by omega)
          simp only [hri, x2, x6, pi, i_gap (show a c0 < 1000 ∧ a i < 1000 ∧ g < 1000 by omega), if_true]
          by_cases hz : a c0 + g ≤ a i
          · rw [if_pos hz, nI_1]
            refine IH (i + 1) _ (by omega) (by omega) (Or.inr hl2) (fun c d h1 h2 h3 h4 => ?_)
            by_cases ed : d = i
            · subst ed
              by_cases ec : c = c0
              · rw [ec]
                omega
              · by_cases hcc : c < c0
                · have := hw c c0 hcc hc0 h3 hrc
                  omega
                · exact absurd h3 (hl c (by omega) h1)
            · exact hw c d h1 (by omega) h3 h4
          · rw [if_neg hz, wp_some]
            exact ⟨rfl, fun z => (by cases z), fun z => absurd (z c0 i hc0 (by omega) hrc hri) hz⟩
      · simp only [hri, if_false, nI_1]
        refine IH (i + 1) _ (by omega) (by omega) ?_ (fun c d h1 h2 h3 h4 => ?_)
        · rcases hl with ⟨rfl, hl⟩ | ⟨c0, hc0, rfl, hrc, hl⟩
          · refine Or.inl ⟨rfl, fun c hc => ?_⟩
            by_cases ec : c = i
            · rw [ec]
              exact hri
            · exact hl c (by omega)
          · refine Or.inr ⟨c0, by omega, rfl, hrc, fun c h1 h2 => ?_⟩
            by_cases ec : c = i
            · rw [ec]
              exact hri
            · exact hl c h1 (by omega)
        · by_cases ed : d = i
          · subst ed
            exact absurd h4 hri
          · exact hw c d h1 (by omega) h3 h4
  · exact IH 0 _ (by omega) (by unfold y_fu; omega) (Or.inl ⟨rfl, fun c hc => absurd hc (by omega)⟩) (fun c d _ h2 => absurd h2 (by omega))
end RA
