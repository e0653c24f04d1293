/-! the law, over every script -/
section LWC
variable {h : y_H} {L q c s : Nat} {xs : Nat → Int32}
def h_init (L : Nat) (xs : Nat → Int32) : y_H := (fun n => if n = 1 then 200 else if n = 2 then 200 else 0, fun n => if n = 1 then L else if n = 2 then 5 else 0, fun n k => if n = 1 then xs k else if n = 2 then h_sl k else 0, fun _ _ => false, fun _ _ => 0, fun _ _ => 0)
/-- what is left to show: the decompiled law, over every script -/
def PureLaw : Prop := ∀ (L : Nat) (xs : Nat → Int32), L ≤ 3072 → ∃ (cz sz : Nat) (hz : y_H), f_L_law 1 0 0 (h_init L xs) = some ((true, cz, sz), hz) ∧ cz ≤ 600000 ∧ sz ≤ 7302249
theorem law_loop (hL : L ≤ 3072) : ∀ m q c s h, L ≤ 6 * q + 5 + 6 * m → 6 * q ≤ L + 5 → LI L xs q c s h → ∃ cz sz hz, y_lp (fun (_ : Nat) (_ : Nat) (_ : Nat) (_ : Int32) (_ : Nat) (_ : Nat) (_ : y_H) => (none : Option ((Bool × Nat × Nat) × y_H))) lBd (m + 1) 1 10 11 (nI (6 * q)) c s h = some ((true, cz, sz), hz) ∧ cz ≤ 600000 ∧ sz ≤ 7302249 := by
  have stop : ∀ j q c s h, L ≤ 6 * q + 5 → 6 * q ≤ L + 5 → LI L xs q c s h → ∃ cz sz hz, lBd j 1 10 11 (nI (6 * q)) c s h = some ((true, cz, sz), hz) ∧ cz ≤ 600000 ∧ sz ≤ 7302249 := fun j q c s h hq hq2 I => by
    obtain ⟨e, R, S, bc, bs⟩ := I
    have el := R.e_le
    refine ⟨c, s, h, ?_, by omega, by omega⟩
    have lt : nI L - 6 < nI (6 * q) := by
      by_cases h6 : 6 ≤ L
      · rw [show (6 : Int32) = nI 6 from rfl, i_sub h6, i_lt (by omega)]
        omega
      · have hneg : nI L - 6 < 0 := by
          rcases (show L = 0 ∨ L = 1 ∨ L = 2 ∨ L = 3 ∨ L = 4 ∨ L = 5 by omega) with z | z | z | z | z | z <;> rw [z] <;> decide
        exact Int32.lt_of_lt_of_le hneg (by rw [show (0 : Int32) = nI 0 from rfl, i_le (by omega)]; omega)
    unfold lBd
    rw [if_pos S.1, S.2.1, if_pos lt]
  intro m
  induction m with
  | zero => exact fun q c s h hm hq I => stop _ q c s h (by omega) hq I
  | succ m ih =>
    intro q c s h hm hq I
    by_cases hs : L ≤ 6 * q + 5
    · exact stop _ q c s h hs hq I
    · have z : wp (lBd (y_lp (fun (_ : Nat) (_ : Nat) (_ : Nat) (_ : Int32) (_ : Nat) (_ : Nat) (_ : y_H) => (none : Option ((Bool × Nat × Nat) × y_H))) lBd (m + 1)) 1 10 11 (nI (6 * q)) c s h) fun r _ => r.1 = true ∧ r.2.1 ≤ 600000 ∧ r.2.2 ≤ 7302249 := by
        refine law_step (xs := xs) (by omega) hL I (fun c s h I2 => ?_)
        obtain ⟨cz, sz, hz, ez, b1, b2⟩ := ih (q + 1) c s h (by omega) (by omega) I2
        rw [show nI (6 * q) + 6 = nI (6 * (q + 1)) by rw [show (6 : Int32) = nI 6 from rfl, i_add, show 6 * q + 6 = 6 * (q + 1) by omega], ez]
        exact wp_some.mpr ⟨rfl, b1, b2⟩
      obtain ⟨⟨r, cz, sz⟩, hz, ez, z1, z2, z3⟩ := z
      have z1' : r = true := z1
      rw [z1'] at ez
      exact ⟨cz, sz, hz, ez, z2, z3⟩
theorem pure_law : PureLaw := fun L xs hL => by
  obtain ⟨h3, e3⟩ : ∃ h3, h3 = s_new (h_init L xs) 10 12 7 := ⟨_, rfl⟩
  have k10 : y_K h3 10 = 12 := by rw [e3, e_Ks]
  have Z : ∀ a, 11 ≤ a → y_K h3 a = 0 := fun a ha => by
    rw [e3, e_Kn (by omega)]
    show (if a = 1 then 200 else if a = 2 then 200 else 0) = 0
    rw [if_neg (by omega), if_neg (by omega)]
  obtain ⟨c1, s1, i11, b1, b2⟩ := c_i11 (c0 := 0 + 1) (s0 := 0 + 7) k10 Z
  obtain ⟨hf, eb, R, lo⟩ := start_rel k10 Z
  have g4 := hIX_ag h3
  have Z9 : ∀ a, a % 64 = 34 → y_K (s_new (hIX h3) 11 13 95) a = 0 := fun a ha => by
    rw [e_Kn (by omega), g4.K (by omega)]
    exact Z a (by omega)
  have z11 : y_K (hIX h3) 11 = 0 := by rw [g4.K (by omega)]; exact Z 11 (by omega)
  obtain ⟨c2, s2, i12, b3, b4⟩ := c_i12 (c0 := c1 + 1) (s0 := s1 + 95) e_Ks Z9 eb
  have kz : y_K (h_init L xs) 10 = 0 := rfl
  have S : scr L xs hf := by
    obtain ⟨l1, l2, l3⟩ := lo 1 (by omega)
    obtain ⟨l4, l5, l6⟩ := lo 2 (by omega)
    rw [e3, e_Kn (by omega)] at l1 l4
    rw [e3, e_Nn (by omega)] at l2 l5
    rw [e3, e_In (by omega)] at l3 l6
    exact ⟨l1, l2, l3, l4, l5, l6⟩
  obtain ⟨cz, sz, hz, ez, bz1, bz2⟩ := law_loop (xs := xs) hL 3999999 0 c2 s2 hf (by omega) (by omega) ⟨0, R, S, by omega, by omega⟩
  refine ⟨cz, sz, hz, ?_, bz1, bz2⟩
  unfold f_L_law
  rw [if_pos ⟨by decide, kz⟩, e_bd, ← e3, if_pos k10, i11, e_cl, if_pos ⟨by decide, z11⟩, e_bd, if_pos e_Ks, i12, e_cl]
  exact ez
end LWC
