/-! least: a row as it is written down -/
section LSO
variable {E p m : Nat} {F T F2 T2 : Nat → Int32}
def tO (g : Nat) : Int32 := if g = 0 then -9 else nI (g - 1)
def rwF : Nat → Nat → (Nat → Int32) → (Nat → Int32) → Prop
  | 0, _, _, _ => True
  | n + 1, E, F, T => E = 0 ∨ (F (ln ((E - 1) / 64)) = nI ((E - 1) % 64 / 8) ∧ T (ln ((E - 1) / 64)) = tO ((E - 1) % 64 % 8) ∧ rwF n ((E - 1) / 64) F T)
theorem rwF_eq : ∀ n n2 E, E ≤ n → E ≤ n2 → (rwF n E F T ↔ rwF n2 E F T)
  | 0, n2, E, h1, _ => by
    have z : E = 0 := by omega
    subst z
    cases n2 with
    | zero => exact Iff.rfl
    | succ n2 => exact ⟨fun _ => Or.inl rfl, fun _ => trivial⟩
  | n + 1, 0, E, _, h2 => by
    have z : E = 0 := by omega
    subst z
    exact ⟨fun _ => trivial, fun _ => Or.inl rfl⟩
  | n + 1, n2 + 1, E, h1, h2 => by
    by_cases z : E = 0
    · exact ⟨fun _ => Or.inl z, fun _ => Or.inl z⟩
    · have ih := rwF_eq n n2 ((E - 1) / 64) (by omega) (by omega)
      show (E = 0 ∨ _ ∧ _ ∧ rwF n _ F T) ↔ (E = 0 ∨ _ ∧ _ ∧ rwF n2 _ F T)
      rw [ih]
def RW (E : Nat) (F T : Nat → Int32) : Prop := rwF E E F T
theorem RW_0 : RW 0 F T := trivial
theorem RW_s (hm : m < 64) : RW (64 * E + m + 1) F T ↔ F (ln E) = nI (m / 8) ∧ T (ln E) = tO (m % 8) ∧ RW E F T := by
  unfold RW
  show (64 * E + m + 1 = 0 ∨ _) ↔ _
  rw [show (64 * E + m + 1 - 1) / 64 = E by omega, show (64 * E + m + 1 - 1) % 64 = m by omega, rwF_eq (64 * E + m) E E (by omega) (Nat.le_refl _)]
  exact ⟨fun z => z.elim (fun w => by omega) (fun w => w), fun z => Or.inr z⟩
theorem dec64 (h : E ≠ 0) : ∃ E2 m, E = 64 * E2 + m + 1 ∧ m < 64 ∧ E2 < E := ⟨(E - 1) / 64, (E - 1) % 64, by omega, by omega, by omega⟩
theorem RW_eq : ∀ (n E : Nat), E ≤ n → RW E F T → RW E F2 T2 → ∀ p, p < ln E → F p = F2 p ∧ T p = T2 p
  | 0, E, h, _, _ => fun p hp => by
    have z : E = 0 := by omega
    rw [z, ln_0] at hp
    omega
  | n + 1, E, h, a, b => fun p hp => by
    by_cases z : E = 0
    · rw [z, ln_0] at hp
      omega
    · obtain ⟨E2, m, e, hm, lt⟩ := dec64 z
      rw [e] at a b hp
      rw [RW_s hm] at a b
      rw [ln_s hm] at hp
      by_cases q : p = ln E2
      · rw [q]
        exact ⟨a.1.trans b.1.symm, a.2.1.trans b.2.1.symm⟩
      · exact RW_eq n E2 (by omega) a.2.2 b.2.2 p (by omega)
end LSO
