/-! least: the yard's bay as lists, top first; its lifts -/
section LSB
abbrev Cg : Type := Nat → List Nat
def ttC (C : Cg) : Nat := (C 0).length + (C 1).length + (C 2).length + (C 3).length
/-- m stacks of heights H, n boxes at first, W of them wanted; rk: which of these a box is -/
abbrev Sy : Type := Nat × Nat × Nat × (Nat → Nat) × (Nat → Nat)
def Sy.m (y : Sy) : Nat := y.1
def Sy.W (y : Sy) : Nat := y.2.1
def Sy.n (y : Sy) : Nat := y.2.2.1
def Sy.H (y : Sy) : Nat → Nat := y.2.2.2.1
def Sy.rk (y : Sy) : Nat → Nat := y.2.2.2.2
def Sy.out (y : Sy) (C : Cg) : Nat := y.n - ttC C
def Sy.go (y : Sy) (C : Cg) (f g : Nat) : Option Cg :=
  if f < y.m then
    match C f with
    | [] => none
    | d :: l =>
      if g = 0 then (if y.out C < y.W ∧ y.rk d = y.out C then some (upI C f l) else none)
      else if g - 1 < y.m ∧ g - 1 ≠ f ∧ (C (g - 1)).length < y.H (g - 1) then some (upI (upI C f l) (g - 1) (d :: C (g - 1))) else none
  else none
def Sy.step (y : Sy) (C : Cg) (k : Nat) : Option Cg := y.go C (k / 8) (k % 8)
variable {y : Sy} {C D C0 : Cg} {f g k e : Nat}
/-- what a move is -/
theorem Sy.go_some (q : y.go C f g = some D) : f < y.m ∧ ∃ d l, C f = d :: l ∧ ((g = 0 ∧ y.out C < y.W ∧ y.rk d = y.out C ∧ D = upI C f l) ∨ (1 ≤ g ∧ g - 1 < y.m ∧ g - 1 ≠ f ∧ (C (g - 1)).length < y.H (g - 1) ∧ D = upI (upI C f l) (g - 1) (d :: C (g - 1)))) := by
  unfold Sy.go at q
  by_cases hf : f < y.m
  · rw [if_pos hf] at q
    refine ⟨hf, ?_⟩
    cases hc : C f with
    | nil => rw [hc] at q; cases q
    | cons d l =>
      rw [hc] at q
      refine ⟨d, l, rfl, ?_⟩
      dsimp only at q
      by_cases g0 : g = 0
      · rw [if_pos g0] at q
        by_cases c : y.out C < y.W ∧ y.rk d = y.out C
        · rw [if_pos c] at q
          exact Or.inl ⟨g0, c.1, c.2, (Option.some.inj q).symm⟩
        · rw [if_neg c] at q; cases q
      · rw [if_neg g0] at q
        by_cases c : g - 1 < y.m ∧ g - 1 ≠ f ∧ (C (g - 1)).length < y.H (g - 1)
        · rw [if_pos c] at q
          exact Or.inr ⟨by omega, c.1, c.2.1, c.2.2, (Option.some.inj q).symm⟩
        · rw [if_neg c] at q; cases q
  · rw [if_neg hf] at q; cases q
theorem Sy.go_out {d : Nat} {l : List Nat} (hf : f < y.m) (hc : C f = d :: l) (h1 : y.out C < y.W) (h2 : y.rk d = y.out C) : y.go C f 0 = some (upI C f l) := by
  unfold Sy.go
  rw [if_pos hf, hc]
  dsimp only
  rw [if_pos rfl, if_pos ⟨h1, h2⟩]
theorem Sy.go_to {d : Nat} {l : List Nat} (hf : f < y.m) (hc : C f = d :: l) (hg : g < y.m) (ne : g ≠ f) (hh : (C g).length < y.H g) : y.go C f (g + 1) = some (upI (upI C f l) g (d :: C g)) := by
  unfold Sy.go
  rw [if_pos hf, hc]
  dsimp only
  rw [if_neg (by omega), Nat.add_sub_cancel, if_pos ⟨hg, ne, hh⟩]
/-! the same bay with other names for its boxes -/
def mpC (φ : Nat → Nat) (C : Cg) : Cg := fun s => (C s).map φ
theorem mpC_up (φ : Nat → Nat) (l : List Nat) : mpC φ (upI C f l) = upI (mpC φ C) f (l.map φ) := by
  funext s
  unfold mpC upI
  by_cases q : s = f
  · rw [if_pos q, if_pos q]
  · rw [if_neg q, if_neg q]
theorem mpC_ttC (φ : Nat → Nat) : ttC (mpC φ C) = ttC C := by
  unfold ttC mpC
  simp only [List.length_map]
def Sy.as (y : Sy) (rk : Nat → Nat) : Sy := (y.1, y.2.1, y.2.2.1, y.2.2.2.1, rk)
theorem go_mp {φ rk : Nat → Nat} (q : ∀ d o, o < y.W → (y.rk d = o ↔ rk (φ d) = o)) : (y.as rk).go (mpC φ C) f g = (y.go C f g).map (mpC φ) := by
  unfold Sy.go
  have eo : (y.as rk).out (mpC φ C) = y.out C := by
    unfold Sy.out
    rw [mpC_ttC]
    rfl
  show (if f < y.m then _ else _) = _
  by_cases hf : f < y.m
  · rw [if_pos hf, if_pos hf]
    cases hc : C f with
    | nil =>
      have z : mpC φ C f = [] := by unfold mpC; rw [hc]; rfl
      rw [z]
      rfl
    | cons d l =>
      have z : mpC φ C f = φ d :: l.map φ := by unfold mpC; rw [hc]; rfl
      rw [z]
      dsimp only
      by_cases g0 : g = 0
      · rw [if_pos g0, if_pos g0, eo]
        by_cases c : y.out C < y.W ∧ y.rk d = y.out C
        · rw [if_pos ⟨c.1, (q d _ c.1).mp c.2⟩, if_pos c]
          show some _ = some _
          rw [mpC_up]
        · rw [if_neg c, if_neg (fun w => c ⟨w.1, (q d _ w.1).mpr w.2⟩)]
          rfl
      · rw [if_neg g0, if_neg g0]
        have el : (mpC φ C (g - 1)).length = (C (g - 1)).length := by unfold mpC; rw [List.length_map]
        rw [el]
        by_cases c : g - 1 < y.m ∧ g - 1 ≠ f ∧ (C (g - 1)).length < y.H (g - 1)
        · have c' : g - 1 < (y.as rk).m ∧ g - 1 ≠ f ∧ (C (g - 1)).length < (y.as rk).H (g - 1) := c
          rw [if_pos c, if_pos c']
          show some _ = some _
          rw [mpC_up, mpC_up]
          rfl
        · have c' : ¬ (g - 1 < (y.as rk).m ∧ g - 1 ≠ f ∧ (C (g - 1)).length < (y.as rk).H (g - 1)) := c
          rw [if_neg c, if_neg c']
          rfl
  · rw [if_neg hf, if_neg hf]
    rfl
theorem step_mp {φ rk : Nat → Nat} (q : ∀ d o, o < y.W → (y.rk d = o ↔ rk (φ d) = o)) : (y.as rk).step (mpC φ C) k = (y.step C k).map (mpC φ) := go_mp q
theorem Rn.mp {φ rk : Nat → Nat} (q : ∀ d o, o < y.W → (y.rk d = o ↔ rk (φ d) = o)) (a : Rn y.step C0 e C) : Rn (y.as rk).step (mpC φ C0) e (mpC φ C) :=
  a (fun e C => Rn (y.as rk).step (mpC φ C0) e (mpC φ C)) Rn.nil (fun e m s t ih hm a2 => Rn.cons ih hm (by rw [step_mp q, a2]; rfl))
theorem Rn.pm {φ rk : Nat → Nat} (q : ∀ d o, o < y.W → (y.rk d = o ↔ rk (φ d) = o)) (a : Rn (y.as rk).step (mpC φ C0) e D) : ∃ C, Rn y.step C0 e C ∧ D = mpC φ C := by
  refine a (fun e D => ∃ C, Rn y.step C0 e C ∧ D = mpC φ C) ⟨C0, Rn.nil, rfl⟩ (fun e1 m1 s1 t1 ih hm a2 => ?_)
  obtain ⟨C1, r1, e1'⟩ := ih
  rw [e1', step_mp q] at a2
  cases hs : y.step C1 m1 with
  | none => rw [hs] at a2; cases a2
  | some C2 =>
    rw [hs] at a2
    exact ⟨C2, Rn.cons r1 hm hs, (Option.some.inj a2).symm⟩
end LSB
