/-! agreement, joined -/
section AT
variable {P P2 : Nat → Nat → Prop} {Q Q2 : Nat → Prop} {h h2 h3 : y_H}
theorem ag.tr (g : ag P Q h h2) (g2 : ag P2 Q2 h2 h3) : ag (fun a k => P a k ∨ P2 a k) (fun a => Q a ∨ Q2 a) h h3 := (g.mono (fun _ _ q => Or.inl q) (fun _ q => Or.inl q)).trans (g2.mono (fun _ _ q => Or.inr q) (fun _ q => Or.inr q))
theorem ag.trR (g : ag P Q h h2) (g2 : ag P2 (fun _ => False) h2 h3) : ag (fun a k => P a k ∨ P2 a k) Q h h3 := (g.mono (fun _ _ q => Or.inl q) (fun _ q => q)).trans (g2.mono (fun _ _ q => Or.inr q) (fun _ q => q.elim))
theorem ag.trL (g : ag P (fun _ => False) h h2) (g2 : ag P2 Q h2 h3) : ag (fun a k => P a k ∨ P2 a k) Q h h3 := (g.mono (fun _ _ q => Or.inl q) (fun _ q => q.elim)).trans (g2.mono (fun _ _ q => Or.inr q) (fun _ q => q))
theorem ag.aI (g : ag P Q h h2) : ∀ a k, ¬ P a k → y_I h2 a k = y_I h a k := fun a k q => (g.2 a k q).1
theorem ag.aB (g : ag P Q h h2) : ∀ a k, ¬ P a k → y_B h2 a k = y_B h a k := fun a k q => (g.2 a k q).2.1
theorem ag.aL (g : ag P Q h h2) : ∀ a k, ¬ P a k → y_L h2 a k = y_L h a k := fun a k q => (g.2 a k q).2.2.1
theorem ag.aP (g : ag P Q h h2) : ∀ a k, ¬ P a k → y_P h2 a k = y_P h a k := fun a k q => (g.2 a k q).2.2.2
theorem ag.aK (g : ag P Q h h2) : ∀ a, ¬ Q a → y_K h2 a = y_K h a := fun a q => (g.1 a q).1
theorem ag.aN (g : ag P Q h h2) : ∀ a, ¬ Q a → y_N h2 a = y_N h a := fun a q => (g.1 a q).2
theorem ag.ar (g : ag P Q h h2) : ∀ a, (∀ k, ¬ P a k) → y_I h2 a = y_I h a := fun a q => g.rI q
end AT
