/-! least: what both searches find -/
section LSH
variable {y : Sy} {C D C0 : Cg} {N i j e b : Nat} {st : Nat → Cg} {row : Nat → Nat} {p : Nat → Cg → Prop}
/-- the first of the shortest rows -/
def MinG (y : Sy) (C0 : Cg) (e : Nat) : Prop := (∃ D, Rn y.step C0 e D ∧ y.out D = y.W) ∧ ∀ e2 D2, Rn y.step C0 e2 D2 → y.out D2 = y.W → e ≤ e2
theorem MinG.one {e2 : Nat} (a : MinG y C0 e) (b : MinG y C0 e2) : e = e2 := by
  obtain ⟨⟨D, a1, a2⟩, a3⟩ := a
  obtain ⟨⟨D2, b1, b2⟩, b3⟩ := b
  have := a3 e2 D2 b1 b2
  have := b3 e D a1 a2
  omega
theorem Rn.tk (a : Rn y.step C0 e C) : Rk y.step (fun _ _ => True) C0 e C := fun P x z => a P x (fun e m s t q hm w => z e m s t q hm w trivial)
/-- the search that spreads all and ends where the next to be spread is an end -/
theorem BI.found (B : BI y.step (fun _ _ => True) C0 N st row i 0) (hi : i < N) (g : y.out (st i) = y.W) (ng : ∀ k, k < i → y.out (st k) ≠ y.W) : MinG y C0 (row i) := by
  refine ⟨⟨st i, B.b1 i hi, g⟩, fun e2 D2 r2 g2 => ?_⟩
  by_cases lt : e2 < row i
  · obtain ⟨l, hl, z1, z2⟩ := B.all (by omega) (fun _ _ _ _ _ => trivial) (Rn.tk r2) (fun _ => by omega) (Or.inl hi)
    have li : l < i := by
      rcases Nat.lt_trichotomy l i with q | q | q
      · exact q
      · rw [q] at z2; omega
      · have := (B.b2 i l q hl).1
        omega
    rw [← z1] at g2
    exact absurd g2 (ng l li)
  · omega
theorem BI.none (B : BI y.step (fun _ _ => True) C0 N st row i j) (hj : j ≤ 64) (hi : N ≤ i) (ng : ∀ k, k < N → y.out (st k) ≠ y.W) : ∀ e2 D2, Rn y.step C0 e2 D2 → y.out D2 ≠ y.W := fun e2 D2 r2 g2 => by
  obtain ⟨l, hl, z1, z2⟩ := B.all hj (fun _ _ _ _ _ => trivial) (Rn.tk r2) (fun h => by omega) (Or.inr hi)
  rw [← z1] at g2
  exact ng l hl g2
/-- with fewer kept, less is asked -/
theorem BI.weak {σ : Type} {step : σ → Nat → Option σ} {p q : Nat → σ → Prop} {s0 : σ} {N i j : Nat} {st : Nat → σ} {row : Nat → Nat} (B : BI step p s0 N st row i j) (h : ∀ e t, q e t → p e t) : BI step q s0 N st row i j := ⟨B.b0, B.b1, B.b2, fun k h1 h2 m t h3 h4 h5 => B.b3 k h1 h2 m t h3 h4 (h _ _ h5), fun h1 m t h2 h3 h4 => B.b4 h1 m t h2 h3 (h _ _ h4), B.b5⟩
/-! with the ranks for names -/
def rkc (d : Nat) : Nat := d - 1
def Sy.cl (y : Sy) : Sy := y.as rkc
def mpd (y : Sy) (C : Cg) : Cg := mpC (dg y) C
theorem dg_q (O : OkS y) : ∀ d o, o < y.W → (y.rk d = o ↔ rkc (dg y d) = o) := fun d o ho => by
  have hW := O.2.1
  unfold rkc dg
  by_cases c : y.rk d < y.W
  · rw [if_pos c]
    omega
  · rw [if_neg c]
    omega
theorem cl_out (C : Cg) : y.cl.out (mpd y C) = y.out C := by
  unfold Sy.out mpd
  rw [mpC_ttC]
  rfl
def lbC (y : Sy) (D : Cg) : Nat := (y.W - y.out D) + s4 (fun s => cn6 (D s))
theorem lbC_mp : lbC y.cl (mpd y C) = lbd y C := by
  unfold lbC lbd
  rw [cl_out]
  rfl
theorem MinG.cl (O : OkS y) (m : MinG y.cl (mpd y C0) e) : MinG y C0 e := by
  obtain ⟨⟨D, m1, m2⟩, m3⟩ := m
  obtain ⟨C, r, rfl⟩ := Rn.pm (dg_q O) m1
  refine ⟨⟨C, r, ?_⟩, fun e2 D2 r2 g2 => m3 e2 (mpd y D2) (Rn.mp (dg_q O) r2) ?_⟩
  · rw [← cl_out C]; exact m2
  · rw [cl_out D2]; exact g2
/-- the search that keeps what may end in time and ends where an end comes up -/
theorem BI.hit (O : OkS y) (r0 : RI y C0) (B : BI y.cl.step (fun e t => lbC y.cl t + ln e ≤ b) (mpd y C0) N st row i j) (hi : i < N) (hj : j < 64) (e : y.cl.step (st i) j = some D) (g : y.cl.out D = y.W) (hb : lbC y.cl D + ln (64 * row i + j + 1) ≤ b) (ng : ∀ k, k < N → y.cl.out (st k) ≠ y.W) : MinG y.cl (mpd y C0) (64 * row i + j + 1) := by
  refine ⟨⟨D, Rn.cons (B.b1 i hi) hj e, g⟩, fun e2 D2 r2 g2 => ?_⟩
  by_cases lt : e2 < 64 * row i + j + 1
  · obtain ⟨C2, r3, ed⟩ := Rn.pm (dg_q O) r2
    have g3 : y.out C2 = y.W := by
      rw [← cl_out C2]
      show y.cl.out (mpC (dg y) C2) = y.W
      rw [← ed]
      exact g2
    have z1 := lbd_end O (r0.rn O r3) g3
    have z2 := ln_mono (show e2 ≤ 64 * row i + j + 1 by omega)
    have kp := kept_of O r0 b r3 (by omega)
    have kp2 : Rk y.cl.step (fun e t => lbC y.cl t + ln e ≤ b) (mpd y C0) e2 (mpd y C2) := kp (fun e C => Rk y.cl.step (fun e t => lbC y.cl t + ln e ≤ b) (mpd y C0) e (mpd y C)) Rk.nil (fun e m s t ih hm w q => Rk.cons ih hm (by
      have : y.cl.step (mpC (dg y) s) m = _ := step_mp (dg_q O)
      show y.cl.step (mpC (dg y) s) m = _
      rw [this, w]
      rfl) (by
      show lbC y.cl (mpd y t) + ln (64 * e + m + 1) ≤ b
      rw [lbC_mp]
      exact q))
    obtain ⟨l, hl, w1, w2⟩ := B.all (by omega) (fun e e2 t q h => by have := ln_mono h; omega) kp2 (fun _ => by omega) (Or.inl hi)
    have := ng l hl
    rw [w1, cl_out] at this
    exact absurd g3 this
  · omega
/-- how far it goes -/
theorem BI.cnt (O : OkS y) (r0 : RI y C0) (B : BI y.step p C0 N st row i j) : N ≤ 65305 := cd_all O (fun k hk => r0.rn O (B.b1 k hk)) (fun k l h1 h2 => (B.b2 k l h1 h2).2)
theorem BI.cntc (O : OkS y) (r0 : RI y C0) (B : BI y.cl.step p (mpd y C0) N st row i j) : N ≤ 65305 := by
  have h : ∀ k, k < N → ∃ C, Rn y.step C0 (row k) C ∧ st k = mpC (dg y) C := fun k hk => Rn.pm (dg_q O) (B.b1 k hk)
  have h2 : ∀ k, ∃ C, k < N → Rn y.step C0 (row k) C ∧ st k = mpC (dg y) C := fun k => by
    by_cases hk : k < N
    · obtain ⟨C, z⟩ := h k hk
      exact ⟨C, fun _ => z⟩
    · exact ⟨C0, fun q => absurd q hk⟩
  obtain ⟨F, hF⟩ := Classical.axiomOfChoice h2
  refine cd_all O (st := F) (fun k hk => r0.rn O (hF k hk).1) (fun k l h1 h3 e => ?_)
  refine (B.b2 k l h1 h3).2 ?_
  rw [(hF k (by omega)).2, (hF l h3).2, e]
/-- the row that is found is short -/
theorem MinG.ln (O : OkS y) (r0 : RI y C0) (m : MinG y C0 e) : ln e ≤ 36 := by
  obtain ⟨⟨D, m1, m2⟩, m3⟩ := m
  obtain ⟨n, D2, ⟨e2, p1, p2⟩, g2, hn⟩ := short O (y.W - y.out C0) C0 r0 (Nat.le_refl _) ⟨e, D, m1, m2⟩
  have z := m3 e2 D2 p1 g2
  have := ln_mono z
  have := O.2.1
  omega
end LSH
