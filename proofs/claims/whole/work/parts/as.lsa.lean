/-! least: searches by breadth. A row of moves (each below 64) is a number: nothing 0, one move more 64 e + m + 1; the order by length and then by the first that differs is the order of these numbers -/
section LSA
variable {σ : Type} {step : σ → Nat → Option σ} {p : Nat → σ → Prop} {s0 : σ}
def Rn (step : σ → Nat → Option σ) (s0 : σ) (e : Nat) (s : σ) : Prop := ∀ P : Nat → σ → Prop, P 0 s0 → (∀ e m s t, P e s → m < 64 → step s m = some t → P (64 * e + m + 1) t) → P e s
theorem Rn.nil : Rn step s0 0 s0 := fun _ a _ => a
theorem Rn.cons {e m : Nat} {s t : σ} (r : Rn step s0 e s) (hm : m < 64) (q : step s m = some t) : Rn step s0 (64 * e + m + 1) t := fun P a b => b e m s t (r P a b) hm q
theorem Rn.ind {P : Nat → σ → Prop} (a : P 0 s0) (b : ∀ e m s t, Rn step s0 e s → P e s → m < 64 → step s m = some t → P (64 * e + m + 1) t) {e : Nat} {s : σ} (r : Rn step s0 e s) : P e s :=
  (r (fun e s => Rn step s0 e s ∧ P e s) ⟨Rn.nil, a⟩ (fun e m s t q hm w => ⟨Rn.cons q.1 hm w, b e m s t q.1 q.2 hm w⟩)).2
theorem Rn.inv {e : Nat} {s : σ} (r : Rn step s0 e s) : (e = 0 ∧ s = s0) ∨ ∃ e1 m1 s1, e = 64 * e1 + m1 + 1 ∧ m1 < 64 ∧ Rn step s0 e1 s1 ∧ step s1 m1 = some s :=
  Rn.ind (P := fun e s => (e = 0 ∧ s = s0) ∨ ∃ e1 m1 s1, e = 64 * e1 + m1 + 1 ∧ m1 < 64 ∧ Rn step s0 e1 s1 ∧ step s1 m1 = some s) (Or.inl ⟨rfl, rfl⟩) (fun e m s t a _ hm w => Or.inr ⟨e, m, s, rfl, hm, a, w⟩) r
theorem Rn.inj {e : Nat} {s s2 : σ} (a : Rn step s0 e s) (b : Rn step s0 e s2) : s = s2 := by
  refine Rn.ind (P := fun e s => ∀ s2, Rn step s0 e s2 → s = s2) (fun s2 b => ?_) (fun e m s t _ ih hm w s2 b => ?_) a s2 b
  · rcases b.inv with ⟨-, z⟩ | ⟨e1, m1, s1, z, -⟩
    · exact z.symm
    · omega
  · rcases b.inv with ⟨z, -⟩ | ⟨e1, m1, s1, z, hm1, r1, w1⟩
    · omega
    · have z1 : e = e1 := by omega
      have z2 : m = m1 := by omega
      rw [← z1] at r1
      rw [ih s1 r1, z2] at w
      exact Option.some.inj (w.symm.trans w1)
/-- rows all of whose ends are kept -/
def Rk (step : σ → Nat → Option σ) (p : Nat → σ → Prop) (s0 : σ) (e : Nat) (s : σ) : Prop := ∀ P : Nat → σ → Prop, P 0 s0 → (∀ e m s t, P e s → m < 64 → step s m = some t → p (64 * e + m + 1) t → P (64 * e + m + 1) t) → P e s
theorem Rk.nil : Rk step p s0 0 s0 := fun _ a _ => a
theorem Rk.cons {e m : Nat} {s t : σ} (r : Rk step p s0 e s) (hm : m < 64) (q : step s m = some t) (w : p (64 * e + m + 1) t) : Rk step p s0 (64 * e + m + 1) t := fun P a b => b e m s t (r P a b) hm q w
theorem Rk.rn {e : Nat} {s : σ} (a : Rk step p s0 e s) : Rn step s0 e s := fun P x z => a P x (fun e m s t q hm w _ => z e m s t q hm w)
/-- a search under way: N states, those below i are spread, of i the moves below j -/
def BI (step : σ → Nat → Option σ) (p : Nat → σ → Prop) (s0 : σ) (N : Nat) (st : Nat → σ) (row : Nat → Nat) (i j : Nat) : Prop := (0 < N ∧ st 0 = s0 ∧ row 0 = 0) ∧ (∀ k, k < N → Rn step s0 (row k) (st k)) ∧ (∀ k l, k < l → l < N → row k < row l ∧ st k ≠ st l) ∧ (∀ k, k < N → k < i → ∀ m t, m < 64 → step (st k) m = some t → p (64 * row k + m + 1) t → ∃ l, l < N ∧ st l = t ∧ row l ≤ 64 * row k + m + 1) ∧ (i < N → ∀ m t, m < j → step (st i) m = some t → p (64 * row i + m + 1) t → ∃ l, l < N ∧ st l = t ∧ row l ≤ 64 * row i + m + 1) ∧ (i < N → ∀ k, k < N → row k < 64 * row i + j + 1)
variable {N i j : Nat} {st : Nat → σ} {row : Nat → Nat}
theorem BI.b0 (B : BI step p s0 N st row i j) : 0 < N ∧ st 0 = s0 ∧ row 0 = 0 := B.1
theorem BI.b1 (B : BI step p s0 N st row i j) : ∀ k, k < N → Rn step s0 (row k) (st k) := B.2.1
theorem BI.b2 (B : BI step p s0 N st row i j) : ∀ k l, k < l → l < N → row k < row l ∧ st k ≠ st l := B.2.2.1
theorem BI.b3 (B : BI step p s0 N st row i j) : ∀ k, k < N → k < i → ∀ m t, m < 64 → step (st k) m = some t → p (64 * row k + m + 1) t → ∃ l, l < N ∧ st l = t ∧ row l ≤ 64 * row k + m + 1 := B.2.2.2.1
theorem BI.b4 (B : BI step p s0 N st row i j) : i < N → ∀ m t, m < j → step (st i) m = some t → p (64 * row i + m + 1) t → ∃ l, l < N ∧ st l = t ∧ row l ≤ 64 * row i + m + 1 := B.2.2.2.2.1
theorem BI.b5 (B : BI step p s0 N st row i j) : i < N → ∀ k, k < N → row k < 64 * row i + j + 1 := B.2.2.2.2.2
theorem BI.start : BI step p s0 1 (fun _ => s0) (fun _ => 0) 0 0 := ⟨⟨by omega, rfl, rfl⟩, fun _ _ => Rn.nil, fun k l q1 q2 => by omega, fun k _ q => by omega, fun _ m t q => by omega, fun _ k hk => by omega⟩
/-- a move that leads to nothing new -/
theorem BI.skip (B : BI step p s0 N st row i j) (hj : ∀ t, i < N → step (st i) j = some t → p (64 * row i + j + 1) t → ∃ l, l < N ∧ st l = t) : BI step p s0 N st row i (j + 1) := by
  refine ⟨B.b0, B.b1, B.b2, B.b3, fun hi m t hm e q => ?_, fun hi k hk => ?_⟩
  · by_cases z : m < j
    · exact B.b4 hi m t z e q
    · have zm : m = j := by omega
      rw [zm] at e q ⊢
      obtain ⟨l, hl, el⟩ := hj t hi e q
      exact ⟨l, hl, el, by have := B.b5 hi l hl; omega⟩
  · have := B.b5 hi k hk
    omega
/-- a move that leads to a state that is new -/
theorem BI.add {t : σ} (B : BI step p s0 N st row i j) (hi : i < N) (hj : j < 64) (e : step (st i) j = some t) (nw : ∀ l, l < N → st l ≠ t) : BI step p s0 (N + 1) (fun k => if k = N then t else st k) (fun k => if k = N then 64 * row i + j + 1 else row k) i (j + 1) := by
  have sk : ∀ k, k < N → (if k = N then t else st k) = st k := fun k hk => if_neg (by omega)
  have rk : ∀ k, k < N → (if k = N then 64 * row i + j + 1 else row k) = row k := fun k hk => if_neg (by omega)
  have sN : (if N = N then t else st N) = t := if_pos rfl
  have rN : (if N = N then 64 * row i + j + 1 else row N) = 64 * row i + j + 1 := if_pos rfl
  have b00 := B.b0.1
  refine ⟨⟨by omega, ?_, ?_⟩, fun k hk => ?_, fun k l hkl hl => ?_, fun k hk hki m t2 hm e2 q => ?_, fun _ m t2 hm e2 q => ?_, fun _ k hk => ?_⟩
  · show (if 0 = N then t else st 0) = s0
    rw [sk 0 b00]; exact B.b0.2.1
  · show (if 0 = N then _ else row 0) = 0
    rw [rk 0 b00]; exact B.b0.2.2
  · show Rn step s0 (if k = N then _ else row k) (if k = N then t else st k)
    by_cases z : k = N
    · rw [if_pos z, if_pos z]
      exact Rn.cons (B.b1 i hi) hj e
    · rw [if_neg z, if_neg z]
      exact B.b1 k (by omega)
  · show (if k = N then _ else row k) < (if l = N then _ else row l) ∧ (if k = N then t else st k) ≠ (if l = N then t else st l)
    rw [sk k (by omega), rk k (by omega)]
    by_cases z : l = N
    · rw [if_pos z, if_pos z]
      exact ⟨B.b5 hi k (by omega), nw k (by omega)⟩
    · rw [if_neg z, if_neg z]
      exact B.b2 k l hkl (by omega)
  · have q0 : k < N := by omega
    try dsimp only at e2 q ⊢
    rw [sk k q0] at e2
    rw [rk k q0] at q ⊢
    obtain ⟨l, hl, z1, z2⟩ := B.b3 k q0 hki m t2 hm e2 q
    exact ⟨l, by omega, by rw [sk l hl]; exact z1, by rw [rk l hl]; exact z2⟩
  · try dsimp only at e2 q ⊢
    rw [sk i hi] at e2
    rw [rk i hi] at q ⊢
    by_cases z : m < j
    · obtain ⟨l, hl, z1, z2⟩ := B.b4 hi m t2 z e2 q
      exact ⟨l, by omega, by rw [sk l hl]; exact z1, by rw [rk l hl]; exact z2⟩
    · have zm : m = j := by omega
      rw [zm] at e2
      have zt := Option.some.inj (e.symm.trans e2)
      exact ⟨N, by omega, by rw [sN]; exact zt, by rw [rN, zm]; omega⟩
  · show (if k = N then _ else row k) < 64 * (if i = N then _ else row i) + (j + 1) + 1
    rw [rk i hi]
    by_cases z : k = N
    · rw [if_pos z]
      omega
    · rw [if_neg z]
      have := B.b5 hi k (by omega)
      omega
/-- a state is spread -/
theorem BI.next (B : BI step p s0 N st row i 64) (hi : i < N) : BI step p s0 N st row (i + 1) 0 := by
  refine ⟨B.b0, B.b1, B.b2, fun k hk hki m t hm e q => ?_, fun _ m t hm => by omega, fun h1 k hk => ?_⟩
  · by_cases z : k < i
    · exact B.b3 k hk z m t hm e q
    · have zk : k = i := by omega
      rw [zk] at e q ⊢
      exact B.b4 hi m t hm e q
  · have z1 := B.b5 hi k hk
    have z2 := (B.b2 i (i + 1) (by omega) h1).1
    omega
/-- every kept row that is less than where the search stands ends in a state that is there, by a row no greater -/
theorem BI.all (B : BI step p s0 N st row i j) (hj : j ≤ 64) (mono : ∀ e e2 t, p e t → e2 ≤ e → p e2 t) {e : Nat} {s : σ} (a : Rk step p s0 e s) : (i < N → e < 64 * row i + j + 1) → (i < N ∨ N ≤ i) → ∃ l, l < N ∧ st l = s ∧ row l ≤ e := by
  refine a (fun e s => (i < N → e < 64 * row i + j + 1) → (i < N ∨ N ≤ i) → ∃ l, l < N ∧ st l = s ∧ row l ≤ e) (fun _ _ => ⟨0, B.b0.1, B.b0.2.1, by rw [B.b0.2.2]; omega⟩) (fun e1 m1 s1 t1 ih hm a2 q lt c => ?_)
  obtain ⟨l, hl, z1, z2⟩ := ih (fun hi => by have := lt hi; omega) c
  rw [← z1] at a2
  have pm := mono _ (64 * row l + m1 + 1) _ q (by omega)
  by_cases hli : l < i
  · obtain ⟨l2, h2, z3, z4⟩ := B.b3 l hl hli _ _ hm a2 pm
    exact ⟨l2, h2, z3, by omega⟩
  · have hi : i < N := by omega
    have l1 := lt hi
    have zl : l = i := by
      by_cases z : l = i
      · exact z
      · have := (B.b2 i l (by omega) hl).1
        omega
    rw [zl] at a2 pm z2
    obtain ⟨l2, h2, z3, z4⟩ := B.b4 hi _ _ (by omega) a2 pm
    exact ⟨l2, h2, z3, by omega⟩
end LSA
