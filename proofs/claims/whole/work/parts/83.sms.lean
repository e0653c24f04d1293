/-! sums under a bijection -/
section SMS
def sm (f : Nat → Int32) : Nat → Int32
  | 0 => 0
  | k + 1 => sm f k + f k
theorem sm_congr {f g : Nat → Int32} : ∀ n, (∀ i, i < n → f i = g i) → sm f n = sm g n
  | 0, _ => rfl
  | n + 1, q => by
    show sm f n + f n = sm g n + g n
    rw [sm_congr n (fun i hi => q i (by omega)), q n (by omega)]
theorem sm_z : ∀ n, sm (fun _ => 0) n = 0
  | 0 => rfl
  | n + 1 => by
    show sm (fun _ => 0) n + 0 = 0
    rw [sm_z n, Int32.add_zero]
theorem sm_add (f g : Nat → Int32) : ∀ n, sm (fun i => f i + g i) n = sm f n + sm g n
  | 0 => rfl
  | n + 1 => by
    show sm (fun i => f i + g i) n + (f n + g n) = sm f n + f n + (sm g n + g n)
    rw [sm_add f g n, Int32.add_assoc, Int32.add_assoc, ← Int32.add_assoc (sm g n), Int32.add_comm (sm g n) (f n), Int32.add_assoc (f n)]
theorem sm_swap (F : Nat → Nat → Int32) (m : Nat) : ∀ n, sm (fun i => sm (F i) m) n = sm (fun j => sm (fun i => F i j) n) m
  | 0 => (sm_z m).symm
  | n + 1 => by
    show sm (fun i => sm (F i) m) n + sm (F n) m = sm (fun j => sm (fun i => F i j) n + F n j) m
    rw [sm_swap F m n, sm_add]
theorem sm_one {c : Int32} {a : Nat} : ∀ m, sm (fun j => if j = a then c else 0) m = if a < m then c else 0
  | 0 => by rw [if_neg (by omega)]; rfl
  | m + 1 => by
    show sm (fun j => if j = a then c else 0) m + (if m = a then c else 0) = _
    rw [sm_one m]
    by_cases e : m = a
    · rw [if_neg (by omega), if_pos e, if_pos (by omega), Int32.zero_add]
    · rw [if_neg e, Int32.add_zero]
      by_cases q : a < m
      · rw [if_pos q, if_pos (by omega)]
      · rw [if_neg q, if_neg (by omega)]
theorem sm_bij {N K : Nat} {P Q : Nat → Prop} [DecidablePred P] [DecidablePred Q] {φ ψ : Nat → Nat} {w : Nat → Int32} (h1 : ∀ n, n < N → P n → φ n < K ∧ Q (φ n) ∧ ψ (φ n) = n) (h2 : ∀ k, k < K → Q k → ψ k < N ∧ P (ψ k) ∧ φ (ψ k) = k) : sm (fun n => if P n then w n else 0) N = sm (fun k => if Q k then w (ψ k) else 0) K := by
  have a : sm (fun n => if P n then w n else 0) N = sm (fun n => sm (fun k => if P n ∧ φ n = k then w n else 0) K) N := sm_congr N fun n hn => by
    by_cases p : P n
    · rw [if_pos p]
      have : sm (fun k => if P n ∧ φ n = k then w n else 0) K = sm (fun k => if k = φ n then w n else 0) K := sm_congr K fun k _ => by
        by_cases e : k = φ n
        · rw [if_pos ⟨p, e.symm⟩, if_pos e]
        · rw [if_neg (fun z => e z.2.symm), if_neg e]
      rw [this, sm_one, if_pos (h1 n hn p).1]
    · rw [if_neg p]
      have : sm (fun k => if P n ∧ φ n = k then w n else 0) K = sm (fun _ => 0) K := sm_congr K fun k _ => if_neg fun z => p z.1
      rw [this, sm_z]
  have b : sm (fun k => if Q k then w (ψ k) else 0) K = sm (fun k => sm (fun n => if P n ∧ φ n = k then w n else 0) N) K := sm_congr K fun k hk => by
    by_cases q : Q k
    · rw [if_pos q]
      obtain ⟨z1, z2, z3⟩ := h2 k hk q
      have : sm (fun n => if P n ∧ φ n = k then w n else 0) N = sm (fun n => if n = ψ k then w (ψ k) else 0) N := sm_congr N fun n hn => by
        by_cases e : n = ψ k
        · subst e
          rw [if_pos ⟨z2, z3⟩, if_pos rfl]
        · rw [if_neg (fun z => e (by have := (h1 n hn z.1).2.2; rw [z.2] at this; exact this.symm)), if_neg e]
      rw [this, sm_one, if_pos z1]
    · rw [if_neg q]
      have : sm (fun n => if P n ∧ φ n = k then w n else 0) N = sm (fun _ => 0) N := sm_congr N fun n hn => if_neg fun z => q (by have := (h1 n hn z.1).2.1; rw [z.2] at this; exact this)
      rw [this, sm_z]
  rw [a, b]
  exact sm_swap (fun n k => if P n ∧ φ n = k then w n else 0) K N
end SMS
