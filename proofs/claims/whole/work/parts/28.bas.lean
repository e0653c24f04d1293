/-! B: how the decompiled methods are read. Heaps: what a write leaves -/
section HB
variable (h : y_H) (n k a b : Nat) (x : Int32) (y : Bool) (z : Int64) (p : Nat)
theorem e_KI : y_K (s_I h n k x) = y_K h := of_eq_true (eq_self _)
theorem e_NI : y_N (s_I h n k x) = y_N h := of_eq_true (eq_self _)
theorem e_BI : y_B (s_I h n k x) = y_B h := of_eq_true (eq_self _)
theorem e_LI : y_L (s_I h n k x) = y_L h := of_eq_true (eq_self _)
theorem e_PI : y_P (s_I h n k x) = y_P h := of_eq_true (eq_self _)
theorem e_KB : y_K (s_B h n k y) = y_K h := of_eq_true (eq_self _)
theorem e_NB : y_N (s_B h n k y) = y_N h := of_eq_true (eq_self _)
theorem e_IB : y_I (s_B h n k y) = y_I h := of_eq_true (eq_self _)
theorem e_LB : y_L (s_B h n k y) = y_L h := of_eq_true (eq_self _)
theorem e_PB : y_P (s_B h n k y) = y_P h := of_eq_true (eq_self _)
theorem e_KL : y_K (s_L h n k z) = y_K h := of_eq_true (eq_self _)
theorem e_NL : y_N (s_L h n k z) = y_N h := of_eq_true (eq_self _)
theorem e_IL : y_I (s_L h n k z) = y_I h := of_eq_true (eq_self _)
theorem e_BL : y_B (s_L h n k z) = y_B h := of_eq_true (eq_self _)
theorem e_PL : y_P (s_L h n k z) = y_P h := of_eq_true (eq_self _)
theorem e_KP : y_K (s_P h n k p) = y_K h := of_eq_true (eq_self _)
theorem e_NP : y_N (s_P h n k p) = y_N h := of_eq_true (eq_self _)
theorem e_IP : y_I (s_P h n k p) = y_I h := of_eq_true (eq_self _)
theorem e_BP : y_B (s_P h n k p) = y_B h := of_eq_true (eq_self _)
theorem e_LP : y_L (s_P h n k p) = y_L h := of_eq_true (eq_self _)
theorem e_II : y_I (s_I h n k x) a b = if a = n ∧ b = k then x else y_I h a b := rfl
theorem e_BB : y_B (s_B h n k y) a b = if a = n ∧ b = k then y else y_B h a b := rfl
theorem e_LL : y_L (s_L h n k z) a b = if a = n ∧ b = k then z else y_L h a b := rfl
theorem e_PP : y_P (s_P h n k p) a b = if a = n ∧ b = k then p else y_P h a b := rfl
end HB
theorem e_IIn {h : y_H} {n k a : Nat} {x : Int32} (q : a ≠ n) : y_I (s_I h n k x) a = y_I h a := funext fun b => if_neg fun e => q e.1
theorem e_BBn {h : y_H} {n k a : Nat} {x : Bool} (q : a ≠ n) : y_B (s_B h n k x) a = y_B h a := funext fun b => if_neg fun e => q e.1
theorem e_LLn {h : y_H} {n k a : Nat} {x : Int64} (q : a ≠ n) : y_L (s_L h n k x) a = y_L h a := funext fun b => if_neg fun e => q e.1
theorem e_PPn {h : y_H} {n k a : Nat} {x : Nat} (q : a ≠ n) : y_P (s_P h n k x) a = y_P h a := funext fun b => if_neg fun e => q e.1
theorem e_IIk {h : y_H} {n k a b : Nat} {x : Int32} (q : b ≠ k) : y_I (s_I h n k x) a b = y_I h a b := if_neg fun e => q e.2
theorem e_BBk {h : y_H} {n k a b : Nat} {x : Bool} (q : b ≠ k) : y_B (s_B h n k x) a b = y_B h a b := if_neg fun e => q e.2
theorem e_LLk {h : y_H} {n k a b : Nat} {x : Int64} (q : b ≠ k) : y_L (s_L h n k x) a b = y_L h a b := if_neg fun e => q e.2
theorem e_PPk {h : y_H} {n k a b : Nat} {x : Nat} (q : b ≠ k) : y_P (s_P h n k x) a b = y_P h a b := if_neg fun e => q e.2
theorem e_IIs {h : y_H} {n k : Nat} {x : Int32} : y_I (s_I h n k x) n k = x := if_pos ⟨rfl, rfl⟩
theorem e_BBs {h : y_H} {n k : Nat} {x : Bool} : y_B (s_B h n k x) n k = x := if_pos ⟨rfl, rfl⟩
theorem e_LLs {h : y_H} {n k : Nat} {x : Int64} : y_L (s_L h n k x) n k = x := if_pos ⟨rfl, rfl⟩
theorem e_PPs {h : y_H} {n k : Nat} {x : Nat} : y_P (s_P h n k x) n k = x := if_pos ⟨rfl, rfl⟩
/-- a row with one place changed -/
def upI {α : Type} (f : Nat → α) (k : Nat) (x : α) : Nat → α := fun b => if b = k then x else f b
theorem e_IIf {h : y_H} {n k : Nat} {x : Int32} : y_I (s_I h n k x) n = upI (y_I h n) k x := by
  funext b
  show (if n = n ∧ b = k then x else _) = (if b = k then x else _)
  by_cases e : b = k
  · rw [if_pos ⟨rfl, e⟩, if_pos e]
  · rw [if_neg (fun q => e q.2), if_neg e]
theorem e_BBf {h : y_H} {n k : Nat} {x : Bool} : y_B (s_B h n k x) n = upI (y_B h n) k x := by
  funext b
  show (if n = n ∧ b = k then x else _) = (if b = k then x else _)
  by_cases e : b = k
  · rw [if_pos ⟨rfl, e⟩, if_pos e]
  · rw [if_neg (fun q => e q.2), if_neg e]
theorem e_PPf {h : y_H} {n k : Nat} {x : Nat} : y_P (s_P h n k x) n = upI (y_P h n) k x := by
  funext b
  show (if n = n ∧ b = k then x else _) = (if b = k then x else _)
  by_cases e : b = k
  · rw [if_pos ⟨rfl, e⟩, if_pos e]
  · rw [if_neg (fun q => e q.2), if_neg e]
theorem upI_s {α : Type} (f : Nat → α) (k : Nat) (x : α) : upI f k x k = x := if_pos rfl
theorem upI_n {α : Type} {f : Nat → α} {k b : Nat} {x : α} (q : b ≠ k) : upI f k x b = f b := if_neg q
theorem e_Ks {h : y_H} {n kd len : Nat} : y_K (s_new h n kd len) n = kd := if_pos rfl
theorem e_Ns {h : y_H} {n kd len : Nat} : y_N (s_new h n kd len) n = len := if_pos rfl
theorem e_Is {h : y_H} {n kd len : Nat} : y_I (s_new h n kd len) n = fun _ => 0 := if_pos rfl
theorem e_Bs {h : y_H} {n kd len : Nat} : y_B (s_new h n kd len) n = fun _ => false := if_pos rfl
theorem e_Ls {h : y_H} {n kd len : Nat} : y_L (s_new h n kd len) n = fun _ => 0 := if_pos rfl
theorem e_Ps {h : y_H} {n kd len : Nat} : y_P (s_new h n kd len) n = fun _ => 0 := if_pos rfl
theorem e_Kn {h : y_H} {n kd len a : Nat} (q : a ≠ n) : y_K (s_new h n kd len) a = y_K h a := if_neg q
theorem e_Nn {h : y_H} {n kd len a : Nat} (q : a ≠ n) : y_N (s_new h n kd len) a = y_N h a := if_neg q
theorem e_In {h : y_H} {n kd len a : Nat} (q : a ≠ n) : y_I (s_new h n kd len) a = y_I h a := if_neg q
theorem e_Bn {h : y_H} {n kd len a : Nat} (q : a ≠ n) : y_B (s_new h n kd len) a = y_B h a := if_neg q
theorem e_Ln {h : y_H} {n kd len a : Nat} (q : a ≠ n) : y_L (s_new h n kd len) a = y_L h a := if_neg q
theorem e_Pn {h : y_H} {n kd len a : Nat} (q : a ≠ n) : y_P (s_new h n kd len) a = y_P h a := if_neg q
theorem e_bd {α β : Type} (a : α) (f : α → β) : y_bd a f = f a := of_eq_true (eq_self _)
theorem e_jn {α β : Type} (j : α) (f : α → β) : y_jn j f = f j := of_eq_true (eq_self _)
theorem e_cl {α β : Type} (a : α) (h : y_H) (f : α → y_H → Option β) : y_cl (some (a, h)) f = f a h := of_eq_true (eq_self _)
theorem e_ite {α : Type} {c : Prop} [Decidable c] (a b : α) (h : y_H) : (if c then some (a, h) else some (b, h)) = some (if c then a else b, h) := by split <;> rfl
theorem cl_of {α β : Type} {o : Option (α × y_H)} {a : α} {h : y_H} (e : o = some (a, h)) (k : α → y_H → Option β) : y_cl o k = k a h := by rw [e]; rfl
/-! a walk, step by step -/
section EV
variable {α β : Type} {X : Option β}
theorem ev_g {c : Prop} [Decidable c] {F : Option β} (hc : c) (k : F = X) : (if c then F else none) = X := by rw [if_pos hc]; exact k
theorem ev_t {c : Prop} [Decidable c] {F G : Option β} (hc : c) (k : F = X) : (if c then F else G) = X := by rw [if_pos hc]; exact k
theorem ev_f {c : Prop} [Decidable c] {F G : Option β} (hc : ¬ c) (k : G = X) : (if c then F else G) = X := by rw [if_neg hc]; exact k
theorem ev_jn {j : α} {f : α → Option β} (k : f j = X) : y_jn j f = X := k
theorem ev_bd {a a' : α} {f : α → Option β} (e : a = a') (k : f a' = X) : y_bd a f = X := by subst e; exact k
theorem ev_cl {o : Option (α × y_H)} {a : α} {h : y_H} {f : α → y_H → Option β} (e : o = some (a, h)) (k : f a h = X) : y_cl o f = X := by rw [e]; exact k
theorem ev_s {α : Type} {r r' : α} {h h' : y_H} (e1 : r = r') (e2 : h = h') : some (r, h) = some (r', h') := by subst e1 e2; rfl
theorem ev_I {h h' : y_H} {n n' k k' : Nat} {x x' : Int32} (e0 : h = h') (e1 : n = n') (e2 : k = k') (e3 : x = x') : s_I h n k x = s_I h' n' k' x' := by subst e0 e1 e2 e3; rfl
end EV
/-- a walk that ends, and what is true there -/
def wp {α : Type} (o : Option (α × y_H)) (Q : α → y_H → Prop) : Prop := ∃ r h, o = some (r, h) ∧ Q r h
theorem wp_some {α : Type} {r : α} {h : y_H} {Q : α → y_H → Prop} : wp (some (r, h)) Q ↔ Q r h := by
  constructor
  · rintro ⟨r', h', e, q⟩
    cases e
    exact q
  · exact fun q => ⟨r, h, rfl, q⟩
theorem wp_mono {α : Type} {o : Option (α × y_H)} {Q Q' : α → y_H → Prop} (w : wp o Q) (k : ∀ r h, Q r h → Q' r h) : wp o Q' := by
  obtain ⟨r, h, e, q⟩ := w
  exact ⟨r, h, e, k r h q⟩
theorem wp_cl {α β : Type} {o : Option (α × y_H)} {f : α → y_H → Option (β × y_H)} {Q : β → y_H → Prop} (w : wp o fun r h => wp (f r h) Q) : wp (y_cl o f) Q := by
  obtain ⟨r, h, rfl, q⟩ := w
  exact q
theorem wp_call {α β : Type} {o : Option (α × y_H)} {f : α → y_H → Option (β × y_H)} {Q : β → y_H → Prop} {P : α → y_H → Prop} (w : wp o P) (k : ∀ r h, P r h → wp (f r h) Q) : wp (y_cl o f) Q := wp_cl (wp_mono w k)
theorem wp_g {α : Type} {c : Prop} [Decidable c] {o : Option (α × y_H)} {Q : α → y_H → Prop} (hc : c) (w : wp o Q) : wp (if c then o else none) Q := by rw [if_pos hc]; exact w
theorem wp_ite {α : Type} {c : Prop} [Decidable c] {o1 o2 : Option (α × y_H)} {Q : α → y_H → Prop} (w1 : c → wp o1 Q) (w2 : ¬ c → wp o2 Q) : wp (if c then o1 else o2) Q := by
  by_cases hc : c
  · rw [if_pos hc]; exact w1 hc
  · rw [if_neg hc]; exact w2 hc
theorem wp_pos {α : Type} {c : Prop} [Decidable c] {o1 o2 : Option (α × y_H)} {Q : α → y_H → Prop} (hc : c) (w1 : wp o1 Q) : wp (if c then o1 else o2) Q := by rw [if_pos hc]; exact w1
theorem wp_neg {α : Type} {c : Prop} [Decidable c] {o1 o2 : Option (α × y_H)} {Q : α → y_H → Prop} (hc : ¬ c) (w2 : wp o2 Q) : wp (if c then o1 else o2) Q := by rw [if_neg hc]; exact w2
theorem wp_bd {α β : Type} {a : α} {f : α → Option (β × y_H)} {Q : β → y_H → Prop} (w : wp (f a) Q) : wp (y_bd a f) Q := w
theorem wp_jn {α β : Type} {j : α} {f : α → Option (β × y_H)} {Q : β → y_H → Prop} (w : wp (f j) Q) : wp (y_jn j f) Q := w
theorem y_lpN {α : Type} {bot : α} {body : α → α} (P : Nat → α → Prop) (h0 : P 0 bot) (hs : ∀ m j, P m j → P (m + 1) (body j)) : ∀ n, P n (y_lp bot body n)
  | 0 => h0
  | n + 1 => hs n _ (y_lpN P h0 hs n)
/-- a loop: P m j says what j does where less than m turns are left -/
theorem wp_jl {α β : Type} {bot : α} {body : α → α} {f : α → Option (β × y_H)} {Q : β → y_H → Prop} (P : Nat → α → Prop) (h0 : P 0 bot) (hs : ∀ m j, P m j → P (m + 1) (body j)) (k : ∀ j, P y_fu j → wp (f j) Q) : wp (y_jl bot body f) Q := k _ (y_lpN P h0 hs y_fu)
theorem wp_ex {α : Type} {o : Option (α × y_H)} {Q : α → y_H → Prop} (w : wp o Q) : ∃ r h, o = some (r, h) ∧ Q r h := w
/-! numbers -/
theorem i_ix {i : Nat} {n : Nat} (hi : i < n) (hn : n < 2 ^ 31) : y_ix (nI i) n = true := decide_eq_true (nI_in hi hn)
theorem i_ix2 {x : Int32} {n : Nat} (h0 : 0 ≤ x) (h : x.toNatClampNeg < n) : y_ix x n = true := decide_eq_true (fun q => q.elim (fun a => absurd (Int32.lt_of_lt_of_le a h0) (Int32.lt_irrefl)) (fun a => by omega))
