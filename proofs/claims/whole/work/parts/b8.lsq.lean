/-! least: the bay at first, its boxes named in their order -/
section LSQ
variable {y : Sy} {s t d k n e N i j o b m W : Nat} {F : Nat → Nat} {wn : Nat → Nat} {bv : Nat → Nat → Nat}
def ofs (F : Nat → Nat) : Nat → Nat
  | 0 => 0
  | s + 1 => ofs F s + F s
def lst (o : Nat) : Nat → List Nat
  | 0 => []
  | k + 1 => (o + k + 1) :: lst o k
theorem lst_len (o : Nat) : ∀ k, (lst o k).length = k
  | 0 => rfl
  | k + 1 => by
    show (lst o k).length + 1 = k + 1
    rw [lst_len o k]
theorem lst_mem (o : Nat) : ∀ k x, x ∈ lst o k ↔ o + 1 ≤ x ∧ x ≤ o + k
  | 0, x => by
    constructor
    · intro h; cases h
    · intro h; omega
  | k + 1, x => by
    show x ∈ (o + k + 1) :: lst o k ↔ _
    rw [List.mem_cons, lst_mem o k x]
    omega
theorem lst_perm (o : Nat) : ∀ k, (lst o k).Perm (List.range' (o + 1) k)
  | 0 => List.Perm.refl _
  | k + 1 => by
    show ((o + k + 1) :: lst o k).Perm _
    rw [List.range'_concat, Nat.one_mul, show o + 1 + k = o + k + 1 by omega]
    exact ((lst_perm o k).cons _).trans (List.perm_append_singleton _ _).symm
/-- the bay when s stacks are read, and t of the next -/
def Bc (F : Nat → Nat) (s t : Nat) : Cg := fun u => if u < s then lst (ofs F u) (F u) else if u = s then lst (ofs F s) t else []
theorem Bc_up : upI (Bc F s t) s ((ofs F s + t + 1) :: Bc F s t s) = Bc F s (t + 1) := by
  funext u
  unfold upI Bc
  by_cases q : u = s
  · rw [if_pos q, q, if_neg (by omega), if_pos rfl, if_neg (by omega), if_pos rfl]
    rfl
  · rw [if_neg q, if_neg q, if_neg q]
theorem Bc_nx : Bc F s (F s) = Bc F (s + 1) 0 := by
  funext u
  unfold Bc
  by_cases q : u < s
  · rw [if_pos q, if_pos (by omega)]
  · rw [if_neg q]
    by_cases q2 : u = s
    · rw [if_pos q2, q2, if_pos (by omega)]
    · rw [if_neg q2, if_neg (by omega)]
      by_cases q3 : u = s + 1
      · rw [if_pos q3]
        rfl
      · rw [if_neg q3]
theorem ofs_mono {a b : Nat} (h : a ≤ b) : ofs F a ≤ ofs F b := by
  induction b with
  | zero =>
    have : a = 0 := by omega
    rw [this]
    exact Nat.le_refl _
  | succ b ih =>
    by_cases q : a = b + 1
    · rw [q]
      exact Nat.le_refl _
    · have := ih (by omega)
      show ofs F a ≤ ofs F b + F b
      omega
theorem Bc_wr (hs : s ≤ 4) (ht : t ≤ F s) (hF : ∀ u, u < 5 → F u ≤ 5) (h6 : ofs F s + t ≤ 6) (h4 : s = 4 → t = 0) : wr (Bc F s t) := by
  refine ⟨fun u => ?_, fun u hu => ?_⟩
  · unfold Bc
    by_cases q : u < s
    · rw [if_pos q]
      refine ⟨by rw [lst_len]; exact hF u (by omega), fun x hx => ?_⟩
      rw [lst_mem] at hx
      have := ofs_mono (F := F) (show u + 1 ≤ s by omega)
      have e : ofs F (u + 1) = ofs F u + F u := rfl
      omega
    · rw [if_neg q]
      by_cases q2 : u = s
      · rw [if_pos q2]
        refine ⟨by rw [lst_len]; have := hF s (by omega); omega, fun x hx => ?_⟩
        rw [lst_mem] at hx
        omega
      · rw [if_neg q2]
        exact ⟨Nat.zero_le _, fun x hx => by cases hx⟩
  · unfold Bc
    rw [if_neg (by omega)]
    by_cases q2 : u = s
    · rw [if_pos q2, h4 (by omega)]
      rfl
    · rw [if_neg q2]
/-- which stack a name is of -/
def sof (F : Nat → Nat) (x : Nat) : Nat := if x < ofs F 1 then 0 else if x < ofs F 2 then 1 else if x < ofs F 3 then 2 else 3
theorem sof_of (hs : s < 4) (ht : t < F s) : sof F (ofs F s + t) = s := by
  have e1 : ofs F 1 = ofs F 0 + F 0 := rfl
  have e2 : ofs F 2 = ofs F 1 + F 1 := rfl
  have e3 : ofs F 3 = ofs F 2 + F 2 := rfl
  have e0 : ofs F 0 = 0 := rfl
  unfold sof
  rcases c4 hs with e | e | e | e <;> subst e
  · rw [if_pos (by omega)]
  · rw [if_neg (by omega), if_pos (by omega)]
  · rw [if_neg (by omega), if_neg (by omega), if_pos (by omega)]
  · rw [if_neg (by omega), if_neg (by omega), if_neg (by omega)]
def nmx (F : Nat → Nat) (bv : Nat → Nat → Nat) (x : Nat) : Nat := bv (sof F x) (x - ofs F (sof F x))
theorem nmx_of (hs : s < 4) (ht : t < F s) : nmx F bv (ofs F s + t) = bv s t := by
  unfold nmx
  rw [sof_of hs ht, Nat.add_sub_cancel_left]
/-- every name is of a box -/
theorem nm_ex {x : Nat} : ∀ m, x < ofs F m → ∃ s t, s < m ∧ t < F s ∧ x = ofs F s + t
  | 0, h => by
    have : ofs F 0 = 0 := rfl
    omega
  | m + 1, h => by
    by_cases q : x < ofs F m
    · obtain ⟨s, t, h1, h2, h3⟩ := nm_ex m q
      exact ⟨s, t, by omega, h2, h3⟩
    · have : ofs F (m + 1) = ofs F m + F m := rfl
      exact ⟨m, x - ofs F m, by omega, by omega, by omega⟩
def rkw (w : Nat → Nat) (v W : Nat) : Nat → Nat
  | 0 => W
  | k + 1 => if w k = v then k else rkw w v W k
theorem rkw_c {w : Nat → Nat} {v W : Nat} : ∀ k, (rkw w v W k < k ∧ w (rkw w v W k) = v) ∨ (rkw w v W k = W ∧ ∀ o, o < k → w o ≠ v)
  | 0 => Or.inr ⟨rfl, fun o ho => by omega⟩
  | k + 1 => by
    by_cases q : w k = v
    · have : rkw w v W (k + 1) = k := if_pos q
      rw [this]
      exact Or.inl ⟨by omega, q⟩
    · have : rkw w v W (k + 1) = rkw w v W k := if_neg q
      rw [this]
      rcases rkw_c k with ⟨h1, h2⟩ | ⟨h1, h2⟩
      · exact Or.inl ⟨by omega, h2⟩
      · refine Or.inr ⟨h1, fun o ho => ?_⟩
        by_cases e : o = k
        · rw [e]; exact q
        · exact h2 o (by omega)
/-- the system of a bay -/
def sysB (m W : Nat) (F Hh : Nat → Nat) (bv : Nat → Nat → Nat) (wn : Nat → Nat) : Sy := (m, W, ofs F m, Hh, fun x => rkw wn (nmx F bv (x - 1)) W W)
variable {Hh : Nat → Nat}
/-- what is asked of a bay -/
def okB (m W : Nat) (F Hh : Nat → Nat) (bv : Nat → Nat → Nat) (wn : Nat → Nat) : Prop := m ≤ 4 ∧ W ≤ 5 ∧ ofs F m ≤ 6 ∧ (∀ s, s < m → F s ≤ Hh s ∧ Hh s ≤ 5) ∧ (∀ s t s2 t2, s < m → t < F s → s2 < m → t2 < F s2 → bv s t = bv s2 t2 → s = s2 ∧ t = t2) ∧ (∀ o o2, o < W → o2 < W → wn o = wn o2 → o = o2) ∧ ∀ o, o < W → ∃ s t, s < m ∧ t < F s ∧ bv s t = wn o
theorem nm_inj (k : okB m W F Hh bv wn) {x z : Nat} (hx : x < ofs F m) (hz : z < ofs F m) (e : nmx F bv x = nmx F bv z) : x = z := by
  obtain ⟨h4, -, -, -, k1, -⟩ := k
  obtain ⟨s, t, a1, a2, a3⟩ := nm_ex m hx
  obtain ⟨s2, t2, b1, b2, b3⟩ := nm_ex m hz
  rw [a3, b3, nmx_of (by omega) a2, nmx_of (by omega) b2] at e
  obtain ⟨z1, z2⟩ := k1 s t s2 t2 a1 a2 b1 b2 e
  rw [a3, b3, z1, z2]
theorem sys_rk (k : okB m W F Hh bv wn) {x : Nat} (hx : 1 ≤ x) (ho : o < W) : (sysB m W F Hh bv wn).rk x = o ↔ nmx F bv (x - 1) = wn o := by
  show rkw wn (nmx F bv (x - 1)) W W = o ↔ _
  rcases rkw_c (w := wn) (v := nmx F bv (x - 1)) (W := W) W with ⟨h1, h2⟩ | ⟨h1, h2⟩
  · constructor
    · intro z
      rw [← h2, z]
    · intro z
      exact k.2.2.2.2.2.1 _ o h1 ho (by rw [h2, z])
  · constructor
    · intro z
      omega
    · intro z
      exact absurd z.symm (h2 o ho)
theorem sys_ok (k : okB m W F Hh bv wn) : OkS (sysB m W F Hh bv wn) := by
  obtain ⟨h4, h5, h6, kF, k1, k2, k3⟩ := id k
  have ex : ∀ o, o < W → ∃ x, 1 ≤ x ∧ x ≤ ofs F m ∧ (sysB m W F Hh bv wn).rk x = o := fun o ho => by
    obtain ⟨s, t, a1, a2, a3⟩ := k3 o ho
    have := ofs_mono (F := F) (show s + 1 ≤ m by omega)
    have e : ofs F (s + 1) = ofs F s + F s := rfl
    refine ⟨ofs F s + t + 1, by omega, by omega, (sys_rk k (by omega) ho).mpr ?_⟩
    rw [Nat.add_sub_cancel, nmx_of (by omega) a2, a3]
  refine ⟨h4, h5, ?_, h6, fun s hs => (kF s hs).2, ex, fun x z h1 h2 h3 h7 e lt => ?_⟩
  · show W ≤ ofs F m
    have ch : ∀ o, ∃ x, o < W → 1 ≤ x ∧ x ≤ ofs F m ∧ (sysB m W F Hh bv wn).rk x = o := fun o => by
      by_cases ho : o < W
      · obtain ⟨x, z⟩ := ex o ho
        exact ⟨x, fun _ => z⟩
      · exact ⟨0, fun q => absurd q ho⟩
    obtain ⟨f, hf⟩ := Classical.axiomOfChoice ch
    refine pg W (ofs F m) (fun o => f o - 1) (fun o ho => by have := hf o ho; omega) (fun o o2 ho ho2 e => ?_)
    have a1 := hf o ho
    have a2 := hf o2 ho2
    rw [← a1.2.2, ← a2.2.2, show f o = f o2 by omega]
  · have h2' : x ≤ ofs F m := h2
    have h7' : z ≤ ofs F m := h7
    have lt' : (sysB m W F Hh bv wn).rk x < W := lt
    have q1 := (sys_rk k h1 lt').mp rfl
    have q2 := (sys_rk k h3 lt').mp e.symm
    have := nm_inj k (show x - 1 < ofs F m by omega) (show z - 1 < ofs F m by omega) (q1.trans q2.symm)
    omega
theorem Bc_flt (h4 : m ≤ 4) : (flt (Bc F m 0)).Perm (List.range' 1 (ofs F m)) ∧ ttC (Bc F m 0) = ofs F m := by
  have p : ∀ s t, s + t ≤ 4 → True := fun _ _ _ => trivial
  have key : ∀ m, m ≤ 4 → (flt (Bc F m 0)).Perm (List.range' 1 (ofs F m)) := fun m => by
    induction m with
    | zero => exact fun _ => List.Perm.refl _
    | succ m ih =>
      intro hm
      have st : ∀ t, t ≤ F m → (flt (Bc F m t)).Perm (List.range' 1 (ofs F m + t)) := fun t => by
        induction t with
        | zero => exact fun _ => ih (by omega)
        | succ t ih2 =>
          intro ht
          rw [← Bc_up]
          refine (flt_add (by omega)).trans ?_
          rw [← Nat.add_assoc, List.range'_concat, Nat.one_mul, show 1 + (ofs F m + t) = ofs F m + t + 1 by omega]
          exact ((ih2 (by omega)).cons _).trans (List.perm_append_singleton _ _).symm
      have z := st (F m) (Nat.le_refl _)
      rw [Bc_nx] at z
      exact z
  refine ⟨key m h4, ?_⟩
  rw [← flt_len, (key m h4).length_eq, List.length_range']
theorem sys_ri (k : okB m W F Hh bv wn) : RI (sysB m W F Hh bv wn) (Bc F m 0) := by
  obtain ⟨h4, h5, h6, kF, -⟩ := id k
  obtain ⟨p1, p2⟩ := Bc_flt (F := F) h4
  have o0 : (sysB m W F Hh bv wn).out (Bc F m 0) = 0 := by
    show ofs F m - ttC (Bc F m 0) = 0
    rw [p2, Nat.sub_self]
  refine ⟨by rw [o0]; exact Nat.zero_le _, ?_, fun s hs => ?_, fun s hs => ?_⟩
  · rw [o0]
    have z : lab (sysB m W F Hh bv wn) 0 = List.range' 1 (ofs F m) := List.filter_eq_self.mpr (fun a _ => decide_eq_true (Nat.zero_le _))
    rw [z]
    exact p1
  · have hs' : s < m := hs
    show (Bc F m 0 s).length ≤ Hh s
    unfold Bc
    rw [if_pos hs', lst_len]
    exact (kF s hs').1
  · have hs' : m ≤ s := hs
    unfold Bc
    rw [if_neg (by omega)]
    by_cases q : s = m
    · rw [if_pos q]
      rfl
    · rw [if_neg q]
end LSQ
