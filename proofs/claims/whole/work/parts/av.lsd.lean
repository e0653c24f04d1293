/-! least: how long a row is; the lower bound -/
section LSD
variable {y : Sy} {C D C0 : Cg} {f g k e o d : Nat} {l : List Nat}
/-- how many moves -/
def lnF : Nat → Nat → Nat
  | 0, _ => 0
  | n + 1, e => if e = 0 then 0 else lnF n ((e - 1) / 64) + 1
theorem lnF_eq : ∀ n n2 e, e ≤ n → e ≤ n2 → lnF n e = lnF n2 e
  | 0, n2, e, h1, _ => by
    have z : e = 0 := by omega
    subst z
    cases n2 with
    | zero => rfl
    | succ n2 => exact (if_pos rfl).symm
  | n + 1, 0, e, _, h2 => by
    have z : e = 0 := by omega
    subst z
    exact if_pos rfl
  | n + 1, n2 + 1, e, h1, h2 => by
    show (if e = 0 then 0 else lnF n ((e - 1) / 64) + 1) = (if e = 0 then 0 else lnF n2 ((e - 1) / 64) + 1)
    by_cases z : e = 0
    · rw [if_pos z, if_pos z]
    · rw [if_neg z, if_neg z, lnF_eq n n2 ((e - 1) / 64) (by omega) (by omega)]
def ln (e : Nat) : Nat := lnF e e
theorem ln_0 : ln 0 = 0 := rfl
theorem ln_s {m : Nat} (hm : m < 64) : ln (64 * e + m + 1) = ln e + 1 := by
  unfold ln
  show (if 64 * e + m + 1 = 0 then 0 else lnF (64 * e + m) ((64 * e + m + 1 - 1) / 64) + 1) = lnF e e + 1
  rw [if_neg (by omega), show (64 * e + m + 1 - 1) / 64 = e by omega, lnF_eq (64 * e + m) e e (by omega) (Nat.le_refl _)]
theorem lnF_mono : ∀ n e e2, e ≤ e2 → e2 ≤ n → lnF n e ≤ lnF n e2
  | 0, e, e2, _, _ => Nat.le_refl _
  | n + 1, e, e2, h1, h2 => by
    show (if e = 0 then 0 else lnF n ((e - 1) / 64) + 1) ≤ (if e2 = 0 then 0 else lnF n ((e2 - 1) / 64) + 1)
    by_cases z : e = 0
    · rw [if_pos z]
      exact Nat.zero_le _
    · rw [if_neg z, if_neg (by omega)]
      have := lnF_mono n ((e - 1) / 64) ((e2 - 1) / 64) (by omega) (by omega)
      omega
theorem ln_mono {e2 : Nat} (h : e ≤ e2) : ln e ≤ ln e2 := by
  unfold ln
  rw [lnF_eq e e2 e (Nat.le_refl _) h]
  exact lnF_mono e2 e e2 h (Nat.le_refl _)
/-! the lower bound -/
def mn6 : List Nat → Nat
  | [] => 6
  | d :: l => min (mn6 l) d
def cn6 : List Nat → Nat
  | [] => 0
  | d :: l => cn6 l + if mn6 l < d then 1 else 0
def dg (y : Sy) (x : Nat) : Nat := if y.rk x < y.W then y.rk x + 1 else 6
def s4 (F : Nat → Nat) : Nat := F 0 + F 1 + F 2 + F 3
theorem s4_up {F G : Nat → Nat} (hf : f < 4) (h : ∀ s, s ≠ f → G s = F s) : s4 G + F f = s4 F + G f := by
  have z : ∀ s, s < 4 → G s = F s ∨ s = f := fun s hs => by
    by_cases q : s = f
    · exact Or.inr q
    · exact Or.inl (h s q)
  unfold s4
  rcases c4 hf with e | e | e | e <;> subst e
  · rw [h 1 (by omega), h 2 (by omega), h 3 (by omega)]; omega
  · rw [h 0 (by omega), h 2 (by omega), h 3 (by omega)]; omega
  · rw [h 0 (by omega), h 1 (by omega), h 3 (by omega)]; omega
  · rw [h 0 (by omega), h 1 (by omega), h 2 (by omega)]; omega
def lbd (y : Sy) (C : Cg) : Nat := (y.W - y.out C) + s4 (fun s => cn6 ((C s).map (dg y)))
theorem cn6_c (d : Nat) (l : List Nat) : cn6 l ≤ cn6 (d :: l) ∧ cn6 (d :: l) ≤ cn6 l + 1 := by
  show cn6 l ≤ cn6 l + (if mn6 l < d then 1 else 0) ∧ cn6 l + (if mn6 l < d then 1 else 0) ≤ cn6 l + 1
  split <;> omega
theorem mn6_ge {x : Nat} (hx : x ≤ 6) : ∀ l : List Nat, (∀ z, z ∈ l → x ≤ z) → x ≤ mn6 l
  | [], _ => hx
  | a :: l, h => by
    have z1 := mn6_ge hx l (fun z hz => h z (List.mem_cons_of_mem _ hz))
    have z2 := h a List.mem_cons_self
    show x ≤ min (mn6 l) a
    omega
theorem mem_flt {s x : Nat} (hs : s < 4) (hx : x ∈ C s) : x ∈ flt C := by
  unfold flt
  rcases c4 hs with e | e | e | e <;> subst e
  · exact List.mem_append_left _ (List.mem_append_left _ (List.mem_append_left _ hx))
  · exact List.mem_append_left _ (List.mem_append_left _ (List.mem_append_right _ hx))
  · exact List.mem_append_left _ (List.mem_append_right _ hx)
  · exact List.mem_append_right _ hx
/-- a move takes one from the bound at the most -/
theorem lbd_go (O : OkS y) (r : RI y C) (q : y.go C f g = some D) : lbd y C ≤ lbd y D + 1 := by
  obtain ⟨-, -, ho⟩ := RI.go O r q
  obtain ⟨hf, d, l, hc, z⟩ := y.go_some q
  have hm := O.1
  have hW := O.2.1
  rcases z with ⟨g0, h1, h2, rfl⟩ | ⟨g1, h1, h2, h3, rfl⟩
  · have od : y.out (upI C f l) = y.out C + 1 := by
      rcases ho with ⟨w, -⟩ | ⟨-, w⟩
      · omega
      · exact w
    have e1 := s4_up (F := fun s => cn6 ((C s).map (dg y))) (G := fun s => cn6 ((upI C f l s).map (dg y))) (f := f) (by omega) (fun s hs => by rw [upI_n hs])
    try dsimp only at e1
    rw [upI_s, hc] at e1
    have e2 : cn6 ((d :: l).map (dg y)) = cn6 (l.map (dg y)) := by
      show cn6 (l.map (dg y)) + (if mn6 (l.map (dg y)) < dg y d then 1 else 0) = _
      have dd : dg y d = y.out C + 1 := by
        unfold dg
        rw [if_pos (by omega), h2]
      have ge : y.out C + 1 ≤ mn6 (l.map (dg y)) := mn6_ge (by omega) _ (fun z hz => by
        obtain ⟨x, hx, ex⟩ := List.mem_map.mp hz
        have xm : x ∈ flt C := mem_flt (show f < 4 by omega) (by rw [hc]; exact List.mem_cons_of_mem _ hx)
        obtain ⟨-, ox⟩ := lab_mem.mp (r.2.1.mem_iff.mp xm)
        rw [← ex]
        unfold dg
        by_cases c : y.rk x < y.W
        · rw [if_pos c]; omega
        · rw [if_neg c]; omega)
      rw [if_neg (by omega)]
      rfl
    unfold lbd
    rw [od]
    omega
  · have od : y.out (upI (upI C f l) (g - 1) (d :: C (g - 1))) = y.out C := by
      rcases ho with ⟨-, w⟩ | ⟨w, -⟩
      · exact w
      · omega
    have e1 := s4_up (F := fun s => cn6 ((C s).map (dg y))) (G := fun s => cn6 ((upI C f l s).map (dg y))) (f := f) (by omega) (fun s hs => by rw [upI_n hs])
    have e2 := s4_up (F := fun s => cn6 ((upI C f l s).map (dg y))) (G := fun s => cn6 ((upI (upI C f l) (g - 1) (d :: C (g - 1)) s).map (dg y))) (f := g - 1) (by omega) (fun s hs => by rw [upI_n hs])
    try dsimp only at e1 e2
    rw [upI_s, hc] at e1
    rw [upI_s, upI_n h2] at e2
    have z1 := cn6_c (dg y d) (l.map (dg y))
    have z2 := cn6_c (dg y d) ((C (g - 1)).map (dg y))
    unfold lbd
    rw [od]
    simp only [List.map_cons] at e1 e2
    omega
/-- at the end it is nothing -/
theorem cn6_6 : ∀ l : List Nat, (∀ z, z ∈ l → z = 6) → cn6 l = 0 ∧ mn6 l = 6
  | [], _ => ⟨rfl, rfl⟩
  | a :: l, h => by
    obtain ⟨z1, z2⟩ := cn6_6 l (fun z hz => h z (List.mem_cons_of_mem _ hz))
    have z3 := h a List.mem_cons_self
    constructor
    · show cn6 l + (if mn6 l < a then 1 else 0) = 0
      rw [z1, z2, z3, if_neg (by omega)]
    · show min (mn6 l) a = 6
      omega
theorem lbd_end (O : OkS y) (r : RI y C) (ho : y.out C = y.W) : lbd y C = 0 := by
  have hm := O.1
  have z : ∀ s, s < 4 → cn6 ((C s).map (dg y)) = 0 := fun s hs => (cn6_6 _ (fun z hz => by
    obtain ⟨x, hx, ex⟩ := List.mem_map.mp hz
    obtain ⟨-, ox⟩ := lab_mem.mp (r.2.1.mem_iff.mp (mem_flt hs hx))
    rw [← ex]
    unfold dg
    rw [if_neg (by omega)])).1
  unfold lbd s4
  dsimp only
  rw [z 0 (by omega), z 1 (by omega), z 2 (by omega), z 3 (by omega), ho]
  omega
/-- a row that ends well is kept, if the bound is not less than its length -/
theorem kept_of (O : OkS y) (r0 : RI y C0) (b : Nat) (a : Rn y.step C0 e C) : lbd y C + ln e ≤ b → Rk y.step (fun e t => lbd y t + ln e ≤ b) C0 e C := by
  refine Rn.ind (P := fun e C => lbd y C + ln e ≤ b → Rk y.step (fun e t => lbd y t + ln e ≤ b) C0 e C) (fun _ => Rk.nil) (fun e m s t r ih hm w h => ?_) a
  have rs : RI y s := r0.rn O r
  have z1 := lbd_go O rs w
  have z2 := ln_s (e := e) hm
  exact Rk.cons (ih (by omega)) hm w h
end LSD
