theorem c_1 {w : Cond} (j : Nat) (h : tables_1_1[j]? = some w) (hn : y_nice w = true) : w ∈ y_tb := List.mem_filter.mpr ⟨List.mem_append_right _ (show w ∈ tables_1 from List.mem_append_left _ (List.mem_of_getElem? h)), hn⟩
theorem c_2 {w : Cond} (j : Nat) (h : tables_1_2[j]? = some w) (hn : y_nice w = true) : w ∈ y_tb := List.mem_filter.mpr ⟨List.mem_append_right _ (show w ∈ tables_1 from List.mem_append_right _ (List.mem_append_left _ (List.mem_of_getElem? h))), hn⟩
theorem c_3 {w : Cond} (j : Nat) (h : tables_1_3[j]? = some w) (hn : y_nice w = true) : w ∈ y_tb := List.mem_filter.mpr ⟨List.mem_append_right _ (show w ∈ tables_1 from List.mem_append_right _ (List.mem_append_right _ (List.mem_append_left _ (List.mem_of_getElem? h)))), hn⟩
theorem c_4 {w : Cond} (j : Nat) (h : tables_1_4[j]? = some w) (hn : y_nice w = true) : w ∈ y_tb := List.mem_filter.mpr ⟨List.mem_append_right _ (show w ∈ tables_1 from List.mem_append_right _ (List.mem_append_right _ (List.mem_append_right _ (List.mem_append_left _ (List.mem_of_getElem? h))))), hn⟩
theorem c_5 {w : Cond} (j : Nat) (h : tables_1_5[j]? = some w) (hn : y_nice w = true) : w ∈ y_tb := List.mem_filter.mpr ⟨List.mem_append_right _ (show w ∈ tables_1 from List.mem_append_right _ (List.mem_append_right _ (List.mem_append_right _ (List.mem_append_right _ (List.mem_append_left _ (List.mem_of_getElem? h)))))), hn⟩
theorem c_6 {w : Cond} (j : Nat) (h : tables_1_6[j]? = some w) (hn : y_nice w = true) : w ∈ y_tb := List.mem_filter.mpr ⟨List.mem_append_right _ (show w ∈ tables_1 from List.mem_append_right _ (List.mem_append_right _ (List.mem_append_right _ (List.mem_append_right _ (List.mem_append_right _ (List.mem_append_left _ (List.mem_of_getElem? h))))))), hn⟩
theorem c_7 {w : Cond} (j : Nat) (h : tables_1_7[j]? = some w) (hn : y_nice w = true) : w ∈ y_tb := List.mem_filter.mpr ⟨List.mem_append_right _ (show w ∈ tables_1 from List.mem_append_right _ (List.mem_append_right _ (List.mem_append_right _ (List.mem_append_right _ (List.mem_append_right _ (List.mem_append_right _ (List.mem_append_left _ (List.mem_of_getElem? h)))))))), hn⟩
theorem c_8 {w : Cond} (j : Nat) (h : tables_1_8[j]? = some w) (hn : y_nice w = true) : w ∈ y_tb := List.mem_filter.mpr ⟨List.mem_append_right _ (show w ∈ tables_1 from List.mem_append_right _ (List.mem_append_right _ (List.mem_append_right _ (List.mem_append_right _ (List.mem_append_right _ (List.mem_append_right _ (List.mem_append_right _ (List.mem_append_left _ (List.mem_of_getElem? h))))))))), hn⟩
theorem c_9 {w : Cond} (j : Nat) (h : tables_1_9[j]? = some w) (hn : y_nice w = true) : w ∈ y_tb := List.mem_filter.mpr ⟨List.mem_append_right _ (show w ∈ tables_1 from List.mem_append_right _ (List.mem_append_right _ (List.mem_append_right _ (List.mem_append_right _ (List.mem_append_right _ (List.mem_append_right _ (List.mem_append_right _ (List.mem_append_right _ (List.mem_append_left _ (List.mem_of_getElem? h)))))))))), hn⟩
theorem c_10 {w : Cond} (j : Nat) (h : tables_1_10[j]? = some w) (hn : y_nice w = true) : w ∈ y_tb := List.mem_filter.mpr ⟨List.mem_append_right _ (show w ∈ tables_1 from List.mem_append_right _ (List.mem_append_right _ (List.mem_append_right _ (List.mem_append_right _ (List.mem_append_right _ (List.mem_append_right _ (List.mem_append_right _ (List.mem_append_right _ (List.mem_append_right _ (List.mem_of_getElem? h)))))))))), hn⟩
/-! the words in which the decompiled methods are written, and how a walk reads them -/
def y_bd {α β : Type} (a : α) (f : α → β) : β := f a
def y_cl {α β : Type} (o : Option (α × y_H)) (f : α → y_H → Option β) : Option β := match o with
  | some q => f q.1 q.2
  | none => none
/-- a join point -/
def y_jn {α β : Type} (j : α) (f : α → β) : β := f j
def y_lp {α : Type} (bot : α) (body : α → α) : Nat → α
  | 0 => bot
  | n + 1 => body (y_lp bot body n)
/-- more than any loop of the system runs -/
def y_fu : Nat := 4000000
def y_jl {α β : Type} (bot : α) (body : α → α) (f : α → β) : β := f (y_lp bot body y_fu)
def y_ix (i : Int32) (n : Nat) : Bool := decide (¬ (i < 0 ∨ n ≤ i.toNatClampNeg))
def y_rem (x y : Int32) : Int32 := x - x / y * y
def y_lre (x y : Int64) : Int64 := x - x / y * y
def y_ush (x y : Int32) : Int32 := (x.toUInt32 >>> (y.toUInt32 &&& Int32.toUInt32 31)).toInt32
def y_lush (x : Int64) (y : Int32) : Int64 := (x.toUInt64 >>> (y.toInt64.toUInt64 &&& Int64.toUInt64 63)).toInt64
theorem y_ix_in {i : Int32} {n : Nat} (h : y_ix i n = true) : vp_in i n := by
  have h1 : ¬ (i < 0 ∨ n ≤ i.toNatClampNeg) := of_decide_eq_true h
  exact h1
theorem y_g {c : Prop} [Decidable c] {α : Type} {F : Option α} {q : α} (h : (if c then F else none) = some q) : c ∧ F = some q := by
  by_cases hc : c
  · rw [if_pos hc] at h
    exact ⟨hc, h⟩
  · rw [if_neg hc] at h
    cases h
theorem y_bdE {α β : Type} {a : α} {f : α → Option β} {q : β} (h : y_bd a f = some q) : ∃ x, x = a ∧ f x = some q := ⟨a, rfl, h⟩
theorem y_clE {α β : Type} {o : Option (α × y_H)} {f : α → y_H → Option β} {q : β} (h : y_cl o f = some q) : ∃ (r : α) (h2 : y_H), o = some (r, h2) ∧ f r h2 = some q := by
  cases o with
  | none => cases h
  | some x => exact ⟨x.1, x.2, rfl, h⟩
theorem y_jnE {α β : Type} {j : α} {f : α → Option β} {q : β} {C : Prop} (h : y_jn j f = some q) (P : α → Prop) (hj : P j) (k : ∀ j, P j → f j = some q → C) : C := k j hj h
theorem y_lpP {α : Type} {bot : α} {body : α → α} (P : α → Prop) (h0 : P bot) (hs : ∀ j, P j → P (body j)) : ∀ n, P (y_lp bot body n)
  | 0 => h0
  | n + 1 => hs _ (y_lpP P h0 hs n)
theorem y_jlE {α β : Type} {bot : α} {body : α → α} {f : α → Option β} {q : β} {C : Prop} (h : y_jl bot body f = some q) (P : α → Prop) (h0 : P bot) (hs : ∀ j, P j → P (body j)) (k : ∀ j, P j → f j = some q → C) : C := k _ (y_lpP P h0 hs y_fu) h
theorem y_p_cat (n : Nat) : (y_p n).category = 1 := by
  unfold y_p
  split <;> rfl
theorem y_ci (x : Int32) : (Value.int x).category = 1 := rfl
theorem y_cj (x : Int64) : (Value.long x).category = 2 := rfl
section YC
variable {l : Launch} {G : y_G} {z : Heap} {R : Room} {M : y_M} {ad0 : Nat → Nat} {h0 h1 : y_H} {r : Option Value} {pc : Nat} {lv : List (Nat × Value)} {st : List Value} {h : y_H} {cells slots : Nat}
theorem y_pk {lv' : List (Nat × Value)} (ks : List Nat) (hk : lv_pick lv ks = lv') (k : y_V l G z R M ad0 h0 r h1 pc lv' st h cells slots) : y_V l G z R M ad0 h0 r h1 pc lv st h cells slots := by
  intro p e s m args below meth c C ad H locs ls hR hE ha hs hl hls
  subst hk
  have hsub : ∀ q ∈ lv_pick lv ks, q ∈ lv := by
    intro q hq
    obtain ⟨k, -, hk⟩ := List.mem_filterMap.mp hq
    exact List.mem_of_getElem? hk
  refine k p e s m args below meth c C ad H locs ls hR hE (fun q hq => ha q (hsub q hq)) hs hl ⟨hls.1, hls.2.1, fun q hq => ?_⟩
  obtain ⟨q', hq', rfl⟩ := List.mem_map.mp hq
  exact hls.2.2 _ (List.mem_map.mpr ⟨q', hsub q' hq', rfl⟩)
theorem y_start {rm : Room} {As : List Value} (hy : plainName M.1.cls = true) (hlen : (lg_sl As).length ≤ M.2.2.1) (hlv : lv_args 0 As = lv) (k : ∀ (z : Heap) (ad0 : Nat → Nat), y_V l G z rm M ad0 h0 r h1 0 lv [] h0 0 0) : y_S l G M rm As h0 r h1 := by
  subst hlv
  exact y_enter hy hlen k
theorem y_rm {pc2 : Nat} {x y : Int32} (hp : pc + 1 = pc2) (hd : decode M.2.1 pc = .ok (.irem, 1)) (hne : ¬ y = 0) (k : y_V l G z R M ad0 h0 r h1 pc2 lv (.int (y_rem x y) :: st) h cells slots) : y_V l G z R M ad0 h0 r h1 pc lv (.int y :: .int x :: st) h cells slots := by
  subst hp
  exact y_irem rfl hd hne k
theorem y_lrm {pc2 : Nat} {x y : Int64} (hp : pc + 1 = pc2) (hd : decode M.2.1 pc = .ok (.lrem, 1)) (hne : ¬ y = 0) (k : y_V l G z R M ad0 h0 r h1 pc2 lv (.long (y_lre x y) :: st) h cells slots) : y_V l G z R M ad0 h0 r h1 pc lv (.long y :: .long x :: st) h cells slots := by
  subst hp
  exact y_lrem rfl hd hne k
theorem y_us {pc2 : Nat} {x y : Int32} (hp : pc + 1 = pc2) (hd : decode M.2.1 pc = .ok (.iushr, 1)) (k : y_V l G z R M ad0 h0 r h1 pc2 lv (.int (y_ush x y) :: st) h cells slots) : y_V l G z R M ad0 h0 r h1 pc lv (.int y :: .int x :: st) h cells slots := by
  subst hp
  exact y_iushr rfl hd k
theorem y_lus {pc2 : Nat} {x : Int64} {y : Int32} (hp : pc + 1 = pc2) (hd : decode M.2.1 pc = .ok (.lushr, 1)) (k : y_V l G z R M ad0 h0 r h1 pc2 lv (.long (y_lush x y) :: st) h cells slots) : y_V l G z R M ad0 h0 r h1 pc lv (.int y :: .long x :: st) h cells slots := by
  subst hp
  exact y_lushr rfl hd k
theorem y_z0 (b : Bool) : y_z b = 0 ↔ ¬ b = true := by cases b <;> decide
theorem y_ifz_eq {pc2 : Nat} {b : Bool} {off : Int} {tgt : Nat} (hp : pc + 3 = pc2) (hd : decode M.2.1 pc = .ok (.ifCond .eq off, 3)) (ht : (pc : Int) + off = (tgt : Int)) (kt : ¬ b = true → y_V l G z R M ad0 h0 r h1 tgt lv st h cells slots) (kf : b = true → y_V l G z R M ad0 h0 r h1 pc2 lv st h cells slots) : y_V l G z R M ad0 h0 r h1 pc lv (.int (y_z b) :: st) h cells slots := by
  subst hp
  exact y_if_eq rfl hd ht (fun c => kt ((y_z0 b).mp c)) (fun c => kf (Classical.not_not.mp fun q => c ((y_z0 b).mpr q)))
theorem y_ifz_ne {pc2 : Nat} {b : Bool} {off : Int} {tgt : Nat} (hp : pc + 3 = pc2) (hd : decode M.2.1 pc = .ok (.ifCond .ne off, 3)) (ht : (pc : Int) + off = (tgt : Int)) (kt : b = true → y_V l G z R M ad0 h0 r h1 tgt lv st h cells slots) (kf : ¬ b = true → y_V l G z R M ad0 h0 r h1 pc2 lv st h cells slots) : y_V l G z R M ad0 h0 r h1 pc lv (.int (y_z b) :: st) h cells slots := by
  subst hp
  exact y_if_ne rfl hd ht (fun c => kt (Classical.not_not.mp fun q => c ((y_z0 b).mpr q))) (fun c => kf ((y_z0 b).mp c))
end YC
theorem w_mini : Cond.initialized "java/lang/Math" ∈ y_tb := (m_t 13 (by decide +kernel) rfl)
def y_mx (x y : Int32) : Int32 := if x < y then y else x
theorem w_mx_s : Cond.static Lib.Math.max.name ∈ y_tb := (m_t 1351 (by decide +kernel) rfl)
theorem w_mx_c : Cond.code Lib.Math.max.name Lib.Math.max.code 2 (some .int) ∈ y_tb := (m_t 1352 (by decide +kernel) rfl)
theorem y_mmx {pc2 : Nat} {l : Launch} {G : y_G} {z : Heap} {R : Room} {M : y_M} {ad0 : Nat → Nat} {h0 h1 : y_H} {r : Option Value} {pc : Nat} {lv : List (Nat × Value)} {st : List Value} {h : y_H} {cells slots i : Nat} {x y : Int32} (hp : pc + 3 = pc2) (hd : decode M.2.1 pc = .ok (.invokestatic i, 3)) (hl : Cond.methodLink M.1.cls i Lib.Math.max.name ∈ y_tb) (hfr : 1 ≤ R.frames) (hlo : 21 ≤ R.locals) (hcat : (st.map fun v => v.category).sum ≤ 8) (hc : cells ≤ R.cells) (hs : slots ≤ R.slots) (k : y_V l G z R M ad0 h0 r h1 pc2 lv (.int (y_mx x y) :: st) h cells slots) : y_V l G z R M ad0 h0 r h1 pc lv (.int y :: .int x :: st) h cells slots := by
  subst hp
  intro p e s m args below meth c C ad H locs ls hR hE ha hst hl9 hls
  obtain ⟨hx, hb, hr, hml, hown, hts, hlk, hnm, hK, hZ⟩ := id C
  have hcat2 : ((st.map (y_r ad)).map fun v => v.category).sum ≤ 8 := by
    rw [List.map_map, show (fun v : Value => v.category) ∘ y_r ad = fun v => v.category from funext fun v => y_r_cat ad v]
    exact hcat
  exact va_mmax hx hb (hml.trans hls.1.symm) hown (hts _ hl) (hts _ w_mx_s) (hts _ w_mini) (hts _ w_mx_c) hfr (by omega) hc hs hd (k p e s m args below meth c C ad H locs ls hR hE ha (y_alc (by trivial) y_s2 hst) hl9 hls)
def y_mn (x y : Int32) : Int32 := if y < x then y else x
theorem w_mn_s : Cond.static Lib.Math.min.name ∈ y_tb := (m_t 1200 (by decide +kernel) rfl)
theorem w_mn_c : Cond.code Lib.Math.min.name Lib.Math.min.code 2 (some .int) ∈ y_tb := (m_t 1201 (by decide +kernel) rfl)
theorem y_mmn {pc2 : Nat} {l : Launch} {G : y_G} {z : Heap} {R : Room} {M : y_M} {ad0 : Nat → Nat} {h0 h1 : y_H} {r : Option Value} {pc : Nat} {lv : List (Nat × Value)} {st : List Value} {h : y_H} {cells slots i : Nat} {x y : Int32} (hp : pc + 3 = pc2) (hd : decode M.2.1 pc = .ok (.invokestatic i, 3)) (hl : Cond.methodLink M.1.cls i Lib.Math.min.name ∈ y_tb) (hfr : 1 ≤ R.frames) (hlo : 21 ≤ R.locals) (hcat : (st.map fun v => v.category).sum ≤ 8) (hc : cells ≤ R.cells) (hs : slots ≤ R.slots) (k : y_V l G z R M ad0 h0 r h1 pc2 lv (.int (y_mn x y) :: st) h cells slots) : y_V l G z R M ad0 h0 r h1 pc lv (.int y :: .int x :: st) h cells slots := by
  subst hp
  intro p e s m args below meth c C ad H locs ls hR hE ha hst hl9 hls
  obtain ⟨hx, hb, hr, hml, hown, hts, hlk, hnm, hK, hZ⟩ := id C
  have hcat2 : ((st.map (y_r ad)).map fun v => v.category).sum ≤ 8 := by
    rw [List.map_map, show (fun v : Value => v.category) ∘ y_r ad = fun v => v.category from funext fun v => y_r_cat ad v]
    exact hcat
  exact va_mmin hx hb (hml.trans hls.1.symm) hown (hts _ hl) (hts _ w_mn_s) (hts _ w_mini) (hts _ w_mn_c) hfr (by omega) hc hs hd (k p e s m args below meth c C ad H locs ls hR hE ha (y_alc (by trivial) y_s2 hst) hl9 hls)
def y_ab (x : Int32) : Int32 := if 0 ≤ x then x else 0 - x
theorem w_ab_s : Cond.static Lib.Math.abs.name ∈ y_tb := (m_t 816 (by decide +kernel) rfl)
theorem w_ab_c : Cond.code Lib.Math.abs.name Lib.Math.abs.code 1 (some .int) ∈ y_tb := (m_t 817 (by decide +kernel) rfl)
theorem y_mab {pc2 : Nat} {l : Launch} {G : y_G} {z : Heap} {R : Room} {M : y_M} {ad0 : Nat → Nat} {h0 h1 : y_H} {r : Option Value} {pc : Nat} {lv : List (Nat × Value)} {st : List Value} {h : y_H} {cells slots i : Nat} {x : Int32} (hp : pc + 3 = pc2) (hd : decode M.2.1 pc = .ok (.invokestatic i, 3)) (hl : Cond.methodLink M.1.cls i Lib.Math.abs.name ∈ y_tb) (hfr : 1 ≤ R.frames) (hlo : 21 ≤ R.locals) (hcat : (st.map fun v => v.category).sum ≤ 8) (hc : cells ≤ R.cells) (hs : slots ≤ R.slots) (k : y_V l G z R M ad0 h0 r h1 pc2 lv (.int (y_ab x) :: st) h cells slots) : y_V l G z R M ad0 h0 r h1 pc lv (.int x :: st) h cells slots := by
  subst hp
  intro p e s m args below meth c C ad H locs ls hR hE ha hst hl9 hls
  obtain ⟨hx, hb, hr, hml, hown, hts, hlk, hnm, hK, hZ⟩ := id C
  have hcat2 : ((st.map (y_r ad)).map fun v => v.category).sum ≤ 8 := by
    rw [List.map_map, show (fun v : Value => v.category) ∘ y_r ad = fun v => v.category from funext fun v => y_r_cat ad v]
    exact hcat
  exact va_mabs hx hb (hml.trans hls.1.symm) hown (hts _ hl) (hts _ w_ab_s) (hts _ w_mini) (hts _ w_ab_c) hfr (by omega) hc hs hd (k p e s m args below meth c C ad H locs ls hR hE ha (y_alc (by trivial) y_s1 hst) hl9 hls)
theorem y_it {c : Prop} [Decidable c] {α : Type} {A B : Option α} {q : α} (hc : c) (h : (if c then A else B) = some q) : A = some q := by
  rw [if_pos hc] at h
  exact h
theorem y_ie {c : Prop} [Decidable c] {α : Type} {A B : Option α} {q : α} (hc : ¬ c) (h : (if c then A else B) = some q) : B = some q := by
  rw [if_neg hc] at h
  exact h
section YE
variable {l : Launch} {G : y_G} {z : Heap} {R : Room} {M : y_M} {ad0 : Nat → Nat} {h0 hz : y_H} {pc : Nat} {lv : List (Nat × Value)} {h : y_H} {cells slots : Nat}
theorem y_iretF {x rz : Int32} (hf : some (x, h) = some (rz, hz)) (hd : decode M.2.1 pc = .ok (.ireturn, 1)) (hr : M.2.2.2 = some .int) (hc : cells ≤ R.cells) (hs : slots ≤ R.slots) : y_V l G z R M ad0 h0 (some (.int rz)) hz pc lv [.int x] h cells slots := by
  cases hf
  exact y_iret hd hr hc hs
theorem y_zretF {x rz : Bool} (hf : some (x, h) = some (rz, hz)) (hd : decode M.2.1 pc = .ok (.ireturn, 1)) (hr : M.2.2.2 = some .boolean) (hc : cells ≤ R.cells) (hs : slots ≤ R.slots) : y_V l G z R M ad0 h0 (some (.int (y_z rz))) hz pc lv [.int (y_z x)] h cells slots := by
  cases hf
  exact y_zret hd hr hc hs
/-- a boolean that an int variable holds -/
theorem y_zretV {x : Int32} {rz : Bool} (hf : (if x = 0 then some (false, h) else if x = 1 then some (true, h) else none) = some (rz, hz)) (hd : decode M.2.1 pc = .ok (.ireturn, 1)) (hr : M.2.2.2 = some .boolean) (hc : cells ≤ R.cells) (hs : slots ≤ R.slots) : y_V l G z R M ad0 h0 (some (.int (y_z rz))) hz pc lv [.int x] h cells slots := by
  by_cases c : x = 0
  · rw [if_pos c] at hf
    cases hf
    rw [c]
    exact y_zret (x := false) hd hr hc hs
  · rw [if_neg c] at hf
    obtain ⟨c2, hf⟩ := y_g hf
    cases hf
    rw [c2]
    exact y_zret (x := true) hd hr hc hs
theorem y_lretF {x rz : Int64} (hf : some (x, h) = some (rz, hz)) (hd : decode M.2.1 pc = .ok (.lreturn, 1)) (hr : M.2.2.2 = some .long) (hc : cells ≤ R.cells) (hs : slots ≤ R.slots) : y_V l G z R M ad0 h0 (some (.long rz)) hz pc lv [.long x] h cells slots := by
  cases hf
  exact y_lret hd hr hc hs
theorem y_vretF {rz : Unit} (hf : some ((), h) = some (rz, hz)) (hd : decode M.2.1 pc = .ok (.return_, 1)) (hr : M.2.2.2 = none) (hc : cells ≤ R.cells) (hs : slots ≤ R.slots) : y_V l G z R M ad0 h0 none hz pc lv [] h cells slots := by
  cases hf
  exact y_vret hd hr hc hs
theorem y_aretF {x rz : Nat} {rt : FieldType} (hf : some (x, h) = some (rz, hz)) (hd : decode M.2.1 pc = .ok (.areturn, 1)) (hr : M.2.2.2 = some rt) (hrt : (∃ n, rt = .object n) ∨ ∃ t, rt = .array t) (hc : cells ≤ R.cells) (hs : slots ≤ R.slots) : y_V l G z R M ad0 h0 (some (y_p rz)) hz pc lv [y_p x] h cells slots := by
  cases hf
  exact y_aret hd hr hrt hc hs
end YE
