/-! methods that make cells: what is made is counted, c cells and s slots so far -/
abbrev y_Ry (F L X Y : Nat) : Room := { frames := F, cells := X, slots := Y, locals := L }
abbrev y_Rm (F L c0 s0 cz sz : Nat) : Room := y_Ry F L (cz - c0) (sz - s0)
def y_U (l : Launch) (G : y_G) (z : Heap) (F L X Y c0 s0 cz sz : Nat) (M : y_M) (ad0 : Nat → Nat) (h0 : y_H) (r : Option Value) (h1 : y_H) (pc : Nat) (lv : List (Nat × Value)) (st : List Value) (h : y_H) (c s : Nat) : Prop :=
  (c ≤ cz ∧ s ≤ sz) ∧ (c0 ≤ c → s0 ≤ s → cz - c0 ≤ X → sz - s0 ≤ Y → y_V l G z (y_Ry F L X Y) M ad0 h0 r h1 pc lv st h (c - c0) (s - s0))
section YU
variable {l : Launch} {G : y_G} {z : Heap} {F L X Y c0 s0 cz sz : Nat} {M : y_M} {ad0 : Nat → Nat} {h0 h1 : y_H} {r : Option Value} {pc pc' pc2 : Nat} {lv lv' lv2 : List (Nat × Value)} {st st' st2 : List Value} {h h' h2 : y_H} {c s : Nat}
theorem y_lf (f : ∀ cells slots : Nat, cells ≤ X → slots ≤ Y → y_V l G z (y_Ry F L X Y) M ad0 h0 r h1 pc' lv' st' h' cells slots → y_V l G z (y_Ry F L X Y) M ad0 h0 r h1 pc lv st h cells slots) (k : y_U l G z F L X Y c0 s0 cz sz M ad0 h0 r h1 pc' lv' st' h' c s) : y_U l G z F L X Y c0 s0 cz sz M ad0 h0 r h1 pc lv st h c s :=
  ⟨k.1, fun a b x y => f _ _ (by have := k.1.1; omega) (by have := k.1.2; omega) (k.2 a b x y)⟩
theorem y_lf2 {p q : Prop} (hor : p ∨ q) (f : ∀ cells slots : Nat, (p → y_V l G z (y_Ry F L X Y) M ad0 h0 r h1 pc' lv' st' h' cells slots) → (q → y_V l G z (y_Ry F L X Y) M ad0 h0 r h1 pc2 lv2 st2 h2 cells slots) → y_V l G z (y_Ry F L X Y) M ad0 h0 r h1 pc lv st h cells slots) (k1 : p → y_U l G z F L X Y c0 s0 cz sz M ad0 h0 r h1 pc' lv' st' h' c s) (k2 : q → y_U l G z F L X Y c0 s0 cz sz M ad0 h0 r h1 pc2 lv2 st2 h2 c s) : y_U l G z F L X Y c0 s0 cz sz M ad0 h0 r h1 pc lv st h c s :=
  ⟨hor.elim (fun a => (k1 a).1) (fun a => (k2 a).1), fun a b x y => f _ _ (fun q => (k1 q).2 a b x y) (fun q => (k2 q).2 a b x y)⟩
theorem y_Ustart {As : List Value} (hy : plainName M.1.cls = true) (hlen : (lg_sl As).length ≤ M.2.2.1) (hlv : lv_args 0 As = lv) (k : ∀ (z : Heap) (ad0 : Nat → Nat), y_U l G z F L (cz - c0) (sz - s0) c0 s0 cz sz M ad0 h0 r h1 0 lv [] h0 c0 s0) : (c0 ≤ cz ∧ s0 ≤ sz) ∧ y_S l G M (y_Rm F L c0 s0 cz sz) As h0 r h1 := by
  refine ⟨(k #[] id).1, y_start hy hlen hlv fun z ad0 => ?_⟩
  have h9 := (k z ad0).2 (Nat.le_refl _) (Nat.le_refl _) (Nat.le_refl _) (Nat.le_refl _)
  rw [Nat.sub_self, Nat.sub_self] at h9
  exact h9
theorem y_Unew {i ci n N : Nat} {C9 : String} {T9 : u_T} (hp : pc + 3 = pc2) (hd : decode M.2.1 pc = .ok (.new i, 3)) (hcl : Cond.classLink M.1.cls i C9 ∈ y_tb) (hin : Cond.instantiable C9 N ∈ y_tb) (hini : Cond.initialized C9 ∈ y_tb) (hc : c_l[ci]? = some (C9, T9, N)) (hci : ci < 99) (hty : ∀ k, k < N → y_okt (t_f ci k) = true) (hg : 10 ≤ n ∧ y_K h n = 0) (he : h2 = s_new h n (ci + 1) N)
    (kk : y_U l G z F L X Y c0 s0 cz sz M ad0 h0 r h1 pc2 lv (y_p n :: st) h2 (c + 1) (s + N)) : y_U l G z F L X Y c0 s0 cz sz M ad0 h0 r h1 pc lv st h c s := by
  subst he
  have h1 := kk.1
  refine ⟨⟨by omega, by omega⟩, fun a b x9 y9 => y_new hp hd hcl hin hini hc hci hty hg.1 hg.2 (by show c - c0 + 1 ≤ X; omega) (by show s - s0 + N ≤ Y; omega) ?_⟩
  have h9 := kk.2 (by omega) (by omega) x9 y9
  rw [show c + 1 - c0 = c - c0 + 1 by omega, show s + N - s0 = s - s0 + N by omega] at h9
  exact h9
theorem y_Unewa {t n : Nat} {i : Int32} {aty : ArrayType} (hp : pc + 2 = pc2) (hd : decode M.2.1 pc = .ok (.newarray aty, 2)) (ht9 : t < n_ay) (hty : newarray.typeOf aty = t_ay t) (hok : y_okt (t_ay t) = true) (hpr : y_rt (t_ay t) = false) (harr : Cond.arrayClass (t_ay t) ∈ y_tb) (hg : 10 ≤ n ∧ y_K h n = 0 ∧ ¬ i < 0 ∧ i.toNatClampNeg * componentBytes (t_ay t) ≤ 536870912) (he : h2 = s_new h n (100 + t) i.toNatClampNeg)
    (kk : y_U l G z F L X Y c0 s0 cz sz M ad0 h0 r h1 pc2 lv (y_p n :: st) h2 (c + 1) (s + i.toNatClampNeg)) : y_U l G z F L X Y c0 s0 cz sz M ad0 h0 r h1 pc lv (.int i :: st) h c s := by
  subst he
  have h1 := kk.1
  refine ⟨⟨by omega, by omega⟩, fun a b x9 y9 => y_newa hp hd ht9 hty hok hpr harr hg.2.2.1 hg.2.2.2 hg.1 hg.2.1 (by show c - c0 + 1 ≤ X; omega) (by show s - s0 + i.toNatClampNeg ≤ Y; omega) ?_⟩
  have h9 := kk.2 (by omega) (by omega) x9 y9
  rw [show c + 1 - c0 = c - c0 + 1 by omega, show s + i.toNatClampNeg - s0 = s - s0 + i.toNatClampNeg by omega] at h9
  exact h9
theorem y_Unewq {t n i9 : Nat} {i : Int32} {C9 : String} (hp : pc + 3 = pc2) (hd : decode M.2.1 pc = .ok (.anewarray i9, 3)) (ht9 : t < n_ay) (hty : t_ay t = .object C9) (hcl : Cond.classLink M.1.cls i9 C9 ∈ y_tb) (hov : Cond.arrayOver (.object C9) ∈ y_tb) (hg : 10 ≤ n ∧ y_K h n = 0 ∧ ¬ i < 0 ∧ i.toNatClampNeg * 4 ≤ 536870912) (he : h2 = s_new h n (100 + t) i.toNatClampNeg)
    (kk : y_U l G z F L X Y c0 s0 cz sz M ad0 h0 r h1 pc2 lv (y_p n :: st) h2 (c + 1) (s + i.toNatClampNeg)) : y_U l G z F L X Y c0 s0 cz sz M ad0 h0 r h1 pc lv (.int i :: st) h c s := by
  subst he
  have h1 := kk.1
  refine ⟨⟨by omega, by omega⟩, fun a b x9 y9 => y_newq hp hd ht9 hty hcl hov hg.2.2.1 hg.2.2.2 hg.1 hg.2.1 (by show c - c0 + 1 ≤ X; omega) (by show s - s0 + i.toNatClampNeg ≤ Y; omega) ?_⟩
  have h9 := kk.2 (by omega) (by omega) x9 y9
  rw [show c + 1 - c0 = c - c0 + 1 by omega, show s + i.toNatClampNeg - s0 = s - s0 + i.toNatClampNeg by omega] at h9
  exact h9
theorem y_UcallV {i n ci c2 s2 F' L' : Nat} {q0 : vw_C} {N : y_M} {As stk : List Value} {b : Nat} {r2 : Option Value} (hp : pc + 3 = pc2) (hd : decode M.2.1 pc = .ok (.invokevirtual i, 3)) (hN : y_N0 N n) (hl0 : y_lnk M.1.cls i N) (hins : Cond.instanceMethod N.1 ∈ y_tb) (hsel : Cond.selects N.1.cls N.1 N.1 ∈ y_tb) (hc0 : c_l[ci]? = some q0) (hq0 : q0.1 = N.1.cls) (hci : ci < 99) (hbk : y_K h b = ci + 1) (hn : As.length = n) (hstk : stk = As.reverse ++ y_p b :: st) (hroom : F' + 1 ≤ F ∧ 8 + (N.2.2.1 + 11) + L' ≤ L) (hcat : (st.map fun v => v.category).sum ≤ 8)
    (hS : (c ≤ c2 ∧ s ≤ s2) ∧ y_S l G N (y_Rm F' L' c s c2 s2) (y_p b :: As) h r2 h2) (kk : y_U l G z F L X Y c0 s0 cz sz M ad0 h0 r h1 pc2 lv (r2.toList ++ st) h2 c2 s2) : y_U l G z F L X Y c0 s0 cz sz M ad0 h0 r h1 pc lv stk h c s := by
  have g1 := kk.1
  have g2 := hS.1
  refine ⟨⟨by omega, by omega⟩, fun a b x9 y9 => y_callV hp hd hN hl0 hins hsel hc0 hq0 hci hbk hn hstk hroom hcat ⟨by show c - c0 + (c2 - c) ≤ X; omega, by show s - s0 + (s2 - s) ≤ Y; omega⟩ hS.2 ?_⟩
  have h9 := kk.2 (by omega) (by omega) x9 y9
  rw [show c2 - c0 = c - c0 + (c2 - c) by omega, show s2 - s0 = s - s0 + (s2 - s) by omega] at h9
  exact h9
theorem y_UcallS {i n c2 s2 F' L' : Nat} {N : y_M} {As stk : List Value} {r2 : Option Value} (hp : pc + 3 = pc2) (hd : decode M.2.1 pc = .ok (.invokestatic i, 3)) (hN : y_N0 N n) (hl0 : y_lnk M.1.cls i N) (hstt : Cond.static N.1 ∈ y_tb) (hn : As.length = n) (hstk : stk = As.reverse ++ st) (hroom : F' + 1 ≤ F ∧ 8 + (N.2.2.1 + 11) + L' ≤ L) (hcat : (st.map fun v => v.category).sum ≤ 8)
    (hS : (c ≤ c2 ∧ s ≤ s2) ∧ y_S l G N (y_Rm F' L' c s c2 s2) As h r2 h2) (kk : y_U l G z F L X Y c0 s0 cz sz M ad0 h0 r h1 pc2 lv (r2.toList ++ st) h2 c2 s2) : y_U l G z F L X Y c0 s0 cz sz M ad0 h0 r h1 pc lv stk h c s := by
  have g1 := kk.1
  have g2 := hS.1
  refine ⟨⟨by omega, by omega⟩, fun a b x9 y9 => y_callS hp hd hN hl0 hstt hn hstk hroom hcat ⟨by show c - c0 + (c2 - c) ≤ X; omega, by show s - s0 + (s2 - s) ≤ Y; omega⟩ hS.2 ?_⟩
  have h9 := kk.2 (by omega) (by omega) x9 y9
  rw [show c2 - c0 = c - c0 + (c2 - c) by omega, show s2 - s0 = s - s0 + (s2 - s) by omega] at h9
  exact h9
theorem y_UcallI {i n ci c2 s2 F' L' : Nat} {N : y_M} {As stk : List Value} {b : Nat} {r2 : Option Value} (hp : pc + 3 = pc2) (hd : decode M.2.1 pc = .ok (.invokespecial i, 3)) (hN : y_N0 N n) (hN2 : N.2.2.2 = none) (hnm9 : N.1.name = "<init>") (hl0 : y_lnk M.1.cls i N) (hins : Cond.instanceMethod N.1 ∈ y_tb) (hbk : y_K h b = ci + 1) (hn : As.length = n) (hstk : stk = As.reverse ++ y_p b :: st) (hroom : F' + 1 ≤ F ∧ 8 + (N.2.2.1 + 11) + L' ≤ L) (hcat : (st.map fun v => v.category).sum ≤ 8)
    (hS : (c ≤ c2 ∧ s ≤ s2) ∧ y_S l G N (y_Rm F' L' c s c2 s2) (y_p b :: As) h r2 h2) (kk : y_U l G z F L X Y c0 s0 cz sz M ad0 h0 r h1 pc2 lv (r2.toList ++ st) h2 c2 s2) : y_U l G z F L X Y c0 s0 cz sz M ad0 h0 r h1 pc lv stk h c s := by
  have g1 := kk.1
  have g2 := hS.1
  refine ⟨⟨by omega, by omega⟩, fun a b x9 y9 => y_callI hp hd hN hN2 hnm9 hl0 hins hbk hn hstk hroom hcat ⟨by show c - c0 + (c2 - c) ≤ X; omega, by show s - s0 + (s2 - s) ≤ Y; omega⟩ hS.2 ?_⟩
  have h9 := kk.2 (by omega) (by omega) x9 y9
  rw [show c2 - c0 = c - c0 + (c2 - c) by omega, show s2 - s0 = s - s0 + (s2 - s) by omega] at h9
  exact h9
theorem y_iretU {x rz : Int32} {hz : y_H} (hf : some ((x, c, s), h) = some ((rz, cz, sz), hz)) (hd : decode M.2.1 pc = .ok (.ireturn, 1)) (hr : M.2.2.2 = some .int) : y_U l G z F L X Y c0 s0 cz sz M ad0 h0 (some (.int rz)) hz pc lv [.int x] h c s := by
  cases hf
  exact ⟨⟨Nat.le_refl _, Nat.le_refl _⟩, fun _ _ x9 y9 => y_iret hd hr x9 y9⟩
theorem y_zretU {x rz : Bool} {hz : y_H} (hf : some ((x, c, s), h) = some ((rz, cz, sz), hz)) (hd : decode M.2.1 pc = .ok (.ireturn, 1)) (hr : M.2.2.2 = some .boolean) : y_U l G z F L X Y c0 s0 cz sz M ad0 h0 (some (.int (y_z rz))) hz pc lv [.int (y_z x)] h c s := by
  cases hf
  exact ⟨⟨Nat.le_refl _, Nat.le_refl _⟩, fun _ _ x9 y9 => y_zret hd hr x9 y9⟩
theorem y_lretU {x rz : Int64} {hz : y_H} (hf : some ((x, c, s), h) = some ((rz, cz, sz), hz)) (hd : decode M.2.1 pc = .ok (.lreturn, 1)) (hr : M.2.2.2 = some .long) : y_U l G z F L X Y c0 s0 cz sz M ad0 h0 (some (.long rz)) hz pc lv [.long x] h c s := by
  cases hf
  exact ⟨⟨Nat.le_refl _, Nat.le_refl _⟩, fun _ _ x9 y9 => y_lret hd hr x9 y9⟩
theorem y_vretU {rz : Unit} {hz : y_H} (hf : some (((), c, s), h) = some ((rz, cz, sz), hz)) (hd : decode M.2.1 pc = .ok (.return_, 1)) (hr : M.2.2.2 = none) : y_U l G z F L X Y c0 s0 cz sz M ad0 h0 none hz pc lv [] h c s := by
  cases hf
  exact ⟨⟨Nat.le_refl _, Nat.le_refl _⟩, fun _ _ x9 y9 => y_vret hd hr x9 y9⟩
theorem y_aretU {x rz : Nat} {hz : y_H} {rt : FieldType} (hf : some ((x, c, s), h) = some ((rz, cz, sz), hz)) (hd : decode M.2.1 pc = .ok (.areturn, 1)) (hr : M.2.2.2 = some rt) (hrt : (∃ n, rt = .object n) ∨ ∃ t, rt = .array t) : y_U l G z F L X Y c0 s0 cz sz M ad0 h0 (some (y_p rz)) hz pc lv [y_p x] h c s := by
  cases hf
  exact ⟨⟨Nat.le_refl _, Nat.le_refl _⟩, fun _ _ x9 y9 => y_aret hd hr hrt x9 y9⟩
end YU
section YU0
variable {l : Launch} {G : y_G} {z : Heap} {F L X Y c0 s0 cz sz : Nat} {M : y_M} {ad0 : Nat → Nat} {h0 h1 : y_H} {r : Option Value} {pc pc2 : Nat} {lv : List (Nat × Value)} {st : List Value} {h h2 : y_H} {c s : Nat}
/-- calls of methods that make nothing -/
theorem y_UcV0 {i n ci : Nat} {q0 : vw_C} {N : y_M} {rm : Room} {As stk : List Value} {b : Nat} {r2 : Option Value} (hp : pc + 3 = pc2) (hd : decode M.2.1 pc = .ok (.invokevirtual i, 3)) (hN : y_N0 N n) (hl0 : y_lnk M.1.cls i N) (hins : Cond.instanceMethod N.1 ∈ y_tb) (hsel : Cond.selects N.1.cls N.1 N.1 ∈ y_tb) (hc0 : c_l[ci]? = some q0) (hq0 : q0.1 = N.1.cls) (hci : ci < 99) (hbk : y_K h b = ci + 1) (hn : As.length = n) (hstk : stk = As.reverse ++ y_p b :: st) (hroom : rm.frames + 1 ≤ F ∧ 8 + (N.2.2.1 + 11) + rm.locals ≤ L) (hcat : (st.map fun v => v.category).sum ≤ 8) (hrc : rm.cells = 0) (hrs : rm.slots = 0)
    (hS : y_S l G N rm (y_p b :: As) h r2 h2) (kk : y_U l G z F L X Y c0 s0 cz sz M ad0 h0 r h1 pc2 lv (r2.toList ++ st) h2 c s) : y_U l G z F L X Y c0 s0 cz sz M ad0 h0 r h1 pc lv stk h c s := by
  have g1 := kk.1
  refine ⟨g1, fun a b x9 y9 => y_callV hp hd hN hl0 hins hsel hc0 hq0 hci hbk hn hstk hroom hcat ⟨by show c - c0 + rm.cells ≤ X; omega, by show s - s0 + rm.slots ≤ Y; omega⟩ hS ?_⟩
  rw [hrc, hrs]
  exact kk.2 a b x9 y9
theorem y_UcS0 {i n : Nat} {N : y_M} {rm : Room} {As stk : List Value} {r2 : Option Value} (hp : pc + 3 = pc2) (hd : decode M.2.1 pc = .ok (.invokestatic i, 3)) (hN : y_N0 N n) (hl0 : y_lnk M.1.cls i N) (hstt : Cond.static N.1 ∈ y_tb) (hn : As.length = n) (hstk : stk = As.reverse ++ st) (hroom : rm.frames + 1 ≤ F ∧ 8 + (N.2.2.1 + 11) + rm.locals ≤ L) (hcat : (st.map fun v => v.category).sum ≤ 8) (hrc : rm.cells = 0) (hrs : rm.slots = 0)
    (hS : y_S l G N rm As h r2 h2) (kk : y_U l G z F L X Y c0 s0 cz sz M ad0 h0 r h1 pc2 lv (r2.toList ++ st) h2 c s) : y_U l G z F L X Y c0 s0 cz sz M ad0 h0 r h1 pc lv stk h c s := by
  have g1 := kk.1
  refine ⟨g1, fun a b x9 y9 => y_callS hp hd hN hl0 hstt hn hstk hroom hcat ⟨by show c - c0 + rm.cells ≤ X; omega, by show s - s0 + rm.slots ≤ Y; omega⟩ hS ?_⟩
  rw [hrc, hrs]
  exact kk.2 a b x9 y9
theorem y_UcI0 {i n ci : Nat} {N : y_M} {rm : Room} {As stk : List Value} {b : Nat} {r2 : Option Value} (hp : pc + 3 = pc2) (hd : decode M.2.1 pc = .ok (.invokespecial i, 3)) (hN : y_N0 N n) (hN2 : N.2.2.2 = none) (hnm9 : N.1.name = "<init>") (hl0 : y_lnk M.1.cls i N) (hins : Cond.instanceMethod N.1 ∈ y_tb) (hbk : y_K h b = ci + 1) (hn : As.length = n) (hstk : stk = As.reverse ++ y_p b :: st) (hroom : rm.frames + 1 ≤ F ∧ 8 + (N.2.2.1 + 11) + rm.locals ≤ L) (hcat : (st.map fun v => v.category).sum ≤ 8) (hrc : rm.cells = 0) (hrs : rm.slots = 0)
    (hS : y_S l G N rm (y_p b :: As) h r2 h2) (kk : y_U l G z F L X Y c0 s0 cz sz M ad0 h0 r h1 pc2 lv (r2.toList ++ st) h2 c s) : y_U l G z F L X Y c0 s0 cz sz M ad0 h0 r h1 pc lv stk h c s := by
  have g1 := kk.1
  refine ⟨g1, fun a b x9 y9 => y_callI hp hd hN hN2 hnm9 hl0 hins hbk hn hstk hroom hcat ⟨by show c - c0 + rm.cells ≤ X; omega, by show s - s0 + rm.slots ≤ Y; omega⟩ hS ?_⟩
  rw [hrc, hrs]
  exact kk.2 a b x9 y9
end YU0
