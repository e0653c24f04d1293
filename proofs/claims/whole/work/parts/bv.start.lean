/-! the start: the heap of names as it is at the law's entry, and the claim out of the pure law -/
theorem lw_mem {w : Cond} (i : Nat) (h : tables_1[i]? = some w) : w ∈ lw_tbl := List.mem_append_right _ (List.mem_of_getElem? h)
theorem st_ic (ci : Nat) (q : vw_C) (hc : c_l[ci]? = some q) : ∃ n, Cond.instantiable q.1 n ∈ lw_tbl := by
  match ci, hc with
  | 0, hc => cases hc; exact ⟨14, lw_mem 115 (by decide +kernel)⟩
  | 1, hc => cases hc; exact ⟨8, lw_mem 532 (by decide +kernel)⟩
  | 2, hc => cases hc; exact ⟨15, lw_mem 347 (by decide +kernel)⟩
  | 3, hc => cases hc; exact ⟨8, lw_mem 656 (by decide +kernel)⟩
  | 4, hc => cases hc; exact ⟨10, lw_mem 208 (by decide +kernel)⟩
  | 5, hc => cases hc; exact ⟨5, lw_mem 108 (by decide +kernel)⟩
  | 6, hc => cases hc; exact ⟨10, lw_mem 1158 (by decide +kernel)⟩
  | 7, hc => cases hc; exact ⟨14, lw_mem 946 (by decide +kernel)⟩
  | 8, hc => cases hc; exact ⟨14, lw_mem 252 (by decide +kernel)⟩
  | 9, hc => cases hc; exact ⟨2, lw_mem 40 (by decide +kernel)⟩
  | 10, hc => cases hc; exact ⟨13, lw_mem 26 (by decide +kernel)⟩
  | 11, hc => cases hc; exact ⟨7, lw_mem 18 (by decide +kernel)⟩
  | 12, hc => cases hc; exact ⟨95, lw_mem 1551 (by decide +kernel)⟩
  | n + 13, hc => simp [c_l, vwCl] at hc
theorem st_arP {args : Array Value} {s : State} {ty : FieldType} (hno : ∀ C, ty ≠ .object C) (h : (Cond.arrayClass ty).before args s = true) : ∃ cA, ArrOfT s cA ty ∧ va_RA s cA ty := by
  obtain ⟨c, k, comp, h1, h2, h3⟩ := Cond.arrayClass_spec h
  refine ⟨c, fun n z => ⟨fun q hq => (by cases hq), k, h2, comp, h3⟩, ?_⟩
  cases ty with
  | object C => exact absurd rfl (hno C)
  | _ => exact h1
theorem st_arO {args : Array Value} {s : State} {C : String} (h : (Cond.arrayOver (.object C)).before args s = true) : ∃ cA, ArrOfT s cA (.object C) ∧ va_RA s cA (.object C) := by
  obtain ⟨comp, c, k, h1, h2, h3, h4, h5⟩ := Cond.arrayOver_spec h
  exact ⟨c, fun n z => ⟨fun q hq => (by cases hq), k, h3, comp, h4⟩, k, comp, h3, h4, h1, h5⟩
theorem st_arA {args : Array Value} {s : State} {t : FieldType} (h : (Cond.arrayOver (.array t)).before args s = true) : ∃ cA, ArrOfT s cA (.array t) ∧ va_RA s cA (.array t) := by
  obtain ⟨comp, c, k, h1, h2, h3, h4, h5⟩ := arrayOverA_spec h
  exact ⟨c, fun n z => ⟨fun q hq => (by cases hq), k, h3, comp, h4⟩, h5⟩
theorem st_ar {args : Array Value} {s : State} (hts : ∀ w ∈ lw_tbl, w.before args s = true) (t : Nat) (ht : t < n_ay) : ∃ cA, ArrOfT s cA (t_ay t) ∧ va_RA s cA (t_ay t) := by
  match t, ht with
  | 0, _ => exact st_arP (fun C h => by cases h) (hts _ (lw_mem 53 (by decide +kernel)))
  | 1, _ => exact st_arP (fun C h => by cases h) (hts _ (lw_mem 1194 (by decide +kernel)))
  | 2, _ => exact st_arP (fun C h => by cases h) (hts _ (lw_mem 1058 (by decide +kernel)))
  | 3, _ => exact st_arO (hts _ (lw_mem 32 (by decide +kernel)))
  | 4, _ => exact st_arO (hts _ (lw_mem 34 (by decide +kernel)))
  | 5, _ => exact st_arO (hts _ (lw_mem 36 (by decide +kernel)))
  | 6, _ => exact st_arO (hts _ (lw_mem 38 (by decide +kernel)))
  | 7, _ => exact st_arO (hts _ (lw_mem 114 (by decide +kernel)))
  | 8, _ => exact st_arA (hts _ (lw_mem 258 (by decide +kernel)))
  | n + 9, h => exact absurd h (by unfold n_ay; omega)
theorem st_slk {args : Array Value} {s : State} (hts : ∀ w ∈ lw_tbl, w.before args s = true) (hgv : (Jvm.Cond.and given_1 narrow_1).before args s = true) :
    ∃ t : Nat, (Term.static "BoxYard$Search" "SLACKS" "[I").eval args s none [] s = some (.ref t) ∧ va_T .int t 5 (fun j => .int (h_sl j)) (fun q => s.heap.size ≤ q) s s.heap ∧ va_Z "BoxYard$Search" "SLACKS" "[I" (.ref t) (fun q => s.heap.size ≤ q) s s.heap := by
  have hs := flat_of_before _ hgv
  have hA : ∀ a : Nat, a < s.heap.size → ¬ s.heap.size ≤ a := fun a h => Nat.not_le.mpr h
  obtain ⟨t, h1, h2⟩ := va_Tof (N := 5) (f := fun j => .int (h_sl j)) (A := fun q => s.heap.size ≤ q) (by decide) (hs (Cond.arrayOf (Term.static "BoxYard$Search" "SLACKS" "[I") .int) (by decide +kernel)) (va_eqt (hs (Cond.eq (Term.length (Term.static "BoxYard$Search" "SLACKS" "[I")) (Term.int 5)) (by decide +kernel))) (fun j hj => by
    match j, hj with
    | 0, _ => exact va_eqt (hs (Cond.eq (Term.elem (Term.static "BoxYard$Search" "SLACKS" "[I") (Term.int 0)) (Term.int 0)) (by decide +kernel))
    | 1, _ => exact va_eqt (hs (Cond.eq (Term.elem (Term.static "BoxYard$Search" "SLACKS" "[I") (Term.int 1)) (Term.int 1)) (by decide +kernel))
    | 2, _ => exact va_eqt (hs (Cond.eq (Term.elem (Term.static "BoxYard$Search" "SLACKS" "[I") (Term.int 2)) (Term.int 3)) (by decide +kernel))
    | 3, _ => exact va_eqt (hs (Cond.eq (Term.elem (Term.static "BoxYard$Search" "SLACKS" "[I") (Term.int 3)) (Term.int 6)) (by decide +kernel))
    | 4, _ => exact va_eqt (hs (Cond.eq (Term.elem (Term.static "BoxYard$Search" "SLACKS" "[I") (Term.int 4)) (Term.int 1048576)) (by decide +kernel))
    | n + 5, h => exact absurd h (by omega)) hA
  exact ⟨t, h1, h2, va_Zof (hts _ (lw_mem 1210 (by decide +kernel))) (hts _ (lw_mem 15 (by decide +kernel))) h1 hA⟩
theorem st_apart {s : State} {b t : Nat} (hgv : (Jvm.Cond.and given_1 narrow_1).before #[Value.ref b] s = true) (ht : (Term.static "BoxYard$Search" "SLACKS" "[I").eval #[Value.ref b] s none [] s = some (.ref t)) : b ≠ t := by
  rintro rfl
  have hs := flat_of_before _ hgv (Cond.not (Cond.eq (Term.arg 0) (Term.static "BoxYard$Search" "SLACKS" "[I"))) (by decide +kernel)
  have h1 : (Term.arg 0).eval #[Value.ref b] s none [] s = some (.ref b) := rfl
  simp [Cond.before, Cond.holds, Cond.value, h1, ht] at hs
/-- the heap of names at the start -/
theorem st_R {G : y_G} {s : State} {b L t : Nat} {xs : Nat → Int32} {scr slk : Cell} (h1 : s.heap[b]? = some scr) (h2 : scr.cls = G.2.2.2 1) (h3 : ∀ q, scr.vm ≠ .statics q) (h4 : scr.vm ≠ .unknown) (h5 : scr.slots.size = L) (h6 : ∀ j : Nat, j < L → scr.slots[j]? = some (.int (xs j)))
    (k1 : s.heap[t]? = some slk) (k2 : slk.cls = G.2.2.2 2) (k3 : ∀ q, slk.vm ≠ .statics q) (k4 : slk.vm ≠ .unknown) (k5 : 5 ≤ slk.slots.size ∧ slk.slots.size.toInt32 = nI 5) (k6 : ∀ j : Nat, j < 5 → slk.slots[j]? = some (.int (h_sl j))) (hbt : b ≠ t) (hG : G.2.2.1 = t) : y_R G s.heap (fun n => if n = 1 then b else t) (h_init L xs) s.heap := by
  have kn : ∀ n, y_K (h_init L xs) n ≠ 0 → n = 1 ∨ n = 2 := by
    intro n hn
    by_cases e1 : n = 1
    · exact Or.inl e1
    · by_cases e2 : n = 2
      · exact Or.inr e2
      · exact absurd (show y_K (h_init L xs) n = 0 by simp [y_K, h_init, e1, e2]) hn
  refine ⟨⟨Nat.le_refl _, fun q _ => rfl⟩, rfl, fun n hn => ?_, fun n m hn hm e => ?_, fun n hn hlt => ?_, fun n k hn hk => ?_, fun _ => hG.symm⟩
  · rcases kn n hn with rfl | rfl
    · refine ⟨scr, h1, h2, h3, h4, ⟨?_, ?_⟩, fun k hk => ?_⟩
      · show L ≤ _
        omega
      · show _ = nI L
        rw [h5]; rfl
      · exact h6 k hk
    · exact ⟨slk, k1, k2, k3, k4, k5, k6⟩
  · rcases kn n hn with rfl | rfl <;> rcases kn m hm with rfl | rfl
    · rfl
    · exact absurd e hbt
    · exact absurd e.symm hbt
    · rfl
  · rcases kn n hn with rfl | rfl
    · exact absurd hlt (show ¬ (200 : Nat) < 200 by decide)
    · exact absurd hlt (show ¬ (200 : Nat) < 200 by decide)
  · exact absurd rfl hk
/-! THE CLAIM OUT OF ONE WALK OF THE LAW'S BODY. Your part is whole_start (and what it stands on); all else here is the same for every law, but numbers. -/
def R_law : String := "BoxYardLaw"
def lw_P (b : Addr) (xs : List Int32) (args : Array Value) (s : State) : Prop := args = #[.ref b] ∧ s.IntsAt b xs ∧ xs.length ≤ 3072 ∧ (Jvm.Cond.and given_1 narrow_1).before args s = true
def lw_Q (_ : Array Value) (s : State) (o : Outcome) (t : State) : Prop := o = .returned (some (.int 1)) ∧ Framed s o t [] 600000 7302249
def lw_Z (below : List Frame) (a : Array Value) (s : State) : State → Prop := fun t => ∃ o, t.status = .running ∧ Ended t below o ∧ lw_Q a s o t
/-- the law's own end, with 1 on the stack, nothing written that was there before, its room as the claim has it -/
theorem lw_ret {p : Program} {l : Launch} {e : Env} {s : State} {m : MethodId} {below : List Frame} {meth : Method} {c : Code} {b : Nat} (hx : p.tables.exec = Jvm.exec) (hb : c.code = code) (hr : meth.sig.returnType = ret) (hlocks : meth.locks = false) {pc : Nat} {H : Heap} {ls : Array Slot} (hdg : decode code pc = .ok (.ireturn, 1)) : W p l e room_1 s m #[Value.ref b] below meth c H [] 600000 7302249 (lw_Z below #[Value.ref b] s) (F0 m pc ls [.int 1]) := by
  intro T hT X
  obtain ⟨fs, hret, hrun, hended, hW, hframe⟩ := X.leave (v := some (.int 1)) (hlocks := hlocks) (fun h => by rw [hr] at h; cases h)
  have hmeth' : T.vm.method? m = some meth := X.method'
  refine ⟨T.setFrames fs, ?_, .returned (some (.int 1)), hrun, hended, rfl, ⟨_, rfl⟩, hW, hframe⟩
  jvm_step X.here [X.here.top, hx, hb, hdg, hmeth', hr, ret, narrow_b1]
  (try refine ⟨rfl, ?_⟩); (try refine ⟨rfl, ?_⟩)
  first | (intro acts; rw [hret _ acts rfl rfl rfl]) | rw [hret _ _ rfl rfl rfl]
  exact Steps.refl _
/-- what holds at the law's entry: the machine, the code, the tables' words (any of lw_tbl by 'hts w (by decide +kernel)'), the script of L ints xs at the cell b, what the Statement gives of the start (any of its parts by flat_of_before) -/
def lw_At (p : Program) (s : State) (m : MethodId) (meth : Method) (c : Code) (b L : Nat) (xs : Nat → Int32) : Prop :=
  p.tables.exec = Jvm.exec ∧ c.code = code ∧ meth.sig.returnType = ret ∧ c.maxLocals = 4 ∧ s.vm.findClass R_law = some m.cls ∧ (∀ w ∈ lw_tbl, w.before #[Value.ref b] s = true) ∧ va_X b L xs s s.heap ∧ b < s.heap.size ∧ meth.locks = false ∧ (Jvm.Cond.and given_1 narrow_1).before #[Value.ref b] s = true
theorem lw_end {below : List Frame} {G : y_G} {ad0 : Nat → Nat} {h0 h1 : y_H} {a : Array Value} {s t : State} (h : MQ below (y_Qc G s.heap ad0 h0 (some (.int (y_z true))) h1) a s 600000 7302249 (fun q => s.heap.size ≤ q) t) : lw_Z below a s t := by
  obtain ⟨o, g1, g2, ⟨ad, rfl, -⟩, Lc, ⟨f1, f2, f3⟩, f4⟩ := h
  exact ⟨_, g1, g2, rfl, f1, f2, State.sameButNew.drop_fresh (L := []) (J := Lc) f3 f4⟩
theorem whole_of {p : Program} {e : Env} {s : State} {m : MethodId} {below : List Frame} {meth : Method} {c : Code} (l : Launch) {b L : Nat} {xs : Nat → Int32} (hP : PureLaw) (hL : L ≤ 3072) (C0 : lw_At p s m meth c b L xs) (hnm : meth.name = x.name) : W p l e room_1 s m #[Value.ref b] below meth c s.heap [] 0 0 (lw_Z below #[Value.ref b] s) (entryFrame m ([Value.ref b] : List Value).toArray 4) := by
  obtain ⟨hx, hb, hr, hml, hown, hts, hX, hbl, hlk, hgv⟩ := C0
  obtain ⟨cz, sz, hz, hf, hcz, hsz⟩ := hP L xs hL
  have e1 : ∀ ci : Nat, ∃ D : ClassId × (Nat → Nat), ∀ q, c_l[ci]? = some q → u_Kn s q.1 q.2.1 q.2.2 D.1 D.2 := by
    intro ci
    cases hc : c_l[ci]? with
    | none => exact ⟨(0, fun _ => 0), fun q hq => by cases hq⟩
    | some q0 =>
      obtain ⟨n, hn⟩ := st_ic ci q0 hc
      obtain ⟨cC, iS, h9⟩ := u_known (ws := y_tb) (fun w hw => hts w (List.mem_filter.mp hw).1) (st_in ci q0 hc) (hts _ hn)
      exact ⟨(cC, iS), fun q hq => by cases hq; exact h9⟩
  obtain ⟨D, hD⟩ := Classical.axiomOfChoice e1
  have e2 : ∀ t : Nat, ∃ cA : ClassId, t < n_ay → ArrOfT s cA (t_ay t) ∧ va_RA s cA (t_ay t) := by
    intro t
    by_cases ht : t < n_ay
    · obtain ⟨cA, h9⟩ := st_ar hts t ht
      exact ⟨cA, fun _ => h9⟩
    · exact ⟨0, fun h => absurd h ht⟩
  obtain ⟨A, hA⟩ := Classical.axiomOfChoice e2
  obtain ⟨t, ht, ⟨slk, k1, k2, k3, k4, k5, k6, -⟩, hZ⟩ := st_slk hts hgv
  obtain ⟨scr, x1, x2, x3, x4, x5⟩ := hX
  let G : y_G := ((fun ci => (D ci).1, fun ci => (D ci).2), A, t, fun n => if n = 1 then scr.cls else slk.cls)
  have hR : y_R G s.heap (fun n => if n = 1 then b else t) (h_init L xs) s.heap := st_R x1 rfl x2.1 x3 x4 x5 k1 rfl k2.1 k3 ⟨k4, k5⟩ k6 (st_apart hgv ht) rfl
  have hK : va_K G.1 c_l (y_tys G) s := by
    refine ⟨fun ci q hq => hD ci q hq, fun k q hk => ?_⟩
    by_cases hk9 : k < n_ay
    · rw [y_tys_at G hk9] at hk
      cases hk
      exact hA k hk9
    · have hl9 : (y_tys G).length = n_ay := by simp [y_tys]
      rw [List.getElem?_eq_none (by omega)] at hk
      cases hk
  have hRO : ∀ n, ArrOfT s (G.2.2.2 n) .int := by
    intro n k z9
    show s.isArrayOf (arrV (if n = 1 then scr.cls else slk.cls) k z9) .int
    by_cases e9 : n = 1
    · rw [if_pos e9]
      exact ⟨fun q hq => (by cases hq), x2.2⟩
    · rw [if_neg e9]
      exact ⟨fun q hq => (by cases hq), k2.2⟩
  have C : y_X G s.heap M_L_law p s m #[Value.ref b] meth c := ⟨hx, hb, hr, hml, hown, fun w hw => hts w (List.mem_filter.mp hw).1, hlk, hnm, hK, hZ, hRO⟩
  have hl := lv_entry ([Value.ref b] : List Value) (n := 4) (show 1 ≤ 4 by decide)
  rw [lg_entry_eq]
  have hV := (k_L_law (l := l) (G := G) (z := s.heap) (ad0 := fun n => if n = 1 then b else t) hf).2 (Nat.le_refl _) (Nat.le_refl _) hcz hsz
  have hW := hV p e s m #[Value.ref b] below meth c C (fun n => if n = 1 then b else t) s.heap [] _ hR (fun n hn => ⟨rfl, rfl⟩) (fun q hq => by
    rw [List.mem_singleton.mp hq]
    exact y_p_al (h := h_init L xs) (n := 1) (Or.inr (show (200 : Nat) ≠ 0 by decide))) (fun v hv => by cases hv) (fun q hq => by cases hq) hl
  intro T hT X
  obtain ⟨tt, a1, b1⟩ := hW T hT X
  exact ⟨tt, a1, lw_end b1⟩
set_option maxHeartbeats 4000000 in
theorem lw_walk (hPL : PureLaw) (l : Launch) (b : Addr) (xs : List Int32) : MetFree l x (headSpec (Jvm.Cond.code x code maxLocals ret :: tables_1) room_1) (lw_P b xs) (fun _ _ _ _ _ => True) lw_Q := by
  refine MetFree.of_bodyS (code := code) (maxLocals := maxLocals) (ret := ret) (by decide) ?_ ?_
  · intro args s m h hn
    obtain ⟨meth, c, h1, h2, h3, h4, h5, h6, -, -⟩ := Cond.code_spec hn (atoms_spec (ws := Jvm.Cond.code x code maxLocals ret :: tables_1) h _ List.mem_cons_self)
    exact ⟨meth, c, h1, h2, h3, h4, h5, h6⟩
  · intro p e s m args below meth c s₁ B hml0 hP _
    obtain ⟨rfl, hx, hbd, hgv⟩ := hP
    obtain ⟨scr, harrAt, hlist, hof, hsmall⟩ := hx
    obtain ⟨hcb, hkn, -, -⟩ := State.arrayAt?_spec harrAt
    have hown : s.vm.findClass R_law = some m.cls := findClass_of_methodNamed B.named
    have hts0 : ∀ c ∈ (Jvm.Cond.code x code maxLocals ret :: tables_1), c.before #[Value.ref b] s = true := atoms_spec (ws := Jvm.Cond.code x code maxLocals ret :: tables_1) B.pre
    have hts : ∀ w ∈ lw_tbl, w.before #[Value.ref b] s = true := k2_hts_sels lw_privs (fun w hw => hts0 w (List.mem_cons_of_mem _ hw)) lw_privs_ok
    have hml : c.maxLocals = 4 := B.maxLocals_eq (hts0 _ List.mem_cons_self)
    have X₀ : Stand p l e room_1 s m #[Value.ref b] below meth c s₁ [] 0 0 := Stand.of_body B
    have hh0 : s₁.heap = s.heap := by rw [B.state]; rfl
    have hsz : scr.slots.size = xs.length := by rw [← Array.length_toList, hlist, List.length_map]
    have hval : ∀ j : Nat, j < xs.length → scr.slots[j]? = some (.int (xs.getD j 0)) := fun j hj => by
      rw [← Array.getElem?_toList, hlist]
      simp [hj]
    have hbl : b < s.heap.size := (Array.getElem?_eq_some_iff.mp hcb).1
    have hX : va_X b xs.length (fun j => xs.getD j 0) s s.heap := ⟨scr, hcb, hof, hkn, hsz, hval⟩
    have K : W p l e room_1 s m #[Value.ref b] below meth c s₁.heap [] 0 0 (lw_Z below #[Value.ref b] s) (entryFrame m ([Value.ref b] : List Value).toArray 4) := by
      rw [hh0]
      exact whole_of l hPL hbd ⟨B.exec, B.bytes, B.returns, hml, hown, hts, hX, hbl, B.notSynchronized, hgv⟩ (name_of_methodNamed B.named B.method).1
    obtain ⟨t, a1, o, b1, b2, b3⟩ := K s₁ rfl X₀
    exact ⟨t, o, a1, b1, b2, b3⟩
theorem lw_pre_spec {args : Array Value} {s : State} (h : (Jvm.Cond.and given_1 narrow_1).before args s = true) (hr : rest_1_c.before args s = true) : ∃ (b : Addr) (xs : List Int32), lw_P b xs args s := by
  have hs := flat_of_before _ h
  have hq := flat_of_before _ hr
  have hc : (Cond.count 1).before args s = true := hs _ (by decide +kernel)
  have harr : (Cond.arrayOf (.arg 0) .int).before args s = true := hs _ (by decide +kernel)
  have hle : (Cond.le (.length (.arg 0)) (.int 3072)).before args s = true := hs _ (by decide +kernel)
  have hlen : (Cond.isInt (.length (.arg 0))).before args s = true := hq _ (by decide +kernel)
  have hall : (Cond.all (.arg 0) (.isInt (.elem (.arg 0) (.index 0)))).before args s = true := hq _ (by decide +kernel)
  obtain ⟨b, xs, hb, hx⟩ := State.ints_of_pre rfl harr hlen hall
  have hsm : xs.length < 2 ^ 31 := hx.choose_spec.2.2.2
  have hev : (Term.length (.arg 0)).eval args s none [] s = some (.int xs.length.toInt32) := hx.length_eval hb
  have hv := Cond.le_ints hev (show (Term.int 3072).eval args s none [] s = some (.int 3072) from rfl)
  have hd : xs.length.toInt32 ≤ 3072 := by
    simpa [Cond.before, Cond.holds, hv] using hle
  have hN : xs.length ≤ 3072 := (Int32.ofNat_le_ofNat hsm (by decide)).mp (show Int32.ofNat xs.length ≤ Int32.ofNat 3072 from hd)
  exact ⟨b, xs, Cond.one_arg hc (show args[0]? = some (.ref b) from hb), hx, hN, h⟩
theorem lw_comes (hPL : PureLaw) (l : Launch) : Comes l x (Jvm.Cond.code x code maxLocals ret :: tables_1) room_1 (fun tb e args s => Calls_1 tb e args s ∧ rest_1 tb e args s ∧ Pre_1 tb e args s)
    (fun _ _ args s o t => lw_Q args s o t) := by
  intro p e ha hc hk s m args below hf hfit hheap happ hpre
  obtain ⟨b, xs, hP⟩ := lw_pre_spec hpre.2.2 hpre.2.1
  obtain ⟨k, o, h1, h2, h3, hQ⟩ := lw_walk hPL l b xs p e ha hc hk s m args below hf ((Spec.applies_iff_loose hf).mp happ).1 hP trivial
  exact ⟨k, o, h1, h2, h3, hQ⟩
theorem lw_frame {s t : State} {o : Outcome} {args : Array Value} (h : Framed s o t [] 600000 7302249) :
    Framed s o t (fieldLocs frame_1_writes args s ++ arrayLocs frame_1_arrays args s ++ staticLocs frame_1_statics s) 600000 7302249 := h
theorem lw_limb (hPL : PureLaw) (L : Cond) (hL : ∀ (args : Array Value) (s t : State), L.after args s (.returned (some (.int 1))) t = true) :
    ArmFor flags0 classFile x code maxLocals ret World_1 tables_1 room_1 Calls_1 rest_1 Pre_1
      (fun tb e a s o t => postC L tb e a s o t ∧ Framed s o t (fieldLocs frame_1_writes a s ++ arrayLocs frame_1_arrays a s ++ staticLocs frame_1_statics s) 600000 7302249) := by
  intro l _ _ _ p e ha hc hk s m args below hf hfit hheap happ hpre
  obtain ⟨k, o, h1, h2, h3, rfl, hF⟩ := lw_comes hPL l p e ha hc hk s m args below hf hfit hheap happ hpre
  exact ⟨k, _, h1, h2, h3, hL args s _, lw_frame hF⟩
theorem i_vc_of (hPL : PureLaw) : Claimed_1_1 ∧ Claimed_1_2 := ⟨lw_limb hPL limb_1_1 (fun args s t => by simp [limb_1_1, Cond.after, Cond.holds, Cond.value]), lw_limb hPL limb_1_2 (fun args s t => Cond.after_iff.mpr (by
  first | (rw [show limb_1_2 = Cond.eq .result (.int 1) from rfl, Cond.eq_ints (x := 1) (y := 1) rfl rfl]; simp; done) | (simp [limb_1_2, Cond.value, Term.eval]; done)))⟩
