/-! `new int[4][3]`, by the model's own words: five cells come at once, the outer row and four inner ones -/
def mk_in (C : ClassId) : Cell := arrV C 3 (fun _ => .int 0)
def mk_ou (A : ClassId) (b i : Nat) : Cell := arrV A 4 (fun j => if j < i then .ref (b + 1 + j) else .null)
theorem mk_ou_next (A : ClassId) (b i : Nat) : (mk_ou A b i).setSlot i (.ref (b + 1 + i)) = mk_ou A b (i + 1) := by
  unfold mk_ou
  rw [arrV_store]
  refine congrArg (arrV A 4) (funext fun j => ?_)
  by_cases e : j = i
  · subst e; simp [updV]
  · have e2 : (j < i + 1) = (j < i) := by simp only [eq_iff_iff]; omega
    simp [updV, e, e2]
/-- one row more: an inner row at the heap's end, and its address in the outer row -/
def mk_nx (b : Nat) (A C : ClassId) (U : State) (i : Nat) : State := (U.pushCell (mk_in C)).setCell b (mk_ou A b (i + 1))
/-- what stands after i rows, U against T -/
def mk_S (T U : State) (A C : ClassId) (i : Nat) : Prop :=
  U.heap.size = T.heap.size + 1 + i ∧ (∀ q : Nat, q < T.heap.size → U.heap[q]? = T.heap[q]?) ∧ U.heap[T.heap.size]? = some (mk_ou A T.heap.size i) ∧
    (∀ j : Nat, j < i → U.heap[T.heap.size + 1 + j]? = some (mk_in C)) ∧ U.vm = T.vm ∧ U.slotsUsed = T.slotsUsed + 4 + 3 * i
theorem mk_S0 (T : State) (A C : ClassId) : mk_S T (T.pushCell (mk_ou A T.heap.size 0)) A C 0 :=
  ⟨by simp, fun q hq => State.heap_pushCell_of_lt _ _ hq, State.heap_pushCell_size _ _, fun j hj => absurd hj (Nat.not_lt_zero j), rfl, by simp [mk_ou, arrV_size]⟩
theorem mk_S1 {T U : State} {A C : ClassId} {i : Nat} (I : mk_S T U A C i) : mk_S T (mk_nx T.heap.size A C U i) A C (i + 1) := by
  obtain ⟨i1, i2, i3, i4, i5, i6⟩ := I
  have hb : T.heap.size < U.heap.size := by omega
  have hp : (U.pushCell (mk_in C)).heap[T.heap.size]? = some (mk_ou A T.heap.size i) := (State.heap_pushCell_of_lt _ _ hb).trans i3
  refine ⟨?_, fun q hq => ?_, State.heap_setCell_self hp, fun j hj => ?_, i5, ?_⟩
  · simp [mk_nx, State.setCell, i1]; omega
  · exact (State.heap_setCell_other (Nat.ne_of_gt hq)).trans ((State.heap_pushCell_of_lt _ _ (Nat.lt_trans hq hb)).trans (i2 q hq))
  · refine (State.heap_setCell_other (show T.heap.size ≠ T.heap.size + 1 + j by omega)).trans ?_
    by_cases e : j = i
    · subst e
      rw [← i1]
      exact State.heap_pushCell_size _ _
    · exact (State.heap_pushCell_of_lt _ _ (show T.heap.size + 1 + j < U.heap.size by omega)).trans (i4 j (by omega))
  · simp [mk_nx, i6, mk_in, arrV_size]; omega
section MK
variable {E : CtlPost} {e : Env} {d : Bool} {acts : List Action} {V : State}
/-- one row of defaults -/
theorem mk_row {c c1 : ClassId} {k : Class} {ty : FieldType} {len : Nat} {x : Value} (hk : V.vm.classes[c]? = some k) (ht : k.kind = .array c1 ty) (hl : len ≤ e.platform.arrayLengthLimit) (hb : len * componentBytes ty ≤ e.platform.maxHeapBytes)
    (hf : fits ty x = true) (hx : x.isDefault = true) (h1 : V.heap.size < e.platform.maxCells) (h2 : V.slotsUsed + len ≤ e.platform.maxSlots) {Q : Addr → Pre} (hq : Q V.heap.size d acts (V.pushCell (arrV c len (fun _ => x)))) :
    Jvm.Sem.wp (Jvm.newArray c len x) Q E e d acts V := by
  have a1 : allocActs (Array.replicate len x) V.heap.size acts = acts := by
    unfold allocActs
    refine if_pos ?_
    rw [Array.all_replicate]
    split <;> simp [hx]
  have a2 : ∀ i v, (Array.replicate len x)[i]? = some v → V.fitsSlot c .none i v = true := by
    intro i v hv
    rw [Array.getElem?_replicate] at hv
    split at hv
    · cases hv
      simp [State.fitsSlot, State.slotType?, hk, ht, hf]
    · cases hv
  rw [← arrV_new] at hq
  simp only [Jvm.newArray, Jvm.arrayFits, wp_bind', W.ask, W.ite, Nat.not_lt.mpr hl, gt_iff_lt, if_false, wp_pure', W.theClass, hk, ht, Nat.not_lt.mpr hb, W.alloc, W.stop, Option.some.injEq, exists_eq_left', Array.size_replicate, a1]
  rw [if_neg (by omega)]
  exact ⟨h1, h2, a2, hq⟩
/-- the inner rows' make -/
theorem mk_one {C c1 : ClassId} {k : Class} (hk : V.vm.classes[C]? = some k) (ht : k.kind = .array c1 .int) (hl : 4 ≤ e.platform.arrayLengthLimit) (hb : 32 ≤ e.platform.maxHeapBytes)
    (h1 : V.heap.size < e.platform.maxCells) (h2 : V.slotsUsed + 3 ≤ e.platform.maxSlots) {Q : Addr → Pre} (hq : Q V.heap.size d acts (V.pushCell (mk_in C))) :
    Jvm.Sem.wp (multianewarray.make C [3]) Q E e d acts V := by
  have n3 : ¬ (3 : Int32) < 0 := by decide
  rw [multianewarray.make]
  simp only [wp_bind', W.ite, n3, if_false, wp_pure', W.theClass, hk, ht, Option.some.injEq, exists_eq_left']
  exact mk_row (len := 3) hk ht (by omega) (by show 3 * 4 ≤ _; omega) rfl rfl h1 h2 hq
/-- the outer row, and the four inner ones -/
theorem mk_two {T : State} {g : JFrame} {A C c1 : ClassId} {kA kC : Class} (hA : T.vm.classes[A]? = some kA) (tA : kA.kind = .array C (.array .int)) (hC : T.vm.classes[C]? = some kC) (tC : kC.kind = .array c1 .int) (hl : 4 ≤ e.platform.arrayLengthLimit) (hb : 32 ≤ e.platform.maxHeapBytes)
    (h1 : T.heap.size + 5 ≤ e.platform.maxCells) (h2 : T.slotsUsed + 16 ≤ e.platform.maxSlots) {Q : Addr → Pre} (hq : ∀ d acts, Q T.heap.size d acts ((mk_nx T.heap.size A C (mk_nx T.heap.size A C (mk_nx T.heap.size A C (mk_nx T.heap.size A C (T.pushCell (mk_ou A T.heap.size 0)) 0) 1) 2) 3).setTop g)) :
    Jvm.Sem.wp (multianewarray.make A [4, 3]) Q E e d acts (T.setTop g) := by
  have n4 : ¬ (4 : Int32) < 0 := by decide
  have e4 : ((4 : Int32) == 0) = false := by decide
  have step : ∀ {U : State} {i : Nat} {d : Bool} {acts : List Action} {Q : ForInStep PUnit → Pre}, mk_S T U A C i → i < 4 → (∀ d acts, Q (.yield PUnit.unit) d acts ((mk_nx T.heap.size A C U i).setTop g)) → Jvm.Sem.wp (multianewarray.make C [3]) (fun a => Jvm.Sem.wp (do Jvm.writeLoc (T.setTop g).heap.size i (.ref a); Pure.pure (ForInStep.yield PUnit.unit)) Q E e) E e d acts (U.setTop g) := by
    intro U i d acts Q I hi hQ
    obtain ⟨i1, i2, i3, i4, i5, i6⟩ := I
    refine mk_one (by rw [State.vm_setTop, i5]; exact hC) tC hl hb (by rw [State.heap_setTop]; omega) (by rw [State.slotsUsed_setTop]; omega) ?_
    simp only [wp_bind', wp_pure', W.writeLoc, State.heap_setTop, State.pushCell_setTop]
    refine ⟨mk_ou A T.heap.size i, ?_, ?_, ?_, ?_, ?_⟩
    · exact (State.heap_pushCell_of_lt _ _ (show T.heap.size < U.heap.size by omega)).trans i3
    · show VmData.none ≠ .unknown
      simp
    · rw [mk_ou, arrV_size]; exact hi
    · show ((U.pushCell (mk_in C)).setTop g).fitsSlot A .none i _ = true
      simp [State.fitsSlot, State.slotType?, i5, hA, tA]
      rfl
    · rw [State.setCell_setTop, i1, mk_ou_next]
      exact hQ _ _
  have I0 := mk_S0 T A C
  have I1 := mk_S1 I0
  have I2 := mk_S1 I1
  have I3 := mk_S1 I2
  have e44 : (4 : Int32).toNatClampNeg = 4 := by decide
  rw [multianewarray.make]
  simp only [wp_bind', W.ite, n4, if_false, wp_pure', W.theClass, State.vm_setTop, hA, tA, Option.some.injEq, exists_eq_left', e4]
  refine mk_row (len := 4) (ty := .array .int) (by rw [State.vm_setTop]; exact hA) tA hl (by show 4 * 4 ≤ _; omega) rfl rfl (by rw [State.heap_setTop]; omega) (by rw [State.slotsUsed_setTop]; omega) ?_
  rw [if_neg Bool.false_ne_true, Std.Legacy.Range.forIn_eq_forIn_range']
  have eL : List.range' (([:(4 : Int32).toNatClampNeg] : Std.Legacy.Range).start) (([:(4 : Int32).toNatClampNeg] : Std.Legacy.Range).size) (([:(4 : Int32).toNatClampNeg] : Std.Legacy.Range).step) = [0, 1, 2, 3] := by decide
  rw [eL]
  simp only [List.forIn_cons, List.forIn_nil, wp_bind', wp_pure']
  rw [State.pushCell_setTop, show (arrV A 4 fun _ => Value.null) = mk_ou A T.heap.size 0 by simp [mk_ou]]
  refine step I0 (by decide) fun d0 a0 => ?_
  simp only [wp_bind']
  refine step I1 (by decide) fun d1 a1 => ?_
  simp only [wp_bind']
  refine step I2 (by decide) fun d2 a2 => ?_
  simp only [wp_bind']
  refine step I3 (by decide) fun d3 a3 => ?_
  simp only [wp_pure']
  exact hq _ _
end MK
section MK2
variable {p : Program} {l : Launch} {e : Env} {R : Room} {s : State} {m : MethodId} {args : Array Value} {below : List Frame} {meth : Method} {c : Code} {T : State} {locs : List Loc} {cells slots : Nat}
theorem mk_St {b x i n9 : Nat} {A C : ClassId} {U : State} (X : Stand p l e R s m args below meth c T locs cells slots) (Y : Stand p l e R s m args below meth c U locs x n9) (hb : b = T.heap.size) (I : mk_S T U A C i) : Stand p l e R s m args below meth c (mk_nx b A C U i) locs (x + 1) (n9 + 3) := by
  subst hb
  obtain ⟨i1, i2, i3, i4, i5, i6⟩ := I
  have Y1 := Y.pushed (mk_in C)
  have hp : (U.pushCell (mk_in C)).heap[T.heap.size]? = some (mk_ou A T.heap.size i) := (State.heap_pushCell_of_lt _ _ (show T.heap.size < U.heap.size by omega)).trans i3
  have Y2 := Y1.stored hp i (.ref (T.heap.size + 1 + i))
  rw [mk_ou_next, show (mk_in C).slots.size = 3 from arrV_size C 3 _] at Y2
  refine Y2.dropFresh fun q hq => ?_
  rw [List.mem_singleton.mp hq]
  exact X.heapGrown
/-- the step itself -/
theorem mk_43 (X : Stand p l e R s m args below meth c T locs cells slots) (hx : p.tables.exec = Jvm.exec) {own : String} {ix : Nat} (hown : s.vm.findClass own = some m.cls) (hcl : (Cond.classLink own ix "[[I").before args s = true)
    {A C c1 : ClassId} {kA kC : Class} (fA : s.vm.findClass "[[I" = some A) (hA : s.vm.classes[A]? = some kA) (tA : kA.kind = .array C (.array .int)) (hC : s.vm.classes[C]? = some kC) (tC : kC.kind = .array c1 .int)
    {g : JFrame} (hg : g.method = m) (hd : decode c.code g.pc = .ok (.multianewarray ix 2, 4)) {st : List Value} (hst : g.stack = .int 3 :: .int 4 :: st) (hcs : cells + 5 ≤ R.cells) (hsl : slots + 16 ≤ R.slots) :
    ∃ F : State, F.heap.size = T.heap.size + 5 ∧ (∀ q : Nat, q < T.heap.size → F.heap[q]? = T.heap[q]?) ∧ F.heap[T.heap.size]? = some (mk_ou A T.heap.size 4) ∧ (∀ j : Nat, j < 4 → F.heap[T.heap.size + 1 + j]? = some (mk_in C)) ∧
      Stand p l e R s m args below meth c F locs (cells + 5) (slots + 16) ∧ ∀ t, Steps p.tables e below (F.setTop { g with pc := g.pc + 4, stack := .ref T.heap.size :: st }) t → Steps p.tables e below (T.setTop g) t := by
  subst hg
  obtain ⟨A2, fA2, hln⟩ := Cond.classLink_spec hown hcl e.platform (by rw [X.admits.platform])
  cases fA.symm.trans fA2
  obtain ⟨r1, r2, -⟩ := State.classEntry (e := e) X.warmed hln
  generalize T.vm.noted g.method.cls ix (.cls A) = vm1 at r1 r2
  obtain ⟨kA1, hA1, eA⟩ := r2.alike.2.2 _ _ hA
  obtain ⟨kC1, hC1, eC⟩ := r2.alike.2.2 _ _ hC
  have tA1 : kA1.kind = .array C (.array .int) := by rw [eA]; exact tA
  have tC1 : kC1.kind = .array c1 .int := by rw [eC]; exact tC
  obtain ⟨q1, q2⟩ := X.roomAbove hcs hsl
  have X1 := X.noted r2
  have I0 := mk_S0 (T.setVm vm1) A C
  have I1 := mk_S1 I0
  have I2 := mk_S1 I1
  have I3 := mk_S1 I2
  have I4 := mk_S1 I3
  have Y0 := X1.pushed (mk_ou A (T.setVm vm1).heap.size 0)
  rw [show (mk_ou A (T.setVm vm1).heap.size 0).slots.size = 4 from arrV_size A 4 _] at Y0
  have Y4 := mk_St X1 (mk_St X1 (mk_St X1 (mk_St X1 Y0 rfl I0) rfl I1) rfl I2) rfl I3
  refine ⟨_, I4.1, I4.2.1, I4.2.2.1, I4.2.2.2.1, Y4, fun t ht => ?_⟩
  jvm_step X.here [hx, hd]
  simp only [multianewarray.sem, wp_bind', W.resolveClassAt_links (State.method?_setTop g X.here.top) r1]
  rw [W.popN, if_neg (by decide)]
  refine ⟨g, State.topJava?_setTop' (s := T.setVm vm1) g X.here.top, [.int 4, .int 3], st, rfl, hst, ?_⟩
  simp only [List.mapM_cons, List.mapM_nil, wp_bind', wp_pure']
  have eS : ∀ g2 : JFrame, ((T.setTop g).setVm vm1).setTop g2 = (T.setVm vm1).setTop g2 := fun g2 => by
    show ((T.setVm vm1).setTop g).setTop g2 = _
    rw [State.setTop_setTop]
  rw [eS]
  refine mk_two (T := T.setVm vm1) hA1 tA1 hC1 tC1 (by rw [Launch.admits_arrayLengthLimit X.admits]; decide) (by rw [Launch.admits_maxHeapBytes X.admits]; decide) q1 q2 (fun d a => ?_)
  simp only [wp_bind', W.mark, W.pushRef, State.topJava?_setTop' _ Y4.here.top, Option.some.injEq, exists_eq_left', State.setTop_setTop]
  intro a2
  simp [jvm, Y4.here.top]
  exact ht
end MK2
/-- what the word on rows over rows of ints says -/
theorem mk_over {args : Array Value} {s : State} (h : (Cond.arrayOver (.array .int)).before args s = true) : ∃ (C A : ClassId) (k : Class), s.vm.findClass "[I" = some C ∧ s.vm.findClass "[[I" = some A ∧ s.vm.classes[A]? = some k ∧ k.kind = .array C (.array .int) := by
  have e1 : (FieldType.array .int).toString = "[I" := by decide
  have e2 : "[" ++ "[I" = "[[I" := by decide
  unfold Cond.before at h
  simp only [Cond.holds, Cond.value, beq_iff_eq, e1, e2] at h
  cases hC : s.vm.findClass "[I" with
  | none => rw [hC] at h; cases h
  | some C =>
    rw [hC, Option.bind_some] at h
    obtain ⟨A, hi, h3⟩ := Option.bind_eq_some_iff.mp h
    obtain ⟨k, hk, h4⟩ := Option.map_eq_some_iff.mp h3
    obtain ⟨w1, w2, -⟩ := Array.findIdx?_eq_some_iff_getElem.mp hi
    rw [(Array.getElem?_eq_some_iff.mp hk).2] at w2
    cases hd : k.kind with
    | array C2 ty =>
      rw [hd] at h4 w2
      simp only [Bool.and_eq_true, decide_eq_true_eq, beq_iff_eq] at h4 w2
      exact ⟨C, A, k, rfl, h4.2, hk, by rw [hd, w2, h4.1]⟩
    | _ => rw [hd] at h4; cases h4
/-- cells that came at once: what was there is as it was, the new ones lie behind -/
theorem y_R_ext {G : y_G} {z : Heap} {ad ad2 : Nat → Nat} {h h2 : y_H} {H H2 : Heap} (hR : y_R G z ad h H) (hs : H.size ≤ H2.size) (ho : ∀ q : Nat, q < H.size → H2[q]? = H[q]?) (hK0 : y_K h2 0 = 0) (hK2 : y_K h2 2 = y_K h 2) (hold : ∀ a, y_K h a ≠ 0 → y_K h2 a = y_K h a ∧ y_N h2 a = y_N h a ∧ ad2 a = ad a ∧ (∀ ty k, y_v h2 ty a k = y_v h ty a k) ∧ ∀ k, y_P h2 a k = y_P h a k)
    (hnew : ∀ a, y_K h2 a ≠ 0 → y_K h a = 0 → y_at G ad2 h2 a H2 ∧ H.size ≤ ad2 a ∧ ∀ k, y_P h2 a k ≠ 0 → y_K h2 (y_P h2 a k) ≠ 0) (hinj : ∀ a b, y_K h2 a ≠ 0 → y_K h a = 0 → y_K h2 b ≠ 0 → y_K h b = 0 → ad2 a = ad2 b → a = b) : y_R G z ad2 h2 H2 := by
  have hR0 := hR
  obtain ⟨g1, g2, g3, g4, g5, g6, g7⟩ := hR
  have hlt : ∀ a, y_K h a ≠ 0 → ad a < H.size := fun a ha => y_lt hR0 ha
  refine ⟨⟨by omega, fun q hq => ?_⟩, hK0, fun a ha => ?_, fun a b ha hb e => ?_, fun a ha h2' => ?_, fun a j ha hj => ?_, fun ha => ?_⟩
  · rw [ho q (by omega)]; exact g1.2 q hq
  · by_cases e : y_K h a = 0
    · exact (hnew a ha e).1
    · obtain ⟨e1, e2, e3, e4, e5⟩ := hold a e
      refine y_at_kept e1 e2 e3 (fun ty k => ?_) (ho _ (hlt a e)) (g3 a e)
      rw [e4 ty k]
      exact y_r_same (fun b hb => (hold b hb).2.2.1) (y_v_al hR0 e ty k)
  · by_cases ea : y_K h a = 0
    · by_cases eb : y_K h b = 0
      · exact hinj a b ha ea hb eb e
      · have h1 := (hnew a ha ea).2.1
        have h3 := hlt b eb
        rw [← (hold b eb).2.2.1] at h3
        omega
    · by_cases eb : y_K h b = 0
      · have h1 := (hnew b hb eb).2.1
        have h3 := hlt a ea
        rw [← (hold a ea).2.2.1] at h3
        omega
      · rw [(hold a ea).2.2.1, (hold b eb).2.2.1] at e
        exact g4 a b ea eb e
  · by_cases ea : y_K h a = 0
    · have h1 := (hnew a ha ea).2.1
      have := g1.1
      omega
    · rw [(hold a ea).1] at h2'
      rw [(hold a ea).2.2.1]
      exact g5 a ea h2'
  · by_cases ea : y_K h a = 0
    · exact (hnew a ha ea).2.2 j hj
    · rw [(hold a ea).2.2.2.2 j] at hj ⊢
      have h3 := g6 a j ea hj
      rw [(hold _ h3).1]
      exact h3
  · rw [hK2] at ha
    rw [(hold 2 ha).2.2.1]
    exact g7 ha
theorem y_mna {l : Launch} {G : y_G} {z : Heap} {R : Room} {M : y_M} {ad0 : Nat → Nat} {h0 h1 : y_H} {r : Option Value} {pc pc2 : Nat} {lv : List (Nat × Value)} {st : List Value} {h h2 : y_H} {cells slots n i9 : Nat} (hp : pc + 4 = pc2) (hd : decode M.2.1 pc = .ok (.multianewarray i9 2, 4)) (hcl : Cond.classLink M.1.cls i9 "[[I" ∈ y_tb) (hg : 10 ≤ n ∧ n < 815 ∧ y_K h n = 0 ∧ y_K h 815 = 0 ∧ y_K h 879 = 0 ∧ y_K h 943 = 0 ∧ y_K h 1007 = 0) (hcs : cells + 5 ≤ R.cells) (hsl : slots + 16 ≤ R.slots) (he : h2 = s_mna h n)
    (kk : y_V l G z R M ad0 h0 r h1 pc2 lv (y_p n :: st) h2 (cells + 5) (slots + 16)) : y_V l G z R M ad0 h0 r h1 pc lv (.int 3 :: .int 4 :: st) h cells slots := by
  subst hp
  intro p e s m args below meth c C ad H locs ls hR hE ha hs hl hls
  obtain ⟨hx, hb, hr, hml, hown, hts, hlk, hnm, hK, hZ⟩ := id C
  obtain ⟨q1, q2, q3, q4, q5, q6, q7⟩ := hg
  intro T hT Xs
  obtain ⟨C9, A9, kA, fC, fA, hkA, tA⟩ := mk_over (hts _ w_ao8)
  have ec : C9 = G.2.1 0 := Option.some.inj (fC.symm.trans (hK.2 0 _ (y_tys_at G (t := 0) (by decide))).2)
  have eA : A9 = G.2.1 8 := Option.some.inj (fA.symm.trans (hK.2 8 _ (y_tys_at G (t := 8) (by decide))).2)
  subst ec
  subst eA
  obtain ⟨-, kC, hkC, c1, tC⟩ := (hK.2 0 _ (y_tys_at G (t := 0) (by decide))).1 3 (fun _ => .int 0)
  obtain ⟨F, f1, hold, hout, hrow, X', step⟩ := mk_43 Xs hx hown (hts _ hcl) fA hkA tA hkC tC (g := F0 m pc ls (.int 3 :: .int 4 :: st.map (y_r ad))) rfl (by rw [hb]; exact hd) rfl hcs hsl
  rw [hT] at f1 hold hout hrow
  replace hrow : ∀ j : Nat, j < 4 → F.heap[H.size + 1 + j]? = some (arrV (G.2.1 0) 3 (fun _ => .int 0)) := hrow
  replace hout : F.heap[H.size]? = some (arrV (G.2.1 8) 4 (fun j => if j < 4 then .ref (H.size + 1 + j) else .null)) := hout
  have nz : ∀ a, y_K h a ≠ 0 → ¬ a = n ∧ ¬ a = 815 ∧ ¬ a = 879 ∧ ¬ a = 943 ∧ ¬ a = 1007 := fun a h9 => ⟨fun e => h9 (by rw [e]; exact q3), fun e => h9 (by rw [e]; exact q4), fun e => h9 (by rw [e]; exact q5), fun e => h9 (by rw [e]; exact q6), fun e => h9 (by rw [e]; exact q7)⟩
  have hsame : ∀ a, y_K h a ≠ 0 → y_ad5 ad n H.size a = ad a := fun a h9 => by
    obtain ⟨e1, e2, e3, e4, e5⟩ := nz a h9
    simp [y_ad5, e1, e2, e3, e4, e5]
  have hR2 : y_R G z (y_ad5 ad n H.size) h2 F.heap := by
    subst he
    have hsz : F.heap.size = H.size + 5 := f1
    refine y_R_ext hR (by omega) hold ?_ ?_ (fun a h9 => ?_) (fun a h9 h8 => ?_) (fun a b a1 a2 b1 b2 e => ?_)
    · have e0 : ¬ (0 : Nat) = n := by omega
      simp only [y_K, s_mna, e0, if_false]
      simp
      exact hR.2.1
    · have e0 : ¬ (2 : Nat) = n := by omega
      simp only [y_K, s_mna, e0, if_false]
      simp
    · obtain ⟨e1, e2, e3, e4, e5⟩ := nz a h9
      refine ⟨by simp [y_K, s_mna, e1, e2, e3, e4, e5], by simp [y_N, s_mna, e1, e2, e3, e4, e5], hsame a h9, fun ty k => y_v_ext (h := h) (h2 := s_mna h n) (n := a) (k := k) (by simp [y_I, s_mna, e1, e2, e3, e4, e5]) (by simp [y_B, s_mna, e1, e2, e3, e4, e5]) (by simp [y_L, s_mna, e1, e2, e3, e4, e5]) (by simp [y_P, s_mna, e1, e2, e3, e4, e5]) ty, fun k => by simp [y_P, s_mna, e1, e2, e3, e4, e5]⟩
    · have inner : ∀ j : Nat, j < 4 → a = 815 + 64 * j → y_at G (y_ad5 ad n H.size) (s_mna h n) a F.heap ∧ H.size ≤ y_ad5 ad n H.size a ∧ ∀ k, y_P (s_mna h n) a k ≠ 0 → y_K (s_mna h n) (y_P (s_mna h n) a k) ≠ 0 := by
        intro j hj ea
        have en : ¬ a = n := by omega
        have ei : a = 815 ∨ a = 879 ∨ a = 943 ∨ a = 1007 := by omega
        have ead : y_ad5 ad n H.size a = H.size + 1 + j := by
          unfold y_ad5
          rw [if_neg en]
          rcases (show j = 0 ∨ j = 1 ∨ j = 2 ∨ j = 3 by omega) with rfl | rfl | rfl | rfl <;> subst ea <;> simp
        refine ⟨?_, by omega, fun k hk => absurd (by simp [y_P, s_mna, en, ei]) hk⟩
        unfold y_at
        have eK : y_K (s_mna h n) a = 100 := by simp [y_K, s_mna, en, ei]
        have eN : y_N (s_mna h n) a = 3 := by simp [y_N, s_mna, en, ei]
        rw [eK, eN, if_neg (by decide), if_pos (by decide), ead]
        refine ⟨by decide, ?_⟩
        rw [hrow j hj]
        congr 2
        funext k
        have e9 : y_I (s_mna h n) a k = 0 := by simp [y_I, s_mna, ei]
        show Value.int 0 = .int (y_I (s_mna h n) a k)
        rw [e9]
      by_cases en : a = n
      · refine ⟨?_, by simp [y_ad5, en], fun k hk => ?_⟩
        · unfold y_at
          have eK : y_K (s_mna h n) a = 108 := by simp [y_K, s_mna, en]
          have eN : y_N (s_mna h n) a = 4 := by simp [y_N, s_mna, en]
          have ead : y_ad5 ad n H.size a = H.size := by simp [y_ad5, en]
          rw [eK, eN, if_neg (by decide), if_pos (by decide), ead]
          refine ⟨by decide, ?_⟩
          rw [hout]
          congr 2
          funext k
          show _ = y_r (y_ad5 ad n H.size) (y_p (y_P (s_mna h n) a k))
          rw [y_r_p]
          by_cases hk : k < 4
          · have e9 : y_P (s_mna h n) a k = 815 + 64 * k := by simp [y_P, s_mna, en, hk]
            rw [e9, if_pos hk, if_neg (by omega)]
            unfold y_ad5
            rw [if_neg (by omega)]
            rcases (show k = 0 ∨ k = 1 ∨ k = 2 ∨ k = 3 by omega) with rfl | rfl | rfl | rfl <;> simp
          · have e9 : y_P (s_mna h n) a k = 0 := by simp [y_P, s_mna, en, hk]
            rw [e9, if_neg hk, if_pos rfl]
        · by_cases hk4 : k < 4
          · have e9 : y_P (s_mna h n) a k = 815 + 64 * k := by simp [y_P, s_mna, en, hk4]
            rw [e9]
            have e8 : ¬ 815 + 64 * k = n := by omega
            have e7 : 815 + 64 * k = 815 ∨ 815 + 64 * k = 879 ∨ 815 + 64 * k = 943 ∨ 815 + 64 * k = 1007 := by omega
            simp only [y_K, s_mna, e8, e7, if_false, if_true]
            decide
          · exact absurd (by simp [y_P, s_mna, en, hk4]) hk
      · by_cases ei : a = 815 ∨ a = 879 ∨ a = 943 ∨ a = 1007
        · rcases ei with e | e | e | e
          · exact inner 0 (by decide) e
          · exact inner 1 (by decide) e
          · exact inner 2 (by decide) e
          · exact inner 3 (by decide) e
        · exact absurd (by simpa [y_K, s_mna, en, ei] using h8) h9
    · have key : ∀ a, y_K (s_mna h n) a ≠ 0 → y_K h a = 0 → a = n ∨ a = 815 ∨ a = 879 ∨ a = 943 ∨ a = 1007 := by
        intro a h9 h8
        by_cases en : a = n
        · exact Or.inl en
        · by_cases ei : a = 815 ∨ a = 879 ∨ a = 943 ∨ a = 1007
          · exact Or.inr ei
          · exact absurd (by simpa [y_K, s_mna, en, ei] using h8) h9
      have k1 : ¬ 815 = n := by omega
      have k2 : ¬ 879 = n := by omega
      have k3 : ¬ 943 = n := by omega
      have k4 : ¬ 1007 = n := by omega
      rcases key a a1 a2 with e1 | e1 | e1 | e1 | e1 <;> rcases key b b1 b2 with e2 | e2 | e2 | e2 | e2 <;> subst e1 <;> subst e2 <;> first | rfl | (simp [y_ad5, k1, k2, k3, k4] at e)
  have hmono : ∀ a, y_K h a ≠ 0 → y_K h2 a ≠ 0 := fun a h9 => by
    obtain ⟨e1, e2, e3, e4, e5⟩ := nz a h9
    rw [he]
    simpa [y_K, s_mna, e1, e2, e3, e4, e5] using h9
  have hkeep : ∀ a, y_K h a ≠ 0 → y_K h2 a = y_K h a := fun a h9 => by
    obtain ⟨e1, e2, e3, e4, e5⟩ := nz a h9
    rw [he]
    simp [y_K, s_mna, e1, e2, e3, e4, e5]
  obtain ⟨t2, a1, b1⟩ := kk p e s m args below meth c C (y_ad5 ad n H.size) F.heap locs ls hR2 (fun a h9 => by
      have h8 : y_K h a ≠ 0 := by rw [(hE a h9).2]; exact h9
      exact ⟨(hsame a h8).trans (hE a h9).1, (hkeep a h8).trans (hE a h9).2⟩) (fun q hq => y_al_mono hmono (ha q hq)) (fun w hw => by
      rcases List.mem_cons.mp hw with rfl | hw
      · exact y_p_al (Or.inr (by rw [he]; simp [y_K, s_mna]))
      · exact y_al_mono hmono (hs w (by simp [hw]))) hl (by rw [y_qmap_same hsame ha]; exact hls) F rfl X'
  refine ⟨t2, step t2 ?_, b1⟩
  have e5 : (y_p n :: st).map (y_r (y_ad5 ad n H.size)) = .ref H.size :: st.map (y_r ad) := by
    rw [List.map_cons, y_map_same hsame (fun w hw => hs w (by simp [hw])), y_r_p, if_neg (by omega)]
    simp [y_ad5]
  rw [e5] at a1
  have e6 : T.heap.size = H.size := by rw [hT]
  rw [e6]
  exact a1
theorem y_Umna {l : Launch} {G : y_G} {z : Heap} {F L X Y c0 s0 cz sz : Nat} {M : y_M} {ad0 : Nat → Nat} {h0 h1 : y_H} {r : Option Value} {pc pc2 : Nat} {lv : List (Nat × Value)} {st : List Value} {h h2 : y_H} {c s n i9 : Nat} (hp : pc + 4 = pc2) (hd : decode M.2.1 pc = .ok (.multianewarray i9 2, 4)) (hcl : Cond.classLink M.1.cls i9 "[[I" ∈ y_tb) (hg : 10 ≤ n ∧ n < 815 ∧ y_K h n = 0 ∧ y_K h 815 = 0 ∧ y_K h 879 = 0 ∧ y_K h 943 = 0 ∧ y_K h 1007 = 0) (he : h2 = s_mna h n)
    (kk : y_U l G z F L X Y c0 s0 cz sz M ad0 h0 r h1 pc2 lv (y_p n :: st) h2 (c + 5) (s + 16)) : y_U l G z F L X Y c0 s0 cz sz M ad0 h0 r h1 pc lv (.int 3 :: .int 4 :: st) h c s := by
  have h1 := kk.1
  refine ⟨⟨by omega, by omega⟩, fun a b x9 y9 => y_mna hp hd hcl hg (by show c - c0 + 5 ≤ X; omega) (by show s - s0 + 16 ≤ Y; omega) he ?_⟩
  have h9 := kk.2 (by omega) (by omega) x9 y9
  rw [show c + 5 - c0 = c - c0 + 5 by omega, show s + 16 - s0 = s - s0 + 16 by omega] at h9
  exact h9
