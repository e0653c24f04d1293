/-! the heap of names: kinds, lengths, ints, booleans, longs, references (0: null). A name is a number that stands for an address; the map from names to addresses is carried beside it. -/
abbrev y_H : Type := (Nat → Nat) × (Nat → Nat) × (Nat → Nat → Int32) × (Nat → Nat → Bool) × (Nat → Nat → Int64) × (Nat → Nat → Nat)
def y_K (h : y_H) : Nat → Nat := h.1
def y_N (h : y_H) : Nat → Nat := h.2.1
def y_I (h : y_H) : Nat → Nat → Int32 := h.2.2.1
def y_B (h : y_H) : Nat → Nat → Bool := h.2.2.2.1
def y_L (h : y_H) : Nat → Nat → Int64 := h.2.2.2.2.1
def y_P (h : y_H) : Nat → Nat → Nat := h.2.2.2.2.2
def y_u {α : Type} (f : Nat → Nat → α) (n k : Nat) (x : α) : Nat → Nat → α := fun a b => if a = n ∧ b = k then x else f a b
def y_w {α : Type} (f : Nat → α) (n : Nat) (x : α) : Nat → α := fun a => if a = n then x else f a
def s_I (h : y_H) (n k : Nat) (x : Int32) : y_H := (y_K h, y_N h, y_u (y_I h) n k x, y_B h, y_L h, y_P h)
def s_B (h : y_H) (n k : Nat) (x : Bool) : y_H := (y_K h, y_N h, y_I h, y_u (y_B h) n k x, y_L h, y_P h)
def s_L (h : y_H) (n k : Nat) (x : Int64) : y_H := (y_K h, y_N h, y_I h, y_B h, y_u (y_L h) n k x, y_P h)
def s_P (h : y_H) (n k : Nat) (x : Nat) : y_H := (y_K h, y_N h, y_I h, y_B h, y_L h, y_u (y_P h) n k x)
/-- a new cell of a kind and a length, all of it 0 -/
def s_new (h : y_H) (n kd len : Nat) : y_H := (y_w (y_K h) n kd, y_w (y_N h) n len, y_w (y_I h) n (fun _ => 0), y_w (y_B h) n (fun _ => false), y_w (y_L h) n (fun _ => 0), y_w (y_P h) n (fun _ => 0))
def y_z (b : Bool) : Int32 := if b then 1 else 0
def y_p (n : Nat) : Value := if n = 0 then .null else .ref n
def y_v (h : y_H) (ty : FieldType) (n k : Nat) : Value := match ty with
  | .long => .long (y_L h n k)
  | .boolean => .int (y_z (y_B h n k))
  | .object _ => y_p (y_P h n k)
  | .array _ => y_p (y_P h n k)
  | _ => .int (y_I h n k)
def y_r (ad : Nat → Nat) (v : Value) : Value := match v with
  | .ref n => .ref (ad n)
  | w => w
def y_q (ad : Nat → Nat) (q : Nat × Value) : Nat × Value := (q.1, y_r ad q.2)
def y_al (h : y_H) (v : Value) : Prop := match v with
  | .ref n => y_K h n ≠ 0
  | _ => True
/-- the classes' numbers and slots, the array classes, the address of the static array SLACKS (name 2), the classes of the arrays that nobody writes -/
abbrev y_G : Type := va_G × (Nat → ClassId) × Nat × (Nat → ClassId)
abbrev y_M : Type := MethodName × ByteArray × Nat × Option FieldType
def y_tys (G : y_G) : List (ClassId × FieldType) := (List.range n_ay).map (fun t => (G.2.1 t, t_ay t))
theorem y_tys_at (G : y_G) {t : Nat} (ht : t < n_ay) : (y_tys G)[t]? = some (G.2.1 t, t_ay t) := by
  simp [y_tys, ht]
/-- kinds: ci + 1 an object of class ci, 100 + t an array, 200 + t an array that nobody writes (the script, static arrays) -/
def y_at (G : y_G) (ad : Nat → Nat) (h : y_H) (n : Nat) (H : Heap) : Prop :=
  if y_K h n < 100 then ∃ q : vw_C, c_l[y_K h n - 1]? = some q ∧ t_OB (ad n) (G.1.1 (y_K h n - 1)) q.2.2 (G.1.2 (y_K h n - 1)) H (fun k => y_r ad (y_v h (t_f (y_K h n - 1) k) n k))
  else if y_K h n < 200 then y_K h n % 100 < n_ay ∧ H[ad n]? = some (arrV (G.2.1 (y_K h n % 100)) (y_N h n) (fun k => y_r ad (y_v h (t_ay (y_K h n % 100)) n k)))
  else ∃ cell : Cell, H[ad n]? = some cell ∧ cell.cls = G.2.2.2 n ∧ (∀ q, cell.vm ≠ .statics q) ∧ cell.vm ≠ .unknown ∧ (y_N h n ≤ cell.slots.size ∧ cell.slots.size.toInt32 = nI (y_N h n)) ∧ ∀ k, k < y_N h n → cell.slots[k]? = some (y_r ad (y_v h .int n k))
theorem y_at_kept {G : y_G} {ad ad2 : Nat → Nat} {h h2 : y_H} {a : Nat} {H H2 : Heap} (eK : y_K h2 a = y_K h a) (eN : y_N h2 a = y_N h a) (ead : ad2 a = ad a) (ev : ∀ ty k, y_r ad2 (y_v h2 ty a k) = y_r ad (y_v h ty a k)) (hq : H2[ad a]? = H[ad a]?) (h1 : y_at G ad h a H) : y_at G ad2 h2 a H2 := by
  unfold y_at at h1 ⊢
  rw [eK, eN, ead]
  by_cases c1 : y_K h a < 100
  · rw [if_pos c1] at h1 ⊢
    obtain ⟨q, e1, e2⟩ := h1
    refine ⟨q, e1, ?_⟩
    simp only [ev]
    exact e2.kept hq
  · rw [if_neg c1] at h1 ⊢
    by_cases c2 : y_K h a < 200
    · rw [if_pos c2] at h1 ⊢
      refine ⟨h1.1, ?_⟩
      simp only [ev]
      rw [hq]; exact h1.2
    · rw [if_neg c2] at h1 ⊢
      obtain ⟨cell, e1, e2⟩ := h1
      refine ⟨cell, by rw [hq]; exact e1, ?_⟩
      simp only [ev]
      exact e2
/-- the heap H holds h by the addresses ad; what was there at the law's start (Z) is as it was -/
def y_R (G : y_G) (z : Heap) (ad : Nat → Nat) (h : y_H) (H : Heap) : Prop :=
  (z.size ≤ H.size ∧ ∀ q : Nat, q < z.size → H[q]? = z[q]?) ∧ y_K h 0 = 0 ∧ (∀ n, y_K h n ≠ 0 → y_at G ad h n H) ∧ (∀ n m, y_K h n ≠ 0 → y_K h m ≠ 0 → ad n = ad m → n = m) ∧ (∀ n, y_K h n ≠ 0 → y_K h n < 200 → z.size ≤ ad n) ∧ (∀ n k, y_K h n ≠ 0 → y_P h n k ≠ 0 → y_K h (y_P h n k) ≠ 0) ∧ (y_K h 2 ≠ 0 → ad 2 = G.2.2.1)
def y_E (ad0 : Nat → Nat) (h0 : y_H) (ad : Nat → Nat) (h : y_H) : Prop := ∀ n, y_K h0 n ≠ 0 → ad n = ad0 n ∧ y_K h n = y_K h0 n
/-- the static arrays, as they are at the law's start -/
def y_ZS (G : y_G) (z : Heap) (U : State) : Prop := va_Z "BoxYard$Search" "SLACKS" "[I" (.ref G.2.2.1) (fun q => z.size ≤ q) U z ∧ ∀ n, ArrOfT U (G.2.2.2 n) .int
/-- where a method's body stands -/
def y_X (G : y_G) (z : Heap) (M : y_M) (p : Program) (s : State) (m : MethodId) (args : Array Value) (meth : Method) (c : Code) : Prop :=
  p.tables.exec = Jvm.exec ∧ c.code = M.2.1 ∧ meth.sig.returnType = M.2.2.2 ∧ c.maxLocals = M.2.2.1 ∧ s.vm.findClass M.1.cls = some m.cls ∧ (∀ w ∈ y_tb, w.before args s = true) ∧ meth.locks = false ∧ meth.name = M.1.name ∧ va_K G.1 c_l (y_tys G) s ∧ y_ZS G z s
def y_Pc (G : y_G) (z : Heap) (ad0 : Nat → Nat) (As : List Value) (h0 : y_H) : Array Value → State → Prop := fun v U => v = (As.map (y_r ad0)).toArray ∧ y_R G z ad0 h0 U.heap ∧ (∀ w ∈ As, y_al h0 w) ∧ va_K G.1 c_l (y_tys G) U ∧ y_ZS G z U
def y_Qc (G : y_G) (z : Heap) (ad0 : Nat → Nat) (h0 : y_H) (r : Option Value) (h1 : y_H) : Array Value → State → Outcome → State → Prop := fun _ _ o t => ∃ ad : Nat → Nat, o = .returned (r.map (y_r ad)) ∧ y_R G z ad h1 t.heap ∧ y_E ad0 h0 ad h1 ∧ ∀ w, r = some w → y_al h1 w
/-- METHOD M, called with As in the heap h0, returns r in the heap h1, within the room rm -/
def y_S (l : Launch) (G : y_G) (M : y_M) (rm : Room) (As : List Value) (h0 : y_H) (r : Option Value) (h1 : y_H) : Prop :=
  ∀ (z : Heap) (ad0 : Nat → Nat), Met l M.1 (Cond.code M.1 M.2.1 M.2.2.1 M.2.2.2 :: y_tb) rm (y_Pc G z ad0 As h0) (y_Qc G z ad0 h0 r h1) rm.cells rm.slots (fun q => z.size ≤ q)
/-- the body of M at pc, with the locals lv, the stack st, the heap h, comes to its return r, h1 -/
def y_V (l : Launch) (G : y_G) (z : Heap) (R : Room) (M : y_M) (ad0 : Nat → Nat) (h0 : y_H) (r : Option Value) (h1 : y_H) (pc : Nat) (lv : List (Nat × Value)) (st : List Value) (h : y_H) (cells slots : Nat) : Prop :=
  ∀ (p : Program) (e : Env) (s : State) (m : MethodId) (args : Array Value) (below : List Frame) (meth : Method) (c : Code), y_X G z M p s m args meth c →
  ∀ (ad : Nat → Nat) (H : Heap) (locs : List Loc) (ls : Array Slot), y_R G z ad h H → y_E ad0 h0 ad h → (∀ q ∈ lv, y_al h q.2) → (∀ v ∈ st, y_al h v) → (∀ q ∈ locs, z.size ≤ q.base) → lv_has ls M.2.2.1 (lv.map (y_q ad)) →
    W p l e R s m args below meth c H locs cells slots (MQ below (y_Qc G z ad0 h0 r h1) args s R.cells R.slots (fun q => z.size ≤ q)) (F0 m pc ls (st.map (y_r ad)))
theorem y_r_cat (ad : Nat → Nat) (v : Value) : (y_r ad v).category = v.category := by cases v <;> rfl
theorem y_r_p (ad : Nat → Nat) (n : Nat) : y_r ad (y_p n) = if n = 0 then .null else .ref (ad n) := by
  unfold y_p
  split <;> rfl
theorem y_al_p {h : y_H} {n : Nat} (hn : y_al h (y_p n)) : n = 0 ∨ y_K h n ≠ 0 := by
  unfold y_p at hn
  by_cases h0 : n = 0
  · exact Or.inl h0
  · rw [if_neg h0] at hn
    exact Or.inr hn
theorem y_p_al {h : y_H} {n : Nat} (hn : n = 0 ∨ y_K h n ≠ 0) : y_al h (y_p n) := by
  unfold y_p
  by_cases h0 : n = 0
  · rw [if_pos h0]; trivial
  · rw [if_neg h0]
    exact hn.resolve_left h0
theorem y_r_same {ad ad' : Nat → Nat} {h : y_H} (he : ∀ n, y_K h n ≠ 0 → ad' n = ad n) {v : Value} (hv : y_al h v) : y_r ad' v = y_r ad v := by
  cases v with
  | ref n => exact congrArg Value.ref (he n hv)
  | _ => rfl
theorem y_map_same {ad ad' : Nat → Nat} {h : y_H} (he : ∀ n, y_K h n ≠ 0 → ad' n = ad n) {st : List Value} (hv : ∀ v ∈ st, y_al h v) : st.map (y_r ad') = st.map (y_r ad) :=
  List.map_congr_left fun v hm => y_r_same he (hv v hm)
theorem y_qmap_same {ad ad' : Nat → Nat} {h : y_H} (he : ∀ n, y_K h n ≠ 0 → ad' n = ad n) {lv : List (Nat × Value)} (hv : ∀ q ∈ lv, y_al h q.2) : lv.map (y_q ad') = lv.map (y_q ad) :=
  List.map_congr_left fun q hm => by
    unfold y_q
    rw [y_r_same he (hv q hm)]
theorem y_al_mono {h h' : y_H} (he : ∀ n, y_K h n ≠ 0 → y_K h' n ≠ 0) {v : Value} (hv : y_al h v) : y_al h' v := by
  cases v with
  | ref n => exact he n hv
  | _ => trivial
theorem y_v_al {G : y_G} {z : Heap} {ad : Nat → Nat} {h : y_H} {H : Heap} (hR : y_R G z ad h H) {n : Nat} (hn : y_K h n ≠ 0) (ty : FieldType) (k : Nat) : y_al h (y_v h ty n k) := by
  have key : y_al h (y_p (y_P h n k)) := y_p_al (by
    by_cases h0 : y_P h n k = 0
    · exact Or.inl h0
    · exact Or.inr (hR.2.2.2.2.2.1 n k hn h0))
  cases ty <;> first | trivial | exact key
theorem y_lt {G : y_G} {z : Heap} {ad : Nat → Nat} {h : y_H} {H : Heap} (hR : y_R G z ad h H) {n : Nat} (hn : y_K h n ≠ 0) : ad n < H.size := by
  have h1 := hR.2.2.1 n hn
  unfold y_at at h1
  split at h1
  · obtain ⟨q, -, cell, h2, -⟩ := h1
    exact (Array.getElem?_eq_some_iff.mp h2).1
  · split at h1
    · exact (Array.getElem?_eq_some_iff.mp h1.2).1
    · obtain ⟨cell, h2, -⟩ := h1
      exact (Array.getElem?_eq_some_iff.mp h2).1
theorem y_obj {G : y_G} {z : Heap} {ad : Nat → Nat} {h : y_H} {H : Heap} (hR : y_R G z ad h H) {n ci : Nat} (hn : y_K h n = ci + 1) (hci : ci < 99) : ∃ q : vw_C, c_l[ci]? = some q ∧ t_OB (ad n) (G.1.1 ci) q.2.2 (G.1.2 ci) H (fun k => y_r ad (y_v h (t_f ci k) n k)) := by
  have h1 := hR.2.2.1 n (by omega)
  unfold y_at at h1
  rw [if_pos (by omega)] at h1
  rw [hn] at h1
  exact h1
theorem y_arr {G : y_G} {z : Heap} {ad : Nat → Nat} {h : y_H} {H : Heap} (hR : y_R G z ad h H) {n t : Nat} (hn : y_K h n = 100 + t) (ht : t < 100) : t < n_ay ∧ H[ad n]? = some (arrV (G.2.1 t) (y_N h n) (fun k => y_r ad (y_v h (t_ay t) n k))) := by
  have h1 := hR.2.2.1 n (by omega)
  unfold y_at at h1
  rw [if_neg (by omega), if_pos (by omega)] at h1
  rw [show y_K h n % 100 = t by omega] at h1
  exact h1
theorem y_aro {G : y_G} {z : Heap} {ad : Nat → Nat} {h : y_H} {H : Heap} (hR : y_R G z ad h H) {n : Nat} (hn : y_K h n = 200) : ∃ cell : Cell, H[ad n]? = some cell ∧ cell.cls = G.2.2.2 n ∧ (∀ q, cell.vm ≠ .statics q) ∧ cell.vm ≠ .unknown ∧ (y_N h n ≤ cell.slots.size ∧ cell.slots.size.toInt32 = nI (y_N h n)) ∧ ∀ k, k < y_N h n → cell.slots[k]? = some (y_r ad (y_v h .int n k)) := by
  have h1 := hR.2.2.1 n (by omega)
  unfold y_at at h1
  rw [if_neg (by omega), if_neg (by omega)] at h1
  exact h1
theorem y_nz {G : y_G} {z : Heap} {ad : Nat → Nat} {h : y_H} {H : Heap} (hR : y_R G z ad h H) {n : Nat} (hn : y_K h n ≠ 0) : ¬ n = 0 := by
  rintro rfl
  exact hn hR.2.1
theorem y_v_ext {h h2 : y_H} {n k : Nat} (h1 : y_I h2 n k = y_I h n k) (h3 : y_B h2 n k = y_B h n k) (h4 : y_L h2 n k = y_L h n k) (h5 : y_P h2 n k = y_P h n k) (ty : FieldType) : y_v h2 ty n k = y_v h ty n k := by
  cases ty <;> simp only [y_v, h1, h3, h4, h5]
/-- one slot of one cell has changed -/
theorem y_R_put {G : y_G} {z : Heap} {ad : Nat → Nat} {h h2 : y_H} {H H' : Heap} {n k : Nat} (hR : y_R G z ad h H) (hK : y_K h2 = y_K h) (hN : y_N h2 = y_N h) (hv : ∀ (ty : FieldType) (a j : Nat), ¬ (a = n ∧ j = k) → y_v h2 ty a j = y_v h ty a j)
    (hP : ∀ a j, y_K h a ≠ 0 → y_P h2 a j ≠ 0 → y_K h (y_P h2 a j) ≠ 0) (hs : H'.size = H.size) (ho : ∀ q, q ≠ ad n → H'[q]? = H[q]?) (hn : y_K h n ≠ 0) (hlt : y_K h n < 200) (hat : y_at G ad h2 n H') : y_R G z ad h2 H' := by
  obtain ⟨g1, g2, g3, g4, g5, g6, g7⟩ := hR
  refine ⟨⟨by rw [hs]; exact g1.1, fun q hq => by rw [ho q (fun e => by have := g5 n hn hlt; omega)]; exact g1.2 q hq⟩, by rw [hK]; exact g2, fun a ha => ?_, fun a b ha hb => ?_, fun a ha => ?_, fun a j ha hj => ?_, by rw [hK]; exact g7⟩
  · by_cases e : a = n
    · rw [e]; exact hat
    · rw [hK] at ha
      have hne : ad a ≠ ad n := fun q => e (g4 a n ha hn q)
      exact y_at_kept (by rw [hK]) (by rw [hN]) rfl (fun ty j => by rw [hv ty a j (fun q => e q.1)]) (ho _ hne) (g3 a ha)
  · rw [hK] at ha hb
    exact g4 a b ha hb
  · rw [hK] at ha ⊢
    exact g5 a ha
  · rw [hK] at ha ⊢
    exact hP a j ha hj
section YR
variable {l : Launch} {G : y_G} {z : Heap} {R : Room} {M : y_M} {ad0 : Nat → Nat} {h0 h1 : y_H} {r : Option Value} {pc : Nat} {lv : List (Nat × Value)} {st : List Value} {h : y_H} {cells slots : Nat}
/-- an instruction that touches neither heap nor locals -/
theorem y_lift {pc2 : Nat} {st2 : List Value} (hrow : ∀ (p : Program) (e : Env) (s : State) (m : MethodId) (args : Array Value) (below : List Frame) (meth : Method) (c : Code) (H : Heap) (locs : List Loc) (ls : Array Slot) (Q : State → Prop) (ad : Nat → Nat), y_X G z M p s m args meth c → W p l e R s m args below meth c H locs cells slots Q (F0 m pc2 ls (st2.map (y_r ad))) → W p l e R s m args below meth c H locs cells slots Q (F0 m pc ls (st.map (y_r ad))))
    (hal : (∀ v ∈ st, y_al h v) → ∀ v ∈ st2, y_al h v) (k : y_V l G z R M ad0 h0 r h1 pc2 lv st2 h cells slots) : y_V l G z R M ad0 h0 r h1 pc lv st h cells slots := by
  intro p e s m args below meth c C ad H locs ls hR hE ha hs hl hls
  exact hrow p e s m args below meth c H locs ls _ ad C (k p e s m args below meth c C ad H locs ls hR hE ha (hal hs) hl hls)
theorem y_alc {h : y_H} {v : Value} {a b : List Value} (hv : y_al h v) (hb : ∀ w ∈ b, w ∈ a) : (∀ w ∈ a, y_al h w) → ∀ w ∈ v :: b, y_al h w := by
  intro ha w hw
  rcases List.mem_cons.mp hw with rfl | hw
  · exact hv
  · exact ha w (hb w hw)
theorem y_als {h : y_H} {a b : List Value} (hb : ∀ w ∈ b, w ∈ a) : (∀ w ∈ a, y_al h w) → ∀ w ∈ b, y_al h w := fun ha w hw => ha w (hb w hw)
theorem y_s1 {a : Value} {st : List Value} : ∀ w ∈ st, w ∈ a :: st := fun _ hw => List.mem_cons_of_mem _ hw
theorem y_s2 {a b : Value} {st : List Value} : ∀ w ∈ st, w ∈ a :: b :: st := fun _ hw => List.mem_cons_of_mem _ (List.mem_cons_of_mem _ hw)
theorem y_s3 {a b c : Value} {st : List Value} : ∀ w ∈ st, w ∈ a :: b :: c :: st := fun _ hw => List.mem_cons_of_mem _ (List.mem_cons_of_mem _ (List.mem_cons_of_mem _ hw))
theorem y_s0 {st : List Value} : ∀ w ∈ st, w ∈ st := fun _ hw => hw
theorem y_iadd {pc2 : Nat} {x y : Int32} (hp : pc + 1 = pc2) (hd : decode M.2.1 pc = .ok (.iadd, 1)) (k : y_V l G z R M ad0 h0 r h1 pc2 lv (.int (x + y) :: st) h cells slots) : y_V l G z R M ad0 h0 r h1 pc lv (.int y :: .int x :: st) h cells slots := by
  subst hp
  exact y_lift (fun p e s m args below meth c H locs ls Q ad C w => lv_iadd C.1 C.2.1 hd w) (y_alc (by trivial) y_s2) k
theorem y_isub {pc2 : Nat} {x y : Int32} (hp : pc + 1 = pc2) (hd : decode M.2.1 pc = .ok (.isub, 1)) (k : y_V l G z R M ad0 h0 r h1 pc2 lv (.int (x - y) :: st) h cells slots) : y_V l G z R M ad0 h0 r h1 pc lv (.int y :: .int x :: st) h cells slots := by
  subst hp
  exact y_lift (fun p e s m args below meth c H locs ls Q ad C w => lv_isub C.1 C.2.1 hd w) (y_alc (by trivial) y_s2) k
theorem y_imul {pc2 : Nat} {x y : Int32} (hp : pc + 1 = pc2) (hd : decode M.2.1 pc = .ok (.imul, 1)) (k : y_V l G z R M ad0 h0 r h1 pc2 lv (.int (x * y) :: st) h cells slots) : y_V l G z R M ad0 h0 r h1 pc lv (.int y :: .int x :: st) h cells slots := by
  subst hp
  exact y_lift (fun p e s m args below meth c H locs ls Q ad C w => lv_imul C.1 C.2.1 hd w) (y_alc (by trivial) y_s2) k
theorem y_iand {pc2 : Nat} {x y : Int32} (hp : pc + 1 = pc2) (hd : decode M.2.1 pc = .ok (.iand, 1)) (k : y_V l G z R M ad0 h0 r h1 pc2 lv (.int (x &&& y) :: st) h cells slots) : y_V l G z R M ad0 h0 r h1 pc lv (.int y :: .int x :: st) h cells slots := by
  subst hp
  exact y_lift (fun p e s m args below meth c H locs ls Q ad C w => lv_iand C.1 C.2.1 hd w) (y_alc (by trivial) y_s2) k
theorem y_ior {pc2 : Nat} {x y : Int32} (hp : pc + 1 = pc2) (hd : decode M.2.1 pc = .ok (.ior, 1)) (k : y_V l G z R M ad0 h0 r h1 pc2 lv (.int (x ||| y) :: st) h cells slots) : y_V l G z R M ad0 h0 r h1 pc lv (.int y :: .int x :: st) h cells slots := by
  subst hp
  exact y_lift (fun p e s m args below meth c H locs ls Q ad C w => lv_ior C.1 C.2.1 hd w) (y_alc (by trivial) y_s2) k
theorem y_ixor {pc2 : Nat} {x y : Int32} (hp : pc + 1 = pc2) (hd : decode M.2.1 pc = .ok (.ixor, 1)) (k : y_V l G z R M ad0 h0 r h1 pc2 lv (.int (x ^^^ y) :: st) h cells slots) : y_V l G z R M ad0 h0 r h1 pc lv (.int y :: .int x :: st) h cells slots := by
  subst hp
  exact y_lift (fun p e s m args below meth c H locs ls Q ad C w => lv_ixor C.1 C.2.1 hd w) (y_alc (by trivial) y_s2) k
theorem y_ishl {pc2 : Nat} {x y : Int32} (hp : pc + 1 = pc2) (hd : decode M.2.1 pc = .ok (.ishl, 1)) (k : y_V l G z R M ad0 h0 r h1 pc2 lv (.int (x <<< (y &&& 31)) :: st) h cells slots) : y_V l G z R M ad0 h0 r h1 pc lv (.int y :: .int x :: st) h cells slots := by
  subst hp
  exact y_lift (fun p e s m args below meth c H locs ls Q ad C w => lv_ishl C.1 C.2.1 hd w) (y_alc (by trivial) y_s2) k
theorem y_ishr {pc2 : Nat} {x y : Int32} (hp : pc + 1 = pc2) (hd : decode M.2.1 pc = .ok (.ishr, 1)) (k : y_V l G z R M ad0 h0 r h1 pc2 lv (.int (x >>> (y &&& 31)) :: st) h cells slots) : y_V l G z R M ad0 h0 r h1 pc lv (.int y :: .int x :: st) h cells slots := by
  subst hp
  exact y_lift (fun p e s m args below meth c H locs ls Q ad C w => lv_ishr C.1 C.2.1 hd w) (y_alc (by trivial) y_s2) k
theorem y_idiv {pc2 : Nat} {x y : Int32} (hp : pc + 1 = pc2) (hd : decode M.2.1 pc = .ok (.idiv, 1)) (hne : ¬ y = 0) (k : y_V l G z R M ad0 h0 r h1 pc2 lv (.int (x / y) :: st) h cells slots) : y_V l G z R M ad0 h0 r h1 pc lv (.int y :: .int x :: st) h cells slots := by
  subst hp
  exact y_lift (fun p e s m args below meth c H locs ls Q ad C w => lv_idiv C.1 C.2.1 hd hne w) (y_alc (by trivial) y_s2) k
theorem y_irem {pc2 : Nat} {x y : Int32} (hp : pc + 1 = pc2) (hd : decode M.2.1 pc = .ok (.irem, 1)) (hne : ¬ y = 0) (k : y_V l G z R M ad0 h0 r h1 pc2 lv (.int (x - x / y * y) :: st) h cells slots) : y_V l G z R M ad0 h0 r h1 pc lv (.int y :: .int x :: st) h cells slots := by
  subst hp
  exact y_lift (fun p e s m args below meth c H locs ls Q ad C w => lv_irem C.1 C.2.1 hd hne w) (y_alc (by trivial) y_s2) k
theorem y_iushr {pc2 : Nat} {x y : Int32} (hp : pc + 1 = pc2) (hd : decode M.2.1 pc = .ok (.iushr, 1)) (k : y_V l G z R M ad0 h0 r h1 pc2 lv (.int (x.toUInt32 >>> (y.toUInt32 &&& Int32.toUInt32 31)).toInt32 :: st) h cells slots) : y_V l G z R M ad0 h0 r h1 pc lv (.int y :: .int x :: st) h cells slots := by
  subst hp
  exact y_lift (fun p e s m args below meth c H locs ls Q ad C w => lv_iushr C.1 C.2.1 hd rfl w) (y_alc (by trivial) y_s2) k
theorem y_ladd {pc2 : Nat} {x y : Int64} (hp : pc + 1 = pc2) (hd : decode M.2.1 pc = .ok (.ladd, 1)) (k : y_V l G z R M ad0 h0 r h1 pc2 lv (.long (x + y) :: st) h cells slots) : y_V l G z R M ad0 h0 r h1 pc lv (.long y :: .long x :: st) h cells slots := by
  subst hp
  exact y_lift (fun p e s m args below meth c H locs ls Q ad C w => lv_ladd C.1 C.2.1 hd w) (y_alc (by trivial) y_s2) k
theorem y_lsub {pc2 : Nat} {x y : Int64} (hp : pc + 1 = pc2) (hd : decode M.2.1 pc = .ok (.lsub, 1)) (k : y_V l G z R M ad0 h0 r h1 pc2 lv (.long (x - y) :: st) h cells slots) : y_V l G z R M ad0 h0 r h1 pc lv (.long y :: .long x :: st) h cells slots := by
  subst hp
  exact y_lift (fun p e s m args below meth c H locs ls Q ad C w => lv_lsub C.1 C.2.1 hd w) (y_alc (by trivial) y_s2) k
theorem y_lmul {pc2 : Nat} {x y : Int64} (hp : pc + 1 = pc2) (hd : decode M.2.1 pc = .ok (.lmul, 1)) (k : y_V l G z R M ad0 h0 r h1 pc2 lv (.long (x * y) :: st) h cells slots) : y_V l G z R M ad0 h0 r h1 pc lv (.long y :: .long x :: st) h cells slots := by
  subst hp
  exact y_lift (fun p e s m args below meth c H locs ls Q ad C w => lv_lmul C.1 C.2.1 hd w) (y_alc (by trivial) y_s2) k
theorem y_land {pc2 : Nat} {x y : Int64} (hp : pc + 1 = pc2) (hd : decode M.2.1 pc = .ok (.land, 1)) (k : y_V l G z R M ad0 h0 r h1 pc2 lv (.long (x &&& y) :: st) h cells slots) : y_V l G z R M ad0 h0 r h1 pc lv (.long y :: .long x :: st) h cells slots := by
  subst hp
  exact y_lift (fun p e s m args below meth c H locs ls Q ad C w => lv_land C.1 C.2.1 hd w) (y_alc (by trivial) y_s2) k
theorem y_lor {pc2 : Nat} {x y : Int64} (hp : pc + 1 = pc2) (hd : decode M.2.1 pc = .ok (.lor, 1)) (k : y_V l G z R M ad0 h0 r h1 pc2 lv (.long (x ||| y) :: st) h cells slots) : y_V l G z R M ad0 h0 r h1 pc lv (.long y :: .long x :: st) h cells slots := by
  subst hp
  exact y_lift (fun p e s m args below meth c H locs ls Q ad C w => lv_lor C.1 C.2.1 hd w) (y_alc (by trivial) y_s2) k
theorem y_lxor {pc2 : Nat} {x y : Int64} (hp : pc + 1 = pc2) (hd : decode M.2.1 pc = .ok (.lxor, 1)) (k : y_V l G z R M ad0 h0 r h1 pc2 lv (.long (x ^^^ y) :: st) h cells slots) : y_V l G z R M ad0 h0 r h1 pc lv (.long y :: .long x :: st) h cells slots := by
  subst hp
  exact y_lift (fun p e s m args below meth c H locs ls Q ad C w => lv_lxor C.1 C.2.1 hd w) (y_alc (by trivial) y_s2) k
theorem y_ldiv {pc2 : Nat} {x y : Int64} (hp : pc + 1 = pc2) (hd : decode M.2.1 pc = .ok (.ldiv, 1)) (hne : ¬ y = 0) (k : y_V l G z R M ad0 h0 r h1 pc2 lv (.long (x / y) :: st) h cells slots) : y_V l G z R M ad0 h0 r h1 pc lv (.long y :: .long x :: st) h cells slots := by
  subst hp
  exact y_lift (fun p e s m args below meth c H locs ls Q ad C w => lv_ldiv C.1 C.2.1 hd hne w) (y_alc (by trivial) y_s2) k
theorem y_lrem {pc2 : Nat} {x y : Int64} (hp : pc + 1 = pc2) (hd : decode M.2.1 pc = .ok (.lrem, 1)) (hne : ¬ y = 0) (k : y_V l G z R M ad0 h0 r h1 pc2 lv (.long (x - x / y * y) :: st) h cells slots) : y_V l G z R M ad0 h0 r h1 pc lv (.long y :: .long x :: st) h cells slots := by
  subst hp
  exact y_lift (fun p e s m args below meth c H locs ls Q ad C w => lv_lrem C.1 C.2.1 hd hne w) (y_alc (by trivial) y_s2) k
theorem y_lcmp {pc2 : Nat} {x y : Int64} (hp : pc + 1 = pc2) (hd : decode M.2.1 pc = .ok (.lcmp, 1)) (k : y_V l G z R M ad0 h0 r h1 pc2 lv (.int (lg_cmp x y) :: st) h cells slots) : y_V l G z R M ad0 h0 r h1 pc lv (.long y :: .long x :: st) h cells slots := by
  subst hp
  exact y_lift (fun p e s m args below meth c H locs ls Q ad C w => W.lcmp C.1 C.2.1 hd w) (y_alc (by trivial) y_s2) k
theorem y_lshl {pc2 : Nat} {x : Int64} {y : Int32} (hp : pc + 1 = pc2) (hd : decode M.2.1 pc = .ok (.lshl, 1)) (k : y_V l G z R M ad0 h0 r h1 pc2 lv (.long (x <<< (y.toInt64 &&& 63)) :: st) h cells slots) : y_V l G z R M ad0 h0 r h1 pc lv (.int y :: .long x :: st) h cells slots := by
  subst hp
  exact y_lift (fun p e s m args below meth c H locs ls Q ad C w => lv_lshl C.1 C.2.1 hd rfl w) (y_alc (by trivial) y_s2) k
theorem y_lshr {pc2 : Nat} {x : Int64} {y : Int32} (hp : pc + 1 = pc2) (hd : decode M.2.1 pc = .ok (.lshr, 1)) (k : y_V l G z R M ad0 h0 r h1 pc2 lv (.long (x >>> (y.toInt64 &&& 63)) :: st) h cells slots) : y_V l G z R M ad0 h0 r h1 pc lv (.int y :: .long x :: st) h cells slots := by
  subst hp
  exact y_lift (fun p e s m args below meth c H locs ls Q ad C w => lv_lshr C.1 C.2.1 hd rfl w) (y_alc (by trivial) y_s2) k
theorem y_lushr {pc2 : Nat} {x : Int64} {y : Int32} (hp : pc + 1 = pc2) (hd : decode M.2.1 pc = .ok (.lushr, 1)) (k : y_V l G z R M ad0 h0 r h1 pc2 lv (.long ((x.toUInt64 >>> (y.toInt64.toUInt64 &&& Int64.toUInt64 63)).toInt64) :: st) h cells slots) : y_V l G z R M ad0 h0 r h1 pc lv (.int y :: .long x :: st) h cells slots := by
  subst hp
  exact y_lift (fun p e s m args below meth c H locs ls Q ad C w => lv_lushr C.1 C.2.1 hd rfl w) (y_alc (by trivial) y_s2) k
theorem y_i2l {pc2 : Nat} {x : Int32} (hp : pc + 1 = pc2) (hd : decode M.2.1 pc = .ok (.i2l, 1)) (k : y_V l G z R M ad0 h0 r h1 pc2 lv (.long (x.toInt64) :: st) h cells slots) : y_V l G z R M ad0 h0 r h1 pc lv (.int x :: st) h cells slots := by
  subst hp
  exact y_lift (fun p e s m args below meth c H locs ls Q ad C w => lv_i2l C.1 C.2.1 hd rfl w) (y_alc (by trivial) y_s1) k
theorem y_l2i {pc2 : Nat} {x : Int64} (hp : pc + 1 = pc2) (hd : decode M.2.1 pc = .ok (.l2i, 1)) (k : y_V l G z R M ad0 h0 r h1 pc2 lv (.int (x.toInt32) :: st) h cells slots) : y_V l G z R M ad0 h0 r h1 pc lv (.long x :: st) h cells slots := by
  subst hp
  exact y_lift (fun p e s m args below meth c H locs ls Q ad C w => lv_l2i C.1 C.2.1 hd rfl w) (y_alc (by trivial) y_s1) k
theorem y_i2b {pc2 : Nat} {x : Int32} (hp : pc + 1 = pc2) (hd : decode M.2.1 pc = .ok (.i2b, 1)) (k : y_V l G z R M ad0 h0 r h1 pc2 lv (.int (x.toInt8.toInt32) :: st) h cells slots) : y_V l G z R M ad0 h0 r h1 pc lv (.int x :: st) h cells slots := by
  subst hp
  exact y_lift (fun p e s m args below meth c H locs ls Q ad C w => lv_i2b C.1 C.2.1 hd rfl w) (y_alc (by trivial) y_s1) k
theorem y_i2s {pc2 : Nat} {x : Int32} (hp : pc + 1 = pc2) (hd : decode M.2.1 pc = .ok (.i2s, 1)) (k : y_V l G z R M ad0 h0 r h1 pc2 lv (.int (x.toInt16.toInt32) :: st) h cells slots) : y_V l G z R M ad0 h0 r h1 pc lv (.int x :: st) h cells slots := by
  subst hp
  exact y_lift (fun p e s m args below meth c H locs ls Q ad C w => lv_i2s C.1 C.2.1 hd rfl w) (y_alc (by trivial) y_s1) k
theorem y_i2c {pc2 : Nat} {x : Int32} (hp : pc + 1 = pc2) (hd : decode M.2.1 pc = .ok (.i2c, 1)) (k : y_V l G z R M ad0 h0 r h1 pc2 lv (.int ((x.toUInt32 % 65536).toInt32) :: st) h cells slots) : y_V l G z R M ad0 h0 r h1 pc lv (.int x :: st) h cells slots := by
  subst hp
  exact y_lift (fun p e s m args below meth c H locs ls Q ad C w => lv_i2c C.1 C.2.1 hd rfl w) (y_alc (by trivial) y_s1) k
theorem y_ineg {pc2 : Nat} {x : Int32} (hp : pc + 1 = pc2) (hd : decode M.2.1 pc = .ok (.ineg, 1)) (k : y_V l G z R M ad0 h0 r h1 pc2 lv (.int (-x) :: st) h cells slots) : y_V l G z R M ad0 h0 r h1 pc lv (.int x :: st) h cells slots := by
  subst hp
  exact y_lift (fun p e s m args below meth c H locs ls Q ad C w => lv_ineg C.1 C.2.1 hd w) (y_alc (by trivial) y_s1) k
theorem y_lneg {pc2 : Nat} {x : Int64} (hp : pc + 1 = pc2) (hd : decode M.2.1 pc = .ok (.lneg, 1)) (k : y_V l G z R M ad0 h0 r h1 pc2 lv (.long (-x) :: st) h cells slots) : y_V l G z R M ad0 h0 r h1 pc lv (.long x :: st) h cells slots := by
  subst hp
  exact y_lift (fun p e s m args below meth c H locs ls Q ad C w => lv_lneg C.1 C.2.1 hd w) (y_alc (by trivial) y_s1) k
theorem y_iconst {pc2 : Nat} {n : Int} {v : Int32} (hp : pc + 1 = pc2) (hd : decode M.2.1 pc = .ok (.iconst n, 1)) (hv : Int32.ofInt n = v) (k : y_V l G z R M ad0 h0 r h1 pc2 lv (.int v :: st) h cells slots) : y_V l G z R M ad0 h0 r h1 pc lv st h cells slots := by
  subst hp
  exact y_lift (fun p e s m args below meth c H locs ls Q ad C w => lv_iconst C.1 C.2.1 hd hv w) (y_alc (by trivial) y_s0) k
theorem y_bipush {pc2 : Nat} {n : Int} {v : Int32} (hp : pc + 2 = pc2) (hd : decode M.2.1 pc = .ok (.bipush n, 2)) (hv : (Int8.ofInt n).toInt32 = v) (k : y_V l G z R M ad0 h0 r h1 pc2 lv (.int v :: st) h cells slots) : y_V l G z R M ad0 h0 r h1 pc lv st h cells slots := by
  subst hp
  exact y_lift (fun p e s m args below meth c H locs ls Q ad C w => lv_bipush C.1 C.2.1 hd hv w) (y_alc (by trivial) y_s0) k
theorem y_sipush {pc2 : Nat} {n : Int} {v : Int32} (hp : pc + 3 = pc2) (hd : decode M.2.1 pc = .ok (.sipush n, 3)) (hv : (Int16.ofInt n).toInt32 = v) (k : y_V l G z R M ad0 h0 r h1 pc2 lv (.int v :: st) h cells slots) : y_V l G z R M ad0 h0 r h1 pc lv st h cells slots := by
  subst hp
  exact y_lift (fun p e s m args below meth c H locs ls Q ad C w => lv_sipush C.1 C.2.1 hd hv w) (y_alc (by trivial) y_s0) k
theorem y_lconst {pc2 : Nat} {n : Fin 2} {v : Int64} (hp : pc + 1 = pc2) (hd : decode M.2.1 pc = .ok (.lconst n, 1)) (hv : Int64.ofNat (n : Nat) = v) (k : y_V l G z R M ad0 h0 r h1 pc2 lv (.long v :: st) h cells slots) : y_V l G z R M ad0 h0 r h1 pc lv st h cells slots := by
  subst hp
  exact y_lift (fun p e s m args below meth c H locs ls Q ad C w => lv_lconst C.1 C.2.1 hd hv w) (y_alc (by trivial) y_s0) k
theorem y_null {pc2 : Nat} (hp : pc + 1 = pc2) (hd : decode M.2.1 pc = .ok (.aconst_null, 1)) (k : y_V l G z R M ad0 h0 r h1 pc2 lv (y_p 0 :: st) h cells slots) : y_V l G z R M ad0 h0 r h1 pc lv st h cells slots := by
  subst hp
  exact y_lift (fun p e s m args below meth c H locs ls Q ad C w => lv_null C.1 C.2.1 hd w) (y_alc (by trivial) y_s0) k
theorem y_ldc {pc2 : Nat} {i : Nat} {v : Int32} (hp : pc + 2 = pc2) (hd : decode M.2.1 pc = .ok (.ldc i, 2)) (hc : Cond.constant M.1.cls i v ∈ y_tb) (k : y_V l G z R M ad0 h0 r h1 pc2 lv (.int v :: st) h cells slots) : y_V l G z R M ad0 h0 r h1 pc lv st h cells slots := by
  subst hp
  exact y_lift (fun p e s m args below meth c H locs ls Q ad C w => lv_ldc C.1 C.2.1 C.2.2.2.2.1 (C.2.2.2.2.2.1 _ hc) hd w) (y_alc (by trivial) y_s0) k
theorem y_ldcw {pc2 : Nat} {i : Nat} {v : Int32} (hp : pc + 3 = pc2) (hd : decode M.2.1 pc = .ok (.ldc_w i, 3)) (hc : Cond.constant M.1.cls i v ∈ y_tb) (k : y_V l G z R M ad0 h0 r h1 pc2 lv (.int v :: st) h cells slots) : y_V l G z R M ad0 h0 r h1 pc lv st h cells slots := by
  subst hp
  exact y_lift (fun p e s m args below meth c H locs ls Q ad C w => lv_ldcw C.1 C.2.1 C.2.2.2.2.1 (C.2.2.2.2.2.1 _ hc) hd w) (y_alc (by trivial) y_s0) k
theorem y_ldc2 {pc2 : Nat} {i : Nat} {v : Int64} (hp : pc + 3 = pc2) (hd : decode M.2.1 pc = .ok (.ldc2_w i, 3)) (hc : Cond.constantLong M.1.cls i v ∈ y_tb) (k : y_V l G z R M ad0 h0 r h1 pc2 lv (.long v :: st) h cells slots) : y_V l G z R M ad0 h0 r h1 pc lv st h cells slots := by
  subst hp
  exact y_lift (fun p e s m args below meth c H locs ls Q ad C w => lv_ldc2 C.1 C.2.1 C.2.2.2.2.1 (C.2.2.2.2.2.1 _ hc) hd w) (y_alc (by trivial) y_s0) k
theorem y_dup {pc2 : Nat} {v : Value} (hp : pc + 1 = pc2) (hd : decode M.2.1 pc = .ok (.dup, 1)) (hv : v.category = 1) (k : y_V l G z R M ad0 h0 r h1 pc2 lv (v :: v :: st) h cells slots) : y_V l G z R M ad0 h0 r h1 pc lv (v :: st) h cells slots := by
  subst hp
  exact y_lift (fun p e s m args below meth c H locs ls Q ad C w => lv_dup C.1 C.2.1 hd ((y_r_cat ad v).trans hv) w) (y_als fun w hw => by simp only [List.mem_cons] at hw ⊢; rcases hw with q | q | q <;> simp [q]) k
theorem y_pop {pc2 : Nat} {v : Value} (hp : pc + 1 = pc2) (hd : decode M.2.1 pc = .ok (.pop, 1)) (hv : v.category = 1) (k : y_V l G z R M ad0 h0 r h1 pc2 lv st h cells slots) : y_V l G z R M ad0 h0 r h1 pc lv (v :: st) h cells slots := by
  subst hp
  exact y_lift (fun p e s m args below meth c H locs ls Q ad C w => lv_pop C.1 C.2.1 hd ((y_r_cat ad v).trans hv) w) (y_als y_s1) k
theorem y_pop2 {pc2 : Nat} {v : Value} (hp : pc + 1 = pc2) (hd : decode M.2.1 pc = .ok (.pop2, 1)) (hv : v.category = 2) (k : y_V l G z R M ad0 h0 r h1 pc2 lv st h cells slots) : y_V l G z R M ad0 h0 r h1 pc lv (v :: st) h cells slots := by
  subst hp
  exact y_lift (fun p e s m args below meth c H locs ls Q ad C w => lv_pop2_2 C.1 C.2.1 hd ((y_r_cat ad v).trans hv) w) (y_als y_s1) k
theorem y_dup_x1 {pc2 : Nat} {v w : Value} (hp : pc + 1 = pc2) (hd : decode M.2.1 pc = .ok (.dup_x1, 1)) (hv : v.category = 1) (hw : w.category = 1) (k : y_V l G z R M ad0 h0 r h1 pc2 lv (v :: w :: v :: st) h cells slots) : y_V l G z R M ad0 h0 r h1 pc lv (v :: w :: st) h cells slots := by
  subst hp
  exact y_lift (fun p e s m args below meth c H locs ls Q ad C g => lv_dup_x1 C.1 C.2.1 hd ((y_r_cat ad v).trans hv) ((y_r_cat ad w).trans hw) g) (y_als fun a ha => by simp only [List.mem_cons] at ha ⊢; rcases ha with q | q | q | q <;> simp [q]) k
theorem y_dup_x2 {pc2 : Nat} {v w u : Value} (hp : pc + 1 = pc2) (hd : decode M.2.1 pc = .ok (.dup_x2, 1)) (hv : v.category = 1) (hw : w.category = 1) (hu : u.category = 1) (k : y_V l G z R M ad0 h0 r h1 pc2 lv (v :: w :: u :: v :: st) h cells slots) : y_V l G z R M ad0 h0 r h1 pc lv (v :: w :: u :: st) h cells slots := by
  subst hp
  exact y_lift (fun p e s m args below meth c H locs ls Q ad C g => lv_dup_x2 C.1 C.2.1 hd ((y_r_cat ad v).trans hv) ((y_r_cat ad w).trans hw) ((y_r_cat ad u).trans hu) g) (y_als fun a ha => by simp only [List.mem_cons] at ha ⊢; rcases ha with q | q | q | q | q <;> simp [q]) k
theorem y_dup2 {pc2 : Nat} {v w : Value} (hp : pc + 1 = pc2) (hd : decode M.2.1 pc = .ok (.dup2, 1)) (hv : v.category = 1) (hw : w.category = 1) (k : y_V l G z R M ad0 h0 r h1 pc2 lv (v :: w :: v :: w :: st) h cells slots) : y_V l G z R M ad0 h0 r h1 pc lv (v :: w :: st) h cells slots := by
  subst hp
  exact y_lift (fun p e s m args below meth c H locs ls Q ad C g => lv_dup2_11 C.1 C.2.1 hd ((y_r_cat ad v).trans hv) ((y_r_cat ad w).trans hw) g) (y_als fun a ha => by simp only [List.mem_cons] at ha ⊢; rcases ha with q | q | q | q | q <;> simp [q]) k
theorem y_dup2l {pc2 : Nat} {v : Value} (hp : pc + 1 = pc2) (hd : decode M.2.1 pc = .ok (.dup2, 1)) (hv : v.category = 2) (k : y_V l G z R M ad0 h0 r h1 pc2 lv (v :: v :: st) h cells slots) : y_V l G z R M ad0 h0 r h1 pc lv (v :: st) h cells slots := by
  subst hp
  exact y_lift (fun p e s m args below meth c H locs ls Q ad C w => lv_dup2_2 C.1 C.2.1 hd ((y_r_cat ad v).trans hv) w) (y_als fun w hw => by simp only [List.mem_cons] at hw ⊢; rcases hw with q | q | q <;> simp [q]) k
theorem y_if_eq {pc2 : Nat} {x : Int32} {off : Int} {tgt : Nat} (hp : pc + 3 = pc2) (hd : decode M.2.1 pc = .ok (.ifCond .eq off, 3)) (ht : (pc : Int) + off = (tgt : Int)) (kt : x = 0 → y_V l G z R M ad0 h0 r h1 tgt lv st h cells slots) (kf : ¬ x = 0 → y_V l G z R M ad0 h0 r h1 pc2 lv st h cells slots) : y_V l G z R M ad0 h0 r h1 pc lv (.int x :: st) h cells slots := by
  subst hp
  intro p e s m args below meth c C ad H locs ls hR hE ha hs hl hls
  exact lv_if_eq C.1 C.2.1 hd ht (fun q => kt q p e s m args below meth c C ad H locs ls hR hE ha (y_als y_s1 hs) hl hls) (fun q => kf q p e s m args below meth c C ad H locs ls hR hE ha (y_als y_s1 hs) hl hls)
theorem y_if_ne {pc2 : Nat} {x : Int32} {off : Int} {tgt : Nat} (hp : pc + 3 = pc2) (hd : decode M.2.1 pc = .ok (.ifCond .ne off, 3)) (ht : (pc : Int) + off = (tgt : Int)) (kt : ¬ x = 0 → y_V l G z R M ad0 h0 r h1 tgt lv st h cells slots) (kf : x = 0 → y_V l G z R M ad0 h0 r h1 pc2 lv st h cells slots) : y_V l G z R M ad0 h0 r h1 pc lv (.int x :: st) h cells slots := by
  subst hp
  intro p e s m args below meth c C ad H locs ls hR hE ha hs hl hls
  exact lv_if_ne C.1 C.2.1 hd ht (fun q => kt q p e s m args below meth c C ad H locs ls hR hE ha (y_als y_s1 hs) hl hls) (fun q => kf q p e s m args below meth c C ad H locs ls hR hE ha (y_als y_s1 hs) hl hls)
theorem y_if_lt {pc2 : Nat} {x : Int32} {off : Int} {tgt : Nat} (hp : pc + 3 = pc2) (hd : decode M.2.1 pc = .ok (.ifCond .lt off, 3)) (ht : (pc : Int) + off = (tgt : Int)) (kt : x < 0 → y_V l G z R M ad0 h0 r h1 tgt lv st h cells slots) (kf : ¬ x < 0 → y_V l G z R M ad0 h0 r h1 pc2 lv st h cells slots) : y_V l G z R M ad0 h0 r h1 pc lv (.int x :: st) h cells slots := by
  subst hp
  intro p e s m args below meth c C ad H locs ls hR hE ha hs hl hls
  exact lv_if_lt C.1 C.2.1 hd ht (fun q => kt q p e s m args below meth c C ad H locs ls hR hE ha (y_als y_s1 hs) hl hls) (fun q => kf q p e s m args below meth c C ad H locs ls hR hE ha (y_als y_s1 hs) hl hls)
theorem y_if_ge {pc2 : Nat} {x : Int32} {off : Int} {tgt : Nat} (hp : pc + 3 = pc2) (hd : decode M.2.1 pc = .ok (.ifCond .ge off, 3)) (ht : (pc : Int) + off = (tgt : Int)) (kt : 0 ≤ x → y_V l G z R M ad0 h0 r h1 tgt lv st h cells slots) (kf : ¬ 0 ≤ x → y_V l G z R M ad0 h0 r h1 pc2 lv st h cells slots) : y_V l G z R M ad0 h0 r h1 pc lv (.int x :: st) h cells slots := by
  subst hp
  intro p e s m args below meth c C ad H locs ls hR hE ha hs hl hls
  exact lv_if_ge C.1 C.2.1 hd ht (fun q => kt q p e s m args below meth c C ad H locs ls hR hE ha (y_als y_s1 hs) hl hls) (fun q => kf q p e s m args below meth c C ad H locs ls hR hE ha (y_als y_s1 hs) hl hls)
theorem y_if_gt {pc2 : Nat} {x : Int32} {off : Int} {tgt : Nat} (hp : pc + 3 = pc2) (hd : decode M.2.1 pc = .ok (.ifCond .gt off, 3)) (ht : (pc : Int) + off = (tgt : Int)) (kt : 0 < x → y_V l G z R M ad0 h0 r h1 tgt lv st h cells slots) (kf : ¬ 0 < x → y_V l G z R M ad0 h0 r h1 pc2 lv st h cells slots) : y_V l G z R M ad0 h0 r h1 pc lv (.int x :: st) h cells slots := by
  subst hp
  intro p e s m args below meth c C ad H locs ls hR hE ha hs hl hls
  exact lv_if_gt C.1 C.2.1 hd ht (fun q => kt q p e s m args below meth c C ad H locs ls hR hE ha (y_als y_s1 hs) hl hls) (fun q => kf q p e s m args below meth c C ad H locs ls hR hE ha (y_als y_s1 hs) hl hls)
theorem y_if_le {pc2 : Nat} {x : Int32} {off : Int} {tgt : Nat} (hp : pc + 3 = pc2) (hd : decode M.2.1 pc = .ok (.ifCond .le off, 3)) (ht : (pc : Int) + off = (tgt : Int)) (kt : x ≤ 0 → y_V l G z R M ad0 h0 r h1 tgt lv st h cells slots) (kf : ¬ x ≤ 0 → y_V l G z R M ad0 h0 r h1 pc2 lv st h cells slots) : y_V l G z R M ad0 h0 r h1 pc lv (.int x :: st) h cells slots := by
  subst hp
  intro p e s m args below meth c C ad H locs ls hR hE ha hs hl hls
  exact lv_if_le C.1 C.2.1 hd ht (fun q => kt q p e s m args below meth c C ad H locs ls hR hE ha (y_als y_s1 hs) hl hls) (fun q => kf q p e s m args below meth c C ad H locs ls hR hE ha (y_als y_s1 hs) hl hls)
theorem y_icmp_eq {pc2 : Nat} {x y : Int32} {off : Int} {tgt : Nat} (hp : pc + 3 = pc2) (hd : decode M.2.1 pc = .ok (.if_icmp .eq off, 3)) (ht : (pc : Int) + off = (tgt : Int)) (kt : x = y → y_V l G z R M ad0 h0 r h1 tgt lv st h cells slots) (kf : ¬ x = y → y_V l G z R M ad0 h0 r h1 pc2 lv st h cells slots) : y_V l G z R M ad0 h0 r h1 pc lv (.int y :: .int x :: st) h cells slots := by
  subst hp
  intro p e s m args below meth c C ad H locs ls hR hE ha hs hl hls
  exact lv_icmp_eq C.1 C.2.1 hd ht (fun q => kt q p e s m args below meth c C ad H locs ls hR hE ha (y_als y_s2 hs) hl hls) (fun q => kf q p e s m args below meth c C ad H locs ls hR hE ha (y_als y_s2 hs) hl hls)
theorem y_icmp_ne {pc2 : Nat} {x y : Int32} {off : Int} {tgt : Nat} (hp : pc + 3 = pc2) (hd : decode M.2.1 pc = .ok (.if_icmp .ne off, 3)) (ht : (pc : Int) + off = (tgt : Int)) (kt : ¬ x = y → y_V l G z R M ad0 h0 r h1 tgt lv st h cells slots) (kf : x = y → y_V l G z R M ad0 h0 r h1 pc2 lv st h cells slots) : y_V l G z R M ad0 h0 r h1 pc lv (.int y :: .int x :: st) h cells slots := by
  subst hp
  intro p e s m args below meth c C ad H locs ls hR hE ha hs hl hls
  exact lv_icmp_ne C.1 C.2.1 hd ht (fun q => kt q p e s m args below meth c C ad H locs ls hR hE ha (y_als y_s2 hs) hl hls) (fun q => kf q p e s m args below meth c C ad H locs ls hR hE ha (y_als y_s2 hs) hl hls)
theorem y_icmp_lt {pc2 : Nat} {x y : Int32} {off : Int} {tgt : Nat} (hp : pc + 3 = pc2) (hd : decode M.2.1 pc = .ok (.if_icmp .lt off, 3)) (ht : (pc : Int) + off = (tgt : Int)) (kt : x < y → y_V l G z R M ad0 h0 r h1 tgt lv st h cells slots) (kf : ¬ x < y → y_V l G z R M ad0 h0 r h1 pc2 lv st h cells slots) : y_V l G z R M ad0 h0 r h1 pc lv (.int y :: .int x :: st) h cells slots := by
  subst hp
  intro p e s m args below meth c C ad H locs ls hR hE ha hs hl hls
  exact lv_icmp_lt C.1 C.2.1 hd ht (fun q => kt q p e s m args below meth c C ad H locs ls hR hE ha (y_als y_s2 hs) hl hls) (fun q => kf q p e s m args below meth c C ad H locs ls hR hE ha (y_als y_s2 hs) hl hls)
theorem y_icmp_ge {pc2 : Nat} {x y : Int32} {off : Int} {tgt : Nat} (hp : pc + 3 = pc2) (hd : decode M.2.1 pc = .ok (.if_icmp .ge off, 3)) (ht : (pc : Int) + off = (tgt : Int)) (kt : y ≤ x → y_V l G z R M ad0 h0 r h1 tgt lv st h cells slots) (kf : ¬ y ≤ x → y_V l G z R M ad0 h0 r h1 pc2 lv st h cells slots) : y_V l G z R M ad0 h0 r h1 pc lv (.int y :: .int x :: st) h cells slots := by
  subst hp
  intro p e s m args below meth c C ad H locs ls hR hE ha hs hl hls
  exact lv_icmp_ge C.1 C.2.1 hd ht (fun q => kt q p e s m args below meth c C ad H locs ls hR hE ha (y_als y_s2 hs) hl hls) (fun q => kf q p e s m args below meth c C ad H locs ls hR hE ha (y_als y_s2 hs) hl hls)
theorem y_icmp_gt {pc2 : Nat} {x y : Int32} {off : Int} {tgt : Nat} (hp : pc + 3 = pc2) (hd : decode M.2.1 pc = .ok (.if_icmp .gt off, 3)) (ht : (pc : Int) + off = (tgt : Int)) (kt : y < x → y_V l G z R M ad0 h0 r h1 tgt lv st h cells slots) (kf : ¬ y < x → y_V l G z R M ad0 h0 r h1 pc2 lv st h cells slots) : y_V l G z R M ad0 h0 r h1 pc lv (.int y :: .int x :: st) h cells slots := by
  subst hp
  intro p e s m args below meth c C ad H locs ls hR hE ha hs hl hls
  exact lv_icmp_gt C.1 C.2.1 hd ht (fun q => kt q p e s m args below meth c C ad H locs ls hR hE ha (y_als y_s2 hs) hl hls) (fun q => kf q p e s m args below meth c C ad H locs ls hR hE ha (y_als y_s2 hs) hl hls)
theorem y_icmp_le {pc2 : Nat} {x y : Int32} {off : Int} {tgt : Nat} (hp : pc + 3 = pc2) (hd : decode M.2.1 pc = .ok (.if_icmp .le off, 3)) (ht : (pc : Int) + off = (tgt : Int)) (kt : x ≤ y → y_V l G z R M ad0 h0 r h1 tgt lv st h cells slots) (kf : ¬ x ≤ y → y_V l G z R M ad0 h0 r h1 pc2 lv st h cells slots) : y_V l G z R M ad0 h0 r h1 pc lv (.int y :: .int x :: st) h cells slots := by
  subst hp
  intro p e s m args below meth c C ad H locs ls hR hE ha hs hl hls
  exact lv_icmp_le C.1 C.2.1 hd ht (fun q => kt q p e s m args below meth c C ad H locs ls hR hE ha (y_als y_s2 hs) hl hls) (fun q => kf q p e s m args below meth c C ad H locs ls hR hE ha (y_als y_s2 hs) hl hls)
theorem y_goto {off : Int} {tgt : Nat} (hd : decode M.2.1 pc = .ok (.goto off, 3)) (ht : (pc : Int) + off = (tgt : Int)) (k : y_V l G z R M ad0 h0 r h1 tgt lv st h cells slots) : y_V l G z R M ad0 h0 r h1 pc lv st h cells slots :=
  y_lift (fun p e s m args below meth c H locs ls Q ad C w => lv_goto C.1 C.2.1 hd ht w) (y_als y_s0) k
theorem y_ifnull {pc2 : Nat} {n : Nat} {off : Int} {tgt : Nat} (hp : pc + 3 = pc2) (hd : decode M.2.1 pc = .ok (.ifnull off, 3)) (ht : (pc : Int) + off = (tgt : Int)) (kt : n = 0 → y_V l G z R M ad0 h0 r h1 tgt lv st h cells slots) (kf : ¬ n = 0 → y_V l G z R M ad0 h0 r h1 pc2 lv st h cells slots) : y_V l G z R M ad0 h0 r h1 pc lv (y_p n :: st) h cells slots := by
  subst hp
  intro p e s m args below meth c C ad H locs ls hR hE ha hs hl hls
  have hs' := y_als y_s1 hs
  show W _ _ _ _ _ _ _ _ _ _ _ _ _ _ _ (F0 m pc ls (y_r ad (y_p n) :: st.map (y_r ad)))
  rw [y_r_p]
  by_cases hn : n = 0
  · rw [if_pos hn]
    exact lv_ifnullN C.1 C.2.1 hd ht (kt hn p e s m args below meth c C ad H locs ls hR hE ha hs' hl hls)
  · rw [if_neg hn]
    exact lv_ifnull C.1 C.2.1 hd (kf hn p e s m args below meth c C ad H locs ls hR hE ha hs' hl hls)
theorem y_ifnonnull {pc2 : Nat} {n : Nat} {off : Int} {tgt : Nat} (hp : pc + 3 = pc2) (hd : decode M.2.1 pc = .ok (.ifnonnull off, 3)) (ht : (pc : Int) + off = (tgt : Int)) (kt : ¬ n = 0 → y_V l G z R M ad0 h0 r h1 tgt lv st h cells slots) (kf : n = 0 → y_V l G z R M ad0 h0 r h1 pc2 lv st h cells slots) : y_V l G z R M ad0 h0 r h1 pc lv (y_p n :: st) h cells slots := by
  subst hp
  intro p e s m args below meth c C ad H locs ls hR hE ha hs hl hls
  have hs' := y_als y_s1 hs
  show W _ _ _ _ _ _ _ _ _ _ _ _ _ _ _ (F0 m pc ls (y_r ad (y_p n) :: st.map (y_r ad)))
  rw [y_r_p]
  by_cases hn : n = 0
  · rw [if_pos hn]
    exact lv_ifnonnullN C.1 C.2.1 hd (kf hn p e s m args below meth c C ad H locs ls hR hE ha hs' hl hls)
  · rw [if_neg hn]
    exact lv_ifnonnull C.1 C.2.1 hd ht (kt hn p e s m args below meth c C ad H locs ls hR hE ha hs' hl hls)
/-- a reference that may be null, as the kit has it -/
theorem y_rf (ad : Nat → Nat) (n : Nat) : y_r ad (y_p n) = va_rf (if n = 0 then none else some (ad n)) := by
  rw [y_r_p]
  split <;> rfl
theorem y_rf_eq {ad : Nat → Nat} {h : y_H} {H : Heap} (hR : y_R G z ad h H) {n k : Nat} (hn : y_al h (y_p n)) (hk : y_al h (y_p k)) : ((if n = 0 then none else some (ad n)) = (if k = 0 then none else some (ad k)) ↔ n = k) := by
  rcases y_al_p hn with hn | hn
  · rcases y_al_p hk with hk | hk
    · simp [hn, hk]
    · have := y_nz hR hk
      simp [hn, this, Ne.symm this]
  · have hn0 := y_nz hR hn
    rcases y_al_p hk with hk | hk
    · simp [hk, hn0]
    · have hk0 := y_nz hR hk
      simp only [hn0, hk0, if_false, Option.some.injEq]
      exact ⟨fun q => hR.2.2.2.1 n k hn hk q, fun q => by rw [q]⟩
theorem y_acmp_eq {pc2 : Nat} {n k : Nat} {off : Int} {tgt : Nat} (hp : pc + 3 = pc2) (hd : decode M.2.1 pc = .ok (.if_acmp .eq off, 3)) (ht : (pc : Int) + off = (tgt : Int)) (kt : n = k → y_V l G z R M ad0 h0 r h1 tgt lv st h cells slots) (kf : ¬ n = k → y_V l G z R M ad0 h0 r h1 pc2 lv st h cells slots) : y_V l G z R M ad0 h0 r h1 pc lv (y_p k :: y_p n :: st) h cells slots := by
  subst hp
  intro p e s m args below meth c C ad H locs ls hR hE ha hs hl hls
  have hs' := y_als y_s2 hs
  have key := y_rf_eq hR (hs (y_p n) (by simp)) (hs (y_p k) (by simp))
  show W _ _ _ _ _ _ _ _ _ _ _ _ _ _ _ (F0 m pc ls (y_r ad (y_p k) :: y_r ad (y_p n) :: st.map (y_r ad)))
  rw [y_rf, y_rf]
  exact lv_acmp_eq C.1 C.2.1 hd ht (fun q => kt (key.mp q) p e s m args below meth c C ad H locs ls hR hE ha hs' hl hls) (fun q => kf (fun e => q (key.mpr e)) p e s m args below meth c C ad H locs ls hR hE ha hs' hl hls)
theorem y_acmp_ne {pc2 : Nat} {n k : Nat} {off : Int} {tgt : Nat} (hp : pc + 3 = pc2) (hd : decode M.2.1 pc = .ok (.if_acmp .ne off, 3)) (ht : (pc : Int) + off = (tgt : Int)) (kt : ¬ n = k → y_V l G z R M ad0 h0 r h1 tgt lv st h cells slots) (kf : n = k → y_V l G z R M ad0 h0 r h1 pc2 lv st h cells slots) : y_V l G z R M ad0 h0 r h1 pc lv (y_p k :: y_p n :: st) h cells slots := by
  subst hp
  intro p e s m args below meth c C ad H locs ls hR hE ha hs hl hls
  have hs' := y_als y_s2 hs
  have key := y_rf_eq hR (hs (y_p n) (by simp)) (hs (y_p k) (by simp))
  show W _ _ _ _ _ _ _ _ _ _ _ _ _ _ _ (F0 m pc ls (y_r ad (y_p k) :: y_r ad (y_p n) :: st.map (y_r ad)))
  rw [y_rf, y_rf]
  exact lv_acmp_ne C.1 C.2.1 hd ht (fun q => kt (fun e => q (key.mpr e)) p e s m args below meth c C ad H locs ls hR hE ha hs' hl hls) (fun q => kf (key.mp q) p e s m args below meth c C ad H locs ls hR hE ha hs' hl hls)
/-- a switch: where it goes is told -/
theorem y_table {dflt lo hi : Int} {offs : Array Int} {len : Nat} {x : Int32} {off : Int} {tgt : Nat} (hd : decode M.2.1 pc = .ok (.tableswitch dflt lo hi offs, len)) (ho : (if x.toInt < lo ∨ hi < x.toInt then some dflt else offs[(x.toInt - lo).toNat]?) = some off) (ht : (pc : Int) + off = (tgt : Int)) (k : y_V l G z R M ad0 h0 r h1 tgt lv st h cells slots) : y_V l G z R M ad0 h0 r h1 pc lv (.int x :: st) h cells slots :=
  y_lift (fun p e s m args below meth c H locs ls Q ad C w => by
    by_cases hq : x.toInt < lo ∨ hi < x.toInt
    · rw [if_pos hq] at ho
      cases ho
      exact lv_tableOut C.1 C.2.1 hd hq ht w
    · rw [if_neg hq] at ho
      exact lv_tableIn C.1 C.2.1 hd (fun q => hq (Or.inl q)) (fun q => hq (Or.inr q)) ho ht w) (y_als y_s1) k
theorem y_lookup {dflt : Int} {ps : Array (Int × Int)} {len : Nat} {x : Int32} {off : Int} {tgt : Nat} (hd : decode M.2.1 pc = .ok (.lookupswitch dflt ps, len)) (hp : (ps.toList.zip (ps.toList.drop 1)).all (fun (a, next) => a.1 < next.1) = true) (ho : Op.lookupswitch.offset ps.toList dflt x.toInt = off) (ht : (pc : Int) + off = (tgt : Int)) (k : y_V l G z R M ad0 h0 r h1 tgt lv st h cells slots) : y_V l G z R M ad0 h0 r h1 pc lv (.int x :: st) h cells slots :=
  y_lift (fun p e s m args below meth c H locs ls Q ad C w => lv_lookup C.1 C.2.1 hd hp ho ht w) (y_als y_s1) k
/-- the locals -/
def y_lk (lv : List (Nat × Value)) (i : Nat) : Option Value := (lv.find? (fun q => q.1 == i)).map (fun q => q.2)
theorem y_lk_mem {lv : List (Nat × Value)} {i : Nat} {v : Value} (hv : y_lk lv i = some v) : (i, v) ∈ lv := by
  unfold y_lk at hv
  obtain ⟨q, hq, rfl⟩ := Option.map_eq_some_iff.mp hv
  have h1 := List.find?_some hq
  have h2 := List.mem_of_find?_eq_some hq
  have h3 : q.1 = i := by simpa using h1
  rw [← h3]
  exact h2
theorem y_lk_at {ad : Nat → Nat} {ls : Array Slot} {nL : Nat} {i : Nat} {v : Value} (hl : lv_has ls nL (lv.map (y_q ad))) (hv : y_lk lv i = some v) : ls[i]? = some (.val (y_r ad v)) :=
  hl.2.2 (i, y_r ad v) (List.mem_map.mpr ⟨(i, v), y_lk_mem hv, rfl⟩)
theorem y_iload_n {pc2 : Nat} {j : Fin 4} {x : Int32} (hp : pc + 1 = pc2) (hd : decode M.2.1 pc = .ok (.iload_n j, 1)) (hv : y_lk lv (j : Nat) = some (.int x)) (k : y_V l G z R M ad0 h0 r h1 pc2 lv (.int x :: st) h cells slots) : y_V l G z R M ad0 h0 r h1 pc lv st h cells slots := by
  subst hp
  intro p e s m args below meth c C ad H locs ls hR hE ha hs hl hls
  exact lv_iload_n C.1 C.2.1 hd rfl (y_lk_at hls hv) (k p e s m args below meth c C ad H locs ls hR hE ha (y_alc (by trivial) y_s0 hs) hl hls)
theorem y_iload {pc2 : Nat} {j : Nat} {x : Int32} (hp : pc + 2 = pc2) (hd : decode M.2.1 pc = .ok (.iload j, 2)) (hv : y_lk lv j = some (.int x)) (k : y_V l G z R M ad0 h0 r h1 pc2 lv (.int x :: st) h cells slots) : y_V l G z R M ad0 h0 r h1 pc lv st h cells slots := by
  subst hp
  intro p e s m args below meth c C ad H locs ls hR hE ha hs hl hls
  exact lv_iload C.1 C.2.1 hd (y_lk_at hls hv) (k p e s m args below meth c C ad H locs ls hR hE ha (y_alc (by trivial) y_s0 hs) hl hls)
theorem y_lload_n {pc2 : Nat} {j : Fin 4} {x : Int64} (hp : pc + 1 = pc2) (hd : decode M.2.1 pc = .ok (.lload_n j, 1)) (hv : y_lk lv (j : Nat) = some (.long x)) (k : y_V l G z R M ad0 h0 r h1 pc2 lv (.long x :: st) h cells slots) : y_V l G z R M ad0 h0 r h1 pc lv st h cells slots := by
  subst hp
  intro p e s m args below meth c C ad H locs ls hR hE ha hs hl hls
  exact lv_lload_n C.1 C.2.1 hd rfl (y_lk_at hls hv) (k p e s m args below meth c C ad H locs ls hR hE ha (y_alc (by trivial) y_s0 hs) hl hls)
theorem y_lload {pc2 : Nat} {j : Nat} {x : Int64} (hp : pc + 2 = pc2) (hd : decode M.2.1 pc = .ok (.lload j, 2)) (hv : y_lk lv j = some (.long x)) (k : y_V l G z R M ad0 h0 r h1 pc2 lv (.long x :: st) h cells slots) : y_V l G z R M ad0 h0 r h1 pc lv st h cells slots := by
  subst hp
  intro p e s m args below meth c C ad H locs ls hR hE ha hs hl hls
  exact lv_lload C.1 C.2.1 hd (y_lk_at hls hv) (k p e s m args below meth c C ad H locs ls hR hE ha (y_alc (by trivial) y_s0 hs) hl hls)
theorem y_aload_n {pc2 : Nat} {j : Fin 4} {x : Nat} (hp : pc + 1 = pc2) (hd : decode M.2.1 pc = .ok (.aload_n j, 1)) (hv : y_lk lv (j : Nat) = some (y_p x)) (k : y_V l G z R M ad0 h0 r h1 pc2 lv (y_p x :: st) h cells slots) : y_V l G z R M ad0 h0 r h1 pc lv st h cells slots := by
  subst hp
  intro p e s m args below meth c C ad H locs ls hR hE ha hs hl hls
  have hk := k p e s m args below meth c C ad H locs ls hR hE ha (y_alc (ha _ (y_lk_mem hv)) y_s0 hs) hl hls
  have hat := y_lk_at hls hv
  rw [show (y_p x :: st).map (y_r ad) = y_r ad (y_p x) :: st.map (y_r ad) from rfl] at hk
  rw [y_r_p] at hat hk
  by_cases hx : x = 0
  · rw [if_pos hx] at hat hk
    exact lv_aload_nN C.1 C.2.1 hd rfl hat hk
  · rw [if_neg hx] at hat hk
    exact lv_aload_n C.1 C.2.1 hd rfl hat hk
theorem y_aload {pc2 : Nat} {j : Nat} {x : Nat} (hp : pc + 2 = pc2) (hd : decode M.2.1 pc = .ok (.aload j, 2)) (hv : y_lk lv j = some (y_p x)) (k : y_V l G z R M ad0 h0 r h1 pc2 lv (y_p x :: st) h cells slots) : y_V l G z R M ad0 h0 r h1 pc lv st h cells slots := by
  subst hp
  intro p e s m args below meth c C ad H locs ls hR hE ha hs hl hls
  have hk := k p e s m args below meth c C ad H locs ls hR hE ha (y_alc (ha _ (y_lk_mem hv)) y_s0 hs) hl hls
  have hat := y_lk_at hls hv
  rw [show (y_p x :: st).map (y_r ad) = y_r ad (y_p x) :: st.map (y_r ad) from rfl] at hk
  rw [y_r_p] at hat hk
  by_cases hx : x = 0
  · rw [if_pos hx] at hat hk
    exact lv_aloadN C.1 C.2.1 hd hat hk
  · rw [if_neg hx] at hat hk
    exact lv_aload C.1 C.2.1 hd hat hk
def y_st1 (lv : List (Nat × Value)) (i : Nat) (v : Value) : List (Nat × Value) := (i, v) :: lv.filter (fun q => !(q.1 == i) && !(q.1 + 1 == i && q.2.category == 2))
def y_st2 (lv : List (Nat × Value)) (i : Nat) (v : Value) : List (Nat × Value) := (i, v) :: lv.filter (fun q => !(q.1 == i) && (!(q.1 == i + 1) && !(q.1 + 1 == i && q.2.category == 2)))
theorem y_st1_map (ad : Nat → Nat) (lv : List (Nat × Value)) (i : Nat) (v : Value) : (i, y_r ad v) :: (lv.map (y_q ad)).filter (fun q => !(q.1 == i) && !(q.1 + 1 == i && q.2.category == 2)) = (y_st1 lv i v).map (y_q ad) := by
  unfold y_st1
  rw [List.map_cons, List.filter_map]
  congr 2
  apply List.filter_congr
  intro q _
  simp only [Function.comp, y_q, y_r_cat]
theorem y_st2_map (ad : Nat → Nat) (lv : List (Nat × Value)) (i : Nat) (v : Value) : (i, y_r ad v) :: (lv.map (y_q ad)).filter (fun q => !(q.1 == i) && (!(q.1 == i + 1) && !(q.1 + 1 == i && q.2.category == 2))) = (y_st2 lv i v).map (y_q ad) := by
  unfold y_st2
  rw [List.map_cons, List.filter_map]
  congr 2
  apply List.filter_congr
  intro q _
  simp only [Function.comp, y_q, y_r_cat]
theorem y_st_al {h : y_H} {i : Nat} {v : Value} {f : Nat × Value → Bool} (ha : ∀ q ∈ lv, y_al h q.2) (hv : y_al h v) : ∀ q ∈ (i, v) :: lv.filter f, y_al h q.2 := by
  intro q hq
  rcases List.mem_cons.mp hq with rfl | hq
  · exact hv
  · exact ha q (List.mem_filter.mp hq).1
theorem y_istore_n {pc2 : Nat} {j : Fin 4} {x : Int32} {lv' : List (Nat × Value)} (hp : pc + 1 = pc2) (hd : decode M.2.1 pc = .ok (.istore_n j, 1)) (hn : (j : Nat) < M.2.2.1) (hv : y_st1 lv (j : Nat) (.int x) = lv') (k : y_V l G z R M ad0 h0 r h1 pc2 lv' st h cells slots) : y_V l G z R M ad0 h0 r h1 pc lv (.int x :: st) h cells slots := by
  subst hp
  intro p e s m args below meth c C ad H locs ls hR hE ha hs hl hls
  subst hv
  exact lv_istore_n C.1 C.2.1 hd rfl hls hn (y_st1_map ad lv (j : Nat) (.int x)) (fun ls' hls' => k p e s m args below meth c C ad H locs ls' hR hE (y_st_al ha trivial) (y_als y_s1 hs) hl hls')
theorem y_istore {pc2 : Nat} {j : Nat} {x : Int32} {lv' : List (Nat × Value)} (hp : pc + 2 = pc2) (hd : decode M.2.1 pc = .ok (.istore j, 2)) (hn : j < M.2.2.1) (hv : y_st1 lv j (.int x) = lv') (k : y_V l G z R M ad0 h0 r h1 pc2 lv' st h cells slots) : y_V l G z R M ad0 h0 r h1 pc lv (.int x :: st) h cells slots := by
  subst hp
  intro p e s m args below meth c C ad H locs ls hR hE ha hs hl hls
  subst hv
  exact lv_istore C.1 C.2.1 hd hls hn (y_st1_map ad lv j (.int x)) (fun ls' hls' => k p e s m args below meth c C ad H locs ls' hR hE (y_st_al ha trivial) (y_als y_s1 hs) hl hls')
theorem y_lstore_n {pc2 : Nat} {j : Fin 4} {x : Int64} {lv' : List (Nat × Value)} (hp : pc + 1 = pc2) (hd : decode M.2.1 pc = .ok (.lstore_n j, 1)) (hn : (j : Nat) + 1 < M.2.2.1) (hv : y_st2 lv (j : Nat) (.long x) = lv') (k : y_V l G z R M ad0 h0 r h1 pc2 lv' st h cells slots) : y_V l G z R M ad0 h0 r h1 pc lv (.long x :: st) h cells slots := by
  subst hp
  intro p e s m args below meth c C ad H locs ls hR hE ha hs hl hls
  subst hv
  exact lv_lstore_n C.1 C.2.1 hd rfl hls hn (y_st2_map ad lv (j : Nat) (.long x)) (fun ls' hls' => k p e s m args below meth c C ad H locs ls' hR hE (y_st_al ha trivial) (y_als y_s1 hs) hl hls')
theorem y_lstore {pc2 : Nat} {j : Nat} {x : Int64} {lv' : List (Nat × Value)} (hp : pc + 2 = pc2) (hd : decode M.2.1 pc = .ok (.lstore j, 2)) (hn : j + 1 < M.2.2.1) (hv : y_st2 lv j (.long x) = lv') (k : y_V l G z R M ad0 h0 r h1 pc2 lv' st h cells slots) : y_V l G z R M ad0 h0 r h1 pc lv (.long x :: st) h cells slots := by
  subst hp
  intro p e s m args below meth c C ad H locs ls hR hE ha hs hl hls
  subst hv
  exact lv_lstore C.1 C.2.1 hd hls hn (y_st2_map ad lv j (.long x)) (fun ls' hls' => k p e s m args below meth c C ad H locs ls' hR hE (y_st_al ha trivial) (y_als y_s1 hs) hl hls')
theorem y_astore_n {pc2 : Nat} {j : Fin 4} {x : Nat} {lv' : List (Nat × Value)} (hp : pc + 1 = pc2) (hd : decode M.2.1 pc = .ok (.astore_n j, 1)) (hn : (j : Nat) < M.2.2.1) (hv : y_st1 lv (j : Nat) (y_p x) = lv') (k : y_V l G z R M ad0 h0 r h1 pc2 lv' st h cells slots) : y_V l G z R M ad0 h0 r h1 pc lv (y_p x :: st) h cells slots := by
  subst hp
  intro p e s m args below meth c C ad H locs ls hR hE ha hs hl hls
  subst hv
  have hm := y_st1_map ad lv (j : Nat) (y_p x)
  have kk := fun (ls' : Array Slot) (hls' : lv_has ls' M.2.2.1 ((y_st1 lv (j : Nat) (y_p x)).map (y_q ad))) => k p e s m args below meth c C ad H locs ls' hR hE (y_st_al ha (hs (y_p x) (by simp))) (y_als y_s1 hs) hl hls'
  show W _ _ _ _ _ _ _ _ _ _ _ _ _ _ _ (F0 m pc ls (y_r ad (y_p x) :: st.map (y_r ad)))
  rw [y_r_p] at hm ⊢
  by_cases hx : x = 0
  · rw [if_pos hx] at hm ⊢
    exact lv_astore_nN C.1 C.2.1 hd rfl hls hn hm kk
  · rw [if_neg hx] at hm ⊢
    exact lv_astore_n C.1 C.2.1 hd rfl hls hn hm kk
theorem y_astore {pc2 : Nat} {j : Nat} {x : Nat} {lv' : List (Nat × Value)} (hp : pc + 2 = pc2) (hd : decode M.2.1 pc = .ok (.astore j, 2)) (hn : j < M.2.2.1) (hv : y_st1 lv j (y_p x) = lv') (k : y_V l G z R M ad0 h0 r h1 pc2 lv' st h cells slots) : y_V l G z R M ad0 h0 r h1 pc lv (y_p x :: st) h cells slots := by
  subst hp
  intro p e s m args below meth c C ad H locs ls hR hE ha hs hl hls
  subst hv
  have hm := y_st1_map ad lv j (y_p x)
  have kk := fun (ls' : Array Slot) (hls' : lv_has ls' M.2.2.1 ((y_st1 lv j (y_p x)).map (y_q ad))) => k p e s m args below meth c C ad H locs ls' hR hE (y_st_al ha (hs (y_p x) (by simp))) (y_als y_s1 hs) hl hls'
  show W _ _ _ _ _ _ _ _ _ _ _ _ _ _ _ (F0 m pc ls (y_r ad (y_p x) :: st.map (y_r ad)))
  rw [y_r_p] at hm ⊢
  by_cases hx : x = 0
  · rw [if_pos hx] at hm ⊢
    exact lv_astoreN C.1 C.2.1 hd hls hn hm kk
  · rw [if_neg hx] at hm ⊢
    exact lv_astore C.1 C.2.1 hd hls hn hm kk
theorem y_iinc {pc2 : Nat} {i : Nat} {n : Int} {x v : Int32} {lv' : List (Nat × Value)} (hp : pc + 3 = pc2) (hd : decode M.2.1 pc = .ok (.iinc i n, 3)) (hx : y_lk lv i = some (.int x)) (hv : x + Int32.ofInt n = v) (hn : i < M.2.2.1) (hl : y_st1 lv i (.int v) = lv') (k : y_V l G z R M ad0 h0 r h1 pc2 lv' st h cells slots) : y_V l G z R M ad0 h0 r h1 pc lv st h cells slots := by
  subst hp
  intro p e s m args below meth c C ad H locs ls hR hE ha hs hl2 hls
  subst hl
  obtain ⟨kk, hkk⟩ := List.getElem?_of_mem (y_lk_mem hx)
  have hk2 : (lv.map (y_q ad))[kk]? = some (i, .int x) := by rw [List.getElem?_map, hkk]; rfl
  exact lv_iinc C.1 C.2.1 hd hls hk2 hv hn (y_st1_map ad lv i (.int v)) (fun ls' hls' => k p e s m args below meth c C ad H locs ls' hR hE (y_st_al ha trivial) hs hl2 hls')
/-- the end -/
theorem y_end {p : Program} {s : State} {m : MethodId} {args : Array Value} {meth : Method} {c : Code} {ad : Nat → Nat} {H : Heap} (hR : y_R G z ad h H) (hE : y_E ad0 h0 ad h) (v : Option Value) (hv : ∀ w, v = some w → y_al h w) : ∀ t : State, t.heap = H → s.WarmedH t.vm → y_Qc G z ad0 h0 v h args s (.returned (v.map (y_r ad))) t := by
  intro t ht _
  exact ⟨ad, rfl, by rw [ht]; exact hR, hE, hv⟩
theorem y_iret {x : Int32} (hd : decode M.2.1 pc = .ok (.ireturn, 1)) (hr : M.2.2.2 = some .int) (hc : cells ≤ R.cells) (hs : slots ≤ R.slots) : y_V l G z R M ad0 h0 (some (.int x)) h pc lv [.int x] h cells slots := by
  intro p e s m args below meth c C ad H locs ls hR hE ha hst hl hls
  refine W.widen hc hs ?_
  exact W.iret C.1 C.2.1 (C.2.2.1.trans hr) (y_end (p := p) (m := m) (meth := meth) (c := c) hR hE (some (.int x)) (fun w hw => by cases hw; trivial)) hl hd C.2.2.2.2.2.2.1
theorem y_zret {x : Bool} (hd : decode M.2.1 pc = .ok (.ireturn, 1)) (hr : M.2.2.2 = some .boolean) (hc : cells ≤ R.cells) (hs : slots ≤ R.slots) : y_V l G z R M ad0 h0 (some (.int (y_z x))) h pc lv [.int (y_z x)] h cells slots := by
  intro p e s m args below meth c C ad H locs ls hR hE ha hst hl hls
  refine W.widen hc hs ?_
  exact W.zret C.1 C.2.1 (C.2.2.1.trans hr) (by cases x <;> rfl) (y_end (p := p) (m := m) (meth := meth) (c := c) hR hE (some (.int (y_z x))) (fun w hw => by cases hw; trivial)) hl hd C.2.2.2.2.2.2.1
theorem y_lret {x : Int64} (hd : decode M.2.1 pc = .ok (.lreturn, 1)) (hr : M.2.2.2 = some .long) (hc : cells ≤ R.cells) (hs : slots ≤ R.slots) : y_V l G z R M ad0 h0 (some (.long x)) h pc lv [.long x] h cells slots := by
  intro p e s m args below meth c C ad H locs ls hR hE ha hst hl hls
  refine W.widen hc hs ?_
  exact W.lret C.1 C.2.1 (C.2.2.1.trans hr) (y_end (p := p) (m := m) (meth := meth) (c := c) hR hE (some (.long x)) (fun w hw => by cases hw; trivial)) hl hd C.2.2.2.2.2.2.1
theorem y_vret (hd : decode M.2.1 pc = .ok (.return_, 1)) (hr : M.2.2.2 = none) (hc : cells ≤ R.cells) (hs : slots ≤ R.slots) : y_V l G z R M ad0 h0 none h pc lv [] h cells slots := by
  intro p e s m args below meth c C ad H locs ls hR hE ha hst hl hls
  refine W.widen hc hs ?_
  exact W.vret C.1 C.2.1 (C.2.2.1.trans hr) (y_end (p := p) (m := m) (meth := meth) (c := c) hR hE none (fun w hw => by cases hw)) hl hd C.2.2.2.2.2.2.1
theorem y_aret {x : Nat} {rt : FieldType} (hd : decode M.2.1 pc = .ok (.areturn, 1)) (hr : M.2.2.2 = some rt) (hrt : (∃ n, rt = .object n) ∨ ∃ t, rt = .array t) (hc : cells ≤ R.cells) (hs : slots ≤ R.slots) : y_V l G z R M ad0 h0 (some (y_p x)) h pc lv [y_p x] h cells slots := by
  intro p e s m args below meth c C ad H locs ls hR hE ha hst hl hls
  refine W.widen hc hs ?_
  refine W.aret C.1 C.2.1 (C.2.2.1.trans hr) hrt ?_ (y_end (p := p) (m := m) (meth := meth) (c := c) hR hE (some (y_p x)) (fun w hw => by cases hw; exact hst _ (by simp))) hl hd C.2.2.2.2.2.2.1
  rw [y_r_p]
  split
  · exact Or.inl rfl
  · exact Or.inr ⟨_, rfl⟩
end YR
section YH
variable {l : Launch} {G : y_G} {z : Heap} {R : Room} {M : y_M} {ad0 : Nat → Nat} {h0 h1 : y_H} {r : Option Value} {pc : Nat} {lv : List (Nat × Value)} {st : List Value} {h : y_H} {cells slots : Nat}
def y_fl (own : String) (idx : Nat) (ref name desc : String) : Prop := Cond.fieldLink own idx ref name desc ∈ y_tb ∨ ∃ host, Cond.fieldLinkNest own idx ref name desc host ∈ y_tb
/-- entry idx of own's pool is field k of class ci -/
def y_F (own : String) (idx ci k : Nat) : Prop := ∃ (C : String) (T : u_T) (N : Nat), c_l[ci]? = some (C, T, N) ∧ k < N ∧ y_fl own idx (T k).1 (T k).2.1 (T k).2.2.1
/-- the same, and it may be written there -/
def y_Fp (own : String) (nm : String) (idx ci k : Nat) : Prop := ∃ (C : String) (T : u_T) (N : Nat), c_l[ci]? = some (C, T, N) ∧ k < N ∧ (((T k).2.2.2 = false ∧ y_fl own idx (T k).1 (T k).2.1 (T k).2.2.1) ∨ ((T k).2.2.2 = true ∧ nm = "<init>" ∧ (T k).1 = own ∧ Cond.fieldLink own idx (T k).1 (T k).2.1 (T k).2.2.1 ∈ y_tb))
theorem y_get0 {pc2 : Nat} {i ci k n : Nat} (hp : pc + 3 = pc2) (hd : decode M.2.1 pc = .ok (.getfield i, 3)) (hF : y_F M.1.cls i ci k) (hci : ci < 99) (hn : y_K h n = ci + 1) (kk : y_V l G z R M ad0 h0 r h1 pc2 lv (y_v h (t_f ci k) n k :: st) h cells slots) : y_V l G z R M ad0 h0 r h1 pc lv (y_p n :: st) h cells slots := by
  subst hp
  intro p e s m args below meth c C ad H locs ls hR hE ha hs hl hls
  obtain ⟨hx, hb, hr, hml, hown, hts, hlk, hnm, hK, hZ⟩ := id C
  obtain ⟨Cn, T, N, hc, hkN, hfl⟩ := hF
  obtain ⟨q, hq, cell, q1, q2, q3, q4⟩ := y_obj hR hn hci
  cases hq.symm.trans hc
  obtain ⟨hS, hfc, kC, hkC, hkind⟩ := hK.1 ci _ hc
  obtain ⟨cf, kf, fi, f, hi, hsl⟩ := hS k hkN
  have hn0 : ¬ n = 0 := y_nz hR (by omega)
  have hw := kk p e s m args below meth c C ad H locs ls hR hE ha (y_alc (y_v_al hR (by omega) _ _) y_s1 hs) hl hls
  show W _ _ _ _ _ _ _ _ _ _ _ _ _ _ _ (F0 m pc ls (y_r ad (y_p n) :: st.map (y_r ad)))
  rw [y_r_p, if_neg hn0]
  have hv : cell.slots[f.slot]? = some (y_r ad (y_v h (t_f ci k) n k)) := by rw [hsl]; exact q4 k hkN
  have hst := (u_facts hfc hkC (u_lays hts (st_in ci _ hc) hkN) hi).1
  rcases hfl with hw1 | ⟨host, hw1⟩
  · exact W.getf hx hb hown (hts _ hw1) hi hst q1 (by rw [q3]; exact fun h => by cases h) hv rfl rfl hd hw
  · exact va_Wgetf hx hb hown (hts _ hw1) hi hst q1 (by rw [q3]; exact fun h => by cases h) hv rfl rfl hd hw
def y_rt (ty : FieldType) : Bool := match ty with
  | .object _ => true
  | .array _ => true
  | _ => false
theorem y_v_ref {ty : FieldType} (ht : y_rt ty = true) (h : y_H) (n k : Nat) : y_v h ty n k = y_p (y_P h n k) := by
  cases ty <;> first | rfl | cases ht
theorem y_getI {pc2 : Nat} {i ci k n : Nat} (hp : pc + 3 = pc2) (hd : decode M.2.1 pc = .ok (.getfield i, 3)) (hF : y_F M.1.cls i ci k) (hci : ci < 99) (ht : t_f ci k = .int) (hn : y_K h n = ci + 1) (kk : y_V l G z R M ad0 h0 r h1 pc2 lv (.int (y_I h n k) :: st) h cells slots) : y_V l G z R M ad0 h0 r h1 pc lv (y_p n :: st) h cells slots := by
  subst hp
  exact y_get0 rfl hd hF hci hn (by rw [ht]; exact kk)
theorem y_getZ {pc2 : Nat} {i ci k n : Nat} (hp : pc + 3 = pc2) (hd : decode M.2.1 pc = .ok (.getfield i, 3)) (hF : y_F M.1.cls i ci k) (hci : ci < 99) (ht : t_f ci k = .boolean) (hn : y_K h n = ci + 1) (kk : y_V l G z R M ad0 h0 r h1 pc2 lv (.int (y_z (y_B h n k)) :: st) h cells slots) : y_V l G z R M ad0 h0 r h1 pc lv (y_p n :: st) h cells slots := by
  subst hp
  exact y_get0 rfl hd hF hci hn (by rw [ht]; exact kk)
theorem y_getL {pc2 : Nat} {i ci k n : Nat} (hp : pc + 3 = pc2) (hd : decode M.2.1 pc = .ok (.getfield i, 3)) (hF : y_F M.1.cls i ci k) (hci : ci < 99) (ht : t_f ci k = .long) (hn : y_K h n = ci + 1) (kk : y_V l G z R M ad0 h0 r h1 pc2 lv (.long (y_L h n k) :: st) h cells slots) : y_V l G z R M ad0 h0 r h1 pc lv (y_p n :: st) h cells slots := by
  subst hp
  exact y_get0 rfl hd hF hci hn (by rw [ht]; exact kk)
theorem y_getP {pc2 : Nat} {i ci k n : Nat} (hp : pc + 3 = pc2) (hd : decode M.2.1 pc = .ok (.getfield i, 3)) (hF : y_F M.1.cls i ci k) (hci : ci < 99) (ht : y_rt (t_f ci k) = true) (hn : y_K h n = ci + 1) (kk : y_V l G z R M ad0 h0 r h1 pc2 lv (y_p (y_P h n k) :: st) h cells slots) : y_V l G z R M ad0 h0 r h1 pc lv (y_p n :: st) h cells slots := by
  subst hp
  exact y_get0 rfl hd hF hci hn (by rw [y_v_ref ht]; exact kk)
theorem y_u_eq {α : Type} (f : Nat → Nat → α) (n k : Nat) (x : α) : y_u f n k x n k = x := if_pos ⟨rfl, rfl⟩
theorem y_u_ne {α : Type} (f : Nat → Nat → α) {n k a b : Nat} (x : α) (hne : ¬ (a = n ∧ b = k)) : y_u f n k x a b = f a b := if_neg hne
theorem y_v_sI {h : y_H} {n k : Nat} {x : Int32} (ty : FieldType) (a j : Nat) (hne : ¬ (a = n ∧ j = k)) : y_v (s_I h n k x) ty a j = y_v h ty a j := y_v_ext (h := h) (h2 := s_I h n k x) (n := a) (k := j) (y_u_ne _ _ hne) rfl rfl rfl ty
theorem y_v_sB {h : y_H} {n k : Nat} {x : Bool} (ty : FieldType) (a j : Nat) (hne : ¬ (a = n ∧ j = k)) : y_v (s_B h n k x) ty a j = y_v h ty a j := y_v_ext (h := h) (h2 := s_B h n k x) (n := a) (k := j) rfl (y_u_ne _ _ hne) rfl rfl ty
theorem y_v_sL {h : y_H} {n k : Nat} {x : Int64} (ty : FieldType) (a j : Nat) (hne : ¬ (a = n ∧ j = k)) : y_v (s_L h n k x) ty a j = y_v h ty a j := y_v_ext (h := h) (h2 := s_L h n k x) (n := a) (k := j) rfl rfl (y_u_ne _ _ hne) rfl ty
theorem y_v_sP {h : y_H} {n k : Nat} {x : Nat} (ty : FieldType) (a j : Nat) (hne : ¬ (a = n ∧ j = k)) : y_v (s_P h n k x) ty a j = y_v h ty a j := y_v_ext (h := h) (h2 := s_P h n k x) (n := a) (k := j) rfl rfl rfl (y_u_ne _ _ hne) ty
/-- a written field -/
theorem y_put0 {pc2 : Nat} {i ci k n : Nat} {v : Value} {h2 : y_H} (hp : pc + 3 = pc2) (hd : decode M.2.1 pc = .ok (.putfield i, 3)) (hF : y_Fp M.1.cls M.1.name i ci k) (hci : ci < 99) (hn : y_K h n = ci + 1) (hnar : ∀ ad, narrow (t_f ci k) (y_r ad v) = y_r ad v) (hfit : ∀ ad, fits (t_f ci k) (y_r ad v) = true)
    (hK2 : y_K h2 = y_K h) (hN2 : y_N h2 = y_N h) (hv2 : ∀ (ty : FieldType) (a j : Nat), ¬ (a = n ∧ j = k) → y_v h2 ty a j = y_v h ty a j) (hvk : y_v h2 (t_f ci k) n k = v)
    (hP2 : (∀ a j, y_K h a ≠ 0 → y_P h a j ≠ 0 → y_K h (y_P h a j) ≠ 0) → y_al h v → ∀ a j, y_K h a ≠ 0 → y_P h2 a j ≠ 0 → y_K h (y_P h2 a j) ≠ 0)
    (kk : y_V l G z R M ad0 h0 r h1 pc2 lv st h2 cells slots) : y_V l G z R M ad0 h0 r h1 pc lv (v :: y_p n :: st) h cells slots := by
  subst hp
  intro p e s m args below meth c C ad H locs ls hR hE ha hs hl hls
  obtain ⟨hx, hb, hr, hml, hown, hts, hlk, hnm, hK, hZ⟩ := id C
  obtain ⟨Cn, T, N, hc, hkN, hfl⟩ := hF
  obtain ⟨q, hq, cell, q1, q2, q3, q4⟩ := y_obj hR hn hci
  cases hq.symm.trans hc
  obtain ⟨hS, hfc, kC, hkC, hkind⟩ := hK.1 ci _ hc
  have hKn := hK.1 ci _ hc
  have hap := va_apart (own := M.1.cls) hts (st_in ci _ hc) (t_f ci) (st_ty ci _ hc) (st_nm ci _ hc) hK hc
  obtain ⟨cf, kf, fi, f, hi, hsl⟩ := hS k hkN
  have hnz : y_K h n ≠ 0 := by omega
  have hn0 : ¬ n = 0 := y_nz hR hnz
  have hst := (u_facts hfc hkC (u_lays hts (st_in ci _ hc) hkN) hi).1
  have hlay := hts _ (st_in ci _ hc _ (u_in_lay hkN))
  have hlt : f.slot < cell.slots.size := by rw [hsl]; exact k2_hasslot (q4 k hkN)
  have step : ∀ H' : Heap, H'[ad n]? = some (cell.setSlot f.slot (y_r ad v)) → H'.size = H.size → (∀ q, q ≠ ad n → H'[q]? = H[q]?) → W p l e R s m args below meth c H' (locs ++ [⟨ad n, f.slot⟩]) cells slots (MQ below (y_Qc G z ad0 h0 r h1) args s R.cells R.slots (fun q => z.size ≤ q)) (F0 m (pc + 3) ls (st.map (y_r ad))) := by
    intro H' e1 e2 e3
    have hR2 : y_R G z ad h2 H' := by
      refine y_R_put hR hK2 hN2 hv2 (hP2 hR.2.2.2.2.2.1 (hs v (by simp))) e2 e3 hnz (by omega) ?_
      unfold y_at
      rw [hK2, hn, if_pos (by omega), Nat.add_sub_cancel]
      refine ⟨_, hc, _, e1, q2, q3, fun j hj => ?_⟩
      rw [hsl, t_set q4 hap hkN (y_r ad v) j hj]
      by_cases hjk : j = k
      · subst hjk
        simp only [updV, if_pos, hvk]
      · simp only [updV, if_neg hjk]
        rw [hv2 _ n j (fun q => hjk q.2)]
    refine kk p e s m args below meth c C ad H' _ ls hR2 (fun a ha0 => ⟨(hE a ha0).1, by rw [hK2]; exact (hE a ha0).2⟩) (fun q hq => y_al_mono (fun a h9 => by rw [hK2]; exact h9) (ha q hq)) (fun w hw => y_al_mono (fun a h9 => by rw [hK2]; exact h9) (hs w (y_s2 w hw))) ?_ hls
    intro q hq
    rcases List.mem_append.mp hq with h9 | h9
    · exact hl q h9
    · rw [List.mem_singleton.mp h9]
      exact hR.2.2.2.2.1 n hnz (by omega)
  show W _ _ _ _ _ _ _ _ _ _ _ _ _ _ _ (F0 m pc ls (y_r ad v :: y_r ad (y_p n) :: st.map (y_r ad)))
  rw [y_r_p, if_neg hn0]
  rcases hfl with ⟨hfin, hfl⟩ | ⟨hfin, hini, hdecl, hw1⟩
  · unfold u_lay at hlay
    rw [if_neg (by rw [hfin]; decide)] at hlay
    have h6 := u_store hfc hkC hkind hlay hi (st_ty ci _ hc k hkN) (hnar ad) (hfit ad)
    rcases hfl with hw1 | ⟨host, hw1⟩
    · exact W.putK hx hb (f := f) ⟨hown, hts _ hw1, ⟨_, _, _, hi⟩, hst⟩ (by rw [q2]; exact h6) q1 q3 hlt rfl rfl hd step
    · exact va_WputK hx hb (f := f) hown (hts _ hw1) hi hst (by rw [q2]; exact h6) q1 q3 hlt rfl rfl hd step
  · unfold u_lay at hlay
    rw [if_pos hfin] at hlay
    have hcf : m.cls = cf := by
      obtain ⟨_, _, c', _, _, _, -, -, hf', -, -, -, hown2, -⟩ := Cond.laysFinal_spec hlay
      have e1 : c' = cf := by have := hi.symm.trans hf'; simp at this; exact this.1.symm
      rw [hdecl] at hown2
      rw [← e1]; exact Option.some.inj (hown.symm.trans hown2)
    have h6 := u_fits hfc hkC hkind (Or.inr hlay) hi (st_ty ci _ hc k hkN) (hnar ad) (hfit ad)
    exact W.putFinK hx hb hown (hts _ hw1) hi hst hcf (hnm.trans hini) (by rw [q2]; exact h6) q1 q3 hlt rfl rfl hd step
theorem y_putI {pc2 : Nat} {h2 : y_H} {i ci k n : Nat} {x : Int32} (hp : pc + 3 = pc2) (hd : decode M.2.1 pc = .ok (.putfield i, 3)) (hF : y_Fp M.1.cls M.1.name i ci k) (hci : ci < 99) (ht : t_f ci k = .int) (hn : y_K h n = ci + 1) (he : h2 = s_I h n k x) (kk : y_V l G z R M ad0 h0 r h1 pc2 lv st h2 cells slots) : y_V l G z R M ad0 h0 r h1 pc lv (.int x :: y_p n :: st) h cells slots := by
  subst hp
  subst he
  exact y_put0 (h2 := s_I h n k x) rfl hd hF hci hn (fun _ => by rw [ht]; rfl) (fun _ => by rw [ht]; rfl) rfl rfl y_v_sI (by rw [ht]; exact congrArg Value.int (y_u_eq _ _ _ _)) (fun g _ => g) kk
theorem y_putL {pc2 : Nat} {h2 : y_H} {i ci k n : Nat} {x : Int64} (hp : pc + 3 = pc2) (hd : decode M.2.1 pc = .ok (.putfield i, 3)) (hF : y_Fp M.1.cls M.1.name i ci k) (hci : ci < 99) (ht : t_f ci k = .long) (hn : y_K h n = ci + 1) (he : h2 = s_L h n k x) (kk : y_V l G z R M ad0 h0 r h1 pc2 lv st h2 cells slots) : y_V l G z R M ad0 h0 r h1 pc lv (.long x :: y_p n :: st) h cells slots := by
  subst hp
  subst he
  exact y_put0 (h2 := s_L h n k x) rfl hd hF hci hn (fun _ => by rw [ht]; rfl) (fun _ => by rw [ht]; rfl) rfl rfl y_v_sL (by rw [ht]; exact congrArg Value.long (y_u_eq _ _ _ _)) (fun g _ => g) kk
theorem y_putZ {pc2 : Nat} {h2 : y_H} {i ci k n : Nat} {x : Bool} (hp : pc + 3 = pc2) (hd : decode M.2.1 pc = .ok (.putfield i, 3)) (hF : y_Fp M.1.cls M.1.name i ci k) (hci : ci < 99) (ht : t_f ci k = .boolean) (hn : y_K h n = ci + 1) (he : h2 = s_B h n k x) (kk : y_V l G z R M ad0 h0 r h1 pc2 lv st h2 cells slots) : y_V l G z R M ad0 h0 r h1 pc lv (.int (y_z x) :: y_p n :: st) h cells slots := by
  subst hp
  subst he
  exact y_put0 (h2 := s_B h n k x) rfl hd hF hci hn (fun _ => by rw [ht]; cases x <;> rfl) (fun _ => by rw [ht]; cases x <;> rfl) rfl rfl y_v_sB (by rw [ht]; exact congrArg (fun b => Value.int (y_z b)) (y_u_eq _ _ _ _)) (fun g _ => g) kk
theorem y_putP {pc2 : Nat} {h2 : y_H} {i ci k n : Nat} {x : Nat} (hp : pc + 3 = pc2) (hd : decode M.2.1 pc = .ok (.putfield i, 3)) (hF : y_Fp M.1.cls M.1.name i ci k) (hci : ci < 99) (ht : y_rt (t_f ci k) = true) (hn : y_K h n = ci + 1) (he : h2 = s_P h n k x) (kk : y_V l G z R M ad0 h0 r h1 pc2 lv st h2 cells slots) : y_V l G z R M ad0 h0 r h1 pc lv (y_p x :: y_p n :: st) h cells slots := by
  subst hp
  subst he
  refine y_put0 (h2 := s_P h n k x) rfl hd hF hci hn (fun ad => ?_) (fun ad => ?_) rfl rfl y_v_sP ?_ ?_ kk
  · rw [y_r_p]
    revert ht
    cases t_f ci k <;> intro ht <;> first | (split <;> rfl) | (split <;> cases ht) | cases ht
  · rw [y_r_p]
    revert ht
    cases t_f ci k <;> intro ht <;> first | (split <;> rfl) | (split <;> cases ht) | cases ht
  · rw [y_v_ref ht]
    exact congrArg y_p (y_u_eq _ _ _ _)
  · intro g hv a j hna hp
    have e1 : y_P (s_P h n k x) = y_u (y_P h) n k x := rfl
    rw [e1] at hp ⊢
    by_cases hq : a = n ∧ j = k
    · rw [hq.1, hq.2, y_u_eq] at hp ⊢
      exact (y_al_p hv).resolve_left hp
    · rw [y_u_ne _ _ hq] at hp ⊢
      exact g a j hna hp
/-- an array's class -/
theorem y_isarr {U : State} (hK : va_K G.1 c_l (y_tys G) U) {t : Nat} (ht : t < n_ay) (n : Nat) (f : Nat → Value) : U.isArrayOf (arrV (G.2.1 t) n f) (t_ay t) := (hK.2 t _ (y_tys_at G ht)).1 n f
theorem y_alen {pc2 : Nat} {t n : Nat} (hp : pc + 1 = pc2) (hd : decode M.2.1 pc = .ok (.arraylength, 1)) (ht9 : t < 100) (hn : y_K h n = 100 + t) (kk : y_V l G z R M ad0 h0 r h1 pc2 lv (.int (nI (y_N h n)) :: st) h cells slots) : y_V l G z R M ad0 h0 r h1 pc lv (y_p n :: st) h cells slots := by
  subst hp
  intro p e s m args below meth c C ad H locs ls hR hE ha hs hl hls
  obtain ⟨hx, hb, hr, hml, hown, hts, hlk, hnm, hK, hZ⟩ := id C
  have hnz : y_K h n ≠ 0 := by omega
  obtain ⟨ht, hc⟩ := y_arr hR hn ht9
  have hw := kk p e s m args below meth c C ad H locs ls hR hE ha (y_alc (by trivial) y_s1 hs) hl hls
  show W _ _ _ _ _ _ _ _ _ _ _ _ _ _ _ (F0 m pc ls (y_r ad (y_p n) :: st.map (y_r ad)))
  rw [y_r_p, if_neg (y_nz hR hnz)]
  exact W.alen (n := nI (y_N h n)) hx hb hc (y_isarr hK ht _ _) (by rw [arrV_size]; rfl) rfl rfl hd hw
theorem y_roarr {U : State} (hZ : y_ZS G z U) {n : Nat} {cell : Cell} (h1 : cell.cls = G.2.2.2 n) (h2 : ∀ q, cell.vm ≠ .statics q) : U.isArrayOf cell .int := by
  obtain ⟨-, k, hk, comp, hkind⟩ := hZ.2 n 0 (fun _ => .null)
  exact ⟨h2, k, by rw [h1]; exact hk, comp, hkind⟩
theorem y_alenR {pc2 : Nat} {n : Nat} (hp : pc + 1 = pc2) (hd : decode M.2.1 pc = .ok (.arraylength, 1)) (hn : y_K h n = 200) (kk : y_V l G z R M ad0 h0 r h1 pc2 lv (.int (nI (y_N h n)) :: st) h cells slots) : y_V l G z R M ad0 h0 r h1 pc lv (y_p n :: st) h cells slots := by
  subst hp
  intro p e s m args below meth c C ad H locs ls hR hE ha hs hl hls
  obtain ⟨hx, hb, hr, hml, hown, hts, hlk, hnm, hK, hZ⟩ := id C
  have hnz : y_K h n ≠ 0 := by omega
  obtain ⟨cell, q1, q2, q3, q4, q5, q6⟩ := y_aro hR hn
  have hw := kk p e s m args below meth c C ad H locs ls hR hE ha (y_alc (by trivial) y_s1 hs) hl hls
  show W _ _ _ _ _ _ _ _ _ _ _ _ _ _ _ (F0 m pc ls (y_r ad (y_p n) :: st.map (y_r ad)))
  rw [y_r_p, if_neg (y_nz hR hnz)]
  exact W.alen (n := nI (y_N h n)) hx hb q1 (y_roarr hZ q2 q3) q5.2 rfl rfl hd hw
theorem y_ialdR {pc2 : Nat} {n : Nat} {i : Int32} (hp : pc + 1 = pc2) (hd : decode M.2.1 pc = .ok (.iaload, 1)) (hn : y_K h n = 200) (hi : vp_in i (y_N h n)) (kk : y_V l G z R M ad0 h0 r h1 pc2 lv (.int (y_I h n i.toNatClampNeg) :: st) h cells slots) : y_V l G z R M ad0 h0 r h1 pc lv (.int i :: y_p n :: st) h cells slots := by
  subst hp
  intro p e s m args below meth c C ad H locs ls hR hE ha hs hl hls
  obtain ⟨hx, hb, hr, hml, hown, hts, hlk, hnm, hK, hZ⟩ := id C
  have hnz : y_K h n ≠ 0 := by omega
  have hlt : i.toNatClampNeg < y_N h n := Nat.not_le.mp fun q => hi (Or.inr q)
  obtain ⟨cell, q1, q2, q3, q4, q5, q6⟩ := y_aro hR hn
  have hw := kk p e s m args below meth c C ad H locs ls hR hE ha (y_alc (by trivial) y_s2 hs) hl hls
  show W _ _ _ _ _ _ _ _ _ _ _ _ _ _ _ (F0 m pc ls (.int i :: y_r ad (y_p n) :: st.map (y_r ad)))
  rw [y_r_p, if_neg (y_nz hR hnz)]
  exact W.iald hx hb q1 (y_roarr hZ q2 q3) q4 (fun q => q.elim (fun a => hi (Or.inl a)) (fun a => by have := q5.1; omega)) (q6 _ hlt) rfl rfl hd hw
theorem y_iald {pc2 : Nat} {n : Nat} {i : Int32} (hp : pc + 1 = pc2) (hd : decode M.2.1 pc = .ok (.iaload, 1)) (hn : y_K h n = 100) (hi : vp_in i (y_N h n)) (kk : y_V l G z R M ad0 h0 r h1 pc2 lv (.int (y_I h n i.toNatClampNeg) :: st) h cells slots) : y_V l G z R M ad0 h0 r h1 pc lv (.int i :: y_p n :: st) h cells slots := by
  subst hp
  intro p e s m args below meth c C ad H locs ls hR hE ha hs hl hls
  obtain ⟨hx, hb, hr, hml, hown, hts, hlk, hnm, hK, hZ⟩ := id C
  have hnz : y_K h n ≠ 0 := by omega
  have hlt : i.toNatClampNeg < y_N h n := Nat.not_le.mp fun q => hi (Or.inr q)
  obtain ⟨ht, hc⟩ := y_arr (t := 0) hR hn (by decide)
  have hw := kk p e s m args below meth c C ad H locs ls hR hE ha (y_alc (by trivial) y_s2 hs) hl hls
  show W _ _ _ _ _ _ _ _ _ _ _ _ _ _ _ (F0 m pc ls (.int i :: y_r ad (y_p n) :: st.map (y_r ad)))
  rw [y_r_p, if_neg (y_nz hR hnz)]
  exact W.iald hx hb hc (y_isarr hK ht _ _) (fun q => by cases q) (by rw [arrV_size]; exact hi) (arrV_read _ _ hlt) rfl rfl hd hw
theorem y_lald {pc2 : Nat} {n : Nat} {i : Int32} (hp : pc + 1 = pc2) (hd : decode M.2.1 pc = .ok (.laload, 1)) (hn : y_K h n = 101) (hi : vp_in i (y_N h n)) (kk : y_V l G z R M ad0 h0 r h1 pc2 lv (.long (y_L h n i.toNatClampNeg) :: st) h cells slots) : y_V l G z R M ad0 h0 r h1 pc lv (.int i :: y_p n :: st) h cells slots := by
  subst hp
  intro p e s m args below meth c C ad H locs ls hR hE ha hs hl hls
  obtain ⟨hx, hb, hr, hml, hown, hts, hlk, hnm, hK, hZ⟩ := id C
  have hnz : y_K h n ≠ 0 := by omega
  have hlt : i.toNatClampNeg < y_N h n := Nat.not_le.mp fun q => hi (Or.inr q)
  obtain ⟨ht, hc⟩ := y_arr (t := 1) hR hn (by decide)
  have hw := kk p e s m args below meth c C ad H locs ls hR hE ha (y_alc (by trivial) y_s2 hs) hl hls
  show W _ _ _ _ _ _ _ _ _ _ _ _ _ _ _ (F0 m pc ls (.int i :: y_r ad (y_p n) :: st.map (y_r ad)))
  rw [y_r_p, if_neg (y_nz hR hnz)]
  exact W.lald hx hb hc (y_isarr hK ht _ _) (fun q => by cases q) (by rw [arrV_size]; exact hi) (arrV_read _ _ hlt) rfl rfl hd hw
theorem y_zald {pc2 : Nat} {n : Nat} {i : Int32} (hp : pc + 1 = pc2) (hd : decode M.2.1 pc = .ok (.baload, 1)) (hn : y_K h n = 102) (hi : vp_in i (y_N h n)) (kk : y_V l G z R M ad0 h0 r h1 pc2 lv (.int (y_z (y_B h n i.toNatClampNeg)) :: st) h cells slots) : y_V l G z R M ad0 h0 r h1 pc lv (.int i :: y_p n :: st) h cells slots := by
  subst hp
  intro p e s m args below meth c C ad H locs ls hR hE ha hs hl hls
  obtain ⟨hx, hb, hr, hml, hown, hts, hlk, hnm, hK, hZ⟩ := id C
  have hnz : y_K h n ≠ 0 := by omega
  have hlt : i.toNatClampNeg < y_N h n := Nat.not_le.mp fun q => hi (Or.inr q)
  obtain ⟨ht, hc⟩ := y_arr (t := 2) hR hn (by decide)
  have hw := kk p e s m args below meth c C ad H locs ls hR hE ha (y_alc (by trivial) y_s2 hs) hl hls
  show W _ _ _ _ _ _ _ _ _ _ _ _ _ _ _ (F0 m pc ls (.int i :: y_r ad (y_p n) :: st.map (y_r ad)))
  rw [y_r_p, if_neg (y_nz hR hnz)]
  exact W.zald hx hb hc (y_isarr hK ht _ _) (fun q => by cases q) (by rw [arrV_size]; exact hi) (arrV_read _ _ hlt) rfl rfl hd hw
theorem y_aald {pc2 : Nat} {t n : Nat} {i : Int32} (hp : pc + 1 = pc2) (hd : decode M.2.1 pc = .ok (.aaload, 1)) (ht9 : t < 100) (hrt : y_rt (t_ay t) = true) (hn : y_K h n = 100 + t) (hi : vp_in i (y_N h n)) (kk : y_V l G z R M ad0 h0 r h1 pc2 lv (y_p (y_P h n i.toNatClampNeg) :: st) h cells slots) : y_V l G z R M ad0 h0 r h1 pc lv (.int i :: y_p n :: st) h cells slots := by
  subst hp
  intro p e s m args below meth c C ad H locs ls hR hE ha hs hl hls
  obtain ⟨hx, hb, hr, hml, hown, hts, hlk, hnm, hK, hZ⟩ := id C
  have hnz : y_K h n ≠ 0 := by omega
  have hlt : i.toNatClampNeg < y_N h n := Nat.not_le.mp fun q => hi (Or.inr q)
  obtain ⟨ht, hc⟩ := y_arr (t := t) hR hn ht9
  have hal := y_v_al hR hnz (t_ay t) i.toNatClampNeg
  rw [y_v_ref hrt] at hal
  have hw := kk p e s m args below meth c C ad H locs ls hR hE ha (y_alc hal y_s2 hs) hl hls
  show W _ _ _ _ _ _ _ _ _ _ _ _ _ _ _ (F0 m pc ls (.int i :: y_r ad (y_p n) :: st.map (y_r ad)))
  rw [y_r_p, if_neg (y_nz hR hnz)]
  have hread := arrV_read (G.2.1 t) (fun k => y_r ad (y_v h (t_ay t) n k)) hlt
  rw [y_v_ref hrt] at hread
  exact W.aald (ty := t_ay t) hx hb hc (y_isarr hK ht _ _) (by revert hrt; cases t_ay t <;> intro hrt <;> first | rfl | cases hrt) (fun q => by cases q) (by rw [arrV_size]; exact hi) hread rfl rfl hd hw
theorem y_ast {t n j : Nat} {v : Value} {h2 : y_H} (ht9 : t < 100) (hn : y_K h n = 100 + t) (hK2 : y_K h2 = y_K h) (hN2 : y_N h2 = y_N h) (hv2 : ∀ (ty : FieldType) (a k : Nat), ¬ (a = n ∧ k = j) → y_v h2 ty a k = y_v h ty a k) (hvk : y_v h2 (t_ay t) n j = v)
    (hP2 : (∀ a k, y_K h a ≠ 0 → y_P h a k ≠ 0 → y_K h (y_P h a k) ≠ 0) → ∀ a k, y_K h a ≠ 0 → y_P h2 a k ≠ 0 → y_K h (y_P h2 a k) ≠ 0) {ad : Nat → Nat} {H H' : Heap} (hR : y_R G z ad h H) (e1 : H'[ad n]? = some ((arrV (G.2.1 t) (y_N h n) (fun k => y_r ad (y_v h (t_ay t) n k))).setSlot j (y_r ad v))) (e2 : H'.size = H.size) (e3 : ∀ q, q ≠ ad n → H'[q]? = H[q]?) : y_R G z ad h2 H' := by
  have hnz : y_K h n ≠ 0 := by omega
  refine y_R_put hR hK2 hN2 hv2 (hP2 hR.2.2.2.2.2.1) e2 e3 hnz (by omega) ?_
  unfold y_at
  rw [hK2, hn, if_neg (by omega), if_pos (by omega), show (100 + t) % 100 = t by omega, hN2]
  refine ⟨(y_arr (t := t) hR hn ht9).1, ?_⟩
  rw [e1, arrV_store]
  congr 2
  funext k
  by_cases hk : k = j
  · subst hk
    simp only [updV, if_pos, hvk]
  · simp only [updV, if_neg hk]
    rw [hv2 _ n k (fun q => hk q.2)]
theorem y_gonext {n : Nat} {j : Nat} {h2 : y_H} (hK2 : y_K h2 = y_K h) (hnz : y_K h n ≠ 0) (hlt : y_K h n < 200) {pc2 : Nat} {st2 : List Value} (hsub : ∀ w ∈ st2, w ∈ st) (kk : y_V l G z R M ad0 h0 r h1 pc2 lv st2 h2 cells slots) {p : Program} {e : Env} {s : State} {m : MethodId} {args : Array Value} {below : List Frame} {meth : Method} {c : Code} (C : y_X G z M p s m args meth c) {ad : Nat → Nat} {H H' : Heap} {locs : List Loc} {ls : Array Slot} (hR : y_R G z ad h H) (hR2 : y_R G z ad h2 H') (hE : y_E ad0 h0 ad h) (ha : ∀ q ∈ lv, y_al h q.2) (hs : ∀ v ∈ st, y_al h v) (hl : ∀ q ∈ locs, z.size ≤ q.base) (hls : lv_has ls M.2.2.1 (lv.map (y_q ad))) :
    W p l e R s m args below meth c H' (locs ++ [⟨ad n, j⟩]) cells slots (MQ below (y_Qc G z ad0 h0 r h1) args s R.cells R.slots (fun q => z.size ≤ q)) (F0 m pc2 ls (st2.map (y_r ad))) := by
  refine kk p e s m args below meth c C ad H' _ ls hR2 (fun a ha0 => ⟨(hE a ha0).1, by rw [hK2]; exact (hE a ha0).2⟩) (fun q hq => y_al_mono (fun a h9 => by rw [hK2]; exact h9) (ha q hq)) (fun w hw => y_al_mono (fun a h9 => by rw [hK2]; exact h9) (hs w (hsub w hw))) ?_ hls
  intro q hq
  rcases List.mem_append.mp hq with h9 | h9
  · exact hl q h9
  · rw [List.mem_singleton.mp h9]
    exact hR.2.2.2.2.1 n hnz hlt
theorem y_iast {pc2 : Nat} {h2 : y_H} {n : Nat} {i : Int32} {x : Int32} (hp : pc + 1 = pc2) (hd : decode M.2.1 pc = .ok (.iastore, 1)) (hn : y_K h n = 100) (hi : vp_in i (y_N h n)) (he : h2 = s_I h n i.toNatClampNeg x) (kk : y_V l G z R M ad0 h0 r h1 pc2 lv st h2 cells slots) : y_V l G z R M ad0 h0 r h1 pc lv (.int x :: .int i :: y_p n :: st) h cells slots := by
  subst hp
  subst he
  intro p e s m args below meth c C ad H locs ls hR hE ha hs hl hls
  obtain ⟨hx, hb, hr, hml, hown, hts, hlk, hnm, hK, hZ⟩ := id C
  have hnz : y_K h n ≠ 0 := by omega
  obtain ⟨ht, hc⟩ := y_arr (t := 0) hR hn (by decide)
  show W _ _ _ _ _ _ _ _ _ _ _ _ _ _ _ (F0 m pc ls (.int x :: .int i :: y_r ad (y_p n) :: st.map (y_r ad)))
  rw [y_r_p, if_neg (y_nz hR hnz)]
  refine W.iast hx hb hc (y_isarr hK ht _ _) (fun q => by cases q) (by rw [arrV_size]; exact hi) rfl rfl hd fun H' e1 e2 e3 => ?_
  exact y_gonext (h := h) (st := .int x :: .int i :: y_p n :: st) (h2 := s_I h n i.toNatClampNeg x) rfl hnz (by omega) y_s3 kk C hR (y_ast (h := h) (t := 0) (v := .int x) (h2 := s_I h n i.toNatClampNeg x) (by decide) hn rfl rfl y_v_sI (congrArg Value.int (y_u_eq _ _ _ _)) (fun g => g) hR e1 e2 e3) hE ha hs hl hls
theorem y_last {pc2 : Nat} {h2 : y_H} {n : Nat} {i : Int32} {x : Int64} (hp : pc + 1 = pc2) (hd : decode M.2.1 pc = .ok (.lastore, 1)) (hn : y_K h n = 101) (hi : vp_in i (y_N h n)) (he : h2 = s_L h n i.toNatClampNeg x) (kk : y_V l G z R M ad0 h0 r h1 pc2 lv st h2 cells slots) : y_V l G z R M ad0 h0 r h1 pc lv (.long x :: .int i :: y_p n :: st) h cells slots := by
  subst hp
  subst he
  intro p e s m args below meth c C ad H locs ls hR hE ha hs hl hls
  obtain ⟨hx, hb, hr, hml, hown, hts, hlk, hnm, hK, hZ⟩ := id C
  have hnz : y_K h n ≠ 0 := by omega
  obtain ⟨ht, hc⟩ := y_arr (t := 1) hR hn (by decide)
  show W _ _ _ _ _ _ _ _ _ _ _ _ _ _ _ (F0 m pc ls (.long x :: .int i :: y_r ad (y_p n) :: st.map (y_r ad)))
  rw [y_r_p, if_neg (y_nz hR hnz)]
  refine W.last hx hb hc (y_isarr hK ht _ _) (fun q => by cases q) (by rw [arrV_size]; exact hi) rfl rfl hd fun H' e1 e2 e3 => ?_
  exact y_gonext (h := h) (st := .long x :: .int i :: y_p n :: st) (h2 := s_L h n i.toNatClampNeg x) rfl hnz (by omega) y_s3 kk C hR (y_ast (h := h) (t := 1) (v := .long x) (h2 := s_L h n i.toNatClampNeg x) (by decide) hn rfl rfl y_v_sL (congrArg Value.long (y_u_eq _ _ _ _)) (fun g => g) hR e1 e2 e3) hE ha hs hl hls
theorem y_zast {pc2 : Nat} {h2 : y_H} {n : Nat} {i : Int32} {x : Bool} (hp : pc + 1 = pc2) (hd : decode M.2.1 pc = .ok (.bastore, 1)) (hn : y_K h n = 102) (hi : vp_in i (y_N h n)) (he : h2 = s_B h n i.toNatClampNeg x) (kk : y_V l G z R M ad0 h0 r h1 pc2 lv st h2 cells slots) : y_V l G z R M ad0 h0 r h1 pc lv (.int (y_z x) :: .int i :: y_p n :: st) h cells slots := by
  subst hp
  subst he
  intro p e s m args below meth c C ad H locs ls hR hE ha hs hl hls
  obtain ⟨hx, hb, hr, hml, hown, hts, hlk, hnm, hK, hZ⟩ := id C
  have hnz : y_K h n ≠ 0 := by omega
  obtain ⟨ht, hc⟩ := y_arr (t := 2) hR hn (by decide)
  show W _ _ _ _ _ _ _ _ _ _ _ _ _ _ _ (F0 m pc ls (.int (y_z x) :: .int i :: y_r ad (y_p n) :: st.map (y_r ad)))
  rw [y_r_p, if_neg (y_nz hR hnz)]
  refine W.zast hx hb hc (y_isarr hK ht _ _) (fun q => by cases q) (by rw [arrV_size]; exact hi) rfl rfl hd fun H' e1 e2 e3 => ?_
  exact y_gonext (h := h) (st := .int (y_z x) :: .int i :: y_p n :: st) (h2 := s_B h n i.toNatClampNeg x) rfl hnz (by omega) y_s3 kk C hR (y_ast (h := h) (t := 2) (v := .int (y_z x)) (h2 := s_B h n i.toNatClampNeg x) (by decide) hn rfl rfl y_v_sB (congrArg (fun b => Value.int (y_z b)) (y_u_eq _ _ _ _)) (fun g => g) hR (by cases x <;> exact e1) e2 e3) hE ha hs hl hls
theorem y_aast {pc2 : Nat} {h2 : y_H} {t ci n x : Nat} {i : Int32} {q0 : vw_C} (hp : pc + 1 = pc2) (hd : decode M.2.1 pc = .ok (.aastore, 1)) (ht9 : t < 100) (hc0 : c_l[ci]? = some q0) (hci : ci < 99) (htq : t_ay t = .object q0.1) (hn : y_K h n = 100 + t) (hi : vp_in i (y_N h n)) (hxk : x = 0 ∨ y_K h x = ci + 1) (he : h2 = s_P h n i.toNatClampNeg x) (kk : y_V l G z R M ad0 h0 r h1 pc2 lv st h2 cells slots) : y_V l G z R M ad0 h0 r h1 pc lv (y_p x :: .int i :: y_p n :: st) h cells slots := by
  subst hp
  subst he
  intro p e s m args below meth c C ad H locs ls hR hE ha hs hl hls
  obtain ⟨hx, hb, hr, hml, hown, hts, hlk, hnm, hK, hZ⟩ := id C
  have hnz : y_K h n ≠ 0 := by omega
  have hlt : i.toNatClampNeg < y_N h n := Nat.not_le.mp fun q => hi (Or.inr q)
  have h00 : ¬ i < 0 := fun q => hi (Or.inl q)
  obtain ⟨ht, hc⟩ := y_arr (t := t) hR hn ht9
  have hrt : y_rt (t_ay t) = true := by rw [htq]; rfl
  have hxa : y_al h (y_p x) := hs _ (by simp)
  have fin : ∀ H' : Heap, H'[ad n]? = some ((arrV (G.2.1 t) (y_N h n) (fun k => y_r ad (y_v h (t_ay t) n k))).setSlot i.toNatClampNeg (y_r ad (y_p x))) → H'.size = H.size → (∀ q, q ≠ ad n → H'[q]? = H[q]?) → W p l e R s m args below meth c H' (locs ++ [⟨ad n, i.toNatClampNeg⟩]) cells slots (MQ below (y_Qc G z ad0 h0 r h1) args s R.cells R.slots (fun q => z.size ≤ q)) (F0 m (pc + 1) ls (st.map (y_r ad))) := by
    intro H' e1 e2 e3
    refine y_gonext (h := h) (st := y_p x :: .int i :: y_p n :: st) (h2 := s_P h n i.toNatClampNeg x) rfl hnz (by omega) y_s3 kk C hR (y_ast (h := h) (t := t) (v := y_p x) (h2 := s_P h n i.toNatClampNeg x) ht9 hn rfl rfl y_v_sP ?_ ?_ hR e1 e2 e3) hE ha hs hl hls
    · rw [y_v_ref hrt]
      exact congrArg y_p (y_u_eq _ _ _ _)
    · intro g a j hna hp
      have e9 : y_P (s_P h n i.toNatClampNeg x) = y_u (y_P h) n i.toNatClampNeg x := rfl
      rw [e9] at hp ⊢
      by_cases hq : a = n ∧ j = i.toNatClampNeg
      · rw [hq.1, hq.2, y_u_eq] at hp ⊢
        exact (y_al_p hxa).resolve_left hp
      · rw [y_u_ne _ _ hq] at hp ⊢
        exact g a j hna hp
  show W _ _ _ _ _ _ _ _ _ _ _ _ _ _ _ (F0 m pc ls (y_r ad (y_p x) :: .int i :: y_r ad (y_p n) :: st.map (y_r ad)))
  rw [y_r_p ad x] at fin
  rw [y_r_p ad x, y_r_p ad n, if_neg (y_nz hR hnz)]
  have hT := hK.2 t _ (y_tys_at G ht)
  rw [htq] at hT
  by_cases hx0 : x = 0
  · rw [if_pos hx0] at fin ⊢
    have harr := hT.1 (y_N h n) (fun k => y_r ad (y_v h (t_ay t) n k))
    exact va_WaastN (C := q0.1) hx hb hc harr (fun q => by cases q) (by rw [arrV_size]; exact hi) rfl rfl hd fin
  · rw [if_neg hx0] at fin ⊢
    obtain ⟨q9, hq9, cellV, g1, g2, g3, -⟩ := y_obj hR (hxk.resolve_left hx0) hci
    cases hq9.symm.trans hc0
    have hcls := (hK.1 ci _ hc0).2
    obtain ⟨kA, comp, k1, k2, k3, -⟩ := hT.2
    have hcomp : comp = G.1.1 ci := Option.some.inj (k3.symm.trans hcls.1)
    subst hcomp
    obtain ⟨kC, hkC, -⟩ := hcls.2
    exact W.aast hx hb hc (fun q h => by cases h) (fun h => by cases h) k1 k2 rfl hkC ⟨h00, by rw [arrV_size]; exact hlt⟩ g1 (fun q h => by rw [g3] at h; cases h) (by rw [g2]; exact hkC) (by rw [g2]; exact va_assign hcls) rfl rfl hd fin
/-- a method that can be called: its code, its class, n parameters -/
def y_N0 (N : y_M) (n : Nat) : Prop := Cond.code N.1 N.2.1 N.2.2.1 N.2.2.2 ∈ y_tb ∧ Cond.initialized N.1.cls ∈ y_tb ∧ (N.1.cls ≠ "java/lang/invoke/MethodHandle" ∧ N.1.cls ≠ "java/lang/invoke/VarHandle") ∧ (parseMethodDescriptor N.1.desc).map (fun d => d.parameters.length) = some n
def y_lnk (own : String) (i : Nat) (N : y_M) : Prop := Cond.methodLink own i N.1 ∈ y_tb ∨ ∃ host, Cond.methodLinkNest own i N.1 host ∈ y_tb
theorem y_n_of {N : y_M} {n : Nat} (hN : y_N0 N n) : ∀ sig, parseMethodDescriptor N.1.desc = some sig → n = sig.parameters.length := by
  intro sig h9
  have h2 := hN.2.2.2
  rw [h9] at h2
  exact (Option.some.inj h2).symm
theorem y_wsN {N : y_M} {n : Nat} (hN : y_N0 N n) {s : State} {args : Array Value} (hts : ∀ w ∈ y_tb, w.before args s = true) : ∀ w ∈ Cond.code N.1 N.2.1 N.2.2.1 N.2.2.2 :: y_tb, ∀ (a' : Array Value) (U : State), s.WarmedH U.vm → w.before a' U = true := by
  intro w hw a' U hW
  rcases List.mem_cons.mp hw with rfl | hw
  · exact y_warm hW hts _ hN.1
  · exact y_warm hW hts w hw
theorem y_CB {N : y_M} {n i : Nat} {rm : Room} {own : String} (hN : y_N0 N n) (hl : Cond.methodLink own i N.1 ∈ y_tb) (hroom : rm.frames + 1 ≤ R.frames ∧ 8 + (N.2.2.1 + 11) + rm.locals ≤ R.locals) {s : State} {args : Array Value} (hts : ∀ w ∈ y_tb, w.before args s = true) :
    CallB R s args own i N.1 N.2.1 N.2.2.1 N.2.2.2 (Cond.code N.1 N.2.1 N.2.2.1 N.2.2.2 :: y_tb) rm rm.cells rm.slots n :=
  ⟨rfl, rfl, hroom.1, hroom.2, y_wsN hN hts, List.mem_cons_self, hts _ hN.1, hts _ hN.2.1, hN.2.2.1, y_n_of hN, hts _ hl⟩
theorem y_CN {N : y_M} {n i : Nat} {rm : Room} {own host : String} (hN : y_N0 N n) (hl : Cond.methodLinkNest own i N.1 host ∈ y_tb) (hroom : rm.frames + 1 ≤ R.frames ∧ 8 + (N.2.2.1 + 11) + rm.locals ≤ R.locals) {s : State} {args : Array Value} (hts : ∀ w ∈ y_tb, w.before args s = true) :
    va_CN R s args own i N.1 host N.2.1 N.2.2.1 N.2.2.2 (Cond.code N.1 N.2.1 N.2.2.1 N.2.2.2 :: y_tb) rm rm.cells rm.slots n :=
  ⟨⟨rfl, rfl, hroom.1, hroom.2, y_wsN hN hts, List.mem_cons_self⟩, hts _ hN.1, hts _ hN.2.1, hN.2.2.1, y_n_of hN, hts _ hl⟩
theorem y_ZS_moved {u U : State} (hvm : u.vm.Alike U.vm) (hZ : y_ZS G z u) : y_ZS G z U := ⟨va_Z.moved hvm hZ.1, fun n => arrOfT_moved hvm (hZ.2 n)⟩
theorem y_Pc_pre {As : List Value} {ad : Nat → Nat} {H : Heap} {s : State} (hR : y_R G z ad h H) (hal : ∀ w ∈ As, y_al h w) (hK : va_K G.1 c_l (y_tys G) s) (hZ : y_ZS G z s) : FrameBlind (y_Pc G z ad As h) ∧ ∀ U : State, U.heap = H → s.WarmedH U.vm → y_Pc G z ad As h (As.map (y_r ad)).toArray U := by
  refine ⟨fun a U g mk q => ?_, fun U hU hW => ⟨rfl, by rw [hU]; exact hR, hal, va_K.moved hW.alike hK, y_ZS_moved hW.alike hZ⟩⟩
  obtain ⟨q0, q1, q2, q3, q4⟩ := q
  exact ⟨q0, q1, q2, va_K.moved (u := U) (U := U.calling g mk a) (Vm.Alike.refl U.vm) q3, y_ZS_moved (u := U) (U := U.calling g mk a) (Vm.Alike.refl U.vm) q4⟩
/-- behind a call -/
theorem y_after {p : Program} {e : Env} {s : State} {m : MethodId} {args : Array Value} {below : List Frame} {meth : Method} {c : Code} {ad : Nat → Nat} {H : Heap} {locs : List Loc} {ls : Array Slot} {rm : Room} {r2 : Option Value} {h2 : y_H} {stk : List Value} {av : Array Value} (C : y_X G z M p s m args meth c) (hE : y_E ad0 h0 ad h) (ha : ∀ q ∈ lv, y_al h q.2) (hs : ∀ v ∈ st, y_al h v) (hl : ∀ q ∈ locs, z.size ≤ q.base) (hls : lv_has ls M.2.2.1 (lv.map (y_q ad)))
    (hrun : va_Run p l e R s m args below meth c H locs cells slots rm.cells rm.slots (F0 m pc ls stk) (st.map (y_r ad)) (y_Qc G z ad h r2 h2 av) (fun q => z.size ≤ q)) (kk : y_V l G z R M ad0 h0 r h1 (pc + 3) lv (r2.toList ++ st) h2 (cells + rm.cells) (slots + rm.slots)) :
    W p l e R s m args below meth c H locs cells slots (MQ below (y_Qc G z ad0 h0 r h1) args s R.cells R.slots (fun q => z.size ≤ q)) (F0 m pc ls stk) := by
  intro T hT X
  obtain ⟨v, st₀, t, T', L, g0, X', hL, e1, e2, ⟨ad2, hv, hR2, hE2, hal⟩, go⟩ := hrun T hT X
  have hv2 : v = r2.map (y_r ad2) := by
    have := Outcome.returned.inj hv
    exact this
  subst hv2
  have hsame : ∀ n, y_K h n ≠ 0 → ad2 n = ad n := fun n hn => (hE2 n hn).1
  have hmono : ∀ n, y_K h n ≠ 0 → y_K h2 n ≠ 0 := fun n hn => by rw [(hE2 n hn).2]; exact hn
  have e5 := y_map_same hsame hs
  have e6 := y_qmap_same hsame ha
  have hstk : ∀ w ∈ r2.toList ++ st, y_al h2 w := by
    intro w hw
    rcases List.mem_append.mp hw with hw | hw
    · exact hal w (by simpa using hw)
    · exact y_al_mono hmono (hs w hw)
  obtain ⟨t2, a1, b1⟩ := kk p e s m args below meth c C ad2 T'.heap (locs ++ L) ls (by rw [e1]; exact hR2) (fun n hn => ⟨(hsame n (by rw [(hE n hn).2]; exact hn)).trans (hE n hn).1, (hE2 n (by rw [(hE n hn).2]; exact hn)).2.trans (hE n hn).2⟩) (fun q hq => y_al_mono hmono (ha q hq)) hstk
    (fun q hq => by
      rcases List.mem_append.mp hq with h9 | h9
      · exact hl q h9
      · exact hL q h9) (by rw [e6]; exact hls) T' rfl X'
  refine ⟨t2, go t2 ?_, b1⟩
  have e7 : (r2.toList ++ st).map (y_r ad2) = (r2.map (y_r ad2)).toList ++ st.map (y_r ad) := by
    rw [List.map_append, e5]
    cases r2 <;> rfl
  rw [e7] at a1
  exact a1
theorem y_callV {pc2 : Nat} {i n ci : Nat} {q0 : vw_C} {N : y_M} {rm : Room} {As stk : List Value} {b : Nat} {r2 : Option Value} {h2 : y_H} (hp : pc + 3 = pc2) (hd : decode M.2.1 pc = .ok (.invokevirtual i, 3)) (hN : y_N0 N n) (hl0 : y_lnk M.1.cls i N) (hins : Cond.instanceMethod N.1 ∈ y_tb) (hsel : Cond.selects N.1.cls N.1 N.1 ∈ y_tb) (hc0 : c_l[ci]? = some q0) (hq0 : q0.1 = N.1.cls) (hci : ci < 99) (hbk : y_K h b = ci + 1) (hn : As.length = n) (hstk : stk = As.reverse ++ y_p b :: st) (hroom : rm.frames + 1 ≤ R.frames ∧ 8 + (N.2.2.1 + 11) + rm.locals ≤ R.locals) (hcat : (st.map fun v => v.category).sum ≤ 8) (hcs : cells + rm.cells ≤ R.cells ∧ slots + rm.slots ≤ R.slots)
    (hS : y_S l G N rm (y_p b :: As) h r2 h2) (kk : y_V l G z R M ad0 h0 r h1 pc2 lv (r2.toList ++ st) h2 (cells + rm.cells) (slots + rm.slots)) : y_V l G z R M ad0 h0 r h1 pc lv stk h cells slots := by
  subst hp
  intro p e s m args below meth c C ad H locs ls hR hE ha hs hl hls
  obtain ⟨hx, hb, hr, hml, hown, hts, hlk, hnm, hK, hZ⟩ := id C
  subst hstk
  have hbz : y_K h b ≠ 0 := by omega
  have hb0 := y_nz hR hbz
  have hpb : y_p b = .ref b := if_neg hb0
  have hAs : ∀ w ∈ y_p b :: As, y_al h w := fun w hw => hs w (by
    rcases List.mem_cons.mp hw with rfl | hw
    · simp
    · simp [hw])
  have hst' : ∀ w ∈ st, y_al h w := fun w hw => hs w (by simp [hw])
  obtain ⟨q9, hq9, cell, g1, g2, g3, -⟩ := y_obj hR hbk hci
  cases hq9.symm.trans hc0
  have hrecv : ∃ cellB : Cell, H[ad b]? = some cellB ∧ cellB.vm.isStatics = false ∧ s.vm.findClass N.1.cls = some cellB.cls := ⟨cell, g1, by rw [g3]; rfl, by rw [g2, ← hq0]; exact (hK.1 ci _ hc0).2.1⟩
  have hpc := y_Pc_pre hR hAs hK hZ
  have hM := hS z ad
  have hmap : (y_p b :: As).map (y_r ad) = Value.ref (ad b) :: As.map (y_r ad) := by rw [List.map_cons, hpb]; rfl
  rw [hmap] at hpc
  have hstk2 : (As.reverse ++ y_p b :: st).map (y_r ad) = (As.map (y_r ad)).reverse ++ Value.ref (ad b) :: st.map (y_r ad) := by
    rw [List.map_append, List.map_reverse, List.map_cons, hpb]; rfl
  rw [hstk2]
  have hcat2 : 2 * (F0 m pc ls ((As.map (y_r ad)).reverse ++ Value.ref (ad b) :: st.map (y_r ad))).monitorRoom + ((st.map (y_r ad)).map fun v => v.category).sum ≤ 8 := lv_room (by
    rw [List.map_map]
    rw [show (fun v : Value => v.category) ∘ y_r ad = fun v => v.category from funext fun v => y_r_cat ad v]
    exact hcat)
  rcases hl0 with hl0 | ⟨host, hl0⟩
  · exact y_after C hE ha hst' hl hls (va_runV ⟨hx, hb, hml, hown, hts⟩ hM ⟨y_CB hN hl0 hroom hts, hts _ hins, hts _ hsel⟩ ⟨hpc.1, hrecv, hpc.2⟩ rfl (by rw [List.length_map]; exact hn) hls.1 rfl hcat2 hd hcs) kk
  · exact y_after C hE ha hst' hl hls (va_runVN ⟨hx, hb, hml, hown, hts⟩ hM ⟨y_CN hN hl0 hroom hts, hts _ hins, hts _ hsel⟩ ⟨hpc.1, hrecv, hpc.2⟩ rfl (by rw [List.length_map]; exact hn) hls.1 rfl hcat2 hd hcs) kk
theorem y_callS {pc2 : Nat} {i n : Nat} {N : y_M} {rm : Room} {As stk : List Value} {r2 : Option Value} {h2 : y_H} (hp : pc + 3 = pc2) (hd : decode M.2.1 pc = .ok (.invokestatic i, 3)) (hN : y_N0 N n) (hl0 : y_lnk M.1.cls i N) (hstt : Cond.static N.1 ∈ y_tb) (hn : As.length = n) (hstk : stk = As.reverse ++ st) (hroom : rm.frames + 1 ≤ R.frames ∧ 8 + (N.2.2.1 + 11) + rm.locals ≤ R.locals) (hcat : (st.map fun v => v.category).sum ≤ 8) (hcs : cells + rm.cells ≤ R.cells ∧ slots + rm.slots ≤ R.slots)
    (hS : y_S l G N rm As h r2 h2) (kk : y_V l G z R M ad0 h0 r h1 pc2 lv (r2.toList ++ st) h2 (cells + rm.cells) (slots + rm.slots)) : y_V l G z R M ad0 h0 r h1 pc lv stk h cells slots := by
  subst hp
  intro p e s m args below meth c C ad H locs ls hR hE ha hs hl hls
  obtain ⟨hx, hb, hr, hml, hown, hts, hlk, hnm, hK, hZ⟩ := id C
  subst hstk
  have hAs : ∀ w ∈ As, y_al h w := fun w hw => hs w (by simp [hw])
  have hst' : ∀ w ∈ st, y_al h w := fun w hw => hs w (by simp [hw])
  have hpc := y_Pc_pre hR hAs hK hZ
  have hM := hS z ad
  have hstk2 : (As.reverse ++ st).map (y_r ad) = (As.map (y_r ad)).reverse ++ st.map (y_r ad) := by
    rw [List.map_append, List.map_reverse]
  rw [hstk2]
  have hcat2 : 2 * (F0 m pc ls ((As.map (y_r ad)).reverse ++ st.map (y_r ad))).monitorRoom + ((st.map (y_r ad)).map fun v => v.category).sum ≤ 8 := lv_room (by
    rw [List.map_map]
    rw [show (fun v : Value => v.category) ∘ y_r ad = fun v => v.category from funext fun v => y_r_cat ad v]
    exact hcat)
  rcases hl0 with hl0 | ⟨host, hl0⟩
  · exact y_after C hE ha hst' hl hls (va_runS ⟨hx, hb, hml, hown, hts⟩ hM ⟨y_CB hN hl0 hroom hts, hts _ hstt⟩ hpc rfl (by rw [List.length_map]; exact hn) hls.1 rfl hcat2 hd hcs) kk
  · exact y_after C hE ha hst' hl hls (va_runSN ⟨hx, hb, hml, hown, hts⟩ hM ⟨y_CN hN hl0 hroom hts, hts _ hstt, trivial⟩ hpc rfl (by rw [List.length_map]; exact hn) hls.1 rfl hcat2 hd hcs) kk
/-- a method's start -/
theorem y_args_map (ad : Nat → Nat) : ∀ (i : Nat) (As : List Value), lv_args i (As.map (y_r ad)) = (lv_args i As).map (y_q ad)
  | _, [] => rfl
  | i, v :: vs => by
    show (i, y_r ad v) :: lv_args (if (y_r ad v).category = 2 then i + 2 else i + 1) (vs.map (y_r ad)) = (i, y_r ad v) :: (lv_args (if v.category = 2 then i + 2 else i + 1) vs).map (y_q ad)
    rw [y_r_cat, y_args_map ad]
theorem y_args_al {h : y_H} : ∀ (i : Nat) (As : List Value), (∀ w ∈ As, y_al h w) → ∀ q ∈ lv_args i As, y_al h q.2
  | _, [], _ => fun q hq => by cases hq
  | i, v :: vs, hal => fun q hq => by
    rcases List.mem_cons.mp hq with rfl | hq
    · exact hal v (by simp)
    · exact y_args_al _ vs (fun w hw => hal w (by simp [hw])) q hq
theorem y_sl_len (ad : Nat → Nat) : ∀ As : List Value, (lg_sl (As.map (y_r ad))).length = (lg_sl As).length
  | [] => rfl
  | v :: vs => by
    have ih := y_sl_len ad vs
    unfold lg_sl at ih ⊢
    rw [List.map_cons, List.flatMap_cons, List.flatMap_cons, List.length_append, List.length_append, ih, y_r_cat]
    split <;> rfl
theorem y_enter {rm : Room} {As : List Value} (hy : plainName M.1.cls = true) (hlen : (lg_sl As).length ≤ M.2.2.1) (k : ∀ (z : Heap) (ad0 : Nat → Nat), y_V l G z rm M ad0 h0 r h1 0 (lv_args 0 As) [] h0 0 0) : y_S l G M rm As h0 r h1 := by
  intro z ad0
  refine Met.ofW (cc := M.2.1) (maxL := M.2.2.1) (ret := M.2.2.2) hy rfl ?_
  intro p e s m args below meth c s₁ B hml hv
  obtain ⟨rfl, hR, hal, hK, hZ⟩ := hv
  have hts := atoms_spec (ws := Cond.code M.1 M.2.1 M.2.2.1 M.2.2.2 :: y_tb) B.pre
  have C : y_X G z M p s m (As.map (y_r ad0)).toArray meth c := ⟨B.exec, B.bytes, B.returns, hml, findClass_of_methodNamed B.named, fun w hw => hts w (List.mem_cons_of_mem _ hw), B.notSynchronized, (name_of_methodNamed B.named B.method).1, hK, hZ⟩
  have hl := lv_entry (As.map (y_r ad0)) (n := M.2.2.1) (by rw [y_sl_len]; exact hlen)
  rw [lg_entry_eq]
  rw [y_args_map] at hl
  exact k z ad0 p e s m _ below meth c C ad0 s.heap [] _ hR (fun n hn => ⟨rfl, rfl⟩) (y_args_al 0 As hal) (fun w hw => by cases hw) (fun q hq => by cases hq) hl
end YH
