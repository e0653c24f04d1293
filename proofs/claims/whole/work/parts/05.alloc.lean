theorem w_an : Cond.native arraycopyName ∈ y_tb := (c_6 50 (by decide +kernel) rfl)
theorem w_as : Cond.static arraycopyName ∈ y_tb := (c_6 49 (by decide +kernel) rfl)
theorem w_ai : Cond.initialized "java/lang/System" ∈ y_tb := (c_1 16 (by decide +kernel) rfl)
theorem w_oi : Cond.instanceMethod Lib.objectInit ∈ y_tb := (c_1 23 (by decide +kernel) rfl)
theorem w_oc : Cond.code Lib.objectInit ⟨#[0xb1]⟩ 1 none ∈ y_tb := (c_1 24 (by decide +kernel) rfl)
theorem w_ao8 : Cond.arrayOver (.array .int) ∈ y_tb := (c_2 18 (by decide +kernel) rfl)
theorem w_ac0 : Cond.arrayClass .int ∈ y_tb := (c_1 53 (by decide +kernel) rfl)
/-! cells that are made -/
def y_okt (ty : FieldType) : Bool := match ty with
  | .float => false
  | .double => false
  | _ => true
theorem y_dv {ad : Nat → Nat} {h : y_H} {n kd len : Nat} {ty : FieldType} (hty : y_okt ty = true) (k : Nat) : y_r ad (y_v (s_new h n kd len) ty n k) = defaultValue ty := by
  have e1 : y_I (s_new h n kd len) n k = 0 := by simp [y_I, s_new, y_w]
  have e2 : y_B (s_new h n kd len) n k = false := by simp [y_B, s_new, y_w]
  have e3 : y_L (s_new h n kd len) n k = 0 := by simp [y_L, s_new, y_w]
  have e4 : y_P (s_new h n kd len) n k = 0 := by simp [y_P, s_new, y_w]
  cases ty <;> first | (simp only [y_v, e1, e2, e3, e4]; rfl) | cases hty
theorem y_v_new {h : y_H} {n kd len : Nat} (ty : FieldType) {a : Nat} (k : Nat) (hne : ¬ a = n) : y_v (s_new h n kd len) ty a k = y_v h ty a k :=
  y_v_ext (h := h) (h2 := s_new h n kd len) (n := a) (k := k) (by simp [y_I, s_new, y_w, hne]) (by simp [y_B, s_new, y_w, hne]) (by simp [y_L, s_new, y_w, hne]) (by simp [y_P, s_new, y_w, hne]) ty
theorem y_K_new {h : y_H} {n kd len a : Nat} (hne : ¬ a = n) : y_K (s_new h n kd len) a = y_K h a := by simp [y_K, s_new, y_w, hne]
theorem y_K_self {h : y_H} {n kd len : Nat} : y_K (s_new h n kd len) n = kd := by simp [y_K, s_new, y_w]
theorem y_N_new {h : y_H} {n kd len a : Nat} (hne : ¬ a = n) : y_N (s_new h n kd len) a = y_N h a := by simp [y_N, s_new, y_w, hne]
theorem y_N_self {h : y_H} {n kd len : Nat} : y_N (s_new h n kd len) n = len := by simp [y_N, s_new, y_w]
theorem y_w_ne {α : Type} {f : Nat → α} {n a : Nat} {x : α} (hne : ¬ a = n) : y_w f n x a = f a := if_neg hne
theorem y_w_self {α : Type} {f : Nat → α} {n : Nat} {x : α} : y_w f n x n = x := if_pos rfl
/-- a new cell, at the heap's end, under a new name -/
theorem y_R_new {G : y_G} {z : Heap} {ad : Nat → Nat} {h : y_H} {H H' : Heap} {n kd len : Nat} (hR : y_R G z ad h H) (hn : 10 ≤ n) (hk : y_K h n = 0) (hkd : kd ≠ 0) (hs : H.size < H'.size) (ho : ∀ q : Nat, q < H.size → H'[q]? = H[q]?) (hat : y_at G (y_w ad n H.size) (s_new h n kd len) n H') : y_R G z (y_w ad n H.size) (s_new h n kd len) H' := by
  have hR0 := hR
  obtain ⟨g1, g2, g3, g4, g5, g6, g7⟩ := hR
  have hal : ∀ a, y_K h a ≠ 0 → ¬ a = n := fun a ha e => ha (by rw [e]; exact hk)
  have hlt : ∀ a, y_K h a ≠ 0 → ad a < H.size := fun a ha => y_lt hR0 ha
  have hsame : ∀ a, y_K h a ≠ 0 → y_w ad n H.size a = ad a := fun a ha => y_w_ne (hal a ha)
  refine ⟨⟨by omega, fun q hq => ?_⟩, ?_, fun a ha => ?_, fun a b ha hb e => ?_, fun a ha h2 => ?_, fun a j ha hj => ?_, fun ha => ?_⟩
  · rw [ho q (by omega)]; exact g1.2 q hq
  · rw [y_K_new (by omega)]; exact g2
  · by_cases e : a = n
    · rw [e]; exact hat
    · rw [y_K_new e] at ha
      refine y_at_kept (y_K_new e) (y_N_new e) (hsame a ha) (fun ty k => ?_) (ho _ (hlt a ha)) (g3 a ha)
      rw [y_v_new ty k e]
      exact y_r_same hsame (y_v_al hR0 ha ty k)
  · by_cases ea : a = n
    · by_cases eb : b = n
      · rw [ea, eb]
      · rw [y_K_new eb] at hb
        rw [ea, y_w_self, y_w_ne eb] at e
        have := hlt b hb
        omega
    · rw [y_K_new ea] at ha
      by_cases eb : b = n
      · rw [eb, y_w_self, y_w_ne ea] at e
        have := hlt a ha
        omega
      · rw [y_K_new eb] at hb
        rw [y_w_ne ea, y_w_ne eb] at e
        exact g4 a b ha hb e
  · by_cases ea : a = n
    · rw [ea, y_w_self]; exact g1.1
    · rw [y_K_new ea] at ha h2
      rw [y_w_ne ea]
      exact g5 a ha h2
  · by_cases ea : a = n
    · exact absurd (by rw [ea]; simp [y_P, s_new, y_w]) hj
    · rw [y_K_new ea] at ha
      have e1 : y_P (s_new h n kd len) a j = y_P h a j := by simp [y_P, s_new, y_w, ea]
      rw [e1] at hj ⊢
      have h3 := g6 a j ha hj
      rw [y_K_new (hal _ h3)]
      exact h3
  · rw [y_K_new (by omega)] at ha
    rw [y_w_ne (by omega)]
    exact g7 ha
section YN
variable {l : Launch} {G : y_G} {z : Heap} {R : Room} {M : y_M} {ad0 : Nat → Nat} {h0 h1 : y_H} {r : Option Value} {pc : Nat} {lv : List (Nat × Value)} {st : List Value} {h : y_H} {cells slots : Nat}
/-- behind the making of a cell -/
theorem y_made {n kd len pc2 k2 s2 : Nat} {p : Program} {e : Env} {s : State} {m : MethodId} {args : Array Value} {below : List Frame} {meth : Method} {c : Code} {ad : Nat → Nat} {H H' : Heap} {locs : List Loc} {ls : Array Slot} (C : y_X G z M p s m args meth c) (hR : y_R G z ad h H) (hn : 10 ≤ n) (hk : y_K h n = 0) (hE : y_E ad0 h0 ad h) (ha : ∀ q ∈ lv, y_al h q.2) (hs : ∀ v ∈ st, y_al h v) (hl : ∀ q ∈ locs, z.size ≤ q.base) (hls : lv_has ls M.2.2.1 (lv.map (y_q ad))) (hR2 : y_R G z (y_w ad n H.size) (s_new h n kd len) H') (hkd : kd ≠ 0)
    (kk : y_V l G z R M ad0 h0 r h1 pc2 lv (y_p n :: st) (s_new h n kd len) k2 s2) : W p l e R s m args below meth c H' locs k2 s2 (MQ below (y_Qc G z ad0 h0 r h1) args s R.cells R.slots (fun q => z.size ≤ q)) (F0 m pc2 ls (.ref H.size :: st.map (y_r ad))) := by
  have hal : ∀ a, y_K h a ≠ 0 → ¬ a = n := fun a h9 e => h9 (by rw [e]; exact hk)
  have hsame : ∀ a, y_K h a ≠ 0 → y_w ad n H.size a = ad a := fun a h9 => y_w_ne (hal a h9)
  have hmono : ∀ a, y_K h a ≠ 0 → y_K (s_new h n kd len) a ≠ 0 := fun a h9 => by rw [y_K_new (hal a h9)]; exact h9
  have hw := kk p e s m args below meth c C (y_w ad n H.size) H' locs ls hR2 (fun a h9 => by
      have h8 : y_K h a ≠ 0 := by rw [(hE a h9).2]; exact h9
      exact ⟨(hsame a h8).trans (hE a h9).1, (y_K_new (hal a h8)).trans (hE a h9).2⟩) (fun q hq => y_al_mono hmono (ha q hq)) (fun w hw => by
      rcases List.mem_cons.mp hw with rfl | hw
      · exact y_p_al (Or.inr (by rw [y_K_self]; exact hkd))
      · exact y_al_mono hmono (hs w hw)) hl (by rw [y_qmap_same hsame ha]; exact hls)
  rw [List.map_cons, y_map_same hsame hs, y_r_p, if_neg (by omega), y_w_self] at hw
  exact hw
theorem y_new {i ci n N pc2 : Nat} {C9 : String} {T9 : u_T} (hp : pc + 3 = pc2) (hd : decode M.2.1 pc = .ok (.new i, 3)) (hcl : Cond.classLink M.1.cls i C9 ∈ y_tb) (hin : Cond.instantiable C9 N ∈ y_tb) (hini : Cond.initialized C9 ∈ y_tb) (hc : c_l[ci]? = some (C9, T9, N)) (hci : ci < 99) (hty : ∀ k, k < N → y_okt (t_f ci k) = true) (hn : 10 ≤ n) (hk : y_K h n = 0) (hcs : cells + 1 ≤ R.cells) (hsl : slots + N ≤ R.slots)
    (kk : y_V l G z R M ad0 h0 r h1 pc2 lv (y_p n :: st) (s_new h n (ci + 1) N) (cells + 1) (slots + N)) : y_V l G z R M ad0 h0 r h1 pc lv st h cells slots := by
  subst hp
  intro p e s m args below meth c C ad H locs ls hR hE ha hs hl hls
  obtain ⟨hx, hb, hr, hml, hown, hts, hlk, hnm, hK, hZ⟩ := id C
  have hKn := hK.1 ci _ hc
  refine W.newcK hx hb hown (hts _ hcl) (hts _ hin) (hts _ hini) rfl hd hcs hsl hKn.2.1 rfl fun H' kC hkC e1 z1 o1 => ?_
  refine y_made C hR hn hk hE ha hs hl hls (y_R_new hR hn hk (by omega) (by omega) o1 ?_) (by omega) kk
  unfold y_at
  rw [y_K_self, if_pos (by omega), Nat.add_sub_cancel]
  refine ⟨_, hc, ?_⟩
  rw [y_w_self]
  exact (u_born (t_f ci) hts (st_in ci _ hc) hKn hkC e1 (st_ty ci _ hc)).to (fun k hk9 => (y_dv (hty k hk9) k).symm)
theorem y_newa {t n pc2 : Nat} {i : Int32} {aty : ArrayType} (hp : pc + 2 = pc2) (hd : decode M.2.1 pc = .ok (.newarray aty, 2)) (ht9 : t < n_ay) (hty : newarray.typeOf aty = t_ay t) (hok : y_okt (t_ay t) = true) (hpr : y_rt (t_ay t) = false) (harr : Cond.arrayClass (t_ay t) ∈ y_tb) (hi : ¬ i < 0) (hby : i.toNatClampNeg * componentBytes (t_ay t) ≤ 536870912) (hn : 10 ≤ n) (hk : y_K h n = 0) (hcs : cells + 1 ≤ R.cells) (hsl : slots + i.toNatClampNeg ≤ R.slots)
    (kk : y_V l G z R M ad0 h0 r h1 pc2 lv (y_p n :: st) (s_new h n (100 + t) i.toNatClampNeg) (cells + 1) (slots + i.toNatClampNeg)) : y_V l G z R M ad0 h0 r h1 pc lv (.int i :: st) h cells slots := by
  subst hp
  intro p e s m args below meth c C ad H locs ls hR hE ha hs hl hls
  obtain ⟨hx, hb, hr, hml, hown, hts, hlk, hnm, hK, hZ⟩ := id C
  have hlt : n_ay < 100 := by decide
  refine va_newaK (atype := aty) (h := H.size) (N := i.toNatClampNeg) hx hb (by rw [hty]; exact hts _ harr) rfl hd rfl hi rfl (by rw [hty]; exact hby) hcs hsl rfl fun H' cA e1 z1 o1 hAr hNm => ?_
  have hcA : cA = G.2.1 t := by
    have h2 := (hK.2 t _ (y_tys_at G ht9)).2
    rw [hty] at hNm
    clear hty harr hby hok e1
    revert h2 hNm hpr
    cases t_ay t <;> intro hpr hN9 h9 <;> first | exact Option.some.inj (Eq.trans (Eq.symm hN9) h9) | cases hpr
  subst hcA
  refine y_made C hR hn hk hE ha (y_als y_s1 hs) hl hls (y_R_new hR hn hk (by omega) (by omega) o1 ?_) (by omega) kk
  unfold y_at
  rw [y_K_self, if_neg (by omega), if_pos (by omega), show (100 + t) % 100 = t by omega, y_N_self, y_w_self]
  refine ⟨ht9, ?_⟩
  rw [e1, hty]
  congr 2
  funext k
  exact (y_dv hok k).symm
theorem y_newq {t n i9 pc2 : Nat} {i : Int32} {C9 : String} (hp : pc + 3 = pc2) (hd : decode M.2.1 pc = .ok (.anewarray i9, 3)) (ht9 : t < n_ay) (hty : t_ay t = .object C9) (hcl : Cond.classLink M.1.cls i9 C9 ∈ y_tb) (hov : Cond.arrayOver (.object C9) ∈ y_tb) (hi : ¬ i < 0) (hby : i.toNatClampNeg * 4 ≤ 536870912) (hn : 10 ≤ n) (hk : y_K h n = 0) (hcs : cells + 1 ≤ R.cells) (hsl : slots + i.toNatClampNeg ≤ R.slots)
    (kk : y_V l G z R M ad0 h0 r h1 pc2 lv (y_p n :: st) (s_new h n (100 + t) i.toNatClampNeg) (cells + 1) (slots + i.toNatClampNeg)) : y_V l G z R M ad0 h0 r h1 pc lv (.int i :: st) h cells slots := by
  subst hp
  intro p e s m args below meth c C ad H locs ls hR hE ha hs hl hls
  obtain ⟨hx, hb, hr, hml, hown, hts, hlk, hnm, hK, hZ⟩ := id C
  have hlt : n_ay < 100 := by decide
  refine W.anew hx hb hown (hts _ hcl) (hts _ hov) rfl hd rfl hi hby hcs hsl fun cA kA comp f1 f2 f3 f4 => ?_
  have hcA : cA = G.2.1 t := by
    have h2 := (hK.2 t _ (y_tys_at G ht9)).2
    rw [hty] at h2
    obtain ⟨kA2, comp2, k1, k2, k3, k4⟩ := h2
    exact Option.some.inj (f1.symm.trans k4)
  subst hcA
  refine y_made C hR hn hk hE ha (y_als y_s1 hs) hl hls (y_R_new hR hn hk (by omega) (by rw [Array.size_push]; omega) (fun q hq => by rw [Array.getElem?_push, if_neg (Nat.ne_of_lt hq)]) ?_) (by omega) kk
  unfold y_at
  rw [y_K_self, if_neg (by omega), if_pos (by omega), show (100 + t) % 100 = t by omega, y_N_self, y_w_self]
  refine ⟨ht9, ?_⟩
  rw [Array.getElem?_push_size, arrV_new]
  congr 2
  funext k
  rw [y_dv (by rw [hty]; rfl) k, hty]
  rfl
theorem y_oinit {i n pc2 : Nat} (hp : pc + 3 = pc2) (hd : decode M.2.1 pc = .ok (.invokespecial i, 3)) (hl0 : Cond.methodLink M.1.cls i Lib.objectInit ∈ y_tb) (hn : y_K h n ≠ 0) (hfr : 1 ≤ R.frames) (hlo : 20 ≤ R.locals) (hcat : (st.map fun v => v.category).sum ≤ 8)
    (kk : y_V l G z R M ad0 h0 r h1 pc2 lv st h cells slots) : y_V l G z R M ad0 h0 r h1 pc lv (y_p n :: st) h cells slots := by
  subst hp
  intro p e s m args below meth c C ad H locs ls hR hE ha hs hl hls
  obtain ⟨hx, hb, hr, hml, hown, hts, hlk, hnm, hK, hZ⟩ := id C
  have hcat2 : ((st.map (y_r ad)).map fun v => v.category).sum ≤ 8 := by
    rw [List.map_map, show (fun v : Value => v.category) ∘ y_r ad = fun v => v.category from funext fun v => y_r_cat ad v]
    exact hcat
  show W _ _ _ _ _ _ _ _ _ _ _ _ _ _ _ (F0 m pc ls (y_r ad (y_p n) :: st.map (y_r ad)))
  rw [y_r_p, if_neg (y_nz hR hn)]
  exact W.objInit hx hb hown (hts _ hl0) (hts _ w_oi) (hts _ w_oc) rfl (hls.1.trans hml.symm) rfl hd hfr (by show 2 * 0 + _ + 12 ≤ _; omega) (kk p e s m args below meth c C ad H locs ls hR hE ha (y_als y_s1 hs) hl hls)
theorem y_callI {i n ci pc2 : Nat} {N : y_M} {rm : Room} {As stk : List Value} {b : Nat} {r2 : Option Value} {h2 : y_H} (hp : pc + 3 = pc2) (hd : decode M.2.1 pc = .ok (.invokespecial i, 3)) (hN : y_N0 N n) (hN2 : N.2.2.2 = none) (hnm9 : N.1.name = "<init>") (hl0 : y_lnk M.1.cls i N) (hins : Cond.instanceMethod N.1 ∈ y_tb) (hbk : y_K h b = ci + 1) (hn : As.length = n) (hstk : stk = As.reverse ++ y_p b :: st) (hroom : rm.frames + 1 ≤ R.frames ∧ 8 + (N.2.2.1 + 11) + rm.locals ≤ R.locals) (hcat : (st.map fun v => v.category).sum ≤ 8) (hcs : cells + rm.cells ≤ R.cells ∧ slots + rm.slots ≤ R.slots)
    (hS : y_S l G N rm (y_p b :: As) h r2 h2) (kk : y_V l G z R M ad0 h0 r h1 pc2 lv (r2.toList ++ st) h2 (cells + rm.cells) (slots + rm.slots)) : y_V l G z R M ad0 h0 r h1 pc lv stk h cells slots := by
  subst hp
  intro p e s m args below meth c C ad H locs ls hR hE ha hs hl hls
  obtain ⟨hx, hb, hr, hml, hown, hts, hlk, hnm, hK, hZ⟩ := id C
  subst hstk
  have hbz : y_K h b ≠ 0 := by omega
  have hb0 := y_nz hR hbz
  have hpb : y_p b = .ref b := if_neg hb0
  have hAs : ∀ w ∈ y_p b :: As, y_al h w := fun w hw => hs w (by
    rcases List.mem_cons.mp hw with rfl | hw
    · simp
    · simp [hw])
  have hst' : ∀ w ∈ st, y_al h w := fun w hw => hs w (by simp [hw])
  have hpc := y_Pc_pre hR hAs hK hZ
  have hM := hS z ad
  have hmap : (y_p b :: As).map (y_r ad) = Value.ref (ad b) :: As.map (y_r ad) := by rw [List.map_cons, hpb]; rfl
  rw [hmap] at hpc
  have hstk2 : (As.reverse ++ y_p b :: st).map (y_r ad) = (As.map (y_r ad)).reverse ++ Value.ref (ad b) :: st.map (y_r ad) := by
    rw [List.map_append, List.map_reverse, List.map_cons, hpb]; rfl
  rw [hstk2]
  have hcat2 : 2 * (F0 m pc ls ((As.map (y_r ad)).reverse ++ Value.ref (ad b) :: st.map (y_r ad))).monitorRoom + ((st.map (y_r ad)).map fun v => v.category).sum ≤ 8 := lv_room (by
    rw [List.map_map]
    rw [show (fun v : Value => v.category) ∘ y_r ad = fun v => v.category from funext fun v => y_r_cat ad v]
    exact hcat)
  rcases hl0 with hl0 | ⟨host, hl0⟩
  · have h9 := y_CB (R := R) hN hl0 hroom hts
    rw [hN2] at h9 hM
    exact y_after C hE ha hst' hl hls (va_runI ⟨hx, hb, hml, hown, hts⟩ hM ⟨h9, hnm9, hts _ hins⟩ hpc rfl (by rw [List.length_map]; exact hn) hls.1 rfl hcat2 hd hcs) kk
  · have h9 := y_CN (R := R) hN hl0 hroom hts
    rw [hN2] at h9 hM
    exact y_after C hE ha hst' hl hls (va_runIN ⟨hx, hb, hml, hown, hts⟩ hM ⟨h9, hnm9, hts _ hins⟩ hpc rfl (by rw [List.length_map]; exact hn) hls.1 rfl hcat2 hd hcs) kk
/-- the static array SLACKS: name 2 -/
theorem y_gets {i pc2 : Nat} (hp : pc + 3 = pc2) (hd : decode M.2.1 pc = .ok (.getstatic i, 3)) (hl0 : Cond.fieldLink M.1.cls i "BoxYard$Search" "SLACKS" "[I" ∈ y_tb) (hk : y_K h 2 = 200) (kk : y_V l G z R M ad0 h0 r h1 pc2 lv (y_p 2 :: st) h cells slots) : y_V l G z R M ad0 h0 r h1 pc lv st h cells slots := by
  subst hp
  intro p e s m args below meth c C ad H locs ls hR hE ha hs hl hls
  obtain ⟨hx, hb, hr, hml, hown, hts, hlk, hnm, hK, hZ⟩ := id C
  have hnz : y_K h 2 ≠ 0 := by omega
  have hw := kk p e s m args below meth c C ad H locs ls hR hE ha (y_alc (y_p_al (Or.inr hnz)) y_s0 hs) hl hls
  rw [List.map_cons, y_r_p, if_neg (by decide), hR.2.2.2.2.2.2 hnz] at hw
  obtain ⟨⟨cf, kf, fi, f, a, cell, g1, g2, g3, g4, g5, g6, g7, g8⟩, -⟩ := hZ
  have hlt : a < z.size := (Array.getElem?_eq_some_iff.mp g5).1
  exact W.gets hx hb hown (hts _ hl0) g1 g2 g3 g4 (by rw [hR.1.2 a hlt]; exact g5) (fun e9 => by rw [e9] at g6; cases g6) g7 rfl hd hw
end YN
/-- one row has changed -/
theorem y_R_row {G : y_G} {z : Heap} {ad : Nat → Nat} {h h2 : y_H} {H H' : Heap} {n : Nat} (hR : y_R G z ad h H) (hK : y_K h2 = y_K h) (hN : y_N h2 = y_N h) (hv : ∀ (ty : FieldType) (a j : Nat), ¬ a = n → y_v h2 ty a j = y_v h ty a j)
    (hP : y_P h2 = y_P h) (hs : H'.size = H.size) (ho : ∀ q, q ≠ ad n → H'[q]? = H[q]?) (hn : y_K h n ≠ 0) (hlt : y_K h n < 200) (hat : y_at G ad h2 n H') : y_R G z ad h2 H' := by
  obtain ⟨g1, g2, g3, g4, g5, g6, g7⟩ := hR
  refine ⟨⟨by rw [hs]; exact g1.1, fun q hq => by rw [ho q (fun e => by have := g5 n hn hlt; omega)]; exact g1.2 q hq⟩, by rw [hK]; exact g2, fun a ha => ?_, by rw [hK]; exact g4, by rw [hK]; exact g5, by rw [hK, hP]; exact g6, by rw [hK]; exact g7⟩
  by_cases e : a = n
  · rw [e]; exact hat
  · rw [hK] at ha
    have hne : ad a ≠ ad n := fun q => e (g4 a n ha hn q)
    exact y_at_kept (by rw [hK]) (by rw [hN]) rfl (fun ty j => by rw [hv ty a j e]) (ho _ hne) (g3 a ha)
def s_cpI (h : y_H) (src dst sp dp n : Nat) : y_H := (y_K h, y_N h, fun a b => if a = dst then va_cpy (y_I h src) (y_I h dst) sp dp n b else y_I h a b, y_B h, y_L h, y_P h)
theorem y_acpI {l : Launch} {G : y_G} {z : Heap} {R : Room} {M : y_M} {ad0 : Nat → Nat} {h0 h1 : y_H} {r : Option Value} {pc pc2 : Nat} {lv : List (Nat × Value)} {st : List Value} {h h2 : y_H} {cells slots i src dst : Nat} {sp dp n : Int32} (hp : pc + 3 = pc2) (hd : decode M.2.1 pc = .ok (.invokestatic i, 3)) (hl0 : Cond.methodLink M.1.cls i arraycopyName ∈ y_tb) (hfr : 1 ≤ R.frames) (hlo : 8 + (nativeFrameWords "java/lang/System" "arraycopy" 5 + 11) ≤ R.locals) (hcat : (st.map fun v => v.category).sum ≤ 8)
    (hg : y_K h src = 100 ∧ y_K h dst = 100 ∧ ¬ sp < 0 ∧ ¬ dp < 0 ∧ ¬ n < 0 ∧ sp.toNatClampNeg + n.toNatClampNeg ≤ y_N h src ∧ dp.toNatClampNeg + n.toNatClampNeg ≤ y_N h dst) (he : h2 = s_cpI h src dst sp.toNatClampNeg dp.toNatClampNeg n.toNatClampNeg)
    (kk : y_V l G z R M ad0 h0 r h1 pc2 lv st h2 cells slots) : y_V l G z R M ad0 h0 r h1 pc lv (.int n :: .int dp :: y_p dst :: .int sp :: y_p src :: st) h cells slots := by
  subst hp
  intro p e s m args below meth c C ad H locs ls hR hE ha hs hl hls
  obtain ⟨hx, hb, hr, hml, hown, hts, hlk, hnm, hK, hZ⟩ := id C
  obtain ⟨hk0, hk1, g1, g2, g3, g4, g5⟩ := hg
  have hz0 : y_K h src ≠ 0 := by omega
  have hz1 : y_K h dst ≠ 0 := by omega
  obtain ⟨ht, hc0⟩ := y_arr (t := 0) hR hk0 (by decide)
  obtain ⟨-, hc1⟩ := y_arr (t := 0) hR hk1 (by decide)
  have hc0 : H[ad src]? = some (arrV (G.2.1 0) (y_N h src) (fun k => .int (y_I h src k))) := hc0
  have hc1 : H[ad dst]? = some (arrV (G.2.1 0) (y_N h dst) (fun k => .int (y_I h dst k))) := hc1
  have nn : ∀ z : Int32, ¬ z < 0 → z.toInt = (z.toNatClampNeg : Int) := by
    intro z hz
    have hz0 : (0 : Int) ≤ z.toInt := by
      have := Int32.not_lt.mp hz
      simpa using Int32.le_iff_toInt_le.mp this
    show z.toInt = ((z.toInt.toNat : Nat) : Int)
    omega
  have hcat2 : ((st.map (y_r ad)).map fun v => v.category).sum ≤ 8 := by
    rw [List.map_map, show (fun v : Value => v.category) ∘ y_r ad = fun v => v.category from funext fun v => y_r_cat ad v]
    exact hcat
  show W _ _ _ _ _ _ _ _ _ _ _ _ _ _ _ (F0 m pc ls (.int n :: .int dp :: y_r ad (y_p dst) :: .int sp :: y_r ad (y_p src) :: st.map (y_r ad)))
  rw [y_r_p, y_r_p, if_neg (y_nz hR hz0), if_neg (y_nz hR hz1)]
  intro T hT X
  obtain ⟨-, k0, hk0', cm0, hkk0⟩ := y_isarr hK ht (y_N h src) (fun k => .int (y_I h src k))
  obtain ⟨vm', X', step⟩ := X.arraycopy hx hown (hts _ hl0) (hts _ w_an) (hts _ w_as) (hts _ w_ai) (src := ad src) (dst := ad dst) (cs := arrV (G.2.1 0) (y_N h src) (fun k => .int (y_I h src k))) (cd := arrV (G.2.1 0) (y_N h dst) (fun k => .int (y_I h dst k))) (srcPos := sp) (destPos := dp) (n := n) (by rw [hT]; exact hc0) (by rw [hT]; exact hc1)
    (fun _ h => by cases h) (fun _ h => by cases h) (fun h => by cases h) (fun h => by cases h) hk0' hk0' hkk0 hkk0 (by simp [refKind, t_ay]) g1 g2 g3
    (by rw [nn sp g1, nn n g3]; show ¬ _ > ((arrV _ _ _).slots.size : Int); rw [arrV_size]; omega)
    (by rw [nn dp g2, nn n g3]; show ¬ _ > ((arrV _ _ _).slots.size : Int); rw [arrV_size]; omega)
    (fun vm₁ _ j hj => by
      have e9 : (arrV (G.2.1 0) (y_N h src) (fun k => Value.int (y_I h src k))).slots.getD (sp.toNatClampNeg + j) .null = .int (y_I h src (sp.toNatClampNeg + j)) := by
        rw [Array.getD_eq_getD_getElem?, arrV_read _ _ (by omega)]
        rfl
      refine ⟨?_, ?_⟩
      · rw [e9]
        rfl
      · rw [e9]
        exact trivial)
    (g := F0 m pc ls (.int n :: .int dp :: .ref (ad dst) :: .int sp :: .ref (ad src) :: st.map (y_r ad))) rfl (by rw [hml]; exact hls.1) (rest := st.map (y_r ad)) rfl (by rw [hb]; exact hd) hfr (by show 2 * 0 + _ + _ ≤ _; omega)
  have e1 : copied (arrV (G.2.1 0) (y_N h src) (fun k => .int (y_I h src k))) (arrV (G.2.1 0) (y_N h dst) (fun k => .int (y_I h dst k))) sp dp n = arrV (G.2.1 0) (y_N h dst) (fun j => .int (va_cpy (y_I h src) (y_I h dst) sp.toNatClampNeg dp.toNatClampNeg n.toNatClampNeg j)) := va_copied (fun z => Value.int z) (G.2.1 0) (G.2.1 0) (y_I h src) (y_I h dst) g4
  rw [e1] at X' step
  have hlt : ad dst < H.size := y_lt hR hz1
  have hheap : ((T.setVm vm').setCell (ad dst) (arrV (G.2.1 0) (y_N h dst) (fun j => .int (va_cpy (y_I h src) (y_I h dst) sp.toNatClampNeg dp.toNatClampNeg n.toNatClampNeg j)))).heap = H.setIfInBounds (ad dst) (arrV (G.2.1 0) (y_N h dst) (fun j => .int (va_cpy (y_I h src) (y_I h dst) sp.toNatClampNeg dp.toNatClampNeg n.toNatClampNeg j))) := by rw [← hT]; rfl
  have hv2 : ∀ (ty : FieldType) (a k : Nat), ¬ a = dst → y_v h2 ty a k = y_v h ty a k := fun ty a k hne => by
    rw [he]
    exact y_v_ext (h := h) (h2 := s_cpI h src dst _ _ _) (n := a) (k := k) (by first | rfl | exact if_neg hne) rfl (by first | rfl | exact if_neg hne) rfl ty
  have hKe : y_K h2 = y_K h := by rw [he]; rfl
  have hNe : y_N h2 = y_N h := by rw [he]; rfl
  have hPe : y_P h2 = y_P h := by rw [he]; rfl
  have hR2 : y_R G z ad h2 (H.setIfInBounds (ad dst) (arrV (G.2.1 0) (y_N h dst) (fun j => .int (va_cpy (y_I h src) (y_I h dst) sp.toNatClampNeg dp.toNatClampNeg n.toNatClampNeg j)))) := by
    refine y_R_row hR hKe hNe hv2 hPe (by simp) (fun q hq => by simp [Array.getElem?_setIfInBounds, Ne.symm hq]) hz1 (by omega) ?_
    unfold y_at
    rw [hKe, hk1, if_neg (by decide), if_pos (by decide), hNe]
    refine ⟨by decide, ?_⟩
    rw [show (H.setIfInBounds (ad dst) (arrV (G.2.1 0) (y_N h dst) (fun j => Value.int (va_cpy (y_I h src) (y_I h dst) sp.toNatClampNeg dp.toNatClampNeg n.toNatClampNeg j))))[ad dst]? = some _ from by simp [Array.getElem?_setIfInBounds, hlt]; rfl]
    show some (arrV (G.2.1 0) _ _) = some (arrV (G.2.1 0) _ _)
    congr 2
    funext k
    rw [he]
    exact congrArg Value.int (if_pos rfl).symm
  obtain ⟨t2, a1, b1⟩ := kk p e s m args below meth c C ad _ _ ls hR2 (fun a h9 => ⟨(hE a h9).1, by rw [hKe]; exact (hE a h9).2⟩) (fun q hq => y_al_mono (fun a h9 => by rw [hKe]; exact h9) (ha q hq)) (fun w hw => y_al_mono (fun a h9 => by rw [hKe]; exact h9) (hs w (by simp [hw]))) (fun q hq => by
      rcases List.mem_append.mp hq with h9 | h9
      · exact hl q h9
      · obtain ⟨z9, -, hz9⟩ := List.mem_map.mp h9
        rw [← hz9]
        exact hR.2.2.2.2.1 dst hz1 (by omega)) hls _ hheap X'
  exact ⟨t2, step t2 a1, b1⟩
def s_cpL (h : y_H) (src dst sp dp n : Nat) : y_H := (y_K h, y_N h, y_I h, y_B h, fun a b => if a = dst then va_cpy (y_L h src) (y_L h dst) sp dp n b else y_L h a b, y_P h)
theorem y_acpL {l : Launch} {G : y_G} {z : Heap} {R : Room} {M : y_M} {ad0 : Nat → Nat} {h0 h1 : y_H} {r : Option Value} {pc pc2 : Nat} {lv : List (Nat × Value)} {st : List Value} {h h2 : y_H} {cells slots i src dst : Nat} {sp dp n : Int32} (hp : pc + 3 = pc2) (hd : decode M.2.1 pc = .ok (.invokestatic i, 3)) (hl0 : Cond.methodLink M.1.cls i arraycopyName ∈ y_tb) (hfr : 1 ≤ R.frames) (hlo : 8 + (nativeFrameWords "java/lang/System" "arraycopy" 5 + 11) ≤ R.locals) (hcat : (st.map fun v => v.category).sum ≤ 8)
    (hg : y_K h src = 101 ∧ y_K h dst = 101 ∧ ¬ sp < 0 ∧ ¬ dp < 0 ∧ ¬ n < 0 ∧ sp.toNatClampNeg + n.toNatClampNeg ≤ y_N h src ∧ dp.toNatClampNeg + n.toNatClampNeg ≤ y_N h dst) (he : h2 = s_cpL h src dst sp.toNatClampNeg dp.toNatClampNeg n.toNatClampNeg)
    (kk : y_V l G z R M ad0 h0 r h1 pc2 lv st h2 cells slots) : y_V l G z R M ad0 h0 r h1 pc lv (.int n :: .int dp :: y_p dst :: .int sp :: y_p src :: st) h cells slots := by
  subst hp
  intro p e s m args below meth c C ad H locs ls hR hE ha hs hl hls
  obtain ⟨hx, hb, hr, hml, hown, hts, hlk, hnm, hK, hZ⟩ := id C
  obtain ⟨hk0, hk1, g1, g2, g3, g4, g5⟩ := hg
  have hz0 : y_K h src ≠ 0 := by omega
  have hz1 : y_K h dst ≠ 0 := by omega
  obtain ⟨ht, hc0⟩ := y_arr (t := 1) hR hk0 (by decide)
  obtain ⟨-, hc1⟩ := y_arr (t := 1) hR hk1 (by decide)
  have hc0 : H[ad src]? = some (arrV (G.2.1 1) (y_N h src) (fun k => .long (y_L h src k))) := hc0
  have hc1 : H[ad dst]? = some (arrV (G.2.1 1) (y_N h dst) (fun k => .long (y_L h dst k))) := hc1
  have nn : ∀ z : Int32, ¬ z < 0 → z.toInt = (z.toNatClampNeg : Int) := by
    intro z hz
    have hz0 : (0 : Int) ≤ z.toInt := by
      have := Int32.not_lt.mp hz
      simpa using Int32.le_iff_toInt_le.mp this
    show z.toInt = ((z.toInt.toNat : Nat) : Int)
    omega
  have hcat2 : ((st.map (y_r ad)).map fun v => v.category).sum ≤ 8 := by
    rw [List.map_map, show (fun v : Value => v.category) ∘ y_r ad = fun v => v.category from funext fun v => y_r_cat ad v]
    exact hcat
  show W _ _ _ _ _ _ _ _ _ _ _ _ _ _ _ (F0 m pc ls (.int n :: .int dp :: y_r ad (y_p dst) :: .int sp :: y_r ad (y_p src) :: st.map (y_r ad)))
  rw [y_r_p, y_r_p, if_neg (y_nz hR hz0), if_neg (y_nz hR hz1)]
  intro T hT X
  obtain ⟨-, k0, hk0', cm0, hkk0⟩ := y_isarr hK ht (y_N h src) (fun k => .long (y_L h src k))
  obtain ⟨vm', X', step⟩ := X.arraycopy hx hown (hts _ hl0) (hts _ w_an) (hts _ w_as) (hts _ w_ai) (src := ad src) (dst := ad dst) (cs := arrV (G.2.1 1) (y_N h src) (fun k => .long (y_L h src k))) (cd := arrV (G.2.1 1) (y_N h dst) (fun k => .long (y_L h dst k))) (srcPos := sp) (destPos := dp) (n := n) (by rw [hT]; exact hc0) (by rw [hT]; exact hc1)
    (fun _ h => by cases h) (fun _ h => by cases h) (fun h => by cases h) (fun h => by cases h) hk0' hk0' hkk0 hkk0 (by simp [refKind, t_ay]) g1 g2 g3
    (by rw [nn sp g1, nn n g3]; show ¬ _ > ((arrV _ _ _).slots.size : Int); rw [arrV_size]; omega)
    (by rw [nn dp g2, nn n g3]; show ¬ _ > ((arrV _ _ _).slots.size : Int); rw [arrV_size]; omega)
    (fun vm₁ _ j hj => by
      have e9 : (arrV (G.2.1 1) (y_N h src) (fun k => Value.long (y_L h src k))).slots.getD (sp.toNatClampNeg + j) .null = .long (y_L h src (sp.toNatClampNeg + j)) := by
        rw [Array.getD_eq_getD_getElem?, arrV_read _ _ (by omega)]
        rfl
      refine ⟨?_, ?_⟩
      · rw [e9]
        rfl
      · rw [e9]
        exact trivial)
    (g := F0 m pc ls (.int n :: .int dp :: .ref (ad dst) :: .int sp :: .ref (ad src) :: st.map (y_r ad))) rfl (by rw [hml]; exact hls.1) (rest := st.map (y_r ad)) rfl (by rw [hb]; exact hd) hfr (by show 2 * 0 + _ + _ ≤ _; omega)
  have e1 : copied (arrV (G.2.1 1) (y_N h src) (fun k => .long (y_L h src k))) (arrV (G.2.1 1) (y_N h dst) (fun k => .long (y_L h dst k))) sp dp n = arrV (G.2.1 1) (y_N h dst) (fun j => .long (va_cpy (y_L h src) (y_L h dst) sp.toNatClampNeg dp.toNatClampNeg n.toNatClampNeg j)) := va_copied (fun z => Value.long z) (G.2.1 1) (G.2.1 1) (y_L h src) (y_L h dst) g4
  rw [e1] at X' step
  have hlt : ad dst < H.size := y_lt hR hz1
  have hheap : ((T.setVm vm').setCell (ad dst) (arrV (G.2.1 1) (y_N h dst) (fun j => .long (va_cpy (y_L h src) (y_L h dst) sp.toNatClampNeg dp.toNatClampNeg n.toNatClampNeg j)))).heap = H.setIfInBounds (ad dst) (arrV (G.2.1 1) (y_N h dst) (fun j => .long (va_cpy (y_L h src) (y_L h dst) sp.toNatClampNeg dp.toNatClampNeg n.toNatClampNeg j))) := by rw [← hT]; rfl
  have hv2 : ∀ (ty : FieldType) (a k : Nat), ¬ a = dst → y_v h2 ty a k = y_v h ty a k := fun ty a k hne => by
    rw [he]
    exact y_v_ext (h := h) (h2 := s_cpL h src dst _ _ _) (n := a) (k := k) (by first | rfl | exact if_neg hne) rfl (by first | rfl | exact if_neg hne) rfl ty
  have hKe : y_K h2 = y_K h := by rw [he]; rfl
  have hNe : y_N h2 = y_N h := by rw [he]; rfl
  have hPe : y_P h2 = y_P h := by rw [he]; rfl
  have hR2 : y_R G z ad h2 (H.setIfInBounds (ad dst) (arrV (G.2.1 1) (y_N h dst) (fun j => .long (va_cpy (y_L h src) (y_L h dst) sp.toNatClampNeg dp.toNatClampNeg n.toNatClampNeg j)))) := by
    refine y_R_row hR hKe hNe hv2 hPe (by simp) (fun q hq => by simp [Array.getElem?_setIfInBounds, Ne.symm hq]) hz1 (by omega) ?_
    unfold y_at
    rw [hKe, hk1, if_neg (by decide), if_pos (by decide), hNe]
    refine ⟨by decide, ?_⟩
    rw [show (H.setIfInBounds (ad dst) (arrV (G.2.1 1) (y_N h dst) (fun j => Value.long (va_cpy (y_L h src) (y_L h dst) sp.toNatClampNeg dp.toNatClampNeg n.toNatClampNeg j))))[ad dst]? = some _ from by simp [Array.getElem?_setIfInBounds, hlt]; rfl]
    show some (arrV (G.2.1 1) _ _) = some (arrV (G.2.1 1) _ _)
    congr 2
    funext k
    rw [he]
    exact congrArg Value.long (if_pos rfl).symm
  obtain ⟨t2, a1, b1⟩ := kk p e s m args below meth c C ad _ _ ls hR2 (fun a h9 => ⟨(hE a h9).1, by rw [hKe]; exact (hE a h9).2⟩) (fun q hq => y_al_mono (fun a h9 => by rw [hKe]; exact h9) (ha q hq)) (fun w hw => y_al_mono (fun a h9 => by rw [hKe]; exact h9) (hs w (by simp [hw]))) (fun q hq => by
      rcases List.mem_append.mp hq with h9 | h9
      · exact hl q h9
      · obtain ⟨z9, -, hz9⟩ := List.mem_map.mp h9
        rw [← hz9]
        exact hR.2.2.2.2.1 dst hz1 (by omega)) hls _ hheap X'
  exact ⟨t2, step t2 a1, b1⟩
