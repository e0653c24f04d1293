/-! least: the class spreads a state -/
section LTD
variable {C D C0 A : Cg} {X X0 X2 : y_H} {y : Sy} {s t d k n e N i j f g a b c M β bd x : Nat} {l : List Nat} {st : Nat → Cg} {row : Nat → Nat} {E : Nat → Nat}
theorem k_sh (hs : s < 4) (h3 : l.length ≤ 4) : (15 : Int32) * nI s + 3 * (nI (l.length + 1) - 1) = nI (15 * s + 3 * l.length) := by rw [nI_pred, i_m15, i_m3, i_add]
theorem k_top (h : dkC C) (hx : x ≤ 5) (hs : s < 4) (hc : C s = d :: l) : y_lush (lg (cenc x C)) ((15 * nI s) + (3 * (nI (l.length + 1) - 1))) &&& 7 = lg d := by
  obtain ⟨h1, h2, h3⟩ := (show dk (d :: l) by rw [← hc]; exact h s).tl
  have cl := cenc_lt h hx
  have dv := enc_dg h hs h3 x (by omega)
  rw [hc] at dv
  have dd : dgt (d :: l) l.length = d := if_pos rfl
  rw [dd] at dv
  rw [k_sh hs h3, lg_ush (by omega) (by omega), lg_7]
  unfold cenc
  rw [dv]
theorem k_wo (h : dkC C) (hx : x ≤ 5) (hs : s < 4) (hc : C s = d :: l) : lg (cenc x C) &&& ((lg d <<< (Int32.toInt64 ((15 * nI s) + (3 * (nI (l.length + 1) - 1))) &&& 63)) ^^^ (-1 : Int64)) = lg (cenc x (upI C s l)) := by
  obtain ⟨h1, h2, h3⟩ := (show dk (d :: l) by rw [← hc]; exact h s).tl
  obtain ⟨q, r, hr, e1, e2⟩ := enc_dec h hs h1 h3 x (by omega)
  have ec : cenc x C = enc (upI C s (d :: l)) + x * 2 ^ 60 := by rw [upI_id hc]; rfl
  rw [k_sh hs h3, lg_i (by omega), lg_63 (by omega), lg_shl (by omega), ec, e1 d, show cenc x (upI C s l) = enc (upI C s l) + x * 2 ^ 60 from rfl, e2]
  exact lg_clr (by omega) (by omega) (fun _ z => z) hr
theorem k_put (h : dkC C) (hx : x ≤ 5) (ht : t < 4) (h4 : (C t).length ≤ 4) (hd : d ≤ 7) : lg (cenc x C) ||| (lg d <<< (Int32.toInt64 ((15 * nI t) + (3 * nI (C t).length)) &&& 63)) = lg (cenc x (upI C t (d :: C t))) := by
  obtain ⟨q, r, hr, e1, e2⟩ := enc_dec h ht (h t) h4 x (by omega)
  rw [upI_id rfl] at e2
  have sh : Int32.toInt64 ((15 * nI t) + (3 * nI (C t).length)) &&& 63 = lg (15 * t + 3 * (C t).length) := by
    rw [i_m15, i_m3, i_add, lg_i (by omega), lg_63 (by omega)]
  rw [sh, lg_shl (by omega), show cenc x C = enc C + x * 2 ^ 60 from rfl, e2, show cenc x (upI C t (d :: C t)) = enc (upI C t (d :: C t)) + x * 2 ^ 60 from rfl, e1 d]
  exact lg_put (by omega) hr
theorem k_inc : lg (cenc x C) + 1152921504606846976 = lg (cenc (x + 1) C) := by
  show lg (cenc x C) + lg 1152921504606846976 = _
  unfold lg
  rw [← Int64.ofNat_add]
  unfold cenc
  congr 1
  omega
theorem cl_go (O : OkS y) (r : RI y A) (e : y.cl.go (mpd y A) f g = some D) : ∃ A2, RI y A2 ∧ D = mpd y A2 ∧ ((1 ≤ g ∧ y.out A2 = y.out A) ∨ (g = 0 ∧ y.out A2 = y.out A + 1)) := by
  have q : y.cl.go (mpC (dg y) A) f g = (y.go A f g).map (mpC (dg y)) := go_mp (dg_q O)
  have e' : y.cl.go (mpC (dg y) A) f g = some D := e
  rw [q] at e'
  cases hz : y.go A f g with
  | none => rw [hz] at e'; cases e'
  | some A2 =>
    rw [hz] at e'
    obtain ⟨z1, -, z2⟩ := RI.go O r hz
    exact ⟨A2, z1, (Option.some.inj e').symm, z2⟩
theorem mpd_wr (O : OkS y) (r : RI y A) : wr (mpd y A) ∧ ∀ s, y.m ≤ s → mpd y A s = [] := by
  have hm := O.1
  have hW := O.2.1
  have z : ∀ s, y.m ≤ s → mpd y A s = [] := fun s hs => by
    show (A s).map (dg y) = []
    rw [r.2.2.2 s hs]
    rfl
  refine ⟨⟨fun s => ⟨?_, fun v hv => ?_⟩, fun s hs => z s (by omega)⟩, z⟩
  · show ((A s).map (dg y)).length ≤ 5
    rw [List.length_map]
    exact r.l5 O s
  · obtain ⟨u, hu, eu⟩ := List.mem_map.mp hv
    rw [← eu]
    unfold dg
    split <;> omega
/-- but one of the tops may be the next to go out -/
theorem top_one {d2 : Nat} {l2 : List Nat} (O : OkS y) (r : RI y A) (hf : f < 4) (hg : g < 4) (h1 : mpd y A f = d :: l) (h2 : mpd y A g = d2 :: l2) (hd : d = d2) (hd5 : d ≤ y.W) (hd1 : 1 ≤ d) : f = g := by
  have hW := O.2.1
  have h1' : (A f).map (dg y) = d :: l := h1
  have h2' : (A g).map (dg y) = d2 :: l2 := h2
  cases ha : A f with
  | nil => rw [ha] at h1'; cases h1'
  | cons u us =>
    cases hb : A g with
    | nil => rw [hb] at h2'; cases h2'
    | cons v vs =>
      rw [ha] at h1'
      rw [hb] at h2'
      have e1 : dg y u = d := (List.cons.inj h1').1
      have e2 : dg y v = d2 := (List.cons.inj h2').1
      have mu : u ∈ flt A := mem_flt hf (by rw [ha]; exact List.mem_cons_self)
      have mv : v ∈ flt A := mem_flt hg (by rw [hb]; exact List.mem_cons_self)
      obtain ⟨⟨u1, u2⟩, -⟩ := lab_mem.mp (r.2.1.mem_iff.mp mu)
      obtain ⟨⟨v1, v2⟩, -⟩ := lab_mem.mp (r.2.1.mem_iff.mp mv)
      unfold dg at e1 e2
      have cu : y.rk u < y.W := by
        by_cases q : y.rk u < y.W
        · exact q
        · rw [if_neg q] at e1
          omega
      have cv : y.rk v < y.W := by
        by_cases q : y.rk v < y.W
        · exact q
        · rw [if_neg q] at e2
          omega
      rw [if_pos cu] at e1
      rw [if_pos cv] at e2
      have euv : u = v := O.2.2.2.2.2.2 u v u1 u2 v1 v2 (by omega) cu
      exact r.one (x := u) hf hg (by rw [ha]; exact List.mem_cons_self) (by rw [hb, euv]; exact List.mem_cons_self)
end LTD
