theorem vr_outer (c : ClassId) (N h0 : Nat) : ∀ i : Nat, Jvm.Free.Multi.outerC c N h0 i = arrV c N (fun j => va_rf (if j < i then some (h0 + 1 + j) else none))
  | 0 => by
    show ({ cls := c, slots := Array.replicate N .null, vm := .none } : Cell) = _
    rw [arrV_new]
    refine congrArg (arrV c N) (funext fun j => ?_)
    simp [va_rf]
  | i + 1 => by
    show (Jvm.Free.Multi.outerC c N h0 i).setSlot i (.ref (h0 + 1 + i)) = _
    rw [vr_outer c N h0 i, arrV_store]
    refine congrArg (arrV c N) (funext fun j => ?_)
    by_cases e : j = i
    · subst e
      simp [updV, va_rf]
    · by_cases h : j < i
      · simp [updV, e, h, Nat.lt_succ_of_lt h]
      · simp [updV, e, h, show ¬ j < i + 1 by omega]
/-- cells that came at once: what was there is as it was, the new ones lie behind -/
theorem y_R_ext {G : y_G} {z : Heap} {ad ad2 : Nat → Nat} {h h2 : y_H} {H H2 : Heap} (hR : y_R G z ad h H) (hs : H.size ≤ H2.size) (ho : ∀ q : Nat, q < H.size → H2[q]? = H[q]?) (hK0 : y_K h2 0 = 0) (hK2 : y_K h2 2 = y_K h 2) (hold : ∀ a, y_K h a ≠ 0 → y_K h2 a = y_K h a ∧ y_N h2 a = y_N h a ∧ ad2 a = ad a ∧ (∀ ty k, y_v h2 ty a k = y_v h ty a k) ∧ ∀ k, y_P h2 a k = y_P h a k)
    (hnew : ∀ a, y_K h2 a ≠ 0 → y_K h a = 0 → y_at G ad2 h2 a H2 ∧ H.size ≤ ad2 a ∧ ∀ k, y_P h2 a k ≠ 0 → y_K h2 (y_P h2 a k) ≠ 0) (hinj : ∀ a b, y_K h2 a ≠ 0 → y_K h a = 0 → y_K h2 b ≠ 0 → y_K h b = 0 → ad2 a = ad2 b → a = b) : y_R G z ad2 h2 H2 := by
  have hR0 := hR
  obtain ⟨g1, g2, g3, g4, g5, g6, g7⟩ := hR
  have hlt : ∀ a, y_K h a ≠ 0 → ad a < H.size := fun a ha => y_lt hR0 ha
  refine ⟨⟨by omega, fun q hq => ?_⟩, hK0, fun a ha => ?_, fun a b ha hb e => ?_, fun a ha h2' => ?_, fun a j ha hj => ?_, fun ha => ?_⟩
  · rw [ho q (by omega)]; exact g1.2 q hq
  · by_cases e : y_K h a = 0
    · exact (hnew a ha e).1
    · obtain ⟨e1, e2, e3, e4, e5⟩ := hold a e
      refine y_at_kept e1 e2 e3 (fun ty k => ?_) (ho _ (hlt a e)) (g3 a e)
      rw [e4 ty k]
      exact y_r_same (fun b hb => (hold b hb).2.2.1) (y_v_al hR0 e ty k)
  · by_cases ea : y_K h a = 0
    · by_cases eb : y_K h b = 0
      · exact hinj a b ha ea hb eb e
      · have h1 := (hnew a ha ea).2.1
        have h3 := hlt b eb
        rw [← (hold b eb).2.2.1] at h3
        omega
    · by_cases eb : y_K h b = 0
      · have h1 := (hnew b hb eb).2.1
        have h3 := hlt a ea
        rw [← (hold a ea).2.2.1] at h3
        omega
      · rw [(hold a ea).2.2.1, (hold b eb).2.2.1] at e
        exact g4 a b ea eb e
  · by_cases ea : y_K h a = 0
    · have h1 := (hnew a ha ea).2.1
      have := g1.1
      omega
    · rw [(hold a ea).1] at h2'
      rw [(hold a ea).2.2.1]
      exact g5 a ea h2'
  · by_cases ea : y_K h a = 0
    · exact (hnew a ha ea).2.2 j hj
    · rw [(hold a ea).2.2.2.2 j] at hj ⊢
      have h3 := g6 a j ea hj
      rw [(hold _ h3).1]
      exact h3
  · rw [hK2] at ha
    rw [(hold 2 ha).2.2.1]
    exact g7 ha
theorem y_mna {l : Launch} {G : y_G} {z : Heap} {R : Room} {M : y_M} {ad0 : Nat → Nat} {h0 h1 : y_H} {r : Option Value} {pc pc2 : Nat} {lv : List (Nat × Value)} {st : List Value} {h h2 : y_H} {cells slots n i9 : Nat} (hp : pc + 4 = pc2) (hd : decode M.2.1 pc = .ok (.multianewarray i9 2, 4)) (hcl : Cond.classLink M.1.cls i9 "[[I" ∈ y_tb) (hg : 10 ≤ n ∧ n < 815 ∧ y_K h n = 0 ∧ y_K h 815 = 0 ∧ y_K h 879 = 0 ∧ y_K h 943 = 0 ∧ y_K h 1007 = 0) (hcs : cells + 5 ≤ R.cells) (hsl : slots + 16 ≤ R.slots) (he : h2 = s_mna h n)
    (kk : y_V l G z R M ad0 h0 r h1 pc2 lv (y_p n :: st) h2 (cells + 5) (slots + 16)) : y_V l G z R M ad0 h0 r h1 pc lv (.int 3 :: .int 4 :: st) h cells slots := by
  subst hp
  intro p e s m args below meth c C ad H locs ls hR hE ha hs hl hls
  obtain ⟨hx, hb, hr, hml, hown, hts, hlk, hnm, hK, hZ⟩ := id C
  obtain ⟨q1, q2, q3, q4, q5, q6, q7⟩ := hg
  intro T hT Xs
  obtain ⟨vm₁, cA, comp, -, fA, fC, hO, -, X', step⟩ := Xs.multianewarray2F (ty := .int) hx hown (hts _ hcl) (hts _ w_ao8) (hts _ w_ac0) (g := F0 m pc ls (.int 3 :: .int 4 :: st.map (y_r ad))) rfl (by rw [hb]; exact hd) rfl (by decide) (by decide) (by decide) (by decide) (by decide) (by decide) (by decide) hcs hsl
  have hA0 := (hK.2 0 _ (y_tys_at G (t := 0) (by decide))).2
  have hA8 := (hK.2 8 _ (y_tys_at G (t := 8) (by decide))).2
  have ec : comp = G.2.1 0 := Option.some.inj (fC.symm.trans hA0)
  have eA : cA = G.2.1 8 := Option.some.inj (fA.symm.trans hA8)
  subst ec
  subst eA
  generalize hF : Jvm.Free.Multi.fill (T.setVm vm₁) (G.2.1 8) (G.2.1 0) (4 : Int32).toNatClampNeg (3 : Int32).toNatClampNeg (defaultValue .int) (4 : Int32).toNatClampNeg = F at X' step
  have hTh : (T.setVm vm₁).heap = H := hT
  obtain ⟨f1, f2, -, -⟩ := Jvm.Free.Multi.fill_facts (T.setVm vm₁) (G.2.1 8) (G.2.1 0) (4 : Int32).toNatClampNeg (3 : Int32).toNatClampNeg (defaultValue .int) (4 : Int32).toNatClampNeg
  rw [hF, hTh] at f1 f2
  have hold : ∀ x : Nat, x < H.size → F.heap[x]? = H[x]? := fun x hx => by
    have := Jvm.Free.Multi.fill_old (T.setVm vm₁) (G.2.1 8) (G.2.1 0) (4 : Int32).toNatClampNeg (3 : Int32).toNatClampNeg (defaultValue .int) (a := x) (by rw [hTh]; exact hx) (4 : Int32).toNatClampNeg
    rw [hF, hTh] at this
    exact this
  have hrow : ∀ j : Nat, j < 4 → F.heap[H.size + 1 + j]? = some (arrV (G.2.1 0) 3 (fun _ => .int 0)) := fun j hj => by
    have := Jvm.Free.Multi.fill_inner (T.setVm vm₁) (G.2.1 8) (G.2.1 0) (4 : Int32).toNatClampNeg (3 : Int32).toNatClampNeg (defaultValue .int) (4 : Int32).toNatClampNeg j hj
    rw [hF, hTh] at this
    rw [this]
    show some ({ cls := G.2.1 0, slots := Array.replicate 3 (Value.int 0), vm := .none } : Cell) = _
    rw [arrV_new]
  have hout : F.heap[H.size]? = some (arrV (G.2.1 8) 4 (fun j => if j < 4 then .ref (H.size + 1 + j) else .null)) := by
    rw [f2]
    show some (Jvm.Free.Multi.outerC (G.2.1 8) 4 H.size 4) = _
    rw [vr_outer]
    congr 2
    funext j
    by_cases hj : j < 4
    · simp [hj, va_rf]
    · simp [hj, va_rf]
  have nz : ∀ a, y_K h a ≠ 0 → ¬ a = n ∧ ¬ a = 815 ∧ ¬ a = 879 ∧ ¬ a = 943 ∧ ¬ a = 1007 := fun a h9 => ⟨fun e => h9 (by rw [e]; exact q3), fun e => h9 (by rw [e]; exact q4), fun e => h9 (by rw [e]; exact q5), fun e => h9 (by rw [e]; exact q6), fun e => h9 (by rw [e]; exact q7)⟩
  have hsame : ∀ a, y_K h a ≠ 0 → y_ad5 ad n H.size a = ad a := fun a h9 => by
    obtain ⟨e1, e2, e3, e4, e5⟩ := nz a h9
    simp [y_ad5, e1, e2, e3, e4, e5]
  have hR2 : y_R G z (y_ad5 ad n H.size) h2 F.heap := by
    subst he
    have hsz : F.heap.size = H.size + 5 := f1
    refine y_R_ext hR (by omega) hold ?_ ?_ (fun a h9 => ?_) (fun a h9 h8 => ?_) (fun a b a1 a2 b1 b2 e => ?_)
    · have e0 : ¬ (0 : Nat) = n := by omega
      simp only [y_K, s_mna, e0, if_false]
      simp
      exact hR.2.1
    · have e0 : ¬ (2 : Nat) = n := by omega
      simp only [y_K, s_mna, e0, if_false]
      simp
    · obtain ⟨e1, e2, e3, e4, e5⟩ := nz a h9
      refine ⟨by simp [y_K, s_mna, e1, e2, e3, e4, e5], by simp [y_N, s_mna, e1, e2, e3, e4, e5], hsame a h9, fun ty k => y_v_ext (h := h) (h2 := s_mna h n) (n := a) (k := k) (by simp [y_I, s_mna, e1, e2, e3, e4, e5]) (by simp [y_B, s_mna, e1, e2, e3, e4, e5]) (by simp [y_L, s_mna, e1, e2, e3, e4, e5]) (by simp [y_P, s_mna, e1, e2, e3, e4, e5]) ty, fun k => by simp [y_P, s_mna, e1, e2, e3, e4, e5]⟩
    · have inner : ∀ j : Nat, j < 4 → a = 815 + 64 * j → y_at G (y_ad5 ad n H.size) (s_mna h n) a F.heap ∧ H.size ≤ y_ad5 ad n H.size a ∧ ∀ k, y_P (s_mna h n) a k ≠ 0 → y_K (s_mna h n) (y_P (s_mna h n) a k) ≠ 0 := by
        intro j hj ea
        have en : ¬ a = n := by omega
        have ei : a = 815 ∨ a = 879 ∨ a = 943 ∨ a = 1007 := by omega
        have ead : y_ad5 ad n H.size a = H.size + 1 + j := by
          unfold y_ad5
          rw [if_neg en]
          rcases (show j = 0 ∨ j = 1 ∨ j = 2 ∨ j = 3 by omega) with rfl | rfl | rfl | rfl <;> subst ea <;> simp
        refine ⟨?_, by omega, fun k hk => absurd (by simp [y_P, s_mna, en, ei]) hk⟩
        unfold y_at
        have eK : y_K (s_mna h n) a = 100 := by simp [y_K, s_mna, en, ei]
        have eN : y_N (s_mna h n) a = 3 := by simp [y_N, s_mna, en, ei]
        rw [eK, eN, if_neg (by decide), if_pos (by decide), ead]
        refine ⟨by decide, ?_⟩
        rw [hrow j hj]
        congr 2
        funext k
        have e9 : y_I (s_mna h n) a k = 0 := by simp [y_I, s_mna, ei]
        show Value.int 0 = .int (y_I (s_mna h n) a k)
        rw [e9]
      by_cases en : a = n
      · refine ⟨?_, by simp [y_ad5, en], fun k hk => ?_⟩
        · unfold y_at
          have eK : y_K (s_mna h n) a = 108 := by simp [y_K, s_mna, en]
          have eN : y_N (s_mna h n) a = 4 := by simp [y_N, s_mna, en]
          have ead : y_ad5 ad n H.size a = H.size := by simp [y_ad5, en]
          rw [eK, eN, if_neg (by decide), if_pos (by decide), ead]
          refine ⟨by decide, ?_⟩
          rw [hout]
          congr 2
          funext k
          show _ = y_r (y_ad5 ad n H.size) (y_p (y_P (s_mna h n) a k))
          rw [y_r_p]
          by_cases hk : k < 4
          · have e9 : y_P (s_mna h n) a k = 815 + 64 * k := by simp [y_P, s_mna, en, hk]
            rw [e9, if_pos hk, if_neg (by omega)]
            unfold y_ad5
            rw [if_neg (by omega)]
            rcases (show k = 0 ∨ k = 1 ∨ k = 2 ∨ k = 3 by omega) with rfl | rfl | rfl | rfl <;> simp
          · have e9 : y_P (s_mna h n) a k = 0 := by simp [y_P, s_mna, en, hk]
            rw [e9, if_neg hk, if_pos rfl]
        · by_cases hk4 : k < 4
          · have e9 : y_P (s_mna h n) a k = 815 + 64 * k := by simp [y_P, s_mna, en, hk4]
            rw [e9]
            have e8 : ¬ 815 + 64 * k = n := by omega
            have e7 : 815 + 64 * k = 815 ∨ 815 + 64 * k = 879 ∨ 815 + 64 * k = 943 ∨ 815 + 64 * k = 1007 := by omega
            simp only [y_K, s_mna, e8, e7, if_false, if_true]
            decide
          · exact absurd (by simp [y_P, s_mna, en, hk4]) hk
      · by_cases ei : a = 815 ∨ a = 879 ∨ a = 943 ∨ a = 1007
        · rcases ei with e | e | e | e
          · exact inner 0 (by decide) e
          · exact inner 1 (by decide) e
          · exact inner 2 (by decide) e
          · exact inner 3 (by decide) e
        · exact absurd (by simpa [y_K, s_mna, en, ei] using h8) h9
    · have key : ∀ a, y_K (s_mna h n) a ≠ 0 → y_K h a = 0 → a = n ∨ a = 815 ∨ a = 879 ∨ a = 943 ∨ a = 1007 := by
        intro a h9 h8
        by_cases en : a = n
        · exact Or.inl en
        · by_cases ei : a = 815 ∨ a = 879 ∨ a = 943 ∨ a = 1007
          · exact Or.inr ei
          · exact absurd (by simpa [y_K, s_mna, en, ei] using h8) h9
      have k1 : ¬ 815 = n := by omega
      have k2 : ¬ 879 = n := by omega
      have k3 : ¬ 943 = n := by omega
      have k4 : ¬ 1007 = n := by omega
      rcases key a a1 a2 with e1 | e1 | e1 | e1 | e1 <;> rcases key b b1 b2 with e2 | e2 | e2 | e2 | e2 <;> subst e1 <;> subst e2 <;> first | rfl | (simp [y_ad5, k1, k2, k3, k4] at e)
  have hmono : ∀ a, y_K h a ≠ 0 → y_K h2 a ≠ 0 := fun a h9 => by
    obtain ⟨e1, e2, e3, e4, e5⟩ := nz a h9
    rw [he]
    simpa [y_K, s_mna, e1, e2, e3, e4, e5] using h9
  have hkeep : ∀ a, y_K h a ≠ 0 → y_K h2 a = y_K h a := fun a h9 => by
    obtain ⟨e1, e2, e3, e4, e5⟩ := nz a h9
    rw [he]
    simp [y_K, s_mna, e1, e2, e3, e4, e5]
  obtain ⟨t2, a1, b1⟩ := kk p e s m args below meth c C (y_ad5 ad n H.size) F.heap locs ls hR2 (fun a h9 => by
      have h8 : y_K h a ≠ 0 := by rw [(hE a h9).2]; exact h9
      exact ⟨(hsame a h8).trans (hE a h9).1, (hkeep a h8).trans (hE a h9).2⟩) (fun q hq => y_al_mono hmono (ha q hq)) (fun w hw => by
      rcases List.mem_cons.mp hw with rfl | hw
      · exact y_p_al (Or.inr (by rw [he]; simp [y_K, s_mna]))
      · exact y_al_mono hmono (hs w (by simp [hw]))) hl (by rw [y_qmap_same hsame ha]; exact hls) F rfl X'
  refine ⟨t2, step t2 ?_, b1⟩
  have e5 : (y_p n :: st).map (y_r (y_ad5 ad n H.size)) = .ref H.size :: st.map (y_r ad) := by
    rw [List.map_cons, y_map_same hsame (fun w hw => hs w (by simp [hw])), y_r_p, if_neg (by omega)]
    simp [y_ad5]
  rw [e5] at a1
  have e6 : T.heap.size = H.size := by rw [hT]
  rw [e6]
  exact a1
theorem y_Umna {l : Launch} {G : y_G} {z : Heap} {F L X Y c0 s0 cz sz : Nat} {M : y_M} {ad0 : Nat → Nat} {h0 h1 : y_H} {r : Option Value} {pc pc2 : Nat} {lv : List (Nat × Value)} {st : List Value} {h h2 : y_H} {c s n i9 : Nat} (hp : pc + 4 = pc2) (hd : decode M.2.1 pc = .ok (.multianewarray i9 2, 4)) (hcl : Cond.classLink M.1.cls i9 "[[I" ∈ y_tb) (hg : 10 ≤ n ∧ n < 815 ∧ y_K h n = 0 ∧ y_K h 815 = 0 ∧ y_K h 879 = 0 ∧ y_K h 943 = 0 ∧ y_K h 1007 = 0) (he : h2 = s_mna h n)
    (kk : y_U l G z F L X Y c0 s0 cz sz M ad0 h0 r h1 pc2 lv (y_p n :: st) h2 (c + 5) (s + 16)) : y_U l G z F L X Y c0 s0 cz sz M ad0 h0 r h1 pc lv (.int 3 :: .int 4 :: st) h c s := by
  have h1 := kk.1
  refine ⟨⟨by omega, by omega⟩, fun a b x9 y9 => y_mna hp hd hcl hg (by show c - c0 + 5 ≤ X; omega) (by show s - s0 + 16 ≤ Y; omega) he ?_⟩
  have h9 := kk.2 (by omega) (by omega) x9 y9
  rw [show c + 5 - c0 = c - c0 + 5 by omega, show s + 16 - s0 = s - s0 + 16 by omega] at h9
  exact h9
