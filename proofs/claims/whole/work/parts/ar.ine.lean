/-! the start: Rel -/
section INE
variable {h h9 : y_H}
set_option maxHeartbeats 4000000 in
theorem start_rel (k10 : y_K h 10 = 12) (Z : ∀ a, 11 ≤ a → y_K h a = 0) : ∃ hf, f_X12_begin 11 (hI12 (s_new (hIX h) 11 13 95)) = some ((), hf) ∧ Rel hf 0 0 ∧ ∀ a, a < 10 → y_K hf a = y_K h a ∧ y_N hf a = y_N h a ∧ y_I hf a = y_I h a := by
  obtain ⟨h4, e4⟩ : ∃ h4, h4 = hIX h := ⟨_, rfl⟩
  obtain ⟨hM, eM⟩ : ∃ hM, hM = hI12 (s_new (hIX h) 11 13 95) := ⟨_, rfl⟩
  rw [← eM]
  have gM : ag (fun a k => a = 11 ∨ a % 64 = 34) (fun a => a = 11 ∨ a % 64 = 34) h4 hM := by
    rw [eM, ← e4]
    exact (ag.new (ag.refl _ _ _) (fun k => Or.inl rfl) (Or.inl rfl)).trans ((hI12_ag _).mono (fun a k q => q) (fun a q => Or.inr q))
  have g4 := hIX_ag h
  rw [← e4] at g4
  obtain ⟨v12_1, v12_4, v12_6, v12_9, v12_11, v13_2, v13_3, v13_4, v14_1, v14_4, v14_5, v14_6, v14_7, v14_2, v14_3, v15_5, v15_6, v15_9, v16_1, v10_6, v100_0, v100_1, v100_2, v291_0, v291_1, v291_2, v359_0, v295_0, v815_0, v815_1, v815_2, v359_1, v295_1, v879_0, v879_1, v879_2, v359_2, v295_2, v943_0, v943_1, v943_2, v359_3, v295_3, v1007_0, v1007_1, v1007_2, kk102, nk102, kk166, nk166, kk815, kk879, kk943, kk1007, nk815, nk879, nk943, nk1007, fI36, fI40, fI355, fI39, fI103, fI167, fP35, fP99, fP163, fP227, fP37⟩ := hIX_v h
  have gg := hIX_g h
  rw [← e4] at v12_1 v12_4 v12_6 v12_9 v12_11 v13_2 v13_3 v13_4 v14_1 v14_4 v14_5 v14_6 v14_7 v14_2 v14_3 v15_5 v15_6 v15_9 v16_1 v10_6 v100_0 v100_1 v100_2 v291_0 v291_1 v291_2 v359_0 v295_0 v815_0 v815_1 v815_2 v359_1 v295_1 v879_0 v879_1 v879_2 v359_2 v295_2 v943_0 v943_1 v943_2 v359_3 v295_3 v1007_0 v1007_1 v1007_2 kk102 nk102 kk166 nk166 kk815 kk879 kk943 kk1007 nk815 nk879 nk943 nk1007 fI36 fI40 fI355 fI39 fI103 fI167 fP35 fP99 fP163 fP227 fP37 gg
  have wm : Wm hM := by rw [eM]; exact hI12_W e_Ks
  obtain ⟨w2594, w1442, w2658, w1890, w3490, w3554, w3618, w49⟩ := hI12_v (s_new (hIX h) 11 13 95)
  rw [← eM] at w2594 w1442 w2658 w1890 w3490 w3554 w3618 w49
  rw [e_Is] at w49
  have eP : ∀ a k, a % 64 ≠ 34 → a ≠ 11 → y_P hM a k = y_P h4 a k := fun a k _ _ => gM.P (by omega)
  have eK : ∀ a, a % 64 ≠ 34 → a ≠ 11 → y_K hM a = y_K h4 a := fun a _ _ => gM.K (by omega)
  have eN : ∀ a, a % 64 ≠ 34 → a ≠ 11 → y_N hM a = y_N h4 a := fun a _ _ => gM.N (by omega)
  have wc : Wc hM := by
    have z := hIX_W (h := h) k10
    rw [← e4] at z
    unfold Wc at z ⊢
    simp (disch := omega) only [eP, eK, eN]
    exact z
  have w : Sh hM := ⟨wc, wm⟩
  obtain ⟨r6, hf, e6, g6, c1, c2, c3, c4, c5, c6⟩ := wp_ex (m_begin w)
  have g7 := hmB_ag hM
  have G6 : ag (fun a k => a = 11 ∧ (k = 0 ∨ k = 16 ∨ k = 25 ∨ k = 33 ∨ k = 34 ∨ k = 46 ∨ k = 47 ∨ k = 50 ∨ k = 55 ∨ k = 57 ∨ k = 58 ∨ k = 59 ∨ k = 72 ∨ k = 79 ∨ k = 80 ∨ k = 52) ∨ a = 994 ∨ a = 1442 ∧ k < 25 ∨ a = 1250 ∨ a = 1314 ∨ a = 2658 ∧ k < 8 ∨ a = 1890 ∧ k < 3 ∨ a = 3746 ∨ a = 3682) (fun _ => False) hM hf := (g7.mono (fun a k q => Or.inl q) (fun a q => q)).trans (g6.mono (fun a k q => Or.inr q) (fun a q => q))
  have m1 : y_I hf 11 0 = 0 ∧ y_I hf 11 16 = 0 ∧ y_I hf 11 25 = 0 ∧ y_I hf 11 33 = 0 ∧ y_I hf 11 34 = 0 ∧ y_I hf 11 46 = 0 ∧ y_I hf 11 47 = 0 ∧ y_I hf 11 50 = 0 ∧ y_I hf 11 55 = 0 ∧ y_I hf 11 57 = 0 ∧ y_I hf 11 58 = 0 ∧ y_I hf 11 59 = -9 ∧ y_I hf 11 72 = 0 ∧ y_B hf 11 79 = false ∧ y_L hf 11 80 = 0 ∧ y_I hf 11 52 = -9 := by
    rw [g6.I (by omega), g6.I (by omega), g6.I (by omega), g6.I (by omega), g6.I (by omega), g6.I (by omega), g6.I (by omega), g6.I (by omega), g6.I (by omega), g6.I (by omega), g6.I (by omega), g6.I (by omega), g6.I (by omega), g6.B (by omega), g6.L (by omega), g6.I (by omega)]
    simp (disch := omega) only [hmB, e_KI, e_NI, e_BI, e_LI, e_PI, e_KB, e_NB, e_IB, e_LB, e_PB, e_KL, e_NL, e_IL, e_BL, e_PL, e_KP, e_NP, e_IP, e_BP, e_LP, e_IIs, e_BBs, e_LLs, e_PPs, e_IIn, e_BBn, e_LLn, e_PPn, e_IIk, e_BBk, e_LLk, e_PPk, and_self]
  obtain ⟨m1, m2, m3, m4, m5, m6, m7, m8, m9, m10, m11, m12, m13, m14, m15, m16⟩ := m1
  have cI : ∀ a k, a % 64 ≠ 34 → a ≠ 11 → y_I hf a k = y_I h4 a k := fun a k _ _ => (G6.I (by omega)).trans (gM.I (by omega))
  have cP : ∀ a k, a % 64 ≠ 34 → a ≠ 11 → y_P hf a k = y_P h4 a k := fun a k _ _ => (G6.P (by omega)).trans (gM.P (by omega))
  have cB : ∀ a k, a % 64 ≠ 34 → a ≠ 11 → y_B hf a k = y_B h4 a k := fun a k _ _ => (G6.B (by omega)).trans (gM.B (by omega))
  have cL : ∀ a k, a % 64 ≠ 34 → a ≠ 11 → y_L hf a k = y_L h4 a k := fun a k _ _ => (G6.L (by omega)).trans (gM.L (by omega))
  have cK : ∀ a, a % 64 ≠ 34 → a ≠ 11 → y_K hf a = y_K h4 a := fun a _ _ => (G6.K (fun q => q)).trans (gM.K (by omega))
  have cN : ∀ a, a % 64 ≠ 34 → a ≠ 11 → y_N hf a = y_N h4 a := fun a _ _ => (G6.N (fun q => q)).trans (gM.N (by omega))
  have z0 : ∀ a, a = 17 ∨ 19 ≤ a → ¬ (34 ≤ a % 64 ∧ a % 64 ≤ 40) → a ≠ 815 → a ≠ 879 → a ≠ 943 → a ≠ 1007 → y_K hf a = 0 := fun a q1 q2 q3 q4 q5 q6 => by
    rw [cK a (by omega) (by omega), g4.K (by omega)]
    exact Z a (by omega)
  have wf : Sh hf := (Sh_ag G6 (by intro a k q; (simp only [FSh] at q ⊢) <;> omega) (by intro a q; (simp only [GSh, not_false_eq_true] at q ⊢) <;> omega) w)
  have rT2 : RT hf := by
    refine ⟨funext fun k => ?_, ?_, 0, by omega, m6⟩
    · rw [cI _ _ (by omega) (by omega), G6.I (by omega), fI40, w2594]
    · rw [cI _ _ (by omega) (by omega), m6]
      exact v16_1
  have rM2 : RM hf := by
    refine ⟨?_, funext fun k => ?_, ?_, ?_, ⟨funext fun k => ?_, fun a b ha hb => ?_⟩, funext fun k => ?_, fun r hr => ?_, ?_⟩
    · rw [cI _ _ (by omega) (by omega), m7]
      exact v10_6
    · rw [cI _ _ (by omega) (by omega), fI36]
      by_cases hk : k < 8
      · exact (c4 k hk).symm
      · rw [G6.I (by omega), w2658]
    · rw [cI _ _ (by omega) (by omega), m4]
      exact v12_9
    · rw [cI _ _ (by omega) (by omega), G6.I (by omega), w49]
      exact v13_4
    · rw [cI _ _ (by omega) (by omega), fI355]
      by_cases hk : k < 25
      · exact (c2 k hk).symm
      · rw [G6.I (by omega), w1442]
    · rw [c2 _ (by omega), c2 _ (by omega)]
    · rw [cI _ _ (by omega) (by omega)]
      by_cases hk : k < 3
      · rw [c5 k hk]
        rcases (show k = 0 ∨ k = 1 ∨ k = 2 by omega) with e | e | e <;> rw [e]
        · exact v291_0
        · exact v291_1
        · exact v291_2
      · rw [gg k (by omega), G6.I (by omega), w1890]
    · rw [c5 r hr]
      decide
    · rw [if_pos m16]
      intro k hk
      rw [cI _ _ (by omega) (by omega)]
      rcases (show k = 0 ∨ k = 1 ∨ k = 2 by omega) with e | e | e <;> rw [e]
      · exact v100_0
      · exact v100_1
      · exact v100_2
  have rB2 : RB hf 0 := by
    refine ⟨by omega, ?_, m1, fun n hn => absurd hn (by omega), fun n hn => Or.inl ⟨?_, z0 _ (by omega) (by omega) (by omega) (by omega) (by omega) (by omega)⟩⟩
    · rw [cI _ _ (by omega) (by omega)]; exact v12_1
    · rw [cP _ _ (by omega) (by omega), fP35]
  have rC2 : RC hf 0 := by
    refine ⟨by omega, ?_, m3, fun n hn => absurd hn (by omega), fun n hn => Or.inl ⟨?_, z0 _ (by omega) (by omega) (by omega) (by omega) (by omega) (by omega)⟩⟩
    · rw [cI _ _ (by omega) (by omega)]; exact v12_4
    · rw [cP _ _ (by omega) (by omega), fP163]
  have rS2 : RS hf 0 := by
    refine ⟨by omega, ?_, m5, fun n hn => absurd hn (by omega), fun s hs => Or.inl ⟨?_, z0 _ (by omega) (by omega) (by omega) (by omega) (by omega) (by omega), z0 _ (by omega) (by omega) (by omega) (by omega) (by omega) (by omega), z0 _ (by omega) (by omega) (by omega) (by omega) (by omega) (by omega), z0 _ (by omega) (by omega) (by omega) (by omega) (by omega) (by omega), z0 _ (by omega) (by omega) (by omega) (by omega) (by omega) (by omega), z0 _ (by omega) (by omega) (by omega) (by omega) (by omega) (by omega)⟩⟩
    · rw [cI _ _ (by omega) (by omega)]; exact v12_6
    · rw [cP _ _ (by omega) (by omega), fP227]
  have rV2 : RV hf := fun b hb9 => by
    have nb : ¬ (y_B hf 994 b = true) := by rw [c1 b hb9]; decide
    unfold vx
    rw [if_neg nb]
    refine ⟨Or.inl ⟨?_, z0 _ (by omega) (by omega) (by omega) (by omega) (by omega) (by omega), z0 _ (by omega) (by omega) (by omega) (by omega) (by omega) (by omega), z0 _ (by omega) (by omega) (by omega) (by omega) (by omega) (by omega), z0 _ (by omega) (by omega) (by omega) (by omega) (by omega) (by omega), z0 _ (by omega) (by omega) (by omega) (by omega) (by omega) (by omega)⟩, fun s hs => ⟨(c3 _ (by omega)).1, (c3 _ (by omega)).2⟩⟩
    rw [cP _ _ (by omega) (by omega), fP99]
  have rL2 : RLn hf 0 0 0 := by
    refine ⟨fun n hn => absurd hn (by omega), ⟨0, by omega, m2, fun n hn => absurd hn (by omega)⟩, 0, fun _ => 0, by omega, ?_, fun i hi => absurd hi (by omega), fun i j _ hj => absurd hj (by omega), fun n hn => absurd hn (by omega)⟩
    rw [cI _ _ (by omega) (by omega)]; exact v12_11
  have rJ2 : RJ hf 0 := by
    refine ⟨by omega, ?_, m8, 0, by omega, ?_, fun k hk => absurd hk (by omega), fun j hj => Or.inl ⟨?_, z0 _ (by omega) (by omega) (by omega) (by omega) (by omega) (by omega)⟩⟩
    · rw [cI _ _ (by omega) (by omega)]; exact v13_3
    · rw [cI _ _ (by omega) (by omega)]; exact v13_2
    · rw [cP _ _ (by omega) (by omega), fP37]
  have rP2 : RP hf 0 0 0 := by
    refine ⟨fun b m s f t q1 q2 => ?_, fun n b s t hn => absurd hn (by omega), fun s k q1 => absurd q1 (by omega), fun n s k hn => absurd hn (by omega)⟩
    rw [c1 b q1] at q2
    exact absurd q2 (by decide)
  have rH2 : RH hf 0 0 0 0 := by
    refine ⟨fun r hr => ?_, fun r hr => absurd hr (by omega)⟩
    refine ⟨fun n hn => absurd hn (by omega), fun n c hn => absurd hn (by omega), fun c hc => absurd hc (by omega), fun n n' hn => absurd hn (by omega), fun n t hn => absurd hn (by omega), fun c hc => absurd hc (by omega), fun c d g _ hd => absurd hd (by omega), fun s hs => absurd hs (by omega)⟩
  have rD2 : RD hf 0 := by
    refine ⟨⟨0, fun _ => 0, by omega, ?_, m9, fun i hi => absurd hi (by omega), fun i j hi => absurd hi (by omega)⟩, ⟨0, by omega, ?_, m10⟩, Or.inl ⟨m12, ?_⟩, 0, 16, by omega, by omega, by omega, ?_, m11, Or.inl ⟨rfl, ?_, ?_, ?_, ?_, ?_, ?_, fun i hi => absurd hi (by omega)⟩, fun m hm => ⟨z0 _ (by omega) (by omega) (by omega) (by omega) (by omega) (by omega), z0 _ (by omega) (by omega) (by omega) (by omega) (by omega) (by omega)⟩⟩
    · rw [cI _ _ (by omega) (by omega)]; exact v14_1
    · rw [cI _ _ (by omega) (by omega)]; exact v14_5
    · rw [cP _ _ (by omega) (by omega)]; exact v14_6
    · rw [cI _ _ (by omega) (by omega)]; exact v14_4
    · rw [cP _ _ (by omega) (by omega)]; exact v14_2
    · rw [cP _ _ (by omega) (by omega)]; exact v14_3
    · rw [cK _ (by omega) (by omega)]; exact kk102
    · rw [cK _ (by omega) (by omega)]; exact kk166
    · rw [cN _ (by omega) (by omega)]; exact nk102
    · rw [cN _ (by omega) (by omega)]; exact nk166
  have rQ2 : RQ hf 0 := by
    refine Or.inl ⟨rfl, ?_, z0 _ (by omega) (by omega) (by omega) (by omega) (by omega) (by omega), z0 _ (by omega) (by omega) (by omega) (by omega) (by omega) (by omega), z0 _ (by omega) (by omega) (by omega) (by omega) (by omega) (by omega), z0 _ (by omega) (by omega) (by omega) (by omega) (by omega) (by omega), z0 _ (by omega) (by omega) (by omega) (by omega) (by omega) (by omega), z0 _ (by omega) (by omega) (by omega) (by omega) (by omega) (by omega), fun m => ⟨z0 _ (by omega) (by omega) (by omega) (by omega) (by omega) (by omega), z0 _ (by omega) (by omega) (by omega) (by omega) (by omega) (by omega), z0 _ (by omega) (by omega) (by omega) (by omega) (by omega) (by omega)⟩⟩
    rw [cP _ _ (by omega) (by omega)]; exact v14_7
  have rK2 : RK hf 0 0 := by
    have kz : ∀ a, (a = 3490 ∨ a = 3554 ∨ a = 3618) → ∀ k, y_I hf a k = 0 := fun a q k => by
      rcases q with q | q | q <;> rw [q, G6.I (by omega)]
      · rw [w3490]
      · rw [w3554]
      · rw [w3618]
    refine ⟨⟨0, by omega, ?_, m13, fun i hi => absurd hi (by omega)⟩, funext fun k => ?_, funext fun k => ?_, funext fun k => ?_, fun i => ⟨0, by omega, by omega, ?_⟩, ?_, ?_, fun q => ?_, fun s hs => ?_⟩
    · rw [cI _ _ (by omega) (by omega)]; exact v15_5
    · rw [cI _ _ (by omega) (by omega), kz _ (by omega), fI39]
    · rw [cI _ _ (by omega) (by omega), kz _ (by omega), fI103]
    · rw [cI _ _ (by omega) (by omega), kz _ (by omega), fI167]
    · rw [kz _ (by omega)]; rfl
    · rw [cB _ _ (by omega) (by omega), m14]; exact v15_6
    · rw [cL _ _ (by omega) (by omega), m15]; exact v15_9
    · rw [m14] at q
      exact absurd q (by decide)
    · obtain ⟨d3, d4⟩ := c6 s hs
      have sh : y_I h4 359 s = 3 ∧ y_P h4 295 s = 64 * (4 * 3 + s) + 47 ∧ y_K h4 (64 * (4 * 3 + s) + 47) = 100 ∧ y_N h4 (64 * (4 * 3 + s) + 47) = 3 ∧ ∀ i, i < 3 → y_I h4 (64 * (4 * 3 + s) + 47) i = -9 := by
        rcases (show s = 0 ∨ s = 1 ∨ s = 2 ∨ s = 3 by omega) with e | e | e | e <;> rw [e]
        · exact ⟨v359_0, v295_0, kk815, nk815, fun i hi => match i, hi with
          | 0, _ => v815_0
          | 1, _ => v815_1
          | 2, _ => v815_2⟩
        · exact ⟨v359_1, v295_1, kk879, nk879, fun i hi => match i, hi with
          | 0, _ => v879_0
          | 1, _ => v879_1
          | 2, _ => v879_2⟩
        · exact ⟨v359_2, v295_2, kk943, nk943, fun i hi => match i, hi with
          | 0, _ => v943_0
          | 1, _ => v943_1
          | 2, _ => v943_2⟩
        · exact ⟨v359_3, v295_3, kk1007, nk1007, fun i hi => match i, hi with
          | 0, _ => v1007_0
          | 1, _ => v1007_1
          | 2, _ => v1007_2⟩
      obtain ⟨s1, s2, s3, s4, s5⟩ := sh
      refine ⟨3, 3, by omega, by omega, by omega, ?_, d3, ?_, ?_, ?_, fun i hi => ⟨?_, Or.inl (d4 i hi)⟩, fun m hm => z0 _ (by omega) (by omega) (by omega) (by omega) (by omega) (by omega)⟩
      · rw [cI _ _ (by omega) (by omega)]; exact s1
      · rw [cP _ _ (by omega) (by omega)]; exact s2
      · rw [cK _ (by omega) (by omega)]; exact s3
      · rw [cN _ (by omega) (by omega)]; exact s4
      · rw [cI _ _ (by omega) (by omega), d4 i hi]; exact s5 i hi
  refine ⟨hf, e6, ⟨0, 0, 0, 0, wf, rT2, rM2, rB2, rC2, rS2, rV2, rL2, rJ2, rP2, rH2, rD2, rQ2, rK2⟩, fun a ha => ⟨?_, ?_, funext fun k => ?_⟩⟩
  · rw [cK _ (by omega) (by omega), g4.K (by omega)]
  · rw [cN _ (by omega) (by omega), g4.N (by omega)]
  · rw [cI _ _ (by omega) (by omega), g4.I (by omega)]
end INE
