/-! the start: the two systems side by side -/
section IND
variable {h h9 : y_H}
theorem hI12_ag (h : y_H) : ag (fun a k => a = 11 ∨ a % 64 = 34) (fun a => a % 64 = 34) h (hI12 h) := by
  unfold hI12
  (repeat' (first | exact ag.refl _ _ _ | refine ag.sI ?_ (by omega) | refine ag.sP ?_ (by omega) | refine ag.new ?_ (fun k => by omega) (by omega)))
set_option maxRecDepth 20000 in
set_option maxHeartbeats 8000000 in
theorem hI12_W (k11 : y_K h 11 = 13) : Wm (hI12 h) := by
  unfold Wm
  simp (disch := omega) only [hI12, k11, e_KI, e_NI, e_BI, e_LI, e_PI, e_KB, e_NB, e_IB, e_LB, e_PB, e_KL, e_NL, e_IL, e_BL, e_PL, e_KP, e_NP, e_IP, e_BP, e_LP, e_IIs, e_BBs, e_LLs, e_PPs, e_IIn, e_BBn, e_LLn, e_PPn, e_IIk, e_BBk, e_LLk, e_PPk, e_Ks, e_Ns, e_Is, e_Bs, e_Ls, e_Ps, e_Kn, e_Nn, e_In, e_Bn, e_Ln, e_Pn, and_self]
set_option maxRecDepth 20000 in
set_option maxHeartbeats 8000000 in
theorem hIX_W (k10 : y_K h 10 = 12) : Wc (hIX h) := by
  unfold Wc
  simp (disch := omega) only [k10, hIX, hI10, hI9, hI5, hI4, hI8, hIe, q_K, q_N, q_I, q_B, q_L, q_P, q_K295, q_N295, q_K815, q_N815, q_P0, q_K879, q_N879, q_P1, q_K943, q_N943, q_P2, q_K1007, q_N1007, q_P3, e_KI, e_NI, e_BI, e_LI, e_PI, e_KB, e_NB, e_IB, e_LB, e_PB, e_KL, e_NL, e_IL, e_BL, e_PL, e_KP, e_NP, e_IP, e_BP, e_LP, e_IIs, e_BBs, e_LLs, e_PPs, e_IIn, e_BBn, e_LLn, e_PPn, e_IIk, e_BBk, e_LLk, e_PPk, e_Ks, e_Ns, e_Is, e_Bs, e_Ls, e_Ps, e_Kn, e_Nn, e_In, e_Bn, e_Ln, e_Pn, and_self]
/-- what the class's constructor leaves as it was -/
theorem hIX_ag (h : y_H) : ag (fun a k => 10 ≤ a ∧ a ≤ 18 ∧ a ≠ 11 ∧ a ≠ 17 ∨ 35 ≤ a % 64 ∧ a % 64 ≤ 40 ∨ a = 815 ∨ a = 879 ∨ a = 943 ∨ a = 1007) (fun a => 12 ≤ a ∧ a ≤ 18 ∧ a ≠ 17 ∨ 35 ≤ a % 64 ∧ a % 64 ≤ 40 ∧ a < 420 ∨ a = 815 ∨ a = 879 ∨ a = 943 ∨ a = 1007) h (hIX h) := by
  have mn : ∀ (P : Nat → Nat → Prop) (Q : Nat → Prop) (g g2 : y_H), ag P Q g g2 → (∀ k, P 295 k ∧ P 815 k ∧ P 879 k ∧ P 943 k ∧ P 1007 k) → Q 295 ∧ Q 815 ∧ Q 879 ∧ Q 943 ∧ Q 1007 → ag P Q g (s_mna g2 295) := fun P Q g g2 G p q => ⟨fun a n => by
    have c : a ≠ 295 ∧ a ≠ 815 ∧ a ≠ 879 ∧ a ≠ 943 ∧ a ≠ 1007 := ⟨fun e => n (by rw [e]; exact q.1), fun e => n (by rw [e]; exact q.2.1), fun e => n (by rw [e]; exact q.2.2.1), fun e => n (by rw [e]; exact q.2.2.2.1), fun e => n (by rw [e]; exact q.2.2.2.2)⟩
    rw [q_K c, q_N c]
    exact G.1 a n, fun a k n => by
    have c : a ≠ 295 ∧ a ≠ 815 ∧ a ≠ 879 ∧ a ≠ 943 ∧ a ≠ 1007 := ⟨fun e => n (by rw [e]; exact (p k).1), fun e => n (by rw [e]; exact (p k).2.1), fun e => n (by rw [e]; exact (p k).2.2.1), fun e => n (by rw [e]; exact (p k).2.2.2.1), fun e => n (by rw [e]; exact (p k).2.2.2.2)⟩
    rw [q_I c, q_B c, q_L c, q_P c]
    exact G.2 a k n⟩
  unfold hIX hI10 hI5 hI4 hI8 hIe
  (repeat' (first | exact ag.refl _ _ _ | refine ag.sI ?_ (by omega) | refine ag.sP ?_ (by omega) | refine ag.new ?_ (fun k => by omega) (by omega) | refine mn _ _ _ _ ?_ (fun k => by omega) (by omega)))
set_option maxRecDepth 20000 in
set_option maxHeartbeats 8000000 in
theorem hIX_v (h : y_H) : y_I (hIX h) 12 1 = 0 ∧ y_I (hIX h) 12 4 = 0 ∧ y_I (hIX h) 12 6 = 0 ∧ y_I (hIX h) 12 9 = 0 ∧ y_I (hIX h) 12 11 = 0 ∧ y_I (hIX h) 13 2 = 0 ∧ y_I (hIX h) 13 3 = 0 ∧ y_I (hIX h) 13 4 = 0 ∧ y_I (hIX h) 14 1 = 0 ∧ y_I (hIX h) 14 4 = 0 ∧ y_I (hIX h) 14 5 = 0 ∧ y_P (hIX h) 14 6 = 0 ∧ y_P (hIX h) 14 7 = 0 ∧ y_P (hIX h) 14 2 = 102 ∧ y_P (hIX h) 14 3 = 166 ∧ y_I (hIX h) 15 5 = 0 ∧ y_B (hIX h) 15 6 = false ∧ y_L (hIX h) 15 9 = 0 ∧ y_I (hIX h) 16 1 = 0 ∧ y_I (hIX h) 10 6 = 0 ∧ y_I (hIX h) 100 0 = -9 ∧ y_I (hIX h) 100 1 = -9 ∧ y_I (hIX h) 100 2 = -9 ∧ y_I (hIX h) 291 0 = 1 ∧ y_I (hIX h) 291 1 = 1 ∧ y_I (hIX h) 291 2 = 1 ∧ y_I (hIX h) 359 0 = 3 ∧ y_P (hIX h) 295 0 = 815 ∧ y_I (hIX h) 815 0 = -9 ∧ y_I (hIX h) 815 1 = -9 ∧ y_I (hIX h) 815 2 = -9 ∧ y_I (hIX h) 359 1 = 3 ∧ y_P (hIX h) 295 1 = 879 ∧ y_I (hIX h) 879 0 = -9 ∧ y_I (hIX h) 879 1 = -9 ∧ y_I (hIX h) 879 2 = -9 ∧ y_I (hIX h) 359 2 = 3 ∧ y_P (hIX h) 295 2 = 943 ∧ y_I (hIX h) 943 0 = -9 ∧ y_I (hIX h) 943 1 = -9 ∧ y_I (hIX h) 943 2 = -9 ∧ y_I (hIX h) 359 3 = 3 ∧ y_P (hIX h) 295 3 = 1007 ∧ y_I (hIX h) 1007 0 = -9 ∧ y_I (hIX h) 1007 1 = -9 ∧ y_I (hIX h) 1007 2 = -9 ∧ y_K (hIX h) 102 = 100 ∧ y_N (hIX h) 102 = 16 ∧ y_K (hIX h) 166 = 100 ∧ y_N (hIX h) 166 = 16 ∧ y_K (hIX h) 815 = 100 ∧ y_K (hIX h) 879 = 100 ∧ y_K (hIX h) 943 = 100 ∧ y_K (hIX h) 1007 = 100 ∧ y_N (hIX h) 815 = 3 ∧ y_N (hIX h) 879 = 3 ∧ y_N (hIX h) 943 = 3 ∧ y_N (hIX h) 1007 = 3 ∧ y_I (hIX h) 36 = (fun _ => 0) ∧ y_I (hIX h) 40 = (fun _ => 0) ∧ y_I (hIX h) 355 = (fun _ => 0) ∧ y_I (hIX h) 39 = (fun _ => 0) ∧ y_I (hIX h) 103 = (fun _ => 0) ∧ y_I (hIX h) 167 = (fun _ => 0) ∧ y_P (hIX h) 35 = (fun _ => 0) ∧ y_P (hIX h) 99 = (fun _ => 0) ∧ y_P (hIX h) 163 = (fun _ => 0) ∧ y_P (hIX h) 227 = (fun _ => 0) ∧ y_P (hIX h) 37 = (fun _ => 0) := by
  simp (disch := omega) only [hIX, hI10, hI9, hI5, hI4, hI8, hIe, q_K, q_N, q_I, q_B, q_L, q_P, q_K295, q_N295, q_K815, q_N815, q_P0, q_K879, q_N879, q_P1, q_K943, q_N943, q_P2, q_K1007, q_N1007, q_P3, e_KI, e_NI, e_BI, e_LI, e_PI, e_KB, e_NB, e_IB, e_LB, e_PB, e_KL, e_NL, e_IL, e_BL, e_PL, e_KP, e_NP, e_IP, e_BP, e_LP, e_IIs, e_BBs, e_LLs, e_PPs, e_IIn, e_BBn, e_LLn, e_PPn, e_IIk, e_BBk, e_LLk, e_PPk, e_Ks, e_Ns, e_Is, e_Bs, e_Ls, e_Ps, e_Kn, e_Nn, e_In, e_Bn, e_Ln, e_Pn, and_self]
theorem hIX_g (h : y_H) (k : Nat) (q : 3 ≤ k) : y_I (hIX h) 291 k = 0 := by
  simp (disch := omega) only [hIX, hI10, hI9, hI5, hI4, hI8, hIe, q_K, q_N, q_I, q_B, q_L, q_P, q_K295, q_N295, q_K815, q_N815, q_P0, q_K879, q_N879, q_P1, q_K943, q_N943, q_P2, q_K1007, q_N1007, q_P3, e_KI, e_NI, e_BI, e_LI, e_PI, e_KB, e_NB, e_IB, e_LB, e_PB, e_KL, e_NL, e_IL, e_BL, e_PL, e_KP, e_NP, e_IP, e_BP, e_LP, e_IIs, e_BBs, e_LLs, e_PPs, e_IIn, e_BBn, e_LLn, e_PPn, e_IIk, e_BBk, e_LLk, e_PPk, e_Ks, e_Ns, e_Is, e_Bs, e_Ls, e_Ps, e_Kn, e_Nn, e_In, e_Bn, e_Ln, e_Pn]
set_option maxRecDepth 20000 in
set_option maxHeartbeats 8000000 in
theorem hI12_v (h : y_H) : y_I (hI12 h) 2594 = (fun _ => 0) ∧ y_I (hI12 h) 1442 = (fun _ => 0) ∧ y_I (hI12 h) 2658 = (fun _ => 0) ∧ y_I (hI12 h) 1890 = (fun _ => 0) ∧ y_I (hI12 h) 3490 = (fun _ => 0) ∧ y_I (hI12 h) 3554 = (fun _ => 0) ∧ y_I (hI12 h) 3618 = (fun _ => 0) ∧ y_I (hI12 h) 11 49 = y_I h 11 49 := by
  simp (disch := omega) only [hI12, e_KI, e_NI, e_BI, e_LI, e_PI, e_KB, e_NB, e_IB, e_LB, e_PB, e_KL, e_NL, e_IL, e_BL, e_PL, e_KP, e_NP, e_IP, e_BP, e_LP, e_IIs, e_BBs, e_LLs, e_PPs, e_IIn, e_BBn, e_LLn, e_PPn, e_IIk, e_BBk, e_LLk, e_PPk, e_Ks, e_Ns, e_Is, e_Bs, e_Ls, e_Ps, e_Kn, e_Nn, e_In, e_Bn, e_Ln, e_Pn, and_self]
end IND
