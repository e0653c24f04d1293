/-! AGREEMENT outside some cells: P a k may have been written, Q a may be a new cell -/
def ag (P : Nat → Nat → Prop) (Q : Nat → Prop) (h h2 : y_H) : Prop := (∀ a, ¬ Q a → y_K h2 a = y_K h a ∧ y_N h2 a = y_N h a) ∧ ∀ a k, ¬ P a k → y_I h2 a k = y_I h a k ∧ y_B h2 a k = y_B h a k ∧ y_L h2 a k = y_L h a k ∧ y_P h2 a k = y_P h a k
section AG
variable {U U2 : Nat → Nat → Prop} {V V2 : Nat → Prop} {h h2 h3 : y_H}
theorem ag.refl (U : Nat → Nat → Prop) (V : Nat → Prop) (h : y_H) : ag U V h h := ⟨fun _ _ => ⟨rfl, rfl⟩, fun _ _ _ => ⟨rfl, rfl, rfl, rfl⟩⟩
theorem ag.mono (g : ag U V h h2) (hp : ∀ a k, U a k → U2 a k) (hq : ∀ a, V a → V2 a) : ag U2 V2 h h2 := ⟨fun a n => g.1 a fun q => n (hq a q), fun a k n => g.2 a k fun q => n (hp a k q)⟩
theorem ag.trans (g : ag U V h h2) (g2 : ag U V h2 h3) : ag U V h h3 := ⟨fun a n => ⟨(g2.1 a n).1.trans (g.1 a n).1, (g2.1 a n).2.trans (g.1 a n).2⟩, fun a k n => by
  obtain ⟨x1, x2, x3, x4⟩ := g.2 a k n
  obtain ⟨z1, z2, z3, z4⟩ := g2.2 a k n
  exact ⟨z1.trans x1, z2.trans x2, z3.trans x3, z4.trans x4⟩⟩
theorem ag.sI {n k : Nat} {x : Int32} (g : ag U V h h2) (c : U n k) : ag U V h (s_I h2 n k x) := ⟨g.1, fun a b q => by
  obtain ⟨x1, x2, x3, x4⟩ := g.2 a b q
  exact ⟨(e_IIc (fun e => q (by rw [e.1, e.2]; exact c))).trans x1, x2, x3, x4⟩⟩
theorem ag.sB {n k : Nat} {x : Bool} (g : ag U V h h2) (c : U n k) : ag U V h (s_B h2 n k x) := ⟨g.1, fun a b q => by
  obtain ⟨x1, x2, x3, x4⟩ := g.2 a b q
  exact ⟨x1, (e_BBc (fun e => q (by rw [e.1, e.2]; exact c))).trans x2, x3, x4⟩⟩
theorem ag.sL {n k : Nat} {x : Int64} (g : ag U V h h2) (c : U n k) : ag U V h (s_L h2 n k x) := ⟨g.1, fun a b q => by
  obtain ⟨x1, x2, x3, x4⟩ := g.2 a b q
  exact ⟨x1, x2, (e_LLc (fun e => q (by rw [e.1, e.2]; exact c))).trans x3, x4⟩⟩
theorem ag.sP {n k x : Nat} (g : ag U V h h2) (c : U n k) : ag U V h (s_P h2 n k x) := ⟨g.1, fun a b q => by
  obtain ⟨x1, x2, x3, x4⟩ := g.2 a b q
  exact ⟨x1, x2, x3, (e_PPc (fun e => q (by rw [e.1, e.2]; exact c))).trans x4⟩⟩
theorem ag.new {n kd len : Nat} (g : ag U V h h2) (c : ∀ k, U n k) (d : V n) : ag U V h (s_new h2 n kd len) := ⟨fun a q => by
  have e : a ≠ n := fun e => q (by rw [e]; exact d)
  rw [e_Kn e, e_Nn e]
  exact g.1 a q, fun a b q => by
  have e : a ≠ n := fun e => q (by rw [e]; exact c b)
  rw [e_In e, e_Bn e, e_Ln e, e_Pn e]
  exact g.2 a b q⟩
theorem ag.K (g : ag U V h h2) {a : Nat} (n : ¬ V a) : y_K h2 a = y_K h a := (g.1 a n).1
theorem ag.N (g : ag U V h h2) {a : Nat} (n : ¬ V a) : y_N h2 a = y_N h a := (g.1 a n).2
theorem ag.I (g : ag U V h h2) {a k : Nat} (n : ¬ U a k) : y_I h2 a k = y_I h a k := (g.2 a k n).1
theorem ag.B (g : ag U V h h2) {a k : Nat} (n : ¬ U a k) : y_B h2 a k = y_B h a k := (g.2 a k n).2.1
theorem ag.L (g : ag U V h h2) {a k : Nat} (n : ¬ U a k) : y_L h2 a k = y_L h a k := (g.2 a k n).2.2.1
theorem ag.P (g : ag U V h h2) {a k : Nat} (n : ¬ U a k) : y_P h2 a k = y_P h a k := (g.2 a k n).2.2.2
theorem ag.rI (g : ag U V h h2) {a : Nat} (n : ∀ k, ¬ U a k) : y_I h2 a = y_I h a := funext fun k => g.I (n k)
theorem ag.rB (g : ag U V h h2) {a : Nat} (n : ∀ k, ¬ U a k) : y_B h2 a = y_B h a := funext fun k => g.B (n k)
theorem ag.rL (g : ag U V h h2) {a : Nat} (n : ∀ k, ¬ U a k) : y_L h2 a = y_L h a := funext fun k => g.L (n k)
theorem ag.rP (g : ag U V h h2) {a : Nat} (n : ∀ k, ¬ U a k) : y_P h2 a = y_P h a := funext fun k => g.P (n k)
def FRT (a k : Nat) : Prop := a = 40 ∨ a = 2594 ∨ a = 16 ∧ (k = 1) ∨ a = 11 ∧ (k = 46)
def GRT (a : Nat) : Prop := False
theorem RT_ag (g : ag U V h h2) (c : ∀ a k, U a k → ¬ FRT a k) (d : ∀ a, V a → ¬ GRT a) (H : RT h) : RT h2 := by
  simp only [FRT, GRT] at c d
  exact RT_cg (h := h) (h2 := h2) (g.rI (fun k q => c _ _ q (by omega))) (g.rI (fun k q => c _ _ q (by omega))) (g.I (fun q => c _ _ q (by omega))) (g.I (fun q => c _ _ q (by omega))) H
def FRM (a k : Nat) : Prop := a = 36 ∨ a = 2658 ∨ a = 355 ∨ a = 1442 ∨ a = 291 ∨ a = 1890 ∨ a = 100 ∨ a = 10 ∧ (k = 6) ∨ a = 11 ∧ (k = 33 ∨ k = 47 ∨ k = 49 ∨ k = 52 ∨ k = 53 ∨ k = 54) ∨ a = 12 ∧ (k = 9) ∨ a = 13 ∧ (k = 4)
def GRM (a : Nat) : Prop := False
theorem RM_ag (g : ag U V h h2) (c : ∀ a k, U a k → ¬ FRM a k) (d : ∀ a, V a → ¬ GRM a) (H : RM h) : RM h2 := by
  simp only [FRM, GRM] at c d
  exact RM_cg (h := h) (h2 := h2) (g.I (fun q => c _ _ q (by omega))) (g.I (fun q => c _ _ q (by omega))) (g.rI (fun k q => c _ _ q (by omega))) (g.rI (fun k q => c _ _ q (by omega))) (g.I (fun q => c _ _ q (by omega))) (g.I (fun q => c _ _ q (by omega))) (g.I (fun q => c _ _ q (by omega))) (g.I (fun q => c _ _ q (by omega))) (g.rI (fun k q => c _ _ q (by omega))) (g.rI (fun k q => c _ _ q (by omega))) (g.rI (fun k q => c _ _ q (by omega))) (g.rI (fun k q => c _ _ q (by omega))) (g.I (fun q => c _ _ q (by omega))) (g.rI (fun k q => c _ _ q (by omega))) (g.I (fun q => c _ _ q (by omega))) (g.I (fun q => c _ _ q (by omega))) H
def FRB (a k : Nat) : Prop := a = 35 ∨ a = 34 ∨ a = 98 ∨ a = 162 ∨ a = 226 ∨ a = 290 ∨ a = 418 ∨ a = 482 ∨ a = 546 ∨ a = 610 ∨ a = 354 ∨ a = 674 ∨ a = 738 ∨ a = 802 ∨ a = 866 ∨ a = 12 ∧ (k = 1) ∨ a = 11 ∧ (k = 0) ∨ a % 64 = 20 ∧ (k = 0 ∨ k = 1 ∨ k = 2 ∨ k = 3 ∨ k = 4 ∨ k = 5 ∨ k = 6 ∨ k = 7 ∨ k = 8 ∨ k = 9 ∨ k = 10 ∨ k = 11 ∨ k = 12 ∨ k = 13 ∨ k = 14)
def GRB (a : Nat) : Prop := a % 64 = 20
theorem RB_ag {N : Nat} (g : ag U V h h2) (c : ∀ a k, U a k → ¬ FRB a k) (d : ∀ a, V a → ¬ GRB a) (H : RB h N) : RB h2 N := by
  simp only [FRB, GRB] at c d
  exact RB_cg (h := h) (h2 := h2) (g.I (fun q => c _ _ q (by omega))) (g.I (fun q => c _ _ q (by omega))) (g.rP (fun k q => c _ _ q (by omega))) (fun n => g.K (fun q => d _ q (by omega))) (fun n => g.I (fun q => c _ _ q (by omega))) (fun n => g.I (fun q => c _ _ q (by omega))) (g.rI (fun k q => c _ _ q (by omega))) (fun n => g.I (fun q => c _ _ q (by omega))) (g.rI (fun k q => c _ _ q (by omega))) (fun n => g.I (fun q => c _ _ q (by omega))) (g.rI (fun k q => c _ _ q (by omega))) (fun n => g.I (fun q => c _ _ q (by omega))) (g.rI (fun k q => c _ _ q (by omega))) (fun n => g.I (fun q => c _ _ q (by omega))) (g.rI (fun k q => c _ _ q (by omega))) (fun n => g.I (fun q => c _ _ q (by omega))) (g.rI (fun k q => c _ _ q (by omega))) (fun n => g.I (fun q => c _ _ q (by omega))) (g.rI (fun k q => c _ _ q (by omega))) (fun n => g.I (fun q => c _ _ q (by omega))) (g.rI (fun k q => c _ _ q (by omega))) (fun n => g.I (fun q => c _ _ q (by omega))) (g.rI (fun k q => c _ _ q (by omega))) (fun n => g.B (fun q => c _ _ q (by omega))) (g.rB (fun k q => c _ _ q (by omega))) (fun n => g.I (fun q => c _ _ q (by omega))) (g.rI (fun k q => c _ _ q (by omega))) (fun n => g.I (fun q => c _ _ q (by omega))) (g.rI (fun k q => c _ _ q (by omega))) (fun n => g.I (fun q => c _ _ q (by omega))) (g.rI (fun k q => c _ _ q (by omega))) (fun n => g.I (fun q => c _ _ q (by omega))) (g.rI (fun k q => c _ _ q (by omega))) H
def FRC (a k : Nat) : Prop := a = 163 ∨ a = 1506 ∨ a = 1570 ∨ a = 1634 ∨ a = 1698 ∨ a = 1762 ∨ a = 1826 ∨ a = 12 ∧ (k = 4) ∨ a = 11 ∧ (k = 25) ∨ a % 64 = 21 ∧ (k = 0 ∨ k = 1 ∨ k = 2 ∨ k = 3 ∨ k = 4 ∨ k = 5 ∨ k = 6 ∨ k = 7)
def GRC (a : Nat) : Prop := a % 64 = 21
theorem RC_ag {C : Nat} (g : ag U V h h2) (c : ∀ a k, U a k → ¬ FRC a k) (d : ∀ a, V a → ¬ GRC a) (H : RC h C) : RC h2 C := by
  simp only [FRC, GRC] at c d
  exact RC_cg (h := h) (h2 := h2) (g.I (fun q => c _ _ q (by omega))) (g.I (fun q => c _ _ q (by omega))) (g.rP (fun k q => c _ _ q (by omega))) (fun n => g.K (fun q => d _ q (by omega))) (fun n => g.I (fun q => c _ _ q (by omega))) (fun n => g.I (fun q => c _ _ q (by omega))) (g.rI (fun k q => c _ _ q (by omega))) (fun n => g.I (fun q => c _ _ q (by omega))) (g.rI (fun k q => c _ _ q (by omega))) (fun n => g.I (fun q => c _ _ q (by omega))) (g.rI (fun k q => c _ _ q (by omega))) (fun n => g.P (fun q => c _ _ q (by omega))) (g.rI (fun k q => c _ _ q (by omega))) (fun n => g.I (fun q => c _ _ q (by omega))) (g.rI (fun k q => c _ _ q (by omega))) (fun n => g.I (fun q => c _ _ q (by omega))) (g.rI (fun k q => c _ _ q (by omega))) (fun n => g.B (fun q => c _ _ q (by omega))) H
def FRS (a k : Nat) : Prop := a = 1954 ∨ a = 2018 ∨ a = 2082 ∨ a = 2146 ∨ a = 2402 ∨ a = 2466 ∨ a = 2530 ∨ a % 64 = 28 ∨ a = 2274 ∨ a % 64 = 29 ∨ a = 2338 ∨ a % 64 = 25 ∨ a = 2210 ∨ a = 227 ∨ a = 12 ∧ (k = 6) ∨ a = 11 ∧ (k = 34) ∨ a % 64 = 22 ∧ (k = 0 ∨ k = 1 ∨ k = 2 ∨ k = 3 ∨ k = 5 ∨ k = 6 ∨ k = 7 ∨ k = 8 ∨ k = 9 ∨ k = 10 ∨ k = 11 ∨ k = 12 ∨ k = 13)
def GRS (a : Nat) : Prop := a % 64 = 22 ∨ a % 64 = 25 ∨ a % 64 = 26 ∨ a % 64 = 27 ∨ a % 64 = 28 ∨ a % 64 = 29
theorem RS_ag {S : Nat} (g : ag U V h h2) (c : ∀ a k, U a k → ¬ FRS a k) (d : ∀ a, V a → ¬ GRS a) (H : RS h S) : RS h2 S := by
  simp only [FRS, GRS] at c d
  exact RS_cg (h := h) (h2 := h2) (g.I (fun q => c _ _ q (by omega))) (g.I (fun q => c _ _ q (by omega))) (fun n => g.I (fun q => c _ _ q (by omega))) (g.rI (fun k q => c _ _ q (by omega))) (fun n => g.I (fun q => c _ _ q (by omega))) (g.rI (fun k q => c _ _ q (by omega))) (fun n => g.I (fun q => c _ _ q (by omega))) (g.rI (fun k q => c _ _ q (by omega))) (fun n => g.I (fun q => c _ _ q (by omega))) (g.rI (fun k q => c _ _ q (by omega))) (fun n => g.I (fun q => c _ _ q (by omega))) (g.rI (fun k q => c _ _ q (by omega))) (fun n => g.I (fun q => c _ _ q (by omega))) (g.rI (fun k q => c _ _ q (by omega))) (fun n => g.I (fun q => c _ _ q (by omega))) (g.rI (fun k q => c _ _ q (by omega))) (fun n => g.rI (fun k q => c _ _ q (by omega))) (g.rI (fun k q => c _ _ q (by omega))) (fun n => g.rI (fun k q => c _ _ q (by omega))) (g.rI (fun k q => c _ _ q (by omega))) (fun n => g.rP (fun k q => c _ _ q (by omega))) (g.rI (fun k q => c _ _ q (by omega))) (g.rP (fun k q => c _ _ q (by omega))) (fun n => g.K (fun q => d _ q (by omega))) (fun n => g.I (fun q => c _ _ q (by omega))) (fun n => g.P (fun q => c _ _ q (by omega))) (fun n => g.P (fun q => c _ _ q (by omega))) (fun n => g.P (fun q => c _ _ q (by omega))) (fun n => g.P (fun q => c _ _ q (by omega))) (fun n => g.P (fun q => c _ _ q (by omega))) (fun n => g.K (fun q => d _ q (by omega))) (fun n => g.N (fun q => d _ q (by omega))) (fun n => g.K (fun q => d _ q (by omega))) (fun n => g.N (fun q => d _ q (by omega))) (fun n => g.K (fun q => d _ q (by omega))) (fun n => g.N (fun q => d _ q (by omega))) (fun n => g.K (fun q => d _ q (by omega))) (fun n => g.N (fun q => d _ q (by omega))) (fun n => g.K (fun q => d _ q (by omega))) (fun n => g.N (fun q => d _ q (by omega))) H
def FRV (a k : Nat) : Prop := a = 994 ∨ a = 1058 ∨ a = 1122 ∨ a = 1250 ∨ a = 1314 ∨ a = 99 ∨ a = 1186 ∨ a % 64 = 30 ∨ a % 64 = 31 ∨ a % 64 = 32 ∨ a % 64 = 33 ∨ a = 1378 ∨ a % 64 = 23 ∧ (k = 0 ∨ k = 1 ∨ k = 2 ∨ k = 3 ∨ k = 4 ∨ k = 5 ∨ k = 6 ∨ k = 7)
def GRV (a : Nat) : Prop := a % 64 = 23 ∨ a % 64 = 30 ∨ a % 64 = 31 ∨ a % 64 = 32 ∨ a % 64 = 33
theorem RV_ag (g : ag U V h h2) (c : ∀ a k, U a k → ¬ FRV a k) (d : ∀ a, V a → ¬ GRV a) (H : RV h) : RV h2 := by
  simp only [FRV, GRV] at c d
  exact RV_cg (h := h) (h2 := h2) (g.rB (fun k q => c _ _ q (by omega))) (fun n => g.B (fun q => c _ _ q (by omega))) (fun n => g.I (fun q => c _ _ q (by omega))) (g.rI (fun k q => c _ _ q (by omega))) (g.rI (fun k q => c _ _ q (by omega))) (fun n => g.I (fun q => c _ _ q (by omega))) (g.rI (fun k q => c _ _ q (by omega))) (g.rI (fun k q => c _ _ q (by omega))) (g.rP (fun k q => c _ _ q (by omega))) (fun n => g.K (fun q => d _ q (by omega))) (fun n => g.I (fun q => c _ _ q (by omega))) (fun n => g.P (fun q => c _ _ q (by omega))) (fun n => g.P (fun q => c _ _ q (by omega))) (fun n => g.P (fun q => c _ _ q (by omega))) (fun n => g.P (fun q => c _ _ q (by omega))) (fun n => g.K (fun q => d _ q (by omega))) (fun n => g.N (fun q => d _ q (by omega))) (fun n => g.K (fun q => d _ q (by omega))) (fun n => g.N (fun q => d _ q (by omega))) (fun n => g.K (fun q => d _ q (by omega))) (fun n => g.N (fun q => d _ q (by omega))) (fun n => g.K (fun q => d _ q (by omega))) (fun n => g.N (fun q => d _ q (by omega))) (g.rI (fun k q => c _ _ q (by omega))) (fun n => g.rI (fun k q => c _ _ q (by omega))) (fun n => g.rI (fun k q => c _ _ q (by omega))) (fun n => g.rI (fun k q => c _ _ q (by omega))) (fun n => g.rP (fun k q => c _ _ q (by omega))) (g.rI (fun k q => c _ _ q (by omega))) H
def FRLn (a k : Nat) : Prop := a = 674 ∨ a = 930 ∨ a = 419 ∨ a = 11 ∧ (k = 16) ∨ a = 12 ∧ (k = 11)
def GRLn (a : Nat) : Prop := False
theorem RLn_ag {N S t : Nat} (g : ag U V h h2) (c : ∀ a k, U a k → ¬ FRLn a k) (d : ∀ a, V a → ¬ GRLn a) (H : RLn h N S t) : RLn h2 N S t := by
  simp only [FRLn, GRLn] at c d
  exact RLn_cg (h := h) (h2 := h2) (g.rI (fun k q => c _ _ q (by omega))) (g.I (fun q => c _ _ q (by omega))) (g.rI (fun k q => c _ _ q (by omega))) (g.I (fun q => c _ _ q (by omega))) (g.rP (fun k q => c _ _ q (by omega))) H
def FRJ (a k : Nat) : Prop := a = 37 ∨ a = 2722 ∨ a = 13 ∧ (k = 2 ∨ k = 3) ∨ a = 11 ∧ (k = 50) ∨ a % 64 = 24 ∧ (k = 0 ∨ k = 1 ∨ k = 2 ∨ k = 3 ∨ k = 4 ∨ k = 5 ∨ k = 6 ∨ k = 7 ∨ k = 8 ∨ k = 9 ∨ k = 10 ∨ k = 11 ∨ k = 12 ∨ k = 13)
def GRJ (a : Nat) : Prop := a % 64 = 24
theorem RJ_ag {A : Nat} (g : ag U V h h2) (c : ∀ a k, U a k → ¬ FRJ a k) (d : ∀ a, V a → ¬ GRJ a) (H : RJ h A) : RJ h2 A := by
  simp only [FRJ, GRJ] at c d
  exact RJ_cg (h := h) (h2 := h2) (g.I (fun q => c _ _ q (by omega))) (g.I (fun q => c _ _ q (by omega))) (g.I (fun q => c _ _ q (by omega))) (g.rP (fun k q => c _ _ q (by omega))) (fun n => g.K (fun q => d _ q (by omega))) (fun n => g.I (fun q => c _ _ q (by omega))) (g.rI (fun k q => c _ _ q (by omega))) (fun n => g.P (fun q => c _ _ q (by omega))) (fun n => g.P (fun q => c _ _ q (by omega))) (fun n => g.I (fun q => c _ _ q (by omega))) (fun n => g.I (fun q => c _ _ q (by omega))) (fun n => g.I (fun q => c _ _ q (by omega))) (fun n => g.I (fun q => c _ _ q (by omega))) (fun n => g.B (fun q => c _ _ q (by omega))) (fun n => g.I (fun q => c _ _ q (by omega))) (fun n => g.I (fun q => c _ _ q (by omega))) (fun n => g.I (fun q => c _ _ q (by omega))) (fun n => g.P (fun q => c _ _ q (by omega))) (fun n => g.I (fun q => c _ _ q (by omega))) (fun n => g.I (fun q => c _ _ q (by omega))) H
def FRP (a k : Nat) : Prop := a = 994 ∨ a = 1122 ∨ a = 1314 ∨ a = 1378 ∨ a = 418 ∨ a = 482 ∨ a = 546 ∨ a = 610 ∨ a = 2210
def GRP (a : Nat) : Prop := False
theorem RP_ag {N C S : Nat} (g : ag U V h h2) (c : ∀ a k, U a k → ¬ FRP a k) (d : ∀ a, V a → ¬ GRP a) (H : RP h N C S) : RP h2 N C S := by
  simp only [FRP, GRP] at c d
  exact RP_cg (h := h) (h2 := h2) (g.rB (fun k q => c _ _ q (by omega))) (g.rI (fun k q => c _ _ q (by omega))) (g.rI (fun k q => c _ _ q (by omega))) (g.rI (fun k q => c _ _ q (by omega))) (g.rI (fun k q => c _ _ q (by omega))) (g.rI (fun k q => c _ _ q (by omega))) (g.rI (fun k q => c _ _ q (by omega))) (g.rI (fun k q => c _ _ q (by omega))) (g.rI (fun k q => c _ _ q (by omega))) H
def FRH (a k : Nat) : Prop := a = 418 ∨ a = 482 ∨ a = 546 ∨ a = 610 ∨ a = 1634 ∨ a = 1698 ∨ a = 2466 ∨ a = 1570 ∨ a = 1890 ∨ a = 2402 ∨ a = 994 ∨ a = 1122 ∨ a = 1186 ∨ a = 1954 ∨ a = 2018 ∨ a = 2082 ∨ a = 2722 ∨ a = 2530 ∨ a = 13 ∧ (k = 2) ∨ a % 64 = 24 ∧ (k = 11)
def GRH (a : Nat) : Prop := False
theorem RH_ag {N C S A : Nat} (g : ag U V h h2) (c : ∀ a k, U a k → ¬ FRH a k) (d : ∀ a, V a → ¬ GRH a) (H : RH h N C S A) : RH h2 N C S A := by
  simp only [FRH, GRH] at c d
  exact RH_cg (h := h) (h2 := h2) (g.I (fun q => c _ _ q (by omega))) (g.rI (fun k q => c _ _ q (by omega))) (g.rI (fun k q => c _ _ q (by omega))) (g.rI (fun k q => c _ _ q (by omega))) (g.rI (fun k q => c _ _ q (by omega))) (g.rI (fun k q => c _ _ q (by omega))) (g.rI (fun k q => c _ _ q (by omega))) (g.rI (fun k q => c _ _ q (by omega))) (g.rI (fun k q => c _ _ q (by omega))) (g.rI (fun k q => c _ _ q (by omega))) (g.rI (fun k q => c _ _ q (by omega))) (g.rB (fun k q => c _ _ q (by omega))) (g.rI (fun k q => c _ _ q (by omega))) (g.rI (fun k q => c _ _ q (by omega))) (g.rI (fun k q => c _ _ q (by omega))) (g.rI (fun k q => c _ _ q (by omega))) (g.rI (fun k q => c _ _ q (by omega))) (g.rI (fun k q => c _ _ q (by omega))) (fun n => g.P (fun q => c _ _ q (by omega))) (g.rI (fun k q => c _ _ q (by omega))) H
def FRD (a k : Nat) : Prop := a = 38 ∨ a = 2786 ∨ a = 994 ∨ a = 102 ∨ a = 166 ∨ a % 64 = 45 ∨ a % 64 = 46 ∨ a = 2850 ∨ a = 2914 ∨ a = 14 ∧ (k = 1 ∨ k = 2 ∨ k = 3 ∨ k = 4 ∨ k = 5 ∨ k = 6) ∨ a = 11 ∧ (k = 55 ∨ k = 57 ∨ k = 58 ∨ k = 59)
def GRD (a : Nat) : Prop := a % 64 = 45 ∨ a % 64 = 46 ∨ a = 102 ∨ a = 166
theorem RD_ag {N : Nat} (g : ag U V h h2) (c : ∀ a k, U a k → ¬ FRD a k) (d : ∀ a, V a → ¬ GRD a) (H : RD h N) : RD h2 N := by
  simp only [FRD, GRD] at c d
  exact RD_cg (h := h) (h2 := h2) (g.I (fun q => c _ _ q (by omega))) (g.I (fun q => c _ _ q (by omega))) (g.rP (fun k q => c _ _ q (by omega))) (g.rI (fun k q => c _ _ q (by omega))) (g.I (fun q => c _ _ q (by omega))) (g.I (fun q => c _ _ q (by omega))) (g.I (fun q => c _ _ q (by omega))) (g.P (fun q => c _ _ q (by omega))) (g.rB (fun k q => c _ _ q (by omega))) (g.I (fun q => c _ _ q (by omega))) (g.I (fun q => c _ _ q (by omega))) (fun n => g.K (fun q => d _ q (by omega))) (fun n => g.K (fun q => d _ q (by omega))) (g.K (fun q => d _ q (by omega))) (g.K (fun q => d _ q (by omega))) (g.N (fun q => d _ q (by omega))) (g.N (fun q => d _ q (by omega))) (g.rI (fun k q => c _ _ q (by omega))) (g.rI (fun k q => c _ _ q (by omega))) (fun n => g.N (fun q => d _ q (by omega))) (fun n => g.N (fun q => d _ q (by omega))) (fun n => g.rI (fun k q => c _ _ q (by omega))) (fun n => g.rI (fun k q => c _ _ q (by omega))) (g.P (fun q => c _ _ q (by omega))) (g.P (fun q => c _ _ q (by omega))) (g.rI (fun k q => c _ _ q (by omega))) (g.rI (fun k q => c _ _ q (by omega))) H
def FRQ (a k : Nat) : Prop := a = 14 ∧ (k = 7) ∨ a = 17 ∧ (k = 0 ∨ k = 1 ∨ k = 4 ∨ k = 5 ∨ k = 6)
def GRQ (a : Nat) : Prop := a = 17 ∨ a = 41 ∨ a = 105 ∨ a = 169 ∨ a = 233 ∨ a = 297 ∨ a % 64 = 42 ∨ a % 64 = 43 ∨ a % 64 = 44
theorem RQ_ag {e : Nat} (g : ag U V h h2) (c : ∀ a k, U a k → ¬ FRQ a k) (d : ∀ a, V a → ¬ GRQ a) (H : RQ h e) : RQ h2 e := by
  simp only [FRQ, GRQ] at c d
  exact RQ_cg (h := h) (h2 := h2) (g.P (fun q => c _ _ q (by omega))) (g.K (fun q => d _ q (by omega))) (g.K (fun q => d _ q (by omega))) (g.K (fun q => d _ q (by omega))) (g.K (fun q => d _ q (by omega))) (g.K (fun q => d _ q (by omega))) (g.K (fun q => d _ q (by omega))) (fun n => g.K (fun q => d _ q (by omega))) (fun n => g.K (fun q => d _ q (by omega))) (fun n => g.K (fun q => d _ q (by omega))) (g.P (fun q => c _ _ q (by omega))) (g.N (fun q => d _ q (by omega))) (g.P (fun q => c _ _ q (by omega))) (g.N (fun q => d _ q (by omega))) (g.N (fun q => d _ q (by omega))) (g.N (fun q => d _ q (by omega))) (g.N (fun q => d _ q (by omega))) (fun n => g.N (fun q => d _ q (by omega))) (fun n => g.N (fun q => d _ q (by omega))) (fun n => g.N (fun q => d _ q (by omega))) (g.P (fun q => c _ _ q (by omega))) (g.P (fun q => c _ _ q (by omega))) (g.P (fun q => c _ _ q (by omega))) H
def FRK (a k : Nat) : Prop := a = 231 ∨ a = 3426 ∨ a = 39 ∨ a = 3490 ∨ a = 103 ∨ a = 3554 ∨ a = 167 ∨ a = 3618 ∨ a = 359 ∨ a = 3746 ∨ a = 295 ∨ a % 64 = 47 ∨ a = 3682 ∨ a = 15 ∧ (k = 5 ∨ k = 6 ∨ k = 7 ∨ k = 8 ∨ k = 9 ∨ k = 10 ∨ k = 11) ∨ a = 11 ∧ (k = 72 ∨ k = 79 ∨ k = 80 ∨ k = 81 ∨ k = 82 ∨ k = 83 ∨ k = 84)
def GRK (a : Nat) : Prop := a % 64 = 47
theorem RK_ag {N C : Nat} (g : ag U V h h2) (c : ∀ a k, U a k → ¬ FRK a k) (d : ∀ a, V a → ¬ GRK a) (H : RK h N C) : RK h2 N C := by
  simp only [FRK, GRK] at c d
  exact RK_cg (h := h) (h2 := h2) (g.I (fun q => c _ _ q (by omega))) (g.I (fun q => c _ _ q (by omega))) (g.rI (fun k q => c _ _ q (by omega))) (g.rI (fun k q => c _ _ q (by omega))) (g.rI (fun k q => c _ _ q (by omega))) (g.rI (fun k q => c _ _ q (by omega))) (g.rI (fun k q => c _ _ q (by omega))) (g.rI (fun k q => c _ _ q (by omega))) (g.rI (fun k q => c _ _ q (by omega))) (g.rI (fun k q => c _ _ q (by omega))) (g.B (fun q => c _ _ q (by omega))) (g.B (fun q => c _ _ q (by omega))) (g.L (fun q => c _ _ q (by omega))) (g.L (fun q => c _ _ q (by omega))) (g.I (fun q => c _ _ q (by omega))) (g.I (fun q => c _ _ q (by omega))) (g.I (fun q => c _ _ q (by omega))) (g.I (fun q => c _ _ q (by omega))) (g.I (fun q => c _ _ q (by omega))) (g.I (fun q => c _ _ q (by omega))) (g.I (fun q => c _ _ q (by omega))) (g.I (fun q => c _ _ q (by omega))) (g.rI (fun k q => c _ _ q (by omega))) (g.rI (fun k q => c _ _ q (by omega))) (g.rP (fun k q => c _ _ q (by omega))) (fun n => g.K (fun q => d _ q (by omega))) (fun n => g.N (fun q => d _ q (by omega))) (fun n => g.rI (fun k q => c _ _ q (by omega))) (g.rI (fun k q => c _ _ q (by omega))) H
def FSh (a k : Nat) : Prop := a = 10 ∧ (0 ≤ k ∧ k ≤ 5) ∨ a = 11 ∧ (1 ≤ k ∧ k ≤ 15 ∨ 17 ≤ k ∧ k ≤ 24 ∨ 26 ≤ k ∧ k ≤ 32 ∨ 35 ≤ k ∧ k ≤ 45 ∨ k = 48 ∨ k = 51 ∨ k = 56 ∨ 60 ≤ k ∧ k ≤ 65 ∨ k = 67 ∨ 69 ≤ k ∧ k ≤ 70 ∨ 73 ≤ k ∧ k ≤ 78 ∨ 86 ≤ k ∧ k ≤ 90 ∨ 92 ≤ k ∧ k ≤ 94) ∨ a = 12 ∧ (k = 0 ∨ 2 ≤ k ∧ k ≤ 3 ∨ k = 5 ∨ 7 ≤ k ∧ k ≤ 8 ∨ k = 10 ∨ k = 12) ∨ a = 13 ∧ (0 ≤ k ∧ k ≤ 1) ∨ a = 14 ∧ (k = 0 ∨ 8 ≤ k ∧ k ≤ 9) ∨ a = 15 ∧ (0 ≤ k ∧ k ≤ 4 ∨ 12 ≤ k ∧ k ≤ 13) ∨ a = 16 ∧ (k = 0)
def GSh (a : Nat) : Prop := 10 ≤ a ∧ a ≤ 16 ∨ a = 18 ∨ 34 ≤ a % 64 ∧ a % 64 ≤ 40
theorem Sh_ag (g : ag U V h h2) (c : ∀ a k, U a k → ¬ FSh a k) (d : ∀ a, V a → ¬ GSh a) (H : Sh h) : Sh h2 := by
  have eP : ∀ a k, FSh a k → y_P h2 a k = y_P h a k := fun a k q => g.P fun z => c a k z q
  have eK : ∀ a, GSh a → y_K h2 a = y_K h a := fun a q => g.K fun z => d a z q
  have eN : ∀ a, GSh a → y_N h2 a = y_N h a := fun a q => g.N fun z => d a z q
  simp only [FSh, GSh] at eP eK eN
  simp (disch := omega) only [Sh, Wc, Wm, eP, eK, eN]
  exact H
end AG
section FA
variable {P : Nat → Nat → Prop} {Q : Nat → Prop} {h h2 : y_H}
theorem ag.cm {l : List Int32} (g : ag P Q h h2) (c : ∀ k, P 40 k) (d : P 16 1) : ag P Q h (cMks h2 l) := by
  induction l generalizing h2 with
  | nil => exact g
  | cons m l ih =>
    refine ih ?_
    unfold cMk
    split
    · exact g
    · exact ag.sI (ag.sI g (c _)) d
theorem ag.mm {l : List Int32} (g : ag P Q h h2) (c : ∀ k, P 2594 k) (d : P 11 46) : ag P Q h (mMks h2 l) := by
  induction l generalizing h2 with
  | nil => exact g
  | cons m l ih =>
    refine ih ?_
    unfold mMk
    split
    · exact g
    · exact ag.sI (ag.sI g (c _)) d
end FA
