theorem RM_ck {h : y_H} {l : List Int32} (H : RM h) : RM (cMks h l) := by
  induction l generalizing h with
  | nil => exact H
  | cons m l ih =>
    refine ih ?_
    unfold cMk
    split
    · exact H
    · exact RM_sI (by omega) (RM_sI (by omega) H)
theorem RM_mk {h : y_H} {l : List Int32} (H : RM h) : RM (mMks h l) := by
  induction l generalizing h with
  | nil => exact H
  | cons m l ih =>
    refine ih ?_
    unfold mMk
    split
    · exact H
    · exact RM_sI (by omega) (RM_sI (by omega) H)
theorem RB_ck {h : y_H} {l : List Int32} {N : Nat} (H : RB h N) : RB (cMks h l) N := by
  induction l generalizing h with
  | nil => exact H
  | cons m l ih =>
    refine ih ?_
    unfold cMk
    split
    · exact H
    · exact RB_sI (by omega) (RB_sI (by omega) H)
theorem RB_mk {h : y_H} {l : List Int32} {N : Nat} (H : RB h N) : RB (mMks h l) N := by
  induction l generalizing h with
  | nil => exact H
  | cons m l ih =>
    refine ih ?_
    unfold mMk
    split
    · exact H
    · exact RB_sI (by omega) (RB_sI (by omega) H)
theorem RC_ck {h : y_H} {l : List Int32} {C : Nat} (H : RC h C) : RC (cMks h l) C := by
  induction l generalizing h with
  | nil => exact H
  | cons m l ih =>
    refine ih ?_
    unfold cMk
    split
    · exact H
    · exact RC_sI (by omega) (RC_sI (by omega) H)
theorem RC_mk {h : y_H} {l : List Int32} {C : Nat} (H : RC h C) : RC (mMks h l) C := by
  induction l generalizing h with
  | nil => exact H
  | cons m l ih =>
    refine ih ?_
    unfold mMk
    split
    · exact H
    · exact RC_sI (by omega) (RC_sI (by omega) H)
theorem RS_ck {h : y_H} {l : List Int32} {S : Nat} (H : RS h S) : RS (cMks h l) S := by
  induction l generalizing h with
  | nil => exact H
  | cons m l ih =>
    refine ih ?_
    unfold cMk
    split
    · exact H
    · exact RS_sI (by omega) (RS_sI (by omega) H)
theorem RS_mk {h : y_H} {l : List Int32} {S : Nat} (H : RS h S) : RS (mMks h l) S := by
  induction l generalizing h with
  | nil => exact H
  | cons m l ih =>
    refine ih ?_
    unfold mMk
    split
    · exact H
    · exact RS_sI (by omega) (RS_sI (by omega) H)
theorem RV_ck {h : y_H} {l : List Int32} (H : RV h) : RV (cMks h l) := by
  induction l generalizing h with
  | nil => exact H
  | cons m l ih =>
    refine ih ?_
    unfold cMk
    split
    · exact H
    · exact RV_sI (by omega) (RV_sI (by omega) H)
theorem RV_mk {h : y_H} {l : List Int32} (H : RV h) : RV (mMks h l) := by
  induction l generalizing h with
  | nil => exact H
  | cons m l ih =>
    refine ih ?_
    unfold mMk
    split
    · exact H
    · exact RV_sI (by omega) (RV_sI (by omega) H)
theorem RLn_ck {h : y_H} {l : List Int32} {N S t : Nat} (H : RLn h N S t) : RLn (cMks h l) N S t := by
  induction l generalizing h with
  | nil => exact H
  | cons m l ih =>
    refine ih ?_
    unfold cMk
    split
    · exact H
    · exact RLn_sI (by omega) (RLn_sI (by omega) H)
theorem RLn_mk {h : y_H} {l : List Int32} {N S t : Nat} (H : RLn h N S t) : RLn (mMks h l) N S t := by
  induction l generalizing h with
  | nil => exact H
  | cons m l ih =>
    refine ih ?_
    unfold mMk
    split
    · exact H
    · exact RLn_sI (by omega) (RLn_sI (by omega) H)
theorem RJ_ck {h : y_H} {l : List Int32} {A : Nat} (H : RJ h A) : RJ (cMks h l) A := by
  induction l generalizing h with
  | nil => exact H
  | cons m l ih =>
    refine ih ?_
    unfold cMk
    split
    · exact H
    · exact RJ_sI (by omega) (RJ_sI (by omega) H)
theorem RJ_mk {h : y_H} {l : List Int32} {A : Nat} (H : RJ h A) : RJ (mMks h l) A := by
  induction l generalizing h with
  | nil => exact H
  | cons m l ih =>
    refine ih ?_
    unfold mMk
    split
    · exact H
    · exact RJ_sI (by omega) (RJ_sI (by omega) H)
theorem RP_ck {h : y_H} {l : List Int32} {N C S : Nat} (H : RP h N C S) : RP (cMks h l) N C S := by
  induction l generalizing h with
  | nil => exact H
  | cons m l ih =>
    refine ih ?_
    unfold cMk
    split
    · exact H
    · exact RP_sI (by omega) (RP_sI (by omega) H)
theorem RP_mk {h : y_H} {l : List Int32} {N C S : Nat} (H : RP h N C S) : RP (mMks h l) N C S := by
  induction l generalizing h with
  | nil => exact H
  | cons m l ih =>
    refine ih ?_
    unfold mMk
    split
    · exact H
    · exact RP_sI (by omega) (RP_sI (by omega) H)
theorem RH_ck {h : y_H} {l : List Int32} {N C S A : Nat} (H : RH h N C S A) : RH (cMks h l) N C S A := by
  induction l generalizing h with
  | nil => exact H
  | cons m l ih =>
    refine ih ?_
    unfold cMk
    split
    · exact H
    · exact RH_sI (by omega) (RH_sI (by omega) H)
theorem RH_mk {h : y_H} {l : List Int32} {N C S A : Nat} (H : RH h N C S A) : RH (mMks h l) N C S A := by
  induction l generalizing h with
  | nil => exact H
  | cons m l ih =>
    refine ih ?_
    unfold mMk
    split
    · exact H
    · exact RH_sI (by omega) (RH_sI (by omega) H)
theorem RD_ck {h : y_H} {l : List Int32} {N : Nat} (H : RD h N) : RD (cMks h l) N := by
  induction l generalizing h with
  | nil => exact H
  | cons m l ih =>
    refine ih ?_
    unfold cMk
    split
    · exact H
    · exact RD_sI (by omega) (RD_sI (by omega) H)
theorem RD_mk {h : y_H} {l : List Int32} {N : Nat} (H : RD h N) : RD (mMks h l) N := by
  induction l generalizing h with
  | nil => exact H
  | cons m l ih =>
    refine ih ?_
    unfold mMk
    split
    · exact H
    · exact RD_sI (by omega) (RD_sI (by omega) H)
theorem RQ_ck {h : y_H} {l : List Int32} {e : Nat} (H : RQ h e) : RQ (cMks h l) e := by
  induction l generalizing h with
  | nil => exact H
  | cons m l ih =>
    refine ih ?_
    unfold cMk
    split
    · exact H
    · exact RQ_sI (RQ_sI H)
theorem RQ_mk {h : y_H} {l : List Int32} {e : Nat} (H : RQ h e) : RQ (mMks h l) e := by
  induction l generalizing h with
  | nil => exact H
  | cons m l ih =>
    refine ih ?_
    unfold mMk
    split
    · exact H
    · exact RQ_sI (RQ_sI H)
theorem RK_ck {h : y_H} {l : List Int32} {N C : Nat} (H : RK h N C) : RK (cMks h l) N C := by
  induction l generalizing h with
  | nil => exact H
  | cons m l ih =>
    refine ih ?_
    unfold cMk
    split
    · exact H
    · exact RK_sI (by omega) (RK_sI (by omega) H)
theorem RK_mk {h : y_H} {l : List Int32} {N C : Nat} (H : RK h N C) : RK (mMks h l) N C := by
  induction l generalizing h with
  | nil => exact H
  | cons m l ih =>
    refine ih ?_
    unfold mMk
    split
    · exact H
    · exact RK_sI (by omega) (RK_sI (by omega) H)
theorem Sh_ck {h : y_H} {l : List Int32} (H : Sh h) : Sh (cMks h l) := by
  induction l generalizing h with
  | nil => exact H
  | cons m l ih =>
    refine ih ?_
    unfold cMk
    split
    · exact H
    · exact Sh_sI (Sh_sI H)
theorem Sh_mk {h : y_H} {l : List Int32} (H : Sh h) : Sh (mMks h l) := by
  induction l generalizing h with
  | nil => exact H
  | cons m l ih =>
    refine ih ?_
    unfold mMk
    split
    · exact H
    · exact Sh_sI (Sh_sI H)
