/-! ===== leaves of the class ===== -/
/-- what a property can be (MARGIN as ABOVE) -/
def pq (p : Nat) : Nat := if p = 14 then 3 else p
def cbe (p : Nat) (v : Int32) : Prop := pLe (pq p) ≤ v ∧ v ≤ pGr (pq p)
theorem c_canBe (l : Launch) (G : Gl) {h : Hp} {p : Nat} {v : Int32} (hp : p ≤ 14) : MRw l G yX6_canBe (.code yX6_canBe cX6_canBe 3 (Option.some Jvm.ClassFile.FieldType.boolean)) 0 0 0 [.int (nI p), .int v] h (.inl (some (.int (if pLe (pq p) ≤ v ∧ v ≤ pGr (pq p) then 1 else 0)), h)) := by
  refine mr_of (by decide +kernel) (Nat.le_of_ble_eq_true rfl) (ct2 (by first | rfl | exact isR_cat (isR_rf _)) (by first | rfl | exact isR_cat (isR_rf _))) (fun X hG hl C E => ?_)
  subst hG hl
  have hq : pq p < 14 := by unfold pq; split <;> omega
  have hgo : wr X 0 0 12 [.int (nI p), .int v, .int (nI (pq p))] [] h := by
    refine r_iload_n (i := 2) C dX6_canBe_12 rfl rfl ?_
    refine r_if_lt (tgt := 22) C dX6_canBe_13 (by decide) (fun c_13 => ?_) (fun c_13 => ?_)
    · exact absurd c_13 (nI_pos (by omega))
    · refine r_iload_n (i := 2) C dX6_canBe_16 rfl rfl ?_
      refine r_bipush (v := 14) C dX6_canBe_17 (by decide) ?_
      refine rn_ic_lt C (pq p) 14 rfl rfl (by omega) (by decide) (tgt := 24) dX6_canBe_19 (by decide) (fun _ => ?_) (fun q => absurd q (by omega))
      refine r_iload_n (i := 1) C dX6_canBe_24 rfl rfl ?_
      refine r_gs1 C dX6_canBe_25 g_X6_9 ?_
      refine r_iload_n (i := 2) C dX6_canBe_28 rfl rfl ?_
      refine r_p1ald C dX6_canBe_29 rfl hq ?_
      refine r_ic_lt (tgt := 46) C dX6_canBe_30 (by decide) (fun c_30 => ?_) (fun c_30 => ?_)
      · rw [if_neg (fun z => Int32.not_lt.mpr z.1 c_30)] at E
        refine r_iconst (v := 0) C dX6_canBe_46 (by decide) ?_
        exact r_iret C E dX6_canBe_47 rfl (bo_nar (by first | exact Or.inl rfl | exact Or.inr rfl | assumption)).1 (by first | exact Nat.le_refl _ | exact Nat.le_of_ble_eq_true rfl | omega) (by first | exact Nat.le_refl _ | exact Nat.le_of_ble_eq_true rfl | omega)
      · refine r_iload_n (i := 1) C dX6_canBe_33 rfl rfl ?_
        refine r_gs2 C dX6_canBe_34 g_X6_15 ?_
        refine r_iload_n (i := 2) C dX6_canBe_37 rfl rfl ?_
        refine r_p2ald C dX6_canBe_38 rfl hq ?_
        refine r_ic_gt (tgt := 46) C dX6_canBe_39 (by decide) (fun c_39 => ?_) (fun c_39 => ?_)
        · rw [if_neg (fun z => Int32.not_lt.mpr z.2 c_39)] at E
          refine r_iconst (v := 0) C dX6_canBe_46 (by decide) ?_
          exact r_iret C E dX6_canBe_47 rfl (bo_nar (by first | exact Or.inl rfl | exact Or.inr rfl | assumption)).1 (by first | exact Nat.le_refl _ | exact Nat.le_of_ble_eq_true rfl | omega) (by first | exact Nat.le_refl _ | exact Nat.le_of_ble_eq_true rfl | omega)
        · rw [if_pos ⟨Int32.not_lt.mp c_30, Int32.not_lt.mp c_39⟩] at E
          refine r_iconst (v := 1) C dX6_canBe_42 (by decide) ?_
          refine r_goto (tgt := 47) C dX6_canBe_43 (by decide) ?_
          exact r_iret C E dX6_canBe_47 rfl (bo_nar (by first | exact Or.inl rfl | exact Or.inr rfl | assumption)).1 (by first | exact Nat.le_refl _ | exact Nat.le_of_ble_eq_true rfl | omega) (by first | exact Nat.le_refl _ | exact Nat.le_of_ble_eq_true rfl | omega)
  refine r_iload_n (i := 0) C dX6_canBe_0 rfl rfl ?_
  refine r_bipush (v := 14) C dX6_canBe_1 (by decide) ?_
  refine rn_ic_ne C p 14 rfl rfl (by omega) (by decide) (tgt := 10) dX6_canBe_3 (by decide) (fun c => ?_) (fun c => ?_)
  · refine r_iload_n (i := 0) C dX6_canBe_10 rfl rfl ?_
    refine r_istore_n (i := 2) C dX6_canBe_11 rfl (Nat.le_of_ble_eq_true rfl) ?_
    rw [show pq p = p by unfold pq; rw [if_neg c]] at hgo
    exact hgo
  · refine r_iconst (v := 3) C dX6_canBe_6 (by decide) ?_
    refine r_goto (tgt := 11) C dX6_canBe_7 (by decide) ?_
    refine r_istore_n (i := 2) C dX6_canBe_11 rfl (Nat.le_of_ble_eq_true rfl) ?_
    rw [show pq p = 3 by unfold pq; rw [if_pos c]] at hgo
    exact hgo
theorem c_canBeAuto (l : Launch) (G : Gl) {h : Hp} {p : Int32} : MRw l G yX6_canBeAuto (.code yX6_canBeAuto cX6_canBeAuto 1 (Option.some Jvm.ClassFile.FieldType.boolean)) 0 0 0 [.int p] h (.inl (some (.int (if p = 0 then 1 else if p = 1 then 1 else if p = 2 then 1 else 0)), h)) := by
  refine mr_of (by decide +kernel) (Nat.le_of_ble_eq_true rfl) (ct1 (by first | rfl | exact isR_cat (isR_rf _))) (fun X hG hl C E => ?_)
  subst hG hl
  refine r_iload_n (i := 0) C dX6_canBeAuto_0 rfl rfl ?_
  refine r_if_eq (tgt := 14) C dX6_canBeAuto_1 (by decide) (fun c_1 => ?_) (fun c_1 => ?_)
  · first | rw [if_pos c_1] at E | rw [if_neg c_1] at E | rw [if_neg (fun z => z c_1)] at E | skip
    refine r_iconst (v := 1) C dX6_canBeAuto_14 (by decide) ?_
    refine r_goto (tgt := 19) C dX6_canBeAuto_15 (by decide) ?_
    exact r_iret C E dX6_canBeAuto_19 rfl (bo_nar (by first | exact Or.inl rfl | exact Or.inr rfl | assumption)).1 (by first | exact Nat.le_refl _ | exact Nat.le_of_ble_eq_true rfl | omega) (by first | exact Nat.le_refl _ | exact Nat.le_of_ble_eq_true rfl | omega)
  · first | rw [if_pos c_1] at E | rw [if_neg c_1] at E | rw [if_neg (fun z => z c_1)] at E | skip
    refine r_iload_n (i := 0) C dX6_canBeAuto_4 rfl rfl ?_
    refine r_iconst (v := 1) C dX6_canBeAuto_5 (by decide) ?_
    refine r_ic_eq (tgt := 14) C dX6_canBeAuto_6 (by decide) (fun c_6 => ?_) (fun c_6 => ?_)
    · first | rw [if_pos c_6] at E | rw [if_neg c_6] at E | rw [if_neg (fun z => z c_6)] at E | skip
      refine r_iconst (v := 1) C dX6_canBeAuto_14 (by decide) ?_
      refine r_goto (tgt := 19) C dX6_canBeAuto_15 (by decide) ?_
      exact r_iret C E dX6_canBeAuto_19 rfl (bo_nar (by first | exact Or.inl rfl | exact Or.inr rfl | assumption)).1 (by first | exact Nat.le_refl _ | exact Nat.le_of_ble_eq_true rfl | omega) (by first | exact Nat.le_refl _ | exact Nat.le_of_ble_eq_true rfl | omega)
    · first | rw [if_pos c_6] at E | rw [if_neg c_6] at E | rw [if_neg (fun z => z c_6)] at E | skip
      refine r_iload_n (i := 0) C dX6_canBeAuto_9 rfl rfl ?_
      refine r_iconst (v := 2) C dX6_canBeAuto_10 (by decide) ?_
      refine r_ic_ne (tgt := 18) C dX6_canBeAuto_11 (by decide) (fun c_11 => ?_) (fun c_11 => ?_)
      · first | rw [if_pos c_11] at E | rw [if_neg c_11] at E | rw [if_neg (fun z => z c_11)] at E | skip
        refine r_iconst (v := 0) C dX6_canBeAuto_18 (by decide) ?_
        exact r_iret C E dX6_canBeAuto_19 rfl (bo_nar (by first | exact Or.inl rfl | exact Or.inr rfl | assumption)).1 (by first | exact Nat.le_refl _ | exact Nat.le_of_ble_eq_true rfl | omega) (by first | exact Nat.le_refl _ | exact Nat.le_of_ble_eq_true rfl | omega)
      · first | rw [if_pos c_11] at E | rw [if_neg c_11] at E | rw [if_neg (fun z => z c_11)] at E | skip
        refine r_iconst (v := 1) C dX6_canBeAuto_14 (by decide) ?_
        refine r_goto (tgt := 19) C dX6_canBeAuto_15 (by decide) ?_
        exact r_iret C E dX6_canBeAuto_19 rfl (bo_nar (by first | exact Or.inl rfl | exact Or.inr rfl | assumption)).1 (by first | exact Nat.le_refl _ | exact Nat.le_of_ble_eq_true rfl | omega) (by first | exact Nat.le_refl _ | exact Nat.le_of_ble_eq_true rfl | omega)
theorem c_atFirst (l : Launch) (G : Gl) {h : Hp} {p : Nat} (hp : p < 14) : MRw l G yX6_atFirst (.code yX6_atFirst cX6_atFirst 1 (Option.some Jvm.ClassFile.FieldType.int)) 0 0 0 [.int (nI p)] h (.inl (some (.int (pAf p)), h)) := by
  refine mr_of (by decide +kernel) (Nat.le_of_ble_eq_true rfl) (ct1 (by first | rfl | exact isR_cat (isR_rf _))) (fun X hG hl C E => ?_)
  subst hG hl
  refine r_iload_n (i := 0) C dX6_atFirst_0 rfl rfl ?_
  refine r_if_lt (tgt := 18) C dX6_atFirst_1 (by decide) (fun c_1 => ?_) (fun c_1 => ?_)
  · exact absurd c_1 (nI_pos (by omega))
  · refine r_iload_n (i := 0) C dX6_atFirst_4 rfl rfl ?_
    refine r_bipush (v := 14) C dX6_atFirst_5 (by decide) ?_
    refine rn_ic_ge C p 14 rfl rfl (by omega) (by decide) (tgt := 18) dX6_atFirst_7 (by decide) (fun q => absurd q (by omega)) (fun _ => ?_)
    refine r_gs3 C dX6_atFirst_10 g_X6_18 ?_
    refine r_iload_n (i := 0) C dX6_atFirst_13 rfl rfl ?_
    refine r_p3ald C dX6_atFirst_14 rfl hp ?_
    refine r_goto (tgt := 19) C dX6_atFirst_15 (by decide) ?_
    exact r_iret C E dX6_atFirst_19 rfl rfl (by first | exact Nat.le_refl _ | exact Nat.le_of_ble_eq_true rfl | omega) (by first | exact Nat.le_refl _ | exact Nat.le_of_ble_eq_true rfl | omega)
theorem c_isInherited (l : Launch) (G : Gl) {h : Hp} {p : Int32} : MRw l G yX6_isInherited (.code yX6_isInherited cX6_isInherited 1 (Option.some Jvm.ClassFile.FieldType.boolean)) 0 0 0 [.int p] h (.inl (some (.int (if p < 8 then 0 else 1)), h)) := by
  refine mr_of (by decide +kernel) (Nat.le_of_ble_eq_true rfl) (ct1 (by first | rfl | exact isR_cat (isR_rf _))) (fun X hG hl C E => ?_)
  subst hG hl
  refine r_iload_n (i := 0) C dX6_isInherited_0 rfl rfl ?_
  refine r_bipush (v := 8) C dX6_isInherited_1 (by decide) ?_
  refine r_ic_lt (tgt := 10) C dX6_isInherited_3 (by decide) (fun c_3 => ?_) (fun c_3 => ?_)
  · first | rw [if_pos c_3] at E | rw [if_neg c_3] at E | rw [if_neg (fun z => z c_3)] at E | skip
    refine r_iconst (v := 0) C dX6_isInherited_10 (by decide) ?_
    exact r_iret C E dX6_isInherited_11 rfl (bo_nar (by first | exact Or.inl rfl | exact Or.inr rfl | assumption)).1 (by first | exact Nat.le_refl _ | exact Nat.le_of_ble_eq_true rfl | omega) (by first | exact Nat.le_refl _ | exact Nat.le_of_ble_eq_true rfl | omega)
  · first | rw [if_pos c_3] at E | rw [if_neg c_3] at E | rw [if_neg (fun z => z c_3)] at E | skip
    refine r_iconst (v := 1) C dX6_isInherited_6 (by decide) ?_
    refine r_goto (tgt := 11) C dX6_isInherited_7 (by decide) ?_
    exact r_iret C E dX6_isInherited_11 rfl (bo_nar (by first | exact Or.inl rfl | exact Or.inr rfl | assumption)).1 (by first | exact Nat.le_refl _ | exact Nat.le_of_ble_eq_true rfl | omega) (by first | exact Nat.le_refl _ | exact Nat.le_of_ble_eq_true rfl | omega)
/-! Part, Declaration -/
theorem c_partInit (l : Launch) (G : Gl) {h : Hp} {a : Nat} {x0 x1 x2 x3 : Int32} (hk : hK h a = 5) : MRw l G yX5_init (.code yX5_init cX5_init 5 none) 1 0 0 [.ref a, .int x0, .int x1, .int x2, .int x3] h (.inl (none, sI (sI (sI (sI h fP_way a x0) fP_tag a x1) fP_has a x2) fP_lacks a x3)) := by
  refine mr_of (by decide +kernel) (Nat.le_of_ble_eq_true rfl) (ct5 (by first | rfl | exact isR_cat (isR_rf _)) (by first | rfl | exact isR_cat (isR_rf _)) (by first | rfl | exact isR_cat (isR_rf _)) (by first | rfl | exact isR_cat (isR_rf _)) (by first | rfl | exact isR_cat (isR_rf _))) (fun X hG hl C E => ?_)
  subst hG hl
  have hN9 : meth_nm X = "<init>" := cx_nm C
  refine r_aload_n (i := 0) C dX5_init_0 rfl rfl (by first | rfl | exact isR_rf _) ?_
  refine r_oinit C dX5_init_1 (by first | exact Nat.le_refl _ | exact Nat.le_of_ble_eq_true rfl | omega) rfl (by decide) l_X5_3 w_oiM w_oiC ?_
  refine r_aload_n (i := 0) C dX5_init_4 rfl rfl (by first | rfl | exact isR_rf _) ?_
  refine r_iload_n (i := 1) C dX5_init_5 rfl rfl ?_
  refine r_putFI C f_X5_9 dX5_init_6 rfl rfl rfl hN9 rfl (by assumption) ?_
  refine r_aload_n (i := 0) C dX5_init_9 rfl rfl (by first | rfl | exact isR_rf _) ?_
  refine r_iload_n (i := 2) C dX5_init_10 rfl rfl ?_
  refine r_putFI C f_X5_15 dX5_init_11 rfl rfl rfl hN9 rfl (by assumption) ?_
  refine r_aload_n (i := 0) C dX5_init_14 rfl rfl (by first | rfl | exact isR_rf _) ?_
  refine r_iload_n (i := 3) C dX5_init_15 rfl rfl ?_
  refine r_putFI C f_X5_18 dX5_init_16 rfl rfl rfl hN9 rfl (by assumption) ?_
  refine r_aload_n (i := 0) C dX5_init_19 rfl rfl (by first | rfl | exact isR_rf _) ?_
  refine r_iload (i := 4) C dX5_init_20 rfl ?_
  refine r_putFI C f_X5_21 dX5_init_22 rfl rfl rfl hN9 rfl (by assumption) ?_
  exact r_vret C E dX5_init_25 rfl (by first | exact Nat.le_refl _ | exact Nat.le_of_ble_eq_true rfl | omega) (by first | exact Nat.le_refl _ | exact Nat.le_of_ble_eq_true rfl | omega)
theorem c_declInit (l : Launch) (G : Gl) {h : Hp} {a : Nat} {x0 x1 x2 : Int32} (hk : hK h a = 2) : MRw l G yX1_init (.code yX1_init cX1_init 4 none) 1 0 0 [.ref a, .int x0, .int x1, .int x2] h (.inl (none, sI (sI (sI h fD_kind a x0) fD_number a x1) fD_variable a x2)) := by
  refine mr_of (by decide +kernel) (Nat.le_of_ble_eq_true rfl) (ct4 (by first | rfl | exact isR_cat (isR_rf _)) (by first | rfl | exact isR_cat (isR_rf _)) (by first | rfl | exact isR_cat (isR_rf _)) (by first | rfl | exact isR_cat (isR_rf _))) (fun X hG hl C E => ?_)
  subst hG hl
  have hN9 : meth_nm X = "<init>" := cx_nm C
  refine r_aload_n (i := 0) C dX1_init_0 rfl rfl (by first | rfl | exact isR_rf _) ?_
  refine r_oinit C dX1_init_1 (by first | exact Nat.le_refl _ | exact Nat.le_of_ble_eq_true rfl | omega) rfl (by decide) l_X1_3 w_oiM w_oiC ?_
  refine r_aload_n (i := 0) C dX1_init_4 rfl rfl (by first | rfl | exact isR_rf _) ?_
  refine r_iload_n (i := 1) C dX1_init_5 rfl rfl ?_
  refine r_putFI C f_X1_9 dX1_init_6 rfl rfl rfl hN9 rfl (by assumption) ?_
  refine r_aload_n (i := 0) C dX1_init_9 rfl rfl (by first | rfl | exact isR_rf _) ?_
  refine r_iload_n (i := 2) C dX1_init_10 rfl rfl ?_
  refine r_putFI C f_X1_15 dX1_init_11 rfl rfl rfl hN9 rfl (by assumption) ?_
  refine r_aload_n (i := 0) C dX1_init_14 rfl rfl (by first | rfl | exact isR_rf _) ?_
  refine r_iload_n (i := 3) C dX1_init_15 rfl rfl ?_
  refine r_putFI C f_X1_18 dX1_init_16 rfl rfl rfl hN9 rfl (by assumption) ?_
  exact r_vret C E dX1_init_19 rfl (by first | exact Nat.le_refl _ | exact Nat.le_of_ble_eq_true rfl | omega) (by first | exact Nat.le_refl _ | exact Nat.le_of_ble_eq_true rfl | omega)
/-- an element is that of a part -/
def lik (h : Hp) (q e : Nat) : Prop := (hI h fP_tag q = -1 ∨ hI h fP_tag q = hI h fE_tag e) ∧ hI h fE_classes e &&& hI h fP_has q = hI h fP_has q ∧ hI h fE_classes e &&& hI h fP_lacks q = 0
theorem c_isLike (l : Launch) (G : Gl) {h : Hp} {q e : Nat} (hq : hK h q = 5) (he : hK h e = 3) : ∃ v : Int32, MRw l G yX5_isLike (.code yX5_isLike cX5_isLike 2 (Option.some Jvm.ClassFile.FieldType.boolean)) 0 0 0 [.ref q, .ref e] h (.inl (some (.int v), h)) ∧ (v = 1 ↔ lik h q e) ∧ (v = 0 ∨ v = 1) := by
  refine ⟨if hI h fP_tag q = -1 then (if ¬ hI h fE_classes e &&& hI h fP_has q = hI h fP_has q then 0 else if ¬ hI h fE_classes e &&& hI h fP_lacks q = 0 then 0 else 1) else if ¬ hI h fP_tag q = hI h fE_tag e then 0 else (if ¬ hI h fE_classes e &&& hI h fP_has q = hI h fP_has q then 0 else if ¬ hI h fE_classes e &&& hI h fP_lacks q = 0 then 0 else 1), ?_, ?_, ?_⟩
  · refine mr_of (by decide +kernel) (Nat.le_of_ble_eq_true rfl) (ct2 (by first | rfl | exact isR_cat (isR_rf _)) (by first | rfl | exact isR_cat (isR_rf _))) (fun X hG hl C E => ?_)
    subst hG hl
    refine r_aload_n (i := 0) C dX5_isLike_0 rfl rfl (by first | rfl | exact isR_rf _) ?_
    refine r_getI C f_X5_15 dX5_isLike_1 rfl (by assumption) ?_
    refine r_iconst (v := (-1)) C dX5_isLike_4 (by decide) ?_
    refine r_ic_eq (tgt := 19) C dX5_isLike_5 (by decide) (fun c_5 => ?_) (fun c_5 => ?_)
    · first | rw [if_pos c_5] at E | rw [if_neg c_5] at E | rw [if_neg (fun z => z c_5)] at E | skip
      refine r_aload_n (i := 1) C dX5_isLike_19 rfl rfl (by first | rfl | exact isR_rf _) ?_
      refine r_getI C f_X5_27 dX5_isLike_20 rfl (by assumption) ?_
      refine r_aload_n (i := 0) C dX5_isLike_23 rfl rfl (by first | rfl | exact isR_rf _) ?_
      refine r_getI C f_X5_18 dX5_isLike_24 rfl (by assumption) ?_
      refine r_iand C dX5_isLike_27 ?_
      refine r_aload_n (i := 0) C dX5_isLike_28 rfl rfl (by first | rfl | exact isR_rf _) ?_
      refine r_getI C f_X5_18 dX5_isLike_29 rfl (by assumption) ?_
      refine r_ic_ne (tgt := 51) C dX5_isLike_32 (by decide) (fun c_32 => ?_) (fun c_32 => ?_)
      · first | rw [if_pos c_32] at E | rw [if_neg c_32] at E | rw [if_neg (fun z => z c_32)] at E | skip
        refine r_iconst (v := 0) C dX5_isLike_51 (by decide) ?_
        exact r_iret C E dX5_isLike_52 rfl (bo_nar (by first | exact Or.inl rfl | exact Or.inr rfl | assumption)).1 (by first | exact Nat.le_refl _ | exact Nat.le_of_ble_eq_true rfl | omega) (by first | exact Nat.le_refl _ | exact Nat.le_of_ble_eq_true rfl | omega)
      · first | rw [if_pos c_32] at E | rw [if_neg c_32] at E | rw [if_neg (fun z => z c_32)] at E | skip
        refine r_aload_n (i := 1) C dX5_isLike_35 rfl rfl (by first | rfl | exact isR_rf _) ?_
        refine r_getI C f_X5_27 dX5_isLike_36 rfl (by assumption) ?_
        refine r_aload_n (i := 0) C dX5_isLike_39 rfl rfl (by first | rfl | exact isR_rf _) ?_
        refine r_getI C f_X5_21 dX5_isLike_40 rfl (by assumption) ?_
        refine r_iand C dX5_isLike_43 ?_
        refine r_if_ne (tgt := 51) C dX5_isLike_44 (by decide) (fun c_44 => ?_) (fun c_44 => ?_)
        · first | rw [if_pos c_44] at E | rw [if_neg c_44] at E | rw [if_neg (fun z => z c_44)] at E | skip
          refine r_iconst (v := 0) C dX5_isLike_51 (by decide) ?_
          exact r_iret C E dX5_isLike_52 rfl (bo_nar (by first | exact Or.inl rfl | exact Or.inr rfl | assumption)).1 (by first | exact Nat.le_refl _ | exact Nat.le_of_ble_eq_true rfl | omega) (by first | exact Nat.le_refl _ | exact Nat.le_of_ble_eq_true rfl | omega)
        · first | rw [if_pos c_44] at E | rw [if_neg c_44] at E | rw [if_neg (fun z => z c_44)] at E | skip
          refine r_iconst (v := 1) C dX5_isLike_47 (by decide) ?_
          refine r_goto (tgt := 52) C dX5_isLike_48 (by decide) ?_
          exact r_iret C E dX5_isLike_52 rfl (bo_nar (by first | exact Or.inl rfl | exact Or.inr rfl | assumption)).1 (by first | exact Nat.le_refl _ | exact Nat.le_of_ble_eq_true rfl | omega) (by first | exact Nat.le_refl _ | exact Nat.le_of_ble_eq_true rfl | omega)
    · first | rw [if_pos c_5] at E | rw [if_neg c_5] at E | rw [if_neg (fun z => z c_5)] at E | skip
      refine r_aload_n (i := 0) C dX5_isLike_8 rfl rfl (by first | rfl | exact isR_rf _) ?_
      refine r_getI C f_X5_15 dX5_isLike_9 rfl (by assumption) ?_
      refine r_aload_n (i := 1) C dX5_isLike_12 rfl rfl (by first | rfl | exact isR_rf _) ?_
      refine r_getI C f_X5_24 dX5_isLike_13 rfl (by assumption) ?_
      refine r_ic_ne (tgt := 51) C dX5_isLike_16 (by decide) (fun c_16 => ?_) (fun c_16 => ?_)
      · first | rw [if_pos c_16] at E | rw [if_neg c_16] at E | rw [if_neg (fun z => z c_16)] at E | skip
        refine r_iconst (v := 0) C dX5_isLike_51 (by decide) ?_
        exact r_iret C E dX5_isLike_52 rfl (bo_nar (by first | exact Or.inl rfl | exact Or.inr rfl | assumption)).1 (by first | exact Nat.le_refl _ | exact Nat.le_of_ble_eq_true rfl | omega) (by first | exact Nat.le_refl _ | exact Nat.le_of_ble_eq_true rfl | omega)
      · first | rw [if_pos c_16] at E | rw [if_neg c_16] at E | rw [if_neg (fun z => z c_16)] at E | skip
        refine r_aload_n (i := 1) C dX5_isLike_19 rfl rfl (by first | rfl | exact isR_rf _) ?_
        refine r_getI C f_X5_27 dX5_isLike_20 rfl (by assumption) ?_
        refine r_aload_n (i := 0) C dX5_isLike_23 rfl rfl (by first | rfl | exact isR_rf _) ?_
        refine r_getI C f_X5_18 dX5_isLike_24 rfl (by assumption) ?_
        refine r_iand C dX5_isLike_27 ?_
        refine r_aload_n (i := 0) C dX5_isLike_28 rfl rfl (by first | rfl | exact isR_rf _) ?_
        refine r_getI C f_X5_18 dX5_isLike_29 rfl (by assumption) ?_
        refine r_ic_ne (tgt := 51) C dX5_isLike_32 (by decide) (fun c_32 => ?_) (fun c_32 => ?_)
        · first | rw [if_pos c_32] at E | rw [if_neg c_32] at E | rw [if_neg (fun z => z c_32)] at E | skip
          refine r_iconst (v := 0) C dX5_isLike_51 (by decide) ?_
          exact r_iret C E dX5_isLike_52 rfl (bo_nar (by first | exact Or.inl rfl | exact Or.inr rfl | assumption)).1 (by first | exact Nat.le_refl _ | exact Nat.le_of_ble_eq_true rfl | omega) (by first | exact Nat.le_refl _ | exact Nat.le_of_ble_eq_true rfl | omega)
        · first | rw [if_pos c_32] at E | rw [if_neg c_32] at E | rw [if_neg (fun z => z c_32)] at E | skip
          refine r_aload_n (i := 1) C dX5_isLike_35 rfl rfl (by first | rfl | exact isR_rf _) ?_
          refine r_getI C f_X5_27 dX5_isLike_36 rfl (by assumption) ?_
          refine r_aload_n (i := 0) C dX5_isLike_39 rfl rfl (by first | rfl | exact isR_rf _) ?_
          refine r_getI C f_X5_21 dX5_isLike_40 rfl (by assumption) ?_
          refine r_iand C dX5_isLike_43 ?_
          refine r_if_ne (tgt := 51) C dX5_isLike_44 (by decide) (fun c_44 => ?_) (fun c_44 => ?_)
          · first | rw [if_pos c_44] at E | rw [if_neg c_44] at E | rw [if_neg (fun z => z c_44)] at E | skip
            refine r_iconst (v := 0) C dX5_isLike_51 (by decide) ?_
            exact r_iret C E dX5_isLike_52 rfl (bo_nar (by first | exact Or.inl rfl | exact Or.inr rfl | assumption)).1 (by first | exact Nat.le_refl _ | exact Nat.le_of_ble_eq_true rfl | omega) (by first | exact Nat.le_refl _ | exact Nat.le_of_ble_eq_true rfl | omega)
          · first | rw [if_pos c_44] at E | rw [if_neg c_44] at E | rw [if_neg (fun z => z c_44)] at E | skip
            refine r_iconst (v := 1) C dX5_isLike_47 (by decide) ?_
            refine r_goto (tgt := 52) C dX5_isLike_48 (by decide) ?_
            exact r_iret C E dX5_isLike_52 rfl (bo_nar (by first | exact Or.inl rfl | exact Or.inr rfl | assumption)).1 (by first | exact Nat.le_refl _ | exact Nat.le_of_ble_eq_true rfl | omega) (by first | exact Nat.le_refl _ | exact Nat.le_of_ble_eq_true rfl | omega)
  · unfold lik
    split <;> (try split) <;> (try split) <;> (try split) <;> simp_all
  · split <;> (try split) <;> (try split) <;> (try split) <;> simp
