/-! ===== Rule ===== -/
theorem v01 (R : Prop) : ∃ v : Int32, (v = 1 ↔ R) ∧ (v = 0 ∨ v = 1) := by
  by_cases c : R
  · exact ⟨1, ⟨fun _ => c, fun _ => rfl⟩, Or.inr rfl⟩
  · exact ⟨0, ⟨fun z => absurd z (by decide), fun z => absurd z c⟩, Or.inl rfl⟩
theorem v01_1 {v : Int32} {R : Prop} (h : v = 1 ↔ R) (r : R) : v = 1 := h.mpr r
theorem v01_0 {v : Int32} {R : Prop} (h : v = 1 ↔ R) (k : v = 0 ∨ v = 1) (r : ¬ R) : v = 0 := k.resolve_right fun z => r (h.mp z)
theorem v01_n {v : Int32} {R : Prop} (h : v = 1 ↔ R) (c : v = 0) : ¬ R := fun r => by rw [h.mpr r] at c; exact absurd c (by decide)
theorem v01_y {v : Int32} {R : Prop} (h : v = 1 ↔ R) (k : v = 0 ∨ v = 1) (c : ¬ v = 0) : R := h.mp (k.resolve_left c)
def gpO (o y b : Int32) : Int32 := if b = 0 then (if o = 1 then 3 else 0) + y else 4 * 3 - 1 - ((if o = 1 then 3 else 0) + y)
theorem c_groupOf (l : Launch) (G : Gl) {h : Hp} {o y b : Int32} : MRw l G yX7_groupOf (.code yX7_groupOf cX7_groupOf 5 (Option.some Jvm.ClassFile.FieldType.int)) 0 0 0 [.int o, .int y, .int b] h (.inl (some (.int (gpO o y b)), h)) := by
  refine mr_of (by decide +kernel) (Nat.le_of_ble_eq_true rfl) (ct3 (by first | rfl | exact isR_cat (isR_rf _)) (by first | rfl | exact isR_cat (isR_rf _)) (by first | rfl | exact isR_cat (isR_rf _))) (fun X hG hl C E => ?_)
  subst hG hl
  unfold gpO at E
  refine r_iconst (v := 3) C dX7_groupOf_0 (by decide) ?_
  refine r_istore_n (i := 3) C dX7_groupOf_1 rfl (Nat.le_of_ble_eq_true rfl) ?_
  refine r_iload_n (i := 0) C dX7_groupOf_2 rfl rfl ?_
  refine r_iconst (v := 1) C dX7_groupOf_3 (by decide) ?_
  refine r_ic_ne (tgt := 11) C dX7_groupOf_4 (by decide) (fun c_4 => ?_) (fun c_4 => ?_)
  · first | rw [if_pos c_4] at E | rw [if_neg c_4] at E | rw [if_neg (fun z => z c_4)] at E | skip
    refine r_iconst (v := 0) C dX7_groupOf_11 (by decide) ?_
    refine r_iload_n (i := 1) C dX7_groupOf_12 rfl rfl ?_
    refine r_iadd C dX7_groupOf_13 ?_
    refine r_istore (i := 4) C dX7_groupOf_14 (Nat.le_of_ble_eq_true rfl) ?_
    refine r_iload_n (i := 2) C dX7_groupOf_16 rfl rfl ?_
    refine r_if_eq (tgt := 31) C dX7_groupOf_17 (by decide) (fun c_17 => ?_) (fun c_17 => ?_)
    · first | rw [if_pos c_17] at E | rw [if_neg c_17] at E | rw [if_neg (fun z => z c_17)] at E | skip
      refine r_iload (i := 4) C dX7_groupOf_31 rfl ?_
      exact r_iret C E dX7_groupOf_33 rfl rfl (by first | exact Nat.le_refl _ | exact Nat.le_of_ble_eq_true rfl | omega) (by first | exact Nat.le_refl _ | exact Nat.le_of_ble_eq_true rfl | omega)
    · first | rw [if_pos c_17] at E | rw [if_neg c_17] at E | rw [if_neg (fun z => z c_17)] at E | skip
      refine r_iconst (v := 4) C dX7_groupOf_20 (by decide) ?_
      refine r_iload_n (i := 3) C dX7_groupOf_21 rfl rfl ?_
      refine r_imul C dX7_groupOf_22 ?_
      refine r_iconst (v := 1) C dX7_groupOf_23 (by decide) ?_
      refine r_isub C dX7_groupOf_24 ?_
      refine r_iload (i := 4) C dX7_groupOf_25 rfl ?_
      refine r_isub C dX7_groupOf_27 ?_
      refine r_goto (tgt := 33) C dX7_groupOf_28 (by decide) ?_
      exact r_iret C E dX7_groupOf_33 rfl rfl (by first | exact Nat.le_refl _ | exact Nat.le_of_ble_eq_true rfl | omega) (by first | exact Nat.le_refl _ | exact Nat.le_of_ble_eq_true rfl | omega)
  · first | rw [if_pos c_4] at E | rw [if_neg c_4] at E | rw [if_neg (fun z => z c_4)] at E | skip
    refine r_iload_n (i := 3) C dX7_groupOf_7 rfl rfl ?_
    refine r_goto (tgt := 12) C dX7_groupOf_8 (by decide) ?_
    refine r_iload_n (i := 1) C dX7_groupOf_12 rfl rfl ?_
    refine r_iadd C dX7_groupOf_13 ?_
    refine r_istore (i := 4) C dX7_groupOf_14 (Nat.le_of_ble_eq_true rfl) ?_
    refine r_iload_n (i := 2) C dX7_groupOf_16 rfl rfl ?_
    refine r_if_eq (tgt := 31) C dX7_groupOf_17 (by decide) (fun c_17 => ?_) (fun c_17 => ?_)
    · first | rw [if_pos c_17] at E | rw [if_neg c_17] at E | rw [if_neg (fun z => z c_17)] at E | skip
      refine r_iload (i := 4) C dX7_groupOf_31 rfl ?_
      exact r_iret C E dX7_groupOf_33 rfl rfl (by first | exact Nat.le_refl _ | exact Nat.le_of_ble_eq_true rfl | omega) (by first | exact Nat.le_refl _ | exact Nat.le_of_ble_eq_true rfl | omega)
    · first | rw [if_pos c_17] at E | rw [if_neg c_17] at E | rw [if_neg (fun z => z c_17)] at E | skip
      refine r_iconst (v := 4) C dX7_groupOf_20 (by decide) ?_
      refine r_iload_n (i := 3) C dX7_groupOf_21 rfl rfl ?_
      refine r_imul C dX7_groupOf_22 ?_
      refine r_iconst (v := 1) C dX7_groupOf_23 (by decide) ?_
      refine r_isub C dX7_groupOf_24 ?_
      refine r_iload (i := 4) C dX7_groupOf_25 rfl ?_
      refine r_isub C dX7_groupOf_27 ?_
      refine r_goto (tgt := 33) C dX7_groupOf_28 (by decide) ?_
      exact r_iret C E dX7_groupOf_33 rfl rfl (by first | exact Nat.le_refl _ | exact Nat.le_of_ble_eq_true rfl | omega) (by first | exact Nat.le_refl _ | exact Nat.le_of_ble_eq_true rfl | omega)
def UD (h : Hp) (r D : Nat) : Prop := hK h r = 6 ∧ hR h fU_declarations r = some D ∧ hK h D = 105 ∧ hL h D = 14
/-- a new list -/
def nls (h : Hp) (a : Nat) : Hp := sR (sI h fA_modCount a 0) fA_elementData a (some 4)
theorem c_ruleInit (l : Launch) (G : Gl) {h : Hp} {r : Nat} {n o y b : Int32} (hk : hK h r = 6) (hr : r < hN h) : MRw l G yX7_init (.code yX7_init cX7_init 5 none) 4 2 17 [.ref r, .int n, .int o, .int y, .int b] h
    (.inl (none, sI (sI (sI (sR (nw (sR (nls (nw h 0 0) (hN h)) fU_parts r (some (hN h))) 105 14) fU_declarations r (some (hN h + 1))) fU_least r (-1)) fU_number r n) fU_group r (gpO o y b))) := by
  refine mr_of (by decide +kernel) (Nat.le_of_ble_eq_true rfl) (ct5 (by first | rfl | exact isR_cat (isR_rf _)) (by first | rfl | exact isR_cat (isR_rf _)) (by first | rfl | exact isR_cat (isR_rf _)) (by first | rfl | exact isR_cat (isR_rf _)) (by first | rfl | exact isR_cat (isR_rf _))) (fun X hG hl C E => ?_)
  subst hG hl
  have hN9 : meth_nm X = "<init>" := cx_nm C
  refine r_aload_n (i := 0) C dX7_init_0 rfl rfl (by first | rfl | exact isR_rf _) ?_
  refine r_oinit C dX7_init_1 (by first | exact Nat.le_refl _ | exact Nat.le_of_ble_eq_true rfl | omega) rfl (by decide) l_X7_3 w_oiM w_oiC ?_
  refine r_aload_n (i := 0) C dX7_init_4 rfl rfl (by first | rfl | exact isR_rf _) ?_
  refine r_new C n_X7_9 dX7_init_5 (by first | exact Nat.le_refl _ | exact Nat.le_of_ble_eq_true rfl | omega) (by first | exact Nat.le_refl _ | exact Nat.le_of_ble_eq_true rfl | omega) ?_
  refine r_dup C (by first | rfl | exact isR_cat (isR_rf _)) dX7_init_8 ?_
  refine r_callI C i_X7_11 (c_listInit _ _ (h := nw h 0 0) (a := hN h) (va_up_self _ _ _)) dX7_init_9 (As := []) rfl rfl rfl (by first | exact Nat.le_refl _ | exact Nat.le_of_ble_eq_true rfl | omega) (Nat.le_of_ble_eq_true rfl) (by first | exact Nat.le_refl _ | exact Nat.le_of_ble_eq_true rfl | omega) (by first | exact Nat.le_refl _ | exact Nat.le_of_ble_eq_true rfl | omega) ?_
  have hk1 : hK (nls (nw h 0 0) (hN h)) r = 6 := by show va_up (hK h) (hN h) 0 r = 6; rw [va_up_ne _ _ (by omega)]; exact hk
  change wr X 1 3 12 _ _ (nls (nw h 0 0) (hN h))
  first | refine r_putFR (o := some _) C f_X7_12 dX7_init_12 rfl hN9 rfl (by assumption) ?_ | refine r_putFR (o := none) C f_X7_12 dX7_init_12 rfl hN9 rfl (by assumption) ?_ | refine r_putFR C f_X7_12 dX7_init_12 rfl hN9 rfl (by assumption) ?_
  refine r_aload_n (i := 0) C dX7_init_15 rfl rfl (by first | rfl | exact isR_rf _) ?_
  refine r_bipush (v := 14) C dX7_init_16 (by decide) ?_
  refine r_newq (t := 2) (j := 14) C dX7_init_18 rfl (by decide) (by decide) c_X7_18 (by decide) (by decide) ?_
  have hk2 : hK (nw (sR (nls (nw h 0 0) (hN h)) fU_parts r (some (hN h))) (103 + 2) 14) r = 6 := by
    show va_up (va_up (hK h) (hN h) 0) (hN h + 1) 105 r = 6
    rw [va_up_ne _ _ (by omega), va_up_ne _ _ (by omega)]; exact hk
  first | refine r_putFR (o := some _) C f_X7_20 dX7_init_21 rfl hN9 rfl (by assumption) ?_ | refine r_putFR (o := none) C f_X7_20 dX7_init_21 rfl hN9 rfl (by assumption) ?_ | refine r_putFR C f_X7_20 dX7_init_21 rfl hN9 rfl (by assumption) ?_
  refine r_aload_n (i := 0) C dX7_init_24 rfl rfl (by first | rfl | exact isR_rf _) ?_
  refine r_iconst (v := (-1)) C dX7_init_25 (by decide) ?_
  refine r_putI C f_X7_24 dX7_init_26 rfl rfl rfl (by assumption) ?_
  refine r_aload_n (i := 0) C dX7_init_29 rfl rfl (by first | rfl | exact isR_rf _) ?_
  refine r_iload_n (i := 1) C dX7_init_30 rfl rfl ?_
  refine r_putFI C f_X7_28 dX7_init_31 rfl rfl rfl hN9 rfl (by assumption) ?_
  refine r_aload_n (i := 0) C dX7_init_34 rfl rfl (by first | rfl | exact isR_rf _) ?_
  refine r_iload_n (i := 2) C dX7_init_35 rfl rfl ?_
  refine r_iload_n (i := 3) C dX7_init_36 rfl rfl ?_
  refine r_iload (i := 4) C dX7_init_37 rfl ?_
  refine r_callSs C s_X7_31 (c_groupOf _ _) dX7_init_39 (As := [_, _, _]) rfl rfl rfl (by first | exact Nat.le_refl _ | exact Nat.le_of_ble_eq_true rfl | omega) (Nat.le_of_ble_eq_true rfl) (by first | exact Nat.le_refl _ | exact Nat.le_of_ble_eq_true rfl | omega) (by first | exact Nat.le_refl _ | exact Nat.le_of_ble_eq_true rfl | omega) ?_
  refine r_putFI C f_X7_35 dX7_init_42 rfl rfl rfl hN9 rfl (by assumption) ?_
  exact r_vret C E dX7_init_45 rfl (by first | exact Nat.le_refl _ | exact Nat.le_of_ble_eq_true rfl | omega) (by first | exact Nat.le_refl _ | exact Nat.le_of_ble_eq_true rfl | omega)
/-- the rule r is stronger than q -/
def sTr (h : Hp) (r q : Nat) : Prop := if hI h fU_group r = hI h fU_group q then (if hI h fU_weightInAll r = hI h fU_weightInAll q then hI h fU_number q < hI h fU_number r else hI h fU_weightInAll q < hI h fU_weightInAll r) else hI h fU_group q < hI h fU_group r
theorem c_isStronger (l : Launch) (G : Gl) {h : Hp} {r q : Nat} (hr : hK h r = 6) (hq : hK h q = 6) : ∃ v : Int32, MRw l G yX7_isStrongerThan (.code yX7_isStrongerThan cX7_isStrongerThan 2 (Option.some Jvm.ClassFile.FieldType.boolean)) 0 0 0 [.ref r, .ref q] h (.inl (some (.int v), h)) ∧ (v = 1 ↔ sTr h r q) ∧ (v = 0 ∨ v = 1) := by
  refine ⟨if hI h fU_group r = hI h fU_group q then (if hI h fU_weightInAll r = hI h fU_weightInAll q then (if hI h fU_number r ≤ hI h fU_number q then 0 else 1) else (if hI h fU_weightInAll r ≤ hI h fU_weightInAll q then 0 else 1)) else (if hI h fU_group r ≤ hI h fU_group q then 0 else 1), ?_, ?_, ?_⟩
  · refine mr_of (by decide +kernel) (Nat.le_of_ble_eq_true rfl) (ct2 (by first | rfl | exact isR_cat (isR_rf _)) (by first | rfl | exact isR_cat (isR_rf _))) (fun X hG hl C E => ?_)
    subst hG hl
    refine r_aload_n (i := 0) C dX7_isStrongerThan_0 rfl rfl (by first | rfl | exact isR_rf _) ?_
    refine r_getI C f_X7_35 dX7_isStrongerThan_1 rfl (by assumption) ?_
    refine r_aload_n (i := 1) C dX7_isStrongerThan_4 rfl rfl (by first | rfl | exact isR_rf _) ?_
    refine r_getI C f_X7_35 dX7_isStrongerThan_5 rfl (by assumption) ?_
    refine r_ic_eq (tgt := 28) C dX7_isStrongerThan_8 (by decide) (fun c_8 => ?_) (fun c_8 => ?_)
    · first | rw [if_pos c_8] at E | rw [if_neg c_8] at E | rw [if_neg (fun z => z c_8)] at E | skip
      refine r_aload_n (i := 0) C dX7_isStrongerThan_28 rfl rfl (by first | rfl | exact isR_rf _) ?_
      refine r_getI C f_X7_38 dX7_isStrongerThan_29 rfl (by assumption) ?_
      refine r_aload_n (i := 1) C dX7_isStrongerThan_32 rfl rfl (by first | rfl | exact isR_rf _) ?_
      refine r_getI C f_X7_38 dX7_isStrongerThan_33 rfl (by assumption) ?_
      refine r_ic_eq (tgt := 56) C dX7_isStrongerThan_36 (by decide) (fun c_36 => ?_) (fun c_36 => ?_)
      · first | rw [if_pos c_36] at E | rw [if_neg c_36] at E | rw [if_neg (fun z => z c_36)] at E | skip
        refine r_aload_n (i := 0) C dX7_isStrongerThan_56 rfl rfl (by first | rfl | exact isR_rf _) ?_
        refine r_getI C f_X7_28 dX7_isStrongerThan_57 rfl (by assumption) ?_
        refine r_aload_n (i := 1) C dX7_isStrongerThan_60 rfl rfl (by first | rfl | exact isR_rf _) ?_
        refine r_getI C f_X7_28 dX7_isStrongerThan_61 rfl (by assumption) ?_
        refine r_ic_le (tgt := 71) C dX7_isStrongerThan_64 (by decide) (fun c_64 => ?_) (fun c_64 => ?_)
        · first | rw [if_pos c_64] at E | rw [if_neg c_64] at E | rw [if_neg (fun z => z c_64)] at E | skip
          refine r_iconst (v := 0) C dX7_isStrongerThan_71 (by decide) ?_
          exact r_iret C E dX7_isStrongerThan_72 rfl (bo_nar (by first | exact Or.inl rfl | exact Or.inr rfl | assumption)).1 (by first | exact Nat.le_refl _ | exact Nat.le_of_ble_eq_true rfl | omega) (by first | exact Nat.le_refl _ | exact Nat.le_of_ble_eq_true rfl | omega)
        · first | rw [if_pos c_64] at E | rw [if_neg c_64] at E | rw [if_neg (fun z => z c_64)] at E | skip
          refine r_iconst (v := 1) C dX7_isStrongerThan_67 (by decide) ?_
          refine r_goto (tgt := 72) C dX7_isStrongerThan_68 (by decide) ?_
          exact r_iret C E dX7_isStrongerThan_72 rfl (bo_nar (by first | exact Or.inl rfl | exact Or.inr rfl | assumption)).1 (by first | exact Nat.le_refl _ | exact Nat.le_of_ble_eq_true rfl | omega) (by first | exact Nat.le_refl _ | exact Nat.le_of_ble_eq_true rfl | omega)
      · first | rw [if_pos c_36] at E | rw [if_neg c_36] at E | rw [if_neg (fun z => z c_36)] at E | skip
        refine r_aload_n (i := 0) C dX7_isStrongerThan_39 rfl rfl (by first | rfl | exact isR_rf _) ?_
        refine r_getI C f_X7_38 dX7_isStrongerThan_40 rfl (by assumption) ?_
        refine r_aload_n (i := 1) C dX7_isStrongerThan_43 rfl rfl (by first | rfl | exact isR_rf _) ?_
        refine r_getI C f_X7_38 dX7_isStrongerThan_44 rfl (by assumption) ?_
        refine r_ic_le (tgt := 54) C dX7_isStrongerThan_47 (by decide) (fun c_47 => ?_) (fun c_47 => ?_)
        · first | rw [if_pos c_47] at E | rw [if_neg c_47] at E | rw [if_neg (fun z => z c_47)] at E | skip
          refine r_iconst (v := 0) C dX7_isStrongerThan_54 (by decide) ?_
          exact r_iret C E dX7_isStrongerThan_55 rfl (bo_nar (by first | exact Or.inl rfl | exact Or.inr rfl | assumption)).1 (by first | exact Nat.le_refl _ | exact Nat.le_of_ble_eq_true rfl | omega) (by first | exact Nat.le_refl _ | exact Nat.le_of_ble_eq_true rfl | omega)
        · first | rw [if_pos c_47] at E | rw [if_neg c_47] at E | rw [if_neg (fun z => z c_47)] at E | skip
          refine r_iconst (v := 1) C dX7_isStrongerThan_50 (by decide) ?_
          refine r_goto (tgt := 55) C dX7_isStrongerThan_51 (by decide) ?_
          exact r_iret C E dX7_isStrongerThan_55 rfl (bo_nar (by first | exact Or.inl rfl | exact Or.inr rfl | assumption)).1 (by first | exact Nat.le_refl _ | exact Nat.le_of_ble_eq_true rfl | omega) (by first | exact Nat.le_refl _ | exact Nat.le_of_ble_eq_true rfl | omega)
    · first | rw [if_pos c_8] at E | rw [if_neg c_8] at E | rw [if_neg (fun z => z c_8)] at E | skip
      refine r_aload_n (i := 0) C dX7_isStrongerThan_11 rfl rfl (by first | rfl | exact isR_rf _) ?_
      refine r_getI C f_X7_35 dX7_isStrongerThan_12 rfl (by assumption) ?_
      refine r_aload_n (i := 1) C dX7_isStrongerThan_15 rfl rfl (by first | rfl | exact isR_rf _) ?_
      refine r_getI C f_X7_35 dX7_isStrongerThan_16 rfl (by assumption) ?_
      refine r_ic_le (tgt := 26) C dX7_isStrongerThan_19 (by decide) (fun c_19 => ?_) (fun c_19 => ?_)
      · first | rw [if_pos c_19] at E | rw [if_neg c_19] at E | rw [if_neg (fun z => z c_19)] at E | skip
        refine r_iconst (v := 0) C dX7_isStrongerThan_26 (by decide) ?_
        exact r_iret C E dX7_isStrongerThan_27 rfl (bo_nar (by first | exact Or.inl rfl | exact Or.inr rfl | assumption)).1 (by first | exact Nat.le_refl _ | exact Nat.le_of_ble_eq_true rfl | omega) (by first | exact Nat.le_refl _ | exact Nat.le_of_ble_eq_true rfl | omega)
      · first | rw [if_pos c_19] at E | rw [if_neg c_19] at E | rw [if_neg (fun z => z c_19)] at E | skip
        refine r_iconst (v := 1) C dX7_isStrongerThan_22 (by decide) ?_
        refine r_goto (tgt := 27) C dX7_isStrongerThan_23 (by decide) ?_
        exact r_iret C E dX7_isStrongerThan_27 rfl (bo_nar (by first | exact Or.inl rfl | exact Or.inr rfl | assumption)).1 (by first | exact Nat.le_refl _ | exact Nat.le_of_ble_eq_true rfl | omega) (by first | exact Nat.le_refl _ | exact Nat.le_of_ble_eq_true rfl | omega)
  · unfold sTr
    split <;> (try split) <;> (try split) <;> simp_all
  · split <;> (try split) <;> (try split) <;> simp
theorem c_partCount (l : Launch) (G : Gl) {h : Hp} {r P : Nat} (hr : hK h r = 6) (hP : hR h fU_parts r = some P) (hk : hK h P = 0) : MRw l G yX7_partCount (.code yX7_partCount cX7_partCount 1 (Option.some Jvm.ClassFile.FieldType.int)) 1 0 0 [.ref r] h (.inl (some (.int (hI h fA_size P)), h)) := by
  refine mr_of (by decide +kernel) (Nat.le_of_ble_eq_true rfl) (ct1 (by first | rfl | exact isR_cat (isR_rf _))) (fun X hG hl C E => ?_)
  subst hG hl
  refine r_aload_n (i := 0) C dX7_partCount_0 rfl rfl (by first | rfl | exact isR_rf _) ?_
  refine r_getR C f_X7_12 dX7_partCount_1 rfl (by assumption) ?_
  rw [hP]
  refine r_callVs C v_X7_41 (c_size _ _ hk) dX7_partCount_4 (by assumption) (ci := 0) (by decide) rfl rfl (As := []) rfl rfl rfl (by first | exact Nat.le_refl _ | exact Nat.le_of_ble_eq_true rfl | omega) (Nat.le_of_ble_eq_true rfl) (by first | exact Nat.le_refl _ | exact Nat.le_of_ble_eq_true rfl | omega) (by first | exact Nat.le_refl _ | exact Nat.le_of_ble_eq_true rfl | omega) ?_
  exact r_iret C E dX7_partCount_7 rfl rfl (by first | exact Nat.le_refl _ | exact Nat.le_of_ble_eq_true rfl | omega) (by first | exact Nat.le_refl _ | exact Nat.le_of_ble_eq_true rfl | omega)
theorem c_ruleAppend (l : Launch) (G : Gl) {h : Hp} {r P d q : Nat} {ps : List Nat} (hg : Good h) (hr : hK h r = 6) (hP : hR h fU_parts r = some P) (hAL : AL h P d ps) (hx : ps.length ≤ 39) (hek : ∀ x ∈ ps, hK h x = 5) (hq : hK h q = 5) :
    ∃ (h' : Hp) (d' : Nat), MRw l G yX7_append (.code yX7_append cX7_append 2 none) 7 1 60 [.ref r, .ref q] h (.inl (none, sI h' fU_weightInAll r (hI h fU_weightInAll r + wei h q))) ∧ AL h' P d' (ps ++ [q]) ∧ ALf h h' P d d' ∧ Good h' := by
  have hkP := hAL.1
  obtain ⟨h', d', c, M, H1, H2, H3, H4⟩ := c_add l G hg hAL hx LK5 hek hq
  have hc := AC_le H3
  refine ⟨h', d', ?_, H1, H2, H4⟩
  obtain ⟨f1, f2, f3, f4, f5, f6, f7, f8⟩ := H2
  have hkr : ∀ a, hK h a ≠ 999 → hK h' a = hK h a := by
    intro a ha
    rcases f1 with ⟨-, -, e, -⟩ | ⟨-, -, e, -⟩
    · rw [e]
    · rw [e]
      exact va_up_ne _ _ (fun z => ha (by rw [z]; exact (hg.2.2.1 _ (Nat.le_refl _)).1))
  have hr' : hK h' r = 6 := (hkr r (by rw [hr]; decide)).trans hr
  have hq' : hK h' q = 5 := (hkr q (by rw [hq]; decide)).trans hq
  have e1 : hI h' fU_weightInAll = hI h fU_weightInAll := f2 _ (by decide) (by decide)
  have e2 : wei h' q = wei h q := by
    unfold wei
    rw [f2 fP_has (by decide) (by decide), f2 fP_lacks (by decide) (by decide), f2 fP_tag (by decide) (by decide)]
  refine mr_of (by decide +kernel) (Nat.le_of_ble_eq_true rfl) (ct2 (by first | rfl | exact isR_cat (isR_rf _)) (by first | rfl | exact isR_cat (isR_rf _))) (fun X hG hl C E => ?_)
  subst hG hl
  refine r_aload_n (i := 0) C dX7_append_0 rfl rfl (by first | rfl | exact isR_rf _) ?_
  refine r_getR C f_X7_12 dX7_append_1 rfl (by assumption) ?_
  rw [hP]
  refine r_aload_n (i := 1) C dX7_append_4 rfl rfl (by first | rfl | exact isR_rf _) ?_
  refine r_callVs C v_X7_45 M dX7_append_5 (by assumption) (ci := 0) (by decide) rfl rfl (As := [_]) rfl rfl rfl (by first | exact Nat.le_refl _ | exact Nat.le_of_ble_eq_true rfl | omega) (Nat.le_of_ble_eq_true rfl) (by first | exact Nat.le_refl _ | exact Nat.le_of_ble_eq_true rfl | omega) (by first | exact Nat.le_refl _ | exact Nat.le_of_ble_eq_true rfl | omega) ?_
  refine r_pop C (by first | rfl | exact isR_cat (isR_rf _)) dX7_append_8 ?_
  refine r_aload_n (i := 0) C dX7_append_9 rfl rfl (by first | rfl | exact isR_rf _) ?_
  refine r_dup C (by first | rfl | exact isR_cat (isR_rf _)) dX7_append_10 ?_
  refine r_getI C f_X7_38 dX7_append_11 rfl (by assumption) ?_
  refine r_aload_n (i := 1) C dX7_append_14 rfl rfl (by first | rfl | exact isR_rf _) ?_
  rw [e1]
  refine r_callVs C v_X7_49 (c_weightAlone _ _ hq') dX7_append_15 (by assumption) (ci := 5) (by decide) rfl rfl (As := []) rfl rfl rfl (by first | exact Nat.le_refl _ | exact Nat.le_of_ble_eq_true rfl | omega) (Nat.le_of_ble_eq_true rfl) (by first | exact Nat.le_refl _ | exact Nat.le_of_ble_eq_true rfl | omega) (by first | exact Nat.le_refl _ | exact Nat.le_of_ble_eq_true rfl | omega) ?_
  rw [e2]
  refine r_iadd C dX7_append_18 ?_
  refine r_putI C f_X7_38 dX7_append_19 rfl rfl rfl (by assumption) ?_
  exact r_vret C E dX7_append_22 rfl (by first | exact Nat.le_refl _ | exact Nat.le_of_ble_eq_true rfl | omega) (by first | exact Nat.le_refl _ | exact Nat.le_of_ble_eq_true rfl | omega)
/-- all elements of the tree: es; U e: those above e, the nearest one first -/
def TW (h : Hp) (es : List Nat) (U : Nat → List Nat) : Prop :=
  ∀ e, e ∈ es → EW h e ∧ 6 ≤ e ∧ LN fE_parent h (hR h fE_parent e) (U e) ∧ (∀ a, a ∈ U e → a ∈ es) ∧ (∀ a, hR h fE_ahead e = some a → a ∈ es)
/-- the parts qs behind one that e fits can be fitted -/
def RS (h : Hp) (U : Nat → List Nat) : List Nat → Nat → Prop
  | [], _ => True
  | q :: qs, e => if hI h fP_way q = 1 then ∃ a, a ∈ U e ∧ lik h q a ∧ RS h U qs a
      else ∃ a, (if hI h fP_way q = 0 then hR h fE_parent e else hR h fE_ahead e) = some a ∧ lik h q a ∧ RS h U qs a
theorem RS_c {h : Hp} {U : Nat → List Nat} {q e : Nat} {qs : List Nat} : RS h U (q :: qs) e = if hI h fP_way q = 1 then ∃ a, a ∈ U e ∧ lik h q a ∧ RS h U qs a
      else ∃ a, (if hI h fP_way q = 0 then hR h fE_parent e else hR h fE_ahead e) = some a ∧ lik h q a ∧ RS h U qs a := rfl
theorem LN_mem {f : Nat} {h : Hp} : ∀ {xs : List Nat} {o : Option Nat} {a : Nat}, LN f h o xs → o = some a → a ∈ xs
  | [], o, a, H, e => by rw [show o = none from H] at e; cases e
  | b :: xs, o, a, H, e => by rw [H.1] at e; cases e; exact List.mem_cons_self
theorem c_restSelects (l : Launch) (G : Gl) {h : Hp} {P d : Nat} {ps es : List Nat} {U : Nat → List Nat} (hAL : AL h P d ps) (hl3 : ps.length ≤ 3) (hek : ∀ x ∈ ps, hK h x = 5) (hT : TW h es U) :
    ∀ (qs : List Nat) (i e : Nat), ps.drop i = qs → i ≤ 3 → e ∈ es → ∃ v : Int32, MRw l G yX7_restSelects (.code yX7_restSelects cX7_restSelects 5 (Option.some Jvm.ClassFile.FieldType.boolean)) (qs.length + 3) 0 0 [.ref P, .int (nI i), .ref e] h (.inl (some (.int v), h)) ∧ (v = 1 ↔ RS h U qs e) ∧ (v = 0 ∨ v = 1) := by
  have hkP := hAL.1
  have hsz := hAL.2.1
  intro qs
  induction qs with
  | nil =>
    intro i e hd hi he
    refine ⟨1, ?_, ⟨fun _ => trivial, fun _ => rfl⟩, Or.inr rfl⟩
    have hle : ps.length ≤ i := List.drop_eq_nil_iff.mp hd
    refine mr_of (by decide +kernel) (Nat.le_of_ble_eq_true rfl) (ct3 (by first | rfl | exact isR_cat (isR_rf _)) (by first | rfl | exact isR_cat (isR_rf _)) (by first | rfl | exact isR_cat (isR_rf _))) (fun X hG hl C E => ?_)
    subst hG hl
    refine r_iload_n (i := 1) C dX7_restSelects_0 rfl rfl ?_
    refine r_if_lt (tgt := 17) C dX7_restSelects_1 (by decide) (fun c_1 => ?_) (fun c_1 => ?_)
    · exact absurd c_1 (nI_pos (by omega))
    · refine r_iload_n (i := 1) C dX7_restSelects_4 rfl rfl ?_
      refine r_aload_n (i := 0) C dX7_restSelects_5 rfl rfl (by first | rfl | exact isR_rf _) ?_
      refine r_callVs C v_X7_41 (c_size _ _ hkP) dX7_restSelects_6 (by assumption) (ci := 0) (by decide) rfl rfl (As := []) rfl rfl rfl (by first | exact Nat.le_refl _ | exact Nat.le_of_ble_eq_true rfl | omega) (Nat.le_of_ble_eq_true rfl) (by first | exact Nat.le_refl _ | exact Nat.le_of_ble_eq_true rfl | omega) (by first | exact Nat.le_refl _ | exact Nat.le_of_ble_eq_true rfl | omega) ?_
      rw [hsz]
      refine rn_ic_ge C i ps.length rfl rfl (by omega) (by omega) (tgt := 17) dX7_restSelects_9 (by decide) (fun _ => ?_) (fun q => absurd q (by omega))
      refine r_iconst (v := 1) C dX7_restSelects_17 (by decide) ?_
      exact r_iret C E dX7_restSelects_18 rfl (bo_nar (by first | exact Or.inl rfl | exact Or.inr rfl | assumption)).1 (by first | exact Nat.le_refl _ | exact Nat.le_of_ble_eq_true rfl | omega) (by first | exact Nat.le_refl _ | exact Nat.le_of_ble_eq_true rfl | omega)
  | cons q qs ih =>
    intro i e hd hi he
    obtain ⟨hlt, hq, hd'⟩ : i < ps.length ∧ ps[i]? = some q ∧ ps.drop (i + 1) = qs := by
      have hlt : i < ps.length := Nat.lt_of_not_le fun z => by rw [List.drop_eq_nil_iff.mpr z] at hd; cases hd
      rw [List.drop_eq_getElem_cons hlt] at hd
      exact ⟨hlt, by rw [List.getElem?_eq_getElem hlt, (List.cons.inj hd).1], (List.cons.inj hd).2⟩
    have hkq : hK h q = 5 := hek q (List.mem_of_getElem? hq)
    obtain ⟨⟨hke, -, -, -, -⟩, -, hU, hUs, hA⟩ := hT e he
    obtain ⟨v, hv1, hv2⟩ := v01 (RS h U (q :: qs) e)
    refine ⟨v, ?_, hv1, hv2⟩
    refine mr_of (by decide +kernel) (Nat.le_of_ble_eq_true rfl) (ct3 (by first | rfl | exact isR_cat (isR_rf _)) (by first | rfl | exact isR_cat (isR_rf _)) (by first | rfl | exact isR_cat (isR_rf _))) (fun X hG hl C E => ?_)
    subst hG hl
    refine r_iload_n (i := 1) C dX7_restSelects_0 rfl rfl ?_
    refine r_if_lt (tgt := 17) C dX7_restSelects_1 (by decide) (fun c_1 => ?_) (fun c_1 => ?_)
    · exact absurd c_1 (nI_pos (by omega))
    · refine r_iload_n (i := 1) C dX7_restSelects_4 rfl rfl ?_
      refine r_aload_n (i := 0) C dX7_restSelects_5 rfl rfl (by first | rfl | exact isR_rf _) ?_
      refine r_callVs C v_X7_41 (c_size _ _ hkP) dX7_restSelects_6 (by assumption) (ci := 0) (by decide) rfl rfl (As := []) rfl rfl rfl (by first | exact Nat.le_refl _ | exact Nat.le_of_ble_eq_true rfl | omega) (Nat.le_of_ble_eq_true rfl) (by first | exact Nat.le_refl _ | exact Nat.le_of_ble_eq_true rfl | omega) (by first | exact Nat.le_refl _ | exact Nat.le_of_ble_eq_true rfl | omega) ?_
      rw [hsz]
      refine rn_ic_ge C i ps.length rfl rfl (by omega) (by omega) (tgt := 17) dX7_restSelects_9 (by decide) (fun q => absurd q (by omega)) (fun _ => ?_)
      refine r_iload_n (i := 1) C dX7_restSelects_12 rfl rfl ?_
      refine r_iconst (v := 3) C dX7_restSelects_13 (by decide) ?_
      refine rn_ic_lt C i 3 rfl rfl (by omega) (by decide) (tgt := 19) dX7_restSelects_14 (by decide) (fun _ => ?_) (fun q => absurd q (by omega))
      refine r_aload_n (i := 0) C dX7_restSelects_19 rfl rfl (by first | rfl | exact isR_rf _) ?_
      refine r_iload_n (i := 1) C dX7_restSelects_20 rfl rfl ?_
      refine r_callVs C v_X7_58 (c_get _ _ hAL hq) dX7_restSelects_21 (by assumption) (ci := 0) (by decide) rfl rfl (As := [_]) rfl rfl rfl (by first | exact Nat.le_refl _ | exact Nat.le_of_ble_eq_true rfl | omega) (Nat.le_of_ble_eq_true rfl) (by first | exact Nat.le_refl _ | exact Nat.le_of_ble_eq_true rfl | omega) (by first | exact Nat.le_refl _ | exact Nat.le_of_ble_eq_true rfl | omega) ?_
      refine r_cast (o := some _) (ci := 5) C dX7_restSelects_24 c_X7_50 rfl (by decide) (by decide +kernel) (fun a q => by cases q; exact hkq) ?_
      refine r_astore_n (i := 3) C dX7_restSelects_27 rfl (Nat.le_of_ble_eq_true rfl) (by first | rfl | exact isR_rf _) ?_
      refine r_aload_n (i := 3) C dX7_restSelects_28 rfl rfl (by first | rfl | exact isR_rf _) ?_
      refine r_getI C f_X7_70 dX7_restSelects_29 rfl (by assumption) ?_
      refine r_iconst (v := 1) C dX7_restSelects_32 (by decide) ?_
      refine r_ic_ne (tgt := 82) C dX7_restSelects_33 (by decide) (fun c_33 => ?_) (fun c_33 => ?_)
      · -- the parent or the sibling ahead
        have hz : ∀ (o : Option Nat) (v4 : Value), o = (if hI h fP_way q = 0 then hR h fE_parent e else hR h fE_ahead e) → wr X 0 0 100 [.ref P, .int (nI i), .ref e, .ref q, v4] [va_rf o] h := by
          intro o v4 ho
          have hRS : RS h U (q :: qs) e ↔ ∃ a, o = some a ∧ lik h q a ∧ RS h U qs a := by
            rw [RS_c, if_neg c_33, ← ho]
          have hF : ¬ RS h U (q :: qs) e → wr X 0 0 132 [.ref P, .int (nI i), .ref e, .ref q, va_rf o] [] h := by
            intro z
            rw [v01_0 hv1 hv2 z] at E
            refine r_iconst (v := 0) C dX7_restSelects_132 (by decide) ?_
            exact r_iret C E dX7_restSelects_133 rfl (bo_nar (by first | exact Or.inl rfl | exact Or.inr rfl | assumption)).1 (by first | exact Nat.le_refl _ | exact Nat.le_of_ble_eq_true rfl | omega) (by first | exact Nat.le_refl _ | exact Nat.le_of_ble_eq_true rfl | omega)
          cases o with
          | none =>
            refine r_astore (i := 4) C dX7_restSelects_100 (Nat.le_of_ble_eq_true rfl) (by first | rfl | exact isR_rf _) ?_
            refine r_aload (i := 4) C dX7_restSelects_102 rfl (by first | rfl | exact isR_rf _) ?_
            refine r_ifnull (o := none) (tgt := 132) C dX7_restSelects_104 (by decide) (fun _ => ?_) (fun a c => nomatch c)
            exact hF (fun z => by obtain ⟨a, z1, -⟩ := hRS.mp z; cases z1)
          | some a =>
            have ha : a ∈ es := by
              by_cases cw : hI h fP_way q = 0
              · rw [if_pos cw] at ho
                exact hUs a (LN_mem hU ho.symm)
              · rw [if_neg cw] at ho
                exact hA a ho.symm
            obtain ⟨⟨hka, -, -, -, -⟩, -⟩ := hT a ha
            obtain ⟨w, Mw, hw1, hw2⟩ := c_isLike (lOf X) (gOf X) hkq hka
            obtain ⟨u, Mu, hu1, hu2⟩ := ih (i + 1) a hd' (by omega) ha
            refine r_astore (i := 4) C dX7_restSelects_100 (Nat.le_of_ble_eq_true rfl) (by first | rfl | exact isR_rf _) ?_
            refine r_aload (i := 4) C dX7_restSelects_102 rfl (by first | rfl | exact isR_rf _) ?_
            refine r_ifnull (o := some a) (tgt := 132) C dX7_restSelects_104 (by decide) (fun c => nomatch c) (fun _ _ => ?_)
            refine r_aload_n (i := 3) C dX7_restSelects_107 rfl rfl (by first | rfl | exact isR_rf _) ?_
            refine r_aload (i := 4) C dX7_restSelects_108 rfl (by first | rfl | exact isR_rf _) ?_
            refine r_callVs C v_X7_62 Mw dX7_restSelects_110 (by assumption) (ci := 5) (by decide) rfl rfl (As := [_]) rfl rfl rfl (by first | exact Nat.le_refl _ | exact Nat.le_of_ble_eq_true rfl | omega) (Nat.le_of_ble_eq_true rfl) (by first | exact Nat.le_refl _ | exact Nat.le_of_ble_eq_true rfl | omega) (by first | exact Nat.le_refl _ | exact Nat.le_of_ble_eq_true rfl | omega) ?_
            refine r_if_eq (tgt := 132) C dX7_restSelects_113 (by decide) (fun c_113 => ?_) (fun c_113 => ?_)
            · exact hF (fun z => by obtain ⟨b, z1, z2, -⟩ := hRS.mp z; cases z1; exact v01_n hw1 c_113 z2)
            · refine r_aload_n (i := 0) C dX7_restSelects_116 rfl rfl (by first | rfl | exact isR_rf _) ?_
              refine r_iload_n (i := 1) C dX7_restSelects_117 rfl rfl ?_
              refine r_iconst (v := 1) C dX7_restSelects_118 (by decide) ?_
              refine r_iadd C dX7_restSelects_119 ?_
              rw [nI_1]
              refine r_aload (i := 4) C dX7_restSelects_120 rfl (by first | rfl | exact isR_rf _) ?_
              refine r_callSs C s_X7_66 Mu dX7_restSelects_122 (As := [_, _, _]) rfl rfl rfl (by first | exact Nat.le_refl _ | exact Nat.le_of_ble_eq_true rfl | omega) (Nat.le_of_ble_eq_true rfl) (by first | exact Nat.le_refl _ | exact Nat.le_of_ble_eq_true rfl | omega) (by first | exact Nat.le_refl _ | exact Nat.le_of_ble_eq_true rfl | omega) ?_
              refine r_if_eq (tgt := 132) C dX7_restSelects_125 (by decide) (fun c_125 => ?_) (fun c_125 => ?_)
              · exact hF (fun z => by obtain ⟨b, z1, -, z2⟩ := hRS.mp z; cases z1; exact v01_n hu1 c_125 z2)
              · rw [v01_1 hv1 (hRS.mpr ⟨a, rfl, v01_y hw1 hw2 c_113, v01_y hu1 hu2 c_125⟩)] at E
                refine r_iconst (v := 1) C dX7_restSelects_128 (by decide) ?_
                refine r_goto (tgt := 133) C dX7_restSelects_129 (by decide) ?_
                exact r_iret C E dX7_restSelects_133 rfl (bo_nar (by first | exact Or.inl rfl | exact Or.inr rfl | assumption)).1 (by first | exact Nat.le_refl _ | exact Nat.le_of_ble_eq_true rfl | omega) (by first | exact Nat.le_refl _ | exact Nat.le_of_ble_eq_true rfl | omega)
        refine r_aload_n (i := 3) C dX7_restSelects_82 rfl rfl (by first | rfl | exact isR_rf _) ?_
        refine r_getI C f_X7_70 dX7_restSelects_83 rfl (by assumption) ?_
        refine r_if_ne (tgt := 96) C dX7_restSelects_86 (by decide) (fun c_86 => ?_) (fun c_86 => ?_)
        · refine r_aload_n (i := 2) C dX7_restSelects_96 rfl rfl (by first | rfl | exact isR_rf _) ?_
          refine r_getR C f_X7_79 dX7_restSelects_97 rfl (by assumption) ?_
          exact hz _ _ (if_neg c_86).symm
        · refine r_aload_n (i := 2) C dX7_restSelects_89 rfl rfl (by first | rfl | exact isR_rf _) ?_
          refine r_getR C f_X7_73 dX7_restSelects_90 rfl (by assumption) ?_
          refine r_goto (tgt := 100) C dX7_restSelects_93 (by decide) ?_
          exact hz _ _ (if_pos c_86).symm
      · -- any one above
        have hRS : RS h U (q :: qs) e ↔ ∃ a, a ∈ U e ∧ lik h q a ∧ RS h U qs a := by
          rw [RS_c, if_pos c_33]
        have hloop : ∀ (ys : List Nat) (o : Option Nat), LN fE_parent h o ys → (∀ a, a ∈ ys → a ∈ U e) → (RS h U (q :: qs) e → ∃ a, a ∈ ys ∧ lik h q a ∧ RS h U qs a) → wr X 0 0 42 [.ref P, .int (nI i), .ref e, .ref q, va_rf o] [] h := by
          intro ys
          induction ys with
          | nil =>
            intro o ho _ hr
            have ho' : o = none := ho
            subst ho'
            rw [v01_0 hv1 hv2 (fun z => by obtain ⟨a, z1, -⟩ := hr z; cases z1)] at E
            refine r_aload (i := 4) C dX7_restSelects_42 rfl (by first | rfl | exact isR_rf _) ?_
            refine r_ifnull (o := none) (tgt := 80) C dX7_restSelects_44 (by decide) (fun _ => ?_) (fun a c => nomatch c)
            refine r_iconst (v := 0) C dX7_restSelects_80 (by decide) ?_
            exact r_iret C E dX7_restSelects_81 rfl (bo_nar (by first | exact Or.inl rfl | exact Or.inr rfl | assumption)).1 (by first | exact Nat.le_refl _ | exact Nat.le_of_ble_eq_true rfl | omega) (by first | exact Nat.le_refl _ | exact Nat.le_of_ble_eq_true rfl | omega)
          | cons a ys ih2 =>
            intro o ho hin hr
            obtain ⟨rfl, hka, -, hn⟩ := ho
            have ha : a ∈ es := hUs a (hin a List.mem_cons_self)
            obtain ⟨w, Mw, hw1, hw2⟩ := c_isLike (lOf X) (gOf X) hkq hka
            obtain ⟨u, Mu, hu1, hu2⟩ := ih (i + 1) a hd' (by omega) ha
            have hnext : ¬ (lik h q a ∧ RS h U qs a) → wr X 0 0 70 [.ref P, .int (nI i), .ref e, .ref q, .ref a] [] h := by
              intro z
              refine r_aload (i := 4) C dX7_restSelects_70 rfl (by first | rfl | exact isR_rf _) ?_
              refine r_getR C f_X7_73 dX7_restSelects_72 rfl (by assumption) ?_
              refine r_astore (i := 4) C dX7_restSelects_75 (Nat.le_of_ble_eq_true rfl) (by first | rfl | exact isR_rf _) ?_
              refine r_goto (tgt := 42) C dX7_restSelects_77 (by decide) ?_
              exact ih2 _ hn (fun b hb => hin b (List.mem_cons_of_mem _ hb)) (fun r => by
                obtain ⟨b, b1, b2⟩ := hr r
                rcases List.mem_cons.mp b1 with b1 | b1
                · rw [b1] at b2; exact absurd b2 z
                · exact ⟨b, b1, b2⟩)
            refine r_aload (i := 4) C dX7_restSelects_42 rfl (by first | rfl | exact isR_rf _) ?_
            refine r_ifnull (o := some a) (tgt := 80) C dX7_restSelects_44 (by decide) (fun c => nomatch c) (fun _ _ => ?_)
            refine r_aload_n (i := 3) C dX7_restSelects_47 rfl rfl (by first | rfl | exact isR_rf _) ?_
            refine r_aload (i := 4) C dX7_restSelects_48 rfl (by first | rfl | exact isR_rf _) ?_
            refine r_callVs C v_X7_62 Mw dX7_restSelects_50 (by assumption) (ci := 5) (by decide) rfl rfl (As := [_]) rfl rfl rfl (by first | exact Nat.le_refl _ | exact Nat.le_of_ble_eq_true rfl | omega) (Nat.le_of_ble_eq_true rfl) (by first | exact Nat.le_refl _ | exact Nat.le_of_ble_eq_true rfl | omega) (by first | exact Nat.le_refl _ | exact Nat.le_of_ble_eq_true rfl | omega) ?_
            refine r_if_eq (tgt := 70) C dX7_restSelects_53 (by decide) (fun c_53 => ?_) (fun c_53 => ?_)
            · exact hnext (fun z => v01_n hw1 c_53 z.1)
            · refine r_aload_n (i := 0) C dX7_restSelects_56 rfl rfl (by first | rfl | exact isR_rf _) ?_
              refine r_iload_n (i := 1) C dX7_restSelects_57 rfl rfl ?_
              refine r_iconst (v := 1) C dX7_restSelects_58 (by decide) ?_
              refine r_iadd C dX7_restSelects_59 ?_
              rw [nI_1]
              refine r_aload (i := 4) C dX7_restSelects_60 rfl (by first | rfl | exact isR_rf _) ?_
              refine r_callSs C s_X7_66 Mu dX7_restSelects_62 (As := [_, _, _]) rfl rfl rfl (by first | exact Nat.le_refl _ | exact Nat.le_of_ble_eq_true rfl | omega) (Nat.le_of_ble_eq_true rfl) (by first | exact Nat.le_refl _ | exact Nat.le_of_ble_eq_true rfl | omega) (by first | exact Nat.le_refl _ | exact Nat.le_of_ble_eq_true rfl | omega) ?_
              refine r_if_eq (tgt := 70) C dX7_restSelects_65 (by decide) (fun c_65 => ?_) (fun c_65 => ?_)
              · exact hnext (fun z => v01_n hu1 c_65 z.2)
              · rw [v01_1 hv1 (hRS.mpr ⟨a, hin a List.mem_cons_self, v01_y hw1 hw2 c_53, v01_y hu1 hu2 c_65⟩)] at E
                refine r_iconst (v := 1) C dX7_restSelects_68 (by decide) ?_
                exact r_iret C E dX7_restSelects_69 rfl (bo_nar (by first | exact Or.inl rfl | exact Or.inr rfl | assumption)).1 (by first | exact Nat.le_refl _ | exact Nat.le_of_ble_eq_true rfl | omega) (by first | exact Nat.le_refl _ | exact Nat.le_of_ble_eq_true rfl | omega)
        refine r_aload_n (i := 2) C dX7_restSelects_36 rfl rfl (by first | rfl | exact isR_rf _) ?_
        refine r_getR C f_X7_73 dX7_restSelects_37 rfl (by assumption) ?_
        refine r_astore (i := 4) C dX7_restSelects_40 (Nat.le_of_ble_eq_true rfl) (by first | rfl | exact isR_rf _) ?_
        exact hloop (U e) _ hU (fun a ha => ha) (fun z => hRS.mp z)
/-- the rule with the parts ps fits e -/
def SL (h : Hp) (U : Nat → List Nat) (ps : List Nat) (e : Nat) : Prop := match ps with
  | [] => False
  | q :: qs => lik h q e ∧ RS h U qs e
theorem c_selects (l : Launch) (G : Gl) {h : Hp} {r P d e : Nat} {ps es : List Nat} {U : Nat → List Nat} (hr : hK h r = 6) (hP : hR h fU_parts r = some P) (hAL : AL h P d ps) (hl3 : ps.length ≤ 3) (hek : ∀ x ∈ ps, hK h x = 5) (hT : TW h es U) (he : e ∈ es) :
    ∃ v : Int32, MRw l G yX7_selects (.code yX7_selects cX7_selects 2 (Option.some Jvm.ClassFile.FieldType.boolean)) 7 0 0 [.ref r, .ref e] h (.inl (some (.int v), h)) ∧ (v = 1 ↔ SL h U ps e) ∧ (v = 0 ∨ v = 1) := by
  have hkP := hAL.1
  have hsz := hAL.2.1
  obtain ⟨⟨hke, -, -, -, -⟩, -⟩ := hT e he
  obtain ⟨v, hv1, hv2⟩ := v01 (SL h U ps e)
  refine ⟨v, ?_, hv1, hv2⟩
  refine mr_of (by decide +kernel) (Nat.le_of_ble_eq_true rfl) (ct2 (by first | rfl | exact isR_cat (isR_rf _)) (by first | rfl | exact isR_cat (isR_rf _))) (fun X hG hl C E => ?_)
  subst hG hl
  refine r_aload_n (i := 0) C dX7_selects_0 rfl rfl (by first | rfl | exact isR_rf _) ?_
  refine r_getR C f_X7_12 dX7_selects_1 rfl (by assumption) ?_
  rw [hP]
  refine r_callVs C v_X7_54 (c_isEmpty _ _ hkP) dX7_selects_4 (by assumption) (ci := 0) (by decide) rfl rfl (As := []) rfl rfl rfl (by first | exact Nat.le_refl _ | exact Nat.le_of_ble_eq_true rfl | omega) (Nat.le_of_ble_eq_true rfl) (by first | exact Nat.le_refl _ | exact Nat.le_of_ble_eq_true rfl | omega) (by first | exact Nat.le_refl _ | exact Nat.le_of_ble_eq_true rfl | omega) ?_
  have hF : ¬ SL h U ps e → wr X 0 0 44 [.ref r, .ref e] [] h := by
    intro z
    rw [v01_0 hv1 hv2 z] at E
    refine r_iconst (v := 0) C dX7_selects_44 (by decide) ?_
    exact r_iret C E dX7_selects_45 rfl (bo_nar (by first | exact Or.inl rfl | exact Or.inr rfl | assumption)).1 (by first | exact Nat.le_refl _ | exact Nat.le_of_ble_eq_true rfl | omega) (by first | exact Nat.le_refl _ | exact Nat.le_of_ble_eq_true rfl | omega)
  cases ps with
  | nil =>
    rw [show (if hI h fA_size P = 0 then (1 : Int32) else 0) = 1 from if_pos hsz]
    refine r_if_ne (tgt := 44) C dX7_selects_7 (by decide) (fun c_7 => ?_) (fun c_7 => ?_)
    · exact hF (fun z => z)
    · exact absurd c_7 (by decide)
  | cons q qs =>
    have hne : ¬ hI h fA_size P = 0 := by rw [hsz]; exact nI_ne0 (Nat.succ_pos _) (Nat.lt_of_le_of_lt hl3 (by decide))
    rw [if_neg hne]
    have hkq : hK h q = 5 := hek q List.mem_cons_self
    obtain ⟨w, Mw, hw1, hw2⟩ := c_isLike (lOf X) (gOf X) hkq hke
    have hlq : qs.length ≤ 2 := Nat.le_of_succ_le_succ hl3
    obtain ⟨u, Mu, hu1, hu2⟩ := c_restSelects (lOf X) (gOf X) hAL hl3 hek hT qs 1 e rfl (by decide) he
    refine r_if_ne (tgt := 44) C dX7_selects_7 (by decide) (fun c_7 => ?_) (fun c_7 => ?_)
    · exact absurd rfl c_7
    · refine r_aload_n (i := 0) C dX7_selects_10 rfl rfl (by first | rfl | exact isR_rf _) ?_
      refine r_getR C f_X7_12 dX7_selects_11 rfl (by assumption) ?_
      rw [hP]
      refine r_iconst (v := 0) C dX7_selects_14 (by decide) ?_
      refine r_callVs C v_X7_58 (c_get _ _ (i := 0) (x := q) hAL rfl) dX7_selects_15 (by assumption) (ci := 0) (by decide) rfl rfl (As := [_]) rfl rfl rfl (by first | exact Nat.le_refl _ | exact Nat.le_of_ble_eq_true rfl | omega) (Nat.le_of_ble_eq_true rfl) (by first | exact Nat.le_refl _ | exact Nat.le_of_ble_eq_true rfl | omega) (by first | exact Nat.le_refl _ | exact Nat.le_of_ble_eq_true rfl | omega) ?_
      refine r_cast (o := some _) (ci := 5) C dX7_selects_18 c_X7_50 rfl (by decide) (by decide +kernel) (fun a q => by cases q; exact hkq) ?_
      refine r_aload_n (i := 1) C dX7_selects_21 rfl rfl (by first | rfl | exact isR_rf _) ?_
      refine r_callVs C v_X7_62 Mw dX7_selects_22 (by assumption) (ci := 5) (by decide) rfl rfl (As := [_]) rfl rfl rfl (by first | exact Nat.le_refl _ | exact Nat.le_of_ble_eq_true rfl | omega) (Nat.le_of_ble_eq_true rfl) (by first | exact Nat.le_refl _ | exact Nat.le_of_ble_eq_true rfl | omega) (by first | exact Nat.le_refl _ | exact Nat.le_of_ble_eq_true rfl | omega) ?_
      refine r_if_eq (tgt := 44) C dX7_selects_25 (by decide) (fun c_25 => ?_) (fun c_25 => ?_)
      · exact hF (fun z => v01_n hw1 c_25 z.1)
      · refine r_aload_n (i := 0) C dX7_selects_28 rfl rfl (by first | rfl | exact isR_rf _) ?_
        refine r_getR C f_X7_12 dX7_selects_29 rfl (by assumption) ?_
        rw [hP]
        refine r_iconst (v := 1) C dX7_selects_32 (by decide) ?_
        refine r_aload_n (i := 1) C dX7_selects_33 rfl rfl (by first | rfl | exact isR_rf _) ?_
        refine r_callSs C s_X7_66 Mu dX7_selects_34 (As := [_, _, _]) rfl rfl rfl (by first | exact Nat.le_refl _ | exact Nat.le_of_ble_eq_true rfl | omega) (Nat.le_of_ble_eq_true rfl) (by first | exact Nat.le_refl _ | exact Nat.le_of_ble_eq_true rfl | omega) (by first | exact Nat.le_refl _ | exact Nat.le_of_ble_eq_true rfl | omega) ?_
        refine r_if_eq (tgt := 44) C dX7_selects_37 (by decide) (fun c_37 => ?_) (fun c_37 => ?_)
        · exact hF (fun z => v01_n hu1 c_37 z.2)
        · rw [v01_1 hv1 ⟨v01_y hw1 hw2 c_25, v01_y hu1 hu2 c_37⟩] at E
          refine r_iconst (v := 1) C dX7_selects_40 (by decide) ?_
          refine r_goto (tgt := 45) C dX7_selects_41 (by decide) ?_
          exact r_iret C E dX7_selects_45 rfl (bo_nar (by first | exact Or.inl rfl | exact Or.inr rfl | assumption)).1 (by first | exact Nat.le_refl _ | exact Nat.le_of_ble_eq_true rfl | omega) (by first | exact Nat.le_refl _ | exact Nat.le_of_ble_eq_true rfl | omega)
theorem c_declarationOf (l : Launch) (G : Gl) {h : Hp} {r D p : Nat} (hD : UD h r D) (hp : p < 14) : MRw l G yX7_declarationOf (.code yX7_declarationOf cX7_declarationOf 2 (Option.some (Jvm.ClassFile.FieldType.object "CascadeHouse$Declaration"))) 0 0 0 [.ref r, .int (nI p)] h (.inl (some (va_rf (hQ h D p)), h)) := by
  obtain ⟨hr, h1, h2, h3⟩ := hD
  refine mr_of (by decide +kernel) (Nat.le_of_ble_eq_true rfl) (ct2 (by first | rfl | exact isR_cat (isR_rf _)) (by first | rfl | exact isR_cat (isR_rf _))) (fun X hG hl C E => ?_)
  subst hG hl
  refine r_iload_n (i := 1) C dX7_declarationOf_0 rfl rfl ?_
  refine r_if_lt (tgt := 22) C dX7_declarationOf_1 (by decide) (fun c_1 => ?_) (fun c_1 => ?_)
  · exact absurd c_1 (nI_pos (by omega))
  · refine r_iload_n (i := 1) C dX7_declarationOf_4 rfl rfl ?_
    refine r_aload_n (i := 0) C dX7_declarationOf_5 rfl rfl (by first | rfl | exact isR_rf _) ?_
    refine r_getR C f_X7_20 dX7_declarationOf_6 rfl (by assumption) ?_
    rw [h1]
    refine r_alen C dX7_declarationOf_9 h2 (by decide) ?_
    rw [h3]
    refine rn_ic_ge C p 14 rfl rfl (by omega) (by decide) (tgt := 22) dX7_declarationOf_10 (by decide) (fun q => absurd q (by omega)) (fun _ => ?_)
    refine r_aload_n (i := 0) C dX7_declarationOf_13 rfl rfl (by first | rfl | exact isR_rf _) ?_
    refine r_getR C f_X7_20 dX7_declarationOf_14 rfl (by assumption) ?_
    rw [h1]
    refine r_iload_n (i := 1) C dX7_declarationOf_17 rfl rfl ?_
    refine r_aald (q := 2) (j := p) C dX7_declarationOf_18 h2 (by decide) rfl (by omega) ?_
    refine r_goto (tgt := 23) C dX7_declarationOf_19 (by decide) ?_
    exact r_aret (o := hQ h D p) C E dX7_declarationOf_23 rfl rfl (Nat.le_refl _) (Nat.le_refl _)
def nwo (h : Hp) (D p : Nat) : Int32 := if hQ h D p = none then 1 else 0
theorem c_newOnes (l : Launch) (G : Gl) {h : Hp} {r D p : Nat} (hD : UD h r D) (hp : p < 14) : MRw l G yX7_newOnes (.code yX7_newOnes cX7_newOnes 2 (Option.some Jvm.ClassFile.FieldType.int)) 1 0 0 [.ref r, .int (nI p)] h (.inl (some (.int (nwo h D p)), h)) := by
  have hr := hD.1
  refine mr_of (by decide +kernel) (Nat.le_of_ble_eq_true rfl) (ct2 (by first | rfl | exact isR_cat (isR_rf _)) (by first | rfl | exact isR_cat (isR_rf _))) (fun X hG hl C E => ?_)
  subst hG hl
  refine r_aload_n (i := 0) C dX7_newOnes_0 rfl rfl (by first | rfl | exact isR_rf _) ?_
  refine r_iload_n (i := 1) C dX7_newOnes_1 rfl rfl ?_
  refine r_callVs C v_X7_89 (c_declarationOf _ _ hD hp) dX7_newOnes_2 (by assumption) (ci := 6) (by decide) rfl rfl (As := [_]) rfl rfl rfl (by first | exact Nat.le_refl _ | exact Nat.le_of_ble_eq_true rfl | omega) (Nat.le_of_ble_eq_true rfl) (by first | exact Nat.le_refl _ | exact Nat.le_of_ble_eq_true rfl | omega) (by first | exact Nat.le_refl _ | exact Nat.le_of_ble_eq_true rfl | omega) ?_
  unfold nwo at E
  cases hq : hQ h D p with
  | none =>
    rw [if_pos hq] at E
    refine r_ifnonnull (o := none) (tgt := 12) C dX7_newOnes_5 (by decide) (fun a c => nomatch c) (fun _ => ?_)
    refine r_iconst (v := 1) C dX7_newOnes_8 (by decide) ?_
    refine r_goto (tgt := 13) C dX7_newOnes_9 (by decide) ?_
    exact r_iret C E dX7_newOnes_13 rfl rfl (by first | exact Nat.le_refl _ | exact Nat.le_of_ble_eq_true rfl | omega) (by first | exact Nat.le_refl _ | exact Nat.le_of_ble_eq_true rfl | omega)
  | some a =>
    rw [if_neg (by rw [hq]; exact fun z => nomatch z)] at E
    refine r_ifnonnull (o := some a) (tgt := 12) C dX7_newOnes_5 (by decide) (fun _ _ => ?_) (fun c => nomatch c)
    refine r_iconst (v := 0) C dX7_newOnes_12 (by decide) ?_
    exact r_iret C E dX7_newOnes_13 rfl rfl (by first | exact Nat.le_refl _ | exact Nat.le_of_ble_eq_true rfl | omega) (by first | exact Nat.le_refl _ | exact Nat.le_of_ble_eq_true rfl | omega)
theorem c_countWith (l : Launch) (G : Gl) {h : Hp} {r D p : Nat} (hD : UD h r D) (hp : p ≤ 14) : MRw l G yX7_countWith (.code yX7_countWith cX7_countWith 2 (Option.some Jvm.ClassFile.FieldType.int)) 2 0 0 [.ref r, .int (nI p)] h (.inl (some (.int (if p = 14 then hI h fU_declarationCount r + nwo h D 3 + nwo h D 4 else hI h fU_declarationCount r + nwo h D p)), h)) := by
  have hr := hD.1
  refine mr_of (by decide +kernel) (Nat.le_of_ble_eq_true rfl) (ct2 (by first | rfl | exact isR_cat (isR_rf _)) (by first | rfl | exact isR_cat (isR_rf _))) (fun X hG hl C E => ?_)
  subst hG hl
  refine r_iload_n (i := 1) C dX7_countWith_0 rfl rfl ?_
  refine r_bipush (v := 14) C dX7_countWith_1 (by decide) ?_
  refine rn_ic_ne C p 14 rfl rfl (by omega) (by decide) (tgt := 23) dX7_countWith_3 (by decide) (fun q => ?_) (fun q => ?_)
  · rw [if_neg q] at E
    refine r_aload_n (i := 0) C dX7_countWith_23 rfl rfl (by first | rfl | exact isR_rf _) ?_
    refine r_getI C f_X7_82 dX7_countWith_24 rfl (by assumption) ?_
    refine r_aload_n (i := 0) C dX7_countWith_27 rfl rfl (by first | rfl | exact isR_rf _) ?_
    refine r_iload_n (i := 1) C dX7_countWith_28 rfl rfl ?_
    refine r_callVs C v_X7_85 (c_newOnes _ _ hD (by omega)) dX7_countWith_29 (by assumption) (ci := 6) (by decide) rfl rfl (As := [_]) rfl rfl rfl (by first | exact Nat.le_refl _ | exact Nat.le_of_ble_eq_true rfl | omega) (Nat.le_of_ble_eq_true rfl) (by first | exact Nat.le_refl _ | exact Nat.le_of_ble_eq_true rfl | omega) (by first | exact Nat.le_refl _ | exact Nat.le_of_ble_eq_true rfl | omega) ?_
    refine r_iadd C dX7_countWith_32 ?_
    exact r_iret C E dX7_countWith_33 rfl rfl (by first | exact Nat.le_refl _ | exact Nat.le_of_ble_eq_true rfl | omega) (by first | exact Nat.le_refl _ | exact Nat.le_of_ble_eq_true rfl | omega)
  · rw [if_pos q] at E
    refine r_aload_n (i := 0) C dX7_countWith_6 rfl rfl (by first | rfl | exact isR_rf _) ?_
    refine r_getI C f_X7_82 dX7_countWith_7 rfl (by assumption) ?_
    refine r_aload_n (i := 0) C dX7_countWith_10 rfl rfl (by first | rfl | exact isR_rf _) ?_
    refine r_iconst (v := 3) C dX7_countWith_11 (by decide) ?_
    refine r_callVs C v_X7_85 (c_newOnes _ _ (p := 3) hD (by decide)) dX7_countWith_12 (by assumption) (ci := 6) (by decide) rfl rfl (As := [_]) rfl rfl rfl (by first | exact Nat.le_refl _ | exact Nat.le_of_ble_eq_true rfl | omega) (Nat.le_of_ble_eq_true rfl) (by first | exact Nat.le_refl _ | exact Nat.le_of_ble_eq_true rfl | omega) (by first | exact Nat.le_refl _ | exact Nat.le_of_ble_eq_true rfl | omega) ?_
    refine r_iadd C dX7_countWith_15 ?_
    refine r_aload_n (i := 0) C dX7_countWith_16 rfl rfl (by first | rfl | exact isR_rf _) ?_
    refine r_iconst (v := 4) C dX7_countWith_17 (by decide) ?_
    refine r_callVs C v_X7_85 (c_newOnes _ _ (p := 4) hD (by decide)) dX7_countWith_18 (by assumption) (ci := 6) (by decide) rfl rfl (As := [_]) rfl rfl rfl (by first | exact Nat.le_refl _ | exact Nat.le_of_ble_eq_true rfl | omega) (Nat.le_of_ble_eq_true rfl) (by first | exact Nat.le_refl _ | exact Nat.le_of_ble_eq_true rfl | omega) (by first | exact Nat.le_refl _ | exact Nat.le_of_ble_eq_true rfl | omega) ?_
    refine r_iadd C dX7_countWith_21 ?_
    exact r_iret C E dX7_countWith_22 rfl rfl (by first | exact Nat.le_refl _ | exact Nat.le_of_ble_eq_true rfl | omega) (by first | exact Nat.le_refl _ | exact Nat.le_of_ble_eq_true rfl | omega)
/-- a rule with one declaration put -/
def ptO (h : Hp) (r D p d : Nat) : Hp := sQ (sI h fU_declarationCount r (hI h fU_declarationCount r + nwo h D p)) D p (some d)
theorem c_putOne (l : Launch) (G : Gl) {h : Hp} {r D p d : Nat} (hD : UD h r D) (hp : p < 14) (hd : hK h d = 2) : MRw l G yX7_putOne (.code yX7_putOne cX7_putOne 3 none) 2 0 0 [.ref r, .int (nI p), .ref d] h (.inl (none, ptO h r D p d)) := by
  have hD0 := hD
  obtain ⟨hr, h1, h2, h3⟩ := hD
  refine mr_of (by decide +kernel) (Nat.le_of_ble_eq_true rfl) (ct3 (by first | rfl | exact isR_cat (isR_rf _)) (by first | rfl | exact isR_cat (isR_rf _)) (by first | rfl | exact isR_cat (isR_rf _))) (fun X hG hl C E => ?_)
  subst hG hl
  refine r_iload_n (i := 1) C dX7_putOne_0 rfl rfl ?_
  refine r_if_lt (tgt := 34) C dX7_putOne_1 (by decide) (fun c_1 => ?_) (fun c_1 => ?_)
  · exact absurd c_1 (nI_pos (by omega))
  · refine r_iload_n (i := 1) C dX7_putOne_4 rfl rfl ?_
    refine r_aload_n (i := 0) C dX7_putOne_5 rfl rfl (by first | rfl | exact isR_rf _) ?_
    refine r_getR C f_X7_20 dX7_putOne_6 rfl (by assumption) ?_
    rw [h1]
    refine r_alen C dX7_putOne_9 h2 (by decide) ?_
    rw [h3]
    refine rn_ic_ge C p 14 rfl rfl (by omega) (by decide) (tgt := 34) dX7_putOne_10 (by decide) (fun q => absurd q (by omega)) (fun _ => ?_)
    refine r_aload_n (i := 0) C dX7_putOne_13 rfl rfl (by first | rfl | exact isR_rf _) ?_
    refine r_dup C (by first | rfl | exact isR_cat (isR_rf _)) dX7_putOne_14 ?_
    refine r_getI C f_X7_82 dX7_putOne_15 rfl (by assumption) ?_
    refine r_aload_n (i := 0) C dX7_putOne_18 rfl rfl (by first | rfl | exact isR_rf _) ?_
    refine r_iload_n (i := 1) C dX7_putOne_19 rfl rfl ?_
    refine r_callVs C v_X7_85 (c_newOnes _ _ hD0 hp) dX7_putOne_20 (by assumption) (ci := 6) (by decide) rfl rfl (As := [_]) rfl rfl rfl (by first | exact Nat.le_refl _ | exact Nat.le_of_ble_eq_true rfl | omega) (Nat.le_of_ble_eq_true rfl) (by first | exact Nat.le_refl _ | exact Nat.le_of_ble_eq_true rfl | omega) (by first | exact Nat.le_refl _ | exact Nat.le_of_ble_eq_true rfl | omega) ?_
    refine r_iadd C dX7_putOne_23 ?_
    refine r_putI C f_X7_82 dX7_putOne_24 rfl rfl rfl (by assumption) ?_
    refine r_aload_n (i := 0) C dX7_putOne_27 rfl rfl (by first | rfl | exact isR_rf _) ?_
    refine r_getR C f_X7_20 dX7_putOne_28 rfl (by assumption) ?_
    change wr X 0 0 31 _ [va_rf (hR h fU_declarations r)] _
    rw [h1]
    refine r_iload_n (i := 1) C dX7_putOne_31 rfl rfl ?_
    refine r_aload_n (i := 2) C dX7_putOne_32 rfl rfl (by first | rfl | exact isR_rf _) ?_
    refine r_aastX (q := 2) (v := d) (cv := 2) C dX7_putOne_33 h2 (by decide) rfl (Nat.lt_of_lt_of_eq hp h3.symm) hd (by decide) rfl rfl ?_
    exact r_vret C E dX7_putOne_34 rfl (by first | exact Nat.le_refl _ | exact Nat.le_of_ble_eq_true rfl | omega) (by first | exact Nat.le_refl _ | exact Nat.le_of_ble_eq_true rfl | omega)
theorem c_rulePut (l : Launch) (G : Gl) {h : Hp} {r D p d : Nat} (hD : UD h r D) (hp : p ≤ 14) (hd : hK h d = 2) : MRw l G yX7_put (.code yX7_put cX7_put 3 none) 3 0 0 [.ref r, .int (nI p), .ref d] h (.inl (none, if p = 14 then ptO (ptO h r D 3 d) r D 4 d else ptO h r D p d)) := by
  have hr := hD.1
  refine mr_of (by decide +kernel) (Nat.le_of_ble_eq_true rfl) (ct3 (by first | rfl | exact isR_cat (isR_rf _)) (by first | rfl | exact isR_cat (isR_rf _)) (by first | rfl | exact isR_cat (isR_rf _))) (fun X hG hl C E => ?_)
  subst hG hl
  refine r_iload_n (i := 1) C dX7_put_0 rfl rfl ?_
  refine r_bipush (v := 14) C dX7_put_1 (by decide) ?_
  refine rn_ic_ne C p 14 rfl rfl (by omega) (by decide) (tgt := 21) dX7_put_3 (by decide) (fun q => ?_) (fun q => ?_)
  · rw [if_neg q] at E
    refine r_aload_n (i := 0) C dX7_put_21 rfl rfl (by first | rfl | exact isR_rf _) ?_
    refine r_iload_n (i := 1) C dX7_put_22 rfl rfl ?_
    refine r_aload_n (i := 2) C dX7_put_23 rfl rfl (by first | rfl | exact isR_rf _) ?_
    refine r_callVn C v_X7_93 (c_putOne _ _ hD (by omega) hd) dX7_put_24 (by assumption) (ci := 6) (by decide) rfl rfl (As := [_, _]) rfl rfl rfl (by first | exact Nat.le_refl _ | exact Nat.le_of_ble_eq_true rfl | omega) (Nat.le_of_ble_eq_true rfl) (by first | exact Nat.le_refl _ | exact Nat.le_of_ble_eq_true rfl | omega) (by first | exact Nat.le_refl _ | exact Nat.le_of_ble_eq_true rfl | omega) ?_
    exact r_vret C E dX7_put_27 rfl (by first | exact Nat.le_refl _ | exact Nat.le_of_ble_eq_true rfl | omega) (by first | exact Nat.le_refl _ | exact Nat.le_of_ble_eq_true rfl | omega)
  · rw [if_pos q] at E
    refine r_aload_n (i := 0) C dX7_put_6 rfl rfl (by first | rfl | exact isR_rf _) ?_
    refine r_iconst (v := 3) C dX7_put_7 (by decide) ?_
    refine r_aload_n (i := 2) C dX7_put_8 rfl rfl (by first | rfl | exact isR_rf _) ?_
    refine r_callVn C v_X7_93 (c_putOne _ _ (p := 3) hD (by decide) hd) dX7_put_9 (by assumption) (ci := 6) (by decide) rfl rfl (As := [_, _]) rfl rfl rfl (by first | exact Nat.le_refl _ | exact Nat.le_of_ble_eq_true rfl | omega) (Nat.le_of_ble_eq_true rfl) (by first | exact Nat.le_refl _ | exact Nat.le_of_ble_eq_true rfl | omega) (by first | exact Nat.le_refl _ | exact Nat.le_of_ble_eq_true rfl | omega) ?_
    refine r_aload_n (i := 0) C dX7_put_12 rfl rfl (by first | rfl | exact isR_rf _) ?_
    refine r_iconst (v := 4) C dX7_put_13 (by decide) ?_
    refine r_aload_n (i := 2) C dX7_put_14 rfl rfl (by first | rfl | exact isR_rf _) ?_
    refine r_callVn C v_X7_93 (c_putOne _ _ (h := ptO h r D 3 d) (p := 4) hD (by decide) hd) dX7_put_15 (by assumption) (ci := 6) (by decide) rfl rfl (As := [_, _]) rfl rfl rfl (by first | exact Nat.le_refl _ | exact Nat.le_of_ble_eq_true rfl | omega) (Nat.le_of_ble_eq_true rfl) (by first | exact Nat.le_refl _ | exact Nat.le_of_ble_eq_true rfl | omega) (by first | exact Nat.le_refl _ | exact Nat.le_of_ble_eq_true rfl | omega) ?_
    refine r_goto (tgt := 27) C dX7_put_18 (by decide) ?_
    exact r_vret C E dX7_put_27 rfl (by first | exact Nat.le_refl _ | exact Nat.le_of_ble_eq_true rfl | omega) (by first | exact Nat.le_refl _ | exact Nat.le_of_ble_eq_true rfl | omega)
theorem c_clearDecl (l : Launch) (G : Gl) {h : Hp} {r D : Nat} (hD : UD h r D) : MRw l G yX7_clearDeclarations (.code yX7_clearDeclarations cX7_clearDeclarations 2 none) 0 0 0 [.ref r] h (.inl (none, sI (sQf h D (nul (hQ h D) 14)) fU_declarationCount r 0)) := by
  obtain ⟨hr, h1, h2, h3⟩ := hD
  refine mr_of (by decide +kernel) (Nat.le_of_ble_eq_true rfl) (ct1 (by first | rfl | exact isR_cat (isR_rf _))) (fun X hG hl C E => ?_)
  subst hG hl
  have hloop : ∀ (m k : Nat), k + m = 14 → wr X 0 0 2 [.ref r, .int (nI k)] [] (sQf h D (nul (hQ h D) k)) := by
    intro m
    induction m with
    | zero =>
      intro k hk
      have : k = 14 := by omega
      subst this
      refine r_iload_n (i := 1) C dX7_clearDeclarations_2 rfl rfl ?_
      refine r_aload_n (i := 0) C dX7_clearDeclarations_3 rfl rfl (by first | rfl | exact isR_rf _) ?_
      refine r_getR C f_X7_20 dX7_clearDeclarations_4 rfl (by assumption) ?_
      change wr X 0 0 7 _ [va_rf (hR h fU_declarations r), .int (nI 14)] _
      rw [h1]
      refine r_alen (a := D) C dX7_clearDeclarations_7 h2 (by decide) ?_
      change wr X 0 0 8 _ [.int (nI (hL h D)), .int (nI 14)] _
      rw [h3]
      refine rn_ic_ge C 14 14 rfl rfl (by decide) (by decide) (tgt := 24) dX7_clearDeclarations_8 (by decide) (fun _ => ?_) (fun q => absurd q (by omega))
      refine r_aload_n (i := 0) C dX7_clearDeclarations_24 rfl rfl (by first | rfl | exact isR_rf _) ?_
      refine r_iconst (v := 0) C dX7_clearDeclarations_25 (by decide) ?_
      refine r_putI C f_X7_82 dX7_clearDeclarations_26 rfl rfl rfl (by assumption) ?_
      exact r_vret C E dX7_clearDeclarations_29 rfl (by first | exact Nat.le_refl _ | exact Nat.le_of_ble_eq_true rfl | omega) (by first | exact Nat.le_refl _ | exact Nat.le_of_ble_eq_true rfl | omega)
    | succ m ih =>
      intro k hk
      refine r_iload_n (i := 1) C dX7_clearDeclarations_2 rfl rfl ?_
      refine r_aload_n (i := 0) C dX7_clearDeclarations_3 rfl rfl (by first | rfl | exact isR_rf _) ?_
      refine r_getR C f_X7_20 dX7_clearDeclarations_4 rfl (by assumption) ?_
      change wr X 0 0 7 _ [va_rf (hR h fU_declarations r), .int (nI k)] _
      rw [h1]
      refine r_alen (a := D) C dX7_clearDeclarations_7 h2 (by decide) ?_
      change wr X 0 0 8 _ [.int (nI (hL h D)), .int (nI k)] _
      rw [h3]
      refine rn_ic_ge C k 14 rfl rfl (by omega) (by decide) (tgt := 24) dX7_clearDeclarations_8 (by decide) (fun q => absurd q (by omega)) (fun _ => ?_)
      refine r_aload_n (i := 0) C dX7_clearDeclarations_11 rfl rfl (by first | rfl | exact isR_rf _) ?_
      refine r_getR C f_X7_20 dX7_clearDeclarations_12 rfl (by assumption) ?_
      change wr X 0 0 15 _ [va_rf (hR h fU_declarations r)] _
      rw [h1]
      refine r_iload_n (i := 1) C dX7_clearDeclarations_15 rfl rfl ?_
      refine r_null C dX7_clearDeclarations_16 ?_
      refine r_aastN (a := D) (q := 2) C dX7_clearDeclarations_17 h2 (by decide) rfl (show k < hL h D by omega) ?_
      rw [sQ_sQf, nul_s]
      refine r_iinc1 (i := 1) C dX7_clearDeclarations_18 rfl ?_
      rw [nI_1]
      refine r_goto (tgt := 2) C dX7_clearDeclarations_21 (by decide) ?_
      exact ih (k + 1) (by omega)
  refine r_iconst (v := 0) C dX7_clearDeclarations_0 (by decide) ?_
  refine r_istore_n (i := 1) C dX7_clearDeclarations_1 rfl (Nat.le_of_ble_eq_true rfl) ?_
  have h0 := hloop 14 0 rfl
  rw [nul_0, sQf_id rfl] at h0
  exact h0
