/-! ===== Look ===== -/
def LO (h : Hp) (k v s : Nat) : Prop := hK h k = 4 ∧ hR h fL_values k = some v ∧ hR h fL_sources k = some s ∧ hK h v = 100 ∧ hL h v = 14 ∧ hK h s = 100 ∧ hL h s = 14
theorem c_lookInit (l : Launch) (G : Gl) {h : Hp} {k n : Nat} (hk : hK h k = 4) (hn : hN h = n) (hkn : k < n) : MRw l G yX4_init (.code yX4_init cX4_init 1 none) 1 2 28 [.ref k] h (.inl (none, sR (nw (sR (nw h 100 14) fL_values k (some n)) 100 14) fL_sources k (some (n + 1)))) := by
  subst hn
  refine mr_of (by decide +kernel) (Nat.le_of_ble_eq_true rfl) (ct1 (by first | rfl | exact isR_cat (isR_rf _))) (fun X hG hl C E => ?_)
  subst hG hl
  have hN9 : meth_nm X = "<init>" := cx_nm C
  refine r_aload_n (i := 0) C dX4_init_0 rfl rfl (by first | rfl | exact isR_rf _) ?_
  refine r_oinit C dX4_init_1 (by first | exact Nat.le_refl _ | exact Nat.le_of_ble_eq_true rfl | omega) rfl (by decide) l_X4_3 w_oiM w_oiC ?_
  refine r_aload_n (i := 0) C dX4_init_4 rfl rfl (by first | rfl | exact isR_rf _) ?_
  refine r_bipush (v := 14) C dX4_init_5 (by decide) ?_
  refine r_newa_int C dX4_init_7 rfl (by decide) w_arI (by decide) (by decide) ?_
  have hk1 : hK (nw h 100 14) k = 4 := by rw [show hK (nw h 100 14) k = hK h k from va_up_ne _ _ (by omega)]; exact hk
  first | refine r_putFR (o := some _) C f_X4_9 dX4_init_9 rfl hN9 rfl (by assumption) ?_ | refine r_putFR (o := none) C f_X4_9 dX4_init_9 rfl hN9 rfl (by assumption) ?_ | refine r_putFR C f_X4_9 dX4_init_9 rfl hN9 rfl (by assumption) ?_
  refine r_aload_n (i := 0) C dX4_init_12 rfl rfl (by first | rfl | exact isR_rf _) ?_
  refine r_bipush (v := 14) C dX4_init_13 (by decide) ?_
  refine r_newa_int C dX4_init_15 rfl (by decide) w_arI (by decide) (by decide) ?_
  have hk2 : hK (nw (sR (nw h 100 14) fL_values k (some (hN h))) 100 14) k = 4 := by rw [show hK (nw (sR (nw h 100 14) fL_values k (some (hN h))) 100 14) k = hK (nw h 100 14) k from va_up_ne _ _ (by show k ≠ hN h + 1; omega)]; exact hk1
  first | refine r_putFR (o := some _) C f_X4_15 dX4_init_17 rfl hN9 rfl (by assumption) ?_ | refine r_putFR (o := none) C f_X4_15 dX4_init_17 rfl hN9 rfl (by assumption) ?_ | refine r_putFR C f_X4_15 dX4_init_17 rfl hN9 rfl (by assumption) ?_
  exact r_vret C E dX4_init_20 rfl (by first | exact Nat.le_refl _ | exact Nat.le_of_ble_eq_true rfl | omega) (by first | exact Nat.le_refl _ | exact Nat.le_of_ble_eq_true rfl | omega)
theorem c_valueOf (l : Launch) (G : Gl) {h : Hp} {k v s p : Nat} (hO : LO h k v s) (hp : p < 14) : MRw l G yX4_valueOf (.code yX4_valueOf cX4_valueOf 2 (Option.some Jvm.ClassFile.FieldType.int)) 0 0 0 [.ref k, .int (nI p)] h (.inl (some (.int (hA h v p)), h)) := by
  obtain ⟨h1, h2, h3, h4, h5, h6, h7⟩ := hO
  refine mr_of (by decide +kernel) (Nat.le_of_ble_eq_true rfl) (ct2 (by first | rfl | exact isR_cat (isR_rf _)) (by first | rfl | exact isR_cat (isR_rf _))) (fun X hG hl C E => ?_)
  subst hG hl
  refine r_iload_n (i := 1) C dX4_valueOf_0 rfl rfl ?_
  refine r_if_lt (tgt := 22) C dX4_valueOf_1 (by decide) (fun c_1 => ?_) (fun c_1 => ?_)
  · exact absurd c_1 (nI_pos (by omega))
  · refine r_iload_n (i := 1) C dX4_valueOf_4 rfl rfl ?_
    refine r_aload_n (i := 0) C dX4_valueOf_5 rfl rfl (by first | rfl | exact isR_rf _) ?_
    refine r_getR C f_X4_9 dX4_valueOf_6 rfl (by assumption) ?_
    rw [h2]
    refine r_alen C dX4_valueOf_9 h4 (by decide) ?_
    rw [h5]
    refine rn_ic_ge C p 14 rfl rfl (by omega) (by decide) (tgt := 22) dX4_valueOf_10 (by decide) (fun q => absurd q (by omega)) (fun _ => ?_)
    refine r_aload_n (i := 0) C dX4_valueOf_13 rfl rfl (by first | rfl | exact isR_rf _) ?_
    refine r_getR C f_X4_9 dX4_valueOf_14 rfl (by assumption) ?_
    rw [h2]
    refine r_iload_n (i := 1) C dX4_valueOf_17 rfl rfl ?_
    refine r_iald C dX4_valueOf_18 h4 rfl (by omega) ?_
    refine r_goto (tgt := 23) C dX4_valueOf_19 (by decide) ?_
    exact r_iret C E dX4_valueOf_23 rfl rfl (by first | exact Nat.le_refl _ | exact Nat.le_of_ble_eq_true rfl | omega) (by first | exact Nat.le_refl _ | exact Nat.le_of_ble_eq_true rfl | omega)
theorem c_sourceOf (l : Launch) (G : Gl) {h : Hp} {k v s p : Nat} (hO : LO h k v s) (hp : p < 14) : MRw l G yX4_sourceOf (.code yX4_sourceOf cX4_sourceOf 2 (Option.some Jvm.ClassFile.FieldType.int)) 0 0 0 [.ref k, .int (nI p)] h (.inl (some (.int (hA h s p)), h)) := by
  obtain ⟨h1, h2, h3, h4, h5, h6, h7⟩ := hO
  refine mr_of (by decide +kernel) (Nat.le_of_ble_eq_true rfl) (ct2 (by first | rfl | exact isR_cat (isR_rf _)) (by first | rfl | exact isR_cat (isR_rf _))) (fun X hG hl C E => ?_)
  subst hG hl
  refine r_iload_n (i := 1) C dX4_sourceOf_0 rfl rfl ?_
  refine r_if_lt (tgt := 22) C dX4_sourceOf_1 (by decide) (fun c_1 => ?_) (fun c_1 => ?_)
  · exact absurd c_1 (nI_pos (by omega))
  · refine r_iload_n (i := 1) C dX4_sourceOf_4 rfl rfl ?_
    refine r_aload_n (i := 0) C dX4_sourceOf_5 rfl rfl (by first | rfl | exact isR_rf _) ?_
    refine r_getR C f_X4_15 dX4_sourceOf_6 rfl (by assumption) ?_
    rw [h3]
    refine r_alen C dX4_sourceOf_9 h6 (by decide) ?_
    rw [h7]
    refine rn_ic_ge C p 14 rfl rfl (by omega) (by decide) (tgt := 22) dX4_sourceOf_10 (by decide) (fun q => absurd q (by omega)) (fun _ => ?_)
    refine r_aload_n (i := 0) C dX4_sourceOf_13 rfl rfl (by first | rfl | exact isR_rf _) ?_
    refine r_getR C f_X4_15 dX4_sourceOf_14 rfl (by assumption) ?_
    rw [h3]
    refine r_iload_n (i := 1) C dX4_sourceOf_17 rfl rfl ?_
    refine r_iald C dX4_sourceOf_18 h6 rfl (by omega) ?_
    refine r_goto (tgt := 23) C dX4_sourceOf_19 (by decide) ?_
    exact r_iret C E dX4_sourceOf_23 rfl rfl (by first | exact Nat.le_refl _ | exact Nat.le_of_ble_eq_true rfl | omega) (by first | exact Nat.le_refl _ | exact Nat.le_of_ble_eq_true rfl | omega)
theorem c_put (l : Launch) (G : Gl) {h : Hp} {k v s p : Nat} {x z : Int32} (hO : LO h k v s) (hp : p < 14) : MRw l G yX4_put (.code yX4_put cX4_put 4 none) 0 0 0 [.ref k, .int (nI p), .int x, .int z] h (.inl (none, sA (sA h v p x) s p z)) := by
  obtain ⟨h1, h2, h3, h4, h5, h6, h7⟩ := hO
  refine mr_of (by decide +kernel) (Nat.le_of_ble_eq_true rfl) (ct4 (by first | rfl | exact isR_cat (isR_rf _)) (by first | rfl | exact isR_cat (isR_rf _)) (by first | rfl | exact isR_cat (isR_rf _)) (by first | rfl | exact isR_cat (isR_rf _))) (fun X hG hl C E => ?_)
  subst hG hl
  refine r_iload_n (i := 1) C dX4_put_0 rfl rfl ?_
  refine r_if_lt (tgt := 36) C dX4_put_1 (by decide) (fun c_1 => ?_) (fun c_1 => ?_)
  · exact absurd c_1 (nI_pos (by omega))
  · refine r_iload_n (i := 1) C dX4_put_4 rfl rfl ?_
    refine r_aload_n (i := 0) C dX4_put_5 rfl rfl (by first | rfl | exact isR_rf _) ?_
    refine r_getR C f_X4_9 dX4_put_6 rfl (by assumption) ?_
    rw [h2]
    refine r_alen C dX4_put_9 h4 (by decide) ?_
    rw [h5]
    refine rn_ic_ge C p 14 rfl rfl (by omega) (by decide) (tgt := 36) dX4_put_10 (by decide) (fun q => absurd q (by omega)) (fun _ => ?_)
    refine r_iload_n (i := 1) C dX4_put_13 rfl rfl ?_
    refine r_aload_n (i := 0) C dX4_put_14 rfl rfl (by first | rfl | exact isR_rf _) ?_
    refine r_getR C f_X4_15 dX4_put_15 rfl (by assumption) ?_
    rw [h3]
    refine r_alen C dX4_put_18 h6 (by decide) ?_
    rw [h7]
    refine rn_ic_ge C p 14 rfl rfl (by omega) (by decide) (tgt := 36) dX4_put_19 (by decide) (fun q => absurd q (by omega)) (fun _ => ?_)
    refine r_aload_n (i := 0) C dX4_put_22 rfl rfl (by first | rfl | exact isR_rf _) ?_
    refine r_getR C f_X4_9 dX4_put_23 rfl (by assumption) ?_
    rw [h2]
    refine r_iload_n (i := 1) C dX4_put_26 rfl rfl ?_
    refine r_iload_n (i := 2) C dX4_put_27 rfl rfl ?_
    refine r_iast C dX4_put_28 h4 rfl (by omega) ?_
    refine r_aload_n (i := 0) C dX4_put_29 rfl rfl (by first | rfl | exact isR_rf _) ?_
    refine r_getR C f_X4_15 dX4_put_30 rfl (show hK (sA h v p x) k = 4 from h1) ?_
    rw [show hR (sA h v p x) fL_sources k = some s from h3]
    refine r_iload_n (i := 1) C dX4_put_33 rfl rfl ?_
    refine r_iload_n (i := 3) C dX4_put_34 rfl rfl ?_
    refine r_iast C dX4_put_35 (show hK (sA h v p x) s = 100 from h6) rfl (show p < hL (sA h v p x) s from (by show p < hL h s; omega)) ?_
    exact r_vret C E dX4_put_36 rfl (by first | exact Nat.le_refl _ | exact Nat.le_of_ble_eq_true rfl | omega) (by first | exact Nat.le_refl _ | exact Nat.le_of_ble_eq_true rfl | omega)
/-- the look with a box begun -/
def bgB (h : Hp) (k : Nat) (b : Int32) : Hp := sI (sI (sI (sI (sI (sI (sI (sI h fL_hasBox k b) fL_left k 0) fL_top k 0) fL_width k 0) fL_height k 0) fL_lineCount k 0) fL_gain k 0) fL_isFrozen k 0
theorem c_beginBox (l : Launch) (G : Gl) {h : Hp} {k : Nat} {b : Int32} (hk : hK h k = 4) (hb : b = 0 ∨ b = 1) : MRw l G yX4_beginBox (.code yX4_beginBox cX4_beginBox 2 none) 0 0 0 [.ref k, .int b] h (.inl (none, bgB h k b)) := by
  refine mr_of (by decide +kernel) (Nat.le_of_ble_eq_true rfl) (ct2 (by first | rfl | exact isR_cat (isR_rf _)) (by first | rfl | exact isR_cat (isR_rf _))) (fun X hG hl C E => ?_)
  subst hG hl
  refine r_aload_n (i := 0) C dX4_beginBox_0 rfl rfl (by first | rfl | exact isR_rf _) ?_
  refine r_iload_n (i := 1) C dX4_beginBox_1 rfl rfl ?_
  refine r_putI C f_X4_18 dX4_beginBox_2 rfl (bo_nar (by first | exact Or.inl rfl | exact Or.inr rfl | assumption)).1 (bo_nar (by first | exact Or.inl rfl | exact Or.inr rfl | assumption)).2 (by assumption) ?_
  refine r_aload_n (i := 0) C dX4_beginBox_5 rfl rfl (by first | rfl | exact isR_rf _) ?_
  refine r_iconst (v := 0) C dX4_beginBox_6 (by decide) ?_
  refine r_putI C f_X4_22 dX4_beginBox_7 rfl rfl rfl (by assumption) ?_
  refine r_aload_n (i := 0) C dX4_beginBox_10 rfl rfl (by first | rfl | exact isR_rf _) ?_
  refine r_iconst (v := 0) C dX4_beginBox_11 (by decide) ?_
  refine r_putI C f_X4_26 dX4_beginBox_12 rfl rfl rfl (by assumption) ?_
  refine r_aload_n (i := 0) C dX4_beginBox_15 rfl rfl (by first | rfl | exact isR_rf _) ?_
  refine r_iconst (v := 0) C dX4_beginBox_16 (by decide) ?_
  refine r_putI C f_X4_29 dX4_beginBox_17 rfl rfl rfl (by assumption) ?_
  refine r_aload_n (i := 0) C dX4_beginBox_20 rfl rfl (by first | rfl | exact isR_rf _) ?_
  refine r_iconst (v := 0) C dX4_beginBox_21 (by decide) ?_
  refine r_putI C f_X4_32 dX4_beginBox_22 rfl rfl rfl (by assumption) ?_
  refine r_aload_n (i := 0) C dX4_beginBox_25 rfl rfl (by first | rfl | exact isR_rf _) ?_
  refine r_iconst (v := 0) C dX4_beginBox_26 (by decide) ?_
  refine r_putI C f_X4_35 dX4_beginBox_27 rfl rfl rfl (by assumption) ?_
  refine r_aload_n (i := 0) C dX4_beginBox_30 rfl rfl (by first | rfl | exact isR_rf _) ?_
  refine r_iconst (v := 0) C dX4_beginBox_31 (by decide) ?_
  refine r_putI C f_X4_38 dX4_beginBox_32 rfl rfl rfl (by assumption) ?_
  refine r_aload_n (i := 0) C dX4_beginBox_35 rfl rfl (by first | rfl | exact isR_rf _) ?_
  refine r_iconst (v := 0) C dX4_beginBox_36 (by decide) ?_
  refine r_putI C f_X4_41 dX4_beginBox_37 rfl (bo_nar (by first | exact Or.inl rfl | exact Or.inr rfl | assumption)).1 (bo_nar (by first | exact Or.inl rfl | exact Or.inr rfl | assumption)).2 (by assumption) ?_
  exact r_vret C E dX4_beginBox_40 rfl (by first | exact Nat.le_refl _ | exact Nat.le_of_ble_eq_true rfl | omega) (by first | exact Nat.le_refl _ | exact Nat.le_of_ble_eq_true rfl | omega)
theorem c_atMost (l : Launch) (G : Gl) {h : Hp} {k v s : Nat} {w : Int32} (hO : LO h k v s) : MRw l G yX4_atMost (.code yX4_atMost cX4_atMost 3 (Option.some Jvm.ClassFile.FieldType.int)) 0 0 0 [.ref k, .int w] h (.inl (some (.int (if hA h v 2 = -2 then w else if hA h v 2 ≤ w then hA h v 2 else w)), h)) := by
  obtain ⟨h1, h2, h3, h4, h5, h6, h7⟩ := hO
  refine mr_of (by decide +kernel) (Nat.le_of_ble_eq_true rfl) (ct2 (by first | rfl | exact isR_cat (isR_rf _)) (by first | rfl | exact isR_cat (isR_rf _))) (fun X hG hl C E => ?_)
  subst hG hl
  refine r_iconst (v := 2) C dX4_atMost_0 (by decide) ?_
  refine r_aload_n (i := 0) C dX4_atMost_1 rfl rfl (by first | rfl | exact isR_rf _) ?_
  refine r_getR C f_X4_9 dX4_atMost_2 rfl (by assumption) ?_
  rw [h2]
  refine r_alen C dX4_atMost_5 h4 (by decide) ?_
  rw [h5]
  refine rn_ic_ge C 2 14 rfl rfl (by omega) (by decide) (tgt := 18) dX4_atMost_6 (by decide) (fun q => absurd q (by omega)) (fun _ => ?_)
  refine r_aload_n (i := 0) C dX4_atMost_9 rfl rfl (by first | rfl | exact isR_rf _) ?_
  refine r_getR C f_X4_9 dX4_atMost_10 rfl (by assumption) ?_
  rw [h2]
  refine r_iconst (v := 2) C dX4_atMost_13 (by decide) ?_
  refine r_iald (j := 2) C dX4_atMost_14 h4 rfl (by omega) ?_
  refine r_goto (tgt := 20) C dX4_atMost_15 (by decide) ?_
  refine r_istore_n (i := 2) C dX4_atMost_20 rfl (Nat.le_of_ble_eq_true rfl) ?_
  refine r_iload_n (i := 2) C dX4_atMost_21 rfl rfl ?_
  refine r_bipush (v := (-2)) C dX4_atMost_22 (by decide) ?_
  refine r_ic_eq (tgt := 32) C dX4_atMost_24 (by decide) (fun c_24 => ?_) (fun c_24 => ?_)
  · first | rw [if_pos c_24] at E | rw [if_neg c_24] at E | rw [if_neg (fun z => z c_24)] at E | skip
    refine r_iload_n (i := 1) C dX4_atMost_32 rfl rfl ?_
    refine r_goto (tgt := 37) C dX4_atMost_33 (by decide) ?_
    exact r_iret C E dX4_atMost_37 rfl rfl (by first | exact Nat.le_refl _ | exact Nat.le_of_ble_eq_true rfl | omega) (by first | exact Nat.le_refl _ | exact Nat.le_of_ble_eq_true rfl | omega)
  · first | rw [if_pos c_24] at E | rw [if_neg c_24] at E | rw [if_neg (fun z => z c_24)] at E | skip
    refine r_iload_n (i := 2) C dX4_atMost_27 rfl rfl ?_
    refine r_iload_n (i := 1) C dX4_atMost_28 rfl rfl ?_
    refine r_ic_le (tgt := 36) C dX4_atMost_29 (by decide) (fun c_29 => ?_) (fun c_29 => ?_)
    · first | rw [if_pos c_29] at E | rw [if_neg c_29] at E | rw [if_neg (fun z => z c_29)] at E | skip
      refine r_iload_n (i := 2) C dX4_atMost_36 rfl rfl ?_
      exact r_iret C E dX4_atMost_37 rfl rfl (by first | exact Nat.le_refl _ | exact Nat.le_of_ble_eq_true rfl | omega) (by first | exact Nat.le_refl _ | exact Nat.le_of_ble_eq_true rfl | omega)
    · first | rw [if_pos c_29] at E | rw [if_neg c_29] at E | rw [if_neg (fun z => z c_29)] at E | skip
      refine r_iload_n (i := 1) C dX4_atMost_32 rfl rfl ?_
      refine r_goto (tgt := 37) C dX4_atMost_33 (by decide) ?_
      exact r_iret C E dX4_atMost_37 rfl rfl (by first | exact Nat.le_refl _ | exact Nat.le_of_ble_eq_true rfl | omega) (by first | exact Nat.le_refl _ | exact Nat.le_of_ble_eq_true rfl | omega)
theorem c_heightWM (l : Launch) (G : Gl) {h : Hp} {k v s : Nat} (hO : LO h k v s) : MRw l G yX4_heightWithMargins (.code yX4_heightWithMargins cX4_heightWithMargins 1 (Option.some Jvm.ClassFile.FieldType.int)) 1 0 0 [.ref k] h (.inl (some (.int (hA h v 3 + hI h fL_height k + hA h v 4)), h)) := by
  have hk := hO.1
  refine mr_of (by decide +kernel) (Nat.le_of_ble_eq_true rfl) (ct1 (by first | rfl | exact isR_cat (isR_rf _))) (fun X hG hl C E => ?_)
  subst hG hl
  refine r_aload_n (i := 0) C dX4_heightWithMargins_0 rfl rfl (by first | rfl | exact isR_rf _) ?_
  refine r_iconst (v := 3) C dX4_heightWithMargins_1 (by decide) ?_
  refine r_callVs C v_X4_44 (c_valueOf _ _ (p := 3) hO (by decide)) dX4_heightWithMargins_2 (by assumption) (ci := 4) (by decide) rfl rfl (As := [_]) rfl rfl rfl (by first | exact Nat.le_refl _ | exact Nat.le_of_ble_eq_true rfl | omega) (Nat.le_of_ble_eq_true rfl) (by first | exact Nat.le_refl _ | exact Nat.le_of_ble_eq_true rfl | omega) (by first | exact Nat.le_refl _ | exact Nat.le_of_ble_eq_true rfl | omega) ?_
  refine r_aload_n (i := 0) C dX4_heightWithMargins_5 rfl rfl (by first | rfl | exact isR_rf _) ?_
  refine r_getI C f_X4_32 dX4_heightWithMargins_6 rfl (by assumption) ?_
  refine r_iadd C dX4_heightWithMargins_9 ?_
  refine r_aload_n (i := 0) C dX4_heightWithMargins_10 rfl rfl (by first | rfl | exact isR_rf _) ?_
  refine r_iconst (v := 4) C dX4_heightWithMargins_11 (by decide) ?_
  refine r_callVs C v_X4_44 (c_valueOf _ _ (p := 4) hO (by decide)) dX4_heightWithMargins_12 (by assumption) (ci := 4) (by decide) rfl rfl (As := [_]) rfl rfl rfl (by first | exact Nat.le_refl _ | exact Nat.le_of_ble_eq_true rfl | omega) (Nat.le_of_ble_eq_true rfl) (by first | exact Nat.le_refl _ | exact Nat.le_of_ble_eq_true rfl | omega) (by first | exact Nat.le_refl _ | exact Nat.le_of_ble_eq_true rfl | omega) ?_
  refine r_iadd C dX4_heightWithMargins_15 ?_
  exact r_iret C E dX4_heightWithMargins_16 rfl rfl (by first | exact Nat.le_refl _ | exact Nat.le_of_ble_eq_true rfl | omega) (by first | exact Nat.le_refl _ | exact Nat.le_of_ble_eq_true rfl | omega)
def lme (h : Hp) (k w : Nat) : Int32 := if hI h fL_hasBox k = 0 then -1 else match w with
  | 0 => hI h fL_left k
  | 1 => hI h fL_top k
  | 2 => hI h fL_width k
  | _ => hI h fL_height k
theorem c_measure (l : Launch) (G : Gl) {h : Hp} {k w : Nat} (hk : hK h k = 4) (hw : w < 4) : MRw l G yX4_measure (.code yX4_measure cX4_measure 2 (Option.some Jvm.ClassFile.FieldType.int)) 0 0 0 [.ref k, .int (nI w)] h (.inl (some (.int (lme h k w)), h)) := by
  refine mr_of (by decide +kernel) (Nat.le_of_ble_eq_true rfl) (ct2 (by first | rfl | exact isR_cat (isR_rf _)) (by first | rfl | exact isR_cat (isR_rf _))) (fun X hG hl C E => ?_)
  subst hG hl
  refine r_aload_n (i := 0) C dX4_measure_0 rfl rfl (by first | rfl | exact isR_rf _) ?_
  refine r_getI C f_X4_18 dX4_measure_1 rfl (by assumption) ?_
  unfold lme at E
  refine r_if_ne (tgt := 9) C dX4_measure_4 (by decide) (fun c_4 => ?_) (fun c_4 => ?_)
  · rw [if_neg c_4] at E
    refine r_iload_n (i := 1) C dX4_measure_9 rfl rfl ?_
    match w, hw with
    | 0, _ =>
      refine r_tsw (off := 26) (tgt := 36) C dX4_measure_10 (by decide) (by decide) (by decide +kernel) (by decide) ?_
      refine r_aload_n (i := 0) C dX4_measure_36 rfl rfl (by first | rfl | exact isR_rf _) ?_
      refine r_getI C f_X4_22 dX4_measure_37 rfl (by assumption) ?_
      exact r_iret C E dX4_measure_40 rfl rfl (by first | exact Nat.le_refl _ | exact Nat.le_of_ble_eq_true rfl | omega) (by first | exact Nat.le_refl _ | exact Nat.le_of_ble_eq_true rfl | omega)
    | 1, _ =>
      refine r_tsw (off := 31) (tgt := 41) C dX4_measure_10 (by decide) (by decide) (by decide +kernel) (by decide) ?_
      refine r_aload_n (i := 0) C dX4_measure_41 rfl rfl (by first | rfl | exact isR_rf _) ?_
      refine r_getI C f_X4_26 dX4_measure_42 rfl (by assumption) ?_
      exact r_iret C E dX4_measure_45 rfl rfl (by first | exact Nat.le_refl _ | exact Nat.le_of_ble_eq_true rfl | omega) (by first | exact Nat.le_refl _ | exact Nat.le_of_ble_eq_true rfl | omega)
    | 2, _ =>
      refine r_tsw (off := 36) (tgt := 46) C dX4_measure_10 (by decide) (by decide) (by decide +kernel) (by decide) ?_
      refine r_aload_n (i := 0) C dX4_measure_46 rfl rfl (by first | rfl | exact isR_rf _) ?_
      refine r_getI C f_X4_29 dX4_measure_47 rfl (by assumption) ?_
      exact r_iret C E dX4_measure_50 rfl rfl (by first | exact Nat.le_refl _ | exact Nat.le_of_ble_eq_true rfl | omega) (by first | exact Nat.le_refl _ | exact Nat.le_of_ble_eq_true rfl | omega)
    | 3, _ =>
      refine r_tswo (tgt := 51) C dX4_measure_10 (by decide) (by decide) ?_
      refine r_aload_n (i := 0) C dX4_measure_51 rfl rfl (by first | rfl | exact isR_rf _) ?_
      refine r_getI C f_X4_32 dX4_measure_52 rfl (by assumption) ?_
      exact r_iret C E dX4_measure_55 rfl rfl (by first | exact Nat.le_refl _ | exact Nat.le_of_ble_eq_true rfl | omega) (by first | exact Nat.le_refl _ | exact Nat.le_of_ble_eq_true rfl | omega)
    | w + 4, q => exact absurd q (by omega)
  · rw [if_pos c_4] at E
    refine r_iconst (v := (-1)) C dX4_measure_7 (by decide) ?_
    exact r_iret C E dX4_measure_8 rfl rfl (by first | exact Nat.le_refl _ | exact Nat.le_of_ble_eq_true rfl | omega) (by first | exact Nat.le_refl _ | exact Nat.le_of_ble_eq_true rfl | omega)
/-- two looks are the same -/
def lsm (h : Hp) (k v k' v' : Nat) : Prop := (∀ p, p < 14 → hA h v p = hA h v' p) ∧ hI h fL_hasBox k = hI h fL_hasBox k' ∧ hI h fL_left k = hI h fL_left k' ∧ hI h fL_top k = hI h fL_top k' ∧ hI h fL_width k = hI h fL_width k' ∧ hI h fL_height k = hI h fL_height k'
theorem c_isSame (l : Launch) (G : Gl) {h : Hp} {k v s k' v' s' : Nat} (hO : LO h k v s) (hO' : LO h k' v' s') : ∃ r : Int32, MRw l G yX4_isSame (.code yX4_isSame cX4_isSame 3 (Option.some Jvm.ClassFile.FieldType.boolean)) 1 0 0 [.ref k, .ref k'] h (.inl (some (.int r), h)) ∧ (r = 1 ↔ lsm h k v k' v') ∧ (r = 0 ∨ r = 1) := by
  have hk := hO.1
  have hk' := hO'.1
  by_cases hall : lsm h k v k' v'
  · refine ⟨1, ?_, ⟨fun _ => hall, fun _ => rfl⟩, Or.inr rfl⟩
    obtain ⟨q0, q1, q2, q3, q4, q5⟩ := hall
    refine mr_of (by decide +kernel) (Nat.le_of_ble_eq_true rfl) (ct2 (by first | rfl | exact isR_cat (isR_rf _)) (by first | rfl | exact isR_cat (isR_rf _))) (fun X hG hl C E => ?_)
    subst hG hl
    have hloop : ∀ (m p : Nat), p + m = 14 → wr X 0 0 2 [.ref k, .ref k', .int (nI p)] [] h := by
      intro m
      induction m with
      | zero =>
        intro p hp
        have : p = 14 := by omega
        subst this
        refine r_iload_n (i := 2) C dX4_isSame_2 rfl rfl ?_
        refine r_bipush (v := 14) C dX4_isSame_3 (by decide) ?_
        refine rn_ic_ge C 14 14 rfl rfl (by decide) (by decide) (tgt := 29) dX4_isSame_5 (by decide) (fun _ => ?_) (fun q => absurd q (by omega))
        refine r_aload_n (i := 0) C dX4_isSame_29 rfl rfl (by first | rfl | exact isR_rf _) ?_
        refine r_getI C f_X4_18 dX4_isSame_30 rfl (by assumption) ?_
        refine r_aload_n (i := 1) C dX4_isSame_33 rfl rfl (by first | rfl | exact isR_rf _) ?_
        refine r_getI C f_X4_18 dX4_isSame_34 rfl (by assumption) ?_
        refine r_ic_ne (tgt := 88) C dX4_isSame_37 (by decide) (fun q => absurd q1 q) (fun _ => ?_)
        refine r_aload_n (i := 0) C dX4_isSame_40 rfl rfl (by first | rfl | exact isR_rf _) ?_
        refine r_getI C f_X4_22 dX4_isSame_41 rfl (by assumption) ?_
        refine r_aload_n (i := 1) C dX4_isSame_44 rfl rfl (by first | rfl | exact isR_rf _) ?_
        refine r_getI C f_X4_22 dX4_isSame_45 rfl (by assumption) ?_
        refine r_ic_ne (tgt := 88) C dX4_isSame_48 (by decide) (fun q => absurd q2 q) (fun _ => ?_)
        refine r_aload_n (i := 0) C dX4_isSame_51 rfl rfl (by first | rfl | exact isR_rf _) ?_
        refine r_getI C f_X4_26 dX4_isSame_52 rfl (by assumption) ?_
        refine r_aload_n (i := 1) C dX4_isSame_55 rfl rfl (by first | rfl | exact isR_rf _) ?_
        refine r_getI C f_X4_26 dX4_isSame_56 rfl (by assumption) ?_
        refine r_ic_ne (tgt := 88) C dX4_isSame_59 (by decide) (fun q => absurd q3 q) (fun _ => ?_)
        refine r_aload_n (i := 0) C dX4_isSame_62 rfl rfl (by first | rfl | exact isR_rf _) ?_
        refine r_getI C f_X4_29 dX4_isSame_63 rfl (by assumption) ?_
        refine r_aload_n (i := 1) C dX4_isSame_66 rfl rfl (by first | rfl | exact isR_rf _) ?_
        refine r_getI C f_X4_29 dX4_isSame_67 rfl (by assumption) ?_
        refine r_ic_ne (tgt := 88) C dX4_isSame_70 (by decide) (fun q => absurd q4 q) (fun _ => ?_)
        refine r_aload_n (i := 0) C dX4_isSame_73 rfl rfl (by first | rfl | exact isR_rf _) ?_
        refine r_getI C f_X4_32 dX4_isSame_74 rfl (by assumption) ?_
        refine r_aload_n (i := 1) C dX4_isSame_77 rfl rfl (by first | rfl | exact isR_rf _) ?_
        refine r_getI C f_X4_32 dX4_isSame_78 rfl (by assumption) ?_
        refine r_ic_ne (tgt := 88) C dX4_isSame_81 (by decide) (fun q => absurd q5 q) (fun _ => ?_)
        refine r_iconst (v := 1) C dX4_isSame_84 (by decide) ?_
        refine r_goto (tgt := 89) C dX4_isSame_85 (by decide) ?_
        exact r_iret C E dX4_isSame_89 rfl (bo_nar (by first | exact Or.inl rfl | exact Or.inr rfl | assumption)).1 (by first | exact Nat.le_refl _ | exact Nat.le_of_ble_eq_true rfl | omega) (by first | exact Nat.le_refl _ | exact Nat.le_of_ble_eq_true rfl | omega)
      | succ m ih =>
        intro p hp
        refine r_iload_n (i := 2) C dX4_isSame_2 rfl rfl ?_
        refine r_bipush (v := 14) C dX4_isSame_3 (by decide) ?_
        refine rn_ic_ge C p 14 rfl rfl (by omega) (by decide) (tgt := 29) dX4_isSame_5 (by decide) (fun q => absurd q (by omega)) (fun _ => ?_)
        refine r_aload_n (i := 0) C dX4_isSame_8 rfl rfl (by first | rfl | exact isR_rf _) ?_
        refine r_iload_n (i := 2) C dX4_isSame_9 rfl rfl ?_
        refine r_callVs C v_X4_44 (c_valueOf _ _ hO (by omega)) dX4_isSame_10 (by assumption) (ci := 4) (by decide) rfl rfl (As := [_]) rfl rfl rfl (by first | exact Nat.le_refl _ | exact Nat.le_of_ble_eq_true rfl | omega) (Nat.le_of_ble_eq_true rfl) (by first | exact Nat.le_refl _ | exact Nat.le_of_ble_eq_true rfl | omega) (by first | exact Nat.le_refl _ | exact Nat.le_of_ble_eq_true rfl | omega) ?_
        refine r_aload_n (i := 1) C dX4_isSame_13 rfl rfl (by first | rfl | exact isR_rf _) ?_
        refine r_iload_n (i := 2) C dX4_isSame_14 rfl rfl ?_
        refine r_callVs C v_X4_44 (c_valueOf _ _ hO' (by omega)) dX4_isSame_15 (by assumption) (ci := 4) (by decide) rfl rfl (As := [_]) rfl rfl rfl (by first | exact Nat.le_refl _ | exact Nat.le_of_ble_eq_true rfl | omega) (Nat.le_of_ble_eq_true rfl) (by first | exact Nat.le_refl _ | exact Nat.le_of_ble_eq_true rfl | omega) (by first | exact Nat.le_refl _ | exact Nat.le_of_ble_eq_true rfl | omega) ?_
        refine r_ic_eq (tgt := 23) C dX4_isSame_18 (by decide) (fun _ => ?_) (fun q => absurd (q0 p (by omega)) q)
        refine r_iinc1 (i := 2) C dX4_isSame_23 rfl ?_
        rw [nI_1]
        refine r_goto (tgt := 2) C dX4_isSame_26 (by decide) ?_
        exact ih (p + 1) (by omega)
    refine r_iconst (v := 0) C dX4_isSame_0 (by decide) ?_
    refine r_istore_n (i := 2) C dX4_isSame_1 rfl (Nat.le_of_ble_eq_true rfl) ?_
    exact hloop 14 0 rfl
  · refine ⟨0, ?_, ⟨fun z => absurd z (by decide), fun z => absurd z hall⟩, Or.inl rfl⟩
    refine mr_of (by decide +kernel) (Nat.le_of_ble_eq_true rfl) (ct2 (by first | rfl | exact isR_cat (isR_rf _)) (by first | rfl | exact isR_cat (isR_rf _))) (fun X hG hl C E => ?_)
    subst hG hl
    have hloop : ∀ (m p : Nat), p + m = 14 → (∀ j, j < p → hA h v j = hA h v' j) → wr X 0 0 2 [.ref k, .ref k', .int (nI p)] [] h := by
      intro m
      induction m with
      | zero =>
        intro p hp hall0
        have : p = 14 := by omega
        subst this
        refine r_iload_n (i := 2) C dX4_isSame_2 rfl rfl ?_
        refine r_bipush (v := 14) C dX4_isSame_3 (by decide) ?_
        refine rn_ic_ge C 14 14 rfl rfl (by decide) (by decide) (tgt := 29) dX4_isSame_5 (by decide) (fun _ => ?_) (fun q => absurd q (by omega))
        have hz : wr X 0 0 88 [.ref k, .ref k', .int (nI 14)] [] h := by
          refine r_iconst (v := 0) C dX4_isSame_88 (by decide) ?_
          exact r_iret C E dX4_isSame_89 rfl (bo_nar (by first | exact Or.inl rfl | exact Or.inr rfl | assumption)).1 (by first | exact Nat.le_refl _ | exact Nat.le_of_ble_eq_true rfl | omega) (by first | exact Nat.le_refl _ | exact Nat.le_of_ble_eq_true rfl | omega)
        refine r_aload_n (i := 0) C dX4_isSame_29 rfl rfl (by first | rfl | exact isR_rf _) ?_
        refine r_getI C f_X4_18 dX4_isSame_30 rfl (by assumption) ?_
        refine r_aload_n (i := 1) C dX4_isSame_33 rfl rfl (by first | rfl | exact isR_rf _) ?_
        refine r_getI C f_X4_18 dX4_isSame_34 rfl (by assumption) ?_
        refine r_ic_ne (tgt := 88) C dX4_isSame_37 (by decide) (fun _ => hz) (fun q1 => ?_)
        refine r_aload_n (i := 0) C dX4_isSame_40 rfl rfl (by first | rfl | exact isR_rf _) ?_
        refine r_getI C f_X4_22 dX4_isSame_41 rfl (by assumption) ?_
        refine r_aload_n (i := 1) C dX4_isSame_44 rfl rfl (by first | rfl | exact isR_rf _) ?_
        refine r_getI C f_X4_22 dX4_isSame_45 rfl (by assumption) ?_
        refine r_ic_ne (tgt := 88) C dX4_isSame_48 (by decide) (fun _ => hz) (fun q2 => ?_)
        refine r_aload_n (i := 0) C dX4_isSame_51 rfl rfl (by first | rfl | exact isR_rf _) ?_
        refine r_getI C f_X4_26 dX4_isSame_52 rfl (by assumption) ?_
        refine r_aload_n (i := 1) C dX4_isSame_55 rfl rfl (by first | rfl | exact isR_rf _) ?_
        refine r_getI C f_X4_26 dX4_isSame_56 rfl (by assumption) ?_
        refine r_ic_ne (tgt := 88) C dX4_isSame_59 (by decide) (fun _ => hz) (fun q3 => ?_)
        refine r_aload_n (i := 0) C dX4_isSame_62 rfl rfl (by first | rfl | exact isR_rf _) ?_
        refine r_getI C f_X4_29 dX4_isSame_63 rfl (by assumption) ?_
        refine r_aload_n (i := 1) C dX4_isSame_66 rfl rfl (by first | rfl | exact isR_rf _) ?_
        refine r_getI C f_X4_29 dX4_isSame_67 rfl (by assumption) ?_
        refine r_ic_ne (tgt := 88) C dX4_isSame_70 (by decide) (fun _ => hz) (fun q4 => ?_)
        refine r_aload_n (i := 0) C dX4_isSame_73 rfl rfl (by first | rfl | exact isR_rf _) ?_
        refine r_getI C f_X4_32 dX4_isSame_74 rfl (by assumption) ?_
        refine r_aload_n (i := 1) C dX4_isSame_77 rfl rfl (by first | rfl | exact isR_rf _) ?_
        refine r_getI C f_X4_32 dX4_isSame_78 rfl (by assumption) ?_
        refine r_ic_ne (tgt := 88) C dX4_isSame_81 (by decide) (fun _ => hz) (fun q5 => ?_)
        exact absurd ⟨hall0, q1, q2, q3, q4, q5⟩ hall
      | succ m ih =>
        intro p hp hall0
        refine r_iload_n (i := 2) C dX4_isSame_2 rfl rfl ?_
        refine r_bipush (v := 14) C dX4_isSame_3 (by decide) ?_
        refine rn_ic_ge C p 14 rfl rfl (by omega) (by decide) (tgt := 29) dX4_isSame_5 (by decide) (fun q => absurd q (by omega)) (fun _ => ?_)
        refine r_aload_n (i := 0) C dX4_isSame_8 rfl rfl (by first | rfl | exact isR_rf _) ?_
        refine r_iload_n (i := 2) C dX4_isSame_9 rfl rfl ?_
        refine r_callVs C v_X4_44 (c_valueOf _ _ hO (by omega)) dX4_isSame_10 (by assumption) (ci := 4) (by decide) rfl rfl (As := [_]) rfl rfl rfl (by first | exact Nat.le_refl _ | exact Nat.le_of_ble_eq_true rfl | omega) (Nat.le_of_ble_eq_true rfl) (by first | exact Nat.le_refl _ | exact Nat.le_of_ble_eq_true rfl | omega) (by first | exact Nat.le_refl _ | exact Nat.le_of_ble_eq_true rfl | omega) ?_
        refine r_aload_n (i := 1) C dX4_isSame_13 rfl rfl (by first | rfl | exact isR_rf _) ?_
        refine r_iload_n (i := 2) C dX4_isSame_14 rfl rfl ?_
        refine r_callVs C v_X4_44 (c_valueOf _ _ hO' (by omega)) dX4_isSame_15 (by assumption) (ci := 4) (by decide) rfl rfl (As := [_]) rfl rfl rfl (by first | exact Nat.le_refl _ | exact Nat.le_of_ble_eq_true rfl | omega) (Nat.le_of_ble_eq_true rfl) (by first | exact Nat.le_refl _ | exact Nat.le_of_ble_eq_true rfl | omega) (by first | exact Nat.le_refl _ | exact Nat.le_of_ble_eq_true rfl | omega) ?_
        refine r_ic_eq (tgt := 23) C dX4_isSame_18 (by decide) (fun q => ?_) (fun _ => ?_)
        · refine r_iinc1 (i := 2) C dX4_isSame_23 rfl ?_
          rw [nI_1]
          refine r_goto (tgt := 2) C dX4_isSame_26 (by decide) ?_
          exact ih (p + 1) (by omega) (fun j hj => by
            rcases Nat.lt_or_ge j p with c | c
            · exact hall0 j c
            · rw [show j = p by omega]; exact q)
        · refine r_iconst (v := 0) C dX4_isSame_21 (by decide) ?_
          exact r_iret C E dX4_isSame_22 rfl (bo_nar (by first | exact Or.inl rfl | exact Or.inr rfl | assumption)).1 (by first | exact Nat.le_refl _ | exact Nat.le_of_ble_eq_true rfl | omega) (by first | exact Nat.le_refl _ | exact Nat.le_of_ble_eq_true rfl | omega)
    refine r_iconst (v := 0) C dX4_isSame_0 (by decide) ?_
    refine r_istore_n (i := 2) C dX4_isSame_1 rfl (Nat.le_of_ble_eq_true rfl) ?_
    exact hloop 14 0 rfl (fun j hj => absurd hj (by omega))
