/-! ===== the public calls that read ===== -/
theorem c_fits_ok (l : Launch) (G : Gl) {h : Hp} {H r e : Nat} {x y v : Int32} (hkH : hK h H = 9) (Mr : MRw l G yX11_ruleOf (.code yX11_ruleOf cX11_ruleOf 3 (Option.some (Jvm.ClassFile.FieldType.object "CascadeHouse$Rule"))) 8 1 6 [.ref H, .int x] h (.inl (some (.ref r), h))) (Me : MRw l G yX11_elementOf (.code yX11_elementOf cX11_elementOf 3 (Option.some (Jvm.ClassFile.FieldType.object "CascadeHouse$Element"))) 8 1 6 [.ref H, .int y] h (.inl (some (.ref e), h))) (hk : hK h r = 6) (Ms : MRw l G yX7_selects (.code yX7_selects cX7_selects 2 (Option.some Jvm.ClassFile.FieldType.boolean)) 7 0 0 [.ref r, .ref e] h (.inl (some (.int v), h))) (hv : v = 0 ∨ v = 1) : MRw l G yX11_fits (.code yX11_fits cX11_fits 4 (Option.some Jvm.ClassFile.FieldType.boolean)) 12 8 200 [.ref H, .int x, .int y] h (.inl (some (.int v), h)) := by
  refine mr_of (by decide +kernel) (Nat.le_of_ble_eq_true rfl) (ct3 (by first | rfl | exact isR_cat (isR_rf _)) (by first | rfl | exact isR_cat (isR_rf _)) (by first | rfl | exact isR_cat (isR_rf _))) (fun X hG hl C E => ?_)
  subst hG hl
  refine r_aload_n (i := 0) C dX11_fits_0 rfl rfl (by first | rfl | exact isR_rf _) ?_
  refine r_iload_n (i := 1) C dX11_fits_1 rfl rfl ?_
  refine r_callVs C v_X11_126 Mr dX11_fits_2 (by assumption) (ci := 9) (by decide) rfl rfl (As := [_]) rfl rfl rfl (by first | exact Nat.le_refl _ | exact Nat.le_of_ble_eq_true rfl | omega) (Nat.le_of_ble_eq_true rfl) (by first | exact Nat.le_refl _ | exact Nat.le_of_ble_eq_true rfl | omega) (by first | exact Nat.le_refl _ | exact Nat.le_of_ble_eq_true rfl | omega) ?_
  refine r_astore_n (i := 3) C dX11_fits_5 rfl (Nat.le_of_ble_eq_true rfl) (by first | rfl | exact isR_rf _) ?_
  refine r_aload_n (i := 3) C dX11_fits_6 rfl rfl (by first | rfl | exact isR_rf _) ?_
  refine r_aload_n (i := 0) C dX11_fits_7 rfl rfl (by first | rfl | exact isR_rf _) ?_
  refine r_iload_n (i := 2) C dX11_fits_8 rfl rfl ?_
  refine r_callVs C v_X11_43 Me dX11_fits_9 (by assumption) (ci := 9) (by decide) rfl rfl (As := [_]) rfl rfl rfl (by first | exact Nat.le_refl _ | exact Nat.le_of_ble_eq_true rfl | omega) (Nat.le_of_ble_eq_true rfl) (by first | exact Nat.le_refl _ | exact Nat.le_of_ble_eq_true rfl | omega) (by first | exact Nat.le_refl _ | exact Nat.le_of_ble_eq_true rfl | omega) ?_
  refine r_callVs C v_X11_176 Ms dX11_fits_12 (by assumption) (ci := 6) (by decide) rfl rfl (As := [_]) rfl rfl rfl (by first | exact Nat.le_refl _ | exact Nat.le_of_ble_eq_true rfl | omega) (Nat.le_of_ble_eq_true rfl) (by first | exact Nat.le_refl _ | exact Nat.le_of_ble_eq_true rfl | omega) (by first | exact Nat.le_refl _ | exact Nat.le_of_ble_eq_true rfl | omega) ?_
  exact r_iret C E dX11_fits_15 rfl (bo_nar (by first | exact Or.inl rfl | exact Or.inr rfl | assumption)).1 (by first | exact Nat.le_refl _ | exact Nat.le_of_ble_eq_true rfl | omega) (by first | exact Nat.le_refl _ | exact Nat.le_of_ble_eq_true rfl | omega)
theorem c_fits_x1 (l : Launch) (G : Gl) {h : Hp} {H : Nat} {x y : Int32} (hkH : hK h H = 9) (Mr : MRw l G yX11_ruleOf (.code yX11_ruleOf cX11_ruleOf 3 (Option.some (Jvm.ClassFile.FieldType.object "CascadeHouse$Rule"))) 8 1 6 [.ref H, .int x] h (.inr (xI, h))) : MRw l G yX11_fits (.code yX11_fits cX11_fits 4 (Option.some Jvm.ClassFile.FieldType.boolean)) 12 8 200 [.ref H, .int x, .int y] h (.inr (xI, h)) := by
  refine mr_of (by decide +kernel) (Nat.le_of_ble_eq_true rfl) (ct3 (by first | rfl | exact isR_cat (isR_rf _)) (by first | rfl | exact isR_cat (isR_rf _)) (by first | rfl | exact isR_cat (isR_rf _))) (fun X hG hl C E => ?_)
  subst hG hl
  refine r_aload_n (i := 0) C dX11_fits_0 rfl rfl (by first | rfl | exact isR_rf _) ?_
  refine r_iload_n (i := 1) C dX11_fits_1 rfl rfl ?_
  exact r_callVx C v_X11_126 Mr dX11_fits_2 (by assumption) (ci := 9) (by decide) rfl rfl (As := [_]) rfl rfl rfl (by first | exact Nat.le_refl _ | exact Nat.le_of_ble_eq_true rfl | omega) (Nat.le_of_ble_eq_true rfl) (by first | exact Nat.le_refl _ | exact Nat.le_of_ble_eq_true rfl | omega) (by first | exact Nat.le_refl _ | exact Nat.le_of_ble_eq_true rfl | omega) E rfl (by first | exact Nat.le_refl _ | exact Nat.le_of_ble_eq_true rfl | omega) (by first | exact Nat.le_refl _ | exact Nat.le_of_ble_eq_true rfl | omega)
theorem c_fits_x2 (l : Launch) (G : Gl) {h : Hp} {H r : Nat} {x y : Int32} (hkH : hK h H = 9) (Mr : MRw l G yX11_ruleOf (.code yX11_ruleOf cX11_ruleOf 3 (Option.some (Jvm.ClassFile.FieldType.object "CascadeHouse$Rule"))) 8 1 6 [.ref H, .int x] h (.inl (some (.ref r), h))) (Me : MRw l G yX11_elementOf (.code yX11_elementOf cX11_elementOf 3 (Option.some (Jvm.ClassFile.FieldType.object "CascadeHouse$Element"))) 8 1 6 [.ref H, .int y] h (.inr (xI, h))) : MRw l G yX11_fits (.code yX11_fits cX11_fits 4 (Option.some Jvm.ClassFile.FieldType.boolean)) 12 8 200 [.ref H, .int x, .int y] h (.inr (xI, h)) := by
  refine mr_of (by decide +kernel) (Nat.le_of_ble_eq_true rfl) (ct3 (by first | rfl | exact isR_cat (isR_rf _)) (by first | rfl | exact isR_cat (isR_rf _)) (by first | rfl | exact isR_cat (isR_rf _))) (fun X hG hl C E => ?_)
  subst hG hl
  refine r_aload_n (i := 0) C dX11_fits_0 rfl rfl (by first | rfl | exact isR_rf _) ?_
  refine r_iload_n (i := 1) C dX11_fits_1 rfl rfl ?_
  refine r_callVs C v_X11_126 Mr dX11_fits_2 (by assumption) (ci := 9) (by decide) rfl rfl (As := [_]) rfl rfl rfl (by first | exact Nat.le_refl _ | exact Nat.le_of_ble_eq_true rfl | omega) (Nat.le_of_ble_eq_true rfl) (by first | exact Nat.le_refl _ | exact Nat.le_of_ble_eq_true rfl | omega) (by first | exact Nat.le_refl _ | exact Nat.le_of_ble_eq_true rfl | omega) ?_
  refine r_astore_n (i := 3) C dX11_fits_5 rfl (Nat.le_of_ble_eq_true rfl) (by first | rfl | exact isR_rf _) ?_
  refine r_aload_n (i := 3) C dX11_fits_6 rfl rfl (by first | rfl | exact isR_rf _) ?_
  refine r_aload_n (i := 0) C dX11_fits_7 rfl rfl (by first | rfl | exact isR_rf _) ?_
  refine r_iload_n (i := 2) C dX11_fits_8 rfl rfl ?_
  exact r_callVx C v_X11_43 Me dX11_fits_9 (by assumption) (ci := 9) (by decide) rfl rfl (As := [_]) rfl rfl rfl (by first | exact Nat.le_refl _ | exact Nat.le_of_ble_eq_true rfl | omega) (Nat.le_of_ble_eq_true rfl) (by first | exact Nat.le_refl _ | exact Nat.le_of_ble_eq_true rfl | omega) (by first | exact Nat.le_refl _ | exact Nat.le_of_ble_eq_true rfl | omega) E rfl (by first | exact Nat.le_refl _ | exact Nat.le_of_ble_eq_true rfl | omega) (by first | exact Nat.le_refl _ | exact Nat.le_of_ble_eq_true rfl | omega)
theorem c_weight_ok (l : Launch) (G : Gl) {h : Hp} {H r : Nat} {x : Int32} (hkH : hK h H = 9) (Mr : MRw l G yX11_ruleOf (.code yX11_ruleOf cX11_ruleOf 3 (Option.some (Jvm.ClassFile.FieldType.object "CascadeHouse$Rule"))) 8 1 6 [.ref H, .int x] h (.inl (some (.ref r), h))) (hk : hK h r = 6) : MRw l G yX11_weight (.code yX11_weight cX11_weight 2 (Option.some Jvm.ClassFile.FieldType.int)) 12 8 200 [.ref H, .int x] h (.inl (some (.int (hI h fU_weightInAll r)), h)) := by
  refine mr_of (by decide +kernel) (Nat.le_of_ble_eq_true rfl) (ct2 (by first | rfl | exact isR_cat (isR_rf _)) (by first | rfl | exact isR_cat (isR_rf _))) (fun X hG hl C E => ?_)
  subst hG hl
  refine r_aload_n (i := 0) C dX11_weight_0 rfl rfl (by first | rfl | exact isR_rf _) ?_
  refine r_iload_n (i := 1) C dX11_weight_1 rfl rfl ?_
  refine r_callVs C v_X11_126 Mr dX11_weight_2 (by assumption) (ci := 9) (by decide) rfl rfl (As := [_]) rfl rfl rfl (by first | exact Nat.le_refl _ | exact Nat.le_of_ble_eq_true rfl | omega) (Nat.le_of_ble_eq_true rfl) (by first | exact Nat.le_refl _ | exact Nat.le_of_ble_eq_true rfl | omega) (by first | exact Nat.le_refl _ | exact Nat.le_of_ble_eq_true rfl | omega) ?_
  refine r_getI C f_X11_138 dX11_weight_5 rfl (by assumption) ?_
  exact r_iret C E dX11_weight_8 rfl rfl (by first | exact Nat.le_refl _ | exact Nat.le_of_ble_eq_true rfl | omega) (by first | exact Nat.le_refl _ | exact Nat.le_of_ble_eq_true rfl | omega)
theorem c_weight_x1 (l : Launch) (G : Gl) {h : Hp} {H : Nat} {x : Int32} (hkH : hK h H = 9) (Mr : MRw l G yX11_ruleOf (.code yX11_ruleOf cX11_ruleOf 3 (Option.some (Jvm.ClassFile.FieldType.object "CascadeHouse$Rule"))) 8 1 6 [.ref H, .int x] h (.inr (xI, h))) : MRw l G yX11_weight (.code yX11_weight cX11_weight 2 (Option.some Jvm.ClassFile.FieldType.int)) 12 8 200 [.ref H, .int x] h (.inr (xI, h)) := by
  refine mr_of (by decide +kernel) (Nat.le_of_ble_eq_true rfl) (ct2 (by first | rfl | exact isR_cat (isR_rf _)) (by first | rfl | exact isR_cat (isR_rf _))) (fun X hG hl C E => ?_)
  subst hG hl
  refine r_aload_n (i := 0) C dX11_weight_0 rfl rfl (by first | rfl | exact isR_rf _) ?_
  refine r_iload_n (i := 1) C dX11_weight_1 rfl rfl ?_
  exact r_callVx C v_X11_126 Mr dX11_weight_2 (by assumption) (ci := 9) (by decide) rfl rfl (As := [_]) rfl rfl rfl (by first | exact Nat.le_refl _ | exact Nat.le_of_ble_eq_true rfl | omega) (Nat.le_of_ble_eq_true rfl) (by first | exact Nat.le_refl _ | exact Nat.le_of_ble_eq_true rfl | omega) (by first | exact Nat.le_refl _ | exact Nat.le_of_ble_eq_true rfl | omega) E rfl (by first | exact Nat.le_refl _ | exact Nat.le_of_ble_eq_true rfl | omega) (by first | exact Nat.le_refl _ | exact Nat.le_of_ble_eq_true rfl | omega)
theorem nI13 {p : Nat} (h : p < 14) : ¬ (nI p < 0 ∨ 13 < nI p) := fun z => z.elim (nI_pos (by omega)) (fun y => absurd (show nI 13 < nI p from y) (nI_nlt (by omega) (by decide)))
theorem nI3 {p : Nat} (h : p < 4) : ¬ (nI p < 0 ∨ 3 < nI p) := fun z => z.elim (nI_pos (by omega)) (fun y => absurd (show nI 3 < nI p from y) (nI_nlt (by omega) (by decide)))
theorem c_value_ok (l : Launch) (G : Gl) {h : Hp} {H e k v s p : Nat} {x : Int32} (hkH : hK h H = 9) (Me : MRw l G yX11_elementOf (.code yX11_elementOf cX11_elementOf 3 (Option.some (Jvm.ClassFile.FieldType.object "CascadeHouse$Element"))) 8 1 6 [.ref H, .int x] h (.inl (some (.ref e), h))) (hk : hK h e = 3) (hR1 : hR h fE_kept e = some k) (hO : LO h k v s) (hp : p < 14) : MRw l G yX11_value (.code yX11_value cX11_value 4 (Option.some Jvm.ClassFile.FieldType.int)) 12 8 200 [.ref H, .int x, .int (nI p)] h (.inl (some (.int (hA h v p)), h)) := by
  have M := c_valueOf l G hO hp
  have hk4 := hO.1
  refine mr_of (by decide +kernel) (Nat.le_of_ble_eq_true rfl) (ct3 (by first | rfl | exact isR_cat (isR_rf _)) (by first | rfl | exact isR_cat (isR_rf _)) (by first | rfl | exact isR_cat (isR_rf _))) (fun X hG hl C E => ?_)
  subst hG hl
  refine r_aload_n (i := 0) C dX11_value_0 rfl rfl (by first | rfl | exact isR_rf _) ?_
  refine r_iload_n (i := 1) C dX11_value_1 rfl rfl ?_
  refine r_callVs C v_X11_43 Me dX11_value_2 (by assumption) (ci := 9) (by decide) rfl rfl (As := [_]) rfl rfl rfl (by first | exact Nat.le_refl _ | exact Nat.le_of_ble_eq_true rfl | omega) (Nat.le_of_ble_eq_true rfl) (by first | exact Nat.le_refl _ | exact Nat.le_of_ble_eq_true rfl | omega) (by first | exact Nat.le_refl _ | exact Nat.le_of_ble_eq_true rfl | omega) ?_
  refine r_astore_n (i := 3) C dX11_value_5 rfl (Nat.le_of_ble_eq_true rfl) (by first | rfl | exact isR_rf _) ?_
  refine r_iload_n (i := 2) C dX11_value_6 rfl rfl ?_
  refine r_bipush (v := 13) C dX11_value_7 (by decide) ?_
  refine r_callSn C s_X11_144 (cP_ok (nI13 hp)) dX11_value_9 (As := [_, _]) rfl rfl rfl (by first | exact Nat.le_refl _ | exact Nat.le_of_ble_eq_true rfl | omega) (Nat.le_of_ble_eq_true rfl) (by first | exact Nat.le_refl _ | exact Nat.le_of_ble_eq_true rfl | omega) (by first | exact Nat.le_refl _ | exact Nat.le_of_ble_eq_true rfl | omega) ?_
  refine r_aload_n (i := 3) C dX11_value_12 rfl rfl (by first | rfl | exact isR_rf _) ?_
  refine r_getR C f_X11_180 dX11_value_13 rfl (by assumption) ?_
  rw [hR1]
  refine r_iload_n (i := 2) C dX11_value_16 rfl rfl ?_
  refine r_callVs C v_X11_184 M dX11_value_17 (by assumption) (ci := 4) (by decide) rfl rfl (As := [_]) rfl rfl rfl (by first | exact Nat.le_refl _ | exact Nat.le_of_ble_eq_true rfl | omega) (Nat.le_of_ble_eq_true rfl) (by first | exact Nat.le_refl _ | exact Nat.le_of_ble_eq_true rfl | omega) (by first | exact Nat.le_refl _ | exact Nat.le_of_ble_eq_true rfl | omega) ?_
  exact r_iret C E dX11_value_20 rfl rfl (by first | exact Nat.le_refl _ | exact Nat.le_of_ble_eq_true rfl | omega) (by first | exact Nat.le_refl _ | exact Nat.le_of_ble_eq_true rfl | omega)
theorem c_value_x1 (l : Launch) (G : Gl) {h : Hp} {H : Nat} {x y : Int32} (hkH : hK h H = 9) (Me : MRw l G yX11_elementOf (.code yX11_elementOf cX11_elementOf 3 (Option.some (Jvm.ClassFile.FieldType.object "CascadeHouse$Element"))) 8 1 6 [.ref H, .int x] h (.inr (xI, h))) : MRw l G yX11_value (.code yX11_value cX11_value 4 (Option.some Jvm.ClassFile.FieldType.int)) 12 8 200 [.ref H, .int x, .int y] h (.inr (xI, h)) := by
  refine mr_of (by decide +kernel) (Nat.le_of_ble_eq_true rfl) (ct3 (by first | rfl | exact isR_cat (isR_rf _)) (by first | rfl | exact isR_cat (isR_rf _)) (by first | rfl | exact isR_cat (isR_rf _))) (fun X hG hl C E => ?_)
  subst hG hl
  refine r_aload_n (i := 0) C dX11_value_0 rfl rfl (by first | rfl | exact isR_rf _) ?_
  refine r_iload_n (i := 1) C dX11_value_1 rfl rfl ?_
  exact r_callVx C v_X11_43 Me dX11_value_2 (by assumption) (ci := 9) (by decide) rfl rfl (As := [_]) rfl rfl rfl (by first | exact Nat.le_refl _ | exact Nat.le_of_ble_eq_true rfl | omega) (Nat.le_of_ble_eq_true rfl) (by first | exact Nat.le_refl _ | exact Nat.le_of_ble_eq_true rfl | omega) (by first | exact Nat.le_refl _ | exact Nat.le_of_ble_eq_true rfl | omega) E rfl (by first | exact Nat.le_refl _ | exact Nat.le_of_ble_eq_true rfl | omega) (by first | exact Nat.le_refl _ | exact Nat.le_of_ble_eq_true rfl | omega)
theorem c_value_x2 (l : Launch) (G : Gl) {h : Hp} {H e : Nat} {x y : Int32} (hkH : hK h H = 9) (Me : MRw l G yX11_elementOf (.code yX11_elementOf cX11_elementOf 3 (Option.some (Jvm.ClassFile.FieldType.object "CascadeHouse$Element"))) 8 1 6 [.ref H, .int x] h (.inl (some (.ref e), h))) (q : y < 0 ∨ 13 < y) : MRw l G yX11_value (.code yX11_value cX11_value 4 (Option.some Jvm.ClassFile.FieldType.int)) 12 8 200 [.ref H, .int x, .int y] h (.inr (xI, h)) := by
  refine mr_of (by decide +kernel) (Nat.le_of_ble_eq_true rfl) (ct3 (by first | rfl | exact isR_cat (isR_rf _)) (by first | rfl | exact isR_cat (isR_rf _)) (by first | rfl | exact isR_cat (isR_rf _))) (fun X hG hl C E => ?_)
  subst hG hl
  refine r_aload_n (i := 0) C dX11_value_0 rfl rfl (by first | rfl | exact isR_rf _) ?_
  refine r_iload_n (i := 1) C dX11_value_1 rfl rfl ?_
  refine r_callVs C v_X11_43 Me dX11_value_2 (by assumption) (ci := 9) (by decide) rfl rfl (As := [_]) rfl rfl rfl (by first | exact Nat.le_refl _ | exact Nat.le_of_ble_eq_true rfl | omega) (Nat.le_of_ble_eq_true rfl) (by first | exact Nat.le_refl _ | exact Nat.le_of_ble_eq_true rfl | omega) (by first | exact Nat.le_refl _ | exact Nat.le_of_ble_eq_true rfl | omega) ?_
  refine r_astore_n (i := 3) C dX11_value_5 rfl (Nat.le_of_ble_eq_true rfl) (by first | rfl | exact isR_rf _) ?_
  refine r_iload_n (i := 2) C dX11_value_6 rfl rfl ?_
  refine r_bipush (v := 13) C dX11_value_7 (by decide) ?_
  exact r_callSx C s_X11_144 (cP_no q) dX11_value_9 (As := [_, _]) rfl rfl rfl (by first | exact Nat.le_refl _ | exact Nat.le_of_ble_eq_true rfl | omega) (Nat.le_of_ble_eq_true rfl) (by first | exact Nat.le_refl _ | exact Nat.le_of_ble_eq_true rfl | omega) (by first | exact Nat.le_refl _ | exact Nat.le_of_ble_eq_true rfl | omega) E rfl (by first | exact Nat.le_refl _ | exact Nat.le_of_ble_eq_true rfl | omega) (by first | exact Nat.le_refl _ | exact Nat.le_of_ble_eq_true rfl | omega)
theorem c_from_ok (l : Launch) (G : Gl) {h : Hp} {H e k v s p : Nat} {x : Int32} (hkH : hK h H = 9) (Me : MRw l G yX11_elementOf (.code yX11_elementOf cX11_elementOf 3 (Option.some (Jvm.ClassFile.FieldType.object "CascadeHouse$Element"))) 8 1 6 [.ref H, .int x] h (.inl (some (.ref e), h))) (hk : hK h e = 3) (hR1 : hR h fE_kept e = some k) (hO : LO h k v s) (hp : p < 14) : MRw l G yX11_from (.code yX11_from cX11_from 4 (Option.some Jvm.ClassFile.FieldType.int)) 12 8 200 [.ref H, .int x, .int (nI p)] h (.inl (some (.int (hA h s p)), h)) := by
  have M := c_sourceOf l G hO hp
  have hk4 := hO.1
  refine mr_of (by decide +kernel) (Nat.le_of_ble_eq_true rfl) (ct3 (by first | rfl | exact isR_cat (isR_rf _)) (by first | rfl | exact isR_cat (isR_rf _)) (by first | rfl | exact isR_cat (isR_rf _))) (fun X hG hl C E => ?_)
  subst hG hl
  refine r_aload_n (i := 0) C dX11_from_0 rfl rfl (by first | rfl | exact isR_rf _) ?_
  refine r_iload_n (i := 1) C dX11_from_1 rfl rfl ?_
  refine r_callVs C v_X11_43 Me dX11_from_2 (by assumption) (ci := 9) (by decide) rfl rfl (As := [_]) rfl rfl rfl (by first | exact Nat.le_refl _ | exact Nat.le_of_ble_eq_true rfl | omega) (Nat.le_of_ble_eq_true rfl) (by first | exact Nat.le_refl _ | exact Nat.le_of_ble_eq_true rfl | omega) (by first | exact Nat.le_refl _ | exact Nat.le_of_ble_eq_true rfl | omega) ?_
  refine r_astore_n (i := 3) C dX11_from_5 rfl (Nat.le_of_ble_eq_true rfl) (by first | rfl | exact isR_rf _) ?_
  refine r_iload_n (i := 2) C dX11_from_6 rfl rfl ?_
  refine r_bipush (v := 13) C dX11_from_7 (by decide) ?_
  refine r_callSn C s_X11_144 (cP_ok (nI13 hp)) dX11_from_9 (As := [_, _]) rfl rfl rfl (by first | exact Nat.le_refl _ | exact Nat.le_of_ble_eq_true rfl | omega) (Nat.le_of_ble_eq_true rfl) (by first | exact Nat.le_refl _ | exact Nat.le_of_ble_eq_true rfl | omega) (by first | exact Nat.le_refl _ | exact Nat.le_of_ble_eq_true rfl | omega) ?_
  refine r_aload_n (i := 3) C dX11_from_12 rfl rfl (by first | rfl | exact isR_rf _) ?_
  refine r_getR C f_X11_180 dX11_from_13 rfl (by assumption) ?_
  rw [hR1]
  refine r_iload_n (i := 2) C dX11_from_16 rfl rfl ?_
  refine r_callVs C v_X11_195 M dX11_from_17 (by assumption) (ci := 4) (by decide) rfl rfl (As := [_]) rfl rfl rfl (by first | exact Nat.le_refl _ | exact Nat.le_of_ble_eq_true rfl | omega) (Nat.le_of_ble_eq_true rfl) (by first | exact Nat.le_refl _ | exact Nat.le_of_ble_eq_true rfl | omega) (by first | exact Nat.le_refl _ | exact Nat.le_of_ble_eq_true rfl | omega) ?_
  exact r_iret C E dX11_from_20 rfl rfl (by first | exact Nat.le_refl _ | exact Nat.le_of_ble_eq_true rfl | omega) (by first | exact Nat.le_refl _ | exact Nat.le_of_ble_eq_true rfl | omega)
theorem c_from_x1 (l : Launch) (G : Gl) {h : Hp} {H : Nat} {x y : Int32} (hkH : hK h H = 9) (Me : MRw l G yX11_elementOf (.code yX11_elementOf cX11_elementOf 3 (Option.some (Jvm.ClassFile.FieldType.object "CascadeHouse$Element"))) 8 1 6 [.ref H, .int x] h (.inr (xI, h))) : MRw l G yX11_from (.code yX11_from cX11_from 4 (Option.some Jvm.ClassFile.FieldType.int)) 12 8 200 [.ref H, .int x, .int y] h (.inr (xI, h)) := by
  refine mr_of (by decide +kernel) (Nat.le_of_ble_eq_true rfl) (ct3 (by first | rfl | exact isR_cat (isR_rf _)) (by first | rfl | exact isR_cat (isR_rf _)) (by first | rfl | exact isR_cat (isR_rf _))) (fun X hG hl C E => ?_)
  subst hG hl
  refine r_aload_n (i := 0) C dX11_from_0 rfl rfl (by first | rfl | exact isR_rf _) ?_
  refine r_iload_n (i := 1) C dX11_from_1 rfl rfl ?_
  exact r_callVx C v_X11_43 Me dX11_from_2 (by assumption) (ci := 9) (by decide) rfl rfl (As := [_]) rfl rfl rfl (by first | exact Nat.le_refl _ | exact Nat.le_of_ble_eq_true rfl | omega) (Nat.le_of_ble_eq_true rfl) (by first | exact Nat.le_refl _ | exact Nat.le_of_ble_eq_true rfl | omega) (by first | exact Nat.le_refl _ | exact Nat.le_of_ble_eq_true rfl | omega) E rfl (by first | exact Nat.le_refl _ | exact Nat.le_of_ble_eq_true rfl | omega) (by first | exact Nat.le_refl _ | exact Nat.le_of_ble_eq_true rfl | omega)
theorem c_from_x2 (l : Launch) (G : Gl) {h : Hp} {H e : Nat} {x y : Int32} (hkH : hK h H = 9) (Me : MRw l G yX11_elementOf (.code yX11_elementOf cX11_elementOf 3 (Option.some (Jvm.ClassFile.FieldType.object "CascadeHouse$Element"))) 8 1 6 [.ref H, .int x] h (.inl (some (.ref e), h))) (q : y < 0 ∨ 13 < y) : MRw l G yX11_from (.code yX11_from cX11_from 4 (Option.some Jvm.ClassFile.FieldType.int)) 12 8 200 [.ref H, .int x, .int y] h (.inr (xI, h)) := by
  refine mr_of (by decide +kernel) (Nat.le_of_ble_eq_true rfl) (ct3 (by first | rfl | exact isR_cat (isR_rf _)) (by first | rfl | exact isR_cat (isR_rf _)) (by first | rfl | exact isR_cat (isR_rf _))) (fun X hG hl C E => ?_)
  subst hG hl
  refine r_aload_n (i := 0) C dX11_from_0 rfl rfl (by first | rfl | exact isR_rf _) ?_
  refine r_iload_n (i := 1) C dX11_from_1 rfl rfl ?_
  refine r_callVs C v_X11_43 Me dX11_from_2 (by assumption) (ci := 9) (by decide) rfl rfl (As := [_]) rfl rfl rfl (by first | exact Nat.le_refl _ | exact Nat.le_of_ble_eq_true rfl | omega) (Nat.le_of_ble_eq_true rfl) (by first | exact Nat.le_refl _ | exact Nat.le_of_ble_eq_true rfl | omega) (by first | exact Nat.le_refl _ | exact Nat.le_of_ble_eq_true rfl | omega) ?_
  refine r_astore_n (i := 3) C dX11_from_5 rfl (Nat.le_of_ble_eq_true rfl) (by first | rfl | exact isR_rf _) ?_
  refine r_iload_n (i := 2) C dX11_from_6 rfl rfl ?_
  refine r_bipush (v := 13) C dX11_from_7 (by decide) ?_
  exact r_callSx C s_X11_144 (cP_no q) dX11_from_9 (As := [_, _]) rfl rfl rfl (by first | exact Nat.le_refl _ | exact Nat.le_of_ble_eq_true rfl | omega) (Nat.le_of_ble_eq_true rfl) (by first | exact Nat.le_refl _ | exact Nat.le_of_ble_eq_true rfl | omega) (by first | exact Nat.le_refl _ | exact Nat.le_of_ble_eq_true rfl | omega) E rfl (by first | exact Nat.le_refl _ | exact Nat.le_of_ble_eq_true rfl | omega) (by first | exact Nat.le_refl _ | exact Nat.le_of_ble_eq_true rfl | omega)
theorem c_box_ok (l : Launch) (G : Gl) {h : Hp} {H e k p : Nat} {x : Int32} (hkH : hK h H = 9) (Me : MRw l G yX11_elementOf (.code yX11_elementOf cX11_elementOf 3 (Option.some (Jvm.ClassFile.FieldType.object "CascadeHouse$Element"))) 8 1 6 [.ref H, .int x] h (.inl (some (.ref e), h))) (hk : hK h e = 3) (hR1 : hR h fE_kept e = some k) (hk4 : hK h k = 4) (hp : p < 4) : MRw l G yX11_box (.code yX11_box cX11_box 4 (Option.some Jvm.ClassFile.FieldType.int)) 12 8 200 [.ref H, .int x, .int (nI p)] h (.inl (some (.int (lme h k p)), h)) := by
  have M := c_measure l G hk4 hp
  refine mr_of (by decide +kernel) (Nat.le_of_ble_eq_true rfl) (ct3 (by first | rfl | exact isR_cat (isR_rf _)) (by first | rfl | exact isR_cat (isR_rf _)) (by first | rfl | exact isR_cat (isR_rf _))) (fun X hG hl C E => ?_)
  subst hG hl
  refine r_aload_n (i := 0) C dX11_box_0 rfl rfl (by first | rfl | exact isR_rf _) ?_
  refine r_iload_n (i := 1) C dX11_box_1 rfl rfl ?_
  refine r_callVs C v_X11_43 Me dX11_box_2 (by assumption) (ci := 9) (by decide) rfl rfl (As := [_]) rfl rfl rfl (by first | exact Nat.le_refl _ | exact Nat.le_of_ble_eq_true rfl | omega) (Nat.le_of_ble_eq_true rfl) (by first | exact Nat.le_refl _ | exact Nat.le_of_ble_eq_true rfl | omega) (by first | exact Nat.le_refl _ | exact Nat.le_of_ble_eq_true rfl | omega) ?_
  refine r_astore_n (i := 3) C dX11_box_5 rfl (Nat.le_of_ble_eq_true rfl) (by first | rfl | exact isR_rf _) ?_
  refine r_iload_n (i := 2) C dX11_box_6 rfl rfl ?_
  refine r_iconst (v := 0) C dX11_box_7 (by decide) ?_
  refine r_iconst (v := 3) C dX11_box_8 (by decide) ?_
  refine r_callSn C s_X11_47 (cR_ok (nI3 hp)) dX11_box_9 (As := [_, _, _]) rfl rfl rfl (by first | exact Nat.le_refl _ | exact Nat.le_of_ble_eq_true rfl | omega) (Nat.le_of_ble_eq_true rfl) (by first | exact Nat.le_refl _ | exact Nat.le_of_ble_eq_true rfl | omega) (by first | exact Nat.le_refl _ | exact Nat.le_of_ble_eq_true rfl | omega) ?_
  refine r_aload_n (i := 3) C dX11_box_12 rfl rfl (by first | rfl | exact isR_rf _) ?_
  refine r_getR C f_X11_180 dX11_box_13 rfl (by assumption) ?_
  rw [hR1]
  refine r_iload_n (i := 2) C dX11_box_16 rfl rfl ?_
  refine r_callVs C v_X11_198 M dX11_box_17 (by assumption) (ci := 4) (by decide) rfl rfl (As := [_]) rfl rfl rfl (by first | exact Nat.le_refl _ | exact Nat.le_of_ble_eq_true rfl | omega) (Nat.le_of_ble_eq_true rfl) (by first | exact Nat.le_refl _ | exact Nat.le_of_ble_eq_true rfl | omega) (by first | exact Nat.le_refl _ | exact Nat.le_of_ble_eq_true rfl | omega) ?_
  exact r_iret C E dX11_box_20 rfl rfl (by first | exact Nat.le_refl _ | exact Nat.le_of_ble_eq_true rfl | omega) (by first | exact Nat.le_refl _ | exact Nat.le_of_ble_eq_true rfl | omega)
theorem c_box_x1 (l : Launch) (G : Gl) {h : Hp} {H : Nat} {x y : Int32} (hkH : hK h H = 9) (Me : MRw l G yX11_elementOf (.code yX11_elementOf cX11_elementOf 3 (Option.some (Jvm.ClassFile.FieldType.object "CascadeHouse$Element"))) 8 1 6 [.ref H, .int x] h (.inr (xI, h))) : MRw l G yX11_box (.code yX11_box cX11_box 4 (Option.some Jvm.ClassFile.FieldType.int)) 12 8 200 [.ref H, .int x, .int y] h (.inr (xI, h)) := by
  refine mr_of (by decide +kernel) (Nat.le_of_ble_eq_true rfl) (ct3 (by first | rfl | exact isR_cat (isR_rf _)) (by first | rfl | exact isR_cat (isR_rf _)) (by first | rfl | exact isR_cat (isR_rf _))) (fun X hG hl C E => ?_)
  subst hG hl
  refine r_aload_n (i := 0) C dX11_box_0 rfl rfl (by first | rfl | exact isR_rf _) ?_
  refine r_iload_n (i := 1) C dX11_box_1 rfl rfl ?_
  exact r_callVx C v_X11_43 Me dX11_box_2 (by assumption) (ci := 9) (by decide) rfl rfl (As := [_]) rfl rfl rfl (by first | exact Nat.le_refl _ | exact Nat.le_of_ble_eq_true rfl | omega) (Nat.le_of_ble_eq_true rfl) (by first | exact Nat.le_refl _ | exact Nat.le_of_ble_eq_true rfl | omega) (by first | exact Nat.le_refl _ | exact Nat.le_of_ble_eq_true rfl | omega) E rfl (by first | exact Nat.le_refl _ | exact Nat.le_of_ble_eq_true rfl | omega) (by first | exact Nat.le_refl _ | exact Nat.le_of_ble_eq_true rfl | omega)
theorem c_box_x2 (l : Launch) (G : Gl) {h : Hp} {H e : Nat} {x y : Int32} (hkH : hK h H = 9) (Me : MRw l G yX11_elementOf (.code yX11_elementOf cX11_elementOf 3 (Option.some (Jvm.ClassFile.FieldType.object "CascadeHouse$Element"))) 8 1 6 [.ref H, .int x] h (.inl (some (.ref e), h))) (q : y < 0 ∨ 3 < y) : MRw l G yX11_box (.code yX11_box cX11_box 4 (Option.some Jvm.ClassFile.FieldType.int)) 12 8 200 [.ref H, .int x, .int y] h (.inr (xA, h)) := by
  refine mr_of (by decide +kernel) (Nat.le_of_ble_eq_true rfl) (ct3 (by first | rfl | exact isR_cat (isR_rf _)) (by first | rfl | exact isR_cat (isR_rf _)) (by first | rfl | exact isR_cat (isR_rf _))) (fun X hG hl C E => ?_)
  subst hG hl
  refine r_aload_n (i := 0) C dX11_box_0 rfl rfl (by first | rfl | exact isR_rf _) ?_
  refine r_iload_n (i := 1) C dX11_box_1 rfl rfl ?_
  refine r_callVs C v_X11_43 Me dX11_box_2 (by assumption) (ci := 9) (by decide) rfl rfl (As := [_]) rfl rfl rfl (by first | exact Nat.le_refl _ | exact Nat.le_of_ble_eq_true rfl | omega) (Nat.le_of_ble_eq_true rfl) (by first | exact Nat.le_refl _ | exact Nat.le_of_ble_eq_true rfl | omega) (by first | exact Nat.le_refl _ | exact Nat.le_of_ble_eq_true rfl | omega) ?_
  refine r_astore_n (i := 3) C dX11_box_5 rfl (Nat.le_of_ble_eq_true rfl) (by first | rfl | exact isR_rf _) ?_
  refine r_iload_n (i := 2) C dX11_box_6 rfl rfl ?_
  refine r_iconst (v := 0) C dX11_box_7 (by decide) ?_
  refine r_iconst (v := 3) C dX11_box_8 (by decide) ?_
  exact r_callSx C s_X11_47 (cR_no q) dX11_box_9 (As := [_, _, _]) rfl rfl rfl (by first | exact Nat.le_refl _ | exact Nat.le_of_ble_eq_true rfl | omega) (Nat.le_of_ble_eq_true rfl) (by first | exact Nat.le_refl _ | exact Nat.le_of_ble_eq_true rfl | omega) (by first | exact Nat.le_refl _ | exact Nat.le_of_ble_eq_true rfl | omega) E rfl (by first | exact Nat.le_refl _ | exact Nat.le_of_ble_eq_true rfl | omega) (by first | exact Nat.le_refl _ | exact Nat.le_of_ble_eq_true rfl | omega)
theorem c_lines_ok (l : Launch) (G : Gl) {h : Hp} {H e k : Nat} {x : Int32} (hkH : hK h H = 9) (Me : MRw l G yX11_elementOf (.code yX11_elementOf cX11_elementOf 3 (Option.some (Jvm.ClassFile.FieldType.object "CascadeHouse$Element"))) 8 1 6 [.ref H, .int x] h (.inl (some (.ref e), h))) (hk : hK h e = 3) (hR1 : hR h fE_kept e = some k) (hk4 : hK h k = 4) : MRw l G yX11_lines (.code yX11_lines cX11_lines 2 (Option.some Jvm.ClassFile.FieldType.int)) 12 8 200 [.ref H, .int x] h (.inl (some (.int (hI h fL_lineCount k)), h)) := by
  refine mr_of (by decide +kernel) (Nat.le_of_ble_eq_true rfl) (ct2 (by first | rfl | exact isR_cat (isR_rf _)) (by first | rfl | exact isR_cat (isR_rf _))) (fun X hG hl C E => ?_)
  subst hG hl
  refine r_aload_n (i := 0) C dX11_lines_0 rfl rfl (by first | rfl | exact isR_rf _) ?_
  refine r_iload_n (i := 1) C dX11_lines_1 rfl rfl ?_
  refine r_callVs C v_X11_43 Me dX11_lines_2 (by assumption) (ci := 9) (by decide) rfl rfl (As := [_]) rfl rfl rfl (by first | exact Nat.le_refl _ | exact Nat.le_of_ble_eq_true rfl | omega) (Nat.le_of_ble_eq_true rfl) (by first | exact Nat.le_refl _ | exact Nat.le_of_ble_eq_true rfl | omega) (by first | exact Nat.le_refl _ | exact Nat.le_of_ble_eq_true rfl | omega) ?_
  refine r_getR C f_X11_180 dX11_lines_5 rfl (by assumption) ?_
  rw [hR1]
  refine r_getI C f_X11_201 dX11_lines_8 rfl (by assumption) ?_
  exact r_iret C E dX11_lines_11 rfl rfl (by first | exact Nat.le_refl _ | exact Nat.le_of_ble_eq_true rfl | omega) (by first | exact Nat.le_refl _ | exact Nat.le_of_ble_eq_true rfl | omega)
theorem c_lines_x1 (l : Launch) (G : Gl) {h : Hp} {H : Nat} {x : Int32} (hkH : hK h H = 9) (Me : MRw l G yX11_elementOf (.code yX11_elementOf cX11_elementOf 3 (Option.some (Jvm.ClassFile.FieldType.object "CascadeHouse$Element"))) 8 1 6 [.ref H, .int x] h (.inr (xI, h))) : MRw l G yX11_lines (.code yX11_lines cX11_lines 2 (Option.some Jvm.ClassFile.FieldType.int)) 12 8 200 [.ref H, .int x] h (.inr (xI, h)) := by
  refine mr_of (by decide +kernel) (Nat.le_of_ble_eq_true rfl) (ct2 (by first | rfl | exact isR_cat (isR_rf _)) (by first | rfl | exact isR_cat (isR_rf _))) (fun X hG hl C E => ?_)
  subst hG hl
  refine r_aload_n (i := 0) C dX11_lines_0 rfl rfl (by first | rfl | exact isR_rf _) ?_
  refine r_iload_n (i := 1) C dX11_lines_1 rfl rfl ?_
  exact r_callVx C v_X11_43 Me dX11_lines_2 (by assumption) (ci := 9) (by decide) rfl rfl (As := [_]) rfl rfl rfl (by first | exact Nat.le_refl _ | exact Nat.le_of_ble_eq_true rfl | omega) (Nat.le_of_ble_eq_true rfl) (by first | exact Nat.le_refl _ | exact Nat.le_of_ble_eq_true rfl | omega) (by first | exact Nat.le_refl _ | exact Nat.le_of_ble_eq_true rfl | omega) E rfl (by first | exact Nat.le_refl _ | exact Nat.le_of_ble_eq_true rfl | omega) (by first | exact Nat.le_refl _ | exact Nat.le_of_ble_eq_true rfl | omega)
theorem c_valueAnew_ok (l : Launch) (G : Gl) {h h2 : Hp} {H e k v s p j : Nat} {x : Int32} (hkH : hK h H = 9) (Me : MRw l G yX11_elementOf (.code yX11_elementOf cX11_elementOf 3 (Option.some (Jvm.ClassFile.FieldType.object "CascadeHouse$Element"))) 8 1 6 [.ref H, .int x] h (.inl (some (.ref e), h))) (Mf : MRw l G yX11_findAnew (.code yX11_findAnew cX11_findAnew 5 none) 10 j (60 * j) [.ref H] h (.inl (none, h2))) (hj : j ≤ 3) (hk : hK h2 e = 3) (hR1 : hR h2 fE_fresh e = some k) (hO : LO h2 k v s) (hp : p < 14) : MRw l G yX11_valueAnew (.code yX11_valueAnew cX11_valueAnew 4 (Option.some Jvm.ClassFile.FieldType.int)) 12 8 200 [.ref H, .int x, .int (nI p)] h (.inl (some (.int (hA h2 v p)), h2)) := by
  have M := c_valueOf l G hO hp
  have hk4 := hO.1
  refine mr_of (by decide +kernel) (Nat.le_of_ble_eq_true rfl) (ct3 (by first | rfl | exact isR_cat (isR_rf _)) (by first | rfl | exact isR_cat (isR_rf _)) (by first | rfl | exact isR_cat (isR_rf _))) (fun X hG hl C E => ?_)
  subst hG hl
  refine r_aload_n (i := 0) C dX11_valueAnew_0 rfl rfl (by first | rfl | exact isR_rf _) ?_
  refine r_iload_n (i := 1) C dX11_valueAnew_1 rfl rfl ?_
  refine r_callVs C v_X11_43 Me dX11_valueAnew_2 (by assumption) (ci := 9) (by decide) rfl rfl (As := [_]) rfl rfl rfl (by first | exact Nat.le_refl _ | exact Nat.le_of_ble_eq_true rfl | omega) (Nat.le_of_ble_eq_true rfl) (by first | exact Nat.le_refl _ | exact Nat.le_of_ble_eq_true rfl | omega) (by first | exact Nat.le_refl _ | exact Nat.le_of_ble_eq_true rfl | omega) ?_
  refine r_astore_n (i := 3) C dX11_valueAnew_5 rfl (Nat.le_of_ble_eq_true rfl) (by first | rfl | exact isR_rf _) ?_
  refine r_iload_n (i := 2) C dX11_valueAnew_6 rfl rfl ?_
  refine r_bipush (v := 13) C dX11_valueAnew_7 (by decide) ?_
  refine r_callSn C s_X11_144 (cP_ok (nI13 hp)) dX11_valueAnew_9 (As := [_, _]) rfl rfl rfl (by first | exact Nat.le_refl _ | exact Nat.le_of_ble_eq_true rfl | omega) (Nat.le_of_ble_eq_true rfl) (by first | exact Nat.le_refl _ | exact Nat.le_of_ble_eq_true rfl | omega) (by first | exact Nat.le_refl _ | exact Nat.le_of_ble_eq_true rfl | omega) ?_
  refine r_aload_n (i := 0) C dX11_valueAnew_12 rfl rfl (by first | rfl | exact isR_rf _) ?_
  refine r_callVn C v_X11_189 Mf dX11_valueAnew_13 (by assumption) (ci := 9) (by decide) rfl rfl (As := []) rfl rfl rfl (by first | exact Nat.le_refl _ | exact Nat.le_of_ble_eq_true rfl | omega) (Nat.le_of_ble_eq_true rfl) (by first | exact Nat.le_refl _ | exact Nat.le_of_ble_eq_true rfl | omega) (by first | exact Nat.le_refl _ | exact Nat.le_of_ble_eq_true rfl | omega) ?_
  refine r_aload_n (i := 3) C dX11_valueAnew_16 rfl rfl (by first | rfl | exact isR_rf _) ?_
  refine r_getR C f_X11_192 dX11_valueAnew_17 rfl (by assumption) ?_
  rw [hR1]
  refine r_iload_n (i := 2) C dX11_valueAnew_20 rfl rfl ?_
  refine r_callVs C v_X11_184 M dX11_valueAnew_21 (by assumption) (ci := 4) (by decide) rfl rfl (As := [_]) rfl rfl rfl (by first | exact Nat.le_refl _ | exact Nat.le_of_ble_eq_true rfl | omega) (Nat.le_of_ble_eq_true rfl) (by first | exact Nat.le_refl _ | exact Nat.le_of_ble_eq_true rfl | omega) (by first | exact Nat.le_refl _ | exact Nat.le_of_ble_eq_true rfl | omega) ?_
  exact r_iret C E dX11_valueAnew_24 rfl rfl (by first | exact Nat.le_refl _ | exact Nat.le_of_ble_eq_true rfl | omega) (by first | exact Nat.le_refl _ | exact Nat.le_of_ble_eq_true rfl | omega)
theorem c_valueAnew_x1 (l : Launch) (G : Gl) {h : Hp} {H : Nat} {x y : Int32} (hkH : hK h H = 9) (Me : MRw l G yX11_elementOf (.code yX11_elementOf cX11_elementOf 3 (Option.some (Jvm.ClassFile.FieldType.object "CascadeHouse$Element"))) 8 1 6 [.ref H, .int x] h (.inr (xI, h))) : MRw l G yX11_valueAnew (.code yX11_valueAnew cX11_valueAnew 4 (Option.some Jvm.ClassFile.FieldType.int)) 12 8 200 [.ref H, .int x, .int y] h (.inr (xI, h)) := by
  refine mr_of (by decide +kernel) (Nat.le_of_ble_eq_true rfl) (ct3 (by first | rfl | exact isR_cat (isR_rf _)) (by first | rfl | exact isR_cat (isR_rf _)) (by first | rfl | exact isR_cat (isR_rf _))) (fun X hG hl C E => ?_)
  subst hG hl
  refine r_aload_n (i := 0) C dX11_valueAnew_0 rfl rfl (by first | rfl | exact isR_rf _) ?_
  refine r_iload_n (i := 1) C dX11_valueAnew_1 rfl rfl ?_
  exact r_callVx C v_X11_43 Me dX11_valueAnew_2 (by assumption) (ci := 9) (by decide) rfl rfl (As := [_]) rfl rfl rfl (by first | exact Nat.le_refl _ | exact Nat.le_of_ble_eq_true rfl | omega) (Nat.le_of_ble_eq_true rfl) (by first | exact Nat.le_refl _ | exact Nat.le_of_ble_eq_true rfl | omega) (by first | exact Nat.le_refl _ | exact Nat.le_of_ble_eq_true rfl | omega) E rfl (by first | exact Nat.le_refl _ | exact Nat.le_of_ble_eq_true rfl | omega) (by first | exact Nat.le_refl _ | exact Nat.le_of_ble_eq_true rfl | omega)
theorem c_valueAnew_x2 (l : Launch) (G : Gl) {h : Hp} {H e : Nat} {x y : Int32} (hkH : hK h H = 9) (Me : MRw l G yX11_elementOf (.code yX11_elementOf cX11_elementOf 3 (Option.some (Jvm.ClassFile.FieldType.object "CascadeHouse$Element"))) 8 1 6 [.ref H, .int x] h (.inl (some (.ref e), h))) (q : y < 0 ∨ 13 < y) : MRw l G yX11_valueAnew (.code yX11_valueAnew cX11_valueAnew 4 (Option.some Jvm.ClassFile.FieldType.int)) 12 8 200 [.ref H, .int x, .int y] h (.inr (xI, h)) := by
  refine mr_of (by decide +kernel) (Nat.le_of_ble_eq_true rfl) (ct3 (by first | rfl | exact isR_cat (isR_rf _)) (by first | rfl | exact isR_cat (isR_rf _)) (by first | rfl | exact isR_cat (isR_rf _))) (fun X hG hl C E => ?_)
  subst hG hl
  refine r_aload_n (i := 0) C dX11_valueAnew_0 rfl rfl (by first | rfl | exact isR_rf _) ?_
  refine r_iload_n (i := 1) C dX11_valueAnew_1 rfl rfl ?_
  refine r_callVs C v_X11_43 Me dX11_valueAnew_2 (by assumption) (ci := 9) (by decide) rfl rfl (As := [_]) rfl rfl rfl (by first | exact Nat.le_refl _ | exact Nat.le_of_ble_eq_true rfl | omega) (Nat.le_of_ble_eq_true rfl) (by first | exact Nat.le_refl _ | exact Nat.le_of_ble_eq_true rfl | omega) (by first | exact Nat.le_refl _ | exact Nat.le_of_ble_eq_true rfl | omega) ?_
  refine r_astore_n (i := 3) C dX11_valueAnew_5 rfl (Nat.le_of_ble_eq_true rfl) (by first | rfl | exact isR_rf _) ?_
  refine r_iload_n (i := 2) C dX11_valueAnew_6 rfl rfl ?_
  refine r_bipush (v := 13) C dX11_valueAnew_7 (by decide) ?_
  exact r_callSx C s_X11_144 (cP_no q) dX11_valueAnew_9 (As := [_, _]) rfl rfl rfl (by first | exact Nat.le_refl _ | exact Nat.le_of_ble_eq_true rfl | omega) (Nat.le_of_ble_eq_true rfl) (by first | exact Nat.le_refl _ | exact Nat.le_of_ble_eq_true rfl | omega) (by first | exact Nat.le_refl _ | exact Nat.le_of_ble_eq_true rfl | omega) E rfl (by first | exact Nat.le_refl _ | exact Nat.le_of_ble_eq_true rfl | omega) (by first | exact Nat.le_refl _ | exact Nat.le_of_ble_eq_true rfl | omega)
theorem c_boxAnew_ok (l : Launch) (G : Gl) {h h2 : Hp} {H e k p j : Nat} {x : Int32} (hkH : hK h H = 9) (Me : MRw l G yX11_elementOf (.code yX11_elementOf cX11_elementOf 3 (Option.some (Jvm.ClassFile.FieldType.object "CascadeHouse$Element"))) 8 1 6 [.ref H, .int x] h (.inl (some (.ref e), h))) (Mf : MRw l G yX11_findAnew (.code yX11_findAnew cX11_findAnew 5 none) 10 j (60 * j) [.ref H] h (.inl (none, h2))) (hj : j ≤ 3) (hk : hK h2 e = 3) (hR1 : hR h2 fE_fresh e = some k) (hk4 : hK h2 k = 4) (hp : p < 4) : MRw l G yX11_boxAnew (.code yX11_boxAnew cX11_boxAnew 4 (Option.some Jvm.ClassFile.FieldType.int)) 12 8 200 [.ref H, .int x, .int (nI p)] h (.inl (some (.int (lme h2 k p)), h2)) := by
  have M := c_measure l G hk4 hp
  refine mr_of (by decide +kernel) (Nat.le_of_ble_eq_true rfl) (ct3 (by first | rfl | exact isR_cat (isR_rf _)) (by first | rfl | exact isR_cat (isR_rf _)) (by first | rfl | exact isR_cat (isR_rf _))) (fun X hG hl C E => ?_)
  subst hG hl
  refine r_aload_n (i := 0) C dX11_boxAnew_0 rfl rfl (by first | rfl | exact isR_rf _) ?_
  refine r_iload_n (i := 1) C dX11_boxAnew_1 rfl rfl ?_
  refine r_callVs C v_X11_43 Me dX11_boxAnew_2 (by assumption) (ci := 9) (by decide) rfl rfl (As := [_]) rfl rfl rfl (by first | exact Nat.le_refl _ | exact Nat.le_of_ble_eq_true rfl | omega) (Nat.le_of_ble_eq_true rfl) (by first | exact Nat.le_refl _ | exact Nat.le_of_ble_eq_true rfl | omega) (by first | exact Nat.le_refl _ | exact Nat.le_of_ble_eq_true rfl | omega) ?_
  refine r_astore_n (i := 3) C dX11_boxAnew_5 rfl (Nat.le_of_ble_eq_true rfl) (by first | rfl | exact isR_rf _) ?_
  refine r_iload_n (i := 2) C dX11_boxAnew_6 rfl rfl ?_
  refine r_iconst (v := 0) C dX11_boxAnew_7 (by decide) ?_
  refine r_iconst (v := 3) C dX11_boxAnew_8 (by decide) ?_
  refine r_callSn C s_X11_47 (cR_ok (nI3 hp)) dX11_boxAnew_9 (As := [_, _, _]) rfl rfl rfl (by first | exact Nat.le_refl _ | exact Nat.le_of_ble_eq_true rfl | omega) (Nat.le_of_ble_eq_true rfl) (by first | exact Nat.le_refl _ | exact Nat.le_of_ble_eq_true rfl | omega) (by first | exact Nat.le_refl _ | exact Nat.le_of_ble_eq_true rfl | omega) ?_
  refine r_aload_n (i := 0) C dX11_boxAnew_12 rfl rfl (by first | rfl | exact isR_rf _) ?_
  refine r_callVn C v_X11_189 Mf dX11_boxAnew_13 (by assumption) (ci := 9) (by decide) rfl rfl (As := []) rfl rfl rfl (by first | exact Nat.le_refl _ | exact Nat.le_of_ble_eq_true rfl | omega) (Nat.le_of_ble_eq_true rfl) (by first | exact Nat.le_refl _ | exact Nat.le_of_ble_eq_true rfl | omega) (by first | exact Nat.le_refl _ | exact Nat.le_of_ble_eq_true rfl | omega) ?_
  refine r_aload_n (i := 3) C dX11_boxAnew_16 rfl rfl (by first | rfl | exact isR_rf _) ?_
  refine r_getR C f_X11_192 dX11_boxAnew_17 rfl (by assumption) ?_
  rw [hR1]
  refine r_iload_n (i := 2) C dX11_boxAnew_20 rfl rfl ?_
  refine r_callVs C v_X11_198 M dX11_boxAnew_21 (by assumption) (ci := 4) (by decide) rfl rfl (As := [_]) rfl rfl rfl (by first | exact Nat.le_refl _ | exact Nat.le_of_ble_eq_true rfl | omega) (Nat.le_of_ble_eq_true rfl) (by first | exact Nat.le_refl _ | exact Nat.le_of_ble_eq_true rfl | omega) (by first | exact Nat.le_refl _ | exact Nat.le_of_ble_eq_true rfl | omega) ?_
  exact r_iret C E dX11_boxAnew_24 rfl rfl (by first | exact Nat.le_refl _ | exact Nat.le_of_ble_eq_true rfl | omega) (by first | exact Nat.le_refl _ | exact Nat.le_of_ble_eq_true rfl | omega)
theorem c_boxAnew_x1 (l : Launch) (G : Gl) {h : Hp} {H : Nat} {x y : Int32} (hkH : hK h H = 9) (Me : MRw l G yX11_elementOf (.code yX11_elementOf cX11_elementOf 3 (Option.some (Jvm.ClassFile.FieldType.object "CascadeHouse$Element"))) 8 1 6 [.ref H, .int x] h (.inr (xI, h))) : MRw l G yX11_boxAnew (.code yX11_boxAnew cX11_boxAnew 4 (Option.some Jvm.ClassFile.FieldType.int)) 12 8 200 [.ref H, .int x, .int y] h (.inr (xI, h)) := by
  refine mr_of (by decide +kernel) (Nat.le_of_ble_eq_true rfl) (ct3 (by first | rfl | exact isR_cat (isR_rf _)) (by first | rfl | exact isR_cat (isR_rf _)) (by first | rfl | exact isR_cat (isR_rf _))) (fun X hG hl C E => ?_)
  subst hG hl
  refine r_aload_n (i := 0) C dX11_boxAnew_0 rfl rfl (by first | rfl | exact isR_rf _) ?_
  refine r_iload_n (i := 1) C dX11_boxAnew_1 rfl rfl ?_
  exact r_callVx C v_X11_43 Me dX11_boxAnew_2 (by assumption) (ci := 9) (by decide) rfl rfl (As := [_]) rfl rfl rfl (by first | exact Nat.le_refl _ | exact Nat.le_of_ble_eq_true rfl | omega) (Nat.le_of_ble_eq_true rfl) (by first | exact Nat.le_refl _ | exact Nat.le_of_ble_eq_true rfl | omega) (by first | exact Nat.le_refl _ | exact Nat.le_of_ble_eq_true rfl | omega) E rfl (by first | exact Nat.le_refl _ | exact Nat.le_of_ble_eq_true rfl | omega) (by first | exact Nat.le_refl _ | exact Nat.le_of_ble_eq_true rfl | omega)
theorem c_boxAnew_x2 (l : Launch) (G : Gl) {h : Hp} {H e : Nat} {x y : Int32} (hkH : hK h H = 9) (Me : MRw l G yX11_elementOf (.code yX11_elementOf cX11_elementOf 3 (Option.some (Jvm.ClassFile.FieldType.object "CascadeHouse$Element"))) 8 1 6 [.ref H, .int x] h (.inl (some (.ref e), h))) (q : y < 0 ∨ 3 < y) : MRw l G yX11_boxAnew (.code yX11_boxAnew cX11_boxAnew 4 (Option.some Jvm.ClassFile.FieldType.int)) 12 8 200 [.ref H, .int x, .int y] h (.inr (xA, h)) := by
  refine mr_of (by decide +kernel) (Nat.le_of_ble_eq_true rfl) (ct3 (by first | rfl | exact isR_cat (isR_rf _)) (by first | rfl | exact isR_cat (isR_rf _)) (by first | rfl | exact isR_cat (isR_rf _))) (fun X hG hl C E => ?_)
  subst hG hl
  refine r_aload_n (i := 0) C dX11_boxAnew_0 rfl rfl (by first | rfl | exact isR_rf _) ?_
  refine r_iload_n (i := 1) C dX11_boxAnew_1 rfl rfl ?_
  refine r_callVs C v_X11_43 Me dX11_boxAnew_2 (by assumption) (ci := 9) (by decide) rfl rfl (As := [_]) rfl rfl rfl (by first | exact Nat.le_refl _ | exact Nat.le_of_ble_eq_true rfl | omega) (Nat.le_of_ble_eq_true rfl) (by first | exact Nat.le_refl _ | exact Nat.le_of_ble_eq_true rfl | omega) (by first | exact Nat.le_refl _ | exact Nat.le_of_ble_eq_true rfl | omega) ?_
  refine r_astore_n (i := 3) C dX11_boxAnew_5 rfl (Nat.le_of_ble_eq_true rfl) (by first | rfl | exact isR_rf _) ?_
  refine r_iload_n (i := 2) C dX11_boxAnew_6 rfl rfl ?_
  refine r_iconst (v := 0) C dX11_boxAnew_7 (by decide) ?_
  refine r_iconst (v := 3) C dX11_boxAnew_8 (by decide) ?_
  exact r_callSx C s_X11_47 (cR_no q) dX11_boxAnew_9 (As := [_, _, _]) rfl rfl rfl (by first | exact Nat.le_refl _ | exact Nat.le_of_ble_eq_true rfl | omega) (Nat.le_of_ble_eq_true rfl) (by first | exact Nat.le_refl _ | exact Nat.le_of_ble_eq_true rfl | omega) (by first | exact Nat.le_refl _ | exact Nat.le_of_ble_eq_true rfl | omega) E rfl (by first | exact Nat.le_refl _ | exact Nat.le_of_ble_eq_true rfl | omega) (by first | exact Nat.le_refl _ | exact Nat.le_of_ble_eq_true rfl | omega)
