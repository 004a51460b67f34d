/-! ===== the calls add and remove: the walks ===== -/
theorem c_add_ok (l : Launch) (G : Gl) {h h2 h3 : Hp} {H T p e n j : Nat} {x t c : Int32} (hkH : hK h H = 9) (Me : MRw l G yX11_elementOf (.code yX11_elementOf cX11_elementOf 3 (Option.some (Jvm.ClassFile.FieldType.object "CascadeHouse$Element"))) 8 1 6 [.ref H, .int x] h (.inl (some (.ref p), h))) (q1 : ¬ (t < 0 ∨ 5 < t)) (q2 : ¬ (c < 0 ∨ 255 < c)) (hT : hR h fH_tree H = some T) (hkT : hK h T = 8)
    (Mz : MRw l G yX10_size (.code yX10_size cX10_size 1 (Option.some Jvm.ClassFile.FieldType.int)) 1 0 0 [.ref T] h (.inl (some (.int (nI n)), h))) (hn : n < 24) (Ma : MRw l G yX10_append (.code yX10_append cX10_append 5 (Option.some (Jvm.ClassFile.FieldType.object "CascadeHouse$Element"))) 7 8 150 [.ref T, .ref p, .int t, .int c] h (.inl (some (.ref e), h2))) (hkH2 : hK h2 H = 9) (Ms : MRw l G yX11_settle (.code yX11_settle cX11_settle 4 none) 11 j (60 * j) [.ref H, .int (nI 0)] h2 (.inl (none, h3))) (hj : j ≤ 3) (hk3 : hK h3 e = 3) :
    MRw l G yX11_add (.code yX11_add cX11_add 6 (Option.some Jvm.ClassFile.FieldType.int)) 12 30 600 [.ref H, .int x, .int t, .int c] h (.inl (some (.int (hI h3 fE_number e)), h3)) := by
  refine mr_of (by decide +kernel) (Nat.le_of_ble_eq_true rfl) (ct4 (by first | rfl | exact isR_cat (isR_rf _)) (by first | rfl | exact isR_cat (isR_rf _)) (by first | rfl | exact isR_cat (isR_rf _)) (by first | rfl | exact isR_cat (isR_rf _))) (fun X hG hl C E => ?_)
  subst hG hl
  refine r_aload_n (i := 0) C dX11_add_0 rfl rfl (by first | rfl | exact isR_rf _) ?_
  refine r_iload_n (i := 1) C dX11_add_1 rfl rfl ?_
  refine r_callVs C v_X11_43 Me dX11_add_2 (by assumption) (ci := 9) (by decide) rfl rfl (As := [_]) rfl rfl rfl (by first | exact Nat.le_refl _ | exact Nat.le_of_ble_eq_true rfl | omega) (Nat.le_of_ble_eq_true rfl) (by first | exact Nat.le_refl _ | exact Nat.le_of_ble_eq_true rfl | omega) (by first | exact Nat.le_refl _ | exact Nat.le_of_ble_eq_true rfl | omega) ?_
  refine r_astore (i := 4) C dX11_add_5 (Nat.le_of_ble_eq_true rfl) (by first | rfl | exact isR_rf _) ?_
  refine r_iload_n (i := 2) C dX11_add_7 rfl rfl ?_
  refine r_iconst (v := 0) C dX11_add_8 (by decide) ?_
  refine r_iconst (v := 5) C dX11_add_9 (by decide) ?_
  refine r_callSn C s_X11_47 (cR_ok q1) dX11_add_10 (As := [_, _, _]) rfl rfl rfl (by first | exact Nat.le_refl _ | exact Nat.le_of_ble_eq_true rfl | omega) (Nat.le_of_ble_eq_true rfl) (by first | exact Nat.le_refl _ | exact Nat.le_of_ble_eq_true rfl | omega) (by first | exact Nat.le_refl _ | exact Nat.le_of_ble_eq_true rfl | omega) ?_
  refine r_iload_n (i := 3) C dX11_add_13 rfl rfl ?_
  refine r_iconst (v := 0) C dX11_add_14 (by decide) ?_
  refine r_sipush (v := 255) C dX11_add_15 (by decide) ?_
  refine r_callSn C s_X11_47 (cR_ok q2) dX11_add_18 (As := [_, _, _]) rfl rfl rfl (by first | exact Nat.le_refl _ | exact Nat.le_of_ble_eq_true rfl | omega) (Nat.le_of_ble_eq_true rfl) (by first | exact Nat.le_refl _ | exact Nat.le_of_ble_eq_true rfl | omega) (by first | exact Nat.le_refl _ | exact Nat.le_of_ble_eq_true rfl | omega) ?_
  refine r_aload_n (i := 0) C dX11_add_21 rfl rfl (by first | rfl | exact isR_rf _) ?_
  refine r_getR C f_X11_10 dX11_add_22 rfl (by assumption) ?_
  rw [hT]
  refine r_callVs C v_X11_51 Mz dX11_add_25 (by assumption) (ci := 8) (by decide) rfl rfl (As := []) rfl rfl rfl (by first | exact Nat.le_refl _ | exact Nat.le_of_ble_eq_true rfl | omega) (Nat.le_of_ble_eq_true rfl) (by first | exact Nat.le_refl _ | exact Nat.le_of_ble_eq_true rfl | omega) (by first | exact Nat.le_refl _ | exact Nat.le_of_ble_eq_true rfl | omega) ?_
  refine r_bipush (v := 24) C dX11_add_28 (by decide) ?_
  refine rn_ic_lt C n 24 rfl rfl (by omega) (by decide) (tgt := 43) dX11_add_30 (by decide) (fun _ => ?_) (fun q => absurd hn (by omega))
  refine r_aload_n (i := 0) C dX11_add_43 rfl rfl (by first | rfl | exact isR_rf _) ?_
  refine r_getR C f_X11_10 dX11_add_44 rfl (by assumption) ?_
  rw [hT]
  refine r_aload (i := 4) C dX11_add_47 rfl (by first | rfl | exact isR_rf _) ?_
  refine r_iload_n (i := 2) C dX11_add_49 rfl rfl ?_
  refine r_iload_n (i := 3) C dX11_add_50 rfl rfl ?_
  refine r_callVs C v_X11_62 Ma dX11_add_51 (by assumption) (ci := 8) (by decide) rfl rfl (As := [_, _, _]) rfl rfl rfl (by first | exact Nat.le_refl _ | exact Nat.le_of_ble_eq_true rfl | omega) (Nat.le_of_ble_eq_true rfl) (by first | exact Nat.le_refl _ | exact Nat.le_of_ble_eq_true rfl | omega) (by first | exact Nat.le_refl _ | exact Nat.le_of_ble_eq_true rfl | omega) ?_
  refine r_astore (i := 5) C dX11_add_54 (Nat.le_of_ble_eq_true rfl) (by first | rfl | exact isR_rf _) ?_
  refine r_aload_n (i := 0) C dX11_add_56 rfl rfl (by first | rfl | exact isR_rf _) ?_
  refine r_iconst (v := 0) C dX11_add_57 (by decide) ?_
  refine r_callVn C v_X11_36 Ms dX11_add_58 (by assumption) (ci := 9) (by decide) rfl rfl (As := [_]) rfl rfl rfl (by first | exact Nat.le_refl _ | exact Nat.le_of_ble_eq_true rfl | omega) (Nat.le_of_ble_eq_true rfl) (by first | exact Nat.le_refl _ | exact Nat.le_of_ble_eq_true rfl | omega) (by first | exact Nat.le_refl _ | exact Nat.le_of_ble_eq_true rfl | omega) ?_
  refine r_aload (i := 5) C dX11_add_61 rfl (by first | rfl | exact isR_rf _) ?_
  refine r_getI C f_X11_66 dX11_add_63 rfl (by assumption) ?_
  exact r_iret C E dX11_add_66 rfl rfl (by first | exact Nat.le_refl _ | exact Nat.le_of_ble_eq_true rfl | omega) (by first | exact Nat.le_refl _ | exact Nat.le_of_ble_eq_true rfl | omega)
theorem c_add_x1 (l : Launch) (G : Gl) {h : Hp} {H : Nat} {x t c : Int32} (hkH : hK h H = 9) (Me : MRw l G yX11_elementOf (.code yX11_elementOf cX11_elementOf 3 (Option.some (Jvm.ClassFile.FieldType.object "CascadeHouse$Element"))) 8 1 6 [.ref H, .int x] h (.inr (xI, h))) : MRw l G yX11_add (.code yX11_add cX11_add 6 (Option.some Jvm.ClassFile.FieldType.int)) 12 30 600 [.ref H, .int x, .int t, .int c] h (.inr (xI, h)) := by
  refine mr_of (by decide +kernel) (Nat.le_of_ble_eq_true rfl) (ct4 (by first | rfl | exact isR_cat (isR_rf _)) (by first | rfl | exact isR_cat (isR_rf _)) (by first | rfl | exact isR_cat (isR_rf _)) (by first | rfl | exact isR_cat (isR_rf _))) (fun X hG hl C E => ?_)
  subst hG hl
  refine r_aload_n (i := 0) C dX11_add_0 rfl rfl (by first | rfl | exact isR_rf _) ?_
  refine r_iload_n (i := 1) C dX11_add_1 rfl rfl ?_
  exact r_callVx C v_X11_43 Me dX11_add_2 (by assumption) (ci := 9) (by decide) rfl rfl (As := [_]) rfl rfl rfl (by first | exact Nat.le_refl _ | exact Nat.le_of_ble_eq_true rfl | omega) (Nat.le_of_ble_eq_true rfl) (by first | exact Nat.le_refl _ | exact Nat.le_of_ble_eq_true rfl | omega) (by first | exact Nat.le_refl _ | exact Nat.le_of_ble_eq_true rfl | omega) E rfl (by first | exact Nat.le_refl _ | exact Nat.le_of_ble_eq_true rfl | omega) (by first | exact Nat.le_refl _ | exact Nat.le_of_ble_eq_true rfl | omega)
theorem c_add_x2 (l : Launch) (G : Gl) {h : Hp} {H p : Nat} {x t c : Int32} (hkH : hK h H = 9) (Me : MRw l G yX11_elementOf (.code yX11_elementOf cX11_elementOf 3 (Option.some (Jvm.ClassFile.FieldType.object "CascadeHouse$Element"))) 8 1 6 [.ref H, .int x] h (.inl (some (.ref p), h))) (q1 : t < 0 ∨ 5 < t) : MRw l G yX11_add (.code yX11_add cX11_add 6 (Option.some Jvm.ClassFile.FieldType.int)) 12 30 600 [.ref H, .int x, .int t, .int c] h (.inr (xA, h)) := by
  refine mr_of (by decide +kernel) (Nat.le_of_ble_eq_true rfl) (ct4 (by first | rfl | exact isR_cat (isR_rf _)) (by first | rfl | exact isR_cat (isR_rf _)) (by first | rfl | exact isR_cat (isR_rf _)) (by first | rfl | exact isR_cat (isR_rf _))) (fun X hG hl C E => ?_)
  subst hG hl
  refine r_aload_n (i := 0) C dX11_add_0 rfl rfl (by first | rfl | exact isR_rf _) ?_
  refine r_iload_n (i := 1) C dX11_add_1 rfl rfl ?_
  refine r_callVs C v_X11_43 Me dX11_add_2 (by assumption) (ci := 9) (by decide) rfl rfl (As := [_]) rfl rfl rfl (by first | exact Nat.le_refl _ | exact Nat.le_of_ble_eq_true rfl | omega) (Nat.le_of_ble_eq_true rfl) (by first | exact Nat.le_refl _ | exact Nat.le_of_ble_eq_true rfl | omega) (by first | exact Nat.le_refl _ | exact Nat.le_of_ble_eq_true rfl | omega) ?_
  refine r_astore (i := 4) C dX11_add_5 (Nat.le_of_ble_eq_true rfl) (by first | rfl | exact isR_rf _) ?_
  refine r_iload_n (i := 2) C dX11_add_7 rfl rfl ?_
  refine r_iconst (v := 0) C dX11_add_8 (by decide) ?_
  refine r_iconst (v := 5) C dX11_add_9 (by decide) ?_
  exact r_callSx C s_X11_47 (cR_no q1) dX11_add_10 (As := [_, _, _]) rfl rfl rfl (by first | exact Nat.le_refl _ | exact Nat.le_of_ble_eq_true rfl | omega) (Nat.le_of_ble_eq_true rfl) (by first | exact Nat.le_refl _ | exact Nat.le_of_ble_eq_true rfl | omega) (by first | exact Nat.le_refl _ | exact Nat.le_of_ble_eq_true rfl | omega) E rfl (by first | exact Nat.le_refl _ | exact Nat.le_of_ble_eq_true rfl | omega) (by first | exact Nat.le_refl _ | exact Nat.le_of_ble_eq_true rfl | omega)
theorem c_add_x3 (l : Launch) (G : Gl) {h : Hp} {H p : Nat} {x t c : Int32} (hkH : hK h H = 9) (Me : MRw l G yX11_elementOf (.code yX11_elementOf cX11_elementOf 3 (Option.some (Jvm.ClassFile.FieldType.object "CascadeHouse$Element"))) 8 1 6 [.ref H, .int x] h (.inl (some (.ref p), h))) (q1 : ¬ (t < 0 ∨ 5 < t)) (q2 : c < 0 ∨ 255 < c) : MRw l G yX11_add (.code yX11_add cX11_add 6 (Option.some Jvm.ClassFile.FieldType.int)) 12 30 600 [.ref H, .int x, .int t, .int c] h (.inr (xA, h)) := by
  refine mr_of (by decide +kernel) (Nat.le_of_ble_eq_true rfl) (ct4 (by first | rfl | exact isR_cat (isR_rf _)) (by first | rfl | exact isR_cat (isR_rf _)) (by first | rfl | exact isR_cat (isR_rf _)) (by first | rfl | exact isR_cat (isR_rf _))) (fun X hG hl C E => ?_)
  subst hG hl
  refine r_aload_n (i := 0) C dX11_add_0 rfl rfl (by first | rfl | exact isR_rf _) ?_
  refine r_iload_n (i := 1) C dX11_add_1 rfl rfl ?_
  refine r_callVs C v_X11_43 Me dX11_add_2 (by assumption) (ci := 9) (by decide) rfl rfl (As := [_]) rfl rfl rfl (by first | exact Nat.le_refl _ | exact Nat.le_of_ble_eq_true rfl | omega) (Nat.le_of_ble_eq_true rfl) (by first | exact Nat.le_refl _ | exact Nat.le_of_ble_eq_true rfl | omega) (by first | exact Nat.le_refl _ | exact Nat.le_of_ble_eq_true rfl | omega) ?_
  refine r_astore (i := 4) C dX11_add_5 (Nat.le_of_ble_eq_true rfl) (by first | rfl | exact isR_rf _) ?_
  refine r_iload_n (i := 2) C dX11_add_7 rfl rfl ?_
  refine r_iconst (v := 0) C dX11_add_8 (by decide) ?_
  refine r_iconst (v := 5) C dX11_add_9 (by decide) ?_
  refine r_callSn C s_X11_47 (cR_ok q1) dX11_add_10 (As := [_, _, _]) rfl rfl rfl (by first | exact Nat.le_refl _ | exact Nat.le_of_ble_eq_true rfl | omega) (Nat.le_of_ble_eq_true rfl) (by first | exact Nat.le_refl _ | exact Nat.le_of_ble_eq_true rfl | omega) (by first | exact Nat.le_refl _ | exact Nat.le_of_ble_eq_true rfl | omega) ?_
  refine r_iload_n (i := 3) C dX11_add_13 rfl rfl ?_
  refine r_iconst (v := 0) C dX11_add_14 (by decide) ?_
  refine r_sipush (v := 255) C dX11_add_15 (by decide) ?_
  exact r_callSx C s_X11_47 (cR_no q2) dX11_add_18 (As := [_, _, _]) rfl rfl rfl (by first | exact Nat.le_refl _ | exact Nat.le_of_ble_eq_true rfl | omega) (Nat.le_of_ble_eq_true rfl) (by first | exact Nat.le_refl _ | exact Nat.le_of_ble_eq_true rfl | omega) (by first | exact Nat.le_refl _ | exact Nat.le_of_ble_eq_true rfl | omega) E rfl (by first | exact Nat.le_refl _ | exact Nat.le_of_ble_eq_true rfl | omega) (by first | exact Nat.le_refl _ | exact Nat.le_of_ble_eq_true rfl | omega)
theorem c_add_x4 (l : Launch) (G : Gl) {h : Hp} {H T p n : Nat} {x t c : Int32} (hkH : hK h H = 9) (Me : MRw l G yX11_elementOf (.code yX11_elementOf cX11_elementOf 3 (Option.some (Jvm.ClassFile.FieldType.object "CascadeHouse$Element"))) 8 1 6 [.ref H, .int x] h (.inl (some (.ref p), h))) (q1 : ¬ (t < 0 ∨ 5 < t)) (q2 : ¬ (c < 0 ∨ 255 < c)) (hT : hR h fH_tree H = some T) (hkT : hK h T = 8)
    (Mz : MRw l G yX10_size (.code yX10_size cX10_size 1 (Option.some Jvm.ClassFile.FieldType.int)) 1 0 0 [.ref T] h (.inl (some (.int (nI n)), h))) (hn : n = 24) : MRw l G yX11_add (.code yX11_add cX11_add 6 (Option.some Jvm.ClassFile.FieldType.int)) 12 30 600 [.ref H, .int x, .int t, .int c] h (.inr (xS, h)) := by
  refine mr_of (by decide +kernel) (Nat.le_of_ble_eq_true rfl) (ct4 (by first | rfl | exact isR_cat (isR_rf _)) (by first | rfl | exact isR_cat (isR_rf _)) (by first | rfl | exact isR_cat (isR_rf _)) (by first | rfl | exact isR_cat (isR_rf _))) (fun X hG hl C E => ?_)
  subst hG hl
  refine r_aload_n (i := 0) C dX11_add_0 rfl rfl (by first | rfl | exact isR_rf _) ?_
  refine r_iload_n (i := 1) C dX11_add_1 rfl rfl ?_
  refine r_callVs C v_X11_43 Me dX11_add_2 (by assumption) (ci := 9) (by decide) rfl rfl (As := [_]) rfl rfl rfl (by first | exact Nat.le_refl _ | exact Nat.le_of_ble_eq_true rfl | omega) (Nat.le_of_ble_eq_true rfl) (by first | exact Nat.le_refl _ | exact Nat.le_of_ble_eq_true rfl | omega) (by first | exact Nat.le_refl _ | exact Nat.le_of_ble_eq_true rfl | omega) ?_
  refine r_astore (i := 4) C dX11_add_5 (Nat.le_of_ble_eq_true rfl) (by first | rfl | exact isR_rf _) ?_
  refine r_iload_n (i := 2) C dX11_add_7 rfl rfl ?_
  refine r_iconst (v := 0) C dX11_add_8 (by decide) ?_
  refine r_iconst (v := 5) C dX11_add_9 (by decide) ?_
  refine r_callSn C s_X11_47 (cR_ok q1) dX11_add_10 (As := [_, _, _]) rfl rfl rfl (by first | exact Nat.le_refl _ | exact Nat.le_of_ble_eq_true rfl | omega) (Nat.le_of_ble_eq_true rfl) (by first | exact Nat.le_refl _ | exact Nat.le_of_ble_eq_true rfl | omega) (by first | exact Nat.le_refl _ | exact Nat.le_of_ble_eq_true rfl | omega) ?_
  refine r_iload_n (i := 3) C dX11_add_13 rfl rfl ?_
  refine r_iconst (v := 0) C dX11_add_14 (by decide) ?_
  refine r_sipush (v := 255) C dX11_add_15 (by decide) ?_
  refine r_callSn C s_X11_47 (cR_ok q2) dX11_add_18 (As := [_, _, _]) rfl rfl rfl (by first | exact Nat.le_refl _ | exact Nat.le_of_ble_eq_true rfl | omega) (Nat.le_of_ble_eq_true rfl) (by first | exact Nat.le_refl _ | exact Nat.le_of_ble_eq_true rfl | omega) (by first | exact Nat.le_refl _ | exact Nat.le_of_ble_eq_true rfl | omega) ?_
  refine r_aload_n (i := 0) C dX11_add_21 rfl rfl (by first | rfl | exact isR_rf _) ?_
  refine r_getR C f_X11_10 dX11_add_22 rfl (by assumption) ?_
  rw [hT]
  refine r_callVs C v_X11_51 Mz dX11_add_25 (by assumption) (ci := 8) (by decide) rfl rfl (As := []) rfl rfl rfl (by first | exact Nat.le_refl _ | exact Nat.le_of_ble_eq_true rfl | omega) (Nat.le_of_ble_eq_true rfl) (by first | exact Nat.le_refl _ | exact Nat.le_of_ble_eq_true rfl | omega) (by first | exact Nat.le_refl _ | exact Nat.le_of_ble_eq_true rfl | omega) ?_
  refine r_bipush (v := 24) C dX11_add_28 (by decide) ?_
  refine rn_ic_lt C n 24 rfl rfl (by omega) (by decide) (tgt := 43) dX11_add_30 (by decide) (fun q => absurd q (by omega)) (fun _ => ?_)
  exact r_throw (tx := "24 elements are there") C E rfl rfl (by decide +kernel) c_X11_55 w_xS (by decide +kernel) (by decide +kernel) at_S rfl (Nat.le_of_ble_eq_true rfl) dX11_add_33 dX11_add_36 dX11_add_37 dX11_add_39 dX11_add_42 (by first | exact Nat.le_refl _ | exact Nat.le_of_ble_eq_true rfl | omega) (by first | exact Nat.le_refl _ | exact Nat.le_of_ble_eq_true rfl | omega) (by first | exact Nat.le_refl _ | exact Nat.le_of_ble_eq_true rfl | omega) (by first | exact Nat.le_refl _ | exact Nat.le_of_ble_eq_true rfl | omega) (by first | exact Nat.le_refl _ | exact Nat.le_of_ble_eq_true rfl | omega)
theorem c_remove_ok (l : Launch) (G : Gl) {h h2 h3 : Hp} {H T p pp wt j : Nat} {x : Int32} (hkH : hK h H = 9) (Me : MRw l G yX11_elementOf (.code yX11_elementOf cX11_elementOf 3 (Option.some (Jvm.ClassFile.FieldType.object "CascadeHouse$Element"))) 8 1 6 [.ref H, .int x] h (.inl (some (.ref p), h))) (hkp : hK h p = 3) (hpp : hR h fE_parent p = some pp) (hT : hR h fH_tree H = some T) (hkT : hK h T = 8)
    (Mc : MRw l G yX10_cut (.code yX10_cut cX10_cut 5 (Option.some Jvm.ClassFile.FieldType.int)) 7 24 1440 [.ref T, .ref p] h (.inl (some (.int (nI wt)), h2))) (hkH2 : hK h2 H = 9) (Ms : MRw l G yX11_settle (.code yX11_settle cX11_settle 4 none) 11 j (60 * j) [.ref H, .int (nI wt)] h2 (.inl (none, h3))) (hj : j ≤ 3) :
    MRw l G yX11_remove (.code yX11_remove cX11_remove 4 (Option.some Jvm.ClassFile.FieldType.int)) 12 30 1700 [.ref H, .int x] h (.inl (some (.int (nI wt)), h3)) := by
  refine mr_of (by decide +kernel) (Nat.le_of_ble_eq_true rfl) (ct2 (by first | rfl | exact isR_cat (isR_rf _)) (by first | rfl | exact isR_cat (isR_rf _))) (fun X hG hl C E => ?_)
  subst hG hl
  refine r_aload_n (i := 0) C dX11_remove_0 rfl rfl (by first | rfl | exact isR_rf _) ?_
  refine r_iload_n (i := 1) C dX11_remove_1 rfl rfl ?_
  refine r_callVs C v_X11_43 Me dX11_remove_2 (by assumption) (ci := 9) (by decide) rfl rfl (As := [_]) rfl rfl rfl (by first | exact Nat.le_refl _ | exact Nat.le_of_ble_eq_true rfl | omega) (Nat.le_of_ble_eq_true rfl) (by first | exact Nat.le_refl _ | exact Nat.le_of_ble_eq_true rfl | omega) (by first | exact Nat.le_refl _ | exact Nat.le_of_ble_eq_true rfl | omega) ?_
  refine r_astore_n (i := 2) C dX11_remove_5 rfl (Nat.le_of_ble_eq_true rfl) (by first | rfl | exact isR_rf _) ?_
  refine r_aload_n (i := 2) C dX11_remove_6 rfl rfl (by first | rfl | exact isR_rf _) ?_
  refine r_getR C f_X11_71 dX11_remove_7 rfl (by assumption) ?_
  rw [hpp]
  refine r_ifnonnull (o := some pp) (tgt := 23) C dX11_remove_10 (by decide) (fun _ _ => ?_) (fun c => nomatch c)
  refine r_aload_n (i := 0) C dX11_remove_23 rfl rfl (by first | rfl | exact isR_rf _) ?_
  refine r_getR C f_X11_10 dX11_remove_24 rfl (by assumption) ?_
  rw [hT]
  refine r_aload_n (i := 2) C dX11_remove_27 rfl rfl (by first | rfl | exact isR_rf _) ?_
  refine r_callVs C v_X11_77 Mc dX11_remove_28 (by assumption) (ci := 8) (by decide) rfl rfl (As := [_]) rfl rfl rfl (by first | exact Nat.le_refl _ | exact Nat.le_of_ble_eq_true rfl | omega) (Nat.le_of_ble_eq_true rfl) (by first | exact Nat.le_refl _ | exact Nat.le_of_ble_eq_true rfl | omega) (by first | exact Nat.le_refl _ | exact Nat.le_of_ble_eq_true rfl | omega) ?_
  refine r_istore_n (i := 3) C dX11_remove_31 rfl (Nat.le_of_ble_eq_true rfl) ?_
  refine r_aload_n (i := 0) C dX11_remove_32 rfl rfl (by first | rfl | exact isR_rf _) ?_
  refine r_iload_n (i := 3) C dX11_remove_33 rfl rfl ?_
  refine r_callVn C v_X11_36 Ms dX11_remove_34 (by assumption) (ci := 9) (by decide) rfl rfl (As := [_]) rfl rfl rfl (by first | exact Nat.le_refl _ | exact Nat.le_of_ble_eq_true rfl | omega) (Nat.le_of_ble_eq_true rfl) (by first | exact Nat.le_refl _ | exact Nat.le_of_ble_eq_true rfl | omega) (by first | exact Nat.le_refl _ | exact Nat.le_of_ble_eq_true rfl | omega) ?_
  refine r_iload_n (i := 3) C dX11_remove_37 rfl rfl ?_
  exact r_iret C E dX11_remove_38 rfl rfl (by first | exact Nat.le_refl _ | exact Nat.le_of_ble_eq_true rfl | omega) (by first | exact Nat.le_refl _ | exact Nat.le_of_ble_eq_true rfl | omega)
theorem c_remove_x1 (l : Launch) (G : Gl) {h : Hp} {H : Nat} {x : Int32} (hkH : hK h H = 9) (Me : MRw l G yX11_elementOf (.code yX11_elementOf cX11_elementOf 3 (Option.some (Jvm.ClassFile.FieldType.object "CascadeHouse$Element"))) 8 1 6 [.ref H, .int x] h (.inr (xI, h))) : MRw l G yX11_remove (.code yX11_remove cX11_remove 4 (Option.some Jvm.ClassFile.FieldType.int)) 12 30 1700 [.ref H, .int x] h (.inr (xI, h)) := by
  refine mr_of (by decide +kernel) (Nat.le_of_ble_eq_true rfl) (ct2 (by first | rfl | exact isR_cat (isR_rf _)) (by first | rfl | exact isR_cat (isR_rf _))) (fun X hG hl C E => ?_)
  subst hG hl
  refine r_aload_n (i := 0) C dX11_remove_0 rfl rfl (by first | rfl | exact isR_rf _) ?_
  refine r_iload_n (i := 1) C dX11_remove_1 rfl rfl ?_
  exact r_callVx C v_X11_43 Me dX11_remove_2 (by assumption) (ci := 9) (by decide) rfl rfl (As := [_]) rfl rfl rfl (by first | exact Nat.le_refl _ | exact Nat.le_of_ble_eq_true rfl | omega) (Nat.le_of_ble_eq_true rfl) (by first | exact Nat.le_refl _ | exact Nat.le_of_ble_eq_true rfl | omega) (by first | exact Nat.le_refl _ | exact Nat.le_of_ble_eq_true rfl | omega) E rfl (by first | exact Nat.le_refl _ | exact Nat.le_of_ble_eq_true rfl | omega) (by first | exact Nat.le_refl _ | exact Nat.le_of_ble_eq_true rfl | omega)
theorem c_remove_x2 (l : Launch) (G : Gl) {h : Hp} {H p : Nat} {x : Int32} (hkH : hK h H = 9) (Me : MRw l G yX11_elementOf (.code yX11_elementOf cX11_elementOf 3 (Option.some (Jvm.ClassFile.FieldType.object "CascadeHouse$Element"))) 8 1 6 [.ref H, .int x] h (.inl (some (.ref p), h))) (hkp : hK h p = 3) (hpp : hR h fE_parent p = none) : MRw l G yX11_remove (.code yX11_remove cX11_remove 4 (Option.some Jvm.ClassFile.FieldType.int)) 12 30 1700 [.ref H, .int x] h (.inr (xS, h)) := by
  refine mr_of (by decide +kernel) (Nat.le_of_ble_eq_true rfl) (ct2 (by first | rfl | exact isR_cat (isR_rf _)) (by first | rfl | exact isR_cat (isR_rf _))) (fun X hG hl C E => ?_)
  subst hG hl
  refine r_aload_n (i := 0) C dX11_remove_0 rfl rfl (by first | rfl | exact isR_rf _) ?_
  refine r_iload_n (i := 1) C dX11_remove_1 rfl rfl ?_
  refine r_callVs C v_X11_43 Me dX11_remove_2 (by assumption) (ci := 9) (by decide) rfl rfl (As := [_]) rfl rfl rfl (by first | exact Nat.le_refl _ | exact Nat.le_of_ble_eq_true rfl | omega) (Nat.le_of_ble_eq_true rfl) (by first | exact Nat.le_refl _ | exact Nat.le_of_ble_eq_true rfl | omega) (by first | exact Nat.le_refl _ | exact Nat.le_of_ble_eq_true rfl | omega) ?_
  refine r_astore_n (i := 2) C dX11_remove_5 rfl (Nat.le_of_ble_eq_true rfl) (by first | rfl | exact isR_rf _) ?_
  refine r_aload_n (i := 2) C dX11_remove_6 rfl rfl (by first | rfl | exact isR_rf _) ?_
  refine r_getR C f_X11_71 dX11_remove_7 rfl (by assumption) ?_
  rw [hpp]
  refine r_ifnonnull (o := none) (tgt := 23) C dX11_remove_10 (by decide) (fun a c => nomatch c) (fun _ => ?_)
  exact r_throw (tx := "the root stays") C E rfl rfl (by decide +kernel) c_X11_55 w_xS (by decide +kernel) (by decide +kernel) at_S rfl (Nat.le_of_ble_eq_true rfl) dX11_remove_13 dX11_remove_16 dX11_remove_17 dX11_remove_19 dX11_remove_22 (by first | exact Nat.le_refl _ | exact Nat.le_of_ble_eq_true rfl | omega) (by first | exact Nat.le_refl _ | exact Nat.le_of_ble_eq_true rfl | omega) (by first | exact Nat.le_refl _ | exact Nat.le_of_ble_eq_true rfl | omega) (by first | exact Nat.le_refl _ | exact Nat.le_of_ble_eq_true rfl | omega) (by first | exact Nat.le_refl _ | exact Nat.le_of_ble_eq_true rfl | omega)
