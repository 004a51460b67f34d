/-! ===== the public calls: dress, text, contain, window, ask ===== -/
theorem c_dress_ok (l : Launch) (G : Gl) {h h2 : Hp} {H e j : Nat} {x c : Int32} (hkH : hK h H = 9) (Me : MRw l G yX11_elementOf (.code yX11_elementOf cX11_elementOf 3 (Option.some (Jvm.ClassFile.FieldType.object "CascadeHouse$Element"))) 8 1 6 [.ref H, .int x] h (.inl (some (.ref e), h))) (hk : hK h e = 3) (q : ¬ (c < 0 ∨ 255 < c)) (Ms : MRw l G yX11_settle (.code yX11_settle cX11_settle 4 none) 11 j (60 * j) [.ref H, .int (nI 0)] (sI h fE_classes e c) (.inl (none, h2))) (hj : j ≤ 3) : MRw l G yX11_dress (.code yX11_dress cX11_dress 5 (Option.some Jvm.ClassFile.FieldType.int)) 12 8 200 [.ref H, .int x, .int c] h (.inl (some (.int (hI h fE_classes e)), h2)) := by
  have hkH2 : hK (sI h fE_classes e c) H = 9 := hkH
  refine mr_of (by decide +kernel) (Nat.le_of_ble_eq_true rfl) (ct3 (by first | rfl | exact isR_cat (isR_rf _)) (by first | rfl | exact isR_cat (isR_rf _)) (by first | rfl | exact isR_cat (isR_rf _))) (fun X hG hl C E => ?_)
  subst hG hl
  refine r_aload_n (i := 0) C dX11_dress_0 rfl rfl (by first | rfl | exact isR_rf _) ?_
  refine r_iload_n (i := 1) C dX11_dress_1 rfl rfl ?_
  refine r_callVs C v_X11_43 Me dX11_dress_2 (by assumption) (ci := 9) (by decide) rfl rfl (As := [_]) rfl rfl rfl (by first | exact Nat.le_refl _ | exact Nat.le_of_ble_eq_true rfl | omega) (Nat.le_of_ble_eq_true rfl) (by first | exact Nat.le_refl _ | exact Nat.le_of_ble_eq_true rfl | omega) (by first | exact Nat.le_refl _ | exact Nat.le_of_ble_eq_true rfl | omega) ?_
  refine r_astore_n (i := 3) C dX11_dress_5 rfl (Nat.le_of_ble_eq_true rfl) (by first | rfl | exact isR_rf _) ?_
  refine r_iload_n (i := 2) C dX11_dress_6 rfl rfl ?_
  refine r_iconst (v := 0) C dX11_dress_7 (by decide) ?_
  refine r_sipush (v := 255) C dX11_dress_8 (by decide) ?_
  refine r_callSn C s_X11_47 (cR_ok q) dX11_dress_11 (As := [_, _, _]) rfl rfl rfl (by first | exact Nat.le_refl _ | exact Nat.le_of_ble_eq_true rfl | omega) (Nat.le_of_ble_eq_true rfl) (by first | exact Nat.le_refl _ | exact Nat.le_of_ble_eq_true rfl | omega) (by first | exact Nat.le_refl _ | exact Nat.le_of_ble_eq_true rfl | omega) ?_
  refine r_aload_n (i := 3) C dX11_dress_14 rfl rfl (by first | rfl | exact isR_rf _) ?_
  refine r_getI C f_X11_81 dX11_dress_15 rfl (by assumption) ?_
  refine r_istore (i := 4) C dX11_dress_18 (Nat.le_of_ble_eq_true rfl) ?_
  refine r_aload_n (i := 3) C dX11_dress_20 rfl rfl (by first | rfl | exact isR_rf _) ?_
  refine r_iload_n (i := 2) C dX11_dress_21 rfl rfl ?_
  refine r_putI C f_X11_81 dX11_dress_22 rfl rfl rfl (by assumption) ?_
  refine r_aload_n (i := 0) C dX11_dress_25 rfl rfl (by first | rfl | exact isR_rf _) ?_
  refine r_iconst (v := 0) C dX11_dress_26 (by decide) ?_
  refine r_callVn C v_X11_36 Ms dX11_dress_27 (by assumption) (ci := 9) (by decide) rfl rfl (As := [_]) rfl rfl rfl (by first | exact Nat.le_refl _ | exact Nat.le_of_ble_eq_true rfl | omega) (Nat.le_of_ble_eq_true rfl) (by first | exact Nat.le_refl _ | exact Nat.le_of_ble_eq_true rfl | omega) (by first | exact Nat.le_refl _ | exact Nat.le_of_ble_eq_true rfl | omega) ?_
  refine r_iload (i := 4) C dX11_dress_30 rfl ?_
  exact r_iret C E dX11_dress_32 rfl rfl (by first | exact Nat.le_refl _ | exact Nat.le_of_ble_eq_true rfl | omega) (by first | exact Nat.le_refl _ | exact Nat.le_of_ble_eq_true rfl | omega)
theorem c_dress_x1 (l : Launch) (G : Gl) {h : Hp} {H : Nat} {x c : Int32} (hkH : hK h H = 9) (Me : MRw l G yX11_elementOf (.code yX11_elementOf cX11_elementOf 3 (Option.some (Jvm.ClassFile.FieldType.object "CascadeHouse$Element"))) 8 1 6 [.ref H, .int x] h (.inr (xI, h))) : MRw l G yX11_dress (.code yX11_dress cX11_dress 5 (Option.some Jvm.ClassFile.FieldType.int)) 12 8 200 [.ref H, .int x, .int c] h (.inr (xI, h)) := by
  refine mr_of (by decide +kernel) (Nat.le_of_ble_eq_true rfl) (ct3 (by first | rfl | exact isR_cat (isR_rf _)) (by first | rfl | exact isR_cat (isR_rf _)) (by first | rfl | exact isR_cat (isR_rf _))) (fun X hG hl C E => ?_)
  subst hG hl
  refine r_aload_n (i := 0) C dX11_dress_0 rfl rfl (by first | rfl | exact isR_rf _) ?_
  refine r_iload_n (i := 1) C dX11_dress_1 rfl rfl ?_
  exact r_callVx C v_X11_43 Me dX11_dress_2 (by assumption) (ci := 9) (by decide) rfl rfl (As := [_]) rfl rfl rfl (by first | exact Nat.le_refl _ | exact Nat.le_of_ble_eq_true rfl | omega) (Nat.le_of_ble_eq_true rfl) (by first | exact Nat.le_refl _ | exact Nat.le_of_ble_eq_true rfl | omega) (by first | exact Nat.le_refl _ | exact Nat.le_of_ble_eq_true rfl | omega) E rfl (by first | exact Nat.le_refl _ | exact Nat.le_of_ble_eq_true rfl | omega) (by first | exact Nat.le_refl _ | exact Nat.le_of_ble_eq_true rfl | omega)
theorem c_dress_x2 (l : Launch) (G : Gl) {h : Hp} {H e : Nat} {x c : Int32} (hkH : hK h H = 9) (Me : MRw l G yX11_elementOf (.code yX11_elementOf cX11_elementOf 3 (Option.some (Jvm.ClassFile.FieldType.object "CascadeHouse$Element"))) 8 1 6 [.ref H, .int x] h (.inl (some (.ref e), h))) (q : c < 0 ∨ 255 < c) : MRw l G yX11_dress (.code yX11_dress cX11_dress 5 (Option.some Jvm.ClassFile.FieldType.int)) 12 8 200 [.ref H, .int x, .int c] h (.inr (xA, h)) := by
  refine mr_of (by decide +kernel) (Nat.le_of_ble_eq_true rfl) (ct3 (by first | rfl | exact isR_cat (isR_rf _)) (by first | rfl | exact isR_cat (isR_rf _)) (by first | rfl | exact isR_cat (isR_rf _))) (fun X hG hl C E => ?_)
  subst hG hl
  refine r_aload_n (i := 0) C dX11_dress_0 rfl rfl (by first | rfl | exact isR_rf _) ?_
  refine r_iload_n (i := 1) C dX11_dress_1 rfl rfl ?_
  refine r_callVs C v_X11_43 Me dX11_dress_2 (by assumption) (ci := 9) (by decide) rfl rfl (As := [_]) rfl rfl rfl (by first | exact Nat.le_refl _ | exact Nat.le_of_ble_eq_true rfl | omega) (Nat.le_of_ble_eq_true rfl) (by first | exact Nat.le_refl _ | exact Nat.le_of_ble_eq_true rfl | omega) (by first | exact Nat.le_refl _ | exact Nat.le_of_ble_eq_true rfl | omega) ?_
  refine r_astore_n (i := 3) C dX11_dress_5 rfl (Nat.le_of_ble_eq_true rfl) (by first | rfl | exact isR_rf _) ?_
  refine r_iload_n (i := 2) C dX11_dress_6 rfl rfl ?_
  refine r_iconst (v := 0) C dX11_dress_7 (by decide) ?_
  refine r_sipush (v := 255) C dX11_dress_8 (by decide) ?_
  exact r_callSx C s_X11_47 (cR_no q) dX11_dress_11 (As := [_, _, _]) rfl rfl rfl (by first | exact Nat.le_refl _ | exact Nat.le_of_ble_eq_true rfl | omega) (Nat.le_of_ble_eq_true rfl) (by first | exact Nat.le_refl _ | exact Nat.le_of_ble_eq_true rfl | omega) (by first | exact Nat.le_refl _ | exact Nat.le_of_ble_eq_true rfl | omega) E rfl (by first | exact Nat.le_refl _ | exact Nat.le_of_ble_eq_true rfl | omega) (by first | exact Nat.le_refl _ | exact Nat.le_of_ble_eq_true rfl | omega)
theorem c_window_ok (l : Launch) (G : Gl) {h h2 : Hp} {H j : Nat} {c : Int32} (hkH : hK h H = 9) (q : ¬ (c < 0 ∨ 2000 < c)) (Ms : MRw l G yX11_settle (.code yX11_settle cX11_settle 4 none) 11 j (60 * j) [.ref H, .int (nI 0)] (sI h fH_windowWidth H c) (.inl (none, h2))) (hj : j ≤ 3) : MRw l G yX11_window (.code yX11_window cX11_window 3 (Option.some Jvm.ClassFile.FieldType.int)) 12 8 200 [.ref H, .int c] h (.inl (some (.int (hI h fH_windowWidth H)), h2)) := by
  have hkH2 : hK (sI h fH_windowWidth H c) H = 9 := hkH
  refine mr_of (by decide +kernel) (Nat.le_of_ble_eq_true rfl) (ct2 (by first | rfl | exact isR_cat (isR_rf _)) (by first | rfl | exact isR_cat (isR_rf _))) (fun X hG hl C E => ?_)
  subst hG hl
  refine r_iload_n (i := 1) C dX11_window_0 rfl rfl ?_
  refine r_iconst (v := 0) C dX11_window_1 (by decide) ?_
  refine r_sipush (v := 2000) C dX11_window_2 (by decide) ?_
  refine r_callSn C s_X11_47 (cR_ok q) dX11_window_5 (As := [_, _, _]) rfl rfl rfl (by first | exact Nat.le_refl _ | exact Nat.le_of_ble_eq_true rfl | omega) (Nat.le_of_ble_eq_true rfl) (by first | exact Nat.le_refl _ | exact Nat.le_of_ble_eq_true rfl | omega) (by first | exact Nat.le_refl _ | exact Nat.le_of_ble_eq_true rfl | omega) ?_
  refine r_aload_n (i := 0) C dX11_window_8 rfl rfl (by first | rfl | exact isR_rf _) ?_
  refine r_getI C f_X11_32 dX11_window_9 rfl (by assumption) ?_
  refine r_istore_n (i := 2) C dX11_window_12 rfl (Nat.le_of_ble_eq_true rfl) ?_
  refine r_aload_n (i := 0) C dX11_window_13 rfl rfl (by first | rfl | exact isR_rf _) ?_
  refine r_iload_n (i := 1) C dX11_window_14 rfl rfl ?_
  refine r_putI C f_X11_32 dX11_window_15 rfl rfl rfl (by assumption) ?_
  refine r_aload_n (i := 0) C dX11_window_18 rfl rfl (by first | rfl | exact isR_rf _) ?_
  refine r_iconst (v := 0) C dX11_window_19 (by decide) ?_
  refine r_callVn C v_X11_36 Ms dX11_window_20 (by assumption) (ci := 9) (by decide) rfl rfl (As := [_]) rfl rfl rfl (by first | exact Nat.le_refl _ | exact Nat.le_of_ble_eq_true rfl | omega) (Nat.le_of_ble_eq_true rfl) (by first | exact Nat.le_refl _ | exact Nat.le_of_ble_eq_true rfl | omega) (by first | exact Nat.le_refl _ | exact Nat.le_of_ble_eq_true rfl | omega) ?_
  refine r_iload_n (i := 2) C dX11_window_23 rfl rfl ?_
  exact r_iret C E dX11_window_24 rfl rfl (by first | exact Nat.le_refl _ | exact Nat.le_of_ble_eq_true rfl | omega) (by first | exact Nat.le_refl _ | exact Nat.le_of_ble_eq_true rfl | omega)
theorem c_window_x1 (l : Launch) (G : Gl) {h : Hp} {H : Nat} {c : Int32} (q : c < 0 ∨ 2000 < c) : MRw l G yX11_window (.code yX11_window cX11_window 3 (Option.some Jvm.ClassFile.FieldType.int)) 12 8 200 [.ref H, .int c] h (.inr (xA, h)) := by
  refine mr_of (by decide +kernel) (Nat.le_of_ble_eq_true rfl) (ct2 (by first | rfl | exact isR_cat (isR_rf _)) (by first | rfl | exact isR_cat (isR_rf _))) (fun X hG hl C E => ?_)
  subst hG hl
  refine r_iload_n (i := 1) C dX11_window_0 rfl rfl ?_
  refine r_iconst (v := 0) C dX11_window_1 (by decide) ?_
  refine r_sipush (v := 2000) C dX11_window_2 (by decide) ?_
  exact r_callSx C s_X11_47 (cR_no q) dX11_window_5 (As := [_, _, _]) rfl rfl rfl (by first | exact Nat.le_refl _ | exact Nat.le_of_ble_eq_true rfl | omega) (Nat.le_of_ble_eq_true rfl) (by first | exact Nat.le_refl _ | exact Nat.le_of_ble_eq_true rfl | omega) (by first | exact Nat.le_refl _ | exact Nat.le_of_ble_eq_true rfl | omega) E rfl (by first | exact Nat.le_refl _ | exact Nat.le_of_ble_eq_true rfl | omega) (by first | exact Nat.le_refl _ | exact Nat.le_of_ble_eq_true rfl | omega)
theorem c_contain_ok (l : Launch) (G : Gl) {h h2 : Hp} {H e j : Nat} {x c : Int32} (hkH : hK h H = 9) (Me : MRw l G yX11_elementOf (.code yX11_elementOf cX11_elementOf 3 (Option.some (Jvm.ClassFile.FieldType.object "CascadeHouse$Element"))) 8 1 6 [.ref H, .int x] h (.inl (some (.ref e), h))) (hk : hK h e = 3) (h9 : hI h fE_isContainer e = 0 ∨ hI h fE_isContainer e = 1) (q : c = 0 ∨ c = 1) (Ms : MRw l G yX11_settle (.code yX11_settle cX11_settle 4 none) 11 j (60 * j) [.ref H, .int (nI 0)] (sI h fE_isContainer e c) (.inl (none, h2))) (hj : j ≤ 3) : MRw l G yX11_contain (.code yX11_contain cX11_contain 5 (Option.some Jvm.ClassFile.FieldType.boolean)) 12 8 200 [.ref H, .int x, .int c] h (.inl (some (.int (hI h fE_isContainer e)), h2)) := by
  have hkH2 : hK (sI h fE_isContainer e c) H = 9 := hkH
  refine mr_of (by decide +kernel) (Nat.le_of_ble_eq_true rfl) (ct3 (by first | rfl | exact isR_cat (isR_rf _)) (by first | rfl | exact isR_cat (isR_rf _)) (by first | rfl | exact isR_cat (isR_rf _))) (fun X hG hl C E => ?_)
  subst hG hl
  refine r_aload_n (i := 0) C dX11_contain_0 rfl rfl (by first | rfl | exact isR_rf _) ?_
  refine r_iload_n (i := 1) C dX11_contain_1 rfl rfl ?_
  refine r_callVs C v_X11_43 Me dX11_contain_2 (by assumption) (ci := 9) (by decide) rfl rfl (As := [_]) rfl rfl rfl (by first | exact Nat.le_refl _ | exact Nat.le_of_ble_eq_true rfl | omega) (Nat.le_of_ble_eq_true rfl) (by first | exact Nat.le_refl _ | exact Nat.le_of_ble_eq_true rfl | omega) (by first | exact Nat.le_refl _ | exact Nat.le_of_ble_eq_true rfl | omega) ?_
  refine r_astore_n (i := 3) C dX11_contain_5 rfl (Nat.le_of_ble_eq_true rfl) (by first | rfl | exact isR_rf _) ?_
  refine r_aload_n (i := 3) C dX11_contain_6 rfl rfl (by first | rfl | exact isR_rf _) ?_
  refine r_getI C f_X11_99 dX11_contain_7 rfl (by assumption) ?_
  refine r_istore (i := 4) C dX11_contain_10 (Nat.le_of_ble_eq_true rfl) ?_
  refine r_aload_n (i := 3) C dX11_contain_12 rfl rfl (by first | rfl | exact isR_rf _) ?_
  refine r_iload_n (i := 2) C dX11_contain_13 rfl rfl ?_
  refine r_putI C f_X11_99 dX11_contain_14 rfl (bo_nar (by first | exact Or.inl rfl | exact Or.inr rfl | assumption)).1 (bo_nar (by first | exact Or.inl rfl | exact Or.inr rfl | assumption)).2 (by assumption) ?_
  refine r_aload_n (i := 0) C dX11_contain_17 rfl rfl (by first | rfl | exact isR_rf _) ?_
  refine r_iconst (v := 0) C dX11_contain_18 (by decide) ?_
  refine r_callVn C v_X11_36 Ms dX11_contain_19 (by assumption) (ci := 9) (by decide) rfl rfl (As := [_]) rfl rfl rfl (by first | exact Nat.le_refl _ | exact Nat.le_of_ble_eq_true rfl | omega) (Nat.le_of_ble_eq_true rfl) (by first | exact Nat.le_refl _ | exact Nat.le_of_ble_eq_true rfl | omega) (by first | exact Nat.le_refl _ | exact Nat.le_of_ble_eq_true rfl | omega) ?_
  refine r_iload (i := 4) C dX11_contain_22 rfl ?_
  exact r_iret C E dX11_contain_24 rfl (bo_nar (by first | exact Or.inl rfl | exact Or.inr rfl | assumption)).1 (by first | exact Nat.le_refl _ | exact Nat.le_of_ble_eq_true rfl | omega) (by first | exact Nat.le_refl _ | exact Nat.le_of_ble_eq_true rfl | omega)
theorem c_contain_x1 (l : Launch) (G : Gl) {h : Hp} {H : Nat} {x c : Int32} (hkH : hK h H = 9) (Me : MRw l G yX11_elementOf (.code yX11_elementOf cX11_elementOf 3 (Option.some (Jvm.ClassFile.FieldType.object "CascadeHouse$Element"))) 8 1 6 [.ref H, .int x] h (.inr (xI, h))) : MRw l G yX11_contain (.code yX11_contain cX11_contain 5 (Option.some Jvm.ClassFile.FieldType.boolean)) 12 8 200 [.ref H, .int x, .int c] h (.inr (xI, h)) := by
  refine mr_of (by decide +kernel) (Nat.le_of_ble_eq_true rfl) (ct3 (by first | rfl | exact isR_cat (isR_rf _)) (by first | rfl | exact isR_cat (isR_rf _)) (by first | rfl | exact isR_cat (isR_rf _))) (fun X hG hl C E => ?_)
  subst hG hl
  refine r_aload_n (i := 0) C dX11_contain_0 rfl rfl (by first | rfl | exact isR_rf _) ?_
  refine r_iload_n (i := 1) C dX11_contain_1 rfl rfl ?_
  exact r_callVx C v_X11_43 Me dX11_contain_2 (by assumption) (ci := 9) (by decide) rfl rfl (As := [_]) rfl rfl rfl (by first | exact Nat.le_refl _ | exact Nat.le_of_ble_eq_true rfl | omega) (Nat.le_of_ble_eq_true rfl) (by first | exact Nat.le_refl _ | exact Nat.le_of_ble_eq_true rfl | omega) (by first | exact Nat.le_refl _ | exact Nat.le_of_ble_eq_true rfl | omega) E rfl (by first | exact Nat.le_refl _ | exact Nat.le_of_ble_eq_true rfl | omega) (by first | exact Nat.le_refl _ | exact Nat.le_of_ble_eq_true rfl | omega)
theorem c_ask_ok (l : Launch) (G : Gl) {h h2 : Hp} {H e j : Nat} {x c : Int32} (hkH : hK h H = 9) (Me : MRw l G yX11_ruleOf (.code yX11_ruleOf cX11_ruleOf 3 (Option.some (Jvm.ClassFile.FieldType.object "CascadeHouse$Rule"))) 8 1 6 [.ref H, .int x] h (.inl (some (.ref e), h))) (hk : hK h e = 6) (q : ¬ (c < -1 ∨ 2000 < c)) (Ms : MRw l G yX11_settle (.code yX11_settle cX11_settle 4 none) 11 j (60 * j) [.ref H, .int (nI 0)] (sI h fU_least e c) (.inl (none, h2))) (hj : j ≤ 3) : MRw l G yX11_ask (.code yX11_ask cX11_ask 5 (Option.some Jvm.ClassFile.FieldType.int)) 12 8 200 [.ref H, .int x, .int c] h (.inl (some (.int (hI h fU_least e)), h2)) := by
  have hkH2 : hK (sI h fU_least e c) H = 9 := hkH
  refine mr_of (by decide +kernel) (Nat.le_of_ble_eq_true rfl) (ct3 (by first | rfl | exact isR_cat (isR_rf _)) (by first | rfl | exact isR_cat (isR_rf _)) (by first | rfl | exact isR_cat (isR_rf _))) (fun X hG hl C E => ?_)
  subst hG hl
  refine r_aload_n (i := 0) C dX11_ask_0 rfl rfl (by first | rfl | exact isR_rf _) ?_
  refine r_iload_n (i := 1) C dX11_ask_1 rfl rfl ?_
  refine r_callVs C v_X11_126 Me dX11_ask_2 (by assumption) (ci := 9) (by decide) rfl rfl (As := [_]) rfl rfl rfl (by first | exact Nat.le_refl _ | exact Nat.le_of_ble_eq_true rfl | omega) (Nat.le_of_ble_eq_true rfl) (by first | exact Nat.le_refl _ | exact Nat.le_of_ble_eq_true rfl | omega) (by first | exact Nat.le_refl _ | exact Nat.le_of_ble_eq_true rfl | omega) ?_
  refine r_astore_n (i := 3) C dX11_ask_5 rfl (Nat.le_of_ble_eq_true rfl) (by first | rfl | exact isR_rf _) ?_
  refine r_iload_n (i := 2) C dX11_ask_6 rfl rfl ?_
  refine r_iconst (v := (-1)) C dX11_ask_7 (by decide) ?_
  refine r_sipush (v := 2000) C dX11_ask_8 (by decide) ?_
  refine r_callSn C s_X11_47 (cR_ok q) dX11_ask_11 (As := [_, _, _]) rfl rfl rfl (by first | exact Nat.le_refl _ | exact Nat.le_of_ble_eq_true rfl | omega) (Nat.le_of_ble_eq_true rfl) (by first | exact Nat.le_refl _ | exact Nat.le_of_ble_eq_true rfl | omega) (by first | exact Nat.le_refl _ | exact Nat.le_of_ble_eq_true rfl | omega) ?_
  refine r_aload_n (i := 3) C dX11_ask_14 rfl rfl (by first | rfl | exact isR_rf _) ?_
  refine r_getI C f_X11_141 dX11_ask_15 rfl (by assumption) ?_
  refine r_istore (i := 4) C dX11_ask_18 (Nat.le_of_ble_eq_true rfl) ?_
  refine r_aload_n (i := 3) C dX11_ask_20 rfl rfl (by first | rfl | exact isR_rf _) ?_
  refine r_iload_n (i := 2) C dX11_ask_21 rfl rfl ?_
  refine r_putI C f_X11_141 dX11_ask_22 rfl rfl rfl (by assumption) ?_
  refine r_aload_n (i := 0) C dX11_ask_25 rfl rfl (by first | rfl | exact isR_rf _) ?_
  refine r_iconst (v := 0) C dX11_ask_26 (by decide) ?_
  refine r_callVn C v_X11_36 Ms dX11_ask_27 (by assumption) (ci := 9) (by decide) rfl rfl (As := [_]) rfl rfl rfl (by first | exact Nat.le_refl _ | exact Nat.le_of_ble_eq_true rfl | omega) (Nat.le_of_ble_eq_true rfl) (by first | exact Nat.le_refl _ | exact Nat.le_of_ble_eq_true rfl | omega) (by first | exact Nat.le_refl _ | exact Nat.le_of_ble_eq_true rfl | omega) ?_
  refine r_iload (i := 4) C dX11_ask_30 rfl ?_
  exact r_iret C E dX11_ask_32 rfl rfl (by first | exact Nat.le_refl _ | exact Nat.le_of_ble_eq_true rfl | omega) (by first | exact Nat.le_refl _ | exact Nat.le_of_ble_eq_true rfl | omega)
theorem c_ask_x1 (l : Launch) (G : Gl) {h : Hp} {H : Nat} {x c : Int32} (hkH : hK h H = 9) (Me : MRw l G yX11_ruleOf (.code yX11_ruleOf cX11_ruleOf 3 (Option.some (Jvm.ClassFile.FieldType.object "CascadeHouse$Rule"))) 8 1 6 [.ref H, .int x] h (.inr (xI, h))) : MRw l G yX11_ask (.code yX11_ask cX11_ask 5 (Option.some Jvm.ClassFile.FieldType.int)) 12 8 200 [.ref H, .int x, .int c] h (.inr (xI, h)) := by
  refine mr_of (by decide +kernel) (Nat.le_of_ble_eq_true rfl) (ct3 (by first | rfl | exact isR_cat (isR_rf _)) (by first | rfl | exact isR_cat (isR_rf _)) (by first | rfl | exact isR_cat (isR_rf _))) (fun X hG hl C E => ?_)
  subst hG hl
  refine r_aload_n (i := 0) C dX11_ask_0 rfl rfl (by first | rfl | exact isR_rf _) ?_
  refine r_iload_n (i := 1) C dX11_ask_1 rfl rfl ?_
  exact r_callVx C v_X11_126 Me dX11_ask_2 (by assumption) (ci := 9) (by decide) rfl rfl (As := [_]) rfl rfl rfl (by first | exact Nat.le_refl _ | exact Nat.le_of_ble_eq_true rfl | omega) (Nat.le_of_ble_eq_true rfl) (by first | exact Nat.le_refl _ | exact Nat.le_of_ble_eq_true rfl | omega) (by first | exact Nat.le_refl _ | exact Nat.le_of_ble_eq_true rfl | omega) E rfl (by first | exact Nat.le_refl _ | exact Nat.le_of_ble_eq_true rfl | omega) (by first | exact Nat.le_refl _ | exact Nat.le_of_ble_eq_true rfl | omega)
theorem c_ask_x2 (l : Launch) (G : Gl) {h : Hp} {H e : Nat} {x c : Int32} (hkH : hK h H = 9) (Me : MRw l G yX11_ruleOf (.code yX11_ruleOf cX11_ruleOf 3 (Option.some (Jvm.ClassFile.FieldType.object "CascadeHouse$Rule"))) 8 1 6 [.ref H, .int x] h (.inl (some (.ref e), h))) (q : c < -1 ∨ 2000 < c) : MRw l G yX11_ask (.code yX11_ask cX11_ask 5 (Option.some Jvm.ClassFile.FieldType.int)) 12 8 200 [.ref H, .int x, .int c] h (.inr (xA, h)) := by
  refine mr_of (by decide +kernel) (Nat.le_of_ble_eq_true rfl) (ct3 (by first | rfl | exact isR_cat (isR_rf _)) (by first | rfl | exact isR_cat (isR_rf _)) (by first | rfl | exact isR_cat (isR_rf _))) (fun X hG hl C E => ?_)
  subst hG hl
  refine r_aload_n (i := 0) C dX11_ask_0 rfl rfl (by first | rfl | exact isR_rf _) ?_
  refine r_iload_n (i := 1) C dX11_ask_1 rfl rfl ?_
  refine r_callVs C v_X11_126 Me dX11_ask_2 (by assumption) (ci := 9) (by decide) rfl rfl (As := [_]) rfl rfl rfl (by first | exact Nat.le_refl _ | exact Nat.le_of_ble_eq_true rfl | omega) (Nat.le_of_ble_eq_true rfl) (by first | exact Nat.le_refl _ | exact Nat.le_of_ble_eq_true rfl | omega) (by first | exact Nat.le_refl _ | exact Nat.le_of_ble_eq_true rfl | omega) ?_
  refine r_astore_n (i := 3) C dX11_ask_5 rfl (Nat.le_of_ble_eq_true rfl) (by first | rfl | exact isR_rf _) ?_
  refine r_iload_n (i := 2) C dX11_ask_6 rfl rfl ?_
  refine r_iconst (v := (-1)) C dX11_ask_7 (by decide) ?_
  refine r_sipush (v := 2000) C dX11_ask_8 (by decide) ?_
  exact r_callSx C s_X11_47 (cR_no q) dX11_ask_11 (As := [_, _, _]) rfl rfl rfl (by first | exact Nat.le_refl _ | exact Nat.le_of_ble_eq_true rfl | omega) (Nat.le_of_ble_eq_true rfl) (by first | exact Nat.le_refl _ | exact Nat.le_of_ble_eq_true rfl | omega) (by first | exact Nat.le_refl _ | exact Nat.le_of_ble_eq_true rfl | omega) E rfl (by first | exact Nat.le_refl _ | exact Nat.le_of_ble_eq_true rfl | omega) (by first | exact Nat.le_refl _ | exact Nat.le_of_ble_eq_true rfl | omega)
theorem dg_len : ∀ f n, (dg f n).length ≤ f
  | 0, _ => Nat.le_refl _
  | f + 1, n => by
    rcases Nat.eq_zero_or_pos n with z | z
    · rw [z, dg_z]
      exact Nat.zero_le _
    · rw [dg_s z, List.length_cons]
      have := dg_len f (n / 10)
      omega
theorem c_text_ok (l : Launch) (G : Gl) {h h2 : Hp} {H e j wd : Nat} {x : Int32} (hkH : hK h H = 9) (Me : MRw l G yX11_elementOf (.code yX11_elementOf cX11_elementOf 3 (Option.some (Jvm.ClassFile.FieldType.object "CascadeHouse$Element"))) 8 1 6 [.ref H, .int x] h (.inl (some (.ref e), h))) (hk : hK h e = 3) (hw : wd < 100000000) (h0 : ¬ 0 ∈ dg 8 wd) (Ms : MRw l G yX11_settle (.code yX11_settle cX11_settle 4 none) 11 j (60 * j) [.ref H, .int (nI 0)] (sI h fE_words e (nI wd)) (.inl (none, h2))) (hj : j ≤ 3) : MRw l G yX11_text (.code yX11_text cX11_text 5 (Option.some Jvm.ClassFile.FieldType.int)) 12 8 200 [.ref H, .int x, .int (nI wd)] h (.inl (some (.int (nI (dg 8 wd).length)), h2)) := by
  have hkH2 : hK (sI h fE_words e (nI wd)) H = 9 := hkH
  have M := c_countWords l G (h := h) (n := wd) (by omega)
  rw [if_neg h0] at M
  have hl : (dg 8 wd).length < 2 ^ 31 := Nat.lt_of_le_of_lt (dg_len 8 wd) (by decide)
  have q : ¬ (nI wd < 0 ∨ 99999999 < nI wd) := fun z => z.elim (nI_pos (by omega)) (nI_nlt (a := 99999999) (by omega) (by decide))
  refine mr_of (by decide +kernel) (Nat.le_of_ble_eq_true rfl) (ct3 (by first | rfl | exact isR_cat (isR_rf _)) (by first | rfl | exact isR_cat (isR_rf _)) (by first | rfl | exact isR_cat (isR_rf _))) (fun X hG hl C E => ?_)
  subst hG hl
  refine r_aload_n (i := 0) C dX11_text_0 rfl rfl (by first | rfl | exact isR_rf _) ?_
  refine r_iload_n (i := 1) C dX11_text_1 rfl rfl ?_
  refine r_callVs C v_X11_43 Me dX11_text_2 (by assumption) (ci := 9) (by decide) rfl rfl (As := [_]) rfl rfl rfl (by first | exact Nat.le_refl _ | exact Nat.le_of_ble_eq_true rfl | omega) (Nat.le_of_ble_eq_true rfl) (by first | exact Nat.le_refl _ | exact Nat.le_of_ble_eq_true rfl | omega) (by first | exact Nat.le_refl _ | exact Nat.le_of_ble_eq_true rfl | omega) ?_
  refine r_astore_n (i := 3) C dX11_text_5 rfl (Nat.le_of_ble_eq_true rfl) (by first | rfl | exact isR_rf _) ?_
  refine r_iload_n (i := 2) C dX11_text_6 rfl rfl ?_
  refine r_iconst (v := 0) C dX11_text_7 (by decide) ?_
  refine r_ldcI C dX11_text_8 q_X11_84 ?_
  refine r_callSn C s_X11_47 (cR_ok q) dX11_text_10 (As := [_, _, _]) rfl rfl rfl (by first | exact Nat.le_refl _ | exact Nat.le_of_ble_eq_true rfl | omega) (Nat.le_of_ble_eq_true rfl) (by first | exact Nat.le_refl _ | exact Nat.le_of_ble_eq_true rfl | omega) (by first | exact Nat.le_refl _ | exact Nat.le_of_ble_eq_true rfl | omega) ?_
  refine r_iload_n (i := 2) C dX11_text_13 rfl rfl ?_
  refine r_callSs C s_X11_85 M dX11_text_14 (As := [_]) rfl rfl rfl (by first | exact Nat.le_refl _ | exact Nat.le_of_ble_eq_true rfl | omega) (Nat.le_of_ble_eq_true rfl) (by first | exact Nat.le_refl _ | exact Nat.le_of_ble_eq_true rfl | omega) (by first | exact Nat.le_refl _ | exact Nat.le_of_ble_eq_true rfl | omega) ?_
  refine r_istore (i := 4) C dX11_text_17 (Nat.le_of_ble_eq_true rfl) ?_
  refine r_iload (i := 4) C dX11_text_19 rfl ?_
  refine r_iconst (v := (-1)) C dX11_text_21 (by decide) ?_
  refine r_ic_ne (tgt := 35) C dX11_text_22 (by decide) (fun c_22 => ?_) (fun c_22 => ?_)
  · refine r_aload_n (i := 3) C dX11_text_35 rfl rfl (by first | rfl | exact isR_rf _) ?_
    refine r_iload_n (i := 2) C dX11_text_36 rfl rfl ?_
    refine r_putI C f_X11_96 dX11_text_37 rfl rfl rfl (by assumption) ?_
    refine r_aload_n (i := 0) C dX11_text_40 rfl rfl (by first | rfl | exact isR_rf _) ?_
    refine r_iconst (v := 0) C dX11_text_41 (by decide) ?_
    refine r_callVn C v_X11_36 Ms dX11_text_42 (by assumption) (ci := 9) (by decide) rfl rfl (As := [_]) rfl rfl rfl (by first | exact Nat.le_refl _ | exact Nat.le_of_ble_eq_true rfl | omega) (Nat.le_of_ble_eq_true rfl) (by first | exact Nat.le_refl _ | exact Nat.le_of_ble_eq_true rfl | omega) (by first | exact Nat.le_refl _ | exact Nat.le_of_ble_eq_true rfl | omega) ?_
    refine r_iload (i := 4) C dX11_text_45 rfl ?_
    exact r_iret C E dX11_text_47 rfl rfl (by first | exact Nat.le_refl _ | exact Nat.le_of_ble_eq_true rfl | omega) (by first | exact Nat.le_refl _ | exact Nat.le_of_ble_eq_true rfl | omega)
  · exact absurd c_22 (nI_ne1 hl)
theorem c_text_x1 (l : Launch) (G : Gl) {h : Hp} {H : Nat} {x c : Int32} (hkH : hK h H = 9) (Me : MRw l G yX11_elementOf (.code yX11_elementOf cX11_elementOf 3 (Option.some (Jvm.ClassFile.FieldType.object "CascadeHouse$Element"))) 8 1 6 [.ref H, .int x] h (.inr (xI, h))) : MRw l G yX11_text (.code yX11_text cX11_text 5 (Option.some Jvm.ClassFile.FieldType.int)) 12 8 200 [.ref H, .int x, .int c] h (.inr (xI, h)) := by
  refine mr_of (by decide +kernel) (Nat.le_of_ble_eq_true rfl) (ct3 (by first | rfl | exact isR_cat (isR_rf _)) (by first | rfl | exact isR_cat (isR_rf _)) (by first | rfl | exact isR_cat (isR_rf _))) (fun X hG hl C E => ?_)
  subst hG hl
  refine r_aload_n (i := 0) C dX11_text_0 rfl rfl (by first | rfl | exact isR_rf _) ?_
  refine r_iload_n (i := 1) C dX11_text_1 rfl rfl ?_
  exact r_callVx C v_X11_43 Me dX11_text_2 (by assumption) (ci := 9) (by decide) rfl rfl (As := [_]) rfl rfl rfl (by first | exact Nat.le_refl _ | exact Nat.le_of_ble_eq_true rfl | omega) (Nat.le_of_ble_eq_true rfl) (by first | exact Nat.le_refl _ | exact Nat.le_of_ble_eq_true rfl | omega) (by first | exact Nat.le_refl _ | exact Nat.le_of_ble_eq_true rfl | omega) E rfl (by first | exact Nat.le_refl _ | exact Nat.le_of_ble_eq_true rfl | omega) (by first | exact Nat.le_refl _ | exact Nat.le_of_ble_eq_true rfl | omega)
theorem c_text_x2 (l : Launch) (G : Gl) {h : Hp} {H e : Nat} {x c : Int32} (hkH : hK h H = 9) (Me : MRw l G yX11_elementOf (.code yX11_elementOf cX11_elementOf 3 (Option.some (Jvm.ClassFile.FieldType.object "CascadeHouse$Element"))) 8 1 6 [.ref H, .int x] h (.inl (some (.ref e), h))) (q : c < 0 ∨ 99999999 < c) : MRw l G yX11_text (.code yX11_text cX11_text 5 (Option.some Jvm.ClassFile.FieldType.int)) 12 8 200 [.ref H, .int x, .int c] h (.inr (xA, h)) := by
  refine mr_of (by decide +kernel) (Nat.le_of_ble_eq_true rfl) (ct3 (by first | rfl | exact isR_cat (isR_rf _)) (by first | rfl | exact isR_cat (isR_rf _)) (by first | rfl | exact isR_cat (isR_rf _))) (fun X hG hl C E => ?_)
  subst hG hl
  refine r_aload_n (i := 0) C dX11_text_0 rfl rfl (by first | rfl | exact isR_rf _) ?_
  refine r_iload_n (i := 1) C dX11_text_1 rfl rfl ?_
  refine r_callVs C v_X11_43 Me dX11_text_2 (by assumption) (ci := 9) (by decide) rfl rfl (As := [_]) rfl rfl rfl (by first | exact Nat.le_refl _ | exact Nat.le_of_ble_eq_true rfl | omega) (Nat.le_of_ble_eq_true rfl) (by first | exact Nat.le_refl _ | exact Nat.le_of_ble_eq_true rfl | omega) (by first | exact Nat.le_refl _ | exact Nat.le_of_ble_eq_true rfl | omega) ?_
  refine r_astore_n (i := 3) C dX11_text_5 rfl (Nat.le_of_ble_eq_true rfl) (by first | rfl | exact isR_rf _) ?_
  refine r_iload_n (i := 2) C dX11_text_6 rfl rfl ?_
  refine r_iconst (v := 0) C dX11_text_7 (by decide) ?_
  refine r_ldcI C dX11_text_8 q_X11_84 ?_
  exact r_callSx C s_X11_47 (cR_no q) dX11_text_10 (As := [_, _, _]) rfl rfl rfl (by first | exact Nat.le_refl _ | exact Nat.le_of_ble_eq_true rfl | omega) (Nat.le_of_ble_eq_true rfl) (by first | exact Nat.le_refl _ | exact Nat.le_of_ble_eq_true rfl | omega) (by first | exact Nat.le_refl _ | exact Nat.le_of_ble_eq_true rfl | omega) E rfl (by first | exact Nat.le_refl _ | exact Nat.le_of_ble_eq_true rfl | omega) (by first | exact Nat.le_refl _ | exact Nat.le_of_ble_eq_true rfl | omega)
theorem c_text_x3 (l : Launch) (G : Gl) {h : Hp} {H e wd : Nat} {x : Int32} (hkH : hK h H = 9) (Me : MRw l G yX11_elementOf (.code yX11_elementOf cX11_elementOf 3 (Option.some (Jvm.ClassFile.FieldType.object "CascadeHouse$Element"))) 8 1 6 [.ref H, .int x] h (.inl (some (.ref e), h))) (hw : wd < 100000000) (h0 : 0 ∈ dg 8 wd) : MRw l G yX11_text (.code yX11_text cX11_text 5 (Option.some Jvm.ClassFile.FieldType.int)) 12 8 200 [.ref H, .int x, .int (nI wd)] h (.inr (xA, h)) := by
  have M := c_countWords l G (h := h) (n := wd) (by omega)
  rw [if_pos h0] at M
  have q : ¬ (nI wd < 0 ∨ 99999999 < nI wd) := fun z => z.elim (nI_pos (by omega)) (nI_nlt (a := 99999999) (by omega) (by decide))
  refine mr_of (by decide +kernel) (Nat.le_of_ble_eq_true rfl) (ct3 (by first | rfl | exact isR_cat (isR_rf _)) (by first | rfl | exact isR_cat (isR_rf _)) (by first | rfl | exact isR_cat (isR_rf _))) (fun X hG hl C E => ?_)
  subst hG hl
  refine r_aload_n (i := 0) C dX11_text_0 rfl rfl (by first | rfl | exact isR_rf _) ?_
  refine r_iload_n (i := 1) C dX11_text_1 rfl rfl ?_
  refine r_callVs C v_X11_43 Me dX11_text_2 (by assumption) (ci := 9) (by decide) rfl rfl (As := [_]) rfl rfl rfl (by first | exact Nat.le_refl _ | exact Nat.le_of_ble_eq_true rfl | omega) (Nat.le_of_ble_eq_true rfl) (by first | exact Nat.le_refl _ | exact Nat.le_of_ble_eq_true rfl | omega) (by first | exact Nat.le_refl _ | exact Nat.le_of_ble_eq_true rfl | omega) ?_
  refine r_astore_n (i := 3) C dX11_text_5 rfl (Nat.le_of_ble_eq_true rfl) (by first | rfl | exact isR_rf _) ?_
  refine r_iload_n (i := 2) C dX11_text_6 rfl rfl ?_
  refine r_iconst (v := 0) C dX11_text_7 (by decide) ?_
  refine r_ldcI C dX11_text_8 q_X11_84 ?_
  refine r_callSn C s_X11_47 (cR_ok q) dX11_text_10 (As := [_, _, _]) rfl rfl rfl (by first | exact Nat.le_refl _ | exact Nat.le_of_ble_eq_true rfl | omega) (Nat.le_of_ble_eq_true rfl) (by first | exact Nat.le_refl _ | exact Nat.le_of_ble_eq_true rfl | omega) (by first | exact Nat.le_refl _ | exact Nat.le_of_ble_eq_true rfl | omega) ?_
  refine r_iload_n (i := 2) C dX11_text_13 rfl rfl ?_
  refine r_callSs C s_X11_85 M dX11_text_14 (As := [_]) rfl rfl rfl (by first | exact Nat.le_refl _ | exact Nat.le_of_ble_eq_true rfl | omega) (Nat.le_of_ble_eq_true rfl) (by first | exact Nat.le_refl _ | exact Nat.le_of_ble_eq_true rfl | omega) (by first | exact Nat.le_refl _ | exact Nat.le_of_ble_eq_true rfl | omega) ?_
  refine r_istore (i := 4) C dX11_text_17 (Nat.le_of_ble_eq_true rfl) ?_
  refine r_iload (i := 4) C dX11_text_19 rfl ?_
  refine r_iconst (v := (-1)) C dX11_text_21 (by decide) ?_
  refine r_ic_ne (tgt := 35) C dX11_text_22 (by decide) (fun c_22 => ?_) (fun c_22 => ?_)
  · exact absurd rfl c_22
  · exact r_throw (tx := "a word has 1 to 9 letters") C E rfl rfl (by decide +kernel) c_X11_91 w_xA (by decide +kernel) (by decide +kernel) at_A rfl (Nat.le_of_ble_eq_true rfl) dX11_text_25 dX11_text_28 dX11_text_29 dX11_text_31 dX11_text_34 (by first | exact Nat.le_refl _ | exact Nat.le_of_ble_eq_true rfl | omega) (by first | exact Nat.le_refl _ | exact Nat.le_of_ble_eq_true rfl | omega) (by first | exact Nat.le_refl _ | exact Nat.le_of_ble_eq_true rfl | omega) (by first | exact Nat.le_refl _ | exact Nat.le_of_ble_eq_true rfl | omega) (by first | exact Nat.le_refl _ | exact Nat.le_of_ble_eq_true rfl | omega)
