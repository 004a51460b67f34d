/-! ===== the call part: the walks ===== -/
/-- a new part -/
def nwP (h : Hp) (w t a b : Int32) : Hp := sI (sI (sI (sI (nw h 5 0) fP_way (hN h) w) fP_tag (hN h) t) fP_has (hN h) a) fP_lacks (hN h) b
theorem nwP_s (h : Hp) (w t a b : Int32) : hN (nwP h w t a b) = hN h + 1 ∧ hK (nwP h w t a b) (hN h) = 5 ∧ hI (nwP h w t a b) fP_way (hN h) = w ∧ hI (nwP h w t a b) fP_tag (hN h) = t ∧ hI (nwP h w t a b) fP_has (hN h) = a ∧ hI (nwP h w t a b) fP_lacks (hN h) = b := by
  unfold nwP
  refine ⟨rfl, ?_, ?_, ?_, ?_, ?_⟩
  · rw [hK_sI, hK_sI, hK_sI, hK_sI, hK_nw, va_up_self]
  · rw [iI_ne (by decide), iI_ne (by decide), iI_ne (by decide), iI_at]
  · rw [iI_ne (by decide), iI_ne (by decide), iI_at]
  · rw [iI_ne (by decide), iI_at]
  · rw [iI_at]
theorem nwP_O (h : Hp) (w t a b : Int32) : OLD h (nwP h w t a b) := OLD_sI (Nat.le_refl _) (OLD_sI (Nat.le_refl _) (OLD_sI (Nat.le_refl _) (OLD_sI (Nat.le_refl _) OLD_nw)))
theorem nwP_g {h : Hp} {w t a b : Int32} (hg : Good h) : Good (nwP h w t a b) := gd_sI (gd_sI (gd_sI (gd_sI (gd_nw hg (by decide) (by decide)) (by rw [hN_nw]; omega)) (by rw [hN_sI, hN_nw]; omega)) (by rw [hN_sI, hN_sI, hN_nw]; omega)) (by rw [hN_sI, hN_sI, hN_sI, hN_nw]; omega)
theorem c_part_ok (l : Launch) (G : Gl) {h h1 h2 h3 : Hp} {H B r c j : Nat} {x w t a b : Int32} (hkH : hK h H = 9) (Mr : MRw l G yX11_ruleOf (.code yX11_ruleOf cX11_ruleOf 3 (Option.some (Jvm.ClassFile.FieldType.object "CascadeHouse$Rule"))) 8 1 6 [.ref H, .int x] h (.inl (some (.ref r), h))) (hk : hK h r = 6) (qw : ¬ (w < 0 ∨ 2 < w)) (qp : ptOk t a b) (Mc : MRw l G yX7_partCount (.code yX7_partCount cX7_partCount 1 (Option.some Jvm.ClassFile.FieldType.int)) 1 0 0 [.ref r] h (.inl (some (.int (nI c)), h))) (h3c : c < 3)
    (Ma : MRw l G yX7_append (.code yX7_append cX7_append 2 none) 7 1 60 [.ref r, .ref (hN h)] (nwP h w t a b) (.inl (none, h1))) (hk0 : hK (nwP h w t a b) r = 6) (hkH1 : hK h1 H = 9) (hB : hR h1 fH_book H = some B) (hkB : hK h1 B = 7) (Mk : MRw l G yX8_rank (.code yX8_rank cX8_rank 3 none) 7 1 60 [.ref B, .ref r] h1 (.inl (none, h2))) (hkH2 : hK h2 H = 9) (Ms : MRw l G yX11_settle (.code yX11_settle cX11_settle 4 none) 11 j (60 * j) [.ref H, .int (nI 0)] h2 (.inl (none, h3))) (hj : j ≤ 3) (hk3 : hK h3 r = 6) : MRw l G yX11_part (.code yX11_part cX11_part 7 (Option.some Jvm.ClassFile.FieldType.int)) 12 30 600 [.ref H, .int x, .int w, .int t, .int a, .int b] h (.inl (some (.int (hI h3 fU_weightInAll r)), h3)) := by
  have M3 := c_partInit l G (h := nw h 5 0) (a := hN h) (x0 := w) (x1 := t) (x2 := a) (x3 := b) (by rw [hK_nw, va_up_self])
  refine mr_of (by decide +kernel) (Nat.le_of_ble_eq_true rfl) (ct6 (by first | rfl | exact isR_cat (isR_rf _)) (by first | rfl | exact isR_cat (isR_rf _)) (by first | rfl | exact isR_cat (isR_rf _)) (by first | rfl | exact isR_cat (isR_rf _)) (by first | rfl | exact isR_cat (isR_rf _)) (by first | rfl | exact isR_cat (isR_rf _))) (fun X hG hl C E => ?_)
  subst hG hl
  refine r_aload_n (i := 0) C dX11_part_0 rfl rfl (by first | rfl | exact isR_rf _) ?_
  refine r_iload_n (i := 1) C dX11_part_1 rfl rfl ?_
  refine r_callVs C v_X11_126 Mr dX11_part_2 (by assumption) (ci := 9) (by decide) rfl rfl (As := [_]) rfl rfl rfl (by first | exact Nat.le_refl _ | exact Nat.le_of_ble_eq_true rfl | omega) (Nat.le_of_ble_eq_true rfl) (by first | exact Nat.le_refl _ | exact Nat.le_of_ble_eq_true rfl | omega) (by first | exact Nat.le_refl _ | exact Nat.le_of_ble_eq_true rfl | omega) ?_
  refine r_astore (i := 6) C dX11_part_5 (Nat.le_of_ble_eq_true rfl) (by first | rfl | exact isR_rf _) ?_
  refine r_iload_n (i := 2) C dX11_part_7 rfl rfl ?_
  refine r_iconst (v := 0) C dX11_part_8 (by decide) ?_
  refine r_iconst (v := 2) C dX11_part_9 (by decide) ?_
  refine r_callSn C s_X11_47 (cR_ok qw) dX11_part_10 (As := [_, _, _]) rfl rfl rfl (by first | exact Nat.le_refl _ | exact Nat.le_of_ble_eq_true rfl | omega) (Nat.le_of_ble_eq_true rfl) (by first | exact Nat.le_refl _ | exact Nat.le_of_ble_eq_true rfl | omega) (by first | exact Nat.le_refl _ | exact Nat.le_of_ble_eq_true rfl | omega) ?_
  refine r_iload_n (i := 3) C dX11_part_13 rfl rfl ?_
  refine r_iload (i := 4) C dX11_part_14 rfl ?_
  refine r_iload (i := 5) C dX11_part_16 rfl ?_
  refine r_callSn C s_X11_103 (cPt_ok _ _ qp) dX11_part_18 (As := [_, _, _]) rfl rfl rfl (by first | exact Nat.le_refl _ | exact Nat.le_of_ble_eq_true rfl | omega) (Nat.le_of_ble_eq_true rfl) (by first | exact Nat.le_refl _ | exact Nat.le_of_ble_eq_true rfl | omega) (by first | exact Nat.le_refl _ | exact Nat.le_of_ble_eq_true rfl | omega) ?_
  refine r_aload (i := 6) C dX11_part_21 rfl (by first | rfl | exact isR_rf _) ?_
  refine r_callVs C v_X11_130 Mc dX11_part_23 (by assumption) (ci := 6) (by decide) rfl rfl (As := []) rfl rfl rfl (by first | exact Nat.le_refl _ | exact Nat.le_of_ble_eq_true rfl | omega) (Nat.le_of_ble_eq_true rfl) (by first | exact Nat.le_refl _ | exact Nat.le_of_ble_eq_true rfl | omega) (by first | exact Nat.le_refl _ | exact Nat.le_of_ble_eq_true rfl | omega) ?_
  refine r_iconst (v := 3) C dX11_part_26 (by decide) ?_
  refine rn_ic_lt C c 3 rfl rfl (by omega) (by decide) (tgt := 40) dX11_part_27 (by decide) (fun _ => ?_) (fun q => absurd h3c (by omega))
  refine r_aload (i := 6) C dX11_part_40 rfl (by first | rfl | exact isR_rf _) ?_
  refine r_new C n_X11_114 dX11_part_42 (by first | exact Nat.le_refl _ | exact Nat.le_of_ble_eq_true rfl | omega) (by first | exact Nat.le_refl _ | exact Nat.le_of_ble_eq_true rfl | omega) ?_
  refine r_dup C (by first | rfl | exact isR_cat (isR_rf _)) dX11_part_45 ?_
  refine r_iload_n (i := 2) C dX11_part_46 rfl rfl ?_
  refine r_iload_n (i := 3) C dX11_part_47 rfl rfl ?_
  refine r_iload (i := 4) C dX11_part_48 rfl ?_
  refine r_iload (i := 5) C dX11_part_50 rfl ?_
  refine r_callI C i_X11_116 M3 dX11_part_52 (As := [_, _, _, _]) rfl rfl rfl (by first | exact Nat.le_refl _ | exact Nat.le_of_ble_eq_true rfl | omega) (Nat.le_of_ble_eq_true rfl) (by first | exact Nat.le_refl _ | exact Nat.le_of_ble_eq_true rfl | omega) (by first | exact Nat.le_refl _ | exact Nat.le_of_ble_eq_true rfl | omega) ?_
  refine r_callVn C v_X11_119 Ma dX11_part_55 (by assumption) (ci := 6) (by decide) rfl rfl (As := [_]) rfl rfl rfl (by first | exact Nat.le_refl _ | exact Nat.le_of_ble_eq_true rfl | omega) (Nat.le_of_ble_eq_true rfl) (by first | exact Nat.le_refl _ | exact Nat.le_of_ble_eq_true rfl | omega) (by first | exact Nat.le_refl _ | exact Nat.le_of_ble_eq_true rfl | omega) ?_
  refine r_aload_n (i := 0) C dX11_part_58 rfl rfl (by first | rfl | exact isR_rf _) ?_
  refine r_getR C f_X11_19 dX11_part_59 rfl (by assumption) ?_
  rw [hB]
  refine r_aload (i := 6) C dX11_part_62 rfl (by first | rfl | exact isR_rf _) ?_
  refine r_callVn C v_X11_135 Mk dX11_part_64 (by assumption) (ci := 7) (by decide) rfl rfl (As := [_]) rfl rfl rfl (by first | exact Nat.le_refl _ | exact Nat.le_of_ble_eq_true rfl | omega) (Nat.le_of_ble_eq_true rfl) (by first | exact Nat.le_refl _ | exact Nat.le_of_ble_eq_true rfl | omega) (by first | exact Nat.le_refl _ | exact Nat.le_of_ble_eq_true rfl | omega) ?_
  refine r_aload_n (i := 0) C dX11_part_67 rfl rfl (by first | rfl | exact isR_rf _) ?_
  refine r_iconst (v := 0) C dX11_part_68 (by decide) ?_
  refine r_callVn C v_X11_36 Ms dX11_part_69 (by assumption) (ci := 9) (by decide) rfl rfl (As := [_]) rfl rfl rfl (by first | exact Nat.le_refl _ | exact Nat.le_of_ble_eq_true rfl | omega) (Nat.le_of_ble_eq_true rfl) (by first | exact Nat.le_refl _ | exact Nat.le_of_ble_eq_true rfl | omega) (by first | exact Nat.le_refl _ | exact Nat.le_of_ble_eq_true rfl | omega) ?_
  refine r_aload (i := 6) C dX11_part_72 rfl (by first | rfl | exact isR_rf _) ?_
  refine r_getI C f_X11_138 dX11_part_74 rfl (by assumption) ?_
  exact r_iret C E dX11_part_77 rfl rfl (by first | exact Nat.le_refl _ | exact Nat.le_of_ble_eq_true rfl | omega) (by first | exact Nat.le_refl _ | exact Nat.le_of_ble_eq_true rfl | omega)
theorem c_part_x1 (l : Launch) (G : Gl) {h : Hp} {H : Nat} {x w t a b : Int32} (hkH : hK h H = 9) (Mr : MRw l G yX11_ruleOf (.code yX11_ruleOf cX11_ruleOf 3 (Option.some (Jvm.ClassFile.FieldType.object "CascadeHouse$Rule"))) 8 1 6 [.ref H, .int x] h (.inr (xI, h))) : MRw l G yX11_part (.code yX11_part cX11_part 7 (Option.some Jvm.ClassFile.FieldType.int)) 12 30 600 [.ref H, .int x, .int w, .int t, .int a, .int b] h (.inr (xI, h)) := by
  refine mr_of (by decide +kernel) (Nat.le_of_ble_eq_true rfl) (ct6 (by first | rfl | exact isR_cat (isR_rf _)) (by first | rfl | exact isR_cat (isR_rf _)) (by first | rfl | exact isR_cat (isR_rf _)) (by first | rfl | exact isR_cat (isR_rf _)) (by first | rfl | exact isR_cat (isR_rf _)) (by first | rfl | exact isR_cat (isR_rf _))) (fun X hG hl C E => ?_)
  subst hG hl
  refine r_aload_n (i := 0) C dX11_part_0 rfl rfl (by first | rfl | exact isR_rf _) ?_
  refine r_iload_n (i := 1) C dX11_part_1 rfl rfl ?_
  exact r_callVx C v_X11_126 Mr dX11_part_2 (by assumption) (ci := 9) (by decide) rfl rfl (As := [_]) rfl rfl rfl (by first | exact Nat.le_refl _ | exact Nat.le_of_ble_eq_true rfl | omega) (Nat.le_of_ble_eq_true rfl) (by first | exact Nat.le_refl _ | exact Nat.le_of_ble_eq_true rfl | omega) (by first | exact Nat.le_refl _ | exact Nat.le_of_ble_eq_true rfl | omega) E rfl (by first | exact Nat.le_refl _ | exact Nat.le_of_ble_eq_true rfl | omega) (by first | exact Nat.le_refl _ | exact Nat.le_of_ble_eq_true rfl | omega)
theorem c_part_x2 (l : Launch) (G : Gl) {h : Hp} {H r : Nat} {x w t a b : Int32} (hkH : hK h H = 9) (Mr : MRw l G yX11_ruleOf (.code yX11_ruleOf cX11_ruleOf 3 (Option.some (Jvm.ClassFile.FieldType.object "CascadeHouse$Rule"))) 8 1 6 [.ref H, .int x] h (.inl (some (.ref r), h))) (qw : w < 0 ∨ 2 < w) : MRw l G yX11_part (.code yX11_part cX11_part 7 (Option.some Jvm.ClassFile.FieldType.int)) 12 30 600 [.ref H, .int x, .int w, .int t, .int a, .int b] h (.inr (xA, h)) := by
  refine mr_of (by decide +kernel) (Nat.le_of_ble_eq_true rfl) (ct6 (by first | rfl | exact isR_cat (isR_rf _)) (by first | rfl | exact isR_cat (isR_rf _)) (by first | rfl | exact isR_cat (isR_rf _)) (by first | rfl | exact isR_cat (isR_rf _)) (by first | rfl | exact isR_cat (isR_rf _)) (by first | rfl | exact isR_cat (isR_rf _))) (fun X hG hl C E => ?_)
  subst hG hl
  refine r_aload_n (i := 0) C dX11_part_0 rfl rfl (by first | rfl | exact isR_rf _) ?_
  refine r_iload_n (i := 1) C dX11_part_1 rfl rfl ?_
  refine r_callVs C v_X11_126 Mr dX11_part_2 (by assumption) (ci := 9) (by decide) rfl rfl (As := [_]) rfl rfl rfl (by first | exact Nat.le_refl _ | exact Nat.le_of_ble_eq_true rfl | omega) (Nat.le_of_ble_eq_true rfl) (by first | exact Nat.le_refl _ | exact Nat.le_of_ble_eq_true rfl | omega) (by first | exact Nat.le_refl _ | exact Nat.le_of_ble_eq_true rfl | omega) ?_
  refine r_astore (i := 6) C dX11_part_5 (Nat.le_of_ble_eq_true rfl) (by first | rfl | exact isR_rf _) ?_
  refine r_iload_n (i := 2) C dX11_part_7 rfl rfl ?_
  refine r_iconst (v := 0) C dX11_part_8 (by decide) ?_
  refine r_iconst (v := 2) C dX11_part_9 (by decide) ?_
  exact r_callSx C s_X11_47 (cR_no qw) dX11_part_10 (As := [_, _, _]) rfl rfl rfl (by first | exact Nat.le_refl _ | exact Nat.le_of_ble_eq_true rfl | omega) (Nat.le_of_ble_eq_true rfl) (by first | exact Nat.le_refl _ | exact Nat.le_of_ble_eq_true rfl | omega) (by first | exact Nat.le_refl _ | exact Nat.le_of_ble_eq_true rfl | omega) E rfl (by first | exact Nat.le_refl _ | exact Nat.le_of_ble_eq_true rfl | omega) (by first | exact Nat.le_refl _ | exact Nat.le_of_ble_eq_true rfl | omega)
theorem c_part_x3 (l : Launch) (G : Gl) {h : Hp} {H r : Nat} {x w t a b : Int32} (hkH : hK h H = 9) (Mr : MRw l G yX11_ruleOf (.code yX11_ruleOf cX11_ruleOf 3 (Option.some (Jvm.ClassFile.FieldType.object "CascadeHouse$Rule"))) 8 1 6 [.ref H, .int x] h (.inl (some (.ref r), h))) (qw : ¬ (w < 0 ∨ 2 < w)) (qp : ¬ ptOk t a b) : MRw l G yX11_part (.code yX11_part cX11_part 7 (Option.some Jvm.ClassFile.FieldType.int)) 12 30 600 [.ref H, .int x, .int w, .int t, .int a, .int b] h (.inr (xA, h)) := by
  refine mr_of (by decide +kernel) (Nat.le_of_ble_eq_true rfl) (ct6 (by first | rfl | exact isR_cat (isR_rf _)) (by first | rfl | exact isR_cat (isR_rf _)) (by first | rfl | exact isR_cat (isR_rf _)) (by first | rfl | exact isR_cat (isR_rf _)) (by first | rfl | exact isR_cat (isR_rf _)) (by first | rfl | exact isR_cat (isR_rf _))) (fun X hG hl C E => ?_)
  subst hG hl
  refine r_aload_n (i := 0) C dX11_part_0 rfl rfl (by first | rfl | exact isR_rf _) ?_
  refine r_iload_n (i := 1) C dX11_part_1 rfl rfl ?_
  refine r_callVs C v_X11_126 Mr dX11_part_2 (by assumption) (ci := 9) (by decide) rfl rfl (As := [_]) rfl rfl rfl (by first | exact Nat.le_refl _ | exact Nat.le_of_ble_eq_true rfl | omega) (Nat.le_of_ble_eq_true rfl) (by first | exact Nat.le_refl _ | exact Nat.le_of_ble_eq_true rfl | omega) (by first | exact Nat.le_refl _ | exact Nat.le_of_ble_eq_true rfl | omega) ?_
  refine r_astore (i := 6) C dX11_part_5 (Nat.le_of_ble_eq_true rfl) (by first | rfl | exact isR_rf _) ?_
  refine r_iload_n (i := 2) C dX11_part_7 rfl rfl ?_
  refine r_iconst (v := 0) C dX11_part_8 (by decide) ?_
  refine r_iconst (v := 2) C dX11_part_9 (by decide) ?_
  refine r_callSn C s_X11_47 (cR_ok qw) dX11_part_10 (As := [_, _, _]) rfl rfl rfl (by first | exact Nat.le_refl _ | exact Nat.le_of_ble_eq_true rfl | omega) (Nat.le_of_ble_eq_true rfl) (by first | exact Nat.le_refl _ | exact Nat.le_of_ble_eq_true rfl | omega) (by first | exact Nat.le_refl _ | exact Nat.le_of_ble_eq_true rfl | omega) ?_
  refine r_iload_n (i := 3) C dX11_part_13 rfl rfl ?_
  refine r_iload (i := 4) C dX11_part_14 rfl ?_
  refine r_iload (i := 5) C dX11_part_16 rfl ?_
  exact r_callSx C s_X11_103 (cPt_no _ _ qp) dX11_part_18 (As := [_, _, _]) rfl rfl rfl (by first | exact Nat.le_refl _ | exact Nat.le_of_ble_eq_true rfl | omega) (Nat.le_of_ble_eq_true rfl) (by first | exact Nat.le_refl _ | exact Nat.le_of_ble_eq_true rfl | omega) (by first | exact Nat.le_refl _ | exact Nat.le_of_ble_eq_true rfl | omega) E rfl (by first | exact Nat.le_refl _ | exact Nat.le_of_ble_eq_true rfl | omega) (by first | exact Nat.le_refl _ | exact Nat.le_of_ble_eq_true rfl | omega)
theorem c_part_x4 (l : Launch) (G : Gl) {h : Hp} {H r c : Nat} {x w t a b : Int32} (hkH : hK h H = 9) (Mr : MRw l G yX11_ruleOf (.code yX11_ruleOf cX11_ruleOf 3 (Option.some (Jvm.ClassFile.FieldType.object "CascadeHouse$Rule"))) 8 1 6 [.ref H, .int x] h (.inl (some (.ref r), h))) (hk : hK h r = 6) (qw : ¬ (w < 0 ∨ 2 < w)) (qp : ptOk t a b) (Mc : MRw l G yX7_partCount (.code yX7_partCount cX7_partCount 1 (Option.some Jvm.ClassFile.FieldType.int)) 1 0 0 [.ref r] h (.inl (some (.int (nI c)), h))) (h3c : c = 3) : MRw l G yX11_part (.code yX11_part cX11_part 7 (Option.some Jvm.ClassFile.FieldType.int)) 12 30 600 [.ref H, .int x, .int w, .int t, .int a, .int b] h (.inr (xS, h)) := by
  refine mr_of (by decide +kernel) (Nat.le_of_ble_eq_true rfl) (ct6 (by first | rfl | exact isR_cat (isR_rf _)) (by first | rfl | exact isR_cat (isR_rf _)) (by first | rfl | exact isR_cat (isR_rf _)) (by first | rfl | exact isR_cat (isR_rf _)) (by first | rfl | exact isR_cat (isR_rf _)) (by first | rfl | exact isR_cat (isR_rf _))) (fun X hG hl C E => ?_)
  subst hG hl
  refine r_aload_n (i := 0) C dX11_part_0 rfl rfl (by first | rfl | exact isR_rf _) ?_
  refine r_iload_n (i := 1) C dX11_part_1 rfl rfl ?_
  refine r_callVs C v_X11_126 Mr dX11_part_2 (by assumption) (ci := 9) (by decide) rfl rfl (As := [_]) rfl rfl rfl (by first | exact Nat.le_refl _ | exact Nat.le_of_ble_eq_true rfl | omega) (Nat.le_of_ble_eq_true rfl) (by first | exact Nat.le_refl _ | exact Nat.le_of_ble_eq_true rfl | omega) (by first | exact Nat.le_refl _ | exact Nat.le_of_ble_eq_true rfl | omega) ?_
  refine r_astore (i := 6) C dX11_part_5 (Nat.le_of_ble_eq_true rfl) (by first | rfl | exact isR_rf _) ?_
  refine r_iload_n (i := 2) C dX11_part_7 rfl rfl ?_
  refine r_iconst (v := 0) C dX11_part_8 (by decide) ?_
  refine r_iconst (v := 2) C dX11_part_9 (by decide) ?_
  refine r_callSn C s_X11_47 (cR_ok qw) dX11_part_10 (As := [_, _, _]) rfl rfl rfl (by first | exact Nat.le_refl _ | exact Nat.le_of_ble_eq_true rfl | omega) (Nat.le_of_ble_eq_true rfl) (by first | exact Nat.le_refl _ | exact Nat.le_of_ble_eq_true rfl | omega) (by first | exact Nat.le_refl _ | exact Nat.le_of_ble_eq_true rfl | omega) ?_
  refine r_iload_n (i := 3) C dX11_part_13 rfl rfl ?_
  refine r_iload (i := 4) C dX11_part_14 rfl ?_
  refine r_iload (i := 5) C dX11_part_16 rfl ?_
  refine r_callSn C s_X11_103 (cPt_ok _ _ qp) dX11_part_18 (As := [_, _, _]) rfl rfl rfl (by first | exact Nat.le_refl _ | exact Nat.le_of_ble_eq_true rfl | omega) (Nat.le_of_ble_eq_true rfl) (by first | exact Nat.le_refl _ | exact Nat.le_of_ble_eq_true rfl | omega) (by first | exact Nat.le_refl _ | exact Nat.le_of_ble_eq_true rfl | omega) ?_
  refine r_aload (i := 6) C dX11_part_21 rfl (by first | rfl | exact isR_rf _) ?_
  refine r_callVs C v_X11_130 Mc dX11_part_23 (by assumption) (ci := 6) (by decide) rfl rfl (As := []) rfl rfl rfl (by first | exact Nat.le_refl _ | exact Nat.le_of_ble_eq_true rfl | omega) (Nat.le_of_ble_eq_true rfl) (by first | exact Nat.le_refl _ | exact Nat.le_of_ble_eq_true rfl | omega) (by first | exact Nat.le_refl _ | exact Nat.le_of_ble_eq_true rfl | omega) ?_
  refine r_iconst (v := 3) C dX11_part_26 (by decide) ?_
  refine rn_ic_lt C c 3 rfl rfl (by omega) (by decide) (tgt := 40) dX11_part_27 (by decide) (fun q => absurd q (by omega)) (fun _ => ?_)
  exact r_throw (tx := "the rule has 3 parts") C E rfl rfl (by decide +kernel) c_X11_55 w_xS (by decide +kernel) (by decide +kernel) at_S rfl (Nat.le_of_ble_eq_true rfl) dX11_part_30 dX11_part_33 dX11_part_34 dX11_part_36 dX11_part_39 (by first | exact Nat.le_refl _ | exact Nat.le_of_ble_eq_true rfl | omega) (by first | exact Nat.le_refl _ | exact Nat.le_of_ble_eq_true rfl | omega) (by first | exact Nat.le_refl _ | exact Nat.le_of_ble_eq_true rfl | omega) (by first | exact Nat.le_refl _ | exact Nat.le_of_ble_eq_true rfl | omega) (by first | exact Nat.le_refl _ | exact Nat.le_of_ble_eq_true rfl | omega)
