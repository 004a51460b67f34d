/-! ===== the call rule: the walks ===== -/
theorem c_rule_ok (l : Launch) (G : Gl) {h hU h1 h2 h3 : Hp} {H B R j : Nat} {t a b o y i : Int32} (hkH : hK h H = 9) (hB : hR h fH_book H = some B) (hkB : hK h B = 7) (qp : ptOk t a b) (qo : ¬ (o < 0 ∨ 1 < o)) (qy : ¬ (y < 0 ∨ 2 < y)) (qi : i = 0 ∨ i = 1)
    (Mz : MRw l G yX8_size (.code yX8_size cX8_size 1 (Option.some Jvm.ClassFile.FieldType.int)) 1 0 0 [.ref B] h (.inl (some (.int (nI R)), h))) (hR16 : R < 16) (Mz2 : MRw l G yX8_size (.code yX8_size cX8_size 1 (Option.some Jvm.ClassFile.FieldType.int)) 1 0 0 [.ref B] (nw h 6 0) (.inl (some (.int (nI R)), nw h 6 0))) (hkH0 : hK (nw h 6 0) H = 9) (hkB0 : hK (nw h 6 0) B = 7)
    (Mi : MRw l G yX7_init (.code yX7_init cX7_init 5 none) 4 2 17 [.ref (hN h), .int (nI R), .int o, .int y, .int i] (nw h 6 0) (.inl (none, hU))) (Ma : MRw l G yX7_append (.code yX7_append cX7_append 2 none) 7 1 60 [.ref (hN h), .ref (hN hU)] (nwP hU 0 t a b) (.inl (none, h1))) (hk0 : hK (nwP hU 0 t a b) (hN h) = 6)
    (hkH1 : hK h1 H = 9) (hB1 : hR h1 fH_book H = some B) (hkB1 : hK h1 B = 7) (Mb : MRw l G yX8_append (.code yX8_append cX8_append 2 none) 8 2 120 [.ref B, .ref (hN h)] h1 (.inl (none, h2))) (hkH2 : hK h2 H = 9) (Ms : MRw l G yX11_settle (.code yX11_settle cX11_settle 4 none) 11 j (60 * j) [.ref H, .int (nI 0)] h2 (.inl (none, h3))) (hj : j ≤ 3) (hk3 : hK h3 (hN h) = 6) :
    MRw l G yX11_rule (.code yX11_rule cX11_rule 8 (Option.some Jvm.ClassFile.FieldType.int)) 12 30 600 [.ref H, .int t, .int a, .int b, .int o, .int y, .int i] h (.inl (some (.int (hI h3 fU_number (hN h))), h3)) := by
  have M3 := c_partInit l G (h := nw hU 5 0) (a := hN hU) (x0 := 0) (x1 := t) (x2 := a) (x3 := b) (by rw [hK_nw, va_up_self])
  refine mr_of (by decide +kernel) (Nat.le_of_ble_eq_true rfl) (ct7 (by first | rfl | exact isR_cat (isR_rf _)) (by first | rfl | exact isR_cat (isR_rf _)) (by first | rfl | exact isR_cat (isR_rf _)) (by first | rfl | exact isR_cat (isR_rf _)) (by first | rfl | exact isR_cat (isR_rf _)) (by first | rfl | exact isR_cat (isR_rf _)) (by first | rfl | exact isR_cat (isR_rf _))) (fun X hG hl C E => ?_)
  subst hG hl
  refine r_iload_n (i := 1) C dX11_rule_0 rfl rfl ?_
  refine r_iload_n (i := 2) C dX11_rule_1 rfl rfl ?_
  refine r_iload_n (i := 3) C dX11_rule_2 rfl rfl ?_
  refine r_callSn C s_X11_103 (cPt_ok _ _ qp) dX11_rule_3 (As := [_, _, _]) rfl rfl rfl (by first | exact Nat.le_refl _ | exact Nat.le_of_ble_eq_true rfl | omega) (Nat.le_of_ble_eq_true rfl) (by first | exact Nat.le_refl _ | exact Nat.le_of_ble_eq_true rfl | omega) (by first | exact Nat.le_refl _ | exact Nat.le_of_ble_eq_true rfl | omega) ?_
  refine r_iload (i := 4) C dX11_rule_6 rfl ?_
  refine r_iconst (v := 0) C dX11_rule_8 (by decide) ?_
  refine r_iconst (v := 1) C dX11_rule_9 (by decide) ?_
  refine r_callSn C s_X11_47 (cR_ok qo) dX11_rule_10 (As := [_, _, _]) rfl rfl rfl (by first | exact Nat.le_refl _ | exact Nat.le_of_ble_eq_true rfl | omega) (Nat.le_of_ble_eq_true rfl) (by first | exact Nat.le_refl _ | exact Nat.le_of_ble_eq_true rfl | omega) (by first | exact Nat.le_refl _ | exact Nat.le_of_ble_eq_true rfl | omega) ?_
  refine r_iload (i := 5) C dX11_rule_13 rfl ?_
  refine r_iconst (v := 0) C dX11_rule_15 (by decide) ?_
  refine r_iconst (v := 2) C dX11_rule_16 (by decide) ?_
  refine r_callSn C s_X11_47 (cR_ok qy) dX11_rule_17 (As := [_, _, _]) rfl rfl rfl (by first | exact Nat.le_refl _ | exact Nat.le_of_ble_eq_true rfl | omega) (Nat.le_of_ble_eq_true rfl) (by first | exact Nat.le_refl _ | exact Nat.le_of_ble_eq_true rfl | omega) (by first | exact Nat.le_refl _ | exact Nat.le_of_ble_eq_true rfl | omega) ?_
  refine r_aload_n (i := 0) C dX11_rule_20 rfl rfl (by first | rfl | exact isR_rf _) ?_
  refine r_getR C f_X11_19 dX11_rule_21 rfl (by assumption) ?_
  rw [hB]
  refine r_callVs C v_X11_106 Mz dX11_rule_24 (by assumption) (ci := 7) (by decide) rfl rfl (As := []) rfl rfl rfl (by first | exact Nat.le_refl _ | exact Nat.le_of_ble_eq_true rfl | omega) (Nat.le_of_ble_eq_true rfl) (by first | exact Nat.le_refl _ | exact Nat.le_of_ble_eq_true rfl | omega) (by first | exact Nat.le_refl _ | exact Nat.le_of_ble_eq_true rfl | omega) ?_
  refine r_bipush (v := 16) C dX11_rule_27 (by decide) ?_
  refine rn_ic_lt C R 16 rfl rfl (by omega) (by decide) (tgt := 42) dX11_rule_29 (by decide) (fun _ => ?_) (fun q => absurd hR16 (by omega))
  refine r_new C n_X11_109 dX11_rule_42 (by first | exact Nat.le_refl _ | exact Nat.le_of_ble_eq_true rfl | omega) (by first | exact Nat.le_refl _ | exact Nat.le_of_ble_eq_true rfl | omega) ?_
  refine r_dup C (by first | rfl | exact isR_cat (isR_rf _)) dX11_rule_45 ?_
  refine r_aload_n (i := 0) C dX11_rule_46 rfl rfl (by first | rfl | exact isR_rf _) ?_
  refine r_getR C f_X11_19 dX11_rule_47 rfl (by assumption) ?_
  rw [hR_nw, hB]
  refine r_callVs C v_X11_106 Mz2 dX11_rule_50 (by assumption) (ci := 7) (by decide) rfl rfl (As := []) rfl rfl rfl (by first | exact Nat.le_refl _ | exact Nat.le_of_ble_eq_true rfl | omega) (Nat.le_of_ble_eq_true rfl) (by first | exact Nat.le_refl _ | exact Nat.le_of_ble_eq_true rfl | omega) (by first | exact Nat.le_refl _ | exact Nat.le_of_ble_eq_true rfl | omega) ?_
  refine r_iload (i := 4) C dX11_rule_53 rfl ?_
  refine r_iload (i := 5) C dX11_rule_55 rfl ?_
  refine r_iload (i := 6) C dX11_rule_57 rfl ?_
  refine r_callI C i_X11_111 Mi dX11_rule_59 (As := [_, _, _, _]) rfl rfl rfl (by first | exact Nat.le_refl _ | exact Nat.le_of_ble_eq_true rfl | omega) (Nat.le_of_ble_eq_true rfl) (by first | exact Nat.le_refl _ | exact Nat.le_of_ble_eq_true rfl | omega) (by first | exact Nat.le_refl _ | exact Nat.le_of_ble_eq_true rfl | omega) ?_
  refine r_astore (i := 7) C dX11_rule_62 (Nat.le_of_ble_eq_true rfl) (by first | rfl | exact isR_rf _) ?_
  refine r_aload (i := 7) C dX11_rule_64 rfl (by first | rfl | exact isR_rf _) ?_
  refine r_new C n_X11_114 dX11_rule_66 (by first | exact Nat.le_refl _ | exact Nat.le_of_ble_eq_true rfl | omega) (by first | exact Nat.le_refl _ | exact Nat.le_of_ble_eq_true rfl | omega) ?_
  refine r_dup C (by first | rfl | exact isR_cat (isR_rf _)) dX11_rule_69 ?_
  refine r_iconst (v := 0) C dX11_rule_70 (by decide) ?_
  refine r_iload_n (i := 1) C dX11_rule_71 rfl rfl ?_
  refine r_iload_n (i := 2) C dX11_rule_72 rfl rfl ?_
  refine r_iload_n (i := 3) C dX11_rule_73 rfl rfl ?_
  refine r_callI C i_X11_116 M3 dX11_rule_74 (As := [_, _, _, _]) rfl rfl rfl (by first | exact Nat.le_refl _ | exact Nat.le_of_ble_eq_true rfl | omega) (Nat.le_of_ble_eq_true rfl) (by first | exact Nat.le_refl _ | exact Nat.le_of_ble_eq_true rfl | omega) (by first | exact Nat.le_refl _ | exact Nat.le_of_ble_eq_true rfl | omega) ?_
  refine r_callVn C v_X11_119 Ma dX11_rule_77 (by assumption) (ci := 6) (by decide) rfl rfl (As := [_]) rfl rfl rfl (by first | exact Nat.le_refl _ | exact Nat.le_of_ble_eq_true rfl | omega) (Nat.le_of_ble_eq_true rfl) (by first | exact Nat.le_refl _ | exact Nat.le_of_ble_eq_true rfl | omega) (by first | exact Nat.le_refl _ | exact Nat.le_of_ble_eq_true rfl | omega) ?_
  refine r_aload_n (i := 0) C dX11_rule_80 rfl rfl (by first | rfl | exact isR_rf _) ?_
  refine r_getR C f_X11_19 dX11_rule_81 rfl (by assumption) ?_
  rw [hB1]
  refine r_aload (i := 7) C dX11_rule_84 rfl (by first | rfl | exact isR_rf _) ?_
  refine r_callVn C v_X11_122 Mb dX11_rule_86 (by assumption) (ci := 7) (by decide) rfl rfl (As := [_]) rfl rfl rfl (by first | exact Nat.le_refl _ | exact Nat.le_of_ble_eq_true rfl | omega) (Nat.le_of_ble_eq_true rfl) (by first | exact Nat.le_refl _ | exact Nat.le_of_ble_eq_true rfl | omega) (by first | exact Nat.le_refl _ | exact Nat.le_of_ble_eq_true rfl | omega) ?_
  refine r_aload_n (i := 0) C dX11_rule_89 rfl rfl (by first | rfl | exact isR_rf _) ?_
  refine r_iconst (v := 0) C dX11_rule_90 (by decide) ?_
  refine r_callVn C v_X11_36 Ms dX11_rule_91 (by assumption) (ci := 9) (by decide) rfl rfl (As := [_]) rfl rfl rfl (by first | exact Nat.le_refl _ | exact Nat.le_of_ble_eq_true rfl | omega) (Nat.le_of_ble_eq_true rfl) (by first | exact Nat.le_refl _ | exact Nat.le_of_ble_eq_true rfl | omega) (by first | exact Nat.le_refl _ | exact Nat.le_of_ble_eq_true rfl | omega) ?_
  refine r_aload (i := 7) C dX11_rule_94 rfl (by first | rfl | exact isR_rf _) ?_
  refine r_getI C f_X11_125 dX11_rule_96 rfl (by assumption) ?_
  exact r_iret C E dX11_rule_99 rfl rfl (by first | exact Nat.le_refl _ | exact Nat.le_of_ble_eq_true rfl | omega) (by first | exact Nat.le_refl _ | exact Nat.le_of_ble_eq_true rfl | omega)
theorem c_rule_x1 (l : Launch) (G : Gl) {h : Hp} {H : Nat} {t a b o y i : Int32} (qi : i = 0 ∨ i = 1) (qp : ¬ ptOk t a b) : MRw l G yX11_rule (.code yX11_rule cX11_rule 8 (Option.some Jvm.ClassFile.FieldType.int)) 12 30 600 [.ref H, .int t, .int a, .int b, .int o, .int y, .int i] h (.inr (xA, h)) := by
  refine mr_of (by decide +kernel) (Nat.le_of_ble_eq_true rfl) (ct7 (by first | rfl | exact isR_cat (isR_rf _)) (by first | rfl | exact isR_cat (isR_rf _)) (by first | rfl | exact isR_cat (isR_rf _)) (by first | rfl | exact isR_cat (isR_rf _)) (by first | rfl | exact isR_cat (isR_rf _)) (by first | rfl | exact isR_cat (isR_rf _)) (by first | rfl | exact isR_cat (isR_rf _))) (fun X hG hl C E => ?_)
  subst hG hl
  refine r_iload_n (i := 1) C dX11_rule_0 rfl rfl ?_
  refine r_iload_n (i := 2) C dX11_rule_1 rfl rfl ?_
  refine r_iload_n (i := 3) C dX11_rule_2 rfl rfl ?_
  exact r_callSx C s_X11_103 (cPt_no _ _ qp) dX11_rule_3 (As := [_, _, _]) rfl rfl rfl (by first | exact Nat.le_refl _ | exact Nat.le_of_ble_eq_true rfl | omega) (Nat.le_of_ble_eq_true rfl) (by first | exact Nat.le_refl _ | exact Nat.le_of_ble_eq_true rfl | omega) (by first | exact Nat.le_refl _ | exact Nat.le_of_ble_eq_true rfl | omega) E rfl (by first | exact Nat.le_refl _ | exact Nat.le_of_ble_eq_true rfl | omega) (by first | exact Nat.le_refl _ | exact Nat.le_of_ble_eq_true rfl | omega)
theorem c_rule_x2 (l : Launch) (G : Gl) {h : Hp} {H : Nat} {t a b o y i : Int32} (qi : i = 0 ∨ i = 1) (qp : ptOk t a b) (qo : o < 0 ∨ 1 < o) : MRw l G yX11_rule (.code yX11_rule cX11_rule 8 (Option.some Jvm.ClassFile.FieldType.int)) 12 30 600 [.ref H, .int t, .int a, .int b, .int o, .int y, .int i] h (.inr (xA, h)) := by
  refine mr_of (by decide +kernel) (Nat.le_of_ble_eq_true rfl) (ct7 (by first | rfl | exact isR_cat (isR_rf _)) (by first | rfl | exact isR_cat (isR_rf _)) (by first | rfl | exact isR_cat (isR_rf _)) (by first | rfl | exact isR_cat (isR_rf _)) (by first | rfl | exact isR_cat (isR_rf _)) (by first | rfl | exact isR_cat (isR_rf _)) (by first | rfl | exact isR_cat (isR_rf _))) (fun X hG hl C E => ?_)
  subst hG hl
  refine r_iload_n (i := 1) C dX11_rule_0 rfl rfl ?_
  refine r_iload_n (i := 2) C dX11_rule_1 rfl rfl ?_
  refine r_iload_n (i := 3) C dX11_rule_2 rfl rfl ?_
  refine r_callSn C s_X11_103 (cPt_ok _ _ qp) dX11_rule_3 (As := [_, _, _]) rfl rfl rfl (by first | exact Nat.le_refl _ | exact Nat.le_of_ble_eq_true rfl | omega) (Nat.le_of_ble_eq_true rfl) (by first | exact Nat.le_refl _ | exact Nat.le_of_ble_eq_true rfl | omega) (by first | exact Nat.le_refl _ | exact Nat.le_of_ble_eq_true rfl | omega) ?_
  refine r_iload (i := 4) C dX11_rule_6 rfl ?_
  refine r_iconst (v := 0) C dX11_rule_8 (by decide) ?_
  refine r_iconst (v := 1) C dX11_rule_9 (by decide) ?_
  exact r_callSx C s_X11_47 (cR_no qo) dX11_rule_10 (As := [_, _, _]) rfl rfl rfl (by first | exact Nat.le_refl _ | exact Nat.le_of_ble_eq_true rfl | omega) (Nat.le_of_ble_eq_true rfl) (by first | exact Nat.le_refl _ | exact Nat.le_of_ble_eq_true rfl | omega) (by first | exact Nat.le_refl _ | exact Nat.le_of_ble_eq_true rfl | omega) E rfl (by first | exact Nat.le_refl _ | exact Nat.le_of_ble_eq_true rfl | omega) (by first | exact Nat.le_refl _ | exact Nat.le_of_ble_eq_true rfl | omega)
theorem c_rule_x3 (l : Launch) (G : Gl) {h : Hp} {H : Nat} {t a b o y i : Int32} (qi : i = 0 ∨ i = 1) (qp : ptOk t a b) (qo : ¬ (o < 0 ∨ 1 < o)) (qy : y < 0 ∨ 2 < y) : MRw l G yX11_rule (.code yX11_rule cX11_rule 8 (Option.some Jvm.ClassFile.FieldType.int)) 12 30 600 [.ref H, .int t, .int a, .int b, .int o, .int y, .int i] h (.inr (xA, h)) := by
  refine mr_of (by decide +kernel) (Nat.le_of_ble_eq_true rfl) (ct7 (by first | rfl | exact isR_cat (isR_rf _)) (by first | rfl | exact isR_cat (isR_rf _)) (by first | rfl | exact isR_cat (isR_rf _)) (by first | rfl | exact isR_cat (isR_rf _)) (by first | rfl | exact isR_cat (isR_rf _)) (by first | rfl | exact isR_cat (isR_rf _)) (by first | rfl | exact isR_cat (isR_rf _))) (fun X hG hl C E => ?_)
  subst hG hl
  refine r_iload_n (i := 1) C dX11_rule_0 rfl rfl ?_
  refine r_iload_n (i := 2) C dX11_rule_1 rfl rfl ?_
  refine r_iload_n (i := 3) C dX11_rule_2 rfl rfl ?_
  refine r_callSn C s_X11_103 (cPt_ok _ _ qp) dX11_rule_3 (As := [_, _, _]) rfl rfl rfl (by first | exact Nat.le_refl _ | exact Nat.le_of_ble_eq_true rfl | omega) (Nat.le_of_ble_eq_true rfl) (by first | exact Nat.le_refl _ | exact Nat.le_of_ble_eq_true rfl | omega) (by first | exact Nat.le_refl _ | exact Nat.le_of_ble_eq_true rfl | omega) ?_
  refine r_iload (i := 4) C dX11_rule_6 rfl ?_
  refine r_iconst (v := 0) C dX11_rule_8 (by decide) ?_
  refine r_iconst (v := 1) C dX11_rule_9 (by decide) ?_
  refine r_callSn C s_X11_47 (cR_ok qo) dX11_rule_10 (As := [_, _, _]) rfl rfl rfl (by first | exact Nat.le_refl _ | exact Nat.le_of_ble_eq_true rfl | omega) (Nat.le_of_ble_eq_true rfl) (by first | exact Nat.le_refl _ | exact Nat.le_of_ble_eq_true rfl | omega) (by first | exact Nat.le_refl _ | exact Nat.le_of_ble_eq_true rfl | omega) ?_
  refine r_iload (i := 5) C dX11_rule_13 rfl ?_
  refine r_iconst (v := 0) C dX11_rule_15 (by decide) ?_
  refine r_iconst (v := 2) C dX11_rule_16 (by decide) ?_
  exact r_callSx C s_X11_47 (cR_no qy) dX11_rule_17 (As := [_, _, _]) rfl rfl rfl (by first | exact Nat.le_refl _ | exact Nat.le_of_ble_eq_true rfl | omega) (Nat.le_of_ble_eq_true rfl) (by first | exact Nat.le_refl _ | exact Nat.le_of_ble_eq_true rfl | omega) (by first | exact Nat.le_refl _ | exact Nat.le_of_ble_eq_true rfl | omega) E rfl (by first | exact Nat.le_refl _ | exact Nat.le_of_ble_eq_true rfl | omega) (by first | exact Nat.le_refl _ | exact Nat.le_of_ble_eq_true rfl | omega)
theorem c_rule_x4 (l : Launch) (G : Gl) {h : Hp} {H B R : Nat} {t a b o y i : Int32} (hkH : hK h H = 9) (hB : hR h fH_book H = some B) (hkB : hK h B = 7) (qi : i = 0 ∨ i = 1) (qp : ptOk t a b) (qo : ¬ (o < 0 ∨ 1 < o)) (qy : ¬ (y < 0 ∨ 2 < y)) (Mz : MRw l G yX8_size (.code yX8_size cX8_size 1 (Option.some Jvm.ClassFile.FieldType.int)) 1 0 0 [.ref B] h (.inl (some (.int (nI R)), h))) (hR16 : R = 16) : MRw l G yX11_rule (.code yX11_rule cX11_rule 8 (Option.some Jvm.ClassFile.FieldType.int)) 12 30 600 [.ref H, .int t, .int a, .int b, .int o, .int y, .int i] h (.inr (xS, h)) := by
  refine mr_of (by decide +kernel) (Nat.le_of_ble_eq_true rfl) (ct7 (by first | rfl | exact isR_cat (isR_rf _)) (by first | rfl | exact isR_cat (isR_rf _)) (by first | rfl | exact isR_cat (isR_rf _)) (by first | rfl | exact isR_cat (isR_rf _)) (by first | rfl | exact isR_cat (isR_rf _)) (by first | rfl | exact isR_cat (isR_rf _)) (by first | rfl | exact isR_cat (isR_rf _))) (fun X hG hl C E => ?_)
  subst hG hl
  refine r_iload_n (i := 1) C dX11_rule_0 rfl rfl ?_
  refine r_iload_n (i := 2) C dX11_rule_1 rfl rfl ?_
  refine r_iload_n (i := 3) C dX11_rule_2 rfl rfl ?_
  refine r_callSn C s_X11_103 (cPt_ok _ _ qp) dX11_rule_3 (As := [_, _, _]) rfl rfl rfl (by first | exact Nat.le_refl _ | exact Nat.le_of_ble_eq_true rfl | omega) (Nat.le_of_ble_eq_true rfl) (by first | exact Nat.le_refl _ | exact Nat.le_of_ble_eq_true rfl | omega) (by first | exact Nat.le_refl _ | exact Nat.le_of_ble_eq_true rfl | omega) ?_
  refine r_iload (i := 4) C dX11_rule_6 rfl ?_
  refine r_iconst (v := 0) C dX11_rule_8 (by decide) ?_
  refine r_iconst (v := 1) C dX11_rule_9 (by decide) ?_
  refine r_callSn C s_X11_47 (cR_ok qo) dX11_rule_10 (As := [_, _, _]) rfl rfl rfl (by first | exact Nat.le_refl _ | exact Nat.le_of_ble_eq_true rfl | omega) (Nat.le_of_ble_eq_true rfl) (by first | exact Nat.le_refl _ | exact Nat.le_of_ble_eq_true rfl | omega) (by first | exact Nat.le_refl _ | exact Nat.le_of_ble_eq_true rfl | omega) ?_
  refine r_iload (i := 5) C dX11_rule_13 rfl ?_
  refine r_iconst (v := 0) C dX11_rule_15 (by decide) ?_
  refine r_iconst (v := 2) C dX11_rule_16 (by decide) ?_
  refine r_callSn C s_X11_47 (cR_ok qy) dX11_rule_17 (As := [_, _, _]) rfl rfl rfl (by first | exact Nat.le_refl _ | exact Nat.le_of_ble_eq_true rfl | omega) (Nat.le_of_ble_eq_true rfl) (by first | exact Nat.le_refl _ | exact Nat.le_of_ble_eq_true rfl | omega) (by first | exact Nat.le_refl _ | exact Nat.le_of_ble_eq_true rfl | omega) ?_
  refine r_aload_n (i := 0) C dX11_rule_20 rfl rfl (by first | rfl | exact isR_rf _) ?_
  refine r_getR C f_X11_19 dX11_rule_21 rfl (by assumption) ?_
  rw [hB]
  refine r_callVs C v_X11_106 Mz dX11_rule_24 (by assumption) (ci := 7) (by decide) rfl rfl (As := []) rfl rfl rfl (by first | exact Nat.le_refl _ | exact Nat.le_of_ble_eq_true rfl | omega) (Nat.le_of_ble_eq_true rfl) (by first | exact Nat.le_refl _ | exact Nat.le_of_ble_eq_true rfl | omega) (by first | exact Nat.le_refl _ | exact Nat.le_of_ble_eq_true rfl | omega) ?_
  refine r_bipush (v := 16) C dX11_rule_27 (by decide) ?_
  refine rn_ic_lt C R 16 rfl rfl (by omega) (by decide) (tgt := 42) dX11_rule_29 (by decide) (fun q => absurd q (by omega)) (fun _ => ?_)
  exact r_throw (tx := "16 rules are there") C E rfl rfl (by decide +kernel) c_X11_55 w_xS (by decide +kernel) (by decide +kernel) at_S rfl (Nat.le_of_ble_eq_true rfl) dX11_rule_32 dX11_rule_35 dX11_rule_36 dX11_rule_38 dX11_rule_41 (by first | exact Nat.le_refl _ | exact Nat.le_of_ble_eq_true rfl | omega) (by first | exact Nat.le_refl _ | exact Nat.le_of_ble_eq_true rfl | omega) (by first | exact Nat.le_refl _ | exact Nat.le_of_ble_eq_true rfl | omega) (by first | exact Nat.le_refl _ | exact Nat.le_of_ble_eq_true rfl | omega) (by first | exact Nat.le_refl _ | exact Nat.le_of_ble_eq_true rfl | omega)
