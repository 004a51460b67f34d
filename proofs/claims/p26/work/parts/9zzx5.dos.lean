/-! ===== the law: does, rule, is (by gendo.py) ===== -/
theorem wd_add (l : Launch) (G : Gl) {h h1 : Hp} {b f2 mc2 ms2 : Nat} {x0 x1 x2 x3 x4 : Int32} {v : Int32} (M : MRw l G yX11_add (.code yX11_add cX11_add 6 (Option.some Jvm.ClassFile.FieldType.int)) f2 mc2 ms2 [.ref b, .int x0, .int x1, .int x2] h (.inl (some (.int v), h1))) (hkb : hK h b = 9) : MRw l G yL_does (.codeWith yL_does cL_does 8 (Option.some Jvm.ClassFile.FieldType.int) [(0, 265, 266, 69), (0, 265, 271, 71), (0, 265, 276, 73)]) (f2 + 1) mc2 ms2 [.ref b, .int 0, .int x0, .int x1, .int x2, .int x3, .int x4] h (.inl (some (.int v), h1)) := by
  refine mr_ofH (by decide +kernel) (Nat.le_of_ble_eq_true rfl) (ct7 (by first | rfl | exact isR_cat (isR_rf _)) (by first | rfl | exact isR_cat (isR_rf _)) (by first | rfl | exact isR_cat (isR_rf _)) (by first | rfl | exact isR_cat (isR_rf _)) (by first | rfl | exact isR_cat (isR_rf _)) (by first | rfl | exact isR_cat (isR_rf _)) (by first | rfl | exact isR_cat (isR_rf _))) (fun X hG hl C E => ?_)
  subst hG hl
  refine r_iload_n (i := 1) C dL_does_0 rfl rfl ?_
  refine r_if_ne (tgt := 15) C dL_does_1 (by decide) (fun c_1 => ?_) (fun c_1 => ?_)
  · exact absurd c_1 (by decide)
  refine r_aload_n (i := 0) C dL_does_4 rfl rfl (by first | rfl | exact isR_rf _) ?_
  refine r_iload_n (i := 2) C dL_does_5 rfl rfl ?_
  refine r_iload_n (i := 3) C dL_does_6 rfl rfl ?_
  refine r_iload (i := 4) C dL_does_7 rfl ?_
  refine r_callVs C v_L_8 M dL_does_9 (by assumption) (ci := 9) (by decide) rfl rfl (As := [_, _, _]) rfl rfl rfl (by first | exact Nat.le_refl _ | exact Nat.le_of_ble_eq_true rfl | omega) (Nat.le_of_ble_eq_true rfl) (by first | exact Nat.le_refl _ | exact Nat.le_of_ble_eq_true rfl | omega) (by first | exact Nat.le_refl _ | exact Nat.le_of_ble_eq_true rfl | omega) ?_
  refine r_goto (tgt := 265) C dL_does_12 (by decide) ?_
  exact r_iret C E dL_does_265 rfl rfl (by omega) (by omega)
theorem wd_dress (l : Launch) (G : Gl) {h h1 : Hp} {b f2 mc2 ms2 : Nat} {x0 x1 x2 x3 x4 : Int32} {v : Int32} (M : MRw l G yX11_dress (.code yX11_dress cX11_dress 5 (Option.some Jvm.ClassFile.FieldType.int)) f2 mc2 ms2 [.ref b, .int x0, .int x1] h (.inl (some (.int v), h1))) (hkb : hK h b = 9) : MRw l G yL_does (.codeWith yL_does cL_does 8 (Option.some Jvm.ClassFile.FieldType.int) [(0, 265, 266, 69), (0, 265, 271, 71), (0, 265, 276, 73)]) (f2 + 1) mc2 ms2 [.ref b, .int 2, .int x0, .int x1, .int x2, .int x3, .int x4] h (.inl (some (.int v), h1)) := by
  refine mr_ofH (by decide +kernel) (Nat.le_of_ble_eq_true rfl) (ct7 (by first | rfl | exact isR_cat (isR_rf _)) (by first | rfl | exact isR_cat (isR_rf _)) (by first | rfl | exact isR_cat (isR_rf _)) (by first | rfl | exact isR_cat (isR_rf _)) (by first | rfl | exact isR_cat (isR_rf _)) (by first | rfl | exact isR_cat (isR_rf _)) (by first | rfl | exact isR_cat (isR_rf _))) (fun X hG hl C E => ?_)
  subst hG hl
  refine r_iload_n (i := 1) C dL_does_0 rfl rfl ?_
  refine r_if_ne (tgt := 15) C dL_does_1 (by decide) (fun c_1 => ?_) (fun c_1 => ?_)
  rotate_left
  · exact absurd c_1 (by decide)
  refine r_iload_n (i := 1) C dL_does_15 rfl rfl ?_
  refine r_iconst (v := 1) C dL_does_16 (by decide) ?_
  refine r_ic_ne (tgt := 28) C dL_does_17 (by decide) (fun c_17 => ?_) (fun c_17 => ?_)
  rotate_left
  · exact absurd c_17 (by decide)
  refine r_iload_n (i := 1) C dL_does_28 rfl rfl ?_
  refine r_iconst (v := 2) C dL_does_29 (by decide) ?_
  refine r_ic_ne (tgt := 42) C dL_does_30 (by decide) (fun c_30 => ?_) (fun c_30 => ?_)
  · exact absurd c_30 (by decide)
  refine r_aload_n (i := 0) C dL_does_33 rfl rfl (by first | rfl | exact isR_rf _) ?_
  refine r_iload_n (i := 2) C dL_does_34 rfl rfl ?_
  refine r_iload_n (i := 3) C dL_does_35 rfl rfl ?_
  refine r_callVs C v_L_18 M dL_does_36 (by assumption) (ci := 9) (by decide) rfl rfl (As := [_, _]) rfl rfl rfl (by first | exact Nat.le_refl _ | exact Nat.le_of_ble_eq_true rfl | omega) (Nat.le_of_ble_eq_true rfl) (by first | exact Nat.le_refl _ | exact Nat.le_of_ble_eq_true rfl | omega) (by first | exact Nat.le_refl _ | exact Nat.le_of_ble_eq_true rfl | omega) ?_
  refine r_goto (tgt := 265) C dL_does_39 (by decide) ?_
  exact r_iret C E dL_does_265 rfl rfl (by omega) (by omega)
theorem wd_text (l : Launch) (G : Gl) {h h1 : Hp} {b f2 mc2 ms2 : Nat} {x0 x1 x2 x3 x4 : Int32} {v : Int32} (M : MRw l G yX11_text (.code yX11_text cX11_text 5 (Option.some Jvm.ClassFile.FieldType.int)) f2 mc2 ms2 [.ref b, .int x0, .int x1] h (.inl (some (.int v), h1))) (hkb : hK h b = 9) : MRw l G yL_does (.codeWith yL_does cL_does 8 (Option.some Jvm.ClassFile.FieldType.int) [(0, 265, 266, 69), (0, 265, 271, 71), (0, 265, 276, 73)]) (f2 + 1) mc2 ms2 [.ref b, .int 3, .int x0, .int x1, .int x2, .int x3, .int x4] h (.inl (some (.int v), h1)) := by
  refine mr_ofH (by decide +kernel) (Nat.le_of_ble_eq_true rfl) (ct7 (by first | rfl | exact isR_cat (isR_rf _)) (by first | rfl | exact isR_cat (isR_rf _)) (by first | rfl | exact isR_cat (isR_rf _)) (by first | rfl | exact isR_cat (isR_rf _)) (by first | rfl | exact isR_cat (isR_rf _)) (by first | rfl | exact isR_cat (isR_rf _)) (by first | rfl | exact isR_cat (isR_rf _))) (fun X hG hl C E => ?_)
  subst hG hl
  refine r_iload_n (i := 1) C dL_does_0 rfl rfl ?_
  refine r_if_ne (tgt := 15) C dL_does_1 (by decide) (fun c_1 => ?_) (fun c_1 => ?_)
  rotate_left
  · exact absurd c_1 (by decide)
  refine r_iload_n (i := 1) C dL_does_15 rfl rfl ?_
  refine r_iconst (v := 1) C dL_does_16 (by decide) ?_
  refine r_ic_ne (tgt := 28) C dL_does_17 (by decide) (fun c_17 => ?_) (fun c_17 => ?_)
  rotate_left
  · exact absurd c_17 (by decide)
  refine r_iload_n (i := 1) C dL_does_28 rfl rfl ?_
  refine r_iconst (v := 2) C dL_does_29 (by decide) ?_
  refine r_ic_ne (tgt := 42) C dL_does_30 (by decide) (fun c_30 => ?_) (fun c_30 => ?_)
  rotate_left
  · exact absurd c_30 (by decide)
  refine r_iload_n (i := 1) C dL_does_42 rfl rfl ?_
  refine r_iconst (v := 3) C dL_does_43 (by decide) ?_
  refine r_ic_ne (tgt := 56) C dL_does_44 (by decide) (fun c_44 => ?_) (fun c_44 => ?_)
  · exact absurd c_44 (by decide)
  refine r_aload_n (i := 0) C dL_does_47 rfl rfl (by first | rfl | exact isR_rf _) ?_
  refine r_iload_n (i := 2) C dL_does_48 rfl rfl ?_
  refine r_iload_n (i := 3) C dL_does_49 rfl rfl ?_
  refine r_callVs C v_L_22 M dL_does_50 (by assumption) (ci := 9) (by decide) rfl rfl (As := [_, _]) rfl rfl rfl (by first | exact Nat.le_refl _ | exact Nat.le_of_ble_eq_true rfl | omega) (Nat.le_of_ble_eq_true rfl) (by first | exact Nat.le_refl _ | exact Nat.le_of_ble_eq_true rfl | omega) (by first | exact Nat.le_refl _ | exact Nat.le_of_ble_eq_true rfl | omega) ?_
  refine r_goto (tgt := 265) C dL_does_53 (by decide) ?_
  exact r_iret C E dL_does_265 rfl rfl (by omega) (by omega)
theorem wd_window (l : Launch) (G : Gl) {h h1 : Hp} {b f2 mc2 ms2 : Nat} {x0 x1 x2 x3 x4 : Int32} {v : Int32} (M : MRw l G yX11_window (.code yX11_window cX11_window 3 (Option.some Jvm.ClassFile.FieldType.int)) f2 mc2 ms2 [.ref b, .int x0] h (.inl (some (.int v), h1))) (hkb : hK h b = 9) : MRw l G yL_does (.codeWith yL_does cL_does 8 (Option.some Jvm.ClassFile.FieldType.int) [(0, 265, 266, 69), (0, 265, 271, 71), (0, 265, 276, 73)]) (f2 + 1) mc2 ms2 [.ref b, .int 4, .int x0, .int x1, .int x2, .int x3, .int x4] h (.inl (some (.int v), h1)) := by
  refine mr_ofH (by decide +kernel) (Nat.le_of_ble_eq_true rfl) (ct7 (by first | rfl | exact isR_cat (isR_rf _)) (by first | rfl | exact isR_cat (isR_rf _)) (by first | rfl | exact isR_cat (isR_rf _)) (by first | rfl | exact isR_cat (isR_rf _)) (by first | rfl | exact isR_cat (isR_rf _)) (by first | rfl | exact isR_cat (isR_rf _)) (by first | rfl | exact isR_cat (isR_rf _))) (fun X hG hl C E => ?_)
  subst hG hl
  refine r_iload_n (i := 1) C dL_does_0 rfl rfl ?_
  refine r_if_ne (tgt := 15) C dL_does_1 (by decide) (fun c_1 => ?_) (fun c_1 => ?_)
  rotate_left
  · exact absurd c_1 (by decide)
  refine r_iload_n (i := 1) C dL_does_15 rfl rfl ?_
  refine r_iconst (v := 1) C dL_does_16 (by decide) ?_
  refine r_ic_ne (tgt := 28) C dL_does_17 (by decide) (fun c_17 => ?_) (fun c_17 => ?_)
  rotate_left
  · exact absurd c_17 (by decide)
  refine r_iload_n (i := 1) C dL_does_28 rfl rfl ?_
  refine r_iconst (v := 2) C dL_does_29 (by decide) ?_
  refine r_ic_ne (tgt := 42) C dL_does_30 (by decide) (fun c_30 => ?_) (fun c_30 => ?_)
  rotate_left
  · exact absurd c_30 (by decide)
  refine r_iload_n (i := 1) C dL_does_42 rfl rfl ?_
  refine r_iconst (v := 3) C dL_does_43 (by decide) ?_
  refine r_ic_ne (tgt := 56) C dL_does_44 (by decide) (fun c_44 => ?_) (fun c_44 => ?_)
  rotate_left
  · exact absurd c_44 (by decide)
  refine r_iload_n (i := 1) C dL_does_56 rfl rfl ?_
  refine r_iconst (v := 4) C dL_does_57 (by decide) ?_
  refine r_ic_ne (tgt := 69) C dL_does_58 (by decide) (fun c_58 => ?_) (fun c_58 => ?_)
  · exact absurd c_58 (by decide)
  refine r_aload_n (i := 0) C dL_does_61 rfl rfl (by first | rfl | exact isR_rf _) ?_
  refine r_iload_n (i := 2) C dL_does_62 rfl rfl ?_
  refine r_callVs C v_L_25 M dL_does_63 (by assumption) (ci := 9) (by decide) rfl rfl (As := [_]) rfl rfl rfl (by first | exact Nat.le_refl _ | exact Nat.le_of_ble_eq_true rfl | omega) (Nat.le_of_ble_eq_true rfl) (by first | exact Nat.le_refl _ | exact Nat.le_of_ble_eq_true rfl | omega) (by first | exact Nat.le_refl _ | exact Nat.le_of_ble_eq_true rfl | omega) ?_
  refine r_goto (tgt := 265) C dL_does_66 (by decide) ?_
  exact r_iret C E dL_does_265 rfl rfl (by omega) (by omega)
theorem wd_ask (l : Launch) (G : Gl) {h h1 : Hp} {b f2 mc2 ms2 : Nat} {x0 x1 x2 x3 x4 : Int32} {v : Int32} (M : MRw l G yX11_ask (.code yX11_ask cX11_ask 5 (Option.some Jvm.ClassFile.FieldType.int)) f2 mc2 ms2 [.ref b, .int x0, .int x1] h (.inl (some (.int v), h1))) (hkb : hK h b = 9) : MRw l G yL_does (.codeWith yL_does cL_does 8 (Option.some Jvm.ClassFile.FieldType.int) [(0, 265, 266, 69), (0, 265, 271, 71), (0, 265, 276, 73)]) (f2 + 1) mc2 ms2 [.ref b, .int 6, .int x0, .int x1, .int x2, .int x3, .int x4] h (.inl (some (.int v), h1)) := by
  refine mr_ofH (by decide +kernel) (Nat.le_of_ble_eq_true rfl) (ct7 (by first | rfl | exact isR_cat (isR_rf _)) (by first | rfl | exact isR_cat (isR_rf _)) (by first | rfl | exact isR_cat (isR_rf _)) (by first | rfl | exact isR_cat (isR_rf _)) (by first | rfl | exact isR_cat (isR_rf _)) (by first | rfl | exact isR_cat (isR_rf _)) (by first | rfl | exact isR_cat (isR_rf _))) (fun X hG hl C E => ?_)
  subst hG hl
  refine r_iload_n (i := 1) C dL_does_0 rfl rfl ?_
  refine r_if_ne (tgt := 15) C dL_does_1 (by decide) (fun c_1 => ?_) (fun c_1 => ?_)
  rotate_left
  · exact absurd c_1 (by decide)
  refine r_iload_n (i := 1) C dL_does_15 rfl rfl ?_
  refine r_iconst (v := 1) C dL_does_16 (by decide) ?_
  refine r_ic_ne (tgt := 28) C dL_does_17 (by decide) (fun c_17 => ?_) (fun c_17 => ?_)
  rotate_left
  · exact absurd c_17 (by decide)
  refine r_iload_n (i := 1) C dL_does_28 rfl rfl ?_
  refine r_iconst (v := 2) C dL_does_29 (by decide) ?_
  refine r_ic_ne (tgt := 42) C dL_does_30 (by decide) (fun c_30 => ?_) (fun c_30 => ?_)
  rotate_left
  · exact absurd c_30 (by decide)
  refine r_iload_n (i := 1) C dL_does_42 rfl rfl ?_
  refine r_iconst (v := 3) C dL_does_43 (by decide) ?_
  refine r_ic_ne (tgt := 56) C dL_does_44 (by decide) (fun c_44 => ?_) (fun c_44 => ?_)
  rotate_left
  · exact absurd c_44 (by decide)
  refine r_iload_n (i := 1) C dL_does_56 rfl rfl ?_
  refine r_iconst (v := 4) C dL_does_57 (by decide) ?_
  refine r_ic_ne (tgt := 69) C dL_does_58 (by decide) (fun c_58 => ?_) (fun c_58 => ?_)
  rotate_left
  · exact absurd c_58 (by decide)
  refine r_iload_n (i := 1) C dL_does_69 rfl rfl ?_
  refine r_iconst (v := 5) C dL_does_70 (by decide) ?_
  refine r_ic_ne (tgt := 89) C dL_does_71 (by decide) (fun c_71 => ?_) (fun c_71 => ?_)
  rotate_left
  · exact absurd c_71 (by decide)
  refine r_iload_n (i := 1) C dL_does_89 rfl rfl ?_
  refine r_bipush (v := 6) C dL_does_90 (by decide) ?_
  refine r_ic_ne (tgt := 104) C dL_does_92 (by decide) (fun c_92 => ?_) (fun c_92 => ?_)
  · exact absurd c_92 (by decide)
  refine r_aload_n (i := 0) C dL_does_95 rfl rfl (by first | rfl | exact isR_rf _) ?_
  refine r_iload_n (i := 2) C dL_does_96 rfl rfl ?_
  refine r_iload_n (i := 3) C dL_does_97 rfl rfl ?_
  refine r_callVs C v_L_32 M dL_does_98 (by assumption) (ci := 9) (by decide) rfl rfl (As := [_, _]) rfl rfl rfl (by first | exact Nat.le_refl _ | exact Nat.le_of_ble_eq_true rfl | omega) (Nat.le_of_ble_eq_true rfl) (by first | exact Nat.le_refl _ | exact Nat.le_of_ble_eq_true rfl | omega) (by first | exact Nat.le_refl _ | exact Nat.le_of_ble_eq_true rfl | omega) ?_
  refine r_goto (tgt := 265) C dL_does_101 (by decide) ?_
  exact r_iret C E dL_does_265 rfl rfl (by omega) (by omega)
theorem wd_declare (l : Launch) (G : Gl) {h h1 : Hp} {b f2 mc2 ms2 : Nat} {x0 x1 x2 x3 x4 : Int32} {v : Int32} (M : MRw l G yX11_declare (.code yX11_declare cX11_declare 5 (Option.some Jvm.ClassFile.FieldType.int)) f2 mc2 ms2 [.ref b, .int x0, .int x1, .int x2] h (.inl (some (.int v), h1))) (hkb : hK h b = 9) : MRw l G yL_does (.codeWith yL_does cL_does 8 (Option.some Jvm.ClassFile.FieldType.int) [(0, 265, 266, 69), (0, 265, 271, 71), (0, 265, 276, 73)]) (f2 + 1) mc2 ms2 [.ref b, .int 7, .int x0, .int x1, .int x2, .int x3, .int x4] h (.inl (some (.int v), h1)) := by
  refine mr_ofH (by decide +kernel) (Nat.le_of_ble_eq_true rfl) (ct7 (by first | rfl | exact isR_cat (isR_rf _)) (by first | rfl | exact isR_cat (isR_rf _)) (by first | rfl | exact isR_cat (isR_rf _)) (by first | rfl | exact isR_cat (isR_rf _)) (by first | rfl | exact isR_cat (isR_rf _)) (by first | rfl | exact isR_cat (isR_rf _)) (by first | rfl | exact isR_cat (isR_rf _))) (fun X hG hl C E => ?_)
  subst hG hl
  refine r_iload_n (i := 1) C dL_does_0 rfl rfl ?_
  refine r_if_ne (tgt := 15) C dL_does_1 (by decide) (fun c_1 => ?_) (fun c_1 => ?_)
  rotate_left
  · exact absurd c_1 (by decide)
  refine r_iload_n (i := 1) C dL_does_15 rfl rfl ?_
  refine r_iconst (v := 1) C dL_does_16 (by decide) ?_
  refine r_ic_ne (tgt := 28) C dL_does_17 (by decide) (fun c_17 => ?_) (fun c_17 => ?_)
  rotate_left
  · exact absurd c_17 (by decide)
  refine r_iload_n (i := 1) C dL_does_28 rfl rfl ?_
  refine r_iconst (v := 2) C dL_does_29 (by decide) ?_
  refine r_ic_ne (tgt := 42) C dL_does_30 (by decide) (fun c_30 => ?_) (fun c_30 => ?_)
  rotate_left
  · exact absurd c_30 (by decide)
  refine r_iload_n (i := 1) C dL_does_42 rfl rfl ?_
  refine r_iconst (v := 3) C dL_does_43 (by decide) ?_
  refine r_ic_ne (tgt := 56) C dL_does_44 (by decide) (fun c_44 => ?_) (fun c_44 => ?_)
  rotate_left
  · exact absurd c_44 (by decide)
  refine r_iload_n (i := 1) C dL_does_56 rfl rfl ?_
  refine r_iconst (v := 4) C dL_does_57 (by decide) ?_
  refine r_ic_ne (tgt := 69) C dL_does_58 (by decide) (fun c_58 => ?_) (fun c_58 => ?_)
  rotate_left
  · exact absurd c_58 (by decide)
  refine r_iload_n (i := 1) C dL_does_69 rfl rfl ?_
  refine r_iconst (v := 5) C dL_does_70 (by decide) ?_
  refine r_ic_ne (tgt := 89) C dL_does_71 (by decide) (fun c_71 => ?_) (fun c_71 => ?_)
  rotate_left
  · exact absurd c_71 (by decide)
  refine r_iload_n (i := 1) C dL_does_89 rfl rfl ?_
  refine r_bipush (v := 6) C dL_does_90 (by decide) ?_
  refine r_ic_ne (tgt := 104) C dL_does_92 (by decide) (fun c_92 => ?_) (fun c_92 => ?_)
  rotate_left
  · exact absurd c_92 (by decide)
  refine r_iload_n (i := 1) C dL_does_104 rfl rfl ?_
  refine r_bipush (v := 7) C dL_does_105 (by decide) ?_
  refine r_ic_ne (tgt := 121) C dL_does_107 (by decide) (fun c_107 => ?_) (fun c_107 => ?_)
  · exact absurd c_107 (by decide)
  refine r_aload_n (i := 0) C dL_does_110 rfl rfl (by first | rfl | exact isR_rf _) ?_
  refine r_iload_n (i := 2) C dL_does_111 rfl rfl ?_
  refine r_iload_n (i := 3) C dL_does_112 rfl rfl ?_
  refine r_iload (i := 4) C dL_does_113 rfl ?_
  refine r_callVs C v_L_35 M dL_does_115 (by assumption) (ci := 9) (by decide) rfl rfl (As := [_, _, _]) rfl rfl rfl (by first | exact Nat.le_refl _ | exact Nat.le_of_ble_eq_true rfl | omega) (Nat.le_of_ble_eq_true rfl) (by first | exact Nat.le_refl _ | exact Nat.le_of_ble_eq_true rfl | omega) (by first | exact Nat.le_refl _ | exact Nat.le_of_ble_eq_true rfl | omega) ?_
  refine r_goto (tgt := 265) C dL_does_118 (by decide) ?_
  exact r_iret C E dL_does_265 rfl rfl (by omega) (by omega)
theorem wd_declare_x (l : Launch) (G : Gl) {h h1 : Hp} {b f2 mc2 ms2 : Nat} {x0 x1 x2 x3 x4 : Int32} (M : MRw l G yX11_declare (.code yX11_declare cX11_declare 5 (Option.some Jvm.ClassFile.FieldType.int)) f2 mc2 ms2 [.ref b, .int x0, .int x1, .int x2] h (.inr (xS, h1))) (hkb : hK h b = 9) : MRw l G yL_does (.codeWith yL_does cL_does 8 (Option.some Jvm.ClassFile.FieldType.int) [(0, 265, 266, 69), (0, 265, 271, 71), (0, 265, 276, 73)]) (f2 + 1) mc2 ms2 [.ref b, .int 7, .int x0, .int x1, .int x2, .int x3, .int x4] h (.inl (some (.int (-9)), h1)) := by
  refine mr_ofH (by decide +kernel) (Nat.le_of_ble_eq_true rfl) (ct7 (by first | rfl | exact isR_cat (isR_rf _)) (by first | rfl | exact isR_cat (isR_rf _)) (by first | rfl | exact isR_cat (isR_rf _)) (by first | rfl | exact isR_cat (isR_rf _)) (by first | rfl | exact isR_cat (isR_rf _)) (by first | rfl | exact isR_cat (isR_rf _)) (by first | rfl | exact isR_cat (isR_rf _))) (fun X hG hl C E => ?_)
  subst hG hl
  refine r_iload_n (i := 1) C dL_does_0 rfl rfl ?_
  refine r_if_ne (tgt := 15) C dL_does_1 (by decide) (fun c_1 => ?_) (fun c_1 => ?_)
  rotate_left
  · exact absurd c_1 (by decide)
  refine r_iload_n (i := 1) C dL_does_15 rfl rfl ?_
  refine r_iconst (v := 1) C dL_does_16 (by decide) ?_
  refine r_ic_ne (tgt := 28) C dL_does_17 (by decide) (fun c_17 => ?_) (fun c_17 => ?_)
  rotate_left
  · exact absurd c_17 (by decide)
  refine r_iload_n (i := 1) C dL_does_28 rfl rfl ?_
  refine r_iconst (v := 2) C dL_does_29 (by decide) ?_
  refine r_ic_ne (tgt := 42) C dL_does_30 (by decide) (fun c_30 => ?_) (fun c_30 => ?_)
  rotate_left
  · exact absurd c_30 (by decide)
  refine r_iload_n (i := 1) C dL_does_42 rfl rfl ?_
  refine r_iconst (v := 3) C dL_does_43 (by decide) ?_
  refine r_ic_ne (tgt := 56) C dL_does_44 (by decide) (fun c_44 => ?_) (fun c_44 => ?_)
  rotate_left
  · exact absurd c_44 (by decide)
  refine r_iload_n (i := 1) C dL_does_56 rfl rfl ?_
  refine r_iconst (v := 4) C dL_does_57 (by decide) ?_
  refine r_ic_ne (tgt := 69) C dL_does_58 (by decide) (fun c_58 => ?_) (fun c_58 => ?_)
  rotate_left
  · exact absurd c_58 (by decide)
  refine r_iload_n (i := 1) C dL_does_69 rfl rfl ?_
  refine r_iconst (v := 5) C dL_does_70 (by decide) ?_
  refine r_ic_ne (tgt := 89) C dL_does_71 (by decide) (fun c_71 => ?_) (fun c_71 => ?_)
  rotate_left
  · exact absurd c_71 (by decide)
  refine r_iload_n (i := 1) C dL_does_89 rfl rfl ?_
  refine r_bipush (v := 6) C dL_does_90 (by decide) ?_
  refine r_ic_ne (tgt := 104) C dL_does_92 (by decide) (fun c_92 => ?_) (fun c_92 => ?_)
  rotate_left
  · exact absurd c_92 (by decide)
  refine r_iload_n (i := 1) C dL_does_104 rfl rfl ?_
  refine r_bipush (v := 7) C dL_does_105 (by decide) ?_
  refine r_ic_ne (tgt := 121) C dL_does_107 (by decide) (fun c_107 => ?_) (fun c_107 => ?_)
  · exact absurd c_107 (by decide)
  refine r_aload_n (i := 0) C dL_does_110 rfl rfl (by first | rfl | exact isR_rf _) ?_
  refine r_iload_n (i := 2) C dL_does_111 rfl rfl ?_
  refine r_iload_n (i := 3) C dL_does_112 rfl rfl ?_
  refine r_iload (i := 4) C dL_does_113 rfl ?_
  refine r_callVc (a0 := 0) (b0 := 265) (hpc := 276) (ct := 73) (i := 7) (la := 2) (hp := [(0, 265, 266, 69), (0, 265, 271, 71)]) (hs := []) C v_L_35 M dL_does_115 hkb (ci := 9) (by decide) rfl rfl (As := [_, _, _]) rfl rfl rfl (Nat.le_refl _) (Nat.le_of_ble_eq_true rfl) (by omega) (by omega) rfl (List.forall_mem_cons.mpr ⟨⟨by decide, _, c_L_69, by decide +kernel⟩, (List.forall_mem_cons.mpr ⟨⟨by decide, _, c_L_71, by decide +kernel⟩, (fun _ z => nomatch z)⟩)⟩) (by decide) (by decide) c_L_73 (by decide +kernel) (Nat.le_of_ble_eq_true rfl) (Or.inr ⟨dL_does_276, rfl⟩) ?_
  refine r_bipush (v := (-9)) C dL_does_278 (by decide) ?_
  exact r_iret C E dL_does_280 rfl rfl (by omega) (by omega)
theorem wd_say (l : Launch) (G : Gl) {h h1 : Hp} {b f2 mc2 ms2 : Nat} {x0 x1 x2 x3 x4 : Int32} {v : Int32} (M : MRw l G yX11_say (.code yX11_say cX11_say 5 (Option.some Jvm.ClassFile.FieldType.int)) f2 mc2 ms2 [.ref b, .int x0, .int x1, .int x2] h (.inl (some (.int v), h1))) (hkb : hK h b = 9) : MRw l G yL_does (.codeWith yL_does cL_does 8 (Option.some Jvm.ClassFile.FieldType.int) [(0, 265, 266, 69), (0, 265, 271, 71), (0, 265, 276, 73)]) (f2 + 1) mc2 ms2 [.ref b, .int 8, .int x0, .int x1, .int x2, .int x3, .int x4] h (.inl (some (.int v), h1)) := by
  refine mr_ofH (by decide +kernel) (Nat.le_of_ble_eq_true rfl) (ct7 (by first | rfl | exact isR_cat (isR_rf _)) (by first | rfl | exact isR_cat (isR_rf _)) (by first | rfl | exact isR_cat (isR_rf _)) (by first | rfl | exact isR_cat (isR_rf _)) (by first | rfl | exact isR_cat (isR_rf _)) (by first | rfl | exact isR_cat (isR_rf _)) (by first | rfl | exact isR_cat (isR_rf _))) (fun X hG hl C E => ?_)
  subst hG hl
  refine r_iload_n (i := 1) C dL_does_0 rfl rfl ?_
  refine r_if_ne (tgt := 15) C dL_does_1 (by decide) (fun c_1 => ?_) (fun c_1 => ?_)
  rotate_left
  · exact absurd c_1 (by decide)
  refine r_iload_n (i := 1) C dL_does_15 rfl rfl ?_
  refine r_iconst (v := 1) C dL_does_16 (by decide) ?_
  refine r_ic_ne (tgt := 28) C dL_does_17 (by decide) (fun c_17 => ?_) (fun c_17 => ?_)
  rotate_left
  · exact absurd c_17 (by decide)
  refine r_iload_n (i := 1) C dL_does_28 rfl rfl ?_
  refine r_iconst (v := 2) C dL_does_29 (by decide) ?_
  refine r_ic_ne (tgt := 42) C dL_does_30 (by decide) (fun c_30 => ?_) (fun c_30 => ?_)
  rotate_left
  · exact absurd c_30 (by decide)
  refine r_iload_n (i := 1) C dL_does_42 rfl rfl ?_
  refine r_iconst (v := 3) C dL_does_43 (by decide) ?_
  refine r_ic_ne (tgt := 56) C dL_does_44 (by decide) (fun c_44 => ?_) (fun c_44 => ?_)
  rotate_left
  · exact absurd c_44 (by decide)
  refine r_iload_n (i := 1) C dL_does_56 rfl rfl ?_
  refine r_iconst (v := 4) C dL_does_57 (by decide) ?_
  refine r_ic_ne (tgt := 69) C dL_does_58 (by decide) (fun c_58 => ?_) (fun c_58 => ?_)
  rotate_left
  · exact absurd c_58 (by decide)
  refine r_iload_n (i := 1) C dL_does_69 rfl rfl ?_
  refine r_iconst (v := 5) C dL_does_70 (by decide) ?_
  refine r_ic_ne (tgt := 89) C dL_does_71 (by decide) (fun c_71 => ?_) (fun c_71 => ?_)
  rotate_left
  · exact absurd c_71 (by decide)
  refine r_iload_n (i := 1) C dL_does_89 rfl rfl ?_
  refine r_bipush (v := 6) C dL_does_90 (by decide) ?_
  refine r_ic_ne (tgt := 104) C dL_does_92 (by decide) (fun c_92 => ?_) (fun c_92 => ?_)
  rotate_left
  · exact absurd c_92 (by decide)
  refine r_iload_n (i := 1) C dL_does_104 rfl rfl ?_
  refine r_bipush (v := 7) C dL_does_105 (by decide) ?_
  refine r_ic_ne (tgt := 121) C dL_does_107 (by decide) (fun c_107 => ?_) (fun c_107 => ?_)
  rotate_left
  · exact absurd c_107 (by decide)
  refine r_iload_n (i := 1) C dL_does_121 rfl rfl ?_
  refine r_bipush (v := 8) C dL_does_122 (by decide) ?_
  refine r_ic_ne (tgt := 138) C dL_does_124 (by decide) (fun c_124 => ?_) (fun c_124 => ?_)
  · exact absurd c_124 (by decide)
  refine r_aload_n (i := 0) C dL_does_127 rfl rfl (by first | rfl | exact isR_rf _) ?_
  refine r_iload_n (i := 2) C dL_does_128 rfl rfl ?_
  refine r_iload_n (i := 3) C dL_does_129 rfl rfl ?_
  refine r_iload (i := 4) C dL_does_130 rfl ?_
  refine r_callVs C v_L_38 M dL_does_132 (by assumption) (ci := 9) (by decide) rfl rfl (As := [_, _, _]) rfl rfl rfl (by first | exact Nat.le_refl _ | exact Nat.le_of_ble_eq_true rfl | omega) (Nat.le_of_ble_eq_true rfl) (by first | exact Nat.le_refl _ | exact Nat.le_of_ble_eq_true rfl | omega) (by first | exact Nat.le_refl _ | exact Nat.le_of_ble_eq_true rfl | omega) ?_
  refine r_goto (tgt := 265) C dL_does_135 (by decide) ?_
  exact r_iret C E dL_does_265 rfl rfl (by omega) (by omega)
theorem wd_say_x (l : Launch) (G : Gl) {h h1 : Hp} {b f2 mc2 ms2 : Nat} {x0 x1 x2 x3 x4 : Int32} (M : MRw l G yX11_say (.code yX11_say cX11_say 5 (Option.some Jvm.ClassFile.FieldType.int)) f2 mc2 ms2 [.ref b, .int x0, .int x1, .int x2] h (.inr (xS, h1))) (hkb : hK h b = 9) : MRw l G yL_does (.codeWith yL_does cL_does 8 (Option.some Jvm.ClassFile.FieldType.int) [(0, 265, 266, 69), (0, 265, 271, 71), (0, 265, 276, 73)]) (f2 + 1) mc2 ms2 [.ref b, .int 8, .int x0, .int x1, .int x2, .int x3, .int x4] h (.inl (some (.int (-9)), h1)) := by
  refine mr_ofH (by decide +kernel) (Nat.le_of_ble_eq_true rfl) (ct7 (by first | rfl | exact isR_cat (isR_rf _)) (by first | rfl | exact isR_cat (isR_rf _)) (by first | rfl | exact isR_cat (isR_rf _)) (by first | rfl | exact isR_cat (isR_rf _)) (by first | rfl | exact isR_cat (isR_rf _)) (by first | rfl | exact isR_cat (isR_rf _)) (by first | rfl | exact isR_cat (isR_rf _))) (fun X hG hl C E => ?_)
  subst hG hl
  refine r_iload_n (i := 1) C dL_does_0 rfl rfl ?_
  refine r_if_ne (tgt := 15) C dL_does_1 (by decide) (fun c_1 => ?_) (fun c_1 => ?_)
  rotate_left
  · exact absurd c_1 (by decide)
  refine r_iload_n (i := 1) C dL_does_15 rfl rfl ?_
  refine r_iconst (v := 1) C dL_does_16 (by decide) ?_
  refine r_ic_ne (tgt := 28) C dL_does_17 (by decide) (fun c_17 => ?_) (fun c_17 => ?_)
  rotate_left
  · exact absurd c_17 (by decide)
  refine r_iload_n (i := 1) C dL_does_28 rfl rfl ?_
  refine r_iconst (v := 2) C dL_does_29 (by decide) ?_
  refine r_ic_ne (tgt := 42) C dL_does_30 (by decide) (fun c_30 => ?_) (fun c_30 => ?_)
  rotate_left
  · exact absurd c_30 (by decide)
  refine r_iload_n (i := 1) C dL_does_42 rfl rfl ?_
  refine r_iconst (v := 3) C dL_does_43 (by decide) ?_
  refine r_ic_ne (tgt := 56) C dL_does_44 (by decide) (fun c_44 => ?_) (fun c_44 => ?_)
  rotate_left
  · exact absurd c_44 (by decide)
  refine r_iload_n (i := 1) C dL_does_56 rfl rfl ?_
  refine r_iconst (v := 4) C dL_does_57 (by decide) ?_
  refine r_ic_ne (tgt := 69) C dL_does_58 (by decide) (fun c_58 => ?_) (fun c_58 => ?_)
  rotate_left
  · exact absurd c_58 (by decide)
  refine r_iload_n (i := 1) C dL_does_69 rfl rfl ?_
  refine r_iconst (v := 5) C dL_does_70 (by decide) ?_
  refine r_ic_ne (tgt := 89) C dL_does_71 (by decide) (fun c_71 => ?_) (fun c_71 => ?_)
  rotate_left
  · exact absurd c_71 (by decide)
  refine r_iload_n (i := 1) C dL_does_89 rfl rfl ?_
  refine r_bipush (v := 6) C dL_does_90 (by decide) ?_
  refine r_ic_ne (tgt := 104) C dL_does_92 (by decide) (fun c_92 => ?_) (fun c_92 => ?_)
  rotate_left
  · exact absurd c_92 (by decide)
  refine r_iload_n (i := 1) C dL_does_104 rfl rfl ?_
  refine r_bipush (v := 7) C dL_does_105 (by decide) ?_
  refine r_ic_ne (tgt := 121) C dL_does_107 (by decide) (fun c_107 => ?_) (fun c_107 => ?_)
  rotate_left
  · exact absurd c_107 (by decide)
  refine r_iload_n (i := 1) C dL_does_121 rfl rfl ?_
  refine r_bipush (v := 8) C dL_does_122 (by decide) ?_
  refine r_ic_ne (tgt := 138) C dL_does_124 (by decide) (fun c_124 => ?_) (fun c_124 => ?_)
  · exact absurd c_124 (by decide)
  refine r_aload_n (i := 0) C dL_does_127 rfl rfl (by first | rfl | exact isR_rf _) ?_
  refine r_iload_n (i := 2) C dL_does_128 rfl rfl ?_
  refine r_iload_n (i := 3) C dL_does_129 rfl rfl ?_
  refine r_iload (i := 4) C dL_does_130 rfl ?_
  refine r_callVc (a0 := 0) (b0 := 265) (hpc := 276) (ct := 73) (i := 7) (la := 2) (hp := [(0, 265, 266, 69), (0, 265, 271, 71)]) (hs := []) C v_L_38 M dL_does_132 hkb (ci := 9) (by decide) rfl rfl (As := [_, _, _]) rfl rfl rfl (Nat.le_refl _) (Nat.le_of_ble_eq_true rfl) (by omega) (by omega) rfl (List.forall_mem_cons.mpr ⟨⟨by decide, _, c_L_69, by decide +kernel⟩, (List.forall_mem_cons.mpr ⟨⟨by decide, _, c_L_71, by decide +kernel⟩, (fun _ z => nomatch z)⟩)⟩) (by decide) (by decide) c_L_73 (by decide +kernel) (Nat.le_of_ble_eq_true rfl) (Or.inr ⟨dL_does_276, rfl⟩) ?_
  refine r_bipush (v := (-9)) C dL_does_278 (by decide) ?_
  exact r_iret C E dL_does_280 rfl rfl (by omega) (by omega)
theorem wd_refer (l : Launch) (G : Gl) {h h1 : Hp} {b f2 mc2 ms2 : Nat} {x0 x1 x2 x3 x4 : Int32} {v : Int32} (M : MRw l G yX11_refer (.code yX11_refer cX11_refer 6 (Option.some Jvm.ClassFile.FieldType.int)) f2 mc2 ms2 [.ref b, .int x0, .int x1, .int x2, .int x3] h (.inl (some (.int v), h1))) (hkb : hK h b = 9) : MRw l G yL_does (.codeWith yL_does cL_does 8 (Option.some Jvm.ClassFile.FieldType.int) [(0, 265, 266, 69), (0, 265, 271, 71), (0, 265, 276, 73)]) (f2 + 1) mc2 ms2 [.ref b, .int 9, .int x0, .int x1, .int x2, .int x3, .int x4] h (.inl (some (.int v), h1)) := by
  refine mr_ofH (by decide +kernel) (Nat.le_of_ble_eq_true rfl) (ct7 (by first | rfl | exact isR_cat (isR_rf _)) (by first | rfl | exact isR_cat (isR_rf _)) (by first | rfl | exact isR_cat (isR_rf _)) (by first | rfl | exact isR_cat (isR_rf _)) (by first | rfl | exact isR_cat (isR_rf _)) (by first | rfl | exact isR_cat (isR_rf _)) (by first | rfl | exact isR_cat (isR_rf _))) (fun X hG hl C E => ?_)
  subst hG hl
  refine r_iload_n (i := 1) C dL_does_0 rfl rfl ?_
  refine r_if_ne (tgt := 15) C dL_does_1 (by decide) (fun c_1 => ?_) (fun c_1 => ?_)
  rotate_left
  · exact absurd c_1 (by decide)
  refine r_iload_n (i := 1) C dL_does_15 rfl rfl ?_
  refine r_iconst (v := 1) C dL_does_16 (by decide) ?_
  refine r_ic_ne (tgt := 28) C dL_does_17 (by decide) (fun c_17 => ?_) (fun c_17 => ?_)
  rotate_left
  · exact absurd c_17 (by decide)
  refine r_iload_n (i := 1) C dL_does_28 rfl rfl ?_
  refine r_iconst (v := 2) C dL_does_29 (by decide) ?_
  refine r_ic_ne (tgt := 42) C dL_does_30 (by decide) (fun c_30 => ?_) (fun c_30 => ?_)
  rotate_left
  · exact absurd c_30 (by decide)
  refine r_iload_n (i := 1) C dL_does_42 rfl rfl ?_
  refine r_iconst (v := 3) C dL_does_43 (by decide) ?_
  refine r_ic_ne (tgt := 56) C dL_does_44 (by decide) (fun c_44 => ?_) (fun c_44 => ?_)
  rotate_left
  · exact absurd c_44 (by decide)
  refine r_iload_n (i := 1) C dL_does_56 rfl rfl ?_
  refine r_iconst (v := 4) C dL_does_57 (by decide) ?_
  refine r_ic_ne (tgt := 69) C dL_does_58 (by decide) (fun c_58 => ?_) (fun c_58 => ?_)
  rotate_left
  · exact absurd c_58 (by decide)
  refine r_iload_n (i := 1) C dL_does_69 rfl rfl ?_
  refine r_iconst (v := 5) C dL_does_70 (by decide) ?_
  refine r_ic_ne (tgt := 89) C dL_does_71 (by decide) (fun c_71 => ?_) (fun c_71 => ?_)
  rotate_left
  · exact absurd c_71 (by decide)
  refine r_iload_n (i := 1) C dL_does_89 rfl rfl ?_
  refine r_bipush (v := 6) C dL_does_90 (by decide) ?_
  refine r_ic_ne (tgt := 104) C dL_does_92 (by decide) (fun c_92 => ?_) (fun c_92 => ?_)
  rotate_left
  · exact absurd c_92 (by decide)
  refine r_iload_n (i := 1) C dL_does_104 rfl rfl ?_
  refine r_bipush (v := 7) C dL_does_105 (by decide) ?_
  refine r_ic_ne (tgt := 121) C dL_does_107 (by decide) (fun c_107 => ?_) (fun c_107 => ?_)
  rotate_left
  · exact absurd c_107 (by decide)
  refine r_iload_n (i := 1) C dL_does_121 rfl rfl ?_
  refine r_bipush (v := 8) C dL_does_122 (by decide) ?_
  refine r_ic_ne (tgt := 138) C dL_does_124 (by decide) (fun c_124 => ?_) (fun c_124 => ?_)
  rotate_left
  · exact absurd c_124 (by decide)
  refine r_iload_n (i := 1) C dL_does_138 rfl rfl ?_
  refine r_bipush (v := 9) C dL_does_139 (by decide) ?_
  refine r_ic_ne (tgt := 157) C dL_does_141 (by decide) (fun c_141 => ?_) (fun c_141 => ?_)
  · exact absurd c_141 (by decide)
  refine r_aload_n (i := 0) C dL_does_144 rfl rfl (by first | rfl | exact isR_rf _) ?_
  refine r_iload_n (i := 2) C dL_does_145 rfl rfl ?_
  refine r_iload_n (i := 3) C dL_does_146 rfl rfl ?_
  refine r_iload (i := 4) C dL_does_147 rfl ?_
  refine r_iload (i := 5) C dL_does_149 rfl ?_
  refine r_callVs C v_L_41 M dL_does_151 (by assumption) (ci := 9) (by decide) rfl rfl (As := [_, _, _, _]) rfl rfl rfl (by first | exact Nat.le_refl _ | exact Nat.le_of_ble_eq_true rfl | omega) (Nat.le_of_ble_eq_true rfl) (by first | exact Nat.le_refl _ | exact Nat.le_of_ble_eq_true rfl | omega) (by first | exact Nat.le_refl _ | exact Nat.le_of_ble_eq_true rfl | omega) ?_
  refine r_goto (tgt := 265) C dL_does_154 (by decide) ?_
  exact r_iret C E dL_does_265 rfl rfl (by omega) (by omega)
theorem wd_refer_x (l : Launch) (G : Gl) {h h1 : Hp} {b f2 mc2 ms2 : Nat} {x0 x1 x2 x3 x4 : Int32} (M : MRw l G yX11_refer (.code yX11_refer cX11_refer 6 (Option.some Jvm.ClassFile.FieldType.int)) f2 mc2 ms2 [.ref b, .int x0, .int x1, .int x2, .int x3] h (.inr (xS, h1))) (hkb : hK h b = 9) : MRw l G yL_does (.codeWith yL_does cL_does 8 (Option.some Jvm.ClassFile.FieldType.int) [(0, 265, 266, 69), (0, 265, 271, 71), (0, 265, 276, 73)]) (f2 + 1) mc2 ms2 [.ref b, .int 9, .int x0, .int x1, .int x2, .int x3, .int x4] h (.inl (some (.int (-9)), h1)) := by
  refine mr_ofH (by decide +kernel) (Nat.le_of_ble_eq_true rfl) (ct7 (by first | rfl | exact isR_cat (isR_rf _)) (by first | rfl | exact isR_cat (isR_rf _)) (by first | rfl | exact isR_cat (isR_rf _)) (by first | rfl | exact isR_cat (isR_rf _)) (by first | rfl | exact isR_cat (isR_rf _)) (by first | rfl | exact isR_cat (isR_rf _)) (by first | rfl | exact isR_cat (isR_rf _))) (fun X hG hl C E => ?_)
  subst hG hl
  refine r_iload_n (i := 1) C dL_does_0 rfl rfl ?_
  refine r_if_ne (tgt := 15) C dL_does_1 (by decide) (fun c_1 => ?_) (fun c_1 => ?_)
  rotate_left
  · exact absurd c_1 (by decide)
  refine r_iload_n (i := 1) C dL_does_15 rfl rfl ?_
  refine r_iconst (v := 1) C dL_does_16 (by decide) ?_
  refine r_ic_ne (tgt := 28) C dL_does_17 (by decide) (fun c_17 => ?_) (fun c_17 => ?_)
  rotate_left
  · exact absurd c_17 (by decide)
  refine r_iload_n (i := 1) C dL_does_28 rfl rfl ?_
  refine r_iconst (v := 2) C dL_does_29 (by decide) ?_
  refine r_ic_ne (tgt := 42) C dL_does_30 (by decide) (fun c_30 => ?_) (fun c_30 => ?_)
  rotate_left
  · exact absurd c_30 (by decide)
  refine r_iload_n (i := 1) C dL_does_42 rfl rfl ?_
  refine r_iconst (v := 3) C dL_does_43 (by decide) ?_
  refine r_ic_ne (tgt := 56) C dL_does_44 (by decide) (fun c_44 => ?_) (fun c_44 => ?_)
  rotate_left
  · exact absurd c_44 (by decide)
  refine r_iload_n (i := 1) C dL_does_56 rfl rfl ?_
  refine r_iconst (v := 4) C dL_does_57 (by decide) ?_
  refine r_ic_ne (tgt := 69) C dL_does_58 (by decide) (fun c_58 => ?_) (fun c_58 => ?_)
  rotate_left
  · exact absurd c_58 (by decide)
  refine r_iload_n (i := 1) C dL_does_69 rfl rfl ?_
  refine r_iconst (v := 5) C dL_does_70 (by decide) ?_
  refine r_ic_ne (tgt := 89) C dL_does_71 (by decide) (fun c_71 => ?_) (fun c_71 => ?_)
  rotate_left
  · exact absurd c_71 (by decide)
  refine r_iload_n (i := 1) C dL_does_89 rfl rfl ?_
  refine r_bipush (v := 6) C dL_does_90 (by decide) ?_
  refine r_ic_ne (tgt := 104) C dL_does_92 (by decide) (fun c_92 => ?_) (fun c_92 => ?_)
  rotate_left
  · exact absurd c_92 (by decide)
  refine r_iload_n (i := 1) C dL_does_104 rfl rfl ?_
  refine r_bipush (v := 7) C dL_does_105 (by decide) ?_
  refine r_ic_ne (tgt := 121) C dL_does_107 (by decide) (fun c_107 => ?_) (fun c_107 => ?_)
  rotate_left
  · exact absurd c_107 (by decide)
  refine r_iload_n (i := 1) C dL_does_121 rfl rfl ?_
  refine r_bipush (v := 8) C dL_does_122 (by decide) ?_
  refine r_ic_ne (tgt := 138) C dL_does_124 (by decide) (fun c_124 => ?_) (fun c_124 => ?_)
  rotate_left
  · exact absurd c_124 (by decide)
  refine r_iload_n (i := 1) C dL_does_138 rfl rfl ?_
  refine r_bipush (v := 9) C dL_does_139 (by decide) ?_
  refine r_ic_ne (tgt := 157) C dL_does_141 (by decide) (fun c_141 => ?_) (fun c_141 => ?_)
  · exact absurd c_141 (by decide)
  refine r_aload_n (i := 0) C dL_does_144 rfl rfl (by first | rfl | exact isR_rf _) ?_
  refine r_iload_n (i := 2) C dL_does_145 rfl rfl ?_
  refine r_iload_n (i := 3) C dL_does_146 rfl rfl ?_
  refine r_iload (i := 4) C dL_does_147 rfl ?_
  refine r_iload (i := 5) C dL_does_149 rfl ?_
  refine r_callVc (a0 := 0) (b0 := 265) (hpc := 276) (ct := 73) (i := 7) (la := 2) (hp := [(0, 265, 266, 69), (0, 265, 271, 71)]) (hs := []) C v_L_41 M dL_does_151 hkb (ci := 9) (by decide) rfl rfl (As := [_, _, _, _]) rfl rfl rfl (Nat.le_refl _) (Nat.le_of_ble_eq_true rfl) (by omega) (by omega) rfl (List.forall_mem_cons.mpr ⟨⟨by decide, _, c_L_69, by decide +kernel⟩, (List.forall_mem_cons.mpr ⟨⟨by decide, _, c_L_71, by decide +kernel⟩, (fun _ z => nomatch z)⟩)⟩) (by decide) (by decide) c_L_73 (by decide +kernel) (Nat.le_of_ble_eq_true rfl) (Or.inr ⟨dL_does_276, rfl⟩) ?_
  refine r_bipush (v := (-9)) C dL_does_278 (by decide) ?_
  exact r_iret C E dL_does_280 rfl rfl (by omega) (by omega)
theorem wd_value (l : Launch) (G : Gl) {h h1 : Hp} {b f2 mc2 ms2 : Nat} {x0 x1 x2 x3 x4 : Int32} {v : Int32} (M : MRw l G yX11_value (.code yX11_value cX11_value 4 (Option.some Jvm.ClassFile.FieldType.int)) f2 mc2 ms2 [.ref b, .int x0, .int x1] h (.inl (some (.int v), h1))) (hkb : hK h b = 9) : MRw l G yL_does (.codeWith yL_does cL_does 8 (Option.some Jvm.ClassFile.FieldType.int) [(0, 265, 266, 69), (0, 265, 271, 71), (0, 265, 276, 73)]) (f2 + 1) mc2 ms2 [.ref b, .int 12, .int x0, .int x1, .int x2, .int x3, .int x4] h (.inl (some (.int v), h1)) := by
  refine mr_ofH (by decide +kernel) (Nat.le_of_ble_eq_true rfl) (ct7 (by first | rfl | exact isR_cat (isR_rf _)) (by first | rfl | exact isR_cat (isR_rf _)) (by first | rfl | exact isR_cat (isR_rf _)) (by first | rfl | exact isR_cat (isR_rf _)) (by first | rfl | exact isR_cat (isR_rf _)) (by first | rfl | exact isR_cat (isR_rf _)) (by first | rfl | exact isR_cat (isR_rf _))) (fun X hG hl C E => ?_)
  subst hG hl
  refine r_iload_n (i := 1) C dL_does_0 rfl rfl ?_
  refine r_if_ne (tgt := 15) C dL_does_1 (by decide) (fun c_1 => ?_) (fun c_1 => ?_)
  rotate_left
  · exact absurd c_1 (by decide)
  refine r_iload_n (i := 1) C dL_does_15 rfl rfl ?_
  refine r_iconst (v := 1) C dL_does_16 (by decide) ?_
  refine r_ic_ne (tgt := 28) C dL_does_17 (by decide) (fun c_17 => ?_) (fun c_17 => ?_)
  rotate_left
  · exact absurd c_17 (by decide)
  refine r_iload_n (i := 1) C dL_does_28 rfl rfl ?_
  refine r_iconst (v := 2) C dL_does_29 (by decide) ?_
  refine r_ic_ne (tgt := 42) C dL_does_30 (by decide) (fun c_30 => ?_) (fun c_30 => ?_)
  rotate_left
  · exact absurd c_30 (by decide)
  refine r_iload_n (i := 1) C dL_does_42 rfl rfl ?_
  refine r_iconst (v := 3) C dL_does_43 (by decide) ?_
  refine r_ic_ne (tgt := 56) C dL_does_44 (by decide) (fun c_44 => ?_) (fun c_44 => ?_)
  rotate_left
  · exact absurd c_44 (by decide)
  refine r_iload_n (i := 1) C dL_does_56 rfl rfl ?_
  refine r_iconst (v := 4) C dL_does_57 (by decide) ?_
  refine r_ic_ne (tgt := 69) C dL_does_58 (by decide) (fun c_58 => ?_) (fun c_58 => ?_)
  rotate_left
  · exact absurd c_58 (by decide)
  refine r_iload_n (i := 1) C dL_does_69 rfl rfl ?_
  refine r_iconst (v := 5) C dL_does_70 (by decide) ?_
  refine r_ic_ne (tgt := 89) C dL_does_71 (by decide) (fun c_71 => ?_) (fun c_71 => ?_)
  rotate_left
  · exact absurd c_71 (by decide)
  refine r_iload_n (i := 1) C dL_does_89 rfl rfl ?_
  refine r_bipush (v := 6) C dL_does_90 (by decide) ?_
  refine r_ic_ne (tgt := 104) C dL_does_92 (by decide) (fun c_92 => ?_) (fun c_92 => ?_)
  rotate_left
  · exact absurd c_92 (by decide)
  refine r_iload_n (i := 1) C dL_does_104 rfl rfl ?_
  refine r_bipush (v := 7) C dL_does_105 (by decide) ?_
  refine r_ic_ne (tgt := 121) C dL_does_107 (by decide) (fun c_107 => ?_) (fun c_107 => ?_)
  rotate_left
  · exact absurd c_107 (by decide)
  refine r_iload_n (i := 1) C dL_does_121 rfl rfl ?_
  refine r_bipush (v := 8) C dL_does_122 (by decide) ?_
  refine r_ic_ne (tgt := 138) C dL_does_124 (by decide) (fun c_124 => ?_) (fun c_124 => ?_)
  rotate_left
  · exact absurd c_124 (by decide)
  refine r_iload_n (i := 1) C dL_does_138 rfl rfl ?_
  refine r_bipush (v := 9) C dL_does_139 (by decide) ?_
  refine r_ic_ne (tgt := 157) C dL_does_141 (by decide) (fun c_141 => ?_) (fun c_141 => ?_)
  rotate_left
  · exact absurd c_141 (by decide)
  refine r_iload_n (i := 1) C dL_does_157 rfl rfl ?_
  refine r_bipush (v := 10) C dL_does_158 (by decide) ?_
  refine r_ic_ne (tgt := 171) C dL_does_160 (by decide) (fun c_160 => ?_) (fun c_160 => ?_)
  rotate_left
  · exact absurd c_160 (by decide)
  refine r_iload_n (i := 1) C dL_does_171 rfl rfl ?_
  refine r_bipush (v := 11) C dL_does_172 (by decide) ?_
  refine r_ic_ne (tgt := 185) C dL_does_174 (by decide) (fun c_174 => ?_) (fun c_174 => ?_)
  rotate_left
  · exact absurd c_174 (by decide)
  refine r_iload_n (i := 1) C dL_does_185 rfl rfl ?_
  refine r_bipush (v := 12) C dL_does_186 (by decide) ?_
  refine r_ic_ne (tgt := 200) C dL_does_188 (by decide) (fun c_188 => ?_) (fun c_188 => ?_)
  · exact absurd c_188 (by decide)
  refine r_aload_n (i := 0) C dL_does_191 rfl rfl (by first | rfl | exact isR_rf _) ?_
  refine r_iload_n (i := 2) C dL_does_192 rfl rfl ?_
  refine r_iload_n (i := 3) C dL_does_193 rfl rfl ?_
  refine r_callVs C v_L_51 M dL_does_194 (by assumption) (ci := 9) (by decide) rfl rfl (As := [_, _]) rfl rfl rfl (by first | exact Nat.le_refl _ | exact Nat.le_of_ble_eq_true rfl | omega) (Nat.le_of_ble_eq_true rfl) (by first | exact Nat.le_refl _ | exact Nat.le_of_ble_eq_true rfl | omega) (by first | exact Nat.le_refl _ | exact Nat.le_of_ble_eq_true rfl | omega) ?_
  refine r_goto (tgt := 265) C dL_does_197 (by decide) ?_
  exact r_iret C E dL_does_265 rfl rfl (by omega) (by omega)
theorem wd_from (l : Launch) (G : Gl) {h h1 : Hp} {b f2 mc2 ms2 : Nat} {x0 x1 x2 x3 x4 : Int32} {v : Int32} (M : MRw l G yX11_from (.code yX11_from cX11_from 4 (Option.some Jvm.ClassFile.FieldType.int)) f2 mc2 ms2 [.ref b, .int x0, .int x1] h (.inl (some (.int v), h1))) (hkb : hK h b = 9) : MRw l G yL_does (.codeWith yL_does cL_does 8 (Option.some Jvm.ClassFile.FieldType.int) [(0, 265, 266, 69), (0, 265, 271, 71), (0, 265, 276, 73)]) (f2 + 1) mc2 ms2 [.ref b, .int 14, .int x0, .int x1, .int x2, .int x3, .int x4] h (.inl (some (.int v), h1)) := by
  refine mr_ofH (by decide +kernel) (Nat.le_of_ble_eq_true rfl) (ct7 (by first | rfl | exact isR_cat (isR_rf _)) (by first | rfl | exact isR_cat (isR_rf _)) (by first | rfl | exact isR_cat (isR_rf _)) (by first | rfl | exact isR_cat (isR_rf _)) (by first | rfl | exact isR_cat (isR_rf _)) (by first | rfl | exact isR_cat (isR_rf _)) (by first | rfl | exact isR_cat (isR_rf _))) (fun X hG hl C E => ?_)
  subst hG hl
  refine r_iload_n (i := 1) C dL_does_0 rfl rfl ?_
  refine r_if_ne (tgt := 15) C dL_does_1 (by decide) (fun c_1 => ?_) (fun c_1 => ?_)
  rotate_left
  · exact absurd c_1 (by decide)
  refine r_iload_n (i := 1) C dL_does_15 rfl rfl ?_
  refine r_iconst (v := 1) C dL_does_16 (by decide) ?_
  refine r_ic_ne (tgt := 28) C dL_does_17 (by decide) (fun c_17 => ?_) (fun c_17 => ?_)
  rotate_left
  · exact absurd c_17 (by decide)
  refine r_iload_n (i := 1) C dL_does_28 rfl rfl ?_
  refine r_iconst (v := 2) C dL_does_29 (by decide) ?_
  refine r_ic_ne (tgt := 42) C dL_does_30 (by decide) (fun c_30 => ?_) (fun c_30 => ?_)
  rotate_left
  · exact absurd c_30 (by decide)
  refine r_iload_n (i := 1) C dL_does_42 rfl rfl ?_
  refine r_iconst (v := 3) C dL_does_43 (by decide) ?_
  refine r_ic_ne (tgt := 56) C dL_does_44 (by decide) (fun c_44 => ?_) (fun c_44 => ?_)
  rotate_left
  · exact absurd c_44 (by decide)
  refine r_iload_n (i := 1) C dL_does_56 rfl rfl ?_
  refine r_iconst (v := 4) C dL_does_57 (by decide) ?_
  refine r_ic_ne (tgt := 69) C dL_does_58 (by decide) (fun c_58 => ?_) (fun c_58 => ?_)
  rotate_left
  · exact absurd c_58 (by decide)
  refine r_iload_n (i := 1) C dL_does_69 rfl rfl ?_
  refine r_iconst (v := 5) C dL_does_70 (by decide) ?_
  refine r_ic_ne (tgt := 89) C dL_does_71 (by decide) (fun c_71 => ?_) (fun c_71 => ?_)
  rotate_left
  · exact absurd c_71 (by decide)
  refine r_iload_n (i := 1) C dL_does_89 rfl rfl ?_
  refine r_bipush (v := 6) C dL_does_90 (by decide) ?_
  refine r_ic_ne (tgt := 104) C dL_does_92 (by decide) (fun c_92 => ?_) (fun c_92 => ?_)
  rotate_left
  · exact absurd c_92 (by decide)
  refine r_iload_n (i := 1) C dL_does_104 rfl rfl ?_
  refine r_bipush (v := 7) C dL_does_105 (by decide) ?_
  refine r_ic_ne (tgt := 121) C dL_does_107 (by decide) (fun c_107 => ?_) (fun c_107 => ?_)
  rotate_left
  · exact absurd c_107 (by decide)
  refine r_iload_n (i := 1) C dL_does_121 rfl rfl ?_
  refine r_bipush (v := 8) C dL_does_122 (by decide) ?_
  refine r_ic_ne (tgt := 138) C dL_does_124 (by decide) (fun c_124 => ?_) (fun c_124 => ?_)
  rotate_left
  · exact absurd c_124 (by decide)
  refine r_iload_n (i := 1) C dL_does_138 rfl rfl ?_
  refine r_bipush (v := 9) C dL_does_139 (by decide) ?_
  refine r_ic_ne (tgt := 157) C dL_does_141 (by decide) (fun c_141 => ?_) (fun c_141 => ?_)
  rotate_left
  · exact absurd c_141 (by decide)
  refine r_iload_n (i := 1) C dL_does_157 rfl rfl ?_
  refine r_bipush (v := 10) C dL_does_158 (by decide) ?_
  refine r_ic_ne (tgt := 171) C dL_does_160 (by decide) (fun c_160 => ?_) (fun c_160 => ?_)
  rotate_left
  · exact absurd c_160 (by decide)
  refine r_iload_n (i := 1) C dL_does_171 rfl rfl ?_
  refine r_bipush (v := 11) C dL_does_172 (by decide) ?_
  refine r_ic_ne (tgt := 185) C dL_does_174 (by decide) (fun c_174 => ?_) (fun c_174 => ?_)
  rotate_left
  · exact absurd c_174 (by decide)
  refine r_iload_n (i := 1) C dL_does_185 rfl rfl ?_
  refine r_bipush (v := 12) C dL_does_186 (by decide) ?_
  refine r_ic_ne (tgt := 200) C dL_does_188 (by decide) (fun c_188 => ?_) (fun c_188 => ?_)
  rotate_left
  · exact absurd c_188 (by decide)
  refine r_iload_n (i := 1) C dL_does_200 rfl rfl ?_
  refine r_bipush (v := 13) C dL_does_201 (by decide) ?_
  refine r_ic_ne (tgt := 215) C dL_does_203 (by decide) (fun c_203 => ?_) (fun c_203 => ?_)
  rotate_left
  · exact absurd c_203 (by decide)
  refine r_iload_n (i := 1) C dL_does_215 rfl rfl ?_
  refine r_bipush (v := 14) C dL_does_216 (by decide) ?_
  refine r_ic_ne (tgt := 230) C dL_does_218 (by decide) (fun c_218 => ?_) (fun c_218 => ?_)
  · exact absurd c_218 (by decide)
  refine r_aload_n (i := 0) C dL_does_221 rfl rfl (by first | rfl | exact isR_rf _) ?_
  refine r_iload_n (i := 2) C dL_does_222 rfl rfl ?_
  refine r_iload_n (i := 3) C dL_does_223 rfl rfl ?_
  refine r_callVs C v_L_57 M dL_does_224 (by assumption) (ci := 9) (by decide) rfl rfl (As := [_, _]) rfl rfl rfl (by first | exact Nat.le_refl _ | exact Nat.le_of_ble_eq_true rfl | omega) (Nat.le_of_ble_eq_true rfl) (by first | exact Nat.le_refl _ | exact Nat.le_of_ble_eq_true rfl | omega) (by first | exact Nat.le_refl _ | exact Nat.le_of_ble_eq_true rfl | omega) ?_
  refine r_goto (tgt := 265) C dL_does_227 (by decide) ?_
  exact r_iret C E dL_does_265 rfl rfl (by omega) (by omega)
theorem wd_box (l : Launch) (G : Gl) {h h1 : Hp} {b f2 mc2 ms2 : Nat} {x0 x1 x2 x3 x4 : Int32} {v : Int32} (M : MRw l G yX11_box (.code yX11_box cX11_box 4 (Option.some Jvm.ClassFile.FieldType.int)) f2 mc2 ms2 [.ref b, .int x0, .int x1] h (.inl (some (.int v), h1))) (hkb : hK h b = 9) : MRw l G yL_does (.codeWith yL_does cL_does 8 (Option.some Jvm.ClassFile.FieldType.int) [(0, 265, 266, 69), (0, 265, 271, 71), (0, 265, 276, 73)]) (f2 + 1) mc2 ms2 [.ref b, .int 15, .int x0, .int x1, .int x2, .int x3, .int x4] h (.inl (some (.int v), h1)) := by
  refine mr_ofH (by decide +kernel) (Nat.le_of_ble_eq_true rfl) (ct7 (by first | rfl | exact isR_cat (isR_rf _)) (by first | rfl | exact isR_cat (isR_rf _)) (by first | rfl | exact isR_cat (isR_rf _)) (by first | rfl | exact isR_cat (isR_rf _)) (by first | rfl | exact isR_cat (isR_rf _)) (by first | rfl | exact isR_cat (isR_rf _)) (by first | rfl | exact isR_cat (isR_rf _))) (fun X hG hl C E => ?_)
  subst hG hl
  refine r_iload_n (i := 1) C dL_does_0 rfl rfl ?_
  refine r_if_ne (tgt := 15) C dL_does_1 (by decide) (fun c_1 => ?_) (fun c_1 => ?_)
  rotate_left
  · exact absurd c_1 (by decide)
  refine r_iload_n (i := 1) C dL_does_15 rfl rfl ?_
  refine r_iconst (v := 1) C dL_does_16 (by decide) ?_
  refine r_ic_ne (tgt := 28) C dL_does_17 (by decide) (fun c_17 => ?_) (fun c_17 => ?_)
  rotate_left
  · exact absurd c_17 (by decide)
  refine r_iload_n (i := 1) C dL_does_28 rfl rfl ?_
  refine r_iconst (v := 2) C dL_does_29 (by decide) ?_
  refine r_ic_ne (tgt := 42) C dL_does_30 (by decide) (fun c_30 => ?_) (fun c_30 => ?_)
  rotate_left
  · exact absurd c_30 (by decide)
  refine r_iload_n (i := 1) C dL_does_42 rfl rfl ?_
  refine r_iconst (v := 3) C dL_does_43 (by decide) ?_
  refine r_ic_ne (tgt := 56) C dL_does_44 (by decide) (fun c_44 => ?_) (fun c_44 => ?_)
  rotate_left
  · exact absurd c_44 (by decide)
  refine r_iload_n (i := 1) C dL_does_56 rfl rfl ?_
  refine r_iconst (v := 4) C dL_does_57 (by decide) ?_
  refine r_ic_ne (tgt := 69) C dL_does_58 (by decide) (fun c_58 => ?_) (fun c_58 => ?_)
  rotate_left
  · exact absurd c_58 (by decide)
  refine r_iload_n (i := 1) C dL_does_69 rfl rfl ?_
  refine r_iconst (v := 5) C dL_does_70 (by decide) ?_
  refine r_ic_ne (tgt := 89) C dL_does_71 (by decide) (fun c_71 => ?_) (fun c_71 => ?_)
  rotate_left
  · exact absurd c_71 (by decide)
  refine r_iload_n (i := 1) C dL_does_89 rfl rfl ?_
  refine r_bipush (v := 6) C dL_does_90 (by decide) ?_
  refine r_ic_ne (tgt := 104) C dL_does_92 (by decide) (fun c_92 => ?_) (fun c_92 => ?_)
  rotate_left
  · exact absurd c_92 (by decide)
  refine r_iload_n (i := 1) C dL_does_104 rfl rfl ?_
  refine r_bipush (v := 7) C dL_does_105 (by decide) ?_
  refine r_ic_ne (tgt := 121) C dL_does_107 (by decide) (fun c_107 => ?_) (fun c_107 => ?_)
  rotate_left
  · exact absurd c_107 (by decide)
  refine r_iload_n (i := 1) C dL_does_121 rfl rfl ?_
  refine r_bipush (v := 8) C dL_does_122 (by decide) ?_
  refine r_ic_ne (tgt := 138) C dL_does_124 (by decide) (fun c_124 => ?_) (fun c_124 => ?_)
  rotate_left
  · exact absurd c_124 (by decide)
  refine r_iload_n (i := 1) C dL_does_138 rfl rfl ?_
  refine r_bipush (v := 9) C dL_does_139 (by decide) ?_
  refine r_ic_ne (tgt := 157) C dL_does_141 (by decide) (fun c_141 => ?_) (fun c_141 => ?_)
  rotate_left
  · exact absurd c_141 (by decide)
  refine r_iload_n (i := 1) C dL_does_157 rfl rfl ?_
  refine r_bipush (v := 10) C dL_does_158 (by decide) ?_
  refine r_ic_ne (tgt := 171) C dL_does_160 (by decide) (fun c_160 => ?_) (fun c_160 => ?_)
  rotate_left
  · exact absurd c_160 (by decide)
  refine r_iload_n (i := 1) C dL_does_171 rfl rfl ?_
  refine r_bipush (v := 11) C dL_does_172 (by decide) ?_
  refine r_ic_ne (tgt := 185) C dL_does_174 (by decide) (fun c_174 => ?_) (fun c_174 => ?_)
  rotate_left
  · exact absurd c_174 (by decide)
  refine r_iload_n (i := 1) C dL_does_185 rfl rfl ?_
  refine r_bipush (v := 12) C dL_does_186 (by decide) ?_
  refine r_ic_ne (tgt := 200) C dL_does_188 (by decide) (fun c_188 => ?_) (fun c_188 => ?_)
  rotate_left
  · exact absurd c_188 (by decide)
  refine r_iload_n (i := 1) C dL_does_200 rfl rfl ?_
  refine r_bipush (v := 13) C dL_does_201 (by decide) ?_
  refine r_ic_ne (tgt := 215) C dL_does_203 (by decide) (fun c_203 => ?_) (fun c_203 => ?_)
  rotate_left
  · exact absurd c_203 (by decide)
  refine r_iload_n (i := 1) C dL_does_215 rfl rfl ?_
  refine r_bipush (v := 14) C dL_does_216 (by decide) ?_
  refine r_ic_ne (tgt := 230) C dL_does_218 (by decide) (fun c_218 => ?_) (fun c_218 => ?_)
  rotate_left
  · exact absurd c_218 (by decide)
  refine r_iload_n (i := 1) C dL_does_230 rfl rfl ?_
  refine r_bipush (v := 15) C dL_does_231 (by decide) ?_
  refine r_ic_ne (tgt := 245) C dL_does_233 (by decide) (fun c_233 => ?_) (fun c_233 => ?_)
  · exact absurd c_233 (by decide)
  refine r_aload_n (i := 0) C dL_does_236 rfl rfl (by first | rfl | exact isR_rf _) ?_
  refine r_iload_n (i := 2) C dL_does_237 rfl rfl ?_
  refine r_iload_n (i := 3) C dL_does_238 rfl rfl ?_
  refine r_callVs C v_L_60 M dL_does_239 (by assumption) (ci := 9) (by decide) rfl rfl (As := [_, _]) rfl rfl rfl (by first | exact Nat.le_refl _ | exact Nat.le_of_ble_eq_true rfl | omega) (Nat.le_of_ble_eq_true rfl) (by first | exact Nat.le_refl _ | exact Nat.le_of_ble_eq_true rfl | omega) (by first | exact Nat.le_refl _ | exact Nat.le_of_ble_eq_true rfl | omega) ?_
  refine r_goto (tgt := 265) C dL_does_242 (by decide) ?_
  exact r_iret C E dL_does_265 rfl rfl (by omega) (by omega)
theorem wd_lines (l : Launch) (G : Gl) {h h1 : Hp} {b f2 mc2 ms2 : Nat} {x0 x1 x2 x3 x4 : Int32} {v : Int32} (M : MRw l G yX11_lines (.code yX11_lines cX11_lines 2 (Option.some Jvm.ClassFile.FieldType.int)) f2 mc2 ms2 [.ref b, .int x0] h (.inl (some (.int v), h1))) (hkb : hK h b = 9) : MRw l G yL_does (.codeWith yL_does cL_does 8 (Option.some Jvm.ClassFile.FieldType.int) [(0, 265, 266, 69), (0, 265, 271, 71), (0, 265, 276, 73)]) (f2 + 1) mc2 ms2 [.ref b, .int 17, .int x0, .int x1, .int x2, .int x3, .int x4] h (.inl (some (.int v), h1)) := by
  refine mr_ofH (by decide +kernel) (Nat.le_of_ble_eq_true rfl) (ct7 (by first | rfl | exact isR_cat (isR_rf _)) (by first | rfl | exact isR_cat (isR_rf _)) (by first | rfl | exact isR_cat (isR_rf _)) (by first | rfl | exact isR_cat (isR_rf _)) (by first | rfl | exact isR_cat (isR_rf _)) (by first | rfl | exact isR_cat (isR_rf _)) (by first | rfl | exact isR_cat (isR_rf _))) (fun X hG hl C E => ?_)
  subst hG hl
  refine r_iload_n (i := 1) C dL_does_0 rfl rfl ?_
  refine r_if_ne (tgt := 15) C dL_does_1 (by decide) (fun c_1 => ?_) (fun c_1 => ?_)
  rotate_left
  · exact absurd c_1 (by decide)
  refine r_iload_n (i := 1) C dL_does_15 rfl rfl ?_
  refine r_iconst (v := 1) C dL_does_16 (by decide) ?_
  refine r_ic_ne (tgt := 28) C dL_does_17 (by decide) (fun c_17 => ?_) (fun c_17 => ?_)
  rotate_left
  · exact absurd c_17 (by decide)
  refine r_iload_n (i := 1) C dL_does_28 rfl rfl ?_
  refine r_iconst (v := 2) C dL_does_29 (by decide) ?_
  refine r_ic_ne (tgt := 42) C dL_does_30 (by decide) (fun c_30 => ?_) (fun c_30 => ?_)
  rotate_left
  · exact absurd c_30 (by decide)
  refine r_iload_n (i := 1) C dL_does_42 rfl rfl ?_
  refine r_iconst (v := 3) C dL_does_43 (by decide) ?_
  refine r_ic_ne (tgt := 56) C dL_does_44 (by decide) (fun c_44 => ?_) (fun c_44 => ?_)
  rotate_left
  · exact absurd c_44 (by decide)
  refine r_iload_n (i := 1) C dL_does_56 rfl rfl ?_
  refine r_iconst (v := 4) C dL_does_57 (by decide) ?_
  refine r_ic_ne (tgt := 69) C dL_does_58 (by decide) (fun c_58 => ?_) (fun c_58 => ?_)
  rotate_left
  · exact absurd c_58 (by decide)
  refine r_iload_n (i := 1) C dL_does_69 rfl rfl ?_
  refine r_iconst (v := 5) C dL_does_70 (by decide) ?_
  refine r_ic_ne (tgt := 89) C dL_does_71 (by decide) (fun c_71 => ?_) (fun c_71 => ?_)
  rotate_left
  · exact absurd c_71 (by decide)
  refine r_iload_n (i := 1) C dL_does_89 rfl rfl ?_
  refine r_bipush (v := 6) C dL_does_90 (by decide) ?_
  refine r_ic_ne (tgt := 104) C dL_does_92 (by decide) (fun c_92 => ?_) (fun c_92 => ?_)
  rotate_left
  · exact absurd c_92 (by decide)
  refine r_iload_n (i := 1) C dL_does_104 rfl rfl ?_
  refine r_bipush (v := 7) C dL_does_105 (by decide) ?_
  refine r_ic_ne (tgt := 121) C dL_does_107 (by decide) (fun c_107 => ?_) (fun c_107 => ?_)
  rotate_left
  · exact absurd c_107 (by decide)
  refine r_iload_n (i := 1) C dL_does_121 rfl rfl ?_
  refine r_bipush (v := 8) C dL_does_122 (by decide) ?_
  refine r_ic_ne (tgt := 138) C dL_does_124 (by decide) (fun c_124 => ?_) (fun c_124 => ?_)
  rotate_left
  · exact absurd c_124 (by decide)
  refine r_iload_n (i := 1) C dL_does_138 rfl rfl ?_
  refine r_bipush (v := 9) C dL_does_139 (by decide) ?_
  refine r_ic_ne (tgt := 157) C dL_does_141 (by decide) (fun c_141 => ?_) (fun c_141 => ?_)
  rotate_left
  · exact absurd c_141 (by decide)
  refine r_iload_n (i := 1) C dL_does_157 rfl rfl ?_
  refine r_bipush (v := 10) C dL_does_158 (by decide) ?_
  refine r_ic_ne (tgt := 171) C dL_does_160 (by decide) (fun c_160 => ?_) (fun c_160 => ?_)
  rotate_left
  · exact absurd c_160 (by decide)
  refine r_iload_n (i := 1) C dL_does_171 rfl rfl ?_
  refine r_bipush (v := 11) C dL_does_172 (by decide) ?_
  refine r_ic_ne (tgt := 185) C dL_does_174 (by decide) (fun c_174 => ?_) (fun c_174 => ?_)
  rotate_left
  · exact absurd c_174 (by decide)
  refine r_iload_n (i := 1) C dL_does_185 rfl rfl ?_
  refine r_bipush (v := 12) C dL_does_186 (by decide) ?_
  refine r_ic_ne (tgt := 200) C dL_does_188 (by decide) (fun c_188 => ?_) (fun c_188 => ?_)
  rotate_left
  · exact absurd c_188 (by decide)
  refine r_iload_n (i := 1) C dL_does_200 rfl rfl ?_
  refine r_bipush (v := 13) C dL_does_201 (by decide) ?_
  refine r_ic_ne (tgt := 215) C dL_does_203 (by decide) (fun c_203 => ?_) (fun c_203 => ?_)
  rotate_left
  · exact absurd c_203 (by decide)
  refine r_iload_n (i := 1) C dL_does_215 rfl rfl ?_
  refine r_bipush (v := 14) C dL_does_216 (by decide) ?_
  refine r_ic_ne (tgt := 230) C dL_does_218 (by decide) (fun c_218 => ?_) (fun c_218 => ?_)
  rotate_left
  · exact absurd c_218 (by decide)
  refine r_iload_n (i := 1) C dL_does_230 rfl rfl ?_
  refine r_bipush (v := 15) C dL_does_231 (by decide) ?_
  refine r_ic_ne (tgt := 245) C dL_does_233 (by decide) (fun c_233 => ?_) (fun c_233 => ?_)
  rotate_left
  · exact absurd c_233 (by decide)
  refine r_iload_n (i := 1) C dL_does_245 rfl rfl ?_
  refine r_bipush (v := 16) C dL_does_246 (by decide) ?_
  refine r_ic_ne (tgt := 260) C dL_does_248 (by decide) (fun c_248 => ?_) (fun c_248 => ?_)
  rotate_left
  · exact absurd c_248 (by decide)
  refine r_aload_n (i := 0) C dL_does_260 rfl rfl (by first | rfl | exact isR_rf _) ?_
  refine r_iload_n (i := 2) C dL_does_261 rfl rfl ?_
  refine r_callVs C v_L_66 M dL_does_262 (by assumption) (ci := 9) (by decide) rfl rfl (As := [_]) rfl rfl rfl (by first | exact Nat.le_refl _ | exact Nat.le_of_ble_eq_true rfl | omega) (Nat.le_of_ble_eq_true rfl) (by first | exact Nat.le_refl _ | exact Nat.le_of_ble_eq_true rfl | omega) (by first | exact Nat.le_refl _ | exact Nat.le_of_ble_eq_true rfl | omega) ?_
  exact r_iret C E dL_does_265 rfl rfl (by omega) (by omega)
theorem wd_rule (l : Launch) (G : Gl) {h h1 : Hp} {b f2 mc2 ms2 : Nat} {x0 x1 x2 x3 x4 x5 v : Int32} (M : MRw l G yX11_rule (.code yX11_rule cX11_rule 8 (Option.some Jvm.ClassFile.FieldType.int)) f2 mc2 ms2 [.ref b, .int x0, .int x1, .int x2, .int x3, .int x4, .int x5] h (.inl (some (.int v), h1))) (hkb : hK h b = 9) : MRw l G yL_rule (.codeWith yL_rule cL_rule 8 (Option.some Jvm.ClassFile.FieldType.int) [(0, 13, 14, 71), (0, 13, 19, 73)]) (f2 + 1) mc2 ms2 [.ref b, .int x0, .int x1, .int x2, .int x3, .int x4, .int x5] h (.inl (some (.int v), h1)) := by
  refine mr_ofH (by decide +kernel) (Nat.le_of_ble_eq_true rfl) (ct7 (by first | rfl | exact isR_cat (isR_rf _)) (by first | rfl | exact isR_cat (isR_rf _)) (by first | rfl | exact isR_cat (isR_rf _)) (by first | rfl | exact isR_cat (isR_rf _)) (by first | rfl | exact isR_cat (isR_rf _)) (by first | rfl | exact isR_cat (isR_rf _)) (by first | rfl | exact isR_cat (isR_rf _))) (fun X hG hl C E => ?_)
  subst hG hl
  refine r_aload_n (i := 0) C dL_rule_0 rfl rfl (by first | rfl | exact isR_rf _) ?_
  refine r_iload_n (i := 1) C dL_rule_1 rfl rfl ?_
  refine r_iload_n (i := 2) C dL_rule_2 rfl rfl ?_
  refine r_iload_n (i := 3) C dL_rule_3 rfl rfl ?_
  refine r_iload (i := 4) C dL_rule_4 rfl ?_
  refine r_iload (i := 5) C dL_rule_6 rfl ?_
  refine r_iload (i := 6) C dL_rule_8 rfl ?_
  refine r_callVs C v_L_75 M dL_rule_10 (by assumption) (ci := 9) (by decide) rfl rfl (As := [_, _, _, _, _, _]) rfl rfl rfl (by first | exact Nat.le_refl _ | exact Nat.le_of_ble_eq_true rfl | omega) (Nat.le_of_ble_eq_true rfl) (by first | exact Nat.le_refl _ | exact Nat.le_of_ble_eq_true rfl | omega) (by first | exact Nat.le_refl _ | exact Nat.le_of_ble_eq_true rfl | omega) ?_
  exact r_iret C E dL_rule_13 rfl rfl (by omega) (by omega)
theorem wd_is_0 (l : Launch) (G : Gl) {h h1 : Hp} {b f2 mc2 ms2 : Nat} {x v : Int32} (M : MRw l G yX11_contain (.code yX11_contain cX11_contain 5 (Option.some Jvm.ClassFile.FieldType.boolean)) f2 mc2 ms2 [.ref b, .int x, .int 0] h (.inl (some (.int v), h1))) (hv : v = 0 ∨ v = 1) (hkb : hK h b = 9) : MRw l G yL_is (.codeWith yL_is cL_is 5 (Option.some Jvm.ClassFile.FieldType.int) [(0, 39, 40, 69)]) (f2 + 1) mc2 ms2 [.ref b, .int 0, .int x, .int 0] h (.inl (some (.int v), h1)) := by
  refine mr_ofH (by decide +kernel) (Nat.le_of_ble_eq_true rfl) (ct4 (by first | rfl | exact isR_cat (isR_rf _)) (by first | rfl | exact isR_cat (isR_rf _)) (by first | rfl | exact isR_cat (isR_rf _)) (by first | rfl | exact isR_cat (isR_rf _))) (fun X hG hl C E => ?_)
  subst hG hl
  refine r_iload_n (i := 1) C dL_is_0 rfl rfl ?_
  refine r_if_ne (tgt := 25) C dL_is_1 (by decide) (fun c_1 => ?_) (fun c_1 => ?_)
  · exact absurd c_1 (by decide)
  refine r_aload_n (i := 0) C dL_is_4 rfl rfl (by first | rfl | exact isR_rf _) ?_
  refine r_iload_n (i := 2) C dL_is_5 rfl rfl ?_
  refine r_iload_n (i := 3) C dL_is_6 rfl rfl ?_
  refine r_iconst (v := 1) C dL_is_7 (by decide) ?_
  refine r_ic_ne (tgt := 15) C dL_is_8 (by decide) (fun c_8 => ?_) (fun c_8 => ?_)
  rotate_left
  · exact absurd c_8 (by decide)
  refine r_iconst (v := 0) C dL_is_15 (by decide) ?_
  refine r_callVs C v_L_79 M dL_is_16 (by assumption) (ci := 9) (by decide) rfl rfl (As := [_, _]) rfl rfl rfl (by first | exact Nat.le_refl _ | exact Nat.le_of_ble_eq_true rfl | omega) (Nat.le_of_ble_eq_true rfl) (by first | exact Nat.le_refl _ | exact Nat.le_of_ble_eq_true rfl | omega) (by first | exact Nat.le_refl _ | exact Nat.le_of_ble_eq_true rfl | omega) ?_
  refine r_if_eq (tgt := 38) C dL_is_19 (by decide) (fun c_19 => ?_) (fun c_19 => ?_)
  · rw [c_19] at E
    refine r_iconst (v := 0) C dL_is_38 (by decide) ?_
    exact r_iret C E dL_is_39 rfl rfl (by omega) (by omega)
  · rw [hv.resolve_left c_19] at E
    refine r_goto (tgt := 34) C dL_is_22 (by decide) ?_
    refine r_iconst (v := 1) C dL_is_34 (by decide) ?_
    refine r_goto (tgt := 39) C dL_is_35 (by decide) ?_
    exact r_iret C E dL_is_39 rfl rfl (by omega) (by omega)
theorem wd_is_1 (l : Launch) (G : Gl) {h h1 : Hp} {b f2 mc2 ms2 : Nat} {x v : Int32} (M : MRw l G yX11_contain (.code yX11_contain cX11_contain 5 (Option.some Jvm.ClassFile.FieldType.boolean)) f2 mc2 ms2 [.ref b, .int x, .int 1] h (.inl (some (.int v), h1))) (hv : v = 0 ∨ v = 1) (hkb : hK h b = 9) : MRw l G yL_is (.codeWith yL_is cL_is 5 (Option.some Jvm.ClassFile.FieldType.int) [(0, 39, 40, 69)]) (f2 + 1) mc2 ms2 [.ref b, .int 0, .int x, .int 1] h (.inl (some (.int v), h1)) := by
  refine mr_ofH (by decide +kernel) (Nat.le_of_ble_eq_true rfl) (ct4 (by first | rfl | exact isR_cat (isR_rf _)) (by first | rfl | exact isR_cat (isR_rf _)) (by first | rfl | exact isR_cat (isR_rf _)) (by first | rfl | exact isR_cat (isR_rf _))) (fun X hG hl C E => ?_)
  subst hG hl
  refine r_iload_n (i := 1) C dL_is_0 rfl rfl ?_
  refine r_if_ne (tgt := 25) C dL_is_1 (by decide) (fun c_1 => ?_) (fun c_1 => ?_)
  · exact absurd c_1 (by decide)
  refine r_aload_n (i := 0) C dL_is_4 rfl rfl (by first | rfl | exact isR_rf _) ?_
  refine r_iload_n (i := 2) C dL_is_5 rfl rfl ?_
  refine r_iload_n (i := 3) C dL_is_6 rfl rfl ?_
  refine r_iconst (v := 1) C dL_is_7 (by decide) ?_
  refine r_ic_ne (tgt := 15) C dL_is_8 (by decide) (fun c_8 => ?_) (fun c_8 => ?_)
  · exact absurd c_8 (by decide)
  refine r_iconst (v := 1) C dL_is_11 (by decide) ?_
  refine r_goto (tgt := 16) C dL_is_12 (by decide) ?_
  refine r_callVs C v_L_79 M dL_is_16 (by assumption) (ci := 9) (by decide) rfl rfl (As := [_, _]) rfl rfl rfl (by first | exact Nat.le_refl _ | exact Nat.le_of_ble_eq_true rfl | omega) (Nat.le_of_ble_eq_true rfl) (by first | exact Nat.le_refl _ | exact Nat.le_of_ble_eq_true rfl | omega) (by first | exact Nat.le_refl _ | exact Nat.le_of_ble_eq_true rfl | omega) ?_
  refine r_if_eq (tgt := 38) C dL_is_19 (by decide) (fun c_19 => ?_) (fun c_19 => ?_)
  · rw [c_19] at E
    refine r_iconst (v := 0) C dL_is_38 (by decide) ?_
    exact r_iret C E dL_is_39 rfl rfl (by omega) (by omega)
  · rw [hv.resolve_left c_19] at E
    refine r_goto (tgt := 34) C dL_is_22 (by decide) ?_
    refine r_iconst (v := 1) C dL_is_34 (by decide) ?_
    refine r_goto (tgt := 39) C dL_is_35 (by decide) ?_
    exact r_iret C E dL_is_39 rfl rfl (by omega) (by omega)
