/-! ===== the law: the calls with their catches (by genl.py) ===== -/
theorem w_add_v (l : Launch) (G : Gl) {h h1 : Hp} {b o f2 mc2 ms2 : Nat} {a0 a1 a2 : Int32} {v : Int32} (M : MRw l G yX11_add (.code yX11_add cX11_add 6 (Option.some Jvm.ClassFile.FieldType.int)) f2 mc2 ms2 [.ref b, .int a0, .int a1, .int a2] h (.inl (some (.int v), h1))) (hkb : hK h b = 9) (ho : hK h1 o = 102) (hl : 0 < hL h1 o) : MRw l G yL_add (.codeWith yL_add cL_add 6 (Option.some Jvm.ClassFile.FieldType.int) [(0, 12, 15, 13), (0, 12, 19, 15), (0, 12, 23, 17)]) (f2 + 1) mc2 ms2 [.ref b, .int a0, .int a1, .int a2, .ref o] h (.inl (some (.int 0), (sW h1 o 0 v.toInt64))) := by
  refine mr_ofH (by decide +kernel) (Nat.le_of_ble_eq_true rfl) (ct5 (by first | rfl | exact isR_cat (isR_rf _)) (by first | rfl | exact isR_cat (isR_rf _)) (by first | rfl | exact isR_cat (isR_rf _)) (by first | rfl | exact isR_cat (isR_rf _)) (by first | rfl | exact isR_cat (isR_rf _))) (fun X hG hl C E => ?_)
  subst hG hl
  refine r_aload (i := 4) C dL_add_0 rfl (by first | rfl | exact isR_rf _) ?_
  refine r_iconst (v := 0) C dL_add_2 (by decide) ?_
  refine r_aload_n (i := 0) C dL_add_3 rfl rfl (by first | rfl | exact isR_rf _) ?_
  refine r_iload_n (i := 1) C dL_add_4 rfl rfl ?_
  refine r_iload_n (i := 2) C dL_add_5 rfl rfl ?_
  refine r_iload_n (i := 3) C dL_add_6 rfl rfl ?_
  refine r_callVs C v_L_7 M dL_add_7 (by assumption) (ci := 9) (by decide) rfl rfl (As := [_, _, _]) rfl rfl rfl (by first | exact Nat.le_refl _ | exact Nat.le_of_ble_eq_true rfl | omega) (Nat.le_of_ble_eq_true rfl) (by first | exact Nat.le_refl _ | exact Nat.le_of_ble_eq_true rfl | omega) (by first | exact Nat.le_refl _ | exact Nat.le_of_ble_eq_true rfl | omega) ?_
  refine r_i2l C dL_add_10 ?_
  refine r_last (a := o) (j := 0) C dL_add_11 ho rfl hl ?_
  refine r_goto (tgt := 27) C dL_add_12 (by decide) ?_
  refine r_iconst (v := 0) C dL_add_27 (by decide) ?_
  exact r_iret C E dL_add_28 rfl rfl (by omega) (by omega)
theorem w_add_x1 (l : Launch) (G : Gl) {h h1 : Hp} {b o f2 mc2 ms2 : Nat} {a0 a1 a2 : Int32} (M : MRw l G yX11_add (.code yX11_add cX11_add 6 (Option.some Jvm.ClassFile.FieldType.int)) f2 mc2 ms2 [.ref b, .int a0, .int a1, .int a2] h (.inr (xI, h1))) (hkb : hK h b = 9) : MRw l G yL_add (.codeWith yL_add cL_add 6 (Option.some Jvm.ClassFile.FieldType.int) [(0, 12, 15, 13), (0, 12, 19, 15), (0, 12, 23, 17)]) (f2 + 1) mc2 ms2 [.ref b, .int a0, .int a1, .int a2, .ref o] h (.inl (some (.int 1), h1)) := by
  refine mr_ofH (by decide +kernel) (Nat.le_of_ble_eq_true rfl) (ct5 (by first | rfl | exact isR_cat (isR_rf _)) (by first | rfl | exact isR_cat (isR_rf _)) (by first | rfl | exact isR_cat (isR_rf _)) (by first | rfl | exact isR_cat (isR_rf _)) (by first | rfl | exact isR_cat (isR_rf _))) (fun X hG hl C E => ?_)
  subst hG hl
  refine r_aload (i := 4) C dL_add_0 rfl (by first | rfl | exact isR_rf _) ?_
  refine r_iconst (v := 0) C dL_add_2 (by decide) ?_
  refine r_aload_n (i := 0) C dL_add_3 rfl rfl (by first | rfl | exact isR_rf _) ?_
  refine r_iload_n (i := 1) C dL_add_4 rfl rfl ?_
  refine r_iload_n (i := 2) C dL_add_5 rfl rfl ?_
  refine r_iload_n (i := 3) C dL_add_6 rfl rfl ?_
  refine r_callVc (a0 := 0) (b0 := 12) (hpc := 15) (ct := 13) (i := 5) (la := 2) (hp := []) (hs := [(0, 12, 19, 15), (0, 12, 23, 17)]) C v_L_7 M dL_add_7 hkb (ci := 9) (by decide) rfl rfl (As := [_, _, _]) rfl rfl rfl (Nat.le_refl _) (Nat.le_of_ble_eq_true rfl) (by omega) (by omega) rfl (fun _ z => nomatch z) (by decide) (by decide) c_L_13 (by decide +kernel) (Nat.le_of_ble_eq_true rfl) (Or.inr ⟨dL_add_15, rfl⟩) ?_
  refine r_iconst (v := 1) C dL_add_17 (by decide) ?_
  exact r_iret C E dL_add_18 rfl rfl (by omega) (by omega)
theorem w_add_x2 (l : Launch) (G : Gl) {h h1 : Hp} {b o f2 mc2 ms2 : Nat} {a0 a1 a2 : Int32} (M : MRw l G yX11_add (.code yX11_add cX11_add 6 (Option.some Jvm.ClassFile.FieldType.int)) f2 mc2 ms2 [.ref b, .int a0, .int a1, .int a2] h (.inr (xA, h1))) (hkb : hK h b = 9) : MRw l G yL_add (.codeWith yL_add cL_add 6 (Option.some Jvm.ClassFile.FieldType.int) [(0, 12, 15, 13), (0, 12, 19, 15), (0, 12, 23, 17)]) (f2 + 1) mc2 ms2 [.ref b, .int a0, .int a1, .int a2, .ref o] h (.inl (some (.int 2), h1)) := by
  refine mr_ofH (by decide +kernel) (Nat.le_of_ble_eq_true rfl) (ct5 (by first | rfl | exact isR_cat (isR_rf _)) (by first | rfl | exact isR_cat (isR_rf _)) (by first | rfl | exact isR_cat (isR_rf _)) (by first | rfl | exact isR_cat (isR_rf _)) (by first | rfl | exact isR_cat (isR_rf _))) (fun X hG hl C E => ?_)
  subst hG hl
  refine r_aload (i := 4) C dL_add_0 rfl (by first | rfl | exact isR_rf _) ?_
  refine r_iconst (v := 0) C dL_add_2 (by decide) ?_
  refine r_aload_n (i := 0) C dL_add_3 rfl rfl (by first | rfl | exact isR_rf _) ?_
  refine r_iload_n (i := 1) C dL_add_4 rfl rfl ?_
  refine r_iload_n (i := 2) C dL_add_5 rfl rfl ?_
  refine r_iload_n (i := 3) C dL_add_6 rfl rfl ?_
  refine r_callVc (a0 := 0) (b0 := 12) (hpc := 19) (ct := 15) (i := 5) (la := 2) (hp := [(0, 12, 15, 13)]) (hs := [(0, 12, 23, 17)]) C v_L_7 M dL_add_7 hkb (ci := 9) (by decide) rfl rfl (As := [_, _, _]) rfl rfl rfl (Nat.le_refl _) (Nat.le_of_ble_eq_true rfl) (by omega) (by omega) rfl (List.forall_mem_cons.mpr ⟨⟨by decide, _, c_L_13, by decide +kernel⟩, (fun _ z => nomatch z)⟩) (by decide) (by decide) c_L_15 (by decide +kernel) (Nat.le_of_ble_eq_true rfl) (Or.inr ⟨dL_add_19, rfl⟩) ?_
  refine r_iconst (v := 2) C dL_add_21 (by decide) ?_
  exact r_iret C E dL_add_22 rfl rfl (by omega) (by omega)
theorem w_add_x3 (l : Launch) (G : Gl) {h h1 : Hp} {b o f2 mc2 ms2 : Nat} {a0 a1 a2 : Int32} (M : MRw l G yX11_add (.code yX11_add cX11_add 6 (Option.some Jvm.ClassFile.FieldType.int)) f2 mc2 ms2 [.ref b, .int a0, .int a1, .int a2] h (.inr (xS, h1))) (hkb : hK h b = 9) : MRw l G yL_add (.codeWith yL_add cL_add 6 (Option.some Jvm.ClassFile.FieldType.int) [(0, 12, 15, 13), (0, 12, 19, 15), (0, 12, 23, 17)]) (f2 + 1) mc2 ms2 [.ref b, .int a0, .int a1, .int a2, .ref o] h (.inl (some (.int 3), h1)) := by
  refine mr_ofH (by decide +kernel) (Nat.le_of_ble_eq_true rfl) (ct5 (by first | rfl | exact isR_cat (isR_rf _)) (by first | rfl | exact isR_cat (isR_rf _)) (by first | rfl | exact isR_cat (isR_rf _)) (by first | rfl | exact isR_cat (isR_rf _)) (by first | rfl | exact isR_cat (isR_rf _))) (fun X hG hl C E => ?_)
  subst hG hl
  refine r_aload (i := 4) C dL_add_0 rfl (by first | rfl | exact isR_rf _) ?_
  refine r_iconst (v := 0) C dL_add_2 (by decide) ?_
  refine r_aload_n (i := 0) C dL_add_3 rfl rfl (by first | rfl | exact isR_rf _) ?_
  refine r_iload_n (i := 1) C dL_add_4 rfl rfl ?_
  refine r_iload_n (i := 2) C dL_add_5 rfl rfl ?_
  refine r_iload_n (i := 3) C dL_add_6 rfl rfl ?_
  refine r_callVc (a0 := 0) (b0 := 12) (hpc := 23) (ct := 17) (i := 5) (la := 2) (hp := [(0, 12, 15, 13), (0, 12, 19, 15)]) (hs := []) C v_L_7 M dL_add_7 hkb (ci := 9) (by decide) rfl rfl (As := [_, _, _]) rfl rfl rfl (Nat.le_refl _) (Nat.le_of_ble_eq_true rfl) (by omega) (by omega) rfl (List.forall_mem_cons.mpr ⟨⟨by decide, _, c_L_13, by decide +kernel⟩, (List.forall_mem_cons.mpr ⟨⟨by decide, _, c_L_15, by decide +kernel⟩, (fun _ z => nomatch z)⟩)⟩) (by decide) (by decide) c_L_17 (by decide +kernel) (Nat.le_of_ble_eq_true rfl) (Or.inr ⟨dL_add_23, rfl⟩) ?_
  refine r_iconst (v := 3) C dL_add_25 (by decide) ?_
  exact r_iret C E dL_add_26 rfl rfl (by omega) (by omega)
theorem w_ask_v (l : Launch) (G : Gl) {h h1 : Hp} {b o f2 mc2 ms2 : Nat} {a0 a1 : Int32} {v : Int32} (M : MRw l G yX11_ask (.code yX11_ask cX11_ask 5 (Option.some Jvm.ClassFile.FieldType.int)) f2 mc2 ms2 [.ref b, .int a0, .int a1] h (.inl (some (.int v), h1))) (hkb : hK h b = 9) (ho : hK h1 o = 102) (hl : 0 < hL h1 o) : MRw l G yL_ask (.codeWith yL_ask cL_ask 5 (Option.some Jvm.ClassFile.FieldType.int) [(0, 10, 13, 13), (0, 10, 17, 15)]) (f2 + 1) mc2 ms2 [.ref b, .int a0, .int a1, .ref o] h (.inl (some (.int 0), (sW h1 o 0 v.toInt64))) := by
  refine mr_ofH (by decide +kernel) (Nat.le_of_ble_eq_true rfl) (ct4 (by first | rfl | exact isR_cat (isR_rf _)) (by first | rfl | exact isR_cat (isR_rf _)) (by first | rfl | exact isR_cat (isR_rf _)) (by first | rfl | exact isR_cat (isR_rf _))) (fun X hG hl C E => ?_)
  subst hG hl
  refine r_aload_n (i := 3) C dL_ask_0 rfl rfl (by first | rfl | exact isR_rf _) ?_
  refine r_iconst (v := 0) C dL_ask_1 (by decide) ?_
  refine r_aload_n (i := 0) C dL_ask_2 rfl rfl (by first | rfl | exact isR_rf _) ?_
  refine r_iload_n (i := 1) C dL_ask_3 rfl rfl ?_
  refine r_iload_n (i := 2) C dL_ask_4 rfl rfl ?_
  refine r_callVs C v_L_45 M dL_ask_5 (by assumption) (ci := 9) (by decide) rfl rfl (As := [_, _]) rfl rfl rfl (by first | exact Nat.le_refl _ | exact Nat.le_of_ble_eq_true rfl | omega) (Nat.le_of_ble_eq_true rfl) (by first | exact Nat.le_refl _ | exact Nat.le_of_ble_eq_true rfl | omega) (by first | exact Nat.le_refl _ | exact Nat.le_of_ble_eq_true rfl | omega) ?_
  refine r_i2l C dL_ask_8 ?_
  refine r_last (a := o) (j := 0) C dL_ask_9 ho rfl hl ?_
  refine r_goto (tgt := 21) C dL_ask_10 (by decide) ?_
  refine r_iconst (v := 0) C dL_ask_21 (by decide) ?_
  exact r_iret C E dL_ask_22 rfl rfl (by omega) (by omega)
theorem w_ask_x1 (l : Launch) (G : Gl) {h h1 : Hp} {b o f2 mc2 ms2 : Nat} {a0 a1 : Int32} (M : MRw l G yX11_ask (.code yX11_ask cX11_ask 5 (Option.some Jvm.ClassFile.FieldType.int)) f2 mc2 ms2 [.ref b, .int a0, .int a1] h (.inr (xI, h1))) (hkb : hK h b = 9) : MRw l G yL_ask (.codeWith yL_ask cL_ask 5 (Option.some Jvm.ClassFile.FieldType.int) [(0, 10, 13, 13), (0, 10, 17, 15)]) (f2 + 1) mc2 ms2 [.ref b, .int a0, .int a1, .ref o] h (.inl (some (.int 1), h1)) := by
  refine mr_ofH (by decide +kernel) (Nat.le_of_ble_eq_true rfl) (ct4 (by first | rfl | exact isR_cat (isR_rf _)) (by first | rfl | exact isR_cat (isR_rf _)) (by first | rfl | exact isR_cat (isR_rf _)) (by first | rfl | exact isR_cat (isR_rf _))) (fun X hG hl C E => ?_)
  subst hG hl
  refine r_aload_n (i := 3) C dL_ask_0 rfl rfl (by first | rfl | exact isR_rf _) ?_
  refine r_iconst (v := 0) C dL_ask_1 (by decide) ?_
  refine r_aload_n (i := 0) C dL_ask_2 rfl rfl (by first | rfl | exact isR_rf _) ?_
  refine r_iload_n (i := 1) C dL_ask_3 rfl rfl ?_
  refine r_iload_n (i := 2) C dL_ask_4 rfl rfl ?_
  refine r_callVc (a0 := 0) (b0 := 10) (hpc := 13) (ct := 13) (i := 4) (la := 2) (hp := []) (hs := [(0, 10, 17, 15)]) C v_L_45 M dL_ask_5 hkb (ci := 9) (by decide) rfl rfl (As := [_, _]) rfl rfl rfl (Nat.le_refl _) (Nat.le_of_ble_eq_true rfl) (by omega) (by omega) rfl (fun _ z => nomatch z) (by decide) (by decide) c_L_13 (by decide +kernel) (Nat.le_of_ble_eq_true rfl) (Or.inr ⟨dL_ask_13, rfl⟩) ?_
  refine r_iconst (v := 1) C dL_ask_15 (by decide) ?_
  exact r_iret C E dL_ask_16 rfl rfl (by omega) (by omega)
theorem w_ask_x2 (l : Launch) (G : Gl) {h h1 : Hp} {b o f2 mc2 ms2 : Nat} {a0 a1 : Int32} (M : MRw l G yX11_ask (.code yX11_ask cX11_ask 5 (Option.some Jvm.ClassFile.FieldType.int)) f2 mc2 ms2 [.ref b, .int a0, .int a1] h (.inr (xA, h1))) (hkb : hK h b = 9) : MRw l G yL_ask (.codeWith yL_ask cL_ask 5 (Option.some Jvm.ClassFile.FieldType.int) [(0, 10, 13, 13), (0, 10, 17, 15)]) (f2 + 1) mc2 ms2 [.ref b, .int a0, .int a1, .ref o] h (.inl (some (.int 2), h1)) := by
  refine mr_ofH (by decide +kernel) (Nat.le_of_ble_eq_true rfl) (ct4 (by first | rfl | exact isR_cat (isR_rf _)) (by first | rfl | exact isR_cat (isR_rf _)) (by first | rfl | exact isR_cat (isR_rf _)) (by first | rfl | exact isR_cat (isR_rf _))) (fun X hG hl C E => ?_)
  subst hG hl
  refine r_aload_n (i := 3) C dL_ask_0 rfl rfl (by first | rfl | exact isR_rf _) ?_
  refine r_iconst (v := 0) C dL_ask_1 (by decide) ?_
  refine r_aload_n (i := 0) C dL_ask_2 rfl rfl (by first | rfl | exact isR_rf _) ?_
  refine r_iload_n (i := 1) C dL_ask_3 rfl rfl ?_
  refine r_iload_n (i := 2) C dL_ask_4 rfl rfl ?_
  refine r_callVc (a0 := 0) (b0 := 10) (hpc := 17) (ct := 15) (i := 4) (la := 2) (hp := [(0, 10, 13, 13)]) (hs := []) C v_L_45 M dL_ask_5 hkb (ci := 9) (by decide) rfl rfl (As := [_, _]) rfl rfl rfl (Nat.le_refl _) (Nat.le_of_ble_eq_true rfl) (by omega) (by omega) rfl (List.forall_mem_cons.mpr ⟨⟨by decide, _, c_L_13, by decide +kernel⟩, (fun _ z => nomatch z)⟩) (by decide) (by decide) c_L_15 (by decide +kernel) (Nat.le_of_ble_eq_true rfl) (Or.inr ⟨dL_ask_17, rfl⟩) ?_
  refine r_iconst (v := 2) C dL_ask_19 (by decide) ?_
  exact r_iret C E dL_ask_20 rfl rfl (by omega) (by omega)
theorem w_box_v (l : Launch) (G : Gl) {h h1 : Hp} {b o f2 mc2 ms2 : Nat} {a0 a1 : Int32} {v : Int32} (M : MRw l G yX11_box (.code yX11_box cX11_box 4 (Option.some Jvm.ClassFile.FieldType.int)) f2 mc2 ms2 [.ref b, .int a0, .int a1] h (.inl (some (.int v), h1))) (hkb : hK h b = 9) (ho : hK h1 o = 102) (hl : 0 < hL h1 o) : MRw l G yL_box (.codeWith yL_box cL_box 5 (Option.some Jvm.ClassFile.FieldType.int) [(0, 10, 13, 13), (0, 10, 17, 15)]) (f2 + 1) mc2 ms2 [.ref b, .int a0, .int a1, .ref o] h (.inl (some (.int 0), (sW h1 o 0 v.toInt64))) := by
  refine mr_ofH (by decide +kernel) (Nat.le_of_ble_eq_true rfl) (ct4 (by first | rfl | exact isR_cat (isR_rf _)) (by first | rfl | exact isR_cat (isR_rf _)) (by first | rfl | exact isR_cat (isR_rf _)) (by first | rfl | exact isR_cat (isR_rf _))) (fun X hG hl C E => ?_)
  subst hG hl
  refine r_aload_n (i := 3) C dL_box_0 rfl rfl (by first | rfl | exact isR_rf _) ?_
  refine r_iconst (v := 0) C dL_box_1 (by decide) ?_
  refine r_aload_n (i := 0) C dL_box_2 rfl rfl (by first | rfl | exact isR_rf _) ?_
  refine r_iload_n (i := 1) C dL_box_3 rfl rfl ?_
  refine r_iload_n (i := 2) C dL_box_4 rfl rfl ?_
  refine r_callVs C v_L_77 M dL_box_5 (by assumption) (ci := 9) (by decide) rfl rfl (As := [_, _]) rfl rfl rfl (by first | exact Nat.le_refl _ | exact Nat.le_of_ble_eq_true rfl | omega) (Nat.le_of_ble_eq_true rfl) (by first | exact Nat.le_refl _ | exact Nat.le_of_ble_eq_true rfl | omega) (by first | exact Nat.le_refl _ | exact Nat.le_of_ble_eq_true rfl | omega) ?_
  refine r_i2l C dL_box_8 ?_
  refine r_last (a := o) (j := 0) C dL_box_9 ho rfl hl ?_
  refine r_goto (tgt := 21) C dL_box_10 (by decide) ?_
  refine r_iconst (v := 0) C dL_box_21 (by decide) ?_
  exact r_iret C E dL_box_22 rfl rfl (by omega) (by omega)
theorem w_box_x1 (l : Launch) (G : Gl) {h h1 : Hp} {b o f2 mc2 ms2 : Nat} {a0 a1 : Int32} (M : MRw l G yX11_box (.code yX11_box cX11_box 4 (Option.some Jvm.ClassFile.FieldType.int)) f2 mc2 ms2 [.ref b, .int a0, .int a1] h (.inr (xI, h1))) (hkb : hK h b = 9) : MRw l G yL_box (.codeWith yL_box cL_box 5 (Option.some Jvm.ClassFile.FieldType.int) [(0, 10, 13, 13), (0, 10, 17, 15)]) (f2 + 1) mc2 ms2 [.ref b, .int a0, .int a1, .ref o] h (.inl (some (.int 1), h1)) := by
  refine mr_ofH (by decide +kernel) (Nat.le_of_ble_eq_true rfl) (ct4 (by first | rfl | exact isR_cat (isR_rf _)) (by first | rfl | exact isR_cat (isR_rf _)) (by first | rfl | exact isR_cat (isR_rf _)) (by first | rfl | exact isR_cat (isR_rf _))) (fun X hG hl C E => ?_)
  subst hG hl
  refine r_aload_n (i := 3) C dL_box_0 rfl rfl (by first | rfl | exact isR_rf _) ?_
  refine r_iconst (v := 0) C dL_box_1 (by decide) ?_
  refine r_aload_n (i := 0) C dL_box_2 rfl rfl (by first | rfl | exact isR_rf _) ?_
  refine r_iload_n (i := 1) C dL_box_3 rfl rfl ?_
  refine r_iload_n (i := 2) C dL_box_4 rfl rfl ?_
  refine r_callVc (a0 := 0) (b0 := 10) (hpc := 13) (ct := 13) (i := 4) (la := 2) (hp := []) (hs := [(0, 10, 17, 15)]) C v_L_77 M dL_box_5 hkb (ci := 9) (by decide) rfl rfl (As := [_, _]) rfl rfl rfl (Nat.le_refl _) (Nat.le_of_ble_eq_true rfl) (by omega) (by omega) rfl (fun _ z => nomatch z) (by decide) (by decide) c_L_13 (by decide +kernel) (Nat.le_of_ble_eq_true rfl) (Or.inr ⟨dL_box_13, rfl⟩) ?_
  refine r_iconst (v := 1) C dL_box_15 (by decide) ?_
  exact r_iret C E dL_box_16 rfl rfl (by omega) (by omega)
theorem w_box_x2 (l : Launch) (G : Gl) {h h1 : Hp} {b o f2 mc2 ms2 : Nat} {a0 a1 : Int32} (M : MRw l G yX11_box (.code yX11_box cX11_box 4 (Option.some Jvm.ClassFile.FieldType.int)) f2 mc2 ms2 [.ref b, .int a0, .int a1] h (.inr (xA, h1))) (hkb : hK h b = 9) : MRw l G yL_box (.codeWith yL_box cL_box 5 (Option.some Jvm.ClassFile.FieldType.int) [(0, 10, 13, 13), (0, 10, 17, 15)]) (f2 + 1) mc2 ms2 [.ref b, .int a0, .int a1, .ref o] h (.inl (some (.int 2), h1)) := by
  refine mr_ofH (by decide +kernel) (Nat.le_of_ble_eq_true rfl) (ct4 (by first | rfl | exact isR_cat (isR_rf _)) (by first | rfl | exact isR_cat (isR_rf _)) (by first | rfl | exact isR_cat (isR_rf _)) (by first | rfl | exact isR_cat (isR_rf _))) (fun X hG hl C E => ?_)
  subst hG hl
  refine r_aload_n (i := 3) C dL_box_0 rfl rfl (by first | rfl | exact isR_rf _) ?_
  refine r_iconst (v := 0) C dL_box_1 (by decide) ?_
  refine r_aload_n (i := 0) C dL_box_2 rfl rfl (by first | rfl | exact isR_rf _) ?_
  refine r_iload_n (i := 1) C dL_box_3 rfl rfl ?_
  refine r_iload_n (i := 2) C dL_box_4 rfl rfl ?_
  refine r_callVc (a0 := 0) (b0 := 10) (hpc := 17) (ct := 15) (i := 4) (la := 2) (hp := [(0, 10, 13, 13)]) (hs := []) C v_L_77 M dL_box_5 hkb (ci := 9) (by decide) rfl rfl (As := [_, _]) rfl rfl rfl (Nat.le_refl _) (Nat.le_of_ble_eq_true rfl) (by omega) (by omega) rfl (List.forall_mem_cons.mpr ⟨⟨by decide, _, c_L_13, by decide +kernel⟩, (fun _ z => nomatch z)⟩) (by decide) (by decide) c_L_15 (by decide +kernel) (Nat.le_of_ble_eq_true rfl) (Or.inr ⟨dL_box_17, rfl⟩) ?_
  refine r_iconst (v := 2) C dL_box_19 (by decide) ?_
  exact r_iret C E dL_box_20 rfl rfl (by omega) (by omega)
theorem w_boxAnew_v (l : Launch) (G : Gl) {h h1 : Hp} {b o f2 mc2 ms2 : Nat} {a0 a1 : Int32} {v : Int32} (M : MRw l G yX11_boxAnew (.code yX11_boxAnew cX11_boxAnew 4 (Option.some Jvm.ClassFile.FieldType.int)) f2 mc2 ms2 [.ref b, .int a0, .int a1] h (.inl (some (.int v), h1))) (hkb : hK h b = 9) (ho : hK h1 o = 102) (hl : 0 < hL h1 o) : MRw l G yL_boxAnew (.codeWith yL_boxAnew cL_boxAnew 5 (Option.some Jvm.ClassFile.FieldType.int) [(0, 10, 13, 13), (0, 10, 17, 15)]) (f2 + 1) mc2 ms2 [.ref b, .int a0, .int a1, .ref o] h (.inl (some (.int 0), (sW h1 o 0 v.toInt64))) := by
  refine mr_ofH (by decide +kernel) (Nat.le_of_ble_eq_true rfl) (ct4 (by first | rfl | exact isR_cat (isR_rf _)) (by first | rfl | exact isR_cat (isR_rf _)) (by first | rfl | exact isR_cat (isR_rf _)) (by first | rfl | exact isR_cat (isR_rf _))) (fun X hG hl C E => ?_)
  subst hG hl
  refine r_aload_n (i := 3) C dL_boxAnew_0 rfl rfl (by first | rfl | exact isR_rf _) ?_
  refine r_iconst (v := 0) C dL_boxAnew_1 (by decide) ?_
  refine r_aload_n (i := 0) C dL_boxAnew_2 rfl rfl (by first | rfl | exact isR_rf _) ?_
  refine r_iload_n (i := 1) C dL_boxAnew_3 rfl rfl ?_
  refine r_iload_n (i := 2) C dL_boxAnew_4 rfl rfl ?_
  refine r_callVs C v_L_80 M dL_boxAnew_5 (by assumption) (ci := 9) (by decide) rfl rfl (As := [_, _]) rfl rfl rfl (by first | exact Nat.le_refl _ | exact Nat.le_of_ble_eq_true rfl | omega) (Nat.le_of_ble_eq_true rfl) (by first | exact Nat.le_refl _ | exact Nat.le_of_ble_eq_true rfl | omega) (by first | exact Nat.le_refl _ | exact Nat.le_of_ble_eq_true rfl | omega) ?_
  refine r_i2l C dL_boxAnew_8 ?_
  refine r_last (a := o) (j := 0) C dL_boxAnew_9 ho rfl hl ?_
  refine r_goto (tgt := 21) C dL_boxAnew_10 (by decide) ?_
  refine r_iconst (v := 0) C dL_boxAnew_21 (by decide) ?_
  exact r_iret C E dL_boxAnew_22 rfl rfl (by omega) (by omega)
theorem w_boxAnew_x1 (l : Launch) (G : Gl) {h h1 : Hp} {b o f2 mc2 ms2 : Nat} {a0 a1 : Int32} (M : MRw l G yX11_boxAnew (.code yX11_boxAnew cX11_boxAnew 4 (Option.some Jvm.ClassFile.FieldType.int)) f2 mc2 ms2 [.ref b, .int a0, .int a1] h (.inr (xI, h1))) (hkb : hK h b = 9) : MRw l G yL_boxAnew (.codeWith yL_boxAnew cL_boxAnew 5 (Option.some Jvm.ClassFile.FieldType.int) [(0, 10, 13, 13), (0, 10, 17, 15)]) (f2 + 1) mc2 ms2 [.ref b, .int a0, .int a1, .ref o] h (.inl (some (.int 1), h1)) := by
  refine mr_ofH (by decide +kernel) (Nat.le_of_ble_eq_true rfl) (ct4 (by first | rfl | exact isR_cat (isR_rf _)) (by first | rfl | exact isR_cat (isR_rf _)) (by first | rfl | exact isR_cat (isR_rf _)) (by first | rfl | exact isR_cat (isR_rf _))) (fun X hG hl C E => ?_)
  subst hG hl
  refine r_aload_n (i := 3) C dL_boxAnew_0 rfl rfl (by first | rfl | exact isR_rf _) ?_
  refine r_iconst (v := 0) C dL_boxAnew_1 (by decide) ?_
  refine r_aload_n (i := 0) C dL_boxAnew_2 rfl rfl (by first | rfl | exact isR_rf _) ?_
  refine r_iload_n (i := 1) C dL_boxAnew_3 rfl rfl ?_
  refine r_iload_n (i := 2) C dL_boxAnew_4 rfl rfl ?_
  refine r_callVc (a0 := 0) (b0 := 10) (hpc := 13) (ct := 13) (i := 4) (la := 2) (hp := []) (hs := [(0, 10, 17, 15)]) C v_L_80 M dL_boxAnew_5 hkb (ci := 9) (by decide) rfl rfl (As := [_, _]) rfl rfl rfl (Nat.le_refl _) (Nat.le_of_ble_eq_true rfl) (by omega) (by omega) rfl (fun _ z => nomatch z) (by decide) (by decide) c_L_13 (by decide +kernel) (Nat.le_of_ble_eq_true rfl) (Or.inr ⟨dL_boxAnew_13, rfl⟩) ?_
  refine r_iconst (v := 1) C dL_boxAnew_15 (by decide) ?_
  exact r_iret C E dL_boxAnew_16 rfl rfl (by omega) (by omega)
theorem w_boxAnew_x2 (l : Launch) (G : Gl) {h h1 : Hp} {b o f2 mc2 ms2 : Nat} {a0 a1 : Int32} (M : MRw l G yX11_boxAnew (.code yX11_boxAnew cX11_boxAnew 4 (Option.some Jvm.ClassFile.FieldType.int)) f2 mc2 ms2 [.ref b, .int a0, .int a1] h (.inr (xA, h1))) (hkb : hK h b = 9) : MRw l G yL_boxAnew (.codeWith yL_boxAnew cL_boxAnew 5 (Option.some Jvm.ClassFile.FieldType.int) [(0, 10, 13, 13), (0, 10, 17, 15)]) (f2 + 1) mc2 ms2 [.ref b, .int a0, .int a1, .ref o] h (.inl (some (.int 2), h1)) := by
  refine mr_ofH (by decide +kernel) (Nat.le_of_ble_eq_true rfl) (ct4 (by first | rfl | exact isR_cat (isR_rf _)) (by first | rfl | exact isR_cat (isR_rf _)) (by first | rfl | exact isR_cat (isR_rf _)) (by first | rfl | exact isR_cat (isR_rf _))) (fun X hG hl C E => ?_)
  subst hG hl
  refine r_aload_n (i := 3) C dL_boxAnew_0 rfl rfl (by first | rfl | exact isR_rf _) ?_
  refine r_iconst (v := 0) C dL_boxAnew_1 (by decide) ?_
  refine r_aload_n (i := 0) C dL_boxAnew_2 rfl rfl (by first | rfl | exact isR_rf _) ?_
  refine r_iload_n (i := 1) C dL_boxAnew_3 rfl rfl ?_
  refine r_iload_n (i := 2) C dL_boxAnew_4 rfl rfl ?_
  refine r_callVc (a0 := 0) (b0 := 10) (hpc := 17) (ct := 15) (i := 4) (la := 2) (hp := [(0, 10, 13, 13)]) (hs := []) C v_L_80 M dL_boxAnew_5 hkb (ci := 9) (by decide) rfl rfl (As := [_, _]) rfl rfl rfl (Nat.le_refl _) (Nat.le_of_ble_eq_true rfl) (by omega) (by omega) rfl (List.forall_mem_cons.mpr ⟨⟨by decide, _, c_L_13, by decide +kernel⟩, (fun _ z => nomatch z)⟩) (by decide) (by decide) c_L_15 (by decide +kernel) (Nat.le_of_ble_eq_true rfl) (Or.inr ⟨dL_boxAnew_17, rfl⟩) ?_
  refine r_iconst (v := 2) C dL_boxAnew_19 (by decide) ?_
  exact r_iret C E dL_boxAnew_20 rfl rfl (by omega) (by omega)
theorem w_contain_v (l : Launch) (G : Gl) {h h1 : Hp} {b o f2 mc2 ms2 : Nat} {a0 a1 : Int32} {v : Int32} (M : MRw l G yX11_contain (.code yX11_contain cX11_contain 5 (Option.some Jvm.ClassFile.FieldType.boolean)) f2 mc2 ms2 [.ref b, .int a0, .int a1] h (.inl (some (.int v), h1))) (hkb : hK h b = 9) (ho : hK h1 o = 102) (hl : 0 < hL h1 o) : MRw l G yL_contain (.codeWith yL_contain cL_contain 5 (Option.some Jvm.ClassFile.FieldType.int) [(0, 17, 20, 13)]) (f2 + 1) mc2 ms2 [.ref b, .int a0, .int a1, .ref o] h (.inl (some (.int 0), (sW h1 o 0 (if v = 0 then 0 else 1)))) := by
  refine mr_ofH (by decide +kernel) (Nat.le_of_ble_eq_true rfl) (ct4 (by first | rfl | exact isR_cat (isR_rf _)) (by first | rfl | exact isR_cat (isR_rf _)) (by first | rfl | exact isR_cat (isR_rf _)) (by first | rfl | exact isR_cat (isR_rf _))) (fun X hG hl C E => ?_)
  subst hG hl
  refine r_aload_n (i := 3) C dL_contain_0 rfl rfl (by first | rfl | exact isR_rf _) ?_
  refine r_iconst (v := 0) C dL_contain_1 (by decide) ?_
  refine r_aload_n (i := 0) C dL_contain_2 rfl rfl (by first | rfl | exact isR_rf _) ?_
  refine r_iload_n (i := 1) C dL_contain_3 rfl rfl ?_
  refine r_iload_n (i := 2) C dL_contain_4 rfl rfl ?_
  refine r_callVs C v_L_30 M dL_contain_5 (by assumption) (ci := 9) (by decide) rfl rfl (As := [_, _]) rfl rfl rfl (by first | exact Nat.le_refl _ | exact Nat.le_of_ble_eq_true rfl | omega) (Nat.le_of_ble_eq_true rfl) (by first | exact Nat.le_refl _ | exact Nat.le_of_ble_eq_true rfl | omega) (by first | exact Nat.le_refl _ | exact Nat.le_of_ble_eq_true rfl | omega) ?_
  refine r_if_eq (tgt := 15) C dL_contain_8 (by decide) (fun c_8 => ?_) (fun c_8 => ?_)
  · rw [if_pos c_8] at E
    refine r_lconst (v := 0) C dL_contain_15 (by decide) ?_
    refine r_last (a := o) (j := 0) C dL_contain_16 ho rfl hl ?_
    refine r_goto (tgt := 24) C dL_contain_17 (by decide) ?_
    refine r_iconst (v := 0) C dL_contain_24 (by decide) ?_
    exact r_iret C E dL_contain_25 rfl rfl (by omega) (by omega)
  · rw [if_neg c_8] at E
    refine r_lconst (v := 1) C dL_contain_11 (by decide) ?_
    refine r_goto (tgt := 16) C dL_contain_12 (by decide) ?_
    refine r_last (a := o) (j := 0) C dL_contain_16 ho rfl hl ?_
    refine r_goto (tgt := 24) C dL_contain_17 (by decide) ?_
    refine r_iconst (v := 0) C dL_contain_24 (by decide) ?_
    exact r_iret C E dL_contain_25 rfl rfl (by omega) (by omega)
theorem w_contain_x1 (l : Launch) (G : Gl) {h h1 : Hp} {b o f2 mc2 ms2 : Nat} {a0 a1 : Int32} (M : MRw l G yX11_contain (.code yX11_contain cX11_contain 5 (Option.some Jvm.ClassFile.FieldType.boolean)) f2 mc2 ms2 [.ref b, .int a0, .int a1] h (.inr (xI, h1))) (hkb : hK h b = 9) : MRw l G yL_contain (.codeWith yL_contain cL_contain 5 (Option.some Jvm.ClassFile.FieldType.int) [(0, 17, 20, 13)]) (f2 + 1) mc2 ms2 [.ref b, .int a0, .int a1, .ref o] h (.inl (some (.int 1), h1)) := by
  refine mr_ofH (by decide +kernel) (Nat.le_of_ble_eq_true rfl) (ct4 (by first | rfl | exact isR_cat (isR_rf _)) (by first | rfl | exact isR_cat (isR_rf _)) (by first | rfl | exact isR_cat (isR_rf _)) (by first | rfl | exact isR_cat (isR_rf _))) (fun X hG hl C E => ?_)
  subst hG hl
  refine r_aload_n (i := 3) C dL_contain_0 rfl rfl (by first | rfl | exact isR_rf _) ?_
  refine r_iconst (v := 0) C dL_contain_1 (by decide) ?_
  refine r_aload_n (i := 0) C dL_contain_2 rfl rfl (by first | rfl | exact isR_rf _) ?_
  refine r_iload_n (i := 1) C dL_contain_3 rfl rfl ?_
  refine r_iload_n (i := 2) C dL_contain_4 rfl rfl ?_
  refine r_callVc (a0 := 0) (b0 := 17) (hpc := 20) (ct := 13) (i := 4) (la := 2) (hp := []) (hs := []) C v_L_30 M dL_contain_5 hkb (ci := 9) (by decide) rfl rfl (As := [_, _]) rfl rfl rfl (Nat.le_refl _) (Nat.le_of_ble_eq_true rfl) (by omega) (by omega) rfl (fun _ z => nomatch z) (by decide) (by decide) c_L_13 (by decide +kernel) (Nat.le_of_ble_eq_true rfl) (Or.inr ⟨dL_contain_20, rfl⟩) ?_
  refine r_iconst (v := 1) C dL_contain_22 (by decide) ?_
  exact r_iret C E dL_contain_23 rfl rfl (by omega) (by omega)
theorem w_declare_v (l : Launch) (G : Gl) {h h1 : Hp} {b o f2 mc2 ms2 : Nat} {a0 a1 a2 : Int32} {v : Int32} (M : MRw l G yX11_declare (.code yX11_declare cX11_declare 5 (Option.some Jvm.ClassFile.FieldType.int)) f2 mc2 ms2 [.ref b, .int a0, .int a1, .int a2] h (.inl (some (.int v), h1))) (hkb : hK h b = 9) (ho : hK h1 o = 102) (hl : 0 < hL h1 o) : MRw l G yL_declare (.codeWith yL_declare cL_declare 6 (Option.some Jvm.ClassFile.FieldType.int) [(0, 12, 15, 13), (0, 12, 19, 15), (0, 12, 23, 17)]) (f2 + 1) mc2 ms2 [.ref b, .int a0, .int a1, .int a2, .ref o] h (.inl (some (.int 0), (sW h1 o 0 v.toInt64))) := by
  refine mr_ofH (by decide +kernel) (Nat.le_of_ble_eq_true rfl) (ct5 (by first | rfl | exact isR_cat (isR_rf _)) (by first | rfl | exact isR_cat (isR_rf _)) (by first | rfl | exact isR_cat (isR_rf _)) (by first | rfl | exact isR_cat (isR_rf _)) (by first | rfl | exact isR_cat (isR_rf _))) (fun X hG hl C E => ?_)
  subst hG hl
  refine r_aload (i := 4) C dL_declare_0 rfl (by first | rfl | exact isR_rf _) ?_
  refine r_iconst (v := 0) C dL_declare_2 (by decide) ?_
  refine r_aload_n (i := 0) C dL_declare_3 rfl rfl (by first | rfl | exact isR_rf _) ?_
  refine r_iload_n (i := 1) C dL_declare_4 rfl rfl ?_
  refine r_iload_n (i := 2) C dL_declare_5 rfl rfl ?_
  refine r_iload_n (i := 3) C dL_declare_6 rfl rfl ?_
  refine r_callVs C v_L_48 M dL_declare_7 (by assumption) (ci := 9) (by decide) rfl rfl (As := [_, _, _]) rfl rfl rfl (by first | exact Nat.le_refl _ | exact Nat.le_of_ble_eq_true rfl | omega) (Nat.le_of_ble_eq_true rfl) (by first | exact Nat.le_refl _ | exact Nat.le_of_ble_eq_true rfl | omega) (by first | exact Nat.le_refl _ | exact Nat.le_of_ble_eq_true rfl | omega) ?_
  refine r_i2l C dL_declare_10 ?_
  refine r_last (a := o) (j := 0) C dL_declare_11 ho rfl hl ?_
  refine r_goto (tgt := 27) C dL_declare_12 (by decide) ?_
  refine r_iconst (v := 0) C dL_declare_27 (by decide) ?_
  exact r_iret C E dL_declare_28 rfl rfl (by omega) (by omega)
theorem w_declare_x1 (l : Launch) (G : Gl) {h h1 : Hp} {b o f2 mc2 ms2 : Nat} {a0 a1 a2 : Int32} (M : MRw l G yX11_declare (.code yX11_declare cX11_declare 5 (Option.some Jvm.ClassFile.FieldType.int)) f2 mc2 ms2 [.ref b, .int a0, .int a1, .int a2] h (.inr (xI, h1))) (hkb : hK h b = 9) : MRw l G yL_declare (.codeWith yL_declare cL_declare 6 (Option.some Jvm.ClassFile.FieldType.int) [(0, 12, 15, 13), (0, 12, 19, 15), (0, 12, 23, 17)]) (f2 + 1) mc2 ms2 [.ref b, .int a0, .int a1, .int a2, .ref o] h (.inl (some (.int 1), h1)) := by
  refine mr_ofH (by decide +kernel) (Nat.le_of_ble_eq_true rfl) (ct5 (by first | rfl | exact isR_cat (isR_rf _)) (by first | rfl | exact isR_cat (isR_rf _)) (by first | rfl | exact isR_cat (isR_rf _)) (by first | rfl | exact isR_cat (isR_rf _)) (by first | rfl | exact isR_cat (isR_rf _))) (fun X hG hl C E => ?_)
  subst hG hl
  refine r_aload (i := 4) C dL_declare_0 rfl (by first | rfl | exact isR_rf _) ?_
  refine r_iconst (v := 0) C dL_declare_2 (by decide) ?_
  refine r_aload_n (i := 0) C dL_declare_3 rfl rfl (by first | rfl | exact isR_rf _) ?_
  refine r_iload_n (i := 1) C dL_declare_4 rfl rfl ?_
  refine r_iload_n (i := 2) C dL_declare_5 rfl rfl ?_
  refine r_iload_n (i := 3) C dL_declare_6 rfl rfl ?_
  refine r_callVc (a0 := 0) (b0 := 12) (hpc := 15) (ct := 13) (i := 5) (la := 2) (hp := []) (hs := [(0, 12, 19, 15), (0, 12, 23, 17)]) C v_L_48 M dL_declare_7 hkb (ci := 9) (by decide) rfl rfl (As := [_, _, _]) rfl rfl rfl (Nat.le_refl _) (Nat.le_of_ble_eq_true rfl) (by omega) (by omega) rfl (fun _ z => nomatch z) (by decide) (by decide) c_L_13 (by decide +kernel) (Nat.le_of_ble_eq_true rfl) (Or.inr ⟨dL_declare_15, rfl⟩) ?_
  refine r_iconst (v := 1) C dL_declare_17 (by decide) ?_
  exact r_iret C E dL_declare_18 rfl rfl (by omega) (by omega)
theorem w_declare_x2 (l : Launch) (G : Gl) {h h1 : Hp} {b o f2 mc2 ms2 : Nat} {a0 a1 a2 : Int32} (M : MRw l G yX11_declare (.code yX11_declare cX11_declare 5 (Option.some Jvm.ClassFile.FieldType.int)) f2 mc2 ms2 [.ref b, .int a0, .int a1, .int a2] h (.inr (xA, h1))) (hkb : hK h b = 9) : MRw l G yL_declare (.codeWith yL_declare cL_declare 6 (Option.some Jvm.ClassFile.FieldType.int) [(0, 12, 15, 13), (0, 12, 19, 15), (0, 12, 23, 17)]) (f2 + 1) mc2 ms2 [.ref b, .int a0, .int a1, .int a2, .ref o] h (.inl (some (.int 2), h1)) := by
  refine mr_ofH (by decide +kernel) (Nat.le_of_ble_eq_true rfl) (ct5 (by first | rfl | exact isR_cat (isR_rf _)) (by first | rfl | exact isR_cat (isR_rf _)) (by first | rfl | exact isR_cat (isR_rf _)) (by first | rfl | exact isR_cat (isR_rf _)) (by first | rfl | exact isR_cat (isR_rf _))) (fun X hG hl C E => ?_)
  subst hG hl
  refine r_aload (i := 4) C dL_declare_0 rfl (by first | rfl | exact isR_rf _) ?_
  refine r_iconst (v := 0) C dL_declare_2 (by decide) ?_
  refine r_aload_n (i := 0) C dL_declare_3 rfl rfl (by first | rfl | exact isR_rf _) ?_
  refine r_iload_n (i := 1) C dL_declare_4 rfl rfl ?_
  refine r_iload_n (i := 2) C dL_declare_5 rfl rfl ?_
  refine r_iload_n (i := 3) C dL_declare_6 rfl rfl ?_
  refine r_callVc (a0 := 0) (b0 := 12) (hpc := 19) (ct := 15) (i := 5) (la := 2) (hp := [(0, 12, 15, 13)]) (hs := [(0, 12, 23, 17)]) C v_L_48 M dL_declare_7 hkb (ci := 9) (by decide) rfl rfl (As := [_, _, _]) rfl rfl rfl (Nat.le_refl _) (Nat.le_of_ble_eq_true rfl) (by omega) (by omega) rfl (List.forall_mem_cons.mpr ⟨⟨by decide, _, c_L_13, by decide +kernel⟩, (fun _ z => nomatch z)⟩) (by decide) (by decide) c_L_15 (by decide +kernel) (Nat.le_of_ble_eq_true rfl) (Or.inr ⟨dL_declare_19, rfl⟩) ?_
  refine r_iconst (v := 2) C dL_declare_21 (by decide) ?_
  exact r_iret C E dL_declare_22 rfl rfl (by omega) (by omega)
theorem w_declare_x3 (l : Launch) (G : Gl) {h h1 : Hp} {b o f2 mc2 ms2 : Nat} {a0 a1 a2 : Int32} (M : MRw l G yX11_declare (.code yX11_declare cX11_declare 5 (Option.some Jvm.ClassFile.FieldType.int)) f2 mc2 ms2 [.ref b, .int a0, .int a1, .int a2] h (.inr (xS, h1))) (hkb : hK h b = 9) : MRw l G yL_declare (.codeWith yL_declare cL_declare 6 (Option.some Jvm.ClassFile.FieldType.int) [(0, 12, 15, 13), (0, 12, 19, 15), (0, 12, 23, 17)]) (f2 + 1) mc2 ms2 [.ref b, .int a0, .int a1, .int a2, .ref o] h (.inl (some (.int 3), h1)) := by
  refine mr_ofH (by decide +kernel) (Nat.le_of_ble_eq_true rfl) (ct5 (by first | rfl | exact isR_cat (isR_rf _)) (by first | rfl | exact isR_cat (isR_rf _)) (by first | rfl | exact isR_cat (isR_rf _)) (by first | rfl | exact isR_cat (isR_rf _)) (by first | rfl | exact isR_cat (isR_rf _))) (fun X hG hl C E => ?_)
  subst hG hl
  refine r_aload (i := 4) C dL_declare_0 rfl (by first | rfl | exact isR_rf _) ?_
  refine r_iconst (v := 0) C dL_declare_2 (by decide) ?_
  refine r_aload_n (i := 0) C dL_declare_3 rfl rfl (by first | rfl | exact isR_rf _) ?_
  refine r_iload_n (i := 1) C dL_declare_4 rfl rfl ?_
  refine r_iload_n (i := 2) C dL_declare_5 rfl rfl ?_
  refine r_iload_n (i := 3) C dL_declare_6 rfl rfl ?_
  refine r_callVc (a0 := 0) (b0 := 12) (hpc := 23) (ct := 17) (i := 5) (la := 2) (hp := [(0, 12, 15, 13), (0, 12, 19, 15)]) (hs := []) C v_L_48 M dL_declare_7 hkb (ci := 9) (by decide) rfl rfl (As := [_, _, _]) rfl rfl rfl (Nat.le_refl _) (Nat.le_of_ble_eq_true rfl) (by omega) (by omega) rfl (List.forall_mem_cons.mpr ⟨⟨by decide, _, c_L_13, by decide +kernel⟩, (List.forall_mem_cons.mpr ⟨⟨by decide, _, c_L_15, by decide +kernel⟩, (fun _ z => nomatch z)⟩)⟩) (by decide) (by decide) c_L_17 (by decide +kernel) (Nat.le_of_ble_eq_true rfl) (Or.inr ⟨dL_declare_23, rfl⟩) ?_
  refine r_iconst (v := 3) C dL_declare_25 (by decide) ?_
  exact r_iret C E dL_declare_26 rfl rfl (by omega) (by omega)
theorem w_dress_v (l : Launch) (G : Gl) {h h1 : Hp} {b o f2 mc2 ms2 : Nat} {a0 a1 : Int32} {v : Int32} (M : MRw l G yX11_dress (.code yX11_dress cX11_dress 5 (Option.some Jvm.ClassFile.FieldType.int)) f2 mc2 ms2 [.ref b, .int a0, .int a1] h (.inl (some (.int v), h1))) (hkb : hK h b = 9) (ho : hK h1 o = 102) (hl : 0 < hL h1 o) : MRw l G yL_dress (.codeWith yL_dress cL_dress 5 (Option.some Jvm.ClassFile.FieldType.int) [(0, 10, 13, 13), (0, 10, 17, 15)]) (f2 + 1) mc2 ms2 [.ref b, .int a0, .int a1, .ref o] h (.inl (some (.int 0), (sW h1 o 0 v.toInt64))) := by
  refine mr_ofH (by decide +kernel) (Nat.le_of_ble_eq_true rfl) (ct4 (by first | rfl | exact isR_cat (isR_rf _)) (by first | rfl | exact isR_cat (isR_rf _)) (by first | rfl | exact isR_cat (isR_rf _)) (by first | rfl | exact isR_cat (isR_rf _))) (fun X hG hl C E => ?_)
  subst hG hl
  refine r_aload_n (i := 3) C dL_dress_0 rfl rfl (by first | rfl | exact isR_rf _) ?_
  refine r_iconst (v := 0) C dL_dress_1 (by decide) ?_
  refine r_aload_n (i := 0) C dL_dress_2 rfl rfl (by first | rfl | exact isR_rf _) ?_
  refine r_iload_n (i := 1) C dL_dress_3 rfl rfl ?_
  refine r_iload_n (i := 2) C dL_dress_4 rfl rfl ?_
  refine r_callVs C v_L_23 M dL_dress_5 (by assumption) (ci := 9) (by decide) rfl rfl (As := [_, _]) rfl rfl rfl (by first | exact Nat.le_refl _ | exact Nat.le_of_ble_eq_true rfl | omega) (Nat.le_of_ble_eq_true rfl) (by first | exact Nat.le_refl _ | exact Nat.le_of_ble_eq_true rfl | omega) (by first | exact Nat.le_refl _ | exact Nat.le_of_ble_eq_true rfl | omega) ?_
  refine r_i2l C dL_dress_8 ?_
  refine r_last (a := o) (j := 0) C dL_dress_9 ho rfl hl ?_
  refine r_goto (tgt := 21) C dL_dress_10 (by decide) ?_
  refine r_iconst (v := 0) C dL_dress_21 (by decide) ?_
  exact r_iret C E dL_dress_22 rfl rfl (by omega) (by omega)
theorem w_dress_x1 (l : Launch) (G : Gl) {h h1 : Hp} {b o f2 mc2 ms2 : Nat} {a0 a1 : Int32} (M : MRw l G yX11_dress (.code yX11_dress cX11_dress 5 (Option.some Jvm.ClassFile.FieldType.int)) f2 mc2 ms2 [.ref b, .int a0, .int a1] h (.inr (xI, h1))) (hkb : hK h b = 9) : MRw l G yL_dress (.codeWith yL_dress cL_dress 5 (Option.some Jvm.ClassFile.FieldType.int) [(0, 10, 13, 13), (0, 10, 17, 15)]) (f2 + 1) mc2 ms2 [.ref b, .int a0, .int a1, .ref o] h (.inl (some (.int 1), h1)) := by
  refine mr_ofH (by decide +kernel) (Nat.le_of_ble_eq_true rfl) (ct4 (by first | rfl | exact isR_cat (isR_rf _)) (by first | rfl | exact isR_cat (isR_rf _)) (by first | rfl | exact isR_cat (isR_rf _)) (by first | rfl | exact isR_cat (isR_rf _))) (fun X hG hl C E => ?_)
  subst hG hl
  refine r_aload_n (i := 3) C dL_dress_0 rfl rfl (by first | rfl | exact isR_rf _) ?_
  refine r_iconst (v := 0) C dL_dress_1 (by decide) ?_
  refine r_aload_n (i := 0) C dL_dress_2 rfl rfl (by first | rfl | exact isR_rf _) ?_
  refine r_iload_n (i := 1) C dL_dress_3 rfl rfl ?_
  refine r_iload_n (i := 2) C dL_dress_4 rfl rfl ?_
  refine r_callVc (a0 := 0) (b0 := 10) (hpc := 13) (ct := 13) (i := 4) (la := 2) (hp := []) (hs := [(0, 10, 17, 15)]) C v_L_23 M dL_dress_5 hkb (ci := 9) (by decide) rfl rfl (As := [_, _]) rfl rfl rfl (Nat.le_refl _) (Nat.le_of_ble_eq_true rfl) (by omega) (by omega) rfl (fun _ z => nomatch z) (by decide) (by decide) c_L_13 (by decide +kernel) (Nat.le_of_ble_eq_true rfl) (Or.inr ⟨dL_dress_13, rfl⟩) ?_
  refine r_iconst (v := 1) C dL_dress_15 (by decide) ?_
  exact r_iret C E dL_dress_16 rfl rfl (by omega) (by omega)
theorem w_dress_x2 (l : Launch) (G : Gl) {h h1 : Hp} {b o f2 mc2 ms2 : Nat} {a0 a1 : Int32} (M : MRw l G yX11_dress (.code yX11_dress cX11_dress 5 (Option.some Jvm.ClassFile.FieldType.int)) f2 mc2 ms2 [.ref b, .int a0, .int a1] h (.inr (xA, h1))) (hkb : hK h b = 9) : MRw l G yL_dress (.codeWith yL_dress cL_dress 5 (Option.some Jvm.ClassFile.FieldType.int) [(0, 10, 13, 13), (0, 10, 17, 15)]) (f2 + 1) mc2 ms2 [.ref b, .int a0, .int a1, .ref o] h (.inl (some (.int 2), h1)) := by
  refine mr_ofH (by decide +kernel) (Nat.le_of_ble_eq_true rfl) (ct4 (by first | rfl | exact isR_cat (isR_rf _)) (by first | rfl | exact isR_cat (isR_rf _)) (by first | rfl | exact isR_cat (isR_rf _)) (by first | rfl | exact isR_cat (isR_rf _))) (fun X hG hl C E => ?_)
  subst hG hl
  refine r_aload_n (i := 3) C dL_dress_0 rfl rfl (by first | rfl | exact isR_rf _) ?_
  refine r_iconst (v := 0) C dL_dress_1 (by decide) ?_
  refine r_aload_n (i := 0) C dL_dress_2 rfl rfl (by first | rfl | exact isR_rf _) ?_
  refine r_iload_n (i := 1) C dL_dress_3 rfl rfl ?_
  refine r_iload_n (i := 2) C dL_dress_4 rfl rfl ?_
  refine r_callVc (a0 := 0) (b0 := 10) (hpc := 17) (ct := 15) (i := 4) (la := 2) (hp := [(0, 10, 13, 13)]) (hs := []) C v_L_23 M dL_dress_5 hkb (ci := 9) (by decide) rfl rfl (As := [_, _]) rfl rfl rfl (Nat.le_refl _) (Nat.le_of_ble_eq_true rfl) (by omega) (by omega) rfl (List.forall_mem_cons.mpr ⟨⟨by decide, _, c_L_13, by decide +kernel⟩, (fun _ z => nomatch z)⟩) (by decide) (by decide) c_L_15 (by decide +kernel) (Nat.le_of_ble_eq_true rfl) (Or.inr ⟨dL_dress_17, rfl⟩) ?_
  refine r_iconst (v := 2) C dL_dress_19 (by decide) ?_
  exact r_iret C E dL_dress_20 rfl rfl (by omega) (by omega)
theorem w_empty_v (l : Launch) (G : Gl) {h h1 : Hp} {b o f2 mc2 ms2 : Nat} {a0 : Int32} {v : Int32} (M : MRw l G yX11_empty (.code yX11_empty cX11_empty 4 (Option.some Jvm.ClassFile.FieldType.int)) f2 mc2 ms2 [.ref b, .int a0] h (.inl (some (.int v), h1))) (hkb : hK h b = 9) (ho : hK h1 o = 102) (hl : 0 < hL h1 o) : MRw l G yL_empty (.codeWith yL_empty cL_empty 4 (Option.some Jvm.ClassFile.FieldType.int) [(0, 9, 12, 13)]) (f2 + 1) mc2 ms2 [.ref b, .int a0, .ref o] h (.inl (some (.int 0), (sW h1 o 0 v.toInt64))) := by
  refine mr_ofH (by decide +kernel) (Nat.le_of_ble_eq_true rfl) (ct3 (by first | rfl | exact isR_cat (isR_rf _)) (by first | rfl | exact isR_cat (isR_rf _)) (by first | rfl | exact isR_cat (isR_rf _))) (fun X hG hl C E => ?_)
  subst hG hl
  refine r_aload_n (i := 2) C dL_empty_0 rfl rfl (by first | rfl | exact isR_rf _) ?_
  refine r_iconst (v := 0) C dL_empty_1 (by decide) ?_
  refine r_aload_n (i := 0) C dL_empty_2 rfl rfl (by first | rfl | exact isR_rf _) ?_
  refine r_iload_n (i := 1) C dL_empty_3 rfl rfl ?_
  refine r_callVs C v_L_58 M dL_empty_4 (by assumption) (ci := 9) (by decide) rfl rfl (As := [_]) rfl rfl rfl (by first | exact Nat.le_refl _ | exact Nat.le_of_ble_eq_true rfl | omega) (Nat.le_of_ble_eq_true rfl) (by first | exact Nat.le_refl _ | exact Nat.le_of_ble_eq_true rfl | omega) (by first | exact Nat.le_refl _ | exact Nat.le_of_ble_eq_true rfl | omega) ?_
  refine r_i2l C dL_empty_7 ?_
  refine r_last (a := o) (j := 0) C dL_empty_8 ho rfl hl ?_
  refine r_goto (tgt := 15) C dL_empty_9 (by decide) ?_
  refine r_iconst (v := 0) C dL_empty_15 (by decide) ?_
  exact r_iret C E dL_empty_16 rfl rfl (by omega) (by omega)
theorem w_empty_x1 (l : Launch) (G : Gl) {h h1 : Hp} {b o f2 mc2 ms2 : Nat} {a0 : Int32} (M : MRw l G yX11_empty (.code yX11_empty cX11_empty 4 (Option.some Jvm.ClassFile.FieldType.int)) f2 mc2 ms2 [.ref b, .int a0] h (.inr (xI, h1))) (hkb : hK h b = 9) : MRw l G yL_empty (.codeWith yL_empty cL_empty 4 (Option.some Jvm.ClassFile.FieldType.int) [(0, 9, 12, 13)]) (f2 + 1) mc2 ms2 [.ref b, .int a0, .ref o] h (.inl (some (.int 1), h1)) := by
  refine mr_ofH (by decide +kernel) (Nat.le_of_ble_eq_true rfl) (ct3 (by first | rfl | exact isR_cat (isR_rf _)) (by first | rfl | exact isR_cat (isR_rf _)) (by first | rfl | exact isR_cat (isR_rf _))) (fun X hG hl C E => ?_)
  subst hG hl
  refine r_aload_n (i := 2) C dL_empty_0 rfl rfl (by first | rfl | exact isR_rf _) ?_
  refine r_iconst (v := 0) C dL_empty_1 (by decide) ?_
  refine r_aload_n (i := 0) C dL_empty_2 rfl rfl (by first | rfl | exact isR_rf _) ?_
  refine r_iload_n (i := 1) C dL_empty_3 rfl rfl ?_
  refine r_callVc (a0 := 0) (b0 := 9) (hpc := 12) (ct := 13) (i := 3) (la := 1) (hp := []) (hs := []) C v_L_58 M dL_empty_4 hkb (ci := 9) (by decide) rfl rfl (As := [_]) rfl rfl rfl (Nat.le_refl _) (Nat.le_of_ble_eq_true rfl) (by omega) (by omega) rfl (fun _ z => nomatch z) (by decide) (by decide) c_L_13 (by decide +kernel) (Nat.le_of_ble_eq_true rfl) (Or.inl ⟨3, dL_empty_12, rfl, rfl⟩) ?_
  refine r_iconst (v := 1) C dL_empty_13 (by decide) ?_
  exact r_iret C E dL_empty_14 rfl rfl (by omega) (by omega)
theorem w_fits_v (l : Launch) (G : Gl) {h h1 : Hp} {b o f2 mc2 ms2 : Nat} {a0 a1 : Int32} {v : Int32} (M : MRw l G yX11_fits (.code yX11_fits cX11_fits 4 (Option.some Jvm.ClassFile.FieldType.boolean)) f2 mc2 ms2 [.ref b, .int a0, .int a1] h (.inl (some (.int v), h1))) (hkb : hK h b = 9) (ho : hK h1 o = 102) (hl : 0 < hL h1 o) : MRw l G yL_fits (.codeWith yL_fits cL_fits 5 (Option.some Jvm.ClassFile.FieldType.int) [(0, 17, 20, 13)]) (f2 + 1) mc2 ms2 [.ref b, .int a0, .int a1, .ref o] h (.inl (some (.int 0), (sW h1 o 0 (if v = 0 then 0 else 1)))) := by
  refine mr_ofH (by decide +kernel) (Nat.le_of_ble_eq_true rfl) (ct4 (by first | rfl | exact isR_cat (isR_rf _)) (by first | rfl | exact isR_cat (isR_rf _)) (by first | rfl | exact isR_cat (isR_rf _)) (by first | rfl | exact isR_cat (isR_rf _))) (fun X hG hl C E => ?_)
  subst hG hl
  refine r_aload_n (i := 3) C dL_fits_0 rfl rfl (by first | rfl | exact isR_rf _) ?_
  refine r_iconst (v := 0) C dL_fits_1 (by decide) ?_
  refine r_aload_n (i := 0) C dL_fits_2 rfl rfl (by first | rfl | exact isR_rf _) ?_
  refine r_iload_n (i := 1) C dL_fits_3 rfl rfl ?_
  refine r_iload_n (i := 2) C dL_fits_4 rfl rfl ?_
  refine r_callVs C v_L_61 M dL_fits_5 (by assumption) (ci := 9) (by decide) rfl rfl (As := [_, _]) rfl rfl rfl (by first | exact Nat.le_refl _ | exact Nat.le_of_ble_eq_true rfl | omega) (Nat.le_of_ble_eq_true rfl) (by first | exact Nat.le_refl _ | exact Nat.le_of_ble_eq_true rfl | omega) (by first | exact Nat.le_refl _ | exact Nat.le_of_ble_eq_true rfl | omega) ?_
  refine r_if_eq (tgt := 15) C dL_fits_8 (by decide) (fun c_8 => ?_) (fun c_8 => ?_)
  · rw [if_pos c_8] at E
    refine r_lconst (v := 0) C dL_fits_15 (by decide) ?_
    refine r_last (a := o) (j := 0) C dL_fits_16 ho rfl hl ?_
    refine r_goto (tgt := 24) C dL_fits_17 (by decide) ?_
    refine r_iconst (v := 0) C dL_fits_24 (by decide) ?_
    exact r_iret C E dL_fits_25 rfl rfl (by omega) (by omega)
  · rw [if_neg c_8] at E
    refine r_lconst (v := 1) C dL_fits_11 (by decide) ?_
    refine r_goto (tgt := 16) C dL_fits_12 (by decide) ?_
    refine r_last (a := o) (j := 0) C dL_fits_16 ho rfl hl ?_
    refine r_goto (tgt := 24) C dL_fits_17 (by decide) ?_
    refine r_iconst (v := 0) C dL_fits_24 (by decide) ?_
    exact r_iret C E dL_fits_25 rfl rfl (by omega) (by omega)
theorem w_fits_x1 (l : Launch) (G : Gl) {h h1 : Hp} {b o f2 mc2 ms2 : Nat} {a0 a1 : Int32} (M : MRw l G yX11_fits (.code yX11_fits cX11_fits 4 (Option.some Jvm.ClassFile.FieldType.boolean)) f2 mc2 ms2 [.ref b, .int a0, .int a1] h (.inr (xI, h1))) (hkb : hK h b = 9) : MRw l G yL_fits (.codeWith yL_fits cL_fits 5 (Option.some Jvm.ClassFile.FieldType.int) [(0, 17, 20, 13)]) (f2 + 1) mc2 ms2 [.ref b, .int a0, .int a1, .ref o] h (.inl (some (.int 1), h1)) := by
  refine mr_ofH (by decide +kernel) (Nat.le_of_ble_eq_true rfl) (ct4 (by first | rfl | exact isR_cat (isR_rf _)) (by first | rfl | exact isR_cat (isR_rf _)) (by first | rfl | exact isR_cat (isR_rf _)) (by first | rfl | exact isR_cat (isR_rf _))) (fun X hG hl C E => ?_)
  subst hG hl
  refine r_aload_n (i := 3) C dL_fits_0 rfl rfl (by first | rfl | exact isR_rf _) ?_
  refine r_iconst (v := 0) C dL_fits_1 (by decide) ?_
  refine r_aload_n (i := 0) C dL_fits_2 rfl rfl (by first | rfl | exact isR_rf _) ?_
  refine r_iload_n (i := 1) C dL_fits_3 rfl rfl ?_
  refine r_iload_n (i := 2) C dL_fits_4 rfl rfl ?_
  refine r_callVc (a0 := 0) (b0 := 17) (hpc := 20) (ct := 13) (i := 4) (la := 2) (hp := []) (hs := []) C v_L_61 M dL_fits_5 hkb (ci := 9) (by decide) rfl rfl (As := [_, _]) rfl rfl rfl (Nat.le_refl _) (Nat.le_of_ble_eq_true rfl) (by omega) (by omega) rfl (fun _ z => nomatch z) (by decide) (by decide) c_L_13 (by decide +kernel) (Nat.le_of_ble_eq_true rfl) (Or.inr ⟨dL_fits_20, rfl⟩) ?_
  refine r_iconst (v := 1) C dL_fits_22 (by decide) ?_
  exact r_iret C E dL_fits_23 rfl rfl (by omega) (by omega)
theorem w_from_v (l : Launch) (G : Gl) {h h1 : Hp} {b o f2 mc2 ms2 : Nat} {a0 a1 : Int32} {v : Int32} (M : MRw l G yX11_from (.code yX11_from cX11_from 4 (Option.some Jvm.ClassFile.FieldType.int)) f2 mc2 ms2 [.ref b, .int a0, .int a1] h (.inl (some (.int v), h1))) (hkb : hK h b = 9) (ho : hK h1 o = 102) (hl : 0 < hL h1 o) : MRw l G yL_from (.codeWith yL_from cL_from 5 (Option.some Jvm.ClassFile.FieldType.int) [(0, 10, 13, 13)]) (f2 + 1) mc2 ms2 [.ref b, .int a0, .int a1, .ref o] h (.inl (some (.int 0), (sW h1 o 0 v.toInt64))) := by
  refine mr_ofH (by decide +kernel) (Nat.le_of_ble_eq_true rfl) (ct4 (by first | rfl | exact isR_cat (isR_rf _)) (by first | rfl | exact isR_cat (isR_rf _)) (by first | rfl | exact isR_cat (isR_rf _)) (by first | rfl | exact isR_cat (isR_rf _))) (fun X hG hl C E => ?_)
  subst hG hl
  refine r_aload_n (i := 3) C dL_from_0 rfl rfl (by first | rfl | exact isR_rf _) ?_
  refine r_iconst (v := 0) C dL_from_1 (by decide) ?_
  refine r_aload_n (i := 0) C dL_from_2 rfl rfl (by first | rfl | exact isR_rf _) ?_
  refine r_iload_n (i := 1) C dL_from_3 rfl rfl ?_
  refine r_iload_n (i := 2) C dL_from_4 rfl rfl ?_
  refine r_callVs C v_L_74 M dL_from_5 (by assumption) (ci := 9) (by decide) rfl rfl (As := [_, _]) rfl rfl rfl (by first | exact Nat.le_refl _ | exact Nat.le_of_ble_eq_true rfl | omega) (Nat.le_of_ble_eq_true rfl) (by first | exact Nat.le_refl _ | exact Nat.le_of_ble_eq_true rfl | omega) (by first | exact Nat.le_refl _ | exact Nat.le_of_ble_eq_true rfl | omega) ?_
  refine r_i2l C dL_from_8 ?_
  refine r_last (a := o) (j := 0) C dL_from_9 ho rfl hl ?_
  refine r_goto (tgt := 17) C dL_from_10 (by decide) ?_
  refine r_iconst (v := 0) C dL_from_17 (by decide) ?_
  exact r_iret C E dL_from_18 rfl rfl (by omega) (by omega)
theorem w_from_x1 (l : Launch) (G : Gl) {h h1 : Hp} {b o f2 mc2 ms2 : Nat} {a0 a1 : Int32} (M : MRw l G yX11_from (.code yX11_from cX11_from 4 (Option.some Jvm.ClassFile.FieldType.int)) f2 mc2 ms2 [.ref b, .int a0, .int a1] h (.inr (xI, h1))) (hkb : hK h b = 9) : MRw l G yL_from (.codeWith yL_from cL_from 5 (Option.some Jvm.ClassFile.FieldType.int) [(0, 10, 13, 13)]) (f2 + 1) mc2 ms2 [.ref b, .int a0, .int a1, .ref o] h (.inl (some (.int 1), h1)) := by
  refine mr_ofH (by decide +kernel) (Nat.le_of_ble_eq_true rfl) (ct4 (by first | rfl | exact isR_cat (isR_rf _)) (by first | rfl | exact isR_cat (isR_rf _)) (by first | rfl | exact isR_cat (isR_rf _)) (by first | rfl | exact isR_cat (isR_rf _))) (fun X hG hl C E => ?_)
  subst hG hl
  refine r_aload_n (i := 3) C dL_from_0 rfl rfl (by first | rfl | exact isR_rf _) ?_
  refine r_iconst (v := 0) C dL_from_1 (by decide) ?_
  refine r_aload_n (i := 0) C dL_from_2 rfl rfl (by first | rfl | exact isR_rf _) ?_
  refine r_iload_n (i := 1) C dL_from_3 rfl rfl ?_
  refine r_iload_n (i := 2) C dL_from_4 rfl rfl ?_
  refine r_callVc (a0 := 0) (b0 := 10) (hpc := 13) (ct := 13) (i := 4) (la := 2) (hp := []) (hs := []) C v_L_74 M dL_from_5 hkb (ci := 9) (by decide) rfl rfl (As := [_, _]) rfl rfl rfl (Nat.le_refl _) (Nat.le_of_ble_eq_true rfl) (by omega) (by omega) rfl (fun _ z => nomatch z) (by decide) (by decide) c_L_13 (by decide +kernel) (Nat.le_of_ble_eq_true rfl) (Or.inr ⟨dL_from_13, rfl⟩) ?_
  refine r_iconst (v := 1) C dL_from_15 (by decide) ?_
  exact r_iret C E dL_from_16 rfl rfl (by omega) (by omega)
theorem w_lines_v (l : Launch) (G : Gl) {h h1 : Hp} {b o f2 mc2 ms2 : Nat} {a0 : Int32} {v : Int32} (M : MRw l G yX11_lines (.code yX11_lines cX11_lines 2 (Option.some Jvm.ClassFile.FieldType.int)) f2 mc2 ms2 [.ref b, .int a0] h (.inl (some (.int v), h1))) (hkb : hK h b = 9) (ho : hK h1 o = 102) (hl : 0 < hL h1 o) : MRw l G yL_lines (.codeWith yL_lines cL_lines 4 (Option.some Jvm.ClassFile.FieldType.int) [(0, 9, 12, 13)]) (f2 + 1) mc2 ms2 [.ref b, .int a0, .ref o] h (.inl (some (.int 0), (sW h1 o 0 v.toInt64))) := by
  refine mr_ofH (by decide +kernel) (Nat.le_of_ble_eq_true rfl) (ct3 (by first | rfl | exact isR_cat (isR_rf _)) (by first | rfl | exact isR_cat (isR_rf _)) (by first | rfl | exact isR_cat (isR_rf _))) (fun X hG hl C E => ?_)
  subst hG hl
  refine r_aload_n (i := 2) C dL_lines_0 rfl rfl (by first | rfl | exact isR_rf _) ?_
  refine r_iconst (v := 0) C dL_lines_1 (by decide) ?_
  refine r_aload_n (i := 0) C dL_lines_2 rfl rfl (by first | rfl | exact isR_rf _) ?_
  refine r_iload_n (i := 1) C dL_lines_3 rfl rfl ?_
  refine r_callVs C v_L_83 M dL_lines_4 (by assumption) (ci := 9) (by decide) rfl rfl (As := [_]) rfl rfl rfl (by first | exact Nat.le_refl _ | exact Nat.le_of_ble_eq_true rfl | omega) (Nat.le_of_ble_eq_true rfl) (by first | exact Nat.le_refl _ | exact Nat.le_of_ble_eq_true rfl | omega) (by first | exact Nat.le_refl _ | exact Nat.le_of_ble_eq_true rfl | omega) ?_
  refine r_i2l C dL_lines_7 ?_
  refine r_last (a := o) (j := 0) C dL_lines_8 ho rfl hl ?_
  refine r_goto (tgt := 15) C dL_lines_9 (by decide) ?_
  refine r_iconst (v := 0) C dL_lines_15 (by decide) ?_
  exact r_iret C E dL_lines_16 rfl rfl (by omega) (by omega)
theorem w_lines_x1 (l : Launch) (G : Gl) {h h1 : Hp} {b o f2 mc2 ms2 : Nat} {a0 : Int32} (M : MRw l G yX11_lines (.code yX11_lines cX11_lines 2 (Option.some Jvm.ClassFile.FieldType.int)) f2 mc2 ms2 [.ref b, .int a0] h (.inr (xI, h1))) (hkb : hK h b = 9) : MRw l G yL_lines (.codeWith yL_lines cL_lines 4 (Option.some Jvm.ClassFile.FieldType.int) [(0, 9, 12, 13)]) (f2 + 1) mc2 ms2 [.ref b, .int a0, .ref o] h (.inl (some (.int 1), h1)) := by
  refine mr_ofH (by decide +kernel) (Nat.le_of_ble_eq_true rfl) (ct3 (by first | rfl | exact isR_cat (isR_rf _)) (by first | rfl | exact isR_cat (isR_rf _)) (by first | rfl | exact isR_cat (isR_rf _))) (fun X hG hl C E => ?_)
  subst hG hl
  refine r_aload_n (i := 2) C dL_lines_0 rfl rfl (by first | rfl | exact isR_rf _) ?_
  refine r_iconst (v := 0) C dL_lines_1 (by decide) ?_
  refine r_aload_n (i := 0) C dL_lines_2 rfl rfl (by first | rfl | exact isR_rf _) ?_
  refine r_iload_n (i := 1) C dL_lines_3 rfl rfl ?_
  refine r_callVc (a0 := 0) (b0 := 9) (hpc := 12) (ct := 13) (i := 3) (la := 1) (hp := []) (hs := []) C v_L_83 M dL_lines_4 hkb (ci := 9) (by decide) rfl rfl (As := [_]) rfl rfl rfl (Nat.le_refl _) (Nat.le_of_ble_eq_true rfl) (by omega) (by omega) rfl (fun _ z => nomatch z) (by decide) (by decide) c_L_13 (by decide +kernel) (Nat.le_of_ble_eq_true rfl) (Or.inl ⟨3, dL_lines_12, rfl, rfl⟩) ?_
  refine r_iconst (v := 1) C dL_lines_13 (by decide) ?_
  exact r_iret C E dL_lines_14 rfl rfl (by omega) (by omega)
theorem w_part_v (l : Launch) (G : Gl) {h h1 : Hp} {b o f2 mc2 ms2 : Nat} {a0 a1 a2 a3 a4 : Int32} {v : Int32} (M : MRw l G yX11_part (.code yX11_part cX11_part 7 (Option.some Jvm.ClassFile.FieldType.int)) f2 mc2 ms2 [.ref b, .int a0, .int a1, .int a2, .int a3, .int a4] h (.inl (some (.int v), h1))) (hkb : hK h b = 9) (ho : hK h1 o = 102) (hl : 0 < hL h1 o) : MRw l G yL_part (.codeWith yL_part cL_part 8 (Option.some Jvm.ClassFile.FieldType.int) [(0, 16, 19, 13), (0, 16, 23, 15), (0, 16, 27, 17)]) (f2 + 1) mc2 ms2 [.ref b, .int a0, .int a1, .int a2, .int a3, .int a4, .ref o] h (.inl (some (.int 0), (sW h1 o 0 v.toInt64))) := by
  refine mr_ofH (by decide +kernel) (Nat.le_of_ble_eq_true rfl) (ct7 (by first | rfl | exact isR_cat (isR_rf _)) (by first | rfl | exact isR_cat (isR_rf _)) (by first | rfl | exact isR_cat (isR_rf _)) (by first | rfl | exact isR_cat (isR_rf _)) (by first | rfl | exact isR_cat (isR_rf _)) (by first | rfl | exact isR_cat (isR_rf _)) (by first | rfl | exact isR_cat (isR_rf _))) (fun X hG hl C E => ?_)
  subst hG hl
  refine r_aload (i := 6) C dL_part_0 rfl (by first | rfl | exact isR_rf _) ?_
  refine r_iconst (v := 0) C dL_part_2 (by decide) ?_
  refine r_aload_n (i := 0) C dL_part_3 rfl rfl (by first | rfl | exact isR_rf _) ?_
  refine r_iload_n (i := 1) C dL_part_4 rfl rfl ?_
  refine r_iload_n (i := 2) C dL_part_5 rfl rfl ?_
  refine r_iload_n (i := 3) C dL_part_6 rfl rfl ?_
  refine r_iload (i := 4) C dL_part_7 rfl ?_
  refine r_iload (i := 5) C dL_part_9 rfl ?_
  refine r_callVs C v_L_41 M dL_part_11 (by assumption) (ci := 9) (by decide) rfl rfl (As := [_, _, _, _, _]) rfl rfl rfl (by first | exact Nat.le_refl _ | exact Nat.le_of_ble_eq_true rfl | omega) (Nat.le_of_ble_eq_true rfl) (by first | exact Nat.le_refl _ | exact Nat.le_of_ble_eq_true rfl | omega) (by first | exact Nat.le_refl _ | exact Nat.le_of_ble_eq_true rfl | omega) ?_
  refine r_i2l C dL_part_14 ?_
  refine r_last (a := o) (j := 0) C dL_part_15 ho rfl hl ?_
  refine r_goto (tgt := 31) C dL_part_16 (by decide) ?_
  refine r_iconst (v := 0) C dL_part_31 (by decide) ?_
  exact r_iret C E dL_part_32 rfl rfl (by omega) (by omega)
theorem w_part_x1 (l : Launch) (G : Gl) {h h1 : Hp} {b o f2 mc2 ms2 : Nat} {a0 a1 a2 a3 a4 : Int32} (M : MRw l G yX11_part (.code yX11_part cX11_part 7 (Option.some Jvm.ClassFile.FieldType.int)) f2 mc2 ms2 [.ref b, .int a0, .int a1, .int a2, .int a3, .int a4] h (.inr (xI, h1))) (hkb : hK h b = 9) : MRw l G yL_part (.codeWith yL_part cL_part 8 (Option.some Jvm.ClassFile.FieldType.int) [(0, 16, 19, 13), (0, 16, 23, 15), (0, 16, 27, 17)]) (f2 + 1) mc2 ms2 [.ref b, .int a0, .int a1, .int a2, .int a3, .int a4, .ref o] h (.inl (some (.int 1), h1)) := by
  refine mr_ofH (by decide +kernel) (Nat.le_of_ble_eq_true rfl) (ct7 (by first | rfl | exact isR_cat (isR_rf _)) (by first | rfl | exact isR_cat (isR_rf _)) (by first | rfl | exact isR_cat (isR_rf _)) (by first | rfl | exact isR_cat (isR_rf _)) (by first | rfl | exact isR_cat (isR_rf _)) (by first | rfl | exact isR_cat (isR_rf _)) (by first | rfl | exact isR_cat (isR_rf _))) (fun X hG hl C E => ?_)
  subst hG hl
  refine r_aload (i := 6) C dL_part_0 rfl (by first | rfl | exact isR_rf _) ?_
  refine r_iconst (v := 0) C dL_part_2 (by decide) ?_
  refine r_aload_n (i := 0) C dL_part_3 rfl rfl (by first | rfl | exact isR_rf _) ?_
  refine r_iload_n (i := 1) C dL_part_4 rfl rfl ?_
  refine r_iload_n (i := 2) C dL_part_5 rfl rfl ?_
  refine r_iload_n (i := 3) C dL_part_6 rfl rfl ?_
  refine r_iload (i := 4) C dL_part_7 rfl ?_
  refine r_iload (i := 5) C dL_part_9 rfl ?_
  refine r_callVc (a0 := 0) (b0 := 16) (hpc := 19) (ct := 13) (i := 7) (la := 2) (hp := []) (hs := [(0, 16, 23, 15), (0, 16, 27, 17)]) C v_L_41 M dL_part_11 hkb (ci := 9) (by decide) rfl rfl (As := [_, _, _, _, _]) rfl rfl rfl (Nat.le_refl _) (Nat.le_of_ble_eq_true rfl) (by omega) (by omega) rfl (fun _ z => nomatch z) (by decide) (by decide) c_L_13 (by decide +kernel) (Nat.le_of_ble_eq_true rfl) (Or.inr ⟨dL_part_19, rfl⟩) ?_
  refine r_iconst (v := 1) C dL_part_21 (by decide) ?_
  exact r_iret C E dL_part_22 rfl rfl (by omega) (by omega)
theorem w_part_x2 (l : Launch) (G : Gl) {h h1 : Hp} {b o f2 mc2 ms2 : Nat} {a0 a1 a2 a3 a4 : Int32} (M : MRw l G yX11_part (.code yX11_part cX11_part 7 (Option.some Jvm.ClassFile.FieldType.int)) f2 mc2 ms2 [.ref b, .int a0, .int a1, .int a2, .int a3, .int a4] h (.inr (xA, h1))) (hkb : hK h b = 9) : MRw l G yL_part (.codeWith yL_part cL_part 8 (Option.some Jvm.ClassFile.FieldType.int) [(0, 16, 19, 13), (0, 16, 23, 15), (0, 16, 27, 17)]) (f2 + 1) mc2 ms2 [.ref b, .int a0, .int a1, .int a2, .int a3, .int a4, .ref o] h (.inl (some (.int 2), h1)) := by
  refine mr_ofH (by decide +kernel) (Nat.le_of_ble_eq_true rfl) (ct7 (by first | rfl | exact isR_cat (isR_rf _)) (by first | rfl | exact isR_cat (isR_rf _)) (by first | rfl | exact isR_cat (isR_rf _)) (by first | rfl | exact isR_cat (isR_rf _)) (by first | rfl | exact isR_cat (isR_rf _)) (by first | rfl | exact isR_cat (isR_rf _)) (by first | rfl | exact isR_cat (isR_rf _))) (fun X hG hl C E => ?_)
  subst hG hl
  refine r_aload (i := 6) C dL_part_0 rfl (by first | rfl | exact isR_rf _) ?_
  refine r_iconst (v := 0) C dL_part_2 (by decide) ?_
  refine r_aload_n (i := 0) C dL_part_3 rfl rfl (by first | rfl | exact isR_rf _) ?_
  refine r_iload_n (i := 1) C dL_part_4 rfl rfl ?_
  refine r_iload_n (i := 2) C dL_part_5 rfl rfl ?_
  refine r_iload_n (i := 3) C dL_part_6 rfl rfl ?_
  refine r_iload (i := 4) C dL_part_7 rfl ?_
  refine r_iload (i := 5) C dL_part_9 rfl ?_
  refine r_callVc (a0 := 0) (b0 := 16) (hpc := 23) (ct := 15) (i := 7) (la := 2) (hp := [(0, 16, 19, 13)]) (hs := [(0, 16, 27, 17)]) C v_L_41 M dL_part_11 hkb (ci := 9) (by decide) rfl rfl (As := [_, _, _, _, _]) rfl rfl rfl (Nat.le_refl _) (Nat.le_of_ble_eq_true rfl) (by omega) (by omega) rfl (List.forall_mem_cons.mpr ⟨⟨by decide, _, c_L_13, by decide +kernel⟩, (fun _ z => nomatch z)⟩) (by decide) (by decide) c_L_15 (by decide +kernel) (Nat.le_of_ble_eq_true rfl) (Or.inr ⟨dL_part_23, rfl⟩) ?_
  refine r_iconst (v := 2) C dL_part_25 (by decide) ?_
  exact r_iret C E dL_part_26 rfl rfl (by omega) (by omega)
theorem w_part_x3 (l : Launch) (G : Gl) {h h1 : Hp} {b o f2 mc2 ms2 : Nat} {a0 a1 a2 a3 a4 : Int32} (M : MRw l G yX11_part (.code yX11_part cX11_part 7 (Option.some Jvm.ClassFile.FieldType.int)) f2 mc2 ms2 [.ref b, .int a0, .int a1, .int a2, .int a3, .int a4] h (.inr (xS, h1))) (hkb : hK h b = 9) : MRw l G yL_part (.codeWith yL_part cL_part 8 (Option.some Jvm.ClassFile.FieldType.int) [(0, 16, 19, 13), (0, 16, 23, 15), (0, 16, 27, 17)]) (f2 + 1) mc2 ms2 [.ref b, .int a0, .int a1, .int a2, .int a3, .int a4, .ref o] h (.inl (some (.int 3), h1)) := by
  refine mr_ofH (by decide +kernel) (Nat.le_of_ble_eq_true rfl) (ct7 (by first | rfl | exact isR_cat (isR_rf _)) (by first | rfl | exact isR_cat (isR_rf _)) (by first | rfl | exact isR_cat (isR_rf _)) (by first | rfl | exact isR_cat (isR_rf _)) (by first | rfl | exact isR_cat (isR_rf _)) (by first | rfl | exact isR_cat (isR_rf _)) (by first | rfl | exact isR_cat (isR_rf _))) (fun X hG hl C E => ?_)
  subst hG hl
  refine r_aload (i := 6) C dL_part_0 rfl (by first | rfl | exact isR_rf _) ?_
  refine r_iconst (v := 0) C dL_part_2 (by decide) ?_
  refine r_aload_n (i := 0) C dL_part_3 rfl rfl (by first | rfl | exact isR_rf _) ?_
  refine r_iload_n (i := 1) C dL_part_4 rfl rfl ?_
  refine r_iload_n (i := 2) C dL_part_5 rfl rfl ?_
  refine r_iload_n (i := 3) C dL_part_6 rfl rfl ?_
  refine r_iload (i := 4) C dL_part_7 rfl ?_
  refine r_iload (i := 5) C dL_part_9 rfl ?_
  refine r_callVc (a0 := 0) (b0 := 16) (hpc := 27) (ct := 17) (i := 7) (la := 2) (hp := [(0, 16, 19, 13), (0, 16, 23, 15)]) (hs := []) C v_L_41 M dL_part_11 hkb (ci := 9) (by decide) rfl rfl (As := [_, _, _, _, _]) rfl rfl rfl (Nat.le_refl _) (Nat.le_of_ble_eq_true rfl) (by omega) (by omega) rfl (List.forall_mem_cons.mpr ⟨⟨by decide, _, c_L_13, by decide +kernel⟩, (List.forall_mem_cons.mpr ⟨⟨by decide, _, c_L_15, by decide +kernel⟩, (fun _ z => nomatch z)⟩)⟩) (by decide) (by decide) c_L_17 (by decide +kernel) (Nat.le_of_ble_eq_true rfl) (Or.inr ⟨dL_part_27, rfl⟩) ?_
  refine r_iconst (v := 3) C dL_part_29 (by decide) ?_
  exact r_iret C E dL_part_30 rfl rfl (by omega) (by omega)
theorem w_refer_v (l : Launch) (G : Gl) {h h1 : Hp} {b o f2 mc2 ms2 : Nat} {a0 a1 a2 a3 : Int32} {v : Int32} (M : MRw l G yX11_refer (.code yX11_refer cX11_refer 6 (Option.some Jvm.ClassFile.FieldType.int)) f2 mc2 ms2 [.ref b, .int a0, .int a1, .int a2, .int a3] h (.inl (some (.int v), h1))) (hkb : hK h b = 9) (ho : hK h1 o = 102) (hl : 0 < hL h1 o) : MRw l G yL_refer (.codeWith yL_refer cL_refer 7 (Option.some Jvm.ClassFile.FieldType.int) [(0, 14, 17, 13), (0, 14, 21, 15), (0, 14, 25, 17)]) (f2 + 1) mc2 ms2 [.ref b, .int a0, .int a1, .int a2, .int a3, .ref o] h (.inl (some (.int 0), (sW h1 o 0 v.toInt64))) := by
  refine mr_ofH (by decide +kernel) (Nat.le_of_ble_eq_true rfl) (ct6 (by first | rfl | exact isR_cat (isR_rf _)) (by first | rfl | exact isR_cat (isR_rf _)) (by first | rfl | exact isR_cat (isR_rf _)) (by first | rfl | exact isR_cat (isR_rf _)) (by first | rfl | exact isR_cat (isR_rf _)) (by first | rfl | exact isR_cat (isR_rf _))) (fun X hG hl C E => ?_)
  subst hG hl
  refine r_aload (i := 5) C dL_refer_0 rfl (by first | rfl | exact isR_rf _) ?_
  refine r_iconst (v := 0) C dL_refer_2 (by decide) ?_
  refine r_aload_n (i := 0) C dL_refer_3 rfl rfl (by first | rfl | exact isR_rf _) ?_
  refine r_iload_n (i := 1) C dL_refer_4 rfl rfl ?_
  refine r_iload_n (i := 2) C dL_refer_5 rfl rfl ?_
  refine r_iload_n (i := 3) C dL_refer_6 rfl rfl ?_
  refine r_iload (i := 4) C dL_refer_7 rfl ?_
  refine r_callVs C v_L_54 M dL_refer_9 (by assumption) (ci := 9) (by decide) rfl rfl (As := [_, _, _, _]) rfl rfl rfl (by first | exact Nat.le_refl _ | exact Nat.le_of_ble_eq_true rfl | omega) (Nat.le_of_ble_eq_true rfl) (by first | exact Nat.le_refl _ | exact Nat.le_of_ble_eq_true rfl | omega) (by first | exact Nat.le_refl _ | exact Nat.le_of_ble_eq_true rfl | omega) ?_
  refine r_i2l C dL_refer_12 ?_
  refine r_last (a := o) (j := 0) C dL_refer_13 ho rfl hl ?_
  refine r_goto (tgt := 29) C dL_refer_14 (by decide) ?_
  refine r_iconst (v := 0) C dL_refer_29 (by decide) ?_
  exact r_iret C E dL_refer_30 rfl rfl (by omega) (by omega)
theorem w_refer_x1 (l : Launch) (G : Gl) {h h1 : Hp} {b o f2 mc2 ms2 : Nat} {a0 a1 a2 a3 : Int32} (M : MRw l G yX11_refer (.code yX11_refer cX11_refer 6 (Option.some Jvm.ClassFile.FieldType.int)) f2 mc2 ms2 [.ref b, .int a0, .int a1, .int a2, .int a3] h (.inr (xI, h1))) (hkb : hK h b = 9) : MRw l G yL_refer (.codeWith yL_refer cL_refer 7 (Option.some Jvm.ClassFile.FieldType.int) [(0, 14, 17, 13), (0, 14, 21, 15), (0, 14, 25, 17)]) (f2 + 1) mc2 ms2 [.ref b, .int a0, .int a1, .int a2, .int a3, .ref o] h (.inl (some (.int 1), h1)) := by
  refine mr_ofH (by decide +kernel) (Nat.le_of_ble_eq_true rfl) (ct6 (by first | rfl | exact isR_cat (isR_rf _)) (by first | rfl | exact isR_cat (isR_rf _)) (by first | rfl | exact isR_cat (isR_rf _)) (by first | rfl | exact isR_cat (isR_rf _)) (by first | rfl | exact isR_cat (isR_rf _)) (by first | rfl | exact isR_cat (isR_rf _))) (fun X hG hl C E => ?_)
  subst hG hl
  refine r_aload (i := 5) C dL_refer_0 rfl (by first | rfl | exact isR_rf _) ?_
  refine r_iconst (v := 0) C dL_refer_2 (by decide) ?_
  refine r_aload_n (i := 0) C dL_refer_3 rfl rfl (by first | rfl | exact isR_rf _) ?_
  refine r_iload_n (i := 1) C dL_refer_4 rfl rfl ?_
  refine r_iload_n (i := 2) C dL_refer_5 rfl rfl ?_
  refine r_iload_n (i := 3) C dL_refer_6 rfl rfl ?_
  refine r_iload (i := 4) C dL_refer_7 rfl ?_
  refine r_callVc (a0 := 0) (b0 := 14) (hpc := 17) (ct := 13) (i := 6) (la := 2) (hp := []) (hs := [(0, 14, 21, 15), (0, 14, 25, 17)]) C v_L_54 M dL_refer_9 hkb (ci := 9) (by decide) rfl rfl (As := [_, _, _, _]) rfl rfl rfl (Nat.le_refl _) (Nat.le_of_ble_eq_true rfl) (by omega) (by omega) rfl (fun _ z => nomatch z) (by decide) (by decide) c_L_13 (by decide +kernel) (Nat.le_of_ble_eq_true rfl) (Or.inr ⟨dL_refer_17, rfl⟩) ?_
  refine r_iconst (v := 1) C dL_refer_19 (by decide) ?_
  exact r_iret C E dL_refer_20 rfl rfl (by omega) (by omega)
theorem w_refer_x2 (l : Launch) (G : Gl) {h h1 : Hp} {b o f2 mc2 ms2 : Nat} {a0 a1 a2 a3 : Int32} (M : MRw l G yX11_refer (.code yX11_refer cX11_refer 6 (Option.some Jvm.ClassFile.FieldType.int)) f2 mc2 ms2 [.ref b, .int a0, .int a1, .int a2, .int a3] h (.inr (xA, h1))) (hkb : hK h b = 9) : MRw l G yL_refer (.codeWith yL_refer cL_refer 7 (Option.some Jvm.ClassFile.FieldType.int) [(0, 14, 17, 13), (0, 14, 21, 15), (0, 14, 25, 17)]) (f2 + 1) mc2 ms2 [.ref b, .int a0, .int a1, .int a2, .int a3, .ref o] h (.inl (some (.int 2), h1)) := by
  refine mr_ofH (by decide +kernel) (Nat.le_of_ble_eq_true rfl) (ct6 (by first | rfl | exact isR_cat (isR_rf _)) (by first | rfl | exact isR_cat (isR_rf _)) (by first | rfl | exact isR_cat (isR_rf _)) (by first | rfl | exact isR_cat (isR_rf _)) (by first | rfl | exact isR_cat (isR_rf _)) (by first | rfl | exact isR_cat (isR_rf _))) (fun X hG hl C E => ?_)
  subst hG hl
  refine r_aload (i := 5) C dL_refer_0 rfl (by first | rfl | exact isR_rf _) ?_
  refine r_iconst (v := 0) C dL_refer_2 (by decide) ?_
  refine r_aload_n (i := 0) C dL_refer_3 rfl rfl (by first | rfl | exact isR_rf _) ?_
  refine r_iload_n (i := 1) C dL_refer_4 rfl rfl ?_
  refine r_iload_n (i := 2) C dL_refer_5 rfl rfl ?_
  refine r_iload_n (i := 3) C dL_refer_6 rfl rfl ?_
  refine r_iload (i := 4) C dL_refer_7 rfl ?_
  refine r_callVc (a0 := 0) (b0 := 14) (hpc := 21) (ct := 15) (i := 6) (la := 2) (hp := [(0, 14, 17, 13)]) (hs := [(0, 14, 25, 17)]) C v_L_54 M dL_refer_9 hkb (ci := 9) (by decide) rfl rfl (As := [_, _, _, _]) rfl rfl rfl (Nat.le_refl _) (Nat.le_of_ble_eq_true rfl) (by omega) (by omega) rfl (List.forall_mem_cons.mpr ⟨⟨by decide, _, c_L_13, by decide +kernel⟩, (fun _ z => nomatch z)⟩) (by decide) (by decide) c_L_15 (by decide +kernel) (Nat.le_of_ble_eq_true rfl) (Or.inr ⟨dL_refer_21, rfl⟩) ?_
  refine r_iconst (v := 2) C dL_refer_23 (by decide) ?_
  exact r_iret C E dL_refer_24 rfl rfl (by omega) (by omega)
theorem w_refer_x3 (l : Launch) (G : Gl) {h h1 : Hp} {b o f2 mc2 ms2 : Nat} {a0 a1 a2 a3 : Int32} (M : MRw l G yX11_refer (.code yX11_refer cX11_refer 6 (Option.some Jvm.ClassFile.FieldType.int)) f2 mc2 ms2 [.ref b, .int a0, .int a1, .int a2, .int a3] h (.inr (xS, h1))) (hkb : hK h b = 9) : MRw l G yL_refer (.codeWith yL_refer cL_refer 7 (Option.some Jvm.ClassFile.FieldType.int) [(0, 14, 17, 13), (0, 14, 21, 15), (0, 14, 25, 17)]) (f2 + 1) mc2 ms2 [.ref b, .int a0, .int a1, .int a2, .int a3, .ref o] h (.inl (some (.int 3), h1)) := by
  refine mr_ofH (by decide +kernel) (Nat.le_of_ble_eq_true rfl) (ct6 (by first | rfl | exact isR_cat (isR_rf _)) (by first | rfl | exact isR_cat (isR_rf _)) (by first | rfl | exact isR_cat (isR_rf _)) (by first | rfl | exact isR_cat (isR_rf _)) (by first | rfl | exact isR_cat (isR_rf _)) (by first | rfl | exact isR_cat (isR_rf _))) (fun X hG hl C E => ?_)
  subst hG hl
  refine r_aload (i := 5) C dL_refer_0 rfl (by first | rfl | exact isR_rf _) ?_
  refine r_iconst (v := 0) C dL_refer_2 (by decide) ?_
  refine r_aload_n (i := 0) C dL_refer_3 rfl rfl (by first | rfl | exact isR_rf _) ?_
  refine r_iload_n (i := 1) C dL_refer_4 rfl rfl ?_
  refine r_iload_n (i := 2) C dL_refer_5 rfl rfl ?_
  refine r_iload_n (i := 3) C dL_refer_6 rfl rfl ?_
  refine r_iload (i := 4) C dL_refer_7 rfl ?_
  refine r_callVc (a0 := 0) (b0 := 14) (hpc := 25) (ct := 17) (i := 6) (la := 2) (hp := [(0, 14, 17, 13), (0, 14, 21, 15)]) (hs := []) C v_L_54 M dL_refer_9 hkb (ci := 9) (by decide) rfl rfl (As := [_, _, _, _]) rfl rfl rfl (Nat.le_refl _) (Nat.le_of_ble_eq_true rfl) (by omega) (by omega) rfl (List.forall_mem_cons.mpr ⟨⟨by decide, _, c_L_13, by decide +kernel⟩, (List.forall_mem_cons.mpr ⟨⟨by decide, _, c_L_15, by decide +kernel⟩, (fun _ z => nomatch z)⟩)⟩) (by decide) (by decide) c_L_17 (by decide +kernel) (Nat.le_of_ble_eq_true rfl) (Or.inr ⟨dL_refer_25, rfl⟩) ?_
  refine r_iconst (v := 3) C dL_refer_27 (by decide) ?_
  exact r_iret C E dL_refer_28 rfl rfl (by omega) (by omega)
theorem w_remove_v (l : Launch) (G : Gl) {h h1 : Hp} {b o f2 mc2 ms2 : Nat} {a0 : Int32} {v : Int32} (M : MRw l G yX11_remove (.code yX11_remove cX11_remove 4 (Option.some Jvm.ClassFile.FieldType.int)) f2 mc2 ms2 [.ref b, .int a0] h (.inl (some (.int v), h1))) (hkb : hK h b = 9) (ho : hK h1 o = 102) (hl : 0 < hL h1 o) : MRw l G yL_remove (.codeWith yL_remove cL_remove 4 (Option.some Jvm.ClassFile.FieldType.int) [(0, 9, 12, 13), (0, 9, 15, 17)]) (f2 + 1) mc2 ms2 [.ref b, .int a0, .ref o] h (.inl (some (.int 0), (sW h1 o 0 v.toInt64))) := by
  refine mr_ofH (by decide +kernel) (Nat.le_of_ble_eq_true rfl) (ct3 (by first | rfl | exact isR_cat (isR_rf _)) (by first | rfl | exact isR_cat (isR_rf _)) (by first | rfl | exact isR_cat (isR_rf _))) (fun X hG hl C E => ?_)
  subst hG hl
  refine r_aload_n (i := 2) C dL_remove_0 rfl rfl (by first | rfl | exact isR_rf _) ?_
  refine r_iconst (v := 0) C dL_remove_1 (by decide) ?_
  refine r_aload_n (i := 0) C dL_remove_2 rfl rfl (by first | rfl | exact isR_rf _) ?_
  refine r_iload_n (i := 1) C dL_remove_3 rfl rfl ?_
  refine r_callVs C v_L_19 M dL_remove_4 (by assumption) (ci := 9) (by decide) rfl rfl (As := [_]) rfl rfl rfl (by first | exact Nat.le_refl _ | exact Nat.le_of_ble_eq_true rfl | omega) (Nat.le_of_ble_eq_true rfl) (by first | exact Nat.le_refl _ | exact Nat.le_of_ble_eq_true rfl | omega) (by first | exact Nat.le_refl _ | exact Nat.le_of_ble_eq_true rfl | omega) ?_
  refine r_i2l C dL_remove_7 ?_
  refine r_last (a := o) (j := 0) C dL_remove_8 ho rfl hl ?_
  refine r_goto (tgt := 18) C dL_remove_9 (by decide) ?_
  refine r_iconst (v := 0) C dL_remove_18 (by decide) ?_
  exact r_iret C E dL_remove_19 rfl rfl (by omega) (by omega)
theorem w_remove_x1 (l : Launch) (G : Gl) {h h1 : Hp} {b o f2 mc2 ms2 : Nat} {a0 : Int32} (M : MRw l G yX11_remove (.code yX11_remove cX11_remove 4 (Option.some Jvm.ClassFile.FieldType.int)) f2 mc2 ms2 [.ref b, .int a0] h (.inr (xI, h1))) (hkb : hK h b = 9) : MRw l G yL_remove (.codeWith yL_remove cL_remove 4 (Option.some Jvm.ClassFile.FieldType.int) [(0, 9, 12, 13), (0, 9, 15, 17)]) (f2 + 1) mc2 ms2 [.ref b, .int a0, .ref o] h (.inl (some (.int 1), h1)) := by
  refine mr_ofH (by decide +kernel) (Nat.le_of_ble_eq_true rfl) (ct3 (by first | rfl | exact isR_cat (isR_rf _)) (by first | rfl | exact isR_cat (isR_rf _)) (by first | rfl | exact isR_cat (isR_rf _))) (fun X hG hl C E => ?_)
  subst hG hl
  refine r_aload_n (i := 2) C dL_remove_0 rfl rfl (by first | rfl | exact isR_rf _) ?_
  refine r_iconst (v := 0) C dL_remove_1 (by decide) ?_
  refine r_aload_n (i := 0) C dL_remove_2 rfl rfl (by first | rfl | exact isR_rf _) ?_
  refine r_iload_n (i := 1) C dL_remove_3 rfl rfl ?_
  refine r_callVc (a0 := 0) (b0 := 9) (hpc := 12) (ct := 13) (i := 3) (la := 1) (hp := []) (hs := [(0, 9, 15, 17)]) C v_L_19 M dL_remove_4 hkb (ci := 9) (by decide) rfl rfl (As := [_]) rfl rfl rfl (Nat.le_refl _) (Nat.le_of_ble_eq_true rfl) (by omega) (by omega) rfl (fun _ z => nomatch z) (by decide) (by decide) c_L_13 (by decide +kernel) (Nat.le_of_ble_eq_true rfl) (Or.inl ⟨3, dL_remove_12, rfl, rfl⟩) ?_
  refine r_iconst (v := 1) C dL_remove_13 (by decide) ?_
  exact r_iret C E dL_remove_14 rfl rfl (by omega) (by omega)
theorem w_remove_x2 (l : Launch) (G : Gl) {h h1 : Hp} {b o f2 mc2 ms2 : Nat} {a0 : Int32} (M : MRw l G yX11_remove (.code yX11_remove cX11_remove 4 (Option.some Jvm.ClassFile.FieldType.int)) f2 mc2 ms2 [.ref b, .int a0] h (.inr (xS, h1))) (hkb : hK h b = 9) : MRw l G yL_remove (.codeWith yL_remove cL_remove 4 (Option.some Jvm.ClassFile.FieldType.int) [(0, 9, 12, 13), (0, 9, 15, 17)]) (f2 + 1) mc2 ms2 [.ref b, .int a0, .ref o] h (.inl (some (.int 2), h1)) := by
  refine mr_ofH (by decide +kernel) (Nat.le_of_ble_eq_true rfl) (ct3 (by first | rfl | exact isR_cat (isR_rf _)) (by first | rfl | exact isR_cat (isR_rf _)) (by first | rfl | exact isR_cat (isR_rf _))) (fun X hG hl C E => ?_)
  subst hG hl
  refine r_aload_n (i := 2) C dL_remove_0 rfl rfl (by first | rfl | exact isR_rf _) ?_
  refine r_iconst (v := 0) C dL_remove_1 (by decide) ?_
  refine r_aload_n (i := 0) C dL_remove_2 rfl rfl (by first | rfl | exact isR_rf _) ?_
  refine r_iload_n (i := 1) C dL_remove_3 rfl rfl ?_
  refine r_callVc (a0 := 0) (b0 := 9) (hpc := 15) (ct := 17) (i := 3) (la := 1) (hp := [(0, 9, 12, 13)]) (hs := []) C v_L_19 M dL_remove_4 hkb (ci := 9) (by decide) rfl rfl (As := [_]) rfl rfl rfl (Nat.le_refl _) (Nat.le_of_ble_eq_true rfl) (by omega) (by omega) rfl (List.forall_mem_cons.mpr ⟨⟨by decide, _, c_L_13, by decide +kernel⟩, (fun _ z => nomatch z)⟩) (by decide) (by decide) c_L_17 (by decide +kernel) (Nat.le_of_ble_eq_true rfl) (Or.inl ⟨3, dL_remove_15, rfl, rfl⟩) ?_
  refine r_iconst (v := 2) C dL_remove_16 (by decide) ?_
  exact r_iret C E dL_remove_17 rfl rfl (by omega) (by omega)
theorem w_rule_v (l : Launch) (G : Gl) {h h1 : Hp} {b o f2 mc2 ms2 : Nat} {a0 a1 a2 a3 a4 a5 : Int32} {v : Int32} (M : MRw l G yX11_rule (.code yX11_rule cX11_rule 8 (Option.some Jvm.ClassFile.FieldType.int)) f2 mc2 ms2 [.ref b, .int a0, .int a1, .int a2, .int a3, .int a4, .int a5] h (.inl (some (.int v), h1))) (hkb : hK h b = 9) (ho : hK h1 o = 102) (hl : 0 < hL h1 o) : MRw l G yL_rule (.codeWith yL_rule cL_rule 9 (Option.some Jvm.ClassFile.FieldType.int) [(0, 18, 21, 15), (0, 18, 25, 17)]) (f2 + 1) mc2 ms2 [.ref b, .int a0, .int a1, .int a2, .int a3, .int a4, .int a5, .ref o] h (.inl (some (.int 0), (sW h1 o 0 v.toInt64))) := by
  refine mr_ofH (by decide +kernel) (Nat.le_of_ble_eq_true rfl) (ct8 (by first | rfl | exact isR_cat (isR_rf _)) (by first | rfl | exact isR_cat (isR_rf _)) (by first | rfl | exact isR_cat (isR_rf _)) (by first | rfl | exact isR_cat (isR_rf _)) (by first | rfl | exact isR_cat (isR_rf _)) (by first | rfl | exact isR_cat (isR_rf _)) (by first | rfl | exact isR_cat (isR_rf _)) (by first | rfl | exact isR_cat (isR_rf _))) (fun X hG hl C E => ?_)
  subst hG hl
  refine r_aload (i := 7) C dL_rule_0 rfl (by first | rfl | exact isR_rf _) ?_
  refine r_iconst (v := 0) C dL_rule_2 (by decide) ?_
  refine r_aload_n (i := 0) C dL_rule_3 rfl rfl (by first | rfl | exact isR_rf _) ?_
  refine r_iload_n (i := 1) C dL_rule_4 rfl rfl ?_
  refine r_iload_n (i := 2) C dL_rule_5 rfl rfl ?_
  refine r_iload_n (i := 3) C dL_rule_6 rfl rfl ?_
  refine r_iload (i := 4) C dL_rule_7 rfl ?_
  refine r_iload (i := 5) C dL_rule_9 rfl ?_
  refine r_iload (i := 6) C dL_rule_11 rfl ?_
  refine r_callVs C v_L_37 M dL_rule_13 (by assumption) (ci := 9) (by decide) rfl rfl (As := [_, _, _, _, _, _]) rfl rfl rfl (by first | exact Nat.le_refl _ | exact Nat.le_of_ble_eq_true rfl | omega) (Nat.le_of_ble_eq_true rfl) (by first | exact Nat.le_refl _ | exact Nat.le_of_ble_eq_true rfl | omega) (by first | exact Nat.le_refl _ | exact Nat.le_of_ble_eq_true rfl | omega) ?_
  refine r_i2l C dL_rule_16 ?_
  refine r_last (a := o) (j := 0) C dL_rule_17 ho rfl hl ?_
  refine r_goto (tgt := 29) C dL_rule_18 (by decide) ?_
  refine r_iconst (v := 0) C dL_rule_29 (by decide) ?_
  exact r_iret C E dL_rule_30 rfl rfl (by omega) (by omega)
theorem w_rule_x1 (l : Launch) (G : Gl) {h h1 : Hp} {b o f2 mc2 ms2 : Nat} {a0 a1 a2 a3 a4 a5 : Int32} (M : MRw l G yX11_rule (.code yX11_rule cX11_rule 8 (Option.some Jvm.ClassFile.FieldType.int)) f2 mc2 ms2 [.ref b, .int a0, .int a1, .int a2, .int a3, .int a4, .int a5] h (.inr (xA, h1))) (hkb : hK h b = 9) : MRw l G yL_rule (.codeWith yL_rule cL_rule 9 (Option.some Jvm.ClassFile.FieldType.int) [(0, 18, 21, 15), (0, 18, 25, 17)]) (f2 + 1) mc2 ms2 [.ref b, .int a0, .int a1, .int a2, .int a3, .int a4, .int a5, .ref o] h (.inl (some (.int 1), h1)) := by
  refine mr_ofH (by decide +kernel) (Nat.le_of_ble_eq_true rfl) (ct8 (by first | rfl | exact isR_cat (isR_rf _)) (by first | rfl | exact isR_cat (isR_rf _)) (by first | rfl | exact isR_cat (isR_rf _)) (by first | rfl | exact isR_cat (isR_rf _)) (by first | rfl | exact isR_cat (isR_rf _)) (by first | rfl | exact isR_cat (isR_rf _)) (by first | rfl | exact isR_cat (isR_rf _)) (by first | rfl | exact isR_cat (isR_rf _))) (fun X hG hl C E => ?_)
  subst hG hl
  refine r_aload (i := 7) C dL_rule_0 rfl (by first | rfl | exact isR_rf _) ?_
  refine r_iconst (v := 0) C dL_rule_2 (by decide) ?_
  refine r_aload_n (i := 0) C dL_rule_3 rfl rfl (by first | rfl | exact isR_rf _) ?_
  refine r_iload_n (i := 1) C dL_rule_4 rfl rfl ?_
  refine r_iload_n (i := 2) C dL_rule_5 rfl rfl ?_
  refine r_iload_n (i := 3) C dL_rule_6 rfl rfl ?_
  refine r_iload (i := 4) C dL_rule_7 rfl ?_
  refine r_iload (i := 5) C dL_rule_9 rfl ?_
  refine r_iload (i := 6) C dL_rule_11 rfl ?_
  refine r_callVc (a0 := 0) (b0 := 18) (hpc := 21) (ct := 15) (i := 8) (la := 2) (hp := []) (hs := [(0, 18, 25, 17)]) C v_L_37 M dL_rule_13 hkb (ci := 9) (by decide) rfl rfl (As := [_, _, _, _, _, _]) rfl rfl rfl (Nat.le_refl _) (Nat.le_of_ble_eq_true rfl) (by omega) (by omega) rfl (fun _ z => nomatch z) (by decide) (by decide) c_L_15 (by decide +kernel) (Nat.le_of_ble_eq_true rfl) (Or.inr ⟨dL_rule_21, rfl⟩) ?_
  refine r_iconst (v := 1) C dL_rule_23 (by decide) ?_
  exact r_iret C E dL_rule_24 rfl rfl (by omega) (by omega)
theorem w_rule_x2 (l : Launch) (G : Gl) {h h1 : Hp} {b o f2 mc2 ms2 : Nat} {a0 a1 a2 a3 a4 a5 : Int32} (M : MRw l G yX11_rule (.code yX11_rule cX11_rule 8 (Option.some Jvm.ClassFile.FieldType.int)) f2 mc2 ms2 [.ref b, .int a0, .int a1, .int a2, .int a3, .int a4, .int a5] h (.inr (xS, h1))) (hkb : hK h b = 9) : MRw l G yL_rule (.codeWith yL_rule cL_rule 9 (Option.some Jvm.ClassFile.FieldType.int) [(0, 18, 21, 15), (0, 18, 25, 17)]) (f2 + 1) mc2 ms2 [.ref b, .int a0, .int a1, .int a2, .int a3, .int a4, .int a5, .ref o] h (.inl (some (.int 2), h1)) := by
  refine mr_ofH (by decide +kernel) (Nat.le_of_ble_eq_true rfl) (ct8 (by first | rfl | exact isR_cat (isR_rf _)) (by first | rfl | exact isR_cat (isR_rf _)) (by first | rfl | exact isR_cat (isR_rf _)) (by first | rfl | exact isR_cat (isR_rf _)) (by first | rfl | exact isR_cat (isR_rf _)) (by first | rfl | exact isR_cat (isR_rf _)) (by first | rfl | exact isR_cat (isR_rf _)) (by first | rfl | exact isR_cat (isR_rf _))) (fun X hG hl C E => ?_)
  subst hG hl
  refine r_aload (i := 7) C dL_rule_0 rfl (by first | rfl | exact isR_rf _) ?_
  refine r_iconst (v := 0) C dL_rule_2 (by decide) ?_
  refine r_aload_n (i := 0) C dL_rule_3 rfl rfl (by first | rfl | exact isR_rf _) ?_
  refine r_iload_n (i := 1) C dL_rule_4 rfl rfl ?_
  refine r_iload_n (i := 2) C dL_rule_5 rfl rfl ?_
  refine r_iload_n (i := 3) C dL_rule_6 rfl rfl ?_
  refine r_iload (i := 4) C dL_rule_7 rfl ?_
  refine r_iload (i := 5) C dL_rule_9 rfl ?_
  refine r_iload (i := 6) C dL_rule_11 rfl ?_
  refine r_callVc (a0 := 0) (b0 := 18) (hpc := 25) (ct := 17) (i := 8) (la := 2) (hp := [(0, 18, 21, 15)]) (hs := []) C v_L_37 M dL_rule_13 hkb (ci := 9) (by decide) rfl rfl (As := [_, _, _, _, _, _]) rfl rfl rfl (Nat.le_refl _) (Nat.le_of_ble_eq_true rfl) (by omega) (by omega) rfl (List.forall_mem_cons.mpr ⟨⟨by decide, _, c_L_15, by decide +kernel⟩, (fun _ z => nomatch z)⟩) (by decide) (by decide) c_L_17 (by decide +kernel) (Nat.le_of_ble_eq_true rfl) (Or.inr ⟨dL_rule_25, rfl⟩) ?_
  refine r_iconst (v := 2) C dL_rule_27 (by decide) ?_
  exact r_iret C E dL_rule_28 rfl rfl (by omega) (by omega)
theorem w_say_v (l : Launch) (G : Gl) {h h1 : Hp} {b o f2 mc2 ms2 : Nat} {a0 a1 a2 : Int32} {v : Int32} (M : MRw l G yX11_say (.code yX11_say cX11_say 5 (Option.some Jvm.ClassFile.FieldType.int)) f2 mc2 ms2 [.ref b, .int a0, .int a1, .int a2] h (.inl (some (.int v), h1))) (hkb : hK h b = 9) (ho : hK h1 o = 102) (hl : 0 < hL h1 o) : MRw l G yL_say (.codeWith yL_say cL_say 6 (Option.some Jvm.ClassFile.FieldType.int) [(0, 12, 15, 13), (0, 12, 19, 15), (0, 12, 23, 17)]) (f2 + 1) mc2 ms2 [.ref b, .int a0, .int a1, .int a2, .ref o] h (.inl (some (.int 0), (sW h1 o 0 v.toInt64))) := by
  refine mr_ofH (by decide +kernel) (Nat.le_of_ble_eq_true rfl) (ct5 (by first | rfl | exact isR_cat (isR_rf _)) (by first | rfl | exact isR_cat (isR_rf _)) (by first | rfl | exact isR_cat (isR_rf _)) (by first | rfl | exact isR_cat (isR_rf _)) (by first | rfl | exact isR_cat (isR_rf _))) (fun X hG hl C E => ?_)
  subst hG hl
  refine r_aload (i := 4) C dL_say_0 rfl (by first | rfl | exact isR_rf _) ?_
  refine r_iconst (v := 0) C dL_say_2 (by decide) ?_
  refine r_aload_n (i := 0) C dL_say_3 rfl rfl (by first | rfl | exact isR_rf _) ?_
  refine r_iload_n (i := 1) C dL_say_4 rfl rfl ?_
  refine r_iload_n (i := 2) C dL_say_5 rfl rfl ?_
  refine r_iload_n (i := 3) C dL_say_6 rfl rfl ?_
  refine r_callVs C v_L_51 M dL_say_7 (by assumption) (ci := 9) (by decide) rfl rfl (As := [_, _, _]) rfl rfl rfl (by first | exact Nat.le_refl _ | exact Nat.le_of_ble_eq_true rfl | omega) (Nat.le_of_ble_eq_true rfl) (by first | exact Nat.le_refl _ | exact Nat.le_of_ble_eq_true rfl | omega) (by first | exact Nat.le_refl _ | exact Nat.le_of_ble_eq_true rfl | omega) ?_
  refine r_i2l C dL_say_10 ?_
  refine r_last (a := o) (j := 0) C dL_say_11 ho rfl hl ?_
  refine r_goto (tgt := 27) C dL_say_12 (by decide) ?_
  refine r_iconst (v := 0) C dL_say_27 (by decide) ?_
  exact r_iret C E dL_say_28 rfl rfl (by omega) (by omega)
theorem w_say_x1 (l : Launch) (G : Gl) {h h1 : Hp} {b o f2 mc2 ms2 : Nat} {a0 a1 a2 : Int32} (M : MRw l G yX11_say (.code yX11_say cX11_say 5 (Option.some Jvm.ClassFile.FieldType.int)) f2 mc2 ms2 [.ref b, .int a0, .int a1, .int a2] h (.inr (xI, h1))) (hkb : hK h b = 9) : MRw l G yL_say (.codeWith yL_say cL_say 6 (Option.some Jvm.ClassFile.FieldType.int) [(0, 12, 15, 13), (0, 12, 19, 15), (0, 12, 23, 17)]) (f2 + 1) mc2 ms2 [.ref b, .int a0, .int a1, .int a2, .ref o] h (.inl (some (.int 1), h1)) := by
  refine mr_ofH (by decide +kernel) (Nat.le_of_ble_eq_true rfl) (ct5 (by first | rfl | exact isR_cat (isR_rf _)) (by first | rfl | exact isR_cat (isR_rf _)) (by first | rfl | exact isR_cat (isR_rf _)) (by first | rfl | exact isR_cat (isR_rf _)) (by first | rfl | exact isR_cat (isR_rf _))) (fun X hG hl C E => ?_)
  subst hG hl
  refine r_aload (i := 4) C dL_say_0 rfl (by first | rfl | exact isR_rf _) ?_
  refine r_iconst (v := 0) C dL_say_2 (by decide) ?_
  refine r_aload_n (i := 0) C dL_say_3 rfl rfl (by first | rfl | exact isR_rf _) ?_
  refine r_iload_n (i := 1) C dL_say_4 rfl rfl ?_
  refine r_iload_n (i := 2) C dL_say_5 rfl rfl ?_
  refine r_iload_n (i := 3) C dL_say_6 rfl rfl ?_
  refine r_callVc (a0 := 0) (b0 := 12) (hpc := 15) (ct := 13) (i := 5) (la := 2) (hp := []) (hs := [(0, 12, 19, 15), (0, 12, 23, 17)]) C v_L_51 M dL_say_7 hkb (ci := 9) (by decide) rfl rfl (As := [_, _, _]) rfl rfl rfl (Nat.le_refl _) (Nat.le_of_ble_eq_true rfl) (by omega) (by omega) rfl (fun _ z => nomatch z) (by decide) (by decide) c_L_13 (by decide +kernel) (Nat.le_of_ble_eq_true rfl) (Or.inr ⟨dL_say_15, rfl⟩) ?_
  refine r_iconst (v := 1) C dL_say_17 (by decide) ?_
  exact r_iret C E dL_say_18 rfl rfl (by omega) (by omega)
theorem w_say_x2 (l : Launch) (G : Gl) {h h1 : Hp} {b o f2 mc2 ms2 : Nat} {a0 a1 a2 : Int32} (M : MRw l G yX11_say (.code yX11_say cX11_say 5 (Option.some Jvm.ClassFile.FieldType.int)) f2 mc2 ms2 [.ref b, .int a0, .int a1, .int a2] h (.inr (xA, h1))) (hkb : hK h b = 9) : MRw l G yL_say (.codeWith yL_say cL_say 6 (Option.some Jvm.ClassFile.FieldType.int) [(0, 12, 15, 13), (0, 12, 19, 15), (0, 12, 23, 17)]) (f2 + 1) mc2 ms2 [.ref b, .int a0, .int a1, .int a2, .ref o] h (.inl (some (.int 2), h1)) := by
  refine mr_ofH (by decide +kernel) (Nat.le_of_ble_eq_true rfl) (ct5 (by first | rfl | exact isR_cat (isR_rf _)) (by first | rfl | exact isR_cat (isR_rf _)) (by first | rfl | exact isR_cat (isR_rf _)) (by first | rfl | exact isR_cat (isR_rf _)) (by first | rfl | exact isR_cat (isR_rf _))) (fun X hG hl C E => ?_)
  subst hG hl
  refine r_aload (i := 4) C dL_say_0 rfl (by first | rfl | exact isR_rf _) ?_
  refine r_iconst (v := 0) C dL_say_2 (by decide) ?_
  refine r_aload_n (i := 0) C dL_say_3 rfl rfl (by first | rfl | exact isR_rf _) ?_
  refine r_iload_n (i := 1) C dL_say_4 rfl rfl ?_
  refine r_iload_n (i := 2) C dL_say_5 rfl rfl ?_
  refine r_iload_n (i := 3) C dL_say_6 rfl rfl ?_
  refine r_callVc (a0 := 0) (b0 := 12) (hpc := 19) (ct := 15) (i := 5) (la := 2) (hp := [(0, 12, 15, 13)]) (hs := [(0, 12, 23, 17)]) C v_L_51 M dL_say_7 hkb (ci := 9) (by decide) rfl rfl (As := [_, _, _]) rfl rfl rfl (Nat.le_refl _) (Nat.le_of_ble_eq_true rfl) (by omega) (by omega) rfl (List.forall_mem_cons.mpr ⟨⟨by decide, _, c_L_13, by decide +kernel⟩, (fun _ z => nomatch z)⟩) (by decide) (by decide) c_L_15 (by decide +kernel) (Nat.le_of_ble_eq_true rfl) (Or.inr ⟨dL_say_19, rfl⟩) ?_
  refine r_iconst (v := 2) C dL_say_21 (by decide) ?_
  exact r_iret C E dL_say_22 rfl rfl (by omega) (by omega)
theorem w_say_x3 (l : Launch) (G : Gl) {h h1 : Hp} {b o f2 mc2 ms2 : Nat} {a0 a1 a2 : Int32} (M : MRw l G yX11_say (.code yX11_say cX11_say 5 (Option.some Jvm.ClassFile.FieldType.int)) f2 mc2 ms2 [.ref b, .int a0, .int a1, .int a2] h (.inr (xS, h1))) (hkb : hK h b = 9) : MRw l G yL_say (.codeWith yL_say cL_say 6 (Option.some Jvm.ClassFile.FieldType.int) [(0, 12, 15, 13), (0, 12, 19, 15), (0, 12, 23, 17)]) (f2 + 1) mc2 ms2 [.ref b, .int a0, .int a1, .int a2, .ref o] h (.inl (some (.int 3), h1)) := by
  refine mr_ofH (by decide +kernel) (Nat.le_of_ble_eq_true rfl) (ct5 (by first | rfl | exact isR_cat (isR_rf _)) (by first | rfl | exact isR_cat (isR_rf _)) (by first | rfl | exact isR_cat (isR_rf _)) (by first | rfl | exact isR_cat (isR_rf _)) (by first | rfl | exact isR_cat (isR_rf _))) (fun X hG hl C E => ?_)
  subst hG hl
  refine r_aload (i := 4) C dL_say_0 rfl (by first | rfl | exact isR_rf _) ?_
  refine r_iconst (v := 0) C dL_say_2 (by decide) ?_
  refine r_aload_n (i := 0) C dL_say_3 rfl rfl (by first | rfl | exact isR_rf _) ?_
  refine r_iload_n (i := 1) C dL_say_4 rfl rfl ?_
  refine r_iload_n (i := 2) C dL_say_5 rfl rfl ?_
  refine r_iload_n (i := 3) C dL_say_6 rfl rfl ?_
  refine r_callVc (a0 := 0) (b0 := 12) (hpc := 23) (ct := 17) (i := 5) (la := 2) (hp := [(0, 12, 15, 13), (0, 12, 19, 15)]) (hs := []) C v_L_51 M dL_say_7 hkb (ci := 9) (by decide) rfl rfl (As := [_, _, _]) rfl rfl rfl (Nat.le_refl _) (Nat.le_of_ble_eq_true rfl) (by omega) (by omega) rfl (List.forall_mem_cons.mpr ⟨⟨by decide, _, c_L_13, by decide +kernel⟩, (List.forall_mem_cons.mpr ⟨⟨by decide, _, c_L_15, by decide +kernel⟩, (fun _ z => nomatch z)⟩)⟩) (by decide) (by decide) c_L_17 (by decide +kernel) (Nat.le_of_ble_eq_true rfl) (Or.inr ⟨dL_say_23, rfl⟩) ?_
  refine r_iconst (v := 3) C dL_say_25 (by decide) ?_
  exact r_iret C E dL_say_26 rfl rfl (by omega) (by omega)
theorem w_text_v (l : Launch) (G : Gl) {h h1 : Hp} {b o f2 mc2 ms2 : Nat} {a0 a1 : Int32} {v : Int32} (M : MRw l G yX11_text (.code yX11_text cX11_text 5 (Option.some Jvm.ClassFile.FieldType.int)) f2 mc2 ms2 [.ref b, .int a0, .int a1] h (.inl (some (.int v), h1))) (hkb : hK h b = 9) (ho : hK h1 o = 102) (hl : 0 < hL h1 o) : MRw l G yL_text (.codeWith yL_text cL_text 5 (Option.some Jvm.ClassFile.FieldType.int) [(0, 10, 13, 13), (0, 10, 17, 15)]) (f2 + 1) mc2 ms2 [.ref b, .int a0, .int a1, .ref o] h (.inl (some (.int 0), (sW h1 o 0 v.toInt64))) := by
  refine mr_ofH (by decide +kernel) (Nat.le_of_ble_eq_true rfl) (ct4 (by first | rfl | exact isR_cat (isR_rf _)) (by first | rfl | exact isR_cat (isR_rf _)) (by first | rfl | exact isR_cat (isR_rf _)) (by first | rfl | exact isR_cat (isR_rf _))) (fun X hG hl C E => ?_)
  subst hG hl
  refine r_aload_n (i := 3) C dL_text_0 rfl rfl (by first | rfl | exact isR_rf _) ?_
  refine r_iconst (v := 0) C dL_text_1 (by decide) ?_
  refine r_aload_n (i := 0) C dL_text_2 rfl rfl (by first | rfl | exact isR_rf _) ?_
  refine r_iload_n (i := 1) C dL_text_3 rfl rfl ?_
  refine r_iload_n (i := 2) C dL_text_4 rfl rfl ?_
  refine r_callVs C v_L_27 M dL_text_5 (by assumption) (ci := 9) (by decide) rfl rfl (As := [_, _]) rfl rfl rfl (by first | exact Nat.le_refl _ | exact Nat.le_of_ble_eq_true rfl | omega) (Nat.le_of_ble_eq_true rfl) (by first | exact Nat.le_refl _ | exact Nat.le_of_ble_eq_true rfl | omega) (by first | exact Nat.le_refl _ | exact Nat.le_of_ble_eq_true rfl | omega) ?_
  refine r_i2l C dL_text_8 ?_
  refine r_last (a := o) (j := 0) C dL_text_9 ho rfl hl ?_
  refine r_goto (tgt := 21) C dL_text_10 (by decide) ?_
  refine r_iconst (v := 0) C dL_text_21 (by decide) ?_
  exact r_iret C E dL_text_22 rfl rfl (by omega) (by omega)
theorem w_text_x1 (l : Launch) (G : Gl) {h h1 : Hp} {b o f2 mc2 ms2 : Nat} {a0 a1 : Int32} (M : MRw l G yX11_text (.code yX11_text cX11_text 5 (Option.some Jvm.ClassFile.FieldType.int)) f2 mc2 ms2 [.ref b, .int a0, .int a1] h (.inr (xI, h1))) (hkb : hK h b = 9) : MRw l G yL_text (.codeWith yL_text cL_text 5 (Option.some Jvm.ClassFile.FieldType.int) [(0, 10, 13, 13), (0, 10, 17, 15)]) (f2 + 1) mc2 ms2 [.ref b, .int a0, .int a1, .ref o] h (.inl (some (.int 1), h1)) := by
  refine mr_ofH (by decide +kernel) (Nat.le_of_ble_eq_true rfl) (ct4 (by first | rfl | exact isR_cat (isR_rf _)) (by first | rfl | exact isR_cat (isR_rf _)) (by first | rfl | exact isR_cat (isR_rf _)) (by first | rfl | exact isR_cat (isR_rf _))) (fun X hG hl C E => ?_)
  subst hG hl
  refine r_aload_n (i := 3) C dL_text_0 rfl rfl (by first | rfl | exact isR_rf _) ?_
  refine r_iconst (v := 0) C dL_text_1 (by decide) ?_
  refine r_aload_n (i := 0) C dL_text_2 rfl rfl (by first | rfl | exact isR_rf _) ?_
  refine r_iload_n (i := 1) C dL_text_3 rfl rfl ?_
  refine r_iload_n (i := 2) C dL_text_4 rfl rfl ?_
  refine r_callVc (a0 := 0) (b0 := 10) (hpc := 13) (ct := 13) (i := 4) (la := 2) (hp := []) (hs := [(0, 10, 17, 15)]) C v_L_27 M dL_text_5 hkb (ci := 9) (by decide) rfl rfl (As := [_, _]) rfl rfl rfl (Nat.le_refl _) (Nat.le_of_ble_eq_true rfl) (by omega) (by omega) rfl (fun _ z => nomatch z) (by decide) (by decide) c_L_13 (by decide +kernel) (Nat.le_of_ble_eq_true rfl) (Or.inr ⟨dL_text_13, rfl⟩) ?_
  refine r_iconst (v := 1) C dL_text_15 (by decide) ?_
  exact r_iret C E dL_text_16 rfl rfl (by omega) (by omega)
theorem w_text_x2 (l : Launch) (G : Gl) {h h1 : Hp} {b o f2 mc2 ms2 : Nat} {a0 a1 : Int32} (M : MRw l G yX11_text (.code yX11_text cX11_text 5 (Option.some Jvm.ClassFile.FieldType.int)) f2 mc2 ms2 [.ref b, .int a0, .int a1] h (.inr (xA, h1))) (hkb : hK h b = 9) : MRw l G yL_text (.codeWith yL_text cL_text 5 (Option.some Jvm.ClassFile.FieldType.int) [(0, 10, 13, 13), (0, 10, 17, 15)]) (f2 + 1) mc2 ms2 [.ref b, .int a0, .int a1, .ref o] h (.inl (some (.int 2), h1)) := by
  refine mr_ofH (by decide +kernel) (Nat.le_of_ble_eq_true rfl) (ct4 (by first | rfl | exact isR_cat (isR_rf _)) (by first | rfl | exact isR_cat (isR_rf _)) (by first | rfl | exact isR_cat (isR_rf _)) (by first | rfl | exact isR_cat (isR_rf _))) (fun X hG hl C E => ?_)
  subst hG hl
  refine r_aload_n (i := 3) C dL_text_0 rfl rfl (by first | rfl | exact isR_rf _) ?_
  refine r_iconst (v := 0) C dL_text_1 (by decide) ?_
  refine r_aload_n (i := 0) C dL_text_2 rfl rfl (by first | rfl | exact isR_rf _) ?_
  refine r_iload_n (i := 1) C dL_text_3 rfl rfl ?_
  refine r_iload_n (i := 2) C dL_text_4 rfl rfl ?_
  refine r_callVc (a0 := 0) (b0 := 10) (hpc := 17) (ct := 15) (i := 4) (la := 2) (hp := [(0, 10, 13, 13)]) (hs := []) C v_L_27 M dL_text_5 hkb (ci := 9) (by decide) rfl rfl (As := [_, _]) rfl rfl rfl (Nat.le_refl _) (Nat.le_of_ble_eq_true rfl) (by omega) (by omega) rfl (List.forall_mem_cons.mpr ⟨⟨by decide, _, c_L_13, by decide +kernel⟩, (fun _ z => nomatch z)⟩) (by decide) (by decide) c_L_15 (by decide +kernel) (Nat.le_of_ble_eq_true rfl) (Or.inr ⟨dL_text_17, rfl⟩) ?_
  refine r_iconst (v := 2) C dL_text_19 (by decide) ?_
  exact r_iret C E dL_text_20 rfl rfl (by omega) (by omega)
theorem w_value_v (l : Launch) (G : Gl) {h h1 : Hp} {b o f2 mc2 ms2 : Nat} {a0 a1 : Int32} {v : Int32} (M : MRw l G yX11_value (.code yX11_value cX11_value 4 (Option.some Jvm.ClassFile.FieldType.int)) f2 mc2 ms2 [.ref b, .int a0, .int a1] h (.inl (some (.int v), h1))) (hkb : hK h b = 9) (ho : hK h1 o = 102) (hl : 0 < hL h1 o) : MRw l G yL_value (.codeWith yL_value cL_value 5 (Option.some Jvm.ClassFile.FieldType.int) [(0, 10, 13, 13)]) (f2 + 1) mc2 ms2 [.ref b, .int a0, .int a1, .ref o] h (.inl (some (.int 0), (sW h1 o 0 v.toInt64))) := by
  refine mr_ofH (by decide +kernel) (Nat.le_of_ble_eq_true rfl) (ct4 (by first | rfl | exact isR_cat (isR_rf _)) (by first | rfl | exact isR_cat (isR_rf _)) (by first | rfl | exact isR_cat (isR_rf _)) (by first | rfl | exact isR_cat (isR_rf _))) (fun X hG hl C E => ?_)
  subst hG hl
  refine r_aload_n (i := 3) C dL_value_0 rfl rfl (by first | rfl | exact isR_rf _) ?_
  refine r_iconst (v := 0) C dL_value_1 (by decide) ?_
  refine r_aload_n (i := 0) C dL_value_2 rfl rfl (by first | rfl | exact isR_rf _) ?_
  refine r_iload_n (i := 1) C dL_value_3 rfl rfl ?_
  refine r_iload_n (i := 2) C dL_value_4 rfl rfl ?_
  refine r_callVs C v_L_68 M dL_value_5 (by assumption) (ci := 9) (by decide) rfl rfl (As := [_, _]) rfl rfl rfl (by first | exact Nat.le_refl _ | exact Nat.le_of_ble_eq_true rfl | omega) (Nat.le_of_ble_eq_true rfl) (by first | exact Nat.le_refl _ | exact Nat.le_of_ble_eq_true rfl | omega) (by first | exact Nat.le_refl _ | exact Nat.le_of_ble_eq_true rfl | omega) ?_
  refine r_i2l C dL_value_8 ?_
  refine r_last (a := o) (j := 0) C dL_value_9 ho rfl hl ?_
  refine r_goto (tgt := 17) C dL_value_10 (by decide) ?_
  refine r_iconst (v := 0) C dL_value_17 (by decide) ?_
  exact r_iret C E dL_value_18 rfl rfl (by omega) (by omega)
theorem w_value_x1 (l : Launch) (G : Gl) {h h1 : Hp} {b o f2 mc2 ms2 : Nat} {a0 a1 : Int32} (M : MRw l G yX11_value (.code yX11_value cX11_value 4 (Option.some Jvm.ClassFile.FieldType.int)) f2 mc2 ms2 [.ref b, .int a0, .int a1] h (.inr (xI, h1))) (hkb : hK h b = 9) : MRw l G yL_value (.codeWith yL_value cL_value 5 (Option.some Jvm.ClassFile.FieldType.int) [(0, 10, 13, 13)]) (f2 + 1) mc2 ms2 [.ref b, .int a0, .int a1, .ref o] h (.inl (some (.int 1), h1)) := by
  refine mr_ofH (by decide +kernel) (Nat.le_of_ble_eq_true rfl) (ct4 (by first | rfl | exact isR_cat (isR_rf _)) (by first | rfl | exact isR_cat (isR_rf _)) (by first | rfl | exact isR_cat (isR_rf _)) (by first | rfl | exact isR_cat (isR_rf _))) (fun X hG hl C E => ?_)
  subst hG hl
  refine r_aload_n (i := 3) C dL_value_0 rfl rfl (by first | rfl | exact isR_rf _) ?_
  refine r_iconst (v := 0) C dL_value_1 (by decide) ?_
  refine r_aload_n (i := 0) C dL_value_2 rfl rfl (by first | rfl | exact isR_rf _) ?_
  refine r_iload_n (i := 1) C dL_value_3 rfl rfl ?_
  refine r_iload_n (i := 2) C dL_value_4 rfl rfl ?_
  refine r_callVc (a0 := 0) (b0 := 10) (hpc := 13) (ct := 13) (i := 4) (la := 2) (hp := []) (hs := []) C v_L_68 M dL_value_5 hkb (ci := 9) (by decide) rfl rfl (As := [_, _]) rfl rfl rfl (Nat.le_refl _) (Nat.le_of_ble_eq_true rfl) (by omega) (by omega) rfl (fun _ z => nomatch z) (by decide) (by decide) c_L_13 (by decide +kernel) (Nat.le_of_ble_eq_true rfl) (Or.inr ⟨dL_value_13, rfl⟩) ?_
  refine r_iconst (v := 1) C dL_value_15 (by decide) ?_
  exact r_iret C E dL_value_16 rfl rfl (by omega) (by omega)
theorem w_valueAnew_v (l : Launch) (G : Gl) {h h1 : Hp} {b o f2 mc2 ms2 : Nat} {a0 a1 : Int32} {v : Int32} (M : MRw l G yX11_valueAnew (.code yX11_valueAnew cX11_valueAnew 4 (Option.some Jvm.ClassFile.FieldType.int)) f2 mc2 ms2 [.ref b, .int a0, .int a1] h (.inl (some (.int v), h1))) (hkb : hK h b = 9) (ho : hK h1 o = 102) (hl : 0 < hL h1 o) : MRw l G yL_valueAnew (.codeWith yL_valueAnew cL_valueAnew 5 (Option.some Jvm.ClassFile.FieldType.int) [(0, 10, 13, 13)]) (f2 + 1) mc2 ms2 [.ref b, .int a0, .int a1, .ref o] h (.inl (some (.int 0), (sW h1 o 0 v.toInt64))) := by
  refine mr_ofH (by decide +kernel) (Nat.le_of_ble_eq_true rfl) (ct4 (by first | rfl | exact isR_cat (isR_rf _)) (by first | rfl | exact isR_cat (isR_rf _)) (by first | rfl | exact isR_cat (isR_rf _)) (by first | rfl | exact isR_cat (isR_rf _))) (fun X hG hl C E => ?_)
  subst hG hl
  refine r_aload_n (i := 3) C dL_valueAnew_0 rfl rfl (by first | rfl | exact isR_rf _) ?_
  refine r_iconst (v := 0) C dL_valueAnew_1 (by decide) ?_
  refine r_aload_n (i := 0) C dL_valueAnew_2 rfl rfl (by first | rfl | exact isR_rf _) ?_
  refine r_iload_n (i := 1) C dL_valueAnew_3 rfl rfl ?_
  refine r_iload_n (i := 2) C dL_valueAnew_4 rfl rfl ?_
  refine r_callVs C v_L_71 M dL_valueAnew_5 (by assumption) (ci := 9) (by decide) rfl rfl (As := [_, _]) rfl rfl rfl (by first | exact Nat.le_refl _ | exact Nat.le_of_ble_eq_true rfl | omega) (Nat.le_of_ble_eq_true rfl) (by first | exact Nat.le_refl _ | exact Nat.le_of_ble_eq_true rfl | omega) (by first | exact Nat.le_refl _ | exact Nat.le_of_ble_eq_true rfl | omega) ?_
  refine r_i2l C dL_valueAnew_8 ?_
  refine r_last (a := o) (j := 0) C dL_valueAnew_9 ho rfl hl ?_
  refine r_goto (tgt := 17) C dL_valueAnew_10 (by decide) ?_
  refine r_iconst (v := 0) C dL_valueAnew_17 (by decide) ?_
  exact r_iret C E dL_valueAnew_18 rfl rfl (by omega) (by omega)
theorem w_valueAnew_x1 (l : Launch) (G : Gl) {h h1 : Hp} {b o f2 mc2 ms2 : Nat} {a0 a1 : Int32} (M : MRw l G yX11_valueAnew (.code yX11_valueAnew cX11_valueAnew 4 (Option.some Jvm.ClassFile.FieldType.int)) f2 mc2 ms2 [.ref b, .int a0, .int a1] h (.inr (xI, h1))) (hkb : hK h b = 9) : MRw l G yL_valueAnew (.codeWith yL_valueAnew cL_valueAnew 5 (Option.some Jvm.ClassFile.FieldType.int) [(0, 10, 13, 13)]) (f2 + 1) mc2 ms2 [.ref b, .int a0, .int a1, .ref o] h (.inl (some (.int 1), h1)) := by
  refine mr_ofH (by decide +kernel) (Nat.le_of_ble_eq_true rfl) (ct4 (by first | rfl | exact isR_cat (isR_rf _)) (by first | rfl | exact isR_cat (isR_rf _)) (by first | rfl | exact isR_cat (isR_rf _)) (by first | rfl | exact isR_cat (isR_rf _))) (fun X hG hl C E => ?_)
  subst hG hl
  refine r_aload_n (i := 3) C dL_valueAnew_0 rfl rfl (by first | rfl | exact isR_rf _) ?_
  refine r_iconst (v := 0) C dL_valueAnew_1 (by decide) ?_
  refine r_aload_n (i := 0) C dL_valueAnew_2 rfl rfl (by first | rfl | exact isR_rf _) ?_
  refine r_iload_n (i := 1) C dL_valueAnew_3 rfl rfl ?_
  refine r_iload_n (i := 2) C dL_valueAnew_4 rfl rfl ?_
  refine r_callVc (a0 := 0) (b0 := 10) (hpc := 13) (ct := 13) (i := 4) (la := 2) (hp := []) (hs := []) C v_L_71 M dL_valueAnew_5 hkb (ci := 9) (by decide) rfl rfl (As := [_, _]) rfl rfl rfl (Nat.le_refl _) (Nat.le_of_ble_eq_true rfl) (by omega) (by omega) rfl (fun _ z => nomatch z) (by decide) (by decide) c_L_13 (by decide +kernel) (Nat.le_of_ble_eq_true rfl) (Or.inr ⟨dL_valueAnew_13, rfl⟩) ?_
  refine r_iconst (v := 1) C dL_valueAnew_15 (by decide) ?_
  exact r_iret C E dL_valueAnew_16 rfl rfl (by omega) (by omega)
theorem w_weight_v (l : Launch) (G : Gl) {h h1 : Hp} {b o f2 mc2 ms2 : Nat} {a0 : Int32} {v : Int32} (M : MRw l G yX11_weight (.code yX11_weight cX11_weight 2 (Option.some Jvm.ClassFile.FieldType.int)) f2 mc2 ms2 [.ref b, .int a0] h (.inl (some (.int v), h1))) (hkb : hK h b = 9) (ho : hK h1 o = 102) (hl : 0 < hL h1 o) : MRw l G yL_weight (.codeWith yL_weight cL_weight 4 (Option.some Jvm.ClassFile.FieldType.int) [(0, 9, 12, 13)]) (f2 + 1) mc2 ms2 [.ref b, .int a0, .ref o] h (.inl (some (.int 0), (sW h1 o 0 v.toInt64))) := by
  refine mr_ofH (by decide +kernel) (Nat.le_of_ble_eq_true rfl) (ct3 (by first | rfl | exact isR_cat (isR_rf _)) (by first | rfl | exact isR_cat (isR_rf _)) (by first | rfl | exact isR_cat (isR_rf _))) (fun X hG hl C E => ?_)
  subst hG hl
  refine r_aload_n (i := 2) C dL_weight_0 rfl rfl (by first | rfl | exact isR_rf _) ?_
  refine r_iconst (v := 0) C dL_weight_1 (by decide) ?_
  refine r_aload_n (i := 0) C dL_weight_2 rfl rfl (by first | rfl | exact isR_rf _) ?_
  refine r_iload_n (i := 1) C dL_weight_3 rfl rfl ?_
  refine r_callVs C v_L_65 M dL_weight_4 (by assumption) (ci := 9) (by decide) rfl rfl (As := [_]) rfl rfl rfl (by first | exact Nat.le_refl _ | exact Nat.le_of_ble_eq_true rfl | omega) (Nat.le_of_ble_eq_true rfl) (by first | exact Nat.le_refl _ | exact Nat.le_of_ble_eq_true rfl | omega) (by first | exact Nat.le_refl _ | exact Nat.le_of_ble_eq_true rfl | omega) ?_
  refine r_i2l C dL_weight_7 ?_
  refine r_last (a := o) (j := 0) C dL_weight_8 ho rfl hl ?_
  refine r_goto (tgt := 15) C dL_weight_9 (by decide) ?_
  refine r_iconst (v := 0) C dL_weight_15 (by decide) ?_
  exact r_iret C E dL_weight_16 rfl rfl (by omega) (by omega)
theorem w_weight_x1 (l : Launch) (G : Gl) {h h1 : Hp} {b o f2 mc2 ms2 : Nat} {a0 : Int32} (M : MRw l G yX11_weight (.code yX11_weight cX11_weight 2 (Option.some Jvm.ClassFile.FieldType.int)) f2 mc2 ms2 [.ref b, .int a0] h (.inr (xI, h1))) (hkb : hK h b = 9) : MRw l G yL_weight (.codeWith yL_weight cL_weight 4 (Option.some Jvm.ClassFile.FieldType.int) [(0, 9, 12, 13)]) (f2 + 1) mc2 ms2 [.ref b, .int a0, .ref o] h (.inl (some (.int 1), h1)) := by
  refine mr_ofH (by decide +kernel) (Nat.le_of_ble_eq_true rfl) (ct3 (by first | rfl | exact isR_cat (isR_rf _)) (by first | rfl | exact isR_cat (isR_rf _)) (by first | rfl | exact isR_cat (isR_rf _))) (fun X hG hl C E => ?_)
  subst hG hl
  refine r_aload_n (i := 2) C dL_weight_0 rfl rfl (by first | rfl | exact isR_rf _) ?_
  refine r_iconst (v := 0) C dL_weight_1 (by decide) ?_
  refine r_aload_n (i := 0) C dL_weight_2 rfl rfl (by first | rfl | exact isR_rf _) ?_
  refine r_iload_n (i := 1) C dL_weight_3 rfl rfl ?_
  refine r_callVc (a0 := 0) (b0 := 9) (hpc := 12) (ct := 13) (i := 3) (la := 1) (hp := []) (hs := []) C v_L_65 M dL_weight_4 hkb (ci := 9) (by decide) rfl rfl (As := [_]) rfl rfl rfl (Nat.le_refl _) (Nat.le_of_ble_eq_true rfl) (by omega) (by omega) rfl (fun _ z => nomatch z) (by decide) (by decide) c_L_13 (by decide +kernel) (Nat.le_of_ble_eq_true rfl) (Or.inl ⟨3, dL_weight_12, rfl, rfl⟩) ?_
  refine r_iconst (v := 1) C dL_weight_13 (by decide) ?_
  exact r_iret C E dL_weight_14 rfl rfl (by omega) (by omega)
theorem w_window_v (l : Launch) (G : Gl) {h h1 : Hp} {b o f2 mc2 ms2 : Nat} {a0 : Int32} {v : Int32} (M : MRw l G yX11_window (.code yX11_window cX11_window 3 (Option.some Jvm.ClassFile.FieldType.int)) f2 mc2 ms2 [.ref b, .int a0] h (.inl (some (.int v), h1))) (hkb : hK h b = 9) (ho : hK h1 o = 102) (hl : 0 < hL h1 o) : MRw l G yL_window (.codeWith yL_window cL_window 4 (Option.some Jvm.ClassFile.FieldType.int) [(0, 9, 12, 15)]) (f2 + 1) mc2 ms2 [.ref b, .int a0, .ref o] h (.inl (some (.int 0), (sW h1 o 0 v.toInt64))) := by
  refine mr_ofH (by decide +kernel) (Nat.le_of_ble_eq_true rfl) (ct3 (by first | rfl | exact isR_cat (isR_rf _)) (by first | rfl | exact isR_cat (isR_rf _)) (by first | rfl | exact isR_cat (isR_rf _))) (fun X hG hl C E => ?_)
  subst hG hl
  refine r_aload_n (i := 2) C dL_window_0 rfl rfl (by first | rfl | exact isR_rf _) ?_
  refine r_iconst (v := 0) C dL_window_1 (by decide) ?_
  refine r_aload_n (i := 0) C dL_window_2 rfl rfl (by first | rfl | exact isR_rf _) ?_
  refine r_iload_n (i := 1) C dL_window_3 rfl rfl ?_
  refine r_callVs C v_L_34 M dL_window_4 (by assumption) (ci := 9) (by decide) rfl rfl (As := [_]) rfl rfl rfl (by first | exact Nat.le_refl _ | exact Nat.le_of_ble_eq_true rfl | omega) (Nat.le_of_ble_eq_true rfl) (by first | exact Nat.le_refl _ | exact Nat.le_of_ble_eq_true rfl | omega) (by first | exact Nat.le_refl _ | exact Nat.le_of_ble_eq_true rfl | omega) ?_
  refine r_i2l C dL_window_7 ?_
  refine r_last (a := o) (j := 0) C dL_window_8 ho rfl hl ?_
  refine r_goto (tgt := 15) C dL_window_9 (by decide) ?_
  refine r_iconst (v := 0) C dL_window_15 (by decide) ?_
  exact r_iret C E dL_window_16 rfl rfl (by omega) (by omega)
theorem w_window_x1 (l : Launch) (G : Gl) {h h1 : Hp} {b o f2 mc2 ms2 : Nat} {a0 : Int32} (M : MRw l G yX11_window (.code yX11_window cX11_window 3 (Option.some Jvm.ClassFile.FieldType.int)) f2 mc2 ms2 [.ref b, .int a0] h (.inr (xA, h1))) (hkb : hK h b = 9) : MRw l G yL_window (.codeWith yL_window cL_window 4 (Option.some Jvm.ClassFile.FieldType.int) [(0, 9, 12, 15)]) (f2 + 1) mc2 ms2 [.ref b, .int a0, .ref o] h (.inl (some (.int 1), h1)) := by
  refine mr_ofH (by decide +kernel) (Nat.le_of_ble_eq_true rfl) (ct3 (by first | rfl | exact isR_cat (isR_rf _)) (by first | rfl | exact isR_cat (isR_rf _)) (by first | rfl | exact isR_cat (isR_rf _))) (fun X hG hl C E => ?_)
  subst hG hl
  refine r_aload_n (i := 2) C dL_window_0 rfl rfl (by first | rfl | exact isR_rf _) ?_
  refine r_iconst (v := 0) C dL_window_1 (by decide) ?_
  refine r_aload_n (i := 0) C dL_window_2 rfl rfl (by first | rfl | exact isR_rf _) ?_
  refine r_iload_n (i := 1) C dL_window_3 rfl rfl ?_
  refine r_callVc (a0 := 0) (b0 := 9) (hpc := 12) (ct := 15) (i := 3) (la := 1) (hp := []) (hs := []) C v_L_34 M dL_window_4 hkb (ci := 9) (by decide) rfl rfl (As := [_]) rfl rfl rfl (Nat.le_refl _) (Nat.le_of_ble_eq_true rfl) (by omega) (by omega) rfl (fun _ z => nomatch z) (by decide) (by decide) c_L_15 (by decide +kernel) (Nat.le_of_ble_eq_true rfl) (Or.inl ⟨3, dL_window_12, rfl, rfl⟩) ?_
  refine r_iconst (v := 1) C dL_window_13 (by decide) ?_
  exact r_iret C E dL_window_14 rfl rfl (by omega) (by omega)
