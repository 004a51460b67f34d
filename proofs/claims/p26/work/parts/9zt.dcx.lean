/-! ===== the call refer: the walks ===== -/
theorem c_refer_ok (l : Launch) (G : Gl) {h h1 h2 : Hp} {H r p j : Nat} {x u f : Int32} (hkH : hK h H = 9) (Mr : MRw l G yX11_ruleOf (.code yX11_ruleOf cX11_ruleOf 3 (Option.some (Jvm.ClassFile.FieldType.object "CascadeHouse$Rule"))) 8 1 6 [.ref H, .int x] h (.inl (some (.ref r), h))) (hp : p ≤ 14) (qu : ¬ (u < 0 ∨ 3 < u)) (q : f = -1 ∨ (if pLe (pq p) ≤ f ∧ f ≤ pGr (pq p) then (1 : Int32) else 0) ≠ 0) (Mp : MRw l G yX11_putInto (.code yX11_putInto cX11_putInto 3 none) 8 1 6 [.ref r, .int (nI p), .ref (hN h)] (nwD h 5 f u) (.inl (none, h1))) (hkH1 : hK h1 H = 9) (Ms : MRw l G yX11_settle (.code yX11_settle cX11_settle 4 none) 11 j (60 * j) [.ref H, .int (nI 0)] h1 (.inl (none, h2))) (hj : j ≤ 3) (hk2 : hK h2 r = 6) : MRw l G yX11_refer (.code yX11_refer cX11_refer 6 (Option.some Jvm.ClassFile.FieldType.int)) 12 30 600 [.ref H, .int x, .int (nI p), .int u, .int f] h (.inl (some (.int (hI h2 fU_declarationCount r)), h2)) := by
  have M1 := c_canBe l G (h := h) (v := f) hp
  have M3 := c_declInit l G (h := nw h 2 0) (a := hN h) (x0 := 5) (x1 := f) (x2 := u) (by rw [hK_nw, va_up_self])
  refine mr_of (by decide +kernel) (Nat.le_of_ble_eq_true rfl) (ct5 (by first | rfl | exact isR_cat (isR_rf _)) (by first | rfl | exact isR_cat (isR_rf _)) (by first | rfl | exact isR_cat (isR_rf _)) (by first | rfl | exact isR_cat (isR_rf _)) (by first | rfl | exact isR_cat (isR_rf _))) (fun X hG hl C E => ?_)
  subst hG hl
  refine r_aload_n (i := 0) C dX11_refer_0 rfl rfl (by first | rfl | exact isR_rf _) ?_
  refine r_iload_n (i := 1) C dX11_refer_1 rfl rfl ?_
  refine r_callVs C v_X11_126 Mr dX11_refer_2 (by assumption) (ci := 9) (by decide) rfl rfl (As := [_]) rfl rfl rfl (by first | exact Nat.le_refl _ | exact Nat.le_of_ble_eq_true rfl | omega) (Nat.le_of_ble_eq_true rfl) (by first | exact Nat.le_refl _ | exact Nat.le_of_ble_eq_true rfl | omega) (by first | exact Nat.le_refl _ | exact Nat.le_of_ble_eq_true rfl | omega) ?_
  refine r_astore (i := 5) C dX11_refer_5 (Nat.le_of_ble_eq_true rfl) (by first | rfl | exact isR_rf _) ?_
  refine r_iload_n (i := 2) C dX11_refer_7 rfl rfl ?_
  refine r_bipush (v := 14) C dX11_refer_8 (by decide) ?_
  refine r_callSn C s_X11_144 (cP_ok (dP14 hp)) dX11_refer_10 (As := [_, _]) rfl rfl rfl (by first | exact Nat.le_refl _ | exact Nat.le_of_ble_eq_true rfl | omega) (Nat.le_of_ble_eq_true rfl) (by first | exact Nat.le_refl _ | exact Nat.le_of_ble_eq_true rfl | omega) (by first | exact Nat.le_refl _ | exact Nat.le_of_ble_eq_true rfl | omega) ?_
  refine r_iload_n (i := 3) C dX11_refer_13 rfl rfl ?_
  refine r_iconst (v := 0) C dX11_refer_14 (by decide) ?_
  refine r_iconst (v := 3) C dX11_refer_15 (by decide) ?_
  refine r_callSn C s_X11_47 (cR_ok qu) dX11_refer_16 (As := [_, _, _]) rfl rfl rfl (by first | exact Nat.le_refl _ | exact Nat.le_of_ble_eq_true rfl | omega) (Nat.le_of_ble_eq_true rfl) (by first | exact Nat.le_refl _ | exact Nat.le_of_ble_eq_true rfl | omega) (by first | exact Nat.le_refl _ | exact Nat.le_of_ble_eq_true rfl | omega) ?_
  refine r_iload (i := 4) C dX11_refer_19 rfl ?_
  refine r_iconst (v := (-1)) C dX11_refer_21 (by decide) ?_
  refine r_ic_eq (tgt := 44) C dX11_refer_22 (by decide) (fun c_22 => ?_) (fun c_22 => ?_)
  · refine r_aload (i := 5) C dX11_refer_44 rfl (by first | rfl | exact isR_rf _) ?_
    refine r_iload_n (i := 2) C dX11_refer_46 rfl rfl ?_
    refine r_new C n_X11_160 dX11_refer_47 (by first | exact Nat.le_refl _ | exact Nat.le_of_ble_eq_true rfl | omega) (by first | exact Nat.le_refl _ | exact Nat.le_of_ble_eq_true rfl | omega) ?_
    refine r_dup C (by first | rfl | exact isR_cat (isR_rf _)) dX11_refer_50 ?_
    refine r_iconst (v := 5) C dX11_refer_51 (by decide) ?_
    refine r_iload (i := 4) C dX11_refer_52 rfl ?_
    refine r_iload_n (i := 3) C dX11_refer_54 rfl rfl ?_
    refine r_callI C i_X11_162 M3 dX11_refer_55 (As := [_, _, _]) rfl rfl rfl (by first | exact Nat.le_refl _ | exact Nat.le_of_ble_eq_true rfl | omega) (Nat.le_of_ble_eq_true rfl) (by first | exact Nat.le_refl _ | exact Nat.le_of_ble_eq_true rfl | omega) (by first | exact Nat.le_refl _ | exact Nat.le_of_ble_eq_true rfl | omega) ?_
    refine r_callSn C s_X11_164 Mp dX11_refer_58 (As := [_, _, _]) rfl rfl rfl (by first | exact Nat.le_refl _ | exact Nat.le_of_ble_eq_true rfl | omega) (Nat.le_of_ble_eq_true rfl) (by first | exact Nat.le_refl _ | exact Nat.le_of_ble_eq_true rfl | omega) (by first | exact Nat.le_refl _ | exact Nat.le_of_ble_eq_true rfl | omega) ?_
    refine r_aload_n (i := 0) C dX11_refer_61 rfl rfl (by first | rfl | exact isR_rf _) ?_
    refine r_iconst (v := 0) C dX11_refer_62 (by decide) ?_
    refine r_callVn C v_X11_36 Ms dX11_refer_63 (by assumption) (ci := 9) (by decide) rfl rfl (As := [_]) rfl rfl rfl (by first | exact Nat.le_refl _ | exact Nat.le_of_ble_eq_true rfl | omega) (Nat.le_of_ble_eq_true rfl) (by first | exact Nat.le_refl _ | exact Nat.le_of_ble_eq_true rfl | omega) (by first | exact Nat.le_refl _ | exact Nat.le_of_ble_eq_true rfl | omega) ?_
    refine r_aload (i := 5) C dX11_refer_66 rfl (by first | rfl | exact isR_rf _) ?_
    refine r_getI C f_X11_168 dX11_refer_68 rfl (by assumption) ?_
    exact r_iret C E dX11_refer_71 rfl rfl (by first | exact Nat.le_refl _ | exact Nat.le_of_ble_eq_true rfl | omega) (by first | exact Nat.le_refl _ | exact Nat.le_of_ble_eq_true rfl | omega)
  · refine r_iload_n (i := 2) C dX11_refer_25 rfl rfl ?_
    refine r_iload (i := 4) C dX11_refer_26 rfl ?_
    refine r_callSs C s_X11_148 M1 dX11_refer_28 (As := [_, _]) rfl rfl rfl (by first | exact Nat.le_refl _ | exact Nat.le_of_ble_eq_true rfl | omega) (Nat.le_of_ble_eq_true rfl) (by first | exact Nat.le_refl _ | exact Nat.le_of_ble_eq_true rfl | omega) (by first | exact Nat.le_refl _ | exact Nat.le_of_ble_eq_true rfl | omega) ?_
    refine r_if_ne (tgt := 44) C dX11_refer_31 (by decide) (fun c_31 => ?_) (fun c_31 => ?_)
    · refine r_aload (i := 5) C dX11_refer_44 rfl (by first | rfl | exact isR_rf _) ?_
      refine r_iload_n (i := 2) C dX11_refer_46 rfl rfl ?_
      refine r_new C n_X11_160 dX11_refer_47 (by first | exact Nat.le_refl _ | exact Nat.le_of_ble_eq_true rfl | omega) (by first | exact Nat.le_refl _ | exact Nat.le_of_ble_eq_true rfl | omega) ?_
      refine r_dup C (by first | rfl | exact isR_cat (isR_rf _)) dX11_refer_50 ?_
      refine r_iconst (v := 5) C dX11_refer_51 (by decide) ?_
      refine r_iload (i := 4) C dX11_refer_52 rfl ?_
      refine r_iload_n (i := 3) C dX11_refer_54 rfl rfl ?_
      refine r_callI C i_X11_162 M3 dX11_refer_55 (As := [_, _, _]) rfl rfl rfl (by first | exact Nat.le_refl _ | exact Nat.le_of_ble_eq_true rfl | omega) (Nat.le_of_ble_eq_true rfl) (by first | exact Nat.le_refl _ | exact Nat.le_of_ble_eq_true rfl | omega) (by first | exact Nat.le_refl _ | exact Nat.le_of_ble_eq_true rfl | omega) ?_
      refine r_callSn C s_X11_164 Mp dX11_refer_58 (As := [_, _, _]) rfl rfl rfl (by first | exact Nat.le_refl _ | exact Nat.le_of_ble_eq_true rfl | omega) (Nat.le_of_ble_eq_true rfl) (by first | exact Nat.le_refl _ | exact Nat.le_of_ble_eq_true rfl | omega) (by first | exact Nat.le_refl _ | exact Nat.le_of_ble_eq_true rfl | omega) ?_
      refine r_aload_n (i := 0) C dX11_refer_61 rfl rfl (by first | rfl | exact isR_rf _) ?_
      refine r_iconst (v := 0) C dX11_refer_62 (by decide) ?_
      refine r_callVn C v_X11_36 Ms dX11_refer_63 (by assumption) (ci := 9) (by decide) rfl rfl (As := [_]) rfl rfl rfl (by first | exact Nat.le_refl _ | exact Nat.le_of_ble_eq_true rfl | omega) (Nat.le_of_ble_eq_true rfl) (by first | exact Nat.le_refl _ | exact Nat.le_of_ble_eq_true rfl | omega) (by first | exact Nat.le_refl _ | exact Nat.le_of_ble_eq_true rfl | omega) ?_
      refine r_aload (i := 5) C dX11_refer_66 rfl (by first | rfl | exact isR_rf _) ?_
      refine r_getI C f_X11_168 dX11_refer_68 rfl (by assumption) ?_
      exact r_iret C E dX11_refer_71 rfl rfl (by first | exact Nat.le_refl _ | exact Nat.le_of_ble_eq_true rfl | omega) (by first | exact Nat.le_refl _ | exact Nat.le_of_ble_eq_true rfl | omega)
    · rcases q with q | q
      · exact absurd q c_22
      · exact absurd c_31 q
theorem c_refer_x1 (l : Launch) (G : Gl) {h : Hp} {H : Nat} {x y u f : Int32} (hkH : hK h H = 9) (Mr : MRw l G yX11_ruleOf (.code yX11_ruleOf cX11_ruleOf 3 (Option.some (Jvm.ClassFile.FieldType.object "CascadeHouse$Rule"))) 8 1 6 [.ref H, .int x] h (.inr (xI, h))) : MRw l G yX11_refer (.code yX11_refer cX11_refer 6 (Option.some Jvm.ClassFile.FieldType.int)) 12 30 600 [.ref H, .int x, .int y, .int u, .int f] h (.inr (xI, h)) := by
  refine mr_of (by decide +kernel) (Nat.le_of_ble_eq_true rfl) (ct5 (by first | rfl | exact isR_cat (isR_rf _)) (by first | rfl | exact isR_cat (isR_rf _)) (by first | rfl | exact isR_cat (isR_rf _)) (by first | rfl | exact isR_cat (isR_rf _)) (by first | rfl | exact isR_cat (isR_rf _))) (fun X hG hl C E => ?_)
  subst hG hl
  refine r_aload_n (i := 0) C dX11_refer_0 rfl rfl (by first | rfl | exact isR_rf _) ?_
  refine r_iload_n (i := 1) C dX11_refer_1 rfl rfl ?_
  exact r_callVx C v_X11_126 Mr dX11_refer_2 (by assumption) (ci := 9) (by decide) rfl rfl (As := [_]) rfl rfl rfl (by first | exact Nat.le_refl _ | exact Nat.le_of_ble_eq_true rfl | omega) (Nat.le_of_ble_eq_true rfl) (by first | exact Nat.le_refl _ | exact Nat.le_of_ble_eq_true rfl | omega) (by first | exact Nat.le_refl _ | exact Nat.le_of_ble_eq_true rfl | omega) E rfl (by first | exact Nat.le_refl _ | exact Nat.le_of_ble_eq_true rfl | omega) (by first | exact Nat.le_refl _ | exact Nat.le_of_ble_eq_true rfl | omega)
theorem c_refer_x2 (l : Launch) (G : Gl) {h : Hp} {H r : Nat} {x y u f : Int32} (hkH : hK h H = 9) (Mr : MRw l G yX11_ruleOf (.code yX11_ruleOf cX11_ruleOf 3 (Option.some (Jvm.ClassFile.FieldType.object "CascadeHouse$Rule"))) 8 1 6 [.ref H, .int x] h (.inl (some (.ref r), h))) (q : y < 0 ∨ 14 < y) : MRw l G yX11_refer (.code yX11_refer cX11_refer 6 (Option.some Jvm.ClassFile.FieldType.int)) 12 30 600 [.ref H, .int x, .int y, .int u, .int f] h (.inr (xI, h)) := by
  refine mr_of (by decide +kernel) (Nat.le_of_ble_eq_true rfl) (ct5 (by first | rfl | exact isR_cat (isR_rf _)) (by first | rfl | exact isR_cat (isR_rf _)) (by first | rfl | exact isR_cat (isR_rf _)) (by first | rfl | exact isR_cat (isR_rf _)) (by first | rfl | exact isR_cat (isR_rf _))) (fun X hG hl C E => ?_)
  subst hG hl
  refine r_aload_n (i := 0) C dX11_refer_0 rfl rfl (by first | rfl | exact isR_rf _) ?_
  refine r_iload_n (i := 1) C dX11_refer_1 rfl rfl ?_
  refine r_callVs C v_X11_126 Mr dX11_refer_2 (by assumption) (ci := 9) (by decide) rfl rfl (As := [_]) rfl rfl rfl (by first | exact Nat.le_refl _ | exact Nat.le_of_ble_eq_true rfl | omega) (Nat.le_of_ble_eq_true rfl) (by first | exact Nat.le_refl _ | exact Nat.le_of_ble_eq_true rfl | omega) (by first | exact Nat.le_refl _ | exact Nat.le_of_ble_eq_true rfl | omega) ?_
  refine r_astore (i := 5) C dX11_refer_5 (Nat.le_of_ble_eq_true rfl) (by first | rfl | exact isR_rf _) ?_
  refine r_iload_n (i := 2) C dX11_refer_7 rfl rfl ?_
  refine r_bipush (v := 14) C dX11_refer_8 (by decide) ?_
  exact r_callSx C s_X11_144 (cP_no q) dX11_refer_10 (As := [_, _]) rfl rfl rfl (by first | exact Nat.le_refl _ | exact Nat.le_of_ble_eq_true rfl | omega) (Nat.le_of_ble_eq_true rfl) (by first | exact Nat.le_refl _ | exact Nat.le_of_ble_eq_true rfl | omega) (by first | exact Nat.le_refl _ | exact Nat.le_of_ble_eq_true rfl | omega) E rfl (by first | exact Nat.le_refl _ | exact Nat.le_of_ble_eq_true rfl | omega) (by first | exact Nat.le_refl _ | exact Nat.le_of_ble_eq_true rfl | omega)
theorem c_refer_x3 (l : Launch) (G : Gl) {h : Hp} {H r p : Nat} {x u f : Int32} (hkH : hK h H = 9) (Mr : MRw l G yX11_ruleOf (.code yX11_ruleOf cX11_ruleOf 3 (Option.some (Jvm.ClassFile.FieldType.object "CascadeHouse$Rule"))) 8 1 6 [.ref H, .int x] h (.inl (some (.ref r), h))) (hp : p ≤ 14) (qu : u < 0 ∨ 3 < u) : MRw l G yX11_refer (.code yX11_refer cX11_refer 6 (Option.some Jvm.ClassFile.FieldType.int)) 12 30 600 [.ref H, .int x, .int (nI p), .int u, .int f] h (.inr (xA, h)) := by
  refine mr_of (by decide +kernel) (Nat.le_of_ble_eq_true rfl) (ct5 (by first | rfl | exact isR_cat (isR_rf _)) (by first | rfl | exact isR_cat (isR_rf _)) (by first | rfl | exact isR_cat (isR_rf _)) (by first | rfl | exact isR_cat (isR_rf _)) (by first | rfl | exact isR_cat (isR_rf _))) (fun X hG hl C E => ?_)
  subst hG hl
  refine r_aload_n (i := 0) C dX11_refer_0 rfl rfl (by first | rfl | exact isR_rf _) ?_
  refine r_iload_n (i := 1) C dX11_refer_1 rfl rfl ?_
  refine r_callVs C v_X11_126 Mr dX11_refer_2 (by assumption) (ci := 9) (by decide) rfl rfl (As := [_]) rfl rfl rfl (by first | exact Nat.le_refl _ | exact Nat.le_of_ble_eq_true rfl | omega) (Nat.le_of_ble_eq_true rfl) (by first | exact Nat.le_refl _ | exact Nat.le_of_ble_eq_true rfl | omega) (by first | exact Nat.le_refl _ | exact Nat.le_of_ble_eq_true rfl | omega) ?_
  refine r_astore (i := 5) C dX11_refer_5 (Nat.le_of_ble_eq_true rfl) (by first | rfl | exact isR_rf _) ?_
  refine r_iload_n (i := 2) C dX11_refer_7 rfl rfl ?_
  refine r_bipush (v := 14) C dX11_refer_8 (by decide) ?_
  refine r_callSn C s_X11_144 (cP_ok (dP14 hp)) dX11_refer_10 (As := [_, _]) rfl rfl rfl (by first | exact Nat.le_refl _ | exact Nat.le_of_ble_eq_true rfl | omega) (Nat.le_of_ble_eq_true rfl) (by first | exact Nat.le_refl _ | exact Nat.le_of_ble_eq_true rfl | omega) (by first | exact Nat.le_refl _ | exact Nat.le_of_ble_eq_true rfl | omega) ?_
  refine r_iload_n (i := 3) C dX11_refer_13 rfl rfl ?_
  refine r_iconst (v := 0) C dX11_refer_14 (by decide) ?_
  refine r_iconst (v := 3) C dX11_refer_15 (by decide) ?_
  exact r_callSx C s_X11_47 (cR_no qu) dX11_refer_16 (As := [_, _, _]) rfl rfl rfl (by first | exact Nat.le_refl _ | exact Nat.le_of_ble_eq_true rfl | omega) (Nat.le_of_ble_eq_true rfl) (by first | exact Nat.le_refl _ | exact Nat.le_of_ble_eq_true rfl | omega) (by first | exact Nat.le_refl _ | exact Nat.le_of_ble_eq_true rfl | omega) E rfl (by first | exact Nat.le_refl _ | exact Nat.le_of_ble_eq_true rfl | omega) (by first | exact Nat.le_refl _ | exact Nat.le_of_ble_eq_true rfl | omega)
theorem c_refer_x5 (l : Launch) (G : Gl) {h : Hp} {H r p : Nat} {x u f : Int32} (hkH : hK h H = 9) (Mr : MRw l G yX11_ruleOf (.code yX11_ruleOf cX11_ruleOf 3 (Option.some (Jvm.ClassFile.FieldType.object "CascadeHouse$Rule"))) 8 1 6 [.ref H, .int x] h (.inl (some (.ref r), h))) (hp : p ≤ 14) (qu : ¬ (u < 0 ∨ 3 < u)) (q1 : f ≠ -1) (q2 : (if pLe (pq p) ≤ f ∧ f ≤ pGr (pq p) then (1 : Int32) else 0) = 0) : MRw l G yX11_refer (.code yX11_refer cX11_refer 6 (Option.some Jvm.ClassFile.FieldType.int)) 12 30 600 [.ref H, .int x, .int (nI p), .int u, .int f] h (.inr (xA, h)) := by
  have M1 := c_canBe l G (h := h) (v := f) hp
  rw [q2] at M1
  refine mr_of (by decide +kernel) (Nat.le_of_ble_eq_true rfl) (ct5 (by first | rfl | exact isR_cat (isR_rf _)) (by first | rfl | exact isR_cat (isR_rf _)) (by first | rfl | exact isR_cat (isR_rf _)) (by first | rfl | exact isR_cat (isR_rf _)) (by first | rfl | exact isR_cat (isR_rf _))) (fun X hG hl C E => ?_)
  subst hG hl
  refine r_aload_n (i := 0) C dX11_refer_0 rfl rfl (by first | rfl | exact isR_rf _) ?_
  refine r_iload_n (i := 1) C dX11_refer_1 rfl rfl ?_
  refine r_callVs C v_X11_126 Mr dX11_refer_2 (by assumption) (ci := 9) (by decide) rfl rfl (As := [_]) rfl rfl rfl (by first | exact Nat.le_refl _ | exact Nat.le_of_ble_eq_true rfl | omega) (Nat.le_of_ble_eq_true rfl) (by first | exact Nat.le_refl _ | exact Nat.le_of_ble_eq_true rfl | omega) (by first | exact Nat.le_refl _ | exact Nat.le_of_ble_eq_true rfl | omega) ?_
  refine r_astore (i := 5) C dX11_refer_5 (Nat.le_of_ble_eq_true rfl) (by first | rfl | exact isR_rf _) ?_
  refine r_iload_n (i := 2) C dX11_refer_7 rfl rfl ?_
  refine r_bipush (v := 14) C dX11_refer_8 (by decide) ?_
  refine r_callSn C s_X11_144 (cP_ok (dP14 hp)) dX11_refer_10 (As := [_, _]) rfl rfl rfl (by first | exact Nat.le_refl _ | exact Nat.le_of_ble_eq_true rfl | omega) (Nat.le_of_ble_eq_true rfl) (by first | exact Nat.le_refl _ | exact Nat.le_of_ble_eq_true rfl | omega) (by first | exact Nat.le_refl _ | exact Nat.le_of_ble_eq_true rfl | omega) ?_
  refine r_iload_n (i := 3) C dX11_refer_13 rfl rfl ?_
  refine r_iconst (v := 0) C dX11_refer_14 (by decide) ?_
  refine r_iconst (v := 3) C dX11_refer_15 (by decide) ?_
  refine r_callSn C s_X11_47 (cR_ok qu) dX11_refer_16 (As := [_, _, _]) rfl rfl rfl (by first | exact Nat.le_refl _ | exact Nat.le_of_ble_eq_true rfl | omega) (Nat.le_of_ble_eq_true rfl) (by first | exact Nat.le_refl _ | exact Nat.le_of_ble_eq_true rfl | omega) (by first | exact Nat.le_refl _ | exact Nat.le_of_ble_eq_true rfl | omega) ?_
  refine r_iload (i := 4) C dX11_refer_19 rfl ?_
  refine r_iconst (v := (-1)) C dX11_refer_21 (by decide) ?_
  refine r_ic_eq (tgt := 44) C dX11_refer_22 (by decide) (fun c_22 => ?_) (fun c_22 => ?_)
  · exact absurd c_22 q1
  · refine r_iload_n (i := 2) C dX11_refer_25 rfl rfl ?_
    refine r_iload (i := 4) C dX11_refer_26 rfl ?_
    refine r_callSs C s_X11_148 M1 dX11_refer_28 (As := [_, _]) rfl rfl rfl (by first | exact Nat.le_refl _ | exact Nat.le_of_ble_eq_true rfl | omega) (Nat.le_of_ble_eq_true rfl) (by first | exact Nat.le_refl _ | exact Nat.le_of_ble_eq_true rfl | omega) (by first | exact Nat.le_refl _ | exact Nat.le_of_ble_eq_true rfl | omega) ?_
    refine r_if_ne (tgt := 44) C dX11_refer_31 (by decide) (fun c_31 => ?_) (fun c_31 => ?_)
    · exact absurd rfl c_31
    · exact r_throw (tx := "the property cannot be the fallback") C E rfl rfl (by decide +kernel) c_X11_91 w_xA (by decide +kernel) (by decide +kernel) at_A rfl (Nat.le_of_ble_eq_true rfl) dX11_refer_34 dX11_refer_37 dX11_refer_38 dX11_refer_40 dX11_refer_43 (by first | exact Nat.le_refl _ | exact Nat.le_of_ble_eq_true rfl | omega) (by first | exact Nat.le_refl _ | exact Nat.le_of_ble_eq_true rfl | omega) (by first | exact Nat.le_refl _ | exact Nat.le_of_ble_eq_true rfl | omega) (by first | exact Nat.le_refl _ | exact Nat.le_of_ble_eq_true rfl | omega) (by first | exact Nat.le_refl _ | exact Nat.le_of_ble_eq_true rfl | omega)
theorem c_refer_x4 (l : Launch) (G : Gl) {h : Hp} {H r p : Nat} {x u f : Int32} (hkH : hK h H = 9) (Mr : MRw l G yX11_ruleOf (.code yX11_ruleOf cX11_ruleOf 3 (Option.some (Jvm.ClassFile.FieldType.object "CascadeHouse$Rule"))) 8 1 6 [.ref H, .int x] h (.inl (some (.ref r), h))) (hp : p ≤ 14) (qu : ¬ (u < 0 ∨ 3 < u)) (q : f = -1 ∨ (if pLe (pq p) ≤ f ∧ f ≤ pGr (pq p) then (1 : Int32) else 0) ≠ 0) (Mp : MRw l G yX11_putInto (.code yX11_putInto cX11_putInto 3 none) 8 1 6 [.ref r, .int (nI p), .ref (hN h)] (nwD h 5 f u) (.inr (xS, nwD h 5 f u))) : MRw l G yX11_refer (.code yX11_refer cX11_refer 6 (Option.some Jvm.ClassFile.FieldType.int)) 12 30 600 [.ref H, .int x, .int (nI p), .int u, .int f] h (.inr (xS, nwD h 5 f u)) := by
  have M1 := c_canBe l G (h := h) (v := f) hp
  have M3 := c_declInit l G (h := nw h 2 0) (a := hN h) (x0 := 5) (x1 := f) (x2 := u) (by rw [hK_nw, va_up_self])
  refine mr_of (by decide +kernel) (Nat.le_of_ble_eq_true rfl) (ct5 (by first | rfl | exact isR_cat (isR_rf _)) (by first | rfl | exact isR_cat (isR_rf _)) (by first | rfl | exact isR_cat (isR_rf _)) (by first | rfl | exact isR_cat (isR_rf _)) (by first | rfl | exact isR_cat (isR_rf _))) (fun X hG hl C E => ?_)
  subst hG hl
  refine r_aload_n (i := 0) C dX11_refer_0 rfl rfl (by first | rfl | exact isR_rf _) ?_
  refine r_iload_n (i := 1) C dX11_refer_1 rfl rfl ?_
  refine r_callVs C v_X11_126 Mr dX11_refer_2 (by assumption) (ci := 9) (by decide) rfl rfl (As := [_]) rfl rfl rfl (by first | exact Nat.le_refl _ | exact Nat.le_of_ble_eq_true rfl | omega) (Nat.le_of_ble_eq_true rfl) (by first | exact Nat.le_refl _ | exact Nat.le_of_ble_eq_true rfl | omega) (by first | exact Nat.le_refl _ | exact Nat.le_of_ble_eq_true rfl | omega) ?_
  refine r_astore (i := 5) C dX11_refer_5 (Nat.le_of_ble_eq_true rfl) (by first | rfl | exact isR_rf _) ?_
  refine r_iload_n (i := 2) C dX11_refer_7 rfl rfl ?_
  refine r_bipush (v := 14) C dX11_refer_8 (by decide) ?_
  refine r_callSn C s_X11_144 (cP_ok (dP14 hp)) dX11_refer_10 (As := [_, _]) rfl rfl rfl (by first | exact Nat.le_refl _ | exact Nat.le_of_ble_eq_true rfl | omega) (Nat.le_of_ble_eq_true rfl) (by first | exact Nat.le_refl _ | exact Nat.le_of_ble_eq_true rfl | omega) (by first | exact Nat.le_refl _ | exact Nat.le_of_ble_eq_true rfl | omega) ?_
  refine r_iload_n (i := 3) C dX11_refer_13 rfl rfl ?_
  refine r_iconst (v := 0) C dX11_refer_14 (by decide) ?_
  refine r_iconst (v := 3) C dX11_refer_15 (by decide) ?_
  refine r_callSn C s_X11_47 (cR_ok qu) dX11_refer_16 (As := [_, _, _]) rfl rfl rfl (by first | exact Nat.le_refl _ | exact Nat.le_of_ble_eq_true rfl | omega) (Nat.le_of_ble_eq_true rfl) (by first | exact Nat.le_refl _ | exact Nat.le_of_ble_eq_true rfl | omega) (by first | exact Nat.le_refl _ | exact Nat.le_of_ble_eq_true rfl | omega) ?_
  refine r_iload (i := 4) C dX11_refer_19 rfl ?_
  refine r_iconst (v := (-1)) C dX11_refer_21 (by decide) ?_
  refine r_ic_eq (tgt := 44) C dX11_refer_22 (by decide) (fun c_22 => ?_) (fun c_22 => ?_)
  · refine r_aload (i := 5) C dX11_refer_44 rfl (by first | rfl | exact isR_rf _) ?_
    refine r_iload_n (i := 2) C dX11_refer_46 rfl rfl ?_
    refine r_new C n_X11_160 dX11_refer_47 (by first | exact Nat.le_refl _ | exact Nat.le_of_ble_eq_true rfl | omega) (by first | exact Nat.le_refl _ | exact Nat.le_of_ble_eq_true rfl | omega) ?_
    refine r_dup C (by first | rfl | exact isR_cat (isR_rf _)) dX11_refer_50 ?_
    refine r_iconst (v := 5) C dX11_refer_51 (by decide) ?_
    refine r_iload (i := 4) C dX11_refer_52 rfl ?_
    refine r_iload_n (i := 3) C dX11_refer_54 rfl rfl ?_
    refine r_callI C i_X11_162 M3 dX11_refer_55 (As := [_, _, _]) rfl rfl rfl (by first | exact Nat.le_refl _ | exact Nat.le_of_ble_eq_true rfl | omega) (Nat.le_of_ble_eq_true rfl) (by first | exact Nat.le_refl _ | exact Nat.le_of_ble_eq_true rfl | omega) (by first | exact Nat.le_refl _ | exact Nat.le_of_ble_eq_true rfl | omega) ?_
    exact r_callSx C s_X11_164 Mp dX11_refer_58 (As := [_, _, _]) rfl rfl rfl (by first | exact Nat.le_refl _ | exact Nat.le_of_ble_eq_true rfl | omega) (Nat.le_of_ble_eq_true rfl) (by first | exact Nat.le_refl _ | exact Nat.le_of_ble_eq_true rfl | omega) (by first | exact Nat.le_refl _ | exact Nat.le_of_ble_eq_true rfl | omega) E rfl (by first | exact Nat.le_refl _ | exact Nat.le_of_ble_eq_true rfl | omega) (by first | exact Nat.le_refl _ | exact Nat.le_of_ble_eq_true rfl | omega)
  · refine r_iload_n (i := 2) C dX11_refer_25 rfl rfl ?_
    refine r_iload (i := 4) C dX11_refer_26 rfl ?_
    refine r_callSs C s_X11_148 M1 dX11_refer_28 (As := [_, _]) rfl rfl rfl (by first | exact Nat.le_refl _ | exact Nat.le_of_ble_eq_true rfl | omega) (Nat.le_of_ble_eq_true rfl) (by first | exact Nat.le_refl _ | exact Nat.le_of_ble_eq_true rfl | omega) (by first | exact Nat.le_refl _ | exact Nat.le_of_ble_eq_true rfl | omega) ?_
    refine r_if_ne (tgt := 44) C dX11_refer_31 (by decide) (fun c_31 => ?_) (fun c_31 => ?_)
    · refine r_aload (i := 5) C dX11_refer_44 rfl (by first | rfl | exact isR_rf _) ?_
      refine r_iload_n (i := 2) C dX11_refer_46 rfl rfl ?_
      refine r_new C n_X11_160 dX11_refer_47 (by first | exact Nat.le_refl _ | exact Nat.le_of_ble_eq_true rfl | omega) (by first | exact Nat.le_refl _ | exact Nat.le_of_ble_eq_true rfl | omega) ?_
      refine r_dup C (by first | rfl | exact isR_cat (isR_rf _)) dX11_refer_50 ?_
      refine r_iconst (v := 5) C dX11_refer_51 (by decide) ?_
      refine r_iload (i := 4) C dX11_refer_52 rfl ?_
      refine r_iload_n (i := 3) C dX11_refer_54 rfl rfl ?_
      refine r_callI C i_X11_162 M3 dX11_refer_55 (As := [_, _, _]) rfl rfl rfl (by first | exact Nat.le_refl _ | exact Nat.le_of_ble_eq_true rfl | omega) (Nat.le_of_ble_eq_true rfl) (by first | exact Nat.le_refl _ | exact Nat.le_of_ble_eq_true rfl | omega) (by first | exact Nat.le_refl _ | exact Nat.le_of_ble_eq_true rfl | omega) ?_
      exact r_callSx C s_X11_164 Mp dX11_refer_58 (As := [_, _, _]) rfl rfl rfl (by first | exact Nat.le_refl _ | exact Nat.le_of_ble_eq_true rfl | omega) (Nat.le_of_ble_eq_true rfl) (by first | exact Nat.le_refl _ | exact Nat.le_of_ble_eq_true rfl | omega) (by first | exact Nat.le_refl _ | exact Nat.le_of_ble_eq_true rfl | omega) E rfl (by first | exact Nat.le_refl _ | exact Nat.le_of_ble_eq_true rfl | omega) (by first | exact Nat.le_refl _ | exact Nat.le_of_ble_eq_true rfl | omega)
    · rcases q with q | q
      · exact absurd q c_22
      · exact absurd c_31 q
