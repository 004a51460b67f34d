/-! ===== the calls declare, say, refer, empty: the walks ===== -/
/-- a new declaration -/
def nwD (h : Hp) (x0 x1 x2 : Int32) : Hp := sI (sI (sI (nw h 2 0) fD_kind (hN h) x0) fD_number (hN h) x1) fD_variable (hN h) x2
theorem nwD_s (h : Hp) (x0 x1 x2 : Int32) : hN (nwD h x0 x1 x2) = hN h + 1 ∧ hK (nwD h x0 x1 x2) (hN h) = 2 ∧ (∀ a, a < hN h → hK (nwD h x0 x1 x2) a = hK h a) ∧ hR (nwD h x0 x1 x2) = hR h ∧ hI (nwD h x0 x1 x2) fD_kind (hN h) = x0 ∧ hI (nwD h x0 x1 x2) fD_number (hN h) = x1 ∧ hI (nwD h x0 x1 x2) fD_variable (hN h) = x2 := by
  unfold nwD
  refine ⟨rfl, ?_, fun a ha => ?_, rfl, ?_, ?_, ?_⟩
  · rw [hK_sI, hK_sI, hK_sI, hK_nw, va_up_self]
  · rw [hK_sI, hK_sI, hK_sI, hK_nw, va_up_ne _ _ (by omega)]
  · rw [iI_ne (by decide), iI_ne (by decide), iI_at]
  · rw [iI_ne (by decide), iI_at]
  · rw [iI_at]
theorem nwD_O (h : Hp) (x0 x1 x2 : Int32) : OLD h (nwD h x0 x1 x2) := OLD_sI (Nat.le_refl _) (OLD_sI (Nat.le_refl _) (OLD_sI (Nat.le_refl _) OLD_nw))
theorem nwD_g {h : Hp} {x0 x1 x2 : Int32} (hg : Good h) : Good (nwD h x0 x1 x2) := gd_sI (gd_sI (gd_sI (gd_nw hg (by decide) (by decide)) (by rw [hN_nw]; omega)) (by rw [hN_sI, hN_nw]; omega)) (by rw [hN_sI, hN_sI, hN_nw]; omega)
theorem c_declare_ok (l : Launch) (G : Gl) {h h1 h2 : Hp} {H r p j : Nat} {x v : Int32} (hkH : hK h H = 9) (Mr : MRw l G yX11_ruleOf (.code yX11_ruleOf cX11_ruleOf 3 (Option.some (Jvm.ClassFile.FieldType.object "CascadeHouse$Rule"))) 8 1 6 [.ref H, .int x] h (.inl (some (.ref r), h))) (hp : p ≤ 14) (q : (if pLe (pq p) ≤ v ∧ v ≤ pGr (pq p) then (1 : Int32) else 0) ≠ 0 ∨ v = -2 ∧ p < 3) (Mp : MRw l G yX11_putInto (.code yX11_putInto cX11_putInto 3 none) 8 1 6 [.ref r, .int (nI p), .ref (hN h)] (nwD h 4 v (-1)) (.inl (none, h1))) (hkH1 : hK h1 H = 9) (Ms : MRw l G yX11_settle (.code yX11_settle cX11_settle 4 none) 11 j (60 * j) [.ref H, .int (nI 0)] h1 (.inl (none, h2))) (hj : j ≤ 3) (hk2 : hK h2 r = 6) : MRw l G yX11_declare (.code yX11_declare cX11_declare 5 (Option.some Jvm.ClassFile.FieldType.int)) 12 30 600 [.ref H, .int x, .int (nI p), .int v] h (.inl (some (.int (hI h2 fU_declarationCount r)), h2)) := by
  have M1 := c_canBe l G (h := h) (v := v) hp
  have M2 := c_canBeAuto l G (h := h) (p := nI p)
  have M3 := c_declInit l G (h := nw h 2 0) (a := hN h) (x0 := 4) (x1 := v) (x2 := -1) (by rw [hK_nw, va_up_self])
  refine mr_of (by decide +kernel) (Nat.le_of_ble_eq_true rfl) (ct4 (by first | rfl | exact isR_cat (isR_rf _)) (by first | rfl | exact isR_cat (isR_rf _)) (by first | rfl | exact isR_cat (isR_rf _)) (by first | rfl | exact isR_cat (isR_rf _))) (fun X hG hl C E => ?_)
  subst hG hl
  refine r_aload_n (i := 0) C dX11_declare_0 rfl rfl (by first | rfl | exact isR_rf _) ?_
  refine r_iload_n (i := 1) C dX11_declare_1 rfl rfl ?_
  refine r_callVs C v_X11_126 Mr dX11_declare_2 (by assumption) (ci := 9) (by decide) rfl rfl (As := [_]) rfl rfl rfl (by first | exact Nat.le_refl _ | exact Nat.le_of_ble_eq_true rfl | omega) (Nat.le_of_ble_eq_true rfl) (by first | exact Nat.le_refl _ | exact Nat.le_of_ble_eq_true rfl | omega) (by first | exact Nat.le_refl _ | exact Nat.le_of_ble_eq_true rfl | omega) ?_
  refine r_astore (i := 4) C dX11_declare_5 (Nat.le_of_ble_eq_true rfl) (by first | rfl | exact isR_rf _) ?_
  refine r_iload_n (i := 2) C dX11_declare_7 rfl rfl ?_
  refine r_bipush (v := 14) C dX11_declare_8 (by decide) ?_
  refine r_callSn C s_X11_144 (cP_ok (fun z => z.elim (nI_pos (by omega)) (fun y => absurd (show nI 14 < nI p from y) (nI_nlt hp (by decide))))) dX11_declare_10 (As := [_, _]) rfl rfl rfl (by first | exact Nat.le_refl _ | exact Nat.le_of_ble_eq_true rfl | omega) (Nat.le_of_ble_eq_true rfl) (by first | exact Nat.le_refl _ | exact Nat.le_of_ble_eq_true rfl | omega) (by first | exact Nat.le_refl _ | exact Nat.le_of_ble_eq_true rfl | omega) ?_
  refine r_iload_n (i := 2) C dX11_declare_13 rfl rfl ?_
  refine r_iload_n (i := 3) C dX11_declare_14 rfl rfl ?_
  refine r_callSs C s_X11_148 M1 dX11_declare_15 (As := [_, _]) rfl rfl rfl (by first | exact Nat.le_refl _ | exact Nat.le_of_ble_eq_true rfl | omega) (Nat.le_of_ble_eq_true rfl) (by first | exact Nat.le_refl _ | exact Nat.le_of_ble_eq_true rfl | omega) (by first | exact Nat.le_refl _ | exact Nat.le_of_ble_eq_true rfl | omega) ?_
  refine r_if_ne (tgt := 44) C dX11_declare_18 (by decide) (fun c_18 => ?_) (fun c_18 => ?_)
  · refine r_aload (i := 4) C dX11_declare_44 rfl (by first | rfl | exact isR_rf _) ?_
    refine r_iload_n (i := 2) C dX11_declare_46 rfl rfl ?_
    refine r_new C n_X11_160 dX11_declare_47 (by first | exact Nat.le_refl _ | exact Nat.le_of_ble_eq_true rfl | omega) (by first | exact Nat.le_refl _ | exact Nat.le_of_ble_eq_true rfl | omega) ?_
    refine r_dup C (by first | rfl | exact isR_cat (isR_rf _)) dX11_declare_50 ?_
    refine r_iconst (v := 4) C dX11_declare_51 (by decide) ?_
    refine r_iload_n (i := 3) C dX11_declare_52 rfl rfl ?_
    refine r_iconst (v := (-1)) C dX11_declare_53 (by decide) ?_
    refine r_callI C i_X11_162 M3 dX11_declare_54 (As := [_, _, _]) rfl rfl rfl (by first | exact Nat.le_refl _ | exact Nat.le_of_ble_eq_true rfl | omega) (Nat.le_of_ble_eq_true rfl) (by first | exact Nat.le_refl _ | exact Nat.le_of_ble_eq_true rfl | omega) (by first | exact Nat.le_refl _ | exact Nat.le_of_ble_eq_true rfl | omega) ?_
    refine r_callSn C s_X11_164 Mp dX11_declare_57 (As := [_, _, _]) rfl rfl rfl (by first | exact Nat.le_refl _ | exact Nat.le_of_ble_eq_true rfl | omega) (Nat.le_of_ble_eq_true rfl) (by first | exact Nat.le_refl _ | exact Nat.le_of_ble_eq_true rfl | omega) (by first | exact Nat.le_refl _ | exact Nat.le_of_ble_eq_true rfl | omega) ?_
    refine r_aload_n (i := 0) C dX11_declare_60 rfl rfl (by first | rfl | exact isR_rf _) ?_
    refine r_iconst (v := 0) C dX11_declare_61 (by decide) ?_
    refine r_callVn C v_X11_36 Ms dX11_declare_62 (by assumption) (ci := 9) (by decide) rfl rfl (As := [_]) rfl rfl rfl (by first | exact Nat.le_refl _ | exact Nat.le_of_ble_eq_true rfl | omega) (Nat.le_of_ble_eq_true rfl) (by first | exact Nat.le_refl _ | exact Nat.le_of_ble_eq_true rfl | omega) (by first | exact Nat.le_refl _ | exact Nat.le_of_ble_eq_true rfl | omega) ?_
    refine r_aload (i := 4) C dX11_declare_65 rfl (by first | rfl | exact isR_rf _) ?_
    refine r_getI C f_X11_168 dX11_declare_67 rfl (by assumption) ?_
    exact r_iret C E dX11_declare_70 rfl rfl (by first | exact Nat.le_refl _ | exact Nat.le_of_ble_eq_true rfl | omega) (by first | exact Nat.le_refl _ | exact Nat.le_of_ble_eq_true rfl | omega)
  · refine r_iload_n (i := 3) C dX11_declare_21 rfl rfl ?_
    refine r_bipush (v := (-2)) C dX11_declare_22 (by decide) ?_
    refine r_ic_ne (tgt := 34) C dX11_declare_24 (by decide) (fun c_24 => ?_) (fun c_24 => ?_)
    · rcases q with q | q
      · exact absurd c_18 q
      · exact absurd q.1 c_24
    · refine r_iload_n (i := 2) C dX11_declare_27 rfl rfl ?_
      refine r_callSs C s_X11_154 M2 dX11_declare_28 (As := [_]) rfl rfl rfl (by first | exact Nat.le_refl _ | exact Nat.le_of_ble_eq_true rfl | omega) (Nat.le_of_ble_eq_true rfl) (by first | exact Nat.le_refl _ | exact Nat.le_of_ble_eq_true rfl | omega) (by first | exact Nat.le_refl _ | exact Nat.le_of_ble_eq_true rfl | omega) ?_
      refine r_if_ne (tgt := 44) C dX11_declare_31 (by decide) (fun c_31 => ?_) (fun c_31 => ?_)
      · refine r_aload (i := 4) C dX11_declare_44 rfl (by first | rfl | exact isR_rf _) ?_
        refine r_iload_n (i := 2) C dX11_declare_46 rfl rfl ?_
        refine r_new C n_X11_160 dX11_declare_47 (by first | exact Nat.le_refl _ | exact Nat.le_of_ble_eq_true rfl | omega) (by first | exact Nat.le_refl _ | exact Nat.le_of_ble_eq_true rfl | omega) ?_
        refine r_dup C (by first | rfl | exact isR_cat (isR_rf _)) dX11_declare_50 ?_
        refine r_iconst (v := 4) C dX11_declare_51 (by decide) ?_
        refine r_iload_n (i := 3) C dX11_declare_52 rfl rfl ?_
        refine r_iconst (v := (-1)) C dX11_declare_53 (by decide) ?_
        refine r_callI C i_X11_162 M3 dX11_declare_54 (As := [_, _, _]) rfl rfl rfl (by first | exact Nat.le_refl _ | exact Nat.le_of_ble_eq_true rfl | omega) (Nat.le_of_ble_eq_true rfl) (by first | exact Nat.le_refl _ | exact Nat.le_of_ble_eq_true rfl | omega) (by first | exact Nat.le_refl _ | exact Nat.le_of_ble_eq_true rfl | omega) ?_
        refine r_callSn C s_X11_164 Mp dX11_declare_57 (As := [_, _, _]) rfl rfl rfl (by first | exact Nat.le_refl _ | exact Nat.le_of_ble_eq_true rfl | omega) (Nat.le_of_ble_eq_true rfl) (by first | exact Nat.le_refl _ | exact Nat.le_of_ble_eq_true rfl | omega) (by first | exact Nat.le_refl _ | exact Nat.le_of_ble_eq_true rfl | omega) ?_
        refine r_aload_n (i := 0) C dX11_declare_60 rfl rfl (by first | rfl | exact isR_rf _) ?_
        refine r_iconst (v := 0) C dX11_declare_61 (by decide) ?_
        refine r_callVn C v_X11_36 Ms dX11_declare_62 (by assumption) (ci := 9) (by decide) rfl rfl (As := [_]) rfl rfl rfl (by first | exact Nat.le_refl _ | exact Nat.le_of_ble_eq_true rfl | omega) (Nat.le_of_ble_eq_true rfl) (by first | exact Nat.le_refl _ | exact Nat.le_of_ble_eq_true rfl | omega) (by first | exact Nat.le_refl _ | exact Nat.le_of_ble_eq_true rfl | omega) ?_
        refine r_aload (i := 4) C dX11_declare_65 rfl (by first | rfl | exact isR_rf _) ?_
        refine r_getI C f_X11_168 dX11_declare_67 rfl (by assumption) ?_
        exact r_iret C E dX11_declare_70 rfl rfl (by first | exact Nat.le_refl _ | exact Nat.le_of_ble_eq_true rfl | omega) (by first | exact Nat.le_refl _ | exact Nat.le_of_ble_eq_true rfl | omega)
      · rcases q with q | q
        · exact absurd c_18 q
        · have e : p = 0 ∨ p = 1 ∨ p = 2 := by omega
          rcases e with e | e | e <;> subst e <;> exact absurd c_31 (by decide)
theorem dP14 {p : Nat} (hp : p ≤ 14) : ¬ (nI p < 0 ∨ 14 < nI p) := fun z => z.elim (nI_pos (by omega)) (fun y => absurd (show nI 14 < nI p from y) (nI_nlt hp (by decide)))
theorem c_declare_x1 (l : Launch) (G : Gl) {h : Hp} {H : Nat} {x y v : Int32} (hkH : hK h H = 9) (Mr : MRw l G yX11_ruleOf (.code yX11_ruleOf cX11_ruleOf 3 (Option.some (Jvm.ClassFile.FieldType.object "CascadeHouse$Rule"))) 8 1 6 [.ref H, .int x] h (.inr (xI, h))) : MRw l G yX11_declare (.code yX11_declare cX11_declare 5 (Option.some Jvm.ClassFile.FieldType.int)) 12 30 600 [.ref H, .int x, .int y, .int v] h (.inr (xI, h)) := by
  refine mr_of (by decide +kernel) (Nat.le_of_ble_eq_true rfl) (ct4 (by first | rfl | exact isR_cat (isR_rf _)) (by first | rfl | exact isR_cat (isR_rf _)) (by first | rfl | exact isR_cat (isR_rf _)) (by first | rfl | exact isR_cat (isR_rf _))) (fun X hG hl C E => ?_)
  subst hG hl
  refine r_aload_n (i := 0) C dX11_declare_0 rfl rfl (by first | rfl | exact isR_rf _) ?_
  refine r_iload_n (i := 1) C dX11_declare_1 rfl rfl ?_
  exact r_callVx C v_X11_126 Mr dX11_declare_2 (by assumption) (ci := 9) (by decide) rfl rfl (As := [_]) rfl rfl rfl (by first | exact Nat.le_refl _ | exact Nat.le_of_ble_eq_true rfl | omega) (Nat.le_of_ble_eq_true rfl) (by first | exact Nat.le_refl _ | exact Nat.le_of_ble_eq_true rfl | omega) (by first | exact Nat.le_refl _ | exact Nat.le_of_ble_eq_true rfl | omega) E rfl (by first | exact Nat.le_refl _ | exact Nat.le_of_ble_eq_true rfl | omega) (by first | exact Nat.le_refl _ | exact Nat.le_of_ble_eq_true rfl | omega)
theorem c_declare_x2 (l : Launch) (G : Gl) {h : Hp} {H r : Nat} {x y v : Int32} (hkH : hK h H = 9) (Mr : MRw l G yX11_ruleOf (.code yX11_ruleOf cX11_ruleOf 3 (Option.some (Jvm.ClassFile.FieldType.object "CascadeHouse$Rule"))) 8 1 6 [.ref H, .int x] h (.inl (some (.ref r), h))) (q : y < 0 ∨ 14 < y) : MRw l G yX11_declare (.code yX11_declare cX11_declare 5 (Option.some Jvm.ClassFile.FieldType.int)) 12 30 600 [.ref H, .int x, .int y, .int v] h (.inr (xI, h)) := by
  refine mr_of (by decide +kernel) (Nat.le_of_ble_eq_true rfl) (ct4 (by first | rfl | exact isR_cat (isR_rf _)) (by first | rfl | exact isR_cat (isR_rf _)) (by first | rfl | exact isR_cat (isR_rf _)) (by first | rfl | exact isR_cat (isR_rf _))) (fun X hG hl C E => ?_)
  subst hG hl
  refine r_aload_n (i := 0) C dX11_declare_0 rfl rfl (by first | rfl | exact isR_rf _) ?_
  refine r_iload_n (i := 1) C dX11_declare_1 rfl rfl ?_
  refine r_callVs C v_X11_126 Mr dX11_declare_2 (by assumption) (ci := 9) (by decide) rfl rfl (As := [_]) rfl rfl rfl (by first | exact Nat.le_refl _ | exact Nat.le_of_ble_eq_true rfl | omega) (Nat.le_of_ble_eq_true rfl) (by first | exact Nat.le_refl _ | exact Nat.le_of_ble_eq_true rfl | omega) (by first | exact Nat.le_refl _ | exact Nat.le_of_ble_eq_true rfl | omega) ?_
  refine r_astore (i := 4) C dX11_declare_5 (Nat.le_of_ble_eq_true rfl) (by first | rfl | exact isR_rf _) ?_
  refine r_iload_n (i := 2) C dX11_declare_7 rfl rfl ?_
  refine r_bipush (v := 14) C dX11_declare_8 (by decide) ?_
  exact r_callSx C s_X11_144 (cP_no q) dX11_declare_10 (As := [_, _]) rfl rfl rfl (by first | exact Nat.le_refl _ | exact Nat.le_of_ble_eq_true rfl | omega) (Nat.le_of_ble_eq_true rfl) (by first | exact Nat.le_refl _ | exact Nat.le_of_ble_eq_true rfl | omega) (by first | exact Nat.le_refl _ | exact Nat.le_of_ble_eq_true rfl | omega) E rfl (by first | exact Nat.le_refl _ | exact Nat.le_of_ble_eq_true rfl | omega) (by first | exact Nat.le_refl _ | exact Nat.le_of_ble_eq_true rfl | omega)
theorem c_declare_x3 (l : Launch) (G : Gl) {h : Hp} {H r p : Nat} {x v : Int32} (hkH : hK h H = 9) (Mr : MRw l G yX11_ruleOf (.code yX11_ruleOf cX11_ruleOf 3 (Option.some (Jvm.ClassFile.FieldType.object "CascadeHouse$Rule"))) 8 1 6 [.ref H, .int x] h (.inl (some (.ref r), h))) (hp : p ≤ 14) (q1 : (if pLe (pq p) ≤ v ∧ v ≤ pGr (pq p) then (1 : Int32) else 0) = 0) (q2 : ¬ (v = -2 ∧ p < 3)) : MRw l G yX11_declare (.code yX11_declare cX11_declare 5 (Option.some Jvm.ClassFile.FieldType.int)) 12 30 600 [.ref H, .int x, .int (nI p), .int v] h (.inr (xA, h)) := by
  have M1 := c_canBe l G (h := h) (v := v) hp
  have M2 := c_canBeAuto l G (h := h) (p := nI p)
  rw [q1] at M1
  refine mr_of (by decide +kernel) (Nat.le_of_ble_eq_true rfl) (ct4 (by first | rfl | exact isR_cat (isR_rf _)) (by first | rfl | exact isR_cat (isR_rf _)) (by first | rfl | exact isR_cat (isR_rf _)) (by first | rfl | exact isR_cat (isR_rf _))) (fun X hG hl C E => ?_)
  subst hG hl
  refine r_aload_n (i := 0) C dX11_declare_0 rfl rfl (by first | rfl | exact isR_rf _) ?_
  refine r_iload_n (i := 1) C dX11_declare_1 rfl rfl ?_
  refine r_callVs C v_X11_126 Mr dX11_declare_2 (by assumption) (ci := 9) (by decide) rfl rfl (As := [_]) rfl rfl rfl (by first | exact Nat.le_refl _ | exact Nat.le_of_ble_eq_true rfl | omega) (Nat.le_of_ble_eq_true rfl) (by first | exact Nat.le_refl _ | exact Nat.le_of_ble_eq_true rfl | omega) (by first | exact Nat.le_refl _ | exact Nat.le_of_ble_eq_true rfl | omega) ?_
  refine r_astore (i := 4) C dX11_declare_5 (Nat.le_of_ble_eq_true rfl) (by first | rfl | exact isR_rf _) ?_
  refine r_iload_n (i := 2) C dX11_declare_7 rfl rfl ?_
  refine r_bipush (v := 14) C dX11_declare_8 (by decide) ?_
  refine r_callSn C s_X11_144 (cP_ok (dP14 hp)) dX11_declare_10 (As := [_, _]) rfl rfl rfl (by first | exact Nat.le_refl _ | exact Nat.le_of_ble_eq_true rfl | omega) (Nat.le_of_ble_eq_true rfl) (by first | exact Nat.le_refl _ | exact Nat.le_of_ble_eq_true rfl | omega) (by first | exact Nat.le_refl _ | exact Nat.le_of_ble_eq_true rfl | omega) ?_
  refine r_iload_n (i := 2) C dX11_declare_13 rfl rfl ?_
  refine r_iload_n (i := 3) C dX11_declare_14 rfl rfl ?_
  refine r_callSs C s_X11_148 M1 dX11_declare_15 (As := [_, _]) rfl rfl rfl (by first | exact Nat.le_refl _ | exact Nat.le_of_ble_eq_true rfl | omega) (Nat.le_of_ble_eq_true rfl) (by first | exact Nat.le_refl _ | exact Nat.le_of_ble_eq_true rfl | omega) (by first | exact Nat.le_refl _ | exact Nat.le_of_ble_eq_true rfl | omega) ?_
  refine r_if_ne (tgt := 44) C dX11_declare_18 (by decide) (fun c_18 => ?_) (fun c_18 => ?_)
  · exact absurd rfl c_18
  · refine r_iload_n (i := 3) C dX11_declare_21 rfl rfl ?_
    refine r_bipush (v := (-2)) C dX11_declare_22 (by decide) ?_
    refine r_ic_ne (tgt := 34) C dX11_declare_24 (by decide) (fun c_24 => ?_) (fun c_24 => ?_)
    · exact r_throw (tx := "the property cannot be that") C E rfl rfl (by decide +kernel) c_X11_91 w_xA (by decide +kernel) (by decide +kernel) at_A rfl (Nat.le_of_ble_eq_true rfl) dX11_declare_34 dX11_declare_37 dX11_declare_38 dX11_declare_40 dX11_declare_43 (by first | exact Nat.le_refl _ | exact Nat.le_of_ble_eq_true rfl | omega) (by first | exact Nat.le_refl _ | exact Nat.le_of_ble_eq_true rfl | omega) (by first | exact Nat.le_refl _ | exact Nat.le_of_ble_eq_true rfl | omega) (by first | exact Nat.le_refl _ | exact Nat.le_of_ble_eq_true rfl | omega) (by first | exact Nat.le_refl _ | exact Nat.le_of_ble_eq_true rfl | omega)
    · refine r_iload_n (i := 2) C dX11_declare_27 rfl rfl ?_
      refine r_callSs C s_X11_154 M2 dX11_declare_28 (As := [_]) rfl rfl rfl (by first | exact Nat.le_refl _ | exact Nat.le_of_ble_eq_true rfl | omega) (Nat.le_of_ble_eq_true rfl) (by first | exact Nat.le_refl _ | exact Nat.le_of_ble_eq_true rfl | omega) (by first | exact Nat.le_refl _ | exact Nat.le_of_ble_eq_true rfl | omega) ?_
      refine r_if_ne (tgt := 44) C dX11_declare_31 (by decide) (fun c_31 => ?_) (fun c_31 => ?_)
      · have n0 : ∀ k, k < 3 → p ≠ k := fun k hk z => q2 ⟨c_24, by omega⟩
        have e : ∀ k, k < 3 → ¬ nI p = nI k := fun k hk z => n0 k hk ((nI_eq (by omega) (by omega)).mp z)
        rw [if_neg (show ¬ nI p = 0 from e 0 (by decide)), if_neg (show ¬ nI p = 1 from e 1 (by decide)), if_neg (show ¬ nI p = 2 from e 2 (by decide))] at c_31
        exact absurd rfl c_31
      · exact r_throw (tx := "the property cannot be that") C E rfl rfl (by decide +kernel) c_X11_91 w_xA (by decide +kernel) (by decide +kernel) at_A rfl (Nat.le_of_ble_eq_true rfl) dX11_declare_34 dX11_declare_37 dX11_declare_38 dX11_declare_40 dX11_declare_43 (by first | exact Nat.le_refl _ | exact Nat.le_of_ble_eq_true rfl | omega) (by first | exact Nat.le_refl _ | exact Nat.le_of_ble_eq_true rfl | omega) (by first | exact Nat.le_refl _ | exact Nat.le_of_ble_eq_true rfl | omega) (by first | exact Nat.le_refl _ | exact Nat.le_of_ble_eq_true rfl | omega) (by first | exact Nat.le_refl _ | exact Nat.le_of_ble_eq_true rfl | omega)
theorem c_declare_x4 (l : Launch) (G : Gl) {h : Hp} {H r p : Nat} {x v : Int32} (hkH : hK h H = 9) (Mr : MRw l G yX11_ruleOf (.code yX11_ruleOf cX11_ruleOf 3 (Option.some (Jvm.ClassFile.FieldType.object "CascadeHouse$Rule"))) 8 1 6 [.ref H, .int x] h (.inl (some (.ref r), h))) (hp : p ≤ 14) (q : (if pLe (pq p) ≤ v ∧ v ≤ pGr (pq p) then (1 : Int32) else 0) ≠ 0 ∨ v = -2 ∧ p < 3) (Mp : MRw l G yX11_putInto (.code yX11_putInto cX11_putInto 3 none) 8 1 6 [.ref r, .int (nI p), .ref (hN h)] (nwD h 4 v (-1)) (.inr (xS, nwD h 4 v (-1)))) : MRw l G yX11_declare (.code yX11_declare cX11_declare 5 (Option.some Jvm.ClassFile.FieldType.int)) 12 30 600 [.ref H, .int x, .int (nI p), .int v] h (.inr (xS, nwD h 4 v (-1))) := by
  have M1 := c_canBe l G (h := h) (v := v) hp
  have M2 := c_canBeAuto l G (h := h) (p := nI p)
  have M3 := c_declInit l G (h := nw h 2 0) (a := hN h) (x0 := 4) (x1 := v) (x2 := -1) (by rw [hK_nw, va_up_self])
  refine mr_of (by decide +kernel) (Nat.le_of_ble_eq_true rfl) (ct4 (by first | rfl | exact isR_cat (isR_rf _)) (by first | rfl | exact isR_cat (isR_rf _)) (by first | rfl | exact isR_cat (isR_rf _)) (by first | rfl | exact isR_cat (isR_rf _))) (fun X hG hl C E => ?_)
  subst hG hl
  refine r_aload_n (i := 0) C dX11_declare_0 rfl rfl (by first | rfl | exact isR_rf _) ?_
  refine r_iload_n (i := 1) C dX11_declare_1 rfl rfl ?_
  refine r_callVs C v_X11_126 Mr dX11_declare_2 (by assumption) (ci := 9) (by decide) rfl rfl (As := [_]) rfl rfl rfl (by first | exact Nat.le_refl _ | exact Nat.le_of_ble_eq_true rfl | omega) (Nat.le_of_ble_eq_true rfl) (by first | exact Nat.le_refl _ | exact Nat.le_of_ble_eq_true rfl | omega) (by first | exact Nat.le_refl _ | exact Nat.le_of_ble_eq_true rfl | omega) ?_
  refine r_astore (i := 4) C dX11_declare_5 (Nat.le_of_ble_eq_true rfl) (by first | rfl | exact isR_rf _) ?_
  refine r_iload_n (i := 2) C dX11_declare_7 rfl rfl ?_
  refine r_bipush (v := 14) C dX11_declare_8 (by decide) ?_
  refine r_callSn C s_X11_144 (cP_ok (dP14 hp)) dX11_declare_10 (As := [_, _]) rfl rfl rfl (by first | exact Nat.le_refl _ | exact Nat.le_of_ble_eq_true rfl | omega) (Nat.le_of_ble_eq_true rfl) (by first | exact Nat.le_refl _ | exact Nat.le_of_ble_eq_true rfl | omega) (by first | exact Nat.le_refl _ | exact Nat.le_of_ble_eq_true rfl | omega) ?_
  refine r_iload_n (i := 2) C dX11_declare_13 rfl rfl ?_
  refine r_iload_n (i := 3) C dX11_declare_14 rfl rfl ?_
  refine r_callSs C s_X11_148 M1 dX11_declare_15 (As := [_, _]) rfl rfl rfl (by first | exact Nat.le_refl _ | exact Nat.le_of_ble_eq_true rfl | omega) (Nat.le_of_ble_eq_true rfl) (by first | exact Nat.le_refl _ | exact Nat.le_of_ble_eq_true rfl | omega) (by first | exact Nat.le_refl _ | exact Nat.le_of_ble_eq_true rfl | omega) ?_
  refine r_if_ne (tgt := 44) C dX11_declare_18 (by decide) (fun c_18 => ?_) (fun c_18 => ?_)
  · refine r_aload (i := 4) C dX11_declare_44 rfl (by first | rfl | exact isR_rf _) ?_
    refine r_iload_n (i := 2) C dX11_declare_46 rfl rfl ?_
    refine r_new C n_X11_160 dX11_declare_47 (by first | exact Nat.le_refl _ | exact Nat.le_of_ble_eq_true rfl | omega) (by first | exact Nat.le_refl _ | exact Nat.le_of_ble_eq_true rfl | omega) ?_
    refine r_dup C (by first | rfl | exact isR_cat (isR_rf _)) dX11_declare_50 ?_
    refine r_iconst (v := 4) C dX11_declare_51 (by decide) ?_
    refine r_iload_n (i := 3) C dX11_declare_52 rfl rfl ?_
    refine r_iconst (v := (-1)) C dX11_declare_53 (by decide) ?_
    refine r_callI C i_X11_162 M3 dX11_declare_54 (As := [_, _, _]) rfl rfl rfl (by first | exact Nat.le_refl _ | exact Nat.le_of_ble_eq_true rfl | omega) (Nat.le_of_ble_eq_true rfl) (by first | exact Nat.le_refl _ | exact Nat.le_of_ble_eq_true rfl | omega) (by first | exact Nat.le_refl _ | exact Nat.le_of_ble_eq_true rfl | omega) ?_
    exact r_callSx C s_X11_164 Mp dX11_declare_57 (As := [_, _, _]) rfl rfl rfl (by first | exact Nat.le_refl _ | exact Nat.le_of_ble_eq_true rfl | omega) (Nat.le_of_ble_eq_true rfl) (by first | exact Nat.le_refl _ | exact Nat.le_of_ble_eq_true rfl | omega) (by first | exact Nat.le_refl _ | exact Nat.le_of_ble_eq_true rfl | omega) E rfl (by first | exact Nat.le_refl _ | exact Nat.le_of_ble_eq_true rfl | omega) (by first | exact Nat.le_refl _ | exact Nat.le_of_ble_eq_true rfl | omega)
  · refine r_iload_n (i := 3) C dX11_declare_21 rfl rfl ?_
    refine r_bipush (v := (-2)) C dX11_declare_22 (by decide) ?_
    refine r_ic_ne (tgt := 34) C dX11_declare_24 (by decide) (fun c_24 => ?_) (fun c_24 => ?_)
    · rcases q with q | q
      · exact absurd c_18 q
      · exact absurd q.1 c_24
    · refine r_iload_n (i := 2) C dX11_declare_27 rfl rfl ?_
      refine r_callSs C s_X11_154 M2 dX11_declare_28 (As := [_]) rfl rfl rfl (by first | exact Nat.le_refl _ | exact Nat.le_of_ble_eq_true rfl | omega) (Nat.le_of_ble_eq_true rfl) (by first | exact Nat.le_refl _ | exact Nat.le_of_ble_eq_true rfl | omega) (by first | exact Nat.le_refl _ | exact Nat.le_of_ble_eq_true rfl | omega) ?_
      refine r_if_ne (tgt := 44) C dX11_declare_31 (by decide) (fun c_31 => ?_) (fun c_31 => ?_)
      · refine r_aload (i := 4) C dX11_declare_44 rfl (by first | rfl | exact isR_rf _) ?_
        refine r_iload_n (i := 2) C dX11_declare_46 rfl rfl ?_
        refine r_new C n_X11_160 dX11_declare_47 (by first | exact Nat.le_refl _ | exact Nat.le_of_ble_eq_true rfl | omega) (by first | exact Nat.le_refl _ | exact Nat.le_of_ble_eq_true rfl | omega) ?_
        refine r_dup C (by first | rfl | exact isR_cat (isR_rf _)) dX11_declare_50 ?_
        refine r_iconst (v := 4) C dX11_declare_51 (by decide) ?_
        refine r_iload_n (i := 3) C dX11_declare_52 rfl rfl ?_
        refine r_iconst (v := (-1)) C dX11_declare_53 (by decide) ?_
        refine r_callI C i_X11_162 M3 dX11_declare_54 (As := [_, _, _]) rfl rfl rfl (by first | exact Nat.le_refl _ | exact Nat.le_of_ble_eq_true rfl | omega) (Nat.le_of_ble_eq_true rfl) (by first | exact Nat.le_refl _ | exact Nat.le_of_ble_eq_true rfl | omega) (by first | exact Nat.le_refl _ | exact Nat.le_of_ble_eq_true rfl | omega) ?_
        exact r_callSx C s_X11_164 Mp dX11_declare_57 (As := [_, _, _]) rfl rfl rfl (by first | exact Nat.le_refl _ | exact Nat.le_of_ble_eq_true rfl | omega) (Nat.le_of_ble_eq_true rfl) (by first | exact Nat.le_refl _ | exact Nat.le_of_ble_eq_true rfl | omega) (by first | exact Nat.le_refl _ | exact Nat.le_of_ble_eq_true rfl | omega) E rfl (by first | exact Nat.le_refl _ | exact Nat.le_of_ble_eq_true rfl | omega) (by first | exact Nat.le_refl _ | exact Nat.le_of_ble_eq_true rfl | omega)
      · rcases q with q | q
        · exact absurd c_18 q
        · have e : p = 0 ∨ p = 1 ∨ p = 2 := by omega
          rcases e with e | e | e <;> subst e <;> exact absurd c_31 (by decide)
theorem c_say_ok (l : Launch) (G : Gl) {h h1 h2 : Hp} {H r p j : Nat} {x v : Int32} (hkH : hK h H = 9) (Mr : MRw l G yX11_ruleOf (.code yX11_ruleOf cX11_ruleOf 3 (Option.some (Jvm.ClassFile.FieldType.object "CascadeHouse$Rule"))) 8 1 6 [.ref H, .int x] h (.inl (some (.ref r), h))) (hp : p ≤ 14) (q : ¬ (v < 0 ∨ 3 < v)) (Mp : MRw l G yX11_putInto (.code yX11_putInto cX11_putInto 3 none) 8 1 6 [.ref r, .int (nI p), .ref (hN h)] (nwD h v (-1) (-1)) (.inl (none, h1))) (hkH1 : hK h1 H = 9) (Ms : MRw l G yX11_settle (.code yX11_settle cX11_settle 4 none) 11 j (60 * j) [.ref H, .int (nI 0)] h1 (.inl (none, h2))) (hj : j ≤ 3) (hk2 : hK h2 r = 6) : MRw l G yX11_say (.code yX11_say cX11_say 5 (Option.some Jvm.ClassFile.FieldType.int)) 12 30 600 [.ref H, .int x, .int (nI p), .int v] h (.inl (some (.int (hI h2 fU_declarationCount r)), h2)) := by
  have M3 := c_declInit l G (h := nw h 2 0) (a := hN h) (x0 := v) (x1 := -1) (x2 := -1) (by rw [hK_nw, va_up_self])
  refine mr_of (by decide +kernel) (Nat.le_of_ble_eq_true rfl) (ct4 (by first | rfl | exact isR_cat (isR_rf _)) (by first | rfl | exact isR_cat (isR_rf _)) (by first | rfl | exact isR_cat (isR_rf _)) (by first | rfl | exact isR_cat (isR_rf _))) (fun X hG hl C E => ?_)
  subst hG hl
  refine r_aload_n (i := 0) C dX11_say_0 rfl rfl (by first | rfl | exact isR_rf _) ?_
  refine r_iload_n (i := 1) C dX11_say_1 rfl rfl ?_
  refine r_callVs C v_X11_126 Mr dX11_say_2 (by assumption) (ci := 9) (by decide) rfl rfl (As := [_]) rfl rfl rfl (by first | exact Nat.le_refl _ | exact Nat.le_of_ble_eq_true rfl | omega) (Nat.le_of_ble_eq_true rfl) (by first | exact Nat.le_refl _ | exact Nat.le_of_ble_eq_true rfl | omega) (by first | exact Nat.le_refl _ | exact Nat.le_of_ble_eq_true rfl | omega) ?_
  refine r_astore (i := 4) C dX11_say_5 (Nat.le_of_ble_eq_true rfl) (by first | rfl | exact isR_rf _) ?_
  refine r_iload_n (i := 2) C dX11_say_7 rfl rfl ?_
  refine r_bipush (v := 14) C dX11_say_8 (by decide) ?_
  refine r_callSn C s_X11_144 (cP_ok (dP14 hp)) dX11_say_10 (As := [_, _]) rfl rfl rfl (by first | exact Nat.le_refl _ | exact Nat.le_of_ble_eq_true rfl | omega) (Nat.le_of_ble_eq_true rfl) (by first | exact Nat.le_refl _ | exact Nat.le_of_ble_eq_true rfl | omega) (by first | exact Nat.le_refl _ | exact Nat.le_of_ble_eq_true rfl | omega) ?_
  refine r_iload_n (i := 3) C dX11_say_13 rfl rfl ?_
  refine r_iconst (v := 0) C dX11_say_14 (by decide) ?_
  refine r_iconst (v := 3) C dX11_say_15 (by decide) ?_
  refine r_callSn C s_X11_47 (cR_ok q) dX11_say_16 (As := [_, _, _]) rfl rfl rfl (by first | exact Nat.le_refl _ | exact Nat.le_of_ble_eq_true rfl | omega) (Nat.le_of_ble_eq_true rfl) (by first | exact Nat.le_refl _ | exact Nat.le_of_ble_eq_true rfl | omega) (by first | exact Nat.le_refl _ | exact Nat.le_of_ble_eq_true rfl | omega) ?_
  refine r_aload (i := 4) C dX11_say_19 rfl (by first | rfl | exact isR_rf _) ?_
  refine r_iload_n (i := 2) C dX11_say_21 rfl rfl ?_
  refine r_new C n_X11_160 dX11_say_22 (by first | exact Nat.le_refl _ | exact Nat.le_of_ble_eq_true rfl | omega) (by first | exact Nat.le_refl _ | exact Nat.le_of_ble_eq_true rfl | omega) ?_
  refine r_dup C (by first | rfl | exact isR_cat (isR_rf _)) dX11_say_25 ?_
  refine r_iload_n (i := 3) C dX11_say_26 rfl rfl ?_
  refine r_iconst (v := (-1)) C dX11_say_27 (by decide) ?_
  refine r_iconst (v := (-1)) C dX11_say_28 (by decide) ?_
  refine r_callI C i_X11_162 M3 dX11_say_29 (As := [_, _, _]) rfl rfl rfl (by first | exact Nat.le_refl _ | exact Nat.le_of_ble_eq_true rfl | omega) (Nat.le_of_ble_eq_true rfl) (by first | exact Nat.le_refl _ | exact Nat.le_of_ble_eq_true rfl | omega) (by first | exact Nat.le_refl _ | exact Nat.le_of_ble_eq_true rfl | omega) ?_
  refine r_callSn C s_X11_164 Mp dX11_say_32 (As := [_, _, _]) rfl rfl rfl (by first | exact Nat.le_refl _ | exact Nat.le_of_ble_eq_true rfl | omega) (Nat.le_of_ble_eq_true rfl) (by first | exact Nat.le_refl _ | exact Nat.le_of_ble_eq_true rfl | omega) (by first | exact Nat.le_refl _ | exact Nat.le_of_ble_eq_true rfl | omega) ?_
  refine r_aload_n (i := 0) C dX11_say_35 rfl rfl (by first | rfl | exact isR_rf _) ?_
  refine r_iconst (v := 0) C dX11_say_36 (by decide) ?_
  refine r_callVn C v_X11_36 Ms dX11_say_37 (by assumption) (ci := 9) (by decide) rfl rfl (As := [_]) rfl rfl rfl (by first | exact Nat.le_refl _ | exact Nat.le_of_ble_eq_true rfl | omega) (Nat.le_of_ble_eq_true rfl) (by first | exact Nat.le_refl _ | exact Nat.le_of_ble_eq_true rfl | omega) (by first | exact Nat.le_refl _ | exact Nat.le_of_ble_eq_true rfl | omega) ?_
  refine r_aload (i := 4) C dX11_say_40 rfl (by first | rfl | exact isR_rf _) ?_
  refine r_getI C f_X11_168 dX11_say_42 rfl (by assumption) ?_
  exact r_iret C E dX11_say_45 rfl rfl (by first | exact Nat.le_refl _ | exact Nat.le_of_ble_eq_true rfl | omega) (by first | exact Nat.le_refl _ | exact Nat.le_of_ble_eq_true rfl | omega)
theorem c_say_x1 (l : Launch) (G : Gl) {h : Hp} {H : Nat} {x y v : Int32} (hkH : hK h H = 9) (Mr : MRw l G yX11_ruleOf (.code yX11_ruleOf cX11_ruleOf 3 (Option.some (Jvm.ClassFile.FieldType.object "CascadeHouse$Rule"))) 8 1 6 [.ref H, .int x] h (.inr (xI, h))) : MRw l G yX11_say (.code yX11_say cX11_say 5 (Option.some Jvm.ClassFile.FieldType.int)) 12 30 600 [.ref H, .int x, .int y, .int v] h (.inr (xI, h)) := by
  refine mr_of (by decide +kernel) (Nat.le_of_ble_eq_true rfl) (ct4 (by first | rfl | exact isR_cat (isR_rf _)) (by first | rfl | exact isR_cat (isR_rf _)) (by first | rfl | exact isR_cat (isR_rf _)) (by first | rfl | exact isR_cat (isR_rf _))) (fun X hG hl C E => ?_)
  subst hG hl
  refine r_aload_n (i := 0) C dX11_say_0 rfl rfl (by first | rfl | exact isR_rf _) ?_
  refine r_iload_n (i := 1) C dX11_say_1 rfl rfl ?_
  exact r_callVx C v_X11_126 Mr dX11_say_2 (by assumption) (ci := 9) (by decide) rfl rfl (As := [_]) rfl rfl rfl (by first | exact Nat.le_refl _ | exact Nat.le_of_ble_eq_true rfl | omega) (Nat.le_of_ble_eq_true rfl) (by first | exact Nat.le_refl _ | exact Nat.le_of_ble_eq_true rfl | omega) (by first | exact Nat.le_refl _ | exact Nat.le_of_ble_eq_true rfl | omega) E rfl (by first | exact Nat.le_refl _ | exact Nat.le_of_ble_eq_true rfl | omega) (by first | exact Nat.le_refl _ | exact Nat.le_of_ble_eq_true rfl | omega)
theorem c_say_x2 (l : Launch) (G : Gl) {h : Hp} {H r : Nat} {x y v : Int32} (hkH : hK h H = 9) (Mr : MRw l G yX11_ruleOf (.code yX11_ruleOf cX11_ruleOf 3 (Option.some (Jvm.ClassFile.FieldType.object "CascadeHouse$Rule"))) 8 1 6 [.ref H, .int x] h (.inl (some (.ref r), h))) (q : y < 0 ∨ 14 < y) : MRw l G yX11_say (.code yX11_say cX11_say 5 (Option.some Jvm.ClassFile.FieldType.int)) 12 30 600 [.ref H, .int x, .int y, .int v] h (.inr (xI, h)) := by
  refine mr_of (by decide +kernel) (Nat.le_of_ble_eq_true rfl) (ct4 (by first | rfl | exact isR_cat (isR_rf _)) (by first | rfl | exact isR_cat (isR_rf _)) (by first | rfl | exact isR_cat (isR_rf _)) (by first | rfl | exact isR_cat (isR_rf _))) (fun X hG hl C E => ?_)
  subst hG hl
  refine r_aload_n (i := 0) C dX11_say_0 rfl rfl (by first | rfl | exact isR_rf _) ?_
  refine r_iload_n (i := 1) C dX11_say_1 rfl rfl ?_
  refine r_callVs C v_X11_126 Mr dX11_say_2 (by assumption) (ci := 9) (by decide) rfl rfl (As := [_]) rfl rfl rfl (by first | exact Nat.le_refl _ | exact Nat.le_of_ble_eq_true rfl | omega) (Nat.le_of_ble_eq_true rfl) (by first | exact Nat.le_refl _ | exact Nat.le_of_ble_eq_true rfl | omega) (by first | exact Nat.le_refl _ | exact Nat.le_of_ble_eq_true rfl | omega) ?_
  refine r_astore (i := 4) C dX11_say_5 (Nat.le_of_ble_eq_true rfl) (by first | rfl | exact isR_rf _) ?_
  refine r_iload_n (i := 2) C dX11_say_7 rfl rfl ?_
  refine r_bipush (v := 14) C dX11_say_8 (by decide) ?_
  exact r_callSx C s_X11_144 (cP_no q) dX11_say_10 (As := [_, _]) rfl rfl rfl (by first | exact Nat.le_refl _ | exact Nat.le_of_ble_eq_true rfl | omega) (Nat.le_of_ble_eq_true rfl) (by first | exact Nat.le_refl _ | exact Nat.le_of_ble_eq_true rfl | omega) (by first | exact Nat.le_refl _ | exact Nat.le_of_ble_eq_true rfl | omega) E rfl (by first | exact Nat.le_refl _ | exact Nat.le_of_ble_eq_true rfl | omega) (by first | exact Nat.le_refl _ | exact Nat.le_of_ble_eq_true rfl | omega)
theorem c_say_x3 (l : Launch) (G : Gl) {h : Hp} {H r p : Nat} {x v : Int32} (hkH : hK h H = 9) (Mr : MRw l G yX11_ruleOf (.code yX11_ruleOf cX11_ruleOf 3 (Option.some (Jvm.ClassFile.FieldType.object "CascadeHouse$Rule"))) 8 1 6 [.ref H, .int x] h (.inl (some (.ref r), h))) (hp : p ≤ 14) (q : v < 0 ∨ 3 < v) : MRw l G yX11_say (.code yX11_say cX11_say 5 (Option.some Jvm.ClassFile.FieldType.int)) 12 30 600 [.ref H, .int x, .int (nI p), .int v] h (.inr (xA, h)) := by
  refine mr_of (by decide +kernel) (Nat.le_of_ble_eq_true rfl) (ct4 (by first | rfl | exact isR_cat (isR_rf _)) (by first | rfl | exact isR_cat (isR_rf _)) (by first | rfl | exact isR_cat (isR_rf _)) (by first | rfl | exact isR_cat (isR_rf _))) (fun X hG hl C E => ?_)
  subst hG hl
  refine r_aload_n (i := 0) C dX11_say_0 rfl rfl (by first | rfl | exact isR_rf _) ?_
  refine r_iload_n (i := 1) C dX11_say_1 rfl rfl ?_
  refine r_callVs C v_X11_126 Mr dX11_say_2 (by assumption) (ci := 9) (by decide) rfl rfl (As := [_]) rfl rfl rfl (by first | exact Nat.le_refl _ | exact Nat.le_of_ble_eq_true rfl | omega) (Nat.le_of_ble_eq_true rfl) (by first | exact Nat.le_refl _ | exact Nat.le_of_ble_eq_true rfl | omega) (by first | exact Nat.le_refl _ | exact Nat.le_of_ble_eq_true rfl | omega) ?_
  refine r_astore (i := 4) C dX11_say_5 (Nat.le_of_ble_eq_true rfl) (by first | rfl | exact isR_rf _) ?_
  refine r_iload_n (i := 2) C dX11_say_7 rfl rfl ?_
  refine r_bipush (v := 14) C dX11_say_8 (by decide) ?_
  refine r_callSn C s_X11_144 (cP_ok (dP14 hp)) dX11_say_10 (As := [_, _]) rfl rfl rfl (by first | exact Nat.le_refl _ | exact Nat.le_of_ble_eq_true rfl | omega) (Nat.le_of_ble_eq_true rfl) (by first | exact Nat.le_refl _ | exact Nat.le_of_ble_eq_true rfl | omega) (by first | exact Nat.le_refl _ | exact Nat.le_of_ble_eq_true rfl | omega) ?_
  refine r_iload_n (i := 3) C dX11_say_13 rfl rfl ?_
  refine r_iconst (v := 0) C dX11_say_14 (by decide) ?_
  refine r_iconst (v := 3) C dX11_say_15 (by decide) ?_
  exact r_callSx C s_X11_47 (cR_no q) dX11_say_16 (As := [_, _, _]) rfl rfl rfl (by first | exact Nat.le_refl _ | exact Nat.le_of_ble_eq_true rfl | omega) (Nat.le_of_ble_eq_true rfl) (by first | exact Nat.le_refl _ | exact Nat.le_of_ble_eq_true rfl | omega) (by first | exact Nat.le_refl _ | exact Nat.le_of_ble_eq_true rfl | omega) E rfl (by first | exact Nat.le_refl _ | exact Nat.le_of_ble_eq_true rfl | omega) (by first | exact Nat.le_refl _ | exact Nat.le_of_ble_eq_true rfl | omega)
theorem c_say_x4 (l : Launch) (G : Gl) {h : Hp} {H r p : Nat} {x v : Int32} (hkH : hK h H = 9) (Mr : MRw l G yX11_ruleOf (.code yX11_ruleOf cX11_ruleOf 3 (Option.some (Jvm.ClassFile.FieldType.object "CascadeHouse$Rule"))) 8 1 6 [.ref H, .int x] h (.inl (some (.ref r), h))) (hp : p ≤ 14) (q : ¬ (v < 0 ∨ 3 < v)) (Mp : MRw l G yX11_putInto (.code yX11_putInto cX11_putInto 3 none) 8 1 6 [.ref r, .int (nI p), .ref (hN h)] (nwD h v (-1) (-1)) (.inr (xS, nwD h v (-1) (-1)))) : MRw l G yX11_say (.code yX11_say cX11_say 5 (Option.some Jvm.ClassFile.FieldType.int)) 12 30 600 [.ref H, .int x, .int (nI p), .int v] h (.inr (xS, nwD h v (-1) (-1))) := by
  have M3 := c_declInit l G (h := nw h 2 0) (a := hN h) (x0 := v) (x1 := -1) (x2 := -1) (by rw [hK_nw, va_up_self])
  refine mr_of (by decide +kernel) (Nat.le_of_ble_eq_true rfl) (ct4 (by first | rfl | exact isR_cat (isR_rf _)) (by first | rfl | exact isR_cat (isR_rf _)) (by first | rfl | exact isR_cat (isR_rf _)) (by first | rfl | exact isR_cat (isR_rf _))) (fun X hG hl C E => ?_)
  subst hG hl
  refine r_aload_n (i := 0) C dX11_say_0 rfl rfl (by first | rfl | exact isR_rf _) ?_
  refine r_iload_n (i := 1) C dX11_say_1 rfl rfl ?_
  refine r_callVs C v_X11_126 Mr dX11_say_2 (by assumption) (ci := 9) (by decide) rfl rfl (As := [_]) rfl rfl rfl (by first | exact Nat.le_refl _ | exact Nat.le_of_ble_eq_true rfl | omega) (Nat.le_of_ble_eq_true rfl) (by first | exact Nat.le_refl _ | exact Nat.le_of_ble_eq_true rfl | omega) (by first | exact Nat.le_refl _ | exact Nat.le_of_ble_eq_true rfl | omega) ?_
  refine r_astore (i := 4) C dX11_say_5 (Nat.le_of_ble_eq_true rfl) (by first | rfl | exact isR_rf _) ?_
  refine r_iload_n (i := 2) C dX11_say_7 rfl rfl ?_
  refine r_bipush (v := 14) C dX11_say_8 (by decide) ?_
  refine r_callSn C s_X11_144 (cP_ok (dP14 hp)) dX11_say_10 (As := [_, _]) rfl rfl rfl (by first | exact Nat.le_refl _ | exact Nat.le_of_ble_eq_true rfl | omega) (Nat.le_of_ble_eq_true rfl) (by first | exact Nat.le_refl _ | exact Nat.le_of_ble_eq_true rfl | omega) (by first | exact Nat.le_refl _ | exact Nat.le_of_ble_eq_true rfl | omega) ?_
  refine r_iload_n (i := 3) C dX11_say_13 rfl rfl ?_
  refine r_iconst (v := 0) C dX11_say_14 (by decide) ?_
  refine r_iconst (v := 3) C dX11_say_15 (by decide) ?_
  refine r_callSn C s_X11_47 (cR_ok q) dX11_say_16 (As := [_, _, _]) rfl rfl rfl (by first | exact Nat.le_refl _ | exact Nat.le_of_ble_eq_true rfl | omega) (Nat.le_of_ble_eq_true rfl) (by first | exact Nat.le_refl _ | exact Nat.le_of_ble_eq_true rfl | omega) (by first | exact Nat.le_refl _ | exact Nat.le_of_ble_eq_true rfl | omega) ?_
  refine r_aload (i := 4) C dX11_say_19 rfl (by first | rfl | exact isR_rf _) ?_
  refine r_iload_n (i := 2) C dX11_say_21 rfl rfl ?_
  refine r_new C n_X11_160 dX11_say_22 (by first | exact Nat.le_refl _ | exact Nat.le_of_ble_eq_true rfl | omega) (by first | exact Nat.le_refl _ | exact Nat.le_of_ble_eq_true rfl | omega) ?_
  refine r_dup C (by first | rfl | exact isR_cat (isR_rf _)) dX11_say_25 ?_
  refine r_iload_n (i := 3) C dX11_say_26 rfl rfl ?_
  refine r_iconst (v := (-1)) C dX11_say_27 (by decide) ?_
  refine r_iconst (v := (-1)) C dX11_say_28 (by decide) ?_
  refine r_callI C i_X11_162 M3 dX11_say_29 (As := [_, _, _]) rfl rfl rfl (by first | exact Nat.le_refl _ | exact Nat.le_of_ble_eq_true rfl | omega) (Nat.le_of_ble_eq_true rfl) (by first | exact Nat.le_refl _ | exact Nat.le_of_ble_eq_true rfl | omega) (by first | exact Nat.le_refl _ | exact Nat.le_of_ble_eq_true rfl | omega) ?_
  exact r_callSx C s_X11_164 Mp dX11_say_32 (As := [_, _, _]) rfl rfl rfl (by first | exact Nat.le_refl _ | exact Nat.le_of_ble_eq_true rfl | omega) (Nat.le_of_ble_eq_true rfl) (by first | exact Nat.le_refl _ | exact Nat.le_of_ble_eq_true rfl | omega) (by first | exact Nat.le_refl _ | exact Nat.le_of_ble_eq_true rfl | omega) E rfl (by first | exact Nat.le_refl _ | exact Nat.le_of_ble_eq_true rfl | omega) (by first | exact Nat.le_refl _ | exact Nat.le_of_ble_eq_true rfl | omega)
theorem c_empty_ok (l : Launch) (G : Gl) {h h2 : Hp} {H r Dr j : Nat} {x : Int32} (hkH : hK h H = 9) (Mr : MRw l G yX11_ruleOf (.code yX11_ruleOf cX11_ruleOf 3 (Option.some (Jvm.ClassFile.FieldType.object "CascadeHouse$Rule"))) 8 1 6 [.ref H, .int x] h (.inl (some (.ref r), h))) (hD : UD h r Dr) (Ms : MRw l G yX11_settle (.code yX11_settle cX11_settle 4 none) 11 j (60 * j) [.ref H, .int (nI 0)] (sI (sQf h Dr (nul (hQ h Dr) 14)) fU_declarationCount r 0) (.inl (none, h2))) (hj : j ≤ 3) : MRw l G yX11_empty (.code yX11_empty cX11_empty 4 (Option.some Jvm.ClassFile.FieldType.int)) 12 30 600 [.ref H, .int x] h (.inl (some (.int (hI h fU_declarationCount r)), h2)) := by
  have M3 := c_clearDecl l G hD
  have hk := hD.1
  have hkH1 : hK (sI (sQf h Dr (nul (hQ h Dr) 14)) fU_declarationCount r 0) H = 9 := hkH
  refine mr_of (by decide +kernel) (Nat.le_of_ble_eq_true rfl) (ct2 (by first | rfl | exact isR_cat (isR_rf _)) (by first | rfl | exact isR_cat (isR_rf _))) (fun X hG hl C E => ?_)
  subst hG hl
  refine r_aload_n (i := 0) C dX11_empty_0 rfl rfl (by first | rfl | exact isR_rf _) ?_
  refine r_iload_n (i := 1) C dX11_empty_1 rfl rfl ?_
  refine r_callVs C v_X11_126 Mr dX11_empty_2 (by assumption) (ci := 9) (by decide) rfl rfl (As := [_]) rfl rfl rfl (by first | exact Nat.le_refl _ | exact Nat.le_of_ble_eq_true rfl | omega) (Nat.le_of_ble_eq_true rfl) (by first | exact Nat.le_refl _ | exact Nat.le_of_ble_eq_true rfl | omega) (by first | exact Nat.le_refl _ | exact Nat.le_of_ble_eq_true rfl | omega) ?_
  refine r_astore_n (i := 2) C dX11_empty_5 rfl (Nat.le_of_ble_eq_true rfl) (by first | rfl | exact isR_rf _) ?_
  refine r_aload_n (i := 2) C dX11_empty_6 rfl rfl (by first | rfl | exact isR_rf _) ?_
  refine r_getI C f_X11_168 dX11_empty_7 rfl (by assumption) ?_
  refine r_istore_n (i := 3) C dX11_empty_10 rfl (Nat.le_of_ble_eq_true rfl) ?_
  refine r_aload_n (i := 2) C dX11_empty_11 rfl rfl (by first | rfl | exact isR_rf _) ?_
  refine r_callVn C v_X11_173 M3 dX11_empty_12 (by assumption) (ci := 6) (by decide) rfl rfl (As := []) rfl rfl rfl (by first | exact Nat.le_refl _ | exact Nat.le_of_ble_eq_true rfl | omega) (Nat.le_of_ble_eq_true rfl) (by first | exact Nat.le_refl _ | exact Nat.le_of_ble_eq_true rfl | omega) (by first | exact Nat.le_refl _ | exact Nat.le_of_ble_eq_true rfl | omega) ?_
  refine r_aload_n (i := 0) C dX11_empty_15 rfl rfl (by first | rfl | exact isR_rf _) ?_
  refine r_iconst (v := 0) C dX11_empty_16 (by decide) ?_
  refine r_callVn C v_X11_36 Ms dX11_empty_17 (by assumption) (ci := 9) (by decide) rfl rfl (As := [_]) rfl rfl rfl (by first | exact Nat.le_refl _ | exact Nat.le_of_ble_eq_true rfl | omega) (Nat.le_of_ble_eq_true rfl) (by first | exact Nat.le_refl _ | exact Nat.le_of_ble_eq_true rfl | omega) (by first | exact Nat.le_refl _ | exact Nat.le_of_ble_eq_true rfl | omega) ?_
  refine r_iload_n (i := 3) C dX11_empty_20 rfl rfl ?_
  exact r_iret C E dX11_empty_21 rfl rfl (by first | exact Nat.le_refl _ | exact Nat.le_of_ble_eq_true rfl | omega) (by first | exact Nat.le_refl _ | exact Nat.le_of_ble_eq_true rfl | omega)
theorem c_empty_x1 (l : Launch) (G : Gl) {h : Hp} {H : Nat} {x : Int32} (hkH : hK h H = 9) (Mr : MRw l G yX11_ruleOf (.code yX11_ruleOf cX11_ruleOf 3 (Option.some (Jvm.ClassFile.FieldType.object "CascadeHouse$Rule"))) 8 1 6 [.ref H, .int x] h (.inr (xI, h))) : MRw l G yX11_empty (.code yX11_empty cX11_empty 4 (Option.some Jvm.ClassFile.FieldType.int)) 12 30 600 [.ref H, .int x] h (.inr (xI, h)) := by
  refine mr_of (by decide +kernel) (Nat.le_of_ble_eq_true rfl) (ct2 (by first | rfl | exact isR_cat (isR_rf _)) (by first | rfl | exact isR_cat (isR_rf _))) (fun X hG hl C E => ?_)
  subst hG hl
  refine r_aload_n (i := 0) C dX11_empty_0 rfl rfl (by first | rfl | exact isR_rf _) ?_
  refine r_iload_n (i := 1) C dX11_empty_1 rfl rfl ?_
  exact r_callVx C v_X11_126 Mr dX11_empty_2 (by assumption) (ci := 9) (by decide) rfl rfl (As := [_]) rfl rfl rfl (by first | exact Nat.le_refl _ | exact Nat.le_of_ble_eq_true rfl | omega) (Nat.le_of_ble_eq_true rfl) (by first | exact Nat.le_refl _ | exact Nat.le_of_ble_eq_true rfl | omega) (by first | exact Nat.le_refl _ | exact Nat.le_of_ble_eq_true rfl | omega) E rfl (by first | exact Nat.le_refl _ | exact Nat.le_of_ble_eq_true rfl | omega) (by first | exact Nat.le_refl _ | exact Nat.le_of_ble_eq_true rfl | omega)
