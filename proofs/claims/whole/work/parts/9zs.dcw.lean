/-! ===== the calls declare, say, refer, empty: the walks ===== -/
/-- a new declaration -/
def nwD (h : Hp) (x0 x1 x2 : Int32) : Hp := sI (sI (sI (nw h 2 0) fD_kind (hN h) x0) fD_number (hN h) x1) fD_variable (hN h) x2
theorem nwD_s (h : Hp) (x0 x1 x2 : Int32) : hN (nwD h x0 x1 x2) = hN h + 1 ∧ hK (nwD h x0 x1 x2) (hN h) = 2 ∧ (∀ a, a < hN h → hK (nwD h x0 x1 x2) a = hK h a) ∧ hR (nwD h x0 x1 x2) = hR h ∧ hI (nwD h x0 x1 x2) fD_kind (hN h) = x0 ∧ hI (nwD h x0 x1 x2) fD_number (hN h) = x1 ∧ hI (nwD h x0 x1 x2) fD_variable (hN h) = x2 := by
  unfold nwD
  refine ⟨rfl, ?_, fun a ha => ?_, rfl, ?_, ?_, ?_⟩
  · rw [hK_sI, hK_sI, hK_sI, hK_nw, va_up_self]
  · rw [hK_sI, hK_sI, hK_sI, hK_nw, va_up_ne _ _ (by omega)]
  · rw [iI_ne (by decide), iI_ne (by decide), iI_at]
  · rw [iI_ne (by decide), iI_at]
  · rw [iI_at]
theorem nwD_O (h : Hp) (x0 x1 x2 : Int32) : OLD h (nwD h x0 x1 x2) := OLD_sI (Nat.le_refl _) (OLD_sI (Nat.le_refl _) (OLD_sI (Nat.le_refl _) OLD_nw))
theorem nwD_g {h : Hp} {x0 x1 x2 : Int32} (hg : Good h) : Good (nwD h x0 x1 x2) := gd_sI (gd_sI (gd_sI (gd_nw hg (by decide) (by decide)) (by rw [hN_nw]; omega)) (by rw [hN_sI, hN_nw]; omega)) (by rw [hN_sI, hN_sI, hN_nw]; omega)
theorem c_declare_ok (l : Launch) (G : Gl) {h h1 h2 : Hp} {H r p j : Nat} {x v : Int32} (hkH : hK h H = 9) (Mr : MRw l G yX11_ruleOf (.code yX11_ruleOf cX11_ruleOf 3 (Option.some (Jvm.ClassFile.FieldType.object "CascadeHouse$Rule"))) 8 1 6 [.ref H, .int x] h (.inl (some (.ref r), h))) (hp : p ≤ 14) (q : (if pLe (pq p) ≤ v ∧ v ≤ pGr (pq p) then (1 : Int32) else 0) ≠ 0 ∨ v = -2 ∧ p < 3) (Mp : MRw l G yX11_putInto (.code yX11_putInto cX11_putInto 3 none) 8 1 6 [.ref r, .int (nI p), .ref (hN h)] (nwD h 4 v (-1)) (.inl (none, h1))) (hkH1 : hK h1 H = 9) (Ms : MRw l G yX11_settle (.code yX11_settle cX11_settle 4 none) 11 j (60 * j) [.ref H, .int (nI 0)] h1 (.inl (none, h2))) (hj : j ≤ 3) (hk2 : hK h2 r = 6) : MRw l G yX11_declare (.code yX11_declare cX11_declare 5 (Option.some Jvm.ClassFile.FieldType.int)) 12 8 200 [.ref H, .int x, .int (nI p), .int v] h (.inl (some (.int (hI h2 fU_declarationCount r)), h2)) := by
  have M1 := c_canBe l G (h := h) (v := v) hp
  have M2 := c_canBeAuto l G (h := h) (p := nI p)
  have M3 := c_declInit l G (h := nw h 2 0) (a := hN h) (x0 := 4) (x1 := v) (x2 := -1) (by rw [hK_nw, va_up_self])
  have tail : ∀ (X : Ctx), lOf X = l → gOf X = G → Cx X yX11_declare cX11_declare 5 (Option.some Jvm.ClassFile.FieldType.int) [] 12 8 200 → Ex X 8 200 (.inl (some (.int (hI h2 fU_declarationCount r)), h2)) → wr X 1 6 44 [.ref H, .int x, .int (nI p), .int v, .ref r] [] h → True := fun _ _ _ _ _ _ => trivial
  refine mr_of (by decide +kernel) (Nat.le_of_ble_eq_true rfl) (ct4 (by first | rfl | exact isR_cat (isR_rf _)) (by first | rfl | exact isR_cat (isR_rf _)) (by first | rfl | exact isR_cat (isR_rf _)) (by first | rfl | exact isR_cat (isR_rf _))) (fun X hG hl C E => ?_)
  subst hG hl
  refine r_aload_n (i := 0) C dX11_declare_0 rfl rfl (by first | rfl | exact isR_rf _) ?_
  refine r_iload_n (i := 1) C dX11_declare_1 rfl rfl ?_
  refine r_callVs C v_X11_126 Mr dX11_declare_2 (by assumption) (ci := 9) (by decide) rfl rfl (As := [_]) rfl rfl rfl (by first | exact Nat.le_refl _ | exact Nat.le_of_ble_eq_true rfl | omega) (Nat.le_of_ble_eq_true rfl) (by first | exact Nat.le_refl _ | exact Nat.le_of_ble_eq_true rfl | omega) (by first | exact Nat.le_refl _ | exact Nat.le_of_ble_eq_true rfl | omega) ?_
  refine r_astore (i := 4) C dX11_declare_5 (Nat.le_of_ble_eq_true rfl) (by first | rfl | exact isR_rf _) ?_
  refine r_iload_n (i := 2) C dX11_declare_7 rfl rfl ?_
  refine r_bipush (v := 14) C dX11_declare_8 (by decide) ?_
  refine r_callSn C s_X11_144 (cP_ok (fun z => z.elim (nI_pos (by omega)) (fun y => absurd (show nI 14 < nI p from y) (nI_nlt hp (by decide))))) dX11_declare_10 (As := [_, _]) rfl rfl rfl (by first | exact Nat.le_refl _ | exact Nat.le_of_ble_eq_true rfl | omega) (Nat.le_of_ble_eq_true rfl) (by first | exact Nat.le_refl _ | exact Nat.le_of_ble_eq_true rfl | omega) (by first | exact Nat.le_refl _ | exact Nat.le_of_ble_eq_true rfl | omega) ?_
  refine r_iload_n (i := 2) C dX11_declare_13 rfl rfl ?_
  refine r_iload_n (i := 3) C dX11_declare_14 rfl rfl ?_
  refine r_callSs C s_X11_148 M1 dX11_declare_15 (As := [_, _]) rfl rfl rfl (by first | exact Nat.le_refl _ | exact Nat.le_of_ble_eq_true rfl | omega) (Nat.le_of_ble_eq_true rfl) (by first | exact Nat.le_refl _ | exact Nat.le_of_ble_eq_true rfl | omega) (by first | exact Nat.le_refl _ | exact Nat.le_of_ble_eq_true rfl | omega) ?_
  refine r_if_ne (tgt := 44) C dX11_declare_18 (by decide) (fun c_18 => ?_) (fun c_18 => ?_)
  · refine r_aload (i := 4) C dX11_declare_44 rfl (by first | rfl | exact isR_rf _) ?_
    refine r_iload_n (i := 2) C dX11_declare_46 rfl rfl ?_
    refine r_new C n_X11_160 dX11_declare_47 (by first | exact Nat.le_refl _ | exact Nat.le_of_ble_eq_true rfl | omega) (by first | exact Nat.le_refl _ | exact Nat.le_of_ble_eq_true rfl | omega) ?_
    refine r_dup C (by first | rfl | exact isR_cat (isR_rf _)) dX11_declare_50 ?_
    refine r_iconst (v := 4) C dX11_declare_51 (by decide) ?_
    refine r_iload_n (i := 3) C dX11_declare_52 rfl rfl ?_
    refine r_iconst (v := (-1)) C dX11_declare_53 (by decide) ?_
    refine r_callI C i_X11_162 M3 dX11_declare_54 (As := [_, _, _]) rfl rfl rfl (by first | exact Nat.le_refl _ | exact Nat.le_of_ble_eq_true rfl | omega) (Nat.le_of_ble_eq_true rfl) (by first | exact Nat.le_refl _ | exact Nat.le_of_ble_eq_true rfl | omega) (by first | exact Nat.le_refl _ | exact Nat.le_of_ble_eq_true rfl | omega) ?_
    refine r_callSn C s_X11_164 Mp dX11_declare_57 (As := [_, _, _]) rfl rfl rfl (by first | exact Nat.le_refl _ | exact Nat.le_of_ble_eq_true rfl | omega) (Nat.le_of_ble_eq_true rfl) (by first | exact Nat.le_refl _ | exact Nat.le_of_ble_eq_true rfl | omega) (by first | exact Nat.le_refl _ | exact Nat.le_of_ble_eq_true rfl | omega) ?_
    refine r_aload_n (i := 0) C dX11_declare_60 rfl rfl (by first | rfl | exact isR_rf _) ?_
    refine r_iconst (v := 0) C dX11_declare_61 (by decide) ?_
    refine r_callVn C v_X11_36 Ms dX11_declare_62 (by assumption) (ci := 9) (by decide) rfl rfl (As := [_]) rfl rfl rfl (by first | exact Nat.le_refl _ | exact Nat.le_of_ble_eq_true rfl | omega) (Nat.le_of_ble_eq_true rfl) (by first | exact Nat.le_refl _ | exact Nat.le_of_ble_eq_true rfl | omega) (by first | exact Nat.le_refl _ | exact Nat.le_of_ble_eq_true rfl | omega) ?_
    refine r_aload (i := 4) C dX11_declare_65 rfl (by first | rfl | exact isR_rf _) ?_
    refine r_getI C f_X11_168 dX11_declare_67 rfl (by assumption) ?_
    exact r_iret C E dX11_declare_70 rfl rfl (by first | exact Nat.le_refl _ | exact Nat.le_of_ble_eq_true rfl | omega) (by first | exact Nat.le_refl _ | exact Nat.le_of_ble_eq_true rfl | omega)
  · refine r_iload_n (i := 3) C dX11_declare_21 rfl rfl ?_
    refine r_bipush (v := (-2)) C dX11_declare_22 (by decide) ?_
    refine r_ic_ne (tgt := 34) C dX11_declare_24 (by decide) (fun c_24 => ?_) (fun c_24 => ?_)
    · rcases q with q | q
      · exact absurd (Decidable.not_not.mp c_18) q
      · exact absurd q.1 c_24
    · refine r_iload_n (i := 2) C dX11_declare_27 rfl rfl ?_
      refine r_callSs C s_X11_154 M2 dX11_declare_28 (As := [_]) rfl rfl rfl (by first | exact Nat.le_refl _ | exact Nat.le_of_ble_eq_true rfl | omega) (Nat.le_of_ble_eq_true rfl) (by first | exact Nat.le_refl _ | exact Nat.le_of_ble_eq_true rfl | omega) (by first | exact Nat.le_refl _ | exact Nat.le_of_ble_eq_true rfl | omega) ?_
      refine r_if_ne (tgt := 44) C dX11_declare_31 (by decide) (fun c_31 => ?_) (fun c_31 => ?_)
      · refine r_aload (i := 4) C dX11_declare_44 rfl (by first | rfl | exact isR_rf _) ?_
        refine r_iload_n (i := 2) C dX11_declare_46 rfl rfl ?_
        refine r_new C n_X11_160 dX11_declare_47 (by first | exact Nat.le_refl _ | exact Nat.le_of_ble_eq_true rfl | omega) (by first | exact Nat.le_refl _ | exact Nat.le_of_ble_eq_true rfl | omega) ?_
        refine r_dup C (by first | rfl | exact isR_cat (isR_rf _)) dX11_declare_50 ?_
        refine r_iconst (v := 4) C dX11_declare_51 (by decide) ?_
        refine r_iload_n (i := 3) C dX11_declare_52 rfl rfl ?_
        refine r_iconst (v := (-1)) C dX11_declare_53 (by decide) ?_
        refine r_callI C i_X11_162 M3 dX11_declare_54 (As := [_, _, _]) rfl rfl rfl (by first | exact Nat.le_refl _ | exact Nat.le_of_ble_eq_true rfl | omega) (Nat.le_of_ble_eq_true rfl) (by first | exact Nat.le_refl _ | exact Nat.le_of_ble_eq_true rfl | omega) (by first | exact Nat.le_refl _ | exact Nat.le_of_ble_eq_true rfl | omega) ?_
        refine r_callSn C s_X11_164 Mp dX11_declare_57 (As := [_, _, _]) rfl rfl rfl (by first | exact Nat.le_refl _ | exact Nat.le_of_ble_eq_true rfl | omega) (Nat.le_of_ble_eq_true rfl) (by first | exact Nat.le_refl _ | exact Nat.le_of_ble_eq_true rfl | omega) (by first | exact Nat.le_refl _ | exact Nat.le_of_ble_eq_true rfl | omega) ?_
        refine r_aload_n (i := 0) C dX11_declare_60 rfl rfl (by first | rfl | exact isR_rf _) ?_
        refine r_iconst (v := 0) C dX11_declare_61 (by decide) ?_
        refine r_callVn C v_X11_36 Ms dX11_declare_62 (by assumption) (ci := 9) (by decide) rfl rfl (As := [_]) rfl rfl rfl (by first | exact Nat.le_refl _ | exact Nat.le_of_ble_eq_true rfl | omega) (Nat.le_of_ble_eq_true rfl) (by first | exact Nat.le_refl _ | exact Nat.le_of_ble_eq_true rfl | omega) (by first | exact Nat.le_refl _ | exact Nat.le_of_ble_eq_true rfl | omega) ?_
        refine r_aload (i := 4) C dX11_declare_65 rfl (by first | rfl | exact isR_rf _) ?_
        refine r_getI C f_X11_168 dX11_declare_67 rfl (by assumption) ?_
        exact r_iret C E dX11_declare_70 rfl rfl (by first | exact Nat.le_refl _ | exact Nat.le_of_ble_eq_true rfl | omega) (by first | exact Nat.le_refl _ | exact Nat.le_of_ble_eq_true rfl | omega)
      · sorry
