/-! ===== CascadeHouse.<init>: the walk ===== -/
theorem c_house_w (l : Launch) (G : Gl) {h h3 h4 h6 h7 h9 h10 h11 : Hp} {H j : Nat} (hkH : hK h H = 9) (Mt : MRw l G yX10_init (.code yX10_init cX10_init 2 none) 7 10 156 [.ref (hN h)] (nw h 8 0) (.inl (none, h3))) (hk3 : hK h3 H = 9) (e4 : sR h3 fH_tree H (some (hN h)) = h4) (hk4 : hK h4 H = 9)
    (Mb : MRw l G yX8_init (.code yX8_init cX8_init 1 none) 4 2 6 [.ref (hN h4)] (nw h4 7 0) (.inl (none, h6))) (hk6 : hK h6 H = 9) (e7 : sR h6 fH_book H (some (hN h4)) = h7) (hk7 : hK h7 H = 9) (hk7n : hK (nw h7 1 0) H = 9) (hb7 : hR (nw h7 1 0) fH_book H = some (hN h4))
    (Mc : MRw l G yX0_init (.code yX0_init cX0_init 2 none) 4 4 35 [.ref (hN h7), .ref (hN h4)] (nw h7 1 0) (.inl (none, h9))) (hk9 : hK h9 H = 9) (hk9' : hK (sR h9 fH_cascade H (some (hN h7))) H = 9) (e10 : sI (sR h9 fH_cascade H (some (hN h7))) fH_windowWidth H 100 = h10) (hk10 : hK h10 H = 9)
    (Ms : MRw l G yX11_settle (.code yX11_settle cX11_settle 4 none) 11 j (60 * j) [.ref H, .int (nI 0)] h10 (.inl (none, h11))) (hj : j ≤ 3) (hk11 : hK h11 H = 9) :
    MRw l G yX11_init (.code yX11_init cX11_init 1 none) 12 30 600 [.ref H] h (.inl (none, sI h11 fH_lastReached H 0)) := by
  refine mr_of (by decide +kernel) (Nat.le_of_ble_eq_true rfl) (ct1 (by first | rfl | exact isR_cat (isR_rf _))) (fun X hG hl C E => ?_)
  subst hG hl
  have hN9 : meth_nm X = "<init>" := cx_nm C
  refine r_aload_n (i := 0) C dX11_init_0 rfl rfl (by first | rfl | exact isR_rf _) ?_
  refine r_oinit C dX11_init_1 (by first | exact Nat.le_refl _ | exact Nat.le_of_ble_eq_true rfl | omega) rfl (by decide) l_X11_1 w_oiM w_oiC ?_
  refine r_aload_n (i := 0) C dX11_init_4 rfl rfl (by first | rfl | exact isR_rf _) ?_
  refine r_new C n_X11_7 dX11_init_5 (by first | exact Nat.le_refl _ | exact Nat.le_of_ble_eq_true rfl | omega) (by first | exact Nat.le_refl _ | exact Nat.le_of_ble_eq_true rfl | omega) ?_
  refine r_dup C (by first | rfl | exact isR_cat (isR_rf _)) dX11_init_8 ?_
  refine r_callI C i_X11_9 Mt dX11_init_9 (As := []) rfl rfl rfl (by first | exact Nat.le_refl _ | exact Nat.le_of_ble_eq_true rfl | omega) (Nat.le_of_ble_eq_true rfl) (by first | exact Nat.le_refl _ | exact Nat.le_of_ble_eq_true rfl | omega) (by first | exact Nat.le_refl _ | exact Nat.le_of_ble_eq_true rfl | omega) ?_
  first | refine r_putFR (o := some _) C f_X11_10 dX11_init_12 rfl hN9 rfl (by assumption) ?_ | refine r_putFR (o := none) C f_X11_10 dX11_init_12 rfl hN9 rfl (by assumption) ?_ | refine r_putFR C f_X11_10 dX11_init_12 rfl hN9 rfl (by assumption) ?_
  rw [e4]
  refine r_aload_n (i := 0) C dX11_init_15 rfl rfl (by first | rfl | exact isR_rf _) ?_
  refine r_new C n_X11_16 dX11_init_16 (by first | exact Nat.le_refl _ | exact Nat.le_of_ble_eq_true rfl | omega) (by first | exact Nat.le_refl _ | exact Nat.le_of_ble_eq_true rfl | omega) ?_
  refine r_dup C (by first | rfl | exact isR_cat (isR_rf _)) dX11_init_19 ?_
  refine r_callN C i_X11_18 Mb dX11_init_20 (As := []) rfl rfl rfl (by first | exact Nat.le_refl _ | exact Nat.le_of_ble_eq_true rfl | omega) (Nat.le_of_ble_eq_true rfl) (by first | exact Nat.le_refl _ | exact Nat.le_of_ble_eq_true rfl | omega) (by first | exact Nat.le_refl _ | exact Nat.le_of_ble_eq_true rfl | omega) ?_
  first | refine r_putFR (o := some _) C f_X11_19 dX11_init_23 rfl hN9 rfl (by assumption) ?_ | refine r_putFR (o := none) C f_X11_19 dX11_init_23 rfl hN9 rfl (by assumption) ?_ | refine r_putFR C f_X11_19 dX11_init_23 rfl hN9 rfl (by assumption) ?_
  rw [e7]
  refine r_aload_n (i := 0) C dX11_init_26 rfl rfl (by first | rfl | exact isR_rf _) ?_
  refine r_new C n_X11_23 dX11_init_27 (by first | exact Nat.le_refl _ | exact Nat.le_of_ble_eq_true rfl | omega) (by first | exact Nat.le_refl _ | exact Nat.le_of_ble_eq_true rfl | omega) ?_
  refine r_dup C (by first | rfl | exact isR_cat (isR_rf _)) dX11_init_30 ?_
  refine r_aload_n (i := 0) C dX11_init_31 rfl rfl (by first | rfl | exact isR_rf _) ?_
  refine r_getR C f_X11_19 dX11_init_32 rfl (by assumption) ?_
  rw [hb7]
  refine r_callI C i_X11_25 Mc dX11_init_35 (As := [_]) rfl rfl rfl (by first | exact Nat.le_refl _ | exact Nat.le_of_ble_eq_true rfl | omega) (Nat.le_of_ble_eq_true rfl) (by first | exact Nat.le_refl _ | exact Nat.le_of_ble_eq_true rfl | omega) (by first | exact Nat.le_refl _ | exact Nat.le_of_ble_eq_true rfl | omega) ?_
  first | refine r_putFR (o := some _) C f_X11_28 dX11_init_38 rfl hN9 rfl (by assumption) ?_ | refine r_putFR (o := none) C f_X11_28 dX11_init_38 rfl hN9 rfl (by assumption) ?_ | refine r_putFR C f_X11_28 dX11_init_38 rfl hN9 rfl (by assumption) ?_
  refine r_aload_n (i := 0) C dX11_init_41 rfl rfl (by first | rfl | exact isR_rf _) ?_
  refine r_bipush (v := 100) C dX11_init_42 (by decide) ?_
  refine r_putI C f_X11_32 dX11_init_44 rfl rfl rfl (by assumption) ?_
  rw [e10]
  refine r_aload_n (i := 0) C dX11_init_47 rfl rfl (by first | rfl | exact isR_rf _) ?_
  refine r_iconst (v := 0) C dX11_init_48 (by decide) ?_
  refine r_callVn C v_X11_36 Ms dX11_init_49 (by assumption) (ci := 9) (by decide) rfl rfl (As := [_]) rfl rfl rfl (by first | exact Nat.le_refl _ | exact Nat.le_of_ble_eq_true rfl | omega) (Nat.le_of_ble_eq_true rfl) (by first | exact Nat.le_refl _ | exact Nat.le_of_ble_eq_true rfl | omega) (by first | exact Nat.le_refl _ | exact Nat.le_of_ble_eq_true rfl | omega) ?_
  refine r_aload_n (i := 0) C dX11_init_52 rfl rfl (by first | rfl | exact isR_rf _) ?_
  refine r_iconst (v := 0) C dX11_init_53 (by decide) ?_
  refine r_putI C f_X11_40 dX11_init_54 rfl rfl rfl (by assumption) ?_
  exact r_vret C E dX11_init_57 rfl (by omega) (by omega)
