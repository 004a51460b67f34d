/-! ===== Cascade.<init> ===== -/
def ca1 (h : Hp) (c : Nat) : Hp := sR (nls (nw h 0 0) (hN h)) fC_listed c (some (hN h))
def ca2 (h : Hp) (c n : Nat) : Hp := sR (nw h 104 14) fC_deciding c (some n)
def ca3 (h : Hp) (c n : Nat) : Hp := sR (nw h 100 14) fC_passed c (some n)
def ca4 (h : Hp) (c n : Nat) : Hp := sR (nw h 100 4) fC_needed c (some n)
/-- a new cascade -/
def caH (h : Hp) (c b : Nat) : Hp := sR (ca4 (ca3 (ca2 (ca1 h c) c (hN h + 1)) c (hN h + 2)) c (hN h + 3)) fC_book c (some b)
theorem ca_K {h : Hp} {c k n a : Nat} (hc : hK h c = 1) (hl : c < hN h) : hK (nw h k n) c = 1 := by
  show va_up (hK h) (hN h) k c = 1
  rw [va_up_ne _ _ (by omega)]
  exact hc
theorem c_cascInit (l : Launch) (G : Gl) {h : Hp} {c b : Nat} (hk : hK h c = 1) (hc : c < hN h) : MRw l G yX0_init (.code yX0_init cX0_init 2 none) 4 4 35 [.ref c, .ref b] h (.inl (none, caH h c b)) := by
  refine mr_of (by decide +kernel) (Nat.le_of_ble_eq_true rfl) (ct2 (by first | rfl | exact isR_cat (isR_rf _)) (by first | rfl | exact isR_cat (isR_rf _))) (fun X hG hl C E => ?_)
  subst hG hl
  have hN9 : meth_nm X = "<init>" := cx_nm C
  refine r_aload_n (i := 0) C dX0_init_0 rfl rfl (by first | rfl | exact isR_rf _) ?_
  refine r_oinit C dX0_init_1 (by first | exact Nat.le_refl _ | exact Nat.le_of_ble_eq_true rfl | omega) rfl (by decide) l_X0_3 w_oiM w_oiC ?_
  refine r_aload_n (i := 0) C dX0_init_4 rfl rfl (by first | rfl | exact isR_rf _) ?_
  refine r_new C n_X0_9 dX0_init_5 (by first | exact Nat.le_refl _ | exact Nat.le_of_ble_eq_true rfl | omega) (by first | exact Nat.le_refl _ | exact Nat.le_of_ble_eq_true rfl | omega) ?_
  refine r_dup C (by first | rfl | exact isR_cat (isR_rf _)) dX0_init_8 ?_
  refine r_callI C i_X0_11 (c_listInit _ _ (h := nw h 0 0) (a := hN h) (va_up_self _ _ _)) dX0_init_9 (As := []) rfl rfl rfl (by first | exact Nat.le_refl _ | exact Nat.le_of_ble_eq_true rfl | omega) (Nat.le_of_ble_eq_true rfl) (by first | exact Nat.le_refl _ | exact Nat.le_of_ble_eq_true rfl | omega) (by first | exact Nat.le_refl _ | exact Nat.le_of_ble_eq_true rfl | omega) ?_
  have hk1 : hK (nls (nw h 0 0) (hN h)) c = 1 := ca_K (k := 0) (n := 0) (a := 0) hk hc
  change wr X 1 3 12 _ _ (nls (nw h 0 0) (hN h))
  first | refine r_putFR (o := some _) C f_X0_12 dX0_init_12 rfl hN9 rfl (by assumption) ?_ | refine r_putFR (o := none) C f_X0_12 dX0_init_12 rfl hN9 rfl (by assumption) ?_ | refine r_putFR C f_X0_12 dX0_init_12 rfl hN9 rfl (by assumption) ?_
  change wr X 1 3 15 _ _ (ca1 h c)
  have n1 : hN (ca1 h c) = hN h + 1 := rfl
  have k1 : hK (ca1 h c) c = 1 := hk1
  unfold caH at E
  generalize ca1 h c = g1 at n1 k1 E ⊢
  refine r_aload_n (i := 0) C dX0_init_15 rfl rfl (by first | rfl | exact isR_rf _) ?_
  refine r_bipush (v := 14) C dX0_init_16 (by decide) ?_
  refine r_newq (t := 1) (j := 14) C dX0_init_18 rfl (by decide) (by decide) c_X0_18 (by decide) (by decide) ?_
  have k2' : hK (nw g1 (103 + 1) 14) c = 1 := ca_K (a := 0) k1 (by omega)
  first | refine r_putFR (o := some _) C f_X0_20 dX0_init_21 rfl hN9 rfl (by assumption) ?_ | refine r_putFR (o := none) C f_X0_20 dX0_init_21 rfl hN9 rfl (by assumption) ?_ | refine r_putFR C f_X0_20 dX0_init_21 rfl hN9 rfl (by assumption) ?_
  rw [n1]
  change wr X 2 17 24 _ _ (ca2 g1 c (hN h + 1))
  have n2 : hN (ca2 g1 c (hN h + 1)) = hN h + 2 := by show hN g1 + 1 = _; omega
  have k2 : hK (ca2 g1 c (hN h + 1)) c = 1 := k2'
  generalize ca2 g1 c (hN h + 1) = g2 at n2 k2 E ⊢
  refine r_aload_n (i := 0) C dX0_init_24 rfl rfl (by first | rfl | exact isR_rf _) ?_
  refine r_bipush (v := 14) C dX0_init_25 (by decide) ?_
  refine r_newa_int (j := 14) C dX0_init_27 rfl (by decide) w_arI (by decide) (by decide) ?_
  have k3' : hK (nw g2 100 14) c = 1 := ca_K (a := 0) k2 (by omega)
  first | refine r_putFR (o := some _) C f_X0_24 dX0_init_29 rfl hN9 rfl (by assumption) ?_ | refine r_putFR (o := none) C f_X0_24 dX0_init_29 rfl hN9 rfl (by assumption) ?_ | refine r_putFR C f_X0_24 dX0_init_29 rfl hN9 rfl (by assumption) ?_
  rw [n2]
  change wr X 3 31 32 _ _ (ca3 g2 c (hN h + 2))
  have n3 : hN (ca3 g2 c (hN h + 2)) = hN h + 3 := by show hN g2 + 1 = _; omega
  have k3 : hK (ca3 g2 c (hN h + 2)) c = 1 := k3'
  generalize ca3 g2 c (hN h + 2) = g3 at n3 k3 E ⊢
  refine r_aload_n (i := 0) C dX0_init_32 rfl rfl (by first | rfl | exact isR_rf _) ?_
  refine r_iconst (v := 4) C dX0_init_33 (by decide) ?_
  refine r_newa_int (j := 4) C dX0_init_34 rfl (by decide) w_arI (by decide) (by decide) ?_
  have k4' : hK (nw g3 100 4) c = 1 := ca_K (a := 0) k3 (by omega)
  first | refine r_putFR (o := some _) C f_X0_28 dX0_init_36 rfl hN9 rfl (by assumption) ?_ | refine r_putFR (o := none) C f_X0_28 dX0_init_36 rfl hN9 rfl (by assumption) ?_ | refine r_putFR C f_X0_28 dX0_init_36 rfl hN9 rfl (by assumption) ?_
  rw [n3]
  change wr X 4 35 39 _ _ (ca4 g3 c (hN h + 3))
  have k4 : hK (ca4 g3 c (hN h + 3)) c = 1 := k4'
  generalize ca4 g3 c (hN h + 3) = g4 at k4 E ⊢
  refine r_aload_n (i := 0) C dX0_init_39 rfl rfl (by first | rfl | exact isR_rf _) ?_
  refine r_aload_n (i := 1) C dX0_init_40 rfl rfl (by first | rfl | exact isR_rf _) ?_
  first | refine r_putFR (o := some _) C f_X0_31 dX0_init_41 rfl hN9 rfl (by assumption) ?_ | refine r_putFR (o := none) C f_X0_31 dX0_init_41 rfl hN9 rfl (by assumption) ?_ | refine r_putFR C f_X0_31 dX0_init_41 rfl hN9 rfl (by assumption) ?_
  exact r_vret C E dX0_init_44 rfl (Nat.le_refl _) (Nat.le_refl _)
