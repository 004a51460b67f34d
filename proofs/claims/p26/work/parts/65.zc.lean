/-! ===== Layout: heights (by genz.py) ===== -/
def k_stackBlocks_10 (w : WZ) : Nat → Int32 → Int32 → Option Nat → MM → Option (Int32 × MM)
  | 0, _, _, _, _ => none
  | fu + 1, x2, x3, x4, Z => oe x4 (some (x2 + x3, Z)) (fun c2 => if (Z c2 29) = (0 : Int32) then (bnd (wl w 199 c2) fun p4 => (k_stackBlocks_10 w fu x2 x3 p4 Z)) else (bnd (u2 Z c2 31 (x2 + (mxI x3 (Z c2 3)))) fun Z5 => (bnd ((Z5 c2 31) + (Z5 c2 33)) fun p6 => (bnd (Z5 c2 4) fun p7 => (bnd (wl w 199 c2) fun p8 => (k_stackBlocks_10 w fu p6 p7 p8 Z5))))))
theorem zk_stackBlocks_10 {X : Ctx} {w : WZ} {h : Hp} (C : Cx X yX3_stackBlocks cX3_stackBlocks 6 (Option.some Jvm.ClassFile.FieldType.int) [] 1 0 0) (hZ : ZW w h) {r : Int32 × MM} (E0 : Ex X 0 0 (.inl (some (.int r.1), cm w h r.2))) : ∀ (fu : Nat) (x2 : Int32) (x3 : Int32) (x4 : Option Nat) (Z : MM) (u0 u1 u5 : Value) , k_stackBlocks_10 w fu x2 x3 x4 Z = some r → (∀ c, x4 = some c → c < wn w) → wr X 0 0 10 [u0, u1, .int x2, .int x3, va_rf (x4.map (wE w)), u5] [] (cm w h Z) := by
  intro fu
  induction fu with
  | zero =>
    intro x2 x3 x4 Z u0 u1 u5 E b4 
    rw [k_stackBlocks_10] at E
    cases E
  | succ fu ih =>
    intro x2 x3 x4 Z u0 u1 u5 E b4 
    rw [k_stackBlocks_10] at E
    refine r_aload (i := 4) C dX3_stackBlocks_10 rfl (by first | rfl | exact isR_rf _) ?_
    rcases x4 with _ | c2
    · have E := oe_n E
      refine r_ifnull (o := none) (tgt := 76) C dX3_stackBlocks_12 (by decide) (fun _ => ?_) (fun _ q => nomatch q)
      refine r_iload_n (i := 2) C dX3_stackBlocks_76 rfl rfl ?_
      refine r_iload_n (i := 3) C dX3_stackBlocks_77 rfl rfl ?_
      refine r_iadd C dX3_stackBlocks_78 ?_
      obtain rfl := Option.some.inj E
      exact r_iret C E0 dX3_stackBlocks_79 rfl rfl (Nat.le_refl _) (Nat.le_refl _)
    · have E := oe_s E
      have lc2 : c2 < wn w := b4 _ rfl
      refine r_ifnull (o := some (wE w c2)) (tgt := 76) C dX3_stackBlocks_12 (by decide) (fun q => nomatch q) (fun _ _ => ?_)
      refine r_aload (i := 4) C dX3_stackBlocks_15 rfl (by first | rfl | exact isR_rf _) ?_
      refine rz_fresh C f_X3_36 dX3_stackBlocks_17 rfl rfl hZ lc2 ?_
      refine r_astore (i := 5) C dX3_stackBlocks_20 (Nat.le_of_ble_eq_true rfl) (by first | rfl | exact isR_rf _) ?_
      refine r_aload (i := 5) C dX3_stackBlocks_22 rfl (by first | rfl | exact isR_rf _) ?_
      refine rz_lI C 29 f_X3_19 dX3_stackBlocks_24 rfl rfl (by decide) (by decide) hZ lc2 ?_
      refine r_if_eq (tgt := 66) C dX3_stackBlocks_27 (by decide) (fun c_27 => ?_) (fun c_27 => ?_)
      · have E := ite_t E c_27
        refine r_aload (i := 4) C dX3_stackBlocks_66 rfl (by first | rfl | exact isR_rf _) ?_
        refine rz_link C 199 f_X3_46 dX3_stackBlocks_68 rfl rfl (by decide) (by decide) hZ lc2 ?_
        refine bnd_elim (P := fun (z : Option Nat) => (∀ c, z = some c → c < wn w) → wr X 0 0 71 [u0, u1, .int x2, .int x3, .ref (wE w c2), .ref (wf w c2)] [va_rf (z.map (wE w))] (cm w h Z)) E (fun p4 E bp4 => ?_) (zl_lt hZ lc2 (by decide) (by decide))
        refine r_astore (i := 4) C dX3_stackBlocks_71 (Nat.le_of_ble_eq_true rfl) (by first | rfl | exact isR_rf _) ?_
        refine r_goto (tgt := 10) C dX3_stackBlocks_73 (by decide) ?_
        exact ih _ _ _ _ _ _ _ E bp4
      · have E := ite_f E c_27
        refine r_aload (i := 5) C dX3_stackBlocks_30 rfl (by first | rfl | exact isR_rf _) ?_
        refine r_iload_n (i := 2) C dX3_stackBlocks_32 rfl rfl ?_
        refine r_iload_n (i := 3) C dX3_stackBlocks_33 rfl rfl ?_
        refine r_aload (i := 5) C dX3_stackBlocks_34 rfl (by first | rfl | exact isR_rf _) ?_
        refine r_iconst (v := 3) C dX3_stackBlocks_36 (by decide) ?_
        refine r_callVs C v_X3_9 (z_lkV _ _ 3 hZ lc2 (by decide) rfl) dX3_stackBlocks_37 (hZ.1 _ lc2).2.2.1 (ci := 4) (by decide) rfl rfl (As := [_]) rfl rfl rfl (by first | exact Nat.le_refl _ | exact Nat.le_of_ble_eq_true rfl | omega) (Nat.le_of_ble_eq_true rfl) (by first | exact Nat.le_refl _ | exact Nat.le_of_ble_eq_true rfl | omega) (by first | exact Nat.le_refl _ | exact Nat.le_of_ble_eq_true rfl | omega) ?_
        refine r_mmax C dX3_stackBlocks_40 (by first | exact Nat.le_refl _ | exact Nat.le_of_ble_eq_true rfl | omega) rfl (Nat.le_of_ble_eq_true rfl) l_X3_114 w_maxS w_mathI w_maxC (by first | exact Nat.le_refl _ | exact Nat.le_of_ble_eq_true rfl | omega) (by first | exact Nat.le_refl _ | exact Nat.le_of_ble_eq_true rfl | omega) ?_
        refine r_iadd C dX3_stackBlocks_43 ?_
        refine rz_lput C 31 f_X3_117 dX3_stackBlocks_44 rfl rfl rfl rfl (by decide) (by decide) hZ lc2 ?_
        refine bnd_elim (P := fun (Z : MM) => wr X 0 0 47 [u0, u1, .int x2, .int x3, .ref (wE w c2), .ref (wf w c2)] [] (cm w h Z)) E (fun Z5 E => ?_)
        refine r_aload (i := 5) C dX3_stackBlocks_47 rfl (by first | rfl | exact isR_rf _) ?_
        refine rz_lI C 31 f_X3_117 dX3_stackBlocks_49 rfl rfl (by decide) (by decide) hZ lc2 ?_
        refine r_aload (i := 5) C dX3_stackBlocks_52 rfl (by first | rfl | exact isR_rf _) ?_
        refine rz_lI C 33 f_X3_111 dX3_stackBlocks_54 rfl rfl (by decide) (by decide) hZ lc2 ?_
        refine r_iadd C dX3_stackBlocks_57 ?_
        refine bnd_elim (P := fun (z : Int32) => wr X 0 0 58 [u0, u1, .int x2, .int x3, .ref (wE w c2), .ref (wf w c2)] [.int z] (cm w h Z5)) E (fun p6 E => ?_)
        refine r_istore_n (i := 2) C dX3_stackBlocks_58 rfl (Nat.le_of_ble_eq_true rfl) ?_
        refine r_aload (i := 5) C dX3_stackBlocks_59 rfl (by first | rfl | exact isR_rf _) ?_
        refine r_iconst (v := 4) C dX3_stackBlocks_61 (by decide) ?_
        refine r_callVs C v_X3_9 (z_lkV _ _ 4 hZ lc2 (by decide) rfl) dX3_stackBlocks_62 (hZ.1 _ lc2).2.2.1 (ci := 4) (by decide) rfl rfl (As := [_]) rfl rfl rfl (by first | exact Nat.le_refl _ | exact Nat.le_of_ble_eq_true rfl | omega) (Nat.le_of_ble_eq_true rfl) (by first | exact Nat.le_refl _ | exact Nat.le_of_ble_eq_true rfl | omega) (by first | exact Nat.le_refl _ | exact Nat.le_of_ble_eq_true rfl | omega) ?_
        refine bnd_elim (P := fun (z : Int32) => wr X 0 0 65 [u0, u1, .int p6, .int x3, .ref (wE w c2), .ref (wf w c2)] [.int z] (cm w h Z5)) E (fun p7 E => ?_)
        refine r_istore_n (i := 3) C dX3_stackBlocks_65 rfl (Nat.le_of_ble_eq_true rfl) ?_
        refine r_aload (i := 4) C dX3_stackBlocks_66 rfl (by first | rfl | exact isR_rf _) ?_
        refine rz_link C 199 f_X3_46 dX3_stackBlocks_68 rfl rfl (by decide) (by decide) hZ lc2 ?_
        refine bnd_elim (P := fun (z : Option Nat) => (∀ c, z = some c → c < wn w) → wr X 0 0 71 [u0, u1, .int p6, .int p7, .ref (wE w c2), .ref (wf w c2)] [va_rf (z.map (wE w))] (cm w h Z5)) E (fun p8 E bp8 => ?_) (zl_lt hZ lc2 (by decide) (by decide))
        refine r_astore (i := 4) C dX3_stackBlocks_71 (Nat.le_of_ble_eq_true rfl) (by first | rfl | exact isR_rf _) ?_
        refine r_goto (tgt := 10) C dX3_stackBlocks_73 (by decide) ?_
        exact ih _ _ _ _ _ _ _ E bp8
def k_stackBlocks (w : WZ) (Z : MM) (a0 : Nat) (a1 : Int32) : Option (Int32 × MM) := bnd (wl w 200 a0) fun p1 => (k_stackBlocks_10 w 1000 a1 (0 : Int32) p1 Z)
theorem zk_stackBlocks (l : Launch) (G : Gl) {w : WZ} {h : Hp} (hZ : ZW w h) {Z : MM} {a0 : Nat} {a1 : Int32} (h0 : a0 < wn w) {r : Int32 × MM} (E : k_stackBlocks w Z a0 a1 = some r) : MRw l G yX3_stackBlocks (.code yX3_stackBlocks cX3_stackBlocks 6 (Option.some Jvm.ClassFile.FieldType.int)) 1 0 0 [.ref (wE w a0), .int a1] (cm w h Z) (.inl (some (.int r.1), cm w h r.2)) := by
  refine mr_of (by decide +kernel) (Nat.le_of_ble_eq_true rfl) (ct2 rfl rfl) (fun X hG hl C E0 => ?_)
  subst hG hl
  rw [k_stackBlocks] at E
  refine r_iload_n (i := 1) C dX3_stackBlocks_0 rfl rfl ?_
  refine r_istore_n (i := 2) C dX3_stackBlocks_1 rfl (Nat.le_of_ble_eq_true rfl) ?_
  refine r_iconst (v := 0) C dX3_stackBlocks_2 (by decide) ?_
  refine r_istore_n (i := 3) C dX3_stackBlocks_3 rfl (Nat.le_of_ble_eq_true rfl) ?_
  refine r_aload_n (i := 0) C dX3_stackBlocks_4 rfl rfl (by first | rfl | exact isR_rf _) ?_
  refine rz_link C 200 f_X3_42 dX3_stackBlocks_5 rfl rfl (by decide) (by decide) hZ h0 ?_
  refine bnd_elim (P := fun (z : Option Nat) => (∀ c, z = some c → c < wn w) → wr X 0 0 8 [.ref (wE w a0), .int a1, .int a1, .int (0 : Int32), (.long 0), (.long 0)] [va_rf (z.map (wE w))] (cm w h Z)) E (fun p1 E bp1 => ?_) (zl_lt hZ h0 (by decide) (by decide))
  refine r_astore (i := 4) C dX3_stackBlocks_8 (Nat.le_of_ble_eq_true rfl) (by first | rfl | exact isR_rf _) ?_
  refine zk_stackBlocks_10 C hZ E0 _ _ _ _ _ _ _ _ E bp1

def k_stackRows_14 (w : WZ) (x2 : Int32) : Nat → Int32 → Int32 → Int32 → Option Nat → MM → Option (Int32 × MM)
  | 0, _, _, _, _, _ => none
  | fu + 1, x3, x4, x5, x6, Z => oe x6 (some (x3 + x4, Z)) (fun c2 => if (Z c2 29) = (0 : Int32) then (bnd (wl w 199 c2) fun p6 => (k_stackRows_14 w x2 fu x3 x4 x5 p6 Z)) else (if x5 < x2 then (bnd (u2 Z c2 31 (x3 + (Z c2 3))) fun Z8 => (bnd (mxI x4 (Z8 c2 3 + Z8 c2 33 + Z8 c2 4)) fun p9 => (bnd (wl w 199 c2) fun p10 => (k_stackRows_14 w x2 fu x3 p9 (x5 + 1) p10 Z8)))) else (bnd (x3 + x4) fun p11 => (bnd (u2 Z c2 31 (p11 + (Z c2 3))) fun Z12 => (bnd (mxI (0 : Int32) (Z12 c2 3 + Z12 c2 33 + Z12 c2 4)) fun p13 => (bnd (wl w 199 c2) fun p14 => (k_stackRows_14 w x2 fu p11 p13 ((0 : Int32) + 1) p14 Z12)))))))
theorem zk_stackRows_14 {X : Ctx} {w : WZ} {h : Hp} (C : Cx X yX3_stackRows cX3_stackRows 8 (Option.some Jvm.ClassFile.FieldType.int) [] 2 0 0) (hZ : ZW w h) {x2 : Int32} {r : Int32 × MM} (E0 : Ex X 0 0 (.inl (some (.int r.1), cm w h r.2))) : ∀ (fu : Nat) (x3 : Int32) (x4 : Int32) (x5 : Int32) (x6 : Option Nat) (Z : MM) (u0 u1 u7 : Value) , k_stackRows_14 w x2 fu x3 x4 x5 x6 Z = some r → (∀ c, x6 = some c → c < wn w) → wr X 0 0 14 [u0, u1, .int x2, .int x3, .int x4, .int x5, va_rf (x6.map (wE w)), u7] [] (cm w h Z) := by
  intro fu
  induction fu with
  | zero =>
    intro x3 x4 x5 x6 Z u0 u1 u7 E b6 
    rw [k_stackRows_14] at E
    cases E
  | succ fu ih =>
    intro x3 x4 x5 x6 Z u0 u1 u7 E b6 
    rw [k_stackRows_14] at E
    refine r_aload (i := 6) C dX3_stackRows_14 rfl (by first | rfl | exact isR_rf _) ?_
    rcases x6 with _ | c2
    · have E := oe_n E
      refine r_ifnull (o := none) (tgt := 89) C dX3_stackRows_16 (by decide) (fun _ => ?_) (fun _ q => nomatch q)
      refine r_iload_n (i := 3) C dX3_stackRows_89 rfl rfl ?_
      refine r_iload (i := 4) C dX3_stackRows_90 rfl ?_
      refine r_iadd C dX3_stackRows_92 ?_
      obtain rfl := Option.some.inj E
      exact r_iret C E0 dX3_stackRows_93 rfl rfl (Nat.le_refl _) (Nat.le_refl _)
    · have E := oe_s E
      have lc2 : c2 < wn w := b6 _ rfl
      refine r_ifnull (o := some (wE w c2)) (tgt := 89) C dX3_stackRows_16 (by decide) (fun q => nomatch q) (fun _ _ => ?_)
      refine r_aload (i := 6) C dX3_stackRows_19 rfl (by first | rfl | exact isR_rf _) ?_
      refine rz_fresh C f_X3_36 dX3_stackRows_21 rfl rfl hZ lc2 ?_
      refine r_astore (i := 7) C dX3_stackRows_24 (Nat.le_of_ble_eq_true rfl) (by first | rfl | exact isR_rf _) ?_
      refine r_aload (i := 7) C dX3_stackRows_26 rfl (by first | rfl | exact isR_rf _) ?_
      refine rz_lI C 29 f_X3_19 dX3_stackRows_28 rfl rfl (by decide) (by decide) hZ lc2 ?_
      refine r_if_eq (tgt := 79) C dX3_stackRows_31 (by decide) (fun c_31 => ?_) (fun c_31 => ?_)
      · have E := ite_t E c_31
        refine r_aload (i := 6) C dX3_stackRows_79 rfl (by first | rfl | exact isR_rf _) ?_
        refine rz_link C 199 f_X3_46 dX3_stackRows_81 rfl rfl (by decide) (by decide) hZ lc2 ?_
        refine bnd_elim (P := fun (z : Option Nat) => (∀ c, z = some c → c < wn w) → wr X 0 0 84 [u0, u1, .int x2, .int x3, .int x4, .int x5, .ref (wE w c2), .ref (wf w c2)] [va_rf (z.map (wE w))] (cm w h Z)) E (fun p6 E bp6 => ?_) (zl_lt hZ lc2 (by decide) (by decide))
        refine r_astore (i := 6) C dX3_stackRows_84 (Nat.le_of_ble_eq_true rfl) (by first | rfl | exact isR_rf _) ?_
        refine r_goto (tgt := 14) C dX3_stackRows_86 (by decide) ?_
        exact ih _ _ _ _ _ _ _ _ E bp6
      · have E := ite_f E c_31
        refine r_iload (i := 5) C dX3_stackRows_34 rfl ?_
        refine r_iload_n (i := 2) C dX3_stackRows_36 rfl rfl ?_
        refine r_ic_lt (tgt := 51) C dX3_stackRows_37 (by decide) (fun c_37 => ?_) (fun c_37 => ?_)
        · have E := ite_t E c_37
          refine r_aload (i := 7) C dX3_stackRows_51 rfl (by first | rfl | exact isR_rf _) ?_
          refine r_iload_n (i := 3) C dX3_stackRows_53 rfl rfl ?_
          refine r_aload (i := 7) C dX3_stackRows_54 rfl (by first | rfl | exact isR_rf _) ?_
          refine r_iconst (v := 3) C dX3_stackRows_56 (by decide) ?_
          refine r_callVs C v_X3_9 (z_lkV _ _ 3 hZ lc2 (by decide) rfl) dX3_stackRows_57 (hZ.1 _ lc2).2.2.1 (ci := 4) (by decide) rfl rfl (As := [_]) rfl rfl rfl (by first | exact Nat.le_refl _ | exact Nat.le_of_ble_eq_true rfl | omega) (Nat.le_of_ble_eq_true rfl) (by first | exact Nat.le_refl _ | exact Nat.le_of_ble_eq_true rfl | omega) (by first | exact Nat.le_refl _ | exact Nat.le_of_ble_eq_true rfl | omega) ?_
          refine r_iadd C dX3_stackRows_60 ?_
          refine rz_lput C 31 f_X3_117 dX3_stackRows_61 rfl rfl rfl rfl (by decide) (by decide) hZ lc2 ?_
          refine bnd_elim (P := fun (Z : MM) => wr X 0 0 64 [u0, u1, .int x2, .int x3, .int x4, .int x5, .ref (wE w c2), .ref (wf w c2)] [] (cm w h Z)) E (fun Z8 E => ?_)
          refine r_iload (i := 4) C dX3_stackRows_64 rfl ?_
          refine r_aload (i := 7) C dX3_stackRows_66 rfl (by first | rfl | exact isR_rf _) ?_
          refine r_callVs C v_X3_120 (z_lkHWM _ _ hZ lc2) dX3_stackRows_68 (hZ.1 _ lc2).2.2.1 (ci := 4) (by decide) rfl rfl (As := []) rfl rfl rfl (by first | exact Nat.le_refl _ | exact Nat.le_of_ble_eq_true rfl | omega) (Nat.le_of_ble_eq_true rfl) (by first | exact Nat.le_refl _ | exact Nat.le_of_ble_eq_true rfl | omega) (by first | exact Nat.le_refl _ | exact Nat.le_of_ble_eq_true rfl | omega) ?_
          refine r_mmax C dX3_stackRows_71 (by first | exact Nat.le_refl _ | exact Nat.le_of_ble_eq_true rfl | omega) rfl (Nat.le_of_ble_eq_true rfl) l_X3_114 w_maxS w_mathI w_maxC (by first | exact Nat.le_refl _ | exact Nat.le_of_ble_eq_true rfl | omega) (by first | exact Nat.le_refl _ | exact Nat.le_of_ble_eq_true rfl | omega) ?_
          refine bnd_elim (P := fun (z : Int32) => wr X 0 0 74 [u0, u1, .int x2, .int x3, .int x4, .int x5, .ref (wE w c2), .ref (wf w c2)] [.int z] (cm w h Z8)) E (fun p9 E => ?_)
          refine r_istore (i := 4) C dX3_stackRows_74 (Nat.le_of_ble_eq_true rfl) ?_
          refine r_iinc1 (i := 5) C dX3_stackRows_76 rfl ?_
          refine r_aload (i := 6) C dX3_stackRows_79 rfl (by first | rfl | exact isR_rf _) ?_
          refine rz_link C 199 f_X3_46 dX3_stackRows_81 rfl rfl (by decide) (by decide) hZ lc2 ?_
          refine bnd_elim (P := fun (z : Option Nat) => (∀ c, z = some c → c < wn w) → wr X 0 0 84 [u0, u1, .int x2, .int x3, .int p9, .int (x5 + 1), .ref (wE w c2), .ref (wf w c2)] [va_rf (z.map (wE w))] (cm w h Z8)) E (fun p10 E bp10 => ?_) (zl_lt hZ lc2 (by decide) (by decide))
          refine r_astore (i := 6) C dX3_stackRows_84 (Nat.le_of_ble_eq_true rfl) (by first | rfl | exact isR_rf _) ?_
          refine r_goto (tgt := 14) C dX3_stackRows_86 (by decide) ?_
          exact ih _ _ _ _ _ _ _ _ E bp10
        · have E := ite_f E c_37
          refine r_iload_n (i := 3) C dX3_stackRows_40 rfl rfl ?_
          refine r_iload (i := 4) C dX3_stackRows_41 rfl ?_
          refine r_iadd C dX3_stackRows_43 ?_
          refine bnd_elim (P := fun (z : Int32) => wr X 0 0 44 [u0, u1, .int x2, .int x3, .int x4, .int x5, .ref (wE w c2), .ref (wf w c2)] [.int z] (cm w h Z)) E (fun p11 E => ?_)
          refine r_istore_n (i := 3) C dX3_stackRows_44 rfl (Nat.le_of_ble_eq_true rfl) ?_
          refine r_iconst (v := 0) C dX3_stackRows_45 (by decide) ?_
          refine r_istore (i := 4) C dX3_stackRows_46 (Nat.le_of_ble_eq_true rfl) ?_
          refine r_iconst (v := 0) C dX3_stackRows_48 (by decide) ?_
          refine r_istore (i := 5) C dX3_stackRows_49 (Nat.le_of_ble_eq_true rfl) ?_
          refine r_aload (i := 7) C dX3_stackRows_51 rfl (by first | rfl | exact isR_rf _) ?_
          refine r_iload_n (i := 3) C dX3_stackRows_53 rfl rfl ?_
          refine r_aload (i := 7) C dX3_stackRows_54 rfl (by first | rfl | exact isR_rf _) ?_
          refine r_iconst (v := 3) C dX3_stackRows_56 (by decide) ?_
          refine r_callVs C v_X3_9 (z_lkV _ _ 3 hZ lc2 (by decide) rfl) dX3_stackRows_57 (hZ.1 _ lc2).2.2.1 (ci := 4) (by decide) rfl rfl (As := [_]) rfl rfl rfl (by first | exact Nat.le_refl _ | exact Nat.le_of_ble_eq_true rfl | omega) (Nat.le_of_ble_eq_true rfl) (by first | exact Nat.le_refl _ | exact Nat.le_of_ble_eq_true rfl | omega) (by first | exact Nat.le_refl _ | exact Nat.le_of_ble_eq_true rfl | omega) ?_
          refine r_iadd C dX3_stackRows_60 ?_
          refine rz_lput C 31 f_X3_117 dX3_stackRows_61 rfl rfl rfl rfl (by decide) (by decide) hZ lc2 ?_
          refine bnd_elim (P := fun (Z : MM) => wr X 0 0 64 [u0, u1, .int x2, .int p11, .int (0 : Int32), .int (0 : Int32), .ref (wE w c2), .ref (wf w c2)] [] (cm w h Z)) E (fun Z12 E => ?_)
          refine r_iload (i := 4) C dX3_stackRows_64 rfl ?_
          refine r_aload (i := 7) C dX3_stackRows_66 rfl (by first | rfl | exact isR_rf _) ?_
          refine r_callVs C v_X3_120 (z_lkHWM _ _ hZ lc2) dX3_stackRows_68 (hZ.1 _ lc2).2.2.1 (ci := 4) (by decide) rfl rfl (As := []) rfl rfl rfl (by first | exact Nat.le_refl _ | exact Nat.le_of_ble_eq_true rfl | omega) (Nat.le_of_ble_eq_true rfl) (by first | exact Nat.le_refl _ | exact Nat.le_of_ble_eq_true rfl | omega) (by first | exact Nat.le_refl _ | exact Nat.le_of_ble_eq_true rfl | omega) ?_
          refine r_mmax C dX3_stackRows_71 (by first | exact Nat.le_refl _ | exact Nat.le_of_ble_eq_true rfl | omega) rfl (Nat.le_of_ble_eq_true rfl) l_X3_114 w_maxS w_mathI w_maxC (by first | exact Nat.le_refl _ | exact Nat.le_of_ble_eq_true rfl | omega) (by first | exact Nat.le_refl _ | exact Nat.le_of_ble_eq_true rfl | omega) ?_
          refine bnd_elim (P := fun (z : Int32) => wr X 0 0 74 [u0, u1, .int x2, .int p11, .int (0 : Int32), .int (0 : Int32), .ref (wE w c2), .ref (wf w c2)] [.int z] (cm w h Z12)) E (fun p13 E => ?_)
          refine r_istore (i := 4) C dX3_stackRows_74 (Nat.le_of_ble_eq_true rfl) ?_
          refine r_iinc1 (i := 5) C dX3_stackRows_76 rfl ?_
          refine r_aload (i := 6) C dX3_stackRows_79 rfl (by first | rfl | exact isR_rf _) ?_
          refine rz_link C 199 f_X3_46 dX3_stackRows_81 rfl rfl (by decide) (by decide) hZ lc2 ?_
          refine bnd_elim (P := fun (z : Option Nat) => (∀ c, z = some c → c < wn w) → wr X 0 0 84 [u0, u1, .int x2, .int p11, .int p13, .int ((0 : Int32) + 1), .ref (wE w c2), .ref (wf w c2)] [va_rf (z.map (wE w))] (cm w h Z12)) E (fun p14 E bp14 => ?_) (zl_lt hZ lc2 (by decide) (by decide))
          refine r_astore (i := 6) C dX3_stackRows_84 (Nat.le_of_ble_eq_true rfl) (by first | rfl | exact isR_rf _) ?_
          refine r_goto (tgt := 14) C dX3_stackRows_86 (by decide) ?_
          exact ih _ _ _ _ _ _ _ _ E bp14
def k_stackRows (w : WZ) (Z : MM) (a0 : Nat) (a1 : Int32) (a2 : Int32) : Option (Int32 × MM) := bnd (wl w 200 a0) fun p1 => (k_stackRows_14 w a2 1000 a1 (0 : Int32) (0 : Int32) p1 Z)
theorem zk_stackRows (l : Launch) (G : Gl) {w : WZ} {h : Hp} (hZ : ZW w h) {Z : MM} {a0 : Nat} {a1 : Int32} {a2 : Int32} (h0 : a0 < wn w) {r : Int32 × MM} (E : k_stackRows w Z a0 a1 a2 = some r) : MRw l G yX3_stackRows (.code yX3_stackRows cX3_stackRows 8 (Option.some Jvm.ClassFile.FieldType.int)) 2 0 0 [.ref (wE w a0), .int a1, .int a2] (cm w h Z) (.inl (some (.int r.1), cm w h r.2)) := by
  refine mr_of (by decide +kernel) (Nat.le_of_ble_eq_true rfl) (ct3 rfl rfl rfl) (fun X hG hl C E0 => ?_)
  subst hG hl
  rw [k_stackRows] at E
  refine r_iload_n (i := 1) C dX3_stackRows_0 rfl rfl ?_
  refine r_istore_n (i := 3) C dX3_stackRows_1 rfl (Nat.le_of_ble_eq_true rfl) ?_
  refine r_iconst (v := 0) C dX3_stackRows_2 (by decide) ?_
  refine r_istore (i := 4) C dX3_stackRows_3 (Nat.le_of_ble_eq_true rfl) ?_
  refine r_iconst (v := 0) C dX3_stackRows_5 (by decide) ?_
  refine r_istore (i := 5) C dX3_stackRows_6 (Nat.le_of_ble_eq_true rfl) ?_
  refine r_aload_n (i := 0) C dX3_stackRows_8 rfl rfl (by first | rfl | exact isR_rf _) ?_
  refine rz_link C 200 f_X3_42 dX3_stackRows_9 rfl rfl (by decide) (by decide) hZ h0 ?_
  refine bnd_elim (P := fun (z : Option Nat) => (∀ c, z = some c → c < wn w) → wr X 0 0 12 [.ref (wE w a0), .int a1, .int a2, .int a1, .int (0 : Int32), .int (0 : Int32), (.long 0), (.long 0)] [va_rf (z.map (wE w))] (cm w h Z)) E (fun p1 E bp1 => ?_) (zl_lt hZ h0 (by decide) (by decide))
  refine r_astore (i := 6) C dX3_stackRows_12 (Nat.le_of_ble_eq_true rfl) (by first | rfl | exact isR_rf _) ?_
  refine zk_stackRows_14 C hZ E0 _ _ _ _ _ _ _ _ _ E bp1

def k_findHeight (w : WZ) (Z : MM) (a0 : Nat) : Option (MM) := if (Z a0 29) = (0 : Int32) then (some Z) else (bnd (Z a0 9) fun p1 => (if nI (tn (wi w 195 a0)) = wi w 195 a0 then bnd (u2 Z a0 34 (zLines (wi w 195 a0) p1 (Z a0 32))) fun Z4 => (bnd ((Z4 a0 34) * p1) fun p5 => (bnd (Z4 a0 5) fun p6 => (if p6 = 1 then (bd2 (k_stackRows w Z4 a0 p5 (24 : Int32)) fun p7 Z8 => (bnd (Z8 a0 1) fun p9 => (bnd (if p9 = ((-2) : Int32) then p7 else p9) fun p12 => bnd (u2 Z8 a0 33 p12) fun Z13 => (some Z13)))) else if p6 = 2 then (bd2 (k_stackRows w Z4 a0 p5 (Z4 a0 7)) fun p15 Z16 => (bnd (Z16 a0 1) fun p17 => (bnd (if p17 = ((-2) : Int32) then p15 else p17) fun p20 => bnd (u2 Z16 a0 33 p20) fun Z21 => (some Z21)))) else (bd2 (k_stackBlocks w Z4 a0 p5) fun p23 Z24 => (bnd (Z24 a0 1) fun p25 => (bnd (if p25 = ((-2) : Int32) then p23 else p25) fun p28 => bnd (u2 Z24 a0 33 p28) fun Z29 => (some Z29))))))) else none))
theorem zk_findHeight (l : Launch) (G : Gl) {w : WZ} {h : Hp} (hZ : ZW w h) {Z : MM} {a0 : Nat} (h0 : a0 < wn w) {r : MM} (E : k_findHeight w Z a0 = some r) : MRw l G yX3_findHeight (.code yX3_findHeight cX3_findHeight 6 none) 3 0 0 [.ref (wE w a0)] (cm w h Z) (.inl (none, cm w h r)) := by
  refine mr_of (by decide +kernel) (Nat.le_of_ble_eq_true rfl) (ct1 rfl) (fun X hG hl C E0 => ?_)
  subst hG hl
  rw [k_findHeight] at E
  refine r_aload_n (i := 0) C dX3_findHeight_0 rfl rfl (by first | rfl | exact isR_rf _) ?_
  refine rz_fresh C f_X3_36 dX3_findHeight_1 rfl rfl hZ h0 ?_
  refine r_astore_n (i := 1) C dX3_findHeight_4 rfl (Nat.le_of_ble_eq_true rfl) (by first | rfl | exact isR_rf _) ?_
  refine r_aload_n (i := 1) C dX3_findHeight_5 rfl rfl (by first | rfl | exact isR_rf _) ?_
  refine rz_lI C 29 f_X3_19 dX3_findHeight_6 rfl rfl (by decide) (by decide) hZ h0 ?_
  refine r_if_ne (tgt := 13) C dX3_findHeight_9 (by decide) (fun c_9 => ?_) (fun c_9 => ?_)
  · have E := ite_f E c_9
    refine r_aload_n (i := 1) C dX3_findHeight_13 rfl rfl (by first | rfl | exact isR_rf _) ?_
    refine r_bipush (v := 9) C dX3_findHeight_14 (by decide) ?_
    refine r_callVs C v_X3_9 (z_lkV _ _ 9 hZ h0 (by decide) rfl) dX3_findHeight_16 (hZ.1 _ h0).2.2.1 (ci := 4) (by decide) rfl rfl (As := [_]) rfl rfl rfl (by first | exact Nat.le_refl _ | exact Nat.le_of_ble_eq_true rfl | omega) (Nat.le_of_ble_eq_true rfl) (by first | exact Nat.le_refl _ | exact Nat.le_of_ble_eq_true rfl | omega) (by first | exact Nat.le_refl _ | exact Nat.le_of_ble_eq_true rfl | omega) ?_
    refine bnd_elim (P := fun (z : Int32) => wr X 0 0 19 [.ref (wE w a0), .ref (wf w a0), (.long 0), (.long 0), (.long 0), (.long 0)] [.int z] (cm w h Z)) E (fun p1 E => ?_)
    refine r_istore_n (i := 2) C dX3_findHeight_19 rfl (Nat.le_of_ble_eq_true rfl) ?_
    refine r_aload_n (i := 1) C dX3_findHeight_20 rfl rfl (by first | rfl | exact isR_rf _) ?_
    refine r_aload_n (i := 0) C dX3_findHeight_21 rfl rfl (by first | rfl | exact isR_rf _) ?_
    refine rz_eI C 195 f_X3_71 dX3_findHeight_22 rfl rfl (by decide) (by decide) hZ h0 ?_
    refine r_iload_n (i := 2) C dX3_findHeight_25 rfl rfl ?_
    refine r_aload_n (i := 1) C dX3_findHeight_26 rfl rfl (by first | rfl | exact isR_rf _) ?_
    refine rz_lI C 32 f_X3_29 dX3_findHeight_27 rfl rfl (by decide) (by decide) hZ h0 ?_
    obtain ⟨g3, E⟩ := gd_elim E
    refine r_callSs C s_X3_96 (z_tLines _ _ g3) dX3_findHeight_30 (As := [_, _, _]) rfl rfl rfl (by first | exact Nat.le_refl _ | exact Nat.le_of_ble_eq_true rfl | omega) (Nat.le_of_ble_eq_true rfl) (by first | exact Nat.le_refl _ | exact Nat.le_of_ble_eq_true rfl | omega) (by first | exact Nat.le_refl _ | exact Nat.le_of_ble_eq_true rfl | omega) ?_
    refine rz_lput C 34 f_X3_100 dX3_findHeight_33 rfl rfl rfl rfl (by decide) (by decide) hZ h0 ?_
    refine bnd_elim (P := fun (Z : MM) => wr X 0 0 36 [.ref (wE w a0), .ref (wf w a0), .int p1, (.long 0), (.long 0), (.long 0)] [] (cm w h Z)) E (fun Z4 E => ?_)
    refine r_aload_n (i := 1) C dX3_findHeight_36 rfl rfl (by first | rfl | exact isR_rf _) ?_
    refine rz_lI C 34 f_X3_100 dX3_findHeight_37 rfl rfl (by decide) (by decide) hZ h0 ?_
    refine r_iload_n (i := 2) C dX3_findHeight_40 rfl rfl ?_
    refine r_imul C dX3_findHeight_41 ?_
    refine bnd_elim (P := fun (z : Int32) => wr X 0 0 42 [.ref (wE w a0), .ref (wf w a0), .int p1, (.long 0), (.long 0), (.long 0)] [.int z] (cm w h Z4)) E (fun p5 E => ?_)
    refine r_istore_n (i := 3) C dX3_findHeight_42 rfl (Nat.le_of_ble_eq_true rfl) ?_
    refine r_aload_n (i := 1) C dX3_findHeight_43 rfl rfl (by first | rfl | exact isR_rf _) ?_
    refine r_iconst (v := 5) C dX3_findHeight_44 (by decide) ?_
    refine r_callVs C v_X3_9 (z_lkV _ _ 5 hZ h0 (by decide) rfl) dX3_findHeight_45 (hZ.1 _ h0).2.2.1 (ci := 4) (by decide) rfl rfl (As := [_]) rfl rfl rfl (by first | exact Nat.le_refl _ | exact Nat.le_of_ble_eq_true rfl | omega) (Nat.le_of_ble_eq_true rfl) (by first | exact Nat.le_refl _ | exact Nat.le_of_ble_eq_true rfl | omega) (by first | exact Nat.le_refl _ | exact Nat.le_of_ble_eq_true rfl | omega) ?_
    refine bnd_elim (P := fun (z : Int32) => wr X 0 0 48 [.ref (wE w a0), .ref (wf w a0), .int p1, .int p5, (.long 0), (.long 0)] [.int z] (cm w h Z4)) E (fun p6 E => ?_)
    by_cases s14 : p6 = 1
    · have E := ite_t E s14
      refine r_lsw (off := 28) (tgt := 76) C dX3_findHeight_48 (by decide) (by rw [s14]; decide) (by decide) ?_
      refine r_aload_n (i := 0) C dX3_findHeight_76 rfl rfl (by first | rfl | exact isR_rf _) ?_
      refine r_iload_n (i := 3) C dX3_findHeight_77 rfl rfl ?_
      refine r_bipush (v := 24) C dX3_findHeight_78 (by decide) ?_
      obtain ⟨p7, Z8, q, E⟩ := bd2_elim E
      refine r_callSs C s_X3_103 (zk_stackRows _ _ hZ h0 q) dX3_findHeight_80 (As := [_, _, _]) rfl rfl rfl (by first | exact Nat.le_refl _ | exact Nat.le_of_ble_eq_true rfl | omega) (Nat.le_of_ble_eq_true rfl) (by first | exact Nat.le_refl _ | exact Nat.le_of_ble_eq_true rfl | omega) (by first | exact Nat.le_refl _ | exact Nat.le_of_ble_eq_true rfl | omega) ?_
      refine r_istore (i := 4) C dX3_findHeight_83 (Nat.le_of_ble_eq_true rfl) ?_
      refine r_goto (tgt := 111) C dX3_findHeight_85 (by decide) ?_
      refine r_aload_n (i := 1) C dX3_findHeight_111 rfl rfl (by first | rfl | exact isR_rf _) ?_
      refine r_iconst (v := 1) C dX3_findHeight_112 (by decide) ?_
      refine r_callVs C v_X3_9 (z_lkV _ _ 1 hZ h0 (by decide) rfl) dX3_findHeight_113 (hZ.1 _ h0).2.2.1 (ci := 4) (by decide) rfl rfl (As := [_]) rfl rfl rfl (by first | exact Nat.le_refl _ | exact Nat.le_of_ble_eq_true rfl | omega) (Nat.le_of_ble_eq_true rfl) (by first | exact Nat.le_refl _ | exact Nat.le_of_ble_eq_true rfl | omega) (by first | exact Nat.le_refl _ | exact Nat.le_of_ble_eq_true rfl | omega) ?_
      refine bnd_elim (P := fun (z : Int32) => wr X 0 0 116 [.ref (wE w a0), .ref (wf w a0), .int p1, .int p5, .int p7, (.long 0)] [.int z] (cm w h Z8)) E (fun p9 E => ?_)
      refine r_istore (i := 5) C dX3_findHeight_116 (Nat.le_of_ble_eq_true rfl) ?_
      refine r_aload_n (i := 1) C dX3_findHeight_118 rfl rfl (by first | rfl | exact isR_rf _) ?_
      refine r_iload (i := 5) C dX3_findHeight_119 rfl ?_
      refine r_bipush (v := (-2)) C dX3_findHeight_121 (by decide) ?_
      have J11 : ∀ (u : Unit), wr X 0 0 133 [.ref (wE w a0), .ref (wf w a0), .int p1, .int p5, .int p7, .int p9] [.int (if p9 = ((-2) : Int32) then p7 else p9), .ref (wf w a0)] (cm w h Z8) := by
        intro u
        refine bnd_elim (P := fun (z : Int32) => wr X 0 0 133 [.ref (wE w a0), .ref (wf w a0), .int p1, .int p5, .int p7, .int p9] [.int z, .ref (wf w a0)] (cm w h Z8)) E (fun p12 E => ?_)
        refine rz_lput C 33 f_X3_111 dX3_findHeight_133 rfl rfl rfl rfl (by decide) (by decide) hZ h0 ?_
        refine bnd_elim (P := fun (Z : MM) => wr X 0 0 136 [.ref (wE w a0), .ref (wf w a0), .int p1, .int p5, .int p7, .int p9] [] (cm w h Z)) E (fun Z13 E => ?_)
        obtain rfl := Option.some.inj E
        exact r_vret C E0 dX3_findHeight_136 rfl (Nat.le_refl _) (Nat.le_refl _)
      refine r_ic_ne (tgt := 131) C dX3_findHeight_123 (by decide) (fun c_123_k10 => ?_) (fun c_123_k10 => ?_)
      · refine r_iload (i := 5) C dX3_findHeight_131 rfl ?_
        first | exact (J11  ()) | (simp only [if_neg c_123_k10] at J11; exact (J11  ()))
      · refine r_iload (i := 4) C dX3_findHeight_126 rfl ?_
        refine r_goto (tgt := 133) C dX3_findHeight_128 (by decide) ?_
        first | exact (J11  ()) | (simp only [if_pos c_123_k10] at J11; exact (J11  ()))
    have E := ite_f E s14
    by_cases s22 : p6 = 2
    · have E := ite_t E s22
      refine r_lsw (off := 40) (tgt := 88) C dX3_findHeight_48 (by decide) (by rw [s22]; decide) (by decide) ?_
      refine r_aload_n (i := 0) C dX3_findHeight_88 rfl rfl (by first | rfl | exact isR_rf _) ?_
      refine r_iload_n (i := 3) C dX3_findHeight_89 rfl rfl ?_
      refine r_aload_n (i := 1) C dX3_findHeight_90 rfl rfl (by first | rfl | exact isR_rf _) ?_
      refine r_bipush (v := 7) C dX3_findHeight_91 (by decide) ?_
      refine r_callVs C v_X3_9 (z_lkV _ _ 7 hZ h0 (by decide) rfl) dX3_findHeight_93 (hZ.1 _ h0).2.2.1 (ci := 4) (by decide) rfl rfl (As := [_]) rfl rfl rfl (by first | exact Nat.le_refl _ | exact Nat.le_of_ble_eq_true rfl | omega) (Nat.le_of_ble_eq_true rfl) (by first | exact Nat.le_refl _ | exact Nat.le_of_ble_eq_true rfl | omega) (by first | exact Nat.le_refl _ | exact Nat.le_of_ble_eq_true rfl | omega) ?_
      obtain ⟨p15, Z16, q, E⟩ := bd2_elim E
      refine r_callSs C s_X3_103 (zk_stackRows _ _ hZ h0 q) dX3_findHeight_96 (As := [_, _, _]) rfl rfl rfl (by first | exact Nat.le_refl _ | exact Nat.le_of_ble_eq_true rfl | omega) (Nat.le_of_ble_eq_true rfl) (by first | exact Nat.le_refl _ | exact Nat.le_of_ble_eq_true rfl | omega) (by first | exact Nat.le_refl _ | exact Nat.le_of_ble_eq_true rfl | omega) ?_
      refine r_istore (i := 4) C dX3_findHeight_99 (Nat.le_of_ble_eq_true rfl) ?_
      refine r_goto (tgt := 111) C dX3_findHeight_101 (by decide) ?_
      refine r_aload_n (i := 1) C dX3_findHeight_111 rfl rfl (by first | rfl | exact isR_rf _) ?_
      refine r_iconst (v := 1) C dX3_findHeight_112 (by decide) ?_
      refine r_callVs C v_X3_9 (z_lkV _ _ 1 hZ h0 (by decide) rfl) dX3_findHeight_113 (hZ.1 _ h0).2.2.1 (ci := 4) (by decide) rfl rfl (As := [_]) rfl rfl rfl (by first | exact Nat.le_refl _ | exact Nat.le_of_ble_eq_true rfl | omega) (Nat.le_of_ble_eq_true rfl) (by first | exact Nat.le_refl _ | exact Nat.le_of_ble_eq_true rfl | omega) (by first | exact Nat.le_refl _ | exact Nat.le_of_ble_eq_true rfl | omega) ?_
      refine bnd_elim (P := fun (z : Int32) => wr X 0 0 116 [.ref (wE w a0), .ref (wf w a0), .int p1, .int p5, .int p15, (.long 0)] [.int z] (cm w h Z16)) E (fun p17 E => ?_)
      refine r_istore (i := 5) C dX3_findHeight_116 (Nat.le_of_ble_eq_true rfl) ?_
      refine r_aload_n (i := 1) C dX3_findHeight_118 rfl rfl (by first | rfl | exact isR_rf _) ?_
      refine r_iload (i := 5) C dX3_findHeight_119 rfl ?_
      refine r_bipush (v := (-2)) C dX3_findHeight_121 (by decide) ?_
      have J19 : ∀ (u : Unit), wr X 0 0 133 [.ref (wE w a0), .ref (wf w a0), .int p1, .int p5, .int p15, .int p17] [.int (if p17 = ((-2) : Int32) then p15 else p17), .ref (wf w a0)] (cm w h Z16) := by
        intro u
        refine bnd_elim (P := fun (z : Int32) => wr X 0 0 133 [.ref (wE w a0), .ref (wf w a0), .int p1, .int p5, .int p15, .int p17] [.int z, .ref (wf w a0)] (cm w h Z16)) E (fun p20 E => ?_)
        refine rz_lput C 33 f_X3_111 dX3_findHeight_133 rfl rfl rfl rfl (by decide) (by decide) hZ h0 ?_
        refine bnd_elim (P := fun (Z : MM) => wr X 0 0 136 [.ref (wE w a0), .ref (wf w a0), .int p1, .int p5, .int p15, .int p17] [] (cm w h Z)) E (fun Z21 E => ?_)
        obtain rfl := Option.some.inj E
        exact r_vret C E0 dX3_findHeight_136 rfl (Nat.le_refl _) (Nat.le_refl _)
      refine r_ic_ne (tgt := 131) C dX3_findHeight_123 (by decide) (fun c_123_k18 => ?_) (fun c_123_k18 => ?_)
      · refine r_iload (i := 5) C dX3_findHeight_131 rfl ?_
        first | exact (J19  ()) | (simp only [if_neg c_123_k18] at J19; exact (J19  ()))
      · refine r_iload (i := 4) C dX3_findHeight_126 rfl ?_
        refine r_goto (tgt := 133) C dX3_findHeight_128 (by decide) ?_
        first | exact (J19  ()) | (simp only [if_pos c_123_k18] at J19; exact (J19  ()))
    have E := ite_f E s22
    refine r_lsw (off := 56) (tgt := 104) C dX3_findHeight_48 (by decide) (zsw2 s14 s22) (by decide) ?_
    refine r_aload_n (i := 0) C dX3_findHeight_104 rfl rfl (by first | rfl | exact isR_rf _) ?_
    refine r_iload_n (i := 3) C dX3_findHeight_105 rfl rfl ?_
    obtain ⟨p23, Z24, q, E⟩ := bd2_elim E
    refine r_callSs C s_X3_107 (zk_stackBlocks _ _ hZ h0 q) dX3_findHeight_106 (As := [_, _]) rfl rfl rfl (by first | exact Nat.le_refl _ | exact Nat.le_of_ble_eq_true rfl | omega) (Nat.le_of_ble_eq_true rfl) (by first | exact Nat.le_refl _ | exact Nat.le_of_ble_eq_true rfl | omega) (by first | exact Nat.le_refl _ | exact Nat.le_of_ble_eq_true rfl | omega) ?_
    refine r_istore (i := 4) C dX3_findHeight_109 (Nat.le_of_ble_eq_true rfl) ?_
    refine r_aload_n (i := 1) C dX3_findHeight_111 rfl rfl (by first | rfl | exact isR_rf _) ?_
    refine r_iconst (v := 1) C dX3_findHeight_112 (by decide) ?_
    refine r_callVs C v_X3_9 (z_lkV _ _ 1 hZ h0 (by decide) rfl) dX3_findHeight_113 (hZ.1 _ h0).2.2.1 (ci := 4) (by decide) rfl rfl (As := [_]) rfl rfl rfl (by first | exact Nat.le_refl _ | exact Nat.le_of_ble_eq_true rfl | omega) (Nat.le_of_ble_eq_true rfl) (by first | exact Nat.le_refl _ | exact Nat.le_of_ble_eq_true rfl | omega) (by first | exact Nat.le_refl _ | exact Nat.le_of_ble_eq_true rfl | omega) ?_
    refine bnd_elim (P := fun (z : Int32) => wr X 0 0 116 [.ref (wE w a0), .ref (wf w a0), .int p1, .int p5, .int p23, (.long 0)] [.int z] (cm w h Z24)) E (fun p25 E => ?_)
    refine r_istore (i := 5) C dX3_findHeight_116 (Nat.le_of_ble_eq_true rfl) ?_
    refine r_aload_n (i := 1) C dX3_findHeight_118 rfl rfl (by first | rfl | exact isR_rf _) ?_
    refine r_iload (i := 5) C dX3_findHeight_119 rfl ?_
    refine r_bipush (v := (-2)) C dX3_findHeight_121 (by decide) ?_
    have J27 : ∀ (u : Unit), wr X 0 0 133 [.ref (wE w a0), .ref (wf w a0), .int p1, .int p5, .int p23, .int p25] [.int (if p25 = ((-2) : Int32) then p23 else p25), .ref (wf w a0)] (cm w h Z24) := by
      intro u
      refine bnd_elim (P := fun (z : Int32) => wr X 0 0 133 [.ref (wE w a0), .ref (wf w a0), .int p1, .int p5, .int p23, .int p25] [.int z, .ref (wf w a0)] (cm w h Z24)) E (fun p28 E => ?_)
      refine rz_lput C 33 f_X3_111 dX3_findHeight_133 rfl rfl rfl rfl (by decide) (by decide) hZ h0 ?_
      refine bnd_elim (P := fun (Z : MM) => wr X 0 0 136 [.ref (wE w a0), .ref (wf w a0), .int p1, .int p5, .int p23, .int p25] [] (cm w h Z)) E (fun Z29 E => ?_)
      obtain rfl := Option.some.inj E
      exact r_vret C E0 dX3_findHeight_136 rfl (Nat.le_refl _) (Nat.le_refl _)
    refine r_ic_ne (tgt := 131) C dX3_findHeight_123 (by decide) (fun c_123_k26 => ?_) (fun c_123_k26 => ?_)
    · refine r_iload (i := 5) C dX3_findHeight_131 rfl ?_
      first | exact (J27  ()) | (simp only [if_neg c_123_k26] at J27; exact (J27  ()))
    · refine r_iload (i := 4) C dX3_findHeight_126 rfl ?_
      refine r_goto (tgt := 133) C dX3_findHeight_128 (by decide) ?_
      first | exact (J27  ()) | (simp only [if_pos c_123_k26] at J27; exact (J27  ()))
  · have E := ite_t E c_9
    obtain rfl := Option.some.inj E
    exact r_vret C E0 dX3_findHeight_12 rfl (Nat.le_refl _) (Nat.le_refl _)

def k_placeChildren_5 (w : WZ) (x0 : Nat) : Nat → Option Nat → MM → Option (MM)
  | 0, _, _ => none
  | fu + 1, x1, Z => oe x1 (some Z) (fun c2 => if (Z c2 29) = (0 : Int32) then (bnd (wl w 199 c2) fun p4 => (k_placeChildren_5 w x0 fu p4 Z)) else (bnd (u2 Z c2 31 ((Z c2 31) + (Z x0 31))) fun Z5 => (bnd (wl w 199 c2) fun p6 => (k_placeChildren_5 w x0 fu p6 Z5))))
theorem zk_placeChildren_5 {X : Ctx} {w : WZ} {h : Hp} (C : Cx X yX3_placeChildren cX3_placeChildren 2 none [] 0 0 0) (hZ : ZW w h) {x0 : Nat} (h0 : x0 < wn w) {r : MM} (E0 : Ex X 0 0 (.inl (none, cm w h r))) : ∀ (fu : Nat) (x1 : Option Nat) (Z : MM) , k_placeChildren_5 w x0 fu x1 Z = some r → (∀ c, x1 = some c → c < wn w) → wr X 0 0 5 [.ref (wE w x0), va_rf (x1.map (wE w))] [] (cm w h Z) := by
  intro fu
  induction fu with
  | zero =>
    intro x1 Z E b1 
    rw [k_placeChildren_5] at E
    cases E
  | succ fu ih =>
    intro x1 Z E b1 
    rw [k_placeChildren_5] at E
    refine r_aload_n (i := 1) C dX3_placeChildren_5 rfl rfl (by first | rfl | exact isR_rf _) ?_
    rcases x1 with _ | c2
    · have E := oe_n E
      refine r_ifnull (o := none) (tgt := 46) C dX3_placeChildren_6 (by decide) (fun _ => ?_) (fun _ q => nomatch q)
      obtain rfl := Option.some.inj E
      exact r_vret C E0 dX3_placeChildren_46 rfl (Nat.le_refl _) (Nat.le_refl _)
    · have E := oe_s E
      have lc2 : c2 < wn w := b1 _ rfl
      refine r_ifnull (o := some (wE w c2)) (tgt := 46) C dX3_placeChildren_6 (by decide) (fun q => nomatch q) (fun _ _ => ?_)
      refine r_aload_n (i := 1) C dX3_placeChildren_9 rfl rfl (by first | rfl | exact isR_rf _) ?_
      refine rz_fresh C f_X3_36 dX3_placeChildren_10 rfl rfl hZ lc2 ?_
      refine rz_lI C 29 f_X3_19 dX3_placeChildren_13 rfl rfl (by decide) (by decide) hZ lc2 ?_
      refine r_if_eq (tgt := 38) C dX3_placeChildren_16 (by decide) (fun c_16 => ?_) (fun c_16 => ?_)
      · have E := ite_t E c_16
        refine r_aload_n (i := 1) C dX3_placeChildren_38 rfl rfl (by first | rfl | exact isR_rf _) ?_
        refine rz_link C 199 f_X3_46 dX3_placeChildren_39 rfl rfl (by decide) (by decide) hZ lc2 ?_
        refine bnd_elim (P := fun (z : Option Nat) => (∀ c, z = some c → c < wn w) → wr X 0 0 42 [.ref (wE w x0), .ref (wE w c2)] [va_rf (z.map (wE w))] (cm w h Z)) E (fun p4 E bp4 => ?_) (zl_lt hZ lc2 (by decide) (by decide))
        refine r_astore_n (i := 1) C dX3_placeChildren_42 rfl (Nat.le_of_ble_eq_true rfl) (by first | rfl | exact isR_rf _) ?_
        refine r_goto (tgt := 5) C dX3_placeChildren_43 (by decide) ?_
        exact ih _ _ E bp4
      · have E := ite_f E c_16
        refine r_aload_n (i := 1) C dX3_placeChildren_19 rfl rfl (by first | rfl | exact isR_rf _) ?_
        refine rz_fresh C f_X3_36 dX3_placeChildren_20 rfl rfl hZ lc2 ?_
        refine r_dup C (by first | rfl | exact isR_cat (isR_rf _)) dX3_placeChildren_23 ?_
        refine rz_lI C 31 f_X3_117 dX3_placeChildren_24 rfl rfl (by decide) (by decide) hZ lc2 ?_
        refine r_aload_n (i := 0) C dX3_placeChildren_27 rfl rfl (by first | rfl | exact isR_rf _) ?_
        refine rz_fresh C f_X3_36 dX3_placeChildren_28 rfl rfl hZ h0 ?_
        refine rz_lI C 31 f_X3_117 dX3_placeChildren_31 rfl rfl (by decide) (by decide) hZ h0 ?_
        refine r_iadd C dX3_placeChildren_34 ?_
        refine rz_lput C 31 f_X3_117 dX3_placeChildren_35 rfl rfl rfl rfl (by decide) (by decide) hZ lc2 ?_
        refine bnd_elim (P := fun (Z : MM) => wr X 0 0 38 [.ref (wE w x0), .ref (wE w c2)] [] (cm w h Z)) E (fun Z5 E => ?_)
        refine r_aload_n (i := 1) C dX3_placeChildren_38 rfl rfl (by first | rfl | exact isR_rf _) ?_
        refine rz_link C 199 f_X3_46 dX3_placeChildren_39 rfl rfl (by decide) (by decide) hZ lc2 ?_
        refine bnd_elim (P := fun (z : Option Nat) => (∀ c, z = some c → c < wn w) → wr X 0 0 42 [.ref (wE w x0), .ref (wE w c2)] [va_rf (z.map (wE w))] (cm w h Z5)) E (fun p6 E bp6 => ?_) (zl_lt hZ lc2 (by decide) (by decide))
        refine r_astore_n (i := 1) C dX3_placeChildren_42 rfl (Nat.le_of_ble_eq_true rfl) (by first | rfl | exact isR_rf _) ?_
        refine r_goto (tgt := 5) C dX3_placeChildren_43 (by decide) ?_
        exact ih _ _ E bp6
def k_placeChildren (w : WZ) (Z : MM) (a0 : Nat) : Option (MM) := bnd (wl w 200 a0) fun p1 => (k_placeChildren_5 w a0 1000 p1 Z)
theorem zk_placeChildren (l : Launch) (G : Gl) {w : WZ} {h : Hp} (hZ : ZW w h) {Z : MM} {a0 : Nat} (h0 : a0 < wn w) {r : MM} (E : k_placeChildren w Z a0 = some r) : MRw l G yX3_placeChildren (.code yX3_placeChildren cX3_placeChildren 2 none) 0 0 0 [.ref (wE w a0)] (cm w h Z) (.inl (none, cm w h r)) := by
  refine mr_of (by decide +kernel) (Nat.le_of_ble_eq_true rfl) (ct1 rfl) (fun X hG hl C E0 => ?_)
  subst hG hl
  rw [k_placeChildren] at E
  refine r_aload_n (i := 0) C dX3_placeChildren_0 rfl rfl (by first | rfl | exact isR_rf _) ?_
  refine rz_link C 200 f_X3_42 dX3_placeChildren_1 rfl rfl (by decide) (by decide) hZ h0 ?_
  refine bnd_elim (P := fun (z : Option Nat) => (∀ c, z = some c → c < wn w) → wr X 0 0 4 [.ref (wE w a0), (.long 0)] [va_rf (z.map (wE w))] (cm w h Z)) E (fun p1 E bp1 => ?_) (zl_lt hZ h0 (by decide) (by decide))
  refine r_astore_n (i := 1) C dX3_placeChildren_4 rfl (Nat.le_of_ble_eq_true rfl) (by first | rfl | exact isR_rf _) ?_
  refine zk_placeChildren_5 C hZ h0 E0 _ _ _ E bp1

