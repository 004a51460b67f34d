/-! ===== Layout: rows (by genz.py) ===== -/
def k_freezeTooWide_7 (w : WZ) : Nat → Int32 → Option Nat → MM → Option (Int32 × MM)
  | 0, _, _, _ => none
  | fu + 1, x1, x2, Z => oe x2 (if (x1) = 0 ∨ (x1) = 1 then some (x1, Z) else none) (fun c2 => bnd ((Z c2 32) + (Z c2 35)) fun p3 => (bnd (zAtMost Z c2 p3) fun p4 => (if (Z c2 29) = (0 : Int32) then (bnd (wl w 199 c2) fun p8 => (k_freezeTooWide_7 w fu x1 p8 Z)) else (if (Z c2 36) = (0 : Int32) then (if p3 ≤ p4 then (bnd (wl w 199 c2) fun p13 => (k_freezeTooWide_7 w fu x1 p13 Z)) else (bnd (u2 Z c2 32 p4) fun Z14 => (bnd (u2 Z14 c2 36 (1 : Int32)) fun Z15 => (bnd (wl w 199 c2) fun p16 => (k_freezeTooWide_7 w fu (1 : Int32) p16 Z15))))) else (bnd (wl w 199 c2) fun p11 => (k_freezeTooWide_7 w fu x1 p11 Z))))))
theorem zk_freezeTooWide_7 {X : Ctx} {w : WZ} {h : Hp} (C : Cx X yX3_freezeTooWide cX3_freezeTooWide 6 (Option.some Jvm.ClassFile.FieldType.boolean) [] 1 0 0) (hZ : ZW w h) {r : Int32 × MM} (E0 : Ex X 0 0 (.inl (some (.int r.1), cm w h r.2))) : ∀ (fu : Nat) (x1 : Int32) (x2 : Option Nat) (Z : MM) (u0 u3 u4 u5 : Value) , k_freezeTooWide_7 w fu x1 x2 Z = some r → (∀ c, x2 = some c → c < wn w) → wr X 0 0 7 [u0, .int x1, va_rf (x2.map (wE w)), u3, u4, u5] [] (cm w h Z) := by
  intro fu
  induction fu with
  | zero =>
    intro x1 x2 Z u0 u3 u4 u5 E b2 
    rw [k_freezeTooWide_7] at E
    cases E
  | succ fu ih =>
    intro x1 x2 Z u0 u3 u4 u5 E b2 
    rw [k_freezeTooWide_7] at E
    refine r_aload_n (i := 2) C dX3_freezeTooWide_7 rfl rfl (by first | rfl | exact isR_rf _) ?_
    rcases x2 with _ | c2
    · have E := oe_n E
      refine r_ifnull (o := none) (tgt := 77) C dX3_freezeTooWide_8 (by decide) (fun _ => ?_) (fun _ q => nomatch q)
      refine r_iload_n (i := 1) C dX3_freezeTooWide_77 rfl rfl ?_
      obtain ⟨gb, E⟩ := gd_elim E
      obtain rfl := Option.some.inj E
      exact r_iret C E0 dX3_freezeTooWide_78 rfl (bo_nar (by first | exact Or.inl rfl | exact Or.inr rfl | assumption | (repeat' split) <;> first | exact Or.inl rfl | exact Or.inr rfl | assumption)).1 (Nat.le_refl _) (Nat.le_refl _)
    · have E := oe_s E
      have lc2 : c2 < wn w := b2 _ rfl
      refine r_ifnull (o := some (wE w c2)) (tgt := 77) C dX3_freezeTooWide_8 (by decide) (fun q => nomatch q) (fun _ _ => ?_)
      refine r_aload_n (i := 2) C dX3_freezeTooWide_11 rfl rfl (by first | rfl | exact isR_rf _) ?_
      refine rz_fresh C f_X3_36 dX3_freezeTooWide_12 rfl rfl hZ lc2 ?_
      refine r_astore_n (i := 3) C dX3_freezeTooWide_15 rfl (Nat.le_of_ble_eq_true rfl) (by first | rfl | exact isR_rf _) ?_
      refine r_aload_n (i := 3) C dX3_freezeTooWide_16 rfl rfl (by first | rfl | exact isR_rf _) ?_
      refine rz_lI C 32 f_X3_29 dX3_freezeTooWide_17 rfl rfl (by decide) (by decide) hZ lc2 ?_
      refine r_aload_n (i := 3) C dX3_freezeTooWide_20 rfl rfl (by first | rfl | exact isR_rf _) ?_
      refine rz_lI C 35 f_X3_93 dX3_freezeTooWide_21 rfl rfl (by decide) (by decide) hZ lc2 ?_
      refine r_iadd C dX3_freezeTooWide_24 ?_
      refine bnd_elim (P := fun (z : Int32) => wr X 0 0 25 [u0, .int x1, .ref (wE w c2), .ref (wf w c2), u4, u5] [.int z] (cm w h Z)) E (fun p3 E => ?_)
      refine r_istore (i := 4) C dX3_freezeTooWide_25 (Nat.le_of_ble_eq_true rfl) ?_
      refine r_aload_n (i := 3) C dX3_freezeTooWide_27 rfl rfl (by first | rfl | exact isR_rf _) ?_
      refine r_iload (i := 4) C dX3_freezeTooWide_28 rfl ?_
      refine r_callVs C v_X3_33 (z_lkAtMost _ _ hZ lc2) dX3_freezeTooWide_30 (hZ.1 _ lc2).2.2.1 (ci := 4) (by decide) rfl rfl (As := [_]) rfl rfl rfl (by first | exact Nat.le_refl _ | exact Nat.le_of_ble_eq_true rfl | omega) (Nat.le_of_ble_eq_true rfl) (by first | exact Nat.le_refl _ | exact Nat.le_of_ble_eq_true rfl | omega) (by first | exact Nat.le_refl _ | exact Nat.le_of_ble_eq_true rfl | omega) ?_
      refine bnd_elim (P := fun (z : Int32) => wr X 0 0 33 [u0, .int x1, .ref (wE w c2), .ref (wf w c2), .int p3, u5] [.int z] (cm w h Z)) E (fun p4 E => ?_)
      refine r_istore (i := 5) C dX3_freezeTooWide_33 (Nat.le_of_ble_eq_true rfl) ?_
      refine r_aload_n (i := 3) C dX3_freezeTooWide_35 rfl rfl (by first | rfl | exact isR_rf _) ?_
      refine rz_lI C 29 f_X3_19 dX3_freezeTooWide_36 rfl rfl (by decide) (by decide) hZ lc2 ?_
      refine r_if_eq (tgt := 69) C dX3_freezeTooWide_39 (by decide) (fun c_39 => ?_) (fun c_39 => ?_)
      · have E := ite_t E c_39
        refine r_aload_n (i := 2) C dX3_freezeTooWide_69 rfl rfl (by first | rfl | exact isR_rf _) ?_
        refine rz_link C 199 f_X3_46 dX3_freezeTooWide_70 rfl rfl (by decide) (by decide) hZ lc2 ?_
        refine bnd_elim (P := fun (z : Option Nat) => (∀ c, z = some c → c < wn w) → wr X 0 0 73 [u0, .int x1, .ref (wE w c2), .ref (wf w c2), .int p3, .int p4] [va_rf (z.map (wE w))] (cm w h Z)) E (fun p8 E bp8 => ?_) (zl_lt hZ lc2 (by decide) (by decide))
        refine r_astore_n (i := 2) C dX3_freezeTooWide_73 rfl (Nat.le_of_ble_eq_true rfl) (by first | rfl | exact isR_rf _) ?_
        refine r_goto (tgt := 7) C dX3_freezeTooWide_74 (by decide) ?_
        exact ih _ _ _ _ _ _ _ E bp8
      · have E := ite_f E c_39
        refine r_aload_n (i := 3) C dX3_freezeTooWide_42 rfl rfl (by first | rfl | exact isR_rf _) ?_
        refine rz_lI C 36 f_X3_83 dX3_freezeTooWide_43 rfl rfl (by decide) (by decide) hZ lc2 ?_
        refine r_if_ne (tgt := 69) C dX3_freezeTooWide_46 (by decide) (fun c_46 => ?_) (fun c_46 => ?_)
        · have E := ite_f E c_46
          refine r_aload_n (i := 2) C dX3_freezeTooWide_69 rfl rfl (by first | rfl | exact isR_rf _) ?_
          refine rz_link C 199 f_X3_46 dX3_freezeTooWide_70 rfl rfl (by decide) (by decide) hZ lc2 ?_
          refine bnd_elim (P := fun (z : Option Nat) => (∀ c, z = some c → c < wn w) → wr X 0 0 73 [u0, .int x1, .ref (wE w c2), .ref (wf w c2), .int p3, .int p4] [va_rf (z.map (wE w))] (cm w h Z)) E (fun p11 E bp11 => ?_) (zl_lt hZ lc2 (by decide) (by decide))
          refine r_astore_n (i := 2) C dX3_freezeTooWide_73 rfl (Nat.le_of_ble_eq_true rfl) (by first | rfl | exact isR_rf _) ?_
          refine r_goto (tgt := 7) C dX3_freezeTooWide_74 (by decide) ?_
          exact ih _ _ _ _ _ _ _ E bp11
        · have E := ite_t E c_46
          refine r_iload (i := 5) C dX3_freezeTooWide_49 rfl ?_
          refine r_iload (i := 4) C dX3_freezeTooWide_51 rfl ?_
          refine r_ic_ge (tgt := 69) C dX3_freezeTooWide_53 (by decide) (fun c_53 => ?_) (fun c_53 => ?_)
          · have E := ite_t E c_53
            refine r_aload_n (i := 2) C dX3_freezeTooWide_69 rfl rfl (by first | rfl | exact isR_rf _) ?_
            refine rz_link C 199 f_X3_46 dX3_freezeTooWide_70 rfl rfl (by decide) (by decide) hZ lc2 ?_
            refine bnd_elim (P := fun (z : Option Nat) => (∀ c, z = some c → c < wn w) → wr X 0 0 73 [u0, .int x1, .ref (wE w c2), .ref (wf w c2), .int p3, .int p4] [va_rf (z.map (wE w))] (cm w h Z)) E (fun p13 E bp13 => ?_) (zl_lt hZ lc2 (by decide) (by decide))
            refine r_astore_n (i := 2) C dX3_freezeTooWide_73 rfl (Nat.le_of_ble_eq_true rfl) (by first | rfl | exact isR_rf _) ?_
            refine r_goto (tgt := 7) C dX3_freezeTooWide_74 (by decide) ?_
            exact ih _ _ _ _ _ _ _ E bp13
          · have E := ite_f E c_53
            refine r_aload_n (i := 3) C dX3_freezeTooWide_56 rfl rfl (by first | rfl | exact isR_rf _) ?_
            refine r_iload (i := 5) C dX3_freezeTooWide_57 rfl ?_
            refine rz_lput C 32 f_X3_29 dX3_freezeTooWide_59 rfl rfl rfl rfl (by decide) (by decide) hZ lc2 ?_
            refine bnd_elim (P := fun (Z : MM) => wr X 0 0 62 [u0, .int x1, .ref (wE w c2), .ref (wf w c2), .int p3, .int p4] [] (cm w h Z)) E (fun Z14 E => ?_)
            refine r_aload_n (i := 3) C dX3_freezeTooWide_62 rfl rfl (by first | rfl | exact isR_rf _) ?_
            refine r_iconst (v := 1) C dX3_freezeTooWide_63 (by decide) ?_
            refine rz_lput C 36 f_X3_83 dX3_freezeTooWide_64 rfl (bo_nar (by first | exact Or.inl rfl | exact Or.inr rfl | assumption | (repeat' split) <;> first | exact Or.inl rfl | exact Or.inr rfl | assumption)).1 (bo_nar (by first | exact Or.inl rfl | exact Or.inr rfl | assumption | (repeat' split) <;> first | exact Or.inl rfl | exact Or.inr rfl | assumption)).2 rfl (by decide) (by decide) hZ lc2 ?_
            refine bnd_elim (P := fun (Z : MM) => wr X 0 0 67 [u0, .int x1, .ref (wE w c2), .ref (wf w c2), .int p3, .int p4] [] (cm w h Z)) E (fun Z15 E => ?_)
            refine r_iconst (v := 1) C dX3_freezeTooWide_67 (by decide) ?_
            refine r_istore_n (i := 1) C dX3_freezeTooWide_68 rfl (Nat.le_of_ble_eq_true rfl) ?_
            refine r_aload_n (i := 2) C dX3_freezeTooWide_69 rfl rfl (by first | rfl | exact isR_rf _) ?_
            refine rz_link C 199 f_X3_46 dX3_freezeTooWide_70 rfl rfl (by decide) (by decide) hZ lc2 ?_
            refine bnd_elim (P := fun (z : Option Nat) => (∀ c, z = some c → c < wn w) → wr X 0 0 73 [u0, .int (1 : Int32), .ref (wE w c2), .ref (wf w c2), .int p3, .int p4] [va_rf (z.map (wE w))] (cm w h Z15)) E (fun p16 E bp16 => ?_) (zl_lt hZ lc2 (by decide) (by decide))
            refine r_astore_n (i := 2) C dX3_freezeTooWide_73 rfl (Nat.le_of_ble_eq_true rfl) (by first | rfl | exact isR_rf _) ?_
            refine r_goto (tgt := 7) C dX3_freezeTooWide_74 (by decide) ?_
            exact ih _ _ _ _ _ _ _ E bp16
def k_freezeTooWide (w : WZ) (Z : MM) (a0 : Nat) : Option (Int32 × MM) := bnd (wl w 200 a0) fun p1 => (k_freezeTooWide_7 w 1000 (0 : Int32) p1 Z)
theorem zk_freezeTooWide (l : Launch) (G : Gl) {w : WZ} {h : Hp} (hZ : ZW w h) {Z : MM} {a0 : Nat} (h0 : a0 < wn w) {r : Int32 × MM} (E : k_freezeTooWide w Z a0 = some r) : MRw l G yX3_freezeTooWide (.code yX3_freezeTooWide cX3_freezeTooWide 6 (Option.some Jvm.ClassFile.FieldType.boolean)) 1 0 0 [.ref (wE w a0)] (cm w h Z) (.inl (some (.int r.1), cm w h r.2)) := by
  refine mr_of (by decide +kernel) (Nat.le_of_ble_eq_true rfl) (ct1 rfl) (fun X hG hl C E0 => ?_)
  subst hG hl
  rw [k_freezeTooWide] at E
  refine r_iconst (v := 0) C dX3_freezeTooWide_0 (by decide) ?_
  refine r_istore_n (i := 1) C dX3_freezeTooWide_1 rfl (Nat.le_of_ble_eq_true rfl) ?_
  refine r_aload_n (i := 0) C dX3_freezeTooWide_2 rfl rfl (by first | rfl | exact isR_rf _) ?_
  refine rz_link C 200 f_X3_42 dX3_freezeTooWide_3 rfl rfl (by decide) (by decide) hZ h0 ?_
  refine bnd_elim (P := fun (z : Option Nat) => (∀ c, z = some c → c < wn w) → wr X 0 0 6 [.ref (wE w a0), .int (0 : Int32), (.long 0), (.long 0), (.long 0), (.long 0)] [va_rf (z.map (wE w))] (cm w h Z)) E (fun p1 E bp1 => ?_) (zl_lt hZ h0 (by decide) (by decide))
  refine r_astore_n (i := 2) C dX3_freezeTooWide_6 rfl (Nat.le_of_ble_eq_true rfl) (by first | rfl | exact isR_rf _) ?_
  refine zk_freezeTooWide_7 C hZ E0 _ _ _ _ _ _ _ _ E bp1

def k_shareRest_15 (K0 : Int32 → Int32 → Option (Int32 × MM)) (w : WZ) (Z : MM) : Nat → Int32 → Int32 → Option Nat → Option (Int32 × MM)
  | 0, _, _, _ => none
  | fu + 1, x1, x2, x3 => oe x3 (K0 x1 x2) (fun c3 => if (Z c3 29) = (0 : Int32) then (bnd (wl w 199 c3) fun p7 => (k_shareRest_15 K0 w Z fu x1 x2 p7)) else (bnd (x1 - (Z c3 32)) fun p8 => (bnd (if (Z c3 36) = (0 : Int32) then Z c3 6 else (0 : Int32)) fun p11 => bnd (x2 + p11) fun p12 => (bnd (wl w 199 c3) fun p13 => (k_shareRest_15 K0 w Z fu p8 p12 p13)))))
theorem zk_shareRest_15 {X : Ctx} {w : WZ} {h : Hp} (C : Cx X yX3_shareRest cX3_shareRest 5 (Option.some Jvm.ClassFile.FieldType.boolean) [] 2 0 0) (hZ : ZW w h) {K0 : Int32 → Int32 → Option (Int32 × MM)} {Z : MM} {v0 : Value} {r : Int32 × MM} (E0 : Ex X 0 0 (.inl (some (.int r.1), cm w h r.2))) : ∀ (fu : Nat) (x1 : Int32) (x2 : Int32) (x3 : Option Nat) (u4 : Value) , k_shareRest_15 K0 w Z fu x1 x2 x3 = some r → (∀ c, x3 = some c → c < wn w) → (∀ (y1 y2 : Int32) (u3 u4 : Value) , K0 y1 y2 = some r → wr X 0 0 71 [v0, .int y1, .int y2, u3, u4] [] (cm w h Z)) → wr X 0 0 15 [v0, .int x1, .int x2, va_rf (x3.map (wE w)), u4] [] (cm w h Z) := by
  intro fu
  induction fu with
  | zero =>
    intro x1 x2 x3 u4 E b3 hK0
    rw [k_shareRest_15] at E
    cases E
  | succ fu ih =>
    intro x1 x2 x3 u4 E b3 hK0
    rw [k_shareRest_15] at E
    refine r_aload_n (i := 3) C dX3_shareRest_15 rfl rfl (by first | rfl | exact isR_rf _) ?_
    rcases x3 with _ | c3
    · have E := oe_n E
      refine r_ifnull (o := none) (tgt := 71) C dX3_shareRest_16 (by decide) (fun _ => ?_) (fun _ q => nomatch q)
      exact hK0 _ _ _ _ E
    · have E := oe_s E
      have lc3 : c3 < wn w := b3 _ rfl
      refine r_ifnull (o := some (wE w c3)) (tgt := 71) C dX3_shareRest_16 (by decide) (fun q => nomatch q) (fun _ _ => ?_)
      refine r_aload_n (i := 3) C dX3_shareRest_19 rfl rfl (by first | rfl | exact isR_rf _) ?_
      refine rz_fresh C f_X3_36 dX3_shareRest_20 rfl rfl hZ lc3 ?_
      refine r_astore (i := 4) C dX3_shareRest_23 (Nat.le_of_ble_eq_true rfl) (by first | rfl | exact isR_rf _) ?_
      refine r_aload (i := 4) C dX3_shareRest_25 rfl (by first | rfl | exact isR_rf _) ?_
      refine rz_lI C 29 f_X3_19 dX3_shareRest_27 rfl rfl (by decide) (by decide) hZ lc3 ?_
      refine r_if_eq (tgt := 63) C dX3_shareRest_30 (by decide) (fun c_30 => ?_) (fun c_30 => ?_)
      · have E := ite_t E c_30
        refine r_aload_n (i := 3) C dX3_shareRest_63 rfl rfl (by first | rfl | exact isR_rf _) ?_
        refine rz_link C 199 f_X3_46 dX3_shareRest_64 rfl rfl (by decide) (by decide) hZ lc3 ?_
        refine bnd_elim (P := fun (z : Option Nat) => (∀ c, z = some c → c < wn w) → wr X 0 0 67 [v0, .int x1, .int x2, .ref (wE w c3), .ref (wf w c3)] [va_rf (z.map (wE w))] (cm w h Z)) E (fun p7 E bp7 => ?_) (zl_lt hZ lc3 (by decide) (by decide))
        refine r_astore_n (i := 3) C dX3_shareRest_67 rfl (Nat.le_of_ble_eq_true rfl) (by first | rfl | exact isR_rf _) ?_
        refine r_goto (tgt := 15) C dX3_shareRest_68 (by decide) ?_
        exact ih _ _ _ _ E bp7 hK0
      · have E := ite_f E c_30
        refine r_iload_n (i := 1) C dX3_shareRest_33 rfl rfl ?_
        refine r_aload (i := 4) C dX3_shareRest_34 rfl (by first | rfl | exact isR_rf _) ?_
        refine rz_lI C 32 f_X3_29 dX3_shareRest_36 rfl rfl (by decide) (by decide) hZ lc3 ?_
        refine r_isub C dX3_shareRest_39 ?_
        refine bnd_elim (P := fun (z : Int32) => wr X 0 0 40 [v0, .int x1, .int x2, .ref (wE w c3), .ref (wf w c3)] [.int z] (cm w h Z)) E (fun p8 E => ?_)
        refine r_istore_n (i := 1) C dX3_shareRest_40 rfl (Nat.le_of_ble_eq_true rfl) ?_
        refine r_iload_n (i := 2) C dX3_shareRest_41 rfl rfl ?_
        refine r_aload (i := 4) C dX3_shareRest_42 rfl (by first | rfl | exact isR_rf _) ?_
        refine rz_lI C 36 f_X3_83 dX3_shareRest_44 rfl rfl (by decide) (by decide) hZ lc3 ?_
        have J10 : ∀ (u : Unit), wr X 0 0 61 [v0, .int p8, .int x2, .ref (wE w c3), .ref (wf w c3)] [.int (if (Z c3 36) = (0 : Int32) then Z c3 6 else (0 : Int32)), .int x2] (cm w h Z) := by
          intro u
          refine bnd_elim (P := fun (z : Int32) => wr X 0 0 61 [v0, .int p8, .int x2, .ref (wE w c3), .ref (wf w c3)] [.int z, .int x2] (cm w h Z)) E (fun p11 E => ?_)
          refine r_iadd C dX3_shareRest_61 ?_
          refine bnd_elim (P := fun (z : Int32) => wr X 0 0 62 [v0, .int p8, .int x2, .ref (wE w c3), .ref (wf w c3)] [.int z] (cm w h Z)) E (fun p12 E => ?_)
          refine r_istore_n (i := 2) C dX3_shareRest_62 rfl (Nat.le_of_ble_eq_true rfl) ?_
          refine r_aload_n (i := 3) C dX3_shareRest_63 rfl rfl (by first | rfl | exact isR_rf _) ?_
          refine rz_link C 199 f_X3_46 dX3_shareRest_64 rfl rfl (by decide) (by decide) hZ lc3 ?_
          refine bnd_elim (P := fun (z : Option Nat) => (∀ c, z = some c → c < wn w) → wr X 0 0 67 [v0, .int p8, .int p12, .ref (wE w c3), .ref (wf w c3)] [va_rf (z.map (wE w))] (cm w h Z)) E (fun p13 E bp13 => ?_) (zl_lt hZ lc3 (by decide) (by decide))
          refine r_astore_n (i := 3) C dX3_shareRest_67 rfl (Nat.le_of_ble_eq_true rfl) (by first | rfl | exact isR_rf _) ?_
          refine r_goto (tgt := 15) C dX3_shareRest_68 (by decide) ?_
          exact ih _ _ _ _ E bp13 hK0
        refine r_if_eq (tgt := 54) C dX3_shareRest_47 (by decide) (fun c_47_k9 => ?_) (fun c_47_k9 => ?_)
        · refine r_aload (i := 4) C dX3_shareRest_54 rfl (by first | rfl | exact isR_rf _) ?_
          refine r_bipush (v := 6) C dX3_shareRest_56 (by decide) ?_
          refine r_callVs C v_X3_9 (z_lkV _ _ 6 hZ lc3 (by decide) rfl) dX3_shareRest_58 (hZ.1 _ lc3).2.2.1 (ci := 4) (by decide) rfl rfl (As := [_]) rfl rfl rfl (by first | exact Nat.le_refl _ | exact Nat.le_of_ble_eq_true rfl | omega) (Nat.le_of_ble_eq_true rfl) (by first | exact Nat.le_refl _ | exact Nat.le_of_ble_eq_true rfl | omega) (by first | exact Nat.le_refl _ | exact Nat.le_of_ble_eq_true rfl | omega) ?_
          first | exact (J10  ()) | (simp only [if_pos c_47_k9] at J10; exact (J10  ()))
        · refine r_iconst (v := 0) C dX3_shareRest_50 (by decide) ?_
          refine r_goto (tgt := 61) C dX3_shareRest_51 (by decide) ?_
          first | exact (J10  ()) | (simp only [if_neg c_47_k9] at J10; exact (J10  ()))
def k_shareRest_101 (w : WZ) : Nat → Option Nat → MM → Option (Int32 × MM)
  | 0, _, _ => none
  | fu + 1, x3, Z => oe x3 (some ((1 : Int32), Z)) (fun c22 => bnd (u2 Z c22 32 ((Z c22 32) + (Z c22 35))) fun Z23 => (bnd (wl w 199 c22) fun p24 => (k_shareRest_101 w fu p24 Z23)))
theorem zk_shareRest_101 {X : Ctx} {w : WZ} {h : Hp} (C : Cx X yX3_shareRest cX3_shareRest 5 (Option.some Jvm.ClassFile.FieldType.boolean) [] 2 0 0) (hZ : ZW w h) {r : Int32 × MM} (E0 : Ex X 0 0 (.inl (some (.int r.1), cm w h r.2))) : ∀ (fu : Nat) (x3 : Option Nat) (Z : MM) (u0 u1 u2 u4 : Value) , k_shareRest_101 w fu x3 Z = some r → (∀ c, x3 = some c → c < wn w) → wr X 0 0 101 [u0, u1, u2, va_rf (x3.map (wE w)), u4] [] (cm w h Z) := by
  intro fu
  induction fu with
  | zero =>
    intro x3 Z u0 u1 u2 u4 E b3 
    rw [k_shareRest_101] at E
    cases E
  | succ fu ih =>
    intro x3 Z u0 u1 u2 u4 E b3 
    rw [k_shareRest_101] at E
    refine r_aload_n (i := 3) C dX3_shareRest_101 rfl rfl (by first | rfl | exact isR_rf _) ?_
    rcases x3 with _ | c22
    · have E := oe_n E
      refine r_ifnull (o := none) (tgt := 132) C dX3_shareRest_102 (by decide) (fun _ => ?_) (fun _ q => nomatch q)
      refine r_iconst (v := 1) C dX3_shareRest_132 (by decide) ?_
      obtain rfl := Option.some.inj E
      exact r_iret C E0 dX3_shareRest_133 rfl (bo_nar (by first | exact Or.inl rfl | exact Or.inr rfl | assumption | (repeat' split) <;> first | exact Or.inl rfl | exact Or.inr rfl | assumption)).1 (Nat.le_refl _) (Nat.le_refl _)
    · have E := oe_s E
      have lc22 : c22 < wn w := b3 _ rfl
      refine r_ifnull (o := some (wE w c22)) (tgt := 132) C dX3_shareRest_102 (by decide) (fun q => nomatch q) (fun _ _ => ?_)
      refine r_aload_n (i := 3) C dX3_shareRest_105 rfl rfl (by first | rfl | exact isR_rf _) ?_
      refine rz_fresh C f_X3_36 dX3_shareRest_106 rfl rfl hZ lc22 ?_
      refine r_dup C (by first | rfl | exact isR_cat (isR_rf _)) dX3_shareRest_109 ?_
      refine rz_lI C 32 f_X3_29 dX3_shareRest_110 rfl rfl (by decide) (by decide) hZ lc22 ?_
      refine r_aload_n (i := 3) C dX3_shareRest_113 rfl rfl (by first | rfl | exact isR_rf _) ?_
      refine rz_fresh C f_X3_36 dX3_shareRest_114 rfl rfl hZ lc22 ?_
      refine rz_lI C 35 f_X3_93 dX3_shareRest_117 rfl rfl (by decide) (by decide) hZ lc22 ?_
      refine r_iadd C dX3_shareRest_120 ?_
      refine rz_lput C 32 f_X3_29 dX3_shareRest_121 rfl rfl rfl rfl (by decide) (by decide) hZ lc22 ?_
      refine bnd_elim (P := fun (Z : MM) => wr X 0 0 124 [u0, u1, u2, .ref (wE w c22), u4] [] (cm w h Z)) E (fun Z23 E => ?_)
      refine r_aload_n (i := 3) C dX3_shareRest_124 rfl rfl (by first | rfl | exact isR_rf _) ?_
      refine rz_link C 199 f_X3_46 dX3_shareRest_125 rfl rfl (by decide) (by decide) hZ lc22 ?_
      refine bnd_elim (P := fun (z : Option Nat) => (∀ c, z = some c → c < wn w) → wr X 0 0 128 [u0, u1, u2, .ref (wE w c22), u4] [va_rf (z.map (wE w))] (cm w h Z23)) E (fun p24 E bp24 => ?_) (zl_lt hZ lc22 (by decide) (by decide))
      refine r_astore_n (i := 3) C dX3_shareRest_128 rfl (Nat.le_of_ble_eq_true rfl) (by first | rfl | exact isR_rf _) ?_
      refine r_goto (tgt := 101) C dX3_shareRest_129 (by decide) ?_
      exact ih _ _ _ _ _ _ E bp24
def k_shareRest (w : WZ) (Z : MM) (a0 : Nat) : Option (Int32 × MM) := bnd (Z a0 32) fun p1 => (bnd (wl w 200 a0) fun p2 => (k_shareRest_15 (fun p14 p15 => if p14 ≤ (0 : Int32) then (some ((1 : Int32), Z)) else (if (0 : Int32) < p15 then (bd (k_findGains w Z a0 p14 p15) fun Z18 => (bd2 (k_freezeTooWide w Z18 a0) fun p19 Z20 => (if p19 = (0 : Int32) then (bnd (wl w 200 a0) fun p21 => (k_shareRest_101 w 1000 p21 Z20)) else (some ((0 : Int32), Z20))))) else (some ((1 : Int32), Z)))) w Z 1000 p1 (0 : Int32) p2))
theorem zk_shareRest (l : Launch) (G : Gl) {w : WZ} {h : Hp} (hZ : ZW w h) {Z : MM} {a0 : Nat} (h0 : a0 < wn w) {r : Int32 × MM} (E : k_shareRest w Z a0 = some r) : MRw l G yX3_shareRest (.code yX3_shareRest cX3_shareRest 5 (Option.some Jvm.ClassFile.FieldType.boolean)) 2 0 0 [.ref (wE w a0)] (cm w h Z) (.inl (some (.int r.1), cm w h r.2)) := by
  refine mr_of (by decide +kernel) (Nat.le_of_ble_eq_true rfl) (ct1 rfl) (fun X hG hl C E0 => ?_)
  subst hG hl
  rw [k_shareRest] at E
  refine r_aload_n (i := 0) C dX3_shareRest_0 rfl rfl (by first | rfl | exact isR_rf _) ?_
  refine rz_fresh C f_X3_36 dX3_shareRest_1 rfl rfl hZ h0 ?_
  refine rz_lI C 32 f_X3_29 dX3_shareRest_4 rfl rfl (by decide) (by decide) hZ h0 ?_
  refine bnd_elim (P := fun (z : Int32) => wr X 0 0 7 [.ref (wE w a0), (.long 0), (.long 0), (.long 0), (.long 0)] [.int z] (cm w h Z)) E (fun p1 E => ?_)
  refine r_istore_n (i := 1) C dX3_shareRest_7 rfl (Nat.le_of_ble_eq_true rfl) ?_
  refine r_iconst (v := 0) C dX3_shareRest_8 (by decide) ?_
  refine r_istore_n (i := 2) C dX3_shareRest_9 rfl (Nat.le_of_ble_eq_true rfl) ?_
  refine r_aload_n (i := 0) C dX3_shareRest_10 rfl rfl (by first | rfl | exact isR_rf _) ?_
  refine rz_link C 200 f_X3_42 dX3_shareRest_11 rfl rfl (by decide) (by decide) hZ h0 ?_
  refine bnd_elim (P := fun (z : Option Nat) => (∀ c, z = some c → c < wn w) → wr X 0 0 14 [.ref (wE w a0), .int p1, .int (0 : Int32), (.long 0), (.long 0)] [va_rf (z.map (wE w))] (cm w h Z)) E (fun p2 E bp2 => ?_) (zl_lt hZ h0 (by decide) (by decide))
  refine r_astore_n (i := 3) C dX3_shareRest_14 rfl (Nat.le_of_ble_eq_true rfl) (by first | rfl | exact isR_rf _) ?_
  refine zk_shareRest_15 C hZ E0 _ _ _ _ _ E bp2 (fun p14 p15 w16 w17 E => ?_)
  refine r_iload_n (i := 1) C dX3_shareRest_71 rfl rfl ?_
  refine r_if_le (tgt := 79) C dX3_shareRest_72 (by decide) (fun c_72 => ?_) (fun c_72 => ?_)
  · have E := ite_t E c_72
    refine r_iconst (v := 1) C dX3_shareRest_79 (by decide) ?_
    obtain rfl := Option.some.inj E
    exact r_iret C E0 dX3_shareRest_80 rfl (bo_nar (by first | exact Or.inl rfl | exact Or.inr rfl | assumption | (repeat' split) <;> first | exact Or.inl rfl | exact Or.inr rfl | assumption)).1 (Nat.le_refl _) (Nat.le_refl _)
  · have E := ite_f E c_72
    refine r_iload_n (i := 2) C dX3_shareRest_75 rfl rfl ?_
    refine r_if_gt (tgt := 81) C dX3_shareRest_76 (by decide) (fun c_76 => ?_) (fun c_76 => ?_)
    · have E := ite_t E c_76
      refine r_aload_n (i := 0) C dX3_shareRest_81 rfl rfl (by first | rfl | exact isR_rf _) ?_
      refine r_iload_n (i := 1) C dX3_shareRest_82 rfl rfl ?_
      refine r_iload_n (i := 2) C dX3_shareRest_83 rfl rfl ?_
      obtain ⟨Z18, q, E⟩ := bd_elim E
      refine r_callSn C s_X3_86 (zk_findGains _ _ hZ h0 q) dX3_shareRest_84 (As := [_, _, _]) rfl rfl rfl (by first | exact Nat.le_refl _ | exact Nat.le_of_ble_eq_true rfl | omega) (Nat.le_of_ble_eq_true rfl) (by first | exact Nat.le_refl _ | exact Nat.le_of_ble_eq_true rfl | omega) (by first | exact Nat.le_refl _ | exact Nat.le_of_ble_eq_true rfl | omega) ?_
      refine r_aload_n (i := 0) C dX3_shareRest_87 rfl rfl (by first | rfl | exact isR_rf _) ?_
      obtain ⟨p19, Z20, q, E⟩ := bd2_elim E
      refine r_callSs C s_X3_90 (zk_freezeTooWide _ _ hZ h0 q) dX3_shareRest_88 (As := [_]) rfl rfl rfl (by first | exact Nat.le_refl _ | exact Nat.le_of_ble_eq_true rfl | omega) (Nat.le_of_ble_eq_true rfl) (by first | exact Nat.le_refl _ | exact Nat.le_of_ble_eq_true rfl | omega) (by first | exact Nat.le_refl _ | exact Nat.le_of_ble_eq_true rfl | omega) ?_
      refine r_if_eq (tgt := 96) C dX3_shareRest_91 (by decide) (fun c_91 => ?_) (fun c_91 => ?_)
      · have E := ite_t E c_91
        refine r_aload_n (i := 0) C dX3_shareRest_96 rfl rfl (by first | rfl | exact isR_rf _) ?_
        refine rz_link C 200 f_X3_42 dX3_shareRest_97 rfl rfl (by decide) (by decide) hZ h0 ?_
        refine bnd_elim (P := fun (z : Option Nat) => (∀ c, z = some c → c < wn w) → wr X 0 0 100 [.ref (wE w a0), .int p14, .int p15, w16, w17] [va_rf (z.map (wE w))] (cm w h Z20)) E (fun p21 E bp21 => ?_) (zl_lt hZ h0 (by decide) (by decide))
        refine r_astore_n (i := 3) C dX3_shareRest_100 rfl (Nat.le_of_ble_eq_true rfl) (by first | rfl | exact isR_rf _) ?_
        refine zk_shareRest_101 C hZ E0 _ _ _ _ _ _ _ E bp21
      · have E := ite_f E c_91
        refine r_iconst (v := 0) C dX3_shareRest_94 (by decide) ?_
        obtain rfl := Option.some.inj E
        exact r_iret C E0 dX3_shareRest_95 rfl (bo_nar (by first | exact Or.inl rfl | exact Or.inr rfl | assumption | (repeat' split) <;> first | exact Or.inl rfl | exact Or.inr rfl | assumption)).1 (Nat.le_refl _) (Nat.le_refl _)
    · have E := ite_f E c_76
      refine r_iconst (v := 1) C dX3_shareRest_79 (by decide) ?_
      obtain rfl := Option.some.inj E
      exact r_iret C E0 dX3_shareRest_80 rfl (bo_nar (by first | exact Or.inl rfl | exact Or.inr rfl | assumption | (repeat' split) <;> first | exact Or.inl rfl | exact Or.inr rfl | assumption)).1 (Nat.le_refl _) (Nat.le_refl _)

def k_measureRow_5 (K0 : MM → Option (MM)) (w : WZ) : Nat → Option Nat → MM → Option (MM)
  | 0, _, _ => none
  | fu + 1, x1, Z => oe x1 (K0 Z) (fun c2 => if (Z c2 29) = (0 : Int32) then (bnd (wl w 199 c2) fun p7 => (k_measureRow_5 K0 w fu p7 Z)) else (if ((wi w 196 c2) = (0 : Int32) → nI (tn (wi w 195 c2)) = wi w 195 c2) then bnd (if (wi w 196 c2) = (0 : Int32) then zLongest (wi w 195 c2) else (0 : Int32)) fun p12 => (bnd (u2 Z c2 32 (k_ownWidth w Z c2 (p12 * (Z c2 9)))) fun Z13 => (bnd (wl w 199 c2) fun p14 => (k_measureRow_5 K0 w fu p14 Z13))) else none))
theorem zk_measureRow_5 {X : Ctx} {w : WZ} {h : Hp} (C : Cx X yX3_measureRow cX3_measureRow 5 none [] 3 0 0) (hZ : ZW w h) {K0 : MM → Option (MM)} {v0 : Value} {r : MM} (E0 : Ex X 0 0 (.inl (none, cm w h r))) : ∀ (fu : Nat) (x1 : Option Nat) (Z : MM) (u2 u3 u4 : Value) , k_measureRow_5 K0 w fu x1 Z = some r → (∀ c, x1 = some c → c < wn w) → (∀ (Z2 : MM) (u1 u2 u3 u4 : Value) , K0 Z2 = some r → wr X 0 0 64 [v0, u1, u2, u3, u4] [] (cm w h Z2)) → wr X 0 0 5 [v0, va_rf (x1.map (wE w)), u2, u3, u4] [] (cm w h Z) := by
  intro fu
  induction fu with
  | zero =>
    intro x1 Z u2 u3 u4 E b1 hK0
    rw [k_measureRow_5] at E
    cases E
  | succ fu ih =>
    intro x1 Z u2 u3 u4 E b1 hK0
    rw [k_measureRow_5] at E
    refine r_aload_n (i := 1) C dX3_measureRow_5 rfl rfl (by first | rfl | exact isR_rf _) ?_
    rcases x1 with _ | c2
    · have E := oe_n E
      refine r_ifnull (o := none) (tgt := 64) C dX3_measureRow_6 (by decide) (fun _ => ?_) (fun _ q => nomatch q)
      exact hK0 _ _ _ _ _ E
    · have E := oe_s E
      have lc2 : c2 < wn w := b1 _ rfl
      refine r_ifnull (o := some (wE w c2)) (tgt := 64) C dX3_measureRow_6 (by decide) (fun q => nomatch q) (fun _ _ => ?_)
      refine r_aload_n (i := 1) C dX3_measureRow_9 rfl rfl (by first | rfl | exact isR_rf _) ?_
      refine rz_fresh C f_X3_36 dX3_measureRow_10 rfl rfl hZ lc2 ?_
      refine r_astore_n (i := 2) C dX3_measureRow_13 rfl (Nat.le_of_ble_eq_true rfl) (by first | rfl | exact isR_rf _) ?_
      refine r_aload_n (i := 2) C dX3_measureRow_14 rfl rfl (by first | rfl | exact isR_rf _) ?_
      refine rz_lI C 29 f_X3_19 dX3_measureRow_15 rfl rfl (by decide) (by decide) hZ lc2 ?_
      refine r_if_eq (tgt := 56) C dX3_measureRow_18 (by decide) (fun c_18 => ?_) (fun c_18 => ?_)
      · have E := ite_t E c_18
        refine r_aload_n (i := 1) C dX3_measureRow_56 rfl rfl (by first | rfl | exact isR_rf _) ?_
        refine rz_link C 199 f_X3_46 dX3_measureRow_57 rfl rfl (by decide) (by decide) hZ lc2 ?_
        refine bnd_elim (P := fun (z : Option Nat) => (∀ c, z = some c → c < wn w) → wr X 0 0 60 [v0, .ref (wE w c2), .ref (wf w c2), u3, u4] [va_rf (z.map (wE w))] (cm w h Z)) E (fun p7 E bp7 => ?_) (zl_lt hZ lc2 (by decide) (by decide))
        refine r_astore_n (i := 1) C dX3_measureRow_60 rfl (Nat.le_of_ble_eq_true rfl) (by first | rfl | exact isR_rf _) ?_
        refine r_goto (tgt := 5) C dX3_measureRow_61 (by decide) ?_
        exact ih _ _ _ _ _ E bp7 hK0
      · have E := ite_f E c_18
        refine r_aload_n (i := 1) C dX3_measureRow_21 rfl rfl (by first | rfl | exact isR_rf _) ?_
        refine rz_eI C 196 f_X3_68 dX3_measureRow_22 rfl rfl (by decide) (by decide) hZ lc2 ?_
        obtain ⟨g10, E⟩ := gd_elim E
        have J11 : ∀ (u : Unit), wr X 0 0 39 [v0, .ref (wE w c2), .ref (wf w c2), u3, u4] [.int (if (wi w 196 c2) = (0 : Int32) then zLongest (wi w 195 c2) else (0 : Int32))] (cm w h Z) := by
          intro u
          refine bnd_elim (P := fun (z : Int32) => wr X 0 0 39 [v0, .ref (wE w c2), .ref (wf w c2), u3, u4] [.int z] (cm w h Z)) E (fun p12 E => ?_)
          refine r_istore_n (i := 3) C dX3_measureRow_39 rfl (Nat.le_of_ble_eq_true rfl) ?_
          refine r_aload_n (i := 2) C dX3_measureRow_40 rfl rfl (by first | rfl | exact isR_rf _) ?_
          refine r_aload_n (i := 2) C dX3_measureRow_41 rfl rfl (by first | rfl | exact isR_rf _) ?_
          refine r_iload_n (i := 3) C dX3_measureRow_42 rfl rfl ?_
          refine r_aload_n (i := 2) C dX3_measureRow_43 rfl rfl (by first | rfl | exact isR_rf _) ?_
          refine r_bipush (v := 9) C dX3_measureRow_44 (by decide) ?_
          refine r_callVs C v_X3_9 (z_lkV _ _ 9 hZ lc2 (by decide) rfl) dX3_measureRow_46 (hZ.1 _ lc2).2.2.1 (ci := 4) (by decide) rfl rfl (As := [_]) rfl rfl rfl (by first | exact Nat.le_refl _ | exact Nat.le_of_ble_eq_true rfl | omega) (Nat.le_of_ble_eq_true rfl) (by first | exact Nat.le_refl _ | exact Nat.le_of_ble_eq_true rfl | omega) (by first | exact Nat.le_refl _ | exact Nat.le_of_ble_eq_true rfl | omega) ?_
          refine r_imul C dX3_measureRow_49 ?_
          refine r_callSs C s_X3_23 (zk_ownWidth _ _ hZ lc2) dX3_measureRow_50 (As := [_, _]) rfl rfl rfl (by first | exact Nat.le_refl _ | exact Nat.le_of_ble_eq_true rfl | omega) (Nat.le_of_ble_eq_true rfl) (by first | exact Nat.le_refl _ | exact Nat.le_of_ble_eq_true rfl | omega) (by first | exact Nat.le_refl _ | exact Nat.le_of_ble_eq_true rfl | omega) ?_
          refine rz_lput C 32 f_X3_29 dX3_measureRow_53 rfl rfl rfl rfl (by decide) (by decide) hZ lc2 ?_
          refine bnd_elim (P := fun (Z : MM) => wr X 0 0 56 [v0, .ref (wE w c2), .ref (wf w c2), .int p12, u4] [] (cm w h Z)) E (fun Z13 E => ?_)
          refine r_aload_n (i := 1) C dX3_measureRow_56 rfl rfl (by first | rfl | exact isR_rf _) ?_
          refine rz_link C 199 f_X3_46 dX3_measureRow_57 rfl rfl (by decide) (by decide) hZ lc2 ?_
          refine bnd_elim (P := fun (z : Option Nat) => (∀ c, z = some c → c < wn w) → wr X 0 0 60 [v0, .ref (wE w c2), .ref (wf w c2), .int p12, u4] [va_rf (z.map (wE w))] (cm w h Z13)) E (fun p14 E bp14 => ?_) (zl_lt hZ lc2 (by decide) (by decide))
          refine r_astore_n (i := 1) C dX3_measureRow_60 rfl (Nat.le_of_ble_eq_true rfl) (by first | rfl | exact isR_rf _) ?_
          refine r_goto (tgt := 5) C dX3_measureRow_61 (by decide) ?_
          exact ih _ _ _ _ _ E bp14 hK0
        refine r_if_eq (tgt := 32) C dX3_measureRow_25 (by decide) (fun c_25_k8 => ?_) (fun c_25_k8 => ?_)
        · refine r_aload_n (i := 1) C dX3_measureRow_32 rfl rfl (by first | rfl | exact isR_rf _) ?_
          refine rz_eI C 195 f_X3_71 dX3_measureRow_33 rfl rfl (by decide) (by decide) hZ lc2 ?_
          refine r_callSs C s_X3_74 (z_tLongest _ _ (g10 c_25_k8)) dX3_measureRow_36 (As := [_]) rfl rfl rfl (by first | exact Nat.le_refl _ | exact Nat.le_of_ble_eq_true rfl | omega) (Nat.le_of_ble_eq_true rfl) (by first | exact Nat.le_refl _ | exact Nat.le_of_ble_eq_true rfl | omega) (by first | exact Nat.le_refl _ | exact Nat.le_of_ble_eq_true rfl | omega) ?_
          first | exact (J11  ()) | (simp only [if_pos c_25_k8] at J11; exact (J11  ()))
        · refine r_iconst (v := 0) C dX3_measureRow_28 (by decide) ?_
          refine r_goto (tgt := 39) C dX3_measureRow_29 (by decide) ?_
          first | exact (J11  ()) | (simp only [if_neg c_25_k8] at J11; exact (J11  ()))
def k_measureRow_68 (K0 : MM → Option (MM)) (w : WZ) (x0 : Nat) : Nat → Int32 → Int32 → MM → Option (MM)
  | 0, _, _, _ => none
  | fu + 1, x1, x2, Z => if (24 : Int32) < x2 then (K0 Z) else (if x1 = (0 : Int32) then (bd2 (k_shareRest w Z x0) fun p23 Z24 => (k_measureRow_68 K0 w x0 fu p23 (x2 + 1) Z24)) else (K0 Z))
theorem zk_measureRow_68 {X : Ctx} {w : WZ} {h : Hp} (C : Cx X yX3_measureRow cX3_measureRow 5 none [] 3 0 0) (hZ : ZW w h) {K0 : MM → Option (MM)} {x0 : Nat} (h0 : x0 < wn w) {r : MM} (E0 : Ex X 0 0 (.inl (none, cm w h r))) : ∀ (fu : Nat) (x1 : Int32) (x2 : Int32) (Z : MM) (u3 u4 : Value) , k_measureRow_68 K0 w x0 fu x1 x2 Z = some r → (∀ (Z2 : MM) (u1 u2 u3 u4 : Value) , K0 Z2 = some r → wr X 0 0 89 [.ref (wE w x0), u1, u2, u3, u4] [] (cm w h Z2)) → wr X 0 0 68 [.ref (wE w x0), .int x1, .int x2, u3, u4] [] (cm w h Z) := by
  intro fu
  induction fu with
  | zero =>
    intro x1 x2 Z u3 u4 E  hK0
    rw [k_measureRow_68] at E
    cases E
  | succ fu ih =>
    intro x1 x2 Z u3 u4 E  hK0
    rw [k_measureRow_68] at E
    refine r_iload_n (i := 2) C dX3_measureRow_68 rfl rfl ?_
    refine r_bipush (v := 24) C dX3_measureRow_69 (by decide) ?_
    refine r_ic_gt (tgt := 89) C dX3_measureRow_71 (by decide) (fun c_71 => ?_) (fun c_71 => ?_)
    · have E := ite_t E c_71
      exact hK0 _ _ _ _ _ E
    · have E := ite_f E c_71
      refine r_iload_n (i := 1) C dX3_measureRow_74 rfl rfl ?_
      refine r_if_ne (tgt := 89) C dX3_measureRow_75 (by decide) (fun c_75 => ?_) (fun c_75 => ?_)
      · have E := ite_f E c_75
        exact hK0 _ _ _ _ _ E
      · have E := ite_t E c_75
        refine r_aload_n (i := 0) C dX3_measureRow_78 rfl rfl (by first | rfl | exact isR_rf _) ?_
        obtain ⟨p23, Z24, q, E⟩ := bd2_elim E
        refine r_callSs C s_X3_79 (zk_shareRest _ _ hZ h0 q) dX3_measureRow_79 (As := [_]) rfl rfl rfl (by first | exact Nat.le_refl _ | exact Nat.le_of_ble_eq_true rfl | omega) (Nat.le_of_ble_eq_true rfl) (by first | exact Nat.le_refl _ | exact Nat.le_of_ble_eq_true rfl | omega) (by first | exact Nat.le_refl _ | exact Nat.le_of_ble_eq_true rfl | omega) ?_
        refine r_istore_n (i := 1) C dX3_measureRow_82 rfl (Nat.le_of_ble_eq_true rfl) ?_
        refine r_iinc1 (i := 2) C dX3_measureRow_83 rfl ?_
        refine r_goto (tgt := 68) C dX3_measureRow_86 (by decide) ?_
        exact ih _ _ _ _ _ E hK0
def k_measureRow_102 (w : WZ) : Nat → Int32 → Option Nat → MM → Option (MM)
  | 0, _, _, _ => none
  | fu + 1, x2, x3, Z => oe x3 (some Z) (fun c32 => if (Z c32 29) = (0 : Int32) then (bnd (wl w 199 c32) fun p34 => (k_measureRow_102 w fu x2 p34 Z)) else (bnd (u2 Z c32 30 x2) fun Z35 => (bnd (x2 + (Z35 c32 32)) fun p36 => (bnd (wl w 199 c32) fun p37 => (k_measureRow_102 w fu p36 p37 Z35)))))
theorem zk_measureRow_102 {X : Ctx} {w : WZ} {h : Hp} (C : Cx X yX3_measureRow cX3_measureRow 5 none [] 3 0 0) (hZ : ZW w h) {r : MM} (E0 : Ex X 0 0 (.inl (none, cm w h r))) : ∀ (fu : Nat) (x2 : Int32) (x3 : Option Nat) (Z : MM) (u0 u1 u4 : Value) , k_measureRow_102 w fu x2 x3 Z = some r → (∀ c, x3 = some c → c < wn w) → wr X 0 0 102 [u0, u1, .int x2, va_rf (x3.map (wE w)), u4] [] (cm w h Z) := by
  intro fu
  induction fu with
  | zero =>
    intro x2 x3 Z u0 u1 u4 E b3 
    rw [k_measureRow_102] at E
    cases E
  | succ fu ih =>
    intro x2 x3 Z u0 u1 u4 E b3 
    rw [k_measureRow_102] at E
    refine r_aload_n (i := 3) C dX3_measureRow_102 rfl rfl (by first | rfl | exact isR_rf _) ?_
    rcases x3 with _ | c32
    · have E := oe_n E
      refine r_ifnull (o := none) (tgt := 142) C dX3_measureRow_103 (by decide) (fun _ => ?_) (fun _ q => nomatch q)
      obtain rfl := Option.some.inj E
      exact r_vret C E0 dX3_measureRow_142 rfl (Nat.le_refl _) (Nat.le_refl _)
    · have E := oe_s E
      have lc32 : c32 < wn w := b3 _ rfl
      refine r_ifnull (o := some (wE w c32)) (tgt := 142) C dX3_measureRow_103 (by decide) (fun q => nomatch q) (fun _ _ => ?_)
      refine r_aload_n (i := 3) C dX3_measureRow_106 rfl rfl (by first | rfl | exact isR_rf _) ?_
      refine rz_fresh C f_X3_36 dX3_measureRow_107 rfl rfl hZ lc32 ?_
      refine r_astore (i := 4) C dX3_measureRow_110 (Nat.le_of_ble_eq_true rfl) (by first | rfl | exact isR_rf _) ?_
      refine r_aload (i := 4) C dX3_measureRow_112 rfl (by first | rfl | exact isR_rf _) ?_
      refine rz_lI C 29 f_X3_19 dX3_measureRow_114 rfl rfl (by decide) (by decide) hZ lc32 ?_
      refine r_if_eq (tgt := 134) C dX3_measureRow_117 (by decide) (fun c_117 => ?_) (fun c_117 => ?_)
      · have E := ite_t E c_117
        refine r_aload_n (i := 3) C dX3_measureRow_134 rfl rfl (by first | rfl | exact isR_rf _) ?_
        refine rz_link C 199 f_X3_46 dX3_measureRow_135 rfl rfl (by decide) (by decide) hZ lc32 ?_
        refine bnd_elim (P := fun (z : Option Nat) => (∀ c, z = some c → c < wn w) → wr X 0 0 138 [u0, u1, .int x2, .ref (wE w c32), .ref (wf w c32)] [va_rf (z.map (wE w))] (cm w h Z)) E (fun p34 E bp34 => ?_) (zl_lt hZ lc32 (by decide) (by decide))
        refine r_astore_n (i := 3) C dX3_measureRow_138 rfl (Nat.le_of_ble_eq_true rfl) (by first | rfl | exact isR_rf _) ?_
        refine r_goto (tgt := 102) C dX3_measureRow_139 (by decide) ?_
        exact ih _ _ _ _ _ _ E bp34
      · have E := ite_f E c_117
        refine r_aload (i := 4) C dX3_measureRow_120 rfl (by first | rfl | exact isR_rf _) ?_
        refine r_iload_n (i := 2) C dX3_measureRow_122 rfl rfl ?_
        refine rz_lput C 30 f_X3_59 dX3_measureRow_123 rfl rfl rfl rfl (by decide) (by decide) hZ lc32 ?_
        refine bnd_elim (P := fun (Z : MM) => wr X 0 0 126 [u0, u1, .int x2, .ref (wE w c32), .ref (wf w c32)] [] (cm w h Z)) E (fun Z35 E => ?_)
        refine r_iload_n (i := 2) C dX3_measureRow_126 rfl rfl ?_
        refine r_aload (i := 4) C dX3_measureRow_127 rfl (by first | rfl | exact isR_rf _) ?_
        refine rz_lI C 32 f_X3_29 dX3_measureRow_129 rfl rfl (by decide) (by decide) hZ lc32 ?_
        refine r_iadd C dX3_measureRow_132 ?_
        refine bnd_elim (P := fun (z : Int32) => wr X 0 0 133 [u0, u1, .int x2, .ref (wE w c32), .ref (wf w c32)] [.int z] (cm w h Z35)) E (fun p36 E => ?_)
        refine r_istore_n (i := 2) C dX3_measureRow_133 rfl (Nat.le_of_ble_eq_true rfl) ?_
        refine r_aload_n (i := 3) C dX3_measureRow_134 rfl rfl (by first | rfl | exact isR_rf _) ?_
        refine rz_link C 199 f_X3_46 dX3_measureRow_135 rfl rfl (by decide) (by decide) hZ lc32 ?_
        refine bnd_elim (P := fun (z : Option Nat) => (∀ c, z = some c → c < wn w) → wr X 0 0 138 [u0, u1, .int p36, .ref (wE w c32), .ref (wf w c32)] [va_rf (z.map (wE w))] (cm w h Z35)) E (fun p37 E bp37 => ?_) (zl_lt hZ lc32 (by decide) (by decide))
        refine r_astore_n (i := 3) C dX3_measureRow_138 rfl (Nat.le_of_ble_eq_true rfl) (by first | rfl | exact isR_rf _) ?_
        refine r_goto (tgt := 102) C dX3_measureRow_139 (by decide) ?_
        exact ih _ _ _ _ _ _ E bp37
def k_measureRow (w : WZ) (Z : MM) (a0 : Nat) : Option (MM) := bnd (wl w 200 a0) fun p1 => (k_measureRow_5 (fun Z19 => k_measureRow_68 (fun Z29 => bnd (Z29 a0 30) fun p30 => (bnd (wl w 200 a0) fun p31 => (k_measureRow_102 w 1000 p30 p31 Z29))) w a0 1000 (0 : Int32) (0 : Int32) Z19) w 1000 p1 Z)
theorem zk_measureRow (l : Launch) (G : Gl) {w : WZ} {h : Hp} (hZ : ZW w h) {Z : MM} {a0 : Nat} (h0 : a0 < wn w) {r : MM} (E : k_measureRow w Z a0 = some r) : MRw l G yX3_measureRow (.code yX3_measureRow cX3_measureRow 5 none) 3 0 0 [.ref (wE w a0)] (cm w h Z) (.inl (none, cm w h r)) := by
  refine mr_of (by decide +kernel) (Nat.le_of_ble_eq_true rfl) (ct1 rfl) (fun X hG hl C E0 => ?_)
  subst hG hl
  rw [k_measureRow] at E
  refine r_aload_n (i := 0) C dX3_measureRow_0 rfl rfl (by first | rfl | exact isR_rf _) ?_
  refine rz_link C 200 f_X3_42 dX3_measureRow_1 rfl rfl (by decide) (by decide) hZ h0 ?_
  refine bnd_elim (P := fun (z : Option Nat) => (∀ c, z = some c → c < wn w) → wr X 0 0 4 [.ref (wE w a0), (.long 0), (.long 0), (.long 0), (.long 0)] [va_rf (z.map (wE w))] (cm w h Z)) E (fun p1 E bp1 => ?_) (zl_lt hZ h0 (by decide) (by decide))
  refine r_astore_n (i := 1) C dX3_measureRow_4 rfl (Nat.le_of_ble_eq_true rfl) (by first | rfl | exact isR_rf _) ?_
  refine zk_measureRow_5 C hZ E0 _ _ _ _ _ _ E bp1 (fun Z19 w15 w16 w17 w18 E => ?_)
  refine r_iconst (v := 0) C dX3_measureRow_64 (by decide) ?_
  refine r_istore_n (i := 1) C dX3_measureRow_65 rfl (Nat.le_of_ble_eq_true rfl) ?_
  refine r_iconst (v := 0) C dX3_measureRow_66 (by decide) ?_
  refine r_istore_n (i := 2) C dX3_measureRow_67 rfl (Nat.le_of_ble_eq_true rfl) ?_
  refine zk_measureRow_68 C hZ h0 E0 _ _ _ _ _ _ E  (fun Z29 w25 w26 w27 w28 E => ?_)
  refine r_aload_n (i := 0) C dX3_measureRow_89 rfl rfl (by first | rfl | exact isR_rf _) ?_
  refine rz_fresh C f_X3_36 dX3_measureRow_90 rfl rfl hZ h0 ?_
  refine rz_lI C 30 f_X3_59 dX3_measureRow_93 rfl rfl (by decide) (by decide) hZ h0 ?_
  refine bnd_elim (P := fun (z : Int32) => wr X 0 0 96 [.ref (wE w a0), w25, w26, w27, w28] [.int z] (cm w h Z29)) E (fun p30 E => ?_)
  refine r_istore_n (i := 2) C dX3_measureRow_96 rfl (Nat.le_of_ble_eq_true rfl) ?_
  refine r_aload_n (i := 0) C dX3_measureRow_97 rfl rfl (by first | rfl | exact isR_rf _) ?_
  refine rz_link C 200 f_X3_42 dX3_measureRow_98 rfl rfl (by decide) (by decide) hZ h0 ?_
  refine bnd_elim (P := fun (z : Option Nat) => (∀ c, z = some c → c < wn w) → wr X 0 0 101 [.ref (wE w a0), w25, .int p30, w27, w28] [va_rf (z.map (wE w))] (cm w h Z29)) E (fun p31 E bp31 => ?_) (zl_lt hZ h0 (by decide) (by decide))
  refine r_astore_n (i := 3) C dX3_measureRow_101 rfl (Nat.le_of_ble_eq_true rfl) (by first | rfl | exact isR_rf _) ?_
  refine zk_measureRow_102 C hZ E0 _ _ _ _ _ _ _ E bp31

def k_measureChildren_10 (K0 : MM → Option (MM)) (w : WZ) (x1 : Nat) : Nat → Option Nat → MM → Option (MM)
  | 0, _, _ => none
  | fu + 1, x2, Z => oe x2 (K0 Z) (fun c2 => bnd (zBegin Z c2 (if (Z x1 29) = (0 : Int32) then (0 : Int32) else if (Z c2 5) = (3 : Int32) then (0 : Int32) else (1 : Int32))) fun Z6 => (bnd (wl w 199 c2) fun p7 => (k_measureChildren_10 K0 w x1 fu p7 Z6)))
theorem zk_measureChildren_10 {X : Ctx} {w : WZ} {h : Hp} (C : Cx X yX3_measureChildren cX3_measureChildren 3 none [] 4 0 0) (hZ : ZW w h) {K0 : MM → Option (MM)} {x1 : Nat} {v0 : Value} (h1 : x1 < wn w) {r : MM} (E0 : Ex X 0 0 (.inl (none, cm w h r))) : ∀ (fu : Nat) (x2 : Option Nat) (Z : MM) , k_measureChildren_10 K0 w x1 fu x2 Z = some r → (∀ c, x2 = some c → c < wn w) → (∀ (Z2 : MM) (u2 : Value) , K0 Z2 = some r → wr X 0 0 53 [v0, .ref (wf w x1), u2] [] (cm w h Z2)) → wr X 0 0 10 [v0, .ref (wf w x1), va_rf (x2.map (wE w))] [] (cm w h Z) := by
  intro fu
  induction fu with
  | zero =>
    intro x2 Z E b2 hK0
    rw [k_measureChildren_10] at E
    cases E
  | succ fu ih =>
    intro x2 Z E b2 hK0
    rw [k_measureChildren_10] at E
    refine r_aload_n (i := 2) C dX3_measureChildren_10 rfl rfl (by first | rfl | exact isR_rf _) ?_
    rcases x2 with _ | c2
    · have E := oe_n E
      refine r_ifnull (o := none) (tgt := 53) C dX3_measureChildren_11 (by decide) (fun _ => ?_) (fun _ q => nomatch q)
      exact hK0 _ _ E
    · have E := oe_s E
      have lc2 : c2 < wn w := b2 _ rfl
      refine r_ifnull (o := some (wE w c2)) (tgt := 53) C dX3_measureChildren_11 (by decide) (fun q => nomatch q) (fun _ _ => ?_)
      refine r_aload_n (i := 2) C dX3_measureChildren_14 rfl rfl (by first | rfl | exact isR_rf _) ?_
      refine rz_fresh C f_X3_36 dX3_measureChildren_15 rfl rfl hZ lc2 ?_
      refine r_aload_n (i := 1) C dX3_measureChildren_18 rfl rfl (by first | rfl | exact isR_rf _) ?_
      refine rz_lI C 29 f_X3_19 dX3_measureChildren_19 rfl rfl (by decide) (by decide) hZ h1 ?_
      have J5 : ∀ (u : Unit), wr X 0 0 42 [v0, .ref (wf w x1), .ref (wE w c2)] [.int (if (Z x1 29) = (0 : Int32) then (0 : Int32) else if (Z c2 5) = (3 : Int32) then (0 : Int32) else (1 : Int32)), .ref (wf w c2)] (cm w h Z) := by
        intro u
        refine r_callVn C v_X3_15 (z_lkBegin _ _ hZ lc2 (by first | exact Or.inl rfl | exact Or.inr rfl | assumption | (repeat' split) <;> first | exact Or.inl rfl | exact Or.inr rfl | assumption)) dX3_measureChildren_42 (hZ.1 _ lc2).2.2.1 (ci := 4) (by decide) rfl rfl (As := [_]) rfl rfl rfl (by first | exact Nat.le_refl _ | exact Nat.le_of_ble_eq_true rfl | omega) (Nat.le_of_ble_eq_true rfl) (by first | exact Nat.le_refl _ | exact Nat.le_of_ble_eq_true rfl | omega) (by first | exact Nat.le_refl _ | exact Nat.le_of_ble_eq_true rfl | omega) ?_
        refine bnd_elim (P := fun (Z : MM) => wr X 0 0 45 [v0, .ref (wf w x1), .ref (wE w c2)] [] (cm w h Z)) E (fun Z6 E => ?_)
        refine r_aload_n (i := 2) C dX3_measureChildren_45 rfl rfl (by first | rfl | exact isR_rf _) ?_
        refine rz_link C 199 f_X3_46 dX3_measureChildren_46 rfl rfl (by decide) (by decide) hZ lc2 ?_
        refine bnd_elim (P := fun (z : Option Nat) => (∀ c, z = some c → c < wn w) → wr X 0 0 49 [v0, .ref (wf w x1), .ref (wE w c2)] [va_rf (z.map (wE w))] (cm w h Z6)) E (fun p7 E bp7 => ?_) (zl_lt hZ lc2 (by decide) (by decide))
        refine r_astore_n (i := 2) C dX3_measureChildren_49 rfl (Nat.le_of_ble_eq_true rfl) (by first | rfl | exact isR_rf _) ?_
        refine r_goto (tgt := 10) C dX3_measureChildren_50 (by decide) ?_
        exact ih _ _ E bp7 hK0
      refine r_if_eq (tgt := 41) C dX3_measureChildren_22 (by decide) (fun c_22_k3 => ?_) (fun c_22_k3 => ?_)
      · refine r_iconst (v := 0) C dX3_measureChildren_41 (by decide) ?_
        first | exact (J5  ()) | (simp only [if_pos c_22_k3] at J5; exact (J5  ()))
      · refine r_aload_n (i := 2) C dX3_measureChildren_25 rfl rfl (by first | rfl | exact isR_rf _) ?_
        refine rz_fresh C f_X3_36 dX3_measureChildren_26 rfl rfl hZ lc2 ?_
        refine r_iconst (v := 5) C dX3_measureChildren_29 (by decide) ?_
        refine r_callVs C v_X3_9 (z_lkV _ _ 5 hZ lc2 (by decide) rfl) dX3_measureChildren_30 (hZ.1 _ lc2).2.2.1 (ci := 4) (by decide) rfl rfl (As := [_]) rfl rfl rfl (by first | exact Nat.le_refl _ | exact Nat.le_of_ble_eq_true rfl | omega) (Nat.le_of_ble_eq_true rfl) (by first | exact Nat.le_refl _ | exact Nat.le_of_ble_eq_true rfl | omega) (by first | exact Nat.le_refl _ | exact Nat.le_of_ble_eq_true rfl | omega) ?_
        refine r_iconst (v := 3) C dX3_measureChildren_33 (by decide) ?_
        refine r_ic_eq (tgt := 41) C dX3_measureChildren_34 (by decide) (fun c_34_k4 => ?_) (fun c_34_k4 => ?_)
        · refine r_iconst (v := 0) C dX3_measureChildren_41 (by decide) ?_
          first | exact (J5  ()) | (simp only [if_neg c_22_k3, if_pos c_34_k4] at J5; exact (J5  ()))
        · refine r_iconst (v := 1) C dX3_measureChildren_37 (by decide) ?_
          refine r_goto (tgt := 42) C dX3_measureChildren_38 (by decide) ?_
          first | exact (J5  ()) | (simp only [if_neg c_22_k3, if_neg c_34_k4] at J5; exact (J5  ()))
def k_measureChildren (w : WZ) (Z : MM) (a0 : Nat) : Option (MM) := bnd (wl w 200 a0) fun p1 => (k_measureChildren_10 (fun Z9 => if (Z9 a0 29) = (0 : Int32) then (some Z9) else (bnd (Z9 a0 5) fun p11 => (if p11 = 1 then (bd (k_measureRow w Z9 a0) fun Z12 => (some Z12)) else if p11 = 2 then (bd (k_measureGrid w Z9 a0) fun Z14 => (some Z14)) else (bd (k_measureBlock w Z9 a0) fun Z16 => (some Z16))))) w a0 1000 p1 Z)
theorem zk_measureChildren (l : Launch) (G : Gl) {w : WZ} {h : Hp} (hZ : ZW w h) {Z : MM} {a0 : Nat} (h0 : a0 < wn w) {r : MM} (E : k_measureChildren w Z a0 = some r) : MRw l G yX3_measureChildren (.code yX3_measureChildren cX3_measureChildren 3 none) 4 0 0 [.ref (wE w a0)] (cm w h Z) (.inl (none, cm w h r)) := by
  refine mr_of (by decide +kernel) (Nat.le_of_ble_eq_true rfl) (ct1 rfl) (fun X hG hl C E0 => ?_)
  subst hG hl
  rw [k_measureChildren] at E
  refine r_aload_n (i := 0) C dX3_measureChildren_0 rfl rfl (by first | rfl | exact isR_rf _) ?_
  refine rz_fresh C f_X3_36 dX3_measureChildren_1 rfl rfl hZ h0 ?_
  refine r_astore_n (i := 1) C dX3_measureChildren_4 rfl (Nat.le_of_ble_eq_true rfl) (by first | rfl | exact isR_rf _) ?_
  refine r_aload_n (i := 0) C dX3_measureChildren_5 rfl rfl (by first | rfl | exact isR_rf _) ?_
  refine rz_link C 200 f_X3_42 dX3_measureChildren_6 rfl rfl (by decide) (by decide) hZ h0 ?_
  refine bnd_elim (P := fun (z : Option Nat) => (∀ c, z = some c → c < wn w) → wr X 0 0 9 [.ref (wE w a0), .ref (wf w a0), (.long 0)] [va_rf (z.map (wE w))] (cm w h Z)) E (fun p1 E bp1 => ?_) (zl_lt hZ h0 (by decide) (by decide))
  refine r_astore_n (i := 2) C dX3_measureChildren_9 rfl (Nat.le_of_ble_eq_true rfl) (by first | rfl | exact isR_rf _) ?_
  refine zk_measureChildren_10 C hZ h0 E0 _ _ _ E bp1 (fun Z9 w8 E => ?_)
  refine r_aload_n (i := 1) C dX3_measureChildren_53 rfl rfl (by first | rfl | exact isR_rf _) ?_
  refine rz_lI C 29 f_X3_19 dX3_measureChildren_54 rfl rfl (by decide) (by decide) hZ h0 ?_
  refine r_if_eq (tgt := 110) C dX3_measureChildren_57 (by decide) (fun c_57 => ?_) (fun c_57 => ?_)
  · have E := ite_t E c_57
    obtain rfl := Option.some.inj E
    exact r_vret C E0 dX3_measureChildren_110 rfl (Nat.le_refl _) (Nat.le_refl _)
  · have E := ite_f E c_57
    refine r_aload_n (i := 1) C dX3_measureChildren_60 rfl rfl (by first | rfl | exact isR_rf _) ?_
    refine r_iconst (v := 5) C dX3_measureChildren_61 (by decide) ?_
    refine r_callVs C v_X3_9 (z_lkV _ _ 5 hZ h0 (by decide) rfl) dX3_measureChildren_62 (hZ.1 _ h0).2.2.1 (ci := 4) (by decide) rfl rfl (As := [_]) rfl rfl rfl (by first | exact Nat.le_refl _ | exact Nat.le_of_ble_eq_true rfl | omega) (Nat.le_of_ble_eq_true rfl) (by first | exact Nat.le_refl _ | exact Nat.le_of_ble_eq_true rfl | omega) (by first | exact Nat.le_refl _ | exact Nat.le_of_ble_eq_true rfl | omega) ?_
    refine bnd_elim (P := fun (z : Int32) => wr X 0 0 65 [.ref (wE w a0), .ref (wf w a0), w8] [.int z] (cm w h Z9)) E (fun p11 E => ?_)
    by_cases s13 : p11 = 1
    · have E := ite_t E s13
      refine r_lsw (off := 27) (tgt := 92) C dX3_measureChildren_65 (by decide) (by rw [s13]; decide) (by decide) ?_
      refine r_aload_n (i := 0) C dX3_measureChildren_92 rfl rfl (by first | rfl | exact isR_rf _) ?_
      obtain ⟨Z12, q, E⟩ := bd_elim E
      refine r_callSn C s_X3_49 (zk_measureRow _ _ hZ h0 q) dX3_measureChildren_93 (As := [_]) rfl rfl rfl (by first | exact Nat.le_refl _ | exact Nat.le_of_ble_eq_true rfl | omega) (Nat.le_of_ble_eq_true rfl) (by first | exact Nat.le_refl _ | exact Nat.le_of_ble_eq_true rfl | omega) (by first | exact Nat.le_refl _ | exact Nat.le_of_ble_eq_true rfl | omega) ?_
      refine r_goto (tgt := 110) C dX3_measureChildren_96 (by decide) ?_
      obtain rfl := Option.some.inj E
      exact r_vret C E0 dX3_measureChildren_110 rfl (Nat.le_refl _) (Nat.le_refl _)
    have E := ite_f E s13
    by_cases s15 : p11 = 2
    · have E := ite_t E s15
      refine r_lsw (off := 34) (tgt := 99) C dX3_measureChildren_65 (by decide) (by rw [s15]; decide) (by decide) ?_
      refine r_aload_n (i := 0) C dX3_measureChildren_99 rfl rfl (by first | rfl | exact isR_rf _) ?_
      obtain ⟨Z14, q, E⟩ := bd_elim E
      refine r_callSn C s_X3_53 (zk_measureGrid _ _ hZ h0 q) dX3_measureChildren_100 (As := [_]) rfl rfl rfl (by first | exact Nat.le_refl _ | exact Nat.le_of_ble_eq_true rfl | omega) (Nat.le_of_ble_eq_true rfl) (by first | exact Nat.le_refl _ | exact Nat.le_of_ble_eq_true rfl | omega) (by first | exact Nat.le_refl _ | exact Nat.le_of_ble_eq_true rfl | omega) ?_
      refine r_goto (tgt := 110) C dX3_measureChildren_103 (by decide) ?_
      obtain rfl := Option.some.inj E
      exact r_vret C E0 dX3_measureChildren_110 rfl (Nat.le_refl _) (Nat.le_refl _)
    have E := ite_f E s15
    refine r_lsw (off := 41) (tgt := 106) C dX3_measureChildren_65 (by decide) (zsw2 s13 s15) (by decide) ?_
    refine r_aload_n (i := 0) C dX3_measureChildren_106 rfl rfl (by first | rfl | exact isR_rf _) ?_
    obtain ⟨Z16, q, E⟩ := bd_elim E
    refine r_callSn C s_X3_56 (zk_measureBlock _ _ hZ h0 q) dX3_measureChildren_107 (As := [_]) rfl rfl rfl (by first | exact Nat.le_refl _ | exact Nat.le_of_ble_eq_true rfl | omega) (Nat.le_of_ble_eq_true rfl) (by first | exact Nat.le_refl _ | exact Nat.le_of_ble_eq_true rfl | omega) (by first | exact Nat.le_refl _ | exact Nat.le_of_ble_eq_true rfl | omega) ?_
    obtain rfl := Option.some.inj E
    exact r_vret C E0 dX3_measureChildren_110 rfl (Nat.le_refl _) (Nat.le_refl _)

