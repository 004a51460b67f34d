/-! ===== the class's Layout over the table (by genz.py) ===== -/
def oe {α : Type} (o : Option Nat) (A : α) (f : Nat → α) : α := match o with
  | none => A
  | some c => f c
theorem oe_n {α : Type} {A r : α} {f : Nat → α} (E : oe none A f = r) : A = r := E
theorem oe_s {α : Type} {A r : α} {f : Nat → α} {c : Nat} (E : oe (some c) A f = r) : f c = r := E
theorem zl_lt {w : WZ} {h : Hp} (hZ : ZW w h) {e f : Nat} (he : e < wn w) (h1 : 197 ≤ f) (h2 : f ≤ 201) : ∀ c, wl w f e = some c → c < wn w := (hZ.2.2.2.2.2.1 f e he h1 h2).2
def zMin (x z : Int32) : Int32 := if z < x then z else x
theorem z_lkV (l : Launch) (G : Gl) {w : WZ} {h : Hp} {Z : MM} {e : Nat} {k : Int32} (n : Nat) (hZ : ZW w h) (he : e < wn w) (hn : n < 14) (hk : k = nI n) : MRw l G yX4_valueOf (.code yX4_valueOf cX4_valueOf 2 (Option.some Jvm.ClassFile.FieldType.int)) 0 0 0 [.ref (wf w e), .int k] (cm w h Z) (.inl (some (.int (Z e n)), cm w h Z)) := by
  have := c_valueOf l G (h := cm w h Z) (p := n) (k := wf w e) (v := wv w e) (s := ws w e) (hZ.1 e he).2.2 hn
  rw [cm_v hZ he hn] at this
  rw [hk]
  exact this
theorem zsw2 {x : Int32} {a b : Int} {o1 o2 df : Int} (h1 : ¬ x = Int32.ofInt a) (h2 : ¬ x = Int32.ofInt b) : Op.lookupswitch.offset #[(a, o1), (b, o2)].toList df x.toInt = df := by
  have e1 : ¬ a = x.toInt := fun q => h1 (by rw [q, Int32.ofInt_toInt])
  have e2 : ¬ b = x.toInt := fun q => h2 (by rw [q, Int32.ofInt_toInt])
  show (if a = x.toInt then o1 else if b = x.toInt then o2 else df) = df
  rw [if_neg e1, if_neg e2]
def k_ownWidth (w : WZ) (Z : MM) (a0 : Nat) (a1 : Int32) : Int32 := zAtMost Z a0 (if (Z a0 0) = ((-2) : Int32) then a1 else Z a0 0)
theorem zk_ownWidth (l : Launch) (G : Gl) {w : WZ} {h : Hp} (hZ : ZW w h) {Z : MM} {a0 : Nat} {a1 : Int32} (h0 : a0 < wn w) : MRw l G yX3_ownWidth (.code yX3_ownWidth cX3_ownWidth 3 (Option.some Jvm.ClassFile.FieldType.int)) 1 0 0 [.ref (wf w a0), .int a1] (cm w h Z) (.inl (some (.int (k_ownWidth w Z a0 a1)), (cm w h Z))) := by
  refine mr_of (by decide +kernel) (Nat.le_of_ble_eq_true rfl) (ct2 rfl rfl) (fun X hG hl C E0 => ?_)
  subst hG hl
  rw [k_ownWidth] at E0
  refine r_aload_n (i := 0) C dX3_ownWidth_0 rfl rfl (by first | rfl | exact isR_rf _) ?_
  refine r_iconst (v := 0) C dX3_ownWidth_1 (by decide) ?_
  refine r_callVs C v_X3_9 (z_lkV _ _ 0 hZ h0 (by decide) rfl) dX3_ownWidth_2 (hZ.1 _ h0).2.2.1 (ci := 4) (by decide) rfl rfl (As := [_]) rfl rfl rfl (by first | exact Nat.le_refl _ | exact Nat.le_of_ble_eq_true rfl | omega) (Nat.le_of_ble_eq_true rfl) (by first | exact Nat.le_refl _ | exact Nat.le_of_ble_eq_true rfl | omega) (by first | exact Nat.le_refl _ | exact Nat.le_of_ble_eq_true rfl | omega) ?_
  refine r_istore_n (i := 2) C dX3_ownWidth_5 rfl (Nat.le_of_ble_eq_true rfl) ?_
  refine r_aload_n (i := 0) C dX3_ownWidth_6 rfl rfl (by first | rfl | exact isR_rf _) ?_
  refine r_iload_n (i := 2) C dX3_ownWidth_7 rfl rfl ?_
  refine r_bipush (v := (-2)) C dX3_ownWidth_8 (by decide) ?_
  have J2 : ∀ (u : Unit), wr X 0 0 18 [.ref (wf w a0), .int a1, .int (Z a0 0)] [.int (if (Z a0 0) = ((-2) : Int32) then a1 else Z a0 0), .ref (wf w a0)] (cm w h Z) := by
    intro u
    refine r_callVs C v_X3_33 (z_lkAtMost _ _ hZ h0) dX3_ownWidth_18 (hZ.1 _ h0).2.2.1 (ci := 4) (by decide) rfl rfl (As := [_]) rfl rfl rfl (by first | exact Nat.le_refl _ | exact Nat.le_of_ble_eq_true rfl | omega) (Nat.le_of_ble_eq_true rfl) (by first | exact Nat.le_refl _ | exact Nat.le_of_ble_eq_true rfl | omega) (by first | exact Nat.le_refl _ | exact Nat.le_of_ble_eq_true rfl | omega) ?_
    exact r_iret C E0 dX3_ownWidth_21 rfl rfl (Nat.le_refl _) (Nat.le_refl _)
  refine r_ic_ne (tgt := 17) C dX3_ownWidth_10 (by decide) (fun c_10_k1 => ?_) (fun c_10_k1 => ?_)
  · refine r_iload_n (i := 2) C dX3_ownWidth_17 rfl rfl ?_
    first | exact (J2  ()) | (simp only [if_neg c_10_k1] at J2; exact (J2  ()))
  · refine r_iload_n (i := 1) C dX3_ownWidth_13 rfl rfl ?_
    refine r_goto (tgt := 18) C dX3_ownWidth_14 (by decide) ?_
    first | exact (J2  ()) | (simp only [if_pos c_10_k1] at J2; exact (J2  ()))

def k_measureRoot (w : WZ) (Z : MM) (a0 : Nat) (a1 : Int32) : Option (MM) := bnd (zBegin Z a0 (if (Z a0 5) = (3 : Int32) then (0 : Int32) else (1 : Int32))) fun Z3 => (if (Z3 a0 29) = (0 : Int32) then (some Z3) else (bnd (u2 Z3 a0 32 (k_ownWidth w Z3 a0 a1)) fun Z5 => (some Z5)))
theorem zk_measureRoot (l : Launch) (G : Gl) {w : WZ} {h : Hp} (hZ : ZW w h) {Z : MM} {a0 : Nat} {a1 : Int32} (h0 : a0 < wn w) {r : MM} (E : k_measureRoot w Z a0 a1 = some r) : MRw l G yX3_measureRoot (.code yX3_measureRoot cX3_measureRoot 2 none) 2 0 0 [.ref (wf w a0), .int a1] (cm w h Z) (.inl (none, cm w h r)) := by
  refine mr_of (by decide +kernel) (Nat.le_of_ble_eq_true rfl) (ct2 rfl rfl) (fun X hG hl C E0 => ?_)
  subst hG hl
  rw [k_measureRoot] at E
  refine r_aload_n (i := 0) C dX3_measureRoot_0 rfl rfl (by first | rfl | exact isR_rf _) ?_
  refine r_aload_n (i := 0) C dX3_measureRoot_1 rfl rfl (by first | rfl | exact isR_rf _) ?_
  refine r_iconst (v := 5) C dX3_measureRoot_2 (by decide) ?_
  refine r_callVs C v_X3_9 (z_lkV _ _ 5 hZ h0 (by decide) rfl) dX3_measureRoot_3 (hZ.1 _ h0).2.2.1 (ci := 4) (by decide) rfl rfl (As := [_]) rfl rfl rfl (by first | exact Nat.le_refl _ | exact Nat.le_of_ble_eq_true rfl | omega) (Nat.le_of_ble_eq_true rfl) (by first | exact Nat.le_refl _ | exact Nat.le_of_ble_eq_true rfl | omega) (by first | exact Nat.le_refl _ | exact Nat.le_of_ble_eq_true rfl | omega) ?_
  refine r_iconst (v := 3) C dX3_measureRoot_6 (by decide) ?_
  have J2 : ∀ (u : Unit), wr X 0 0 15 [.ref (wf w a0), .int a1] [.int (if (Z a0 5) = (3 : Int32) then (0 : Int32) else (1 : Int32)), .ref (wf w a0)] (cm w h Z) := by
    intro u
    refine r_callVn C v_X3_15 (z_lkBegin _ _ hZ h0 (by first | exact Or.inl rfl | exact Or.inr rfl | assumption | (repeat' split) <;> first | exact Or.inl rfl | exact Or.inr rfl | assumption)) dX3_measureRoot_15 (hZ.1 _ h0).2.2.1 (ci := 4) (by decide) rfl rfl (As := [_]) rfl rfl rfl (by first | exact Nat.le_refl _ | exact Nat.le_of_ble_eq_true rfl | omega) (Nat.le_of_ble_eq_true rfl) (by first | exact Nat.le_refl _ | exact Nat.le_of_ble_eq_true rfl | omega) (by first | exact Nat.le_refl _ | exact Nat.le_of_ble_eq_true rfl | omega) ?_
    refine bnd_elim (P := fun (Z : MM) => wr X 0 0 18 [.ref (wf w a0), .int a1] [] (cm w h Z)) E (fun Z3 E => ?_)
    refine r_aload_n (i := 0) C dX3_measureRoot_18 rfl rfl (by first | rfl | exact isR_rf _) ?_
    refine rz_lI C 29 f_X3_19 dX3_measureRoot_19 rfl rfl (by decide) (by decide) hZ h0 ?_
    refine r_if_eq (tgt := 34) C dX3_measureRoot_22 (by decide) (fun c_22 => ?_) (fun c_22 => ?_)
    · have E := ite_t E c_22
      obtain rfl := Option.some.inj E
      exact r_vret C E0 dX3_measureRoot_34 rfl (Nat.le_refl _) (Nat.le_refl _)
    · have E := ite_f E c_22
      refine r_aload_n (i := 0) C dX3_measureRoot_25 rfl rfl (by first | rfl | exact isR_rf _) ?_
      refine r_aload_n (i := 0) C dX3_measureRoot_26 rfl rfl (by first | rfl | exact isR_rf _) ?_
      refine r_iload_n (i := 1) C dX3_measureRoot_27 rfl rfl ?_
      refine r_callSs C s_X3_23 (zk_ownWidth _ _ hZ h0) dX3_measureRoot_28 (As := [_, _]) rfl rfl rfl (by first | exact Nat.le_refl _ | exact Nat.le_of_ble_eq_true rfl | omega) (Nat.le_of_ble_eq_true rfl) (by first | exact Nat.le_refl _ | exact Nat.le_of_ble_eq_true rfl | omega) (by first | exact Nat.le_refl _ | exact Nat.le_of_ble_eq_true rfl | omega) ?_
      refine rz_lput C 32 f_X3_29 dX3_measureRoot_31 rfl rfl rfl rfl (by decide) (by decide) hZ h0 ?_
      refine bnd_elim (P := fun (Z : MM) => wr X 0 0 34 [.ref (wf w a0), .int a1] [] (cm w h Z)) E (fun Z5 E => ?_)
      obtain rfl := Option.some.inj E
      exact r_vret C E0 dX3_measureRoot_34 rfl (Nat.le_refl _) (Nat.le_refl _)
  refine r_ic_eq (tgt := 14) C dX3_measureRoot_7 (by decide) (fun c_7_k1 => ?_) (fun c_7_k1 => ?_)
  · refine r_iconst (v := 0) C dX3_measureRoot_14 (by decide) ?_
    first | exact (J2  ()) | (simp only [if_pos c_7_k1] at J2; exact (J2  ()))
  · refine r_iconst (v := 1) C dX3_measureRoot_10 (by decide) ?_
    refine r_goto (tgt := 15) C dX3_measureRoot_11 (by decide) ?_
    first | exact (J2  ()) | (simp only [if_neg c_7_k1] at J2; exact (J2  ()))

def k_measureBlock_5 (w : WZ) (x0 : Nat) : Nat → Option Nat → MM → Option (MM)
  | 0, _, _ => none
  | fu + 1, x1, Z => oe x1 (some Z) (fun c2 => if (Z c2 29) = (0 : Int32) then (bnd (wl w 199 c2) fun p4 => (k_measureBlock_5 w x0 fu p4 Z)) else (bnd (u2 Z c2 32 (k_ownWidth w Z c2 (Z x0 32))) fun Z5 => (bnd (u2 Z5 c2 30 (Z5 x0 30)) fun Z6 => (bnd (wl w 199 c2) fun p7 => (k_measureBlock_5 w x0 fu p7 Z6)))))
theorem zk_measureBlock_5 {X : Ctx} {w : WZ} {h : Hp} (C : Cx X yX3_measureBlock cX3_measureBlock 3 none [] 2 0 0) (hZ : ZW w h) {x0 : Nat} (h0 : x0 < wn w) {r : MM} (E0 : Ex X 0 0 (.inl (none, cm w h r))) : ∀ (fu : Nat) (x1 : Option Nat) (Z : MM) (u2 : Value) , k_measureBlock_5 w x0 fu x1 Z = some r → (∀ c, x1 = some c → c < wn w) → wr X 0 0 5 [.ref (wE w x0), va_rf (x1.map (wE w)), u2] [] (cm w h Z) := by
  intro fu
  induction fu with
  | zero =>
    intro x1 Z u2 E b1 
    rw [k_measureBlock_5] at E
    cases E
  | succ fu ih =>
    intro x1 Z u2 E b1 
    rw [k_measureBlock_5] at E
    refine r_aload_n (i := 1) C dX3_measureBlock_5 rfl rfl (by first | rfl | exact isR_rf _) ?_
    rcases x1 with _ | c2
    · have E := oe_n E
      refine r_ifnull (o := none) (tgt := 55) C dX3_measureBlock_6 (by decide) (fun _ => ?_) (fun _ q => nomatch q)
      obtain rfl := Option.some.inj E
      exact r_vret C E0 dX3_measureBlock_55 rfl (Nat.le_refl _) (Nat.le_refl _)
    · have E := oe_s E
      have lc2 : c2 < wn w := b1 _ rfl
      refine r_ifnull (o := some (wE w c2)) (tgt := 55) C dX3_measureBlock_6 (by decide) (fun q => nomatch q) (fun _ _ => ?_)
      refine r_aload_n (i := 1) C dX3_measureBlock_9 rfl rfl (by first | rfl | exact isR_rf _) ?_
      refine rz_fresh C f_X3_36 dX3_measureBlock_10 rfl rfl hZ lc2 ?_
      refine r_astore_n (i := 2) C dX3_measureBlock_13 rfl (Nat.le_of_ble_eq_true rfl) (by first | rfl | exact isR_rf _) ?_
      refine r_aload_n (i := 2) C dX3_measureBlock_14 rfl rfl (by first | rfl | exact isR_rf _) ?_
      refine rz_lI C 29 f_X3_19 dX3_measureBlock_15 rfl rfl (by decide) (by decide) hZ lc2 ?_
      refine r_if_eq (tgt := 47) C dX3_measureBlock_18 (by decide) (fun c_18 => ?_) (fun c_18 => ?_)
      · have E := ite_t E c_18
        refine r_aload_n (i := 1) C dX3_measureBlock_47 rfl rfl (by first | rfl | exact isR_rf _) ?_
        refine rz_link C 199 f_X3_46 dX3_measureBlock_48 rfl rfl (by decide) (by decide) hZ lc2 ?_
        refine bnd_elim (P := fun (z : Option Nat) => (∀ c, z = some c → c < wn w) → wr X 0 0 51 [.ref (wE w x0), .ref (wE w c2), .ref (wf w c2)] [va_rf (z.map (wE w))] (cm w h Z)) E (fun p4 E bp4 => ?_) (zl_lt hZ lc2 (by decide) (by decide))
        refine r_astore_n (i := 1) C dX3_measureBlock_51 rfl (Nat.le_of_ble_eq_true rfl) (by first | rfl | exact isR_rf _) ?_
        refine r_goto (tgt := 5) C dX3_measureBlock_52 (by decide) ?_
        exact ih _ _ _ E bp4
      · have E := ite_f E c_18
        refine r_aload_n (i := 2) C dX3_measureBlock_21 rfl rfl (by first | rfl | exact isR_rf _) ?_
        refine r_aload_n (i := 2) C dX3_measureBlock_22 rfl rfl (by first | rfl | exact isR_rf _) ?_
        refine r_aload_n (i := 0) C dX3_measureBlock_23 rfl rfl (by first | rfl | exact isR_rf _) ?_
        refine rz_fresh C f_X3_36 dX3_measureBlock_24 rfl rfl hZ h0 ?_
        refine rz_lI C 32 f_X3_29 dX3_measureBlock_27 rfl rfl (by decide) (by decide) hZ h0 ?_
        refine r_callSs C s_X3_23 (zk_ownWidth _ _ hZ lc2) dX3_measureBlock_30 (As := [_, _]) rfl rfl rfl (by first | exact Nat.le_refl _ | exact Nat.le_of_ble_eq_true rfl | omega) (Nat.le_of_ble_eq_true rfl) (by first | exact Nat.le_refl _ | exact Nat.le_of_ble_eq_true rfl | omega) (by first | exact Nat.le_refl _ | exact Nat.le_of_ble_eq_true rfl | omega) ?_
        refine rz_lput C 32 f_X3_29 dX3_measureBlock_33 rfl rfl rfl rfl (by decide) (by decide) hZ lc2 ?_
        refine bnd_elim (P := fun (Z : MM) => wr X 0 0 36 [.ref (wE w x0), .ref (wE w c2), .ref (wf w c2)] [] (cm w h Z)) E (fun Z5 E => ?_)
        refine r_aload_n (i := 2) C dX3_measureBlock_36 rfl rfl (by first | rfl | exact isR_rf _) ?_
        refine r_aload_n (i := 0) C dX3_measureBlock_37 rfl rfl (by first | rfl | exact isR_rf _) ?_
        refine rz_fresh C f_X3_36 dX3_measureBlock_38 rfl rfl hZ h0 ?_
        refine rz_lI C 30 f_X3_59 dX3_measureBlock_41 rfl rfl (by decide) (by decide) hZ h0 ?_
        refine rz_lput C 30 f_X3_59 dX3_measureBlock_44 rfl rfl rfl rfl (by decide) (by decide) hZ lc2 ?_
        refine bnd_elim (P := fun (Z : MM) => wr X 0 0 47 [.ref (wE w x0), .ref (wE w c2), .ref (wf w c2)] [] (cm w h Z)) E (fun Z6 E => ?_)
        refine r_aload_n (i := 1) C dX3_measureBlock_47 rfl rfl (by first | rfl | exact isR_rf _) ?_
        refine rz_link C 199 f_X3_46 dX3_measureBlock_48 rfl rfl (by decide) (by decide) hZ lc2 ?_
        refine bnd_elim (P := fun (z : Option Nat) => (∀ c, z = some c → c < wn w) → wr X 0 0 51 [.ref (wE w x0), .ref (wE w c2), .ref (wf w c2)] [va_rf (z.map (wE w))] (cm w h Z6)) E (fun p7 E bp7 => ?_) (zl_lt hZ lc2 (by decide) (by decide))
        refine r_astore_n (i := 1) C dX3_measureBlock_51 rfl (Nat.le_of_ble_eq_true rfl) (by first | rfl | exact isR_rf _) ?_
        refine r_goto (tgt := 5) C dX3_measureBlock_52 (by decide) ?_
        exact ih _ _ _ E bp7
def k_measureBlock (w : WZ) (Z : MM) (a0 : Nat) : Option (MM) := bnd (wl w 200 a0) fun p1 => (k_measureBlock_5 w a0 1000 p1 Z)
theorem zk_measureBlock (l : Launch) (G : Gl) {w : WZ} {h : Hp} (hZ : ZW w h) {Z : MM} {a0 : Nat} (h0 : a0 < wn w) {r : MM} (E : k_measureBlock w Z a0 = some r) : MRw l G yX3_measureBlock (.code yX3_measureBlock cX3_measureBlock 3 none) 2 0 0 [.ref (wE w a0)] (cm w h Z) (.inl (none, cm w h r)) := by
  refine mr_of (by decide +kernel) (Nat.le_of_ble_eq_true rfl) (ct1 rfl) (fun X hG hl C E0 => ?_)
  subst hG hl
  rw [k_measureBlock] at E
  refine r_aload_n (i := 0) C dX3_measureBlock_0 rfl rfl (by first | rfl | exact isR_rf _) ?_
  refine rz_link C 200 f_X3_42 dX3_measureBlock_1 rfl rfl (by decide) (by decide) hZ h0 ?_
  refine bnd_elim (P := fun (z : Option Nat) => (∀ c, z = some c → c < wn w) → wr X 0 0 4 [.ref (wE w a0), (.long 0), (.long 0)] [va_rf (z.map (wE w))] (cm w h Z)) E (fun p1 E bp1 => ?_) (zl_lt hZ h0 (by decide) (by decide))
  refine r_astore_n (i := 1) C dX3_measureBlock_4 rfl (Nat.le_of_ble_eq_true rfl) (by first | rfl | exact isR_rf _) ?_
  refine zk_measureBlock_5 C hZ h0 E0 _ _ _ _ E bp1

def k_measureGrid_45 (w : WZ) (x0 : Nat) (x1 : Int32) (x2 : Int32) (x3 : Int32) : Nat → Int32 → Option Nat → MM → Option (MM)
  | 0, _, _, _ => none
  | fu + 1, x4, x5, Z => oe x5 (some Z) (fun c7 => if (Z c7 29) = (0 : Int32) then (bnd (wl w 199 c7) fun p11 => (k_measureGrid_45 w x0 x1 x2 x3 fu x4 p11 Z)) else (bnd (if x3 ≤ x4 then x2 else x2 + (1 : Int32)) fun p14 => bnd (u2 Z c7 32 p14) fun Z15 => (bnd (u2 Z15 c7 30 (((Z15 x0 30) + (x4 * x2)) + (zMin x4 x3))) fun Z16 => (bnd (if x1 ≤ (x4 + (1 : Int32)) then (0 : Int32) else x4 + (1 : Int32)) fun p19 => (bnd (wl w 199 c7) fun p20 => (k_measureGrid_45 w x0 x1 x2 x3 fu p19 p20 Z16))))))
theorem zk_measureGrid_45 {X : Ctx} {w : WZ} {h : Hp} (C : Cx X yX3_measureGrid cX3_measureGrid 7 none [] 1 0 0) (hZ : ZW w h) {x0 : Nat} {x1 : Int32} {x2 : Int32} {x3 : Int32} (h0 : x0 < wn w) {r : MM} (E0 : Ex X 0 0 (.inl (none, cm w h r))) : ∀ (fu : Nat) (x4 : Int32) (x5 : Option Nat) (Z : MM) (u6 : Value) , k_measureGrid_45 w x0 x1 x2 x3 fu x4 x5 Z = some r → (∀ c, x5 = some c → c < wn w) → wr X 0 0 45 [.ref (wE w x0), .int x1, .int x2, .int x3, .int x4, va_rf (x5.map (wE w)), u6] [] (cm w h Z) := by
  intro fu
  induction fu with
  | zero =>
    intro x4 x5 Z u6 E b5 
    rw [k_measureGrid_45] at E
    cases E
  | succ fu ih =>
    intro x4 x5 Z u6 E b5 
    rw [k_measureGrid_45] at E
    refine r_aload (i := 5) C dX3_measureGrid_45 rfl (by first | rfl | exact isR_rf _) ?_
    rcases x5 with _ | c7
    · have E := oe_n E
      refine r_ifnull (o := none) (tgt := 135) C dX3_measureGrid_47 (by decide) (fun _ => ?_) (fun _ q => nomatch q)
      obtain rfl := Option.some.inj E
      exact r_vret C E0 dX3_measureGrid_135 rfl (Nat.le_refl _) (Nat.le_refl _)
    · have E := oe_s E
      have lc7 : c7 < wn w := b5 _ rfl
      refine r_ifnull (o := some (wE w c7)) (tgt := 135) C dX3_measureGrid_47 (by decide) (fun q => nomatch q) (fun _ _ => ?_)
      refine r_aload (i := 5) C dX3_measureGrid_50 rfl (by first | rfl | exact isR_rf _) ?_
      refine rz_fresh C f_X3_36 dX3_measureGrid_52 rfl rfl hZ lc7 ?_
      refine r_astore (i := 6) C dX3_measureGrid_55 (Nat.le_of_ble_eq_true rfl) (by first | rfl | exact isR_rf _) ?_
      refine r_aload (i := 6) C dX3_measureGrid_57 rfl (by first | rfl | exact isR_rf _) ?_
      refine rz_lI C 29 f_X3_19 dX3_measureGrid_59 rfl rfl (by decide) (by decide) hZ lc7 ?_
      refine r_if_eq (tgt := 125) C dX3_measureGrid_62 (by decide) (fun c_62 => ?_) (fun c_62 => ?_)
      · have E := ite_t E c_62
        refine r_aload (i := 5) C dX3_measureGrid_125 rfl (by first | rfl | exact isR_rf _) ?_
        refine rz_link C 199 f_X3_46 dX3_measureGrid_127 rfl rfl (by decide) (by decide) hZ lc7 ?_
        refine bnd_elim (P := fun (z : Option Nat) => (∀ c, z = some c → c < wn w) → wr X 0 0 130 [.ref (wE w x0), .int x1, .int x2, .int x3, .int x4, .ref (wE w c7), .ref (wf w c7)] [va_rf (z.map (wE w))] (cm w h Z)) E (fun p11 E bp11 => ?_) (zl_lt hZ lc7 (by decide) (by decide))
        refine r_astore (i := 5) C dX3_measureGrid_130 (Nat.le_of_ble_eq_true rfl) (by first | rfl | exact isR_rf _) ?_
        refine r_goto (tgt := 45) C dX3_measureGrid_132 (by decide) ?_
        exact ih _ _ _ _ E bp11
      · have E := ite_f E c_62
        refine r_aload (i := 6) C dX3_measureGrid_65 rfl (by first | rfl | exact isR_rf _) ?_
        refine r_iload (i := 4) C dX3_measureGrid_67 rfl ?_
        refine r_iload_n (i := 3) C dX3_measureGrid_69 rfl rfl ?_
        have J13 : ∀ (u : Unit), wr X 0 0 80 [.ref (wE w x0), .int x1, .int x2, .int x3, .int x4, .ref (wE w c7), .ref (wf w c7)] [.int (if x3 ≤ x4 then x2 else x2 + (1 : Int32)), .ref (wf w c7)] (cm w h Z) := by
          intro u
          refine bnd_elim (P := fun (z : Int32) => wr X 0 0 80 [.ref (wE w x0), .int x1, .int x2, .int x3, .int x4, .ref (wE w c7), .ref (wf w c7)] [.int z, .ref (wf w c7)] (cm w h Z)) E (fun p14 E => ?_)
          refine rz_lput C 32 f_X3_29 dX3_measureGrid_80 rfl rfl rfl rfl (by decide) (by decide) hZ lc7 ?_
          refine bnd_elim (P := fun (Z : MM) => wr X 0 0 83 [.ref (wE w x0), .int x1, .int x2, .int x3, .int x4, .ref (wE w c7), .ref (wf w c7)] [] (cm w h Z)) E (fun Z15 E => ?_)
          refine r_aload (i := 6) C dX3_measureGrid_83 rfl (by first | rfl | exact isR_rf _) ?_
          refine r_aload_n (i := 0) C dX3_measureGrid_85 rfl rfl (by first | rfl | exact isR_rf _) ?_
          refine rz_fresh C f_X3_36 dX3_measureGrid_86 rfl rfl hZ h0 ?_
          refine rz_lI C 30 f_X3_59 dX3_measureGrid_89 rfl rfl (by decide) (by decide) hZ h0 ?_
          refine r_iload (i := 4) C dX3_measureGrid_92 rfl ?_
          refine r_iload_n (i := 2) C dX3_measureGrid_94 rfl rfl ?_
          refine r_imul C dX3_measureGrid_95 ?_
          refine r_iadd C dX3_measureGrid_96 ?_
          refine r_iload (i := 4) C dX3_measureGrid_97 rfl ?_
          refine r_iload_n (i := 3) C dX3_measureGrid_99 rfl rfl ?_
          refine r_mmin C dX3_measureGrid_100 (by first | exact Nat.le_refl _ | exact Nat.le_of_ble_eq_true rfl | omega) rfl (Nat.le_of_ble_eq_true rfl) l_X3_62 w_minS w_mathI w_minC (by first | exact Nat.le_refl _ | exact Nat.le_of_ble_eq_true rfl | omega) (by first | exact Nat.le_refl _ | exact Nat.le_of_ble_eq_true rfl | omega) ?_
          refine r_iadd C dX3_measureGrid_103 ?_
          refine rz_lput C 30 f_X3_59 dX3_measureGrid_104 rfl rfl rfl rfl (by decide) (by decide) hZ lc7 ?_
          refine bnd_elim (P := fun (Z : MM) => wr X 0 0 107 [.ref (wE w x0), .int x1, .int x2, .int x3, .int x4, .ref (wE w c7), .ref (wf w c7)] [] (cm w h Z)) E (fun Z16 E => ?_)
          refine r_iload (i := 4) C dX3_measureGrid_107 rfl ?_
          refine r_iconst (v := 1) C dX3_measureGrid_109 (by decide) ?_
          refine r_iadd C dX3_measureGrid_110 ?_
          refine r_iload_n (i := 1) C dX3_measureGrid_111 rfl rfl ?_
          have J18 : ∀ (u : Unit), wr X 0 0 123 [.ref (wE w x0), .int x1, .int x2, .int x3, .int x4, .ref (wE w c7), .ref (wf w c7)] [.int (if x1 ≤ (x4 + (1 : Int32)) then (0 : Int32) else x4 + (1 : Int32))] (cm w h Z16) := by
            intro u
            refine bnd_elim (P := fun (z : Int32) => wr X 0 0 123 [.ref (wE w x0), .int x1, .int x2, .int x3, .int x4, .ref (wE w c7), .ref (wf w c7)] [.int z] (cm w h Z16)) E (fun p19 E => ?_)
            refine r_istore (i := 4) C dX3_measureGrid_123 (Nat.le_of_ble_eq_true rfl) ?_
            refine r_aload (i := 5) C dX3_measureGrid_125 rfl (by first | rfl | exact isR_rf _) ?_
            refine rz_link C 199 f_X3_46 dX3_measureGrid_127 rfl rfl (by decide) (by decide) hZ lc7 ?_
            refine bnd_elim (P := fun (z : Option Nat) => (∀ c, z = some c → c < wn w) → wr X 0 0 130 [.ref (wE w x0), .int x1, .int x2, .int x3, .int p19, .ref (wE w c7), .ref (wf w c7)] [va_rf (z.map (wE w))] (cm w h Z16)) E (fun p20 E bp20 => ?_) (zl_lt hZ lc7 (by decide) (by decide))
            refine r_astore (i := 5) C dX3_measureGrid_130 (Nat.le_of_ble_eq_true rfl) (by first | rfl | exact isR_rf _) ?_
            refine r_goto (tgt := 45) C dX3_measureGrid_132 (by decide) ?_
            exact ih _ _ _ _ E bp20
          refine r_ic_ge (tgt := 122) C dX3_measureGrid_112 (by decide) (fun c_112_k17 => ?_) (fun c_112_k17 => ?_)
          · refine r_iconst (v := 0) C dX3_measureGrid_122 (by decide) ?_
            first | exact (J18  ()) | (simp only [if_pos c_112_k17] at J18; exact (J18  ()))
          · refine r_iload (i := 4) C dX3_measureGrid_115 rfl ?_
            refine r_iconst (v := 1) C dX3_measureGrid_117 (by decide) ?_
            refine r_iadd C dX3_measureGrid_118 ?_
            refine r_goto (tgt := 123) C dX3_measureGrid_119 (by decide) ?_
            first | exact (J18  ()) | (simp only [if_neg c_112_k17] at J18; exact (J18  ()))
        refine r_ic_ge (tgt := 79) C dX3_measureGrid_70 (by decide) (fun c_70_k12 => ?_) (fun c_70_k12 => ?_)
        · refine r_iload_n (i := 2) C dX3_measureGrid_79 rfl rfl ?_
          first | exact (J13  ()) | (simp only [if_pos c_70_k12] at J13; exact (J13  ()))
        · refine r_iload_n (i := 2) C dX3_measureGrid_73 rfl rfl ?_
          refine r_iconst (v := 1) C dX3_measureGrid_74 (by decide) ?_
          refine r_iadd C dX3_measureGrid_75 ?_
          refine r_goto (tgt := 80) C dX3_measureGrid_76 (by decide) ?_
          first | exact (J13  ()) | (simp only [if_neg c_70_k12] at J13; exact (J13  ()))
def k_measureGrid (w : WZ) (Z : MM) (a0 : Nat) : Option (MM) := bnd (Z a0 7) fun p1 => (if (1 : Int32) ≤ p1 then (if ¬ p1 = 0 then bnd ((Z a0 32) / p1) fun p4 => (bnd ((Z a0 32) - (Z a0 32) / p1 * p1) fun p5 => (bnd (wl w 200 a0) fun p6 => (k_measureGrid_45 w a0 p1 p4 p5 1000 (0 : Int32) p6 Z))) else none) else (some Z))
theorem zk_measureGrid (l : Launch) (G : Gl) {w : WZ} {h : Hp} (hZ : ZW w h) {Z : MM} {a0 : Nat} (h0 : a0 < wn w) {r : MM} (E : k_measureGrid w Z a0 = some r) : MRw l G yX3_measureGrid (.code yX3_measureGrid cX3_measureGrid 7 none) 1 0 0 [.ref (wE w a0)] (cm w h Z) (.inl (none, cm w h r)) := by
  refine mr_of (by decide +kernel) (Nat.le_of_ble_eq_true rfl) (ct1 rfl) (fun X hG hl C E0 => ?_)
  subst hG hl
  rw [k_measureGrid] at E
  refine r_aload_n (i := 0) C dX3_measureGrid_0 rfl rfl (by first | rfl | exact isR_rf _) ?_
  refine rz_fresh C f_X3_36 dX3_measureGrid_1 rfl rfl hZ h0 ?_
  refine r_bipush (v := 7) C dX3_measureGrid_4 (by decide) ?_
  refine r_callVs C v_X3_9 (z_lkV _ _ 7 hZ h0 (by decide) rfl) dX3_measureGrid_6 (hZ.1 _ h0).2.2.1 (ci := 4) (by decide) rfl rfl (As := [_]) rfl rfl rfl (by first | exact Nat.le_refl _ | exact Nat.le_of_ble_eq_true rfl | omega) (Nat.le_of_ble_eq_true rfl) (by first | exact Nat.le_refl _ | exact Nat.le_of_ble_eq_true rfl | omega) (by first | exact Nat.le_refl _ | exact Nat.le_of_ble_eq_true rfl | omega) ?_
  refine bnd_elim (P := fun (z : Int32) => wr X 0 0 9 [.ref (wE w a0), (.long 0), (.long 0), (.long 0), (.long 0), (.long 0), (.long 0)] [.int z] (cm w h Z)) E (fun p1 E => ?_)
  refine r_istore_n (i := 1) C dX3_measureGrid_9 rfl (Nat.le_of_ble_eq_true rfl) ?_
  refine r_iload_n (i := 1) C dX3_measureGrid_10 rfl rfl ?_
  refine r_iconst (v := 1) C dX3_measureGrid_11 (by decide) ?_
  refine r_ic_ge (tgt := 16) C dX3_measureGrid_12 (by decide) (fun c_12 => ?_) (fun c_12 => ?_)
  · have E := ite_t E c_12
    refine r_aload_n (i := 0) C dX3_measureGrid_16 rfl rfl (by first | rfl | exact isR_rf _) ?_
    refine rz_fresh C f_X3_36 dX3_measureGrid_17 rfl rfl hZ h0 ?_
    refine rz_lI C 32 f_X3_29 dX3_measureGrid_20 rfl rfl (by decide) (by decide) hZ h0 ?_
    refine r_iload_n (i := 1) C dX3_measureGrid_23 rfl rfl ?_
    obtain ⟨g3, E⟩ := gd_elim E
    refine r_idiv C dX3_measureGrid_24 g3 ?_
    refine bnd_elim (P := fun (z : Int32) => wr X 0 0 25 [.ref (wE w a0), .int p1, (.long 0), (.long 0), (.long 0), (.long 0), (.long 0)] [.int z] (cm w h Z)) E (fun p4 E => ?_)
    refine r_istore_n (i := 2) C dX3_measureGrid_25 rfl (Nat.le_of_ble_eq_true rfl) ?_
    refine r_aload_n (i := 0) C dX3_measureGrid_26 rfl rfl (by first | rfl | exact isR_rf _) ?_
    refine rz_fresh C f_X3_36 dX3_measureGrid_27 rfl rfl hZ h0 ?_
    refine rz_lI C 32 f_X3_29 dX3_measureGrid_30 rfl rfl (by decide) (by decide) hZ h0 ?_
    refine r_iload_n (i := 1) C dX3_measureGrid_33 rfl rfl ?_
    refine r_irem C dX3_measureGrid_34 g3 ?_
    refine bnd_elim (P := fun (z : Int32) => wr X 0 0 35 [.ref (wE w a0), .int p1, .int p4, (.long 0), (.long 0), (.long 0), (.long 0)] [.int z] (cm w h Z)) E (fun p5 E => ?_)
    refine r_istore_n (i := 3) C dX3_measureGrid_35 rfl (Nat.le_of_ble_eq_true rfl) ?_
    refine r_iconst (v := 0) C dX3_measureGrid_36 (by decide) ?_
    refine r_istore (i := 4) C dX3_measureGrid_37 (Nat.le_of_ble_eq_true rfl) ?_
    refine r_aload_n (i := 0) C dX3_measureGrid_39 rfl rfl (by first | rfl | exact isR_rf _) ?_
    refine rz_link C 200 f_X3_42 dX3_measureGrid_40 rfl rfl (by decide) (by decide) hZ h0 ?_
    refine bnd_elim (P := fun (z : Option Nat) => (∀ c, z = some c → c < wn w) → wr X 0 0 43 [.ref (wE w a0), .int p1, .int p4, .int p5, .int (0 : Int32), (.long 0), (.long 0)] [va_rf (z.map (wE w))] (cm w h Z)) E (fun p6 E bp6 => ?_) (zl_lt hZ h0 (by decide) (by decide))
    refine r_astore (i := 5) C dX3_measureGrid_43 (Nat.le_of_ble_eq_true rfl) (by first | rfl | exact isR_rf _) ?_
    refine zk_measureGrid_45 C hZ h0 E0 _ _ _ _ _ E bp6
  · have E := ite_f E c_12
    obtain rfl := Option.some.inj E
    exact r_vret C E0 dX3_measureGrid_15 rfl (Nat.le_refl _) (Nat.le_refl _)

def k_findGains_8 (K0 : Int32 → MM → Option (MM)) (w : WZ) (x1 : Int32) (x2 : Int32) : Nat → Int32 → Option Nat → MM → Option (MM)
  | 0, _, _, _ => none
  | fu + 1, x3, x4, Z => oe x4 (K0 x3 Z) (fun c2 => if (¬ ((Z c2 29) = (0 : Int32)) → ((Z c2 36) = (0 : Int32) → (¬ (x2 ≤ (0 : Int32)) → ¬ x2 = 0))) then bnd (if (Z c2 29) = (0 : Int32) then (0 : Int32) else if (Z c2 36) = (0 : Int32) then if x2 ≤ (0 : Int32) then (0 : Int32) else (x1 * (Z c2 6)) / x2 else (0 : Int32)) fun p9 => bnd (u2 Z c2 35 p9) fun Z10 => (bnd (x3 - (Z10 c2 35)) fun p11 => (bnd (wl w 199 c2) fun p12 => (k_findGains_8 K0 w x1 x2 fu p11 p12 Z10))) else none)
theorem zk_findGains_8 {X : Ctx} {w : WZ} {h : Hp} (C : Cx X yX3_findGains cX3_findGains 6 none [] 1 0 0) (hZ : ZW w h) {K0 : Int32 → MM → Option (MM)} {x1 : Int32} {x2 : Int32} {v0 : Value} {r : MM} (E0 : Ex X 0 0 (.inl (none, cm w h r))) : ∀ (fu : Nat) (x3 : Int32) (x4 : Option Nat) (Z : MM) (u5 : Value) , k_findGains_8 K0 w x1 x2 fu x3 x4 Z = some r → (∀ c, x4 = some c → c < wn w) → (∀ (y3 : Int32) (Z2 : MM) (u1 u2 u4 u5 : Value) , K0 y3 Z2 = some r → wr X 0 0 78 [v0, u1, u2, .int y3, u4, u5] [] (cm w h Z2)) → wr X 0 0 8 [v0, .int x1, .int x2, .int x3, va_rf (x4.map (wE w)), u5] [] (cm w h Z) := by
  intro fu
  induction fu with
  | zero =>
    intro x3 x4 Z u5 E b4 hK0
    rw [k_findGains_8] at E
    cases E
  | succ fu ih =>
    intro x3 x4 Z u5 E b4 hK0
    rw [k_findGains_8] at E
    refine r_aload (i := 4) C dX3_findGains_8 rfl (by first | rfl | exact isR_rf _) ?_
    rcases x4 with _ | c2
    · have E := oe_n E
      refine r_ifnull (o := none) (tgt := 78) C dX3_findGains_10 (by decide) (fun _ => ?_) (fun _ q => nomatch q)
      exact hK0 _ _ _ _ _ _ E
    · have E := oe_s E
      have lc2 : c2 < wn w := b4 _ rfl
      refine r_ifnull (o := some (wE w c2)) (tgt := 78) C dX3_findGains_10 (by decide) (fun q => nomatch q) (fun _ _ => ?_)
      refine r_aload (i := 4) C dX3_findGains_13 rfl (by first | rfl | exact isR_rf _) ?_
      refine rz_fresh C f_X3_36 dX3_findGains_15 rfl rfl hZ lc2 ?_
      refine r_astore (i := 5) C dX3_findGains_18 (Nat.le_of_ble_eq_true rfl) (by first | rfl | exact isR_rf _) ?_
      refine r_aload (i := 5) C dX3_findGains_20 rfl (by first | rfl | exact isR_rf _) ?_
      refine r_aload (i := 5) C dX3_findGains_22 rfl (by first | rfl | exact isR_rf _) ?_
      refine rz_lI C 29 f_X3_19 dX3_findGains_24 rfl rfl (by decide) (by decide) hZ lc2 ?_
      obtain ⟨g7, E⟩ := gd_elim E
      have J8 : ∀ (u : Unit), wr X 0 0 57 [v0, .int x1, .int x2, .int x3, .ref (wE w c2), .ref (wf w c2)] [.int (if (Z c2 29) = (0 : Int32) then (0 : Int32) else if (Z c2 36) = (0 : Int32) then if x2 ≤ (0 : Int32) then (0 : Int32) else (x1 * (Z c2 6)) / x2 else (0 : Int32)), .ref (wf w c2)] (cm w h Z) := by
        intro u
        refine bnd_elim (P := fun (z : Int32) => wr X 0 0 57 [v0, .int x1, .int x2, .int x3, .ref (wE w c2), .ref (wf w c2)] [.int z, .ref (wf w c2)] (cm w h Z)) E (fun p9 E => ?_)
        refine rz_lput C 35 f_X3_93 dX3_findGains_57 rfl rfl rfl rfl (by decide) (by decide) hZ lc2 ?_
        refine bnd_elim (P := fun (Z : MM) => wr X 0 0 60 [v0, .int x1, .int x2, .int x3, .ref (wE w c2), .ref (wf w c2)] [] (cm w h Z)) E (fun Z10 E => ?_)
        refine r_iload_n (i := 3) C dX3_findGains_60 rfl rfl ?_
        refine r_aload (i := 5) C dX3_findGains_61 rfl (by first | rfl | exact isR_rf _) ?_
        refine rz_lI C 35 f_X3_93 dX3_findGains_63 rfl rfl (by decide) (by decide) hZ lc2 ?_
        refine r_isub C dX3_findGains_66 ?_
        refine bnd_elim (P := fun (z : Int32) => wr X 0 0 67 [v0, .int x1, .int x2, .int x3, .ref (wE w c2), .ref (wf w c2)] [.int z] (cm w h Z10)) E (fun p11 E => ?_)
        refine r_istore_n (i := 3) C dX3_findGains_67 rfl (Nat.le_of_ble_eq_true rfl) ?_
        refine r_aload (i := 4) C dX3_findGains_68 rfl (by first | rfl | exact isR_rf _) ?_
        refine rz_link C 199 f_X3_46 dX3_findGains_70 rfl rfl (by decide) (by decide) hZ lc2 ?_
        refine bnd_elim (P := fun (z : Option Nat) => (∀ c, z = some c → c < wn w) → wr X 0 0 73 [v0, .int x1, .int x2, .int p11, .ref (wE w c2), .ref (wf w c2)] [va_rf (z.map (wE w))] (cm w h Z10)) E (fun p12 E bp12 => ?_) (zl_lt hZ lc2 (by decide) (by decide))
        refine r_astore (i := 4) C dX3_findGains_73 (Nat.le_of_ble_eq_true rfl) (by first | rfl | exact isR_rf _) ?_
        refine r_goto (tgt := 8) C dX3_findGains_75 (by decide) ?_
        exact ih _ _ _ _ E bp12 hK0
      refine r_if_eq (tgt := 56) C dX3_findGains_27 (by decide) (fun c_27_k3 => ?_) (fun c_27_k3 => ?_)
      · refine r_iconst (v := 0) C dX3_findGains_56 (by decide) ?_
        first | exact (J8  ()) | (simp only [if_pos c_27_k3] at J8; exact (J8  ()))
      · refine r_aload (i := 5) C dX3_findGains_30 rfl (by first | rfl | exact isR_rf _) ?_
        refine rz_lI C 36 f_X3_83 dX3_findGains_32 rfl rfl (by decide) (by decide) hZ lc2 ?_
        refine r_if_ne (tgt := 56) C dX3_findGains_35 (by decide) (fun c_35_k4 => ?_) (fun c_35_k4 => ?_)
        · refine r_iconst (v := 0) C dX3_findGains_56 (by decide) ?_
          first | exact (J8  ()) | (simp only [if_neg c_27_k3, if_neg c_35_k4] at J8; exact (J8  ()))
        · refine r_iload_n (i := 2) C dX3_findGains_38 rfl rfl ?_
          refine r_if_le (tgt := 56) C dX3_findGains_39 (by decide) (fun c_39_k5 => ?_) (fun c_39_k5 => ?_)
          · refine r_iconst (v := 0) C dX3_findGains_56 (by decide) ?_
            first | exact (J8  ()) | (simp only [if_neg c_27_k3, if_pos c_35_k4, if_pos c_39_k5] at J8; exact (J8  ()))
          · refine r_iload_n (i := 1) C dX3_findGains_42 rfl rfl ?_
            refine r_aload (i := 5) C dX3_findGains_43 rfl (by first | rfl | exact isR_rf _) ?_
            refine r_bipush (v := 6) C dX3_findGains_45 (by decide) ?_
            refine r_callVs C v_X3_9 (z_lkV _ _ 6 hZ lc2 (by decide) rfl) dX3_findGains_47 (hZ.1 _ lc2).2.2.1 (ci := 4) (by decide) rfl rfl (As := [_]) rfl rfl rfl (by first | exact Nat.le_refl _ | exact Nat.le_of_ble_eq_true rfl | omega) (Nat.le_of_ble_eq_true rfl) (by first | exact Nat.le_refl _ | exact Nat.le_of_ble_eq_true rfl | omega) (by first | exact Nat.le_refl _ | exact Nat.le_of_ble_eq_true rfl | omega) ?_
            refine r_imul C dX3_findGains_50 ?_
            refine r_iload_n (i := 2) C dX3_findGains_51 rfl rfl ?_
            refine r_idiv C dX3_findGains_52 (((g7 c_27_k3) c_35_k4) c_39_k5) ?_
            refine r_goto (tgt := 57) C dX3_findGains_53 (by decide) ?_
            first | exact (J8  ()) | (simp only [if_neg c_27_k3, if_pos c_35_k4, if_neg c_39_k5] at J8; exact (J8  ()))
def k_findGains_84 (w : WZ) : Nat → Int32 → Option Nat → MM → Option (MM)
  | 0, _, _, _ => none
  | fu + 1, x3, x4, Z => oe x4 (some Z) (fun c20 => if x3 ≤ (0 : Int32) then (some Z) else (if (Z c20 29) = (0 : Int32) then (bnd (wl w 199 c20) fun p28 => (k_findGains_84 w fu x3 p28 Z)) else (if (Z c20 36) = (0 : Int32) then (if (Z c20 6) ≤ (0 : Int32) then (bnd (wl w 199 c20) fun p33 => (k_findGains_84 w fu x3 p33 Z)) else (bnd (u2 Z c20 35 ((Z c20 35) + (1 : Int32))) fun Z34 => (bnd (wl w 199 c20) fun p35 => (k_findGains_84 w fu (x3 + Int32.ofInt (-1)) p35 Z34)))) else (bnd (wl w 199 c20) fun p31 => (k_findGains_84 w fu x3 p31 Z)))))
theorem zk_findGains_84 {X : Ctx} {w : WZ} {h : Hp} (C : Cx X yX3_findGains cX3_findGains 6 none [] 1 0 0) (hZ : ZW w h) {r : MM} (E0 : Ex X 0 0 (.inl (none, cm w h r))) : ∀ (fu : Nat) (x3 : Int32) (x4 : Option Nat) (Z : MM) (u0 u1 u2 u5 : Value) , k_findGains_84 w fu x3 x4 Z = some r → (∀ c, x4 = some c → c < wn w) → wr X 0 0 84 [u0, u1, u2, .int x3, va_rf (x4.map (wE w)), u5] [] (cm w h Z) := by
  intro fu
  induction fu with
  | zero =>
    intro x3 x4 Z u0 u1 u2 u5 E b4 
    rw [k_findGains_84] at E
    cases E
  | succ fu ih =>
    intro x3 x4 Z u0 u1 u2 u5 E b4 
    rw [k_findGains_84] at E
    refine r_aload (i := 4) C dX3_findGains_84 rfl (by first | rfl | exact isR_rf _) ?_
    rcases x4 with _ | c20
    · have E := oe_n E
      refine r_ifnull (o := none) (tgt := 150) C dX3_findGains_86 (by decide) (fun _ => ?_) (fun _ q => nomatch q)
      obtain rfl := Option.some.inj E
      exact r_vret C E0 dX3_findGains_150 rfl (Nat.le_refl _) (Nat.le_refl _)
    · have E := oe_s E
      have lc20 : c20 < wn w := b4 _ rfl
      refine r_ifnull (o := some (wE w c20)) (tgt := 150) C dX3_findGains_86 (by decide) (fun q => nomatch q) (fun _ _ => ?_)
      refine r_iload_n (i := 3) C dX3_findGains_89 rfl rfl ?_
      refine r_if_le (tgt := 150) C dX3_findGains_90 (by decide) (fun c_90 => ?_) (fun c_90 => ?_)
      · have E := ite_t E c_90
        obtain rfl := Option.some.inj E
        exact r_vret C E0 dX3_findGains_150 rfl (Nat.le_refl _) (Nat.le_refl _)
      · have E := ite_f E c_90
        refine r_aload (i := 4) C dX3_findGains_93 rfl (by first | rfl | exact isR_rf _) ?_
        refine rz_fresh C f_X3_36 dX3_findGains_95 rfl rfl hZ lc20 ?_
        refine r_astore (i := 5) C dX3_findGains_98 (Nat.le_of_ble_eq_true rfl) (by first | rfl | exact isR_rf _) ?_
        refine r_aload (i := 5) C dX3_findGains_100 rfl (by first | rfl | exact isR_rf _) ?_
        refine rz_lI C 29 f_X3_19 dX3_findGains_102 rfl rfl (by decide) (by decide) hZ lc20 ?_
        refine r_if_eq (tgt := 140) C dX3_findGains_105 (by decide) (fun c_105 => ?_) (fun c_105 => ?_)
        · have E := ite_t E c_105
          refine r_aload (i := 4) C dX3_findGains_140 rfl (by first | rfl | exact isR_rf _) ?_
          refine rz_link C 199 f_X3_46 dX3_findGains_142 rfl rfl (by decide) (by decide) hZ lc20 ?_
          refine bnd_elim (P := fun (z : Option Nat) => (∀ c, z = some c → c < wn w) → wr X 0 0 145 [u0, u1, u2, .int x3, .ref (wE w c20), .ref (wf w c20)] [va_rf (z.map (wE w))] (cm w h Z)) E (fun p28 E bp28 => ?_) (zl_lt hZ lc20 (by decide) (by decide))
          refine r_astore (i := 4) C dX3_findGains_145 (Nat.le_of_ble_eq_true rfl) (by first | rfl | exact isR_rf _) ?_
          refine r_goto (tgt := 84) C dX3_findGains_147 (by decide) ?_
          exact ih _ _ _ _ _ _ _ E bp28
        · have E := ite_f E c_105
          refine r_aload (i := 5) C dX3_findGains_108 rfl (by first | rfl | exact isR_rf _) ?_
          refine rz_lI C 36 f_X3_83 dX3_findGains_110 rfl rfl (by decide) (by decide) hZ lc20 ?_
          refine r_if_ne (tgt := 140) C dX3_findGains_113 (by decide) (fun c_113 => ?_) (fun c_113 => ?_)
          · have E := ite_f E c_113
            refine r_aload (i := 4) C dX3_findGains_140 rfl (by first | rfl | exact isR_rf _) ?_
            refine rz_link C 199 f_X3_46 dX3_findGains_142 rfl rfl (by decide) (by decide) hZ lc20 ?_
            refine bnd_elim (P := fun (z : Option Nat) => (∀ c, z = some c → c < wn w) → wr X 0 0 145 [u0, u1, u2, .int x3, .ref (wE w c20), .ref (wf w c20)] [va_rf (z.map (wE w))] (cm w h Z)) E (fun p31 E bp31 => ?_) (zl_lt hZ lc20 (by decide) (by decide))
            refine r_astore (i := 4) C dX3_findGains_145 (Nat.le_of_ble_eq_true rfl) (by first | rfl | exact isR_rf _) ?_
            refine r_goto (tgt := 84) C dX3_findGains_147 (by decide) ?_
            exact ih _ _ _ _ _ _ _ E bp31
          · have E := ite_t E c_113
            refine r_aload (i := 5) C dX3_findGains_116 rfl (by first | rfl | exact isR_rf _) ?_
            refine r_bipush (v := 6) C dX3_findGains_118 (by decide) ?_
            refine r_callVs C v_X3_9 (z_lkV _ _ 6 hZ lc20 (by decide) rfl) dX3_findGains_120 (hZ.1 _ lc20).2.2.1 (ci := 4) (by decide) rfl rfl (As := [_]) rfl rfl rfl (by first | exact Nat.le_refl _ | exact Nat.le_of_ble_eq_true rfl | omega) (Nat.le_of_ble_eq_true rfl) (by first | exact Nat.le_refl _ | exact Nat.le_of_ble_eq_true rfl | omega) (by first | exact Nat.le_refl _ | exact Nat.le_of_ble_eq_true rfl | omega) ?_
            refine r_if_le (tgt := 140) C dX3_findGains_123 (by decide) (fun c_123 => ?_) (fun c_123 => ?_)
            · have E := ite_t E c_123
              refine r_aload (i := 4) C dX3_findGains_140 rfl (by first | rfl | exact isR_rf _) ?_
              refine rz_link C 199 f_X3_46 dX3_findGains_142 rfl rfl (by decide) (by decide) hZ lc20 ?_
              refine bnd_elim (P := fun (z : Option Nat) => (∀ c, z = some c → c < wn w) → wr X 0 0 145 [u0, u1, u2, .int x3, .ref (wE w c20), .ref (wf w c20)] [va_rf (z.map (wE w))] (cm w h Z)) E (fun p33 E bp33 => ?_) (zl_lt hZ lc20 (by decide) (by decide))
              refine r_astore (i := 4) C dX3_findGains_145 (Nat.le_of_ble_eq_true rfl) (by first | rfl | exact isR_rf _) ?_
              refine r_goto (tgt := 84) C dX3_findGains_147 (by decide) ?_
              exact ih _ _ _ _ _ _ _ E bp33
            · have E := ite_f E c_123
              refine r_aload (i := 5) C dX3_findGains_126 rfl (by first | rfl | exact isR_rf _) ?_
              refine r_dup C (by first | rfl | exact isR_cat (isR_rf _)) dX3_findGains_128 ?_
              refine rz_lI C 35 f_X3_93 dX3_findGains_129 rfl rfl (by decide) (by decide) hZ lc20 ?_
              refine r_iconst (v := 1) C dX3_findGains_132 (by decide) ?_
              refine r_iadd C dX3_findGains_133 ?_
              refine rz_lput C 35 f_X3_93 dX3_findGains_134 rfl rfl rfl rfl (by decide) (by decide) hZ lc20 ?_
              refine bnd_elim (P := fun (Z : MM) => wr X 0 0 137 [u0, u1, u2, .int x3, .ref (wE w c20), .ref (wf w c20)] [] (cm w h Z)) E (fun Z34 E => ?_)
              refine r_iinc (i := 3) C dX3_findGains_137 rfl rfl ?_
              refine r_aload (i := 4) C dX3_findGains_140 rfl (by first | rfl | exact isR_rf _) ?_
              refine rz_link C 199 f_X3_46 dX3_findGains_142 rfl rfl (by decide) (by decide) hZ lc20 ?_
              refine bnd_elim (P := fun (z : Option Nat) => (∀ c, z = some c → c < wn w) → wr X 0 0 145 [u0, u1, u2, .int (x3 + Int32.ofInt (-1)), .ref (wE w c20), .ref (wf w c20)] [va_rf (z.map (wE w))] (cm w h Z34)) E (fun p35 E bp35 => ?_) (zl_lt hZ lc20 (by decide) (by decide))
              refine r_astore (i := 4) C dX3_findGains_145 (Nat.le_of_ble_eq_true rfl) (by first | rfl | exact isR_rf _) ?_
              refine r_goto (tgt := 84) C dX3_findGains_147 (by decide) ?_
              exact ih _ _ _ _ _ _ _ E bp35
def k_findGains (w : WZ) (Z : MM) (a0 : Nat) (a1 : Int32) (a2 : Int32) : Option (MM) := bnd (wl w 200 a0) fun p1 => (k_findGains_8 (fun p13 Z18 => bnd (wl w 200 a0) fun p19 => (k_findGains_84 w 1000 p13 p19 Z18)) w a1 a2 1000 a1 p1 Z)
theorem zk_findGains (l : Launch) (G : Gl) {w : WZ} {h : Hp} (hZ : ZW w h) {Z : MM} {a0 : Nat} {a1 : Int32} {a2 : Int32} (h0 : a0 < wn w) {r : MM} (E : k_findGains w Z a0 a1 a2 = some r) : MRw l G yX3_findGains (.code yX3_findGains cX3_findGains 6 none) 1 0 0 [.ref (wE w a0), .int a1, .int a2] (cm w h Z) (.inl (none, cm w h r)) := by
  refine mr_of (by decide +kernel) (Nat.le_of_ble_eq_true rfl) (ct3 rfl rfl rfl) (fun X hG hl C E0 => ?_)
  subst hG hl
  rw [k_findGains] at E
  refine r_iload_n (i := 1) C dX3_findGains_0 rfl rfl ?_
  refine r_istore_n (i := 3) C dX3_findGains_1 rfl (Nat.le_of_ble_eq_true rfl) ?_
  refine r_aload_n (i := 0) C dX3_findGains_2 rfl rfl (by first | rfl | exact isR_rf _) ?_
  refine rz_link C 200 f_X3_42 dX3_findGains_3 rfl rfl (by decide) (by decide) hZ h0 ?_
  refine bnd_elim (P := fun (z : Option Nat) => (∀ c, z = some c → c < wn w) → wr X 0 0 6 [.ref (wE w a0), .int a1, .int a2, .int a1, (.long 0), (.long 0)] [va_rf (z.map (wE w))] (cm w h Z)) E (fun p1 E bp1 => ?_) (zl_lt hZ h0 (by decide) (by decide))
  refine r_astore (i := 4) C dX3_findGains_6 (Nat.le_of_ble_eq_true rfl) (by first | rfl | exact isR_rf _) ?_
  refine zk_findGains_8 C hZ E0 _ _ _ _ _ E bp1 (fun p13 Z18 w14 w15 w16 w17 E => ?_)
  refine r_aload_n (i := 0) C dX3_findGains_78 rfl rfl (by first | rfl | exact isR_rf _) ?_
  refine rz_link C 200 f_X3_42 dX3_findGains_79 rfl rfl (by decide) (by decide) hZ h0 ?_
  refine bnd_elim (P := fun (z : Option Nat) => (∀ c, z = some c → c < wn w) → wr X 0 0 82 [.ref (wE w a0), w14, w15, .int p13, w16, w17] [va_rf (z.map (wE w))] (cm w h Z18)) E (fun p19 E bp19 => ?_) (zl_lt hZ h0 (by decide) (by decide))
  refine r_astore (i := 4) C dX3_findGains_82 (Nat.le_of_ble_eq_true rfl) (by first | rfl | exact isR_rf _) ?_
  refine zk_findGains_84 C hZ E0 _ _ _ _ _ _ _ _ E bp19

