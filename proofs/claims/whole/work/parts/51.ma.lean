/-! ===== the model: in, isBelow, placeOf, asked, asked_, asked__, isRule, keeps, isPart, lay (by gen.py) ===== -/
def m_in (a0 : Int32) (a1 : Int32) (a2 : Int32) : Int32 := if a0 < a1 then (0 : Int32) else if a2 < a0 then (0 : Int32) else (1 : Int32)
theorem z_in (l : Launch) (G : Gl) {h : Hp} {a0 a1 a2 : Int32} : MRw l G yX12_in (.code yX12_in cX12_in 3 (Option.some Jvm.ClassFile.FieldType.boolean)) 0 0 0 [.int a0, .int a1, .int a2] h (.inl (some (.int (m_in a0 a1 a2)), h)) := by
  refine mr_of (by decide +kernel) (Nat.le_of_ble_eq_true rfl) (ct3 rfl rfl rfl) (fun X hG hl C E0 => ?_)
  subst hG hl
  rw [m_in] at E0
  refine r_iload_n (i := 0) C dX12_in_0 rfl rfl ?_
  refine r_iload_n (i := 1) C dX12_in_1 rfl rfl ?_
  have J3 : ∀ (u : Unit), wr X 0 0 15 [.int a0, .int a1, .int a2] [.int (if a0 < a1 then (0 : Int32) else if a2 < a0 then (0 : Int32) else (1 : Int32))] h := by
    intro u
    exact r_iret C E0 dX12_in_15 rfl (bo_nar (by first | exact Or.inl rfl | exact Or.inr rfl | assumption | exact b_canBe | (repeat' split) <;> first | exact Or.inl rfl | exact Or.inr rfl | assumption | exact b_canBe)).1 (Nat.le_refl _) (Nat.le_refl _)
  refine r_ic_lt (tgt := 14) C dX12_in_2 (by decide) (fun c_2_k1 => ?_) (fun c_2_k1 => ?_)
  · refine r_iconst (v := 0) C dX12_in_14 (by decide) ?_
    first | exact (J3  ()) | (simp only [if_pos c_2_k1] at J3; exact (J3  ()))
  · refine r_iload_n (i := 0) C dX12_in_5 rfl rfl ?_
    refine r_iload_n (i := 2) C dX12_in_6 rfl rfl ?_
    refine r_ic_gt (tgt := 14) C dX12_in_7 (by decide) (fun c_7_k2 => ?_) (fun c_7_k2 => ?_)
    · refine r_iconst (v := 0) C dX12_in_14 (by decide) ?_
      first | exact (J3  ()) | (simp only [if_neg c_2_k1, if_pos c_7_k2] at J3; exact (J3  ()))
    · refine r_iconst (v := 1) C dX12_in_10 (by decide) ?_
      refine r_goto (tgt := 15) C dX12_in_11 (by decide) ?_
      first | exact (J3  ()) | (simp only [if_neg c_2_k1, if_neg c_7_k2] at J3; exact (J3  ()))
theorem b_in {a0 a1 a2 : Int32} : m_in a0 a1 a2 = 0 ∨ m_in a0 a1 a2 = 1 := by
  unfold m_in
  exact (by first | exact Or.inl rfl | exact Or.inr rfl | assumption | exact b_canBe | (repeat' split) <;> first | exact Or.inl rfl | exact Or.inr rfl | assumption | exact b_canBe)

def m_isBelow_2 (K0 : Int32 → Option (Int32)) (S : MM) (x2 : Int32) : Nat → Int32 → Option (Int32)
  | 0, _ => none
  | fu + 1, x3 => if x3 = ((-1) : Int32) then (K0 x3) else (if x3 = x2 then (K0 x3) else (if ix x3 24 then bnd (S 5 (tn x3)) fun p8 => (m_isBelow_2 K0 S x2 fu p8) else none))
theorem z_isBelow_2 {X : Ctx} {m : Nat} {h : Hp} (C : Cx X yX12_isBelow cX12_isBelow 4 (Option.some Jvm.ClassFile.FieldType.boolean) [] 0 0 0) (hM : MW m h) {K0 : Int32 → Option (Int32)} {S : MM} {x2 : Int32} {r : Int32} (E0 : Ex X 0 0 (.inl (some (.int r), (pm m h S)))) : ∀ (fu : Nat) (x3 : Int32) (u1 : Value) , m_isBelow_2 K0 S x2 fu x3 = some r → (∀ (y3 : Int32) (u0 u1 : Value) , K0 y3 = some r → wr X 0 0 22 [u0, u1, .int x2, .int y3] [] (pm m h S)) → wr X 0 0 2 [.ref m, u1, .int x2, .int x3] [] (pm m h S) := by
  intro fu
  induction fu with
  | zero =>
    intro x3 u1 E hK0
    rw [m_isBelow_2] at E
    cases E
  | succ fu ih =>
    intro x3 u1 E hK0
    rw [m_isBelow_2] at E
    refine r_iload_n (i := 3) C dX12_isBelow_2 rfl rfl ?_
    refine r_iconst (v := (-1)) C dX12_isBelow_3 (by decide) ?_
    refine r_ic_eq (tgt := 22) C dX12_isBelow_4 (by decide) (fun c_4 => ?_) (fun c_4 => ?_)
    · have E := ite_t E c_4
      exact hK0 _ _ _ E
    · have E := ite_f E c_4
      refine r_iload_n (i := 3) C dX12_isBelow_7 rfl rfl ?_
      refine r_iload_n (i := 2) C dX12_isBelow_8 rfl rfl ?_
      refine r_ic_eq (tgt := 22) C dX12_isBelow_9 (by decide) (fun c_9 => ?_) (fun c_9 => ?_)
      · have E := ite_t E c_9
        exact hK0 _ _ _ E
      · have E := ite_f E c_9
        refine r_aload_n (i := 0) C dX12_isBelow_12 rfl rfl (by first | rfl | exact isR_rf _) ?_
        refine rm_ref (k := 5) C f_X12_23 dX12_isBelow_13 rfl rfl hM rfl ?_
        refine r_iload_n (i := 3) C dX12_isBelow_16 rfl rfl ?_
        obtain ⟨g7, E⟩ := gd_elim E
        refine rm_iald (k := 5) C dX12_isBelow_17 hM rfl rfl g7 ?_
        refine bnd_elim (P := fun (z : Int32) => wr X 0 0 18 [.ref m, u1, .int x2, .int x3] [.int z] (pm m h S)) E (fun p8 E => ?_)
        refine r_istore_n (i := 3) C dX12_isBelow_18 rfl (Nat.le_of_ble_eq_true rfl) ?_
        refine r_goto (tgt := 2) C dX12_isBelow_19 (by decide) ?_
        exact ih _ _ E hK0
def m_isBelow (S : MM) (a0 : Int32) (a1 : Int32) : Option (Int32) := m_isBelow_2 (fun p9 => some (if p9 = a1 then (1 : Int32) else (0 : Int32))) S a1 1000 a0
theorem z_isBelow (l : Launch) (G : Gl) {m : Nat} {h : Hp} (hM : MW m h) {S : MM} {a0 a1 : Int32} {r : Int32} (E : m_isBelow S a0 a1 = some r) : MRw l G yX12_isBelow (.code yX12_isBelow cX12_isBelow 4 (Option.some Jvm.ClassFile.FieldType.boolean)) 0 0 0 [.ref m, .int a0, .int a1] (pm m h S) (.inl (some (.int r), (pm m h S))) := by
  refine mr_of (by decide +kernel) (Nat.le_of_ble_eq_true rfl) (ct3 rfl rfl rfl) (fun X hG hl C E0 => ?_)
  subst hG hl
  rw [m_isBelow] at E
  refine r_iload_n (i := 1) C dX12_isBelow_0 rfl rfl ?_
  refine r_istore_n (i := 3) C dX12_isBelow_1 rfl (Nat.le_of_ble_eq_true rfl) ?_
  refine z_isBelow_2 C hM E0 _ _ _ E (fun p9 w10 w11 E => ?_)
  refine r_iload_n (i := 3) C dX12_isBelow_22 rfl rfl ?_
  refine r_iload_n (i := 2) C dX12_isBelow_23 rfl rfl ?_
  have J13 : ∀ (u : Unit), wr X 0 0 32 [w10, w11, .int a1, .int p9] [.int (if p9 = a1 then (1 : Int32) else (0 : Int32))] (pm m h S) := by
    intro u
    obtain rfl := Option.some.inj E
    exact r_iret C E0 dX12_isBelow_32 rfl (bo_nar (by first | exact Or.inl rfl | exact Or.inr rfl | assumption | exact b_canBe | exact b_in | (repeat' split) <;> first | exact Or.inl rfl | exact Or.inr rfl | assumption | exact b_canBe | exact b_in)).1 (Nat.le_refl _) (Nat.le_refl _)
  refine r_ic_ne (tgt := 31) C dX12_isBelow_24 (by decide) (fun c_24_k12 => ?_) (fun c_24_k12 => ?_)
  · refine r_iconst (v := 0) C dX12_isBelow_31 (by decide) ?_
    first | exact (J13  ()) | (simp only [if_neg c_24_k12] at J13; exact (J13  ()))
  · refine r_iconst (v := 1) C dX12_isBelow_27 (by decide) ?_
    refine r_goto (tgt := 32) C dX12_isBelow_28 (by decide) ?_
    first | exact (J13  ()) | (simp only [if_pos c_24_k12] at J13; exact (J13  ()))

def m_placeOf_2 (S : MM) (x1 : Int32) : Nat → Int32 → Option (Int32)
  | 0, _ => none
  | fu + 1, x2 => if (S 3 0) ≤ x2 then (some ((-1) : Int32)) else (if ix x2 24 then if (S 4 (tn x2)) = x1 then (some x2) else (m_placeOf_2 S x1 fu (x2 + 1)) else none)
theorem z_placeOf_2 {X : Ctx} {m : Nat} {h : Hp} (C : Cx X yX12_placeOf cX12_placeOf 3 (Option.some Jvm.ClassFile.FieldType.int) [] 0 0 0) (hM : MW m h) {S : MM} {x1 : Int32} {r : Int32} (E0 : Ex X 0 0 (.inl (some (.int r), (pm m h S)))) : ∀ (fu : Nat) (x2 : Int32) , m_placeOf_2 S x1 fu x2 = some r → wr X 0 0 2 [.ref m, .int x1, .int x2] [] (pm m h S) := by
  intro fu
  induction fu with
  | zero =>
    intro x2 E 
    rw [m_placeOf_2] at E
    cases E
  | succ fu ih =>
    intro x2 E 
    rw [m_placeOf_2] at E
    refine r_iload_n (i := 2) C dX12_placeOf_2 rfl rfl ?_
    refine r_aload_n (i := 0) C dX12_placeOf_3 rfl rfl (by first | rfl | exact isR_rf _) ?_
    refine rm_get (k := 3) C f_X12_16 dX12_placeOf_4 rfl rfl hM rfl ?_
    refine r_ic_ge (tgt := 28) C dX12_placeOf_7 (by decide) (fun c_7 => ?_) (fun c_7 => ?_)
    · have E := ite_t E c_7
      refine r_iconst (v := (-1)) C dX12_placeOf_28 (by decide) ?_
      obtain rfl := Option.some.inj E
      exact r_iret C E0 dX12_placeOf_29 rfl rfl (Nat.le_refl _) (Nat.le_refl _)
    · have E := ite_f E c_7
      refine r_aload_n (i := 0) C dX12_placeOf_10 rfl rfl (by first | rfl | exact isR_rf _) ?_
      refine rm_ref (k := 4) C f_X12_19 dX12_placeOf_11 rfl rfl hM rfl ?_
      refine r_iload_n (i := 2) C dX12_placeOf_14 rfl rfl ?_
      obtain ⟨g2, E⟩ := gd_elim E
      refine rm_iald (k := 4) C dX12_placeOf_15 hM rfl rfl g2 ?_
      refine r_iload_n (i := 1) C dX12_placeOf_16 rfl rfl ?_
      refine r_ic_ne (tgt := 22) C dX12_placeOf_17 (by decide) (fun c_17 => ?_) (fun c_17 => ?_)
      · have E := ite_f E c_17
        refine r_iinc1 (i := 2) C dX12_placeOf_22 rfl ?_
        refine r_goto (tgt := 2) C dX12_placeOf_25 (by decide) ?_
        exact ih _ E
      · have E := ite_t E c_17
        refine r_iload_n (i := 2) C dX12_placeOf_20 rfl rfl ?_
        obtain rfl := Option.some.inj E
        exact r_iret C E0 dX12_placeOf_21 rfl rfl (Nat.le_refl _) (Nat.le_refl _)
def m_placeOf (S : MM) (a0 : Int32) : Option (Int32) := m_placeOf_2 S a0 1000 (0 : Int32)
theorem z_placeOf (l : Launch) (G : Gl) {m : Nat} {h : Hp} (hM : MW m h) {S : MM} {a0 : Int32} {r : Int32} (E : m_placeOf S a0 = some r) : MRw l G yX12_placeOf (.code yX12_placeOf cX12_placeOf 3 (Option.some Jvm.ClassFile.FieldType.int)) 0 0 0 [.ref m, .int a0] (pm m h S) (.inl (some (.int r), (pm m h S))) := by
  refine mr_of (by decide +kernel) (Nat.le_of_ble_eq_true rfl) (ct2 rfl rfl) (fun X hG hl C E0 => ?_)
  subst hG hl
  rw [m_placeOf] at E
  refine r_iconst (v := 0) C dX12_placeOf_0 (by decide) ?_
  refine r_istore_n (i := 2) C dX12_placeOf_1 rfl (Nat.le_of_ble_eq_true rfl) ?_
  refine z_placeOf_2 C hM E0 _ _ E

def m_asked (S : MM) (a0 : Int32) : Option (Int32 × MM) := bnd (if a0 = (0 : Int32) then (1 : Int32) else (0 : Int32)) fun p3 => bnd (u2 S 0 0 p3) fun S4 => (if (a0) = 0 ∨ (a0) = 1 then some (a0, S4) else none)
theorem z_asked (l : Launch) (G : Gl) {m : Nat} {h : Hp} (hM : MW m h) {S : MM} {a0 : Int32} {r : Int32 × MM} (E : m_asked S a0 = some r) : MRw l G yX12_asked (.code yX12_asked cX12_asked 2 (Option.some Jvm.ClassFile.FieldType.boolean)) 0 0 0 [.ref m, .int a0] (pm m h S) (.inl (some (.int r.1), pm m h r.2)) := by
  refine mr_of (by decide +kernel) (Nat.le_of_ble_eq_true rfl) (ct2 rfl rfl) (fun X hG hl C E0 => ?_)
  subst hG hl
  rw [m_asked] at E
  refine r_aload_n (i := 0) C dX12_asked_0 rfl rfl (by first | rfl | exact isR_rf _) ?_
  refine r_iload_n (i := 1) C dX12_asked_1 rfl rfl ?_
  have J2 : ∀ (u : Unit), wr X 0 0 10 [.ref m, .int a0] [.int (if a0 = (0 : Int32) then (1 : Int32) else (0 : Int32)), .ref m] (pm m h S) := by
    intro u
    refine bnd_elim (P := fun (z : Int32) => wr X 0 0 10 [.ref m, .int a0] [.int z, .ref m] (pm m h S)) E (fun p3 E => ?_)
    refine rm_put (k := 0) C f_X12_123 dX12_asked_10 rfl rfl hM rfl ?_
    refine bnd_elim (P := fun (Z : MM) => wr X 0 0 13 [.ref m, .int a0] [] (pm m h Z)) E (fun S4 E => ?_)
    refine r_iload_n (i := 1) C dX12_asked_13 rfl rfl ?_
    obtain ⟨gb, E⟩ := gd_elim E
    obtain rfl := Option.some.inj E
    exact r_iret C E0 dX12_asked_14 rfl (bo_nar (by first | exact Or.inl rfl | exact Or.inr rfl | assumption | exact b_canBe | exact b_in | (repeat' split) <;> first | exact Or.inl rfl | exact Or.inr rfl | assumption | exact b_canBe | exact b_in)).1 (Nat.le_refl _) (Nat.le_refl _)
  refine r_if_eq (tgt := 9) C dX12_asked_2 (by decide) (fun c_2_k1 => ?_) (fun c_2_k1 => ?_)
  · refine r_iconst (v := 1) C dX12_asked_9 (by decide) ?_
    first | exact (J2  ()) | (simp only [if_pos c_2_k1] at J2; exact (J2  ()))
  · refine r_iconst (v := 0) C dX12_asked_5 (by decide) ?_
    refine r_goto (tgt := 10) C dX12_asked_6 (by decide) ?_
    first | exact (J2  ()) | (simp only [if_neg c_2_k1] at J2; exact (J2  ()))

def m_asked_ (S : MM) (a0 : Int32) (a1 : Int32) : Option (Int32 × MM) := bnd (if a0 = (0 : Int32) then (1 : Int32) else if a1 = (0 : Int32) then (2 : Int32) else (0 : Int32)) fun p4 => bnd (u2 S 0 0 p4) fun S5 => (some (if (S5 0 0) = (0 : Int32) then (1 : Int32) else (0 : Int32), S5))
theorem z_asked_ (l : Launch) (G : Gl) {m : Nat} {h : Hp} (hM : MW m h) {S : MM} {a0 a1 : Int32} {r : Int32 × MM} (E : m_asked_ S a0 a1 = some r) : MRw l G yX12_asked_ (.code yX12_asked_ cX12_asked_ 3 (Option.some Jvm.ClassFile.FieldType.boolean)) 0 0 0 [.ref m, .int a0, .int a1] (pm m h S) (.inl (some (.int r.1), pm m h r.2)) := by
  refine mr_of (by decide +kernel) (Nat.le_of_ble_eq_true rfl) (ct3 rfl rfl rfl) (fun X hG hl C E0 => ?_)
  subst hG hl
  rw [m_asked_] at E
  refine r_aload_n (i := 0) C dX12_asked__0 rfl rfl (by first | rfl | exact isR_rf _) ?_
  refine r_iload_n (i := 1) C dX12_asked__1 rfl rfl ?_
  have J3 : ∀ (u : Unit), wr X 0 0 18 [.ref m, .int a0, .int a1] [.int (if a0 = (0 : Int32) then (1 : Int32) else if a1 = (0 : Int32) then (2 : Int32) else (0 : Int32)), .ref m] (pm m h S) := by
    intro u
    refine bnd_elim (P := fun (z : Int32) => wr X 0 0 18 [.ref m, .int a0, .int a1] [.int z, .ref m] (pm m h S)) E (fun p4 E => ?_)
    refine rm_put (k := 0) C f_X12_123 dX12_asked__18 rfl rfl hM rfl ?_
    refine bnd_elim (P := fun (Z : MM) => wr X 0 0 21 [.ref m, .int a0, .int a1] [] (pm m h Z)) E (fun S5 E => ?_)
    refine r_aload_n (i := 0) C dX12_asked__21 rfl rfl (by first | rfl | exact isR_rf _) ?_
    refine rm_get (k := 0) C f_X12_123 dX12_asked__22 rfl rfl hM rfl ?_
    have J7 : ∀ (u : Unit), wr X 0 0 33 [.ref m, .int a0, .int a1] [.int (if (S5 0 0) = (0 : Int32) then (1 : Int32) else (0 : Int32))] (pm m h S5) := by
      intro u
      obtain rfl := Option.some.inj E
      exact r_iret C E0 dX12_asked__33 rfl (bo_nar (by first | exact Or.inl rfl | exact Or.inr rfl | assumption | exact b_canBe | exact b_in | (repeat' split) <;> first | exact Or.inl rfl | exact Or.inr rfl | assumption | exact b_canBe | exact b_in)).1 (Nat.le_refl _) (Nat.le_refl _)
    refine r_if_ne (tgt := 32) C dX12_asked__25 (by decide) (fun c_25_k6 => ?_) (fun c_25_k6 => ?_)
    · refine r_iconst (v := 0) C dX12_asked__32 (by decide) ?_
      first | exact (J7  ()) | (simp only [if_neg c_25_k6] at J7; exact (J7  ()))
    · refine r_iconst (v := 1) C dX12_asked__28 (by decide) ?_
      refine r_goto (tgt := 33) C dX12_asked__29 (by decide) ?_
      first | exact (J7  ()) | (simp only [if_pos c_25_k6] at J7; exact (J7  ()))
  refine r_if_ne (tgt := 9) C dX12_asked__2 (by decide) (fun c_2_k1 => ?_) (fun c_2_k1 => ?_)
  · refine r_iload_n (i := 2) C dX12_asked__9 rfl rfl ?_
    refine r_if_eq (tgt := 17) C dX12_asked__10 (by decide) (fun c_10_k2 => ?_) (fun c_10_k2 => ?_)
    · refine r_iconst (v := 2) C dX12_asked__17 (by decide) ?_
      first | exact (J3  ()) | (simp only [if_neg c_2_k1, if_pos c_10_k2] at J3; exact (J3  ()))
    · refine r_iconst (v := 0) C dX12_asked__13 (by decide) ?_
      refine r_goto (tgt := 18) C dX12_asked__14 (by decide) ?_
      first | exact (J3  ()) | (simp only [if_neg c_2_k1, if_neg c_10_k2] at J3; exact (J3  ()))
  · refine r_iconst (v := 1) C dX12_asked__5 (by decide) ?_
    refine r_goto (tgt := 18) C dX12_asked__6 (by decide) ?_
    first | exact (J3  ()) | (simp only [if_pos c_2_k1] at J3; exact (J3  ()))

def m_asked__ (S : MM) (a0 : Int32) (a1 : Int32) (a2 : Int32) : Option (Int32 × MM) := bnd (if a0 = (0 : Int32) then (1 : Int32) else if a1 = (0 : Int32) then (2 : Int32) else if a2 = (0 : Int32) then (3 : Int32) else (0 : Int32)) fun p5 => bnd (u2 S 0 0 p5) fun S6 => (some (if (S6 0 0) = (0 : Int32) then (1 : Int32) else (0 : Int32), S6))
theorem z_asked__ (l : Launch) (G : Gl) {m : Nat} {h : Hp} (hM : MW m h) {S : MM} {a0 a1 a2 : Int32} {r : Int32 × MM} (E : m_asked__ S a0 a1 a2 = some r) : MRw l G yX12_asked__ (.code yX12_asked__ cX12_asked__ 4 (Option.some Jvm.ClassFile.FieldType.boolean)) 0 0 0 [.ref m, .int a0, .int a1, .int a2] (pm m h S) (.inl (some (.int r.1), pm m h r.2)) := by
  refine mr_of (by decide +kernel) (Nat.le_of_ble_eq_true rfl) (ct4 rfl rfl rfl rfl) (fun X hG hl C E0 => ?_)
  subst hG hl
  rw [m_asked__] at E
  refine r_aload_n (i := 0) C dX12_asked___0 rfl rfl (by first | rfl | exact isR_rf _) ?_
  refine r_iload_n (i := 1) C dX12_asked___1 rfl rfl ?_
  have J4 : ∀ (u : Unit), wr X 0 0 26 [.ref m, .int a0, .int a1, .int a2] [.int (if a0 = (0 : Int32) then (1 : Int32) else if a1 = (0 : Int32) then (2 : Int32) else if a2 = (0 : Int32) then (3 : Int32) else (0 : Int32)), .ref m] (pm m h S) := by
    intro u
    refine bnd_elim (P := fun (z : Int32) => wr X 0 0 26 [.ref m, .int a0, .int a1, .int a2] [.int z, .ref m] (pm m h S)) E (fun p5 E => ?_)
    refine rm_put (k := 0) C f_X12_123 dX12_asked___26 rfl rfl hM rfl ?_
    refine bnd_elim (P := fun (Z : MM) => wr X 0 0 29 [.ref m, .int a0, .int a1, .int a2] [] (pm m h Z)) E (fun S6 E => ?_)
    refine r_aload_n (i := 0) C dX12_asked___29 rfl rfl (by first | rfl | exact isR_rf _) ?_
    refine rm_get (k := 0) C f_X12_123 dX12_asked___30 rfl rfl hM rfl ?_
    have J8 : ∀ (u : Unit), wr X 0 0 41 [.ref m, .int a0, .int a1, .int a2] [.int (if (S6 0 0) = (0 : Int32) then (1 : Int32) else (0 : Int32))] (pm m h S6) := by
      intro u
      obtain rfl := Option.some.inj E
      exact r_iret C E0 dX12_asked___41 rfl (bo_nar (by first | exact Or.inl rfl | exact Or.inr rfl | assumption | exact b_canBe | exact b_in | (repeat' split) <;> first | exact Or.inl rfl | exact Or.inr rfl | assumption | exact b_canBe | exact b_in)).1 (Nat.le_refl _) (Nat.le_refl _)
    refine r_if_ne (tgt := 40) C dX12_asked___33 (by decide) (fun c_33_k7 => ?_) (fun c_33_k7 => ?_)
    · refine r_iconst (v := 0) C dX12_asked___40 (by decide) ?_
      first | exact (J8  ()) | (simp only [if_neg c_33_k7] at J8; exact (J8  ()))
    · refine r_iconst (v := 1) C dX12_asked___36 (by decide) ?_
      refine r_goto (tgt := 41) C dX12_asked___37 (by decide) ?_
      first | exact (J8  ()) | (simp only [if_pos c_33_k7] at J8; exact (J8  ()))
  refine r_if_ne (tgt := 9) C dX12_asked___2 (by decide) (fun c_2_k1 => ?_) (fun c_2_k1 => ?_)
  · refine r_iload_n (i := 2) C dX12_asked___9 rfl rfl ?_
    refine r_if_ne (tgt := 17) C dX12_asked___10 (by decide) (fun c_10_k2 => ?_) (fun c_10_k2 => ?_)
    · refine r_iload_n (i := 3) C dX12_asked___17 rfl rfl ?_
      refine r_if_eq (tgt := 25) C dX12_asked___18 (by decide) (fun c_18_k3 => ?_) (fun c_18_k3 => ?_)
      · refine r_iconst (v := 3) C dX12_asked___25 (by decide) ?_
        first | exact (J4  ()) | (simp only [if_neg c_2_k1, if_neg c_10_k2, if_pos c_18_k3] at J4; exact (J4  ()))
      · refine r_iconst (v := 0) C dX12_asked___21 (by decide) ?_
        refine r_goto (tgt := 26) C dX12_asked___22 (by decide) ?_
        first | exact (J4  ()) | (simp only [if_neg c_2_k1, if_neg c_10_k2, if_neg c_18_k3] at J4; exact (J4  ()))
    · refine r_iconst (v := 2) C dX12_asked___13 (by decide) ?_
      refine r_goto (tgt := 26) C dX12_asked___14 (by decide) ?_
      first | exact (J4  ()) | (simp only [if_neg c_2_k1, if_pos c_10_k2] at J4; exact (J4  ()))
  · refine r_iconst (v := 1) C dX12_asked___5 (by decide) ?_
    refine r_goto (tgt := 26) C dX12_asked___6 (by decide) ?_
    first | exact (J4  ()) | (simp only [if_pos c_2_k1] at J4; exact (J4  ()))

def m_isRule (S : MM) (a0 : Int32) : Int32 := m_in a0 (0 : Int32) ((S 10 0) - (1 : Int32))
theorem z_isRule (l : Launch) (G : Gl) {m : Nat} {h : Hp} (hM : MW m h) {S : MM} {a0 : Int32} : MRw l G yX12_isRule (.code yX12_isRule cX12_isRule 2 (Option.some Jvm.ClassFile.FieldType.boolean)) 1 0 0 [.ref m, .int a0] (pm m h S) (.inl (some (.int (m_isRule S a0)), (pm m h S))) := by
  refine mr_of (by decide +kernel) (Nat.le_of_ble_eq_true rfl) (ct2 rfl rfl) (fun X hG hl C E0 => ?_)
  subst hG hl
  rw [m_isRule] at E0
  refine r_iload_n (i := 1) C dX12_isRule_0 rfl rfl ?_
  refine r_iconst (v := 0) C dX12_isRule_1 (by decide) ?_
  refine r_aload_n (i := 0) C dX12_isRule_2 rfl rfl (by first | rfl | exact isR_rf _) ?_
  refine rm_get (k := 10) C f_X12_126 dX12_isRule_3 rfl rfl hM rfl ?_
  refine r_iconst (v := 1) C dX12_isRule_6 (by decide) ?_
  refine r_isub C dX12_isRule_7 ?_
  refine r_callSs C s_X12_129 (z_in _ _) dX12_isRule_8 (As := [_, _, _]) rfl rfl rfl (by first | exact Nat.le_refl _ | exact Nat.le_of_ble_eq_true rfl | omega) (Nat.le_of_ble_eq_true rfl) (by first | exact Nat.le_refl _ | exact Nat.le_of_ble_eq_true rfl | omega) (by first | exact Nat.le_refl _ | exact Nat.le_of_ble_eq_true rfl | omega) ?_
  exact r_iret C E0 dX12_isRule_11 rfl (bo_nar (by first | exact Or.inl rfl | exact Or.inr rfl | assumption | exact b_canBe | exact b_in | (repeat' split) <;> first | exact Or.inl rfl | exact Or.inr rfl | assumption | exact b_canBe | exact b_in)).1 (Nat.le_refl _) (Nat.le_refl _)
theorem b_isRule {S : MM} {a0 : Int32} : m_isRule S a0 = 0 ∨ m_isRule S a0 = 1 := by
  unfold m_isRule
  exact (by first | exact Or.inl rfl | exact Or.inr rfl | assumption | exact b_canBe | exact b_in | (repeat' split) <;> first | exact Or.inl rfl | exact Or.inr rfl | assumption | exact b_canBe | exact b_in)

def m_keeps_10 (K0 : MM → Option (MM)) : Nat → Int32 → MM → Option (MM)
  | 0, _, _ => none
  | fu + 1, x1, S => if (S 3 0) ≤ x1 then (K0 S) else (if ix x1 24 then bnd (u2 S 30 (tn x1) (S 4 (tn x1))) fun S6 => (m_keeps_10 K0 fu (x1 + 1) S6) else none)
theorem z_keeps_10 {X : Ctx} {m : Nat} {h : Hp} (C : Cx X yX12_keeps cX12_keeps 2 none [] 0 0 0) (hM : MW m h) {K0 : MM → Option (MM)} {r : MM} (E0 : Ex X 0 0 (.inl (none, pm m h r))) : ∀ (fu : Nat) (x1 : Int32) (S : MM) , m_keeps_10 K0 fu x1 S = some r → (∀ (S2 : MM) (u1 : Value) , K0 S2 = some r → wr X 0 0 36 [.ref m, u1] [] (pm m h S2)) → wr X 0 0 10 [.ref m, .int x1] [] (pm m h S) := by
  intro fu
  induction fu with
  | zero =>
    intro x1 S E hK0
    rw [m_keeps_10] at E
    cases E
  | succ fu ih =>
    intro x1 S E hK0
    rw [m_keeps_10] at E
    refine r_iload_n (i := 1) C dX12_keeps_10 rfl rfl ?_
    refine r_aload_n (i := 0) C dX12_keeps_11 rfl rfl (by first | rfl | exact isR_rf _) ?_
    refine rm_get (k := 3) C f_X12_16 dX12_keeps_12 rfl rfl hM rfl ?_
    refine r_ic_ge (tgt := 36) C dX12_keeps_15 (by decide) (fun c_15 => ?_) (fun c_15 => ?_)
    · have E := ite_t E c_15
      exact hK0 _ _ E
    · have E := ite_f E c_15
      refine r_aload_n (i := 0) C dX12_keeps_18 rfl rfl (by first | rfl | exact isR_rf _) ?_
      refine rm_ref (k := 30) C f_X12_93 dX12_keeps_19 rfl rfl hM rfl ?_
      refine r_iload_n (i := 1) C dX12_keeps_22 rfl rfl ?_
      refine r_aload_n (i := 0) C dX12_keeps_23 rfl rfl (by first | rfl | exact isR_rf _) ?_
      refine rm_ref (k := 4) C f_X12_19 dX12_keeps_24 rfl rfl hM rfl ?_
      refine r_iload_n (i := 1) C dX12_keeps_27 rfl rfl ?_
      obtain ⟨g5, E⟩ := gd_elim E
      refine rm_iald (k := 4) C dX12_keeps_28 hM rfl rfl g5 ?_
      refine rm_iast (k := 30) C dX12_keeps_29 hM rfl rfl g5 ?_
      refine bnd_elim (P := fun (Z : MM) => wr X 0 0 30 [.ref m, .int x1] [] (pm m h Z)) E (fun S6 E => ?_)
      refine r_iinc1 (i := 1) C dX12_keeps_30 rfl ?_
      refine r_goto (tgt := 10) C dX12_keeps_33 (by decide) ?_
      exact ih _ _ E hK0
def m_keeps_38 (K0 : MM → Option (MM)) : Nat → Int32 → MM → Option (MM)
  | 0, _, _ => none
  | fu + 1, x1, S => if ((14 : Int32) * (S 3 0)) ≤ x1 then (K0 S) else (if ix x1 336 then bnd (u2 S 31 (tn x1) (S 23 (tn x1))) fun S13 => (m_keeps_38 K0 fu (x1 + 1) S13) else none)
theorem z_keeps_38 {X : Ctx} {m : Nat} {h : Hp} (C : Cx X yX12_keeps cX12_keeps 2 none [] 0 0 0) (hM : MW m h) {K0 : MM → Option (MM)} {r : MM} (E0 : Ex X 0 0 (.inl (none, pm m h r))) : ∀ (fu : Nat) (x1 : Int32) (S : MM) , m_keeps_38 K0 fu x1 S = some r → (∀ (S2 : MM) (u1 : Value) , K0 S2 = some r → wr X 0 0 67 [.ref m, u1] [] (pm m h S2)) → wr X 0 0 38 [.ref m, .int x1] [] (pm m h S) := by
  intro fu
  induction fu with
  | zero =>
    intro x1 S E hK0
    rw [m_keeps_38] at E
    cases E
  | succ fu ih =>
    intro x1 S E hK0
    rw [m_keeps_38] at E
    refine r_iload_n (i := 1) C dX12_keeps_38 rfl rfl ?_
    refine r_bipush (v := 14) C dX12_keeps_39 (by decide) ?_
    refine r_aload_n (i := 0) C dX12_keeps_41 rfl rfl (by first | rfl | exact isR_rf _) ?_
    refine rm_get (k := 3) C f_X12_16 dX12_keeps_42 rfl rfl hM rfl ?_
    refine r_imul C dX12_keeps_45 ?_
    refine r_ic_ge (tgt := 67) C dX12_keeps_46 (by decide) (fun c_46 => ?_) (fun c_46 => ?_)
    · have E := ite_t E c_46
      exact hK0 _ _ E
    · have E := ite_f E c_46
      refine r_aload_n (i := 0) C dX12_keeps_49 rfl rfl (by first | rfl | exact isR_rf _) ?_
      refine rm_ref (k := 31) C f_X12_96 dX12_keeps_50 rfl rfl hM rfl ?_
      refine r_iload_n (i := 1) C dX12_keeps_53 rfl rfl ?_
      refine r_aload_n (i := 0) C dX12_keeps_54 rfl rfl (by first | rfl | exact isR_rf _) ?_
      refine rm_ref (k := 23) C f_X12_75 dX12_keeps_55 rfl rfl hM rfl ?_
      refine r_iload_n (i := 1) C dX12_keeps_58 rfl rfl ?_
      obtain ⟨g12, E⟩ := gd_elim E
      refine rm_iald (k := 23) C dX12_keeps_59 hM rfl rfl g12 ?_
      refine rm_iast (k := 31) C dX12_keeps_60 hM rfl rfl g12 ?_
      refine bnd_elim (P := fun (Z : MM) => wr X 0 0 61 [.ref m, .int x1] [] (pm m h Z)) E (fun S13 E => ?_)
      refine r_iinc1 (i := 1) C dX12_keeps_61 rfl ?_
      refine r_goto (tgt := 38) C dX12_keeps_64 (by decide) ?_
      exact ih _ _ E hK0
def m_keeps_69 : Nat → Int32 → MM → Option (MM)
  | 0, _, _ => none
  | fu + 1, x1, S => if ((4 : Int32) * (S 3 0)) ≤ x1 then (some S) else (if ix x1 96 then bnd (u2 S 32 (tn x1) (S 25 (tn x1))) fun S20 => (m_keeps_69 fu (x1 + 1) S20) else none)
theorem z_keeps_69 {X : Ctx} {m : Nat} {h : Hp} (C : Cx X yX12_keeps cX12_keeps 2 none [] 0 0 0) (hM : MW m h) {r : MM} (E0 : Ex X 0 0 (.inl (none, pm m h r))) : ∀ (fu : Nat) (x1 : Int32) (S : MM) , m_keeps_69 fu x1 S = some r → wr X 0 0 69 [.ref m, .int x1] [] (pm m h S) := by
  intro fu
  induction fu with
  | zero =>
    intro x1 S E 
    rw [m_keeps_69] at E
    cases E
  | succ fu ih =>
    intro x1 S E 
    rw [m_keeps_69] at E
    refine r_iload_n (i := 1) C dX12_keeps_69 rfl rfl ?_
    refine r_iconst (v := 4) C dX12_keeps_70 (by decide) ?_
    refine r_aload_n (i := 0) C dX12_keeps_71 rfl rfl (by first | rfl | exact isR_rf _) ?_
    refine rm_get (k := 3) C f_X12_16 dX12_keeps_72 rfl rfl hM rfl ?_
    refine r_imul C dX12_keeps_75 ?_
    refine r_ic_ge (tgt := 97) C dX12_keeps_76 (by decide) (fun c_76 => ?_) (fun c_76 => ?_)
    · have E := ite_t E c_76
      obtain rfl := Option.some.inj E
      exact r_vret C E0 dX12_keeps_97 rfl (Nat.le_refl _) (Nat.le_refl _)
    · have E := ite_f E c_76
      refine r_aload_n (i := 0) C dX12_keeps_79 rfl rfl (by first | rfl | exact isR_rf _) ?_
      refine rm_ref (k := 32) C f_X12_99 dX12_keeps_80 rfl rfl hM rfl ?_
      refine r_iload_n (i := 1) C dX12_keeps_83 rfl rfl ?_
      refine r_aload_n (i := 0) C dX12_keeps_84 rfl rfl (by first | rfl | exact isR_rf _) ?_
      refine rm_ref (k := 25) C f_X12_81 dX12_keeps_85 rfl rfl hM rfl ?_
      refine r_iload_n (i := 1) C dX12_keeps_88 rfl rfl ?_
      obtain ⟨g19, E⟩ := gd_elim E
      refine rm_iald (k := 25) C dX12_keeps_89 hM rfl rfl g19 ?_
      refine rm_iast (k := 32) C dX12_keeps_90 hM rfl rfl g19 ?_
      refine bnd_elim (P := fun (Z : MM) => wr X 0 0 91 [.ref m, .int x1] [] (pm m h Z)) E (fun S20 E => ?_)
      refine r_iinc1 (i := 1) C dX12_keeps_91 rfl ?_
      refine r_goto (tgt := 69) C dX12_keeps_94 (by decide) ?_
      exact ih _ _ E
def m_keeps (S : MM) : Option (MM) := bnd (u2 S 29 0 (S 3 0)) fun S1 => (m_keeps_10 (fun S8 => m_keeps_38 (fun S15 => m_keeps_69 1000 (0 : Int32) S15) 1000 (0 : Int32) S8) 1000 (0 : Int32) S1)
theorem z_keeps (l : Launch) (G : Gl) {m : Nat} {h : Hp} (hM : MW m h) {S : MM} {r : MM} (E : m_keeps S = some r) : MRw l G yX12_keeps (.code yX12_keeps cX12_keeps 2 none) 0 0 0 [.ref m] (pm m h S) (.inl (none, pm m h r)) := by
  refine mr_of (by decide +kernel) (Nat.le_of_ble_eq_true rfl) (ct1 rfl) (fun X hG hl C E0 => ?_)
  subst hG hl
  rw [m_keeps] at E
  refine r_aload_n (i := 0) C dX12_keeps_0 rfl rfl (by first | rfl | exact isR_rf _) ?_
  refine r_aload_n (i := 0) C dX12_keeps_1 rfl rfl (by first | rfl | exact isR_rf _) ?_
  refine rm_get (k := 3) C f_X12_16 dX12_keeps_2 rfl rfl hM rfl ?_
  refine rm_put (k := 29) C f_X12_133 dX12_keeps_5 rfl rfl hM rfl ?_
  refine bnd_elim (P := fun (Z : MM) => wr X 0 0 8 [.ref m, (.long 0)] [] (pm m h Z)) E (fun S1 E => ?_)
  refine r_iconst (v := 0) C dX12_keeps_8 (by decide) ?_
  refine r_istore_n (i := 1) C dX12_keeps_9 rfl (Nat.le_of_ble_eq_true rfl) ?_
  refine z_keeps_10 C hM E0 _ _ _ E (fun S8 w7 E => ?_)
  refine r_iconst (v := 0) C dX12_keeps_36 (by decide) ?_
  refine r_istore_n (i := 1) C dX12_keeps_37 rfl (Nat.le_of_ble_eq_true rfl) ?_
  refine z_keeps_38 C hM E0 _ _ _ E (fun S15 w14 E => ?_)
  refine r_iconst (v := 0) C dX12_keeps_67 (by decide) ?_
  refine r_istore_n (i := 1) C dX12_keeps_68 rfl (Nat.le_of_ble_eq_true rfl) ?_
  refine z_keeps_69 C hM E0 _ _ _ E

def m_isPart (a0 : Int32) (a1 : Int32) (a2 : Int32) : Int32 := if (m_in a0 ((-1) : Int32) (5 : Int32)) = (0 : Int32) then (0 : Int32) else if (m_in a1 (0 : Int32) (255 : Int32)) = (0 : Int32) then (0 : Int32) else if (m_in a2 (0 : Int32) (255 : Int32)) = (0 : Int32) then (0 : Int32) else (1 : Int32)
theorem z_isPart (l : Launch) (G : Gl) {h : Hp} {a0 a1 a2 : Int32} : MRw l G yX12_isPart (.code yX12_isPart cX12_isPart 3 (Option.some Jvm.ClassFile.FieldType.boolean)) 1 0 0 [.int a0, .int a1, .int a2] h (.inl (some (.int (m_isPart a0 a1 a2)), h)) := by
  refine mr_of (by decide +kernel) (Nat.le_of_ble_eq_true rfl) (ct3 rfl rfl rfl) (fun X hG hl C E0 => ?_)
  subst hG hl
  rw [m_isPart] at E0
  refine r_iload_n (i := 0) C dX12_isPart_0 rfl rfl ?_
  refine r_iconst (v := (-1)) C dX12_isPart_1 (by decide) ?_
  refine r_iconst (v := 5) C dX12_isPart_2 (by decide) ?_
  refine r_callSs C s_X12_129 (z_in _ _) dX12_isPart_3 (As := [_, _, _]) rfl rfl rfl (by first | exact Nat.le_refl _ | exact Nat.le_of_ble_eq_true rfl | omega) (Nat.le_of_ble_eq_true rfl) (by first | exact Nat.le_refl _ | exact Nat.le_of_ble_eq_true rfl | omega) (by first | exact Nat.le_refl _ | exact Nat.le_of_ble_eq_true rfl | omega) ?_
  have J4 : ∀ (u : Unit), wr X 0 0 36 [.int a0, .int a1, .int a2] [.int (if (m_in a0 ((-1) : Int32) (5 : Int32)) = (0 : Int32) then (0 : Int32) else if (m_in a1 (0 : Int32) (255 : Int32)) = (0 : Int32) then (0 : Int32) else if (m_in a2 (0 : Int32) (255 : Int32)) = (0 : Int32) then (0 : Int32) else (1 : Int32))] h := by
    intro u
    exact r_iret C E0 dX12_isPart_36 rfl (bo_nar (by first | exact Or.inl rfl | exact Or.inr rfl | assumption | exact b_canBe | exact b_in | exact b_isRule | (repeat' split) <;> first | exact Or.inl rfl | exact Or.inr rfl | assumption | exact b_canBe | exact b_in | exact b_isRule)).1 (Nat.le_refl _) (Nat.le_refl _)
  refine r_if_eq (tgt := 35) C dX12_isPart_6 (by decide) (fun c_6_k1 => ?_) (fun c_6_k1 => ?_)
  · refine r_iconst (v := 0) C dX12_isPart_35 (by decide) ?_
    first | exact (J4  ()) | (simp only [if_pos c_6_k1] at J4; exact (J4  ()))
  · refine r_iload_n (i := 1) C dX12_isPart_9 rfl rfl ?_
    refine r_iconst (v := 0) C dX12_isPart_10 (by decide) ?_
    refine r_sipush (v := 255) C dX12_isPart_11 (by decide) ?_
    refine r_callSs C s_X12_129 (z_in _ _) dX12_isPart_14 (As := [_, _, _]) rfl rfl rfl (by first | exact Nat.le_refl _ | exact Nat.le_of_ble_eq_true rfl | omega) (Nat.le_of_ble_eq_true rfl) (by first | exact Nat.le_refl _ | exact Nat.le_of_ble_eq_true rfl | omega) (by first | exact Nat.le_refl _ | exact Nat.le_of_ble_eq_true rfl | omega) ?_
    refine r_if_eq (tgt := 35) C dX12_isPart_17 (by decide) (fun c_17_k2 => ?_) (fun c_17_k2 => ?_)
    · refine r_iconst (v := 0) C dX12_isPart_35 (by decide) ?_
      first | exact (J4  ()) | (simp only [if_neg c_6_k1, if_pos c_17_k2] at J4; exact (J4  ()))
    · refine r_iload_n (i := 2) C dX12_isPart_20 rfl rfl ?_
      refine r_iconst (v := 0) C dX12_isPart_21 (by decide) ?_
      refine r_sipush (v := 255) C dX12_isPart_22 (by decide) ?_
      refine r_callSs C s_X12_129 (z_in _ _) dX12_isPart_25 (As := [_, _, _]) rfl rfl rfl (by first | exact Nat.le_refl _ | exact Nat.le_of_ble_eq_true rfl | omega) (Nat.le_of_ble_eq_true rfl) (by first | exact Nat.le_refl _ | exact Nat.le_of_ble_eq_true rfl | omega) (by first | exact Nat.le_refl _ | exact Nat.le_of_ble_eq_true rfl | omega) ?_
      refine r_if_eq (tgt := 35) C dX12_isPart_28 (by decide) (fun c_28_k3 => ?_) (fun c_28_k3 => ?_)
      · refine r_iconst (v := 0) C dX12_isPart_35 (by decide) ?_
        first | exact (J4  ()) | (simp only [if_neg c_6_k1, if_neg c_17_k2, if_pos c_28_k3] at J4; exact (J4  ()))
      · refine r_iconst (v := 1) C dX12_isPart_31 (by decide) ?_
        refine r_goto (tgt := 36) C dX12_isPart_32 (by decide) ?_
        first | exact (J4  ()) | (simp only [if_neg c_6_k1, if_neg c_17_k2, if_neg c_28_k3] at J4; exact (J4  ()))
theorem b_isPart {a0 a1 a2 : Int32} : m_isPart a0 a1 a2 = 0 ∨ m_isPart a0 a1 a2 = 1 := by
  unfold m_isPart
  exact (by first | exact Or.inl rfl | exact Or.inr rfl | assumption | exact b_canBe | exact b_in | exact b_isRule | (repeat' split) <;> first | exact Or.inl rfl | exact Or.inr rfl | assumption | exact b_canBe | exact b_in | exact b_isRule)

def m_lay (S : MM) (a0 : Int32) (a1 : Int32) (a2 : Int32) (a3 : Int32) (a4 : Int32) : Option (MM) := if ix a0 48 then bnd (u2 S 12 (tn a0) a1) fun S1 => (bnd (u2 S1 13 (tn a0) a2) fun S3 => (bnd (u2 S3 14 (tn a0) a3) fun S4 => (bnd (u2 S4 15 (tn a0) a4) fun S5 => (some S5)))) else none
theorem z_lay (l : Launch) (G : Gl) {m : Nat} {h : Hp} (hM : MW m h) {S : MM} {a0 a1 a2 a3 a4 : Int32} {r : MM} (E : m_lay S a0 a1 a2 a3 a4 = some r) : MRw l G yX12_lay (.code yX12_lay cX12_lay 6 none) 0 0 0 [.ref m, .int a0, .int a1, .int a2, .int a3, .int a4] (pm m h S) (.inl (none, pm m h r)) := by
  refine mr_of (by decide +kernel) (Nat.le_of_ble_eq_true rfl) (ct6 rfl rfl rfl rfl rfl rfl) (fun X hG hl C E0 => ?_)
  subst hG hl
  rw [m_lay] at E
  refine r_aload_n (i := 0) C dX12_lay_0 rfl rfl (by first | rfl | exact isR_rf _) ?_
  refine rm_ref (k := 12) C f_X12_42 dX12_lay_1 rfl rfl hM rfl ?_
  refine r_iload_n (i := 1) C dX12_lay_4 rfl rfl ?_
  refine r_iload_n (i := 2) C dX12_lay_5 rfl rfl ?_
  obtain ⟨g2, E⟩ := gd_elim E
  refine rm_iast (k := 12) C dX12_lay_6 hM rfl rfl g2 ?_
  refine bnd_elim (P := fun (Z : MM) => wr X 0 0 7 [.ref m, .int a0, .int a1, .int a2, .int a3, .int a4] [] (pm m h Z)) E (fun S1 E => ?_)
  refine r_aload_n (i := 0) C dX12_lay_7 rfl rfl (by first | rfl | exact isR_rf _) ?_
  refine rm_ref (k := 13) C f_X12_45 dX12_lay_8 rfl rfl hM rfl ?_
  refine r_iload_n (i := 1) C dX12_lay_11 rfl rfl ?_
  refine r_iload_n (i := 3) C dX12_lay_12 rfl rfl ?_
  refine rm_iast (k := 13) C dX12_lay_13 hM rfl rfl g2 ?_
  refine bnd_elim (P := fun (Z : MM) => wr X 0 0 14 [.ref m, .int a0, .int a1, .int a2, .int a3, .int a4] [] (pm m h Z)) E (fun S3 E => ?_)
  refine r_aload_n (i := 0) C dX12_lay_14 rfl rfl (by first | rfl | exact isR_rf _) ?_
  refine rm_ref (k := 14) C f_X12_48 dX12_lay_15 rfl rfl hM rfl ?_
  refine r_iload_n (i := 1) C dX12_lay_18 rfl rfl ?_
  refine r_iload (i := 4) C dX12_lay_19 rfl ?_
  refine rm_iast (k := 14) C dX12_lay_21 hM rfl rfl g2 ?_
  refine bnd_elim (P := fun (Z : MM) => wr X 0 0 22 [.ref m, .int a0, .int a1, .int a2, .int a3, .int a4] [] (pm m h Z)) E (fun S4 E => ?_)
  refine r_aload_n (i := 0) C dX12_lay_22 rfl rfl (by first | rfl | exact isR_rf _) ?_
  refine rm_ref (k := 15) C f_X12_51 dX12_lay_23 rfl rfl hM rfl ?_
  refine r_iload_n (i := 1) C dX12_lay_26 rfl rfl ?_
  refine r_iload (i := 5) C dX12_lay_27 rfl ?_
  refine rm_iast (k := 15) C dX12_lay_29 hM rfl rfl g2 ?_
  refine bnd_elim (P := fun (Z : MM) => wr X 0 0 30 [.ref m, .int a0, .int a1, .int a2, .int a3, .int a4] [] (pm m h Z)) E (fun S5 E => ?_)
  obtain rfl := Option.some.inj E
  exact r_vret C E0 dX12_lay_30 rfl (Nat.le_refl _) (Nat.le_refl _)

