/-! ===== the model: changes, add, remove, dress, text, contain, window (by gen.py) ===== -/
def m_changes_47 (K0 : Int32 → Option (MM)) (S : MM) (x2 x3 : Int32) : Nat → Int32 → Int32 → Option (MM)
  | 0, _, _ => none
  | fu + 1, x4, x5 => if (14 : Int32) ≤ x5 then (K0 x4) else (if ix (((14 : Int32) * x2) + x5) 336 then if ix (((14 : Int32) * x3) + x5) 336 then bnd (if (S 23 (tn (((14 : Int32) * x2) + x5))) = (S 31 (tn (((14 : Int32) * x3) + x5))) then (1 : Int32) else (0 : Int32)) fun p23 => bnd (x4 &&& p23) fun p24 => (m_changes_47 K0 S x2 x3 fu p24 (x5 + 1)) else none else none)
theorem z_changes_47 {X : Ctx} {m : Nat} {h : Hp} (C : Cx X yX12_changes cX12_changes 6 none [] 6 0 0) (hM : MW m h) {K0 : Int32 → Option (MM)} {S : MM} {x2 x3 : Int32} {v1 : Value} {r : MM} (E0 : Ex X 0 0 (.inl (none, pm m h r))) : ∀ (fu : Nat) (x4 x5 : Int32) , m_changes_47 K0 S x2 x3 fu x4 x5 = some r → (∀ (y4 : Int32) (u5 : Value) , K0 y4 = some r → wr X 0 0 97 [.ref m, v1, .int x2, .int x3, .int y4, u5] [] (pm m h S)) → wr X 0 0 47 [.ref m, v1, .int x2, .int x3, .int x4, .int x5] [] (pm m h S) := by
  intro fu
  induction fu with
  | zero =>
    intro x4 x5 E hK0
    rw [m_changes_47] at E
    cases E
  | succ fu ih =>
    intro x4 x5 E hK0
    rw [m_changes_47] at E
    refine r_iload (i := 5) C dX12_changes_47 rfl ?_
    refine r_bipush (v := 14) C dX12_changes_49 (by decide) ?_
    refine r_ic_ge (tgt := 97) C dX12_changes_51 (by decide) (fun c_51 => ?_) (fun c_51 => ?_)
    · have E := ite_t E c_51
      exact hK0 _ _ E
    · have E := ite_f E c_51
      refine r_iload (i := 4) C dX12_changes_54 rfl ?_
      refine r_aload_n (i := 0) C dX12_changes_56 rfl rfl (by first | rfl | exact isR_rf _) ?_
      refine rm_ref (k := 23) C f_X12_75 dX12_changes_57 rfl rfl hM rfl ?_
      refine r_bipush (v := 14) C dX12_changes_60 (by decide) ?_
      refine r_iload_n (i := 2) C dX12_changes_62 rfl rfl ?_
      refine r_imul C dX12_changes_63 ?_
      refine r_iload (i := 5) C dX12_changes_64 rfl ?_
      refine r_iadd C dX12_changes_66 ?_
      obtain ⟨g18, E⟩ := gd_elim E
      refine rm_iald (k := 23) C dX12_changes_67 hM rfl rfl g18 ?_
      refine r_aload_n (i := 0) C dX12_changes_68 rfl rfl (by first | rfl | exact isR_rf _) ?_
      refine rm_ref (k := 31) C f_X12_96 dX12_changes_69 rfl rfl hM rfl ?_
      refine r_bipush (v := 14) C dX12_changes_72 (by decide) ?_
      refine r_iload_n (i := 3) C dX12_changes_74 rfl rfl ?_
      refine r_imul C dX12_changes_75 ?_
      refine r_iload (i := 5) C dX12_changes_76 rfl ?_
      refine r_iadd C dX12_changes_78 ?_
      obtain ⟨g20, E⟩ := gd_elim E
      refine rm_iald (k := 31) C dX12_changes_79 hM rfl rfl g20 ?_
      have J22 : ∀ (u : Unit), wr X 0 0 88 [.ref m, v1, .int x2, .int x3, .int x4, .int x5] [.int (if (S 23 (tn (((14 : Int32) * x2) + x5))) = (S 31 (tn (((14 : Int32) * x3) + x5))) then (1 : Int32) else (0 : Int32)), .int x4] (pm m h S) := by
        intro u
        refine bnd_elim (P := fun (z : Int32) => wr X 0 0 88 [.ref m, v1, .int x2, .int x3, .int x4, .int x5] [.int z, .int x4] (pm m h S)) E (fun p23 E => ?_)
        refine r_iand C dX12_changes_88 ?_
        refine bnd_elim (P := fun (z : Int32) => wr X 0 0 89 [.ref m, v1, .int x2, .int x3, .int x4, .int x5] [.int z] (pm m h S)) E (fun p24 E => ?_)
        refine r_istore (i := 4) C dX12_changes_89 (Nat.le_of_ble_eq_true rfl) ?_
        refine r_iinc1 (i := 5) C dX12_changes_91 rfl ?_
        refine r_goto (tgt := 47) C dX12_changes_94 (by decide) ?_
        exact ih _ _ E hK0
      refine r_ic_ne (tgt := 87) C dX12_changes_80 (by decide) (fun c_80_k21 => ?_) (fun c_80_k21 => ?_)
      · refine r_iconst (v := 0) C dX12_changes_87 (by decide) ?_
        first | exact (J22  ()) | (simp only [if_neg c_80_k21] at J22; exact (J22  ()))
      · refine r_iconst (v := 1) C dX12_changes_83 (by decide) ?_
        refine r_goto (tgt := 88) C dX12_changes_84 (by decide) ?_
        first | exact (J22  ()) | (simp only [if_pos c_80_k21] at J22; exact (J22  ()))
def m_changes_100 (K0 : Int32 → Option (MM)) (S : MM) (x2 x3 : Int32) : Nat → Int32 → Int32 → Option (MM)
  | 0, _, _ => none
  | fu + 1, x4, x5 => if (4 : Int32) ≤ x5 then (K0 x4) else (if ix (((4 : Int32) * x2) + x5) 96 then if ix (((4 : Int32) * x3) + x5) 96 then bnd (if (S 25 (tn (((4 : Int32) * x2) + x5))) = (S 32 (tn (((4 : Int32) * x3) + x5))) then (1 : Int32) else (0 : Int32)) fun p38 => bnd (x4 &&& p38) fun p39 => (m_changes_100 K0 S x2 x3 fu p39 (x5 + 1)) else none else none)
theorem z_changes_100 {X : Ctx} {m : Nat} {h : Hp} (C : Cx X yX12_changes cX12_changes 6 none [] 6 0 0) (hM : MW m h) {K0 : Int32 → Option (MM)} {S : MM} {x2 x3 : Int32} {v1 : Value} {r : MM} (E0 : Ex X 0 0 (.inl (none, pm m h r))) : ∀ (fu : Nat) (x4 x5 : Int32) , m_changes_100 K0 S x2 x3 fu x4 x5 = some r → (∀ (y4 : Int32) (u5 : Value) , K0 y4 = some r → wr X 0 0 147 [.ref m, v1, .int x2, .int x3, .int y4, u5] [] (pm m h S)) → wr X 0 0 100 [.ref m, v1, .int x2, .int x3, .int x4, .int x5] [] (pm m h S) := by
  intro fu
  induction fu with
  | zero =>
    intro x4 x5 E hK0
    rw [m_changes_100] at E
    cases E
  | succ fu ih =>
    intro x4 x5 E hK0
    rw [m_changes_100] at E
    refine r_iload (i := 5) C dX12_changes_100 rfl ?_
    refine r_iconst (v := 4) C dX12_changes_102 (by decide) ?_
    refine r_ic_ge (tgt := 147) C dX12_changes_103 (by decide) (fun c_103 => ?_) (fun c_103 => ?_)
    · have E := ite_t E c_103
      exact hK0 _ _ E
    · have E := ite_f E c_103
      refine r_iload (i := 4) C dX12_changes_106 rfl ?_
      refine r_aload_n (i := 0) C dX12_changes_108 rfl rfl (by first | rfl | exact isR_rf _) ?_
      refine rm_ref (k := 25) C f_X12_81 dX12_changes_109 rfl rfl hM rfl ?_
      refine r_iconst (v := 4) C dX12_changes_112 (by decide) ?_
      refine r_iload_n (i := 2) C dX12_changes_113 rfl rfl ?_
      refine r_imul C dX12_changes_114 ?_
      refine r_iload (i := 5) C dX12_changes_115 rfl ?_
      refine r_iadd C dX12_changes_117 ?_
      obtain ⟨g33, E⟩ := gd_elim E
      refine rm_iald (k := 25) C dX12_changes_118 hM rfl rfl g33 ?_
      refine r_aload_n (i := 0) C dX12_changes_119 rfl rfl (by first | rfl | exact isR_rf _) ?_
      refine rm_ref (k := 32) C f_X12_99 dX12_changes_120 rfl rfl hM rfl ?_
      refine r_iconst (v := 4) C dX12_changes_123 (by decide) ?_
      refine r_iload_n (i := 3) C dX12_changes_124 rfl rfl ?_
      refine r_imul C dX12_changes_125 ?_
      refine r_iload (i := 5) C dX12_changes_126 rfl ?_
      refine r_iadd C dX12_changes_128 ?_
      obtain ⟨g35, E⟩ := gd_elim E
      refine rm_iald (k := 32) C dX12_changes_129 hM rfl rfl g35 ?_
      have J37 : ∀ (u : Unit), wr X 0 0 138 [.ref m, v1, .int x2, .int x3, .int x4, .int x5] [.int (if (S 25 (tn (((4 : Int32) * x2) + x5))) = (S 32 (tn (((4 : Int32) * x3) + x5))) then (1 : Int32) else (0 : Int32)), .int x4] (pm m h S) := by
        intro u
        refine bnd_elim (P := fun (z : Int32) => wr X 0 0 138 [.ref m, v1, .int x2, .int x3, .int x4, .int x5] [.int z, .int x4] (pm m h S)) E (fun p38 E => ?_)
        refine r_iand C dX12_changes_138 ?_
        refine bnd_elim (P := fun (z : Int32) => wr X 0 0 139 [.ref m, v1, .int x2, .int x3, .int x4, .int x5] [.int z] (pm m h S)) E (fun p39 E => ?_)
        refine r_istore (i := 4) C dX12_changes_139 (Nat.le_of_ble_eq_true rfl) ?_
        refine r_iinc1 (i := 5) C dX12_changes_141 rfl ?_
        refine r_goto (tgt := 100) C dX12_changes_144 (by decide) ?_
        exact ih _ _ E hK0
      refine r_ic_ne (tgt := 137) C dX12_changes_130 (by decide) (fun c_130_k36 => ?_) (fun c_130_k36 => ?_)
      · refine r_iconst (v := 0) C dX12_changes_137 (by decide) ?_
        first | exact (J37  ()) | (simp only [if_neg c_130_k36] at J37; exact (J37  ()))
      · refine r_iconst (v := 1) C dX12_changes_133 (by decide) ?_
        refine r_goto (tgt := 138) C dX12_changes_134 (by decide) ?_
        first | exact (J37  ()) | (simp only [if_pos c_130_k36] at J37; exact (J37  ()))
def m_changes_18 (K0 : Int32 → MM → Option (MM)) (x2 : Int32) : Nat → Int32 → Int32 → MM → Option (MM)
  | 0, _, _, _ => none
  | fu + 1, x1, x3, S => if (S 29 0) ≤ x3 then (K0 x1 S) else (if ix x2 24 then if ix x3 24 then if (S 4 (tn x2)) = (S 30 (tn x3)) then (m_changes_47 (fun p25 => m_changes_100 (fun p40 => bnd (if p40 = (0 : Int32) then (0 : Int32) else (1 : Int32)) fun p44 => bnd (x1 + p44) fun p45 => (bnd (if p40 = (0 : Int32) then (1 : Int32) else (0 : Int32)) fun p48 => bnd (u2 S 33 0 ((S 33 0) + p48)) fun S49 => (m_changes_18 K0 x2 fu p45 (x3 + 1) S49))) S x2 x3 1000 p25 (0 : Int32)) S x2 x3 1000 (1 : Int32) (0 : Int32)) else (m_changes_18 K0 x2 fu x1 (x3 + 1) S) else none else none)
theorem z_changes_18 {X : Ctx} {m : Nat} {h : Hp} (C : Cx X yX12_changes cX12_changes 6 none [] 6 0 0) (hM : MW m h) {K0 : Int32 → MM → Option (MM)} {x2 : Int32} {r : MM} (E0 : Ex X 0 0 (.inl (none, pm m h r))) : ∀ (fu : Nat) (x1 x3 : Int32) (S : MM) (u4 u5 : Value) , m_changes_18 K0 x2 fu x1 x3 S = some r → (∀ (y1 : Int32) (S2 : MM) (u3 u4 u5 : Value) , K0 y1 S2 = some r → wr X 0 0 185 [.ref m, .int y1, .int x2, u3, u4, u5] [] (pm m h S2)) → wr X 0 0 18 [.ref m, .int x1, .int x2, .int x3, u4, u5] [] (pm m h S) := by
  intro fu
  induction fu with
  | zero =>
    intro x1 x3 S u4 u5 E hK0
    rw [m_changes_18] at E
    cases E
  | succ fu ih =>
    intro x1 x3 S u4 u5 E hK0
    rw [m_changes_18] at E
    refine r_iload_n (i := 3) C dX12_changes_18 rfl rfl ?_
    refine r_aload_n (i := 0) C dX12_changes_19 rfl rfl (by first | rfl | exact isR_rf _) ?_
    refine rm_get (k := 29) C f_X12_133 dX12_changes_20 rfl rfl hM rfl ?_
    refine r_ic_ge (tgt := 185) C dX12_changes_23 (by decide) (fun c_23 => ?_) (fun c_23 => ?_)
    · have E := ite_t E c_23
      exact hK0 _ _ _ _ _ E
    · have E := ite_f E c_23
      refine r_aload_n (i := 0) C dX12_changes_26 rfl rfl (by first | rfl | exact isR_rf _) ?_
      refine rm_ref (k := 4) C f_X12_19 dX12_changes_27 rfl rfl hM rfl ?_
      refine r_iload_n (i := 2) C dX12_changes_30 rfl rfl ?_
      obtain ⟨g8, E⟩ := gd_elim E
      refine rm_iald (k := 4) C dX12_changes_31 hM rfl rfl g8 ?_
      refine r_aload_n (i := 0) C dX12_changes_32 rfl rfl (by first | rfl | exact isR_rf _) ?_
      refine rm_ref (k := 30) C f_X12_93 dX12_changes_33 rfl rfl hM rfl ?_
      refine r_iload_n (i := 3) C dX12_changes_36 rfl rfl ?_
      obtain ⟨g10, E⟩ := gd_elim E
      refine rm_iald (k := 30) C dX12_changes_37 hM rfl rfl g10 ?_
      refine r_ic_ne (tgt := 179) C dX12_changes_38 (by decide) (fun c_38 => ?_) (fun c_38 => ?_)
      · have E := ite_f E c_38
        refine r_iinc1 (i := 3) C dX12_changes_179 rfl ?_
        refine r_goto (tgt := 18) C dX12_changes_182 (by decide) ?_
        exact ih _ _ _ _ _ E hK0
      · have E := ite_t E c_38
        refine r_iconst (v := 1) C dX12_changes_41 (by decide) ?_
        refine r_istore (i := 4) C dX12_changes_42 (Nat.le_of_ble_eq_true rfl) ?_
        refine r_iconst (v := 0) C dX12_changes_44 (by decide) ?_
        refine r_istore (i := 5) C dX12_changes_45 (Nat.le_of_ble_eq_true rfl) ?_
        refine z_changes_47 C hM E0 _ _ _ E (fun p25 w26 E => ?_)
        refine r_iconst (v := 0) C dX12_changes_97 (by decide) ?_
        refine r_istore (i := 5) C dX12_changes_98 (Nat.le_of_ble_eq_true rfl) ?_
        refine z_changes_100 C hM E0 _ _ _ E (fun p40 w41 E => ?_)
        refine r_iload_n (i := 1) C dX12_changes_147 rfl rfl ?_
        refine r_iload (i := 4) C dX12_changes_148 rfl ?_
        have J43 : ∀ (u : Unit), wr X 0 0 158 [.ref m, .int x1, .int x2, .int x3, .int p40, w41] [.int (if p40 = (0 : Int32) then (0 : Int32) else (1 : Int32)), .int x1] (pm m h S) := by
          intro u
          refine bnd_elim (P := fun (z : Int32) => wr X 0 0 158 [.ref m, .int x1, .int x2, .int x3, .int p40, w41] [.int z, .int x1] (pm m h S)) E (fun p44 E => ?_)
          refine r_iadd C dX12_changes_158 ?_
          refine bnd_elim (P := fun (z : Int32) => wr X 0 0 159 [.ref m, .int x1, .int x2, .int x3, .int p40, w41] [.int z] (pm m h S)) E (fun p45 E => ?_)
          refine r_istore_n (i := 1) C dX12_changes_159 rfl (Nat.le_of_ble_eq_true rfl) ?_
          refine r_aload_n (i := 0) C dX12_changes_160 rfl rfl (by first | rfl | exact isR_rf _) ?_
          refine r_dup C (by first | rfl | exact isR_cat (isR_rf _)) dX12_changes_161 ?_
          refine rm_get (k := 33) C f_X12_136 dX12_changes_162 rfl rfl hM rfl ?_
          refine r_iload (i := 4) C dX12_changes_165 rfl ?_
          have J47 : ∀ (u : Unit), wr X 0 0 175 [.ref m, .int p45, .int x2, .int x3, .int p40, w41] [.int (if p40 = (0 : Int32) then (1 : Int32) else (0 : Int32)), .int (S 33 0), .ref m] (pm m h S) := by
            intro u
            refine bnd_elim (P := fun (z : Int32) => wr X 0 0 175 [.ref m, .int p45, .int x2, .int x3, .int p40, w41] [.int z, .int (S 33 0), .ref m] (pm m h S)) E (fun p48 E => ?_)
            refine r_iadd C dX12_changes_175 ?_
            refine rm_put (k := 33) C f_X12_136 dX12_changes_176 rfl rfl hM rfl ?_
            refine bnd_elim (P := fun (Z : MM) => wr X 0 0 179 [.ref m, .int p45, .int x2, .int x3, .int p40, w41] [] (pm m h Z)) E (fun S49 E => ?_)
            refine r_iinc1 (i := 3) C dX12_changes_179 rfl ?_
            refine r_goto (tgt := 18) C dX12_changes_182 (by decide) ?_
            exact ih _ _ _ _ _ E hK0
          refine r_if_eq (tgt := 174) C dX12_changes_167 (by decide) (fun c_167_k46 => ?_) (fun c_167_k46 => ?_)
          · refine r_iconst (v := 1) C dX12_changes_174 (by decide) ?_
            first | exact (J47  ()) | (simp only [if_pos c_167_k46] at J47; exact (J47  ()))
          · refine r_iconst (v := 0) C dX12_changes_170 (by decide) ?_
            refine r_goto (tgt := 175) C dX12_changes_171 (by decide) ?_
            first | exact (J47  ()) | (simp only [if_neg c_167_k46] at J47; exact (J47  ()))
        refine r_if_eq (tgt := 157) C dX12_changes_150 (by decide) (fun c_150_k42 => ?_) (fun c_150_k42 => ?_)
        · refine r_iconst (v := 0) C dX12_changes_157 (by decide) ?_
          first | exact (J43  ()) | (simp only [if_pos c_150_k42] at J43; exact (J43  ()))
        · refine r_iconst (v := 1) C dX12_changes_153 (by decide) ?_
          refine r_goto (tgt := 158) C dX12_changes_154 (by decide) ?_
          first | exact (J43  ()) | (simp only [if_neg c_150_k42] at J43; exact (J43  ()))
def m_changes_8 (K0 : Int32 → MM → Option (MM)) : Nat → Int32 → Int32 → MM → Option (MM)
  | 0, _, _, _ => none
  | fu + 1, x1, x2, S => if (S 3 0) ≤ x2 then (K0 x1 S) else (m_changes_18 (fun p50 S54 => m_changes_8 K0 fu p50 (x2 + 1) S54) x2 1000 x1 (0 : Int32) S)
theorem z_changes_8 {X : Ctx} {m : Nat} {h : Hp} (C : Cx X yX12_changes cX12_changes 6 none [] 6 0 0) (hM : MW m h) {K0 : Int32 → MM → Option (MM)} {r : MM} (E0 : Ex X 0 0 (.inl (none, pm m h r))) : ∀ (fu : Nat) (x1 x2 : Int32) (S : MM) (u3 u4 u5 : Value) , m_changes_8 K0 fu x1 x2 S = some r → (∀ (y1 : Int32) (S2 : MM) (u2 u3 u4 u5 : Value) , K0 y1 S2 = some r → wr X 0 0 191 [.ref m, .int y1, u2, u3, u4, u5] [] (pm m h S2)) → wr X 0 0 8 [.ref m, .int x1, .int x2, u3, u4, u5] [] (pm m h S) := by
  intro fu
  induction fu with
  | zero =>
    intro x1 x2 S u3 u4 u5 E hK0
    rw [m_changes_8] at E
    cases E
  | succ fu ih =>
    intro x1 x2 S u3 u4 u5 E hK0
    rw [m_changes_8] at E
    refine r_iload_n (i := 2) C dX12_changes_8 rfl rfl ?_
    refine r_aload_n (i := 0) C dX12_changes_9 rfl rfl (by first | rfl | exact isR_rf _) ?_
    refine rm_get (k := 3) C f_X12_16 dX12_changes_10 rfl rfl hM rfl ?_
    refine r_ic_ge (tgt := 191) C dX12_changes_13 (by decide) (fun c_13 => ?_) (fun c_13 => ?_)
    · have E := ite_t E c_13
      exact hK0 _ _ _ _ _ _ E
    · have E := ite_f E c_13
      refine r_iconst (v := 0) C dX12_changes_16 (by decide) ?_
      refine r_istore_n (i := 3) C dX12_changes_17 rfl (Nat.le_of_ble_eq_true rfl) ?_
      refine z_changes_18 C hM E0 _ _ _ _ _ _ E (fun p50 S54 w51 w52 w53 E => ?_)
      refine r_iinc1 (i := 2) C dX12_changes_185 rfl ?_
      refine r_goto (tgt := 8) C dX12_changes_188 (by decide) ?_
      exact ih _ _ _ _ _ _ E hK0
def m_changes (S : MM) : Option (MM) := bd (m_finds S) fun S1 => (m_changes_8 (fun p55 S60 => bnd (p55 + (S60 33 0)) fun p61 => (bnd (u2 S60 33 0 ((S60 33 0) + ((((S60 3 0) - p61) + (S60 29 0)) - p61))) fun S62 => (some S62))) 1000 (0 : Int32) (0 : Int32) S1)
theorem z_changes (l : Launch) (G : Gl) {m : Nat} {h : Hp} (hM : MW m h) {S : MM} {r : MM} (E : m_changes S = some r) : MRw l G yX12_changes (.code yX12_changes cX12_changes 6 none) 6 0 0 [.ref m] (pm m h S) (.inl (none, pm m h r)) := by
  refine mr_of (by decide +kernel) (Nat.le_of_ble_eq_true rfl) (ct1 rfl) (fun X hG hl C E0 => ?_)
  subst hG hl
  rw [m_changes] at E
  refine r_aload_n (i := 0) C dX12_changes_0 rfl rfl (by first | rfl | exact isR_rf _) ?_
  obtain ⟨S1, q, E⟩ := bd_elim E
  refine r_callVn C v_X12_120 (z_finds _ _ hM q) dX12_changes_1 hM.1 (ci := 10) (by decide) rfl rfl (As := []) rfl rfl rfl (by first | exact Nat.le_refl _ | exact Nat.le_of_ble_eq_true rfl | omega) (Nat.le_of_ble_eq_true rfl) (by first | exact Nat.le_refl _ | exact Nat.le_of_ble_eq_true rfl | omega) (by first | exact Nat.le_refl _ | exact Nat.le_of_ble_eq_true rfl | omega) ?_
  refine r_iconst (v := 0) C dX12_changes_4 (by decide) ?_
  refine r_istore_n (i := 1) C dX12_changes_5 rfl (Nat.le_of_ble_eq_true rfl) ?_
  refine r_iconst (v := 0) C dX12_changes_6 (by decide) ?_
  refine r_istore_n (i := 2) C dX12_changes_7 rfl (Nat.le_of_ble_eq_true rfl) ?_
  refine z_changes_8 C hM E0 _ _ _ _ _ _ _ E (fun p55 S60 w56 w57 w58 w59 E => ?_)
  refine r_iload_n (i := 1) C dX12_changes_191 rfl rfl ?_
  refine r_aload_n (i := 0) C dX12_changes_192 rfl rfl (by first | rfl | exact isR_rf _) ?_
  refine rm_get (k := 33) C f_X12_136 dX12_changes_193 rfl rfl hM rfl ?_
  refine r_iadd C dX12_changes_196 ?_
  refine bnd_elim (P := fun (z : Int32) => wr X 0 0 197 [.ref m, .int p55, w56, w57, w58, w59] [.int z] (pm m h S60)) E (fun p61 E => ?_)
  refine r_istore_n (i := 2) C dX12_changes_197 rfl (Nat.le_of_ble_eq_true rfl) ?_
  refine r_aload_n (i := 0) C dX12_changes_198 rfl rfl (by first | rfl | exact isR_rf _) ?_
  refine r_dup C (by first | rfl | exact isR_cat (isR_rf _)) dX12_changes_199 ?_
  refine rm_get (k := 33) C f_X12_136 dX12_changes_200 rfl rfl hM rfl ?_
  refine r_aload_n (i := 0) C dX12_changes_203 rfl rfl (by first | rfl | exact isR_rf _) ?_
  refine rm_get (k := 3) C f_X12_16 dX12_changes_204 rfl rfl hM rfl ?_
  refine r_iload_n (i := 2) C dX12_changes_207 rfl rfl ?_
  refine r_isub C dX12_changes_208 ?_
  refine r_aload_n (i := 0) C dX12_changes_209 rfl rfl (by first | rfl | exact isR_rf _) ?_
  refine rm_get (k := 29) C f_X12_133 dX12_changes_210 rfl rfl hM rfl ?_
  refine r_iadd C dX12_changes_213 ?_
  refine r_iload_n (i := 2) C dX12_changes_214 rfl rfl ?_
  refine r_isub C dX12_changes_215 ?_
  refine r_iadd C dX12_changes_216 ?_
  refine rm_put (k := 33) C f_X12_136 dX12_changes_217 rfl rfl hM rfl ?_
  refine bnd_elim (P := fun (Z : MM) => wr X 0 0 220 [.ref m, .int p55, .int p61, w57, w58, w59] [] (pm m h Z)) E (fun S62 E => ?_)
  obtain rfl := Option.some.inj E
  exact r_vret C E0 dX12_changes_220 rfl (Nat.le_refl _) (Nat.le_refl _)

def m_add (S : MM) (a0 : Int32) (a1 : Int32) (a2 : Int32) : Option (Int32 × MM) := bd (m_placeOf S a0) fun p1 => (bnd (if p1 = ((-1) : Int32) then (0 : Int32) else (1 : Int32)) fun p4 => bnd (if (m_in a1 (0 : Int32) (5 : Int32)) = (0 : Int32) then (0 : Int32) else if (m_in a2 (0 : Int32) (255 : Int32)) = (0 : Int32) then (0 : Int32) else (1 : Int32)) fun p8 => bnd (if (24 : Int32) ≤ (S 3 0) then (0 : Int32) else (1 : Int32)) fun p11 => bd2 (m_asked__ S p4 p8 p11) fun p12 S13 => (if p12 = (0 : Int32) then (some ((0 : Int32), S13)) else (bd (m_keeps S13) fun S14 => (if ix (S14 3 0) 24 then bnd (u2 S14 4 (tn (S14 3 0)) (S14 2 0)) fun S15 => (if ix (S15 3 0) 24 then bnd (u2 S15 5 (tn (S15 3 0)) p1) fun S17 => (if ix (S17 3 0) 24 then bnd (u2 S17 6 (tn (S17 3 0)) a1) fun S19 => (if ix (S19 3 0) 24 then bnd (u2 S19 7 (tn (S19 3 0)) a2) fun S21 => (if ix (S21 3 0) 24 then bnd (u2 S21 8 (tn (S21 3 0)) (0 : Int32)) fun S23 => (if ix (S23 3 0) 24 then bnd (u2 S23 9 (tn (S23 3 0)) (0 : Int32)) fun S25 => (bnd (u2 S25 3 0 ((S25 3 0) + (1 : Int32))) fun S27 => (bnd (u2 S27 2 0 ((S27 2 0) + (1 : Int32))) fun S28 => (bnd (u2 S28 33 0 (0 : Int32)) fun S29 => (bd (m_changes S29) fun S30 => (some ((S30 2 0) - (1 : Int32), S30)))))) else none) else none) else none) else none) else none) else none))))
theorem z_add (l : Launch) (G : Gl) {m : Nat} {h : Hp} (hM : MW m h) {S : MM} {a0 a1 a2 : Int32} {r : Int32 × MM} (E : m_add S a0 a1 a2 = some r) : MRw l G yX12_add (.code yX12_add cX12_add 5 (Option.some Jvm.ClassFile.FieldType.int)) 7 0 0 [.ref m, .int a0, .int a1, .int a2] (pm m h S) (.inl (some (.int r.1), pm m h r.2)) := by
  refine mr_of (by decide +kernel) (Nat.le_of_ble_eq_true rfl) (ct4 rfl rfl rfl rfl) (fun X hG hl C E0 => ?_)
  subst hG hl
  rw [m_add] at E
  refine r_aload_n (i := 0) C dX12_add_0 rfl rfl (by first | rfl | exact isR_rf _) ?_
  refine r_iload_n (i := 1) C dX12_add_1 rfl rfl ?_
  obtain ⟨p1, q, E⟩ := bd_elim E
  refine r_callVs C v_X12_139 (z_placeOf _ _ hM q) dX12_add_2 hM.1 (ci := 10) (by decide) rfl rfl (As := [_]) rfl rfl rfl (by first | exact Nat.le_refl _ | exact Nat.le_of_ble_eq_true rfl | omega) (Nat.le_of_ble_eq_true rfl) (by first | exact Nat.le_refl _ | exact Nat.le_of_ble_eq_true rfl | omega) (by first | exact Nat.le_refl _ | exact Nat.le_of_ble_eq_true rfl | omega) ?_
  refine r_istore (i := 4) C dX12_add_5 (Nat.le_of_ble_eq_true rfl) ?_
  refine r_aload_n (i := 0) C dX12_add_7 rfl rfl (by first | rfl | exact isR_rf _) ?_
  refine r_iload (i := 4) C dX12_add_8 rfl ?_
  refine r_iconst (v := (-1)) C dX12_add_10 (by decide) ?_
  have J3 : ∀ (u : Unit), wr X 0 0 19 [.ref m, .int a0, .int a1, .int a2, .int p1] [.int (if p1 = ((-1) : Int32) then (0 : Int32) else (1 : Int32)), .ref m] (pm m h S) := by
    intro u
    refine bnd_elim (P := fun (z : Int32) => wr X 0 0 19 [.ref m, .int a0, .int a1, .int a2, .int p1] [.int z, .ref m] (pm m h S)) E (fun p4 E => ?_)
    refine r_iload_n (i := 2) C dX12_add_19 rfl rfl ?_
    refine r_iconst (v := 0) C dX12_add_20 (by decide) ?_
    refine r_iconst (v := 5) C dX12_add_21 (by decide) ?_
    refine r_callSs C s_X12_129 (z_in _ _) dX12_add_22 (As := [_, _, _]) rfl rfl rfl (by first | exact Nat.le_refl _ | exact Nat.le_of_ble_eq_true rfl | omega) (Nat.le_of_ble_eq_true rfl) (by first | exact Nat.le_refl _ | exact Nat.le_of_ble_eq_true rfl | omega) (by first | exact Nat.le_refl _ | exact Nat.le_of_ble_eq_true rfl | omega) ?_
    have J7 : ∀ (u : Unit), wr X 0 0 44 [.ref m, .int a0, .int a1, .int a2, .int p1] [.int (if (m_in a1 (0 : Int32) (5 : Int32)) = (0 : Int32) then (0 : Int32) else if (m_in a2 (0 : Int32) (255 : Int32)) = (0 : Int32) then (0 : Int32) else (1 : Int32)), .int p4, .ref m] (pm m h S) := by
      intro u
      refine bnd_elim (P := fun (z : Int32) => wr X 0 0 44 [.ref m, .int a0, .int a1, .int a2, .int p1] [.int z, .int p4, .ref m] (pm m h S)) E (fun p8 E => ?_)
      refine r_aload_n (i := 0) C dX12_add_44 rfl rfl (by first | rfl | exact isR_rf _) ?_
      refine rm_get (k := 3) C f_X12_16 dX12_add_45 rfl rfl hM rfl ?_
      refine r_bipush (v := 24) C dX12_add_48 (by decide) ?_
      have J10 : ∀ (u : Unit), wr X 0 0 58 [.ref m, .int a0, .int a1, .int a2, .int p1] [.int (if (24 : Int32) ≤ (S 3 0) then (0 : Int32) else (1 : Int32)), .int p8, .int p4, .ref m] (pm m h S) := by
        intro u
        refine bnd_elim (P := fun (z : Int32) => wr X 0 0 58 [.ref m, .int a0, .int a1, .int a2, .int p1] [.int z, .int p8, .int p4, .ref m] (pm m h S)) E (fun p11 E => ?_)
        obtain ⟨p12, S13, q, E⟩ := bd2_elim E
        refine r_callVs C v_X12_143 (z_asked__ _ _ hM q) dX12_add_58 hM.1 (ci := 10) (by decide) rfl rfl (As := [_, _, _]) rfl rfl rfl (by first | exact Nat.le_refl _ | exact Nat.le_of_ble_eq_true rfl | omega) (Nat.le_of_ble_eq_true rfl) (by first | exact Nat.le_refl _ | exact Nat.le_of_ble_eq_true rfl | omega) (by first | exact Nat.le_refl _ | exact Nat.le_of_ble_eq_true rfl | omega) ?_
        refine r_if_ne (tgt := 66) C dX12_add_61 (by decide) (fun c_61 => ?_) (fun c_61 => ?_)
        · have E := ite_f E c_61
          refine r_aload_n (i := 0) C dX12_add_66 rfl rfl (by first | rfl | exact isR_rf _) ?_
          obtain ⟨S14, q, E⟩ := bd_elim E
          refine r_callVn C v_X12_147 (z_keeps _ _ hM q) dX12_add_67 hM.1 (ci := 10) (by decide) rfl rfl (As := []) rfl rfl rfl (by first | exact Nat.le_refl _ | exact Nat.le_of_ble_eq_true rfl | omega) (Nat.le_of_ble_eq_true rfl) (by first | exact Nat.le_refl _ | exact Nat.le_of_ble_eq_true rfl | omega) (by first | exact Nat.le_refl _ | exact Nat.le_of_ble_eq_true rfl | omega) ?_
          refine r_aload_n (i := 0) C dX12_add_70 rfl rfl (by first | rfl | exact isR_rf _) ?_
          refine rm_ref (k := 4) C f_X12_19 dX12_add_71 rfl rfl hM rfl ?_
          refine r_aload_n (i := 0) C dX12_add_74 rfl rfl (by first | rfl | exact isR_rf _) ?_
          refine rm_get (k := 3) C f_X12_16 dX12_add_75 rfl rfl hM rfl ?_
          refine r_aload_n (i := 0) C dX12_add_78 rfl rfl (by first | rfl | exact isR_rf _) ?_
          refine rm_get (k := 2) C f_X12_13 dX12_add_79 rfl rfl hM rfl ?_
          obtain ⟨g16, E⟩ := gd_elim E
          refine rm_iast (k := 4) C dX12_add_82 hM rfl rfl g16 ?_
          refine bnd_elim (P := fun (Z : MM) => wr X 0 0 83 [.ref m, .int a0, .int a1, .int a2, .int p1] [] (pm m h Z)) E (fun S15 E => ?_)
          refine r_aload_n (i := 0) C dX12_add_83 rfl rfl (by first | rfl | exact isR_rf _) ?_
          refine rm_ref (k := 5) C f_X12_23 dX12_add_84 rfl rfl hM rfl ?_
          refine r_aload_n (i := 0) C dX12_add_87 rfl rfl (by first | rfl | exact isR_rf _) ?_
          refine rm_get (k := 3) C f_X12_16 dX12_add_88 rfl rfl hM rfl ?_
          refine r_iload (i := 4) C dX12_add_91 rfl ?_
          obtain ⟨g18, E⟩ := gd_elim E
          refine rm_iast (k := 5) C dX12_add_93 hM rfl rfl g18 ?_
          refine bnd_elim (P := fun (Z : MM) => wr X 0 0 94 [.ref m, .int a0, .int a1, .int a2, .int p1] [] (pm m h Z)) E (fun S17 E => ?_)
          refine r_aload_n (i := 0) C dX12_add_94 rfl rfl (by first | rfl | exact isR_rf _) ?_
          refine rm_ref (k := 6) C f_X12_26 dX12_add_95 rfl rfl hM rfl ?_
          refine r_aload_n (i := 0) C dX12_add_98 rfl rfl (by first | rfl | exact isR_rf _) ?_
          refine rm_get (k := 3) C f_X12_16 dX12_add_99 rfl rfl hM rfl ?_
          refine r_iload_n (i := 2) C dX12_add_102 rfl rfl ?_
          obtain ⟨g20, E⟩ := gd_elim E
          refine rm_iast (k := 6) C dX12_add_103 hM rfl rfl g20 ?_
          refine bnd_elim (P := fun (Z : MM) => wr X 0 0 104 [.ref m, .int a0, .int a1, .int a2, .int p1] [] (pm m h Z)) E (fun S19 E => ?_)
          refine r_aload_n (i := 0) C dX12_add_104 rfl rfl (by first | rfl | exact isR_rf _) ?_
          refine rm_ref (k := 7) C f_X12_29 dX12_add_105 rfl rfl hM rfl ?_
          refine r_aload_n (i := 0) C dX12_add_108 rfl rfl (by first | rfl | exact isR_rf _) ?_
          refine rm_get (k := 3) C f_X12_16 dX12_add_109 rfl rfl hM rfl ?_
          refine r_iload_n (i := 3) C dX12_add_112 rfl rfl ?_
          obtain ⟨g22, E⟩ := gd_elim E
          refine rm_iast (k := 7) C dX12_add_113 hM rfl rfl g22 ?_
          refine bnd_elim (P := fun (Z : MM) => wr X 0 0 114 [.ref m, .int a0, .int a1, .int a2, .int p1] [] (pm m h Z)) E (fun S21 E => ?_)
          refine r_aload_n (i := 0) C dX12_add_114 rfl rfl (by first | rfl | exact isR_rf _) ?_
          refine rm_ref (k := 8) C f_X12_32 dX12_add_115 rfl rfl hM rfl ?_
          refine r_aload_n (i := 0) C dX12_add_118 rfl rfl (by first | rfl | exact isR_rf _) ?_
          refine rm_get (k := 3) C f_X12_16 dX12_add_119 rfl rfl hM rfl ?_
          refine r_iconst (v := 0) C dX12_add_122 (by decide) ?_
          obtain ⟨g24, E⟩ := gd_elim E
          refine rm_iast (k := 8) C dX12_add_123 hM rfl rfl g24 ?_
          refine bnd_elim (P := fun (Z : MM) => wr X 0 0 124 [.ref m, .int a0, .int a1, .int a2, .int p1] [] (pm m h Z)) E (fun S23 E => ?_)
          refine r_aload_n (i := 0) C dX12_add_124 rfl rfl (by first | rfl | exact isR_rf _) ?_
          refine rm_ref (k := 9) C f_X12_35 dX12_add_125 rfl rfl hM rfl ?_
          refine r_aload_n (i := 0) C dX12_add_128 rfl rfl (by first | rfl | exact isR_rf _) ?_
          refine rm_get (k := 3) C f_X12_16 dX12_add_129 rfl rfl hM rfl ?_
          refine r_iconst (v := 0) C dX12_add_132 (by decide) ?_
          obtain ⟨g26, E⟩ := gd_elim E
          refine rm_zast (k := 9) C dX12_add_133 hM rfl rfl g26 (by first | exact Or.inl rfl | exact Or.inr rfl | assumption | exact b_canBe | exact b_in | exact b_isRule | exact b_isPart | exact b_isPartOf | (repeat' split) <;> first | exact Or.inl rfl | exact Or.inr rfl | assumption | exact b_canBe | exact b_in | exact b_isRule | exact b_isPart | exact b_isPartOf) ?_
          refine bnd_elim (P := fun (Z : MM) => wr X 0 0 134 [.ref m, .int a0, .int a1, .int a2, .int p1] [] (pm m h Z)) E (fun S25 E => ?_)
          refine r_aload_n (i := 0) C dX12_add_134 rfl rfl (by first | rfl | exact isR_rf _) ?_
          refine r_dup C (by first | rfl | exact isR_cat (isR_rf _)) dX12_add_135 ?_
          refine rm_get (k := 3) C f_X12_16 dX12_add_136 rfl rfl hM rfl ?_
          refine r_iconst (v := 1) C dX12_add_139 (by decide) ?_
          refine r_iadd C dX12_add_140 ?_
          refine rm_put (k := 3) C f_X12_16 dX12_add_141 rfl rfl hM rfl ?_
          refine bnd_elim (P := fun (Z : MM) => wr X 0 0 144 [.ref m, .int a0, .int a1, .int a2, .int p1] [] (pm m h Z)) E (fun S27 E => ?_)
          refine r_aload_n (i := 0) C dX12_add_144 rfl rfl (by first | rfl | exact isR_rf _) ?_
          refine r_dup C (by first | rfl | exact isR_cat (isR_rf _)) dX12_add_145 ?_
          refine rm_get (k := 2) C f_X12_13 dX12_add_146 rfl rfl hM rfl ?_
          refine r_iconst (v := 1) C dX12_add_149 (by decide) ?_
          refine r_iadd C dX12_add_150 ?_
          refine rm_put (k := 2) C f_X12_13 dX12_add_151 rfl rfl hM rfl ?_
          refine bnd_elim (P := fun (Z : MM) => wr X 0 0 154 [.ref m, .int a0, .int a1, .int a2, .int p1] [] (pm m h Z)) E (fun S28 E => ?_)
          refine r_aload_n (i := 0) C dX12_add_154 rfl rfl (by first | rfl | exact isR_rf _) ?_
          refine r_iconst (v := 0) C dX12_add_155 (by decide) ?_
          refine rm_put (k := 33) C f_X12_136 dX12_add_156 rfl rfl hM rfl ?_
          refine bnd_elim (P := fun (Z : MM) => wr X 0 0 159 [.ref m, .int a0, .int a1, .int a2, .int p1] [] (pm m h Z)) E (fun S29 E => ?_)
          refine r_aload_n (i := 0) C dX12_add_159 rfl rfl (by first | rfl | exact isR_rf _) ?_
          obtain ⟨S30, q, E⟩ := bd_elim E
          refine r_callVn C v_X12_150 (z_changes _ _ hM q) dX12_add_160 hM.1 (ci := 10) (by decide) rfl rfl (As := []) rfl rfl rfl (by first | exact Nat.le_refl _ | exact Nat.le_of_ble_eq_true rfl | omega) (Nat.le_of_ble_eq_true rfl) (by first | exact Nat.le_refl _ | exact Nat.le_of_ble_eq_true rfl | omega) (by first | exact Nat.le_refl _ | exact Nat.le_of_ble_eq_true rfl | omega) ?_
          refine r_aload_n (i := 0) C dX12_add_163 rfl rfl (by first | rfl | exact isR_rf _) ?_
          refine rm_get (k := 2) C f_X12_13 dX12_add_164 rfl rfl hM rfl ?_
          refine r_iconst (v := 1) C dX12_add_167 (by decide) ?_
          refine r_isub C dX12_add_168 ?_
          obtain rfl := Option.some.inj E
          exact r_iret C E0 dX12_add_169 rfl rfl (Nat.le_refl _) (Nat.le_refl _)
        · have E := ite_t E c_61
          refine r_iconst (v := 0) C dX12_add_64 (by decide) ?_
          obtain rfl := Option.some.inj E
          exact r_iret C E0 dX12_add_65 rfl rfl (Nat.le_refl _) (Nat.le_refl _)
      refine r_ic_ge (tgt := 57) C dX12_add_50 (by decide) (fun c_50_k9 => ?_) (fun c_50_k9 => ?_)
      · refine r_iconst (v := 0) C dX12_add_57 (by decide) ?_
        first | exact (J10  ()) | (simp only [if_pos c_50_k9] at J10; exact (J10  ()))
      · refine r_iconst (v := 1) C dX12_add_53 (by decide) ?_
        refine r_goto (tgt := 58) C dX12_add_54 (by decide) ?_
        first | exact (J10  ()) | (simp only [if_neg c_50_k9] at J10; exact (J10  ()))
    refine r_if_eq (tgt := 43) C dX12_add_25 (by decide) (fun c_25_k5 => ?_) (fun c_25_k5 => ?_)
    · refine r_iconst (v := 0) C dX12_add_43 (by decide) ?_
      first | exact (J7  ()) | (simp only [if_pos c_25_k5] at J7; exact (J7  ()))
    · refine r_iload_n (i := 3) C dX12_add_28 rfl rfl ?_
      refine r_iconst (v := 0) C dX12_add_29 (by decide) ?_
      refine r_sipush (v := 255) C dX12_add_30 (by decide) ?_
      refine r_callSs C s_X12_129 (z_in _ _) dX12_add_33 (As := [_, _, _]) rfl rfl rfl (by first | exact Nat.le_refl _ | exact Nat.le_of_ble_eq_true rfl | omega) (Nat.le_of_ble_eq_true rfl) (by first | exact Nat.le_refl _ | exact Nat.le_of_ble_eq_true rfl | omega) (by first | exact Nat.le_refl _ | exact Nat.le_of_ble_eq_true rfl | omega) ?_
      refine r_if_eq (tgt := 43) C dX12_add_36 (by decide) (fun c_36_k6 => ?_) (fun c_36_k6 => ?_)
      · refine r_iconst (v := 0) C dX12_add_43 (by decide) ?_
        first | exact (J7  ()) | (simp only [if_neg c_25_k5, if_pos c_36_k6] at J7; exact (J7  ()))
      · refine r_iconst (v := 1) C dX12_add_39 (by decide) ?_
        refine r_goto (tgt := 44) C dX12_add_40 (by decide) ?_
        first | exact (J7  ()) | (simp only [if_neg c_25_k5, if_neg c_36_k6] at J7; exact (J7  ()))
  refine r_ic_eq (tgt := 18) C dX12_add_11 (by decide) (fun c_11_k2 => ?_) (fun c_11_k2 => ?_)
  · refine r_iconst (v := 0) C dX12_add_18 (by decide) ?_
    first | exact (J3  ()) | (simp only [if_pos c_11_k2] at J3; exact (J3  ()))
  · refine r_iconst (v := 1) C dX12_add_14 (by decide) ?_
    refine r_goto (tgt := 19) C dX12_add_15 (by decide) ?_
    first | exact (J3  ()) | (simp only [if_neg c_11_k2] at J3; exact (J3  ()))

def m_remove_49 (K0 : Int32 → MM → Option (Int32 × MM)) (x2 : Int32) : Nat → Int32 → Int32 → MM → Option (Int32 × MM)
  | 0, _, _, _ => none
  | fu + 1, x4, x5, S => if (S 3 0) ≤ x5 then (K0 x4 S) else (bd (m_isBelow S x5 x2) fun p12 => (if ix x5 24 then if (p12 = 0 ∨ p12 = 1) then bnd (u2 S 35 (tn x5) p12) fun S13 => (bnd (if (S13 35 (tn x5)) = (0 : Int32) then (0 : Int32) else (1 : Int32)) fun p18 => bnd (x4 + p18) fun p19 => (m_remove_49 K0 x2 fu p19 (x5 + 1) S13)) else none else none))
theorem z_remove_49 {X : Ctx} {m : Nat} {h : Hp} (C : Cx X yX12_remove cX12_remove 8 (Option.some Jvm.ClassFile.FieldType.int) [] 7 0 0) (hM : MW m h) {K0 : Int32 → MM → Option (Int32 × MM)} {x2 : Int32} {r : Int32 × MM} (E0 : Ex X 0 0 (.inl (some (.int r.1), pm m h r.2))) : ∀ (fu : Nat) (x4 x5 : Int32) (S : MM) (u1 u6 u7 : Value) , m_remove_49 K0 x2 fu x4 x5 S = some r → (∀ (y4 : Int32) (S2 : MM) (u1 u2 u5 u6 u7 : Value) , K0 y4 S2 = some r → wr X 0 0 92 [.ref m, u1, u2, .ref (m + mad 35), .int y4, u5, u6, u7] [] (pm m h S2)) → wr X 0 0 49 [.ref m, u1, .int x2, .ref (m + mad 35), .int x4, .int x5, u6, u7] [] (pm m h S) := by
  intro fu
  induction fu with
  | zero =>
    intro x4 x5 S u1 u6 u7 E hK0
    rw [m_remove_49] at E
    cases E
  | succ fu ih =>
    intro x4 x5 S u1 u6 u7 E hK0
    rw [m_remove_49] at E
    refine r_iload (i := 5) C dX12_remove_49 rfl ?_
    refine r_aload_n (i := 0) C dX12_remove_51 rfl rfl (by first | rfl | exact isR_rf _) ?_
    refine rm_get (k := 3) C f_X12_16 dX12_remove_52 rfl rfl hM rfl ?_
    refine r_ic_ge (tgt := 92) C dX12_remove_55 (by decide) (fun c_55 => ?_) (fun c_55 => ?_)
    · have E := ite_t E c_55
      exact hK0 _ _ _ _ _ _ _ E
    · have E := ite_f E c_55
      refine r_aload_n (i := 3) C dX12_remove_58 rfl rfl (by first | rfl | exact isR_rf _) ?_
      refine r_iload (i := 5) C dX12_remove_59 rfl ?_
      refine r_aload_n (i := 0) C dX12_remove_61 rfl rfl (by first | rfl | exact isR_rf _) ?_
      refine r_iload (i := 5) C dX12_remove_62 rfl ?_
      refine r_iload_n (i := 2) C dX12_remove_64 rfl rfl ?_
      obtain ⟨p12, q, E⟩ := bd_elim E
      refine r_callVs C v_X12_156 (z_isBelow _ _ hM q) dX12_remove_65 hM.1 (ci := 10) (by decide) rfl rfl (As := [_, _]) rfl rfl rfl (by first | exact Nat.le_refl _ | exact Nat.le_of_ble_eq_true rfl | omega) (Nat.le_of_ble_eq_true rfl) (by first | exact Nat.le_refl _ | exact Nat.le_of_ble_eq_true rfl | omega) (by first | exact Nat.le_refl _ | exact Nat.le_of_ble_eq_true rfl | omega) ?_
      obtain ⟨g14, E⟩ := gd_elim E
      obtain ⟨g15, E⟩ := gd_elim E
      refine rm_zast (k := 35) C dX12_remove_68 hM rfl rfl g14 g15 ?_
      refine bnd_elim (P := fun (Z : MM) => wr X 0 0 69 [.ref m, u1, .int x2, .ref (m + mad 35), .int x4, .int x5, u6, u7] [] (pm m h Z)) E (fun S13 E => ?_)
      refine r_iload (i := 4) C dX12_remove_69 rfl ?_
      refine r_aload_n (i := 3) C dX12_remove_71 rfl rfl (by first | rfl | exact isR_rf _) ?_
      refine r_iload (i := 5) C dX12_remove_72 rfl ?_
      refine rm_zald (k := 35) C dX12_remove_74 hM rfl rfl g14 ?_
      have J17 : ∀ (u : Unit), wr X 0 0 83 [.ref m, u1, .int x2, .ref (m + mad 35), .int x4, .int x5, u6, u7] [.int (if (S13 35 (tn x5)) = (0 : Int32) then (0 : Int32) else (1 : Int32)), .int x4] (pm m h S13) := by
        intro u
        refine bnd_elim (P := fun (z : Int32) => wr X 0 0 83 [.ref m, u1, .int x2, .ref (m + mad 35), .int x4, .int x5, u6, u7] [.int z, .int x4] (pm m h S13)) E (fun p18 E => ?_)
        refine r_iadd C dX12_remove_83 ?_
        refine bnd_elim (P := fun (z : Int32) => wr X 0 0 84 [.ref m, u1, .int x2, .ref (m + mad 35), .int x4, .int x5, u6, u7] [.int z] (pm m h S13)) E (fun p19 E => ?_)
        refine r_istore (i := 4) C dX12_remove_84 (Nat.le_of_ble_eq_true rfl) ?_
        refine r_iinc1 (i := 5) C dX12_remove_86 rfl ?_
        refine r_goto (tgt := 49) C dX12_remove_89 (by decide) ?_
        exact ih _ _ _ _ _ _ E hK0
      refine r_if_eq (tgt := 82) C dX12_remove_75 (by decide) (fun c_75_k16 => ?_) (fun c_75_k16 => ?_)
      · refine r_iconst (v := 0) C dX12_remove_82 (by decide) ?_
        first | exact (J17  ()) | (simp only [if_pos c_75_k16] at J17; exact (J17  ()))
      · refine r_iconst (v := 1) C dX12_remove_78 (by decide) ?_
        refine r_goto (tgt := 83) C dX12_remove_79 (by decide) ?_
        first | exact (J17  ()) | (simp only [if_neg c_75_k16] at J17; exact (J17  ()))
def m_remove_98 (K0 : Int32 → MM → Option (Int32 × MM)) : Nat → Int32 → Int32 → MM → Option (Int32 × MM)
  | 0, _, _, _ => none
  | fu + 1, x5, x6, S => if (S 3 0) ≤ x6 then (K0 x5 S) else (if ix x6 24 then bnd (u2 S 34 (tn x6) x5) fun S28 => (bnd (if (S28 35 (tn x6)) = (0 : Int32) then (1 : Int32) else (0 : Int32)) fun p32 => bnd (x5 + p32) fun p33 => (m_remove_98 K0 fu p33 (x6 + 1) S28)) else none)
theorem z_remove_98 {X : Ctx} {m : Nat} {h : Hp} (C : Cx X yX12_remove cX12_remove 8 (Option.some Jvm.ClassFile.FieldType.int) [] 7 0 0) (hM : MW m h) {K0 : Int32 → MM → Option (Int32 × MM)} {v4 : Value} {r : Int32 × MM} (E0 : Ex X 0 0 (.inl (some (.int r.1), pm m h r.2))) : ∀ (fu : Nat) (x5 x6 : Int32) (S : MM) (u1 u2 u7 : Value) , m_remove_98 K0 fu x5 x6 S = some r → (∀ (y5 : Int32) (S2 : MM) (u1 u2 u6 u7 : Value) , K0 y5 S2 = some r → wr X 0 0 139 [.ref m, u1, u2, .ref (m + mad 35), v4, .int y5, u6, u7] [] (pm m h S2)) → wr X 0 0 98 [.ref m, u1, u2, .ref (m + mad 35), v4, .int x5, .int x6, u7] [] (pm m h S) := by
  intro fu
  induction fu with
  | zero =>
    intro x5 x6 S u1 u2 u7 E hK0
    rw [m_remove_98] at E
    cases E
  | succ fu ih =>
    intro x5 x6 S u1 u2 u7 E hK0
    rw [m_remove_98] at E
    refine r_iload (i := 6) C dX12_remove_98 rfl ?_
    refine r_aload_n (i := 0) C dX12_remove_100 rfl rfl (by first | rfl | exact isR_rf _) ?_
    refine rm_get (k := 3) C f_X12_16 dX12_remove_101 rfl rfl hM rfl ?_
    refine r_ic_ge (tgt := 139) C dX12_remove_104 (by decide) (fun c_104 => ?_) (fun c_104 => ?_)
    · have E := ite_t E c_104
      exact hK0 _ _ _ _ _ _ E
    · have E := ite_f E c_104
      refine r_aload_n (i := 0) C dX12_remove_107 rfl rfl (by first | rfl | exact isR_rf _) ?_
      refine rm_ref (k := 34) C f_X12_102 dX12_remove_108 rfl rfl hM rfl ?_
      refine r_iload (i := 6) C dX12_remove_111 rfl ?_
      refine r_iload (i := 5) C dX12_remove_113 rfl ?_
      obtain ⟨g29, E⟩ := gd_elim E
      refine rm_iast (k := 34) C dX12_remove_115 hM rfl rfl g29 ?_
      refine bnd_elim (P := fun (Z : MM) => wr X 0 0 116 [.ref m, u1, u2, .ref (m + mad 35), v4, .int x5, .int x6, u7] [] (pm m h Z)) E (fun S28 E => ?_)
      refine r_iload (i := 5) C dX12_remove_116 rfl ?_
      refine r_aload_n (i := 3) C dX12_remove_118 rfl rfl (by first | rfl | exact isR_rf _) ?_
      refine r_iload (i := 6) C dX12_remove_119 rfl ?_
      refine rm_zald (k := 35) C dX12_remove_121 hM rfl rfl g29 ?_
      have J31 : ∀ (u : Unit), wr X 0 0 130 [.ref m, u1, u2, .ref (m + mad 35), v4, .int x5, .int x6, u7] [.int (if (S28 35 (tn x6)) = (0 : Int32) then (1 : Int32) else (0 : Int32)), .int x5] (pm m h S28) := by
        intro u
        refine bnd_elim (P := fun (z : Int32) => wr X 0 0 130 [.ref m, u1, u2, .ref (m + mad 35), v4, .int x5, .int x6, u7] [.int z, .int x5] (pm m h S28)) E (fun p32 E => ?_)
        refine r_iadd C dX12_remove_130 ?_
        refine bnd_elim (P := fun (z : Int32) => wr X 0 0 131 [.ref m, u1, u2, .ref (m + mad 35), v4, .int x5, .int x6, u7] [.int z] (pm m h S28)) E (fun p33 E => ?_)
        refine r_istore (i := 5) C dX12_remove_131 (Nat.le_of_ble_eq_true rfl) ?_
        refine r_iinc1 (i := 6) C dX12_remove_133 rfl ?_
        refine r_goto (tgt := 98) C dX12_remove_136 (by decide) ?_
        exact ih _ _ _ _ _ _ E hK0
      refine r_if_eq (tgt := 129) C dX12_remove_122 (by decide) (fun c_122_k30 => ?_) (fun c_122_k30 => ?_)
      · refine r_iconst (v := 1) C dX12_remove_129 (by decide) ?_
        first | exact (J31  ()) | (simp only [if_pos c_122_k30] at J31; exact (J31  ()))
      · refine r_iconst (v := 0) C dX12_remove_125 (by decide) ?_
        refine r_goto (tgt := 130) C dX12_remove_126 (by decide) ?_
        first | exact (J31  ()) | (simp only [if_neg c_122_k30] at J31; exact (J31  ()))
def m_remove_142 (K0 : MM → Option (Int32 × MM)) : Nat → Int32 → MM → Option (Int32 × MM)
  | 0, _, _ => none
  | fu + 1, x6, S => if (S 3 0) ≤ x6 then (K0 S) else (if ix x6 24 then if (S 35 (tn x6)) = (0 : Int32) then (bnd (S 34 (tn x6)) fun p46 => (if ix p46 24 then bnd (u2 S 4 (tn p46) (S 4 (tn x6))) fun S47 => (if (¬ ((S47 5 (tn x6)) = ((-1) : Int32)) → ix (S47 5 (tn x6)) 24) then bnd (if (S47 5 (tn x6)) = ((-1) : Int32) then ((-1) : Int32) else S47 34 (tn (S47 5 (tn x6)))) fun p53 => bnd (u2 S47 5 (tn p46) p53) fun S54 => (bnd (u2 S54 6 (tn p46) (S54 6 (tn x6))) fun S55 => (bnd (u2 S55 7 (tn p46) (S55 7 (tn x6))) fun S56 => (bnd (u2 S56 8 (tn p46) (S56 8 (tn x6))) fun S57 => (if (S57 9 (tn x6) = 0 ∨ S57 9 (tn x6) = 1) then bnd (u2 S57 9 (tn p46) (S57 9 (tn x6))) fun S58 => (m_remove_142 K0 fu (x6 + 1) S58) else none)))) else none) else none)) else (m_remove_142 K0 fu (x6 + 1) S) else none)
theorem z_remove_142 {X : Ctx} {m : Nat} {h : Hp} (C : Cx X yX12_remove cX12_remove 8 (Option.some Jvm.ClassFile.FieldType.int) [] 7 0 0) (hM : MW m h) {K0 : MM → Option (Int32 × MM)} {v4 v5 : Value} {r : Int32 × MM} (E0 : Ex X 0 0 (.inl (some (.int r.1), pm m h r.2))) : ∀ (fu : Nat) (x6 : Int32) (S : MM) (u1 u2 u7 : Value) , m_remove_142 K0 fu x6 S = some r → (∀ (S2 : MM) (u1 u2 u3 u6 u7 : Value) , K0 S2 = some r → wr X 0 0 277 [.ref m, u1, u2, u3, v4, v5, u6, u7] [] (pm m h S2)) → wr X 0 0 142 [.ref m, u1, u2, .ref (m + mad 35), v4, v5, .int x6, u7] [] (pm m h S) := by
  intro fu
  induction fu with
  | zero =>
    intro x6 S u1 u2 u7 E hK0
    rw [m_remove_142] at E
    cases E
  | succ fu ih =>
    intro x6 S u1 u2 u7 E hK0
    rw [m_remove_142] at E
    refine r_iload (i := 6) C dX12_remove_142 rfl ?_
    refine r_aload_n (i := 0) C dX12_remove_144 rfl rfl (by first | rfl | exact isR_rf _) ?_
    refine rm_get (k := 3) C f_X12_16 dX12_remove_145 rfl rfl hM rfl ?_
    refine r_ic_ge (tgt := 277) C dX12_remove_148 (by decide) (fun c_148 => ?_) (fun c_148 => ?_)
    · have E := ite_t E c_148
      exact hK0 _ _ _ _ _ _ E
    · have E := ite_f E c_148
      refine r_aload_n (i := 3) C dX12_remove_151 rfl rfl (by first | rfl | exact isR_rf _) ?_
      refine r_iload (i := 6) C dX12_remove_152 rfl ?_
      obtain ⟨g44, E⟩ := gd_elim E
      refine rm_zald (k := 35) C dX12_remove_154 hM rfl rfl g44 ?_
      refine r_if_ne (tgt := 271) C dX12_remove_155 (by decide) (fun c_155 => ?_) (fun c_155 => ?_)
      · have E := ite_f E c_155
        refine r_iinc1 (i := 6) C dX12_remove_271 rfl ?_
        refine r_goto (tgt := 142) C dX12_remove_274 (by decide) ?_
        exact ih _ _ _ _ _ E hK0
      · have E := ite_t E c_155
        refine r_aload_n (i := 0) C dX12_remove_158 rfl rfl (by first | rfl | exact isR_rf _) ?_
        refine rm_ref (k := 34) C f_X12_102 dX12_remove_159 rfl rfl hM rfl ?_
        refine r_iload (i := 6) C dX12_remove_162 rfl ?_
        refine rm_iald (k := 34) C dX12_remove_164 hM rfl rfl g44 ?_
        refine bnd_elim (P := fun (z : Int32) => wr X 0 0 165 [.ref m, u1, u2, .ref (m + mad 35), v4, v5, .int x6, u7] [.int z] (pm m h S)) E (fun p46 E => ?_)
        refine r_istore (i := 7) C dX12_remove_165 (Nat.le_of_ble_eq_true rfl) ?_
        refine r_aload_n (i := 0) C dX12_remove_167 rfl rfl (by first | rfl | exact isR_rf _) ?_
        refine rm_ref (k := 4) C f_X12_19 dX12_remove_168 rfl rfl hM rfl ?_
        refine r_iload (i := 7) C dX12_remove_171 rfl ?_
        refine r_aload_n (i := 0) C dX12_remove_173 rfl rfl (by first | rfl | exact isR_rf _) ?_
        refine rm_ref (k := 4) C f_X12_19 dX12_remove_174 rfl rfl hM rfl ?_
        refine r_iload (i := 6) C dX12_remove_177 rfl ?_
        refine rm_iald (k := 4) C dX12_remove_179 hM rfl rfl g44 ?_
        obtain ⟨g48, E⟩ := gd_elim E
        refine rm_iast (k := 4) C dX12_remove_180 hM rfl rfl g48 ?_
        refine bnd_elim (P := fun (Z : MM) => wr X 0 0 181 [.ref m, u1, u2, .ref (m + mad 35), v4, v5, .int x6, .int p46] [] (pm m h Z)) E (fun S47 E => ?_)
        refine r_aload_n (i := 0) C dX12_remove_181 rfl rfl (by first | rfl | exact isR_rf _) ?_
        refine rm_ref (k := 5) C f_X12_23 dX12_remove_182 rfl rfl hM rfl ?_
        refine r_iload (i := 7) C dX12_remove_185 rfl ?_
        refine r_aload_n (i := 0) C dX12_remove_187 rfl rfl (by first | rfl | exact isR_rf _) ?_
        refine rm_ref (k := 5) C f_X12_23 dX12_remove_188 rfl rfl hM rfl ?_
        refine r_iload (i := 6) C dX12_remove_191 rfl ?_
        refine rm_iald (k := 5) C dX12_remove_193 hM rfl rfl g44 ?_
        refine r_iconst (v := (-1)) C dX12_remove_194 (by decide) ?_
        obtain ⟨g51, E⟩ := gd_elim E
        have J52 : ∀ (u : Unit), wr X 0 0 214 [.ref m, u1, u2, .ref (m + mad 35), v4, v5, .int x6, .int p46] [.int (if (S47 5 (tn x6)) = ((-1) : Int32) then ((-1) : Int32) else S47 34 (tn (S47 5 (tn x6)))), .int p46, .ref (m + mad 5)] (pm m h S47) := by
          intro u
          refine bnd_elim (P := fun (z : Int32) => wr X 0 0 214 [.ref m, u1, u2, .ref (m + mad 35), v4, v5, .int x6, .int p46] [.int z, .int p46, .ref (m + mad 5)] (pm m h S47)) E (fun p53 E => ?_)
          refine rm_iast (k := 5) C dX12_remove_214 hM rfl rfl g48 ?_
          refine bnd_elim (P := fun (Z : MM) => wr X 0 0 215 [.ref m, u1, u2, .ref (m + mad 35), v4, v5, .int x6, .int p46] [] (pm m h Z)) E (fun S54 E => ?_)
          refine r_aload_n (i := 0) C dX12_remove_215 rfl rfl (by first | rfl | exact isR_rf _) ?_
          refine rm_ref (k := 6) C f_X12_26 dX12_remove_216 rfl rfl hM rfl ?_
          refine r_iload (i := 7) C dX12_remove_219 rfl ?_
          refine r_aload_n (i := 0) C dX12_remove_221 rfl rfl (by first | rfl | exact isR_rf _) ?_
          refine rm_ref (k := 6) C f_X12_26 dX12_remove_222 rfl rfl hM rfl ?_
          refine r_iload (i := 6) C dX12_remove_225 rfl ?_
          refine rm_iald (k := 6) C dX12_remove_227 hM rfl rfl g44 ?_
          refine rm_iast (k := 6) C dX12_remove_228 hM rfl rfl g48 ?_
          refine bnd_elim (P := fun (Z : MM) => wr X 0 0 229 [.ref m, u1, u2, .ref (m + mad 35), v4, v5, .int x6, .int p46] [] (pm m h Z)) E (fun S55 E => ?_)
          refine r_aload_n (i := 0) C dX12_remove_229 rfl rfl (by first | rfl | exact isR_rf _) ?_
          refine rm_ref (k := 7) C f_X12_29 dX12_remove_230 rfl rfl hM rfl ?_
          refine r_iload (i := 7) C dX12_remove_233 rfl ?_
          refine r_aload_n (i := 0) C dX12_remove_235 rfl rfl (by first | rfl | exact isR_rf _) ?_
          refine rm_ref (k := 7) C f_X12_29 dX12_remove_236 rfl rfl hM rfl ?_
          refine r_iload (i := 6) C dX12_remove_239 rfl ?_
          refine rm_iald (k := 7) C dX12_remove_241 hM rfl rfl g44 ?_
          refine rm_iast (k := 7) C dX12_remove_242 hM rfl rfl g48 ?_
          refine bnd_elim (P := fun (Z : MM) => wr X 0 0 243 [.ref m, u1, u2, .ref (m + mad 35), v4, v5, .int x6, .int p46] [] (pm m h Z)) E (fun S56 E => ?_)
          refine r_aload_n (i := 0) C dX12_remove_243 rfl rfl (by first | rfl | exact isR_rf _) ?_
          refine rm_ref (k := 8) C f_X12_32 dX12_remove_244 rfl rfl hM rfl ?_
          refine r_iload (i := 7) C dX12_remove_247 rfl ?_
          refine r_aload_n (i := 0) C dX12_remove_249 rfl rfl (by first | rfl | exact isR_rf _) ?_
          refine rm_ref (k := 8) C f_X12_32 dX12_remove_250 rfl rfl hM rfl ?_
          refine r_iload (i := 6) C dX12_remove_253 rfl ?_
          refine rm_iald (k := 8) C dX12_remove_255 hM rfl rfl g44 ?_
          refine rm_iast (k := 8) C dX12_remove_256 hM rfl rfl g48 ?_
          refine bnd_elim (P := fun (Z : MM) => wr X 0 0 257 [.ref m, u1, u2, .ref (m + mad 35), v4, v5, .int x6, .int p46] [] (pm m h Z)) E (fun S57 E => ?_)
          refine r_aload_n (i := 0) C dX12_remove_257 rfl rfl (by first | rfl | exact isR_rf _) ?_
          refine rm_ref (k := 9) C f_X12_35 dX12_remove_258 rfl rfl hM rfl ?_
          refine r_iload (i := 7) C dX12_remove_261 rfl ?_
          refine r_aload_n (i := 0) C dX12_remove_263 rfl rfl (by first | rfl | exact isR_rf _) ?_
          refine rm_ref (k := 9) C f_X12_35 dX12_remove_264 rfl rfl hM rfl ?_
          refine r_iload (i := 6) C dX12_remove_267 rfl ?_
          refine rm_zald (k := 9) C dX12_remove_269 hM rfl rfl g44 ?_
          obtain ⟨g59, E⟩ := gd_elim E
          refine rm_zast (k := 9) C dX12_remove_270 hM rfl rfl g48 g59 ?_
          refine bnd_elim (P := fun (Z : MM) => wr X 0 0 271 [.ref m, u1, u2, .ref (m + mad 35), v4, v5, .int x6, .int p46] [] (pm m h Z)) E (fun S58 E => ?_)
          refine r_iinc1 (i := 6) C dX12_remove_271 rfl ?_
          refine r_goto (tgt := 142) C dX12_remove_274 (by decide) ?_
          exact ih _ _ _ _ _ E hK0
        refine r_ic_ne (tgt := 202) C dX12_remove_195 (by decide) (fun c_195_k49 => ?_) (fun c_195_k49 => ?_)
        · refine r_aload_n (i := 0) C dX12_remove_202 rfl rfl (by first | rfl | exact isR_rf _) ?_
          refine rm_ref (k := 34) C f_X12_102 dX12_remove_203 rfl rfl hM rfl ?_
          refine r_aload_n (i := 0) C dX12_remove_206 rfl rfl (by first | rfl | exact isR_rf _) ?_
          refine rm_ref (k := 5) C f_X12_23 dX12_remove_207 rfl rfl hM rfl ?_
          refine r_iload (i := 6) C dX12_remove_210 rfl ?_
          refine rm_iald (k := 5) C dX12_remove_212 hM rfl rfl g44 ?_
          refine rm_iald (k := 34) C dX12_remove_213 hM rfl rfl (g51 c_195_k49) ?_
          first | exact (J52  ()) | (simp only [if_neg c_195_k49] at J52; exact (J52  ()))
        · refine r_iconst (v := (-1)) C dX12_remove_198 (by decide) ?_
          refine r_goto (tgt := 214) C dX12_remove_199 (by decide) ?_
          first | exact (J52  ()) | (simp only [if_pos c_195_k49] at J52; exact (J52  ()))
def m_remove (S : MM) (a0 : Int32) : Option (Int32 × MM) := bd (m_placeOf S a0) fun p1 => (bnd (if p1 = ((-1) : Int32) then (0 : Int32) else (1 : Int32)) fun p4 => bnd (if p1 = (0 : Int32) then (0 : Int32) else (1 : Int32)) fun p7 => bd2 (m_asked_ S p4 p7) fun p8 S9 => (if p8 = (0 : Int32) then (some ((0 : Int32), S9)) else (bd (m_keeps S9) fun S10 => (m_remove_49 (fun p20 S26 => m_remove_98 (fun p34 S39 => m_remove_142 (fun S65 => bnd (u2 S65 3 0 p34) fun S66 => (bnd (u2 S66 33 0 (0 : Int32)) fun S67 => (bd (m_changes S67) fun S68 => (some (p20, S68))))) 1000 (0 : Int32) S39) 1000 (0 : Int32) (0 : Int32) S26) p1 1000 (0 : Int32) (0 : Int32) S10))))
theorem z_remove (l : Launch) (G : Gl) {m : Nat} {h : Hp} (hM : MW m h) {S : MM} {a0 : Int32} {r : Int32 × MM} (E : m_remove S a0 = some r) : MRw l G yX12_remove (.code yX12_remove cX12_remove 8 (Option.some Jvm.ClassFile.FieldType.int)) 7 0 0 [.ref m, .int a0] (pm m h S) (.inl (some (.int r.1), pm m h r.2)) := by
  refine mr_of (by decide +kernel) (Nat.le_of_ble_eq_true rfl) (ct2 rfl rfl) (fun X hG hl C E0 => ?_)
  subst hG hl
  rw [m_remove] at E
  refine r_aload_n (i := 0) C dX12_remove_0 rfl rfl (by first | rfl | exact isR_rf _) ?_
  refine r_iload_n (i := 1) C dX12_remove_1 rfl rfl ?_
  obtain ⟨p1, q, E⟩ := bd_elim E
  refine r_callVs C v_X12_139 (z_placeOf _ _ hM q) dX12_remove_2 hM.1 (ci := 10) (by decide) rfl rfl (As := [_]) rfl rfl rfl (by first | exact Nat.le_refl _ | exact Nat.le_of_ble_eq_true rfl | omega) (Nat.le_of_ble_eq_true rfl) (by first | exact Nat.le_refl _ | exact Nat.le_of_ble_eq_true rfl | omega) (by first | exact Nat.le_refl _ | exact Nat.le_of_ble_eq_true rfl | omega) ?_
  refine r_istore_n (i := 2) C dX12_remove_5 rfl (Nat.le_of_ble_eq_true rfl) ?_
  refine r_aload_n (i := 0) C dX12_remove_6 rfl rfl (by first | rfl | exact isR_rf _) ?_
  refine r_iload_n (i := 2) C dX12_remove_7 rfl rfl ?_
  refine r_iconst (v := (-1)) C dX12_remove_8 (by decide) ?_
  have J3 : ∀ (u : Unit), wr X 0 0 17 [.ref m, .int a0, .int p1, (.long 0), (.long 0), (.long 0), (.long 0), (.long 0)] [.int (if p1 = ((-1) : Int32) then (0 : Int32) else (1 : Int32)), .ref m] (pm m h S) := by
    intro u
    refine bnd_elim (P := fun (z : Int32) => wr X 0 0 17 [.ref m, .int a0, .int p1, (.long 0), (.long 0), (.long 0), (.long 0), (.long 0)] [.int z, .ref m] (pm m h S)) E (fun p4 E => ?_)
    refine r_iload_n (i := 2) C dX12_remove_17 rfl rfl ?_
    have J6 : ∀ (u : Unit), wr X 0 0 26 [.ref m, .int a0, .int p1, (.long 0), (.long 0), (.long 0), (.long 0), (.long 0)] [.int (if p1 = (0 : Int32) then (0 : Int32) else (1 : Int32)), .int p4, .ref m] (pm m h S) := by
      intro u
      refine bnd_elim (P := fun (z : Int32) => wr X 0 0 26 [.ref m, .int a0, .int p1, (.long 0), (.long 0), (.long 0), (.long 0), (.long 0)] [.int z, .int p4, .ref m] (pm m h S)) E (fun p7 E => ?_)
      obtain ⟨p8, S9, q, E⟩ := bd2_elim E
      refine r_callVs C v_X12_153 (z_asked_ _ _ hM q) dX12_remove_26 hM.1 (ci := 10) (by decide) rfl rfl (As := [_, _]) rfl rfl rfl (by first | exact Nat.le_refl _ | exact Nat.le_of_ble_eq_true rfl | omega) (Nat.le_of_ble_eq_true rfl) (by first | exact Nat.le_refl _ | exact Nat.le_of_ble_eq_true rfl | omega) (by first | exact Nat.le_refl _ | exact Nat.le_of_ble_eq_true rfl | omega) ?_
      refine r_if_ne (tgt := 34) C dX12_remove_29 (by decide) (fun c_29 => ?_) (fun c_29 => ?_)
      · have E := ite_f E c_29
        refine r_aload_n (i := 0) C dX12_remove_34 rfl rfl (by first | rfl | exact isR_rf _) ?_
        obtain ⟨S10, q, E⟩ := bd_elim E
        refine r_callVn C v_X12_147 (z_keeps _ _ hM q) dX12_remove_35 hM.1 (ci := 10) (by decide) rfl rfl (As := []) rfl rfl rfl (by first | exact Nat.le_refl _ | exact Nat.le_of_ble_eq_true rfl | omega) (Nat.le_of_ble_eq_true rfl) (by first | exact Nat.le_refl _ | exact Nat.le_of_ble_eq_true rfl | omega) (by first | exact Nat.le_refl _ | exact Nat.le_of_ble_eq_true rfl | omega) ?_
        refine r_aload_n (i := 0) C dX12_remove_38 rfl rfl (by first | rfl | exact isR_rf _) ?_
        refine rm_ref (k := 35) C f_X12_105 dX12_remove_39 rfl rfl hM rfl ?_
        refine r_astore_n (i := 3) C dX12_remove_42 rfl (Nat.le_of_ble_eq_true rfl) (by first | rfl | exact isR_rf _) ?_
        refine r_iconst (v := 0) C dX12_remove_43 (by decide) ?_
        refine r_istore (i := 4) C dX12_remove_44 (Nat.le_of_ble_eq_true rfl) ?_
        refine r_iconst (v := 0) C dX12_remove_46 (by decide) ?_
        refine r_istore (i := 5) C dX12_remove_47 (Nat.le_of_ble_eq_true rfl) ?_
        refine z_remove_49 C hM E0 _ _ _ _ _ _ _ E (fun p20 S26 w21 w22 w23 w24 w25 E => ?_)
        refine r_iconst (v := 0) C dX12_remove_92 (by decide) ?_
        refine r_istore (i := 5) C dX12_remove_93 (Nat.le_of_ble_eq_true rfl) ?_
        refine r_iconst (v := 0) C dX12_remove_95 (by decide) ?_
        refine r_istore (i := 6) C dX12_remove_96 (Nat.le_of_ble_eq_true rfl) ?_
        refine z_remove_98 C hM E0 _ _ _ _ _ _ _ E (fun p34 S39 w35 w36 w37 w38 E => ?_)
        refine r_iconst (v := 0) C dX12_remove_139 (by decide) ?_
        refine r_istore (i := 6) C dX12_remove_140 (Nat.le_of_ble_eq_true rfl) ?_
        refine z_remove_142 C hM E0 _ _ _ _ _ _ E (fun S65 w60 w61 w62 w63 w64 E => ?_)
        refine r_aload_n (i := 0) C dX12_remove_277 rfl rfl (by first | rfl | exact isR_rf _) ?_
        refine r_iload (i := 5) C dX12_remove_278 rfl ?_
        refine rm_put (k := 3) C f_X12_16 dX12_remove_280 rfl rfl hM rfl ?_
        refine bnd_elim (P := fun (Z : MM) => wr X 0 0 283 [.ref m, w60, w61, w62, .int p20, .int p34, w63, w64] [] (pm m h Z)) E (fun S66 E => ?_)
        refine r_aload_n (i := 0) C dX12_remove_283 rfl rfl (by first | rfl | exact isR_rf _) ?_
        refine r_iconst (v := 0) C dX12_remove_284 (by decide) ?_
        refine rm_put (k := 33) C f_X12_136 dX12_remove_285 rfl rfl hM rfl ?_
        refine bnd_elim (P := fun (Z : MM) => wr X 0 0 288 [.ref m, w60, w61, w62, .int p20, .int p34, w63, w64] [] (pm m h Z)) E (fun S67 E => ?_)
        refine r_aload_n (i := 0) C dX12_remove_288 rfl rfl (by first | rfl | exact isR_rf _) ?_
        obtain ⟨S68, q, E⟩ := bd_elim E
        refine r_callVn C v_X12_150 (z_changes _ _ hM q) dX12_remove_289 hM.1 (ci := 10) (by decide) rfl rfl (As := []) rfl rfl rfl (by first | exact Nat.le_refl _ | exact Nat.le_of_ble_eq_true rfl | omega) (Nat.le_of_ble_eq_true rfl) (by first | exact Nat.le_refl _ | exact Nat.le_of_ble_eq_true rfl | omega) (by first | exact Nat.le_refl _ | exact Nat.le_of_ble_eq_true rfl | omega) ?_
        refine r_iload (i := 4) C dX12_remove_292 rfl ?_
        obtain rfl := Option.some.inj E
        exact r_iret C E0 dX12_remove_294 rfl rfl (Nat.le_refl _) (Nat.le_refl _)
      · have E := ite_t E c_29
        refine r_iconst (v := 0) C dX12_remove_32 (by decide) ?_
        obtain rfl := Option.some.inj E
        exact r_iret C E0 dX12_remove_33 rfl rfl (Nat.le_refl _) (Nat.le_refl _)
    refine r_if_eq (tgt := 25) C dX12_remove_18 (by decide) (fun c_18_k5 => ?_) (fun c_18_k5 => ?_)
    · refine r_iconst (v := 0) C dX12_remove_25 (by decide) ?_
      first | exact (J6  ()) | (simp only [if_pos c_18_k5] at J6; exact (J6  ()))
    · refine r_iconst (v := 1) C dX12_remove_21 (by decide) ?_
      refine r_goto (tgt := 26) C dX12_remove_22 (by decide) ?_
      first | exact (J6  ()) | (simp only [if_neg c_18_k5] at J6; exact (J6  ()))
  refine r_ic_eq (tgt := 16) C dX12_remove_9 (by decide) (fun c_9_k2 => ?_) (fun c_9_k2 => ?_)
  · refine r_iconst (v := 0) C dX12_remove_16 (by decide) ?_
    first | exact (J3  ()) | (simp only [if_pos c_9_k2] at J3; exact (J3  ()))
  · refine r_iconst (v := 1) C dX12_remove_12 (by decide) ?_
    refine r_goto (tgt := 17) C dX12_remove_13 (by decide) ?_
    first | exact (J3  ()) | (simp only [if_neg c_9_k2] at J3; exact (J3  ()))

def m_dress (S : MM) (a0 : Int32) (a1 : Int32) : Option (Int32 × MM) := bd (m_placeOf S a0) fun p1 => (bnd (if p1 = ((-1) : Int32) then (0 : Int32) else (1 : Int32)) fun p4 => bd2 (m_asked_ S p4 (m_in a1 (0 : Int32) (255 : Int32))) fun p5 S6 => (if p5 = (0 : Int32) then (some ((0 : Int32), S6)) else (bd (m_keeps S6) fun S7 => (if ix p1 24 then bnd (S7 7 (tn p1)) fun p10 => (bnd (u2 S7 7 (tn p1) a1) fun S11 => (bnd (u2 S11 33 0 (0 : Int32)) fun S12 => (bd (m_changes S12) fun S13 => (some (p10, S13))))) else none))))
theorem z_dress (l : Launch) (G : Gl) {m : Nat} {h : Hp} (hM : MW m h) {S : MM} {a0 a1 : Int32} {r : Int32 × MM} (E : m_dress S a0 a1 = some r) : MRw l G yX12_dress (.code yX12_dress cX12_dress 5 (Option.some Jvm.ClassFile.FieldType.int)) 7 0 0 [.ref m, .int a0, .int a1] (pm m h S) (.inl (some (.int r.1), pm m h r.2)) := by
  refine mr_of (by decide +kernel) (Nat.le_of_ble_eq_true rfl) (ct3 rfl rfl rfl) (fun X hG hl C E0 => ?_)
  subst hG hl
  rw [m_dress] at E
  refine r_aload_n (i := 0) C dX12_dress_0 rfl rfl (by first | rfl | exact isR_rf _) ?_
  refine r_iload_n (i := 1) C dX12_dress_1 rfl rfl ?_
  obtain ⟨p1, q, E⟩ := bd_elim E
  refine r_callVs C v_X12_139 (z_placeOf _ _ hM q) dX12_dress_2 hM.1 (ci := 10) (by decide) rfl rfl (As := [_]) rfl rfl rfl (by first | exact Nat.le_refl _ | exact Nat.le_of_ble_eq_true rfl | omega) (Nat.le_of_ble_eq_true rfl) (by first | exact Nat.le_refl _ | exact Nat.le_of_ble_eq_true rfl | omega) (by first | exact Nat.le_refl _ | exact Nat.le_of_ble_eq_true rfl | omega) ?_
  refine r_istore_n (i := 3) C dX12_dress_5 rfl (Nat.le_of_ble_eq_true rfl) ?_
  refine r_aload_n (i := 0) C dX12_dress_6 rfl rfl (by first | rfl | exact isR_rf _) ?_
  refine r_iload_n (i := 3) C dX12_dress_7 rfl rfl ?_
  refine r_iconst (v := (-1)) C dX12_dress_8 (by decide) ?_
  have J3 : ∀ (u : Unit), wr X 0 0 17 [.ref m, .int a0, .int a1, .int p1, (.long 0)] [.int (if p1 = ((-1) : Int32) then (0 : Int32) else (1 : Int32)), .ref m] (pm m h S) := by
    intro u
    refine bnd_elim (P := fun (z : Int32) => wr X 0 0 17 [.ref m, .int a0, .int a1, .int p1, (.long 0)] [.int z, .ref m] (pm m h S)) E (fun p4 E => ?_)
    refine r_iload_n (i := 2) C dX12_dress_17 rfl rfl ?_
    refine r_iconst (v := 0) C dX12_dress_18 (by decide) ?_
    refine r_sipush (v := 255) C dX12_dress_19 (by decide) ?_
    refine r_callSs C s_X12_129 (z_in _ _) dX12_dress_22 (As := [_, _, _]) rfl rfl rfl (by first | exact Nat.le_refl _ | exact Nat.le_of_ble_eq_true rfl | omega) (Nat.le_of_ble_eq_true rfl) (by first | exact Nat.le_refl _ | exact Nat.le_of_ble_eq_true rfl | omega) (by first | exact Nat.le_refl _ | exact Nat.le_of_ble_eq_true rfl | omega) ?_
    obtain ⟨p5, S6, q, E⟩ := bd2_elim E
    refine r_callVs C v_X12_153 (z_asked_ _ _ hM q) dX12_dress_25 hM.1 (ci := 10) (by decide) rfl rfl (As := [_, _]) rfl rfl rfl (by first | exact Nat.le_refl _ | exact Nat.le_of_ble_eq_true rfl | omega) (Nat.le_of_ble_eq_true rfl) (by first | exact Nat.le_refl _ | exact Nat.le_of_ble_eq_true rfl | omega) (by first | exact Nat.le_refl _ | exact Nat.le_of_ble_eq_true rfl | omega) ?_
    refine r_if_ne (tgt := 33) C dX12_dress_28 (by decide) (fun c_28 => ?_) (fun c_28 => ?_)
    · have E := ite_f E c_28
      refine r_aload_n (i := 0) C dX12_dress_33 rfl rfl (by first | rfl | exact isR_rf _) ?_
      obtain ⟨S7, q, E⟩ := bd_elim E
      refine r_callVn C v_X12_147 (z_keeps _ _ hM q) dX12_dress_34 hM.1 (ci := 10) (by decide) rfl rfl (As := []) rfl rfl rfl (by first | exact Nat.le_refl _ | exact Nat.le_of_ble_eq_true rfl | omega) (Nat.le_of_ble_eq_true rfl) (by first | exact Nat.le_refl _ | exact Nat.le_of_ble_eq_true rfl | omega) (by first | exact Nat.le_refl _ | exact Nat.le_of_ble_eq_true rfl | omega) ?_
      refine r_aload_n (i := 0) C dX12_dress_37 rfl rfl (by first | rfl | exact isR_rf _) ?_
      refine rm_ref (k := 7) C f_X12_29 dX12_dress_38 rfl rfl hM rfl ?_
      refine r_iload_n (i := 3) C dX12_dress_41 rfl rfl ?_
      obtain ⟨g9, E⟩ := gd_elim E
      refine rm_iald (k := 7) C dX12_dress_42 hM rfl rfl g9 ?_
      refine bnd_elim (P := fun (z : Int32) => wr X 0 0 43 [.ref m, .int a0, .int a1, .int p1, (.long 0)] [.int z] (pm m h S7)) E (fun p10 E => ?_)
      refine r_istore (i := 4) C dX12_dress_43 (Nat.le_of_ble_eq_true rfl) ?_
      refine r_aload_n (i := 0) C dX12_dress_45 rfl rfl (by first | rfl | exact isR_rf _) ?_
      refine rm_ref (k := 7) C f_X12_29 dX12_dress_46 rfl rfl hM rfl ?_
      refine r_iload_n (i := 3) C dX12_dress_49 rfl rfl ?_
      refine r_iload_n (i := 2) C dX12_dress_50 rfl rfl ?_
      refine rm_iast (k := 7) C dX12_dress_51 hM rfl rfl g9 ?_
      refine bnd_elim (P := fun (Z : MM) => wr X 0 0 52 [.ref m, .int a0, .int a1, .int p1, .int p10] [] (pm m h Z)) E (fun S11 E => ?_)
      refine r_aload_n (i := 0) C dX12_dress_52 rfl rfl (by first | rfl | exact isR_rf _) ?_
      refine r_iconst (v := 0) C dX12_dress_53 (by decide) ?_
      refine rm_put (k := 33) C f_X12_136 dX12_dress_54 rfl rfl hM rfl ?_
      refine bnd_elim (P := fun (Z : MM) => wr X 0 0 57 [.ref m, .int a0, .int a1, .int p1, .int p10] [] (pm m h Z)) E (fun S12 E => ?_)
      refine r_aload_n (i := 0) C dX12_dress_57 rfl rfl (by first | rfl | exact isR_rf _) ?_
      obtain ⟨S13, q, E⟩ := bd_elim E
      refine r_callVn C v_X12_150 (z_changes _ _ hM q) dX12_dress_58 hM.1 (ci := 10) (by decide) rfl rfl (As := []) rfl rfl rfl (by first | exact Nat.le_refl _ | exact Nat.le_of_ble_eq_true rfl | omega) (Nat.le_of_ble_eq_true rfl) (by first | exact Nat.le_refl _ | exact Nat.le_of_ble_eq_true rfl | omega) (by first | exact Nat.le_refl _ | exact Nat.le_of_ble_eq_true rfl | omega) ?_
      refine r_iload (i := 4) C dX12_dress_61 rfl ?_
      obtain rfl := Option.some.inj E
      exact r_iret C E0 dX12_dress_63 rfl rfl (Nat.le_refl _) (Nat.le_refl _)
    · have E := ite_t E c_28
      refine r_iconst (v := 0) C dX12_dress_31 (by decide) ?_
      obtain rfl := Option.some.inj E
      exact r_iret C E0 dX12_dress_32 rfl rfl (Nat.le_refl _) (Nat.le_refl _)
  refine r_ic_eq (tgt := 16) C dX12_dress_9 (by decide) (fun c_9_k2 => ?_) (fun c_9_k2 => ?_)
  · refine r_iconst (v := 0) C dX12_dress_16 (by decide) ?_
    first | exact (J3  ()) | (simp only [if_pos c_9_k2] at J3; exact (J3  ()))
  · refine r_iconst (v := 1) C dX12_dress_12 (by decide) ?_
    refine r_goto (tgt := 17) C dX12_dress_13 (by decide) ?_
    first | exact (J3  ()) | (simp only [if_neg c_9_k2] at J3; exact (J3  ()))

def m_text_29 (K0 : Int32 → Int32 → Option (Int32 × MM)) (S : MM) : Nat → Int32 → Int32 → Int32 → Option (Int32 × MM)
  | 0, _, _, _ => none
  | fu + 1, x4, x5, x6 => if x6 ≤ (0 : Int32) then (K0 x4 x5) else (if x4 = (0 : Int32) then (K0 x4 x5) else (bnd (if (x6 - x6 / (10 : Int32) * (10 : Int32)) = (0 : Int32) then (0 : Int32) else (1 : Int32)) fun p15 => (bnd (x6 / (10 : Int32)) fun p16 => (m_text_29 K0 S fu p15 (x5 + 1) p16))))
theorem z_text_29 {X : Ctx} {m : Nat} {h : Hp} (C : Cx X yX12_text cX12_text 7 (Option.some Jvm.ClassFile.FieldType.int) [] 7 0 0) (hM : MW m h) {K0 : Int32 → Int32 → Option (Int32 × MM)} {S : MM} {v2 v3 : Value} {r : Int32 × MM} (E0 : Ex X 0 0 (.inl (some (.int r.1), pm m h r.2))) : ∀ (fu : Nat) (x4 x5 x6 : Int32) (u1 : Value) , m_text_29 K0 S fu x4 x5 x6 = some r → (∀ (y4 y5 : Int32) (u1 u6 : Value) , K0 y4 y5 = some r → wr X 0 0 67 [.ref m, u1, v2, v3, .int y4, .int y5, u6] [] (pm m h S)) → wr X 0 0 29 [.ref m, u1, v2, v3, .int x4, .int x5, .int x6] [] (pm m h S) := by
  intro fu
  induction fu with
  | zero =>
    intro x4 x5 x6 u1 E hK0
    rw [m_text_29] at E
    cases E
  | succ fu ih =>
    intro x4 x5 x6 u1 E hK0
    rw [m_text_29] at E
    refine r_iload (i := 6) C dX12_text_29 rfl ?_
    refine r_if_le (tgt := 67) C dX12_text_31 (by decide) (fun c_31 => ?_) (fun c_31 => ?_)
    · have E := ite_t E c_31
      exact hK0 _ _ _ _ E
    · have E := ite_f E c_31
      refine r_iload (i := 4) C dX12_text_34 rfl ?_
      refine r_if_eq (tgt := 67) C dX12_text_36 (by decide) (fun c_36 => ?_) (fun c_36 => ?_)
      · have E := ite_t E c_36
        exact hK0 _ _ _ _ E
      · have E := ite_f E c_36
        refine r_iload (i := 6) C dX12_text_39 rfl ?_
        refine r_bipush (v := 10) C dX12_text_41 (by decide) ?_
        refine r_irem C dX12_text_43 (by decide) ?_
        have J14 : ∀ (u : Unit), wr X 0 0 52 [.ref m, u1, v2, v3, .int x4, .int x5, .int x6] [.int (if (x6 - x6 / (10 : Int32) * (10 : Int32)) = (0 : Int32) then (0 : Int32) else (1 : Int32))] (pm m h S) := by
          intro u
          refine bnd_elim (P := fun (z : Int32) => wr X 0 0 52 [.ref m, u1, v2, v3, .int x4, .int x5, .int x6] [.int z] (pm m h S)) E (fun p15 E => ?_)
          refine r_istore (i := 4) C dX12_text_52 (Nat.le_of_ble_eq_true rfl) ?_
          refine r_iinc1 (i := 5) C dX12_text_54 rfl ?_
          refine r_iload (i := 6) C dX12_text_57 rfl ?_
          refine r_bipush (v := 10) C dX12_text_59 (by decide) ?_
          refine r_idiv C dX12_text_61 (by decide) ?_
          refine bnd_elim (P := fun (z : Int32) => wr X 0 0 62 [.ref m, u1, v2, v3, .int p15, .int (x5 + 1), .int x6] [.int z] (pm m h S)) E (fun p16 E => ?_)
          refine r_istore (i := 6) C dX12_text_62 (Nat.le_of_ble_eq_true rfl) ?_
          refine r_goto (tgt := 29) C dX12_text_64 (by decide) ?_
          exact ih _ _ _ _ E hK0
        refine r_if_eq (tgt := 51) C dX12_text_44 (by decide) (fun c_44_k13 => ?_) (fun c_44_k13 => ?_)
        · refine r_iconst (v := 0) C dX12_text_51 (by decide) ?_
          first | exact (J14  ()) | (simp only [if_pos c_44_k13] at J14; exact (J14  ()))
        · refine r_iconst (v := 1) C dX12_text_47 (by decide) ?_
          refine r_goto (tgt := 52) C dX12_text_48 (by decide) ?_
          first | exact (J14  ()) | (simp only [if_neg c_44_k13] at J14; exact (J14  ()))
def m_text (S : MM) (a0 : Int32) (a1 : Int32) : Option (Int32 × MM) := bd (m_placeOf S a0) fun p1 => (bnd (if a1 < (0 : Int32) then (0 : Int32) else if (100000000 : Int32) ≤ a1 then (0 : Int32) else (1 : Int32)) fun p5 => (m_text_29 (fun p17 p18 => bnd (if p1 = ((-1) : Int32) then (0 : Int32) else (1 : Int32)) fun p23 => bd2 (m_asked_ S p23 p17) fun p24 S25 => (if p24 = (0 : Int32) then (some ((0 : Int32), S25)) else (bd (m_keeps S25) fun S26 => (if ix p1 24 then bnd (u2 S26 8 (tn p1) a1) fun S27 => (bnd (u2 S27 33 0 (0 : Int32)) fun S29 => (bd (m_changes S29) fun S30 => (some (p18, S30)))) else none)))) S 1000 p5 (0 : Int32) a1))
theorem z_text (l : Launch) (G : Gl) {m : Nat} {h : Hp} (hM : MW m h) {S : MM} {a0 a1 : Int32} {r : Int32 × MM} (E : m_text S a0 a1 = some r) : MRw l G yX12_text (.code yX12_text cX12_text 7 (Option.some Jvm.ClassFile.FieldType.int)) 7 0 0 [.ref m, .int a0, .int a1] (pm m h S) (.inl (some (.int r.1), pm m h r.2)) := by
  refine mr_of (by decide +kernel) (Nat.le_of_ble_eq_true rfl) (ct3 rfl rfl rfl) (fun X hG hl C E0 => ?_)
  subst hG hl
  rw [m_text] at E
  refine r_aload_n (i := 0) C dX12_text_0 rfl rfl (by first | rfl | exact isR_rf _) ?_
  refine r_iload_n (i := 1) C dX12_text_1 rfl rfl ?_
  obtain ⟨p1, q, E⟩ := bd_elim E
  refine r_callVs C v_X12_139 (z_placeOf _ _ hM q) dX12_text_2 hM.1 (ci := 10) (by decide) rfl rfl (As := [_]) rfl rfl rfl (by first | exact Nat.le_refl _ | exact Nat.le_of_ble_eq_true rfl | omega) (Nat.le_of_ble_eq_true rfl) (by first | exact Nat.le_refl _ | exact Nat.le_of_ble_eq_true rfl | omega) (by first | exact Nat.le_refl _ | exact Nat.le_of_ble_eq_true rfl | omega) ?_
  refine r_istore_n (i := 3) C dX12_text_5 rfl (Nat.le_of_ble_eq_true rfl) ?_
  refine r_iload_n (i := 2) C dX12_text_6 rfl rfl ?_
  have J4 : ∀ (u : Unit), wr X 0 0 21 [.ref m, .int a0, .int a1, .int p1, (.long 0), (.long 0), (.long 0)] [.int (if a1 < (0 : Int32) then (0 : Int32) else if (100000000 : Int32) ≤ a1 then (0 : Int32) else (1 : Int32))] (pm m h S) := by
    intro u
    refine bnd_elim (P := fun (z : Int32) => wr X 0 0 21 [.ref m, .int a0, .int a1, .int p1, (.long 0), (.long 0), (.long 0)] [.int z] (pm m h S)) E (fun p5 E => ?_)
    refine r_istore (i := 4) C dX12_text_21 (Nat.le_of_ble_eq_true rfl) ?_
    refine r_iconst (v := 0) C dX12_text_23 (by decide) ?_
    refine r_istore (i := 5) C dX12_text_24 (Nat.le_of_ble_eq_true rfl) ?_
    refine r_iload_n (i := 2) C dX12_text_26 rfl rfl ?_
    refine r_istore (i := 6) C dX12_text_27 (Nat.le_of_ble_eq_true rfl) ?_
    refine z_text_29 C hM E0 _ _ _ _ _ E (fun p17 p18 w19 w20 E => ?_)
    refine r_aload_n (i := 0) C dX12_text_67 rfl rfl (by first | rfl | exact isR_rf _) ?_
    refine r_iload_n (i := 3) C dX12_text_68 rfl rfl ?_
    refine r_iconst (v := (-1)) C dX12_text_69 (by decide) ?_
    have J22 : ∀ (u : Unit), wr X 0 0 78 [.ref m, w19, .int a1, .int p1, .int p17, .int p18, w20] [.int (if p1 = ((-1) : Int32) then (0 : Int32) else (1 : Int32)), .ref m] (pm m h S) := by
      intro u
      refine bnd_elim (P := fun (z : Int32) => wr X 0 0 78 [.ref m, w19, .int a1, .int p1, .int p17, .int p18, w20] [.int z, .ref m] (pm m h S)) E (fun p23 E => ?_)
      refine r_iload (i := 4) C dX12_text_78 rfl ?_
      obtain ⟨p24, S25, q, E⟩ := bd2_elim E
      refine r_callVs C v_X12_153 (z_asked_ _ _ hM q) dX12_text_80 hM.1 (ci := 10) (by decide) rfl rfl (As := [_, _]) rfl rfl rfl (by first | exact Nat.le_refl _ | exact Nat.le_of_ble_eq_true rfl | omega) (Nat.le_of_ble_eq_true rfl) (by first | exact Nat.le_refl _ | exact Nat.le_of_ble_eq_true rfl | omega) (by first | exact Nat.le_refl _ | exact Nat.le_of_ble_eq_true rfl | omega) ?_
      refine r_if_ne (tgt := 88) C dX12_text_83 (by decide) (fun c_83 => ?_) (fun c_83 => ?_)
      · have E := ite_f E c_83
        refine r_aload_n (i := 0) C dX12_text_88 rfl rfl (by first | rfl | exact isR_rf _) ?_
        obtain ⟨S26, q, E⟩ := bd_elim E
        refine r_callVn C v_X12_147 (z_keeps _ _ hM q) dX12_text_89 hM.1 (ci := 10) (by decide) rfl rfl (As := []) rfl rfl rfl (by first | exact Nat.le_refl _ | exact Nat.le_of_ble_eq_true rfl | omega) (Nat.le_of_ble_eq_true rfl) (by first | exact Nat.le_refl _ | exact Nat.le_of_ble_eq_true rfl | omega) (by first | exact Nat.le_refl _ | exact Nat.le_of_ble_eq_true rfl | omega) ?_
        refine r_aload_n (i := 0) C dX12_text_92 rfl rfl (by first | rfl | exact isR_rf _) ?_
        refine rm_ref (k := 8) C f_X12_32 dX12_text_93 rfl rfl hM rfl ?_
        refine r_iload_n (i := 3) C dX12_text_96 rfl rfl ?_
        refine r_iload_n (i := 2) C dX12_text_97 rfl rfl ?_
        obtain ⟨g28, E⟩ := gd_elim E
        refine rm_iast (k := 8) C dX12_text_98 hM rfl rfl g28 ?_
        refine bnd_elim (P := fun (Z : MM) => wr X 0 0 99 [.ref m, w19, .int a1, .int p1, .int p17, .int p18, w20] [] (pm m h Z)) E (fun S27 E => ?_)
        refine r_aload_n (i := 0) C dX12_text_99 rfl rfl (by first | rfl | exact isR_rf _) ?_
        refine r_iconst (v := 0) C dX12_text_100 (by decide) ?_
        refine rm_put (k := 33) C f_X12_136 dX12_text_101 rfl rfl hM rfl ?_
        refine bnd_elim (P := fun (Z : MM) => wr X 0 0 104 [.ref m, w19, .int a1, .int p1, .int p17, .int p18, w20] [] (pm m h Z)) E (fun S29 E => ?_)
        refine r_aload_n (i := 0) C dX12_text_104 rfl rfl (by first | rfl | exact isR_rf _) ?_
        obtain ⟨S30, q, E⟩ := bd_elim E
        refine r_callVn C v_X12_150 (z_changes _ _ hM q) dX12_text_105 hM.1 (ci := 10) (by decide) rfl rfl (As := []) rfl rfl rfl (by first | exact Nat.le_refl _ | exact Nat.le_of_ble_eq_true rfl | omega) (Nat.le_of_ble_eq_true rfl) (by first | exact Nat.le_refl _ | exact Nat.le_of_ble_eq_true rfl | omega) (by first | exact Nat.le_refl _ | exact Nat.le_of_ble_eq_true rfl | omega) ?_
        refine r_iload (i := 5) C dX12_text_108 rfl ?_
        obtain rfl := Option.some.inj E
        exact r_iret C E0 dX12_text_110 rfl rfl (Nat.le_refl _) (Nat.le_refl _)
      · have E := ite_t E c_83
        refine r_iconst (v := 0) C dX12_text_86 (by decide) ?_
        obtain rfl := Option.some.inj E
        exact r_iret C E0 dX12_text_87 rfl rfl (Nat.le_refl _) (Nat.le_refl _)
    refine r_ic_eq (tgt := 77) C dX12_text_70 (by decide) (fun c_70_k21 => ?_) (fun c_70_k21 => ?_)
    · refine r_iconst (v := 0) C dX12_text_77 (by decide) ?_
      first | exact (J22  ()) | (simp only [if_pos c_70_k21] at J22; exact (J22  ()))
    · refine r_iconst (v := 1) C dX12_text_73 (by decide) ?_
      refine r_goto (tgt := 78) C dX12_text_74 (by decide) ?_
      first | exact (J22  ()) | (simp only [if_neg c_70_k21] at J22; exact (J22  ()))
  refine r_if_lt (tgt := 20) C dX12_text_7 (by decide) (fun c_7_k2 => ?_) (fun c_7_k2 => ?_)
  · refine r_iconst (v := 0) C dX12_text_20 (by decide) ?_
    first | exact (J4  ()) | (simp only [if_pos c_7_k2] at J4; exact (J4  ()))
  · refine r_iload_n (i := 2) C dX12_text_10 rfl rfl ?_
    refine r_ldcI C dX12_text_11 q_X12_160 ?_
    refine r_ic_ge (tgt := 20) C dX12_text_13 (by decide) (fun c_13_k3 => ?_) (fun c_13_k3 => ?_)
    · refine r_iconst (v := 0) C dX12_text_20 (by decide) ?_
      first | exact (J4  ()) | (simp only [if_neg c_7_k2, if_pos c_13_k3] at J4; exact (J4  ()))
    · refine r_iconst (v := 1) C dX12_text_16 (by decide) ?_
      refine r_goto (tgt := 21) C dX12_text_17 (by decide) ?_
      first | exact (J4  ()) | (simp only [if_neg c_7_k2, if_neg c_13_k3] at J4; exact (J4  ()))

def m_contain (S : MM) (a0 : Int32) (a1 : Int32) : Option (Int32 × MM) := bd (m_placeOf S a0) fun p1 => (bnd (if p1 = ((-1) : Int32) then (0 : Int32) else (1 : Int32)) fun p4 => bd2 (m_asked S p4) fun p5 S6 => (if p5 = (0 : Int32) then (some ((0 : Int32), S6)) else (bd (m_keeps S6) fun S7 => (if ix p1 24 then bnd (S7 9 (tn p1)) fun p10 => (if (a1 = 0 ∨ a1 = 1) then bnd (u2 S7 9 (tn p1) a1) fun S11 => (bnd (u2 S11 33 0 (0 : Int32)) fun S13 => (bd (m_changes S13) fun S14 => (if (p10) = 0 ∨ (p10) = 1 then some (p10, S14) else none))) else none) else none))))
theorem z_contain (l : Launch) (G : Gl) {m : Nat} {h : Hp} (hM : MW m h) {S : MM} {a0 a1 : Int32} {r : Int32 × MM} (E : m_contain S a0 a1 = some r) : MRw l G yX12_contain (.code yX12_contain cX12_contain 5 (Option.some Jvm.ClassFile.FieldType.boolean)) 7 0 0 [.ref m, .int a0, .int a1] (pm m h S) (.inl (some (.int r.1), pm m h r.2)) := by
  refine mr_of (by decide +kernel) (Nat.le_of_ble_eq_true rfl) (ct3 rfl rfl rfl) (fun X hG hl C E0 => ?_)
  subst hG hl
  rw [m_contain] at E
  refine r_aload_n (i := 0) C dX12_contain_0 rfl rfl (by first | rfl | exact isR_rf _) ?_
  refine r_iload_n (i := 1) C dX12_contain_1 rfl rfl ?_
  obtain ⟨p1, q, E⟩ := bd_elim E
  refine r_callVs C v_X12_139 (z_placeOf _ _ hM q) dX12_contain_2 hM.1 (ci := 10) (by decide) rfl rfl (As := [_]) rfl rfl rfl (by first | exact Nat.le_refl _ | exact Nat.le_of_ble_eq_true rfl | omega) (Nat.le_of_ble_eq_true rfl) (by first | exact Nat.le_refl _ | exact Nat.le_of_ble_eq_true rfl | omega) (by first | exact Nat.le_refl _ | exact Nat.le_of_ble_eq_true rfl | omega) ?_
  refine r_istore_n (i := 3) C dX12_contain_5 rfl (Nat.le_of_ble_eq_true rfl) ?_
  refine r_aload_n (i := 0) C dX12_contain_6 rfl rfl (by first | rfl | exact isR_rf _) ?_
  refine r_iload_n (i := 3) C dX12_contain_7 rfl rfl ?_
  refine r_iconst (v := (-1)) C dX12_contain_8 (by decide) ?_
  have J3 : ∀ (u : Unit), wr X 0 0 17 [.ref m, .int a0, .int a1, .int p1, (.long 0)] [.int (if p1 = ((-1) : Int32) then (0 : Int32) else (1 : Int32)), .ref m] (pm m h S) := by
    intro u
    refine bnd_elim (P := fun (z : Int32) => wr X 0 0 17 [.ref m, .int a0, .int a1, .int p1, (.long 0)] [.int z, .ref m] (pm m h S)) E (fun p4 E => ?_)
    obtain ⟨p5, S6, q, E⟩ := bd2_elim E
    refine r_callVs C v_X12_161 (z_asked _ _ hM q) dX12_contain_17 hM.1 (ci := 10) (by decide) rfl rfl (As := [_]) rfl rfl rfl (by first | exact Nat.le_refl _ | exact Nat.le_of_ble_eq_true rfl | omega) (Nat.le_of_ble_eq_true rfl) (by first | exact Nat.le_refl _ | exact Nat.le_of_ble_eq_true rfl | omega) (by first | exact Nat.le_refl _ | exact Nat.le_of_ble_eq_true rfl | omega) ?_
    refine r_if_ne (tgt := 25) C dX12_contain_20 (by decide) (fun c_20 => ?_) (fun c_20 => ?_)
    · have E := ite_f E c_20
      refine r_aload_n (i := 0) C dX12_contain_25 rfl rfl (by first | rfl | exact isR_rf _) ?_
      obtain ⟨S7, q, E⟩ := bd_elim E
      refine r_callVn C v_X12_147 (z_keeps _ _ hM q) dX12_contain_26 hM.1 (ci := 10) (by decide) rfl rfl (As := []) rfl rfl rfl (by first | exact Nat.le_refl _ | exact Nat.le_of_ble_eq_true rfl | omega) (Nat.le_of_ble_eq_true rfl) (by first | exact Nat.le_refl _ | exact Nat.le_of_ble_eq_true rfl | omega) (by first | exact Nat.le_refl _ | exact Nat.le_of_ble_eq_true rfl | omega) ?_
      refine r_aload_n (i := 0) C dX12_contain_29 rfl rfl (by first | rfl | exact isR_rf _) ?_
      refine rm_ref (k := 9) C f_X12_35 dX12_contain_30 rfl rfl hM rfl ?_
      refine r_iload_n (i := 3) C dX12_contain_33 rfl rfl ?_
      obtain ⟨g9, E⟩ := gd_elim E
      refine rm_zald (k := 9) C dX12_contain_34 hM rfl rfl g9 ?_
      refine bnd_elim (P := fun (z : Int32) => wr X 0 0 35 [.ref m, .int a0, .int a1, .int p1, (.long 0)] [.int z] (pm m h S7)) E (fun p10 E => ?_)
      refine r_istore (i := 4) C dX12_contain_35 (Nat.le_of_ble_eq_true rfl) ?_
      refine r_aload_n (i := 0) C dX12_contain_37 rfl rfl (by first | rfl | exact isR_rf _) ?_
      refine rm_ref (k := 9) C f_X12_35 dX12_contain_38 rfl rfl hM rfl ?_
      refine r_iload_n (i := 3) C dX12_contain_41 rfl rfl ?_
      refine r_iload_n (i := 2) C dX12_contain_42 rfl rfl ?_
      obtain ⟨g12, E⟩ := gd_elim E
      refine rm_zast (k := 9) C dX12_contain_43 hM rfl rfl g9 g12 ?_
      refine bnd_elim (P := fun (Z : MM) => wr X 0 0 44 [.ref m, .int a0, .int a1, .int p1, .int p10] [] (pm m h Z)) E (fun S11 E => ?_)
      refine r_aload_n (i := 0) C dX12_contain_44 rfl rfl (by first | rfl | exact isR_rf _) ?_
      refine r_iconst (v := 0) C dX12_contain_45 (by decide) ?_
      refine rm_put (k := 33) C f_X12_136 dX12_contain_46 rfl rfl hM rfl ?_
      refine bnd_elim (P := fun (Z : MM) => wr X 0 0 49 [.ref m, .int a0, .int a1, .int p1, .int p10] [] (pm m h Z)) E (fun S13 E => ?_)
      refine r_aload_n (i := 0) C dX12_contain_49 rfl rfl (by first | rfl | exact isR_rf _) ?_
      obtain ⟨S14, q, E⟩ := bd_elim E
      refine r_callVn C v_X12_150 (z_changes _ _ hM q) dX12_contain_50 hM.1 (ci := 10) (by decide) rfl rfl (As := []) rfl rfl rfl (by first | exact Nat.le_refl _ | exact Nat.le_of_ble_eq_true rfl | omega) (Nat.le_of_ble_eq_true rfl) (by first | exact Nat.le_refl _ | exact Nat.le_of_ble_eq_true rfl | omega) (by first | exact Nat.le_refl _ | exact Nat.le_of_ble_eq_true rfl | omega) ?_
      refine r_iload (i := 4) C dX12_contain_53 rfl ?_
      obtain ⟨gb, E⟩ := gd_elim E
      obtain rfl := Option.some.inj E
      exact r_iret C E0 dX12_contain_55 rfl (bo_nar (by first | exact Or.inl rfl | exact Or.inr rfl | assumption | exact b_canBe | exact b_in | exact b_isRule | exact b_isPart | exact b_isPartOf | (repeat' split) <;> first | exact Or.inl rfl | exact Or.inr rfl | assumption | exact b_canBe | exact b_in | exact b_isRule | exact b_isPart | exact b_isPartOf)).1 (Nat.le_refl _) (Nat.le_refl _)
    · have E := ite_t E c_20
      refine r_iconst (v := 0) C dX12_contain_23 (by decide) ?_
      obtain rfl := Option.some.inj E
      exact r_iret C E0 dX12_contain_24 rfl (bo_nar (by first | exact Or.inl rfl | exact Or.inr rfl | assumption | exact b_canBe | exact b_in | exact b_isRule | exact b_isPart | exact b_isPartOf | (repeat' split) <;> first | exact Or.inl rfl | exact Or.inr rfl | assumption | exact b_canBe | exact b_in | exact b_isRule | exact b_isPart | exact b_isPartOf)).1 (Nat.le_refl _) (Nat.le_refl _)
  refine r_ic_eq (tgt := 16) C dX12_contain_9 (by decide) (fun c_9_k2 => ?_) (fun c_9_k2 => ?_)
  · refine r_iconst (v := 0) C dX12_contain_16 (by decide) ?_
    first | exact (J3  ()) | (simp only [if_pos c_9_k2] at J3; exact (J3  ()))
  · refine r_iconst (v := 1) C dX12_contain_12 (by decide) ?_
    refine r_goto (tgt := 17) C dX12_contain_13 (by decide) ?_
    first | exact (J3  ()) | (simp only [if_neg c_9_k2] at J3; exact (J3  ()))

def m_window (S : MM) (a0 : Int32) : Option (Int32 × MM) := bd2 (m_asked S (m_in a0 (0 : Int32) (2000 : Int32))) fun p1 S2 => (if p1 = (0 : Int32) then (some ((0 : Int32), S2)) else (bd (m_keeps S2) fun S3 => (bnd (S3 1 0) fun p4 => (bnd (u2 S3 1 0 a0) fun S5 => (bnd (u2 S5 33 0 (0 : Int32)) fun S6 => (bd (m_changes S6) fun S7 => (some (p4, S7))))))))
theorem z_window (l : Launch) (G : Gl) {m : Nat} {h : Hp} (hM : MW m h) {S : MM} {a0 : Int32} {r : Int32 × MM} (E : m_window S a0 = some r) : MRw l G yX12_window (.code yX12_window cX12_window 3 (Option.some Jvm.ClassFile.FieldType.int)) 7 0 0 [.ref m, .int a0] (pm m h S) (.inl (some (.int r.1), pm m h r.2)) := by
  refine mr_of (by decide +kernel) (Nat.le_of_ble_eq_true rfl) (ct2 rfl rfl) (fun X hG hl C E0 => ?_)
  subst hG hl
  rw [m_window] at E
  refine r_aload_n (i := 0) C dX12_window_0 rfl rfl (by first | rfl | exact isR_rf _) ?_
  refine r_iload_n (i := 1) C dX12_window_1 rfl rfl ?_
  refine r_iconst (v := 0) C dX12_window_2 (by decide) ?_
  refine r_sipush (v := 2000) C dX12_window_3 (by decide) ?_
  refine r_callSs C s_X12_129 (z_in _ _) dX12_window_6 (As := [_, _, _]) rfl rfl rfl (by first | exact Nat.le_refl _ | exact Nat.le_of_ble_eq_true rfl | omega) (Nat.le_of_ble_eq_true rfl) (by first | exact Nat.le_refl _ | exact Nat.le_of_ble_eq_true rfl | omega) (by first | exact Nat.le_refl _ | exact Nat.le_of_ble_eq_true rfl | omega) ?_
  obtain ⟨p1, S2, q, E⟩ := bd2_elim E
  refine r_callVs C v_X12_161 (z_asked _ _ hM q) dX12_window_9 hM.1 (ci := 10) (by decide) rfl rfl (As := [_]) rfl rfl rfl (by first | exact Nat.le_refl _ | exact Nat.le_of_ble_eq_true rfl | omega) (Nat.le_of_ble_eq_true rfl) (by first | exact Nat.le_refl _ | exact Nat.le_of_ble_eq_true rfl | omega) (by first | exact Nat.le_refl _ | exact Nat.le_of_ble_eq_true rfl | omega) ?_
  refine r_if_ne (tgt := 17) C dX12_window_12 (by decide) (fun c_12 => ?_) (fun c_12 => ?_)
  · have E := ite_f E c_12
    refine r_aload_n (i := 0) C dX12_window_17 rfl rfl (by first | rfl | exact isR_rf _) ?_
    obtain ⟨S3, q, E⟩ := bd_elim E
    refine r_callVn C v_X12_147 (z_keeps _ _ hM q) dX12_window_18 hM.1 (ci := 10) (by decide) rfl rfl (As := []) rfl rfl rfl (by first | exact Nat.le_refl _ | exact Nat.le_of_ble_eq_true rfl | omega) (Nat.le_of_ble_eq_true rfl) (by first | exact Nat.le_refl _ | exact Nat.le_of_ble_eq_true rfl | omega) (by first | exact Nat.le_refl _ | exact Nat.le_of_ble_eq_true rfl | omega) ?_
    refine r_aload_n (i := 0) C dX12_window_21 rfl rfl (by first | rfl | exact isR_rf _) ?_
    refine rm_get (k := 1) C f_X12_7 dX12_window_22 rfl rfl hM rfl ?_
    refine bnd_elim (P := fun (z : Int32) => wr X 0 0 25 [.ref m, .int a0, (.long 0)] [.int z] (pm m h S3)) E (fun p4 E => ?_)
    refine r_istore_n (i := 2) C dX12_window_25 rfl (Nat.le_of_ble_eq_true rfl) ?_
    refine r_aload_n (i := 0) C dX12_window_26 rfl rfl (by first | rfl | exact isR_rf _) ?_
    refine r_iload_n (i := 1) C dX12_window_27 rfl rfl ?_
    refine rm_put (k := 1) C f_X12_7 dX12_window_28 rfl rfl hM rfl ?_
    refine bnd_elim (P := fun (Z : MM) => wr X 0 0 31 [.ref m, .int a0, .int p4] [] (pm m h Z)) E (fun S5 E => ?_)
    refine r_aload_n (i := 0) C dX12_window_31 rfl rfl (by first | rfl | exact isR_rf _) ?_
    refine r_iconst (v := 0) C dX12_window_32 (by decide) ?_
    refine rm_put (k := 33) C f_X12_136 dX12_window_33 rfl rfl hM rfl ?_
    refine bnd_elim (P := fun (Z : MM) => wr X 0 0 36 [.ref m, .int a0, .int p4] [] (pm m h Z)) E (fun S6 E => ?_)
    refine r_aload_n (i := 0) C dX12_window_36 rfl rfl (by first | rfl | exact isR_rf _) ?_
    obtain ⟨S7, q, E⟩ := bd_elim E
    refine r_callVn C v_X12_150 (z_changes _ _ hM q) dX12_window_37 hM.1 (ci := 10) (by decide) rfl rfl (As := []) rfl rfl rfl (by first | exact Nat.le_refl _ | exact Nat.le_of_ble_eq_true rfl | omega) (Nat.le_of_ble_eq_true rfl) (by first | exact Nat.le_refl _ | exact Nat.le_of_ble_eq_true rfl | omega) (by first | exact Nat.le_refl _ | exact Nat.le_of_ble_eq_true rfl | omega) ?_
    refine r_iload_n (i := 2) C dX12_window_40 rfl rfl ?_
    obtain rfl := Option.some.inj E
    exact r_iret C E0 dX12_window_41 rfl rfl (Nat.le_refl _) (Nat.le_refl _)
  · have E := ite_t E c_12
    refine r_iconst (v := 0) C dX12_window_15 (by decide) ?_
    obtain rfl := Option.some.inj E
    exact r_iret C E0 dX12_window_16 rfl rfl (Nat.le_refl _) (Nat.le_refl _)

