/-! ===== the model: findsWidths, findsLines (by gen.py) ===== -/
def m_findsWidths_24 (K0 : Int32 → MM → Option (MM)) (x1 : Int32) : Nat → Int32 → Int32 → MM → Option (MM)
  | 0, _, _, _ => none
  | fu + 1, x4, x5, S => if (S 3 0) ≤ x5 then (K0 x4 S) else (if ix x5 24 then if (S 5 (tn x5)) = x1 then (if ix x1 24 then if (¬ ((S 28 (tn x1)) = (0 : Int32)) → m_of_g S x5 (5 : Int32)) then bnd (if (S 28 (tn x1)) = (0 : Int32) then (0 : Int32) else if (m_of S x5 (5 : Int32)) = (3 : Int32) then (0 : Int32) else (1 : Int32)) fun p30 => if (p30 = 0 ∨ p30 = 1) then bnd (u2 S 28 (tn x5) p30) fun S31 => (if (S31 28 (tn x5)) = (0 : Int32) then (m_findsWidths_24 K0 x1 fu x4 (x5 + 1) S31) else (if ix x4 24 then bnd (u2 S31 34 (tn x4) x5) fun S34 => (m_findsWidths_24 K0 x1 fu (x4 + 1) (x5 + 1) S34) else none)) else none else none else none) else (m_findsWidths_24 K0 x1 fu x4 (x5 + 1) S) else none)
theorem z_findsWidths_24 {X : Ctx} {m : Nat} {h : Hp} (C : Cx X yX12_findsWidths cX12_findsWidths 11 none [] 3 0 0) (hM : MW m h) {K0 : Int32 → MM → Option (MM)} {x1 : Int32} {v2 v3 : Value} {r : MM} (E0 : Ex X 0 0 (.inl (none, pm m h r))) : ∀ (fu : Nat) (x4 x5 : Int32) (S : MM) (u6 u7 u8 u9 u10 : Value) , m_findsWidths_24 K0 x1 fu x4 x5 S = some r → (∀ (y4 : Int32) (S2 : MM) (u5 u6 u7 u8 u9 u10 : Value) , K0 y4 S2 = some r → wr X 0 0 104 [.ref m, .int x1, v2, v3, .int y4, u5, u6, u7, u8, u9, u10] [] (pm m h S2)) → wr X 0 0 24 [.ref m, .int x1, v2, v3, .int x4, .int x5, u6, u7, u8, u9, u10] [] (pm m h S) := by
  intro fu
  induction fu with
  | zero =>
    intro x4 x5 S u6 u7 u8 u9 u10 E hK0
    rw [m_findsWidths_24] at E
    cases E
  | succ fu ih =>
    intro x4 x5 S u6 u7 u8 u9 u10 E hK0
    rw [m_findsWidths_24] at E
    refine r_iload (i := 5) C dX12_findsWidths_24 rfl ?_
    refine r_aload_n (i := 0) C dX12_findsWidths_26 rfl rfl (by first | rfl | exact isR_rf _) ?_
    refine rm_get (k := 3) C f_X12_16 dX12_findsWidths_27 rfl rfl hM rfl ?_
    refine r_ic_ge (tgt := 104) C dX12_findsWidths_30 (by decide) (fun c_30 => ?_) (fun c_30 => ?_)
    · have E := ite_t E c_30
      exact hK0 _ _ _ _ _ _ _ _ E
    · have E := ite_f E c_30
      refine r_aload_n (i := 0) C dX12_findsWidths_33 rfl rfl (by first | rfl | exact isR_rf _) ?_
      refine rm_ref (k := 5) C f_X12_23 dX12_findsWidths_34 rfl rfl hM rfl ?_
      refine r_iload (i := 5) C dX12_findsWidths_37 rfl ?_
      obtain ⟨g16, E⟩ := gd_elim E
      refine rm_iald (k := 5) C dX12_findsWidths_39 hM rfl rfl g16 ?_
      refine r_iload_n (i := 1) C dX12_findsWidths_40 rfl rfl ?_
      refine r_ic_ne (tgt := 98) C dX12_findsWidths_41 (by decide) (fun c_41 => ?_) (fun c_41 => ?_)
      · have E := ite_f E c_41
        refine r_iinc1 (i := 5) C dX12_findsWidths_98 rfl ?_
        refine r_goto (tgt := 24) C dX12_findsWidths_101 (by decide) ?_
        exact ih _ _ _ _ _ _ _ _ E hK0
      · have E := ite_t E c_41
        refine r_aload_n (i := 0) C dX12_findsWidths_44 rfl rfl (by first | rfl | exact isR_rf _) ?_
        refine rm_ref (k := 28) C f_X12_90 dX12_findsWidths_45 rfl rfl hM rfl ?_
        refine r_iload (i := 5) C dX12_findsWidths_48 rfl ?_
        refine r_aload_n (i := 0) C dX12_findsWidths_50 rfl rfl (by first | rfl | exact isR_rf _) ?_
        refine rm_ref (k := 28) C f_X12_90 dX12_findsWidths_51 rfl rfl hM rfl ?_
        refine r_iload_n (i := 1) C dX12_findsWidths_54 rfl rfl ?_
        obtain ⟨g24, E⟩ := gd_elim E
        refine rm_zald (k := 28) C dX12_findsWidths_55 hM rfl rfl g24 ?_
        obtain ⟨g28, E⟩ := gd_elim E
        have J29 : ∀ (u : Unit), wr X 0 0 75 [.ref m, .int x1, v2, v3, .int x4, .int x5, u6, u7, u8, u9, u10] [.int (if (S 28 (tn x1)) = (0 : Int32) then (0 : Int32) else if (m_of S x5 (5 : Int32)) = (3 : Int32) then (0 : Int32) else (1 : Int32)), .int x5, .ref (m + mad 28)] (pm m h S) := by
          intro u
          refine bnd_elim (P := fun (z : Int32) => wr X 0 0 75 [.ref m, .int x1, v2, v3, .int x4, .int x5, u6, u7, u8, u9, u10] [.int z, .int x5, .ref (m + mad 28)] (pm m h S)) E (fun p30 E => ?_)
          obtain ⟨g32, E⟩ := gd_elim E
          refine rm_zast (k := 28) C dX12_findsWidths_75 hM rfl rfl g16 g32 ?_
          refine bnd_elim (P := fun (Z : MM) => wr X 0 0 76 [.ref m, .int x1, v2, v3, .int x4, .int x5, u6, u7, u8, u9, u10] [] (pm m h Z)) E (fun S31 E => ?_)
          refine r_aload_n (i := 0) C dX12_findsWidths_76 rfl rfl (by first | rfl | exact isR_rf _) ?_
          refine rm_ref (k := 28) C f_X12_90 dX12_findsWidths_77 rfl rfl hM rfl ?_
          refine r_iload (i := 5) C dX12_findsWidths_80 rfl ?_
          refine rm_zald (k := 28) C dX12_findsWidths_82 hM rfl rfl g16 ?_
          refine r_if_eq (tgt := 98) C dX12_findsWidths_83 (by decide) (fun c_83 => ?_) (fun c_83 => ?_)
          · have E := ite_t E c_83
            refine r_iinc1 (i := 5) C dX12_findsWidths_98 rfl ?_
            refine r_goto (tgt := 24) C dX12_findsWidths_101 (by decide) ?_
            exact ih _ _ _ _ _ _ _ _ E hK0
          · have E := ite_f E c_83
            refine r_aload_n (i := 0) C dX12_findsWidths_86 rfl rfl (by first | rfl | exact isR_rf _) ?_
            refine rm_ref (k := 34) C f_X12_102 dX12_findsWidths_87 rfl rfl hM rfl ?_
            refine r_iload (i := 4) C dX12_findsWidths_90 rfl ?_
            refine r_iload (i := 5) C dX12_findsWidths_92 rfl ?_
            obtain ⟨g35, E⟩ := gd_elim E
            refine rm_iast (k := 34) C dX12_findsWidths_94 hM rfl rfl g35 ?_
            refine bnd_elim (P := fun (Z : MM) => wr X 0 0 95 [.ref m, .int x1, v2, v3, .int x4, .int x5, u6, u7, u8, u9, u10] [] (pm m h Z)) E (fun S34 E => ?_)
            refine r_iinc1 (i := 4) C dX12_findsWidths_95 rfl ?_
            refine r_iinc1 (i := 5) C dX12_findsWidths_98 rfl ?_
            refine r_goto (tgt := 24) C dX12_findsWidths_101 (by decide) ?_
            exact ih _ _ _ _ _ _ _ _ E hK0
        refine r_if_eq (tgt := 74) C dX12_findsWidths_56 (by decide) (fun c_56_k25 => ?_) (fun c_56_k25 => ?_)
        · refine r_iconst (v := 0) C dX12_findsWidths_74 (by decide) ?_
          first | exact (J29  ()) | (simp only [if_pos c_56_k25] at J29; exact (J29  ()))
        · refine r_aload_n (i := 0) C dX12_findsWidths_59 rfl rfl (by first | rfl | exact isR_rf _) ?_
          refine r_iload (i := 5) C dX12_findsWidths_60 rfl ?_
          refine r_iconst (v := 5) C dX12_findsWidths_62 (by decide) ?_
          refine r_callVs C v_X12_223 (z_of _ _ hM (g28 c_56_k25)) dX12_findsWidths_63 hM.1 (ci := 10) (by decide) rfl rfl (As := [_, _]) rfl rfl rfl (by first | exact Nat.le_refl _ | exact Nat.le_of_ble_eq_true rfl | omega) (Nat.le_of_ble_eq_true rfl) (by first | exact Nat.le_refl _ | exact Nat.le_of_ble_eq_true rfl | omega) (by first | exact Nat.le_refl _ | exact Nat.le_of_ble_eq_true rfl | omega) ?_
          refine r_iconst (v := 3) C dX12_findsWidths_66 (by decide) ?_
          refine r_ic_eq (tgt := 74) C dX12_findsWidths_67 (by decide) (fun c_67_k27 => ?_) (fun c_67_k27 => ?_)
          · refine r_iconst (v := 0) C dX12_findsWidths_74 (by decide) ?_
            first | exact (J29  ()) | (simp only [if_neg c_56_k25, if_pos c_67_k27] at J29; exact (J29  ()))
          · refine r_iconst (v := 1) C dX12_findsWidths_70 (by decide) ?_
            refine r_goto (tgt := 75) C dX12_findsWidths_71 (by decide) ?_
            first | exact (J29  ()) | (simp only [if_neg c_56_k25, if_neg c_67_k27] at J29; exact (J29  ()))
def m_findsWidths_107 (K0 : MM → Option (MM)) (x1 x2 x3 x4 : Int32) : Nat → Int32 → MM → Option (MM)
  | 0, _, _ => none
  | fu + 1, x5, S => if x4 ≤ x5 then (K0 S) else (if ix x5 24 then bnd (S 34 (tn x5)) fun p53 => (if m_of_g S p53 (0 : Int32) then bnd (m_of S p53 (0 : Int32)) fun p56 => (if m_of_g S x1 (7 : Int32) then bnd (m_of S x1 (7 : Int32)) fun p59 => (if ¬ p59 = 0 then bnd (if (x2 - x2 / p59 * p59) ≤ (x5 - x5 / p59 * p59) then (0 : Int32) else (1 : Int32)) fun p64 => bnd ((x2 / p59) + p64) fun p65 => (if x3 = (1 : Int32) then (if ix p53 24 then if (S 9 (tn p53)) = (0 : Int32) then (bd (m_widest S p53) fun p82 => (if (¬ (x3 = (2 : Int32)) → m_capped_g S p53 (if p56 = ((-2) : Int32) then p82 else p56)) then bnd (if x3 = (2 : Int32) then p65 else m_capped S p53 (if p56 = ((-2) : Int32) then p82 else p56)) fun p89 => if ix (((4 : Int32) * p53) + (2 : Int32)) 96 then bnd (u2 S 25 (tn (((4 : Int32) * p53) + (2 : Int32))) p89) fun S90 => (bnd (u2 S90 35 (tn x5) (0 : Int32)) fun S92 => (m_findsWidths_107 K0 x1 x2 x3 x4 fu (x5 + 1) S92)) else none else none)) else (if (¬ (x3 = (2 : Int32)) → m_capped_g S p53 (if p56 = ((-2) : Int32) then (0 : Int32) else p56)) then bnd (if x3 = (2 : Int32) then p65 else m_capped S p53 (if p56 = ((-2) : Int32) then (0 : Int32) else p56)) fun p99 => if ix (((4 : Int32) * p53) + (2 : Int32)) 96 then bnd (u2 S 25 (tn (((4 : Int32) * p53) + (2 : Int32))) p99) fun S100 => (bnd (u2 S100 35 (tn x5) (0 : Int32)) fun S102 => (m_findsWidths_107 K0 x1 x2 x3 x4 fu (x5 + 1) S102)) else none else none) else none) else (if (¬ (x3 = (2 : Int32)) → m_capped_g S p53 (if p56 = ((-2) : Int32) then x2 else p56)) then bnd (if x3 = (2 : Int32) then p65 else m_capped S p53 (if p56 = ((-2) : Int32) then x2 else p56)) fun p75 => if ix (((4 : Int32) * p53) + (2 : Int32)) 96 then bnd (u2 S 25 (tn (((4 : Int32) * p53) + (2 : Int32))) p75) fun S76 => (bnd (u2 S76 35 (tn x5) (0 : Int32)) fun S78 => (m_findsWidths_107 K0 x1 x2 x3 x4 fu (x5 + 1) S78)) else none else none)) else none) else none) else none) else none)
theorem z_findsWidths_107 {X : Ctx} {m : Nat} {h : Hp} (C : Cx X yX12_findsWidths cX12_findsWidths 11 none [] 3 0 0) (hM : MW m h) {K0 : MM → Option (MM)} {x1 x2 x3 x4 : Int32} {r : MM} (E0 : Ex X 0 0 (.inl (none, pm m h r))) : ∀ (fu : Nat) (x5 : Int32) (S : MM) (u6 u7 u8 u9 u10 : Value) , m_findsWidths_107 K0 x1 x2 x3 x4 fu x5 S = some r → (∀ (S2 : MM) (u1 u5 u6 u7 u8 u9 u10 : Value) , K0 S2 = some r → wr X 0 0 251 [.ref m, u1, .int x2, .int x3, .int x4, u5, u6, u7, u8, u9, u10] [] (pm m h S2)) → wr X 0 0 107 [.ref m, .int x1, .int x2, .int x3, .int x4, .int x5, u6, u7, u8, u9, u10] [] (pm m h S) := by
  intro fu
  induction fu with
  | zero =>
    intro x5 S u6 u7 u8 u9 u10 E hK0
    rw [m_findsWidths_107] at E
    cases E
  | succ fu ih =>
    intro x5 S u6 u7 u8 u9 u10 E hK0
    rw [m_findsWidths_107] at E
    refine r_iload (i := 5) C dX12_findsWidths_107 rfl ?_
    refine r_iload (i := 4) C dX12_findsWidths_109 rfl ?_
    refine r_ic_ge (tgt := 251) C dX12_findsWidths_111 (by decide) (fun c_111 => ?_) (fun c_111 => ?_)
    · have E := ite_t E c_111
      exact hK0 _ _ _ _ _ _ _ _ E
    · have E := ite_f E c_111
      refine r_aload_n (i := 0) C dX12_findsWidths_114 rfl rfl (by first | rfl | exact isR_rf _) ?_
      refine rm_ref (k := 34) C f_X12_102 dX12_findsWidths_115 rfl rfl hM rfl ?_
      refine r_iload (i := 5) C dX12_findsWidths_118 rfl ?_
      obtain ⟨g52, E⟩ := gd_elim E
      refine rm_iald (k := 34) C dX12_findsWidths_120 hM rfl rfl g52 ?_
      refine bnd_elim (P := fun (z : Int32) => wr X 0 0 121 [.ref m, .int x1, .int x2, .int x3, .int x4, .int x5, u6, u7, u8, u9, u10] [.int z] (pm m h S)) E (fun p53 E => ?_)
      refine r_istore (i := 6) C dX12_findsWidths_121 (Nat.le_of_ble_eq_true rfl) ?_
      refine r_aload_n (i := 0) C dX12_findsWidths_123 rfl rfl (by first | rfl | exact isR_rf _) ?_
      refine r_iload (i := 6) C dX12_findsWidths_124 rfl ?_
      refine r_iconst (v := 0) C dX12_findsWidths_126 (by decide) ?_
      obtain ⟨g55, E⟩ := gd_elim E
      refine r_callVs C v_X12_223 (z_of _ _ hM g55) dX12_findsWidths_127 hM.1 (ci := 10) (by decide) rfl rfl (As := [_, _]) rfl rfl rfl (by first | exact Nat.le_refl _ | exact Nat.le_of_ble_eq_true rfl | omega) (Nat.le_of_ble_eq_true rfl) (by first | exact Nat.le_refl _ | exact Nat.le_of_ble_eq_true rfl | omega) (by first | exact Nat.le_refl _ | exact Nat.le_of_ble_eq_true rfl | omega) ?_
      refine bnd_elim (P := fun (z : Int32) => wr X 0 0 130 [.ref m, .int x1, .int x2, .int x3, .int x4, .int x5, .int p53, u7, u8, u9, u10] [.int z] (pm m h S)) E (fun p56 E => ?_)
      refine r_istore (i := 7) C dX12_findsWidths_130 (Nat.le_of_ble_eq_true rfl) ?_
      refine r_aload_n (i := 0) C dX12_findsWidths_132 rfl rfl (by first | rfl | exact isR_rf _) ?_
      refine r_iload_n (i := 1) C dX12_findsWidths_133 rfl rfl ?_
      refine r_bipush (v := 7) C dX12_findsWidths_134 (by decide) ?_
      obtain ⟨g58, E⟩ := gd_elim E
      refine r_callVs C v_X12_223 (z_of _ _ hM g58) dX12_findsWidths_136 hM.1 (ci := 10) (by decide) rfl rfl (As := [_, _]) rfl rfl rfl (by first | exact Nat.le_refl _ | exact Nat.le_of_ble_eq_true rfl | omega) (Nat.le_of_ble_eq_true rfl) (by first | exact Nat.le_refl _ | exact Nat.le_of_ble_eq_true rfl | omega) (by first | exact Nat.le_refl _ | exact Nat.le_of_ble_eq_true rfl | omega) ?_
      refine bnd_elim (P := fun (z : Int32) => wr X 0 0 139 [.ref m, .int x1, .int x2, .int x3, .int x4, .int x5, .int p53, .int p56, u8, u9, u10] [.int z] (pm m h S)) E (fun p59 E => ?_)
      refine r_istore (i := 8) C dX12_findsWidths_139 (Nat.le_of_ble_eq_true rfl) ?_
      refine r_iload_n (i := 2) C dX12_findsWidths_141 rfl rfl ?_
      refine r_iload (i := 8) C dX12_findsWidths_142 rfl ?_
      obtain ⟨g61, E⟩ := gd_elim E
      refine r_idiv C dX12_findsWidths_144 g61 ?_
      refine r_iload (i := 5) C dX12_findsWidths_145 rfl ?_
      refine r_iload (i := 8) C dX12_findsWidths_147 rfl ?_
      refine r_irem C dX12_findsWidths_149 g61 ?_
      refine r_iload_n (i := 2) C dX12_findsWidths_150 rfl rfl ?_
      refine r_iload (i := 8) C dX12_findsWidths_151 rfl ?_
      refine r_irem C dX12_findsWidths_153 g61 ?_
      have J63 : ∀ (u : Unit), wr X 0 0 162 [.ref m, .int x1, .int x2, .int x3, .int x4, .int x5, .int p53, .int p56, .int p59, u9, u10] [.int (if (x2 - x2 / p59 * p59) ≤ (x5 - x5 / p59 * p59) then (0 : Int32) else (1 : Int32)), .int (x2 / p59)] (pm m h S) := by
        intro u
        refine bnd_elim (P := fun (z : Int32) => wr X 0 0 162 [.ref m, .int x1, .int x2, .int x3, .int x4, .int x5, .int p53, .int p56, .int p59, u9, u10] [.int z, .int (x2 / p59)] (pm m h S)) E (fun p64 E => ?_)
        refine r_iadd C dX12_findsWidths_162 ?_
        refine bnd_elim (P := fun (z : Int32) => wr X 0 0 163 [.ref m, .int x1, .int x2, .int x3, .int x4, .int x5, .int p53, .int p56, .int p59, u9, u10] [.int z] (pm m h S)) E (fun p65 E => ?_)
        refine r_istore (i := 9) C dX12_findsWidths_163 (Nat.le_of_ble_eq_true rfl) ?_
        refine r_iload_n (i := 3) C dX12_findsWidths_165 rfl rfl ?_
        refine r_iconst (v := 1) C dX12_findsWidths_166 (by decide) ?_
        refine r_ic_ne (tgt := 193) C dX12_findsWidths_167 (by decide) (fun c_167 => ?_) (fun c_167 => ?_)
        · have E := ite_f E c_167
          refine r_iload_n (i := 2) C dX12_findsWidths_193 rfl rfl ?_
          refine r_istore (i := 10) C dX12_findsWidths_194 (Nat.le_of_ble_eq_true rfl) ?_
          refine r_aload_n (i := 0) C dX12_findsWidths_196 rfl rfl (by first | rfl | exact isR_rf _) ?_
          refine rm_ref (k := 25) C f_X12_81 dX12_findsWidths_197 rfl rfl hM rfl ?_
          refine r_iconst (v := 4) C dX12_findsWidths_200 (by decide) ?_
          refine r_iload (i := 6) C dX12_findsWidths_201 rfl ?_
          refine r_imul C dX12_findsWidths_203 ?_
          refine r_iconst (v := 2) C dX12_findsWidths_204 (by decide) ?_
          refine r_iadd C dX12_findsWidths_205 ?_
          refine r_iload_n (i := 3) C dX12_findsWidths_206 rfl rfl ?_
          refine r_iconst (v := 2) C dX12_findsWidths_207 (by decide) ?_
          obtain ⟨g73, E⟩ := gd_elim E
          have J74 : ∀ (u : Unit), wr X 0 0 236 [.ref m, .int x1, .int x2, .int x3, .int x4, .int x5, .int p53, .int p56, .int p59, .int p65, .int x2] [.int (if x3 = (2 : Int32) then p65 else m_capped S p53 (if p56 = ((-2) : Int32) then x2 else p56)), .int (((4 : Int32) * p53) + (2 : Int32)), .ref (m + mad 25)] (pm m h S) := by
            intro u
            refine bnd_elim (P := fun (z : Int32) => wr X 0 0 236 [.ref m, .int x1, .int x2, .int x3, .int x4, .int x5, .int p53, .int p56, .int p59, .int p65, .int x2] [.int z, .int (((4 : Int32) * p53) + (2 : Int32)), .ref (m + mad 25)] (pm m h S)) E (fun p75 E => ?_)
            obtain ⟨g77, E⟩ := gd_elim E
            refine rm_iast (k := 25) C dX12_findsWidths_236 hM rfl rfl g77 ?_
            refine bnd_elim (P := fun (Z : MM) => wr X 0 0 237 [.ref m, .int x1, .int x2, .int x3, .int x4, .int x5, .int p53, .int p56, .int p59, .int p65, .int x2] [] (pm m h Z)) E (fun S76 E => ?_)
            refine r_aload_n (i := 0) C dX12_findsWidths_237 rfl rfl (by first | rfl | exact isR_rf _) ?_
            refine rm_ref (k := 35) C f_X12_105 dX12_findsWidths_238 rfl rfl hM rfl ?_
            refine r_iload (i := 5) C dX12_findsWidths_241 rfl ?_
            refine r_iconst (v := 0) C dX12_findsWidths_243 (by decide) ?_
            refine rm_zast (k := 35) C dX12_findsWidths_244 hM rfl rfl g52 (by first | exact Or.inl rfl | exact Or.inr rfl | assumption | exact b_canBe | exact b_in | exact b_isRule | exact b_isPart | exact b_isPartOf | (repeat' split) <;> first | exact Or.inl rfl | exact Or.inr rfl | assumption | exact b_canBe | exact b_in | exact b_isRule | exact b_isPart | exact b_isPartOf) ?_
            refine bnd_elim (P := fun (Z : MM) => wr X 0 0 245 [.ref m, .int x1, .int x2, .int x3, .int x4, .int x5, .int p53, .int p56, .int p59, .int p65, .int x2] [] (pm m h Z)) E (fun S78 E => ?_)
            refine r_iinc1 (i := 5) C dX12_findsWidths_245 rfl ?_
            refine r_goto (tgt := 107) C dX12_findsWidths_248 (by decide) ?_
            exact ih _ _ _ _ _ _ _ E hK0
          refine r_ic_ne (tgt := 216) C dX12_findsWidths_208 (by decide) (fun c_208_k69 => ?_) (fun c_208_k69 => ?_)
          · refine r_aload_n (i := 0) C dX12_findsWidths_216 rfl rfl (by first | rfl | exact isR_rf _) ?_
            refine r_iload (i := 6) C dX12_findsWidths_217 rfl ?_
            refine r_iload (i := 7) C dX12_findsWidths_219 rfl ?_
            refine r_bipush (v := (-2)) C dX12_findsWidths_221 (by decide) ?_
            have J71 : ∀ (u : Unit), wr X 0 0 233 [.ref m, .int x1, .int x2, .int x3, .int x4, .int x5, .int p53, .int p56, .int p59, .int p65, .int x2] [.int (if p56 = ((-2) : Int32) then x2 else p56), .int p53, .ref m, .int (((4 : Int32) * p53) + (2 : Int32)), .ref (m + mad 25)] (pm m h S) := by
              intro u
              refine r_callVs C v_X12_229 (z_capped _ _ hM (g73 c_208_k69)) dX12_findsWidths_233 hM.1 (ci := 10) (by decide) rfl rfl (As := [_, _]) rfl rfl rfl (by first | exact Nat.le_refl _ | exact Nat.le_of_ble_eq_true rfl | omega) (Nat.le_of_ble_eq_true rfl) (by first | exact Nat.le_refl _ | exact Nat.le_of_ble_eq_true rfl | omega) (by first | exact Nat.le_refl _ | exact Nat.le_of_ble_eq_true rfl | omega) ?_
              first | exact (J74  ()) | (simp only [if_neg c_208_k69] at J74; exact (J74  ()))
            refine r_ic_ne (tgt := 231) C dX12_findsWidths_223 (by decide) (fun c_223_k70 => ?_) (fun c_223_k70 => ?_)
            · refine r_iload (i := 7) C dX12_findsWidths_231 rfl ?_
              first | exact (J71  ()) | (simp only [if_neg c_223_k70] at J71; exact (J71  ()))
            · refine r_iload (i := 10) C dX12_findsWidths_226 rfl ?_
              refine r_goto (tgt := 233) C dX12_findsWidths_228 (by decide) ?_
              first | exact (J71  ()) | (simp only [if_pos c_223_k70] at J71; exact (J71  ()))
          · refine r_iload (i := 9) C dX12_findsWidths_211 rfl ?_
            refine r_goto (tgt := 236) C dX12_findsWidths_213 (by decide) ?_
            first | exact (J74  ()) | (simp only [if_pos c_208_k69] at J74; exact (J74  ()))
        · have E := ite_t E c_167
          refine r_aload_n (i := 0) C dX12_findsWidths_170 rfl rfl (by first | rfl | exact isR_rf _) ?_
          refine rm_ref (k := 9) C f_X12_35 dX12_findsWidths_171 rfl rfl hM rfl ?_
          refine r_iload (i := 6) C dX12_findsWidths_174 rfl ?_
          obtain ⟨g80, E⟩ := gd_elim E
          refine rm_zald (k := 9) C dX12_findsWidths_176 hM rfl rfl g80 ?_
          refine r_if_eq (tgt := 184) C dX12_findsWidths_177 (by decide) (fun c_177 => ?_) (fun c_177 => ?_)
          · have E := ite_t E c_177
            refine r_aload_n (i := 0) C dX12_findsWidths_184 rfl rfl (by first | rfl | exact isR_rf _) ?_
            refine r_iload (i := 6) C dX12_findsWidths_185 rfl ?_
            obtain ⟨p82, q, E⟩ := bd_elim E
            refine r_callVs C v_X12_226 (z_widest _ _ hM q) dX12_findsWidths_187 hM.1 (ci := 10) (by decide) rfl rfl (As := [_]) rfl rfl rfl (by first | exact Nat.le_refl _ | exact Nat.le_of_ble_eq_true rfl | omega) (Nat.le_of_ble_eq_true rfl) (by first | exact Nat.le_refl _ | exact Nat.le_of_ble_eq_true rfl | omega) (by first | exact Nat.le_refl _ | exact Nat.le_of_ble_eq_true rfl | omega) ?_
            refine r_goto (tgt := 194) C dX12_findsWidths_190 (by decide) ?_
            refine r_istore (i := 10) C dX12_findsWidths_194 (Nat.le_of_ble_eq_true rfl) ?_
            refine r_aload_n (i := 0) C dX12_findsWidths_196 rfl rfl (by first | rfl | exact isR_rf _) ?_
            refine rm_ref (k := 25) C f_X12_81 dX12_findsWidths_197 rfl rfl hM rfl ?_
            refine r_iconst (v := 4) C dX12_findsWidths_200 (by decide) ?_
            refine r_iload (i := 6) C dX12_findsWidths_201 rfl ?_
            refine r_imul C dX12_findsWidths_203 ?_
            refine r_iconst (v := 2) C dX12_findsWidths_204 (by decide) ?_
            refine r_iadd C dX12_findsWidths_205 ?_
            refine r_iload_n (i := 3) C dX12_findsWidths_206 rfl rfl ?_
            refine r_iconst (v := 2) C dX12_findsWidths_207 (by decide) ?_
            obtain ⟨g87, E⟩ := gd_elim E
            have J88 : ∀ (u : Unit), wr X 0 0 236 [.ref m, .int x1, .int x2, .int x3, .int x4, .int x5, .int p53, .int p56, .int p59, .int p65, .int p82] [.int (if x3 = (2 : Int32) then p65 else m_capped S p53 (if p56 = ((-2) : Int32) then p82 else p56)), .int (((4 : Int32) * p53) + (2 : Int32)), .ref (m + mad 25)] (pm m h S) := by
              intro u
              refine bnd_elim (P := fun (z : Int32) => wr X 0 0 236 [.ref m, .int x1, .int x2, .int x3, .int x4, .int x5, .int p53, .int p56, .int p59, .int p65, .int p82] [.int z, .int (((4 : Int32) * p53) + (2 : Int32)), .ref (m + mad 25)] (pm m h S)) E (fun p89 E => ?_)
              obtain ⟨g91, E⟩ := gd_elim E
              refine rm_iast (k := 25) C dX12_findsWidths_236 hM rfl rfl g91 ?_
              refine bnd_elim (P := fun (Z : MM) => wr X 0 0 237 [.ref m, .int x1, .int x2, .int x3, .int x4, .int x5, .int p53, .int p56, .int p59, .int p65, .int p82] [] (pm m h Z)) E (fun S90 E => ?_)
              refine r_aload_n (i := 0) C dX12_findsWidths_237 rfl rfl (by first | rfl | exact isR_rf _) ?_
              refine rm_ref (k := 35) C f_X12_105 dX12_findsWidths_238 rfl rfl hM rfl ?_
              refine r_iload (i := 5) C dX12_findsWidths_241 rfl ?_
              refine r_iconst (v := 0) C dX12_findsWidths_243 (by decide) ?_
              refine rm_zast (k := 35) C dX12_findsWidths_244 hM rfl rfl g52 (by first | exact Or.inl rfl | exact Or.inr rfl | assumption | exact b_canBe | exact b_in | exact b_isRule | exact b_isPart | exact b_isPartOf | (repeat' split) <;> first | exact Or.inl rfl | exact Or.inr rfl | assumption | exact b_canBe | exact b_in | exact b_isRule | exact b_isPart | exact b_isPartOf) ?_
              refine bnd_elim (P := fun (Z : MM) => wr X 0 0 245 [.ref m, .int x1, .int x2, .int x3, .int x4, .int x5, .int p53, .int p56, .int p59, .int p65, .int p82] [] (pm m h Z)) E (fun S92 E => ?_)
              refine r_iinc1 (i := 5) C dX12_findsWidths_245 rfl ?_
              refine r_goto (tgt := 107) C dX12_findsWidths_248 (by decide) ?_
              exact ih _ _ _ _ _ _ _ E hK0
            refine r_ic_ne (tgt := 216) C dX12_findsWidths_208 (by decide) (fun c_208_k83 => ?_) (fun c_208_k83 => ?_)
            · refine r_aload_n (i := 0) C dX12_findsWidths_216 rfl rfl (by first | rfl | exact isR_rf _) ?_
              refine r_iload (i := 6) C dX12_findsWidths_217 rfl ?_
              refine r_iload (i := 7) C dX12_findsWidths_219 rfl ?_
              refine r_bipush (v := (-2)) C dX12_findsWidths_221 (by decide) ?_
              have J85 : ∀ (u : Unit), wr X 0 0 233 [.ref m, .int x1, .int x2, .int x3, .int x4, .int x5, .int p53, .int p56, .int p59, .int p65, .int p82] [.int (if p56 = ((-2) : Int32) then p82 else p56), .int p53, .ref m, .int (((4 : Int32) * p53) + (2 : Int32)), .ref (m + mad 25)] (pm m h S) := by
                intro u
                refine r_callVs C v_X12_229 (z_capped _ _ hM (g87 c_208_k83)) dX12_findsWidths_233 hM.1 (ci := 10) (by decide) rfl rfl (As := [_, _]) rfl rfl rfl (by first | exact Nat.le_refl _ | exact Nat.le_of_ble_eq_true rfl | omega) (Nat.le_of_ble_eq_true rfl) (by first | exact Nat.le_refl _ | exact Nat.le_of_ble_eq_true rfl | omega) (by first | exact Nat.le_refl _ | exact Nat.le_of_ble_eq_true rfl | omega) ?_
                first | exact (J88  ()) | (simp only [if_neg c_208_k83] at J88; exact (J88  ()))
              refine r_ic_ne (tgt := 231) C dX12_findsWidths_223 (by decide) (fun c_223_k84 => ?_) (fun c_223_k84 => ?_)
              · refine r_iload (i := 7) C dX12_findsWidths_231 rfl ?_
                first | exact (J85  ()) | (simp only [if_neg c_223_k84] at J85; exact (J85  ()))
              · refine r_iload (i := 10) C dX12_findsWidths_226 rfl ?_
                refine r_goto (tgt := 233) C dX12_findsWidths_228 (by decide) ?_
                first | exact (J85  ()) | (simp only [if_pos c_223_k84] at J85; exact (J85  ()))
            · refine r_iload (i := 9) C dX12_findsWidths_211 rfl ?_
              refine r_goto (tgt := 236) C dX12_findsWidths_213 (by decide) ?_
              first | exact (J88  ()) | (simp only [if_pos c_208_k83] at J88; exact (J88  ()))
          · have E := ite_f E c_177
            refine r_iconst (v := 0) C dX12_findsWidths_180 (by decide) ?_
            refine r_goto (tgt := 194) C dX12_findsWidths_181 (by decide) ?_
            refine r_istore (i := 10) C dX12_findsWidths_194 (Nat.le_of_ble_eq_true rfl) ?_
            refine r_aload_n (i := 0) C dX12_findsWidths_196 rfl rfl (by first | rfl | exact isR_rf _) ?_
            refine rm_ref (k := 25) C f_X12_81 dX12_findsWidths_197 rfl rfl hM rfl ?_
            refine r_iconst (v := 4) C dX12_findsWidths_200 (by decide) ?_
            refine r_iload (i := 6) C dX12_findsWidths_201 rfl ?_
            refine r_imul C dX12_findsWidths_203 ?_
            refine r_iconst (v := 2) C dX12_findsWidths_204 (by decide) ?_
            refine r_iadd C dX12_findsWidths_205 ?_
            refine r_iload_n (i := 3) C dX12_findsWidths_206 rfl rfl ?_
            refine r_iconst (v := 2) C dX12_findsWidths_207 (by decide) ?_
            obtain ⟨g97, E⟩ := gd_elim E
            have J98 : ∀ (u : Unit), wr X 0 0 236 [.ref m, .int x1, .int x2, .int x3, .int x4, .int x5, .int p53, .int p56, .int p59, .int p65, .int (0 : Int32)] [.int (if x3 = (2 : Int32) then p65 else m_capped S p53 (if p56 = ((-2) : Int32) then (0 : Int32) else p56)), .int (((4 : Int32) * p53) + (2 : Int32)), .ref (m + mad 25)] (pm m h S) := by
              intro u
              refine bnd_elim (P := fun (z : Int32) => wr X 0 0 236 [.ref m, .int x1, .int x2, .int x3, .int x4, .int x5, .int p53, .int p56, .int p59, .int p65, .int (0 : Int32)] [.int z, .int (((4 : Int32) * p53) + (2 : Int32)), .ref (m + mad 25)] (pm m h S)) E (fun p99 E => ?_)
              obtain ⟨g101, E⟩ := gd_elim E
              refine rm_iast (k := 25) C dX12_findsWidths_236 hM rfl rfl g101 ?_
              refine bnd_elim (P := fun (Z : MM) => wr X 0 0 237 [.ref m, .int x1, .int x2, .int x3, .int x4, .int x5, .int p53, .int p56, .int p59, .int p65, .int (0 : Int32)] [] (pm m h Z)) E (fun S100 E => ?_)
              refine r_aload_n (i := 0) C dX12_findsWidths_237 rfl rfl (by first | rfl | exact isR_rf _) ?_
              refine rm_ref (k := 35) C f_X12_105 dX12_findsWidths_238 rfl rfl hM rfl ?_
              refine r_iload (i := 5) C dX12_findsWidths_241 rfl ?_
              refine r_iconst (v := 0) C dX12_findsWidths_243 (by decide) ?_
              refine rm_zast (k := 35) C dX12_findsWidths_244 hM rfl rfl g52 (by first | exact Or.inl rfl | exact Or.inr rfl | assumption | exact b_canBe | exact b_in | exact b_isRule | exact b_isPart | exact b_isPartOf | (repeat' split) <;> first | exact Or.inl rfl | exact Or.inr rfl | assumption | exact b_canBe | exact b_in | exact b_isRule | exact b_isPart | exact b_isPartOf) ?_
              refine bnd_elim (P := fun (Z : MM) => wr X 0 0 245 [.ref m, .int x1, .int x2, .int x3, .int x4, .int x5, .int p53, .int p56, .int p59, .int p65, .int (0 : Int32)] [] (pm m h Z)) E (fun S102 E => ?_)
              refine r_iinc1 (i := 5) C dX12_findsWidths_245 rfl ?_
              refine r_goto (tgt := 107) C dX12_findsWidths_248 (by decide) ?_
              exact ih _ _ _ _ _ _ _ E hK0
            refine r_ic_ne (tgt := 216) C dX12_findsWidths_208 (by decide) (fun c_208_k93 => ?_) (fun c_208_k93 => ?_)
            · refine r_aload_n (i := 0) C dX12_findsWidths_216 rfl rfl (by first | rfl | exact isR_rf _) ?_
              refine r_iload (i := 6) C dX12_findsWidths_217 rfl ?_
              refine r_iload (i := 7) C dX12_findsWidths_219 rfl ?_
              refine r_bipush (v := (-2)) C dX12_findsWidths_221 (by decide) ?_
              have J95 : ∀ (u : Unit), wr X 0 0 233 [.ref m, .int x1, .int x2, .int x3, .int x4, .int x5, .int p53, .int p56, .int p59, .int p65, .int (0 : Int32)] [.int (if p56 = ((-2) : Int32) then (0 : Int32) else p56), .int p53, .ref m, .int (((4 : Int32) * p53) + (2 : Int32)), .ref (m + mad 25)] (pm m h S) := by
                intro u
                refine r_callVs C v_X12_229 (z_capped _ _ hM (g97 c_208_k93)) dX12_findsWidths_233 hM.1 (ci := 10) (by decide) rfl rfl (As := [_, _]) rfl rfl rfl (by first | exact Nat.le_refl _ | exact Nat.le_of_ble_eq_true rfl | omega) (Nat.le_of_ble_eq_true rfl) (by first | exact Nat.le_refl _ | exact Nat.le_of_ble_eq_true rfl | omega) (by first | exact Nat.le_refl _ | exact Nat.le_of_ble_eq_true rfl | omega) ?_
                first | exact (J98  ()) | (simp only [if_neg c_208_k93] at J98; exact (J98  ()))
              refine r_ic_ne (tgt := 231) C dX12_findsWidths_223 (by decide) (fun c_223_k94 => ?_) (fun c_223_k94 => ?_)
              · refine r_iload (i := 7) C dX12_findsWidths_231 rfl ?_
                first | exact (J95  ()) | (simp only [if_neg c_223_k94] at J95; exact (J95  ()))
              · refine r_iload (i := 10) C dX12_findsWidths_226 rfl ?_
                refine r_goto (tgt := 233) C dX12_findsWidths_228 (by decide) ?_
                first | exact (J95  ()) | (simp only [if_pos c_223_k94] at J95; exact (J95  ()))
            · refine r_iload (i := 9) C dX12_findsWidths_211 rfl ?_
              refine r_goto (tgt := 236) C dX12_findsWidths_213 (by decide) ?_
              first | exact (J98  ()) | (simp only [if_pos c_208_k93] at J98; exact (J98  ()))
      refine r_ic_ge (tgt := 161) C dX12_findsWidths_154 (by decide) (fun c_154_k62 => ?_) (fun c_154_k62 => ?_)
      · refine r_iconst (v := 0) C dX12_findsWidths_161 (by decide) ?_
        first | exact (J63  ()) | (simp only [if_pos c_154_k62] at J63; exact (J63  ()))
      · refine r_iconst (v := 1) C dX12_findsWidths_157 (by decide) ?_
        refine r_goto (tgt := 162) C dX12_findsWidths_158 (by decide) ?_
        first | exact (J63  ()) | (simp only [if_neg c_154_k62] at J63; exact (J63  ()))
def m_findsWidths (S : MM) (a0 : Int32) : Option (MM) := if ix (((4 : Int32) * a0) + (2 : Int32)) 96 then bnd (S 25 (tn (((4 : Int32) * a0) + (2 : Int32)))) fun p3 => (if m_of_g S a0 (5 : Int32) then bnd (m_of S a0 (5 : Int32)) fun p6 => (m_findsWidths_24 (fun p36 S43 => m_findsWidths_107 (fun S110 => if p6 = (1 : Int32) then (bd (m_shares S110 p36 p3) fun S112 => (some S112)) else (some S110)) a0 p3 p6 p36 1000 (0 : Int32) S43) a0 1000 (0 : Int32) (0 : Int32) S) else none) else none
theorem z_findsWidths (l : Launch) (G : Gl) {m : Nat} {h : Hp} (hM : MW m h) {S : MM} {a0 : Int32} {r : MM} (E : m_findsWidths S a0 = some r) : MRw l G yX12_findsWidths (.code yX12_findsWidths cX12_findsWidths 11 none) 3 0 0 [.ref m, .int a0] (pm m h S) (.inl (none, pm m h r)) := by
  refine mr_of (by decide +kernel) (Nat.le_of_ble_eq_true rfl) (ct2 rfl rfl) (fun X hG hl C E0 => ?_)
  subst hG hl
  rw [m_findsWidths] at E
  refine r_aload_n (i := 0) C dX12_findsWidths_0 rfl rfl (by first | rfl | exact isR_rf _) ?_
  refine rm_ref (k := 25) C f_X12_81 dX12_findsWidths_1 rfl rfl hM rfl ?_
  refine r_iconst (v := 4) C dX12_findsWidths_4 (by decide) ?_
  refine r_iload_n (i := 1) C dX12_findsWidths_5 rfl rfl ?_
  refine r_imul C dX12_findsWidths_6 ?_
  refine r_iconst (v := 2) C dX12_findsWidths_7 (by decide) ?_
  refine r_iadd C dX12_findsWidths_8 ?_
  obtain ⟨g2, E⟩ := gd_elim E
  refine rm_iald (k := 25) C dX12_findsWidths_9 hM rfl rfl g2 ?_
  refine bnd_elim (P := fun (z : Int32) => wr X 0 0 10 [.ref m, .int a0, (.long 0), (.long 0), (.long 0), (.long 0), (.long 0), (.long 0), (.long 0), (.long 0), (.long 0)] [.int z] (pm m h S)) E (fun p3 E => ?_)
  refine r_istore_n (i := 2) C dX12_findsWidths_10 rfl (Nat.le_of_ble_eq_true rfl) ?_
  refine r_aload_n (i := 0) C dX12_findsWidths_11 rfl rfl (by first | rfl | exact isR_rf _) ?_
  refine r_iload_n (i := 1) C dX12_findsWidths_12 rfl rfl ?_
  refine r_iconst (v := 5) C dX12_findsWidths_13 (by decide) ?_
  obtain ⟨g5, E⟩ := gd_elim E
  refine r_callVs C v_X12_223 (z_of _ _ hM g5) dX12_findsWidths_14 hM.1 (ci := 10) (by decide) rfl rfl (As := [_, _]) rfl rfl rfl (by first | exact Nat.le_refl _ | exact Nat.le_of_ble_eq_true rfl | omega) (Nat.le_of_ble_eq_true rfl) (by first | exact Nat.le_refl _ | exact Nat.le_of_ble_eq_true rfl | omega) (by first | exact Nat.le_refl _ | exact Nat.le_of_ble_eq_true rfl | omega) ?_
  refine bnd_elim (P := fun (z : Int32) => wr X 0 0 17 [.ref m, .int a0, .int p3, (.long 0), (.long 0), (.long 0), (.long 0), (.long 0), (.long 0), (.long 0), (.long 0)] [.int z] (pm m h S)) E (fun p6 E => ?_)
  refine r_istore_n (i := 3) C dX12_findsWidths_17 rfl (Nat.le_of_ble_eq_true rfl) ?_
  refine r_iconst (v := 0) C dX12_findsWidths_18 (by decide) ?_
  refine r_istore (i := 4) C dX12_findsWidths_19 (Nat.le_of_ble_eq_true rfl) ?_
  refine r_iconst (v := 0) C dX12_findsWidths_21 (by decide) ?_
  refine r_istore (i := 5) C dX12_findsWidths_22 (Nat.le_of_ble_eq_true rfl) ?_
  refine z_findsWidths_24 C hM E0 _ _ _ _ _ _ _ _ _ E (fun p36 S43 w37 w38 w39 w40 w41 w42 E => ?_)
  refine r_iconst (v := 0) C dX12_findsWidths_104 (by decide) ?_
  refine r_istore (i := 5) C dX12_findsWidths_105 (Nat.le_of_ble_eq_true rfl) ?_
  refine z_findsWidths_107 C hM E0 _ _ _ _ _ _ _ _ E (fun S110 w103 w104 w105 w106 w107 w108 w109 E => ?_)
  refine r_iload_n (i := 3) C dX12_findsWidths_251 rfl rfl ?_
  refine r_iconst (v := 1) C dX12_findsWidths_252 (by decide) ?_
  refine r_ic_ne (tgt := 263) C dX12_findsWidths_253 (by decide) (fun c_253 => ?_) (fun c_253 => ?_)
  · have E := ite_f E c_253
    obtain rfl := Option.some.inj E
    exact r_vret C E0 dX12_findsWidths_263 rfl (Nat.le_refl _) (Nat.le_refl _)
  · have E := ite_t E c_253
    refine r_aload_n (i := 0) C dX12_findsWidths_256 rfl rfl (by first | rfl | exact isR_rf _) ?_
    refine r_iload (i := 4) C dX12_findsWidths_257 rfl ?_
    refine r_iload_n (i := 2) C dX12_findsWidths_259 rfl rfl ?_
    obtain ⟨S112, q, E⟩ := bd_elim E
    refine r_callVn C v_X12_232 (z_shares _ _ hM q) dX12_findsWidths_260 hM.1 (ci := 10) (by decide) rfl rfl (As := [_, _]) rfl rfl rfl (by first | exact Nat.le_refl _ | exact Nat.le_of_ble_eq_true rfl | omega) (Nat.le_of_ble_eq_true rfl) (by first | exact Nat.le_refl _ | exact Nat.le_of_ble_eq_true rfl | omega) (by first | exact Nat.le_refl _ | exact Nat.le_of_ble_eq_true rfl | omega) ?_
    obtain rfl := Option.some.inj E
    exact r_vret C E0 dX12_findsWidths_263 rfl (Nat.le_refl _) (Nat.le_refl _)

def m_findsLines_16 (x1 : Int32) : Nat → Int32 → Int32 → MM → Option (MM)
  | 0, _, _, _ => none
  | fu + 1, x2, x3, S => if x3 ≤ (0 : Int32) then (some S) else (if m_of_g S x1 (9 : Int32) then bnd ((x3 - x3 / (10 : Int32) * (10 : Int32)) * (m_of S x1 (9 : Int32))) fun p13 => (if ix x1 24 then if (¬ ((S 26 (tn x1)) ≤ (0 : Int32)) → ix (((4 : Int32) * x1) + (2 : Int32)) 96) then bnd (if (S 26 (tn x1)) ≤ (0 : Int32) then (0 : Int32) else if (S 25 (tn (((4 : Int32) * x1) + (2 : Int32)))) < ((x2 + (m_of S x1 (9 : Int32))) + p13) then (0 : Int32) else (1 : Int32)) fun p21 => (bnd (if p21 = (0 : Int32) then p13 else (x2 + (m_of S x1 (9 : Int32))) + p13) fun p24 => (bnd (if p21 = (0 : Int32) then (1 : Int32) else (0 : Int32)) fun p27 => bnd (u2 S 26 (tn x1) ((S 26 (tn x1)) + p27)) fun S28 => (bnd (x3 / (10 : Int32)) fun p29 => (m_findsLines_16 x1 fu p24 p29 S28)))) else none else none) else none)
theorem z_findsLines_16 {X : Ctx} {m : Nat} {h : Hp} (C : Cx X yX12_findsLines cX12_findsLines 6 none [] 1 0 0) (hM : MW m h) {x1 : Int32} {r : MM} (E0 : Ex X 0 0 (.inl (none, pm m h r))) : ∀ (fu : Nat) (x2 x3 : Int32) (S : MM) (u4 u5 : Value) , m_findsLines_16 x1 fu x2 x3 S = some r → wr X 0 0 16 [.ref m, .int x1, .int x2, .int x3, u4, u5] [] (pm m h S) := by
  intro fu
  induction fu with
  | zero =>
    intro x2 x3 S u4 u5 E 
    rw [m_findsLines_16] at E
    cases E
  | succ fu ih =>
    intro x2 x3 S u4 u5 E 
    rw [m_findsLines_16] at E
    refine r_iload_n (i := 3) C dX12_findsLines_16 rfl rfl ?_
    refine r_if_le (tgt := 125) C dX12_findsLines_17 (by decide) (fun c_17 => ?_) (fun c_17 => ?_)
    · have E := ite_t E c_17
      obtain rfl := Option.some.inj E
      exact r_vret C E0 dX12_findsLines_125 rfl (Nat.le_refl _) (Nat.le_refl _)
    · have E := ite_f E c_17
      refine r_iload_n (i := 3) C dX12_findsLines_20 rfl rfl ?_
      refine r_bipush (v := 10) C dX12_findsLines_21 (by decide) ?_
      refine r_irem C dX12_findsLines_23 (by decide) ?_
      refine r_aload_n (i := 0) C dX12_findsLines_24 rfl rfl (by first | rfl | exact isR_rf _) ?_
      refine r_iload_n (i := 1) C dX12_findsLines_25 rfl rfl ?_
      refine r_bipush (v := 9) C dX12_findsLines_26 (by decide) ?_
      obtain ⟨g12, E⟩ := gd_elim E
      refine r_callVs C v_X12_223 (z_of _ _ hM g12) dX12_findsLines_28 hM.1 (ci := 10) (by decide) rfl rfl (As := [_, _]) rfl rfl rfl (by first | exact Nat.le_refl _ | exact Nat.le_of_ble_eq_true rfl | omega) (Nat.le_of_ble_eq_true rfl) (by first | exact Nat.le_refl _ | exact Nat.le_of_ble_eq_true rfl | omega) (by first | exact Nat.le_refl _ | exact Nat.le_of_ble_eq_true rfl | omega) ?_
      refine r_imul C dX12_findsLines_31 ?_
      refine bnd_elim (P := fun (z : Int32) => wr X 0 0 32 [.ref m, .int x1, .int x2, .int x3, u4, u5] [.int z] (pm m h S)) E (fun p13 E => ?_)
      refine r_istore (i := 4) C dX12_findsLines_32 (Nat.le_of_ble_eq_true rfl) ?_
      refine r_aload_n (i := 0) C dX12_findsLines_34 rfl rfl (by first | rfl | exact isR_rf _) ?_
      refine rm_ref (k := 26) C f_X12_84 dX12_findsLines_35 rfl rfl hM rfl ?_
      refine r_iload_n (i := 1) C dX12_findsLines_38 rfl rfl ?_
      obtain ⟨g15, E⟩ := gd_elim E
      refine rm_iald (k := 26) C dX12_findsLines_39 hM rfl rfl g15 ?_
      obtain ⟨g19, E⟩ := gd_elim E
      have J20 : ∀ (u : Unit), wr X 0 0 73 [.ref m, .int x1, .int x2, .int x3, .int p13, u5] [.int (if (S 26 (tn x1)) ≤ (0 : Int32) then (0 : Int32) else if (S 25 (tn (((4 : Int32) * x1) + (2 : Int32)))) < ((x2 + (m_of S x1 (9 : Int32))) + p13) then (0 : Int32) else (1 : Int32))] (pm m h S) := by
        intro u
        refine bnd_elim (P := fun (z : Int32) => wr X 0 0 73 [.ref m, .int x1, .int x2, .int x3, .int p13, u5] [.int z] (pm m h S)) E (fun p21 E => ?_)
        refine r_istore (i := 5) C dX12_findsLines_73 (Nat.le_of_ble_eq_true rfl) ?_
        refine r_iload (i := 5) C dX12_findsLines_75 rfl ?_
        have J23 : ∀ (u : Unit), wr X 0 0 97 [.ref m, .int x1, .int x2, .int x3, .int p13, .int p21] [.int (if p21 = (0 : Int32) then p13 else (x2 + (m_of S x1 (9 : Int32))) + p13)] (pm m h S) := by
          intro u
          refine bnd_elim (P := fun (z : Int32) => wr X 0 0 97 [.ref m, .int x1, .int x2, .int x3, .int p13, .int p21] [.int z] (pm m h S)) E (fun p24 E => ?_)
          refine r_istore_n (i := 2) C dX12_findsLines_97 rfl (Nat.le_of_ble_eq_true rfl) ?_
          refine r_aload_n (i := 0) C dX12_findsLines_98 rfl rfl (by first | rfl | exact isR_rf _) ?_
          refine rm_ref (k := 26) C f_X12_84 dX12_findsLines_99 rfl rfl hM rfl ?_
          refine r_iload_n (i := 1) C dX12_findsLines_102 rfl rfl ?_
          refine r_dup2 C (by first | rfl | exact isR_cat (isR_rf _)) (by first | rfl | exact isR_cat (isR_rf _)) dX12_findsLines_103 ?_
          refine rm_iald (k := 26) C dX12_findsLines_104 hM rfl rfl g15 ?_
          refine r_iload (i := 5) C dX12_findsLines_105 rfl ?_
          have J26 : ∀ (u : Unit), wr X 0 0 115 [.ref m, .int x1, .int p24, .int x3, .int p13, .int p21] [.int (if p21 = (0 : Int32) then (1 : Int32) else (0 : Int32)), .int (S 26 (tn x1)), .int x1, .ref (m + mad 26)] (pm m h S) := by
            intro u
            refine bnd_elim (P := fun (z : Int32) => wr X 0 0 115 [.ref m, .int x1, .int p24, .int x3, .int p13, .int p21] [.int z, .int (S 26 (tn x1)), .int x1, .ref (m + mad 26)] (pm m h S)) E (fun p27 E => ?_)
            refine r_iadd C dX12_findsLines_115 ?_
            refine rm_iast (k := 26) C dX12_findsLines_116 hM rfl rfl g15 ?_
            refine bnd_elim (P := fun (Z : MM) => wr X 0 0 117 [.ref m, .int x1, .int p24, .int x3, .int p13, .int p21] [] (pm m h Z)) E (fun S28 E => ?_)
            refine r_iload_n (i := 3) C dX12_findsLines_117 rfl rfl ?_
            refine r_bipush (v := 10) C dX12_findsLines_118 (by decide) ?_
            refine r_idiv C dX12_findsLines_120 (by decide) ?_
            refine bnd_elim (P := fun (z : Int32) => wr X 0 0 121 [.ref m, .int x1, .int p24, .int x3, .int p13, .int p21] [.int z] (pm m h S28)) E (fun p29 E => ?_)
            refine r_istore_n (i := 3) C dX12_findsLines_121 rfl (Nat.le_of_ble_eq_true rfl) ?_
            refine r_goto (tgt := 16) C dX12_findsLines_122 (by decide) ?_
            exact ih _ _ _ _ _ E
          refine r_if_eq (tgt := 114) C dX12_findsLines_107 (by decide) (fun c_107_k25 => ?_) (fun c_107_k25 => ?_)
          · refine r_iconst (v := 1) C dX12_findsLines_114 (by decide) ?_
            first | exact (J26  ()) | (simp only [if_pos c_107_k25] at J26; exact (J26  ()))
          · refine r_iconst (v := 0) C dX12_findsLines_110 (by decide) ?_
            refine r_goto (tgt := 115) C dX12_findsLines_111 (by decide) ?_
            first | exact (J26  ()) | (simp only [if_neg c_107_k25] at J26; exact (J26  ()))
        refine r_if_eq (tgt := 95) C dX12_findsLines_77 (by decide) (fun c_77_k22 => ?_) (fun c_77_k22 => ?_)
        · refine r_iload (i := 4) C dX12_findsLines_95 rfl ?_
          first | exact (J23  ()) | (simp only [if_pos c_77_k22] at J23; exact (J23  ()))
        · refine r_iload_n (i := 2) C dX12_findsLines_80 rfl rfl ?_
          refine r_aload_n (i := 0) C dX12_findsLines_81 rfl rfl (by first | rfl | exact isR_rf _) ?_
          refine r_iload_n (i := 1) C dX12_findsLines_82 rfl rfl ?_
          refine r_bipush (v := 9) C dX12_findsLines_83 (by decide) ?_
          refine r_callVs C v_X12_223 (z_of _ _ hM g12) dX12_findsLines_85 hM.1 (ci := 10) (by decide) rfl rfl (As := [_, _]) rfl rfl rfl (by first | exact Nat.le_refl _ | exact Nat.le_of_ble_eq_true rfl | omega) (Nat.le_of_ble_eq_true rfl) (by first | exact Nat.le_refl _ | exact Nat.le_of_ble_eq_true rfl | omega) (by first | exact Nat.le_refl _ | exact Nat.le_of_ble_eq_true rfl | omega) ?_
          refine r_iadd C dX12_findsLines_88 ?_
          refine r_iload (i := 4) C dX12_findsLines_89 rfl ?_
          refine r_iadd C dX12_findsLines_91 ?_
          refine r_goto (tgt := 97) C dX12_findsLines_92 (by decide) ?_
          first | exact (J23  ()) | (simp only [if_neg c_77_k22] at J23; exact (J23  ()))
      refine r_if_le (tgt := 72) C dX12_findsLines_40 (by decide) (fun c_40_k16 => ?_) (fun c_40_k16 => ?_)
      · refine r_iconst (v := 0) C dX12_findsLines_72 (by decide) ?_
        first | exact (J20  ()) | (simp only [if_pos c_40_k16] at J20; exact (J20  ()))
      · refine r_iload_n (i := 2) C dX12_findsLines_43 rfl rfl ?_
        refine r_aload_n (i := 0) C dX12_findsLines_44 rfl rfl (by first | rfl | exact isR_rf _) ?_
        refine r_iload_n (i := 1) C dX12_findsLines_45 rfl rfl ?_
        refine r_bipush (v := 9) C dX12_findsLines_46 (by decide) ?_
        refine r_callVs C v_X12_223 (z_of _ _ hM g12) dX12_findsLines_48 hM.1 (ci := 10) (by decide) rfl rfl (As := [_, _]) rfl rfl rfl (by first | exact Nat.le_refl _ | exact Nat.le_of_ble_eq_true rfl | omega) (Nat.le_of_ble_eq_true rfl) (by first | exact Nat.le_refl _ | exact Nat.le_of_ble_eq_true rfl | omega) (by first | exact Nat.le_refl _ | exact Nat.le_of_ble_eq_true rfl | omega) ?_
        refine r_iadd C dX12_findsLines_51 ?_
        refine r_iload (i := 4) C dX12_findsLines_52 rfl ?_
        refine r_iadd C dX12_findsLines_54 ?_
        refine r_aload_n (i := 0) C dX12_findsLines_55 rfl rfl (by first | rfl | exact isR_rf _) ?_
        refine rm_ref (k := 25) C f_X12_81 dX12_findsLines_56 rfl rfl hM rfl ?_
        refine r_iconst (v := 4) C dX12_findsLines_59 (by decide) ?_
        refine r_iload_n (i := 1) C dX12_findsLines_60 rfl rfl ?_
        refine r_imul C dX12_findsLines_61 ?_
        refine r_iconst (v := 2) C dX12_findsLines_62 (by decide) ?_
        refine r_iadd C dX12_findsLines_63 ?_
        refine rm_iald (k := 25) C dX12_findsLines_64 hM rfl rfl (g19 c_40_k16) ?_
        refine r_ic_gt (tgt := 72) C dX12_findsLines_65 (by decide) (fun c_65_k18 => ?_) (fun c_65_k18 => ?_)
        · refine r_iconst (v := 0) C dX12_findsLines_72 (by decide) ?_
          first | exact (J20  ()) | (simp only [if_neg c_40_k16, if_pos c_65_k18] at J20; exact (J20  ()))
        · refine r_iconst (v := 1) C dX12_findsLines_68 (by decide) ?_
          refine r_goto (tgt := 73) C dX12_findsLines_69 (by decide) ?_
          first | exact (J20  ()) | (simp only [if_neg c_40_k16, if_neg c_65_k18] at J20; exact (J20  ()))
def m_findsLines (S : MM) (a0 : Int32) : Option (MM) := if ix a0 24 then bnd (u2 S 26 (tn a0) (0 : Int32)) fun S1 => (bnd (S1 8 (tn a0)) fun p3 => (m_findsLines_16 a0 1000 (0 : Int32) p3 S1)) else none
theorem z_findsLines (l : Launch) (G : Gl) {m : Nat} {h : Hp} (hM : MW m h) {S : MM} {a0 : Int32} {r : MM} (E : m_findsLines S a0 = some r) : MRw l G yX12_findsLines (.code yX12_findsLines cX12_findsLines 6 none) 1 0 0 [.ref m, .int a0] (pm m h S) (.inl (none, pm m h r)) := by
  refine mr_of (by decide +kernel) (Nat.le_of_ble_eq_true rfl) (ct2 rfl rfl) (fun X hG hl C E0 => ?_)
  subst hG hl
  rw [m_findsLines] at E
  refine r_aload_n (i := 0) C dX12_findsLines_0 rfl rfl (by first | rfl | exact isR_rf _) ?_
  refine rm_ref (k := 26) C f_X12_84 dX12_findsLines_1 rfl rfl hM rfl ?_
  refine r_iload_n (i := 1) C dX12_findsLines_4 rfl rfl ?_
  refine r_iconst (v := 0) C dX12_findsLines_5 (by decide) ?_
  obtain ⟨g2, E⟩ := gd_elim E
  refine rm_iast (k := 26) C dX12_findsLines_6 hM rfl rfl g2 ?_
  refine bnd_elim (P := fun (Z : MM) => wr X 0 0 7 [.ref m, .int a0, (.long 0), (.long 0), (.long 0), (.long 0)] [] (pm m h Z)) E (fun S1 E => ?_)
  refine r_iconst (v := 0) C dX12_findsLines_7 (by decide) ?_
  refine r_istore_n (i := 2) C dX12_findsLines_8 rfl (Nat.le_of_ble_eq_true rfl) ?_
  refine r_aload_n (i := 0) C dX12_findsLines_9 rfl rfl (by first | rfl | exact isR_rf _) ?_
  refine rm_ref (k := 8) C f_X12_32 dX12_findsLines_10 rfl rfl hM rfl ?_
  refine r_iload_n (i := 1) C dX12_findsLines_13 rfl rfl ?_
  refine rm_iald (k := 8) C dX12_findsLines_14 hM rfl rfl g2 ?_
  refine bnd_elim (P := fun (z : Int32) => wr X 0 0 15 [.ref m, .int a0, .int (0 : Int32), (.long 0), (.long 0), (.long 0)] [.int z] (pm m h S1)) E (fun p3 E => ?_)
  refine r_istore_n (i := 3) C dX12_findsLines_15 rfl (Nat.le_of_ble_eq_true rfl) ?_
  refine z_findsLines_16 C hM E0 _ _ _ _ _ _ E

