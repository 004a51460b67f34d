/-! ===== the model: isFit, isThere, isStronger, initial (by gen.py) ===== -/
def m_isFit_99 (K0 : Int32 → Option (Int32)) (S : MM) (x3 x5 : Int32) : Nat → Int32 → Int32 → Option (Int32)
  | 0, _, _ => none
  | fu + 1, x4, x6 => if (S 3 0) ≤ x6 then (K0 x4) else (if x4 = (0 : Int32) then (if ix (x3 + (2 : Int32)) 48 then bd (m_leads S (S 12 (tn (x3 + (2 : Int32)))) x5 x6) fun p46 => (if (¬ (p46 = (0 : Int32)) → m_isPartOf_g S (x3 + (2 : Int32)) x6) then bnd (if p46 = (0 : Int32) then (0 : Int32) else if (m_isPartOf S (x3 + (2 : Int32)) x6) = (0 : Int32) then (0 : Int32) else (1 : Int32)) fun p52 => (m_isFit_99 K0 S x3 x5 fu p52 (x6 + 1)) else none) else none) else (K0 x4))
theorem z_isFit_99 {X : Ctx} {m : Nat} {h : Hp} (C : Cx X yX12_isFit cX12_isFit 7 (Option.some Jvm.ClassFile.FieldType.boolean) [] 2 0 0) (hM : MW m h) {K0 : Int32 → Option (Int32)} {S : MM} {x3 x5 : Int32} {v1 v2 : Value} {r : Int32} (E0 : Ex X 0 0 (.inl (some (.int r), (pm m h S)))) : ∀ (fu : Nat) (x4 x6 : Int32) , m_isFit_99 K0 S x3 x5 fu x4 x6 = some r → (∀ (y4 : Int32) (u6 : Value) , K0 y4 = some r → wr X 0 0 157 [.ref m, v1, v2, .int x3, .int y4, .int x5, u6] [] (pm m h S)) → wr X 0 0 99 [.ref m, v1, v2, .int x3, .int x4, .int x5, .int x6] [] (pm m h S) := by
  intro fu
  induction fu with
  | zero =>
    intro x4 x6 E hK0
    rw [m_isFit_99] at E
    cases E
  | succ fu ih =>
    intro x4 x6 E hK0
    rw [m_isFit_99] at E
    refine r_iload (i := 6) C dX12_isFit_99 rfl ?_
    refine r_aload_n (i := 0) C dX12_isFit_101 rfl rfl (by first | rfl | exact isR_rf _) ?_
    refine rm_get (k := 3) C f_X12_16 dX12_isFit_102 rfl rfl hM rfl ?_
    refine r_ic_ge (tgt := 157) C dX12_isFit_105 (by decide) (fun c_105 => ?_) (fun c_105 => ?_)
    · have E := ite_t E c_105
      exact hK0 _ _ E
    · have E := ite_f E c_105
      refine r_iload (i := 4) C dX12_isFit_108 rfl ?_
      refine r_if_ne (tgt := 157) C dX12_isFit_110 (by decide) (fun c_110 => ?_) (fun c_110 => ?_)
      · have E := ite_f E c_110
        exact hK0 _ _ E
      · have E := ite_t E c_110
        refine r_aload_n (i := 0) C dX12_isFit_113 rfl rfl (by first | rfl | exact isR_rf _) ?_
        refine r_aload_n (i := 0) C dX12_isFit_114 rfl rfl (by first | rfl | exact isR_rf _) ?_
        refine rm_ref (k := 12) C f_X12_42 dX12_isFit_115 rfl rfl hM rfl ?_
        refine r_iload_n (i := 3) C dX12_isFit_118 rfl rfl ?_
        refine r_iconst (v := 2) C dX12_isFit_119 (by decide) ?_
        refine r_iadd C dX12_isFit_120 ?_
        obtain ⟨g45, E⟩ := gd_elim E
        refine rm_iald (k := 12) C dX12_isFit_121 hM rfl rfl g45 ?_
        refine r_iload (i := 5) C dX12_isFit_122 rfl ?_
        refine r_iload (i := 6) C dX12_isFit_124 rfl ?_
        obtain ⟨p46, q, E⟩ := bd_elim E
        refine r_callVs C v_X12_194 (z_leads _ _ hM q) dX12_isFit_126 hM.1 (ci := 10) (by decide) rfl rfl (As := [_, _, _]) rfl rfl rfl (by first | exact Nat.le_refl _ | exact Nat.le_of_ble_eq_true rfl | omega) (Nat.le_of_ble_eq_true rfl) (by first | exact Nat.le_refl _ | exact Nat.le_of_ble_eq_true rfl | omega) (by first | exact Nat.le_refl _ | exact Nat.le_of_ble_eq_true rfl | omega) ?_
        obtain ⟨g50, E⟩ := gd_elim E
        have J51 : ∀ (u : Unit), wr X 0 0 149 [.ref m, v1, v2, .int x3, .int x4, .int x5, .int x6] [.int (if p46 = (0 : Int32) then (0 : Int32) else if (m_isPartOf S (x3 + (2 : Int32)) x6) = (0 : Int32) then (0 : Int32) else (1 : Int32))] (pm m h S) := by
          intro u
          refine bnd_elim (P := fun (z : Int32) => wr X 0 0 149 [.ref m, v1, v2, .int x3, .int x4, .int x5, .int x6] [.int z] (pm m h S)) E (fun p52 E => ?_)
          refine r_istore (i := 4) C dX12_isFit_149 (Nat.le_of_ble_eq_true rfl) ?_
          refine r_iinc1 (i := 6) C dX12_isFit_151 rfl ?_
          refine r_goto (tgt := 99) C dX12_isFit_154 (by decide) ?_
          exact ih _ _ E hK0
        refine r_if_eq (tgt := 148) C dX12_isFit_129 (by decide) (fun c_129_k47 => ?_) (fun c_129_k47 => ?_)
        · refine r_iconst (v := 0) C dX12_isFit_148 (by decide) ?_
          first | exact (J51  ()) | (simp only [if_pos c_129_k47] at J51; exact (J51  ()))
        · refine r_aload_n (i := 0) C dX12_isFit_132 rfl rfl (by first | rfl | exact isR_rf _) ?_
          refine r_iload_n (i := 3) C dX12_isFit_133 rfl rfl ?_
          refine r_iconst (v := 2) C dX12_isFit_134 (by decide) ?_
          refine r_iadd C dX12_isFit_135 ?_
          refine r_iload (i := 6) C dX12_isFit_136 rfl ?_
          refine r_callVs C v_X12_191 (z_isPartOf _ _ hM (g50 c_129_k47)) dX12_isFit_138 hM.1 (ci := 10) (by decide) rfl rfl (As := [_, _]) rfl rfl rfl (by first | exact Nat.le_refl _ | exact Nat.le_of_ble_eq_true rfl | omega) (Nat.le_of_ble_eq_true rfl) (by first | exact Nat.le_refl _ | exact Nat.le_of_ble_eq_true rfl | omega) (by first | exact Nat.le_refl _ | exact Nat.le_of_ble_eq_true rfl | omega) ?_
          refine r_if_eq (tgt := 148) C dX12_isFit_141 (by decide) (fun c_141_k49 => ?_) (fun c_141_k49 => ?_)
          · refine r_iconst (v := 0) C dX12_isFit_148 (by decide) ?_
            first | exact (J51  ()) | (simp only [if_neg c_129_k47, if_pos c_141_k49] at J51; exact (J51  ()))
          · refine r_iconst (v := 1) C dX12_isFit_144 (by decide) ?_
            refine r_goto (tgt := 149) C dX12_isFit_145 (by decide) ?_
            first | exact (J51  ()) | (simp only [if_neg c_129_k47, if_neg c_141_k49] at J51; exact (J51  ()))
def m_isFit_35 (S : MM) (x1 x2 x3 : Int32) : Nat → Int32 → Int32 → Option (Int32)
  | 0, _, _ => none
  | fu + 1, x4, x5 => if (S 3 0) ≤ x5 then (if (x4) = 0 ∨ (x4) = 1 then some x4 else none) else (if x4 = (0 : Int32) then (if ix (x3 + (1 : Int32)) 48 then bd (m_leads S (S 12 (tn (x3 + (1 : Int32)))) x2 x5) fun p21 => (if p21 = (0 : Int32) then (m_isFit_35 S x1 x2 x3 fu x4 (x5 + 1)) else (if m_isPartOf_g S (x3 + (1 : Int32)) x5 then if (m_isPartOf S (x3 + (1 : Int32)) x5) = (0 : Int32) then (m_isFit_35 S x1 x2 x3 fu x4 (x5 + 1)) else (if ix x1 16 then bnd (if (S 11 (tn x1)) = (2 : Int32) then (1 : Int32) else (0 : Int32)) fun p38 => (m_isFit_99 (fun p53 => m_isFit_35 S x1 x2 x3 fu p53 (x5 + 1)) S x3 x5 1000 p38 (0 : Int32)) else none) else none)) else none) else (if (x4) = 0 ∨ (x4) = 1 then some x4 else none))
theorem z_isFit_35 {X : Ctx} {m : Nat} {h : Hp} (C : Cx X yX12_isFit cX12_isFit 7 (Option.some Jvm.ClassFile.FieldType.boolean) [] 2 0 0) (hM : MW m h) {S : MM} {x1 x2 x3 : Int32} {r : Int32} (E0 : Ex X 0 0 (.inl (some (.int r), (pm m h S)))) : ∀ (fu : Nat) (x4 x5 : Int32) (u6 : Value) , m_isFit_35 S x1 x2 x3 fu x4 x5 = some r → wr X 0 0 35 [.ref m, .int x1, .int x2, .int x3, .int x4, .int x5, u6] [] (pm m h S) := by
  intro fu
  induction fu with
  | zero =>
    intro x4 x5 u6 E 
    rw [m_isFit_35] at E
    cases E
  | succ fu ih =>
    intro x4 x5 u6 E 
    rw [m_isFit_35] at E
    refine r_iload (i := 5) C dX12_isFit_35 rfl ?_
    refine r_aload_n (i := 0) C dX12_isFit_37 rfl rfl (by first | rfl | exact isR_rf _) ?_
    refine rm_get (k := 3) C f_X12_16 dX12_isFit_38 rfl rfl hM rfl ?_
    refine r_ic_ge (tgt := 163) C dX12_isFit_41 (by decide) (fun c_41 => ?_) (fun c_41 => ?_)
    · have E := ite_t E c_41
      refine r_iload (i := 4) C dX12_isFit_163 rfl ?_
      obtain ⟨gb, E⟩ := gd_elim E
      obtain rfl := Option.some.inj E
      exact r_iret C E0 dX12_isFit_165 rfl (bo_nar (by first | exact Or.inl rfl | exact Or.inr rfl | assumption | exact b_canBe | exact b_in | exact b_isRule | exact b_isPart | exact b_isPartOf | (repeat' split) <;> first | exact Or.inl rfl | exact Or.inr rfl | assumption | exact b_canBe | exact b_in | exact b_isRule | exact b_isPart | exact b_isPartOf)).1 (Nat.le_refl _) (Nat.le_refl _)
    · have E := ite_f E c_41
      refine r_iload (i := 4) C dX12_isFit_44 rfl ?_
      refine r_if_ne (tgt := 163) C dX12_isFit_46 (by decide) (fun c_46 => ?_) (fun c_46 => ?_)
      · have E := ite_f E c_46
        refine r_iload (i := 4) C dX12_isFit_163 rfl ?_
        obtain ⟨gb, E⟩ := gd_elim E
        obtain rfl := Option.some.inj E
        exact r_iret C E0 dX12_isFit_165 rfl (bo_nar (by first | exact Or.inl rfl | exact Or.inr rfl | assumption | exact b_canBe | exact b_in | exact b_isRule | exact b_isPart | exact b_isPartOf | (repeat' split) <;> first | exact Or.inl rfl | exact Or.inr rfl | assumption | exact b_canBe | exact b_in | exact b_isRule | exact b_isPart | exact b_isPartOf)).1 (Nat.le_refl _) (Nat.le_refl _)
      · have E := ite_t E c_46
        refine r_aload_n (i := 0) C dX12_isFit_49 rfl rfl (by first | rfl | exact isR_rf _) ?_
        refine r_aload_n (i := 0) C dX12_isFit_50 rfl rfl (by first | rfl | exact isR_rf _) ?_
        refine rm_ref (k := 12) C f_X12_42 dX12_isFit_51 rfl rfl hM rfl ?_
        refine r_iload_n (i := 3) C dX12_isFit_54 rfl rfl ?_
        refine r_iconst (v := 1) C dX12_isFit_55 (by decide) ?_
        refine r_iadd C dX12_isFit_56 ?_
        obtain ⟨g20, E⟩ := gd_elim E
        refine rm_iald (k := 12) C dX12_isFit_57 hM rfl rfl g20 ?_
        refine r_iload_n (i := 2) C dX12_isFit_58 rfl rfl ?_
        refine r_iload (i := 5) C dX12_isFit_59 rfl ?_
        obtain ⟨p21, q, E⟩ := bd_elim E
        refine r_callVs C v_X12_194 (z_leads _ _ hM q) dX12_isFit_61 hM.1 (ci := 10) (by decide) rfl rfl (As := [_, _, _]) rfl rfl rfl (by first | exact Nat.le_refl _ | exact Nat.le_of_ble_eq_true rfl | omega) (Nat.le_of_ble_eq_true rfl) (by first | exact Nat.le_refl _ | exact Nat.le_of_ble_eq_true rfl | omega) (by first | exact Nat.le_refl _ | exact Nat.le_of_ble_eq_true rfl | omega) ?_
        refine r_if_eq (tgt := 157) C dX12_isFit_64 (by decide) (fun c_64 => ?_) (fun c_64 => ?_)
        · have E := ite_t E c_64
          refine r_iinc1 (i := 5) C dX12_isFit_157 rfl ?_
          refine r_goto (tgt := 35) C dX12_isFit_160 (by decide) ?_
          exact ih _ _ _ E
        · have E := ite_f E c_64
          refine r_aload_n (i := 0) C dX12_isFit_67 rfl rfl (by first | rfl | exact isR_rf _) ?_
          refine r_iload_n (i := 3) C dX12_isFit_68 rfl rfl ?_
          refine r_iconst (v := 1) C dX12_isFit_69 (by decide) ?_
          refine r_iadd C dX12_isFit_70 ?_
          refine r_iload (i := 5) C dX12_isFit_71 rfl ?_
          obtain ⟨g29, E⟩ := gd_elim E
          refine r_callVs C v_X12_191 (z_isPartOf _ _ hM g29) dX12_isFit_73 hM.1 (ci := 10) (by decide) rfl rfl (As := [_, _]) rfl rfl rfl (by first | exact Nat.le_refl _ | exact Nat.le_of_ble_eq_true rfl | omega) (Nat.le_of_ble_eq_true rfl) (by first | exact Nat.le_refl _ | exact Nat.le_of_ble_eq_true rfl | omega) (by first | exact Nat.le_refl _ | exact Nat.le_of_ble_eq_true rfl | omega) ?_
          refine r_if_eq (tgt := 157) C dX12_isFit_76 (by decide) (fun c_76 => ?_) (fun c_76 => ?_)
          · have E := ite_t E c_76
            refine r_iinc1 (i := 5) C dX12_isFit_157 rfl ?_
            refine r_goto (tgt := 35) C dX12_isFit_160 (by decide) ?_
            exact ih _ _ _ E
          · have E := ite_f E c_76
            refine r_aload_n (i := 0) C dX12_isFit_79 rfl rfl (by first | rfl | exact isR_rf _) ?_
            refine rm_ref (k := 11) C f_X12_39 dX12_isFit_80 rfl rfl hM rfl ?_
            refine r_iload_n (i := 1) C dX12_isFit_83 rfl rfl ?_
            obtain ⟨g35, E⟩ := gd_elim E
            refine rm_iald (k := 11) C dX12_isFit_84 hM rfl rfl g35 ?_
            refine r_iconst (v := 2) C dX12_isFit_85 (by decide) ?_
            have J37 : ∀ (u : Unit), wr X 0 0 94 [.ref m, .int x1, .int x2, .int x3, .int x4, .int x5, u6] [.int (if (S 11 (tn x1)) = (2 : Int32) then (1 : Int32) else (0 : Int32))] (pm m h S) := by
              intro u
              refine bnd_elim (P := fun (z : Int32) => wr X 0 0 94 [.ref m, .int x1, .int x2, .int x3, .int x4, .int x5, u6] [.int z] (pm m h S)) E (fun p38 E => ?_)
              refine r_istore (i := 4) C dX12_isFit_94 (Nat.le_of_ble_eq_true rfl) ?_
              refine r_iconst (v := 0) C dX12_isFit_96 (by decide) ?_
              refine r_istore (i := 6) C dX12_isFit_97 (Nat.le_of_ble_eq_true rfl) ?_
              refine z_isFit_99 C hM E0 _ _ _ E (fun p53 w54 E => ?_)
              refine r_iinc1 (i := 5) C dX12_isFit_157 rfl ?_
              refine r_goto (tgt := 35) C dX12_isFit_160 (by decide) ?_
              exact ih _ _ _ E
            refine r_ic_ne (tgt := 93) C dX12_isFit_86 (by decide) (fun c_86_k36 => ?_) (fun c_86_k36 => ?_)
            · refine r_iconst (v := 0) C dX12_isFit_93 (by decide) ?_
              first | exact (J37  ()) | (simp only [if_neg c_86_k36] at J37; exact (J37  ()))
            · refine r_iconst (v := 1) C dX12_isFit_89 (by decide) ?_
              refine r_goto (tgt := 94) C dX12_isFit_90 (by decide) ?_
              first | exact (J37  ()) | (simp only [if_pos c_86_k36] at J37; exact (J37  ()))
def m_isFit (S : MM) (a0 : Int32) (a1 : Int32) : Option (Int32) := bnd ((3 : Int32) * a0) fun p6 => (if m_isPartOf_g S p6 a1 then if (m_isPartOf S p6 a1) = (0 : Int32) then (some (0 : Int32)) else (if ix a0 16 then bnd (if (S 11 (tn a0)) = (1 : Int32) then (1 : Int32) else (0 : Int32)) fun p13 => (m_isFit_35 S a0 a1 p6 1000 p13 (0 : Int32)) else none) else none)
theorem z_isFit (l : Launch) (G : Gl) {m : Nat} {h : Hp} (hM : MW m h) {S : MM} {a0 a1 : Int32} {r : Int32} (E : m_isFit S a0 a1 = some r) : MRw l G yX12_isFit (.code yX12_isFit cX12_isFit 7 (Option.some Jvm.ClassFile.FieldType.boolean)) 2 0 0 [.ref m, .int a0, .int a1] (pm m h S) (.inl (some (.int r), (pm m h S))) := by
  refine mr_of (by decide +kernel) (Nat.le_of_ble_eq_true rfl) (ct3 rfl rfl rfl) (fun X hG hl C E0 => ?_)
  subst hG hl
  rw [m_isFit] at E
  refine r_iconst (v := 3) C dX12_isFit_0 (by decide) ?_
  refine r_iload_n (i := 1) C dX12_isFit_1 rfl rfl ?_
  refine r_imul C dX12_isFit_2 ?_
  refine bnd_elim (P := fun (z : Int32) => wr X 0 0 3 [.ref m, .int a0, .int a1, (.long 0), (.long 0), (.long 0), (.long 0)] [.int z] (pm m h S)) E (fun p6 E => ?_)
  refine r_istore_n (i := 3) C dX12_isFit_3 rfl (Nat.le_of_ble_eq_true rfl) ?_
  refine r_aload_n (i := 0) C dX12_isFit_4 rfl rfl (by first | rfl | exact isR_rf _) ?_
  refine r_iload_n (i := 3) C dX12_isFit_5 rfl rfl ?_
  refine r_iload_n (i := 2) C dX12_isFit_6 rfl rfl ?_
  obtain ⟨g8, E⟩ := gd_elim E
  refine r_callVs C v_X12_191 (z_isPartOf _ _ hM g8) dX12_isFit_7 hM.1 (ci := 10) (by decide) rfl rfl (As := [_, _]) rfl rfl rfl (by first | exact Nat.le_refl _ | exact Nat.le_of_ble_eq_true rfl | omega) (Nat.le_of_ble_eq_true rfl) (by first | exact Nat.le_refl _ | exact Nat.le_of_ble_eq_true rfl | omega) (by first | exact Nat.le_refl _ | exact Nat.le_of_ble_eq_true rfl | omega) ?_
  refine r_if_ne (tgt := 15) C dX12_isFit_10 (by decide) (fun c_10 => ?_) (fun c_10 => ?_)
  · have E := ite_f E c_10
    refine r_aload_n (i := 0) C dX12_isFit_15 rfl rfl (by first | rfl | exact isR_rf _) ?_
    refine rm_ref (k := 11) C f_X12_39 dX12_isFit_16 rfl rfl hM rfl ?_
    refine r_iload_n (i := 1) C dX12_isFit_19 rfl rfl ?_
    obtain ⟨g10, E⟩ := gd_elim E
    refine rm_iald (k := 11) C dX12_isFit_20 hM rfl rfl g10 ?_
    refine r_iconst (v := 1) C dX12_isFit_21 (by decide) ?_
    have J12 : ∀ (u : Unit), wr X 0 0 30 [.ref m, .int a0, .int a1, .int p6, (.long 0), (.long 0), (.long 0)] [.int (if (S 11 (tn a0)) = (1 : Int32) then (1 : Int32) else (0 : Int32))] (pm m h S) := by
      intro u
      refine bnd_elim (P := fun (z : Int32) => wr X 0 0 30 [.ref m, .int a0, .int a1, .int p6, (.long 0), (.long 0), (.long 0)] [.int z] (pm m h S)) E (fun p13 E => ?_)
      refine r_istore (i := 4) C dX12_isFit_30 (Nat.le_of_ble_eq_true rfl) ?_
      refine r_iconst (v := 0) C dX12_isFit_32 (by decide) ?_
      refine r_istore (i := 5) C dX12_isFit_33 (Nat.le_of_ble_eq_true rfl) ?_
      refine z_isFit_35 C hM E0 _ _ _ _ E
    refine r_ic_ne (tgt := 29) C dX12_isFit_22 (by decide) (fun c_22_k11 => ?_) (fun c_22_k11 => ?_)
    · refine r_iconst (v := 0) C dX12_isFit_29 (by decide) ?_
      first | exact (J12  ()) | (simp only [if_neg c_22_k11] at J12; exact (J12  ()))
    · refine r_iconst (v := 1) C dX12_isFit_25 (by decide) ?_
      refine r_goto (tgt := 30) C dX12_isFit_26 (by decide) ?_
      first | exact (J12  ()) | (simp only [if_pos c_22_k11] at J12; exact (J12  ()))
  · have E := ite_t E c_10
    refine r_iconst (v := 0) C dX12_isFit_13 (by decide) ?_
    obtain rfl := Option.some.inj E
    exact r_iret C E0 dX12_isFit_14 rfl (bo_nar (by first | exact Or.inl rfl | exact Or.inr rfl | assumption | exact b_canBe | exact b_in | exact b_isRule | exact b_isPart | exact b_isPartOf | (repeat' split) <;> first | exact Or.inl rfl | exact Or.inr rfl | assumption | exact b_canBe | exact b_in | exact b_isRule | exact b_isPart | exact b_isPartOf)).1 (Nat.le_refl _) (Nat.le_refl _)

def m_isThere_30 (K0 : Int32 → Option (Int32)) (S : MM) : Nat → Int32 → Option (Int32)
  | 0, _ => none
  | fu + 1, x3 => if x3 = ((-1) : Int32) then (K0 x3) else (if ix x3 24 then if (S 9 (tn x3)) = (0 : Int32) then (bnd (S 5 (tn x3)) fun p13 => (m_isThere_30 K0 S fu p13)) else (K0 x3) else none)
theorem z_isThere_30 {X : Ctx} {m : Nat} {h : Hp} (C : Cx X yX12_isThere cX12_isThere 4 (Option.some Jvm.ClassFile.FieldType.boolean) [] 3 0 0) (hM : MW m h) {K0 : Int32 → Option (Int32)} {S : MM} {v1 : Value} {r : Int32} (E0 : Ex X 0 0 (.inl (some (.int r), (pm m h S)))) : ∀ (fu : Nat) (x3 : Int32) (u2 : Value) , m_isThere_30 K0 S fu x3 = some r → (∀ (y3 : Int32) (u2 : Value) , K0 y3 = some r → wr X 0 0 54 [.ref m, v1, u2, .int y3] [] (pm m h S)) → wr X 0 0 30 [.ref m, v1, u2, .int x3] [] (pm m h S) := by
  intro fu
  induction fu with
  | zero =>
    intro x3 u2 E hK0
    rw [m_isThere_30] at E
    cases E
  | succ fu ih =>
    intro x3 u2 E hK0
    rw [m_isThere_30] at E
    refine r_iload_n (i := 3) C dX12_isThere_30 rfl rfl ?_
    refine r_iconst (v := (-1)) C dX12_isThere_31 (by decide) ?_
    refine r_ic_eq (tgt := 54) C dX12_isThere_32 (by decide) (fun c_32 => ?_) (fun c_32 => ?_)
    · have E := ite_t E c_32
      exact hK0 _ _ E
    · have E := ite_f E c_32
      refine r_aload_n (i := 0) C dX12_isThere_35 rfl rfl (by first | rfl | exact isR_rf _) ?_
      refine rm_ref (k := 9) C f_X12_35 dX12_isThere_36 rfl rfl hM rfl ?_
      refine r_iload_n (i := 3) C dX12_isThere_39 rfl rfl ?_
      obtain ⟨g11, E⟩ := gd_elim E
      refine rm_zald (k := 9) C dX12_isThere_40 hM rfl rfl g11 ?_
      refine r_if_ne (tgt := 54) C dX12_isThere_41 (by decide) (fun c_41 => ?_) (fun c_41 => ?_)
      · have E := ite_f E c_41
        exact hK0 _ _ E
      · have E := ite_t E c_41
        refine r_aload_n (i := 0) C dX12_isThere_44 rfl rfl (by first | rfl | exact isR_rf _) ?_
        refine rm_ref (k := 5) C f_X12_23 dX12_isThere_45 rfl rfl hM rfl ?_
        refine r_iload_n (i := 3) C dX12_isThere_48 rfl rfl ?_
        refine rm_iald (k := 5) C dX12_isThere_49 hM rfl rfl g11 ?_
        refine bnd_elim (P := fun (z : Int32) => wr X 0 0 50 [.ref m, v1, u2, .int x3] [.int z] (pm m h S)) E (fun p13 E => ?_)
        refine r_istore_n (i := 3) C dX12_isThere_50 rfl (Nat.le_of_ble_eq_true rfl) ?_
        refine r_goto (tgt := 30) C dX12_isThere_51 (by decide) ?_
        exact ih _ _ E hK0
def m_isThere (S : MM) (a0 : Int32) (a1 : Int32) : Option (Int32) := bd (m_isFit S a0 a1) fun p1 => (if p1 = (0 : Int32) then (some (0 : Int32)) else (if ix a0 16 then if (S 19 (tn a0)) = ((-1) : Int32) then (some (1 : Int32)) else (if ix a1 24 then bnd (S 5 (tn a1)) fun p6 => (m_isThere_30 (fun p14 => if (¬ (p14 = ((-1) : Int32)) → (ix p14 24 ∧ (¬ ((S 28 (tn p14)) = (0 : Int32)) → ix (((4 : Int32) * p14) + (2 : Int32)) 96) ∧ ix a0 16)) then some (if p14 = ((-1) : Int32) then (0 : Int32) else if (if (S 28 (tn p14)) = (0 : Int32) then (0 : Int32) else S 25 (tn (((4 : Int32) * p14) + (2 : Int32)))) < (S 19 (tn a0)) then (0 : Int32) else (1 : Int32)) else none) S 1000 p6) else none) else none))
theorem z_isThere (l : Launch) (G : Gl) {m : Nat} {h : Hp} (hM : MW m h) {S : MM} {a0 a1 : Int32} {r : Int32} (E : m_isThere S a0 a1 = some r) : MRw l G yX12_isThere (.code yX12_isThere cX12_isThere 4 (Option.some Jvm.ClassFile.FieldType.boolean)) 3 0 0 [.ref m, .int a0, .int a1] (pm m h S) (.inl (some (.int r), (pm m h S))) := by
  refine mr_of (by decide +kernel) (Nat.le_of_ble_eq_true rfl) (ct3 rfl rfl rfl) (fun X hG hl C E0 => ?_)
  subst hG hl
  rw [m_isThere] at E
  refine r_aload_n (i := 0) C dX12_isThere_0 rfl rfl (by first | rfl | exact isR_rf _) ?_
  refine r_iload_n (i := 1) C dX12_isThere_1 rfl rfl ?_
  refine r_iload_n (i := 2) C dX12_isThere_2 rfl rfl ?_
  obtain ⟨p1, q, E⟩ := bd_elim E
  refine r_callVs C v_X12_197 (z_isFit _ _ hM q) dX12_isThere_3 hM.1 (ci := 10) (by decide) rfl rfl (As := [_, _]) rfl rfl rfl (by first | exact Nat.le_refl _ | exact Nat.le_of_ble_eq_true rfl | omega) (Nat.le_of_ble_eq_true rfl) (by first | exact Nat.le_refl _ | exact Nat.le_of_ble_eq_true rfl | omega) (by first | exact Nat.le_refl _ | exact Nat.le_of_ble_eq_true rfl | omega) ?_
  refine r_if_ne (tgt := 11) C dX12_isThere_6 (by decide) (fun c_6 => ?_) (fun c_6 => ?_)
  · have E := ite_f E c_6
    refine r_aload_n (i := 0) C dX12_isThere_11 rfl rfl (by first | rfl | exact isR_rf _) ?_
    refine rm_ref (k := 19) C f_X12_63 dX12_isThere_12 rfl rfl hM rfl ?_
    refine r_iload_n (i := 1) C dX12_isThere_15 rfl rfl ?_
    obtain ⟨g3, E⟩ := gd_elim E
    refine rm_iald (k := 19) C dX12_isThere_16 hM rfl rfl g3 ?_
    refine r_iconst (v := (-1)) C dX12_isThere_17 (by decide) ?_
    refine r_ic_ne (tgt := 23) C dX12_isThere_18 (by decide) (fun c_18 => ?_) (fun c_18 => ?_)
    · have E := ite_f E c_18
      refine r_aload_n (i := 0) C dX12_isThere_23 rfl rfl (by first | rfl | exact isR_rf _) ?_
      refine rm_ref (k := 5) C f_X12_23 dX12_isThere_24 rfl rfl hM rfl ?_
      refine r_iload_n (i := 2) C dX12_isThere_27 rfl rfl ?_
      obtain ⟨g5, E⟩ := gd_elim E
      refine rm_iald (k := 5) C dX12_isThere_28 hM rfl rfl g5 ?_
      refine bnd_elim (P := fun (z : Int32) => wr X 0 0 29 [.ref m, .int a0, .int a1, (.long 0)] [.int z] (pm m h S)) E (fun p6 E => ?_)
      refine r_istore_n (i := 3) C dX12_isThere_29 rfl (Nat.le_of_ble_eq_true rfl) ?_
      refine z_isThere_30 C hM E0 _ _ _ E (fun p14 w15 E => ?_)
      refine r_iload_n (i := 3) C dX12_isThere_54 rfl rfl ?_
      refine r_iconst (v := (-1)) C dX12_isThere_55 (by decide) ?_
      obtain ⟨g23, E⟩ := gd_elim E
      have J24 : ∀ (u : Unit), wr X 0 0 96 [.ref m, .int a0, w15, .int p14] [.int (if p14 = ((-1) : Int32) then (0 : Int32) else if (if (S 28 (tn p14)) = (0 : Int32) then (0 : Int32) else S 25 (tn (((4 : Int32) * p14) + (2 : Int32)))) < (S 19 (tn a0)) then (0 : Int32) else (1 : Int32))] (pm m h S) := by
        intro u
        obtain rfl := Option.some.inj E
        exact r_iret C E0 dX12_isThere_96 rfl (bo_nar (by first | exact Or.inl rfl | exact Or.inr rfl | assumption | exact b_canBe | exact b_in | exact b_isRule | exact b_isPart | exact b_isPartOf | (repeat' split) <;> first | exact Or.inl rfl | exact Or.inr rfl | assumption | exact b_canBe | exact b_in | exact b_isRule | exact b_isPart | exact b_isPartOf)).1 (Nat.le_refl _) (Nat.le_refl _)
      refine r_ic_eq (tgt := 95) C dX12_isThere_56 (by decide) (fun c_56_k16 => ?_) (fun c_56_k16 => ?_)
      · refine r_iconst (v := 0) C dX12_isThere_95 (by decide) ?_
        first | exact (J24  ()) | (simp only [if_pos c_56_k16] at J24; exact (J24  ()))
      · refine r_aload_n (i := 0) C dX12_isThere_59 rfl rfl (by first | rfl | exact isR_rf _) ?_
        refine rm_ref (k := 28) C f_X12_90 dX12_isThere_60 rfl rfl hM rfl ?_
        refine r_iload_n (i := 3) C dX12_isThere_63 rfl rfl ?_
        refine rm_zald (k := 28) C dX12_isThere_64 hM rfl rfl (g23 c_56_k16).1 ?_
        have J20 : ∀ (u : Unit), wr X 0 0 82 [.ref m, .int a0, w15, .int p14] [.int (if (S 28 (tn p14)) = (0 : Int32) then (0 : Int32) else S 25 (tn (((4 : Int32) * p14) + (2 : Int32))))] (pm m h S) := by
          intro u
          refine r_aload_n (i := 0) C dX12_isThere_82 rfl rfl (by first | rfl | exact isR_rf _) ?_
          refine rm_ref (k := 19) C f_X12_63 dX12_isThere_83 rfl rfl hM rfl ?_
          refine r_iload_n (i := 1) C dX12_isThere_86 rfl rfl ?_
          refine rm_iald (k := 19) C dX12_isThere_87 hM rfl rfl (g23 c_56_k16).2.2 ?_
          refine r_ic_lt (tgt := 95) C dX12_isThere_88 (by decide) (fun c_88_k22 => ?_) (fun c_88_k22 => ?_)
          · refine r_iconst (v := 0) C dX12_isThere_95 (by decide) ?_
            first | exact (J24  ()) | (simp only [if_neg c_56_k16, if_pos c_88_k22] at J24; exact (J24  ()))
          · refine r_iconst (v := 1) C dX12_isThere_91 (by decide) ?_
            refine r_goto (tgt := 96) C dX12_isThere_92 (by decide) ?_
            first | exact (J24  ()) | (simp only [if_neg c_56_k16, if_neg c_88_k22] at J24; exact (J24  ()))
        refine r_if_eq (tgt := 81) C dX12_isThere_65 (by decide) (fun c_65_k18 => ?_) (fun c_65_k18 => ?_)
        · refine r_iconst (v := 0) C dX12_isThere_81 (by decide) ?_
          first | exact (J20  ()) | (simp only [if_pos c_65_k18] at J20; exact (J20  ()))
        · refine r_aload_n (i := 0) C dX12_isThere_68 rfl rfl (by first | rfl | exact isR_rf _) ?_
          refine rm_ref (k := 25) C f_X12_81 dX12_isThere_69 rfl rfl hM rfl ?_
          refine r_iconst (v := 4) C dX12_isThere_72 (by decide) ?_
          refine r_iload_n (i := 3) C dX12_isThere_73 rfl rfl ?_
          refine r_imul C dX12_isThere_74 ?_
          refine r_iconst (v := 2) C dX12_isThere_75 (by decide) ?_
          refine r_iadd C dX12_isThere_76 ?_
          refine rm_iald (k := 25) C dX12_isThere_77 hM rfl rfl ((g23 c_56_k16).2.1 c_65_k18) ?_
          refine r_goto (tgt := 82) C dX12_isThere_78 (by decide) ?_
          first | exact (J20  ()) | (simp only [if_neg c_65_k18] at J20; exact (J20  ()))
    · have E := ite_t E c_18
      refine r_iconst (v := 1) C dX12_isThere_21 (by decide) ?_
      obtain rfl := Option.some.inj E
      exact r_iret C E0 dX12_isThere_22 rfl (bo_nar (by first | exact Or.inl rfl | exact Or.inr rfl | assumption | exact b_canBe | exact b_in | exact b_isRule | exact b_isPart | exact b_isPartOf | (repeat' split) <;> first | exact Or.inl rfl | exact Or.inr rfl | assumption | exact b_canBe | exact b_in | exact b_isRule | exact b_isPart | exact b_isPartOf)).1 (Nat.le_refl _) (Nat.le_refl _)
  · have E := ite_t E c_6
    refine r_iconst (v := 0) C dX12_isThere_9 (by decide) ?_
    obtain rfl := Option.some.inj E
    exact r_iret C E0 dX12_isThere_10 rfl (bo_nar (by first | exact Or.inl rfl | exact Or.inr rfl | assumption | exact b_canBe | exact b_in | exact b_isRule | exact b_isPart | exact b_isPartOf | (repeat' split) <;> first | exact Or.inl rfl | exact Or.inr rfl | assumption | exact b_canBe | exact b_in | exact b_isRule | exact b_isPart | exact b_isPartOf)).1 (Nat.le_refl _) (Nat.le_refl _)

def m_isStronger (S : MM) (a0 : Int32) (a1 : Int32) : Option (Int32) := if ix a0 16 then if ix a1 16 then if (S 18 (tn a0)) = (S 18 (tn a1)) then (if (S 16 (tn a0)) = (S 16 (tn a1)) then (if (S 17 (tn a0)) = (S 17 (tn a1)) then (bd (m_weightOf S a0) fun p10 => (bd (m_weightOf S a1) fun p11 => (bnd (p10 - p11) fun p12 => (some (if (0 : Int32) < p12 then (1 : Int32) else if p12 = (0 : Int32) then if a0 ≤ a1 then (0 : Int32) else (1 : Int32) else (0 : Int32)))))) else (bnd (if (S 17 (tn a0)) ≤ (S 17 (tn a1)) then (0 : Int32) else (1 : Int32)) fun p19 => some (if p19 = (S 18 (tn a0)) then (0 : Int32) else (1 : Int32)))) else (bnd (if (S 18 (tn a0)) = (0 : Int32) then (1 : Int32) else (0 : Int32)) fun p24 => some (if (S 16 (tn a0)) = p24 then (1 : Int32) else (0 : Int32)))) else (if (S 18 (tn a0)) = 0 ∨ (S 18 (tn a0)) = 1 then some (S 18 (tn a0)) else none) else none else none
theorem z_isStronger (l : Launch) (G : Gl) {m : Nat} {h : Hp} (hM : MW m h) {S : MM} {a0 a1 : Int32} {r : Int32} (E : m_isStronger S a0 a1 = some r) : MRw l G yX12_isStronger (.code yX12_isStronger cX12_isStronger 4 (Option.some Jvm.ClassFile.FieldType.boolean)) 2 0 0 [.ref m, .int a0, .int a1] (pm m h S) (.inl (some (.int r), (pm m h S))) := by
  refine mr_of (by decide +kernel) (Nat.le_of_ble_eq_true rfl) (ct3 rfl rfl rfl) (fun X hG hl C E0 => ?_)
  subst hG hl
  rw [m_isStronger] at E
  refine r_aload_n (i := 0) C dX12_isStronger_0 rfl rfl (by first | rfl | exact isR_rf _) ?_
  refine rm_ref (k := 18) C f_X12_60 dX12_isStronger_1 rfl rfl hM rfl ?_
  refine r_iload_n (i := 1) C dX12_isStronger_4 rfl rfl ?_
  obtain ⟨g7, E⟩ := gd_elim E
  refine rm_zald (k := 18) C dX12_isStronger_5 hM rfl rfl g7 ?_
  refine r_aload_n (i := 0) C dX12_isStronger_6 rfl rfl (by first | rfl | exact isR_rf _) ?_
  refine rm_ref (k := 18) C f_X12_60 dX12_isStronger_7 rfl rfl hM rfl ?_
  refine r_iload_n (i := 2) C dX12_isStronger_10 rfl rfl ?_
  obtain ⟨g9, E⟩ := gd_elim E
  refine rm_zald (k := 18) C dX12_isStronger_11 hM rfl rfl g9 ?_
  refine r_ic_eq (tgt := 22) C dX12_isStronger_12 (by decide) (fun c_12 => ?_) (fun c_12 => ?_)
  · have E := ite_t E c_12
    refine r_aload_n (i := 0) C dX12_isStronger_22 rfl rfl (by first | rfl | exact isR_rf _) ?_
    refine rm_ref (k := 16) C f_X12_54 dX12_isStronger_23 rfl rfl hM rfl ?_
    refine r_iload_n (i := 1) C dX12_isStronger_26 rfl rfl ?_
    refine rm_iald (k := 16) C dX12_isStronger_27 hM rfl rfl g7 ?_
    refine r_aload_n (i := 0) C dX12_isStronger_28 rfl rfl (by first | rfl | exact isR_rf _) ?_
    refine rm_ref (k := 16) C f_X12_54 dX12_isStronger_29 rfl rfl hM rfl ?_
    refine r_iload_n (i := 2) C dX12_isStronger_32 rfl rfl ?_
    refine rm_iald (k := 16) C dX12_isStronger_33 hM rfl rfl g9 ?_
    refine r_ic_eq (tgt := 66) C dX12_isStronger_34 (by decide) (fun c_34 => ?_) (fun c_34 => ?_)
    · have E := ite_t E c_34
      refine r_aload_n (i := 0) C dX12_isStronger_66 rfl rfl (by first | rfl | exact isR_rf _) ?_
      refine rm_ref (k := 17) C f_X12_57 dX12_isStronger_67 rfl rfl hM rfl ?_
      refine r_iload_n (i := 1) C dX12_isStronger_70 rfl rfl ?_
      refine rm_iald (k := 17) C dX12_isStronger_71 hM rfl rfl g7 ?_
      refine r_aload_n (i := 0) C dX12_isStronger_72 rfl rfl (by first | rfl | exact isR_rf _) ?_
      refine rm_ref (k := 17) C f_X12_57 dX12_isStronger_73 rfl rfl hM rfl ?_
      refine r_iload_n (i := 2) C dX12_isStronger_76 rfl rfl ?_
      refine rm_iald (k := 17) C dX12_isStronger_77 hM rfl rfl g9 ?_
      refine r_ic_eq (tgt := 116) C dX12_isStronger_78 (by decide) (fun c_78 => ?_) (fun c_78 => ?_)
      · have E := ite_t E c_78
        refine r_aload_n (i := 0) C dX12_isStronger_116 rfl rfl (by first | rfl | exact isR_rf _) ?_
        refine r_iload_n (i := 1) C dX12_isStronger_117 rfl rfl ?_
        obtain ⟨p10, q, E⟩ := bd_elim E
        refine r_callVs C v_X12_178 (z_weightOf _ _ hM q) dX12_isStronger_118 hM.1 (ci := 10) (by decide) rfl rfl (As := [_]) rfl rfl rfl (by first | exact Nat.le_refl _ | exact Nat.le_of_ble_eq_true rfl | omega) (Nat.le_of_ble_eq_true rfl) (by first | exact Nat.le_refl _ | exact Nat.le_of_ble_eq_true rfl | omega) (by first | exact Nat.le_refl _ | exact Nat.le_of_ble_eq_true rfl | omega) ?_
        refine r_aload_n (i := 0) C dX12_isStronger_121 rfl rfl (by first | rfl | exact isR_rf _) ?_
        refine r_iload_n (i := 2) C dX12_isStronger_122 rfl rfl ?_
        obtain ⟨p11, q, E⟩ := bd_elim E
        refine r_callVs C v_X12_178 (z_weightOf _ _ hM q) dX12_isStronger_123 hM.1 (ci := 10) (by decide) rfl rfl (As := [_]) rfl rfl rfl (by first | exact Nat.le_refl _ | exact Nat.le_of_ble_eq_true rfl | omega) (Nat.le_of_ble_eq_true rfl) (by first | exact Nat.le_refl _ | exact Nat.le_of_ble_eq_true rfl | omega) (by first | exact Nat.le_refl _ | exact Nat.le_of_ble_eq_true rfl | omega) ?_
        refine r_isub C dX12_isStronger_126 ?_
        refine bnd_elim (P := fun (z : Int32) => wr X 0 0 127 [.ref m, .int a0, .int a1, (.long 0)] [.int z] (pm m h S)) E (fun p12 E => ?_)
        refine r_istore_n (i := 3) C dX12_isStronger_127 rfl (Nat.le_of_ble_eq_true rfl) ?_
        refine r_iload_n (i := 3) C dX12_isStronger_128 rfl rfl ?_
        have J16 : ∀ (u : Unit), wr X 0 0 146 [.ref m, .int a0, .int a1, .int p12] [.int (if (0 : Int32) < p12 then (1 : Int32) else if p12 = (0 : Int32) then if a0 ≤ a1 then (0 : Int32) else (1 : Int32) else (0 : Int32))] (pm m h S) := by
          intro u
          obtain rfl := Option.some.inj E
          exact r_iret C E0 dX12_isStronger_146 rfl (bo_nar (by first | exact Or.inl rfl | exact Or.inr rfl | assumption | exact b_canBe | exact b_in | exact b_isRule | exact b_isPart | exact b_isPartOf | (repeat' split) <;> first | exact Or.inl rfl | exact Or.inr rfl | assumption | exact b_canBe | exact b_in | exact b_isRule | exact b_isPart | exact b_isPartOf)).1 (Nat.le_refl _) (Nat.le_refl _)
        refine r_if_gt (tgt := 141) C dX12_isStronger_129 (by decide) (fun c_129_k13 => ?_) (fun c_129_k13 => ?_)
        · refine r_iconst (v := 1) C dX12_isStronger_141 (by decide) ?_
          refine r_goto (tgt := 146) C dX12_isStronger_142 (by decide) ?_
          first | exact (J16  ()) | (simp only [if_pos c_129_k13] at J16; exact (J16  ()))
        · refine r_iload_n (i := 3) C dX12_isStronger_132 rfl rfl ?_
          refine r_if_ne (tgt := 145) C dX12_isStronger_133 (by decide) (fun c_133_k14 => ?_) (fun c_133_k14 => ?_)
          · refine r_iconst (v := 0) C dX12_isStronger_145 (by decide) ?_
            first | exact (J16  ()) | (simp only [if_neg c_129_k13, if_neg c_133_k14] at J16; exact (J16  ()))
          · refine r_iload_n (i := 1) C dX12_isStronger_136 rfl rfl ?_
            refine r_iload_n (i := 2) C dX12_isStronger_137 rfl rfl ?_
            refine r_ic_le (tgt := 145) C dX12_isStronger_138 (by decide) (fun c_138_k15 => ?_) (fun c_138_k15 => ?_)
            · refine r_iconst (v := 0) C dX12_isStronger_145 (by decide) ?_
              first | exact (J16  ()) | (simp only [if_neg c_129_k13, if_pos c_133_k14, if_pos c_138_k15] at J16; exact (J16  ()))
            · refine r_iconst (v := 1) C dX12_isStronger_141 (by decide) ?_
              refine r_goto (tgt := 146) C dX12_isStronger_142 (by decide) ?_
              first | exact (J16  ()) | (simp only [if_neg c_129_k13, if_pos c_133_k14, if_neg c_138_k15] at J16; exact (J16  ()))
      · have E := ite_f E c_78
        refine r_aload_n (i := 0) C dX12_isStronger_81 rfl rfl (by first | rfl | exact isR_rf _) ?_
        refine rm_ref (k := 17) C f_X12_57 dX12_isStronger_82 rfl rfl hM rfl ?_
        refine r_iload_n (i := 1) C dX12_isStronger_85 rfl rfl ?_
        refine rm_iald (k := 17) C dX12_isStronger_86 hM rfl rfl g7 ?_
        refine r_aload_n (i := 0) C dX12_isStronger_87 rfl rfl (by first | rfl | exact isR_rf _) ?_
        refine rm_ref (k := 17) C f_X12_57 dX12_isStronger_88 rfl rfl hM rfl ?_
        refine r_iload_n (i := 2) C dX12_isStronger_91 rfl rfl ?_
        refine rm_iald (k := 17) C dX12_isStronger_92 hM rfl rfl g9 ?_
        have J18 : ∀ (u : Unit), wr X 0 0 101 [.ref m, .int a0, .int a1, (.long 0)] [.int (if (S 17 (tn a0)) ≤ (S 17 (tn a1)) then (0 : Int32) else (1 : Int32))] (pm m h S) := by
          intro u
          refine bnd_elim (P := fun (z : Int32) => wr X 0 0 101 [.ref m, .int a0, .int a1, (.long 0)] [.int z] (pm m h S)) E (fun p19 E => ?_)
          refine r_aload_n (i := 0) C dX12_isStronger_101 rfl rfl (by first | rfl | exact isR_rf _) ?_
          refine rm_ref (k := 18) C f_X12_60 dX12_isStronger_102 rfl rfl hM rfl ?_
          refine r_iload_n (i := 1) C dX12_isStronger_105 rfl rfl ?_
          refine rm_zald (k := 18) C dX12_isStronger_106 hM rfl rfl g7 ?_
          have J21 : ∀ (u : Unit), wr X 0 0 115 [.ref m, .int a0, .int a1, (.long 0)] [.int (if p19 = (S 18 (tn a0)) then (0 : Int32) else (1 : Int32))] (pm m h S) := by
            intro u
            obtain rfl := Option.some.inj E
            exact r_iret C E0 dX12_isStronger_115 rfl (bo_nar (by first | exact Or.inl rfl | exact Or.inr rfl | assumption | exact b_canBe | exact b_in | exact b_isRule | exact b_isPart | exact b_isPartOf | (repeat' split) <;> first | exact Or.inl rfl | exact Or.inr rfl | assumption | exact b_canBe | exact b_in | exact b_isRule | exact b_isPart | exact b_isPartOf)).1 (Nat.le_refl _) (Nat.le_refl _)
          refine r_ic_eq (tgt := 114) C dX12_isStronger_107 (by decide) (fun c_107_k20 => ?_) (fun c_107_k20 => ?_)
          · refine r_iconst (v := 0) C dX12_isStronger_114 (by decide) ?_
            first | exact (J21  ()) | (simp only [if_pos c_107_k20] at J21; exact (J21  ()))
          · refine r_iconst (v := 1) C dX12_isStronger_110 (by decide) ?_
            refine r_goto (tgt := 115) C dX12_isStronger_111 (by decide) ?_
            first | exact (J21  ()) | (simp only [if_neg c_107_k20] at J21; exact (J21  ()))
        refine r_ic_le (tgt := 100) C dX12_isStronger_93 (by decide) (fun c_93_k17 => ?_) (fun c_93_k17 => ?_)
        · refine r_iconst (v := 0) C dX12_isStronger_100 (by decide) ?_
          first | exact (J18  ()) | (simp only [if_pos c_93_k17] at J18; exact (J18  ()))
        · refine r_iconst (v := 1) C dX12_isStronger_96 (by decide) ?_
          refine r_goto (tgt := 101) C dX12_isStronger_97 (by decide) ?_
          first | exact (J18  ()) | (simp only [if_neg c_93_k17] at J18; exact (J18  ()))
    · have E := ite_f E c_34
      refine r_aload_n (i := 0) C dX12_isStronger_37 rfl rfl (by first | rfl | exact isR_rf _) ?_
      refine rm_ref (k := 16) C f_X12_54 dX12_isStronger_38 rfl rfl hM rfl ?_
      refine r_iload_n (i := 1) C dX12_isStronger_41 rfl rfl ?_
      refine rm_iald (k := 16) C dX12_isStronger_42 hM rfl rfl g7 ?_
      refine r_aload_n (i := 0) C dX12_isStronger_43 rfl rfl (by first | rfl | exact isR_rf _) ?_
      refine rm_ref (k := 18) C f_X12_60 dX12_isStronger_44 rfl rfl hM rfl ?_
      refine r_iload_n (i := 1) C dX12_isStronger_47 rfl rfl ?_
      refine rm_zald (k := 18) C dX12_isStronger_48 hM rfl rfl g7 ?_
      have J23 : ∀ (u : Unit), wr X 0 0 57 [.ref m, .int a0, .int a1, (.long 0)] [.int (if (S 18 (tn a0)) = (0 : Int32) then (1 : Int32) else (0 : Int32)), .int (S 16 (tn a0))] (pm m h S) := by
        intro u
        refine bnd_elim (P := fun (z : Int32) => wr X 0 0 57 [.ref m, .int a0, .int a1, (.long 0)] [.int z, .int (S 16 (tn a0))] (pm m h S)) E (fun p24 E => ?_)
        have J26 : ∀ (u : Unit), wr X 0 0 65 [.ref m, .int a0, .int a1, (.long 0)] [.int (if (S 16 (tn a0)) = p24 then (1 : Int32) else (0 : Int32))] (pm m h S) := by
          intro u
          obtain rfl := Option.some.inj E
          exact r_iret C E0 dX12_isStronger_65 rfl (bo_nar (by first | exact Or.inl rfl | exact Or.inr rfl | assumption | exact b_canBe | exact b_in | exact b_isRule | exact b_isPart | exact b_isPartOf | (repeat' split) <;> first | exact Or.inl rfl | exact Or.inr rfl | assumption | exact b_canBe | exact b_in | exact b_isRule | exact b_isPart | exact b_isPartOf)).1 (Nat.le_refl _) (Nat.le_refl _)
        refine r_ic_ne (tgt := 64) C dX12_isStronger_57 (by decide) (fun c_57_k25 => ?_) (fun c_57_k25 => ?_)
        · refine r_iconst (v := 0) C dX12_isStronger_64 (by decide) ?_
          first | exact (J26  ()) | (simp only [if_neg c_57_k25] at J26; exact (J26  ()))
        · refine r_iconst (v := 1) C dX12_isStronger_60 (by decide) ?_
          refine r_goto (tgt := 65) C dX12_isStronger_61 (by decide) ?_
          first | exact (J26  ()) | (simp only [if_pos c_57_k25] at J26; exact (J26  ()))
      refine r_if_eq (tgt := 56) C dX12_isStronger_49 (by decide) (fun c_49_k22 => ?_) (fun c_49_k22 => ?_)
      · refine r_iconst (v := 1) C dX12_isStronger_56 (by decide) ?_
        first | exact (J23  ()) | (simp only [if_pos c_49_k22] at J23; exact (J23  ()))
      · refine r_iconst (v := 0) C dX12_isStronger_52 (by decide) ?_
        refine r_goto (tgt := 57) C dX12_isStronger_53 (by decide) ?_
        first | exact (J23  ()) | (simp only [if_neg c_49_k22] at J23; exact (J23  ()))
  · have E := ite_f E c_12
    refine r_aload_n (i := 0) C dX12_isStronger_15 rfl rfl (by first | rfl | exact isR_rf _) ?_
    refine rm_ref (k := 18) C f_X12_60 dX12_isStronger_16 rfl rfl hM rfl ?_
    refine r_iload_n (i := 1) C dX12_isStronger_19 rfl rfl ?_
    refine rm_zald (k := 18) C dX12_isStronger_20 hM rfl rfl g7 ?_
    obtain ⟨gb, E⟩ := gd_elim E
    obtain rfl := Option.some.inj E
    exact r_iret C E0 dX12_isStronger_21 rfl (bo_nar (by first | exact Or.inl rfl | exact Or.inr rfl | assumption | exact b_canBe | exact b_in | exact b_isRule | exact b_isPart | exact b_isPartOf | (repeat' split) <;> first | exact Or.inl rfl | exact Or.inr rfl | assumption | exact b_canBe | exact b_in | exact b_isRule | exact b_isPart | exact b_isPartOf)).1 (Nat.le_refl _) (Nat.le_refl _)

def m_initial (a0 : Int32) : Int32 := if (2 : Int32) < a0 then if a0 = (7 : Int32) then (1 : Int32) else if a0 = (9 : Int32) then (1 : Int32) else if a0 < (10 : Int32) then (0 : Int32) else ((-1) : Int32) else ((-2) : Int32)
theorem z_initial (l : Launch) (G : Gl) {h : Hp} {a0 : Int32} : MRw l G yX12_initial (.code yX12_initial cX12_initial 1 (Option.some Jvm.ClassFile.FieldType.int)) 0 0 0 [.int a0] h (.inl (some (.int (m_initial a0)), h)) := by
  refine mr_of (by decide +kernel) (Nat.le_of_ble_eq_true rfl) (ct1 rfl) (fun X hG hl C E0 => ?_)
  subst hG hl
  rw [m_initial] at E0
  refine r_iload_n (i := 0) C dX12_initial_0 rfl rfl ?_
  refine r_iconst (v := 2) C dX12_initial_1 (by decide) ?_
  have J5 : ∀ (u : Unit), wr X 0 0 37 [.int a0] [.int (if (2 : Int32) < a0 then if a0 = (7 : Int32) then (1 : Int32) else if a0 = (9 : Int32) then (1 : Int32) else if a0 < (10 : Int32) then (0 : Int32) else ((-1) : Int32) else ((-2) : Int32))] h := by
    intro u
    exact r_iret C E0 dX12_initial_37 rfl rfl (Nat.le_refl _) (Nat.le_refl _)
  refine r_ic_gt (tgt := 10) C dX12_initial_2 (by decide) (fun c_2_k1 => ?_) (fun c_2_k1 => ?_)
  · refine r_iload_n (i := 0) C dX12_initial_10 rfl rfl ?_
    refine r_bipush (v := 7) C dX12_initial_11 (by decide) ?_
    refine r_ic_eq (tgt := 22) C dX12_initial_13 (by decide) (fun c_13_k2 => ?_) (fun c_13_k2 => ?_)
    · refine r_iconst (v := 1) C dX12_initial_22 (by decide) ?_
      refine r_goto (tgt := 37) C dX12_initial_23 (by decide) ?_
      first | exact (J5  ()) | (simp only [if_pos c_2_k1, if_pos c_13_k2] at J5; exact (J5  ()))
    · refine r_iload_n (i := 0) C dX12_initial_16 rfl rfl ?_
      refine r_bipush (v := 9) C dX12_initial_17 (by decide) ?_
      refine r_ic_ne (tgt := 26) C dX12_initial_19 (by decide) (fun c_19_k3 => ?_) (fun c_19_k3 => ?_)
      · refine r_iload_n (i := 0) C dX12_initial_26 rfl rfl ?_
        refine r_bipush (v := 10) C dX12_initial_27 (by decide) ?_
        refine r_ic_lt (tgt := 36) C dX12_initial_29 (by decide) (fun c_29_k4 => ?_) (fun c_29_k4 => ?_)
        · refine r_iconst (v := 0) C dX12_initial_36 (by decide) ?_
          first | exact (J5  ()) | (simp only [if_pos c_2_k1, if_neg c_13_k2, if_neg c_19_k3, if_pos c_29_k4] at J5; exact (J5  ()))
        · refine r_iconst (v := (-1)) C dX12_initial_32 (by decide) ?_
          refine r_goto (tgt := 37) C dX12_initial_33 (by decide) ?_
          first | exact (J5  ()) | (simp only [if_pos c_2_k1, if_neg c_13_k2, if_neg c_19_k3, if_neg c_29_k4] at J5; exact (J5  ()))
      · refine r_iconst (v := 1) C dX12_initial_22 (by decide) ?_
        refine r_goto (tgt := 37) C dX12_initial_23 (by decide) ?_
        first | exact (J5  ()) | (simp only [if_pos c_2_k1, if_neg c_13_k2, if_pos c_19_k3] at J5; exact (J5  ()))
  · refine r_bipush (v := (-2)) C dX12_initial_5 (by decide) ?_
    refine r_goto (tgt := 37) C dX12_initial_7 (by decide) ?_
    first | exact (J5  ()) | (simp only [if_neg c_2_k1] at J5; exact (J5  ()))

