/-! ===== the model: tells, unset, takesValue, needs (by gen.py) ===== -/
def m_tells_16 (K0 : Int32 → Option (Int32)) (S : MM) (x2 x3 : Int32) : Nat → Int32 → Int32 → Option (Int32)
  | 0, _, _ => none
  | fu + 1, x5, x6 => if (S 10 0) ≤ x6 then (K0 x5) else (if ix (((14 : Int32) * x6) + x2) 224 then if (¬ ((S 20 (tn (((14 : Int32) * x6) + x2))) = (0 : Int32)) → ix x6 16) then bnd (if (S 20 (tn (((14 : Int32) * x6) + x2))) = (0 : Int32) then (0 : Int32) else if (S 36 (tn x6)) = (0 : Int32) then (0 : Int32) else (1 : Int32)) fun p15 => (if x3 = ((-1) : Int32) then (if p15 = (0 : Int32) then (m_tells_16 K0 S x2 x3 fu x5 (x6 + 1)) else (if (1 : Int32) = (0 : Int32) then (m_tells_16 K0 S x2 x3 fu x5 (x6 + 1)) else (if x5 = ((-1) : Int32) then (m_tells_16 K0 S x2 x3 fu x6 (x6 + 1)) else (bd (m_isStronger S x6 x5) fun p23 => (bnd (if p23 = (0 : Int32) then x5 else x6) fun p26 => (m_tells_16 K0 S x2 x3 fu p26 (x6 + 1))))))) else (bd (m_isStronger S x3 x6) fun p27 => (if (¬ (p27 = (0 : Int32)) → (ix x3 16 ∧ ix x6 16)) then bnd (if p27 = (0 : Int32) then (0 : Int32) else if (S 16 (tn x3)) = (S 16 (tn x6)) then if (S 17 (tn x3)) = (S 17 (tn x6)) then if (S 18 (tn x3)) = (S 18 (tn x6)) then (0 : Int32) else (1 : Int32) else (1 : Int32) else (1 : Int32)) fun p36 => (if p15 = (0 : Int32) then (m_tells_16 K0 S x2 x3 fu x5 (x6 + 1)) else (if p36 = (0 : Int32) then (m_tells_16 K0 S x2 x3 fu x5 (x6 + 1)) else (if x5 = ((-1) : Int32) then (m_tells_16 K0 S x2 x3 fu x6 (x6 + 1)) else (bd (m_isStronger S x6 x5) fun p43 => (bnd (if p43 = (0 : Int32) then x5 else x6) fun p46 => (m_tells_16 K0 S x2 x3 fu p46 (x6 + 1))))))) else none))) else none else none)
theorem z_tells_16 {X : Ctx} {m : Nat} {h : Hp} (C : Cx X yX12_tells cX12_tells 9 (Option.some Jvm.ClassFile.FieldType.int) [] 3 0 0) (hM : MW m h) {K0 : Int32 → Option (Int32)} {S : MM} {x2 x3 : Int32} {r : Int32} (E0 : Ex X 0 0 (.inl (some (.int r), (pm m h S)))) : ∀ (fu : Nat) (x5 x6 : Int32) (u1 u4 u7 u8 : Value) , m_tells_16 K0 S x2 x3 fu x5 x6 = some r → (∀ (y5 : Int32) (u1 u3 u4 u6 u7 u8 : Value) , K0 y5 = some r → wr X 0 0 169 [.ref m, u1, .int x2, u3, u4, .int y5, u6, u7, u8] [] (pm m h S)) → wr X 0 0 16 [.ref m, u1, .int x2, .int x3, u4, .int x5, .int x6, u7, u8] [] (pm m h S) := by
  intro fu
  induction fu with
  | zero =>
    intro x5 x6 u1 u4 u7 u8 E hK0
    rw [m_tells_16] at E
    cases E
  | succ fu ih =>
    intro x5 x6 u1 u4 u7 u8 E hK0
    rw [m_tells_16] at E
    refine r_iload (i := 6) C dX12_tells_16 rfl ?_
    refine r_aload_n (i := 0) C dX12_tells_18 rfl rfl (by first | rfl | exact isR_rf _) ?_
    refine rm_get (k := 10) C f_X12_126 dX12_tells_19 rfl rfl hM rfl ?_
    refine r_ic_ge (tgt := 169) C dX12_tells_22 (by decide) (fun c_22 => ?_) (fun c_22 => ?_)
    · have E := ite_t E c_22
      exact hK0 _ _ _ _ _ _ _ E
    · have E := ite_f E c_22
      refine r_aload_n (i := 0) C dX12_tells_25 rfl rfl (by first | rfl | exact isR_rf _) ?_
      refine rm_ref (k := 20) C f_X12_66 dX12_tells_26 rfl rfl hM rfl ?_
      refine r_bipush (v := 14) C dX12_tells_29 (by decide) ?_
      refine r_iload (i := 6) C dX12_tells_31 rfl ?_
      refine r_imul C dX12_tells_33 ?_
      refine r_iload_n (i := 2) C dX12_tells_34 rfl rfl ?_
      refine r_iadd C dX12_tells_35 ?_
      obtain ⟨g9, E⟩ := gd_elim E
      refine rm_iald (k := 20) C dX12_tells_36 hM rfl rfl g9 ?_
      obtain ⟨g13, E⟩ := gd_elim E
      have J14 : ∀ (u : Unit), wr X 0 0 55 [.ref m, u1, .int x2, .int x3, u4, .int x5, .int x6, u7, u8] [.int (if (S 20 (tn (((14 : Int32) * x6) + x2))) = (0 : Int32) then (0 : Int32) else if (S 36 (tn x6)) = (0 : Int32) then (0 : Int32) else (1 : Int32))] (pm m h S) := by
        intro u
        refine bnd_elim (P := fun (z : Int32) => wr X 0 0 55 [.ref m, u1, .int x2, .int x3, u4, .int x5, .int x6, u7, u8] [.int z] (pm m h S)) E (fun p15 E => ?_)
        refine r_istore (i := 7) C dX12_tells_55 (Nat.le_of_ble_eq_true rfl) ?_
        refine r_iload_n (i := 3) C dX12_tells_57 rfl rfl ?_
        refine r_iconst (v := (-1)) C dX12_tells_58 (by decide) ?_
        refine r_ic_eq (tgt := 120) C dX12_tells_59 (by decide) (fun c_59 => ?_) (fun c_59 => ?_)
        · have E := ite_t E c_59
          refine r_iconst (v := 1) C dX12_tells_120 (by decide) ?_
          refine r_goto (tgt := 125) C dX12_tells_121 (by decide) ?_
          refine r_istore (i := 8) C dX12_tells_125 (Nat.le_of_ble_eq_true rfl) ?_
          refine r_iload (i := 7) C dX12_tells_127 rfl ?_
          refine r_if_eq (tgt := 159) C dX12_tells_129 (by decide) (fun c_129 => ?_) (fun c_129 => ?_)
          · have E := ite_t E c_129
            refine r_iload (i := 5) C dX12_tells_159 rfl ?_
            refine r_istore (i := 5) C dX12_tells_161 (Nat.le_of_ble_eq_true rfl) ?_
            refine r_iinc1 (i := 6) C dX12_tells_163 rfl ?_
            refine r_goto (tgt := 16) C dX12_tells_166 (by decide) ?_
            exact ih _ _ _ _ _ _ E hK0
          · have E := ite_f E c_129
            refine r_iload (i := 8) C dX12_tells_132 rfl ?_
            refine r_if_eq (tgt := 159) C dX12_tells_134 (by decide) (fun c_134 => ?_) (fun c_134 => ?_)
            · have E := ite_t E c_134
              refine r_iload (i := 5) C dX12_tells_159 rfl ?_
              refine r_istore (i := 5) C dX12_tells_161 (Nat.le_of_ble_eq_true rfl) ?_
              refine r_iinc1 (i := 6) C dX12_tells_163 rfl ?_
              refine r_goto (tgt := 16) C dX12_tells_166 (by decide) ?_
              exact ih _ _ _ _ _ _ E hK0
            · have E := ite_f E c_134
              refine r_iload (i := 5) C dX12_tells_137 rfl ?_
              refine r_iconst (v := (-1)) C dX12_tells_139 (by decide) ?_
              refine r_ic_eq (tgt := 154) C dX12_tells_140 (by decide) (fun c_140 => ?_) (fun c_140 => ?_)
              · have E := ite_t E c_140
                refine r_iload (i := 6) C dX12_tells_154 rfl ?_
                refine r_goto (tgt := 161) C dX12_tells_156 (by decide) ?_
                refine r_istore (i := 5) C dX12_tells_161 (Nat.le_of_ble_eq_true rfl) ?_
                refine r_iinc1 (i := 6) C dX12_tells_163 rfl ?_
                refine r_goto (tgt := 16) C dX12_tells_166 (by decide) ?_
                exact ih _ _ _ _ _ _ E hK0
              · have E := ite_f E c_140
                refine r_aload_n (i := 0) C dX12_tells_143 rfl rfl (by first | rfl | exact isR_rf _) ?_
                refine r_iload (i := 6) C dX12_tells_144 rfl ?_
                refine r_iload (i := 5) C dX12_tells_146 rfl ?_
                obtain ⟨p23, q, E⟩ := bd_elim E
                refine r_callVs C v_X12_200 (z_isStronger _ _ hM q) dX12_tells_148 hM.1 (ci := 10) (by decide) rfl rfl (As := [_, _]) rfl rfl rfl (by first | exact Nat.le_refl _ | exact Nat.le_of_ble_eq_true rfl | omega) (Nat.le_of_ble_eq_true rfl) (by first | exact Nat.le_refl _ | exact Nat.le_of_ble_eq_true rfl | omega) (by first | exact Nat.le_refl _ | exact Nat.le_of_ble_eq_true rfl | omega) ?_
                have J25 : ∀ (u : Unit), wr X 0 0 161 [.ref m, u1, .int x2, .int x3, u4, .int x5, .int x6, .int p15, .int (1 : Int32)] [.int (if p23 = (0 : Int32) then x5 else x6)] (pm m h S) := by
                  intro u
                  refine bnd_elim (P := fun (z : Int32) => wr X 0 0 161 [.ref m, u1, .int x2, .int x3, u4, .int x5, .int x6, .int p15, .int (1 : Int32)] [.int z] (pm m h S)) E (fun p26 E => ?_)
                  refine r_istore (i := 5) C dX12_tells_161 (Nat.le_of_ble_eq_true rfl) ?_
                  refine r_iinc1 (i := 6) C dX12_tells_163 rfl ?_
                  refine r_goto (tgt := 16) C dX12_tells_166 (by decide) ?_
                  exact ih _ _ _ _ _ _ E hK0
                refine r_if_eq (tgt := 159) C dX12_tells_151 (by decide) (fun c_151_k24 => ?_) (fun c_151_k24 => ?_)
                · refine r_iload (i := 5) C dX12_tells_159 rfl ?_
                  first | exact (J25  ()) | (simp only [if_pos c_151_k24] at J25; exact (J25  ()))
                · refine r_iload (i := 6) C dX12_tells_154 rfl ?_
                  refine r_goto (tgt := 161) C dX12_tells_156 (by decide) ?_
                  first | exact (J25  ()) | (simp only [if_neg c_151_k24] at J25; exact (J25  ()))
        · have E := ite_f E c_59
          refine r_aload_n (i := 0) C dX12_tells_62 rfl rfl (by first | rfl | exact isR_rf _) ?_
          refine r_iload_n (i := 3) C dX12_tells_63 rfl rfl ?_
          refine r_iload (i := 6) C dX12_tells_64 rfl ?_
          obtain ⟨p27, q, E⟩ := bd_elim E
          refine r_callVs C v_X12_200 (z_isStronger _ _ hM q) dX12_tells_66 hM.1 (ci := 10) (by decide) rfl rfl (As := [_, _]) rfl rfl rfl (by first | exact Nat.le_refl _ | exact Nat.le_of_ble_eq_true rfl | omega) (Nat.le_of_ble_eq_true rfl) (by first | exact Nat.le_refl _ | exact Nat.le_of_ble_eq_true rfl | omega) (by first | exact Nat.le_refl _ | exact Nat.le_of_ble_eq_true rfl | omega) ?_
          obtain ⟨g34, E⟩ := gd_elim E
          have J35 : ∀ (u : Unit), wr X 0 0 125 [.ref m, u1, .int x2, .int x3, u4, .int x5, .int x6, .int p15, u8] [.int (if p27 = (0 : Int32) then (0 : Int32) else if (S 16 (tn x3)) = (S 16 (tn x6)) then if (S 17 (tn x3)) = (S 17 (tn x6)) then if (S 18 (tn x3)) = (S 18 (tn x6)) then (0 : Int32) else (1 : Int32) else (1 : Int32) else (1 : Int32))] (pm m h S) := by
            intro u
            refine bnd_elim (P := fun (z : Int32) => wr X 0 0 125 [.ref m, u1, .int x2, .int x3, u4, .int x5, .int x6, .int p15, u8] [.int z] (pm m h S)) E (fun p36 E => ?_)
            refine r_istore (i := 8) C dX12_tells_125 (Nat.le_of_ble_eq_true rfl) ?_
            refine r_iload (i := 7) C dX12_tells_127 rfl ?_
            refine r_if_eq (tgt := 159) C dX12_tells_129 (by decide) (fun c_129 => ?_) (fun c_129 => ?_)
            · have E := ite_t E c_129
              refine r_iload (i := 5) C dX12_tells_159 rfl ?_
              refine r_istore (i := 5) C dX12_tells_161 (Nat.le_of_ble_eq_true rfl) ?_
              refine r_iinc1 (i := 6) C dX12_tells_163 rfl ?_
              refine r_goto (tgt := 16) C dX12_tells_166 (by decide) ?_
              exact ih _ _ _ _ _ _ E hK0
            · have E := ite_f E c_129
              refine r_iload (i := 8) C dX12_tells_132 rfl ?_
              refine r_if_eq (tgt := 159) C dX12_tells_134 (by decide) (fun c_134 => ?_) (fun c_134 => ?_)
              · have E := ite_t E c_134
                refine r_iload (i := 5) C dX12_tells_159 rfl ?_
                refine r_istore (i := 5) C dX12_tells_161 (Nat.le_of_ble_eq_true rfl) ?_
                refine r_iinc1 (i := 6) C dX12_tells_163 rfl ?_
                refine r_goto (tgt := 16) C dX12_tells_166 (by decide) ?_
                exact ih _ _ _ _ _ _ E hK0
              · have E := ite_f E c_134
                refine r_iload (i := 5) C dX12_tells_137 rfl ?_
                refine r_iconst (v := (-1)) C dX12_tells_139 (by decide) ?_
                refine r_ic_eq (tgt := 154) C dX12_tells_140 (by decide) (fun c_140 => ?_) (fun c_140 => ?_)
                · have E := ite_t E c_140
                  refine r_iload (i := 6) C dX12_tells_154 rfl ?_
                  refine r_goto (tgt := 161) C dX12_tells_156 (by decide) ?_
                  refine r_istore (i := 5) C dX12_tells_161 (Nat.le_of_ble_eq_true rfl) ?_
                  refine r_iinc1 (i := 6) C dX12_tells_163 rfl ?_
                  refine r_goto (tgt := 16) C dX12_tells_166 (by decide) ?_
                  exact ih _ _ _ _ _ _ E hK0
                · have E := ite_f E c_140
                  refine r_aload_n (i := 0) C dX12_tells_143 rfl rfl (by first | rfl | exact isR_rf _) ?_
                  refine r_iload (i := 6) C dX12_tells_144 rfl ?_
                  refine r_iload (i := 5) C dX12_tells_146 rfl ?_
                  obtain ⟨p43, q, E⟩ := bd_elim E
                  refine r_callVs C v_X12_200 (z_isStronger _ _ hM q) dX12_tells_148 hM.1 (ci := 10) (by decide) rfl rfl (As := [_, _]) rfl rfl rfl (by first | exact Nat.le_refl _ | exact Nat.le_of_ble_eq_true rfl | omega) (Nat.le_of_ble_eq_true rfl) (by first | exact Nat.le_refl _ | exact Nat.le_of_ble_eq_true rfl | omega) (by first | exact Nat.le_refl _ | exact Nat.le_of_ble_eq_true rfl | omega) ?_
                  have J45 : ∀ (u : Unit), wr X 0 0 161 [.ref m, u1, .int x2, .int x3, u4, .int x5, .int x6, .int p15, .int p36] [.int (if p43 = (0 : Int32) then x5 else x6)] (pm m h S) := by
                    intro u
                    refine bnd_elim (P := fun (z : Int32) => wr X 0 0 161 [.ref m, u1, .int x2, .int x3, u4, .int x5, .int x6, .int p15, .int p36] [.int z] (pm m h S)) E (fun p46 E => ?_)
                    refine r_istore (i := 5) C dX12_tells_161 (Nat.le_of_ble_eq_true rfl) ?_
                    refine r_iinc1 (i := 6) C dX12_tells_163 rfl ?_
                    refine r_goto (tgt := 16) C dX12_tells_166 (by decide) ?_
                    exact ih _ _ _ _ _ _ E hK0
                  refine r_if_eq (tgt := 159) C dX12_tells_151 (by decide) (fun c_151_k44 => ?_) (fun c_151_k44 => ?_)
                  · refine r_iload (i := 5) C dX12_tells_159 rfl ?_
                    first | exact (J45  ()) | (simp only [if_pos c_151_k44] at J45; exact (J45  ()))
                  · refine r_iload (i := 6) C dX12_tells_154 rfl ?_
                    refine r_goto (tgt := 161) C dX12_tells_156 (by decide) ?_
                    first | exact (J45  ()) | (simp only [if_neg c_151_k44] at J45; exact (J45  ()))
          refine r_if_eq (tgt := 124) C dX12_tells_69 (by decide) (fun c_69_k28 => ?_) (fun c_69_k28 => ?_)
          · refine r_iconst (v := 0) C dX12_tells_124 (by decide) ?_
            first | exact (J35  ()) | (simp only [if_pos c_69_k28] at J35; exact (J35  ()))
          · refine r_aload_n (i := 0) C dX12_tells_72 rfl rfl (by first | rfl | exact isR_rf _) ?_
            refine rm_ref (k := 16) C f_X12_54 dX12_tells_73 rfl rfl hM rfl ?_
            refine r_iload_n (i := 3) C dX12_tells_76 rfl rfl ?_
            refine rm_iald (k := 16) C dX12_tells_77 hM rfl rfl (g34 c_69_k28).1 ?_
            refine r_aload_n (i := 0) C dX12_tells_78 rfl rfl (by first | rfl | exact isR_rf _) ?_
            refine rm_ref (k := 16) C f_X12_54 dX12_tells_79 rfl rfl hM rfl ?_
            refine r_iload (i := 6) C dX12_tells_82 rfl ?_
            refine rm_iald (k := 16) C dX12_tells_84 hM rfl rfl (g34 c_69_k28).2 ?_
            refine r_ic_ne (tgt := 120) C dX12_tells_85 (by decide) (fun c_85_k31 => ?_) (fun c_85_k31 => ?_)
            · refine r_iconst (v := 1) C dX12_tells_120 (by decide) ?_
              refine r_goto (tgt := 125) C dX12_tells_121 (by decide) ?_
              first | exact (J35  ()) | (simp only [if_neg c_69_k28, if_neg c_85_k31] at J35; exact (J35  ()))
            · refine r_aload_n (i := 0) C dX12_tells_88 rfl rfl (by first | rfl | exact isR_rf _) ?_
              refine rm_ref (k := 17) C f_X12_57 dX12_tells_89 rfl rfl hM rfl ?_
              refine r_iload_n (i := 3) C dX12_tells_92 rfl rfl ?_
              refine rm_iald (k := 17) C dX12_tells_93 hM rfl rfl (g34 c_69_k28).1 ?_
              refine r_aload_n (i := 0) C dX12_tells_94 rfl rfl (by first | rfl | exact isR_rf _) ?_
              refine rm_ref (k := 17) C f_X12_57 dX12_tells_95 rfl rfl hM rfl ?_
              refine r_iload (i := 6) C dX12_tells_98 rfl ?_
              refine rm_iald (k := 17) C dX12_tells_100 hM rfl rfl (g34 c_69_k28).2 ?_
              refine r_ic_ne (tgt := 120) C dX12_tells_101 (by decide) (fun c_101_k32 => ?_) (fun c_101_k32 => ?_)
              · refine r_iconst (v := 1) C dX12_tells_120 (by decide) ?_
                refine r_goto (tgt := 125) C dX12_tells_121 (by decide) ?_
                first | exact (J35  ()) | (simp only [if_neg c_69_k28, if_pos c_85_k31, if_neg c_101_k32] at J35; exact (J35  ()))
              · refine r_aload_n (i := 0) C dX12_tells_104 rfl rfl (by first | rfl | exact isR_rf _) ?_
                refine rm_ref (k := 18) C f_X12_60 dX12_tells_105 rfl rfl hM rfl ?_
                refine r_iload_n (i := 3) C dX12_tells_108 rfl rfl ?_
                refine rm_zald (k := 18) C dX12_tells_109 hM rfl rfl (g34 c_69_k28).1 ?_
                refine r_aload_n (i := 0) C dX12_tells_110 rfl rfl (by first | rfl | exact isR_rf _) ?_
                refine rm_ref (k := 18) C f_X12_60 dX12_tells_111 rfl rfl hM rfl ?_
                refine r_iload (i := 6) C dX12_tells_114 rfl ?_
                refine rm_zald (k := 18) C dX12_tells_116 hM rfl rfl (g34 c_69_k28).2 ?_
                refine r_ic_eq (tgt := 124) C dX12_tells_117 (by decide) (fun c_117_k33 => ?_) (fun c_117_k33 => ?_)
                · refine r_iconst (v := 0) C dX12_tells_124 (by decide) ?_
                  first | exact (J35  ()) | (simp only [if_neg c_69_k28, if_pos c_85_k31, if_pos c_101_k32, if_pos c_117_k33] at J35; exact (J35  ()))
                · refine r_iconst (v := 1) C dX12_tells_120 (by decide) ?_
                  refine r_goto (tgt := 125) C dX12_tells_121 (by decide) ?_
                  first | exact (J35  ()) | (simp only [if_neg c_69_k28, if_pos c_85_k31, if_pos c_101_k32, if_neg c_117_k33] at J35; exact (J35  ()))
      refine r_if_eq (tgt := 54) C dX12_tells_37 (by decide) (fun c_37_k10 => ?_) (fun c_37_k10 => ?_)
      · refine r_iconst (v := 0) C dX12_tells_54 (by decide) ?_
        first | exact (J14  ()) | (simp only [if_pos c_37_k10] at J14; exact (J14  ()))
      · refine r_aload_n (i := 0) C dX12_tells_40 rfl rfl (by first | rfl | exact isR_rf _) ?_
        refine rm_ref (k := 36) C f_X12_108 dX12_tells_41 rfl rfl hM rfl ?_
        refine r_iload (i := 6) C dX12_tells_44 rfl ?_
        refine rm_zald (k := 36) C dX12_tells_46 hM rfl rfl (g13 c_37_k10) ?_
        refine r_if_eq (tgt := 54) C dX12_tells_47 (by decide) (fun c_47_k12 => ?_) (fun c_47_k12 => ?_)
        · refine r_iconst (v := 0) C dX12_tells_54 (by decide) ?_
          first | exact (J14  ()) | (simp only [if_neg c_37_k10, if_pos c_47_k12] at J14; exact (J14  ()))
        · refine r_iconst (v := 1) C dX12_tells_50 (by decide) ?_
          refine r_goto (tgt := 55) C dX12_tells_51 (by decide) ?_
          first | exact (J14  ()) | (simp only [if_neg c_37_k10, if_neg c_47_k12] at J14; exact (J14  ()))
def m_tells_5 (S : MM) (x2 : Int32) : Nat → Int32 → Int32 → Option (Int32)
  | 0, _, _ => none
  | fu + 1, x3, x4 => if x4 = (0 : Int32) then (some x3) else (m_tells_16 (fun p47 => bnd (if p47 = ((-1) : Int32) then (0 : Int32) else p47) fun p56 => bnd (((14 : Int32) * p56) + x2) fun p57 => (if (¬ (p47 = ((-1) : Int32)) → ix p57 224) then bnd (if p47 = ((-1) : Int32) then (0 : Int32) else if (S 20 (tn p57)) = (2 : Int32) then if (S 21 (tn p57)) = (3 : Int32) then (1 : Int32) else (0 : Int32) else (0 : Int32)) fun p64 => (m_tells_5 S x2 fu p47 p64) else none)) S x2 x3 1000 ((-1) : Int32) (0 : Int32))
theorem z_tells_5 {X : Ctx} {m : Nat} {h : Hp} (C : Cx X yX12_tells cX12_tells 9 (Option.some Jvm.ClassFile.FieldType.int) [] 3 0 0) (hM : MW m h) {S : MM} {x2 : Int32} {r : Int32} (E0 : Ex X 0 0 (.inl (some (.int r), (pm m h S)))) : ∀ (fu : Nat) (x3 x4 : Int32) (u1 u5 u6 u7 u8 : Value) , m_tells_5 S x2 fu x3 x4 = some r → wr X 0 0 5 [.ref m, u1, .int x2, .int x3, .int x4, u5, u6, u7, u8] [] (pm m h S) := by
  intro fu
  induction fu with
  | zero =>
    intro x3 x4 u1 u5 u6 u7 u8 E 
    rw [m_tells_5] at E
    cases E
  | succ fu ih =>
    intro x3 x4 u1 u5 u6 u7 u8 E 
    rw [m_tells_5] at E
    refine r_iload (i := 4) C dX12_tells_5 rfl ?_
    refine r_if_eq (tgt := 229) C dX12_tells_7 (by decide) (fun c_7 => ?_) (fun c_7 => ?_)
    · have E := ite_t E c_7
      refine r_iload_n (i := 3) C dX12_tells_229 rfl rfl ?_
      obtain rfl := Option.some.inj E
      exact r_iret C E0 dX12_tells_230 rfl rfl (Nat.le_refl _) (Nat.le_refl _)
    · have E := ite_f E c_7
      refine r_iconst (v := (-1)) C dX12_tells_10 (by decide) ?_
      refine r_istore (i := 5) C dX12_tells_11 (Nat.le_of_ble_eq_true rfl) ?_
      refine r_iconst (v := 0) C dX12_tells_13 (by decide) ?_
      refine r_istore (i := 6) C dX12_tells_14 (Nat.le_of_ble_eq_true rfl) ?_
      refine z_tells_16 C hM E0 _ _ _ _ _ _ _ E (fun p47 w48 w49 w50 w51 w52 w53 E => ?_)
      refine r_iload (i := 5) C dX12_tells_169 rfl ?_
      refine r_istore_n (i := 3) C dX12_tells_171 rfl (Nat.le_of_ble_eq_true rfl) ?_
      refine r_bipush (v := 14) C dX12_tells_172 (by decide) ?_
      refine r_iload (i := 5) C dX12_tells_174 rfl ?_
      refine r_iconst (v := (-1)) C dX12_tells_176 (by decide) ?_
      have J55 : ∀ (u : Unit), wr X 0 0 186 [.ref m, w48, .int x2, .int p47, w50, .int p47, w51, w52, w53] [.int (if p47 = ((-1) : Int32) then (0 : Int32) else p47), .int (14 : Int32)] (pm m h S) := by
        intro u
        refine bnd_elim (P := fun (z : Int32) => wr X 0 0 186 [.ref m, w48, .int x2, .int p47, w50, .int p47, w51, w52, w53] [.int z, .int (14 : Int32)] (pm m h S)) E (fun p56 E => ?_)
        refine r_imul C dX12_tells_186 ?_
        refine r_iload_n (i := 2) C dX12_tells_187 rfl rfl ?_
        refine r_iadd C dX12_tells_188 ?_
        refine bnd_elim (P := fun (z : Int32) => wr X 0 0 189 [.ref m, w48, .int x2, .int p47, w50, .int p47, w51, w52, w53] [.int z] (pm m h S)) E (fun p57 E => ?_)
        refine r_istore (i := 6) C dX12_tells_189 (Nat.le_of_ble_eq_true rfl) ?_
        refine r_iload (i := 5) C dX12_tells_191 rfl ?_
        refine r_iconst (v := (-1)) C dX12_tells_193 (by decide) ?_
        obtain ⟨g62, E⟩ := gd_elim E
        have J63 : ∀ (u : Unit), wr X 0 0 224 [.ref m, w48, .int x2, .int p47, w50, .int p47, .int p57, w52, w53] [.int (if p47 = ((-1) : Int32) then (0 : Int32) else if (S 20 (tn p57)) = (2 : Int32) then if (S 21 (tn p57)) = (3 : Int32) then (1 : Int32) else (0 : Int32) else (0 : Int32))] (pm m h S) := by
          intro u
          refine bnd_elim (P := fun (z : Int32) => wr X 0 0 224 [.ref m, w48, .int x2, .int p47, w50, .int p47, .int p57, w52, w53] [.int z] (pm m h S)) E (fun p64 E => ?_)
          refine r_istore (i := 4) C dX12_tells_224 (Nat.le_of_ble_eq_true rfl) ?_
          refine r_goto (tgt := 5) C dX12_tells_226 (by decide) ?_
          exact ih _ _ _ _ _ _ _ E
        refine r_ic_eq (tgt := 223) C dX12_tells_194 (by decide) (fun c_194_k58 => ?_) (fun c_194_k58 => ?_)
        · refine r_iconst (v := 0) C dX12_tells_223 (by decide) ?_
          first | exact (J63  ()) | (simp only [if_pos c_194_k58] at J63; exact (J63  ()))
        · refine r_aload_n (i := 0) C dX12_tells_197 rfl rfl (by first | rfl | exact isR_rf _) ?_
          refine rm_ref (k := 20) C f_X12_66 dX12_tells_198 rfl rfl hM rfl ?_
          refine r_iload (i := 6) C dX12_tells_201 rfl ?_
          refine rm_iald (k := 20) C dX12_tells_203 hM rfl rfl (g62 c_194_k58) ?_
          refine r_iconst (v := 2) C dX12_tells_204 (by decide) ?_
          refine r_ic_ne (tgt := 223) C dX12_tells_205 (by decide) (fun c_205_k60 => ?_) (fun c_205_k60 => ?_)
          · refine r_iconst (v := 0) C dX12_tells_223 (by decide) ?_
            first | exact (J63  ()) | (simp only [if_neg c_194_k58, if_neg c_205_k60] at J63; exact (J63  ()))
          · refine r_aload_n (i := 0) C dX12_tells_208 rfl rfl (by first | rfl | exact isR_rf _) ?_
            refine rm_ref (k := 21) C f_X12_69 dX12_tells_209 rfl rfl hM rfl ?_
            refine r_iload (i := 6) C dX12_tells_212 rfl ?_
            refine rm_iald (k := 21) C dX12_tells_214 hM rfl rfl (g62 c_194_k58) ?_
            refine r_iconst (v := 3) C dX12_tells_215 (by decide) ?_
            refine r_ic_ne (tgt := 223) C dX12_tells_216 (by decide) (fun c_216_k61 => ?_) (fun c_216_k61 => ?_)
            · refine r_iconst (v := 0) C dX12_tells_223 (by decide) ?_
              first | exact (J63  ()) | (simp only [if_neg c_194_k58, if_pos c_205_k60, if_neg c_216_k61] at J63; exact (J63  ()))
            · refine r_iconst (v := 1) C dX12_tells_219 (by decide) ?_
              refine r_goto (tgt := 224) C dX12_tells_220 (by decide) ?_
              first | exact (J63  ()) | (simp only [if_neg c_194_k58, if_pos c_205_k60, if_pos c_216_k61] at J63; exact (J63  ()))
      refine r_ic_ne (tgt := 184) C dX12_tells_177 (by decide) (fun c_177_k54 => ?_) (fun c_177_k54 => ?_)
      · refine r_iload (i := 5) C dX12_tells_184 rfl ?_
        first | exact (J55  ()) | (simp only [if_neg c_177_k54] at J55; exact (J55  ()))
      · refine r_iconst (v := 0) C dX12_tells_180 (by decide) ?_
        refine r_goto (tgt := 186) C dX12_tells_181 (by decide) ?_
        first | exact (J55  ()) | (simp only [if_pos c_177_k54] at J55; exact (J55  ()))
def m_tells (S : MM) (a0 : Int32) (a1 : Int32) : Option (Int32) := m_tells_5 S a1 1000 ((-1) : Int32) (1 : Int32)
theorem z_tells (l : Launch) (G : Gl) {m : Nat} {h : Hp} (hM : MW m h) {S : MM} {a0 a1 : Int32} {r : Int32} (E : m_tells S a0 a1 = some r) : MRw l G yX12_tells (.code yX12_tells cX12_tells 9 (Option.some Jvm.ClassFile.FieldType.int)) 3 0 0 [.ref m, .int a0, .int a1] (pm m h S) (.inl (some (.int r), (pm m h S))) := by
  refine mr_of (by decide +kernel) (Nat.le_of_ble_eq_true rfl) (ct3 rfl rfl rfl) (fun X hG hl C E0 => ?_)
  subst hG hl
  rw [m_tells] at E
  refine r_iconst (v := (-1)) C dX12_tells_0 (by decide) ?_
  refine r_istore_n (i := 3) C dX12_tells_1 rfl (Nat.le_of_ble_eq_true rfl) ?_
  refine r_iconst (v := 1) C dX12_tells_2 (by decide) ?_
  refine r_istore (i := 4) C dX12_tells_3 (Nat.le_of_ble_eq_true rfl) ?_
  refine z_tells_5 C hM E0 _ _ _ _ _ _ _ _ E

def m_unset (S : MM) (a0 : Int32) (a1 : Int32) (a2 : Int32) : Option (MM) := bnd (((14 : Int32) * a0) + a1) fun p1 => (bnd (if a2 = (0 : Int32) then (1 : Int32) else if a2 = (2 : Int32) then if a1 < (8 : Int32) then (0 : Int32) else (1 : Int32) else (0 : Int32)) fun p6 => (if (¬ (p6 = (0 : Int32)) → ix a0 24) then bnd (if p6 = (0 : Int32) then (0 : Int32) else if (S 5 (tn a0)) = ((-1) : Int32) then (0 : Int32) else (1 : Int32)) fun p12 => (if (¬ (p12 = (0 : Int32)) → (ix a0 24 ∧ ix (((14 : Int32) * (S 5 (tn a0))) + a1) 336)) then bnd (if p12 = (0 : Int32) then m_initial a1 else S 23 (tn (((14 : Int32) * (S 5 (tn a0))) + a1))) fun p18 => if ix p1 336 then bnd (u2 S 23 (tn p1) p18) fun S19 => (if (¬ (p12 = (0 : Int32)) → (ix a0 24 ∧ ix (((14 : Int32) * (S19 5 (tn a0))) + a1) 336)) then bnd (if p12 = (0 : Int32) then ((-1) : Int32) else S19 24 (tn (((14 : Int32) * (S19 5 (tn a0))) + a1))) fun p26 => bnd (u2 S19 24 (tn p1) p26) fun S27 => (some S27) else none) else none else none) else none))
theorem z_unset (l : Launch) (G : Gl) {m : Nat} {h : Hp} (hM : MW m h) {S : MM} {a0 a1 a2 : Int32} {r : MM} (E : m_unset S a0 a1 a2 = some r) : MRw l G yX12_unset (.code yX12_unset cX12_unset 7 none) 1 0 0 [.ref m, .int a0, .int a1, .int a2] (pm m h S) (.inl (none, pm m h r)) := by
  refine mr_of (by decide +kernel) (Nat.le_of_ble_eq_true rfl) (ct4 rfl rfl rfl rfl) (fun X hG hl C E0 => ?_)
  subst hG hl
  rw [m_unset] at E
  refine r_bipush (v := 14) C dX12_unset_0 (by decide) ?_
  refine r_iload_n (i := 1) C dX12_unset_2 rfl rfl ?_
  refine r_imul C dX12_unset_3 ?_
  refine r_iload_n (i := 2) C dX12_unset_4 rfl rfl ?_
  refine r_iadd C dX12_unset_5 ?_
  refine bnd_elim (P := fun (z : Int32) => wr X 0 0 6 [.ref m, .int a0, .int a1, .int a2, (.long 0), (.long 0), (.long 0)] [.int z] (pm m h S)) E (fun p1 E => ?_)
  refine r_istore (i := 4) C dX12_unset_6 (Nat.le_of_ble_eq_true rfl) ?_
  refine r_iload_n (i := 3) C dX12_unset_8 rfl rfl ?_
  have J5 : ∀ (u : Unit), wr X 0 0 28 [.ref m, .int a0, .int a1, .int a2, .int p1, (.long 0), (.long 0)] [.int (if a2 = (0 : Int32) then (1 : Int32) else if a2 = (2 : Int32) then if a1 < (8 : Int32) then (0 : Int32) else (1 : Int32) else (0 : Int32))] (pm m h S) := by
    intro u
    refine bnd_elim (P := fun (z : Int32) => wr X 0 0 28 [.ref m, .int a0, .int a1, .int a2, .int p1, (.long 0), (.long 0)] [.int z] (pm m h S)) E (fun p6 E => ?_)
    refine r_istore (i := 5) C dX12_unset_28 (Nat.le_of_ble_eq_true rfl) ?_
    refine r_iload (i := 5) C dX12_unset_30 rfl ?_
    obtain ⟨g10, E⟩ := gd_elim E
    have J11 : ∀ (u : Unit), wr X 0 0 50 [.ref m, .int a0, .int a1, .int a2, .int p1, .int p6, (.long 0)] [.int (if p6 = (0 : Int32) then (0 : Int32) else if (S 5 (tn a0)) = ((-1) : Int32) then (0 : Int32) else (1 : Int32))] (pm m h S) := by
      intro u
      refine bnd_elim (P := fun (z : Int32) => wr X 0 0 50 [.ref m, .int a0, .int a1, .int a2, .int p1, .int p6, (.long 0)] [.int z] (pm m h S)) E (fun p12 E => ?_)
      refine r_istore (i := 6) C dX12_unset_50 (Nat.le_of_ble_eq_true rfl) ?_
      refine r_aload_n (i := 0) C dX12_unset_52 rfl rfl (by first | rfl | exact isR_rf _) ?_
      refine rm_ref (k := 23) C f_X12_75 dX12_unset_53 rfl rfl hM rfl ?_
      refine r_iload (i := 4) C dX12_unset_56 rfl ?_
      refine r_iload (i := 6) C dX12_unset_58 rfl ?_
      obtain ⟨g16, E⟩ := gd_elim E
      have J17 : ∀ (u : Unit), wr X 0 0 86 [.ref m, .int a0, .int a1, .int a2, .int p1, .int p6, .int p12] [.int (if p12 = (0 : Int32) then m_initial a1 else S 23 (tn (((14 : Int32) * (S 5 (tn a0))) + a1))), .int p1, .ref (m + mad 23)] (pm m h S) := by
        intro u
        refine bnd_elim (P := fun (z : Int32) => wr X 0 0 86 [.ref m, .int a0, .int a1, .int a2, .int p1, .int p6, .int p12] [.int z, .int p1, .ref (m + mad 23)] (pm m h S)) E (fun p18 E => ?_)
        obtain ⟨g20, E⟩ := gd_elim E
        refine rm_iast (k := 23) C dX12_unset_86 hM rfl rfl g20 ?_
        refine bnd_elim (P := fun (Z : MM) => wr X 0 0 87 [.ref m, .int a0, .int a1, .int a2, .int p1, .int p6, .int p12] [] (pm m h Z)) E (fun S19 E => ?_)
        refine r_aload_n (i := 0) C dX12_unset_87 rfl rfl (by first | rfl | exact isR_rf _) ?_
        refine rm_ref (k := 24) C f_X12_78 dX12_unset_88 rfl rfl hM rfl ?_
        refine r_iload (i := 4) C dX12_unset_91 rfl ?_
        refine r_iload (i := 6) C dX12_unset_93 rfl ?_
        obtain ⟨g24, E⟩ := gd_elim E
        have J25 : ∀ (u : Unit), wr X 0 0 118 [.ref m, .int a0, .int a1, .int a2, .int p1, .int p6, .int p12] [.int (if p12 = (0 : Int32) then ((-1) : Int32) else S19 24 (tn (((14 : Int32) * (S19 5 (tn a0))) + a1))), .int p1, .ref (m + mad 24)] (pm m h S19) := by
          intro u
          refine bnd_elim (P := fun (z : Int32) => wr X 0 0 118 [.ref m, .int a0, .int a1, .int a2, .int p1, .int p6, .int p12] [.int z, .int p1, .ref (m + mad 24)] (pm m h S19)) E (fun p26 E => ?_)
          refine rm_iast (k := 24) C dX12_unset_118 hM rfl rfl g20 ?_
          refine bnd_elim (P := fun (Z : MM) => wr X 0 0 119 [.ref m, .int a0, .int a1, .int a2, .int p1, .int p6, .int p12] [] (pm m h Z)) E (fun S27 E => ?_)
          obtain rfl := Option.some.inj E
          exact r_vret C E0 dX12_unset_119 rfl (Nat.le_refl _) (Nat.le_refl _)
        refine r_if_eq (tgt := 117) C dX12_unset_95 (by decide) (fun c_95_k21 => ?_) (fun c_95_k21 => ?_)
        · refine r_iconst (v := (-1)) C dX12_unset_117 (by decide) ?_
          first | exact (J25  ()) | (simp only [if_pos c_95_k21] at J25; exact (J25  ()))
        · refine r_aload_n (i := 0) C dX12_unset_98 rfl rfl (by first | rfl | exact isR_rf _) ?_
          refine rm_ref (k := 24) C f_X12_78 dX12_unset_99 rfl rfl hM rfl ?_
          refine r_bipush (v := 14) C dX12_unset_102 (by decide) ?_
          refine r_aload_n (i := 0) C dX12_unset_104 rfl rfl (by first | rfl | exact isR_rf _) ?_
          refine rm_ref (k := 5) C f_X12_23 dX12_unset_105 rfl rfl hM rfl ?_
          refine r_iload_n (i := 1) C dX12_unset_108 rfl rfl ?_
          refine rm_iald (k := 5) C dX12_unset_109 hM rfl rfl (g24 c_95_k21).1 ?_
          refine r_imul C dX12_unset_110 ?_
          refine r_iload_n (i := 2) C dX12_unset_111 rfl rfl ?_
          refine r_iadd C dX12_unset_112 ?_
          refine rm_iald (k := 24) C dX12_unset_113 hM rfl rfl (g24 c_95_k21).2 ?_
          refine r_goto (tgt := 118) C dX12_unset_114 (by decide) ?_
          first | exact (J25  ()) | (simp only [if_neg c_95_k21] at J25; exact (J25  ()))
      refine r_if_eq (tgt := 82) C dX12_unset_60 (by decide) (fun c_60_k13 => ?_) (fun c_60_k13 => ?_)
      · refine r_iload_n (i := 2) C dX12_unset_82 rfl rfl ?_
        refine r_callSs C s_X12_203 (z_initial _ _) dX12_unset_83 (As := [_]) rfl rfl rfl (by first | exact Nat.le_refl _ | exact Nat.le_of_ble_eq_true rfl | omega) (Nat.le_of_ble_eq_true rfl) (by first | exact Nat.le_refl _ | exact Nat.le_of_ble_eq_true rfl | omega) (by first | exact Nat.le_refl _ | exact Nat.le_of_ble_eq_true rfl | omega) ?_
        first | exact (J17  ()) | (simp only [if_pos c_60_k13] at J17; exact (J17  ()))
      · refine r_aload_n (i := 0) C dX12_unset_63 rfl rfl (by first | rfl | exact isR_rf _) ?_
        refine rm_ref (k := 23) C f_X12_75 dX12_unset_64 rfl rfl hM rfl ?_
        refine r_bipush (v := 14) C dX12_unset_67 (by decide) ?_
        refine r_aload_n (i := 0) C dX12_unset_69 rfl rfl (by first | rfl | exact isR_rf _) ?_
        refine rm_ref (k := 5) C f_X12_23 dX12_unset_70 rfl rfl hM rfl ?_
        refine r_iload_n (i := 1) C dX12_unset_73 rfl rfl ?_
        refine rm_iald (k := 5) C dX12_unset_74 hM rfl rfl (g16 c_60_k13).1 ?_
        refine r_imul C dX12_unset_75 ?_
        refine r_iload_n (i := 2) C dX12_unset_76 rfl rfl ?_
        refine r_iadd C dX12_unset_77 ?_
        refine rm_iald (k := 23) C dX12_unset_78 hM rfl rfl (g16 c_60_k13).2 ?_
        refine r_goto (tgt := 86) C dX12_unset_79 (by decide) ?_
        first | exact (J17  ()) | (simp only [if_neg c_60_k13] at J17; exact (J17  ()))
    refine r_if_eq (tgt := 49) C dX12_unset_32 (by decide) (fun c_32_k7 => ?_) (fun c_32_k7 => ?_)
    · refine r_iconst (v := 0) C dX12_unset_49 (by decide) ?_
      first | exact (J11  ()) | (simp only [if_pos c_32_k7] at J11; exact (J11  ()))
    · refine r_aload_n (i := 0) C dX12_unset_35 rfl rfl (by first | rfl | exact isR_rf _) ?_
      refine rm_ref (k := 5) C f_X12_23 dX12_unset_36 rfl rfl hM rfl ?_
      refine r_iload_n (i := 1) C dX12_unset_39 rfl rfl ?_
      refine rm_iald (k := 5) C dX12_unset_40 hM rfl rfl (g10 c_32_k7) ?_
      refine r_iconst (v := (-1)) C dX12_unset_41 (by decide) ?_
      refine r_ic_eq (tgt := 49) C dX12_unset_42 (by decide) (fun c_42_k9 => ?_) (fun c_42_k9 => ?_)
      · refine r_iconst (v := 0) C dX12_unset_49 (by decide) ?_
        first | exact (J11  ()) | (simp only [if_neg c_32_k7, if_pos c_42_k9] at J11; exact (J11  ()))
      · refine r_iconst (v := 1) C dX12_unset_45 (by decide) ?_
        refine r_goto (tgt := 50) C dX12_unset_46 (by decide) ?_
        first | exact (J11  ()) | (simp only [if_neg c_32_k7, if_neg c_42_k9] at J11; exact (J11  ()))
  refine r_if_eq (tgt := 23) C dX12_unset_9 (by decide) (fun c_9_k2 => ?_) (fun c_9_k2 => ?_)
  · refine r_iconst (v := 1) C dX12_unset_23 (by decide) ?_
    refine r_goto (tgt := 28) C dX12_unset_24 (by decide) ?_
    first | exact (J5  ()) | (simp only [if_pos c_9_k2] at J5; exact (J5  ()))
  · refine r_iload_n (i := 3) C dX12_unset_12 rfl rfl ?_
    refine r_iconst (v := 2) C dX12_unset_13 (by decide) ?_
    refine r_ic_ne (tgt := 27) C dX12_unset_14 (by decide) (fun c_14_k3 => ?_) (fun c_14_k3 => ?_)
    · refine r_iconst (v := 0) C dX12_unset_27 (by decide) ?_
      first | exact (J5  ()) | (simp only [if_neg c_9_k2, if_neg c_14_k3] at J5; exact (J5  ()))
    · refine r_iload_n (i := 2) C dX12_unset_17 rfl rfl ?_
      refine r_bipush (v := 8) C dX12_unset_18 (by decide) ?_
      refine r_ic_lt (tgt := 27) C dX12_unset_20 (by decide) (fun c_20_k4 => ?_) (fun c_20_k4 => ?_)
      · refine r_iconst (v := 0) C dX12_unset_27 (by decide) ?_
        first | exact (J5  ()) | (simp only [if_neg c_9_k2, if_pos c_14_k3, if_pos c_20_k4] at J5; exact (J5  ()))
      · refine r_iconst (v := 1) C dX12_unset_23 (by decide) ?_
        refine r_goto (tgt := 28) C dX12_unset_24 (by decide) ?_
        first | exact (J5  ()) | (simp only [if_neg c_9_k2, if_pos c_14_k3, if_neg c_20_k4] at J5; exact (J5  ()))

def m_takesValue (S : MM) (a0 : Int32) (a1 : Int32) (a2 : Int32) : Option (MM) := bnd (((14 : Int32) * a0) + a1) fun p1 => (bnd (if a2 = ((-1) : Int32) then (0 : Int32) else a2) fun p4 => bnd (((14 : Int32) * p4) + a1) fun p5 => (if a2 = ((-1) : Int32) then (bd (m_unset S a0 a1 (2 : Int32)) fun S32 => (some S32)) else (if ix p5 224 then if (S 20 (tn p5)) = (1 : Int32) then (if ix p1 336 then bnd (u2 S 23 (tn p1) (S 21 (tn p5))) fun S29 => (bnd (u2 S29 24 (tn p1) a2) fun S31 => (some S31)) else none) else (if (S 20 (tn p5)) = (2 : Int32) then (bd (m_unset S a0 a1 (S 21 (tn p5))) fun S28 => (some S28)) else (if ix ((((14 : Int32) * a0) + (10 : Int32)) + (S 21 (tn p5))) 336 then bnd (S 23 (tn ((((14 : Int32) * a0) + (10 : Int32)) + (S 21 (tn p5))))) fun p13 => (bnd (if p13 = ((-1) : Int32) then (0 : Int32) else if (m_canBe a1 p13) = (0 : Int32) then (0 : Int32) else (1 : Int32)) fun p17 => (bnd (if p17 = (0 : Int32) then S 22 (tn p5) else p13) fun p20 => if ix p1 336 then bnd (u2 S 23 (tn p1) p20) fun S21 => (bnd (u2 S21 24 (tn p1) a2) fun S23 => (if p17 = (0 : Int32) then (if (S23 22 (tn p5)) = ((-1) : Int32) then (bd (m_unset S23 a0 a1 (2 : Int32)) fun S27 => (some S27)) else (some S23)) else (some S23))) else none)) else none)) else none)))
theorem z_takesValue (l : Launch) (G : Gl) {m : Nat} {h : Hp} (hM : MW m h) {S : MM} {a0 a1 a2 : Int32} {r : MM} (E : m_takesValue S a0 a1 a2 = some r) : MRw l G yX12_takesValue (.code yX12_takesValue cX12_takesValue 8 none) 2 0 0 [.ref m, .int a0, .int a1, .int a2] (pm m h S) (.inl (none, pm m h r)) := by
  refine mr_of (by decide +kernel) (Nat.le_of_ble_eq_true rfl) (ct4 rfl rfl rfl rfl) (fun X hG hl C E0 => ?_)
  subst hG hl
  rw [m_takesValue] at E
  refine r_bipush (v := 14) C dX12_takesValue_0 (by decide) ?_
  refine r_iload_n (i := 1) C dX12_takesValue_2 rfl rfl ?_
  refine r_imul C dX12_takesValue_3 ?_
  refine r_iload_n (i := 2) C dX12_takesValue_4 rfl rfl ?_
  refine r_iadd C dX12_takesValue_5 ?_
  refine bnd_elim (P := fun (z : Int32) => wr X 0 0 6 [.ref m, .int a0, .int a1, .int a2, (.long 0), (.long 0), (.long 0), (.long 0)] [.int z] (pm m h S)) E (fun p1 E => ?_)
  refine r_istore (i := 4) C dX12_takesValue_6 (Nat.le_of_ble_eq_true rfl) ?_
  refine r_bipush (v := 14) C dX12_takesValue_8 (by decide) ?_
  refine r_iload_n (i := 3) C dX12_takesValue_10 rfl rfl ?_
  refine r_iconst (v := (-1)) C dX12_takesValue_11 (by decide) ?_
  have J3 : ∀ (u : Unit), wr X 0 0 20 [.ref m, .int a0, .int a1, .int a2, .int p1, (.long 0), (.long 0), (.long 0)] [.int (if a2 = ((-1) : Int32) then (0 : Int32) else a2), .int (14 : Int32)] (pm m h S) := by
    intro u
    refine bnd_elim (P := fun (z : Int32) => wr X 0 0 20 [.ref m, .int a0, .int a1, .int a2, .int p1, (.long 0), (.long 0), (.long 0)] [.int z, .int (14 : Int32)] (pm m h S)) E (fun p4 E => ?_)
    refine r_imul C dX12_takesValue_20 ?_
    refine r_iload_n (i := 2) C dX12_takesValue_21 rfl rfl ?_
    refine r_iadd C dX12_takesValue_22 ?_
    refine bnd_elim (P := fun (z : Int32) => wr X 0 0 23 [.ref m, .int a0, .int a1, .int a2, .int p1, (.long 0), (.long 0), (.long 0)] [.int z] (pm m h S)) E (fun p5 E => ?_)
    refine r_istore (i := 5) C dX12_takesValue_23 (Nat.le_of_ble_eq_true rfl) ?_
    refine r_iload_n (i := 3) C dX12_takesValue_25 rfl rfl ?_
    refine r_iconst (v := (-1)) C dX12_takesValue_26 (by decide) ?_
    refine r_ic_ne (tgt := 40) C dX12_takesValue_27 (by decide) (fun c_27 => ?_) (fun c_27 => ?_)
    · have E := ite_f E c_27
      refine r_aload_n (i := 0) C dX12_takesValue_40 rfl rfl (by first | rfl | exact isR_rf _) ?_
      refine rm_ref (k := 20) C f_X12_66 dX12_takesValue_41 rfl rfl hM rfl ?_
      refine r_iload (i := 5) C dX12_takesValue_44 rfl ?_
      obtain ⟨g8, E⟩ := gd_elim E
      refine rm_iald (k := 20) C dX12_takesValue_46 hM rfl rfl g8 ?_
      refine r_iconst (v := 1) C dX12_takesValue_47 (by decide) ?_
      refine r_ic_ne (tgt := 76) C dX12_takesValue_48 (by decide) (fun c_48 => ?_) (fun c_48 => ?_)
      · have E := ite_f E c_48
        refine r_aload_n (i := 0) C dX12_takesValue_76 rfl rfl (by first | rfl | exact isR_rf _) ?_
        refine rm_ref (k := 20) C f_X12_66 dX12_takesValue_77 rfl rfl hM rfl ?_
        refine r_iload (i := 5) C dX12_takesValue_80 rfl ?_
        refine rm_iald (k := 20) C dX12_takesValue_82 hM rfl rfl g8 ?_
        refine r_iconst (v := 2) C dX12_takesValue_83 (by decide) ?_
        refine r_ic_ne (tgt := 103) C dX12_takesValue_84 (by decide) (fun c_84 => ?_) (fun c_84 => ?_)
        · have E := ite_f E c_84
          refine r_aload_n (i := 0) C dX12_takesValue_103 rfl rfl (by first | rfl | exact isR_rf _) ?_
          refine rm_ref (k := 23) C f_X12_75 dX12_takesValue_104 rfl rfl hM rfl ?_
          refine r_bipush (v := 14) C dX12_takesValue_107 (by decide) ?_
          refine r_iload_n (i := 1) C dX12_takesValue_109 rfl rfl ?_
          refine r_imul C dX12_takesValue_110 ?_
          refine r_bipush (v := 10) C dX12_takesValue_111 (by decide) ?_
          refine r_iadd C dX12_takesValue_113 ?_
          refine r_aload_n (i := 0) C dX12_takesValue_114 rfl rfl (by first | rfl | exact isR_rf _) ?_
          refine rm_ref (k := 21) C f_X12_69 dX12_takesValue_115 rfl rfl hM rfl ?_
          refine r_iload (i := 5) C dX12_takesValue_118 rfl ?_
          refine rm_iald (k := 21) C dX12_takesValue_120 hM rfl rfl g8 ?_
          refine r_iadd C dX12_takesValue_121 ?_
          obtain ⟨g12, E⟩ := gd_elim E
          refine rm_iald (k := 23) C dX12_takesValue_122 hM rfl rfl g12 ?_
          refine bnd_elim (P := fun (z : Int32) => wr X 0 0 123 [.ref m, .int a0, .int a1, .int a2, .int p1, .int p5, (.long 0), (.long 0)] [.int z] (pm m h S)) E (fun p13 E => ?_)
          refine r_istore (i := 6) C dX12_takesValue_123 (Nat.le_of_ble_eq_true rfl) ?_
          refine r_iload (i := 6) C dX12_takesValue_125 rfl ?_
          refine r_iconst (v := (-1)) C dX12_takesValue_127 (by decide) ?_
          have J16 : ∀ (u : Unit), wr X 0 0 145 [.ref m, .int a0, .int a1, .int a2, .int p1, .int p5, .int p13, (.long 0)] [.int (if p13 = ((-1) : Int32) then (0 : Int32) else if (m_canBe a1 p13) = (0 : Int32) then (0 : Int32) else (1 : Int32))] (pm m h S) := by
            intro u
            refine bnd_elim (P := fun (z : Int32) => wr X 0 0 145 [.ref m, .int a0, .int a1, .int a2, .int p1, .int p5, .int p13, (.long 0)] [.int z] (pm m h S)) E (fun p17 E => ?_)
            refine r_istore (i := 7) C dX12_takesValue_145 (Nat.le_of_ble_eq_true rfl) ?_
            refine r_aload_n (i := 0) C dX12_takesValue_147 rfl rfl (by first | rfl | exact isR_rf _) ?_
            refine rm_ref (k := 23) C f_X12_75 dX12_takesValue_148 rfl rfl hM rfl ?_
            refine r_iload (i := 4) C dX12_takesValue_151 rfl ?_
            refine r_iload (i := 7) C dX12_takesValue_153 rfl ?_
            have J19 : ∀ (u : Unit), wr X 0 0 170 [.ref m, .int a0, .int a1, .int a2, .int p1, .int p5, .int p13, .int p17] [.int (if p17 = (0 : Int32) then S 22 (tn p5) else p13), .int p1, .ref (m + mad 23)] (pm m h S) := by
              intro u
              refine bnd_elim (P := fun (z : Int32) => wr X 0 0 170 [.ref m, .int a0, .int a1, .int a2, .int p1, .int p5, .int p13, .int p17] [.int z, .int p1, .ref (m + mad 23)] (pm m h S)) E (fun p20 E => ?_)
              obtain ⟨g22, E⟩ := gd_elim E
              refine rm_iast (k := 23) C dX12_takesValue_170 hM rfl rfl g22 ?_
              refine bnd_elim (P := fun (Z : MM) => wr X 0 0 171 [.ref m, .int a0, .int a1, .int a2, .int p1, .int p5, .int p13, .int p17] [] (pm m h Z)) E (fun S21 E => ?_)
              refine r_aload_n (i := 0) C dX12_takesValue_171 rfl rfl (by first | rfl | exact isR_rf _) ?_
              refine rm_ref (k := 24) C f_X12_78 dX12_takesValue_172 rfl rfl hM rfl ?_
              refine r_iload (i := 4) C dX12_takesValue_175 rfl ?_
              refine r_iload_n (i := 3) C dX12_takesValue_177 rfl rfl ?_
              refine rm_iast (k := 24) C dX12_takesValue_178 hM rfl rfl g22 ?_
              refine bnd_elim (P := fun (Z : MM) => wr X 0 0 179 [.ref m, .int a0, .int a1, .int a2, .int p1, .int p5, .int p13, .int p17] [] (pm m h Z)) E (fun S23 E => ?_)
              refine r_iload (i := 7) C dX12_takesValue_179 rfl ?_
              refine r_if_ne (tgt := 202) C dX12_takesValue_181 (by decide) (fun c_181 => ?_) (fun c_181 => ?_)
              · have E := ite_f E c_181
                obtain rfl := Option.some.inj E
                exact r_vret C E0 dX12_takesValue_202 rfl (Nat.le_refl _) (Nat.le_refl _)
              · have E := ite_t E c_181
                refine r_aload_n (i := 0) C dX12_takesValue_184 rfl rfl (by first | rfl | exact isR_rf _) ?_
                refine rm_ref (k := 22) C f_X12_72 dX12_takesValue_185 rfl rfl hM rfl ?_
                refine r_iload (i := 5) C dX12_takesValue_188 rfl ?_
                refine rm_iald (k := 22) C dX12_takesValue_190 hM rfl rfl g8 ?_
                refine r_iconst (v := (-1)) C dX12_takesValue_191 (by decide) ?_
                refine r_ic_ne (tgt := 202) C dX12_takesValue_192 (by decide) (fun c_192 => ?_) (fun c_192 => ?_)
                · have E := ite_f E c_192
                  obtain rfl := Option.some.inj E
                  exact r_vret C E0 dX12_takesValue_202 rfl (Nat.le_refl _) (Nat.le_refl _)
                · have E := ite_t E c_192
                  refine r_aload_n (i := 0) C dX12_takesValue_195 rfl rfl (by first | rfl | exact isR_rf _) ?_
                  refine r_iload_n (i := 1) C dX12_takesValue_196 rfl rfl ?_
                  refine r_iload_n (i := 2) C dX12_takesValue_197 rfl rfl ?_
                  refine r_iconst (v := 2) C dX12_takesValue_198 (by decide) ?_
                  obtain ⟨S27, q, E⟩ := bd_elim E
                  refine r_callVn C v_X12_206 (z_unset _ _ hM q) dX12_takesValue_199 hM.1 (ci := 10) (by decide) rfl rfl (As := [_, _, _]) rfl rfl rfl (by first | exact Nat.le_refl _ | exact Nat.le_of_ble_eq_true rfl | omega) (Nat.le_of_ble_eq_true rfl) (by first | exact Nat.le_refl _ | exact Nat.le_of_ble_eq_true rfl | omega) (by first | exact Nat.le_refl _ | exact Nat.le_of_ble_eq_true rfl | omega) ?_
                  obtain rfl := Option.some.inj E
                  exact r_vret C E0 dX12_takesValue_202 rfl (Nat.le_refl _) (Nat.le_refl _)
            refine r_if_eq (tgt := 163) C dX12_takesValue_155 (by decide) (fun c_155_k18 => ?_) (fun c_155_k18 => ?_)
            · refine r_aload_n (i := 0) C dX12_takesValue_163 rfl rfl (by first | rfl | exact isR_rf _) ?_
              refine rm_ref (k := 22) C f_X12_72 dX12_takesValue_164 rfl rfl hM rfl ?_
              refine r_iload (i := 5) C dX12_takesValue_167 rfl ?_
              refine rm_iald (k := 22) C dX12_takesValue_169 hM rfl rfl g8 ?_
              first | exact (J19  ()) | (simp only [if_pos c_155_k18] at J19; exact (J19  ()))
            · refine r_iload (i := 6) C dX12_takesValue_158 rfl ?_
              refine r_goto (tgt := 170) C dX12_takesValue_160 (by decide) ?_
              first | exact (J19  ()) | (simp only [if_neg c_155_k18] at J19; exact (J19  ()))
          refine r_ic_eq (tgt := 144) C dX12_takesValue_128 (by decide) (fun c_128_k14 => ?_) (fun c_128_k14 => ?_)
          · refine r_iconst (v := 0) C dX12_takesValue_144 (by decide) ?_
            first | exact (J16  ()) | (simp only [if_pos c_128_k14] at J16; exact (J16  ()))
          · refine r_iload_n (i := 2) C dX12_takesValue_131 rfl rfl ?_
            refine r_iload (i := 6) C dX12_takesValue_132 rfl ?_
            refine r_callSs C s_X12_184 (z_canBe _ _) dX12_takesValue_134 (As := [_, _]) rfl rfl rfl (by first | exact Nat.le_refl _ | exact Nat.le_of_ble_eq_true rfl | omega) (Nat.le_of_ble_eq_true rfl) (by first | exact Nat.le_refl _ | exact Nat.le_of_ble_eq_true rfl | omega) (by first | exact Nat.le_refl _ | exact Nat.le_of_ble_eq_true rfl | omega) ?_
            refine r_if_eq (tgt := 144) C dX12_takesValue_137 (by decide) (fun c_137_k15 => ?_) (fun c_137_k15 => ?_)
            · refine r_iconst (v := 0) C dX12_takesValue_144 (by decide) ?_
              first | exact (J16  ()) | (simp only [if_neg c_128_k14, if_pos c_137_k15] at J16; exact (J16  ()))
            · refine r_iconst (v := 1) C dX12_takesValue_140 (by decide) ?_
              refine r_goto (tgt := 145) C dX12_takesValue_141 (by decide) ?_
              first | exact (J16  ()) | (simp only [if_neg c_128_k14, if_neg c_137_k15] at J16; exact (J16  ()))
        · have E := ite_t E c_84
          refine r_aload_n (i := 0) C dX12_takesValue_87 rfl rfl (by first | rfl | exact isR_rf _) ?_
          refine r_iload_n (i := 1) C dX12_takesValue_88 rfl rfl ?_
          refine r_iload_n (i := 2) C dX12_takesValue_89 rfl rfl ?_
          refine r_aload_n (i := 0) C dX12_takesValue_90 rfl rfl (by first | rfl | exact isR_rf _) ?_
          refine rm_ref (k := 21) C f_X12_69 dX12_takesValue_91 rfl rfl hM rfl ?_
          refine r_iload (i := 5) C dX12_takesValue_94 rfl ?_
          refine rm_iald (k := 21) C dX12_takesValue_96 hM rfl rfl g8 ?_
          obtain ⟨S28, q, E⟩ := bd_elim E
          refine r_callVn C v_X12_206 (z_unset _ _ hM q) dX12_takesValue_97 hM.1 (ci := 10) (by decide) rfl rfl (As := [_, _, _]) rfl rfl rfl (by first | exact Nat.le_refl _ | exact Nat.le_of_ble_eq_true rfl | omega) (Nat.le_of_ble_eq_true rfl) (by first | exact Nat.le_refl _ | exact Nat.le_of_ble_eq_true rfl | omega) (by first | exact Nat.le_refl _ | exact Nat.le_of_ble_eq_true rfl | omega) ?_
          refine r_goto (tgt := 202) C dX12_takesValue_100 (by decide) ?_
          obtain rfl := Option.some.inj E
          exact r_vret C E0 dX12_takesValue_202 rfl (Nat.le_refl _) (Nat.le_refl _)
      · have E := ite_t E c_48
        refine r_aload_n (i := 0) C dX12_takesValue_51 rfl rfl (by first | rfl | exact isR_rf _) ?_
        refine rm_ref (k := 23) C f_X12_75 dX12_takesValue_52 rfl rfl hM rfl ?_
        refine r_iload (i := 4) C dX12_takesValue_55 rfl ?_
        refine r_aload_n (i := 0) C dX12_takesValue_57 rfl rfl (by first | rfl | exact isR_rf _) ?_
        refine rm_ref (k := 21) C f_X12_69 dX12_takesValue_58 rfl rfl hM rfl ?_
        refine r_iload (i := 5) C dX12_takesValue_61 rfl ?_
        refine rm_iald (k := 21) C dX12_takesValue_63 hM rfl rfl g8 ?_
        obtain ⟨g30, E⟩ := gd_elim E
        refine rm_iast (k := 23) C dX12_takesValue_64 hM rfl rfl g30 ?_
        refine bnd_elim (P := fun (Z : MM) => wr X 0 0 65 [.ref m, .int a0, .int a1, .int a2, .int p1, .int p5, (.long 0), (.long 0)] [] (pm m h Z)) E (fun S29 E => ?_)
        refine r_aload_n (i := 0) C dX12_takesValue_65 rfl rfl (by first | rfl | exact isR_rf _) ?_
        refine rm_ref (k := 24) C f_X12_78 dX12_takesValue_66 rfl rfl hM rfl ?_
        refine r_iload (i := 4) C dX12_takesValue_69 rfl ?_
        refine r_iload_n (i := 3) C dX12_takesValue_71 rfl rfl ?_
        refine rm_iast (k := 24) C dX12_takesValue_72 hM rfl rfl g30 ?_
        refine bnd_elim (P := fun (Z : MM) => wr X 0 0 73 [.ref m, .int a0, .int a1, .int a2, .int p1, .int p5, (.long 0), (.long 0)] [] (pm m h Z)) E (fun S31 E => ?_)
        refine r_goto (tgt := 202) C dX12_takesValue_73 (by decide) ?_
        obtain rfl := Option.some.inj E
        exact r_vret C E0 dX12_takesValue_202 rfl (Nat.le_refl _) (Nat.le_refl _)
    · have E := ite_t E c_27
      refine r_aload_n (i := 0) C dX12_takesValue_30 rfl rfl (by first | rfl | exact isR_rf _) ?_
      refine r_iload_n (i := 1) C dX12_takesValue_31 rfl rfl ?_
      refine r_iload_n (i := 2) C dX12_takesValue_32 rfl rfl ?_
      refine r_iconst (v := 2) C dX12_takesValue_33 (by decide) ?_
      obtain ⟨S32, q, E⟩ := bd_elim E
      refine r_callVn C v_X12_206 (z_unset _ _ hM q) dX12_takesValue_34 hM.1 (ci := 10) (by decide) rfl rfl (As := [_, _, _]) rfl rfl rfl (by first | exact Nat.le_refl _ | exact Nat.le_of_ble_eq_true rfl | omega) (Nat.le_of_ble_eq_true rfl) (by first | exact Nat.le_refl _ | exact Nat.le_of_ble_eq_true rfl | omega) (by first | exact Nat.le_refl _ | exact Nat.le_of_ble_eq_true rfl | omega) ?_
      refine r_goto (tgt := 202) C dX12_takesValue_37 (by decide) ?_
      obtain rfl := Option.some.inj E
      exact r_vret C E0 dX12_takesValue_202 rfl (Nat.le_refl _) (Nat.le_refl _)
  refine r_ic_ne (tgt := 19) C dX12_takesValue_12 (by decide) (fun c_12_k2 => ?_) (fun c_12_k2 => ?_)
  · refine r_iload_n (i := 3) C dX12_takesValue_19 rfl rfl ?_
    first | exact (J3  ()) | (simp only [if_neg c_12_k2] at J3; exact (J3  ()))
  · refine r_iconst (v := 0) C dX12_takesValue_15 (by decide) ?_
    refine r_goto (tgt := 20) C dX12_takesValue_16 (by decide) ?_
    first | exact (J3  ()) | (simp only [if_pos c_12_k2] at J3; exact (J3  ()))

def m_needs (S : MM) (a0 : Int32) : Option (Int32) := if ix a0 4 then bnd (S 37 (tn a0)) fun p6 => (bnd (if p6 = ((-1) : Int32) then (0 : Int32) else p6) fun p9 => bnd ((((14 : Int32) * p9) + (10 : Int32)) + a0) fun p10 => (if (¬ (p6 = ((-1) : Int32)) → ix p10 224) then some (if p6 = ((-1) : Int32) then ((-1) : Int32) else if (S 20 (tn p10)) = (3 : Int32) then S 21 (tn p10) else ((-1) : Int32)) else none)) else none
theorem z_needs (l : Launch) (G : Gl) {m : Nat} {h : Hp} (hM : MW m h) {S : MM} {a0 : Int32} {r : Int32} (E : m_needs S a0 = some r) : MRw l G yX12_needs (.code yX12_needs cX12_needs 4 (Option.some Jvm.ClassFile.FieldType.int)) 0 0 0 [.ref m, .int a0] (pm m h S) (.inl (some (.int r), (pm m h S))) := by
  refine mr_of (by decide +kernel) (Nat.le_of_ble_eq_true rfl) (ct2 rfl rfl) (fun X hG hl C E0 => ?_)
  subst hG hl
  rw [m_needs] at E
  refine r_aload_n (i := 0) C dX12_needs_0 rfl rfl (by first | rfl | exact isR_rf _) ?_
  refine rm_ref (k := 37) C f_X12_111 dX12_needs_1 rfl rfl hM rfl ?_
  refine r_iload_n (i := 1) C dX12_needs_4 rfl rfl ?_
  obtain ⟨g5, E⟩ := gd_elim E
  refine rm_iald (k := 37) C dX12_needs_5 hM rfl rfl g5 ?_
  refine bnd_elim (P := fun (z : Int32) => wr X 0 0 6 [.ref m, .int a0, (.long 0), (.long 0)] [.int z] (pm m h S)) E (fun p6 E => ?_)
  refine r_istore_n (i := 2) C dX12_needs_6 rfl (Nat.le_of_ble_eq_true rfl) ?_
  refine r_bipush (v := 14) C dX12_needs_7 (by decide) ?_
  refine r_iload_n (i := 2) C dX12_needs_9 rfl rfl ?_
  refine r_iconst (v := (-1)) C dX12_needs_10 (by decide) ?_
  have J8 : ∀ (u : Unit), wr X 0 0 19 [.ref m, .int a0, .int p6, (.long 0)] [.int (if p6 = ((-1) : Int32) then (0 : Int32) else p6), .int (14 : Int32)] (pm m h S) := by
    intro u
    refine bnd_elim (P := fun (z : Int32) => wr X 0 0 19 [.ref m, .int a0, .int p6, (.long 0)] [.int z, .int (14 : Int32)] (pm m h S)) E (fun p9 E => ?_)
    refine r_imul C dX12_needs_19 ?_
    refine r_bipush (v := 10) C dX12_needs_20 (by decide) ?_
    refine r_iadd C dX12_needs_22 ?_
    refine r_iload_n (i := 1) C dX12_needs_23 rfl rfl ?_
    refine r_iadd C dX12_needs_24 ?_
    refine bnd_elim (P := fun (z : Int32) => wr X 0 0 25 [.ref m, .int a0, .int p6, (.long 0)] [.int z] (pm m h S)) E (fun p10 E => ?_)
    refine r_istore_n (i := 3) C dX12_needs_25 rfl (Nat.le_of_ble_eq_true rfl) ?_
    refine r_iload_n (i := 2) C dX12_needs_26 rfl rfl ?_
    refine r_iconst (v := (-1)) C dX12_needs_27 (by decide) ?_
    obtain ⟨g14, E⟩ := gd_elim E
    have J15 : ∀ (u : Unit), wr X 0 0 51 [.ref m, .int a0, .int p6, .int p10] [.int (if p6 = ((-1) : Int32) then ((-1) : Int32) else if (S 20 (tn p10)) = (3 : Int32) then S 21 (tn p10) else ((-1) : Int32))] (pm m h S) := by
      intro u
      obtain rfl := Option.some.inj E
      exact r_iret C E0 dX12_needs_51 rfl rfl (Nat.le_refl _) (Nat.le_refl _)
    refine r_ic_eq (tgt := 50) C dX12_needs_28 (by decide) (fun c_28_k11 => ?_) (fun c_28_k11 => ?_)
    · refine r_iconst (v := (-1)) C dX12_needs_50 (by decide) ?_
      first | exact (J15  ()) | (simp only [if_pos c_28_k11] at J15; exact (J15  ()))
    · refine r_aload_n (i := 0) C dX12_needs_31 rfl rfl (by first | rfl | exact isR_rf _) ?_
      refine rm_ref (k := 20) C f_X12_66 dX12_needs_32 rfl rfl hM rfl ?_
      refine r_iload_n (i := 3) C dX12_needs_35 rfl rfl ?_
      refine rm_iald (k := 20) C dX12_needs_36 hM rfl rfl (g14 c_28_k11) ?_
      refine r_iconst (v := 3) C dX12_needs_37 (by decide) ?_
      refine r_ic_ne (tgt := 50) C dX12_needs_38 (by decide) (fun c_38_k13 => ?_) (fun c_38_k13 => ?_)
      · refine r_iconst (v := (-1)) C dX12_needs_50 (by decide) ?_
        first | exact (J15  ()) | (simp only [if_neg c_28_k11, if_neg c_38_k13] at J15; exact (J15  ()))
      · refine r_aload_n (i := 0) C dX12_needs_41 rfl rfl (by first | rfl | exact isR_rf _) ?_
        refine rm_ref (k := 21) C f_X12_69 dX12_needs_42 rfl rfl hM rfl ?_
        refine r_iload_n (i := 3) C dX12_needs_45 rfl rfl ?_
        refine rm_iald (k := 21) C dX12_needs_46 hM rfl rfl (g14 c_28_k11) ?_
        refine r_goto (tgt := 51) C dX12_needs_47 (by decide) ?_
        first | exact (J15  ()) | (simp only [if_neg c_28_k11, if_pos c_38_k13] at J15; exact (J15  ()))
  refine r_ic_ne (tgt := 18) C dX12_needs_11 (by decide) (fun c_11_k7 => ?_) (fun c_11_k7 => ?_)
  · refine r_iload_n (i := 2) C dX12_needs_18 rfl rfl ?_
    first | exact (J8  ()) | (simp only [if_neg c_11_k7] at J8; exact (J8  ()))
  · refine r_iconst (v := 0) C dX12_needs_14 (by decide) ?_
    refine r_goto (tgt := 19) C dX12_needs_15 (by decide) ?_
    first | exact (J8  ()) | (simp only [if_pos c_11_k7] at J8; exact (J8  ()))

